section
variable {p : Program} {l : Launch} {e : Env} {s : State} {m : MethodId} {args : Array Value} {below : List Frame} {meth : Method} {c : Code} {D : va_G} {cy : Nat → ClassId} {b : Nat} {A : Nat → Prop} {fl : Bool}
theorem M12_init (l : Launch) (D : va_G) (cy : Nat → ClassId) (b : Nat) (A : Nat → Prop) (hAn : ∀ q, b ≤ q → A q) {h : PH} {a0 : Nat} {out : PH} (f : F12_init h a0 = some out) : Met l yX12_init vX12_init ({ frames := 2, cells := 42, slots := 2327, locals := 43 } : Room) (va_Pc [.ref (b + a0)] (ph_B D cy b A true h)) (va_Qv (fun (u : PH) => u = out) (ph_B D cy b A true) A) 42 2327 A :=
  o_met (by decide) rfl (Nat.le_of_ble_eq_true rfl) rfl (fun p e s m below meth c S hr hlo hnm ls hl I => T12_init_0 S hr hlo hnm hAn ((gd f).2) I (lv_sub hl [0] rfl))
end
/-! What both sides say to each call but look, over the pure heaps. -/
def LRl (hx hm : PH) : Prop := OKX hx ∧ OKM hm ∧ Rel (rd hx) (rd hm)
theorem r3_le (v : Int32) : v.toInt ≤ 2147483647 := by have := (r3_of v).2; omega
theorem p_feed {hx hm : PH} (L : LRl hx hm) (x1 : Int32) (x2 : Int32) (x3 : Int32) (x4 : Int32) (x5 : Int32) : ∃ (a : Int32) (hx' hm' : PH), F11_feed hx 0 x1 x2 x3 x4 x5 = some (a, hx') ∧ F12_feed hm 0 x1 x2 x3 x4 x5 = some (a, hm') ∧ LRl hx' hm' := by
  obtain ⟨a, m', v', e1, e2, R⟩ := a_feed L.2.2 x1.toInt x2.toInt x3.toInt x4.toInt x5.toInt
  obtain ⟨hx', f1, o1, r1, _⟩ := S11_feed L.1 (z3_of x1) (r3_of x1) (z3_of x2) (r3_of x2) (z3_of x3) (r3_of x3) (z3_of x4) (r3_of x4) (z3_of x5) (r3_of x5) _ e1
  obtain ⟨hm', f2, o2, r2, _⟩ := S12_feed L.2.1 (z3_of x1) (r3_of x1) (z3_of x2) (r3_of x2) (z3_of x3) (r3_of x3) (z3_of x4) (r3_of x4) (z3_of x5) (r3_of x5) _ e2
  exact ⟨_, hx', hm', f1, f2, o1, o2, by rw [r1, r2]; exact R⟩
theorem p_text {hx hm : PH} (L : LRl hx hm) (x1 : Int32) : ∃ (a : Int32) (hx' hm' : PH), F11_text hx 0 x1 = some (a, hx') ∧ F12_text hm 0 x1 = some (a, hm') ∧ LRl hx' hm' := by
  obtain ⟨a, m', v', e1, e2, R⟩ := a_text L.2.2 x1.toInt
  obtain ⟨hx', f1, o1, r1, _⟩ := S11_text L.1 (z3_of x1) (r3_of x1) _ e1
  obtain ⟨hm', f2, o2, r2, _⟩ := S12_text L.2.1 (z3_of x1) (r3_of x1) _ e2
  exact ⟨_, hx', hm', f1, f2, o1, o2, by rw [r1, r2]; exact R⟩
theorem p_fault {hx hm : PH} (L : LRl hx hm) (x1 : Int32) : ∃ (a : Int32) (hx' hm' : PH), F11_fault hx 0 x1 = some (a, hx') ∧ F12_fault hm 0 x1 = some (a, hm') ∧ LRl hx' hm' := by
  obtain ⟨a, m', v', e1, e2, R⟩ := a_fault L.2.2 x1.toInt
  obtain ⟨hx', f1, o1, r1, _⟩ := S11_fault L.1 (z3_of x1) (r3_of x1) _ e1
  obtain ⟨hm', f2, o2, r2, _⟩ := S12_fault L.2.1 (z3_of x1) (r3_of x1) _ e2
  exact ⟨_, hx', hm', f1, f2, o1, o2, by rw [r1, r2]; exact R⟩
theorem p_named {hx hm : PH} (L : LRl hx hm) (x1 : Int32) : ∃ (a : Int32) (hx' hm' : PH), F11_named hx 0 x1 = some (a, hx') ∧ F12_named hm 0 x1 = some (a, hm') ∧ LRl hx' hm' := by
  obtain ⟨a, m', v', e1, e2, R⟩ := a_named L.2.2 x1.toInt
  obtain ⟨hx', f1, o1, r1, _⟩ := S11_named L.1 (z3_of x1) (r3_of x1) _ e1
  obtain ⟨hm', f2, o2, r2, _⟩ := S12_named L.2.1 (z3_of x1) (r3_of x1) _ e2
  exact ⟨_, hx', hm', f1, f2, o1, o2, by rw [r1, r2]; exact R⟩
theorem p_wave {hx hm : PH} (L : LRl hx hm) (x1 : Int32) (x2 : Int32) : ∃ (a : Int32) (hx' hm' : PH), F11_wave hx 0 x1 x2 = some (a, hx') ∧ F12_wave hm 0 x1 x2 = some (a, hm') ∧ LRl hx' hm' := by
  obtain ⟨a, m', v', e1, e2, R⟩ := a_wave L.2.2 x1.toInt x2.toInt
  obtain ⟨hx', f1, o1, r1, _⟩ := S11_wave L.1 (z3_of x1) (r3_of x1) (z3_of x2) (r3_of x2) _ e1
  obtain ⟨hm', f2, o2, r2, _⟩ := S12_wave L.2.1 (z3_of x1) (r3_of x1) (z3_of x2) (r3_of x2) _ e2
  exact ⟨_, hx', hm', f1, f2, o1, o2, by rw [r1, r2]; exact R⟩
theorem p_peak {hx hm : PH} (L : LRl hx hm) (x1 : Int32) : ∃ (a : Int32) (hx' hm' : PH), F11_peak hx 0 x1 = some (a, hx') ∧ F12_peak hm 0 x1 = some (a, hm') ∧ LRl hx' hm' := by
  obtain ⟨a, m', v', e1, e2, R⟩ := a_peak L.2.2 x1.toInt
  obtain ⟨hx', f1, o1, r1, _⟩ := S11_peak L.1 (z3_of x1) (r3_of x1) _ e1
  obtain ⟨hm', f2, o2, r2, _⟩ := S12_peak L.2.1 (z3_of x1) (r3_of x1) _ e2
  exact ⟨_, hx', hm', f1, f2, o1, o2, by rw [r1, r2]; exact R⟩
theorem p_odds {hx hm : PH} (L : LRl hx hm) (x1 : Int32) (x2 : Int32) (x3 : Int32) : ∃ (a : Int32) (hx' hm' : PH), F11_odds hx 0 x1 x2 x3 = some (a, hx') ∧ F12_odds hm 0 x1 x2 x3 = some (a, hm') ∧ LRl hx' hm' := by
  obtain ⟨a, m', v', e1, e2, R⟩ := a_odds L.2.2 x1.toInt x2.toInt x3.toInt
  obtain ⟨hx', f1, o1, r1, _⟩ := S11_odds L.1 (z3_of x1) (r3_of x1) (z3_of x2) (r3_of x2) (z3_of x3) (r3_of x3) _ e1
  obtain ⟨hm', f2, o2, r2, _⟩ := S12_odds L.2.1 (z3_of x1) (r3_of x1) (z3_of x2) (r3_of x2) (z3_of x3) (r3_of x3) _ e2
  exact ⟨_, hx', hm', f1, f2, o1, o2, by rw [r1, r2]; exact R⟩
theorem p_law {hx hm : PH} (L : LRl hx hm) (x1 : Int32) (x2 : Int32) (x3 : Int32) : ∃ (a : Int64) (hx' hm' : PH), F11_law hx 0 x1 x2 x3 = some (a, hx') ∧ F12_law hm 0 x1 x2 x3 = some (a, hm') ∧ LRl hx' hm' := by
  obtain ⟨a, m', v', e1, e2, R⟩ := a_law L.2.2 x1.toInt x2.toInt x3.toInt
  obtain ⟨hx', f1, o1, r1, _⟩ := S11_law L.1 (z3_of x1) (r3_of x1) (z3_of x2) (r3_of x2) (z3_of x3) (r3_of x3) _ e1
  obtain ⟨hm', f2, o2, r2, _⟩ := S12_law L.2.1 (z3_of x1) (r3_of x1) (z3_of x2) (r3_of x2) (z3_of x3) (r3_of x3) _ e2
  exact ⟨_, hx', hm', f1, f2, o1, o2, by rw [r1, r2]; exact R⟩
theorem p_stroke {hx hm : PH} (L : LRl hx hm) (x1 : Int32) (x2 : Int32) : ∃ (a : Int32) (hx' hm' : PH), F11_stroke hx 0 x1 x2 = some (a, hx') ∧ F12_stroke hm 0 x1 x2 = some (a, hm') ∧ LRl hx' hm' := by
  obtain ⟨a, m', v', e1, e2, R⟩ := a_stroke L.2.2 x1.toInt x2.toInt
  obtain ⟨hx', f1, o1, r1, _⟩ := S11_stroke L.1 (z3_of x1) (r3_of x1) (z3_of x2) (r3_of x2) _ e1
  obtain ⟨hm', f2, o2, r2, _⟩ := S12_stroke L.2.1 (z3_of x1) (r3_of x1) (z3_of x2) (r3_of x2) _ e2
  exact ⟨_, hx', hm', f1, f2, o1, o2, by rw [r1, r2]; exact R⟩
theorem p_rule {hx hm : PH} (L : LRl hx hm) (x1 : Int32) : ∃ (a : Int32) (hx' hm' : PH), F11_rule hx 0 x1 = some (a, hx') ∧ F12_rule hm 0 x1 = some (a, hm') ∧ LRl hx' hm' := by
  obtain ⟨a, m', v', e1, e2, R⟩ := a_rule L.2.2 x1.toInt
  obtain ⟨hx', f1, o1, r1, _⟩ := S11_rule L.1 (z3_of x1) (r3_of x1) _ e1
  obtain ⟨hm', f2, o2, r2, _⟩ := S12_rule L.2.1 (z3_of x1) (r3_of x1) _ e2
  exact ⟨_, hx', hm', f1, f2, o1, o2, by rw [r1, r2]; exact R⟩
theorem p_minutes {hx hm : PH} (L : LRl hx hm) (x1 : Int32) : ∃ (a : Int32) (hx' hm' : PH), F11_minutes hx 0 x1 = some (a, hx') ∧ F12_minutes hm 0 x1 = some (a, hm') ∧ LRl hx' hm' := by
  obtain ⟨a, m', v', e1, e2, R⟩ := a_minutes L.2.2 x1.toInt
  obtain ⟨hx', f1, o1, r1, _⟩ := S11_minutes L.1 (z3_of x1) (r3_of x1) _ e1
  obtain ⟨hm', f2, o2, r2, _⟩ := S12_minutes L.2.1 (z3_of x1) (r3_of x1) _ e2
  exact ⟨_, hx', hm', f1, f2, o1, o2, by rw [r1, r2]; exact R⟩
theorem p_order {hx hm : PH} (L : LRl hx hm) (x1 : Int32) (x2 : Int32) : ∃ (a : Int32) (hx' hm' : PH), F11_order hx 0 x1 x2 = some (a, hx') ∧ F12_order hm 0 x1 x2 = some (a, hm') ∧ LRl hx' hm' := by
  obtain ⟨a, m', v', e1, e2, R⟩ := a_order L.2.2 x1.toInt x2.toInt
  obtain ⟨hx', f1, o1, r1, _⟩ := S11_order L.1 (z3_of x1) (r3_of x1) (z3_of x2) (r3_of x2) _ e1
  obtain ⟨hm', f2, o2, r2, _⟩ := S12_order L.2.1 (z3_of x1) (r3_of x1) (z3_of x2) (r3_of x2) _ e2
  exact ⟨_, hx', hm', f1, f2, o1, o2, by rw [r1, r2]; exact R⟩
theorem p_deeper {hx hm : PH} (L : LRl hx hm) (x1 : Int32) (x2 : Int32) : ∃ (a : Int32) (hx' hm' : PH), F11_deeper hx 0 x1 x2 = some (a, hx') ∧ F12_deeper hm 0 x1 x2 = some (a, hm') ∧ LRl hx' hm' := by
  obtain ⟨a, m', v', e1, e2, R⟩ := a_deeper L.2.2 x1.toInt x2.toInt
  obtain ⟨hx', f1, o1, r1, _⟩ := S11_deeper L.1 (z3_of x1) (r3_of x1) (z3_of x2) (r3_of x2) _ e1
  obtain ⟨hm', f2, o2, r2, _⟩ := S12_deeper L.2.1 (z3_of x1) (r3_of x1) (z3_of x2) (r3_of x2) _ e2
  exact ⟨_, hx', hm', f1, f2, o1, o2, by rw [r1, r2]; exact R⟩
theorem p_seat {hx hm : PH} (L : LRl hx hm) (x1 : Int32) (x2 : Int32) : ∃ (a : Int32) (hx' hm' : PH), F11_seat hx 0 x1 x2 = some (a, hx') ∧ F12_seat hm 0 x1 x2 = some (a, hm') ∧ LRl hx' hm' := by
  obtain ⟨a, m', v', e1, e2, R⟩ := a_seat L.2.2 x1.toInt x2.toInt
  obtain ⟨hx', f1, o1, r1, _⟩ := S11_seat L.1 (z3_of x1) (r3_of x1) (z3_of x2) (r3_of x2) _ e1
  obtain ⟨hm', f2, o2, r2, _⟩ := S12_seat L.2.1 (z3_of x1) (r3_of x1) (z3_of x2) (r3_of x2) _ e2
  exact ⟨_, hx', hm', f1, f2, o1, o2, by rw [r1, r2]; exact R⟩
theorem p_best {hx hm : PH} (L : LRl hx hm) (x1 : Int32) : ∃ (a : Int32) (hx' hm' : PH), F11_best hx 0 x1 = some (a, hx') ∧ F12_best hm 0 x1 = some (a, hm') ∧ LRl hx' hm' := by
  obtain ⟨a, m', v', e1, e2, R⟩ := a_best L.2.2 x1.toInt
  obtain ⟨hx', f1, o1, r1, _⟩ := S11_best L.1 (z3_of x1) (r3_of x1) _ e1
  obtain ⟨hm', f2, o2, r2, _⟩ := S12_best L.2.1 (z3_of x1) (r3_of x1) _ e2
  exact ⟨_, hx', hm', f1, f2, o1, o2, by rw [r1, r2]; exact R⟩
theorem p_rests {hx hm : PH} (L : LRl hx hm) (x1 : Int32) (x2 : Int32) : ∃ (a : Int32) (hx' hm' : PH), F11_rests hx 0 x1 x2 = some (a, hx') ∧ F12_rests hm 0 x1 x2 = some (a, hm') ∧ LRl hx' hm' := by
  obtain ⟨a, m', v', e1, e2, R⟩ := a_rests L.2.2 x1.toInt x2.toInt
  obtain ⟨hx', f1, o1, r1, _⟩ := S11_rests L.1 (z3_of x1) (r3_of x1) (z3_of x2) (r3_of x2) _ e1
  obtain ⟨hm', f2, o2, r2, _⟩ := S12_rests L.2.1 (z3_of x1) (r3_of x1) (z3_of x2) (r3_of x2) _ e2
  exact ⟨_, hx', hm', f1, f2, o1, o2, by rw [r1, r2]; exact R⟩
theorem p_rest {hx hm : PH} (L : LRl hx hm) (x1 : Int32) (x2 : Int32) (x3 : Int32) : ∃ (a : Int32) (hx' hm' : PH), F11_rest hx 0 x1 x2 x3 = some (a, hx') ∧ F12_rest hm 0 x1 x2 x3 = some (a, hm') ∧ LRl hx' hm' := by
  obtain ⟨a, m', v', e1, e2, R⟩ := a_rest L.2.2 x1.toInt x2.toInt x3.toInt (r3_le x3)
  obtain ⟨hx', f1, o1, r1, _⟩ := S11_rest L.1 (z3_of x1) (r3_of x1) (z3_of x2) (r3_of x2) (z3_of x3) (r3_of x3) _ e1
  obtain ⟨hm', f2, o2, r2, _⟩ := S12_rest L.2.1 (z3_of x1) (r3_of x1) (z3_of x2) (r3_of x2) (z3_of x3) (r3_of x3) _ e2
  exact ⟨_, hx', hm', f1, f2, o1, o2, by rw [r1, r2]; exact R⟩
theorem p_rank {hx hm : PH} (L : LRl hx hm) (x1 : Int32) (x2 : Int32) : ∃ (a : Int32) (hx' hm' : PH), F11_rank hx 0 x1 x2 = some (a, hx') ∧ F12_rank_ hm 0 x1 x2 = some (a, hm') ∧ LRl hx' hm' := by
  obtain ⟨a, m', v', e1, e2, R⟩ := a_rank L.2.2 x1.toInt x2.toInt
  obtain ⟨hx', f1, o1, r1, _⟩ := S11_rank L.1 (z3_of x1) (r3_of x1) (z3_of x2) (r3_of x2) _ e1
  obtain ⟨hm', f2, o2, r2, _⟩ := S12_rank_ L.2.1 (z3_of x1) (r3_of x1) (z3_of x2) (r3_of x2) _ e2
  exact ⟨_, hx', hm', f1, f2, o1, o2, by rw [r1, r2]; exact R⟩
theorem p_plan {hx hm : PH} (L : LRl hx hm) (x1 : Int32) : ∃ (a : Int32) (hx' hm' : PH), F11_plan hx 0 x1 = some (a, hx') ∧ F12_plan hm 0 x1 = some (a, hm') ∧ LRl hx' hm' := by
  obtain ⟨a, m', v', e1, e2, R⟩ := a_plan L.2.2 x1.toInt
  obtain ⟨hx', f1, o1, r1, _⟩ := S11_plan L.1 (z3_of x1) (r3_of x1) _ e1
  obtain ⟨hm', f2, o2, r2, _⟩ := S12_plan L.2.1 (z3_of x1) (r3_of x1) _ e2
  exact ⟨_, hx', hm', f1, f2, o1, o2, by rw [r1, r2]; exact R⟩
theorem p_planned {hx hm : PH} (L : LRl hx hm) (x1 : Int32) (x2 : Int32) : ∃ (a : Int32) (hx' hm' : PH), F11_planned hx 0 x1 x2 = some (a, hx') ∧ F12_planned hm 0 x1 x2 = some (a, hm') ∧ LRl hx' hm' := by
  obtain ⟨a, m', v', e1, e2, R⟩ := a_planned L.2.2 x1.toInt x2.toInt (r3_le x2)
  obtain ⟨hx', f1, o1, r1, _⟩ := S11_planned L.1 (z3_of x1) (r3_of x1) (z3_of x2) (r3_of x2) _ e1
  obtain ⟨hm', f2, o2, r2, _⟩ := S12_planned L.2.1 (z3_of x1) (r3_of x1) (z3_of x2) (r3_of x2) _ e2
  exact ⟨_, hx', hm', f1, f2, o1, o2, by rw [r1, r2]; exact R⟩
theorem p_go {hx hm : PH} (L : LRl hx hm) (x1 : Int32) (x2 : Int32) (x3 : Int32) : ∃ (a b : Int32) (hx' hm' : PH), F11_go hx 0 x1 x2 x3 = some (a, hx') ∧ F12_go hm 0 x1 x2 x3 = some (b, hm') ∧ LRl hx' hm' := by
  obtain ⟨a, b, m', v', e1, e2, R⟩ := t_go L.2.2 x1.toInt x2.toInt x3.toInt
  obtain ⟨hx', f1, o1, r1, _⟩ := S11_go L.1 (z3_of x1) (r3_of x1) (z3_of x2) (r3_of x2) (z3_of x3) (r3_of x3) _ e1
  obtain ⟨hm', f2, o2, r2, _⟩ := S12_go L.2.1 (z3_of x1) (r3_of x1) (z3_of x2) (r3_of x2) (z3_of x3) (r3_of x3) _ e2
  exact ⟨_, _, hx', hm', f1, f2, o1, o2, by rw [r1, r2]; exact R⟩
theorem p_give {hx hm : PH} (L : LRl hx hm) (x1 : Int32) (x2 : Int32) (x3 : Int32) : ∃ (a : Int32) (hx' hm' : PH), F11_give hx 0 x1 x2 x3 = some (a, hx') ∧ F12_give hm 0 x1 x2 x3 = some (a, hm') ∧ LRl hx' hm' := by
  obtain ⟨a, m', v', e1, e2, R⟩ := a_give L.2.2 x1.toInt x2.toInt x3.toInt
  obtain ⟨hx', f1, o1, r1, _⟩ := S11_give L.1 (z3_of x1) (r3_of x1) (z3_of x2) (r3_of x2) (z3_of x3) (r3_of x3) _ e1
  obtain ⟨hm', f2, o2, r2, _⟩ := S12_give L.2.1 (z3_of x1) (r3_of x1) (z3_of x2) (r3_of x2) (z3_of x3) (r3_of x3) _ e2
  exact ⟨_, hx', hm', f1, f2, o1, o2, by rw [r1, r2]; exact R⟩
theorem p_table {hx hm : PH} (L : LRl hx hm) (x1 : Int32) (x2 : Int32) (x3 : Int32) : ∃ (a : Int32) (hx' hm' : PH), F11_table hx 0 x1 x2 x3 = some (a, hx') ∧ F12_table hm 0 x1 x2 x3 = some (a, hm') ∧ LRl hx' hm' := by
  obtain ⟨a, m', v', e1, e2, R⟩ := a_table L.2.2 x1.toInt x2.toInt x3.toInt (r3_le x2)
  obtain ⟨hx', f1, o1, r1, _⟩ := S11_table L.1 (z3_of x1) (r3_of x1) (z3_of x2) (r3_of x2) (z3_of x3) (r3_of x3) _ e1
  obtain ⟨hm', f2, o2, r2, _⟩ := S12_table L.2.1 (z3_of x1) (r3_of x1) (z3_of x2) (r3_of x2) (z3_of x3) (r3_of x3) _ e2
  exact ⟨_, hx', hm', f1, f2, o1, o2, by rw [r1, r2]; exact R⟩
theorem p_fairest {hx hm : PH} (L : LRl hx hm) (x1 : Int32) : ∃ (a : Int32) (hx' hm' : PH), F11_fairest hx 0 x1 = some (a, hx') ∧ F12_fairest hm 0 x1 = some (a, hm') ∧ LRl hx' hm' := by
  obtain ⟨a, m', v', e1, e2, R⟩ := a_fairest L.2.2 x1.toInt (r3_le x1)
  obtain ⟨hx', f1, o1, r1, _⟩ := S11_fairest L.1 (z3_of x1) (r3_of x1) _ e1
  obtain ⟨hm', f2, o2, r2, _⟩ := S12_fairest L.2.1 (z3_of x1) (r3_of x1) _ e2
  exact ⟨_, hx', hm', f1, f2, o1, o2, by rw [r1, r2]; exact R⟩
theorem p_over {hx hm : PH} (L : LRl hx hm) (x1 : Int32) : ∃ (a : Int32) (hx' hm' : PH), F11_over hx 0 x1 = some (a, hx') ∧ F12_over hm 0 x1 = some (a, hm') ∧ LRl hx' hm' := by
  obtain ⟨a, m', v', e1, e2, R⟩ := a_over L.2.2 x1.toInt
  obtain ⟨hx', f1, o1, r1, _⟩ := S11_over L.1 (z3_of x1) (r3_of x1) _ e1
  obtain ⟨hm', f2, o2, r2, _⟩ := S12_over L.2.1 (z3_of x1) (r3_of x1) _ e2
  exact ⟨_, hx', hm', f1, f2, o1, o2, by rw [r1, r2]; exact R⟩
theorem p_next {hx hm : PH} (L : LRl hx hm)  : ∃ (a : Int32) (hx' hm' : PH), F11_next hx 0 = some (a, hx') ∧ F12_next hm 0 = some (a, hm') ∧ LRl hx' hm' := by
  obtain ⟨a, m', v', e1, e2, R⟩ := a_next L.2.2 
  obtain ⟨hx', f1, o1, r1, _⟩ := S11_next L.1  _ e1
  obtain ⟨hm', f2, o2, r2, _⟩ := S12_next L.2.1  _ e2
  exact ⟨_, hx', hm', f1, f2, o1, o2, by rw [r1, r2]; exact R⟩
theorem p_gaps {hx hm : PH} (L : LRl hx hm) (x1 : Int32) (x2 : Int32) : ∃ (a : Int32) (hx' hm' : PH), F11_gaps hx 0 x1 x2 = some (a, hx') ∧ F12_gaps hm 0 x1 x2 = some (a, hm') ∧ LRl hx' hm' := by
  obtain ⟨a, m', v', e1, e2, R⟩ := a_gaps L.2.2 x1.toInt x2.toInt
  obtain ⟨hx', f1, o1, r1, _⟩ := S11_gaps L.1 (z3_of x1) (r3_of x1) (z3_of x2) (r3_of x2) _ e1
  obtain ⟨hm', f2, o2, r2, _⟩ := S12_gaps L.2.1 (z3_of x1) (r3_of x1) (z3_of x2) (r3_of x2) _ e2
  exact ⟨_, hx', hm', f1, f2, o1, o2, by rw [r1, r2]; exact R⟩
theorem p_shares {hx hm : PH} (L : LRl hx hm) (x1 : Int32) : ∃ (a : Int32) (hx' hm' : PH), F11_shares hx 0 x1 = some (a, hx') ∧ F12_shares hm 0 x1 = some (a, hm') ∧ LRl hx' hm' := by
  obtain ⟨a, m', v', e1, e2, R⟩ := a_shares L.2.2 x1.toInt
  obtain ⟨hx', f1, o1, r1, _⟩ := S11_shares L.1 (z3_of x1) (r3_of x1) _ e1
  obtain ⟨hm', f2, o2, r2, _⟩ := S12_shares L.2.1 (z3_of x1) (r3_of x1) _ e2
  exact ⟨_, hx', hm', f1, f2, o1, o2, by rw [r1, r2]; exact R⟩
theorem p_note {hx hm : PH} (L : LRl hx hm) (x1 : Int32) (x2 : Int32) (x3 : Int32) : ∃ (a : Int32) (hx' hm' : PH), F11_note hx 0 x1 x2 x3 = some (a, hx') ∧ F12_note hm 0 x1 x2 x3 = some (a, hm') ∧ LRl hx' hm' := by
  obtain ⟨a, m', v', e1, e2, R⟩ := a_note L.2.2 x1.toInt x2.toInt x3.toInt
  obtain ⟨hx', f1, o1, r1, _⟩ := S11_note L.1 (z3_of x1) (r3_of x1) (z3_of x2) (r3_of x2) (z3_of x3) (r3_of x3) _ e1
  obtain ⟨hm', f2, o2, r2, _⟩ := S12_note L.2.1 (z3_of x1) (r3_of x1) (z3_of x2) (r3_of x2) (z3_of x3) (r3_of x3) _ e2
  exact ⟨_, hx', hm', f1, f2, o1, o2, by rw [r1, r2]; exact R⟩
theorem p_strike {hx hm : PH} (L : LRl hx hm) (x1 : Int32) : ∃ (a : Int32) (hx' hm' : PH), F11_strike hx 0 x1 = some (a, hx') ∧ F12_strike hm 0 x1 = some (a, hm') ∧ LRl hx' hm' := by
  obtain ⟨a, m', v', e1, e2, R⟩ := a_strike L.2.2 x1.toInt
  obtain ⟨hx', f1, o1, r1, _⟩ := S11_strike L.1 (z3_of x1) (r3_of x1) _ e1
  obtain ⟨hm', f2, o2, r2, _⟩ := S12_strike L.2.1 (z3_of x1) (r3_of x1) _ e2
  exact ⟨_, hx', hm', f1, f2, o1, o2, by rw [r1, r2]; exact R⟩
theorem p_known {hx hm : PH} (L : LRl hx hm) (x1 : Int32) : ∃ (a : Int32) (hx' hm' : PH), F11_known hx 0 x1 = some (a, hx') ∧ F12_known hm 0 x1 = some (a, hm') ∧ LRl hx' hm' := by
  obtain ⟨a, m', v', e1, e2, R⟩ := a_known L.2.2 x1.toInt
  obtain ⟨hx', f1, o1, r1, _⟩ := S11_known L.1 (z3_of x1) (r3_of x1) _ e1
  obtain ⟨hm', f2, o2, r2, _⟩ := S12_known L.2.1 (z3_of x1) (r3_of x1) _ e2
  exact ⟨_, hx', hm', f1, f2, o1, o2, by rw [r1, r2]; exact R⟩
theorem p_locals {hx hm : PH} (L : LRl hx hm) (x1 : Int32) : ∃ (a : Int32) (hx' hm' : PH), F11_locals hx 0 x1 = some (a, hx') ∧ F12_locals hm 0 x1 = some (a, hm') ∧ LRl hx' hm' := by
  obtain ⟨a, m', v', e1, e2, R⟩ := a_locals L.2.2 x1.toInt
  obtain ⟨hx', f1, o1, r1, _⟩ := S11_locals L.1 (z3_of x1) (r3_of x1) _ e1
  obtain ⟨hm', f2, o2, r2, _⟩ := S12_locals L.2.1 (z3_of x1) (r3_of x1) _ e2
  exact ⟨_, hx', hm', f1, f2, o1, o2, by rw [r1, r2]; exact R⟩
theorem p_chance {hx hm : PH} (L : LRl hx hm) (x1 : Int32) (x2 : Int32) (x3 : Int32) : ∃ (a : Int32) (hx' hm' : PH), F11_chance hx 0 x1 x2 x3 = some (a, hx') ∧ F12_chance hm 0 x1 x2 x3 = some (a, hm') ∧ LRl hx' hm' := by
  obtain ⟨a, m', v', e1, e2, R⟩ := a_chance L.2.2 x1.toInt x2.toInt x3.toInt (r3_le x1)
  obtain ⟨hx', f1, o1, r1, _⟩ := S11_chance L.1 (z3_of x1) (r3_of x1) (z3_of x2) (r3_of x2) (z3_of x3) (r3_of x3) _ e1
  obtain ⟨hm', f2, o2, r2, _⟩ := S12_chance L.2.1 (z3_of x1) (r3_of x1) (z3_of x2) (r3_of x2) (z3_of x3) (r3_of x3) _ e2
  exact ⟨_, hx', hm', f1, f2, o1, o2, by rw [r1, r2]; exact R⟩
theorem p_tried {hx hm : PH} (L : LRl hx hm) (x1 : Int32) (x2 : Int32) (x3 : Int32) : ∃ (a : Int32) (hx' hm' : PH), F11_tried hx 0 x1 x2 x3 = some (a, hx') ∧ F12_tried hm 0 x1 x2 x3 = some (a, hm') ∧ LRl hx' hm' := by
  obtain ⟨a, m', v', e1, e2, R⟩ := a_tried L.2.2 x1.toInt x2.toInt x3.toInt (r3_le x3)
  obtain ⟨hx', f1, o1, r1, _⟩ := S11_tried L.1 (z3_of x1) (r3_of x1) (z3_of x2) (r3_of x2) (z3_of x3) (r3_of x3) _ e1
  obtain ⟨hm', f2, o2, r2, _⟩ := S12_tried L.2.1 (z3_of x1) (r3_of x1) (z3_of x2) (r3_of x2) (z3_of x3) (r3_of x3) _ e2
  exact ⟨_, hx', hm', f1, f2, o1, o2, by rw [r1, r2]; exact R⟩
theorem p_undo {hx hm : PH} (L : LRl hx hm)  : ∃ (a : Int32) (hx' hm' : PH), F11_undo hx 0 = some (a, hx') ∧ F12_undo hm 0 = some (a, hm') ∧ LRl hx' hm' := by
  obtain ⟨a, m', v', e1, e2, R⟩ := a_undo L.2.2 
  obtain ⟨hx', f1, o1, r1, _⟩ := S11_undo L.1  _ e1
  obtain ⟨hm', f2, o2, r2, _⟩ := S12_undo L.2.1  _ e2
  exact ⟨_, hx', hm', f1, f2, o1, o2, by rw [r1, r2]; exact R⟩
theorem p_keep {hx hm : PH} (L : LRl hx hm)  : ∃ (a : Int32) (hx' hm' : PH), F11_keep hx 0 = some (a, hx') ∧ F12_keep hm 0 = some (a, hm') ∧ LRl hx' hm' := by
  obtain ⟨a, m', v', e1, e2, R⟩ := a_keep L.2.2 
  obtain ⟨hx', f1, o1, r1, _⟩ := S11_keep L.1  _ e1
  obtain ⟨hm', f2, o2, r2, _⟩ := S12_keep L.2.1  _ e2
  exact ⟨_, hx', hm', f1, f2, o1, o2, by rw [r1, r2]; exact R⟩
theorem p_back {hx hm : PH} (L : LRl hx hm)  : ∃ (a : Int32) (hx' hm' : PH), F11_back hx 0 = some (a, hx') ∧ F12_back hm 0 = some (a, hm') ∧ LRl hx' hm' := by
  obtain ⟨a, m', v', e1, e2, R⟩ := a_back L.2.2 
  obtain ⟨hx', f1, o1, r1, _⟩ := S11_back L.1  _ e1
  obtain ⟨hm', f2, o2, r2, _⟩ := S12_back L.2.1  _ e2
  exact ⟨_, hx', hm', f1, f2, o1, o2, by rw [r1, r2]; exact R⟩
theorem p_count {hx hm : PH} (L : LRl hx hm) (x1 : Int32) : ∃ (a : Int32) (hx' hm' : PH), F11_count hx 0 x1 = some (a, hx') ∧ F12_count hm 0 x1 = some (a, hm') ∧ LRl hx' hm' := by
  obtain ⟨a, m', v', e1, e2, R⟩ := a_count L.2.2 x1.toInt
  obtain ⟨hx', f1, o1, r1, _⟩ := S11_count L.1 (z3_of x1) (r3_of x1) _ e1
  obtain ⟨hm', f2, o2, r2, _⟩ := S12_count L.2.1 (z3_of x1) (r3_of x1) _ e2
  exact ⟨_, hx', hm', f1, f2, o1, o2, by rw [r1, r2]; exact R⟩
theorem lr0 : LRl hxF hmF := ⟨okx0, okm0, rel0⟩
theorem sk_len (h : PH) : (Sk h).length = h.length := by simp [Sk]
