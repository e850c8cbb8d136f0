/-! The law's own rows: two worlds, the class's and the reference's, one behind the other. -/
theorem gV_law {own C : String} {idx n : Nat} {y : MethodName} {cc : ByteArray} {ret : Option FieldType} (h1 : Cond.methodLink own idx y ∈ TB) (h2 : Cond.instanceMethod y ∈ TB) (h3 : Cond.selects C y y ∈ TB) (h4 : Cond.initialized C ∈ TB) (h5 : Cond.code y cc n ret ∈ TB) : GoodIn lw_tbl (wsV own idx C y (.code y cc n ret :: TB)) := by
  intro w hw
  have h := gV_of (c0 := Cond.initialized C) h1 h2 h3 h4 h5 w hw
  refine ⟨?_, h.2⟩
  rcases List.mem_cons.mp h.1 with e | e
  · rw [e]; exact TB_in _ h4
  · exact TB_in w e
theorem gI_law {n : Nat} {y : MethodName} {cc : ByteArray} {ret : Option FieldType} (h5 : Cond.code y cc n ret ∈ TB) : GoodIn lw_tbl (.code y cc n ret :: TB) := by
  intro w hw
  rcases List.mem_cons.mp hw with e | e
  · rw [e]; exact ⟨TB_in _ h5, TB_good _ h5⟩
  · exact ⟨TB_in w e, TB_good w e⟩
theorem ph_X_narrow {cy : Nat → ClassId} {A B : Nat → Prop} {U : State} (h : ph_X cy A U) (hAB : ∀ q, B q → A q) : ph_X cy B U := by
  obtain ⟨h1, ⟨t, h2, h3⟩, ⟨h4, h5⟩, h6, h7, h8, h9, h10, h11, h12⟩ := h
  exact ⟨h1, ⟨t, h2.narrow hAB, h3.narrow hAB⟩, ⟨h4, h5.narrow hAB⟩, h6.narrow hAB, h7.narrow hAB, h8.narrow hAB, h9.narrow hAB, h10, h11, h12⟩
def Aw (b n : Nat) (q : Nat) : Prop := b ≤ q ∧ q < b + n
def A0 (s : State) (q : Nat) : Prop := s.heap.size ≤ q
/-- one world, as the law has it: the machine's facts, and the world's cells -/
def LM (D : va_G) (cy : Nat → ClassId) (bw nw : Nat) (h : PH) (s : State) (H : Heap) (locs : List Loc) : Prop :=
  va_P D ph_cl (ph_w bw cy h) H ∧ va_K D ph_cl (ph_t cy) s ∧ va_S (A0 s) s.heap H locs ∧ (∀ i, i < h.length → i < nw) ∧ ph_X cy (A0 s) s
theorem LM_kept {D : va_G} {cy : Nat → ClassId} {bw nw : Nat} {h : PH} {s : State} {H H1 : Heap} {locs locs1 : List Loc} {A : Nat → Prop} (I : LM D cy bw nw h s H locs) (hA : ∀ i, i < nw → ¬ A (bw + i)) (hk : ∀ q : Nat, q < H.size → ¬ A q → H1[q]? = H[q]?) (hS : va_S (A0 s) s.heap H1 locs1) : LM D cy bw nw h s H1 locs1 := by
  obtain ⟨hP, hK, -, hn, hX⟩ := I
  refine ⟨hP.kept (fun k q hq => ?_), hK, hS, hn, hX⟩
  refine hk q.1 (hP k q hq).lt ?_
  rw [ph_w_at] at hq
  cases hc : h[k]? with
  | none => rw [hc] at hq; cases hq
  | some c =>
    rw [hc] at hq
    have e := Option.some.inj hq
    subst e
    exact hA k (hn k (List.getElem?_eq_some_iff.mp hc).1)
section OL
variable {p : Program} {l : Launch} {e : Env} {R : Room} {s : State} {m : MethodId} {args : Array Value} {below : List Frame} {meth : Method} {c : Code} {H : Heap} {locs : List Loc} {cells slots : Nat} {Q : State → Prop}
variable {cc : ByteArray} {nL pc : Nat} {ls : Array Slot} {rest st0 As : List Value} {D : va_G} {cy : Nat → ClassId} {bw nw : Nat} {fl : Bool} {h h' : PH} {Ts ws ws' : List Cond} {own : String}
variable {y : MethodName} {bytes : ByteArray} {maxL mc ms n index : Nat} {ret : Option FieldType} {rm : Room}
theorem lm_pre {av : List Value} (I : LM D cy bw nw h s H locs) (hb : s.heap.size ≤ bw) (hz : fl = true → H.size = bw + h.length) {A : Nat → Prop} (hA1 : ∀ q, A q → s.heap.size ≤ q) (hA2 : ∀ i, i < nw → A (bw + i)) : ∀ U : State, U.heap = H → s.WarmedH U.vm → va_Pc av (ph_B D cy bw A fl h) av.toArray U := fun U hU hW => ⟨rfl, by rw [hU]; exact I.1, va_K.moved hW.alike I.2.1, fun i hi => hA2 i (I.2.2.2.1 i hi), (fun q => by rw [hU]; exact hz q), ph_X_narrow (ph_X_move I.2.2.2.2 I.2.2.1 hU hW) hA1⟩
theorem l_Vi (S : CallFix p m c cc nL s args Ts own) {ci : Nat} {q : vw_C} {out : Int32 × PH} (hM : Met l y ws rm (va_Pc (.ref (bw + 0) :: As) (ph_B D cy bw (Aw bw nw) false h)) (va_Qi (fun (r : Int32) (u : PH) => (r, u) = out) (ph_B D cy bw (Aw bw nw) false) (Aw bw nw)) mc ms (Aw bw nw)) (hT : GoodIn Ts (wsV own index y.cls y ws)) (hw : ws = Cond.code y bytes maxL ret :: ws') (hrc : rm.cells = mc) (hrs : rm.slots = ms) (hd : Cd y n) (hR : rm.frames + 1 ≤ R.frames ∧ 8 + (maxL + 11) + rm.locals ≤ R.locals) (I : LM D cy bw nw h s H locs) (hb : s.heap.size ≤ bw) (ho : okO h 0 ci = true) (hc : ph_cl[ci]? = some q) (hq : q.1 = y.cls)
    (hn : As.length = n) (hsz : ls.size = nL) (hst : st0 = As.reverse ++ .ref (bw + 0) :: rest) (hW : (rest.map fun v => v.category).sum ≤ 8) (hdg : decode cc pc = .ok (.invokevirtual index, 3)) (hf : cells + mc ≤ R.cells ∧ slots + ms ≤ R.slots)
    (kk : ∀ (H1 : Heap) (locs1 : List Loc), LM D cy bw nw out.2 s H1 locs1 → (∀ q : Nat, q < H.size → ¬ Aw bw nw q → H1[q]? = H[q]?) → W p l e R s m args below meth c H1 locs1 (cells + mc) (slots + ms) Q (F0 m (pc + 3) ls (.int out.1 :: rest))) : W p l e R s m args below meth c H locs cells slots Q (F0 m pc ls st0) := by
  obtain ⟨fs, e1⟩ := okO_spec ho
  have hA1 : ∀ q, Aw bw nw q → s.heap.size ≤ q := fun q z => Nat.le_trans hb z.1
  refine va_calli (A0 := A0 s) (va_runV (As := As) (rest := rest) (b := bw + 0) (C := y.cls) S hM (cwV n S.2.2.2.2 hT hw hrc hrs ⟨rfl, hd⟩ hR) ⟨ph_B_blind D cy bw (Aw bw nw) false h _, by rw [← hq]; exact va_recv I.2.1 I.1 hc (ph_w_get e1), lm_pre (fl := false) I hb (fun z => by cases z) hA1 (fun i hi => ⟨Nat.le_add_right _ _, by omega⟩)⟩ rfl hn hsz hst (lv_room hW) hdg hf) I.2.2.1 (fun q _ h => hA1 q h) (fun q h => hA1 q h) (fun r u t H1 locs1 ht hvm hw hB hz1 hk1 hS => ?_)
  subst hw
  exact kk H1 locs1 ⟨by rw [← ht]; exact hB.1, I.2.1, hS, fun i hi => by have := (hB.2.2.1 i hi).2; omega, I.2.2.2.2⟩ hk1
theorem l_Vl (S : CallFix p m c cc nL s args Ts own) {ci : Nat} {q : vw_C} {out : Int64 × PH} (hM : Met l y ws rm (va_Pc (.ref (bw + 0) :: As) (ph_B D cy bw (Aw bw nw) false h)) (va_Ql (fun (r : Int64) (u : PH) => (r, u) = out) (ph_B D cy bw (Aw bw nw) false) (Aw bw nw)) mc ms (Aw bw nw)) (hT : GoodIn Ts (wsV own index y.cls y ws)) (hw : ws = Cond.code y bytes maxL ret :: ws') (hrc : rm.cells = mc) (hrs : rm.slots = ms) (hd : Cd y n) (hR : rm.frames + 1 ≤ R.frames ∧ 8 + (maxL + 11) + rm.locals ≤ R.locals) (I : LM D cy bw nw h s H locs) (hb : s.heap.size ≤ bw) (ho : okO h 0 ci = true) (hc : ph_cl[ci]? = some q) (hq : q.1 = y.cls)
    (hn : As.length = n) (hsz : ls.size = nL) (hst : st0 = As.reverse ++ .ref (bw + 0) :: rest) (hW : (rest.map fun v => v.category).sum ≤ 8) (hdg : decode cc pc = .ok (.invokevirtual index, 3)) (hf : cells + mc ≤ R.cells ∧ slots + ms ≤ R.slots)
    (kk : ∀ (H1 : Heap) (locs1 : List Loc), LM D cy bw nw out.2 s H1 locs1 → (∀ q : Nat, q < H.size → ¬ Aw bw nw q → H1[q]? = H[q]?) → W p l e R s m args below meth c H1 locs1 (cells + mc) (slots + ms) Q (F0 m (pc + 3) ls (.long out.1 :: rest))) : W p l e R s m args below meth c H locs cells slots Q (F0 m pc ls st0) := by
  obtain ⟨fs, e1⟩ := okO_spec ho
  have hA1 : ∀ q, Aw bw nw q → s.heap.size ≤ q := fun q z => Nat.le_trans hb z.1
  refine va_calll (A0 := A0 s) (va_runV (As := As) (rest := rest) (b := bw + 0) (C := y.cls) S hM (cwV n S.2.2.2.2 hT hw hrc hrs ⟨rfl, hd⟩ hR) ⟨ph_B_blind D cy bw (Aw bw nw) false h _, by rw [← hq]; exact va_recv I.2.1 I.1 hc (ph_w_get e1), lm_pre (fl := false) I hb (fun z => by cases z) hA1 (fun i hi => ⟨Nat.le_add_right _ _, by omega⟩)⟩ rfl hn hsz hst (lv_room hW) hdg hf) I.2.2.1 (fun q _ h => hA1 q h) (fun q h => hA1 q h) (fun r u t H1 locs1 ht hvm hw hB hz1 hk1 hS => ?_)
  subst hw
  exact kk H1 locs1 ⟨by rw [← ht]; exact hB.1, I.2.1, hS, fun i hi => by have := (hB.2.2.1 i hi).2; omega, I.2.2.2.2⟩ hk1
end OL
