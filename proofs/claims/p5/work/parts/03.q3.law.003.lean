section Q34
variable {m v : Mem} {S : Int} {D : Nat}
def LI (m v : Mem) (D a : Nat) (F : Int) (ws : List Int) (L : Nat) : Prop := m 46 10 = (D : Int) ∧ WI m v ws ∧ KN2 m v a F L ∧ (m 46 3 = cBR ws ∧ v 0 48 = cBR ws ∧ cBR ws ≤ 8) ∧ (v 0 49 = m D 13 ∧ m D 13 ≤ 64 ∧ F + L + cNB ws = m D 13) ∧ (m 46 4 = v 0 50 ∧ (v 0 50 = 0 ∨ v 0 50 = 1)) ∧ (m 46 5 = v 0 51 ∧ (v 0 51 = 0 ∨ v 0 51 = 1)) ∧ ((ist (m (a + 1)) L).length : Int) + v 0 50 = cBN ws + 1
def SOut (X Y : Option (Int × Mem)) (m v : Mem) (D a : Nat) (F S : Int) : Prop := ∃ m' v', Fm (PLw D a) m m' ∧ Fm (QLw F) v v' ∧ m 47 3 ≤ m' 47 3 ∧ ((X = some (1, m') ∧ Y = some (1, v') ∧ (∃ ws L, LI m' v' D a F ws L) ∧ PreR m' v' S ∧ m 47 4 ≠ 39) ∨ (X = some (0, m') ∧ Y = some (0, v') ∧ FLT m' v'))
theorem r_sign (v : Mem) (x : Int) : G12_isSign v x = some (if v 0 8 = 4 ∧ v 0 9 = x then 1 else 0, v) := by
  unfold G12_isSign G12_isSign_0
  by_cases c1 : v 0 8 = 4
  · by_cases c2 : v 0 9 = x
    · rw [if_pos c1, if_pos c2, if_pos ⟨c1, c2⟩]
    · rw [if_pos c1, if_neg c2, if_neg (fun q => c2 q.2)]
  · rw [if_neg c1, if_neg (fun q => c1 q.1)]
theorem r_key (v : Mem) (x : Int) : G12_isKey v x = some (if v 0 8 = 1 ∧ v 0 9 = x then 1 else 0, v) := by
  unfold G12_isKey G12_isKey_0
  by_cases c1 : v 0 8 = 1
  · by_cases c2 : v 0 9 = x
    · rw [if_pos c1, if_pos c2, if_pos ⟨c1, c2⟩]
    · rw [if_pos c1, if_neg c2, if_neg (fun q => c2 q.2)]
  · rw [if_neg c1, if_neg (fun q => c1 q.1)]
theorem s_ref {X Y : Option (Int × Mem)} {a : Nat} {F : Int} (h : PostR m v S) (x : Int) (hX : X = some (0, up (up m 46 8 x) 46 9 (m 47 5))) (hY : Y = some (0, up (up v 0 4 x) 0 5 (v 0 10))) : SOut X Y m v D a F S := by
  obtain ⟨q1, q2, q3⟩ := flt m v x (show m 47 5 = v 0 10 from h.2.2.2.2.2.1.symm)
  exact ⟨_, _, q2.mono Pk_l, q3.mono Qk_l, by rw [up_a (by first | decide | omega), up_a (by first | decide | omega)]; first | decide | omega, Or.inr ⟨hX, hY, q1⟩⟩
theorem s_tr {X Y : Option (Int × Mem)} {a : Nat} {F : Int} {m1 v1 : Mem} (h : SOut X Y m1 v1 D a F S) (f : Fm (PLw D a) m m1) (g : Fm (QLw F) v v1) (p : m 47 3 ≤ m1 47 3) (e : m1 47 4 = m 47 4) : SOut X Y m v D a F S := by
  obtain ⟨m', v', f', g', p', k⟩ := h
  refine ⟨m', v', f.tr f', g.tr g', by first | decide | omega, ?_⟩
  rw [e] at k
  exact k
theorem n_cnt (h : PostR m v S) (e10 : m 46 10 = (D : Int)) (h49 : v 0 49 = m D 13 ∧ 0 ≤ m D 13 ∧ m D 13 ≤ 64) : (m D 13 < 64 ∧ G5_countKnot m = some (1, up m D 13 (m D 13 + 1)) ∧ G12_isCounted v = some (1, up v 0 49 (m D 13 + 1))) ∨ (G5_countKnot m = some (0, up (up m 46 8 2) 46 9 (m 47 5)) ∧ G12_isCounted v = some (0, up (up v 0 4 2) 0 5 (v 0 10))) := by
  unfold G5_countKnot G5_countKnot_0 G12_isCounted G12_isCounted_0
  rw [e10, Int.toNat_natCast, h49.1]
  by_cases c : m D 13 < 64
  · rw [if_pos c, if_neg (by first | decide | omega), gd3_t (by first | decide | omega), wt_e, gd3_t (by first | decide | omega), wt_e]
    exact Or.inl ⟨c, rfl, rfl⟩
  · rw [if_neg c, if_pos (by first | decide | omega), c_ref, bs1, gdb_t (by first | decide | omega), r_wrong, bs1, gdb_t (by first | decide | omega)]
    exact Or.inr ⟨rfl, rfl⟩
theorem c_wait {W x : Int} (e : m 46 2 = W) (h : 0 ≤ W ∧ W < 72) : G5_letWait m x = some (1, up (up m 50 W x) 46 2 (W + 1)) := by
  unfold G5_letWait G5_letWait_0
  rw [e, if_pos h.2, gdx_t h, wt_e, up_a (by first | decide | omega), e, gd3_t (by first | decide | omega), wt_e]
theorem r_wait {W x : Int} (e : v 0 46 = W) (h : 0 ≤ W ∧ W < 96) : G12_waitsFor v x = some (up (up v 21 W x) 0 46 (W + 1)) := by
  unfold G12_waitsFor G12_waitsFor_0
  rw [e, gdx_t h, wt_e, up_a (by first | decide | omega), e, gd3_t (by first | decide | omega), wt_e]
theorem WI.push {ws : List Int} {x : Int} (h : WI m v ws) (hx : wOk x) : WI (up (up m 50 ws.length x) 46 2 (ws.length + 1)) (up (up v 21 ws.length (wCm x)) 0 46 (ws.length + 1)) (x :: ws) := by
  obtain ⟨h1, h2, h3, h4, h5⟩ := h
  refine ⟨by rw [up_e]; simp, by rw [up_e]; simp, ⟨?_, stk_up h3 (fun j a b => ?_)⟩, ⟨?_, stk_up h4 (fun j a b => ?_)⟩, ?_⟩
  · rw [up_a (by first | decide | omega), up_e]
  · rw [up_a (by first | decide | omega), up_i (by first | decide | omega)]
  · rw [List.length_map, up_a (by first | decide | omega), up_e]
  · rw [List.length_map] at b
    rw [up_a (by first | decide | omega), up_i (by first | decide | omega)]
  · intro y hy
    rcases List.mem_cons.mp hy with q | q
    · rw [q]; exact hx
    · exact h5 y q
theorem WI.f {m' v' : Mem} {ws : List Int} (h : WI m v ws) (e1 : m' 46 2 = m 46 2) (e2 : v' 0 46 = v 0 46) (e3 : m' 50 = m 50) (e4 : v' 21 = v 21) : WI m' v' ws := by
  unfold WI
  rw [e1, e2, e3, e4]
  exact h
/-- what stays of the law's state -/
theorem LI.f {m' v' : Mem} {a : Nat} {F : Int} {ws : List Int} {L : Nat} {P Q : Nat → Int → Prop} (h : LI m v D a F ws L) (f : Fm P m m') (g : Fm Q v v') (hp : ∀ b i, (b = 46 ∧ (i = 10 ∨ (2 ≤ i ∧ i ≤ 5))) ∨ b = 50 ∨ b = a ∨ b = a + 1 ∨ (b = D ∧ i = 13) → ¬ P b i) (hq : ∀ b i, (b = 0 ∧ (i = 23 ∨ (46 ≤ i ∧ i ≤ 51))) ∨ (18 ≤ b ∧ b ≤ 22) → ¬ Q b i) : LI m' v' D a F ws L := by
  obtain ⟨h1, h2, h3, h4, h5, h6, h7, h8⟩ := h
  have r : ∀ b : Nat, b = 50 ∨ b = a + 1 → m' b = m b := fun b z => f.rw1 (fun i => hp b i (by first | decide | omega))
  have s : ∀ b : Nat, 18 ≤ b → b ≤ 22 → v' b = v b := fun b z1 z2 => g.rw1 (fun i => hq b i (by first | decide | omega))
  unfold LI
  rw [f 46 10 (hp _ _ (by first | decide | omega)), f 46 3 (hp _ _ (by first | decide | omega)), f 46 4 (hp _ _ (by first | decide | omega)), f 46 5 (hp _ _ (by first | decide | omega)), f D 13 (hp _ _ (by first | decide | omega)), r (a + 1) (by first | decide | omega), g 0 48 (hq _ _ (by first | decide | omega)), g 0 49 (hq _ _ (by first | decide | omega)), g 0 50 (hq _ _ (by first | decide | omega)), g 0 51 (hq _ _ (by first | decide | omega))]
  exact ⟨h1, h2.f (f 46 2 (hp _ _ (by first | decide | omega))) (g 0 46 (hq _ _ (by first | decide | omega))) (r 50 (by first | decide | omega)) (s 21 (by first | decide | omega) (by first | decide | omega)), h3.f (f a 1 (hp _ _ (by first | decide | omega))) (r (a + 1) (by first | decide | omega)) (g 0 23 (hq _ _ (by first | decide | omega))) (g 0 47 (hq _ _ (by first | decide | omega))) (fun b z1 z2 _ => s b z1 z2), h4, h5, h6, h7, h8⟩
theorem LI.k {m' v' : Mem} {a : Nat} {F : Int} {ws : List Int} {L : Nat} (ha : aOk D a) (h : LI m v D a F ws L) (f : Fm Pk m m') (g : Fm Qk v v') : LI m' v' D a F ws L := h.f f g (by intro b i q; unfold aOk at ha; unfold Pk; first | decide | omega) (by intro b i q; unfold Qk; first | decide | omega)
end Q34
