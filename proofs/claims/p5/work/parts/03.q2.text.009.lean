section Q24
variable {m v m' v' : Mem} {S : Int} {D : Nat}
/-- a number is asked for, both hold the token -/
theorem n_tk (h : PostR m v S) {lo hi : Int} (hb : 0 ≤ lo ∧ hi ≤ 99999) : ∃ m' v', Fm Pk m m' ∧ Fm Qk v v' ∧ m' 47 3 = m 47 3 ∧ ((∃ x, lo ≤ x ∧ x ≤ hi ∧ m 47 4 = 25 ∧ G5_takenNumber m lo hi = some (x, m') ∧ G12_number v lo hi = some (1, v') ∧ v' 0 11 = x ∧ PreR m' v' S) ∨ (G5_takenNumber m lo hi = some (-1, m') ∧ G12_number v lo hi = some (0, v') ∧ FLT m' v' ∧ m' 46 8 = (if m 47 4 = 25 then 2 else 1))) := by
  have hk := h.2.2.2.2.2.2.2
  have h10 := h.2.2.2.2.2.1
  have r3 : ∀ x p, up (up m 46 8 x) 46 9 p 47 3 = m 47 3 := fun x p => by rw [up_a (by first | decide | omega), up_a (by first | decide | omega)]
  have r8 : ∀ x p, up (up m 46 8 x) 46 9 p 46 8 = x := fun x p => by rw [up_i (by first | decide | omega), up_e]
  unfold G5_takenNumber G5_takenNumber_0 G5_takenNumber_42 G12_number G12_number_0
  by_cases c : m 47 4 = 25
  · have hN : v 0 8 = 3 ∧ NumR (m 47 6) (v 0 9) := by unfold KR SGN NumR at hk; unfold NumR; omega
    obtain ⟨e8, n1, n2, n3⟩ := hN
    rw [if_pos c, if_pos e8, r_isIn, bs1, if_pos c]
    by_cases c2 : lo ≤ v 0 9 ∧ v 0 9 ≤ hi
    · have e6 : m 47 6 = v 0 9 := by omega
      simp only [if_pos c2, if_neg i10]
      have f1 : Fm Qk v (up v 0 11 (v 0 9)) := Fm.w1 (by unfold Qk; first | decide | omega)
      have h1 : PostR m (up v 0 11 (v 0 9)) S := h.f (P := fun _ _ => False) (Q := fun b i => b = 0 ∧ i = 11) Fm.rf (Fm.w1 ⟨rfl, rfl⟩) (fun _ _ _ => id) (by intro b i q; first | decide | omega)
      obtain ⟨v', z1, z2, z3⟩ := h1.tok
      rw [wt_e, z1, bs1, if_neg (by first | decide | omega), if_pos (by first | decide | omega)]
      refine ⟨m, v', Fm.rf, f1.tr (z2.mono Q7_k), rfl, Or.inl ⟨v 0 9, c2.1, c2.2, c, by rw [e6], rfl, ?_, z3⟩⟩
      rw [z2 0 11 (by unfold Q7; first | decide | omega), up_e]
    · simp only [if_neg c2, if_true]
      have e2 : (if m 47 6 < lo then (G5_refuse m 2).bind fun o1 => some (-1, o1.2) else if m 47 6 ≤ hi then some (m 47 6, m) else (G5_refuse m 2).bind fun o1 => some (-1, o1.2)) = some (-1, up (up m 46 8 2) 46 9 (m 47 5)) := by
        rw [c_ref, bs1]
        by_cases c3 : m 47 6 < lo
        · rw [if_pos c3]
        · rw [if_neg c3, if_neg (by first | decide | omega)]
      rw [e2, r_wrong, bs1, gdb_t (by first | decide | omega)]
      obtain ⟨q1, q2, q3⟩ := flt m v 2 (show m 47 5 = v 0 10 from h10.symm)
      exact ⟨_, _, q2, q3, r3 _ _, Or.inr ⟨rfl, rfl, q1, r8 _ _⟩⟩
  · have e8 : ¬ v 0 8 = 3 := by unfold KR SGN NumR at hk; omega
    rw [if_neg c, if_neg e8, c_ref, bs1, r_wrong, bs1, gdb_t (by first | decide | omega), if_neg c]
    obtain ⟨q1, q2, q3⟩ := flt m v 1 (show m 47 5 = v 0 10 from h10.symm)
    exact ⟨_, _, q2, q3, r3 _ _, Or.inr ⟨rfl, rfl, q1, r8 _ _⟩⟩
/-- a number is asked for, the class has still to read it -/
theorem n_in (h : PreR m v S) {lo hi : Int} (hb : 0 ≤ lo ∧ hi ≤ 99999) : ∃ m' v', Fm Pk m m' ∧ Fm Qk v v' ∧ m 47 3 ≤ m' 47 3 ∧ ((∃ x, lo ≤ x ∧ x ≤ hi ∧ G5_numberIn m lo hi = some (x, m') ∧ G12_number v lo hi = some (1, v') ∧ v' 0 11 = x ∧ PreR m' v' S ∧ m' 47 5 = v 0 10) ∨ (G5_numberIn m lo hi = some (-1, m') ∧ G12_number v lo hi = some (0, v') ∧ FLT m' v')) := by
  obtain ⟨m1, e1, f1, h1, p1, _⟩ := h.adv
  obtain ⟨m', v', f2, f3, p2, k⟩ := n_tk h1 hb
  unfold G5_numberIn G5_numberIn_0
  rw [e1, bs1]
  refine ⟨m', v', (f1.mono P47_k).tr f2, f3, by first | decide | omega, ?_⟩
  rcases k with ⟨x, a1, a2, c, a3, a4, a5, a6⟩ | ⟨a1, a2, a3, _⟩
  · rw [a3, bs1]
    refine Or.inl ⟨x, a1, a2, rfl, a4, a5, a6, ?_⟩
    have e3 : m' = m1 := by
      unfold G5_takenNumber G5_takenNumber_0 G5_takenNumber_42 at a3
      rw [if_pos c, c_ref, bs1] at a3
      split at a3
      · injection a3 with a3; injection a3 with a3 _; omega
      · split at a3
        · injection a3 with a3; injection a3 with _ a3; exact a3.symm
        · injection a3 with a3; injection a3 with a3 _; omega
    rw [e3]; exact h1.2.2.2.2.2.1.symm
  · rw [a1, bs1]
    exact Or.inr ⟨rfl, a2, a3⟩
/-- the sign behind a line -/
theorem n_stop (h : PreR m v S) : ∃ m' v', Fm Pk m m' ∧ Fm Qk v v' ∧ m 47 3 ≤ m' 47 3 ∧ ((G5_readStop m = some (1, m') ∧ G12_lineRead_197 v 1 = some (1, v') ∧ PreR m' v' S) ∨ (G5_readStop m = some (0, m') ∧ G12_lineRead_197 v 1 = some (0, v') ∧ FLT m' v')) := by
  obtain ⟨m1, e1, f1, h1, p1, _⟩ := h.adv
  have hk := h1.2.2.2.2.2.2.2
  unfold G5_readStop G5_readStop_0 G12_lineRead_197 G12_isSign G12_isSign_0
  rw [e1, bs1, if_neg i10]
  by_cases c : m1 47 4 = 38
  · have e8 : v 0 8 = 4 ∧ v 0 9 = 59 := by unfold KR SGN NumR at hk; omega
    rw [if_pos c, if_pos e8.1, if_pos e8.2, bs1]
    simp only [if_neg i10]
    obtain ⟨v', z1, z2, z3⟩ := h1.tok
    rw [z1, bs1]
    exact ⟨m1, v', f1.mono P47_k, z2.mono Q7_k, by first | decide | omega, Or.inl ⟨rfl, rfl, z3⟩⟩
  · have e8 : (if v 0 8 = 4 then if v 0 9 = 59 then some ((1 : Int), v) else some (0, v) else some (0, v)) = some (0, v) := by
      by_cases a : v 0 8 = 4
      · have : ¬ v 0 9 = 59 := by unfold KR SGN NumR at hk; omega
        rw [if_pos a, if_neg this]
      · rw [if_neg a]
    rw [if_neg c, e8, bs1]
    simp only [if_true]
    rw [c_ref, bs1, r_wrong, bs1, gdb_t (by first | decide | omega)]
    simp only [if_true]
    obtain ⟨q1, q2, q3⟩ := flt m1 v 1 (show m1 47 5 = v 0 10 from h1.2.2.2.2.2.1.symm)
    exact ⟨_, _, (f1.mono P47_k).tr q2, q3, by rw [up_a (by first | decide | omega), up_a (by first | decide | omega)]; first | decide | omega, Or.inr ⟨rfl, rfl, q1⟩⟩
/-- where the draft lies -/
def sh (b : Nat) (i : Int) : Int := if b = 0 then i + 6 else if b = 4 then 7 + i else if b ≤ 10 then 5 + i else if b = 11 then 4 + i else if b ≤ 14 then 28 + i else if b ≤ 17 then 3 + i else if b ≤ 20 then 64 + i else i
def kd (v : Mem) : Mem := fun b i => v b (sh b i)
theorem kd_f {Q : Nat → Int → Prop} (f : Fm Q v v') : Fm (fun b i => Q b (sh b i)) (kd v) (kd v') := fun b i q => f b (sh b i) q
/-- is this bit told -/
def tb (x k : Int) : Int := b3an x (b3sl 1 (b3an k 31))
def ONC (m v : Mem) : Prop := (tb (m 46 6) 0 = 0 ↔ v 3 0 = 0) ∧ (tb (m 46 6) 1 = 0 ↔ v 3 1 = 0) ∧ (tb (m 46 6) 4 = 0 ↔ v 3 2 = 0) ∧ (tb (m 46 6) 5 = 0 ↔ v 3 3 = 0) ∧ (tb (m 46 6) 6 = 0 ↔ v 3 4 = 0)
def CTL (m v w : Mem) : Prop := (m 46 7 = 0 ∨ m 46 7 = 1) ∧ v 0 24 = m 46 7 ∧ (m 46 7 = 0 → w 1 0 = 0 ∧ w 0 2 = 0 ∧ w 0 3 = 0)
/-- told laws end before what is read next -/
def LB (v : Mem) : Prop := ∀ k, 3 ≤ k → k ≤ 5 → v 15 k = 1 → v 17 k ≤ v 0 23
theorem LB.f {v v' : Mem} (h : LB v) {Q : Nat → Int → Prop} (g : Fm Q v v') (hq : ∀ b i, (b = 0 ∧ i = 23) ∨ b = 15 ∨ b = 17 → ¬ Q b i) : LB v' := by
  unfold LB
  rw [g.rw1 (b := 15) (fun i => hq _ _ (by first | decide | omega)), g.rw1 (b := 17) (fun i => hq _ _ (by first | decide | omega)), g 0 23 (hq _ _ (by first | decide | omega))]
  exact h
def DI (m v : Mem) (D : Nat) : Prop := ((D = 2 ∨ D = 24) ∧ m 46 10 = (D : Int)) ∧ WW (sl 21 m D) ∧ RT (kd v) (sl 21 m D) ∧ CTL m v (sl 21 m D) ∧ ONC m v ∧ v 0 49 = sl 21 m D 0 13 ∧ LB v
/-- what reading changes -/
def PX (D : Nat) : Nat → Int → Prop := fun b i => (D ≤ b ∧ b ≤ D + 21) ∨ (b = 46 ∧ 2 ≤ i ∧ i ≤ 9) ∨ (b = 47 ∧ 3 ≤ i) ∨ b = 50
def QX : Nat → Int → Prop := fun b i => (b = 0 ∧ ((4 ≤ i ∧ i ≤ 5) ∨ (7 ≤ i ∧ i ≤ 11) ∨ (18 ≤ i ∧ i ≤ 24) ∨ i = 43 ∨ (46 ≤ i ∧ i ≤ 51))) ∨ b = 3 ∨ (b = 4 ∧ 7 ≤ i) ∨ ((5 ≤ b ∧ b ≤ 10) ∧ 5 ≤ i) ∨ (b = 11 ∧ 4 ≤ i) ∨ ((12 ≤ b ∧ b ≤ 14) ∧ 28 ≤ i) ∨ ((15 ≤ b ∧ b ≤ 17) ∧ 3 ≤ i) ∨ ((18 ≤ b ∧ b ≤ 20) ∧ 64 ≤ i) ∨ b = 21 ∨ b = 22
theorem Pk_x : ∀ b i, Pk b i → PX D b i := by intro b i h; unfold Pk at h; unfold PX; omega
theorem Qk_x : ∀ b i, Qk b i → QX b i := by intro b i h; unfold Qk at h; unfold QX; omega
/-- how a line ends on both sides -/
def LOut (X Y : Option (Int × Mem)) (m v : Mem) (D : Nat) (S : Int) : Prop := ∃ m' v', Fm (PX D) m m' ∧ Fm QX v v' ∧ m 47 3 ≤ m' 47 3 ∧ ((X = some (1, m') ∧ Y = some (1, v') ∧ DI m' v' D ∧ PreR m' v' S ∧ m' D 12 = m D 12) ∨ (X = some (0, m') ∧ Y = some (0, v') ∧ FLT m' v'))
theorem DI.k (h : DI m v D) (f : Fm Pk m m') (g : Fm Qk v v') : DI m' v' D := by
  obtain ⟨h1, h2, h3, h4, h5, h6⟩ := h
  have ew : sl 21 m' D = sl 21 m D := sl_c (fun b x y => f.rw1 (fun i => by unfold Pk; first | decide | omega))
  unfold DI CTL ONC
  rw [ew, f 46 10 (by unfold Pk; first | decide | omega), f 46 7 (by unfold Pk; first | decide | omega), f 46 6 (by unfold Pk; first | decide | omega), g 0 24 (by unfold Qk; first | decide | omega), g.rw1 (b := 3) (fun i => by unfold Qk; first | decide | omega), g 0 49 (by unfold Qk; first | decide | omega)]
  exact ⟨h1, h2, h3.fr (kd_f g) (by intro b i q; unfold Qk sh; rcases q with ⟨q, _⟩ | q; (subst q; simp only [if_true]; first | decide | omega); first | decide | omega), h4, h5, h6.1, h6.2.f g (by intro b i q; unfold Qk; first | decide | omega)⟩
/-- a line ends with a fault -/
theorem lo_flt {X Y : Option (Int × Mem)} (h : ∃ m' v', Fm Pk m m' ∧ Fm Qk v v' ∧ m 47 3 ≤ m' 47 3 ∧ X = some (0, m') ∧ Y = some (0, v') ∧ FLT m' v') : LOut X Y m v D S := by
  obtain ⟨m', v', f, g, p, e1, e2, e3⟩ := h
  exact ⟨m', v', f.mono Pk_x, g.mono Qk_x, p, Or.inr ⟨e1, e2, e3⟩⟩
/-- a line goes on from another memory -/
theorem lo_tr {X Y : Option (Int × Mem)} {m1 v1 : Mem} (h : LOut X Y m1 v1 D S) (f : Fm (PX D) m m1) (g : Fm QX v v1) (p : m 47 3 ≤ m1 47 3) (e : m1 D 12 = m D 12) : LOut X Y m v D S := by
  obtain ⟨m', v', f', g', p', k⟩ := h
  refine ⟨m', v', f.tr f', g.tr g', by first | decide | omega, ?_⟩
  rcases k with ⟨a1, a2, a3, a4, a5⟩ | k
  · exact Or.inl ⟨a1, a2, a3, a4, by rw [a5]; exact e⟩
  · exact Or.inr k
/-- the last of a line: the stop -/
theorem lo_stop (hD : DI m v D) (h : PreR m v S) : LOut ((G5_readStop m).bind fun o => gdb o.1 (some (o.1, o.2))) (G12_lineRead_197 v 1) m v D S := by
  obtain ⟨m', v', f, g, p, k⟩ := n_stop h
  have hDD := hD.1.1
  refine ⟨m', v', f.mono Pk_x, g.mono Qk_x, p, ?_⟩
  rcases k with ⟨a1, a2, a3⟩ | ⟨a1, a2, a3⟩
  · rw [a1, bs1, gdb_t (by first | decide | omega)]
    exact Or.inl ⟨rfl, a2, hD.k f g, a3, f D 12 (by unfold Pk; first | decide | omega)⟩
  · rw [a1, bs1, gdb_t (by first | decide | omega)]
    exact Or.inr ⟨rfl, a2, a3⟩
end Q24
/-! Lines that come once: sea, peak, bank, rule, seed. -/
theorem i_andor (a b c : Int32) : (a ||| b) &&& c = (a &&& c) ||| (b &&& c) := by
  apply Int32.toBitVec_inj.mp
  simp only [Int32.toBitVec_and, Int32.toBitVec_or]
  apply BitVec.eq_of_getLsbD_eq
  intro i hi
  simp only [BitVec.getLsbD_and, BitVec.getLsbD_or]
  cases a.toBitVec.getLsbD i <;> cases b.toBitVec.getLsbD i <;> simp
theorem i_orabs (a b : Int32) : (a ||| b) &&& b = b := by
  apply Int32.toBitVec_inj.mp
  simp only [Int32.toBitVec_and, Int32.toBitVec_or]
  apply BitVec.eq_of_getLsbD_eq
  intro i hi
  simp only [BitVec.getLsbD_and, BitVec.getLsbD_or]
  cases a.toBitVec.getLsbD i <;> cases b.toBitVec.getLsbD i <;> simp
theorem an_or_ne (x B C : Int) (h : Z3 B &&& Z3 C = 0) : b3an (b3or x B) C = b3an x C := by
  unfold b3an
  rw [z_or, i_andor, h, Int32.or_zero]
theorem an_or_eq (x B : Int) : b3an (b3or x B) B = (Z3 B).toInt := by
  unfold b3an
  rw [z_or, i_orabs]
theorem tb_1 : ∀ k : Int, k = 0 ∨ k = 1 ∨ k = 4 ∨ k = 5 ∨ k = 6 → (Z3 (b3sl 1 (b3an k 31))).toInt ≠ 0 := by
  rintro k (rfl | rfl | rfl | rfl | rfl) <;> decide
theorem tb_2 : ∀ j k : Int, (j = 0 ∨ j = 1 ∨ j = 4 ∨ j = 5 ∨ j = 6) → (k = 0 ∨ k = 1 ∨ k = 4 ∨ k = 5 ∨ k = 6) → j ≠ k → Z3 (b3sl 1 (b3an j 31)) &&& Z3 (b3sl 1 (b3an k 31)) = 0 := by
  rintro j k (rfl | rfl | rfl | rfl | rfl) (rfl | rfl | rfl | rfl | rfl) h <;> first | (exact absurd rfl h) | decide
section Q25
variable {m v m' v' w w' u u' : Mem} {S : Int} {D : Nat}
theorem c_first (m : Mem) (c : Int) : G5_isFirst m c = if tb (m 46 6) c = 0 then some (1, up m 46 6 (b3or (m 46 6) (b3sl 1 (b3an c 31)))) else some (0, up (up m 46 8 3) 46 9 (m 47 5)) := by
  unfold G5_isFirst G5_isFirst_0 tb
  rw [c_ref, bs1, gdb_t (by first | decide | omega), wt_e]
/-- which bit stands for which place -/
def crp (c r : Int) : Prop := (c = 0 ∧ r = 0) ∨ (c = 1 ∧ r = 1) ∨ (c = 4 ∧ r = 2) ∨ (c = 5 ∧ r = 3) ∨ (c = 6 ∧ r = 4)
end Q25
