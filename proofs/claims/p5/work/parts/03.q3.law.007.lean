section Q36
variable {m v : Mem} {S : Int} {D : Nat}
/-- what the reference takes the sign for -/
theorem r_47 {k x : Int} (hk : KR k x (v 0 8) (v 0 9)) : (jOk k ∧ G12_signs_47 v = G12_signs_147 v (wCm k)) ∨ (¬ jOk k ∧ G12_signs_47 v = G12_signs_147 v 0) := by
  unfold G12_signs_47
  rw [r_key, bs1]
  by_cases c16 : v 0 8 = 1 ∧ v 0 9 = 15
  · rw [if_pos c16]
    simp only [if_neg i10]
    have : k = 16 := by
      have hb := KR_b hk
      have hlo : (k < 15 ∨ 17 < k) → kwf k = k := kwf_lo
      have k15 : k = 15 → kwf k = 17 := fun q => by rw [q]; decide
      have k17 : k = 17 → kwf k = 16 := fun q => by rw [q]; decide
      unfold KR SGN NumR at hk
      omega
    subst this
    exact Or.inl ⟨Or.inl rfl, rfl⟩
  · rw [if_neg c16]
    simp only [if_true]
    rw [r_key, bs1]
    by_cases c17 : v 0 8 = 1 ∧ v 0 9 = 16
    · rw [if_pos c17]
      simp only [if_neg i10]
      have : k = 17 := by
        have hb := KR_b hk
        have hlo : (k < 15 ∨ 17 < k) → kwf k = k := kwf_lo
        have k15 : k = 15 → kwf k = 17 := fun q => by rw [q]; decide
        have k17 : k = 16 → kwf k = 15 := fun q => by rw [q]; decide
        unfold KR SGN NumR at hk
        omega
      subst this
      exact Or.inl ⟨Or.inr (Or.inl rfl), rfl⟩
    · rw [if_neg c17]
      simp only [if_true]
      have n16 : ¬ k = 16 := fun q => c16 (by
        have ek : kwf 16 = 15 := by decide
        rw [q] at hk
        unfold KR SGN NumR at hk
        rw [ek] at hk
        omega)
      have n17 : ¬ k = 17 := fun q => c17 (by
        have ek : kwf 17 = 16 := by decide
        rw [q] at hk
        unfold KR SGN NumR at hk
        rw [ek] at hk
        omega)
      by_cases c5 : v 0 8 = 5
      · have hh : 26 ≤ k ∧ k ≤ 31 ∧ v 0 9 = k - 26 := by unfold KR SGN NumR at hk; omega
        rw [if_pos c5, gd3_t (by first | decide | omega)]
        refine Or.inl ⟨by unfold jOk; first | decide | omega, ?_⟩
        have : wCm k = 5 + v 0 9 := by
          unfold wCm
          rw [if_neg (by first | decide | omega), if_neg (by first | decide | omega), if_neg (by first | decide | omega), if_neg (by first | decide | omega)]; omega
        rw [this]
      · rw [if_neg c5, r_sign, bs1]
        by_cases c43 : v 0 8 = 4 ∧ v 0 9 = 43
        · rw [if_pos c43]
          simp only [if_neg i10]
          have : k = 32 := by unfold KR SGN NumR at hk; omega
          subst this
          exact Or.inl ⟨by unfold jOk; first | decide | omega, rfl⟩
        · rw [if_neg c43]
          simp only [if_true]
          rw [r_sign, bs1]
          by_cases c45 : v 0 8 = 4 ∧ v 0 9 = 45
          · rw [if_pos c45]
            simp only [if_neg i10]
            have : k = 33 := by unfold KR SGN NumR at hk; omega
            subst this
            exact Or.inl ⟨by unfold jOk; first | decide | omega, rfl⟩
          · rw [if_neg c45]
            simp only [if_true]
            rw [r_sign, bs1]
            by_cases c42 : v 0 8 = 4 ∧ v 0 9 = 42
            · rw [if_pos c42]
              simp only [if_neg i10]
              have : k = 34 := by unfold KR SGN NumR at hk; omega
              subst this
              exact Or.inl ⟨by unfold jOk; first | decide | omega, rfl⟩
            · rw [if_neg c42]
              simp only [if_true]
              rw [r_sign, bs1]
              by_cases c47 : v 0 8 = 4 ∧ v 0 9 = 47
              · rw [if_pos c47]
                simp only [if_neg i10]
                have : k = 35 := by unfold KR SGN NumR at hk; omega
                subst this
                exact Or.inl ⟨by unfold jOk; first | decide | omega, rfl⟩
              · rw [if_neg c47]
                simp only [if_true]
                refine Or.inr ⟨?_, by first | rfl | trivial⟩
                unfold jOk
                unfold KR SGN NumR at hk
                omega
end Q36
/-! The joints of a law, and the loop over all its pieces. -/
section Q37
variable {m v : Mem} {S : Int} {D : Nat}
theorem jOk_s {x : Int} (h : ¬ jOk x) : wSt x = 0 ∨ x = 15 := by
  by_cases c : x = 15
  · exact Or.inr c
  · left
    unfold jOk at h
    unfold wSt
    rw [if_neg c, if_neg (by first | decide | omega), if_neg (by first | decide | omega), if_neg (by first | decide | omega), if_neg (by first | decide | omega), if_neg (by first | decide | omega)]
theorem s_close {a : Nat} {F : Int} {ws : List Int} {L : Nat} (ha : aOk D a) (hF : 0 ≤ F) (h : PostR m v S) (hL : LI m v D a F ws L) (hw : v 0 50 = 0) (c37 : m 47 4 = 37) : SOut (G5_takeJoint m a) (G12_signs v) m v D a F S := by
  have hk := h.2.2.2.2.2.2.2
  have e8 : v 0 8 = 4 ∧ v 0 9 = 41 := by unfold KR SGN NumR at hk; omega
  have ha' := ha
  unfold aOk at ha'
  have hL' := hL
  obtain ⟨h1, h2, h3, h4, h5, h6, h7, h8⟩ := hL'
  have cl := c_len ws
  unfold G5_takeJoint G5_takeJoint_0 G5_takeClose G5_takeClose_0 G12_signs G12_signs_0
  rw [if_pos c37, r_sign, if_pos e8, bs1]
  simp only [if_neg i10]
  rw [h4.1, h4.2.1]
  by_cases c0 : cBR ws = 0
  · rw [if_pos c0, if_pos (show cBR ws ≤ 0 by first | decide | omega), c_ref, bs1, gdb_t (by first | decide | omega), bs1, gdb_t (by first | decide | omega)]
    rcases r_47 hk with ⟨j, _⟩ | ⟨_, j⟩
    · unfold jOk at j; omega
    · rw [j]
      unfold G12_signs_147
      rw [if_pos rfl, r_wrong, bs1, gdb_t (by first | decide | omega)]
      exact s_ref h 1 rfl rfl
  · rw [if_neg c0, if_neg (show ¬ cBR ws ≤ 0 by first | decide | omega)]
    obtain ⟨m1, v1, ws1, L1, y1, y2, y3, y4, y5, y6, y7, y8⟩ := hL.rel ha hF (x2 := 1) (by first | decide | omega) h hw
    rw [y1, bs1, y2, bs1]
    rcases y8 with q | ⟨x, r, q, qx⟩
    · rw [q] at y7
      have : cBR ([] : List Int) = 0 := rfl
      omega
    · obtain ⟨g1, g2, g3, g4, g5, g6, g7, g8⟩ := y5
      have ok : wOk x := g2.2.2.2.2 x (by rw [q]; simp)
      have x36 : x = 36 := (wSt_b ok).2.2.mp (by have := (wSt_b ok).1; first | decide | omega)
      subst x36
      have n1 : cNB (36 :: r) = cNB r := by show (if (36 : Int) = 36 then 0 else 1) + cNB r = _; rw [if_pos rfl]; omega
      have n2 : cBR (36 :: r) = cBR r + 1 := by show (if (36 : Int) = 36 then 1 else 0) + cBR r = _; rw [if_pos rfl]; omega
      have n3 : cBN (36 :: r) = cBN r := by show (if (36 : Int) = 36 ∨ (36 : Int) = 15 then 0 else 1) + cBN r = _; rw [if_pos (Or.inl rfl)]; omega
      have hl : ((36 :: r).length : Int) = r.length + 1 := by simp
      have er : (r.length : Int) + 1 - 1 = r.length := by omega
      have eb : cBR r + 1 - 1 = cBR r := by omega
      rw [q] at g2 g4 g5 g8
      rw [n1] at g5
      rw [n2] at g4
      rw [n3] at g8
      have cr := c_len r
      have w1 : m1 46 2 = r.length + 1 := by rw [g2.1]; exact hl
      have w2 : v1 0 46 = r.length + 1 := by rw [g2.2.1]; exact hl
      have u1 : up m1 46 3 (cBR r) 46 2 = r.length + 1 := by rw [up_i (by first | decide | omega)]; exact w1
      have u2 : up v1 0 46 r.length 0 48 = cBR r + 1 := by rw [up_i (by first | decide | omega)]; exact g4.2.1
      rw [g4.1, eb, gd3_t (by first | decide | omega), wt_e, u1, if_neg (by first | decide | omega), er, gd3_t (by first | decide | omega), wt_e, bs1, gdb_t (Or.inr rfl), w2, er, gd3_t (by first | decide | omega), wt_e, u2, eb, gd3_t (by first | decide | omega), wt_e]
      have f2 : Fm (fun b i => b = 46 ∧ (i = 2 ∨ i = 3)) m1 (up (up m1 46 3 (cBR r)) 46 2 r.length) := (Fm.w1 (by first | decide | omega)).w (by first | decide | omega)
      have g2' : Fm (fun b i => b = 0 ∧ (i = 46 ∨ i = 48)) v1 (up (up v1 0 46 r.length) 0 48 (cBR r)) := (Fm.w1 (by first | decide | omega)).w (by first | decide | omega)
      have k2 : up (up m1 46 3 (cBR r)) 46 2 r.length 46 2 = r.length := up_e
      have k3 : up (up m1 46 3 (cBR r)) 46 2 r.length 46 3 = cBR r := by rw [up_i (by first | decide | omega), up_e]
      have j2 : up (up v1 0 46 r.length) 0 48 (cBR r) 0 46 = r.length := by rw [up_i (by first | decide | omega), up_e]
      have j3 : up (up v1 0 46 r.length) 0 48 (cBR r) 0 48 = cBR r := up_e
      generalize up (up m1 46 3 (cBR r)) 46 2 r.length = m2 at f2 k2 k3 ⊢
      generalize up (up v1 0 46 r.length) 0 48 (cBR r) = v2 at g2' j2 j3 ⊢
      have p2 : PostR m2 v2 S := y6.f f2 g2' (by intro b i q; first | decide | omega) (by intro b i q; first | decide | omega)
      obtain ⟨v3, z1, z2, z3⟩ := p2.tok
      have li : LI m2 v2 D a F r L1 := by
        refine ⟨by rw [f2 46 10 (by first | decide | omega)]; exact g1, ⟨k2, j2, by rw [f2.rw1 (b := 50) (fun i => by first | decide | omega)]; exact g2.2.2.1.2, by rw [g2'.rw1 (b := 21) (fun i => by first | decide | omega)]; exact g2.2.2.2.1.2, fun x z => g2.2.2.2.2 x (List.mem_cons_of_mem _ z)⟩, g3.f (f2 a 1 (by first | decide | omega)) (f2.rw1 (fun i => by first | decide | omega)) (g2' 0 23 (by first | decide | omega)) (g2' 0 47 (by first | decide | omega)) (fun b q1 q2 q3 => g2'.rw1 (fun i => by first | decide | omega)), ⟨k3, j3, by first | decide | omega⟩, ?_, ?_, ?_, ?_⟩
        · rw [g2' 0 49 (by first | decide | omega), f2 D 13 (by first | decide | omega)]; exact g5
        · rw [g2' 0 50 (by first | decide | omega), f2 46 4 (by first | decide | omega)]; exact g6
        · rw [g2' 0 51 (by first | decide | omega), f2 46 5 (by first | decide | omega)]; exact g7
        · rw [g2' 0 50 (by first | decide | omega), f2.rw1 (b := a + 1) (fun i => by first | decide | omega)]; exact g8
      rw [z1, bs1]
      have e3 : m2 47 3 = m 47 3 := by rw [f2 47 3 (by first | decide | omega), y3 47 3 (by unfold PRl; first | decide | omega)]
      refine ⟨m2, v3, (y3.mono PRl_l).tr (f2.mono ?_), ((y4.mono QRl_l).tr (g2'.mono ?_)).tr ((z2.mono Q7_k).mono Qk_l), by first | decide | omega, Or.inl ⟨rfl, rfl, ⟨r, L1, li.k ha Fm.rf (z2.mono Q7_k)⟩, z3, by first | decide | omega⟩⟩
      · intro b i q; unfold PLw; omega
      · intro b i q; unfold QLw; omega
end Q37
