section Q23
variable {m v : Mem} {t : Int → Int} {S : Int}
theorem r_sgn {q : Int} (h : TPx v t S) (hq : 0 ≤ q ∧ q < S) (h7 : v 0 7 = q) : ∃ v', G12_signToken v = some v' ∧ Fm Q7 v v' ∧ v' 0 7 = q + sgA (t q) (chN t S q) ∧ v' 0 10 = v 0 10 ∧ KR (sgT (t q) (chN t S q)) 0 (v' 0 8) (v' 0 9) := by
  have hS := h.1
  have h4 := h.2.2.1 q hq.1 hq.2
  unfold G12_signToken G12_signToken_0
  rw [h7, gdx_t (by first | decide | omega), wt_e]
  have u7 : ∀ y, up v 0 9 y 0 7 = q := fun y => by rw [up_i (by first | decide | omega)]; exact h7
  rw [u7, gd3_t (by first | decide | omega), wt_e]
  have g9 : up (up v 0 9 (v 1 q)) 0 7 (q + 1) 0 9 = v 1 q := by rw [up_i (by first | decide | omega), up_e]
  have g7 : up (up v 0 9 (v 1 q)) 0 7 (q + 1) 0 7 = q + 1 := up_e
  have g10 : up (up v 0 9 (v 1 q)) 0 7 (q + 1) 0 10 = v 0 10 := by rw [up_i (by first | decide | omega), up_i (by first | decide | omega)]
  have f1 : Fm Q7 v (up (up v 0 9 (v 1 q)) 0 7 (q + 1)) := (Fm.w1 ⟨rfl, by first | decide | omega, by first | decide | omega⟩).w ⟨rfl, by first | decide | omega, by first | decide | omega⟩
  have g6 : up (up v 0 9 (v 1 q)) 0 7 (q + 1) 0 6 = S := by rw [f1 0 6 (by unfold Q7; first | decide | omega)]; exact h.2.1
  have gt : up (up v 0 9 (v 1 q)) 0 7 (q + 1) 1 = v 1 := f1.rw1 (fun i => by unfold Q7; first | decide | omega)
  generalize up (up v 0 9 (v 1 q)) 0 7 (q + 1) = u at g9 g7 g10 f1 g6 gt ⊢
  rw [g9]
  -- what is behind it
  have hx : ∃ x, (∀ k : Int → Option Mem, (if u 0 6 ≤ u 0 7 then k 0 else gdx (u 0 7) 700 (k (u 1 (u 0 7)))) = k x) ∧ (x = 61 ↔ chN t S q = 61) ∧ (x = 62 ↔ chN t S q = 62) := by
    unfold chN
    by_cases c : S ≤ q + 1
    · refine ⟨0, fun k => by rw [g6, g7, if_pos c], ?_⟩
      rw [if_neg (by first | decide | omega)]; omega
    · have h5 := h.2.2.1 (q + 1) (by first | decide | omega) (by first | decide | omega)
      refine ⟨v 1 (q + 1), fun k => by rw [g6, g7, if_neg c, gdx_t (by first | decide | omega), gt], ?_⟩
      rw [if_pos (by first | decide | omega)]; omega
  obtain ⟨x, hx1, hx2, hx3⟩ := hx
  have e50 : G12_signToken_50 u = G12_signToken_74 u x := hx1 (fun y => G12_signToken_74 u y)
  rw [e50]
  -- the two ways a comparison ends
  have w1 : ∀ y z : Int, ∃ v', G12_signToken_192 (up u 0 8 y) z = some v' ∧ Fm Q7 v v' ∧ v' 0 7 = q + 1 ∧ v' 0 10 = v 0 10 ∧ v' 0 8 = y ∧ v' 0 9 = z := fun y z => by
    unfold G12_signToken_192
    rw [wt_e]
    exact ⟨_, rfl, (f1.w ⟨rfl, by first | decide | omega, by first | decide | omega⟩).w ⟨rfl, by first | decide | omega, by first | decide | omega⟩, by rw [up_i (by first | decide | omega), up_i (by first | decide | omega)]; exact g7, by rw [up_i (by first | decide | omega), up_i (by first | decide | omega)]; exact g10, by rw [up_i (by first | decide | omega), up_e], up_e⟩
  have w2 : ∀ y z : Int, ∃ v', G12_signToken_192 (up (up u 0 7 (q + 1 + 1)) 0 8 y) z = some v' ∧ Fm Q7 v v' ∧ v' 0 7 = q + 2 ∧ v' 0 10 = v 0 10 ∧ v' 0 8 = y ∧ v' 0 9 = z := fun y z => by
    unfold G12_signToken_192
    rw [wt_e]
    exact ⟨_, rfl, ((f1.w ⟨rfl, by first | decide | omega, by first | decide | omega⟩).w ⟨rfl, by first | decide | omega, by first | decide | omega⟩).w ⟨rfl, by first | decide | omega, by first | decide | omega⟩, by rw [up_i (by first | decide | omega), up_i (by first | decide | omega), up_e]; first | decide | omega, by rw [up_i (by first | decide | omega), up_i (by first | decide | omega), up_i (by first | decide | omega)]; exact g10, by rw [up_i (by first | decide | omega), up_e], up_e⟩
  have w3 : ∀ y : Int, ∃ v', G12_signToken_287 u y = some v' ∧ Fm Q7 v v' ∧ v' 0 7 = q + 1 ∧ v' 0 10 = v 0 10 ∧ v' 0 8 = y ∧ v' 0 9 = v 1 q := fun y => by
    unfold G12_signToken_287
    rw [wt_e]
    exact ⟨_, rfl, f1.w ⟨rfl, by first | decide | omega, by first | decide | omega⟩, by rw [up_i (by first | decide | omega)]; exact g7, by rw [up_i (by first | decide | omega)]; exact g10, up_e, by rw [up_i (by first | decide | omega)]; exact g9⟩
  have a9 : ∀ y, up u 0 8 y 0 9 = v 1 q := fun y => by rw [up_i (by first | decide | omega)]; exact g9
  have b9 : ∀ y z, up (up u 0 7 y) 0 8 z 0 9 = v 1 q := fun y z => by rw [up_i (by first | decide | omega), up_i (by first | decide | omega)]; exact g9
  by_cases c60 : t q = 60
  · have ev : v 1 q = 60 := by omega
    unfold G12_signToken_74 G12_signToken_94 G12_signToken_95 G12_signToken_115 G12_signToken_116 G12_signToken_125 G12_signToken_135 sgT sgA
    simp only [g9, ev, if_true, if_neg (show ¬ (60 : Int) = 61 by first | decide | omega), g7, wt_e, c60, gd3_t (show -2147483648 ≤ q + 1 + 1 ∧ q + 1 + 1 ≤ 2147483647 by first | decide | omega), a9, b9, if_neg i10]
    by_cases c1 : chN t S q = 61
    · have hx61 := hx2.mpr c1
      simp only [if_pos hx61, if_pos c1, if_neg (show ¬ x = 62 by first | decide | omega)]
      obtain ⟨v', z1, z2, z3, z4, z5, z6⟩ := w2 5 1
      exact ⟨v', z1, z2, z3, z4, by rw [z5, z6]; exact Or.inr (Or.inr (Or.inr (Or.inr (Or.inl ⟨by first | decide | omega, by first | decide | omega, rfl, by first | decide | omega⟩))))⟩
    · have hx61 : ¬ x = 61 := fun z => c1 (hx2.mp z)
      simp only [if_neg hx61, if_neg c1]
      by_cases c2 : chN t S q = 62
      · have hx62 := hx3.mpr c2
        simp only [if_pos hx62, if_pos c2]
        obtain ⟨v', z1, z2, z3, z4, z5, z6⟩ := w2 5 3
        exact ⟨v', z1, z2, z3, z4, by rw [z5, z6]; exact Or.inr (Or.inr (Or.inr (Or.inr (Or.inl ⟨by first | decide | omega, by first | decide | omega, rfl, by first | decide | omega⟩))))⟩
      · have hx62 : ¬ x = 62 := fun z => c2 (hx3.mp z)
        simp only [if_neg hx62, if_neg c2]
        obtain ⟨v', z1, z2, z3, z4, z5, z6⟩ := w1 5 0
        exact ⟨v', z1, z2, z3, z4, by rw [z5, z6]; exact Or.inr (Or.inr (Or.inr (Or.inr (Or.inl ⟨by first | decide | omega, by first | decide | omega, rfl, by first | decide | omega⟩))))⟩
  · by_cases c62 : t q = 62
    · have ev : v 1 q = 62 := by omega
      unfold G12_signToken_74 G12_signToken_94 G12_signToken_95 G12_signToken_115 G12_signToken_116 G12_signToken_125 G12_signToken_135 sgT sgA
      simp only [g9, ev, if_true, if_neg (show ¬ (62 : Int) = 61 by first | decide | omega), if_neg (show ¬ (62 : Int) = 60 by first | decide | omega), g7, wt_e, c62, gd3_t (show -2147483648 ≤ q + 1 + 1 ∧ q + 1 + 1 ≤ 2147483647 by first | decide | omega), a9, b9, if_neg i10]
      by_cases c1 : chN t S q = 61
      · have hx61 := hx2.mpr c1
        simp only [if_pos hx61, if_pos c1]
        obtain ⟨v', z1, z2, z3, z4, z5, z6⟩ := w2 5 4
        exact ⟨v', z1, z2, z3, z4, by rw [z5, z6]; exact Or.inr (Or.inr (Or.inr (Or.inr (Or.inl ⟨by first | decide | omega, by first | decide | omega, rfl, by first | decide | omega⟩))))⟩
      · have hx61 : ¬ x = 61 := fun z => c1 (hx2.mp z)
        simp only [if_neg hx61, if_neg c1]
        obtain ⟨v', z1, z2, z3, z4, z5, z6⟩ := w1 5 5
        exact ⟨v', z1, z2, z3, z4, by rw [z5, z6]; exact Or.inr (Or.inr (Or.inr (Or.inr (Or.inl ⟨by first | decide | omega, by first | decide | omega, rfl, by first | decide | omega⟩))))⟩
    · have eT : sgT (t q) (chN t S q) = sg1 (t q) := by unfold sgT; rw [if_neg c60, if_neg c62]
      have eA : sgA (t q) (chN t S q) = 1 := by unfold sgA; rw [if_neg c60, if_neg c62]
      rw [eT, eA, if_neg (show ¬ v 1 q = 60 by first | decide | omega), if_neg (show ¬ v 1 q = 62 by first | decide | omega)]
      by_cases c61 : t q = 61
      · have ev : v 1 q = 61 := by omega
        have es : sg1 (t q) = 28 := by rw [c61]; rfl
        unfold G12_signToken_74 G12_signToken_94 G12_signToken_95 G12_signToken_115 G12_signToken_116 G12_signToken_125 G12_signToken_135
        simp only [g9, ev, if_true, if_neg (show ¬ (61 : Int) = 60 by first | decide | omega), g7, wt_e, a9, b9, if_neg i10]
        obtain ⟨v', z1, z2, z3, z4, z5, z6⟩ := w1 5 2
        exact ⟨v', z1, z2, z3, z4, by rw [z5, z6, es]; exact Or.inr (Or.inr (Or.inr (Or.inr (Or.inl ⟨by first | decide | omega, by first | decide | omega, rfl, by first | decide | omega⟩))))⟩
      · rw [if_neg (show ¬ v 1 q = 61 by first | decide | omega)]
        unfold G12_signToken_270 G12_signToken_275
        rw [if_neg i10, if_pos rfl]
        have sgn : ∀ k, sg1 (t q) = k → SGN k (v 1 q) → ∃ v', G12_signToken_287 u 4 = some v' ∧ Fm Q7 v v' ∧ v' 0 7 = q + 1 ∧ v' 0 10 = v 0 10 ∧ KR (sg1 (t q)) 0 (v' 0 8) (v' 0 9) := by
          intro k hk hs
          obtain ⟨v', z1, z2, z3, z4, z5, z6⟩ := w3 4
          exact ⟨v', z1, z2, z3, z4, by rw [z5, z6, hk]; exact Or.inr (Or.inr (Or.inr (Or.inr (Or.inr (Or.inl ⟨hs, rfl⟩)))))⟩
        have none : sg1 (t q) = 40 → ∀ y, (y = 6 ∨ (y = 4 ∧ v 1 q = 37)) → ∃ v', G12_signToken_287 u y = some v' ∧ Fm Q7 v v' ∧ v' 0 7 = q + 1 ∧ v' 0 10 = v 0 10 ∧ KR (sg1 (t q)) 0 (v' 0 8) (v' 0 9) := by
          intro hk y hy
          obtain ⟨v', z1, z2, z3, z4, z5, z6⟩ := w3 y
          exact ⟨v', z1, z2, z3, z4, by rw [z5, z6, hk]; exact Or.inr (Or.inr (Or.inr (Or.inr (Or.inr (Or.inr ⟨rfl, hy⟩)))))⟩
        by_cases c59 : t q = 59
        · rw [if_pos (show v 1 q = 59 by first | decide | omega)]; exact sgn 38 (by rw [c59]; rfl) (by unfold SGN; first | decide | omega)
        · rw [if_neg (show ¬ v 1 q = 59 by first | decide | omega)]
          by_cases c40 : t q = 40
          · rw [if_pos (show v 1 q = 40 by first | decide | omega)]; exact sgn 36 (by rw [c40]; rfl) (by unfold SGN; first | decide | omega)
          · rw [if_neg (show ¬ v 1 q = 40 by first | decide | omega)]
            by_cases c41 : t q = 41
            · rw [if_pos (show v 1 q = 41 by first | decide | omega)]; exact sgn 37 (by rw [c41]; rfl) (by unfold SGN; first | decide | omega)
            · rw [if_neg (show ¬ v 1 q = 41 by first | decide | omega)]
              by_cases c43 : t q = 43
              · rw [if_pos (show v 1 q = 43 by first | decide | omega)]; exact sgn 32 (by rw [c43]; rfl) (by unfold SGN; first | decide | omega)
              · rw [if_neg (show ¬ v 1 q = 43 by first | decide | omega)]
                by_cases c45 : t q = 45
                · rw [if_pos (show v 1 q = 45 by first | decide | omega)]; exact sgn 33 (by rw [c45]; rfl) (by unfold SGN; first | decide | omega)
                · rw [if_neg (show ¬ v 1 q = 45 by first | decide | omega)]
                  by_cases c42 : t q = 42
                  · rw [if_pos (show v 1 q = 42 by first | decide | omega)]; exact sgn 34 (by rw [c42]; rfl) (by unfold SGN; first | decide | omega)
                  · rw [if_neg (show ¬ v 1 q = 42 by first | decide | omega)]
                    by_cases c47 : t q = 47
                    · rw [if_pos (show v 1 q = 47 by first | decide | omega)]; exact sgn 35 (by rw [c47]; rfl) (by unfold SGN; first | decide | omega)
                    · rw [if_neg (show ¬ v 1 q = 47 by first | decide | omega)]
                      have e40 : sg1 (t q) = 40 := by
                        unfold sg1
                        rw [if_neg c40, if_neg c41, if_neg c42, if_neg c43, if_neg c45, if_neg c47, if_neg c59, if_neg c60, if_neg c61, if_neg c62]
                      by_cases c37 : t q = 37
                      · rw [if_pos (show v 1 q = 37 by first | decide | omega)]; exact none e40 4 (Or.inr ⟨rfl, by first | decide | omega⟩)
                      · rw [if_neg (show ¬ v 1 q = 37 by first | decide | omega)]; exact none e40 6 (Or.inl rfl)
end Q23
