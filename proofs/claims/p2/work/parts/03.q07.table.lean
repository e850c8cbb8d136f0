/-! Tables, the fairest rule, chances, what is tried otherwise. -/
section Q7
variable {m v w g n : Mem} {T : Nat}
theorem a_table (h : Rel m v) (x y z : Int) (hy : y ≤ 2147483647) : Agr (G11_table m x y z) (G12_table v x y z) := by
  have h1 := h.v0
  unfold G11_table G11_table_0 G12_table G12_table_0
  rw [wt_e]
  generalize up v 0 2 0 = u at h1 ⊢
  obtain ⟨T, w, g, n, t1, t2, hc, hn, hW, hG, hE, hS, hR, hV, hL, -, -, hN⟩ := h1.use
  have hw := hW.1
  unfold WS at hw
  rw [c_isR, r_isIn, bs1, bs1]
  by_cases c1 : 0 ≤ x ∧ x ≤ 3
  · simp only [if_pos c1, if_neg i10]
    by_cases c2 : y < 0
    · rw [if_pos c2, if_pos c2]; exact agr0 h1 _ rfl rfl
    · rw [if_neg c2, if_neg c2, r_isIn, bs1]
      have main : ∀ z, (0 ≤ z ∧ z ≤ 7) → (z < 5 → z < w 1 0) → Agr (G11_table_39 m x y z) (G12_table_43 u x y z) := by
        intro z hz hz5
        obtain ⟨m', v', N, e1, e2, g1, g2, n1, hB, k1, k2, k3⟩ := run_pair h1 t2 hc hn hW hG hE hS hR hV hN c1 (s := y) (by omega)
        have t3 : m' 0 3 = (T : Int) := by rw [g1 0 3 (by unfold PQ; omega)]; exact t2
        have e10 : m' (T + 1) 0 = w 1 0 := by rw [g1 (T + 1) 0 (by unfold PQ; omega)]; exact hc.1.2.2 1 0 (by omega)
        have er : m' (76 + 2) = N 2 := funext fun i => n1.2.2 2 i (by omega)
        unfold G11_table_39 G12_table_43
        rw [e1, e2, bs1, bs1]
        have k3' : m' 76 3 = N 0 3 := n1.2.1 3
        have k4' : m' 76 4 = N 0 4 := n1.2.1 4
        by_cases z5 : z = 5
        · rw [if_pos z5, if_pos (by omega), if_pos z5, k3', k2]; exact agr h1 _ rfl rfl g1 g2
        · rw [if_neg z5]
          by_cases z6 : z = 6
          · rw [if_pos z6, if_pos (by omega), if_neg z5, if_pos z6, k4', k3]; exact agr h1 _ rfl rfl g1 g2
          · rw [if_neg z6]
            by_cases z7 : z = 7
            · rw [if_pos z7, if_pos (by omega), if_neg z5, if_neg z6, t3, Int.toNat_natCast, e10]
              rw [c_unl (w := w) (by omega) (fun i p q => by rw [er]; have := (hB.2 i p q).2.1; omega), r_unl (w := w) (f := N 2) (Or.inr rfl) (by have := (hR.q g2).1.2.2.1; exact this) (by omega) (fun i p q => by
                rw [show 5 * (1 : Int) + i = 5 + i by omega]
                refine ⟨k1 i p q, ?_⟩
                have := (hB.2 i p q).2.1
                omega), bs1, bs1, er]
              exact agr h1 _ rfl rfl g1 g2
            · rw [if_neg z7, if_neg (by omega), gdx_t (by omega), gdx_t (by omega), er, k1 z hz.1 (hz5 (by omega))]
              exact agr h1 _ rfl rfl g1 g2
      by_cases c3 : 0 ≤ z ∧ z ≤ 7
      · simp only [if_pos c3, if_neg i10, if_neg (show ¬ z < 0 by omega), if_pos c3.2]
        by_cases c5 : 5 ≤ z
        · rw [if_pos c5, if_pos c5]
          exact main z c3 (by omega)
        · rw [if_neg c5, if_neg c5, c_isS t2 hc.1, bs1, hR.1.2.2.1]
          by_cases c6 : z < w 1 0
          · simp only [if_pos c6, if_pos (show 0 ≤ z ∧ z < w 1 0 from ⟨c3.1, c6⟩), if_neg i10]
            exact main z c3 (fun _ => c6)
          · simp only [if_neg c6, if_neg (show ¬ (0 ≤ z ∧ z < w 1 0) from fun q => c6 q.2), if_true]
            exact agr0 h1 _ rfl rfl
      · simp only [if_neg c3, if_true]
        by_cases q : z < 0
        · rw [if_pos q]; exact agr0 h1 _ rfl rfl
        · rw [if_neg q, if_neg (by omega)]; exact agr0 h1 _ rfl rfl
  · simp only [if_neg c1, if_true]; exact agr0 h1 _ rfl rfl
end Q7
