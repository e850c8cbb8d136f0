/-! Tables, the fairest rule, chances, what is tried otherwise. -/
section Q7
variable {m v w g n : Mem} {T : Nat}
theorem a_table (h : Rel m v) (x y z : Int) (hy : y ≤ 2147483647) : Agr (G11_table m x y z) (G12_table v x y z) := by
  have h1 := h.v0
  unfold G11_table G11_table_0 G12_table G12_table_0
  rw [wt_e]
  generalize up v 0 2 0 = u at h1 ⊢
  obtain ⟨T, w, g, n, t1, t2, hc, hn, hW, hG, hE, hS, hR, hV, hL, -, -, hN⟩ := h1.use
  have hw := hW.1
  unfold WS at hw
  rw [c_isR, r_isIn, bs1, bs1]
  by_cases c1 : 0 ≤ x ∧ x ≤ 3
  · simp only [if_pos c1, if_neg i10]
    by_cases c2 : y < 0
    · rw [if_pos c2, if_pos c2]; exact agr0 h1 _ rfl rfl
    · rw [if_neg c2, if_neg c2, r_isIn, bs1]
      have main : ∀ z, (0 ≤ z ∧ z ≤ 7) → (z < 5 → z < w 1 0) → Agr (G11_table_39 m x y z) (G12_table_43 u x y z) := by
        intro z hz hz5
        obtain ⟨m', v', N, e1, e2, g1, g2, n1, hB, k1, k2, k3⟩ := run_pair h1 t2 hc hn hW hG hE hS hR hV hN c1 (s := y) (by omega)
        have t3 : m' 0 3 = (T : Int) := by rw [g1 0 3 (by unfold PQ' PQ; omega)]; exact t2
        have e10 : m' (T + 1) 0 = w 1 0 := by rw [g1 (T + 1) 0 (by unfold PQ' PQ; omega)]; exact hc.1.2.2 1 0 (by omega)
        have er : m' (76 + 2) = N 2 := funext fun i => n1.2.2 2 i (by omega)
        unfold G11_table_39 G12_table_43
        rw [e1, e2, bs1, bs1]
        have k3' : m' 76 3 = N 0 3 := n1.2.1 3
        have k4' : m' 76 4 = N 0 4 := n1.2.1 4
        by_cases z5 : z = 5
        · rw [if_pos z5, if_pos (by omega), if_pos z5, k3', k2]; exact agr h1 _ rfl rfl g1 g2
        · rw [if_neg z5]
          by_cases z6 : z = 6
          · rw [if_pos z6, if_pos (by omega), if_neg z5, if_pos z6, k4', k3]; exact agr h1 _ rfl rfl g1 g2
          · rw [if_neg z6]
            by_cases z7 : z = 7
            · rw [if_pos z7, if_pos (by omega), if_neg z5, if_neg z6, t3, Int.toNat_natCast, e10]
              rw [c_unl (w := w) (by omega) (fun i p q => by rw [er]; have := (hB.2 i p q).2.1; omega), r_unl (w := w) (f := N 2) (Or.inr rfl) (by have := (hR.q g2).1.2.2.1; exact this) (by omega) (fun i p q => by
                rw [show 5 * (1 : Int) + i = 5 + i by omega]
                refine ⟨k1 i p q, ?_⟩
                have := (hB.2 i p q).2.1
                omega), bs1, bs1, er]
              exact agr h1 _ rfl rfl g1 g2
            · rw [if_neg z7, if_neg (by omega), gdx_t (by omega), gdx_t (by omega), er, k1 z hz.1 (hz5 (by omega))]
              exact agr h1 _ rfl rfl g1 g2
      by_cases c3 : 0 ≤ z ∧ z ≤ 7
      · simp only [if_pos c3, if_neg i10, if_neg (show ¬ z < 0 by omega), if_pos c3.2]
        by_cases c5 : 5 ≤ z
        · rw [if_pos c5, if_pos c5]
          exact main z c3 (by omega)
        · rw [if_neg c5, if_neg c5, c_isS t2 hc.1, bs1, hR.1.2.2.1]
          by_cases c6 : z < w 1 0
          · simp only [if_pos c6, if_pos (show 0 ≤ z ∧ z < w 1 0 from ⟨c3.1, c6⟩), if_neg i10]
            exact main z c3 (fun _ => c6)
          · simp only [if_neg c6, if_neg (show ¬ (0 ≤ z ∧ z < w 1 0) from fun q => c6 q.2), if_true]
            exact agr0 h1 _ rfl rfl
      · simp only [if_neg c3, if_true]
        by_cases q : z < 0
        · rw [if_pos q]; exact agr0 h1 _ rfl rfl
        · rw [if_neg q, if_neg (by omega)]; exact agr0 h1 _ rfl rfl
  · simp only [if_neg c1, if_true]; exact agr0 h1 _ rfl rfl
theorem uld_b {f : Int → Int} {B : Int} : ∀ (d : Nat) (i p q : Int), (∀ j, i ≤ j → j < i + d → 0 ≤ f j ∧ f j ≤ B) → (0 ≤ p ∧ p ≤ B) → (0 ≤ q ∧ q ≤ B) → -B ≤ uld f d i p q ∧ uld f d i p q ≤ B := by
  intro d
  induction d with
  | zero => intro i p q _ hp hq; show -B ≤ p - q ∧ p - q ≤ B; omega
  | succ d ih =>
    intro i p q h hp hq
    have h1 := h i (by omega) (by omega)
    show -B ≤ uld f d (i + 1) (if p < f i then f i else p) (if f i < q then f i else q) ∧ uld f d (i + 1) (if p < f i then f i else p) (if f i < q then f i else q) ≤ B
    exact ih (i + 1) _ _ (fun j x y => h j (by omega) (by omega)) (by split <;> omega) (by split <;> omega)
theorem ulk_b {f : Int → Int} {s B : Int} (hB : 0 ≤ B) (h : ∀ j, 0 ≤ j → j < s → 0 ≤ f j ∧ f j ≤ B) : -B ≤ ulk f s ∧ ulk f s ≤ B := by
  unfold ulk
  split
  · have h0 := h 0 (by omega) (by omega)
    exact uld_b _ _ _ _ (fun j x y => h j (by omega) (by omega)) h0 h0
  · omega
theorem fair_l {x : Int} (hx : 0 ≤ x ∧ x ≤ 2147483647) : ∀ (d k : Nat) (i b lu ll l : Int) (m v : Mem), Rel m v → 0 ≤ i → 4 - i = d → d < k → (b = -1 ∨ (0 ≤ b ∧ l = 1000 * lu + ll ∧ 0 ≤ ll ∧ ll < 1000)) → Agr (G11_fairest_16 k m x b lu ll i) (G12_fairest_18 k v x b l i) := by
  intro d
  induction d with
  | zero =>
    intro k i b lu ll l m v h a1 a2 a3 a4
    obtain ⟨k, rfl⟩ : ∃ j, k = j + 1 := ⟨k - 1, by omega⟩
    rw [G11_fairest_16, G12_fairest_18, if_pos (by omega), if_pos (by omega)]
    exact agr0 h _ rfl rfl
  | succ d ih =>
    intro k i b lu ll l m v h a1 a2 a3 a4
    obtain ⟨k, rfl⟩ : ∃ j, k = j + 1 := ⟨k - 1, by omega⟩
    obtain ⟨T, w, g, n, t1, t2, hc, hn, hW, hG, hE, hS, hR, hV, hL, -, -, hN⟩ := h.use
    have hw := hW.1
    unfold WS at hw
    obtain ⟨m', v', N, e1, e2, g1, g2, n1, hB, k1, k2, k3⟩ := run_pair h t2 hc hn hW hG hE hS hR hV hN (r := i) (by omega) (s := x) (by omega)
    have t3 : m' 0 3 = (T : Int) := by rw [g1 0 3 (by unfold PQ' PQ; omega)]; exact t2
    have e10 : m' (T + 1) 0 = w 1 0 := by rw [g1 (T + 1) 0 (by unfold PQ' PQ; omega)]; exact hc.1.2.2 1 0 (by omega)
    have er : m' (76 + 2) = N 2 := funext fun i => n1.2.2 2 i (by omega)
    have k3' : m' 76 3 = N 0 3 := n1.2.1 3
    have k4' : m' 76 4 = N 0 4 := n1.2.1 4
    have hub := ulk_b (f := N 2) (s := w 1 0) (B := 56) (by omega) (fun j p q => by have := (hB.2 j p q).2.1; omega)
    have hN0 := hB.1
    rw [G11_fairest_16, G12_fairest_18, if_neg (by omega), if_neg (by omega), e1, e2, bs1, bs1, t3, Int.toNat_natCast, e10]
    rw [c_unl (w := w) (by omega) (fun i p q => by rw [er]; have := (hB.2 i p q).2.1; omega), r_unl (w := w) (f := N 2) (Or.inr rfl) (by have := (hR.q g2).1.2.2.1; exact this) (by omega) (fun i p q => by
      rw [show 5 * (1 : Int) + i = 5 + i by omega]
      refine ⟨k1 i p q, ?_⟩
      have := (hB.2 i p q).2.1
      omega), bs1, bs1, er]
    simp only
    unfold G11_fairest_89 G12_fairest_69
    rw [k3', k4', k2, k3]
    have h' : Rel m' v' := h.q g1 g2
    generalize ulk (N 2) (w 1 0) = U at *
    have ga : ∀ y : Option (Int × Mem), gd3 (N 0 3 + N 0 4) y = y := fun y => gd3_t (by omega)
    have gb : ∀ y : Option (Int × Mem), gd3 (i + 1) y = y := fun y => gd3_t (by omega)
    have gc : ∀ y : Option (Int × Mem), gd3 (1000 * U + N 0 3 + N 0 4) y = y := fun y => gd3_t (by omega)
    simp only [ga, gb, gc]
    have new := ih k (i + 1) i U (N 0 3 + N 0 4) (1000 * U + N 0 3 + N 0 4) m' v' h' (by omega) (by omega) (by omega) (Or.inr ⟨by omega, by omega, by omega, by omega⟩)
    have old := ih k (i + 1) b lu ll l m' v' h' (by omega) (by omega) (by omega) a4
    rcases a4 with hb | ⟨b1, b2, b3, b4⟩
    · rw [if_pos hb, if_pos (by omega)]; exact new
    · rw [if_neg (by omega), if_neg (show ¬ b < 0 by omega)]
      by_cases c1 : U < lu
      · rw [if_pos c1, if_pos (by omega)]; exact new
      · rw [if_neg c1]
        by_cases c2 : U = lu
        · rw [if_pos c2]
          by_cases c3 : ll ≤ N 0 3 + N 0 4
          · rw [if_pos c3, if_neg (by omega)]; exact old
          · rw [if_neg c3, if_pos (by omega)]; exact new
        · rw [if_neg c2, if_neg (by omega)]; exact old
theorem a_fairest (h : Rel m v) (x : Int) (hx : x ≤ 2147483647) : Agr (G11_fairest m x) (G12_fairest v x) := by
  have h1 := h.v0
  unfold G11_fairest G11_fairest_0 G12_fairest G12_fairest_0
  rw [wt_e]
  generalize up v 0 2 0 = u at h1 ⊢
  by_cases c : 0 ≤ x
  · rw [if_pos c, if_pos c]
    exact fair_l ⟨c, hx⟩ 4 1024 0 (-1) 0 0 0 m u h1 (by omega) (by omega) (by omega) (Or.inl rfl)
  · rw [if_neg c, if_neg c]; exact agr0 h1 _ rfl rfl
theorem chance_l {x y j : Int} : ∀ (d k : Nat) (i o s : Int) (m v : Mem), Rel m (up v 0 65 j) → (∀ w, RT v w → 0 ≤ x ∧ x < w 1 0) → v 0 65 = s → (0 ≤ s ∧ s < 2147483648) → 0 ≤ i → 10 - i = d → d < k → (0 ≤ o ∧ o ≤ i) → (0 ≤ y ∧ y ≤ 28) → Agr (G11_chance_33 k m x y o s i) (G12_chance_47 k v x y j o i) := by
  intro d
  induction d with
  | zero =>
    intro k i o s m v h hx h65 hs a1 a2 a3 a4 hy
    obtain ⟨k, rfl⟩ : ∃ j, k = j + 1 := ⟨k - 1, by omega⟩
    rw [G11_chance_33, G12_chance_47, if_pos (by omega), if_pos (by omega), wt_e]
    exact agr0 h _ rfl rfl
  | succ d ih =>
    intro k i o s m v h hx h65 hs a1 a2 a3 a4 hy
    obtain ⟨k, rfl⟩ : ∃ j, k = j + 1 := ⟨k - 1, by omega⟩
    obtain ⟨T, w, g, n, t1, t2, hc, hn, hW, hG, hE, hS, hR, hV, hL, -, -, hN⟩ := h.use
    have hw := hW.1
    unfold WS at hw
    obtain ⟨f1, f2, _, _⟩ := ff_spec (w := w) (by omega) (n 0 0)
    have g0 : Fm PRn (up v 0 65 j) v := by
      intro b i z
      have : ¬ (b = 0 ∧ i = 65) := fun q => z (Or.inr q)
      exact (if_neg this).symm
    have hR0 := hR.rn g0
    have hB0 := hV.b0.fr (by omega) g0
    have hx0 := hx w hR0
    have hrule := hS.1.1
    obtain ⟨m', n', e1, g1, t, n1⟩ := c_runBy t2 hc hn hW hG hS hN (r := n 0 1) (by omega) hs
    obtain ⟨v1, v2, e2, e64, e3, g3, h66, n2⟩ := r_lg hW hS hR0 hB0 (by rw [g0 0 66 (by unfold PRn PMq; omega)]; exact hV.2.2.2.2) t (by omega) hs h65
    rw [rnd_ge hE (by omega) _ _ _ f1 (by omega)] at n1
    have hB := (rnd_nb (g := gM w (-1)) hW (w 8 1 - ff w (n 0 0)).toNat (ff w (n 0 0)) (2 * ff w (n 0 0)) n' f1 (by omega) (by omega) (TR_nb hW hS.1 (by omega) t (by omega) hs)).1
    generalize rnd w (gM w (-1)) (w 8 1 - ff w (n 0 0)).toNat (ff w (n 0 0)) n' = N at *
    have e69 : m 69 1 = n 0 1 := hn.2.1 1
    have ek : v1 0 64 = n 0 1 := by rw [e64]; exact hB0.2.2.2
    rw [G11_chance_33, G12_chance_47, if_neg (by omega), if_neg (by omega), e69, e1, bs1, e2, bs1, ek, e3, bs1, gdx_t (by omega), gdx_t (by omega)]
    have k2 : m' (76 + 2) x = N 2 x := n1.2.2 2 x (by omega)
    have k3 : v2 26 (5 + x) = N 2 x := by have := (n2.1 x hx0.1 hx0.2).2.1; rwa [show 5 * (1 : Int) + x = 5 + x by omega] at this
    have k4 : m' 76 2 = N 0 2 := n1.2.1 2
    rw [k2, k3, k4]
    have h' : Rel m' (up v2 0 65 j) := h.q g1 (by
      intro b i z
      by_cases c : b = 0 ∧ i = 65
      · rw [c.1, c.2, up_e, up_e]
      · have c1 : up v2 0 65 j b i = v2 b i := if_neg c
        have c2 : up v 0 65 j b i = v b i := if_neg c
        rw [c1, c2]
        exact g3 b i (by unfold PRn; exact fun y => y.elim z c))
    have hx' : ∀ w, RT v2 w → 0 ≤ x ∧ x < w 1 0 := fun w' hw' => by
      have : w' 1 0 = w 1 0 := by rw [← hw'.1.2.2.1, ← (hR0.rn g3).1.2.2.1]
      rw [this]; exact hx0
    have hn2 : v2 0 65 = N 0 2 := n2.2.2.2.2
    have hb2 := hB.1
    have ga : ∀ y : Option (Int × Mem), gd3 (i + 1) y = y := fun y => gd3_t (by omega)
    have gb : ∀ y : Option (Int × Mem), gd3 (o + 1) y = y := fun y => gd3_t (by omega)
    have gc : ∀ y : Option (Int × Mem), gd3 (o + 0) y = y := fun y => gd3_t (by omega)
    simp only [ga, gb, gc]
    by_cases c : N 2 x < y
    · rw [if_pos c, if_pos c, Int.add_zero]
      exact ih k (i + 1) o (N 0 2) m' v2 h' hx' hn2 (by omega) (by omega) (by omega) (by omega) (by omega) hy
    · rw [if_neg c, if_neg c]
      exact ih k (i + 1) (o + 1) (N 0 2) m' v2 h' hx' hn2 (by omega) (by omega) (by omega) (by omega) (by omega) hy
theorem a_chance (h : Rel m v) (x y z : Int) (hx : x ≤ 2147483647) : Agr (G11_chance m x y z) (G12_chance v x y z) := by
  have h1 := h.v0
  unfold G11_chance G11_chance_0 G12_chance G12_chance_0
  rw [wt_e]
  generalize up v 0 2 0 = u at h1 ⊢
  obtain ⟨T, w, g, n, t1, t2, hc, hn, hW, hG, hE, hS, hR, hV, hL, -, -, hN⟩ := h1.use
  by_cases c1 : x < 0
  · rw [if_pos c1, if_pos c1]; exact agr0 h1 _ rfl rfl
  · rw [if_neg c1, if_neg c1, c_isS t2 hc.1, r_isS hR, bs1, bs1]
    by_cases c2 : 0 ≤ y ∧ y < w 1 0
    · simp only [if_pos c2, if_neg i10]
      rw [r_isIn, bs1]
      by_cases c3 : 0 ≤ z ∧ z ≤ 28
      · simp only [if_pos c3, if_neg i10, if_neg (show ¬ z < 0 by omega), if_pos c3.2]
        rw [wt_e]
        have eu : up (up u 0 65 x) 0 65 (u 0 65) = u := by
          funext b i
          by_cases c : b = 0 ∧ i = 65
          · rw [c.1, c.2, up_e]
          · have e1 : up (up u 0 65 x) 0 65 (u 0 65) b i = up u 0 65 x b i := if_neg c
            have e2 : up u 0 65 x b i = u b i := if_neg c
            rw [e1, e2]
        refine chance_l 10 1024 0 0 x m (up u 0 65 x) (by rw [eu]; exact h1) (fun w' hw' => ?_) up_e (by omega) (by omega) (by omega) (by omega) (by omega) c3
        have : w' 1 0 = w 1 0 := by rw [← hw'.1.2.2.1, ← hR.1.2.2.1, up_i (by omega)]
        rw [this]; exact c2
      · simp only [if_neg c3, if_true]
        by_cases q : z < 0
        · rw [if_pos q]; exact agr0 h1 _ rfl rfl
        · rw [if_neg q, if_neg (by omega)]; exact agr0 h1 _ rfl rfl
    · simp only [if_neg c2, if_true]; exact agr0 h1 _ rfl rfl
end Q7
