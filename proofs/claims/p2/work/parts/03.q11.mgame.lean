/-! The game of two: the reference. -/
section Q11
variable {m v w g n : Mem} {T : Nat}
theorem r_b51 (h : RT v w) (hW : WW w) {x dy y : Int} (hx : -1 ≤ x ∧ x ≤ 8) (hd : -1 ≤ dy ∧ dy ≤ 1) (hy : 0 ≤ y ∧ y ≤ 6) : G12_beside_51 v x dy y = some ((if 0 ≤ x ∧ x ≤ w 0 0 - 1 then (if 0 ≤ y + dy ∧ y + dy ≤ w 0 1 - 1 then w 0 0 * (y + dy) + x else -1) else -1), v) := by
  have hw := hW.1
  unfold WS at hw
  unfold G12_beside_51
  rw [h.1.1, gd3_t (by omega), r_isIn, bs1]
  by_cases c1 : 0 ≤ x ∧ x ≤ w 0 0 - 1
  · simp only [if_pos c1, if_neg i10]
    rw [gd3_t (by omega), h.1.2.1, gd3_t (by omega), r_isIn, bs1]
    by_cases c2 : 0 ≤ y + dy ∧ y + dy ≤ w 0 1 - 1
    · have e1 := Int.mul_nonneg (show 0 ≤ w 0 0 by omega) c2.1
      have e2 : w 0 0 * (y + dy) ≤ 8 * (y + dy) := Int.mul_le_mul_of_nonneg_right (by omega) c2.1
      simp only [if_pos c2, if_neg i10]
      rw [h.1.1, gd3_t (by omega)]
    · simp only [if_neg c2, if_true]
  · simp only [if_neg c1, if_true]
theorem r_b25 (h : RT v w) (hW : WW w) {c way dx x : Int} (hx : 0 ≤ x ∧ x < w 0 0) (hd : -1 ≤ dx ∧ dx ≤ 1) (hc : 0 ≤ c ∧ c < w 0 0 * w 0 1) : G12_beside_25 v c way dx x = some ((if 0 ≤ x + dx ∧ x + dx ≤ w 0 0 - 1 then (if 0 ≤ c / w 0 0 + (if way = 2 then 1 else if way = 0 then -1 else 0) ∧ c / w 0 0 + (if way = 2 then 1 else if way = 0 then -1 else 0) ≤ w 0 1 - 1 then w 0 0 * (c / w 0 0 + (if way = 2 then 1 else if way = 0 then -1 else 0)) + (x + dx) else -1) else -1), v) := by
  have hw := hW.1
  unfold WS at hw
  obtain ⟨b1, b2, b3, b4, e, b5⟩ := cell_b (W := w 0 0) (H := w 0 1) (by omega) (by omega) hc
  unfold G12_beside_25
  rw [h.1.1, if_neg (by omega)]
  by_cases c1 : way = 2
  · simp only [if_pos c1]
    rw [gd3_t (by omega), gdd_t (by omega), r_b51 h hW (by omega) (by omega) (by omega)]
  · simp only [if_neg c1]
    by_cases c2 : way = 0
    · simp only [if_pos c2]
      rw [gd3_t (by omega), gdd_t (by omega), r_b51 h hW (by omega) (by omega) (by omega)]
    · simp only [if_neg c2]
      rw [gd3_t (by omega), gdd_t (by omega), r_b51 h hW (by omega) (by omega) (by omega)]
theorem r_bsd (h : RT v w) (hW : WW w) {c way : Int} (hc : 0 ≤ c ∧ c < w 0 0 * w 0 1) : G12_beside v c way = some (bsd w c way, v) := by
  have hw := hW.1
  unfold WS at hw
  obtain ⟨b1, b2, b3, b4, e, b5⟩ := cell_b (W := w 0 0) (H := w 0 1) (by omega) (by omega) hc
  have k1 : w 0 0 * (c / w 0 0 + 1) = w 0 0 * (c / w 0 0) + w 0 0 := by rw [Int.mul_add, Int.mul_one]
  have k2 : w 0 0 * (c / w 0 0 + -1) = w 0 0 * (c / w 0 0) - w 0 0 := by rw [Int.mul_add, Int.mul_neg, Int.mul_one]; omega
  unfold G12_beside G12_beside_0
  rw [h.1.1, if_neg (by omega)]
  unfold bsd
  by_cases c1 : way = 1
  · simp only [if_pos c1, if_neg (show ¬ way = 0 by omega)]
    rw [gdd_t (by omega), r_b25 h hW ⟨b1, b2⟩ (by omega) hc]
    simp only [if_neg (show ¬ way = 2 by omega), if_neg (show ¬ way = 0 by omega), Int.add_zero]
    congr 2
    split
    · rw [if_pos (by omega), if_neg (by omega)]; omega
    · rw [if_pos (by omega)]
  · simp only [if_neg c1]
    by_cases c3 : way = 3
    · simp only [if_pos c3, if_neg (show ¬ way = 0 by omega), if_neg (show ¬ way = 2 by omega)]
      rw [gdd_t (by omega), r_b25 h hW ⟨b1, b2⟩ (by omega) hc]
      simp only [if_neg (show ¬ way = 2 by omega), if_neg (show ¬ way = 0 by omega), Int.add_zero]
      congr 2
      split
      · rw [if_pos (by omega), if_neg (by omega)]; omega
      · rw [if_pos (by omega)]
    · simp only [if_neg c3]
      rw [gdd_t (by omega), r_b25 h hW ⟨b1, b2⟩ (by omega) hc, Int.add_zero, if_pos (by omega)]
      congr 2
      by_cases c2 : way = 2
      · simp only [if_pos c2, if_neg (show ¬ way = 0 by omega)]
        split
        · rw [if_neg (by omega)]; omega
        · rw [if_pos (by omega)]
      · simp only [if_neg c2]
        by_cases c0 : way = 0
        · simp only [if_pos c0]
          split
          · rw [if_neg (by omega)]; omega
          · rw [if_pos (by omega)]
        · simp only [if_neg c0, Int.add_zero]
          rw [if_pos (by omega)]; omega
theorem r_way {i : Int} (hi : 0 ≤ i ∧ i < 5) : G12_wayAt v i = some (gw i, v) := by
  unfold G12_wayAt G12_wayAt_0 gw
  by_cases c : i = 0
  · rw [if_pos c, if_pos c]
  · rw [if_neg c, if_neg c, gd3_t (by omega)]
theorem r_to (h : RT v w) (hW : WW w) {s i : Int} (hs : 0 ≤ s ∧ s < w 1 0) (hi : 0 ≤ i ∧ i < 5) (h25 : v 25 s = n 1 s) (hc : 0 ≤ n 1 s ∧ n 1 s < w 0 0 * w 0 1) : G12_comesTo v s (gw i) = some (cAy w n s i, v) := by
  have hw := hW.1
  unfold WS at hw
  unfold G12_comesTo G12_comesTo_0 cAy
  rw [gdx_t (by omega), h25]
  by_cases c : gw i = 4
  · rw [if_pos c, c]; rfl
  · rw [if_neg c, gdx_t (by omega), r_bsd h hW hc, bs1]
/-- sums from a wave on, none before lo -/
def sfr (f : Int → Int) (K lo i : Int) : Int := if i ≤ lo then smd f (K - lo).toNat lo else smd f (K - i).toNat i
theorem sfr_lt {f : Int → Int} {K lo i : Int} (h : i < lo) : sfr f K lo i = sfr f K lo (i + 1) := by unfold sfr; rw [if_pos (by omega), if_pos (by omega)]
theorem sfr_ge {f : Int → Int} {K lo i : Int} (h : lo ≤ i) (hk : i < K) : sfr f K lo i = f i + sfr f K lo (i + 1) := by
  have e : ∀ j, j < K → smd f (K - j).toNat j = f j + smd f (K - (j + 1)).toNat (j + 1) := fun j hj => by
    rw [show (K - j).toNat = (K - (j + 1)).toNat + 1 by omega, smd_s]
  unfold sfr
  rw [if_neg (show ¬ i + 1 ≤ lo by omega)]
  split
  · rw [show lo = i by omega]; exact e i hk
  · exact e i hk
theorem sfr_z {f : Int → Int} {K lo i : Int} (h : K ≤ i) (hl : lo ≤ K) : sfr f K lo i = 0 := by
  unfold sfr
  split
  · rw [show (K - lo).toNat = 0 by omega]; rfl
  · rw [show (K - i).toNat = 0 by omega]; rfl
theorem ff_toc (hW : WW w) {x i : Int} (hi : 0 ≤ i ∧ i < w 8 1) : x ≤ w 11 i ↔ ff w x ≤ i := by
  have hw := hW.1
  unfold WS at hw
  obtain ⟨v1, v2, v3, v4⟩ := ff_spec (w := w) (by omega) x
  constructor
  · intro h
    rcases Int.lt_or_le i (ff w x) with z | z
    · have := v3 i hi.1 z; omega
    · exact z
  · intro h
    have h4 := v4 (by omega)
    by_cases z2 : i = ff w x
    · rw [z2]; exact h4
    · have := wv_lt hW v1 (show ff w x < i by omega) (by omega); omega
def PG (q : Int) : Nat → Int → Prop := fun b i => PNm b i ∨ ((b = 35 ∨ b = 36) ∧ i = q)
def PG0 : Nat → Int → Prop := fun b i => PNm b i ∨ b = 35 ∨ b = 36
theorem PG_0 {q : Int} : ∀ b i, PG q b i → PG0 b i := by intro b i h; rcases h with h | h; exact Or.inl h; exact Or.inr h.1
theorem PG_q : ∀ b i, PG0 b i → PMq b i := by intro b i h; unfold PG0 PNm at h; unfold PMq; omega
theorem gn_b (hW : WW w) {s t a b k : Int} {o : Bool} (hk : 0 ≤ k ∧ k < w 8 1) (ha : 0 ≤ a ∧ a < w 0 0 * w 0 1) (hb : 0 ≤ b ∧ b < w 0 0 * w 0 1) : (0 ≤ gnO w s a b o k ∧ gnO w s a b o k ≤ 900) ∧ (0 ≤ gnT w t a b o k ∧ gnT w t a b o k ≤ 900) := by
  have h1 := wov_b hW (s := s) hk ha
  have h2 := wov_b hW (s := t) hk hb
  unfold gnO gnT
  constructor <;> split <;> omega
theorem r_lg78 (hW : WW w) (hS : SN w n) {s t p a b : Int} (hs : 0 ≤ s ∧ s < w 1 0) (ht : 0 ≤ t ∧ t < w 1 0) (hp : 0 ≤ p ∧ p < 25) (ha : 0 ≤ a ∧ a < w 0 0 * w 0 1) (hb : 0 ≤ b ∧ b < w 0 0 * w 0 1) {kk : Mem → Int → Int → Int → Option Mem} : ∀ (d f : Nat) (i : Int) (v : Mem), 0 ≤ i → w 8 1 - i = d → d < f → RT v w → SV w n v → (0 ≤ v 35 p ∧ v 35 p ≤ 900 * i) → (0 ≤ v 36 p ∧ v 36 p ≤ 900 * i) → ∃ v', G12_layGame_78 kk f v s t p a b i = kk v' s t (p + 1) ∧ Fm (PG p) v v' ∧ v' 35 p = v 35 p + sfr (gnO w s a b (decide (s < t))) (w 8 1) (ff w (n 0 0)) i ∧ v' 36 p = v 36 p + sfr (gnT w t a b (decide (s < t))) (w 8 1) (ff w (n 0 0)) i := by
  have hw := hW.1
  unfold WS at hw
  obtain ⟨w1, w2, _, _⟩ := ff_spec (w := w) (by omega) (n 0 0)
  intro d
  induction d with
  | zero =>
    intro f i v a1 a2 a3 hR hV h35 h36
    obtain ⟨f, rfl⟩ : ∃ j, f = j + 1 := ⟨f - 1, by omega⟩
    rw [G12_layGame_78, hR.1.2.2.2.2.1, if_pos (by omega), gd3_t (by omega), sfr_z (by omega) w2, sfr_z (by omega) w2]
    exact ⟨v, rfl, Fm.rf, by omega, by omega⟩
  | succ d ih =>
    intro f i v a1 a2 a3 hR hV h35 h36
    obtain ⟨f, rfl⟩ : ∃ j, f = j + 1 := ⟨f - 1, by omega⟩
    have hi : 0 ≤ i ∧ i < w 8 1 := by omega
    have hto := ff_toc hW (x := n 0 0) hi
    rw [G12_layGame_78, hR.1.2.2.2.2.1, if_neg (by omega), r_toC hR hS hV (by omega), bs1]
    by_cases c1 : n 0 0 ≤ w 11 i
    · have hlo := hto.mp c1
      simp only [if_pos (show (0 ≤ i ∧ i < w 8 1) ∧ n 0 0 ≤ w 11 i from ⟨hi, c1⟩), if_neg i10]
      have hm := (hW.2.2.2.1 i hi.1 hi.2).2.1
      have e12 := (hR.2.2.2.2.1 i hi.1 hi.2).1
      obtain ⟨u1, e1, g1⟩ := m_pk hR hW (mn := w 11 i) (by omega)
      rw [gdx_t (by omega), e12, e1, bs1, hV.2.2.2.2]
      have hx := pxM_b (way := -1) (mn := w 11 i) hW
      have hR1 := hR.pn g1
      have hV1 := hV.q (by omega) (g1.mono PNm_q)
      rw [m_far hR1 hW ha hx, bs1]
      simp only
      rw [m_far hR1 hW hb hx, bs1]
      simp only
      rw [← gM3]
      have hg := gn_b hW (s := s) (t := t) (a := a) (b := b) (o := decide (s < t)) hi ha hb
      have r35 : u1 35 = v 35 := funext fun j => g1 35 j (by unfold PNm; omega)
      have r36 : u1 36 = v 36 := funext fun j => g1 36 j (by unfold PNm; omega)
      have one : cnd w a b (decide (s < t)) i = true → ∃ v', G12_layGame_151 kk (fun m x1 x2 x3 x4 x5 x6 => G12_layGame_78 kk f m x1 x2 x3 x4 x5 x6) u1 s t p a b i = kk v' s t (p + 1) ∧ Fm (PG p) v v' ∧ v' 35 p = v 35 p + sfr (gnO w s a b (decide (s < t))) (w 8 1) (ff w (n 0 0)) i ∧ v' 36 p = v 36 p + sfr (gnT w t a b (decide (s < t))) (w 8 1) (ff w (n 0 0)) i := by
        intro z
        have eO : gnO w s a b (decide (s < t)) i = worthV w (gM w (-1) 1 s) (gM w (-1) 3 i) i a := by unfold gnO; rw [if_pos z]; rfl
        have eT : gnT w t a b (decide (s < t)) i = 0 := by unfold gnT; rw [if_pos z]
        obtain ⟨u2, e2, g2⟩ := r_gain hR1 hW hV1.2.2.2.2 hs hi ha
        rw [← eO] at e2
        have s35 : u2 35 = v 35 := by rw [← r35]; exact funext fun j => g2 35 j (by unfold PNm; omega)
        have s36 : u2 36 = v 36 := by rw [← r36]; exact funext fun j => g2 36 j (by unfold PNm; omega)
        unfold G12_layGame_151
        rw [gdx_t (by omega), e2, bs1]
        simp only
        rw [gdx_t (by omega), r35, gd3_t (by omega), wt_e, gd3_t (by omega)]
        have g3 : Fm (PG p) v (up u2 35 p (v 35 p + gnO w s a b (decide (s < t)) i)) := ((g1.tr g2).mono (fun b i y => Or.inl y)).w (Or.inr ⟨Or.inl rfl, rfl⟩)
        have gq : Fm PMq v (up u2 35 p (v 35 p + gnO w s a b (decide (s < t)) i)) := (g3.mono PG_0).mono PG_q
        obtain ⟨v', z1, z2, z3, z4⟩ := ih f (i + 1) (up u2 35 p (v 35 p + gnO w s a b (decide (s < t)) i)) (by omega) (by omega) (by omega) (hR.q gq) (hV.q (by omega) gq) (by rw [up_e]; omega) (by rw [up_a (by omega), s36]; omega)
        refine ⟨v', z1, g3.tr z2, ?_, ?_⟩
        · rw [z3, up_e, sfr_ge hlo hi.2]; omega
        · rw [z4, up_a (by omega), s36, sfr_ge hlo hi.2, eT]; omega
      have two : ¬ cnd w a b (decide (s < t)) i = true → ∃ v', G12_layGame_172 kk (fun m x1 x2 x3 x4 x5 x6 => G12_layGame_78 kk f m x1 x2 x3 x4 x5 x6) u1 s t p a b i = kk v' s t (p + 1) ∧ Fm (PG p) v v' ∧ v' 35 p = v 35 p + sfr (gnO w s a b (decide (s < t))) (w 8 1) (ff w (n 0 0)) i ∧ v' 36 p = v 36 p + sfr (gnT w t a b (decide (s < t))) (w 8 1) (ff w (n 0 0)) i := by
        intro z
        have eO : gnO w s a b (decide (s < t)) i = 0 := by unfold gnO; rw [if_neg z]
        have eT : gnT w t a b (decide (s < t)) i = worthV w (gM w (-1) 1 t) (gM w (-1) 3 i) i b := by unfold gnT; rw [if_neg z]; rfl
        obtain ⟨u2, e2, g2⟩ := r_gain hR1 hW hV1.2.2.2.2 ht hi hb
        rw [← eT] at e2
        have s35 : u2 35 = v 35 := by rw [← r35]; exact funext fun j => g2 35 j (by unfold PNm; omega)
        have s36 : u2 36 = v 36 := by rw [← r36]; exact funext fun j => g2 36 j (by unfold PNm; omega)
        unfold G12_layGame_172
        rw [gdx_t (by omega), e2, bs1]
        simp only
        rw [gdx_t (by omega), r36, gd3_t (by omega), wt_e, gd3_t (by omega)]
        have g3 : Fm (PG p) v (up u2 36 p (v 36 p + gnT w t a b (decide (s < t)) i)) := ((g1.tr g2).mono (fun b i y => Or.inl y)).w (Or.inr ⟨Or.inr rfl, rfl⟩)
        have gq : Fm PMq v (up u2 36 p (v 36 p + gnT w t a b (decide (s < t)) i)) := (g3.mono PG_0).mono PG_q
        obtain ⟨v', z1, z2, z3, z4⟩ := ih f (i + 1) (up u2 36 p (v 36 p + gnT w t a b (decide (s < t)) i)) (by omega) (by omega) (by omega) (hR.q gq) (hV.q (by omega) gq) (by rw [up_a (by omega), s35]; omega) (by rw [up_e]; omega)
        refine ⟨v', z1, g3.tr z2, ?_, ?_⟩
        · rw [z3, up_a (by omega), s35, sfr_ge hlo hi.2, eO]; omega
        · rw [z4, up_e, sfr_ge hlo hi.2]; omega
      have hcd : cnd w a b (decide (s < t)) i = true ↔ (fr w a (gM w (-1) 3 i) < fr w b (gM w (-1) 3 i) ∨ (fr w a (gM w (-1) 3 i) = fr w b (gM w (-1) 3 i) ∧ s < t)) := by unfold cnd; simp only [Bool.or_eq_true, Bool.and_eq_true, decide_eq_true_iff]
      by_cases d1 : fr w a (gM w (-1) 3 i) < fr w b (gM w (-1) 3 i)
      · rw [if_pos d1]; exact one (hcd.mpr (Or.inl d1))
      · rw [if_neg d1]
        by_cases d2 : fr w a (gM w (-1) 3 i) = fr w b (gM w (-1) 3 i)
        · rw [if_pos d2]
          by_cases d3 : t ≤ s
          · rw [if_pos d3]; exact two (fun y => by rcases hcd.mp y with q | q; exact d1 q; omega)
          · rw [if_neg d3]; exact one (hcd.mpr (Or.inr ⟨d2, by omega⟩))
        · rw [if_neg d2]; exact two (fun y => by rcases hcd.mp y with q | q; exact d1 q; exact d2 q.1)
    · have hlo : i < ff w (n 0 0) := by
        rcases Int.lt_or_le i (ff w (n 0 0)) with z | z
        · exact z
        · exact absurd (hto.mpr z) c1
      simp only [if_neg (show ¬ ((0 ≤ i ∧ i < w 8 1) ∧ n 0 0 ≤ w 11 i) from fun q => c1 q.2), if_true]
      rw [gd3_t (by omega)]
      obtain ⟨v', z1, z2, z3, z4⟩ := ih f (i + 1) v (by omega) (by omega) (by omega) hR hV (by omega) (by omega)
      rw [sfr_lt hlo, sfr_lt hlo]
      exact ⟨v', z1, z2, z3, z4⟩
/-- what is laid for pair p -/
def LGp (v w n : Mem) (s t p : Int) : Prop := (cAy w n s (p / 5) ≠ -1 ∧ cAy w n t (p % 5) ≠ -1 ∧ v 35 p = sO w s (cAy w n s (p / 5)) (cAy w n t (p % 5)) (decide (s < t)) (ff w (n 0 0)) ∧ v 36 p = sT w t (cAy w n s (p / 5)) (cAy w n t (p % 5)) (decide (s < t)) (ff w (n 0 0)) ∧ 0 ≤ v 35 p ∧ 0 ≤ v 36 p) ∨ ((cAy w n s (p / 5) = -1 ∨ cAy w n t (p % 5) = -1) ∧ v 35 p = -1 ∧ v 36 p = -1)
theorem LGp.fr {v v' : Mem} {s t p q : Int} (h : LGp v w n s t p) (f : Fm (PG q) v v') (hq : p ≠ q) : LGp v' w n s t p := by
  unfold LGp at *
  rw [f 35 p (by unfold PG PNm; omega), f 36 p (by unfold PG PNm; omega)]
  exact h
theorem r_lg2 (hW : WW w) (hS : SN w n) {s t : Int} (hs : 0 ≤ s ∧ s < w 1 0) (ht : 0 ≤ t ∧ t < w 1 0) : ∀ (d f : Nat) (p : Int) (v : Mem), 0 ≤ p → 25 - p = d → d < f → RT v w → SV w n v → (∀ q, 0 ≤ q → q < p → LGp v w n s t q) → ∃ v', G12_layGame_2 f v s t p = some v' ∧ Fm PG0 v v' ∧ ∀ q, 0 ≤ q → q < 25 → LGp v' w n s t q := by
  have hw := hW.1
  unfold WS at hw
  have hcs := (hS.1.2 s hs.1 hs.2).1
  have hct := (hS.1.2 t ht.1 ht.2).1
  obtain ⟨w1, w2, _, _⟩ := ff_spec (w := w) (by omega) (n 0 0)
  intro d
  induction d with
  | zero =>
    intro f p v a1 a2 a3 hR hV h
    obtain ⟨f, rfl⟩ : ∃ j, f = j + 1 := ⟨f - 1, by omega⟩
    rw [G12_layGame_2, if_pos (by omega)]
    exact ⟨v, rfl, Fm.rf, fun q p1 p2 => h q p1 (by omega)⟩
  | succ d ih =>
    intro f p v a1 a2 a3 hR hV h
    obtain ⟨f, rfl⟩ : ∃ j, f = j + 1 := ⟨f - 1, by omega⟩
    have hd : 0 ≤ p / 5 ∧ p / 5 < 5 := by omega
    have hmo : 0 ≤ p % 5 ∧ p % 5 < 5 := by omega
    have k25 : ∀ x, 0 ≤ x → x < w 1 0 → v 25 x = n 1 x := fun x q1 q2 => by have := (hV.1.1 x q1 q2).1; rwa [show 5 * (0 : Int) + x = x by omega] at this
    rw [G12_layGame_2, if_neg (by omega), gdd_t (by omega), r_way hd, bs1]
    simp only
    rw [r_to hR hW hs hd (k25 s hs.1 hs.2) hcs, bs1]
    simp only
    rw [gdd_t (by omega), r_way hmo, bs1]
    simp only
    rw [r_to hR hW ht hmo (k25 t ht.1 ht.2) hct, bs1, gdx_t (by omega), wt_e, gdx_t (by omega), wt_e]
    simp only
    have g1 : Fm (PG p) v (up (up v 35 p (-1)) 36 p (-1)) := (Fm.w1 (Or.inr ⟨Or.inl rfl, rfl⟩)).w (Or.inr ⟨Or.inr rfl, rfl⟩)
    have bad : (cAy w n s (p / 5) = -1 ∨ cAy w n t (p % 5) = -1) → ∃ v', G12_layGame_2 f (up (up v 35 p (-1)) 36 p (-1)) s t (p + 1) = some v' ∧ Fm PG0 v v' ∧ ∀ q, 0 ≤ q → q < 25 → LGp v' w n s t q := fun z => by
      have gq := (g1.mono PG_0).mono PG_q
      obtain ⟨v', z1, z2, z3⟩ := ih f (p + 1) _ (by omega) (by omega) (by omega) (hR.q gq) (hV.q (by omega) gq) (fun q p1 p2 => by
        by_cases zq : q = p
        · subst zq
          right
          rw [up_a (show (35 : Nat) ≠ 36 by omega), up_e, up_e]
          exact ⟨z, rfl, rfl⟩
        · exact (h q p1 (by omega)).fr g1 zq)
      exact ⟨v', z1, (g1.mono PG_0).tr z2, z3⟩
    have bs := cAy_b (n := n) hW hcs hd
    have bt := cAy_b (n := n) hW hct hmo
    by_cases c1 : cAy w n s (p / 5) < 0
    · rw [if_pos c1, gd3_t (by omega)]; exact bad (Or.inl (by omega))
    · rw [if_neg c1]
      by_cases c2 : 0 ≤ cAy w n t (p % 5)
      · rw [if_pos c2, gdx_t (by omega), wt_e, gdx_t (by omega), wt_e]
        have g2 : Fm (PG p) v (up (up (up (up v 35 p (-1)) 36 p (-1)) 35 p 0) 36 p 0) := (g1.w (Or.inr ⟨Or.inl rfl, rfl⟩)).w (Or.inr ⟨Or.inr rfl, rfl⟩)
        have gq := (g2.mono PG_0).mono PG_q
        have ha : 0 ≤ cAy w n s (p / 5) ∧ cAy w n s (p / 5) < w 0 0 * w 0 1 := by omega
        have hb : 0 ≤ cAy w n t (p % 5) ∧ cAy w n t (p % 5) < w 0 0 * w 0 1 := by omega
        obtain ⟨u, e1, g3, k1, k2⟩ := r_lg78 hW hS hs ht (p := p) (by omega) ha hb (kk := fun m x1 x2 x3 => G12_layGame_2 f m x1 x2 x3) (w 8 1).toNat 1024 0 _ (by omega) (by omega) (by omega) (hR.q gq) (hV.q (by omega) gq) (by rw [up_a (by omega), up_e]; omega) (by rw [up_e]; omega)
        rw [e1]
        rw [up_a (show (35 : Nat) ≠ 36 by omega), up_e, Int.zero_add] at k1
        rw [up_e, Int.zero_add] at k2
        have g4 : Fm (PG p) v u := g2.tr g3
        have gq4 := (g4.mono PG_0).mono PG_q
        have eO : sfr (gnO w s (cAy w n s (p / 5)) (cAy w n t (p % 5)) (decide (s < t))) (w 8 1) (ff w (n 0 0)) 0 = sO w s (cAy w n s (p / 5)) (cAy w n t (p % 5)) (decide (s < t)) (ff w (n 0 0)) := by unfold sfr sO; rw [if_pos w1]
        have eT : sfr (gnT w t (cAy w n s (p / 5)) (cAy w n t (p % 5)) (decide (s < t))) (w 8 1) (ff w (n 0 0)) 0 = sT w t (cAy w n s (p / 5)) (cAy w n t (p % 5)) (decide (s < t)) (ff w (n 0 0)) := by unfold sfr sT; rw [if_pos w1]
        have bO := smd_b (f := gnO w s (cAy w n s (p / 5)) (cAy w n t (p % 5)) (decide (s < t))) (B := 900) (w 8 1 - ff w (n 0 0)).toNat (ff w (n 0 0)) (fun k p1 p2 => (gn_b hW (t := t) (by omega) ha hb).1)
        have bT := smd_b (f := gnT w t (cAy w n s (p / 5)) (cAy w n t (p % 5)) (decide (s < t))) (B := 900) (w 8 1 - ff w (n 0 0)).toNat (ff w (n 0 0)) (fun k p1 p2 => (gn_b hW (s := s) (by omega) ha hb).2)
        rw [eO] at k1
        rw [eT] at k2
        obtain ⟨v', z1, z2, z3⟩ := ih f (p + 1) u (by omega) (by omega) (by omega) (hR.q gq4) (hV.q (by omega) gq4) (fun q p1 p2 => by
          by_cases zq : q = p
          · subst zq
            exact Or.inl ⟨by omega, by omega, k1, k2, by rw [k1]; exact bO.1, by rw [k2]; exact bT.1⟩
          · exact (h q p1 (by omega)).fr g4 zq)
        exact ⟨v', z1, (g4.mono PG_0).tr z2, z3⟩
      · rw [if_neg c2, gd3_t (by omega)]; exact bad (Or.inr (by omega))
theorem r_isR13 {s t p : Int} (hp : 0 ≤ p ∧ p < 25) (h : ∀ q, 0 ≤ q → q < 25 → LGp v w n s t q) (h0 : 0 ≤ v 35 p) : ∀ (d f : Nat) (j : Int), 0 ≤ j → 5 - j = d → d < f → ∃ x, G12_isRest_13 f v p j = some (x, v) ∧ ((x = 1 ∧ ∀ q, j ≤ q → q < 5 → okJ w n s t (ff w (n 0 0)) (p / 5) (p % 5) q) ∨ (x = 0 ∧ ∃ q, j ≤ q ∧ q < 5 ∧ ¬ okJ w n s t (ff w (n 0 0)) (p / 5) (p % 5) q)) := by
  have hp0 : cAy w n s (p / 5) ≠ -1 ∧ cAy w n t (p % 5) ≠ -1 ∧ v 35 p = sO w s (cAy w n s (p / 5)) (cAy w n t (p % 5)) (decide (s < t)) (ff w (n 0 0)) ∧ v 36 p = sT w t (cAy w n s (p / 5)) (cAy w n t (p % 5)) (decide (s < t)) (ff w (n 0 0)) ∧ 0 ≤ v 35 p ∧ 0 ≤ v 36 p := by
    rcases h p hp.1 hp.2 with y | y
    · exact y
    · omega
  obtain ⟨p1, p2, p3, p4, p5, p6⟩ := hp0
  intro d
  induction d with
  | zero =>
    intro f j a1 a2 a3
    obtain ⟨f, rfl⟩ : ∃ q, f = q + 1 := ⟨f - 1, by omega⟩
    rw [G12_isRest_13, if_pos (by omega)]
    exact ⟨1, rfl, Or.inl ⟨rfl, fun q p1 p2 => by omega⟩⟩
  | succ d ih =>
    intro f j a1 a2 a3
    obtain ⟨f, rfl⟩ : ∃ q, f = q + 1 := ⟨f - 1, by omega⟩
    obtain ⟨x, ex, hx⟩ := ih f (j + 1) (by omega) (by omega) (by omega)
    rw [G12_isRest_13, if_neg (by omega), gdd_t (by omega), gdx_t (by omega), gdx_t (by omega), gdd_t (by omega), gdx_t (by omega), gdx_t (by omega), gd3_t (by omega)]
    have hA := h (5 * j + p % 5) (by omega) (by omega)
    have hB := h (p / 5 * 5 + j) (by omega) (by omega)
    unfold LGp at hA hB
    rw [show (5 * j + p % 5) / 5 = j by omega, show (5 * j + p % 5) % 5 = p % 5 by omega] at hA
    rw [show (p / 5 * 5 + j) / 5 = p / 5 by omega, show (p / 5 * 5 + j) % 5 = j by omega] at hB
    have iA : (v 35 (5 * j + p % 5) ≤ v 35 p) ↔ (cAy w n s j = -1 ∨ sO w s (cAy w n s j) (cAy w n t (p % 5)) (decide (s < t)) (ff w (n 0 0)) ≤ sO w s (cAy w n s (p / 5)) (cAy w n t (p % 5)) (decide (s < t)) (ff w (n 0 0))) := by
      rw [← p3]
      rcases hA with ⟨y1, y2, y3, y4, y5, y6⟩ | ⟨y1, y2, y3⟩
      · rw [← y3]; exact ⟨Or.inr, fun z => z.elim (fun q => absurd q y1) id⟩
      · rw [y2]
        have : cAy w n s j = -1 := by rcases y1 with q | q; exact q; exact absurd q p2
        exact ⟨fun _ => Or.inl this, fun _ => by omega⟩
    have iB : (v 36 (p / 5 * 5 + j) ≤ v 36 p) ↔ (cAy w n t j = -1 ∨ sT w t (cAy w n s (p / 5)) (cAy w n t j) (decide (s < t)) (ff w (n 0 0)) ≤ sT w t (cAy w n s (p / 5)) (cAy w n t (p % 5)) (decide (s < t)) (ff w (n 0 0))) := by
      rw [← p4]
      rcases hB with ⟨y1, y2, y3, y4, y5, y6⟩ | ⟨y1, y2, y3⟩
      · rw [← y4]; exact ⟨Or.inr, fun z => z.elim (fun q => absurd q y2) id⟩
      · rw [y3]
        have : cAy w n t j = -1 := by rcases y1 with q | q; exact absurd q p1; exact q
        exact ⟨fun _ => Or.inl this, fun _ => by omega⟩
    by_cases c1 : v 35 p < v 35 (5 * j + p % 5)
    · rw [if_pos c1]
      exact ⟨0, rfl, Or.inr ⟨rfl, j, by omega, by omega, fun y => by have := iA.mpr y.1; omega⟩⟩
    · rw [if_neg c1]
      by_cases c2 : v 36 (p / 5 * 5 + j) ≤ v 36 p
      · rw [if_pos c2]
        refine ⟨x, ex, ?_⟩
        rcases hx with ⟨y1, y2⟩ | ⟨y1, q, y2, y3, y4⟩
        · refine Or.inl ⟨y1, fun q z1 z2 => ?_⟩
          by_cases z : q = j
          · rw [z]; exact ⟨iA.mp (by omega), iB.mp c2⟩
          · exact y2 q (by omega) z2
        · exact Or.inr ⟨y1, q, by omega, y3, y4⟩
      · rw [if_neg c2]
        exact ⟨0, rfl, Or.inr ⟨rfl, j, by omega, by omega, fun y => c2 (iB.mpr y.2)⟩⟩
theorem r_isR {s t p : Int} (hp : 0 ≤ p ∧ p < 25) (h : ∀ q, 0 ≤ q → q < 25 → LGp v w n s t q) : G12_isRest v p = some ((if okR w n s t (ff w (n 0 0)) (p / 5) (p % 5) = true then 1 else 0), v) := by
  unfold G12_isRest G12_isRest_0
  rw [gdx_t (by omega)]
  by_cases c : 0 ≤ v 35 p
  · rw [if_pos c]
    obtain ⟨x, e, hx⟩ := r_isR13 hp h c 5 1024 0 (by omega) (by omega) (by omega)
    rw [e]
    congr 2
    rcases hx with ⟨y1, y2⟩ | ⟨y1, q, y2, y3, y4⟩
    · have hh := h p hp.1 hp.2
      unfold LGp at hh
      have c1 : cAy w n s (p / 5) ≠ -1 ∧ cAy w n t (p % 5) ≠ -1 := by omega
      rw [if_pos (okR_iff.mpr ⟨c1.1, c1.2, fun j p q => y2 j p q⟩), y1]
    · rw [if_neg (fun z => y4 ((okR_iff.mp z).2.2 q y2 y3)), y1]
  · rw [if_neg c, if_neg]
    intro z
    have := okR_iff.mp z
    have hh := h p hp.1 hp.2
    unfold LGp at hh
    omega
theorem r_ra {s t x : Int} (hx : -1 ≤ x ∧ x ≤ 2147483647) (h : ∀ q, 0 ≤ q → q < 25 → LGp v w n s t q) : ∀ (d f : Nat) (p c : Int), 0 ≤ p → 25 - p = d → d < f → (0 ≤ c ∧ c ≤ p) → (x = -1 ∨ c ≤ x) → G12_restAt_12 f v x c p = some ((if 0 ≤ x then nth (rsL (okR w n s t (ff w (n 0 0))) d p) (x - c) else c + (rsL (okR w n s t (ff w (n 0 0))) d p).length), v) := by
  intro d
  induction d with
  | zero =>
    intro f p c a1 a2 a3 a4 a5
    obtain ⟨f, rfl⟩ : ∃ q, f = q + 1 := ⟨f - 1, by omega⟩
    rw [G12_restAt_12, if_pos (by omega)]
    have e : rsL (okR w n s t (ff w (n 0 0))) 0 p = [] := rfl
    rw [e]
    by_cases c1 : 0 ≤ x
    · rw [if_pos c1, if_pos c1]
      unfold nth
      rw [if_pos (by simp; omega)]
    · rw [if_neg c1, if_neg c1]
      simp
  | succ d ih =>
    intro f p c a1 a2 a3 a4 a5
    obtain ⟨f, rfl⟩ : ∃ q, f = q + 1 := ⟨f - 1, by omega⟩
    rw [G12_restAt_12, if_neg (by omega), r_isR ⟨a1, by omega⟩ h, bs1, rsL_s]
    by_cases c1 : okR w n s t (ff w (n 0 0)) (p / 5) (p % 5) = true
    · simp only [if_pos c1, if_neg i10]
      have b1 := gw_b (i := p / 5) (by omega)
      have b2 := gw_b (i := p % 5) (by omega)
      by_cases c2 : c = x
      · rw [if_pos c2, gdd_t (by omega), r_way (by omega), bs1]
        simp only
        rw [gdd_t (by omega), r_way (by omega), bs1]
        simp only
        rw [gd3_t (by omega), if_pos (by omega), nth_c _ _ (by omega), if_pos (by omega)]
      · rw [if_neg c2, gd3_t (by omega), gd3_t (by omega), ih f (p + 1) (c + 1) (by omega) (by omega) (by omega) (by omega) (by omega)]
        congr 2
        by_cases c3 : 0 ≤ x
        · rw [if_pos c3, if_pos c3, nth_c _ _ (by omega), if_neg (by omega), show x - c - 1 = x - (c + 1) by omega]
        · rw [if_neg c3, if_neg c3]; simp; omega
    · simp only [if_neg c1, if_true]
      rw [gd3_t (by omega), ih f (p + 1) c (by omega) (by omega) (by omega) (by omega) (by omega)]
theorem r_rest (hR : RT v w) (hW : WW w) (hS : SN w n) (hV : SV w n v) {s t x : Int} (hs : 0 ≤ s ∧ s < w 1 0) (ht : 0 ≤ t ∧ t < w 1 0) (hx : -1 ≤ x ∧ x ≤ 2147483647) : ∃ v', G12_restAt v s t x = some ((if 0 ≤ x then nth (rsL (okR w n s t (ff w (n 0 0))) 25 0) x else ((rsL (okR w n s t (ff w (n 0 0))) 25 0).length : Int)), v') ∧ Fm PMq v v' := by
  unfold G12_restAt G12_restAt_0 G12_layGame G12_layGame_0
  obtain ⟨u, e, g1, k⟩ := r_lg2 hW hS hs ht 25 1024 0 v (by omega) (by omega) (by omega) hR hV (fun q p1 p2 => by omega)
  rw [e, bs1, r_ra hx k 25 1024 0 0 (by omega) (by omega) (by omega) (by omega) (by omega), Int.sub_zero, Int.zero_add]
  exact ⟨u, rfl, g1.mono PG_q⟩
theorem rsL_len (ok : Int → Int → Bool) : ∀ (e : Nat) (p : Int), (rsL ok e p).length ≤ e := by
  intro e
  induction e with
  | zero => intro p; exact Nat.le_refl 0
  | succ e ihe => intro p; rw [rsL_s]; split <;> have := ihe (p + 1) <;> simp <;> omega
theorem Rel.w102 (h : Rel m v) : W102 m := by obtain ⟨T, _, _, _, _, _, _, a3⟩ := h; exact a3
theorem a_rests (h : Rel m v) (x y : Int) : Agr (G11_rests m x y) (G12_rests v x y) := by
  have h1 := h.v0
  unfold G11_rests G11_rests_0 G12_rests G12_rests_0
  rw [wt_e]
  generalize up v 0 2 0 = u at h1 ⊢
  obtain ⟨T, w, g, n, t1, t2, hc, hn, hW, hG, hE, hS, hR, hV, hL, -, -, -⟩ := h1.use
  rw [c_isS t2 hc.1, r_isS hR, bs1, bs1]
  by_cases c1 : 0 ≤ x ∧ x < w 1 0
  · simp only [if_pos c1, if_neg i10]
    rw [c_isS t2 hc.1, r_isS hR, bs1, bs1]
    by_cases c2 : 0 ≤ y ∧ y < w 1 0
    · simp only [if_pos c2, if_neg i10]
      by_cases c3 : x = y
      · rw [if_pos c3, if_pos c3]; exact agr0 h1 _ rfl rfl
      · rw [if_neg c3, if_neg c3]
        obtain ⟨m1, e1, g1, w1, k1, k2⟩ := c_game t2 hc hn hW hG hE h1.w102 c1 c2 (hS.1.2 x c1.1 c1.2).1 (hS.1.2 y c2.1 c2.2).1
        obtain ⟨u1, e2, g2⟩ := r_rest hR hW hS hV c1 c2 (x := -1) (by omega)
        rw [e1, bs1, e2, bs1, k1, if_neg (by omega)]
        exact ⟨_, _, _, rfl, rfl, h1.q2 g1 w1 g2⟩
    · simp only [if_neg c2, if_true]; exact agr0 h1 _ rfl rfl
  · simp only [if_neg c1, if_true]; exact agr0 h1 _ rfl rfl
theorem a_rest (h : Rel m v) (x y z : Int) (hz : z ≤ 2147483647) : Agr (G11_rest m x y z) (G12_rest v x y z) := by
  have h1 := h.v0
  unfold G11_rest G11_rest_0 G12_rest G12_rest_0
  rw [wt_e]
  generalize up v 0 2 0 = u at h1 ⊢
  obtain ⟨T, w, g, n, t1, t2, hc, hn, hW, hG, hE, hS, hR, hV, hL, -, -, -⟩ := h1.use
  rw [c_isS t2 hc.1, r_isS hR, bs1, bs1]
  by_cases c1 : 0 ≤ x ∧ x < w 1 0
  · simp only [if_pos c1, if_neg i10]
    rw [c_isS t2 hc.1, r_isS hR, bs1, bs1]
    by_cases c2 : 0 ≤ y ∧ y < w 1 0
    · simp only [if_pos c2, if_neg i10]
      by_cases c3 : x = y
      · rw [if_pos c3, if_pos c3]; exact agr0 h1 _ rfl rfl
      · rw [if_neg c3, if_neg c3]
        by_cases c4 : 0 ≤ z
        · rw [if_pos c4, if_neg (show ¬ z < 0 by omega)]
          obtain ⟨m1, e1, g1, w1, k1, k2⟩ := c_game t2 hc hn hW hG hE h1.w102 c1 c2 (hS.1.2 x c1.1 c1.2).1 (hS.1.2 y c2.1 c2.2).1
          obtain ⟨u1, e2, g2⟩ := r_rest hR hW hS hV c1 c2 (x := z) (by omega)
          have hl := rsL_len (okR w n x y (ff w (n 0 0))) 25 0
          rw [e1, bs1, e2, bs1, k1, if_pos c4]
          unfold nth
          by_cases c5 : ((rsL (okR w n x y (ff w (n 0 0))) 25 0).length : Int) ≤ z
          · rw [if_pos c5, if_pos c5]
            exact ⟨_, _, _, rfl, rfl, h1.q2 g1 w1 g2⟩
          · rw [if_neg c5, if_neg c5, gdx_t (by omega)]
            have := frt_nth k2 c4 (by omega)
            rw [Int.zero_add] at this
            rw [this]
            exact ⟨_, _, _, rfl, rfl, h1.q2 g1 w1 g2⟩
        · rw [if_neg c4, if_pos (show z < 0 by omega)]; exact agr0 h1 _ rfl rfl
    · simp only [if_neg c2, if_true]; exact agr0 h1 _ rfl rfl
  · simp only [if_neg c1, if_true]; exact agr0 h1 _ rfl rfl
end Q11
