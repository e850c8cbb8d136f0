section Q11
variable {m v w g n : Mem} {T : Nat}
theorem r_b51 (h : RT v w) (hW : WW w) {x dy y : Int} (hx : -1 ≤ x ∧ x ≤ 8) (hd : -1 ≤ dy ∧ dy ≤ 1) (hy : 0 ≤ y ∧ y ≤ 6) : G12_beside_51 v x dy y = some ((if 0 ≤ x ∧ x ≤ w 0 0 - 1 then (if 0 ≤ y + dy ∧ y + dy ≤ w 0 1 - 1 then w 0 0 * (y + dy) + x else -1) else -1), v) := by
  have hw := hW.1
  unfold WS at hw
  unfold G12_beside_51
  rw [h.1.1, gd3_t (by first | decide | omega), r_isIn, bs1]
  by_cases c1 : 0 ≤ x ∧ x ≤ w 0 0 - 1
  · simp only [if_pos c1, if_neg i10]
    rw [gd3_t (by first | decide | omega), h.1.2.1, gd3_t (by first | decide | omega), r_isIn, bs1]
    by_cases c2 : 0 ≤ y + dy ∧ y + dy ≤ w 0 1 - 1
    · have e1 := Int.mul_nonneg (show 0 ≤ w 0 0 by first | decide | omega) c2.1
      have e2 : w 0 0 * (y + dy) ≤ 8 * (y + dy) := Int.mul_le_mul_of_nonneg_right (by first | decide | omega) c2.1
      simp only [if_pos c2, if_neg i10]
      rw [h.1.1, gd3_t (by first | decide | omega)]
    · simp only [if_neg c2, if_true]
  · simp only [if_neg c1, if_true]
theorem r_b25 (h : RT v w) (hW : WW w) {c way dx x : Int} (hx : 0 ≤ x ∧ x < w 0 0) (hd : -1 ≤ dx ∧ dx ≤ 1) (hc : 0 ≤ c ∧ c < w 0 0 * w 0 1) : G12_beside_25 v c way dx x = some ((if 0 ≤ x + dx ∧ x + dx ≤ w 0 0 - 1 then (if 0 ≤ c / w 0 0 + (if way = 2 then 1 else if way = 0 then -1 else 0) ∧ c / w 0 0 + (if way = 2 then 1 else if way = 0 then -1 else 0) ≤ w 0 1 - 1 then w 0 0 * (c / w 0 0 + (if way = 2 then 1 else if way = 0 then -1 else 0)) + (x + dx) else -1) else -1), v) := by
  have hw := hW.1
  unfold WS at hw
  obtain ⟨b1, b2, b3, b4, e, b5⟩ := cell_b (W := w 0 0) (H := w 0 1) (by first | decide | omega) (by first | decide | omega) hc
  unfold G12_beside_25
  rw [h.1.1, if_neg (by first | decide | omega)]
  by_cases c1 : way = 2
  · simp only [if_pos c1]
    rw [gd3_t (by first | decide | omega), gdd_t (by first | decide | omega), r_b51 h hW (by first | decide | omega) (by first | decide | omega) (by first | decide | omega)]
  · simp only [if_neg c1]
    by_cases c2 : way = 0
    · simp only [if_pos c2]
      rw [gd3_t (by first | decide | omega), gdd_t (by first | decide | omega), r_b51 h hW (by first | decide | omega) (by first | decide | omega) (by first | decide | omega)]
    · simp only [if_neg c2]
      rw [gd3_t (by first | decide | omega), gdd_t (by first | decide | omega), r_b51 h hW (by first | decide | omega) (by first | decide | omega) (by first | decide | omega)]
theorem r_bsd (h : RT v w) (hW : WW w) {c way : Int} (hc : 0 ≤ c ∧ c < w 0 0 * w 0 1) : G12_beside v c way = some (bsd w c way, v) := by
  have hw := hW.1
  unfold WS at hw
  obtain ⟨b1, b2, b3, b4, e, b5⟩ := cell_b (W := w 0 0) (H := w 0 1) (by first | decide | omega) (by first | decide | omega) hc
  have k1 : w 0 0 * (c / w 0 0 + 1) = w 0 0 * (c / w 0 0) + w 0 0 := by rw [Int.mul_add, Int.mul_one]
  have k2 : w 0 0 * (c / w 0 0 + -1) = w 0 0 * (c / w 0 0) - w 0 0 := by rw [Int.mul_add, Int.mul_neg, Int.mul_one]; omega
  unfold G12_beside G12_beside_0
  rw [h.1.1, if_neg (by first | decide | omega)]
  unfold bsd
  by_cases c1 : way = 1
  · simp only [if_pos c1, if_neg (show ¬ way = 0 by first | decide | omega)]
    rw [gdd_t (by first | decide | omega), r_b25 h hW ⟨b1, b2⟩ (by first | decide | omega) hc]
    simp only [if_neg (show ¬ way = 2 by first | decide | omega), if_neg (show ¬ way = 0 by first | decide | omega), Int.add_zero]
    congr 2
    split
    · rw [if_pos (by first | decide | omega), if_neg (by first | decide | omega)]; omega
    · rw [if_pos (by first | decide | omega)]
  · simp only [if_neg c1]
    by_cases c3 : way = 3
    · simp only [if_pos c3, if_neg (show ¬ way = 0 by first | decide | omega), if_neg (show ¬ way = 2 by first | decide | omega)]
      rw [gdd_t (by first | decide | omega), r_b25 h hW ⟨b1, b2⟩ (by first | decide | omega) hc]
      simp only [if_neg (show ¬ way = 2 by first | decide | omega), if_neg (show ¬ way = 0 by first | decide | omega), Int.add_zero]
      congr 2
      split
      · rw [if_pos (by first | decide | omega), if_neg (by first | decide | omega)]; omega
      · rw [if_pos (by first | decide | omega)]
    · simp only [if_neg c3]
      rw [gdd_t (by first | decide | omega), r_b25 h hW ⟨b1, b2⟩ (by first | decide | omega) hc, Int.add_zero, if_pos (by first | decide | omega)]
      congr 2
      by_cases c2 : way = 2
      · simp only [if_pos c2, if_neg (show ¬ way = 0 by first | decide | omega)]
        split
        · rw [if_neg (by first | decide | omega)]; omega
        · rw [if_pos (by first | decide | omega)]
      · simp only [if_neg c2]
        by_cases c0 : way = 0
        · simp only [if_pos c0]
          split
          · rw [if_neg (by first | decide | omega)]; omega
          · rw [if_pos (by first | decide | omega)]
        · simp only [if_neg c0, Int.add_zero]
          rw [if_pos (by first | decide | omega)]; omega
theorem r_way {i : Int} (hi : 0 ≤ i ∧ i < 5) : G12_wayAt v i = some (gw i, v) := by
  unfold G12_wayAt G12_wayAt_0 gw
  by_cases c : i = 0
  · rw [if_pos c, if_pos c]
  · rw [if_neg c, if_neg c, gd3_t (by first | decide | omega)]
theorem r_to (h : RT v w) (hW : WW w) {s i : Int} (hs : 0 ≤ s ∧ s < w 1 0) (hi : 0 ≤ i ∧ i < 5) (h25 : v 25 s = n 1 s) (hc : 0 ≤ n 1 s ∧ n 1 s < w 0 0 * w 0 1) : G12_comesTo v s (gw i) = some (cAy w n s i, v) := by
  have hw := hW.1
  unfold WS at hw
  unfold G12_comesTo G12_comesTo_0 cAy
  rw [gdx_t (by first | decide | omega), h25]
  by_cases c : gw i = 4
  · rw [if_pos c, c]; rfl
  · rw [if_neg c, gdx_t (by first | decide | omega), r_bsd h hW hc, bs1]
/-- sums from a wave on, none before lo -/
def sfr (f : Int → Int) (K lo i : Int) : Int := if i ≤ lo then smd f (K - lo).toNat lo else smd f (K - i).toNat i
theorem sfr_lt {f : Int → Int} {K lo i : Int} (h : i < lo) : sfr f K lo i = sfr f K lo (i + 1) := by unfold sfr; rw [if_pos (by first | decide | omega), if_pos (by first | decide | omega)]
theorem sfr_ge {f : Int → Int} {K lo i : Int} (h : lo ≤ i) (hk : i < K) : sfr f K lo i = f i + sfr f K lo (i + 1) := by
  have e : ∀ j, j < K → smd f (K - j).toNat j = f j + smd f (K - (j + 1)).toNat (j + 1) := fun j hj => by
    rw [show (K - j).toNat = (K - (j + 1)).toNat + 1 by first | decide | omega, smd_s]
  unfold sfr
  rw [if_neg (show ¬ i + 1 ≤ lo by first | decide | omega)]
  split
  · rw [show lo = i by first | decide | omega]; exact e i hk
  · exact e i hk
theorem sfr_z {f : Int → Int} {K lo i : Int} (h : K ≤ i) (hl : lo ≤ K) : sfr f K lo i = 0 := by
  unfold sfr
  split
  · rw [show (K - lo).toNat = 0 by first | decide | omega]; rfl
  · rw [show (K - i).toNat = 0 by first | decide | omega]; rfl
theorem ff_toc (hW : WW w) {x i : Int} (hi : 0 ≤ i ∧ i < w 8 1) : x ≤ w 11 i ↔ ff w x ≤ i := by
  have hw := hW.1
  unfold WS at hw
  obtain ⟨v1, v2, v3, v4⟩ := ff_spec (w := w) (by first | decide | omega) x
  constructor
  · intro h
    rcases Int.lt_or_le i (ff w x) with z | z
    · have := v3 i hi.1 z; omega
    · exact z
  · intro h
    have h4 := v4 (by first | decide | omega)
    by_cases z2 : i = ff w x
    · rw [z2]; exact h4
    · have := wv_lt hW v1 (show ff w x < i by first | decide | omega) (by first | decide | omega); omega
def PG (q : Int) : Nat → Int → Prop := fun b i => PNm b i ∨ ((b = 35 ∨ b = 36) ∧ i = q)
def PG0 : Nat → Int → Prop := fun b i => PNm b i ∨ b = 35 ∨ b = 36
theorem PG_0 {q : Int} : ∀ b i, PG q b i → PG0 b i := by intro b i h; rcases h with h | h; exact Or.inl h; exact Or.inr h.1
theorem PG_q : ∀ b i, PG0 b i → PMq b i := by intro b i h; unfold PG0 PNm at h; unfold PMq; omega
theorem gn_b (hW : WW w) {s t a b k : Int} {o : Bool} (hk : 0 ≤ k ∧ k < w 8 1) (ha : 0 ≤ a ∧ a < w 0 0 * w 0 1) (hb : 0 ≤ b ∧ b < w 0 0 * w 0 1) : (0 ≤ gnO w s a b o k ∧ gnO w s a b o k ≤ 900) ∧ (0 ≤ gnT w t a b o k ∧ gnT w t a b o k ≤ 900) := by
  have h1 := wov_b hW (s := s) hk ha
  have h2 := wov_b hW (s := t) hk hb
  unfold gnO gnT
  constructor <;> split <;> omega
theorem r_lg78 (hW : WW w) (hS : SN w n) {s t p a b : Int} (hs : 0 ≤ s ∧ s < w 1 0) (ht : 0 ≤ t ∧ t < w 1 0) (hp : 0 ≤ p ∧ p < 25) (ha : 0 ≤ a ∧ a < w 0 0 * w 0 1) (hb : 0 ≤ b ∧ b < w 0 0 * w 0 1) {kk : Mem → Int → Int → Int → Option Mem} : ∀ (d f : Nat) (i : Int) (v : Mem), 0 ≤ i → w 8 1 - i = d → d < f → RT v w → SV w n v → (0 ≤ v 35 p ∧ v 35 p ≤ 900 * i) → (0 ≤ v 36 p ∧ v 36 p ≤ 900 * i) → ∃ v', G12_layGame_78 kk f v s t p a b i = kk v' s t (p + 1) ∧ Fm (PG p) v v' ∧ v' 35 p = v 35 p + sfr (gnO w s a b (decide (s < t))) (w 8 1) (ff w (n 0 0)) i ∧ v' 36 p = v 36 p + sfr (gnT w t a b (decide (s < t))) (w 8 1) (ff w (n 0 0)) i := by
  have hw := hW.1
  unfold WS at hw
  obtain ⟨w1, w2, _, _⟩ := ff_spec (w := w) (by first | decide | omega) (n 0 0)
  intro d
  induction d with
  | zero =>
    intro f i v a1 a2 a3 hR hV h35 h36
    obtain ⟨f, rfl⟩ : ∃ j, f = j + 1 := ⟨f - 1, by first | decide | omega⟩
    rw [G12_layGame_78, hR.1.2.2.2.2.1, if_pos (by first | decide | omega), gd3_t (by first | decide | omega), sfr_z (by first | decide | omega) w2, sfr_z (by first | decide | omega) w2]
    exact ⟨v, rfl, Fm.rf, by first | decide | omega, by first | decide | omega⟩
  | succ d ih =>
    intro f i v a1 a2 a3 hR hV h35 h36
    obtain ⟨f, rfl⟩ : ∃ j, f = j + 1 := ⟨f - 1, by first | decide | omega⟩
    have hi : 0 ≤ i ∧ i < w 8 1 := by omega
    have hto := ff_toc hW (x := n 0 0) hi
    rw [G12_layGame_78, hR.1.2.2.2.2.1, if_neg (by first | decide | omega), r_toC hR hS hV (by first | decide | omega), bs1]
    by_cases c1 : n 0 0 ≤ w 11 i
    · have hlo := hto.mp c1
      simp only [if_pos (show (0 ≤ i ∧ i < w 8 1) ∧ n 0 0 ≤ w 11 i from ⟨hi, c1⟩), if_neg i10]
      have hm := (hW.2.2.2.1 i hi.1 hi.2).2.1
      have e12 := (hR.2.2.2.2.1 i hi.1 hi.2).1
      obtain ⟨u1, e1, g1⟩ := m_pk hR hW (mn := w 11 i) (by first | decide | omega)
      rw [gdx_t (by first | decide | omega), e12, e1, bs1, hV.2.2.2.2]
      have hx := pxM_b (way := -1) (mn := w 11 i) hW
      have hR1 := hR.pn g1
      have hV1 := hV.q (by first | decide | omega) (g1.mono PNm_q)
      rw [m_far hR1 hW ha hx, bs1]
      simp only
      rw [m_far hR1 hW hb hx, bs1]
      simp only
      rw [← gM3]
      have hg := gn_b hW (s := s) (t := t) (a := a) (b := b) (o := decide (s < t)) hi ha hb
      have r35 : u1 35 = v 35 := funext fun j => g1 35 j (by unfold PNm; first | decide | omega)
      have r36 : u1 36 = v 36 := funext fun j => g1 36 j (by unfold PNm; first | decide | omega)
      have one : cnd w a b (decide (s < t)) i = true → ∃ v', G12_layGame_151 kk (fun m x1 x2 x3 x4 x5 x6 => G12_layGame_78 kk f m x1 x2 x3 x4 x5 x6) u1 s t p a b i = kk v' s t (p + 1) ∧ Fm (PG p) v v' ∧ v' 35 p = v 35 p + sfr (gnO w s a b (decide (s < t))) (w 8 1) (ff w (n 0 0)) i ∧ v' 36 p = v 36 p + sfr (gnT w t a b (decide (s < t))) (w 8 1) (ff w (n 0 0)) i := by
        intro z
        have eO : gnO w s a b (decide (s < t)) i = worthV w (gM w (-1) 1 s) (gM w (-1) 3 i) i a := by unfold gnO; rw [if_pos z]; rfl
        have eT : gnT w t a b (decide (s < t)) i = 0 := by unfold gnT; rw [if_pos z]
        obtain ⟨u2, e2, g2⟩ := r_gain hR1 hW hV1.2.2.2.2 hs hi ha
        rw [← eO] at e2
        have s35 : u2 35 = v 35 := by rw [← r35]; exact funext fun j => g2 35 j (by unfold PNm; first | decide | omega)
        have s36 : u2 36 = v 36 := by rw [← r36]; exact funext fun j => g2 36 j (by unfold PNm; first | decide | omega)
        unfold G12_layGame_151
        rw [gdx_t (by first | decide | omega), e2, bs1]
        simp only
        rw [gdx_t (by first | decide | omega), r35, gd3_t (by first | decide | omega), wt_e, gd3_t (by first | decide | omega)]
        have g3 : Fm (PG p) v (up u2 35 p (v 35 p + gnO w s a b (decide (s < t)) i)) := ((g1.tr g2).mono (fun b i y => Or.inl y)).w (Or.inr ⟨Or.inl rfl, rfl⟩)
        have gq : Fm PMq v (up u2 35 p (v 35 p + gnO w s a b (decide (s < t)) i)) := (g3.mono PG_0).mono PG_q
        obtain ⟨v', z1, z2, z3, z4⟩ := ih f (i + 1) (up u2 35 p (v 35 p + gnO w s a b (decide (s < t)) i)) (by first | decide | omega) (by first | decide | omega) (by first | decide | omega) (hR.q gq) (hV.q (by first | decide | omega) gq) (by rw [up_e]; first | decide | omega) (by rw [up_a (by first | decide | omega), s36]; first | decide | omega)
        refine ⟨v', z1, g3.tr z2, ?_, ?_⟩
        · rw [z3, up_e, sfr_ge hlo hi.2]; omega
        · rw [z4, up_a (by first | decide | omega), s36, sfr_ge hlo hi.2, eT]; omega
      have two : ¬ cnd w a b (decide (s < t)) i = true → ∃ v', G12_layGame_172 kk (fun m x1 x2 x3 x4 x5 x6 => G12_layGame_78 kk f m x1 x2 x3 x4 x5 x6) u1 s t p a b i = kk v' s t (p + 1) ∧ Fm (PG p) v v' ∧ v' 35 p = v 35 p + sfr (gnO w s a b (decide (s < t))) (w 8 1) (ff w (n 0 0)) i ∧ v' 36 p = v 36 p + sfr (gnT w t a b (decide (s < t))) (w 8 1) (ff w (n 0 0)) i := by
        intro z
        have eO : gnO w s a b (decide (s < t)) i = 0 := by unfold gnO; rw [if_neg z]
        have eT : gnT w t a b (decide (s < t)) i = worthV w (gM w (-1) 1 t) (gM w (-1) 3 i) i b := by unfold gnT; rw [if_neg z]; rfl
        obtain ⟨u2, e2, g2⟩ := r_gain hR1 hW hV1.2.2.2.2 ht hi hb
        rw [← eT] at e2
        have s35 : u2 35 = v 35 := by rw [← r35]; exact funext fun j => g2 35 j (by unfold PNm; first | decide | omega)
        have s36 : u2 36 = v 36 := by rw [← r36]; exact funext fun j => g2 36 j (by unfold PNm; first | decide | omega)
        unfold G12_layGame_172
        rw [gdx_t (by first | decide | omega), e2, bs1]
        simp only
        rw [gdx_t (by first | decide | omega), r36, gd3_t (by first | decide | omega), wt_e, gd3_t (by first | decide | omega)]
        have g3 : Fm (PG p) v (up u2 36 p (v 36 p + gnT w t a b (decide (s < t)) i)) := ((g1.tr g2).mono (fun b i y => Or.inl y)).w (Or.inr ⟨Or.inr rfl, rfl⟩)
        have gq : Fm PMq v (up u2 36 p (v 36 p + gnT w t a b (decide (s < t)) i)) := (g3.mono PG_0).mono PG_q
        obtain ⟨v', z1, z2, z3, z4⟩ := ih f (i + 1) (up u2 36 p (v 36 p + gnT w t a b (decide (s < t)) i)) (by first | decide | omega) (by first | decide | omega) (by first | decide | omega) (hR.q gq) (hV.q (by first | decide | omega) gq) (by rw [up_a (by first | decide | omega), s35]; first | decide | omega) (by rw [up_e]; first | decide | omega)
        refine ⟨v', z1, g3.tr z2, ?_, ?_⟩
        · rw [z3, up_a (by first | decide | omega), s35, sfr_ge hlo hi.2, eO]; omega
        · rw [z4, up_e, sfr_ge hlo hi.2]; omega
      have hcd : cnd w a b (decide (s < t)) i = true ↔ (fr w a (gM w (-1) 3 i) < fr w b (gM w (-1) 3 i) ∨ (fr w a (gM w (-1) 3 i) = fr w b (gM w (-1) 3 i) ∧ s < t)) := by unfold cnd; simp only [Bool.or_eq_true, Bool.and_eq_true, decide_eq_true_iff]
      by_cases d1 : fr w a (gM w (-1) 3 i) < fr w b (gM w (-1) 3 i)
      · rw [if_pos d1]; exact one (hcd.mpr (Or.inl d1))
      · rw [if_neg d1]
        by_cases d2 : fr w a (gM w (-1) 3 i) = fr w b (gM w (-1) 3 i)
        · rw [if_pos d2]
          by_cases d3 : t ≤ s
          · rw [if_pos d3]; exact two (fun y => by rcases hcd.mp y with q | q; exact d1 q; first | decide | omega)
          · rw [if_neg d3]; exact one (hcd.mpr (Or.inr ⟨d2, by first | decide | omega⟩))
        · rw [if_neg d2]; exact two (fun y => by rcases hcd.mp y with q | q; exact d1 q; exact d2 q.1)
    · have hlo : i < ff w (n 0 0) := by
        rcases Int.lt_or_le i (ff w (n 0 0)) with z | z
        · exact z
        · exact absurd (hto.mpr z) c1
      simp only [if_neg (show ¬ ((0 ≤ i ∧ i < w 8 1) ∧ n 0 0 ≤ w 11 i) from fun q => c1 q.2), if_true]
      rw [gd3_t (by first | decide | omega)]
      obtain ⟨v', z1, z2, z3, z4⟩ := ih f (i + 1) v (by first | decide | omega) (by first | decide | omega) (by first | decide | omega) hR hV (by first | decide | omega) (by first | decide | omega)
      rw [sfr_lt hlo, sfr_lt hlo]
      exact ⟨v', z1, z2, z3, z4⟩
/-- what is laid for pair p -/
def LGp (v w n : Mem) (s t p : Int) : Prop := (cAy w n s (p / 5) ≠ -1 ∧ cAy w n t (p % 5) ≠ -1 ∧ v 35 p = sO w s (cAy w n s (p / 5)) (cAy w n t (p % 5)) (decide (s < t)) (ff w (n 0 0)) ∧ v 36 p = sT w t (cAy w n s (p / 5)) (cAy w n t (p % 5)) (decide (s < t)) (ff w (n 0 0)) ∧ 0 ≤ v 35 p ∧ 0 ≤ v 36 p) ∨ ((cAy w n s (p / 5) = -1 ∨ cAy w n t (p % 5) = -1) ∧ v 35 p = -1 ∧ v 36 p = -1)
theorem LGp.fr {v v' : Mem} {s t p q : Int} (h : LGp v w n s t p) (f : Fm (PG q) v v') (hq : p ≠ q) : LGp v' w n s t p := by
  unfold LGp at *
  rw [f 35 p (by unfold PG PNm; first | decide | omega), f 36 p (by unfold PG PNm; first | decide | omega)]
  exact h
end Q11
