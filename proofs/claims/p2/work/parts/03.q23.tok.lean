/-! Both read the same tokens. -/
section Q23
variable {m v : Mem} {t : Int → Int} {S : Int}
theorem r_w90 {q : Int} : ∀ (d k : Nat) (p : Int) (v : Mem), TPx v t S → 0 ≤ q → q ≤ p → S - p = d → d < k → v 0 7 = p → v 0 10 = q → (∀ i, q ≤ i → i < p → 97 ≤ t i ∧ t i ≤ 122) → (p = q → p < S ∧ isLt (t p) = true) → ∃ v', G12_token_90 k v = some v' ∧ Fm Q7 v v' ∧ v' 0 7 = rn (fun i => isLt (t i)) d p ∧ v' 0 10 = q ∧ KR (if rn (fun i => isLt (t i)) d p - q ≤ 6 then wix (pp t q (rn (fun i => isLt (t i)) d p - q).toNat) else 40) (pp t q (rn (fun i => isLt (t i)) d p - q).toNat) (v' 0 8) (v' 0 9) := by
  have fin : ∀ (k : Nat) (p : Int) (v : Mem), TPx v t S → 0 ≤ q → q < p → p ≤ S → v 0 7 = p → v 0 10 = q → ¬ (p < S ∧ isLt (t p) = true) → (∀ i, q ≤ i → i < p → 97 ≤ t i ∧ t i ≤ 122) → ∃ v', G12_token_90 (k + 1) v = some v' ∧ Fm Q7 v v' ∧ v' 0 7 = p ∧ v' 0 10 = q ∧ KR (if p - q ≤ 6 then wix (pp t q (p - q).toNat) else 40) (pp t q (p - q).toNat) (v' 0 8) (v' 0 9) := by
    intro k p v h a1 a2 a3 h7 h10 hn hl
    have hS := h.1
    rw [G12_token_90, h7, r_small h (by omega), bs1]
    simp only [if_neg hn, if_true]
    rw [h7, h10]
    unfold G12_wordAt G12_wordAt_0
    have hw := r_wa h (q := q) (e := p) ⟨a1, a2, a3⟩ hl lens 0 1024 0 kw_ok (by decide) (by omega) (by decide)
    have hw' : G12_wordAt_5 1024 v q p 0 0 = some ((if p - q ≤ 6 then rix (pp t q (p - q).toNat) else -1), v) := hw
    rw [hw', bs1, wt_e]
    simp only [up_e]
    have u7 : ∀ y, up v 0 9 y 0 7 = p := fun y => by rw [up_i (by omega)]; exact h7
    have u10 : ∀ y, up v 0 9 y 0 10 = q := fun y => by rw [up_i (by omega)]; exact h10
    rw [u7, u10]
    unfold G12_token_162
    have u8 : ∀ y z, up (up v 0 9 y) 0 8 z 0 7 = p ∧ up (up v 0 9 y) 0 8 z 0 10 = q ∧ up (up v 0 9 y) 0 8 z 0 8 = z ∧ up (up v 0 9 y) 0 8 z 0 9 = y := fun y z => ⟨by rw [up_i (by omega)]; exact u7 y, by rw [up_i (by omega)]; exact u10 y, up_e, by rw [up_i (by omega), up_e]⟩
    have f8 : ∀ y z, Fm Q7 v (up (up v 0 9 y) 0 8 z) := fun y z => (Fm.w1 ⟨rfl, by omega, by omega⟩).w ⟨rfl, by omega, by omega⟩
    by_cases c6 : p - q ≤ 6
    · simp only [if_pos c6]
      rcases kw_rel (pp t q (p - q).toNat) with ⟨x1, x2, x3, x4⟩ | ⟨x1, x2⟩
      · rw [if_neg (by omega), wt_e, (u8 _ _).2.2.1, if_neg (by omega)]
        refine ⟨_, rfl, f8 _ _, (u8 _ _).1, (u8 _ _).2.1, ?_⟩
        rw [(u8 _ _).2.2.1, (u8 _ _).2.2.2]
        exact Or.inr (Or.inl ⟨x1, x2, rfl, x3⟩)
      · rw [if_pos (by omega), gd3_t (by omega), wt_e, (u8 _ _).2.2.1, if_pos rfl, (u8 _ _).1, (u8 _ _).2.1, r_pack (h.q (f8 _ _)) ⟨a1, a2, a3, c6⟩ hl, bs1, wt_e]
        simp only
        refine ⟨_, rfl, (f8 _ _).w ⟨rfl, by omega, by omega⟩, ?_, ?_, ?_⟩
        · rw [up_i (by omega)]; exact (u8 _ _).1
        · rw [up_i (by omega)]; exact (u8 _ _).2.1
        · rw [up_i (by omega), up_e, up_e]
          exact Or.inr (Or.inr (Or.inl ⟨x1, rfl, rfl⟩))
    · simp only [if_neg c6]
      rw [if_pos (by omega), gd3_t (by omega), wt_e, (u8 _ _).2.2.1, if_neg (by omega)]
      refine ⟨_, rfl, f8 _ _, (u8 _ _).1, (u8 _ _).2.1, ?_⟩
      rw [(u8 _ _).2.2.1]
      exact Or.inr (Or.inr (Or.inr (Or.inr (Or.inr (Or.inr ⟨rfl, Or.inl rfl⟩)))))
  intro d
  induction d with
  | zero =>
    intro k p v h a1 a2 a3 a4 h7 h10 hl hq
    obtain ⟨k, rfl⟩ : ∃ q, k = q + 1 := ⟨k - 1, by omega⟩
    have e : rn (fun i => isLt (t i)) 0 p = p := rfl
    rw [e]
    have : q ≠ p := fun z => by have := hq z.symm; omega
    exact fin k p v h a1 (by omega) (by omega) h7 h10 (fun z => by omega) hl
  | succ d ih =>
    intro k p v h a1 a2 a3 a4 h7 h10 hl hq
    obtain ⟨k, rfl⟩ : ∃ q, k = q + 1 := ⟨k - 1, by omega⟩
    have hS := h.1
    rw [rn_s]
    by_cases c : isLt (t p) = true
    · have hc := isLt_i.mp c
      rw [if_pos c, G12_token_90, h7, r_small h (by omega), bs1]
      simp only [if_pos (show p < S ∧ isLt (t p) = true from ⟨by omega, c⟩), if_neg i10]
      rw [h7, gd3_t (by omega), wt_e]
      have f1 : Fm Q7 v (up v 0 7 (p + 1)) := Fm.w1 ⟨rfl, by omega, by omega⟩
      obtain ⟨v', z1, z2, z3, z4, z5⟩ := ih k (p + 1) (up v 0 7 (p + 1)) (h.q f1) a1 (by omega) (by omega) (by omega) up_e (by rw [up_i (by omega)]; exact h10) (fun i p1 p2 => by
        by_cases z : i = p
        · rw [z]; exact hc
        · exact hl i p1 (by omega)) (fun z => by omega)
      exact ⟨v', z1, f1.tr z2, z3, z4, z5⟩
    · rw [if_neg c]
      have : q ≠ p := fun z => c (hq z.symm).2
      exact fin k p v h a1 (by omega) (by omega) h7 h10 (fun z => c z.2) hl
theorem r_n213 : ∀ (d k : Nat) (p a : Int) (v : Mem), TPx v t S → 0 ≤ p → S - p = d → d < k → v 0 7 = p → v 0 8 = 3 → NumR a (v 0 9) → (a ≤ 1000000 ∧ v 0 9 ≤ 999999) → ∃ v', G12_token_213 k v = some v' ∧ Fm Q7 v v' ∧ v' 0 7 = rn (fun i => isDg (t i)) d p ∧ v' 0 10 = v 0 10 ∧ v' 0 8 = 3 ∧ NumR (nv t (rn (fun i => isDg (t i)) d p - p).toNat p a) (v' 0 9) := by
  intro d
  induction d with
  | zero =>
    intro k p a v h a1 a2 a3 h7 h8 hN hb
    obtain ⟨k, rfl⟩ : ∃ q, k = q + 1 := ⟨k - 1, by omega⟩
    have e : rn (fun i => isDg (t i)) 0 p = p := rfl
    rw [e, G12_token_213, h7, r_dig h (by omega), bs1, show (p - p).toNat = 0 by omega]
    simp only [if_neg (show ¬ (p < S ∧ isDg (t p) = true) from fun z => by omega), if_true]
    exact ⟨v, rfl, Fm.rf, h7, rfl, h8, hN⟩
  | succ d ih =>
    intro k p a v h a1 a2 a3 h7 h8 hN hb
    obtain ⟨k, rfl⟩ : ∃ q, k = q + 1 := ⟨k - 1, by omega⟩
    have hS := h.1
    rw [rn_s, G12_token_213, h7, r_dig h (by omega), bs1]
    by_cases c : isDg (t p) = true
    · have hc := isDg_i.mp c
      have h4 := h.2.2.1 p a1 (by omega)
      obtain ⟨r1, r2, _, _⟩ := rn_spec (f := fun i => isDg (t i)) d (p + 1)
      rw [if_pos c]
      simp only [if_pos (show p < S ∧ isDg (t p) = true from ⟨by omega, c⟩), if_neg i10]
      rw [h7]
      have nx : ∀ y, y ≤ 999999 → NumR (if 1000000 < a * 10 + t p - 48 then 1000000 else a * 10 + t p - 48) y → ∃ v', G12_token_261 (fun m => G12_token_213 k m) v y = some v' ∧ Fm Q7 v v' ∧ v' 0 7 = rn (fun i => isDg (t i)) d (p + 1) ∧ v' 0 10 = v 0 10 ∧ v' 0 8 = 3 ∧ NumR (nv t (rn (fun i => isDg (t i)) d (p + 1) - p).toNat p a) (v' 0 9) := by
        intro y hy hN2
        unfold G12_token_261
        have u7 : up v 0 9 y 0 7 = p := by rw [up_i (by omega)]; exact h7
        rw [wt_e, u7, gd3_t (by omega), wt_e]
        have f1 : Fm Q7 v (up (up v 0 9 y) 0 7 (p + 1)) := (Fm.w1 ⟨rfl, by omega, by omega⟩).w ⟨rfl, by omega, by omega⟩
        have u9 : up (up v 0 9 y) 0 7 (p + 1) 0 9 = y := by rw [up_i (by omega), up_e]
        obtain ⟨v', z1, z2, z3, z4, z5, z6⟩ := ih k (p + 1) (if 1000000 < a * 10 + t p - 48 then 1000000 else a * 10 + t p - 48) (up (up v 0 9 y) 0 7 (p + 1)) (h.q f1) (by omega) (by omega) (by omega) up_e (by rw [up_i (by omega), up_i (by omega)]; exact h8) (by rw [u9]; exact hN2) (by rw [u9]; exact ⟨by split <;> omega, hy⟩)
        refine ⟨v', z1, f1.tr z2, z3, ?_, z5, ?_⟩
        · rw [z4, up_i (by omega), up_i (by omega)]
        · rw [show (rn (fun i => isDg (t i)) d (p + 1) - p).toNat = (rn (fun i => isDg (t i)) d (p + 1) - (p + 1)).toNat + 1 by omega, nv_s]; exact z6
      unfold NumR at hN
      by_cases c9 : v 0 9 ≤ 99999
      · rw [if_pos c9, gdx_t (by omega), gd3_t (by omega)]
        refine nx _ (by omega) ?_
        unfold NumR
        split <;> omega
      · rw [if_neg c9]
        refine nx _ (by omega) ?_
        unfold NumR
        split <;> omega
    · rw [if_neg c, show (p - p).toNat = 0 by omega]
      simp only [if_neg (show ¬ (p < S ∧ isDg (t p) = true) from fun z => c z.2), if_true]
      exact ⟨v, rfl, Fm.rf, h7, rfl, h8, hN⟩
theorem r_sgn {q : Int} (h : TPx v t S) (hq : 0 ≤ q ∧ q < S) (h7 : v 0 7 = q) : ∃ v', G12_signToken v = some v' ∧ Fm Q7 v v' ∧ v' 0 7 = q + sgA (t q) (chN t S q) ∧ v' 0 10 = v 0 10 ∧ KR (sgT (t q) (chN t S q)) 0 (v' 0 8) (v' 0 9) := by
  have hS := h.1
  have h4 := h.2.2.1 q hq.1 hq.2
  unfold G12_signToken G12_signToken_0
  rw [h7, gdx_t (by omega), wt_e]
  have u7 : ∀ y, up v 0 9 y 0 7 = q := fun y => by rw [up_i (by omega)]; exact h7
  rw [u7, gd3_t (by omega), wt_e]
  have g9 : up (up v 0 9 (v 1 q)) 0 7 (q + 1) 0 9 = v 1 q := by rw [up_i (by omega), up_e]
  have g7 : up (up v 0 9 (v 1 q)) 0 7 (q + 1) 0 7 = q + 1 := up_e
  have g10 : up (up v 0 9 (v 1 q)) 0 7 (q + 1) 0 10 = v 0 10 := by rw [up_i (by omega), up_i (by omega)]
  have f1 : Fm Q7 v (up (up v 0 9 (v 1 q)) 0 7 (q + 1)) := (Fm.w1 ⟨rfl, by omega, by omega⟩).w ⟨rfl, by omega, by omega⟩
  have g6 : up (up v 0 9 (v 1 q)) 0 7 (q + 1) 0 6 = S := by rw [f1 0 6 (by unfold Q7; omega)]; exact h.2.1
  have gt : up (up v 0 9 (v 1 q)) 0 7 (q + 1) 1 = v 1 := f1.rw1 (fun i => by unfold Q7; omega)
  generalize up (up v 0 9 (v 1 q)) 0 7 (q + 1) = u at g9 g7 g10 f1 g6 gt ⊢
  rw [g9]
  -- what is behind it
  have hx : ∃ x, (∀ k : Int → Option Mem, (if u 0 6 ≤ u 0 7 then k 0 else gdx (u 0 7) 700 (k (u 1 (u 0 7)))) = k x) ∧ (x = 61 ↔ chN t S q = 61) ∧ (x = 62 ↔ chN t S q = 62) := by
    unfold chN
    by_cases c : S ≤ q + 1
    · refine ⟨0, fun k => by rw [g6, g7, if_pos c], ?_⟩
      rw [if_neg (by omega)]; omega
    · have h5 := h.2.2.1 (q + 1) (by omega) (by omega)
      refine ⟨v 1 (q + 1), fun k => by rw [g6, g7, if_neg c, gdx_t (by omega), gt], ?_⟩
      rw [if_pos (by omega)]; omega
  obtain ⟨x, hx1, hx2, hx3⟩ := hx
  have e50 : G12_signToken_50 u = G12_signToken_74 u x := hx1 (fun y => G12_signToken_74 u y)
  rw [e50]
  -- the two ways a comparison ends
  have w1 : ∀ y z : Int, ∃ v', G12_signToken_192 (up u 0 8 y) z = some v' ∧ Fm Q7 v v' ∧ v' 0 7 = q + 1 ∧ v' 0 10 = v 0 10 ∧ v' 0 8 = y ∧ v' 0 9 = z := fun y z => by
    unfold G12_signToken_192
    rw [wt_e]
    exact ⟨_, rfl, (f1.w ⟨rfl, by omega, by omega⟩).w ⟨rfl, by omega, by omega⟩, by rw [up_i (by omega), up_i (by omega)]; exact g7, by rw [up_i (by omega), up_i (by omega)]; exact g10, by rw [up_i (by omega), up_e], up_e⟩
  have w2 : ∀ y z : Int, ∃ v', G12_signToken_192 (up (up u 0 7 (q + 1 + 1)) 0 8 y) z = some v' ∧ Fm Q7 v v' ∧ v' 0 7 = q + 2 ∧ v' 0 10 = v 0 10 ∧ v' 0 8 = y ∧ v' 0 9 = z := fun y z => by
    unfold G12_signToken_192
    rw [wt_e]
    exact ⟨_, rfl, ((f1.w ⟨rfl, by omega, by omega⟩).w ⟨rfl, by omega, by omega⟩).w ⟨rfl, by omega, by omega⟩, by rw [up_i (by omega), up_i (by omega), up_e]; omega, by rw [up_i (by omega), up_i (by omega), up_i (by omega)]; exact g10, by rw [up_i (by omega), up_e], up_e⟩
  have w3 : ∀ y : Int, ∃ v', G12_signToken_287 u y = some v' ∧ Fm Q7 v v' ∧ v' 0 7 = q + 1 ∧ v' 0 10 = v 0 10 ∧ v' 0 8 = y ∧ v' 0 9 = v 1 q := fun y => by
    unfold G12_signToken_287
    rw [wt_e]
    exact ⟨_, rfl, f1.w ⟨rfl, by omega, by omega⟩, by rw [up_i (by omega)]; exact g7, by rw [up_i (by omega)]; exact g10, up_e, by rw [up_i (by omega)]; exact g9⟩
  have a9 : ∀ y, up u 0 8 y 0 9 = v 1 q := fun y => by rw [up_i (by omega)]; exact g9
  have b9 : ∀ y z, up (up u 0 7 y) 0 8 z 0 9 = v 1 q := fun y z => by rw [up_i (by omega), up_i (by omega)]; exact g9
  by_cases c60 : t q = 60
  · have ev : v 1 q = 60 := by omega
    unfold G12_signToken_74 G12_signToken_94 G12_signToken_95 G12_signToken_115 G12_signToken_116 G12_signToken_125 G12_signToken_135 sgT sgA
    simp only [g9, ev, if_true, if_neg (show ¬ (60 : Int) = 61 by omega), g7, wt_e, c60, gd3_t (show -2147483648 ≤ q + 1 + 1 ∧ q + 1 + 1 ≤ 2147483647 by omega), a9, b9, if_neg i10]
    by_cases c1 : chN t S q = 61
    · have hx61 := hx2.mpr c1
      simp only [if_pos hx61, if_pos c1, if_neg (show ¬ x = 62 by omega)]
      obtain ⟨v', z1, z2, z3, z4, z5, z6⟩ := w2 5 1
      exact ⟨v', z1, z2, z3, z4, by rw [z5, z6]; exact Or.inr (Or.inr (Or.inr (Or.inr (Or.inl ⟨by omega, by omega, rfl, by omega⟩))))⟩
    · have hx61 : ¬ x = 61 := fun z => c1 (hx2.mp z)
      simp only [if_neg hx61, if_neg c1]
      by_cases c2 : chN t S q = 62
      · have hx62 := hx3.mpr c2
        simp only [if_pos hx62, if_pos c2]
        obtain ⟨v', z1, z2, z3, z4, z5, z6⟩ := w2 5 3
        exact ⟨v', z1, z2, z3, z4, by rw [z5, z6]; exact Or.inr (Or.inr (Or.inr (Or.inr (Or.inl ⟨by omega, by omega, rfl, by omega⟩))))⟩
      · have hx62 : ¬ x = 62 := fun z => c2 (hx3.mp z)
        simp only [if_neg hx62, if_neg c2]
        obtain ⟨v', z1, z2, z3, z4, z5, z6⟩ := w1 5 0
        exact ⟨v', z1, z2, z3, z4, by rw [z5, z6]; exact Or.inr (Or.inr (Or.inr (Or.inr (Or.inl ⟨by omega, by omega, rfl, by omega⟩))))⟩
  · by_cases c62 : t q = 62
    · have ev : v 1 q = 62 := by omega
      unfold G12_signToken_74 G12_signToken_94 G12_signToken_95 G12_signToken_115 G12_signToken_116 G12_signToken_125 G12_signToken_135 sgT sgA
      simp only [g9, ev, if_true, if_neg (show ¬ (62 : Int) = 61 by omega), if_neg (show ¬ (62 : Int) = 60 by omega), g7, wt_e, c62, gd3_t (show -2147483648 ≤ q + 1 + 1 ∧ q + 1 + 1 ≤ 2147483647 by omega), a9, b9, if_neg i10]
      by_cases c1 : chN t S q = 61
      · have hx61 := hx2.mpr c1
        simp only [if_pos hx61, if_pos c1]
        obtain ⟨v', z1, z2, z3, z4, z5, z6⟩ := w2 5 4
        exact ⟨v', z1, z2, z3, z4, by rw [z5, z6]; exact Or.inr (Or.inr (Or.inr (Or.inr (Or.inl ⟨by omega, by omega, rfl, by omega⟩))))⟩
      · have hx61 : ¬ x = 61 := fun z => c1 (hx2.mp z)
        simp only [if_neg hx61, if_neg c1]
        obtain ⟨v', z1, z2, z3, z4, z5, z6⟩ := w1 5 5
        exact ⟨v', z1, z2, z3, z4, by rw [z5, z6]; exact Or.inr (Or.inr (Or.inr (Or.inr (Or.inl ⟨by omega, by omega, rfl, by omega⟩))))⟩
    · have eT : sgT (t q) (chN t S q) = sg1 (t q) := by unfold sgT; rw [if_neg c60, if_neg c62]
      have eA : sgA (t q) (chN t S q) = 1 := by unfold sgA; rw [if_neg c60, if_neg c62]
      rw [eT, eA, if_neg (show ¬ v 1 q = 60 by omega), if_neg (show ¬ v 1 q = 62 by omega)]
      by_cases c61 : t q = 61
      · have ev : v 1 q = 61 := by omega
        have es : sg1 (t q) = 28 := by rw [c61]; rfl
        unfold G12_signToken_74 G12_signToken_94 G12_signToken_95 G12_signToken_115 G12_signToken_116 G12_signToken_125 G12_signToken_135
        simp only [g9, ev, if_true, if_neg (show ¬ (61 : Int) = 60 by omega), g7, wt_e, a9, b9, if_neg i10]
        obtain ⟨v', z1, z2, z3, z4, z5, z6⟩ := w1 5 2
        exact ⟨v', z1, z2, z3, z4, by rw [z5, z6, es]; exact Or.inr (Or.inr (Or.inr (Or.inr (Or.inl ⟨by omega, by omega, rfl, by omega⟩))))⟩
      · rw [if_neg (show ¬ v 1 q = 61 by omega)]
        unfold G12_signToken_270 G12_signToken_275
        rw [if_neg i10, if_pos rfl]
        have sgn : ∀ k, sg1 (t q) = k → SGN k (v 1 q) → ∃ v', G12_signToken_287 u 4 = some v' ∧ Fm Q7 v v' ∧ v' 0 7 = q + 1 ∧ v' 0 10 = v 0 10 ∧ KR (sg1 (t q)) 0 (v' 0 8) (v' 0 9) := by
          intro k hk hs
          obtain ⟨v', z1, z2, z3, z4, z5, z6⟩ := w3 4
          exact ⟨v', z1, z2, z3, z4, by rw [z5, z6, hk]; exact Or.inr (Or.inr (Or.inr (Or.inr (Or.inr (Or.inl ⟨hs, rfl⟩)))))⟩
        have none : sg1 (t q) = 40 → ∀ y, (y = 6 ∨ (y = 4 ∧ v 1 q = 37)) → ∃ v', G12_signToken_287 u y = some v' ∧ Fm Q7 v v' ∧ v' 0 7 = q + 1 ∧ v' 0 10 = v 0 10 ∧ KR (sg1 (t q)) 0 (v' 0 8) (v' 0 9) := by
          intro hk y hy
          obtain ⟨v', z1, z2, z3, z4, z5, z6⟩ := w3 y
          exact ⟨v', z1, z2, z3, z4, by rw [z5, z6, hk]; exact Or.inr (Or.inr (Or.inr (Or.inr (Or.inr (Or.inr ⟨rfl, hy⟩)))))⟩
        by_cases c59 : t q = 59
        · rw [if_pos (show v 1 q = 59 by omega)]; exact sgn 38 (by rw [c59]; rfl) (by unfold SGN; omega)
        · rw [if_neg (show ¬ v 1 q = 59 by omega)]
          by_cases c40 : t q = 40
          · rw [if_pos (show v 1 q = 40 by omega)]; exact sgn 36 (by rw [c40]; rfl) (by unfold SGN; omega)
          · rw [if_neg (show ¬ v 1 q = 40 by omega)]
            by_cases c41 : t q = 41
            · rw [if_pos (show v 1 q = 41 by omega)]; exact sgn 37 (by rw [c41]; rfl) (by unfold SGN; omega)
            · rw [if_neg (show ¬ v 1 q = 41 by omega)]
              by_cases c43 : t q = 43
              · rw [if_pos (show v 1 q = 43 by omega)]; exact sgn 32 (by rw [c43]; rfl) (by unfold SGN; omega)
              · rw [if_neg (show ¬ v 1 q = 43 by omega)]
                by_cases c45 : t q = 45
                · rw [if_pos (show v 1 q = 45 by omega)]; exact sgn 33 (by rw [c45]; rfl) (by unfold SGN; omega)
                · rw [if_neg (show ¬ v 1 q = 45 by omega)]
                  by_cases c42 : t q = 42
                  · rw [if_pos (show v 1 q = 42 by omega)]; exact sgn 34 (by rw [c42]; rfl) (by unfold SGN; omega)
                  · rw [if_neg (show ¬ v 1 q = 42 by omega)]
                    by_cases c47 : t q = 47
                    · rw [if_pos (show v 1 q = 47 by omega)]; exact sgn 35 (by rw [c47]; rfl) (by unfold SGN; omega)
                    · rw [if_neg (show ¬ v 1 q = 47 by omega)]
                      have e40 : sg1 (t q) = 40 := by
                        unfold sg1
                        rw [if_neg c40, if_neg c41, if_neg c42, if_neg c43, if_neg c45, if_neg c47, if_neg c59, if_neg c60, if_neg c61, if_neg c62]
                      by_cases c37 : t q = 37
                      · rw [if_pos (show v 1 q = 37 by omega)]; exact none e40 4 (Or.inr ⟨rfl, by omega⟩)
                      · rw [if_neg (show ¬ v 1 q = 37 by omega)]; exact none e40 6 (Or.inl rfl)
theorem r_tokS {p : Int} (h : TPx v t S) (hp : 0 ≤ p ∧ p ≤ S) (h7 : v 0 7 = p) : ∃ v', G12_token v = some v' ∧ Fm Q7 v v' ∧ v' 0 10 = tkp t S p ∧ v' 0 7 = tqn t S (tkp t S p) ∧ KR (tqt t S (tkp t S p)) (tqv t S (tkp t S p)) (v' 0 8) (v' 0 9) := by
  have hS := h.1
  obtain ⟨q1, q2, _, _⟩ := rr_spec (f := fun i => isBl (t i)) hp.2
  obtain ⟨v1, e1, f1, k1⟩ := r_skip (t := t) (S := S) (S - p).toNat 1024 p v h hp.1 (by omega) (by omega) h7
  have k1' : v1 0 7 = tkp t S p := k1
  have q1' : p ≤ tkp t S p := q1
  have q2' : tkp t S p ≤ S := q2
  unfold G12_token
  rw [e1]
  generalize tkp t S p = q at k1' q1' q2' ⊢
  unfold G12_token_52
  rw [wt_e, k1']
  have f2 : Fm Q7 v (up v1 0 10 q) := f1.w ⟨rfl, by omega, by omega⟩
  have g7 : up v1 0 10 q 0 7 = q := by rw [up_i (by omega)]; exact k1'
  have g10 : up v1 0 10 q 0 10 = q := up_e
  generalize up v1 0 10 q = u at f2 g7 g10 ⊢
  have hu := h.q f2
  rw [g7, hu.2.1]
  unfold tqt tqv tqn
  by_cases c1 : S ≤ q
  · rw [if_pos c1, if_pos c1, if_pos c1, if_pos (by omega), wt_e]
    refine ⟨_, rfl, f2.w ⟨rfl, by omega, by omega⟩, by rw [up_i (by omega)]; exact g10, by rw [up_i (by omega)]; exact g7, ?_⟩
    rw [up_e]
    exact Or.inl ⟨rfl, rfl⟩
  · rw [if_neg c1, if_neg c1, if_neg c1, if_neg (by omega), r_small hu (by omega), bs1]
    by_cases c2 : isLt (t q) = true
    · simp only [if_pos (show q < S ∧ isLt (t q) = true from ⟨by omega, c2⟩), if_pos c2, if_neg i10]
      obtain ⟨v', z1, z2, z3, z4, z5⟩ := r_w90 (q := q) (S - q).toNat 1024 q u hu (by omega) (by omega) (by omega) (by omega) g7 g10 (fun i a b => by omega) (fun _ => ⟨by omega, c2⟩)
      exact ⟨v', z1, f2.tr z2, z4, z3, z5⟩
    · simp only [if_neg (show ¬ (q < S ∧ isLt (t q) = true) from fun z => c2 z.2), if_neg c2, if_true]
      rw [g7, r_dig hu (by omega), bs1]
      by_cases c3 : isDg (t q) = true
      · simp only [if_pos (show q < S ∧ isDg (t q) = true from ⟨by omega, c3⟩), if_pos c3, if_neg i10]
        rw [wt_e, wt_e]
        have f3 : Fm Q7 v (up (up u 0 8 3) 0 9 0) := (f2.w ⟨rfl, by omega, by omega⟩).w ⟨rfl, by omega, by omega⟩
        obtain ⟨v', z1, z2, z3, z4, z5, z6⟩ := r_n213 (S - q).toNat 1024 q 0 (up (up u 0 8 3) 0 9 0) (h.q f3) (by omega) (by omega) (by omega) (by rw [up_i (by omega), up_i (by omega)]; exact g7) (by rw [up_i (by omega), up_e]) (by rw [up_e]; exact ⟨by omega, by omega, Or.inl rfl⟩) (by rw [up_e]; omega)
        refine ⟨v', z1, f3.tr z2, ?_, z3, ?_⟩
        · rw [z4, up_i (by omega), up_i (by omega)]; exact g10
        · rw [z5]
          exact Or.inr (Or.inr (Or.inr (Or.inl ⟨rfl, rfl, z6⟩)))
      · simp only [if_neg (show ¬ (q < S ∧ isDg (t q) = true) from fun z => c3 z.2), if_neg c3, if_true]
        obtain ⟨v', z1, z2, z3, z4, z5⟩ := r_sgn hu (q := q) (by omega) g7
        rw [z1, bs1]
        exact ⟨v', rfl, f2.tr z2, by rw [z4]; exact g10, z3, z5⟩
/-- the class is about to read the token that the reference holds -/
def PreR (m v : Mem) (S : Int) : Prop := TPx v (m 1) S ∧ m 47 1 = 1 ∧ m 47 2 = S ∧ ((∀ i : Nat, i < 24 → m 48 i = lgW.getD i 0) ∧ (m 46 8 = v 0 4 ∧ m 46 9 = v 0 5)) ∧ (0 ≤ m 47 3 ∧ m 47 3 ≤ S) ∧ v 0 10 = tkp (m 1) S (m 47 3) ∧ v 0 7 = tqn (m 1) S (tkp (m 1) S (m 47 3)) ∧ KR (tqt (m 1) S (tkp (m 1) S (m 47 3))) (tqv (m 1) S (tkp (m 1) S (m 47 3))) (v 0 8) (v 0 9)
/-- both hold the same token -/
def PostR (m v : Mem) (S : Int) : Prop := TPx v (m 1) S ∧ m 47 1 = 1 ∧ m 47 2 = S ∧ ((∀ i : Nat, i < 24 → m 48 i = lgW.getD i 0) ∧ (m 46 8 = v 0 4 ∧ m 46 9 = v 0 5)) ∧ (0 ≤ m 47 3 ∧ m 47 3 ≤ S) ∧ v 0 10 = m 47 5 ∧ v 0 7 = m 47 3 ∧ KR (m 47 4) (m 47 6) (v 0 8) (v 0 9)
theorem tqn_b {t : Int → Int} {S q : Int} (h : 0 ≤ q ∧ q ≤ S) : q ≤ tqn t S q ∧ tqn t S q ≤ S ∧ (tqt t S q ≠ 39 → q < tqn t S q) := by
  unfold tqn tqt
  by_cases c1 : S ≤ q
  · rw [if_pos c1, if_pos c1]; exact ⟨by omega, by omega, fun z => absurd rfl z⟩
  · rw [if_neg c1]
    by_cases c2 : isLt (t q) = true
    · rw [if_pos c2]
      obtain ⟨r1, r2, _, r4⟩ := rr_spec (f := fun i => isLt (t i)) h.2
      have e : lte t S q = rr (fun i => isLt (t i)) S q := rfl
      rw [e]
      have hne : rr (fun i => isLt (t i)) S q ≠ q := fun z => r4 (by omega) (by rw [z]; exact c2)
      exact ⟨r1, r2, fun _ => by omega⟩
    · rw [if_neg c2]
      by_cases c3 : isDg (t q) = true
      · rw [if_pos c3]
        obtain ⟨r1, r2, _, r4⟩ := rr_spec (f := fun i => isDg (t i)) h.2
        have e : dge t S q = rr (fun i => isDg (t i)) S q := rfl
        rw [e]
        have hne : rr (fun i => isDg (t i)) S q ≠ q := fun z => r4 (by omega) (by rw [z]; exact c3)
        exact ⟨r1, r2, fun _ => by omega⟩
      · rw [if_neg c3]
        have : sgA (t q) (chN t S q) = 1 ∨ (sgA (t q) (chN t S q) = 2 ∧ q + 1 < S) := by
          unfold sgA chN
          by_cases d : q + 1 < S
          · simp only [if_pos d]
            split
            · split
              · right; exact ⟨rfl, d⟩
              · split
                · right; exact ⟨rfl, d⟩
                · left; rfl
            · split
              · split
                · right; exact ⟨rfl, d⟩
                · left; rfl
              · left; rfl
          · simp only [if_neg d, if_neg (show ¬ (0 : Int) = 61 by omega), if_neg (show ¬ (0 : Int) = 62 by omega)]
            left
            split
            · rfl
            · split <;> rfl
        omega
theorem PreR.adv (h : PreR m v S) : ∃ m', G7_advance m = some m' ∧ Fm P47 m m' ∧ PostR m' v S ∧ m 47 3 ≤ m' 47 3 ∧ (m' 47 4 ≠ 39 → m 47 3 < m' 47 3) := by
  obtain ⟨h1, h2, h3, h4, h5, h6, h7, h8⟩ := h
  obtain ⟨m', e, f, k1, k2, k3, k4⟩ := c_advS (t := m 1) h1.1 h5 h2 h3 rfl rfl h4.1
  obtain ⟨q1, q2, _, _⟩ := rr_spec (f := fun i => isBl (m 1 i)) h5.2
  have q1' : m 47 3 ≤ tkp (m 1) S (m 47 3) := q1
  have q2' : tkp (m 1) S (m 47 3) ≤ S := q2
  have hb := tqn_b (t := m 1) (S := S) (q := tkp (m 1) S (m 47 3)) (by omega)
  have e1 : m' 1 = m 1 := f.rw1 (fun i => by unfold P47; omega)
  have e48 : m' 48 = m 48 := f.rw1 (fun i => by unfold P47; omega)
  refine ⟨m', e, f, ⟨by rw [e1]; exact h1, by rw [f 47 1 (by unfold P47; omega)]; exact h2, by rw [f 47 2 (by unfold P47; omega)]; exact h3, by rw [e48, f 46 8 (by unfold P47; omega), f 46 9 (by unfold P47; omega)]; exact h4, by omega, by rw [k1]; exact h6, by rw [k4]; exact h7, by rw [k2, k3]; exact h8⟩, by omega, fun z => ?_⟩
  rw [k2] at z
  have := hb.2.2 z
  omega
theorem PostR.tok (h : PostR m v S) : ∃ v', G12_token v = some v' ∧ Fm Q7 v v' ∧ PreR m v' S := by
  obtain ⟨h1, h2, h3, h4, h5, h6, h7, h8⟩ := h
  obtain ⟨v', e, f, k1, k2, k3⟩ := r_tokS h1 h5 h7
  exact ⟨v', e, f, h1.q f, h2, h3, ⟨h4.1, by rw [f 0 4 (by unfold Q7; omega), f 0 5 (by unfold Q7; omega)]; exact h4.2⟩, h5, k1, k2, k3⟩
/-- what is otherwise changed leaves both alone -/
theorem PreR.f {m m' v v' : Mem} {P Q : Nat → Int → Prop} (h : PreR m v S) (f : Fm P m m') (g : Fm Q v v') (hp : ∀ b i, b = 1 ∨ b = 47 ∨ b = 48 ∨ (b = 46 ∧ (i = 8 ∨ i = 9)) → ¬ P b i) (hq : ∀ b i, (b = 0 ∧ 4 ≤ i ∧ i ≤ 10) ∨ b = 1 ∨ b = 2 → ¬ Q b i) : PreR m' v' S := by
  obtain ⟨h1, h2⟩ := h
  unfold PreR
  rw [f.rw1 (fun i => hp 1 i (by omega)), f.rw1 (fun i => hp 47 i (by omega)), f.rw1 (fun i => hp 48 i (by omega)), f 46 8 (hp _ _ (by omega)), f 46 9 (hp _ _ (by omega)), g 0 4 (hq _ _ (by omega)), g 0 5 (hq _ _ (by omega)), g 0 10 (hq _ _ (by omega)), g 0 7 (hq _ _ (by omega)), g 0 8 (hq _ _ (by omega)), g 0 9 (hq _ _ (by omega))]
  exact ⟨h1.f g (by intro b i q; exact hq b i (by omega)), h2⟩
theorem PostR.f {m m' v v' : Mem} {P Q : Nat → Int → Prop} (h : PostR m v S) (f : Fm P m m') (g : Fm Q v v') (hp : ∀ b i, b = 1 ∨ b = 47 ∨ b = 48 ∨ (b = 46 ∧ (i = 8 ∨ i = 9)) → ¬ P b i) (hq : ∀ b i, (b = 0 ∧ 4 ≤ i ∧ i ≤ 10) ∨ b = 1 ∨ b = 2 → ¬ Q b i) : PostR m' v' S := by
  obtain ⟨h1, h2⟩ := h
  unfold PostR
  rw [f.rw1 (fun i => hp 1 i (by omega)), f.rw1 (fun i => hp 47 i (by omega)), f.rw1 (fun i => hp 48 i (by omega)), f 46 8 (hp _ _ (by omega)), f 46 9 (hp _ _ (by omega)), g 0 4 (hq _ _ (by omega)), g 0 5 (hq _ _ (by omega)), g 0 10 (hq _ _ (by omega)), g 0 7 (hq _ _ (by omega)), g 0 8 (hq _ _ (by omega)), g 0 9 (hq _ _ (by omega))]
  exact ⟨h1.f g (by intro b i q; exact hq b i (by omega)), h2⟩
end Q23
