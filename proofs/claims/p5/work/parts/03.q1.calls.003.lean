section Q4
variable {m v w g n : Mem} {T : Nat}
theorem c_gap (t2 : m 0 3 = (T : Int)) (h : TX m T w) (hW : WW w) {x y : Int} (hx : 0 ≤ x ∧ x ≤ 99) (hy : y = 0 ∨ y = 1) : ∀ (d k : Nat) (i a : Int), 1 ≤ i → (w 8 0 - i = d ∨ (w 8 0 < i ∧ d = 0)) → d < k → 0 ≤ a → a ≤ i → G11_gaps_26 k m x y a i = some ((if y = 1 then a + d else gpd w x d i a), m) := by
  have hw := hW.1
  unfold WS at hw
  intro d
  induction d with
  | zero =>
    intro k i a a1 a2 a3 a4 a5
    obtain ⟨k, rfl⟩ : ∃ j, k = j + 1 := ⟨k - 1, by first | decide | omega⟩
    rw [G11_gaps_26, t2, Int.toNat_natCast, h.2.2 8 0 (by first | decide | omega), if_pos (by first | decide | omega)]
    congr 2
    rcases hy with rfl | rfl
    · rfl
    · rw [if_pos rfl]; omega
  | succ d ih =>
    intro k i a a1 a2 a3 a4 a5
    obtain ⟨k, rfl⟩ : ∃ j, k = j + 1 := ⟨k - 1, by first | decide | omega⟩
    have h9 := wt_lt hW (show 0 ≤ i by first | decide | omega) (show i < w 8 0 by first | decide | omega)
    have h9' := wt_lt hW (show 0 ≤ i - 1 by first | decide | omega) (show i - 1 < w 8 0 by first | decide | omega)
    have hb := (hW.2.2.2.1 _ h9.1 h9.2.2).2.1
    have hb' := (hW.2.2.2.1 _ h9'.1 h9'.2.2).2.1
    have hp := hW.2.2.1.2.2 (i - 1) (by first | decide | omega) (by first | decide | omega)
    rw [G11_gaps_26, t2, Int.toNat_natCast, h.2.2 8 0 (by first | decide | omega), if_neg (by first | decide | omega), g_fm h (by first | decide | omega) ⟨h9.1, h9.2.1⟩, bs1, gd3_t (by first | decide | omega)]
    simp only
    rw [t2, Int.toNat_natCast, g_lm h (by first | decide | omega) ⟨h9'.1, h9'.2.1⟩ (by first | decide | omega) (by first | decide | omega), bs1]
    simp only
    rw [gd3_t (show -2147483648 ≤ w 11 (w 9 i) - (w 11 (w 9 (i - 1)) + w 10 (i - 1) - 1) ∧ w 11 (w 9 i) - (w 11 (w 9 (i - 1)) + w 10 (i - 1) - 1) ≤ 2147483647 by first | decide | omega)]
    have g1 : ∀ y : Option (Int × Mem), gd3 (a + 1) y = y := fun y => gd3_t (by first | decide | omega)
    have g2 : ∀ y : Option (Int × Mem), gd3 (i + 1) y = y := fun y => gd3_t (by first | decide | omega)
    simp only [g1, g2]
    have i1 := ih k (i + 1) (a + 1) (by first | decide | omega) (by first | decide | omega) (by first | decide | omega) (by first | decide | omega) (by first | decide | omega)
    have i0 := ih k (i + 1) a (by first | decide | omega) (by first | decide | omega) (by first | decide | omega) (by first | decide | omega) (by first | decide | omega)
    have es : gpd w x (d + 1) i a = gpd w x d (i + 1) (if x < w 11 (w 9 i) - (w 11 (w 9 (i - 1)) + w 10 (i - 1) - 1) then a else a + 1) := rfl
    rcases hy with rfl | rfl
    · simp only [if_neg (show ¬ (0 : Int) = 1 by decide)] at i0 i1 ⊢
      rw [es]
      by_cases z : x < w 11 (w 9 i) - (w 11 (w 9 (i - 1)) + w 10 (i - 1) - 1)
      · rw [if_pos z, if_pos z, i0]
      · rw [if_neg z, if_neg z, i1]
    · simp only [if_true] at i1 ⊢
      rw [i1]
      congr 2; omega
theorem r_gap (h : RT v w) (hW : WW w) {x y : Int} (hx : 0 ≤ x ∧ x ≤ 99) (hy : y = 0 ∨ y = 1) : ∀ (d k : Nat) (i a : Int), 1 ≤ i → (w 8 0 - i = d ∨ (w 8 0 < i ∧ d = 0)) → d < k → 0 ≤ a → a ≤ i → G12_gaps_31 k v x y a i = some ((if y = 1 then (if 2 ≤ w 8 0 then w 8 0 - 1 else 0) else gpd w x d i a), v) := by
  have hw := hW.1
  unfold WS at hw
  intro d
  induction d with
  | zero =>
    intro k i a a1 a2 a3 a4 a5
    obtain ⟨k, rfl⟩ : ∃ j, k = j + 1 := ⟨k - 1, by first | decide | omega⟩
    rw [G12_gaps_31, h.1.2.2.2.1, if_pos (by first | decide | omega), gd3_t (by first | decide | omega)]
    rcases hy with rfl | rfl
    · rfl
    · rw [if_neg (by decide), if_pos rfl]
      split <;> rfl
  | succ d ih =>
    intro k i a a1 a2 a3 a4 a5
    obtain ⟨k, rfl⟩ : ∃ j, k = j + 1 := ⟨k - 1, by first | decide | omega⟩
    have h9 := wt_lt hW (show 0 ≤ i by first | decide | omega) (show i < w 8 0 by first | decide | omega)
    have hb := (hW.2.2.2.1 _ h9.1 h9.2.2).2.1
    obtain ⟨p1, p2, p3, p4⟩ := wt_prev hW a1 (show i < w 8 0 by first | decide | omega)
    have hb' := (hW.2.2.2.1 _ p2 p3).2.1
    rw [G12_gaps_31, h.1.2.2.2.1, if_neg (by first | decide | omega), h.2.2.2.1 i (by first | decide | omega) (by first | decide | omega), (h.2.2.2.2.1 _ h9.1 h9.2.2).1, (h.2.2.2.2.1 _ p2 p3).1, gdx_t (by first | decide | omega), gdx_t (by first | decide | omega), gdx_t (by first | decide | omega), gdx_t (by first | decide | omega), p4, gd3_t (by first | decide | omega), gd3_t (by first | decide | omega), gd3_t (by first | decide | omega), gd3_t (by first | decide | omega), gd3_t (by first | decide | omega)]
    have i1 := ih k (i + 1) (a + 1) (by first | decide | omega) (by first | decide | omega) (by first | decide | omega) (by first | decide | omega) (by first | decide | omega)
    have i0 := ih k (i + 1) (a + 0) (by first | decide | omega) (by first | decide | omega) (by first | decide | omega) (by first | decide | omega) (by first | decide | omega)
    have es : gpd w x (d + 1) i a = gpd w x d (i + 1) (if x < w 11 (w 9 i) - (w 11 (w 9 (i - 1)) + w 10 (i - 1) - 1) then a else a + 1) := rfl
    rw [i0, i1, es]
    rw [Int.add_zero]
    rcases hy with rfl | rfl
    · simp only [if_neg (show ¬ (0 : Int) = 1 by decide)]
      split <;> rfl
    · simp only [if_true]
      split <;> rfl
theorem a_gaps (h : Rel m v) (x y : Int) : Agr (G11_gaps m x y) (G12_gaps v x y) := by
  have h1 := h.v0
  unfold G11_gaps G11_gaps_0 G12_gaps G12_gaps_0
  rw [wt_e]
  generalize up v 0 2 0 = u at h1 ⊢
  obtain ⟨T, w, g, n, t1, t2, hc, hn, hW, hG, hE, hS, hR, hV, hL, -, -, -⟩ := h1.use
  have hw := hW.1
  unfold WS at hw
  rw [r_isIn, bs1]
  by_cases c1 : 0 ≤ x ∧ x ≤ 99
  · simp only [if_pos c1, if_neg i10, if_neg (show ¬ x < 0 by first | decide | omega), if_neg (show ¬ 99 < x by first | decide | omega)]
    rw [r_isIn, bs1]
    by_cases c2 : 0 ≤ y ∧ y ≤ 1
    · simp only [if_pos c2, if_neg i10, if_neg (show ¬ y < 0 by first | decide | omega), if_pos c2.2]
      rw [c_gap t2 hc.1 hW c1 (by first | decide | omega) (w 8 0 - 1).toNat 1024 1 0 (by first | decide | omega) (by first | decide | omega) (by first | decide | omega) (by first | decide | omega) (by first | decide | omega), r_gap hR hW c1 (by first | decide | omega) (w 8 0 - 1).toNat 1024 1 0 (by first | decide | omega) (by first | decide | omega) (by first | decide | omega) (by first | decide | omega) (by first | decide | omega)]
      refine agr0 h1 _ rfl ?_
      congr 2
      by_cases z : y = 1
      · rw [if_pos z, if_pos z]; split <;> omega
      · rw [if_neg z, if_neg z]
    · simp only [if_neg c2, if_true]
      by_cases z : y < 0
      · rw [if_pos z]; exact agr0 h1 _ rfl rfl
      · rw [if_neg z, if_neg (by first | decide | omega)]; exact agr0 h1 _ rfl rfl
  · simp only [if_neg c1, if_true]
    by_cases z : x < 0
    · rw [if_pos z]; exact agr0 h1 _ rfl rfl
    · rw [if_neg z, if_pos (by first | decide | omega)]; exact agr0 h1 _ rfl rfl
-- the most and the fewest
def uld (f : Int → Int) : Nat → Int → Int → Int → Int
  | 0, _, a, b => a - b
  | d + 1, i, a, b => uld f d (i + 1) (if a < f i then f i else a) (if f i < b then f i else b)
def ulk (f : Int → Int) (s : Int) : Int := if 1 ≤ s then uld f (s - 1).toNat 1 (f 0) (f 0) else 0
theorem c_uld {a : Nat} (h5 : w 1 0 ≤ 5) (hf : ∀ i, 0 ≤ i → i < w 1 0 → 0 ≤ m (a + 2) i ∧ m (a + 2) i ≤ 1000) : ∀ (d k : Nat) (i p q : Int), 1 ≤ i → w 1 0 - i = d → d < k → (0 ≤ p ∧ p ≤ 1000) → (0 ≤ q ∧ q ≤ 1000) → G4_unlike_24 k m a (w 1 0) p q i = some (uld (m (a + 2)) d i p q, m) := by
  intro d
  induction d with
  | zero =>
    intro k i p q a1 a2 a3 a4 a5
    obtain ⟨k, rfl⟩ : ∃ j, k = j + 1 := ⟨k - 1, by first | decide | omega⟩
    rw [G4_unlike_24, if_pos (by first | decide | omega), gd3_t (by first | decide | omega)]
    rfl
  | succ d ih =>
    intro k i p q a1 a2 a3 a4 a5
    obtain ⟨k, rfl⟩ : ∃ j, k = j + 1 := ⟨k - 1, by first | decide | omega⟩
    have hb := hf i (by first | decide | omega) (by first | decide | omega)
    rw [G4_unlike_24, if_neg (by first | decide | omega), gdx_t (by first | decide | omega), gdx_t (by first | decide | omega), gd3_t (by first | decide | omega), ih k (i + 1) _ _ (by first | decide | omega) (by first | decide | omega) (by first | decide | omega) (by split <;> omega) (by split <;> omega)]
    rfl
theorem c_unl {a : Nat} (h5 : 0 ≤ w 1 0 ∧ w 1 0 ≤ 5) (hf : ∀ i, 0 ≤ i → i < w 1 0 → 0 ≤ m (a + 2) i ∧ m (a + 2) i ≤ 1000) : G4_unlike m a (w 1 0) = some (ulk (m (a + 2)) (w 1 0), m) := by
  unfold G4_unlike G4_unlike_0 ulk
  by_cases c : 1 ≤ w 1 0
  · have h0 := hf 0 (by first | decide | omega) (by first | decide | omega)
    rw [if_pos c, if_pos c, c_uld h5.2 hf (w 1 0 - 1).toNat 1024 1 _ _ (by first | decide | omega) (by first | decide | omega) (by first | decide | omega) h0 h0]
  · rw [if_neg c, if_neg c]
theorem r_uld {b : Int} {f : Int → Int} (hb : b = 0 ∨ b = 1) (h14 : v 0 14 = w 1 0) (h5 : 0 < w 1 0 ∧ w 1 0 ≤ 5) (hf : ∀ i, 0 ≤ i → i < w 1 0 → v 26 (5 * b + i) = f i ∧ 0 ≤ f i ∧ f i ≤ 1000) : ∀ (d k : Nat) (i p q : Int), 0 ≤ i → w 1 0 - i = d → d < k → (0 ≤ p ∧ p ≤ 1000) → (0 ≤ q ∧ q ≤ 1000) → G12_unlike_8 k v b p q i = some (uld f d i p q, v) := by
  intro d
  induction d with
  | zero =>
    intro k i p q a1 a2 a3 a4 a5
    obtain ⟨k, rfl⟩ : ∃ j, k = j + 1 := ⟨k - 1, by first | decide | omega⟩
    rw [G12_unlike_8, h14, if_pos (by first | decide | omega), if_neg (by first | decide | omega), gd3_t (by first | decide | omega)]
    rfl
  | succ d ih =>
    intro k i p q a1 a2 a3 a4 a5
    obtain ⟨k, rfl⟩ : ∃ j, k = j + 1 := ⟨k - 1, by first | decide | omega⟩
    obtain ⟨e, hb0⟩ := hf i (by first | decide | omega) (by first | decide | omega)
    have es : uld f (d + 1) i p q = uld f d (i + 1) (if p < f i then f i else p) (if f i < q then f i else q) := rfl
    rw [G12_unlike_8, h14, if_neg (by first | decide | omega)]
    unfold G12_unlike_47
    simp only [e, gdx_t (show 0 ≤ 5 * b + i ∧ 5 * b + i < 10 by first | decide | omega)]
    have g2 : ∀ y : Option (Int × Mem), gd3 (i + 1) y = y := fun y => gd3_t (by first | decide | omega)
    simp only [g2]
    rw [es]
    by_cases c1 : f i ≤ p
    · rw [if_pos c1, if_neg (show ¬ p < f i by first | decide | omega)]
      by_cases c2 : q ≤ f i
      · rw [if_pos c2, if_neg (show ¬ f i < q by first | decide | omega)]
        exact ih k (i + 1) p q (by first | decide | omega) (by first | decide | omega) (by first | decide | omega) a4 a5
      · rw [if_neg c2, if_pos (show f i < q by first | decide | omega)]
        exact ih k (i + 1) p (f i) (by first | decide | omega) (by first | decide | omega) (by first | decide | omega) a4 hb0
    · rw [if_neg c1, if_pos (show p < f i by first | decide | omega)]
      by_cases c2 : q ≤ f i
      · rw [if_pos c2, if_neg (show ¬ f i < q by first | decide | omega)]
        exact ih k (i + 1) (f i) q (by first | decide | omega) (by first | decide | omega) (by first | decide | omega) hb0 a5
      · rw [if_neg c2, if_pos (show f i < q by first | decide | omega)]
        exact ih k (i + 1) (f i) (f i) (by first | decide | omega) (by first | decide | omega) (by first | decide | omega) hb0 hb0
theorem r_unl {b : Int} {f : Int → Int} (hb : b = 0 ∨ b = 1) (h14 : v 0 14 = w 1 0) (h5 : 0 ≤ w 1 0 ∧ w 1 0 ≤ 5) (hf : ∀ i, 0 ≤ i → i < w 1 0 → v 26 (5 * b + i) = f i ∧ 0 ≤ f i ∧ f i < 99) : G12_unlike v b = some (ulk f (w 1 0), v) := by
  unfold G12_unlike G12_unlike_0 ulk
  by_cases c : 1 ≤ w 1 0
  · have h0 := (hf 0 (by first | decide | omega) (by first | decide | omega)).2
    rw [if_pos c, r_uld hb h14 (by first | decide | omega) (fun i p q => ⟨(hf i p q).1, (hf i p q).2.1, by have := (hf i p q).2.2; first | decide | omega⟩) (w 1 0).toNat 1024 0 0 99 (by first | decide | omega) (by first | decide | omega) (by first | decide | omega) (by first | decide | omega) (by first | decide | omega)]
    congr 2
    rw [show (w 1 0).toNat = (w 1 0 - 1).toNat + 1 by first | decide | omega]
    show uld f _ (0 + 1) (if 0 < f 0 then f 0 else 0) (if f 0 < 99 then f 0 else 99) = _
    rw [if_pos (show f 0 < 99 by first | decide | omega)]
    have e : (if 0 < f 0 then f 0 else 0) = f 0 := by split <;> omega
    rw [e, Int.zero_add]
  · rw [if_neg c]
    rw [show (1024 : Nat) = 1023 + 1 by decide, G12_unlike_8, h14, if_pos (by first | decide | omega), if_pos (by first | decide | omega)]
theorem c_sum {a : Nat} (h5 : w 1 0 ≤ 5) (hf : ∀ i, 0 ≤ i → i < w 1 0 → 0 ≤ m (a + 2) i ∧ m (a + 2) i ≤ 1000) : ∀ (d k : Nat) (i s : Int), 0 ≤ i → w 1 0 - i = d → d < k → 0 ≤ s → s ≤ 1000 * i → G4_hadInSum_4 k m a (w 1 0) s i = some (s + smd (m (a + 2)) d i, m) := by
  intro d
  induction d with
  | zero =>
    intro k i s a1 a2 a3 a4 a5
    obtain ⟨k, rfl⟩ : ∃ j, k = j + 1 := ⟨k - 1, by first | decide | omega⟩
    rw [G4_hadInSum_4, if_pos (by first | decide | omega)]
    congr 2
    show s = s + 0
    omega
  | succ d ih =>
    intro k i s a1 a2 a3 a4 a5
    obtain ⟨k, rfl⟩ : ∃ j, k = j + 1 := ⟨k - 1, by first | decide | omega⟩
    have hb := hf i (by first | decide | omega) (by first | decide | omega)
    rw [G4_hadInSum_4, if_neg (by first | decide | omega), gdx_t (by first | decide | omega), gd3_t (by first | decide | omega), gd3_t (by first | decide | omega), ih k (i + 1) _ (by first | decide | omega) (by first | decide | omega) (by first | decide | omega) (by first | decide | omega) (by first | decide | omega), smd_s, Int.add_assoc]
theorem c_his {a : Nat} (h5 : 0 ≤ w 1 0 ∧ w 1 0 ≤ 5) (hf : ∀ i, 0 ≤ i → i < w 1 0 → 0 ≤ m (a + 2) i ∧ m (a + 2) i ≤ 1000) : G4_hadInSum m a (w 1 0) = some (smd (m (a + 2)) (w 1 0).toNat 0, m) := by
  unfold G4_hadInSum G4_hadInSum_0
  rw [c_sum h5.2 hf (w 1 0).toNat 1024 0 0 (by first | decide | omega) (by first | decide | omega) (by first | decide | omega) (by first | decide | omega) (by first | decide | omega), Int.zero_add]
theorem r_sum {b : Int} {f : Int → Int} (hb : b = 0 ∨ b = 1) (h14 : v 0 14 = w 1 0) (h5 : w 1 0 ≤ 5) (hf : ∀ i, 0 ≤ i → i < w 1 0 → v 26 (5 * b + i) = f i ∧ 0 ≤ f i ∧ f i ≤ 1000) : ∀ (d k : Nat) (i s : Int), 0 ≤ i → w 1 0 - i = d → d < k → 0 ≤ s → s ≤ 1000 * i → G12_allHad_4 k v b s i = some (s + smd f d i, v) := by
  intro d
  induction d with
  | zero =>
    intro k i s a1 a2 a3 a4 a5
    obtain ⟨k, rfl⟩ : ∃ j, k = j + 1 := ⟨k - 1, by first | decide | omega⟩
    rw [G12_allHad_4, h14, if_pos (by first | decide | omega)]
    congr 2
    show s = s + 0
    omega
  | succ d ih =>
    intro k i s a1 a2 a3 a4 a5
    obtain ⟨k, rfl⟩ : ∃ j, k = j + 1 := ⟨k - 1, by first | decide | omega⟩
    obtain ⟨e, hb0⟩ := hf i (by first | decide | omega) (by first | decide | omega)
    rw [G12_allHad_4, h14, if_neg (by first | decide | omega), gdx_t (by first | decide | omega), e, gd3_t (by first | decide | omega), gd3_t (by first | decide | omega), ih k (i + 1) _ (by first | decide | omega) (by first | decide | omega) (by first | decide | omega) (by first | decide | omega) (by first | decide | omega), smd_s, Int.add_assoc]
theorem r_all {b : Int} {f : Int → Int} (hb : b = 0 ∨ b = 1) (h14 : v 0 14 = w 1 0) (h5 : 0 ≤ w 1 0 ∧ w 1 0 ≤ 5) (hf : ∀ i, 0 ≤ i → i < w 1 0 → v 26 (5 * b + i) = f i ∧ 0 ≤ f i ∧ f i ≤ 1000) : G12_allHad v b = some (smd f (w 1 0).toNat 0, v) := by
  unfold G12_allHad G12_allHad_0
  rw [r_sum hb h14 h5.2 hf (w 1 0).toNat 1024 0 0 (by first | decide | omega) (by first | decide | omega) (by first | decide | omega) (by first | decide | omega) (by first | decide | omega), Int.zero_add]
theorem a_shares (h : Rel m v) (x : Int) : Agr (G11_shares m x) (G12_shares v x) := by
  have h1 := h.v0
  unfold G11_shares G11_shares_0 G12_shares G12_shares_0
  rw [wt_e]
  generalize up v 0 2 0 = u at h1 ⊢
  obtain ⟨T, w, g, n, t1, t2, hc, hn, hW, hG, hE, hS, hR, hV, hL, -, -, -⟩ := h1.use
  have hw := hW.1
  unfold WS at hw
  have hff := ff_spec (w := w) (by first | decide | omega) (n 0 0)
  have e10 : m (T + 1) 0 = w 1 0 := hc.1.2.2 1 0 (by first | decide | omega)
  have er : m (69 + 2) = n 2 := funext fun i => hn.2.2 2 i (by first | decide | omega)
  have hf : ∀ i, 0 ≤ i → i < w 1 0 → 0 ≤ m (69 + 2) i ∧ m (69 + 2) i ≤ 1000 := fun i p q => by rw [er]; have := (hS.1.2 i p q).2.1; omega
  rw [t2, Int.toNat_natCast, e10, hR.1.2.2.1, c_unl (by first | decide | omega) hf, c_his (by first | decide | omega) hf, bs1, bs1, er, r_isIn, bs1]
  by_cases c0 : w 1 0 = 0
  · rw [if_pos c0]
    by_cases z1 : x < 0
    · rw [if_pos z1]; exact agr0 h1 _ rfl rfl
    · rw [if_neg z1]
      by_cases z2 : 1 < x
      · rw [if_pos z2]; exact agr0 h1 _ rfl rfl
      · rw [if_neg z2, if_neg (by first | decide | omega)]; exact agr0 h1 _ rfl rfl
  · rw [if_neg c0]
    by_cases c1 : 0 ≤ x ∧ x ≤ 1
    · simp only [if_pos c1, if_neg i10, if_neg (show ¬ x < 0 by first | decide | omega), if_neg (show ¬ 1 < x by first | decide | omega), if_pos (show 1 ≤ w 1 0 by first | decide | omega)]
      have hf2 : ∀ i, 0 ≤ i → i < w 1 0 → u 26 (5 * 0 + i) = n 2 i ∧ 0 ≤ n 2 i ∧ n 2 i < 99 := fun i p q => ⟨(hV.1.1 i p q).2.1, by have := (hS.1.2 i p q).2.1; first | decide | omega⟩
      rw [r_unl (Or.inl rfl) hR.1.2.2.1 (by first | decide | omega) hf2, r_all (Or.inl rfl) hR.1.2.2.1 (by first | decide | omega) (fun i p q => ⟨(hf2 i p q).1, (hf2 i p q).2.1, by have := (hf2 i p q).2.2; first | decide | omega⟩), bs1, bs1]
      split
      · exact agr0 h1 _ rfl rfl
      · exact agr0 h1 _ rfl rfl
    · simp only [if_neg c1, if_true]
      by_cases z1 : x < 0
      · rw [if_pos z1]; exact agr0 h1 _ rfl rfl
      · rw [if_neg z1, if_pos (by first | decide | omega)]; exact agr0 h1 _ rfl rfl
theorem r_ftc2 (hR : RT v w) (hS : SN w n) (hV : SV w n v) (hW : WW w) : ∀ (d k : Nat) (i : Int), 0 ≤ i → i ≤ ff w (n 0 0) → ff w (n 0 0) - i = d → d < k → G12_firstToCome_2 k v i = some (ff w (n 0 0), v) := by
  have hw := hW.1
  unfold WS at hw
  obtain ⟨f1, f2, f3, f4⟩ := ff_spec (w := w) (by first | decide | omega) (n 0 0)
  intro d
  induction d with
  | zero =>
    intro k i a1 a2 a3 a4
    obtain ⟨k, rfl⟩ : ∃ j, k = j + 1 := ⟨k - 1, by first | decide | omega⟩
    have ei : i = ff w (n 0 0) := by omega
    rw [G12_firstToCome_2, hR.1.2.2.2.2.1]
    by_cases c : w 8 1 ≤ i
    · rw [if_pos c, ei]
    · have e6 : v 30 i = n 6 i := by have := hV.1.2.1 i a1 (by first | decide | omega); rwa [show 28 * (0 : Int) + i = i by first | decide | omega] at this
      have h4 := f4 (by first | decide | omega)
      rw [← ei] at h4
      rw [if_neg c, gdx_t (by first | decide | omega), e6, if_pos ((hS.2.2.2 i a1 (by first | decide | omega)).mpr h4), ei]
  | succ d ih =>
    intro k i a1 a2 a3 a4
    obtain ⟨k, rfl⟩ : ∃ j, k = j + 1 := ⟨k - 1, by first | decide | omega⟩
    have e6 : v 30 i = n 6 i := by have := hV.1.2.1 i a1 (by first | decide | omega); rwa [show 28 * (0 : Int) + i = i by first | decide | omega] at this
    have h3 := f3 i a1 (by first | decide | omega)
    rw [G12_firstToCome_2, hR.1.2.2.2.2.1, if_neg (by first | decide | omega), gdx_t (by first | decide | omega), e6, if_neg (fun q => by have := (hS.2.2.2 i a1 (by first | decide | omega)).mp q; first | decide | omega), gd3_t (by first | decide | omega), ih k (i + 1) (by first | decide | omega) (by first | decide | omega) (by first | decide | omega) (by first | decide | omega)]
theorem r_ftc (hR : RT v w) (hS : SN w n) (hV : SV w n v) (hW : WW w) : G12_firstToCome v = some (ff w (n 0 0), v) := by
  have hw := hW.1
  unfold WS at hw
  have hf := ff_spec (w := w) (by first | decide | omega) (n 0 0)
  exact r_ftc2 hR hS hV hW (ff w (n 0 0)).toNat 1024 0 (by first | decide | omega) hf.1 (by first | decide | omega) (by first | decide | omega)
end Q4
