/-! The tokens of a text: the class reads them so. -/
theorem pp_bs {t : Int → Int} {q : Int} {j : Nat} (hj : j < 6) (hl : ∀ i : Nat, i ≤ j → 97 ≤ t (q + i) ∧ t (q + i) ≤ 122) : b3or (pp t q j) (b3sl (t (q + j) - 97 + 1) (b3an (25 - 5 * (j : Int)) 31)) = pp t q (j + 1) ∧ 0 ≤ pp t q (j + 1) ∧ pp t q (j + 1) < 1073741824 := by
  have l0 := hl 0 (by omega)
  have e0 : pp t q 0 = 0 := rfl
  have e1 : pp t q 1 = (t (q + (0 : Nat)) - 96) * 33554432 := by rw [pp_s, if_pos (by omega), e0]; show 0 + (t (q + (0 : Nat)) - 96) * 33554432 = _; omega
  have e2 : pp t q 2 = pp t q 1 + (t (q + (1 : Nat)) - 96) * 1048576 := by rw [pp_s, if_pos (by omega)]; rfl
  have e3 : pp t q 3 = pp t q 2 + (t (q + (2 : Nat)) - 96) * 32768 := by rw [pp_s, if_pos (by omega)]; rfl
  have e4 : pp t q 4 = pp t q 3 + (t (q + (3 : Nat)) - 96) * 1024 := by rw [pp_s, if_pos (by omega)]; rfl
  have e5 : pp t q 5 = pp t q 4 + (t (q + (4 : Nat)) - 96) * 32 := by rw [pp_s, if_pos (by omega)]; rfl
  have e6 : pp t q 6 = pp t q 5 + (t (q + (5 : Nat)) - 96) * 1 := by rw [pp_s, if_pos (by omega)]; rfl
  rcases (by omega : j = 0 ∨ j = 1 ∨ j = 2 ∨ j = 3 ∨ j = 4 ∨ j = 5) with h | h | h | h | h | h <;> subst h
  · have a : b3an (25 - 5 * ((0 : Nat) : Int)) 31 = 25 := by decide
    have b : b3sl (t (q + (0 : Nat)) - 97 + 1) 25 = (t (q + (0 : Nat)) - 97 + 1) * 33554432 := sl_v (k := 25) (by decide) (by decide) ⟨by omega, by show (t (q + (0 : Nat)) - 97 + 1) * 33554432 < 2147483648; omega⟩
    rw [a, b, e0, or_v (A := 0) (b := (t (q + (0 : Nat)) - 97 + 1) * 33554432) (k := 30) (a := 0) (by rw [Int.zero_mul]) (by omega) ⟨by omega, by show (t (q + (0 : Nat)) - 97 + 1) * 33554432 < 1073741824; omega⟩ (by omega), e1]
    omega
  · have l1 := hl 1 (by omega)
    have a : b3an (25 - 5 * ((1 : Nat) : Int)) 31 = 20 := by decide
    have b : b3sl (t (q + (1 : Nat)) - 97 + 1) 20 = (t (q + (1 : Nat)) - 97 + 1) * 1048576 := sl_v (k := 20) (by decide) (by decide) ⟨by omega, by show (t (q + (1 : Nat)) - 97 + 1) * 1048576 < 2147483648; omega⟩
    rw [a, b, or_v (k := 25) (a := t (q + (0 : Nat)) - 96) (by rw [e1]; rfl) (by omega) ⟨by omega, by show (t (q + (1 : Nat)) - 97 + 1) * 1048576 < 33554432; omega⟩ (by omega), e2]
    omega
  · have l1 := hl 1 (by omega)
    have l2 := hl 2 (by omega)
    have a : b3an (25 - 5 * ((2 : Nat) : Int)) 31 = 15 := by decide
    have b : b3sl (t (q + (2 : Nat)) - 97 + 1) 15 = (t (q + (2 : Nat)) - 97 + 1) * 32768 := sl_v (k := 15) (by decide) (by decide) ⟨by omega, by show (t (q + (2 : Nat)) - 97 + 1) * 32768 < 2147483648; omega⟩
    rw [a, b, or_v (k := 20) (a := (t (q + (0 : Nat)) - 96) * 32 + (t (q + (1 : Nat)) - 96)) (by rw [e2, e1]; show _ = ((t (q + (0 : Nat)) - 96) * 32 + (t (q + (1 : Nat)) - 96)) * 1048576; omega) (by omega) ⟨by omega, by show (t (q + (2 : Nat)) - 97 + 1) * 32768 < 1048576; omega⟩ (by omega), e3]
    omega
  · have l1 := hl 1 (by omega)
    have l2 := hl 2 (by omega)
    have l3 := hl 3 (by omega)
    have a : b3an (25 - 5 * ((3 : Nat) : Int)) 31 = 10 := by decide
    have b : b3sl (t (q + (3 : Nat)) - 97 + 1) 10 = (t (q + (3 : Nat)) - 97 + 1) * 1024 := sl_v (k := 10) (by decide) (by decide) ⟨by omega, by show (t (q + (3 : Nat)) - 97 + 1) * 1024 < 2147483648; omega⟩
    rw [a, b, or_v (k := 15) (a := ((t (q + (0 : Nat)) - 96) * 32 + (t (q + (1 : Nat)) - 96)) * 32 + (t (q + (2 : Nat)) - 96)) (by rw [e3, e2, e1]; show _ = (((t (q + (0 : Nat)) - 96) * 32 + (t (q + (1 : Nat)) - 96)) * 32 + (t (q + (2 : Nat)) - 96)) * 32768; omega) (by omega) ⟨by omega, by show (t (q + (3 : Nat)) - 97 + 1) * 1024 < 32768; omega⟩ (by omega), e4]
    omega
  · have l1 := hl 1 (by omega)
    have l2 := hl 2 (by omega)
    have l3 := hl 3 (by omega)
    have l4 := hl 4 (by omega)
    have a : b3an (25 - 5 * ((4 : Nat) : Int)) 31 = 5 := by decide
    have b : b3sl (t (q + (4 : Nat)) - 97 + 1) 5 = (t (q + (4 : Nat)) - 97 + 1) * 32 := sl_v (k := 5) (by decide) (by decide) ⟨by omega, by show (t (q + (4 : Nat)) - 97 + 1) * 32 < 2147483648; omega⟩
    rw [a, b, or_v (k := 10) (a := (((t (q + (0 : Nat)) - 96) * 32 + (t (q + (1 : Nat)) - 96)) * 32 + (t (q + (2 : Nat)) - 96)) * 32 + (t (q + (3 : Nat)) - 96)) (by rw [e4, e3, e2, e1]; show _ = ((((t (q + (0 : Nat)) - 96) * 32 + (t (q + (1 : Nat)) - 96)) * 32 + (t (q + (2 : Nat)) - 96)) * 32 + (t (q + (3 : Nat)) - 96)) * 1024; omega) (by omega) ⟨by omega, by show (t (q + (4 : Nat)) - 97 + 1) * 32 < 1024; omega⟩ (by omega), e5]
    omega
  · have l1 := hl 1 (by omega)
    have l2 := hl 2 (by omega)
    have l3 := hl 3 (by omega)
    have l4 := hl 4 (by omega)
    have l5 := hl 5 (by omega)
    have a : b3an (25 - 5 * ((5 : Nat) : Int)) 31 = 0 := by decide
    have b : b3sl (t (q + (5 : Nat)) - 97 + 1) 0 = (t (q + (5 : Nat)) - 97 + 1) * 1 := sl_v (k := 0) (by decide) (by decide) ⟨by omega, by show (t (q + (5 : Nat)) - 97 + 1) * 1 < 2147483648; omega⟩
    rw [a, b, or_v (k := 5) (a := ((((t (q + (0 : Nat)) - 96) * 32 + (t (q + (1 : Nat)) - 96)) * 32 + (t (q + (2 : Nat)) - 96)) * 32 + (t (q + (3 : Nat)) - 96)) * 32 + (t (q + (4 : Nat)) - 96)) (by rw [e5, e4, e3, e2, e1]; show _ = (((((t (q + (0 : Nat)) - 96) * 32 + (t (q + (1 : Nat)) - 96)) * 32 + (t (q + (2 : Nat)) - 96)) * 32 + (t (q + (3 : Nat)) - 96)) * 32 + (t (q + (4 : Nat)) - 96)) * 32; omega) (by omega) ⟨by omega, by show (t (q + (5 : Nat)) - 97 + 1) * 1 < 32; omega⟩ (by omega), e6]
    omega
section Q21
variable {m v w : Mem}
def P47 : Nat → Int → Prop := fun b i => b = 47 ∧ 3 ≤ i
theorem c_letter (m : Mem) (x : Int) : G7_isLetter m x = some ((if isLt x = true then 1 else 0), m) := by
  unfold G7_isLetter G7_isLetter_0
  by_cases c : isLt x = true
  · have := isLt_i.mp c
    rw [if_pos c, if_neg (by omega), if_neg (by omega)]
  · rw [if_neg c]
    have : ¬ (97 ≤ x ∧ x ≤ 122) := fun q => c (isLt_i.mpr q)
    by_cases c2 : x < 97
    · rw [if_pos c2]
    · rw [if_neg c2, if_pos (by omega)]
theorem c_digit (m : Mem) (x : Int) : G7_isDigit m x = some ((if isDg x = true then 1 else 0), m) := by
  unfold G7_isDigit G7_isDigit_0
  by_cases c : isDg x = true
  · have := isDg_i.mp c
    rw [if_pos c, if_neg (by omega), if_neg (by omega)]
  · rw [if_neg c]
    have : ¬ (48 ≤ x ∧ x ≤ 57) := fun q => c (isDg_i.mpr q)
    by_cases c2 : x < 48
    · rw [if_pos c2]
    · rw [if_neg c2, if_pos (by omega)]
theorem c_skip {S : Int} {t : Int → Int} (hS : 0 ≤ S ∧ S ≤ 700) : ∀ (d k : Nat) (p : Int) (m : Mem), 0 ≤ p → S - p = d → d < k → m 47 1 = 1 → m 47 2 = S → m 47 3 = p → m 1 = t → ∃ m', G7_skipBlanks_0 k m = some m' ∧ Fm P47 m m' ∧ m' 47 3 = rn (fun i => isBl (t i)) d p := by
  intro d
  induction d with
  | zero =>
    intro k p m a1 a2 a3 h1 h2 h3 h4
    obtain ⟨k, rfl⟩ : ∃ q, k = q + 1 := ⟨k - 1, by omega⟩
    rw [G7_skipBlanks_0, if_pos (by omega)]
    exact ⟨m, rfl, Fm.rf, h3⟩
  | succ d ih =>
    intro k p m a1 a2 a3 h1 h2 h3 h4
    obtain ⟨k, rfl⟩ : ∃ q, k = q + 1 := ⟨k - 1, by omega⟩
    have go : isBl (t p) = true → ∃ m', G7_skipBlanks_40 (fun m => G7_skipBlanks_0 k m) m = some m' ∧ Fm P47 m m' ∧ m' 47 3 = rn (fun i => isBl (t i)) (d + 1) p := by
      intro c
      unfold G7_skipBlanks_40
      rw [h3, gd3_t (by omega), wt_e, rn_s, if_pos c]
      obtain ⟨m', z1, z2, z3⟩ := ih k (p + 1) (up m 47 3 (p + 1)) (by omega) (by omega) (by omega) (by rw [up_i (by omega)]; exact h1) (by rw [up_i (by omega)]; exact h2) up_e (by rw [up_b (by omega)]; exact h4)
      exact ⟨m', z1, (Fm.w1 ⟨rfl, by omega⟩).tr z2, z3⟩
    rw [G7_skipBlanks_0, if_neg (by omega), h3, h4, gde_t h1, gdx_t (by omega), gde_t h1, gdx_t (by omega)]
    by_cases c1 : t p = 10
    · rw [if_pos c1]; exact go (isBl_i.mpr (Or.inl c1))
    · rw [if_neg c1]
      by_cases c2 : t p = 32
      · rw [if_pos c2]; exact go (isBl_i.mpr (Or.inr c2))
      · rw [if_neg c2, rn_s, if_neg (fun q => by rcases isBl_i.mp q with y | y; exact c1 y; exact c2 y)]
        exact ⟨m, rfl, Fm.rf, h3⟩
theorem c_wix {B : Int} : ∀ (l : List Int) (k : Nat) (i : Int), l.length < k → 0 ≤ i → i + l.length = 24 → (∀ j : Nat, j < l.length → m 48 (i + j) = l.getD j 0) → G7_wordOf_2 k m B i = some (wxl l B i, m) := by
  intro l
  induction l with
  | nil =>
    intro k i a1 a2 a3 h
    obtain ⟨k, rfl⟩ : ∃ q, k = q + 1 := ⟨k - 1, by omega⟩
    have : i = 24 := by have h2 : (([] : List Int).length : Int) = 0 := rfl; omega
    subst this
    rw [G7_wordOf_2, if_pos (by omega)]
    rfl
  | cons a r ih =>
    intro k i a1 a2 a3 h
    obtain ⟨k, rfl⟩ : ∃ q, k = q + 1 := ⟨k - 1, by omega⟩
    have hl : ((a :: r).length : Int) = r.length + 1 := by simp
    have hl2 : (a :: r).length = r.length + 1 := rfl
    have h0 := h 0 (by omega)
    rw [show i + ((0 : Nat) : Int) = i by omega] at h0
    have h0' : m 48 i = a := h0
    rw [G7_wordOf_2, if_neg (by omega), gdx_t (by omega), h0']
    have ew : wxl (a :: r) B i = if a = B then i else wxl r B (i + 1) := rfl
    rw [ew]
    by_cases c : a = B
    · rw [if_pos c, if_pos c]
    · rw [if_neg c, if_neg c, gd3_t (by omega)]
      exact ih k (i + 1) (by omega) (by omega) (by omega) (fun j hj => by
        have := h (j + 1) (by omega)
        rw [show i + 1 + (j : Int) = i + ((j + 1 : Nat) : Int) by omega, this]
        rfl)
theorem c_word {S q : Int} {t : Int → Int} (hS : 0 ≤ S ∧ S ≤ 700) (hq : 0 ≤ q) (hlg : ∀ i : Nat, i < 24 → m 48 i = lgW.getD i 0) : ∀ (d k : Nat) (j : Nat) (m1 : Mem), S - (q + j) = d → d < k → m1 47 1 = 1 → m1 47 2 = S → m1 47 3 = q + j → m1 1 = t → m1 48 = m 48 → m1 47 6 = pp t q j → (∀ i : Nat, i < j → 97 ≤ t (q + i) ∧ t (q + i) ≤ 122) → ∃ m', G7_takeWord_2 k m1 j = some m' ∧ Fm P47 m1 m' ∧ m' 47 3 = rn (fun i => isLt (t i)) d (q + j) ∧ m' 47 5 = m1 47 5 ∧ m' 47 6 = pp t q (rn (fun i => isLt (t i)) d (q + j) - q).toNat ∧ m' 47 4 = (if rn (fun i => isLt (t i)) d (q + j) - q ≤ 6 then wix (pp t q (rn (fun i => isLt (t i)) d (q + j) - q).toNat) else 40) := by
  intro d
  have fin : ∀ (j : Nat) (m1 : Mem), (j : Int) ≤ 700 → m1 47 3 = q + j → m1 48 = m 48 → m1 47 6 = pp t q j → ∃ m', G7_takeWord_72 m1 j = some m' ∧ Fm P47 m1 m' ∧ m' 47 3 = q + j ∧ m' 47 5 = m1 47 5 ∧ m' 47 6 = pp t q (q + j - q).toNat ∧ m' 47 4 = (if q + j - q ≤ 6 then wix (pp t q (q + j - q).toNat) else 40) := by
    intro j m1 hj h3 h48 h6
    have ej : (q + (j : Int) - q).toNat = j := by omega
    have ej2 : q + (j : Int) - q = j := by omega
    unfold G7_takeWord_72 G7_takeWord_92
    rw [ej, ej2]
    by_cases c : (j : Int) ≤ 6
    · rw [if_pos c, if_pos c, h6]
      unfold G7_wordOf G7_wordOf_0
      rw [c_wix lgW 1024 0 (by decide) (by omega) (by decide) (fun i hi => by
        rw [h48, show (0 : Int) + (i : Int) = i by omega]; exact hlg i hi), bs1]
      simp only
      rw [wt_e]
      refine ⟨_, rfl, Fm.w1 ⟨rfl, by omega⟩, ?_, ?_, ?_, up_e⟩
      · rw [up_i (by omega)]; exact h3
      · rw [up_i (by omega)]
      · rw [up_i (by omega)]; exact h6
    · rw [if_neg c, if_neg c, wt_e]
      refine ⟨_, rfl, Fm.w1 ⟨rfl, by omega⟩, ?_, ?_, ?_, up_e⟩
      · rw [up_i (by omega)]; exact h3
      · rw [up_i (by omega)]
      · rw [up_i (by omega)]; exact h6
  induction d with
  | zero =>
    intro k j m1 a1 a2 h1 h2 h3 h4 h48 h6 hl
    obtain ⟨k, rfl⟩ : ∃ q, k = q + 1 := ⟨k - 1, by omega⟩
    rw [G7_takeWord_2, if_pos (by omega)]
    exact fin j m1 (by omega) h3 h48 h6
  | succ d ih =>
    intro k j m1 a1 a2 h1 h2 h3 h4 h48 h6 hl
    obtain ⟨k, rfl⟩ : ∃ q, k = q + 1 := ⟨k - 1, by omega⟩
    rw [G7_takeWord_2, if_neg (by omega), gde_t h1, h3, gdx_t (by omega), h4, c_letter, bs1]
    by_cases c : isLt (t (q + j)) = true
    · have hc := isLt_i.mp c
      have er : rn (fun i => isLt (t i)) (d + 1) (q + j) = rn (fun i => isLt (t i)) d (q + (j + 1 : Nat)) := by
        rw [rn_s, if_pos c, show q + (j : Int) + 1 = q + ((j + 1 : Nat) : Int) by omega]
      have hl' : ∀ i : Nat, i < j + 1 → 97 ≤ t (q + i) ∧ t (q + i) ≤ 122 := fun i hi => by
        by_cases z : i = j
        · rw [z]; exact hc
        · exact hl i (by omega)
      have nx : ∀ m2 : Mem, Fm P47 m1 m2 → m2 47 3 = q + j → m2 47 5 = m1 47 5 → m2 47 6 = pp t q (j + 1) → ∃ m', G7_takeWord_56 (fun m x1 => G7_takeWord_2 k m x1) m2 j = some m' ∧ Fm P47 m1 m' ∧ m' 47 3 = rn (fun i => isLt (t i)) (d + 1) (q + j) ∧ m' 47 5 = m1 47 5 ∧ m' 47 6 = pp t q (rn (fun i => isLt (t i)) (d + 1) (q + j) - q).toNat ∧ m' 47 4 = (if rn (fun i => isLt (t i)) (d + 1) (q + j) - q ≤ 6 then wix (pp t q (rn (fun i => isLt (t i)) (d + 1) (q + j) - q).toNat) else 40) := by
        intro m2 f2 g3 g5 g6
        unfold G7_takeWord_56
        rw [g3, gd3_t (by omega), wt_e, gd3_t (by omega), er, show (j : Int) + 1 = ((j + 1 : Nat) : Int) by omega]
        have f3 : Fm P47 m1 (up m2 47 3 (q + j + 1)) := f2.w ⟨rfl, by omega⟩
        obtain ⟨m', z1, z2, z3, z4, z5⟩ := ih k (j + 1) (up m2 47 3 (q + j + 1)) (by omega) (by omega) (by rw [f3 47 1 (by unfold P47; omega)]; exact h1) (by rw [f3 47 2 (by unfold P47; omega)]; exact h2) (by rw [up_e]; omega) (by rw [f3.rw1 (fun i => by unfold P47; omega)]; exact h4) (by rw [f3.rw1 (fun i => by unfold P47; omega)]; exact h48) (by rw [up_i (by omega)]; exact g6) hl'
        refine ⟨m', z1, f3.tr z2, z3, ?_, z5⟩
        rw [z4, up_i (by omega)]; exact g5
      simp only [if_pos c, if_neg i10]
      by_cases c6 : 6 ≤ (j : Int)
      · rw [if_pos c6]
        exact nx m1 Fm.rf h3 rfl (by rw [h6, pp_s, if_neg (by omega)])
      · rw [if_neg c6, gde_t h1, h3, gdx_t (by omega)]
        unfold G7_letterBits G7_letterBits_0
        rw [bs1, wt_e]
        simp only
        obtain ⟨pb, _⟩ := pp_bs (t := t) (q := q) (j := j) (by omega) (fun i hi => hl' i (by omega))
        rw [h6, h4, pb]
        exact nx _ (Fm.w1 ⟨rfl, by omega⟩) (by rw [up_i (by omega)]; exact h3) (by rw [up_i (by omega)]) up_e
    · have er : rn (fun i => isLt (t i)) (d + 1) (q + j) = q + j := by rw [rn_s, if_neg c]
      simp only [if_neg c, if_true]
      rw [er]
      exact fin j m1 (by omega) h3 h48 h6
theorem c_num {S : Int} {t : Int → Int} (hS : 0 ≤ S ∧ S ≤ 700) : ∀ (d k : Nat) (p a : Int) (m : Mem), 0 ≤ p → S - p = d → d < k → m 47 1 = 1 → m 47 2 = S → m 47 3 = p → m 1 = t → m 47 6 = a → (0 ≤ a ∧ a ≤ 1000000) → ∃ m', G7_takeNumber_0 k m = some m' ∧ Fm P47 m m' ∧ m' 47 3 = rn (fun i => isDg (t i)) d p ∧ m' 47 5 = m 47 5 ∧ m' 47 4 = 25 ∧ m' 47 6 = nv t (rn (fun i => isDg (t i)) d p - p).toNat p a ∧ 0 ≤ m' 47 6 := by
  intro d
  have fin : ∀ (m : Mem) (p a : Int), m 47 3 = p → m 47 6 = a → 0 ≤ a → ∃ m', G7_takeNumber_68 m = some m' ∧ Fm P47 m m' ∧ m' 47 3 = p ∧ m' 47 5 = m 47 5 ∧ m' 47 4 = 25 ∧ m' 47 6 = nv t (p - p).toNat p a ∧ 0 ≤ m' 47 6 := by
    intro m p a h3 h6 ha
    unfold G7_takeNumber_68
    rw [wt_e, show (p - p).toNat = 0 by omega]
    refine ⟨_, rfl, Fm.w1 ⟨rfl, by omega⟩, ?_, ?_, up_e, ?_, ?_⟩
    · rw [up_i (by omega)]; exact h3
    · rw [up_i (by omega)]
    · rw [up_i (by omega)]; exact h6
    · rw [up_i (by omega)]; omega
  induction d with
  | zero =>
    intro k p a m a1 a2 a3 h1 h2 h3 h4 h6 ha
    obtain ⟨k, rfl⟩ : ∃ q, k = q + 1 := ⟨k - 1, by omega⟩
    rw [G7_takeNumber_0, if_pos (by omega)]
    exact fin m p a h3 h6 ha.1
  | succ d ih =>
    intro k p a m a1 a2 a3 h1 h2 h3 h4 h6 ha
    obtain ⟨k, rfl⟩ : ∃ q, k = q + 1 := ⟨k - 1, by omega⟩
    rw [G7_takeNumber_0, if_neg (by omega), gde_t h1, h3, gdx_t (by omega), h4, c_digit, bs1]
    by_cases c : isDg (t p) = true
    · have hc := isDg_i.mp c
      obtain ⟨r1, r2, _, _⟩ := rn_spec (f := fun i => isDg (t i)) d (p + 1)
      have er : rn (fun i => isDg (t i)) (d + 1) p = rn (fun i => isDg (t i)) d (p + 1) := by rw [rn_s, if_pos c]
      simp only [if_pos c, if_neg i10]
      rw [gde_t h1, h3, gdx_t (by omega), h4, h6, gd3_t (by omega)]
      have hb : 0 ≤ (if 1000000 < a * 10 + t p - 48 then 1000000 else a * 10 + t p - 48) ∧ (if 1000000 < a * 10 + t p - 48 then 1000000 else a * 10 + t p - 48) ≤ 1000000 := by split <;> omega
      rw [gd3_t (by omega), wt_e]
      have e3 : ∀ y, up m 47 6 y 47 3 = p := fun y => by rw [up_i (by omega)]; exact h3
      rw [e3, gd3_t (by omega), wt_e, er]
      have f1 : Fm P47 m (up (up m 47 6 (if 1000000 < a * 10 + t p - 48 then 1000000 else a * 10 + t p - 48)) 47 3 (p + 1)) := (Fm.w1 ⟨rfl, by omega⟩).w ⟨rfl, by omega⟩
      obtain ⟨m', z1, z2, z3, z4, z5, z6, z7⟩ := ih k (p + 1) (if 1000000 < a * 10 + t p - 48 then 1000000 else a * 10 + t p - 48) (up (up m 47 6 (if 1000000 < a * 10 + t p - 48 then 1000000 else a * 10 + t p - 48)) 47 3 (p + 1)) (by omega) (by omega) (by omega) (by rw [f1 47 1 (by unfold P47; omega)]; exact h1) (by rw [f1 47 2 (by unfold P47; omega)]; exact h2) up_e (by rw [f1.rw1 (fun i => by unfold P47; omega)]; exact h4) (by rw [up_i (by omega), up_e]) hb
      refine ⟨m', z1, f1.tr z2, z3, ?_, z5, ?_, z7⟩
      · rw [z4, up_i (by omega), up_i (by omega)]
      · rw [z6, show (rn (fun i => isDg (t i)) d (p + 1) - p).toNat = (rn (fun i => isDg (t i)) d (p + 1) - (p + 1)).toNat + 1 by omega, nv_s]
    · have er : rn (fun i => isDg (t i)) (d + 1) p = p := by rw [rn_s, if_neg c]
      simp only [if_neg c, if_true]
      rw [er]
      exact fin m p a h3 h6 ha.1
theorem c_next {S x : Int} {t : Int → Int} {p : Int} (hS : 0 ≤ S ∧ S ≤ 700) (hp : 0 ≤ p) (h1 : m 47 1 = 1) (h2 : m 47 2 = S) (h3 : m 47 3 = p + 1) (h4 : m 1 = t) (hx : x ≠ 0) : G7_isNext m x = some ((if chN t S p = x then 1 else 0), m) := by
  unfold G7_isNext G7_isNext_0 chN
  rw [h2, h3, h4]
  by_cases c : S ≤ p + 1
  · rw [if_pos c, if_neg (show ¬ p + 1 < S by omega), if_neg (fun q => hx q.symm)]
  · rw [if_neg c, if_pos (show p + 1 < S by omega), gde_t h1, gdx_t (by omega)]
    split <;> rfl
theorem c_sign {S : Int} {t : Int → Int} {p : Int} (hS : 0 ≤ S ∧ S ≤ 700) (hp : 0 ≤ p ∧ p < S) (h1 : m 47 1 = 1) (h2 : m 47 2 = S) (h3 : m 47 3 = p) (h4 : m 1 = t) : ∃ m', G7_takeSign m = some m' ∧ Fm P47 m m' ∧ m' 47 3 = p + sgA (t p) (chN t S p) ∧ m' 47 5 = m 47 5 ∧ m' 47 6 = m 47 6 ∧ m' 47 4 = sgT (t p) (chN t S p) := by
  have es : ∀ (z : Mem) (c : Int), G7_signOf z c = some (sg1 c, z) := by
    intro z c
    unfold G7_signOf G7_signOf_0 sg1
    repeat (first | rfl | (split; rfl))
  unfold G7_takeSign G7_takeSign_0
  rw [gde_t h1, h3, gdx_t (by omega), gd3_t (by omega), wt_e, es, bs1, wt_e]
  simp only
  rw [h4]
  have g3 : ∀ y, up (up m 47 3 (p + 1)) 47 4 y 47 3 = p + 1 := fun y => by rw [up_i (by omega), up_e]
  have K : ∀ y, (up (up m 47 3 (p + 1)) 47 4 y) 47 1 = 1 ∧ (up (up m 47 3 (p + 1)) 47 4 y) 47 2 = S ∧ (up (up m 47 3 (p + 1)) 47 4 y) 1 = t := fun y => by
    refine ⟨?_, ?_, ?_⟩
    · rw [up_i (by omega), up_i (by omega)]; exact h1
    · rw [up_i (by omega), up_i (by omega)]; exact h2
    · rw [up_b (by omega), up_b (by omega)]; exact h4
  have nx : ∀ y x, x ≠ 0 → G7_isNext (up (up m 47 3 (p + 1)) 47 4 y) x = some ((if chN t S p = x then 1 else 0), up (up m 47 3 (p + 1)) 47 4 y) := fun y x hx => c_next hS hp.1 (K y).1 (K y).2.1 (g3 y) (K y).2.2 hx
  have fin0 : ∀ y, Fm P47 m (up (up m 47 3 (p + 1)) 47 4 y) := fun y => (Fm.w1 ⟨rfl, by omega⟩).w ⟨rfl, by omega⟩
  have out1 : ∀ y, ∃ m', some (up (up m 47 3 (p + 1)) 47 4 y) = some m' ∧ Fm P47 m m' ∧ m' 47 3 = p + 1 ∧ m' 47 5 = m 47 5 ∧ m' 47 6 = m 47 6 ∧ m' 47 4 = y := fun y => ⟨_, rfl, fin0 y, g3 y, by rw [up_i (by omega), up_i (by omega)], by rw [up_i (by omega), up_i (by omega)], up_e⟩
  have out2 : ∀ y z, ∃ m', (wt (up (up (up m 47 3 (p + 1)) 47 4 y) 47 4 z) fun m7 => gd3 (m7 47 3 + 1) (wt (up m7 47 3 (m7 47 3 + 1)) fun m11 => some m11)) = some m' ∧ Fm P47 m m' ∧ m' 47 3 = p + 2 ∧ m' 47 5 = m 47 5 ∧ m' 47 6 = m 47 6 ∧ m' 47 4 = z := fun y z => by
    rw [wt_e, up_i (by omega), g3, gd3_t (by omega), wt_e]
    exact ⟨_, rfl, ((fin0 y).w ⟨rfl, by omega⟩).w ⟨rfl, by omega⟩, by rw [up_e]; omega, by rw [up_i (by omega), up_i (by omega), up_i (by omega), up_i (by omega)], by rw [up_i (by omega), up_i (by omega), up_i (by omega), up_i (by omega)], by rw [up_i (by omega), up_e]⟩
  unfold G7_takeSign_65 G7_takeSign_102
  simp only [up_e]
  by_cases c1 : t p = 60
  · have e : sg1 (t p) = 26 := by rw [c1]; rfl
    rw [e]
    simp only [if_true, if_neg (show ¬ (26 : Int) = 31 by omega)]
    rw [nx 26 61 (by omega), bs1]
    unfold sgT sgA
    simp only [if_pos c1]
    by_cases c2 : chN t S p = 61
    · simp only [if_pos c2, if_neg i10]; exact out2 26 27
    · simp only [if_neg c2, if_true]
      rw [nx 26 62 (by omega), bs1]
      simp only [up_e]
      by_cases c3 : chN t S p = 62
      · simp only [if_pos c3, if_neg i10]; exact out2 26 29
      · simp only [if_neg c3, if_true, up_e, if_neg (show ¬ (26 : Int) = 31 by omega)]; exact out1 26
  · by_cases c2 : t p = 62
    · have e : sg1 (t p) = 31 := by rw [c2]; rfl
      rw [e]
      simp only [if_neg (show ¬ (31 : Int) = 26 by omega), if_true]
      rw [nx 31 61 (by omega), bs1]
      unfold sgT sgA
      simp only [if_neg c1, if_pos c2]
      by_cases c3 : chN t S p = 61
      · simp only [if_pos c3, if_neg i10]; exact out2 31 30
      · simp only [if_neg c3, if_true]; exact out1 31
    · have e1 : sg1 (t p) ≠ 26 ∧ sg1 (t p) ≠ 31 := by
        unfold sg1
        repeat (first | omega | (split))
      unfold sgT sgA
      simp only [if_neg c1, if_neg c2, if_neg e1.1, if_neg e1.2]
      exact out1 _
theorem c_advS {S p : Int} {t : Int → Int} (hS : 0 ≤ S ∧ S ≤ 700) (hp : 0 ≤ p ∧ p ≤ S) (h1 : m 47 1 = 1) (h2 : m 47 2 = S) (h3 : m 47 3 = p) (h4 : m 1 = t) (hlg : ∀ i : Nat, i < 24 → m 48 i = lgW.getD i 0) : ∃ m', G7_advance m = some m' ∧ Fm P47 m m' ∧ m' 47 5 = tkp t S p ∧ m' 47 4 = tqt t S (tkp t S p) ∧ m' 47 6 = tqv t S (tkp t S p) ∧ m' 47 3 = tqn t S (tkp t S p) := by
  obtain ⟨m1, e1, f1, k1⟩ := c_skip (t := t) hS (S - p).toNat 1024 p m hp.1 (by omega) (by omega) h1 h2 h3 h4
  have k1' : m1 47 3 = tkp t S p := k1
  obtain ⟨q1, q2, _, _⟩ := rr_spec (f := fun i => isBl (t i)) hp.2
  have q1' : p ≤ tkp t S p := q1
  have q2' : tkp t S p ≤ S := q2
  unfold G7_advance G7_advance_0 G7_skipBlanks
  rw [e1, bs1, wt_e, wt_e, k1']
  generalize tkp t S p = q at k1' q1' q2' ⊢
  have f2 : Fm P47 m (up (up m1 47 5 q) 47 6 0) := (f1.w ⟨rfl, by omega⟩).w ⟨rfl, by omega⟩
  have g1 : up (up m1 47 5 q) 47 6 0 47 1 = 1 := by rw [f2 47 1 (by unfold P47; omega)]; exact h1
  have g2 : up (up m1 47 5 q) 47 6 0 47 2 = S := by rw [f2 47 2 (by unfold P47; omega)]; exact h2
  have g3 : up (up m1 47 5 q) 47 6 0 47 3 = q := by rw [up_i (by omega), up_i (by omega)]; exact k1'
  have g4 : up (up m1 47 5 q) 47 6 0 1 = t := by rw [f2.rw1 (fun i => by unfold P47; omega)]; exact h4
  have g5 : up (up m1 47 5 q) 47 6 0 47 5 = q := by rw [up_i (by omega), up_e]
  have g6 : up (up m1 47 5 q) 47 6 0 47 6 = 0 := up_e
  have g48 : up (up m1 47 5 q) 47 6 0 48 = m 48 := f2.rw1 (fun i => by unfold P47; omega)
  generalize up (up m1 47 5 q) 47 6 0 = m2 at f2 g1 g2 g3 g4 g5 g6 g48 ⊢
  unfold tqt tqv tqn
  rw [g3, g2]
  by_cases c1 : S ≤ q
  · rw [if_pos c1, if_pos c1, if_pos c1, if_neg (by omega), wt_e]
    exact ⟨_, rfl, f2.w ⟨rfl, by omega⟩, by rw [up_i (by omega)]; exact g5, up_e, by rw [up_i (by omega)]; exact g6, by rw [up_i (by omega)]; exact g3⟩
  · rw [if_neg c1, if_neg c1, if_neg c1, if_pos (by omega), gde_t g1, gdx_t (by omega), g4, c_letter, bs1]
    by_cases c2 : isLt (t q) = true
    · simp only [if_pos c2, if_neg i10]
      unfold G7_takeWord G7_takeWord_0
      obtain ⟨m', z1, z2, z3, z4, z5, z6⟩ := c_word (t := t) (q := q) hS (by omega) hlg (S - q).toNat 1024 0 m2 (by omega) (by omega) g1 g2 (by rw [g3]; omega) g4 g48 g6 (fun i hi => by omega)
      have eq0 : q + ((0 : Nat) : Int) = q := by omega
      rw [eq0] at z3 z5 z6
      have el : rn (fun i => isLt (t i)) (S - q).toNat q = lte t S q := rfl
      rw [el] at z3 z5 z6
      have z1' : G7_takeWord_2 1024 m2 0 = some m' := z1
      rw [z1', bs1]
      exact ⟨m', rfl, f2.tr z2, by rw [z4]; exact g5, z6, z5, z3⟩
    · simp only [if_neg c2, if_true]
      rw [gde_t g1, g3, gdx_t (by omega), g4, c_digit, bs1]
      by_cases c3 : isDg (t q) = true
      · simp only [if_pos c3, if_neg i10]
        unfold G7_takeNumber
        obtain ⟨m', z1, z2, z3, z4, z5, z6, z7⟩ := c_num (t := t) hS (S - q).toNat 1024 q 0 m2 (by omega) (by omega) (by omega) g1 g2 g3 g4 g6 (by omega)
        rw [z1, bs1]
        exact ⟨m', rfl, f2.tr z2, by rw [z4]; exact g5, z5, z6, z3⟩
      · simp only [if_neg c3, if_true]
        obtain ⟨m', z1, z2, z3, z4, z5, z6⟩ := c_sign (t := t) hS (p := q) (by omega) g1 g2 g3 g4
        rw [z1, bs1]
        exact ⟨m', rfl, f2.tr z2, by rw [z4]; exact g5, z6, by rw [z5]; exact g6, z3⟩
end Q21
