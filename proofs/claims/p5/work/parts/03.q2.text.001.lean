theorem pp_bs {t : Int → Int} {q : Int} {j : Nat} (hj : j < 6) (hl : ∀ i : Nat, i ≤ j → 97 ≤ t (q + i) ∧ t (q + i) ≤ 122) : b3or (pp t q j) (b3sl (t (q + j) - 97 + 1) (b3an (25 - 5 * (j : Int)) 31)) = pp t q (j + 1) ∧ 0 ≤ pp t q (j + 1) ∧ pp t q (j + 1) < 1073741824 := by
  have l0 := hl 0 (by first | decide | omega)
  have e0 : pp t q 0 = 0 := rfl
  have e1 : pp t q 1 = (t (q + (0 : Nat)) - 96) * 33554432 := by rw [pp_s, if_pos (by first | decide | omega), e0]; show 0 + (t (q + (0 : Nat)) - 96) * 33554432 = _; omega
  have e2 : pp t q 2 = pp t q 1 + (t (q + (1 : Nat)) - 96) * 1048576 := by rw [pp_s, if_pos (by first | decide | omega)]; rfl
  have e3 : pp t q 3 = pp t q 2 + (t (q + (2 : Nat)) - 96) * 32768 := by rw [pp_s, if_pos (by first | decide | omega)]; rfl
  have e4 : pp t q 4 = pp t q 3 + (t (q + (3 : Nat)) - 96) * 1024 := by rw [pp_s, if_pos (by first | decide | omega)]; rfl
  have e5 : pp t q 5 = pp t q 4 + (t (q + (4 : Nat)) - 96) * 32 := by rw [pp_s, if_pos (by first | decide | omega)]; rfl
  have e6 : pp t q 6 = pp t q 5 + (t (q + (5 : Nat)) - 96) * 1 := by rw [pp_s, if_pos (by first | decide | omega)]; rfl
  rcases (by omega : j = 0 ∨ j = 1 ∨ j = 2 ∨ j = 3 ∨ j = 4 ∨ j = 5) with h | h | h | h | h | h <;> subst h
  · have a : b3an (25 - 5 * ((0 : Nat) : Int)) 31 = 25 := by decide
    have b : b3sl (t (q + (0 : Nat)) - 97 + 1) 25 = (t (q + (0 : Nat)) - 97 + 1) * 33554432 := sl_v (k := 25) (by decide) (by decide) ⟨by first | decide | omega, by show (t (q + (0 : Nat)) - 97 + 1) * 33554432 < 2147483648; first | decide | omega⟩
    rw [a, b, e0, or_v (A := 0) (b := (t (q + (0 : Nat)) - 97 + 1) * 33554432) (k := 30) (a := 0) (by rw [Int.zero_mul]) (by first | decide | omega) ⟨by first | decide | omega, by show (t (q + (0 : Nat)) - 97 + 1) * 33554432 < 1073741824; first | decide | omega⟩ (by first | decide | omega), e1]
    omega
  · have l1 := hl 1 (by first | decide | omega)
    have a : b3an (25 - 5 * ((1 : Nat) : Int)) 31 = 20 := by decide
    have b : b3sl (t (q + (1 : Nat)) - 97 + 1) 20 = (t (q + (1 : Nat)) - 97 + 1) * 1048576 := sl_v (k := 20) (by decide) (by decide) ⟨by first | decide | omega, by show (t (q + (1 : Nat)) - 97 + 1) * 1048576 < 2147483648; first | decide | omega⟩
    rw [a, b, or_v (k := 25) (a := t (q + (0 : Nat)) - 96) (by rw [e1]; rfl) (by first | decide | omega) ⟨by first | decide | omega, by show (t (q + (1 : Nat)) - 97 + 1) * 1048576 < 33554432; first | decide | omega⟩ (by first | decide | omega), e2]
    omega
  · have l1 := hl 1 (by first | decide | omega)
    have l2 := hl 2 (by first | decide | omega)
    have a : b3an (25 - 5 * ((2 : Nat) : Int)) 31 = 15 := by decide
    have b : b3sl (t (q + (2 : Nat)) - 97 + 1) 15 = (t (q + (2 : Nat)) - 97 + 1) * 32768 := sl_v (k := 15) (by decide) (by decide) ⟨by first | decide | omega, by show (t (q + (2 : Nat)) - 97 + 1) * 32768 < 2147483648; first | decide | omega⟩
    rw [a, b, or_v (k := 20) (a := (t (q + (0 : Nat)) - 96) * 32 + (t (q + (1 : Nat)) - 96)) (by rw [e2, e1]; show _ = ((t (q + (0 : Nat)) - 96) * 32 + (t (q + (1 : Nat)) - 96)) * 1048576; first | decide | omega) (by first | decide | omega) ⟨by first | decide | omega, by show (t (q + (2 : Nat)) - 97 + 1) * 32768 < 1048576; first | decide | omega⟩ (by first | decide | omega), e3]
    omega
  · have l1 := hl 1 (by first | decide | omega)
    have l2 := hl 2 (by first | decide | omega)
    have l3 := hl 3 (by first | decide | omega)
    have a : b3an (25 - 5 * ((3 : Nat) : Int)) 31 = 10 := by decide
    have b : b3sl (t (q + (3 : Nat)) - 97 + 1) 10 = (t (q + (3 : Nat)) - 97 + 1) * 1024 := sl_v (k := 10) (by decide) (by decide) ⟨by first | decide | omega, by show (t (q + (3 : Nat)) - 97 + 1) * 1024 < 2147483648; first | decide | omega⟩
    rw [a, b, or_v (k := 15) (a := ((t (q + (0 : Nat)) - 96) * 32 + (t (q + (1 : Nat)) - 96)) * 32 + (t (q + (2 : Nat)) - 96)) (by rw [e3, e2, e1]; show _ = (((t (q + (0 : Nat)) - 96) * 32 + (t (q + (1 : Nat)) - 96)) * 32 + (t (q + (2 : Nat)) - 96)) * 32768; first | decide | omega) (by first | decide | omega) ⟨by first | decide | omega, by show (t (q + (3 : Nat)) - 97 + 1) * 1024 < 32768; first | decide | omega⟩ (by first | decide | omega), e4]
    omega
  · have l1 := hl 1 (by first | decide | omega)
    have l2 := hl 2 (by first | decide | omega)
    have l3 := hl 3 (by first | decide | omega)
    have l4 := hl 4 (by first | decide | omega)
    have a : b3an (25 - 5 * ((4 : Nat) : Int)) 31 = 5 := by decide
    have b : b3sl (t (q + (4 : Nat)) - 97 + 1) 5 = (t (q + (4 : Nat)) - 97 + 1) * 32 := sl_v (k := 5) (by decide) (by decide) ⟨by first | decide | omega, by show (t (q + (4 : Nat)) - 97 + 1) * 32 < 2147483648; first | decide | omega⟩
    rw [a, b, or_v (k := 10) (a := (((t (q + (0 : Nat)) - 96) * 32 + (t (q + (1 : Nat)) - 96)) * 32 + (t (q + (2 : Nat)) - 96)) * 32 + (t (q + (3 : Nat)) - 96)) (by rw [e4, e3, e2, e1]; show _ = ((((t (q + (0 : Nat)) - 96) * 32 + (t (q + (1 : Nat)) - 96)) * 32 + (t (q + (2 : Nat)) - 96)) * 32 + (t (q + (3 : Nat)) - 96)) * 1024; first | decide | omega) (by first | decide | omega) ⟨by first | decide | omega, by show (t (q + (4 : Nat)) - 97 + 1) * 32 < 1024; first | decide | omega⟩ (by first | decide | omega), e5]
    omega
  · have l1 := hl 1 (by first | decide | omega)
    have l2 := hl 2 (by first | decide | omega)
    have l3 := hl 3 (by first | decide | omega)
    have l4 := hl 4 (by first | decide | omega)
    have l5 := hl 5 (by first | decide | omega)
    have a : b3an (25 - 5 * ((5 : Nat) : Int)) 31 = 0 := by decide
    have b : b3sl (t (q + (5 : Nat)) - 97 + 1) 0 = (t (q + (5 : Nat)) - 97 + 1) * 1 := sl_v (k := 0) (by decide) (by decide) ⟨by first | decide | omega, by show (t (q + (5 : Nat)) - 97 + 1) * 1 < 2147483648; first | decide | omega⟩
    rw [a, b, or_v (k := 5) (a := ((((t (q + (0 : Nat)) - 96) * 32 + (t (q + (1 : Nat)) - 96)) * 32 + (t (q + (2 : Nat)) - 96)) * 32 + (t (q + (3 : Nat)) - 96)) * 32 + (t (q + (4 : Nat)) - 96)) (by rw [e5, e4, e3, e2, e1]; show _ = (((((t (q + (0 : Nat)) - 96) * 32 + (t (q + (1 : Nat)) - 96)) * 32 + (t (q + (2 : Nat)) - 96)) * 32 + (t (q + (3 : Nat)) - 96)) * 32 + (t (q + (4 : Nat)) - 96)) * 32; first | decide | omega) (by first | decide | omega) ⟨by first | decide | omega, by show (t (q + (5 : Nat)) - 97 + 1) * 1 < 32; first | decide | omega⟩ (by first | decide | omega), e6]
    omega
section Q21
variable {m v w : Mem}
def P47 : Nat → Int → Prop := fun b i => b = 47 ∧ 3 ≤ i
theorem c_letter (m : Mem) (x : Int) : G7_isLetter m x = some ((if isLt x = true then 1 else 0), m) := by
  unfold G7_isLetter G7_isLetter_0
  by_cases c : isLt x = true
  · have := isLt_i.mp c
    rw [if_pos c, if_neg (by first | decide | omega), if_neg (by first | decide | omega)]
  · rw [if_neg c]
    have : ¬ (97 ≤ x ∧ x ≤ 122) := fun q => c (isLt_i.mpr q)
    by_cases c2 : x < 97
    · rw [if_pos c2]
    · rw [if_neg c2, if_pos (by first | decide | omega)]
theorem c_digit (m : Mem) (x : Int) : G7_isDigit m x = some ((if isDg x = true then 1 else 0), m) := by
  unfold G7_isDigit G7_isDigit_0
  by_cases c : isDg x = true
  · have := isDg_i.mp c
    rw [if_pos c, if_neg (by first | decide | omega), if_neg (by first | decide | omega)]
  · rw [if_neg c]
    have : ¬ (48 ≤ x ∧ x ≤ 57) := fun q => c (isDg_i.mpr q)
    by_cases c2 : x < 48
    · rw [if_pos c2]
    · rw [if_neg c2, if_pos (by first | decide | omega)]
theorem c_skip {S : Int} {t : Int → Int} (hS : 0 ≤ S ∧ S ≤ 700) : ∀ (d k : Nat) (p : Int) (m : Mem), 0 ≤ p → S - p = d → d < k → m 47 1 = 1 → m 47 2 = S → m 47 3 = p → m 1 = t → ∃ m', G7_skipBlanks_0 k m = some m' ∧ Fm P47 m m' ∧ m' 47 3 = rn (fun i => isBl (t i)) d p := by
  intro d
  induction d with
  | zero =>
    intro k p m a1 a2 a3 h1 h2 h3 h4
    obtain ⟨k, rfl⟩ : ∃ q, k = q + 1 := ⟨k - 1, by first | decide | omega⟩
    rw [G7_skipBlanks_0, if_pos (by first | decide | omega)]
    exact ⟨m, rfl, Fm.rf, h3⟩
  | succ d ih =>
    intro k p m a1 a2 a3 h1 h2 h3 h4
    obtain ⟨k, rfl⟩ : ∃ q, k = q + 1 := ⟨k - 1, by first | decide | omega⟩
    have go : isBl (t p) = true → ∃ m', G7_skipBlanks_40 (fun m => G7_skipBlanks_0 k m) m = some m' ∧ Fm P47 m m' ∧ m' 47 3 = rn (fun i => isBl (t i)) (d + 1) p := by
      intro c
      unfold G7_skipBlanks_40
      rw [h3, gd3_t (by first | decide | omega), wt_e, rn_s, if_pos c]
      obtain ⟨m', z1, z2, z3⟩ := ih k (p + 1) (up m 47 3 (p + 1)) (by first | decide | omega) (by first | decide | omega) (by first | decide | omega) (by rw [up_i (by first | decide | omega)]; exact h1) (by rw [up_i (by first | decide | omega)]; exact h2) up_e (by rw [up_b (by first | decide | omega)]; exact h4)
      exact ⟨m', z1, (Fm.w1 ⟨rfl, by first | decide | omega⟩).tr z2, z3⟩
    rw [G7_skipBlanks_0, if_neg (by first | decide | omega), h3, h4, gde_t h1, gdx_t (by first | decide | omega), gde_t h1, gdx_t (by first | decide | omega)]
    by_cases c1 : t p = 10
    · rw [if_pos c1]; exact go (isBl_i.mpr (Or.inl c1))
    · rw [if_neg c1]
      by_cases c2 : t p = 32
      · rw [if_pos c2]; exact go (isBl_i.mpr (Or.inr c2))
      · rw [if_neg c2, rn_s, if_neg (fun q => by rcases isBl_i.mp q with y | y; exact c1 y; exact c2 y)]
        exact ⟨m, rfl, Fm.rf, h3⟩
theorem c_wix {B : Int} : ∀ (l : List Int) (k : Nat) (i : Int), l.length < k → 0 ≤ i → i + l.length = 24 → (∀ j : Nat, j < l.length → m 48 (i + j) = l.getD j 0) → G7_wordOf_2 k m B i = some (wxl l B i, m) := by
  intro l
  induction l with
  | nil =>
    intro k i a1 a2 a3 h
    obtain ⟨k, rfl⟩ : ∃ q, k = q + 1 := ⟨k - 1, by first | decide | omega⟩
    have : i = 24 := by have h2 : (([] : List Int).length : Int) = 0 := rfl; omega
    subst this
    rw [G7_wordOf_2, if_pos (by first | decide | omega)]
    rfl
  | cons a r ih =>
    intro k i a1 a2 a3 h
    obtain ⟨k, rfl⟩ : ∃ q, k = q + 1 := ⟨k - 1, by first | decide | omega⟩
    have hl : ((a :: r).length : Int) = r.length + 1 := by simp
    have hl2 : (a :: r).length = r.length + 1 := rfl
    have h0 := h 0 (by first | decide | omega)
    rw [show i + ((0 : Nat) : Int) = i by first | decide | omega] at h0
    have h0' : m 48 i = a := h0
    rw [G7_wordOf_2, if_neg (by first | decide | omega), gdx_t (by first | decide | omega), h0']
    have ew : wxl (a :: r) B i = if a = B then i else wxl r B (i + 1) := rfl
    rw [ew]
    by_cases c : a = B
    · rw [if_pos c, if_pos c]
    · rw [if_neg c, if_neg c, gd3_t (by first | decide | omega)]
      exact ih k (i + 1) (by first | decide | omega) (by first | decide | omega) (by first | decide | omega) (fun j hj => by
        have := h (j + 1) (by first | decide | omega)
        rw [show i + 1 + (j : Int) = i + ((j + 1 : Nat) : Int) by first | decide | omega, this]
        rfl)
end Q21
