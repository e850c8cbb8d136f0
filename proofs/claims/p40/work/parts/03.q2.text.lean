/-! The tokens of a text: the class. -/
def isBl (c : Int) : Bool := decide (c = 10) || decide (c = 32)
def isLt (c : Int) : Bool := decide (97 ≤ c) && decide (c ≤ 122)
def isDg (c : Int) : Bool := decide (48 ≤ c) && decide (c ≤ 57)
theorem isBl_i {c : Int} : isBl c = true ↔ (c = 10 ∨ c = 32) := by unfold isBl; simp
theorem isLt_i {c : Int} : isLt c = true ↔ (97 ≤ c ∧ c ≤ 122) := by unfold isLt; simp
theorem isDg_i {c : Int} : isDg c = true ↔ (48 ≤ c ∧ c ≤ 57) := by unfold isDg; simp
/-- how far a row of such goes -/
def rn (f : Int → Bool) : Nat → Int → Int
  | 0, p => p
  | d + 1, p => if f p = true then rn f d (p + 1) else p
theorem rn_s (f : Int → Bool) (d : Nat) (p : Int) : rn f (d + 1) p = if f p = true then rn f d (p + 1) else p := rfl
def rr (f : Int → Bool) (S p : Int) : Int := rn f (S - p).toNat p
theorem rn_spec {f : Int → Bool} : ∀ (d : Nat) (p : Int), p ≤ rn f d p ∧ rn f d p ≤ p + d ∧ (∀ i, p ≤ i → i < rn f d p → f i = true) ∧ (rn f d p < p + d → ¬ f (rn f d p) = true) := by
  intro d
  induction d with
  | zero => intro p; exact ⟨by show p ≤ p; first | decide | omega, by show p ≤ p + 0; first | decide | omega, fun i a b => by have : rn f 0 p = p := rfl; first | decide | omega, fun h => by have : rn f 0 p = p := rfl; first | decide | omega⟩
  | succ d ih =>
    intro p
    rw [rn_s]
    by_cases c : f p = true
    · rw [if_pos c]
      obtain ⟨h1, h2, h3, h4⟩ := ih (p + 1)
      refine ⟨by first | decide | omega, by first | decide | omega, fun i a b => ?_, fun h => h4 (by first | decide | omega)⟩
      by_cases z : i = p
      · rw [z]; exact c
      · exact h3 i (by first | decide | omega) b
    · rw [if_neg c]
      exact ⟨by first | decide | omega, by first | decide | omega, fun i a b => by first | decide | omega, fun _ => c⟩
theorem rr_spec {f : Int → Bool} {S p : Int} (h : p ≤ S) : p ≤ rr f S p ∧ rr f S p ≤ S ∧ (∀ i, p ≤ i → i < rr f S p → f i = true) ∧ (rr f S p < S → ¬ f (rr f S p) = true) := by
  obtain ⟨h1, h2, h3, h4⟩ := rn_spec (f := f) (S - p).toNat p
  unfold rr
  exact ⟨h1, by first | decide | omega, h3, fun q => h4 (by first | decide | omega)⟩
/-- the letters of a word from q on, six at most, 5 bits each -/
def pp (t : Int → Int) (q : Int) : Nat → Int
  | 0 => 0
  | j + 1 => if j < 6 then pp t q j + (t (q + j) - 96) * 2 ^ (25 - 5 * j) else pp t q j
theorem pp_s (t : Int → Int) (q : Int) (j : Nat) : pp t q (j + 1) = if j < 6 then pp t q j + (t (q + j) - 96) * 2 ^ (25 - 5 * j) else pp t q j := rfl
/-- a number from q on -/
def nv (t : Int → Int) : Nat → Int → Int → Int
  | 0, _, a => a
  | d + 1, q, a => nv t d (q + 1) (if 1000000 < a * 10 + t q - 48 then 1000000 else a * 10 + t q - 48)
theorem nv_s (t : Int → Int) (d : Nat) (q a : Int) : nv t (d + 1) q a = nv t d (q + 1) (if 1000000 < a * 10 + t q - 48 then 1000000 else a * 10 + t q - 48) := rfl
/-- signs: by the one and the next one -/
def sg1 (c : Int) : Int := if c = 40 then 36 else if c = 41 then 37 else if c = 42 then 34 else if c = 43 then 32 else if c = 45 then 33 else if c = 47 then 35 else if c = 59 then 38 else if c = 60 then 26 else if c = 61 then 28 else if c = 62 then 31 else 40
def sgT (c x : Int) : Int := if c = 60 then (if x = 61 then 27 else if x = 62 then 29 else 26) else if c = 62 then (if x = 61 then 30 else 31) else sg1 c
def sgA (c x : Int) : Int := if c = 60 then (if x = 61 then 2 else if x = 62 then 2 else 1) else if c = 62 then (if x = 61 then 2 else 1) else 1
def wxl : List Int → Int → Int → Int
  | [], _, i => i
  | a :: r, B, i => if a = B then i else wxl r B (i + 1)
def wix (B : Int) : Int := wxl lgW B 0
/-- place, token, value, what comes behind -/
def tkp (t : Int → Int) (S p : Int) : Int := rr (fun i => isBl (t i)) S p
def lte (t : Int → Int) (S q : Int) : Int := rr (fun i => isLt (t i)) S q
def dge (t : Int → Int) (S q : Int) : Int := rr (fun i => isDg (t i)) S q
def chN (t : Int → Int) (S q : Int) : Int := if q + 1 < S then t (q + 1) else 0
def tqt (t : Int → Int) (S q : Int) : Int := if S ≤ q then 39 else if isLt (t q) = true then (if lte t S q - q ≤ 6 then wix (pp t q (lte t S q - q).toNat) else 40) else if isDg (t q) = true then 25 else sgT (t q) (chN t S q)
def tqv (t : Int → Int) (S q : Int) : Int := if S ≤ q then 0 else if isLt (t q) = true then pp t q (lte t S q - q).toNat else if isDg (t q) = true then nv t (dge t S q - q).toNat q 0 else 0
def tqn (t : Int → Int) (S q : Int) : Int := if S ≤ q then q else if isLt (t q) = true then lte t S q else if isDg (t q) = true then dge t S q else q + sgA (t q) (chN t S q)
theorem z3n {X : Int} (h : 0 ≤ X ∧ X < 2147483648) : (Z3 X).toBitVec.toNat = X.toNat := by
  have e : (Z3 X).toBitVec = BitVec.ofInt 32 X := rfl
  rw [e, BitVec.toNat_ofInt]
  have : X % ((2 ^ 32 : Nat) : Int) = X := Int.emod_eq_of_lt h.1 (by have := h.2; first | decide | omega)
  rw [this]
theorem sl_v {c S : Int} {k : Nat} (hk : (Z3 S).toBitVec.smod 32 = BitVec.ofNat 32 k) (hk2 : k < 32) (hc : 0 ≤ c ∧ c * 2 ^ k < 2147483648) : b3sl c S = c * 2 ^ k := by
  have hc0 : c < 2147483648 := by
    have h1 : (1 : Int) ≤ 2 ^ k := by have := Int.pow_pos (n := 2) (m := k) (by first | decide | omega); omega
    have h2 : c * 1 ≤ c * 2 ^ k := Int.mul_le_mul_of_nonneg_left h1 hc.1
    omega
  obtain ⟨n, rfl⟩ : ∃ n : Nat, c = n := ⟨c.toNat, by first | decide | omega⟩
  have hn : n * 2 ^ k < 2147483648 := by
    have h := hc.2
    have e : ((n * 2 ^ k : Nat) : Int) = (n : Int) * 2 ^ k := by rw [Int.natCast_mul, Int.natCast_pow]; rfl
    rw [← e] at h
    generalize n * 2 ^ k = z at h ⊢
    omega
  unfold b3sl
  have e : (Z3 n <<< Z3 S).toBitVec = (Z3 n).toBitVec <<< k := by
    show (Z3 n).toBitVec <<< ((Z3 S).toBitVec.smod 32) = _
    rw [hk]
    show (Z3 n).toBitVec <<< (BitVec.ofNat 32 k).toNat = _
    rw [BitVec.toNat_ofNat, Nat.mod_eq_of_lt (by first | decide | omega)]
  have e1 : (Z3 n <<< Z3 S).toBitVec.toNat = n * 2 ^ k := by
    rw [e, BitVec.toNat_shiftLeft, z3n (by first | decide | omega), Nat.shiftLeft_eq, Int.toNat_natCast, Nat.mod_eq_of_lt (by first | decide | omega)]
  have e2 : (Z3 n <<< Z3 S).toInt = ((Z3 n <<< Z3 S).toBitVec.toNat : Int) := by
    refine bv_nn (n := 31) _ ?_
    rw [e1]; omega
  rw [e2, e1]
  exact_mod_cast rfl
theorem or_v {A b : Int} {k : Nat} {a : Int} (hA : A = a * 2 ^ k) (ha : 0 ≤ a ∧ A < 1073741824) (hb : 0 ≤ b ∧ b < 2 ^ k) (hk : k ≤ 30) : b3or A b = A + b := by
  obtain ⟨a, rfl⟩ : ∃ n : Nat, a = n := ⟨a.toNat, by first | decide | omega⟩
  obtain ⟨b, rfl⟩ : ∃ n : Nat, b = n := ⟨b.toNat, by first | decide | omega⟩
  have hb2 : b < 2 ^ k := by have := hb.2; exact_mod_cast this
  have hp : 2 ^ k ≤ 2 ^ 30 := Nat.pow_le_pow_right (by first | decide | omega) hk
  have hA' : A = ((2 ^ k * a : Nat) : Int) := by rw [hA, Nat.mul_comm]; exact_mod_cast rfl
  have hA2 : 2 ^ k * a < 1073741824 := by
    have h := ha.2
    rw [hA'] at h
    generalize 2 ^ k * a = z at h ⊢
    omega
  have hb3 : b < 1073741824 := Nat.lt_of_lt_of_le hb2 hp
  have hs : 2 ^ k * a + b < 2147483648 := by omega
  rw [hA']
  unfold b3or
  have e1 : (Z3 ((2 ^ k * a : Nat) : Int) ||| Z3 (b : Int)).toBitVec.toNat = 2 ^ k * a + b := by
    rw [Int32.toBitVec_or, BitVec.toNat_or, z3n (by first | decide | omega), z3n (by first | decide | omega), Int.toNat_natCast, Int.toNat_natCast, Nat.two_pow_add_eq_or_of_lt hb2]
  have e2 : (Z3 ((2 ^ k * a : Nat) : Int) ||| Z3 (b : Int)).toInt = ((Z3 ((2 ^ k * a : Nat) : Int) ||| Z3 (b : Int)).toBitVec.toNat : Int) := by
    refine bv_nn (n := 31) _ ?_
    rw [e1]; omega
  rw [e2, e1]
  exact_mod_cast rfl
/-! The tokens of a text: the class reads them so. -/
theorem pp_bs {t : Int → Int} {q : Int} {j : Nat} (hj : j < 6) (hl : ∀ i : Nat, i ≤ j → 97 ≤ t (q + i) ∧ t (q + i) ≤ 122) : b3or (pp t q j) (b3sl (t (q + j) - 97 + 1) (b3an (25 - 5 * (j : Int)) 31)) = pp t q (j + 1) ∧ 0 ≤ pp t q (j + 1) ∧ pp t q (j + 1) < 1073741824 := by
  have l0 := hl 0 (by first | decide | omega)
  have e0 : pp t q 0 = 0 := rfl
  have e1 : pp t q 1 = (t (q + (0 : Nat)) - 96) * 33554432 := by rw [pp_s, if_pos (by first | decide | omega), e0]; show 0 + (t (q + (0 : Nat)) - 96) * 33554432 = _; omega
  have e2 : pp t q 2 = pp t q 1 + (t (q + (1 : Nat)) - 96) * 1048576 := by rw [pp_s, if_pos (by first | decide | omega)]; rfl
  have e3 : pp t q 3 = pp t q 2 + (t (q + (2 : Nat)) - 96) * 32768 := by rw [pp_s, if_pos (by first | decide | omega)]; rfl
  have e4 : pp t q 4 = pp t q 3 + (t (q + (3 : Nat)) - 96) * 1024 := by rw [pp_s, if_pos (by first | decide | omega)]; rfl
  have e5 : pp t q 5 = pp t q 4 + (t (q + (4 : Nat)) - 96) * 32 := by rw [pp_s, if_pos (by first | decide | omega)]; rfl
  have e6 : pp t q 6 = pp t q 5 + (t (q + (5 : Nat)) - 96) * 1 := by rw [pp_s, if_pos (by first | decide | omega)]; rfl
  rcases (by omega : j = 0 ∨ j = 1 ∨ j = 2 ∨ j = 3 ∨ j = 4 ∨ j = 5) with h | h | h | h | h | h <;> subst h
  · have a : b3an (25 - 5 * ((0 : Nat) : Int)) 31 = 25 := by decide
    have b : b3sl (t (q + (0 : Nat)) - 97 + 1) 25 = (t (q + (0 : Nat)) - 97 + 1) * 33554432 := sl_v (k := 25) (by decide) (by decide) ⟨by first | decide | omega, by show (t (q + (0 : Nat)) - 97 + 1) * 33554432 < 2147483648; first | decide | omega⟩
    rw [a, b, e0, or_v (A := 0) (b := (t (q + (0 : Nat)) - 97 + 1) * 33554432) (k := 30) (a := 0) (by rw [Int.zero_mul]) (by first | decide | omega) ⟨by first | decide | omega, by show (t (q + (0 : Nat)) - 97 + 1) * 33554432 < 1073741824; first | decide | omega⟩ (by first | decide | omega), e1]
    omega
  · have l1 := hl 1 (by first | decide | omega)
    have a : b3an (25 - 5 * ((1 : Nat) : Int)) 31 = 20 := by decide
    have b : b3sl (t (q + (1 : Nat)) - 97 + 1) 20 = (t (q + (1 : Nat)) - 97 + 1) * 1048576 := sl_v (k := 20) (by decide) (by decide) ⟨by first | decide | omega, by show (t (q + (1 : Nat)) - 97 + 1) * 1048576 < 2147483648; first | decide | omega⟩
    rw [a, b, or_v (k := 25) (a := t (q + (0 : Nat)) - 96) (by rw [e1]; rfl) (by first | decide | omega) ⟨by first | decide | omega, by show (t (q + (1 : Nat)) - 97 + 1) * 1048576 < 33554432; first | decide | omega⟩ (by first | decide | omega), e2]
    omega
  · have l1 := hl 1 (by first | decide | omega)
    have l2 := hl 2 (by first | decide | omega)
    have a : b3an (25 - 5 * ((2 : Nat) : Int)) 31 = 15 := by decide
    have b : b3sl (t (q + (2 : Nat)) - 97 + 1) 15 = (t (q + (2 : Nat)) - 97 + 1) * 32768 := sl_v (k := 15) (by decide) (by decide) ⟨by first | decide | omega, by show (t (q + (2 : Nat)) - 97 + 1) * 32768 < 2147483648; first | decide | omega⟩
    rw [a, b, or_v (k := 20) (a := (t (q + (0 : Nat)) - 96) * 32 + (t (q + (1 : Nat)) - 96)) (by rw [e2, e1]; show _ = ((t (q + (0 : Nat)) - 96) * 32 + (t (q + (1 : Nat)) - 96)) * 1048576; first | decide | omega) (by first | decide | omega) ⟨by first | decide | omega, by show (t (q + (2 : Nat)) - 97 + 1) * 32768 < 1048576; first | decide | omega⟩ (by first | decide | omega), e3]
    omega
  · have l1 := hl 1 (by first | decide | omega)
    have l2 := hl 2 (by first | decide | omega)
    have l3 := hl 3 (by first | decide | omega)
    have a : b3an (25 - 5 * ((3 : Nat) : Int)) 31 = 10 := by decide
    have b : b3sl (t (q + (3 : Nat)) - 97 + 1) 10 = (t (q + (3 : Nat)) - 97 + 1) * 1024 := sl_v (k := 10) (by decide) (by decide) ⟨by first | decide | omega, by show (t (q + (3 : Nat)) - 97 + 1) * 1024 < 2147483648; first | decide | omega⟩
    rw [a, b, or_v (k := 15) (a := ((t (q + (0 : Nat)) - 96) * 32 + (t (q + (1 : Nat)) - 96)) * 32 + (t (q + (2 : Nat)) - 96)) (by rw [e3, e2, e1]; show _ = (((t (q + (0 : Nat)) - 96) * 32 + (t (q + (1 : Nat)) - 96)) * 32 + (t (q + (2 : Nat)) - 96)) * 32768; first | decide | omega) (by first | decide | omega) ⟨by first | decide | omega, by show (t (q + (3 : Nat)) - 97 + 1) * 1024 < 32768; first | decide | omega⟩ (by first | decide | omega), e4]
    omega
  · have l1 := hl 1 (by first | decide | omega)
    have l2 := hl 2 (by first | decide | omega)
    have l3 := hl 3 (by first | decide | omega)
    have l4 := hl 4 (by first | decide | omega)
    have a : b3an (25 - 5 * ((4 : Nat) : Int)) 31 = 5 := by decide
    have b : b3sl (t (q + (4 : Nat)) - 97 + 1) 5 = (t (q + (4 : Nat)) - 97 + 1) * 32 := sl_v (k := 5) (by decide) (by decide) ⟨by first | decide | omega, by show (t (q + (4 : Nat)) - 97 + 1) * 32 < 2147483648; first | decide | omega⟩
    rw [a, b, or_v (k := 10) (a := (((t (q + (0 : Nat)) - 96) * 32 + (t (q + (1 : Nat)) - 96)) * 32 + (t (q + (2 : Nat)) - 96)) * 32 + (t (q + (3 : Nat)) - 96)) (by rw [e4, e3, e2, e1]; show _ = ((((t (q + (0 : Nat)) - 96) * 32 + (t (q + (1 : Nat)) - 96)) * 32 + (t (q + (2 : Nat)) - 96)) * 32 + (t (q + (3 : Nat)) - 96)) * 1024; first | decide | omega) (by first | decide | omega) ⟨by first | decide | omega, by show (t (q + (4 : Nat)) - 97 + 1) * 32 < 1024; first | decide | omega⟩ (by first | decide | omega), e5]
    omega
  · have l1 := hl 1 (by first | decide | omega)
    have l2 := hl 2 (by first | decide | omega)
    have l3 := hl 3 (by first | decide | omega)
    have l4 := hl 4 (by first | decide | omega)
    have l5 := hl 5 (by first | decide | omega)
    have a : b3an (25 - 5 * ((5 : Nat) : Int)) 31 = 0 := by decide
    have b : b3sl (t (q + (5 : Nat)) - 97 + 1) 0 = (t (q + (5 : Nat)) - 97 + 1) * 1 := sl_v (k := 0) (by decide) (by decide) ⟨by first | decide | omega, by show (t (q + (5 : Nat)) - 97 + 1) * 1 < 2147483648; first | decide | omega⟩
    rw [a, b, or_v (k := 5) (a := ((((t (q + (0 : Nat)) - 96) * 32 + (t (q + (1 : Nat)) - 96)) * 32 + (t (q + (2 : Nat)) - 96)) * 32 + (t (q + (3 : Nat)) - 96)) * 32 + (t (q + (4 : Nat)) - 96)) (by rw [e5, e4, e3, e2, e1]; show _ = (((((t (q + (0 : Nat)) - 96) * 32 + (t (q + (1 : Nat)) - 96)) * 32 + (t (q + (2 : Nat)) - 96)) * 32 + (t (q + (3 : Nat)) - 96)) * 32 + (t (q + (4 : Nat)) - 96)) * 32; first | decide | omega) (by first | decide | omega) ⟨by first | decide | omega, by show (t (q + (5 : Nat)) - 97 + 1) * 1 < 32; first | decide | omega⟩ (by first | decide | omega), e6]
    omega
section Q21
variable {m v w : Mem}
def P47 : Nat → Int → Prop := fun b i => b = 47 ∧ 3 ≤ i
theorem c_letter (m : Mem) (x : Int) : G7_isLetter m x = some ((if isLt x = true then 1 else 0), m) := by
  unfold G7_isLetter G7_isLetter_0
  by_cases c : isLt x = true
  · have := isLt_i.mp c
    rw [if_pos c, if_neg (by first | decide | omega), if_neg (by first | decide | omega)]
  · rw [if_neg c]
    have : ¬ (97 ≤ x ∧ x ≤ 122) := fun q => c (isLt_i.mpr q)
    by_cases c2 : x < 97
    · rw [if_pos c2]
    · rw [if_neg c2, if_pos (by first | decide | omega)]
theorem c_digit (m : Mem) (x : Int) : G7_isDigit m x = some ((if isDg x = true then 1 else 0), m) := by
  unfold G7_isDigit G7_isDigit_0
  by_cases c : isDg x = true
  · have := isDg_i.mp c
    rw [if_pos c, if_neg (by first | decide | omega), if_neg (by first | decide | omega)]
  · rw [if_neg c]
    have : ¬ (48 ≤ x ∧ x ≤ 57) := fun q => c (isDg_i.mpr q)
    by_cases c2 : x < 48
    · rw [if_pos c2]
    · rw [if_neg c2, if_pos (by first | decide | omega)]
theorem c_skip {S : Int} {t : Int → Int} (hS : 0 ≤ S ∧ S ≤ 700) : ∀ (d k : Nat) (p : Int) (m : Mem), 0 ≤ p → S - p = d → d < k → m 47 1 = 1 → m 47 2 = S → m 47 3 = p → m 1 = t → ∃ m', G7_skipBlanks_0 k m = some m' ∧ Fm P47 m m' ∧ m' 47 3 = rn (fun i => isBl (t i)) d p := by
  intro d
  induction d with
  | zero =>
    intro k p m a1 a2 a3 h1 h2 h3 h4
    obtain ⟨k, rfl⟩ : ∃ q, k = q + 1 := ⟨k - 1, by first | decide | omega⟩
    rw [G7_skipBlanks_0, if_pos (by first | decide | omega)]
    exact ⟨m, rfl, Fm.rf, h3⟩
  | succ d ih =>
    intro k p m a1 a2 a3 h1 h2 h3 h4
    obtain ⟨k, rfl⟩ : ∃ q, k = q + 1 := ⟨k - 1, by first | decide | omega⟩
    have go : isBl (t p) = true → ∃ m', G7_skipBlanks_40 (fun m => G7_skipBlanks_0 k m) m = some m' ∧ Fm P47 m m' ∧ m' 47 3 = rn (fun i => isBl (t i)) (d + 1) p := by
      intro c
      unfold G7_skipBlanks_40
      rw [h3, gd3_t (by first | decide | omega), wt_e, rn_s, if_pos c]
      obtain ⟨m', z1, z2, z3⟩ := ih k (p + 1) (up m 47 3 (p + 1)) (by first | decide | omega) (by first | decide | omega) (by first | decide | omega) (by rw [up_i (by first | decide | omega)]; exact h1) (by rw [up_i (by first | decide | omega)]; exact h2) up_e (by rw [up_b (by first | decide | omega)]; exact h4)
      exact ⟨m', z1, (Fm.w1 ⟨rfl, by first | decide | omega⟩).tr z2, z3⟩
    rw [G7_skipBlanks_0, if_neg (by first | decide | omega), h3, h4, gde_t h1, gdx_t (by first | decide | omega), gde_t h1, gdx_t (by first | decide | omega)]
    by_cases c1 : t p = 10
    · rw [if_pos c1]; exact go (isBl_i.mpr (Or.inl c1))
    · rw [if_neg c1]
      by_cases c2 : t p = 32
      · rw [if_pos c2]; exact go (isBl_i.mpr (Or.inr c2))
      · rw [if_neg c2, rn_s, if_neg (fun q => by rcases isBl_i.mp q with y | y; exact c1 y; exact c2 y)]
        exact ⟨m, rfl, Fm.rf, h3⟩
theorem c_wix {B : Int} : ∀ (l : List Int) (k : Nat) (i : Int), l.length < k → 0 ≤ i → i + l.length = 24 → (∀ j : Nat, j < l.length → m 48 (i + j) = l.getD j 0) → G7_wordOf_2 k m B i = some (wxl l B i, m) := by
  intro l
  induction l with
  | nil =>
    intro k i a1 a2 a3 h
    obtain ⟨k, rfl⟩ : ∃ q, k = q + 1 := ⟨k - 1, by first | decide | omega⟩
    have : i = 24 := by have h2 : (([] : List Int).length : Int) = 0 := rfl; omega
    subst this
    rw [G7_wordOf_2, if_pos (by first | decide | omega)]
    rfl
  | cons a r ih =>
    intro k i a1 a2 a3 h
    obtain ⟨k, rfl⟩ : ∃ q, k = q + 1 := ⟨k - 1, by first | decide | omega⟩
    have hl : ((a :: r).length : Int) = r.length + 1 := by simp
    have hl2 : (a :: r).length = r.length + 1 := rfl
    have h0 := h 0 (by first | decide | omega)
    rw [show i + ((0 : Nat) : Int) = i by first | decide | omega] at h0
    have h0' : m 48 i = a := h0
    rw [G7_wordOf_2, if_neg (by first | decide | omega), gdx_t (by first | decide | omega), h0']
    have ew : wxl (a :: r) B i = if a = B then i else wxl r B (i + 1) := rfl
    rw [ew]
    by_cases c : a = B
    · rw [if_pos c, if_pos c]
    · rw [if_neg c, if_neg c, gd3_t (by first | decide | omega)]
      exact ih k (i + 1) (by first | decide | omega) (by first | decide | omega) (by first | decide | omega) (fun j hj => by
        have := h (j + 1) (by first | decide | omega)
        rw [show i + 1 + (j : Int) = i + ((j + 1 : Nat) : Int) by first | decide | omega, this]
        rfl)
theorem c_word {S q : Int} {t : Int → Int} (hS : 0 ≤ S ∧ S ≤ 700) (hq : 0 ≤ q) (hlg : ∀ i : Nat, i < 24 → m 48 i = lgW.getD i 0) : ∀ (d k : Nat) (j : Nat) (m1 : Mem), S - (q + j) = d → d < k → m1 47 1 = 1 → m1 47 2 = S → m1 47 3 = q + j → m1 1 = t → m1 48 = m 48 → m1 47 6 = pp t q j → (∀ i : Nat, i < j → 97 ≤ t (q + i) ∧ t (q + i) ≤ 122) → ∃ m', G7_takeWord_2 k m1 j = some m' ∧ Fm P47 m1 m' ∧ m' 47 3 = rn (fun i => isLt (t i)) d (q + j) ∧ m' 47 5 = m1 47 5 ∧ m' 47 6 = pp t q (rn (fun i => isLt (t i)) d (q + j) - q).toNat ∧ m' 47 4 = (if rn (fun i => isLt (t i)) d (q + j) - q ≤ 6 then wix (pp t q (rn (fun i => isLt (t i)) d (q + j) - q).toNat) else 40) := by
  intro d
  have fin : ∀ (j : Nat) (m1 : Mem), (j : Int) ≤ 700 → m1 47 3 = q + j → m1 48 = m 48 → m1 47 6 = pp t q j → ∃ m', G7_takeWord_72 m1 j = some m' ∧ Fm P47 m1 m' ∧ m' 47 3 = q + j ∧ m' 47 5 = m1 47 5 ∧ m' 47 6 = pp t q (q + j - q).toNat ∧ m' 47 4 = (if q + j - q ≤ 6 then wix (pp t q (q + j - q).toNat) else 40) := by
    intro j m1 hj h3 h48 h6
    have ej : (q + (j : Int) - q).toNat = j := by omega
    have ej2 : q + (j : Int) - q = j := by omega
    unfold G7_takeWord_72 G7_takeWord_92
    rw [ej, ej2]
    by_cases c : (j : Int) ≤ 6
    · rw [if_pos c, if_pos c, h6]
      unfold G7_wordOf G7_wordOf_0
      rw [c_wix lgW 1024 0 (by decide) (by first | decide | omega) (by decide) (fun i hi => by
        rw [h48, show (0 : Int) + (i : Int) = i by first | decide | omega]; exact hlg i hi), bs1]
      simp only
      rw [wt_e]
      refine ⟨_, rfl, Fm.w1 ⟨rfl, by first | decide | omega⟩, ?_, ?_, ?_, up_e⟩
      · rw [up_i (by first | decide | omega)]; exact h3
      · rw [up_i (by first | decide | omega)]
      · rw [up_i (by first | decide | omega)]; exact h6
    · rw [if_neg c, if_neg c, wt_e]
      refine ⟨_, rfl, Fm.w1 ⟨rfl, by first | decide | omega⟩, ?_, ?_, ?_, up_e⟩
      · rw [up_i (by first | decide | omega)]; exact h3
      · rw [up_i (by first | decide | omega)]
      · rw [up_i (by first | decide | omega)]; exact h6
  induction d with
  | zero =>
    intro k j m1 a1 a2 h1 h2 h3 h4 h48 h6 hl
    obtain ⟨k, rfl⟩ : ∃ q, k = q + 1 := ⟨k - 1, by first | decide | omega⟩
    rw [G7_takeWord_2, if_pos (by first | decide | omega)]
    exact fin j m1 (by first | decide | omega) h3 h48 h6
  | succ d ih =>
    intro k j m1 a1 a2 h1 h2 h3 h4 h48 h6 hl
    obtain ⟨k, rfl⟩ : ∃ q, k = q + 1 := ⟨k - 1, by first | decide | omega⟩
    rw [G7_takeWord_2, if_neg (by first | decide | omega), gde_t h1, h3, gdx_t (by first | decide | omega), h4, c_letter, bs1]
    by_cases c : isLt (t (q + j)) = true
    · have hc := isLt_i.mp c
      have er : rn (fun i => isLt (t i)) (d + 1) (q + j) = rn (fun i => isLt (t i)) d (q + (j + 1 : Nat)) := by
        rw [rn_s, if_pos c, show q + (j : Int) + 1 = q + ((j + 1 : Nat) : Int) by first | decide | omega]
      have hl' : ∀ i : Nat, i < j + 1 → 97 ≤ t (q + i) ∧ t (q + i) ≤ 122 := fun i hi => by
        by_cases z : i = j
        · rw [z]; exact hc
        · exact hl i (by first | decide | omega)
      have nx : ∀ m2 : Mem, Fm P47 m1 m2 → m2 47 3 = q + j → m2 47 5 = m1 47 5 → m2 47 6 = pp t q (j + 1) → ∃ m', G7_takeWord_56 (fun m x1 => G7_takeWord_2 k m x1) m2 j = some m' ∧ Fm P47 m1 m' ∧ m' 47 3 = rn (fun i => isLt (t i)) (d + 1) (q + j) ∧ m' 47 5 = m1 47 5 ∧ m' 47 6 = pp t q (rn (fun i => isLt (t i)) (d + 1) (q + j) - q).toNat ∧ m' 47 4 = (if rn (fun i => isLt (t i)) (d + 1) (q + j) - q ≤ 6 then wix (pp t q (rn (fun i => isLt (t i)) (d + 1) (q + j) - q).toNat) else 40) := by
        intro m2 f2 g3 g5 g6
        unfold G7_takeWord_56
        rw [g3, gd3_t (by first | decide | omega), wt_e, gd3_t (by first | decide | omega), er, show (j : Int) + 1 = ((j + 1 : Nat) : Int) by first | decide | omega]
        have f3 : Fm P47 m1 (up m2 47 3 (q + j + 1)) := f2.w ⟨rfl, by first | decide | omega⟩
        obtain ⟨m', z1, z2, z3, z4, z5⟩ := ih k (j + 1) (up m2 47 3 (q + j + 1)) (by first | decide | omega) (by first | decide | omega) (by rw [f3 47 1 (by unfold P47; first | decide | omega)]; exact h1) (by rw [f3 47 2 (by unfold P47; first | decide | omega)]; exact h2) (by rw [up_e]; first | decide | omega) (by rw [f3.rw1 (fun i => by unfold P47; first | decide | omega)]; exact h4) (by rw [f3.rw1 (fun i => by unfold P47; first | decide | omega)]; exact h48) (by rw [up_i (by first | decide | omega)]; exact g6) hl'
        refine ⟨m', z1, f3.tr z2, z3, ?_, z5⟩
        rw [z4, up_i (by first | decide | omega)]; exact g5
      simp only [if_pos c, if_neg i10]
      by_cases c6 : 6 ≤ (j : Int)
      · rw [if_pos c6]
        exact nx m1 Fm.rf h3 rfl (by rw [h6, pp_s, if_neg (by first | decide | omega)])
      · rw [if_neg c6, gde_t h1, h3, gdx_t (by first | decide | omega)]
        unfold G7_letterBits G7_letterBits_0
        rw [bs1, wt_e]
        simp only
        obtain ⟨pb, _⟩ := pp_bs (t := t) (q := q) (j := j) (by first | decide | omega) (fun i hi => hl' i (by first | decide | omega))
        rw [h6, h4, pb]
        exact nx _ (Fm.w1 ⟨rfl, by first | decide | omega⟩) (by rw [up_i (by first | decide | omega)]; exact h3) (by rw [up_i (by first | decide | omega)]) up_e
    · have er : rn (fun i => isLt (t i)) (d + 1) (q + j) = q + j := by rw [rn_s, if_neg c]
      simp only [if_neg c, if_true]
      rw [er]
      exact fin j m1 (by first | decide | omega) h3 h48 h6
theorem c_num {S : Int} {t : Int → Int} (hS : 0 ≤ S ∧ S ≤ 700) : ∀ (d k : Nat) (p a : Int) (m : Mem), 0 ≤ p → S - p = d → d < k → m 47 1 = 1 → m 47 2 = S → m 47 3 = p → m 1 = t → m 47 6 = a → (0 ≤ a ∧ a ≤ 1000000) → ∃ m', G7_takeNumber_0 k m = some m' ∧ Fm P47 m m' ∧ m' 47 3 = rn (fun i => isDg (t i)) d p ∧ m' 47 5 = m 47 5 ∧ m' 47 4 = 25 ∧ m' 47 6 = nv t (rn (fun i => isDg (t i)) d p - p).toNat p a ∧ 0 ≤ m' 47 6 := by
  intro d
  have fin : ∀ (m : Mem) (p a : Int), m 47 3 = p → m 47 6 = a → 0 ≤ a → ∃ m', G7_takeNumber_68 m = some m' ∧ Fm P47 m m' ∧ m' 47 3 = p ∧ m' 47 5 = m 47 5 ∧ m' 47 4 = 25 ∧ m' 47 6 = nv t (p - p).toNat p a ∧ 0 ≤ m' 47 6 := by
    intro m p a h3 h6 ha
    unfold G7_takeNumber_68
    rw [wt_e, show (p - p).toNat = 0 by first | decide | omega]
    refine ⟨_, rfl, Fm.w1 ⟨rfl, by first | decide | omega⟩, ?_, ?_, up_e, ?_, ?_⟩
    · rw [up_i (by first | decide | omega)]; exact h3
    · rw [up_i (by first | decide | omega)]
    · rw [up_i (by first | decide | omega)]; exact h6
    · rw [up_i (by first | decide | omega)]; omega
  induction d with
  | zero =>
    intro k p a m a1 a2 a3 h1 h2 h3 h4 h6 ha
    obtain ⟨k, rfl⟩ : ∃ q, k = q + 1 := ⟨k - 1, by first | decide | omega⟩
    rw [G7_takeNumber_0, if_pos (by first | decide | omega)]
    exact fin m p a h3 h6 ha.1
  | succ d ih =>
    intro k p a m a1 a2 a3 h1 h2 h3 h4 h6 ha
    obtain ⟨k, rfl⟩ : ∃ q, k = q + 1 := ⟨k - 1, by first | decide | omega⟩
    rw [G7_takeNumber_0, if_neg (by first | decide | omega), gde_t h1, h3, gdx_t (by first | decide | omega), h4, c_digit, bs1]
    by_cases c : isDg (t p) = true
    · have hc := isDg_i.mp c
      obtain ⟨r1, r2, _, _⟩ := rn_spec (f := fun i => isDg (t i)) d (p + 1)
      have er : rn (fun i => isDg (t i)) (d + 1) p = rn (fun i => isDg (t i)) d (p + 1) := by rw [rn_s, if_pos c]
      simp only [if_pos c, if_neg i10]
      rw [gde_t h1, h3, gdx_t (by first | decide | omega), h4, h6, gd3_t (by first | decide | omega)]
      have hb : 0 ≤ (if 1000000 < a * 10 + t p - 48 then 1000000 else a * 10 + t p - 48) ∧ (if 1000000 < a * 10 + t p - 48 then 1000000 else a * 10 + t p - 48) ≤ 1000000 := by split <;> omega
      rw [gd3_t (by first | decide | omega), wt_e]
      have e3 : ∀ y, up m 47 6 y 47 3 = p := fun y => by rw [up_i (by first | decide | omega)]; exact h3
      rw [e3, gd3_t (by first | decide | omega), wt_e, er]
      have f1 : Fm P47 m (up (up m 47 6 (if 1000000 < a * 10 + t p - 48 then 1000000 else a * 10 + t p - 48)) 47 3 (p + 1)) := (Fm.w1 ⟨rfl, by first | decide | omega⟩).w ⟨rfl, by first | decide | omega⟩
      obtain ⟨m', z1, z2, z3, z4, z5, z6, z7⟩ := ih k (p + 1) (if 1000000 < a * 10 + t p - 48 then 1000000 else a * 10 + t p - 48) (up (up m 47 6 (if 1000000 < a * 10 + t p - 48 then 1000000 else a * 10 + t p - 48)) 47 3 (p + 1)) (by first | decide | omega) (by first | decide | omega) (by first | decide | omega) (by rw [f1 47 1 (by unfold P47; first | decide | omega)]; exact h1) (by rw [f1 47 2 (by unfold P47; first | decide | omega)]; exact h2) up_e (by rw [f1.rw1 (fun i => by unfold P47; first | decide | omega)]; exact h4) (by rw [up_i (by first | decide | omega), up_e]) hb
      refine ⟨m', z1, f1.tr z2, z3, ?_, z5, ?_, z7⟩
      · rw [z4, up_i (by first | decide | omega), up_i (by first | decide | omega)]
      · rw [z6, show (rn (fun i => isDg (t i)) d (p + 1) - p).toNat = (rn (fun i => isDg (t i)) d (p + 1) - (p + 1)).toNat + 1 by first | decide | omega, nv_s]
    · have er : rn (fun i => isDg (t i)) (d + 1) p = p := by rw [rn_s, if_neg c]
      simp only [if_neg c, if_true]
      rw [er]
      exact fin m p a h3 h6 ha.1
theorem c_next {S x : Int} {t : Int → Int} {p : Int} (hS : 0 ≤ S ∧ S ≤ 700) (hp : 0 ≤ p) (h1 : m 47 1 = 1) (h2 : m 47 2 = S) (h3 : m 47 3 = p + 1) (h4 : m 1 = t) (hx : x ≠ 0) : G7_isNext m x = some ((if chN t S p = x then 1 else 0), m) := by
  unfold G7_isNext G7_isNext_0 chN
  rw [h2, h3, h4]
  by_cases c : S ≤ p + 1
  · rw [if_pos c, if_neg (show ¬ p + 1 < S by first | decide | omega), if_neg (fun q => hx q.symm)]
  · rw [if_neg c, if_pos (show p + 1 < S by first | decide | omega), gde_t h1, gdx_t (by first | decide | omega)]
    split <;> rfl
theorem c_sign {S : Int} {t : Int → Int} {p : Int} (hS : 0 ≤ S ∧ S ≤ 700) (hp : 0 ≤ p ∧ p < S) (h1 : m 47 1 = 1) (h2 : m 47 2 = S) (h3 : m 47 3 = p) (h4 : m 1 = t) : ∃ m', G7_takeSign m = some m' ∧ Fm P47 m m' ∧ m' 47 3 = p + sgA (t p) (chN t S p) ∧ m' 47 5 = m 47 5 ∧ m' 47 6 = m 47 6 ∧ m' 47 4 = sgT (t p) (chN t S p) := by
  have es : ∀ (z : Mem) (c : Int), G7_signOf z c = some (sg1 c, z) := by
    intro z c
    unfold G7_signOf G7_signOf_0 sg1
    repeat (first | rfl | (split; rfl))
  unfold G7_takeSign G7_takeSign_0
  rw [gde_t h1, h3, gdx_t (by first | decide | omega), gd3_t (by first | decide | omega), wt_e, es, bs1, wt_e]
  simp only
  rw [h4]
  have g3 : ∀ y, up (up m 47 3 (p + 1)) 47 4 y 47 3 = p + 1 := fun y => by rw [up_i (by first | decide | omega), up_e]
  have K : ∀ y, (up (up m 47 3 (p + 1)) 47 4 y) 47 1 = 1 ∧ (up (up m 47 3 (p + 1)) 47 4 y) 47 2 = S ∧ (up (up m 47 3 (p + 1)) 47 4 y) 1 = t := fun y => by
    refine ⟨?_, ?_, ?_⟩
    · rw [up_i (by first | decide | omega), up_i (by first | decide | omega)]; exact h1
    · rw [up_i (by first | decide | omega), up_i (by first | decide | omega)]; exact h2
    · rw [up_b (by first | decide | omega), up_b (by first | decide | omega)]; exact h4
  have nx : ∀ y x, x ≠ 0 → G7_isNext (up (up m 47 3 (p + 1)) 47 4 y) x = some ((if chN t S p = x then 1 else 0), up (up m 47 3 (p + 1)) 47 4 y) := fun y x hx => c_next hS hp.1 (K y).1 (K y).2.1 (g3 y) (K y).2.2 hx
  have fin0 : ∀ y, Fm P47 m (up (up m 47 3 (p + 1)) 47 4 y) := fun y => (Fm.w1 ⟨rfl, by first | decide | omega⟩).w ⟨rfl, by first | decide | omega⟩
  have out1 : ∀ y, ∃ m', some (up (up m 47 3 (p + 1)) 47 4 y) = some m' ∧ Fm P47 m m' ∧ m' 47 3 = p + 1 ∧ m' 47 5 = m 47 5 ∧ m' 47 6 = m 47 6 ∧ m' 47 4 = y := fun y => ⟨_, rfl, fin0 y, g3 y, by rw [up_i (by first | decide | omega), up_i (by first | decide | omega)], by rw [up_i (by first | decide | omega), up_i (by first | decide | omega)], up_e⟩
  have out2 : ∀ y z, ∃ m', (wt (up (up (up m 47 3 (p + 1)) 47 4 y) 47 4 z) fun m7 => gd3 (m7 47 3 + 1) (wt (up m7 47 3 (m7 47 3 + 1)) fun m11 => some m11)) = some m' ∧ Fm P47 m m' ∧ m' 47 3 = p + 2 ∧ m' 47 5 = m 47 5 ∧ m' 47 6 = m 47 6 ∧ m' 47 4 = z := fun y z => by
    rw [wt_e, up_i (by first | decide | omega), g3, gd3_t (by first | decide | omega), wt_e]
    exact ⟨_, rfl, ((fin0 y).w ⟨rfl, by first | decide | omega⟩).w ⟨rfl, by first | decide | omega⟩, by rw [up_e]; first | decide | omega, by rw [up_i (by first | decide | omega), up_i (by first | decide | omega), up_i (by first | decide | omega), up_i (by first | decide | omega)], by rw [up_i (by first | decide | omega), up_i (by first | decide | omega), up_i (by first | decide | omega), up_i (by first | decide | omega)], by rw [up_i (by first | decide | omega), up_e]⟩
  unfold G7_takeSign_65 G7_takeSign_102
  simp only [up_e]
  by_cases c1 : t p = 60
  · have e : sg1 (t p) = 26 := by rw [c1]; rfl
    rw [e]
    simp only [if_true, if_neg (show ¬ (26 : Int) = 31 by first | decide | omega)]
    rw [nx 26 61 (by first | decide | omega), bs1]
    unfold sgT sgA
    simp only [if_pos c1]
    by_cases c2 : chN t S p = 61
    · simp only [if_pos c2, if_neg i10]; exact out2 26 27
    · simp only [if_neg c2, if_true]
      rw [nx 26 62 (by first | decide | omega), bs1]
      simp only [up_e]
      by_cases c3 : chN t S p = 62
      · simp only [if_pos c3, if_neg i10]; exact out2 26 29
      · simp only [if_neg c3, if_true, up_e, if_neg (show ¬ (26 : Int) = 31 by first | decide | omega)]; exact out1 26
  · by_cases c2 : t p = 62
    · have e : sg1 (t p) = 31 := by rw [c2]; rfl
      rw [e]
      simp only [if_neg (show ¬ (31 : Int) = 26 by first | decide | omega), if_true]
      rw [nx 31 61 (by first | decide | omega), bs1]
      unfold sgT sgA
      simp only [if_neg c1, if_pos c2]
      by_cases c3 : chN t S p = 61
      · simp only [if_pos c3, if_neg i10]; exact out2 31 30
      · simp only [if_neg c3, if_true]; exact out1 31
    · have e1 : sg1 (t p) ≠ 26 ∧ sg1 (t p) ≠ 31 := by
        unfold sg1
        repeat (first | exact ⟨by decide, by decide⟩ | exact absurd (by assumption) c1 | exact absurd (by assumption) c2 | split)
      unfold sgT sgA
      simp only [if_neg c1, if_neg c2, if_neg e1.1, if_neg e1.2]
      exact out1 _
theorem c_advS {S p : Int} {t : Int → Int} (hS : 0 ≤ S ∧ S ≤ 700) (hp : 0 ≤ p ∧ p ≤ S) (h1 : m 47 1 = 1) (h2 : m 47 2 = S) (h3 : m 47 3 = p) (h4 : m 1 = t) (hlg : ∀ i : Nat, i < 24 → m 48 i = lgW.getD i 0) : ∃ m', G7_advance m = some m' ∧ Fm P47 m m' ∧ m' 47 5 = tkp t S p ∧ m' 47 4 = tqt t S (tkp t S p) ∧ m' 47 6 = tqv t S (tkp t S p) ∧ m' 47 3 = tqn t S (tkp t S p) := by
  obtain ⟨m1, e1, f1, k1⟩ := c_skip (t := t) hS (S - p).toNat 1024 p m hp.1 (by first | decide | omega) (by first | decide | omega) h1 h2 h3 h4
  have k1' : m1 47 3 = tkp t S p := k1
  obtain ⟨q1, q2, _, _⟩ := rr_spec (f := fun i => isBl (t i)) hp.2
  have q1' : p ≤ tkp t S p := q1
  have q2' : tkp t S p ≤ S := q2
  unfold G7_advance G7_advance_0 G7_skipBlanks
  rw [e1, bs1, wt_e, wt_e, k1']
  generalize tkp t S p = q at k1' q1' q2' ⊢
  have f2 : Fm P47 m (up (up m1 47 5 q) 47 6 0) := (f1.w ⟨rfl, by first | decide | omega⟩).w ⟨rfl, by first | decide | omega⟩
  have g1 : up (up m1 47 5 q) 47 6 0 47 1 = 1 := by rw [f2 47 1 (by unfold P47; first | decide | omega)]; exact h1
  have g2 : up (up m1 47 5 q) 47 6 0 47 2 = S := by rw [f2 47 2 (by unfold P47; first | decide | omega)]; exact h2
  have g3 : up (up m1 47 5 q) 47 6 0 47 3 = q := by rw [up_i (by first | decide | omega), up_i (by first | decide | omega)]; exact k1'
  have g4 : up (up m1 47 5 q) 47 6 0 1 = t := by rw [f2.rw1 (fun i => by unfold P47; first | decide | omega)]; exact h4
  have g5 : up (up m1 47 5 q) 47 6 0 47 5 = q := by rw [up_i (by first | decide | omega), up_e]
  have g6 : up (up m1 47 5 q) 47 6 0 47 6 = 0 := up_e
  have g48 : up (up m1 47 5 q) 47 6 0 48 = m 48 := f2.rw1 (fun i => by unfold P47; first | decide | omega)
  generalize up (up m1 47 5 q) 47 6 0 = m2 at f2 g1 g2 g3 g4 g5 g6 g48 ⊢
  unfold tqt tqv tqn
  rw [g3, g2]
  by_cases c1 : S ≤ q
  · rw [if_pos c1, if_pos c1, if_pos c1, if_neg (by first | decide | omega), wt_e]
    exact ⟨_, rfl, f2.w ⟨rfl, by first | decide | omega⟩, by rw [up_i (by first | decide | omega)]; exact g5, up_e, by rw [up_i (by first | decide | omega)]; exact g6, by rw [up_i (by first | decide | omega)]; exact g3⟩
  · rw [if_neg c1, if_neg c1, if_neg c1, if_pos (by first | decide | omega), gde_t g1, gdx_t (by first | decide | omega), g4, c_letter, bs1]
    by_cases c2 : isLt (t q) = true
    · simp only [if_pos c2, if_neg i10]
      unfold G7_takeWord G7_takeWord_0
      obtain ⟨m', z1, z2, z3, z4, z5, z6⟩ := c_word (t := t) (q := q) hS (by first | decide | omega) hlg (S - q).toNat 1024 0 m2 (by first | decide | omega) (by first | decide | omega) g1 g2 (by rw [g3]; first | decide | omega) g4 g48 g6 (fun i hi => by first | decide | omega)
      have eq0 : q + ((0 : Nat) : Int) = q := by omega
      rw [eq0] at z3 z5 z6
      have el : rn (fun i => isLt (t i)) (S - q).toNat q = lte t S q := rfl
      rw [el] at z3 z5 z6
      have z1' : G7_takeWord_2 1024 m2 0 = some m' := z1
      rw [z1', bs1]
      exact ⟨m', rfl, f2.tr z2, by rw [z4]; exact g5, z6, z5, z3⟩
    · simp only [if_neg c2, if_true]
      rw [gde_t g1, g3, gdx_t (by first | decide | omega), g4, c_digit, bs1]
      by_cases c3 : isDg (t q) = true
      · simp only [if_pos c3, if_neg i10]
        unfold G7_takeNumber
        obtain ⟨m', z1, z2, z3, z4, z5, z6, z7⟩ := c_num (t := t) hS (S - q).toNat 1024 q 0 m2 (by first | decide | omega) (by first | decide | omega) (by first | decide | omega) g1 g2 g3 g4 g6 (by first | decide | omega)
        rw [z1, bs1]
        exact ⟨m', rfl, f2.tr z2, by rw [z4]; exact g5, z5, z6, z3⟩
      · simp only [if_neg c3, if_true]
        obtain ⟨m', z1, z2, z3, z4, z5, z6⟩ := c_sign (t := t) hS (p := q) (by first | decide | omega) g1 g2 g3 g4
        rw [z1, bs1]
        exact ⟨m', rfl, f2.tr z2, by rw [z4]; exact g5, z6, by rw [z5]; exact g6, z3⟩
end Q21
/-! The tokens of a text: the reference reads them alike. -/
def NumR (a b : Int) : Prop := 0 ≤ a ∧ 0 ≤ b ∧ (a = b ∨ (99999 < a ∧ 99999 < b))
def SGN (k x : Int) : Prop := (k = 32 ∧ x = 43) ∨ (k = 33 ∧ x = 45) ∨ (k = 34 ∧ x = 42) ∨ (k = 35 ∧ x = 47) ∨ (k = 36 ∧ x = 40) ∨ (k = 37 ∧ x = 41) ∨ (k = 38 ∧ x = 59)
def kwf (k : Int) : Int := if k = 15 then 17 else if k = 16 then 15 else if k = 17 then 16 else k
/-- one token here and there: code and value, kind and which -/
def KR (k a i x : Int) : Prop := (k = 39 ∧ i = 0) ∨ (0 ≤ k ∧ k < 24 ∧ i = 1 ∧ x = kwf k) ∨ (k = 24 ∧ i = 2 ∧ x = a) ∨ (k = 25 ∧ i = 3 ∧ NumR a x) ∨ (26 ≤ k ∧ k ≤ 31 ∧ i = 5 ∧ x = k - 26) ∨ (SGN k x ∧ i = 4) ∨ (k = 40 ∧ (i = 6 ∨ (i = 4 ∧ x = 37)))
def wd (i : Nat) : Int := wdM.getD i 0
def aw (off L i : Nat) : Int := if i < L then wd (off + i) - 96 else 0
def Pw (off L : Nat) : Int := aw off L 0 * 33554432 + aw off L 1 * 1048576 + aw off L 2 * 32768 + aw off L 3 * 1024 + aw off L 4 * 32 + aw off L 5
def okw (off L : Nat) : Bool := decide (1 ≤ L) && decide (L ≤ 6) && decide (off + L < 120) && decide (wd (off + L) = 32) && (List.range L).all (fun i => decide (97 ≤ wd (off + i)) && decide (wd (off + i) ≤ 122))
def pkl : Nat → List Nat → List Int
  | _, [] => []
  | off, L :: r => Pw off L :: pkl (off + L + 1) r
def okl : Nat → List Nat → Bool
  | off, [] => decide (off = 120)
  | off, L :: r => okw off L && okl (off + L + 1) r
def lens : List Nat := [3, 4, 6, 3, 4, 4, 4, 3, 4, 5, 4, 3, 5, 5, 4, 3, 2, 3, 3, 4, 5, 4, 6, 5]
def rxl : List Int → Int → Int → Int
  | [], _, _ => -1
  | a :: r, B, i => if a = B then i else rxl r B (i + 1)
def rix (B : Int) : Int := rxl (pkl 0 lens) B 0
theorem okw_i {off L : Nat} (h : okw off L = true) : 1 ≤ L ∧ L ≤ 6 ∧ off + L < 120 ∧ wd (off + L) = 32 ∧ ∀ i, i < L → 97 ≤ wd (off + i) ∧ wd (off + i) ≤ 122 := by
  unfold okw at h
  simp only [Bool.and_eq_true, decide_eq_true_iff, List.all_eq_true, List.mem_range] at h
  obtain ⟨⟨⟨⟨h1, h2⟩, h3⟩, h4⟩, h5⟩ := h
  exact ⟨h1, h2, h3, h4, h5⟩
theorem wxl_no : ∀ (l : List Int) (B i : Int), B ∉ l → wxl l B i = i + l.length := by
  intro l
  induction l with
  | nil => intro B i _; show i = i + 0; omega
  | cons a r ih =>
    intro B i h
    have e : wxl (a :: r) B i = if a = B then i else wxl r B (i + 1) := rfl
    rw [e, if_neg (fun q => h (by rw [q]; exact List.mem_cons_self)), ih B (i + 1) (fun q => h (List.mem_cons_of_mem _ q))]
    have : ((a :: r).length : Int) = r.length + 1 := by simp
    omega
theorem rxl_no : ∀ (l : List Int) (B i : Int), B ∉ l → rxl l B i = -1 := by
  intro l
  induction l with
  | nil => intro B i _; rfl
  | cons a r ih =>
    intro B i h
    have e : rxl (a :: r) B i = if a = B then i else rxl r B (i + 1) := rfl
    rw [e, if_neg (fun q => h (by rw [q]; exact List.mem_cons_self)), ih B (i + 1) (fun q => h (List.mem_cons_of_mem _ q))]
theorem kw_yes : ∀ B ∈ lgW, 0 ≤ wix B ∧ wix B < 24 ∧ rix B = kwf (wix B) ∧ 0 ≤ rix B := by decide
theorem kw_sub : ∀ B ∈ pkl 0 lens, B ∈ lgW := by decide
theorem kw_ok : okl 0 lens = true := by decide
theorem kw_rel (B : Int) : (0 ≤ wix B ∧ wix B < 24 ∧ rix B = kwf (wix B) ∧ 0 ≤ rix B) ∨ (wix B = 24 ∧ rix B = -1) := by
  by_cases c : B ∈ lgW
  · exact Or.inl (kw_yes B c)
  · right
    refine ⟨?_, rxl_no _ _ _ (fun q => c (kw_sub B q))⟩
    have := wxl_no lgW B 0 c
    exact this
section Q22
variable {v : Mem} {t : Int → Int} {S : Int}
/-- the tape there and here -/
def TPx (v : Mem) (t : Int → Int) (S : Int) : Prop := (0 ≤ S ∧ S ≤ 700) ∧ v 0 6 = S ∧ (∀ i, 0 ≤ i → i < S → (-128 ≤ t i ∧ t i ≤ 127) ∧ v 1 i = t i % 256) ∧ ∀ i : Nat, i < 120 → v 2 i = wd i
def Q7 : Nat → Int → Prop := fun b i => b = 0 ∧ 7 ≤ i ∧ i ≤ 10
theorem TPx.f {v v' : Mem} (h : TPx v t S) {Q : Nat → Int → Prop} (f : Fm Q v v') (hq : ∀ b i, (b = 0 ∧ i = 6) ∨ b = 1 ∨ b = 2 → ¬ Q b i) : TPx v' t S := by
  unfold TPx
  rw [f 0 6 (hq _ _ (by first | decide | omega)), f.rw1 (fun i => hq 1 i (by first | decide | omega)), f.rw1 (fun i => hq 2 i (by first | decide | omega))]
  exact h
theorem TPx.q {v v' : Mem} (h : TPx v t S) (f : Fm Q7 v v') : TPx v' t S := h.f f (by intro b i q; unfold Q7; first | decide | omega)
theorem r_small (h : TPx v t S) {x : Int} (hx : 0 ≤ x) : G12_isSmall v x = some ((if x < S ∧ isLt (t x) = true then 1 else 0), v) := by
  obtain ⟨h1, h2, h3, _⟩ := h
  unfold G12_isSmall G12_isSmall_0
  rw [h2]
  by_cases c : S ≤ x
  · rw [if_pos c, if_neg (by first | decide | omega)]
  · have h4 := h3 x hx (by first | decide | omega)
    rw [if_neg c, gdx_t (by first | decide | omega), gdx_t (by first | decide | omega)]
    by_cases c2 : isLt (t x) = true
    · have := isLt_i.mp c2
      rw [if_neg (show ¬ v 1 x < 97 by first | decide | omega), if_neg (show ¬ 122 < v 1 x by first | decide | omega), if_pos (show x < S ∧ isLt (t x) = true from ⟨by first | decide | omega, c2⟩)]
    · have : ¬ (97 ≤ t x ∧ t x ≤ 122) := fun q => c2 (isLt_i.mpr q)
      rw [if_neg (show ¬ (x < S ∧ isLt (t x) = true) from fun q => c2 q.2)]
      by_cases c3 : v 1 x < 97
      · rw [if_pos c3]
      · rw [if_neg c3, if_pos (by first | decide | omega)]
theorem r_dig (h : TPx v t S) {x : Int} (hx : 0 ≤ x) : G12_isDigit v x = some ((if x < S ∧ isDg (t x) = true then 1 else 0), v) := by
  obtain ⟨h1, h2, h3, _⟩ := h
  unfold G12_isDigit G12_isDigit_0
  rw [h2]
  by_cases c : S ≤ x
  · rw [if_pos c, if_neg (by first | decide | omega)]
  · have h4 := h3 x hx (by first | decide | omega)
    rw [if_neg c, gdx_t (by first | decide | omega), gdx_t (by first | decide | omega)]
    by_cases c2 : isDg (t x) = true
    · have := isDg_i.mp c2
      rw [if_neg (show ¬ v 1 x < 48 by first | decide | omega), if_neg (show ¬ 57 < v 1 x by first | decide | omega), if_pos (show x < S ∧ isDg (t x) = true from ⟨by first | decide | omega, c2⟩)]
    · have : ¬ (48 ≤ t x ∧ t x ≤ 57) := fun q => c2 (isDg_i.mpr q)
      rw [if_neg (show ¬ (x < S ∧ isDg (t x) = true) from fun q => c2 q.2)]
      by_cases c3 : v 1 x < 48
      · rw [if_pos c3]
      · rw [if_neg c3, if_pos (by first | decide | omega)]
theorem r_skip : ∀ (d k : Nat) (p : Int) (v : Mem), TPx v t S → 0 ≤ p → S - p = d → d < k → v 0 7 = p → ∃ v', G12_token_0 k v = G12_token_52 v' ∧ Fm Q7 v v' ∧ v' 0 7 = rn (fun i => isBl (t i)) d p := by
  intro d
  induction d with
  | zero =>
    intro k p v h a1 a2 a3 h7
    obtain ⟨k, rfl⟩ : ∃ q, k = q + 1 := ⟨k - 1, by first | decide | omega⟩
    rw [G12_token_0, h.2.1, if_pos (by first | decide | omega)]
    exact ⟨v, rfl, Fm.rf, h7⟩
  | succ d ih =>
    intro k p v h a1 a2 a3 h7
    obtain ⟨k, rfl⟩ : ∃ q, k = q + 1 := ⟨k - 1, by first | decide | omega⟩
    have hS := h.1
    have h4 := h.2.2.1 p a1 (by first | decide | omega)
    have go : isBl (t p) = true → ∃ v', G12_token_39 (fun m => G12_token_0 k m) v = G12_token_52 v' ∧ Fm Q7 v v' ∧ v' 0 7 = rn (fun i => isBl (t i)) (d + 1) p := by
      intro c
      unfold G12_token_39
      rw [h7, gd3_t (by first | decide | omega), wt_e, rn_s, if_pos c]
      have f1 : Fm Q7 v (up v 0 7 (p + 1)) := Fm.w1 ⟨rfl, by first | decide | omega, by first | decide | omega⟩
      obtain ⟨v', z1, z2, z3⟩ := ih k (p + 1) (up v 0 7 (p + 1)) (h.q f1) (by first | decide | omega) (by first | decide | omega) (by first | decide | omega) up_e
      exact ⟨v', z1, f1.tr z2, z3⟩
    rw [G12_token_0, h.2.1, if_neg (by first | decide | omega), h7, gdx_t (by first | decide | omega), gdx_t (by first | decide | omega)]
    by_cases c1 : t p = 10
    · rw [if_pos (by first | decide | omega)]; exact go (isBl_i.mpr (Or.inl c1))
    · rw [if_neg (by first | decide | omega)]
      by_cases c2 : t p = 32
      · rw [if_pos (by first | decide | omega)]; exact go (isBl_i.mpr (Or.inr c2))
      · rw [if_neg (by first | decide | omega), rn_s, if_neg (fun q => by rcases isBl_i.mp q with y | y; exact c1 y; exact c2 y)]
        exact ⟨v, rfl, Fm.rf, h7⟩
/-- the letter i of the word q .. e -/
def dgw (t : Int → Int) (q e : Int) (i : Nat) : Int := if q + i < e then t (q + i) - 96 else 0
theorem dgw_b {q e : Int} (hl : ∀ i, q ≤ i → i < e → 97 ≤ t i ∧ t i ≤ 122) (i : Nat) : 0 ≤ dgw t q e i ∧ dgw t q e i ≤ 26 ∧ (q + i < e → 1 ≤ dgw t q e i) := by
  unfold dgw
  split
  · have := hl (q + i) (by first | decide | omega) (by assumption); omega
  · omega
theorem pp_dg {q e : Int} (h : q ≤ e ∧ e - q ≤ 6) : pp t q (e - q).toNat = dgw t q e 0 * 33554432 + dgw t q e 1 * 1048576 + dgw t q e 2 * 32768 + dgw t q e 3 * 1024 + dgw t q e 4 * 32 + dgw t q e 5 := by
  have e0 : pp t q 0 = 0 := rfl
  have e1 : pp t q 1 = (t (q + (0 : Nat)) - 96) * 33554432 := by rw [pp_s, if_pos (by first | decide | omega), e0]; show 0 + (t (q + (0 : Nat)) - 96) * 33554432 = _; omega
  have e2 : pp t q 2 = pp t q 1 + (t (q + (1 : Nat)) - 96) * 1048576 := by rw [pp_s, if_pos (by first | decide | omega)]; rfl
  have e3 : pp t q 3 = pp t q 2 + (t (q + (2 : Nat)) - 96) * 32768 := by rw [pp_s, if_pos (by first | decide | omega)]; rfl
  have e4 : pp t q 4 = pp t q 3 + (t (q + (3 : Nat)) - 96) * 1024 := by rw [pp_s, if_pos (by first | decide | omega)]; rfl
  have e5 : pp t q 5 = pp t q 4 + (t (q + (4 : Nat)) - 96) * 32 := by rw [pp_s, if_pos (by first | decide | omega)]; rfl
  have e6 : pp t q 6 = pp t q 5 + (t (q + (5 : Nat)) - 96) * 1 := by rw [pp_s, if_pos (by first | decide | omega)]; rfl
  have y : ∀ i : Nat, q + i < e → dgw t q e i = t (q + i) - 96 := fun i hi => if_pos hi
  have z : ∀ i : Nat, ¬ q + i < e → dgw t q e i = 0 := fun i hi => if_neg hi
  rcases (by omega : (e - q).toNat = 0 ∨ (e - q).toNat = 1 ∨ (e - q).toNat = 2 ∨ (e - q).toNat = 3 ∨ (e - q).toNat = 4 ∨ (e - q).toNat = 5 ∨ (e - q).toNat = 6) with c | c | c | c | c | c | c <;> rw [c]
  · rw [z 0 (by first | decide | omega), z 1 (by first | decide | omega), z 2 (by first | decide | omega), z 3 (by first | decide | omega), z 4 (by first | decide | omega), z 5 (by first | decide | omega)]; omega
  · rw [y 0 (by first | decide | omega), z 1 (by first | decide | omega), z 2 (by first | decide | omega), z 3 (by first | decide | omega), z 4 (by first | decide | omega), z 5 (by first | decide | omega)]; omega
  · rw [y 0 (by first | decide | omega), y 1 (by first | decide | omega), z 2 (by first | decide | omega), z 3 (by first | decide | omega), z 4 (by first | decide | omega), z 5 (by first | decide | omega)]; omega
  · rw [y 0 (by first | decide | omega), y 1 (by first | decide | omega), y 2 (by first | decide | omega), z 3 (by first | decide | omega), z 4 (by first | decide | omega), z 5 (by first | decide | omega)]; omega
  · rw [y 0 (by first | decide | omega), y 1 (by first | decide | omega), y 2 (by first | decide | omega), y 3 (by first | decide | omega), z 4 (by first | decide | omega), z 5 (by first | decide | omega)]; omega
  · rw [y 0 (by first | decide | omega), y 1 (by first | decide | omega), y 2 (by first | decide | omega), y 3 (by first | decide | omega), y 4 (by first | decide | omega), z 5 (by first | decide | omega)]; omega
  · rw [y 0 (by first | decide | omega), y 1 (by first | decide | omega), y 2 (by first | decide | omega), y 3 (by first | decide | omega), y 4 (by first | decide | omega), y 5 (by first | decide | omega)]; omega
theorem r_pk1 (h : TPx v t S) {q e x : Int} (hq : 0 ≤ q ∧ e ≤ S) (hl : ∀ i, q ≤ i → i < e → 97 ≤ t i ∧ t i ≤ 122) {j k : Nat} (hj : j < 6) (hq2 : q < 700) (hx : 0 ≤ x ∧ x < 33554432) : G12_packed_5 (k + 1) v q e x (q + j) = G12_packed_5 k v q e (32 * x + dgw t q e j) (q + (j + 1 : Nat)) := by
  have hb := dgw_b hl j
  have a : b3an 5 31 = 5 := by decide
  have b : b3sl x 5 = x * 32 := sl_v (k := 5) (by decide) (by decide) ⟨by first | decide | omega, by show x * 32 < 2147483648; first | decide | omega⟩
  have o : ∀ y, 0 ≤ y → y < 32 → b3or (x * 32) y = x * 32 + y := fun y p1 p2 => or_v (k := 5) (a := x) rfl (by first | decide | omega) ⟨p1, by show y < 32; first | decide | omega⟩ (by first | decide | omega)
  rw [G12_packed_5, gd3_t (by first | decide | omega), if_neg (by first | decide | omega), a, b, show q + (j : Int) + 1 = q + ((j + 1 : Nat) : Int) by first | decide | omega]
  have hS := h.1
  by_cases c : e ≤ q + j
  · have ez : dgw t q e j = 0 := if_neg (by first | decide | omega)
    rw [if_pos c, gd3_t (by first | decide | omega), o 0 (by first | decide | omega) (by first | decide | omega), ez, show x * 32 + 0 = 32 * x + 0 by first | decide | omega]
  · have ey : dgw t q e j = t (q + j) - 96 := if_pos (by first | decide | omega)
    have h4 := h.2.2.1 (q + j) (by first | decide | omega) (by first | decide | omega)
    have h5 := hl (q + j) (by first | decide | omega) (by first | decide | omega)
    rw [if_neg c, gdx_t (by first | decide | omega), gd3_t (by first | decide | omega), o (v 1 (q + j) - 96) (by first | decide | omega) (by first | decide | omega), ey, show x * 32 + (v 1 (q + j) - 96) = 32 * x + (t (q + j) - 96) by first | decide | omega]
theorem r_pack (h : TPx v t S) {q e : Int} (hq : 0 ≤ q ∧ q < e ∧ e ≤ S ∧ e - q ≤ 6) (hl : ∀ i, q ≤ i → i < e → 97 ≤ t i ∧ t i ≤ 122) : G12_packed v q e = some (pp t q (e - q).toNat, v) := by
  have hS := h.1
  have b0 := dgw_b hl 0
  have b1 := dgw_b hl 1
  have b2 := dgw_b hl 2
  have b3 := dgw_b hl 3
  have b4 := dgw_b hl 4
  have b5 := dgw_b hl 5
  unfold G12_packed G12_packed_0
  have s := fun (j k : Nat) (x : Int) (hj : j < 6) (hx : 0 ≤ x ∧ x < 33554432) => r_pk1 h ⟨hq.1, hq.2.2.1⟩ hl (j := j) (k := k) hj (by first | decide | omega) hx
  have e0 : G12_packed_5 1024 v q e 0 q = G12_packed_5 1024 v q e 0 (q + (0 : Nat)) := by rw [show q + ((0 : Nat) : Int) = q by first | decide | omega]
  rw [e0, s 0 1023 0 (by first | decide | omega) (by first | decide | omega), s 1 1022 _ (by first | decide | omega) (by first | decide | omega), s 2 1021 _ (by first | decide | omega) (by first | decide | omega), s 3 1020 _ (by first | decide | omega) (by first | decide | omega), s 4 1019 _ (by first | decide | omega) (by first | decide | omega), s 5 1018 _ (by first | decide | omega) (by first | decide | omega)]
  rw [G12_packed_5, gd3_t (by first | decide | omega), if_pos (by first | decide | omega), pp_dg ⟨by first | decide | omega, hq.2.2.2⟩]
  congr 2
  omega
/-- the word at off is the word q .. e -/
def Mw (v : Mem) (off L : Nat) (q e : Int) : Prop := e - q = L ∧ ∀ i : Nat, i < L → v 2 (off + i : Nat) = v 1 (q + i)
theorem Mw_i (h : TPx v t S) {q e : Int} (hq : 0 ≤ q ∧ q < e ∧ e ≤ S) (hl : ∀ i, q ≤ i → i < e → 97 ≤ t i ∧ t i ≤ 122) {off L : Nat} (ho : okw off L = true) : Mw v off L q e ↔ (e - q ≤ 6 ∧ Pw off L = pp t q (e - q).toNat) := by
  obtain ⟨o1, o2, o3, o4, o5⟩ := okw_i ho
  have hv : ∀ i : Nat, q + i < e → v 1 (q + i) = t (q + i) := fun i hi => by
    have h4 := h.2.2.1 (q + i) (by first | decide | omega) (by first | decide | omega)
    have h5 := hl (q + i) (by first | decide | omega) hi
    omega
  have ha : ∀ i : Nat, i < L → aw off L i = wd (off + i) - 96 := fun i hi => if_pos hi
  have hz : ∀ i : Nat, ¬ i < L → aw off L i = 0 := fun i hi => if_neg hi
  have y : ∀ i : Nat, q + i < e → dgw t q e i = t (q + i) - 96 := fun i hi => if_pos hi
  have z : ∀ i : Nat, ¬ q + i < e → dgw t q e i = 0 := fun i hi => if_neg hi
  constructor
  · rintro ⟨m1, m2⟩
    refine ⟨by first | decide | omega, ?_⟩
    have eqs : ∀ i : Nat, i < 6 → aw off L i = dgw t q e i := fun i hi => by
      by_cases c : i < L
      · rw [ha i c, y i (by first | decide | omega), ← hv i (by first | decide | omega), ← m2 i c, h.2.2.2 (off + i) (by first | decide | omega)]
      · rw [hz i c, z i (by first | decide | omega)]
    rw [pp_dg ⟨by first | decide | omega, by first | decide | omega⟩]
    unfold Pw
    rw [eqs 0 (by first | decide | omega), eqs 1 (by first | decide | omega), eqs 2 (by first | decide | omega), eqs 3 (by first | decide | omega), eqs 4 (by first | decide | omega), eqs 5 (by first | decide | omega)]
  · rintro ⟨m1, m2⟩
    rw [pp_dg ⟨by first | decide | omega, m1⟩] at m2
    unfold Pw at m2
    have ba : ∀ i : Nat, i < 6 → 0 ≤ aw off L i ∧ aw off L i ≤ 26 ∧ (i < L → 1 ≤ aw off L i) := fun i hi => by
      by_cases c : i < L
      · rw [ha i c]; have := o5 i c; omega
      · rw [hz i c]; omega
    have bd := fun i => dgw_b hl i
    have a0 := ba 0 (by first | decide | omega)
    have a1 := ba 1 (by first | decide | omega)
    have a2 := ba 2 (by first | decide | omega)
    have a3 := ba 3 (by first | decide | omega)
    have a4 := ba 4 (by first | decide | omega)
    have a5 := ba 5 (by first | decide | omega)
    have d0 := bd 0
    have d1 := bd 1
    have d2 := bd 2
    have d3 := bd 3
    have d4 := bd 4
    have d5 := bd 5
    have E0 : aw off L 0 = dgw t q e 0 := by omega
    have E1 : aw off L 1 = dgw t q e 1 := by omega
    have E2 : aw off L 2 = dgw t q e 2 := by omega
    have E3 : aw off L 3 = dgw t q e 3 := by omega
    have E4 : aw off L 4 = dgw t q e 4 := by omega
    have E5 : aw off L 5 = dgw t q e 5 := by omega
    have eqs : ∀ i : Nat, i < 6 → aw off L i = dgw t q e i := fun i hi => by
      rcases (by omega : i = 0 ∨ i = 1 ∨ i = 2 ∨ i = 3 ∨ i = 4 ∨ i = 5) with c | c | c | c | c | c <;> rw [c] <;> assumption
    have hle : e - q = L := by
      have g1 : q + (L - 1 : Nat) < e := by
        rcases Int.lt_or_le (q + (L - 1 : Nat)) e with k | k
        · exact k
        · have h1 := eqs (L - 1) (by first | decide | omega)
          rw [z (L - 1) (by first | decide | omega)] at h1
          have h2 := (ba (L - 1) (by first | decide | omega)).2.2 (by first | decide | omega)
          omega
      by_cases c6 : L = 6
      · omega
      · have g2 : ¬ q + (L : Int) < e := fun k => by
          have h1 := eqs L (by first | decide | omega)
          rw [hz L (by first | decide | omega)] at h1
          have h2 := (bd L).2.2 k
          omega
        omega
    refine ⟨hle, fun i hi => ?_⟩
    have h1 := eqs i (by first | decide | omega)
    rw [ha i hi, y i (by first | decide | omega)] at h1
    rw [h.2.2.2 (off + i) (by first | decide | omega), hv i (by first | decide | omega)]
    omega
theorem r_wl57 {q e k : Int} {off L : Nat} (hq : 0 ≤ q ∧ e ≤ 700) (hk : 0 ≤ k ∧ k < 100) (h3 : off + L < 120) (hle : e - q = L) {kk : Mem → Int → Int → Int → Int → Option (Int × Mem)} : ∀ (d n : Nat) (j : Nat), L - j = d → j ≤ L → d < n → ((∀ i : Nat, j ≤ i → i < L → v 2 (off + i : Nat) = v 1 (q + i)) → G12_wordAt_57 kk n v q e k off L 1 j = some (k, v)) ∧ (¬ (∀ i : Nat, j ≤ i → i < L → v 2 (off + i : Nat) = v 1 (q + i)) → G12_wordAt_57 kk n v q e k off L 1 j = kk v q e (k + 1) (off + L + 1 : Nat)) := by
  intro d
  induction d with
  | zero =>
    intro n j a1 a2 a3
    obtain ⟨n, rfl⟩ : ∃ q, n = q + 1 := ⟨n - 1, by first | decide | omega⟩
    constructor
    · intro _
      rw [G12_wordAt_57, if_pos (by first | decide | omega)]
      unfold G12_wordAt_104
      rw [if_neg i10]
    · intro hh
      exact absurd (fun i p q => by first | decide | omega) hh
  | succ d ih =>
    intro n j a1 a2 a3
    obtain ⟨n, rfl⟩ : ∃ q, n = q + 1 := ⟨n - 1, by first | decide | omega⟩
    obtain ⟨i1, i2⟩ := ih n (j + 1) (by first | decide | omega) (by first | decide | omega) (by first | decide | omega)
    have ej : (j : Int) + 1 = ((j + 1 : Nat) : Int) := by omega
    have eo : (off : Int) + (j : Int) = ((off + j : Nat) : Int) := by omega
    rw [G12_wordAt_57, if_neg (by first | decide | omega), if_neg i10, gdx_t (by first | decide | omega), gdx_t (by first | decide | omega), gd3_t (by first | decide | omega), gd3_t (by first | decide | omega), ej, eo]
    by_cases c : v 2 (off + j : Nat) = v 1 (q + j)
    · rw [if_pos c]
      refine ⟨fun hh => i1 (fun i p q => hh i (by first | decide | omega) q), fun hh => i2 (fun hh2 => hh (fun i p q => ?_))⟩
      by_cases z : i = j
      · rw [z]; exact c
      · exact hh2 i (by first | decide | omega) q
    · rw [if_neg c]
      refine ⟨fun hh => absurd (hh j (by first | decide | omega) (by first | decide | omega)) c, fun _ => ?_⟩
      obtain ⟨n, rfl⟩ : ∃ q, n = q + 1 := ⟨n - 1, by first | decide | omega⟩
      have e104 : G12_wordAt_104 kk v q e k off L 0 = kk v q e (k + 1) (off + L + 1 : Nat) := by
        unfold G12_wordAt_104
        rw [if_pos rfl, gd3_t (by first | decide | omega), gd3_t (by first | decide | omega), show (off : Int) + ((L : Int) + 1) = ((off + L + 1 : Nat) : Int) by first | decide | omega]
      rw [G12_wordAt_57]
      split
      · exact e104
      · rw [if_pos rfl]; exact e104
theorem r_wl18 {q e k : Int} {off L : Nat} (h : TPx v t S) (hq : 0 ≤ q ∧ q < e ∧ e ≤ S) (ho : okw off L = true) {kk : Mem → Int → Int → Int → Int → Option (Int × Mem)} : ∀ (d n : Nat) (j : Nat), L - j = d → j ≤ L → d < n → G12_wordAt_18 kk n v q e k off j = if (L : Int) = e - q then G12_wordAt_57 kk 1024 v q e k off L 1 0 else G12_wordAt_57 kk 1024 v q e k off L 0 0 := by
  obtain ⟨o1, o2, o3, o4, o5⟩ := okw_i ho
  have hS := h.1
  intro d
  induction d with
  | zero =>
    intro n j a1 a2 a3
    obtain ⟨n, rfl⟩ : ∃ q, n = q + 1 := ⟨n - 1, by first | decide | omega⟩
    have ej : j = L := by omega
    subst ej
    have eo : (off : Int) + (j : Int) = ((off + j : Nat) : Int) := by omega
    rw [G12_wordAt_18, eo, gdx_t (by first | decide | omega), h.2.2.2 (off + j) (by first | decide | omega), if_pos o4, gd3_t (by first | decide | omega)]
  | succ d ih =>
    intro n j a1 a2 a3
    obtain ⟨n, rfl⟩ : ∃ q, n = q + 1 := ⟨n - 1, by first | decide | omega⟩
    have eo : (off : Int) + (j : Int) = ((off + j : Nat) : Int) := by omega
    have hj := o5 j (by first | decide | omega)
    rw [G12_wordAt_18, eo, gdx_t (by first | decide | omega), h.2.2.2 (off + j) (by first | decide | omega), if_neg (by first | decide | omega), gd3_t (by first | decide | omega), show (j : Int) + 1 = ((j + 1 : Nat) : Int) by first | decide | omega]
    exact ih n (j + 1) (by first | decide | omega) (by first | decide | omega) (by first | decide | omega)
theorem r_wa (h : TPx v t S) {q e : Int} (hq : 0 ≤ q ∧ q < e ∧ e ≤ S) (hl : ∀ i, q ≤ i → i < e → 97 ≤ t i ∧ t i ≤ 122) : ∀ (l : List Nat) (off n : Nat) (k : Int), okl off l = true → l.length < n → 0 ≤ k → k + l.length ≤ 24 → G12_wordAt_5 n v q e k off = some ((if e - q ≤ 6 then rxl (pkl off l) (pp t q (e - q).toNat) k else -1), v) := by
  have hS := h.1
  intro l
  induction l with
  | nil =>
    intro off n k h1 h2 h3 h4
    obtain ⟨n, rfl⟩ : ∃ q, n = q + 1 := ⟨n - 1, by first | decide | omega⟩
    have : off = 120 := of_decide_eq_true h1
    rw [G12_wordAt_5, if_pos (by first | decide | omega)]
    have e1 : rxl (pkl off []) (pp t q (e - q).toNat) k = -1 := rfl
    rw [e1]
    split <;> rfl
  | cons L r ih =>
    intro off n k h1 h2 h3 h4
    obtain ⟨n, rfl⟩ : ∃ q, n = q + 1 := ⟨n - 1, by first | decide | omega⟩
    have h1' : (okw off L && okl (off + L + 1) r) = true := h1
    rw [Bool.and_eq_true] at h1'
    obtain ⟨ho, hr⟩ := h1'
    obtain ⟨o1, o2, o3, o4, o5⟩ := okw_i ho
    have hlen : (L :: r).length = r.length + 1 := rfl
    have nxt := ih (off + L + 1) n (k + 1) hr (by first | decide | omega) (by first | decide | omega) (by first | decide | omega)
    have hM := Mw_i h hq hl ho
    have e1 : rxl (pkl off (L :: r)) (pp t q (e - q).toNat) k = if Pw off L = pp t q (e - q).toNat then k else rxl (pkl (off + L + 1) r) (pp t q (e - q).toNat) (k + 1) := rfl
    rw [G12_wordAt_5, if_neg (by first | decide | omega), e1]
    have e18 := r_wl18 (k := k) (off := off) (L := L) h hq ho (kk := fun m x1 x2 x3 x4 => G12_wordAt_5 n m x1 x2 x3 x4) L 1024 0 (by first | decide | omega) (by first | decide | omega) (by first | decide | omega)
    have e18' : G12_wordAt_18 (fun m x1 x2 x3 x4 => G12_wordAt_5 n m x1 x2 x3 x4) 1024 v q e k off 0 = if (L : Int) = e - q then G12_wordAt_57 (fun m x1 x2 x3 x4 => G12_wordAt_5 n m x1 x2 x3 x4) 1024 v q e k off L 1 0 else G12_wordAt_57 (fun m x1 x2 x3 x4 => G12_wordAt_5 n m x1 x2 x3 x4) 1024 v q e k off L 0 0 := e18
    rw [e18']
    by_cases c : (L : Int) = e - q
    · obtain ⟨w1, w2⟩ := r_wl57 (v := v) (k := k) (off := off) (L := L) ⟨hq.1, by first | decide | omega⟩ (by first | decide | omega) o3 c.symm (kk := fun m x1 x2 x3 x4 => G12_wordAt_5 n m x1 x2 x3 x4) L 1024 0 (by first | decide | omega) (by first | decide | omega) (by first | decide | omega)
      rw [if_pos c, if_pos (show e - q ≤ 6 by first | decide | omega)]
      by_cases c2 : ∀ i : Nat, 0 ≤ i → i < L → v 2 (off + i : Nat) = v 1 (q + i)
      · have := w1 c2
        have hm := (hM.mp ⟨c.symm, fun i hi => c2 i (by first | decide | omega) hi⟩).2
        rw [if_pos hm]
        exact this
      · have := w2 c2
        have hm : ¬ Pw off L = pp t q (e - q).toNat := fun hp => c2 (fun i _ hi => (hM.mpr ⟨by first | decide | omega, hp⟩).2 i hi)
        rw [if_neg hm]
        rw [if_pos (show e - q ≤ 6 by first | decide | omega)] at nxt
        exact this.trans nxt
    · rw [if_neg c]
      have hm : e - q ≤ 6 → ¬ Pw off L = pp t q (e - q).toNat := fun h6 hp => c (hM.mpr ⟨h6, hp⟩).1.symm
      have e104 : G12_wordAt_57 (fun m x1 x2 x3 x4 => G12_wordAt_5 n m x1 x2 x3 x4) 1024 v q e k off L 0 0 = G12_wordAt_5 n v q e (k + 1) (off + L + 1 : Nat) := by
        rw [G12_wordAt_57, if_neg (by first | decide | omega), if_pos rfl]
        unfold G12_wordAt_104
        rw [if_pos rfl, gd3_t (by first | decide | omega), gd3_t (by first | decide | omega), show (off : Int) + ((L : Int) + 1) = ((off + L + 1 : Nat) : Int) by first | decide | omega]
      rw [e104, nxt]
      by_cases c6 : e - q ≤ 6
      · rw [if_pos c6, if_pos c6, if_neg (hm c6)]
      · rw [if_neg c6, if_neg c6]
end Q22
/-! Both read the same tokens. -/
section Q23
variable {m v : Mem} {t : Int → Int} {S : Int}
theorem r_w90 {q : Int} : ∀ (d k : Nat) (p : Int) (v : Mem), TPx v t S → 0 ≤ q → q ≤ p → S - p = d → d < k → v 0 7 = p → v 0 10 = q → (∀ i, q ≤ i → i < p → 97 ≤ t i ∧ t i ≤ 122) → (p = q → p < S ∧ isLt (t p) = true) → ∃ v', G12_token_90 k v = some v' ∧ Fm Q7 v v' ∧ v' 0 7 = rn (fun i => isLt (t i)) d p ∧ v' 0 10 = q ∧ KR (if rn (fun i => isLt (t i)) d p - q ≤ 6 then wix (pp t q (rn (fun i => isLt (t i)) d p - q).toNat) else 40) (pp t q (rn (fun i => isLt (t i)) d p - q).toNat) (v' 0 8) (v' 0 9) := by
  have fin : ∀ (k : Nat) (p : Int) (v : Mem), TPx v t S → 0 ≤ q → q < p → p ≤ S → v 0 7 = p → v 0 10 = q → ¬ (p < S ∧ isLt (t p) = true) → (∀ i, q ≤ i → i < p → 97 ≤ t i ∧ t i ≤ 122) → ∃ v', G12_token_90 (k + 1) v = some v' ∧ Fm Q7 v v' ∧ v' 0 7 = p ∧ v' 0 10 = q ∧ KR (if p - q ≤ 6 then wix (pp t q (p - q).toNat) else 40) (pp t q (p - q).toNat) (v' 0 8) (v' 0 9) := by
    intro k p v h a1 a2 a3 h7 h10 hn hl
    have hS := h.1
    rw [G12_token_90, h7, r_small h (by first | decide | omega), bs1]
    simp only [if_neg hn, if_true]
    rw [h7, h10]
    unfold G12_wordAt G12_wordAt_0
    have hw := r_wa h (q := q) (e := p) ⟨a1, a2, a3⟩ hl lens 0 1024 0 kw_ok (by decide) (by first | decide | omega) (by decide)
    have hw' : G12_wordAt_5 1024 v q p 0 0 = some ((if p - q ≤ 6 then rix (pp t q (p - q).toNat) else -1), v) := hw
    rw [hw', bs1, wt_e]
    simp only [up_e]
    have u7 : ∀ y, up v 0 9 y 0 7 = p := fun y => by rw [up_i (by first | decide | omega)]; exact h7
    have u10 : ∀ y, up v 0 9 y 0 10 = q := fun y => by rw [up_i (by first | decide | omega)]; exact h10
    rw [u7, u10]
    unfold G12_token_162
    have u8 : ∀ y z, up (up v 0 9 y) 0 8 z 0 7 = p ∧ up (up v 0 9 y) 0 8 z 0 10 = q ∧ up (up v 0 9 y) 0 8 z 0 8 = z ∧ up (up v 0 9 y) 0 8 z 0 9 = y := fun y z => ⟨by rw [up_i (by first | decide | omega)]; exact u7 y, by rw [up_i (by first | decide | omega)]; exact u10 y, up_e, by rw [up_i (by first | decide | omega), up_e]⟩
    have f8 : ∀ y z, Fm Q7 v (up (up v 0 9 y) 0 8 z) := fun y z => (Fm.w1 ⟨rfl, by first | decide | omega, by first | decide | omega⟩).w ⟨rfl, by first | decide | omega, by first | decide | omega⟩
    by_cases c6 : p - q ≤ 6
    · simp only [if_pos c6]
      rcases kw_rel (pp t q (p - q).toNat) with ⟨x1, x2, x3, x4⟩ | ⟨x1, x2⟩
      · rw [if_neg (by first | decide | omega), wt_e, (u8 _ _).2.2.1, if_neg (by first | decide | omega)]
        refine ⟨_, rfl, f8 _ _, (u8 _ _).1, (u8 _ _).2.1, ?_⟩
        rw [(u8 _ _).2.2.1, (u8 _ _).2.2.2]
        exact Or.inr (Or.inl ⟨x1, x2, rfl, x3⟩)
      · rw [if_pos (by first | decide | omega), gd3_t (by first | decide | omega), wt_e, (u8 _ _).2.2.1, if_pos rfl, (u8 _ _).1, (u8 _ _).2.1, r_pack (h.q (f8 _ _)) ⟨a1, a2, a3, c6⟩ hl, bs1, wt_e]
        simp only
        refine ⟨_, rfl, (f8 _ _).w ⟨rfl, by first | decide | omega, by first | decide | omega⟩, ?_, ?_, ?_⟩
        · rw [up_i (by first | decide | omega)]; exact (u8 _ _).1
        · rw [up_i (by first | decide | omega)]; exact (u8 _ _).2.1
        · rw [up_i (by first | decide | omega), up_e, up_e]
          exact Or.inr (Or.inr (Or.inl ⟨x1, rfl, rfl⟩))
    · simp only [if_neg c6]
      rw [if_pos (by first | decide | omega), gd3_t (by first | decide | omega), wt_e, (u8 _ _).2.2.1, if_neg (by first | decide | omega)]
      refine ⟨_, rfl, f8 _ _, (u8 _ _).1, (u8 _ _).2.1, ?_⟩
      rw [(u8 _ _).2.2.1]
      exact Or.inr (Or.inr (Or.inr (Or.inr (Or.inr (Or.inr ⟨rfl, Or.inl rfl⟩)))))
  intro d
  induction d with
  | zero =>
    intro k p v h a1 a2 a3 a4 h7 h10 hl hq
    obtain ⟨k, rfl⟩ : ∃ q, k = q + 1 := ⟨k - 1, by first | decide | omega⟩
    have e : rn (fun i => isLt (t i)) 0 p = p := rfl
    rw [e]
    have : q ≠ p := fun z => by have := hq z.symm; omega
    exact fin k p v h a1 (by first | decide | omega) (by first | decide | omega) h7 h10 (fun z => by first | decide | omega) hl
  | succ d ih =>
    intro k p v h a1 a2 a3 a4 h7 h10 hl hq
    obtain ⟨k, rfl⟩ : ∃ q, k = q + 1 := ⟨k - 1, by first | decide | omega⟩
    have hS := h.1
    rw [rn_s]
    by_cases c : isLt (t p) = true
    · have hc := isLt_i.mp c
      rw [if_pos c, G12_token_90, h7, r_small h (by first | decide | omega), bs1]
      simp only [if_pos (show p < S ∧ isLt (t p) = true from ⟨by first | decide | omega, c⟩), if_neg i10]
      rw [h7, gd3_t (by first | decide | omega), wt_e]
      have f1 : Fm Q7 v (up v 0 7 (p + 1)) := Fm.w1 ⟨rfl, by first | decide | omega, by first | decide | omega⟩
      obtain ⟨v', z1, z2, z3, z4, z5⟩ := ih k (p + 1) (up v 0 7 (p + 1)) (h.q f1) a1 (by first | decide | omega) (by first | decide | omega) (by first | decide | omega) up_e (by rw [up_i (by first | decide | omega)]; exact h10) (fun i p1 p2 => by
        by_cases z : i = p
        · rw [z]; exact hc
        · exact hl i p1 (by first | decide | omega)) (fun z => by first | decide | omega)
      exact ⟨v', z1, f1.tr z2, z3, z4, z5⟩
    · rw [if_neg c]
      have : q ≠ p := fun z => c (hq z.symm).2
      exact fin k p v h a1 (by first | decide | omega) (by first | decide | omega) h7 h10 (fun z => c z.2) hl
theorem r_n213 : ∀ (d k : Nat) (p a : Int) (v : Mem), TPx v t S → 0 ≤ p → S - p = d → d < k → v 0 7 = p → v 0 8 = 3 → NumR a (v 0 9) → (a ≤ 1000000 ∧ v 0 9 ≤ 999999) → ∃ v', G12_token_213 k v = some v' ∧ Fm Q7 v v' ∧ v' 0 7 = rn (fun i => isDg (t i)) d p ∧ v' 0 10 = v 0 10 ∧ v' 0 8 = 3 ∧ NumR (nv t (rn (fun i => isDg (t i)) d p - p).toNat p a) (v' 0 9) := by
  intro d
  induction d with
  | zero =>
    intro k p a v h a1 a2 a3 h7 h8 hN hb
    obtain ⟨k, rfl⟩ : ∃ q, k = q + 1 := ⟨k - 1, by first | decide | omega⟩
    have e : rn (fun i => isDg (t i)) 0 p = p := rfl
    rw [e, G12_token_213, h7, r_dig h (by first | decide | omega), bs1, show (p - p).toNat = 0 by first | decide | omega]
    simp only [if_neg (show ¬ (p < S ∧ isDg (t p) = true) from fun z => by first | decide | omega), if_true]
    exact ⟨v, rfl, Fm.rf, h7, rfl, h8, hN⟩
  | succ d ih =>
    intro k p a v h a1 a2 a3 h7 h8 hN hb
    obtain ⟨k, rfl⟩ : ∃ q, k = q + 1 := ⟨k - 1, by first | decide | omega⟩
    have hS := h.1
    rw [rn_s, G12_token_213, h7, r_dig h (by first | decide | omega), bs1]
    by_cases c : isDg (t p) = true
    · have hc := isDg_i.mp c
      have h4 := h.2.2.1 p a1 (by first | decide | omega)
      obtain ⟨r1, r2, _, _⟩ := rn_spec (f := fun i => isDg (t i)) d (p + 1)
      rw [if_pos c]
      simp only [if_pos (show p < S ∧ isDg (t p) = true from ⟨by first | decide | omega, c⟩), if_neg i10]
      rw [h7]
      have nx : ∀ y, y ≤ 999999 → NumR (if 1000000 < a * 10 + t p - 48 then 1000000 else a * 10 + t p - 48) y → ∃ v', G12_token_261 (fun m => G12_token_213 k m) v y = some v' ∧ Fm Q7 v v' ∧ v' 0 7 = rn (fun i => isDg (t i)) d (p + 1) ∧ v' 0 10 = v 0 10 ∧ v' 0 8 = 3 ∧ NumR (nv t (rn (fun i => isDg (t i)) d (p + 1) - p).toNat p a) (v' 0 9) := by
        intro y hy hN2
        unfold G12_token_261
        have u7 : up v 0 9 y 0 7 = p := by rw [up_i (by first | decide | omega)]; exact h7
        rw [wt_e, u7, gd3_t (by first | decide | omega), wt_e]
        have f1 : Fm Q7 v (up (up v 0 9 y) 0 7 (p + 1)) := (Fm.w1 ⟨rfl, by first | decide | omega, by first | decide | omega⟩).w ⟨rfl, by first | decide | omega, by first | decide | omega⟩
        have u9 : up (up v 0 9 y) 0 7 (p + 1) 0 9 = y := by rw [up_i (by first | decide | omega), up_e]
        obtain ⟨v', z1, z2, z3, z4, z5, z6⟩ := ih k (p + 1) (if 1000000 < a * 10 + t p - 48 then 1000000 else a * 10 + t p - 48) (up (up v 0 9 y) 0 7 (p + 1)) (h.q f1) (by first | decide | omega) (by first | decide | omega) (by first | decide | omega) up_e (by rw [up_i (by first | decide | omega), up_i (by first | decide | omega)]; exact h8) (by rw [u9]; exact hN2) (by rw [u9]; exact ⟨by split <;> omega, hy⟩)
        refine ⟨v', z1, f1.tr z2, z3, ?_, z5, ?_⟩
        · rw [z4, up_i (by first | decide | omega), up_i (by first | decide | omega)]
        · rw [show (rn (fun i => isDg (t i)) d (p + 1) - p).toNat = (rn (fun i => isDg (t i)) d (p + 1) - (p + 1)).toNat + 1 by first | decide | omega, nv_s]; exact z6
      unfold NumR at hN
      by_cases c9 : v 0 9 ≤ 99999
      · rw [if_pos c9, gdx_t (by first | decide | omega), gd3_t (by first | decide | omega)]
        refine nx _ (by first | decide | omega) ?_
        unfold NumR
        split <;> omega
      · rw [if_neg c9]
        refine nx _ (by first | decide | omega) ?_
        unfold NumR
        split <;> omega
    · rw [if_neg c, show (p - p).toNat = 0 by first | decide | omega]
      simp only [if_neg (show ¬ (p < S ∧ isDg (t p) = true) from fun z => c z.2), if_true]
      exact ⟨v, rfl, Fm.rf, h7, rfl, h8, hN⟩
theorem r_sgn {q : Int} (h : TPx v t S) (hq : 0 ≤ q ∧ q < S) (h7 : v 0 7 = q) : ∃ v', G12_signToken v = some v' ∧ Fm Q7 v v' ∧ v' 0 7 = q + sgA (t q) (chN t S q) ∧ v' 0 10 = v 0 10 ∧ KR (sgT (t q) (chN t S q)) 0 (v' 0 8) (v' 0 9) := by
  have hS := h.1
  have h4 := h.2.2.1 q hq.1 hq.2
  unfold G12_signToken G12_signToken_0
  rw [h7, gdx_t (by first | decide | omega), wt_e]
  have u7 : ∀ y, up v 0 9 y 0 7 = q := fun y => by rw [up_i (by first | decide | omega)]; exact h7
  rw [u7, gd3_t (by first | decide | omega), wt_e]
  have g9 : up (up v 0 9 (v 1 q)) 0 7 (q + 1) 0 9 = v 1 q := by rw [up_i (by first | decide | omega), up_e]
  have g7 : up (up v 0 9 (v 1 q)) 0 7 (q + 1) 0 7 = q + 1 := up_e
  have g10 : up (up v 0 9 (v 1 q)) 0 7 (q + 1) 0 10 = v 0 10 := by rw [up_i (by first | decide | omega), up_i (by first | decide | omega)]
  have f1 : Fm Q7 v (up (up v 0 9 (v 1 q)) 0 7 (q + 1)) := (Fm.w1 ⟨rfl, by first | decide | omega, by first | decide | omega⟩).w ⟨rfl, by first | decide | omega, by first | decide | omega⟩
  have g6 : up (up v 0 9 (v 1 q)) 0 7 (q + 1) 0 6 = S := by rw [f1 0 6 (by unfold Q7; first | decide | omega)]; exact h.2.1
  have gt : up (up v 0 9 (v 1 q)) 0 7 (q + 1) 1 = v 1 := f1.rw1 (fun i => by unfold Q7; first | decide | omega)
  generalize up (up v 0 9 (v 1 q)) 0 7 (q + 1) = u at g9 g7 g10 f1 g6 gt ⊢
  rw [g9]
  -- what is behind it
  have hx : ∃ x, (∀ k : Int → Option Mem, (if u 0 6 ≤ u 0 7 then k 0 else gdx (u 0 7) 700 (k (u 1 (u 0 7)))) = k x) ∧ (x = 61 ↔ chN t S q = 61) ∧ (x = 62 ↔ chN t S q = 62) := by
    unfold chN
    by_cases c : S ≤ q + 1
    · refine ⟨0, fun k => by rw [g6, g7, if_pos c], ?_⟩
      rw [if_neg (by first | decide | omega)]; omega
    · have h5 := h.2.2.1 (q + 1) (by first | decide | omega) (by first | decide | omega)
      refine ⟨v 1 (q + 1), fun k => by rw [g6, g7, if_neg c, gdx_t (by first | decide | omega), gt], ?_⟩
      rw [if_pos (by first | decide | omega)]; omega
  obtain ⟨x, hx1, hx2, hx3⟩ := hx
  have e50 : G12_signToken_50 u = G12_signToken_74 u x := hx1 (fun y => G12_signToken_74 u y)
  rw [e50]
  -- the two ways a comparison ends
  have w1 : ∀ y z : Int, ∃ v', G12_signToken_192 (up u 0 8 y) z = some v' ∧ Fm Q7 v v' ∧ v' 0 7 = q + 1 ∧ v' 0 10 = v 0 10 ∧ v' 0 8 = y ∧ v' 0 9 = z := fun y z => by
    unfold G12_signToken_192
    rw [wt_e]
    exact ⟨_, rfl, (f1.w ⟨rfl, by first | decide | omega, by first | decide | omega⟩).w ⟨rfl, by first | decide | omega, by first | decide | omega⟩, by rw [up_i (by first | decide | omega), up_i (by first | decide | omega)]; exact g7, by rw [up_i (by first | decide | omega), up_i (by first | decide | omega)]; exact g10, by rw [up_i (by first | decide | omega), up_e], up_e⟩
  have w2 : ∀ y z : Int, ∃ v', G12_signToken_192 (up (up u 0 7 (q + 1 + 1)) 0 8 y) z = some v' ∧ Fm Q7 v v' ∧ v' 0 7 = q + 2 ∧ v' 0 10 = v 0 10 ∧ v' 0 8 = y ∧ v' 0 9 = z := fun y z => by
    unfold G12_signToken_192
    rw [wt_e]
    exact ⟨_, rfl, ((f1.w ⟨rfl, by first | decide | omega, by first | decide | omega⟩).w ⟨rfl, by first | decide | omega, by first | decide | omega⟩).w ⟨rfl, by first | decide | omega, by first | decide | omega⟩, by rw [up_i (by first | decide | omega), up_i (by first | decide | omega), up_e]; first | decide | omega, by rw [up_i (by first | decide | omega), up_i (by first | decide | omega), up_i (by first | decide | omega)]; exact g10, by rw [up_i (by first | decide | omega), up_e], up_e⟩
  have w3 : ∀ y : Int, ∃ v', G12_signToken_287 u y = some v' ∧ Fm Q7 v v' ∧ v' 0 7 = q + 1 ∧ v' 0 10 = v 0 10 ∧ v' 0 8 = y ∧ v' 0 9 = v 1 q := fun y => by
    unfold G12_signToken_287
    rw [wt_e]
    exact ⟨_, rfl, f1.w ⟨rfl, by first | decide | omega, by first | decide | omega⟩, by rw [up_i (by first | decide | omega)]; exact g7, by rw [up_i (by first | decide | omega)]; exact g10, up_e, by rw [up_i (by first | decide | omega)]; exact g9⟩
  have a9 : ∀ y, up u 0 8 y 0 9 = v 1 q := fun y => by rw [up_i (by first | decide | omega)]; exact g9
  have b9 : ∀ y z, up (up u 0 7 y) 0 8 z 0 9 = v 1 q := fun y z => by rw [up_i (by first | decide | omega), up_i (by first | decide | omega)]; exact g9
  by_cases c60 : t q = 60
  · have ev : v 1 q = 60 := by omega
    unfold G12_signToken_74 G12_signToken_94 G12_signToken_95 G12_signToken_115 G12_signToken_116 G12_signToken_125 G12_signToken_135 sgT sgA
    simp only [g9, ev, if_true, if_neg (show ¬ (60 : Int) = 61 by first | decide | omega), g7, wt_e, c60, gd3_t (show -2147483648 ≤ q + 1 + 1 ∧ q + 1 + 1 ≤ 2147483647 by first | decide | omega), a9, b9, if_neg i10]
    by_cases c1 : chN t S q = 61
    · have hx61 := hx2.mpr c1
      simp only [if_pos hx61, if_pos c1, if_neg (show ¬ x = 62 by first | decide | omega)]
      obtain ⟨v', z1, z2, z3, z4, z5, z6⟩ := w2 5 1
      exact ⟨v', z1, z2, z3, z4, by rw [z5, z6]; exact Or.inr (Or.inr (Or.inr (Or.inr (Or.inl ⟨by first | decide | omega, by first | decide | omega, rfl, by first | decide | omega⟩))))⟩
    · have hx61 : ¬ x = 61 := fun z => c1 (hx2.mp z)
      simp only [if_neg hx61, if_neg c1]
      by_cases c2 : chN t S q = 62
      · have hx62 := hx3.mpr c2
        simp only [if_pos hx62, if_pos c2]
        obtain ⟨v', z1, z2, z3, z4, z5, z6⟩ := w2 5 3
        exact ⟨v', z1, z2, z3, z4, by rw [z5, z6]; exact Or.inr (Or.inr (Or.inr (Or.inr (Or.inl ⟨by first | decide | omega, by first | decide | omega, rfl, by first | decide | omega⟩))))⟩
      · have hx62 : ¬ x = 62 := fun z => c2 (hx3.mp z)
        simp only [if_neg hx62, if_neg c2]
        obtain ⟨v', z1, z2, z3, z4, z5, z6⟩ := w1 5 0
        exact ⟨v', z1, z2, z3, z4, by rw [z5, z6]; exact Or.inr (Or.inr (Or.inr (Or.inr (Or.inl ⟨by first | decide | omega, by first | decide | omega, rfl, by first | decide | omega⟩))))⟩
  · by_cases c62 : t q = 62
    · have ev : v 1 q = 62 := by omega
      unfold G12_signToken_74 G12_signToken_94 G12_signToken_95 G12_signToken_115 G12_signToken_116 G12_signToken_125 G12_signToken_135 sgT sgA
      simp only [g9, ev, if_true, if_neg (show ¬ (62 : Int) = 61 by first | decide | omega), if_neg (show ¬ (62 : Int) = 60 by first | decide | omega), g7, wt_e, c62, gd3_t (show -2147483648 ≤ q + 1 + 1 ∧ q + 1 + 1 ≤ 2147483647 by first | decide | omega), a9, b9, if_neg i10]
      by_cases c1 : chN t S q = 61
      · have hx61 := hx2.mpr c1
        simp only [if_pos hx61, if_pos c1]
        obtain ⟨v', z1, z2, z3, z4, z5, z6⟩ := w2 5 4
        exact ⟨v', z1, z2, z3, z4, by rw [z5, z6]; exact Or.inr (Or.inr (Or.inr (Or.inr (Or.inl ⟨by first | decide | omega, by first | decide | omega, rfl, by first | decide | omega⟩))))⟩
      · have hx61 : ¬ x = 61 := fun z => c1 (hx2.mp z)
        simp only [if_neg hx61, if_neg c1]
        obtain ⟨v', z1, z2, z3, z4, z5, z6⟩ := w1 5 5
        exact ⟨v', z1, z2, z3, z4, by rw [z5, z6]; exact Or.inr (Or.inr (Or.inr (Or.inr (Or.inl ⟨by first | decide | omega, by first | decide | omega, rfl, by first | decide | omega⟩))))⟩
    · have eT : sgT (t q) (chN t S q) = sg1 (t q) := by unfold sgT; rw [if_neg c60, if_neg c62]
      have eA : sgA (t q) (chN t S q) = 1 := by unfold sgA; rw [if_neg c60, if_neg c62]
      rw [eT, eA, if_neg (show ¬ v 1 q = 60 by first | decide | omega), if_neg (show ¬ v 1 q = 62 by first | decide | omega)]
      by_cases c61 : t q = 61
      · have ev : v 1 q = 61 := by omega
        have es : sg1 (t q) = 28 := by rw [c61]; rfl
        unfold G12_signToken_74 G12_signToken_94 G12_signToken_95 G12_signToken_115 G12_signToken_116 G12_signToken_125 G12_signToken_135
        simp only [g9, ev, if_true, if_neg (show ¬ (61 : Int) = 60 by first | decide | omega), g7, wt_e, a9, b9, if_neg i10]
        obtain ⟨v', z1, z2, z3, z4, z5, z6⟩ := w1 5 2
        exact ⟨v', z1, z2, z3, z4, by rw [z5, z6, es]; exact Or.inr (Or.inr (Or.inr (Or.inr (Or.inl ⟨by first | decide | omega, by first | decide | omega, rfl, by first | decide | omega⟩))))⟩
      · rw [if_neg (show ¬ v 1 q = 61 by first | decide | omega)]
        unfold G12_signToken_270 G12_signToken_275
        rw [if_neg i10, if_pos rfl]
        have sgn : ∀ k, sg1 (t q) = k → SGN k (v 1 q) → ∃ v', G12_signToken_287 u 4 = some v' ∧ Fm Q7 v v' ∧ v' 0 7 = q + 1 ∧ v' 0 10 = v 0 10 ∧ KR (sg1 (t q)) 0 (v' 0 8) (v' 0 9) := by
          intro k hk hs
          obtain ⟨v', z1, z2, z3, z4, z5, z6⟩ := w3 4
          exact ⟨v', z1, z2, z3, z4, by rw [z5, z6, hk]; exact Or.inr (Or.inr (Or.inr (Or.inr (Or.inr (Or.inl ⟨hs, rfl⟩)))))⟩
        have none : sg1 (t q) = 40 → ∀ y, (y = 6 ∨ (y = 4 ∧ v 1 q = 37)) → ∃ v', G12_signToken_287 u y = some v' ∧ Fm Q7 v v' ∧ v' 0 7 = q + 1 ∧ v' 0 10 = v 0 10 ∧ KR (sg1 (t q)) 0 (v' 0 8) (v' 0 9) := by
          intro hk y hy
          obtain ⟨v', z1, z2, z3, z4, z5, z6⟩ := w3 y
          exact ⟨v', z1, z2, z3, z4, by rw [z5, z6, hk]; exact Or.inr (Or.inr (Or.inr (Or.inr (Or.inr (Or.inr ⟨rfl, hy⟩)))))⟩
        by_cases c59 : t q = 59
        · rw [if_pos (show v 1 q = 59 by first | decide | omega)]; exact sgn 38 (by rw [c59]; rfl) (by unfold SGN; first | decide | omega)
        · rw [if_neg (show ¬ v 1 q = 59 by first | decide | omega)]
          by_cases c40 : t q = 40
          · rw [if_pos (show v 1 q = 40 by first | decide | omega)]; exact sgn 36 (by rw [c40]; rfl) (by unfold SGN; first | decide | omega)
          · rw [if_neg (show ¬ v 1 q = 40 by first | decide | omega)]
            by_cases c41 : t q = 41
            · rw [if_pos (show v 1 q = 41 by first | decide | omega)]; exact sgn 37 (by rw [c41]; rfl) (by unfold SGN; first | decide | omega)
            · rw [if_neg (show ¬ v 1 q = 41 by first | decide | omega)]
              by_cases c43 : t q = 43
              · rw [if_pos (show v 1 q = 43 by first | decide | omega)]; exact sgn 32 (by rw [c43]; rfl) (by unfold SGN; first | decide | omega)
              · rw [if_neg (show ¬ v 1 q = 43 by first | decide | omega)]
                by_cases c45 : t q = 45
                · rw [if_pos (show v 1 q = 45 by first | decide | omega)]; exact sgn 33 (by rw [c45]; rfl) (by unfold SGN; first | decide | omega)
                · rw [if_neg (show ¬ v 1 q = 45 by first | decide | omega)]
                  by_cases c42 : t q = 42
                  · rw [if_pos (show v 1 q = 42 by first | decide | omega)]; exact sgn 34 (by rw [c42]; rfl) (by unfold SGN; first | decide | omega)
                  · rw [if_neg (show ¬ v 1 q = 42 by first | decide | omega)]
                    by_cases c47 : t q = 47
                    · rw [if_pos (show v 1 q = 47 by first | decide | omega)]; exact sgn 35 (by rw [c47]; rfl) (by unfold SGN; first | decide | omega)
                    · rw [if_neg (show ¬ v 1 q = 47 by first | decide | omega)]
                      have e40 : sg1 (t q) = 40 := by
                        unfold sg1
                        rw [if_neg c40, if_neg c41, if_neg c42, if_neg c43, if_neg c45, if_neg c47, if_neg c59, if_neg c60, if_neg c61, if_neg c62]
                      by_cases c37 : t q = 37
                      · rw [if_pos (show v 1 q = 37 by first | decide | omega)]; exact none e40 4 (Or.inr ⟨rfl, by first | decide | omega⟩)
                      · rw [if_neg (show ¬ v 1 q = 37 by first | decide | omega)]; exact none e40 6 (Or.inl rfl)
theorem r_tokS {p : Int} (h : TPx v t S) (hp : 0 ≤ p ∧ p ≤ S) (h7 : v 0 7 = p) : ∃ v', G12_token v = some v' ∧ Fm Q7 v v' ∧ v' 0 10 = tkp t S p ∧ v' 0 7 = tqn t S (tkp t S p) ∧ KR (tqt t S (tkp t S p)) (tqv t S (tkp t S p)) (v' 0 8) (v' 0 9) := by
  have hS := h.1
  obtain ⟨q1, q2, _, _⟩ := rr_spec (f := fun i => isBl (t i)) hp.2
  obtain ⟨v1, e1, f1, k1⟩ := r_skip (t := t) (S := S) (S - p).toNat 1024 p v h hp.1 (by first | decide | omega) (by first | decide | omega) h7
  have k1' : v1 0 7 = tkp t S p := k1
  have q1' : p ≤ tkp t S p := q1
  have q2' : tkp t S p ≤ S := q2
  unfold G12_token
  rw [e1]
  generalize tkp t S p = q at k1' q1' q2' ⊢
  unfold G12_token_52
  rw [wt_e, k1']
  have f2 : Fm Q7 v (up v1 0 10 q) := f1.w ⟨rfl, by first | decide | omega, by first | decide | omega⟩
  have g7 : up v1 0 10 q 0 7 = q := by rw [up_i (by first | decide | omega)]; exact k1'
  have g10 : up v1 0 10 q 0 10 = q := up_e
  generalize up v1 0 10 q = u at f2 g7 g10 ⊢
  have hu := h.q f2
  rw [g7, hu.2.1]
  unfold tqt tqv tqn
  by_cases c1 : S ≤ q
  · rw [if_pos c1, if_pos c1, if_pos c1, if_pos (by first | decide | omega), wt_e]
    refine ⟨_, rfl, f2.w ⟨rfl, by first | decide | omega, by first | decide | omega⟩, by rw [up_i (by first | decide | omega)]; exact g10, by rw [up_i (by first | decide | omega)]; exact g7, ?_⟩
    rw [up_e]
    exact Or.inl ⟨rfl, rfl⟩
  · rw [if_neg c1, if_neg c1, if_neg c1, if_neg (by first | decide | omega), r_small hu (by first | decide | omega), bs1]
    by_cases c2 : isLt (t q) = true
    · simp only [if_pos (show q < S ∧ isLt (t q) = true from ⟨by first | decide | omega, c2⟩), if_pos c2, if_neg i10]
      obtain ⟨v', z1, z2, z3, z4, z5⟩ := r_w90 (q := q) (S - q).toNat 1024 q u hu (by first | decide | omega) (by first | decide | omega) (by first | decide | omega) (by first | decide | omega) g7 g10 (fun i a b => by first | decide | omega) (fun _ => ⟨by first | decide | omega, c2⟩)
      exact ⟨v', z1, f2.tr z2, z4, z3, z5⟩
    · simp only [if_neg (show ¬ (q < S ∧ isLt (t q) = true) from fun z => c2 z.2), if_neg c2, if_true]
      rw [g7, r_dig hu (by first | decide | omega), bs1]
      by_cases c3 : isDg (t q) = true
      · simp only [if_pos (show q < S ∧ isDg (t q) = true from ⟨by first | decide | omega, c3⟩), if_pos c3, if_neg i10]
        rw [wt_e, wt_e]
        have f3 : Fm Q7 v (up (up u 0 8 3) 0 9 0) := (f2.w ⟨rfl, by first | decide | omega, by first | decide | omega⟩).w ⟨rfl, by first | decide | omega, by first | decide | omega⟩
        obtain ⟨v', z1, z2, z3, z4, z5, z6⟩ := r_n213 (S - q).toNat 1024 q 0 (up (up u 0 8 3) 0 9 0) (h.q f3) (by first | decide | omega) (by first | decide | omega) (by first | decide | omega) (by rw [up_i (by first | decide | omega), up_i (by first | decide | omega)]; exact g7) (by rw [up_i (by first | decide | omega), up_e]) (by rw [up_e]; exact ⟨by first | decide | omega, by first | decide | omega, Or.inl rfl⟩) (by rw [up_e]; first | decide | omega)
        refine ⟨v', z1, f3.tr z2, ?_, z3, ?_⟩
        · rw [z4, up_i (by first | decide | omega), up_i (by first | decide | omega)]; exact g10
        · rw [z5]
          exact Or.inr (Or.inr (Or.inr (Or.inl ⟨rfl, rfl, z6⟩)))
      · simp only [if_neg (show ¬ (q < S ∧ isDg (t q) = true) from fun z => c3 z.2), if_neg c3, if_true]
        obtain ⟨v', z1, z2, z3, z4, z5⟩ := r_sgn hu (q := q) (by first | decide | omega) g7
        rw [z1, bs1]
        exact ⟨v', rfl, f2.tr z2, by rw [z4]; exact g10, z3, z5⟩
/-- the class is about to read the token that the reference holds -/
def PreR (m v : Mem) (S : Int) : Prop := TPx v (m 1) S ∧ m 47 1 = 1 ∧ m 47 2 = S ∧ ((∀ i : Nat, i < 24 → m 48 i = lgW.getD i 0) ∧ (m 46 8 = v 0 4 ∧ m 46 9 = v 0 5)) ∧ (0 ≤ m 47 3 ∧ m 47 3 ≤ S) ∧ v 0 10 = tkp (m 1) S (m 47 3) ∧ v 0 7 = tqn (m 1) S (tkp (m 1) S (m 47 3)) ∧ KR (tqt (m 1) S (tkp (m 1) S (m 47 3))) (tqv (m 1) S (tkp (m 1) S (m 47 3))) (v 0 8) (v 0 9)
/-- both hold the same token -/
def PostR (m v : Mem) (S : Int) : Prop := TPx v (m 1) S ∧ m 47 1 = 1 ∧ m 47 2 = S ∧ ((∀ i : Nat, i < 24 → m 48 i = lgW.getD i 0) ∧ (m 46 8 = v 0 4 ∧ m 46 9 = v 0 5)) ∧ (0 ≤ m 47 3 ∧ m 47 3 ≤ S) ∧ v 0 10 = m 47 5 ∧ v 0 7 = m 47 3 ∧ KR (m 47 4) (m 47 6) (v 0 8) (v 0 9)
theorem tqn_b {t : Int → Int} {S q : Int} (h : 0 ≤ q ∧ q ≤ S) : q ≤ tqn t S q ∧ tqn t S q ≤ S ∧ (tqt t S q ≠ 39 → q < tqn t S q) := by
  unfold tqn tqt
  by_cases c1 : S ≤ q
  · rw [if_pos c1, if_pos c1]; exact ⟨by first | decide | omega, by first | decide | omega, fun z => absurd rfl z⟩
  · rw [if_neg c1]
    by_cases c2 : isLt (t q) = true
    · rw [if_pos c2]
      obtain ⟨r1, r2, _, r4⟩ := rr_spec (f := fun i => isLt (t i)) h.2
      have e : lte t S q = rr (fun i => isLt (t i)) S q := rfl
      rw [e]
      have hne : rr (fun i => isLt (t i)) S q ≠ q := fun z => r4 (by first | decide | omega) (by rw [z]; exact c2)
      exact ⟨r1, r2, fun _ => by first | decide | omega⟩
    · rw [if_neg c2]
      by_cases c3 : isDg (t q) = true
      · rw [if_pos c3]
        obtain ⟨r1, r2, _, r4⟩ := rr_spec (f := fun i => isDg (t i)) h.2
        have e : dge t S q = rr (fun i => isDg (t i)) S q := rfl
        rw [e]
        have hne : rr (fun i => isDg (t i)) S q ≠ q := fun z => r4 (by first | decide | omega) (by rw [z]; exact c3)
        exact ⟨r1, r2, fun _ => by first | decide | omega⟩
      · rw [if_neg c3]
        have : sgA (t q) (chN t S q) = 1 ∨ (sgA (t q) (chN t S q) = 2 ∧ q + 1 < S) := by
          unfold sgA chN
          by_cases d : q + 1 < S
          · simp only [if_pos d]
            split
            · split
              · right; exact ⟨rfl, d⟩
              · split
                · right; exact ⟨rfl, d⟩
                · left; rfl
            · split
              · split
                · right; exact ⟨rfl, d⟩
                · left; rfl
              · left; rfl
          · simp only [if_neg d, if_neg (show ¬ (0 : Int) = 61 by first | decide | omega), if_neg (show ¬ (0 : Int) = 62 by first | decide | omega)]
            left
            split
            · rfl
            · split <;> rfl
        omega
theorem PreR.adv (h : PreR m v S) : ∃ m', G7_advance m = some m' ∧ Fm P47 m m' ∧ PostR m' v S ∧ m 47 3 ≤ m' 47 3 ∧ (m' 47 4 ≠ 39 → m 47 3 < m' 47 3) := by
  obtain ⟨h1, h2, h3, h4, h5, h6, h7, h8⟩ := h
  obtain ⟨m', e, f, k1, k2, k3, k4⟩ := c_advS (t := m 1) h1.1 h5 h2 h3 rfl rfl h4.1
  obtain ⟨q1, q2, _, _⟩ := rr_spec (f := fun i => isBl (m 1 i)) h5.2
  have q1' : m 47 3 ≤ tkp (m 1) S (m 47 3) := q1
  have q2' : tkp (m 1) S (m 47 3) ≤ S := q2
  have hb := tqn_b (t := m 1) (S := S) (q := tkp (m 1) S (m 47 3)) (by first | decide | omega)
  have e1 : m' 1 = m 1 := f.rw1 (fun i => by unfold P47; first | decide | omega)
  have e48 : m' 48 = m 48 := f.rw1 (fun i => by unfold P47; first | decide | omega)
  refine ⟨m', e, f, ⟨by rw [e1]; exact h1, by rw [f 47 1 (by unfold P47; first | decide | omega)]; exact h2, by rw [f 47 2 (by unfold P47; first | decide | omega)]; exact h3, by rw [e48, f 46 8 (by unfold P47; first | decide | omega), f 46 9 (by unfold P47; first | decide | omega)]; exact h4, by first | decide | omega, by rw [k1]; exact h6, by rw [k4]; exact h7, by rw [k2, k3]; exact h8⟩, by first | decide | omega, fun z => ?_⟩
  rw [k2] at z
  have := hb.2.2 z
  omega
theorem PostR.tok (h : PostR m v S) : ∃ v', G12_token v = some v' ∧ Fm Q7 v v' ∧ PreR m v' S := by
  obtain ⟨h1, h2, h3, h4, h5, h6, h7, h8⟩ := h
  obtain ⟨v', e, f, k1, k2, k3⟩ := r_tokS h1 h5 h7
  exact ⟨v', e, f, h1.q f, h2, h3, ⟨h4.1, by rw [f 0 4 (by unfold Q7; first | decide | omega), f 0 5 (by unfold Q7; first | decide | omega)]; exact h4.2⟩, h5, k1, k2, k3⟩
/-- what is otherwise changed leaves both alone -/
theorem PreR.f {m m' v v' : Mem} {P Q : Nat → Int → Prop} (h : PreR m v S) (f : Fm P m m') (g : Fm Q v v') (hp : ∀ b i, b = 1 ∨ b = 47 ∨ b = 48 ∨ (b = 46 ∧ (i = 8 ∨ i = 9)) → ¬ P b i) (hq : ∀ b i, (b = 0 ∧ 4 ≤ i ∧ i ≤ 10) ∨ b = 1 ∨ b = 2 → ¬ Q b i) : PreR m' v' S := by
  obtain ⟨h1, h2⟩ := h
  unfold PreR
  rw [f.rw1 (fun i => hp 1 i (by first | decide | omega)), f.rw1 (fun i => hp 47 i (by first | decide | omega)), f.rw1 (fun i => hp 48 i (by first | decide | omega)), f 46 8 (hp _ _ (by first | decide | omega)), f 46 9 (hp _ _ (by first | decide | omega)), g 0 4 (hq _ _ (by first | decide | omega)), g 0 5 (hq _ _ (by first | decide | omega)), g 0 10 (hq _ _ (by first | decide | omega)), g 0 7 (hq _ _ (by first | decide | omega)), g 0 8 (hq _ _ (by first | decide | omega)), g 0 9 (hq _ _ (by first | decide | omega))]
  exact ⟨h1.f g (by intro b i q; exact hq b i (by first | decide | omega)), h2⟩
theorem PostR.f {m m' v v' : Mem} {P Q : Nat → Int → Prop} (h : PostR m v S) (f : Fm P m m') (g : Fm Q v v') (hp : ∀ b i, b = 1 ∨ b = 47 ∨ b = 48 ∨ (b = 46 ∧ (i = 8 ∨ i = 9)) → ¬ P b i) (hq : ∀ b i, (b = 0 ∧ 4 ≤ i ∧ i ≤ 10) ∨ b = 1 ∨ b = 2 → ¬ Q b i) : PostR m' v' S := by
  obtain ⟨h1, h2⟩ := h
  unfold PostR
  rw [f.rw1 (fun i => hp 1 i (by first | decide | omega)), f.rw1 (fun i => hp 47 i (by first | decide | omega)), f.rw1 (fun i => hp 48 i (by first | decide | omega)), f 46 8 (hp _ _ (by first | decide | omega)), f 46 9 (hp _ _ (by first | decide | omega)), g 0 4 (hq _ _ (by first | decide | omega)), g 0 5 (hq _ _ (by first | decide | omega)), g 0 10 (hq _ _ (by first | decide | omega)), g 0 7 (hq _ _ (by first | decide | omega)), g 0 8 (hq _ _ (by first | decide | omega)), g 0 9 (hq _ _ (by first | decide | omega))]
  exact ⟨h1.f g (by intro b i q; exact hq b i (by first | decide | omega)), h2⟩
end Q23
/-! Reading a text: numbers, the draft on both sides. -/
def Pk : Nat → Int → Prop := fun b i => (b = 47 ∧ 3 ≤ i) ∨ (b = 46 ∧ (i = 8 ∨ i = 9))
def Qk : Nat → Int → Prop := fun b i => b = 0 ∧ (i = 4 ∨ i = 5 ∨ (7 ≤ i ∧ i ≤ 11))
/-- the same fault at the same place -/
def FLT (m v : Mem) : Prop := m 46 8 = v 0 4 ∧ m 46 9 = v 0 5
theorem P47_k : ∀ b i, P47 b i → Pk b i := by intro b i h; unfold P47 at h; unfold Pk; omega
theorem Q7_k : ∀ b i, Q7 b i → Qk b i := by intro b i h; unfold Q7 at h; unfold Qk; omega
section Q24
variable {m v m' v' : Mem} {S : Int} {D : Nat}
theorem c_ref (m : Mem) (x : Int) : G5_refuse m x = some (0, up (up m 46 8 x) 46 9 (m 47 5)) := by
  unfold G5_refuse G5_refuse_0
  rw [wt_e, wt_e, up_a (by first | decide | omega)]
theorem r_wrong (v : Mem) (x : Int) : G12_wrong v x = some (0, up (up v 0 4 x) 0 5 (v 0 10)) := by
  unfold G12_wrong G12_wrong_0
  rw [wt_e, wt_e, up_i (by first | decide | omega)]
theorem flt (m v : Mem) (x : Int) {p q : Int} (h : p = q) : FLT (up (up m 46 8 x) 46 9 p) (up (up v 0 4 x) 0 5 q) ∧ Fm Pk m (up (up m 46 8 x) 46 9 p) ∧ Fm Qk v (up (up v 0 4 x) 0 5 q) := by
  refine ⟨⟨?_, ?_⟩, (Fm.w1 (by unfold Pk; first | decide | omega)).w (by unfold Pk; first | decide | omega), (Fm.w1 (by unfold Qk; first | decide | omega)).w (by unfold Qk; first | decide | omega)⟩
  · rw [up_i (by first | decide | omega), up_e, up_i (by first | decide | omega), up_e]
  · rw [up_e, up_e]; exact h
/-- a number is asked for, both hold the token -/
theorem n_tk (h : PostR m v S) {lo hi : Int} (hb : 0 ≤ lo ∧ hi ≤ 99999) : ∃ m' v', Fm Pk m m' ∧ Fm Qk v v' ∧ m' 47 3 = m 47 3 ∧ ((∃ x, lo ≤ x ∧ x ≤ hi ∧ m 47 4 = 25 ∧ G5_takenNumber m lo hi = some (x, m') ∧ G12_number v lo hi = some (1, v') ∧ v' 0 11 = x ∧ PreR m' v' S) ∨ (G5_takenNumber m lo hi = some (-1, m') ∧ G12_number v lo hi = some (0, v') ∧ FLT m' v' ∧ m' 46 8 = (if m 47 4 = 25 then 2 else 1))) := by
  have hk := h.2.2.2.2.2.2.2
  have h10 := h.2.2.2.2.2.1
  have r3 : ∀ x p, up (up m 46 8 x) 46 9 p 47 3 = m 47 3 := fun x p => by rw [up_a (by first | decide | omega), up_a (by first | decide | omega)]
  have r8 : ∀ x p, up (up m 46 8 x) 46 9 p 46 8 = x := fun x p => by rw [up_i (by first | decide | omega), up_e]
  unfold G5_takenNumber G5_takenNumber_0 G5_takenNumber_42 G12_number G12_number_0
  by_cases c : m 47 4 = 25
  · have hN : v 0 8 = 3 ∧ NumR (m 47 6) (v 0 9) := by unfold KR SGN NumR at hk; unfold NumR; omega
    obtain ⟨e8, n1, n2, n3⟩ := hN
    rw [if_pos c, if_pos e8, r_isIn, bs1, if_pos c]
    by_cases c2 : lo ≤ v 0 9 ∧ v 0 9 ≤ hi
    · have e6 : m 47 6 = v 0 9 := by omega
      simp only [if_pos c2, if_neg i10]
      have f1 : Fm Qk v (up v 0 11 (v 0 9)) := Fm.w1 (by unfold Qk; first | decide | omega)
      have h1 : PostR m (up v 0 11 (v 0 9)) S := h.f (P := fun _ _ => False) (Q := fun b i => b = 0 ∧ i = 11) Fm.rf (Fm.w1 ⟨rfl, rfl⟩) (fun _ _ _ => id) (by intro b i q; first | decide | omega)
      obtain ⟨v', z1, z2, z3⟩ := h1.tok
      rw [wt_e, z1, bs1, if_neg (by first | decide | omega), if_pos (by first | decide | omega)]
      refine ⟨m, v', Fm.rf, f1.tr (z2.mono Q7_k), rfl, Or.inl ⟨v 0 9, c2.1, c2.2, c, by rw [e6], rfl, ?_, z3⟩⟩
      rw [z2 0 11 (by unfold Q7; first | decide | omega), up_e]
    · simp only [if_neg c2, if_true]
      have e2 : (if m 47 6 < lo then (G5_refuse m 2).bind fun o1 => some (-1, o1.2) else if m 47 6 ≤ hi then some (m 47 6, m) else (G5_refuse m 2).bind fun o1 => some (-1, o1.2)) = some (-1, up (up m 46 8 2) 46 9 (m 47 5)) := by
        rw [c_ref, bs1]
        by_cases c3 : m 47 6 < lo
        · rw [if_pos c3]
        · rw [if_neg c3, if_neg (by first | decide | omega)]
      rw [e2, r_wrong, bs1, gdb_t (by first | decide | omega)]
      obtain ⟨q1, q2, q3⟩ := flt m v 2 (show m 47 5 = v 0 10 from h10.symm)
      exact ⟨_, _, q2, q3, r3 _ _, Or.inr ⟨rfl, rfl, q1, r8 _ _⟩⟩
  · have e8 : ¬ v 0 8 = 3 := by unfold KR SGN NumR at hk; omega
    rw [if_neg c, if_neg e8, c_ref, bs1, r_wrong, bs1, gdb_t (by first | decide | omega), if_neg c]
    obtain ⟨q1, q2, q3⟩ := flt m v 1 (show m 47 5 = v 0 10 from h10.symm)
    exact ⟨_, _, q2, q3, r3 _ _, Or.inr ⟨rfl, rfl, q1, r8 _ _⟩⟩
/-- a number is asked for, the class has still to read it -/
theorem n_in (h : PreR m v S) {lo hi : Int} (hb : 0 ≤ lo ∧ hi ≤ 99999) : ∃ m' v', Fm Pk m m' ∧ Fm Qk v v' ∧ m 47 3 ≤ m' 47 3 ∧ ((∃ x, lo ≤ x ∧ x ≤ hi ∧ G5_numberIn m lo hi = some (x, m') ∧ G12_number v lo hi = some (1, v') ∧ v' 0 11 = x ∧ PreR m' v' S ∧ m' 47 5 = v 0 10) ∨ (G5_numberIn m lo hi = some (-1, m') ∧ G12_number v lo hi = some (0, v') ∧ FLT m' v')) := by
  obtain ⟨m1, e1, f1, h1, p1, _⟩ := h.adv
  obtain ⟨m', v', f2, f3, p2, k⟩ := n_tk h1 hb
  unfold G5_numberIn G5_numberIn_0
  rw [e1, bs1]
  refine ⟨m', v', (f1.mono P47_k).tr f2, f3, by first | decide | omega, ?_⟩
  rcases k with ⟨x, a1, a2, c, a3, a4, a5, a6⟩ | ⟨a1, a2, a3, _⟩
  · rw [a3, bs1]
    refine Or.inl ⟨x, a1, a2, rfl, a4, a5, a6, ?_⟩
    have e3 : m' = m1 := by
      unfold G5_takenNumber G5_takenNumber_0 G5_takenNumber_42 at a3
      rw [if_pos c, c_ref, bs1] at a3
      split at a3
      · injection a3 with a3; injection a3 with a3 _; omega
      · split at a3
        · injection a3 with a3; injection a3 with _ a3; exact a3.symm
        · injection a3 with a3; injection a3 with a3 _; omega
    rw [e3]; exact h1.2.2.2.2.2.1.symm
  · rw [a1, bs1]
    exact Or.inr ⟨rfl, a2, a3⟩
/-- the sign behind a line -/
theorem n_stop (h : PreR m v S) : ∃ m' v', Fm Pk m m' ∧ Fm Qk v v' ∧ m 47 3 ≤ m' 47 3 ∧ ((G5_readStop m = some (1, m') ∧ G12_lineRead_197 v 1 = some (1, v') ∧ PreR m' v' S) ∨ (G5_readStop m = some (0, m') ∧ G12_lineRead_197 v 1 = some (0, v') ∧ FLT m' v')) := by
  obtain ⟨m1, e1, f1, h1, p1, _⟩ := h.adv
  have hk := h1.2.2.2.2.2.2.2
  unfold G5_readStop G5_readStop_0 G12_lineRead_197 G12_isSign G12_isSign_0
  rw [e1, bs1, if_neg i10]
  by_cases c : m1 47 4 = 38
  · have e8 : v 0 8 = 4 ∧ v 0 9 = 59 := by unfold KR SGN NumR at hk; omega
    rw [if_pos c, if_pos e8.1, if_pos e8.2, bs1]
    simp only [if_neg i10]
    obtain ⟨v', z1, z2, z3⟩ := h1.tok
    rw [z1, bs1]
    exact ⟨m1, v', f1.mono P47_k, z2.mono Q7_k, by first | decide | omega, Or.inl ⟨rfl, rfl, z3⟩⟩
  · have e8 : (if v 0 8 = 4 then if v 0 9 = 59 then some ((1 : Int), v) else some (0, v) else some (0, v)) = some (0, v) := by
      by_cases a : v 0 8 = 4
      · have : ¬ v 0 9 = 59 := by unfold KR SGN NumR at hk; omega
        rw [if_pos a, if_neg this]
      · rw [if_neg a]
    rw [if_neg c, e8, bs1]
    simp only [if_true]
    rw [c_ref, bs1, r_wrong, bs1, gdb_t (by first | decide | omega)]
    simp only [if_true]
    obtain ⟨q1, q2, q3⟩ := flt m1 v 1 (show m1 47 5 = v 0 10 from h1.2.2.2.2.2.1.symm)
    exact ⟨_, _, (f1.mono P47_k).tr q2, q3, by rw [up_a (by first | decide | omega), up_a (by first | decide | omega)]; first | decide | omega, Or.inr ⟨rfl, rfl, q1⟩⟩
/-- where the draft lies -/
def sh (b : Nat) (i : Int) : Int := if b = 0 then i + 6 else if b = 4 then 7 + i else if b ≤ 10 then 5 + i else if b = 11 then 4 + i else if b ≤ 14 then 28 + i else if b ≤ 17 then 3 + i else if b ≤ 20 then 64 + i else i
def kd (v : Mem) : Mem := fun b i => v b (sh b i)
theorem kd_f {Q : Nat → Int → Prop} (f : Fm Q v v') : Fm (fun b i => Q b (sh b i)) (kd v) (kd v') := fun b i q => f b (sh b i) q
/-- is this bit told -/
def tb (x k : Int) : Int := b3an x (b3sl 1 (b3an k 31))
def ONC (m v : Mem) : Prop := (tb (m 46 6) 0 = 0 ↔ v 3 0 = 0) ∧ (tb (m 46 6) 1 = 0 ↔ v 3 1 = 0) ∧ (tb (m 46 6) 4 = 0 ↔ v 3 2 = 0) ∧ (tb (m 46 6) 5 = 0 ↔ v 3 3 = 0) ∧ (tb (m 46 6) 6 = 0 ↔ v 3 4 = 0)
def CTL (m v w : Mem) : Prop := (m 46 7 = 0 ∨ m 46 7 = 1) ∧ v 0 24 = m 46 7 ∧ (m 46 7 = 0 → w 1 0 = 0 ∧ w 0 2 = 0 ∧ w 0 3 = 0)
/-- told laws end before what is read next -/
def LB (v : Mem) : Prop := ∀ k, 3 ≤ k → k ≤ 5 → v 15 k = 1 → v 17 k ≤ v 0 23
theorem LB.f {v v' : Mem} (h : LB v) {Q : Nat → Int → Prop} (g : Fm Q v v') (hq : ∀ b i, (b = 0 ∧ i = 23) ∨ b = 15 ∨ b = 17 → ¬ Q b i) : LB v' := by
  unfold LB
  rw [g.rw1 (b := 15) (fun i => hq _ _ (by first | decide | omega)), g.rw1 (b := 17) (fun i => hq _ _ (by first | decide | omega)), g 0 23 (hq _ _ (by first | decide | omega))]
  exact h
def DI (m v : Mem) (D : Nat) : Prop := ((D = 2 ∨ D = 24) ∧ m 46 10 = (D : Int)) ∧ WW (sl 21 m D) ∧ RT (kd v) (sl 21 m D) ∧ CTL m v (sl 21 m D) ∧ ONC m v ∧ v 0 49 = sl 21 m D 0 13 ∧ LB v
/-- what reading changes -/
def PX (D : Nat) : Nat → Int → Prop := fun b i => (D ≤ b ∧ b ≤ D + 21) ∨ (b = 46 ∧ 2 ≤ i ∧ i ≤ 9) ∨ (b = 47 ∧ 3 ≤ i) ∨ b = 50
def QX : Nat → Int → Prop := fun b i => (b = 0 ∧ ((4 ≤ i ∧ i ≤ 5) ∨ (7 ≤ i ∧ i ≤ 11) ∨ (18 ≤ i ∧ i ≤ 24) ∨ i = 43 ∨ (46 ≤ i ∧ i ≤ 51))) ∨ b = 3 ∨ (b = 4 ∧ 7 ≤ i) ∨ ((5 ≤ b ∧ b ≤ 10) ∧ 5 ≤ i) ∨ (b = 11 ∧ 4 ≤ i) ∨ ((12 ≤ b ∧ b ≤ 14) ∧ 28 ≤ i) ∨ ((15 ≤ b ∧ b ≤ 17) ∧ 3 ≤ i) ∨ ((18 ≤ b ∧ b ≤ 20) ∧ 64 ≤ i) ∨ b = 21 ∨ b = 22
theorem Pk_x : ∀ b i, Pk b i → PX D b i := by intro b i h; unfold Pk at h; unfold PX; omega
theorem Qk_x : ∀ b i, Qk b i → QX b i := by intro b i h; unfold Qk at h; unfold QX; omega
/-- how a line ends on both sides -/
def LOut (X Y : Option (Int × Mem)) (m v : Mem) (D : Nat) (S : Int) : Prop := ∃ m' v', Fm (PX D) m m' ∧ Fm QX v v' ∧ m 47 3 ≤ m' 47 3 ∧ ((X = some (1, m') ∧ Y = some (1, v') ∧ DI m' v' D ∧ PreR m' v' S ∧ m' D 12 = m D 12) ∨ (X = some (0, m') ∧ Y = some (0, v') ∧ FLT m' v'))
theorem DI.k (h : DI m v D) (f : Fm Pk m m') (g : Fm Qk v v') : DI m' v' D := by
  obtain ⟨h1, h2, h3, h4, h5, h6⟩ := h
  have ew : sl 21 m' D = sl 21 m D := sl_c (fun b x y => f.rw1 (fun i => by unfold Pk; first | decide | omega))
  unfold DI CTL ONC
  rw [ew, f 46 10 (by unfold Pk; first | decide | omega), f 46 7 (by unfold Pk; first | decide | omega), f 46 6 (by unfold Pk; first | decide | omega), g 0 24 (by unfold Qk; first | decide | omega), g.rw1 (b := 3) (fun i => by unfold Qk; first | decide | omega), g 0 49 (by unfold Qk; first | decide | omega)]
  exact ⟨h1, h2, h3.fr (kd_f g) (by intro b i q; unfold Qk sh; rcases q with ⟨q, _⟩ | q; (subst q; simp only [if_true]; first | decide | omega); first | decide | omega), h4, h5, h6.1, h6.2.f g (by intro b i q; unfold Qk; first | decide | omega)⟩
/-- a line ends with a fault -/
theorem lo_flt {X Y : Option (Int × Mem)} (h : ∃ m' v', Fm Pk m m' ∧ Fm Qk v v' ∧ m 47 3 ≤ m' 47 3 ∧ X = some (0, m') ∧ Y = some (0, v') ∧ FLT m' v') : LOut X Y m v D S := by
  obtain ⟨m', v', f, g, p, e1, e2, e3⟩ := h
  exact ⟨m', v', f.mono Pk_x, g.mono Qk_x, p, Or.inr ⟨e1, e2, e3⟩⟩
/-- a line goes on from another memory -/
theorem lo_tr {X Y : Option (Int × Mem)} {m1 v1 : Mem} (h : LOut X Y m1 v1 D S) (f : Fm (PX D) m m1) (g : Fm QX v v1) (p : m 47 3 ≤ m1 47 3) (e : m1 D 12 = m D 12) : LOut X Y m v D S := by
  obtain ⟨m', v', f', g', p', k⟩ := h
  refine ⟨m', v', f.tr f', g.tr g', by first | decide | omega, ?_⟩
  rcases k with ⟨a1, a2, a3, a4, a5⟩ | k
  · exact Or.inl ⟨a1, a2, a3, a4, by rw [a5]; exact e⟩
  · exact Or.inr k
/-- the last of a line: the stop -/
theorem lo_stop (hD : DI m v D) (h : PreR m v S) : LOut ((G5_readStop m).bind fun o => gdb o.1 (some (o.1, o.2))) (G12_lineRead_197 v 1) m v D S := by
  obtain ⟨m', v', f, g, p, k⟩ := n_stop h
  have hDD := hD.1.1
  refine ⟨m', v', f.mono Pk_x, g.mono Qk_x, p, ?_⟩
  rcases k with ⟨a1, a2, a3⟩ | ⟨a1, a2, a3⟩
  · rw [a1, bs1, gdb_t (by first | decide | omega)]
    exact Or.inl ⟨rfl, a2, hD.k f g, a3, f D 12 (by unfold Pk; first | decide | omega)⟩
  · rw [a1, bs1, gdb_t (by first | decide | omega)]
    exact Or.inr ⟨rfl, a2, a3⟩
end Q24
/-! Lines that come once: sea, peak, bank, rule, seed. -/
theorem i_andor (a b c : Int32) : (a ||| b) &&& c = (a &&& c) ||| (b &&& c) := by
  apply Int32.toBitVec_inj.mp
  simp only [Int32.toBitVec_and, Int32.toBitVec_or]
  apply BitVec.eq_of_getLsbD_eq
  intro i hi
  simp only [BitVec.getLsbD_and, BitVec.getLsbD_or]
  cases a.toBitVec.getLsbD i <;> cases b.toBitVec.getLsbD i <;> simp
theorem i_orabs (a b : Int32) : (a ||| b) &&& b = b := by
  apply Int32.toBitVec_inj.mp
  simp only [Int32.toBitVec_and, Int32.toBitVec_or]
  apply BitVec.eq_of_getLsbD_eq
  intro i hi
  simp only [BitVec.getLsbD_and, BitVec.getLsbD_or]
  cases a.toBitVec.getLsbD i <;> cases b.toBitVec.getLsbD i <;> simp
theorem an_or_ne (x B C : Int) (h : Z3 B &&& Z3 C = 0) : b3an (b3or x B) C = b3an x C := by
  unfold b3an
  rw [z_or, i_andor, h, Int32.or_zero]
theorem an_or_eq (x B : Int) : b3an (b3or x B) B = (Z3 B).toInt := by
  unfold b3an
  rw [z_or, i_orabs]
theorem tb_1 : ∀ k : Int, k = 0 ∨ k = 1 ∨ k = 4 ∨ k = 5 ∨ k = 6 → (Z3 (b3sl 1 (b3an k 31))).toInt ≠ 0 := by
  rintro k (rfl | rfl | rfl | rfl | rfl) <;> decide
theorem tb_2 : ∀ j k : Int, (j = 0 ∨ j = 1 ∨ j = 4 ∨ j = 5 ∨ j = 6) → (k = 0 ∨ k = 1 ∨ k = 4 ∨ k = 5 ∨ k = 6) → j ≠ k → Z3 (b3sl 1 (b3an j 31)) &&& Z3 (b3sl 1 (b3an k 31)) = 0 := by
  rintro j k (rfl | rfl | rfl | rfl | rfl) (rfl | rfl | rfl | rfl | rfl) h <;> first | (exact absurd rfl h) | decide
section Q25
variable {m v m' v' w w' u u' : Mem} {S : Int} {D : Nat}
theorem c_first (m : Mem) (c : Int) : G5_isFirst m c = if tb (m 46 6) c = 0 then some (1, up m 46 6 (b3or (m 46 6) (b3sl 1 (b3an c 31)))) else some (0, up (up m 46 8 3) 46 9 (m 47 5)) := by
  unfold G5_isFirst G5_isFirst_0 tb
  rw [c_ref, bs1, gdb_t (by first | decide | omega), wt_e]
/-- which bit stands for which place -/
def crp (c r : Int) : Prop := (c = 0 ∧ r = 0) ∨ (c = 1 ∧ r = 1) ∨ (c = 4 ∧ r = 2) ∨ (c = 5 ∧ r = 3) ∨ (c = 6 ∧ r = 4)
theorem onc_at (h : ONC m v) {c r : Int} (hc : crp c r) : tb (m 46 6) c = 0 ↔ v 3 r = 0 := by
  obtain ⟨h1, h2, h3, h4, h5⟩ := h
  rcases hc with ⟨a, b⟩ | ⟨a, b⟩ | ⟨a, b⟩ | ⟨a, b⟩ | ⟨a, b⟩ <;> rw [a, b] <;> assumption
theorem onc_set (h : ONC m v) {c r : Int} (hc : crp c r) : ONC (up m 46 6 (b3or (m 46 6) (b3sl 1 (b3an c 31)))) (up v 3 r 1) := by
  have one : ∀ k s, crp k s → (tb (up m 46 6 (b3or (m 46 6) (b3sl 1 (b3an c 31))) 46 6) k = 0 ↔ up v 3 r 1 3 s = 0) := by
    intro k s hk
    have hkv : k = 0 ∨ k = 1 ∨ k = 4 ∨ k = 5 ∨ k = 6 := by unfold crp at hk; omega
    have hcv : c = 0 ∨ c = 1 ∨ c = 4 ∨ c = 5 ∨ c = 6 := by unfold crp at hc; omega
    rw [up_e]
    by_cases e : k = c
    · have es : s = r := by unfold crp at hk hc; omega
      subst e
      subst es
      rw [up_e]
      unfold tb
      rw [an_or_eq]
      exact ⟨fun q => absurd q (tb_1 k hkv), fun q => by first | decide | omega⟩
    · have es : s ≠ r := by unfold crp at hk hc; omega
      rw [up_i es]
      unfold tb
      rw [an_or_ne _ _ _ (tb_2 c k hcv hkv (fun q => e q.symm))]
      exact onc_at h hk
  refine ⟨one 0 0 ?_, one 1 1 ?_, one 4 2 ?_, one 5 3 ?_, one 6 4 ?_⟩ <;> (unfold crp; first | decide | omega)
theorem RLw.fr3 {k : Int} {a b : Nat} (h : RLw u w k a b) (e : ∀ c : Nat, 15 ≤ c → c ≤ 20 → u' c = u c) (ea : w' a = w a) (eb : w' b = w b) : RLw u' w' k a b := by
  obtain ⟨h1, h2, h3, h4⟩ := h
  unfold RLw
  rw [e 15 (by first | decide | omega) (by first | decide | omega), e 16 (by first | decide | omega) (by first | decide | omega), e 17 (by first | decide | omega) (by first | decide | omega), ea, eb]
  refine ⟨h1, h2, h3, fun q => ?_⟩
  obtain ⟨g1, g2, g3, g4, g5⟩ := h4 q
  exact ⟨g1, g2, g3, g4, fun j hj => (g5 j hj).fr (e 18 (by first | decide | omega) (by first | decide | omega)) (e 19 (by first | decide | omega) (by first | decide | omega)) (e 20 (by first | decide | omega) (by first | decide | omega))⟩
/-- a line that changes numbers of the told only -/
theorem RT.flds (h : RT u w) (hw : ∀ c : Nat, 1 ≤ c → w' c = w c) (h13 : w' 0 13 = w 0 13) (hu : ∀ c : Nat, 5 ≤ c → c ≤ 20 → u' c = u c) (hu0 : ∀ i, 14 ≤ i → i ≤ 17 → u' 0 i = u 0 i) (n1 : u' 0 12 = w' 0 0 ∧ u' 0 13 = w' 0 1) (n2 : u' 4 0 = w' 0 2 ∧ u' 4 1 = w' 0 3 ∧ u' 4 2 = w' 0 6 ∧ u' 4 3 = w' 0 7 ∧ u' 4 4 = w' 0 8 ∧ u' 4 5 = w' 0 9 ∧ u' 4 6 = w' 0 10) : RT u' w' := by
  obtain ⟨⟨a1, a2, a3, a4, a5, a6⟩, b, c, d, e, f1, f2, f3⟩ := h
  refine ⟨⟨n1.1, n1.2, ?_, ?_, ?_, ?_⟩, n2, ?_, ?_, ?_, f1.fr3 (fun c p q => hu c (by first | decide | omega) q) (hw 16 (by first | decide | omega)) (hw 17 (by first | decide | omega)), f2.fr3 (fun c p q => hu c (by first | decide | omega) q) (hw 18 (by first | decide | omega)) (hw 19 (by first | decide | omega)), f3.fr3 (fun c p q => hu c (by first | decide | omega) q) (hw 20 (by first | decide | omega)) (hw 21 (by first | decide | omega))⟩
  · rw [hu0 14 (by first | decide | omega) (by first | decide | omega), hw 1 (by first | decide | omega)]; exact a3
  · rw [hu0 15 (by first | decide | omega) (by first | decide | omega), hw 8 (by first | decide | omega)]; exact a4
  · rw [hu0 16 (by first | decide | omega) (by first | decide | omega), hw 8 (by first | decide | omega)]; exact a5
  · rw [hu0 17 (by first | decide | omega) (by first | decide | omega), h13]; exact a6
  · rw [hu 5 (by first | decide | omega) (by first | decide | omega), hu 6 (by first | decide | omega) (by first | decide | omega), hu 7 (by first | decide | omega) (by first | decide | omega), hu 8 (by first | decide | omega) (by first | decide | omega), hu 9 (by first | decide | omega) (by first | decide | omega), hu 10 (by first | decide | omega) (by first | decide | omega), hw 1 (by first | decide | omega), hw 2 (by first | decide | omega), hw 3 (by first | decide | omega), hw 4 (by first | decide | omega), hw 5 (by first | decide | omega), hw 6 (by first | decide | omega), hw 7 (by first | decide | omega)]; exact c
  · rw [hu 11 (by first | decide | omega) (by first | decide | omega), hw 8 (by first | decide | omega), hw 9 (by first | decide | omega)]; exact d
  · rw [hu 12 (by first | decide | omega) (by first | decide | omega), hu 13 (by first | decide | omega) (by first | decide | omega), hu 14 (by first | decide | omega) (by first | decide | omega), hw 8 (by first | decide | omega), hw 11 (by first | decide | omega), hw 12 (by first | decide | omega), hw 13 (by first | decide | omega)]; exact e
theorem WW.flds (h : WW w) (hw : ∀ c : Nat, 1 ≤ c → w' c = w c) (hS : WS w') (hc : ∀ i, 0 ≤ i → i < w 1 0 → w 3 i < w' 0 0 * w' 0 1) : WW w' := by
  obtain ⟨_, h2, h3, h4, h5⟩ := h
  refine ⟨hS, ?_, ?_, ?_, ?_⟩
  · unfold WC
    rw [hw 1 (by first | decide | omega), hw 3 (by first | decide | omega), hw 4 (by first | decide | omega), hw 5 (by first | decide | omega), hw 6 (by first | decide | omega), hw 7 (by first | decide | omega)]
    exact fun i p q => ⟨⟨(h2 i p q).1.1, hc i p q⟩, (h2 i p q).2⟩
  · unfold WT
    rw [hw 8 (by first | decide | omega), hw 9 (by first | decide | omega), hw 10 (by first | decide | omega)]; exact h3
  · unfold WV
    rw [hw 8 (by first | decide | omega), hw 9 (by first | decide | omega), hw 10 (by first | decide | omega), hw 11 (by first | decide | omega), hw 12 (by first | decide | omega), hw 13 (by first | decide | omega), hw 14 (by first | decide | omega)]; exact h4
  · unfold WLX
    rw [hw 16 (by first | decide | omega), hw 17 (by first | decide | omega), hw 18 (by first | decide | omega), hw 19 (by first | decide | omega), hw 20 (by first | decide | omega), hw 21 (by first | decide | omega)]; exact h5
theorem lo_gdb {X Y : Option (Int × Mem)} (h : LOut X Y m v D S) : LOut (X.bind fun o => gdb o.1 (some (o.1, o.2))) Y m v D S := by
  obtain ⟨m', v', f, g, p, k⟩ := h
  refine ⟨m', v', f, g, p, ?_⟩
  rcases k with ⟨a1, a2⟩ | ⟨a1, a2⟩
  · rw [a1, bs1, gdb_t (by first | decide | omega)]; exact Or.inl ⟨rfl, a2⟩
  · rw [a1, bs1, gdb_t (by first | decide | omega)]; exact Or.inr ⟨rfl, a2⟩
theorem r197 (v : Mem) : G12_lineRead_197 v 0 = some (0, v) := by unfold G12_lineRead_197; rw [if_pos rfl]
/-- a fault where the token is held -/
theorem lo_ref {X Y : Option (Int × Mem)} (h : PostR m v S) (x : Int) (hX : X = some (0, up (up m 46 8 x) 46 9 (m 47 5))) (hY : Y = some (0, up (up v 0 4 x) 0 5 (v 0 10))) : LOut X Y m v D S := by
  obtain ⟨q1, q2, q3⟩ := flt m v x (show m 47 5 = v 0 10 from h.2.2.2.2.2.1.symm)
  exact lo_flt ⟨_, _, q2, q3, by rw [up_a (by first | decide | omega), up_a (by first | decide | omega)]; first | decide | omega, hX, hY, q1⟩
/-- the line's word is told the first time: both go on -/
theorem first_on (hD : DI m v D) (h : PostR m v S) {c r : Int} (hc : crp c r) : DI (up m 46 6 (b3or (m 46 6) (b3sl 1 (b3an c 31)))) (up v 3 r 1) D ∧ PostR (up m 46 6 (b3or (m 46 6) (b3sl 1 (b3an c 31)))) (up v 3 r 1) S := by
  obtain ⟨h1, h2, h3, h4, h5, h6⟩ := hD
  have fm : Fm (fun b i => b = 46 ∧ i = 6) m (up m 46 6 (b3or (m 46 6) (b3sl 1 (b3an c 31)))) := Fm.w1 ⟨rfl, rfl⟩
  have fv : Fm (fun b _ => b = 3) v (up v 3 r 1) := Fm.w1 rfl
  have ew : sl 21 (up m 46 6 (b3or (m 46 6) (b3sl 1 (b3an c 31)))) D = sl 21 m D := sl_c (fun b x y => fm.rw1 (fun i => by first | decide | omega))
  refine ⟨⟨⟨h1.1, by rw [fm 46 10 (by first | decide | omega)]; exact h1.2⟩, by rw [ew]; exact h2, ?_, ?_, onc_set h5 hc, ?_⟩, h.f fm fv (by intro b i q; first | decide | omega) (by intro b i q; first | decide | omega)⟩
  · rw [ew]; exact h3.fr (kd_f fv) (by intro b i q; first | decide | omega)
  · rw [ew]; unfold CTL; rw [fm 46 7 (by first | decide | omega), fv 0 24 (by first | decide | omega)]; exact h4
  · exact ⟨by rw [ew, fv 0 49 (by first | decide | omega)]; exact h6.1, h6.2.f fv (by intro b i q; first | decide | omega)⟩
/-- what a line of numbers changes -/
def Pf (D : Nat) : Nat → Int → Prop := fun b i => Pk b i ∨ (b = 46 ∧ i = 7) ∨ (b = D ∧ i ≤ 10)
def Qf : Nat → Int → Prop := fun b i => Qk b i ∨ (b = 0 ∧ (i = 18 ∨ i = 19 ∨ i = 24 ∨ i = 43)) ∨ (b = 4 ∧ 7 ≤ i)
theorem Pk_f : ∀ b i, Pk b i → Pf D b i := fun _ _ h => Or.inl h
theorem Qk_f : ∀ b i, Qk b i → Qf b i := fun _ _ h => Or.inl h
/-- the draft behind a line of numbers -/
theorem di_flds (hD : DI m v D) {x7 : Int} (f : Fm (Pf D) m m') (g : Fm Qf v v') (h7 : m' 46 7 = x7 ∧ v' 0 24 = x7 ∧ (x7 = 0 ∨ x7 = 1)) (hz : x7 = 0 → sl 21 m D 1 0 = 0 ∧ m' D 2 = 0 ∧ m' D 3 = 0) (hS : WS (sl 21 m' D)) (hc : ∀ i, 0 ≤ i → i < sl 21 m D 1 0 → sl 21 m D 3 i < m' D 0 * m' D 1) (n1 : v' 0 18 = m' D 0 ∧ v' 0 19 = m' D 1) (n2 : v' 4 7 = m' D 2 ∧ v' 4 8 = m' D 3 ∧ v' 4 9 = m' D 6 ∧ v' 4 10 = m' D 7 ∧ v' 4 11 = m' D 8 ∧ v' 4 12 = m' D 9 ∧ v' 4 13 = m' D 10) : DI m' v' D ∧ m' D 12 = m D 12 := by
  obtain ⟨h1, h2, h3, h4, h5, h6⟩ := hD
  have hw : ∀ c : Nat, 1 ≤ c → sl 21 m' D c = sl 21 m D c := fun c hc => by
    funext i
    by_cases c21 : c ≤ 21
    · rw [sl_e c21, sl_e c21]; exact f (D + c) i (by unfold Pf Pk; first | decide | omega)
    · unfold sl; rw [if_neg c21, if_neg c21]
  have e0 : ∀ i, sl 21 m' D 0 i = m' D i := fun i => sl_e (Nat.zero_le _) i
  have e13 : sl 21 m' D 0 13 = sl 21 m D 0 13 := by rw [sl_e (Nat.zero_le _), sl_e (Nat.zero_le _)]; exact f D 13 (by unfold Pf Pk; first | decide | omega)
  have hu : ∀ c : Nat, 5 ≤ c → c ≤ 20 → kd v' c = kd v c := fun c a b => funext fun i => g c _ (by unfold Qf Qk; first | decide | omega)
  refine ⟨⟨⟨h1.1, by rw [f 46 10 (by unfold Pf Pk; first | decide | omega)]; exact h1.2⟩, h2.flds hw hS (fun i p q => by rw [e0, e0]; exact hc i p q), h3.flds hw e13 hu (fun i p q => ?_) ?_ ?_, ⟨by rw [h7.1]; exact h7.2.2, by rw [h7.1, h7.2.1], fun q => ?_⟩, ?_, ?_⟩, f D 12 (by unfold Pf Pk; first | decide | omega)⟩
  · show v' 0 (i + 6) = v 0 (i + 6)
    exact g 0 _ (by unfold Qf Qk; first | decide | omega)
  · rw [e0, e0]; exact n1
  · rw [e0, e0, e0, e0, e0, e0, e0]; exact n2
  · rw [h7.1] at q
    rw [hw 1 (by first | decide | omega), e0, e0]; exact hz q
  · unfold ONC
    rw [f 46 6 (by unfold Pf Pk; first | decide | omega), g.rw1 (b := 3) (fun i => by unfold Qf Qk; first | decide | omega)]; exact h5
  · exact ⟨by rw [g 0 49 (by unfold Qf Qk; first | decide | omega), e13]; exact h6.1, h6.2.f g (by intro b i q; unfold Qf Qk; first | decide | omega)⟩
/-- what the draft's numbers are -/
theorem DI.n (hD : DI m v D) : (v 0 18 = m D 0 ∧ v 0 19 = m D 1) ∧ (v 4 7 = m D 2 ∧ v 4 8 = m D 3 ∧ v 4 9 = m D 6 ∧ v 4 10 = m D 7 ∧ v 4 11 = m D 8 ∧ v 4 12 = m D 9 ∧ v 4 13 = m D 10) ∧ (v 0 20 = m (D + 1) 0 ∧ v 0 21 = m (D + 8) 0 ∧ v 0 22 = m (D + 8) 1 ∧ v 0 23 = m D 13) := by
  obtain ⟨h1, h2, ⟨⟨a1, a2, a3, a4, a5, a6⟩, ⟨b1, b2, b3, b4, b5, b6, b7⟩, _⟩, _⟩ := hD
  have e0 : ∀ i, sl 21 m D 0 i = m D i := fun i => sl_e (Nat.zero_le _) i
  rw [e0] at a1 a2 a6 b1 b2 b3 b4 b5 b6 b7
  rw [sl_e (by first | decide | omega)] at a3 a4 a5
  exact ⟨⟨a1, a2⟩, ⟨b1, b2, b3, b4, b5, b6, b7⟩, a3, a4, a5, a6⟩
theorem DI.ws (hD : DI m v D) : WS (sl 21 m D) ∧ ((1 ≤ m D 0 ∧ m D 0 ≤ 8) ∧ (1 ≤ m D 1 ∧ m D 1 ≤ 6)) := by
  have h := hD.2.1.1
  refine ⟨h, ?_⟩
  unfold WS at h
  have e0 : ∀ i, sl 21 m D 0 i = m D i := fun i => sl_e (Nat.zero_le _) i
  rw [e0, e0, e0, e0] at h
  omega
end Q25
/-! The lines sea, peak, bank, rule, seed on both sides. -/
section Q26
variable {m v : Mem} {S : Int} {D : Nat}
theorem l_sea (hD : DI m v D) (h : PostR m v S) : LOut (G5_readSea m) ((G12_seaLine v).bind fun o => G12_lineRead_197 o.2 o.1) m v D S := by
  have hDD := hD.1.1
  have hc : crp 0 0 := by unfold crp; omega
  have hon := onc_at hD.2.2.2.2.1 hc
  have hct := hD.2.2.2.1
  unfold G5_readSea G5_readSea_0 G12_seaLine G12_seaLine_0
  rw [c_first]
  by_cases c1 : tb (m 46 6) 0 = 0
  · obtain ⟨hD1, h1⟩ := first_on hD h hc
    rw [if_pos c1, bs1, if_pos (hon.mp c1)]
    simp only [if_neg i10]
    have e7 : up m 46 6 (b3or (m 46 6) (b3sl 1 (b3an 0 31))) 46 7 = m 46 7 := up_i (by first | decide | omega)
    rw [e7, hct.2.1]
    by_cases c2 : m 46 7 = 0
    · rw [if_pos c2, if_pos c2, gdb_t (by first | decide | omega), wt_e]
      have fm : Fm (PX D) m (up m 46 6 (b3or (m 46 6) (b3sl 1 (b3an 0 31)))) := Fm.w1 (by unfold PX; first | decide | omega)
      have fv : Fm QX v (up v 3 0 1) := Fm.w1 (by unfold QX; first | decide | omega)
      obtain ⟨v2, z1, z2, p2⟩ := h1.tok
      have hD2 := hD1.k Fm.rf (z2.mono Q7_k)
      refine lo_tr (m1 := up m 46 6 (b3or (m 46 6) (b3sl 1 (b3an 0 31)))) (v1 := v2) ?_ fm (fv.tr ((z2.mono Q7_k).mono Qk_x)) (by rw [up_a (by first | decide | omega)]; first | decide | omega) (by rw [up_a (by first | decide | omega)])
      rw [z1, bs1]
      have e7' := e7
      have hz0 : sl 21 (up m 46 6 (b3or (m 46 6) (b3sl 1 (b3an 0 31)))) D 1 0 = 0 ∧ (up m 46 6 (b3or (m 46 6) (b3sl 1 (b3an 0 31)))) D 2 = 0 ∧ (up m 46 6 (b3or (m 46 6) (b3sl 1 (b3an 0 31)))) D 3 = 0 := by
        have := hct.2.2 c2
        rw [sl_e (by first | decide | omega), up_a (by first | decide | omega), up_a (by first | decide | omega), up_a (by first | decide | omega)]
        rw [sl_e (by first | decide | omega), sl_e (by first | decide | omega), sl_e (by first | decide | omega)] at this
        exact this
      generalize up m 46 6 (b3or (m 46 6) (b3sl 1 (b3an 0 31))) = m1 at hD1 h1 fm p2 hD2 e7' hz0 ⊢
      obtain ⟨m3, v3, f3, g3, q3, k3⟩ := n_in p2 (lo := 1) (hi := 8) (by first | decide | omega)
      rcases k3 with ⟨x, x1, x2, e1, e2, e3, p3, _⟩ | ⟨e1, e2, e3⟩
      · rw [e1, e2, bs1, bs1]
        simp only [if_neg i10]
        rw [if_neg (show ¬ x = -1 by first | decide | omega), wt_e, e3]
        have gq : Fm (fun b i => b = 0 ∧ i = 18) v3 (up v3 0 18 x) := Fm.w1 ⟨rfl, rfl⟩
        have p3' : PreR m3 (up v3 0 18 x) S := p3.f (P := fun _ _ => False) Fm.rf gq (fun b i _ => id) (by intro b i q; first | decide | omega)
        refine lo_tr (m1 := m3) (v1 := up v3 0 18 x) ?_ (f3.mono Pk_x) ((g3.mono Qk_x).tr (gq.mono (by intro b i q; unfold QX; first | decide | omega))) q3 (f3 D 12 (by unfold Pk; first | decide | omega))
        obtain ⟨m4, v4, f4, g4, q4, k4⟩ := n_in p3' (lo := 1) (hi := 6) (by first | decide | omega)
        rcases k4 with ⟨y, y1, y2, e4, e5, e6, p4, _⟩ | ⟨e4, e5, e6⟩
        · rw [e4, e5, bs1, bs1]
          simp only [if_neg i10]
          unfold G5_readSea_47
          have e10 : m4 46 10 = (D : Int) := by rw [f4 46 10 (by unfold Pk; first | decide | omega), f3 46 10 (by unfold Pk; first | decide | omega)]; exact hD1.1.2
          have e10' : up m4 D 0 x 46 10 = (D : Int) := by rw [up_a (by first | decide | omega)]; exact e10
          rw [if_neg (show ¬ y = -1 by first | decide | omega), e10, Int.toNat_natCast, wt_e, e10', Int.toNat_natCast, wt_e, wt_e, bs1, e6]
          have fm5 : Fm (Pf D) m1 (up (up m4 D 0 x) D 1 y) := (((f3.tr f4).mono Pk_f).w (by unfold Pf; first | decide | omega)).w (by unfold Pf; first | decide | omega)
          have fv5 : Fm Qf v2 (up v4 0 19 y) := (((g3.mono Qk_f).tr (gq.mono (by intro b i q; unfold Qf; first | decide | omega))).tr (g4.mono Qk_f)).w (by unfold Qf; first | decide | omega)
          have n0 : up (up m4 D 0 x) D 1 y D 0 = x := by rw [up_i (by first | decide | omega), up_e]
          have n1 : up (up m4 D 0 x) D 1 y D 1 = y := up_e
          have nr : ∀ i, i ≠ 0 → i ≠ 1 → up (up m4 D 0 x) D 1 y D i = m1 D i := fun i a b => by rw [up_i b, up_i a, f4 D i (by unfold Pk; first | decide | omega), f3 D i (by unfold Pk; first | decide | omega)]
          have o1 := hD2.n
          have o2 := hD2.ws.1
          have w18 : up v4 0 19 y 0 18 = x := by rw [up_i (by first | decide | omega), g4 0 18 (by unfold Qk; first | decide | omega), up_e]
          have w4 : ∀ i, up v4 0 19 y 4 i = v2 4 i := fun i => by rw [up_a (by first | decide | omega), g4 4 i (by unfold Qk; first | decide | omega), up_a (by first | decide | omega), g3 4 i (by unfold Qk; first | decide | omega)]
          have s0 : ∀ i, sl 21 (up (up m4 D 0 x) D 1 y) D 0 i = up (up m4 D 0 x) D 1 y D i := fun i => sl_e (Nat.zero_le _) i
          have s1 : ∀ i, sl 21 m1 D 0 i = m1 D i := fun i => sl_e (Nat.zero_le _) i
          have sr : ∀ (c : Nat) i, 1 ≤ c → c ≤ 21 → sl 21 (up (up m4 D 0 x) D 1 y) D c i = sl 21 m1 D c i := fun c i a b => by rw [sl_e b, sl_e b, up_a (by first | decide | omega), up_a (by first | decide | omega), f4 (D + c) i (by unfold Pk; first | decide | omega), f3 (D + c) i (by unfold Pk; first | decide | omega)]
          have hws : WS (sl 21 (up (up m4 D 0 x) D 1 y) D) := by
            unfold WS at o2 ⊢
            rw [s0, s0, s0, s0, s0, s0, s0, s0, s0, s0, sr 1 0 (by first | decide | omega) (by first | decide | omega), sr 8 0 (by first | decide | omega) (by first | decide | omega), sr 8 1 (by first | decide | omega) (by first | decide | omega), n0, n1, nr 2 (by first | decide | omega) (by first | decide | omega), nr 3 (by first | decide | omega) (by first | decide | omega), nr 6 (by first | decide | omega) (by first | decide | omega), nr 7 (by first | decide | omega) (by first | decide | omega), nr 8 (by first | decide | omega) (by first | decide | omega), nr 9 (by first | decide | omega) (by first | decide | omega), nr 10 (by first | decide | omega) (by first | decide | omega), nr 13 (by first | decide | omega) (by first | decide | omega)]
            rw [s1, s1, s1, s1, s1, s1, s1, s1, s1, s1] at o2
            omega
          obtain ⟨hD5, _⟩ := di_flds (x7 := 0) hD2 fm5 fv5 ⟨by rw [up_a (by first | decide | omega), up_a (by first | decide | omega), f4 46 7 (by unfold Pk; first | decide | omega), f3 46 7 (by unfold Pk; first | decide | omega)]; first | decide | omega, by rw [up_i (by first | decide | omega), g4 0 24 (by unfold Qk; first | decide | omega), up_i (by first | decide | omega), g3 0 24 (by unfold Qk; first | decide | omega), hD2.2.2.2.1.2.1]; first | decide | omega, Or.inl rfl⟩ (fun _ => ⟨hz0.1, by rw [nr 2 (by first | decide | omega) (by first | decide | omega)]; exact hz0.2.1, by rw [nr 3 (by first | decide | omega) (by first | decide | omega)]; exact hz0.2.2⟩) hws (fun i p q => by rw [hz0.1] at q; first | decide | omega) ⟨by rw [w18, n0], by rw [up_e, n1]⟩ (by rw [w4, w4, w4, w4, w4, w4, w4, nr 2 (by first | decide | omega) (by first | decide | omega), nr 3 (by first | decide | omega) (by first | decide | omega), nr 6 (by first | decide | omega) (by first | decide | omega), nr 7 (by first | decide | omega) (by first | decide | omega), nr 8 (by first | decide | omega) (by first | decide | omega), nr 9 (by first | decide | omega) (by first | decide | omega), nr 10 (by first | decide | omega) (by first | decide | omega)]; exact o1.2.1)
          have p5 : PreR (up (up m4 D 0 x) D 1 y) (up v4 0 19 y) S := p4.f (P := fun b i => b = D) (Q := fun b i => b = 0 ∧ i = 19) ((Fm.w1 rfl).w rfl) (Fm.w1 ⟨rfl, rfl⟩) (by intro b i q; first | decide | omega) (by intro b i q; first | decide | omega)
          refine lo_tr (lo_stop hD5 p5) ((f4.mono Pk_x).tr ((Fm.w1 (by unfold PX; first | decide | omega)).w (by unfold PX; first | decide | omega))) ((g4.mono Qk_x).tr (Fm.w1 (by unfold QX; first | decide | omega))) (by rw [up_a (by first | decide | omega), up_a (by first | decide | omega)]; exact q4) (by rw [up_i (by first | decide | omega), up_i (by first | decide | omega), f4 D 12 (by unfold Pk; first | decide | omega)])
        · rw [e4, e5, bs1, bs1]
          unfold G5_readSea_47
          simp only [if_true, bs1, r197]
          exact lo_flt ⟨m4, v4, f4, g4, q4, rfl, rfl, e6⟩
      · rw [e1, e2, bs1, bs1]
        unfold G5_readSea_47
        simp only [if_true, bs1, r197]
        exact lo_flt ⟨m3, v3, f3, g3, q3, rfl, rfl, e3⟩
    · rw [if_neg c2, if_neg c2, c_ref, bs1, r_wrong, bs1, gdb_t (by first | decide | omega), gdb_t (by first | decide | omega), bs1]
      simp only
      rw [r197]
      have fm : Fm (PX D) m (up m 46 6 (b3or (m 46 6) (b3sl 1 (b3an 0 31)))) := Fm.w1 (by unfold PX; first | decide | omega)
      have h1' : PostR (up m 46 6 (b3or (m 46 6) (b3sl 1 (b3an 0 31)))) v S := h.f (P := fun b i => b = 46 ∧ i = 6) (Q := fun _ _ => False) (Fm.w1 ⟨rfl, rfl⟩) Fm.rf (by intro b i q; first | decide | omega) (fun b i _ => id)
      refine lo_tr (m1 := up m 46 6 (b3or (m 46 6) (b3sl 1 (b3an 0 31)))) (v1 := v) ?_ fm Fm.rf (by rw [up_a (by first | decide | omega)]; first | decide | omega) (by rw [up_a (by first | decide | omega)])
      exact lo_ref h1' 4 rfl rfl
  · rw [if_neg c1, bs1, if_neg (fun q => c1 (hon.mpr q))]
    simp only [if_true]
    rw [r_wrong, bs1, gdb_t (by first | decide | omega), bs1]
    simp only
    rw [r197]
    exact lo_ref h 3 rfl rfl
/-- a cell is asked for -/
def Qc : Nat → Int → Prop := fun b i => Qk b i ∨ (b = 0 ∧ (i = 24 ∨ i = 43))
theorem n_cellw (hn : v 0 18 = m D 0 ∧ v 0 19 = m D 1) (hw : (1 ≤ m D 0 ∧ m D 0 ≤ 8) ∧ (1 ≤ m D 1 ∧ m D 1 ≤ 6)) (p : PreR m v S) : ∃ m' v', Fm Pk m m' ∧ Fm Qc v v' ∧ m 47 3 ≤ m' 47 3 ∧ v' 0 24 = 1 ∧ ((∃ x y m1, (0 ≤ x ∧ x < m D 0) ∧ (0 ≤ y ∧ y < m D 1) ∧ G5_numberIn m 0 (m D 0 - 1) = some (x, m1) ∧ Fm Pk m m1 ∧ G5_numberIn m1 0 (m D 1 - 1) = some (y, m') ∧ G12_cellRead v = some (1, v') ∧ v' 0 43 = x ∧ v' 0 11 = y ∧ PreR m' v' S) ∨ (G5_numberIn m 0 (m D 0 - 1) = some (-1, m') ∧ G12_cellRead v = some (0, v') ∧ FLT m' v') ∨ (∃ x m1, 0 ≤ x ∧ G5_numberIn m 0 (m D 0 - 1) = some (x, m1) ∧ Fm Pk m m1 ∧ G5_numberIn m1 0 (m D 1 - 1) = some (-1, m') ∧ G12_cellRead v = some (0, v') ∧ FLT m' v')) := by
  unfold G12_cellRead G12_cellRead_0
  rw [wt_e]
  have g1 : Fm Qc v (up v 0 24 1) := Fm.w1 (by unfold Qc; first | decide | omega)
  have e18 : up v 0 24 1 0 18 = m D 0 := by rw [up_i (by first | decide | omega)]; exact hn.1
  have e19 : up v 0 24 1 0 19 = m D 1 := by rw [up_i (by first | decide | omega)]; exact hn.2
  have e24 : up v 0 24 1 0 24 = 1 := up_e
  have p1 : PreR m (up v 0 24 1) S := p.f (P := fun _ _ => False) (Q := fun b i => b = 0 ∧ i = 24) Fm.rf (Fm.w1 ⟨rfl, rfl⟩) (fun b i _ => id) (by intro b i q; first | decide | omega)
  generalize up v 0 24 1 = v1 at g1 e18 e19 e24 p1 ⊢
  rw [e18, gd3_t (by first | decide | omega)]
  obtain ⟨m2, v2, f2, g2, q2, k2⟩ := n_in p1 (lo := 0) (hi := m D 0 - 1) (by first | decide | omega)
  rcases k2 with ⟨x, x1, x2, a1, a2, a3, a4, _⟩ | ⟨a1, a2, a3⟩
  · rw [a2, bs1]
    simp only [if_neg i10]
    rw [wt_e, a3]
    have e19' : up v2 0 43 x 0 19 = m D 1 := by rw [up_i (by first | decide | omega), g2 0 19 (by unfold Qk; first | decide | omega)]; exact e19
    rw [e19', gd3_t (by first | decide | omega)]
    have p2 : PreR m2 (up v2 0 43 x) S := a4.f (P := fun _ _ => False) (Q := fun b i => b = 0 ∧ i = 43) Fm.rf (Fm.w1 ⟨rfl, rfl⟩) (fun b i _ => id) (by intro b i q; first | decide | omega)
    have e24' : up v2 0 43 x 0 24 = 1 := by rw [up_i (by first | decide | omega), g2 0 24 (by unfold Qk; first | decide | omega)]; exact e24
    have g3 : Fm Qc v (up v2 0 43 x) := (g1.tr (g2.mono (fun b i q => Or.inl q))).w (by unfold Qc; first | decide | omega)
    have e43 : up v2 0 43 x 0 43 = x := up_e
    obtain ⟨m3, v3, f3, g4, q3, k3⟩ := n_in p2 (lo := 0) (hi := m D 1 - 1) (by first | decide | omega)
    rcases k3 with ⟨y, y1, y2, b1, b2, b3, b4, _⟩ | ⟨b1, b2, b3⟩
    · rw [b2, bs1]
      simp only [if_neg i10]
      exact ⟨m3, v3, f2.tr f3, g3.tr (g4.mono (fun b i q => Or.inl q)), by first | decide | omega, by rw [g4 0 24 (by unfold Qk; first | decide | omega)]; exact e24', Or.inl ⟨x, y, m2, ⟨x1, by first | decide | omega⟩, ⟨y1, by first | decide | omega⟩, a1, f2, b1, rfl, by rw [g4 0 43 (by unfold Qk; first | decide | omega)]; exact e43, b3, b4⟩⟩
    · rw [b2, bs1]
      simp only [if_true]
      exact ⟨m3, v3, f2.tr f3, g3.tr (g4.mono (fun b i q => Or.inl q)), by first | decide | omega, by rw [g4 0 24 (by unfold Qk; first | decide | omega)]; exact e24', Or.inr (Or.inr ⟨x, m2, x1, a1, f2, b1, rfl, b3⟩)⟩
  · rw [a2, bs1]
    simp only [if_true]
    exact ⟨m2, v2, f2, g1.tr (g2.mono (fun b i q => Or.inl q)), q2, by rw [g2 0 24 (by unfold Qk; first | decide | omega)]; exact e24, Or.inr (Or.inl ⟨a1, rfl, a3⟩)⟩
theorem n_cell (hD : DI m v D) (p : PreR m v S) : ∃ m' v', Fm Pk m m' ∧ Fm Qc v v' ∧ m 47 3 ≤ m' 47 3 ∧ v' 0 24 = 1 ∧ ((∃ x y m1, (0 ≤ x ∧ x < m D 0) ∧ (0 ≤ y ∧ y < m D 1) ∧ G5_numberIn m 0 (m D 0 - 1) = some (x, m1) ∧ Fm Pk m m1 ∧ G5_numberIn m1 0 (m D 1 - 1) = some (y, m') ∧ G12_cellRead v = some (1, v') ∧ v' 0 43 = x ∧ v' 0 11 = y ∧ PreR m' v' S) ∨ (G5_numberIn m 0 (m D 0 - 1) = some (-1, m') ∧ G12_cellRead v = some (0, v') ∧ FLT m' v') ∨ (∃ x m1, 0 ≤ x ∧ G5_numberIn m 0 (m D 0 - 1) = some (x, m1) ∧ Fm Pk m m1 ∧ G5_numberIn m1 0 (m D 1 - 1) = some (-1, m') ∧ G12_cellRead v = some (0, v') ∧ FLT m' v')) := n_cellw hD.n.1 hD.ws.2 p
theorem Qc_x : ∀ b i, Qc b i → QX b i := by intro b i h; unfold Qc Qk at h; unfold QX; omega
/-- a line ends with a fault, the draft having been touched -/
theorem lo_fltx {X Y : Option (Int × Mem)} (h : ∃ m' v', Fm (PX D) m m' ∧ Fm QX v v' ∧ m 47 3 ≤ m' 47 3 ∧ X = some (0, m') ∧ Y = some (0, v') ∧ FLT m' v') : LOut X Y m v D S := by
  obtain ⟨m', v', f, g, p, e1, e2, e3⟩ := h
  exact ⟨m', v', f, g, p, Or.inr ⟨e1, e2, e3⟩⟩
/-- the word of a line that comes once was told already -/
theorem onc37 (h : PostR m v S) {r : Int} (hr : 0 ≤ r ∧ r < 5) (c : ¬ v 3 r = 0) : ((G12_onceLine_37 v r).bind fun o => G12_lineRead_197 o.2 o.1) = some (0, up (up v 0 4 3) 0 5 (v 0 10)) := by
  unfold G12_onceLine_37
  rw [gdx_t hr, if_neg c, r_wrong, bs1, gdb_t (by first | decide | omega), bs1]
  exact r197 _
theorem l_peak (hD : DI m v D) (h : PostR m v S) (hk : m 47 4 = 1) : LOut (G5_readPeak m) ((G12_onceLine v).bind fun o => G12_lineRead_197 o.2 o.1) m v D S := by
  have hDD := hD.1.1
  have hc : crp 1 1 := by unfold crp; omega
  have hon := onc_at hD.2.2.2.2.1 hc
  have hkr := h.2.2.2.2.2.2.2
  have e9 : v 0 9 = 1 := by
    rw [hk] at hkr
    have ek : kwf 1 = 1 := by decide
    unfold KR SGN NumR at hkr
    rw [ek] at hkr
    omega
  unfold G5_readPeak G5_readPeak_0 G12_onceLine G12_onceLine_0
  rw [if_pos e9, c_first]
  by_cases c1 : tb (m 46 6) 1 = 0
  · obtain ⟨hD1, h1⟩ := first_on hD h hc
    have c1v := hon.mp c1
    rw [if_pos c1, bs1]
    unfold G12_onceLine_37
    rw [gdx_t (by first | decide | omega), if_pos c1v, gdx_t (by first | decide | omega), gdb_t (by first | decide | omega)]
    simp only [wt_e, if_neg (show ¬ (1 : Int) = 2 by first | decide | omega), if_neg i10, if_true]
    obtain ⟨v2, z1, z2, p2⟩ := h1.tok
    have hD2 := hD1.k Fm.rf (z2.mono Q7_k)
    rw [z1, bs1]
    have fm : Fm (PX D) m (up m 46 6 (b3or (m 46 6) (b3sl 1 (b3an 1 31)))) := Fm.w1 (by unfold PX; first | decide | omega)
    have fv : Fm QX v (up v 3 1 1) := Fm.w1 (by unfold QX; first | decide | omega)
    refine lo_tr (m1 := up m 46 6 (b3or (m 46 6) (b3sl 1 (b3an 1 31)))) (v1 := v2) ?_ fm (fv.tr ((z2.mono Q7_k).mono Qk_x)) (by rw [up_a (by first | decide | omega)]; first | decide | omega) (by rw [up_a (by first | decide | omega)])
    generalize up m 46 6 (b3or (m 46 6) (b3sl 1 (b3an 1 31))) = m1 at hD1 h1 fm p2 hD2 ⊢
    -- cells are told from here on
    have e10 : up m1 46 7 1 46 10 = (D : Int) := by rw [up_i (by first | decide | omega)]; exact hD1.1.2
    have eD : ∀ i, up m1 46 7 1 D i = m1 D i := fun i => up_a (by first | decide | omega)
    have fm7 : Fm (Pf D) m1 (up m1 46 7 1) := Fm.w1 (by unfold Pf; first | decide | omega)
    have hw := hD2.ws.2
    have hDm : DI (up m1 46 7 1) (up v2 0 24 1) D := by
      refine (di_flds (x7 := 1) hD2 fm7 (Fm.w1 (by unfold Qf; first | decide | omega)) ⟨up_e, up_e, Or.inr rfl⟩ (fun q => by first | decide | omega) ?_ (fun i p q => ?_) ?_ ?_).1
      · rw [sl_out (by first | decide | omega)]; exact hD2.ws.1
      · have := (hD2.2.1.2.1 i p q).1.2
        rw [sl_e (by first | decide | omega), sl_e (by first | decide | omega)] at this
        rw [eD, eD]; exact this
      · rw [eD, eD, up_i (by first | decide | omega), up_i (by first | decide | omega)]; exact hD2.n.1
      · rw [eD, eD, eD, eD, eD, eD, eD, up_a (by first | decide | omega), up_a (by first | decide | omega), up_a (by first | decide | omega), up_a (by first | decide | omega), up_a (by first | decide | omega), up_a (by first | decide | omega), up_a (by first | decide | omega)]; exact hD2.n.2.1
    have p3 : PreR (up m1 46 7 1) v2 S := p2.f (P := fun b i => b = 46 ∧ i = 7) (Q := fun _ _ => False) (Fm.w1 ⟨rfl, rfl⟩) Fm.rf (by intro b i q; first | decide | omega) (fun b i _ => id)
    -- the cell, on both sides
    have e18 : m1 D 0 = v2 0 18 := hD2.n.1.1.symm
    have e19 : m1 D 1 = v2 0 19 := hD2.n.1.2.symm
    have hDc : DI (up m1 46 7 1) v2 D ∨ True := Or.inr trivial
    rw [e10, Int.toNat_natCast, eD, gd3_t (by first | decide | omega)]
    -- reading it needs only the sizes
    obtain ⟨m', v', f', g', q', k24, k⟩ : ∃ m' v', Fm Pk (up m1 46 7 1) m' ∧ Fm Qc v2 v' ∧ (up m1 46 7 1) 47 3 ≤ m' 47 3 ∧ v' 0 24 = 1 ∧ ((∃ x y m2, (0 ≤ x ∧ x < m1 D 0) ∧ (0 ≤ y ∧ y < m1 D 1) ∧ G5_numberIn (up m1 46 7 1) 0 (m1 D 0 - 1) = some (x, m2) ∧ Fm Pk (up m1 46 7 1) m2 ∧ G5_numberIn m2 0 (m1 D 1 - 1) = some (y, m') ∧ G12_cellRead v2 = some (1, v') ∧ v' 0 43 = x ∧ v' 0 11 = y ∧ PreR m' v' S) ∨ (G5_numberIn (up m1 46 7 1) 0 (m1 D 0 - 1) = some (-1, m') ∧ G12_cellRead v2 = some (0, v') ∧ FLT m' v') ∨ (∃ x m2, 0 ≤ x ∧ G5_numberIn (up m1 46 7 1) 0 (m1 D 0 - 1) = some (x, m2) ∧ Fm Pk (up m1 46 7 1) m2 ∧ G5_numberIn m2 0 (m1 D 1 - 1) = some (-1, m') ∧ G12_cellRead v2 = some (0, v') ∧ FLT m' v')) := by
      have p3' : PreR (up m1 46 7 1) (up v2 0 24 1) S := p3.f (P := fun _ _ => False) (Q := fun b i => b = 0 ∧ i = 24) Fm.rf (Fm.w1 ⟨rfl, rfl⟩) (fun b i _ => id) (by intro b i q; first | decide | omega)
      have ec : G12_cellRead v2 = G12_cellRead (up v2 0 24 1) := by
        have eu : up (up v2 0 24 1) 0 24 1 = up v2 0 24 1 := by
          funext b i
          by_cases c : b = 0 ∧ i = 24
          · rw [c.1, c.2, up_e, up_e]
          · unfold up; rw [if_neg c]
        unfold G12_cellRead G12_cellRead_0
        rw [wt_e, wt_e, eu]
      obtain ⟨m', v', f', g', q', k24, k⟩ := n_cell hDm p3'
      rw [ec]
      rw [eD, eD] at k
      exact ⟨m', v', f', (Fm.w1 (by unfold Qc; first | decide | omega)).tr g', q', k24, k⟩
    have fmx : Fm (PX D) m1 (up m1 46 7 1) := Fm.w1 (by unfold PX; first | decide | omega)
    have q0 : up m1 46 7 1 47 3 = m1 47 3 := up_a (by first | decide | omega)
    rcases k with ⟨x, y, m2, x1, y1, a1, a2, a3, a4, a5, a6, a7⟩ | ⟨a1, a2, a3⟩ | ⟨x, m2, x1, a1, a2, a3, a4, a5⟩
    · have e10' : m2 46 10 = (D : Int) := by rw [a2 46 10 (by unfold Pk; first | decide | omega)]; exact e10
      have e1D : m2 D 1 = m1 D 1 := by rw [a2 D 1 (by unfold Pk; first | decide | omega), eD]
      rw [a1, a4, bs1, bs1]
      simp only [if_neg i10]
      rw [if_neg (show ¬ x = -1 by first | decide | omega), e10', Int.toNat_natCast, e1D, gd3_t (by first | decide | omega), a3, bs1, bs1, a5]
      unfold G5_readPeak_53
      have e10m : m' 46 10 = (D : Int) := by rw [f' 46 10 (by unfold Pk; first | decide | omega)]; exact e10
      have e10n : up m' D 2 x 46 10 = (D : Int) := by rw [up_a (by first | decide | omega)]; exact e10m
      simp only
      rw [if_neg (show ¬ y = -1 by first | decide | omega), e10m, Int.toNat_natCast, wt_e, e10n, Int.toNat_natCast, wt_e]
      have n2 : up (up m' D 2 x) D 3 y D 2 = x := by rw [up_i (by first | decide | omega), up_e]
      have n3 : up (up m' D 2 x) D 3 y D 3 = y := up_e
      have nr : ∀ i, i ≠ 2 → i ≠ 3 → up (up m' D 2 x) D 3 y D i = m1 D i := fun i a b => by rw [up_i b, up_i a, f' D i (by unfold Pk; first | decide | omega), eD]
      have g11 : up v' 4 7 x 0 11 = y := by rw [up_a (by first | decide | omega)]; exact a6
      rw [g11]
      have w4 : ∀ i, i ≠ 7 → i ≠ 8 → up (up v' 4 7 x) 4 8 y 4 i = v2 4 i := fun i a b => by rw [up_i b, up_i a, g' 4 i (by unfold Qc Qk; first | decide | omega)]
      have w7 : up (up v' 4 7 x) 4 8 y 4 7 = x := by rw [up_i (by first | decide | omega), up_e]
      have w0 : ∀ i, i ≠ 24 → i ≠ 43 → ¬ Qk 0 i → up (up v' 4 7 x) 4 8 y 0 i = v2 0 i := fun i a b c => by rw [up_a (by first | decide | omega), up_a (by first | decide | omega), g' 0 i (fun q => by rcases q with q | q; exact c q; first | decide | omega)]
      have s0 : ∀ i, sl 21 (up (up m' D 2 x) D 3 y) D 0 i = up (up m' D 2 x) D 3 y D i := fun i => sl_e (Nat.zero_le _) i
      have s1 : ∀ i, sl 21 m1 D 0 i = m1 D i := fun i => sl_e (Nat.zero_le _) i
      have sr : ∀ (c : Nat) i, 1 ≤ c → c ≤ 21 → sl 21 (up (up m' D 2 x) D 3 y) D c i = sl 21 m1 D c i := fun c i a b => by rw [sl_e b, sl_e b, up_a (by first | decide | omega), up_a (by first | decide | omega), f' (D + c) i (by unfold Pk; first | decide | omega), up_a (by first | decide | omega)]
      have o2 := hD2.ws.1
      have hws : WS (sl 21 (up (up m' D 2 x) D 3 y) D) := by
        unfold WS at o2 ⊢
        rw [s0, s0, s0, s0, s0, s0, s0, s0, s0, s0, sr 1 0 (by first | decide | omega) (by first | decide | omega), sr 8 0 (by first | decide | omega) (by first | decide | omega), sr 8 1 (by first | decide | omega) (by first | decide | omega), n2, n3, nr 0 (by first | decide | omega) (by first | decide | omega), nr 1 (by first | decide | omega) (by first | decide | omega), nr 6 (by first | decide | omega) (by first | decide | omega), nr 7 (by first | decide | omega) (by first | decide | omega), nr 8 (by first | decide | omega) (by first | decide | omega), nr 9 (by first | decide | omega) (by first | decide | omega), nr 10 (by first | decide | omega) (by first | decide | omega), nr 13 (by first | decide | omega) (by first | decide | omega)]
        rw [s1, s1, s1, s1, s1, s1, s1, s1, s1, s1] at o2
        omega
      have o1 := hD2.n
      have fm5 : Fm (Pf D) m1 (up (up m' D 2 x) D 3 y) := ((fm7.tr (f'.mono Pk_f)).w (by unfold Pf; first | decide | omega)).w (by unfold Pf; first | decide | omega)
      have fv5 : Fm Qf v2 (up (up v' 4 7 x) 4 8 y) := ((g'.mono (by intro b i q; unfold Qc Qk at q; unfold Qf Qk; first | decide | omega)).w (by unfold Qf; first | decide | omega)).w (by unfold Qf; first | decide | omega)
      obtain ⟨hD5, _⟩ := di_flds (x7 := 1) hD2 fm5 fv5 ⟨by rw [up_a (by first | decide | omega), up_a (by first | decide | omega), f' 46 7 (by unfold Pk; first | decide | omega), up_e], by rw [up_a (by first | decide | omega), up_a (by first | decide | omega)]; exact k24, Or.inr rfl⟩ (fun q => by first | decide | omega) hws (fun i p q => by
        have := (hD2.2.1.2.1 i p q).1.2
        rw [sl_e (by first | decide | omega), sl_e (by first | decide | omega)] at this
        rw [nr 0 (by first | decide | omega) (by first | decide | omega), nr 1 (by first | decide | omega) (by first | decide | omega)]; exact this) ⟨by rw [w0 18 (by first | decide | omega) (by first | decide | omega) (by unfold Qk; first | decide | omega), nr 0 (by first | decide | omega) (by first | decide | omega)]; exact o1.1.1, by rw [w0 19 (by first | decide | omega) (by first | decide | omega) (by unfold Qk; first | decide | omega), nr 1 (by first | decide | omega) (by first | decide | omega)]; exact o1.1.2⟩ (by rw [w7, up_e, n2, n3, w4 9 (by first | decide | omega) (by first | decide | omega), w4 10 (by first | decide | omega) (by first | decide | omega), w4 11 (by first | decide | omega) (by first | decide | omega), w4 12 (by first | decide | omega) (by first | decide | omega), w4 13 (by first | decide | omega) (by first | decide | omega), nr 6 (by first | decide | omega) (by first | decide | omega), nr 7 (by first | decide | omega) (by first | decide | omega), nr 8 (by first | decide | omega) (by first | decide | omega), nr 9 (by first | decide | omega) (by first | decide | omega), nr 10 (by first | decide | omega) (by first | decide | omega)]; exact ⟨rfl, rfl, o1.2.1.2.2⟩)
      have p5 : PreR (up (up m' D 2 x) D 3 y) (up (up v' 4 7 x) 4 8 y) S := a7.f (P := fun b i => b = D) (Q := fun b i => b = 4) ((Fm.w1 rfl).w rfl) ((Fm.w1 rfl).w rfl) (by intro b i q; first | decide | omega) (by intro b i q; first | decide | omega)
      exact lo_tr (lo_stop hD5 p5) (((fmx.tr (f'.mono Pk_x)).w (by unfold PX; first | decide | omega)).w (by unfold PX; first | decide | omega)) (((g'.mono Qc_x).w (by unfold QX; first | decide | omega)).w (by unfold QX; first | decide | omega)) (by rw [up_a (by first | decide | omega), up_a (by first | decide | omega)]; first | decide | omega) (nr 12 (by first | decide | omega) (by first | decide | omega))
    · rw [a1, a2, bs1, bs1]
      unfold G5_readPeak_53
      simp only [if_true, bs1, r197]
      exact lo_fltx ⟨m', v', fmx.tr (f'.mono Pk_x), g'.mono Qc_x, by first | decide | omega, rfl, rfl, a3⟩
    · have e10' : m2 46 10 = (D : Int) := by rw [a2 46 10 (by unfold Pk; first | decide | omega)]; exact e10
      have e1D : m2 D 1 = m1 D 1 := by rw [a2 D 1 (by unfold Pk; first | decide | omega), eD]
      rw [a1, a4, bs1, bs1]
      simp only [if_true, bs1, r197]
      rw [if_neg (show ¬ x = -1 by first | decide | omega), e10', Int.toNat_natCast, e1D, gd3_t (by first | decide | omega), a3, bs1]
      unfold G5_readPeak_53
      simp only [if_true]
      exact lo_fltx ⟨m', v', fmx.tr (f'.mono Pk_x), g'.mono Qc_x, by first | decide | omega, rfl, rfl, a5⟩
  · rw [if_neg c1, bs1, onc37 h (by first | decide | omega) (fun q => c1 (hon.mpr q))]
    simp only [if_true]
    exact lo_ref h 3 rfl rfl
end Q26
/-! The lines bank, rule, seed on both sides. -/
section Q27
variable {m v : Mem} {S : Int} {D : Nat}
/-- the draft behind a change of one row of numbers, sizes and peak standing -/
theorem di_num (hD : DI m v D) {m' v' : Mem} (f : Fm (Pf D) m m') (g : Fm Qf v v') (h7 : m' 46 7 = m 46 7) (hv : v' 0 18 = v 0 18 ∧ v' 0 19 = v 0 19 ∧ v' 0 24 = v 0 24 ∧ v' 4 7 = v 4 7 ∧ v' 4 8 = v 4 8) (hm : m' D 0 = m D 0 ∧ m' D 1 = m D 1 ∧ m' D 2 = m D 2 ∧ m' D 3 = m D 3) (hb : (0 ≤ m' D 6 ∧ m' D 6 ≤ 20 ∧ 0 ≤ m' D 7 ∧ m' D 7 ≤ 20 ∧ 0 ≤ m' D 8 ∧ m' D 8 ≤ 9 ∧ 0 ≤ m' D 9 ∧ m' D 9 ≤ 3 ∧ 0 ≤ m' D 10 ∧ m' D 10 ≤ 99999) ∧ (m' D 6 = 0 ↔ m' D 7 = 0)) (n2 : v' 4 9 = m' D 6 ∧ v' 4 10 = m' D 7 ∧ v' 4 11 = m' D 8 ∧ v' 4 12 = m' D 9 ∧ v' 4 13 = m' D 10) : DI m' v' D ∧ m' D 12 = m D 12 := by
  have hDD := hD.1.1
  have o1 := hD.n
  have o2 := hD.ws.1
  have o3 := hD.2.2.2.1
  have s0 : ∀ i, sl 21 m' D 0 i = m' D i := fun i => sl_e (Nat.zero_le _) i
  have s1 : ∀ i, sl 21 m D 0 i = m D i := fun i => sl_e (Nat.zero_le _) i
  have sr : ∀ (c : Nat) i, 1 ≤ c → c ≤ 21 → sl 21 m' D c i = sl 21 m D c i := fun c i a b => by rw [sl_e b, sl_e b, f (D + c) i (by unfold Pf Pk; first | decide | omega)]
  have e13 : m' D 13 = m D 13 := f D 13 (by unfold Pf Pk; first | decide | omega)
  refine di_flds (x7 := m 46 7) hD f g ⟨h7, by rw [hv.2.2.1]; exact o3.2.1, o3.1⟩ (fun q => ?_) ?_ (fun i p q => ?_) ⟨by rw [hv.1, hm.1]; exact o1.1.1, by rw [hv.2.1, hm.2.1]; exact o1.1.2⟩ ⟨by rw [hv.2.2.2.1, hm.2.2.1]; exact o1.2.1.1, by rw [hv.2.2.2.2, hm.2.2.2]; exact o1.2.1.2.1, n2⟩
  · have := o3.2.2 q
    rw [s1, s1] at this
    rw [hm.2.2.1, hm.2.2.2]; exact this
  · unfold WS at o2 ⊢
    rw [s0, s0, s0, s0, s0, s0, s0, s0, s0, s0, sr 1 0 (by first | decide | omega) (by first | decide | omega), sr 8 0 (by first | decide | omega) (by first | decide | omega), sr 8 1 (by first | decide | omega) (by first | decide | omega), hm.1, hm.2.1, hm.2.2.1, hm.2.2.2, e13]
    rw [s1, s1, s1, s1, s1, s1, s1, s1, s1, s1] at o2
    omega
  · have := (hD.2.1.2.1 i p q).1.2
    rw [s1, s1] at this
    rw [hm.1, hm.2.1]; exact this
theorem DI.nb (hD : DI m v D) : (0 ≤ m D 6 ∧ m D 6 ≤ 20 ∧ 0 ≤ m D 7 ∧ m D 7 ≤ 20 ∧ 0 ≤ m D 8 ∧ m D 8 ≤ 9 ∧ 0 ≤ m D 9 ∧ m D 9 ≤ 3 ∧ 0 ≤ m D 10 ∧ m D 10 ≤ 99999) ∧ (m D 6 = 0 ↔ m D 7 = 0) := by
  have o2 := hD.ws.1
  have s1 : ∀ i, sl 21 m D 0 i = m D i := fun i => sl_e (Nat.zero_le _) i
  unfold WS at o2
  rw [s1, s1, s1, s1, s1, s1, s1, s1, s1, s1] at o2
  omega
theorem l_seed (hD : DI m v D) (h : PostR m v S) (hk : m 47 4 = 6) : LOut (G5_readSeed m) ((G12_onceLine v).bind fun o => G12_lineRead_197 o.2 o.1) m v D S := by
  have hDD := hD.1.1
  have hc : crp 6 4 := by unfold crp; omega
  have hon := onc_at hD.2.2.2.2.1 hc
  have hkr := h.2.2.2.2.2.2.2
  have e9 : v 0 9 = 6 := by
    rw [hk] at hkr
    have ek : kwf 6 = 6 := by decide
    unfold KR SGN NumR at hkr
    rw [ek] at hkr
    omega
  unfold G5_readSeed G5_readSeed_0 G12_onceLine G12_onceLine_0
  rw [if_neg (show ¬ v 0 9 = 1 by first | decide | omega), if_neg (show ¬ v 0 9 = 4 by first | decide | omega), if_neg (show ¬ v 0 9 = 5 by first | decide | omega), c_first]
  by_cases c1 : tb (m 46 6) 6 = 0
  · obtain ⟨hD1, h1⟩ := first_on hD h hc
    have c1v := hon.mp c1
    rw [if_pos c1, bs1]
    unfold G12_onceLine_37
    rw [gdx_t (by first | decide | omega), if_pos c1v, gdx_t (by first | decide | omega), gdb_t (by first | decide | omega)]
    simp only [wt_e, if_neg (show ¬ (4 : Int) = 2 by first | decide | omega), if_neg (show ¬ (4 : Int) = 1 by first | decide | omega), if_neg i10, if_true]
    obtain ⟨v2, z1, z2, p2⟩ := h1.tok
    have hD2 := hD1.k Fm.rf (z2.mono Q7_k)
    rw [z1, bs1]
    have fm : Fm (PX D) m (up m 46 6 (b3or (m 46 6) (b3sl 1 (b3an 6 31)))) := Fm.w1 (by unfold PX; first | decide | omega)
    have fv : Fm QX v (up v 3 4 1) := Fm.w1 (by unfold QX; first | decide | omega)
    refine lo_tr (m1 := up m 46 6 (b3or (m 46 6) (b3sl 1 (b3an 6 31)))) (v1 := v2) ?_ fm (fv.tr ((z2.mono Q7_k).mono Qk_x)) (by rw [up_a (by first | decide | omega)]; first | decide | omega) (by rw [up_a (by first | decide | omega)])
    generalize up m 46 6 (b3or (m 46 6) (b3sl 1 (b3an 6 31))) = m1 at hD1 h1 fm p2 hD2 ⊢
    obtain ⟨m3, v3, f3, g3, q3, k3⟩ := n_in p2 (lo := 0) (hi := 99999) (by first | decide | omega)
    rcases k3 with ⟨x, x1, x2, e1, e2, e3, p3, _⟩ | ⟨e1, e2, e3⟩
    · have e10 : m3 46 10 = (D : Int) := by rw [f3 46 10 (by unfold Pk; first | decide | omega)]; exact hD1.1.2
      rw [e1, e2, bs1, bs1]
      simp only [if_neg i10]
      rw [if_neg (show ¬ x = -1 by first | decide | omega), e10, Int.toNat_natCast, e3, bs1]
      have nr : ∀ i, i ≠ 10 → up m3 D 10 x D i = m1 D i := fun i a => by rw [up_i a, f3 D i (by unfold Pk; first | decide | omega)]
      have w4 : ∀ i, i ≠ 13 → up v3 4 13 x 4 i = v2 4 i := fun i a => by rw [up_i a, g3 4 i (by unfold Qk; first | decide | omega)]
      have o1 := hD2.n
      have o4 := hD2.nb
      obtain ⟨hD5, _⟩ := di_num hD2 (m' := up m3 D 10 x) (v' := up v3 4 13 x) ((f3.mono Pk_f).w (by unfold Pf; first | decide | omega)) ((g3.mono Qk_f).w (by unfold Qf; first | decide | omega)) (by rw [up_a (by first | decide | omega), f3 46 7 (by unfold Pk; first | decide | omega)]) ⟨by rw [up_a (by first | decide | omega), g3 0 18 (by unfold Qk; first | decide | omega)], by rw [up_a (by first | decide | omega), g3 0 19 (by unfold Qk; first | decide | omega)], by rw [up_a (by first | decide | omega), g3 0 24 (by unfold Qk; first | decide | omega)], w4 7 (by first | decide | omega), w4 8 (by first | decide | omega)⟩ ⟨nr 0 (by first | decide | omega), nr 1 (by first | decide | omega), nr 2 (by first | decide | omega), nr 3 (by first | decide | omega)⟩ (by rw [up_e, nr 6 (by first | decide | omega), nr 7 (by first | decide | omega), nr 8 (by first | decide | omega), nr 9 (by first | decide | omega)]; first | decide | omega) (by rw [up_e, up_e, nr 6 (by first | decide | omega), nr 7 (by first | decide | omega), nr 8 (by first | decide | omega), nr 9 (by first | decide | omega), w4 9 (by first | decide | omega), w4 10 (by first | decide | omega), w4 11 (by first | decide | omega), w4 12 (by first | decide | omega)]; exact ⟨o1.2.1.2.2.1, o1.2.1.2.2.2.1, o1.2.1.2.2.2.2.1, o1.2.1.2.2.2.2.2.1, rfl⟩)
      have p5 : PreR (up m3 D 10 x) (up v3 4 13 x) S := p3.f (P := fun b i => b = D) (Q := fun b i => b = 4) (Fm.w1 rfl) (Fm.w1 rfl) (by intro b i q; first | decide | omega) (by intro b i q; first | decide | omega)
      exact lo_tr (lo_stop hD5 p5) ((f3.mono Pk_x).w (by unfold PX; first | decide | omega)) ((g3.mono Qk_x).w (by unfold QX; first | decide | omega)) (by rw [up_a (by first | decide | omega)]; first | decide | omega) (nr 12 (by first | decide | omega))
    · rw [e1, e2, bs1, bs1]
      simp only [if_true, bs1, r197]
      exact lo_flt ⟨m3, v3, f3, g3, q3, rfl, rfl, e3⟩
  · rw [if_neg c1, bs1, onc37 h (by first | decide | omega) (fun q => c1 (hon.mpr q))]
    simp only [if_true]
    exact lo_ref h 3 rfl rfl
theorem KR_b {k a i x : Int} (h : KR k a i x) : 0 ≤ k ∧ k ≤ 40 := by unfold KR SGN NumR at h; omega
theorem kwf_lo {k : Int} (h : k < 15 ∨ 17 < k) : kwf k = k := by unfold kwf; rw [if_neg (by first | decide | omega), if_neg (by first | decide | omega), if_neg (by first | decide | omega)]
theorem kwf_b {k : Int} (h : 0 ≤ k ∧ k < 24) : 0 ≤ kwf k ∧ kwf k < 24 ∧ (15 ≤ k ∧ k ≤ 17 → 15 ≤ kwf k ∧ kwf k ≤ 17) := by
  unfold kwf
  split
  · omega
  · split
    · omega
    · split <;> omega
/-- a word of the language outside 15 .. 17, on both sides -/
theorem KR_kw {k a i x : Int} (h : KR k a i x) {lo hi : Int} (hb : 0 ≤ lo ∧ hi < 24) (h15 : hi < 15 ∨ 17 < lo) : (lo ≤ k ∧ k ≤ hi) ↔ (i = 1 ∧ lo ≤ x ∧ x ≤ hi) := by
  have hb1 : 0 ≤ k ∧ k < 24 → 0 ≤ kwf k ∧ kwf k < 24 ∧ (15 ≤ k ∧ k ≤ 17 → 15 ≤ kwf k ∧ kwf k ≤ 17) := kwf_b
  have hlo : (k < 15 ∨ 17 < k) → kwf k = k := kwf_lo
  unfold KR SGN NumR at h
  omega
theorem l_rule (hD : DI m v D) (h : PostR m v S) (hk : m 47 4 = 5) : LOut (G5_readRule m) ((G12_onceLine v).bind fun o => G12_lineRead_197 o.2 o.1) m v D S := by
  have hDD := hD.1.1
  have hc : crp 5 3 := by unfold crp; omega
  have hon := onc_at hD.2.2.2.2.1 hc
  have hkr := h.2.2.2.2.2.2.2
  have e9 : v 0 9 = 5 := by
    rw [hk] at hkr
    have ek : kwf 5 = 5 := by decide
    unfold KR SGN NumR at hkr
    rw [ek] at hkr
    omega
  unfold G5_readRule G5_readRule_0 G12_onceLine G12_onceLine_0
  rw [if_neg (show ¬ v 0 9 = 1 by first | decide | omega), if_neg (show ¬ v 0 9 = 4 by first | decide | omega), if_pos e9, c_first]
  by_cases c1 : tb (m 46 6) 5 = 0
  · obtain ⟨hD1, h1⟩ := first_on hD h hc
    have c1v := hon.mp c1
    rw [if_pos c1, bs1]
    unfold G12_onceLine_37
    rw [gdx_t (by first | decide | omega), if_pos c1v, gdx_t (by first | decide | omega), gdb_t (by first | decide | omega)]
    simp only [wt_e, if_neg (show ¬ (3 : Int) = 2 by first | decide | omega), if_neg (show ¬ (3 : Int) = 1 by first | decide | omega), if_neg (show ¬ (3 : Int) = 4 by first | decide | omega), if_neg i10, if_true]
    obtain ⟨v2, z1, z2, p2⟩ := h1.tok
    have hD2 := hD1.k Fm.rf (z2.mono Q7_k)
    rw [z1, bs1]
    have fm : Fm (PX D) m (up m 46 6 (b3or (m 46 6) (b3sl 1 (b3an 5 31)))) := Fm.w1 (by unfold PX; first | decide | omega)
    have fv : Fm QX v (up v 3 3 1) := Fm.w1 (by unfold QX; first | decide | omega)
    refine lo_tr (m1 := up m 46 6 (b3or (m 46 6) (b3sl 1 (b3an 5 31)))) (v1 := v2) ?_ fm (fv.tr ((z2.mono Q7_k).mono Qk_x)) (by rw [up_a (by first | decide | omega)]; first | decide | omega) (by rw [up_a (by first | decide | omega)])
    generalize up m 46 6 (b3or (m 46 6) (b3sl 1 (b3an 5 31))) = m1 at hD1 h1 fm p2 hD2 ⊢
    obtain ⟨m3, e3, f3, h3, q3, _⟩ := p2.adv
    have hk3 := h3.2.2.2.2.2.2.2
    have hb3 := KR_b hk3
    have hi3 := KR_kw hk3 (lo := 8) (hi := 11) (by first | decide | omega) (by first | decide | omega)
    have e10 : m3 46 10 = (D : Int) := by rw [f3 46 10 (by unfold P47; first | decide | omega)]; exact hD1.1.2
    rw [e3, bs1, gd3_t (by first | decide | omega), e10, Int.toNat_natCast]
    have hf := f3.mono P47_k
    refine lo_tr (m1 := m3) (v1 := v2) ?_ (hf.mono Pk_x) Fm.rf q3 (f3 D 12 (by unfold P47; first | decide | omega))
    have bad : ¬ (8 ≤ m3 47 4 ∧ m3 47 4 ≤ 11) → LOut (if m3 47 4 - 8 < 0 then G5_readRule_37 m3 else gd3 (m3 47 4 - 8) (if m3 47 4 - 8 < 4 then gd3 (m3 47 4 - 8) ((G5_readStop (up m3 D 9 (m3 47 4 - 8))).bind fun o18 => gdb o18.1 (some (o18.1, o18.2))) else G5_readRule_37 m3)) ((if v2 0 8 = 1 then if v2 0 9 < 8 then G12_onceLine_168 v2 else if v2 0 9 ≤ 11 then gd3 (v2 0 9 - 8) ((G12_token (up v2 4 12 (v2 0 9 - 8))).bind fun o30 => some (1, o30)) else G12_onceLine_168 v2 else G12_onceLine_168 v2).bind fun o => G12_lineRead_197 o.2 o.1) m3 v2 D S := by
      intro hn
      have hX : (if m3 47 4 - 8 < 0 then G5_readRule_37 m3 else gd3 (m3 47 4 - 8) (if m3 47 4 - 8 < 4 then gd3 (m3 47 4 - 8) ((G5_readStop (up m3 D 9 (m3 47 4 - 8))).bind fun o18 => gdb o18.1 (some (o18.1, o18.2))) else G5_readRule_37 m3)) = some (0, up (up m3 46 8 1) 46 9 (m3 47 5)) := by
        have e37 : G5_readRule_37 m3 = some (0, up (up m3 46 8 1) 46 9 (m3 47 5)) := by unfold G5_readRule_37; rw [c_ref, bs1, gdb_t (by first | decide | omega)]
        by_cases a : m3 47 4 - 8 < 0
        · rw [if_pos a, e37]
        · rw [if_neg a, gd3_t (by first | decide | omega), if_neg (by first | decide | omega), e37]
      have hY : ((if v2 0 8 = 1 then if v2 0 9 < 8 then G12_onceLine_168 v2 else if v2 0 9 ≤ 11 then gd3 (v2 0 9 - 8) ((G12_token (up v2 4 12 (v2 0 9 - 8))).bind fun o30 => some (1, o30)) else G12_onceLine_168 v2 else G12_onceLine_168 v2).bind fun o => G12_lineRead_197 o.2 o.1) = some (0, up (up v2 0 4 1) 0 5 (v2 0 10)) := by
        have e168 : G12_onceLine_168 v2 = some (0, up (up v2 0 4 1) 0 5 (v2 0 10)) := by unfold G12_onceLine_168; rw [r_wrong, bs1, gdb_t (by first | decide | omega)]
        by_cases a : v2 0 8 = 1
        · by_cases b : v2 0 9 < 8
          · rw [if_pos a, if_pos b, e168, bs1]; exact r197 _
          · rw [if_pos a, if_neg b, if_neg (by first | decide | omega), e168, bs1]; exact r197 _
        · rw [if_neg a, e168, bs1]; exact r197 _
      exact lo_ref h3 1 hX hY
    by_cases c3 : 8 ≤ m3 47 4 ∧ m3 47 4 ≤ 11
    · obtain ⟨k8, _⟩ := hi3.mp c3
      have ek : v2 0 9 = m3 47 4 := by
        have hlo : kwf (m3 47 4) = m3 47 4 := kwf_lo (by first | decide | omega)
        unfold KR SGN NumR at hk3
        rw [hlo] at hk3
        omega
      rw [if_neg (by first | decide | omega), gd3_t (by first | decide | omega), if_pos (by first | decide | omega), gd3_t (by first | decide | omega), if_pos k8, if_neg (by first | decide | omega), if_pos (by first | decide | omega), gd3_t (by first | decide | omega), ek]
      have h4 : PostR (up m3 D 9 (m3 47 4 - 8)) (up v2 4 12 (m3 47 4 - 8)) S := h3.f (P := fun b i => b = D) (Q := fun b i => b = 4) (Fm.w1 rfl) (Fm.w1 rfl) (by intro b i q; first | decide | omega) (by intro b i q; first | decide | omega)
      obtain ⟨v4, z4, z5, p4⟩ := h4.tok
      rw [z4, bs1, bs1]
      have nr : ∀ i, i ≠ 9 → up m3 D 9 (m3 47 4 - 8) D i = m1 D i := fun i a => by rw [up_i a, f3 D i (by unfold P47; first | decide | omega)]
      have w4 : ∀ i, i ≠ 12 → v4 4 i = v2 4 i := fun i a => by rw [z5 4 i (by unfold Q7; first | decide | omega), up_i a]
      have w12 : v4 4 12 = m3 47 4 - 8 := by rw [z5 4 12 (by unfold Q7; first | decide | omega), up_e]
      have w0 : ∀ i, (i < 7 ∨ 10 < i) → v4 0 i = v2 0 i := fun i a => by rw [z5 0 i (by unfold Q7; first | decide | omega), up_a (by first | decide | omega)]
      have o1 := hD2.n
      have o4 := hD2.nb
      have gv : Fm Qf v2 v4 := (Fm.w1 (by unfold Qf; first | decide | omega)).tr ((z5.mono Q7_k).mono Qk_f)
      obtain ⟨hD5, _⟩ := di_num hD2 (m' := up m3 D 9 (m3 47 4 - 8)) (v' := v4) ((hf.mono Pk_f).w (by unfold Pf; first | decide | omega)) gv (by rw [up_a (by first | decide | omega), f3 46 7 (by unfold P47; first | decide | omega)]) ⟨w0 18 (by first | decide | omega), w0 19 (by first | decide | omega), w0 24 (by first | decide | omega), w4 7 (by first | decide | omega), w4 8 (by first | decide | omega)⟩ ⟨nr 0 (by first | decide | omega), nr 1 (by first | decide | omega), nr 2 (by first | decide | omega), nr 3 (by first | decide | omega)⟩ (by rw [up_e, nr 6 (by first | decide | omega), nr 7 (by first | decide | omega), nr 8 (by first | decide | omega), nr 10 (by first | decide | omega)]; first | decide | omega) (by rw [up_e, w12, nr 6 (by first | decide | omega), nr 7 (by first | decide | omega), nr 8 (by first | decide | omega), nr 10 (by first | decide | omega), w4 9 (by first | decide | omega), w4 10 (by first | decide | omega), w4 11 (by first | decide | omega), w4 13 (by first | decide | omega)]; exact ⟨o1.2.1.2.2.1, o1.2.1.2.2.2.1, o1.2.1.2.2.2.2.1, rfl, o1.2.1.2.2.2.2.2.2⟩)
      refine lo_tr (lo_stop hD5 p4) (Fm.w1 (by unfold PX; first | decide | omega)) ((Fm.w1 (by unfold QX; first | decide | omega)).tr ((z5.mono Q7_k).mono Qk_x)) (by rw [up_a (by first | decide | omega)]; first | decide | omega) ?_
      rw [nr 12 (by first | decide | omega), f3 D 12 (by unfold P47; first | decide | omega)]
    · exact bad c3
  · rw [if_neg c1, bs1, onc37 h (by first | decide | omega) (fun q => c1 (hon.mpr q))]
    simp only [if_true]
    exact lo_ref h 3 rfl rfl
theorem l_bank (hD : DI m v D) (h : PostR m v S) (hk : m 47 4 = 4) : LOut (G5_readBank m) ((G12_onceLine v).bind fun o => G12_lineRead_197 o.2 o.1) m v D S := by
  have hDD := hD.1.1
  have hc : crp 4 2 := by unfold crp; omega
  have hon := onc_at hD.2.2.2.2.1 hc
  have hkr := h.2.2.2.2.2.2.2
  have e9 : v 0 9 = 4 := by
    rw [hk] at hkr
    have ek : kwf 4 = 4 := by decide
    unfold KR SGN NumR at hkr
    rw [ek] at hkr
    omega
  unfold G5_readBank G5_readBank_0 G12_onceLine G12_onceLine_0
  rw [if_neg (show ¬ v 0 9 = 1 by first | decide | omega), if_pos e9, c_first]
  by_cases c1 : tb (m 46 6) 4 = 0
  · obtain ⟨hD1, h1⟩ := first_on hD h hc
    have c1v := hon.mp c1
    rw [if_pos c1, bs1]
    unfold G12_onceLine_37 G12_bankLine G12_bankLine_0
    rw [gdx_t (by first | decide | omega), if_pos c1v, gdx_t (by first | decide | omega), gdb_t (by first | decide | omega)]
    simp only [wt_e, if_neg i10, if_true]
    obtain ⟨v2, z1, z2, p2⟩ := h1.tok
    have hD2 := hD1.k Fm.rf (z2.mono Q7_k)
    rw [z1, bs1]
    have fm : Fm (PX D) m (up m 46 6 (b3or (m 46 6) (b3sl 1 (b3an 4 31)))) := Fm.w1 (by unfold PX; first | decide | omega)
    have fv : Fm QX v (up v 3 2 1) := Fm.w1 (by unfold QX; first | decide | omega)
    refine lo_tr (m1 := up m 46 6 (b3or (m 46 6) (b3sl 1 (b3an 4 31)))) (v1 := v2) ?_ fm (fv.tr ((z2.mono Q7_k).mono Qk_x)) (by rw [up_a (by first | decide | omega)]; first | decide | omega) (by rw [up_a (by first | decide | omega)])
    generalize up m 46 6 (b3or (m 46 6) (b3sl 1 (b3an 4 31))) = m1 at hD1 h1 fm p2 hD2 ⊢
    obtain ⟨m3, v3, f3, g3, q3, k3⟩ := n_in p2 (lo := 1) (hi := 20) (by first | decide | omega)
    rcases k3 with ⟨x, x1, x2, e1, e2, e3, p3, _⟩ | ⟨e1, e2, e3⟩
    · rw [e1, e2, bs1, bs1]
      simp only [if_neg i10]
      rw [if_neg (show ¬ x = -1 by first | decide | omega), e3]
      have p3' : PreR m3 (up v3 4 9 x) S := p3.f (P := fun _ _ => False) (Q := fun b i => b = 4) Fm.rf (Fm.w1 rfl) (fun b i _ => id) (by intro b i q; first | decide | omega)
      refine lo_tr (m1 := m3) (v1 := up v3 4 9 x) ?_ (f3.mono Pk_x) ((g3.mono Qk_x).w (by unfold QX; first | decide | omega)) q3 (f3 D 12 (by unfold Pk; first | decide | omega))
      obtain ⟨m4, v4, f4, g4, q4, k4⟩ := n_in p3' (lo := 1) (hi := 20) (by first | decide | omega)
      rcases k4 with ⟨y, y1, y2, e4, e5, e6, p4, _⟩ | ⟨e4, e5, e6⟩
      · rw [e4, e5, bs1, bs1]
        simp only [if_neg i10]
        unfold G5_readBank_34
        rw [if_neg (show ¬ y = -1 by first | decide | omega), e6]
        have p4' : PreR m4 (up v4 4 10 y) S := p4.f (P := fun _ _ => False) (Q := fun b i => b = 4) Fm.rf (Fm.w1 rfl) (fun b i _ => id) (by intro b i q; first | decide | omega)
        refine lo_tr (m1 := m4) (v1 := up v4 4 10 y) ?_ (f4.mono Pk_x) ((g4.mono Qk_x).w (by unfold QX; first | decide | omega)) q4 (f4 D 12 (by unfold Pk; first | decide | omega))
        obtain ⟨m5, v5, f5, g5, q5, k5⟩ := n_in p4' (lo := 1) (hi := 9) (by first | decide | omega)
        rcases k5 with ⟨z, z3, z4, e7, e8, e11, p5, _⟩ | ⟨e7, e8, e11⟩
        · rw [e7, e8, bs1, bs1]
          simp only [if_neg i10]
          unfold G5_readBank_51
          have e10 : m5 46 10 = (D : Int) := by rw [f5 46 10 (by unfold Pk; first | decide | omega), f4 46 10 (by unfold Pk; first | decide | omega), f3 46 10 (by unfold Pk; first | decide | omega)]; exact hD1.1.2
          have e10a : up m5 D 6 x 46 10 = (D : Int) := by rw [up_a (by first | decide | omega)]; exact e10
          have e10b : up (up m5 D 6 x) D 7 y 46 10 = (D : Int) := by rw [up_a (by first | decide | omega)]; exact e10a
          rw [if_neg (show ¬ z = -1 by first | decide | omega), e11, e10, Int.toNat_natCast, wt_e, e10a, Int.toNat_natCast, wt_e, e10b, Int.toNat_natCast, wt_e, bs1]
          simp only [gdb_t (show (1 : Int) = 0 ∨ (1 : Int) = 1 from Or.inr rfl), bs1]
          have nr : ∀ i, i ≠ 6 → i ≠ 7 → i ≠ 8 → up (up (up m5 D 6 x) D 7 y) D 8 z D i = m1 D i := fun i a b c => by rw [up_i c, up_i b, up_i a, f5 D i (by unfold Pk; first | decide | omega), f4 D i (by unfold Pk; first | decide | omega), f3 D i (by unfold Pk; first | decide | omega)]
          have n6 : up (up (up m5 D 6 x) D 7 y) D 8 z D 6 = x := by rw [up_i (by first | decide | omega), up_i (by first | decide | omega), up_e]
          have n7 : up (up (up m5 D 6 x) D 7 y) D 8 z D 7 = y := by rw [up_i (by first | decide | omega), up_e]
          have w4 : ∀ i, i ≠ 9 → i ≠ 10 → i ≠ 11 → up v5 4 11 z 4 i = v2 4 i := fun i a b c => by rw [up_i c, g5 4 i (by unfold Qk; first | decide | omega), up_i b, g4 4 i (by unfold Qk; first | decide | omega), up_i a, g3 4 i (by unfold Qk; first | decide | omega)]
          have w9 : up v5 4 11 z 4 9 = x := by rw [up_i (by first | decide | omega), g5 4 9 (by unfold Qk; first | decide | omega), up_i (by first | decide | omega), g4 4 9 (by unfold Qk; first | decide | omega), up_e]
          have w10 : up v5 4 11 z 4 10 = y := by rw [up_i (by first | decide | omega), g5 4 10 (by unfold Qk; first | decide | omega), up_e]
          have w0 : ∀ i, ¬ Qk 0 i → up v5 4 11 z 0 i = v2 0 i := fun i a => by rw [up_a (by first | decide | omega), g5 0 i a, up_a (by first | decide | omega), g4 0 i a, up_a (by first | decide | omega), g3 0 i a]
          have o1 := hD2.n
          have o4 := hD2.nb
          have fm5 : Fm (Pf D) m1 (up (up (up m5 D 6 x) D 7 y) D 8 z) := (((((f3.tr f4).tr f5).mono Pk_f).w (by unfold Pf; first | decide | omega)).w (by unfold Pf; first | decide | omega)).w (by unfold Pf; first | decide | omega)
          have fv5 : Fm Qf v2 (up v5 4 11 z) := (((((g3.mono Qk_f).w (by unfold Qf; first | decide | omega)).tr (g4.mono Qk_f)).w (by unfold Qf; first | decide | omega)).tr (g5.mono Qk_f)).w (by unfold Qf; first | decide | omega)
          obtain ⟨hD5, _⟩ := di_num hD2 fm5 fv5 (by rw [up_a (by first | decide | omega), up_a (by first | decide | omega), up_a (by first | decide | omega), f5 46 7 (by unfold Pk; first | decide | omega), f4 46 7 (by unfold Pk; first | decide | omega), f3 46 7 (by unfold Pk; first | decide | omega)]) ⟨w0 18 (by unfold Qk; first | decide | omega), w0 19 (by unfold Qk; first | decide | omega), w0 24 (by unfold Qk; first | decide | omega), w4 7 (by first | decide | omega) (by first | decide | omega) (by first | decide | omega), w4 8 (by first | decide | omega) (by first | decide | omega) (by first | decide | omega)⟩ ⟨nr 0 (by first | decide | omega) (by first | decide | omega) (by first | decide | omega), nr 1 (by first | decide | omega) (by first | decide | omega) (by first | decide | omega), nr 2 (by first | decide | omega) (by first | decide | omega) (by first | decide | omega), nr 3 (by first | decide | omega) (by first | decide | omega) (by first | decide | omega)⟩ (by rw [n6, n7, up_e, nr 9 (by first | decide | omega) (by first | decide | omega) (by first | decide | omega), nr 10 (by first | decide | omega) (by first | decide | omega) (by first | decide | omega)]; first | decide | omega) (by rw [n6, n7, w9, w10, up_e, up_e, nr 9 (by first | decide | omega) (by first | decide | omega) (by first | decide | omega), nr 10 (by first | decide | omega) (by first | decide | omega) (by first | decide | omega), w4 12 (by first | decide | omega) (by first | decide | omega) (by first | decide | omega), w4 13 (by first | decide | omega) (by first | decide | omega) (by first | decide | omega)]; exact ⟨rfl, rfl, rfl, o1.2.1.2.2.2.2.2.1, o1.2.1.2.2.2.2.2.2⟩)
          have p6 : PreR (up (up (up m5 D 6 x) D 7 y) D 8 z) (up v5 4 11 z) S := p5.f (P := fun b i => b = D) (Q := fun b i => b = 4) (((Fm.w1 rfl).w rfl).w rfl) (Fm.w1 rfl) (by intro b i q; first | decide | omega) (by intro b i q; first | decide | omega)
          refine lo_tr (lo_stop hD5 p6) ((((f5.mono Pk_x).w (by unfold PX; first | decide | omega)).w (by unfold PX; first | decide | omega)).w (by unfold PX; first | decide | omega)) ((g5.mono Qk_x).w (by unfold QX; first | decide | omega)) (by rw [up_a (by first | decide | omega), up_a (by first | decide | omega), up_a (by first | decide | omega)]; first | decide | omega) ?_
          rw [nr 12 (by first | decide | omega) (by first | decide | omega) (by first | decide | omega), f4 D 12 (by unfold Pk; first | decide | omega), f3 D 12 (by unfold Pk; first | decide | omega)]
        · rw [e7, e8, bs1, bs1]
          unfold G5_readBank_51
          simp only [if_true, bs1, gdb_t (show (0 : Int) = 0 ∨ (0 : Int) = 1 from Or.inl rfl), r197]
          exact lo_flt ⟨m5, v5, f5, g5, q5, rfl, rfl, e11⟩
      · rw [e4, e5, bs1, bs1]
        unfold G5_readBank_34 G5_readBank_51
        simp only [if_true, bs1, gdb_t (show (0 : Int) = 0 ∨ (0 : Int) = 1 from Or.inl rfl), r197]
        exact lo_flt ⟨m4, v4, f4, g4, q4, rfl, rfl, e6⟩
    · rw [e1, e2, bs1, bs1]
      unfold G5_readBank_34 G5_readBank_51
      simp only [if_true, bs1, gdb_t (show (0 : Int) = 0 ∨ (0 : Int) = 1 from Or.inl rfl), r197]
      exact lo_flt ⟨m3, v3, f3, g3, q3, rfl, rfl, e3⟩
  · rw [if_neg c1, bs1, onc37 h (by first | decide | omega) (fun q => c1 (hon.mpr q))]
    simp only [if_true]
    exact lo_ref h 3 rfl rfl
end Q27
/-! The line of a surfer on both sides. -/
section Q28
variable {m v : Mem} {S : Int} {D : Nat}
/-- a surfer is laid behind the others -/
theorem c_addc {a : Nat} {x1 x2 x3 x4 x5 x6 : Int} (h : 0 ≤ m a 0 ∧ m a 0 < 5) : ∃ m', G1_add m a x1 x2 x3 x4 x5 x6 = some m' ∧ Fm (fun b i => (b = a ∧ i = 0) ∨ (a + 1 ≤ b ∧ b ≤ a + 6 ∧ i = m a 0)) m m' ∧ m' a 0 = m a 0 + 1 ∧ m' (a + 1) (m a 0) = x1 ∧ m' (a + 2) (m a 0) = x2 ∧ m' (a + 3) (m a 0) = x3 ∧ m' (a + 4) (m a 0) = x4 ∧ m' (a + 5) (m a 0) = x5 ∧ m' (a + 6) (m a 0) = x6 := by
  have e0 : m a 0 = m a 0 := rfl
  generalize hn : m a 0 = n at *
  have e1 : up m (a + 1) n x1 a 0 = n := by rw [up_a (by first | decide | omega)]; exact hn
  have e2 : up (up m (a + 1) n x1) (a + 2) n x2 a 0 = n := by rw [up_a (by first | decide | omega)]; exact e1
  have e3 : up (up (up m (a + 1) n x1) (a + 2) n x2) (a + 3) n x3 a 0 = n := by rw [up_a (by first | decide | omega)]; exact e2
  have e4 : up (up (up (up m (a + 1) n x1) (a + 2) n x2) (a + 3) n x3) (a + 4) n x4 a 0 = n := by rw [up_a (by first | decide | omega)]; exact e3
  have e5 : up (up (up (up (up m (a + 1) n x1) (a + 2) n x2) (a + 3) n x3) (a + 4) n x4) (a + 5) n x5 a 0 = n := by rw [up_a (by first | decide | omega)]; exact e4
  have e6 : up (up (up (up (up (up m (a + 1) n x1) (a + 2) n x2) (a + 3) n x3) (a + 4) n x4) (a + 5) n x5) (a + 6) n x6 a 0 = n := by rw [up_a (by first | decide | omega)]; exact e5
  unfold G1_add G1_add_0
  rw [hn, if_pos h.2, gdx_t h, wt_e, e1, gdx_t h, wt_e, e2, gdx_t h, wt_e, e3, gdx_t h, wt_e, e4, gdx_t h, wt_e, e5, gdx_t h, wt_e, e6, gd3_t (by first | decide | omega), wt_e]
  refine ⟨_, rfl, ((((((Fm.w1 ?_).w ?_).w ?_).w ?_).w ?_).w ?_).w ?_, up_e, ?_, ?_, ?_, ?_, ?_, ?_⟩
  · omega
  · omega
  · omega
  · omega
  · omega
  · omega
  · omega
  · rw [up_a (by first | decide | omega), up_a (by first | decide | omega), up_a (by first | decide | omega), up_a (by first | decide | omega), up_a (by first | decide | omega), up_a (by first | decide | omega), up_e]
  · rw [up_a (by first | decide | omega), up_a (by first | decide | omega), up_a (by first | decide | omega), up_a (by first | decide | omega), up_a (by first | decide | omega), up_e]
  · rw [up_a (by first | decide | omega), up_a (by first | decide | omega), up_a (by first | decide | omega), up_a (by first | decide | omega), up_e]
  · rw [up_a (by first | decide | omega), up_a (by first | decide | omega), up_a (by first | decide | omega), up_e]
  · rw [up_a (by first | decide | omega), up_a (by first | decide | omega), up_e]
  · rw [up_a (by first | decide | omega), up_e]
/-- is the name told already -/
theorem l_has {a : Nat} {n x : Int} (ha : m a 0 = n) (hn : n ≤ 5) (he : ∀ j, 0 ≤ j → j < n → m (a + 1) j = v 5 (5 + j)) : ∀ (d k : Nat) (i : Int), (n - i).toNat = d → d < k → 0 ≤ i → (G1_hasName_2 k m a x i = some (0, m) ∧ G12_find_3 k v 5 n x i = some (-1, v)) ∨ (G1_hasName_2 k m a x i = some (1, m) ∧ ∃ r, 0 ≤ r ∧ G12_find_3 k v 5 n x i = some (r, v)) := by
  intro d
  induction d with
  | zero =>
    intro k i h1 h2 h3
    obtain ⟨k, rfl⟩ : ∃ j, k = j + 1 := ⟨k - 1, by first | decide | omega⟩
    rw [G1_hasName_2, G12_find_3, ha, if_pos (by first | decide | omega), if_pos (by first | decide | omega)]
    exact Or.inl ⟨rfl, rfl⟩
  | succ d ih =>
    intro k i h1 h2 h3
    obtain ⟨k, rfl⟩ : ∃ j, k = j + 1 := ⟨k - 1, by first | decide | omega⟩
    rw [G1_hasName_2, G12_find_3, ha]
    simp only [if_neg (show ¬ n ≤ i by first | decide | omega)]
    rw [gdx_t (by first | decide | omega), gdx_t (by first | decide | omega), he i h3 (by first | decide | omega)]
    by_cases c : v 5 (5 + i) = x
    · exact Or.inr ⟨by rw [if_pos c], i, h3, by rw [if_pos c]⟩
    · simp only [if_neg c]
      rw [gd3_t (by first | decide | omega), gd3_t (by first | decide | omega)]
      exact ih k (i + 1) (by first | decide | omega) (by first | decide | omega) (by first | decide | omega)
/-- what a surfer's line changes -/
def PSu (D : Nat) (n : Int) : Nat → Int → Prop := fun b i => Pk b i ∨ (b = 46 ∧ i = 7) ∨ (b = D + 1 ∧ i = 0) ∨ (D + 2 ≤ b ∧ b ≤ D + 7 ∧ i = n)
def QSu (n : Int) : Nat → Int → Prop := fun b i => Qk b i ∨ (b = 0 ∧ (i = 20 ∨ i = 24 ∨ i = 43)) ∨ (5 ≤ b ∧ b ≤ 10 ∧ i = 5 + n)
/-- the draft behind a surfer's line -/
theorem di_surf (hD : DI m v D) {m' v' : Mem} {n : Int} (hn : n = m (D + 1) 0 ∧ n < 5) (f : Fm (PSu D n) m m') (g : Fm (QSu n) v v') (h7 : m' 46 7 = 1 ∧ v' 0 24 = 1) (hs : m' (D + 1) 0 = n + 1 ∧ v' 0 20 = n + 1) (hv : v' 5 (5 + n) = m' (D + 2) n ∧ v' 6 (5 + n) = m' (D + 3) n ∧ v' 7 (5 + n) = m' (D + 4) n ∧ v' 8 (5 + n) = m' (D + 5) n ∧ v' 9 (5 + n) = m' (D + 6) n ∧ v' 10 (5 + n) = m' (D + 7) n) (hb : (0 ≤ m' (D + 3) n ∧ m' (D + 3) n < m D 0 * m D 1) ∧ (1 ≤ m' (D + 4) n ∧ m' (D + 4) n ≤ 9) ∧ (1 ≤ m' (D + 5) n ∧ m' (D + 5) n ≤ 3) ∧ (0 ≤ m' (D + 6) n ∧ m' (D + 6) n ≤ 100) ∧ (0 ≤ m' (D + 7) n ∧ m' (D + 7) n ≤ 100)) : DI m' v' D := by
  obtain ⟨h1, ⟨hS, hC, hT, hV, hL⟩, ⟨⟨a1, a2, a3, a4, a5, a6⟩, b, c, d, e, r1, r2, r3⟩, h4, h5, h6⟩ := hD
  have hDD := h1.1
  have e0 : sl 21 m' D 0 = sl 21 m D 0 := funext fun i => by rw [sl_e (Nat.zero_le _), sl_e (Nat.zero_le _)]; exact f D i (by unfold PSu Pk; first | decide | omega)
  have e8 : ∀ c : Nat, 8 ≤ c → sl 21 m' D c = sl 21 m D c := fun c hc => by
    funext i
    by_cases c21 : c ≤ 21
    · rw [sl_e c21, sl_e c21]; exact f (D + c) i (by unfold PSu Pk; first | decide | omega)
    · unfold sl; rw [if_neg c21, if_neg c21]
  have e1 : sl 21 m' D 1 0 = n + 1 := by rw [sl_e (by first | decide | omega)]; exact hs.1
  have e1' : sl 21 m D 1 0 = n := by rw [sl_e (by first | decide | omega)]; exact hn.1.symm
  have el : ∀ (c : Nat) i, 2 ≤ c → c ≤ 7 → i ≠ n → sl 21 m' D c i = sl 21 m D c i := fun c i p q r => by rw [sl_e (by first | decide | omega), sl_e (by first | decide | omega)]; exact f (D + c) i (by unfold PSu Pk; first | decide | omega)
  have en : ∀ (c : Nat), c ≤ 7 → sl 21 m' D c n = m' (D + c) n := fun c q => sl_e (by first | decide | omega) n
  have k0 : ∀ i, i + 6 ≠ 20 → i + 6 ≠ 24 → i + 6 ≠ 43 → ¬ Qk 0 (i + 6) → kd v' 0 i = kd v 0 i := fun i p q r s => by
    show v' 0 (i + 6) = v 0 (i + 6)
    exact g 0 _ (by unfold QSu; rintro (z | z | z); exact s z; omega; first | decide | omega)
  have k4 : kd v' 4 = kd v 4 := funext fun i => g 4 _ (by unfold QSu Qk; first | decide | omega)
  have kl : ∀ (c : Nat) i, 5 ≤ c → c ≤ 10 → i ≠ n → kd v' c i = kd v c i := fun c i p q r => by
    show v' c (sh c i) = v c (sh c i)
    have : sh c i = 5 + i := by unfold sh; rw [if_neg (by first | decide | omega), if_neg (by first | decide | omega), if_pos (by first | decide | omega)]
    rw [this]
    exact g c _ (by unfold QSu Qk; first | decide | omega)
  have k11 : ∀ c : Nat, 11 ≤ c → kd v' c = kd v c := fun c hc => funext fun i => g c _ (by unfold QSu Qk; first | decide | omega)
  refine ⟨⟨hDD, by rw [f 46 10 (by unfold PSu Pk; first | decide | omega)]; exact h1.2⟩, ⟨?_, ?_, ?_, ?_, ?_⟩, ⟨⟨?_, ?_, ?_, ?_, ?_, ?_⟩, ?_, ?_, ?_, ?_, ?_, ?_, ?_⟩, ⟨?_, ?_, ?_⟩, ?_, ?_⟩
  · unfold WS at hS ⊢
    rw [e0, e8 8 (by first | decide | omega), e1]
    rw [e1'] at hS
    omega
  · intro i p q
    rw [e1] at q
    rw [e0]
    by_cases c : i = n
    · rw [c, en 3 (by first | decide | omega), en 4 (by first | decide | omega), en 5 (by first | decide | omega), en 6 (by first | decide | omega), en 7 (by first | decide | omega), sl_e (by first | decide | omega), sl_e (by first | decide | omega)]
      exact hb
    · rw [el 3 i (by first | decide | omega) (by first | decide | omega) c, el 4 i (by first | decide | omega) (by first | decide | omega) c, el 5 i (by first | decide | omega) (by first | decide | omega) c, el 6 i (by first | decide | omega) (by first | decide | omega) c, el 7 i (by first | decide | omega) (by first | decide | omega) c]
      exact hC i p (by first | decide | omega)
  · unfold WT
    rw [e8 8 (by first | decide | omega), e8 9 (by first | decide | omega), e8 10 (by first | decide | omega)]; exact hT
  · unfold WV
    rw [e8 8 (by first | decide | omega), e8 9 (by first | decide | omega), e8 10 (by first | decide | omega), e8 11 (by first | decide | omega), e8 12 (by first | decide | omega), e8 13 (by first | decide | omega), e8 14 (by first | decide | omega)]; exact hV
  · unfold WLX
    rw [e8 16 (by first | decide | omega), e8 17 (by first | decide | omega), e8 18 (by first | decide | omega), e8 19 (by first | decide | omega), e8 20 (by first | decide | omega), e8 21 (by first | decide | omega)]; exact hL
  · rw [k0 12 (by first | decide | omega) (by first | decide | omega) (by first | decide | omega) (by unfold Qk; first | decide | omega), e0]; exact a1
  · rw [k0 13 (by first | decide | omega) (by first | decide | omega) (by first | decide | omega) (by unfold Qk; first | decide | omega), e0]; exact a2
  · rw [e1]; exact hs.2
  · rw [k0 15 (by first | decide | omega) (by first | decide | omega) (by first | decide | omega) (by unfold Qk; first | decide | omega), e8 8 (by first | decide | omega)]; exact a4
  · rw [k0 16 (by first | decide | omega) (by first | decide | omega) (by first | decide | omega) (by unfold Qk; first | decide | omega), e8 8 (by first | decide | omega)]; exact a5
  · rw [k0 17 (by first | decide | omega) (by first | decide | omega) (by first | decide | omega) (by unfold Qk; first | decide | omega), e0]; exact a6
  · rw [k4, e0]; exact b
  · intro i p q
    rw [e1] at q
    by_cases cc : i = n
    · rw [cc, en 2 (by first | decide | omega), en 3 (by first | decide | omega), en 4 (by first | decide | omega), en 5 (by first | decide | omega), en 6 (by first | decide | omega), en 7 (by first | decide | omega)]
      exact hv
    · rw [el 2 i (by first | decide | omega) (by first | decide | omega) cc, el 3 i (by first | decide | omega) (by first | decide | omega) cc, el 4 i (by first | decide | omega) (by first | decide | omega) cc, el 5 i (by first | decide | omega) (by first | decide | omega) cc, el 6 i (by first | decide | omega) (by first | decide | omega) cc, el 7 i (by first | decide | omega) (by first | decide | omega) cc, kl 5 i (by first | decide | omega) (by first | decide | omega) cc, kl 6 i (by first | decide | omega) (by first | decide | omega) cc, kl 7 i (by first | decide | omega) (by first | decide | omega) cc, kl 8 i (by first | decide | omega) (by first | decide | omega) cc, kl 9 i (by first | decide | omega) (by first | decide | omega) cc, kl 10 i (by first | decide | omega) (by first | decide | omega) cc]
      exact c i p (by first | decide | omega)
  · rw [k11 11 (by first | decide | omega), e8 8 (by first | decide | omega), e8 9 (by first | decide | omega)]; exact d
  · rw [k11 12 (by first | decide | omega), k11 13 (by first | decide | omega), k11 14 (by first | decide | omega), e8 8 (by first | decide | omega), e8 11 (by first | decide | omega), e8 12 (by first | decide | omega), e8 13 (by first | decide | omega)]; exact e
  · exact r1.fr3 (fun c p q => k11 c (by first | decide | omega)) (e8 16 (by first | decide | omega)) (e8 17 (by first | decide | omega))
  · exact r2.fr3 (fun c p q => k11 c (by first | decide | omega)) (e8 18 (by first | decide | omega)) (e8 19 (by first | decide | omega))
  · exact r3.fr3 (fun c p q => k11 c (by first | decide | omega)) (e8 20 (by first | decide | omega)) (e8 21 (by first | decide | omega))
  · exact Or.inr h7.1
  · rw [h7.1, h7.2]
  · intro q; rw [h7.1] at q; omega
  · unfold ONC
    rw [f 46 6 (by unfold PSu Pk; first | decide | omega), g.rw1 (b := 3) (fun i => by unfold QSu Qk; first | decide | omega)]; exact h5
  · exact ⟨by rw [g 0 49 (by unfold QSu Qk; first | decide | omega), e0]; exact h6.1, h6.2.f g (by intro b i q; unfold QSu Qk; first | decide | omega)⟩
/-- a number of the surfer that is written down at once -/
theorem st_row {lo hi : Int} {K : Mem → Int → Option (Int × Mem)} {R : Mem → Option (Int × Mem)} {row : Nat} {idx : Int} (hDD : D = 2 ∨ D = 24) (p : PreR m v S) (hb : 0 ≤ lo ∧ hi ≤ 99999) (hr : 5 ≤ row ∧ row ≤ 10) (hx : 5 ≤ idx ∧ idx < 10) (hK : ∀ m', K m' (-1) = some (0, m')) (hR : ∀ x m' v', lo ≤ x → x ≤ hi → Fm Pk m m' → Fm (fun b i => Qk b i ∨ (b = row ∧ i = idx)) v v' → v' row idx = x → PreR m' v' S → LOut (K m' x) ((R v').bind fun o => G12_lineRead_197 o.2 o.1) m' v' D S) : LOut ((G5_numberIn m lo hi).bind fun o => K o.2 o.1) (((G12_number v lo hi).bind fun o => if o.1 = 0 then some (0, o.2) else gdx idx 10 (wt (up o.2 row idx (o.2 0 11)) R)).bind fun o => G12_lineRead_197 o.2 o.1) m v D S := by
  obtain ⟨m3, v3, f3, g3, q3, k3⟩ := n_in p hb
  rcases k3 with ⟨x, x1, x2, e1, e2, e3, p3, _⟩ | ⟨e1, e2, e3⟩
  · rw [e1, e2, bs1, bs1]
    simp only [if_neg i10]
    rw [gdx_t (by first | decide | omega), wt_e, e3]
    have p4 : PreR m3 (up v3 row idx x) S := p3.f (P := fun _ _ => False) (Q := fun b i => b = row) Fm.rf (Fm.w1 rfl) (fun b i _ => id) (by intro b i q; first | decide | omega)
    have g4 : Fm (fun b i => Qk b i ∨ (b = row ∧ i = idx)) v (up v3 row idx x) := (g3.mono (fun b i q => Or.inl q)).w (Or.inr ⟨rfl, rfl⟩)
    exact lo_tr (hR x m3 _ x1 x2 f3 g4 up_e p4) (f3.mono Pk_x) (g4.mono (by intro b i q; rcases q with q | q; (exact Qk_x b i q); (unfold QX; first | decide | omega))) q3 (f3 D 12 (by unfold Pk; first | decide | omega))
  · rw [e1, e2, bs1, bs1, hK]
    simp only [if_true, bs1, r197]
    exact lo_flt ⟨m3, v3, f3, g3, q3, rfl, rfl, e3⟩
theorem Pk_s {n : Int} : ∀ b i, Pk b i → PSu D n b i := fun _ _ h => Or.inl h
theorem Qk_s {n : Int} : ∀ b i, Qk b i → QSu n b i := fun _ _ h => Or.inl h
theorem Qr_s {n : Int} {row : Nat} (hr : 5 ≤ row ∧ row ≤ 10) : ∀ b i, (Qk b i ∨ (b = row ∧ i = 5 + n)) → QSu n b i := by
  intro b i q
  rcases q with q | q
  · exact Or.inl q
  · unfold QSu; omega
theorem Ps_x {n : Int} : ∀ b i, PSu D n b i → PX D b i := by intro b i h; unfold PSu Pk at h; unfold PX; omega
theorem Qs_x {n : Int} (hn : 0 ≤ n) : ∀ b i, QSu n b i → QX b i := by intro b i h; unfold QSu Qk at h; unfold QX; omega
/-- the surfer is laid on both sides, the line's stop -/
theorem s_end (hD : DI m v D) {m' v' : Mem} {n nm x y bd pc bo be : Int} (hn : n = m (D + 1) 0 ∧ 0 ≤ n ∧ n < 5) (f : Fm (PSu D n) m m') (g : Fm (QSu n) v v') (h7 : m' 46 7 = 1 ∧ v' 0 24 = 1) (hs : m' (D + 1) 0 = n ∧ v' 0 20 = n) (hv : v' 5 (5 + n) = nm ∧ v' 6 (5 + n) = m D 0 * y + x ∧ v' 7 (5 + n) = bd ∧ v' 8 (5 + n) = pc ∧ v' 9 (5 + n) = bo ∧ v' 10 (5 + n) = be) (hb : ((0 ≤ x ∧ x < m D 0) ∧ (0 ≤ y ∧ y < m D 1)) ∧ (1 ≤ bd ∧ bd ≤ 9) ∧ (1 ≤ pc ∧ pc ≤ 3) ∧ (0 ≤ bo ∧ bo ≤ 100) ∧ (0 ≤ be ∧ be ≤ 100)) (p : PreR m' v' S) : LOut (G5_readSurfer_195 m' nm x y bd pc bo be) ((gd3 (v' 0 20 + 1) (wt (up v' 0 20 (v' 0 20 + 1)) fun m79 => some (1, m79))).bind fun o => G12_lineRead_197 o.2 o.1) m' v' D S := by
  have hDD := hD.1.1
  have hw := hD.ws.2
  have e10 : m' 46 10 = (D : Int) := by rw [f 46 10 (by unfold PSu Pk; first | decide | omega)]; exact hD.1.2
  have eD : m' D 0 = m D 0 := f D 0 (by unfold PSu Pk; first | decide | omega)
  have hc : 0 ≤ y * m D 0 + x ∧ y * m D 0 + x < m D 0 * m D 1 ∧ m D 0 * m D 1 ≤ 48 := by
    obtain ⟨⟨⟨x1, x2⟩, y1, y2⟩, _⟩ := hb
    have t1 : 0 ≤ y * m D 0 := Int.mul_nonneg y1 (by first | decide | omega)
    have t2 : (y + 1) * m D 0 ≤ m D 1 * m D 0 := Int.mul_le_mul_of_nonneg_right (by first | decide | omega) (by first | decide | omega)
    have t3 : m D 1 * m D 0 ≤ 6 * 8 := Int.mul_le_mul hw.2.2 hw.1.2 (by first | decide | omega) (by first | decide | omega)
    rw [Int.add_mul] at t2
    rw [Int.mul_comm (m D 0) (m D 1)]
    omega
  unfold G5_readSurfer_195
  rw [if_neg (show ¬ be = -1 by first | decide | omega), e10, Int.toNat_natCast, eD, gd3_t (by first | decide | omega)]
  obtain ⟨m2, a1, a2, a3, a4, a5, a6, a7, a8, a9⟩ := c_addc (m := m') (a := D + 1) (x1 := nm) (x2 := y * m D 0 + x) (x3 := bd) (x4 := pc) (x5 := bo) (x6 := be) (by first | decide | omega)
  rw [hs.1] at a2 a3 a4 a5 a6 a7 a8 a9
  rw [a1, bs1, hs.2, gd3_t (by first | decide | omega), wt_e, bs1]
  have f2 : Fm (PSu D n) m m2 := f.tr (a2.mono (by intro b i q; unfold PSu; first | decide | omega))
  have g2 : Fm (QSu n) v (up v' 0 20 (n + 1)) := g.w (by unfold QSu; first | decide | omega)
  have nr : ∀ (b : Nat), 5 ≤ b → up v' 0 20 (n + 1) b = v' b := fun b q => funext fun i => up_a (by first | decide | omega)
  have hD2 : DI m2 (up v' 0 20 (n + 1)) D := by
    refine di_surf hD ⟨hn.1, hn.2.2⟩ f2 g2 ⟨by rw [a2 46 7 (by first | decide | omega)]; exact h7.1, by rw [up_i (by first | decide | omega)]; exact h7.2⟩ ⟨a3, up_e⟩ ?_ ?_
    · rw [nr 5 (by first | decide | omega), nr 6 (by first | decide | omega), nr 7 (by first | decide | omega), nr 8 (by first | decide | omega), nr 9 (by first | decide | omega), nr 10 (by first | decide | omega), hv.1, hv.2.1, hv.2.2.1, hv.2.2.2.1, hv.2.2.2.2.1, hv.2.2.2.2.2]
      exact ⟨a4.symm, by rw [Int.mul_comm]; exact a5.symm, a6.symm, a7.symm, a8.symm, a9.symm⟩
    · have b5 : m2 (D + 3) n = _ := a5
      have b6 : m2 (D + 4) n = _ := a6
      have b7 : m2 (D + 5) n = _ := a7
      have b8 : m2 (D + 6) n = _ := a8
      have b9 : m2 (D + 7) n = _ := a9
      rw [b5, b6, b7, b8, b9]
      exact ⟨⟨hc.1, hc.2.1⟩, hb.2⟩
  have p2 : PreR m2 (up v' 0 20 (n + 1)) S := p.f (Q := fun b i => b = 0 ∧ i = 20) a2 (Fm.w1 ⟨rfl, rfl⟩) (by intro b i q; first | decide | omega) (by intro b i q; first | decide | omega)
  exact lo_tr (lo_stop hD2 p2) (a2.mono (by intro b i q; unfold PX; first | decide | omega)) (Fm.w1 (by unfold QX; first | decide | omega)) (by rw [a2 47 3 (by first | decide | omega)]; first | decide | omega) (a2 D 12 (by first | decide | omega))
theorem l_surf (hD : DI m v D) (h : PostR m v S) : LOut (G5_readSurfer m) ((G12_surferLine v).bind fun o => G12_lineRead_197 o.2 o.1) m v D S := by
  have hDD := hD.1.1
  have hN := hD.n
  have hw := hD.ws.2
  have hn5 : 0 ≤ m (D + 1) 0 ∧ m (D + 1) 0 ≤ 5 := by
    have := hD.2.1.1
    unfold WS at this
    rw [sl_e (by first | decide | omega)] at this
    have e1 : sl 21 m D 1 0 = m (D + 1) 0 := sl_e (by first | decide | omega) _
    omega
  have e20 : v 0 20 = m (D + 1) 0 := hN.2.2.1
  generalize hn : m (D + 1) 0 = n at *
  unfold G5_readSurfer G5_readSurfer_0 G12_surferLine G12_surferLine_0
  rw [hD.1.2, Int.toNat_natCast, hn, e20]
  by_cases c0 : n < 5
  · rw [if_pos c0, wt_e, if_neg (show ¬ n = 5 by first | decide | omega)]
    have h1 : PostR (up m 46 7 1) v S := h.f (P := fun b i => b = 46 ∧ i = 7) (Q := fun _ _ => False) (Fm.w1 ⟨rfl, rfl⟩) Fm.rf (by intro b i q; first | decide | omega) (fun b i _ => id)
    have f1 : Fm (PSu D n) m (up m 46 7 1) := Fm.w1 (by unfold PSu; first | decide | omega)
    have e7 : up m 46 7 1 46 7 = 1 := up_e
    have k3 : m 47 3 = up m 46 7 1 47 3 := (up_a (by first | decide | omega)).symm
    have e1N : up m 46 7 1 (D + 1) 0 = n := by rw [up_a (by first | decide | omega)]; exact hn
    generalize up m 46 7 1 = m1 at h1 f1 e7 k3 e1N ⊢
    obtain ⟨v2, z1, z2, p2⟩ := h1.tok
    obtain ⟨m3, e3, f3, h3, q3, _⟩ := p2.adv
    rw [e3, z1, bs1, bs1]
    have f3' := f3.mono P47_k
    have g2 : Fm (QSu n) v v2 := (z2.mono Q7_k).mono Qk_s
    have F3 : Fm (PSu D n) m m3 := f1.tr (f3'.mono Pk_s)
    have e73 : m3 46 7 = 1 := by rw [f3 46 7 (by unfold P47; first | decide | omega)]; exact e7
    refine lo_tr (m1 := m3) (v1 := v2) ?_ (F3.mono Ps_x) (g2.mono (Qs_x hn5.1)) (by first | decide | omega) (F3 D 12 (by unfold PSu Pk; first | decide | omega))
    have hk := h3.2.2.2.2.2.2.2
    by_cases c1 : m3 47 4 = 24
    · have hk2 : v2 0 8 = 2 ∧ v2 0 9 = m3 47 6 := by unfold KR SGN NumR at hk; omega
      have e20' : v2 0 20 = n := by rw [z2 0 20 (by unfold Q7; first | decide | omega)]; exact e20
      have e10 : m3 46 10 = (D : Int) := by rw [F3 46 10 (by unfold PSu Pk; first | decide | omega)]; exact hD.1.2
      have eN : m3 (D + 1) 0 = n := by rw [f3 (D + 1) 0 (by unfold P47; first | decide | omega)]; exact e1N
      rw [if_pos c1, if_pos hk2.1, e10, Int.toNat_natCast, hk2.2, e20']
      unfold G1_hasName G1_hasName_0 G12_find G12_find_0
      have hsame : ∀ j, 0 ≤ j → j < n → m3 (D + 1 + 1) j = v2 5 (5 + j) := by
        intro j j1 j2
        have hc := (hD.2.2.1.2.2.1 j j1 (by rw [sl_e (by first | decide | omega)]; first | decide | omega)).1
        rw [sl_e (by first | decide | omega)] at hc
        have hc' : v 5 (5 + j) = m (D + 2) j := hc
        rw [z2 5 (5 + j) (by unfold Q7; first | decide | omega), hc', F3 (D + 1 + 1) j (by unfold PSu Pk; first | decide | omega)]
      rcases l_has (m := m3) (v := v2) (a := D + 1) (n := n) (x := m3 47 6) eN hn5.2 hsame n.toNat 1024 0 (by first | decide | omega) (by first | decide | omega) (by first | decide | omega) with ⟨q1, q2⟩ | ⟨q1, r, q3, q2⟩
      · rw [q1, q2, bs1, bs1]
        dsimp only
        have eD0 : m3 D 0 = m D 0 := F3 D 0 (by unfold PSu Pk; first | decide | omega)
        have eD1 : m3 D 1 = m D 1 := F3 D 1 (by unfold PSu Pk; first | decide | omega)
        rw [if_pos (show (0 : Int) = 0 from rfl), if_pos (show (-1 : Int) < 0 by first | decide | omega), e10, Int.toNat_natCast, hk2.2, e20', gd3_t (by first | decide | omega), gdx_t (by first | decide | omega), wt_e]
        have h4 : PostR m3 (up v2 5 (5 + n) (m3 47 6)) S := h3.f (P := fun _ _ => False) (Q := fun b i => b = 5) Fm.rf (Fm.w1 rfl) (fun b i _ => id) (by intro b i q; first | decide | omega)
        obtain ⟨v4, z4, z5, p4⟩ := h4.tok
        have G4 : Fm (QSu n) v v4 := (g2.w (by unfold QSu; first | decide | omega)).tr ((z5.mono Q7_k).mono Qk_s)
        have k5 : v4 5 (5 + n) = m3 47 6 := by rw [z5 5 _ (by unfold Q7; first | decide | omega), up_e]
        have k24 : Fm QX v2 v4 := (Fm.w1 (by unfold QX; first | decide | omega)).tr ((z5.mono Q7_k).mono Qk_x)
        rw [z4, bs1]
        obtain ⟨m', v', f', g', q', w24, kk⟩ := n_cellw (m := m3) (v := v4) (D := D) ⟨by rw [G4 0 18 (by unfold QSu Qk; first | decide | omega), eD0]; exact hN.1.1, by rw [G4 0 19 (by unfold QSu Qk; first | decide | omega), eD1]; exact hN.1.2⟩ (by first | decide | omega) p4
        have g'q : Fm (QSu n) v4 v' := g'.mono (by intro b i q; rcases q with q | q; (exact Or.inl q); (unfold QSu; first | decide | omega))
        rcases kk with ⟨x, y, m4, x1, y1, b1, b2, b3, b4, b5, b6, p5⟩ | ⟨b1, b2, b3⟩ | ⟨x, m4, x1, b1, b2, b3, b4, b5⟩
        · have e10' : m4 46 10 = (D : Int) := by rw [b2 46 10 (by unfold Pk; first | decide | omega)]; exact e10
          have e1D : m4 D 1 = m3 D 1 := b2 D 1 (by unfold Pk; first | decide | omega)
          have e18 : v' 0 18 = m D 0 := by rw [g'q 0 18 (by unfold QSu Qk; first | decide | omega), G4 0 18 (by unfold QSu Qk; first | decide | omega)]; exact hN.1.1
          rw [eD0] at x1
          rw [eD1] at y1
          have hc : 0 ≤ m D 0 * y ∧ m D 0 * y ≤ 40 := by
            refine ⟨Int.mul_nonneg (by first | decide | omega) (by first | decide | omega), ?_⟩
            have : m D 0 * y ≤ 8 * 5 := Int.mul_le_mul hw.1.2 (by first | decide | omega) (by first | decide | omega) (by first | decide | omega)
            omega
          rw [b1, b4, bs1, bs1]
          dsimp only
          rw [if_neg i10, if_neg (show ¬ x = -1 by first | decide | omega), e10', Int.toNat_natCast, e1D, gd3_t (by first | decide | omega), b3, bs1]
          unfold G5_readSurfer_122
          dsimp only
          rw [if_neg (show ¬ y = -1 by first | decide | omega), gdx_t (by first | decide | omega), e18, b5, b6, gd3_t (by first | decide | omega), wt_e]
          have p6 : PreR m' (up v' 6 (5 + n) (m D 0 * y + x)) S := p5.f (P := fun _ _ => False) (Q := fun b i => b = 6) Fm.rf (Fm.w1 rfl) (fun b i _ => id) (by intro b i q; first | decide | omega)
          have G6 : Fm (QSu n) v (up v' 6 (5 + n) (m D 0 * y + x)) := (G4.tr g'q).w (by unfold QSu; first | decide | omega)
          have F6 : Fm (PSu D n) m m' := F3.tr (f'.mono Pk_s)
          have k5' : up v' 6 (5 + n) (m D 0 * y + x) 5 (5 + n) = m3 47 6 := by rw [up_a (by first | decide | omega), g' 5 _ (by unfold Qc Qk; first | decide | omega)]; exact k5
          have k6 : up v' 6 (5 + n) (m D 0 * y + x) 6 (5 + n) = m D 0 * y + x := up_e
          have w24' : up v' 6 (5 + n) (m D 0 * y + x) 0 24 = 1 := by rw [up_a (by first | decide | omega)]; exact w24
          have w20 : up v' 6 (5 + n) (m D 0 * y + x) 0 20 = n := by rw [up_a (by first | decide | omega), g' 0 20 (by unfold Qc Qk; first | decide | omega), z5 0 20 (by unfold Q7; first | decide | omega), up_a (by first | decide | omega)]; exact e20'
          have e7' : m' 46 7 = 1 := by rw [f' 46 7 (by unfold Pk; first | decide | omega)]; exact e73
          have eN' : m' (D + 1) 0 = n := by rw [f' (D + 1) 0 (by unfold Pk; first | decide | omega)]; exact eN
          refine lo_tr (m1 := m') (v1 := up v' 6 (5 + n) (m D 0 * y + x)) ?_ (f'.mono Pk_x) ((k24.tr (g'.mono Qc_x)).w (by unfold QX; first | decide | omega)) q' (f' D 12 (by unfold Pk; first | decide | omega))
          generalize up v' 6 (5 + n) (m D 0 * y + x) = u at p6 G6 k5' k6 w24' w20 ⊢
          generalize m3 47 6 = nm at *
          refine st_row (K := fun m' b => G5_readSurfer_139 m' nm x y b) (row := 7) (idx := 5 + n) hDD p6 (by first | decide | omega) (by first | decide | omega) (by first | decide | omega) ?_ ?_
          · intro u; unfold G5_readSurfer_139 G5_readSurfer_157 G5_readSurfer_176 G5_readSurfer_195; simp only [if_true]
          intro bd m5 v5 bd1 bd2 f5 g5 w7 p7
          unfold G5_readSurfer_139
          rw [if_neg (show ¬ bd = -1 by first | decide | omega)]
          refine st_row (K := fun m' b => G5_readSurfer_157 m' nm x y bd b) (row := 8) (idx := 5 + n) hDD p7 (by first | decide | omega) (by first | decide | omega) (by first | decide | omega) ?_ ?_
          · intro u; unfold G5_readSurfer_157 G5_readSurfer_176 G5_readSurfer_195; simp only [if_true]
          intro pc m6 v6 pc1 pc2 f6 g6 w8 p8
          unfold G5_readSurfer_157
          rw [if_neg (show ¬ pc = -1 by first | decide | omega)]
          refine st_row (K := fun m' b => G5_readSurfer_176 m' nm x y bd pc b) (row := 9) (idx := 5 + n) hDD p8 (by first | decide | omega) (by first | decide | omega) (by first | decide | omega) ?_ ?_
          · intro u; unfold G5_readSurfer_176 G5_readSurfer_195; simp only [if_true]
          intro bo m7 v7 bo1 bo2 f7 g7 w9 p9
          unfold G5_readSurfer_176
          rw [if_neg (show ¬ bo = -1 by first | decide | omega)]
          refine st_row (K := fun m' b => G5_readSurfer_195 m' nm x y bd pc bo b) (row := 10) (idx := 5 + n) hDD p9 (by first | decide | omega) (by first | decide | omega) (by first | decide | omega) ?_ ?_
          · intro u; unfold G5_readSurfer_195; simp only [if_true]
          intro be m8 v8 be1 be2 f8 g8 w10 p10
          have F8 : Fm Pk m' m8 := ((f5.tr f6).tr f7).tr f8
          have G8 : Fm (QSu n) v v8 := (((G6.tr (g5.mono (Qr_s (by first | decide | omega)))).tr (g6.mono (Qr_s (by first | decide | omega)))).tr (g7.mono (Qr_s (by first | decide | omega)))).tr (g8.mono (Qr_s (by first | decide | omega)))
          have vv : ∀ (b : Nat) i, ¬ Qk b i → b ≠ 7 → b ≠ 8 → b ≠ 9 → b ≠ 10 → v8 b i = u b i := fun b i a c1 c2 c3 c4 => by
            rw [g8 b i (by rintro (q | q); exact a q; first | decide | omega), g7 b i (by rintro (q | q); exact a q; first | decide | omega), g6 b i (by rintro (q | q); exact a q; first | decide | omega), g5 b i (by rintro (q | q); exact a q; first | decide | omega)]
          refine s_end hD ⟨hn.symm, hn5.1, c0⟩ (F6.tr (F8.mono Pk_s)) G8 ⟨by rw [F8 46 7 (by unfold Pk; first | decide | omega)]; exact e7', by rw [vv 0 24 (by unfold Qk; first | decide | omega) (by first | decide | omega) (by first | decide | omega) (by first | decide | omega) (by first | decide | omega)]; exact w24'⟩ ⟨by rw [F8 (D + 1) 0 (by unfold Pk; first | decide | omega)]; exact eN', by rw [vv 0 20 (by unfold Qk; first | decide | omega) (by first | decide | omega) (by first | decide | omega) (by first | decide | omega) (by first | decide | omega)]; exact w20⟩ ⟨?_, ?_, ?_, ?_, ?_, w10⟩ ⟨⟨x1, y1⟩, ⟨bd1, bd2⟩, ⟨pc1, pc2⟩, ⟨bo1, bo2⟩, ⟨be1, be2⟩⟩ p10
          · rw [vv 5 _ (by unfold Qk; first | decide | omega) (by first | decide | omega) (by first | decide | omega) (by first | decide | omega) (by first | decide | omega)]; exact k5'
          · rw [vv 6 _ (by unfold Qk; first | decide | omega) (by first | decide | omega) (by first | decide | omega) (by first | decide | omega) (by first | decide | omega)]; exact k6
          · rw [g8 7 _ (by unfold Qk; first | decide | omega), g7 7 _ (by unfold Qk; first | decide | omega), g6 7 _ (by unfold Qk; first | decide | omega)]; exact w7
          · rw [g8 8 _ (by unfold Qk; first | decide | omega), g7 8 _ (by unfold Qk; first | decide | omega)]; exact w8
          · rw [g8 9 _ (by unfold Qk; first | decide | omega)]; exact w9
        · rw [b1, b2, bs1, bs1]
          unfold G5_readSurfer_122 G5_readSurfer_139 G5_readSurfer_157 G5_readSurfer_176 G5_readSurfer_195
          simp only [if_true, bs1, r197]
          exact lo_fltx ⟨m', v', f'.mono Pk_x, k24.tr (g'.mono Qc_x), q', rfl, rfl, b3⟩
        · have e10' : m4 46 10 = (D : Int) := by rw [b2 46 10 (by unfold Pk; first | decide | omega)]; exact e10
          have e1D : m4 D 1 = m3 D 1 := b2 D 1 (by unfold Pk; first | decide | omega)
          rw [b1, b4, bs1, bs1]
          simp only [if_true, bs1, r197]
          rw [if_neg (show ¬ x = -1 by first | decide | omega), e10', Int.toNat_natCast, e1D, gd3_t (by first | decide | omega), b3, bs1]
          unfold G5_readSurfer_122 G5_readSurfer_139 G5_readSurfer_157 G5_readSurfer_176 G5_readSurfer_195
          simp only [if_true]
          exact lo_fltx ⟨m', v', f'.mono Pk_x, k24.tr (g'.mono Qc_x), q', rfl, rfl, b5⟩
      · rw [q1, q2, bs1, bs1]
        dsimp only
        rw [if_neg i10, if_neg (show ¬ r < 0 by first | decide | omega), c_ref, bs1, r_wrong, bs1, gdb_t (by first | decide | omega), gdb_t (by first | decide | omega), bs1]
        dsimp only
        rw [r197]
        exact lo_ref h3 3 rfl rfl
    · have hk2 : ¬ v2 0 8 = 2 := by unfold KR SGN NumR at hk; omega
      rw [if_neg c1, if_neg hk2, c_ref, bs1, r_wrong, bs1, gdb_t (by first | decide | omega), gdb_t (by first | decide | omega), bs1]
      dsimp only
      rw [r197]
      exact lo_ref h3 1 rfl rfl
  · rw [if_neg c0, if_pos (show n = 5 by first | decide | omega), c_ref, bs1, r_wrong, bs1, gdb_t (by first | decide | omega), gdb_t (by first | decide | omega), bs1]
    dsimp only
    rw [r197]
    exact lo_ref h 2 rfl rfl
end Q28
/-! The line of a set on both sides. -/
section Q29
variable {m v : Mem} {S : Int} {D : Nat}
theorem c_bset {a : Nat} (h : 0 ≤ m a 0 ∧ m a 0 < 4) : G10_beginSet m a = some (up (up (up m (a + 1) (m a 0) (m a 1)) (a + 2) (m a 0) 0) a 0 (m a 0 + 1)) := by
  unfold G10_beginSet G10_beginSet_0
  have e1 : up m (a + 1) (m a 0) (m a 1) a 0 = m a 0 := up_a (by first | decide | omega)
  have e2 : up (up m (a + 1) (m a 0) (m a 1)) (a + 2) (m a 0) 0 a 0 = m a 0 := by rw [up_a (by first | decide | omega)]; exact e1
  rw [if_neg (by first | decide | omega), gdx_t h, wt_e, e1, gdx_t h, wt_e, e2, gd3_t (by first | decide | omega), wt_e]
/-- a wave is laid into the last set -/
theorem na_k {a k : Nat} (h : 0 < k) : a ≠ a + k := by omega
theorem nz_k {a j k : Nat} (h : j ≠ k) : a + j ≠ a + k := by omega
theorem c_addw {a : Nat} {x y s c l : Int} (h1 : m a 0 = s + 1) (h2 : m a 1 = c) (h3 : m (a + 2) s = l) (hs : 0 ≤ s ∧ s < 4) (hc : 0 ≤ c ∧ c < 28) (hl : 0 ≤ l ∧ l < 10) : ∃ m', G10_add m a x y = some m' ∧ Fm (fun b i => (b = a ∧ i = 1) ∨ (b = a + 2 ∧ i = s) ∨ (a + 3 ≤ b ∧ b ≤ a + 6 ∧ i = c)) m m' ∧ m' a 1 = c + 1 ∧ m' (a + 2) s = l + 1 ∧ m' (a + 3) c = x ∧ m' (a + 4) c = y ∧ m' (a + 5) c = s ∧ m' (a + 6) c = l + 1 := by
  unfold G10_add G10_add_0
  have es : s + 1 - 1 = s := by omega
  have p0 : up m (a + 2) s (l + 1) a 0 = s + 1 := by rw [up_a (by first | exact na_k (by decide) | exact nz_k (by decide) | omega)]; exact h1
  have p1 : up m (a + 2) s (l + 1) a 1 = c := by rw [up_a (by first | exact na_k (by decide) | exact nz_k (by decide) | omega)]; exact h2
  have q0 : up (up m (a + 2) s (l + 1)) (a + 3) c x a 0 = s + 1 := by rw [up_a (by first | exact na_k (by decide) | exact nz_k (by decide) | omega)]; exact p0
  have q1 : up (up m (a + 2) s (l + 1)) (a + 3) c x a 1 = c := by rw [up_a (by first | exact na_k (by decide) | exact nz_k (by decide) | omega)]; exact p1
  have r0 : up (up (up m (a + 2) s (l + 1)) (a + 3) c x) (a + 4) c y a 0 = s + 1 := by rw [up_a (by first | exact na_k (by decide) | exact nz_k (by decide) | omega)]; exact q0
  have r1 : up (up (up m (a + 2) s (l + 1)) (a + 3) c x) (a + 4) c y a 1 = c := by rw [up_a (by first | exact na_k (by decide) | exact nz_k (by decide) | omega)]; exact q1
  have t0 : up (up (up (up m (a + 2) s (l + 1)) (a + 3) c x) (a + 4) c y) (a + 5) c s a 0 = s + 1 := by rw [up_a (by first | exact na_k (by decide) | exact nz_k (by decide) | omega)]; exact r0
  have t1 : up (up (up (up m (a + 2) s (l + 1)) (a + 3) c x) (a + 4) c y) (a + 5) c s a 1 = c := by rw [up_a (by first | exact na_k (by decide) | exact nz_k (by decide) | omega)]; exact r1
  have t2 : up (up (up (up m (a + 2) s (l + 1)) (a + 3) c x) (a + 4) c y) (a + 5) c s (a + 2) s = l + 1 := by rw [up_a (by first | exact na_k (by decide) | exact nz_k (by decide) | omega), up_a (by first | exact na_k (by decide) | exact nz_k (by decide) | omega), up_a (by first | exact na_k (by decide) | exact nz_k (by decide) | omega), up_e]
  have u1 : up (up (up (up (up m (a + 2) s (l + 1)) (a + 3) c x) (a + 4) c y) (a + 5) c s) (a + 6) c (l + 1) a 1 = c := by rw [up_a (by first | exact na_k (by decide) | exact nz_k (by decide) | omega)]; exact t1
  rw [h2, if_neg (by first | decide | omega), h1, if_pos (by first | decide | omega), es, gdx_t hs, gdx_t hs, h3, gd3_t (by first | decide | omega), wt_e, p1, gdx_t hc, wt_e, q1, gdx_t hc, wt_e, r1, gdx_t hc, r0, es, gd3_t (by first | decide | omega), wt_e, t0, es, t1, t2, gdx_t hs, gdx_t hc, wt_e, u1, gd3_t (by first | decide | omega), wt_e]
  refine ⟨_, rfl, (((((Fm.w1 ?_).w ?_).w ?_).w ?_).w ?_).w ?_, up_e, ?_, ?_, ?_, ?_, ?_⟩
  · omega
  · omega
  · omega
  · omega
  · omega
  · omega
  · rw [up_a (by first | exact na_k (by decide) | exact nz_k (by decide) | omega), up_a (by first | exact na_k (by decide) | exact nz_k (by decide) | omega)]; exact t2
  · rw [up_a (by first | exact na_k (by decide) | exact nz_k (by decide) | omega), up_a (by first | exact na_k (by decide) | exact nz_k (by decide) | omega), up_a (by first | exact na_k (by decide) | exact nz_k (by decide) | omega), up_a (by first | exact na_k (by decide) | exact nz_k (by decide) | omega), up_e]
  · rw [up_a (by first | exact na_k (by decide) | exact nz_k (by decide) | omega), up_a (by first | exact na_k (by decide) | exact nz_k (by decide) | omega), up_a (by first | exact na_k (by decide) | exact nz_k (by decide) | omega), up_e]
  · rw [up_a (by first | exact na_k (by decide) | exact nz_k (by decide) | omega), up_a (by first | exact na_k (by decide) | exact nz_k (by decide) | omega), up_e]
  · rw [up_a (by first | exact na_k (by decide) | exact nz_k (by decide) | omega), up_e]
/-- what a set's line changes -/
def PSe (D : Nat) (t c0 : Int) : Nat → Int → Prop := fun b i => Pk b i ∨ (b = D + 8 ∧ (i = 0 ∨ i = 1)) ∨ ((b = D + 9 ∨ b = D + 10) ∧ i = t) ∨ ((D + 11 ≤ b ∧ b ≤ D + 14) ∧ c0 ≤ i)
def QSe (t c0 : Int) : Nat → Int → Prop := fun b i => Qk b i ∨ (b = 0 ∧ (i = 21 ∨ i = 22)) ∨ (b = 11 ∧ i = 4 + t) ∨ ((12 ≤ b ∧ b ≤ 14) ∧ 28 + c0 ≤ i)
theorem Pk_t {t c : Int} : ∀ b i, Pk b i → PSe D t c b i := fun _ _ h => Or.inl h
theorem Qk_t {t c : Int} : ∀ b i, Qk b i → QSe t c b i := fun _ _ h => Or.inl h
theorem PSe_x {t c : Int} : ∀ b i, PSe D t c b i → PX D b i := by intro b i h; unfold PSe Pk at h; unfold PX; omega
theorem QSe_x {t c : Int} (ht : 0 ≤ t) (hc : 0 ≤ c) : ∀ b i, QSe t c b i → QX b i := by intro b i h; unfold QSe Qk at h; unfold QX; omega
/-- k waves of the set t are read -/
def SetI (m0 v0 m v : Mem) (D : Nat) (x k t c0 : Int) : Prop := Fm (PSe D t c0) m0 m ∧ Fm (QSe t c0) v0 v ∧ (m (D + 8) 0 = t + 1 ∧ m (D + 8) 1 = c0 + k ∧ m (D + 9) t = c0 ∧ m (D + 10) t = k) ∧ (v 0 22 = c0 + k ∧ v 11 (4 + t) = c0) ∧ ∀ j, 0 ≤ j → j < k → (m (D + 11) (c0 + j) = x + j ∧ (1 ≤ m (D + 12) (c0 + j) ∧ m (D + 12) (c0 + j) ≤ 9) ∧ m (D + 13) (c0 + j) = t ∧ m (D + 14) (c0 + j) = j + 1) ∧ (v 12 (28 + (c0 + j)) = x + j ∧ v 13 (28 + (c0 + j)) = m (D + 12) (c0 + j) ∧ v 14 (28 + (c0 + j)) = t)
theorem SetI.k {m0 v0 m' v' : Mem} {x k t c0 : Int} (hDD : D = 2 ∨ D = 24) (h : SetI m0 v0 m v D x k t c0) (f : Fm Pk m m') (g : Fm Qk v v') : SetI m0 v0 m' v' D x k t c0 := by
  obtain ⟨h1, h2, h3, h4, h5⟩ := h
  have em : ∀ (b : Nat) i, D ≤ b → b ≤ D + 21 → m' b i = m b i := fun b i p q => f b i (by unfold Pk; first | decide | omega)
  have ev : ∀ (b : Nat) i, 1 ≤ b → v' b i = v b i := fun b i p => g b i (by unfold Qk; first | decide | omega)
  refine ⟨h1.tr (f.mono Pk_t), h2.tr (g.mono Qk_t), ?_, ?_, fun j p q => ?_⟩
  · rw [em _ _ (by first | decide | omega) (by first | decide | omega), em _ _ (by first | decide | omega) (by first | decide | omega), em _ _ (by first | decide | omega) (by first | decide | omega), em _ _ (by first | decide | omega) (by first | decide | omega)]; exact h3
  · rw [g 0 22 (by unfold Qk; first | decide | omega), ev _ _ (by first | decide | omega)]; exact h4
  · rw [em _ _ (by first | decide | omega) (by first | decide | omega), em _ _ (by first | decide | omega) (by first | decide | omega), em _ _ (by first | decide | omega) (by first | decide | omega), em _ _ (by first | decide | omega) (by first | decide | omega), ev _ _ (by first | decide | omega), ev _ _ (by first | decide | omega), ev _ _ (by first | decide | omega)]; exact h5 j p q
/-- the draft behind a set's line -/
theorem di_set {m0 v0 : Mem} {x k t c0 : Int} (hD : DI m0 v0 D) (ht : t = m0 (D + 8) 0 ∧ t < 4) (hc : c0 = m0 (D + 8) 1 ∧ c0 + k ≤ 28) (hk : 1 ≤ k ∧ k ≤ 7) (hx : 0 ≤ x ∧ x ≤ 99) (hl : 0 < c0 → m0 (D + 11) (c0 - 1) < x) (h : SetI m0 v0 m v D x k t c0) (h21 : v 0 21 = t + 1) : DI m v D := by
  obtain ⟨f, g, ⟨s1, s2, s3, s4⟩, ⟨u1, u2⟩, h5⟩ := h
  obtain ⟨h1, ⟨hS, hC, hT, hV, hL⟩, ⟨⟨a1, a2, a3, a4, a5, a6⟩, b, c, d, e, r1, r2, r3⟩, q4, q5, q6⟩ := hD
  have hDD := h1.1
  have eS : sl 21 m0 D 8 0 = t := by rw [sl_e (by first | decide | omega)]; exact ht.1.symm
  have eC : sl 21 m0 D 8 1 = c0 := by rw [sl_e (by first | decide | omega)]; exact hc.1.symm
  have t0 : 0 ≤ t ∧ 0 ≤ c0 := by unfold WS at hS; omega
  have e0 : sl 21 m D 0 = sl 21 m0 D 0 := funext fun i => by rw [sl_e (Nat.zero_le _), sl_e (Nat.zero_le _)]; exact f D i (by unfold PSe Pk; first | decide | omega)
  have eo : ∀ c : Nat, c ≠ 8 → c ≠ 9 → c ≠ 10 → c ≠ 11 → c ≠ 12 → c ≠ 13 → c ≠ 14 → sl 21 m D c = sl 21 m0 D c := fun c z1 z2 z3 z4 z5 z6 z7 => by
    funext i
    by_cases c21 : c ≤ 21
    · rw [sl_e c21, sl_e c21]; exact f (D + c) i (by unfold PSe Pk; first | decide | omega)
    · unfold sl; rw [if_neg c21, if_neg c21]
  have n80 : sl 21 m D 8 0 = t + 1 := by rw [sl_e (by first | decide | omega)]; exact s1
  have n81 : sl 21 m D 8 1 = c0 + k := by rw [sl_e (by first | decide | omega)]; exact s2
  have n9 : sl 21 m D 9 t = c0 := by rw [sl_e (by first | decide | omega)]; exact s3
  have n10 : sl 21 m D 10 t = k := by rw [sl_e (by first | decide | omega)]; exact s4
  have o9 : ∀ (c : Nat) i, c = 9 ∨ c = 10 → i ≠ t → sl 21 m D c i = sl 21 m0 D c i := fun c i p q => by rw [sl_e (by first | decide | omega), sl_e (by first | decide | omega)]; exact f (D + c) i (by unfold PSe Pk; first | decide | omega)
  have o11 : ∀ (c : Nat) i, 11 ≤ c → c ≤ 14 → i < c0 → sl 21 m D c i = sl 21 m0 D c i := fun c i p q r => by rw [sl_e (by first | decide | omega), sl_e (by first | decide | omega)]; exact f (D + c) i (by unfold PSe Pk; first | decide | omega)
  have nn : ∀ (c : Nat) i, c ≤ 21 → sl 21 m D c i = m (D + c) i := fun c i q => sl_e q i
  have k0 : ∀ i, i + 6 ≠ 21 → i + 6 ≠ 22 → ¬ Qk 0 (i + 6) → kd v 0 i = kd v0 0 i := fun i p q s => by
    show v 0 (i + 6) = v0 0 (i + 6)
    exact g 0 _ (by unfold QSe; rintro (z | z | z | z); exact s z; omega; omega; first | decide | omega)
  have kq : ∀ c : Nat, 1 ≤ c → c ≠ 11 → c ≠ 12 → c ≠ 13 → c ≠ 14 → kd v c = kd v0 c := fun c z0 z1 z2 z3 z4 => funext fun i => g c _ (by unfold QSe Qk; first | decide | omega)
  have sh11 : ∀ i, sh 11 i = 4 + i := fun i => by unfold sh; rw [if_neg (by first | decide | omega), if_neg (by first | decide | omega), if_neg (by first | decide | omega), if_pos (by first | decide | omega)]
  have sh12 : ∀ (c : Nat) i, 12 ≤ c → c ≤ 14 → sh c i = 28 + i := fun c i p q => by unfold sh; rw [if_neg (by first | decide | omega), if_neg (by first | decide | omega), if_neg (by first | decide | omega), if_neg (by first | decide | omega), if_pos (by first | decide | omega)]
  have k11 : ∀ i, i ≠ t → kd v 11 i = kd v0 11 i := fun i p => by show v 11 (sh 11 i) = v0 11 (sh 11 i); rw [sh11]; exact g 11 _ (by unfold QSe Qk; first | decide | omega)
  have k12 : ∀ (c : Nat) i, 12 ≤ c → c ≤ 14 → i < c0 → kd v c i = kd v0 c i := fun c i p q r => by show v c (sh c i) = v0 c (sh c i); rw [sh12 c i p q]; exact g c _ (by unfold QSe Qk; first | decide | omega)
  have n11 : ∀ j, 0 ≤ j → j < k → sl 21 m D 11 (c0 + j) = x + j := fun j p q => by rw [nn 11 _ (by first | decide | omega)]; exact (h5 j p q).1.1
  refine ⟨⟨hDD, by rw [f 46 10 (by unfold PSe Pk; first | decide | omega)]; exact h1.2⟩, ⟨?_, ?_, ?_, ?_, ?_⟩, ⟨⟨?_, ?_, ?_, ?_, ?_, ?_⟩, ?_, ?_, ?_, ?_, ?_, ?_, ?_⟩, ⟨?_, ?_, ?_⟩, ?_, ?_⟩
  · unfold WS at hS ⊢
    rw [e0, eo 1 (by first | decide | omega) (by first | decide | omega) (by first | decide | omega) (by first | decide | omega) (by first | decide | omega) (by first | decide | omega) (by first | decide | omega), n80, n81]
    omega
  · unfold WC
    rw [e0, eo 1 (by first | decide | omega) (by first | decide | omega) (by first | decide | omega) (by first | decide | omega) (by first | decide | omega) (by first | decide | omega) (by first | decide | omega), eo 3 (by first | decide | omega) (by first | decide | omega) (by first | decide | omega) (by first | decide | omega) (by first | decide | omega) (by first | decide | omega) (by first | decide | omega), eo 4 (by first | decide | omega) (by first | decide | omega) (by first | decide | omega) (by first | decide | omega) (by first | decide | omega) (by first | decide | omega) (by first | decide | omega), eo 5 (by first | decide | omega) (by first | decide | omega) (by first | decide | omega) (by first | decide | omega) (by first | decide | omega) (by first | decide | omega) (by first | decide | omega), eo 6 (by first | decide | omega) (by first | decide | omega) (by first | decide | omega) (by first | decide | omega) (by first | decide | omega) (by first | decide | omega) (by first | decide | omega), eo 7 (by first | decide | omega) (by first | decide | omega) (by first | decide | omega) (by first | decide | omega) (by first | decide | omega) (by first | decide | omega) (by first | decide | omega)]
    exact hC
  · obtain ⟨w1, w2, w3⟩ := hT
    rw [eS] at w1 w2 w3
    rw [eC] at w1 w3
    refine ⟨fun q => by rw [n80] at q; first | decide | omega, fun _ => ?_, fun i p q => ?_⟩
    · by_cases z : t = 0
      · rw [show (0 : Int) = t from z.symm, n9, w1 z]; exact z.symm
      · rw [o9 9 0 (by first | decide | omega) (by first | decide | omega)]; exact w2 (by first | decide | omega)
    · rw [n80] at q
      rw [n80, n81]
      by_cases z : i = t
      · subst z
        rw [n9, n10]
        exact ⟨t0.2, hk.1, hk.2, by first | decide | omega, fun y => by first | decide | omega, fun _ => rfl⟩
      · obtain ⟨y1, y2, y3, y4, y5, y6⟩ := w3 i p (by first | decide | omega)
        rw [o9 9 i (by first | decide | omega) z, o9 10 i (by first | decide | omega) z]
        refine ⟨y1, y2, y3, by first | decide | omega, fun y => ?_, fun y => by first | decide | omega⟩
        by_cases z2 : i + 1 = t
        · rw [z2, n9]; exact (y6 z2).symm
        · rw [o9 9 (i + 1) (by first | decide | omega) z2]; exact y5 (by first | decide | omega)
  · intro i p q
    rw [n81] at q
    rw [n80, n81]
    have hi : i + 1 < c0 + k → sl 21 m D 11 i < sl 21 m D 11 (i + 1) := by
      intro y
      by_cases z : i < c0
      · by_cases z2 : i + 1 < c0
        · rw [o11 11 i (by first | decide | omega) (by first | decide | omega) z, o11 11 (i + 1) (by first | decide | omega) (by first | decide | omega) z2]
          exact (hV i p (by rw [eC]; exact z)).2.2 (by rw [eC]; exact z2)
        · have z3 := hl (by first | decide | omega)
          have z4 := n11 0 (by first | decide | omega) (by first | decide | omega)
          rw [show i + 1 = c0 + 0 by first | decide | omega, z4, o11 11 i (by first | decide | omega) (by first | decide | omega) z, sl_e (by first | decide | omega), show i = c0 - 1 by first | decide | omega]
          omega
      · have z1 := n11 (i - c0) (by first | decide | omega) (by first | decide | omega)
        have z2 := n11 (i + 1 - c0) (by first | decide | omega) (by first | decide | omega)
        rw [show c0 + (i - c0) = i by first | decide | omega] at z1
        rw [show c0 + (i + 1 - c0) = i + 1 by first | decide | omega] at z2
        omega
    by_cases z : i < c0
    · obtain ⟨⟨y1, y2, y3, y4, y5, y6⟩, y7, _⟩ := hV i p (by rw [eC]; exact z)
      rw [eS] at y2
      obtain ⟨w1, w2, w3⟩ := hT
      have y8 := w3 (sl 21 m0 D 13 i) y1 (by rw [eS]; exact y2)
      rw [eC] at y8
      rw [o11 13 i (by first | decide | omega) (by first | decide | omega) z, o9 9 _ (by first | decide | omega) (by first | decide | omega), o9 10 _ (by first | decide | omega) (by first | decide | omega), o11 14 i (by first | decide | omega) (by first | decide | omega) z, o11 12 i (by first | decide | omega) (by first | decide | omega) z, o11 11 (sl 21 m0 D 9 (sl 21 m0 D 13 i)) (by first | decide | omega) (by first | decide | omega) (by first | decide | omega)]
      refine ⟨⟨y1, by first | decide | omega, y3, y4, y5, ?_⟩, ?_, hi⟩
      · rw [o11 11 i (by first | decide | omega) (by first | decide | omega) z]; exact y6
      · rw [o11 11 i (by first | decide | omega) (by first | decide | omega) z]; exact y7
    · have y := (h5 (i - c0) (by first | decide | omega) (by first | decide | omega)).1
      rw [show c0 + (i - c0) = i by first | decide | omega] at y
      rw [← nn 11 _ (by first | decide | omega), ← nn 12 _ (by first | decide | omega), ← nn 13 _ (by first | decide | omega), ← nn 14 _ (by first | decide | omega)] at y
      have y0 := n11 0 (by first | decide | omega) (by first | decide | omega)
      rw [Int.add_zero] at y0
      rw [y.2.2.1, n9, n10, y0]
      refine ⟨⟨t0.1, by first | decide | omega, by first | decide | omega, by first | decide | omega, by first | decide | omega, by first | decide | omega⟩, by first | decide | omega, hi⟩
  · unfold WLX
    rw [eo 16 (by first | decide | omega) (by first | decide | omega) (by first | decide | omega) (by first | decide | omega) (by first | decide | omega) (by first | decide | omega) (by first | decide | omega), eo 17 (by first | decide | omega) (by first | decide | omega) (by first | decide | omega) (by first | decide | omega) (by first | decide | omega) (by first | decide | omega) (by first | decide | omega), eo 18 (by first | decide | omega) (by first | decide | omega) (by first | decide | omega) (by first | decide | omega) (by first | decide | omega) (by first | decide | omega) (by first | decide | omega), eo 19 (by first | decide | omega) (by first | decide | omega) (by first | decide | omega) (by first | decide | omega) (by first | decide | omega) (by first | decide | omega) (by first | decide | omega), eo 20 (by first | decide | omega) (by first | decide | omega) (by first | decide | omega) (by first | decide | omega) (by first | decide | omega) (by first | decide | omega) (by first | decide | omega), eo 21 (by first | decide | omega) (by first | decide | omega) (by first | decide | omega) (by first | decide | omega) (by first | decide | omega) (by first | decide | omega) (by first | decide | omega)]; exact hL
  · rw [k0 12 (by first | decide | omega) (by first | decide | omega) (by unfold Qk; first | decide | omega), e0]; exact a1
  · rw [k0 13 (by first | decide | omega) (by first | decide | omega) (by unfold Qk; first | decide | omega), e0]; exact a2
  · rw [k0 14 (by first | decide | omega) (by first | decide | omega) (by unfold Qk; first | decide | omega), eo 1 (by first | decide | omega) (by first | decide | omega) (by first | decide | omega) (by first | decide | omega) (by first | decide | omega) (by first | decide | omega) (by first | decide | omega)]; exact a3
  · rw [n80]; exact h21
  · rw [n81]; exact u1
  · rw [k0 17 (by first | decide | omega) (by first | decide | omega) (by unfold Qk; first | decide | omega), e0]; exact a6
  · rw [kq 4 (by first | decide | omega) (by first | decide | omega) (by first | decide | omega) (by first | decide | omega) (by first | decide | omega), e0]; exact b
  · rw [kq 5 (by first | decide | omega) (by first | decide | omega) (by first | decide | omega) (by first | decide | omega) (by first | decide | omega), kq 6 (by first | decide | omega) (by first | decide | omega) (by first | decide | omega) (by first | decide | omega) (by first | decide | omega), kq 7 (by first | decide | omega) (by first | decide | omega) (by first | decide | omega) (by first | decide | omega) (by first | decide | omega), kq 8 (by first | decide | omega) (by first | decide | omega) (by first | decide | omega) (by first | decide | omega) (by first | decide | omega), kq 9 (by first | decide | omega) (by first | decide | omega) (by first | decide | omega) (by first | decide | omega) (by first | decide | omega), kq 10 (by first | decide | omega) (by first | decide | omega) (by first | decide | omega) (by first | decide | omega) (by first | decide | omega), eo 1 (by first | decide | omega) (by first | decide | omega) (by first | decide | omega) (by first | decide | omega) (by first | decide | omega) (by first | decide | omega) (by first | decide | omega), eo 2 (by first | decide | omega) (by first | decide | omega) (by first | decide | omega) (by first | decide | omega) (by first | decide | omega) (by first | decide | omega) (by first | decide | omega), eo 3 (by first | decide | omega) (by first | decide | omega) (by first | decide | omega) (by first | decide | omega) (by first | decide | omega) (by first | decide | omega) (by first | decide | omega), eo 4 (by first | decide | omega) (by first | decide | omega) (by first | decide | omega) (by first | decide | omega) (by first | decide | omega) (by first | decide | omega) (by first | decide | omega), eo 5 (by first | decide | omega) (by first | decide | omega) (by first | decide | omega) (by first | decide | omega) (by first | decide | omega) (by first | decide | omega) (by first | decide | omega), eo 6 (by first | decide | omega) (by first | decide | omega) (by first | decide | omega) (by first | decide | omega) (by first | decide | omega) (by first | decide | omega) (by first | decide | omega), eo 7 (by first | decide | omega) (by first | decide | omega) (by first | decide | omega) (by first | decide | omega) (by first | decide | omega) (by first | decide | omega) (by first | decide | omega)]
    exact c
  · intro i p q
    rw [n80] at q
    by_cases z : i = t
    · rw [z, n9]
      show v 11 (sh 11 t) = c0
      rw [sh11]; exact u2
    · rw [k11 i z, o9 9 i (by first | decide | omega) z]; exact d i p (by first | decide | omega)
  · intro i p q
    rw [n81] at q
    by_cases z : i < c0
    · rw [k12 12 i (by first | decide | omega) (by first | decide | omega) z, k12 13 i (by first | decide | omega) (by first | decide | omega) z, k12 14 i (by first | decide | omega) (by first | decide | omega) z, o11 11 i (by first | decide | omega) (by first | decide | omega) z, o11 12 i (by first | decide | omega) (by first | decide | omega) z, o11 13 i (by first | decide | omega) (by first | decide | omega) z]
      exact e i p (by first | decide | omega)
    · have y := h5 (i - c0) (by first | decide | omega) (by first | decide | omega)
      rw [show c0 + (i - c0) = i by first | decide | omega] at y
      rw [nn 11 _ (by first | decide | omega), nn 12 _ (by first | decide | omega), nn 13 _ (by first | decide | omega)]
      show v 12 (sh 12 i) = _ ∧ v 13 (sh 13 i) = _ ∧ v 14 (sh 14 i) = _
      rw [sh12 12 i (by first | decide | omega) (by first | decide | omega), sh12 13 i (by first | decide | omega) (by first | decide | omega), sh12 14 i (by first | decide | omega) (by first | decide | omega), y.1.1, y.1.2.2.1]
      exact y.2
  · exact r1.fr3 (fun c p q => kq c (by first | decide | omega) (by first | decide | omega) (by first | decide | omega) (by first | decide | omega) (by first | decide | omega)) (eo 16 (by first | decide | omega) (by first | decide | omega) (by first | decide | omega) (by first | decide | omega) (by first | decide | omega) (by first | decide | omega) (by first | decide | omega)) (eo 17 (by first | decide | omega) (by first | decide | omega) (by first | decide | omega) (by first | decide | omega) (by first | decide | omega) (by first | decide | omega) (by first | decide | omega))
  · exact r2.fr3 (fun c p q => kq c (by first | decide | omega) (by first | decide | omega) (by first | decide | omega) (by first | decide | omega) (by first | decide | omega)) (eo 18 (by first | decide | omega) (by first | decide | omega) (by first | decide | omega) (by first | decide | omega) (by first | decide | omega) (by first | decide | omega) (by first | decide | omega)) (eo 19 (by first | decide | omega) (by first | decide | omega) (by first | decide | omega) (by first | decide | omega) (by first | decide | omega) (by first | decide | omega) (by first | decide | omega))
  · exact r3.fr3 (fun c p q => kq c (by first | decide | omega) (by first | decide | omega) (by first | decide | omega) (by first | decide | omega) (by first | decide | omega)) (eo 20 (by first | decide | omega) (by first | decide | omega) (by first | decide | omega) (by first | decide | omega) (by first | decide | omega) (by first | decide | omega) (by first | decide | omega)) (eo 21 (by first | decide | omega) (by first | decide | omega) (by first | decide | omega) (by first | decide | omega) (by first | decide | omega) (by first | decide | omega) (by first | decide | omega))
  · rw [f 46 7 (by unfold PSe Pk; first | decide | omega)]; exact q4.1
  · rw [f 46 7 (by unfold PSe Pk; first | decide | omega), g 0 24 (by unfold QSe Qk; first | decide | omega)]; exact q4.2.1
  · rw [f 46 7 (by unfold PSe Pk; first | decide | omega), e0, eo 1 (by first | decide | omega) (by first | decide | omega) (by first | decide | omega) (by first | decide | omega) (by first | decide | omega) (by first | decide | omega) (by first | decide | omega)]; exact q4.2.2
  · unfold ONC
    rw [f 46 6 (by unfold PSe Pk; first | decide | omega), g.rw1 (b := 3) (fun i => by unfold QSe Qk; first | decide | omega)]; exact q5
  · exact ⟨by rw [g 0 49 (by unfold QSe Qk; first | decide | omega), e0]; exact q6.1, q6.2.f g (by intro b i q; unfold QSe Qk; first | decide | omega)⟩
end Q29
/-! The line of a set on both sides: the loop. -/
section Q30
variable {m v : Mem} {S : Int} {D : Nat}
/-- the stop where the token is held -/
theorem n_stop1 (h : PostR m v S) (c : m 47 4 = 38) : ∃ v', G12_lineRead_197 v 1 = some (1, v') ∧ Fm Q7 v v' ∧ PreR m v' S ∧ v 0 8 = 4 := by
  have hk := h.2.2.2.2.2.2.2
  have e8 : v 0 8 = 4 ∧ v 0 9 = 59 := by unfold KR SGN NumR at hk; omega
  obtain ⟨v', z1, z2, z3⟩ := h.tok
  unfold G12_lineRead_197 G12_isSign G12_isSign_0
  rw [if_neg i10, if_pos e8.1, if_pos e8.2, bs1]
  simp only [if_neg i10]
  rw [z1, bs1]
  exact ⟨v', rfl, z2, z3, e8.1⟩
theorem n_stop0 (h : PostR m v S) (c : ¬ m 47 4 = 38) : G12_lineRead_197 v 1 = some (0, up (up v 0 4 1) 0 5 (v 0 10)) := by
  have hk := h.2.2.2.2.2.2.2
  unfold G12_lineRead_197 G12_isSign G12_isSign_0
  have e8 : (if v 0 8 = 4 then if v 0 9 = 59 then some ((1 : Int), v) else some (0, v) else some (0, v)) = some (0, v) := by
    by_cases a : v 0 8 = 4
    · have : ¬ v 0 9 = 59 := by unfold KR SGN NumR at hk; omega
      rw [if_pos a, if_neg this]
    · rw [if_neg a]
  rw [if_neg i10, e8, bs1]
  simp only [if_true]
  rw [r_wrong, bs1, gdb_t (by first | decide | omega)]
/-- one more wave -/
theorem SetI.add {m0 v0 m' : Mem} {x k t c0 y : Int} (hDD : D = 2 ∨ D = 24) (h : SetI m0 v0 m v D x k t c0) (hk : 0 ≤ k) (hc : 0 ≤ c0) (hy : 1 ≤ y ∧ y ≤ 9) (f : Fm (fun b i => (b = D + 8 ∧ i = 1) ∨ (b = D + 8 + 2 ∧ i = t) ∨ (D + 8 + 3 ≤ b ∧ b ≤ D + 8 + 6 ∧ i = c0 + k)) m m') (a : m' (D + 8) 1 = c0 + k + 1 ∧ m' (D + 8 + 2) t = k + 1 ∧ m' (D + 8 + 3) (c0 + k) = x + k ∧ m' (D + 8 + 4) (c0 + k) = y ∧ m' (D + 8 + 5) (c0 + k) = t ∧ m' (D + 8 + 6) (c0 + k) = k + 1) : SetI m0 v0 m' (up (up (up (up v 12 (28 + (c0 + k)) (x + k)) 13 (28 + (c0 + k)) y) 14 (28 + (c0 + k)) t) 0 22 (c0 + k + 1)) D x (k + 1) t c0 := by
  obtain ⟨h1, h2, h3, h4, h5⟩ := h
  obtain ⟨a1, a2, a3, a4, a5, a6⟩ := a
  refine ⟨h1.tr (f.mono ?_), (((h2.w ?_).w ?_).w ?_).w ?_, ⟨?_, ?_, ?_, ?_⟩, ⟨?_, ?_⟩, fun j p q => ?_⟩
  · intro b i q; unfold PSe; omega
  · unfold QSe; omega
  · unfold QSe; omega
  · unfold QSe; omega
  · unfold QSe; omega
  · rw [f (D + 8) 0 (by first | decide | omega)]; exact h3.1
  · rw [a1]; omega
  · rw [f (D + 9) t (by first | decide | omega)]; exact h3.2.2.1
  · exact a2
  · rw [up_e]; omega
  · rw [up_a (by first | decide | omega), up_a (by first | decide | omega), up_a (by first | decide | omega), up_a (by first | decide | omega)]; exact h4.2
  · have d11 : m' (D + 11) = m' (D + 8 + 3) := rfl
    have d12 : m' (D + 12) = m' (D + 8 + 4) := rfl
    have d13 : m' (D + 13) = m' (D + 8 + 5) := rfl
    have d14 : m' (D + 14) = m' (D + 8 + 6) := rfl
    by_cases c : j = k
    · subst c
      rw [d11, d12, d13, d14, a3, a4, a5, a6]
      refine ⟨⟨rfl, hy, rfl, rfl⟩, ?_, ?_, ?_⟩
      · rw [up_a (by first | decide | omega), up_a (by first | decide | omega), up_a (by first | decide | omega), up_e]
      · rw [up_a (by first | decide | omega), up_a (by first | decide | omega), up_e]
      · rw [up_a (by first | decide | omega), up_e]
    · have z := h5 j p (by first | decide | omega)
      rw [f (D + 11) _ (by first | decide | omega), f (D + 12) _ (by first | decide | omega), f (D + 13) _ (by first | decide | omega), f (D + 14) _ (by first | decide | omega)]
      refine ⟨z.1, ?_, ?_, ?_⟩
      · rw [up_a (by first | decide | omega), up_a (by first | decide | omega), up_a (by first | decide | omega), up_i (by first | decide | omega)]; exact z.2.1
      · rw [up_a (by first | decide | omega), up_a (by first | decide | omega), up_i (by first | decide | omega), up_a (by first | decide | omega)]; exact z.2.2.1
      · rw [up_a (by first | decide | omega), up_i (by first | decide | omega), up_a (by first | decide | omega), up_a (by first | decide | omega)]; exact z.2.2.2
/-- the waves of a set, one behind the other -/
theorem l_waves {m0 v0 : Mem} {x t c0 : Int} (hD : DI m0 v0 D) (ht : t = m0 (D + 8) 0 ∧ 0 ≤ t ∧ t < 4) (hc : c0 = m0 (D + 8) 1 ∧ 0 ≤ c0 ∧ c0 + 7 ≤ 28) (hx : 0 ≤ x ∧ x ≤ 99) (hl : 0 < c0 → m0 (D + 11) (c0 - 1) < x) : ∀ (d n : Nat) (k : Int) (m v : Mem), (7 - k).toNat = d → d < n → 0 ≤ k → k ≤ 7 → (k = 0 → v 0 8 = 3) → v 0 21 = t → SetI m0 v0 m v D x k t c0 → PreR m v S → LOut (G5_readSet_70 n m (D + 8) x k) ((G12_setLine_110 n v x k).bind fun o => G12_lineRead_197 o.2 o.1) m v D S := by
  have hDD := hD.1.1
  intro d
  induction d with
  | zero =>
    intro n k m v h1 h2 k1 k2 k3 e21 hS p
    obtain ⟨n, rfl⟩ : ∃ j, n = j + 1 := ⟨n - 1, by first | decide | omega⟩
    have ek : k = 7 := by omega
    subst ek
    obtain ⟨m1, e1, f1, h1', p1, _⟩ := p.adv
    have f1' := f1.mono P47_k
    have hS1 := hS.k hDD f1' (Fm.rf (m := v))
    rw [G5_readSet_70, G12_setLine_110, if_neg (by first | decide | omega), e1, bs1, if_neg (by first | decide | omega)]
    refine lo_tr (m1 := m1) (v1 := v) ?_ (f1'.mono Pk_x) Fm.rf p1 (f1 D 12 (by unfold P47; first | decide | omega))
    have hk := h1'.2.2.2.2.2.2.2
    by_cases c1 : m1 47 4 = 38
    · have h' : PostR m1 (up v 0 21 (t + 1)) S := h1'.f (P := fun _ _ => False) (Q := fun b i => b = 0 ∧ i = 21) Fm.rf (Fm.w1 ⟨rfl, rfl⟩) (fun b i _ => id) (by intro b i q; first | decide | omega)
      obtain ⟨v', z1, z2, z3, z4⟩ := n_stop1 h' c1
      rw [up_i (by first | decide | omega)] at z4
      rw [if_pos c1, if_neg (by first | decide | omega), e21, gd3_t (by first | decide | omega), wt_e, bs1]
      have gq : Fm (QSe t c0) v (up v 0 21 (t + 1)) := Fm.w1 (by unfold QSe; first | decide | omega)
      have hS2 : SetI m0 v0 m1 (up v 0 21 (t + 1)) D x 7 t c0 := by
        obtain ⟨s1, s2, s3, s4, s5⟩ := hS1
        refine ⟨s1, s2.tr gq, s3, ?_, fun j p q => ?_⟩
        · rw [up_i (by first | decide | omega), up_a (by first | decide | omega)]; exact s4
        · rw [up_a (by first | decide | omega), up_a (by first | decide | omega), up_a (by first | decide | omega)]; exact s5 j p q
      have hS3 := hS2.k hDD (Fm.rf (m := m1)) (z2.mono Q7_k)
      have hDn : DI m1 v' D := di_set hD ⟨ht.1, ht.2.2⟩ ⟨hc.1, by first | decide | omega⟩ (by first | decide | omega) hx hl hS3 (by rw [z2 0 21 (by unfold Q7; first | decide | omega), up_e])
      exact ⟨m1, v', Fm.rf, (gq.mono (QSe_x ht.2.1 hc.2.1)).tr ((z2.mono Q7_k).mono Qk_x), by first | decide | omega, Or.inl ⟨rfl, z1, hDn, z3, rfl⟩⟩
    · rw [if_neg c1]
      unfold G5_readSet_101
      by_cases c2 : m1 47 4 = 25
      · have e8 : v 0 8 = 3 := by unfold KR SGN NumR at hk; omega
        rw [if_pos e8, if_pos rfl, r_wrong, bs1, gdb_t (by first | decide | omega), bs1]
        dsimp only
        rw [r197]
        unfold G5_takenNumber G5_takenNumber_0 G5_takenNumber_42
        rw [if_pos c2]
        by_cases c3 : m1 47 6 < 1
        · rw [if_pos c3, c_ref, bs1, bs1]
          exact lo_ref h1' 2 (by simp only [if_true]) rfl
        · rw [if_neg c3]
          by_cases c4 : m1 47 6 ≤ 9
          · rw [if_pos c4, bs1]
            dsimp only
            rw [if_neg (by first | decide | omega), if_pos rfl, c_ref, bs1, gdb_t (by first | decide | omega)]
            exact lo_ref h1' 2 rfl rfl
          · rw [if_neg c4, c_ref, bs1, bs1]
            exact lo_ref h1' 2 (by simp only [if_true]) rfl
      · have e8 : ¬ v 0 8 = 3 := by unfold KR SGN NumR at hk; omega
        have h' : PostR m1 (up v 0 21 (t + 1)) S := h1'.f (P := fun _ _ => False) (Q := fun b i => b = 0 ∧ i = 21) Fm.rf (Fm.w1 ⟨rfl, rfl⟩) (fun b i _ => id) (by intro b i q; first | decide | omega)
        rw [if_neg e8, e21, gd3_t (by first | decide | omega), wt_e, bs1]
        dsimp only
        rw [n_stop0 h' c1]
        unfold G5_takenNumber G5_takenNumber_0
        rw [if_neg c2, c_ref, bs1, bs1]
        simp only [if_true]
        refine lo_tr (lo_ref h' 1 rfl rfl) Fm.rf (Fm.w1 (by unfold QX; first | decide | omega)) (by first | decide | omega) rfl
  | succ d ih =>
    intro n k m v h1 h2 k1 k2 k3 e21 hS p
    obtain ⟨n, rfl⟩ : ∃ j, n = j + 1 := ⟨n - 1, by first | decide | omega⟩
    have ek : ¬ k = 7 := by omega
    obtain ⟨m1, e1, f1, h1', p1, _⟩ := p.adv
    have f1' := f1.mono P47_k
    have hS1 := hS.k hDD f1' (Fm.rf (m := v))
    rw [G5_readSet_70, G12_setLine_110, if_neg (by first | decide | omega), e1, bs1]
    refine lo_tr (m1 := m1) (v1 := v) ?_ (f1'.mono Pk_x) Fm.rf p1 (f1 D 12 (by unfold P47; first | decide | omega))
    have hk := h1'.2.2.2.2.2.2.2
    by_cases c1 : m1 47 4 = 38
    · have h' : PostR m1 (up v 0 21 (t + 1)) S := h1'.f (P := fun _ _ => False) (Q := fun b i => b = 0 ∧ i = 21) Fm.rf (Fm.w1 ⟨rfl, rfl⟩) (fun b i _ => id) (by intro b i q; first | decide | omega)
      obtain ⟨v', z1, z2, z3, z4⟩ := n_stop1 h' c1
      rw [up_i (by first | decide | omega)] at z4
      have k0 : ¬ k ≤ 0 := fun q => by have := k3 (by first | decide | omega); omega
      rw [if_neg k0, if_pos c1, if_neg (by first | decide | omega), e21, gd3_t (by first | decide | omega), wt_e, bs1]
      have gq : Fm (QSe t c0) v (up v 0 21 (t + 1)) := Fm.w1 (by unfold QSe; first | decide | omega)
      have hS2 : SetI m0 v0 m1 (up v 0 21 (t + 1)) D x k t c0 := by
        obtain ⟨s1, s2, s3, s4, s5⟩ := hS1
        refine ⟨s1, s2.tr gq, s3, ?_, fun j p q => ?_⟩
        · rw [up_i (by first | decide | omega), up_a (by first | decide | omega)]; exact s4
        · rw [up_a (by first | decide | omega), up_a (by first | decide | omega), up_a (by first | decide | omega)]; exact s5 j p q
      have hS3 := hS2.k hDD (Fm.rf (m := m1)) (z2.mono Q7_k)
      have hDn : DI m1 v' D := di_set hD ⟨ht.1, ht.2.2⟩ ⟨hc.1, by first | decide | omega⟩ (by first | decide | omega) hx hl hS3 (by rw [z2 0 21 (by unfold Q7; first | decide | omega), up_e])
      exact ⟨m1, v', Fm.rf, (gq.mono (QSe_x ht.2.1 hc.2.1)).tr ((z2.mono Q7_k).mono Qk_x), by first | decide | omega, Or.inl ⟨rfl, z1, hDn, z3, rfl⟩⟩
    · have hif : ∀ X : Option (Int × Mem), (if k ≤ 0 then X else if m1 47 4 = 38 then some (1, m1) else X) = X := fun X => by
        by_cases z : k ≤ 0
        · rw [if_pos z]
        · rw [if_neg z, if_neg c1]
      rw [hif]
      unfold G5_readSet_101
      by_cases c2 : m1 47 4 = 25
      · have e8 : v 0 8 = 3 := by unfold KR SGN NumR at hk; omega
        rw [if_pos e8, if_neg ek]
        obtain ⟨m2, v2, f2, g2, q2, kk⟩ := n_tk h1' (lo := 1) (hi := 9) (by first | decide | omega)
        have hS2 := hS1.k hDD f2 g2
        rcases kk with ⟨y, y1, y2, _, a1, a2, a3, a4⟩ | ⟨a1, a2, a3, _⟩
        · have w22 : v2 0 22 = c0 + k := hS2.2.2.2.1.1
          rw [a1, a2, bs1, bs1]
          dsimp only
          rw [if_neg i10, if_neg (show ¬ y = -1 by first | decide | omega), if_neg ek, w22, gd3_t (by first | decide | omega)]
          obtain ⟨m3, b1, b2, b3⟩ := c_addw (m := m2) (a := D + 8) (x := x + k) (y := y) (s := t) (c := c0 + k) (l := k) hS2.2.2.1.1 hS2.2.2.1.2.1 hS2.2.2.1.2.2.2 (by first | decide | omega) (by first | decide | omega) (by first | decide | omega)
          have g21 : v2 0 21 = t := by rw [g2 0 21 (by unfold Qk; first | decide | omega)]; exact e21
          rw [b1, bs1, gd3_t (by first | decide | omega), gdx_t (by first | decide | omega), gd3_t (by first | decide | omega), wt_e, up_a (show (0 : Nat) ≠ 12 by first | decide | omega), w22, gdx_t (by first | decide | omega), wt_e, up_a (show (0 : Nat) ≠ 13 by first | decide | omega), up_a (show (0 : Nat) ≠ 12 by first | decide | omega), up_a (show (0 : Nat) ≠ 13 by first | decide | omega), up_a (show (0 : Nat) ≠ 12 by first | decide | omega), up_a (show (0 : Nat) ≠ 12 by first | decide | omega), w22, a3, g21, gdx_t (by first | decide | omega), wt_e, up_a (show (0 : Nat) ≠ 14 by first | decide | omega), up_a (show (0 : Nat) ≠ 13 by first | decide | omega), up_a (show (0 : Nat) ≠ 12 by first | decide | omega), w22, gd3_t (by first | decide | omega), wt_e, gd3_t (by first | decide | omega)]
          have hS3 := hS2.add hDD k1 hc.2.1 ⟨y1, y2⟩ b2 b3
          have p4 : PreR m3 (up (up (up (up v2 12 (28 + (c0 + k)) (x + k)) 13 (28 + (c0 + k)) y) 14 (28 + (c0 + k)) t) 0 22 (c0 + k + 1)) S := a4.f (Q := fun b i => (12 ≤ b ∧ b ≤ 14) ∨ (b = 0 ∧ i = 22)) b2 ((((Fm.w1 (by first | decide | omega)).w (by first | decide | omega)).w (by first | decide | omega)).w (by first | decide | omega)) (by intro b i q; first | decide | omega) (by intro b i q; first | decide | omega)
          refine lo_tr (ih n (k + 1) m3 _ (by first | decide | omega) (by first | decide | omega) (by first | decide | omega) (by first | decide | omega) (fun q => by first | decide | omega) ?_ hS3 p4) ((f2.mono Pk_x).tr (b2.mono ?_)) (((((g2.mono Qk_x).w ?_).w ?_).w ?_).w ?_) ?_ ?_
          · rw [up_i (by first | decide | omega), up_a (by first | decide | omega), up_a (by first | decide | omega), up_a (by first | decide | omega)]; exact g21
          · intro b i q; unfold PX; omega
          · unfold QX; omega
          · unfold QX; omega
          · unfold QX; omega
          · unfold QX; omega
          · rw [b2 47 3 (by first | decide | omega)]; omega
          · rw [b2 D 12 (by first | decide | omega), f2 D 12 (by unfold Pk; first | decide | omega)]
        · rw [a1, a2, bs1, bs1]
          simp only [if_true, bs1, r197]
          exact lo_flt ⟨m2, v2, f2, g2, by first | decide | omega, rfl, rfl, a3⟩
      · have e8 : ¬ v 0 8 = 3 := by unfold KR SGN NumR at hk; omega
        have h' : PostR m1 (up v 0 21 (t + 1)) S := h1'.f (P := fun _ _ => False) (Q := fun b i => b = 0 ∧ i = 21) Fm.rf (Fm.w1 ⟨rfl, rfl⟩) (fun b i _ => id) (by intro b i q; first | decide | omega)
        rw [if_neg e8, e21, gd3_t (by first | decide | omega), wt_e, bs1]
        dsimp only
        rw [n_stop0 h' c1]
        unfold G5_takenNumber G5_takenNumber_0
        rw [if_neg c2, c_ref, bs1, bs1]
        simp only [if_true]
        refine lo_tr (lo_ref h' 1 rfl rfl) Fm.rf (Fm.w1 (by unfold QX; first | decide | omega)) (by first | decide | omega) rfl
end Q30
/-! The line of a set on both sides: the line. -/
section Q31
variable {m v : Mem} {S : Int} {D : Nat}
/-- where the last set's last wave is -/
theorem w_last {w : Mem} (hS : WS w) (hT : WT w) (hV : WV w) (h : 0 < w 8 0) : (1 ≤ w 8 1 ∧ w 8 1 ≤ 7 * w 8 0) ∧ w 9 (w 8 0 - 1) + w 10 (w 8 0 - 1) = w 8 1 ∧ 1 ≤ w 10 (w 8 0 - 1) ∧ w 10 (w 8 0 - 1) ≤ 7 ∧ 0 ≤ w 9 (w 8 0 - 1) ∧ w 11 (w 8 1 - 1) = w 11 (w 9 (w 8 0 - 1)) + w 10 (w 8 0 - 1) - 1 ∧ 0 ≤ w 11 (w 9 (w 8 0 - 1)) ∧ w 11 (w 9 (w 8 0 - 1)) ≤ 105 := by
  obtain ⟨t1, t2, t3⟩ := hT
  have hs4 : w 8 0 ≤ 4 := by unfold WS at hS; omega
  have hn := t3 (w 8 0 - 1) (by first | decide | omega) (by first | decide | omega)
  have en := hn.2.2.2.2.2 (by first | decide | omega)
  have h7 : w 9 (w 8 0 - 1) ≤ 7 * (w 8 0 - 1) := by
    have z0 := t2 h
    have z1 := t3 0 (by first | decide | omega) h
    have z2 := fun q => t3 1 (by first | decide | omega) q
    have z3 := fun q => t3 2 (by first | decide | omega) q
    have hh : w 8 0 = 1 ∨ w 8 0 = 2 ∨ w 8 0 = 3 ∨ w 8 0 = 4 := by omega
    rw [show (0 : Int) + 1 = 1 by first | decide | omega] at z1
    rcases hh with e | e | e | e
    · rw [e, show (1 : Int) - 1 = 0 by first | decide | omega]; omega
    · rw [e, show (2 : Int) - 1 = 1 by first | decide | omega]
      have := z1.2.2.2.2.1 (by first | decide | omega)
      omega
    · rw [e, show (3 : Int) - 1 = 2 by first | decide | omega]
      have a1 := z1.2.2.2.2.1 (by first | decide | omega)
      have a2 := z2 (by first | decide | omega)
      rw [show (1 : Int) + 1 = 2 by first | decide | omega] at a2
      have a3 := a2.2.2.2.2.1 (by first | decide | omega)
      omega
    · rw [e, show (4 : Int) - 1 = 3 by first | decide | omega]
      have a1 := z1.2.2.2.2.1 (by first | decide | omega)
      have a2 := z2 (by first | decide | omega)
      rw [show (1 : Int) + 1 = 2 by first | decide | omega] at a2
      have a3 := a2.2.2.2.2.1 (by first | decide | omega)
      have a4 := z3 (by first | decide | omega)
      rw [show (2 : Int) + 1 = 3 by first | decide | omega] at a4
      have a5 := a4.2.2.2.2.1 (by first | decide | omega)
      omega
  have hb := hV (w 8 1 - 1) (by first | decide | omega) (by first | decide | omega)
  obtain ⟨⟨b1, b2, b3, b4, b5, b6⟩, _⟩ := hb
  have e13 : w 13 (w 8 1 - 1) = w 8 0 - 1 := by
    generalize w 13 (w 8 1 - 1) = s at b1 b2 b3 b4 b5 b6 ⊢
    apply Classical.byContradiction
    intro ne
    have s1 := t3 s b1 b2
    have s2 := s1.2.2.2.2.1 (by first | decide | omega)
    by_cases c1 : s + 1 = w 8 0 - 1
    · rw [c1] at s2; omega
    · have s3 := t3 (s + 1) (by first | decide | omega) (by first | decide | omega)
      have s4 := s3.2.2.2.2.1 (by first | decide | omega)
      by_cases c2 : s + 1 + 1 = w 8 0 - 1
      · rw [c2] at s4; omega
      · have s5 := t3 (s + 1 + 1) (by first | decide | omega) (by first | decide | omega)
        have s6 := s5.2.2.2.2.1 (by first | decide | omega)
        rw [show s + 1 + 1 + 1 = w 8 0 - 1 by first | decide | omega] at s6
        omega
  rw [e13] at b6
  have hf := (hV (w 9 (w 8 0 - 1)) (by first | decide | omega) (by first | decide | omega)).2.1
  exact ⟨by first | decide | omega, en, by first | decide | omega, by first | decide | omega, by first | decide | omega, by first | decide | omega, by first | decide | omega, by first | decide | omega⟩
theorem l_64 {x : Int} (hD : DI m v D) (ht : m (D + 8) 0 < 4) (hx : 0 ≤ x ∧ x ≤ 99) (hl : 0 < m (D + 8) 1 → m (D + 11) (m (D + 8) 1 - 1) < x) (e11 : v 0 11 = x) (p : PreR m v S) : LOut (G5_readSet_64 m (D + 8) x) ((G12_setLine_74 v).bind fun o => G12_lineRead_197 o.2 o.1) m v D S := by
  have hDD := hD.1.1
  have hN := hD.n
  have e80 : sl 21 m D 8 0 = m (D + 8) 0 := sl_e (by first | decide | omega) _
  have e81 : sl 21 m D 8 1 = m (D + 8) 1 := sl_e (by first | decide | omega) _
  have hb : 0 ≤ m (D + 8) 0 ∧ 0 ≤ m (D + 8) 1 ∧ m (D + 8) 1 + 7 ≤ 28 := by
    obtain ⟨hS, _, hT, hV, _⟩ := hD.2.1
    have h1 := hS
    unfold WS at h1
    by_cases c : 0 < sl 21 m D 8 0
    · have := (w_last hS hT hV c).1
      omega
    · have := hT.1 (by first | decide | omega)
      omega
  have e21 : v 0 21 = m (D + 8) 0 := hN.2.2.2.1
  have e22 : v 0 22 = m (D + 8) 1 := hN.2.2.2.2.1
  unfold G5_readSet_64 G12_setLine_74
  rw [c_bset ⟨hb.1, ht⟩, bs1]
  have f1 : Fm (PSe D (m (D + 8) 0) (m (D + 8) 1)) m (up (up (up m (D + 8 + 1) (m (D + 8) 0) (m (D + 8) 1)) (D + 8 + 2) (m (D + 8) 0) 0) (D + 8) 0 (m (D + 8) 0 + 1)) := ((Fm.w1 (by unfold PSe; first | decide | omega)).w (by unfold PSe; first | decide | omega)).w (by unfold PSe; first | decide | omega)
  have q1 : up (up (up m (D + 8 + 1) (m (D + 8) 0) (m (D + 8) 1)) (D + 8 + 2) (m (D + 8) 0) 0) (D + 8) 0 (m (D + 8) 0 + 1) (D + 8) 0 = m (D + 8) 0 + 1 := up_e
  have q2 : up (up (up m (D + 8 + 1) (m (D + 8) 0) (m (D + 8) 1)) (D + 8 + 2) (m (D + 8) 0) 0) (D + 8) 0 (m (D + 8) 0 + 1) (D + 8) 1 = m (D + 8) 1 := by rw [up_i (by first | decide | omega), up_a (by first | decide | omega), up_a (by first | decide | omega)]
  have q3 : up (up (up m (D + 8 + 1) (m (D + 8) 0) (m (D + 8) 1)) (D + 8 + 2) (m (D + 8) 0) 0) (D + 8) 0 (m (D + 8) 0 + 1) (D + 9) (m (D + 8) 0) = m (D + 8) 1 := by rw [up_a (by first | decide | omega), up_a (by first | decide | omega), up_e]
  have q4 : up (up (up m (D + 8 + 1) (m (D + 8) 0) (m (D + 8) 1)) (D + 8 + 2) (m (D + 8) 0) 0) (D + 8) 0 (m (D + 8) 0 + 1) (D + 10) (m (D + 8) 0) = 0 := by rw [up_a (by first | decide | omega), up_e]
  have q5 : up (up (up m (D + 8 + 1) (m (D + 8) 0) (m (D + 8) 1)) (D + 8 + 2) (m (D + 8) 0) 0) (D + 8) 0 (m (D + 8) 0 + 1) 47 3 = m 47 3 := by rw [up_a (by first | decide | omega), up_a (by first | decide | omega), up_a (by first | decide | omega)]
  have q6 : up (up (up m (D + 8 + 1) (m (D + 8) 0) (m (D + 8) 1)) (D + 8 + 2) (m (D + 8) 0) 0) (D + 8) 0 (m (D + 8) 0 + 1) D 12 = m D 12 := by rw [up_a (by first | decide | omega), up_a (by first | decide | omega), up_a (by first | decide | omega)]
  have p1 : PreR (up (up (up m (D + 8 + 1) (m (D + 8) 0) (m (D + 8) 1)) (D + 8 + 2) (m (D + 8) 0) 0) (D + 8) 0 (m (D + 8) 0 + 1)) v S := p.f (P := fun b i => D ≤ b ∧ b ≤ D + 21) (Q := fun _ _ => False) (((Fm.w1 (by first | decide | omega)).w (by first | decide | omega)).w (by first | decide | omega)) Fm.rf (by intro b i q; first | decide | omega) (fun b i _ => id)
  generalize up (up (up m (D + 8 + 1) (m (D + 8) 0) (m (D + 8) 1)) (D + 8 + 2) (m (D + 8) 0) 0) (D + 8) 0 (m (D + 8) 0 + 1) = m1 at f1 q1 q2 q3 q4 q5 q6 p1 ⊢
  by_cases c : v 0 8 = 3
  · rw [if_pos c, e21, gdx_t (by first | decide | omega), e22, e11, wt_e]
    have p2 : PreR m1 (up v 11 (4 + m (D + 8) 0) (m (D + 8) 1)) S := p1.f (P := fun _ _ => False) (Q := fun b i => b = 11) Fm.rf (Fm.w1 rfl) (fun b i _ => id) (by intro b i q; first | decide | omega)
    have hS : SetI m v m1 (up v 11 (4 + m (D + 8) 0) (m (D + 8) 1)) D x 0 (m (D + 8) 0) (m (D + 8) 1) := by
      refine ⟨f1, Fm.w1 (by unfold QSe; first | decide | omega), ⟨q1, by rw [q2]; first | decide | omega, q3, q4⟩, ⟨by rw [up_a (by first | decide | omega), e22]; first | decide | omega, up_e⟩, fun j a b => by first | decide | omega⟩
    exact lo_tr (l_waves hD ⟨rfl, hb.1, ht⟩ ⟨rfl, hb.2.1, hb.2.2⟩ hx hl 7 1024 0 m1 _ (by first | decide | omega) (by first | decide | omega) (by first | decide | omega) (by first | decide | omega) (fun _ => by rw [up_a (by first | decide | omega)]; exact c) (by rw [up_a (by first | decide | omega)]; exact e21) hS p2) (f1.mono PSe_x) (Fm.w1 (by unfold QX; first | decide | omega)) (by first | decide | omega) q6
  · rw [if_neg c, r_wrong, bs1, gdb_t (by first | decide | omega), bs1]
    dsimp only
    rw [r197]
    obtain ⟨m2, e1, f2, h1', p2, _⟩ := p1.adv
    have hk := h1'.2.2.2.2.2.2.2
    have c2 : ¬ m2 47 4 = 25 := by unfold KR SGN NumR at hk; omega
    rw [show (1024 : Nat) = 1023 + 1 from rfl, G5_readSet_70, if_neg (by first | decide | omega), e1, bs1, if_pos (show (0 : Int) ≤ 0 by first | decide | omega)]
    unfold G5_readSet_101 G5_takenNumber G5_takenNumber_0
    rw [if_neg c2, c_ref, bs1, bs1]
    simp only [if_true]
    exact lo_tr (lo_ref h1' 1 rfl rfl) ((f1.mono PSe_x).tr ((f2.mono P47_k).mono Pk_x)) Fm.rf (by first | decide | omega) (by rw [f2 D 12 (by unfold P47; first | decide | omega)]; exact q6)
theorem l_set (hD : DI m v D) (h : PostR m v S) : LOut (G5_readSet m) ((G12_setLine v).bind fun o => G12_lineRead_197 o.2 o.1) m v D S := by
  have hDD := hD.1.1
  have hN := hD.n
  have e21 : v 0 21 = m (D + 8) 0 := hN.2.2.2.1
  have e22 : v 0 22 = m (D + 8) 1 := hN.2.2.2.2.1
  have e80 : sl 21 m D 8 0 = m (D + 8) 0 := sl_e (by first | decide | omega) _
  have e81 : sl 21 m D 8 1 = m (D + 8) 1 := sl_e (by first | decide | omega) _
  obtain ⟨hS, _, hT, hV, _⟩ := hD.2.1
  have hb : 0 ≤ m (D + 8) 0 ∧ m (D + 8) 0 ≤ 4 ∧ 0 ≤ m (D + 8) 1 := by
    have h1 := hS
    unfold WS at h1
    omega
  unfold G5_readSet G5_readSet_0 G12_setLine G12_setLine_0
  rw [hD.1.2, Int.toNat_natCast, e21]
  by_cases c0 : m (D + 8) 0 < 4
  · rw [if_pos c0, if_neg (show ¬ m (D + 8) 0 = 4 by first | decide | omega)]
    obtain ⟨v2, z1, z2, p2⟩ := h.tok
    rw [z1, bs1]
    obtain ⟨m3, v3, f3, g3, q3, k3⟩ := n_in p2 (lo := 0) (hi := 99) (by first | decide | omega)
    have G3 : Fm Qk v v3 := (z2.mono Q7_k).tr g3
    have hD3 : DI m3 v3 D := hD.k f3 G3
    refine lo_tr (m1 := m3) (v1 := v3) ?_ (f3.mono Pk_x) (G3.mono Qk_x) q3 (f3 D 12 (by unfold Pk; first | decide | omega))
    rcases k3 with ⟨x, x1, x2, a1, a2, a3, p3, a5⟩ | ⟨a1, a2, a3⟩
    · have r80 : m3 (D + 8) 0 = m (D + 8) 0 := f3 _ _ (by unfold Pk; first | decide | omega)
      have r81 : m3 (D + 8) 1 = m (D + 8) 1 := f3 _ _ (by unfold Pk; first | decide | omega)
      have e22' : v3 0 22 = m (D + 8) 1 := by rw [G3 0 22 (by unfold Qk; first | decide | omega)]; exact e22
      rw [a1, a2, bs1, bs1]
      simp only [if_neg i10, if_neg (show ¬ x = -1 by first | decide | omega), r80, e22']
      by_cases c1 : m (D + 8) 0 ≤ 0
      · have hz := hT.1 (by first | decide | omega)
        rw [if_pos c1, if_pos (show m (D + 8) 1 ≤ 0 by first | decide | omega)]
        exact l_64 hD3 (by first | decide | omega) ⟨x1, x2⟩ (fun q => by first | decide | omega) a3 p3
      · have hl := w_last hS hT hV (by first | decide | omega)
        rw [e80, e81] at hl
        obtain ⟨l1, l2, l3, l4, l5, l6, l7, l8⟩ := hl
        have hd : ∀ (c : Nat) i, c ≤ 21 → sl 21 m D c i = m (D + c) i := fun c i q => sl_e q i
        have e9 : m3 (D + 8) 0 = m (D + 8) 0 := r80
        have ht : TX m3 D (sl 21 m3 D) := ⟨hDD, fun i => (sl_e (Nat.zero_le _) i).symm, fun c i q => (sl_e q i).symm⟩
        have es : ∀ (c : Nat), sl 21 m3 D c = sl 21 m D c := fun c => by rw [sl_c (fun b x y => f3.rw1 (fun i => by unfold Pk; first | decide | omega))]
        have glm := g_lm (t := m (D + 8) 0 - 1) ht (by first | decide | omega) (by rw [es 9]; first | decide | omega) (by rw [es 10]; first | decide | omega) (by rw [es 9, es 11]; first | decide | omega)
        rw [es 9, es 10, es 11] at glm
        have e12 : v3 12 (28 + m (D + 8) 1 - 1) = m (D + 11) (m (D + 8) 1 - 1) := by
          have z := (hD.2.2.1.2.2.2.2.1 (m (D + 8) 1 - 1) (by first | decide | omega) (by first | decide | omega)).1
          have z' : v 12 (28 + (m (D + 8) 1 - 1)) = sl 21 m D 11 (m (D + 8) 1 - 1) := z
          rw [hd 11 _ (by first | decide | omega)] at z'
          rw [G3 12 _ (by unfold Qk; first | decide | omega), show 28 + m (D + 8) 1 - 1 = 28 + (m (D + 8) 1 - 1) by first | decide | omega]
          exact z'
        have r11 : m3 (D + 11) (m (D + 8) 1 - 1) = m (D + 11) (m (D + 8) 1 - 1) := f3 _ _ (by unfold Pk; first | decide | omega)
        rw [hd 11 (m (D + 8) 1 - 1) (by first | decide | omega)] at l6
        rw [if_neg c1, if_neg (show ¬ m (D + 8) 1 ≤ 0 by first | decide | omega), gd3_t (by first | decide | omega), glm, bs1]
        dsimp only
        rw [gdx_t (by unfold WS at hS; first | decide | omega), e12, a3, ← l6]
        by_cases c2 : m (D + 11) (m (D + 8) 1 - 1) < x
        · rw [if_pos c2, if_pos c2]
          exact l_64 hD3 (by first | decide | omega) ⟨x1, x2⟩ (fun q => by rw [r81, r11]; exact c2) a3 p3
        · rw [if_neg c2, if_neg c2, wt_e, c_ref, bs1, gdb_t (by first | decide | omega), r_wrong, bs1, gdb_t (by first | decide | omega), bs1]
          dsimp only
          rw [r197, up_e]
          have g5 : Fm QX v3 (up v3 0 10 (v2 0 10)) := Fm.w1 (by unfold QX; first | decide | omega)
          obtain ⟨y1, y2, y3⟩ := flt m3 (up v3 0 10 (v2 0 10)) 5 a5
          exact lo_fltx ⟨_, _, y2.mono Pk_x, g5.tr (y3.mono Qk_x), by rw [up_a (by first | decide | omega), up_a (by first | decide | omega)]; first | decide | omega, rfl, rfl, y1⟩
    · rw [a1, a2, bs1, bs1]
      simp only [if_true, bs1, r197]
      exact ⟨m3, v3, Fm.rf, Fm.rf, by first | decide | omega, Or.inr ⟨rfl, rfl, a3⟩⟩
  · rw [if_neg c0, if_pos (show m (D + 8) 0 = 4 by first | decide | omega), c_ref, bs1, r_wrong, bs1, gdb_t (by first | decide | omega), gdb_t (by first | decide | omega), bs1]
    dsimp only
    rw [r197]
    exact lo_ref h 2 rfl rfl
end Q31
