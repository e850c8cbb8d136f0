/-! The tokens of a text: the class. -/
def isBl (c : Int) : Bool := decide (c = 10) || decide (c = 32)
def isLt (c : Int) : Bool := decide (97 ≤ c) && decide (c ≤ 122)
def isDg (c : Int) : Bool := decide (48 ≤ c) && decide (c ≤ 57)
theorem isBl_i {c : Int} : isBl c = true ↔ (c = 10 ∨ c = 32) := by unfold isBl; simp
theorem isLt_i {c : Int} : isLt c = true ↔ (97 ≤ c ∧ c ≤ 122) := by unfold isLt; simp
theorem isDg_i {c : Int} : isDg c = true ↔ (48 ≤ c ∧ c ≤ 57) := by unfold isDg; simp
/-- how far a row of such goes -/
def rn (f : Int → Bool) : Nat → Int → Int
  | 0, p => p
  | d + 1, p => if f p = true then rn f d (p + 1) else p
theorem rn_s (f : Int → Bool) (d : Nat) (p : Int) : rn f (d + 1) p = if f p = true then rn f d (p + 1) else p := rfl
def rr (f : Int → Bool) (S p : Int) : Int := rn f (S - p).toNat p
theorem rn_spec {f : Int → Bool} : ∀ (d : Nat) (p : Int), p ≤ rn f d p ∧ rn f d p ≤ p + d ∧ (∀ i, p ≤ i → i < rn f d p → f i = true) ∧ (rn f d p < p + d → ¬ f (rn f d p) = true) := by
  intro d
  induction d with
  | zero => intro p; exact ⟨by show p ≤ p; first | decide | omega, by show p ≤ p + 0; first | decide | omega, fun i a b => by have : rn f 0 p = p := rfl; first | decide | omega, fun h => by have : rn f 0 p = p := rfl; first | decide | omega⟩
  | succ d ih =>
    intro p
    rw [rn_s]
    by_cases c : f p = true
    · rw [if_pos c]
      obtain ⟨h1, h2, h3, h4⟩ := ih (p + 1)
      refine ⟨by first | decide | omega, by first | decide | omega, fun i a b => ?_, fun h => h4 (by first | decide | omega)⟩
      by_cases z : i = p
      · rw [z]; exact c
      · exact h3 i (by first | decide | omega) b
    · rw [if_neg c]
      exact ⟨by first | decide | omega, by first | decide | omega, fun i a b => by first | decide | omega, fun _ => c⟩
theorem rr_spec {f : Int → Bool} {S p : Int} (h : p ≤ S) : p ≤ rr f S p ∧ rr f S p ≤ S ∧ (∀ i, p ≤ i → i < rr f S p → f i = true) ∧ (rr f S p < S → ¬ f (rr f S p) = true) := by
  obtain ⟨h1, h2, h3, h4⟩ := rn_spec (f := f) (S - p).toNat p
  unfold rr
  exact ⟨h1, by first | decide | omega, h3, fun q => h4 (by first | decide | omega)⟩
/-- the letters of a word from q on, six at most, 5 bits each -/
def pp (t : Int → Int) (q : Int) : Nat → Int
  | 0 => 0
  | j + 1 => if j < 6 then pp t q j + (t (q + j) - 96) * 2 ^ (25 - 5 * j) else pp t q j
theorem pp_s (t : Int → Int) (q : Int) (j : Nat) : pp t q (j + 1) = if j < 6 then pp t q j + (t (q + j) - 96) * 2 ^ (25 - 5 * j) else pp t q j := rfl
/-- a number from q on -/
def nv (t : Int → Int) : Nat → Int → Int → Int
  | 0, _, a => a
  | d + 1, q, a => nv t d (q + 1) (if 1000000 < a * 10 + t q - 48 then 1000000 else a * 10 + t q - 48)
theorem nv_s (t : Int → Int) (d : Nat) (q a : Int) : nv t (d + 1) q a = nv t d (q + 1) (if 1000000 < a * 10 + t q - 48 then 1000000 else a * 10 + t q - 48) := rfl
/-- signs: by the one and the next one -/
def sg1 (c : Int) : Int := if c = 40 then 36 else if c = 41 then 37 else if c = 42 then 34 else if c = 43 then 32 else if c = 45 then 33 else if c = 47 then 35 else if c = 59 then 38 else if c = 60 then 26 else if c = 61 then 28 else if c = 62 then 31 else 40
def sgT (c x : Int) : Int := if c = 60 then (if x = 61 then 27 else if x = 62 then 29 else 26) else if c = 62 then (if x = 61 then 30 else 31) else sg1 c
def sgA (c x : Int) : Int := if c = 60 then (if x = 61 then 2 else if x = 62 then 2 else 1) else if c = 62 then (if x = 61 then 2 else 1) else 1
def wxl : List Int → Int → Int → Int
  | [], _, i => i
  | a :: r, B, i => if a = B then i else wxl r B (i + 1)
def wix (B : Int) : Int := wxl lgW B 0
/-- place, token, value, what comes behind -/
def tkp (t : Int → Int) (S p : Int) : Int := rr (fun i => isBl (t i)) S p
def lte (t : Int → Int) (S q : Int) : Int := rr (fun i => isLt (t i)) S q
def dge (t : Int → Int) (S q : Int) : Int := rr (fun i => isDg (t i)) S q
def chN (t : Int → Int) (S q : Int) : Int := if q + 1 < S then t (q + 1) else 0
def tqt (t : Int → Int) (S q : Int) : Int := if S ≤ q then 39 else if isLt (t q) = true then (if lte t S q - q ≤ 6 then wix (pp t q (lte t S q - q).toNat) else 40) else if isDg (t q) = true then 25 else sgT (t q) (chN t S q)
def tqv (t : Int → Int) (S q : Int) : Int := if S ≤ q then 0 else if isLt (t q) = true then pp t q (lte t S q - q).toNat else if isDg (t q) = true then nv t (dge t S q - q).toNat q 0 else 0
def tqn (t : Int → Int) (S q : Int) : Int := if S ≤ q then q else if isLt (t q) = true then lte t S q else if isDg (t q) = true then dge t S q else q + sgA (t q) (chN t S q)
theorem z3n {X : Int} (h : 0 ≤ X ∧ X < 2147483648) : (Z3 X).toBitVec.toNat = X.toNat := by
  have e : (Z3 X).toBitVec = BitVec.ofInt 32 X := rfl
  rw [e, BitVec.toNat_ofInt]
  have : X % ((2 ^ 32 : Nat) : Int) = X := Int.emod_eq_of_lt h.1 (by have := h.2; first | decide | omega)
  rw [this]
theorem sl_v {c S : Int} {k : Nat} (hk : (Z3 S).toBitVec.smod 32 = BitVec.ofNat 32 k) (hk2 : k < 32) (hc : 0 ≤ c ∧ c * 2 ^ k < 2147483648) : b3sl c S = c * 2 ^ k := by
  have hc0 : c < 2147483648 := by
    have h1 : (1 : Int) ≤ 2 ^ k := by have := Int.pow_pos (n := 2) (m := k) (by first | decide | omega); omega
    have h2 : c * 1 ≤ c * 2 ^ k := Int.mul_le_mul_of_nonneg_left h1 hc.1
    omega
  obtain ⟨n, rfl⟩ : ∃ n : Nat, c = n := ⟨c.toNat, by first | decide | omega⟩
  have hn : n * 2 ^ k < 2147483648 := by
    have h := hc.2
    have e : ((n * 2 ^ k : Nat) : Int) = (n : Int) * 2 ^ k := by rw [Int.natCast_mul, Int.natCast_pow]; rfl
    rw [← e] at h
    generalize n * 2 ^ k = z at h ⊢
    omega
  unfold b3sl
  have e : (Z3 n <<< Z3 S).toBitVec = (Z3 n).toBitVec <<< k := by
    show (Z3 n).toBitVec <<< ((Z3 S).toBitVec.smod 32) = _
    rw [hk]
    show (Z3 n).toBitVec <<< (BitVec.ofNat 32 k).toNat = _
    rw [BitVec.toNat_ofNat, Nat.mod_eq_of_lt (by first | decide | omega)]
  have e1 : (Z3 n <<< Z3 S).toBitVec.toNat = n * 2 ^ k := by
    rw [e, BitVec.toNat_shiftLeft, z3n (by first | decide | omega), Nat.shiftLeft_eq, Int.toNat_natCast, Nat.mod_eq_of_lt (by first | decide | omega)]
  have e2 : (Z3 n <<< Z3 S).toInt = ((Z3 n <<< Z3 S).toBitVec.toNat : Int) := by
    refine bv_nn (n := 31) _ ?_
    rw [e1]; omega
  rw [e2, e1]
  exact_mod_cast rfl
theorem or_v {A b : Int} {k : Nat} {a : Int} (hA : A = a * 2 ^ k) (ha : 0 ≤ a ∧ A < 1073741824) (hb : 0 ≤ b ∧ b < 2 ^ k) (hk : k ≤ 30) : b3or A b = A + b := by
  obtain ⟨a, rfl⟩ : ∃ n : Nat, a = n := ⟨a.toNat, by first | decide | omega⟩
  obtain ⟨b, rfl⟩ : ∃ n : Nat, b = n := ⟨b.toNat, by first | decide | omega⟩
  have hb2 : b < 2 ^ k := by have := hb.2; exact_mod_cast this
  have hp : 2 ^ k ≤ 2 ^ 30 := Nat.pow_le_pow_right (by first | decide | omega) hk
  have hA' : A = ((2 ^ k * a : Nat) : Int) := by rw [hA, Nat.mul_comm]; exact_mod_cast rfl
  have hA2 : 2 ^ k * a < 1073741824 := by
    have h := ha.2
    rw [hA'] at h
    generalize 2 ^ k * a = z at h ⊢
    omega
  have hb3 : b < 1073741824 := Nat.lt_of_lt_of_le hb2 hp
  have hs : 2 ^ k * a + b < 2147483648 := by omega
  rw [hA']
  unfold b3or
  have e1 : (Z3 ((2 ^ k * a : Nat) : Int) ||| Z3 (b : Int)).toBitVec.toNat = 2 ^ k * a + b := by
    rw [Int32.toBitVec_or, BitVec.toNat_or, z3n (by first | decide | omega), z3n (by first | decide | omega), Int.toNat_natCast, Int.toNat_natCast, Nat.two_pow_add_eq_or_of_lt hb2]
  have e2 : (Z3 ((2 ^ k * a : Nat) : Int) ||| Z3 (b : Int)).toInt = ((Z3 ((2 ^ k * a : Nat) : Int) ||| Z3 (b : Int)).toBitVec.toNat : Int) := by
    refine bv_nn (n := 31) _ ?_
    rw [e1]; omega
  rw [e2, e1]
  exact_mod_cast rfl
/-! The tokens of a text: the class reads them so. -/
