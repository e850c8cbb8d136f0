/-! The line of a law on both sides: the draft behind it, the line. -/
section Q38
variable {m v : Mem} {S : Int} {D : Nat}
def LCP (c : Int) (p q : Nat) : Prop := (c = 0 ∧ p = 16 ∧ q = 17) ∨ (c = 1 ∧ p = 18 ∧ q = 19) ∨ (c = 2 ∧ p = 20 ∧ q = 21)
def PLx (D p q : Nat) : Nat → Int → Prop := fun b i => PLw D (D + p) b i ∨ (b = D + p ∧ i = 2)
def QLx (F k : Int) : Nat → Int → Prop := fun b i => QLw F b i ∨ ((15 ≤ b ∧ b ≤ 17) ∧ i = 3 + k)
theorem QLx_0 {F k i : Int} (h : 46 ≤ i ∧ i ≤ 51) : QLx F k 0 i := Or.inl (Or.inr (Or.inl ⟨rfl, Or.inr h⟩))
theorem QLx_r {F k : Int} {b : Nat} (h : 15 ≤ b ∧ b ≤ 17) : QLx F k b (3 + k) := Or.inr ⟨h, rfl⟩
theorem PLx_t {p q : Nat} : PLx D p q (D + p) 2 := Or.inr ⟨rfl, rfl⟩
theorem PLx_46 {p q : Nat} {i : Int} (h : 2 ≤ i ∧ i ≤ 5) : PLx D p q 46 i := Or.inl (Or.inr (Or.inl ⟨rfl, h⟩))
theorem sh15 {b : Nat} (h : 15 ≤ b ∧ b ≤ 17) (i : Int) : kd v b i = v b (3 + i) := by
  show v b (sh b i) = _
  have : sh b i = 3 + i := by unfold sh; rw [if_neg (by first | decide | omega), if_neg (by first | decide | omega), if_neg (by first | decide | omega), if_neg (by first | decide | omega), if_neg (by first | decide | omega), if_pos (by first | decide | omega)]
  rw [this]
theorem sh18 {b : Nat} (h : 18 ≤ b ∧ b ≤ 20) (i : Int) : kd v b i = v b (64 + i) := by
  show v b (sh b i) = _
  have : sh b i = 64 + i := by unfold sh; rw [if_neg (by first | decide | omega), if_neg (by first | decide | omega), if_neg (by first | decide | omega), if_neg (by first | decide | omega), if_neg (by first | decide | omega), if_neg (by first | decide | omega), if_pos (by first | decide | omega)]
  rw [this]
end Q38
