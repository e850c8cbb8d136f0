/-! The reference keeps what it has read, and begins. -/
section Q42
variable {m v : Mem} {S : Int} {D : Nat}
/-- where the kept text lies -/
def KT (b : Nat) (i : Int) : Prop := (b = 0 ∧ 12 ≤ i ∧ i ≤ 17) ∨ (b = 4 ∧ 0 ≤ i ∧ i < 7) ∨ ((5 ≤ b ∧ b ≤ 10) ∧ 0 ≤ i ∧ i < 5) ∨ (b = 11 ∧ 0 ≤ i ∧ i < 4) ∨ ((12 ≤ b ∧ b ≤ 14) ∧ 0 ≤ i ∧ i < 28) ∨ ((15 ≤ b ∧ b ≤ 17) ∧ 0 ≤ i ∧ i < 3) ∨ ((18 ≤ b ∧ b ≤ 20) ∧ 0 ≤ i ∧ i < 64)
theorem RLw.fr4 {u u' w : Mem} {k : Int} {a b : Nat} (h : RLw u w k a b) (hk : 0 ≤ k ∧ k < 3) (e : ∀ b i, KT b i → u' b i = u b i) : RLw u' w k a b := by
  obtain ⟨h1, h2, h3, h4⟩ := h
  unfold RLw
  rw [e 15 k (by unfold KT; first | decide | omega), e 16 k (by unfold KT; first | decide | omega), e 17 k (by unfold KT; first | decide | omega)]
  refine ⟨h1, h2, h3, fun q => ?_⟩
  obtain ⟨g1, g2, g3, g4, g5⟩ := h4 q
  exact ⟨g1, g2, g3, g4, fun j z => (g5 j z).c (fun _ _ => rfl) (e 18 _ (by unfold KT; first | decide | omega)) (e 19 _ (by unfold KT; first | decide | omega)) (e 20 _ (by unfold KT; first | decide | omega))⟩
end Q42
