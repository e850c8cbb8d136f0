section Q42
variable {m v : Mem} {S : Int} {D : Nat}
theorem RT.fr2 {u u' w : Mem} (h : RT u w) (hS : WS w) (e : ∀ b i, KT b i → u' b i = u b i) : RT u' w := by
  unfold WS at hS
  obtain ⟨⟨a1, a2, a3, a4, a5, a6⟩, b, c, d, f, r1, r2, r3⟩ := h
  refine ⟨?_, ?_, fun i p q => ?_, fun i p q => ?_, fun i p q => ?_, r1.fr4 (by first | decide | omega) e, r2.fr4 (by first | decide | omega) e, r3.fr4 (by first | decide | omega) e⟩
  · rw [e 0 12 (by unfold KT; first | decide | omega), e 0 13 (by unfold KT; first | decide | omega), e 0 14 (by unfold KT; first | decide | omega), e 0 15 (by unfold KT; first | decide | omega), e 0 16 (by unfold KT; first | decide | omega), e 0 17 (by unfold KT; first | decide | omega)]
    exact ⟨a1, a2, a3, a4, a5, a6⟩
  · rw [e 4 0 (by unfold KT; first | decide | omega), e 4 1 (by unfold KT; first | decide | omega), e 4 2 (by unfold KT; first | decide | omega), e 4 3 (by unfold KT; first | decide | omega), e 4 4 (by unfold KT; first | decide | omega), e 4 5 (by unfold KT; first | decide | omega), e 4 6 (by unfold KT; first | decide | omega)]
    exact b
  · rw [e 5 i (by unfold KT; first | decide | omega), e 6 i (by unfold KT; first | decide | omega), e 7 i (by unfold KT; first | decide | omega), e 8 i (by unfold KT; first | decide | omega), e 9 i (by unfold KT; first | decide | omega), e 10 i (by unfold KT; first | decide | omega)]
    exact c i p q
  · rw [e 11 i (by unfold KT; first | decide | omega)]; exact d i p q
  · rw [e 12 i (by unfold KT; first | decide | omega), e 13 i (by unfold KT; first | decide | omega), e 14 i (by unfold KT; first | decide | omega)]; exact f i p q
end Q42
