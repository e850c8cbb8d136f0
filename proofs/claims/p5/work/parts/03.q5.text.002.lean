section Q39
variable {m v : Mem} {S : Int} {D : Nat}
theorem DI.l12 {x : Int} (hD : DI m v D) : DI (up m D 12 x) v D := by
  obtain ⟨h1, h2, h3, h4, h5, h6, h7⟩ := hD
  have hDD := h1.1
  have hw : ∀ c : Nat, 1 ≤ c → sl 21 (up m D 12 x) D c = sl 21 m D c := fun c hc => by
    funext i
    by_cases c21 : c ≤ 21
    · rw [sl_e c21, sl_e c21]; exact up_a (by first | decide | omega)
    · unfold sl; rw [if_neg c21, if_neg c21]
  have e0 : ∀ i, i ≠ 12 → sl 21 (up m D 12 x) D 0 i = sl 21 m D 0 i := fun i z => by rw [sl_e (Nat.zero_le _), sl_e (Nat.zero_le _)]; exact up_i z
  refine ⟨⟨hDD, by rw [up_a (by first | decide | omega)]; exact h1.2⟩, h2.flds hw ?_ ?_, h3.flds hw (e0 13 (by first | decide | omega)) (fun _ _ _ => rfl) (fun _ _ _ => rfl) ?_ ?_, ?_, ?_, ?_, h7⟩
  · have := h2.1
    unfold WS at this ⊢
    rw [e0 0 (by first | decide | omega), e0 1 (by first | decide | omega), e0 2 (by first | decide | omega), e0 3 (by first | decide | omega), e0 6 (by first | decide | omega), e0 7 (by first | decide | omega), e0 8 (by first | decide | omega), e0 9 (by first | decide | omega), e0 10 (by first | decide | omega), e0 13 (by first | decide | omega), hw 1 (by first | decide | omega), hw 8 (by first | decide | omega)]
    exact this
  · rw [e0 0 (by first | decide | omega), e0 1 (by first | decide | omega)]; exact fun i p q => (h2.2.1 i p q).1.2
  · rw [e0 0 (by first | decide | omega), e0 1 (by first | decide | omega)]; exact ⟨h3.1.1, h3.1.2.1⟩
  · rw [e0 2 (by first | decide | omega), e0 3 (by first | decide | omega), e0 6 (by first | decide | omega), e0 7 (by first | decide | omega), e0 8 (by first | decide | omega), e0 9 (by first | decide | omega), e0 10 (by first | decide | omega)]; exact h3.2.1
  · unfold CTL
    rw [up_a (by first | decide | omega), e0 2 (by first | decide | omega), e0 3 (by first | decide | omega), hw 1 (by first | decide | omega)]; exact h4
  · unfold ONC
    rw [up_a (by first | decide | omega)]; exact h5
  · rw [e0 13 (by first | decide | omega)]; exact h6
end Q39
