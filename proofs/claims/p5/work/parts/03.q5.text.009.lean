section Q40
variable {m v : Mem} {S : Int} {D : Nat}
/-- the new draft -/
theorem di_new (hDD : D = 2 ∨ D = 24) (hm : (m D 0 = 6 ∧ m D 1 = 4 ∧ m D 2 = 0 ∧ m D 3 = 0 ∧ m D 6 = 0 ∧ m D 7 = 0 ∧ m D 8 = 0 ∧ m D 9 = 0 ∧ m D 10 = 0 ∧ m D 13 = 0) ∧ (m (D + 1) 0 = 0 ∧ m (D + 8) 0 = 0 ∧ m (D + 8) 1 = 0) ∧ (m (D + 16) 1 = 0 ∧ m (D + 16) 2 = 0 ∧ m (D + 18) 1 = 0 ∧ m (D + 18) 2 = 0 ∧ m (D + 20) 1 = 0 ∧ m (D + 20) 2 = 0)) (h46 : m 46 10 = (D : Int) ∧ m 46 6 = 0 ∧ m 46 7 = 0) (hv : v 0 18 = 6 ∧ v 0 19 = 4 ∧ v 0 20 = 0 ∧ v 0 21 = 0 ∧ v 0 22 = 0 ∧ v 0 23 = 0 ∧ v 0 49 = 0 ∧ v 0 24 = 0) (h3 : ∀ i, 0 ≤ i → i < 5 → v 3 i = 0) (h4 : ∀ i, 7 ≤ i → i < 14 → v 4 i = 0) (h15 : ∀ i, 3 ≤ i → i < 6 → v 15 i = 0) : DI m v D := by
  obtain ⟨⟨a0, a1, a2, a3, a6, a7, a8, a9, a10, a13⟩, ⟨b1, b2, b3⟩, c1, c2, c3, c4, c5, c6⟩ := hm
  have s0 : ∀ i, sl 21 m D 0 i = m D i := fun i => sl_e (Nat.zero_le _) i
  have s1 : sl 21 m D 1 0 = 0 := by rw [sl_e (by first | decide | omega)]; exact b1
  have s8 : sl 21 m D 8 0 = 0 := by rw [sl_e (by first | decide | omega)]; exact b2
  have s9 : sl 21 m D 8 1 = 0 := by rw [sl_e (by first | decide | omega)]; exact b3
  have t1 : sl 21 m D 16 1 = 0 := by rw [sl_e (by first | decide | omega)]; exact c1
  have t2 : sl 21 m D 16 2 = 0 := by rw [sl_e (by first | decide | omega)]; exact c2
  have t3 : sl 21 m D 18 1 = 0 := by rw [sl_e (by first | decide | omega)]; exact c3
  have t4 : sl 21 m D 18 2 = 0 := by rw [sl_e (by first | decide | omega)]; exact c4
  have t5 : sl 21 m D 20 1 = 0 := by rw [sl_e (by first | decide | omega)]; exact c5
  have t6 : sl 21 m D 20 2 = 0 := by rw [sl_e (by first | decide | omega)]; exact c6
  have lx : ∀ kn : Int → Int, LX kn 0 := fun kn => ⟨by first | decide | omega, fun j z => by first | decide | omega, fun z => by first | decide | omega⟩
  have rl : ∀ (k : Int) (a b : Nat), 0 ≤ k → k < 3 → sl 21 m D a 1 = 0 → sl 21 m D a 2 = 0 → RLw (kd v) (sl 21 m D) k a b := by
    intro k a b z1 z2 z3 z4
    unfold RLw
    rw [sh15 (by first | decide | omega), z3, z4, h15 _ (by first | decide | omega) (by first | decide | omega)]
    exact ⟨rfl, Or.inl rfl, fun _ => rfl, fun z => by first | decide | omega⟩
  refine ⟨⟨hDD, h46.1⟩, ⟨?_, ?_, ?_, ?_, ?_⟩, ⟨⟨?_, ?_, ?_, ?_, ?_, ?_⟩, ?_, ?_, ?_, ?_, rl 0 16 17 (by first | decide | omega) (by first | decide | omega) t1 t2, rl 1 18 19 (by first | decide | omega) (by first | decide | omega) t3 t4, rl 2 20 21 (by first | decide | omega) (by first | decide | omega) t5 t6⟩, ⟨?_, ?_, ?_⟩, ?_, ?_, ?_⟩
  · unfold WS
    rw [s0, s0, s0, s0, s0, s0, s0, s0, s0, s0, s1, s8, s9, a0, a1, a2, a3, a6, a7, a8, a9, a10, a13]
    omega
  · intro i p q; rw [s1] at q; omega
  · refine ⟨fun _ => s9, fun q => by rw [s8] at q; first | decide | omega, fun t p q => by rw [s8] at q; first | decide | omega⟩
  · intro i p q; rw [s9] at q; omega
  · exact ⟨by rw [t1]; exact lx _, by rw [t3]; exact lx _, by rw [t5]; exact lx _⟩
  · rw [s0, a0]; exact hv.1
  · rw [s0, a1]; exact hv.2.1
  · rw [s1]; exact hv.2.2.1
  · rw [s8]; exact hv.2.2.2.1
  · rw [s9]; exact hv.2.2.2.2.1
  · rw [s0, a13]; exact hv.2.2.2.2.2.1
  · rw [s0, s0, s0, s0, s0, s0, s0, a2, a3, a6, a7, a8, a9, a10]
    exact ⟨h4 7 (by first | decide | omega) (by first | decide | omega), h4 8 (by first | decide | omega) (by first | decide | omega), h4 9 (by first | decide | omega) (by first | decide | omega), h4 10 (by first | decide | omega) (by first | decide | omega), h4 11 (by first | decide | omega) (by first | decide | omega), h4 12 (by first | decide | omega) (by first | decide | omega), h4 13 (by first | decide | omega) (by first | decide | omega)⟩
  · intro i p q; rw [s1] at q; omega
  · intro i p q; rw [s8] at q; omega
  · intro i p q; rw [s9] at q; omega
  · exact Or.inl h46.2.2
  · rw [h46.2.2]; exact hv.2.2.2.2.2.2.2
  · intro _; rw [s0, s0]; exact ⟨s1, a2, a3⟩
  · unfold ONC
    rw [h46.2.1, h3 0 (by first | decide | omega) (by first | decide | omega), h3 1 (by first | decide | omega) (by first | decide | omega), h3 2 (by first | decide | omega) (by first | decide | omega), h3 3 (by first | decide | omega) (by first | decide | omega), h3 4 (by first | decide | omega) (by first | decide | omega)]
    refine ⟨?_, ?_, ?_, ?_, ?_⟩ <;> decide
  · rw [s0, a13]; exact hv.2.2.2.2.2.2.1
  · intro k z1 z2 z3; rw [h15 k (by first | decide | omega) (by first | decide | omega)] at z3; omega
end Q40
