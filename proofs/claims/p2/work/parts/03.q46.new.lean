/-! New objects belong together. -/
theorem okx0 : OKX hxF := by
  refine ⟨by decide +kernel, ?_, ?_⟩
  · unfold A8 ABy; decide +kernel
  · decide +kernel
theorem okm0 : OKM hmF := hmF_sk
theorem nf1 : (rd hxF 0 1 = 0 ∧ rd hxF 0 3 = 2 ∧ rd hxF 0 4 = 24 ∧ rd hxF 0 10 = 0 ∧ rd hxF 51 0 = 2 ∧ rd hxF 46 8 = 0 ∧ rd hxF 46 9 = -1) ∧ (rd hxF 2 0 = 6 ∧ rd hxF 2 1 = 4 ∧ rd hxF 2 2 = 0 ∧ rd hxF 2 3 = 0 ∧ rd hxF 2 6 = 0 ∧ rd hxF 2 7 = 0 ∧ rd hxF 2 8 = 0 ∧ rd hxF 2 9 = 0 ∧ rd hxF 2 10 = 0 ∧ rd hxF 2 13 = 0) ∧ (rd hxF 3 0 = 0 ∧ rd hxF 10 0 = 0 ∧ rd hxF 10 1 = 0) ∧ (rd hxF 18 1 = 0 ∧ rd hxF 18 2 = 0 ∧ rd hxF 20 1 = 0 ∧ rd hxF 20 2 = 0 ∧ rd hxF 22 1 = 0 ∧ rd hxF 22 2 = 0) ∧ (rd hxF 69 0 = 0 ∧ rd hxF 69 1 = 0 ∧ rd hxF 69 2 = 0 ∧ rd hxF 69 3 = 0 ∧ rd hxF 69 4 = 0) ∧ (rd hxF 90 0 = 0 ∧ rd hxF 90 1 = -1 ∧ rd hxF 96 0 = 0) := by decide +kernel
theorem nf2 : (rd hmF 0 1 = 0 ∧ rd hmF 0 4 = 0 ∧ rd hmF 0 5 = -1 ∧ rd hmF 0 12 = 6 ∧ rd hmF 0 13 = 4 ∧ rd hmF 0 14 = 0 ∧ rd hmF 0 15 = 0 ∧ rd hmF 0 16 = 0 ∧ rd hmF 0 17 = 0) ∧ (rd hmF 4 0 = 0 ∧ rd hmF 4 1 = 0 ∧ rd hmF 4 2 = 0 ∧ rd hmF 4 3 = 0 ∧ rd hmF 4 4 = 0 ∧ rd hmF 4 5 = 0 ∧ rd hmF 4 6 = 0) ∧ (rd hmF 15 0 = 0 ∧ rd hmF 15 1 = 0 ∧ rd hmF 15 2 = 0) ∧ (rd hmF 31 0 = 0 ∧ rd hmF 32 0 = 0 ∧ rd hmF 33 0 = 0) ∧ (rd hmF 0 64 = 0 ∧ rd hmF 0 65 = 0 ∧ rd hmF 0 66 = -1 ∧ rd hmF 0 74 = 0 ∧ rd hmF 0 75 = -1 ∧ rd hmF 0 78 = 0 ∧ rd hmF 0 80 = 0) := by decide +kernel
theorem nf3 : ∀ i : Nat, i < 24 → rd hxF 48 i = lgW.getD i 0 := by decide +kernel
theorem nf4 : ∀ i : Nat, i < 120 → rd hmF 2 i = wdM.getD i 0 := by decide +kernel
theorem nf5 : ∀ i : Nat, i < 280 → rd hxF 102 i = 0 := by decide +kernel
theorem rel0 : Rel (rd hxF) (rd hmF) := by
  obtain ⟨⟨a1, a3, a4, a10, a51, a8, a9⟩, ⟨b0, b1, b2, b3, b6, b7, b8, b9, b10, b13⟩, ⟨c1, c2, c3⟩, ⟨d1, d2, d3, d4, d5, d6⟩, ⟨e0, e1, e2, e3, e4⟩, f1, f2, f3⟩ := nf1
  obtain ⟨⟨g1, g4, g5, g12, g13, g14, g15, g16, g17⟩, ⟨h0, h1, h2, h3, h4, h5, h6⟩, ⟨i0, i1, i2⟩, ⟨j1, j2, j3⟩, k64, k65, k66, k74, k75, k78, k80⟩ := nf2
  have n3 := nf3
  have n4 := nf4
  have n5 := nf5
  generalize rd hxF = m at *
  generalize rd hmF = v at *
  have s0 : ∀ i, sl 21 m 2 0 i = m 2 i := fun i => sl_e (Nat.zero_le _) i
  have s1 : sl 21 m 2 1 0 = 0 := by rw [sl_e (by omega)]; exact c1
  have s8 : sl 21 m 2 8 0 = 0 := by rw [sl_e (by omega)]; exact c2
  have s9 : sl 21 m 2 8 1 = 0 := by rw [sl_e (by omega)]; exact c3
  have t1 : sl 21 m 2 16 1 = 0 := by rw [sl_e (by omega)]; exact d1
  have t2 : sl 21 m 2 16 2 = 0 := by rw [sl_e (by omega)]; exact d2
  have t3 : sl 21 m 2 18 1 = 0 := by rw [sl_e (by omega)]; exact d3
  have t4 : sl 21 m 2 18 2 = 0 := by rw [sl_e (by omega)]; exact d4
  have t5 : sl 21 m 2 20 1 = 0 := by rw [sl_e (by omega)]; exact d5
  have t6 : sl 21 m 2 20 2 = 0 := by rw [sl_e (by omega)]; exact d6
  have n0 : ∀ i, sl 6 m 69 0 i = m 69 i := fun i => sl_e (Nat.zero_le _) i
  have lx : ∀ kn : Int → Int, LX kn 0 := fun kn => ⟨by omega, fun j z => by omega, fun z => by omega⟩
  have rl : ∀ (k : Int) (a b : Nat), v 15 k = 0 → sl 21 m 2 a 1 = 0 → sl 21 m 2 a 2 = 0 → RLw v (sl 21 m 2) k a b := by
    intro k a b z1 z3 z4
    unfold RLw
    rw [z1, z3, z4]
    exact ⟨rfl, Or.inl rfl, fun _ => rfl, fun z => by omega⟩
  have hff := (ff_spec (w := sl 21 m 2) (by omega) 0).1
  refine Rel.of (T := 2) ⟨⟨⟨Or.inl rfl, a3, by rw [a4]; rfl, a51⟩, ⟨?_, fun i p q => by omega, ⟨fun _ => s9, fun q => by omega, fun t p q => by omega⟩, fun i p q => by omega, ⟨by rw [t1]; exact lx _, by rw [t3]; exact lx _, by rw [t5]; exact lx _⟩⟩, ⟨fun i p q => by omega, fun i p q => by omega⟩, ⟨⟨?_, ?_, ?_, ?_, ?_, ?_⟩, ?_, fun i p q => by omega, fun i p q => by omega, fun i p q => by omega, rl 0 16 17 i0 t1 t2, rl 1 18 19 i1 t3 t4, rl 2 20 21 i2 t5 t6⟩⟩, ⟨⟨?_, fun i p q => by omega⟩, ?_, fun i p q => by omega, fun i p q => by omega⟩, ⟨⟨fun i p q => by omega, fun i p q => by omega, ?_, ?_, ?_⟩, ?_, ?_, fun i p q => by omega, k66⟩, ⟨by rw [a10, k80], Or.inl a10⟩, ⟨by rw [f1, k74], by omega, by rw [f2, k75], by omega, fun k p q => by omega⟩, ⟨by rw [f3, k78], by omega, fun _ s => sl 6 m 69 1 s, fun _ s => sl 6 m 69 5 s, fun _ => sl 6 m 69 0 1, fun s p q => by omega, rfl, fun j p q => by omega⟩, ⟨by rw [a1, g1], by omega, fun i p q => by omega, n3, n4⟩, ⟨by rw [a8, g4], by rw [a9, g5]⟩, fun i p q => ?_⟩
  · unfold WS
    rw [s0, s0, s0, s0, s0, s0, s0, s0, s0, s0, s1, s8, s9, b0, b1, b2, b3, b6, b7, b8, b9, b10, b13]
    omega
  · rw [s0, b0]; exact g12
  · rw [s0, b1]; exact g13
  · rw [s1]; exact g14
  · rw [s8]; exact g15
  · rw [s9]; exact g16
  · rw [s0, b13]; exact g17
  · rw [s0, s0, s0, s0, s0, s0, s0, b2, b3, b6, b7, b8, b9, b10]
    exact ⟨h0, h1, h2, h3, h4, h5, h6⟩
  · rw [n0, n0, n0, n0, n0, e0, e1, e2, e3, e4]; omega
  · rw [n0, e0]; omega
  · rw [n0, e3]; exact j2
  · rw [n0, e4]; exact j3
  · rw [n0, e2]; exact k65
  · rw [n0, e0]; exact j1
  · rw [n0, e1]; exact k64
  · have := n5 i.toNat (by omega)
    rw [show ((i.toNat : Nat) : Int) = i by omega] at this
    omega
