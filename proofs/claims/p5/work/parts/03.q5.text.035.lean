theorem rel0 : Rel (rd hxF) (rd hmF) := by
  obtain ⟨⟨a1, a3, a4, a10, a51, a8, a9⟩, ⟨b0, b1, b2, b3, b6, b7, b8, b9, b10, b13⟩, ⟨c1, c2, c3⟩, ⟨d1, d2, d3, d4, d5, d6⟩, ⟨e0, e1, e2, e3, e4⟩, f1, f2, f3⟩ := nf1
  obtain ⟨⟨g1, g4, g5, g12, g13, g14, g15, g16, g17⟩, ⟨h0, h1, h2, h3, h4, h5, h6⟩, ⟨i0, i1, i2⟩, ⟨j1, j2, j3⟩, k64, k65, k66, k74, k75, k78, k80⟩ := nf2
  have n3 := nf3
  have n4 := nf4
  have n5 := nf5
  generalize rd hxF = m at *
  generalize rd hmF = v at *
  have s0 : ∀ i, sl 21 m 2 0 i = m 2 i := fun i => sl_e (Nat.zero_le _) i
  have s1 : sl 21 m 2 1 0 = 0 := by rw [sl_e (by first | decide | omega)]; exact c1
  have s8 : sl 21 m 2 8 0 = 0 := by rw [sl_e (by first | decide | omega)]; exact c2
  have s9 : sl 21 m 2 8 1 = 0 := by rw [sl_e (by first | decide | omega)]; exact c3
  have t1 : sl 21 m 2 16 1 = 0 := by rw [sl_e (by first | decide | omega)]; exact d1
  have t2 : sl 21 m 2 16 2 = 0 := by rw [sl_e (by first | decide | omega)]; exact d2
  have t3 : sl 21 m 2 18 1 = 0 := by rw [sl_e (by first | decide | omega)]; exact d3
  have t4 : sl 21 m 2 18 2 = 0 := by rw [sl_e (by first | decide | omega)]; exact d4
  have t5 : sl 21 m 2 20 1 = 0 := by rw [sl_e (by first | decide | omega)]; exact d5
  have t6 : sl 21 m 2 20 2 = 0 := by rw [sl_e (by first | decide | omega)]; exact d6
  have n0 : ∀ i, sl 6 m 69 0 i = m 69 i := fun i => sl_e (Nat.zero_le _) i
  have lx : ∀ kn : Int → Int, LX kn 0 := fun kn => ⟨by first | decide | omega, fun j z => by first | decide | omega, fun z => by first | decide | omega⟩
  have rl : ∀ (k : Int) (a b : Nat), v 15 k = 0 → sl 21 m 2 a 1 = 0 → sl 21 m 2 a 2 = 0 → RLw v (sl 21 m 2) k a b := by
    intro k a b z1 z3 z4
    unfold RLw
    rw [z1, z3, z4]
    exact ⟨rfl, Or.inl rfl, fun _ => rfl, fun z => by first | decide | omega⟩
  have hff := (ff_spec (w := sl 21 m 2) (by first | decide | omega) 0).1
  refine Rel.of (T := 2) ⟨⟨⟨Or.inl rfl, a3, by rw [a4]; rfl, a51⟩, ⟨?_, fun i p q => by first | decide | omega, ⟨fun _ => s9, fun q => by first | decide | omega, fun t p q => by first | decide | omega⟩, fun i p q => by first | decide | omega, ⟨by rw [t1]; exact lx _, by rw [t3]; exact lx _, by rw [t5]; exact lx _⟩⟩, ⟨fun i p q => by first | decide | omega, fun i p q => by first | decide | omega⟩, ⟨⟨?_, ?_, ?_, ?_, ?_, ?_⟩, ?_, fun i p q => by first | decide | omega, fun i p q => by first | decide | omega, fun i p q => by first | decide | omega, rl 0 16 17 i0 t1 t2, rl 1 18 19 i1 t3 t4, rl 2 20 21 i2 t5 t6⟩⟩, ⟨⟨?_, fun i p q => by first | decide | omega⟩, ?_, fun i p q => by first | decide | omega, fun i p q => by first | decide | omega⟩, ⟨⟨fun i p q => by first | decide | omega, fun i p q => by first | decide | omega, ?_, ?_, ?_⟩, ?_, ?_, fun i p q => by first | decide | omega, k66⟩, ⟨by rw [a10, k80], Or.inl a10⟩, ⟨by rw [f1, k74], by first | decide | omega, by rw [f2, k75], by first | decide | omega, fun k p q => by first | decide | omega⟩, ⟨by rw [f3, k78], by first | decide | omega, fun _ s => sl 6 m 69 1 s, fun _ s => sl 6 m 69 5 s, fun _ => sl 6 m 69 0 1, fun s p q => by first | decide | omega, rfl, fun j p q => by first | decide | omega⟩, ⟨by rw [a1, g1], by first | decide | omega, fun i p q => by first | decide | omega, n3, n4⟩, ⟨by rw [a8, g4], by rw [a9, g5]⟩, fun i p q => ?_⟩
  · unfold WS
    rw [s0, s0, s0, s0, s0, s0, s0, s0, s0, s0, s1, s8, s9, b0, b1, b2, b3, b6, b7, b8, b9, b10, b13]
    omega
  · rw [s0, b0]; exact g12
  · rw [s0, b1]; exact g13
  · rw [s1]; exact g14
  · rw [s8]; exact g15
  · rw [s9]; exact g16
  · rw [s0, b13]; exact g17
  · rw [s0, s0, s0, s0, s0, s0, s0, b2, b3, b6, b7, b8, b9, b10]
    exact ⟨h0, h1, h2, h3, h4, h5, h6⟩
  · rw [n0, n0, n0, n0, n0, e0, e1, e2, e3, e4]; omega
  · rw [n0, e0]; omega
  · rw [n0, e3]; exact j2
  · rw [n0, e4]; exact j3
  · rw [n0, e2]; exact k65
  · rw [n0, e0]; exact j1
  · rw [n0, e1]; exact k64
  · have := n5 i.toNat (by first | decide | omega)
    rw [show ((i.toNat : Nat) : Int) = i by first | decide | omega] at this
    omega
