section Q43
variable {m v w : Mem} {S : Int} {D : Nat}
theorem c_begn (hDD : D = 2 ∨ D = 24) : ∃ m', G4_begin m 69 D = some m' ∧ Fm (fun b i => 69 ≤ b ∧ b ≤ 75) m m' ∧ (m' 69 0 = 0 ∧ m' 69 1 = m D 9 ∧ m' 69 2 = m D 10 ∧ m' 69 3 = 0 ∧ m' 69 4 = 0) ∧ (∀ i, 0 ≤ i → i < 5 → m' 70 i = m (D + 3) i ∧ m' 71 i = 0 ∧ m' 72 i = 0 ∧ m' 73 i = 0 ∧ m' 74 i = 0) ∧ ∀ i, 0 ≤ i → i < 28 → m' 75 i = -2 := by
  unfold G4_begin G4_begin_0
  rw [wt_e, up_a (by first | decide | omega), wt_e, up_a (by first | decide | omega), up_a (by first | decide | omega), wt_e, wt_e, wt_e]
  have f0 : Fm (fun b i => b = 69) m (up (up (up (up (up m 69 0 0) 69 1 (m D 9)) 69 2 (m D 10)) 69 3 0) 69 4 0) := ((((Fm.w1 rfl).w rfl).w rfl).w rfl).w rfl
  have k0 : up (up (up (up (up m 69 0 0) 69 1 (m D 9)) 69 2 (m D 10)) 69 3 0) 69 4 0 69 0 = 0 := by rw [up_i (by first | decide | omega), up_i (by first | decide | omega), up_i (by first | decide | omega), up_i (by first | decide | omega), up_e]
  have k1 : up (up (up (up (up m 69 0 0) 69 1 (m D 9)) 69 2 (m D 10)) 69 3 0) 69 4 0 69 1 = m D 9 := by rw [up_i (by first | decide | omega), up_i (by first | decide | omega), up_i (by first | decide | omega), up_e]
  have k2 : up (up (up (up (up m 69 0 0) 69 1 (m D 9)) 69 2 (m D 10)) 69 3 0) 69 4 0 69 2 = m D 10 := by rw [up_i (by first | decide | omega), up_i (by first | decide | omega), up_e]
  have k3 : up (up (up (up (up m 69 0 0) 69 1 (m D 9)) 69 2 (m D 10)) 69 3 0) 69 4 0 69 3 = 0 := by rw [up_i (by first | decide | omega), up_e]
  have k4 : up (up (up (up (up m 69 0 0) 69 1 (m D 9)) 69 2 (m D 10)) 69 3 0) 69 4 0 69 4 = 0 := up_e
  generalize up (up (up (up (up m 69 0 0) 69 1 (m D 9)) 69 2 (m D 10)) 69 3 0) 69 4 0 = u at f0 k0 k1 k2 k3 k4 ⊢
  obtain ⟨m', e, f, g, h⟩ := c_b33 hDD 5 1024 0 u (by first | decide | omega) (by first | decide | omega) (by first | decide | omega)
  refine ⟨m', e, (f0.mono (by intro b i q; first | decide | omega)).tr (f.mono (by intro b i q; first | decide | omega)), ?_, fun i z1 z2 => ?_, h⟩
  · rw [f 69 0 (by first | decide | omega), f 69 1 (by first | decide | omega), f 69 2 (by first | decide | omega), f 69 3 (by first | decide | omega), f 69 4 (by first | decide | omega)]
    exact ⟨k0, k1, k2, k3, k4⟩
  · obtain ⟨y1, y2⟩ := g i z1 z2
    exact ⟨by rw [y1, f0 (D + 3) i (by first | decide | omega)], y2⟩
end Q43
