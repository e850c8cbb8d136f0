section Q43
variable {m v w : Mem} {S : Int} {D : Nat}
theorem c_b33 (hDD : D = 2 ∨ D = 24) : ∀ (d k : Nat) (x : Int) (m : Mem), (5 - x).toNat = d → d < k → 0 ≤ x → ∃ m', G4_begin_33 k m 69 D x = some m' ∧ Fm (fun b i => ((70 ≤ b ∧ b ≤ 74) ∧ x ≤ i) ∨ b = 75) m m' ∧ (∀ i, x ≤ i → i < 5 → m' 70 i = m (D + 3) i ∧ m' 71 i = 0 ∧ m' 72 i = 0 ∧ m' 73 i = 0 ∧ m' 74 i = 0) ∧ ∀ i, 0 ≤ i → i < 28 → m' 75 i = -2 := by
  intro d
  induction d with
  | zero =>
    intro k x m h1 h2 h3
    obtain ⟨k, rfl⟩ : ∃ j, k = j + 1 := ⟨k - 1, by first | decide | omega⟩
    rw [G4_begin_33, if_pos (by first | decide | omega)]
    obtain ⟨m', e, f, g⟩ := c_b89 28 1024 0 m (by first | decide | omega) (by first | decide | omega) (by first | decide | omega)
    exact ⟨m', e, f.mono (by intro b i q; first | decide | omega), fun i a b => by first | decide | omega, g⟩
  | succ d ih =>
    intro k x m h1 h2 h3
    obtain ⟨k, rfl⟩ : ∃ j, k = j + 1 := ⟨k - 1, by first | decide | omega⟩
    rw [G4_begin_33, if_neg (by first | decide | omega), gdx_t (by first | decide | omega), gdx_t (by first | decide | omega), wt_e, gdx_t (by first | decide | omega), wt_e, gdx_t (by first | decide | omega), wt_e, gdx_t (by first | decide | omega), wt_e, gdx_t (by first | decide | omega), wt_e, gd3_t (by first | decide | omega)]
    obtain ⟨m', e, f, g, h⟩ := ih k (x + 1) (up (up (up (up (up m (69 + 1) x (m (D + 3) x)) (69 + 2) x 0) (69 + 3) x 0) (69 + 4) x 0) (69 + 5) x 0) (by first | decide | omega) (by first | decide | omega) (by first | decide | omega)
    refine ⟨m', e, (((((Fm.w1 (by first | decide | omega)).w (by first | decide | omega)).w (by first | decide | omega)).w (by first | decide | omega)).w (by first | decide | omega)).tr (f.mono (by intro b i q; first | decide | omega)), fun i z1 z2 => ?_, h⟩
    by_cases c : i = x
    · rw [c, f 70 x (by first | decide | omega), f 71 x (by first | decide | omega), f 72 x (by first | decide | omega), f 73 x (by first | decide | omega), f 74 x (by first | decide | omega)]
      refine ⟨?_, ?_, ?_, ?_, ?_⟩
      · rw [up_a (by first | decide | omega), up_a (by first | decide | omega), up_a (by first | decide | omega), up_a (by first | decide | omega)]; exact up_e
      · rw [up_a (by first | decide | omega), up_a (by first | decide | omega), up_a (by first | decide | omega)]; exact up_e
      · rw [up_a (by first | decide | omega), up_a (by first | decide | omega)]; exact up_e
      · rw [up_a (by first | decide | omega)]; exact up_e
      · exact up_e
    · obtain ⟨y1, y2⟩ := g i (by first | decide | omega) z2
      refine ⟨?_, y2⟩
      rw [y1, up_a (by first | decide | omega), up_a (by first | decide | omega), up_a (by first | decide | omega), up_a (by first | decide | omega), up_a (by first | decide | omega)]
end Q43
