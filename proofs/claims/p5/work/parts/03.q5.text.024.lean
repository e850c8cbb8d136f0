section Q43
variable {m v w : Mem} {S : Int} {D : Nat}
theorem c_b89 : ∀ (d k : Nat) (x : Int) (m : Mem), (28 - x).toNat = d → d < k → 0 ≤ x → ∃ m', G4_begin_89 k m 69 x = some m' ∧ Fm (fun b i => b = 75 ∧ x ≤ i) m m' ∧ ∀ i, x ≤ i → i < 28 → m' 75 i = -2 := by
  intro d
  induction d with
  | zero =>
    intro k x m h1 h2 h3
    obtain ⟨k, rfl⟩ : ∃ j, k = j + 1 := ⟨k - 1, by first | decide | omega⟩
    rw [G4_begin_89, if_pos (by first | decide | omega)]
    exact ⟨m, rfl, Fm.rf, fun i a b => by first | decide | omega⟩
  | succ d ih =>
    intro k x m h1 h2 h3
    obtain ⟨k, rfl⟩ : ∃ j, k = j + 1 := ⟨k - 1, by first | decide | omega⟩
    rw [G4_begin_89, if_neg (by first | decide | omega), gdx_t (by first | decide | omega), wt_e, gd3_t (by first | decide | omega)]
    obtain ⟨m', e, f, g⟩ := ih k (x + 1) (up m (69 + 6) x (-2)) (by first | decide | omega) (by first | decide | omega) (by first | decide | omega)
    refine ⟨m', e, (Fm.w1 (by first | decide | omega)).tr (f.mono (by intro b i q; first | decide | omega)), fun i z1 z2 => ?_⟩
    by_cases c : i = x
    · rw [c, f 75 x (by first | decide | omega)]; exact up_e
    · exact g i (by first | decide | omega) z2
end Q43
