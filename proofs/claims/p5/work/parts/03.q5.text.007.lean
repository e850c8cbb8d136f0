section Q40
variable {m v : Mem} {S : Int} {D : Nat}
theorem r_p64 : ∀ (d k : Nat) (x : Int) (v : Mem), (14 - x).toNat = d → d < k → 7 ≤ x → ∃ v', G12_plain_64 k v x = some v' ∧ Fm (fun b i => (b = 4 ∧ x ≤ i) ∨ (b = 15 ∧ 3 ≤ i)) v v' ∧ (∀ i, x ≤ i → i < 14 → v' 4 i = 0) ∧ ∀ i, 3 ≤ i → i < 6 → v' 15 i = 0 := by
  intro d
  induction d with
  | zero =>
    intro k x v h1 h2 h3
    obtain ⟨k, rfl⟩ : ∃ j, k = j + 1 := ⟨k - 1, by first | decide | omega⟩
    rw [G12_plain_64, if_pos (by first | decide | omega)]
    obtain ⟨v', e, f, g⟩ := r_p85 3 1024 3 v (by first | decide | omega) (by first | decide | omega) (by first | decide | omega)
    exact ⟨v', e, f.mono (by intro b i q; first | decide | omega), fun i a b => by first | decide | omega, g⟩
  | succ d ih =>
    intro k x v h1 h2 h3
    obtain ⟨k, rfl⟩ : ∃ j, k = j + 1 := ⟨k - 1, by first | decide | omega⟩
    rw [G12_plain_64, if_neg (by first | decide | omega), gdx_t (by first | decide | omega), wt_e, gd3_t (by first | decide | omega)]
    obtain ⟨v', e, f, g, h⟩ := ih k (x + 1) (up v 4 x 0) (by first | decide | omega) (by first | decide | omega) (by first | decide | omega)
    refine ⟨v', e, (Fm.w1 (by first | decide | omega)).tr (f.mono (by intro b i q; first | decide | omega)), fun i a b => ?_, h⟩
    by_cases c : i = x
    · rw [c, f 4 x (by first | decide | omega), up_e]
    · exact g i (by first | decide | omega) b
end Q40
