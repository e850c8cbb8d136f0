section Q43
variable {m v w : Mem} {S : Int} {D : Nat}
theorem r_b2 : ∀ (d k : Nat) (x : Int) (v : Mem), (5 - x).toNat = d → d < k → 0 ≤ x → ∃ v', G12_begin_2 k v x = some v' ∧ Fm (fun b i => ((25 ≤ b ∧ b ≤ 29) ∧ x ≤ i) ∨ (30 ≤ b ∧ b ≤ 33) ∨ (b = 0 ∧ 64 ≤ i)) v v' ∧ (∀ i, x ≤ i → i < 5 → v' 25 i = v 6 i ∧ v' 26 i = 0 ∧ v' 27 i = 0 ∧ v' 28 i = 0 ∧ v' 29 i = v 8 i) ∧ (∀ i, 0 ≤ i → i < 28 → v' 30 i = -2) ∧ (v' 31 0 = 0 ∧ v' 32 0 = 0 ∧ v' 33 0 = 0 ∧ v' 0 64 = v 4 5 ∧ v' 0 65 = v 4 6 ∧ v' 0 66 = -1 ∧ v' 0 74 = 0 ∧ v' 0 75 = -1 ∧ v' 0 78 = 0 ∧ v' 0 80 = 0) := by
  intro d
  induction d with
  | zero =>
    intro k x v h1 h2 h3
    obtain ⟨k, rfl⟩ : ∃ j, k = j + 1 := ⟨k - 1, by first | decide | omega⟩
    rw [G12_begin_2, if_pos (by first | decide | omega)]
    obtain ⟨v', e, f, g, h⟩ := r_b60 28 1024 0 v (by first | decide | omega) (by first | decide | omega) (by first | decide | omega)
    exact ⟨v', e, f.mono (by intro b i q; first | decide | omega), fun i a b => by first | decide | omega, g, h⟩
  | succ d ih =>
    intro k x v h1 h2 h3
    obtain ⟨k, rfl⟩ : ∃ j, k = j + 1 := ⟨k - 1, by first | decide | omega⟩
    rw [G12_begin_2, if_neg (by first | decide | omega), gdx_t (by first | decide | omega), gdx_t (by first | decide | omega), wt_e, gdx_t (by first | decide | omega), wt_e, gdx_t (by first | decide | omega), wt_e, gdx_t (by first | decide | omega), wt_e, gdx_t (by first | decide | omega), gdx_t (by first | decide | omega), wt_e, gd3_t (by first | decide | omega)]
    have e8 : up (up (up (up v 25 x (v 6 x)) 26 x 0) 27 x 0) 28 x 0 8 x = v 8 x := by rw [up_a (by first | decide | omega), up_a (by first | decide | omega), up_a (by first | decide | omega), up_a (by first | decide | omega)]
    rw [e8]
    obtain ⟨v', e, f, g, h, h'⟩ := ih k (x + 1) (up (up (up (up (up v 25 x (v 6 x)) 26 x 0) 27 x 0) 28 x 0) 29 x (v 8 x)) (by first | decide | omega) (by first | decide | omega) (by first | decide | omega)
    rw [up_a (by first | decide | omega), up_a (by first | decide | omega), up_a (by first | decide | omega), up_a (by first | decide | omega), up_a (by first | decide | omega), up_a (by first | decide | omega), up_a (by first | decide | omega), up_a (by first | decide | omega), up_a (by first | decide | omega), up_a (by first | decide | omega)] at h'
    refine ⟨v', e, (((((Fm.w1 (by first | decide | omega)).w (by first | decide | omega)).w (by first | decide | omega)).w (by first | decide | omega)).w (by first | decide | omega)).tr (f.mono (by intro b i q; first | decide | omega)), fun i z1 z2 => ?_, h, h'⟩
    by_cases c : i = x
    · rw [c, f 25 x (by first | decide | omega), f 26 x (by first | decide | omega), f 27 x (by first | decide | omega), f 28 x (by first | decide | omega), f 29 x (by first | decide | omega)]
      refine ⟨?_, ?_, ?_, ?_, up_e⟩
      · rw [up_a (by first | decide | omega), up_a (by first | decide | omega), up_a (by first | decide | omega), up_a (by first | decide | omega), up_e]
      · rw [up_a (by first | decide | omega), up_a (by first | decide | omega), up_a (by first | decide | omega), up_e]
      · rw [up_a (by first | decide | omega), up_a (by first | decide | omega), up_e]
      · rw [up_a (by first | decide | omega), up_e]
    · obtain ⟨y1, y2, y3, y4, y5⟩ := g i (by first | decide | omega) z2
      refine ⟨?_, y2, y3, y4, ?_⟩
      · rw [y1, up_a (by first | decide | omega), up_a (by first | decide | omega), up_a (by first | decide | omega), up_a (by first | decide | omega), up_a (by first | decide | omega)]
      · rw [y5, up_a (by first | decide | omega), up_a (by first | decide | omega), up_a (by first | decide | omega), up_a (by first | decide | omega), up_a (by first | decide | omega)]
end Q43
