section Q43
variable {m v w : Mem} {S : Int} {D : Nat}
theorem r_b60 : ∀ (d k : Nat) (x : Int) (v : Mem), (28 - x).toNat = d → d < k → 0 ≤ x → ∃ v', G12_begin_60 k v x = some v' ∧ Fm (fun b i => (b = 30 ∧ x ≤ i) ∨ (31 ≤ b ∧ b ≤ 33) ∨ (b = 0 ∧ 64 ≤ i)) v v' ∧ (∀ i, x ≤ i → i < 28 → v' 30 i = -2) ∧ (v' 31 0 = 0 ∧ v' 32 0 = 0 ∧ v' 33 0 = 0 ∧ v' 0 64 = v 4 5 ∧ v' 0 65 = v 4 6 ∧ v' 0 66 = -1 ∧ v' 0 74 = 0 ∧ v' 0 75 = -1 ∧ v' 0 78 = 0 ∧ v' 0 80 = 0) := by
  intro d
  induction d with
  | zero =>
    intro k x v h1 h2 h3
    obtain ⟨k, rfl⟩ : ∃ j, k = j + 1 := ⟨k - 1, by first | decide | omega⟩
    rw [G12_begin_60, if_pos (by first | decide | omega)]
    rw [wt_e, wt_e, wt_e, up_a (by first | decide | omega), up_a (by first | decide | omega), up_a (by first | decide | omega), wt_e, up_a (by first | decide | omega), up_a (by first | decide | omega), up_a (by first | decide | omega), up_a (by first | decide | omega), wt_e, wt_e, wt_e, wt_e, wt_e, wt_e]
    refine ⟨_, rfl, (((((((((Fm.w1 (by first | decide | omega)).w (by first | decide | omega)).w (by first | decide | omega)).w (by first | decide | omega)).w (by first | decide | omega)).w (by first | decide | omega)).w (by first | decide | omega)).w (by first | decide | omega)).w (by first | decide | omega)).w (by first | decide | omega), fun i a b => by first | decide | omega, ?_, ?_, ?_, ?_, ?_, ?_, ?_, ?_, ?_, ?_⟩
    · rw [up_a (by first | decide | omega), up_a (by first | decide | omega), up_a (by first | decide | omega), up_a (by first | decide | omega), up_a (by first | decide | omega), up_a (by first | decide | omega), up_a (by first | decide | omega), up_a (by first | decide | omega), up_a (by first | decide | omega), up_e]
    · rw [up_a (by first | decide | omega), up_a (by first | decide | omega), up_a (by first | decide | omega), up_a (by first | decide | omega), up_a (by first | decide | omega), up_a (by first | decide | omega), up_a (by first | decide | omega), up_a (by first | decide | omega), up_e]
    · rw [up_a (by first | decide | omega), up_a (by first | decide | omega), up_a (by first | decide | omega), up_a (by first | decide | omega), up_a (by first | decide | omega), up_a (by first | decide | omega), up_a (by first | decide | omega), up_e]
    · rw [up_i (by first | decide | omega), up_i (by first | decide | omega), up_i (by first | decide | omega), up_i (by first | decide | omega), up_i (by first | decide | omega), up_i (by first | decide | omega), up_e]
    · rw [up_i (by first | decide | omega), up_i (by first | decide | omega), up_i (by first | decide | omega), up_i (by first | decide | omega), up_i (by first | decide | omega), up_e]
    · rw [up_i (by first | decide | omega), up_i (by first | decide | omega), up_i (by first | decide | omega), up_i (by first | decide | omega), up_e]
    · rw [up_i (by first | decide | omega), up_i (by first | decide | omega), up_i (by first | decide | omega), up_e]
    · rw [up_i (by first | decide | omega), up_i (by first | decide | omega), up_e]
    · rw [up_i (by first | decide | omega), up_e]
    · exact up_e
  | succ d ih =>
    intro k x v h1 h2 h3
    obtain ⟨k, rfl⟩ : ∃ j, k = j + 1 := ⟨k - 1, by first | decide | omega⟩
    rw [G12_begin_60, if_neg (by first | decide | omega), gdx_t (by first | decide | omega), wt_e, gd3_t (by first | decide | omega)]
    obtain ⟨v', e, f, g, h⟩ := ih k (x + 1) (up v 30 x (-2)) (by first | decide | omega) (by first | decide | omega) (by first | decide | omega)
    rw [up_a (by first | decide | omega), up_a (by first | decide | omega)] at h
    refine ⟨v', e, (Fm.w1 (by first | decide | omega)).tr (f.mono (by intro b i q; first | decide | omega)), fun i z1 z2 => ?_, h⟩
    by_cases c : i = x
    · rw [c, f 30 x (by first | decide | omega), up_e]
    · exact g i (by first | decide | omega) z2
end Q43
