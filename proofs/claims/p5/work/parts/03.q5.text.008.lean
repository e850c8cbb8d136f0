section Q40
variable {m v : Mem} {S : Int} {D : Nat}
theorem r_p43 : ∀ (d k : Nat) (x : Int) (v : Mem), (5 - x).toNat = d → d < k → 0 ≤ x → ∃ v', G12_plain_43 k v x = some v' ∧ Fm (fun b i => (b = 3 ∧ x ≤ i) ∨ (b = 4 ∧ 7 ≤ i) ∨ (b = 15 ∧ 3 ≤ i)) v v' ∧ (∀ i, x ≤ i → i < 5 → v' 3 i = 0) ∧ (∀ i, 7 ≤ i → i < 14 → v' 4 i = 0) ∧ ∀ i, 3 ≤ i → i < 6 → v' 15 i = 0 := by
  intro d
  induction d with
  | zero =>
    intro k x v h1 h2 h3
    obtain ⟨k, rfl⟩ : ∃ j, k = j + 1 := ⟨k - 1, by first | decide | omega⟩
    rw [G12_plain_43, if_pos (by first | decide | omega)]
    obtain ⟨v', e, f, g, h⟩ := r_p64 7 1024 7 v (by first | decide | omega) (by first | decide | omega) (by first | decide | omega)
    exact ⟨v', e, f.mono (by intro b i q; first | decide | omega), fun i a b => by first | decide | omega, g, h⟩
  | succ d ih =>
    intro k x v h1 h2 h3
    obtain ⟨k, rfl⟩ : ∃ j, k = j + 1 := ⟨k - 1, by first | decide | omega⟩
    rw [G12_plain_43, if_neg (by first | decide | omega), gdx_t (by first | decide | omega), gdb_t (by first | decide | omega), wt_e, gd3_t (by first | decide | omega)]
    obtain ⟨v', e, f, g, h, h'⟩ := ih k (x + 1) (up v 3 x 0) (by first | decide | omega) (by first | decide | omega) (by first | decide | omega)
    refine ⟨v', e, (Fm.w1 (by first | decide | omega)).tr (f.mono (by intro b i q; first | decide | omega)), fun i a b => ?_, h, h'⟩
    by_cases c : i = x
    · rw [c, f 3 x (by first | decide | omega), up_e]
    · exact g i (by first | decide | omega) b
def PT (D : Nat) : Nat → Int → Prop := fun b i => (b = 0 ∧ i = 1) ∨ (b = 46 ∧ i = 10) ∨ b = 47 ∨ PX D b i
def QT : Nat → Int → Prop := fun b i => (b = 0 ∧ (i = 1 ∨ i = 2 ∨ i = 6)) ∨ QX b i
theorem PX_T : ∀ b i, PX D b i → PT D b i := fun _ _ h => Or.inr (Or.inr (Or.inr h))
theorem QX_T : ∀ b i, QX b i → QT b i := fun _ _ h => Or.inr h
end Q40
