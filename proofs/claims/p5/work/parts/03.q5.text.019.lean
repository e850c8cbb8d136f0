section Q42
variable {m v : Mem} {S : Int} {D : Nat}
theorem r_k142 {v0 : Mem} (hb : ∀ i, 3 ≤ i → i < 6 → v0 15 i = 0 ∨ v0 15 i = 1) : ∀ (d k : Nat) (x : Int) (v : Mem), (3 - x).toNat = d → d < k → 0 ≤ x → (∀ i, 3 ≤ i → v 15 i = v0 15 i) → ∃ v', G12_keepText_142 k v x = (G12_copies v' 16 3).bind (fun o4 => (G12_copies o4 17 3).bind fun o8 => (G12_copies o8 18 64).bind fun o12 => (G12_copies o12 19 64).bind fun o16 => (G12_copies o16 20 64).bind fun o20 => (G12_begin o20).bind fun o22 => some o22) ∧ Fm (fun b i => b = 15 ∧ x ≤ i ∧ i < 3) v v' ∧ ∀ i, x ≤ i → i < 3 → v' 15 i = v0 15 (3 + i) := by
  intro d
  induction d with
  | zero =>
    intro k x v h1 h2 h3 h4
    obtain ⟨k, rfl⟩ : ∃ j, k = j + 1 := ⟨k - 1, by first | decide | omega⟩
    rw [G12_keepText_142, if_pos (by first | decide | omega)]
    exact ⟨v, rfl, Fm.rf, fun i a b => by first | decide | omega⟩
  | succ d ih =>
    intro k x v h1 h2 h3 h4
    obtain ⟨k, rfl⟩ : ∃ j, k = j + 1 := ⟨k - 1, by first | decide | omega⟩
    have hx := hb (3 + x) (by first | decide | omega) (by first | decide | omega)
    rw [G12_keepText_142, if_neg (by first | decide | omega), gdx_t (by first | decide | omega), gdx_t (by first | decide | omega), h4 (3 + x) (by first | decide | omega), gdb_t (by first | decide | omega), wt_e, gd3_t (by first | decide | omega)]
    obtain ⟨v', e, f, g⟩ := ih k (x + 1) (up v 15 x (v0 15 (3 + x))) (by first | decide | omega) (by first | decide | omega) (by first | decide | omega) (fun i z => by rw [up_i (by first | decide | omega)]; exact h4 i z)
    refine ⟨v', e, (Fm.w1 (by first | decide | omega)).tr (f.mono (by intro b i q; first | decide | omega)), fun i z1 z2 => ?_⟩
    by_cases c : i = x
    · rw [c, f 15 x (by first | decide | omega), up_e]
    · exact g i (by first | decide | omega) z2
end Q42
