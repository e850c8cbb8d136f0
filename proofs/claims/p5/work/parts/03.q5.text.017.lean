section Q42
variable {m v : Mem} {S : Int} {D : Nat}
theorem r_cop2 {a : Nat} {n : Int} (hn : 0 ≤ n ∧ n ≤ 64) (hl : lnM a = 2 * n) : ∀ (d k : Nat) (x : Int) (v : Mem), (n - x).toNat = d → d < k → 0 ≤ x → ∃ v', G12_copies_2 k v a n x = some v' ∧ Fm (fun b i => b = a ∧ x ≤ i ∧ i < n) v v' ∧ ∀ i, x ≤ i → i < n → v' a i = v a (n + i) := by
  intro d
  induction d with
  | zero =>
    intro k x v h1 h2 h3
    obtain ⟨k, rfl⟩ : ∃ j, k = j + 1 := ⟨k - 1, by first | decide | omega⟩
    rw [G12_copies_2, if_pos (by first | decide | omega)]
    exact ⟨v, rfl, Fm.rf, fun i a b => by first | decide | omega⟩
  | succ d ih =>
    intro k x v h1 h2 h3
    obtain ⟨k, rfl⟩ : ∃ j, k = j + 1 := ⟨k - 1, by first | decide | omega⟩
    rw [G12_copies_2, if_neg (by first | decide | omega), hl, gdx_t (by first | decide | omega), gdx_t (by first | decide | omega), wt_e, gd3_t (by first | decide | omega)]
    obtain ⟨v', e, f, g⟩ := ih k (x + 1) (up v a x (v a (n + x))) (by first | decide | omega) (by first | decide | omega) (by first | decide | omega)
    refine ⟨v', e, (Fm.w1 (by first | decide | omega)).tr (f.mono (by intro b i q; first | decide | omega)), fun i z1 z2 => ?_⟩
    by_cases c : i = x
    · rw [c, f a x (by first | decide | omega), up_e]
    · rw [g i (by first | decide | omega) z2, up_i (by first | decide | omega)]
theorem r_cop {a : Nat} {n : Int} (v : Mem) (hn : 0 ≤ n ∧ n ≤ 64) (hl : lnM a = 2 * n) : ∃ v', G12_copies v a n = some v' ∧ Fm (fun b i => b = a ∧ 0 ≤ i ∧ i < n) v v' ∧ ∀ i, 0 ≤ i → i < n → v' a i = v a (n + i) := r_cop2 hn hl n.toNat 1024 0 v (by first | decide | omega) (by first | decide | omega) (by first | decide | omega)
theorem ln_4 : lnM 4 = 2 * 7 := by decide
theorem ln_5 : lnM 5 = 2 * 5 ∧ lnM 6 = 2 * 5 ∧ lnM 7 = 2 * 5 ∧ lnM 8 = 2 * 5 ∧ lnM 9 = 2 * 5 ∧ lnM 10 = 2 * 5 := by decide
theorem ln_11 : lnM 11 = 2 * 4 ∧ lnM 12 = 2 * 28 ∧ lnM 13 = 2 * 28 ∧ lnM 14 = 2 * 28 := by decide
theorem ln_16 : lnM 16 = 2 * 3 ∧ lnM 17 = 2 * 3 ∧ lnM 18 = 2 * 64 ∧ lnM 19 = 2 * 64 ∧ lnM 20 = 2 * 64 := by decide
/-- what is kept so far: rows below c, and the numbers -/
def KD (c : Nat) (v0 v : Mem) : Prop := (∀ b i, KT b i → b < c → v b i = kd v0 b i) ∧ Fm (fun b i => KT b i ∧ b < c) v0 v
end Q42
