section Q43
variable {m v w : Mem} {S : Int} {D : Nat}
theorem c_t47 (hDD : D = 2 ∨ D = 24) (hW : WW w) : ∀ (d k : Nat) (x : Int) (m : Mem), (w 8 1 - x).toNat = d → d < k → 0 ≤ x → m 51 0 = (D : Int) → TX m D w → ∃ m', G6_takeAsTold_47 k m 51 x = some m' ∧ Fm (fun b i => (b = 54 ∧ x ≤ i) ∨ b = 55 ∨ b = 56) m m' ∧ ∀ i, x ≤ i → i < w 8 1 → m' 54 i = pkX w (w 11 i) := by
  have hs : w 8 1 ≤ 28 := by have := hW.1; unfold WS at this; omega
  intro d
  induction d with
  | zero =>
    intro k x m h1 h2 h3 h4 h5
    obtain ⟨k, rfl⟩ : ∃ j, k = j + 1 := ⟨k - 1, by first | decide | omega⟩
    rw [G6_takeAsTold_47, h4, Int.toNat_natCast, h5.2.2 8 1 (by first | decide | omega), if_pos (by first | decide | omega)]
    exact ⟨m, rfl, Fm.rf, fun i a b => by first | decide | omega⟩
  | succ d ih =>
    intro k x m h1 h2 h3 h4 h5
    obtain ⟨k, rfl⟩ : ∃ j, k = j + 1 := ⟨k - 1, by first | decide | omega⟩
    have hv := (hW.2.2.2.1 x h3 (by first | decide | omega)).2.1
    have hcx : CX m 51 D w (sl 3 m 51) := ⟨h5, Or.inl rfl, h4, fun c i _ h => (sl_e h i).symm⟩
    obtain ⟨m1, e1, f1⟩ := g_pkX hcx hW (mn := w 11 x) (by first | decide | omega)
    rw [G6_takeAsTold_47, h4, Int.toNat_natCast, h5.2.2 8 1 (by first | decide | omega), if_neg (by first | decide | omega), gdx_t (by first | decide | omega), h5.2.2 11 x (by first | decide | omega), e1, bs1, gdx_t (by first | decide | omega), wt_e, gd3_t (by first | decide | omega)]
    have f2 : Fm (fun b i => (b = 54 ∧ x ≤ i) ∨ b = 55 ∨ b = 56) m (up m1 54 x (pkX w (w 11 x))) := ((f1.fm).mono (by intro b i q; unfold PN at q; first | decide | omega)).w (by first | decide | omega)
    obtain ⟨m', e, f, g⟩ := ih k (x + 1) (up m1 54 x (pkX w (w 11 x))) (by first | decide | omega) (by first | decide | omega) (by first | decide | omega) (by rw [f2 51 0 (by first | decide | omega)]; exact h4) ⟨hDD, fun i => by rw [f2 D i (by first | decide | omega)]; exact h5.2.1 i, fun c i hc => by rw [f2 (D + c) i (by first | decide | omega)]; exact h5.2.2 c i hc⟩
    refine ⟨m', e, f2.tr (f.mono (by intro b i q; first | decide | omega)), fun i z1 z2 => ?_⟩
    by_cases c : i = x
    · rw [c, f 54 x (by first | decide | omega), up_e]
    · exact g i (by first | decide | omega) z2
end Q43
