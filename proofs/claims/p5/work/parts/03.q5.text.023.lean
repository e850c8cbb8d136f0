section Q43
variable {m v w : Mem} {S : Int} {D : Nat}
theorem c_told (hDD : D = 2 ∨ D = 24) (hW : WW (sl 21 m D)) : ∃ m', G6_takeAsTold m 51 D = some m' ∧ Fm (fun b i => 51 ≤ b ∧ b ≤ 56) m m' ∧ m' 51 0 = (D : Int) ∧ GE (sl 21 m D) (sl 3 m' 51) (gM (sl 21 m D) (-1)) := by
  unfold G6_takeAsTold G6_takeAsTold_0
  have hs := hW.1
  unfold WS at hs
  have e1 : up m 51 0 (D : Int) 51 0 = (D : Int) := up_e
  rw [wt_e, e1, Int.toNat_natCast, wt_e]
  have e2 : cpy (up m 51 0 (D : Int)) (D + 4) 0 (51 + 1) 0 5 51 0 = (D : Int) := by rw [cpy_a (by first | decide | omega)]; exact e1
  rw [e2, Int.toNat_natCast, wt_e]
  have f0 : Fm (fun b i => 51 ≤ b ∧ b ≤ 53) m (cpy (cpy (up m 51 0 (D : Int)) (D + 4) 0 (51 + 1) 0 5) (D + 6) 0 (51 + 2) 0 5) := by
    intro b i q
    rw [cpy_a (by first | decide | omega), cpy_a (by first | decide | omega), up_a (by first | decide | omega)]
  have k0 : cpy (cpy (up m 51 0 (D : Int)) (D + 4) 0 (51 + 1) 0 5) (D + 6) 0 (51 + 2) 0 5 51 0 = (D : Int) := by rw [cpy_a (by first | decide | omega)]; exact e2
  have k1 : ∀ i, 0 ≤ i → i < 5 → cpy (cpy (up m 51 0 (D : Int)) (D + 4) 0 (51 + 1) 0 5) (D + 6) 0 (51 + 2) 0 5 52 i = m (D + 4) i := fun i z1 z2 => by
    rw [cpy_a (by first | decide | omega)]
    have z : cpy (up m 51 0 (D : Int)) (D + 4) 0 (51 + 1) 0 5 52 i = up m 51 0 (D : Int) (D + 4) (0 + (i - 0)) := cpy_in (by first | decide | omega)
    rw [z, up_a (by first | decide | omega), show 0 + (i - 0) = i by first | decide | omega]
  have k2 : ∀ i, 0 ≤ i → i < 5 → cpy (cpy (up m 51 0 (D : Int)) (D + 4) 0 (51 + 1) 0 5) (D + 6) 0 (51 + 2) 0 5 53 i = m (D + 6) i := fun i z1 z2 => by
    have z : cpy (cpy (up m 51 0 (D : Int)) (D + 4) 0 (51 + 1) 0 5) (D + 6) 0 (51 + 2) 0 5 53 i = cpy (up m 51 0 (D : Int)) (D + 4) 0 (51 + 1) 0 5 (D + 6) (0 + (i - 0)) := cpy_in (by first | decide | omega)
    rw [z, cpy_a (by first | decide | omega), up_a (by first | decide | omega), show 0 + (i - 0) = i by first | decide | omega]
  generalize cpy (cpy (up m 51 0 (D : Int)) (D + 4) 0 (51 + 1) 0 5) (D + 6) 0 (51 + 2) 0 5 = u at f0 k0 k1 k2 ⊢
  have ht : TX u D (sl 21 m D) := ⟨hDD, fun i => by rw [f0 D i (by first | decide | omega)]; exact (sl_e (Nat.zero_le _) i).symm, fun c i hc => by rw [f0 (D + c) i (by first | decide | omega)]; exact (sl_e hc i).symm⟩
  obtain ⟨m', e, f, g⟩ := c_t47 hDD hW (sl 21 m D 8 1).toNat 1024 0 u (by first | decide | omega) (by first | decide | omega) (by first | decide | omega) k0 ht
  refine ⟨m', e, (f0.mono (by intro b i q; first | decide | omega)).tr (f.mono (by intro b i q; first | decide | omega)), by rw [f 51 0 (by first | decide | omega)]; exact k0, fun i z1 z2 => ?_, fun k z1 z2 => ?_⟩
  · rw [sl_e (by first | decide | omega), sl_e (by first | decide | omega), f 52 i (by first | decide | omega), f 53 i (by first | decide | omega), k1 i z1 (by first | decide | omega), k2 i z1 (by first | decide | omega)]
    refine ⟨?_, ?_⟩
    · show m (D + 4) i = bdM (sl 21 m D) (-1) i
      unfold bdM
      rw [if_neg (by first | decide | omega), sl_e (by first | decide | omega)]
    · show m (D + 6) i = if (-1 : Int) = 0 then 0 else sl 21 m D 6 i
      rw [if_neg (by first | decide | omega), sl_e (by first | decide | omega)]
  · rw [sl_e (by first | decide | omega), g k z1 z2]
    show _ = pxM (sl 21 m D) (-1) (sl 21 m D 11 k)
    unfold pxM
    rw [if_neg (by first | decide | omega)]
end Q43
