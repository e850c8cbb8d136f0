section Q28
variable {m v : Mem} {S : Int} {D : Nat}
/-- the surfer is laid on both sides, the line's stop -/
theorem s_end (hD : DI m v D) {m' v' : Mem} {n nm x y bd pc bo be : Int} (hn : n = m (D + 1) 0 ∧ 0 ≤ n ∧ n < 5) (f : Fm (PSu D n) m m') (g : Fm (QSu n) v v') (h7 : m' 46 7 = 1 ∧ v' 0 24 = 1) (hs : m' (D + 1) 0 = n ∧ v' 0 20 = n) (hv : v' 5 (5 + n) = nm ∧ v' 6 (5 + n) = m D 0 * y + x ∧ v' 7 (5 + n) = bd ∧ v' 8 (5 + n) = pc ∧ v' 9 (5 + n) = bo ∧ v' 10 (5 + n) = be) (hb : ((0 ≤ x ∧ x < m D 0) ∧ (0 ≤ y ∧ y < m D 1)) ∧ (1 ≤ bd ∧ bd ≤ 9) ∧ (1 ≤ pc ∧ pc ≤ 3) ∧ (0 ≤ bo ∧ bo ≤ 100) ∧ (0 ≤ be ∧ be ≤ 100)) (p : PreR m' v' S) : LOut (G5_readSurfer_195 m' nm x y bd pc bo be) ((gd3 (v' 0 20 + 1) (wt (up v' 0 20 (v' 0 20 + 1)) fun m79 => some (1, m79))).bind fun o => G12_lineRead_197 o.2 o.1) m' v' D S := by
  have hDD := hD.1.1
  have hw := hD.ws.2
  have e10 : m' 46 10 = (D : Int) := by rw [f 46 10 (by unfold PSu Pk; first | decide | omega)]; exact hD.1.2
  have eD : m' D 0 = m D 0 := f D 0 (by unfold PSu Pk; first | decide | omega)
  have hc : 0 ≤ y * m D 0 + x ∧ y * m D 0 + x < m D 0 * m D 1 ∧ m D 0 * m D 1 ≤ 48 := by
    obtain ⟨⟨⟨x1, x2⟩, y1, y2⟩, _⟩ := hb
    have t1 : 0 ≤ y * m D 0 := Int.mul_nonneg y1 (by first | decide | omega)
    have t2 : (y + 1) * m D 0 ≤ m D 1 * m D 0 := Int.mul_le_mul_of_nonneg_right (by first | decide | omega) (by first | decide | omega)
    have t3 : m D 1 * m D 0 ≤ 6 * 8 := Int.mul_le_mul hw.2.2 hw.1.2 (by first | decide | omega) (by first | decide | omega)
    rw [Int.add_mul] at t2
    rw [Int.mul_comm (m D 0) (m D 1)]
    omega
  unfold G5_readSurfer_195
  rw [if_neg (show ¬ be = -1 by first | decide | omega), e10, Int.toNat_natCast, eD, gd3_t (by first | decide | omega)]
  obtain ⟨m2, a1, a2, a3, a4, a5, a6, a7, a8, a9⟩ := c_addc (m := m') (a := D + 1) (x1 := nm) (x2 := y * m D 0 + x) (x3 := bd) (x4 := pc) (x5 := bo) (x6 := be) (by first | decide | omega)
  rw [hs.1] at a2 a3 a4 a5 a6 a7 a8 a9
  rw [a1, bs1, hs.2, gd3_t (by first | decide | omega), wt_e, bs1]
  have f2 : Fm (PSu D n) m m2 := f.tr (a2.mono (by intro b i q; unfold PSu; first | decide | omega))
  have g2 : Fm (QSu n) v (up v' 0 20 (n + 1)) := g.w (by unfold QSu; first | decide | omega)
  have nr : ∀ (b : Nat), 5 ≤ b → up v' 0 20 (n + 1) b = v' b := fun b q => funext fun i => up_a (by first | decide | omega)
  have hD2 : DI m2 (up v' 0 20 (n + 1)) D := by
    refine di_surf hD ⟨hn.1, hn.2.2⟩ f2 g2 ⟨by rw [a2 46 7 (by first | decide | omega)]; exact h7.1, by rw [up_i (by first | decide | omega)]; exact h7.2⟩ ⟨a3, up_e⟩ ?_ ?_
    · rw [nr 5 (by first | decide | omega), nr 6 (by first | decide | omega), nr 7 (by first | decide | omega), nr 8 (by first | decide | omega), nr 9 (by first | decide | omega), nr 10 (by first | decide | omega), hv.1, hv.2.1, hv.2.2.1, hv.2.2.2.1, hv.2.2.2.2.1, hv.2.2.2.2.2]
      exact ⟨a4.symm, by rw [Int.mul_comm]; exact a5.symm, a6.symm, a7.symm, a8.symm, a9.symm⟩
    · have b5 : m2 (D + 3) n = _ := a5
      have b6 : m2 (D + 4) n = _ := a6
      have b7 : m2 (D + 5) n = _ := a7
      have b8 : m2 (D + 6) n = _ := a8
      have b9 : m2 (D + 7) n = _ := a9
      rw [b5, b6, b7, b8, b9]
      exact ⟨⟨hc.1, hc.2.1⟩, hb.2⟩
  have p2 : PreR m2 (up v' 0 20 (n + 1)) S := p.f (Q := fun b i => b = 0 ∧ i = 20) a2 (Fm.w1 ⟨rfl, rfl⟩) (by intro b i q; first | decide | omega) (by intro b i q; first | decide | omega)
  exact lo_tr (lo_stop hD2 p2) (a2.mono (by intro b i q; unfold PX; first | decide | omega)) (Fm.w1 (by unfold QX; first | decide | omega)) (by rw [a2 47 3 (by first | decide | omega)]; first | decide | omega) (a2 D 12 (by first | decide | omega))
end Q28
