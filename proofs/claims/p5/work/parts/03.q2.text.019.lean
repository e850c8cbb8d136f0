section Q28
variable {m v : Mem} {S : Int} {D : Nat}
theorem l_surf (hD : DI m v D) (h : PostR m v S) : LOut (G5_readSurfer m) ((G12_surferLine v).bind fun o => G12_lineRead_197 o.2 o.1) m v D S := by
  have hDD := hD.1.1
  have hN := hD.n
  have hw := hD.ws.2
  have hn5 : 0 ≤ m (D + 1) 0 ∧ m (D + 1) 0 ≤ 5 := by
    have := hD.2.1.1
    unfold WS at this
    rw [sl_e (by first | decide | omega)] at this
    have e1 : sl 21 m D 1 0 = m (D + 1) 0 := sl_e (by first | decide | omega) _
    omega
  have e20 : v 0 20 = m (D + 1) 0 := hN.2.2.1
  generalize hn : m (D + 1) 0 = n at *
  unfold G5_readSurfer G5_readSurfer_0 G12_surferLine G12_surferLine_0
  rw [hD.1.2, Int.toNat_natCast, hn, e20]
  by_cases c0 : n < 5
  · rw [if_pos c0, wt_e, if_neg (show ¬ n = 5 by first | decide | omega)]
    have h1 : PostR (up m 46 7 1) v S := h.f (P := fun b i => b = 46 ∧ i = 7) (Q := fun _ _ => False) (Fm.w1 ⟨rfl, rfl⟩) Fm.rf (by intro b i q; first | decide | omega) (fun b i _ => id)
    have f1 : Fm (PSu D n) m (up m 46 7 1) := Fm.w1 (by unfold PSu; first | decide | omega)
    have e7 : up m 46 7 1 46 7 = 1 := up_e
    have k3 : m 47 3 = up m 46 7 1 47 3 := (up_a (by first | decide | omega)).symm
    have e1N : up m 46 7 1 (D + 1) 0 = n := by rw [up_a (by first | decide | omega)]; exact hn
    generalize up m 46 7 1 = m1 at h1 f1 e7 k3 e1N ⊢
    obtain ⟨v2, z1, z2, p2⟩ := h1.tok
    obtain ⟨m3, e3, f3, h3, q3, _⟩ := p2.adv
    rw [e3, z1, bs1, bs1]
    have f3' := f3.mono P47_k
    have g2 : Fm (QSu n) v v2 := (z2.mono Q7_k).mono Qk_s
    have F3 : Fm (PSu D n) m m3 := f1.tr (f3'.mono Pk_s)
    have e73 : m3 46 7 = 1 := by rw [f3 46 7 (by unfold P47; first | decide | omega)]; exact e7
    refine lo_tr (m1 := m3) (v1 := v2) ?_ (F3.mono Ps_x) (g2.mono (Qs_x hn5.1)) (by first | decide | omega) (F3 D 12 (by unfold PSu Pk; first | decide | omega))
    have hk := h3.2.2.2.2.2.2.2
    by_cases c1 : m3 47 4 = 24
    · have hk2 : v2 0 8 = 2 ∧ v2 0 9 = m3 47 6 := by unfold KR SGN NumR at hk; omega
      have e20' : v2 0 20 = n := by rw [z2 0 20 (by unfold Q7; first | decide | omega)]; exact e20
      have e10 : m3 46 10 = (D : Int) := by rw [F3 46 10 (by unfold PSu Pk; first | decide | omega)]; exact hD.1.2
      have eN : m3 (D + 1) 0 = n := by rw [f3 (D + 1) 0 (by unfold P47; first | decide | omega)]; exact e1N
      rw [if_pos c1, if_pos hk2.1, e10, Int.toNat_natCast, hk2.2, e20']
      unfold G1_hasName G1_hasName_0 G12_find G12_find_0
      have hsame : ∀ j, 0 ≤ j → j < n → m3 (D + 1 + 1) j = v2 5 (5 + j) := by
        intro j j1 j2
        have hc := (hD.2.2.1.2.2.1 j j1 (by rw [sl_e (by first | decide | omega)]; first | decide | omega)).1
        rw [sl_e (by first | decide | omega)] at hc
        have hc' : v 5 (5 + j) = m (D + 2) j := hc
        rw [z2 5 (5 + j) (by unfold Q7; first | decide | omega), hc', F3 (D + 1 + 1) j (by unfold PSu Pk; first | decide | omega)]
      rcases l_has (m := m3) (v := v2) (a := D + 1) (n := n) (x := m3 47 6) eN hn5.2 hsame n.toNat 1024 0 (by first | decide | omega) (by first | decide | omega) (by first | decide | omega) with ⟨q1, q2⟩ | ⟨q1, r, q3, q2⟩
      · rw [q1, q2, bs1, bs1]
        dsimp only
        have eD0 : m3 D 0 = m D 0 := F3 D 0 (by unfold PSu Pk; first | decide | omega)
        have eD1 : m3 D 1 = m D 1 := F3 D 1 (by unfold PSu Pk; first | decide | omega)
        rw [if_pos (show (0 : Int) = 0 from rfl), if_pos (show (-1 : Int) < 0 by first | decide | omega), e10, Int.toNat_natCast, hk2.2, e20', gd3_t (by first | decide | omega), gdx_t (by first | decide | omega), wt_e]
        have h4 : PostR m3 (up v2 5 (5 + n) (m3 47 6)) S := h3.f (P := fun _ _ => False) (Q := fun b i => b = 5) Fm.rf (Fm.w1 rfl) (fun b i _ => id) (by intro b i q; first | decide | omega)
        obtain ⟨v4, z4, z5, p4⟩ := h4.tok
        have G4 : Fm (QSu n) v v4 := (g2.w (by unfold QSu; first | decide | omega)).tr ((z5.mono Q7_k).mono Qk_s)
        have k5 : v4 5 (5 + n) = m3 47 6 := by rw [z5 5 _ (by unfold Q7; first | decide | omega), up_e]
        have k24 : Fm QX v2 v4 := (Fm.w1 (by unfold QX; first | decide | omega)).tr ((z5.mono Q7_k).mono Qk_x)
        rw [z4, bs1]
        obtain ⟨m', v', f', g', q', w24, kk⟩ := n_cellw (m := m3) (v := v4) (D := D) ⟨by rw [G4 0 18 (by unfold QSu Qk; first | decide | omega), eD0]; exact hN.1.1, by rw [G4 0 19 (by unfold QSu Qk; first | decide | omega), eD1]; exact hN.1.2⟩ (by first | decide | omega) p4
        have g'q : Fm (QSu n) v4 v' := g'.mono (by intro b i q; rcases q with q | q; (exact Or.inl q); (unfold QSu; first | decide | omega))
        rcases kk with ⟨x, y, m4, x1, y1, b1, b2, b3, b4, b5, b6, p5⟩ | ⟨b1, b2, b3⟩ | ⟨x, m4, x1, b1, b2, b3, b4, b5⟩
        · have e10' : m4 46 10 = (D : Int) := by rw [b2 46 10 (by unfold Pk; first | decide | omega)]; exact e10
          have e1D : m4 D 1 = m3 D 1 := b2 D 1 (by unfold Pk; first | decide | omega)
          have e18 : v' 0 18 = m D 0 := by rw [g'q 0 18 (by unfold QSu Qk; first | decide | omega), G4 0 18 (by unfold QSu Qk; first | decide | omega)]; exact hN.1.1
          rw [eD0] at x1
          rw [eD1] at y1
          have hc : 0 ≤ m D 0 * y ∧ m D 0 * y ≤ 40 := by
            refine ⟨Int.mul_nonneg (by first | decide | omega) (by first | decide | omega), ?_⟩
            have : m D 0 * y ≤ 8 * 5 := Int.mul_le_mul hw.1.2 (by first | decide | omega) (by first | decide | omega) (by first | decide | omega)
            omega
          rw [b1, b4, bs1, bs1]
          dsimp only
          rw [if_neg i10, if_neg (show ¬ x = -1 by first | decide | omega), e10', Int.toNat_natCast, e1D, gd3_t (by first | decide | omega), b3, bs1]
          unfold G5_readSurfer_122
          dsimp only
          rw [if_neg (show ¬ y = -1 by first | decide | omega), gdx_t (by first | decide | omega), e18, b5, b6, gd3_t (by first | decide | omega), wt_e]
          have p6 : PreR m' (up v' 6 (5 + n) (m D 0 * y + x)) S := p5.f (P := fun _ _ => False) (Q := fun b i => b = 6) Fm.rf (Fm.w1 rfl) (fun b i _ => id) (by intro b i q; first | decide | omega)
          have G6 : Fm (QSu n) v (up v' 6 (5 + n) (m D 0 * y + x)) := (G4.tr g'q).w (by unfold QSu; first | decide | omega)
          have F6 : Fm (PSu D n) m m' := F3.tr (f'.mono Pk_s)
          have k5' : up v' 6 (5 + n) (m D 0 * y + x) 5 (5 + n) = m3 47 6 := by rw [up_a (by first | decide | omega), g' 5 _ (by unfold Qc Qk; first | decide | omega)]; exact k5
          have k6 : up v' 6 (5 + n) (m D 0 * y + x) 6 (5 + n) = m D 0 * y + x := up_e
          have w24' : up v' 6 (5 + n) (m D 0 * y + x) 0 24 = 1 := by rw [up_a (by first | decide | omega)]; exact w24
          have w20 : up v' 6 (5 + n) (m D 0 * y + x) 0 20 = n := by rw [up_a (by first | decide | omega), g' 0 20 (by unfold Qc Qk; first | decide | omega), z5 0 20 (by unfold Q7; first | decide | omega), up_a (by first | decide | omega)]; exact e20'
          have e7' : m' 46 7 = 1 := by rw [f' 46 7 (by unfold Pk; first | decide | omega)]; exact e73
          have eN' : m' (D + 1) 0 = n := by rw [f' (D + 1) 0 (by unfold Pk; first | decide | omega)]; exact eN
          refine lo_tr (m1 := m') (v1 := up v' 6 (5 + n) (m D 0 * y + x)) ?_ (f'.mono Pk_x) ((k24.tr (g'.mono Qc_x)).w (by unfold QX; first | decide | omega)) q' (f' D 12 (by unfold Pk; first | decide | omega))
          generalize up v' 6 (5 + n) (m D 0 * y + x) = u at p6 G6 k5' k6 w24' w20 ⊢
          generalize m3 47 6 = nm at *
          refine st_row (K := fun m' b => G5_readSurfer_139 m' nm x y b) (row := 7) (idx := 5 + n) hDD p6 (by first | decide | omega) (by first | decide | omega) (by first | decide | omega) ?_ ?_
          · intro u; unfold G5_readSurfer_139 G5_readSurfer_157 G5_readSurfer_176 G5_readSurfer_195; simp only [if_true]
          intro bd m5 v5 bd1 bd2 f5 g5 w7 p7
          unfold G5_readSurfer_139
          rw [if_neg (show ¬ bd = -1 by first | decide | omega)]
          refine st_row (K := fun m' b => G5_readSurfer_157 m' nm x y bd b) (row := 8) (idx := 5 + n) hDD p7 (by first | decide | omega) (by first | decide | omega) (by first | decide | omega) ?_ ?_
          · intro u; unfold G5_readSurfer_157 G5_readSurfer_176 G5_readSurfer_195; simp only [if_true]
          intro pc m6 v6 pc1 pc2 f6 g6 w8 p8
          unfold G5_readSurfer_157
          rw [if_neg (show ¬ pc = -1 by first | decide | omega)]
          refine st_row (K := fun m' b => G5_readSurfer_176 m' nm x y bd pc b) (row := 9) (idx := 5 + n) hDD p8 (by first | decide | omega) (by first | decide | omega) (by first | decide | omega) ?_ ?_
          · intro u; unfold G5_readSurfer_176 G5_readSurfer_195; simp only [if_true]
          intro bo m7 v7 bo1 bo2 f7 g7 w9 p9
          unfold G5_readSurfer_176
          rw [if_neg (show ¬ bo = -1 by first | decide | omega)]
          refine st_row (K := fun m' b => G5_readSurfer_195 m' nm x y bd pc bo b) (row := 10) (idx := 5 + n) hDD p9 (by first | decide | omega) (by first | decide | omega) (by first | decide | omega) ?_ ?_
          · intro u; unfold G5_readSurfer_195; simp only [if_true]
          intro be m8 v8 be1 be2 f8 g8 w10 p10
          have F8 : Fm Pk m' m8 := ((f5.tr f6).tr f7).tr f8
          have G8 : Fm (QSu n) v v8 := (((G6.tr (g5.mono (Qr_s (by first | decide | omega)))).tr (g6.mono (Qr_s (by first | decide | omega)))).tr (g7.mono (Qr_s (by first | decide | omega)))).tr (g8.mono (Qr_s (by first | decide | omega)))
          have vv : ∀ (b : Nat) i, ¬ Qk b i → b ≠ 7 → b ≠ 8 → b ≠ 9 → b ≠ 10 → v8 b i = u b i := fun b i a c1 c2 c3 c4 => by
            rw [g8 b i (by rintro (q | q); exact a q; first | decide | omega), g7 b i (by rintro (q | q); exact a q; first | decide | omega), g6 b i (by rintro (q | q); exact a q; first | decide | omega), g5 b i (by rintro (q | q); exact a q; first | decide | omega)]
          refine s_end hD ⟨hn.symm, hn5.1, c0⟩ (F6.tr (F8.mono Pk_s)) G8 ⟨by rw [F8 46 7 (by unfold Pk; first | decide | omega)]; exact e7', by rw [vv 0 24 (by unfold Qk; first | decide | omega) (by first | decide | omega) (by first | decide | omega) (by first | decide | omega) (by first | decide | omega)]; exact w24'⟩ ⟨by rw [F8 (D + 1) 0 (by unfold Pk; first | decide | omega)]; exact eN', by rw [vv 0 20 (by unfold Qk; first | decide | omega) (by first | decide | omega) (by first | decide | omega) (by first | decide | omega) (by first | decide | omega)]; exact w20⟩ ⟨?_, ?_, ?_, ?_, ?_, w10⟩ ⟨⟨x1, y1⟩, ⟨bd1, bd2⟩, ⟨pc1, pc2⟩, ⟨bo1, bo2⟩, ⟨be1, be2⟩⟩ p10
          · rw [vv 5 _ (by unfold Qk; first | decide | omega) (by first | decide | omega) (by first | decide | omega) (by first | decide | omega) (by first | decide | omega)]; exact k5'
          · rw [vv 6 _ (by unfold Qk; first | decide | omega) (by first | decide | omega) (by first | decide | omega) (by first | decide | omega) (by first | decide | omega)]; exact k6
          · rw [g8 7 _ (by unfold Qk; first | decide | omega), g7 7 _ (by unfold Qk; first | decide | omega), g6 7 _ (by unfold Qk; first | decide | omega)]; exact w7
          · rw [g8 8 _ (by unfold Qk; first | decide | omega), g7 8 _ (by unfold Qk; first | decide | omega)]; exact w8
          · rw [g8 9 _ (by unfold Qk; first | decide | omega)]; exact w9
        · rw [b1, b2, bs1, bs1]
          unfold G5_readSurfer_122 G5_readSurfer_139 G5_readSurfer_157 G5_readSurfer_176 G5_readSurfer_195
          simp only [if_true, bs1, r197]
          exact lo_fltx ⟨m', v', f'.mono Pk_x, k24.tr (g'.mono Qc_x), q', rfl, rfl, b3⟩
        · have e10' : m4 46 10 = (D : Int) := by rw [b2 46 10 (by unfold Pk; first | decide | omega)]; exact e10
          have e1D : m4 D 1 = m3 D 1 := b2 D 1 (by unfold Pk; first | decide | omega)
          rw [b1, b4, bs1, bs1]
          simp only [if_true, bs1, r197]
          rw [if_neg (show ¬ x = -1 by first | decide | omega), e10', Int.toNat_natCast, e1D, gd3_t (by first | decide | omega), b3, bs1]
          unfold G5_readSurfer_122 G5_readSurfer_139 G5_readSurfer_157 G5_readSurfer_176 G5_readSurfer_195
          simp only [if_true]
          exact lo_fltx ⟨m', v', f'.mono Pk_x, k24.tr (g'.mono Qc_x), q', rfl, rfl, b5⟩
      · rw [q1, q2, bs1, bs1]
        dsimp only
        rw [if_neg i10, if_neg (show ¬ r < 0 by first | decide | omega), c_ref, bs1, r_wrong, bs1, gdb_t (by first | decide | omega), gdb_t (by first | decide | omega), bs1]
        dsimp only
        rw [r197]
        exact lo_ref h3 3 rfl rfl
    · have hk2 : ¬ v2 0 8 = 2 := by unfold KR SGN NumR at hk; omega
      rw [if_neg c1, if_neg hk2, c_ref, bs1, r_wrong, bs1, gdb_t (by first | decide | omega), gdb_t (by first | decide | omega), bs1]
      dsimp only
      rw [r197]
      exact lo_ref h3 1 rfl rfl
  · rw [if_neg c0, if_pos (show n = 5 by first | decide | omega), c_ref, bs1, r_wrong, bs1, gdb_t (by first | decide | omega), gdb_t (by first | decide | omega), bs1]
    dsimp only
    rw [r197]
    exact lo_ref h 2 rfl rfl
end Q28
