section Q26
variable {m v : Mem} {S : Int} {D : Nat}
theorem l_peak (hD : DI m v D) (h : PostR m v S) (hk : m 47 4 = 1) : LOut (G5_readPeak m) ((G12_onceLine v).bind fun o => G12_lineRead_197 o.2 o.1) m v D S := by
  have hDD := hD.1.1
  have hc : crp 1 1 := by unfold crp; omega
  have hon := onc_at hD.2.2.2.2.1 hc
  have hkr := h.2.2.2.2.2.2.2
  have e9 : v 0 9 = 1 := by
    rw [hk] at hkr
    have ek : kwf 1 = 1 := by decide
    unfold KR SGN NumR at hkr
    rw [ek] at hkr
    omega
  unfold G5_readPeak G5_readPeak_0 G12_onceLine G12_onceLine_0
  rw [if_pos e9, c_first]
  by_cases c1 : tb (m 46 6) 1 = 0
  · obtain ⟨hD1, h1⟩ := first_on hD h hc
    have c1v := hon.mp c1
    rw [if_pos c1, bs1]
    unfold G12_onceLine_37
    rw [gdx_t (by first | decide | omega), if_pos c1v, gdx_t (by first | decide | omega), gdb_t (by first | decide | omega)]
    simp only [wt_e, if_neg (show ¬ (1 : Int) = 2 by first | decide | omega), if_neg i10, if_true]
    obtain ⟨v2, z1, z2, p2⟩ := h1.tok
    have hD2 := hD1.k Fm.rf (z2.mono Q7_k)
    rw [z1, bs1]
    have fm : Fm (PX D) m (up m 46 6 (b3or (m 46 6) (b3sl 1 (b3an 1 31)))) := Fm.w1 (by unfold PX; first | decide | omega)
    have fv : Fm QX v (up v 3 1 1) := Fm.w1 (by unfold QX; first | decide | omega)
    refine lo_tr (m1 := up m 46 6 (b3or (m 46 6) (b3sl 1 (b3an 1 31)))) (v1 := v2) ?_ fm (fv.tr ((z2.mono Q7_k).mono Qk_x)) (by rw [up_a (by first | decide | omega)]; first | decide | omega) (by rw [up_a (by first | decide | omega)])
    generalize up m 46 6 (b3or (m 46 6) (b3sl 1 (b3an 1 31))) = m1 at hD1 h1 fm p2 hD2 ⊢
    -- cells are told from here on
    have e10 : up m1 46 7 1 46 10 = (D : Int) := by rw [up_i (by first | decide | omega)]; exact hD1.1.2
    have eD : ∀ i, up m1 46 7 1 D i = m1 D i := fun i => up_a (by first | decide | omega)
    have fm7 : Fm (Pf D) m1 (up m1 46 7 1) := Fm.w1 (by unfold Pf; first | decide | omega)
    have hw := hD2.ws.2
    have hDm : DI (up m1 46 7 1) (up v2 0 24 1) D := by
      refine (di_flds (x7 := 1) hD2 fm7 (Fm.w1 (by unfold Qf; first | decide | omega)) ⟨up_e, up_e, Or.inr rfl⟩ (fun q => by first | decide | omega) ?_ (fun i p q => ?_) ?_ ?_).1
      · rw [sl_out (by first | decide | omega)]; exact hD2.ws.1
      · have := (hD2.2.1.2.1 i p q).1.2
        rw [sl_e (by first | decide | omega), sl_e (by first | decide | omega)] at this
        rw [eD, eD]; exact this
      · rw [eD, eD, up_i (by first | decide | omega), up_i (by first | decide | omega)]; exact hD2.n.1
      · rw [eD, eD, eD, eD, eD, eD, eD, up_a (by first | decide | omega), up_a (by first | decide | omega), up_a (by first | decide | omega), up_a (by first | decide | omega), up_a (by first | decide | omega), up_a (by first | decide | omega), up_a (by first | decide | omega)]; exact hD2.n.2.1
    have p3 : PreR (up m1 46 7 1) v2 S := p2.f (P := fun b i => b = 46 ∧ i = 7) (Q := fun _ _ => False) (Fm.w1 ⟨rfl, rfl⟩) Fm.rf (by intro b i q; first | decide | omega) (fun b i _ => id)
    -- the cell, on both sides
    have e18 : m1 D 0 = v2 0 18 := hD2.n.1.1.symm
    have e19 : m1 D 1 = v2 0 19 := hD2.n.1.2.symm
    have hDc : DI (up m1 46 7 1) v2 D ∨ True := Or.inr trivial
    rw [e10, Int.toNat_natCast, eD, gd3_t (by first | decide | omega)]
    -- reading it needs only the sizes
    obtain ⟨m', v', f', g', q', k24, k⟩ : ∃ m' v', Fm Pk (up m1 46 7 1) m' ∧ Fm Qc v2 v' ∧ (up m1 46 7 1) 47 3 ≤ m' 47 3 ∧ v' 0 24 = 1 ∧ ((∃ x y m2, (0 ≤ x ∧ x < m1 D 0) ∧ (0 ≤ y ∧ y < m1 D 1) ∧ G5_numberIn (up m1 46 7 1) 0 (m1 D 0 - 1) = some (x, m2) ∧ Fm Pk (up m1 46 7 1) m2 ∧ G5_numberIn m2 0 (m1 D 1 - 1) = some (y, m') ∧ G12_cellRead v2 = some (1, v') ∧ v' 0 43 = x ∧ v' 0 11 = y ∧ PreR m' v' S) ∨ (G5_numberIn (up m1 46 7 1) 0 (m1 D 0 - 1) = some (-1, m') ∧ G12_cellRead v2 = some (0, v') ∧ FLT m' v') ∨ (∃ x m2, 0 ≤ x ∧ G5_numberIn (up m1 46 7 1) 0 (m1 D 0 - 1) = some (x, m2) ∧ Fm Pk (up m1 46 7 1) m2 ∧ G5_numberIn m2 0 (m1 D 1 - 1) = some (-1, m') ∧ G12_cellRead v2 = some (0, v') ∧ FLT m' v')) := by
      have p3' : PreR (up m1 46 7 1) (up v2 0 24 1) S := p3.f (P := fun _ _ => False) (Q := fun b i => b = 0 ∧ i = 24) Fm.rf (Fm.w1 ⟨rfl, rfl⟩) (fun b i _ => id) (by intro b i q; first | decide | omega)
      have ec : G12_cellRead v2 = G12_cellRead (up v2 0 24 1) := by
        have eu : up (up v2 0 24 1) 0 24 1 = up v2 0 24 1 := by
          funext b i
          by_cases c : b = 0 ∧ i = 24
          · rw [c.1, c.2, up_e, up_e]
          · unfold up; rw [if_neg c]
        unfold G12_cellRead G12_cellRead_0
        rw [wt_e, wt_e, eu]
      obtain ⟨m', v', f', g', q', k24, k⟩ := n_cell hDm p3'
      rw [ec]
      rw [eD, eD] at k
      exact ⟨m', v', f', (Fm.w1 (by unfold Qc; first | decide | omega)).tr g', q', k24, k⟩
    have fmx : Fm (PX D) m1 (up m1 46 7 1) := Fm.w1 (by unfold PX; first | decide | omega)
    have q0 : up m1 46 7 1 47 3 = m1 47 3 := up_a (by first | decide | omega)
    rcases k with ⟨x, y, m2, x1, y1, a1, a2, a3, a4, a5, a6, a7⟩ | ⟨a1, a2, a3⟩ | ⟨x, m2, x1, a1, a2, a3, a4, a5⟩
    · have e10' : m2 46 10 = (D : Int) := by rw [a2 46 10 (by unfold Pk; first | decide | omega)]; exact e10
      have e1D : m2 D 1 = m1 D 1 := by rw [a2 D 1 (by unfold Pk; first | decide | omega), eD]
      rw [a1, a4, bs1, bs1]
      simp only [if_neg i10]
      rw [if_neg (show ¬ x = -1 by first | decide | omega), e10', Int.toNat_natCast, e1D, gd3_t (by first | decide | omega), a3, bs1, bs1, a5]
      unfold G5_readPeak_53
      have e10m : m' 46 10 = (D : Int) := by rw [f' 46 10 (by unfold Pk; first | decide | omega)]; exact e10
      have e10n : up m' D 2 x 46 10 = (D : Int) := by rw [up_a (by first | decide | omega)]; exact e10m
      simp only
      rw [if_neg (show ¬ y = -1 by first | decide | omega), e10m, Int.toNat_natCast, wt_e, e10n, Int.toNat_natCast, wt_e]
      have n2 : up (up m' D 2 x) D 3 y D 2 = x := by rw [up_i (by first | decide | omega), up_e]
      have n3 : up (up m' D 2 x) D 3 y D 3 = y := up_e
      have nr : ∀ i, i ≠ 2 → i ≠ 3 → up (up m' D 2 x) D 3 y D i = m1 D i := fun i a b => by rw [up_i b, up_i a, f' D i (by unfold Pk; first | decide | omega), eD]
      have g11 : up v' 4 7 x 0 11 = y := by rw [up_a (by first | decide | omega)]; exact a6
      rw [g11]
      have w4 : ∀ i, i ≠ 7 → i ≠ 8 → up (up v' 4 7 x) 4 8 y 4 i = v2 4 i := fun i a b => by rw [up_i b, up_i a, g' 4 i (by unfold Qc Qk; first | decide | omega)]
      have w7 : up (up v' 4 7 x) 4 8 y 4 7 = x := by rw [up_i (by first | decide | omega), up_e]
      have w0 : ∀ i, i ≠ 24 → i ≠ 43 → ¬ Qk 0 i → up (up v' 4 7 x) 4 8 y 0 i = v2 0 i := fun i a b c => by rw [up_a (by first | decide | omega), up_a (by first | decide | omega), g' 0 i (fun q => by rcases q with q | q; exact c q; first | decide | omega)]
      have s0 : ∀ i, sl 21 (up (up m' D 2 x) D 3 y) D 0 i = up (up m' D 2 x) D 3 y D i := fun i => sl_e (Nat.zero_le _) i
      have s1 : ∀ i, sl 21 m1 D 0 i = m1 D i := fun i => sl_e (Nat.zero_le _) i
      have sr : ∀ (c : Nat) i, 1 ≤ c → c ≤ 21 → sl 21 (up (up m' D 2 x) D 3 y) D c i = sl 21 m1 D c i := fun c i a b => by rw [sl_e b, sl_e b, up_a (by first | decide | omega), up_a (by first | decide | omega), f' (D + c) i (by unfold Pk; first | decide | omega), up_a (by first | decide | omega)]
      have o2 := hD2.ws.1
      have hws : WS (sl 21 (up (up m' D 2 x) D 3 y) D) := by
        unfold WS at o2 ⊢
        rw [s0, s0, s0, s0, s0, s0, s0, s0, s0, s0, sr 1 0 (by first | decide | omega) (by first | decide | omega), sr 8 0 (by first | decide | omega) (by first | decide | omega), sr 8 1 (by first | decide | omega) (by first | decide | omega), n2, n3, nr 0 (by first | decide | omega) (by first | decide | omega), nr 1 (by first | decide | omega) (by first | decide | omega), nr 6 (by first | decide | omega) (by first | decide | omega), nr 7 (by first | decide | omega) (by first | decide | omega), nr 8 (by first | decide | omega) (by first | decide | omega), nr 9 (by first | decide | omega) (by first | decide | omega), nr 10 (by first | decide | omega) (by first | decide | omega), nr 13 (by first | decide | omega) (by first | decide | omega)]
        rw [s1, s1, s1, s1, s1, s1, s1, s1, s1, s1] at o2
        omega
      have o1 := hD2.n
      have fm5 : Fm (Pf D) m1 (up (up m' D 2 x) D 3 y) := ((fm7.tr (f'.mono Pk_f)).w (by unfold Pf; first | decide | omega)).w (by unfold Pf; first | decide | omega)
      have fv5 : Fm Qf v2 (up (up v' 4 7 x) 4 8 y) := ((g'.mono (by intro b i q; unfold Qc Qk at q; unfold Qf Qk; first | decide | omega)).w (by unfold Qf; first | decide | omega)).w (by unfold Qf; first | decide | omega)
      obtain ⟨hD5, _⟩ := di_flds (x7 := 1) hD2 fm5 fv5 ⟨by rw [up_a (by first | decide | omega), up_a (by first | decide | omega), f' 46 7 (by unfold Pk; first | decide | omega), up_e], by rw [up_a (by first | decide | omega), up_a (by first | decide | omega)]; exact k24, Or.inr rfl⟩ (fun q => by first | decide | omega) hws (fun i p q => by
        have := (hD2.2.1.2.1 i p q).1.2
        rw [sl_e (by first | decide | omega), sl_e (by first | decide | omega)] at this
        rw [nr 0 (by first | decide | omega) (by first | decide | omega), nr 1 (by first | decide | omega) (by first | decide | omega)]; exact this) ⟨by rw [w0 18 (by first | decide | omega) (by first | decide | omega) (by unfold Qk; first | decide | omega), nr 0 (by first | decide | omega) (by first | decide | omega)]; exact o1.1.1, by rw [w0 19 (by first | decide | omega) (by first | decide | omega) (by unfold Qk; first | decide | omega), nr 1 (by first | decide | omega) (by first | decide | omega)]; exact o1.1.2⟩ (by rw [w7, up_e, n2, n3, w4 9 (by first | decide | omega) (by first | decide | omega), w4 10 (by first | decide | omega) (by first | decide | omega), w4 11 (by first | decide | omega) (by first | decide | omega), w4 12 (by first | decide | omega) (by first | decide | omega), w4 13 (by first | decide | omega) (by first | decide | omega), nr 6 (by first | decide | omega) (by first | decide | omega), nr 7 (by first | decide | omega) (by first | decide | omega), nr 8 (by first | decide | omega) (by first | decide | omega), nr 9 (by first | decide | omega) (by first | decide | omega), nr 10 (by first | decide | omega) (by first | decide | omega)]; exact ⟨rfl, rfl, o1.2.1.2.2⟩)
      have p5 : PreR (up (up m' D 2 x) D 3 y) (up (up v' 4 7 x) 4 8 y) S := a7.f (P := fun b i => b = D) (Q := fun b i => b = 4) ((Fm.w1 rfl).w rfl) ((Fm.w1 rfl).w rfl) (by intro b i q; first | decide | omega) (by intro b i q; first | decide | omega)
      exact lo_tr (lo_stop hD5 p5) (((fmx.tr (f'.mono Pk_x)).w (by unfold PX; first | decide | omega)).w (by unfold PX; first | decide | omega)) (((g'.mono Qc_x).w (by unfold QX; first | decide | omega)).w (by unfold QX; first | decide | omega)) (by rw [up_a (by first | decide | omega), up_a (by first | decide | omega)]; first | decide | omega) (nr 12 (by first | decide | omega) (by first | decide | omega))
    · rw [a1, a2, bs1, bs1]
      unfold G5_readPeak_53
      simp only [if_true, bs1, r197]
      exact lo_fltx ⟨m', v', fmx.tr (f'.mono Pk_x), g'.mono Qc_x, by first | decide | omega, rfl, rfl, a3⟩
    · have e10' : m2 46 10 = (D : Int) := by rw [a2 46 10 (by unfold Pk; first | decide | omega)]; exact e10
      have e1D : m2 D 1 = m1 D 1 := by rw [a2 D 1 (by unfold Pk; first | decide | omega), eD]
      rw [a1, a4, bs1, bs1]
      simp only [if_true, bs1, r197]
      rw [if_neg (show ¬ x = -1 by first | decide | omega), e10', Int.toNat_natCast, e1D, gd3_t (by first | decide | omega), a3, bs1]
      unfold G5_readPeak_53
      simp only [if_true]
      exact lo_fltx ⟨m', v', fmx.tr (f'.mono Pk_x), g'.mono Qc_x, by first | decide | omega, rfl, rfl, a5⟩
  · rw [if_neg c1, bs1, onc37 h (by first | decide | omega) (fun q => c1 (hon.mpr q))]
    simp only [if_true]
    exact lo_ref h 3 rfl rfl
end Q26
/-! The lines bank, rule, seed on both sides. -/
section Q27
variable {m v : Mem} {S : Int} {D : Nat}
end Q27
