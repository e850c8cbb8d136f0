/-! The lines sea, peak, bank, rule, seed on both sides. -/
section Q26
variable {m v : Mem} {S : Int} {D : Nat}
theorem nofr (b : Nat) (i : Int) : ¬ (fun (_ : Nat) (_ : Int) => False) b i := id
theorem l_sea (hD : DI m v D) (h : PostR m v S) : LOut (G5_readSea m) ((G12_seaLine v).bind fun o => G12_lineRead_197 o.2 o.1) m v D S := by
  have hDD := hD.1.1
  have hc : crp 0 0 := by unfold crp; omega
  have hon := onc_at hD.2.2.2.2.1 hc
  have hct := hD.2.2.2.1
  unfold G5_readSea G5_readSea_0 G12_seaLine G12_seaLine_0
  rw [c_first]
  by_cases c1 : tb (m 46 6) 0 = 0
  · obtain ⟨hD1, h1⟩ := first_on hD h hc
    rw [if_pos c1, bs1, if_pos (hon.mp c1)]
    simp only [if_neg i10]
    have e7 : up m 46 6 (b3or (m 46 6) (b3sl 1 (b3an 0 31))) 46 7 = m 46 7 := up_i (by omega)
    rw [e7, hct.2.1]
    by_cases c2 : m 46 7 = 0
    · rw [if_pos c2, if_pos c2, gdb_t (by omega), wt_e]
      have fm : Fm (PX D) m (up m 46 6 (b3or (m 46 6) (b3sl 1 (b3an 0 31)))) := Fm.w1 (by unfold PX; omega)
      have fv : Fm QX v (up v 3 0 1) := Fm.w1 (by unfold QX; omega)
      obtain ⟨v2, z1, z2, p2⟩ := h1.tok
      have hD2 := hD1.k Fm.rf (z2.mono Q7_k)
      refine lo_tr (m1 := up m 46 6 (b3or (m 46 6) (b3sl 1 (b3an 0 31)))) (v1 := v2) ?_ fm (fv.tr ((z2.mono Q7_k).mono Qk_x)) (by rw [up_a (by omega)]; omega) (by rw [up_a (by omega)])
      rw [z1, bs1]
      have e7' := e7
      have hz0 : sl 21 (up m 46 6 (b3or (m 46 6) (b3sl 1 (b3an 0 31)))) D 1 0 = 0 ∧ (up m 46 6 (b3or (m 46 6) (b3sl 1 (b3an 0 31)))) D 2 = 0 ∧ (up m 46 6 (b3or (m 46 6) (b3sl 1 (b3an 0 31)))) D 3 = 0 := by
        have := hct.2.2 c2
        rw [sl_e (by omega), up_a (by omega), up_a (by omega), up_a (by omega)]
        rw [sl_e (by omega), sl_e (by omega), sl_e (by omega)] at this
        exact this
      generalize up m 46 6 (b3or (m 46 6) (b3sl 1 (b3an 0 31))) = m1 at hD1 h1 fm p2 hD2 e7' hz0 ⊢
      obtain ⟨m3, v3, f3, g3, q3, k3⟩ := n_in p2 (lo := 1) (hi := 8) (by omega)
      rcases k3 with ⟨x, x1, x2, e1, e2, e3, p3, _⟩ | ⟨e1, e2, e3⟩
      · rw [e1, e2, bs1, bs1]
        simp only [if_neg i10]
        rw [if_neg (show ¬ x = -1 by omega), wt_e, e3]
        have gq : Fm (fun b i => b = 0 ∧ i = 18) v3 (up v3 0 18 x) := Fm.w1 ⟨rfl, rfl⟩
        have p3' : PreR m3 (up v3 0 18 x) S := p3.f (P := fun _ _ => False) Fm.rf gq (fun b i _ => id) (by intro b i q; omega)
        refine lo_tr (m1 := m3) (v1 := up v3 0 18 x) ?_ (f3.mono Pk_x) ((g3.mono Qk_x).tr (gq.mono (by intro b i q; unfold QX; omega))) q3 (f3 D 12 (by unfold Pk; omega))
        obtain ⟨m4, v4, f4, g4, q4, k4⟩ := n_in p3' (lo := 1) (hi := 6) (by omega)
        rcases k4 with ⟨y, y1, y2, e4, e5, e6, p4, _⟩ | ⟨e4, e5, e6⟩
        · rw [e4, e5, bs1, bs1]
          simp only [if_neg i10]
          unfold G5_readSea_47
          have e10 : m4 46 10 = (D : Int) := by rw [f4 46 10 (by unfold Pk; omega), f3 46 10 (by unfold Pk; omega)]; exact hD1.1.2
          have e10' : up m4 D 0 x 46 10 = (D : Int) := by rw [up_a (by omega)]; exact e10
          rw [if_neg (show ¬ y = -1 by omega), e10, Int.toNat_natCast, wt_e, e10', Int.toNat_natCast, wt_e, wt_e, bs1, e6]
          have fm5 : Fm (Pf D) m1 (up (up m4 D 0 x) D 1 y) := (((f3.tr f4).mono Pk_f).w (by unfold Pf; omega)).w (by unfold Pf; omega)
          have fv5 : Fm Qf v2 (up v4 0 19 y) := (((g3.mono Qk_f).tr (gq.mono (by intro b i q; unfold Qf; omega))).tr (g4.mono Qk_f)).w (by unfold Qf; omega)
          have n0 : up (up m4 D 0 x) D 1 y D 0 = x := by rw [up_i (by omega), up_e]
          have n1 : up (up m4 D 0 x) D 1 y D 1 = y := up_e
          have nr : ∀ i, i ≠ 0 → i ≠ 1 → up (up m4 D 0 x) D 1 y D i = m1 D i := fun i a b => by rw [up_i b, up_i a, f4 D i (by unfold Pk; omega), f3 D i (by unfold Pk; omega)]
          have o1 := hD2.n
          have o2 := hD2.ws.1
          have w18 : up v4 0 19 y 0 18 = x := by rw [up_i (by omega), g4 0 18 (by unfold Qk; omega), up_e]
          have w4 : ∀ i, up v4 0 19 y 4 i = v2 4 i := fun i => by rw [up_a (by omega), g4 4 i (by unfold Qk; omega), up_a (by omega), g3 4 i (by unfold Qk; omega)]
          have s0 : ∀ i, sl 21 (up (up m4 D 0 x) D 1 y) D 0 i = up (up m4 D 0 x) D 1 y D i := fun i => sl_e (Nat.zero_le _) i
          have s1 : ∀ i, sl 21 m1 D 0 i = m1 D i := fun i => sl_e (Nat.zero_le _) i
          have sr : ∀ (c : Nat) i, 1 ≤ c → c ≤ 21 → sl 21 (up (up m4 D 0 x) D 1 y) D c i = sl 21 m1 D c i := fun c i a b => by rw [sl_e b, sl_e b, up_a (by omega), up_a (by omega), f4 (D + c) i (by unfold Pk; omega), f3 (D + c) i (by unfold Pk; omega)]
          have hws : WS (sl 21 (up (up m4 D 0 x) D 1 y) D) := by
            unfold WS at o2 ⊢
            rw [s0, s0, s0, s0, s0, s0, s0, s0, s0, s0, sr 1 0 (by omega) (by omega), sr 8 0 (by omega) (by omega), sr 8 1 (by omega) (by omega), n0, n1, nr 2 (by omega) (by omega), nr 3 (by omega) (by omega), nr 6 (by omega) (by omega), nr 7 (by omega) (by omega), nr 8 (by omega) (by omega), nr 9 (by omega) (by omega), nr 10 (by omega) (by omega), nr 13 (by omega) (by omega)]
            rw [s1, s1, s1, s1, s1, s1, s1, s1, s1, s1] at o2
            omega
          obtain ⟨hD5, _⟩ := di_flds (x7 := 0) hD2 fm5 fv5 ⟨by rw [up_a (by omega), up_a (by omega), f4 46 7 (by unfold Pk; omega), f3 46 7 (by unfold Pk; omega)]; omega, by rw [up_i (by omega), g4 0 24 (by unfold Qk; omega), up_i (by omega), g3 0 24 (by unfold Qk; omega), hD2.2.2.2.1.2.1]; omega, Or.inl rfl⟩ (fun _ => ⟨hz0.1, by rw [nr 2 (by omega) (by omega)]; exact hz0.2.1, by rw [nr 3 (by omega) (by omega)]; exact hz0.2.2⟩) hws (fun i p q => by rw [hz0.1] at q; omega) ⟨by rw [w18, n0], by rw [up_e, n1]⟩ (by rw [w4, w4, w4, w4, w4, w4, w4, nr 2 (by omega) (by omega), nr 3 (by omega) (by omega), nr 6 (by omega) (by omega), nr 7 (by omega) (by omega), nr 8 (by omega) (by omega), nr 9 (by omega) (by omega), nr 10 (by omega) (by omega)]; exact o1.2.1)
          have p5 : PreR (up (up m4 D 0 x) D 1 y) (up v4 0 19 y) S := p4.f (P := fun b i => b = D) (Q := fun b i => b = 0 ∧ i = 19) ((Fm.w1 rfl).w rfl) (Fm.w1 ⟨rfl, rfl⟩) (by intro b i q; omega) (by intro b i q; omega)
          refine lo_tr (lo_stop hD5 p5) ((f4.mono Pk_x).tr ((Fm.w1 (by unfold PX; omega)).w (by unfold PX; omega))) ((g4.mono Qk_x).tr (Fm.w1 (by unfold QX; omega))) (by rw [up_a (by omega), up_a (by omega)]; exact q4) (by rw [up_i (by omega), up_i (by omega), f4 D 12 (by unfold Pk; omega)])
        · rw [e4, e5, bs1, bs1]
          unfold G5_readSea_47
          simp only [if_true, bs1, r197]
          exact lo_flt ⟨m4, v4, f4, g4, q4, rfl, rfl, e6⟩
      · rw [e1, e2, bs1, bs1]
        unfold G5_readSea_47
        simp only [if_true, bs1, r197]
        exact lo_flt ⟨m3, v3, f3, g3, q3, rfl, rfl, e3⟩
    · rw [if_neg c2, if_neg c2, c_ref, bs1, r_wrong, bs1, gdb_t (by omega), gdb_t (by omega), bs1]
      simp only
      rw [r197]
      have fm : Fm (PX D) m (up m 46 6 (b3or (m 46 6) (b3sl 1 (b3an 0 31)))) := Fm.w1 (by unfold PX; omega)
      have h1' : PostR (up m 46 6 (b3or (m 46 6) (b3sl 1 (b3an 0 31)))) v S := h.f (P := fun b i => b = 46 ∧ i = 6) (Q := fun _ _ => False) (Fm.w1 ⟨rfl, rfl⟩) Fm.rf (by intro b i q; omega) (fun b i _ => id)
      refine lo_tr (m1 := up m 46 6 (b3or (m 46 6) (b3sl 1 (b3an 0 31)))) (v1 := v) ?_ fm Fm.rf (by rw [up_a (by omega)]; omega) (by rw [up_a (by omega)])
      exact lo_ref h1' 4 rfl rfl
  · rw [if_neg c1, bs1, if_neg (fun q => c1 (hon.mpr q))]
    simp only [if_true]
    rw [r_wrong, bs1, gdb_t (by omega), bs1]
    simp only
    rw [r197]
    exact lo_ref h 3 rfl rfl
/-- a cell is asked for -/
def Qc : Nat → Int → Prop := fun b i => Qk b i ∨ (b = 0 ∧ (i = 24 ∨ i = 43))
theorem n_cellw (hn : v 0 18 = m D 0 ∧ v 0 19 = m D 1) (hw : (1 ≤ m D 0 ∧ m D 0 ≤ 8) ∧ (1 ≤ m D 1 ∧ m D 1 ≤ 6)) (p : PreR m v S) : ∃ m' v', Fm Pk m m' ∧ Fm Qc v v' ∧ m 47 3 ≤ m' 47 3 ∧ v' 0 24 = 1 ∧ ((∃ x y m1, (0 ≤ x ∧ x < m D 0) ∧ (0 ≤ y ∧ y < m D 1) ∧ G5_numberIn m 0 (m D 0 - 1) = some (x, m1) ∧ Fm Pk m m1 ∧ G5_numberIn m1 0 (m D 1 - 1) = some (y, m') ∧ G12_cellRead v = some (1, v') ∧ v' 0 43 = x ∧ v' 0 11 = y ∧ PreR m' v' S) ∨ (G5_numberIn m 0 (m D 0 - 1) = some (-1, m') ∧ G12_cellRead v = some (0, v') ∧ FLT m' v') ∨ (∃ x m1, 0 ≤ x ∧ G5_numberIn m 0 (m D 0 - 1) = some (x, m1) ∧ Fm Pk m m1 ∧ G5_numberIn m1 0 (m D 1 - 1) = some (-1, m') ∧ G12_cellRead v = some (0, v') ∧ FLT m' v')) := by
  unfold G12_cellRead G12_cellRead_0
  rw [wt_e]
  have g1 : Fm Qc v (up v 0 24 1) := Fm.w1 (by unfold Qc; omega)
  have e18 : up v 0 24 1 0 18 = m D 0 := by rw [up_i (by omega)]; exact hn.1
  have e19 : up v 0 24 1 0 19 = m D 1 := by rw [up_i (by omega)]; exact hn.2
  have e24 : up v 0 24 1 0 24 = 1 := up_e
  have p1 : PreR m (up v 0 24 1) S := p.f (P := fun _ _ => False) (Q := fun b i => b = 0 ∧ i = 24) Fm.rf (Fm.w1 ⟨rfl, rfl⟩) (fun b i _ => id) (by intro b i q; omega)
  generalize up v 0 24 1 = v1 at g1 e18 e19 e24 p1 ⊢
  rw [e18, gd3_t (by omega)]
  obtain ⟨m2, v2, f2, g2, q2, k2⟩ := n_in p1 (lo := 0) (hi := m D 0 - 1) (by omega)
  rcases k2 with ⟨x, x1, x2, a1, a2, a3, a4, _⟩ | ⟨a1, a2, a3⟩
  · rw [a2, bs1]
    simp only [if_neg i10]
    rw [wt_e, a3]
    have e19' : up v2 0 43 x 0 19 = m D 1 := by rw [up_i (by omega), g2 0 19 (by unfold Qk; omega)]; exact e19
    rw [e19', gd3_t (by omega)]
    have p2 : PreR m2 (up v2 0 43 x) S := a4.f (P := fun _ _ => False) (Q := fun b i => b = 0 ∧ i = 43) Fm.rf (Fm.w1 ⟨rfl, rfl⟩) (fun b i _ => id) (by intro b i q; omega)
    have e24' : up v2 0 43 x 0 24 = 1 := by rw [up_i (by omega), g2 0 24 (by unfold Qk; omega)]; exact e24
    have g3 : Fm Qc v (up v2 0 43 x) := (g1.tr (g2.mono (fun b i q => Or.inl q))).w (by unfold Qc; omega)
    have e43 : up v2 0 43 x 0 43 = x := up_e
    obtain ⟨m3, v3, f3, g4, q3, k3⟩ := n_in p2 (lo := 0) (hi := m D 1 - 1) (by omega)
    rcases k3 with ⟨y, y1, y2, b1, b2, b3, b4, _⟩ | ⟨b1, b2, b3⟩
    · rw [b2, bs1]
      simp only [if_neg i10]
      exact ⟨m3, v3, f2.tr f3, g3.tr (g4.mono (fun b i q => Or.inl q)), by omega, by rw [g4 0 24 (by unfold Qk; omega)]; exact e24', Or.inl ⟨x, y, m2, ⟨x1, by omega⟩, ⟨y1, by omega⟩, a1, f2, b1, rfl, by rw [g4 0 43 (by unfold Qk; omega)]; exact e43, b3, b4⟩⟩
    · rw [b2, bs1]
      simp only [if_true]
      exact ⟨m3, v3, f2.tr f3, g3.tr (g4.mono (fun b i q => Or.inl q)), by omega, by rw [g4 0 24 (by unfold Qk; omega)]; exact e24', Or.inr (Or.inr ⟨x, m2, x1, a1, f2, b1, rfl, b3⟩)⟩
  · rw [a2, bs1]
    simp only [if_true]
    exact ⟨m2, v2, f2, g1.tr (g2.mono (fun b i q => Or.inl q)), q2, by rw [g2 0 24 (by unfold Qk; omega)]; exact e24, Or.inr (Or.inl ⟨a1, rfl, a3⟩)⟩
theorem n_cell (hD : DI m v D) (p : PreR m v S) : ∃ m' v', Fm Pk m m' ∧ Fm Qc v v' ∧ m 47 3 ≤ m' 47 3 ∧ v' 0 24 = 1 ∧ ((∃ x y m1, (0 ≤ x ∧ x < m D 0) ∧ (0 ≤ y ∧ y < m D 1) ∧ G5_numberIn m 0 (m D 0 - 1) = some (x, m1) ∧ Fm Pk m m1 ∧ G5_numberIn m1 0 (m D 1 - 1) = some (y, m') ∧ G12_cellRead v = some (1, v') ∧ v' 0 43 = x ∧ v' 0 11 = y ∧ PreR m' v' S) ∨ (G5_numberIn m 0 (m D 0 - 1) = some (-1, m') ∧ G12_cellRead v = some (0, v') ∧ FLT m' v') ∨ (∃ x m1, 0 ≤ x ∧ G5_numberIn m 0 (m D 0 - 1) = some (x, m1) ∧ Fm Pk m m1 ∧ G5_numberIn m1 0 (m D 1 - 1) = some (-1, m') ∧ G12_cellRead v = some (0, v') ∧ FLT m' v')) := n_cellw hD.n.1 hD.ws.2 p
theorem Qc_x : ∀ b i, Qc b i → QX b i := by intro b i h; unfold Qc Qk at h; unfold QX; omega
/-- a line ends with a fault, the draft having been touched -/
theorem lo_fltx {X Y : Option (Int × Mem)} (h : ∃ m' v', Fm (PX D) m m' ∧ Fm QX v v' ∧ m 47 3 ≤ m' 47 3 ∧ X = some (0, m') ∧ Y = some (0, v') ∧ FLT m' v') : LOut X Y m v D S := by
  obtain ⟨m', v', f, g, p, e1, e2, e3⟩ := h
  exact ⟨m', v', f, g, p, Or.inr ⟨e1, e2, e3⟩⟩
/-- the word of a line that comes once was told already -/
theorem onc37 (h : PostR m v S) {r : Int} (hr : 0 ≤ r ∧ r < 5) (c : ¬ v 3 r = 0) : ((G12_onceLine_37 v r).bind fun o => G12_lineRead_197 o.2 o.1) = some (0, up (up v 0 4 3) 0 5 (v 0 10)) := by
  unfold G12_onceLine_37
  rw [gdx_t hr, if_neg c, r_wrong, bs1, gdb_t (by omega), bs1]
  exact r197 _
theorem l_peak (hD : DI m v D) (h : PostR m v S) (hk : m 47 4 = 1) : LOut (G5_readPeak m) ((G12_onceLine v).bind fun o => G12_lineRead_197 o.2 o.1) m v D S := by
  have hDD := hD.1.1
  have hc : crp 1 1 := by unfold crp; omega
  have hon := onc_at hD.2.2.2.2.1 hc
  have hkr := h.2.2.2.2.2.2.2
  have e9 : v 0 9 = 1 := by
    rw [hk] at hkr
    have ek : kwf 1 = 1 := by decide
    unfold KR SGN NumR at hkr
    rw [ek] at hkr
    omega
  unfold G5_readPeak G5_readPeak_0 G12_onceLine G12_onceLine_0
  rw [if_pos e9, c_first]
  by_cases c1 : tb (m 46 6) 1 = 0
  · obtain ⟨hD1, h1⟩ := first_on hD h hc
    have c1v := hon.mp c1
    rw [if_pos c1, bs1]
    unfold G12_onceLine_37
    rw [gdx_t (by omega), if_pos c1v, gdx_t (by omega), gdb_t (by omega)]
    simp only [wt_e, if_neg (show ¬ (1 : Int) = 2 by omega), if_neg i10, if_true]
    obtain ⟨v2, z1, z2, p2⟩ := h1.tok
    have hD2 := hD1.k Fm.rf (z2.mono Q7_k)
    rw [z1, bs1]
    have fm : Fm (PX D) m (up m 46 6 (b3or (m 46 6) (b3sl 1 (b3an 1 31)))) := Fm.w1 (by unfold PX; omega)
    have fv : Fm QX v (up v 3 1 1) := Fm.w1 (by unfold QX; omega)
    refine lo_tr (m1 := up m 46 6 (b3or (m 46 6) (b3sl 1 (b3an 1 31)))) (v1 := v2) ?_ fm (fv.tr ((z2.mono Q7_k).mono Qk_x)) (by rw [up_a (by omega)]; omega) (by rw [up_a (by omega)])
    generalize up m 46 6 (b3or (m 46 6) (b3sl 1 (b3an 1 31))) = m1 at hD1 h1 fm p2 hD2 ⊢
    -- cells are told from here on
    have e10 : up m1 46 7 1 46 10 = (D : Int) := by rw [up_i (by omega)]; exact hD1.1.2
    have eD : ∀ i, up m1 46 7 1 D i = m1 D i := fun i => up_a (by omega)
    have fm7 : Fm (Pf D) m1 (up m1 46 7 1) := Fm.w1 (by unfold Pf; omega)
    have hw := hD2.ws.2
    have hDm : DI (up m1 46 7 1) (up v2 0 24 1) D := by
      refine (di_flds (x7 := 1) hD2 fm7 (Fm.w1 (by unfold Qf; omega)) ⟨up_e, up_e, Or.inr rfl⟩ (fun q => by omega) ?_ (fun i p q => ?_) ?_ ?_).1
      · rw [sl_out (by omega)]; exact hD2.ws.1
      · have := (hD2.2.1.2.1 i p q).1.2
        rw [sl_e (by omega), sl_e (by omega)] at this
        rw [eD, eD]; exact this
      · rw [eD, eD, up_i (by omega), up_i (by omega)]; exact hD2.n.1
      · rw [eD, eD, eD, eD, eD, eD, eD, up_a (by omega), up_a (by omega), up_a (by omega), up_a (by omega), up_a (by omega), up_a (by omega), up_a (by omega)]; exact hD2.n.2.1
    have p3 : PreR (up m1 46 7 1) v2 S := p2.f (P := fun b i => b = 46 ∧ i = 7) (Q := fun _ _ => False) (Fm.w1 ⟨rfl, rfl⟩) Fm.rf (by intro b i q; omega) (fun b i _ => id)
    -- the cell, on both sides
    have e18 : m1 D 0 = v2 0 18 := hD2.n.1.1.symm
    have e19 : m1 D 1 = v2 0 19 := hD2.n.1.2.symm
    have hDc : DI (up m1 46 7 1) v2 D ∨ True := Or.inr trivial
    rw [e10, Int.toNat_natCast, eD, gd3_t (by omega)]
    -- reading it needs only the sizes
    obtain ⟨m', v', f', g', q', k24, k⟩ : ∃ m' v', Fm Pk (up m1 46 7 1) m' ∧ Fm Qc v2 v' ∧ (up m1 46 7 1) 47 3 ≤ m' 47 3 ∧ v' 0 24 = 1 ∧ ((∃ x y m2, (0 ≤ x ∧ x < m1 D 0) ∧ (0 ≤ y ∧ y < m1 D 1) ∧ G5_numberIn (up m1 46 7 1) 0 (m1 D 0 - 1) = some (x, m2) ∧ Fm Pk (up m1 46 7 1) m2 ∧ G5_numberIn m2 0 (m1 D 1 - 1) = some (y, m') ∧ G12_cellRead v2 = some (1, v') ∧ v' 0 43 = x ∧ v' 0 11 = y ∧ PreR m' v' S) ∨ (G5_numberIn (up m1 46 7 1) 0 (m1 D 0 - 1) = some (-1, m') ∧ G12_cellRead v2 = some (0, v') ∧ FLT m' v') ∨ (∃ x m2, 0 ≤ x ∧ G5_numberIn (up m1 46 7 1) 0 (m1 D 0 - 1) = some (x, m2) ∧ Fm Pk (up m1 46 7 1) m2 ∧ G5_numberIn m2 0 (m1 D 1 - 1) = some (-1, m') ∧ G12_cellRead v2 = some (0, v') ∧ FLT m' v')) := by
      have p3' : PreR (up m1 46 7 1) (up v2 0 24 1) S := p3.f (P := fun _ _ => False) (Q := fun b i => b = 0 ∧ i = 24) Fm.rf (Fm.w1 ⟨rfl, rfl⟩) (fun b i _ => id) (by intro b i q; omega)
      have ec : G12_cellRead v2 = G12_cellRead (up v2 0 24 1) := by
        have eu : up (up v2 0 24 1) 0 24 1 = up v2 0 24 1 := by
          funext b i
          by_cases c : b = 0 ∧ i = 24
          · rw [c.1, c.2, up_e, up_e]
          · unfold up; rw [if_neg c]
        unfold G12_cellRead G12_cellRead_0
        rw [wt_e, wt_e, eu]
      obtain ⟨m', v', f', g', q', k24, k⟩ := n_cell hDm p3'
      rw [ec]
      rw [eD, eD] at k
      exact ⟨m', v', f', (Fm.w1 (by unfold Qc; omega)).tr g', q', k24, k⟩
    have fmx : Fm (PX D) m1 (up m1 46 7 1) := Fm.w1 (by unfold PX; omega)
    have q0 : up m1 46 7 1 47 3 = m1 47 3 := up_a (by omega)
    rcases k with ⟨x, y, m2, x1, y1, a1, a2, a3, a4, a5, a6, a7⟩ | ⟨a1, a2, a3⟩ | ⟨x, m2, x1, a1, a2, a3, a4, a5⟩
    · have e10' : m2 46 10 = (D : Int) := by rw [a2 46 10 (by unfold Pk; omega)]; exact e10
      have e1D : m2 D 1 = m1 D 1 := by rw [a2 D 1 (by unfold Pk; omega), eD]
      rw [a1, a4, bs1, bs1]
      simp only [if_neg i10]
      rw [if_neg (show ¬ x = -1 by omega), e10', Int.toNat_natCast, e1D, gd3_t (by omega), a3, bs1, bs1, a5]
      unfold G5_readPeak_53
      have e10m : m' 46 10 = (D : Int) := by rw [f' 46 10 (by unfold Pk; omega)]; exact e10
      have e10n : up m' D 2 x 46 10 = (D : Int) := by rw [up_a (by omega)]; exact e10m
      simp only
      rw [if_neg (show ¬ y = -1 by omega), e10m, Int.toNat_natCast, wt_e, e10n, Int.toNat_natCast, wt_e]
      have n2 : up (up m' D 2 x) D 3 y D 2 = x := by rw [up_i (by omega), up_e]
      have n3 : up (up m' D 2 x) D 3 y D 3 = y := up_e
      have nr : ∀ i, i ≠ 2 → i ≠ 3 → up (up m' D 2 x) D 3 y D i = m1 D i := fun i a b => by rw [up_i b, up_i a, f' D i (by unfold Pk; omega), eD]
      have g11 : up v' 4 7 x 0 11 = y := by rw [up_a (by omega)]; exact a6
      rw [g11]
      have w4 : ∀ i, i ≠ 7 → i ≠ 8 → up (up v' 4 7 x) 4 8 y 4 i = v2 4 i := fun i a b => by rw [up_i b, up_i a, g' 4 i (by unfold Qc Qk; omega)]
      have w7 : up (up v' 4 7 x) 4 8 y 4 7 = x := by rw [up_i (by omega), up_e]
      have w0 : ∀ i, i ≠ 24 → i ≠ 43 → ¬ Qk 0 i → up (up v' 4 7 x) 4 8 y 0 i = v2 0 i := fun i a b c => by rw [up_a (by omega), up_a (by omega), g' 0 i (fun q => by rcases q with q | q; exact c q; omega)]
      have s0 : ∀ i, sl 21 (up (up m' D 2 x) D 3 y) D 0 i = up (up m' D 2 x) D 3 y D i := fun i => sl_e (Nat.zero_le _) i
      have s1 : ∀ i, sl 21 m1 D 0 i = m1 D i := fun i => sl_e (Nat.zero_le _) i
      have sr : ∀ (c : Nat) i, 1 ≤ c → c ≤ 21 → sl 21 (up (up m' D 2 x) D 3 y) D c i = sl 21 m1 D c i := fun c i a b => by rw [sl_e b, sl_e b, up_a (by omega), up_a (by omega), f' (D + c) i (by unfold Pk; omega), up_a (by omega)]
      have o2 := hD2.ws.1
      have hws : WS (sl 21 (up (up m' D 2 x) D 3 y) D) := by
        unfold WS at o2 ⊢
        rw [s0, s0, s0, s0, s0, s0, s0, s0, s0, s0, sr 1 0 (by omega) (by omega), sr 8 0 (by omega) (by omega), sr 8 1 (by omega) (by omega), n2, n3, nr 0 (by omega) (by omega), nr 1 (by omega) (by omega), nr 6 (by omega) (by omega), nr 7 (by omega) (by omega), nr 8 (by omega) (by omega), nr 9 (by omega) (by omega), nr 10 (by omega) (by omega), nr 13 (by omega) (by omega)]
        rw [s1, s1, s1, s1, s1, s1, s1, s1, s1, s1] at o2
        omega
      have o1 := hD2.n
      have fm5 : Fm (Pf D) m1 (up (up m' D 2 x) D 3 y) := ((fm7.tr (f'.mono Pk_f)).w (by unfold Pf; omega)).w (by unfold Pf; omega)
      have fv5 : Fm Qf v2 (up (up v' 4 7 x) 4 8 y) := ((g'.mono (by intro b i q; unfold Qc Qk at q; unfold Qf Qk; omega)).w (by unfold Qf; omega)).w (by unfold Qf; omega)
      obtain ⟨hD5, _⟩ := di_flds (x7 := 1) hD2 fm5 fv5 ⟨by rw [up_a (by omega), up_a (by omega), f' 46 7 (by unfold Pk; omega), up_e], by rw [up_a (by omega), up_a (by omega)]; exact k24, Or.inr rfl⟩ (fun q => by omega) hws (fun i p q => by
        have := (hD2.2.1.2.1 i p q).1.2
        rw [sl_e (by omega), sl_e (by omega)] at this
        rw [nr 0 (by omega) (by omega), nr 1 (by omega) (by omega)]; exact this) ⟨by rw [w0 18 (by omega) (by omega) (by unfold Qk; omega), nr 0 (by omega) (by omega)]; exact o1.1.1, by rw [w0 19 (by omega) (by omega) (by unfold Qk; omega), nr 1 (by omega) (by omega)]; exact o1.1.2⟩ (by rw [w7, up_e, n2, n3, w4 9 (by omega) (by omega), w4 10 (by omega) (by omega), w4 11 (by omega) (by omega), w4 12 (by omega) (by omega), w4 13 (by omega) (by omega), nr 6 (by omega) (by omega), nr 7 (by omega) (by omega), nr 8 (by omega) (by omega), nr 9 (by omega) (by omega), nr 10 (by omega) (by omega)]; exact ⟨rfl, rfl, o1.2.1.2.2⟩)
      have p5 : PreR (up (up m' D 2 x) D 3 y) (up (up v' 4 7 x) 4 8 y) S := a7.f (P := fun b i => b = D) (Q := fun b i => b = 4) ((Fm.w1 rfl).w rfl) ((Fm.w1 rfl).w rfl) (by intro b i q; omega) (by intro b i q; omega)
      exact lo_tr (lo_stop hD5 p5) (((fmx.tr (f'.mono Pk_x)).w (by unfold PX; omega)).w (by unfold PX; omega)) (((g'.mono Qc_x).w (by unfold QX; omega)).w (by unfold QX; omega)) (by rw [up_a (by omega), up_a (by omega)]; omega) (nr 12 (by omega) (by omega))
    · rw [a1, a2, bs1, bs1]
      unfold G5_readPeak_53
      simp only [if_true, bs1, r197]
      exact lo_fltx ⟨m', v', fmx.tr (f'.mono Pk_x), g'.mono Qc_x, by omega, rfl, rfl, a3⟩
    · have e10' : m2 46 10 = (D : Int) := by rw [a2 46 10 (by unfold Pk; omega)]; exact e10
      have e1D : m2 D 1 = m1 D 1 := by rw [a2 D 1 (by unfold Pk; omega), eD]
      rw [a1, a4, bs1, bs1]
      simp only [if_true, bs1, r197]
      rw [if_neg (show ¬ x = -1 by omega), e10', Int.toNat_natCast, e1D, gd3_t (by omega), a3, bs1]
      unfold G5_readPeak_53
      simp only [if_true]
      exact lo_fltx ⟨m', v', fmx.tr (f'.mono Pk_x), g'.mono Qc_x, by omega, rfl, rfl, a5⟩
  · rw [if_neg c1, bs1, onc37 h (by omega) (fun q => c1 (hon.mpr q))]
    simp only [if_true]
    exact lo_ref h 3 rfl rfl
end Q26
