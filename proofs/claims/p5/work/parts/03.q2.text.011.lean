section Q26
variable {m v : Mem} {S : Int} {D : Nat}
theorem l_sea (hD : DI m v D) (h : PostR m v S) : LOut (G5_readSea m) ((G12_seaLine v).bind fun o => G12_lineRead_197 o.2 o.1) m v D S := by
  have hDD := hD.1.1
  have hc : crp 0 0 := by unfold crp; omega
  have hon := onc_at hD.2.2.2.2.1 hc
  have hct := hD.2.2.2.1
  unfold G5_readSea G5_readSea_0 G12_seaLine G12_seaLine_0
  rw [c_first]
  by_cases c1 : tb (m 46 6) 0 = 0
  · obtain ⟨hD1, h1⟩ := first_on hD h hc
    rw [if_pos c1, bs1, if_pos (hon.mp c1)]
    simp only [if_neg i10]
    have e7 : up m 46 6 (b3or (m 46 6) (b3sl 1 (b3an 0 31))) 46 7 = m 46 7 := up_i (by first | decide | omega)
    rw [e7, hct.2.1]
    by_cases c2 : m 46 7 = 0
    · rw [if_pos c2, if_pos c2, gdb_t (by first | decide | omega), wt_e]
      have fm : Fm (PX D) m (up m 46 6 (b3or (m 46 6) (b3sl 1 (b3an 0 31)))) := Fm.w1 (by unfold PX; first | decide | omega)
      have fv : Fm QX v (up v 3 0 1) := Fm.w1 (by unfold QX; first | decide | omega)
      obtain ⟨v2, z1, z2, p2⟩ := h1.tok
      have hD2 := hD1.k Fm.rf (z2.mono Q7_k)
      refine lo_tr (m1 := up m 46 6 (b3or (m 46 6) (b3sl 1 (b3an 0 31)))) (v1 := v2) ?_ fm (fv.tr ((z2.mono Q7_k).mono Qk_x)) (by rw [up_a (by first | decide | omega)]; first | decide | omega) (by rw [up_a (by first | decide | omega)])
      rw [z1, bs1]
      have e7' := e7
      have hz0 : sl 21 (up m 46 6 (b3or (m 46 6) (b3sl 1 (b3an 0 31)))) D 1 0 = 0 ∧ (up m 46 6 (b3or (m 46 6) (b3sl 1 (b3an 0 31)))) D 2 = 0 ∧ (up m 46 6 (b3or (m 46 6) (b3sl 1 (b3an 0 31)))) D 3 = 0 := by
        have := hct.2.2 c2
        rw [sl_e (by first | decide | omega), up_a (by first | decide | omega), up_a (by first | decide | omega), up_a (by first | decide | omega)]
        rw [sl_e (by first | decide | omega), sl_e (by first | decide | omega), sl_e (by first | decide | omega)] at this
        exact this
      generalize up m 46 6 (b3or (m 46 6) (b3sl 1 (b3an 0 31))) = m1 at hD1 h1 fm p2 hD2 e7' hz0 ⊢
      obtain ⟨m3, v3, f3, g3, q3, k3⟩ := n_in p2 (lo := 1) (hi := 8) (by first | decide | omega)
      rcases k3 with ⟨x, x1, x2, e1, e2, e3, p3, _⟩ | ⟨e1, e2, e3⟩
      · rw [e1, e2, bs1, bs1]
        simp only [if_neg i10]
        rw [if_neg (show ¬ x = -1 by first | decide | omega), wt_e, e3]
        have gq : Fm (fun b i => b = 0 ∧ i = 18) v3 (up v3 0 18 x) := Fm.w1 ⟨rfl, rfl⟩
        have p3' : PreR m3 (up v3 0 18 x) S := p3.f (P := fun _ _ => False) Fm.rf gq (fun b i _ => id) (by intro b i q; first | decide | omega)
        refine lo_tr (m1 := m3) (v1 := up v3 0 18 x) ?_ (f3.mono Pk_x) ((g3.mono Qk_x).tr (gq.mono (by intro b i q; unfold QX; first | decide | omega))) q3 (f3 D 12 (by unfold Pk; first | decide | omega))
        obtain ⟨m4, v4, f4, g4, q4, k4⟩ := n_in p3' (lo := 1) (hi := 6) (by first | decide | omega)
        rcases k4 with ⟨y, y1, y2, e4, e5, e6, p4, _⟩ | ⟨e4, e5, e6⟩
        · rw [e4, e5, bs1, bs1]
          simp only [if_neg i10]
          unfold G5_readSea_47
          have e10 : m4 46 10 = (D : Int) := by rw [f4 46 10 (by unfold Pk; first | decide | omega), f3 46 10 (by unfold Pk; first | decide | omega)]; exact hD1.1.2
          have e10' : up m4 D 0 x 46 10 = (D : Int) := by rw [up_a (by first | decide | omega)]; exact e10
          rw [if_neg (show ¬ y = -1 by first | decide | omega), e10, Int.toNat_natCast, wt_e, e10', Int.toNat_natCast, wt_e, wt_e, bs1, e6]
          have fm5 : Fm (Pf D) m1 (up (up m4 D 0 x) D 1 y) := (((f3.tr f4).mono Pk_f).w (by unfold Pf; first | decide | omega)).w (by unfold Pf; first | decide | omega)
          have fv5 : Fm Qf v2 (up v4 0 19 y) := (((g3.mono Qk_f).tr (gq.mono (by intro b i q; unfold Qf; first | decide | omega))).tr (g4.mono Qk_f)).w (by unfold Qf; first | decide | omega)
          have n0 : up (up m4 D 0 x) D 1 y D 0 = x := by rw [up_i (by first | decide | omega), up_e]
          have n1 : up (up m4 D 0 x) D 1 y D 1 = y := up_e
          have nr : ∀ i, i ≠ 0 → i ≠ 1 → up (up m4 D 0 x) D 1 y D i = m1 D i := fun i a b => by rw [up_i b, up_i a, f4 D i (by unfold Pk; first | decide | omega), f3 D i (by unfold Pk; first | decide | omega)]
          have o1 := hD2.n
          have o2 := hD2.ws.1
          have w18 : up v4 0 19 y 0 18 = x := by rw [up_i (by first | decide | omega), g4 0 18 (by unfold Qk; first | decide | omega), up_e]
          have w4 : ∀ i, up v4 0 19 y 4 i = v2 4 i := fun i => by rw [up_a (by first | decide | omega), g4 4 i (by unfold Qk; first | decide | omega), up_a (by first | decide | omega), g3 4 i (by unfold Qk; first | decide | omega)]
          have s0 : ∀ i, sl 21 (up (up m4 D 0 x) D 1 y) D 0 i = up (up m4 D 0 x) D 1 y D i := fun i => sl_e (Nat.zero_le _) i
          have s1 : ∀ i, sl 21 m1 D 0 i = m1 D i := fun i => sl_e (Nat.zero_le _) i
          have sr : ∀ (c : Nat) i, 1 ≤ c → c ≤ 21 → sl 21 (up (up m4 D 0 x) D 1 y) D c i = sl 21 m1 D c i := fun c i a b => by rw [sl_e b, sl_e b, up_a (by first | decide | omega), up_a (by first | decide | omega), f4 (D + c) i (by unfold Pk; first | decide | omega), f3 (D + c) i (by unfold Pk; first | decide | omega)]
          have hws : WS (sl 21 (up (up m4 D 0 x) D 1 y) D) := by
            unfold WS at o2 ⊢
            rw [s0, s0, s0, s0, s0, s0, s0, s0, s0, s0, sr 1 0 (by first | decide | omega) (by first | decide | omega), sr 8 0 (by first | decide | omega) (by first | decide | omega), sr 8 1 (by first | decide | omega) (by first | decide | omega), n0, n1, nr 2 (by first | decide | omega) (by first | decide | omega), nr 3 (by first | decide | omega) (by first | decide | omega), nr 6 (by first | decide | omega) (by first | decide | omega), nr 7 (by first | decide | omega) (by first | decide | omega), nr 8 (by first | decide | omega) (by first | decide | omega), nr 9 (by first | decide | omega) (by first | decide | omega), nr 10 (by first | decide | omega) (by first | decide | omega), nr 13 (by first | decide | omega) (by first | decide | omega)]
            rw [s1, s1, s1, s1, s1, s1, s1, s1, s1, s1] at o2
            omega
          obtain ⟨hD5, _⟩ := di_flds (x7 := 0) hD2 fm5 fv5 ⟨by rw [up_a (by first | decide | omega), up_a (by first | decide | omega), f4 46 7 (by unfold Pk; first | decide | omega), f3 46 7 (by unfold Pk; first | decide | omega)]; first | decide | omega, by rw [up_i (by first | decide | omega), g4 0 24 (by unfold Qk; first | decide | omega), up_i (by first | decide | omega), g3 0 24 (by unfold Qk; first | decide | omega), hD2.2.2.2.1.2.1]; first | decide | omega, Or.inl rfl⟩ (fun _ => ⟨hz0.1, by rw [nr 2 (by first | decide | omega) (by first | decide | omega)]; exact hz0.2.1, by rw [nr 3 (by first | decide | omega) (by first | decide | omega)]; exact hz0.2.2⟩) hws (fun i p q => by rw [hz0.1] at q; first | decide | omega) ⟨by rw [w18, n0], by rw [up_e, n1]⟩ (by rw [w4, w4, w4, w4, w4, w4, w4, nr 2 (by first | decide | omega) (by first | decide | omega), nr 3 (by first | decide | omega) (by first | decide | omega), nr 6 (by first | decide | omega) (by first | decide | omega), nr 7 (by first | decide | omega) (by first | decide | omega), nr 8 (by first | decide | omega) (by first | decide | omega), nr 9 (by first | decide | omega) (by first | decide | omega), nr 10 (by first | decide | omega) (by first | decide | omega)]; exact o1.2.1)
          have p5 : PreR (up (up m4 D 0 x) D 1 y) (up v4 0 19 y) S := p4.f (P := fun b i => b = D) (Q := fun b i => b = 0 ∧ i = 19) ((Fm.w1 rfl).w rfl) (Fm.w1 ⟨rfl, rfl⟩) (by intro b i q; first | decide | omega) (by intro b i q; first | decide | omega)
          refine lo_tr (lo_stop hD5 p5) ((f4.mono Pk_x).tr ((Fm.w1 (by unfold PX; first | decide | omega)).w (by unfold PX; first | decide | omega))) ((g4.mono Qk_x).tr (Fm.w1 (by unfold QX; first | decide | omega))) (by rw [up_a (by first | decide | omega), up_a (by first | decide | omega)]; exact q4) (by rw [up_i (by first | decide | omega), up_i (by first | decide | omega), f4 D 12 (by unfold Pk; first | decide | omega)])
        · rw [e4, e5, bs1, bs1]
          unfold G5_readSea_47
          simp only [if_true, bs1, r197]
          exact lo_flt ⟨m4, v4, f4, g4, q4, rfl, rfl, e6⟩
      · rw [e1, e2, bs1, bs1]
        unfold G5_readSea_47
        simp only [if_true, bs1, r197]
        exact lo_flt ⟨m3, v3, f3, g3, q3, rfl, rfl, e3⟩
    · rw [if_neg c2, if_neg c2, c_ref, bs1, r_wrong, bs1, gdb_t (by first | decide | omega), gdb_t (by first | decide | omega), bs1]
      simp only
      rw [r197]
      have fm : Fm (PX D) m (up m 46 6 (b3or (m 46 6) (b3sl 1 (b3an 0 31)))) := Fm.w1 (by unfold PX; first | decide | omega)
      have h1' : PostR (up m 46 6 (b3or (m 46 6) (b3sl 1 (b3an 0 31)))) v S := h.f (P := fun b i => b = 46 ∧ i = 6) (Q := fun _ _ => False) (Fm.w1 ⟨rfl, rfl⟩) Fm.rf (by intro b i q; first | decide | omega) (fun b i _ => id)
      refine lo_tr (m1 := up m 46 6 (b3or (m 46 6) (b3sl 1 (b3an 0 31)))) (v1 := v) ?_ fm Fm.rf (by rw [up_a (by first | decide | omega)]; first | decide | omega) (by rw [up_a (by first | decide | omega)])
      exact lo_ref h1' 4 rfl rfl
  · rw [if_neg c1, bs1, if_neg (fun q => c1 (hon.mpr q))]
    simp only [if_true]
    rw [r_wrong, bs1, gdb_t (by first | decide | omega), bs1]
    simp only
    rw [r197]
    exact lo_ref h 3 rfl rfl
/-- a cell is asked for -/
def Qc : Nat → Int → Prop := fun b i => Qk b i ∨ (b = 0 ∧ (i = 24 ∨ i = 43))
end Q26
