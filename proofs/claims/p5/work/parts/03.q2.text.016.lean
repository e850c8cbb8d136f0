section Q27
variable {m v : Mem} {S : Int} {D : Nat}
theorem l_bank (hD : DI m v D) (h : PostR m v S) (hk : m 47 4 = 4) : LOut (G5_readBank m) ((G12_onceLine v).bind fun o => G12_lineRead_197 o.2 o.1) m v D S := by
  have hDD := hD.1.1
  have hc : crp 4 2 := by unfold crp; omega
  have hon := onc_at hD.2.2.2.2.1 hc
  have hkr := h.2.2.2.2.2.2.2
  have e9 : v 0 9 = 4 := by
    rw [hk] at hkr
    have ek : kwf 4 = 4 := by decide
    unfold KR SGN NumR at hkr
    rw [ek] at hkr
    omega
  unfold G5_readBank G5_readBank_0 G12_onceLine G12_onceLine_0
  rw [if_neg (show ¬ v 0 9 = 1 by first | decide | omega), if_pos e9, c_first]
  by_cases c1 : tb (m 46 6) 4 = 0
  · obtain ⟨hD1, h1⟩ := first_on hD h hc
    have c1v := hon.mp c1
    rw [if_pos c1, bs1]
    unfold G12_onceLine_37 G12_bankLine G12_bankLine_0
    rw [gdx_t (by first | decide | omega), if_pos c1v, gdx_t (by first | decide | omega), gdb_t (by first | decide | omega)]
    simp only [wt_e, if_neg i10, if_true]
    obtain ⟨v2, z1, z2, p2⟩ := h1.tok
    have hD2 := hD1.k Fm.rf (z2.mono Q7_k)
    rw [z1, bs1]
    have fm : Fm (PX D) m (up m 46 6 (b3or (m 46 6) (b3sl 1 (b3an 4 31)))) := Fm.w1 (by unfold PX; first | decide | omega)
    have fv : Fm QX v (up v 3 2 1) := Fm.w1 (by unfold QX; first | decide | omega)
    refine lo_tr (m1 := up m 46 6 (b3or (m 46 6) (b3sl 1 (b3an 4 31)))) (v1 := v2) ?_ fm (fv.tr ((z2.mono Q7_k).mono Qk_x)) (by rw [up_a (by first | decide | omega)]; first | decide | omega) (by rw [up_a (by first | decide | omega)])
    generalize up m 46 6 (b3or (m 46 6) (b3sl 1 (b3an 4 31))) = m1 at hD1 h1 fm p2 hD2 ⊢
    obtain ⟨m3, v3, f3, g3, q3, k3⟩ := n_in p2 (lo := 1) (hi := 20) (by first | decide | omega)
    rcases k3 with ⟨x, x1, x2, e1, e2, e3, p3, _⟩ | ⟨e1, e2, e3⟩
    · rw [e1, e2, bs1, bs1]
      simp only [if_neg i10]
      rw [if_neg (show ¬ x = -1 by first | decide | omega), e3]
      have p3' : PreR m3 (up v3 4 9 x) S := p3.f (P := fun _ _ => False) (Q := fun b i => b = 4) Fm.rf (Fm.w1 rfl) (fun b i _ => id) (by intro b i q; first | decide | omega)
      refine lo_tr (m1 := m3) (v1 := up v3 4 9 x) ?_ (f3.mono Pk_x) ((g3.mono Qk_x).w (by unfold QX; first | decide | omega)) q3 (f3 D 12 (by unfold Pk; first | decide | omega))
      obtain ⟨m4, v4, f4, g4, q4, k4⟩ := n_in p3' (lo := 1) (hi := 20) (by first | decide | omega)
      rcases k4 with ⟨y, y1, y2, e4, e5, e6, p4, _⟩ | ⟨e4, e5, e6⟩
      · rw [e4, e5, bs1, bs1]
        simp only [if_neg i10]
        unfold G5_readBank_34
        rw [if_neg (show ¬ y = -1 by first | decide | omega), e6]
        have p4' : PreR m4 (up v4 4 10 y) S := p4.f (P := fun _ _ => False) (Q := fun b i => b = 4) Fm.rf (Fm.w1 rfl) (fun b i _ => id) (by intro b i q; first | decide | omega)
        refine lo_tr (m1 := m4) (v1 := up v4 4 10 y) ?_ (f4.mono Pk_x) ((g4.mono Qk_x).w (by unfold QX; first | decide | omega)) q4 (f4 D 12 (by unfold Pk; first | decide | omega))
        obtain ⟨m5, v5, f5, g5, q5, k5⟩ := n_in p4' (lo := 1) (hi := 9) (by first | decide | omega)
        rcases k5 with ⟨z, z3, z4, e7, e8, e11, p5, _⟩ | ⟨e7, e8, e11⟩
        · rw [e7, e8, bs1, bs1]
          simp only [if_neg i10]
          unfold G5_readBank_51
          have e10 : m5 46 10 = (D : Int) := by rw [f5 46 10 (by unfold Pk; first | decide | omega), f4 46 10 (by unfold Pk; first | decide | omega), f3 46 10 (by unfold Pk; first | decide | omega)]; exact hD1.1.2
          have e10a : up m5 D 6 x 46 10 = (D : Int) := by rw [up_a (by first | decide | omega)]; exact e10
          have e10b : up (up m5 D 6 x) D 7 y 46 10 = (D : Int) := by rw [up_a (by first | decide | omega)]; exact e10a
          rw [if_neg (show ¬ z = -1 by first | decide | omega), e11, e10, Int.toNat_natCast, wt_e, e10a, Int.toNat_natCast, wt_e, e10b, Int.toNat_natCast, wt_e, bs1]
          simp only [gdb_t (show (1 : Int) = 0 ∨ (1 : Int) = 1 from Or.inr rfl), bs1]
          have nr : ∀ i, i ≠ 6 → i ≠ 7 → i ≠ 8 → up (up (up m5 D 6 x) D 7 y) D 8 z D i = m1 D i := fun i a b c => by rw [up_i c, up_i b, up_i a, f5 D i (by unfold Pk; first | decide | omega), f4 D i (by unfold Pk; first | decide | omega), f3 D i (by unfold Pk; first | decide | omega)]
          have n6 : up (up (up m5 D 6 x) D 7 y) D 8 z D 6 = x := by rw [up_i (by first | decide | omega), up_i (by first | decide | omega), up_e]
          have n7 : up (up (up m5 D 6 x) D 7 y) D 8 z D 7 = y := by rw [up_i (by first | decide | omega), up_e]
          have w4 : ∀ i, i ≠ 9 → i ≠ 10 → i ≠ 11 → up v5 4 11 z 4 i = v2 4 i := fun i a b c => by rw [up_i c, g5 4 i (by unfold Qk; first | decide | omega), up_i b, g4 4 i (by unfold Qk; first | decide | omega), up_i a, g3 4 i (by unfold Qk; first | decide | omega)]
          have w9 : up v5 4 11 z 4 9 = x := by rw [up_i (by first | decide | omega), g5 4 9 (by unfold Qk; first | decide | omega), up_i (by first | decide | omega), g4 4 9 (by unfold Qk; first | decide | omega), up_e]
          have w10 : up v5 4 11 z 4 10 = y := by rw [up_i (by first | decide | omega), g5 4 10 (by unfold Qk; first | decide | omega), up_e]
          have w0 : ∀ i, ¬ Qk 0 i → up v5 4 11 z 0 i = v2 0 i := fun i a => by rw [up_a (by first | decide | omega), g5 0 i a, up_a (by first | decide | omega), g4 0 i a, up_a (by first | decide | omega), g3 0 i a]
          have o1 := hD2.n
          have o4 := hD2.nb
          have fm5 : Fm (Pf D) m1 (up (up (up m5 D 6 x) D 7 y) D 8 z) := (((((f3.tr f4).tr f5).mono Pk_f).w (by unfold Pf; first | decide | omega)).w (by unfold Pf; first | decide | omega)).w (by unfold Pf; first | decide | omega)
          have fv5 : Fm Qf v2 (up v5 4 11 z) := (((((g3.mono Qk_f).w (by unfold Qf; first | decide | omega)).tr (g4.mono Qk_f)).w (by unfold Qf; first | decide | omega)).tr (g5.mono Qk_f)).w (by unfold Qf; first | decide | omega)
          obtain ⟨hD5, _⟩ := di_num hD2 fm5 fv5 (by rw [up_a (by first | decide | omega), up_a (by first | decide | omega), up_a (by first | decide | omega), f5 46 7 (by unfold Pk; first | decide | omega), f4 46 7 (by unfold Pk; first | decide | omega), f3 46 7 (by unfold Pk; first | decide | omega)]) ⟨w0 18 (by unfold Qk; first | decide | omega), w0 19 (by unfold Qk; first | decide | omega), w0 24 (by unfold Qk; first | decide | omega), w4 7 (by first | decide | omega) (by first | decide | omega) (by first | decide | omega), w4 8 (by first | decide | omega) (by first | decide | omega) (by first | decide | omega)⟩ ⟨nr 0 (by first | decide | omega) (by first | decide | omega) (by first | decide | omega), nr 1 (by first | decide | omega) (by first | decide | omega) (by first | decide | omega), nr 2 (by first | decide | omega) (by first | decide | omega) (by first | decide | omega), nr 3 (by first | decide | omega) (by first | decide | omega) (by first | decide | omega)⟩ (by rw [n6, n7, up_e, nr 9 (by first | decide | omega) (by first | decide | omega) (by first | decide | omega), nr 10 (by first | decide | omega) (by first | decide | omega) (by first | decide | omega)]; first | decide | omega) (by rw [n6, n7, w9, w10, up_e, up_e, nr 9 (by first | decide | omega) (by first | decide | omega) (by first | decide | omega), nr 10 (by first | decide | omega) (by first | decide | omega) (by first | decide | omega), w4 12 (by first | decide | omega) (by first | decide | omega) (by first | decide | omega), w4 13 (by first | decide | omega) (by first | decide | omega) (by first | decide | omega)]; exact ⟨rfl, rfl, rfl, o1.2.1.2.2.2.2.2.1, o1.2.1.2.2.2.2.2.2⟩)
          have p6 : PreR (up (up (up m5 D 6 x) D 7 y) D 8 z) (up v5 4 11 z) S := p5.f (P := fun b i => b = D) (Q := fun b i => b = 4) (((Fm.w1 rfl).w rfl).w rfl) (Fm.w1 rfl) (by intro b i q; first | decide | omega) (by intro b i q; first | decide | omega)
          refine lo_tr (lo_stop hD5 p6) ((((f5.mono Pk_x).w (by unfold PX; first | decide | omega)).w (by unfold PX; first | decide | omega)).w (by unfold PX; first | decide | omega)) ((g5.mono Qk_x).w (by unfold QX; first | decide | omega)) (by rw [up_a (by first | decide | omega), up_a (by first | decide | omega), up_a (by first | decide | omega)]; first | decide | omega) ?_
          rw [nr 12 (by first | decide | omega) (by first | decide | omega) (by first | decide | omega), f4 D 12 (by unfold Pk; first | decide | omega), f3 D 12 (by unfold Pk; first | decide | omega)]
        · rw [e7, e8, bs1, bs1]
          unfold G5_readBank_51
          simp only [if_true, bs1, gdb_t (show (0 : Int) = 0 ∨ (0 : Int) = 1 from Or.inl rfl), r197]
          exact lo_flt ⟨m5, v5, f5, g5, q5, rfl, rfl, e11⟩
      · rw [e4, e5, bs1, bs1]
        unfold G5_readBank_34 G5_readBank_51
        simp only [if_true, bs1, gdb_t (show (0 : Int) = 0 ∨ (0 : Int) = 1 from Or.inl rfl), r197]
        exact lo_flt ⟨m4, v4, f4, g4, q4, rfl, rfl, e6⟩
    · rw [e1, e2, bs1, bs1]
      unfold G5_readBank_34 G5_readBank_51
      simp only [if_true, bs1, gdb_t (show (0 : Int) = 0 ∨ (0 : Int) = 1 from Or.inl rfl), r197]
      exact lo_flt ⟨m3, v3, f3, g3, q3, rfl, rfl, e3⟩
  · rw [if_neg c1, bs1, onc37 h (by first | decide | omega) (fun q => c1 (hon.mpr q))]
    simp only [if_true]
    exact lo_ref h 3 rfl rfl
end Q27
/-! The line of a surfer on both sides. -/
section Q28
variable {m v : Mem} {S : Int} {D : Nat}
/-- a surfer is laid behind the others -/
theorem c_addc {a : Nat} {x1 x2 x3 x4 x5 x6 : Int} (h : 0 ≤ m a 0 ∧ m a 0 < 5) : ∃ m', G1_add m a x1 x2 x3 x4 x5 x6 = some m' ∧ Fm (fun b i => (b = a ∧ i = 0) ∨ (a + 1 ≤ b ∧ b ≤ a + 6 ∧ i = m a 0)) m m' ∧ m' a 0 = m a 0 + 1 ∧ m' (a + 1) (m a 0) = x1 ∧ m' (a + 2) (m a 0) = x2 ∧ m' (a + 3) (m a 0) = x3 ∧ m' (a + 4) (m a 0) = x4 ∧ m' (a + 5) (m a 0) = x5 ∧ m' (a + 6) (m a 0) = x6 := by
  have e0 : m a 0 = m a 0 := rfl
  generalize hn : m a 0 = n at *
  have e1 : up m (a + 1) n x1 a 0 = n := by rw [up_a (by first | decide | omega)]; exact hn
  have e2 : up (up m (a + 1) n x1) (a + 2) n x2 a 0 = n := by rw [up_a (by first | decide | omega)]; exact e1
  have e3 : up (up (up m (a + 1) n x1) (a + 2) n x2) (a + 3) n x3 a 0 = n := by rw [up_a (by first | decide | omega)]; exact e2
  have e4 : up (up (up (up m (a + 1) n x1) (a + 2) n x2) (a + 3) n x3) (a + 4) n x4 a 0 = n := by rw [up_a (by first | decide | omega)]; exact e3
  have e5 : up (up (up (up (up m (a + 1) n x1) (a + 2) n x2) (a + 3) n x3) (a + 4) n x4) (a + 5) n x5 a 0 = n := by rw [up_a (by first | decide | omega)]; exact e4
  have e6 : up (up (up (up (up (up m (a + 1) n x1) (a + 2) n x2) (a + 3) n x3) (a + 4) n x4) (a + 5) n x5) (a + 6) n x6 a 0 = n := by rw [up_a (by first | decide | omega)]; exact e5
  unfold G1_add G1_add_0
  rw [hn, if_pos h.2, gdx_t h, wt_e, e1, gdx_t h, wt_e, e2, gdx_t h, wt_e, e3, gdx_t h, wt_e, e4, gdx_t h, wt_e, e5, gdx_t h, wt_e, e6, gd3_t (by first | decide | omega), wt_e]
  refine ⟨_, rfl, ((((((Fm.w1 ?_).w ?_).w ?_).w ?_).w ?_).w ?_).w ?_, up_e, ?_, ?_, ?_, ?_, ?_, ?_⟩
  · omega
  · omega
  · omega
  · omega
  · omega
  · omega
  · omega
  · rw [up_a (by first | decide | omega), up_a (by first | decide | omega), up_a (by first | decide | omega), up_a (by first | decide | omega), up_a (by first | decide | omega), up_a (by first | decide | omega), up_e]
  · rw [up_a (by first | decide | omega), up_a (by first | decide | omega), up_a (by first | decide | omega), up_a (by first | decide | omega), up_a (by first | decide | omega), up_e]
  · rw [up_a (by first | decide | omega), up_a (by first | decide | omega), up_a (by first | decide | omega), up_a (by first | decide | omega), up_e]
  · rw [up_a (by first | decide | omega), up_a (by first | decide | omega), up_a (by first | decide | omega), up_e]
  · rw [up_a (by first | decide | omega), up_a (by first | decide | omega), up_e]
  · rw [up_a (by first | decide | omega), up_e]
end Q28
