section Q27
variable {m v : Mem} {S : Int} {D : Nat}
/-- the draft behind a change of one row of numbers, sizes and peak standing -/
theorem di_num (hD : DI m v D) {m' v' : Mem} (f : Fm (Pf D) m m') (g : Fm Qf v v') (h7 : m' 46 7 = m 46 7) (hv : v' 0 18 = v 0 18 ∧ v' 0 19 = v 0 19 ∧ v' 0 24 = v 0 24 ∧ v' 4 7 = v 4 7 ∧ v' 4 8 = v 4 8) (hm : m' D 0 = m D 0 ∧ m' D 1 = m D 1 ∧ m' D 2 = m D 2 ∧ m' D 3 = m D 3) (hb : (0 ≤ m' D 6 ∧ m' D 6 ≤ 20 ∧ 0 ≤ m' D 7 ∧ m' D 7 ≤ 20 ∧ 0 ≤ m' D 8 ∧ m' D 8 ≤ 9 ∧ 0 ≤ m' D 9 ∧ m' D 9 ≤ 3 ∧ 0 ≤ m' D 10 ∧ m' D 10 ≤ 99999) ∧ (m' D 6 = 0 ↔ m' D 7 = 0)) (n2 : v' 4 9 = m' D 6 ∧ v' 4 10 = m' D 7 ∧ v' 4 11 = m' D 8 ∧ v' 4 12 = m' D 9 ∧ v' 4 13 = m' D 10) : DI m' v' D ∧ m' D 12 = m D 12 := by
  have hDD := hD.1.1
  have o1 := hD.n
  have o2 := hD.ws.1
  have o3 := hD.2.2.2.1
  have s0 : ∀ i, sl 21 m' D 0 i = m' D i := fun i => sl_e (Nat.zero_le _) i
  have s1 : ∀ i, sl 21 m D 0 i = m D i := fun i => sl_e (Nat.zero_le _) i
  have sr : ∀ (c : Nat) i, 1 ≤ c → c ≤ 21 → sl 21 m' D c i = sl 21 m D c i := fun c i a b => by rw [sl_e b, sl_e b, f (D + c) i (by unfold Pf Pk; first | decide | omega)]
  have e13 : m' D 13 = m D 13 := f D 13 (by unfold Pf Pk; first | decide | omega)
  refine di_flds (x7 := m 46 7) hD f g ⟨h7, by rw [hv.2.2.1]; exact o3.2.1, o3.1⟩ (fun q => ?_) ?_ (fun i p q => ?_) ⟨by rw [hv.1, hm.1]; exact o1.1.1, by rw [hv.2.1, hm.2.1]; exact o1.1.2⟩ ⟨by rw [hv.2.2.2.1, hm.2.2.1]; exact o1.2.1.1, by rw [hv.2.2.2.2, hm.2.2.2]; exact o1.2.1.2.1, n2⟩
  · have := o3.2.2 q
    rw [s1, s1] at this
    rw [hm.2.2.1, hm.2.2.2]; exact this
  · unfold WS at o2 ⊢
    rw [s0, s0, s0, s0, s0, s0, s0, s0, s0, s0, sr 1 0 (by first | decide | omega) (by first | decide | omega), sr 8 0 (by first | decide | omega) (by first | decide | omega), sr 8 1 (by first | decide | omega) (by first | decide | omega), hm.1, hm.2.1, hm.2.2.1, hm.2.2.2, e13]
    rw [s1, s1, s1, s1, s1, s1, s1, s1, s1, s1] at o2
    omega
  · have := (hD.2.1.2.1 i p q).1.2
    rw [s1, s1] at this
    rw [hm.1, hm.2.1]; exact this
theorem DI.nb (hD : DI m v D) : (0 ≤ m D 6 ∧ m D 6 ≤ 20 ∧ 0 ≤ m D 7 ∧ m D 7 ≤ 20 ∧ 0 ≤ m D 8 ∧ m D 8 ≤ 9 ∧ 0 ≤ m D 9 ∧ m D 9 ≤ 3 ∧ 0 ≤ m D 10 ∧ m D 10 ≤ 99999) ∧ (m D 6 = 0 ↔ m D 7 = 0) := by
  have o2 := hD.ws.1
  have s1 : ∀ i, sl 21 m D 0 i = m D i := fun i => sl_e (Nat.zero_le _) i
  unfold WS at o2
  rw [s1, s1, s1, s1, s1, s1, s1, s1, s1, s1] at o2
  omega
theorem l_seed (hD : DI m v D) (h : PostR m v S) (hk : m 47 4 = 6) : LOut (G5_readSeed m) ((G12_onceLine v).bind fun o => G12_lineRead_197 o.2 o.1) m v D S := by
  have hDD := hD.1.1
  have hc : crp 6 4 := by unfold crp; omega
  have hon := onc_at hD.2.2.2.2.1 hc
  have hkr := h.2.2.2.2.2.2.2
  have e9 : v 0 9 = 6 := by
    rw [hk] at hkr
    have ek : kwf 6 = 6 := by decide
    unfold KR SGN NumR at hkr
    rw [ek] at hkr
    omega
  unfold G5_readSeed G5_readSeed_0 G12_onceLine G12_onceLine_0
  rw [if_neg (show ¬ v 0 9 = 1 by first | decide | omega), if_neg (show ¬ v 0 9 = 4 by first | decide | omega), if_neg (show ¬ v 0 9 = 5 by first | decide | omega), c_first]
  by_cases c1 : tb (m 46 6) 6 = 0
  · obtain ⟨hD1, h1⟩ := first_on hD h hc
    have c1v := hon.mp c1
    rw [if_pos c1, bs1]
    unfold G12_onceLine_37
    rw [gdx_t (by first | decide | omega), if_pos c1v, gdx_t (by first | decide | omega), gdb_t (by first | decide | omega)]
    simp only [wt_e, if_neg (show ¬ (4 : Int) = 2 by first | decide | omega), if_neg (show ¬ (4 : Int) = 1 by first | decide | omega), if_neg i10, if_true]
    obtain ⟨v2, z1, z2, p2⟩ := h1.tok
    have hD2 := hD1.k Fm.rf (z2.mono Q7_k)
    rw [z1, bs1]
    have fm : Fm (PX D) m (up m 46 6 (b3or (m 46 6) (b3sl 1 (b3an 6 31)))) := Fm.w1 (by unfold PX; first | decide | omega)
    have fv : Fm QX v (up v 3 4 1) := Fm.w1 (by unfold QX; first | decide | omega)
    refine lo_tr (m1 := up m 46 6 (b3or (m 46 6) (b3sl 1 (b3an 6 31)))) (v1 := v2) ?_ fm (fv.tr ((z2.mono Q7_k).mono Qk_x)) (by rw [up_a (by first | decide | omega)]; first | decide | omega) (by rw [up_a (by first | decide | omega)])
    generalize up m 46 6 (b3or (m 46 6) (b3sl 1 (b3an 6 31))) = m1 at hD1 h1 fm p2 hD2 ⊢
    obtain ⟨m3, v3, f3, g3, q3, k3⟩ := n_in p2 (lo := 0) (hi := 99999) (by first | decide | omega)
    rcases k3 with ⟨x, x1, x2, e1, e2, e3, p3, _⟩ | ⟨e1, e2, e3⟩
    · have e10 : m3 46 10 = (D : Int) := by rw [f3 46 10 (by unfold Pk; first | decide | omega)]; exact hD1.1.2
      rw [e1, e2, bs1, bs1]
      simp only [if_neg i10]
      rw [if_neg (show ¬ x = -1 by first | decide | omega), e10, Int.toNat_natCast, e3, bs1]
      have nr : ∀ i, i ≠ 10 → up m3 D 10 x D i = m1 D i := fun i a => by rw [up_i a, f3 D i (by unfold Pk; first | decide | omega)]
      have w4 : ∀ i, i ≠ 13 → up v3 4 13 x 4 i = v2 4 i := fun i a => by rw [up_i a, g3 4 i (by unfold Qk; first | decide | omega)]
      have o1 := hD2.n
      have o4 := hD2.nb
      obtain ⟨hD5, _⟩ := di_num hD2 (m' := up m3 D 10 x) (v' := up v3 4 13 x) ((f3.mono Pk_f).w (by unfold Pf; first | decide | omega)) ((g3.mono Qk_f).w (by unfold Qf; first | decide | omega)) (by rw [up_a (by first | decide | omega), f3 46 7 (by unfold Pk; first | decide | omega)]) ⟨by rw [up_a (by first | decide | omega), g3 0 18 (by unfold Qk; first | decide | omega)], by rw [up_a (by first | decide | omega), g3 0 19 (by unfold Qk; first | decide | omega)], by rw [up_a (by first | decide | omega), g3 0 24 (by unfold Qk; first | decide | omega)], w4 7 (by first | decide | omega), w4 8 (by first | decide | omega)⟩ ⟨nr 0 (by first | decide | omega), nr 1 (by first | decide | omega), nr 2 (by first | decide | omega), nr 3 (by first | decide | omega)⟩ (by rw [up_e, nr 6 (by first | decide | omega), nr 7 (by first | decide | omega), nr 8 (by first | decide | omega), nr 9 (by first | decide | omega)]; first | decide | omega) (by rw [up_e, up_e, nr 6 (by first | decide | omega), nr 7 (by first | decide | omega), nr 8 (by first | decide | omega), nr 9 (by first | decide | omega), w4 9 (by first | decide | omega), w4 10 (by first | decide | omega), w4 11 (by first | decide | omega), w4 12 (by first | decide | omega)]; exact ⟨o1.2.1.2.2.1, o1.2.1.2.2.2.1, o1.2.1.2.2.2.2.1, o1.2.1.2.2.2.2.2.1, rfl⟩)
      have p5 : PreR (up m3 D 10 x) (up v3 4 13 x) S := p3.f (P := fun b i => b = D) (Q := fun b i => b = 4) (Fm.w1 rfl) (Fm.w1 rfl) (by intro b i q; first | decide | omega) (by intro b i q; first | decide | omega)
      exact lo_tr (lo_stop hD5 p5) ((f3.mono Pk_x).w (by unfold PX; first | decide | omega)) ((g3.mono Qk_x).w (by unfold QX; first | decide | omega)) (by rw [up_a (by first | decide | omega)]; first | decide | omega) (nr 12 (by first | decide | omega))
    · rw [e1, e2, bs1, bs1]
      simp only [if_true, bs1, r197]
      exact lo_flt ⟨m3, v3, f3, g3, q3, rfl, rfl, e3⟩
  · rw [if_neg c1, bs1, onc37 h (by first | decide | omega) (fun q => c1 (hon.mpr q))]
    simp only [if_true]
    exact lo_ref h 3 rfl rfl
theorem KR_b {k a i x : Int} (h : KR k a i x) : 0 ≤ k ∧ k ≤ 40 := by unfold KR SGN NumR at h; omega
theorem kwf_lo {k : Int} (h : k < 15 ∨ 17 < k) : kwf k = k := by unfold kwf; rw [if_neg (by first | decide | omega), if_neg (by first | decide | omega), if_neg (by first | decide | omega)]
theorem kwf_b {k : Int} (h : 0 ≤ k ∧ k < 24) : 0 ≤ kwf k ∧ kwf k < 24 ∧ (15 ≤ k ∧ k ≤ 17 → 15 ≤ kwf k ∧ kwf k ≤ 17) := by
  unfold kwf
  split
  · omega
  · split
    · omega
    · split <;> omega
/-- a word of the language outside 15 .. 17, on both sides -/
theorem KR_kw {k a i x : Int} (h : KR k a i x) {lo hi : Int} (hb : 0 ≤ lo ∧ hi < 24) (h15 : hi < 15 ∨ 17 < lo) : (lo ≤ k ∧ k ≤ hi) ↔ (i = 1 ∧ lo ≤ x ∧ x ≤ hi) := by
  have hb1 : 0 ≤ k ∧ k < 24 → 0 ≤ kwf k ∧ kwf k < 24 ∧ (15 ≤ k ∧ k ≤ 17 → 15 ≤ kwf k ∧ kwf k ≤ 17) := kwf_b
  have hlo : (k < 15 ∨ 17 < k) → kwf k = k := kwf_lo
  unfold KR SGN NumR at h
  omega
end Q27
