/-! The lines bank, rule, seed on both sides. -/
section Q27
variable {m v : Mem} {S : Int} {D : Nat}
/-- the draft behind a change of one row of numbers, sizes and peak standing -/
theorem di_num (hD : DI m v D) {m' v' : Mem} (f : Fm (Pf D) m m') (g : Fm Qf v v') (h7 : m' 46 7 = m 46 7) (hv : v' 0 18 = v 0 18 ∧ v' 0 19 = v 0 19 ∧ v' 0 24 = v 0 24 ∧ v' 4 7 = v 4 7 ∧ v' 4 8 = v 4 8) (hm : m' D 0 = m D 0 ∧ m' D 1 = m D 1 ∧ m' D 2 = m D 2 ∧ m' D 3 = m D 3) (hb : (0 ≤ m' D 6 ∧ m' D 6 ≤ 20 ∧ 0 ≤ m' D 7 ∧ m' D 7 ≤ 20 ∧ 0 ≤ m' D 8 ∧ m' D 8 ≤ 9 ∧ 0 ≤ m' D 9 ∧ m' D 9 ≤ 3 ∧ 0 ≤ m' D 10 ∧ m' D 10 ≤ 99999) ∧ (m' D 6 = 0 ↔ m' D 7 = 0)) (n2 : v' 4 9 = m' D 6 ∧ v' 4 10 = m' D 7 ∧ v' 4 11 = m' D 8 ∧ v' 4 12 = m' D 9 ∧ v' 4 13 = m' D 10) : DI m' v' D ∧ m' D 12 = m D 12 := by
  have hDD := hD.1.1
  have o1 := hD.n
  have o2 := hD.ws.1
  have o3 := hD.2.2.2.1
  have s0 : ∀ i, sl 21 m' D 0 i = m' D i := fun i => sl_e (Nat.zero_le _) i
  have s1 : ∀ i, sl 21 m D 0 i = m D i := fun i => sl_e (Nat.zero_le _) i
  have sr : ∀ (c : Nat) i, 1 ≤ c → c ≤ 21 → sl 21 m' D c i = sl 21 m D c i := fun c i a b => by rw [sl_e b, sl_e b, f (D + c) i (by unfold Pf Pk; omega)]
  have e13 : m' D 13 = m D 13 := f D 13 (by unfold Pf Pk; omega)
  refine di_flds (x7 := m 46 7) hD f g ⟨h7, by rw [hv.2.2.1]; exact o3.2.1, o3.1⟩ (fun q => ?_) ?_ (fun i p q => ?_) ⟨by rw [hv.1, hm.1]; exact o1.1.1, by rw [hv.2.1, hm.2.1]; exact o1.1.2⟩ ⟨by rw [hv.2.2.2.1, hm.2.2.1]; exact o1.2.1.1, by rw [hv.2.2.2.2, hm.2.2.2]; exact o1.2.1.2.1, n2⟩
  · have := o3.2.2 q
    rw [s1, s1] at this
    rw [hm.2.2.1, hm.2.2.2]; exact this
  · unfold WS at o2 ⊢
    rw [s0, s0, s0, s0, s0, s0, s0, s0, s0, s0, sr 1 0 (by omega) (by omega), sr 8 0 (by omega) (by omega), sr 8 1 (by omega) (by omega), hm.1, hm.2.1, hm.2.2.1, hm.2.2.2, e13]
    rw [s1, s1, s1, s1, s1, s1, s1, s1, s1, s1] at o2
    omega
  · have := (hD.2.1.2.1 i p q).1.2
    rw [s1, s1] at this
    rw [hm.1, hm.2.1]; exact this
theorem DI.nb (hD : DI m v D) : (0 ≤ m D 6 ∧ m D 6 ≤ 20 ∧ 0 ≤ m D 7 ∧ m D 7 ≤ 20 ∧ 0 ≤ m D 8 ∧ m D 8 ≤ 9 ∧ 0 ≤ m D 9 ∧ m D 9 ≤ 3 ∧ 0 ≤ m D 10 ∧ m D 10 ≤ 99999) ∧ (m D 6 = 0 ↔ m D 7 = 0) := by
  have o2 := hD.ws.1
  have s1 : ∀ i, sl 21 m D 0 i = m D i := fun i => sl_e (Nat.zero_le _) i
  unfold WS at o2
  rw [s1, s1, s1, s1, s1, s1, s1, s1, s1, s1] at o2
  omega
theorem l_seed (hD : DI m v D) (h : PostR m v S) (hk : m 47 4 = 6) : LOut (G5_readSeed m) ((G12_onceLine v).bind fun o => G12_lineRead_197 o.2 o.1) m v D S := by
  have hDD := hD.1.1
  have hc : crp 6 4 := by unfold crp; omega
  have hon := onc_at hD.2.2.2.2.1 hc
  have hkr := h.2.2.2.2.2.2.2
  have e9 : v 0 9 = 6 := by
    rw [hk] at hkr
    have ek : kwf 6 = 6 := by decide
    unfold KR SGN NumR at hkr
    rw [ek] at hkr
    omega
  unfold G5_readSeed G5_readSeed_0 G12_onceLine G12_onceLine_0
  rw [if_neg (show ¬ v 0 9 = 1 by omega), if_neg (show ¬ v 0 9 = 4 by omega), if_neg (show ¬ v 0 9 = 5 by omega), c_first]
  by_cases c1 : tb (m 46 6) 6 = 0
  · obtain ⟨hD1, h1⟩ := first_on hD h hc
    have c1v := hon.mp c1
    rw [if_pos c1, bs1]
    unfold G12_onceLine_37
    rw [gdx_t (by omega), if_pos c1v, gdx_t (by omega), gdb_t (by omega)]
    simp only [wt_e, if_neg (show ¬ (4 : Int) = 2 by omega), if_neg (show ¬ (4 : Int) = 1 by omega), if_neg i10, if_true]
    obtain ⟨v2, z1, z2, p2⟩ := h1.tok
    have hD2 := hD1.k Fm.rf (z2.mono Q7_k)
    rw [z1, bs1]
    have fm : Fm (PX D) m (up m 46 6 (b3or (m 46 6) (b3sl 1 (b3an 6 31)))) := Fm.w1 (by unfold PX; omega)
    have fv : Fm QX v (up v 3 4 1) := Fm.w1 (by unfold QX; omega)
    refine lo_tr (m1 := up m 46 6 (b3or (m 46 6) (b3sl 1 (b3an 6 31)))) (v1 := v2) ?_ fm (fv.tr ((z2.mono Q7_k).mono Qk_x)) (by rw [up_a (by omega)]; omega) (by rw [up_a (by omega)])
    generalize up m 46 6 (b3or (m 46 6) (b3sl 1 (b3an 6 31))) = m1 at hD1 h1 fm p2 hD2 ⊢
    obtain ⟨m3, v3, f3, g3, q3, k3⟩ := n_in p2 (lo := 0) (hi := 99999) (by omega)
    rcases k3 with ⟨x, x1, x2, e1, e2, e3, p3, _⟩ | ⟨e1, e2, e3⟩
    · have e10 : m3 46 10 = (D : Int) := by rw [f3 46 10 (by unfold Pk; omega)]; exact hD1.1.2
      rw [e1, e2, bs1, bs1]
      simp only [if_neg i10]
      rw [if_neg (show ¬ x = -1 by omega), e10, Int.toNat_natCast, e3, bs1]
      have nr : ∀ i, i ≠ 10 → up m3 D 10 x D i = m1 D i := fun i a => by rw [up_i a, f3 D i (by unfold Pk; omega)]
      have w4 : ∀ i, i ≠ 13 → up v3 4 13 x 4 i = v2 4 i := fun i a => by rw [up_i a, g3 4 i (by unfold Qk; omega)]
      have o1 := hD2.n
      have o4 := hD2.nb
      obtain ⟨hD5, _⟩ := di_num hD2 (m' := up m3 D 10 x) (v' := up v3 4 13 x) ((f3.mono Pk_f).w (by unfold Pf; omega)) ((g3.mono Qk_f).w (by unfold Qf; omega)) (by rw [up_a (by omega), f3 46 7 (by unfold Pk; omega)]) ⟨by rw [up_a (by omega), g3 0 18 (by unfold Qk; omega)], by rw [up_a (by omega), g3 0 19 (by unfold Qk; omega)], by rw [up_a (by omega), g3 0 24 (by unfold Qk; omega)], w4 7 (by omega), w4 8 (by omega)⟩ ⟨nr 0 (by omega), nr 1 (by omega), nr 2 (by omega), nr 3 (by omega)⟩ (by rw [up_e, nr 6 (by omega), nr 7 (by omega), nr 8 (by omega), nr 9 (by omega)]; omega) (by rw [up_e, up_e, nr 6 (by omega), nr 7 (by omega), nr 8 (by omega), nr 9 (by omega), w4 9 (by omega), w4 10 (by omega), w4 11 (by omega), w4 12 (by omega)]; exact ⟨o1.2.1.2.2.1, o1.2.1.2.2.2.1, o1.2.1.2.2.2.2.1, o1.2.1.2.2.2.2.2.1, rfl⟩)
      have p5 : PreR (up m3 D 10 x) (up v3 4 13 x) S := p3.f (P := fun b i => b = D) (Q := fun b i => b = 4) (Fm.w1 rfl) (Fm.w1 rfl) (by intro b i q; omega) (by intro b i q; omega)
      exact lo_tr (lo_stop hD5 p5) ((f3.mono Pk_x).w (by unfold PX; omega)) ((g3.mono Qk_x).w (by unfold QX; omega)) (by rw [up_a (by omega)]; omega) (nr 12 (by omega))
    · rw [e1, e2, bs1, bs1]
      simp only [if_true, bs1, r197]
      exact lo_flt ⟨m3, v3, f3, g3, q3, rfl, rfl, e3⟩
  · rw [if_neg c1, bs1, onc37 h (by omega) (fun q => c1 (hon.mpr q))]
    simp only [if_true]
    exact lo_ref h 3 rfl rfl
theorem KR_b {k a i x : Int} (h : KR k a i x) : 0 ≤ k ∧ k ≤ 40 := by unfold KR SGN NumR at h; omega
theorem kwf_lo {k : Int} (h : k < 15 ∨ 17 < k) : kwf k = k := by unfold kwf; rw [if_neg (by omega), if_neg (by omega), if_neg (by omega)]
theorem kwf_b {k : Int} (h : 0 ≤ k ∧ k < 24) : 0 ≤ kwf k ∧ kwf k < 24 ∧ (15 ≤ k ∧ k ≤ 17 → 15 ≤ kwf k ∧ kwf k ≤ 17) := by
  unfold kwf
  split
  · omega
  · split
    · omega
    · split <;> omega
/-- a word of the language outside 15 .. 17, on both sides -/
theorem KR_kw {k a i x : Int} (h : KR k a i x) {lo hi : Int} (hb : 0 ≤ lo ∧ hi < 24) (h15 : hi < 15 ∨ 17 < lo) : (lo ≤ k ∧ k ≤ hi) ↔ (i = 1 ∧ lo ≤ x ∧ x ≤ hi) := by
  have hb1 : 0 ≤ k ∧ k < 24 → 0 ≤ kwf k ∧ kwf k < 24 ∧ (15 ≤ k ∧ k ≤ 17 → 15 ≤ kwf k ∧ kwf k ≤ 17) := kwf_b
  have hlo : (k < 15 ∨ 17 < k) → kwf k = k := kwf_lo
  unfold KR SGN NumR at h
  omega
theorem l_rule (hD : DI m v D) (h : PostR m v S) (hk : m 47 4 = 5) : LOut (G5_readRule m) ((G12_onceLine v).bind fun o => G12_lineRead_197 o.2 o.1) m v D S := by
  have hDD := hD.1.1
  have hc : crp 5 3 := by unfold crp; omega
  have hon := onc_at hD.2.2.2.2.1 hc
  have hkr := h.2.2.2.2.2.2.2
  have e9 : v 0 9 = 5 := by
    rw [hk] at hkr
    have ek : kwf 5 = 5 := by decide
    unfold KR SGN NumR at hkr
    rw [ek] at hkr
    omega
  unfold G5_readRule G5_readRule_0 G12_onceLine G12_onceLine_0
  rw [if_neg (show ¬ v 0 9 = 1 by omega), if_neg (show ¬ v 0 9 = 4 by omega), if_pos e9, c_first]
  by_cases c1 : tb (m 46 6) 5 = 0
  · obtain ⟨hD1, h1⟩ := first_on hD h hc
    have c1v := hon.mp c1
    rw [if_pos c1, bs1]
    unfold G12_onceLine_37
    rw [gdx_t (by omega), if_pos c1v, gdx_t (by omega), gdb_t (by omega)]
    simp only [wt_e, if_neg (show ¬ (3 : Int) = 2 by omega), if_neg (show ¬ (3 : Int) = 1 by omega), if_neg (show ¬ (3 : Int) = 4 by omega), if_neg i10, if_true]
    obtain ⟨v2, z1, z2, p2⟩ := h1.tok
    have hD2 := hD1.k Fm.rf (z2.mono Q7_k)
    rw [z1, bs1]
    have fm : Fm (PX D) m (up m 46 6 (b3or (m 46 6) (b3sl 1 (b3an 5 31)))) := Fm.w1 (by unfold PX; omega)
    have fv : Fm QX v (up v 3 3 1) := Fm.w1 (by unfold QX; omega)
    refine lo_tr (m1 := up m 46 6 (b3or (m 46 6) (b3sl 1 (b3an 5 31)))) (v1 := v2) ?_ fm (fv.tr ((z2.mono Q7_k).mono Qk_x)) (by rw [up_a (by omega)]; omega) (by rw [up_a (by omega)])
    generalize up m 46 6 (b3or (m 46 6) (b3sl 1 (b3an 5 31))) = m1 at hD1 h1 fm p2 hD2 ⊢
    obtain ⟨m3, e3, f3, h3, q3, _⟩ := p2.adv
    have hk3 := h3.2.2.2.2.2.2.2
    have hb3 := KR_b hk3
    have hi3 := KR_kw hk3 (lo := 8) (hi := 11) (by omega) (by omega)
    have e10 : m3 46 10 = (D : Int) := by rw [f3 46 10 (by unfold P47; omega)]; exact hD1.1.2
    rw [e3, bs1, gd3_t (by omega), e10, Int.toNat_natCast]
    have hf := f3.mono P47_k
    refine lo_tr (m1 := m3) (v1 := v2) ?_ (hf.mono Pk_x) Fm.rf q3 (f3 D 12 (by unfold P47; omega))
    have bad : ¬ (8 ≤ m3 47 4 ∧ m3 47 4 ≤ 11) → LOut (if m3 47 4 - 8 < 0 then G5_readRule_37 m3 else gd3 (m3 47 4 - 8) (if m3 47 4 - 8 < 4 then gd3 (m3 47 4 - 8) ((G5_readStop (up m3 D 9 (m3 47 4 - 8))).bind fun o18 => gdb o18.1 (some (o18.1, o18.2))) else G5_readRule_37 m3)) ((if v2 0 8 = 1 then if v2 0 9 < 8 then G12_onceLine_168 v2 else if v2 0 9 ≤ 11 then gd3 (v2 0 9 - 8) ((G12_token (up v2 4 12 (v2 0 9 - 8))).bind fun o30 => some (1, o30)) else G12_onceLine_168 v2 else G12_onceLine_168 v2).bind fun o => G12_lineRead_197 o.2 o.1) m3 v2 D S := by
      intro hn
      have hX : (if m3 47 4 - 8 < 0 then G5_readRule_37 m3 else gd3 (m3 47 4 - 8) (if m3 47 4 - 8 < 4 then gd3 (m3 47 4 - 8) ((G5_readStop (up m3 D 9 (m3 47 4 - 8))).bind fun o18 => gdb o18.1 (some (o18.1, o18.2))) else G5_readRule_37 m3)) = some (0, up (up m3 46 8 1) 46 9 (m3 47 5)) := by
        have e37 : G5_readRule_37 m3 = some (0, up (up m3 46 8 1) 46 9 (m3 47 5)) := by unfold G5_readRule_37; rw [c_ref, bs1, gdb_t (by omega)]
        by_cases a : m3 47 4 - 8 < 0
        · rw [if_pos a, e37]
        · rw [if_neg a, gd3_t (by omega), if_neg (by omega), e37]
      have hY : ((if v2 0 8 = 1 then if v2 0 9 < 8 then G12_onceLine_168 v2 else if v2 0 9 ≤ 11 then gd3 (v2 0 9 - 8) ((G12_token (up v2 4 12 (v2 0 9 - 8))).bind fun o30 => some (1, o30)) else G12_onceLine_168 v2 else G12_onceLine_168 v2).bind fun o => G12_lineRead_197 o.2 o.1) = some (0, up (up v2 0 4 1) 0 5 (v2 0 10)) := by
        have e168 : G12_onceLine_168 v2 = some (0, up (up v2 0 4 1) 0 5 (v2 0 10)) := by unfold G12_onceLine_168; rw [r_wrong, bs1, gdb_t (by omega)]
        by_cases a : v2 0 8 = 1
        · by_cases b : v2 0 9 < 8
          · rw [if_pos a, if_pos b, e168, bs1]; exact r197 _
          · rw [if_pos a, if_neg b, if_neg (by omega), e168, bs1]; exact r197 _
        · rw [if_neg a, e168, bs1]; exact r197 _
      exact lo_ref h3 1 hX hY
    by_cases c3 : 8 ≤ m3 47 4 ∧ m3 47 4 ≤ 11
    · obtain ⟨k8, _⟩ := hi3.mp c3
      have ek : v2 0 9 = m3 47 4 := by
        have hlo : kwf (m3 47 4) = m3 47 4 := kwf_lo (by omega)
        unfold KR SGN NumR at hk3
        rw [hlo] at hk3
        omega
      rw [if_neg (by omega), gd3_t (by omega), if_pos (by omega), gd3_t (by omega), if_pos k8, if_neg (by omega), if_pos (by omega), gd3_t (by omega), ek]
      have h4 : PostR (up m3 D 9 (m3 47 4 - 8)) (up v2 4 12 (m3 47 4 - 8)) S := h3.f (P := fun b i => b = D) (Q := fun b i => b = 4) (Fm.w1 rfl) (Fm.w1 rfl) (by intro b i q; omega) (by intro b i q; omega)
      obtain ⟨v4, z4, z5, p4⟩ := h4.tok
      rw [z4, bs1, bs1]
      have nr : ∀ i, i ≠ 9 → up m3 D 9 (m3 47 4 - 8) D i = m1 D i := fun i a => by rw [up_i a, f3 D i (by unfold P47; omega)]
      have w4 : ∀ i, i ≠ 12 → v4 4 i = v2 4 i := fun i a => by rw [z5 4 i (by unfold Q7; omega), up_i a]
      have w12 : v4 4 12 = m3 47 4 - 8 := by rw [z5 4 12 (by unfold Q7; omega), up_e]
      have w0 : ∀ i, (i < 7 ∨ 10 < i) → v4 0 i = v2 0 i := fun i a => by rw [z5 0 i (by unfold Q7; omega), up_a (by omega)]
      have o1 := hD2.n
      have o4 := hD2.nb
      have gv : Fm Qf v2 v4 := (Fm.w1 (by unfold Qf; omega)).tr ((z5.mono Q7_k).mono Qk_f)
      obtain ⟨hD5, _⟩ := di_num hD2 (m' := up m3 D 9 (m3 47 4 - 8)) (v' := v4) ((hf.mono Pk_f).w (by unfold Pf; omega)) gv (by rw [up_a (by omega), f3 46 7 (by unfold P47; omega)]) ⟨w0 18 (by omega), w0 19 (by omega), w0 24 (by omega), w4 7 (by omega), w4 8 (by omega)⟩ ⟨nr 0 (by omega), nr 1 (by omega), nr 2 (by omega), nr 3 (by omega)⟩ (by rw [up_e, nr 6 (by omega), nr 7 (by omega), nr 8 (by omega), nr 10 (by omega)]; omega) (by rw [up_e, w12, nr 6 (by omega), nr 7 (by omega), nr 8 (by omega), nr 10 (by omega), w4 9 (by omega), w4 10 (by omega), w4 11 (by omega), w4 13 (by omega)]; exact ⟨o1.2.1.2.2.1, o1.2.1.2.2.2.1, o1.2.1.2.2.2.2.1, rfl, o1.2.1.2.2.2.2.2.2⟩)
      refine lo_tr (lo_stop hD5 p4) (Fm.w1 (by unfold PX; omega)) ((Fm.w1 (by unfold QX; omega)).tr ((z5.mono Q7_k).mono Qk_x)) (by rw [up_a (by omega)]; omega) ?_
      rw [nr 12 (by omega), f3 D 12 (by unfold P47; omega)]
    · exact bad c3
  · rw [if_neg c1, bs1, onc37 h (by omega) (fun q => c1 (hon.mpr q))]
    simp only [if_true]
    exact lo_ref h 3 rfl rfl
theorem l_bank (hD : DI m v D) (h : PostR m v S) (hk : m 47 4 = 4) : LOut (G5_readBank m) ((G12_onceLine v).bind fun o => G12_lineRead_197 o.2 o.1) m v D S := by
  have hDD := hD.1.1
  have hc : crp 4 2 := by unfold crp; omega
  have hon := onc_at hD.2.2.2.2.1 hc
  have hkr := h.2.2.2.2.2.2.2
  have e9 : v 0 9 = 4 := by
    rw [hk] at hkr
    have ek : kwf 4 = 4 := by decide
    unfold KR SGN NumR at hkr
    rw [ek] at hkr
    omega
  unfold G5_readBank G5_readBank_0 G12_onceLine G12_onceLine_0
  rw [if_neg (show ¬ v 0 9 = 1 by omega), if_pos e9, c_first]
  by_cases c1 : tb (m 46 6) 4 = 0
  · obtain ⟨hD1, h1⟩ := first_on hD h hc
    have c1v := hon.mp c1
    rw [if_pos c1, bs1]
    unfold G12_onceLine_37 G12_bankLine G12_bankLine_0
    rw [gdx_t (by omega), if_pos c1v, gdx_t (by omega), gdb_t (by omega)]
    simp only [wt_e, if_neg i10, if_true]
    obtain ⟨v2, z1, z2, p2⟩ := h1.tok
    have hD2 := hD1.k Fm.rf (z2.mono Q7_k)
    rw [z1, bs1]
    have fm : Fm (PX D) m (up m 46 6 (b3or (m 46 6) (b3sl 1 (b3an 4 31)))) := Fm.w1 (by unfold PX; omega)
    have fv : Fm QX v (up v 3 2 1) := Fm.w1 (by unfold QX; omega)
    refine lo_tr (m1 := up m 46 6 (b3or (m 46 6) (b3sl 1 (b3an 4 31)))) (v1 := v2) ?_ fm (fv.tr ((z2.mono Q7_k).mono Qk_x)) (by rw [up_a (by omega)]; omega) (by rw [up_a (by omega)])
    generalize up m 46 6 (b3or (m 46 6) (b3sl 1 (b3an 4 31))) = m1 at hD1 h1 fm p2 hD2 ⊢
    obtain ⟨m3, v3, f3, g3, q3, k3⟩ := n_in p2 (lo := 1) (hi := 20) (by omega)
    rcases k3 with ⟨x, x1, x2, e1, e2, e3, p3, _⟩ | ⟨e1, e2, e3⟩
    · rw [e1, e2, bs1, bs1]
      simp only [if_neg i10]
      rw [if_neg (show ¬ x = -1 by omega), e3]
      have p3' : PreR m3 (up v3 4 9 x) S := p3.f (P := fun _ _ => False) (Q := fun b i => b = 4) Fm.rf (Fm.w1 rfl) (fun b i _ => id) (by intro b i q; omega)
      refine lo_tr (m1 := m3) (v1 := up v3 4 9 x) ?_ (f3.mono Pk_x) ((g3.mono Qk_x).w (by unfold QX; omega)) q3 (f3 D 12 (by unfold Pk; omega))
      obtain ⟨m4, v4, f4, g4, q4, k4⟩ := n_in p3' (lo := 1) (hi := 20) (by omega)
      rcases k4 with ⟨y, y1, y2, e4, e5, e6, p4, _⟩ | ⟨e4, e5, e6⟩
      · rw [e4, e5, bs1, bs1]
        simp only [if_neg i10]
        unfold G5_readBank_34
        rw [if_neg (show ¬ y = -1 by omega), e6]
        have p4' : PreR m4 (up v4 4 10 y) S := p4.f (P := fun _ _ => False) (Q := fun b i => b = 4) Fm.rf (Fm.w1 rfl) (fun b i _ => id) (by intro b i q; omega)
        refine lo_tr (m1 := m4) (v1 := up v4 4 10 y) ?_ (f4.mono Pk_x) ((g4.mono Qk_x).w (by unfold QX; omega)) q4 (f4 D 12 (by unfold Pk; omega))
        obtain ⟨m5, v5, f5, g5, q5, k5⟩ := n_in p4' (lo := 1) (hi := 9) (by omega)
        rcases k5 with ⟨z, z3, z4, e7, e8, e11, p5, _⟩ | ⟨e7, e8, e11⟩
        · rw [e7, e8, bs1, bs1]
          simp only [if_neg i10]
          unfold G5_readBank_51
          have e10 : m5 46 10 = (D : Int) := by rw [f5 46 10 (by unfold Pk; omega), f4 46 10 (by unfold Pk; omega), f3 46 10 (by unfold Pk; omega)]; exact hD1.1.2
          have e10a : up m5 D 6 x 46 10 = (D : Int) := by rw [up_a (by omega)]; exact e10
          have e10b : up (up m5 D 6 x) D 7 y 46 10 = (D : Int) := by rw [up_a (by omega)]; exact e10a
          rw [if_neg (show ¬ z = -1 by omega), e11, e10, Int.toNat_natCast, wt_e, e10a, Int.toNat_natCast, wt_e, e10b, Int.toNat_natCast, wt_e, bs1]
          simp only [gdb_t (show (1 : Int) = 0 ∨ (1 : Int) = 1 from Or.inr rfl), bs1]
          have nr : ∀ i, i ≠ 6 → i ≠ 7 → i ≠ 8 → up (up (up m5 D 6 x) D 7 y) D 8 z D i = m1 D i := fun i a b c => by rw [up_i c, up_i b, up_i a, f5 D i (by unfold Pk; omega), f4 D i (by unfold Pk; omega), f3 D i (by unfold Pk; omega)]
          have n6 : up (up (up m5 D 6 x) D 7 y) D 8 z D 6 = x := by rw [up_i (by omega), up_i (by omega), up_e]
          have n7 : up (up (up m5 D 6 x) D 7 y) D 8 z D 7 = y := by rw [up_i (by omega), up_e]
          have w4 : ∀ i, i ≠ 9 → i ≠ 10 → i ≠ 11 → up v5 4 11 z 4 i = v2 4 i := fun i a b c => by rw [up_i c, g5 4 i (by unfold Qk; omega), up_i b, g4 4 i (by unfold Qk; omega), up_i a, g3 4 i (by unfold Qk; omega)]
          have w9 : up v5 4 11 z 4 9 = x := by rw [up_i (by omega), g5 4 9 (by unfold Qk; omega), up_i (by omega), g4 4 9 (by unfold Qk; omega), up_e]
          have w10 : up v5 4 11 z 4 10 = y := by rw [up_i (by omega), g5 4 10 (by unfold Qk; omega), up_e]
          have w0 : ∀ i, ¬ Qk 0 i → up v5 4 11 z 0 i = v2 0 i := fun i a => by rw [up_a (by omega), g5 0 i a, up_a (by omega), g4 0 i a, up_a (by omega), g3 0 i a]
          have o1 := hD2.n
          have o4 := hD2.nb
          have fm5 : Fm (Pf D) m1 (up (up (up m5 D 6 x) D 7 y) D 8 z) := (((((f3.tr f4).tr f5).mono Pk_f).w (by unfold Pf; omega)).w (by unfold Pf; omega)).w (by unfold Pf; omega)
          have fv5 : Fm Qf v2 (up v5 4 11 z) := (((((g3.mono Qk_f).w (by unfold Qf; omega)).tr (g4.mono Qk_f)).w (by unfold Qf; omega)).tr (g5.mono Qk_f)).w (by unfold Qf; omega)
          obtain ⟨hD5, _⟩ := di_num hD2 fm5 fv5 (by rw [up_a (by omega), up_a (by omega), up_a (by omega), f5 46 7 (by unfold Pk; omega), f4 46 7 (by unfold Pk; omega), f3 46 7 (by unfold Pk; omega)]) ⟨w0 18 (by unfold Qk; omega), w0 19 (by unfold Qk; omega), w0 24 (by unfold Qk; omega), w4 7 (by omega) (by omega) (by omega), w4 8 (by omega) (by omega) (by omega)⟩ ⟨nr 0 (by omega) (by omega) (by omega), nr 1 (by omega) (by omega) (by omega), nr 2 (by omega) (by omega) (by omega), nr 3 (by omega) (by omega) (by omega)⟩ (by rw [n6, n7, up_e, nr 9 (by omega) (by omega) (by omega), nr 10 (by omega) (by omega) (by omega)]; omega) (by rw [n6, n7, w9, w10, up_e, up_e, nr 9 (by omega) (by omega) (by omega), nr 10 (by omega) (by omega) (by omega), w4 12 (by omega) (by omega) (by omega), w4 13 (by omega) (by omega) (by omega)]; exact ⟨rfl, rfl, rfl, o1.2.1.2.2.2.2.2.1, o1.2.1.2.2.2.2.2.2⟩)
          have p6 : PreR (up (up (up m5 D 6 x) D 7 y) D 8 z) (up v5 4 11 z) S := p5.f (P := fun b i => b = D) (Q := fun b i => b = 4) (((Fm.w1 rfl).w rfl).w rfl) (Fm.w1 rfl) (by intro b i q; omega) (by intro b i q; omega)
          refine lo_tr (lo_stop hD5 p6) ((((f5.mono Pk_x).w (by unfold PX; omega)).w (by unfold PX; omega)).w (by unfold PX; omega)) ((g5.mono Qk_x).w (by unfold QX; omega)) (by rw [up_a (by omega), up_a (by omega), up_a (by omega)]; omega) ?_
          rw [nr 12 (by omega) (by omega) (by omega), f4 D 12 (by unfold Pk; omega), f3 D 12 (by unfold Pk; omega)]
        · rw [e7, e8, bs1, bs1]
          unfold G5_readBank_51
          simp only [if_true, bs1, gdb_t (show (0 : Int) = 0 ∨ (0 : Int) = 1 from Or.inl rfl), r197]
          exact lo_flt ⟨m5, v5, f5, g5, q5, rfl, rfl, e11⟩
      · rw [e4, e5, bs1, bs1]
        unfold G5_readBank_34 G5_readBank_51
        simp only [if_true, bs1, gdb_t (show (0 : Int) = 0 ∨ (0 : Int) = 1 from Or.inl rfl), r197]
        exact lo_flt ⟨m4, v4, f4, g4, q4, rfl, rfl, e6⟩
    · rw [e1, e2, bs1, bs1]
      unfold G5_readBank_34 G5_readBank_51
      simp only [if_true, bs1, gdb_t (show (0 : Int) = 0 ∨ (0 : Int) = 1 from Or.inl rfl), r197]
      exact lo_flt ⟨m3, v3, f3, g3, q3, rfl, rfl, e3⟩
  · rw [if_neg c1, bs1, onc37 h (by omega) (fun q => c1 (hon.mpr q))]
    simp only [if_true]
    exact lo_ref h 3 rfl rfl
end Q27
