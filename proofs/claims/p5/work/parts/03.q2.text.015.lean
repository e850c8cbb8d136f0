section Q27
variable {m v : Mem} {S : Int} {D : Nat}
theorem l_rule (hD : DI m v D) (h : PostR m v S) (hk : m 47 4 = 5) : LOut (G5_readRule m) ((G12_onceLine v).bind fun o => G12_lineRead_197 o.2 o.1) m v D S := by
  have hDD := hD.1.1
  have hc : crp 5 3 := by unfold crp; omega
  have hon := onc_at hD.2.2.2.2.1 hc
  have hkr := h.2.2.2.2.2.2.2
  have e9 : v 0 9 = 5 := by
    rw [hk] at hkr
    have ek : kwf 5 = 5 := by decide
    unfold KR SGN NumR at hkr
    rw [ek] at hkr
    omega
  unfold G5_readRule G5_readRule_0 G12_onceLine G12_onceLine_0
  rw [if_neg (show ¬ v 0 9 = 1 by first | decide | omega), if_neg (show ¬ v 0 9 = 4 by first | decide | omega), if_pos e9, c_first]
  by_cases c1 : tb (m 46 6) 5 = 0
  · obtain ⟨hD1, h1⟩ := first_on hD h hc
    have c1v := hon.mp c1
    rw [if_pos c1, bs1]
    unfold G12_onceLine_37
    rw [gdx_t (by first | decide | omega), if_pos c1v, gdx_t (by first | decide | omega), gdb_t (by first | decide | omega)]
    simp only [wt_e, if_neg (show ¬ (3 : Int) = 2 by first | decide | omega), if_neg (show ¬ (3 : Int) = 1 by first | decide | omega), if_neg (show ¬ (3 : Int) = 4 by first | decide | omega), if_neg i10, if_true]
    obtain ⟨v2, z1, z2, p2⟩ := h1.tok
    have hD2 := hD1.k Fm.rf (z2.mono Q7_k)
    rw [z1, bs1]
    have fm : Fm (PX D) m (up m 46 6 (b3or (m 46 6) (b3sl 1 (b3an 5 31)))) := Fm.w1 (by unfold PX; first | decide | omega)
    have fv : Fm QX v (up v 3 3 1) := Fm.w1 (by unfold QX; first | decide | omega)
    refine lo_tr (m1 := up m 46 6 (b3or (m 46 6) (b3sl 1 (b3an 5 31)))) (v1 := v2) ?_ fm (fv.tr ((z2.mono Q7_k).mono Qk_x)) (by rw [up_a (by first | decide | omega)]; first | decide | omega) (by rw [up_a (by first | decide | omega)])
    generalize up m 46 6 (b3or (m 46 6) (b3sl 1 (b3an 5 31))) = m1 at hD1 h1 fm p2 hD2 ⊢
    obtain ⟨m3, e3, f3, h3, q3, _⟩ := p2.adv
    have hk3 := h3.2.2.2.2.2.2.2
    have hb3 := KR_b hk3
    have hi3 := KR_kw hk3 (lo := 8) (hi := 11) (by first | decide | omega) (by first | decide | omega)
    have e10 : m3 46 10 = (D : Int) := by rw [f3 46 10 (by unfold P47; first | decide | omega)]; exact hD1.1.2
    rw [e3, bs1, gd3_t (by first | decide | omega), e10, Int.toNat_natCast]
    have hf := f3.mono P47_k
    refine lo_tr (m1 := m3) (v1 := v2) ?_ (hf.mono Pk_x) Fm.rf q3 (f3 D 12 (by unfold P47; first | decide | omega))
    have bad : ¬ (8 ≤ m3 47 4 ∧ m3 47 4 ≤ 11) → LOut (if m3 47 4 - 8 < 0 then G5_readRule_37 m3 else gd3 (m3 47 4 - 8) (if m3 47 4 - 8 < 4 then gd3 (m3 47 4 - 8) ((G5_readStop (up m3 D 9 (m3 47 4 - 8))).bind fun o18 => gdb o18.1 (some (o18.1, o18.2))) else G5_readRule_37 m3)) ((if v2 0 8 = 1 then if v2 0 9 < 8 then G12_onceLine_168 v2 else if v2 0 9 ≤ 11 then gd3 (v2 0 9 - 8) ((G12_token (up v2 4 12 (v2 0 9 - 8))).bind fun o30 => some (1, o30)) else G12_onceLine_168 v2 else G12_onceLine_168 v2).bind fun o => G12_lineRead_197 o.2 o.1) m3 v2 D S := by
      intro hn
      have hX : (if m3 47 4 - 8 < 0 then G5_readRule_37 m3 else gd3 (m3 47 4 - 8) (if m3 47 4 - 8 < 4 then gd3 (m3 47 4 - 8) ((G5_readStop (up m3 D 9 (m3 47 4 - 8))).bind fun o18 => gdb o18.1 (some (o18.1, o18.2))) else G5_readRule_37 m3)) = some (0, up (up m3 46 8 1) 46 9 (m3 47 5)) := by
        have e37 : G5_readRule_37 m3 = some (0, up (up m3 46 8 1) 46 9 (m3 47 5)) := by unfold G5_readRule_37; rw [c_ref, bs1, gdb_t (by first | decide | omega)]
        by_cases a : m3 47 4 - 8 < 0
        · rw [if_pos a, e37]
        · rw [if_neg a, gd3_t (by first | decide | omega), if_neg (by first | decide | omega), e37]
      have hY : ((if v2 0 8 = 1 then if v2 0 9 < 8 then G12_onceLine_168 v2 else if v2 0 9 ≤ 11 then gd3 (v2 0 9 - 8) ((G12_token (up v2 4 12 (v2 0 9 - 8))).bind fun o30 => some (1, o30)) else G12_onceLine_168 v2 else G12_onceLine_168 v2).bind fun o => G12_lineRead_197 o.2 o.1) = some (0, up (up v2 0 4 1) 0 5 (v2 0 10)) := by
        have e168 : G12_onceLine_168 v2 = some (0, up (up v2 0 4 1) 0 5 (v2 0 10)) := by unfold G12_onceLine_168; rw [r_wrong, bs1, gdb_t (by first | decide | omega)]
        by_cases a : v2 0 8 = 1
        · by_cases b : v2 0 9 < 8
          · rw [if_pos a, if_pos b, e168, bs1]; exact r197 _
          · rw [if_pos a, if_neg b, if_neg (by first | decide | omega), e168, bs1]; exact r197 _
        · rw [if_neg a, e168, bs1]; exact r197 _
      exact lo_ref h3 1 hX hY
    by_cases c3 : 8 ≤ m3 47 4 ∧ m3 47 4 ≤ 11
    · obtain ⟨k8, _⟩ := hi3.mp c3
      have ek : v2 0 9 = m3 47 4 := by
        have hlo : kwf (m3 47 4) = m3 47 4 := kwf_lo (by first | decide | omega)
        unfold KR SGN NumR at hk3
        rw [hlo] at hk3
        omega
      rw [if_neg (by first | decide | omega), gd3_t (by first | decide | omega), if_pos (by first | decide | omega), gd3_t (by first | decide | omega), if_pos k8, if_neg (by first | decide | omega), if_pos (by first | decide | omega), gd3_t (by first | decide | omega), ek]
      have h4 : PostR (up m3 D 9 (m3 47 4 - 8)) (up v2 4 12 (m3 47 4 - 8)) S := h3.f (P := fun b i => b = D) (Q := fun b i => b = 4) (Fm.w1 rfl) (Fm.w1 rfl) (by intro b i q; first | decide | omega) (by intro b i q; first | decide | omega)
      obtain ⟨v4, z4, z5, p4⟩ := h4.tok
      rw [z4, bs1, bs1]
      have nr : ∀ i, i ≠ 9 → up m3 D 9 (m3 47 4 - 8) D i = m1 D i := fun i a => by rw [up_i a, f3 D i (by unfold P47; first | decide | omega)]
      have w4 : ∀ i, i ≠ 12 → v4 4 i = v2 4 i := fun i a => by rw [z5 4 i (by unfold Q7; first | decide | omega), up_i a]
      have w12 : v4 4 12 = m3 47 4 - 8 := by rw [z5 4 12 (by unfold Q7; first | decide | omega), up_e]
      have w0 : ∀ i, (i < 7 ∨ 10 < i) → v4 0 i = v2 0 i := fun i a => by rw [z5 0 i (by unfold Q7; first | decide | omega), up_a (by first | decide | omega)]
      have o1 := hD2.n
      have o4 := hD2.nb
      have gv : Fm Qf v2 v4 := (Fm.w1 (by unfold Qf; first | decide | omega)).tr ((z5.mono Q7_k).mono Qk_f)
      obtain ⟨hD5, _⟩ := di_num hD2 (m' := up m3 D 9 (m3 47 4 - 8)) (v' := v4) ((hf.mono Pk_f).w (by unfold Pf; first | decide | omega)) gv (by rw [up_a (by first | decide | omega), f3 46 7 (by unfold P47; first | decide | omega)]) ⟨w0 18 (by first | decide | omega), w0 19 (by first | decide | omega), w0 24 (by first | decide | omega), w4 7 (by first | decide | omega), w4 8 (by first | decide | omega)⟩ ⟨nr 0 (by first | decide | omega), nr 1 (by first | decide | omega), nr 2 (by first | decide | omega), nr 3 (by first | decide | omega)⟩ (by rw [up_e, nr 6 (by first | decide | omega), nr 7 (by first | decide | omega), nr 8 (by first | decide | omega), nr 10 (by first | decide | omega)]; first | decide | omega) (by rw [up_e, w12, nr 6 (by first | decide | omega), nr 7 (by first | decide | omega), nr 8 (by first | decide | omega), nr 10 (by first | decide | omega), w4 9 (by first | decide | omega), w4 10 (by first | decide | omega), w4 11 (by first | decide | omega), w4 13 (by first | decide | omega)]; exact ⟨o1.2.1.2.2.1, o1.2.1.2.2.2.1, o1.2.1.2.2.2.2.1, rfl, o1.2.1.2.2.2.2.2.2⟩)
      refine lo_tr (lo_stop hD5 p4) (Fm.w1 (by unfold PX; first | decide | omega)) ((Fm.w1 (by unfold QX; first | decide | omega)).tr ((z5.mono Q7_k).mono Qk_x)) (by rw [up_a (by first | decide | omega)]; first | decide | omega) ?_
      rw [nr 12 (by first | decide | omega), f3 D 12 (by unfold P47; first | decide | omega)]
    · exact bad c3
  · rw [if_neg c1, bs1, onc37 h (by first | decide | omega) (fun q => c1 (hon.mpr q))]
    simp only [if_true]
    exact lo_ref h 3 rfl rfl
end Q27
