section Q2
variable {m v w g n : Mem} {T : Nat}
theorem r_find (o N x : Int) (f : Int → Int) (ho : 0 ≤ o ∧ o + N ≤ 10) : ∀ (d k : Nat) (i : Int), 0 ≤ i → N - i = d → d < k → (∀ j, 0 ≤ j → j < N → v 5 (o + j) = f j) → G12_find_3 k v o N x i = some (fnd f x d i, v) := by
  intro d
  induction d with
  | zero =>
    intro k i a1 a2 a3 hf
    obtain ⟨k, rfl⟩ : ∃ j, k = j + 1 := ⟨k - 1, by first | decide | omega⟩
    rw [G12_find_3, if_pos (by first | decide | omega)]
    rfl
  | succ d ih =>
    intro k i a1 a2 a3 hf
    obtain ⟨k, rfl⟩ : ∃ j, k = j + 1 := ⟨k - 1, by first | decide | omega⟩
    rw [G12_find_3, if_neg (by first | decide | omega), gdx_t (by first | decide | omega), hf i a1 (by first | decide | omega), fnd_s, gd3_t (by first | decide | omega), ih k (i + 1) (by first | decide | omega) (by first | decide | omega) (by first | decide | omega) hf]
    split <;> rfl
theorem a_named (h : Rel m v) (x : Int) : Agr (G11_named m x) (G12_named v x) := by
  have h1 := h.v0
  unfold G11_named G11_named_0 G12_named G12_named_0 G12_find G12_find_0
  rw [wt_e]
  generalize up v 0 2 0 = u at h1 ⊢
  obtain ⟨T, w, g, n, t1, t2, hc, hn, hW, hG, hE, hS, hR, hV, hL, -, -, -⟩ := h1.use
  have hw := hW.1
  unfold WS at hw
  rw [hR.1.2.2.1, r_find 0 (w 1 0) x (w 2) (by first | decide | omega) (w 1 0).toNat 1024 0 (by first | decide | omega) (by first | decide | omega) (by first | decide | omega) (fun j p q => by rw [Int.zero_add]; exact (hR.2.2.1 j p q).1), bs1]
  exact agr0 h1 _ (c_nam t2 hc.1 (by first | decide | omega) x (w 1 0).toNat 1024 0 (by first | decide | omega) (by first | decide | omega) (by first | decide | omega)) rfl
theorem a_wave (h : Rel m v) (x y : Int) : Agr (G11_wave m x y) (G12_wave v x y) := by
  have h1 := h.v0
  unfold G11_wave G11_wave_0 G12_wave G12_wave_0
  rw [wt_e]
  generalize up v 0 2 0 = u at h1 ⊢
  obtain ⟨T, w, g, n, t1, t2, hc, hn, hW, hG, hE, hS, hR, hV, hL, -, -, -⟩ := h1.use
  have hw := hW.1
  unfold WS at hw
  rw [c_isV t2 hc.1, r_isV hR, bs1, bs1]
  by_cases c : 0 ≤ x ∧ x < w 8 1
  · obtain ⟨k1, k2, k3, k4, k5, k6, k7, k8, k9, k10⟩ := wnm hR hW c
    rw [k9] at k3 k4 k5 k6 k10
    simp only [if_pos c, if_neg i10]
    have e1 : m (T + 11) x = w 11 x := hc.1.2.2 11 x (by first | decide | omega)
    have e2 : m (T + 12) x = w 12 x := hc.1.2.2 12 x (by first | decide | omega)
    have e3 : m (T + 13) x = w 13 x := hc.1.2.2 13 x (by first | decide | omega)
    have e4 : m (T + 14) x = w 14 x := hc.1.2.2 14 x (by first | decide | omega)
    have e5 : m (69 + 6) x = n 6 x := hn.2.2 6 x (by first | decide | omega)
    have e6 : u 30 x = n 6 x := by have := hV.1.2.1 x c.1 c.2; rwa [show 28 * (0 : Int) + x = x by first | decide | omega] at this
    simp only [t2, Int.toNat_natCast, e1, e2, e3, e4, e5, gdx_t (show 0 ≤ x ∧ x < 28 by first | decide | omega), gdx_t (show 0 ≤ x ∧ x < 56 by first | decide | omega), gdx_t (show 0 ≤ w 13 x ∧ w 13 x < 8 from ⟨k3, k4⟩), gd3_t (show -2147483648 ≤ w 14 x ∧ w 14 x ≤ 2147483647 by first | decide | omega), k10, k7, k8, k9, e6]
    split
    · exact agr0 h1 _ rfl rfl
    · split
      · exact agr0 h1 _ rfl rfl
      · split
        · exact agr0 h1 _ rfl rfl
        · split
          · exact agr0 h1 _ rfl rfl
          · split
            · exact agr0 h1 _ rfl rfl
            · exact agr0 h1 _ rfl rfl
  · simp only [if_neg c, if_true]
    exact agr0 h1 _ rfl rfl
theorem a_peak (h : Rel m v) (x : Int) : Agr (G11_peak m x) (G12_peak v x) := by
  have h1 := h.v0
  unfold G11_peak G11_peak_0 G12_peak G12_peak_0
  rw [wt_e]
  generalize up v 0 2 0 = u at h1 ⊢
  obtain ⟨T, w, g, n, t1, t2, hc, hn, hW, hG, hE, hS, hR, hV, hL, -, -, -⟩ := h1.use
  have hw := hW.1
  unfold WS at hw
  rw [r_isIn, bs1]
  by_cases c : 0 ≤ x ∧ x ≤ 199
  · obtain ⟨m', e1, f1⟩ := g_pkX hc hW (mn := x) (by first | decide | omega)
    obtain ⟨v', e2, f2⟩ := m_pk hR hW (mn := x) (by first | decide | omega)
    have hb := pkX_b hW x
    have hcb := (pk_dm hW hb).2.2
    have hc2 := cells_b hW
    have e3 : w 0 3 * w 0 0 = w 0 0 * w 0 3 := Int.mul_comm _ _
    simp only [if_pos c, if_neg i10, if_neg (show ¬ x < 0 by first | decide | omega), if_pos c.2]
    rw [e1, e2, bs1, bs1]
    simp only [t2, Int.toNat_natCast, hc.1.2.1]
    rw [gd3_t (by first | decide | omega), hV.2.2.2.2, e3]
    exact agr h1 _ rfl rfl (f1.mono PN_Q) (f2.mono PNm_q)
  · simp only [if_neg c, if_true]
    by_cases c1 : x < 0
    · rw [if_pos c1]; exact agr0 h1 _ rfl rfl
    · rw [if_neg c1, if_neg (by first | decide | omega)]; exact agr0 h1 _ rfl rfl
theorem a_odds (h : Rel m v) (x y z : Int) : Agr (G11_odds m x y z) (G12_odds v x y z) := by
  have h1 := h.v0
  unfold G11_odds G11_odds_0 G12_odds G12_odds_0
  rw [wt_e]
  generalize up v 0 2 0 = u at h1 ⊢
  obtain ⟨T, w, g, n, t1, t2, hc, hn, hW, hG, hE, hS, hR, hV, hL, -, -, -⟩ := h1.use
  have hw := hW.1
  unfold WS at hw
  rw [c_isS t2 hc.1, r_isS hR, bs1, bs1]
  by_cases c1 : 0 ≤ x ∧ x < w 1 0
  · simp only [if_pos c1, if_neg i10]
    rw [c_isV t2 hc.1, r_isV hR, bs1, bs1]
    by_cases c2 : 0 ≤ y ∧ y < w 8 1
    · simp only [if_pos c2, if_neg i10]
      rw [c_isC t2 hc.1 hW, r_isC hR hW, bs1, bs1]
      by_cases c3 : 0 ≤ z ∧ z < w 0 0 * w 0 1
      · simp only [if_pos c3, if_neg i10]
        have hg := hG.1 x c1.1 c1.2
        obtain ⟨m', e1, f1⟩ := g_odds hc hW (x := x) (v := y) (c := z) (by first | decide | omega) ⟨hg.1, hg.2.1⟩ c2 c3 (hG.2 y c2.1 c2.2)
        obtain ⟨v', e2, f2⟩ := m_odds hR hW c1 c2 c3
        rw [hV.2.2.2.2] at e2
        rw [e1, e2, bs1, bs1, (hE.1 x c1.1 c1.2).1, hE.2 y c2.1 c2.2]
        exact agr h1 _ rfl rfl (f1.mono PN_Q) (f2.mono PNm_q)
      · simp only [if_neg c3, if_true]; exact agr0 h1 _ rfl rfl
    · simp only [if_neg c2, if_true]; exact agr0 h1 _ rfl rfl
  · simp only [if_neg c1, if_true]; exact agr0 h1 _ rfl rfl
theorem c_fn (h : CX m 51 T w g) (t2 : m 0 3 = (T : Int)) (hn : NX m 69 n) (hW : WW w) (hS : SN w n) {s : Int} (hs : 0 ≤ s ∧ s < w 1 0) : ∃ m', G11_farNow m s = some (fr w (n 1 s) (pkX w (n 0 0)), m') ∧ Fr (PN 51) m m' := by
  have hw := hW.1
  unfold WS at hw
  have hb := (hS.1.2 s hs.1 hs.2).1
  obtain ⟨m1, e1, f1⟩ := g_pkX h hW (mn := n 0 0) (by have := hS.2.1; first | decide | omega)
  have hpb := pkX_b hW (n 0 0)
  unfold G11_farNow G11_farNow_0
  have e0 : m 69 0 = n 0 0 := hn.2.1 0
  have e2 : m (69 + 1) s = n 1 s := hn.2.2 1 s (by first | decide | omega)
  rw [gdx_t (by first | decide | omega), e0, e1, bs1, t2, Int.toNat_natCast, e2]
  simp only
  rw [g_far (h.pn f1).1 (by first | decide | omega) (by first | decide | omega) (by first | decide | omega) hb hpb, bs1]
  exact ⟨m1, rfl, f1⟩
theorem a_deeper (h : Rel m v) (x y : Int) : Agr (G11_deeper m x y) (G12_deeper v x y) := by
  have h1 := h.v0
  unfold G11_deeper G11_deeper_0 G12_deeper G12_deeper_0
  rw [wt_e]
  generalize up v 0 2 0 = u at h1 ⊢
  obtain ⟨T, w, g, n, t1, t2, hc, hn, hW, hG, hE, hS, hR, hV, hL, -, -, -⟩ := h1.use
  have hw := hW.1
  unfold WS at hw
  rw [c_isS t2 hc.1, r_isS hR, bs1, bs1]
  by_cases c1 : 0 ≤ x ∧ x < w 1 0
  · simp only [if_pos c1, if_neg i10]
    rw [c_isS t2 hc.1, r_isS hR, bs1, bs1]
    by_cases c2 : 0 ≤ y ∧ y < w 1 0
    · simp only [if_pos c2, if_neg i10]
      obtain ⟨m1, e1, f1⟩ := c_fn hc t2 hn hW hS c1
      have g1 := f1.mono PN_Q
      have hc1 := hc.pn f1
      have hn1 := hn.pl (Or.inl rfl) (f1.mono PN_PL)
      obtain ⟨m2, e2, f2⟩ := c_fn hc1 (by rw [f1 0 3 (by unfold PN; first | decide | omega)]; exact t2) hn1 hW hS c2
      rw [e1, bs1]
      simp only
      rw [e2, bs1]
      obtain ⟨u1, e3, f3⟩ := m_pk hR hW (mn := n 0 0) (by have := hS.2.1; first | decide | omega)
      rw [hV.2.2.2.2] at e3
      have hR1 := hR.pn f3
      have hpb := pkX_b hW (n 0 0)
      have hbx := (hS.1.2 x c1.1 c1.2).1
      have hby := (hS.1.2 y c2.1 c2.2).1
      have k1 : u1 25 x = n 1 x := by rw [f3 25 x (by unfold PNm; first | decide | omega)]; have := (hV.1.1 x c1.1 c1.2).1; rwa [show 5 * (0 : Int) + x = x by first | decide | omega] at this
      have k2 : u1 25 y = n 1 y := by rw [f3 25 y (by unfold PNm; first | decide | omega)]; have := (hV.1.1 y c2.1 c2.2).1; rwa [show 5 * (0 : Int) + y = y by first | decide | omega] at this
      have ep : pxM w (-1) (n 0 0) = pkX w (n 0 0) := rfl
      rw [hV.2.1, e3, bs1, gdx_t (by first | decide | omega)]
      simp only
      rw [k1, ep, m_far hR1 hW hbx hpb, bs1, gdx_t (by first | decide | omega)]
      simp only
      rw [k2, m_far hR1 hW hby hpb, bs1]
      simp only
      generalize fr w (n 1 x) (pkX w (n 0 0)) = A
      generalize fr w (n 1 y) (pkX w (n 0 0)) = B
      have F := g1.tr (f2.mono PN_Q)
      have G := f3.mono PNm_q
      by_cases z1 : A = B
      · rw [if_pos z1, if_pos (by first | decide | omega), if_pos (by first | decide | omega)]; exact agr h1 _ rfl rfl F G
      · rw [if_neg z1]
        by_cases z2 : B ≤ A
        · rw [if_pos z2, if_pos z2, if_neg (by first | decide | omega)]; exact agr h1 _ rfl rfl F G
        · rw [if_neg z2, if_neg z2]; exact agr h1 _ rfl rfl F G
    · simp only [if_neg c2, if_true]; exact agr0 h1 _ rfl rfl
  · simp only [if_neg c1, if_true]; exact agr0 h1 _ rfl rfl
theorem a_give (h : Rel m v) (x y z : Int) : Agr (G11_give m x y z) (G12_give v x y z) := by
  have h1 := h.v0
  unfold G11_give G11_give_0 G12_give G12_give_0
  rw [wt_e]
  generalize up v 0 2 0 = u at h1 ⊢
  obtain ⟨T, w, g, n, t1, t2, hc, hn, hW, hG, hE, hS, hR, hV, hL, -, -, -⟩ := h1.use
  have hw := hW.1
  unfold WS at hw
  rw [c_isS t2 hc.1, r_isS hR, bs1, bs1]
  by_cases c1 : 0 ≤ x ∧ x < w 1 0
  · simp only [if_pos c1, if_neg i10]
    rw [c_isS t2 hc.1, r_isS hR, bs1, bs1]
    by_cases c2 : 0 ≤ y ∧ y < w 1 0
    · simp only [if_pos c2, if_neg i10]
      by_cases c3 : x = y
      · rw [if_pos c3, if_pos c3]; exact agr0 h1 _ rfl rfl
      · rw [if_neg c3, if_neg c3, r_isIn, bs1]
        by_cases c4 : 0 ≤ z ∧ z ≤ 99
        · have hb := (hW.2.1 y c2.1 c2.2).2.2.2.2
          have hm : 0 ≤ w 7 y * z ∧ w 7 y * z ≤ 100 * 99 := ⟨Int.mul_nonneg (by first | decide | omega) (by first | decide | omega), Int.mul_le_mul (by first | decide | omega) (by first | decide | omega) (by first | decide | omega) (by first | decide | omega)⟩
          simp only [if_pos c4, if_neg i10, if_neg (show ¬ z < 0 by first | decide | omega), if_pos c4.2, t2, Int.toNat_natCast, hc.1.2.2 7 y (by first | decide | omega), (hR.2.2.1 y c2.1 c2.2).2.2.2.2.2]
          rw [gdx_t (by first | decide | omega), gdx_t (by first | decide | omega), gd3_t (by first | decide | omega), gd3_t (by first | decide | omega)]
          split
          · exact agr0 h1 _ rfl rfl
          · exact agr0 h1 _ rfl rfl
        · simp only [if_neg c4, if_true]
          by_cases c5 : z < 0
          · rw [if_pos c5]; exact agr0 h1 _ rfl rfl
          · rw [if_neg c5, if_neg (by first | decide | omega)]; exact agr0 h1 _ rfl rfl
    · simp only [if_neg c2, if_true]; exact agr0 h1 _ rfl rfl
  · simp only [if_neg c1, if_true]; exact agr0 h1 _ rfl rfl
end Q2
/-! More questions. -/
theorem gM3 {w : Mem} {way i : Int} : gM w way 3 i = pxM w way (w 11 i) := rfl
theorem gM1 {w : Mem} {way i : Int} : gM w way 1 i = bdM w way i := rfl
section Q3
variable {m v w g n : Mem} {T : Nat}
theorem PE_q : ∀ b i, PE b i → PMq b i := by intro b i h; unfold PE at h; unfold PMq; omega
theorem r_lw {x : Int} {a b : Nat} (hk : 0 ≤ x ∧ x < 6) {nm : Int → Int} (hR : RLw v w x a b) (h1 : ¬ w a 2 = 0) (hL : LX (w b) (w a 1)) (hn : ∀ q, 0 ≤ q → q < 6 → bM (nm q) ∧ v 23 q = nm q) : ∃ v', G12_law_134 v x = some (lv (w b) nm (w a 1), v') ∧ Fm PE v v' := by
  obtain ⟨r, v', e1, f1, q⟩ := m_law hk hR (by have := hR.2.1; first | decide | omega) hL hn
  unfold G12_law_134
  rw [e1, bs1]
  refine ⟨v', ?_, f1⟩
  simp only
  rcases q with ⟨q1, q2, q3⟩ | ⟨q1, q2⟩
  · rw [if_pos q1, q2]
  · rw [if_neg (by first | decide | omega), q2]
theorem lv_not {a b : Nat} {x : Int} {nm : Int → Int} (hR : RLw v w x a b) (h : w a 2 = 0) : lv (w b) nm (w a 1) = -9223372036854775808 := by
  rw [hR.2.2.1 h]; rfl
theorem a_law (h : Rel m v) (x y z : Int) : Agr (G11_law m x y z) (G12_law v x y z) := by
  have h1 := h.v0
  unfold G11_law G11_law_0 G12_law G12_law_0
  rw [wt_e]
  generalize up v 0 2 0 = u at h1 ⊢
  obtain ⟨T, w, g, n, t1, t2, hc, hn, hW, hG, hE, hS, hR, hV, hL, -, -, -⟩ := h1.use
  have hw := hW.1
  unfold WS at hw
  have hmn := hS.2.1
  rw [r_isIn, bs1]
  by_cases x2 : x = 2
  · rw [if_pos x2]
    simp only [if_pos (show 0 ≤ x ∧ x ≤ 2 by first | decide | omega), if_neg i10, if_pos (show 2 ≤ x by first | decide | omega)]
    unfold G12_law_39 G12_law_57
    rw [if_neg (by first | decide | omega), if_neg (by first | decide | omega), gdx_t (by first | decide | omega)]
    have hRd := hR.2.2.2.2.2.2.1
    have e69 : m 69 0 = n 0 0 := hn.2.1 0
    obtain ⟨m1, e1, f1⟩ := g_drift hc hW (mn := n 0 0) (by first | decide | omega)
    rw [e69, e1, bs1, hRd.1]
    simp only
    by_cases c : w 18 2 = 0
    · rw [if_pos c]
      have e0 : driftV w (n 0 0) = -9223372036854775808 := lv_not hRd c
      rw [e0]
      exact agr h1 _ rfl rfl (f1.mono PN_Q) Fm.rf
    · rw [if_neg c, if_neg (by first | decide | omega), if_neg (by first | decide | omega), hV.2.1]
      obtain ⟨u1, e2, f2, k0, k1, k2, k3, k4, k5⟩ := m_nm u 0 0 0 (-1) (n 0 0) (Or.inl rfl)
      rw [e2, bs1]
      have fN : Fm PNm u u1 := f2.mono (fun b i z => Or.inl z)
      obtain ⟨u2, e3, f3⟩ := r_lw (v := u1) (w := w) (x := 1) (by first | decide | omega) (nm := nmD (n 0 0)) (hR.pn fN).2.2.2.2.2.2.1 c hW.2.2.2.2.2.1 (fun q a b => ⟨bM_sm (by unfold nmD; split <;> omega), by
        have : q = 0 ∨ q = 1 ∨ q = 2 ∨ q = 3 ∨ q = 4 ∨ q = 5 := by omega
        unfold nmD
        rcases this with rfl | rfl | rfl | rfl | rfl | rfl
        · exact k0
        · exact k1
        · exact k2
        · exact k3
        · exact k4
        · exact k5⟩)
      rw [e3]
      exact agr h1 _ rfl rfl (f1.mono PN_Q) ((fN.mono PNm_q).tr (f3.mono PE_q))
  · rw [if_neg x2]
    rw [c_isS t2 hc.1, bs1]
    by_cases cx : 0 ≤ x ∧ x ≤ 2
    · simp only [if_pos cx, if_neg i10, if_neg (show ¬ 2 ≤ x by first | decide | omega)]
      rw [r_isS hR, bs1]
      by_cases c1 : 0 ≤ y ∧ y < w 1 0
      · simp only [if_pos c1, if_neg i10]
        rw [c_isV t2 hc.1, r_isV hR, bs1, bs1]
        by_cases c2 : 0 ≤ z ∧ z < w 8 1
        · simp only [if_pos c2, if_neg i10]
          have hg := hG.1 y c1.1 c1.2
          have e1y : m (69 + 1) y = n 1 y := hn.2.2 1 y (by first | decide | omega)
          have hcell := (hS.1.2 y c1.1 c1.2).1
          unfold G12_law_39 G12_law_57
          by_cases x0 : x = 0
          · rw [if_pos x0, if_pos x0, gdx_t (by first | decide | omega), gdx_t (by first | decide | omega), e1y]
            obtain ⟨m1, e1, f1⟩ := g_catchV hc hW (x := y) (v := z) (c := n 1 y) (by first | decide | omega) ⟨hg.1, hg.2.1⟩ c2 hcell (hG.2 z c2.1 c2.2)
            have hRc := hR.2.2.2.2.2.1
            rw [e1, bs1, hRc.1, (hE.1 y c1.1 c1.2).1, hE.2 z c2.1 c2.2]
            simp only
            by_cases c : w 16 2 = 0
            · rw [if_pos c]
              have e0 : catchV w (gM w (-1) 1 y) (gM w (-1) 3 z) z (n 1 y) = -9223372036854775808 := lv_not hRc c
              rw [e0]
              exact agr h1 _ rfl rfl (f1.mono PN_Q) Fm.rf
            · have k25 : u 25 y = n 1 y := by have := (hV.1.1 y c1.1 c1.2).1; rwa [show 5 * (0 : Int) + y = y by first | decide | omega] at this
              rw [if_neg c, if_pos x0, gdx_t (by first | decide | omega), k25]
              obtain ⟨u1, e2, f2, k1⟩ := m_lc hR hW c1 c2 hcell
              rw [hV.2.2.2.2] at e2 k1
              rw [e2, bs1]
              obtain ⟨u2, e3, f3⟩ := r_lw (v := u1) (w := w) (x := 0) (by first | decide | omega) (nm := nmC w (bdM w (-1) y) (pxM w (-1) (w 11 z)) z (n 1 y)) (hR.pn f2).2.2.2.2.2.1 c hW.2.2.2.2.1 (fun q a b => ⟨bM_sm (nmC_b hW (bdM_b hW c1) c2 hcell (pxM_b hW) q), k1 q a b⟩)
              simp only
              rw [e3]
              exact agr h1 _ rfl rfl (f1.mono PN_Q) ((f2.mono PNm_q).tr (f3.mono PE_q))
          · have x1 : x = 1 := by omega
            rw [if_neg x0, if_pos x1, if_neg x0, if_pos x1, gdx_t (by first | decide | omega)]
            obtain ⟨m1, e1, f1⟩ := g_awayV hc hW (x := y) (v := z) (by first | decide | omega) ⟨hg.1, hg.2.1⟩ c2
            have hRa := hR.2.2.2.2.2.2.2
            rw [e1, bs1, hRa.1, (hE.1 y c1.1 c1.2).1]
            simp only
            by_cases c : w 20 2 = 0
            · rw [if_pos c]
              have e0 : awayV w (gM w (-1) 1 y) z = -9223372036854775808 := lv_not hRa c
              rw [e0]
              exact agr h1 _ rfl rfl (f1.mono PN_Q) Fm.rf
            · obtain ⟨a1, a2, a3, a4, a5, a6, a7, a8, a9, a10⟩ := wnm hR hW c2
              rw [if_neg c, if_neg x0, if_pos x1, gdx_t (by first | decide | omega), gdx_t (by first | decide | omega), (hR.2.2.1 y c1.1 c1.2).2.2.1, a7]
              obtain ⟨u1, e2, f2, g3, g4, g5, g6, g7, g8⟩ := m_nm u 0 0 (w 4 y) z (w 11 z) (Or.inr ⟨a1, a2, a3, a4, a5, a6⟩)
              rw [e2, bs1]
              have fN : Fm PNm u u1 := f2.mono (fun b i z => Or.inl z)
              obtain ⟨u2, e3, f3⟩ := r_lw (v := u1) (w := w) (x := 2) (by first | decide | omega) (nm := nmA w (bdM w (-1) y) z) (hR.pn fN).2.2.2.2.2.2.2 c hW.2.2.2.2.2.2 (fun q a b => ⟨bM_sm (nmA_b hW (bdM_b hW c1) c2 q), by
                have : q = 0 ∨ q = 1 ∨ q = 2 ∨ q = 3 ∨ q = 4 ∨ q = 5 := by omega
                unfold nmA
                rcases this with rfl | rfl | rfl | rfl | rfl | rfl
                · exact g3
                · exact g4
                · exact g5
                · rw [g6, if_neg (by first | decide | omega), a8]; rfl
                · exact g7
                · rw [g8, if_neg (by first | decide | omega), a10]; rfl⟩)
              rw [e3]
              exact agr h1 _ rfl rfl (f1.mono PN_Q) ((fN.mono PNm_q).tr (f3.mono PE_q))
        · simp only [if_neg c2, if_true]; exact agr0 h1 _ rfl rfl
      · simp only [if_neg c1, if_true]; exact agr0 h1 _ rfl rfl
    · simp only [if_neg cx, if_true]
      by_cases c1 : 0 ≤ y ∧ y < w 1 0
      · simp only [if_pos c1, if_neg i10]
        rw [c_isV t2 hc.1, bs1]
        by_cases c2 : 0 ≤ z ∧ z < w 8 1
        · simp only [if_pos c2, if_neg i10]
          rw [if_neg (by first | decide | omega), if_neg (by first | decide | omega)]
          exact agr0 h1 _ rfl rfl
        · simp only [if_neg c2, if_true]; exact agr0 h1 _ rfl rfl
      · simp only [if_neg c1, if_true]; exact agr0 h1 _ rfl rfl
theorem stkO_eq {f f' : Int → Int} {o : Int} : ∀ {l : List Int}, stkO f o l → stkO f' o l → ∀ x, o ≤ x → x < o + l.length → f x = f' x := by
  intro l
  induction l with
  | nil => intro _ _ x a b; simp at b; omega
  | cons y r ih =>
    intro h1 h2 x a b
    by_cases c : x = o + r.length
    · rw [c, h1.1, h2.1]
    · exact ih h1.2 h2.2 x a (by simp at b; first | decide | omega)
theorem c_toC (hT : m 0 3 = (T : Int)) (h : TX m T w) (hn : NX m 69 n) (h28 : w 8 1 ≤ 28) (s : Int) : G11_isToCome m s = some ((if (0 ≤ s ∧ s < w 8 1) ∧ n 0 0 ≤ w 11 s then 1 else 0), m) := by
  unfold G11_isToCome G11_isToCome_0
  rw [c_isV hT h, bs1]
  by_cases c : 0 ≤ s ∧ s < w 8 1
  · simp only [if_pos c, if_neg i10]
    have e : m 69 0 = n 0 0 := hn.2.1 0
    rw [gdx_t (by first | decide | omega), hT, Int.toNat_natCast, h.2.2 11 s (by first | decide | omega), e]
    by_cases c2 : w 11 s < n 0 0
    · rw [if_pos c2, if_neg (by first | decide | omega)]
    · rw [if_neg c2, if_pos ⟨c, by first | decide | omega⟩]
  · simp only [if_neg c, if_true]
    rw [if_neg (fun q => c q.1)]
end Q3
