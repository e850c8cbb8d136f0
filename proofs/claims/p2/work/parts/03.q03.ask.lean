/-! More questions. -/
theorem gM3 {w : Mem} {way i : Int} : gM w way 3 i = pxM w way (w 11 i) := rfl
theorem gM1 {w : Mem} {way i : Int} : gM w way 1 i = bdM w way i := rfl
section Q3
variable {m v w g n : Mem} {T : Nat}
theorem PE_q : ∀ b i, PE b i → PMq b i := by intro b i h; unfold PE at h; unfold PMq; omega
theorem r_lw {x : Int} {a b : Nat} (hk : 0 ≤ x ∧ x < 6) {nm : Int → Int} (hR : RLw v w x a b) (h1 : ¬ w a 2 = 0) (hL : LX (w b) (w a 1)) (hn : ∀ q, 0 ≤ q → q < 6 → bM (nm q) ∧ v 23 q = nm q) : ∃ v', G12_law_134 v x = some (lv (w b) nm (w a 1), v') ∧ Fm PE v v' := by
  obtain ⟨r, v', e1, f1, q⟩ := m_law hk hR (by have := hR.2.1; omega) hL hn
  unfold G12_law_134
  rw [e1, bs1]
  refine ⟨v', ?_, f1⟩
  simp only
  rcases q with ⟨q1, q2, q3⟩ | ⟨q1, q2⟩
  · rw [if_pos q1, q2]
  · rw [if_neg (by omega), q2]
theorem lv_not {a b : Nat} {x : Int} {nm : Int → Int} (hR : RLw v w x a b) (h : w a 2 = 0) : lv (w b) nm (w a 1) = -9223372036854775808 := by
  rw [hR.2.2.1 h]; rfl
theorem a_law (h : Rel m v) (x y z : Int) : Agr (G11_law m x y z) (G12_law v x y z) := by
  have h1 := h.v0
  unfold G11_law G11_law_0 G12_law G12_law_0
  rw [wt_e]
  generalize up v 0 2 0 = u at h1 ⊢
  obtain ⟨T, w, g, n, t1, t2, hc, hn, hW, hG, hE, hS, hR, hV, hL, -, -, -⟩ := h1.use
  have hw := hW.1
  unfold WS at hw
  have hmn := hS.2.1
  rw [r_isIn, bs1]
  by_cases x2 : x = 2
  · rw [if_pos x2]
    simp only [if_pos (show 0 ≤ x ∧ x ≤ 2 by omega), if_neg i10, if_pos (show 2 ≤ x by omega)]
    unfold G12_law_39 G12_law_57
    rw [if_neg (by omega), if_neg (by omega), gdx_t (by omega)]
    have hRd := hR.2.2.2.2.2.2.1
    have e69 : m 69 0 = n 0 0 := hn.2.1 0
    obtain ⟨m1, e1, f1⟩ := g_drift hc hW (mn := n 0 0) (by omega)
    rw [e69, e1, bs1, hRd.1]
    simp only
    by_cases c : w 18 2 = 0
    · rw [if_pos c]
      have e0 : driftV w (n 0 0) = -9223372036854775808 := lv_not hRd c
      rw [e0]
      exact agr h1 _ rfl rfl (f1.mono PN_Q) Fm.rf
    · rw [if_neg c, if_neg (by omega), if_neg (by omega), hV.2.1]
      obtain ⟨u1, e2, f2, k0, k1, k2, k3, k4, k5⟩ := m_nm u 0 0 0 (-1) (n 0 0) (Or.inl rfl)
      rw [e2, bs1]
      have fN : Fm PNm u u1 := f2.mono (fun b i z => Or.inl z)
      obtain ⟨u2, e3, f3⟩ := r_lw (v := u1) (w := w) (x := 1) (by omega) (nm := nmD (n 0 0)) (hR.pn fN).2.2.2.2.2.2.1 c hW.2.2.2.2.2.1 (fun q a b => ⟨bM_sm (by unfold nmD; split <;> omega), by
        have : q = 0 ∨ q = 1 ∨ q = 2 ∨ q = 3 ∨ q = 4 ∨ q = 5 := by omega
        unfold nmD
        rcases this with rfl | rfl | rfl | rfl | rfl | rfl
        · exact k0
        · exact k1
        · exact k2
        · exact k3
        · exact k4
        · exact k5⟩)
      rw [e3]
      exact agr h1 _ rfl rfl (f1.mono PN_Q) ((fN.mono PNm_q).tr (f3.mono PE_q))
  · rw [if_neg x2]
    rw [c_isS t2 hc.1, bs1]
    by_cases cx : 0 ≤ x ∧ x ≤ 2
    · simp only [if_pos cx, if_neg i10, if_neg (show ¬ 2 ≤ x by omega)]
      rw [r_isS hR, bs1]
      by_cases c1 : 0 ≤ y ∧ y < w 1 0
      · simp only [if_pos c1, if_neg i10]
        rw [c_isV t2 hc.1, r_isV hR, bs1, bs1]
        by_cases c2 : 0 ≤ z ∧ z < w 8 1
        · simp only [if_pos c2, if_neg i10]
          have hg := hG.1 y c1.1 c1.2
          have e1y : m (69 + 1) y = n 1 y := hn.2.2 1 y (by omega)
          have hcell := (hS.1.2 y c1.1 c1.2).1
          unfold G12_law_39 G12_law_57
          by_cases x0 : x = 0
          · rw [if_pos x0, if_pos x0, gdx_t (by omega), gdx_t (by omega), e1y]
            obtain ⟨m1, e1, f1⟩ := g_catchV hc hW (x := y) (v := z) (c := n 1 y) (by omega) ⟨hg.1, hg.2.1⟩ c2 hcell (hG.2 z c2.1 c2.2)
            have hRc := hR.2.2.2.2.2.1
            rw [e1, bs1, hRc.1, (hE.1 y c1.1 c1.2).1, hE.2 z c2.1 c2.2]
            simp only
            by_cases c : w 16 2 = 0
            · rw [if_pos c]
              have e0 : catchV w (gM w (-1) 1 y) (gM w (-1) 3 z) z (n 1 y) = -9223372036854775808 := lv_not hRc c
              rw [e0]
              exact agr h1 _ rfl rfl (f1.mono PN_Q) Fm.rf
            · have k25 : u 25 y = n 1 y := by have := (hV.1.1 y c1.1 c1.2).1; rwa [show 5 * (0 : Int) + y = y by omega] at this
              rw [if_neg c, if_pos x0, gdx_t (by omega), k25]
              obtain ⟨u1, e2, f2, k1⟩ := m_lc hR hW c1 c2 hcell
              rw [hV.2.2.2.2] at e2 k1
              rw [e2, bs1]
              obtain ⟨u2, e3, f3⟩ := r_lw (v := u1) (w := w) (x := 0) (by omega) (nm := nmC w (bdM w (-1) y) (pxM w (-1) (w 11 z)) z (n 1 y)) (hR.pn f2).2.2.2.2.2.1 c hW.2.2.2.2.1 (fun q a b => ⟨bM_sm (nmC_b hW (bdM_b hW c1) c2 hcell (pxM_b hW) q), k1 q a b⟩)
              simp only
              rw [e3]
              exact agr h1 _ rfl rfl (f1.mono PN_Q) ((f2.mono PNm_q).tr (f3.mono PE_q))
          · have x1 : x = 1 := by omega
            rw [if_neg x0, if_pos x1, if_neg x0, if_pos x1, gdx_t (by omega)]
            obtain ⟨m1, e1, f1⟩ := g_awayV hc hW (x := y) (v := z) (by omega) ⟨hg.1, hg.2.1⟩ c2
            have hRa := hR.2.2.2.2.2.2.2
            rw [e1, bs1, hRa.1, (hE.1 y c1.1 c1.2).1]
            simp only
            by_cases c : w 20 2 = 0
            · rw [if_pos c]
              have e0 : awayV w (gM w (-1) 1 y) z = -9223372036854775808 := lv_not hRa c
              rw [e0]
              exact agr h1 _ rfl rfl (f1.mono PN_Q) Fm.rf
            · obtain ⟨a1, a2, a3, a4, a5, a6, a7, a8, a9, a10⟩ := wnm hR hW c2
              rw [if_neg c, if_neg x0, if_pos x1, gdx_t (by omega), gdx_t (by omega), (hR.2.2.1 y c1.1 c1.2).2.2.1, a7]
              obtain ⟨u1, e2, f2, g3, g4, g5, g6, g7, g8⟩ := m_nm u 0 0 (w 4 y) z (w 11 z) (Or.inr ⟨a1, a2, a3, a4, a5, a6⟩)
              rw [e2, bs1]
              have fN : Fm PNm u u1 := f2.mono (fun b i z => Or.inl z)
              obtain ⟨u2, e3, f3⟩ := r_lw (v := u1) (w := w) (x := 2) (by omega) (nm := nmA w (bdM w (-1) y) z) (hR.pn fN).2.2.2.2.2.2.2 c hW.2.2.2.2.2.2 (fun q a b => ⟨bM_sm (nmA_b hW (bdM_b hW c1) c2 q), by
                have : q = 0 ∨ q = 1 ∨ q = 2 ∨ q = 3 ∨ q = 4 ∨ q = 5 := by omega
                unfold nmA
                rcases this with rfl | rfl | rfl | rfl | rfl | rfl
                · exact g3
                · exact g4
                · exact g5
                · rw [g6, if_neg (by omega), a8]; rfl
                · exact g7
                · rw [g8, if_neg (by omega), a10]; rfl⟩)
              rw [e3]
              exact agr h1 _ rfl rfl (f1.mono PN_Q) ((fN.mono PNm_q).tr (f3.mono PE_q))
        · simp only [if_neg c2, if_true]; exact agr0 h1 _ rfl rfl
      · simp only [if_neg c1, if_true]; exact agr0 h1 _ rfl rfl
    · simp only [if_neg cx, if_true]
      by_cases c1 : 0 ≤ y ∧ y < w 1 0
      · simp only [if_pos c1, if_neg i10]
        rw [c_isV t2 hc.1, bs1]
        by_cases c2 : 0 ≤ z ∧ z < w 8 1
        · simp only [if_pos c2, if_neg i10]
          rw [if_neg (by omega), if_neg (by omega)]
          exact agr0 h1 _ rfl rfl
        · simp only [if_neg c2, if_true]; exact agr0 h1 _ rfl rfl
      · simp only [if_neg c1, if_true]; exact agr0 h1 _ rfl rfl
theorem stkO_eq {f f' : Int → Int} {o : Int} : ∀ {l : List Int}, stkO f o l → stkO f' o l → ∀ x, o ≤ x → x < o + l.length → f x = f' x := by
  intro l
  induction l with
  | nil => intro _ _ x a b; simp at b; omega
  | cons y r ih =>
    intro h1 h2 x a b
    by_cases c : x = o + r.length
    · rw [c, h1.1, h2.1]
    · exact ih h1.2 h2.2 x a (by simp at b; omega)
theorem c_toC (hT : m 0 3 = (T : Int)) (h : TX m T w) (hn : NX m 69 n) (h28 : w 8 1 ≤ 28) (s : Int) : G11_isToCome m s = some ((if (0 ≤ s ∧ s < w 8 1) ∧ n 0 0 ≤ w 11 s then 1 else 0), m) := by
  unfold G11_isToCome G11_isToCome_0
  rw [c_isV hT h, bs1]
  by_cases c : 0 ≤ s ∧ s < w 8 1
  · simp only [if_pos c, if_neg i10]
    have e : m 69 0 = n 0 0 := hn.2.1 0
    rw [gdx_t (by omega), hT, Int.toNat_natCast, h.2.2 11 s (by omega), e]
    by_cases c2 : w 11 s < n 0 0
    · rw [if_pos c2, if_neg (by omega)]
    · rw [if_neg c2, if_pos ⟨c, by omega⟩]
  · simp only [if_neg c, if_true]
    rw [if_neg (fun q => c q.1)]
theorem r_toC (h : RT v w) (hS : SN w n) (hV : SV w n v) (h28 : w 8 1 ≤ 28) (s : Int) : G12_isToCome v s = some ((if (0 ≤ s ∧ s < w 8 1) ∧ n 0 0 ≤ w 11 s then 1 else 0), v) := by
  unfold G12_isToCome G12_isToCome_0
  rw [r_isV h, bs1]
  by_cases c : 0 ≤ s ∧ s < w 8 1
  · simp only [if_pos c, if_neg i10]
    have e6 : v 30 s = n 6 s := by have := hV.1.2.1 s c.1 c.2; rwa [show 28 * (0 : Int) + s = s by omega] at this
    have hq := hS.2.2.2 s c.1 c.2
    rw [gdx_t (by omega), e6]
    by_cases c2 : n 6 s = -2
    · rw [if_pos c2, if_pos ⟨c, hq.mp c2⟩]
    · rw [if_neg c2, if_neg (fun q => c2 (hq.mpr q.2))]
  · simp only [if_neg c, if_true]
    rw [if_neg (fun q => c q.1)]
theorem a_order (h : Rel m v) (x y : Int) : Agr (G11_order m x y) (G12_order v x y) := by
  have h1 := h.v0
  unfold G11_order G11_order_0 G12_order G12_order_0
  rw [wt_e]
  generalize up v 0 2 0 = u at h1 ⊢
  obtain ⟨T, w, g, n, t1, t2, hc, hn, hW, hG, hE, hS, hR, hV, hL, -, -, -⟩ := h1.use
  have hw := hW.1
  unfold WS at hw
  have hmn := hS.2.1
  rw [c_toC t2 hc.1 hn (by omega), r_toC hR hS hV (by omega), bs1, bs1]
  by_cases c : (0 ≤ x ∧ x < w 8 1) ∧ n 0 0 ≤ w 11 x
  · simp only [if_pos c, if_neg i10]
    by_cases c2 : 0 ≤ y
    · rw [if_pos c2, if_pos c2]
      have e69 : m 69 0 = n 0 0 := hn.2.1 0
      obtain ⟨m1, e1, f1, l1⟩ := g_line hc hW hG hn hS.1 (n 0 0) c.1
      obtain ⟨u1, e2, f2, s2, k2⟩ := m_ord hR hW (Or.inl rfl) hV.1 hS.1 hL hV.2.2.2.2 (fun q => by omega) (by omega) c.1
      have hlu := lu_ge (n := n) hE (v := x) (mn := n 0 0) c.1 (by omega)
      have hlen := lu_len (w := w) (n := n) (g := gM w (-1)) (v := x) (mn := n 0 0) (by omega)
      rw [hlu] at e1 l1
      rw [e69, e1, bs1, hV.2.2.1, e2, bs1, k2]
      simp only
      by_cases c3 : ((lu w (gM w (-1)) n x (n 0 0)).length : Int) ≤ y
      · rw [if_pos c3, if_neg (by omega)]
        exact agr h1 _ rfl rfl (f1.mono PL_Q) (f2.mono PO_q)
      · rw [if_neg c3, if_pos (by omega), gdx_t (by omega), gdx_t (by omega)]
        have := stkO_eq l1.1 s2 y c2 (by omega)
        refine agr h1 (u1 34 y) ?_ rfl (f1.mono PL_Q) (f2.mono PO_q)
        rw [← this]
    · rw [if_neg c2, if_neg c2]; exact agr0 h1 _ rfl rfl
  · simp only [if_neg c, if_true]; exact agr0 h1 _ rfl rfl
theorem seat_ge {g' : Mem} (h : GE w g g') {x c i : Int} (hx : 0 ≤ x ∧ x < w 1 0) (hi : 0 ≤ i ∧ i ≤ w 8 1) : seatV w g x c i = seatV w g' x c i := by
  unfold seatV
  have : ∀ (d : Nat) (j : Int), 0 ≤ j → j + d ≤ w 8 1 → smd (fun v => worthV w (g 1 x) (g 3 v) v c) d j = smd (fun v => worthV w (g' 1 x) (g' 3 v) v c) d j := by
    intro d
    induction d with
    | zero => intros; rfl
    | succ d ih =>
      intro j a b
      rw [smd_s, smd_s, ih (j + 1) (by omega) (by omega), (h.1 x hx.1 hx.2).1, h.2 j (by omega) (by omega)]
  exact this _ i hi.1 (by omega)
theorem r_gain (hR : RT v w) (hW : WW w) {s k c way : Int} (h66 : v 0 66 = way) (hs : 0 ≤ s ∧ s < w 1 0) (hk : 0 ≤ k ∧ k < w 8 1) (hc : 0 ≤ c ∧ c < w 0 0 * w 0 1) : ∃ v', G12_gainOf v s k c = some (worthV w (gM w way 1 s) (gM w way 3 k) k c, v') ∧ Fm PNm v v' := by
  have hw := hW.1
  unfold WS at hw
  obtain ⟨v1, e1, f1⟩ := m_odds hR hW hs hk hc
  rw [h66] at e1
  have hb := worth_b hW (bd := gM w way 1 s) (px := gM w way 3 k) hk hc (pxM_b (way := way) (mn := w 11 k) hW)
  unfold G12_gainOf G12_gainOf_0
  rw [e1, bs1, gdx_t (by omega)]
  simp only
  rw [((hR.pn f1).2.2.2.2.1 k hk.1 hk.2).2.1]
  unfold worthV at hb ⊢
  have e : oddsV w (bdM w way s) (pxM w way (w 11 k)) k c = oddsV w (gM w way 1 s) (gM w way 3 k) k c := rfl
  rw [e, gd3_t (by omega)]
  exact ⟨v1, rfl, f1⟩
theorem r_seat6 (hW : WW w) {s c x : Int} (hs : 0 ≤ s ∧ s < w 1 0) (hc : 0 ≤ c ∧ c < w 0 0 * w 0 1) : ∀ (d k : Nat) (i a : Int) (v : Mem), 0 ≤ i → w 8 1 - i = d → d < k → 0 ≤ a → a ≤ 900 * i → RT v w → v 0 66 = -1 → ∃ v', G12_seatFrom_6 k v s c x a i = some (a + (if i ≤ ff w x then seatV w (gM w (-1)) s c (ff w x) else seatV w (gM w (-1)) s c i), v') ∧ Fm PNm v v' := by
  have hw := hW.1
  unfold WS at hw
  obtain ⟨v1, v2, v3, v4⟩ := ff_spec (w := w) (by omega) x
  intro d
  induction d with
  | zero =>
    intro k i a v a1 a2 a3 a4 a5 hR h66
    obtain ⟨k, rfl⟩ : ∃ j, k = j + 1 := ⟨k - 1, by omega⟩
    rw [G12_seatFrom_6, hR.1.2.2.2.2.1, if_pos (by omega)]
    refine ⟨v, ?_, Fm.rf⟩
    have z : ∀ j, j = w 8 1 → seatV w (gM w (-1)) s c j = 0 := fun j hj => by
      unfold seatV; rw [hj, show (w 8 1 - w 8 1).toNat = 0 by omega]; rfl
    congr 2
    split
    · rw [z _ (by omega)]; omega
    · rw [z _ (by omega)]; omega
  | succ d ih =>
    intro k i a v a1 a2 a3 a4 a5 hR h66
    obtain ⟨k, rfl⟩ : ∃ j, k = j + 1 := ⟨k - 1, by omega⟩
    rw [G12_seatFrom_6, hR.1.2.2.2.2.1, if_neg (by omega), gdx_t (by omega), (hR.2.2.2.2.1 i (by omega) (by omega)).1]
    by_cases c1 : w 11 i < x
    · have hi : i < ff w x := by
        rcases Int.lt_or_le i (ff w x) with z | z
        · exact z
        · have h4 := v4 (by omega)
          by_cases z2 : i = ff w x
          · rw [← z2] at h4; omega
          · have := wv_lt hW v1 (show ff w x < i by omega) (by omega); omega
      rw [if_pos c1, gd3_t (by omega), gd3_t (by omega)]
      obtain ⟨v', e1, f1⟩ := ih k (i + 1) (a + 0) v (by omega) (by omega) (by omega) (by omega) (by omega) hR h66
      refine ⟨v', ?_, f1⟩
      rw [e1, if_pos (by omega), if_pos (by omega), Int.add_zero]
    · have hi : ff w x ≤ i := by
        rcases Int.lt_or_le i (ff w x) with z | z
        · have := v3 i a1 z; omega
        · exact z
      obtain ⟨u1, e0, f0⟩ := r_gain hR hW h66 hs (k := i) (by omega) hc
      have hb := worth_b hW (bd := gM w (-1) 1 s) (px := gM w (-1) 3 i) (v := i) (by omega) hc (by rw [gM3]; exact pxM_b hW)
      rw [if_neg c1, e0, bs1]
      simp only
      rw [gd3_t (by omega), gd3_t (by omega)]
      obtain ⟨v', e1, f1⟩ := ih k (i + 1) (a + worthV w (gM w (-1) 1 s) (gM w (-1) 3 i) i c) u1 (by omega) (by omega) (by omega) (by omega) (by omega) (hR.pn f0) (by rw [f0 0 66 (by unfold PNm; omega)]; exact h66)
      refine ⟨v', ?_, f0.tr f1⟩
      have es : seatV w (gM w (-1)) s c i = worthV w (gM w (-1) 1 s) (gM w (-1) 3 i) i c + seatV w (gM w (-1)) s c (i + 1) := by
        unfold seatV
        rw [show (w 8 1 - i).toNat = (w 8 1 - (i + 1)).toNat + 1 by omega, smd_s]
      rw [e1, if_neg (by omega)]
      congr 2
      by_cases z : i = ff w x
      · rw [if_pos (by omega), ← z, es]; omega
      · rw [if_neg (by omega), es]; omega
theorem r_seat (hR : RT v w) (hW : WW w) (h66 : v 0 66 = -1) {s c x : Int} (hs : 0 ≤ s ∧ s < w 1 0) (hc : 0 ≤ c ∧ c < w 0 0 * w 0 1) : ∃ v', G12_seatFrom v s c x = some (seatV w (gM w (-1)) s c (ff w x), v') ∧ Fm PNm v v' := by
  have hw := hW.1
  unfold WS at hw
  have hv := (ff_spec (w := w) (by omega) x).1
  obtain ⟨v', e1, f1⟩ := r_seat6 hW hs hc (x := x) (w 8 1).toNat 1024 0 0 v (by omega) (by omega) (by omega) (by omega) (by omega) hR h66
  rw [if_pos hv, Int.zero_add] at e1
  exact ⟨v', e1, f1⟩
theorem c_ftc (hT : m 0 3 = (T : Int)) (h : TX m T w) (hn : NX m 69 n) (hW : WW w) : G11_firstToCome m = some (ff w (n 0 0), m) := by
  have hw := hW.1
  unfold WS at hw
  have e69 : m 69 0 = n 0 0 := hn.2.1 0
  unfold G11_firstToCome G11_firstToCome_0
  rw [hT, Int.toNat_natCast, e69, g_ff h (by omega), bs1]
theorem c_seat (t2 : m 0 3 = (T : Int)) (hc : CX m 51 T w g) (hn : NX m 69 n) (hW : WW w) (hG : GB w g) (hE : GE w g (gM w (-1))) {x c : Int} (hx : 0 ≤ x ∧ x < w 1 0) (hcc : 0 ≤ c ∧ c < w 0 0 * w 0 1) : ∃ m', G6_seatFrom m 51 x c (ff w (n 0 0)) = some (seatV w (gM w (-1)) x c (ff w (n 0 0)), m') ∧ Fr (PN 51) m m' := by
  have hw := hW.1
  unfold WS at hw
  have hv := ff_spec (w := w) (by omega) (n 0 0)
  have hg := hG.1 x hx.1 hx.2
  obtain ⟨m', e, f⟩ := g_seat hc hW (x := x) (c := c) (i := ff w (n 0 0)) (by omega) ⟨hg.1, hg.2.1⟩ hcc hG.2 ⟨hv.1, hv.2.1⟩
  rw [seat_ge hE hx ⟨hv.1, hv.2.1⟩] at e
  exact ⟨m', e, f⟩
theorem a_seat (h : Rel m v) (x y : Int) : Agr (G11_seat m x y) (G12_seat v x y) := by
  have h1 := h.v0
  unfold G11_seat G11_seat_0 G12_seat G12_seat_0
  rw [wt_e]
  generalize up v 0 2 0 = u at h1 ⊢
  obtain ⟨T, w, g, n, t1, t2, hc, hn, hW, hG, hE, hS, hR, hV, hL, -, -, -⟩ := h1.use
  rw [c_isS t2 hc.1, r_isS hR, bs1, bs1]
  by_cases c1 : 0 ≤ x ∧ x < w 1 0
  · simp only [if_pos c1, if_neg i10]
    rw [c_isC t2 hc.1 hW, r_isC hR hW, bs1, bs1]
    by_cases c2 : 0 ≤ y ∧ y < w 0 0 * w 0 1
    · simp only [if_pos c2, if_neg i10]
      obtain ⟨m1, e1, f1⟩ := c_seat t2 hc hn hW hG hE c1 c2
      obtain ⟨u1, e2, f2⟩ := r_seat hR hW hV.2.2.2.2 (x := n 0 0) c1 c2
      rw [c_ftc t2 hc.1 hn hW, bs1]
      simp only
      rw [e1, bs1, hV.2.1, e2, bs1]
      exact agr h1 _ rfl rfl (f1.mono PN_Q) (f2.mono PNm_q)
    · simp only [if_neg c2, if_true]; exact agr0 h1 _ rfl rfl
  · simp only [if_neg c1, if_true]; exact agr0 h1 _ rfl rfl
theorem a_best_l {x : Int} (hW : WW w) (c1 : 0 ≤ x ∧ x < w 1 0) : ∀ (d k : Nat) (i b a : Int) (m v : Mem), Rel m v → (∃ T g, m 0 3 = ((T : Nat) : Int) ∧ CX m 51 T w g ∧ NX m 69 n ∧ GB w g ∧ GE w g (gM w (-1)) ∧ RT v w ∧ SV w n v) → 0 ≤ i → w 0 0 * w 0 1 - i = d → d < k → Agr (G11_best_17 k m x b a i) (G12_best_22 k v x b a i) := by
  have hb := cells_b hW
  have hw := hW.1
  unfold WS at hw
  intro d
  induction d with
  | zero =>
    intro k i b a m v h ⟨T, g, t2, hc, hn, hG, hE, hR, hV⟩ a1 a2 a3
    obtain ⟨k, rfl⟩ : ∃ j, k = j + 1 := ⟨k - 1, by omega⟩
    rw [G11_best_17, G12_best_22, t2, Int.toNat_natCast, g_cells hc.1 (by omega) (by omega), r_cells hR hW, bs1, bs1]
    simp only
    rw [if_pos (by omega), if_pos (by omega)]
    exact agr0 h _ rfl rfl
  | succ d ih =>
    intro k i b a m v h ⟨T, g, t2, hc, hn, hG, hE, hR, hV⟩ a1 a2 a3
    obtain ⟨k, rfl⟩ : ∃ j, k = j + 1 := ⟨k - 1, by omega⟩
    rw [G11_best_17, G12_best_22, t2, Int.toNat_natCast, g_cells hc.1 (by omega) (by omega), r_cells hR hW, bs1, bs1]
    simp only
    rw [if_neg (by omega), if_neg (by omega)]
    obtain ⟨m1, e1, f1⟩ := c_seat t2 hc hn hW hG hE c1 (c := i) (by omega)
    obtain ⟨u1, e2, f2⟩ := r_seat hR hW hV.2.2.2.2 (x := n 0 0) c1 (c := i) (by omega)
    rw [c_ftc t2 hc.1 hn hW, bs1]
    simp only
    rw [e1, bs1, hV.2.1, e2, bs1]
    simp only
    have h' : Rel m1 u1 := h.q (f1.mono PN_Q) (f2.mono PNm_q)
    have hx : ∃ T g, m1 0 3 = ((T : Nat) : Int) ∧ CX m1 51 T w g ∧ NX m1 69 n ∧ GB w g ∧ GE w g (gM w (-1)) ∧ RT u1 w ∧ SV w n u1 := ⟨T, g, by rw [f1 0 3 (by unfold PN; omega)]; exact t2, hc.pn f1, hn.pl (Or.inl rfl) (f1.mono PN_PL), hG, hE, hR.pn f2, hV.q ⟨by omega, by omega⟩ (f2.mono PNm_q)⟩
    rw [gd3_t (by omega), gd3_t (by omega), gd3_t (by omega), gd3_t (by omega)]
    by_cases z : seatV w (gM w (-1)) x i (ff w (n 0 0)) ≤ a
    · rw [if_pos z, if_neg (by omega)]
      exact ih k (i + 1) b a m1 u1 h' hx (by omega) (by omega) (by omega)
    · rw [if_neg z, if_pos (by omega)]
      exact ih k (i + 1) i _ m1 u1 h' hx (by omega) (by omega) (by omega)
theorem a_best (h : Rel m v) (x : Int) : Agr (G11_best m x) (G12_best v x) := by
  have h1 := h.v0
  unfold G11_best G11_best_0 G12_best G12_best_0
  rw [wt_e]
  generalize up v 0 2 0 = u at h1 ⊢
  obtain ⟨T, w, g, n, t1, t2, hc, hn, hW, hG, hE, hS, hR, hV, hL, -, -, -⟩ := h1.use
  have hb := cells_b hW
  rw [c_isS t2 hc.1, r_isS hR, bs1, bs1]
  by_cases c1 : 0 ≤ x ∧ x < w 1 0
  · simp only [if_pos c1, if_neg i10]
    exact a_best_l hW c1 (w 0 0 * w 0 1).toNat 1024 0 0 (-1) m u h1 ⟨T, g, t2, hc, hn, hG, hE, hR, hV⟩ (by omega) (by omega) (by omega)
  · simp only [if_neg c1, if_true]; exact agr0 h1 _ rfl rfl
end Q3
