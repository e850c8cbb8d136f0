section Q14
variable {m v w g n : Mem} {T : Nat}
theorem c_cross (hc : CX m 51 T w g) (hW : WW w) (hG : GB w g) (hn : NX m 69 n) (hS : SN w n) {s k : Int} (hs : 0 ≤ s ∧ s < w 1 0) (hk : 0 ≤ k ∧ k < w 8 1) : ∃ y m', G6_crossingOdds m 51 69 s k = some (y, m') ∧ Fr (PL 51) m m' ∧ 0 ≤ y ∧ y ≤ 100 := by
  have hw := hW.1
  unfold WS at hw
  have e69 : m 69 0 = n 0 0 := hn.2.1 0
  obtain ⟨m1, e1, f1, hL⟩ := g_line hc hW hG hn hS.1 (n 0 0) hk
  have hc1 := hc.pl f1
  have hn1 := hn.pl (Or.inl rfl) f1
  unfold G6_crossingOdds G6_crossingOdds_0
  rw [e69, e1, bs1]
  simp only
  rw [g_key hc1 hW hG hn1 hS.1 hs hk, bs1]
  simp only
  have hlen : ((lu w g n k (n 0 0)).length : Int) ≤ 5 := by
    have := lu_len (w := w) (g := g) (n := n) (v := k) (mn := n 0 0) (by first | decide | omega)
    omega
  obtain ⟨y, e2, p⟩ := c_cr28 (m := m1) (x := s) (L := (lu w g n k (n 0 0)).length) (z := keyV w g n k s) (N := w 1 0) (by first | decide | omega) (by first | decide | omega) (fun j p q => stk_at hL.1 (fun e he => by have := lu_mem he (by first | decide | omega); first | decide | omega) ⟨p, q⟩) (fun e p q => by
    have e2 : m1 (51 + 2) e = g 2 e := hc1.2.2.2 2 e (by first | decide | omega) (by first | decide | omega)
    rw [e2]; exact (hG.1 e p q).2.2) (lu w g n k (n 0 0)).length 1024 0 100 (by first | decide | omega) (by first | decide | omega) (by first | decide | omega) (by first | decide | omega)
  exact ⟨y, m1, e2, f1, p⟩
theorem r_go54 (hW : WW w) {s k z c : Int} (hs : 0 ≤ s ∧ s < w 1 0) (hk : 0 ≤ k ∧ k < w 8 1) (hz : 0 ≤ z ∧ z ≤ 999) (hc : 0 ≤ c ∧ c < w 0 0 * w 0 1) (hR : RT v w) (h66 : v 0 66 = -1) (h25 : v 25 s = c) (hL : 0 ≤ v 0 69 ∧ v 0 69 ≤ 5) (h1 : ∀ k, 0 ≤ k → k < v 0 69 → 0 ≤ v 34 k ∧ v 34 k < w 1 0) : ∀ (d f : Nat) (i a b : Int), 0 ≤ i → v 0 69 - i = d → d < f → (0 ≤ a ∧ a ≤ 100) → ∃ y v', G12_go_54 f v s k z a b i = some (y, v') ∧ Fm PNm v v' := by
  have hw := hW.1
  unfold WS at hw
  intro d
  induction d with
  | zero =>
    intro f i a b a1 a2 a3 a4
    obtain ⟨f, rfl⟩ : ∃ j, f = j + 1 := ⟨f - 1, by first | decide | omega⟩
    obtain ⟨v1, e1, f1⟩ := r_gain hR hW h66 hs hk hc
    rw [G12_go_54, if_pos (by first | decide | omega), gdx_t (by first | decide | omega), h25, e1, bs1]
    have hm : 0 ≤ z * (100 - a) ∧ z * (100 - a) ≤ 999 * 100 := by
      refine ⟨Int.mul_nonneg hz.1 (by first | decide | omega), ?_⟩
      have h1 : z * (100 - a) ≤ 999 * (100 - a) := Int.mul_le_mul_of_nonneg_right hz.2 (by first | decide | omega)
      omega
    rw [gd3_t (by first | decide | omega)]
    split
    · exact ⟨_, _, rfl, f1⟩
    · exact ⟨_, _, rfl, f1⟩
  | succ d ih =>
    intro f i a b a1 a2 a3 a4
    obtain ⟨f, rfl⟩ : ∃ j, f = j + 1 := ⟨f - 1, by first | decide | omega⟩
    have b1 := h1 i a1 (by first | decide | omega)
    have e9 := (hR.2.2.1 _ b1.1 b1.2).2.2.2.2.1
    have b2 := (hW.2.1 _ b1.1 b1.2).2.2.2.1
    rw [← e9] at b2
    have b3 := mul_b a4 b2
    have t : ∀ a', (0 ≤ a' ∧ a' ≤ 100) → ∃ y v', G12_go_91 (fun m x1 x2 x3 x4 x5 x6 => G12_go_54 f m x1 x2 x3 x4 x5 x6) v s k z a' b i = some (y, v') ∧ Fm PNm v v' := by
      intro a' ha'
      obtain ⟨y1, v1, e1, p1⟩ := ih f (i + 1) a' 1 (by first | decide | omega) (by first | decide | omega) (by first | decide | omega) ha'
      obtain ⟨y0, v0, e0, p0⟩ := ih f (i + 1) a' 0 (by first | decide | omega) (by first | decide | omega) (by first | decide | omega) ha'
      unfold G12_go_91 G12_go_107
      rw [gdx_t (by first | decide | omega), gd3_t (by first | decide | omega)]
      simp only [gd3_t (show -2147483648 ≤ i + 1 ∧ i + 1 ≤ 2147483647 by first | decide | omega)]
      split
      · split
        · exact ⟨y1, v1, e1, p1⟩
        · exact ⟨y0, v0, e0, p0⟩
      · exact ⟨y1, v1, e1, p1⟩
    rw [G12_go_54, if_neg (by first | decide | omega), gdx_t (by first | decide | omega), gdx_t (by first | decide | omega), gd3_t (by first | decide | omega), gdd_t (by first | decide | omega)]
    split
    · exact t a a4
    · exact t _ (by first | decide | omega)
theorem t_go (h : Rel m v) (x y z : Int) : Tot (G11_go m x y z) (G12_go v x y z) := by
  have h1 := h.v0
  unfold G11_go G11_go_0 G12_go G12_go_0
  rw [wt_e]
  generalize up v 0 2 0 = u at h1 ⊢
  obtain ⟨T, w, g, n, t1, t2, hc, hn, hW, hG, hE, hS, hR, hV, hL, -, -, -⟩ := h1.use
  have hw := hW.1
  unfold WS at hw
  rw [c_isS t2 hc.1, r_isS hR, bs1, bs1]
  by_cases c1 : 0 ≤ x ∧ x < w 1 0
  · simp only [if_pos c1, if_neg i10]
    rw [c_toC t2 hc.1 hn (by first | decide | omega), r_toC hR hS hV (by first | decide | omega), bs1, bs1]
    by_cases c2 : (0 ≤ y ∧ y < w 8 1) ∧ n 0 0 ≤ w 11 y
    · simp only [if_pos c2, if_neg i10]
      rw [r_isIn, bs1]
      by_cases c3 : 0 ≤ z ∧ z ≤ 999
      · simp only [if_pos c3, if_neg i10]
        have hcell := (hS.1.2 x c1.1 c1.2).1
        have hg := hG.1 x c1.1 c1.2
        have hp := hG.2 y c2.1.1 c2.1.2
        have e70 : m (69 + 1) x = n 1 x := hn.2.2 1 x (by first | decide | omega)
        obtain ⟨m1, e1, f1⟩ := g_worth hc hW (x := x) (v := y) (c := n 1 x) (by first | decide | omega) ⟨hg.1, hg.2.1⟩ c2.1 hcell hp
        have hc1 := hc.pn f1
        have hn1 : NX m1 69 n := hn.fr f1 (by intro b p q; unfold PN; first | decide | omega)
        obtain ⟨o, m2, e2, f2, o1, o2⟩ := c_cross hc1 hW hG hn1 hS c1 c2.1
        have k25 : u 25 x = n 1 x := by have := (hV.1.1 x c1.1 c1.2).1; rwa [show 5 * (0 : Int) + x = x by first | decide | omega] at this
        obtain ⟨u1, e3, f3, k3, k4⟩ := m_ord hR hW (Or.inl rfl) hV.1 hS.1 hL hV.2.2.2.2 (fun q => by first | decide | omega) (by have := hS.2.1; first | decide | omega) c2.1
        have hR1 := hR.po f3
        have h66 : u1 0 66 = -1 := by rw [f3 0 66 (by unfold PO PNm; first | decide | omega)]; exact hV.2.2.2.2
        have h25 : u1 25 x = n 1 x := by rw [f3 25 x (by unfold PO PNm; first | decide | omega)]; exact k25
        have hlen := lu_len (w := w) (g := gM w (-1)) (n := n) (v := y) (mn := n 0 0) (by first | decide | omega)
        obtain ⟨q, u2, e4, f4⟩ := r_go54 hW (z := z) c1 c2.1 c3 hcell hR1 h66 h25 (by first | decide | omega) (fun k p q => stk_at k3 (fun e he => by have := lu_mem he (by first | decide | omega); first | decide | omega) ⟨p, by first | decide | omega⟩) (lu w (gM w (-1)) n y (n 0 0)).length 1024 0 100 0 (by first | decide | omega) (by first | decide | omega) (by first | decide | omega) (by first | decide | omega)
        have hm : 0 ≤ z * o ∧ z * o ≤ 999 * 100 := by
          refine ⟨Int.mul_nonneg c3.1 o1, ?_⟩
          have h1 : z * o ≤ 999 * o := Int.mul_le_mul_of_nonneg_right c3.2 o1
          omega
        rw [if_neg (by first | decide | omega), if_pos c3.2, gdx_t (by first | decide | omega), e70, e1, bs1]
        simp only
        rw [e2, bs1]
        simp only
        rw [gd3_t (by first | decide | omega), hV.2.2.1, e3, bs1, e4]
        have hrel : Rel m2 u2 := h1.q ((f1.mono PN_Q).tr (f2.mono PL_Q)) ((f3.mono PO_q).tr (f4.mono PNm_q))
        split
        · exact ⟨_, _, _, _, rfl, rfl, hrel⟩
        · exact ⟨_, _, _, _, rfl, rfl, hrel⟩
      · simp only [if_neg c3, if_true]
        split
        · exact ⟨_, _, _, _, rfl, rfl, h1⟩
        · rw [if_neg (by first | decide | omega)]; exact ⟨_, _, _, _, rfl, rfl, h1⟩
    · simp only [if_neg c2, if_true]; exact ⟨_, _, _, _, rfl, rfl, h1⟩
  · simp only [if_neg c1, if_true]; exact ⟨_, _, _, _, rfl, rfl, h1⟩
/-- look: the reference's side, told by the class's memory -/
theorem a_look (h : Rel m v) (x y : Int) : ∃ T : Nat, (T = 2 ∨ T = 24) ∧ m 0 3 = (T : Int) ∧ (0 ≤ m (T + 1) 0 ∧ m (T + 1) 0 ≤ 5) ∧ ((¬ (0 ≤ x ∧ x < m (T + 1) 0) ∧ ∃ v', G12_look v x y = some (0, v') ∧ v' 0 2 = 1 ∧ Rel m v') ∨ ((0 ≤ x ∧ x < m (T + 1) 0) ∧ ((¬ (0 ≤ y ∧ y ≤ 5) ∧ ∃ v', G12_look v x y = some (0, v') ∧ v' 0 2 = 2 ∧ Rel m v') ∨ ((0 ≤ y ∧ y ≤ 3) ∧ ∃ v', G12_look v x y = some (m (70 + y.toNat) x, v') ∧ v' 0 2 = 0 ∧ Rel m v') ∨ (y = 4 ∧ (-2147483648 ≤ m (T + 5) x - m 74 x ∧ m (T + 5) x - m 74 x ≤ 2147483647) ∧ ∃ v', G12_look v x y = some (m (T + 5) x - m 74 x, v') ∧ v' 0 2 = 0 ∧ Rel m v') ∨ (y = 5 ∧ ∃ a m' v', G11_farNow m x = some (a, m') ∧ G12_look v x y = some (a, v') ∧ v' 0 2 = 0 ∧ Rel m' v')))) := by
  have h1 := h.v0
  have h02 : up v 0 2 0 0 2 = 0 := up_e
  unfold G12_look G12_look_0 G12_fails G12_fails_0
  simp only [wt_e]
  generalize up v 0 2 0 = u at h1 h02 ⊢
  obtain ⟨T, w, g, n, t1, t2, hc, hn, hW, hG, hE, hS, hR, hV, hL, -, -, -⟩ := h1.use
  have hw := hW.1
  unfold WS at hw
  have e1 : m (T + 1) 0 = w 1 0 := hc.1.2.2 1 0 (by first | decide | omega)
  refine ⟨T, t1, t2, by first | decide | omega, ?_⟩
  rw [r_isS hR, bs1, e1]
  have rv : ∀ x, Rel m (up u 0 2 x) := fun x => h1.q Fr.rf (Fm.w1 (by unfold PMq; first | decide | omega))
  by_cases c1 : 0 ≤ x ∧ x < w 1 0
  · right
    refine ⟨c1, ?_⟩
    simp only [if_pos c1, if_neg i10, bs1]
    have q1 := hV.1.1 x c1.1 c1.2
    have q2 := hV.2.2.2.1 x c1.1 c1.2
    have e0 : 5 * (0 : Int) + x = x := by omega
    rw [e0] at q1
    have en : ∀ c : Nat, c ≤ 6 → m (69 + c) x = n c x := fun c h => hn.2.2 c x h
    by_cases y0 : y = 0
    · right; left
      refine ⟨by first | decide | omega, u, ?_, h02, h1⟩
      have := en 1 (by first | decide | omega)
      rw [if_pos y0, gdx_t (by first | decide | omega), q1.1, ← this, y0]; rfl
    · rw [if_neg y0]
      by_cases y1 : y = 1
      · right; left
        refine ⟨by first | decide | omega, u, ?_, h02, h1⟩
        have := en 2 (by first | decide | omega)
        rw [if_pos y1, gdx_t (by first | decide | omega), q1.2.1, ← this, y1]; rfl
      · rw [if_neg y1]
        by_cases y2 : y = 2
        · right; left
          refine ⟨by first | decide | omega, u, ?_, h02, h1⟩
          have := en 3 (by first | decide | omega)
          rw [if_pos y2, gdx_t (by first | decide | omega), q1.2.2, ← this, y2]; rfl
        · rw [if_neg y2]
          by_cases y3 : y = 3
          · right; left
            refine ⟨by first | decide | omega, u, ?_, h02, h1⟩
            have := en 4 (by first | decide | omega)
            rw [if_pos y3, gdx_t (by first | decide | omega), q2.1, ← this, y3]; rfl
          · rw [if_neg y3]
            by_cases y4 : y = 4
            · right; right; left
              have a1 := en 5 (by first | decide | omega)
              have a2 : m (T + 5) x = w 5 x := hc.1.2.2 5 x (by first | decide | omega)
              have b1 := hS.2.2.1 x c1.1 c1.2
              have b2 := (hW.2.1 x c1.1 c1.2).2.2.1
              have a3 : m 74 x = n 5 x := a1
              refine ⟨y4, by rw [a2, a3]; first | decide | omega, u, ?_, h02, h1⟩
              rw [if_pos y4, gdx_t (by first | decide | omega), q2.2, a2, a3]
            · rw [if_neg y4]
              by_cases y5 : y = 5
              · right; right; right
                obtain ⟨m', e2, f2⟩ := c_fn hc t2 hn hW hS c1
                have hcell := (hS.1.2 x c1.1 c1.2).1
                obtain ⟨u1, e3, f3⟩ := m_pk hR hW (mn := n 0 0) (by have := hS.2.1; first | decide | omega)
                have hx := pxM_b (way := -1) (mn := n 0 0) hW
                have ep : pxM w (-1) (n 0 0) = pkX w (n 0 0) := by unfold pxM; rw [if_neg (by first | decide | omega)]
                refine ⟨y5, _, m', u1, e2, ?_, ?_, h1.q (f2.mono PN_Q) (f3.mono PNm_q)⟩
                · rw [if_pos y5, gdx_t (by first | decide | omega), hV.2.1, e3, bs1, hV.2.2.2.2]
                  simp only
                  rw [q1.1, m_far (hR.pn f3) hW hcell hx, bs1, ep]
                · rw [f3 0 2 (by unfold PNm; first | decide | omega)]; exact h02
              · left
                rw [if_neg y5]
                exact ⟨by first | decide | omega, _, rfl, up_e, rv 2⟩
  · left
    simp only [if_neg c1, if_true, bs1]
    exact ⟨c1, _, rfl, up_e, rv 1⟩
end Q14
/-! What can be undone: stroke, rule, undo. -/
section Q15
variable {m v m' v' w n n' : Mem} {T : Nat}
theorem sl_up {k : Nat} {a c : Nat} {i y : Int} (h : c ≤ k) : sl k (up m (a + c) i y) a = up (sl k m a) c i y := by
  funext d j
  by_cases c1 : d ≤ k
  · rw [sl_e c1]
    by_cases c2 : d = c
    · subst c2
      by_cases c3 : j = i
      · subst c3; rw [up_e, up_e]
      · rw [up_i c3, up_i c3, sl_e c1]
    · rw [up_a (show a + d ≠ a + c by first | decide | omega), up_a c2, sl_e c1]
  · rw [up_a (show d ≠ c by first | decide | omega)]
    unfold sl
    rw [if_neg c1, if_neg c1]
theorem sl_up0 {k : Nat} {a : Nat} {i y : Int} : sl k (up m a i y) a = up (sl k m a) 0 i y := sl_up (c := 0) (Nat.zero_le k)
theorem sl_out {k : Nat} {a b : Nat} {i y : Int} (h : b < a ∨ a + k < b) : sl k (up m b i y) a = sl k m a := sl_c (fun c x z => up_b (by first | decide | omega))
theorem SN.cell (h : SN w n) {s c : Int} (hc : 0 ≤ c ∧ c < w 0 0 * w 0 1) : SN w (up n 1 s c) := by
  obtain ⟨⟨h1, h2⟩, h3, h4, h5⟩ := h
  have e : ∀ b i, b ≠ 1 → up n 1 s c b i = n b i := fun b i q => up_a q
  unfold SN NB
  simp only [e 0 _ (by first | decide | omega), e 2 _ (by first | decide | omega), e 3 _ (by first | decide | omega), e 4 _ (by first | decide | omega), e 5 _ (by first | decide | omega), e 6 _ (by first | decide | omega)]
  refine ⟨⟨h1, fun i p q => ⟨?_, (h2 i p q).2⟩⟩, h3, h4, h5⟩
  by_cases z : i = s
  · rw [z, up_e]; exact hc
  · rw [up_i z]; exact (h2 i p q).1
theorem SN.str (h : SN w n) {s y : Int} (hy : 0 ≤ y ∧ y ≤ w 5 s) : SN w (up n 5 s y) := by
  obtain ⟨⟨h1, h2⟩, h3, h4, h5⟩ := h
  have e : ∀ b i, b ≠ 5 → up n 5 s y b i = n b i := fun b i q => up_a q
  unfold SN NB
  simp only [e 0 _ (by first | decide | omega), e 1 _ (by first | decide | omega), e 2 _ (by first | decide | omega), e 3 _ (by first | decide | omega), e 4 _ (by first | decide | omega), e 6 _ (by first | decide | omega)]
  refine ⟨⟨h1, h2⟩, h3, fun i p q => ?_, h5⟩
  have := h4 i p q
  by_cases z : i = s
  · rw [z, up_e]; rw [z] at this; exact ⟨this.1, this.2.1, hy.1, hy.2⟩
  · rw [up_i z]; exact this
theorem SN.rul (h : SN w n) {r : Int} (hr : 0 ≤ r ∧ r ≤ 3) : SN w (up n 0 1 r) := by
  obtain ⟨⟨h1, h2⟩, h3, h4, h5⟩ := h
  have e : ∀ b i, b ≠ 0 → up n 0 1 r b i = n b i := fun b i q => up_a q
  have e0 : ∀ i, i ≠ 1 → up n 0 1 r 0 i = n 0 i := fun i q => up_i q
  unfold SN NB
  simp only [up_e, e0 0 (by first | decide | omega), e0 2 (by first | decide | omega), e0 3 (by first | decide | omega), e0 4 (by first | decide | omega), e 1 _ (by first | decide | omega), e 2 _ (by first | decide | omega), e 3 _ (by first | decide | omega), e 4 _ (by first | decide | omega), e 5 _ (by first | decide | omega), e 6 _ (by first | decide | omega)]
  exact ⟨⟨⟨hr.1, hr.2, h1.2.2⟩, h2⟩, h3, h4, h5⟩
theorem SV.cell (h : SV w n v) {s c : Int} : SV w (up n 1 s c) (up v 25 s c) := by
  obtain ⟨⟨h1, h2, h3, h4, h5⟩, h6, h7, h8, h9⟩ := h
  have e : ∀ b i, b ≠ 1 → up n 1 s c b i = n b i := fun b i q => up_a q
  have e2 : ∀ b i, b ≠ 25 → up v 25 s c b i = v b i := fun b i q => up_a q
  unfold SV NM
  simp only [e 0 _ (by first | decide | omega), e 2 _ (by first | decide | omega), e 3 _ (by first | decide | omega), e 4 _ (by first | decide | omega), e 5 _ (by first | decide | omega), e 6 _ (by first | decide | omega), e2 0 _ (by first | decide | omega), e2 26 _ (by first | decide | omega), e2 27 _ (by first | decide | omega), e2 28 _ (by first | decide | omega), e2 29 _ (by first | decide | omega), e2 30 _ (by first | decide | omega), e2 31 _ (by first | decide | omega), e2 32 _ (by first | decide | omega), e2 33 _ (by first | decide | omega)]
  refine ⟨⟨fun i p q => ⟨?_, (h1 i p q).2⟩, h2, h3, h4, h5⟩, h6, h7, h8, h9⟩
  have := (h1 i p q).1
  rw [show 5 * (0 : Int) + i = i by first | decide | omega] at this ⊢
  by_cases z : i = s
  · rw [z, up_e, up_e]
  · rw [up_i z, up_i z]; exact this
theorem SV.str (h : SV w n v) {s y : Int} : SV w (up n 5 s y) (up v 29 s (w 5 s - y)) := by
  obtain ⟨⟨h1, h2, h3, h4, h5⟩, h6, h7, h8, h9⟩ := h
  have e : ∀ b i, b ≠ 5 → up n 5 s y b i = n b i := fun b i q => up_a q
  have e2 : ∀ b i, b ≠ 29 → up v 29 s (w 5 s - y) b i = v b i := fun b i q => up_a q
  unfold SV NM
  simp only [e 0 _ (by first | decide | omega), e 1 _ (by first | decide | omega), e 2 _ (by first | decide | omega), e 3 _ (by first | decide | omega), e 4 _ (by first | decide | omega), e 6 _ (by first | decide | omega), e2 0 _ (by first | decide | omega), e2 25 _ (by first | decide | omega), e2 26 _ (by first | decide | omega), e2 27 _ (by first | decide | omega), e2 28 _ (by first | decide | omega), e2 30 _ (by first | decide | omega), e2 31 _ (by first | decide | omega), e2 32 _ (by first | decide | omega), e2 33 _ (by first | decide | omega)]
  refine ⟨⟨h1, h2, h3, h4, h5⟩, h6, h7, fun i p q => ⟨(h8 i p q).1, ?_⟩, h9⟩
  have := (h8 i p q).2
  by_cases z : i = s
  · rw [z, up_e, up_e]
  · rw [up_i z, up_i z]; exact this
theorem SV.rul (h : SV w n v) {r : Int} : SV w (up n 0 1 r) (up v 0 64 r) := by
  obtain ⟨⟨h1, h2, h3, h4, h5⟩, h6, h7, h8, h9⟩ := h
  have e : ∀ b i, b ≠ 0 → up n 0 1 r b i = n b i := fun b i q => up_a q
  have e0 : ∀ i, i ≠ 1 → up n 0 1 r 0 i = n 0 i := fun i q => up_i q
  have e2 : ∀ b i, b ≠ 0 → up v 0 64 r b i = v b i := fun b i q => up_a q
  have e3 : ∀ i, i ≠ 64 → up v 0 64 r 0 i = v 0 i := fun i q => up_i q
  unfold SV NM
  simp only [up_e, e0 0 (by first | decide | omega), e0 2 (by first | decide | omega), e0 3 (by first | decide | omega), e0 4 (by first | decide | omega), e3 65 (by first | decide | omega), e3 66 (by first | decide | omega), e 1 _ (by first | decide | omega), e 2 _ (by first | decide | omega), e 3 _ (by first | decide | omega), e 4 _ (by first | decide | omega), e 5 _ (by first | decide | omega), e 6 _ (by first | decide | omega), e2 25 _ (by first | decide | omega), e2 26 _ (by first | decide | omega), e2 27 _ (by first | decide | omega), e2 28 _ (by first | decide | omega), e2 29 _ (by first | decide | omega), e2 30 _ (by first | decide | omega), e2 31 _ (by first | decide | omega), e2 32 _ (by first | decide | omega), e2 33 _ (by first | decide | omega)]
  exact ⟨⟨h1, h2, h3, h4, h5⟩, h6, trivial, h8, h9⟩
/-- the class puts one more call on -/
def Pu : Nat → Int → Prop := fun b _ => 96 ≤ b ∧ b ≤ 98
theorem c_add45 {s y c : Int} (hc : m 96 0 = c) (h : 0 ≤ c ∧ c < 20) : G9_add_45 m s y = some (up (up (up m 97 c s) 98 c y) 96 0 (c + 1)) := by
  unfold G9_add_45
  have e1 : up m 97 c s 96 0 = c := by rw [up_a (by first | decide | omega)]; exact hc
  have e2 : up (up m 97 c s) 98 c y 96 0 = c := by rw [up_a (by first | decide | omega)]; exact e1
  rw [hc, gdx_t (by first | decide | omega), wt_e, e1, gdx_t (by first | decide | omega), wt_e, e2, gd3_t (by first | decide | omega), wt_e]
end Q15
