/-! go, on both sides, whatever it says; look. -/
def Tot (X Y : Option (Int × Mem)) : Prop := ∃ a b m' v', X = some (a, m') ∧ Y = some (b, v') ∧ Rel m' v'
section Q14
variable {m v w g n : Mem} {T : Nat}
theorem stk_at {f : Int → Int} {l : List Int} {N : Int} (h : stkO f 0 l) (hm : ∀ e ∈ l, 0 ≤ e ∧ e < N) {k : Int} (hk : 0 ≤ k ∧ k < l.length) : 0 ≤ f k ∧ f k < N := by
  have h1 := frt_nth (stk_frt h) hk.1 (by rw [List.length_reverse]; exact hk.2)
  rw [Int.zero_add] at h1
  rw [h1]
  have hl : k.toNat < l.reverse.length := by rw [List.length_reverse]; omega
  rw [List.getD_eq_getElem?_getD, List.getElem?_eq_getElem hl]
  show 0 ≤ l.reverse[k.toNat] ∧ l.reverse[k.toNat] < N
  exact hm _ (List.mem_reverse.mp (List.getElem_mem hl))
theorem mul_b {a b : Int} (ha : 0 ≤ a ∧ a ≤ 100) (hb : 0 ≤ b ∧ b ≤ 100) : 0 ≤ a * (100 - b) ∧ a * (100 - b) ≤ 10000 := by
  refine ⟨Int.mul_nonneg ha.1 (by omega), ?_⟩
  have h1 : a * (100 - b) ≤ 100 * (100 - b) := Int.mul_le_mul_of_nonneg_right ha.2 (by omega)
  omega
theorem c_cr28 {x L z N : Int} (hN : N ≤ 5) (hL : 0 ≤ L ∧ L ≤ 5) (h1 : ∀ k, 0 ≤ k → k < L → 0 ≤ m (51 + 6) k ∧ m (51 + 6) k < N) (h2 : ∀ e, 0 ≤ e → e < N → 0 ≤ m (51 + 2) e ∧ m (51 + 2) e ≤ 100) : ∀ (d f : Nat) (i a : Int), 0 ≤ i → L - i = d → d < f → (0 ≤ a ∧ a ≤ 100) → ∃ y, G6_crossingOdds_28 f m 51 x L z a i = some (y, m) ∧ 0 ≤ y ∧ y ≤ 100 := by
  intro d
  induction d with
  | zero =>
    intro f i a a1 a2 a3 a4
    obtain ⟨f, rfl⟩ : ∃ j, f = j + 1 := ⟨f - 1, by omega⟩
    rw [G6_crossingOdds_28, if_pos (by omega), gd3_t (by omega)]
    exact ⟨_, rfl, by omega, by omega⟩
  | succ d ih =>
    intro f i a a1 a2 a3 a4
    obtain ⟨f, rfl⟩ : ∃ j, f = j + 1 := ⟨f - 1, by omega⟩
    have b1 := h1 i a1 (by omega)
    have b2 := h2 _ b1.1 b1.2
    have b3 := mul_b a4 b2
    obtain ⟨y1, e1, p1⟩ := ih f (i + 1) a (by omega) (by omega) (by omega) a4
    obtain ⟨y2, e2, p2⟩ := ih f (i + 1) (a * (100 - m (51 + 2) (m (51 + 6) i)) / 100) (by omega) (by omega) (by omega) (by omega)
    have t : ∃ y, G6_crossingOdds_74 (fun m a0 x2 x4 x5 x6 x7 => G6_crossingOdds_28 f m a0 x2 x4 x5 x6 x7) m 51 x L z a i (m (51 + 6) i) = some (y, m) ∧ 0 ≤ y ∧ y ≤ 100 := by
      unfold G6_crossingOdds_74
      rw [gdx_t (by omega), gd3_t (by omega), gdd_t (by omega), gd3_t (by omega)]
      exact ⟨y2, e2, p2⟩
    rw [G6_crossingOdds_28, if_neg (by omega), gdx_t (by omega), gdx_t (by omega), gdx_t (by omega), gd3_t (by omega), e1]
    by_cases c1 : z < m (51 + 8) (m (51 + 6) i)
    · rw [if_pos c1]; exact t
    · rw [if_neg c1]
      by_cases c2 : m (51 + 8) (m (51 + 6) i) = z
      · rw [if_pos c2]
        by_cases c3 : m (51 + 6) i ≤ x
        · rw [if_pos c3]; exact ⟨y1, rfl, p1⟩
        · rw [if_neg c3]; exact t
      · rw [if_neg c2]; exact ⟨y1, rfl, p1⟩
theorem c_cross (hc : CX m 51 T w g) (hW : WW w) (hG : GB w g) (hn : NX m 69 n) (hS : SN w n) {s k : Int} (hs : 0 ≤ s ∧ s < w 1 0) (hk : 0 ≤ k ∧ k < w 8 1) : ∃ y m', G6_crossingOdds m 51 69 s k = some (y, m') ∧ Fr (PL 51) m m' ∧ 0 ≤ y ∧ y ≤ 100 := by
  have hw := hW.1
  unfold WS at hw
  have e69 : m 69 0 = n 0 0 := hn.2.1 0
  obtain ⟨m1, e1, f1, hL⟩ := g_line hc hW hG hn hS.1 (n 0 0) hk
  have hc1 := hc.pl f1
  have hn1 := hn.pl (Or.inl rfl) f1
  unfold G6_crossingOdds G6_crossingOdds_0
  rw [e69, e1, bs1]
  simp only
  rw [g_key hc1 hW hG hn1 hS.1 hs hk, bs1]
  simp only
  have hlen : ((lu w g n k (n 0 0)).length : Int) ≤ 5 := by
    have := lu_len (w := w) (g := g) (n := n) (v := k) (mn := n 0 0) (by omega)
    omega
  obtain ⟨y, e2, p⟩ := c_cr28 (m := m1) (x := s) (L := (lu w g n k (n 0 0)).length) (z := keyV w g n k s) (N := w 1 0) (by omega) (by omega) (fun j p q => stk_at hL.1 (fun e he => by have := lu_mem he (by omega); omega) ⟨p, q⟩) (fun e p q => by
    have e2 : m1 (51 + 2) e = g 2 e := hc1.2.2.2 2 e (by omega) (by omega)
    rw [e2]; exact (hG.1 e p q).2.2) (lu w g n k (n 0 0)).length 1024 0 100 (by omega) (by omega) (by omega) (by omega)
  exact ⟨y, m1, e2, f1, p⟩
theorem r_go54 (hW : WW w) {s k z c : Int} (hs : 0 ≤ s ∧ s < w 1 0) (hk : 0 ≤ k ∧ k < w 8 1) (hz : 0 ≤ z ∧ z ≤ 999) (hc : 0 ≤ c ∧ c < w 0 0 * w 0 1) (hR : RT v w) (h66 : v 0 66 = -1) (h25 : v 25 s = c) (hL : 0 ≤ v 0 69 ∧ v 0 69 ≤ 5) (h1 : ∀ k, 0 ≤ k → k < v 0 69 → 0 ≤ v 34 k ∧ v 34 k < w 1 0) : ∀ (d f : Nat) (i a b : Int), 0 ≤ i → v 0 69 - i = d → d < f → (0 ≤ a ∧ a ≤ 100) → ∃ y v', G12_go_54 f v s k z a b i = some (y, v') ∧ Fm PNm v v' := by
  have hw := hW.1
  unfold WS at hw
  intro d
  induction d with
  | zero =>
    intro f i a b a1 a2 a3 a4
    obtain ⟨f, rfl⟩ : ∃ j, f = j + 1 := ⟨f - 1, by omega⟩
    obtain ⟨v1, e1, f1⟩ := r_gain hR hW h66 hs hk hc
    rw [G12_go_54, if_pos (by omega), gdx_t (by omega), h25, e1, bs1]
    have hm : 0 ≤ z * (100 - a) ∧ z * (100 - a) ≤ 999 * 100 := by
      refine ⟨Int.mul_nonneg hz.1 (by omega), ?_⟩
      have h1 : z * (100 - a) ≤ 999 * (100 - a) := Int.mul_le_mul_of_nonneg_right hz.2 (by omega)
      omega
    rw [gd3_t (by omega)]
    split
    · exact ⟨_, _, rfl, f1⟩
    · exact ⟨_, _, rfl, f1⟩
  | succ d ih =>
    intro f i a b a1 a2 a3 a4
    obtain ⟨f, rfl⟩ : ∃ j, f = j + 1 := ⟨f - 1, by omega⟩
    have b1 := h1 i a1 (by omega)
    have e9 := (hR.2.2.1 _ b1.1 b1.2).2.2.2.2.1
    have b2 := (hW.2.1 _ b1.1 b1.2).2.2.2.1
    rw [← e9] at b2
    have b3 := mul_b a4 b2
    have t : ∀ a', (0 ≤ a' ∧ a' ≤ 100) → ∃ y v', G12_go_91 (fun m x1 x2 x3 x4 x5 x6 => G12_go_54 f m x1 x2 x3 x4 x5 x6) v s k z a' b i = some (y, v') ∧ Fm PNm v v' := by
      intro a' ha'
      obtain ⟨y1, v1, e1, p1⟩ := ih f (i + 1) a' 1 (by omega) (by omega) (by omega) ha'
      obtain ⟨y0, v0, e0, p0⟩ := ih f (i + 1) a' 0 (by omega) (by omega) (by omega) ha'
      unfold G12_go_91 G12_go_107
      rw [gdx_t (by omega), gd3_t (by omega)]
      simp only [gd3_t (show -2147483648 ≤ i + 1 ∧ i + 1 ≤ 2147483647 by omega)]
      split
      · split
        · exact ⟨y1, v1, e1, p1⟩
        · exact ⟨y0, v0, e0, p0⟩
      · exact ⟨y1, v1, e1, p1⟩
    rw [G12_go_54, if_neg (by omega), gdx_t (by omega), gdx_t (by omega), gd3_t (by omega), gdd_t (by omega)]
    split
    · exact t a a4
    · exact t _ (by omega)
theorem t_go (h : Rel m v) (x y z : Int) : Tot (G11_go m x y z) (G12_go v x y z) := by
  have h1 := h.v0
  unfold G11_go G11_go_0 G12_go G12_go_0
  rw [wt_e]
  generalize up v 0 2 0 = u at h1 ⊢
  obtain ⟨T, w, g, n, t1, t2, hc, hn, hW, hG, hE, hS, hR, hV, hL, -, -, -⟩ := h1.use
  have hw := hW.1
  unfold WS at hw
  rw [c_isS t2 hc.1, r_isS hR, bs1, bs1]
  by_cases c1 : 0 ≤ x ∧ x < w 1 0
  · simp only [if_pos c1, if_neg i10]
    rw [c_toC t2 hc.1 hn (by omega), r_toC hR hS hV (by omega), bs1, bs1]
    by_cases c2 : (0 ≤ y ∧ y < w 8 1) ∧ n 0 0 ≤ w 11 y
    · simp only [if_pos c2, if_neg i10]
      rw [r_isIn, bs1]
      by_cases c3 : 0 ≤ z ∧ z ≤ 999
      · simp only [if_pos c3, if_neg i10]
        have hcell := (hS.1.2 x c1.1 c1.2).1
        have hg := hG.1 x c1.1 c1.2
        have hp := hG.2 y c2.1.1 c2.1.2
        have e70 : m (69 + 1) x = n 1 x := hn.2.2 1 x (by omega)
        obtain ⟨m1, e1, f1⟩ := g_worth hc hW (x := x) (v := y) (c := n 1 x) (by omega) ⟨hg.1, hg.2.1⟩ c2.1 hcell hp
        have hc1 := hc.pn f1
        have hn1 : NX m1 69 n := hn.fr f1 (by intro b p q; unfold PN; omega)
        obtain ⟨o, m2, e2, f2, o1, o2⟩ := c_cross hc1 hW hG hn1 hS c1 c2.1
        have k25 : u 25 x = n 1 x := by have := (hV.1.1 x c1.1 c1.2).1; rwa [show 5 * (0 : Int) + x = x by omega] at this
        obtain ⟨u1, e3, f3, k3, k4⟩ := m_ord hR hW (Or.inl rfl) hV.1 hS.1 hL hV.2.2.2.2 (fun q => by omega) (by have := hS.2.1; omega) c2.1
        have hR1 := hR.po f3
        have h66 : u1 0 66 = -1 := by rw [f3 0 66 (by unfold PO PNm; omega)]; exact hV.2.2.2.2
        have h25 : u1 25 x = n 1 x := by rw [f3 25 x (by unfold PO PNm; omega)]; exact k25
        have hlen := lu_len (w := w) (g := gM w (-1)) (n := n) (v := y) (mn := n 0 0) (by omega)
        obtain ⟨q, u2, e4, f4⟩ := r_go54 hW (z := z) c1 c2.1 c3 hcell hR1 h66 h25 (by omega) (fun k p q => stk_at k3 (fun e he => by have := lu_mem he (by omega); omega) ⟨p, by omega⟩) (lu w (gM w (-1)) n y (n 0 0)).length 1024 0 100 0 (by omega) (by omega) (by omega) (by omega)
        have hm : 0 ≤ z * o ∧ z * o ≤ 999 * 100 := by
          refine ⟨Int.mul_nonneg c3.1 o1, ?_⟩
          have h1 : z * o ≤ 999 * o := Int.mul_le_mul_of_nonneg_right c3.2 o1
          omega
        rw [if_neg (by omega), if_pos c3.2, gdx_t (by omega), e70, e1, bs1]
        simp only
        rw [e2, bs1]
        simp only
        rw [gd3_t (by omega), hV.2.2.1, e3, bs1, e4]
        have hrel : Rel m2 u2 := h1.q ((f1.mono PN_Q).tr (f2.mono PL_Q)) ((f3.mono PO_q).tr (f4.mono PNm_q))
        split
        · exact ⟨_, _, _, _, rfl, rfl, hrel⟩
        · exact ⟨_, _, _, _, rfl, rfl, hrel⟩
      · simp only [if_neg c3, if_true]
        split
        · exact ⟨_, _, _, _, rfl, rfl, h1⟩
        · rw [if_neg (by omega)]; exact ⟨_, _, _, _, rfl, rfl, h1⟩
    · simp only [if_neg c2, if_true]; exact ⟨_, _, _, _, rfl, rfl, h1⟩
  · simp only [if_neg c1, if_true]; exact ⟨_, _, _, _, rfl, rfl, h1⟩
/-- look: the reference's side, told by the class's memory -/
theorem a_look (h : Rel m v) (x y : Int) : ∃ T : Nat, (T = 2 ∨ T = 24) ∧ m 0 3 = (T : Int) ∧ (0 ≤ m (T + 1) 0 ∧ m (T + 1) 0 ≤ 5) ∧ ((¬ (0 ≤ x ∧ x < m (T + 1) 0) ∧ ∃ v', G12_look v x y = some (0, v') ∧ v' 0 2 = 1 ∧ Rel m v') ∨ ((0 ≤ x ∧ x < m (T + 1) 0) ∧ ((¬ (0 ≤ y ∧ y ≤ 5) ∧ ∃ v', G12_look v x y = some (0, v') ∧ v' 0 2 = 2 ∧ Rel m v') ∨ ((0 ≤ y ∧ y ≤ 3) ∧ ∃ v', G12_look v x y = some (m (70 + y.toNat) x, v') ∧ v' 0 2 = 0 ∧ Rel m v') ∨ (y = 4 ∧ (-2147483648 ≤ m (T + 5) x - m 74 x ∧ m (T + 5) x - m 74 x ≤ 2147483647) ∧ ∃ v', G12_look v x y = some (m (T + 5) x - m 74 x, v') ∧ v' 0 2 = 0 ∧ Rel m v') ∨ (y = 5 ∧ ∃ a m' v', G11_farNow m x = some (a, m') ∧ G12_look v x y = some (a, v') ∧ v' 0 2 = 0 ∧ Rel m' v')))) := by
  have h1 := h.v0
  have h02 : up v 0 2 0 0 2 = 0 := up_e
  unfold G12_look G12_look_0 G12_fails G12_fails_0
  simp only [wt_e]
  generalize up v 0 2 0 = u at h1 h02 ⊢
  obtain ⟨T, w, g, n, t1, t2, hc, hn, hW, hG, hE, hS, hR, hV, hL, -, -, -⟩ := h1.use
  have hw := hW.1
  unfold WS at hw
  have e1 : m (T + 1) 0 = w 1 0 := hc.1.2.2 1 0 (by omega)
  refine ⟨T, t1, t2, by omega, ?_⟩
  rw [r_isS hR, bs1, e1]
  have rv : ∀ x, Rel m (up u 0 2 x) := fun x => h1.q Fr.rf (Fm.w1 (by unfold PMq; omega))
  by_cases c1 : 0 ≤ x ∧ x < w 1 0
  · right
    refine ⟨c1, ?_⟩
    simp only [if_pos c1, if_neg i10, bs1]
    have q1 := hV.1.1 x c1.1 c1.2
    have q2 := hV.2.2.2.1 x c1.1 c1.2
    have e0 : 5 * (0 : Int) + x = x := by omega
    rw [e0] at q1
    have en : ∀ c : Nat, c ≤ 6 → m (69 + c) x = n c x := fun c h => hn.2.2 c x h
    by_cases y0 : y = 0
    · right; left
      refine ⟨by omega, u, ?_, h02, h1⟩
      have := en 1 (by omega)
      rw [if_pos y0, gdx_t (by omega), q1.1, ← this, y0]; rfl
    · rw [if_neg y0]
      by_cases y1 : y = 1
      · right; left
        refine ⟨by omega, u, ?_, h02, h1⟩
        have := en 2 (by omega)
        rw [if_pos y1, gdx_t (by omega), q1.2.1, ← this, y1]; rfl
      · rw [if_neg y1]
        by_cases y2 : y = 2
        · right; left
          refine ⟨by omega, u, ?_, h02, h1⟩
          have := en 3 (by omega)
          rw [if_pos y2, gdx_t (by omega), q1.2.2, ← this, y2]; rfl
        · rw [if_neg y2]
          by_cases y3 : y = 3
          · right; left
            refine ⟨by omega, u, ?_, h02, h1⟩
            have := en 4 (by omega)
            rw [if_pos y3, gdx_t (by omega), q2.1, ← this, y3]; rfl
          · rw [if_neg y3]
            by_cases y4 : y = 4
            · right; right; left
              have a1 := en 5 (by omega)
              have a2 : m (T + 5) x = w 5 x := hc.1.2.2 5 x (by omega)
              have b1 := hS.2.2.1 x c1.1 c1.2
              have b2 := (hW.2.1 x c1.1 c1.2).2.2.1
              have a3 : m 74 x = n 5 x := a1
              refine ⟨y4, by rw [a2, a3]; omega, u, ?_, h02, h1⟩
              rw [if_pos y4, gdx_t (by omega), q2.2, a2, a3]
            · rw [if_neg y4]
              by_cases y5 : y = 5
              · right; right; right
                obtain ⟨m', e2, f2⟩ := c_fn hc t2 hn hW hS c1
                have hcell := (hS.1.2 x c1.1 c1.2).1
                obtain ⟨u1, e3, f3⟩ := m_pk hR hW (mn := n 0 0) (by have := hS.2.1; omega)
                have hx := pxM_b (way := -1) (mn := n 0 0) hW
                have ep : pxM w (-1) (n 0 0) = pkX w (n 0 0) := by unfold pxM; rw [if_neg (by omega)]
                refine ⟨y5, _, m', u1, e2, ?_, ?_, h1.q (f2.mono PN_Q) (f3.mono PNm_q)⟩
                · rw [if_pos y5, gdx_t (by omega), hV.2.1, e3, bs1, hV.2.2.2.2]
                  simp only
                  rw [q1.1, m_far (hR.pn f3) hW hcell hx, bs1, ep]
                · rw [f3 0 2 (by unfold PNm; omega)]; exact h02
              · left
                rw [if_neg y5]
                exact ⟨by omega, _, rfl, up_e, rv 2⟩
  · left
    simp only [if_neg c1, if_true, bs1]
    exact ⟨c1, _, rfl, up_e, rv 1⟩
end Q14
