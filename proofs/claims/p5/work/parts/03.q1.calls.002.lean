section Q3
variable {m v w g n : Mem} {T : Nat}
theorem r_toC (h : RT v w) (hS : SN w n) (hV : SV w n v) (h28 : w 8 1 ≤ 28) (s : Int) : G12_isToCome v s = some ((if (0 ≤ s ∧ s < w 8 1) ∧ n 0 0 ≤ w 11 s then 1 else 0), v) := by
  unfold G12_isToCome G12_isToCome_0
  rw [r_isV h, bs1]
  by_cases c : 0 ≤ s ∧ s < w 8 1
  · simp only [if_pos c, if_neg i10]
    have e6 : v 30 s = n 6 s := by have := hV.1.2.1 s c.1 c.2; rwa [show 28 * (0 : Int) + s = s by first | decide | omega] at this
    have hq := hS.2.2.2 s c.1 c.2
    rw [gdx_t (by first | decide | omega), e6]
    by_cases c2 : n 6 s = -2
    · rw [if_pos c2, if_pos ⟨c, hq.mp c2⟩]
    · rw [if_neg c2, if_neg (fun q => c2 (hq.mpr q.2))]
  · simp only [if_neg c, if_true]
    rw [if_neg (fun q => c q.1)]
theorem a_order (h : Rel m v) (x y : Int) : Agr (G11_order m x y) (G12_order v x y) := by
  have h1 := h.v0
  unfold G11_order G11_order_0 G12_order G12_order_0
  rw [wt_e]
  generalize up v 0 2 0 = u at h1 ⊢
  obtain ⟨T, w, g, n, t1, t2, hc, hn, hW, hG, hE, hS, hR, hV, hL, -, -, -⟩ := h1.use
  have hw := hW.1
  unfold WS at hw
  have hmn := hS.2.1
  rw [c_toC t2 hc.1 hn (by first | decide | omega), r_toC hR hS hV (by first | decide | omega), bs1, bs1]
  by_cases c : (0 ≤ x ∧ x < w 8 1) ∧ n 0 0 ≤ w 11 x
  · simp only [if_pos c, if_neg i10]
    by_cases c2 : 0 ≤ y
    · rw [if_pos c2, if_pos c2]
      have e69 : m 69 0 = n 0 0 := hn.2.1 0
      obtain ⟨m1, e1, f1, l1⟩ := g_line hc hW hG hn hS.1 (n 0 0) c.1
      obtain ⟨u1, e2, f2, s2, k2⟩ := m_ord hR hW (Or.inl rfl) hV.1 hS.1 hL hV.2.2.2.2 (fun q => by first | decide | omega) (by first | decide | omega) c.1
      have hlu := lu_ge (n := n) hE (v := x) (mn := n 0 0) c.1 (by first | decide | omega)
      have hlen := lu_len (w := w) (n := n) (g := gM w (-1)) (v := x) (mn := n 0 0) (by first | decide | omega)
      rw [hlu] at e1 l1
      rw [e69, e1, bs1, hV.2.2.1, e2, bs1, k2]
      simp only
      by_cases c3 : ((lu w (gM w (-1)) n x (n 0 0)).length : Int) ≤ y
      · rw [if_pos c3, if_neg (by first | decide | omega)]
        exact agr h1 _ rfl rfl (f1.mono PL_Q) (f2.mono PO_q)
      · rw [if_neg c3, if_pos (by first | decide | omega), gdx_t (by first | decide | omega), gdx_t (by first | decide | omega)]
        have := stkO_eq l1.1 s2 y c2 (by first | decide | omega)
        refine agr h1 (u1 34 y) ?_ rfl (f1.mono PL_Q) (f2.mono PO_q)
        rw [← this]
    · rw [if_neg c2, if_neg c2]; exact agr0 h1 _ rfl rfl
  · simp only [if_neg c, if_true]; exact agr0 h1 _ rfl rfl
theorem seat_ge {g' : Mem} (h : GE w g g') {x c i : Int} (hx : 0 ≤ x ∧ x < w 1 0) (hi : 0 ≤ i ∧ i ≤ w 8 1) : seatV w g x c i = seatV w g' x c i := by
  unfold seatV
  have : ∀ (d : Nat) (j : Int), 0 ≤ j → j + d ≤ w 8 1 → smd (fun v => worthV w (g 1 x) (g 3 v) v c) d j = smd (fun v => worthV w (g' 1 x) (g' 3 v) v c) d j := by
    intro d
    induction d with
    | zero => intros; rfl
    | succ d ih =>
      intro j a b
      rw [smd_s, smd_s, ih (j + 1) (by first | decide | omega) (by first | decide | omega), (h.1 x hx.1 hx.2).1, h.2 j (by first | decide | omega) (by first | decide | omega)]
  exact this _ i hi.1 (by first | decide | omega)
theorem r_gain (hR : RT v w) (hW : WW w) {s k c way : Int} (h66 : v 0 66 = way) (hs : 0 ≤ s ∧ s < w 1 0) (hk : 0 ≤ k ∧ k < w 8 1) (hc : 0 ≤ c ∧ c < w 0 0 * w 0 1) : ∃ v', G12_gainOf v s k c = some (worthV w (gM w way 1 s) (gM w way 3 k) k c, v') ∧ Fm PNm v v' := by
  have hw := hW.1
  unfold WS at hw
  obtain ⟨v1, e1, f1⟩ := m_odds hR hW hs hk hc
  rw [h66] at e1
  have hb := worth_b hW (bd := gM w way 1 s) (px := gM w way 3 k) hk hc (pxM_b (way := way) (mn := w 11 k) hW)
  unfold G12_gainOf G12_gainOf_0
  rw [e1, bs1, gdx_t (by first | decide | omega)]
  simp only
  rw [((hR.pn f1).2.2.2.2.1 k hk.1 hk.2).2.1]
  unfold worthV at hb ⊢
  have e : oddsV w (bdM w way s) (pxM w way (w 11 k)) k c = oddsV w (gM w way 1 s) (gM w way 3 k) k c := rfl
  rw [e, gd3_t (by first | decide | omega)]
  exact ⟨v1, rfl, f1⟩
theorem r_seat6 (hW : WW w) {s c x : Int} (hs : 0 ≤ s ∧ s < w 1 0) (hc : 0 ≤ c ∧ c < w 0 0 * w 0 1) : ∀ (d k : Nat) (i a : Int) (v : Mem), 0 ≤ i → w 8 1 - i = d → d < k → 0 ≤ a → a ≤ 900 * i → RT v w → v 0 66 = -1 → ∃ v', G12_seatFrom_6 k v s c x a i = some (a + (if i ≤ ff w x then seatV w (gM w (-1)) s c (ff w x) else seatV w (gM w (-1)) s c i), v') ∧ Fm PNm v v' := by
  have hw := hW.1
  unfold WS at hw
  obtain ⟨v1, v2, v3, v4⟩ := ff_spec (w := w) (by first | decide | omega) x
  intro d
  induction d with
  | zero =>
    intro k i a v a1 a2 a3 a4 a5 hR h66
    obtain ⟨k, rfl⟩ : ∃ j, k = j + 1 := ⟨k - 1, by first | decide | omega⟩
    rw [G12_seatFrom_6, hR.1.2.2.2.2.1, if_pos (by first | decide | omega)]
    refine ⟨v, ?_, Fm.rf⟩
    have z : ∀ j, j = w 8 1 → seatV w (gM w (-1)) s c j = 0 := fun j hj => by
      unfold seatV; rw [hj, show (w 8 1 - w 8 1).toNat = 0 by first | decide | omega]; rfl
    congr 2
    split
    · rw [z _ (by first | decide | omega)]; omega
    · rw [z _ (by first | decide | omega)]; omega
  | succ d ih =>
    intro k i a v a1 a2 a3 a4 a5 hR h66
    obtain ⟨k, rfl⟩ : ∃ j, k = j + 1 := ⟨k - 1, by first | decide | omega⟩
    rw [G12_seatFrom_6, hR.1.2.2.2.2.1, if_neg (by first | decide | omega), gdx_t (by first | decide | omega), (hR.2.2.2.2.1 i (by first | decide | omega) (by first | decide | omega)).1]
    by_cases c1 : w 11 i < x
    · have hi : i < ff w x := by
        rcases Int.lt_or_le i (ff w x) with z | z
        · exact z
        · have h4 := v4 (by first | decide | omega)
          by_cases z2 : i = ff w x
          · rw [← z2] at h4; omega
          · have := wv_lt hW v1 (show ff w x < i by first | decide | omega) (by first | decide | omega); omega
      rw [if_pos c1, gd3_t (by first | decide | omega), gd3_t (by first | decide | omega)]
      obtain ⟨v', e1, f1⟩ := ih k (i + 1) (a + 0) v (by first | decide | omega) (by first | decide | omega) (by first | decide | omega) (by first | decide | omega) (by first | decide | omega) hR h66
      refine ⟨v', ?_, f1⟩
      rw [e1, if_pos (by first | decide | omega), if_pos (by first | decide | omega), Int.add_zero]
    · have hi : ff w x ≤ i := by
        rcases Int.lt_or_le i (ff w x) with z | z
        · have := v3 i a1 z; omega
        · exact z
      obtain ⟨u1, e0, f0⟩ := r_gain hR hW h66 hs (k := i) (by first | decide | omega) hc
      have hb := worth_b hW (bd := gM w (-1) 1 s) (px := gM w (-1) 3 i) (v := i) (by first | decide | omega) hc (by rw [gM3]; exact pxM_b hW)
      rw [if_neg c1, e0, bs1]
      simp only
      rw [gd3_t (by first | decide | omega), gd3_t (by first | decide | omega)]
      obtain ⟨v', e1, f1⟩ := ih k (i + 1) (a + worthV w (gM w (-1) 1 s) (gM w (-1) 3 i) i c) u1 (by first | decide | omega) (by first | decide | omega) (by first | decide | omega) (by first | decide | omega) (by first | decide | omega) (hR.pn f0) (by rw [f0 0 66 (by unfold PNm; first | decide | omega)]; exact h66)
      refine ⟨v', ?_, f0.tr f1⟩
      have es : seatV w (gM w (-1)) s c i = worthV w (gM w (-1) 1 s) (gM w (-1) 3 i) i c + seatV w (gM w (-1)) s c (i + 1) := by
        unfold seatV
        rw [show (w 8 1 - i).toNat = (w 8 1 - (i + 1)).toNat + 1 by first | decide | omega, smd_s]
      rw [e1, if_neg (by first | decide | omega)]
      congr 2
      by_cases z : i = ff w x
      · rw [if_pos (by first | decide | omega), ← z, es]; omega
      · rw [if_neg (by first | decide | omega), es]; omega
theorem r_seat (hR : RT v w) (hW : WW w) (h66 : v 0 66 = -1) {s c x : Int} (hs : 0 ≤ s ∧ s < w 1 0) (hc : 0 ≤ c ∧ c < w 0 0 * w 0 1) : ∃ v', G12_seatFrom v s c x = some (seatV w (gM w (-1)) s c (ff w x), v') ∧ Fm PNm v v' := by
  have hw := hW.1
  unfold WS at hw
  have hv := (ff_spec (w := w) (by first | decide | omega) x).1
  obtain ⟨v', e1, f1⟩ := r_seat6 hW hs hc (x := x) (w 8 1).toNat 1024 0 0 v (by first | decide | omega) (by first | decide | omega) (by first | decide | omega) (by first | decide | omega) (by first | decide | omega) hR h66
  rw [if_pos hv, Int.zero_add] at e1
  exact ⟨v', e1, f1⟩
theorem c_ftc (hT : m 0 3 = (T : Int)) (h : TX m T w) (hn : NX m 69 n) (hW : WW w) : G11_firstToCome m = some (ff w (n 0 0), m) := by
  have hw := hW.1
  unfold WS at hw
  have e69 : m 69 0 = n 0 0 := hn.2.1 0
  unfold G11_firstToCome G11_firstToCome_0
  rw [hT, Int.toNat_natCast, e69, g_ff h (by first | decide | omega), bs1]
theorem c_seat (t2 : m 0 3 = (T : Int)) (hc : CX m 51 T w g) (hn : NX m 69 n) (hW : WW w) (hG : GB w g) (hE : GE w g (gM w (-1))) {x c : Int} (hx : 0 ≤ x ∧ x < w 1 0) (hcc : 0 ≤ c ∧ c < w 0 0 * w 0 1) : ∃ m', G6_seatFrom m 51 x c (ff w (n 0 0)) = some (seatV w (gM w (-1)) x c (ff w (n 0 0)), m') ∧ Fr (PN 51) m m' := by
  have hw := hW.1
  unfold WS at hw
  have hv := ff_spec (w := w) (by first | decide | omega) (n 0 0)
  have hg := hG.1 x hx.1 hx.2
  obtain ⟨m', e, f⟩ := g_seat hc hW (x := x) (c := c) (i := ff w (n 0 0)) (by first | decide | omega) ⟨hg.1, hg.2.1⟩ hcc hG.2 ⟨hv.1, hv.2.1⟩
  rw [seat_ge hE hx ⟨hv.1, hv.2.1⟩] at e
  exact ⟨m', e, f⟩
theorem a_seat (h : Rel m v) (x y : Int) : Agr (G11_seat m x y) (G12_seat v x y) := by
  have h1 := h.v0
  unfold G11_seat G11_seat_0 G12_seat G12_seat_0
  rw [wt_e]
  generalize up v 0 2 0 = u at h1 ⊢
  obtain ⟨T, w, g, n, t1, t2, hc, hn, hW, hG, hE, hS, hR, hV, hL, -, -, -⟩ := h1.use
  rw [c_isS t2 hc.1, r_isS hR, bs1, bs1]
  by_cases c1 : 0 ≤ x ∧ x < w 1 0
  · simp only [if_pos c1, if_neg i10]
    rw [c_isC t2 hc.1 hW, r_isC hR hW, bs1, bs1]
    by_cases c2 : 0 ≤ y ∧ y < w 0 0 * w 0 1
    · simp only [if_pos c2, if_neg i10]
      obtain ⟨m1, e1, f1⟩ := c_seat t2 hc hn hW hG hE c1 c2
      obtain ⟨u1, e2, f2⟩ := r_seat hR hW hV.2.2.2.2 (x := n 0 0) c1 c2
      rw [c_ftc t2 hc.1 hn hW, bs1]
      simp only
      rw [e1, bs1, hV.2.1, e2, bs1]
      exact agr h1 _ rfl rfl (f1.mono PN_Q) (f2.mono PNm_q)
    · simp only [if_neg c2, if_true]; exact agr0 h1 _ rfl rfl
  · simp only [if_neg c1, if_true]; exact agr0 h1 _ rfl rfl
theorem a_best_l {x : Int} (hW : WW w) (c1 : 0 ≤ x ∧ x < w 1 0) : ∀ (d k : Nat) (i b a : Int) (m v : Mem), Rel m v → (∃ T g, m 0 3 = ((T : Nat) : Int) ∧ CX m 51 T w g ∧ NX m 69 n ∧ GB w g ∧ GE w g (gM w (-1)) ∧ RT v w ∧ SV w n v) → 0 ≤ i → w 0 0 * w 0 1 - i = d → d < k → Agr (G11_best_17 k m x b a i) (G12_best_22 k v x b a i) := by
  have hb := cells_b hW
  have hw := hW.1
  unfold WS at hw
  intro d
  induction d with
  | zero =>
    intro k i b a m v h ⟨T, g, t2, hc, hn, hG, hE, hR, hV⟩ a1 a2 a3
    obtain ⟨k, rfl⟩ : ∃ j, k = j + 1 := ⟨k - 1, by first | decide | omega⟩
    rw [G11_best_17, G12_best_22, t2, Int.toNat_natCast, g_cells hc.1 (by first | decide | omega) (by first | decide | omega), r_cells hR hW, bs1, bs1]
    simp only
    rw [if_pos (by first | decide | omega), if_pos (by first | decide | omega)]
    exact agr0 h _ rfl rfl
  | succ d ih =>
    intro k i b a m v h ⟨T, g, t2, hc, hn, hG, hE, hR, hV⟩ a1 a2 a3
    obtain ⟨k, rfl⟩ : ∃ j, k = j + 1 := ⟨k - 1, by first | decide | omega⟩
    rw [G11_best_17, G12_best_22, t2, Int.toNat_natCast, g_cells hc.1 (by first | decide | omega) (by first | decide | omega), r_cells hR hW, bs1, bs1]
    simp only
    rw [if_neg (by first | decide | omega), if_neg (by first | decide | omega)]
    obtain ⟨m1, e1, f1⟩ := c_seat t2 hc hn hW hG hE c1 (c := i) (by first | decide | omega)
    obtain ⟨u1, e2, f2⟩ := r_seat hR hW hV.2.2.2.2 (x := n 0 0) c1 (c := i) (by first | decide | omega)
    rw [c_ftc t2 hc.1 hn hW, bs1]
    simp only
    rw [e1, bs1, hV.2.1, e2, bs1]
    simp only
    have h' : Rel m1 u1 := h.q (f1.mono PN_Q) (f2.mono PNm_q)
    have hx : ∃ T g, m1 0 3 = ((T : Nat) : Int) ∧ CX m1 51 T w g ∧ NX m1 69 n ∧ GB w g ∧ GE w g (gM w (-1)) ∧ RT u1 w ∧ SV w n u1 := ⟨T, g, by rw [f1 0 3 (by unfold PN; first | decide | omega)]; exact t2, hc.pn f1, hn.pl (Or.inl rfl) (f1.mono PN_PL), hG, hE, hR.pn f2, hV.q ⟨by first | decide | omega, by first | decide | omega⟩ (f2.mono PNm_q)⟩
    rw [gd3_t (by first | decide | omega), gd3_t (by first | decide | omega), gd3_t (by first | decide | omega), gd3_t (by first | decide | omega)]
    by_cases z : seatV w (gM w (-1)) x i (ff w (n 0 0)) ≤ a
    · rw [if_pos z, if_neg (by first | decide | omega)]
      exact ih k (i + 1) b a m1 u1 h' hx (by first | decide | omega) (by first | decide | omega) (by first | decide | omega)
    · rw [if_neg z, if_pos (by first | decide | omega)]
      exact ih k (i + 1) i _ m1 u1 h' hx (by first | decide | omega) (by first | decide | omega) (by first | decide | omega)
theorem a_best (h : Rel m v) (x : Int) : Agr (G11_best m x) (G12_best v x) := by
  have h1 := h.v0
  unfold G11_best G11_best_0 G12_best G12_best_0
  rw [wt_e]
  generalize up v 0 2 0 = u at h1 ⊢
  obtain ⟨T, w, g, n, t1, t2, hc, hn, hW, hG, hE, hS, hR, hV, hL, -, -, -⟩ := h1.use
  have hb := cells_b hW
  rw [c_isS t2 hc.1, r_isS hR, bs1, bs1]
  by_cases c1 : 0 ≤ x ∧ x < w 1 0
  · simp only [if_pos c1, if_neg i10]
    exact a_best_l hW c1 (w 0 0 * w 0 1).toNat 1024 0 0 (-1) m u h1 ⟨T, g, t2, hc, hn, hG, hE, hR, hV⟩ (by first | decide | omega) (by first | decide | omega) (by first | decide | omega)
  · simp only [if_neg c1, if_true]; exact agr0 h1 _ rfl rfl
end Q3
/-! Questions about sets, shares, counts. -/
theorem agr_if {c : Prop} [Decidable c] {A A' B B' : Option (Int × Mem)} (h1 : Agr A B) (h2 : Agr A' B') : Agr (if c then A else A') (if c then B else B') := by
  by_cases h : c
  · rw [if_pos h, if_pos h]; exact h1
  · rw [if_neg h, if_neg h]; exact h2
section Q4
variable {m v w g n : Mem} {T : Nat}
theorem wt_lt (hW : WW w) {t : Int} (h0 : 0 ≤ t) (h1 : t < w 8 0) : 0 ≤ w 9 t ∧ w 9 t < 28 ∧ w 9 t < w 8 1 := by
  have hw := hW.1
  unfold WS at hw
  have := hW.2.2.1.2.2 t h0 h1
  omega
theorem r_next7 (hR : RT v w) (hW : WW w) {x : Int} (hx : 0 ≤ x ∧ x ≤ 199) (h31 : v 31 0 = x) : ∀ (d k : Nat) (i : Int), 0 ≤ i → w 8 0 - i = d → d < k → G12_next_7 k v i = some ((if sfd (fun t => w 11 (w 9 t)) x d i = -1 then -2 else w 11 (w 9 (sfd (fun t => w 11 (w 9 t)) x d i)) - x), v) := by
  have hw := hW.1
  unfold WS at hw
  intro d
  induction d with
  | zero =>
    intro k i a1 a2 a3
    obtain ⟨k, rfl⟩ : ∃ j, k = j + 1 := ⟨k - 1, by first | decide | omega⟩
    rw [G12_next_7, hR.1.2.2.2.1, if_pos (by first | decide | omega)]
    rfl
  | succ d ih =>
    intro k i a1 a2 a3
    obtain ⟨k, rfl⟩ : ∃ j, k = j + 1 := ⟨k - 1, by first | decide | omega⟩
    have h9 := wt_lt hW a1 (show i < w 8 0 by first | decide | omega)
    have hb := (hW.2.2.2.1 (w 9 i) h9.1 h9.2.2).2.1
    have es : sfd (fun t => w 11 (w 9 t)) x (d + 1) i = if w 11 (w 9 i) < x then sfd (fun t => w 11 (w 9 t)) x d (i + 1) else i := rfl
    rw [G12_next_7, hR.1.2.2.2.1, if_neg (by first | decide | omega), hR.2.2.2.1 i a1 (by first | decide | omega), (hR.2.2.2.2.1 (w 9 i) h9.1 h9.2.2).1, h31, gdx_t (by first | decide | omega), gdx_t (by first | decide | omega), gdx_t (by first | decide | omega), gdx_t (by first | decide | omega), gd3_t (by first | decide | omega), gd3_t (by first | decide | omega), ih k (i + 1) (by first | decide | omega) (by first | decide | omega) (by first | decide | omega), es]
    by_cases c : w 11 (w 9 i) < x
    · rw [if_pos c, if_pos c]
    · rw [if_neg c, if_neg c, if_neg (by first | decide | omega)]
theorem sfd_b {f : Int → Int} {x : Int} : ∀ (d : Nat) (i : Int), 0 ≤ i → sfd f x d i = -1 ∨ (i ≤ sfd f x d i ∧ sfd f x d i < i + d) := by
  intro d
  induction d with
  | zero => intro i _; left; rfl
  | succ d ih =>
    intro i hi
    have es : sfd f x (d + 1) i = if f i < x then sfd f x d (i + 1) else i := rfl
    rw [es]
    split
    · rcases ih (i + 1) (by first | decide | omega) with z | z
      · left; exact z
      · right; omega
    · right; omega
theorem sf_b (h : 0 ≤ w 8 0) (x : Int) : sf w x = -1 ∨ (0 ≤ sf w x ∧ sf w x < w 8 0) := by
  rcases sfd_b (f := fun t => w 11 (w 9 t)) (x := x) (w 8 0).toNat 0 (by first | decide | omega) with z | z
  · left; exact z
  · right; unfold sf; omega
theorem a_next (h : Rel m v) : Agr (G11_next m) (G12_next v) := by
  have h1 := h.v0
  unfold G11_next G11_next_0 G12_next G12_next_0
  rw [wt_e]
  generalize up v 0 2 0 = u at h1 ⊢
  obtain ⟨T, w, g, n, t1, t2, hc, hn, hW, hG, hE, hS, hR, hV, hL, -, -, -⟩ := h1.use
  have hw := hW.1
  unfold WS at hw
  have hmn := hS.2.1
  have e69 : m 69 0 = n 0 0 := hn.2.1 0
  have hsf := g_sf hc.1 (by first | decide | omega) (fun t a b => ⟨(wt_lt hW a b).1, (wt_lt hW a b).2.1⟩) (n 0 0)
  rw [r_next7 hR hW hmn hV.2.1 (w 8 0).toNat 1024 0 (by first | decide | omega) (by first | decide | omega) (by first | decide | omega), t2, Int.toNat_natCast, e69, hsf, bs1]
  have es : sfd (fun t => w 11 (w 9 t)) (n 0 0) (w 8 0).toNat 0 = sf w (n 0 0) := rfl
  rw [es]
  simp only
  rcases sf_b (w := w) (by first | decide | omega) (n 0 0) with z | z
  · rw [if_pos z, if_pos z]; exact agr0 h1 _ rfl rfl
  · have h9 := wt_lt hW z.1 z.2
    have hb := (hW.2.2.2.1 _ h9.1 h9.2.2).2.1
    rw [if_neg (by first | decide | omega), if_neg (by first | decide | omega), t2, Int.toNat_natCast, g_fm hc.1 (by first | decide | omega) ⟨h9.1, h9.2.1⟩, bs1]
    simp only
    rw [e69, gd3_t (by first | decide | omega)]
    exact agr0 h1 _ rfl rfl
/-- sets lie one behind another -/
theorem wt_mono (hW : WW w) : ∀ (d : Nat) (s : Int), 0 ≤ s → s + d + 1 < w 8 0 → w 9 s + w 10 s ≤ w 9 (s + d + 1) := by
  intro d
  induction d with
  | zero =>
    intro s a b
    have := (hW.2.2.1.2.2 s a (by first | decide | omega)).2.2.2.2.1 (by first | decide | omega)
    rw [show s + ((0 : Nat) : Int) + 1 = s + 1 by first | decide | omega]; omega
  | succ d ih =>
    intro s a b
    have h1 := ih s a (by first | decide | omega)
    have h2 := hW.2.2.1.2.2 (s + d + 1) (by first | decide | omega) (by first | decide | omega)
    have h3 := h2.2.2.2.2.1 (by first | decide | omega)
    rw [show s + ((d + 1 : Nat) : Int) + 1 = s + d + 1 + 1 by first | decide | omega]
    omega
theorem wt_one (hW : WW w) {s t i : Int} (hs : 0 ≤ s ∧ s < w 8 0) (ht : 0 ≤ t ∧ t < w 8 0) (h1 : w 9 s ≤ i ∧ i < w 9 s + w 10 s) (h2 : w 9 t ≤ i ∧ i < w 9 t + w 10 t) : s = t := by
  rcases Int.lt_trichotomy s t with z | z | z
  · have := wt_mono hW (t - s - 1).toNat s hs.1 (by first | decide | omega)
    rw [show s + ((t - s - 1).toNat : Int) + 1 = t by first | decide | omega] at this
    omega
  · exact z
  · have := wt_mono hW (s - t - 1).toNat t ht.1 (by first | decide | omega)
    rw [show t + ((s - t - 1).toNat : Int) + 1 = s by first | decide | omega] at this
    omega
/-- the wave just before a set -/
theorem wt_prev (hW : WW w) {t : Int} (h0 : 1 ≤ t) (h1 : t < w 8 0) : w 9 t = w 9 (t - 1) + w 10 (t - 1) ∧ 0 ≤ w 9 t - 1 ∧ w 9 t - 1 < w 8 1 ∧ w 11 (w 9 t - 1) = w 11 (w 9 (t - 1)) + w 10 (t - 1) - 1 := by
  have hp := hW.2.2.1.2.2 (t - 1) (by first | decide | omega) (by first | decide | omega)
  have ht := hW.2.2.1.2.2 t (by first | decide | omega) h1
  have e := hp.2.2.2.2.1 (by first | decide | omega)
  rw [show t - 1 + 1 = t by first | decide | omega] at e
  have hv := hW.2.2.2.1 (w 9 t - 1) (by first | decide | omega) (by first | decide | omega)
  have es : w 13 (w 9 t - 1) = t - 1 := wt_one hW ⟨hv.1.1, hv.1.2.1⟩ (by first | decide | omega) ⟨hv.1.2.2.1, hv.1.2.2.2.1⟩ (by first | decide | omega)
  have := hv.1.2.2.2.2.2
  rw [es] at this
  exact ⟨e, by first | decide | omega, by first | decide | omega, by first | decide | omega⟩
def gpd (w : Mem) (x : Int) : Nat → Int → Int → Int
  | 0, _, a => a
  | d + 1, i, a => gpd w x d (i + 1) (if x < w 11 (w 9 i) - (w 11 (w 9 (i - 1)) + w 10 (i - 1) - 1) then a else a + 1)
end Q4
