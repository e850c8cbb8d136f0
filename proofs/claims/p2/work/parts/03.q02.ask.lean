/-! Questions: both answer alike. -/
def Agr (X Y : Option (Int × Mem)) : Prop := ∃ a m' v', X = some (a, m') ∧ Y = some (a, v') ∧ Rel m' v'
theorem agr {m v : Mem} {X Y : Option (Int × Mem)} (h : Rel m v) (a : Int) {m' v' : Mem} (e1 : X = some (a, m')) (e2 : Y = some (a, v')) (f : Fr PQ' m m') (g : Fm PMq v v') : Agr X Y := ⟨a, m', v', e1, e2, h.q f g⟩
theorem agr0 {m v : Mem} {X Y : Option (Int × Mem)} (h : Rel m v) (a : Int) (e1 : X = some (a, m)) (e2 : Y = some (a, v)) : Agr X Y := ⟨a, m, v, e1, e2, h⟩
theorem Rel.v0 {m v : Mem} (h : Rel m v) : Rel m (up v 0 2 0) := h.q Fr.rf (Fm.w1 (by unfold PMq; omega))
section Q2
variable {m v w g n : Mem} {T : Nat}
theorem c_isS (hT : m 0 3 = (T : Int)) (h : TX m T w) (s : Int) : G11_isSurfer m s = some ((if 0 ≤ s ∧ s < w 1 0 then 1 else 0), m) := by
  unfold G11_isSurfer G11_isSurfer_0
  rw [hT, Int.toNat_natCast, h.2.2 1 0 (by omega)]
  by_cases c1 : s < 0
  · rw [if_pos c1, if_neg (by omega)]
  · rw [if_neg c1]
    by_cases c2 : w 1 0 ≤ s
    · rw [if_pos c2, if_neg (by omega)]
    · rw [if_neg c2, if_pos (by omega)]
theorem r_isS (h : RT v w) (s : Int) : G12_isSurfer v s = some ((if 0 ≤ s ∧ s < w 1 0 then 1 else 0), v) := by
  unfold G12_isSurfer G12_isSurfer_0
  rw [h.1.2.2.1]
  by_cases c1 : s < 0
  · rw [if_pos c1, if_neg (by omega)]
  · rw [if_neg c1]
    by_cases c2 : w 1 0 ≤ s
    · rw [if_pos c2, if_neg (by omega)]
    · rw [if_neg c2, if_pos (by omega)]
theorem c_isV (hT : m 0 3 = (T : Int)) (h : TX m T w) (s : Int) : G11_isWave m s = some ((if 0 ≤ s ∧ s < w 8 1 then 1 else 0), m) := by
  unfold G11_isWave G11_isWave_0
  rw [hT, Int.toNat_natCast, h.2.2 8 1 (by omega)]
  by_cases c1 : s < 0
  · rw [if_pos c1, if_neg (by omega)]
  · rw [if_neg c1]
    by_cases c2 : w 8 1 ≤ s
    · rw [if_pos c2, if_neg (by omega)]
    · rw [if_neg c2, if_pos (by omega)]
theorem r_isV (h : RT v w) (s : Int) : G12_isWave v s = some ((if 0 ≤ s ∧ s < w 8 1 then 1 else 0), v) := by
  unfold G12_isWave G12_isWave_0
  rw [h.1.2.2.2.2.1]
  by_cases c1 : s < 0
  · rw [if_pos c1, if_neg (by omega)]
  · rw [if_neg c1]
    by_cases c2 : w 8 1 ≤ s
    · rw [if_pos c2, if_neg (by omega)]
    · rw [if_neg c2, if_pos (by omega)]
theorem cells_b (hW : WW w) : 1 ≤ w 0 0 * w 0 1 ∧ w 0 0 * w 0 1 ≤ 48 := by
  have hw := hW.1
  unfold WS at hw
  have h1 : 1 * 1 ≤ w 0 0 * w 0 1 := Int.mul_le_mul (by omega) (by omega) (by omega) (by omega)
  have h2 : w 0 0 * w 0 1 ≤ 8 * 6 := Int.mul_le_mul (by omega) (by omega) (by omega) (by omega)
  omega
theorem r_cells (h : RT v w) (hW : WW w) : G12_cells v = some (w 0 0 * w 0 1, v) := by
  have := cells_b hW
  unfold G12_cells G12_cells_0
  rw [h.1.1, h.1.2.1, gd3_t (by omega)]
theorem c_isC (hT : m 0 3 = (T : Int)) (h : TX m T w) (hW : WW w) (s : Int) : G11_isCell m s = some ((if 0 ≤ s ∧ s < w 0 0 * w 0 1 then 1 else 0), m) := by
  have hw := hW.1
  unfold WS at hw
  unfold G11_isCell G11_isCell_0
  rw [hT, Int.toNat_natCast, g_cells h (by omega) (by omega), bs1]
  simp only
  by_cases c1 : s < 0
  · rw [if_pos c1, if_neg (by omega)]
  · rw [if_neg c1]
    by_cases c2 : w 0 0 * w 0 1 ≤ s
    · rw [if_pos c2, if_neg (by omega)]
    · rw [if_neg c2, if_pos (by omega)]
theorem r_isC (h : RT v w) (hW : WW w) (s : Int) : G12_isCell v s = some ((if 0 ≤ s ∧ s < w 0 0 * w 0 1 then 1 else 0), v) := by
  unfold G12_isCell G12_isCell_0
  rw [r_cells h hW, bs1]
  simp only
  by_cases c1 : s < 0
  · rw [if_pos c1, if_neg (by omega)]
  · rw [if_neg c1]
    by_cases c2 : w 0 0 * w 0 1 ≤ s
    · rw [if_pos c2, if_neg (by omega)]
    · rw [if_neg c2, if_pos (by omega)]
theorem r_isIn (v : Mem) (x a b : Int) : G12_isIn v x a b = some ((if a ≤ x ∧ x ≤ b then 1 else 0), v) := by
  unfold G12_isIn G12_isIn_0
  by_cases c1 : x < a
  · rw [if_pos c1, if_neg (by omega)]
  · rw [if_neg c1]
    by_cases c2 : b < x
    · rw [if_pos c2, if_neg (by omega)]
    · rw [if_neg c2, if_pos (by omega)]
theorem c_isR (m : Mem) (x : Int) : G11_isRule m x = some ((if 0 ≤ x ∧ x ≤ 3 then 1 else 0), m) := by
  unfold G11_isRule G11_isRule_0
  by_cases c1 : x < 0
  · rw [if_pos c1, if_neg (by omega)]
  · rw [if_neg c1]
    by_cases c2 : 4 ≤ x
    · rw [if_pos c2, if_neg (by omega)]
    · rw [if_neg c2, if_pos (by omega)]
theorem i10 : ¬ (1 : Int) = 0 := by decide
theorem a_fault (h : Rel m v) (x : Int) : Agr (G11_fault m x) (G12_fault v x) := by
  have h1 := h.v0
  unfold G11_fault G11_fault_0 G12_fault G12_fault_0
  rw [wt_e]
  generalize up v 0 2 0 = u at h1 ⊢
  obtain ⟨T, _, _, _, _, _, ⟨e1, e2⟩, e3⟩ := h1
  rw [e1, e2]
  have h1 : Rel m u := ⟨T, ‹_›, ‹_›, ‹_›, ‹_›, ‹_›, ⟨e1, e2⟩, e3⟩
  split
  · exact agr0 h1 _ rfl rfl
  · split
    · exact agr0 h1 _ rfl rfl
    · exact agr0 h1 _ rfl rfl
-- the first of d places from i on that holds x; none: -1
def fnd (f : Int → Int) (x : Int) : Nat → Int → Int
  | 0, _ => -1
  | d + 1, i => if f i = x then i else fnd f x d (i + 1)
theorem fnd_s (f : Int → Int) (x : Int) (d : Nat) (i : Int) : fnd f x (d + 1) i = if f i = x then i else fnd f x d (i + 1) := rfl
theorem c_nam (hT : m 0 3 = (T : Int)) (h : TX m T w) (h5 : w 1 0 ≤ 5) (x : Int) : ∀ (d k : Nat) (i : Int), 0 ≤ i → w 1 0 - i = d → d < k → G11_named_2 k m x i = some (fnd (w 2) x d i, m) := by
  intro d
  induction d with
  | zero =>
    intro k i a1 a2 a3
    obtain ⟨k, rfl⟩ : ∃ j, k = j + 1 := ⟨k - 1, by omega⟩
    rw [G11_named_2, hT, Int.toNat_natCast, h.2.2 1 0 (by omega), if_pos (by omega)]
    rfl
  | succ d ih =>
    intro k i a1 a2 a3
    obtain ⟨k, rfl⟩ : ∃ j, k = j + 1 := ⟨k - 1, by omega⟩
    rw [G11_named_2, hT, Int.toNat_natCast, h.2.2 1 0 (by omega), if_neg (by omega), gdx_t (by omega), h.2.2 2 i (by omega), fnd_s, gd3_t (by omega), ih k (i + 1) (by omega) (by omega) (by omega)]
    split <;> rfl
theorem r_find (o N x : Int) (f : Int → Int) (ho : 0 ≤ o ∧ o + N ≤ 10) : ∀ (d k : Nat) (i : Int), 0 ≤ i → N - i = d → d < k → (∀ j, 0 ≤ j → j < N → v 5 (o + j) = f j) → G12_find_3 k v o N x i = some (fnd f x d i, v) := by
  intro d
  induction d with
  | zero =>
    intro k i a1 a2 a3 hf
    obtain ⟨k, rfl⟩ : ∃ j, k = j + 1 := ⟨k - 1, by omega⟩
    rw [G12_find_3, if_pos (by omega)]
    rfl
  | succ d ih =>
    intro k i a1 a2 a3 hf
    obtain ⟨k, rfl⟩ : ∃ j, k = j + 1 := ⟨k - 1, by omega⟩
    rw [G12_find_3, if_neg (by omega), gdx_t (by omega), hf i a1 (by omega), fnd_s, gd3_t (by omega), ih k (i + 1) (by omega) (by omega) (by omega) hf]
    split <;> rfl
theorem a_named (h : Rel m v) (x : Int) : Agr (G11_named m x) (G12_named v x) := by
  have h1 := h.v0
  unfold G11_named G11_named_0 G12_named G12_named_0 G12_find G12_find_0
  rw [wt_e]
  generalize up v 0 2 0 = u at h1 ⊢
  obtain ⟨T, w, g, n, t1, t2, hc, hn, hW, hG, hE, hS, hR, hV, hL, -, -, -⟩ := h1.use
  have hw := hW.1
  unfold WS at hw
  rw [hR.1.2.2.1, r_find 0 (w 1 0) x (w 2) (by omega) (w 1 0).toNat 1024 0 (by omega) (by omega) (by omega) (fun j p q => by rw [Int.zero_add]; exact (hR.2.2.1 j p q).1), bs1]
  exact agr0 h1 _ (c_nam t2 hc.1 (by omega) x (w 1 0).toNat 1024 0 (by omega) (by omega) (by omega)) rfl
theorem a_wave (h : Rel m v) (x y : Int) : Agr (G11_wave m x y) (G12_wave v x y) := by
  have h1 := h.v0
  unfold G11_wave G11_wave_0 G12_wave G12_wave_0
  rw [wt_e]
  generalize up v 0 2 0 = u at h1 ⊢
  obtain ⟨T, w, g, n, t1, t2, hc, hn, hW, hG, hE, hS, hR, hV, hL, -, -, -⟩ := h1.use
  have hw := hW.1
  unfold WS at hw
  rw [c_isV t2 hc.1, r_isV hR, bs1, bs1]
  by_cases c : 0 ≤ x ∧ x < w 8 1
  · obtain ⟨k1, k2, k3, k4, k5, k6, k7, k8, k9, k10⟩ := wnm hR hW c
    rw [k9] at k3 k4 k5 k6 k10
    simp only [if_pos c, if_neg i10]
    have e1 : m (T + 11) x = w 11 x := hc.1.2.2 11 x (by omega)
    have e2 : m (T + 12) x = w 12 x := hc.1.2.2 12 x (by omega)
    have e3 : m (T + 13) x = w 13 x := hc.1.2.2 13 x (by omega)
    have e4 : m (T + 14) x = w 14 x := hc.1.2.2 14 x (by omega)
    have e5 : m (69 + 6) x = n 6 x := hn.2.2 6 x (by omega)
    have e6 : u 30 x = n 6 x := by have := hV.1.2.1 x c.1 c.2; rwa [show 28 * (0 : Int) + x = x by omega] at this
    simp only [t2, Int.toNat_natCast, e1, e2, e3, e4, e5, gdx_t (show 0 ≤ x ∧ x < 28 by omega), gdx_t (show 0 ≤ x ∧ x < 56 by omega), gdx_t (show 0 ≤ w 13 x ∧ w 13 x < 8 from ⟨k3, k4⟩), gd3_t (show -2147483648 ≤ w 14 x ∧ w 14 x ≤ 2147483647 by omega), k10, k7, k8, k9, e6]
    split
    · exact agr0 h1 _ rfl rfl
    · split
      · exact agr0 h1 _ rfl rfl
      · split
        · exact agr0 h1 _ rfl rfl
        · split
          · exact agr0 h1 _ rfl rfl
          · split
            · exact agr0 h1 _ rfl rfl
            · exact agr0 h1 _ rfl rfl
  · simp only [if_neg c, if_true]
    exact agr0 h1 _ rfl rfl
theorem a_peak (h : Rel m v) (x : Int) : Agr (G11_peak m x) (G12_peak v x) := by
  have h1 := h.v0
  unfold G11_peak G11_peak_0 G12_peak G12_peak_0
  rw [wt_e]
  generalize up v 0 2 0 = u at h1 ⊢
  obtain ⟨T, w, g, n, t1, t2, hc, hn, hW, hG, hE, hS, hR, hV, hL, -, -, -⟩ := h1.use
  have hw := hW.1
  unfold WS at hw
  rw [r_isIn, bs1]
  by_cases c : 0 ≤ x ∧ x ≤ 199
  · obtain ⟨m', e1, f1⟩ := g_pkX hc hW (mn := x) (by omega)
    obtain ⟨v', e2, f2⟩ := m_pk hR hW (mn := x) (by omega)
    have hb := pkX_b hW x
    have hcb := (pk_dm hW hb).2.2
    have hc2 := cells_b hW
    have e3 : w 0 3 * w 0 0 = w 0 0 * w 0 3 := Int.mul_comm _ _
    simp only [if_pos c, if_neg i10, if_neg (show ¬ x < 0 by omega), if_pos c.2]
    rw [e1, e2, bs1, bs1]
    simp only [t2, Int.toNat_natCast, hc.1.2.1]
    rw [gd3_t (by omega), hV.2.2.2.2, e3]
    exact agr h1 _ rfl rfl (f1.mono PN_Q) (f2.mono PNm_q)
  · simp only [if_neg c, if_true]
    by_cases c1 : x < 0
    · rw [if_pos c1]; exact agr0 h1 _ rfl rfl
    · rw [if_neg c1, if_neg (by omega)]; exact agr0 h1 _ rfl rfl
theorem a_odds (h : Rel m v) (x y z : Int) : Agr (G11_odds m x y z) (G12_odds v x y z) := by
  have h1 := h.v0
  unfold G11_odds G11_odds_0 G12_odds G12_odds_0
  rw [wt_e]
  generalize up v 0 2 0 = u at h1 ⊢
  obtain ⟨T, w, g, n, t1, t2, hc, hn, hW, hG, hE, hS, hR, hV, hL, -, -, -⟩ := h1.use
  have hw := hW.1
  unfold WS at hw
  rw [c_isS t2 hc.1, r_isS hR, bs1, bs1]
  by_cases c1 : 0 ≤ x ∧ x < w 1 0
  · simp only [if_pos c1, if_neg i10]
    rw [c_isV t2 hc.1, r_isV hR, bs1, bs1]
    by_cases c2 : 0 ≤ y ∧ y < w 8 1
    · simp only [if_pos c2, if_neg i10]
      rw [c_isC t2 hc.1 hW, r_isC hR hW, bs1, bs1]
      by_cases c3 : 0 ≤ z ∧ z < w 0 0 * w 0 1
      · simp only [if_pos c3, if_neg i10]
        have hg := hG.1 x c1.1 c1.2
        obtain ⟨m', e1, f1⟩ := g_odds hc hW (x := x) (v := y) (c := z) (by omega) ⟨hg.1, hg.2.1⟩ c2 c3 (hG.2 y c2.1 c2.2)
        obtain ⟨v', e2, f2⟩ := m_odds hR hW c1 c2 c3
        rw [hV.2.2.2.2] at e2
        rw [e1, e2, bs1, bs1, (hE.1 x c1.1 c1.2).1, hE.2 y c2.1 c2.2]
        exact agr h1 _ rfl rfl (f1.mono PN_Q) (f2.mono PNm_q)
      · simp only [if_neg c3, if_true]; exact agr0 h1 _ rfl rfl
    · simp only [if_neg c2, if_true]; exact agr0 h1 _ rfl rfl
  · simp only [if_neg c1, if_true]; exact agr0 h1 _ rfl rfl
theorem c_fn (h : CX m 51 T w g) (t2 : m 0 3 = (T : Int)) (hn : NX m 69 n) (hW : WW w) (hS : SN w n) {s : Int} (hs : 0 ≤ s ∧ s < w 1 0) : ∃ m', G11_farNow m s = some (fr w (n 1 s) (pkX w (n 0 0)), m') ∧ Fr (PN 51) m m' := by
  have hw := hW.1
  unfold WS at hw
  have hb := (hS.1.2 s hs.1 hs.2).1
  obtain ⟨m1, e1, f1⟩ := g_pkX h hW (mn := n 0 0) (by have := hS.2.1; omega)
  have hpb := pkX_b hW (n 0 0)
  unfold G11_farNow G11_farNow_0
  have e0 : m 69 0 = n 0 0 := hn.2.1 0
  have e2 : m (69 + 1) s = n 1 s := hn.2.2 1 s (by omega)
  rw [gdx_t (by omega), e0, e1, bs1, t2, Int.toNat_natCast, e2]
  simp only
  rw [g_far (h.pn f1).1 (by omega) (by omega) (by omega) hb hpb, bs1]
  exact ⟨m1, rfl, f1⟩
theorem a_deeper (h : Rel m v) (x y : Int) : Agr (G11_deeper m x y) (G12_deeper v x y) := by
  have h1 := h.v0
  unfold G11_deeper G11_deeper_0 G12_deeper G12_deeper_0
  rw [wt_e]
  generalize up v 0 2 0 = u at h1 ⊢
  obtain ⟨T, w, g, n, t1, t2, hc, hn, hW, hG, hE, hS, hR, hV, hL, -, -, -⟩ := h1.use
  have hw := hW.1
  unfold WS at hw
  rw [c_isS t2 hc.1, r_isS hR, bs1, bs1]
  by_cases c1 : 0 ≤ x ∧ x < w 1 0
  · simp only [if_pos c1, if_neg i10]
    rw [c_isS t2 hc.1, r_isS hR, bs1, bs1]
    by_cases c2 : 0 ≤ y ∧ y < w 1 0
    · simp only [if_pos c2, if_neg i10]
      obtain ⟨m1, e1, f1⟩ := c_fn hc t2 hn hW hS c1
      have g1 := f1.mono PN_Q
      have hc1 := hc.pn f1
      have hn1 := hn.pl (Or.inl rfl) (f1.mono PN_PL)
      obtain ⟨m2, e2, f2⟩ := c_fn hc1 (by rw [f1 0 3 (by unfold PN; omega)]; exact t2) hn1 hW hS c2
      rw [e1, bs1]
      simp only
      rw [e2, bs1]
      obtain ⟨u1, e3, f3⟩ := m_pk hR hW (mn := n 0 0) (by have := hS.2.1; omega)
      rw [hV.2.2.2.2] at e3
      have hR1 := hR.pn f3
      have hpb := pkX_b hW (n 0 0)
      have hbx := (hS.1.2 x c1.1 c1.2).1
      have hby := (hS.1.2 y c2.1 c2.2).1
      have k1 : u1 25 x = n 1 x := by rw [f3 25 x (by unfold PNm; omega)]; have := (hV.1.1 x c1.1 c1.2).1; rwa [show 5 * (0 : Int) + x = x by omega] at this
      have k2 : u1 25 y = n 1 y := by rw [f3 25 y (by unfold PNm; omega)]; have := (hV.1.1 y c2.1 c2.2).1; rwa [show 5 * (0 : Int) + y = y by omega] at this
      have ep : pxM w (-1) (n 0 0) = pkX w (n 0 0) := rfl
      rw [hV.2.1, e3, bs1, gdx_t (by omega)]
      simp only
      rw [k1, ep, m_far hR1 hW hbx hpb, bs1, gdx_t (by omega)]
      simp only
      rw [k2, m_far hR1 hW hby hpb, bs1]
      simp only
      generalize fr w (n 1 x) (pkX w (n 0 0)) = A
      generalize fr w (n 1 y) (pkX w (n 0 0)) = B
      have F := g1.tr (f2.mono PN_Q)
      have G := f3.mono PNm_q
      by_cases z1 : A = B
      · rw [if_pos z1, if_pos (by omega), if_pos (by omega)]; exact agr h1 _ rfl rfl F G
      · rw [if_neg z1]
        by_cases z2 : B ≤ A
        · rw [if_pos z2, if_pos z2, if_neg (by omega)]; exact agr h1 _ rfl rfl F G
        · rw [if_neg z2, if_neg z2]; exact agr h1 _ rfl rfl F G
    · simp only [if_neg c2, if_true]; exact agr0 h1 _ rfl rfl
  · simp only [if_neg c1, if_true]; exact agr0 h1 _ rfl rfl
theorem a_give (h : Rel m v) (x y z : Int) : Agr (G11_give m x y z) (G12_give v x y z) := by
  have h1 := h.v0
  unfold G11_give G11_give_0 G12_give G12_give_0
  rw [wt_e]
  generalize up v 0 2 0 = u at h1 ⊢
  obtain ⟨T, w, g, n, t1, t2, hc, hn, hW, hG, hE, hS, hR, hV, hL, -, -, -⟩ := h1.use
  have hw := hW.1
  unfold WS at hw
  rw [c_isS t2 hc.1, r_isS hR, bs1, bs1]
  by_cases c1 : 0 ≤ x ∧ x < w 1 0
  · simp only [if_pos c1, if_neg i10]
    rw [c_isS t2 hc.1, r_isS hR, bs1, bs1]
    by_cases c2 : 0 ≤ y ∧ y < w 1 0
    · simp only [if_pos c2, if_neg i10]
      by_cases c3 : x = y
      · rw [if_pos c3, if_pos c3]; exact agr0 h1 _ rfl rfl
      · rw [if_neg c3, if_neg c3, r_isIn, bs1]
        by_cases c4 : 0 ≤ z ∧ z ≤ 99
        · have hb := (hW.2.1 y c2.1 c2.2).2.2.2.2
          have hm : 0 ≤ w 7 y * z ∧ w 7 y * z ≤ 100 * 99 := ⟨Int.mul_nonneg (by omega) (by omega), Int.mul_le_mul (by omega) (by omega) (by omega) (by omega)⟩
          simp only [if_pos c4, if_neg i10, if_neg (show ¬ z < 0 by omega), if_pos c4.2, t2, Int.toNat_natCast, hc.1.2.2 7 y (by omega), (hR.2.2.1 y c2.1 c2.2).2.2.2.2.2]
          rw [gdx_t (by omega), gdx_t (by omega), gd3_t (by omega), gd3_t (by omega)]
          split
          · exact agr0 h1 _ rfl rfl
          · exact agr0 h1 _ rfl rfl
        · simp only [if_neg c4, if_true]
          by_cases c5 : z < 0
          · rw [if_pos c5]; exact agr0 h1 _ rfl rfl
          · rw [if_neg c5, if_neg (by omega)]; exact agr0 h1 _ rfl rfl
    · simp only [if_neg c2, if_true]; exact agr0 h1 _ rfl rfl
  · simp only [if_neg c1, if_true]; exact agr0 h1 _ rfl rfl
end Q2
