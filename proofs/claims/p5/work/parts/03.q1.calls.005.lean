section Q5
variable {m v w g n : Mem} {T : Nat}
theorem over_l {x L : Int} (hW : WW w) (hS : SN w n) (hx : 0 ≤ x ∧ x < w 1 0) (hL : L = w 11 (w 8 1 - 1)) (hcnt : 0 < w 8 1) (h7 : 1 ≤ w 0 7) : ∀ (d k : Nat) (i : Int) (m v : Mem), Rel m v → (∃ T g, m 0 3 = ((T : Nat) : Int) ∧ CX m 51 T w g ∧ NX m 69 n ∧ GB w g ∧ GE w g (gM w (-1)) ∧ RT v w ∧ SV w n v) → 0 ≤ i → i ≤ 300 → (L + 1 - i = d ∨ (L + 1 < i ∧ d = 0)) → d < k → Agr (G11_over_93 k m x L (ff w i) (seatV w (gM w (-1)) x (n 1 x) (ff w i)) i) (G12_over_50 k v x L i) := by
  have hw := hW.1
  unfold WS at hw
  have hlb := (hW.2.2.2.1 (w 8 1 - 1) (by first | decide | omega) (by first | decide | omega)).2.1
  have hcell := (hS.1.2 x hx.1 hx.2).1
  intro d
  induction d with
  | zero =>
    intro k i m v h ⟨T, g, t2, hc, hn, hG, hE, hR, hV⟩ a1 a0 a2 a3
    obtain ⟨k, rfl⟩ : ∃ j, k = j + 1 := ⟨k - 1, by first | decide | omega⟩
    rw [G11_over_93, G12_over_50, if_pos (by first | decide | omega), if_pos (by first | decide | omega)]
    exact agr0 h _ rfl rfl
  | succ d ih =>
    intro k i m v h ⟨T, g, t2, hc, hn, hG, hE, hR, hV⟩ a1 a0 a2 a3
    obtain ⟨k, rfl⟩ : ∃ j, k = j + 1 := ⟨k - 1, by first | decide | omega⟩
    obtain ⟨f1, f2, f3, f4⟩ := ff_spec (w := w) (by first | decide | omega) i
    have hpx : ∀ v, 0 ≤ v → v < w 8 1 → 0 ≤ gM w (-1) 3 v ∧ gM w (-1) 3 v < w 0 0 := fun v a b => by rw [gM3]; exact pxM_b hW
    have hsb := seat_b (g := gM w (-1)) hW (x := x) hcell hpx ⟨f1, f2⟩
    rw [G11_over_93, G12_over_50, if_neg (by first | decide | omega), if_neg (by first | decide | omega), t2, Int.toNat_natCast, g_bwv hc.1 (by first | decide | omega) (by first | decide | omega) (by first | decide | omega) (by first | decide | omega), bs1, hc.1.2.1 8]
    simp only
    have hq1 := Int.ediv_nonneg (a := L - i - w 0 6) (b := w 0 7)
    have hq2 := Int.ediv_le_self (a := L - i - w 0 6) (w 0 7)
    have hbw : 0 ≤ bwv w i L ∧ bwv w i L ≤ 200 := by
      unfold bwv
      split
      · omega
      · have h1 := hq1 (by first | decide | omega) (by first | decide | omega)
        have h2 := hq2 (by first | decide | omega)
        omega
    have hmul : 0 ≤ 100 * w 0 8 * bwv w i L ∧ 100 * w 0 8 * bwv w i L ≤ 900 * 200 := ⟨Int.mul_nonneg (by first | decide | omega) (by first | decide | omega), Int.mul_le_mul (by first | decide | omega) (by first | decide | omega) (by first | decide | omega) (by first | decide | omega)⟩
    -- the reference's number
    obtain ⟨u1, e2, g2⟩ := r_seat hR hW hV.2.2.2.2 (x := i) hx hcell
    have k25 : v 25 x = n 1 x := by have := (hV.1.1 x hx.1 hx.2).1; rwa [show 5 * (0 : Int) + x = x by first | decide | omega] at this
    have r87 : ∀ b : Int, b = bwv w i L → G12_over_87 (fun m x1 x2 x3 => G12_over_50 k m x1 x2 x3) v x L i b = (if 100 * w 0 8 * bwv w i L ≤ seatV w (gM w (-1)) x (n 1 x) (ff w i) then G12_over_50 k u1 x L (i + 1) else some (i, u1)) := by
      intro b hb
      unfold G12_over_87
      rw [gdx_t (by first | decide | omega), k25, e2, bs1, hR.2.1.2.2.2.2.1, hb, gd3_t (by first | decide | omega), gd3_t (by first | decide | omega)]
    have rr : (if 0 ≤ L - i - v 4 2 then if v 4 3 = 0 then none else gd3 (L - i - v 4 2) (gdd (L - i - v 4 2) (v 4 3) (gd3 ((L - i - v 4 2) / v 4 3 + 1) (G12_over_87 (fun m x1 x2 x3 => G12_over_50 k m x1 x2 x3) v x L i ((L - i - v 4 2) / v 4 3 + 1)))) else G12_over_87 (fun m x1 x2 x3 => G12_over_50 k m x1 x2 x3) v x L i 0) = (if 100 * w 0 8 * bwv w i L ≤ seatV w (gM w (-1)) x (n 1 x) (ff w i) then G12_over_50 k u1 x L (i + 1) else some (i, u1)) := by
      rw [hR.2.1.2.2.1, hR.2.1.2.2.2.1]
      by_cases z : 0 ≤ L - i - w 0 6
      · have h1 := hq1 z (by first | decide | omega)
        have h2 := hq2 z
        rw [if_pos z, if_neg (by first | decide | omega), gd3_t (by first | decide | omega), gdd_t (by first | decide | omega), gd3_t (by first | decide | omega)]
        exact r87 _ (by unfold bwv; rw [if_neg (by first | decide | omega), if_pos h7])
      · rw [if_neg z]
        exact r87 _ (by unfold bwv; rw [if_pos (by first | decide | omega)])
    have g0 : ∀ y : Option (Int × Mem), gd3 (L - i - v 4 2) y = y := fun y => gd3_t (by rw [hR.2.1.2.2.1]; first | decide | omega)
    rw [g0]
    simp only [g0] at rr ⊢
    rw [rr, gd3_t (by first | decide | omega)]
    have e8 : m (T + 8) 1 = w 8 1 := hc.1.2.2 8 1 (by first | decide | omega)
    have e11 : m (T + 11) (ff w i) = w 11 (ff w i) := hc.1.2.2 11 _ (by first | decide | omega)
    have e70 : m (69 + 1) x = n 1 x := hn.2.2 1 x (by first | decide | omega)
    by_cases c1 : 100 * w 0 8 * bwv w i L ≤ seatV w (gM w (-1)) x (n 1 x) (ff w i)
    · rw [if_pos c1, if_pos c1, t2, Int.toNat_natCast, e8]
      have hx0 : ∀ m' : Mem, Fr (PN 51) m m' → (∃ T g, m' 0 3 = ((T : Nat) : Int) ∧ CX m' 51 T w g ∧ NX m' 69 n ∧ GB w g ∧ GE w g (gM w (-1)) ∧ RT u1 w ∧ SV w n u1) := fun m' f => ⟨T, g, by rw [f 0 3 (by unfold PN; first | decide | omega)]; exact t2, hc.pn f, hn.pl (Or.inl rfl) (f.mono PN_PL), hG, hE, hR.pn g2, hV.q ⟨by first | decide | omega, by first | decide | omega⟩ (g2.mono PNm_q)⟩
      have hv : ff w i < w 8 1 := by
        rcases Int.lt_or_le (ff w i) (w 8 1) with z | z
        · exact z
        · have := f3 (w 8 1 - 1) (by first | decide | omega) (by first | decide | omega); omega
      have h4 := f4 hv
      rw [if_neg (by first | decide | omega), gdx_t (by first | decide | omega), e11]
      by_cases c2 : w 11 (ff w i) = i
      · rw [if_pos c2, gdx_t (by first | decide | omega), e70]
        have hg := hG.1 x hx.1 hx.2
        obtain ⟨m2, e3, g3⟩ := g_worth hc hW (x := x) (v := ff w i) (c := n 1 x) (by first | decide | omega) ⟨hg.1, hg.2.1⟩ ⟨f1, hv⟩ hcell (hG.2 _ f1 hv)
        have hwb := worth_b hW (bd := g 1 x) (v := ff w i) ⟨f1, hv⟩ hcell (hG.2 _ f1 hv)
        rw [e3, bs1, gd3_t (by first | decide | omega)]
        simp only
        have hff : ff w (i + 1) = ff w i + 1 := ff_eq (by first | decide | omega) (by first | decide | omega) (fun k x y => by
          by_cases z : k = ff w i
          · rw [z, c2]; omega
          · have := f3 k x (by first | decide | omega); first | decide | omega) (fun z => by
          have := wv_lt hW f1 (show ff w i < ff w i + 1 by first | decide | omega) z; first | decide | omega)
        have es : seatV w (gM w (-1)) x (n 1 x) (ff w i) = worthV w (gM w (-1) 1 x) (gM w (-1) 3 (ff w i)) (ff w i) (n 1 x) + seatV w (gM w (-1)) x (n 1 x) (ff w i + 1) := by
          unfold seatV
          rw [show (w 8 1 - ff w i).toNat = (w 8 1 - (ff w i + 1)).toNat + 1 by first | decide | omega, smd_s]
        have ew : worthV w (g 1 x) (g 3 (ff w i)) (ff w i) (n 1 x) = worthV w (gM w (-1) 1 x) (gM w (-1) 3 (ff w i)) (ff w i) (n 1 x) := by rw [(hE.1 x hx.1 hx.2).1, hE.2 _ f1 hv]
        have esub : seatV w (gM w (-1)) x (n 1 x) (ff w i) - worthV w (g 1 x) (g 3 (ff w i)) (ff w i) (n 1 x) = seatV w (gM w (-1)) x (n 1 x) (ff w (i + 1)) := by
          rw [hff, ew]; omega
        rw [gd3_t (by first | decide | omega), gd3_t (by first | decide | omega), esub, ← hff]
        exact ih k (i + 1) m2 u1 (h.q (g3.mono PN_Q) (g2.mono PNm_q)) (hx0 m2 g3) (by first | decide | omega) (by first | decide | omega) (by first | decide | omega) (by first | decide | omega)
      · rw [if_neg c2, gd3_t (by first | decide | omega)]
        have hff : ff w (i + 1) = ff w i := ff_eq (by first | decide | omega) (by first | decide | omega) (fun k x y => by have := f3 k x y; first | decide | omega) (fun z => by first | decide | omega)
        have := ih k (i + 1) m u1 (h.q Fr.rf (g2.mono PNm_q)) (hx0 m Fr.rf) (by first | decide | omega) (by first | decide | omega) (by first | decide | omega) (by first | decide | omega)
        rwa [hff] at this
    · rw [if_neg c1, if_neg c1]
      exact agr h _ rfl rfl Fr.rf (g2.mono PNm_q)
theorem a_over (h : Rel m v) (x : Int) : Agr (G11_over m x) (G12_over v x) := by
  have h1 := h.v0
  unfold G11_over G11_over_0 G12_over G12_over_0
  rw [wt_e]
  generalize up v 0 2 0 = u at h1 ⊢
  obtain ⟨T, w, g, n, t1, t2, hc, hn, hW, hG, hE, hS, hR, hV, hL, -, -, -⟩ := h1.use
  have hw := hW.1
  unfold WS at hw
  have hmn := hS.2.1
  rw [c_isS t2 hc.1, r_isS hR, bs1, bs1]
  by_cases c1 : 0 ≤ x ∧ x < w 1 0
  · simp only [if_pos c1, if_neg i10]
    have e8 : m (T + 8) 1 = w 8 1 := hc.1.2.2 8 1 (by first | decide | omega)
    rw [t2, Int.toNat_natCast, hc.1.2.1 7, e8, hR.2.1.2.2.1, hR.1.2.2.2.2.1]
    by_cases c2 : w 0 7 < 1
    · rw [if_pos c2, if_pos (show w 0 6 = 0 by first | decide | omega)]; exact agr0 h1 _ rfl rfl
    · rw [if_neg c2, if_neg (show ¬ w 0 6 = 0 by first | decide | omega)]
      by_cases c3 : w 8 1 = 0
      · rw [if_neg (show ¬ 1 ≤ w 8 1 by first | decide | omega), if_pos c3]; exact agr0 h1 _ rfl rfl
      · have e11 : m (T + 11) (w 8 1 - 1) = w 11 (w 8 1 - 1) := hc.1.2.2 11 _ (by first | decide | omega)
        have e70 : m (69 + 1) x = n 1 x := hn.2.2 1 x (by first | decide | omega)
        have hcell := (hS.1.2 x c1.1 c1.2).1
        have hlb := (hW.2.2.2.1 (w 8 1 - 1) (by first | decide | omega) (by first | decide | omega)).2.1
        rw [if_pos (show 1 ≤ w 8 1 by first | decide | omega), if_neg c3, gdx_t (by first | decide | omega), gdx_t (by first | decide | omega), c_ftc t2 hc.1 hn hW, bs1, gdx_t (by first | decide | omega)]
        simp only
        rw [e70]
        obtain ⟨m1, e1, f1⟩ := c_seat t2 hc hn hW hG hE c1 hcell
        have e69 : m1 69 0 = n 0 0 := by rw [f1 69 0 (by unfold PN; first | decide | omega)]; exact hn.2.1 0
        rw [e1, bs1, e11, (hR.2.2.2.2.1 (w 8 1 - 1) (by first | decide | omega) (by first | decide | omega)).1, hV.2.1]
        simp only
        rw [e69]
        have h' : Rel m1 u := h1.q (f1.mono PN_Q) Fm.rf
        have hx : ∃ T g, m1 0 3 = ((T : Nat) : Int) ∧ CX m1 51 T w g ∧ NX m1 69 n ∧ GB w g ∧ GE w g (gM w (-1)) ∧ RT u w ∧ SV w n u := ⟨T, g, by rw [f1 0 3 (by unfold PN; first | decide | omega)]; exact t2, hc.pn f1, hn.pl (Or.inl rfl) (f1.mono PN_PL), hG, hE, hR, hV⟩
        exact over_l hW hS c1 rfl (by first | decide | omega) (by first | decide | omega) (w 11 (w 8 1 - 1) + 1 - n 0 0).toNat 1024 (n 0 0) m1 u h' hx hmn.1 (by first | decide | omega) (by first | decide | omega) (by first | decide | omega)
  · simp only [if_neg c1, if_true]; exact agr0 h1 _ rfl rfl
end Q5
/-! Runs: what is tried goes alike on both sides. -/
/-- n' begins as n is, by rule r, from number s, with nothing counted -/
def TR (n n' : Mem) (r s : Int) : Prop := (n' 0 0 = n 0 0 ∧ n' 0 1 = r ∧ n' 0 2 = s ∧ n' 0 3 = 0 ∧ n' 0 4 = 0) ∧ (∀ c i, 1 ≤ c → c ≤ 5 → 0 ≤ i → i < 5 → n' c i = n c i) ∧ ∀ k, 0 ≤ k → k < 28 → n' 6 k = n 6 k
section Q6
variable {m v w g n : Mem} {T : Nat}
theorem c_tall {a b : Nat} (ha : a = 69 ∨ a = 76 ∨ a = 83) (hb : b = 69 ∨ b = 76 ∨ b = 83) (hab : a ≠ b) : ∃ m', G4_takeAll m a b = some m' ∧ Fr (PA a) m m' ∧ (∀ i, 0 ≤ i → i < 5 → m' a i = m b i) ∧ (∀ c i, 1 ≤ c → c ≤ 5 → 0 ≤ i → i < 5 → m' (a + c) i = m (b + c) i) ∧ ∀ i, 0 ≤ i → i < 28 → m' (a + 6) i = m (b + 6) i := by
  unfold G4_takeAll G4_takeAll_0
  simp only [wt_e]
  refine ⟨_, rfl, ?_, ?_, ?_, ?_⟩
  · intro x i hx
    unfold PA at hx
    simp (disch := omega) only [up_a, cpy_a]
  · intro i h0 h5
    have : i = 0 ∨ i = 1 ∨ i = 2 ∨ i = 3 ∨ i = 4 := by omega
    rcases this with rfl | rfl | rfl | rfl | rfl <;> simp (disch := omega) only [up_a, up_e, up_i, cpy_a]
  · intro c i c1 c5 h0 h5
    have : c = 1 ∨ c = 2 ∨ c = 3 ∨ c = 4 ∨ c = 5 := by omega
    have e : (0 : Int) + (i - 0) = i := by omega
    rcases this with rfl | rfl | rfl | rfl | rfl <;> simp (disch := omega) only [up_a, cpy_a, cpy_in, e]
  · intro i h0 h5
    have e : (0 : Int) + (i - 0) = i := by omega
    simp (disch := omega) only [up_a, cpy_a, cpy_in, e]
theorem c_trun (r s : Int) : ∃ m', G4_takeForRun m 76 69 r s = some m' ∧ Fr (PA 76) m m' ∧ TR (sl 6 m 69) (sl 6 m' 76) r s := by
  obtain ⟨m1, e1, f1, k1, k2, k3⟩ := c_tall (m := m) (a := 76) (b := 69) (by first | decide | omega) (by first | decide | omega) (by first | decide | omega)
  unfold G4_takeForRun G4_takeForRun_0
  rw [e1, bs1]
  simp only [wt_e]
  refine ⟨_, rfl, ?_, ⟨⟨?_, ?_, ?_, ?_, ?_⟩, ?_, ?_⟩⟩
  · intro x i hx
    have hx' : x ≠ 76 := by unfold PA at hx; omega
    simp only [up_a hx']
    exact f1 x i hx
  · rw [sl_e (by first | decide | omega), sl_e (by first | decide | omega)]
    simp (disch := omega) only [Nat.add_zero, up_i]
    exact k1 0 (by first | decide | omega) (by first | decide | omega)
  · rw [sl_e (by first | decide | omega)]; simp (disch := omega) only [Nat.add_zero, up_i, up_e]
  · rw [sl_e (by first | decide | omega)]; simp (disch := omega) only [Nat.add_zero, up_i, up_e]
  · rw [sl_e (by first | decide | omega)]; simp (disch := omega) only [Nat.add_zero, up_i, up_e]
  · rw [sl_e (by first | decide | omega)]; simp (disch := omega) only [Nat.add_zero, up_i, up_e]
  · intro c i c1 c5 h0 h5
    rw [sl_e (by first | decide | omega), sl_e (by first | decide | omega)]
    simp (disch := omega) only [up_a]
    exact k2 c i c1 c5 h0 h5
  · intro k h0 h5
    rw [sl_e (by first | decide | omega), sl_e (by first | decide | omega)]
    simp (disch := omega) only [up_a]
    exact k3 k h0 h5
theorem TR_nb {n' : Mem} {r s f : Int} (hW : WW w) (hB : NB w n f) (hf : 0 ≤ f) (h : TR n n' r s) (hr : 0 ≤ r ∧ r ≤ 3) (hs : 0 ≤ s ∧ s < 2147483648) : NB w n' f := by
  have hw := hW.1
  unfold WS at hw
  obtain ⟨⟨a0, a1, a2, a3, a4⟩, b, c⟩ := h
  refine ⟨by rw [a1, a2, a3, a4]; first | decide | omega, fun i p q => ?_⟩
  rw [b 1 i (by first | decide | omega) (by first | decide | omega) p (by first | decide | omega), b 2 i (by first | decide | omega) (by first | decide | omega) p (by first | decide | omega), b 3 i (by first | decide | omega) (by first | decide | omega) p (by first | decide | omega), b 4 i (by first | decide | omega) (by first | decide | omega) p (by first | decide | omega)]
  exact hB.2 i p q
/-- waves v .. of the class, one behind another -/
theorem c_run {s : Nat} (hs : s = 51) (hW : WW w) (hG : GB w g) : ∀ (d k : Nat) (i f : Int) (n m : Mem), 0 ≤ i → w 8 1 - i = d → d < k → 0 ≤ f → f + 2 * d ≤ 900 → m 0 3 = (T : Int) → CX m s T w g → NX m 76 n → NB w n f → ∃ m', G11_runBy_18 k m i = some m' ∧ Fr (PW s 76) m m' ∧ NX m' 76 (rnd w g d i n) := by
  subst hs
  have hw := hW.1
  unfold WS at hw
  intro d
  induction d with
  | zero =>
    intro k i f n m a1 a2 a3 a4 a5 t2 hc hn hB
    obtain ⟨k, rfl⟩ : ∃ j, k = j + 1 := ⟨k - 1, by first | decide | omega⟩
    rw [G11_runBy_18, t2, Int.toNat_natCast, hc.1.2.2 8 1 (by first | decide | omega), if_pos (by first | decide | omega)]
    exact ⟨m, rfl, Fr.rf, hn⟩
  | succ d ih =>
    intro k i f n m a1 a2 a3 a4 a5 t2 hc hn hB
    obtain ⟨k, rfl⟩ : ∃ j, k = j + 1 := ⟨k - 1, by first | decide | omega⟩
    obtain ⟨m1, e1, f1, n1⟩ := g_bring hc hW hG hn hB (by first | decide | omega) (v := i) (by first | decide | omega)
    rw [G11_runBy_18, t2, Int.toNat_natCast, hc.1.2.2 8 1 (by first | decide | omega), if_neg (by first | decide | omega), e1, bs1, gd3_t (by first | decide | omega)]
    obtain ⟨m', e2, f2, n2⟩ := ih k (i + 1) (f + 2) (bw w g n i (w 11 i)) m1 (by first | decide | omega) (by first | decide | omega) (by first | decide | omega) (by first | decide | omega) (by first | decide | omega) (by rw [f1 0 3 (by unfold PW PL PA; first | decide | omega)]; exact t2) (hc.pw (by first | decide | omega) f1) n1 (bw_nb hW hB a4 (by first | decide | omega))
    exact ⟨m', e2, f1.tr f2, by rw [rnd_s]; exact n2⟩
theorem PW_Q {s : Nat} (hs : s = 51 ∨ s = 60) : ∀ b, PW s 76 b → PQ' b := by intro b h; unfold PW PL PA at h; unfold PQ' PQ; omega
theorem PA_Q : ∀ b, PA 76 b → PQ' b := by intro b h; unfold PA at h; unfold PQ' PQ; omega
theorem c_runBy (t2 : m 0 3 = (T : Int)) (hc : CX m 51 T w g) (hn : NX m 69 n) (hW : WW w) (hG : GB w g) (hS : SN w n) (hN : n = sl 6 m 69) {r s : Int} (hr : 0 ≤ r ∧ r ≤ 3) (hs : 0 ≤ s ∧ s < 2147483648) : ∃ m' n', G11_runBy m r s = some m' ∧ Fr PQ' m m' ∧ TR n n' r s ∧ NX m' 76 (rnd w g (w 8 1 - ff w (n 0 0)).toNat (ff w (n 0 0)) n') := by
  have hw := hW.1
  unfold WS at hw
  obtain ⟨v1, v2, _, _⟩ := ff_spec (w := w) (by first | decide | omega) (n 0 0)
  obtain ⟨m1, e1, f1, t⟩ := c_trun (m := m) r s
  rw [← hN] at t
  have hc1 : CX m1 51 T w g := hc.fr f1 (by intro b q; unfold PA; have := hc.1.1; first | decide | omega)
  have hn1 : NX m1 69 n := hn.fr f1 (by intro b x y; unfold PA; first | decide | omega)
  have t3 : m1 0 3 = (T : Int) := by rw [f1 0 3 (by unfold PA; first | decide | omega)]; exact t2
  have hB' := TR_nb hW hS.1 (by first | decide | omega) t hr hs
  unfold G11_runBy G11_runBy_0
  rw [e1, bs1, c_ftc t3 hc1.1 hn1 hW, bs1]
  obtain ⟨m2, e2, f2, n2⟩ := c_run (s := 51) rfl hW hG (w 8 1 - ff w (n 0 0)).toNat 1024 (ff w (n 0 0)) (2 * ff w (n 0 0)) (sl 6 m1 76) m1 v1 (by first | decide | omega) (by first | decide | omega) (by first | decide | omega) (by first | decide | omega) t3 hc1 (NX_sl (by first | decide | omega)) hB'
  exact ⟨m2, sl 6 m1 76, e2, (f1.mono PA_Q).tr (f2.mono (PW_Q (by first | decide | omega))), t, n2⟩
/-- the reference's bank 1, and nothing else -/
def PB1 : Nat → Int → Prop := fun b i => ((25 ≤ b ∧ b ≤ 28) ∧ 5 ≤ i) ∨ (b = 30 ∧ 28 ≤ i) ∨ ((31 ≤ b ∧ b ≤ 33) ∧ i = 1)
theorem r_lay71 : ∀ (d k : Nat) (i : Int) (v : Mem), 0 ≤ i → 28 - i = d → d < k → (∀ j, 0 ≤ j → j < i → v 30 (28 + j) = v 30 j) → ∃ v', G12_layTried_71 k v i = some v' ∧ Fm (fun b j => (b = 30 ∧ 28 ≤ j) ∨ ((31 ≤ b ∧ b ≤ 33) ∧ j = 1)) v v' ∧ (∀ j, 0 ≤ j → j < 28 → v' 30 (28 + j) = v 30 j) ∧ v' 31 1 = v 31 0 ∧ v' 32 1 = 0 ∧ v' 33 1 = 0 := by
  intro d
  induction d with
  | zero =>
    intro k i v a1 a2 a3 h
    obtain ⟨k, rfl⟩ : ∃ j, k = j + 1 := ⟨k - 1, by first | decide | omega⟩
    rw [G12_layTried_71, if_pos (by first | decide | omega)]
    simp only [wt_e]
    refine ⟨_, rfl, ?_, ?_, ?_, ?_, ?_⟩
    · exact ((Fm.w1 (by first | decide | omega)).w (by first | decide | omega)).w (by first | decide | omega)
    · intro j p q
      simp (disch := omega) only [up_a]
      exact h j p (by first | decide | omega)
    · simp (disch := omega) only [up_a, up_e]
    · simp (disch := omega) only [up_a, up_e]
    · simp (disch := omega) only [up_a, up_e]
  | succ d ih =>
    intro k i v a1 a2 a3 h
    obtain ⟨k, rfl⟩ : ∃ j, k = j + 1 := ⟨k - 1, by first | decide | omega⟩
    rw [G12_layTried_71, if_neg (by first | decide | omega), gdx_t (by first | decide | omega), gdx_t (by first | decide | omega), wt_e, gd3_t (by first | decide | omega)]
    obtain ⟨v', e1, f1, k1, k2, k3, k4⟩ := ih k (i + 1) (up v 30 (28 + i) (v 30 i)) (by first | decide | omega) (by first | decide | omega) (by first | decide | omega) (fun j p q => by
      rw [up_i (show j ≠ 28 + i by first | decide | omega)]
      by_cases z : j = i
      · subst z; rw [up_e]
      · rw [up_i (by first | decide | omega)]; exact h j p (by first | decide | omega))
    refine ⟨v', e1, (Fm.w1 (by first | decide | omega)).tr f1, fun j p q => ?_, ?_, k3, k4⟩
    · rw [k1 j p q, up_i (by first | decide | omega)]
    · rw [k2, up_a (by first | decide | omega)]
end Q6
