/-! Runs: what is tried goes alike on both sides. -/
/-- n' begins as n is, by rule r, from number s, with nothing counted -/
def TR (n n' : Mem) (r s : Int) : Prop := (n' 0 0 = n 0 0 ∧ n' 0 1 = r ∧ n' 0 2 = s ∧ n' 0 3 = 0 ∧ n' 0 4 = 0) ∧ (∀ c i, 1 ≤ c → c ≤ 5 → 0 ≤ i → i < 5 → n' c i = n c i) ∧ ∀ k, 0 ≤ k → k < 28 → n' 6 k = n 6 k
section Q6
variable {m v w g n : Mem} {T : Nat}
theorem c_tall {a b : Nat} (ha : a = 69 ∨ a = 76 ∨ a = 83) (hb : b = 69 ∨ b = 76 ∨ b = 83) (hab : a ≠ b) : ∃ m', G4_takeAll m a b = some m' ∧ Fr (PA a) m m' ∧ (∀ i, 0 ≤ i → i < 5 → m' a i = m b i) ∧ (∀ c i, 1 ≤ c → c ≤ 5 → 0 ≤ i → i < 5 → m' (a + c) i = m (b + c) i) ∧ ∀ i, 0 ≤ i → i < 28 → m' (a + 6) i = m (b + 6) i := by
  unfold G4_takeAll G4_takeAll_0
  simp only [wt_e]
  refine ⟨_, rfl, ?_, ?_, ?_, ?_⟩
  · intro x i hx
    unfold PA at hx
    simp (disch := omega) only [up_a, cpy_a]
  · intro i h0 h5
    have : i = 0 ∨ i = 1 ∨ i = 2 ∨ i = 3 ∨ i = 4 := by omega
    rcases this with rfl | rfl | rfl | rfl | rfl <;> simp (disch := omega) only [up_a, up_e, up_i, cpy_a]
  · intro c i c1 c5 h0 h5
    have : c = 1 ∨ c = 2 ∨ c = 3 ∨ c = 4 ∨ c = 5 := by omega
    have e : (0 : Int) + (i - 0) = i := by omega
    rcases this with rfl | rfl | rfl | rfl | rfl <;> simp (disch := omega) only [up_a, cpy_a, cpy_in, e]
  · intro i h0 h5
    have e : (0 : Int) + (i - 0) = i := by omega
    simp (disch := omega) only [up_a, cpy_a, cpy_in, e]
theorem c_trun (r s : Int) : ∃ m', G4_takeForRun m 76 69 r s = some m' ∧ Fr (PA 76) m m' ∧ TR (sl 6 m 69) (sl 6 m' 76) r s := by
  obtain ⟨m1, e1, f1, k1, k2, k3⟩ := c_tall (m := m) (a := 76) (b := 69) (by omega) (by omega) (by omega)
  unfold G4_takeForRun G4_takeForRun_0
  rw [e1, bs1]
  simp only [wt_e]
  refine ⟨_, rfl, ?_, ⟨⟨?_, ?_, ?_, ?_, ?_⟩, ?_, ?_⟩⟩
  · intro x i hx
    have hx' : x ≠ 76 := by unfold PA at hx; omega
    simp only [up_a hx']
    exact f1 x i hx
  · rw [sl_e (by omega), sl_e (by omega)]
    simp (disch := omega) only [Nat.add_zero, up_i]
    exact k1 0 (by omega) (by omega)
  · rw [sl_e (by omega)]; simp (disch := omega) only [Nat.add_zero, up_i, up_e]
  · rw [sl_e (by omega)]; simp (disch := omega) only [Nat.add_zero, up_i, up_e]
  · rw [sl_e (by omega)]; simp (disch := omega) only [Nat.add_zero, up_i, up_e]
  · rw [sl_e (by omega)]; simp (disch := omega) only [Nat.add_zero, up_i, up_e]
  · intro c i c1 c5 h0 h5
    rw [sl_e (by omega), sl_e (by omega)]
    simp (disch := omega) only [up_a]
    exact k2 c i c1 c5 h0 h5
  · intro k h0 h5
    rw [sl_e (by omega), sl_e (by omega)]
    simp (disch := omega) only [up_a]
    exact k3 k h0 h5
theorem TR_nb {n' : Mem} {r s f : Int} (hW : WW w) (hB : NB w n f) (hf : 0 ≤ f) (h : TR n n' r s) (hr : 0 ≤ r ∧ r ≤ 3) (hs : 0 ≤ s ∧ s < 2147483648) : NB w n' f := by
  have hw := hW.1
  unfold WS at hw
  obtain ⟨⟨a0, a1, a2, a3, a4⟩, b, c⟩ := h
  refine ⟨by rw [a1, a2, a3, a4]; omega, fun i p q => ?_⟩
  rw [b 1 i (by omega) (by omega) p (by omega), b 2 i (by omega) (by omega) p (by omega), b 3 i (by omega) (by omega) p (by omega), b 4 i (by omega) (by omega) p (by omega)]
  exact hB.2 i p q
/-- waves v .. of the class, one behind another -/
theorem c_run {s : Nat} (hs : s = 51) (hW : WW w) (hG : GB w g) : ∀ (d k : Nat) (i f : Int) (n m : Mem), 0 ≤ i → w 8 1 - i = d → d < k → 0 ≤ f → f + 2 * d ≤ 900 → m 0 3 = (T : Int) → CX m s T w g → NX m 76 n → NB w n f → ∃ m', G11_runBy_18 k m i = some m' ∧ Fr (PW s 76) m m' ∧ NX m' 76 (rnd w g d i n) := by
  subst hs
  have hw := hW.1
  unfold WS at hw
  intro d
  induction d with
  | zero =>
    intro k i f n m a1 a2 a3 a4 a5 t2 hc hn hB
    obtain ⟨k, rfl⟩ : ∃ j, k = j + 1 := ⟨k - 1, by omega⟩
    rw [G11_runBy_18, t2, Int.toNat_natCast, hc.1.2.2 8 1 (by omega), if_pos (by omega)]
    exact ⟨m, rfl, Fr.rf, hn⟩
  | succ d ih =>
    intro k i f n m a1 a2 a3 a4 a5 t2 hc hn hB
    obtain ⟨k, rfl⟩ : ∃ j, k = j + 1 := ⟨k - 1, by omega⟩
    obtain ⟨m1, e1, f1, n1⟩ := g_bring hc hW hG hn hB (by omega) (v := i) (by omega)
    rw [G11_runBy_18, t2, Int.toNat_natCast, hc.1.2.2 8 1 (by omega), if_neg (by omega), e1, bs1, gd3_t (by omega)]
    obtain ⟨m', e2, f2, n2⟩ := ih k (i + 1) (f + 2) (bw w g n i (w 11 i)) m1 (by omega) (by omega) (by omega) (by omega) (by omega) (by rw [f1 0 3 (by unfold PW PL PA; omega)]; exact t2) (hc.pw (by omega) f1) n1 (bw_nb hW hB a4 (by omega))
    exact ⟨m', e2, f1.tr f2, by rw [rnd_s]; exact n2⟩
theorem PW_Q {s : Nat} (hs : s = 51 ∨ s = 60) : ∀ b, PW s 76 b → PQ' b := by intro b h; unfold PW PL PA at h; unfold PQ' PQ; omega
theorem PA_Q : ∀ b, PA 76 b → PQ' b := by intro b h; unfold PA at h; unfold PQ' PQ; omega
theorem c_runBy (t2 : m 0 3 = (T : Int)) (hc : CX m 51 T w g) (hn : NX m 69 n) (hW : WW w) (hG : GB w g) (hS : SN w n) (hN : n = sl 6 m 69) {r s : Int} (hr : 0 ≤ r ∧ r ≤ 3) (hs : 0 ≤ s ∧ s < 2147483648) : ∃ m' n', G11_runBy m r s = some m' ∧ Fr PQ' m m' ∧ TR n n' r s ∧ NX m' 76 (rnd w g (w 8 1 - ff w (n 0 0)).toNat (ff w (n 0 0)) n') := by
  have hw := hW.1
  unfold WS at hw
  obtain ⟨v1, v2, _, _⟩ := ff_spec (w := w) (by omega) (n 0 0)
  obtain ⟨m1, e1, f1, t⟩ := c_trun (m := m) r s
  rw [← hN] at t
  have hc1 : CX m1 51 T w g := hc.fr f1 (by intro b q; unfold PA; have := hc.1.1; omega)
  have hn1 : NX m1 69 n := hn.fr f1 (by intro b x y; unfold PA; omega)
  have t3 : m1 0 3 = (T : Int) := by rw [f1 0 3 (by unfold PA; omega)]; exact t2
  have hB' := TR_nb hW hS.1 (by omega) t hr hs
  unfold G11_runBy G11_runBy_0
  rw [e1, bs1, c_ftc t3 hc1.1 hn1 hW, bs1]
  obtain ⟨m2, e2, f2, n2⟩ := c_run (s := 51) rfl hW hG (w 8 1 - ff w (n 0 0)).toNat 1024 (ff w (n 0 0)) (2 * ff w (n 0 0)) (sl 6 m1 76) m1 v1 (by omega) (by omega) (by omega) (by omega) t3 hc1 (NX_sl (by omega)) hB'
  exact ⟨m2, sl 6 m1 76, e2, (f1.mono PA_Q).tr (f2.mono (PW_Q (by omega))), t, n2⟩
/-- the reference's bank 1, and nothing else -/
def PB1 : Nat → Int → Prop := fun b i => ((25 ≤ b ∧ b ≤ 28) ∧ 5 ≤ i) ∨ (b = 30 ∧ 28 ≤ i) ∨ ((31 ≤ b ∧ b ≤ 33) ∧ i = 1)
theorem r_lay71 : ∀ (d k : Nat) (i : Int) (v : Mem), 0 ≤ i → 28 - i = d → d < k → (∀ j, 0 ≤ j → j < i → v 30 (28 + j) = v 30 j) → ∃ v', G12_layTried_71 k v i = some v' ∧ Fm (fun b j => (b = 30 ∧ 28 ≤ j) ∨ ((31 ≤ b ∧ b ≤ 33) ∧ j = 1)) v v' ∧ (∀ j, 0 ≤ j → j < 28 → v' 30 (28 + j) = v 30 j) ∧ v' 31 1 = v 31 0 ∧ v' 32 1 = 0 ∧ v' 33 1 = 0 := by
  intro d
  induction d with
  | zero =>
    intro k i v a1 a2 a3 h
    obtain ⟨k, rfl⟩ : ∃ j, k = j + 1 := ⟨k - 1, by omega⟩
    rw [G12_layTried_71, if_pos (by omega)]
    simp only [wt_e]
    refine ⟨_, rfl, ?_, ?_, ?_, ?_, ?_⟩
    · exact ((Fm.w1 (by omega)).w (by omega)).w (by omega)
    · intro j p q
      simp (disch := omega) only [up_a]
      exact h j p (by omega)
    · simp (disch := omega) only [up_a, up_e]
    · simp (disch := omega) only [up_a, up_e]
    · simp (disch := omega) only [up_a, up_e]
  | succ d ih =>
    intro k i v a1 a2 a3 h
    obtain ⟨k, rfl⟩ : ∃ j, k = j + 1 := ⟨k - 1, by omega⟩
    rw [G12_layTried_71, if_neg (by omega), gdx_t (by omega), gdx_t (by omega), wt_e, gd3_t (by omega)]
    obtain ⟨v', e1, f1, k1, k2, k3, k4⟩ := ih k (i + 1) (up v 30 (28 + i) (v 30 i)) (by omega) (by omega) (by omega) (fun j p q => by
      rw [up_i (show j ≠ 28 + i by omega)]
      by_cases z : j = i
      · subst z; rw [up_e]
      · rw [up_i (by omega)]; exact h j p (by omega))
    refine ⟨v', e1, (Fm.w1 (by omega)).tr f1, fun j p q => ?_, ?_, k3, k4⟩
    · rw [k1 j p q, up_i (by omega)]
    · rw [k2, up_a (by omega)]
theorem r_lay : ∃ v', G12_layTried v = some v' ∧ Fm PB1 v v' ∧ (∀ s, 0 ≤ s → s < 5 → v' 25 (5 + s) = v 25 s ∧ v' 26 (5 + s) = v 26 s ∧ v' 27 (5 + s) = v 27 s ∧ v' 28 (5 + s) = v 28 s) ∧ (∀ j, 0 ≤ j → j < 28 → v' 30 (28 + j) = v 30 j) ∧ v' 31 1 = v 31 0 ∧ v' 32 1 = 0 ∧ v' 33 1 = 0 := by
  have key : ∀ (d k : Nat) (i : Int) (v : Mem), 0 ≤ i → 5 - i = d → d < k → (∀ s, 0 ≤ s → s < i → v 25 (5 + s) = v 25 s ∧ v 26 (5 + s) = v 26 s ∧ v 27 (5 + s) = v 27 s ∧ v 28 (5 + s) = v 28 s) → ∃ v', G12_layTried_2 k v i = some v' ∧ Fm PB1 v v' ∧ (∀ s, 0 ≤ s → s < 5 → v' 25 (5 + s) = v 25 s ∧ v' 26 (5 + s) = v 26 s ∧ v' 27 (5 + s) = v 27 s ∧ v' 28 (5 + s) = v 28 s) ∧ (∀ j, 0 ≤ j → j < 28 → v' 30 (28 + j) = v 30 j) ∧ v' 31 1 = v 31 0 ∧ v' 32 1 = 0 ∧ v' 33 1 = 0 := by
    intro d
    induction d with
    | zero =>
      intro k i v a1 a2 a3 h
      obtain ⟨k, rfl⟩ : ∃ j, k = j + 1 := ⟨k - 1, by omega⟩
      rw [G12_layTried_2, if_pos (by omega)]
      obtain ⟨v', e1, f1, k1, k2, k3, k4⟩ := r_lay71 28 1024 0 v (by omega) (by omega) (by omega) (fun j p q => by omega)
      refine ⟨v', e1, f1.mono (by intro b j z; unfold PB1; omega), fun s p q => ?_, k1, k2, k3, k4⟩
      rw [f1 25 _ (by omega), f1 26 _ (by omega), f1 27 _ (by omega), f1 28 _ (by omega)]
      exact h s p (by omega)
    | succ d ih =>
      intro k i v a1 a2 a3 h
      obtain ⟨k, rfl⟩ : ∃ j, k = j + 1 := ⟨k - 1, by omega⟩
      rw [G12_layTried_2, if_neg (by omega)]
      simp only [wt_e, gdx_t (show 0 ≤ i ∧ i < 10 by omega), gdx_t (show 0 ≤ 5 + i ∧ 5 + i < 10 by omega), gd3_t (show -2147483648 ≤ i + 1 ∧ i + 1 ≤ 2147483647 by omega)]
      simp (disch := omega) only [up_a]
      obtain ⟨v', e1, f1, k0, k1, k2, k3, k4⟩ := ih k (i + 1) (up (up (up (up v 25 (5 + i) (v 25 i)) 26 (5 + i) (v 26 i)) 27 (5 + i) (v 27 i)) 28 (5 + i) (v 28 i)) (by omega) (by omega) (by omega) (fun s p q => by
        by_cases z : s = i
        · subst z
          simp (disch := omega) only [up_a, up_e, up_i]
          exact ⟨trivial, trivial, trivial, trivial⟩
        · simp (disch := omega) only [up_a, up_i]
          exact h s p (by omega))
      refine ⟨v', e1, ((((Fm.w1 (by unfold PB1; omega)).w (by unfold PB1; omega)).w (by unfold PB1; omega)).w (by unfold PB1; omega)).tr f1, fun s p q => ?_, fun j p q => ?_, ?_, k3, k4⟩
      · have := k0 s p q
        simp (disch := omega) only [up_a, up_i] at this
        exact this
      · rw [k1 j p q]; simp (disch := omega) only [up_a]
      · rw [k2]; simp (disch := omega) only [up_a]
  unfold G12_layTried G12_layTried_0
  exact key 5 1024 0 v (by omega) (by omega) (by omega) (fun s p q => by omega)
/-- the present minute in bank 0, without the number -/
def B0 (v w n : Mem) : Prop := (∀ i, 0 ≤ i → i < w 1 0 → v 25 i = n 1 i ∧ v 26 i = n 2 i ∧ v 27 i = n 3 i ∧ v 28 i = n 4 i) ∧ (∀ k, 0 ≤ k → k < w 8 1 → v 30 k = n 6 k) ∧ v 31 0 = n 0 0 ∧ v 0 64 = n 0 1
theorem SV.b0 (h : SV w n v) : B0 v w n := by
  obtain ⟨⟨h1, h2, h3, h4, h5⟩, h6, h7, h8, h9⟩ := h
  refine ⟨fun i p q => ?_, fun k p q => ?_, h6, h7⟩
  · have := h1 i p q
    rw [show 5 * (0 : Int) + i = i by omega] at this
    exact ⟨this.1, this.2.1, this.2.2, (h8 i p q).1⟩
  · have := h2 k p q
    rwa [show 28 * (0 : Int) + k = k by omega] at this
def PRn : Nat → Int → Prop := fun b i => PMq b i ∨ (b = 0 ∧ i = 65)
theorem B0.fr {v' : Mem} (h : B0 v w n) (hw : w 1 0 ≤ 5 ∧ w 8 1 ≤ 28) (f : Fm PRn v v') : B0 v' w n := by
  obtain ⟨h1, h2, h3, h4⟩ := h
  refine ⟨fun i p q => ?_, fun k p q => ?_, ?_, ?_⟩
  · rw [f 25 _ (by unfold PRn PMq; omega), f 26 _ (by unfold PRn PMq; omega), f 27 _ (by unfold PRn PMq; omega), f 28 _ (by unfold PRn PMq; omega)]; exact h1 i p q
  · rw [f 30 _ (by unfold PRn PMq; omega)]; exact h2 k p q
  · rw [f 31 _ (by unfold PRn PMq; omega)]; exact h3
  · rw [f 0 64 (by unfold PRn PMq; omega)]; exact h4
theorem RT.rn {v' : Mem} (h : RT v w) (f : Fm PRn v v') : RT v' w := h.fr f (by intro b i q; unfold PRn PMq; omega)
theorem PMn_R : ∀ b i, PMn 1 b i → PRn b i := by intro b i h; unfold PMn PCm PO PNm at h; unfold PRn PMq; omega
theorem PB1_q : ∀ b i, PB1 b i → PMq b i := by intro b i h; unfold PB1 at h; unfold PMq; omega
/-- what layTried leaves, as a minute of bank 1 -/
theorem r_lay1 (hw : w 1 0 ≤ 5 ∧ w 8 1 ≤ 28) (hB : B0 v w n) {n' : Mem} {r s : Int} (t : TR n n' r s) (h65 : v 0 65 = s) : ∃ v', G12_layTried v = some v' ∧ Fm PB1 v v' ∧ NM v' 1 w n' ∧ v' 31 1 = n 0 0 ∧ ∀ i, 0 ≤ i → i < w 1 0 → v' 28 (5 + i) = n 4 i := by
  obtain ⟨v1, e1, f1, k0, k1, k2, k3, k4⟩ := r_lay (v := v)
  obtain ⟨⟨a0, a1, a2, a3, a4⟩, b, c⟩ := t
  refine ⟨v1, e1, f1, ⟨fun i p q => ?_, fun k p q => ?_, ?_, ?_, ?_⟩, ?_, fun i p q => ?_⟩
  · have h1 := k0 i p (by omega)
    have h2 := hB.1 i p q
    rw [show 5 * (1 : Int) + i = 5 + i by omega, b 1 i (by omega) (by omega) p (by omega), b 2 i (by omega) (by omega) p (by omega), b 3 i (by omega) (by omega) p (by omega), h1.1, h1.2.1, h1.2.2.1]
    exact ⟨h2.1, h2.2.1, h2.2.2.1⟩
  · rw [show 28 * (1 : Int) + k = 28 + k by omega, k1 k p (by omega), c k p (by omega)]; exact hB.2.1 k p q
  · rw [k3, a3]
  · rw [k4, a4]
  · rw [f1 0 65 (by unfold PB1; omega), h65, a2]
  · rw [k2]; exact hB.2.2.1
  · rw [(k0 i p (by omega)).2.2.2]; exact (hB.1 i p q).2.2.2
theorem r_lg (hW : WW w) (hS : SN w n) (hR : RT v w) (hB : B0 v w n) (h66 : v 0 66 = -1) {n' : Mem} {r s : Int} (t : TR n n' r s) (hr : 0 ≤ r ∧ r ≤ 3) (hs : 0 ≤ s ∧ s < 2147483648) (h65 : v 0 65 = s) : ∃ v1 v', G12_layTried v = some v1 ∧ v1 0 64 = v 0 64 ∧ G12_goesOn v1 r = some v' ∧ Fm PRn v v' ∧ v' 0 66 = -1 ∧ NM v' 1 w (rnd w (gM w (-1)) (w 8 1 - ff w (n 0 0)).toNat (ff w (n 0 0)) n') := by
  have hw := hW.1
  unfold WS at hw
  obtain ⟨f1, f2, _, _⟩ := ff_spec (w := w) (by omega) (n 0 0)
  have hmn := hS.2.1
  obtain ⟨v1, e1, g1, n1, k1, k2⟩ := r_lay1 (by omega) hB t h65
  have hR1 : RT v1 w := hR.q (g1.mono PB1_q)
  have hNB := TR_nb hW hS.1 (by omega) t hr hs
  have tl : TLM v1 1 w n' (-1) 0 (n 0 0) := by
    intro i p q
    right
    refine ⟨by omega, ?_⟩
    rw [show 5 * (1 : Int) + i = 5 + i by omega, k2 i p q, t.2.1 4 i (by omega) (by omega) p (by omega)]
    have h2 := (hS.2.2.1 i p q).1
    split
    · rename_i c
      rcases h2 with z | z
      · exact z
      · omega
    · rfl
  have hlast : w 8 1 = 0 ∨ w 11 (w 8 1 - 1) + 1 - n 0 0 ≤ ((106 : Nat) : Int) := by
    by_cases z : w 8 1 = 0
    · left; exact z
    · right
      have := (hW.2.2.2.1 (w 8 1 - 1) (by omega) (by omega)).2.1
      omega
  obtain ⟨v2, e2, g2, n2⟩ := m_goes hW (way := -1) (one := 0) 106 1024 (n 0 0) (2 * ff w (n 0 0)) n' v1 (by omega) (by omega) hlast (by omega) (by omega) (by omega) hR1 n1 hNB (by rw [g1 0 66 (by unfold PB1; omega)]; exact h66) (fun z => by omega) k1 tl
  rw [t.1.2.1] at e2
  refine ⟨v1, v2, e1, g1 0 64 (by unfold PB1; omega), e2, (g1.mono (fun b i z => Or.inl (PB1_q b i z))).tr (g2.mono PMn_R), ?_, n2⟩
  rw [g2 0 66 (by unfold PMn PCm PO PNm; omega), g1 0 66 (by unfold PB1; omega)]
  exact h66
theorem r_run (hW : WW w) (hS : SN w n) (hR : RT v w) (hV : SV w n v) {n' : Mem} {r s : Int} (t : TR n n' r s) (hr : 0 ≤ r ∧ r ≤ 3) (hs : 0 ≤ s ∧ s < 2147483648) : ∃ v', G12_run v r s = some v' ∧ Fm PMq v v' ∧ (∀ i, 0 ≤ i → i < w 1 0 → v' 26 (5 + i) = (rnd w (gM w (-1)) (w 8 1 - ff w (n 0 0)).toNat (ff w (n 0 0)) n') 2 i) ∧ v' 32 1 = (rnd w (gM w (-1)) (w 8 1 - ff w (n 0 0)).toNat (ff w (n 0 0)) n') 0 3 ∧ v' 33 1 = (rnd w (gM w (-1)) (w 8 1 - ff w (n 0 0)).toNat (ff w (n 0 0)) n') 0 4 := by
  have hw := hW.1
  unfold WS at hw
  have g0 : Fm PRn v (up v 0 65 s) := Fm.w1 (Or.inr ⟨rfl, rfl⟩)
  obtain ⟨v1, v2, e1, _, e2, g2, _, n2⟩ := r_lg (v := up v 0 65 s) hW hS (hR.rn g0) (hV.b0.fr (by omega) g0) (by rw [up_i (by omega)]; exact hV.2.2.2.2) t hr hs up_e
  unfold G12_run G12_run_0
  rw [wt_e, e1, bs1, e2, bs1, wt_e]
  refine ⟨_, rfl, ?_, fun i p q => ?_, ?_, ?_⟩
  · intro b i z
    by_cases c : b = 0 ∧ i = 65
    · rw [c.1, c.2, up_e]
    · have : up v2 0 65 (v 0 65) b i = v2 b i := if_neg c
      rw [this, g2 b i (by unfold PRn; exact fun y => y.elim z c)]
      exact if_neg c
  · rw [up_a (by omega)]
    have := (n2.1 i p q).2.1
    rwa [show 5 * (1 : Int) + i = 5 + i by omega] at this
  · rw [up_a (by omega)]; exact n2.2.2.1
  · rw [up_a (by omega)]; exact n2.2.2.2.1
/-- a run on both sides -/
theorem run_pair (h1 : Rel m v) (t2 : m 0 3 = (T : Int)) (hc : CX m 51 T w g) (hn : NX m 69 n) (hW : WW w) (hG : GB w g) (hE : GE w g (gM w (-1))) (hS : SN w n) (hR : RT v w) (hV : SV w n v) (hN : n = sl 6 m 69) {r s : Int} (hr : 0 ≤ r ∧ r ≤ 3) (hs : 0 ≤ s ∧ s < 2147483648) : ∃ m' v' N, G11_runBy m r s = some m' ∧ G12_run v r s = some v' ∧ Fr PQ' m m' ∧ Fm PMq v v' ∧ NX m' 76 N ∧ NB w N 112 ∧ (∀ i, 0 ≤ i → i < w 1 0 → v' 26 (5 + i) = N 2 i) ∧ v' 32 1 = N 0 3 ∧ v' 33 1 = N 0 4 := by
  have hw := hW.1
  unfold WS at hw
  obtain ⟨f1, f2, _, _⟩ := ff_spec (w := w) (by omega) (n 0 0)
  obtain ⟨m', n', e1, g1, t, n1⟩ := c_runBy t2 hc hn hW hG hS hN hr hs
  obtain ⟨v', e2, g2, k1, k2, k3⟩ := r_run hW hS hR hV t hr hs
  rw [rnd_ge hE (by omega) _ _ _ f1 (by omega)] at n1
  have hB := (rnd_nb (g := gM w (-1)) hW (w 8 1 - ff w (n 0 0)).toNat (ff w (n 0 0)) (2 * ff w (n 0 0)) n' f1 (by omega) (by omega) (TR_nb hW hS.1 (by omega) t hr hs)).1
  refine ⟨m', v', _, e1, e2, g1, g2, n1, ?_, k1, k2, k3⟩
  obtain ⟨b1, b2⟩ := hB
  refine ⟨by omega, fun i p q => ?_⟩
  have := b2 i p q
  omega
end Q6
