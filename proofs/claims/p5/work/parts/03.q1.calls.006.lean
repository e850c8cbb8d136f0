section Q6
variable {m v w g n : Mem} {T : Nat}
theorem r_lay : ∃ v', G12_layTried v = some v' ∧ Fm PB1 v v' ∧ (∀ s, 0 ≤ s → s < 5 → v' 25 (5 + s) = v 25 s ∧ v' 26 (5 + s) = v 26 s ∧ v' 27 (5 + s) = v 27 s ∧ v' 28 (5 + s) = v 28 s) ∧ (∀ j, 0 ≤ j → j < 28 → v' 30 (28 + j) = v 30 j) ∧ v' 31 1 = v 31 0 ∧ v' 32 1 = 0 ∧ v' 33 1 = 0 := by
  have key : ∀ (d k : Nat) (i : Int) (v : Mem), 0 ≤ i → 5 - i = d → d < k → (∀ s, 0 ≤ s → s < i → v 25 (5 + s) = v 25 s ∧ v 26 (5 + s) = v 26 s ∧ v 27 (5 + s) = v 27 s ∧ v 28 (5 + s) = v 28 s) → ∃ v', G12_layTried_2 k v i = some v' ∧ Fm PB1 v v' ∧ (∀ s, 0 ≤ s → s < 5 → v' 25 (5 + s) = v 25 s ∧ v' 26 (5 + s) = v 26 s ∧ v' 27 (5 + s) = v 27 s ∧ v' 28 (5 + s) = v 28 s) ∧ (∀ j, 0 ≤ j → j < 28 → v' 30 (28 + j) = v 30 j) ∧ v' 31 1 = v 31 0 ∧ v' 32 1 = 0 ∧ v' 33 1 = 0 := by
    intro d
    induction d with
    | zero =>
      intro k i v a1 a2 a3 h
      obtain ⟨k, rfl⟩ : ∃ j, k = j + 1 := ⟨k - 1, by first | decide | omega⟩
      rw [G12_layTried_2, if_pos (by first | decide | omega)]
      obtain ⟨v', e1, f1, k1, k2, k3, k4⟩ := r_lay71 28 1024 0 v (by first | decide | omega) (by first | decide | omega) (by first | decide | omega) (fun j p q => by first | decide | omega)
      refine ⟨v', e1, f1.mono (by intro b j z; unfold PB1; first | decide | omega), fun s p q => ?_, k1, k2, k3, k4⟩
      rw [f1 25 _ (by first | decide | omega), f1 26 _ (by first | decide | omega), f1 27 _ (by first | decide | omega), f1 28 _ (by first | decide | omega)]
      exact h s p (by first | decide | omega)
    | succ d ih =>
      intro k i v a1 a2 a3 h
      obtain ⟨k, rfl⟩ : ∃ j, k = j + 1 := ⟨k - 1, by first | decide | omega⟩
      rw [G12_layTried_2, if_neg (by first | decide | omega)]
      simp only [wt_e, gdx_t (show 0 ≤ i ∧ i < 10 by first | decide | omega), gdx_t (show 0 ≤ 5 + i ∧ 5 + i < 10 by first | decide | omega), gd3_t (show -2147483648 ≤ i + 1 ∧ i + 1 ≤ 2147483647 by first | decide | omega)]
      simp (disch := omega) only [up_a]
      obtain ⟨v', e1, f1, k0, k1, k2, k3, k4⟩ := ih k (i + 1) (up (up (up (up v 25 (5 + i) (v 25 i)) 26 (5 + i) (v 26 i)) 27 (5 + i) (v 27 i)) 28 (5 + i) (v 28 i)) (by first | decide | omega) (by first | decide | omega) (by first | decide | omega) (fun s p q => by
        by_cases z : s = i
        · subst z
          simp (disch := omega) only [up_a, up_e, up_i]
          exact ⟨trivial, trivial, trivial, trivial⟩
        · simp (disch := omega) only [up_a, up_i]
          exact h s p (by first | decide | omega))
      refine ⟨v', e1, ((((Fm.w1 (by unfold PB1; first | decide | omega)).w (by unfold PB1; first | decide | omega)).w (by unfold PB1; first | decide | omega)).w (by unfold PB1; first | decide | omega)).tr f1, fun s p q => ?_, fun j p q => ?_, ?_, k3, k4⟩
      · have := k0 s p q
        simp (disch := omega) only [up_a, up_i] at this
        exact this
      · rw [k1 j p q]; simp (disch := omega) only [up_a]
      · rw [k2]; simp (disch := omega) only [up_a]
  unfold G12_layTried G12_layTried_0
  exact key 5 1024 0 v (by first | decide | omega) (by first | decide | omega) (by first | decide | omega) (fun s p q => by first | decide | omega)
/-- the present minute in bank 0, without the number -/
def B0 (v w n : Mem) : Prop := (∀ i, 0 ≤ i → i < w 1 0 → v 25 i = n 1 i ∧ v 26 i = n 2 i ∧ v 27 i = n 3 i ∧ v 28 i = n 4 i) ∧ (∀ k, 0 ≤ k → k < w 8 1 → v 30 k = n 6 k) ∧ v 31 0 = n 0 0 ∧ v 0 64 = n 0 1
theorem SV.b0 (h : SV w n v) : B0 v w n := by
  obtain ⟨⟨h1, h2, h3, h4, h5⟩, h6, h7, h8, h9⟩ := h
  refine ⟨fun i p q => ?_, fun k p q => ?_, h6, h7⟩
  · have := h1 i p q
    rw [show 5 * (0 : Int) + i = i by first | decide | omega] at this
    exact ⟨this.1, this.2.1, this.2.2, (h8 i p q).1⟩
  · have := h2 k p q
    rwa [show 28 * (0 : Int) + k = k by first | decide | omega] at this
def PRn : Nat → Int → Prop := fun b i => PMq b i ∨ (b = 0 ∧ i = 65)
theorem B0.fr {v' : Mem} (h : B0 v w n) (hw : w 1 0 ≤ 5 ∧ w 8 1 ≤ 28) (f : Fm PRn v v') : B0 v' w n := by
  obtain ⟨h1, h2, h3, h4⟩ := h
  refine ⟨fun i p q => ?_, fun k p q => ?_, ?_, ?_⟩
  · rw [f 25 _ (by unfold PRn PMq; first | decide | omega), f 26 _ (by unfold PRn PMq; first | decide | omega), f 27 _ (by unfold PRn PMq; first | decide | omega), f 28 _ (by unfold PRn PMq; first | decide | omega)]; exact h1 i p q
  · rw [f 30 _ (by unfold PRn PMq; first | decide | omega)]; exact h2 k p q
  · rw [f 31 _ (by unfold PRn PMq; first | decide | omega)]; exact h3
  · rw [f 0 64 (by unfold PRn PMq; first | decide | omega)]; exact h4
theorem RT.rn {v' : Mem} (h : RT v w) (f : Fm PRn v v') : RT v' w := h.fr f (by intro b i q; unfold PRn PMq; first | decide | omega)
theorem PMn_R : ∀ b i, PMn 1 b i → PRn b i := by intro b i h; unfold PMn PCm PO PNm at h; unfold PRn PMq; omega
theorem PB1_q : ∀ b i, PB1 b i → PMq b i := by intro b i h; unfold PB1 at h; unfold PMq; omega
/-- what layTried leaves, as a minute of bank 1 -/
theorem r_lay1 (hw : w 1 0 ≤ 5 ∧ w 8 1 ≤ 28) (hB : B0 v w n) {n' : Mem} {r s : Int} (t : TR n n' r s) (h65 : v 0 65 = s) : ∃ v', G12_layTried v = some v' ∧ Fm PB1 v v' ∧ NM v' 1 w n' ∧ v' 31 1 = n 0 0 ∧ ∀ i, 0 ≤ i → i < w 1 0 → v' 28 (5 + i) = n 4 i := by
  obtain ⟨v1, e1, f1, k0, k1, k2, k3, k4⟩ := r_lay (v := v)
  obtain ⟨⟨a0, a1, a2, a3, a4⟩, b, c⟩ := t
  refine ⟨v1, e1, f1, ⟨fun i p q => ?_, fun k p q => ?_, ?_, ?_, ?_⟩, ?_, fun i p q => ?_⟩
  · have h1 := k0 i p (by first | decide | omega)
    have h2 := hB.1 i p q
    rw [show 5 * (1 : Int) + i = 5 + i by first | decide | omega, b 1 i (by first | decide | omega) (by first | decide | omega) p (by first | decide | omega), b 2 i (by first | decide | omega) (by first | decide | omega) p (by first | decide | omega), b 3 i (by first | decide | omega) (by first | decide | omega) p (by first | decide | omega), h1.1, h1.2.1, h1.2.2.1]
    exact ⟨h2.1, h2.2.1, h2.2.2.1⟩
  · rw [show 28 * (1 : Int) + k = 28 + k by first | decide | omega, k1 k p (by first | decide | omega), c k p (by first | decide | omega)]; exact hB.2.1 k p q
  · rw [k3, a3]
  · rw [k4, a4]
  · rw [f1 0 65 (by unfold PB1; first | decide | omega), h65, a2]
  · rw [k2]; exact hB.2.2.1
  · rw [(k0 i p (by first | decide | omega)).2.2.2]; exact (hB.1 i p q).2.2.2
theorem r_lg (hW : WW w) (hS : SN w n) (hR : RT v w) (hB : B0 v w n) (h66 : v 0 66 = -1) {n' : Mem} {r s : Int} (t : TR n n' r s) (hr : 0 ≤ r ∧ r ≤ 3) (hs : 0 ≤ s ∧ s < 2147483648) (h65 : v 0 65 = s) : ∃ v1 v', G12_layTried v = some v1 ∧ v1 0 64 = v 0 64 ∧ G12_goesOn v1 r = some v' ∧ Fm PRn v v' ∧ v' 0 66 = -1 ∧ NM v' 1 w (rnd w (gM w (-1)) (w 8 1 - ff w (n 0 0)).toNat (ff w (n 0 0)) n') := by
  have hw := hW.1
  unfold WS at hw
  obtain ⟨f1, f2, _, _⟩ := ff_spec (w := w) (by first | decide | omega) (n 0 0)
  have hmn := hS.2.1
  obtain ⟨v1, e1, g1, n1, k1, k2⟩ := r_lay1 (by first | decide | omega) hB t h65
  have hR1 : RT v1 w := hR.q (g1.mono PB1_q)
  have hNB := TR_nb hW hS.1 (by first | decide | omega) t hr hs
  have tl : TLM v1 1 w n' (-1) 0 (n 0 0) := by
    intro i p q
    right
    refine ⟨by first | decide | omega, ?_⟩
    rw [show 5 * (1 : Int) + i = 5 + i by first | decide | omega, k2 i p q, t.2.1 4 i (by first | decide | omega) (by first | decide | omega) p (by first | decide | omega)]
    have h2 := (hS.2.2.1 i p q).1
    split
    · rename_i c
      rcases h2 with z | z
      · exact z
      · omega
    · rfl
  have hlast : w 8 1 = 0 ∨ w 11 (w 8 1 - 1) + 1 - n 0 0 ≤ ((106 : Nat) : Int) := by
    by_cases z : w 8 1 = 0
    · left; exact z
    · right
      have := (hW.2.2.2.1 (w 8 1 - 1) (by first | decide | omega) (by first | decide | omega)).2.1
      omega
  obtain ⟨v2, e2, g2, n2⟩ := m_goes hW (way := -1) (one := 0) 106 1024 (n 0 0) (2 * ff w (n 0 0)) n' v1 (by first | decide | omega) (by first | decide | omega) hlast (by first | decide | omega) (by first | decide | omega) (by first | decide | omega) hR1 n1 hNB (by rw [g1 0 66 (by unfold PB1; first | decide | omega)]; exact h66) (fun z => by first | decide | omega) k1 tl
  rw [t.1.2.1] at e2
  refine ⟨v1, v2, e1, g1 0 64 (by unfold PB1; first | decide | omega), e2, (g1.mono (fun b i z => Or.inl (PB1_q b i z))).tr (g2.mono PMn_R), ?_, n2⟩
  rw [g2 0 66 (by unfold PMn PCm PO PNm; first | decide | omega), g1 0 66 (by unfold PB1; first | decide | omega)]
  exact h66
theorem r_run (hW : WW w) (hS : SN w n) (hR : RT v w) (hV : SV w n v) {n' : Mem} {r s : Int} (t : TR n n' r s) (hr : 0 ≤ r ∧ r ≤ 3) (hs : 0 ≤ s ∧ s < 2147483648) : ∃ v', G12_run v r s = some v' ∧ Fm PMq v v' ∧ (∀ i, 0 ≤ i → i < w 1 0 → v' 26 (5 + i) = (rnd w (gM w (-1)) (w 8 1 - ff w (n 0 0)).toNat (ff w (n 0 0)) n') 2 i) ∧ v' 32 1 = (rnd w (gM w (-1)) (w 8 1 - ff w (n 0 0)).toNat (ff w (n 0 0)) n') 0 3 ∧ v' 33 1 = (rnd w (gM w (-1)) (w 8 1 - ff w (n 0 0)).toNat (ff w (n 0 0)) n') 0 4 := by
  have hw := hW.1
  unfold WS at hw
  have g0 : Fm PRn v (up v 0 65 s) := Fm.w1 (Or.inr ⟨rfl, rfl⟩)
  obtain ⟨v1, v2, e1, _, e2, g2, _, n2⟩ := r_lg (v := up v 0 65 s) hW hS (hR.rn g0) (hV.b0.fr (by first | decide | omega) g0) (by rw [up_i (by first | decide | omega)]; exact hV.2.2.2.2) t hr hs up_e
  unfold G12_run G12_run_0
  rw [wt_e, e1, bs1, e2, bs1, wt_e]
  refine ⟨_, rfl, ?_, fun i p q => ?_, ?_, ?_⟩
  · intro b i z
    by_cases c : b = 0 ∧ i = 65
    · rw [c.1, c.2, up_e]
    · have : up v2 0 65 (v 0 65) b i = v2 b i := if_neg c
      rw [this, g2 b i (by unfold PRn; exact fun y => y.elim z c)]
      exact if_neg c
  · rw [up_a (by first | decide | omega)]
    have := (n2.1 i p q).2.1
    rwa [show 5 * (1 : Int) + i = 5 + i by first | decide | omega] at this
  · rw [up_a (by first | decide | omega)]; exact n2.2.2.1
  · rw [up_a (by first | decide | omega)]; exact n2.2.2.2.1
/-- a run on both sides -/
theorem run_pair (h1 : Rel m v) (t2 : m 0 3 = (T : Int)) (hc : CX m 51 T w g) (hn : NX m 69 n) (hW : WW w) (hG : GB w g) (hE : GE w g (gM w (-1))) (hS : SN w n) (hR : RT v w) (hV : SV w n v) (hN : n = sl 6 m 69) {r s : Int} (hr : 0 ≤ r ∧ r ≤ 3) (hs : 0 ≤ s ∧ s < 2147483648) : ∃ m' v' N, G11_runBy m r s = some m' ∧ G12_run v r s = some v' ∧ Fr PQ' m m' ∧ Fm PMq v v' ∧ NX m' 76 N ∧ NB w N 112 ∧ (∀ i, 0 ≤ i → i < w 1 0 → v' 26 (5 + i) = N 2 i) ∧ v' 32 1 = N 0 3 ∧ v' 33 1 = N 0 4 := by
  have hw := hW.1
  unfold WS at hw
  obtain ⟨f1, f2, _, _⟩ := ff_spec (w := w) (by first | decide | omega) (n 0 0)
  obtain ⟨m', n', e1, g1, t, n1⟩ := c_runBy t2 hc hn hW hG hS hN hr hs
  obtain ⟨v', e2, g2, k1, k2, k3⟩ := r_run hW hS hR hV t hr hs
  rw [rnd_ge hE (by first | decide | omega) _ _ _ f1 (by first | decide | omega)] at n1
  have hB := (rnd_nb (g := gM w (-1)) hW (w 8 1 - ff w (n 0 0)).toNat (ff w (n 0 0)) (2 * ff w (n 0 0)) n' f1 (by first | decide | omega) (by first | decide | omega) (TR_nb hW hS.1 (by first | decide | omega) t hr hs)).1
  refine ⟨m', v', _, e1, e2, g1, g2, n1, ?_, k1, k2, k3⟩
  obtain ⟨b1, b2⟩ := hB
  refine ⟨by first | decide | omega, fun i p q => ?_⟩
  have := b2 i p q
  omega
end Q6
/-! Tables, the fairest rule, chances, what is tried otherwise. -/
section Q7
variable {m v w g n : Mem} {T : Nat}
theorem a_table (h : Rel m v) (x y z : Int) (hy : y ≤ 2147483647) : Agr (G11_table m x y z) (G12_table v x y z) := by
  have h1 := h.v0
  unfold G11_table G11_table_0 G12_table G12_table_0
  rw [wt_e]
  generalize up v 0 2 0 = u at h1 ⊢
  obtain ⟨T, w, g, n, t1, t2, hc, hn, hW, hG, hE, hS, hR, hV, hL, -, -, hN⟩ := h1.use
  have hw := hW.1
  unfold WS at hw
  rw [c_isR, r_isIn, bs1, bs1]
  by_cases c1 : 0 ≤ x ∧ x ≤ 3
  · simp only [if_pos c1, if_neg i10]
    by_cases c2 : y < 0
    · rw [if_pos c2, if_pos c2]; exact agr0 h1 _ rfl rfl
    · rw [if_neg c2, if_neg c2, r_isIn, bs1]
      have main : ∀ z, (0 ≤ z ∧ z ≤ 7) → (z < 5 → z < w 1 0) → Agr (G11_table_39 m x y z) (G12_table_43 u x y z) := by
        intro z hz hz5
        obtain ⟨m', v', N, e1, e2, g1, g2, n1, hB, k1, k2, k3⟩ := run_pair h1 t2 hc hn hW hG hE hS hR hV hN c1 (s := y) (by first | decide | omega)
        have t3 : m' 0 3 = (T : Int) := by rw [g1 0 3 (by unfold PQ' PQ; first | decide | omega)]; exact t2
        have e10 : m' (T + 1) 0 = w 1 0 := by rw [g1 (T + 1) 0 (by unfold PQ' PQ; first | decide | omega)]; exact hc.1.2.2 1 0 (by first | decide | omega)
        have er : m' (76 + 2) = N 2 := funext fun i => n1.2.2 2 i (by first | decide | omega)
        unfold G11_table_39 G12_table_43
        rw [e1, e2, bs1, bs1]
        have k3' : m' 76 3 = N 0 3 := n1.2.1 3
        have k4' : m' 76 4 = N 0 4 := n1.2.1 4
        by_cases z5 : z = 5
        · rw [if_pos z5, if_pos (by first | decide | omega), if_pos z5, k3', k2]; exact agr h1 _ rfl rfl g1 g2
        · rw [if_neg z5]
          by_cases z6 : z = 6
          · rw [if_pos z6, if_pos (by first | decide | omega), if_neg z5, if_pos z6, k4', k3]; exact agr h1 _ rfl rfl g1 g2
          · rw [if_neg z6]
            by_cases z7 : z = 7
            · rw [if_pos z7, if_pos (by first | decide | omega), if_neg z5, if_neg z6, t3, Int.toNat_natCast, e10]
              rw [c_unl (w := w) (by first | decide | omega) (fun i p q => by rw [er]; have := (hB.2 i p q).2.1; first | decide | omega), r_unl (w := w) (f := N 2) (Or.inr rfl) (by have := (hR.q g2).1.2.2.1; exact this) (by first | decide | omega) (fun i p q => by
                rw [show 5 * (1 : Int) + i = 5 + i by first | decide | omega]
                refine ⟨k1 i p q, ?_⟩
                have := (hB.2 i p q).2.1
                omega), bs1, bs1, er]
              exact agr h1 _ rfl rfl g1 g2
            · rw [if_neg z7, if_neg (by first | decide | omega), gdx_t (by first | decide | omega), gdx_t (by first | decide | omega), er, k1 z hz.1 (hz5 (by first | decide | omega))]
              exact agr h1 _ rfl rfl g1 g2
      by_cases c3 : 0 ≤ z ∧ z ≤ 7
      · simp only [if_pos c3, if_neg i10, if_neg (show ¬ z < 0 by first | decide | omega), if_pos c3.2]
        by_cases c5 : 5 ≤ z
        · rw [if_pos c5, if_pos c5]
          exact main z c3 (by first | decide | omega)
        · rw [if_neg c5, if_neg c5, c_isS t2 hc.1, bs1, hR.1.2.2.1]
          by_cases c6 : z < w 1 0
          · simp only [if_pos c6, if_pos (show 0 ≤ z ∧ z < w 1 0 from ⟨c3.1, c6⟩), if_neg i10]
            exact main z c3 (fun _ => c6)
          · simp only [if_neg c6, if_neg (show ¬ (0 ≤ z ∧ z < w 1 0) from fun q => c6 q.2), if_true]
            exact agr0 h1 _ rfl rfl
      · simp only [if_neg c3, if_true]
        by_cases q : z < 0
        · rw [if_pos q]; exact agr0 h1 _ rfl rfl
        · rw [if_neg q, if_neg (by first | decide | omega)]; exact agr0 h1 _ rfl rfl
  · simp only [if_neg c1, if_true]; exact agr0 h1 _ rfl rfl
theorem uld_b {f : Int → Int} {B : Int} : ∀ (d : Nat) (i p q : Int), (∀ j, i ≤ j → j < i + d → 0 ≤ f j ∧ f j ≤ B) → (0 ≤ p ∧ p ≤ B) → (0 ≤ q ∧ q ≤ B) → -B ≤ uld f d i p q ∧ uld f d i p q ≤ B := by
  intro d
  induction d with
  | zero => intro i p q _ hp hq; show -B ≤ p - q ∧ p - q ≤ B; omega
  | succ d ih =>
    intro i p q h hp hq
    have h1 := h i (by first | decide | omega) (by first | decide | omega)
    show -B ≤ uld f d (i + 1) (if p < f i then f i else p) (if f i < q then f i else q) ∧ uld f d (i + 1) (if p < f i then f i else p) (if f i < q then f i else q) ≤ B
    exact ih (i + 1) _ _ (fun j x y => h j (by first | decide | omega) (by first | decide | omega)) (by split <;> omega) (by split <;> omega)
theorem ulk_b {f : Int → Int} {s B : Int} (hB : 0 ≤ B) (h : ∀ j, 0 ≤ j → j < s → 0 ≤ f j ∧ f j ≤ B) : -B ≤ ulk f s ∧ ulk f s ≤ B := by
  unfold ulk
  split
  · have h0 := h 0 (by first | decide | omega) (by first | decide | omega)
    exact uld_b _ _ _ _ (fun j x y => h j (by first | decide | omega) (by first | decide | omega)) h0 h0
  · omega
theorem fair_l {x : Int} (hx : 0 ≤ x ∧ x ≤ 2147483647) : ∀ (d k : Nat) (i b lu ll l : Int) (m v : Mem), Rel m v → 0 ≤ i → 4 - i = d → d < k → (b = -1 ∨ (0 ≤ b ∧ l = 1000 * lu + ll ∧ 0 ≤ ll ∧ ll < 1000)) → Agr (G11_fairest_16 k m x b lu ll i) (G12_fairest_18 k v x b l i) := by
  intro d
  induction d with
  | zero =>
    intro k i b lu ll l m v h a1 a2 a3 a4
    obtain ⟨k, rfl⟩ : ∃ j, k = j + 1 := ⟨k - 1, by first | decide | omega⟩
    rw [G11_fairest_16, G12_fairest_18, if_pos (by first | decide | omega), if_pos (by first | decide | omega)]
    exact agr0 h _ rfl rfl
  | succ d ih =>
    intro k i b lu ll l m v h a1 a2 a3 a4
    obtain ⟨k, rfl⟩ : ∃ j, k = j + 1 := ⟨k - 1, by first | decide | omega⟩
    obtain ⟨T, w, g, n, t1, t2, hc, hn, hW, hG, hE, hS, hR, hV, hL, -, -, hN⟩ := h.use
    have hw := hW.1
    unfold WS at hw
    obtain ⟨m', v', N, e1, e2, g1, g2, n1, hB, k1, k2, k3⟩ := run_pair h t2 hc hn hW hG hE hS hR hV hN (r := i) (by first | decide | omega) (s := x) (by first | decide | omega)
    have t3 : m' 0 3 = (T : Int) := by rw [g1 0 3 (by unfold PQ' PQ; first | decide | omega)]; exact t2
    have e10 : m' (T + 1) 0 = w 1 0 := by rw [g1 (T + 1) 0 (by unfold PQ' PQ; first | decide | omega)]; exact hc.1.2.2 1 0 (by first | decide | omega)
    have er : m' (76 + 2) = N 2 := funext fun i => n1.2.2 2 i (by first | decide | omega)
    have k3' : m' 76 3 = N 0 3 := n1.2.1 3
    have k4' : m' 76 4 = N 0 4 := n1.2.1 4
    have hub := ulk_b (f := N 2) (s := w 1 0) (B := 56) (by first | decide | omega) (fun j p q => by have := (hB.2 j p q).2.1; first | decide | omega)
    have hN0 := hB.1
    rw [G11_fairest_16, G12_fairest_18, if_neg (by first | decide | omega), if_neg (by first | decide | omega), e1, e2, bs1, bs1, t3, Int.toNat_natCast, e10]
    rw [c_unl (w := w) (by first | decide | omega) (fun i p q => by rw [er]; have := (hB.2 i p q).2.1; first | decide | omega), r_unl (w := w) (f := N 2) (Or.inr rfl) (by have := (hR.q g2).1.2.2.1; exact this) (by first | decide | omega) (fun i p q => by
      rw [show 5 * (1 : Int) + i = 5 + i by first | decide | omega]
      refine ⟨k1 i p q, ?_⟩
      have := (hB.2 i p q).2.1
      omega), bs1, bs1, er]
    simp only
    unfold G11_fairest_89 G12_fairest_69
    rw [k3', k4', k2, k3]
    have h' : Rel m' v' := h.q g1 g2
    generalize ulk (N 2) (w 1 0) = U at *
    have ga : ∀ y : Option (Int × Mem), gd3 (N 0 3 + N 0 4) y = y := fun y => gd3_t (by first | decide | omega)
    have gb : ∀ y : Option (Int × Mem), gd3 (i + 1) y = y := fun y => gd3_t (by first | decide | omega)
    have gc : ∀ y : Option (Int × Mem), gd3 (1000 * U + N 0 3 + N 0 4) y = y := fun y => gd3_t (by first | decide | omega)
    simp only [ga, gb, gc]
    have new := ih k (i + 1) i U (N 0 3 + N 0 4) (1000 * U + N 0 3 + N 0 4) m' v' h' (by first | decide | omega) (by first | decide | omega) (by first | decide | omega) (Or.inr ⟨by first | decide | omega, by first | decide | omega, by first | decide | omega, by first | decide | omega⟩)
    have old := ih k (i + 1) b lu ll l m' v' h' (by first | decide | omega) (by first | decide | omega) (by first | decide | omega) a4
    rcases a4 with hb | ⟨b1, b2, b3, b4⟩
    · rw [if_pos hb, if_pos (by first | decide | omega)]; exact new
    · rw [if_neg (by first | decide | omega), if_neg (show ¬ b < 0 by first | decide | omega)]
      by_cases c1 : U < lu
      · rw [if_pos c1, if_pos (by first | decide | omega)]; exact new
      · rw [if_neg c1]
        by_cases c2 : U = lu
        · rw [if_pos c2]
          by_cases c3 : ll ≤ N 0 3 + N 0 4
          · rw [if_pos c3, if_neg (by first | decide | omega)]; exact old
          · rw [if_neg c3, if_pos (by first | decide | omega)]; exact new
        · rw [if_neg c2, if_neg (by first | decide | omega)]; exact old
theorem a_fairest (h : Rel m v) (x : Int) (hx : x ≤ 2147483647) : Agr (G11_fairest m x) (G12_fairest v x) := by
  have h1 := h.v0
  unfold G11_fairest G11_fairest_0 G12_fairest G12_fairest_0
  rw [wt_e]
  generalize up v 0 2 0 = u at h1 ⊢
  by_cases c : 0 ≤ x
  · rw [if_pos c, if_pos c]
    exact fair_l ⟨c, hx⟩ 4 1024 0 (-1) 0 0 0 m u h1 (by first | decide | omega) (by first | decide | omega) (by first | decide | omega) (Or.inl rfl)
  · rw [if_neg c, if_neg c]; exact agr0 h1 _ rfl rfl
end Q7
