section Q8
variable {m v w g n : Mem} {T : Nat}
theorem tried_m (h1 : Rel m v) {x y z : Int} (hx : 0 ≤ x ∧ x ≤ 4) (hz : 0 ≤ z ∧ z ≤ 2147483647) (hy : ∀ w, RT v w → (if x = 1 ∨ x = 4 then 0 ≤ y ∧ y < w 1 0 else y = 0)) : Agr (G11_tried_54 m x y z) (G12_tried_47 v x y z) := by
  obtain ⟨T, w, g, n, t1, t2, hc, hn, hW, hG, hE, hS, hR, hV, hL, -, -, hN⟩ := h1.use
  have hw := hW.1
  unfold WS at hw
  have hy := hy w hR
  have hy5 : 0 ≤ y ∧ y < 5 := by
    by_cases c : x = 1 ∨ x = 4
    · rw [if_pos c] at hy; omega
    · rw [if_neg c] at hy; omega
  have hyS : x = 4 → 0 ≤ y ∧ y < w 1 0 := fun c => by rw [if_pos (Or.inr c)] at hy; exact hy
  have hmn := hS.2.1
  obtain ⟨f1, f2, _, _⟩ := ff_spec (w := w) (by first | decide | omega) (n 0 0)
  have e69 : m 69 1 = n 0 1 := hn.2.1 1
  have hrule := hS.1.1
  -- the class
  obtain ⟨m1, e1, g1, t⟩ := c_trun (m := m) (n 0 1) z
  rw [← hN] at t
  have hc1 : CX m1 51 T w g := hc.fr g1 (by intro b q; unfold PA; have := hc.1.1; first | decide | omega)
  obtain ⟨m2, e2, g2, c2, ge2⟩ := c_over60 hc1 hW
  have n2 : NX m2 76 (sl 6 m1 76) := (NX_sl (m := m1) (a := 76) (by first | decide | omega)).fr g2 (by intro b a c; first | decide | omega)
  obtain ⟨m3, e3, g3, c3, ge3, tw⟩ := c_chg c2 hW n2 (ge2.trans hE) hx hy5
  have fr3 : Fr PQ' m m3 := ((g1.mono PA_Q).tr (g2.mono (by intro b q; unfold PQ' PQ; first | decide | omega))).tr g3
  have t3 : m3 0 3 = (T : Int) := by rw [fr3 0 3 (by unfold PQ' PQ; first | decide | omega)]; exact t2
  have n3 : NX m3 69 n := hn.fr fr3 (by intro b a c; unfold PQ' PQ; first | decide | omega)
  have hB1 := TR_nb hW hS.1 (by first | decide | omega) t (by first | decide | omega) (show 0 ≤ z ∧ z < 2147483648 by first | decide | omega)
  have hB2 := TW_nb tw hB1 hyS
  obtain ⟨m4, e4, g4⟩ := c_tr96 hW (GB_of hW ge3) (w 8 1 - ff w (n 0 0)).toNat 1024 (ff w (n 0 0)) (2 * ff w (n 0 0)) (sl 6 m3 76) m3 f1 (by first | decide | omega) (by first | decide | omega) (by first | decide | omega) (by first | decide | omega) t3 c3 (NX_sl (by first | decide | omega)) hB2
  rw [rnd_ge ge3 (by first | decide | omega) _ _ _ f1 (by first | decide | omega)] at e4
  -- the reference
  have g0 : Fm PRn v (up v 0 65 z) := Fm.w1 (Or.inr ⟨rfl, rfl⟩)
  obtain ⟨v1, r1, q1, N1, k1, k2⟩ := r_lay1 (v := up v 0 65 z) (by first | decide | omega) (hV.b0.fr (by first | decide | omega) g0) t up_e
  have hRv : RT (up (up v1 0 66 x) 0 67 y) w := by
    have : Fm (fun b i => PRn b i ∨ (b = 0 ∧ i = 66)) v (up (up v1 0 66 x) 0 67 y) := (((g0.mono (fun b i q => Or.inl q)).tr (q1.mono (fun b i q => Or.inl (Or.inl (PB1_q b i q))))).w (Or.inr ⟨rfl, rfl⟩)).w (Or.inl (Or.inl (by unfold PMq; first | decide | omega)))
    exact hR.fr this (by intro b i q; unfold PRn PMq; first | decide | omega)
  have hq25 : x = 4 → up (up v1 0 66 x) 0 67 y 25 y = (sl 6 m1 76) 1 y := fun c => by
    have hys := hyS c
    rw [up_a (by first | decide | omega), up_a (by first | decide | omega), q1 25 y (by unfold PB1; first | decide | omega), up_a (by first | decide | omega), (hV.b0.1 y hys.1 hys.2).1, t.2.1 1 y (by first | decide | omega) (by first | decide | omega) hys.1 (by first | decide | omega)]
  obtain ⟨v2, r2, q2, k3⟩ := r_tr76 (w := w) (x := x) (y := y) (j := v 0 65) (by first | decide | omega) (fun c => by have := hyS c; first | decide | omega) tw (w 1 0).toNat 1024 0 (up (up v1 0 66 x) 0 67 y) (by first | decide | omega) (by first | decide | omega) (by first | decide | omega) hRv.1.2.2.1 hq25 (fun s p q => by
    rw [if_neg (by first | decide | omega), up_a (by first | decide | omega), up_a (by first | decide | omega)]
    have := (N1.1 s p q).1
    rwa [show 5 * (1 : Int) + s = 5 + s by first | decide | omega] at this) (fun _ => rfl)
  have hR2 : RT v2 w := hRv.fr q2 (by intro b i q; first | decide | omega)
  have N2 : NM v2 1 w (sl 6 m3 76) := by
    obtain ⟨a0, a2, a3, a6, a1, a4⟩ := tw
    obtain ⟨b1, b2, b3, b4, b5⟩ := N1
    refine ⟨fun i p q => ?_, fun k p q => ?_, ?_, ?_, ?_⟩
    · have := b1 i p q
      rw [q2 26 _ (by first | decide | omega), q2 27 _ (by first | decide | omega), up_a (by first | decide | omega), up_a (by first | decide | omega), up_a (by first | decide | omega), up_a (by first | decide | omega), a2, a3]
      refine ⟨?_, this.2.1, this.2.2⟩
      rw [show 5 * (1 : Int) + i = 5 + i by first | decide | omega]; exact k3 i p q
    · rw [q2 30 _ (by first | decide | omega), up_a (by first | decide | omega), up_a (by first | decide | omega), a6]; exact b2 k p q
    · rw [q2 32 _ (by first | decide | omega), up_a (by first | decide | omega), up_a (by first | decide | omega), a0]; exact b3
    · rw [q2 33 _ (by first | decide | omega), up_a (by first | decide | omega), up_a (by first | decide | omega), a0]; exact b4
    · rw [q2 0 65 (by first | decide | omega), up_i (by first | decide | omega), up_i (by first | decide | omega), a0]; exact b5
  have v66 : v2 0 66 = x := by rw [q2 0 66 (by first | decide | omega), up_i (by first | decide | omega), up_e]
  have v67 : v2 0 67 = y := by rw [q2 0 67 (by first | decide | omega), up_e]
  have v31 : v2 31 1 = n 0 0 := by rw [q2 31 1 (by first | decide | omega), up_a (by first | decide | omega), up_a (by first | decide | omega)]; exact k1
  have v64 : v2 0 64 = n 0 1 := by rw [q2 0 64 (by first | decide | omega), up_i (by first | decide | omega), up_i (by first | decide | omega), q1 0 64 (by unfold PB1; first | decide | omega), up_i (by first | decide | omega)]; exact hV.2.2.1
  have tl : TLM v2 1 w (sl 6 m3 76) x y (n 0 0) := by
    intro i p q
    have h4 := tw.2.2.2.2.2 i p q
    by_cases c : x = 1 ∧ y = i
    · left
      rw [if_pos c] at h4
      exact ⟨c.1, c.2, by first | decide | omega⟩
    · right
      rw [if_neg c] at h4
      refine ⟨c, ?_⟩
      rw [h4, t.2.1 4 i (by first | decide | omega) (by first | decide | omega) p (by first | decide | omega), q2 28 _ (by first | decide | omega), up_a (by first | decide | omega), up_a (by first | decide | omega), show 5 * (1 : Int) + i = 5 + i by first | decide | omega, k2 i p q]
      have h2 := (hS.2.2.1 i p q).1
      split
      · rename_i c
        rcases h2 with z | z
        · exact z
        · omega
      · rfl
  have hrl : (sl 6 m3 76) 0 1 = n 0 1 := by rw [tw.1]; exact t.1.2.1
  have hlast : w 8 1 = 0 ∨ w 11 (w 8 1 - 1) + 1 - n 0 0 ≤ ((106 : Nat) : Int) := by
    by_cases z : w 8 1 = 0
    · left; exact z
    · right
      have := (hW.2.2.2.1 (w 8 1 - 1) (by first | decide | omega) (by first | decide | omega)).2.1
      omega
  obtain ⟨v3, r3, q3, N3⟩ := m_goes hW (way := x) (one := y) 106 1024 (n 0 0) (2 * ff w (n 0 0)) (sl 6 m3 76) v2 (by first | decide | omega) (by first | decide | omega) hlast (by first | decide | omega) (by first | decide | omega) (by first | decide | omega) hR2 N2 hB2 v66 (fun _ => v67) v31 tl
  rw [hrl] at r3
  have hB3 := (rnd_nb (g := gM w x) hW (w 8 1 - ff w (n 0 0)).toNat (ff w (n 0 0)) (2 * ff w (n 0 0)) (sl 6 m3 76) f1 (by first | decide | omega) (by first | decide | omega) hB2).1
  -- together
  unfold G11_tried_54 G12_tried_47
  rw [e69, e1, bs1, e2, bs1, e3, bs1, c_ftc t3 c3.1 n3 hW, bs1]
  simp only
  rw [e4, wt_e, r1, bs1, wt_e, wt_e, r2]
  unfold G12_tried_111 G12_goesOn
  rw [v64, r3, bs1, wt_e, wt_e]
  have h14 : up (up v3 0 66 (-1)) 0 65 (v 0 65) 0 14 = w 1 0 := by rw [up_i (by first | decide | omega), up_i (by first | decide | omega)]; exact (hR2.pm q3).1.2.2.1
  rw [r_all (w := w) (f := (rnd w (gM w x) (w 8 1 - ff w (n 0 0)).toNat (ff w (n 0 0)) (sl 6 m3 76)) 2) (Or.inr rfl) h14 (by first | decide | omega) (fun i p q => by
    have hb := (hB3.2 i p q).2.1
    exact ⟨by rw [up_a (by first | decide | omega), up_a (by first | decide | omega)]; exact (N3.1 i p q).2.1, by first | decide | omega, by first | decide | omega⟩), bs1]
  refine agr h1 _ rfl rfl (fr3.tr (g4.mono (PW_Q (by first | decide | omega)))) ?_
  intro b i hb
  show up (up v3 0 66 (-1)) 0 65 (v 0 65) b i = v b i
  by_cases c65 : b = 0 ∧ i = 65
  · rw [c65.1, c65.2, up_e]
  · by_cases c66 : b = 0 ∧ i = 66
    · rw [c66.1, c66.2, up_i (by first | decide | omega), up_e]; exact hV.2.2.2.2.symm
    · have u1 : up (up v3 0 66 (-1)) 0 65 (v 0 65) b i = v3 b i := (if_neg c65).trans (if_neg c66)
      have u2 : up v 0 65 z b i = v b i := if_neg c65
      have hp : ¬ PRn b i := fun y => y.elim hb c65
      rw [u1, q3 b i (fun y => hp (PMn_R b i y)), q2 b i (by intro y; exact hb (by unfold PMq; first | decide | omega))]
      have u3 : up (up v1 0 66 x) 0 67 y b i = v1 b i := by
        have h67 : ¬ (b = 0 ∧ i = 67) := fun y => hb (by unfold PMq; first | decide | omega)
        exact (if_neg h67).trans (if_neg c66)
      rw [u3, q1 b i (fun y => hb (PB1_q b i y)), u2]
theorem a_tried (h : Rel m v) (x y z : Int) (hz : z ≤ 2147483647) : Agr (G11_tried m x y z) (G12_tried v x y z) := by
  have h1 := h.v0
  unfold G11_tried G11_tried_0 G12_tried G12_tried_0 G11_tried_25 G11_tried_30 G12_tried_30
  rw [wt_e]
  generalize up v 0 2 0 = u at h1 ⊢
  obtain ⟨T, w, g, n, t1, t2, hc, hn, hW, hG, hE, hS, hR, hV, hL, -, -, hN⟩ := h1.use
  have huni : ∀ w', RT u w' → w' 1 0 = w 1 0 := fun w' hw' => by rw [← hw'.1.2.2.1, ← hR.1.2.2.1]
  rw [r_isIn, bs1]
  by_cases c1 : 0 ≤ x ∧ x ≤ 4
  · simp only [if_pos c1, if_neg i10, if_neg (show ¬ x < 0 by first | decide | omega), if_neg (show ¬ 4 < x by first | decide | omega), if_true]
    by_cases c2 : 0 ≤ z
    · rw [if_pos c2, if_pos c2]
      have surf : (x = 1 ∨ x = 4) → Agr ((G11_isSurfer m y).bind fun o3 => if o3.1 = 0 then some (-1, o3.2) else G11_tried_54 o3.2 x y z) ((G12_isSurfer u y).bind fun o1 => if o1.1 = 0 then some (-1, o1.2) else G12_tried_47 o1.2 x y z) := fun hx => by
        rw [c_isS t2 hc.1, r_isS hR, bs1, bs1]
        by_cases c3 : 0 ≤ y ∧ y < w 1 0
        · simp only [if_pos c3, if_neg i10]
          exact tried_m h1 c1 ⟨c2, hz⟩ (fun w' hw' => by rw [if_pos hx, huni w' hw']; exact c3)
        · simp only [if_neg c3, if_true]; exact agr0 h1 _ rfl rfl
      by_cases x1 : x = 1
      · rw [if_pos x1, if_pos x1]; exact surf (Or.inl x1)
      · rw [if_neg x1, if_neg x1]
        by_cases x4 : x = 4
        · rw [if_pos x4, if_pos x4]; exact surf (Or.inr x4)
        · rw [if_neg x4, if_neg x4]
          by_cases c3 : y = 0
          · rw [if_pos c3, if_pos c3]
            exact tried_m h1 c1 ⟨c2, hz⟩ (fun w' hw' => by rw [if_neg (by first | decide | omega)]; exact c3)
          · rw [if_neg c3, if_neg c3]; exact agr0 h1 _ rfl rfl
    · rw [if_neg c2, if_neg c2]; exact agr0 h1 _ rfl rfl
  · simp only [if_neg c1, if_true]
    by_cases q : x < 0
    · rw [if_pos q]; exact agr0 h1 _ rfl rfl
    · rw [if_neg q, if_pos (by first | decide | omega)]; exact agr0 h1 _ rfl rfl
end Q8
/-! Plans. -/
section Q9
variable {m v w g n : Mem} {T : Nat}
/-- the first wave once one is back from wave k -/
def nxw (w : Mem) (s k : Int) : Int := ff w (w 11 k + awayN w (w 4 s) k)
def wov (w : Mem) (s c k : Int) : Int := worthV w (gM w (-1) 1 s) (gM w (-1) 3 k) k c
/-- the most from each wave on -/
def PMok (w : Mem) (s c : Int) (P : Int → Int) (lo : Int) : Prop := P (w 8 1) = 0 ∧ ∀ k, lo ≤ k → k < w 8 1 → P k = (if wov w s c k + P (nxw w s k) < P (k + 1) then P (k + 1) else wov w s c k + P (nxw w s k)) ∧ 0 ≤ P k ∧ P k ≤ 900 * (w 8 1 - k)
theorem nxw_b (hW : WW w) {s k : Int} (hk : 0 ≤ k ∧ k < w 8 1) : k < nxw w s k ∧ nxw w s k ≤ w 8 1 := by
  have hw := hW.1
  unfold WS at hw
  obtain ⟨a1, a2, a3, a4⟩ := ff_spec (w := w) (by first | decide | omega) (w 11 k + awayN w (w 4 s) k)
  have hb := away_b w (w 4 s) k
  refine ⟨?_, a2⟩
  unfold nxw
  rcases Int.lt_or_le k (ff w (w 11 k + awayN w (w 4 s) k)) with z | z
  · exact z
  · have h4 := a4 (by first | decide | omega)
    by_cases e : ff w (w 11 k + awayN w (w 4 s) k) = k
    · rw [e] at h4; omega
    · have := wv_lt hW a1 (show ff w (w 11 k + awayN w (w 4 s) k) < k by first | decide | omega) hk.2
      omega
theorem wov_b (hW : WW w) {s c k : Int} (hk : 0 ≤ k ∧ k < w 8 1) (hc : 0 ≤ c ∧ c < w 0 0 * w 0 1) : 0 ≤ wov w s c k ∧ wov w s c k ≤ 900 := worth_b hW hk hc (by rw [gM3]; exact pxM_b hW)
/-- the search for the next wave, from place i on -/
theorem r_pl33 (hR : RT v w) (hW : WW w) {s k a : Int} (hk : 0 ≤ k ∧ k < w 8 1) (ha : a = awayN w (w 4 s) k) {kk : Mem → Int → Int → Option Mem} : ∀ (d f : Nat) (i : Int), k < i → i ≤ nxw w s k → nxw w s k - i = d → d < f → G12_layPlan_33 kk f v s k i a = G12_layPlan_65 kk v s k (nxw w s k) := by
  have hw := hW.1
  unfold WS at hw
  obtain ⟨a1, a2, a3, a4⟩ := ff_spec (w := w) (by first | decide | omega) (w 11 k + awayN w (w 4 s) k)
  have hb := away_b w (w 4 s) k
  have hm := (hW.2.2.2.1 k hk.1 hk.2).2.1
  have en : nxw w s k = ff w (w 11 k + awayN w (w 4 s) k) := rfl
  intro d
  induction d with
  | zero =>
    intro f i b1 b2 b3 b4
    obtain ⟨f, rfl⟩ : ∃ j, f = j + 1 := ⟨f - 1, by first | decide | omega⟩
    have ei : i = nxw w s k := by omega
    rw [G12_layPlan_33, hR.1.2.2.2.2.1]
    by_cases c : w 8 1 ≤ i
    · rw [if_pos c, ei]
    · have h4 := a4 (by first | decide | omega)
      rw [← en, ← ei] at h4
      rw [if_neg c, gdx_t (by first | decide | omega), gdx_t (by first | decide | omega), (hR.2.2.2.2.1 k hk.1 hk.2).1, (hR.2.2.2.2.1 i (by first | decide | omega) (by first | decide | omega)).1, gd3_t (by first | decide | omega), if_pos (by first | decide | omega), ei]
  | succ d ih =>
    intro f i b1 b2 b3 b4
    obtain ⟨f, rfl⟩ : ∃ j, f = j + 1 := ⟨f - 1, by first | decide | omega⟩
    have h3 := a3 i (by first | decide | omega) (by first | decide | omega)
    rw [G12_layPlan_33, hR.1.2.2.2.2.1, if_neg (by first | decide | omega), gdx_t (by first | decide | omega), gdx_t (by first | decide | omega), (hR.2.2.2.2.1 k hk.1 hk.2).1, (hR.2.2.2.2.1 i (by first | decide | omega) (by first | decide | omega)).1, gd3_t (by first | decide | omega), if_neg (by first | decide | omega), gd3_t (by first | decide | omega)]
    exact ih f (i + 1) (by first | decide | omega) (by first | decide | omega) (by first | decide | omega) (by first | decide | omega)
def PPm : Nat → Int → Prop := fun b i => PNm b i ∨ b = 37 ∨ b = 38
theorem PPm_q : ∀ b i, PPm b i → PMq b i := by intro b i h; unfold PPm PNm at h; unfold PMq; omega
end Q9
