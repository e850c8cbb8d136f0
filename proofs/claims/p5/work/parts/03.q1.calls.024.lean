section Q18
variable {m v m' v' w : Mem} {T : Nat}
theorem c_put3 {x L : Int} (hL : 0 ≤ L ∧ L + 4 ≤ 700) : ∀ (d k : Nat) (j : Int) (m : Mem), 0 ≤ j → 4 - j = d → d < k → m 0 1 = L + j → ∃ m', G11_putOnTape_3 k m x (24 - 8 * j) = some m' ∧ Fm Pt m m' ∧ m' 0 1 = L + 4 ∧ (∀ i, i < L + j → m' 1 i = m 1 i) ∧ ∀ i, j ≤ i → i < 4 → m' 1 (L + i) = cby x i := by
  intro d
  induction d with
  | zero =>
    intro k j m a1 a2 a3 h
    obtain ⟨k, rfl⟩ : ∃ q, k = q + 1 := ⟨k - 1, by first | decide | omega⟩
    rw [G11_putOnTape_3, if_pos (by first | decide | omega)]
    exact ⟨m, rfl, Fm.rf, by first | decide | omega, fun i q => rfl, fun i p q => by first | decide | omega⟩
  | succ d ih =>
    intro k j m a1 a2 a3 h
    obtain ⟨k, rfl⟩ : ∃ q, k = q + 1 := ⟨k - 1, by first | decide | omega⟩
    have e : ∀ y, up m 1 (L + j) y 0 1 = L + j := fun y => by rw [up_a (by first | decide | omega)]; exact h
    rw [G11_putOnTape_3, if_neg (by first | decide | omega), h, if_neg (by first | decide | omega), gdx_t (by first | decide | omega), wt_e, e, gd3_t (by first | decide | omega), wt_e, gd3_t (by first | decide | omega), show 24 - 8 * j + -8 = 24 - 8 * (j + 1) by first | decide | omega]
    obtain ⟨m', z1, z2, z3, z4, z5⟩ := ih k (j + 1) (up (up m 1 (L + j) (cby x j)) 0 1 (L + j + 1)) (by first | decide | omega) (by first | decide | omega) (by first | decide | omega) (by rw [up_e]; first | decide | omega)
    have f1 : Fm Pt m (up (up m 1 (L + j) (cby x j)) 0 1 (L + j + 1)) := (Fm.w1 (Or.inl rfl)).w (Or.inr ⟨rfl, rfl⟩)
    refine ⟨m', z1, f1.tr z2, z3, fun i q => ?_, fun i p q => ?_⟩
    · rw [z4 i (by first | decide | omega), up_a (by first | decide | omega), up_i (by first | decide | omega)]
    · by_cases c : i = j
      · rw [c, z4 _ (by first | decide | omega), up_a (by first | decide | omega), up_e]
      · exact z5 i (by first | decide | omega) q
theorem c_put (x : Int) (hL : 0 ≤ m 0 1 ∧ m 0 1 + 4 ≤ 700) : ∃ m', G11_putOnTape m x = some m' ∧ Fm Pt m m' ∧ m' 0 1 = m 0 1 + 4 ∧ (∀ i, i < m 0 1 → m' 1 i = m 1 i) ∧ ∀ i, 0 ≤ i → i < 4 → m' 1 (m 0 1 + i) = cby x i := by
  obtain ⟨m', z1, z2, z3, z4, z5⟩ := c_put3 (x := x) (L := m 0 1) hL 4 1024 0 m (by first | decide | omega) (by first | decide | omega) (by first | decide | omega) (by first | decide | omega)
  exact ⟨m', z1, z2, z3, fun i q => z4 i (by first | decide | omega), z5⟩
def xsl (a b c d e : Int) (i : Int) : Int := if 4 ≤ i then (if 8 ≤ i then (if 12 ≤ i then (if 16 ≤ i then e else d) else c) else b) else a
theorem r_fd23 {a b c e f L : Int} (hL : 0 ≤ L ∧ L + 20 ≤ 700) : ∀ (d k : Nat) (i : Int) (v : Mem), 0 ≤ i → 20 - i = d → d < k → v 0 1 = L → ∃ v', G12_feed_23 k v a b c e f i = some (L + 20, v') ∧ Fm Pt v v' ∧ v' 0 1 = L + 20 ∧ (∀ j, j < L + i → v' 1 j = v 1 j) ∧ ∀ j, i ≤ j → j < 20 → v' 1 (L + j) = rby (xsl a b c e f j) (j % 4) := by
  intro d
  induction d with
  | zero =>
    intro k i v a1 a2 a3 h
    obtain ⟨k, rfl⟩ : ∃ q, k = q + 1 := ⟨k - 1, by first | decide | omega⟩
    rw [G12_feed_23, if_pos (by first | decide | omega), h, gd3_t (by first | decide | omega), wt_e, up_e]
    exact ⟨_, rfl, Fm.w1 (Or.inr ⟨rfl, rfl⟩), up_e, fun j q => up_a (by first | decide | omega), fun j p q => by first | decide | omega⟩
  | succ d ih =>
    intro k i v a1 a2 a3 h
    obtain ⟨k, rfl⟩ : ∃ q, k = q + 1 := ⟨k - 1, by first | decide | omega⟩
    have st : ∃ v', G12_feed_76 (fun m x1 x2 x3 x4 x5 x6 => G12_feed_23 k m x1 x2 x3 x4 x5 x6) v a b c e f i (xsl a b c e f i) = some (L + 20, v') ∧ Fm Pt v v' ∧ v' 0 1 = L + 20 ∧ (∀ j, j < L + i → v' 1 j = v 1 j) ∧ ∀ j, i ≤ j → j < 20 → v' 1 (L + j) = rby (xsl a b c e f j) (j % 4) := by
      unfold G12_feed_76
      rw [h, gdx_t (by first | decide | omega), gdd_t (by first | decide | omega), wt_e, gd3_t (by first | decide | omega)]
      obtain ⟨v', z1, z2, z3, z4, z5⟩ := ih k (i + 1) (up v 1 (L + i) (rby (xsl a b c e f i) (i % 4))) (by first | decide | omega) (by first | decide | omega) (by first | decide | omega) (by rw [up_a (by first | decide | omega)]; exact h)
      refine ⟨v', z1, (Fm.w1 (Or.inl rfl)).tr z2, z3, fun j q => ?_, fun j p q => ?_⟩
      · rw [z4 j (by first | decide | omega), up_i (by first | decide | omega)]
      · by_cases c : j = i
        · rw [c, z4 _ (by first | decide | omega), up_e]
        · exact z5 j (by first | decide | omega) q
    rw [G12_feed_23, if_neg (by first | decide | omega)]
    unfold xsl at st
    split at st
    · rename_i q1
      rw [if_pos q1]
      split at st
      · rename_i q2
        rw [if_pos q2]
        split at st
        · rename_i q3
          rw [if_pos q3]
          split at st
          · rename_i q4
            rw [if_pos q4]; exact st
          · rename_i q4
            rw [if_neg q4]; exact st
        · rename_i q3
          rw [if_neg q3]; exact st
      · rename_i q2
        rw [if_neg q2]; exact st
    · rename_i q1
      rw [if_neg q1]; exact st
theorem Rel.tape (h : Rel m v) (f : Fm Pt m m') (g : Fm Pt v v') (hT : RTp m' v') : Rel m' v' := by
  obtain ⟨T, h1, h2, h3, h4, h5, h6, h7, h8, h9⟩ := h.all
  obtain ⟨k1, ew⟩ := h1.f f g (by intro b i q; unfold Pt; first | decide | omega) (by intro b i q; unfold Pt; first | decide | omega)
  have en : sl 6 m' 69 = sl 6 m 69 := sl_c (fun b x y => f.rw1 (fun i => by unfold Pt; first | decide | omega))
  have hw := h1.2.1.1
  unfold WS at hw
  refine Rel.of (T := T) ⟨k1, ?_, ?_, ?_, ?_, ?_, hT, ?_, ?_⟩
  · rw [ew, en]; exact h2
  · rw [ew, en]; exact h3.f g (by first | decide | omega) (by intro b i q; unfold Pt; first | decide | omega)
  · rw [ew]; exact h4.f f g (by intro b i q; unfold Pt; first | decide | omega) (by intro b i q; unfold Pt; first | decide | omega)
  · rw [ew]; exact h5.f f g (by intro b i q; unfold Pt; first | decide | omega) (by intro b i q; unfold Pt; first | decide | omega)
  · rw [ew, en]; exact h6.f f g (by intro b i q; unfold Pt; first | decide | omega) (by intro b i q; unfold Pt; first | decide | omega)
  · rw [f 46 8 (by unfold Pt; first | decide | omega), f 46 9 (by unfold Pt; first | decide | omega), g 0 4 (by unfold Pt; first | decide | omega), g 0 5 (by unfold Pt; first | decide | omega)]; exact h8
  · intro i p q; rw [f 102 i (by unfold Pt; first | decide | omega)]; exact h9 i p q
theorem a_feed (h : Rel m v) (a b c d e : Int) : Agr (G11_feed m a b c d e) (G12_feed v a b c d e) := by
  have h1 := h.v0
  unfold G11_feed G11_feed_0 G12_feed G12_feed_0
  rw [wt_e]
  generalize up v 0 2 0 = u at h1 ⊢
  obtain ⟨T, _, _, _, _, _, _, hP, _⟩ := h1.all
  obtain ⟨p1, p2, p3, p4, p5⟩ := hP
  rw [← p1, gd3_t (by first | decide | omega), gd3_t (by first | decide | omega)]
  by_cases q : m 0 1 + 20 ≤ 700
  · rw [if_pos q, if_pos q]
    obtain ⟨m1, e1, f1, l1, s1, t1⟩ := c_put (m := m) a (by first | decide | omega)
    obtain ⟨m2, e2, f2, l2, s2, t2⟩ := c_put (m := m1) b (by first | decide | omega)
    obtain ⟨m3, e3, f3, l3, s3, t3⟩ := c_put (m := m2) c (by first | decide | omega)
    obtain ⟨m4, e4, f4, l4, s4, t4⟩ := c_put (m := m3) d (by first | decide | omega)
    obtain ⟨m5, e5, f5, l5, s5, t5⟩ := c_put (m := m4) e (by first | decide | omega)
    obtain ⟨u1, e6, f6, l6, s6, t6⟩ := r_fd23 (a := a) (b := b) (c := c) (e := d) (f := e) (L := m 0 1) (by first | decide | omega) 20 1024 0 u (by first | decide | omega) (by first | decide | omega) (by first | decide | omega) p1.symm
    rw [e1, bs1, e2, bs1, e3, bs1, e4, bs1, e5, bs1, e6, show m5 0 1 = m 0 1 + 20 by first | decide | omega]
    refine ⟨_, _, _, rfl, rfl, h1.tape ((((f1.tr f2).tr f3).tr f4).tr f5) f6 ⟨by first | decide | omega, by first | decide | omega, fun i a1 a2 => ?_, ?_, ?_⟩⟩
    · by_cases c1 : i < m 0 1
      · rw [s5 i (by first | decide | omega), s4 i (by first | decide | omega), s3 i (by first | decide | omega), s2 i (by first | decide | omega), s1 i c1, s6 i (by first | decide | omega)]; exact p3 i a1 c1
      · obtain ⟨j, hj⟩ : ∃ j, i = m 0 1 + j := ⟨i - m 0 1, by first | decide | omega⟩
        subst hj
        rw [t6 j (by first | decide | omega) (by first | decide | omega)]
        have key : m5 1 (m 0 1 + j) = cby (xsl a b c d e j) (j % 4) := by
          unfold xsl
          by_cases k1 : 4 ≤ j
          · rw [if_pos k1]
            by_cases k2 : 8 ≤ j
            · rw [if_pos k2]
              by_cases k3 : 12 ≤ j
              · rw [if_pos k3]
                by_cases k4 : 16 ≤ j
                · have := t5 (j - 16) (by first | decide | omega) (by first | decide | omega)
                  rw [if_pos k4, show m 0 1 + j = m4 0 1 + (j - 16) by first | decide | omega, this, show j % 4 = j - 16 by first | decide | omega]
                · have := t4 (j - 12) (by first | decide | omega) (by first | decide | omega)
                  rw [if_neg k4, s5 _ (by first | decide | omega), show m 0 1 + j = m3 0 1 + (j - 12) by first | decide | omega, this, show j % 4 = j - 12 by first | decide | omega]
              · have := t3 (j - 8) (by first | decide | omega) (by first | decide | omega)
                rw [if_neg k3, s5 _ (by first | decide | omega), s4 _ (by first | decide | omega), show m 0 1 + j = m2 0 1 + (j - 8) by first | decide | omega, this, show j % 4 = j - 8 by first | decide | omega]
            · have := t2 (j - 4) (by first | decide | omega) (by first | decide | omega)
              rw [if_neg k2, s5 _ (by first | decide | omega), s4 _ (by first | decide | omega), s3 _ (by first | decide | omega), show m 0 1 + j = m1 0 1 + (j - 4) by first | decide | omega, this, show j % 4 = j - 4 by first | decide | omega]
          · have := t1 j (by first | decide | omega) (by first | decide | omega)
            rw [if_neg k1, s5 _ (by first | decide | omega), s4 _ (by first | decide | omega), s3 _ (by first | decide | omega), s2 _ (by first | decide | omega), this, show j % 4 = j by first | decide | omega]
        rw [key]
        exact cr_by _ _
    · intro i hi
      have hh : ∀ z z' : Mem, Fm Pt z z' → z' 48 i = z 48 i := fun z z' f => f 48 i (by unfold Pt; first | decide | omega)
      rw [hh _ _ f5, hh _ _ f4, hh _ _ f3, hh _ _ f2, hh _ _ f1]; exact p4 i hi
    · intro i hi
      rw [f6 2 i (by unfold Pt; first | decide | omega)]; exact p5 i hi
  · rw [if_neg q, if_neg q]; exact agr0 h1 _ rfl rfl
end Q18
