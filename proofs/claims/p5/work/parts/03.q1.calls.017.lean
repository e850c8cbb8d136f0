section Q13
variable {m v m' v' w n : Mem} {T : Nat} {P Q : Nat → Int → Prop}
theorem RIw.f (h : RIw m v w) (f : Fm P m m') (g : Fm Q v v') (hp : ∀ b i, (b = 0 ∧ i = 10) ∨ (83 ≤ b ∧ b ≤ 89) → ¬ P b i) (hq : ∀ b i, (b = 0 ∧ 80 ≤ i ∧ i ≤ 86) ∨ b = 42 → ¬ Q b i) : RIw m' v' w := by
  have ei : sl 6 m' 83 = sl 6 m 83 := sl_c (fun b x y => f.rw1 (fun i => hp b i (by first | decide | omega)))
  unfold RIw SI at *
  rw [ei, f 0 10 (hp _ _ (by first | decide | omega)), g 0 80 (hq _ _ (by first | decide | omega)), g.rw1 (fun i => hq 42 i (by first | decide | omega)), g 0 82 (hq _ _ (by first | decide | omega)), g 0 83 (hq _ _ (by first | decide | omega)), g 0 84 (hq _ _ (by first | decide | omega)), g 0 85 (hq _ _ (by first | decide | omega)), g 0 86 (hq _ _ (by first | decide | omega))]
  exact h
theorem RNo.f (h : RNo m v w) (f : Fm P m m') (g : Fm Q v v') (hp : ∀ b i, (90 ≤ b ∧ b ≤ 94) → ¬ P b i) (hq : ∀ b i, (b = 0 ∧ (i = 74 ∨ i = 75)) ∨ b = 39 → ¬ Q b i) : RNo m' v' w := by
  unfold RNo
  rw [f.rw1 (fun i => hp 90 i (by first | decide | omega)), f.rw1 (fun i => hp 91 i (by first | decide | omega)), f.rw1 (fun i => hp 92 i (by first | decide | omega)), f.rw1 (fun i => hp 93 i (by first | decide | omega)), f.rw1 (fun i => hp 94 i (by first | decide | omega)), g.rw1 (fun i => hq 39 i (by first | decide | omega)), g 0 74 (hq _ _ (by first | decide | omega)), g 0 75 (hq _ _ (by first | decide | omega))]
  exact h
theorem RU.f (h : RU m v w n) (f : Fm P m m') (g : Fm Q v v') (hp : ∀ b i, (96 ≤ b ∧ b ≤ 98) → ¬ P b i) (hq : ∀ b i, (b = 0 ∧ i = 78) ∨ b = 41 → ¬ Q b i) : RU m' v' w n := by
  unfold RU UH
  rw [f.rw1 (fun i => hp 96 i (by first | decide | omega)), f.rw1 (fun i => hp 97 i (by first | decide | omega)), f.rw1 (fun i => hp 98 i (by first | decide | omega)), g.rw1 (fun i => hq 41 i (by first | decide | omega)), g 0 78 (hq _ _ (by first | decide | omega))]
  exact h
theorem RTp.f (h : RTp m v) (f : Fm P m m') (g : Fm Q v v') (hp : ∀ b i, (b = 0 ∧ i = 1) ∨ b = 1 ∨ b = 48 → ¬ P b i) (hq : ∀ b i, (b = 0 ∧ i = 1) ∨ b = 1 ∨ b = 2 → ¬ Q b i) : RTp m' v' := by
  unfold RTp
  rw [f 0 1 (hp _ _ (by first | decide | omega)), f.rw1 (fun i => hp 1 i (by first | decide | omega)), f.rw1 (fun i => hp 48 i (by first | decide | omega)), g 0 1 (hq _ _ (by first | decide | omega)), g.rw1 (fun i => hq 1 i (by first | decide | omega)), g.rw1 (fun i => hq 2 i (by first | decide | omega))]
  exact h
/-- all of it, apart -/
theorem Rel.all (h : Rel m v) : ∃ T, RA m v T ∧ SN (sl 21 m T) (sl 6 m 69) ∧ SV (sl 21 m T) (sl 6 m 69) v ∧ RIw m v (sl 21 m T) ∧ RNo m v (sl 21 m T) ∧ RU m v (sl 21 m T) (sl 6 m 69) ∧ RTp m v ∧ (m 46 8 = v 0 4 ∧ m 46 9 = v 0 5) ∧ W102 m := by
  obtain ⟨T, h1, h2, h3, h4, h5, h6, h7⟩ := h
  exact ⟨T, h1.ra, h1.2.2.2.1, h1.2.2.2.2.2, h2, h3, h4, h5, h6, h7⟩
theorem Rel.of (h : RA m v T ∧ SN (sl 21 m T) (sl 6 m 69) ∧ SV (sl 21 m T) (sl 6 m 69) v ∧ RIw m v (sl 21 m T) ∧ RNo m v (sl 21 m T) ∧ RU m v (sl 21 m T) (sl 6 m 69) ∧ RTp m v ∧ (m 46 8 = v 0 4 ∧ m 46 9 = v 0 5) ∧ W102 m) : Rel m v := by
  obtain ⟨h1, h2, h3, h4, h5, h6, h7, h8, h9⟩ := h
  exact ⟨T, h1.rs h2 h3, h4, h5, h6, h7, h8, h9⟩
/-- what notes change -/
def Pn : Nat → Int → Prop := fun b _ => 90 ≤ b ∧ b ≤ 94
def Qn : Nat → Int → Prop := fun b i => (b = 0 ∧ (i = 2 ∨ i = 74 ∨ i = 75)) ∨ b = 39
theorem Rel.note (h : Rel m v) (f : Fm Pn m m') (g : Fm Qn v v') (hN : ∀ T, RA m v T → RNo m v (sl 21 m T) → RNo m' v' (sl 21 m T)) : Rel m' v' := by
  obtain ⟨T, h1, h2, h3, h4, h5, h6, h7, h8, h9⟩ := h.all
  obtain ⟨k1, ew⟩ := h1.f f g (by intro b i q; unfold Pn; first | decide | omega) (by intro b i q; unfold Qn; first | decide | omega)
  have en : sl 6 m' 69 = sl 6 m 69 := sl_c (fun b x y => f.rw1 (fun i => by unfold Pn; first | decide | omega))
  have hw := h1.2.1.1
  unfold WS at hw
  refine Rel.of (T := T) ⟨k1, ?_, ?_, ?_, ?_, ?_, ?_, ?_, ?_⟩
  · rw [ew, en]; exact h2
  · rw [ew, en]; exact h3.f g (by first | decide | omega) (by intro b i q; unfold Qn; first | decide | omega)
  · rw [ew]; exact h4.f f g (by intro b i q; unfold Pn; first | decide | omega) (by intro b i q; unfold Qn; first | decide | omega)
  · rw [ew]; exact hN T h1 h5
  · rw [ew, en]; exact h6.f f g (by intro b i q; unfold Pn; first | decide | omega) (by intro b i q; unfold Qn; first | decide | omega)
  · exact h7.f f g (by intro b i q; unfold Pn; first | decide | omega) (by intro b i q; unfold Qn; first | decide | omega)
  · rw [f 46 8 (by unfold Pn; first | decide | omega), f 46 9 (by unfold Pn; first | decide | omega), g 0 4 (by unfold Qn; first | decide | omega), g 0 5 (by unfold Qn; first | decide | omega)]; exact h8
  · intro i p q; rw [f 102 i (by unfold Pn; first | decide | omega)]; exact h9 i p q
theorem a_known (h : Rel m v) (x : Int) : Agr (G11_known m x) (G12_known v x) := by
  have h1 := h.v0
  unfold G11_known G11_known_0 G12_known G12_known_0
  simp only [wt_e]
  generalize up v 0 2 0 = u at h1 ⊢
  obtain ⟨T, _, _, _, _, hN, _⟩ := h1.all
  rw [r_isIn, bs1, ← hN.1]
  by_cases c : -1 ≤ x ∧ x ≤ m 90 0
  · simp only [if_pos c, if_neg i10]
    rw [if_neg (by first | decide | omega), if_pos c.2]
    refine ⟨1, _, _, rfl, rfl, h1.note (Fm.w1 (by unfold Pn; first | decide | omega)) (Fm.w1 (by unfold Qn; first | decide | omega)) (fun T' _ k => ?_)⟩
    obtain ⟨k1, k2, k3, k4, k5⟩ := k
    unfold RNo
    rw [up_i (show (0 : Int) ≠ 1 by first | decide | omega), up_e, up_i (show (74 : Int) ≠ 75 by first | decide | omega), up_e, up_b (show 91 ≠ 90 by first | decide | omega), up_b (show 92 ≠ 90 by first | decide | omega), up_b (show 93 ≠ 90 by first | decide | omega), up_b (show 94 ≠ 90 by first | decide | omega), up_b (show 39 ≠ 0 by first | decide | omega)]
    exact ⟨k1, k2, rfl, c, k5⟩
  · simp only [if_neg c, if_true]
    by_cases c2 : x < -1
    · rw [if_pos c2]; exact agr0 h1 _ rfl rfl
    · rw [if_neg c2, if_neg (by first | decide | omega)]; exact agr0 h1 _ rfl rfl
theorem r_noted {a b c : Int} (h : 0 ≤ v 0 74 ∧ v 0 74 < 24) : ∃ v', G12_noted v a b c = some (v 0 74, v') ∧ Fm Qn v v' ∧ v' 0 74 = v 0 74 + 1 ∧ v' 0 75 = v 0 75 ∧ v' 39 (3 * v 0 74) = a ∧ v' 39 (3 * v 0 74 + 1) = b ∧ v' 39 (3 * v 0 74 + 2) = c ∧ ∀ i, i < 3 * v 0 74 → v' 39 i = v 39 i := by
  unfold G12_noted G12_noted_0
  have e : ∀ (z : Mem) (i y : Int), up z 39 i y 0 74 = z 0 74 := fun z i y => up_a (by first | decide | omega)
  rw [gdx_t (by first | decide | omega), wt_e]
  rw [e, gdx_t (by first | decide | omega), wt_e, e, e, gdx_t (by first | decide | omega), wt_e, e, e, e, gd3_t (by first | decide | omega), wt_e, up_e, gd3_t (by first | decide | omega), show v 0 74 + 1 - 1 = v 0 74 by first | decide | omega]
  have fq : ∀ i, Qn 39 i := fun i => Or.inr rfl
  refine ⟨_, rfl, (((Fm.w1 (fq _)).w (fq _)).w (fq _)).w (Or.inl ⟨rfl, Or.inr (Or.inl rfl)⟩), up_e, ?_, ?_, ?_, ?_, fun i hi => ?_⟩
  · rw [up_i (by first | decide | omega), up_a (by first | decide | omega), up_a (by first | decide | omega), up_a (by first | decide | omega)]
  · rw [up_a (by first | decide | omega), up_i (by first | decide | omega), up_i (by first | decide | omega), up_e]
  · rw [up_a (by first | decide | omega), up_i (by first | decide | omega), up_e]
  · rw [up_a (by first | decide | omega), up_e]
  · rw [up_a (by first | decide | omega), up_i (by first | decide | omega), up_i (by first | decide | omega), up_i (by first | decide | omega)]
theorem c_seatN {a b c : Int} (h : 0 ≤ m 90 0 ∧ m 90 0 ≤ 24) : ∃ m', G3_addSeat m a b c = some ((if m 90 0 < 24 then m 90 0 else -1), m') ∧ Fm Pn m m' ∧ (m 90 0 < 24 → m' 90 0 = m 90 0 + 1 ∧ m' 90 1 = m 90 1 ∧ m' 91 (m 90 0) = a ∧ m' 92 (m 90 0) = b ∧ m' 93 (m 90 0) = c ∧ m' 94 (m 90 0) = -1 ∧ ∀ i, i ≠ m 90 0 → m' 91 i = m 91 i ∧ m' 92 i = m 92 i ∧ m' 93 i = m 93 i ∧ m' 94 i = m 94 i) ∧ (¬ m 90 0 < 24 → m' = m) := by
  unfold G3_addSeat G3_addSeat_0
  by_cases c1 : m 90 0 < 24
  · have e : ∀ (z : Mem) (r : Nat) (i y j : Int), 91 ≤ r → up z r i y 90 j = z 90 j := fun z r i y j hr => up_a (by first | decide | omega)
    have e1 := e m 91 (m 90 0) a 0 (by first | decide | omega)
    have e2 := (e (up m 91 (m 90 0) a) 92 (m 90 0) b 0 (by first | decide | omega)).trans e1
    have e3 := (e (up (up m 91 (m 90 0) a) 92 (m 90 0) b) 93 (m 90 0) c 0 (by first | decide | omega)).trans e2
    have e4 := (e (up (up (up m 91 (m 90 0) a) 92 (m 90 0) b) 93 (m 90 0) c) 94 (m 90 0) (-1) 0 (by first | decide | omega)).trans e3
    rw [if_pos c1, if_pos c1, gdx_t (by first | decide | omega), wt_e, e1, gdx_t (by first | decide | omega), wt_e, e2, gdx_t (by first | decide | omega), wt_e, e3, gdx_t (by first | decide | omega), wt_e, e4, gd3_t (by first | decide | omega), wt_e, up_e, gd3_t (by first | decide | omega), show m 90 0 + 1 - 1 = m 90 0 by first | decide | omega]
    refine ⟨_, rfl, ((((Fm.w1 (by unfold Pn; first | decide | omega)).w (by unfold Pn; first | decide | omega)).w (by unfold Pn; first | decide | omega)).w (by unfold Pn; first | decide | omega)).w (by unfold Pn; first | decide | omega), fun _ => ⟨up_e, ?_, ?_, ?_, ?_, ?_, fun i hi => ⟨?_, ?_, ?_, ?_⟩⟩, fun q => absurd c1 q⟩
    · rw [up_i (by first | decide | omega), up_a (by first | decide | omega), up_a (by first | decide | omega), up_a (by first | decide | omega), up_a (by first | decide | omega)]
    · rw [up_a (by first | decide | omega), up_a (by first | decide | omega), up_a (by first | decide | omega), up_a (by first | decide | omega), up_e]
    · rw [up_a (by first | decide | omega), up_a (by first | decide | omega), up_a (by first | decide | omega), up_e]
    · rw [up_a (by first | decide | omega), up_a (by first | decide | omega), up_e]
    · rw [up_a (by first | decide | omega), up_e]
    · rw [up_a (by first | decide | omega), up_a (by first | decide | omega), up_a (by first | decide | omega), up_a (by first | decide | omega), up_i hi]
    · rw [up_a (by first | decide | omega), up_a (by first | decide | omega), up_a (by first | decide | omega), up_i hi, up_a (by first | decide | omega)]
    · rw [up_a (by first | decide | omega), up_a (by first | decide | omega), up_i hi, up_a (by first | decide | omega), up_a (by first | decide | omega)]
    · rw [up_a (by first | decide | omega), up_i hi, up_a (by first | decide | omega), up_a (by first | decide | omega), up_a (by first | decide | omega)]
  · rw [if_neg c1, if_neg c1]
    exact ⟨m, rfl, Fm.rf, fun q => absurd q c1, fun _ => rfl⟩
theorem c_strikeN {a : Int} (h : 0 ≤ m 90 0 ∧ m 90 0 ≤ 24) : ∃ m', G3_addStrike m a = some ((if m 90 0 < 24 then m 90 0 else -1), m') ∧ Fm Pn m m' ∧ (m 90 0 < 24 → m' 90 0 = m 90 0 + 1 ∧ m' 90 1 = m 90 1 ∧ m' 94 (m 90 0) = a ∧ ∀ i, i ≠ m 90 0 → m' 91 i = m 91 i ∧ m' 92 i = m 92 i ∧ m' 93 i = m 93 i ∧ m' 94 i = m 94 i) ∧ (¬ m 90 0 < 24 → m' = m) := by
  unfold G3_addStrike G3_addStrike_0
  by_cases c1 : m 90 0 < 24
  · have e : ∀ (z : Mem) (r : Nat) (i y j : Int), 91 ≤ r → up z r i y 90 j = z 90 j := fun z r i y j hr => up_a (by first | decide | omega)
    have e1 := e m 92 (m 90 0) (-1) 0 (by first | decide | omega)
    have e2 := (e (up m 92 (m 90 0) (-1)) 94 (m 90 0) a 0 (by first | decide | omega)).trans e1
    rw [if_pos c1, if_pos c1, gdx_t (by first | decide | omega), wt_e, e1, gdx_t (by first | decide | omega), wt_e, e2, gd3_t (by first | decide | omega), wt_e, up_e, gd3_t (by first | decide | omega), show m 90 0 + 1 - 1 = m 90 0 by first | decide | omega]
    refine ⟨_, rfl, ((Fm.w1 (by unfold Pn; first | decide | omega)).w (by unfold Pn; first | decide | omega)).w (by unfold Pn; first | decide | omega), fun _ => ⟨up_e, ?_, ?_, fun i hi => ⟨?_, ?_, ?_, ?_⟩⟩, fun q => absurd c1 q⟩
    · rw [up_i (by first | decide | omega), up_a (by first | decide | omega), up_a (by first | decide | omega)]
    · rw [up_a (by first | decide | omega), up_e]
    · rw [up_a (by first | decide | omega), up_a (by first | decide | omega), up_a (by first | decide | omega)]
    · rw [up_a (by first | decide | omega), up_a (by first | decide | omega), up_i hi]
    · rw [up_a (by first | decide | omega), up_a (by first | decide | omega), up_a (by first | decide | omega)]
    · rw [up_a (by first | decide | omega), up_i hi, up_a (by first | decide | omega)]
  · rw [if_neg c1, if_neg c1]
    exact ⟨m, rfl, Fm.rf, fun q => absurd q c1, fun _ => rfl⟩
theorem a_note (h : Rel m v) (x y z : Int) : Agr (G11_note m x y z) (G12_note v x y z) := by
  have h1 := h.v0
  unfold G11_note G11_note_0 G12_note G12_note_0
  rw [wt_e]
  generalize up v 0 2 0 = u at h1 ⊢
  obtain ⟨T, hA, _, _, _, hN, _⟩ := h1.all
  obtain ⟨n1, n2, n3, n4, n5⟩ := hN
  have t2 := hA.1.2.1
  have hR := hA.2.2.2
  have hW := hA.2.1
  have hX := TX_sl (m := m) hA.1.1
  rw [← n1, r_isIn, bs1]
  by_cases c0 : 0 ≤ x ∧ x ≤ 199
  · simp only [if_pos c0, if_neg i10]
    rw [if_neg (by first | decide | omega), if_neg (by first | decide | omega), c_isS t2 hX, r_isS hR, bs1, bs1]
    by_cases c1 : 0 ≤ y ∧ y < sl 21 m T 1 0
    · simp only [if_pos c1, if_neg i10]
      rw [c_isC t2 hX hW, r_isC hR hW, bs1, bs1]
      by_cases c2 : 0 ≤ z ∧ z < sl 21 m T 0 0 * sl 21 m T 0 1
      · simp only [if_pos c2, if_neg i10]
        obtain ⟨m', e1, f1, k1, k2⟩ := c_seatN (m := m) (a := x) (b := y) (c := z) n2
        rw [e1, bs1]
        by_cases c3 : m 90 0 < 24
        · rw [if_neg (show ¬ m 90 0 = 24 by first | decide | omega)]
          obtain ⟨u', e2, f2, p1, p2, p3, p4, p5, p6⟩ := r_noted (v := u) (a := x) (b := y) (c := z) (by first | decide | omega)
          obtain ⟨q1, q2, q3, q4, q5, q6, q7⟩ := k1 c3
          rw [e2, bs1]
          simp only [if_pos c3]
          rw [← n1]
          rw [← n1] at p1 p3 p4 p5 p6
          refine ⟨_, _, _, rfl, rfl, h1.note f1 f2 (fun T' hA' hN' => ?_)⟩
          have eT : T' = T := by have := hA'.1.2.1; omega
          subst eT
          refine ⟨by first | decide | omega, by first | decide | omega, by first | decide | omega, by first | decide | omega, fun k a1 a2 => ?_⟩
          by_cases ck : k = m 90 0
          · left
            rw [ck, q3, q4, q5, q6, p3, p4, p5]
            exact ⟨rfl, rfl, c0, rfl, c1, rfl, c2⟩
          · obtain ⟨i1, i2, i3, i4⟩ := q7 k ck
            rw [i1, i2, i3, i4, p6 _ (by first | decide | omega), p6 _ (by first | decide | omega), p6 _ (by first | decide | omega)]
            exact n5 k a1 (by first | decide | omega)
        · rw [if_pos (show m 90 0 = 24 by first | decide | omega)]
          simp only [if_neg c3]
          rw [k2 c3]; exact agr0 h1 _ rfl rfl
      · simp only [if_neg c2, if_true]
        split <;> exact agr0 h1 _ rfl rfl
    · simp only [if_neg c1, if_true]
      split <;> exact agr0 h1 _ rfl rfl
  · simp only [if_neg c0, if_true]
    have e : (if x < 0 then some (-1, m) else if 199 < x then some (-1, m) else (G11_isSurfer m y).bind fun o3 => if o3.1 = 0 then some (-1, o3.2) else (G11_isCell o3.2 z).bind fun o6 => if o6.1 = 0 then some (-1, o6.2) else (G3_addSeat o6.2 x y z).bind fun o11 => some (o11.1, o11.2)) = some ((-1 : Int), m) := by
      by_cases c1 : x < 0
      · rw [if_pos c1]
      · rw [if_neg c1, if_pos (by first | decide | omega)]
    rw [e]
    split <;> exact agr0 h1 _ rfl rfl
theorem a_strike (h : Rel m v) (x : Int) : Agr (G11_strike m x) (G12_strike v x) := by
  have h1 := h.v0
  unfold G11_strike G11_strike_0 G12_strike G12_strike_0
  rw [wt_e]
  generalize up v 0 2 0 = u at h1 ⊢
  obtain ⟨T, hA, _, _, _, hN, _⟩ := h1.all
  obtain ⟨n1, n2, n3, n4, n5⟩ := hN
  rw [← n1]
  by_cases c0 : x < 0
  · rw [if_pos c0, if_pos c0]
    split <;> exact agr0 h1 _ rfl rfl
  · rw [if_neg c0, if_neg c0]
    by_cases c1 : x < m 90 0
    · rw [if_pos c1, if_pos c1]
      obtain ⟨m', e1, f1, k1, k2⟩ := c_strikeN (m := m) (a := x) n2
      rw [e1, bs1]
      by_cases c3 : m 90 0 < 24
      · rw [if_neg (show ¬ m 90 0 = 24 by first | decide | omega)]
        obtain ⟨u', e2, f2, p1, p2, p3, p4, p5, p6⟩ := r_noted (v := u) (a := -1) (b := x) (c := 0) (by first | decide | omega)
        obtain ⟨q1, q2, q6, q7⟩ := k1 c3
        rw [e2, bs1]
        simp only [if_pos c3]
        rw [← n1]
        rw [← n1] at p1 p3 p4 p5 p6
        refine ⟨_, _, _, rfl, rfl, h1.note f1 f2 (fun T' hA' hN' => ?_)⟩
        have eT : T' = T := by have := hA'.1.2.1; have := hA.1.2.1; omega
        subst eT
        refine ⟨by first | decide | omega, by first | decide | omega, by first | decide | omega, by first | decide | omega, fun k a1 a2 => ?_⟩
        by_cases ck : k = m 90 0
        · right
          rw [ck, q6, p3, p4]
          exact ⟨by first | decide | omega, by first | decide | omega, rfl, rfl⟩
        · obtain ⟨i1, i2, i3, i4⟩ := q7 k ck
          rw [i1, i2, i3, i4, p6 _ (by first | decide | omega), p6 _ (by first | decide | omega), p6 _ (by first | decide | omega)]
          exact n5 k a1 (by first | decide | omega)
      · rw [if_pos (show m 90 0 = 24 by first | decide | omega)]
        simp only [if_neg c3]
        rw [k2 c3]; exact agr0 h1 _ rfl rfl
    · rw [if_neg c1, if_neg c1]
      split <;> exact agr0 h1 _ rfl rfl
end Q13
/-! go, on both sides, whatever it says; look. -/
def Tot (X Y : Option (Int × Mem)) : Prop := ∃ a b m' v', X = some (a, m') ∧ Y = some (b, v') ∧ Rel m' v'
section Q14
variable {m v w g n : Mem} {T : Nat}
theorem stk_at {f : Int → Int} {l : List Int} {N : Int} (h : stkO f 0 l) (hm : ∀ e ∈ l, 0 ≤ e ∧ e < N) {k : Int} (hk : 0 ≤ k ∧ k < l.length) : 0 ≤ f k ∧ f k < N := by
  have h1 := frt_nth (stk_frt h) hk.1 (by rw [List.length_reverse]; exact hk.2)
  rw [Int.zero_add] at h1
  rw [h1]
  have hl : k.toNat < l.reverse.length := by rw [List.length_reverse]; omega
  rw [List.getD_eq_getElem?_getD, List.getElem?_eq_getElem hl]
  show 0 ≤ l.reverse[k.toNat] ∧ l.reverse[k.toNat] < N
  exact hm _ (List.mem_reverse.mp (List.getElem_mem hl))
theorem mul_b {a b : Int} (ha : 0 ≤ a ∧ a ≤ 100) (hb : 0 ≤ b ∧ b ≤ 100) : 0 ≤ a * (100 - b) ∧ a * (100 - b) ≤ 10000 := by
  refine ⟨Int.mul_nonneg ha.1 (by first | decide | omega), ?_⟩
  have h1 : a * (100 - b) ≤ 100 * (100 - b) := Int.mul_le_mul_of_nonneg_right ha.2 (by first | decide | omega)
  omega
theorem c_cr28 {x L z N : Int} (hN : N ≤ 5) (hL : 0 ≤ L ∧ L ≤ 5) (h1 : ∀ k, 0 ≤ k → k < L → 0 ≤ m (51 + 6) k ∧ m (51 + 6) k < N) (h2 : ∀ e, 0 ≤ e → e < N → 0 ≤ m (51 + 2) e ∧ m (51 + 2) e ≤ 100) : ∀ (d f : Nat) (i a : Int), 0 ≤ i → L - i = d → d < f → (0 ≤ a ∧ a ≤ 100) → ∃ y, G6_crossingOdds_28 f m 51 x L z a i = some (y, m) ∧ 0 ≤ y ∧ y ≤ 100 := by
  intro d
  induction d with
  | zero =>
    intro f i a a1 a2 a3 a4
    obtain ⟨f, rfl⟩ : ∃ j, f = j + 1 := ⟨f - 1, by first | decide | omega⟩
    rw [G6_crossingOdds_28, if_pos (by first | decide | omega), gd3_t (by first | decide | omega)]
    exact ⟨_, rfl, by first | decide | omega, by first | decide | omega⟩
  | succ d ih =>
    intro f i a a1 a2 a3 a4
    obtain ⟨f, rfl⟩ : ∃ j, f = j + 1 := ⟨f - 1, by first | decide | omega⟩
    have b1 := h1 i a1 (by first | decide | omega)
    have b2 := h2 _ b1.1 b1.2
    have b3 := mul_b a4 b2
    obtain ⟨y1, e1, p1⟩ := ih f (i + 1) a (by first | decide | omega) (by first | decide | omega) (by first | decide | omega) a4
    obtain ⟨y2, e2, p2⟩ := ih f (i + 1) (a * (100 - m (51 + 2) (m (51 + 6) i)) / 100) (by first | decide | omega) (by first | decide | omega) (by first | decide | omega) (by first | decide | omega)
    have t : ∃ y, G6_crossingOdds_74 (fun m a0 x2 x4 x5 x6 x7 => G6_crossingOdds_28 f m a0 x2 x4 x5 x6 x7) m 51 x L z a i (m (51 + 6) i) = some (y, m) ∧ 0 ≤ y ∧ y ≤ 100 := by
      unfold G6_crossingOdds_74
      rw [gdx_t (by first | decide | omega), gd3_t (by first | decide | omega), gdd_t (by first | decide | omega), gd3_t (by first | decide | omega)]
      exact ⟨y2, e2, p2⟩
    rw [G6_crossingOdds_28, if_neg (by first | decide | omega), gdx_t (by first | decide | omega), gdx_t (by first | decide | omega), gdx_t (by first | decide | omega), gd3_t (by first | decide | omega), e1]
    by_cases c1 : z < m (51 + 8) (m (51 + 6) i)
    · rw [if_pos c1]; exact t
    · rw [if_neg c1]
      by_cases c2 : m (51 + 8) (m (51 + 6) i) = z
      · rw [if_pos c2]
        by_cases c3 : m (51 + 6) i ≤ x
        · rw [if_pos c3]; exact ⟨y1, rfl, p1⟩
        · rw [if_neg c3]; exact t
      · rw [if_neg c2]; exact ⟨y1, rfl, p1⟩
end Q14
