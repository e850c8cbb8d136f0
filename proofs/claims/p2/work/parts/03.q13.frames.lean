/-! What each part of the relation rests on; notes; go; look. -/
theorem Fm.rw1 {P : Nat → Int → Prop} {m m' : Mem} (f : Fm P m m') {b : Nat} (h : ∀ i, ¬ P b i) : m' b = m b := funext fun i => f b i (h i)
theorem Fr.fm {P : Nat → Prop} {m m' : Mem} (f : Fr P m m') : Fm (fun b _ => P b) m m' := f
section Q13
variable {m v m' v' w n : Mem} {T : Nat} {P Q : Nat → Int → Prop}
/-- what is told, on both sides -/
def RA (m v : Mem) (T : Nat) : Prop := ((T = 2 ∨ T = 24) ∧ m 0 3 = (T : Int) ∧ m 0 4 = 26 - (T : Int) ∧ m 51 0 = (T : Int)) ∧ WW (sl 21 m T) ∧ GE (sl 21 m T) (sl 3 m 51) (gM (sl 21 m T) (-1)) ∧ RT v (sl 21 m T)
theorem RS.ra (h : RS m v T) : RA m v T := ⟨h.1, h.2.1, h.2.2.1, h.2.2.2.2.1⟩
theorem RA.rs (h : RA m v T) (h1 : SN (sl 21 m T) (sl 6 m 69)) (h2 : SV (sl 21 m T) (sl 6 m 69) v) : RS m v T := ⟨h.1, h.2.1, h.2.2.1, h1, h.2.2.2, h2⟩
theorem RA.f (h : RA m v T) (f : Fm P m m') (g : Fm Q v v') (hp : ∀ b i, (b = 0 ∧ (i = 3 ∨ i = 4)) ∨ (2 ≤ b ∧ b ≤ 45) ∨ (51 ≤ b ∧ b ≤ 54) → ¬ P b i) (hq : ∀ b i, (b = 0 ∧ 12 ≤ i ∧ i ≤ 17) ∨ (4 ≤ b ∧ b ≤ 20) → ¬ Q b i) : RA m' v' T ∧ sl 21 m' T = sl 21 m T := by
  obtain ⟨⟨t1, t2, t3, t4⟩, r1, r2, r4⟩ := h
  have ew : sl 21 m' T = sl 21 m T := sl_c (fun b x y => f.rw1 (fun i => hp b i (by omega)))
  have eg : sl 3 m' 51 = sl 3 m 51 := sl_c (fun b x y => f.rw1 (fun i => hp b i (by omega)))
  refine ⟨⟨⟨t1, ?_, ?_, ?_⟩, ?_, ?_, ?_⟩, ew⟩
  · rw [f 0 3 (hp 0 3 (by omega))]; exact t2
  · rw [f 0 4 (hp 0 4 (by omega))]; exact t3
  · rw [f 51 0 (hp 51 0 (by omega))]; exact t4
  · rw [ew]; exact r1
  · rw [ew, eg]; exact r2
  · rw [ew]; exact r4.fr g hq
theorem SV.f (h : SV w n v) (g : Fm Q v v') (hw : w 1 0 ≤ 5 ∧ w 8 1 ≤ 28) (hq : ∀ b i, (b = 0 ∧ (i = 64 ∨ i = 65 ∨ i = 66)) ∨ ((25 ≤ b ∧ b ≤ 29) ∧ 0 ≤ i ∧ i < 5) ∨ (b = 30 ∧ 0 ≤ i ∧ i < 28) ∨ ((31 ≤ b ∧ b ≤ 33) ∧ i = 0) → ¬ Q b i) : SV w n v' := by
  obtain ⟨⟨h1, h2, h3, h4, h5⟩, h6, h7, h8, h9⟩ := h
  refine ⟨⟨fun i p q => ?_, fun k p q => ?_, ?_, ?_, ?_⟩, ?_, ?_, fun i p q => ?_, ?_⟩
  · rw [g 25 _ (hq _ _ (by omega)), g 26 _ (hq _ _ (by omega)), g 27 _ (hq _ _ (by omega))]; exact h1 i p q
  · rw [g 30 _ (hq _ _ (by omega))]; exact h2 k p q
  · rw [g 32 _ (hq _ _ (by omega))]; exact h3
  · rw [g 33 _ (hq _ _ (by omega))]; exact h4
  · rw [g 0 65 (hq _ _ (by omega))]; exact h5
  · rw [g 31 _ (hq _ _ (by omega))]; exact h6
  · rw [g 0 64 (hq _ _ (by omega))]; exact h7
  · rw [g 28 _ (hq _ _ (by omega)), g 29 _ (hq _ _ (by omega))]; exact h8 i p q
  · rw [g 0 66 (hq _ _ (by omega))]; exact h9
/-- the image, the told part standing -/
def RIw (m v w : Mem) : Prop := m 0 10 = v 0 80 ∧ (m 0 10 = 0 ∨ (m 0 10 = 1 ∧ SN w (sl 6 m 83) ∧ SI w (sl 6 m 83) v))
theorem RIw.f (h : RIw m v w) (f : Fm P m m') (g : Fm Q v v') (hp : ∀ b i, (b = 0 ∧ i = 10) ∨ (83 ≤ b ∧ b ≤ 89) → ¬ P b i) (hq : ∀ b i, (b = 0 ∧ 80 ≤ i ∧ i ≤ 86) ∨ b = 42 → ¬ Q b i) : RIw m' v' w := by
  have ei : sl 6 m' 83 = sl 6 m 83 := sl_c (fun b x y => f.rw1 (fun i => hp b i (by omega)))
  unfold RIw SI at *
  rw [ei, f 0 10 (hp _ _ (by omega)), g 0 80 (hq _ _ (by omega)), g.rw1 (fun i => hq 42 i (by omega)), g 0 82 (hq _ _ (by omega)), g 0 83 (hq _ _ (by omega)), g 0 84 (hq _ _ (by omega)), g 0 85 (hq _ _ (by omega)), g 0 86 (hq _ _ (by omega))]
  exact h
theorem RNo.f (h : RNo m v w) (f : Fm P m m') (g : Fm Q v v') (hp : ∀ b i, (90 ≤ b ∧ b ≤ 94) → ¬ P b i) (hq : ∀ b i, (b = 0 ∧ (i = 74 ∨ i = 75)) ∨ b = 39 → ¬ Q b i) : RNo m' v' w := by
  unfold RNo
  rw [f.rw1 (fun i => hp 90 i (by omega)), f.rw1 (fun i => hp 91 i (by omega)), f.rw1 (fun i => hp 92 i (by omega)), f.rw1 (fun i => hp 93 i (by omega)), f.rw1 (fun i => hp 94 i (by omega)), g.rw1 (fun i => hq 39 i (by omega)), g 0 74 (hq _ _ (by omega)), g 0 75 (hq _ _ (by omega))]
  exact h
theorem RU.f (h : RU m v w n) (f : Fm P m m') (g : Fm Q v v') (hp : ∀ b i, (96 ≤ b ∧ b ≤ 98) → ¬ P b i) (hq : ∀ b i, (b = 0 ∧ i = 78) ∨ b = 41 → ¬ Q b i) : RU m' v' w n := by
  unfold RU UH
  rw [f.rw1 (fun i => hp 96 i (by omega)), f.rw1 (fun i => hp 97 i (by omega)), f.rw1 (fun i => hp 98 i (by omega)), g.rw1 (fun i => hq 41 i (by omega)), g 0 78 (hq _ _ (by omega))]
  exact h
theorem RTp.f (h : RTp m v) (f : Fm P m m') (g : Fm Q v v') (hp : ∀ b i, (b = 0 ∧ i = 1) ∨ b = 1 ∨ b = 48 → ¬ P b i) (hq : ∀ b i, (b = 0 ∧ i = 1) ∨ b = 1 ∨ b = 2 → ¬ Q b i) : RTp m' v' := by
  unfold RTp
  rw [f 0 1 (hp _ _ (by omega)), f.rw1 (fun i => hp 1 i (by omega)), f.rw1 (fun i => hp 48 i (by omega)), g 0 1 (hq _ _ (by omega)), g.rw1 (fun i => hq 1 i (by omega)), g.rw1 (fun i => hq 2 i (by omega))]
  exact h
/-- all of it, apart -/
theorem Rel.all (h : Rel m v) : ∃ T, RA m v T ∧ SN (sl 21 m T) (sl 6 m 69) ∧ SV (sl 21 m T) (sl 6 m 69) v ∧ RIw m v (sl 21 m T) ∧ RNo m v (sl 21 m T) ∧ RU m v (sl 21 m T) (sl 6 m 69) ∧ RTp m v ∧ (m 46 8 = v 0 4 ∧ m 46 9 = v 0 5) ∧ W102 m := by
  obtain ⟨T, h1, h2, h3, h4, h5, h6, h7⟩ := h
  exact ⟨T, h1.ra, h1.2.2.2.1, h1.2.2.2.2.2, h2, h3, h4, h5, h6, h7⟩
theorem Rel.of (h : RA m v T ∧ SN (sl 21 m T) (sl 6 m 69) ∧ SV (sl 21 m T) (sl 6 m 69) v ∧ RIw m v (sl 21 m T) ∧ RNo m v (sl 21 m T) ∧ RU m v (sl 21 m T) (sl 6 m 69) ∧ RTp m v ∧ (m 46 8 = v 0 4 ∧ m 46 9 = v 0 5) ∧ W102 m) : Rel m v := by
  obtain ⟨h1, h2, h3, h4, h5, h6, h7, h8, h9⟩ := h
  exact ⟨T, h1.rs h2 h3, h4, h5, h6, h7, h8, h9⟩
/-- what notes change -/
def Pn : Nat → Int → Prop := fun b _ => 90 ≤ b ∧ b ≤ 94
def Qn : Nat → Int → Prop := fun b i => (b = 0 ∧ (i = 2 ∨ i = 74 ∨ i = 75)) ∨ b = 39
theorem Rel.note (h : Rel m v) (f : Fm Pn m m') (g : Fm Qn v v') (hN : ∀ T, RA m v T → RNo m v (sl 21 m T) → RNo m' v' (sl 21 m T)) : Rel m' v' := by
  obtain ⟨T, h1, h2, h3, h4, h5, h6, h7, h8, h9⟩ := h.all
  obtain ⟨k1, ew⟩ := h1.f f g (by intro b i q; unfold Pn; omega) (by intro b i q; unfold Qn; omega)
  have en : sl 6 m' 69 = sl 6 m 69 := sl_c (fun b x y => f.rw1 (fun i => by unfold Pn; omega))
  have hw := h1.2.1.1
  unfold WS at hw
  refine Rel.of (T := T) ⟨k1, ?_, ?_, ?_, ?_, ?_, ?_, ?_, ?_⟩
  · rw [ew, en]; exact h2
  · rw [ew, en]; exact h3.f g (by omega) (by intro b i q; unfold Qn; omega)
  · rw [ew]; exact h4.f f g (by intro b i q; unfold Pn; omega) (by intro b i q; unfold Qn; omega)
  · rw [ew]; exact hN T h1 h5
  · rw [ew, en]; exact h6.f f g (by intro b i q; unfold Pn; omega) (by intro b i q; unfold Qn; omega)
  · exact h7.f f g (by intro b i q; unfold Pn; omega) (by intro b i q; unfold Qn; omega)
  · rw [f 46 8 (by unfold Pn; omega), f 46 9 (by unfold Pn; omega), g 0 4 (by unfold Qn; omega), g 0 5 (by unfold Qn; omega)]; exact h8
  · intro i p q; rw [f 102 i (by unfold Pn; omega)]; exact h9 i p q
theorem a_known (h : Rel m v) (x : Int) : Agr (G11_known m x) (G12_known v x) := by
  have h1 := h.v0
  unfold G11_known G11_known_0 G12_known G12_known_0
  simp only [wt_e]
  generalize up v 0 2 0 = u at h1 ⊢
  obtain ⟨T, _, _, _, _, hN, _⟩ := h1.all
  rw [r_isIn, bs1, ← hN.1]
  by_cases c : -1 ≤ x ∧ x ≤ m 90 0
  · simp only [if_pos c, if_neg i10]
    rw [if_neg (by omega), if_pos c.2]
    refine ⟨1, _, _, rfl, rfl, h1.note (Fm.w1 (by unfold Pn; omega)) (Fm.w1 (by unfold Qn; omega)) (fun T' _ k => ?_)⟩
    obtain ⟨k1, k2, k3, k4, k5⟩ := k
    unfold RNo
    rw [up_i (show (0 : Int) ≠ 1 by omega), up_e, up_i (show (74 : Int) ≠ 75 by omega), up_e, up_b (show 91 ≠ 90 by omega), up_b (show 92 ≠ 90 by omega), up_b (show 93 ≠ 90 by omega), up_b (show 94 ≠ 90 by omega), up_b (show 39 ≠ 0 by omega)]
    exact ⟨k1, k2, rfl, c, k5⟩
  · simp only [if_neg c, if_true]
    by_cases c2 : x < -1
    · rw [if_pos c2]; exact agr0 h1 _ rfl rfl
    · rw [if_neg c2, if_neg (by omega)]; exact agr0 h1 _ rfl rfl
theorem r_noted {a b c : Int} (h : 0 ≤ v 0 74 ∧ v 0 74 < 24) : ∃ v', G12_noted v a b c = some (v 0 74, v') ∧ Fm Qn v v' ∧ v' 0 74 = v 0 74 + 1 ∧ v' 0 75 = v 0 75 ∧ v' 39 (3 * v 0 74) = a ∧ v' 39 (3 * v 0 74 + 1) = b ∧ v' 39 (3 * v 0 74 + 2) = c ∧ ∀ i, i < 3 * v 0 74 → v' 39 i = v 39 i := by
  unfold G12_noted G12_noted_0
  have e : ∀ (z : Mem) (i y : Int), up z 39 i y 0 74 = z 0 74 := fun z i y => up_a (by omega)
  rw [gdx_t (by omega), wt_e]
  rw [e, gdx_t (by omega), wt_e, e, e, gdx_t (by omega), wt_e, e, e, e, gd3_t (by omega), wt_e, up_e, gd3_t (by omega), show v 0 74 + 1 - 1 = v 0 74 by omega]
  have fq : ∀ i, Qn 39 i := fun i => Or.inr rfl
  refine ⟨_, rfl, (((Fm.w1 (fq _)).w (fq _)).w (fq _)).w (Or.inl ⟨rfl, Or.inr (Or.inl rfl)⟩), up_e, ?_, ?_, ?_, ?_, fun i hi => ?_⟩
  · rw [up_i (by omega), up_a (by omega), up_a (by omega), up_a (by omega)]
  · rw [up_a (by omega), up_i (by omega), up_i (by omega), up_e]
  · rw [up_a (by omega), up_i (by omega), up_e]
  · rw [up_a (by omega), up_e]
  · rw [up_a (by omega), up_i (by omega), up_i (by omega), up_i (by omega)]
theorem c_seatN {a b c : Int} (h : 0 ≤ m 90 0 ∧ m 90 0 ≤ 24) : ∃ m', G3_addSeat m a b c = some ((if m 90 0 < 24 then m 90 0 else -1), m') ∧ Fm Pn m m' ∧ (m 90 0 < 24 → m' 90 0 = m 90 0 + 1 ∧ m' 90 1 = m 90 1 ∧ m' 91 (m 90 0) = a ∧ m' 92 (m 90 0) = b ∧ m' 93 (m 90 0) = c ∧ m' 94 (m 90 0) = -1 ∧ ∀ i, i ≠ m 90 0 → m' 91 i = m 91 i ∧ m' 92 i = m 92 i ∧ m' 93 i = m 93 i ∧ m' 94 i = m 94 i) ∧ (¬ m 90 0 < 24 → m' = m) := by
  unfold G3_addSeat G3_addSeat_0
  by_cases c1 : m 90 0 < 24
  · have e : ∀ (z : Mem) (r : Nat) (i y j : Int), 91 ≤ r → up z r i y 90 j = z 90 j := fun z r i y j hr => up_a (by omega)
    have e1 := e m 91 (m 90 0) a 0 (by omega)
    have e2 := (e (up m 91 (m 90 0) a) 92 (m 90 0) b 0 (by omega)).trans e1
    have e3 := (e (up (up m 91 (m 90 0) a) 92 (m 90 0) b) 93 (m 90 0) c 0 (by omega)).trans e2
    have e4 := (e (up (up (up m 91 (m 90 0) a) 92 (m 90 0) b) 93 (m 90 0) c) 94 (m 90 0) (-1) 0 (by omega)).trans e3
    rw [if_pos c1, if_pos c1, gdx_t (by omega), wt_e, e1, gdx_t (by omega), wt_e, e2, gdx_t (by omega), wt_e, e3, gdx_t (by omega), wt_e, e4, gd3_t (by omega), wt_e, up_e, gd3_t (by omega), show m 90 0 + 1 - 1 = m 90 0 by omega]
    refine ⟨_, rfl, ((((Fm.w1 (by unfold Pn; omega)).w (by unfold Pn; omega)).w (by unfold Pn; omega)).w (by unfold Pn; omega)).w (by unfold Pn; omega), fun _ => ⟨up_e, ?_, ?_, ?_, ?_, ?_, fun i hi => ⟨?_, ?_, ?_, ?_⟩⟩, fun q => absurd c1 q⟩
    · rw [up_i (by omega), up_a (by omega), up_a (by omega), up_a (by omega), up_a (by omega)]
    · rw [up_a (by omega), up_a (by omega), up_a (by omega), up_a (by omega), up_e]
    · rw [up_a (by omega), up_a (by omega), up_a (by omega), up_e]
    · rw [up_a (by omega), up_a (by omega), up_e]
    · rw [up_a (by omega), up_e]
    · rw [up_a (by omega), up_a (by omega), up_a (by omega), up_a (by omega), up_i hi]
    · rw [up_a (by omega), up_a (by omega), up_a (by omega), up_i hi, up_a (by omega)]
    · rw [up_a (by omega), up_a (by omega), up_i hi, up_a (by omega), up_a (by omega)]
    · rw [up_a (by omega), up_i hi, up_a (by omega), up_a (by omega), up_a (by omega)]
  · rw [if_neg c1, if_neg c1]
    exact ⟨m, rfl, Fm.rf, fun q => absurd q c1, fun _ => rfl⟩
theorem c_strikeN {a : Int} (h : 0 ≤ m 90 0 ∧ m 90 0 ≤ 24) : ∃ m', G3_addStrike m a = some ((if m 90 0 < 24 then m 90 0 else -1), m') ∧ Fm Pn m m' ∧ (m 90 0 < 24 → m' 90 0 = m 90 0 + 1 ∧ m' 90 1 = m 90 1 ∧ m' 94 (m 90 0) = a ∧ ∀ i, i ≠ m 90 0 → m' 91 i = m 91 i ∧ m' 92 i = m 92 i ∧ m' 93 i = m 93 i ∧ m' 94 i = m 94 i) ∧ (¬ m 90 0 < 24 → m' = m) := by
  unfold G3_addStrike G3_addStrike_0
  by_cases c1 : m 90 0 < 24
  · have e : ∀ (z : Mem) (r : Nat) (i y j : Int), 91 ≤ r → up z r i y 90 j = z 90 j := fun z r i y j hr => up_a (by omega)
    have e1 := e m 92 (m 90 0) (-1) 0 (by omega)
    have e2 := (e (up m 92 (m 90 0) (-1)) 94 (m 90 0) a 0 (by omega)).trans e1
    rw [if_pos c1, if_pos c1, gdx_t (by omega), wt_e, e1, gdx_t (by omega), wt_e, e2, gd3_t (by omega), wt_e, up_e, gd3_t (by omega), show m 90 0 + 1 - 1 = m 90 0 by omega]
    refine ⟨_, rfl, ((Fm.w1 (by unfold Pn; omega)).w (by unfold Pn; omega)).w (by unfold Pn; omega), fun _ => ⟨up_e, ?_, ?_, fun i hi => ⟨?_, ?_, ?_, ?_⟩⟩, fun q => absurd c1 q⟩
    · rw [up_i (by omega), up_a (by omega), up_a (by omega)]
    · rw [up_a (by omega), up_e]
    · rw [up_a (by omega), up_a (by omega), up_a (by omega)]
    · rw [up_a (by omega), up_a (by omega), up_i hi]
    · rw [up_a (by omega), up_a (by omega), up_a (by omega)]
    · rw [up_a (by omega), up_i hi, up_a (by omega)]
  · rw [if_neg c1, if_neg c1]
    exact ⟨m, rfl, Fm.rf, fun q => absurd q c1, fun _ => rfl⟩
theorem a_note (h : Rel m v) (x y z : Int) : Agr (G11_note m x y z) (G12_note v x y z) := by
  have h1 := h.v0
  unfold G11_note G11_note_0 G12_note G12_note_0
  rw [wt_e]
  generalize up v 0 2 0 = u at h1 ⊢
  obtain ⟨T, hA, _, _, _, hN, _⟩ := h1.all
  obtain ⟨n1, n2, n3, n4, n5⟩ := hN
  have t2 := hA.1.2.1
  have hR := hA.2.2.2
  have hW := hA.2.1
  have hX := TX_sl (m := m) hA.1.1
  rw [← n1, r_isIn, bs1]
  by_cases c0 : 0 ≤ x ∧ x ≤ 199
  · simp only [if_pos c0, if_neg i10]
    rw [if_neg (by omega), if_neg (by omega), c_isS t2 hX, r_isS hR, bs1, bs1]
    by_cases c1 : 0 ≤ y ∧ y < sl 21 m T 1 0
    · simp only [if_pos c1, if_neg i10]
      rw [c_isC t2 hX hW, r_isC hR hW, bs1, bs1]
      by_cases c2 : 0 ≤ z ∧ z < sl 21 m T 0 0 * sl 21 m T 0 1
      · simp only [if_pos c2, if_neg i10]
        obtain ⟨m', e1, f1, k1, k2⟩ := c_seatN (m := m) (a := x) (b := y) (c := z) n2
        rw [e1, bs1]
        by_cases c3 : m 90 0 < 24
        · rw [if_neg (show ¬ m 90 0 = 24 by omega)]
          obtain ⟨u', e2, f2, p1, p2, p3, p4, p5, p6⟩ := r_noted (v := u) (a := x) (b := y) (c := z) (by omega)
          obtain ⟨q1, q2, q3, q4, q5, q6, q7⟩ := k1 c3
          rw [e2, bs1]
          simp only [if_pos c3]
          rw [← n1]
          rw [← n1] at p1 p3 p4 p5 p6
          refine ⟨_, _, _, rfl, rfl, h1.note f1 f2 (fun T' hA' hN' => ?_)⟩
          have eT : T' = T := by have := hA'.1.2.1; omega
          subst eT
          refine ⟨by omega, by omega, by omega, by omega, fun k a1 a2 => ?_⟩
          by_cases ck : k = m 90 0
          · left
            rw [ck, q3, q4, q5, q6, p3, p4, p5]
            exact ⟨rfl, rfl, c0, rfl, c1, rfl, c2⟩
          · obtain ⟨i1, i2, i3, i4⟩ := q7 k ck
            rw [i1, i2, i3, i4, p6 _ (by omega), p6 _ (by omega), p6 _ (by omega)]
            exact n5 k a1 (by omega)
        · rw [if_pos (show m 90 0 = 24 by omega)]
          simp only [if_neg c3]
          rw [k2 c3]; exact agr0 h1 _ rfl rfl
      · simp only [if_neg c2, if_true]
        split <;> exact agr0 h1 _ rfl rfl
    · simp only [if_neg c1, if_true]
      split <;> exact agr0 h1 _ rfl rfl
  · simp only [if_neg c0, if_true]
    have e : (if x < 0 then some (-1, m) else if 199 < x then some (-1, m) else (G11_isSurfer m y).bind fun o3 => if o3.1 = 0 then some (-1, o3.2) else (G11_isCell o3.2 z).bind fun o6 => if o6.1 = 0 then some (-1, o6.2) else (G3_addSeat o6.2 x y z).bind fun o11 => some (o11.1, o11.2)) = some ((-1 : Int), m) := by
      by_cases c1 : x < 0
      · rw [if_pos c1]
      · rw [if_neg c1, if_pos (by omega)]
    rw [e]
    split <;> exact agr0 h1 _ rfl rfl
theorem a_strike (h : Rel m v) (x : Int) : Agr (G11_strike m x) (G12_strike v x) := by
  have h1 := h.v0
  unfold G11_strike G11_strike_0 G12_strike G12_strike_0
  rw [wt_e]
  generalize up v 0 2 0 = u at h1 ⊢
  obtain ⟨T, hA, _, _, _, hN, _⟩ := h1.all
  obtain ⟨n1, n2, n3, n4, n5⟩ := hN
  rw [← n1]
  by_cases c0 : x < 0
  · rw [if_pos c0, if_pos c0]
    split <;> exact agr0 h1 _ rfl rfl
  · rw [if_neg c0, if_neg c0]
    by_cases c1 : x < m 90 0
    · rw [if_pos c1, if_pos c1]
      obtain ⟨m', e1, f1, k1, k2⟩ := c_strikeN (m := m) (a := x) n2
      rw [e1, bs1]
      by_cases c3 : m 90 0 < 24
      · rw [if_neg (show ¬ m 90 0 = 24 by omega)]
        obtain ⟨u', e2, f2, p1, p2, p3, p4, p5, p6⟩ := r_noted (v := u) (a := -1) (b := x) (c := 0) (by omega)
        obtain ⟨q1, q2, q6, q7⟩ := k1 c3
        rw [e2, bs1]
        simp only [if_pos c3]
        rw [← n1]
        rw [← n1] at p1 p3 p4 p5 p6
        refine ⟨_, _, _, rfl, rfl, h1.note f1 f2 (fun T' hA' hN' => ?_)⟩
        have eT : T' = T := by have := hA'.1.2.1; have := hA.1.2.1; omega
        subst eT
        refine ⟨by omega, by omega, by omega, by omega, fun k a1 a2 => ?_⟩
        by_cases ck : k = m 90 0
        · right
          rw [ck, q6, p3, p4]
          exact ⟨by omega, by omega, rfl, rfl⟩
        · obtain ⟨i1, i2, i3, i4⟩ := q7 k ck
          rw [i1, i2, i3, i4, p6 _ (by omega), p6 _ (by omega), p6 _ (by omega)]
          exact n5 k a1 (by omega)
      · rw [if_pos (show m 90 0 = 24 by omega)]
        simp only [if_neg c3]
        rw [k2 c3]; exact agr0 h1 _ rfl rfl
    · rw [if_neg c1, if_neg c1]
      split <;> exact agr0 h1 _ rfl rfl
end Q13
