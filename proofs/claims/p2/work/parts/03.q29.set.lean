/-! The line of a set on both sides. -/
section Q29
variable {m v : Mem} {S : Int} {D : Nat}
theorem c_bset {a : Nat} (h : 0 ≤ m a 0 ∧ m a 0 < 4) : G10_beginSet m a = some (up (up (up m (a + 1) (m a 0) (m a 1)) (a + 2) (m a 0) 0) a 0 (m a 0 + 1)) := by
  unfold G10_beginSet G10_beginSet_0
  have e1 : up m (a + 1) (m a 0) (m a 1) a 0 = m a 0 := up_a (by omega)
  have e2 : up (up m (a + 1) (m a 0) (m a 1)) (a + 2) (m a 0) 0 a 0 = m a 0 := by rw [up_a (by omega)]; exact e1
  rw [if_neg (by omega), gdx_t h, wt_e, e1, gdx_t h, wt_e, e2, gd3_t (by omega), wt_e]
/-- a wave is laid into the last set -/
theorem c_addw {a : Nat} {x y s c l : Int} (h1 : m a 0 = s + 1) (h2 : m a 1 = c) (h3 : m (a + 2) s = l) (hs : 0 ≤ s ∧ s < 4) (hc : 0 ≤ c ∧ c < 28) (hl : 0 ≤ l ∧ l < 10) : ∃ m', G10_add m a x y = some m' ∧ Fm (fun b i => (b = a ∧ i = 1) ∨ (b = a + 2 ∧ i = s) ∨ (a + 3 ≤ b ∧ b ≤ a + 6 ∧ i = c)) m m' ∧ m' a 1 = c + 1 ∧ m' (a + 2) s = l + 1 ∧ m' (a + 3) c = x ∧ m' (a + 4) c = y ∧ m' (a + 5) c = s ∧ m' (a + 6) c = l + 1 := by
  unfold G10_add G10_add_0
  have es : s + 1 - 1 = s := by omega
  have p0 : up m (a + 2) s (l + 1) a 0 = s + 1 := by rw [up_a (by omega)]; exact h1
  have p1 : up m (a + 2) s (l + 1) a 1 = c := by rw [up_a (by omega)]; exact h2
  have q0 : up (up m (a + 2) s (l + 1)) (a + 3) c x a 0 = s + 1 := by rw [up_a (by omega)]; exact p0
  have q1 : up (up m (a + 2) s (l + 1)) (a + 3) c x a 1 = c := by rw [up_a (by omega)]; exact p1
  have r0 : up (up (up m (a + 2) s (l + 1)) (a + 3) c x) (a + 4) c y a 0 = s + 1 := by rw [up_a (by omega)]; exact q0
  have r1 : up (up (up m (a + 2) s (l + 1)) (a + 3) c x) (a + 4) c y a 1 = c := by rw [up_a (by omega)]; exact q1
  have t0 : up (up (up (up m (a + 2) s (l + 1)) (a + 3) c x) (a + 4) c y) (a + 5) c s a 0 = s + 1 := by rw [up_a (by omega)]; exact r0
  have t1 : up (up (up (up m (a + 2) s (l + 1)) (a + 3) c x) (a + 4) c y) (a + 5) c s a 1 = c := by rw [up_a (by omega)]; exact r1
  have t2 : up (up (up (up m (a + 2) s (l + 1)) (a + 3) c x) (a + 4) c y) (a + 5) c s (a + 2) s = l + 1 := by rw [up_a (by omega), up_a (by omega), up_a (by omega), up_e]
  have u1 : up (up (up (up (up m (a + 2) s (l + 1)) (a + 3) c x) (a + 4) c y) (a + 5) c s) (a + 6) c (l + 1) a 1 = c := by rw [up_a (by omega)]; exact t1
  rw [h2, if_neg (by omega), h1, if_pos (by omega), es, gdx_t hs, gdx_t hs, h3, gd3_t (by omega), wt_e, p1, gdx_t hc, wt_e, q1, gdx_t hc, wt_e, r1, gdx_t hc, r0, es, gd3_t (by omega), wt_e, t0, es, t1, t2, gdx_t hs, gdx_t hc, wt_e, u1, gd3_t (by omega), wt_e]
  refine ⟨_, rfl, (((((Fm.w1 ?_).w ?_).w ?_).w ?_).w ?_).w ?_, up_e, ?_, ?_, ?_, ?_, ?_⟩
  · omega
  · omega
  · omega
  · omega
  · omega
  · omega
  · rw [up_a (by omega), up_a (by omega)]; exact t2
  · rw [up_a (by omega), up_a (by omega), up_a (by omega), up_a (by omega), up_e]
  · rw [up_a (by omega), up_a (by omega), up_a (by omega), up_e]
  · rw [up_a (by omega), up_a (by omega), up_e]
  · rw [up_a (by omega), up_e]
/-- what a set's line changes -/
def PSe (D : Nat) (t c0 : Int) : Nat → Int → Prop := fun b i => Pk b i ∨ (b = D + 8 ∧ (i = 0 ∨ i = 1)) ∨ ((b = D + 9 ∨ b = D + 10) ∧ i = t) ∨ ((D + 11 ≤ b ∧ b ≤ D + 14) ∧ c0 ≤ i)
def QSe (t c0 : Int) : Nat → Int → Prop := fun b i => Qk b i ∨ (b = 0 ∧ (i = 21 ∨ i = 22)) ∨ (b = 11 ∧ i = 4 + t) ∨ ((12 ≤ b ∧ b ≤ 14) ∧ 28 + c0 ≤ i)
theorem Pk_t {t c : Int} : ∀ b i, Pk b i → PSe D t c b i := fun _ _ h => Or.inl h
theorem Qk_t {t c : Int} : ∀ b i, Qk b i → QSe t c b i := fun _ _ h => Or.inl h
theorem PSe_x {t c : Int} : ∀ b i, PSe D t c b i → PX D b i := by intro b i h; unfold PSe Pk at h; unfold PX; omega
theorem QSe_x {t c : Int} (ht : 0 ≤ t) (hc : 0 ≤ c) : ∀ b i, QSe t c b i → QX b i := by intro b i h; unfold QSe Qk at h; unfold QX; omega
/-- k waves of the set t are read -/
def SetI (m0 v0 m v : Mem) (D : Nat) (x k t c0 : Int) : Prop := Fm (PSe D t c0) m0 m ∧ Fm (QSe t c0) v0 v ∧ (m (D + 8) 0 = t + 1 ∧ m (D + 8) 1 = c0 + k ∧ m (D + 9) t = c0 ∧ m (D + 10) t = k) ∧ (v 0 22 = c0 + k ∧ v 11 (4 + t) = c0) ∧ ∀ j, 0 ≤ j → j < k → (m (D + 11) (c0 + j) = x + j ∧ (1 ≤ m (D + 12) (c0 + j) ∧ m (D + 12) (c0 + j) ≤ 9) ∧ m (D + 13) (c0 + j) = t ∧ m (D + 14) (c0 + j) = j + 1) ∧ (v 12 (28 + (c0 + j)) = x + j ∧ v 13 (28 + (c0 + j)) = m (D + 12) (c0 + j) ∧ v 14 (28 + (c0 + j)) = t)
theorem SetI.k {m0 v0 m' v' : Mem} {x k t c0 : Int} (hDD : D = 2 ∨ D = 24) (h : SetI m0 v0 m v D x k t c0) (f : Fm Pk m m') (g : Fm Qk v v') : SetI m0 v0 m' v' D x k t c0 := by
  obtain ⟨h1, h2, h3, h4, h5⟩ := h
  have em : ∀ (b : Nat) i, D ≤ b → b ≤ D + 21 → m' b i = m b i := fun b i p q => f b i (by unfold Pk; omega)
  have ev : ∀ (b : Nat) i, 1 ≤ b → v' b i = v b i := fun b i p => g b i (by unfold Qk; omega)
  refine ⟨h1.tr (f.mono Pk_t), h2.tr (g.mono Qk_t), ?_, ?_, fun j p q => ?_⟩
  · rw [em _ _ (by omega) (by omega), em _ _ (by omega) (by omega), em _ _ (by omega) (by omega), em _ _ (by omega) (by omega)]; exact h3
  · rw [g 0 22 (by unfold Qk; omega), ev _ _ (by omega)]; exact h4
  · rw [em _ _ (by omega) (by omega), em _ _ (by omega) (by omega), em _ _ (by omega) (by omega), em _ _ (by omega) (by omega), ev _ _ (by omega), ev _ _ (by omega), ev _ _ (by omega)]; exact h5 j p q
/-- the draft behind a set's line -/
theorem di_set {m0 v0 : Mem} {x k t c0 : Int} (hD : DI m0 v0 D) (ht : t = m0 (D + 8) 0 ∧ t < 4) (hc : c0 = m0 (D + 8) 1 ∧ c0 + k ≤ 28) (hk : 1 ≤ k ∧ k ≤ 7) (hx : 0 ≤ x ∧ x ≤ 99) (hl : 0 < c0 → m0 (D + 11) (c0 - 1) < x) (h : SetI m0 v0 m v D x k t c0) (h21 : v 0 21 = t + 1) : DI m v D := by
  obtain ⟨f, g, ⟨s1, s2, s3, s4⟩, ⟨u1, u2⟩, h5⟩ := h
  obtain ⟨h1, ⟨hS, hC, hT, hV, hL⟩, ⟨⟨a1, a2, a3, a4, a5, a6⟩, b, c, d, e, r1, r2, r3⟩, q4, q5, q6⟩ := hD
  have hDD := h1.1
  have eS : sl 21 m0 D 8 0 = t := by rw [sl_e (by omega)]; exact ht.1.symm
  have eC : sl 21 m0 D 8 1 = c0 := by rw [sl_e (by omega)]; exact hc.1.symm
  have t0 : 0 ≤ t ∧ 0 ≤ c0 := by unfold WS at hS; omega
  have e0 : sl 21 m D 0 = sl 21 m0 D 0 := funext fun i => by rw [sl_e (Nat.zero_le _), sl_e (Nat.zero_le _)]; exact f D i (by unfold PSe Pk; omega)
  have eo : ∀ c : Nat, c ≠ 8 → c ≠ 9 → c ≠ 10 → c ≠ 11 → c ≠ 12 → c ≠ 13 → c ≠ 14 → sl 21 m D c = sl 21 m0 D c := fun c z1 z2 z3 z4 z5 z6 z7 => by
    funext i
    by_cases c21 : c ≤ 21
    · rw [sl_e c21, sl_e c21]; exact f (D + c) i (by unfold PSe Pk; omega)
    · unfold sl; rw [if_neg c21, if_neg c21]
  have n80 : sl 21 m D 8 0 = t + 1 := by rw [sl_e (by omega)]; exact s1
  have n81 : sl 21 m D 8 1 = c0 + k := by rw [sl_e (by omega)]; exact s2
  have n9 : sl 21 m D 9 t = c0 := by rw [sl_e (by omega)]; exact s3
  have n10 : sl 21 m D 10 t = k := by rw [sl_e (by omega)]; exact s4
  have o9 : ∀ (c : Nat) i, c = 9 ∨ c = 10 → i ≠ t → sl 21 m D c i = sl 21 m0 D c i := fun c i p q => by rw [sl_e (by omega), sl_e (by omega)]; exact f (D + c) i (by unfold PSe Pk; omega)
  have o11 : ∀ (c : Nat) i, 11 ≤ c → c ≤ 14 → i < c0 → sl 21 m D c i = sl 21 m0 D c i := fun c i p q r => by rw [sl_e (by omega), sl_e (by omega)]; exact f (D + c) i (by unfold PSe Pk; omega)
  have nn : ∀ (c : Nat) i, c ≤ 21 → sl 21 m D c i = m (D + c) i := fun c i q => sl_e q i
  have k0 : ∀ i, i + 6 ≠ 21 → i + 6 ≠ 22 → ¬ Qk 0 (i + 6) → kd v 0 i = kd v0 0 i := fun i p q s => by
    show v 0 (i + 6) = v0 0 (i + 6)
    exact g 0 _ (by unfold QSe; rintro (z | z | z | z); exact s z; omega; omega; omega)
  have kq : ∀ c : Nat, 1 ≤ c → c ≠ 11 → c ≠ 12 → c ≠ 13 → c ≠ 14 → kd v c = kd v0 c := fun c z0 z1 z2 z3 z4 => funext fun i => g c _ (by unfold QSe Qk; omega)
  have sh11 : ∀ i, sh 11 i = 4 + i := fun i => by unfold sh; rw [if_neg (by omega), if_neg (by omega), if_neg (by omega), if_pos (by omega)]
  have sh12 : ∀ (c : Nat) i, 12 ≤ c → c ≤ 14 → sh c i = 28 + i := fun c i p q => by unfold sh; rw [if_neg (by omega), if_neg (by omega), if_neg (by omega), if_neg (by omega), if_pos (by omega)]
  have k11 : ∀ i, i ≠ t → kd v 11 i = kd v0 11 i := fun i p => by show v 11 (sh 11 i) = v0 11 (sh 11 i); rw [sh11]; exact g 11 _ (by unfold QSe Qk; omega)
  have k12 : ∀ (c : Nat) i, 12 ≤ c → c ≤ 14 → i < c0 → kd v c i = kd v0 c i := fun c i p q r => by show v c (sh c i) = v0 c (sh c i); rw [sh12 c i p q]; exact g c _ (by unfold QSe Qk; omega)
  have n11 : ∀ j, 0 ≤ j → j < k → sl 21 m D 11 (c0 + j) = x + j := fun j p q => by rw [nn 11 _ (by omega)]; exact (h5 j p q).1.1
  refine ⟨⟨hDD, by rw [f 46 10 (by unfold PSe Pk; omega)]; exact h1.2⟩, ⟨?_, ?_, ?_, ?_, ?_⟩, ⟨⟨?_, ?_, ?_, ?_, ?_, ?_⟩, ?_, ?_, ?_, ?_, ?_, ?_, ?_⟩, ⟨?_, ?_, ?_⟩, ?_, ?_⟩
  · unfold WS at hS ⊢
    rw [e0, eo 1 (by omega) (by omega) (by omega) (by omega) (by omega) (by omega) (by omega), n80, n81]
    omega
  · unfold WC
    rw [e0, eo 1 (by omega) (by omega) (by omega) (by omega) (by omega) (by omega) (by omega), eo 3 (by omega) (by omega) (by omega) (by omega) (by omega) (by omega) (by omega), eo 4 (by omega) (by omega) (by omega) (by omega) (by omega) (by omega) (by omega), eo 5 (by omega) (by omega) (by omega) (by omega) (by omega) (by omega) (by omega), eo 6 (by omega) (by omega) (by omega) (by omega) (by omega) (by omega) (by omega), eo 7 (by omega) (by omega) (by omega) (by omega) (by omega) (by omega) (by omega)]
    exact hC
  · obtain ⟨w1, w2, w3⟩ := hT
    rw [eS] at w1 w2 w3
    rw [eC] at w1 w3
    refine ⟨fun q => by rw [n80] at q; omega, fun _ => ?_, fun i p q => ?_⟩
    · by_cases z : t = 0
      · rw [show (0 : Int) = t from z.symm, n9, w1 z]; exact z.symm
      · rw [o9 9 0 (by omega) (by omega)]; exact w2 (by omega)
    · rw [n80] at q
      rw [n80, n81]
      by_cases z : i = t
      · subst z
        rw [n9, n10]
        exact ⟨t0.2, hk.1, hk.2, by omega, fun y => by omega, fun _ => rfl⟩
      · obtain ⟨y1, y2, y3, y4, y5, y6⟩ := w3 i p (by omega)
        rw [o9 9 i (by omega) z, o9 10 i (by omega) z]
        refine ⟨y1, y2, y3, by omega, fun y => ?_, fun y => by omega⟩
        by_cases z2 : i + 1 = t
        · rw [z2, n9]; exact (y6 z2).symm
        · rw [o9 9 (i + 1) (by omega) z2]; exact y5 (by omega)
  · intro i p q
    rw [n81] at q
    rw [n80, n81]
    have hi : i + 1 < c0 + k → sl 21 m D 11 i < sl 21 m D 11 (i + 1) := by
      intro y
      by_cases z : i < c0
      · by_cases z2 : i + 1 < c0
        · rw [o11 11 i (by omega) (by omega) z, o11 11 (i + 1) (by omega) (by omega) z2]
          exact (hV i p (by rw [eC]; exact z)).2.2 (by rw [eC]; exact z2)
        · have z3 := hl (by omega)
          have z4 := n11 0 (by omega) (by omega)
          rw [show i + 1 = c0 + 0 by omega, z4, o11 11 i (by omega) (by omega) z, sl_e (by omega), show i = c0 - 1 by omega]
          omega
      · have z1 := n11 (i - c0) (by omega) (by omega)
        have z2 := n11 (i + 1 - c0) (by omega) (by omega)
        rw [show c0 + (i - c0) = i by omega] at z1
        rw [show c0 + (i + 1 - c0) = i + 1 by omega] at z2
        omega
    by_cases z : i < c0
    · obtain ⟨⟨y1, y2, y3, y4, y5, y6⟩, y7, _⟩ := hV i p (by rw [eC]; exact z)
      rw [eS] at y2
      obtain ⟨w1, w2, w3⟩ := hT
      have y8 := w3 (sl 21 m0 D 13 i) y1 (by rw [eS]; exact y2)
      rw [eC] at y8
      rw [o11 13 i (by omega) (by omega) z, o9 9 _ (by omega) (by omega), o9 10 _ (by omega) (by omega), o11 14 i (by omega) (by omega) z, o11 12 i (by omega) (by omega) z, o11 11 (sl 21 m0 D 9 (sl 21 m0 D 13 i)) (by omega) (by omega) (by omega)]
      refine ⟨⟨y1, by omega, y3, y4, y5, ?_⟩, ?_, hi⟩
      · rw [o11 11 i (by omega) (by omega) z]; exact y6
      · rw [o11 11 i (by omega) (by omega) z]; exact y7
    · have y := (h5 (i - c0) (by omega) (by omega)).1
      rw [show c0 + (i - c0) = i by omega] at y
      rw [← nn 11 _ (by omega), ← nn 12 _ (by omega), ← nn 13 _ (by omega), ← nn 14 _ (by omega)] at y
      have y0 := n11 0 (by omega) (by omega)
      rw [Int.add_zero] at y0
      rw [y.2.2.1, n9, n10, y0]
      refine ⟨⟨t0.1, by omega, by omega, by omega, by omega, by omega⟩, by omega, hi⟩
  · unfold WLX
    rw [eo 16 (by omega) (by omega) (by omega) (by omega) (by omega) (by omega) (by omega), eo 17 (by omega) (by omega) (by omega) (by omega) (by omega) (by omega) (by omega), eo 18 (by omega) (by omega) (by omega) (by omega) (by omega) (by omega) (by omega), eo 19 (by omega) (by omega) (by omega) (by omega) (by omega) (by omega) (by omega), eo 20 (by omega) (by omega) (by omega) (by omega) (by omega) (by omega) (by omega), eo 21 (by omega) (by omega) (by omega) (by omega) (by omega) (by omega) (by omega)]; exact hL
  · rw [k0 12 (by omega) (by omega) (by unfold Qk; omega), e0]; exact a1
  · rw [k0 13 (by omega) (by omega) (by unfold Qk; omega), e0]; exact a2
  · rw [k0 14 (by omega) (by omega) (by unfold Qk; omega), eo 1 (by omega) (by omega) (by omega) (by omega) (by omega) (by omega) (by omega)]; exact a3
  · rw [n80]; exact h21
  · rw [n81]; exact u1
  · rw [k0 17 (by omega) (by omega) (by unfold Qk; omega), e0]; exact a6
  · rw [kq 4 (by omega) (by omega) (by omega) (by omega) (by omega), e0]; exact b
  · rw [kq 5 (by omega) (by omega) (by omega) (by omega) (by omega), kq 6 (by omega) (by omega) (by omega) (by omega) (by omega), kq 7 (by omega) (by omega) (by omega) (by omega) (by omega), kq 8 (by omega) (by omega) (by omega) (by omega) (by omega), kq 9 (by omega) (by omega) (by omega) (by omega) (by omega), kq 10 (by omega) (by omega) (by omega) (by omega) (by omega), eo 1 (by omega) (by omega) (by omega) (by omega) (by omega) (by omega) (by omega), eo 2 (by omega) (by omega) (by omega) (by omega) (by omega) (by omega) (by omega), eo 3 (by omega) (by omega) (by omega) (by omega) (by omega) (by omega) (by omega), eo 4 (by omega) (by omega) (by omega) (by omega) (by omega) (by omega) (by omega), eo 5 (by omega) (by omega) (by omega) (by omega) (by omega) (by omega) (by omega), eo 6 (by omega) (by omega) (by omega) (by omega) (by omega) (by omega) (by omega), eo 7 (by omega) (by omega) (by omega) (by omega) (by omega) (by omega) (by omega)]
    exact c
  · intro i p q
    rw [n80] at q
    by_cases z : i = t
    · rw [z, n9]
      show v 11 (sh 11 t) = c0
      rw [sh11]; exact u2
    · rw [k11 i z, o9 9 i (by omega) z]; exact d i p (by omega)
  · intro i p q
    rw [n81] at q
    by_cases z : i < c0
    · rw [k12 12 i (by omega) (by omega) z, k12 13 i (by omega) (by omega) z, k12 14 i (by omega) (by omega) z, o11 11 i (by omega) (by omega) z, o11 12 i (by omega) (by omega) z, o11 13 i (by omega) (by omega) z]
      exact e i p (by omega)
    · have y := h5 (i - c0) (by omega) (by omega)
      rw [show c0 + (i - c0) = i by omega] at y
      rw [nn 11 _ (by omega), nn 12 _ (by omega), nn 13 _ (by omega)]
      show v 12 (sh 12 i) = _ ∧ v 13 (sh 13 i) = _ ∧ v 14 (sh 14 i) = _
      rw [sh12 12 i (by omega) (by omega), sh12 13 i (by omega) (by omega), sh12 14 i (by omega) (by omega), y.1.1, y.1.2.2.1]
      exact y.2
  · exact r1.fr3 (fun c p q => kq c (by omega) (by omega) (by omega) (by omega) (by omega)) (eo 16 (by omega) (by omega) (by omega) (by omega) (by omega) (by omega) (by omega)) (eo 17 (by omega) (by omega) (by omega) (by omega) (by omega) (by omega) (by omega))
  · exact r2.fr3 (fun c p q => kq c (by omega) (by omega) (by omega) (by omega) (by omega)) (eo 18 (by omega) (by omega) (by omega) (by omega) (by omega) (by omega) (by omega)) (eo 19 (by omega) (by omega) (by omega) (by omega) (by omega) (by omega) (by omega))
  · exact r3.fr3 (fun c p q => kq c (by omega) (by omega) (by omega) (by omega) (by omega)) (eo 20 (by omega) (by omega) (by omega) (by omega) (by omega) (by omega) (by omega)) (eo 21 (by omega) (by omega) (by omega) (by omega) (by omega) (by omega) (by omega))
  · rw [f 46 7 (by unfold PSe Pk; omega)]; exact q4.1
  · rw [f 46 7 (by unfold PSe Pk; omega), g 0 24 (by unfold QSe Qk; omega)]; exact q4.2.1
  · rw [f 46 7 (by unfold PSe Pk; omega), e0, eo 1 (by omega) (by omega) (by omega) (by omega) (by omega) (by omega) (by omega)]; exact q4.2.2
  · unfold ONC
    rw [f 46 6 (by unfold PSe Pk; omega), g.rw1 (b := 3) (fun i => by unfold QSe Qk; omega)]; exact q5
  · exact ⟨by rw [g 0 49 (by unfold QSe Qk; omega), e0]; exact q6.1, q6.2.f g (by intro b i q; unfold QSe Qk; omega)⟩
end Q29
