section Q29
variable {m v : Mem} {S : Int} {D : Nat}
/-- the draft behind a set's line -/
theorem di_set {m0 v0 : Mem} {x k t c0 : Int} (hD : DI m0 v0 D) (ht : t = m0 (D + 8) 0 ∧ t < 4) (hc : c0 = m0 (D + 8) 1 ∧ c0 + k ≤ 28) (hk : 1 ≤ k ∧ k ≤ 7) (hx : 0 ≤ x ∧ x ≤ 99) (hl : 0 < c0 → m0 (D + 11) (c0 - 1) < x) (h : SetI m0 v0 m v D x k t c0) (h21 : v 0 21 = t + 1) : DI m v D := by
  obtain ⟨f, g, ⟨s1, s2, s3, s4⟩, ⟨u1, u2⟩, h5⟩ := h
  obtain ⟨h1, ⟨hS, hC, hT, hV, hL⟩, ⟨⟨a1, a2, a3, a4, a5, a6⟩, b, c, d, e, r1, r2, r3⟩, q4, q5, q6⟩ := hD
  have hDD := h1.1
  have eS : sl 21 m0 D 8 0 = t := by rw [sl_e (by first | decide | omega)]; exact ht.1.symm
  have eC : sl 21 m0 D 8 1 = c0 := by rw [sl_e (by first | decide | omega)]; exact hc.1.symm
  have t0 : 0 ≤ t ∧ 0 ≤ c0 := by unfold WS at hS; omega
  have e0 : sl 21 m D 0 = sl 21 m0 D 0 := funext fun i => by rw [sl_e (Nat.zero_le _), sl_e (Nat.zero_le _)]; exact f D i (by unfold PSe Pk; first | decide | omega)
  have eo : ∀ c : Nat, c ≠ 8 → c ≠ 9 → c ≠ 10 → c ≠ 11 → c ≠ 12 → c ≠ 13 → c ≠ 14 → sl 21 m D c = sl 21 m0 D c := fun c z1 z2 z3 z4 z5 z6 z7 => by
    funext i
    by_cases c21 : c ≤ 21
    · rw [sl_e c21, sl_e c21]; exact f (D + c) i (by unfold PSe Pk; first | decide | omega)
    · unfold sl; rw [if_neg c21, if_neg c21]
  have n80 : sl 21 m D 8 0 = t + 1 := by rw [sl_e (by first | decide | omega)]; exact s1
  have n81 : sl 21 m D 8 1 = c0 + k := by rw [sl_e (by first | decide | omega)]; exact s2
  have n9 : sl 21 m D 9 t = c0 := by rw [sl_e (by first | decide | omega)]; exact s3
  have n10 : sl 21 m D 10 t = k := by rw [sl_e (by first | decide | omega)]; exact s4
  have o9 : ∀ (c : Nat) i, c = 9 ∨ c = 10 → i ≠ t → sl 21 m D c i = sl 21 m0 D c i := fun c i p q => by rw [sl_e (by first | decide | omega), sl_e (by first | decide | omega)]; exact f (D + c) i (by unfold PSe Pk; first | decide | omega)
  have o11 : ∀ (c : Nat) i, 11 ≤ c → c ≤ 14 → i < c0 → sl 21 m D c i = sl 21 m0 D c i := fun c i p q r => by rw [sl_e (by first | decide | omega), sl_e (by first | decide | omega)]; exact f (D + c) i (by unfold PSe Pk; first | decide | omega)
  have nn : ∀ (c : Nat) i, c ≤ 21 → sl 21 m D c i = m (D + c) i := fun c i q => sl_e q i
  have k0 : ∀ i, i + 6 ≠ 21 → i + 6 ≠ 22 → ¬ Qk 0 (i + 6) → kd v 0 i = kd v0 0 i := fun i p q s => by
    show v 0 (i + 6) = v0 0 (i + 6)
    exact g 0 _ (by unfold QSe; rintro (z | z | z | z); exact s z; omega; omega; first | decide | omega)
  have kq : ∀ c : Nat, 1 ≤ c → c ≠ 11 → c ≠ 12 → c ≠ 13 → c ≠ 14 → kd v c = kd v0 c := fun c z0 z1 z2 z3 z4 => funext fun i => g c _ (by unfold QSe Qk; first | decide | omega)
  have sh11 : ∀ i, sh 11 i = 4 + i := fun i => by unfold sh; rw [if_neg (by first | decide | omega), if_neg (by first | decide | omega), if_neg (by first | decide | omega), if_pos (by first | decide | omega)]
  have sh12 : ∀ (c : Nat) i, 12 ≤ c → c ≤ 14 → sh c i = 28 + i := fun c i p q => by unfold sh; rw [if_neg (by first | decide | omega), if_neg (by first | decide | omega), if_neg (by first | decide | omega), if_neg (by first | decide | omega), if_pos (by first | decide | omega)]
  have k11 : ∀ i, i ≠ t → kd v 11 i = kd v0 11 i := fun i p => by show v 11 (sh 11 i) = v0 11 (sh 11 i); rw [sh11]; exact g 11 _ (by unfold QSe Qk; first | decide | omega)
  have k12 : ∀ (c : Nat) i, 12 ≤ c → c ≤ 14 → i < c0 → kd v c i = kd v0 c i := fun c i p q r => by show v c (sh c i) = v0 c (sh c i); rw [sh12 c i p q]; exact g c _ (by unfold QSe Qk; first | decide | omega)
  have n11 : ∀ j, 0 ≤ j → j < k → sl 21 m D 11 (c0 + j) = x + j := fun j p q => by rw [nn 11 _ (by first | decide | omega)]; exact (h5 j p q).1.1
  refine ⟨⟨hDD, by rw [f 46 10 (by unfold PSe Pk; first | decide | omega)]; exact h1.2⟩, ⟨?_, ?_, ?_, ?_, ?_⟩, ⟨⟨?_, ?_, ?_, ?_, ?_, ?_⟩, ?_, ?_, ?_, ?_, ?_, ?_, ?_⟩, ⟨?_, ?_, ?_⟩, ?_, ?_⟩
  · unfold WS at hS ⊢
    rw [e0, eo 1 (by first | decide | omega) (by first | decide | omega) (by first | decide | omega) (by first | decide | omega) (by first | decide | omega) (by first | decide | omega) (by first | decide | omega), n80, n81]
    omega
  · unfold WC
    rw [e0, eo 1 (by first | decide | omega) (by first | decide | omega) (by first | decide | omega) (by first | decide | omega) (by first | decide | omega) (by first | decide | omega) (by first | decide | omega), eo 3 (by first | decide | omega) (by first | decide | omega) (by first | decide | omega) (by first | decide | omega) (by first | decide | omega) (by first | decide | omega) (by first | decide | omega), eo 4 (by first | decide | omega) (by first | decide | omega) (by first | decide | omega) (by first | decide | omega) (by first | decide | omega) (by first | decide | omega) (by first | decide | omega), eo 5 (by first | decide | omega) (by first | decide | omega) (by first | decide | omega) (by first | decide | omega) (by first | decide | omega) (by first | decide | omega) (by first | decide | omega), eo 6 (by first | decide | omega) (by first | decide | omega) (by first | decide | omega) (by first | decide | omega) (by first | decide | omega) (by first | decide | omega) (by first | decide | omega), eo 7 (by first | decide | omega) (by first | decide | omega) (by first | decide | omega) (by first | decide | omega) (by first | decide | omega) (by first | decide | omega) (by first | decide | omega)]
    exact hC
  · obtain ⟨w1, w2, w3⟩ := hT
    rw [eS] at w1 w2 w3
    rw [eC] at w1 w3
    refine ⟨fun q => by rw [n80] at q; first | decide | omega, fun _ => ?_, fun i p q => ?_⟩
    · by_cases z : t = 0
      · rw [show (0 : Int) = t from z.symm, n9, w1 z]; exact z.symm
      · rw [o9 9 0 (by first | decide | omega) (by first | decide | omega)]; exact w2 (by first | decide | omega)
    · rw [n80] at q
      rw [n80, n81]
      by_cases z : i = t
      · subst z
        rw [n9, n10]
        exact ⟨t0.2, hk.1, hk.2, by first | decide | omega, fun y => by first | decide | omega, fun _ => rfl⟩
      · obtain ⟨y1, y2, y3, y4, y5, y6⟩ := w3 i p (by first | decide | omega)
        rw [o9 9 i (by first | decide | omega) z, o9 10 i (by first | decide | omega) z]
        refine ⟨y1, y2, y3, by first | decide | omega, fun y => ?_, fun y => by first | decide | omega⟩
        by_cases z2 : i + 1 = t
        · rw [z2, n9]; exact (y6 z2).symm
        · rw [o9 9 (i + 1) (by first | decide | omega) z2]; exact y5 (by first | decide | omega)
  · intro i p q
    rw [n81] at q
    rw [n80, n81]
    have hi : i + 1 < c0 + k → sl 21 m D 11 i < sl 21 m D 11 (i + 1) := by
      intro y
      by_cases z : i < c0
      · by_cases z2 : i + 1 < c0
        · rw [o11 11 i (by first | decide | omega) (by first | decide | omega) z, o11 11 (i + 1) (by first | decide | omega) (by first | decide | omega) z2]
          exact (hV i p (by rw [eC]; exact z)).2.2 (by rw [eC]; exact z2)
        · have z3 := hl (by first | decide | omega)
          have z4 := n11 0 (by first | decide | omega) (by first | decide | omega)
          rw [show i + 1 = c0 + 0 by first | decide | omega, z4, o11 11 i (by first | decide | omega) (by first | decide | omega) z, sl_e (by first | decide | omega), show i = c0 - 1 by first | decide | omega]
          omega
      · have z1 := n11 (i - c0) (by first | decide | omega) (by first | decide | omega)
        have z2 := n11 (i + 1 - c0) (by first | decide | omega) (by first | decide | omega)
        rw [show c0 + (i - c0) = i by first | decide | omega] at z1
        rw [show c0 + (i + 1 - c0) = i + 1 by first | decide | omega] at z2
        omega
    by_cases z : i < c0
    · obtain ⟨⟨y1, y2, y3, y4, y5, y6⟩, y7, _⟩ := hV i p (by rw [eC]; exact z)
      rw [eS] at y2
      obtain ⟨w1, w2, w3⟩ := hT
      have y8 := w3 (sl 21 m0 D 13 i) y1 (by rw [eS]; exact y2)
      rw [eC] at y8
      rw [o11 13 i (by first | decide | omega) (by first | decide | omega) z, o9 9 _ (by first | decide | omega) (by first | decide | omega), o9 10 _ (by first | decide | omega) (by first | decide | omega), o11 14 i (by first | decide | omega) (by first | decide | omega) z, o11 12 i (by first | decide | omega) (by first | decide | omega) z, o11 11 (sl 21 m0 D 9 (sl 21 m0 D 13 i)) (by first | decide | omega) (by first | decide | omega) (by first | decide | omega)]
      refine ⟨⟨y1, by first | decide | omega, y3, y4, y5, ?_⟩, ?_, hi⟩
      · rw [o11 11 i (by first | decide | omega) (by first | decide | omega) z]; exact y6
      · rw [o11 11 i (by first | decide | omega) (by first | decide | omega) z]; exact y7
    · have y := (h5 (i - c0) (by first | decide | omega) (by first | decide | omega)).1
      rw [show c0 + (i - c0) = i by first | decide | omega] at y
      rw [← nn 11 _ (by first | decide | omega), ← nn 12 _ (by first | decide | omega), ← nn 13 _ (by first | decide | omega), ← nn 14 _ (by first | decide | omega)] at y
      have y0 := n11 0 (by first | decide | omega) (by first | decide | omega)
      rw [Int.add_zero] at y0
      rw [y.2.2.1, n9, n10, y0]
      refine ⟨⟨t0.1, by first | decide | omega, by first | decide | omega, by first | decide | omega, by first | decide | omega, by first | decide | omega⟩, by first | decide | omega, hi⟩
  · unfold WLX
    rw [eo 16 (by first | decide | omega) (by first | decide | omega) (by first | decide | omega) (by first | decide | omega) (by first | decide | omega) (by first | decide | omega) (by first | decide | omega), eo 17 (by first | decide | omega) (by first | decide | omega) (by first | decide | omega) (by first | decide | omega) (by first | decide | omega) (by first | decide | omega) (by first | decide | omega), eo 18 (by first | decide | omega) (by first | decide | omega) (by first | decide | omega) (by first | decide | omega) (by first | decide | omega) (by first | decide | omega) (by first | decide | omega), eo 19 (by first | decide | omega) (by first | decide | omega) (by first | decide | omega) (by first | decide | omega) (by first | decide | omega) (by first | decide | omega) (by first | decide | omega), eo 20 (by first | decide | omega) (by first | decide | omega) (by first | decide | omega) (by first | decide | omega) (by first | decide | omega) (by first | decide | omega) (by first | decide | omega), eo 21 (by first | decide | omega) (by first | decide | omega) (by first | decide | omega) (by first | decide | omega) (by first | decide | omega) (by first | decide | omega) (by first | decide | omega)]; exact hL
  · rw [k0 12 (by first | decide | omega) (by first | decide | omega) (by unfold Qk; first | decide | omega), e0]; exact a1
  · rw [k0 13 (by first | decide | omega) (by first | decide | omega) (by unfold Qk; first | decide | omega), e0]; exact a2
  · rw [k0 14 (by first | decide | omega) (by first | decide | omega) (by unfold Qk; first | decide | omega), eo 1 (by first | decide | omega) (by first | decide | omega) (by first | decide | omega) (by first | decide | omega) (by first | decide | omega) (by first | decide | omega) (by first | decide | omega)]; exact a3
  · rw [n80]; exact h21
  · rw [n81]; exact u1
  · rw [k0 17 (by first | decide | omega) (by first | decide | omega) (by unfold Qk; first | decide | omega), e0]; exact a6
  · rw [kq 4 (by first | decide | omega) (by first | decide | omega) (by first | decide | omega) (by first | decide | omega) (by first | decide | omega), e0]; exact b
  · rw [kq 5 (by first | decide | omega) (by first | decide | omega) (by first | decide | omega) (by first | decide | omega) (by first | decide | omega), kq 6 (by first | decide | omega) (by first | decide | omega) (by first | decide | omega) (by first | decide | omega) (by first | decide | omega), kq 7 (by first | decide | omega) (by first | decide | omega) (by first | decide | omega) (by first | decide | omega) (by first | decide | omega), kq 8 (by first | decide | omega) (by first | decide | omega) (by first | decide | omega) (by first | decide | omega) (by first | decide | omega), kq 9 (by first | decide | omega) (by first | decide | omega) (by first | decide | omega) (by first | decide | omega) (by first | decide | omega), kq 10 (by first | decide | omega) (by first | decide | omega) (by first | decide | omega) (by first | decide | omega) (by first | decide | omega), eo 1 (by first | decide | omega) (by first | decide | omega) (by first | decide | omega) (by first | decide | omega) (by first | decide | omega) (by first | decide | omega) (by first | decide | omega), eo 2 (by first | decide | omega) (by first | decide | omega) (by first | decide | omega) (by first | decide | omega) (by first | decide | omega) (by first | decide | omega) (by first | decide | omega), eo 3 (by first | decide | omega) (by first | decide | omega) (by first | decide | omega) (by first | decide | omega) (by first | decide | omega) (by first | decide | omega) (by first | decide | omega), eo 4 (by first | decide | omega) (by first | decide | omega) (by first | decide | omega) (by first | decide | omega) (by first | decide | omega) (by first | decide | omega) (by first | decide | omega), eo 5 (by first | decide | omega) (by first | decide | omega) (by first | decide | omega) (by first | decide | omega) (by first | decide | omega) (by first | decide | omega) (by first | decide | omega), eo 6 (by first | decide | omega) (by first | decide | omega) (by first | decide | omega) (by first | decide | omega) (by first | decide | omega) (by first | decide | omega) (by first | decide | omega), eo 7 (by first | decide | omega) (by first | decide | omega) (by first | decide | omega) (by first | decide | omega) (by first | decide | omega) (by first | decide | omega) (by first | decide | omega)]
    exact c
  · intro i p q
    rw [n80] at q
    by_cases z : i = t
    · rw [z, n9]
      show v 11 (sh 11 t) = c0
      rw [sh11]; exact u2
    · rw [k11 i z, o9 9 i (by first | decide | omega) z]; exact d i p (by first | decide | omega)
  · intro i p q
    rw [n81] at q
    by_cases z : i < c0
    · rw [k12 12 i (by first | decide | omega) (by first | decide | omega) z, k12 13 i (by first | decide | omega) (by first | decide | omega) z, k12 14 i (by first | decide | omega) (by first | decide | omega) z, o11 11 i (by first | decide | omega) (by first | decide | omega) z, o11 12 i (by first | decide | omega) (by first | decide | omega) z, o11 13 i (by first | decide | omega) (by first | decide | omega) z]
      exact e i p (by first | decide | omega)
    · have y := h5 (i - c0) (by first | decide | omega) (by first | decide | omega)
      rw [show c0 + (i - c0) = i by first | decide | omega] at y
      rw [nn 11 _ (by first | decide | omega), nn 12 _ (by first | decide | omega), nn 13 _ (by first | decide | omega)]
      show v 12 (sh 12 i) = _ ∧ v 13 (sh 13 i) = _ ∧ v 14 (sh 14 i) = _
      rw [sh12 12 i (by first | decide | omega) (by first | decide | omega), sh12 13 i (by first | decide | omega) (by first | decide | omega), sh12 14 i (by first | decide | omega) (by first | decide | omega), y.1.1, y.1.2.2.1]
      exact y.2
  · exact r1.fr3 (fun c p q => kq c (by first | decide | omega) (by first | decide | omega) (by first | decide | omega) (by first | decide | omega) (by first | decide | omega)) (eo 16 (by first | decide | omega) (by first | decide | omega) (by first | decide | omega) (by first | decide | omega) (by first | decide | omega) (by first | decide | omega) (by first | decide | omega)) (eo 17 (by first | decide | omega) (by first | decide | omega) (by first | decide | omega) (by first | decide | omega) (by first | decide | omega) (by first | decide | omega) (by first | decide | omega))
  · exact r2.fr3 (fun c p q => kq c (by first | decide | omega) (by first | decide | omega) (by first | decide | omega) (by first | decide | omega) (by first | decide | omega)) (eo 18 (by first | decide | omega) (by first | decide | omega) (by first | decide | omega) (by first | decide | omega) (by first | decide | omega) (by first | decide | omega) (by first | decide | omega)) (eo 19 (by first | decide | omega) (by first | decide | omega) (by first | decide | omega) (by first | decide | omega) (by first | decide | omega) (by first | decide | omega) (by first | decide | omega))
  · exact r3.fr3 (fun c p q => kq c (by first | decide | omega) (by first | decide | omega) (by first | decide | omega) (by first | decide | omega) (by first | decide | omega)) (eo 20 (by first | decide | omega) (by first | decide | omega) (by first | decide | omega) (by first | decide | omega) (by first | decide | omega) (by first | decide | omega) (by first | decide | omega)) (eo 21 (by first | decide | omega) (by first | decide | omega) (by first | decide | omega) (by first | decide | omega) (by first | decide | omega) (by first | decide | omega) (by first | decide | omega))
  · rw [f 46 7 (by unfold PSe Pk; first | decide | omega)]; exact q4.1
  · rw [f 46 7 (by unfold PSe Pk; first | decide | omega), g 0 24 (by unfold QSe Qk; first | decide | omega)]; exact q4.2.1
  · rw [f 46 7 (by unfold PSe Pk; first | decide | omega), e0, eo 1 (by first | decide | omega) (by first | decide | omega) (by first | decide | omega) (by first | decide | omega) (by first | decide | omega) (by first | decide | omega) (by first | decide | omega)]; exact q4.2.2
  · unfold ONC
    rw [f 46 6 (by unfold PSe Pk; first | decide | omega), g.rw1 (b := 3) (fun i => by unfold QSe Qk; first | decide | omega)]; exact q5
  · exact ⟨by rw [g 0 49 (by unfold QSe Qk; first | decide | omega), e0]; exact q6.1, q6.2.f g (by intro b i q; unfold QSe Qk; first | decide | omega)⟩
end Q29
