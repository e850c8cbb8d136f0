section Q45
variable {m v : Mem} {S : Int} {D T : Nat}
theorem a_text (h : Rel m v) (x : Int) : Agr (G11_text m x) (G12_text v x) := by
  obtain ⟨T, hA, _, _, _, _, _, hT, _, _⟩ := h.all
  obtain ⟨⟨t1, t2, t3, t4⟩, _⟩ := hA
  obtain ⟨D, hDT⟩ : ∃ D : Nat, D + T = 26 := ⟨26 - T, by first | decide | omega⟩
  have hDD : D = 2 ∨ D = 24 := by omega
  have hD : (D : Int) = m 0 4 := by omega
  have p1 := hT.1
  have p2 := hT.2.1
  unfold G11_text G11_text_0 G12_text G12_text_0
  by_cases c1 : x < 0
  · rw [if_pos c1, wt_e, if_pos c1]
    exact ⟨-2, m, _, rfl, rfl, h.v0⟩
  · have e01 : up v 0 2 0 0 1 = m 0 1 := by rw [up_i (by first | decide | omega)]; exact p1.symm
    rw [if_neg c1]
    by_cases c2 : x ≤ m 0 1
    · rw [if_pos c2, wt_e, wt_e, if_neg c1, e01, if_pos c2, wt_e, wt_e, wt_e, wt_e, wt_e]
      have e04 : (up m 0 1 0 0 4).toNat = D := by rw [up_i (by first | decide | omega), ← hD]; exact Int.toNat_natCast _
      obtain ⟨mS, vS, w1, a1, a2, a3, a4, a5, a6, a7, a8, a9, a10, a11, a12, a13, a14, a15⟩ := t_begin (D := D) hDD hT ⟨by first | decide | omega, c2⟩
      unfold rb0 at a2
      rw [e04, a1, a2, bs1, a3, bs1]
      obtain ⟨m1, v1, b1, b2, k⟩ := l_all (S := x) (D := D) (by first | decide | omega) 701 1024 0 mS vS (by first | decide | omega) (by first | decide | omega) (by first | decide | omega) (by first | decide | omega) a8 a6 a7
      have F1 : Fm (PT D) m m1 := a4.tr (b1.mono PX_T)
      have G1 : Fm QT v v1 := a5.tr (b2.mono QX_T)
      have L1 : m1 0 1 = 0 ∧ v1 0 1 = 0 := ⟨by rw [b1 0 1 (by unfold PX; first | decide | omega)]; exact a10, by rw [b2 0 1 (by unfold QX; first | decide | omega)]; exact a11⟩
      rcases k with ⟨k1, k2, k3, k4⟩ | ⟨k1, k2, k3⟩
      · have hb : ∀ i, 3 ≤ i → i < 6 → v1 15 i = 0 ∨ v1 15 i = 1 := by
          obtain ⟨_, _, _, _, _, r1, r2, r3⟩ := k3.2.2.1
          have one : ∀ (k : Int) (a b : Nat), RLw (kd v1) (sl 21 m1 D) k a b → v1 15 (3 + k) = 0 ∨ v1 15 (3 + k) = 1 := by
            intro k a b r
            have z := r.1
            rw [sh15 (by first | decide | omega)] at z
            rw [z]; exact r.2.1
          intro i z1 z2
          rcases (show i = 3 + 0 ∨ i = 3 + 1 ∨ i = 3 + 2 by first | decide | omega) with e | e | e <;> rw [e]
          · exact one 0 16 17 r1
          · exact one 1 18 19 r2
          · exact one 2 20 21 r3
        obtain ⟨v2, c3, hk⟩ := r_keep hb
        obtain ⟨v3, c4, g3, d1, d2, d3⟩ := r_b2 5 1024 0 v2 (by first | decide | omega) (by first | decide | omega) (by first | decide | omega)
        have c4' : G12_begin v2 = some v3 := c4
        rw [k1, k2, c3, c4', bs1, bs1, bs1]
        simp only [if_neg i10]
        have m13 : (m1 0 3).toNat = T := by rw [F1 0 3 (by unfold PT PX; first | decide | omega), t2]; exact Int.toNat_natCast _
        have m14 : (m1 0 4).toNat = D := by rw [F1 0 4 (by unfold PT PX; first | decide | omega), ← hD]; exact Int.toNat_natCast _
        rw [m13, m14, wt_e, wt_e]
        have f2 : Fm (fun b i => b = 0 ∧ (i = 3 ∨ i = 4)) m1 (up (up m1 0 3 (D : Int)) 0 4 (T : Int)) := (Fm.w1 (by first | decide | omega)).w (by first | decide | omega)
        have q3 : up (up m1 0 3 (D : Int)) 0 4 (T : Int) 0 3 = (D : Int) := by rw [up_i (by first | decide | omega), up_e]
        have q4 : up (up m1 0 3 (D : Int)) 0 4 (T : Int) 0 4 = (T : Int) := up_e
        generalize up (up m1 0 3 (D : Int)) 0 4 (T : Int) = m2 at f2 q3 q4 ⊢
        have ew : sl 21 m2 D = sl 21 m1 D := sl_c (fun b x y => f2.rw1 (fun i => by first | decide | omega))
        unfold G11_beginAnew G11_beginAnew_0
        rw [q3, Int.toNat_natCast]
        obtain ⟨m3, e3, f3, o1, o2⟩ := c_told (m := m2) (D := D) hDD (by rw [ew]; exact k3.2.1)
        rw [ew] at o2
        have q33 : m3 0 3 = (D : Int) := by rw [f3 0 3 (by first | decide | omega)]; exact q3
        rw [e3, bs1, q33, Int.toNat_natCast]
        obtain ⟨m4, e4, f4, n0, n1, n6⟩ := c_begn (m := m3) (D := D) hDD
        rw [e4, bs1, wt_e, wt_e, wt_e, wt_e, bs1]
        have f5 : Fm (fun b i => b = 90 ∨ b = 96 ∨ (b = 0 ∧ i = 10)) m4 (up (up (up (up m4 90 0 0) 90 1 (-1)) 96 0 0) 0 10 0) := (((Fm.w1 (by first | decide | omega)).w (by first | decide | omega)).w (by first | decide | omega)).w (by first | decide | omega)
        have y0 : up (up (up (up m4 90 0 0) 90 1 (-1)) 96 0 0) 0 10 0 90 0 = 0 := by rw [up_a (by first | decide | omega), up_a (by first | decide | omega), up_i (by first | decide | omega), up_e]
        have y1 : up (up (up (up m4 90 0 0) 90 1 (-1)) 96 0 0) 0 10 0 90 1 = -1 := by rw [up_a (by first | decide | omega), up_a (by first | decide | omega), up_e]
        have y2 : up (up (up (up m4 90 0 0) 90 1 (-1)) 96 0 0) 0 10 0 96 0 = 0 := by rw [up_a (by first | decide | omega), up_e]
        have y3 : up (up (up (up m4 90 0 0) 90 1 (-1)) 96 0 0) 0 10 0 0 10 = 0 := up_e
        generalize up (up (up (up m4 90 0 0) 90 1 (-1)) 96 0 0) 0 10 0 = m5 at f5 y0 y1 y2 y3 ⊢
        have q53 : m5 0 3 = (D : Int) := by rw [f5 0 3 (by first | decide | omega), f4 0 3 (by first | decide | omega)]; exact q33
        have q54 : m5 0 4 = (T : Int) := by rw [f5 0 4 (by first | decide | omega), f4 0 4 (by first | decide | omega), f3 0 4 (by first | decide | omega)]; exact q4
        have e12 : m5 D 12 = m1 D 12 := by rw [f5 D 12 (by first | decide | omega), f4 D 12 (by first | decide | omega), f3 D 12 (by first | decide | omega), f2 D 12 (by first | decide | omega)]
        rw [q53, Int.toNat_natCast, e12]
        refine ⟨m1 D 12, m5, v3, rfl, rfl, ?_⟩
        refine Rel.anew (D := D) h hD F1 G1 L1 k4 k3 hk ?_ ⟨q53, by rw [q54]; first | decide | omega, y3, ?_⟩ ?_ ?_ ?_ ?_ ⟨y0, y1, y2⟩ g3 d1 d2 d3
        · exact ((f2.mono (by intro b i q; first | decide | omega)).tr (f3.mono (by intro b i q; first | decide | omega))).tr ((f4.mono (by intro b i q; first | decide | omega)).tr (f5.mono (by intro b i q; first | decide | omega)))
        · rw [f5 51 0 (by first | decide | omega), f4 51 0 (by first | decide | omega)]; exact o1
        · have eg : sl 3 m5 51 = sl 3 m3 51 := (sl_c (fun b x y => f5.rw1 (fun i => by first | decide | omega))).trans (sl_c (fun b x y => f4.rw1 (fun i => by first | decide | omega)))
          rw [eg]; exact o2
        · rw [f5 69 0 (by first | decide | omega), f5 69 1 (by first | decide | omega), f5 69 2 (by first | decide | omega), f5 69 3 (by first | decide | omega), f5 69 4 (by first | decide | omega)]
          have z1 : m3 D 9 = m1 D 9 := by rw [f3 D 9 (by first | decide | omega), f2 D 9 (by first | decide | omega)]
          have z2 : m3 D 10 = m1 D 10 := by rw [f3 D 10 (by first | decide | omega), f2 D 10 (by first | decide | omega)]
          rw [← z1, ← z2]; exact n0
        · intro i z1 z2
          have z3 : m3 (D + 3) i = m1 (D + 3) i := by rw [f3 (D + 3) i (by first | decide | omega), f2 (D + 3) i (by first | decide | omega)]
          rw [f5 70 i (by first | decide | omega), f5 71 i (by first | decide | omega), f5 72 i (by first | decide | omega), f5 73 i (by first | decide | omega), f5 74 i (by first | decide | omega), ← z3]
          exact n1 i z1 z2
        · intro i z1 z2
          rw [f5 75 i (by first | decide | omega)]; exact n6 i z1 z2
      · rw [k1, k2, bs1]
        simp only [if_true]
        exact ⟨-1, m1, v1, rfl, rfl, h.left (D := D) hD F1 G1 L1 k3⟩
    · rw [if_neg c2, wt_e, if_neg c1, e01, if_neg c2]
      exact ⟨-2, m, _, rfl, rfl, h.v0⟩
end Q45
