section Q31
variable {m v : Mem} {S : Int} {D : Nat}
theorem l_set (hD : DI m v D) (h : PostR m v S) : LOut (G5_readSet m) ((G12_setLine v).bind fun o => G12_lineRead_197 o.2 o.1) m v D S := by
  have hDD := hD.1.1
  have hN := hD.n
  have e21 : v 0 21 = m (D + 8) 0 := hN.2.2.2.1
  have e22 : v 0 22 = m (D + 8) 1 := hN.2.2.2.2.1
  have e80 : sl 21 m D 8 0 = m (D + 8) 0 := sl_e (by first | decide | omega) _
  have e81 : sl 21 m D 8 1 = m (D + 8) 1 := sl_e (by first | decide | omega) _
  obtain ⟨hS, _, hT, hV, _⟩ := hD.2.1
  have hb : 0 ≤ m (D + 8) 0 ∧ m (D + 8) 0 ≤ 4 ∧ 0 ≤ m (D + 8) 1 := by
    have h1 := hS
    unfold WS at h1
    omega
  unfold G5_readSet G5_readSet_0 G12_setLine G12_setLine_0
  rw [hD.1.2, Int.toNat_natCast, e21]
  by_cases c0 : m (D + 8) 0 < 4
  · rw [if_pos c0, if_neg (show ¬ m (D + 8) 0 = 4 by first | decide | omega)]
    obtain ⟨v2, z1, z2, p2⟩ := h.tok
    rw [z1, bs1]
    obtain ⟨m3, v3, f3, g3, q3, k3⟩ := n_in p2 (lo := 0) (hi := 99) (by first | decide | omega)
    have G3 : Fm Qk v v3 := (z2.mono Q7_k).tr g3
    have hD3 : DI m3 v3 D := hD.k f3 G3
    refine lo_tr (m1 := m3) (v1 := v3) ?_ (f3.mono Pk_x) (G3.mono Qk_x) q3 (f3 D 12 (by unfold Pk; first | decide | omega))
    rcases k3 with ⟨x, x1, x2, a1, a2, a3, p3, a5⟩ | ⟨a1, a2, a3⟩
    · have r80 : m3 (D + 8) 0 = m (D + 8) 0 := f3 _ _ (by unfold Pk; first | decide | omega)
      have r81 : m3 (D + 8) 1 = m (D + 8) 1 := f3 _ _ (by unfold Pk; first | decide | omega)
      have e22' : v3 0 22 = m (D + 8) 1 := by rw [G3 0 22 (by unfold Qk; first | decide | omega)]; exact e22
      rw [a1, a2, bs1, bs1]
      simp only [if_neg i10, if_neg (show ¬ x = -1 by first | decide | omega), r80, e22']
      by_cases c1 : m (D + 8) 0 ≤ 0
      · have hz := hT.1 (by first | decide | omega)
        rw [if_pos c1, if_pos (show m (D + 8) 1 ≤ 0 by first | decide | omega)]
        exact l_64 hD3 (by first | decide | omega) ⟨x1, x2⟩ (fun q => by first | decide | omega) a3 p3
      · have hl := w_last hS hT hV (by first | decide | omega)
        rw [e80, e81] at hl
        obtain ⟨l1, l2, l3, l4, l5, l6, l7, l8⟩ := hl
        have hd : ∀ (c : Nat) i, c ≤ 21 → sl 21 m D c i = m (D + c) i := fun c i q => sl_e q i
        have e9 : m3 (D + 8) 0 = m (D + 8) 0 := r80
        have ht : TX m3 D (sl 21 m3 D) := ⟨hDD, fun i => (sl_e (Nat.zero_le _) i).symm, fun c i q => (sl_e q i).symm⟩
        have es : ∀ (c : Nat), sl 21 m3 D c = sl 21 m D c := fun c => by rw [sl_c (fun b x y => f3.rw1 (fun i => by unfold Pk; first | decide | omega))]
        have glm := g_lm (t := m (D + 8) 0 - 1) ht (by first | decide | omega) (by rw [es 9]; first | decide | omega) (by rw [es 10]; first | decide | omega) (by rw [es 9, es 11]; first | decide | omega)
        rw [es 9, es 10, es 11] at glm
        have e12 : v3 12 (28 + m (D + 8) 1 - 1) = m (D + 11) (m (D + 8) 1 - 1) := by
          have z := (hD.2.2.1.2.2.2.2.1 (m (D + 8) 1 - 1) (by first | decide | omega) (by first | decide | omega)).1
          have z' : v 12 (28 + (m (D + 8) 1 - 1)) = sl 21 m D 11 (m (D + 8) 1 - 1) := z
          rw [hd 11 _ (by first | decide | omega)] at z'
          rw [G3 12 _ (by unfold Qk; first | decide | omega), show 28 + m (D + 8) 1 - 1 = 28 + (m (D + 8) 1 - 1) by first | decide | omega]
          exact z'
        have r11 : m3 (D + 11) (m (D + 8) 1 - 1) = m (D + 11) (m (D + 8) 1 - 1) := f3 _ _ (by unfold Pk; first | decide | omega)
        rw [hd 11 (m (D + 8) 1 - 1) (by first | decide | omega)] at l6
        rw [if_neg c1, if_neg (show ¬ m (D + 8) 1 ≤ 0 by first | decide | omega), gd3_t (by first | decide | omega), glm, bs1]
        dsimp only
        rw [gdx_t (by unfold WS at hS; first | decide | omega), e12, a3, ← l6]
        by_cases c2 : m (D + 11) (m (D + 8) 1 - 1) < x
        · rw [if_pos c2, if_pos c2]
          exact l_64 hD3 (by first | decide | omega) ⟨x1, x2⟩ (fun q => by rw [r81, r11]; exact c2) a3 p3
        · rw [if_neg c2, if_neg c2, wt_e, c_ref, bs1, gdb_t (by first | decide | omega), r_wrong, bs1, gdb_t (by first | decide | omega), bs1]
          dsimp only
          rw [r197, up_e]
          have g5 : Fm QX v3 (up v3 0 10 (v2 0 10)) := Fm.w1 (by unfold QX; first | decide | omega)
          obtain ⟨y1, y2, y3⟩ := flt m3 (up v3 0 10 (v2 0 10)) 5 a5
          exact lo_fltx ⟨_, _, y2.mono Pk_x, g5.tr (y3.mono Qk_x), by rw [up_a (by first | decide | omega), up_a (by first | decide | omega)]; first | decide | omega, rfl, rfl, y1⟩
    · rw [a1, a2, bs1, bs1]
      simp only [if_true, bs1, r197]
      exact ⟨m3, v3, Fm.rf, Fm.rf, by first | decide | omega, Or.inr ⟨rfl, rfl, a3⟩⟩
  · rw [if_neg c0, if_pos (show m (D + 8) 0 = 4 by first | decide | omega), c_ref, bs1, r_wrong, bs1, gdb_t (by first | decide | omega), gdb_t (by first | decide | omega), bs1]
    dsimp only
    rw [r197]
    exact lo_ref h 2 rfl rfl
end Q31
