/-! The line of a set on both sides: the line. -/
section Q31
variable {m v : Mem} {S : Int} {D : Nat}
/-- where the last set's last wave is -/
theorem w_last {w : Mem} (hS : WS w) (hT : WT w) (hV : WV w) (h : 0 < w 8 0) : (1 ≤ w 8 1 ∧ w 8 1 ≤ 7 * w 8 0) ∧ w 9 (w 8 0 - 1) + w 10 (w 8 0 - 1) = w 8 1 ∧ 1 ≤ w 10 (w 8 0 - 1) ∧ w 10 (w 8 0 - 1) ≤ 7 ∧ 0 ≤ w 9 (w 8 0 - 1) ∧ w 11 (w 8 1 - 1) = w 11 (w 9 (w 8 0 - 1)) + w 10 (w 8 0 - 1) - 1 ∧ 0 ≤ w 11 (w 9 (w 8 0 - 1)) ∧ w 11 (w 9 (w 8 0 - 1)) ≤ 105 := by
  obtain ⟨t1, t2, t3⟩ := hT
  have hs4 : w 8 0 ≤ 4 := by unfold WS at hS; omega
  have hn := t3 (w 8 0 - 1) (by omega) (by omega)
  have en := hn.2.2.2.2.2 (by omega)
  have h7 : w 9 (w 8 0 - 1) ≤ 7 * (w 8 0 - 1) := by
    have z0 := t2 h
    have z1 := t3 0 (by omega) h
    have z2 := fun q => t3 1 (by omega) q
    have z3 := fun q => t3 2 (by omega) q
    have hh : w 8 0 = 1 ∨ w 8 0 = 2 ∨ w 8 0 = 3 ∨ w 8 0 = 4 := by omega
    rw [show (0 : Int) + 1 = 1 by omega] at z1
    rcases hh with e | e | e | e
    · rw [e, show (1 : Int) - 1 = 0 by omega]; omega
    · rw [e, show (2 : Int) - 1 = 1 by omega]
      have := z1.2.2.2.2.1 (by omega)
      omega
    · rw [e, show (3 : Int) - 1 = 2 by omega]
      have a1 := z1.2.2.2.2.1 (by omega)
      have a2 := z2 (by omega)
      rw [show (1 : Int) + 1 = 2 by omega] at a2
      have a3 := a2.2.2.2.2.1 (by omega)
      omega
    · rw [e, show (4 : Int) - 1 = 3 by omega]
      have a1 := z1.2.2.2.2.1 (by omega)
      have a2 := z2 (by omega)
      rw [show (1 : Int) + 1 = 2 by omega] at a2
      have a3 := a2.2.2.2.2.1 (by omega)
      have a4 := z3 (by omega)
      rw [show (2 : Int) + 1 = 3 by omega] at a4
      have a5 := a4.2.2.2.2.1 (by omega)
      omega
  have hb := hV (w 8 1 - 1) (by omega) (by omega)
  obtain ⟨⟨b1, b2, b3, b4, b5, b6⟩, _⟩ := hb
  have e13 : w 13 (w 8 1 - 1) = w 8 0 - 1 := by
    generalize w 13 (w 8 1 - 1) = s at b1 b2 b3 b4 b5 b6 ⊢
    apply Classical.byContradiction
    intro ne
    have s1 := t3 s b1 b2
    have s2 := s1.2.2.2.2.1 (by omega)
    by_cases c1 : s + 1 = w 8 0 - 1
    · rw [c1] at s2; omega
    · have s3 := t3 (s + 1) (by omega) (by omega)
      have s4 := s3.2.2.2.2.1 (by omega)
      by_cases c2 : s + 1 + 1 = w 8 0 - 1
      · rw [c2] at s4; omega
      · have s5 := t3 (s + 1 + 1) (by omega) (by omega)
        have s6 := s5.2.2.2.2.1 (by omega)
        rw [show s + 1 + 1 + 1 = w 8 0 - 1 by omega] at s6
        omega
  rw [e13] at b6
  have hf := (hV (w 9 (w 8 0 - 1)) (by omega) (by omega)).2.1
  exact ⟨by omega, en, by omega, by omega, by omega, by omega, by omega, by omega⟩
theorem l_64 {x : Int} (hD : DI m v D) (ht : m (D + 8) 0 < 4) (hx : 0 ≤ x ∧ x ≤ 99) (hl : 0 < m (D + 8) 1 → m (D + 11) (m (D + 8) 1 - 1) < x) (e11 : v 0 11 = x) (p : PreR m v S) : LOut (G5_readSet_64 m (D + 8) x) ((G12_setLine_74 v).bind fun o => G12_lineRead_197 o.2 o.1) m v D S := by
  have hDD := hD.1.1
  have hN := hD.n
  have e80 : sl 21 m D 8 0 = m (D + 8) 0 := sl_e (by omega) _
  have e81 : sl 21 m D 8 1 = m (D + 8) 1 := sl_e (by omega) _
  have hb : 0 ≤ m (D + 8) 0 ∧ 0 ≤ m (D + 8) 1 ∧ m (D + 8) 1 + 7 ≤ 28 := by
    obtain ⟨hS, _, hT, hV, _⟩ := hD.2.1
    have h1 := hS
    unfold WS at h1
    by_cases c : 0 < sl 21 m D 8 0
    · have := (w_last hS hT hV c).1
      omega
    · have := hT.1 (by omega)
      omega
  have e21 : v 0 21 = m (D + 8) 0 := hN.2.2.2.1
  have e22 : v 0 22 = m (D + 8) 1 := hN.2.2.2.2.1
  unfold G5_readSet_64 G12_setLine_74
  rw [c_bset ⟨hb.1, ht⟩, bs1]
  have f1 : Fm (PSe D (m (D + 8) 0) (m (D + 8) 1)) m (up (up (up m (D + 8 + 1) (m (D + 8) 0) (m (D + 8) 1)) (D + 8 + 2) (m (D + 8) 0) 0) (D + 8) 0 (m (D + 8) 0 + 1)) := ((Fm.w1 (by unfold PSe; omega)).w (by unfold PSe; omega)).w (by unfold PSe; omega)
  have q1 : up (up (up m (D + 8 + 1) (m (D + 8) 0) (m (D + 8) 1)) (D + 8 + 2) (m (D + 8) 0) 0) (D + 8) 0 (m (D + 8) 0 + 1) (D + 8) 0 = m (D + 8) 0 + 1 := up_e
  have q2 : up (up (up m (D + 8 + 1) (m (D + 8) 0) (m (D + 8) 1)) (D + 8 + 2) (m (D + 8) 0) 0) (D + 8) 0 (m (D + 8) 0 + 1) (D + 8) 1 = m (D + 8) 1 := by rw [up_i (by omega), up_a (by omega), up_a (by omega)]
  have q3 : up (up (up m (D + 8 + 1) (m (D + 8) 0) (m (D + 8) 1)) (D + 8 + 2) (m (D + 8) 0) 0) (D + 8) 0 (m (D + 8) 0 + 1) (D + 9) (m (D + 8) 0) = m (D + 8) 1 := by rw [up_a (by omega), up_a (by omega), up_e]
  have q4 : up (up (up m (D + 8 + 1) (m (D + 8) 0) (m (D + 8) 1)) (D + 8 + 2) (m (D + 8) 0) 0) (D + 8) 0 (m (D + 8) 0 + 1) (D + 10) (m (D + 8) 0) = 0 := by rw [up_a (by omega), up_e]
  have q5 : up (up (up m (D + 8 + 1) (m (D + 8) 0) (m (D + 8) 1)) (D + 8 + 2) (m (D + 8) 0) 0) (D + 8) 0 (m (D + 8) 0 + 1) 47 3 = m 47 3 := by rw [up_a (by omega), up_a (by omega), up_a (by omega)]
  have q6 : up (up (up m (D + 8 + 1) (m (D + 8) 0) (m (D + 8) 1)) (D + 8 + 2) (m (D + 8) 0) 0) (D + 8) 0 (m (D + 8) 0 + 1) D 12 = m D 12 := by rw [up_a (by omega), up_a (by omega), up_a (by omega)]
  have p1 : PreR (up (up (up m (D + 8 + 1) (m (D + 8) 0) (m (D + 8) 1)) (D + 8 + 2) (m (D + 8) 0) 0) (D + 8) 0 (m (D + 8) 0 + 1)) v S := p.f (P := fun b i => D ≤ b ∧ b ≤ D + 21) (Q := fun _ _ => False) (((Fm.w1 (by omega)).w (by omega)).w (by omega)) Fm.rf (by intro b i q; omega) (fun b i _ => id)
  generalize up (up (up m (D + 8 + 1) (m (D + 8) 0) (m (D + 8) 1)) (D + 8 + 2) (m (D + 8) 0) 0) (D + 8) 0 (m (D + 8) 0 + 1) = m1 at f1 q1 q2 q3 q4 q5 q6 p1 ⊢
  by_cases c : v 0 8 = 3
  · rw [if_pos c, e21, gdx_t (by omega), e22, e11, wt_e]
    have p2 : PreR m1 (up v 11 (4 + m (D + 8) 0) (m (D + 8) 1)) S := p1.f (P := fun _ _ => False) (Q := fun b i => b = 11) Fm.rf (Fm.w1 rfl) (fun b i _ => id) (by intro b i q; omega)
    have hS : SetI m v m1 (up v 11 (4 + m (D + 8) 0) (m (D + 8) 1)) D x 0 (m (D + 8) 0) (m (D + 8) 1) := by
      refine ⟨f1, Fm.w1 (by unfold QSe; omega), ⟨q1, by rw [q2]; omega, q3, q4⟩, ⟨by rw [up_a (by omega), e22]; omega, up_e⟩, fun j a b => by omega⟩
    exact lo_tr (l_waves hD ⟨rfl, hb.1, ht⟩ ⟨rfl, hb.2.1, hb.2.2⟩ hx hl 7 1024 0 m1 _ (by omega) (by omega) (by omega) (by omega) (fun _ => by rw [up_a (by omega)]; exact c) (by rw [up_a (by omega)]; exact e21) hS p2) (f1.mono PSe_x) (Fm.w1 (by unfold QX; omega)) (by omega) q6
  · rw [if_neg c, r_wrong, bs1, gdb_t (by omega), bs1]
    dsimp only
    rw [r197]
    obtain ⟨m2, e1, f2, h1', p2, _⟩ := p1.adv
    have hk := h1'.2.2.2.2.2.2.2
    have c2 : ¬ m2 47 4 = 25 := by unfold KR SGN NumR at hk; omega
    rw [show (1024 : Nat) = 1023 + 1 from rfl, G5_readSet_70, if_neg (by omega), e1, bs1, if_pos (show (0 : Int) ≤ 0 by omega)]
    unfold G5_readSet_101 G5_takenNumber G5_takenNumber_0
    rw [if_neg c2, c_ref, bs1, bs1]
    simp only [if_true]
    exact lo_tr (lo_ref h1' 1 rfl rfl) ((f1.mono PSe_x).tr ((f2.mono P47_k).mono Pk_x)) Fm.rf (by omega) (by rw [f2 D 12 (by unfold P47; omega)]; exact q6)
theorem l_set (hD : DI m v D) (h : PostR m v S) : LOut (G5_readSet m) ((G12_setLine v).bind fun o => G12_lineRead_197 o.2 o.1) m v D S := by
  have hDD := hD.1.1
  have hN := hD.n
  have e21 : v 0 21 = m (D + 8) 0 := hN.2.2.2.1
  have e22 : v 0 22 = m (D + 8) 1 := hN.2.2.2.2.1
  have e80 : sl 21 m D 8 0 = m (D + 8) 0 := sl_e (by omega) _
  have e81 : sl 21 m D 8 1 = m (D + 8) 1 := sl_e (by omega) _
  obtain ⟨hS, _, hT, hV, _⟩ := hD.2.1
  have hb : 0 ≤ m (D + 8) 0 ∧ m (D + 8) 0 ≤ 4 ∧ 0 ≤ m (D + 8) 1 := by
    have h1 := hS
    unfold WS at h1
    omega
  unfold G5_readSet G5_readSet_0 G12_setLine G12_setLine_0
  rw [hD.1.2, Int.toNat_natCast, e21]
  by_cases c0 : m (D + 8) 0 < 4
  · rw [if_pos c0, if_neg (show ¬ m (D + 8) 0 = 4 by omega)]
    obtain ⟨v2, z1, z2, p2⟩ := h.tok
    rw [z1, bs1]
    obtain ⟨m3, v3, f3, g3, q3, k3⟩ := n_in p2 (lo := 0) (hi := 99) (by omega)
    have G3 : Fm Qk v v3 := (z2.mono Q7_k).tr g3
    have hD3 : DI m3 v3 D := hD.k f3 G3
    refine lo_tr (m1 := m3) (v1 := v3) ?_ (f3.mono Pk_x) (G3.mono Qk_x) q3 (f3 D 12 (by unfold Pk; omega))
    rcases k3 with ⟨x, x1, x2, a1, a2, a3, p3, a5⟩ | ⟨a1, a2, a3⟩
    · have r80 : m3 (D + 8) 0 = m (D + 8) 0 := f3 _ _ (by unfold Pk; omega)
      have r81 : m3 (D + 8) 1 = m (D + 8) 1 := f3 _ _ (by unfold Pk; omega)
      have e22' : v3 0 22 = m (D + 8) 1 := by rw [G3 0 22 (by unfold Qk; omega)]; exact e22
      rw [a1, a2, bs1, bs1]
      simp only [if_neg i10, if_neg (show ¬ x = -1 by omega), r80, e22']
      by_cases c1 : m (D + 8) 0 ≤ 0
      · have hz := hT.1 (by omega)
        rw [if_pos c1, if_pos (show m (D + 8) 1 ≤ 0 by omega)]
        exact l_64 hD3 (by omega) ⟨x1, x2⟩ (fun q => by omega) a3 p3
      · have hl := w_last hS hT hV (by omega)
        rw [e80, e81] at hl
        obtain ⟨l1, l2, l3, l4, l5, l6, l7, l8⟩ := hl
        have hd : ∀ (c : Nat) i, c ≤ 21 → sl 21 m D c i = m (D + c) i := fun c i q => sl_e q i
        have e9 : m3 (D + 8) 0 = m (D + 8) 0 := r80
        have ht : TX m3 D (sl 21 m3 D) := ⟨hDD, fun i => (sl_e (Nat.zero_le _) i).symm, fun c i q => (sl_e q i).symm⟩
        have es : ∀ (c : Nat), sl 21 m3 D c = sl 21 m D c := fun c => by rw [sl_c (fun b x y => f3.rw1 (fun i => by unfold Pk; omega))]
        have glm := g_lm (t := m (D + 8) 0 - 1) ht (by omega) (by rw [es 9]; omega) (by rw [es 10]; omega) (by rw [es 9, es 11]; omega)
        rw [es 9, es 10, es 11] at glm
        have e12 : v3 12 (28 + m (D + 8) 1 - 1) = m (D + 11) (m (D + 8) 1 - 1) := by
          have z := (hD.2.2.1.2.2.2.2.1 (m (D + 8) 1 - 1) (by omega) (by omega)).1
          have z' : v 12 (28 + (m (D + 8) 1 - 1)) = sl 21 m D 11 (m (D + 8) 1 - 1) := z
          rw [hd 11 _ (by omega)] at z'
          rw [G3 12 _ (by unfold Qk; omega), show 28 + m (D + 8) 1 - 1 = 28 + (m (D + 8) 1 - 1) by omega]
          exact z'
        have r11 : m3 (D + 11) (m (D + 8) 1 - 1) = m (D + 11) (m (D + 8) 1 - 1) := f3 _ _ (by unfold Pk; omega)
        rw [hd 11 (m (D + 8) 1 - 1) (by omega)] at l6
        rw [if_neg c1, if_neg (show ¬ m (D + 8) 1 ≤ 0 by omega), gd3_t (by omega), glm, bs1]
        dsimp only
        rw [gdx_t (by unfold WS at hS; omega), e12, a3, ← l6]
        by_cases c2 : m (D + 11) (m (D + 8) 1 - 1) < x
        · rw [if_pos c2, if_pos c2]
          exact l_64 hD3 (by omega) ⟨x1, x2⟩ (fun q => by rw [r81, r11]; exact c2) a3 p3
        · rw [if_neg c2, if_neg c2, wt_e, c_ref, bs1, gdb_t (by omega), r_wrong, bs1, gdb_t (by omega), bs1]
          dsimp only
          rw [r197, up_e]
          have g5 : Fm QX v3 (up v3 0 10 (v2 0 10)) := Fm.w1 (by unfold QX; omega)
          obtain ⟨y1, y2, y3⟩ := flt m3 (up v3 0 10 (v2 0 10)) 5 a5
          exact lo_fltx ⟨_, _, y2.mono Pk_x, g5.tr (y3.mono Qk_x), by rw [up_a (by omega), up_a (by omega)]; omega, rfl, rfl, y1⟩
    · rw [a1, a2, bs1, bs1]
      simp only [if_true, bs1, r197]
      exact ⟨m3, v3, Fm.rf, Fm.rf, by omega, Or.inr ⟨rfl, rfl, a3⟩⟩
  · rw [if_neg c0, if_pos (show m (D + 8) 0 = 4 by omega), c_ref, bs1, r_wrong, bs1, gdb_t (by omega), gdb_t (by omega), bs1]
    dsimp only
    rw [r197]
    exact lo_ref h 2 rfl rfl
end Q31
