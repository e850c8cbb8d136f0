section Q31
variable {m v : Mem} {S : Int} {D : Nat}
/-- where the last set's last wave is -/
theorem w_last {w : Mem} (hS : WS w) (hT : WT w) (hV : WV w) (h : 0 < w 8 0) : (1 ≤ w 8 1 ∧ w 8 1 ≤ 7 * w 8 0) ∧ w 9 (w 8 0 - 1) + w 10 (w 8 0 - 1) = w 8 1 ∧ 1 ≤ w 10 (w 8 0 - 1) ∧ w 10 (w 8 0 - 1) ≤ 7 ∧ 0 ≤ w 9 (w 8 0 - 1) ∧ w 11 (w 8 1 - 1) = w 11 (w 9 (w 8 0 - 1)) + w 10 (w 8 0 - 1) - 1 ∧ 0 ≤ w 11 (w 9 (w 8 0 - 1)) ∧ w 11 (w 9 (w 8 0 - 1)) ≤ 105 := by
  obtain ⟨t1, t2, t3⟩ := hT
  have hs4 : w 8 0 ≤ 4 := by unfold WS at hS; omega
  have hn := t3 (w 8 0 - 1) (by first | decide | omega) (by first | decide | omega)
  have en := hn.2.2.2.2.2 (by first | decide | omega)
  have h7 : w 9 (w 8 0 - 1) ≤ 7 * (w 8 0 - 1) := by
    have z0 := t2 h
    have z1 := t3 0 (by first | decide | omega) h
    have z2 := fun q => t3 1 (by first | decide | omega) q
    have z3 := fun q => t3 2 (by first | decide | omega) q
    have hh : w 8 0 = 1 ∨ w 8 0 = 2 ∨ w 8 0 = 3 ∨ w 8 0 = 4 := by omega
    rw [show (0 : Int) + 1 = 1 by first | decide | omega] at z1
    rcases hh with e | e | e | e
    · rw [e, show (1 : Int) - 1 = 0 by first | decide | omega]; omega
    · rw [e, show (2 : Int) - 1 = 1 by first | decide | omega]
      have := z1.2.2.2.2.1 (by first | decide | omega)
      omega
    · rw [e, show (3 : Int) - 1 = 2 by first | decide | omega]
      have a1 := z1.2.2.2.2.1 (by first | decide | omega)
      have a2 := z2 (by first | decide | omega)
      rw [show (1 : Int) + 1 = 2 by first | decide | omega] at a2
      have a3 := a2.2.2.2.2.1 (by first | decide | omega)
      omega
    · rw [e, show (4 : Int) - 1 = 3 by first | decide | omega]
      have a1 := z1.2.2.2.2.1 (by first | decide | omega)
      have a2 := z2 (by first | decide | omega)
      rw [show (1 : Int) + 1 = 2 by first | decide | omega] at a2
      have a3 := a2.2.2.2.2.1 (by first | decide | omega)
      have a4 := z3 (by first | decide | omega)
      rw [show (2 : Int) + 1 = 3 by first | decide | omega] at a4
      have a5 := a4.2.2.2.2.1 (by first | decide | omega)
      omega
  have hb := hV (w 8 1 - 1) (by first | decide | omega) (by first | decide | omega)
  obtain ⟨⟨b1, b2, b3, b4, b5, b6⟩, _⟩ := hb
  have e13 : w 13 (w 8 1 - 1) = w 8 0 - 1 := by
    generalize w 13 (w 8 1 - 1) = s at b1 b2 b3 b4 b5 b6 ⊢
    apply Classical.byContradiction
    intro ne
    have s1 := t3 s b1 b2
    have s2 := s1.2.2.2.2.1 (by first | decide | omega)
    by_cases c1 : s + 1 = w 8 0 - 1
    · rw [c1] at s2; omega
    · have s3 := t3 (s + 1) (by first | decide | omega) (by first | decide | omega)
      have s4 := s3.2.2.2.2.1 (by first | decide | omega)
      by_cases c2 : s + 1 + 1 = w 8 0 - 1
      · rw [c2] at s4; omega
      · have s5 := t3 (s + 1 + 1) (by first | decide | omega) (by first | decide | omega)
        have s6 := s5.2.2.2.2.1 (by first | decide | omega)
        rw [show s + 1 + 1 + 1 = w 8 0 - 1 by first | decide | omega] at s6
        omega
  rw [e13] at b6
  have hf := (hV (w 9 (w 8 0 - 1)) (by first | decide | omega) (by first | decide | omega)).2.1
  exact ⟨by first | decide | omega, en, by first | decide | omega, by first | decide | omega, by first | decide | omega, by first | decide | omega, by first | decide | omega, by first | decide | omega⟩
theorem l_64 {x : Int} (hD : DI m v D) (ht : m (D + 8) 0 < 4) (hx : 0 ≤ x ∧ x ≤ 99) (hl : 0 < m (D + 8) 1 → m (D + 11) (m (D + 8) 1 - 1) < x) (e11 : v 0 11 = x) (p : PreR m v S) : LOut (G5_readSet_64 m (D + 8) x) ((G12_setLine_74 v).bind fun o => G12_lineRead_197 o.2 o.1) m v D S := by
  have hDD := hD.1.1
  have hN := hD.n
  have e80 : sl 21 m D 8 0 = m (D + 8) 0 := sl_e (by first | decide | omega) _
  have e81 : sl 21 m D 8 1 = m (D + 8) 1 := sl_e (by first | decide | omega) _
  have hb : 0 ≤ m (D + 8) 0 ∧ 0 ≤ m (D + 8) 1 ∧ m (D + 8) 1 + 7 ≤ 28 := by
    obtain ⟨hS, _, hT, hV, _⟩ := hD.2.1
    have h1 := hS
    unfold WS at h1
    by_cases c : 0 < sl 21 m D 8 0
    · have := (w_last hS hT hV c).1
      omega
    · have := hT.1 (by first | decide | omega)
      omega
  have e21 : v 0 21 = m (D + 8) 0 := hN.2.2.2.1
  have e22 : v 0 22 = m (D + 8) 1 := hN.2.2.2.2.1
  unfold G5_readSet_64 G12_setLine_74
  rw [c_bset ⟨hb.1, ht⟩, bs1]
  have f1 : Fm (PSe D (m (D + 8) 0) (m (D + 8) 1)) m (up (up (up m (D + 8 + 1) (m (D + 8) 0) (m (D + 8) 1)) (D + 8 + 2) (m (D + 8) 0) 0) (D + 8) 0 (m (D + 8) 0 + 1)) := ((Fm.w1 (by unfold PSe; first | decide | omega)).w (by unfold PSe; first | decide | omega)).w (by unfold PSe; first | decide | omega)
  have q1 : up (up (up m (D + 8 + 1) (m (D + 8) 0) (m (D + 8) 1)) (D + 8 + 2) (m (D + 8) 0) 0) (D + 8) 0 (m (D + 8) 0 + 1) (D + 8) 0 = m (D + 8) 0 + 1 := up_e
  have q2 : up (up (up m (D + 8 + 1) (m (D + 8) 0) (m (D + 8) 1)) (D + 8 + 2) (m (D + 8) 0) 0) (D + 8) 0 (m (D + 8) 0 + 1) (D + 8) 1 = m (D + 8) 1 := by rw [up_i (by first | decide | omega), up_a (by first | decide | omega), up_a (by first | decide | omega)]
  have q3 : up (up (up m (D + 8 + 1) (m (D + 8) 0) (m (D + 8) 1)) (D + 8 + 2) (m (D + 8) 0) 0) (D + 8) 0 (m (D + 8) 0 + 1) (D + 9) (m (D + 8) 0) = m (D + 8) 1 := by rw [up_a (by first | decide | omega), up_a (by first | decide | omega), up_e]
  have q4 : up (up (up m (D + 8 + 1) (m (D + 8) 0) (m (D + 8) 1)) (D + 8 + 2) (m (D + 8) 0) 0) (D + 8) 0 (m (D + 8) 0 + 1) (D + 10) (m (D + 8) 0) = 0 := by rw [up_a (by first | decide | omega), up_e]
  have q5 : up (up (up m (D + 8 + 1) (m (D + 8) 0) (m (D + 8) 1)) (D + 8 + 2) (m (D + 8) 0) 0) (D + 8) 0 (m (D + 8) 0 + 1) 47 3 = m 47 3 := by rw [up_a (by first | decide | omega), up_a (by first | decide | omega), up_a (by first | decide | omega)]
  have q6 : up (up (up m (D + 8 + 1) (m (D + 8) 0) (m (D + 8) 1)) (D + 8 + 2) (m (D + 8) 0) 0) (D + 8) 0 (m (D + 8) 0 + 1) D 12 = m D 12 := by rw [up_a (by first | decide | omega), up_a (by first | decide | omega), up_a (by first | decide | omega)]
  have p1 : PreR (up (up (up m (D + 8 + 1) (m (D + 8) 0) (m (D + 8) 1)) (D + 8 + 2) (m (D + 8) 0) 0) (D + 8) 0 (m (D + 8) 0 + 1)) v S := p.f (P := fun b i => D ≤ b ∧ b ≤ D + 21) (Q := fun _ _ => False) (((Fm.w1 (by first | decide | omega)).w (by first | decide | omega)).w (by first | decide | omega)) Fm.rf (by intro b i q; first | decide | omega) (fun b i _ => id)
  generalize up (up (up m (D + 8 + 1) (m (D + 8) 0) (m (D + 8) 1)) (D + 8 + 2) (m (D + 8) 0) 0) (D + 8) 0 (m (D + 8) 0 + 1) = m1 at f1 q1 q2 q3 q4 q5 q6 p1 ⊢
  by_cases c : v 0 8 = 3
  · rw [if_pos c, e21, gdx_t (by first | decide | omega), e22, e11, wt_e]
    have p2 : PreR m1 (up v 11 (4 + m (D + 8) 0) (m (D + 8) 1)) S := p1.f (P := fun _ _ => False) (Q := fun b i => b = 11) Fm.rf (Fm.w1 rfl) (fun b i _ => id) (by intro b i q; first | decide | omega)
    have hS : SetI m v m1 (up v 11 (4 + m (D + 8) 0) (m (D + 8) 1)) D x 0 (m (D + 8) 0) (m (D + 8) 1) := by
      refine ⟨f1, Fm.w1 (by unfold QSe; first | decide | omega), ⟨q1, by rw [q2]; first | decide | omega, q3, q4⟩, ⟨by rw [up_a (by first | decide | omega), e22]; first | decide | omega, up_e⟩, fun j a b => by first | decide | omega⟩
    exact lo_tr (l_waves hD ⟨rfl, hb.1, ht⟩ ⟨rfl, hb.2.1, hb.2.2⟩ hx hl 7 1024 0 m1 _ (by first | decide | omega) (by first | decide | omega) (by first | decide | omega) (by first | decide | omega) (fun _ => by rw [up_a (by first | decide | omega)]; exact c) (by rw [up_a (by first | decide | omega)]; exact e21) hS p2) (f1.mono PSe_x) (Fm.w1 (by unfold QX; first | decide | omega)) (by first | decide | omega) q6
  · rw [if_neg c, r_wrong, bs1, gdb_t (by first | decide | omega), bs1]
    dsimp only
    rw [r197]
    obtain ⟨m2, e1, f2, h1', p2, _⟩ := p1.adv
    have hk := h1'.2.2.2.2.2.2.2
    have c2 : ¬ m2 47 4 = 25 := by unfold KR SGN NumR at hk; omega
    rw [show (1024 : Nat) = 1023 + 1 from rfl, G5_readSet_70, if_neg (by first | decide | omega), e1, bs1, if_pos (show (0 : Int) ≤ 0 by first | decide | omega)]
    unfold G5_readSet_101 G5_takenNumber G5_takenNumber_0
    rw [if_neg c2, c_ref, bs1, bs1]
    simp only [if_true]
    exact lo_tr (lo_ref h1' 1 rfl rfl) ((f1.mono PSe_x).tr ((f2.mono P47_k).mono Pk_x)) Fm.rf (by first | decide | omega) (by rw [f2 D 12 (by unfold P47; first | decide | omega)]; exact q6)
end Q31
