section Q30
variable {m v : Mem} {S : Int} {D : Nat}
/-- the waves of a set, one behind the other -/
theorem l_waves {m0 v0 : Mem} {x t c0 : Int} (hD : DI m0 v0 D) (ht : t = m0 (D + 8) 0 ∧ 0 ≤ t ∧ t < 4) (hc : c0 = m0 (D + 8) 1 ∧ 0 ≤ c0 ∧ c0 + 7 ≤ 28) (hx : 0 ≤ x ∧ x ≤ 99) (hl : 0 < c0 → m0 (D + 11) (c0 - 1) < x) : ∀ (d n : Nat) (k : Int) (m v : Mem), (7 - k).toNat = d → d < n → 0 ≤ k → k ≤ 7 → (k = 0 → v 0 8 = 3) → v 0 21 = t → SetI m0 v0 m v D x k t c0 → PreR m v S → LOut (G5_readSet_70 n m (D + 8) x k) ((G12_setLine_110 n v x k).bind fun o => G12_lineRead_197 o.2 o.1) m v D S := by
  have hDD := hD.1.1
  intro d
  induction d with
  | zero =>
    intro n k m v h1 h2 k1 k2 k3 e21 hS p
    obtain ⟨n, rfl⟩ : ∃ j, n = j + 1 := ⟨n - 1, by first | decide | omega⟩
    have ek : k = 7 := by omega
    subst ek
    obtain ⟨m1, e1, f1, h1', p1, _⟩ := p.adv
    have f1' := f1.mono P47_k
    have hS1 := hS.k hDD f1' (Fm.rf (m := v))
    rw [G5_readSet_70, G12_setLine_110, if_neg (by first | decide | omega), e1, bs1, if_neg (by first | decide | omega)]
    refine lo_tr (m1 := m1) (v1 := v) ?_ (f1'.mono Pk_x) Fm.rf p1 (f1 D 12 (by unfold P47; first | decide | omega))
    have hk := h1'.2.2.2.2.2.2.2
    by_cases c1 : m1 47 4 = 38
    · have h' : PostR m1 (up v 0 21 (t + 1)) S := h1'.f (P := fun _ _ => False) (Q := fun b i => b = 0 ∧ i = 21) Fm.rf (Fm.w1 ⟨rfl, rfl⟩) (fun b i _ => id) (by intro b i q; first | decide | omega)
      obtain ⟨v', z1, z2, z3, z4⟩ := n_stop1 h' c1
      rw [up_i (by first | decide | omega)] at z4
      rw [if_pos c1, if_neg (by first | decide | omega), e21, gd3_t (by first | decide | omega), wt_e, bs1]
      have gq : Fm (QSe t c0) v (up v 0 21 (t + 1)) := Fm.w1 (by unfold QSe; first | decide | omega)
      have hS2 : SetI m0 v0 m1 (up v 0 21 (t + 1)) D x 7 t c0 := by
        obtain ⟨s1, s2, s3, s4, s5⟩ := hS1
        refine ⟨s1, s2.tr gq, s3, ?_, fun j p q => ?_⟩
        · rw [up_i (by first | decide | omega), up_a (by first | decide | omega)]; exact s4
        · rw [up_a (by first | decide | omega), up_a (by first | decide | omega), up_a (by first | decide | omega)]; exact s5 j p q
      have hS3 := hS2.k hDD (Fm.rf (m := m1)) (z2.mono Q7_k)
      have hDn : DI m1 v' D := di_set hD ⟨ht.1, ht.2.2⟩ ⟨hc.1, by first | decide | omega⟩ (by first | decide | omega) hx hl hS3 (by rw [z2 0 21 (by unfold Q7; first | decide | omega), up_e])
      exact ⟨m1, v', Fm.rf, (gq.mono (QSe_x ht.2.1 hc.2.1)).tr ((z2.mono Q7_k).mono Qk_x), by first | decide | omega, Or.inl ⟨rfl, z1, hDn, z3, rfl⟩⟩
    · rw [if_neg c1]
      unfold G5_readSet_101
      by_cases c2 : m1 47 4 = 25
      · have e8 : v 0 8 = 3 := by unfold KR SGN NumR at hk; omega
        rw [if_pos e8, if_pos rfl, r_wrong, bs1, gdb_t (by first | decide | omega), bs1]
        dsimp only
        rw [r197]
        unfold G5_takenNumber G5_takenNumber_0 G5_takenNumber_42
        rw [if_pos c2]
        by_cases c3 : m1 47 6 < 1
        · rw [if_pos c3, c_ref, bs1, bs1]
          exact lo_ref h1' 2 (by simp only [if_true]) rfl
        · rw [if_neg c3]
          by_cases c4 : m1 47 6 ≤ 9
          · rw [if_pos c4, bs1]
            dsimp only
            rw [if_neg (by first | decide | omega), if_pos rfl, c_ref, bs1, gdb_t (by first | decide | omega)]
            exact lo_ref h1' 2 rfl rfl
          · rw [if_neg c4, c_ref, bs1, bs1]
            exact lo_ref h1' 2 (by simp only [if_true]) rfl
      · have e8 : ¬ v 0 8 = 3 := by unfold KR SGN NumR at hk; omega
        have h' : PostR m1 (up v 0 21 (t + 1)) S := h1'.f (P := fun _ _ => False) (Q := fun b i => b = 0 ∧ i = 21) Fm.rf (Fm.w1 ⟨rfl, rfl⟩) (fun b i _ => id) (by intro b i q; first | decide | omega)
        rw [if_neg e8, e21, gd3_t (by first | decide | omega), wt_e, bs1]
        dsimp only
        rw [n_stop0 h' c1]
        unfold G5_takenNumber G5_takenNumber_0
        rw [if_neg c2, c_ref, bs1, bs1]
        simp only [if_true]
        refine lo_tr (lo_ref h' 1 rfl rfl) Fm.rf (Fm.w1 (by unfold QX; first | decide | omega)) (by first | decide | omega) rfl
  | succ d ih =>
    intro n k m v h1 h2 k1 k2 k3 e21 hS p
    obtain ⟨n, rfl⟩ : ∃ j, n = j + 1 := ⟨n - 1, by first | decide | omega⟩
    have ek : ¬ k = 7 := by omega
    obtain ⟨m1, e1, f1, h1', p1, _⟩ := p.adv
    have f1' := f1.mono P47_k
    have hS1 := hS.k hDD f1' (Fm.rf (m := v))
    rw [G5_readSet_70, G12_setLine_110, if_neg (by first | decide | omega), e1, bs1]
    refine lo_tr (m1 := m1) (v1 := v) ?_ (f1'.mono Pk_x) Fm.rf p1 (f1 D 12 (by unfold P47; first | decide | omega))
    have hk := h1'.2.2.2.2.2.2.2
    by_cases c1 : m1 47 4 = 38
    · have h' : PostR m1 (up v 0 21 (t + 1)) S := h1'.f (P := fun _ _ => False) (Q := fun b i => b = 0 ∧ i = 21) Fm.rf (Fm.w1 ⟨rfl, rfl⟩) (fun b i _ => id) (by intro b i q; first | decide | omega)
      obtain ⟨v', z1, z2, z3, z4⟩ := n_stop1 h' c1
      rw [up_i (by first | decide | omega)] at z4
      have k0 : ¬ k ≤ 0 := fun q => by have := k3 (by first | decide | omega); omega
      rw [if_neg k0, if_pos c1, if_neg (by first | decide | omega), e21, gd3_t (by first | decide | omega), wt_e, bs1]
      have gq : Fm (QSe t c0) v (up v 0 21 (t + 1)) := Fm.w1 (by unfold QSe; first | decide | omega)
      have hS2 : SetI m0 v0 m1 (up v 0 21 (t + 1)) D x k t c0 := by
        obtain ⟨s1, s2, s3, s4, s5⟩ := hS1
        refine ⟨s1, s2.tr gq, s3, ?_, fun j p q => ?_⟩
        · rw [up_i (by first | decide | omega), up_a (by first | decide | omega)]; exact s4
        · rw [up_a (by first | decide | omega), up_a (by first | decide | omega), up_a (by first | decide | omega)]; exact s5 j p q
      have hS3 := hS2.k hDD (Fm.rf (m := m1)) (z2.mono Q7_k)
      have hDn : DI m1 v' D := di_set hD ⟨ht.1, ht.2.2⟩ ⟨hc.1, by first | decide | omega⟩ (by first | decide | omega) hx hl hS3 (by rw [z2 0 21 (by unfold Q7; first | decide | omega), up_e])
      exact ⟨m1, v', Fm.rf, (gq.mono (QSe_x ht.2.1 hc.2.1)).tr ((z2.mono Q7_k).mono Qk_x), by first | decide | omega, Or.inl ⟨rfl, z1, hDn, z3, rfl⟩⟩
    · have hif : ∀ X : Option (Int × Mem), (if k ≤ 0 then X else if m1 47 4 = 38 then some (1, m1) else X) = X := fun X => by
        by_cases z : k ≤ 0
        · rw [if_pos z]
        · rw [if_neg z, if_neg c1]
      rw [hif]
      unfold G5_readSet_101
      by_cases c2 : m1 47 4 = 25
      · have e8 : v 0 8 = 3 := by unfold KR SGN NumR at hk; omega
        rw [if_pos e8, if_neg ek]
        obtain ⟨m2, v2, f2, g2, q2, kk⟩ := n_tk h1' (lo := 1) (hi := 9) (by first | decide | omega)
        have hS2 := hS1.k hDD f2 g2
        rcases kk with ⟨y, y1, y2, _, a1, a2, a3, a4⟩ | ⟨a1, a2, a3, _⟩
        · have w22 : v2 0 22 = c0 + k := hS2.2.2.2.1.1
          rw [a1, a2, bs1, bs1]
          dsimp only
          rw [if_neg i10, if_neg (show ¬ y = -1 by first | decide | omega), if_neg ek, w22, gd3_t (by first | decide | omega)]
          obtain ⟨m3, b1, b2, b3⟩ := c_addw (m := m2) (a := D + 8) (x := x + k) (y := y) (s := t) (c := c0 + k) (l := k) hS2.2.2.1.1 hS2.2.2.1.2.1 hS2.2.2.1.2.2.2 (by first | decide | omega) (by first | decide | omega) (by first | decide | omega)
          have g21 : v2 0 21 = t := by rw [g2 0 21 (by unfold Qk; first | decide | omega)]; exact e21
          rw [b1, bs1, gd3_t (by first | decide | omega), gdx_t (by first | decide | omega), gd3_t (by first | decide | omega), wt_e, up_a (show (0 : Nat) ≠ 12 by first | decide | omega), w22, gdx_t (by first | decide | omega), wt_e, up_a (show (0 : Nat) ≠ 13 by first | decide | omega), up_a (show (0 : Nat) ≠ 12 by first | decide | omega), up_a (show (0 : Nat) ≠ 13 by first | decide | omega), up_a (show (0 : Nat) ≠ 12 by first | decide | omega), up_a (show (0 : Nat) ≠ 12 by first | decide | omega), w22, a3, g21, gdx_t (by first | decide | omega), wt_e, up_a (show (0 : Nat) ≠ 14 by first | decide | omega), up_a (show (0 : Nat) ≠ 13 by first | decide | omega), up_a (show (0 : Nat) ≠ 12 by first | decide | omega), w22, gd3_t (by first | decide | omega), wt_e, gd3_t (by first | decide | omega)]
          have hS3 := hS2.add hDD k1 hc.2.1 ⟨y1, y2⟩ b2 b3
          have p4 : PreR m3 (up (up (up (up v2 12 (28 + (c0 + k)) (x + k)) 13 (28 + (c0 + k)) y) 14 (28 + (c0 + k)) t) 0 22 (c0 + k + 1)) S := a4.f (Q := fun b i => (12 ≤ b ∧ b ≤ 14) ∨ (b = 0 ∧ i = 22)) b2 ((((Fm.w1 (by first | decide | omega)).w (by first | decide | omega)).w (by first | decide | omega)).w (by first | decide | omega)) (by intro b i q; first | decide | omega) (by intro b i q; first | decide | omega)
          refine lo_tr (ih n (k + 1) m3 _ (by first | decide | omega) (by first | decide | omega) (by first | decide | omega) (by first | decide | omega) (fun q => by first | decide | omega) ?_ hS3 p4) ((f2.mono Pk_x).tr (b2.mono ?_)) (((((g2.mono Qk_x).w ?_).w ?_).w ?_).w ?_) ?_ ?_
          · rw [up_i (by first | decide | omega), up_a (by first | decide | omega), up_a (by first | decide | omega), up_a (by first | decide | omega)]; exact g21
          · intro b i q; unfold PX; omega
          · unfold QX; omega
          · unfold QX; omega
          · unfold QX; omega
          · unfold QX; omega
          · rw [b2 47 3 (by first | decide | omega)]; omega
          · rw [b2 D 12 (by first | decide | omega), f2 D 12 (by unfold Pk; first | decide | omega)]
        · rw [a1, a2, bs1, bs1]
          simp only [if_true, bs1, r197]
          exact lo_flt ⟨m2, v2, f2, g2, by first | decide | omega, rfl, rfl, a3⟩
      · have e8 : ¬ v 0 8 = 3 := by unfold KR SGN NumR at hk; omega
        have h' : PostR m1 (up v 0 21 (t + 1)) S := h1'.f (P := fun _ _ => False) (Q := fun b i => b = 0 ∧ i = 21) Fm.rf (Fm.w1 ⟨rfl, rfl⟩) (fun b i _ => id) (by intro b i q; first | decide | omega)
        rw [if_neg e8, e21, gd3_t (by first | decide | omega), wt_e, bs1]
        dsimp only
        rw [n_stop0 h' c1]
        unfold G5_takenNumber G5_takenNumber_0
        rw [if_neg c2, c_ref, bs1, bs1]
        simp only [if_true]
        refine lo_tr (lo_ref h' 1 rfl rfl) Fm.rf (Fm.w1 (by unfold QX; first | decide | omega)) (by first | decide | omega) rfl
end Q30
/-! The line of a set on both sides: the line. -/
section Q31
variable {m v : Mem} {S : Int} {D : Nat}
end Q31
