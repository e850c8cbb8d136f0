/-! The line of a set on both sides: the loop. -/
section Q30
variable {m v : Mem} {S : Int} {D : Nat}
/-- the stop where the token is held -/
theorem n_stop1 (h : PostR m v S) (c : m 47 4 = 38) : ∃ v', G12_lineRead_197 v 1 = some (1, v') ∧ Fm Q7 v v' ∧ PreR m v' S ∧ v 0 8 = 4 := by
  have hk := h.2.2.2.2.2.2.2
  have e8 : v 0 8 = 4 ∧ v 0 9 = 59 := by unfold KR SGN NumR at hk; omega
  obtain ⟨v', z1, z2, z3⟩ := h.tok
  unfold G12_lineRead_197 G12_isSign G12_isSign_0
  rw [if_neg i10, if_pos e8.1, if_pos e8.2, bs1]
  simp only [if_neg i10]
  rw [z1, bs1]
  exact ⟨v', rfl, z2, z3, e8.1⟩
theorem n_stop0 (h : PostR m v S) (c : ¬ m 47 4 = 38) : G12_lineRead_197 v 1 = some (0, up (up v 0 4 1) 0 5 (v 0 10)) := by
  have hk := h.2.2.2.2.2.2.2
  unfold G12_lineRead_197 G12_isSign G12_isSign_0
  have e8 : (if v 0 8 = 4 then if v 0 9 = 59 then some ((1 : Int), v) else some (0, v) else some (0, v)) = some (0, v) := by
    by_cases a : v 0 8 = 4
    · have : ¬ v 0 9 = 59 := by unfold KR SGN NumR at hk; omega
      rw [if_pos a, if_neg this]
    · rw [if_neg a]
  rw [if_neg i10, e8, bs1]
  simp only [if_true]
  rw [r_wrong, bs1, gdb_t (by omega)]
/-- one more wave -/
theorem SetI.add {m0 v0 m' : Mem} {x k t c0 y : Int} (hDD : D = 2 ∨ D = 24) (h : SetI m0 v0 m v D x k t c0) (hk : 0 ≤ k) (hc : 0 ≤ c0) (hy : 1 ≤ y ∧ y ≤ 9) (f : Fm (fun b i => (b = D + 8 ∧ i = 1) ∨ (b = D + 8 + 2 ∧ i = t) ∨ (D + 8 + 3 ≤ b ∧ b ≤ D + 8 + 6 ∧ i = c0 + k)) m m') (a : m' (D + 8) 1 = c0 + k + 1 ∧ m' (D + 8 + 2) t = k + 1 ∧ m' (D + 8 + 3) (c0 + k) = x + k ∧ m' (D + 8 + 4) (c0 + k) = y ∧ m' (D + 8 + 5) (c0 + k) = t ∧ m' (D + 8 + 6) (c0 + k) = k + 1) : SetI m0 v0 m' (up (up (up (up v 12 (28 + (c0 + k)) (x + k)) 13 (28 + (c0 + k)) y) 14 (28 + (c0 + k)) t) 0 22 (c0 + k + 1)) D x (k + 1) t c0 := by
  obtain ⟨h1, h2, h3, h4, h5⟩ := h
  obtain ⟨a1, a2, a3, a4, a5, a6⟩ := a
  refine ⟨h1.tr (f.mono ?_), (((h2.w ?_).w ?_).w ?_).w ?_, ⟨?_, ?_, ?_, ?_⟩, ⟨?_, ?_⟩, fun j p q => ?_⟩
  · intro b i q; unfold PSe; omega
  · unfold QSe; omega
  · unfold QSe; omega
  · unfold QSe; omega
  · unfold QSe; omega
  · rw [f (D + 8) 0 (by omega)]; exact h3.1
  · rw [a1]; omega
  · rw [f (D + 9) t (by omega)]; exact h3.2.2.1
  · exact a2
  · rw [up_e]; omega
  · rw [up_a (by omega), up_a (by omega), up_a (by omega), up_a (by omega)]; exact h4.2
  · have d11 : m' (D + 11) = m' (D + 8 + 3) := rfl
    have d12 : m' (D + 12) = m' (D + 8 + 4) := rfl
    have d13 : m' (D + 13) = m' (D + 8 + 5) := rfl
    have d14 : m' (D + 14) = m' (D + 8 + 6) := rfl
    by_cases c : j = k
    · subst c
      rw [d11, d12, d13, d14, a3, a4, a5, a6]
      refine ⟨⟨rfl, hy, rfl, rfl⟩, ?_, ?_, ?_⟩
      · rw [up_a (by omega), up_a (by omega), up_a (by omega), up_e]
      · rw [up_a (by omega), up_a (by omega), up_e]
      · rw [up_a (by omega), up_e]
    · have z := h5 j p (by omega)
      rw [f (D + 11) _ (by omega), f (D + 12) _ (by omega), f (D + 13) _ (by omega), f (D + 14) _ (by omega)]
      refine ⟨z.1, ?_, ?_, ?_⟩
      · rw [up_a (by omega), up_a (by omega), up_a (by omega), up_i (by omega)]; exact z.2.1
      · rw [up_a (by omega), up_a (by omega), up_i (by omega), up_a (by omega)]; exact z.2.2.1
      · rw [up_a (by omega), up_i (by omega), up_a (by omega), up_a (by omega)]; exact z.2.2.2
/-- the waves of a set, one behind the other -/
theorem l_waves {m0 v0 : Mem} {x t c0 : Int} (hD : DI m0 v0 D) (ht : t = m0 (D + 8) 0 ∧ 0 ≤ t ∧ t < 4) (hc : c0 = m0 (D + 8) 1 ∧ 0 ≤ c0 ∧ c0 + 7 ≤ 28) (hx : 0 ≤ x ∧ x ≤ 99) (hl : 0 < c0 → m0 (D + 11) (c0 - 1) < x) : ∀ (d n : Nat) (k : Int) (m v : Mem), (7 - k).toNat = d → d < n → 0 ≤ k → k ≤ 7 → (k = 0 → v 0 8 = 3) → v 0 21 = t → SetI m0 v0 m v D x k t c0 → PreR m v S → LOut (G5_readSet_70 n m (D + 8) x k) ((G12_setLine_110 n v x k).bind fun o => G12_lineRead_197 o.2 o.1) m v D S := by
  have hDD := hD.1.1
  intro d
  induction d with
  | zero =>
    intro n k m v h1 h2 k1 k2 k3 e21 hS p
    obtain ⟨n, rfl⟩ : ∃ j, n = j + 1 := ⟨n - 1, by omega⟩
    have ek : k = 7 := by omega
    subst ek
    obtain ⟨m1, e1, f1, h1', p1, _⟩ := p.adv
    have f1' := f1.mono P47_k
    have hS1 := hS.k hDD f1' (Fm.rf (m := v))
    rw [G5_readSet_70, G12_setLine_110, if_neg (by omega), e1, bs1, if_neg (by omega)]
    refine lo_tr (m1 := m1) (v1 := v) ?_ (f1'.mono Pk_x) Fm.rf p1 (f1 D 12 (by unfold P47; omega))
    have hk := h1'.2.2.2.2.2.2.2
    by_cases c1 : m1 47 4 = 38
    · have h' : PostR m1 (up v 0 21 (t + 1)) S := h1'.f (P := fun _ _ => False) (Q := fun b i => b = 0 ∧ i = 21) Fm.rf (Fm.w1 ⟨rfl, rfl⟩) (fun b i _ => id) (by intro b i q; omega)
      obtain ⟨v', z1, z2, z3, z4⟩ := n_stop1 h' c1
      rw [up_i (by omega)] at z4
      rw [if_pos c1, if_neg (by omega), e21, gd3_t (by omega), wt_e, bs1]
      have gq : Fm (QSe t c0) v (up v 0 21 (t + 1)) := Fm.w1 (by unfold QSe; omega)
      have hS2 : SetI m0 v0 m1 (up v 0 21 (t + 1)) D x 7 t c0 := by
        obtain ⟨s1, s2, s3, s4, s5⟩ := hS1
        refine ⟨s1, s2.tr gq, s3, ?_, fun j p q => ?_⟩
        · rw [up_i (by omega), up_a (by omega)]; exact s4
        · rw [up_a (by omega), up_a (by omega), up_a (by omega)]; exact s5 j p q
      have hS3 := hS2.k hDD (Fm.rf (m := m1)) (z2.mono Q7_k)
      have hDn : DI m1 v' D := di_set hD ⟨ht.1, ht.2.2⟩ ⟨hc.1, by omega⟩ (by omega) hx hl hS3 (by rw [z2 0 21 (by unfold Q7; omega), up_e])
      exact ⟨m1, v', Fm.rf, (gq.mono (QSe_x ht.2.1 hc.2.1)).tr ((z2.mono Q7_k).mono Qk_x), by omega, Or.inl ⟨rfl, z1, hDn, z3, rfl⟩⟩
    · rw [if_neg c1]
      unfold G5_readSet_101
      by_cases c2 : m1 47 4 = 25
      · have e8 : v 0 8 = 3 := by unfold KR SGN NumR at hk; omega
        rw [if_pos e8, if_pos rfl, r_wrong, bs1, gdb_t (by omega), bs1]
        dsimp only
        rw [r197]
        unfold G5_takenNumber G5_takenNumber_0 G5_takenNumber_42
        rw [if_pos c2]
        by_cases c3 : m1 47 6 < 1
        · rw [if_pos c3, c_ref, bs1, bs1]
          exact lo_ref h1' 2 (by simp only [if_true]) rfl
        · rw [if_neg c3]
          by_cases c4 : m1 47 6 ≤ 9
          · rw [if_pos c4, bs1]
            dsimp only
            rw [if_neg (by omega), if_pos rfl, c_ref, bs1, gdb_t (by omega)]
            exact lo_ref h1' 2 rfl rfl
          · rw [if_neg c4, c_ref, bs1, bs1]
            exact lo_ref h1' 2 (by simp only [if_true]) rfl
      · have e8 : ¬ v 0 8 = 3 := by unfold KR SGN NumR at hk; omega
        have h' : PostR m1 (up v 0 21 (t + 1)) S := h1'.f (P := fun _ _ => False) (Q := fun b i => b = 0 ∧ i = 21) Fm.rf (Fm.w1 ⟨rfl, rfl⟩) (fun b i _ => id) (by intro b i q; omega)
        rw [if_neg e8, e21, gd3_t (by omega), wt_e, bs1]
        dsimp only
        rw [n_stop0 h' c1]
        unfold G5_takenNumber G5_takenNumber_0
        rw [if_neg c2, c_ref, bs1, bs1]
        simp only [if_true]
        refine lo_tr (lo_ref h' 1 rfl rfl) Fm.rf (Fm.w1 (by unfold QX; omega)) (by omega) rfl
  | succ d ih =>
    intro n k m v h1 h2 k1 k2 k3 e21 hS p
    obtain ⟨n, rfl⟩ : ∃ j, n = j + 1 := ⟨n - 1, by omega⟩
    have ek : ¬ k = 7 := by omega
    obtain ⟨m1, e1, f1, h1', p1, _⟩ := p.adv
    have f1' := f1.mono P47_k
    have hS1 := hS.k hDD f1' (Fm.rf (m := v))
    rw [G5_readSet_70, G12_setLine_110, if_neg (by omega), e1, bs1]
    refine lo_tr (m1 := m1) (v1 := v) ?_ (f1'.mono Pk_x) Fm.rf p1 (f1 D 12 (by unfold P47; omega))
    have hk := h1'.2.2.2.2.2.2.2
    by_cases c1 : m1 47 4 = 38
    · have h' : PostR m1 (up v 0 21 (t + 1)) S := h1'.f (P := fun _ _ => False) (Q := fun b i => b = 0 ∧ i = 21) Fm.rf (Fm.w1 ⟨rfl, rfl⟩) (fun b i _ => id) (by intro b i q; omega)
      obtain ⟨v', z1, z2, z3, z4⟩ := n_stop1 h' c1
      rw [up_i (by omega)] at z4
      have k0 : ¬ k ≤ 0 := fun q => by have := k3 (by omega); omega
      rw [if_neg k0, if_pos c1, if_neg (by omega), e21, gd3_t (by omega), wt_e, bs1]
      have gq : Fm (QSe t c0) v (up v 0 21 (t + 1)) := Fm.w1 (by unfold QSe; omega)
      have hS2 : SetI m0 v0 m1 (up v 0 21 (t + 1)) D x k t c0 := by
        obtain ⟨s1, s2, s3, s4, s5⟩ := hS1
        refine ⟨s1, s2.tr gq, s3, ?_, fun j p q => ?_⟩
        · rw [up_i (by omega), up_a (by omega)]; exact s4
        · rw [up_a (by omega), up_a (by omega), up_a (by omega)]; exact s5 j p q
      have hS3 := hS2.k hDD (Fm.rf (m := m1)) (z2.mono Q7_k)
      have hDn : DI m1 v' D := di_set hD ⟨ht.1, ht.2.2⟩ ⟨hc.1, by omega⟩ (by omega) hx hl hS3 (by rw [z2 0 21 (by unfold Q7; omega), up_e])
      exact ⟨m1, v', Fm.rf, (gq.mono (QSe_x ht.2.1 hc.2.1)).tr ((z2.mono Q7_k).mono Qk_x), by omega, Or.inl ⟨rfl, z1, hDn, z3, rfl⟩⟩
    · have hif : ∀ X : Option (Int × Mem), (if k ≤ 0 then X else if m1 47 4 = 38 then some (1, m1) else X) = X := fun X => by
        by_cases z : k ≤ 0
        · rw [if_pos z]
        · rw [if_neg z, if_neg c1]
      rw [hif]
      unfold G5_readSet_101
      by_cases c2 : m1 47 4 = 25
      · have e8 : v 0 8 = 3 := by unfold KR SGN NumR at hk; omega
        rw [if_pos e8, if_neg ek]
        obtain ⟨m2, v2, f2, g2, q2, kk⟩ := n_tk h1' (lo := 1) (hi := 9) (by omega)
        have hS2 := hS1.k hDD f2 g2
        rcases kk with ⟨y, y1, y2, _, a1, a2, a3, a4⟩ | ⟨a1, a2, a3, _⟩
        · have w22 : v2 0 22 = c0 + k := hS2.2.2.2.1.1
          rw [a1, a2, bs1, bs1]
          dsimp only
          rw [if_neg i10, if_neg (show ¬ y = -1 by omega), if_neg ek, w22, gd3_t (by omega)]
          obtain ⟨m3, b1, b2, b3⟩ := c_addw (m := m2) (a := D + 8) (x := x + k) (y := y) (s := t) (c := c0 + k) (l := k) hS2.2.2.1.1 hS2.2.2.1.2.1 hS2.2.2.1.2.2.2 (by omega) (by omega) (by omega)
          have g21 : v2 0 21 = t := by rw [g2 0 21 (by unfold Qk; omega)]; exact e21
          rw [b1, bs1, gd3_t (by omega), gdx_t (by omega), gd3_t (by omega), wt_e, up_a (show (0 : Nat) ≠ 12 by omega), w22, gdx_t (by omega), wt_e, up_a (show (0 : Nat) ≠ 13 by omega), up_a (show (0 : Nat) ≠ 12 by omega), up_a (show (0 : Nat) ≠ 13 by omega), up_a (show (0 : Nat) ≠ 12 by omega), up_a (show (0 : Nat) ≠ 12 by omega), w22, a3, g21, gdx_t (by omega), wt_e, up_a (show (0 : Nat) ≠ 14 by omega), up_a (show (0 : Nat) ≠ 13 by omega), up_a (show (0 : Nat) ≠ 12 by omega), w22, gd3_t (by omega), wt_e, gd3_t (by omega)]
          have hS3 := hS2.add hDD k1 hc.2.1 ⟨y1, y2⟩ b2 b3
          have p4 : PreR m3 (up (up (up (up v2 12 (28 + (c0 + k)) (x + k)) 13 (28 + (c0 + k)) y) 14 (28 + (c0 + k)) t) 0 22 (c0 + k + 1)) S := a4.f (Q := fun b i => (12 ≤ b ∧ b ≤ 14) ∨ (b = 0 ∧ i = 22)) b2 ((((Fm.w1 (by omega)).w (by omega)).w (by omega)).w (by omega)) (by intro b i q; omega) (by intro b i q; omega)
          refine lo_tr (ih n (k + 1) m3 _ (by omega) (by omega) (by omega) (by omega) (fun q => by omega) ?_ hS3 p4) ((f2.mono Pk_x).tr (b2.mono ?_)) (((((g2.mono Qk_x).w ?_).w ?_).w ?_).w ?_) ?_ ?_
          · rw [up_i (by omega), up_a (by omega), up_a (by omega), up_a (by omega)]; exact g21
          · intro b i q; unfold PX; omega
          · unfold QX; omega
          · unfold QX; omega
          · unfold QX; omega
          · unfold QX; omega
          · rw [b2 47 3 (by omega)]; omega
          · rw [b2 D 12 (by omega), f2 D 12 (by unfold Pk; omega)]
        · rw [a1, a2, bs1, bs1]
          simp only [if_true, bs1, r197]
          exact lo_flt ⟨m2, v2, f2, g2, by omega, rfl, rfl, a3⟩
      · have e8 : ¬ v 0 8 = 3 := by unfold KR SGN NumR at hk; omega
        have h' : PostR m1 (up v 0 21 (t + 1)) S := h1'.f (P := fun _ _ => False) (Q := fun b i => b = 0 ∧ i = 21) Fm.rf (Fm.w1 ⟨rfl, rfl⟩) (fun b i _ => id) (by intro b i q; omega)
        rw [if_neg e8, e21, gd3_t (by omega), wt_e, bs1]
        dsimp only
        rw [n_stop0 h' c1]
        unfold G5_takenNumber G5_takenNumber_0
        rw [if_neg c2, c_ref, bs1, bs1]
        simp only [if_true]
        refine lo_tr (lo_ref h' 1 rfl rfl) Fm.rf (Fm.w1 (by unfold QX; omega)) (by omega) rfl
end Q30
