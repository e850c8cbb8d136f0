/-! undo, keep, back, minutes. -/
section Q16
variable {m v m' v' w g n n' : Mem} {T : Nat}
theorem SV.set (h : SV w n v) (f : Fm Qs v v') (hw : w 1 0 ≤ 5 ∧ w 8 1 ≤ 28) (h1 : ∀ s, 0 ≤ s → s < w 1 0 → v' 25 s = n' 1 s ∧ v' 29 s = w 5 s - n' 5 s) (h2 : v' 0 64 = n' 0 1) (h3 : ∀ i, i ≠ 1 → n' 0 i = n 0 i) (h4 : n' 2 = n 2 ∧ n' 3 = n 3 ∧ n' 4 = n 4 ∧ n' 6 = n 6) : SV w n' v' := by
  obtain ⟨⟨a1, a2, a3, a4, a5⟩, a6, a7, a8, a9⟩ := h
  unfold SV NM
  rw [h4.1, h4.2.1, h4.2.2.1, h4.2.2.2, h3 0 (by omega), h3 2 (by omega), h3 3 (by omega), h3 4 (by omega), f.rw1 (b := 26) (fun i => by unfold Qs; omega), f.rw1 (b := 27) (fun i => by unfold Qs; omega), f.rw1 (b := 28) (fun i => by unfold Qs; omega), f.rw1 (b := 30) (fun i => by unfold Qs; omega), f.rw1 (b := 31) (fun i => by unfold Qs; omega), f.rw1 (b := 32) (fun i => by unfold Qs; omega), f.rw1 (b := 33) (fun i => by unfold Qs; omega), f 0 65 (by unfold Qs; omega), f 0 66 (by unfold Qs; omega)]
  refine ⟨⟨fun i p q => ⟨?_, (a1 i p q).2⟩, a2, a3, a4, a5⟩, a6, h2, fun i p q => ⟨(a8 i p q).1, (h1 i p q).2⟩, a9⟩
  rw [show 5 * (0 : Int) + i = i by omega]
  exact (h1 i p q).1
theorem r_un26 {c : Int} (hc : 0 ≤ c ∧ c < 20) : ∀ (d k : Nat) (i : Int) (v : Mem), 0 ≤ i → 5 - i = d → d < k → v 0 78 = c → (∀ s, 0 ≤ s → s < i → v 25 s = v 41 (11 * c + s) ∧ v 29 s = v 41 (11 * c + 5 + s)) → ∃ v', G12_undo_26 k v i = some (c, v') ∧ Fm (fun b i => b = 25 ∨ b = 29 ∨ (b = 0 ∧ i = 64)) v v' ∧ (∀ s, 0 ≤ s → s < 5 → v' 25 s = v 41 (11 * c + s) ∧ v' 29 s = v 41 (11 * c + 5 + s)) ∧ v' 0 64 = v 41 (11 * c + 10) := by
  intro d
  induction d with
  | zero =>
    intro k i v a1 a2 a3 h78 h
    obtain ⟨k, rfl⟩ : ∃ j, k = j + 1 := ⟨k - 1, by omega⟩
    have e : ∀ y, up v 0 64 y 0 78 = c := fun y => by rw [up_i (by omega)]; exact h78
    rw [G12_undo_26, if_pos (by omega), h78, gdx_t (by omega), wt_e, e]
    refine ⟨_, rfl, Fm.w1 (Or.inr (Or.inr ⟨rfl, rfl⟩)), fun s p q => ?_, up_e⟩
    rw [up_a (by omega), up_a (by omega)]
    exact h s p (by omega)
  | succ d ih =>
    intro k i v a1 a2 a3 h78 h
    obtain ⟨k, rfl⟩ : ∃ j, k = j + 1 := ⟨k - 1, by omega⟩
    have e1 : ∀ y, up v 25 i y 0 78 = c := fun y => by rw [up_a (by omega)]; exact h78
    rw [G12_undo_26, if_neg (by omega), h78, gdx_t (by omega), gdx_t (by omega), wt_e, e1, gdx_t (by omega), gdx_t (by omega), wt_e, gd3_t (by omega), up_a (show (41 : Nat) ≠ 25 by omega)]
    have f1 : Fm (fun b i => b = 25 ∨ b = 29 ∨ (b = 0 ∧ i = 64)) v (up (up v 25 i (v 41 (11 * c + i))) 29 i (v 41 (11 * c + 5 + i))) := (Fm.w1 (Or.inl rfl)).w (Or.inr (Or.inl rfl))
    have e41 : up (up v 25 i (v 41 (11 * c + i))) 29 i (v 41 (11 * c + 5 + i)) 41 = v 41 := by rw [up_b (by omega), up_b (by omega)]
    obtain ⟨v', z1, z2, z3, z4⟩ := ih k (i + 1) (up (up v 25 i (v 41 (11 * c + i))) 29 i (v 41 (11 * c + 5 + i))) (by omega) (by omega) (by omega) (by rw [up_a (by omega)]; exact e1 _) (fun s p q => by
      rw [e41]
      by_cases z : s = i
      · rw [z, up_a (by omega), up_e, up_e]; exact ⟨rfl, rfl⟩
      · rw [up_a (show (25 : Nat) ≠ 29 by omega), up_i z, up_i z, up_a (show (29 : Nat) ≠ 25 by omega)]; exact h s p (by omega))
    rw [e41] at z3 z4
    exact ⟨v', z1, f1.tr z2, z3, z4⟩
theorem a_undo (h : Rel m v) : Agr (G11_undo m) (G12_undo v) := by
  have h1 := h.v0
  unfold G11_undo G11_undo_0 G12_undo G12_undo_0 G11_undo_97
  simp only [wt_e]
  generalize up v 0 2 0 = u at h1 ⊢
  obtain ⟨T, hA, hS, hV, _, _, hU, _⟩ := h1.all
  obtain ⟨u1, u2, CE, ST, RR, g1, g2, g3⟩ := hU
  rw [← u1]
  by_cases c : 1 ≤ m 96 0
  · rw [if_pos c, if_neg (show ¬ m 96 0 = 0 by omega), gd3_t (show -2147483648 ≤ m 96 0 - 1 ∧ m 96 0 - 1 ≤ 2147483647 by omega), gd3_t (show -2147483648 ≤ m 96 0 - 1 ∧ m 96 0 - 1 ≤ 2147483647 by omega)]
    obtain ⟨k1, k2, k3, k4⟩ := g3 (m 96 0 - 1) (by omega) (by omega)
    rw [show m 96 0 - 1 + 1 = m 96 0 by omega] at k4
    have b97 : ∀ y i, up m 96 0 y 97 i = m 97 i := fun y i => up_a (by omega)
    have b98 : ∀ y i, up m 96 0 y 98 i = m 98 i := fun y i => up_a (by omega)
    have hw := hA.2.1.1
    unfold WS at hw
    obtain ⟨v', e2, f2, p1, p2⟩ := r_un26 (c := m 96 0 - 1) (by omega) 5 1024 0 (up u 0 78 (m 96 0 - 1)) (by omega) (by omega) (by omega) up_e (fun s p q => by omega)
    have e41 : up u 0 78 (m 96 0 - 1) 41 = u 41 := up_b (by omega)
    rw [e41] at p1 p2
    rw [e2, up_e, b97, b98, gdx_t (show 0 ≤ m 96 0 - 1 ∧ m 96 0 - 1 < 20 by omega), gdx_t (show 0 ≤ m 96 0 - 1 ∧ m 96 0 - 1 < 20 by omega)]
    have fv : Fm Qs u v' := (Fm.w1 (by unfold Qs; omega)).tr (f2.mono (by intro b i q; unfold Qs; omega))
    have v41 : v' 41 = u 41 := by rw [f2.rw1 (fun i => by omega)]; exact e41
    have v78 : v' 0 78 = m 96 0 - 1 := by rw [f2 0 78 (by omega)]; exact up_e
    -- the undo's own part, for any next memory
    have fin : ∀ m', Fm Ps m m' → m' 96 0 = m 96 0 - 1 → m' 97 = m 97 → m' 98 = m 98 → SN (sl 21 m T) (sl 6 m' 69) → (∀ s, 0 ≤ s → s < sl 21 m T 1 0 → CE (m 96 0 - 1) s = sl 6 m' 69 1 s ∧ ST (m 96 0 - 1) s = sl 6 m' 69 5 s) → RR (m 96 0 - 1) = sl 6 m' 69 0 1 → (∀ i, i ≠ 1 → sl 6 m' 69 0 i = sl 6 m 69 0 i) → (sl 6 m' 69 2 = sl 6 m 69 2 ∧ sl 6 m' 69 3 = sl 6 m 69 3 ∧ sl 6 m' 69 4 = sl 6 m 69 4 ∧ sl 6 m' 69 6 = sl 6 m 69 6) → Agr (some (m 96 0 - 1, m')) (some (m 96 0 - 1, v')) := by
      intro m' fm q96 q97 q98 qS q1 q2 q3 q4
      refine ⟨_, _, _, rfl, rfl, h1.step fm fv (fun T' hA' hS' hV' hU' => ?_)⟩
      have eT : T' = T := by have := hA'.1.2.1; have := hA.1.2.1; omega
      subst eT
      refine ⟨qS, hV'.set fv (by omega) (fun s p q => ?_) ?_ q3 q4, ?_⟩
      · have := p1 s p (by omega)
        rw [this.1, this.2, (k1 s p q).1, (k1 s p q).2.1, (q1 s p q).1, (q1 s p q).2]; exact ⟨rfl, rfl⟩
      · rw [p2, k2]; exact q2
      · refine ⟨by omega, by omega, CE, ST, RR, ?_, ?_, fun j p q => ?_⟩
        · rw [q96]; exact q1
        · rw [q96]; exact q2
        · rw [q97, q98, v41]; exact g3 j p (by omega)
    have e6 : sl 6 (up m 96 0 (m 96 0 - 1)) 69 = sl 6 m 69 := sl_out (by omega)
    by_cases c2 : m 97 (m 96 0 - 1) = -1
    · rw [if_pos c2]
      rcases k4 with ⟨y1, y2, y3⟩ | ⟨y1, y2, y3⟩
      · have e7 : sl 6 (up (up m 96 0 (m 96 0 - 1)) 69 1 (m 98 (m 96 0 - 1))) 69 = up (sl 6 m 69) 0 1 (m 98 (m 96 0 - 1)) := by rw [sl_up0, e6]
        have ea : up (up m 96 0 (m 96 0 - 1)) 69 1 (m 98 (m 96 0 - 1)) 96 0 = m 96 0 - 1 := by rw [up_a (by omega), up_e]
        rw [ea]
        refine fin _ ((Fm.w1 (by unfold Ps; omega)).w (by unfold Ps; omega)) ea (by rw [up_b (by omega), up_b (by omega)]) (by rw [up_b (by omega), up_b (by omega)]) ?_ ?_ ?_ ?_ ?_
        · rw [e7]; exact hS.rul (by omega)
        · rw [e7]; intro s p q
          rw [up_a (by omega), up_a (by omega), (y3 s p q).1, (y3 s p q).2]; exact g1 s p q
        · rw [e7, up_e]; exact y2
        · rw [e7]; intro i hi; exact up_i hi
        · rw [e7]; exact ⟨up_b (by omega), up_b (by omega), up_b (by omega), up_b (by omega)⟩
      · unfold isS at y1; omega
    · rw [if_neg c2]
      rcases k4 with ⟨y1, y2, y3⟩ | ⟨y1, y2, y3⟩
      · exact absurd y1 c2
      · unfold isS at y1
        have e74 : up (up m 96 0 (m 96 0 - 1)) (69 + 1) (m 97 (m 96 0 - 1)) (m 98 (m 96 0 - 1)) (69 + 5) (m 97 (m 96 0 - 1)) = sl 6 m 69 5 (m 97 (m 96 0 - 1)) := by rw [up_a (by omega), up_a (by omega), sl_e (by omega)]
        have kx := k1 _ y1.1 y1.2
        have gx := g1 _ y1.1 y1.2
        have yx := y3 _ y1.1 y1.2
        rw [if_pos rfl, if_pos rfl] at yx
        have hpc := (hA.2.1.2.1 _ y1.1 y1.2).2.2.1
        have ea : up (up (up m 96 0 (m 96 0 - 1)) (69 + 1) (m 97 (m 96 0 - 1)) (m 98 (m 96 0 - 1))) (69 + 5) (m 97 (m 96 0 - 1)) (sl 6 m 69 5 (m 97 (m 96 0 - 1)) - 1) 96 0 = m 96 0 - 1 := by rw [up_a (by omega), up_a (by omega), up_e]
        rw [gdx_t (by omega), gdx_t (by omega), gdx_t (by omega), e74, gd3_t (by omega), ea]
        have e7 : sl 6 (up (up (up m 96 0 (m 96 0 - 1)) (69 + 1) (m 97 (m 96 0 - 1)) (m 98 (m 96 0 - 1))) (69 + 5) (m 97 (m 96 0 - 1)) (sl 6 m 69 5 (m 97 (m 96 0 - 1)) - 1)) 69 = up (up (sl 6 m 69) 1 (m 97 (m 96 0 - 1)) (m 98 (m 96 0 - 1))) 5 (m 97 (m 96 0 - 1)) (sl 6 m 69 5 (m 97 (m 96 0 - 1)) - 1) := by rw [sl_up (by omega), sl_up (by omega), e6]
        refine fin _ (((Fm.w1 (by unfold Ps; omega)).w (by unfold Ps; omega)).w (by unfold Ps; omega)) ea (by rw [up_b (by omega), up_b (by omega), up_b (by omega)]) (by rw [up_b (by omega), up_b (by omega), up_b (by omega)]) ?_ ?_ ?_ ?_ ?_
        · rw [e7]
          unfold isC at kx
          refine (hS.cell ?_).str ?_
          · rw [← yx.1]; exact kx.2.2.1
          · rw [← gx.2, ← yx.2]; exact kx.2.2.2
        · rw [e7]; intro s p q
          by_cases z : s = m 97 (m 96 0 - 1)
          · rw [z, up_e, up_a (by omega), up_e, yx.1, yx.2, gx.2]; exact ⟨rfl, rfl⟩
          · have ys := y3 s p q
            rw [if_neg z, if_neg z] at ys
            rw [up_i z, up_a (show (1 : Nat) ≠ 5 by omega), up_i z, up_a (show (5 : Nat) ≠ 1 by omega), ys.1, ys.2]; exact g1 s p q
        · rw [e7, up_a (by omega), up_a (by omega), y2]; exact g2
        · rw [e7]; intro i hi; rw [up_a (by omega), up_a (by omega)]
        · rw [e7]
          refine ⟨?_, ?_, ?_, ?_⟩ <;> rw [up_b (by omega), up_b (by omega)]
  · rw [if_neg c, if_pos (by omega)]; exact agr0 h1 _ rfl rfl
/-- one minute as another, where it matters -/
def NE (n n' : Mem) : Prop := (∀ i, 0 ≤ i → i < 5 → n' 0 i = n 0 i) ∧ (∀ c i, 1 ≤ c → c ≤ 5 → 0 ≤ i → i < 5 → n' c i = n c i) ∧ ∀ i, 0 ≤ i → i < 28 → n' 6 i = n 6 i
theorem SN.ne (h : SN w n) (e : NE n n') (hw : w 1 0 ≤ 5 ∧ w 8 1 ≤ 28) : SN w n' := by
  obtain ⟨⟨h1, h2⟩, h3, h4, h5⟩ := h
  obtain ⟨e0, e1, e2⟩ := e
  unfold SN NB
  rw [e0 0 (by omega) (by omega), e0 1 (by omega) (by omega), e0 2 (by omega) (by omega), e0 3 (by omega) (by omega), e0 4 (by omega) (by omega)]
  refine ⟨⟨h1, fun i p q => ?_⟩, h3, fun i p q => ?_, fun k p q => ?_⟩
  · rw [e1 1 i (by omega) (by omega) p (by omega), e1 2 i (by omega) (by omega) p (by omega), e1 3 i (by omega) (by omega) p (by omega), e1 4 i (by omega) (by omega) p (by omega)]; exact h2 i p q
  · rw [e1 4 i (by omega) (by omega) p (by omega), e1 5 i (by omega) (by omega) p (by omega)]; exact h4 i p q
  · rw [e2 k p (by omega)]; exact h5 k p q
theorem r_kp96 : ∀ (d k : Nat) (i : Int) (v : Mem), 0 ≤ i → 28 - i = d → d < k → (∀ j, 0 ≤ j → j < i → v 42 (25 + j) = v 30 j) → ∃ v', G12_keep_96 k v i = some (v 31 0, v') ∧ Fm (fun b i => b = 42 ∨ (b = 0 ∧ 82 ≤ i ∧ i ≤ 86)) v v' ∧ (∀ j, j < 25 → v' 42 j = v 42 j) ∧ (∀ j, 0 ≤ j → j < 28 → v' 42 (25 + j) = v 30 j) ∧ v' 0 82 = v 31 0 ∧ v' 0 83 = v 0 64 ∧ v' 0 84 = v 32 0 ∧ v' 0 85 = v 33 0 ∧ v' 0 86 = v 0 65 := by
  intro d
  induction d with
  | zero =>
    intro k i v a1 a2 a3 h
    obtain ⟨k, rfl⟩ : ∃ j, k = j + 1 := ⟨k - 1, by omega⟩
    rw [G12_keep_96, if_pos (by omega), wt_e, wt_e, wt_e, wt_e, wt_e]
    have e0 : ∀ (z : Mem) (i y j : Int), j ≠ i → up z 0 i y 0 j = z 0 j := fun z i y j q => up_i q
    have e1 : ∀ (z : Mem) (b : Nat) (i y j : Int), b ≠ 0 → up z 0 i y b j = z b j := fun z b i y j q => up_a q
    simp only [e1 _ 31 _ _ _ (by omega), e1 _ 32 _ _ _ (by omega), e1 _ 33 _ _ _ (by omega), e0 _ 82 _ 64 (by omega), e0 _ 84 _ 65 (by omega), e0 _ 83 _ 65 (by omega), e0 _ 82 _ 65 (by omega), e0 _ 85 _ 65 (by omega)]
    refine ⟨_, rfl, ((((Fm.w1 (by omega)).w (by omega)).w (by omega)).w (by omega)).w (by omega), fun j hj => ?_, fun j p q => ?_, ?_, ?_, ?_, ?_, up_e⟩
    · simp only [e1 _ 42 _ _ _ (by omega)]
    · simp only [e1 _ 42 _ _ _ (by omega)]; exact h j p (by omega)
    · rw [e0 _ _ _ _ (by omega), e0 _ _ _ _ (by omega), e0 _ _ _ _ (by omega), e0 _ _ _ _ (by omega), up_e]
    · rw [e0 _ _ _ _ (by omega), e0 _ _ _ _ (by omega), e0 _ _ _ _ (by omega), up_e]
    · rw [e0 _ _ _ _ (by omega), e0 _ _ _ _ (by omega), up_e]
    · rw [e0 _ _ _ _ (by omega), up_e]
  | succ d ih =>
    intro k i v a1 a2 a3 h
    obtain ⟨k, rfl⟩ : ∃ j, k = j + 1 := ⟨k - 1, by omega⟩
    rw [G12_keep_96, if_neg (by omega), gdx_t (by omega), gdx_t (by omega), wt_e, gd3_t (by omega)]
    have eb : ∀ b j, b ≠ 42 → up v 42 (25 + i) (v 30 i) b j = v b j := fun b j q => up_a q
    obtain ⟨v', z1, z2, z3, z4, z5⟩ := ih k (i + 1) (up v 42 (25 + i) (v 30 i)) (by omega) (by omega) (by omega) (fun j p q => by
      rw [eb 30 j (by omega)]
      by_cases z : j = i
      · rw [z, up_e]
      · rw [up_i (by omega)]; exact h j p (by omega))
    simp only [eb 30 _ (by omega), eb 31 _ (by omega), eb 32 _ (by omega), eb 33 _ (by omega), eb 0 _ (by omega)] at z1 z4 z5
    refine ⟨v', z1, (Fm.w1 (Or.inl rfl)).tr z2, fun j hj => ?_, z4, z5⟩
    rw [z3 j hj, up_i (by omega)]
theorem r_kp12 : ∀ (d k : Nat) (i : Int) (v : Mem), 0 ≤ i → 5 - i = d → d < k → (∀ j, 0 ≤ j → j < i → v 42 j = v 25 j ∧ v 42 (5 + j) = v 26 j ∧ v 42 (10 + j) = v 27 j ∧ v 42 (15 + j) = v 28 j ∧ v 42 (20 + j) = v 29 j) → ∃ v', G12_keep_12 k v i = some (v 31 0, v') ∧ Fm (fun b i => b = 42 ∨ (b = 0 ∧ 82 ≤ i ∧ i ≤ 86)) v v' ∧ (∀ j, 0 ≤ j → j < 5 → v' 42 j = v 25 j ∧ v' 42 (5 + j) = v 26 j ∧ v' 42 (10 + j) = v 27 j ∧ v' 42 (15 + j) = v 28 j ∧ v' 42 (20 + j) = v 29 j) ∧ (∀ j, 0 ≤ j → j < 28 → v' 42 (25 + j) = v 30 j) ∧ v' 0 82 = v 31 0 ∧ v' 0 83 = v 0 64 ∧ v' 0 84 = v 32 0 ∧ v' 0 85 = v 33 0 ∧ v' 0 86 = v 0 65 := by
  intro d
  induction d with
  | zero =>
    intro k i v a1 a2 a3 h
    obtain ⟨k, rfl⟩ : ∃ j, k = j + 1 := ⟨k - 1, by omega⟩
    rw [G12_keep_12, if_pos (by omega)]
    obtain ⟨v', z1, z2, z3, z4⟩ := r_kp96 28 1024 0 v (by omega) (by omega) (by omega) (fun j p q => by omega)
    refine ⟨v', z1, z2, fun j p q => ?_, z4⟩
    rw [z3 _ (by omega), z3 _ (by omega), z3 _ (by omega), z3 _ (by omega), z3 _ (by omega)]
    exact h j p (by omega)
  | succ d ih =>
    intro k i v a1 a2 a3 h
    obtain ⟨k, rfl⟩ : ∃ j, k = j + 1 := ⟨k - 1, by omega⟩
    have eb : ∀ (z : Mem) (a y : Int) b j, b ≠ 42 → up z 42 a y b j = z b j := fun z a y b j q => up_a q
    rw [G12_keep_12, if_neg (by omega)]
    simp only [gdx_t (show 0 ≤ i ∧ i < 10 by omega), gdx_t (show 0 ≤ i ∧ i < 5 by omega), gdx_t (show 0 ≤ i ∧ i < 53 by omega), gdx_t (show 0 ≤ 5 + i ∧ 5 + i < 53 by omega), gdx_t (show 0 ≤ 10 + i ∧ 10 + i < 53 by omega), gdx_t (show 0 ≤ 15 + i ∧ 15 + i < 53 by omega), gdx_t (show 0 ≤ 20 + i ∧ 20 + i < 53 by omega), gd3_t (show -2147483648 ≤ i + 1 ∧ i + 1 ≤ 2147483647 by omega), wt_e, eb _ _ _ 26 _ (by omega), eb _ _ _ 27 _ (by omega), eb _ _ _ 28 _ (by omega), eb _ _ _ 29 _ (by omega)]
    obtain ⟨v', z1, z2, z3, z4, z5⟩ := ih k (i + 1) (up (up (up (up (up v 42 i (v 25 i)) 42 (5 + i) (v 26 i)) 42 (10 + i) (v 27 i)) 42 (15 + i) (v 28 i)) 42 (20 + i) (v 29 i)) (by omega) (by omega) (by omega) (fun j p q => by
      simp only [eb _ _ _ 25 _ (by omega), eb _ _ _ 26 _ (by omega), eb _ _ _ 27 _ (by omega), eb _ _ _ 28 _ (by omega), eb _ _ _ 29 _ (by omega)]
      by_cases z : j = i
      · subst z
        refine ⟨?_, ?_, ?_, ?_, up_e⟩
        · rw [up_i (by omega), up_i (by omega), up_i (by omega), up_i (by omega), up_e]
        · rw [up_i (by omega), up_i (by omega), up_i (by omega), up_e]
        · rw [up_i (by omega), up_i (by omega), up_e]
        · rw [up_i (by omega), up_e]
      · have hh := h j p (by omega)
        refine ⟨?_, ?_, ?_, ?_, ?_⟩ <;> rw [up_i (by omega), up_i (by omega), up_i (by omega), up_i (by omega), up_i (by omega)]
        · exact hh.1
        · exact hh.2.1
        · exact hh.2.2.1
        · exact hh.2.2.2.1
        · exact hh.2.2.2.2)
    simp only [eb _ _ _ 25 _ (by omega), eb _ _ _ 26 _ (by omega), eb _ _ _ 27 _ (by omega), eb _ _ _ 28 _ (by omega), eb _ _ _ 29 _ (by omega), eb _ _ _ 30 _ (by omega), eb _ _ _ 31 _ (by omega), eb _ _ _ 32 _ (by omega), eb _ _ _ 33 _ (by omega), eb _ _ _ 0 _ (by omega)] at z1 z3 z4 z5
    exact ⟨v', z1, (((((Fm.w1 (Or.inl rfl)).w (Or.inl rfl)).w (Or.inl rfl)).w (Or.inl rfl)).w (Or.inl rfl)).tr z2, z3, z4, z5⟩
theorem a_keep (h : Rel m v) : Agr (G11_keep m) (G12_keep v) := by
  have h1 := h.v0
  unfold G11_keep G11_keep_0 G12_keep G12_keep_0
  rw [wt_e, wt_e]
  generalize up v 0 2 0 = u at h1 ⊢
  obtain ⟨T, hA, hS, hV, hI, hN, hU, hP, hF, hX⟩ := h1.all
  have hw := hA.2.1.1
  unfold WS at hw
  obtain ⟨m1, e1, f1, k1, k2, k3⟩ := c_tall (m := m) (a := 83) (b := 69) (by omega) (by omega) (by omega)
  obtain ⟨u1, e2, f2, p1, p2, p3, p4, p5, p6, p7⟩ := r_kp12 5 1024 0 (up u 0 80 1) (by omega) (by omega) (by omega) (fun j p q => by omega)
  rw [e1, bs1, wt_e, e2]
  have ea : up m1 0 10 1 69 0 = m 69 0 := by rw [up_a (by omega), f1 69 0 (by unfold PA; omega)]
  have eb : up u 0 80 1 31 0 = m 69 0 := by rw [up_a (by omega)]; exact hV.2.1
  rw [ea, eb]
  have fm : Fm (fun b i => (83 ≤ b ∧ b ≤ 89) ∨ (b = 0 ∧ i = 10)) m (up m1 0 10 1) := (f1.fm.mono (fun b i q => by unfold PA at q; omega)).w (Or.inr ⟨rfl, rfl⟩)
  have fv : Fm (fun b i => b = 42 ∨ (b = 0 ∧ 80 ≤ i ∧ i ≤ 86)) u u1 := (Fm.w1 (by omega)).tr (f2.mono (fun b i q => by omega))
  obtain ⟨j1, ew⟩ := hA.f fm fv (by intro b i q; omega) (by intro b i q; omega)
  have en : sl 6 (up m1 0 10 1) 69 = sl 6 m 69 := sl_c (fun b x y => fm.rw1 (fun i => by omega))
  have hne : NE (sl 6 m 69) (sl 6 (up m1 0 10 1) 83) := by
    rw [sl_out (by omega)]
    refine ⟨fun i p q => ?_, fun c i a b p q => ?_, fun i p q => ?_⟩
    · rw [sl_e (by omega), sl_e (by omega)]; exact k1 i p q
    · rw [sl_e (by omega), sl_e (by omega)]; exact k2 c i a b p q
    · rw [sl_e (by omega), sl_e (by omega)]; exact k3 i p q
  have u0 : ∀ b i, b ≠ 0 → up u 0 80 1 b i = u b i := fun b i q => up_a q
  simp only [u0 25 _ (by omega), u0 26 _ (by omega), u0 27 _ (by omega), u0 28 _ (by omega), u0 29 _ (by omega), u0 30 _ (by omega), u0 31 _ (by omega), u0 32 _ (by omega), u0 33 _ (by omega), up_i (show (64 : Int) ≠ 80 by omega), up_i (show (65 : Int) ≠ 80 by omega)] at p1 p2 p3 p4 p5 p6 p7
  refine ⟨_, _, _, rfl, rfl, Rel.of (T := T) ⟨j1, ?_, ?_, ?_, ?_, ?_, ?_, ?_, ?_⟩⟩
  · rw [ew, en]; exact hS
  · rw [ew, en]; exact hV.f fv (by omega) (by intro b i q; omega)
  · rw [ew]
    have e80 : u1 0 80 = 1 := by rw [f2 0 80 (by omega)]; exact up_e
    refine ⟨by rw [up_e, e80], Or.inr ⟨up_e, hS.ne hne (by omega), ?_⟩⟩
    obtain ⟨⟨a1, a2, a3, a4, a5⟩, a6, a7, a8, a9⟩ := hV
    obtain ⟨n0, n1, n2⟩ := hne
    refine ⟨fun s p q => ?_, fun k p q => ?_, ?_, ?_, ?_, ?_, ?_⟩
    · have b1 := p1 s p (by omega)
      have b2 := a1 s p q
      have b3 := a8 s p q
      rw [show 5 * (0 : Int) + s = s by omega] at b2
      rw [n1 1 s (by omega) (by omega) p (by omega), n1 2 s (by omega) (by omega) p (by omega), n1 3 s (by omega) (by omega) p (by omega), n1 4 s (by omega) (by omega) p (by omega), n1 5 s (by omega) (by omega) p (by omega), b1.1, b1.2.1, b1.2.2.1, b1.2.2.2.1, b1.2.2.2.2]
      exact ⟨b2.1, b2.2.1, b2.2.2, b3.1, b3.2⟩
    · have b2 := a2 k p q
      rw [show 28 * (0 : Int) + k = k by omega] at b2
      rw [p2 k p (by omega), n2 k p (by omega)]; exact b2
    · rw [p3, n0 0 (by omega) (by omega)]; exact a6
    · rw [p4, n0 1 (by omega) (by omega)]; exact a7
    · rw [p5, n0 3 (by omega) (by omega)]; exact a3
    · rw [p6, n0 4 (by omega) (by omega)]; exact a4
    · rw [p7, n0 2 (by omega) (by omega)]; exact a5
  · rw [ew]; exact hN.f fm fv (by intro b i q; omega) (by intro b i q; omega)
  · rw [ew, en]; exact hU.f fm fv (by intro b i q; omega) (by intro b i q; omega)
  · exact hP.f fm fv (by intro b i q; omega) (by intro b i q; omega)
  · rw [fm 46 8 (by omega), fm 46 9 (by omega), fv 0 4 (by omega), fv 0 5 (by omega)]; exact hF
  · intro i p q; rw [fm 102 i (by omega)]; exact hX i p q
theorem r_bk100 : ∀ (d k : Nat) (i : Int) (v : Mem), 0 ≤ i → 28 - i = d → d < k → (∀ j, 0 ≤ j → j < i → v 30 j = v 42 (25 + j)) → ∃ v', G12_back_100 k v i = some (v 0 82, v') ∧ Fm (fun b i => b = 30 ∨ ((31 ≤ b ∧ b ≤ 33) ∧ i = 0) ∨ (b = 0 ∧ (i = 64 ∨ i = 65 ∨ i = 78))) v v' ∧ (∀ j, 0 ≤ j → j < 28 → v' 30 j = v 42 (25 + j)) ∧ v' 31 0 = v 0 82 ∧ v' 0 64 = v 0 83 ∧ v' 32 0 = v 0 84 ∧ v' 33 0 = v 0 85 ∧ v' 0 65 = v 0 86 ∧ v' 0 78 = 0 := by
  intro d
  induction d with
  | zero =>
    intro k i v a1 a2 a3 h
    obtain ⟨k, rfl⟩ : ∃ j, k = j + 1 := ⟨k - 1, by omega⟩
    rw [G12_back_100, if_pos (by omega)]
    simp only [wt_e]
    refine ⟨_, ?_, (((((Fm.w1 (a := 31) (i := 0) (v := v 0 82) (by omega)).w (a := 0) (i := 64) (v := v 0 83) (by omega)).w (a := 32) (i := 0) (v := v 0 84) (by omega)).w (a := 33) (i := 0) (v := v 0 85) (by omega)).w (a := 0) (i := 65) (v := v 0 86) (by omega)).w (a := 0) (i := 78) (v := 0) (by omega), fun j p q => ?_, ?_, ?_, ?_, ?_, ?_, up_e⟩
    · simp only [up_a (show (0 : Nat) ≠ 31 by omega), up_a (show (0 : Nat) ≠ 32 by omega), up_a (show (0 : Nat) ≠ 33 by omega), up_a (show (31 : Nat) ≠ 0 by omega), up_a (show (31 : Nat) ≠ 32 by omega), up_a (show (31 : Nat) ≠ 33 by omega), up_i (show (84 : Int) ≠ 64 by omega), up_i (show (85 : Int) ≠ 64 by omega), up_i (show (86 : Int) ≠ 64 by omega), up_e]
    · rw [up_a (by omega), up_a (by omega), up_a (by omega), up_a (by omega), up_a (by omega), up_a (by omega)]; exact h j p (by omega)
    · rw [up_a (by omega), up_a (by omega), up_a (by omega), up_a (by omega), up_a (by omega), up_e]
    · rw [up_i (by omega), up_i (by omega), up_a (by omega), up_a (by omega), up_e]
    · rw [up_a (by omega), up_a (by omega), up_a (by omega), up_e]
    · rw [up_a (by omega), up_a (by omega), up_e]
    · rw [up_i (by omega), up_e]
  | succ d ih =>
    intro k i v a1 a2 a3 h
    obtain ⟨k, rfl⟩ : ∃ j, k = j + 1 := ⟨k - 1, by omega⟩
    rw [G12_back_100, if_neg (by omega), gdx_t (by omega), gdx_t (by omega), wt_e, gd3_t (by omega)]
    have eb : ∀ b j, b ≠ 30 → up v 30 i (v 42 (25 + i)) b j = v b j := fun b j q => up_a q
    obtain ⟨v', z1, z2, z3, z4⟩ := ih k (i + 1) (up v 30 i (v 42 (25 + i))) (by omega) (by omega) (by omega) (fun j p q => by
      rw [eb 42 _ (by omega)]
      by_cases z : j = i
      · rw [z, up_e]
      · rw [up_i (by omega)]; exact h j p (by omega))
    simp only [eb 42 _ (by omega), eb 0 _ (by omega)] at z1 z3 z4
    exact ⟨v', z1, (Fm.w1 (Or.inl rfl)).tr z2, z3, z4⟩
theorem r_bk16 : ∀ (d k : Nat) (i : Int) (v : Mem), 0 ≤ i → 5 - i = d → d < k → (∀ j, 0 ≤ j → j < i → v 25 j = v 42 j ∧ v 26 j = v 42 (5 + j) ∧ v 27 j = v 42 (10 + j) ∧ v 28 j = v 42 (15 + j) ∧ v 29 j = v 42 (20 + j)) → ∃ v', G12_back_16 k v i = some (v 0 82, v') ∧ Fm (fun b i => (25 ≤ b ∧ b ≤ 30) ∨ ((31 ≤ b ∧ b ≤ 33) ∧ i = 0) ∨ (b = 0 ∧ (i = 64 ∨ i = 65 ∨ i = 78))) v v' ∧ (∀ j, 0 ≤ j → j < 5 → v' 25 j = v 42 j ∧ v' 26 j = v 42 (5 + j) ∧ v' 27 j = v 42 (10 + j) ∧ v' 28 j = v 42 (15 + j) ∧ v' 29 j = v 42 (20 + j)) ∧ (∀ j, 0 ≤ j → j < 28 → v' 30 j = v 42 (25 + j)) ∧ v' 31 0 = v 0 82 ∧ v' 0 64 = v 0 83 ∧ v' 32 0 = v 0 84 ∧ v' 33 0 = v 0 85 ∧ v' 0 65 = v 0 86 ∧ v' 0 78 = 0 := by
  intro d
  induction d with
  | zero =>
    intro k i v a1 a2 a3 h
    obtain ⟨k, rfl⟩ : ∃ j, k = j + 1 := ⟨k - 1, by omega⟩
    rw [G12_back_16, if_pos (by omega)]
    obtain ⟨v', z1, z2, z3, z4⟩ := r_bk100 28 1024 0 v (by omega) (by omega) (by omega) (fun j p q => by omega)
    refine ⟨v', z1, z2.mono (fun b i q => by omega), fun j p q => ?_, z3, z4⟩
    rw [z2 25 j (by omega), z2 26 j (by omega), z2 27 j (by omega), z2 28 j (by omega), z2 29 j (by omega)]
    exact h j p (by omega)
  | succ d ih =>
    intro k i v a1 a2 a3 h
    obtain ⟨k, rfl⟩ : ∃ j, k = j + 1 := ⟨k - 1, by omega⟩
    have eb : ∀ (z : Mem) (a : Nat) (i y : Int) j, a ≠ 42 → up z a i y 42 j = z 42 j := fun z a i y j q => up_a (fun e => q e.symm)
    rw [G12_back_16, if_neg (by omega)]
    simp only [gdx_t (show 0 ≤ i ∧ i < 10 by omega), gdx_t (show 0 ≤ i ∧ i < 5 by omega), gdx_t (show 0 ≤ i ∧ i < 53 by omega), gdx_t (show 0 ≤ 5 + i ∧ 5 + i < 53 by omega), gdx_t (show 0 ≤ 10 + i ∧ 10 + i < 53 by omega), gdx_t (show 0 ≤ 15 + i ∧ 15 + i < 53 by omega), gdx_t (show 0 ≤ 20 + i ∧ 20 + i < 53 by omega), gd3_t (show -2147483648 ≤ i + 1 ∧ i + 1 ≤ 2147483647 by omega), wt_e, eb _ 25 _ _ _ (by omega), eb _ 26 _ _ _ (by omega), eb _ 27 _ _ _ (by omega), eb _ 28 _ _ _ (by omega)]
    have e42 : ∀ j, up (up (up (up (up v 25 i (v 42 i)) 26 i (v 42 (5 + i))) 27 i (v 42 (10 + i))) 28 i (v 42 (15 + i))) 29 i (v 42 (20 + i)) 42 j = v 42 j := fun j => by
      rw [eb _ _ _ _ _ (by omega), eb _ _ _ _ _ (by omega), eb _ _ _ _ _ (by omega), eb _ _ _ _ _ (by omega), eb _ _ _ _ _ (by omega)]
    have e0 : ∀ j, up (up (up (up (up v 25 i (v 42 i)) 26 i (v 42 (5 + i))) 27 i (v 42 (10 + i))) 28 i (v 42 (15 + i))) 29 i (v 42 (20 + i)) 0 j = v 0 j := fun j => by
      rw [up_a (by omega), up_a (by omega), up_a (by omega), up_a (by omega), up_a (by omega)]
    obtain ⟨v', z1, z2, z3, z4, z5⟩ := ih k (i + 1) (up (up (up (up (up v 25 i (v 42 i)) 26 i (v 42 (5 + i))) 27 i (v 42 (10 + i))) 28 i (v 42 (15 + i))) 29 i (v 42 (20 + i))) (by omega) (by omega) (by omega) (fun j p q => by
      simp only [e42]
      by_cases z : j = i
      · subst z
        refine ⟨?_, ?_, ?_, ?_, up_e⟩
        · rw [up_a (by omega), up_a (by omega), up_a (by omega), up_a (by omega), up_e]
        · rw [up_a (by omega), up_a (by omega), up_a (by omega), up_e]
        · rw [up_a (by omega), up_a (by omega), up_e]
        · rw [up_a (by omega), up_e]
      · have hh := h j p (by omega)
        refine ⟨?_, ?_, ?_, ?_, ?_⟩
        · rw [up_a (by omega), up_a (by omega), up_a (by omega), up_a (by omega), up_i z]; exact hh.1
        · rw [up_a (by omega), up_a (by omega), up_a (by omega), up_i z, up_a (by omega)]; exact hh.2.1
        · rw [up_a (by omega), up_a (by omega), up_i z, up_a (by omega), up_a (by omega)]; exact hh.2.2.1
        · rw [up_a (by omega), up_i z, up_a (by omega), up_a (by omega), up_a (by omega)]; exact hh.2.2.2.1
        · rw [up_i z, up_a (by omega), up_a (by omega), up_a (by omega), up_a (by omega)]; exact hh.2.2.2.2)
    simp only [e42, e0] at z1 z3 z4 z5
    exact ⟨v', z1, (((((Fm.w1 (by omega)).w (by omega)).w (by omega)).w (by omega)).w (by omega)).tr z2, z3, z4, z5⟩
theorem a_back (h : Rel m v) : Agr (G11_back m) (G12_back v) := by
  have h1 := h.v0
  unfold G11_back G11_back_0 G12_back G12_back_0
  simp only [wt_e]
  generalize up v 0 2 0 = u at h1 ⊢
  obtain ⟨T, hA, hS, hV, hI, hN, hU, hP, hF, hX⟩ := h1.all
  have hw := hA.2.1.1
  unfold WS at hw
  rw [← hI.1]
  by_cases c : m 0 10 = 0
  · rw [if_pos c, if_pos c]; exact agr0 h1 _ rfl rfl
  · rw [if_neg c, if_neg c]
    obtain ⟨iS, iV⟩ : SN (sl 21 m T) (sl 6 m 83) ∧ SI (sl 21 m T) (sl 6 m 83) u := by
      rcases hI.2 with q | q
      · exact absurd q c
      · exact q.2
    obtain ⟨m1, e1, f1, k1, k2, k3⟩ := c_tall (m := m) (a := 69) (b := 83) (by omega) (by omega) (by omega)
    obtain ⟨u1, e2, f2, p1, p2, p3, p4, p5, p6, p7, p8⟩ := r_bk16 5 1024 0 u (by omega) (by omega) (by omega) (fun j p q => by omega)
    rw [e1, bs1, e2]
    have ea : up m1 96 0 0 69 0 = m 83 0 := by rw [up_a (by omega)]; exact k1 0 (by omega) (by omega)
    have eb : u 0 82 = m 83 0 := iV.2.2.1
    rw [ea, eb]
    have fm : Fm (fun b i => (69 ≤ b ∧ b ≤ 75) ∨ (b = 96 ∧ i = 0)) m (up m1 96 0 0) := (f1.fm.mono (fun b i q => by unfold PA at q; omega)).w (Or.inr ⟨rfl, rfl⟩)
    obtain ⟨j1, ew⟩ := hA.f fm f2 (by intro b i q; omega) (by intro b i q; omega)
    have hne : NE (sl 6 m 83) (sl 6 (up m1 96 0 0) 69) := by
      rw [sl_out (by omega)]
      refine ⟨fun i p q => ?_, fun c i a b p q => ?_, fun i p q => ?_⟩
      · rw [sl_e (by omega), sl_e (by omega)]; exact k1 i p q
      · rw [sl_e (by omega), sl_e (by omega)]; exact k2 c i a b p q
      · rw [sl_e (by omega), sl_e (by omega)]; exact k3 i p q
    obtain ⟨s1, s2, s3, s4, s5, s6, s7⟩ := iV
    refine ⟨_, _, _, rfl, rfl, Rel.of (T := T) ⟨j1, ?_, ?_, ?_, ?_, ?_, ?_, ?_, ?_⟩⟩
    · rw [ew]; exact iS.ne hne (by omega)
    · rw [ew]
      obtain ⟨n0, n1, n2⟩ := hne
      refine ⟨⟨fun s p q => ?_, fun k p q => ?_, ?_, ?_, ?_⟩, ?_, ?_, fun s p q => ?_, ?_⟩
      · have b1 := p1 s p (by omega)
        have b2 := s1 s p q
        rw [show 5 * (0 : Int) + s = s by omega, n1 1 s (by omega) (by omega) p (by omega), n1 2 s (by omega) (by omega) p (by omega), n1 3 s (by omega) (by omega) p (by omega), b1.1, b1.2.1, b1.2.2.1]
        exact ⟨b2.1, b2.2.1, b2.2.2.1⟩
      · rw [show 28 * (0 : Int) + k = k by omega, p2 k p (by omega), n2 k p (by omega)]; exact s2 k p q
      · rw [p5, n0 3 (by omega) (by omega)]; exact s5
      · rw [p6, n0 4 (by omega) (by omega)]; exact s6
      · rw [p7, n0 2 (by omega) (by omega)]; exact s7
      · rw [p3, n0 0 (by omega) (by omega)]; exact s3
      · rw [p4, n0 1 (by omega) (by omega)]; exact s4
      · have b1 := p1 s p (by omega)
        have b2 := s1 s p q
        rw [n1 4 s (by omega) (by omega) p (by omega), n1 5 s (by omega) (by omega) p (by omega), b1.2.2.2.1, b1.2.2.2.2]
        exact ⟨b2.2.2.2.1, b2.2.2.2.2⟩
      · rw [f2 0 66 (by omega)]; exact hV.2.2.2.2
    · rw [ew]; exact hI.f fm f2 (by intro b i q; omega) (by intro b i q; omega)
    · rw [ew]; exact hN.f fm f2 (by intro b i q; omega) (by intro b i q; omega)
    · rw [ew]
      have e96 : up m1 96 0 0 96 0 = 0 := up_e
      refine ⟨by rw [e96, p8], by rw [e96]; omega, fun _ s => sl 6 (up m1 96 0 0) 69 1 s, fun _ s => sl 6 (up m1 96 0 0) 69 5 s, fun _ => sl 6 (up m1 96 0 0) 69 0 1, fun s p q => ⟨rfl, rfl⟩, rfl, fun j p q => by rw [e96] at q; omega⟩
    · exact hP.f fm f2 (by intro b i q; omega) (by intro b i q; omega)
    · rw [fm 46 8 (by omega), fm 46 9 (by omega), f2 0 4 (by omega), f2 0 5 (by omega)]; exact hF
    · intro i p q; rw [fm 102 i (by omega)]; exact hX i p q
end Q16
