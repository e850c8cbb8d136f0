section Q16
variable {m v m' v' w g n n' : Mem} {T : Nat}
theorem r_kp96 : ∀ (d k : Nat) (i : Int) (v : Mem), 0 ≤ i → 28 - i = d → d < k → (∀ j, 0 ≤ j → j < i → v 42 (25 + j) = v 30 j) → ∃ v', G12_keep_96 k v i = some (v 31 0, v') ∧ Fm (fun b i => b = 42 ∨ (b = 0 ∧ 82 ≤ i ∧ i ≤ 86)) v v' ∧ (∀ j, j < 25 → v' 42 j = v 42 j) ∧ (∀ j, 0 ≤ j → j < 28 → v' 42 (25 + j) = v 30 j) ∧ v' 0 82 = v 31 0 ∧ v' 0 83 = v 0 64 ∧ v' 0 84 = v 32 0 ∧ v' 0 85 = v 33 0 ∧ v' 0 86 = v 0 65 := by
  intro d
  induction d with
  | zero =>
    intro k i v a1 a2 a3 h
    obtain ⟨k, rfl⟩ : ∃ j, k = j + 1 := ⟨k - 1, by first | decide | omega⟩
    rw [G12_keep_96, if_pos (by first | decide | omega), wt_e, wt_e, wt_e, wt_e, wt_e]
    have e0 : ∀ (z : Mem) (i y j : Int), j ≠ i → up z 0 i y 0 j = z 0 j := fun z i y j q => up_i q
    have e1 : ∀ (z : Mem) (b : Nat) (i y j : Int), b ≠ 0 → up z 0 i y b j = z b j := fun z b i y j q => up_a q
    simp only [e1 _ 31 _ _ _ (by first | decide | omega), e1 _ 32 _ _ _ (by first | decide | omega), e1 _ 33 _ _ _ (by first | decide | omega), e0 _ 82 _ 64 (by first | decide | omega), e0 _ 84 _ 65 (by first | decide | omega), e0 _ 83 _ 65 (by first | decide | omega), e0 _ 82 _ 65 (by first | decide | omega), e0 _ 85 _ 65 (by first | decide | omega)]
    refine ⟨_, rfl, ((((Fm.w1 (by first | decide | omega)).w (by first | decide | omega)).w (by first | decide | omega)).w (by first | decide | omega)).w (by first | decide | omega), fun j hj => ?_, fun j p q => ?_, ?_, ?_, ?_, ?_, up_e⟩
    · simp only [e1 _ 42 _ _ _ (by first | decide | omega)]
    · simp only [e1 _ 42 _ _ _ (by first | decide | omega)]; exact h j p (by first | decide | omega)
    · rw [e0 _ _ _ _ (by first | decide | omega), e0 _ _ _ _ (by first | decide | omega), e0 _ _ _ _ (by first | decide | omega), e0 _ _ _ _ (by first | decide | omega), up_e]
    · rw [e0 _ _ _ _ (by first | decide | omega), e0 _ _ _ _ (by first | decide | omega), e0 _ _ _ _ (by first | decide | omega), up_e]
    · rw [e0 _ _ _ _ (by first | decide | omega), e0 _ _ _ _ (by first | decide | omega), up_e]
    · rw [e0 _ _ _ _ (by first | decide | omega), up_e]
  | succ d ih =>
    intro k i v a1 a2 a3 h
    obtain ⟨k, rfl⟩ : ∃ j, k = j + 1 := ⟨k - 1, by first | decide | omega⟩
    rw [G12_keep_96, if_neg (by first | decide | omega), gdx_t (by first | decide | omega), gdx_t (by first | decide | omega), wt_e, gd3_t (by first | decide | omega)]
    have eb : ∀ b j, b ≠ 42 → up v 42 (25 + i) (v 30 i) b j = v b j := fun b j q => up_a q
    obtain ⟨v', z1, z2, z3, z4, z5⟩ := ih k (i + 1) (up v 42 (25 + i) (v 30 i)) (by first | decide | omega) (by first | decide | omega) (by first | decide | omega) (fun j p q => by
      rw [eb 30 j (by first | decide | omega)]
      by_cases z : j = i
      · rw [z, up_e]
      · rw [up_i (by first | decide | omega)]; exact h j p (by first | decide | omega))
    simp only [eb 30 _ (by first | decide | omega), eb 31 _ (by first | decide | omega), eb 32 _ (by first | decide | omega), eb 33 _ (by first | decide | omega), eb 0 _ (by first | decide | omega)] at z1 z4 z5
    refine ⟨v', z1, (Fm.w1 (Or.inl rfl)).tr z2, fun j hj => ?_, z4, z5⟩
    rw [z3 j hj, up_i (by first | decide | omega)]
theorem r_kp12 : ∀ (d k : Nat) (i : Int) (v : Mem), 0 ≤ i → 5 - i = d → d < k → (∀ j, 0 ≤ j → j < i → v 42 j = v 25 j ∧ v 42 (5 + j) = v 26 j ∧ v 42 (10 + j) = v 27 j ∧ v 42 (15 + j) = v 28 j ∧ v 42 (20 + j) = v 29 j) → ∃ v', G12_keep_12 k v i = some (v 31 0, v') ∧ Fm (fun b i => b = 42 ∨ (b = 0 ∧ 82 ≤ i ∧ i ≤ 86)) v v' ∧ (∀ j, 0 ≤ j → j < 5 → v' 42 j = v 25 j ∧ v' 42 (5 + j) = v 26 j ∧ v' 42 (10 + j) = v 27 j ∧ v' 42 (15 + j) = v 28 j ∧ v' 42 (20 + j) = v 29 j) ∧ (∀ j, 0 ≤ j → j < 28 → v' 42 (25 + j) = v 30 j) ∧ v' 0 82 = v 31 0 ∧ v' 0 83 = v 0 64 ∧ v' 0 84 = v 32 0 ∧ v' 0 85 = v 33 0 ∧ v' 0 86 = v 0 65 := by
  intro d
  induction d with
  | zero =>
    intro k i v a1 a2 a3 h
    obtain ⟨k, rfl⟩ : ∃ j, k = j + 1 := ⟨k - 1, by first | decide | omega⟩
    rw [G12_keep_12, if_pos (by first | decide | omega)]
    obtain ⟨v', z1, z2, z3, z4⟩ := r_kp96 28 1024 0 v (by first | decide | omega) (by first | decide | omega) (by first | decide | omega) (fun j p q => by first | decide | omega)
    refine ⟨v', z1, z2, fun j p q => ?_, z4⟩
    rw [z3 _ (by first | decide | omega), z3 _ (by first | decide | omega), z3 _ (by first | decide | omega), z3 _ (by first | decide | omega), z3 _ (by first | decide | omega)]
    exact h j p (by first | decide | omega)
  | succ d ih =>
    intro k i v a1 a2 a3 h
    obtain ⟨k, rfl⟩ : ∃ j, k = j + 1 := ⟨k - 1, by first | decide | omega⟩
    have eb : ∀ (z : Mem) (a y : Int) b j, b ≠ 42 → up z 42 a y b j = z b j := fun z a y b j q => up_a q
    rw [G12_keep_12, if_neg (by first | decide | omega)]
    simp only [gdx_t (show 0 ≤ i ∧ i < 10 by first | decide | omega), gdx_t (show 0 ≤ i ∧ i < 5 by first | decide | omega), gdx_t (show 0 ≤ i ∧ i < 53 by first | decide | omega), gdx_t (show 0 ≤ 5 + i ∧ 5 + i < 53 by first | decide | omega), gdx_t (show 0 ≤ 10 + i ∧ 10 + i < 53 by first | decide | omega), gdx_t (show 0 ≤ 15 + i ∧ 15 + i < 53 by first | decide | omega), gdx_t (show 0 ≤ 20 + i ∧ 20 + i < 53 by first | decide | omega), gd3_t (show -2147483648 ≤ i + 1 ∧ i + 1 ≤ 2147483647 by first | decide | omega), wt_e, eb _ _ _ 26 _ (by first | decide | omega), eb _ _ _ 27 _ (by first | decide | omega), eb _ _ _ 28 _ (by first | decide | omega), eb _ _ _ 29 _ (by first | decide | omega)]
    obtain ⟨v', z1, z2, z3, z4, z5⟩ := ih k (i + 1) (up (up (up (up (up v 42 i (v 25 i)) 42 (5 + i) (v 26 i)) 42 (10 + i) (v 27 i)) 42 (15 + i) (v 28 i)) 42 (20 + i) (v 29 i)) (by first | decide | omega) (by first | decide | omega) (by first | decide | omega) (fun j p q => by
      simp only [eb _ _ _ 25 _ (by first | decide | omega), eb _ _ _ 26 _ (by first | decide | omega), eb _ _ _ 27 _ (by first | decide | omega), eb _ _ _ 28 _ (by first | decide | omega), eb _ _ _ 29 _ (by first | decide | omega)]
      by_cases z : j = i
      · subst z
        refine ⟨?_, ?_, ?_, ?_, up_e⟩
        · rw [up_i (by first | decide | omega), up_i (by first | decide | omega), up_i (by first | decide | omega), up_i (by first | decide | omega), up_e]
        · rw [up_i (by first | decide | omega), up_i (by first | decide | omega), up_i (by first | decide | omega), up_e]
        · rw [up_i (by first | decide | omega), up_i (by first | decide | omega), up_e]
        · rw [up_i (by first | decide | omega), up_e]
      · have hh := h j p (by first | decide | omega)
        refine ⟨?_, ?_, ?_, ?_, ?_⟩ <;> rw [up_i (by first | decide | omega), up_i (by first | decide | omega), up_i (by first | decide | omega), up_i (by first | decide | omega), up_i (by first | decide | omega)]
        · exact hh.1
        · exact hh.2.1
        · exact hh.2.2.1
        · exact hh.2.2.2.1
        · exact hh.2.2.2.2)
    simp only [eb _ _ _ 25 _ (by first | decide | omega), eb _ _ _ 26 _ (by first | decide | omega), eb _ _ _ 27 _ (by first | decide | omega), eb _ _ _ 28 _ (by first | decide | omega), eb _ _ _ 29 _ (by first | decide | omega), eb _ _ _ 30 _ (by first | decide | omega), eb _ _ _ 31 _ (by first | decide | omega), eb _ _ _ 32 _ (by first | decide | omega), eb _ _ _ 33 _ (by first | decide | omega), eb _ _ _ 0 _ (by first | decide | omega)] at z1 z3 z4 z5
    exact ⟨v', z1, (((((Fm.w1 (Or.inl rfl)).w (Or.inl rfl)).w (Or.inl rfl)).w (Or.inl rfl)).w (Or.inl rfl)).tr z2, z3, z4, z5⟩
theorem a_keep (h : Rel m v) : Agr (G11_keep m) (G12_keep v) := by
  have h1 := h.v0
  unfold G11_keep G11_keep_0 G12_keep G12_keep_0
  rw [wt_e, wt_e]
  generalize up v 0 2 0 = u at h1 ⊢
  obtain ⟨T, hA, hS, hV, hI, hN, hU, hP, hF, hX⟩ := h1.all
  have hw := hA.2.1.1
  unfold WS at hw
  obtain ⟨m1, e1, f1, k1, k2, k3⟩ := c_tall (m := m) (a := 83) (b := 69) (by first | decide | omega) (by first | decide | omega) (by first | decide | omega)
  obtain ⟨u1, e2, f2, p1, p2, p3, p4, p5, p6, p7⟩ := r_kp12 5 1024 0 (up u 0 80 1) (by first | decide | omega) (by first | decide | omega) (by first | decide | omega) (fun j p q => by first | decide | omega)
  rw [e1, bs1, wt_e, e2]
  have ea : up m1 0 10 1 69 0 = m 69 0 := by rw [up_a (by first | decide | omega), f1 69 0 (by unfold PA; first | decide | omega)]
  have eb : up u 0 80 1 31 0 = m 69 0 := by rw [up_a (by first | decide | omega)]; exact hV.2.1
  rw [ea, eb]
  have fm : Fm (fun b i => (83 ≤ b ∧ b ≤ 89) ∨ (b = 0 ∧ i = 10)) m (up m1 0 10 1) := (f1.fm.mono (fun b i q => by unfold PA at q; first | decide | omega)).w (Or.inr ⟨rfl, rfl⟩)
  have fv : Fm (fun b i => b = 42 ∨ (b = 0 ∧ 80 ≤ i ∧ i ≤ 86)) u u1 := (Fm.w1 (by first | decide | omega)).tr (f2.mono (fun b i q => by first | decide | omega))
  obtain ⟨j1, ew⟩ := hA.f fm fv (by intro b i q; first | decide | omega) (by intro b i q; first | decide | omega)
  have en : sl 6 (up m1 0 10 1) 69 = sl 6 m 69 := sl_c (fun b x y => fm.rw1 (fun i => by first | decide | omega))
  have hne : NE (sl 6 m 69) (sl 6 (up m1 0 10 1) 83) := by
    rw [sl_out (by first | decide | omega)]
    refine ⟨fun i p q => ?_, fun c i a b p q => ?_, fun i p q => ?_⟩
    · rw [sl_e (by first | decide | omega), sl_e (by first | decide | omega)]; exact k1 i p q
    · rw [sl_e (by first | decide | omega), sl_e (by first | decide | omega)]; exact k2 c i a b p q
    · rw [sl_e (by first | decide | omega), sl_e (by first | decide | omega)]; exact k3 i p q
  have u0 : ∀ b i, b ≠ 0 → up u 0 80 1 b i = u b i := fun b i q => up_a q
  simp only [u0 25 _ (by first | decide | omega), u0 26 _ (by first | decide | omega), u0 27 _ (by first | decide | omega), u0 28 _ (by first | decide | omega), u0 29 _ (by first | decide | omega), u0 30 _ (by first | decide | omega), u0 31 _ (by first | decide | omega), u0 32 _ (by first | decide | omega), u0 33 _ (by first | decide | omega), up_i (show (64 : Int) ≠ 80 by first | decide | omega), up_i (show (65 : Int) ≠ 80 by first | decide | omega)] at p1 p2 p3 p4 p5 p6 p7
  refine ⟨_, _, _, rfl, rfl, Rel.of (T := T) ⟨j1, ?_, ?_, ?_, ?_, ?_, ?_, ?_, ?_⟩⟩
  · rw [ew, en]; exact hS
  · rw [ew, en]; exact hV.f fv (by first | decide | omega) (by intro b i q; first | decide | omega)
  · rw [ew]
    have e80 : u1 0 80 = 1 := by rw [f2 0 80 (by first | decide | omega)]; exact up_e
    refine ⟨by rw [up_e, e80], Or.inr ⟨up_e, hS.ne hne (by first | decide | omega), ?_⟩⟩
    obtain ⟨⟨a1, a2, a3, a4, a5⟩, a6, a7, a8, a9⟩ := hV
    obtain ⟨n0, n1, n2⟩ := hne
    refine ⟨fun s p q => ?_, fun k p q => ?_, ?_, ?_, ?_, ?_, ?_⟩
    · have b1 := p1 s p (by first | decide | omega)
      have b2 := a1 s p q
      have b3 := a8 s p q
      rw [show 5 * (0 : Int) + s = s by first | decide | omega] at b2
      rw [n1 1 s (by first | decide | omega) (by first | decide | omega) p (by first | decide | omega), n1 2 s (by first | decide | omega) (by first | decide | omega) p (by first | decide | omega), n1 3 s (by first | decide | omega) (by first | decide | omega) p (by first | decide | omega), n1 4 s (by first | decide | omega) (by first | decide | omega) p (by first | decide | omega), n1 5 s (by first | decide | omega) (by first | decide | omega) p (by first | decide | omega), b1.1, b1.2.1, b1.2.2.1, b1.2.2.2.1, b1.2.2.2.2]
      exact ⟨b2.1, b2.2.1, b2.2.2, b3.1, b3.2⟩
    · have b2 := a2 k p q
      rw [show 28 * (0 : Int) + k = k by first | decide | omega] at b2
      rw [p2 k p (by first | decide | omega), n2 k p (by first | decide | omega)]; exact b2
    · rw [p3, n0 0 (by first | decide | omega) (by first | decide | omega)]; exact a6
    · rw [p4, n0 1 (by first | decide | omega) (by first | decide | omega)]; exact a7
    · rw [p5, n0 3 (by first | decide | omega) (by first | decide | omega)]; exact a3
    · rw [p6, n0 4 (by first | decide | omega) (by first | decide | omega)]; exact a4
    · rw [p7, n0 2 (by first | decide | omega) (by first | decide | omega)]; exact a5
  · rw [ew]; exact hN.f fm fv (by intro b i q; first | decide | omega) (by intro b i q; first | decide | omega)
  · rw [ew, en]; exact hU.f fm fv (by intro b i q; first | decide | omega) (by intro b i q; first | decide | omega)
  · exact hP.f fm fv (by intro b i q; first | decide | omega) (by intro b i q; first | decide | omega)
  · rw [fm 46 8 (by first | decide | omega), fm 46 9 (by first | decide | omega), fv 0 4 (by first | decide | omega), fv 0 5 (by first | decide | omega)]; exact hF
  · intro i p q; rw [fm 102 i (by first | decide | omega)]; exact hX i p q
theorem r_bk100 : ∀ (d k : Nat) (i : Int) (v : Mem), 0 ≤ i → 28 - i = d → d < k → (∀ j, 0 ≤ j → j < i → v 30 j = v 42 (25 + j)) → ∃ v', G12_back_100 k v i = some (v 0 82, v') ∧ Fm (fun b i => b = 30 ∨ ((31 ≤ b ∧ b ≤ 33) ∧ i = 0) ∨ (b = 0 ∧ (i = 64 ∨ i = 65 ∨ i = 78))) v v' ∧ (∀ j, 0 ≤ j → j < 28 → v' 30 j = v 42 (25 + j)) ∧ v' 31 0 = v 0 82 ∧ v' 0 64 = v 0 83 ∧ v' 32 0 = v 0 84 ∧ v' 33 0 = v 0 85 ∧ v' 0 65 = v 0 86 ∧ v' 0 78 = 0 := by
  intro d
  induction d with
  | zero =>
    intro k i v a1 a2 a3 h
    obtain ⟨k, rfl⟩ : ∃ j, k = j + 1 := ⟨k - 1, by first | decide | omega⟩
    rw [G12_back_100, if_pos (by first | decide | omega)]
    simp only [wt_e]
    refine ⟨_, ?_, (((((Fm.w1 (a := 31) (i := 0) (v := v 0 82) (by first | decide | omega)).w (a := 0) (i := 64) (v := v 0 83) (by first | decide | omega)).w (a := 32) (i := 0) (v := v 0 84) (by first | decide | omega)).w (a := 33) (i := 0) (v := v 0 85) (by first | decide | omega)).w (a := 0) (i := 65) (v := v 0 86) (by first | decide | omega)).w (a := 0) (i := 78) (v := 0) (by first | decide | omega), fun j p q => ?_, ?_, ?_, ?_, ?_, ?_, up_e⟩
    · simp only [up_a (show (0 : Nat) ≠ 31 by first | decide | omega), up_a (show (0 : Nat) ≠ 32 by first | decide | omega), up_a (show (0 : Nat) ≠ 33 by first | decide | omega), up_a (show (31 : Nat) ≠ 0 by first | decide | omega), up_a (show (31 : Nat) ≠ 32 by first | decide | omega), up_a (show (31 : Nat) ≠ 33 by first | decide | omega), up_i (show (84 : Int) ≠ 64 by first | decide | omega), up_i (show (85 : Int) ≠ 64 by first | decide | omega), up_i (show (86 : Int) ≠ 64 by first | decide | omega), up_e]
    · rw [up_a (by first | decide | omega), up_a (by first | decide | omega), up_a (by first | decide | omega), up_a (by first | decide | omega), up_a (by first | decide | omega), up_a (by first | decide | omega)]; exact h j p (by first | decide | omega)
    · rw [up_a (by first | decide | omega), up_a (by first | decide | omega), up_a (by first | decide | omega), up_a (by first | decide | omega), up_a (by first | decide | omega), up_e]
    · rw [up_i (by first | decide | omega), up_i (by first | decide | omega), up_a (by first | decide | omega), up_a (by first | decide | omega), up_e]
    · rw [up_a (by first | decide | omega), up_a (by first | decide | omega), up_a (by first | decide | omega), up_e]
    · rw [up_a (by first | decide | omega), up_a (by first | decide | omega), up_e]
    · rw [up_i (by first | decide | omega), up_e]
  | succ d ih =>
    intro k i v a1 a2 a3 h
    obtain ⟨k, rfl⟩ : ∃ j, k = j + 1 := ⟨k - 1, by first | decide | omega⟩
    rw [G12_back_100, if_neg (by first | decide | omega), gdx_t (by first | decide | omega), gdx_t (by first | decide | omega), wt_e, gd3_t (by first | decide | omega)]
    have eb : ∀ b j, b ≠ 30 → up v 30 i (v 42 (25 + i)) b j = v b j := fun b j q => up_a q
    obtain ⟨v', z1, z2, z3, z4⟩ := ih k (i + 1) (up v 30 i (v 42 (25 + i))) (by first | decide | omega) (by first | decide | omega) (by first | decide | omega) (fun j p q => by
      rw [eb 42 _ (by first | decide | omega)]
      by_cases z : j = i
      · rw [z, up_e]
      · rw [up_i (by first | decide | omega)]; exact h j p (by first | decide | omega))
    simp only [eb 42 _ (by first | decide | omega), eb 0 _ (by first | decide | omega)] at z1 z3 z4
    exact ⟨v', z1, (Fm.w1 (Or.inl rfl)).tr z2, z3, z4⟩
end Q16
