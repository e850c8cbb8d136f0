/-! The other first calls: over a range, and with data that is not fixed. -/
theorem i_lt {a b : Int32} : a < b ↔ a.toInt < b.toInt := Int32.lt_iff_toInt_lt
theorem i_le {a b : Int32} : a ≤ b ↔ a.toInt ≤ b.toInt := Int32.le_iff_toInt_le
theorem rng (N : Nat) (hN : N < 2147483648) {a : Int32} (h0 : ¬ a < 0) (h1 : ¬ Int32.ofNat N < a) : ∃ k, k < N + 1 ∧ a = Int32.ofNat k := by
  have z0 : (0 : Int32).toInt = 0 := by decide
  have z1 : (Int32.ofNat N).toInt = N := Int32.toInt_ofNat_of_lt (by omega)
  rw [i_lt, z0] at h0
  rw [i_lt, z1] at h1
  refine ⟨a.toInt.toNat, by omega, ?_⟩
  have h2 : (Int32.ofNat a.toInt.toNat).toInt = a.toInt.toNat := Int32.toInt_ofNat_of_lt (by omega)
  exact Int32.toInt_inj.mp (by omega)
theorem al_rng (f g : Int32 → Option (Int32 × PH)) (N : Nat) (e : (List.range (N + 1)).all (fun k => eqI (f (Int32.ofNat k)) (g (Int32.ofNat k))) = true) {a : Int32} (h : ∃ k, k < N + 1 ∧ a = Int32.ofNat k) : Al2 (f a) (g a) := by
  obtain ⟨k, hk, rfl⟩ := h
  exact eqI_spec (List.all_eq_true.mp e k (List.mem_range.mpr hk))
def hm1 : PH := (pI hmF 0 12 2 0).getD []
theorem hm1_eq : pI hmF 0 12 2 0 = some hm1 := of_isSome [] (by decide +kernel)
theorem p_text (a : Int32) : Al2 (F11_text hxF 0 a) (F12_text hmF 0 a) := by
  obtain ⟨h1, e1, M⟩ := m_st mF
  by_cases c0 : a < 0
  · exact al2 (v := -2) (cx (xo xF (by decide)) (ixp c0 (ox rfl rfl))) (cx (mo mF (by decide)) (bx e1 (ixp c0 (ox rfl rfl))))
  · by_cases c1 : a ≤ 0
    · have : a = 0 := Int32.le_antisymm c1 (Int32.not_lt.mp c0)
      subst this
      exact eqI_spec (by decide +kernel)
    · exact al2 (v := -2) (cx (xo xF (by decide)) (ixn c0 (bx xF.2.2.2.2.2.2.2.2.2 (ixn c1 (ox rfl rfl))))) (cx (mo mF (by decide)) (bx e1 (ixn c0 (bx M.2.2.2.2.2.2.2.2 (ixn c1 (ox rfl rfl))))))
theorem x_rule0 {h : PH} (X : XF h) {a : Int32} (c : a < 0 ∨ 3 < a) : F11_isRule h 0 a = some (0, h) := by
  have k : ∃ o, F11_isRule h 0 a = some o ∧ o = (0, h) := by
    refine cx (xo X (by decide)) ?_
    by_cases c0 : a < 0
    · exact ixp c0 (ox (rz0 _) rfl)
    · have c1 : 4 ≤ a := by
        have c := c.resolve_left c0
        have z0 : (3 : Int32).toInt = 3 := by decide
        have z1 : (4 : Int32).toInt = 4 := by decide
        rw [i_lt, z0] at c
        rw [i_le, z1]
        omega
      exact ixn c0 (ixp c1 (ox (rz0 _) rfl))
  obtain ⟨o, e, rfl⟩ := k
  exact e
theorem x_rule1 {h : PH} (X : XF h) {a : Int32} (c : a < 0 ∨ 3 < a) : ∃ o, F11_rule h 0 a = some o ∧ o.1 = 0 := cx (xo X (by decide)) (bx (x_rule0 X c) (ixp rfl (ox (rz0 h) rfl)))

theorem p_rule (a : Int32) : Al2 (F11_rule hxF 0 a) (F12_rule hmF 0 a) := by
  obtain ⟨h1, e1, M⟩ := m_st mF
  by_cases c0 : a < 0
  · refine al2 (v := 0) (x_rule1 xF (Or.inl c0)) (cx (mo mF (by decide)) (bx e1 ?_))
    rcases m_in (h := h1) a 0 3 with ⟨-, q⟩ | ⟨q0, q⟩
    · exact bx q (ixp rfl (ox (rz0 h1) rfl))
    · exact absurd c0 q0.1
  · by_cases c1 : 3 < a
    · refine al2 (v := 0) (x_rule1 xF (Or.inr c1)) (cx (mo mF (by decide)) (bx e1 ?_))
      rcases m_in (h := h1) a 0 3 with ⟨-, q⟩ | ⟨q0, q⟩
      · exact bx q (ixp rfl (ox (rz0 h1) rfl))
      · exact absurd c1 q0.2
    · exact al_rng (fun a => F11_rule hxF 0 a) (fun a => F12_rule hmF 0 a) 3 (by decide +kernel) (rng 3 (by decide) c0 c1)
theorem p_minutes (a : Int32) : Al2 (F11_minutes hxF 0 a) (F12_minutes hmF 0 a) := by
  obtain ⟨h1, e1, M⟩ := m_st mF
  by_cases c0 : a < 0
  · refine al2 (v := -1) (cx (xo xF (by decide)) (ixp c0 (ox rfl rfl))) (cx (mo mF (by decide)) (bx e1 ?_))
    rcases m_in (h := h1) a 0 99 with ⟨-, q⟩ | ⟨q0, q⟩
    · exact bx q (ixp rfl (ox rfl rfl))
    · exact absurd c0 q0.1
  · by_cases c1 : 99 < a
    · refine al2 (v := -1) (cx (xo xF (by decide)) (ixn c0 (ixp c1 (ox rfl rfl)))) (cx (mo mF (by decide)) (bx e1 ?_))
      rcases m_in (h := h1) a 0 99 with ⟨-, q⟩ | ⟨q0, q⟩
      · exact bx q (ixp rfl (ox rfl rfl))
      · exact absurd c1 q0.2
    · exact al_rng (fun a => F11_minutes hxF 0 a) (fun a => F12_minutes hmF 0 a) 99 (by decide +kernel) (rng 99 (by decide) c0 c1)
theorem p_peak (a : Int32) : Al2 (F11_peak hxF 0 a) (F12_peak hmF 0 a) := by
  obtain ⟨h1, e1, M⟩ := m_st mF
  by_cases c0 : a < 0
  · refine al2 (v := -1) (cx (xo xF (by decide)) (ixp c0 (ox rfl rfl))) (cx (mo mF (by decide)) (bx e1 ?_))
    rcases m_in (h := h1) a 0 199 with ⟨-, q⟩ | ⟨q0, q⟩
    · exact bx q (ixp rfl (ox rfl rfl))
    · exact absurd c0 q0.1
  · by_cases c1 : 199 < a
    · refine al2 (v := -1) (cx (xo xF (by decide)) (ixn c0 (ixn (fun z => Int32.not_lt.mpr z c1) (ox rfl rfl)))) (cx (mo mF (by decide)) (bx e1 ?_))
      rcases m_in (h := h1) a 0 199 with ⟨-, q⟩ | ⟨q0, q⟩
      · exact bx q (ixp rfl (ox rfl rfl))
      · exact absurd c1 q0.2
    · exact al_rng (fun a => F11_peak hxF 0 a) (fun a => F12_peak hmF 0 a) 199 (by decide +kernel) (rng 199 (by decide) c0 c1)
theorem p_locals (a : Int32) : Al2 (F11_locals hxF 0 a) (F12_locals hmF 0 a) := by
  obtain ⟨h1, e1, M⟩ := m_st mF
  by_cases c0 : a < 0
  · refine al2 (v := -1) (cx (xo xF (by decide)) (ixp c0 (ox rfl rfl))) (cx (mo mF (by decide)) (bx e1 ?_))
    rcases m_in (h := h1) a 0 12 with ⟨-, q⟩ | ⟨q0, q⟩
    · exact bx q (ixp rfl (ox rfl rfl))
    · exact absurd c0 q0.1
  · by_cases c1 : 12 < a
    · refine al2 (v := -1) (cx (xo xF (by decide)) (ixn c0 (ixn (fun z => Int32.not_lt.mpr z c1) (ox rfl rfl)))) (cx (mo mF (by decide)) (bx e1 ?_))
      rcases m_in (h := h1) a 0 12 with ⟨-, q⟩ | ⟨q0, q⟩
      · exact bx q (ixp rfl (ox rfl rfl))
      · exact absurd c1 q0.2
    · exact al_rng (fun a => F11_locals hxF 0 a) (fun a => F12_locals hmF 0 a) 12 (by decide +kernel) (rng 12 (by decide) c0 c1)
theorem p_next : Al2 (F11_next hxF 0) (F12_next hmF 0) := eqI_spec (by decide +kernel)
theorem p_undo : Al2 (F11_undo hxF 0) (F12_undo hmF 0) := eqI_spec (by decide +kernel)
theorem p_keep : Al2 (F11_keep hxF 0) (F12_keep hmF 0) := eqI_spec (by decide +kernel)
theorem p_back : Al2 (F11_back hxF 0) (F12_back hmF 0) := eqI_spec (by decide +kernel)
theorem p_known (a : Int32) : Al2 (F11_known hxF 0 a) (F12_known hmF 0 a) := by
  obtain ⟨h1, e1, M⟩ := m_st mF
  by_cases k0 : a = -1
  · subst k0; exact eqI_spec (by decide +kernel)
  by_cases k1 : a = 0
  · subst k1; exact eqI_spec (by decide +kernel)
  by_cases c0 : a < -1
  · refine al2 (v := 0) (cx (xo xF (by decide)) (ixp c0 (ox (rz0 _) rfl))) (cx (mo mF (by decide)) (bx e1 (bx M.2.2.2.2.1 ?_)))
    rcases m_in (h := h1) a (-1) 0 with ⟨-, q⟩ | ⟨q0, q⟩
    · exact bx q (ixp rfl (ox (rz0 _) rfl))
    · exact absurd c0 q0.1
  · have c1 : 0 < a := by
      have z0 : (0 : Int32).toInt = 0 := by decide
      have z1 : (-1 : Int32).toInt = -1 := by decide
      rw [i_lt, z1] at c0
      rw [i_lt, z0]
      have n0 : a.toInt ≠ -1 := fun z => k0 (Int32.toInt_inj.mp (z.trans z1.symm))
      have n1 : a.toInt ≠ 0 := fun z => k1 (Int32.toInt_inj.mp (z.trans z0.symm))
      omega
    refine al2 (v := 0) (cx (xo xF (by decide)) (ixn c0 (bx (xr xF (r := 90) (by decide)) (bx xF.2.2.2.2.1 (ixn (Int32.not_le.mpr c1) (ox (rz0 _) rfl)))))) (cx (mo mF (by decide)) (bx e1 (bx M.2.2.2.2.1 ?_)))
    rcases m_in (h := h1) a (-1) 0 with ⟨-, q⟩ | ⟨q0, q⟩
    · exact bx q (ixp rfl (ox (rz0 _) rfl))
    · exact absurd c1 q0.2
theorem p_count (a : Int32) : Al2 (F11_count hxF 0 a) (F12_count hmF 0 a) := by
  obtain ⟨h1, e1, M⟩ := m_st mF
  by_cases k0 : a = 0
  · subst k0; exact eqI_spec (by decide +kernel)
  by_cases k1 : a = 1
  · subst k1; exact eqI_spec (by decide +kernel)
  by_cases k2 : a = 2
  · subst k2; exact eqI_spec (by decide +kernel)
  by_cases k3 : a = 3
  · subst k3; exact eqI_spec (by decide +kernel)
  by_cases k4 : a = 4
  · subst k4; exact eqI_spec (by decide +kernel)
  by_cases k5 : a = 5
  · subst k5; exact eqI_spec (by decide +kernel)
  by_cases k6 : a = 6
  · subst k6; exact eqI_spec (by decide +kernel)
  by_cases k7 : a = 7
  · subst k7; exact eqI_spec (by decide +kernel)
  by_cases k8 : a = 8
  · subst k8; exact eqI_spec (by decide +kernel)
  by_cases k9 : a = 9
  · subst k9; exact eqI_spec (by decide +kernel)
  by_cases k10 : a = 10
  · subst k10; exact eqI_spec (by decide +kernel)
  by_cases k11 : a = 11
  · subst k11; exact eqI_spec (by decide +kernel)
  by_cases k12 : a = 12
  · subst k12; exact eqI_spec (by decide +kernel)
  by_cases k13 : a = 13
  · subst k13; exact eqI_spec (by decide +kernel)
  exact al2 (v := -1) (cx (xo xF (by decide)) (ixn k0 (ixn k1 (ixn k2 (ixn k3 (ixn k4 (ixn k5 (ixn k6 (ixn k7 (ixn k8 (ixn k9 (ixn k10 (ixn k11 (ixn k12 (ixn k13 (ox rfl rfl)))))))))))))))) (cx (mo mF (by decide)) (bx e1 (ixn k0 (ixn k1 (ixn k2 (ixn k3 (ixn k4 (ixn k5 (ixn k6 (ixn k7 (ixn k8 (ixn k9 (ixn k10 (ixn k11 (ixn k12 (ixn k13 (ox rfl rfl)))))))))))))))))
def Al3 (a b : Option (Int64 × PH)) : Prop := ∃ x y, a = some x ∧ b = some y ∧ x.1 = y.1
theorem al3 {a b : Option (Int64 × PH)} {v : Int64} (h1 : ∃ o, a = some o ∧ o.1 = v) (h2 : ∃ o, b = some o ∧ o.1 = v) : Al3 a b := by
  obtain ⟨x, e1, f1⟩ := h1
  obtain ⟨y, e2, f2⟩ := h2
  exact ⟨x, y, e1, e2, f1.trans f2.symm⟩
def isJ (a : Option (Int64 × PH)) (v : Int64) : Bool := match a with
  | some x => x.1 == v
  | none => false
theorem isJ_spec {a : Option (Int64 × PH)} {v : Int64} (e : isJ a v = true) : ∃ o, a = some o ∧ o.1 = v := by
  unfold isJ at e
  split at e
  · rename_i x
    exact ⟨x, rfl, by simpa using e⟩
  · cases e
theorem p_law (a b c : Int32) : Al3 (F11_law hxF 0 a b c) (F12_law hmF 0 a b c) := by
  obtain ⟨h1, e1, M⟩ := m_st mF
  by_cases c2 : a = 2
  · subst c2
    obtain ⟨hh, eh, q1, q2⟩ : ∃ hh, pI hmF 0 12 2 0 = some hh ∧ gR hh 0 12 37 = some 15 ∧ aI hh 15 2 1 = some 0 := ⟨hm1, hm1_eq, by decide +kernel, by decide +kernel⟩
    refine al3 (v := -9223372036854775808) (cx (xo xF (by decide)) (ixp rfl (bx (xr xF (r := 51) (by decide)) (bx (xr xF (r := 69) (by decide)) (bx xF.2.2.2.2.2.2.2.1 ?_))))) (cx (mo mF (by decide)) (bx eh ?_))
    · obtain ⟨o, e, f⟩ := isJ_spec (a := F6_driftValue hxF 51 0) (v := -9223372036854775808) (by decide +kernel)
      exact bx e (ox rfl f)
    · have q : F12_isIn hh 2 0 2 = some (1, hh) := rz1 hh
      exact bx q (ixn one_ne (ixp (by decide) (ixn (by decide) (ixn (by decide) (bx q1 (bx q2 (ixp rfl (ox rfl rfl))))))))
  · refine al3 (v := -9223372036854775808) (cx (xo xF (by decide)) (ixn c2 (bx (x_surf xF b) (ixp rfl (ox rfl rfl))))) (cx (mo mF (by decide)) (bx e1 ?_))
    rcases m_in (h := h1) a 0 2 with ⟨-, q⟩ | ⟨q0, q⟩
    · exact bx q (ixp rfl (ox rfl rfl))
    · exact bx q (ixn one_ne (ixn (fun z => c2 (Int32.le_antisymm (Int32.not_lt.mp q0.2) z)) (bx (m_surf M b) (ixp rfl (ox rfl rfl)))))
theorem m_look (a b : Int32) : ∃ o, F12_look hmF 0 a b = some o ∧ F12_thrown o.2 0 = some (1, o.2) := by
  obtain ⟨h1, e1, M⟩ := m_st mF
  obtain ⟨h2, e2, K, g2⟩ := pI_ex (h := h1) (a := 0) (ci := 12) (k := 2) (by rw [M.1]; decide +kernel) 1
  refine cx (mo mF (by decide)) (bx e1 (bx (m_surf M a) (ixp rfl ?_)))
  have q : F12_fails h1 0 1 = some (0, h2) := by
    have k : ∃ o, F12_fails h1 0 1 = some o ∧ o = (0, h2) := cx (mo M (by decide)) (bx e2 (ox rfl rfl))
    obtain ⟨o, e, rfl⟩ := k
    exact e
  refine bx q (ox rfl ?_)
  have k : ∃ o, F12_thrown h2 0 = some o ∧ o = (1, h2) := cx (by rw [okO_Sk, K.1, M.1]; decide) (bx g2 (ox rfl rfl))
  obtain ⟨o, e, rfl⟩ := k
  exact e
