/-! First calls with data, the reference's side; both sides together. -/
theorem vI {i : Int32} {n : Nat} (h : ¬ (i < 0 ∨ n ≤ i.toNatClampNeg)) : vp_in i n := h

def ML (h : PH) : Prop := MF h ∧ aI h 32 0 1 = some 0 ∧ aI h 33 0 1 = some 0
theorem m_lay71 {h : PH} (M : MF h) : ∃ y, F12_layTried_71 1024 h 0 0 = some y ∧ ML y := by
  refine lp0 28 (by decide) (fun n h x => F12_layTried_71 n h 0 x) MF ML (fun k hk n h M ih => ?_) (fun n h M => ?_) M
  · show ∃ y, F12_layTried_71 (n + 1) h 0 (Int32.ofNat k) = some y ∧ _
    rw [F12_layTried_71]
    obtain ⟨v, ev⟩ := maI M (a := 30) (t := 0) (n := 56) (by decide) (by decide) (i := Int32.ofNat k) (oI (by omega) (by decide))
    refine ixn (oL hk (by decide)) (bx (mr M (r := 30) (by decide)) (bx (mr M (r := 30) (by decide)) (bx ev ?_)))
    obtain ⟨h, e, M, -, -⟩ := msI M (a := 30) (t := 0) (n := 56) (by decide) (by decide) (i := 28 + Int32.ofNat k) (by rw [show (28 : Int32) = Int32.ofNat 28 from rfl, oA]; exact oI (by omega) (by decide)) v
    refine bx e ?_
    rw [oN]
    exact ih h M
  · show ∃ y, F12_layTried_71 (n + 1) h 0 (Int32.ofNat 28) = some y ∧ _
    rw [F12_layTried_71]
    obtain ⟨v, ev⟩ := maI M (a := 31) (t := 0) (n := 2) (by decide) (by decide) (i := 0) (vI (by decide))
    refine ixp (by decide) (bx (mr M (r := 31) (by decide)) (bx (mr M (r := 31) (by decide)) (bx ev ?_)))
    obtain ⟨h, e, M, -, -⟩ := msI M (a := 31) (t := 0) (n := 2) (by decide) (by decide) (i := 1) (vI (by decide)) v
    refine bx e (bx (mr M (r := 32) (by decide)) ?_)
    obtain ⟨h, e, M, g, -⟩ := msI M (a := 32) (t := 0) (n := 2) (by decide) (by decide) (i := 1) (vI (by decide)) 0
    refine bx e (bx (mr M (r := 33) (by decide)) ?_)
    obtain ⟨h, e, M, g', K⟩ := msI M (a := 33) (t := 0) (n := 2) (by decide) (by decide) (i := 1) (vI (by decide)) 0
    refine bx e ⟨_, rfl, M, ?_, g'⟩
    rw [K.2.2 32 0 1 (by decide)]
    exact g
theorem m_lay {h : PH} (M : MF h) : ∃ y, F12_layTried h 0 = some y ∧ ML y := by
  refine cx (mo M (by decide)) ?_
  refine lp0 5 (by decide) (fun n h x => F12_layTried_2 n h 0 x) MF ML (fun k hk n h M ih => ?_) (fun n h M => ?_) M
  · show ∃ y, F12_layTried_2 (n + 1) h 0 (Int32.ofNat k) = some y ∧ _
    rw [F12_layTried_2]
    refine ixn (oL hk (by decide)) ?_
    obtain ⟨v, ev⟩ := maI M (a := 25) (t := 0) (n := 10) (by decide) (by decide) (i := Int32.ofNat k) (oI (by omega) (by decide))
    refine bx (mr M (r := 25) (by decide)) (bx (mr M (r := 25) (by decide)) (bx ev ?_))
    obtain ⟨h, e, M, -, -⟩ := msI M (a := 25) (t := 0) (n := 10) (by decide) (by decide) (i := 5 + Int32.ofNat k) (by rw [show (5 : Int32) = Int32.ofNat 5 from rfl, oA]; exact oI (by omega) (by decide)) v
    refine bx e ?_
    obtain ⟨v, ev⟩ := maI M (a := 26) (t := 0) (n := 10) (by decide) (by decide) (i := Int32.ofNat k) (oI (by omega) (by decide))
    refine bx (mr M (r := 26) (by decide)) (bx (mr M (r := 26) (by decide)) (bx ev ?_))
    obtain ⟨h, e, M, -, -⟩ := msI M (a := 26) (t := 0) (n := 10) (by decide) (by decide) (i := 5 + Int32.ofNat k) (by rw [show (5 : Int32) = Int32.ofNat 5 from rfl, oA]; exact oI (by omega) (by decide)) v
    refine bx e ?_
    obtain ⟨v, ev⟩ := maI M (a := 27) (t := 0) (n := 10) (by decide) (by decide) (i := Int32.ofNat k) (oI (by omega) (by decide))
    refine bx (mr M (r := 27) (by decide)) (bx (mr M (r := 27) (by decide)) (bx ev ?_))
    obtain ⟨h, e, M, -, -⟩ := msI M (a := 27) (t := 0) (n := 10) (by decide) (by decide) (i := 5 + Int32.ofNat k) (by rw [show (5 : Int32) = Int32.ofNat 5 from rfl, oA]; exact oI (by omega) (by decide)) v
    refine bx e ?_
    obtain ⟨v, ev⟩ := maI M (a := 28) (t := 0) (n := 10) (by decide) (by decide) (i := Int32.ofNat k) (oI (by omega) (by decide))
    refine bx (mr M (r := 28) (by decide)) (bx (mr M (r := 28) (by decide)) (bx ev ?_))
    obtain ⟨h, e, M, -, -⟩ := msI M (a := 28) (t := 0) (n := 10) (by decide) (by decide) (i := 5 + Int32.ofNat k) (by rw [show (5 : Int32) = Int32.ofNat 5 from rfl, oA]; exact oI (by omega) (by decide)) v
    refine bx e ?_
    rw [oN]
    exact ih h M
  · show ∃ y, F12_layTried_2 (n + 1) h 0 (Int32.ofNat 5) = some y ∧ _
    rw [F12_layTried_2]
    exact ixp (by decide) (m_lay71 M)
theorem m_goesOn {h : PH} (M : MF h) (a : Int32) : F12_goesOn h 0 a = some h := by
  have k : ∃ o, F12_goesOn h 0 a = some o ∧ o = h := by
    refine cx (mo M (by decide)) ?_
    show ∃ o, F12_goesOn_0 (1023 + 1) h 0 a = some o ∧ _
    rw [F12_goesOn_0]
    exact bx M.2.2.2.1 (ixp (by decide) (ox rfl rfl))
  obtain ⟨o, e, rfl⟩ := k
  exact e
theorem m_run {h : PH} (M : MF h) (a s : Int32) : ∃ y, F12_run h 0 a s = some y ∧ ML y := by
  obtain ⟨v, ev⟩ := gJ_ex (h := h) (a := 0) (ci := 12) (k := 65) (by rw [M.1]; decide +kernel)
  refine cx (mo M (by decide)) (bx ev ?_)
  obtain ⟨h, e, M, -⟩ := mpJ M (Int32.toInt64 s)
  refine bx e ?_
  obtain ⟨h, e, M, g2, g3⟩ := m_lay M
  refine bx e (bx (m_goesOn M a) ?_)
  obtain ⟨h, e, M, q⟩ := mpJ M v
  exact bx e ⟨_, rfl, M, by rw [q]; exact g2, by rw [q]; exact g3⟩
theorem m_unlike {h : PH} (M : MF h) : F12_unlike h 0 1 = some (0, h) := by
  have k : ∃ o, F12_unlike h 0 1 = some o ∧ o = (0, h) := by
    refine cx (mo M (by decide)) ?_
    show ∃ o, F12_unlike_8 (1023 + 1) h 0 1 0 99 0 = some o ∧ _
    rw [F12_unlike_8]
    exact bx M.2.1 (ixp (by decide) (bx M.2.1 (ixp rfl (ox rfl rfl))))
  obtain ⟨o, e, rfl⟩ := k
  exact e
theorem m_fair1 {h : PH} (M : MF h) (n : Nat) (s x2 x4 : Int32) (h5 : ¬ 4 ≤ x4) (h2 : x2 = -1 ∨ x2 = 0) (ih : ∀ h', MF h' → ∃ o, F12_fairest_18 n h' 0 s (if x2 = -1 then x4 else 0) 0 (x4 + 1) = some o ∧ o.1 = 0) : ∃ o, F12_fairest_18 (n + 1) h 0 s x2 0 x4 = some o ∧ o.1 = 0 := by
  rw [F12_fairest_18]
  refine ixn h5 ?_
  obtain ⟨h, e, M, g2, g3⟩ := m_run M x4 s
  refine bx e (bx (m_unlike M) (bx (mr M (r := 32) (by decide)) (bx g2 (bx (mr M (r := 33) (by decide)) (bx g3 ?_)))))
  rcases h2 with rfl | rfl
  · exact ixp (by decide) (ih h M)
  · exact ixn (show ¬ (0 : Int32) < 0 by decide) (ixn (show ¬ ((1000 : Int32) * 0 + 0 + 0 < 0) by decide) (ih h M))
theorem m_fair {h : PH} (M : MF h) (s : Int32) : ∃ o, F12_fairest_18 1024 h 0 s (-1) 0 0 = some o ∧ o.1 = 0 :=
  m_fair1 M 1023 s (-1) 0 (by decide) (Or.inl rfl) fun h M => m_fair1 M 1022 s 0 1 (by decide) (Or.inr rfl) fun h M => m_fair1 M 1021 s 0 2 (by decide) (Or.inr rfl) fun h M => m_fair1 M 1020 s 0 3 (by decide) (Or.inr rfl) fun h M => by
    show ∃ o, F12_fairest_18 (1019 + 1) h 0 s 0 0 4 = some o ∧ _
    rw [F12_fairest_18]
    exact ixp (by decide) (ox rfl rfl)
theorem p_fairest (a : Int32) : Al2 (F11_fairest hxF 0 a) (F12_fairest hmF 0 a) := by
  obtain ⟨h1, e1, M⟩ := m_st mF
  by_cases c0 : 0 ≤ a
  · exact al2 (v := 0) (cx (xo xF (by decide)) (ixp c0 (x_fair xF a))) (cx (mo mF (by decide)) (bx e1 (ixp c0 (m_fair M a))))
  · exact al2 (v := -1) (cx (xo xF (by decide)) (ixn c0 (ox rfl rfl))) (cx (mo mF (by decide)) (bx e1 (ixn c0 (ox rfl rfl))))
theorem x_rule2 {h : PH} (X : XF h) {a : Int32} (c0 : ¬ a < 0) (c1 : ¬ 3 < a) : F11_isRule h 0 a = some (1, h) := by
  have k : ∃ o, F11_isRule h 0 a = some o ∧ o = (1, h) := by
    have c2 : ¬ 4 ≤ a := by
      have z0 : (3 : Int32).toInt = 3 := by decide
      have z1 : (4 : Int32).toInt = 4 := by decide
      rw [i_lt, z0] at c1
      rw [i_le, z1]
      omega
    exact cx (xo X (by decide)) (ixn c0 (ixn c2 (ox (rz1 _) rfl)))
  obtain ⟨o, e, rfl⟩ := k
  exact e
theorem x_table {h : PH} (X : XF h) (a b c : Int32) (v : Int32) (hv : v = if a < 0 ∨ 3 < a ∨ b < 0 ∨ c < 5 ∨ 7 < c then -1 else 0) : ∃ o, F11_table h 0 a b c = some o ∧ o.1 = v := by
  refine cx (xo X (by decide)) ?_
  by_cases c0 : a < 0 ∨ 3 < a
  · rw [if_pos (by rcases c0 with c | c; exact Or.inl c; exact Or.inr (Or.inl c))] at hv
    exact bx (x_rule0 X c0) (ixp rfl (ox rfl hv.symm))
  · refine bx (x_rule2 X (fun z => c0 (Or.inl z)) (fun z => c0 (Or.inr z))) (ixn one_ne ?_)
    by_cases c1 : b < 0
    · rw [if_pos (Or.inr (Or.inr (Or.inl c1)))] at hv
      exact ixp c1 (ox rfl hv.symm)
    · refine ixn c1 ?_
      by_cases c2 : c < 5
      · rw [if_pos (Or.inr (Or.inr (Or.inr (Or.inl c2))))] at hv
        by_cases c3 : c < 0
        · exact ixp c3 (ox rfl hv.symm)
        · refine ixn c3 (ixp (Int32.not_lt.mp (fun z => absurd (Int32.lt_trans z c2) (by decide))) (ixn (Int32.not_le.mpr c2) (bx (x_surf X c) (ixp rfl (ox rfl hv.symm)))))
      · have c3 : ¬ c < 0 := fun z => c2 (Int32.lt_trans z (by decide))
        refine ixn c3 ?_
        by_cases c4 : 7 < c
        · rw [if_pos (Or.inr (Or.inr (Or.inr (Or.inr c4))))] at hv
          exact ixn (Int32.not_le.mpr c4) (ox rfl hv.symm)
        · rw [if_neg (by rintro (z | z | z | z | z); exact c0 (Or.inl z); exact c0 (Or.inr z); exact c1 z; exact c2 z; exact c4 z)] at hv
          refine ixp (Int32.not_lt.mp c4) (ixp (Int32.not_lt.mp c2) ?_)
          obtain ⟨h, e, X, g3, g4⟩ := x_runBy X a b
          refine bx e ?_
          by_cases k5 : c = 5
          · exact ixp k5 (bx (xr X (r := 76) (by decide)) (bx g3 (ox rfl hv.symm)))
          · by_cases k6 : c = 6
            · exact ixn k5 (ixp k6 (bx (xr X (r := 76) (by decide)) (bx g4 (ox rfl hv.symm))))
            · have k7 : c = 7 := by
                have z5 : (5 : Int32).toInt = 5 := by decide
                have z6 : (6 : Int32).toInt = 6 := by decide
                have z7 : (7 : Int32).toInt = 7 := by decide
                rw [i_lt, z5] at c2
                rw [i_lt, z7] at c4
                have n5 : c.toInt ≠ 5 := fun z => k5 (Int32.toInt_inj.mp (z.trans z5.symm))
                have n6 : c.toInt ≠ 6 := fun z => k6 (Int32.toInt_inj.mp (z.trans z6.symm))
                exact Int32.toInt_inj.mp (by omega)
              exact ixn k5 (ixn k6 (ixp k7 (bx (xr X (r := 76) (by decide)) (bx (xr X (r := 2) (by decide)) (bx (xr X (r := 3) (by decide)) (bx X.2.1 (bx (x_unlike X) (ox rfl hv.symm))))))))
theorem m_table {h : PH} (M : MF h) (a b c : Int32) (v : Int32) (hv : v = if a < 0 ∨ 3 < a ∨ b < 0 ∨ c < 5 ∨ 7 < c then -1 else 0) : ∃ o, F12_table h 0 a b c = some o ∧ o.1 = v := by
  obtain ⟨h1, e1, M1⟩ := m_st M
  refine cx (mo M (by decide)) (bx e1 ?_)
  rcases m_in (h := h1) a 0 3 with ⟨c0, q⟩ | ⟨c0, q⟩
  · rw [if_pos (by rcases c0 with c | c; exact Or.inl c; exact Or.inr (Or.inl c))] at hv
    exact bx q (ixp rfl (ox rfl hv.symm))
  · refine bx q (ixn one_ne ?_)
    by_cases c1 : b < 0
    · rw [if_pos (Or.inr (Or.inr (Or.inl c1)))] at hv
      exact ixp c1 (ox rfl hv.symm)
    · refine ixn c1 ?_
      rcases m_in (h := h1) c 0 7 with ⟨c2, q⟩ | ⟨c2, q⟩
      · rw [if_pos (by rcases c2 with c | c; exact Or.inr (Or.inr (Or.inr (Or.inl (Int32.lt_trans c (by decide))))); exact Or.inr (Or.inr (Or.inr (Or.inr c))))] at hv
        exact bx q (ixp rfl (ox rfl hv.symm))
      · refine bx q (ixn one_ne ?_)
        by_cases c3 : c < 5
        · rw [if_pos (Or.inr (Or.inr (Or.inr (Or.inl c3))))] at hv
          exact ixn (Int32.not_le.mpr c3) (bx M1.2.1 (ixn c2.1 (ox rfl hv.symm)))
        · rw [if_neg (by rintro (z | z | z | z | z); exact c0.1 z; exact c0.2 z; exact c1 z; exact c3 z; exact c2.2 z)] at hv
          refine ixp (Int32.not_lt.mp c3) ?_
          obtain ⟨h, e, M, g2, g3⟩ := m_run M1 a b
          refine bx e (ixp (Int32.not_lt.mp c3) ?_)
          by_cases k5 : c = 5
          · exact ixp k5 (bx (mr M (r := 32) (by decide)) (bx g2 (ox rfl hv.symm)))
          · by_cases k6 : c = 6
            · exact ixn k5 (ixp k6 (bx (mr M (r := 33) (by decide)) (bx g3 (ox rfl hv.symm))))
            · exact ixn k5 (ixn k6 (bx (m_unlike M) (ox rfl hv.symm)))
theorem p_table (a b c : Int32) : Al2 (F11_table hxF 0 a b c) (F12_table hmF 0 a b c) := al2 (x_table xF a b c _ rfl) (m_table mF a b c _ rfl)
theorem m_tried111 {h : PH} (M : MF h) (j : Int64) : ∃ o, F12_tried_111 h 0 j = some o ∧ o.1 = 0 := by
  refine bx M.2.2.2.2.2.2.2.1 (bx (m_goesOn M 0) ?_)
  obtain ⟨h, e, M⟩ := mpI M (k := 66) (Or.inl rfl) (-1)
  refine bx e ?_
  obtain ⟨h, e, M, -⟩ := mpJ M j
  refine bx e ?_
  have q : F12_allHad h 0 1 = some (0, h) := by
    have k : ∃ o, F12_allHad h 0 1 = some o ∧ o = (0, h) := by
      refine cx (mo M (by decide)) ?_
      show ∃ o, F12_allHad_4 (1023 + 1) h 0 1 0 0 = some o ∧ _
      rw [F12_allHad_4]
      exact bx M.2.1 (ixp (by decide) (ox rfl rfl))
    obtain ⟨o, e, rfl⟩ := k
    exact e
  exact bx q (ox rfl rfl)
theorem m_tried47 {h : PH} (M : MF h) (a b s : Int32) : ∃ o, F12_tried_47 h 0 a b s = some o ∧ o.1 = 0 := by
  obtain ⟨v, ev⟩ := gJ_ex (h := h) (a := 0) (ci := 12) (k := 65) (by rw [M.1]; decide +kernel)
  refine bx ev ?_
  obtain ⟨h, e, M, -⟩ := mpJ M (Int32.toInt64 s)
  refine bx e ?_
  obtain ⟨h, e, M, -, -⟩ := m_lay M
  refine bx e ?_
  obtain ⟨h, e, M⟩ := mpI M (k := 66) (Or.inl rfl) a
  refine bx e ?_
  obtain ⟨h, e, M⟩ := mpI M (k := 67) (Or.inr rfl) b
  refine bx e ?_
  show ∃ o, F12_tried_76 (1023 + 1) h 0 a b v 0 = some o ∧ _
  rw [F12_tried_76]
  exact bx M.2.1 (ixp (by decide) (m_tried111 M v))
theorem x_tried30 {h : PH} (X : XF h) (a b c : Int32) : ∃ o, F11_tried_30 h 0 a b c 1 = some o ∧ o.1 = -1 := ixn one_ne (bx (x_surf X b) (ixp rfl (ox rfl rfl)))
theorem p_tried0 {hx hm : PH} (xF : XF hx) (mF : MF hm) (a b c : Int32) : Al2 (F11_tried hx 0 a b c) (F12_tried hm 0 a b c) := by
  obtain ⟨h1, e1, M⟩ := m_st mF
  rcases m_in (h := h1) a 0 4 with ⟨c0, q⟩ | ⟨c0, q⟩
  · refine al2 (v := -1) (cx (xo xF (by decide)) ?_) (cx (mo mF (by decide)) (bx e1 (bx q (ixp rfl (ox rfl rfl)))))
    by_cases c1 : a < 0
    · exact ixp c1 (ox rfl rfl)
    · exact ixn c1 (ixp (c0.resolve_left c1) (ox rfl rfl))
  · by_cases c1 : 0 ≤ c
    · by_cases k1 : a = 1
      · exact al2 (v := -1) (cx (xo xF (by decide)) (ixn c0.1 (ixn c0.2 (ixp c1 (ixp k1 (x_tried30 xF a b c)))))) (cx (mo mF (by decide)) (bx e1 (bx q (ixn one_ne (ixp c1 (ixp k1 (bx (m_surf M b) (ixp rfl (ox rfl rfl)))))))))
      · by_cases k4 : a = 4
        · exact al2 (v := -1) (cx (xo xF (by decide)) (ixn c0.1 (ixn c0.2 (ixp c1 (ixn k1 (ixp k4 (x_tried30 xF a b c))))))) (cx (mo mF (by decide)) (bx e1 (bx q (ixn one_ne (ixp c1 (ixn k1 (ixp k4 (bx (m_surf M b) (ixp rfl (ox rfl rfl))))))))))
        · by_cases kb : b = 0
          · subst kb
            have ha : a = 0 ∨ a = 2 ∨ a = 3 := by
              have z0 : (0 : Int32).toInt = 0 := by decide
              have z1 : (1 : Int32).toInt = 1 := by decide
              have z2 : (2 : Int32).toInt = 2 := by decide
              have z3 : (3 : Int32).toInt = 3 := by decide
              have z4 : (4 : Int32).toInt = 4 := by decide
              have d0 := c0.1
              have d1 := c0.2
              rw [i_lt, z0] at d0
              rw [i_lt, z4] at d1
              have n1 : a.toInt ≠ 1 := fun z => k1 (Int32.toInt_inj.mp (z.trans z1.symm))
              have n4 : a.toInt ≠ 4 := fun z => k4 (Int32.toInt_inj.mp (z.trans z4.symm))
              have : a.toInt = 0 ∨ a.toInt = 2 ∨ a.toInt = 3 := by omega
              rcases this with z | z | z
              · exact Or.inl (Int32.toInt_inj.mp (z.trans z0.symm))
              · exact Or.inr (Or.inl (Int32.toInt_inj.mp (z.trans z2.symm)))
              · exact Or.inr (Or.inr (Int32.toInt_inj.mp (z.trans z3.symm)))
            exact al2 (v := 0) (cx (xo xF (by decide)) (ixn c0.1 (ixn c0.2 (ixp c1 (ixn k1 (ixn k4 (ixp rfl (ixp rfl (x_tried54 xF a c ha))))))))) (cx (mo mF (by decide)) (bx e1 (bx q (ixn one_ne (ixp c1 (ixn k1 (ixn k4 (ixp rfl (m_tried47 M a 0 c)))))))))
          · exact al2 (v := -1) (cx (xo xF (by decide)) (ixn c0.1 (ixn c0.2 (ixp c1 (ixn k1 (ixn k4 (ixp rfl (ixn kb (ox rfl rfl))))))))) (cx (mo mF (by decide)) (bx e1 (bx q (ixn one_ne (ixp c1 (ixn k1 (ixn k4 (ixn kb (ox rfl rfl)))))))))
    · exact al2 (v := -1) (cx (xo xF (by decide)) (ixn c0.1 (ixn c0.2 (ixn c1 (ox rfl rfl))))) (cx (mo mF (by decide)) (bx e1 (bx q (ixn one_ne (ixn c1 (ox rfl rfl))))))
theorem p_tried (a b c : Int32) : Al2 (F11_tried hxF 0 a b c) (F12_tried hmF 0 a b c) := p_tried0 xF mF a b c
/-! feed -/
def XT (p : Int32) (h : PH) : Prop := Sk h = SX ∧ gI h 0 11 1 = some p
theorem x_put1 {h : PH} {p : Int32} (X : XT p h) (n : Nat) (x s : Int32) (hs : ¬ s < 0) (hp : ¬ 700 ≤ p) (hi : ¬ (p < 0 ∨ 700 ≤ (p).toNatClampNeg)) (Q : PH → Prop) (ih : ∀ h', XT (p + 1) h' → ∃ y, F11_putOnTape_3 n h' 0 x (s + (-8)) = some y ∧ Q y) : ∃ y, F11_putOnTape_3 (n + 1) h 0 x s = some y ∧ Q y := by
  rw [F11_putOnTape_3]
  refine ixn hs (bx X.2 (ixn hp (bx (by rw [gR_Sk, X.1]; decide : gR h 0 11 0 = some 1) (bx X.2 ?_))))
  obtain ⟨h1, e, K, -⟩ := sI_ex (h := h) (a := 1) (t := 1) (n := 700) (by decide) (by rw [X.1]; decide) hi (vp_nar .byte ((Int32.toInt8 (x >>> (s &&& 31))).toInt32))
  have X1 : XT p h1 := ⟨K.1.trans X.1, by rw [Kp_gI K trivial]; exact X.2⟩
  refine bx e (bx X1.2 ?_)
  obtain ⟨h2, e, K, g⟩ := pI_ex (h := h1) (a := 0) (ci := 11) (k := 1) (by rw [X1.1]; decide) (p + 1)
  exact bx e (ih h2 ⟨K.1.trans X1.1, g⟩)
theorem x_put {h : PH} {p : Int32} (X : XT p h) (x : Int32) (hp : (¬ 700 ≤ p ∧ ¬ (p < 0 ∨ 700 ≤ (p).toNatClampNeg)) ∧ (¬ 700 ≤ p + 1 ∧ ¬ (p + 1 < 0 ∨ 700 ≤ (p + 1).toNatClampNeg)) ∧ (¬ 700 ≤ p + 1 + 1 ∧ ¬ (p + 1 + 1 < 0 ∨ 700 ≤ (p + 1 + 1).toNatClampNeg)) ∧ (¬ 700 ≤ p + 1 + 1 + 1 ∧ ¬ (p + 1 + 1 + 1 < 0 ∨ 700 ≤ (p + 1 + 1 + 1).toNatClampNeg))) : ∃ y, F11_putOnTape h 0 x = some y ∧ XT (p + 1 + 1 + 1 + 1) y := by
  refine cx (by rw [okO_Sk, X.1]; decide) ?_
  refine x_put1 X 1023 x 24 (by decide) hp.1.1 hp.1.2 _ fun h X => ?_
  refine x_put1 X 1022 x 16 (by decide) hp.2.1.1 hp.2.1.2 _ fun h X => ?_
  refine x_put1 X 1021 x 8 (by decide) hp.2.2.1.1 hp.2.2.1.2 _ fun h X => ?_
  refine x_put1 X 1020 x 0 (by decide) hp.2.2.2.1 hp.2.2.2.2 _ fun h X => ?_
  show ∃ y, F11_putOnTape_3 (1019 + 1) h 0 x (-8) = some y ∧ _
  rw [F11_putOnTape_3]
  exact ixp (by decide) ⟨_, rfl, X⟩
theorem x_feed {h : PH} (X : XT 0 h) (a b c d e : Int32) : ∃ o, F11_feed h 0 a b c d e = some o ∧ o.1 = 20 := by
  refine cx (by rw [okO_Sk, X.1]; decide) (bx X.2 (ixp (by decide) ?_))
  obtain ⟨h, e1, X⟩ := x_put X a (by decide)
  refine bx e1 ?_
  obtain ⟨h, e1, X⟩ := x_put X b (by decide)
  refine bx e1 ?_
  obtain ⟨h, e1, X⟩ := x_put X c (by decide)
  refine bx e1 ?_
  obtain ⟨h, e1, X⟩ := x_put X d (by decide)
  refine bx e1 ?_
  obtain ⟨h, e1, X⟩ := x_put X e (by decide)
  exact bx e1 (bx X.2 (ox rfl (show (0 + 1 + 1 + 1 + 1 + 1 + 1 + 1 + 1 + 1 + 1 + 1 + 1 + 1 + 1 + 1 + 1 + 1 + 1 + 1 + 1 : Int32) = 20 by decide)))
theorem m_feed76 {h : PH} (M : MF h) (kf : PH → Nat → Int32 → Int32 → Int32 → Int32 → Int32 → Int32 → Option (Int32 × PH)) (a b c d e s : Int32) {k : Nat} (hk : k < 20) (Q : Int32 × PH → Prop) (ih : ∀ h', MF h' → ∃ y, kf h' 0 a b c d e (Int32.ofNat (k + 1)) = some y ∧ Q y) : ∃ y, F12_feed_76 kf h 0 a b c d e (Int32.ofNat k) s = some y ∧ Q y := by
  obtain ⟨h1, e1, M1, -, -⟩ := msI M (a := 1) (t := 0) (n := 700) (by decide) (by decide) (i := 0 + Int32.ofNat k) (by rw [show (0 : Int32) = Int32.ofNat 0 from rfl, oA]; exact oI (by omega) (by decide)) ((s >>> ((24 - (8 * (Int32.ofNat k - Int32.ofNat k / 4 * 4))) &&& 31)) &&& 255)
  refine bx (mr M (r := 1) (by decide)) (bx M.2.2.2.2.2.2.2.2 (bx e1 ?_))
  rw [oN]
  exact ih h1 M1
theorem m_feed {h : PH} (M : MF h) (a b c d e : Int32) : ∃ o, F12_feed_23 1024 h 0 a b c d e 0 = some o ∧ o.1 = 20 := by
  refine lp0 20 (by decide) (fun n h x => F12_feed_23 n h 0 a b c d e x) MF (fun o => o.1 = 20) (fun k hk n h M ih => ?_) (fun n h M => ?_) M
  · show ∃ y, F12_feed_23 (n + 1) h 0 a b c d e (Int32.ofNat k) = some y ∧ _
    rw [F12_feed_23]
    refine ixn (oL hk (by decide)) ?_
    split
    · split
      · split
        · split
          · exact m_feed76 M _ a b c d e e hk _ ih
          · exact m_feed76 M _ a b c d e d hk _ ih
        · exact m_feed76 M _ a b c d e c hk _ ih
      · exact m_feed76 M _ a b c d e b hk _ ih
    · exact m_feed76 M _ a b c d e a hk _ ih
  · show ∃ y, F12_feed_23 (n + 1) h 0 a b c d e (Int32.ofNat 20) = some y ∧ _
    rw [F12_feed_23]
    obtain ⟨h1, e1, K, g⟩ := pI_ex (h := h) (a := 0) (ci := 12) (k := 1) (by rw [M.1]; decide +kernel) (0 + 20)
    exact ixp (by decide) (bx M.2.2.2.2.2.2.2.2 (bx e1 (bx g (ox rfl (show (0 + 20 : Int32) = 20 by decide)))))
theorem p_feed (a b c d e : Int32) : Al2 (F11_feed hxF 0 a b c d e) (F12_feed hmF 0 a b c d e) := by
  obtain ⟨h1, e1, M⟩ := m_st mF
  exact al2 (x_feed ⟨xF.1, xF.2.2.2.2.2.2.2.2.2⟩ a b c d e) (cx (mo mF (by decide)) (bx e1 (bx M.2.2.2.2.2.2.2.2 (ixp (by decide) (m_feed M a b c d e)))))
