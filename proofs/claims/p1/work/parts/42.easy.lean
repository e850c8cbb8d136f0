/-! The first call on a new object: what both sides answer, call by call. -/
def XF (h : PH) : Prop := Sk h = SX ∧ gI h 3 1 0 = some 0 ∧ gI h 10 10 0 = some 0 ∧ gI h 10 10 1 = some 0 ∧ gI h 90 3 0 = some 0 ∧ gI h 46 5 8 = some 0 ∧ gI h 46 5 9 = some (-1) ∧ gI h 69 4 0 = some 0 ∧ gI h 69 4 1 = some 0 ∧ gI h 0 11 1 = some 0
def MF (h : PH) : Prop := Sk h = SM ∧ gI h 0 12 14 = some 0 ∧ gI h 0 12 15 = some 0 ∧ gI h 0 12 16 = some 0 ∧ gI h 0 12 74 = some 0 ∧ gI h 0 12 4 = some 0 ∧ gI h 0 12 5 = some (-1) ∧ gI h 0 12 64 = some 0 ∧ gI h 0 12 1 = some 0
theorem xF : XF hxF := ⟨hxF_sk, by decide +kernel, by decide +kernel, by decide +kernel, by decide +kernel, by decide +kernel, by decide +kernel, by decide +kernel, by decide +kernel, by decide +kernel⟩
theorem mF : MF hmF := ⟨hmF_sk, by decide +kernel, by decide +kernel, by decide +kernel, by decide +kernel, by decide +kernel, by decide +kernel, by decide +kernel, by decide +kernel⟩
theorem m_st {h : PH} (M : MF h) : ∃ h1, pI h 0 12 2 0 = some h1 ∧ MF h1 := by
  obtain ⟨h1, e, K, -⟩ := pI_ex (h := h) (a := 0) (ci := 12) (k := 2) (by rw [M.1]; decide +kernel) 0
  obtain ⟨m1, m2, m3, m4, m5, m6, m7, m8, m9⟩ := M
  exact ⟨h1, e, K.1.trans m1, by rw [Kp_gI K (by decide)]; exact m2, by rw [Kp_gI K (by decide)]; exact m3, by rw [Kp_gI K (by decide)]; exact m4, by rw [Kp_gI K (by decide)]; exact m5, by rw [Kp_gI K (by decide)]; exact m6, by rw [Kp_gI K (by decide)]; exact m7, by rw [Kp_gI K (by decide)]; exact m8, by rw [Kp_gI K (by decide)]; exact m9⟩
theorem xr {h : PH} (X : XF h) {a ci k r : Nat} (e : cR SX a ci k = some r) : gR h a ci k = some r := by rw [gR_Sk, X.1]; exact e
theorem mr {h : PH} (M : MF h) {a ci k r : Nat} (e : cR SM a ci k = some r) : gR h a ci k = some r := by rw [gR_Sk, M.1]; exact e
theorem xo {h : PH} (X : XF h) {a ci : Nat} (e : cO SX a ci = true) : okO h a ci = true := by rw [okO_Sk, X.1]; exact e
theorem mo {h : PH} (M : MF h) {a ci : Nat} (e : cO SM a ci = true) : okO h a ci = true := by rw [okO_Sk, M.1]; exact e
theorem x_surf {h : PH} (X : XF h) (x : Int32) : F11_isSurfer h 0 x = some (0, h) := by
  have k : ∃ o, F11_isSurfer h 0 x = some o ∧ o = (0, h) := by
    refine cx (xo X (by decide)) ?_
    by_cases c : x < 0
    · exact ixp c (ox (rz0 h) rfl)
    · exact ixn c (bx (xr X (r := 2) (by decide)) (bx (xr X (r := 3) (by decide)) (bx X.2.1 (ixp (Int32.not_lt.mp c) (ox (rz0 h) rfl)))))
  obtain ⟨o, e, rfl⟩ := k
  exact e
theorem x_wave {h : PH} (X : XF h) (x : Int32) : F11_isWave h 0 x = some (0, h) := by
  have k : ∃ o, F11_isWave h 0 x = some o ∧ o = (0, h) := by
    refine cx (xo X (by decide)) ?_
    by_cases c : x < 0
    · exact ixp c (ox (rz0 h) rfl)
    · exact ixn c (bx (xr X (r := 2) (by decide)) (bx (xr X (r := 10) (by decide)) (bx X.2.2.2.1 (ixp (Int32.not_lt.mp c) (ox (rz0 h) rfl)))))
  obtain ⟨o, e, rfl⟩ := k
  exact e
theorem x_come {h : PH} (X : XF h) (x : Int32) : F11_isToCome h 0 x = some (0, h) := by
  have k : ∃ o, F11_isToCome h 0 x = some o ∧ o = (0, h) := cx (xo X (by decide)) (bx (x_wave X x) (ixp rfl (ox (rz0 h) rfl)))
  obtain ⟨o, e, rfl⟩ := k
  exact e
theorem m_surf {h : PH} (M : MF h) (x : Int32) : F12_isSurfer h 0 x = some (0, h) := by
  have k : ∃ o, F12_isSurfer h 0 x = some o ∧ o = (0, h) := by
    refine cx (mo M (by decide)) ?_
    by_cases c : x < 0
    · exact ixp c (ox (rz0 h) rfl)
    · exact ixn c (bx M.2.1 (ixp (Int32.not_lt.mp c) (ox (rz0 h) rfl)))
  obtain ⟨o, e, rfl⟩ := k
  exact e
theorem m_wave {h : PH} (M : MF h) (x : Int32) : F12_isWave h 0 x = some (0, h) := by
  have k : ∃ o, F12_isWave h 0 x = some o ∧ o = (0, h) := by
    refine cx (mo M (by decide)) ?_
    by_cases c : x < 0
    · exact ixp c (ox (rz0 h) rfl)
    · exact ixn c (bx M.2.2.2.1 (ixp (Int32.not_lt.mp c) (ox (rz0 h) rfl)))
  obtain ⟨o, e, rfl⟩ := k
  exact e
theorem m_come {h : PH} (M : MF h) (x : Int32) : F12_isToCome h 0 x = some (0, h) := by
  have k : ∃ o, F12_isToCome h 0 x = some o ∧ o = (0, h) := cx (mo M (by decide)) (bx (m_wave M x) (ixp rfl (ox (rz0 h) rfl)))
  obtain ⟨o, e, rfl⟩ := k
  exact e
theorem m_in {h : PH} (n lo hi : Int32) : (n < lo ∨ hi < n) ∧ F12_isIn h n lo hi = some (0, h) ∨ (¬ n < lo ∧ ¬ hi < n) ∧ F12_isIn h n lo hi = some (1, h) := by
  show _ ∧ (if n < lo then rz 0 h else (if hi < n then rz 0 h else rz 1 h)) = _ ∨ _ ∧ (if n < lo then rz 0 h else (if hi < n then rz 0 h else rz 1 h)) = _
  by_cases c1 : n < lo
  · rw [if_pos c1]; exact Or.inl ⟨Or.inl c1, rz0 h⟩
  · by_cases c2 : hi < n
    · rw [if_neg c1, if_pos c2]; exact Or.inl ⟨Or.inr c2, rz0 h⟩
    · rw [if_neg c1, if_neg c2]; exact Or.inr ⟨⟨c1, c2⟩, rz1 h⟩
/-- both sides answer alike -/
def Al2 (a b : Option (Int32 × PH)) : Prop := ∃ x y, a = some x ∧ b = some y ∧ x.1 = y.1
theorem al2 {a b : Option (Int32 × PH)} {v : Int32} (h1 : ∃ o, a = some o ∧ o.1 = v) (h2 : ∃ o, b = some o ∧ o.1 = v) : Al2 a b := by
  obtain ⟨x, e1, f1⟩ := h1
  obtain ⟨y, e2, f2⟩ := h2
  exact ⟨x, y, e1, e2, f1.trans f2.symm⟩
def eqI (a b : Option (Int32 × PH)) : Bool := match a, b with
  | some x, some y => x.1 == y.1
  | _, _ => false
theorem eqI_spec {a b : Option (Int32 × PH)} (e : eqI a b = true) : Al2 a b := by
  unfold eqI at e
  split at e
  · rename_i x y
    exact ⟨x, y, rfl, rfl, by simpa using e⟩
  · cases e
theorem one_ne : ¬ (1 : Int32) = 0 := by decide
theorem p_odds (a b c : Int32) : Al2 (F11_odds hxF 0 a b c) (F12_odds hmF 0 a b c) := by
  obtain ⟨h1, e1, M⟩ := m_st mF
  exact al2 (v := -1) (cx (xo xF (by decide)) (bx (x_surf xF a) (ixp rfl (ox rfl rfl)))) (cx (mo mF (by decide)) (bx e1 (bx (m_surf M a) (ixp rfl (ox rfl rfl)))))
theorem p_stroke (a b : Int32) : Al2 (F11_stroke hxF 0 a b) (F12_stroke hmF 0 a b) := by
  obtain ⟨h1, e1, M⟩ := m_st mF
  exact al2 (v := -1) (cx (xo xF (by decide)) (bx (x_surf xF a) (ixp rfl (ox rfl rfl)))) (cx (mo mF (by decide)) (bx e1 (bx (m_surf M a) (ixp rfl (ox rfl rfl)))))
theorem p_order (a b : Int32) : Al2 (F11_order hxF 0 a b) (F12_order hmF 0 a b) := by
  obtain ⟨h1, e1, M⟩ := m_st mF
  exact al2 (v := -1) (cx (xo xF (by decide)) (bx (x_come xF a) (ixp rfl (ox rfl rfl)))) (cx (mo mF (by decide)) (bx e1 (bx (m_come M a) (ixp rfl (ox rfl rfl)))))
theorem p_deeper (a b : Int32) : Al2 (F11_deeper hxF 0 a b) (F12_deeper hmF 0 a b) := by
  obtain ⟨h1, e1, M⟩ := m_st mF
  exact al2 (v := -1) (cx (xo xF (by decide)) (bx (x_surf xF a) (ixp rfl (ox rfl rfl)))) (cx (mo mF (by decide)) (bx e1 (bx (m_surf M a) (ixp rfl (ox rfl rfl)))))
theorem p_seat (a b : Int32) : Al2 (F11_seat hxF 0 a b) (F12_seat hmF 0 a b) := by
  obtain ⟨h1, e1, M⟩ := m_st mF
  exact al2 (v := -1) (cx (xo xF (by decide)) (bx (x_surf xF a) (ixp rfl (ox rfl rfl)))) (cx (mo mF (by decide)) (bx e1 (bx (m_surf M a) (ixp rfl (ox rfl rfl)))))
theorem p_best (a : Int32) : Al2 (F11_best hxF 0 a) (F12_best hmF 0 a) := by
  obtain ⟨h1, e1, M⟩ := m_st mF
  exact al2 (v := -1) (cx (xo xF (by decide)) (bx (x_surf xF a) (ixp rfl (ox rfl rfl)))) (cx (mo mF (by decide)) (bx e1 (bx (m_surf M a) (ixp rfl (ox rfl rfl)))))
theorem p_rests (a b : Int32) : Al2 (F11_rests hxF 0 a b) (F12_rests hmF 0 a b) := by
  obtain ⟨h1, e1, M⟩ := m_st mF
  exact al2 (v := -1) (cx (xo xF (by decide)) (bx (x_surf xF a) (ixp rfl (ox rfl rfl)))) (cx (mo mF (by decide)) (bx e1 (bx (m_surf M a) (ixp rfl (ox rfl rfl)))))
theorem p_rest (a b c : Int32) : Al2 (F11_rest hxF 0 a b c) (F12_rest hmF 0 a b c) := by
  obtain ⟨h1, e1, M⟩ := m_st mF
  exact al2 (v := -1) (cx (xo xF (by decide)) (bx (x_surf xF a) (ixp rfl (ox rfl rfl)))) (cx (mo mF (by decide)) (bx e1 (bx (m_surf M a) (ixp rfl (ox rfl rfl)))))
theorem p_plan (a : Int32) : Al2 (F11_plan hxF 0 a) (F12_plan hmF 0 a) := by
  obtain ⟨h1, e1, M⟩ := m_st mF
  exact al2 (v := -1) (cx (xo xF (by decide)) (bx (x_surf xF a) (ixp rfl (ox rfl rfl)))) (cx (mo mF (by decide)) (bx e1 (bx (m_surf M a) (ixp rfl (ox rfl rfl)))))
theorem p_planned (a b : Int32) : Al2 (F11_planned hxF 0 a b) (F12_planned hmF 0 a b) := by
  obtain ⟨h1, e1, M⟩ := m_st mF
  exact al2 (v := -1) (cx (xo xF (by decide)) (bx (x_surf xF a) (ixp rfl (ox rfl rfl)))) (cx (mo mF (by decide)) (bx e1 (bx (m_surf M a) (ixp rfl (ox rfl rfl)))))
theorem p_go (a b c : Int32) : Al2 (F11_go hxF 0 a b c) (F12_go hmF 0 a b c) := by
  obtain ⟨h1, e1, M⟩ := m_st mF
  exact al2 (v := -1) (cx (xo xF (by decide)) (bx (x_surf xF a) (ixp rfl (ox rfl rfl)))) (cx (mo mF (by decide)) (bx e1 (bx (m_surf M a) (ixp rfl (ox rfl rfl)))))
theorem p_give (a b c : Int32) : Al2 (F11_give hxF 0 a b c) (F12_give hmF 0 a b c) := by
  obtain ⟨h1, e1, M⟩ := m_st mF
  exact al2 (v := -1) (cx (xo xF (by decide)) (bx (x_surf xF a) (ixp rfl (ox rfl rfl)))) (cx (mo mF (by decide)) (bx e1 (bx (m_surf M a) (ixp rfl (ox rfl rfl)))))
theorem p_over (a : Int32) : Al2 (F11_over hxF 0 a) (F12_over hmF 0 a) := by
  obtain ⟨h1, e1, M⟩ := m_st mF
  exact al2 (v := -1) (cx (xo xF (by decide)) (bx (x_surf xF a) (ixp rfl (ox rfl rfl)))) (cx (mo mF (by decide)) (bx e1 (bx (m_surf M a) (ixp rfl (ox rfl rfl)))))
theorem p_wave (a b : Int32) : Al2 (F11_wave hxF 0 a b) (F12_wave hmF 0 a b) := by
  obtain ⟨h1, e1, M⟩ := m_st mF
  exact al2 (v := -4) (cx (xo xF (by decide)) (bx (x_wave xF a) (ixp rfl (ox rfl rfl)))) (cx (mo mF (by decide)) (bx e1 (bx (m_wave M a) (ixp rfl (ox rfl rfl)))))
theorem p_named (a : Int32) : Al2 (F11_named hxF 0 a) (F12_named hmF 0 a) := by
  obtain ⟨h1, e1, M⟩ := m_st mF
  have hf : F12_find h1 5 0 0 a = some (-1, h1) := by
    show F12_find_3 (1023 + 1) h1 5 0 0 a 0 = _
    rw [F12_find_3]; rfl
  refine al2 (v := -1) (cx (xo xF (by decide)) ?_) (cx (mo mF (by decide)) (bx e1 (bx (mr M (r := 5) (by decide)) (bx M.2.1 (bx hf (ox rfl rfl))))))
  show ∃ o, F11_named_2 (1023 + 1) hxF 0 a 0 = some o ∧ _
  rw [F11_named_2]
  exact bx (xr xF (r := 2) (by decide)) (bx (xr xF (r := 3) (by decide)) (bx xF.2.1 (ixp (by decide) (ox rfl rfl))))
theorem p_fault (a : Int32) : Al2 (F11_fault hxF 0 a) (F12_fault hmF 0 a) := by
  obtain ⟨h1, e1, M⟩ := m_st mF
  by_cases c0 : a = 0
  · exact al2 (v := 0) (cx (xo xF (by decide)) (ixp c0 (bx (xr xF (r := 46) (by decide)) (bx xF.2.2.2.2.2.1 (ox rfl rfl))))) (cx (mo mF (by decide)) (bx e1 (ixp c0 (bx M.2.2.2.2.2.1 (ox rfl rfl)))))
  · by_cases c1 : a = 1
    · exact al2 (v := -1) (cx (xo xF (by decide)) (ixn c0 (ixp c1 (bx (xr xF (r := 46) (by decide)) (bx xF.2.2.2.2.2.2.1 (ox rfl rfl)))))) (cx (mo mF (by decide)) (bx e1 (ixn c0 (ixp c1 (bx M.2.2.2.2.2.2.1 (ox rfl rfl))))))
    · exact al2 (v := -1) (cx (xo xF (by decide)) (ixn c0 (ixn c1 (ox rfl rfl)))) (cx (mo mF (by decide)) (bx e1 (ixn c0 (ixn c1 (ox rfl rfl)))))
theorem p_shares (a : Int32) : Al2 (F11_shares hxF 0 a) (F12_shares hmF 0 a) := by
  obtain ⟨h1, e1, M⟩ := m_st mF
  refine al2 (v := -1) (cx (xo xF (by decide)) ?_) (cx (mo mF (by decide)) (bx e1 (bx M.2.1 (ixp rfl (ox rfl rfl)))))
  by_cases c0 : a < 0
  · exact ixp c0 (ox rfl rfl)
  · by_cases c1 : 1 < a
    · exact ixn c0 (ixp c1 (ox rfl rfl))
    · exact ixn c0 (ixn c1 (bx (xr xF (r := 2) (by decide)) (bx (xr xF (r := 3) (by decide)) (bx xF.2.1 (ixn (by decide) (ox rfl rfl))))))
theorem p_note (a b c : Int32) : Al2 (F11_note hxF 0 a b c) (F12_note hmF 0 a b c) := by
  obtain ⟨h1, e1, M⟩ := m_st mF
  refine al2 (v := -1) (cx (xo xF (by decide)) ?_) (cx (mo mF (by decide)) (bx e1 (bx M.2.2.2.2.1 (ixn (by decide) ?_))))
  · by_cases c0 : a < 0
    · exact ixp c0 (ox rfl rfl)
    · by_cases c1 : 199 < a
      · exact ixn c0 (ixp c1 (ox rfl rfl))
      · exact ixn c0 (ixn c1 (bx (x_surf xF b) (ixp rfl (ox rfl rfl))))
  · rcases m_in (h := h1) a 0 199 with ⟨-, q⟩ | ⟨-, q⟩
    · exact bx q (ixp rfl (ox rfl rfl))
    · exact bx q (ixn one_ne (bx (m_surf M b) (ixp rfl (ox rfl rfl))))
theorem p_strike (a : Int32) : Al2 (F11_strike hxF 0 a) (F12_strike hmF 0 a) := by
  obtain ⟨h1, e1, M⟩ := m_st mF
  refine al2 (v := -1) (cx (xo xF (by decide)) ?_) (cx (mo mF (by decide)) (bx e1 (bx M.2.2.2.2.1 (ixn (by decide) ?_))))
  · by_cases c0 : a < 0
    · exact ixp c0 (ox rfl rfl)
    · exact ixn c0 (bx (xr xF (r := 90) (by decide)) (bx xF.2.2.2.2.1 (ixn c0 (ox rfl rfl))))
  · by_cases c0 : a < 0
    · exact ixp c0 (ox rfl rfl)
    · exact ixn c0 (bx M.2.2.2.2.1 (ixn c0 (ox rfl rfl)))
theorem p_chance (a b c : Int32) : Al2 (F11_chance hxF 0 a b c) (F12_chance hmF 0 a b c) := by
  obtain ⟨h1, e1, M⟩ := m_st mF
  by_cases c0 : a < 0
  · exact al2 (v := -1) (cx (xo xF (by decide)) (ixp c0 (ox rfl rfl))) (cx (mo mF (by decide)) (bx e1 (ixp c0 (ox rfl rfl))))
  · exact al2 (v := -1) (cx (xo xF (by decide)) (ixn c0 (bx (x_surf xF b) (ixp rfl (ox rfl rfl))))) (cx (mo mF (by decide)) (bx e1 (ixn c0 (bx (m_surf M b) (ixp rfl (ox rfl rfl))))))
theorem p_rank (a b : Int32) : Al2 (F11_rank hxF 0 a b) (F12_rank_ hmF 0 a b) := by
  obtain ⟨h1, e1, M⟩ := m_st mF
  by_cases c0 : a < 1
  · refine al2 (v := -1) (cx (xo xF (by decide)) (ixp c0 (ox rfl rfl))) (cx (mo mF (by decide)) (bx e1 ?_))
    rcases m_in (h := h1) a 1 7 with ⟨-, q⟩ | ⟨q0, q⟩
    · exact bx q (ixp rfl (ox rfl rfl))
    · exact absurd c0 q0.1
  · by_cases c1 : 7 < a
    · refine al2 (v := -1) (cx (xo xF (by decide)) (ixn c0 (ixp c1 (ox rfl rfl)))) (cx (mo mF (by decide)) (bx e1 ?_))
      rcases m_in (h := h1) a 1 7 with ⟨-, q⟩ | ⟨q0, q⟩
      · exact bx q (ixp rfl (ox rfl rfl))
      · exact absurd c1 q0.2
    · have qa : F12_isIn h1 a 1 7 = some (1, h1) := by
        rcases m_in (h := h1) a 1 7 with ⟨q0, q⟩ | ⟨-, q⟩
        · exact absurd q0 (by rintro (z | z); exact c0 z; exact c1 z)
        · exact q
      by_cases c2 : b < 0
      · refine al2 (v := -1) (cx (xo xF (by decide)) (ixn c0 (ixn c1 (ixp c2 (ox rfl rfl))))) (cx (mo mF (by decide)) (bx e1 (bx qa (ixn one_ne ?_))))
        rcases m_in (h := h1) b 0 1 with ⟨-, q⟩ | ⟨q0, q⟩
        · exact bx q (ixp rfl (ox rfl rfl))
        · exact absurd c2 q0.1
      · by_cases c3 : b ≤ 1
        · have qb : F12_isIn h1 b 0 1 = some (1, h1) := by
            rcases m_in (h := h1) b 0 1 with ⟨q0, q⟩ | ⟨-, q⟩
            · exact absurd q0 (by rintro (z | z); exact c2 z; exact Int32.not_lt.mpr c3 z)
            · exact q
          refine al2 (v := 0) (cx (xo xF (by decide)) (ixn c0 (ixn c1 (ixn c2 (ixp c3 ?_))))) (cx (mo mF (by decide)) (bx e1 (bx qa (ixn one_ne (bx qb (ixn one_ne ?_))))))
          · show ∃ o, F11_rank_27 (1023 + 1) hxF 0 a b 0 0 = some o ∧ _
            rw [F11_rank_27]
            exact bx (xr xF (r := 2) (by decide)) (bx (xr xF (r := 10) (by decide)) (bx xF.2.2.1 (ixp (by decide) (ox rfl rfl))))
          · show ∃ o, F12_rank__34 (1023 + 1) h1 0 a b 0 0 0 = some o ∧ _
            rw [F12_rank__34]
            refine bx M.2.2.1 (ixp (by decide) ?_)
            by_cases c4 : b = 0
            · exact ixp c4 (ox rfl rfl)
            · exact ixn c4 (ox rfl rfl)
        · refine al2 (v := -1) (cx (xo xF (by decide)) (ixn c0 (ixn c1 (ixn c2 (ixn c3 (ox rfl rfl)))))) (cx (mo mF (by decide)) (bx e1 (bx qa (ixn one_ne ?_))))
          rcases m_in (h := h1) b 0 1 with ⟨-, q⟩ | ⟨q0, q⟩
          · exact bx q (ixp rfl (ox rfl rfl))
          · exact absurd (Int32.not_lt.mp q0.2) c3
theorem p_gaps (a b : Int32) : Al2 (F11_gaps hxF 0 a b) (F12_gaps hmF 0 a b) := by
  obtain ⟨h1, e1, M⟩ := m_st mF
  by_cases c0 : a < 0
  · refine al2 (v := -1) (cx (xo xF (by decide)) (ixp c0 (ox rfl rfl))) (cx (mo mF (by decide)) (bx e1 ?_))
    rcases m_in (h := h1) a 0 99 with ⟨-, q⟩ | ⟨q0, q⟩
    · exact bx q (ixp rfl (ox rfl rfl))
    · exact absurd c0 q0.1
  · by_cases c1 : 99 < a
    · refine al2 (v := -1) (cx (xo xF (by decide)) (ixn c0 (ixp c1 (ox rfl rfl)))) (cx (mo mF (by decide)) (bx e1 ?_))
      rcases m_in (h := h1) a 0 99 with ⟨-, q⟩ | ⟨q0, q⟩
      · exact bx q (ixp rfl (ox rfl rfl))
      · exact absurd c1 q0.2
    · have qa : F12_isIn h1 a 0 99 = some (1, h1) := by
        rcases m_in (h := h1) a 0 99 with ⟨q0, q⟩ | ⟨-, q⟩
        · exact absurd q0 (by rintro (z | z); exact c0 z; exact c1 z)
        · exact q
      by_cases c2 : b < 0
      · refine al2 (v := -1) (cx (xo xF (by decide)) (ixn c0 (ixn c1 (ixp c2 (ox rfl rfl))))) (cx (mo mF (by decide)) (bx e1 (bx qa (ixn one_ne ?_))))
        rcases m_in (h := h1) b 0 1 with ⟨-, q⟩ | ⟨q0, q⟩
        · exact bx q (ixp rfl (ox rfl rfl))
        · exact absurd c2 q0.1
      · by_cases c3 : b ≤ 1
        · have qb : F12_isIn h1 b 0 1 = some (1, h1) := by
            rcases m_in (h := h1) b 0 1 with ⟨q0, q⟩ | ⟨-, q⟩
            · exact absurd q0 (by rintro (z | z); exact c2 z; exact Int32.not_lt.mpr c3 z)
            · exact q
          refine al2 (v := 0) (cx (xo xF (by decide)) (ixn c0 (ixn c1 (ixn c2 (ixp c3 ?_))))) (cx (mo mF (by decide)) (bx e1 (bx qa (ixn one_ne (bx qb (ixn one_ne ?_))))))
          · show ∃ o, F11_gaps_26 (1023 + 1) hxF 0 a b 0 1 = some o ∧ _
            rw [F11_gaps_26]
            exact bx (xr xF (r := 2) (by decide)) (bx (xr xF (r := 10) (by decide)) (bx xF.2.2.1 (ixp (by decide) (ox rfl rfl))))
          · show ∃ o, F12_gaps_31 (1023 + 1) h1 0 a b 0 1 = some o ∧ _
            rw [F12_gaps_31]
            refine bx M.2.2.1 (ixp (by decide) ?_)
            by_cases c4 : b = 0
            · exact ixp c4 (ox rfl rfl)
            · exact ixn c4 (bx M.2.2.1 (ixn (by decide) (ox rfl rfl)))
        · refine al2 (v := -1) (cx (xo xF (by decide)) (ixn c0 (ixn c1 (ixn c2 (ixn c3 (ox rfl rfl)))))) (cx (mo mF (by decide)) (bx e1 (bx qa (ixn one_ne ?_))))
          rcases m_in (h := h1) b 0 1 with ⟨-, q⟩ | ⟨q0, q⟩
          · exact bx q (ixp rfl (ox rfl rfl))
          · exact absurd (Int32.not_lt.mp q0.2) c3
