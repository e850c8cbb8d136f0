theorem x_ok {h : PH} (H : OKX h) : okO h 0 11 = true ∧ h.length = 110 := ⟨by rw [okO_Sk, H.1]; rfl, by rw [← sk_len, H.1]; rfl⟩
theorem m_ok {h : PH} (H : OKM h) : okO h 0 12 = true ∧ h.length = 43 := by
  have e : Sk h = SM := H
  exact ⟨by rw [okO_Sk, e]; rfl, by rw [← sk_len, e]; rfl⟩
/-! look over the pure heaps. -/
/-- the class's look answers r -/
def LN (h : PH) (x1 x2 r : Int32) (h' : PH) : Prop := (h' = h ∧ x2.toInt = 0 ∧ ∃ n q, gR h 0 11 7 = some n ∧ gR h n 4 5 = some q ∧ aI h q 0 x1 = some r) ∨ (h' = h ∧ x2.toInt = 1 ∧ ∃ n q, gR h 0 11 7 = some n ∧ gR h n 4 6 = some q ∧ aI h q 0 x1 = some r) ∨ (h' = h ∧ x2.toInt = 2 ∧ ∃ n q, gR h 0 11 7 = some n ∧ gR h n 4 7 = some q ∧ aI h q 0 x1 = some r) ∨ (h' = h ∧ x2.toInt = 3 ∧ ∃ n q, gR h 0 11 7 = some n ∧ gR h n 4 8 = some q ∧ aI h q 0 x1 = some r) ∨ (h' = h ∧ x2.toInt = 4 ∧ ∃ t cr pc n st v1 v2, gR h 0 11 3 = some t ∧ gR h t 8 4 = some cr ∧ gR h cr 1 4 = some pc ∧ aI h pc 0 x1 = some v1 ∧ gR h 0 11 7 = some n ∧ gR h n 4 9 = some st ∧ aI h st 0 x1 = some v2 ∧ r = v1 - v2) ∨ (x2.toInt = 5 ∧ F11_farNow h 0 x1 = some (r, h'))
theorem p_look {hx hm : PH} (L : LRl hx hm) (x1 x2 : Int32) : ∃ (om : Int32) (hm' : PH) (sf : Int32) (h1 : PH), F12_look hm 0 x1 x2 = some (om, hm') ∧ F11_isSurfer hx 0 x1 = some (sf, h1) ∧ OKX h1 ∧ ((sf = 0 ∧ LRl h1 hm' ∧ rd hm' 0 2 = 1) ∨ (sf = 1 ∧ ¬ (0 ≤ x2.toInt ∧ x2.toInt ≤ 5) ∧ LRl h1 hm' ∧ rd hm' 0 2 = 2) ∨ (sf = 1 ∧ ∃ hx', LN h1 x1 x2 om hx' ∧ LRl hx' hm' ∧ rd hm' 0 2 = 0)) := by
  obtain ⟨T, hT, e3, hs, k⟩ := a_look L.2.2 x1.toInt x2.toInt
  have hS := c_isS (T := T) (w := sl 21 (rd hx) T) e3 (TX_sl hT) x1.toInt
  have ew : sl 21 (rd hx) T 1 0 = rd hx (T + 1) 0 := sl_e (by omega) _
  rw [ew] at hS
  obtain ⟨h1, f1, o1, r1, _⟩ := S11_isSurfer L.1 (z3_of x1) (r3_of x1) _ hS
  have r1 : rd h1 = rd hx := r1
  have tT : (rd h1 0 3).toNat = T := by rw [r1, e3]; exact Int.toNat_natCast _
  rcases k with ⟨c, v', g1, g2, R⟩ | ⟨c, k⟩
  · obtain ⟨hm', f2, o2, r2, _⟩ := S12_look L.2.1 (z3_of x1) (r3_of x1) (z3_of x2) (r3_of x2) _ g1
    rw [if_neg c] at f1
    exact ⟨_, hm', _, h1, f2, f1, o1, Or.inl ⟨rfl, ⟨o1, o2, by rw [r1, r2]; exact R⟩, by rw [r2]; exact g2⟩⟩
  · rw [if_pos c] at f1
    have hx5 : 0 ≤ x1.toInt ∧ x1.toInt < 5 := by omega
    rcases k with ⟨c2, v', g1, g2, R⟩ | ⟨c2, v', g1, g2, R⟩ | ⟨c2, c3, v', g1, g2, R⟩ | ⟨c2, a, m', v', g0, g1, g2, R⟩
    · obtain ⟨hm', f2, o2, r2, _⟩ := S12_look L.2.1 (z3_of x1) (r3_of x1) (z3_of x2) (r3_of x2) _ g1
      exact ⟨_, hm', _, h1, f2, f1, o1, Or.inr (Or.inl ⟨rfl, c2, ⟨o1, o2, by rw [r1, r2]; exact R⟩, by rw [r2]; exact g2⟩)⟩
    · obtain ⟨hm', f2, o2, r2, _⟩ := S12_look L.2.1 (z3_of x1) (r3_of x1) (z3_of x2) (r3_of x2) _ g1
      refine ⟨_, hm', _, h1, f2, f1, o1, Or.inr (Or.inr ⟨rfl, h1, ?_, ⟨o1, o2, by rw [r1, r2]; exact R⟩, by rw [r2]; exact g2⟩)⟩
      rcases (show x2.toInt = 0 ∨ x2.toInt = 1 ∨ x2.toInt = 2 ∨ x2.toInt = 3 by omega) with e | e | e | e
      · refine Or.inl ⟨rfl, e, 69, 70, x_gR_11_7 o1, x_gR_4_5 o1 p4_69, ?_⟩
        rw [(x_aI_4_5 o1 (ao_4_5 p4_69) (z3_of x1) hx5).1, r1, e]; rfl
      · refine Or.inr (Or.inl ⟨rfl, e, 69, 71, x_gR_11_7 o1, x_gR_4_6 o1 p4_69, ?_⟩)
        rw [(x_aI_4_6 o1 (ao_4_6 p4_69) (z3_of x1) hx5).1, r1, e]; rfl
      · refine Or.inr (Or.inr (Or.inl ⟨rfl, e, 69, 72, x_gR_11_7 o1, x_gR_4_7 o1 p4_69, ?_⟩))
        rw [(x_aI_4_7 o1 (ao_4_7 p4_69) (z3_of x1) hx5).1, r1, e]; rfl
      · refine Or.inr (Or.inr (Or.inr (Or.inl ⟨rfl, e, 69, 73, x_gR_11_7 o1, x_gR_4_8 o1 p4_69, ?_⟩)))
        rw [(x_aI_4_8 o1 (ao_4_8 p4_69) (z3_of x1) hx5).1, r1, e]; rfl
    · obtain ⟨hm', f2, o2, r2, _⟩ := S12_look L.2.1 (z3_of x1) (r3_of x1) (z3_of x2) (r3_of x2) _ g1
      refine ⟨_, hm', _, h1, f2, f1, o1, Or.inr (Or.inr ⟨rfl, h1, ?_, ⟨o1, o2, by rw [r1, r2]; exact R⟩, by rw [r2]; exact g2⟩)⟩
      have a8 : A8 T := hT
      have a1 : A1 (T + 1) := by rcases hT with e | e <;> subst e <;> simp [A1]
      refine Or.inr (Or.inr (Or.inr (Or.inr (Or.inl ⟨rfl, c2, T, T + 1, T + 1 + 4, 69, 74, _, _, ?_, x_gR_8_4 o1 a8, x_gR_1_4 o1 a1, (x_aI_1_4 o1 (ao_1_4 a1) (z3_of x1) hx5).1, x_gR_11_7 o1, x_gR_4_9 o1 p4_69, (x_aI_4_9 o1 (ao_4_9 p4_69) (z3_of x1) hx5).1, ?_⟩))))
      · rw [x_gR_11_3 o1, tT]
      · rw [z3_sub rfl rfl, r1]
    · obtain ⟨hm', f2, o2, r2, _⟩ := S12_look L.2.1 (z3_of x1) (r3_of x1) (z3_of x2) (r3_of x2) _ g1
      obtain ⟨hx', f3, o3, r3, _⟩ := S11_farNow o1 (z3_of x1) (r3_of x1) (a, m') (by rw [r1]; exact g0)
      exact ⟨_, hm', _, h1, f2, f1, o1, Or.inr (Or.inr ⟨rfl, hx', Or.inr (Or.inr (Or.inr (Or.inr (Or.inr ⟨c2, f3⟩)))), ⟨o3, o2, by rw [r3, r2]; exact R⟩, by rw [r2]; exact g2⟩)⟩
