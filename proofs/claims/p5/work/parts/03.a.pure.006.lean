theorem x_row_6_2 {h : PH} (H : OKX h) {a : Nat} (ha : R6_2 a) : cA (Sk h) a 1 = some 5 := by rw [H.1]; rcases ha with rfl | rfl <;> rfl
theorem x_row_6_3 {h : PH} (H : OKX h) {a : Nat} (ha : R6_3 a) : cA (Sk h) a 1 = some 28 := by rw [H.1]; rcases ha with rfl | rfl <;> rfl
theorem x_row_9_1 {h : PH} (H : OKX h) : cA (Sk h) 97 1 = some 20 := by rw [H.1]; rfl
theorem x_row_9_2 {h : PH} (H : OKX h) : cA (Sk h) 98 1 = some 20 := by rw [H.1]; rfl
theorem x_sI_0_0 {h : PH} (H : OKX h) {i : Int32} {I : Int} (hi : i = Z3 I) (c : 0 ≤ I ∧ I < 10) {x : Int32} {X : Int} (hx : x = Z3 X) (hr : r3 X) : ∃ h', sI h 100 0 i x = some h' ∧ OKX h' ∧ rd h' = up (rd h) 100 I X := x_sI (t := 0) (n := 10) H rfl (by decide) (fun k => nrx_row (by decide) k) hi c hx hr
theorem x_sI_0_1 {h : PH} (H : OKX h) {i : Int32} {I : Int} (hi : i = Z3 I) (c : 0 ≤ I ∧ I < 280) {x : Int32} {X : Int} (hx : x = Z3 X) (hr : r3 X) : ∃ h', sI h 101 0 i x = some h' ∧ OKX h' ∧ rd h' = up (rd h) 101 I X := x_sI (t := 0) (n := 280) H rfl (by decide) (fun k => nrx_row (by decide) k) hi c hx hr
theorem x_sI_0_10 {h : PH} (H : OKX h) {i : Int32} {I : Int} (hi : i = Z3 I) (c : 0 ≤ I ∧ I < 28) {x : Int32} {X : Int} (hx : x = Z3 X) (hr : r3 X) : ∃ h', sI h 109 0 i x = some h' ∧ OKX h' ∧ rd h' = up (rd h) 109 I X := x_sI (t := 0) (n := 28) H rfl (by decide) (fun k => nrx_row (by decide) k) hi c hx hr
theorem x_sI_0_2 {h : PH} (H : OKX h) {i : Int32} {I : Int} (hi : i = Z3 I) (c : 0 ≤ I ∧ I < 280) {x : Int32} {X : Int} (hx : x = Z3 X) (hr : r3 X) : ∃ h', sI h 102 0 i x = some h' ∧ OKX h' ∧ rd h' = up (rd h) 102 I X := x_sI (t := 0) (n := 280) H rfl (by decide) (fun k => nrx_row (by decide) k) hi c hx hr
theorem x_sI_0_3 {h : PH} (H : OKX h) {i : Int32} {I : Int} (hi : i = Z3 I) (c : 0 ≤ I ∧ I < 25) {x : Int32} {X : Int} (hx : x = Z3 X) (hr : r3 X) : ∃ h', sI h 103 0 i x = some h' ∧ OKX h' ∧ rd h' = up (rd h) 103 I X := x_sI (t := 0) (n := 25) H rfl (by decide) (fun k => nrx_row (by decide) k) hi c hx hr
theorem x_sI_0_4 {h : PH} (H : OKX h) {i : Int32} {I : Int} (hi : i = Z3 I) (c : 0 ≤ I ∧ I < 25) {x : Int32} {X : Int} (hx : x = Z3 X) (hr : r3 X) : ∃ h', sI h 104 0 i x = some h' ∧ OKX h' ∧ rd h' = up (rd h) 104 I X := x_sI (t := 0) (n := 25) H rfl (by decide) (fun k => nrx_row (by decide) k) hi c hx hr
theorem x_sI_0_5 {h : PH} (H : OKX h) {i : Int32} {I : Int} (hi : i = Z3 I) (c : 0 ≤ I ∧ I < 25) {x : Int32} {X : Int} (hx : x = Z3 X) (hr : r3 X) : ∃ h', sI h 105 0 i x = some h' ∧ OKX h' ∧ rd h' = up (rd h) 105 I X := x_sI (t := 0) (n := 25) H rfl (by decide) (fun k => nrx_row (by decide) k) hi c hx hr
theorem x_sI_0_7 {h : PH} (H : OKX h) {i : Int32} {I : Int} (hi : i = Z3 I) (c : 0 ≤ I ∧ I < 29) {x : Int32} {X : Int} (hx : x = Z3 X) (hr : r3 X) : ∃ h', sI h 106 0 i x = some h' ∧ OKX h' ∧ rd h' = up (rd h) 106 I X := x_sI (t := 0) (n := 29) H rfl (by decide) (fun k => nrx_row (by decide) k) hi c hx hr
theorem x_sI_0_8 {h : PH} (H : OKX h) {i : Int32} {I : Int} (hi : i = Z3 I) (c : 0 ≤ I ∧ I < 28) {x : Int32} {X : Int} (hx : x = Z3 X) (hr : r3 X) : ∃ h', sI h 107 0 i x = some h' ∧ OKX h' ∧ rd h' = up (rd h) 107 I X := x_sI (t := 0) (n := 28) H rfl (by decide) (fun k => nrx_row (by decide) k) hi c hx hr
theorem x_sI_0_9 {h : PH} (H : OKX h) {i : Int32} {I : Int} (hi : i = Z3 I) (c : 0 ≤ I ∧ I < 28) {x : Int32} {X : Int} (hx : x = Z3 X) (hr : r3 X) : ∃ h', sI h 108 2 i x = some h' ∧ OKX h' ∧ rd h' = up (rd h) 108 I X := x_sI (t := 2) (n := 28) H rfl (by decide) (fun k => nrx_row (by decide) k) hi c hx hr
theorem x_sI_1_1 {h : PH} (H : OKX h) {a : Nat} (ha : R1_1 a) {i : Int32} {I : Int} (hi : i = Z3 I) (c : 0 ≤ I ∧ I < 5) {x : Int32} {X : Int} (hx : x = Z3 X) (hr : r3 X) : ∃ h', sI h a 0 i x = some h' ∧ OKX h' ∧ rd h' = up (rd h) a I X := x_sI (t := 0) (n := 5) H (by rcases ha with rfl | rfl <;> rfl) (by decide) (fun k => nrx_row (by rcases ha with rfl | rfl <;> decide) k) hi c hx hr
theorem x_sI_1_2 {h : PH} (H : OKX h) {a : Nat} (ha : R1_2 a) {i : Int32} {I : Int} (hi : i = Z3 I) (c : 0 ≤ I ∧ I < 5) {x : Int32} {X : Int} (hx : x = Z3 X) (hr : r3 X) : ∃ h', sI h a 0 i x = some h' ∧ OKX h' ∧ rd h' = up (rd h) a I X := x_sI (t := 0) (n := 5) H (by rcases ha with rfl | rfl <;> rfl) (by decide) (fun k => nrx_row (by rcases ha with rfl | rfl <;> decide) k) hi c hx hr
theorem x_sI_1_3 {h : PH} (H : OKX h) {a : Nat} (ha : R1_3 a) {i : Int32} {I : Int} (hi : i = Z3 I) (c : 0 ≤ I ∧ I < 5) {x : Int32} {X : Int} (hx : x = Z3 X) (hr : r3 X) : ∃ h', sI h a 0 i x = some h' ∧ OKX h' ∧ rd h' = up (rd h) a I X := x_sI (t := 0) (n := 5) H (by rcases ha with rfl | rfl <;> rfl) (by decide) (fun k => nrx_row (by rcases ha with rfl | rfl <;> decide) k) hi c hx hr
theorem x_sI_1_4 {h : PH} (H : OKX h) {a : Nat} (ha : R1_4 a) {i : Int32} {I : Int} (hi : i = Z3 I) (c : 0 ≤ I ∧ I < 5) {x : Int32} {X : Int} (hx : x = Z3 X) (hr : r3 X) : ∃ h', sI h a 0 i x = some h' ∧ OKX h' ∧ rd h' = up (rd h) a I X := x_sI (t := 0) (n := 5) H (by rcases ha with rfl | rfl <;> rfl) (by decide) (fun k => nrx_row (by rcases ha with rfl | rfl <;> decide) k) hi c hx hr
theorem x_sI_1_5 {h : PH} (H : OKX h) {a : Nat} (ha : R1_5 a) {i : Int32} {I : Int} (hi : i = Z3 I) (c : 0 ≤ I ∧ I < 5) {x : Int32} {X : Int} (hx : x = Z3 X) (hr : r3 X) : ∃ h', sI h a 0 i x = some h' ∧ OKX h' ∧ rd h' = up (rd h) a I X := x_sI (t := 0) (n := 5) H (by rcases ha with rfl | rfl <;> rfl) (by decide) (fun k => nrx_row (by rcases ha with rfl | rfl <;> decide) k) hi c hx hr
theorem x_sI_1_6 {h : PH} (H : OKX h) {a : Nat} (ha : R1_6 a) {i : Int32} {I : Int} (hi : i = Z3 I) (c : 0 ≤ I ∧ I < 5) {x : Int32} {X : Int} (hx : x = Z3 X) (hr : r3 X) : ∃ h', sI h a 0 i x = some h' ∧ OKX h' ∧ rd h' = up (rd h) a I X := x_sI (t := 0) (n := 5) H (by rcases ha with rfl | rfl <;> rfl) (by decide) (fun k => nrx_row (by rcases ha with rfl | rfl <;> decide) k) hi c hx hr
theorem x_sI_10_2 {h : PH} (H : OKX h) {a : Nat} (ha : R10_2 a) {i : Int32} {I : Int} (hi : i = Z3 I) (c : 0 ≤ I ∧ I < 4) {x : Int32} {X : Int} (hx : x = Z3 X) (hr : r3 X) : ∃ h', sI h a 0 i x = some h' ∧ OKX h' ∧ rd h' = up (rd h) a I X := x_sI (t := 0) (n := 4) H (by rcases ha with rfl | rfl <;> rfl) (by decide) (fun k => nrx_row (by rcases ha with rfl | rfl <;> decide) k) hi c hx hr
theorem x_sI_10_3 {h : PH} (H : OKX h) {a : Nat} (ha : R10_3 a) {i : Int32} {I : Int} (hi : i = Z3 I) (c : 0 ≤ I ∧ I < 4) {x : Int32} {X : Int} (hx : x = Z3 X) (hr : r3 X) : ∃ h', sI h a 0 i x = some h' ∧ OKX h' ∧ rd h' = up (rd h) a I X := x_sI (t := 0) (n := 4) H (by rcases ha with rfl | rfl <;> rfl) (by decide) (fun k => nrx_row (by rcases ha with rfl | rfl <;> decide) k) hi c hx hr
theorem x_sI_10_4 {h : PH} (H : OKX h) {a : Nat} (ha : R10_4 a) {i : Int32} {I : Int} (hi : i = Z3 I) (c : 0 ≤ I ∧ I < 28) {x : Int32} {X : Int} (hx : x = Z3 X) (hr : r3 X) : ∃ h', sI h a 0 i x = some h' ∧ OKX h' ∧ rd h' = up (rd h) a I X := x_sI (t := 0) (n := 28) H (by rcases ha with rfl | rfl <;> rfl) (by decide) (fun k => nrx_row (by rcases ha with rfl | rfl <;> decide) k) hi c hx hr
theorem x_sI_10_5 {h : PH} (H : OKX h) {a : Nat} (ha : R10_5 a) {i : Int32} {I : Int} (hi : i = Z3 I) (c : 0 ≤ I ∧ I < 28) {x : Int32} {X : Int} (hx : x = Z3 X) (hr : r3 X) : ∃ h', sI h a 0 i x = some h' ∧ OKX h' ∧ rd h' = up (rd h) a I X := x_sI (t := 0) (n := 28) H (by rcases ha with rfl | rfl <;> rfl) (by decide) (fun k => nrx_row (by rcases ha with rfl | rfl <;> decide) k) hi c hx hr
theorem x_sI_10_6 {h : PH} (H : OKX h) {a : Nat} (ha : R10_6 a) {i : Int32} {I : Int} (hi : i = Z3 I) (c : 0 ≤ I ∧ I < 28) {x : Int32} {X : Int} (hx : x = Z3 X) (hr : r3 X) : ∃ h', sI h a 0 i x = some h' ∧ OKX h' ∧ rd h' = up (rd h) a I X := x_sI (t := 0) (n := 28) H (by rcases ha with rfl | rfl <;> rfl) (by decide) (fun k => nrx_row (by rcases ha with rfl | rfl <;> decide) k) hi c hx hr
theorem x_sI_10_7 {h : PH} (H : OKX h) {a : Nat} (ha : R10_7 a) {i : Int32} {I : Int} (hi : i = Z3 I) (c : 0 ≤ I ∧ I < 28) {x : Int32} {X : Int} (hx : x = Z3 X) (hr : r3 X) : ∃ h', sI h a 0 i x = some h' ∧ OKX h' ∧ rd h' = up (rd h) a I X := x_sI (t := 0) (n := 28) H (by rcases ha with rfl | rfl <;> rfl) (by decide) (fun k => nrx_row (by rcases ha with rfl | rfl <;> decide) k) hi c hx hr
theorem x_sI_11_0 {h : PH} (H : OKX h) {i : Int32} {I : Int} (hi : i = Z3 I) (c : 0 ≤ I ∧ I < 700) {x : Int32} {X : Int} (hx : x = Z3 X) (hr : r3 X) : ∃ h', sI h 1 1 i x = some h' ∧ OKX h' ∧ rd h' = up (rd h) 1 I X := x_sI (t := 1) (n := 700) H rfl (by decide) (fun k => nrx_row (by decide) k) hi c hx hr
theorem m_sI_12_0 {h : PH} (H : OKM h) {i : Int32} {I : Int} (hi : i = Z3 I) (c : 0 ≤ I ∧ I < 700) {x : Int32} {X : Int} (hx : x = Z3 X) (hr : r3 X) : ∃ h', sI h 1 0 i x = some h' ∧ OKM h' ∧ rd h' = up (rd h) 1 I X := m_sI (t := 0) (n := 700) H rfl (by decide) hi c hx hr
theorem m_sI_12_25 {h : PH} (H : OKM h) {i : Int32} {I : Int} (hi : i = Z3 I) (c : 0 ≤ I ∧ I < 5) {x : Int32} {X : Int} (hx : x = Z3 X) (hr : r3 X) : ∃ h', sI h 3 2 i x = some h' ∧ OKM h' ∧ rd h' = up (rd h) 3 I X := m_sI (t := 2) (n := 5) H rfl (by decide) hi c hx hr
theorem m_sI_12_26 {h : PH} (H : OKM h) {i : Int32} {I : Int} (hi : i = Z3 I) (c : 0 ≤ I ∧ I < 14) {x : Int32} {X : Int} (hx : x = Z3 X) (hr : r3 X) : ∃ h', sI h 4 0 i x = some h' ∧ OKM h' ∧ rd h' = up (rd h) 4 I X := m_sI (t := 0) (n := 14) H rfl (by decide) hi c hx hr
theorem m_sI_12_27 {h : PH} (H : OKM h) {i : Int32} {I : Int} (hi : i = Z3 I) (c : 0 ≤ I ∧ I < 10) {x : Int32} {X : Int} (hx : x = Z3 X) (hr : r3 X) : ∃ h', sI h 5 0 i x = some h' ∧ OKM h' ∧ rd h' = up (rd h) 5 I X := m_sI (t := 0) (n := 10) H rfl (by decide) hi c hx hr
theorem m_sI_12_28 {h : PH} (H : OKM h) {i : Int32} {I : Int} (hi : i = Z3 I) (c : 0 ≤ I ∧ I < 10) {x : Int32} {X : Int} (hx : x = Z3 X) (hr : r3 X) : ∃ h', sI h 6 0 i x = some h' ∧ OKM h' ∧ rd h' = up (rd h) 6 I X := m_sI (t := 0) (n := 10) H rfl (by decide) hi c hx hr
theorem m_sI_12_29 {h : PH} (H : OKM h) {i : Int32} {I : Int} (hi : i = Z3 I) (c : 0 ≤ I ∧ I < 10) {x : Int32} {X : Int} (hx : x = Z3 X) (hr : r3 X) : ∃ h', sI h 7 0 i x = some h' ∧ OKM h' ∧ rd h' = up (rd h) 7 I X := m_sI (t := 0) (n := 10) H rfl (by decide) hi c hx hr
theorem m_sI_12_30 {h : PH} (H : OKM h) {i : Int32} {I : Int} (hi : i = Z3 I) (c : 0 ≤ I ∧ I < 10) {x : Int32} {X : Int} (hx : x = Z3 X) (hr : r3 X) : ∃ h', sI h 8 0 i x = some h' ∧ OKM h' ∧ rd h' = up (rd h) 8 I X := m_sI (t := 0) (n := 10) H rfl (by decide) hi c hx hr
theorem m_sI_12_31 {h : PH} (H : OKM h) {i : Int32} {I : Int} (hi : i = Z3 I) (c : 0 ≤ I ∧ I < 10) {x : Int32} {X : Int} (hx : x = Z3 X) (hr : r3 X) : ∃ h', sI h 9 0 i x = some h' ∧ OKM h' ∧ rd h' = up (rd h) 9 I X := m_sI (t := 0) (n := 10) H rfl (by decide) hi c hx hr
theorem m_sI_12_32 {h : PH} (H : OKM h) {i : Int32} {I : Int} (hi : i = Z3 I) (c : 0 ≤ I ∧ I < 10) {x : Int32} {X : Int} (hx : x = Z3 X) (hr : r3 X) : ∃ h', sI h 10 0 i x = some h' ∧ OKM h' ∧ rd h' = up (rd h) 10 I X := m_sI (t := 0) (n := 10) H rfl (by decide) hi c hx hr
theorem m_sI_12_33 {h : PH} (H : OKM h) {i : Int32} {I : Int} (hi : i = Z3 I) (c : 0 ≤ I ∧ I < 8) {x : Int32} {X : Int} (hx : x = Z3 X) (hr : r3 X) : ∃ h', sI h 11 0 i x = some h' ∧ OKM h' ∧ rd h' = up (rd h) 11 I X := m_sI (t := 0) (n := 8) H rfl (by decide) hi c hx hr
theorem m_sI_12_34 {h : PH} (H : OKM h) {i : Int32} {I : Int} (hi : i = Z3 I) (c : 0 ≤ I ∧ I < 56) {x : Int32} {X : Int} (hx : x = Z3 X) (hr : r3 X) : ∃ h', sI h 12 0 i x = some h' ∧ OKM h' ∧ rd h' = up (rd h) 12 I X := m_sI (t := 0) (n := 56) H rfl (by decide) hi c hx hr
theorem m_sI_12_35 {h : PH} (H : OKM h) {i : Int32} {I : Int} (hi : i = Z3 I) (c : 0 ≤ I ∧ I < 56) {x : Int32} {X : Int} (hx : x = Z3 X) (hr : r3 X) : ∃ h', sI h 13 0 i x = some h' ∧ OKM h' ∧ rd h' = up (rd h) 13 I X := m_sI (t := 0) (n := 56) H rfl (by decide) hi c hx hr
theorem m_sI_12_36 {h : PH} (H : OKM h) {i : Int32} {I : Int} (hi : i = Z3 I) (c : 0 ≤ I ∧ I < 56) {x : Int32} {X : Int} (hx : x = Z3 X) (hr : r3 X) : ∃ h', sI h 14 0 i x = some h' ∧ OKM h' ∧ rd h' = up (rd h) 14 I X := m_sI (t := 0) (n := 56) H rfl (by decide) hi c hx hr
theorem m_sI_12_37 {h : PH} (H : OKM h) {i : Int32} {I : Int} (hi : i = Z3 I) (c : 0 ≤ I ∧ I < 6) {x : Int32} {X : Int} (hx : x = Z3 X) (hr : r3 X) : ∃ h', sI h 15 2 i x = some h' ∧ OKM h' ∧ rd h' = up (rd h) 15 I X := m_sI (t := 2) (n := 6) H rfl (by decide) hi c hx hr
theorem m_sI_12_38 {h : PH} (H : OKM h) {i : Int32} {I : Int} (hi : i = Z3 I) (c : 0 ≤ I ∧ I < 6) {x : Int32} {X : Int} (hx : x = Z3 X) (hr : r3 X) : ∃ h', sI h 16 0 i x = some h' ∧ OKM h' ∧ rd h' = up (rd h) 16 I X := m_sI (t := 0) (n := 6) H rfl (by decide) hi c hx hr
theorem m_sI_12_39 {h : PH} (H : OKM h) {i : Int32} {I : Int} (hi : i = Z3 I) (c : 0 ≤ I ∧ I < 6) {x : Int32} {X : Int} (hx : x = Z3 X) (hr : r3 X) : ∃ h', sI h 17 0 i x = some h' ∧ OKM h' ∧ rd h' = up (rd h) 17 I X := m_sI (t := 0) (n := 6) H rfl (by decide) hi c hx hr
theorem m_sI_12_40 {h : PH} (H : OKM h) {i : Int32} {I : Int} (hi : i = Z3 I) (c : 0 ≤ I ∧ I < 128) {x : Int32} {X : Int} (hx : x = Z3 X) (hr : r3 X) : ∃ h', sI h 18 0 i x = some h' ∧ OKM h' ∧ rd h' = up (rd h) 18 I X := m_sI (t := 0) (n := 128) H rfl (by decide) hi c hx hr
theorem m_sI_12_41 {h : PH} (H : OKM h) {i : Int32} {I : Int} (hi : i = Z3 I) (c : 0 ≤ I ∧ I < 128) {x : Int32} {X : Int} (hx : x = Z3 X) (hr : r3 X) : ∃ h', sI h 19 0 i x = some h' ∧ OKM h' ∧ rd h' = up (rd h) 19 I X := m_sI (t := 0) (n := 128) H rfl (by decide) hi c hx hr
theorem m_sI_12_42 {h : PH} (H : OKM h) {i : Int32} {I : Int} (hi : i = Z3 I) (c : 0 ≤ I ∧ I < 128) {x : Int32} {X : Int} (hx : x = Z3 X) (hr : r3 X) : ∃ h', sI h 20 0 i x = some h' ∧ OKM h' ∧ rd h' = up (rd h) 20 I X := m_sI (t := 0) (n := 128) H rfl (by decide) hi c hx hr
theorem m_sI_12_44 {h : PH} (H : OKM h) {i : Int32} {I : Int} (hi : i = Z3 I) (c : 0 ≤ I ∧ I < 96) {x : Int32} {X : Int} (hx : x = Z3 X) (hr : r3 X) : ∃ h', sI h 21 0 i x = some h' ∧ OKM h' ∧ rd h' = up (rd h) 21 I X := m_sI (t := 0) (n := 96) H rfl (by decide) hi c hx hr
theorem m_sI_12_45 {h : PH} (H : OKM h) {i : Int32} {I : Int} (hi : i = Z3 I) (c : 0 ≤ I ∧ I < 96) {x : Int32} {X : Int} (hx : x = Z3 X) (hr : r3 X) : ∃ h', sI h 22 0 i x = some h' ∧ OKM h' ∧ rd h' = up (rd h) 22 I X := m_sI (t := 0) (n := 96) H rfl (by decide) hi c hx hr
theorem m_sI_12_55 {h : PH} (H : OKM h) {i : Int32} {I : Int} (hi : i = Z3 I) (c : 0 ≤ I ∧ I < 10) {x : Int32} {X : Int} (hx : x = Z3 X) (hr : r3 X) : ∃ h', sI h 25 0 i x = some h' ∧ OKM h' ∧ rd h' = up (rd h) 25 I X := m_sI (t := 0) (n := 10) H rfl (by decide) hi c hx hr
theorem m_sI_12_56 {h : PH} (H : OKM h) {i : Int32} {I : Int} (hi : i = Z3 I) (c : 0 ≤ I ∧ I < 10) {x : Int32} {X : Int} (hx : x = Z3 X) (hr : r3 X) : ∃ h', sI h 26 0 i x = some h' ∧ OKM h' ∧ rd h' = up (rd h) 26 I X := m_sI (t := 0) (n := 10) H rfl (by decide) hi c hx hr
theorem m_sI_12_57 {h : PH} (H : OKM h) {i : Int32} {I : Int} (hi : i = Z3 I) (c : 0 ≤ I ∧ I < 10) {x : Int32} {X : Int} (hx : x = Z3 X) (hr : r3 X) : ∃ h', sI h 27 0 i x = some h' ∧ OKM h' ∧ rd h' = up (rd h) 27 I X := m_sI (t := 0) (n := 10) H rfl (by decide) hi c hx hr
theorem m_sI_12_58 {h : PH} (H : OKM h) {i : Int32} {I : Int} (hi : i = Z3 I) (c : 0 ≤ I ∧ I < 10) {x : Int32} {X : Int} (hx : x = Z3 X) (hr : r3 X) : ∃ h', sI h 28 0 i x = some h' ∧ OKM h' ∧ rd h' = up (rd h) 28 I X := m_sI (t := 0) (n := 10) H rfl (by decide) hi c hx hr
theorem m_sI_12_59 {h : PH} (H : OKM h) {i : Int32} {I : Int} (hi : i = Z3 I) (c : 0 ≤ I ∧ I < 5) {x : Int32} {X : Int} (hx : x = Z3 X) (hr : r3 X) : ∃ h', sI h 29 0 i x = some h' ∧ OKM h' ∧ rd h' = up (rd h) 29 I X := m_sI (t := 0) (n := 5) H rfl (by decide) hi c hx hr
theorem m_sI_12_60 {h : PH} (H : OKM h) {i : Int32} {I : Int} (hi : i = Z3 I) (c : 0 ≤ I ∧ I < 56) {x : Int32} {X : Int} (hx : x = Z3 X) (hr : r3 X) : ∃ h', sI h 30 0 i x = some h' ∧ OKM h' ∧ rd h' = up (rd h) 30 I X := m_sI (t := 0) (n := 56) H rfl (by decide) hi c hx hr
theorem m_sI_12_61 {h : PH} (H : OKM h) {i : Int32} {I : Int} (hi : i = Z3 I) (c : 0 ≤ I ∧ I < 2) {x : Int32} {X : Int} (hx : x = Z3 X) (hr : r3 X) : ∃ h', sI h 31 0 i x = some h' ∧ OKM h' ∧ rd h' = up (rd h) 31 I X := m_sI (t := 0) (n := 2) H rfl (by decide) hi c hx hr
theorem m_sI_12_62 {h : PH} (H : OKM h) {i : Int32} {I : Int} (hi : i = Z3 I) (c : 0 ≤ I ∧ I < 2) {x : Int32} {X : Int} (hx : x = Z3 X) (hr : r3 X) : ∃ h', sI h 32 0 i x = some h' ∧ OKM h' ∧ rd h' = up (rd h) 32 I X := m_sI (t := 0) (n := 2) H rfl (by decide) hi c hx hr
theorem m_sI_12_63 {h : PH} (H : OKM h) {i : Int32} {I : Int} (hi : i = Z3 I) (c : 0 ≤ I ∧ I < 2) {x : Int32} {X : Int} (hx : x = Z3 X) (hr : r3 X) : ∃ h', sI h 33 0 i x = some h' ∧ OKM h' ∧ rd h' = up (rd h) 33 I X := m_sI (t := 0) (n := 2) H rfl (by decide) hi c hx hr
theorem m_sI_12_68 {h : PH} (H : OKM h) {i : Int32} {I : Int} (hi : i = Z3 I) (c : 0 ≤ I ∧ I < 5) {x : Int32} {X : Int} (hx : x = Z3 X) (hr : r3 X) : ∃ h', sI h 34 0 i x = some h' ∧ OKM h' ∧ rd h' = up (rd h) 34 I X := m_sI (t := 0) (n := 5) H rfl (by decide) hi c hx hr
theorem m_sI_12_70 {h : PH} (H : OKM h) {i : Int32} {I : Int} (hi : i = Z3 I) (c : 0 ≤ I ∧ I < 25) {x : Int32} {X : Int} (hx : x = Z3 X) (hr : r3 X) : ∃ h', sI h 35 0 i x = some h' ∧ OKM h' ∧ rd h' = up (rd h) 35 I X := m_sI (t := 0) (n := 25) H rfl (by decide) hi c hx hr
theorem m_sI_12_71 {h : PH} (H : OKM h) {i : Int32} {I : Int} (hi : i = Z3 I) (c : 0 ≤ I ∧ I < 25) {x : Int32} {X : Int} (hx : x = Z3 X) (hr : r3 X) : ∃ h', sI h 36 0 i x = some h' ∧ OKM h' ∧ rd h' = up (rd h) 36 I X := m_sI (t := 0) (n := 25) H rfl (by decide) hi c hx hr
theorem m_sI_12_72 {h : PH} (H : OKM h) {i : Int32} {I : Int} (hi : i = Z3 I) (c : 0 ≤ I ∧ I < 29) {x : Int32} {X : Int} (hx : x = Z3 X) (hr : r3 X) : ∃ h', sI h 37 0 i x = some h' ∧ OKM h' ∧ rd h' = up (rd h) 37 I X := m_sI (t := 0) (n := 29) H rfl (by decide) hi c hx hr
theorem m_sI_12_73 {h : PH} (H : OKM h) {i : Int32} {I : Int} (hi : i = Z3 I) (c : 0 ≤ I ∧ I < 28) {x : Int32} {X : Int} (hx : x = Z3 X) (hr : r3 X) : ∃ h', sI h 38 0 i x = some h' ∧ OKM h' ∧ rd h' = up (rd h) 38 I X := m_sI (t := 0) (n := 28) H rfl (by decide) hi c hx hr
theorem m_sI_12_76 {h : PH} (H : OKM h) {i : Int32} {I : Int} (hi : i = Z3 I) (c : 0 ≤ I ∧ I < 72) {x : Int32} {X : Int} (hx : x = Z3 X) (hr : r3 X) : ∃ h', sI h 39 0 i x = some h' ∧ OKM h' ∧ rd h' = up (rd h) 39 I X := m_sI (t := 0) (n := 72) H rfl (by decide) hi c hx hr
theorem m_sI_12_77 {h : PH} (H : OKM h) {i : Int32} {I : Int} (hi : i = Z3 I) (c : 0 ≤ I ∧ I < 24) {x : Int32} {X : Int} (hx : x = Z3 X) (hr : r3 X) : ∃ h', sI h 40 2 i x = some h' ∧ OKM h' ∧ rd h' = up (rd h) 40 I X := m_sI (t := 2) (n := 24) H rfl (by decide) hi c hx hr
theorem m_sI_12_79 {h : PH} (H : OKM h) {i : Int32} {I : Int} (hi : i = Z3 I) (c : 0 ≤ I ∧ I < 220) {x : Int32} {X : Int} (hx : x = Z3 X) (hr : r3 X) : ∃ h', sI h 41 0 i x = some h' ∧ OKM h' ∧ rd h' = up (rd h) 41 I X := m_sI (t := 0) (n := 220) H rfl (by decide) hi c hx hr
theorem m_sI_12_81 {h : PH} (H : OKM h) {i : Int32} {I : Int} (hi : i = Z3 I) (c : 0 ≤ I ∧ I < 53) {x : Int32} {X : Int} (hx : x = Z3 X) (hr : r3 X) : ∃ h', sI h 42 0 i x = some h' ∧ OKM h' ∧ rd h' = up (rd h) 42 I X := m_sI (t := 0) (n := 53) H rfl (by decide) hi c hx hr
theorem x_sI_2_0 {h : PH} (H : OKX h) {a : Nat} (ha : R2_0 a) {i : Int32} {I : Int} (hi : i = Z3 I) (c : 0 ≤ I ∧ I < 64) {x : Int32} {X : Int} (hx : x = Z3 X) (hr : r3 X) : ∃ h', sI h a 0 i x = some h' ∧ OKX h' ∧ rd h' = up (rd h) a I X := x_sI (t := 0) (n := 64) H (by rcases ha with rfl | rfl | rfl | rfl | rfl | rfl <;> rfl) (by decide) (fun k => nrx_row (by rcases ha with rfl | rfl | rfl | rfl | rfl | rfl <;> decide) k) hi c hx hr
theorem x_sI_3_2 {h : PH} (H : OKX h) {i : Int32} {I : Int} (hi : i = Z3 I) (c : 0 ≤ I ∧ I < 24) {x : Int32} {X : Int} (hx : x = Z3 X) (hr : r3 X) : ∃ h', sI h 91 0 i x = some h' ∧ OKX h' ∧ rd h' = up (rd h) 91 I X := x_sI (t := 0) (n := 24) H rfl (by decide) (fun k => nrx_row (by decide) k) hi c hx hr
theorem x_sI_3_3 {h : PH} (H : OKX h) {i : Int32} {I : Int} (hi : i = Z3 I) (c : 0 ≤ I ∧ I < 24) {x : Int32} {X : Int} (hx : x = Z3 X) (hr : r3 X) : ∃ h', sI h 92 0 i x = some h' ∧ OKX h' ∧ rd h' = up (rd h) 92 I X := x_sI (t := 0) (n := 24) H rfl (by decide) (fun k => nrx_row (by decide) k) hi c hx hr
theorem x_sI_3_4 {h : PH} (H : OKX h) {i : Int32} {I : Int} (hi : i = Z3 I) (c : 0 ≤ I ∧ I < 24) {x : Int32} {X : Int} (hx : x = Z3 X) (hr : r3 X) : ∃ h', sI h 93 0 i x = some h' ∧ OKX h' ∧ rd h' = up (rd h) 93 I X := x_sI (t := 0) (n := 24) H rfl (by decide) (fun k => nrx_row (by decide) k) hi c hx hr
theorem x_sI_3_5 {h : PH} (H : OKX h) {i : Int32} {I : Int} (hi : i = Z3 I) (c : 0 ≤ I ∧ I < 24) {x : Int32} {X : Int} (hx : x = Z3 X) (hr : r3 X) : ∃ h', sI h 94 0 i x = some h' ∧ OKX h' ∧ rd h' = up (rd h) 94 I X := x_sI (t := 0) (n := 24) H rfl (by decide) (fun k => nrx_row (by decide) k) hi c hx hr
theorem x_sI_3_6 {h : PH} (H : OKX h) {i : Int32} {I : Int} (hi : i = Z3 I) (c : 0 ≤ I ∧ I < 24) {x : Int32} {X : Int} (hx : x = Z3 X) (hr : r3 X) : ∃ h', sI h 95 2 i x = some h' ∧ OKX h' ∧ rd h' = up (rd h) 95 I X := x_sI (t := 2) (n := 24) H rfl (by decide) (fun k => nrx_row (by decide) k) hi c hx hr
theorem x_sI_4_10 {h : PH} (H : OKX h) {a : Nat} (ha : R4_10 a) {i : Int32} {I : Int} (hi : i = Z3 I) (c : 0 ≤ I ∧ I < 28) {x : Int32} {X : Int} (hx : x = Z3 X) (hr : r3 X) : ∃ h', sI h a 0 i x = some h' ∧ OKX h' ∧ rd h' = up (rd h) a I X := x_sI (t := 0) (n := 28) H (by rcases ha with rfl | rfl | rfl <;> rfl) (by decide) (fun k => nrx_row (by rcases ha with rfl | rfl | rfl <;> decide) k) hi c hx hr
theorem x_sI_4_5 {h : PH} (H : OKX h) {a : Nat} (ha : R4_5 a) {i : Int32} {I : Int} (hi : i = Z3 I) (c : 0 ≤ I ∧ I < 5) {x : Int32} {X : Int} (hx : x = Z3 X) (hr : r3 X) : ∃ h', sI h a 0 i x = some h' ∧ OKX h' ∧ rd h' = up (rd h) a I X := x_sI (t := 0) (n := 5) H (by rcases ha with rfl | rfl | rfl <;> rfl) (by decide) (fun k => nrx_row (by rcases ha with rfl | rfl | rfl <;> decide) k) hi c hx hr
theorem x_sI_4_6 {h : PH} (H : OKX h) {a : Nat} (ha : R4_6 a) {i : Int32} {I : Int} (hi : i = Z3 I) (c : 0 ≤ I ∧ I < 5) {x : Int32} {X : Int} (hx : x = Z3 X) (hr : r3 X) : ∃ h', sI h a 0 i x = some h' ∧ OKX h' ∧ rd h' = up (rd h) a I X := x_sI (t := 0) (n := 5) H (by rcases ha with rfl | rfl | rfl <;> rfl) (by decide) (fun k => nrx_row (by rcases ha with rfl | rfl | rfl <;> decide) k) hi c hx hr
theorem x_sI_4_7 {h : PH} (H : OKX h) {a : Nat} (ha : R4_7 a) {i : Int32} {I : Int} (hi : i = Z3 I) (c : 0 ≤ I ∧ I < 5) {x : Int32} {X : Int} (hx : x = Z3 X) (hr : r3 X) : ∃ h', sI h a 0 i x = some h' ∧ OKX h' ∧ rd h' = up (rd h) a I X := x_sI (t := 0) (n := 5) H (by rcases ha with rfl | rfl | rfl <;> rfl) (by decide) (fun k => nrx_row (by rcases ha with rfl | rfl | rfl <;> decide) k) hi c hx hr
theorem x_sI_4_8 {h : PH} (H : OKX h) {a : Nat} (ha : R4_8 a) {i : Int32} {I : Int} (hi : i = Z3 I) (c : 0 ≤ I ∧ I < 5) {x : Int32} {X : Int} (hx : x = Z3 X) (hr : r3 X) : ∃ h', sI h a 0 i x = some h' ∧ OKX h' ∧ rd h' = up (rd h) a I X := x_sI (t := 0) (n := 5) H (by rcases ha with rfl | rfl | rfl <;> rfl) (by decide) (fun k => nrx_row (by rcases ha with rfl | rfl | rfl <;> decide) k) hi c hx hr
theorem x_sI_4_9 {h : PH} (H : OKX h) {a : Nat} (ha : R4_9 a) {i : Int32} {I : Int} (hi : i = Z3 I) (c : 0 ≤ I ∧ I < 5) {x : Int32} {X : Int} (hx : x = Z3 X) (hr : r3 X) : ∃ h', sI h a 0 i x = some h' ∧ OKX h' ∧ rd h' = up (rd h) a I X := x_sI (t := 0) (n := 5) H (by rcases ha with rfl | rfl | rfl <;> rfl) (by decide) (fun k => nrx_row (by rcases ha with rfl | rfl | rfl <;> decide) k) hi c hx hr
theorem x_sI_5_1 {h : PH} (H : OKX h) {i : Int32} {I : Int} (hi : i = Z3 I) (c : 0 ≤ I ∧ I < 72) {x : Int32} {X : Int} (hx : x = Z3 X) (hr : r3 X) : ∃ h', sI h 50 0 i x = some h' ∧ OKX h' ∧ rd h' = up (rd h) 50 I X := x_sI (t := 0) (n := 72) H rfl (by decide) (fun k => nrx_row (by decide) k) hi c hx hr
theorem x_sI_6_1 {h : PH} (H : OKX h) {a : Nat} (ha : R6_1 a) {i : Int32} {I : Int} (hi : i = Z3 I) (c : 0 ≤ I ∧ I < 5) {x : Int32} {X : Int} (hx : x = Z3 X) (hr : r3 X) : ∃ h', sI h a 0 i x = some h' ∧ OKX h' ∧ rd h' = up (rd h) a I X := x_sI (t := 0) (n := 5) H (by rcases ha with rfl | rfl <;> rfl) (by decide) (fun k => nrx_row (by rcases ha with rfl | rfl <;> decide) k) hi c hx hr
theorem x_sI_6_2 {h : PH} (H : OKX h) {a : Nat} (ha : R6_2 a) {i : Int32} {I : Int} (hi : i = Z3 I) (c : 0 ≤ I ∧ I < 5) {x : Int32} {X : Int} (hx : x = Z3 X) (hr : r3 X) : ∃ h', sI h a 0 i x = some h' ∧ OKX h' ∧ rd h' = up (rd h) a I X := x_sI (t := 0) (n := 5) H (by rcases ha with rfl | rfl <;> rfl) (by decide) (fun k => nrx_row (by rcases ha with rfl | rfl <;> decide) k) hi c hx hr
theorem x_sI_6_3 {h : PH} (H : OKX h) {a : Nat} (ha : R6_3 a) {i : Int32} {I : Int} (hi : i = Z3 I) (c : 0 ≤ I ∧ I < 28) {x : Int32} {X : Int} (hx : x = Z3 X) (hr : r3 X) : ∃ h', sI h a 0 i x = some h' ∧ OKX h' ∧ rd h' = up (rd h) a I X := x_sI (t := 0) (n := 28) H (by rcases ha with rfl | rfl <;> rfl) (by decide) (fun k => nrx_row (by rcases ha with rfl | rfl <;> decide) k) hi c hx hr
theorem x_sI_6_6 {h : PH} (H : OKX h) {a : Nat} (ha : R6_6 a) {i : Int32} {I : Int} (hi : i = Z3 I) (c : 0 ≤ I ∧ I < 5) {x : Int32} {X : Int} (hx : x = Z3 X) (hr : r3 X) : ∃ h', sI h a 0 i x = some h' ∧ OKX h' ∧ rd h' = up (rd h) a I X := x_sI (t := 0) (n := 5) H (by rcases ha with rfl | rfl <;> rfl) (by decide) (fun k => nrx_row (by rcases ha with rfl | rfl <;> decide) k) hi c hx hr
theorem x_sI_6_7 {h : PH} (H : OKX h) {a : Nat} (ha : R6_7 a) {i : Int32} {I : Int} (hi : i = Z3 I) (c : 0 ≤ I ∧ I < 5) {x : Int32} {X : Int} (hx : x = Z3 X) (hr : r3 X) : ∃ h', sI h a 0 i x = some h' ∧ OKX h' ∧ rd h' = up (rd h) a I X := x_sI (t := 0) (n := 5) H (by rcases ha with rfl | rfl <;> rfl) (by decide) (fun k => nrx_row (by rcases ha with rfl | rfl <;> decide) k) hi c hx hr
theorem x_sI_6_8 {h : PH} (H : OKX h) {a : Nat} (ha : R6_8 a) {i : Int32} {I : Int} (hi : i = Z3 I) (c : 0 ≤ I ∧ I < 5) {x : Int32} {X : Int} (hx : x = Z3 X) (hr : r3 X) : ∃ h', sI h a 0 i x = some h' ∧ OKX h' ∧ rd h' = up (rd h) a I X := x_sI (t := 0) (n := 5) H (by rcases ha with rfl | rfl <;> rfl) (by decide) (fun k => nrx_row (by rcases ha with rfl | rfl <;> decide) k) hi c hx hr
theorem x_sI_9_1 {h : PH} (H : OKX h) {i : Int32} {I : Int} (hi : i = Z3 I) (c : 0 ≤ I ∧ I < 20) {x : Int32} {X : Int} (hx : x = Z3 X) (hr : r3 X) : ∃ h', sI h 97 0 i x = some h' ∧ OKX h' ∧ rd h' = up (rd h) 97 I X := x_sI (t := 0) (n := 20) H rfl (by decide) (fun k => nrx_row (by decide) k) hi c hx hr
theorem x_sI_9_2 {h : PH} (H : OKX h) {i : Int32} {I : Int} (hi : i = Z3 I) (c : 0 ≤ I ∧ I < 20) {x : Int32} {X : Int} (hx : x = Z3 X) (hr : r3 X) : ∃ h', sI h 98 0 i x = some h' ∧ OKX h' ∧ rd h' = up (rd h) 98 I X := x_sI (t := 0) (n := 20) H rfl (by decide) (fun k => nrx_row (by decide) k) hi c hx hr
theorem m_sJ_12_52 {h : PH} (H : OKM h) {i : Int32} {I : Int} (hi : i = Z3 I) (c : 0 ≤ I ∧ I < 6) {x : Int64} {X : Int} (hx : x = Z6 X) (hr : r6 X) : ∃ h', sJ h 23 i x = some h' ∧ OKM h' ∧ rd h' = up (rd h) 23 I X := m_sJ (n := 6) H rfl (by decide) hi c hx hr
theorem m_sJ_12_53 {h : PH} (H : OKM h) {i : Int32} {I : Int} (hi : i = Z3 I) (c : 0 ≤ I ∧ I < 64) {x : Int64} {X : Int} (hx : x = Z6 X) (hr : r6 X) : ∃ h', sJ h 24 i x = some h' ∧ OKM h' ∧ rd h' = up (rd h) 24 I X := m_sJ (n := 64) H rfl (by decide) hi c hx hr
theorem x_sJ_6_4 {h : PH} (H : OKX h) {a : Nat} (ha : R6_4 a) {i : Int32} {I : Int} (hi : i = Z3 I) (c : 0 ≤ I ∧ I < 6) {x : Int64} {X : Int} (hx : x = Z6 X) (hr : r6 X) : ∃ h', sJ h a i x = some h' ∧ OKX h' ∧ rd h' = up (rd h) a I X := x_sJ (n := 6) H (by rcases ha with rfl | rfl <;> rfl) (by decide) (fun k => nrx_row (by rcases ha with rfl | rfl <;> decide) k) hi c hx hr
theorem x_sJ_6_5 {h : PH} (H : OKX h) {a : Nat} (ha : R6_5 a) {i : Int32} {I : Int} (hi : i = Z3 I) (c : 0 ≤ I ∧ I < 64) {x : Int64} {X : Int} (hx : x = Z6 X) (hr : r6 X) : ∃ h', sJ h a i x = some h' ∧ OKX h' ∧ rd h' = up (rd h) a I X := x_sJ (n := 64) H (by rcases ha with rfl | rfl <;> rfl) (by decide) (fun k => nrx_row (by rcases ha with rfl | rfl <;> decide) k) hi c hx hr
theorem l3_m8 : ((-8) : Int32) = Z3 (-8) := by decide
theorem lr3_m8 : r3 (-8) := ⟨by decide, by decide⟩
theorem l3_m4 : ((-4) : Int32) = Z3 (-4) := by decide
theorem lr3_m4 : r3 (-4) := ⟨by decide, by decide⟩
theorem l3_m3 : ((-3) : Int32) = Z3 (-3) := by decide
theorem lr3_m3 : r3 (-3) := ⟨by decide, by decide⟩
theorem l3_m2 : ((-2) : Int32) = Z3 (-2) := by decide
theorem lr3_m2 : r3 (-2) := ⟨by decide, by decide⟩
theorem l3_m1 : ((-1) : Int32) = Z3 (-1) := by decide
theorem lr3_m1 : r3 (-1) := ⟨by decide, by decide⟩
theorem l3_0 : (0 : Int32) = Z3 0 := by decide
theorem lr3_0 : r3 0 := ⟨by decide, by decide⟩
theorem l3_1 : (1 : Int32) = Z3 1 := by decide
theorem lr3_1 : r3 1 := ⟨by decide, by decide⟩
theorem l3_2 : (2 : Int32) = Z3 2 := by decide
theorem lr3_2 : r3 2 := ⟨by decide, by decide⟩
theorem l3_3 : (3 : Int32) = Z3 3 := by decide
theorem lr3_3 : r3 3 := ⟨by decide, by decide⟩
theorem l3_4 : (4 : Int32) = Z3 4 := by decide
theorem lr3_4 : r3 4 := ⟨by decide, by decide⟩
theorem l3_5 : (5 : Int32) = Z3 5 := by decide
theorem lr3_5 : r3 5 := ⟨by decide, by decide⟩
theorem l3_6 : (6 : Int32) = Z3 6 := by decide
theorem lr3_6 : r3 6 := ⟨by decide, by decide⟩
theorem l3_7 : (7 : Int32) = Z3 7 := by decide
theorem lr3_7 : r3 7 := ⟨by decide, by decide⟩
theorem l3_8 : (8 : Int32) = Z3 8 := by decide
theorem lr3_8 : r3 8 := ⟨by decide, by decide⟩
theorem l3_9 : (9 : Int32) = Z3 9 := by decide
theorem lr3_9 : r3 9 := ⟨by decide, by decide⟩
theorem l3_10 : (10 : Int32) = Z3 10 := by decide
theorem lr3_10 : r3 10 := ⟨by decide, by decide⟩
theorem l3_11 : (11 : Int32) = Z3 11 := by decide
theorem lr3_11 : r3 11 := ⟨by decide, by decide⟩
theorem l3_12 : (12 : Int32) = Z3 12 := by decide
theorem lr3_12 : r3 12 := ⟨by decide, by decide⟩
theorem l3_13 : (13 : Int32) = Z3 13 := by decide
theorem lr3_13 : r3 13 := ⟨by decide, by decide⟩
theorem l3_14 : (14 : Int32) = Z3 14 := by decide
theorem lr3_14 : r3 14 := ⟨by decide, by decide⟩
theorem l3_15 : (15 : Int32) = Z3 15 := by decide
theorem lr3_15 : r3 15 := ⟨by decide, by decide⟩
theorem l3_16 : (16 : Int32) = Z3 16 := by decide
theorem lr3_16 : r3 16 := ⟨by decide, by decide⟩
theorem l3_17 : (17 : Int32) = Z3 17 := by decide
theorem lr3_17 : r3 17 := ⟨by decide, by decide⟩
theorem l3_18 : (18 : Int32) = Z3 18 := by decide
theorem lr3_18 : r3 18 := ⟨by decide, by decide⟩
theorem l3_19 : (19 : Int32) = Z3 19 := by decide
theorem lr3_19 : r3 19 := ⟨by decide, by decide⟩
theorem l3_20 : (20 : Int32) = Z3 20 := by decide
theorem lr3_20 : r3 20 := ⟨by decide, by decide⟩
theorem l3_24 : (24 : Int32) = Z3 24 := by decide
theorem lr3_24 : r3 24 := ⟨by decide, by decide⟩
theorem l3_25 : (25 : Int32) = Z3 25 := by decide
theorem lr3_25 : r3 25 := ⟨by decide, by decide⟩
theorem l3_26 : (26 : Int32) = Z3 26 := by decide
theorem lr3_26 : r3 26 := ⟨by decide, by decide⟩
theorem l3_27 : (27 : Int32) = Z3 27 := by decide
theorem lr3_27 : r3 27 := ⟨by decide, by decide⟩
theorem l3_28 : (28 : Int32) = Z3 28 := by decide
theorem lr3_28 : r3 28 := ⟨by decide, by decide⟩
theorem l3_29 : (29 : Int32) = Z3 29 := by decide
theorem lr3_29 : r3 29 := ⟨by decide, by decide⟩
theorem l3_30 : (30 : Int32) = Z3 30 := by decide
theorem lr3_30 : r3 30 := ⟨by decide, by decide⟩
theorem l3_31 : (31 : Int32) = Z3 31 := by decide
theorem lr3_31 : r3 31 := ⟨by decide, by decide⟩
theorem l3_32 : (32 : Int32) = Z3 32 := by decide
theorem lr3_32 : r3 32 := ⟨by decide, by decide⟩
theorem l3_33 : (33 : Int32) = Z3 33 := by decide
theorem lr3_33 : r3 33 := ⟨by decide, by decide⟩
theorem l3_34 : (34 : Int32) = Z3 34 := by decide
theorem lr3_34 : r3 34 := ⟨by decide, by decide⟩
theorem l3_35 : (35 : Int32) = Z3 35 := by decide
theorem lr3_35 : r3 35 := ⟨by decide, by decide⟩
theorem l3_36 : (36 : Int32) = Z3 36 := by decide
theorem lr3_36 : r3 36 := ⟨by decide, by decide⟩
theorem l3_37 : (37 : Int32) = Z3 37 := by decide
theorem lr3_37 : r3 37 := ⟨by decide, by decide⟩
theorem l3_38 : (38 : Int32) = Z3 38 := by decide
theorem lr3_38 : r3 38 := ⟨by decide, by decide⟩
theorem l3_39 : (39 : Int32) = Z3 39 := by decide
theorem lr3_39 : r3 39 := ⟨by decide, by decide⟩
theorem l3_40 : (40 : Int32) = Z3 40 := by decide
theorem lr3_40 : r3 40 := ⟨by decide, by decide⟩
theorem l3_41 : (41 : Int32) = Z3 41 := by decide
theorem lr3_41 : r3 41 := ⟨by decide, by decide⟩
theorem l3_42 : (42 : Int32) = Z3 42 := by decide
theorem lr3_42 : r3 42 := ⟨by decide, by decide⟩
theorem l3_43 : (43 : Int32) = Z3 43 := by decide
theorem lr3_43 : r3 43 := ⟨by decide, by decide⟩
theorem l3_45 : (45 : Int32) = Z3 45 := by decide
theorem lr3_45 : r3 45 := ⟨by decide, by decide⟩
theorem l3_47 : (47 : Int32) = Z3 47 := by decide
theorem lr3_47 : r3 47 := ⟨by decide, by decide⟩
theorem l3_48 : (48 : Int32) = Z3 48 := by decide
theorem lr3_48 : r3 48 := ⟨by decide, by decide⟩
theorem l3_57 : (57 : Int32) = Z3 57 := by decide
theorem lr3_57 : r3 57 := ⟨by decide, by decide⟩
theorem l3_59 : (59 : Int32) = Z3 59 := by decide
theorem lr3_59 : r3 59 := ⟨by decide, by decide⟩
theorem l3_60 : (60 : Int32) = Z3 60 := by decide
theorem lr3_60 : r3 60 := ⟨by decide, by decide⟩
theorem l3_61 : (61 : Int32) = Z3 61 := by decide
theorem lr3_61 : r3 61 := ⟨by decide, by decide⟩
theorem l3_62 : (62 : Int32) = Z3 62 := by decide
theorem lr3_62 : r3 62 := ⟨by decide, by decide⟩
theorem l3_64 : (64 : Int32) = Z3 64 := by decide
theorem lr3_64 : r3 64 := ⟨by decide, by decide⟩
theorem lr3_72 : r3 72 := ⟨by decide, by decide⟩
theorem l3_96 : (96 : Int32) = Z3 96 := by decide
theorem l3_97 : (97 : Int32) = Z3 97 := by decide
theorem lr3_97 : r3 97 := ⟨by decide, by decide⟩
theorem l3_99 : (99 : Int32) = Z3 99 := by decide
theorem lr3_99 : r3 99 := ⟨by decide, by decide⟩
theorem l3_100 : (100 : Int32) = Z3 100 := by decide
theorem lr3_100 : r3 100 := ⟨by decide, by decide⟩
theorem lr3_120 : r3 120 := ⟨by decide, by decide⟩
theorem l3_122 : (122 : Int32) = Z3 122 := by decide
theorem lr3_122 : r3 122 := ⟨by decide, by decide⟩
theorem l3_199 : (199 : Int32) = Z3 199 := by decide
theorem lr3_199 : r3 199 := ⟨by decide, by decide⟩
theorem l3_209 : (209 : Int32) = Z3 209 := by decide
theorem lr3_209 : r3 209 := ⟨by decide, by decide⟩
theorem l3_255 : (255 : Int32) = Z3 255 := by decide
theorem l3_700 : (700 : Int32) = Z3 700 := by decide
theorem lr3_700 : r3 700 := ⟨by decide, by decide⟩
theorem l3_999 : (999 : Int32) = Z3 999 := by decide
theorem lr3_999 : r3 999 := ⟨by decide, by decide⟩
theorem l3_1000 : (1000 : Int32) = Z3 1000 := by decide
theorem l3_9999 : (9999 : Int32) = Z3 9999 := by decide
theorem lr3_9999 : r3 9999 := ⟨by decide, by decide⟩
theorem l3_10000 : (10000 : Int32) = Z3 10000 := by decide
theorem l3_99999 : (99999 : Int32) = Z3 99999 := by decide
theorem lr3_99999 : r3 99999 := ⟨by decide, by decide⟩
theorem l3_1000000 : (1000000 : Int32) = Z3 1000000 := by decide
theorem lr3_1000000 : r3 1000000 := ⟨by decide, by decide⟩
theorem l3_2147483647 : (2147483647 : Int32) = Z3 2147483647 := by decide
theorem lr3_2147483647 : r3 2147483647 := ⟨by decide, by decide⟩
theorem l6_m9223372036854775808 : ((-9223372036854775808) : Int64) = Z6 (-9223372036854775808) := by decide
theorem lr6_m9223372036854775808 : r6 (-9223372036854775808) := ⟨by decide, by decide⟩
theorem l6_m1000000000000 : ((-1000000000000) : Int64) = Z6 (-1000000000000) := by decide
theorem lr6_m1000000000000 : r6 (-1000000000000) := ⟨by decide, by decide⟩
theorem l6_m8 : ((-8) : Int64) = Z6 (-8) := by decide
theorem lr6_m8 : r6 (-8) := ⟨by decide, by decide⟩
theorem l6_0 : (0 : Int64) = Z6 0 := by decide
theorem lr6_0 : r6 0 := ⟨by decide, by decide⟩
theorem l6_1 : (1 : Int64) = Z6 1 := by decide
theorem lr6_1 : r6 1 := ⟨by decide, by decide⟩
theorem l6_8 : (8 : Int64) = Z6 8 := by decide
theorem lr6_8 : r6 8 := ⟨by decide, by decide⟩
theorem l6_30 : (30 : Int64) = Z6 30 := by decide
theorem lr6_30 : r6 30 := ⟨by decide, by decide⟩
theorem l6_100 : (100 : Int64) = Z6 100 := by decide
theorem lr6_100 : r6 100 := ⟨by decide, by decide⟩
theorem l6_12345 : (12345 : Int64) = Z6 12345 := by decide
theorem l6_65536 : (65536 : Int64) = Z6 65536 := by decide
theorem lr6_65536 : r6 65536 := ⟨by decide, by decide⟩
theorem l6_1103515245 : (1103515245 : Int64) = Z6 1103515245 := by decide
theorem l6_2147483647 : (2147483647 : Int64) = Z6 2147483647 := by decide
theorem l6_1000000000000 : (1000000000000 : Int64) = Z6 1000000000000 := by decide
theorem lr6_1000000000000 : r6 1000000000000 := ⟨by decide, by decide⟩
theorem x_v_11_3 {h : PH} (H : OKX h) : A8 (rd h 0 3).toNat := H.2.1.1
theorem x_v_11_4 {h : PH} (H : OKX h) : A8 (rd h 0 4).toNat := H.2.1.2.1
theorem x_v_5_10 {h : PH} (H : OKX h) : A8 (rd h 46 10).toNat := H.2.1.2.2.1
theorem x_v_6_0 {h : PH} (H : OKX h) {a : Nat} (ha : A6 a) : A8 (rd h a 0).toNat := by
  rcases ha with rfl | rfl
  · exact H.2.1.2.2.2.2.1
  · exact H.2.1.2.2.2.2.2
theorem x_aI_B {h : PH} (H : OKX h) (hb : rd h 47 1 = 1) {i : Int32} {I : Int} (hi : i = Z3 I) (c : 0 ≤ I ∧ I < 700) : aI h (rd h 47 1).toNat 1 i = some (Z3 (rd h 1 I)) ∧ r3 (rd h 1 I) := by
  rw [hb]
  exact aI_rd (t := 1) (n := 700) (by rw [H.1]; rfl) (by decide) hi c
theorem x_aR {h : PH} (H : OKX h) {a : Nat} (ha : R8_11 a) {i : Int32} {I : Int} (hi : i = Z3 I) (c : 0 ≤ I ∧ I < 3) : aR h a i = some (a + 1 + 2 * I.toNat) := by
  have hI : I = 0 ∨ I = 1 ∨ I = 2 := by omega
  rcases ha with rfl | rfl
  · exact aR_rd (n := 3) (l := [21, 23, 25]) (by rw [H.1]; rfl) (by decide) hi c (by rcases hI with rfl | rfl | rfl <;> rfl)
  · exact aR_rd (n := 3) (l := [43, 45, 47]) (by rw [H.1]; rfl) (by decide) hi c (by rcases hI with rfl | rfl | rfl <;> rfl)
theorem x_aRp {a : Nat} (ha : R8_11 a) {I : Int} (c : 0 ≤ I ∧ I < 3) : A2 (a + 1 + 2 * I.toNat) := by
  have hI : I = 0 ∨ I = 1 ∨ I = 2 := by omega
  rcases ha with rfl | rfl <;> rcases hI with rfl | rfl | rfl <;> simp [A2]
theorem x_pR {h h' : PH} (H : OKX h) {a ci k r' : Nat} {l : List Nat} (e1 : (Sk h)[a]? = some (0, ci, l)) (e2 : Sk h' = (Sk h).set a (0, ci, l.set k (r' + 3))) (e3 : rd h' = up (rd h) a k r') (hs : ∀ l', (skx (rd h))[a]? = some (0, ci, l') → (skx (rd h)).set a (0, ci, l'.set k (r' + 3)) = skx (up (rd h) a k r')) (hv : vrx (rd h) → vrx (up (rd h) a k r')) : OKX h' := by
  refine ⟨?_, ?_⟩
  · rw [e2, e3, H.1]
    exact hs l (by rw [← H.1]; exact e1)
  · rw [e3]; exact hv H.2
theorem x_pR_11_3 {h : PH} (H : OKX h) {r : Nat} (hr : A8 r) : ∃ h', pR h 0 11 3 r = some h' ∧ OKX h' ∧ rd h' = up (rd h) 0 3 ((r : Nat) : Int) := by
  obtain ⟨h', e1, ⟨l, e2, e3⟩, e4⟩ := pR_rd (h := h) (a := 0) (ci := 11) (k := 3) (r := (rd h 0 3).toNat) (r' := r) (by rw [H.1]; rfl)
  refine ⟨h', e1, x_pR H e2 e3 e4 ?_ ?_, e4⟩
  · intro l' q
    have : l' = _ := (congrArg (fun x => (x.getD (0, 0, [])).2.2) q).symm
    subst this
    rfl
  · rintro ⟨⟨v1, v2, v3, v4, v5, v6⟩, w1, w2, w3, w4, w5, w6⟩
    exact ⟨⟨hr, v2, v3, v4, v5, v6⟩, Int.natCast_nonneg _, w2, w3, w4, w5, w6⟩
theorem x_pR_11_4 {h : PH} (H : OKX h) {r : Nat} (hr : A8 r) : ∃ h', pR h 0 11 4 r = some h' ∧ OKX h' ∧ rd h' = up (rd h) 0 4 ((r : Nat) : Int) := by
  obtain ⟨h', e1, ⟨l, e2, e3⟩, e4⟩ := pR_rd (h := h) (a := 0) (ci := 11) (k := 4) (r := (rd h 0 4).toNat) (r' := r) (by rw [H.1]; rfl)
  refine ⟨h', e1, x_pR H e2 e3 e4 ?_ ?_, e4⟩
  · intro l' q
    have : l' = _ := (congrArg (fun x => (x.getD (0, 0, [])).2.2) q).symm
    subst this
    rfl
  · rintro ⟨⟨v1, v2, v3, v4, v5, v6⟩, w1, w2, w3, w4, w5, w6⟩
    exact ⟨⟨v1, hr, v3, v4, v5, v6⟩, w1, Int.natCast_nonneg _, w3, w4, w5, w6⟩
theorem x_pR_5_10 {h : PH} (H : OKX h) {r : Nat} (hr : A8 r) : ∃ h', pR h 46 5 10 r = some h' ∧ OKX h' ∧ rd h' = up (rd h) 46 10 ((r : Nat) : Int) := by
  obtain ⟨h', e1, ⟨l, e2, e3⟩, e4⟩ := pR_rd (h := h) (a := 46) (ci := 5) (k := 10) (r := (rd h 46 10).toNat) (r' := r) (by rw [H.1]; rfl)
  refine ⟨h', e1, x_pR H e2 e3 e4 ?_ ?_, e4⟩
  · intro l' q
    have : l' = _ := (congrArg (fun x => (x.getD (0, 0, [])).2.2) q).symm
    subst this
    rfl
  · rintro ⟨⟨v1, v2, v3, v4, v5, v6⟩, w1, w2, w3, w4, w5, w6⟩
    exact ⟨⟨v1, v2, hr, v4, v5, v6⟩, w1, w2, Int.natCast_nonneg _, w4, w5, w6⟩
theorem x_pR_7_1 {h : PH} (H : OKX h) : ∃ h', pR h 47 7 1 1 = some h' ∧ OKX h' ∧ rd h' = up (rd h) 47 1 ((1 : Nat) : Int) := by
  obtain ⟨h', e1, ⟨l, e2, e3⟩, e4⟩ := pR_rd (h := h) (a := 47) (ci := 7) (k := 1) (r := (rd h 47 1).toNat) (r' := 1) (by rw [H.1]; rfl)
  refine ⟨h', e1, x_pR H e2 e3 e4 ?_ ?_, e4⟩
  · intro l' q
    have : l' = _ := (congrArg (fun x => (x.getD (0, 0, [])).2.2) q).symm
    subst this
    rfl
  · rintro ⟨⟨v1, v2, v3, v4, v5, v6⟩, w1, w2, w3, w4, w5, w6⟩
    exact ⟨⟨v1, v2, v3, Or.inr rfl, v5, v6⟩, w1, w2, w3, Int.natCast_nonneg _, w5, w6⟩
theorem x_pR_6_0 {h : PH} (H : OKX h) {a : Nat} (ha : A6 a) {r : Nat} (hr : A8 r) : ∃ h', pR h a 6 0 r = some h' ∧ OKX h' ∧ rd h' = up (rd h) a 0 ((r : Nat) : Int) := by
  rcases ha with rfl | rfl
  · obtain ⟨h', e1, ⟨l, e2, e3⟩, e4⟩ := pR_rd (h := h) (a := 51) (ci := 6) (k := 0) (r := (rd h 51 0).toNat) (r' := r) (by rw [H.1]; rfl)
    refine ⟨h', e1, x_pR H e2 e3 e4 ?_ ?_, e4⟩
    · intro l' q
      have : l' = _ := (congrArg (fun x => (x.getD (0, 0, [])).2.2) q).symm
      subst this
      rfl
    · rintro ⟨⟨v1, v2, v3, v4, v5, v6⟩, w1, w2, w3, w4, w5, w6⟩
      exact ⟨⟨v1, v2, v3, v4, hr, v6⟩, w1, w2, w3, w4, Int.natCast_nonneg _, w6⟩
  · obtain ⟨h', e1, ⟨l, e2, e3⟩, e4⟩ := pR_rd (h := h) (a := 60) (ci := 6) (k := 0) (r := (rd h 60 0).toNat) (r' := r) (by rw [H.1]; rfl)
    refine ⟨h', e1, x_pR H e2 e3 e4 ?_ ?_, e4⟩
    · intro l' q
      have : l' = _ := (congrArg (fun x => (x.getD (0, 0, [])).2.2) q).symm
      subst this
      rfl
    · rintro ⟨⟨v1, v2, v3, v4, v5, v6⟩, w1, w2, w3, w4, w5, w6⟩
      exact ⟨⟨v1, v2, v3, v4, v5, hr⟩, w1, w2, w3, w4, w5, Int.natCast_nonneg _⟩
theorem anyM_4 : AnyM 4 := ⟨14, rfl, by decide⟩
theorem anyM_5 : AnyM 5 := ⟨10, rfl, by decide⟩
theorem anyM_6 : AnyM 6 := ⟨10, rfl, by decide⟩
theorem anyM_7 : AnyM 7 := ⟨10, rfl, by decide⟩
theorem anyM_8 : AnyM 8 := ⟨10, rfl, by decide⟩
theorem anyM_9 : AnyM 9 := ⟨10, rfl, by decide⟩
theorem anyM_10 : AnyM 10 := ⟨10, rfl, by decide⟩
theorem anyM_11 : AnyM 11 := ⟨8, rfl, by decide⟩
theorem anyM_12 : AnyM 12 := ⟨56, rfl, by decide⟩
theorem anyM_13 : AnyM 13 := ⟨56, rfl, by decide⟩
theorem anyM_14 : AnyM 14 := ⟨56, rfl, by decide⟩
theorem anyM_16 : AnyM 16 := ⟨6, rfl, by decide⟩
theorem anyM_17 : AnyM 17 := ⟨6, rfl, by decide⟩
theorem anyM_18 : AnyM 18 := ⟨128, rfl, by decide⟩
theorem anyM_19 : AnyM 19 := ⟨128, rfl, by decide⟩
theorem anyM_20 : AnyM 20 := ⟨128, rfl, by decide⟩
