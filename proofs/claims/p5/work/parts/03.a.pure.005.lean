def lnM (a : Nat) : Int := ((cA SM a 1).getD 0 : Nat)
theorem m_aI_any {h : PH} (H : OKM h) {a : Nat} (ha : AnyM a) {i : Int32} {I : Int} (hi : i = Z3 I) (c : 0 ≤ I ∧ I < lnM a) : aI h a 0 i = some (Z3 (rd h a I)) ∧ r3 (rd h a I) := by
  obtain ⟨n, e, hn⟩ := ha
  refine aI_rd (t := 0) (by rw [H]; exact e) hn hi ?_
  unfold lnM at c
  rw [e] at c
  exact c
theorem m_sI_any {h : PH} (H : OKM h) {a : Nat} (ha : AnyM a) {i : Int32} {I : Int} (hi : i = Z3 I) (c : 0 ≤ I ∧ I < lnM a) {x : Int32} {X : Int} (hx : x = Z3 X) (hr : r3 X) : ∃ h', sI h a 0 i x = some h' ∧ OKM h' ∧ rd h' = up (rd h) a I X := by
  obtain ⟨n, e, hn⟩ := ha
  refine m_sI (t := 0) H e hn hi ?_ hx hr
  unfold lnM at c
  rw [e] at c
  exact c
theorem r3_div {A B : Int} (ha : r3 A) (hb : r3 B) (h : 0 ≤ A ∧ 0 < B) : r3 (A / B) := by
  have h1 := Int.ediv_nonneg h.1 (Int.le_of_lt h.2)
  have h2 := Int.ediv_le_self B h.1
  have := ha.2
  exact ⟨by omega, by omega⟩
theorem r3_rem {A B : Int} (ha : r3 A) (hb : r3 B) (h : 0 ≤ A ∧ 0 < B) : r3 (A % B) := by
  have h1 := Int.emod_nonneg A (by omega : B ≠ 0)
  have h2 := Int.emod_lt_of_pos A h.2
  have := hb.2
  exact ⟨by omega, by omega⟩
theorem r3_b {A : Int} (h : A = 0 ∨ A = 1) : r3 A := by rcases h with rfl | rfl <;> exact ⟨by decide, by decide⟩
/-- the ways of a game -/
def gw (x : Int) : Int := if x = 0 then 4 else x - 1
theorem gw_rd {i : Int32} {I : Int} (hi : i = Z3 I) (c : 0 ≤ I ∧ I < 5) : gwA i = some (Z3 (gw I)) ∧ r3 (gw I) := by
  subst hi
  have : I = 0 ∨ I = 1 ∨ I = 2 ∨ I = 3 ∨ I = 4 := by omega
  rcases this with rfl | rfl | rfl | rfl | rfl <;> exact ⟨by decide, by unfold r3; decide⟩
theorem ao_1_1 {a : Nat} (h : A1 a) : R1_1 (a + 1) := by rcases h with rfl | rfl <;> simp [R1_1]
theorem ao_1_2 {a : Nat} (h : A1 a) : R1_2 (a + 2) := by rcases h with rfl | rfl <;> simp [R1_2]
theorem ao_1_3 {a : Nat} (h : A1 a) : R1_3 (a + 3) := by rcases h with rfl | rfl <;> simp [R1_3]
theorem ao_1_4 {a : Nat} (h : A1 a) : R1_4 (a + 4) := by rcases h with rfl | rfl <;> simp [R1_4]
theorem ao_1_5 {a : Nat} (h : A1 a) : R1_5 (a + 5) := by rcases h with rfl | rfl <;> simp [R1_5]
theorem ao_1_6 {a : Nat} (h : A1 a) : R1_6 (a + 6) := by rcases h with rfl | rfl <;> simp [R1_6]
theorem ao_2_0 {a : Nat} (h : A2 a) : R2_0 (a + 1) := by rcases h with rfl | rfl | rfl | rfl | rfl | rfl <;> simp [R2_0]
theorem ao_4_5 {a : Nat} (h : A4 a) : R4_5 (a + 1) := by rcases h with rfl | rfl | rfl <;> simp [R4_5]
theorem ao_4_6 {a : Nat} (h : A4 a) : R4_6 (a + 2) := by rcases h with rfl | rfl | rfl <;> simp [R4_6]
theorem ao_4_7 {a : Nat} (h : A4 a) : R4_7 (a + 3) := by rcases h with rfl | rfl | rfl <;> simp [R4_7]
theorem ao_4_8 {a : Nat} (h : A4 a) : R4_8 (a + 4) := by rcases h with rfl | rfl | rfl <;> simp [R4_8]
theorem ao_4_9 {a : Nat} (h : A4 a) : R4_9 (a + 5) := by rcases h with rfl | rfl | rfl <;> simp [R4_9]
theorem ao_4_10 {a : Nat} (h : A4 a) : R4_10 (a + 6) := by rcases h with rfl | rfl | rfl <;> simp [R4_10]
theorem ao_6_1 {a : Nat} (h : A6 a) : R6_1 (a + 1) := by rcases h with rfl | rfl <;> simp [R6_1]
theorem ao_6_2 {a : Nat} (h : A6 a) : R6_2 (a + 2) := by rcases h with rfl | rfl <;> simp [R6_2]
theorem ao_6_3 {a : Nat} (h : A6 a) : R6_3 (a + 3) := by rcases h with rfl | rfl <;> simp [R6_3]
theorem ao_6_4 {a : Nat} (h : A6 a) : R6_4 (a + 4) := by rcases h with rfl | rfl <;> simp [R6_4]
theorem ao_6_5 {a : Nat} (h : A6 a) : R6_5 (a + 5) := by rcases h with rfl | rfl <;> simp [R6_5]
theorem ao_6_6 {a : Nat} (h : A6 a) : R6_6 (a + 6) := by rcases h with rfl | rfl <;> simp [R6_6]
theorem ao_6_7 {a : Nat} (h : A6 a) : R6_7 (a + 7) := by rcases h with rfl | rfl <;> simp [R6_7]
theorem ao_6_8 {a : Nat} (h : A6 a) : R6_8 (a + 8) := by rcases h with rfl | rfl <;> simp [R6_8]
theorem ao_8_4 {a : Nat} (h : A8 a) : A1 (a + 1) := by rcases h with rfl | rfl <;> simp [A1]
theorem ao_8_5 {a : Nat} (h : A8 a) : A10 (a + 8) := by rcases h with rfl | rfl <;> simp [A10]
theorem ao_8_11 {a : Nat} (h : A8 a) : R8_11 (a + 15) := by rcases h with rfl | rfl <;> simp [R8_11]
theorem ao_10_2 {a : Nat} (h : A10 a) : R10_2 (a + 1) := by rcases h with rfl | rfl <;> simp [R10_2]
theorem ao_10_3 {a : Nat} (h : A10 a) : R10_3 (a + 2) := by rcases h with rfl | rfl <;> simp [R10_3]
theorem ao_10_4 {a : Nat} (h : A10 a) : R10_4 (a + 3) := by rcases h with rfl | rfl <;> simp [R10_4]
theorem ao_10_5 {a : Nat} (h : A10 a) : R10_5 (a + 4) := by rcases h with rfl | rfl <;> simp [R10_5]
theorem ao_10_6 {a : Nat} (h : A10 a) : R10_6 (a + 5) := by rcases h with rfl | rfl <;> simp [R10_6]
theorem ao_10_7 {a : Nat} (h : A10 a) : R10_7 (a + 6) := by rcases h with rfl | rfl <;> simp [R10_7]
theorem x_aI_0_0 {h : PH} (H : OKX h) {i : Int32} {I : Int} (hi : i = Z3 I) (c : 0 ≤ I ∧ I < 10) : aI h 100 0 i = some (Z3 (rd h 100 I)) ∧ r3 (rd h 100 I) := aI_rd (t := 0) (n := 10) (by rw [H.1]; rfl) (by decide) hi c
theorem x_aI_0_1 {h : PH} (H : OKX h) {i : Int32} {I : Int} (hi : i = Z3 I) (c : 0 ≤ I ∧ I < 280) : aI h 101 0 i = some (Z3 (rd h 101 I)) ∧ r3 (rd h 101 I) := aI_rd (t := 0) (n := 280) (by rw [H.1]; rfl) (by decide) hi c
theorem x_aI_0_10 {h : PH} (H : OKX h) {i : Int32} {I : Int} (hi : i = Z3 I) (c : 0 ≤ I ∧ I < 28) : aI h 109 0 i = some (Z3 (rd h 109 I)) ∧ r3 (rd h 109 I) := aI_rd (t := 0) (n := 28) (by rw [H.1]; rfl) (by decide) hi c
theorem x_aI_0_2 {h : PH} (H : OKX h) {i : Int32} {I : Int} (hi : i = Z3 I) (c : 0 ≤ I ∧ I < 280) : aI h 102 0 i = some (Z3 (rd h 102 I)) ∧ r3 (rd h 102 I) := aI_rd (t := 0) (n := 280) (by rw [H.1]; rfl) (by decide) hi c
theorem x_aI_0_3 {h : PH} (H : OKX h) {i : Int32} {I : Int} (hi : i = Z3 I) (c : 0 ≤ I ∧ I < 25) : aI h 103 0 i = some (Z3 (rd h 103 I)) ∧ r3 (rd h 103 I) := aI_rd (t := 0) (n := 25) (by rw [H.1]; rfl) (by decide) hi c
theorem x_aI_0_4 {h : PH} (H : OKX h) {i : Int32} {I : Int} (hi : i = Z3 I) (c : 0 ≤ I ∧ I < 25) : aI h 104 0 i = some (Z3 (rd h 104 I)) ∧ r3 (rd h 104 I) := aI_rd (t := 0) (n := 25) (by rw [H.1]; rfl) (by decide) hi c
theorem x_aI_0_5 {h : PH} (H : OKX h) {i : Int32} {I : Int} (hi : i = Z3 I) (c : 0 ≤ I ∧ I < 25) : aI h 105 0 i = some (Z3 (rd h 105 I)) ∧ r3 (rd h 105 I) := aI_rd (t := 0) (n := 25) (by rw [H.1]; rfl) (by decide) hi c
theorem x_aI_0_7 {h : PH} (H : OKX h) {i : Int32} {I : Int} (hi : i = Z3 I) (c : 0 ≤ I ∧ I < 29) : aI h 106 0 i = some (Z3 (rd h 106 I)) ∧ r3 (rd h 106 I) := aI_rd (t := 0) (n := 29) (by rw [H.1]; rfl) (by decide) hi c
theorem x_aI_0_8 {h : PH} (H : OKX h) {i : Int32} {I : Int} (hi : i = Z3 I) (c : 0 ≤ I ∧ I < 28) : aI h 107 0 i = some (Z3 (rd h 107 I)) ∧ r3 (rd h 107 I) := aI_rd (t := 0) (n := 28) (by rw [H.1]; rfl) (by decide) hi c
theorem x_aI_0_9 {h : PH} (H : OKX h) {i : Int32} {I : Int} (hi : i = Z3 I) (c : 0 ≤ I ∧ I < 28) : aI h 108 2 i = some (Z3 (rd h 108 I)) ∧ r3 (rd h 108 I) := aI_rd (t := 2) (n := 28) (by rw [H.1]; rfl) (by decide) hi c
theorem x_aI_1_1 {h : PH} (H : OKX h) {a : Nat} (ha : R1_1 a) {i : Int32} {I : Int} (hi : i = Z3 I) (c : 0 ≤ I ∧ I < 5) : aI h a 0 i = some (Z3 (rd h a I)) ∧ r3 (rd h a I) := aI_rd (t := 0) (n := 5) (by rw [H.1]; rcases ha with rfl | rfl <;> rfl) (by decide) hi c
theorem x_aI_1_2 {h : PH} (H : OKX h) {a : Nat} (ha : R1_2 a) {i : Int32} {I : Int} (hi : i = Z3 I) (c : 0 ≤ I ∧ I < 5) : aI h a 0 i = some (Z3 (rd h a I)) ∧ r3 (rd h a I) := aI_rd (t := 0) (n := 5) (by rw [H.1]; rcases ha with rfl | rfl <;> rfl) (by decide) hi c
theorem x_aI_1_4 {h : PH} (H : OKX h) {a : Nat} (ha : R1_4 a) {i : Int32} {I : Int} (hi : i = Z3 I) (c : 0 ≤ I ∧ I < 5) : aI h a 0 i = some (Z3 (rd h a I)) ∧ r3 (rd h a I) := aI_rd (t := 0) (n := 5) (by rw [H.1]; rcases ha with rfl | rfl <;> rfl) (by decide) hi c
theorem x_aI_1_6 {h : PH} (H : OKX h) {a : Nat} (ha : R1_6 a) {i : Int32} {I : Int} (hi : i = Z3 I) (c : 0 ≤ I ∧ I < 5) : aI h a 0 i = some (Z3 (rd h a I)) ∧ r3 (rd h a I) := aI_rd (t := 0) (n := 5) (by rw [H.1]; rcases ha with rfl | rfl <;> rfl) (by decide) hi c
theorem x_aI_10_2 {h : PH} (H : OKX h) {a : Nat} (ha : R10_2 a) {i : Int32} {I : Int} (hi : i = Z3 I) (c : 0 ≤ I ∧ I < 4) : aI h a 0 i = some (Z3 (rd h a I)) ∧ r3 (rd h a I) := aI_rd (t := 0) (n := 4) (by rw [H.1]; rcases ha with rfl | rfl <;> rfl) (by decide) hi c
theorem x_aI_10_3 {h : PH} (H : OKX h) {a : Nat} (ha : R10_3 a) {i : Int32} {I : Int} (hi : i = Z3 I) (c : 0 ≤ I ∧ I < 4) : aI h a 0 i = some (Z3 (rd h a I)) ∧ r3 (rd h a I) := aI_rd (t := 0) (n := 4) (by rw [H.1]; rcases ha with rfl | rfl <;> rfl) (by decide) hi c
theorem x_aI_10_4 {h : PH} (H : OKX h) {a : Nat} (ha : R10_4 a) {i : Int32} {I : Int} (hi : i = Z3 I) (c : 0 ≤ I ∧ I < 28) : aI h a 0 i = some (Z3 (rd h a I)) ∧ r3 (rd h a I) := aI_rd (t := 0) (n := 28) (by rw [H.1]; rcases ha with rfl | rfl <;> rfl) (by decide) hi c
theorem x_aI_10_5 {h : PH} (H : OKX h) {a : Nat} (ha : R10_5 a) {i : Int32} {I : Int} (hi : i = Z3 I) (c : 0 ≤ I ∧ I < 28) : aI h a 0 i = some (Z3 (rd h a I)) ∧ r3 (rd h a I) := aI_rd (t := 0) (n := 28) (by rw [H.1]; rcases ha with rfl | rfl <;> rfl) (by decide) hi c
theorem x_aI_10_6 {h : PH} (H : OKX h) {a : Nat} (ha : R10_6 a) {i : Int32} {I : Int} (hi : i = Z3 I) (c : 0 ≤ I ∧ I < 28) : aI h a 0 i = some (Z3 (rd h a I)) ∧ r3 (rd h a I) := aI_rd (t := 0) (n := 28) (by rw [H.1]; rcases ha with rfl | rfl <;> rfl) (by decide) hi c
theorem x_aI_10_7 {h : PH} (H : OKX h) {a : Nat} (ha : R10_7 a) {i : Int32} {I : Int} (hi : i = Z3 I) (c : 0 ≤ I ∧ I < 28) : aI h a 0 i = some (Z3 (rd h a I)) ∧ r3 (rd h a I) := aI_rd (t := 0) (n := 28) (by rw [H.1]; rcases ha with rfl | rfl <;> rfl) (by decide) hi c
theorem m_aI_12_0 {h : PH} (H : OKM h) {i : Int32} {I : Int} (hi : i = Z3 I) (c : 0 ≤ I ∧ I < 700) : aI h 1 0 i = some (Z3 (rd h 1 I)) ∧ r3 (rd h 1 I) := aI_rd (t := 0) (n := 700) (by rw [H]; rfl) (by decide) hi c
theorem m_aI_12_25 {h : PH} (H : OKM h) {i : Int32} {I : Int} (hi : i = Z3 I) (c : 0 ≤ I ∧ I < 5) : aI h 3 2 i = some (Z3 (rd h 3 I)) ∧ r3 (rd h 3 I) := aI_rd (t := 2) (n := 5) (by rw [H]; rfl) (by decide) hi c
theorem m_aI_12_26 {h : PH} (H : OKM h) {i : Int32} {I : Int} (hi : i = Z3 I) (c : 0 ≤ I ∧ I < 14) : aI h 4 0 i = some (Z3 (rd h 4 I)) ∧ r3 (rd h 4 I) := aI_rd (t := 0) (n := 14) (by rw [H]; rfl) (by decide) hi c
theorem m_aI_12_27 {h : PH} (H : OKM h) {i : Int32} {I : Int} (hi : i = Z3 I) (c : 0 ≤ I ∧ I < 10) : aI h 5 0 i = some (Z3 (rd h 5 I)) ∧ r3 (rd h 5 I) := aI_rd (t := 0) (n := 10) (by rw [H]; rfl) (by decide) hi c
theorem m_aI_12_28 {h : PH} (H : OKM h) {i : Int32} {I : Int} (hi : i = Z3 I) (c : 0 ≤ I ∧ I < 10) : aI h 6 0 i = some (Z3 (rd h 6 I)) ∧ r3 (rd h 6 I) := aI_rd (t := 0) (n := 10) (by rw [H]; rfl) (by decide) hi c
theorem m_aI_12_29 {h : PH} (H : OKM h) {i : Int32} {I : Int} (hi : i = Z3 I) (c : 0 ≤ I ∧ I < 10) : aI h 7 0 i = some (Z3 (rd h 7 I)) ∧ r3 (rd h 7 I) := aI_rd (t := 0) (n := 10) (by rw [H]; rfl) (by decide) hi c
theorem m_aI_12_3 {h : PH} (H : OKM h) {i : Int32} {I : Int} (hi : i = Z3 I) (c : 0 ≤ I ∧ I < 120) : aI h 2 0 i = some (Z3 (rd h 2 I)) ∧ r3 (rd h 2 I) := aI_rd (t := 0) (n := 120) (by rw [H]; rfl) (by decide) hi c
theorem m_aI_12_30 {h : PH} (H : OKM h) {i : Int32} {I : Int} (hi : i = Z3 I) (c : 0 ≤ I ∧ I < 10) : aI h 8 0 i = some (Z3 (rd h 8 I)) ∧ r3 (rd h 8 I) := aI_rd (t := 0) (n := 10) (by rw [H]; rfl) (by decide) hi c
theorem m_aI_12_31 {h : PH} (H : OKM h) {i : Int32} {I : Int} (hi : i = Z3 I) (c : 0 ≤ I ∧ I < 10) : aI h 9 0 i = some (Z3 (rd h 9 I)) ∧ r3 (rd h 9 I) := aI_rd (t := 0) (n := 10) (by rw [H]; rfl) (by decide) hi c
theorem m_aI_12_32 {h : PH} (H : OKM h) {i : Int32} {I : Int} (hi : i = Z3 I) (c : 0 ≤ I ∧ I < 10) : aI h 10 0 i = some (Z3 (rd h 10 I)) ∧ r3 (rd h 10 I) := aI_rd (t := 0) (n := 10) (by rw [H]; rfl) (by decide) hi c
theorem m_aI_12_33 {h : PH} (H : OKM h) {i : Int32} {I : Int} (hi : i = Z3 I) (c : 0 ≤ I ∧ I < 8) : aI h 11 0 i = some (Z3 (rd h 11 I)) ∧ r3 (rd h 11 I) := aI_rd (t := 0) (n := 8) (by rw [H]; rfl) (by decide) hi c
theorem m_aI_12_34 {h : PH} (H : OKM h) {i : Int32} {I : Int} (hi : i = Z3 I) (c : 0 ≤ I ∧ I < 56) : aI h 12 0 i = some (Z3 (rd h 12 I)) ∧ r3 (rd h 12 I) := aI_rd (t := 0) (n := 56) (by rw [H]; rfl) (by decide) hi c
theorem m_aI_12_35 {h : PH} (H : OKM h) {i : Int32} {I : Int} (hi : i = Z3 I) (c : 0 ≤ I ∧ I < 56) : aI h 13 0 i = some (Z3 (rd h 13 I)) ∧ r3 (rd h 13 I) := aI_rd (t := 0) (n := 56) (by rw [H]; rfl) (by decide) hi c
theorem m_aI_12_36 {h : PH} (H : OKM h) {i : Int32} {I : Int} (hi : i = Z3 I) (c : 0 ≤ I ∧ I < 56) : aI h 14 0 i = some (Z3 (rd h 14 I)) ∧ r3 (rd h 14 I) := aI_rd (t := 0) (n := 56) (by rw [H]; rfl) (by decide) hi c
theorem m_aI_12_37 {h : PH} (H : OKM h) {i : Int32} {I : Int} (hi : i = Z3 I) (c : 0 ≤ I ∧ I < 6) : aI h 15 2 i = some (Z3 (rd h 15 I)) ∧ r3 (rd h 15 I) := aI_rd (t := 2) (n := 6) (by rw [H]; rfl) (by decide) hi c
theorem m_aI_12_38 {h : PH} (H : OKM h) {i : Int32} {I : Int} (hi : i = Z3 I) (c : 0 ≤ I ∧ I < 6) : aI h 16 0 i = some (Z3 (rd h 16 I)) ∧ r3 (rd h 16 I) := aI_rd (t := 0) (n := 6) (by rw [H]; rfl) (by decide) hi c
theorem m_aI_12_39 {h : PH} (H : OKM h) {i : Int32} {I : Int} (hi : i = Z3 I) (c : 0 ≤ I ∧ I < 6) : aI h 17 0 i = some (Z3 (rd h 17 I)) ∧ r3 (rd h 17 I) := aI_rd (t := 0) (n := 6) (by rw [H]; rfl) (by decide) hi c
theorem m_aI_12_40 {h : PH} (H : OKM h) {i : Int32} {I : Int} (hi : i = Z3 I) (c : 0 ≤ I ∧ I < 128) : aI h 18 0 i = some (Z3 (rd h 18 I)) ∧ r3 (rd h 18 I) := aI_rd (t := 0) (n := 128) (by rw [H]; rfl) (by decide) hi c
theorem m_aI_12_41 {h : PH} (H : OKM h) {i : Int32} {I : Int} (hi : i = Z3 I) (c : 0 ≤ I ∧ I < 128) : aI h 19 0 i = some (Z3 (rd h 19 I)) ∧ r3 (rd h 19 I) := aI_rd (t := 0) (n := 128) (by rw [H]; rfl) (by decide) hi c
theorem m_aI_12_42 {h : PH} (H : OKM h) {i : Int32} {I : Int} (hi : i = Z3 I) (c : 0 ≤ I ∧ I < 128) : aI h 20 0 i = some (Z3 (rd h 20 I)) ∧ r3 (rd h 20 I) := aI_rd (t := 0) (n := 128) (by rw [H]; rfl) (by decide) hi c
theorem m_aI_12_44 {h : PH} (H : OKM h) {i : Int32} {I : Int} (hi : i = Z3 I) (c : 0 ≤ I ∧ I < 96) : aI h 21 0 i = some (Z3 (rd h 21 I)) ∧ r3 (rd h 21 I) := aI_rd (t := 0) (n := 96) (by rw [H]; rfl) (by decide) hi c
theorem m_aI_12_45 {h : PH} (H : OKM h) {i : Int32} {I : Int} (hi : i = Z3 I) (c : 0 ≤ I ∧ I < 96) : aI h 22 0 i = some (Z3 (rd h 22 I)) ∧ r3 (rd h 22 I) := aI_rd (t := 0) (n := 96) (by rw [H]; rfl) (by decide) hi c
theorem m_aI_12_55 {h : PH} (H : OKM h) {i : Int32} {I : Int} (hi : i = Z3 I) (c : 0 ≤ I ∧ I < 10) : aI h 25 0 i = some (Z3 (rd h 25 I)) ∧ r3 (rd h 25 I) := aI_rd (t := 0) (n := 10) (by rw [H]; rfl) (by decide) hi c
theorem m_aI_12_56 {h : PH} (H : OKM h) {i : Int32} {I : Int} (hi : i = Z3 I) (c : 0 ≤ I ∧ I < 10) : aI h 26 0 i = some (Z3 (rd h 26 I)) ∧ r3 (rd h 26 I) := aI_rd (t := 0) (n := 10) (by rw [H]; rfl) (by decide) hi c
theorem m_aI_12_57 {h : PH} (H : OKM h) {i : Int32} {I : Int} (hi : i = Z3 I) (c : 0 ≤ I ∧ I < 10) : aI h 27 0 i = some (Z3 (rd h 27 I)) ∧ r3 (rd h 27 I) := aI_rd (t := 0) (n := 10) (by rw [H]; rfl) (by decide) hi c
theorem m_aI_12_58 {h : PH} (H : OKM h) {i : Int32} {I : Int} (hi : i = Z3 I) (c : 0 ≤ I ∧ I < 10) : aI h 28 0 i = some (Z3 (rd h 28 I)) ∧ r3 (rd h 28 I) := aI_rd (t := 0) (n := 10) (by rw [H]; rfl) (by decide) hi c
theorem m_aI_12_59 {h : PH} (H : OKM h) {i : Int32} {I : Int} (hi : i = Z3 I) (c : 0 ≤ I ∧ I < 5) : aI h 29 0 i = some (Z3 (rd h 29 I)) ∧ r3 (rd h 29 I) := aI_rd (t := 0) (n := 5) (by rw [H]; rfl) (by decide) hi c
theorem m_aI_12_60 {h : PH} (H : OKM h) {i : Int32} {I : Int} (hi : i = Z3 I) (c : 0 ≤ I ∧ I < 56) : aI h 30 0 i = some (Z3 (rd h 30 I)) ∧ r3 (rd h 30 I) := aI_rd (t := 0) (n := 56) (by rw [H]; rfl) (by decide) hi c
theorem m_aI_12_61 {h : PH} (H : OKM h) {i : Int32} {I : Int} (hi : i = Z3 I) (c : 0 ≤ I ∧ I < 2) : aI h 31 0 i = some (Z3 (rd h 31 I)) ∧ r3 (rd h 31 I) := aI_rd (t := 0) (n := 2) (by rw [H]; rfl) (by decide) hi c
theorem m_aI_12_62 {h : PH} (H : OKM h) {i : Int32} {I : Int} (hi : i = Z3 I) (c : 0 ≤ I ∧ I < 2) : aI h 32 0 i = some (Z3 (rd h 32 I)) ∧ r3 (rd h 32 I) := aI_rd (t := 0) (n := 2) (by rw [H]; rfl) (by decide) hi c
theorem m_aI_12_63 {h : PH} (H : OKM h) {i : Int32} {I : Int} (hi : i = Z3 I) (c : 0 ≤ I ∧ I < 2) : aI h 33 0 i = some (Z3 (rd h 33 I)) ∧ r3 (rd h 33 I) := aI_rd (t := 0) (n := 2) (by rw [H]; rfl) (by decide) hi c
theorem m_aI_12_68 {h : PH} (H : OKM h) {i : Int32} {I : Int} (hi : i = Z3 I) (c : 0 ≤ I ∧ I < 5) : aI h 34 0 i = some (Z3 (rd h 34 I)) ∧ r3 (rd h 34 I) := aI_rd (t := 0) (n := 5) (by rw [H]; rfl) (by decide) hi c
theorem m_aI_12_70 {h : PH} (H : OKM h) {i : Int32} {I : Int} (hi : i = Z3 I) (c : 0 ≤ I ∧ I < 25) : aI h 35 0 i = some (Z3 (rd h 35 I)) ∧ r3 (rd h 35 I) := aI_rd (t := 0) (n := 25) (by rw [H]; rfl) (by decide) hi c
theorem m_aI_12_71 {h : PH} (H : OKM h) {i : Int32} {I : Int} (hi : i = Z3 I) (c : 0 ≤ I ∧ I < 25) : aI h 36 0 i = some (Z3 (rd h 36 I)) ∧ r3 (rd h 36 I) := aI_rd (t := 0) (n := 25) (by rw [H]; rfl) (by decide) hi c
theorem m_aI_12_72 {h : PH} (H : OKM h) {i : Int32} {I : Int} (hi : i = Z3 I) (c : 0 ≤ I ∧ I < 29) : aI h 37 0 i = some (Z3 (rd h 37 I)) ∧ r3 (rd h 37 I) := aI_rd (t := 0) (n := 29) (by rw [H]; rfl) (by decide) hi c
theorem m_aI_12_73 {h : PH} (H : OKM h) {i : Int32} {I : Int} (hi : i = Z3 I) (c : 0 ≤ I ∧ I < 28) : aI h 38 0 i = some (Z3 (rd h 38 I)) ∧ r3 (rd h 38 I) := aI_rd (t := 0) (n := 28) (by rw [H]; rfl) (by decide) hi c
theorem m_aI_12_76 {h : PH} (H : OKM h) {i : Int32} {I : Int} (hi : i = Z3 I) (c : 0 ≤ I ∧ I < 72) : aI h 39 0 i = some (Z3 (rd h 39 I)) ∧ r3 (rd h 39 I) := aI_rd (t := 0) (n := 72) (by rw [H]; rfl) (by decide) hi c
theorem m_aI_12_77 {h : PH} (H : OKM h) {i : Int32} {I : Int} (hi : i = Z3 I) (c : 0 ≤ I ∧ I < 24) : aI h 40 2 i = some (Z3 (rd h 40 I)) ∧ r3 (rd h 40 I) := aI_rd (t := 2) (n := 24) (by rw [H]; rfl) (by decide) hi c
theorem m_aI_12_79 {h : PH} (H : OKM h) {i : Int32} {I : Int} (hi : i = Z3 I) (c : 0 ≤ I ∧ I < 220) : aI h 41 0 i = some (Z3 (rd h 41 I)) ∧ r3 (rd h 41 I) := aI_rd (t := 0) (n := 220) (by rw [H]; rfl) (by decide) hi c
theorem m_aI_12_81 {h : PH} (H : OKM h) {i : Int32} {I : Int} (hi : i = Z3 I) (c : 0 ≤ I ∧ I < 53) : aI h 42 0 i = some (Z3 (rd h 42 I)) ∧ r3 (rd h 42 I) := aI_rd (t := 0) (n := 53) (by rw [H]; rfl) (by decide) hi c
theorem x_aI_2_0 {h : PH} (H : OKX h) {a : Nat} (ha : R2_0 a) {i : Int32} {I : Int} (hi : i = Z3 I) (c : 0 ≤ I ∧ I < 64) : aI h a 0 i = some (Z3 (rd h a I)) ∧ r3 (rd h a I) := aI_rd (t := 0) (n := 64) (by rw [H.1]; rcases ha with rfl | rfl | rfl | rfl | rfl | rfl <;> rfl) (by decide) hi c
theorem x_aI_3_2 {h : PH} (H : OKX h) {i : Int32} {I : Int} (hi : i = Z3 I) (c : 0 ≤ I ∧ I < 24) : aI h 91 0 i = some (Z3 (rd h 91 I)) ∧ r3 (rd h 91 I) := aI_rd (t := 0) (n := 24) (by rw [H.1]; rfl) (by decide) hi c
theorem x_aI_3_3 {h : PH} (H : OKX h) {i : Int32} {I : Int} (hi : i = Z3 I) (c : 0 ≤ I ∧ I < 24) : aI h 92 0 i = some (Z3 (rd h 92 I)) ∧ r3 (rd h 92 I) := aI_rd (t := 0) (n := 24) (by rw [H.1]; rfl) (by decide) hi c
theorem x_aI_3_4 {h : PH} (H : OKX h) {i : Int32} {I : Int} (hi : i = Z3 I) (c : 0 ≤ I ∧ I < 24) : aI h 93 0 i = some (Z3 (rd h 93 I)) ∧ r3 (rd h 93 I) := aI_rd (t := 0) (n := 24) (by rw [H.1]; rfl) (by decide) hi c
theorem x_aI_3_5 {h : PH} (H : OKX h) {i : Int32} {I : Int} (hi : i = Z3 I) (c : 0 ≤ I ∧ I < 24) : aI h 94 0 i = some (Z3 (rd h 94 I)) ∧ r3 (rd h 94 I) := aI_rd (t := 0) (n := 24) (by rw [H.1]; rfl) (by decide) hi c
theorem x_aI_3_6 {h : PH} (H : OKX h) {i : Int32} {I : Int} (hi : i = Z3 I) (c : 0 ≤ I ∧ I < 24) : aI h 95 2 i = some (Z3 (rd h 95 I)) ∧ r3 (rd h 95 I) := aI_rd (t := 2) (n := 24) (by rw [H.1]; rfl) (by decide) hi c
theorem x_aI_4_10 {h : PH} (H : OKX h) {a : Nat} (ha : R4_10 a) {i : Int32} {I : Int} (hi : i = Z3 I) (c : 0 ≤ I ∧ I < 28) : aI h a 0 i = some (Z3 (rd h a I)) ∧ r3 (rd h a I) := aI_rd (t := 0) (n := 28) (by rw [H.1]; rcases ha with rfl | rfl | rfl <;> rfl) (by decide) hi c
theorem x_aI_4_5 {h : PH} (H : OKX h) {a : Nat} (ha : R4_5 a) {i : Int32} {I : Int} (hi : i = Z3 I) (c : 0 ≤ I ∧ I < 5) : aI h a 0 i = some (Z3 (rd h a I)) ∧ r3 (rd h a I) := aI_rd (t := 0) (n := 5) (by rw [H.1]; rcases ha with rfl | rfl | rfl <;> rfl) (by decide) hi c
theorem x_aI_4_6 {h : PH} (H : OKX h) {a : Nat} (ha : R4_6 a) {i : Int32} {I : Int} (hi : i = Z3 I) (c : 0 ≤ I ∧ I < 5) : aI h a 0 i = some (Z3 (rd h a I)) ∧ r3 (rd h a I) := aI_rd (t := 0) (n := 5) (by rw [H.1]; rcases ha with rfl | rfl | rfl <;> rfl) (by decide) hi c
theorem x_aI_4_7 {h : PH} (H : OKX h) {a : Nat} (ha : R4_7 a) {i : Int32} {I : Int} (hi : i = Z3 I) (c : 0 ≤ I ∧ I < 5) : aI h a 0 i = some (Z3 (rd h a I)) ∧ r3 (rd h a I) := aI_rd (t := 0) (n := 5) (by rw [H.1]; rcases ha with rfl | rfl | rfl <;> rfl) (by decide) hi c
theorem x_aI_4_8 {h : PH} (H : OKX h) {a : Nat} (ha : R4_8 a) {i : Int32} {I : Int} (hi : i = Z3 I) (c : 0 ≤ I ∧ I < 5) : aI h a 0 i = some (Z3 (rd h a I)) ∧ r3 (rd h a I) := aI_rd (t := 0) (n := 5) (by rw [H.1]; rcases ha with rfl | rfl | rfl <;> rfl) (by decide) hi c
theorem x_aI_4_9 {h : PH} (H : OKX h) {a : Nat} (ha : R4_9 a) {i : Int32} {I : Int} (hi : i = Z3 I) (c : 0 ≤ I ∧ I < 5) : aI h a 0 i = some (Z3 (rd h a I)) ∧ r3 (rd h a I) := aI_rd (t := 0) (n := 5) (by rw [H.1]; rcases ha with rfl | rfl | rfl <;> rfl) (by decide) hi c
theorem x_aI_5_1 {h : PH} (H : OKX h) {i : Int32} {I : Int} (hi : i = Z3 I) (c : 0 ≤ I ∧ I < 72) : aI h 50 0 i = some (Z3 (rd h 50 I)) ∧ r3 (rd h 50 I) := aI_rd (t := 0) (n := 72) (by rw [H.1]; rfl) (by decide) hi c
theorem x_aI_6_1 {h : PH} (H : OKX h) {a : Nat} (ha : R6_1 a) {i : Int32} {I : Int} (hi : i = Z3 I) (c : 0 ≤ I ∧ I < 5) : aI h a 0 i = some (Z3 (rd h a I)) ∧ r3 (rd h a I) := aI_rd (t := 0) (n := 5) (by rw [H.1]; rcases ha with rfl | rfl <;> rfl) (by decide) hi c
theorem x_aI_6_2 {h : PH} (H : OKX h) {a : Nat} (ha : R6_2 a) {i : Int32} {I : Int} (hi : i = Z3 I) (c : 0 ≤ I ∧ I < 5) : aI h a 0 i = some (Z3 (rd h a I)) ∧ r3 (rd h a I) := aI_rd (t := 0) (n := 5) (by rw [H.1]; rcases ha with rfl | rfl <;> rfl) (by decide) hi c
theorem x_aI_6_3 {h : PH} (H : OKX h) {a : Nat} (ha : R6_3 a) {i : Int32} {I : Int} (hi : i = Z3 I) (c : 0 ≤ I ∧ I < 28) : aI h a 0 i = some (Z3 (rd h a I)) ∧ r3 (rd h a I) := aI_rd (t := 0) (n := 28) (by rw [H.1]; rcases ha with rfl | rfl <;> rfl) (by decide) hi c
theorem x_aI_6_6 {h : PH} (H : OKX h) {a : Nat} (ha : R6_6 a) {i : Int32} {I : Int} (hi : i = Z3 I) (c : 0 ≤ I ∧ I < 5) : aI h a 0 i = some (Z3 (rd h a I)) ∧ r3 (rd h a I) := aI_rd (t := 0) (n := 5) (by rw [H.1]; rcases ha with rfl | rfl <;> rfl) (by decide) hi c
theorem x_aI_6_7 {h : PH} (H : OKX h) {a : Nat} (ha : R6_7 a) {i : Int32} {I : Int} (hi : i = Z3 I) (c : 0 ≤ I ∧ I < 5) : aI h a 0 i = some (Z3 (rd h a I)) ∧ r3 (rd h a I) := aI_rd (t := 0) (n := 5) (by rw [H.1]; rcases ha with rfl | rfl <;> rfl) (by decide) hi c
theorem x_aI_6_8 {h : PH} (H : OKX h) {a : Nat} (ha : R6_8 a) {i : Int32} {I : Int} (hi : i = Z3 I) (c : 0 ≤ I ∧ I < 5) : aI h a 0 i = some (Z3 (rd h a I)) ∧ r3 (rd h a I) := aI_rd (t := 0) (n := 5) (by rw [H.1]; rcases ha with rfl | rfl <;> rfl) (by decide) hi c
theorem x_aI_7_0 {h : PH} (H : OKX h) {i : Int32} {I : Int} (hi : i = Z3 I) (c : 0 ≤ I ∧ I < 24) : aI h 48 0 i = some (Z3 (rd h 48 I)) ∧ r3 (rd h 48 I) := aI_rd (t := 0) (n := 24) (by rw [H.1]; rfl) (by decide) hi c
theorem x_aI_9_1 {h : PH} (H : OKX h) {i : Int32} {I : Int} (hi : i = Z3 I) (c : 0 ≤ I ∧ I < 20) : aI h 97 0 i = some (Z3 (rd h 97 I)) ∧ r3 (rd h 97 I) := aI_rd (t := 0) (n := 20) (by rw [H.1]; rfl) (by decide) hi c
theorem x_aI_9_2 {h : PH} (H : OKX h) {i : Int32} {I : Int} (hi : i = Z3 I) (c : 0 ≤ I ∧ I < 20) : aI h 98 0 i = some (Z3 (rd h 98 I)) ∧ r3 (rd h 98 I) := aI_rd (t := 0) (n := 20) (by rw [H.1]; rfl) (by decide) hi c
theorem m_aJ_12_52 {h : PH} (H : OKM h) {i : Int32} {I : Int} (hi : i = Z3 I) (c : 0 ≤ I ∧ I < 6) : aJ h 23 i = some (Z6 (rd h 23 I)) ∧ r6 (rd h 23 I) := aJ_rd (n := 6) (by rw [H]; rfl) (by decide) hi c
theorem m_aJ_12_53 {h : PH} (H : OKM h) {i : Int32} {I : Int} (hi : i = Z3 I) (c : 0 ≤ I ∧ I < 64) : aJ h 24 i = some (Z6 (rd h 24 I)) ∧ r6 (rd h 24 I) := aJ_rd (n := 64) (by rw [H]; rfl) (by decide) hi c
theorem x_aJ_6_4 {h : PH} (H : OKX h) {a : Nat} (ha : R6_4 a) {i : Int32} {I : Int} (hi : i = Z3 I) (c : 0 ≤ I ∧ I < 6) : aJ h a i = some (Z6 (rd h a I)) ∧ r6 (rd h a I) := aJ_rd (n := 6) (by rw [H.1]; rcases ha with rfl | rfl <;> rfl) (by decide) hi c
theorem x_aJ_6_5 {h : PH} (H : OKX h) {a : Nat} (ha : R6_5 a) {i : Int32} {I : Int} (hi : i = Z3 I) (c : 0 ≤ I ∧ I < 64) : aJ h a i = some (Z6 (rd h a I)) ∧ r6 (rd h a I) := aJ_rd (n := 64) (by rw [H.1]; rcases ha with rfl | rfl <;> rfl) (by decide) hi c
theorem x_aL_11_0 {h : PH} (H : OKX h) : aL h 1 = some (Z3 700) := aL_rd (t := 1) (n := 700) (by rw [H.1]; rfl) (by decide)
theorem m_aL_12_3 {h : PH} (H : OKM h) : aL h 2 = some (Z3 120) := aL_rd (t := 0) (n := 120) (by rw [H]; rfl) (by decide)
theorem x_aL_2_0 {h : PH} (H : OKX h) {a : Nat} (ha : R2_0 a) : aL h a = some (Z3 64) := aL_rd (t := 0) (n := 64) (by rw [H.1]; rcases ha with rfl | rfl | rfl | rfl | rfl | rfl <;> rfl) (by decide)
theorem x_aL_5_1 {h : PH} (H : OKX h) : aL h 50 = some (Z3 72) := aL_rd (t := 0) (n := 72) (by rw [H.1]; rfl) (by decide)
theorem x_aL_6_5 {h : PH} (H : OKX h) {a : Nat} (ha : R6_5 a) : aL h a = some (Z3 64) := aL_rdL (t := 3) (n := 64) (by rw [H.1]; rcases ha with rfl | rfl <;> rfl) (by decide)
theorem x_gI_0_11 {h : PH} (H : OKX h) : gI h 99 0 11 = some (Z3 (rd h 99 11)) ∧ r3 (rd h 99 11) := gI_rd (by rw [H.1]; rfl)
theorem x_gI_0_12 {h : PH} (H : OKX h) : gI h 99 0 12 = some (Z3 (rd h 99 12)) ∧ r3 (rd h 99 12) := gI_rd (by rw [H.1]; rfl)
theorem x_gI_0_6 {h : PH} (H : OKX h) : gI h 99 0 6 = some (Z3 (rd h 99 6)) ∧ r3 (rd h 99 6) := gI_rd (by rw [H.1]; rfl)
theorem x_gI_1_0 {h : PH} (H : OKX h) {a : Nat} (ha : A1 a) : gI h a 1 0 = some (Z3 (rd h a 0)) ∧ r3 (rd h a 0) := gI_rd (by rw [H.1]; rcases ha with rfl | rfl <;> rfl)
theorem x_gI_10_0 {h : PH} (H : OKX h) {a : Nat} (ha : A10 a) : gI h a 10 0 = some (Z3 (rd h a 0)) ∧ r3 (rd h a 0) := gI_rd (by rw [H.1]; rcases ha with rfl | rfl <;> rfl)
theorem x_gI_10_1 {h : PH} (H : OKX h) {a : Nat} (ha : A10 a) : gI h a 10 1 = some (Z3 (rd h a 1)) ∧ r3 (rd h a 1) := gI_rd (by rw [H.1]; rcases ha with rfl | rfl <;> rfl)
theorem x_gI_11_1 {h : PH} (H : OKX h) : gI h 0 11 1 = some (Z3 (rd h 0 1)) ∧ r3 (rd h 0 1) := gI_rd (by rw [H.1]; rfl)
theorem x_gI_11_10 {h : PH} (H : OKX h) : gI h 0 11 10 = some (Z3 (rd h 0 10)) ∧ r3 (rd h 0 10) := gI_rd (by rw [H.1]; rfl)
theorem m_gI_12_1 {h : PH} (H : OKM h) : gI h 0 12 1 = some (Z3 (rd h 0 1)) ∧ r3 (rd h 0 1) := gI_rd (by rw [H]; rfl)
theorem m_gI_12_10 {h : PH} (H : OKM h) : gI h 0 12 10 = some (Z3 (rd h 0 10)) ∧ r3 (rd h 0 10) := gI_rd (by rw [H]; rfl)
theorem m_gI_12_11 {h : PH} (H : OKM h) : gI h 0 12 11 = some (Z3 (rd h 0 11)) ∧ r3 (rd h 0 11) := gI_rd (by rw [H]; rfl)
theorem m_gI_12_12 {h : PH} (H : OKM h) : gI h 0 12 12 = some (Z3 (rd h 0 12)) ∧ r3 (rd h 0 12) := gI_rd (by rw [H]; rfl)
theorem m_gI_12_13 {h : PH} (H : OKM h) : gI h 0 12 13 = some (Z3 (rd h 0 13)) ∧ r3 (rd h 0 13) := gI_rd (by rw [H]; rfl)
theorem m_gI_12_14 {h : PH} (H : OKM h) : gI h 0 12 14 = some (Z3 (rd h 0 14)) ∧ r3 (rd h 0 14) := gI_rd (by rw [H]; rfl)
theorem m_gI_12_15 {h : PH} (H : OKM h) : gI h 0 12 15 = some (Z3 (rd h 0 15)) ∧ r3 (rd h 0 15) := gI_rd (by rw [H]; rfl)
theorem m_gI_12_16 {h : PH} (H : OKM h) : gI h 0 12 16 = some (Z3 (rd h 0 16)) ∧ r3 (rd h 0 16) := gI_rd (by rw [H]; rfl)
theorem m_gI_12_17 {h : PH} (H : OKM h) : gI h 0 12 17 = some (Z3 (rd h 0 17)) ∧ r3 (rd h 0 17) := gI_rd (by rw [H]; rfl)
theorem m_gI_12_18 {h : PH} (H : OKM h) : gI h 0 12 18 = some (Z3 (rd h 0 18)) ∧ r3 (rd h 0 18) := gI_rd (by rw [H]; rfl)
theorem m_gI_12_19 {h : PH} (H : OKM h) : gI h 0 12 19 = some (Z3 (rd h 0 19)) ∧ r3 (rd h 0 19) := gI_rd (by rw [H]; rfl)
theorem m_gI_12_20 {h : PH} (H : OKM h) : gI h 0 12 20 = some (Z3 (rd h 0 20)) ∧ r3 (rd h 0 20) := gI_rd (by rw [H]; rfl)
theorem m_gI_12_21 {h : PH} (H : OKM h) : gI h 0 12 21 = some (Z3 (rd h 0 21)) ∧ r3 (rd h 0 21) := gI_rd (by rw [H]; rfl)
theorem m_gI_12_22 {h : PH} (H : OKM h) : gI h 0 12 22 = some (Z3 (rd h 0 22)) ∧ r3 (rd h 0 22) := gI_rd (by rw [H]; rfl)
theorem m_gI_12_23 {h : PH} (H : OKM h) : gI h 0 12 23 = some (Z3 (rd h 0 23)) ∧ r3 (rd h 0 23) := gI_rd (by rw [H]; rfl)
theorem m_gI_12_24 {h : PH} (H : OKM h) : gI h 0 12 24 = some (Z3 (rd h 0 24)) ∧ r3 (rd h 0 24) := gI_rd (by rw [H]; rfl)
theorem m_gI_12_4 {h : PH} (H : OKM h) : gI h 0 12 4 = some (Z3 (rd h 0 4)) ∧ r3 (rd h 0 4) := gI_rd (by rw [H]; rfl)
theorem m_gI_12_43 {h : PH} (H : OKM h) : gI h 0 12 43 = some (Z3 (rd h 0 43)) ∧ r3 (rd h 0 43) := gI_rd (by rw [H]; rfl)
theorem m_gI_12_46 {h : PH} (H : OKM h) : gI h 0 12 46 = some (Z3 (rd h 0 46)) ∧ r3 (rd h 0 46) := gI_rd (by rw [H]; rfl)
theorem m_gI_12_47 {h : PH} (H : OKM h) : gI h 0 12 47 = some (Z3 (rd h 0 47)) ∧ r3 (rd h 0 47) := gI_rd (by rw [H]; rfl)
theorem m_gI_12_48 {h : PH} (H : OKM h) : gI h 0 12 48 = some (Z3 (rd h 0 48)) ∧ r3 (rd h 0 48) := gI_rd (by rw [H]; rfl)
theorem m_gI_12_49 {h : PH} (H : OKM h) : gI h 0 12 49 = some (Z3 (rd h 0 49)) ∧ r3 (rd h 0 49) := gI_rd (by rw [H]; rfl)
theorem m_gI_12_5 {h : PH} (H : OKM h) : gI h 0 12 5 = some (Z3 (rd h 0 5)) ∧ r3 (rd h 0 5) := gI_rd (by rw [H]; rfl)
theorem m_gI_12_50 {h : PH} (H : OKM h) : gI h 0 12 50 = some (Z3 (rd h 0 50)) ∧ r3 (rd h 0 50) := gI_rd (by rw [H]; rfl)
theorem m_gI_12_51 {h : PH} (H : OKM h) : gI h 0 12 51 = some (Z3 (rd h 0 51)) ∧ r3 (rd h 0 51) := gI_rd (by rw [H]; rfl)
theorem m_gI_12_54 {h : PH} (H : OKM h) : gI h 0 12 54 = some (Z3 (rd h 0 54)) ∧ r3 (rd h 0 54) := gI_rd (by rw [H]; rfl)
theorem m_gI_12_6 {h : PH} (H : OKM h) : gI h 0 12 6 = some (Z3 (rd h 0 6)) ∧ r3 (rd h 0 6) := gI_rd (by rw [H]; rfl)
theorem m_gI_12_64 {h : PH} (H : OKM h) : gI h 0 12 64 = some (Z3 (rd h 0 64)) ∧ r3 (rd h 0 64) := gI_rd (by rw [H]; rfl)
theorem m_gI_12_66 {h : PH} (H : OKM h) : gI h 0 12 66 = some (Z3 (rd h 0 66)) ∧ r3 (rd h 0 66) := gI_rd (by rw [H]; rfl)
theorem m_gI_12_67 {h : PH} (H : OKM h) : gI h 0 12 67 = some (Z3 (rd h 0 67)) ∧ r3 (rd h 0 67) := gI_rd (by rw [H]; rfl)
theorem m_gI_12_69 {h : PH} (H : OKM h) : gI h 0 12 69 = some (Z3 (rd h 0 69)) ∧ r3 (rd h 0 69) := gI_rd (by rw [H]; rfl)
theorem m_gI_12_7 {h : PH} (H : OKM h) : gI h 0 12 7 = some (Z3 (rd h 0 7)) ∧ r3 (rd h 0 7) := gI_rd (by rw [H]; rfl)
theorem m_gI_12_74 {h : PH} (H : OKM h) : gI h 0 12 74 = some (Z3 (rd h 0 74)) ∧ r3 (rd h 0 74) := gI_rd (by rw [H]; rfl)
theorem m_gI_12_75 {h : PH} (H : OKM h) : gI h 0 12 75 = some (Z3 (rd h 0 75)) ∧ r3 (rd h 0 75) := gI_rd (by rw [H]; rfl)
theorem m_gI_12_78 {h : PH} (H : OKM h) : gI h 0 12 78 = some (Z3 (rd h 0 78)) ∧ r3 (rd h 0 78) := gI_rd (by rw [H]; rfl)
theorem m_gI_12_8 {h : PH} (H : OKM h) : gI h 0 12 8 = some (Z3 (rd h 0 8)) ∧ r3 (rd h 0 8) := gI_rd (by rw [H]; rfl)
theorem m_gI_12_80 {h : PH} (H : OKM h) : gI h 0 12 80 = some (Z3 (rd h 0 80)) ∧ r3 (rd h 0 80) := gI_rd (by rw [H]; rfl)
theorem m_gI_12_82 {h : PH} (H : OKM h) : gI h 0 12 82 = some (Z3 (rd h 0 82)) ∧ r3 (rd h 0 82) := gI_rd (by rw [H]; rfl)
theorem m_gI_12_83 {h : PH} (H : OKM h) : gI h 0 12 83 = some (Z3 (rd h 0 83)) ∧ r3 (rd h 0 83) := gI_rd (by rw [H]; rfl)
theorem m_gI_12_84 {h : PH} (H : OKM h) : gI h 0 12 84 = some (Z3 (rd h 0 84)) ∧ r3 (rd h 0 84) := gI_rd (by rw [H]; rfl)
theorem m_gI_12_85 {h : PH} (H : OKM h) : gI h 0 12 85 = some (Z3 (rd h 0 85)) ∧ r3 (rd h 0 85) := gI_rd (by rw [H]; rfl)
theorem m_gI_12_9 {h : PH} (H : OKM h) : gI h 0 12 9 = some (Z3 (rd h 0 9)) ∧ r3 (rd h 0 9) := gI_rd (by rw [H]; rfl)
theorem x_gI_2_1 {h : PH} (H : OKX h) {a : Nat} (ha : A2 a) : gI h a 2 1 = some (Z3 (rd h a 1)) ∧ r3 (rd h a 1) := gI_rd (by rw [H.1]; rcases ha with rfl | rfl | rfl | rfl | rfl | rfl <;> rfl)
theorem x_gI_2_2 {h : PH} (H : OKX h) {a : Nat} (ha : A2 a) : gI h a 2 2 = some (Z3 (rd h a 2)) ∧ r3 (rd h a 2) := gI_rd (by rw [H.1]; rcases ha with rfl | rfl | rfl | rfl | rfl | rfl <;> rfl)
theorem x_gI_3_0 {h : PH} (H : OKX h) : gI h 90 3 0 = some (Z3 (rd h 90 0)) ∧ r3 (rd h 90 0) := gI_rd (by rw [H.1]; rfl)
theorem x_gI_3_1 {h : PH} (H : OKX h) : gI h 90 3 1 = some (Z3 (rd h 90 1)) ∧ r3 (rd h 90 1) := gI_rd (by rw [H.1]; rfl)
theorem x_gI_4_0 {h : PH} (H : OKX h) {a : Nat} (ha : A4 a) : gI h a 4 0 = some (Z3 (rd h a 0)) ∧ r3 (rd h a 0) := gI_rd (by rw [H.1]; rcases ha with rfl | rfl | rfl <;> rfl)
theorem x_gI_4_1 {h : PH} (H : OKX h) {a : Nat} (ha : A4 a) : gI h a 4 1 = some (Z3 (rd h a 1)) ∧ r3 (rd h a 1) := gI_rd (by rw [H.1]; rcases ha with rfl | rfl | rfl <;> rfl)
theorem x_gI_4_2 {h : PH} (H : OKX h) {a : Nat} (ha : A4 a) : gI h a 4 2 = some (Z3 (rd h a 2)) ∧ r3 (rd h a 2) := gI_rd (by rw [H.1]; rcases ha with rfl | rfl | rfl <;> rfl)
theorem x_gI_4_3 {h : PH} (H : OKX h) {a : Nat} (ha : A4 a) : gI h a 4 3 = some (Z3 (rd h a 3)) ∧ r3 (rd h a 3) := gI_rd (by rw [H.1]; rcases ha with rfl | rfl | rfl <;> rfl)
theorem x_gI_4_4 {h : PH} (H : OKX h) {a : Nat} (ha : A4 a) : gI h a 4 4 = some (Z3 (rd h a 4)) ∧ r3 (rd h a 4) := gI_rd (by rw [H.1]; rcases ha with rfl | rfl | rfl <;> rfl)
theorem x_gI_5_2 {h : PH} (H : OKX h) : gI h 46 5 2 = some (Z3 (rd h 46 2)) ∧ r3 (rd h 46 2) := gI_rd (by rw [H.1]; rfl)
theorem x_gI_5_3 {h : PH} (H : OKX h) : gI h 46 5 3 = some (Z3 (rd h 46 3)) ∧ r3 (rd h 46 3) := gI_rd (by rw [H.1]; rfl)
theorem x_gI_5_4 {h : PH} (H : OKX h) : gI h 46 5 4 = some (Z3 (rd h 46 4)) ∧ r3 (rd h 46 4) := gI_rd (by rw [H.1]; rfl)
theorem x_gI_5_5 {h : PH} (H : OKX h) : gI h 46 5 5 = some (Z3 (rd h 46 5)) ∧ r3 (rd h 46 5) := gI_rd (by rw [H.1]; rfl)
theorem x_gI_5_6 {h : PH} (H : OKX h) : gI h 46 5 6 = some (Z3 (rd h 46 6)) ∧ r3 (rd h 46 6) := gI_rd (by rw [H.1]; rfl)
theorem x_gI_5_7 {h : PH} (H : OKX h) : gI h 46 5 7 = some (Z3 (rd h 46 7)) ∧ r3 (rd h 46 7) := gI_rd (by rw [H.1]; rfl)
theorem x_gI_5_8 {h : PH} (H : OKX h) : gI h 46 5 8 = some (Z3 (rd h 46 8)) ∧ r3 (rd h 46 8) := gI_rd (by rw [H.1]; rfl)
theorem x_gI_5_9 {h : PH} (H : OKX h) : gI h 46 5 9 = some (Z3 (rd h 46 9)) ∧ r3 (rd h 46 9) := gI_rd (by rw [H.1]; rfl)
theorem x_gI_7_2 {h : PH} (H : OKX h) : gI h 47 7 2 = some (Z3 (rd h 47 2)) ∧ r3 (rd h 47 2) := gI_rd (by rw [H.1]; rfl)
theorem x_gI_7_3 {h : PH} (H : OKX h) : gI h 47 7 3 = some (Z3 (rd h 47 3)) ∧ r3 (rd h 47 3) := gI_rd (by rw [H.1]; rfl)
theorem x_gI_7_4 {h : PH} (H : OKX h) : gI h 47 7 4 = some (Z3 (rd h 47 4)) ∧ r3 (rd h 47 4) := gI_rd (by rw [H.1]; rfl)
theorem x_gI_7_5 {h : PH} (H : OKX h) : gI h 47 7 5 = some (Z3 (rd h 47 5)) ∧ r3 (rd h 47 5) := gI_rd (by rw [H.1]; rfl)
theorem x_gI_7_6 {h : PH} (H : OKX h) : gI h 47 7 6 = some (Z3 (rd h 47 6)) ∧ r3 (rd h 47 6) := gI_rd (by rw [H.1]; rfl)
theorem x_gI_8_0 {h : PH} (H : OKX h) {a : Nat} (ha : A8 a) : gI h a 8 0 = some (Z3 (rd h a 0)) ∧ r3 (rd h a 0) := gI_rd (by rw [H.1]; rcases ha with rfl | rfl <;> rfl)
theorem x_gI_8_1 {h : PH} (H : OKX h) {a : Nat} (ha : A8 a) : gI h a 8 1 = some (Z3 (rd h a 1)) ∧ r3 (rd h a 1) := gI_rd (by rw [H.1]; rcases ha with rfl | rfl <;> rfl)
theorem x_gI_8_10 {h : PH} (H : OKX h) {a : Nat} (ha : A8 a) : gI h a 8 10 = some (Z3 (rd h a 10)) ∧ r3 (rd h a 10) := gI_rd (by rw [H.1]; rcases ha with rfl | rfl <;> rfl)
theorem x_gI_8_12 {h : PH} (H : OKX h) {a : Nat} (ha : A8 a) : gI h a 8 12 = some (Z3 (rd h a 12)) ∧ r3 (rd h a 12) := gI_rd (by rw [H.1]; rcases ha with rfl | rfl <;> rfl)
theorem x_gI_8_13 {h : PH} (H : OKX h) {a : Nat} (ha : A8 a) : gI h a 8 13 = some (Z3 (rd h a 13)) ∧ r3 (rd h a 13) := gI_rd (by rw [H.1]; rcases ha with rfl | rfl <;> rfl)
theorem x_gI_8_2 {h : PH} (H : OKX h) {a : Nat} (ha : A8 a) : gI h a 8 2 = some (Z3 (rd h a 2)) ∧ r3 (rd h a 2) := gI_rd (by rw [H.1]; rcases ha with rfl | rfl <;> rfl)
theorem x_gI_8_3 {h : PH} (H : OKX h) {a : Nat} (ha : A8 a) : gI h a 8 3 = some (Z3 (rd h a 3)) ∧ r3 (rd h a 3) := gI_rd (by rw [H.1]; rcases ha with rfl | rfl <;> rfl)
theorem x_gI_8_6 {h : PH} (H : OKX h) {a : Nat} (ha : A8 a) : gI h a 8 6 = some (Z3 (rd h a 6)) ∧ r3 (rd h a 6) := gI_rd (by rw [H.1]; rcases ha with rfl | rfl <;> rfl)
theorem x_gI_8_7 {h : PH} (H : OKX h) {a : Nat} (ha : A8 a) : gI h a 8 7 = some (Z3 (rd h a 7)) ∧ r3 (rd h a 7) := gI_rd (by rw [H.1]; rcases ha with rfl | rfl <;> rfl)
theorem x_gI_8_8 {h : PH} (H : OKX h) {a : Nat} (ha : A8 a) : gI h a 8 8 = some (Z3 (rd h a 8)) ∧ r3 (rd h a 8) := gI_rd (by rw [H.1]; rcases ha with rfl | rfl <;> rfl)
theorem x_gI_8_9 {h : PH} (H : OKX h) {a : Nat} (ha : A8 a) : gI h a 8 9 = some (Z3 (rd h a 9)) ∧ r3 (rd h a 9) := gI_rd (by rw [H.1]; rcases ha with rfl | rfl <;> rfl)
theorem x_gI_9_0 {h : PH} (H : OKX h) : gI h 96 9 0 = some (Z3 (rd h 96 0)) ∧ r3 (rd h 96 0) := gI_rd (by rw [H.1]; rfl)
theorem m_gJ_12_65 {h : PH} (H : OKM h) : gJ h 0 12 65 = some (Z6 (rd h 0 65)) ∧ r6 (rd h 0 65) := gJ_rd (by rw [H]; rfl)
theorem m_gJ_12_86 {h : PH} (H : OKM h) : gJ h 0 12 86 = some (Z6 (rd h 0 86)) ∧ r6 (rd h 0 86) := gJ_rd (by rw [H]; rfl)
theorem x_gR_0_0 {h : PH} (H : OKX h) : gR h 99 0 0 = some 100 := by rw [gR_Sk, H.1]; rfl
theorem x_gR_0_1 {h : PH} (H : OKX h) : gR h 99 0 1 = some 101 := by rw [gR_Sk, H.1]; rfl
theorem x_gR_0_10 {h : PH} (H : OKX h) : gR h 99 0 10 = some 109 := by rw [gR_Sk, H.1]; rfl
theorem x_gR_0_2 {h : PH} (H : OKX h) : gR h 99 0 2 = some 102 := by rw [gR_Sk, H.1]; rfl
theorem x_gR_0_3 {h : PH} (H : OKX h) : gR h 99 0 3 = some 103 := by rw [gR_Sk, H.1]; rfl
theorem x_gR_0_4 {h : PH} (H : OKX h) : gR h 99 0 4 = some 104 := by rw [gR_Sk, H.1]; rfl
theorem x_gR_0_5 {h : PH} (H : OKX h) : gR h 99 0 5 = some 105 := by rw [gR_Sk, H.1]; rfl
theorem x_gR_0_7 {h : PH} (H : OKX h) : gR h 99 0 7 = some 106 := by rw [gR_Sk, H.1]; rfl
theorem x_gR_0_8 {h : PH} (H : OKX h) : gR h 99 0 8 = some 107 := by rw [gR_Sk, H.1]; rfl
theorem x_gR_0_9 {h : PH} (H : OKX h) : gR h 99 0 9 = some 108 := by rw [gR_Sk, H.1]; rfl
theorem x_gR_1_1 {h : PH} (H : OKX h) {a : Nat} (ha : A1 a) : gR h a 1 1 = some (a + 1) := by rw [gR_Sk, H.1]; rcases ha with rfl | rfl <;> rfl
theorem x_gR_1_2 {h : PH} (H : OKX h) {a : Nat} (ha : A1 a) : gR h a 1 2 = some (a + 2) := by rw [gR_Sk, H.1]; rcases ha with rfl | rfl <;> rfl
theorem x_gR_1_3 {h : PH} (H : OKX h) {a : Nat} (ha : A1 a) : gR h a 1 3 = some (a + 3) := by rw [gR_Sk, H.1]; rcases ha with rfl | rfl <;> rfl
theorem x_gR_1_4 {h : PH} (H : OKX h) {a : Nat} (ha : A1 a) : gR h a 1 4 = some (a + 4) := by rw [gR_Sk, H.1]; rcases ha with rfl | rfl <;> rfl
theorem x_gR_1_5 {h : PH} (H : OKX h) {a : Nat} (ha : A1 a) : gR h a 1 5 = some (a + 5) := by rw [gR_Sk, H.1]; rcases ha with rfl | rfl <;> rfl
theorem x_gR_1_6 {h : PH} (H : OKX h) {a : Nat} (ha : A1 a) : gR h a 1 6 = some (a + 6) := by rw [gR_Sk, H.1]; rcases ha with rfl | rfl <;> rfl
theorem x_gR_10_2 {h : PH} (H : OKX h) {a : Nat} (ha : A10 a) : gR h a 10 2 = some (a + 1) := by rw [gR_Sk, H.1]; rcases ha with rfl | rfl <;> rfl
theorem x_gR_10_3 {h : PH} (H : OKX h) {a : Nat} (ha : A10 a) : gR h a 10 3 = some (a + 2) := by rw [gR_Sk, H.1]; rcases ha with rfl | rfl <;> rfl
theorem x_gR_10_4 {h : PH} (H : OKX h) {a : Nat} (ha : A10 a) : gR h a 10 4 = some (a + 3) := by rw [gR_Sk, H.1]; rcases ha with rfl | rfl <;> rfl
theorem x_gR_10_5 {h : PH} (H : OKX h) {a : Nat} (ha : A10 a) : gR h a 10 5 = some (a + 4) := by rw [gR_Sk, H.1]; rcases ha with rfl | rfl <;> rfl
theorem x_gR_10_6 {h : PH} (H : OKX h) {a : Nat} (ha : A10 a) : gR h a 10 6 = some (a + 5) := by rw [gR_Sk, H.1]; rcases ha with rfl | rfl <;> rfl
theorem x_gR_10_7 {h : PH} (H : OKX h) {a : Nat} (ha : A10 a) : gR h a 10 7 = some (a + 6) := by rw [gR_Sk, H.1]; rcases ha with rfl | rfl <;> rfl
theorem x_gR_11_0 {h : PH} (H : OKX h) : gR h 0 11 0 = some 1 := by rw [gR_Sk, H.1]; rfl
theorem x_gR_11_11 {h : PH} (H : OKX h) : gR h 0 11 11 = some 90 := by rw [gR_Sk, H.1]; rfl
theorem x_gR_11_12 {h : PH} (H : OKX h) : gR h 0 11 12 = some 96 := by rw [gR_Sk, H.1]; rfl
theorem x_gR_11_13 {h : PH} (H : OKX h) : gR h 0 11 13 = some 99 := by rw [gR_Sk, H.1]; rfl
theorem x_gR_11_2 {h : PH} (H : OKX h) : gR h 0 11 2 = some 46 := by rw [gR_Sk, H.1]; rfl
theorem x_gR_11_3 {h : PH} (H : OKX h) : gR h 0 11 3 = some (rd h 0 3).toNat := by rw [gR_Sk, H.1]; rfl
theorem x_gR_11_4 {h : PH} (H : OKX h) : gR h 0 11 4 = some (rd h 0 4).toNat := by rw [gR_Sk, H.1]; rfl
theorem x_gR_11_5 {h : PH} (H : OKX h) : gR h 0 11 5 = some 51 := by rw [gR_Sk, H.1]; rfl
theorem x_gR_11_6 {h : PH} (H : OKX h) : gR h 0 11 6 = some 60 := by rw [gR_Sk, H.1]; rfl
theorem x_gR_11_7 {h : PH} (H : OKX h) : gR h 0 11 7 = some 69 := by rw [gR_Sk, H.1]; rfl
theorem x_gR_11_8 {h : PH} (H : OKX h) : gR h 0 11 8 = some 76 := by rw [gR_Sk, H.1]; rfl
theorem x_gR_11_9 {h : PH} (H : OKX h) : gR h 0 11 9 = some 83 := by rw [gR_Sk, H.1]; rfl
theorem m_gR_12_0 {h : PH} (H : OKM h) : gR h 0 12 0 = some 1 := by rw [gR_Sk, H]; rfl
theorem m_gR_12_25 {h : PH} (H : OKM h) : gR h 0 12 25 = some 3 := by rw [gR_Sk, H]; rfl
theorem m_gR_12_26 {h : PH} (H : OKM h) : gR h 0 12 26 = some 4 := by rw [gR_Sk, H]; rfl
theorem m_gR_12_27 {h : PH} (H : OKM h) : gR h 0 12 27 = some 5 := by rw [gR_Sk, H]; rfl
theorem m_gR_12_28 {h : PH} (H : OKM h) : gR h 0 12 28 = some 6 := by rw [gR_Sk, H]; rfl
theorem m_gR_12_29 {h : PH} (H : OKM h) : gR h 0 12 29 = some 7 := by rw [gR_Sk, H]; rfl
theorem m_gR_12_3 {h : PH} (H : OKM h) : gR h 0 12 3 = some 2 := by rw [gR_Sk, H]; rfl
theorem m_gR_12_30 {h : PH} (H : OKM h) : gR h 0 12 30 = some 8 := by rw [gR_Sk, H]; rfl
theorem m_gR_12_31 {h : PH} (H : OKM h) : gR h 0 12 31 = some 9 := by rw [gR_Sk, H]; rfl
theorem m_gR_12_32 {h : PH} (H : OKM h) : gR h 0 12 32 = some 10 := by rw [gR_Sk, H]; rfl
theorem m_gR_12_33 {h : PH} (H : OKM h) : gR h 0 12 33 = some 11 := by rw [gR_Sk, H]; rfl
theorem m_gR_12_34 {h : PH} (H : OKM h) : gR h 0 12 34 = some 12 := by rw [gR_Sk, H]; rfl
theorem m_gR_12_35 {h : PH} (H : OKM h) : gR h 0 12 35 = some 13 := by rw [gR_Sk, H]; rfl
theorem m_gR_12_36 {h : PH} (H : OKM h) : gR h 0 12 36 = some 14 := by rw [gR_Sk, H]; rfl
theorem m_gR_12_37 {h : PH} (H : OKM h) : gR h 0 12 37 = some 15 := by rw [gR_Sk, H]; rfl
theorem m_gR_12_38 {h : PH} (H : OKM h) : gR h 0 12 38 = some 16 := by rw [gR_Sk, H]; rfl
theorem m_gR_12_39 {h : PH} (H : OKM h) : gR h 0 12 39 = some 17 := by rw [gR_Sk, H]; rfl
theorem m_gR_12_40 {h : PH} (H : OKM h) : gR h 0 12 40 = some 18 := by rw [gR_Sk, H]; rfl
theorem m_gR_12_41 {h : PH} (H : OKM h) : gR h 0 12 41 = some 19 := by rw [gR_Sk, H]; rfl
theorem m_gR_12_42 {h : PH} (H : OKM h) : gR h 0 12 42 = some 20 := by rw [gR_Sk, H]; rfl
theorem m_gR_12_44 {h : PH} (H : OKM h) : gR h 0 12 44 = some 21 := by rw [gR_Sk, H]; rfl
theorem m_gR_12_45 {h : PH} (H : OKM h) : gR h 0 12 45 = some 22 := by rw [gR_Sk, H]; rfl
theorem m_gR_12_52 {h : PH} (H : OKM h) : gR h 0 12 52 = some 23 := by rw [gR_Sk, H]; rfl
theorem m_gR_12_53 {h : PH} (H : OKM h) : gR h 0 12 53 = some 24 := by rw [gR_Sk, H]; rfl
theorem m_gR_12_55 {h : PH} (H : OKM h) : gR h 0 12 55 = some 25 := by rw [gR_Sk, H]; rfl
theorem m_gR_12_56 {h : PH} (H : OKM h) : gR h 0 12 56 = some 26 := by rw [gR_Sk, H]; rfl
theorem m_gR_12_57 {h : PH} (H : OKM h) : gR h 0 12 57 = some 27 := by rw [gR_Sk, H]; rfl
theorem m_gR_12_58 {h : PH} (H : OKM h) : gR h 0 12 58 = some 28 := by rw [gR_Sk, H]; rfl
theorem m_gR_12_59 {h : PH} (H : OKM h) : gR h 0 12 59 = some 29 := by rw [gR_Sk, H]; rfl
theorem m_gR_12_60 {h : PH} (H : OKM h) : gR h 0 12 60 = some 30 := by rw [gR_Sk, H]; rfl
theorem m_gR_12_61 {h : PH} (H : OKM h) : gR h 0 12 61 = some 31 := by rw [gR_Sk, H]; rfl
theorem m_gR_12_62 {h : PH} (H : OKM h) : gR h 0 12 62 = some 32 := by rw [gR_Sk, H]; rfl
theorem m_gR_12_63 {h : PH} (H : OKM h) : gR h 0 12 63 = some 33 := by rw [gR_Sk, H]; rfl
theorem m_gR_12_68 {h : PH} (H : OKM h) : gR h 0 12 68 = some 34 := by rw [gR_Sk, H]; rfl
theorem m_gR_12_70 {h : PH} (H : OKM h) : gR h 0 12 70 = some 35 := by rw [gR_Sk, H]; rfl
theorem m_gR_12_71 {h : PH} (H : OKM h) : gR h 0 12 71 = some 36 := by rw [gR_Sk, H]; rfl
theorem m_gR_12_72 {h : PH} (H : OKM h) : gR h 0 12 72 = some 37 := by rw [gR_Sk, H]; rfl
theorem m_gR_12_73 {h : PH} (H : OKM h) : gR h 0 12 73 = some 38 := by rw [gR_Sk, H]; rfl
theorem m_gR_12_76 {h : PH} (H : OKM h) : gR h 0 12 76 = some 39 := by rw [gR_Sk, H]; rfl
theorem m_gR_12_77 {h : PH} (H : OKM h) : gR h 0 12 77 = some 40 := by rw [gR_Sk, H]; rfl
theorem m_gR_12_79 {h : PH} (H : OKM h) : gR h 0 12 79 = some 41 := by rw [gR_Sk, H]; rfl
theorem m_gR_12_81 {h : PH} (H : OKM h) : gR h 0 12 81 = some 42 := by rw [gR_Sk, H]; rfl
theorem x_gR_2_0 {h : PH} (H : OKX h) {a : Nat} (ha : A2 a) : gR h a 2 0 = some (a + 1) := by rw [gR_Sk, H.1]; rcases ha with rfl | rfl | rfl | rfl | rfl | rfl <;> rfl
theorem x_gR_3_2 {h : PH} (H : OKX h) : gR h 90 3 2 = some 91 := by rw [gR_Sk, H.1]; rfl
theorem x_gR_3_3 {h : PH} (H : OKX h) : gR h 90 3 3 = some 92 := by rw [gR_Sk, H.1]; rfl
theorem x_gR_3_4 {h : PH} (H : OKX h) : gR h 90 3 4 = some 93 := by rw [gR_Sk, H.1]; rfl
theorem x_gR_3_5 {h : PH} (H : OKX h) : gR h 90 3 5 = some 94 := by rw [gR_Sk, H.1]; rfl
theorem x_gR_3_6 {h : PH} (H : OKX h) : gR h 90 3 6 = some 95 := by rw [gR_Sk, H.1]; rfl
theorem x_gR_4_10 {h : PH} (H : OKX h) {a : Nat} (ha : A4 a) : gR h a 4 10 = some (a + 6) := by rw [gR_Sk, H.1]; rcases ha with rfl | rfl | rfl <;> rfl
theorem x_gR_4_5 {h : PH} (H : OKX h) {a : Nat} (ha : A4 a) : gR h a 4 5 = some (a + 1) := by rw [gR_Sk, H.1]; rcases ha with rfl | rfl | rfl <;> rfl
theorem x_gR_4_6 {h : PH} (H : OKX h) {a : Nat} (ha : A4 a) : gR h a 4 6 = some (a + 2) := by rw [gR_Sk, H.1]; rcases ha with rfl | rfl | rfl <;> rfl
theorem x_gR_4_7 {h : PH} (H : OKX h) {a : Nat} (ha : A4 a) : gR h a 4 7 = some (a + 3) := by rw [gR_Sk, H.1]; rcases ha with rfl | rfl | rfl <;> rfl
theorem x_gR_4_8 {h : PH} (H : OKX h) {a : Nat} (ha : A4 a) : gR h a 4 8 = some (a + 4) := by rw [gR_Sk, H.1]; rcases ha with rfl | rfl | rfl <;> rfl
theorem x_gR_4_9 {h : PH} (H : OKX h) {a : Nat} (ha : A4 a) : gR h a 4 9 = some (a + 5) := by rw [gR_Sk, H.1]; rcases ha with rfl | rfl | rfl <;> rfl
theorem x_gR_5_0 {h : PH} (H : OKX h) : gR h 46 5 0 = some 47 := by rw [gR_Sk, H.1]; rfl
theorem x_gR_5_1 {h : PH} (H : OKX h) : gR h 46 5 1 = some 50 := by rw [gR_Sk, H.1]; rfl
theorem x_gR_5_10 {h : PH} (H : OKX h) : gR h 46 5 10 = some (rd h 46 10).toNat := by rw [gR_Sk, H.1]; rfl
theorem x_gR_6_0 {h : PH} (H : OKX h) {a : Nat} (ha : A6 a) : gR h a 6 0 = some (rd h a 0).toNat := by rw [gR_Sk, H.1]; rcases ha with rfl | rfl <;> rfl
theorem x_gR_6_1 {h : PH} (H : OKX h) {a : Nat} (ha : A6 a) : gR h a 6 1 = some (a + 1) := by rw [gR_Sk, H.1]; rcases ha with rfl | rfl <;> rfl
theorem x_gR_6_2 {h : PH} (H : OKX h) {a : Nat} (ha : A6 a) : gR h a 6 2 = some (a + 2) := by rw [gR_Sk, H.1]; rcases ha with rfl | rfl <;> rfl
theorem x_gR_6_3 {h : PH} (H : OKX h) {a : Nat} (ha : A6 a) : gR h a 6 3 = some (a + 3) := by rw [gR_Sk, H.1]; rcases ha with rfl | rfl <;> rfl
theorem x_gR_6_4 {h : PH} (H : OKX h) {a : Nat} (ha : A6 a) : gR h a 6 4 = some (a + 4) := by rw [gR_Sk, H.1]; rcases ha with rfl | rfl <;> rfl
theorem x_gR_6_5 {h : PH} (H : OKX h) {a : Nat} (ha : A6 a) : gR h a 6 5 = some (a + 5) := by rw [gR_Sk, H.1]; rcases ha with rfl | rfl <;> rfl
theorem x_gR_6_6 {h : PH} (H : OKX h) {a : Nat} (ha : A6 a) : gR h a 6 6 = some (a + 6) := by rw [gR_Sk, H.1]; rcases ha with rfl | rfl <;> rfl
theorem x_gR_6_7 {h : PH} (H : OKX h) {a : Nat} (ha : A6 a) : gR h a 6 7 = some (a + 7) := by rw [gR_Sk, H.1]; rcases ha with rfl | rfl <;> rfl
theorem x_gR_6_8 {h : PH} (H : OKX h) {a : Nat} (ha : A6 a) : gR h a 6 8 = some (a + 8) := by rw [gR_Sk, H.1]; rcases ha with rfl | rfl <;> rfl
theorem x_gR_7_0 {h : PH} (H : OKX h) : gR h 47 7 0 = some 48 := by rw [gR_Sk, H.1]; rfl
theorem x_gR_7_1 {h : PH} (H : OKX h) : gR h 47 7 1 = some (rd h 47 1).toNat := by rw [gR_Sk, H.1]; rfl
theorem x_gR_8_11 {h : PH} (H : OKX h) {a : Nat} (ha : A8 a) : gR h a 8 11 = some (a + 15) := by rw [gR_Sk, H.1]; rcases ha with rfl | rfl <;> rfl
theorem x_gR_8_4 {h : PH} (H : OKX h) {a : Nat} (ha : A8 a) : gR h a 8 4 = some (a + 1) := by rw [gR_Sk, H.1]; rcases ha with rfl | rfl <;> rfl
theorem x_gR_8_5 {h : PH} (H : OKX h) {a : Nat} (ha : A8 a) : gR h a 8 5 = some (a + 8) := by rw [gR_Sk, H.1]; rcases ha with rfl | rfl <;> rfl
theorem x_gR_9_1 {h : PH} (H : OKX h) : gR h 96 9 1 = some 97 := by rw [gR_Sk, H.1]; rfl
theorem x_gR_9_2 {h : PH} (H : OKX h) : gR h 96 9 2 = some 98 := by rw [gR_Sk, H.1]; rfl
theorem nr_4_10 {a : Nat} (ha : R4_10 a) : a ≠ 0 ∧ a ≠ 46 ∧ a ≠ 47 ∧ a ≠ 51 ∧ a ≠ 60 := by rcases ha with rfl | rfl | rfl <;> decide
theorem nr_4_5 {a : Nat} (ha : R4_5 a) : a ≠ 0 ∧ a ≠ 46 ∧ a ≠ 47 ∧ a ≠ 51 ∧ a ≠ 60 := by rcases ha with rfl | rfl | rfl <;> decide
theorem nr_4_6 {a : Nat} (ha : R4_6 a) : a ≠ 0 ∧ a ≠ 46 ∧ a ≠ 47 ∧ a ≠ 51 ∧ a ≠ 60 := by rcases ha with rfl | rfl | rfl <;> decide
theorem nr_4_7 {a : Nat} (ha : R4_7 a) : a ≠ 0 ∧ a ≠ 46 ∧ a ≠ 47 ∧ a ≠ 51 ∧ a ≠ 60 := by rcases ha with rfl | rfl | rfl <;> decide
theorem nr_4_8 {a : Nat} (ha : R4_8 a) : a ≠ 0 ∧ a ≠ 46 ∧ a ≠ 47 ∧ a ≠ 51 ∧ a ≠ 60 := by rcases ha with rfl | rfl | rfl <;> decide
theorem nr_4_9 {a : Nat} (ha : R4_9 a) : a ≠ 0 ∧ a ≠ 46 ∧ a ≠ 47 ∧ a ≠ 51 ∧ a ≠ 60 := by rcases ha with rfl | rfl | rfl <;> decide
theorem nr_6_1 {a : Nat} (ha : R6_1 a) : a ≠ 0 ∧ a ≠ 46 ∧ a ≠ 47 ∧ a ≠ 51 ∧ a ≠ 60 := by rcases ha with rfl | rfl <;> decide
theorem nr_6_2 {a : Nat} (ha : R6_2 a) : a ≠ 0 ∧ a ≠ 46 ∧ a ≠ 47 ∧ a ≠ 51 ∧ a ≠ 60 := by rcases ha with rfl | rfl <;> decide
theorem nr_6_3 {a : Nat} (ha : R6_3 a) : a ≠ 0 ∧ a ≠ 46 ∧ a ≠ 47 ∧ a ≠ 51 ∧ a ≠ 60 := by rcases ha with rfl | rfl <;> decide
theorem nr_9_1 : 97 ≠ 0 ∧ 97 ≠ 46 ∧ 97 ≠ 47 ∧ 97 ≠ 51 ∧ 97 ≠ 60 := by decide
theorem nr_9_2 : 98 ≠ 0 ∧ 98 ≠ 46 ∧ 98 ≠ 47 ∧ 98 ≠ 51 ∧ 98 ≠ 60 := by decide
theorem x_ok_0 {h : PH} (H : OKX h) : okO h 99 0 = true := by rw [okO_Sk, H.1]; rfl
theorem x_ok_1 {h : PH} (H : OKX h) {a : Nat} (ha : A1 a) : okO h a 1 = true := by rw [okO_Sk, H.1]; rcases ha with rfl | rfl <;> rfl
theorem x_ok_10 {h : PH} (H : OKX h) {a : Nat} (ha : A10 a) : okO h a 10 = true := by rw [okO_Sk, H.1]; rcases ha with rfl | rfl <;> rfl
theorem x_ok_11 {h : PH} (H : OKX h) : okO h 0 11 = true := by rw [okO_Sk, H.1]; rfl
theorem m_ok_12 {h : PH} (H : OKM h) : okO h 0 12 = true := by rw [okO_Sk, H]; rfl
theorem x_ok_2 {h : PH} (H : OKX h) {a : Nat} (ha : A2 a) : okO h a 2 = true := by rw [okO_Sk, H.1]; rcases ha with rfl | rfl | rfl | rfl | rfl | rfl <;> rfl
theorem x_ok_3 {h : PH} (H : OKX h) : okO h 90 3 = true := by rw [okO_Sk, H.1]; rfl
theorem x_ok_4 {h : PH} (H : OKX h) {a : Nat} (ha : A4 a) : okO h a 4 = true := by rw [okO_Sk, H.1]; rcases ha with rfl | rfl | rfl <;> rfl
theorem x_ok_5 {h : PH} (H : OKX h) : okO h 46 5 = true := by rw [okO_Sk, H.1]; rfl
theorem x_ok_6 {h : PH} (H : OKX h) {a : Nat} (ha : A6 a) : okO h a 6 = true := by rw [okO_Sk, H.1]; rcases ha with rfl | rfl <;> rfl
theorem x_ok_7 {h : PH} (H : OKX h) : okO h 47 7 = true := by rw [okO_Sk, H.1]; rfl
theorem x_ok_8 {h : PH} (H : OKX h) {a : Nat} (ha : A8 a) : okO h a 8 = true := by rw [okO_Sk, H.1]; rcases ha with rfl | rfl <;> rfl
theorem x_ok_9 {h : PH} (H : OKX h) : okO h 96 9 = true := by rw [okO_Sk, H.1]; rfl
theorem x_pI_0_11 {h : PH} (H : OKX h) {v : Int32} {V : Int} (ev : v = Z3 V) (hr : r3 V) : ∃ h', pI h 99 0 11 v = some h' ∧ OKX h' ∧ rd h' = up (rd h) 99 11 V := x_pI H rfl (by simp [nrx]) ev hr
theorem x_pI_0_12 {h : PH} (H : OKX h) {v : Int32} {V : Int} (ev : v = Z3 V) (hr : r3 V) : ∃ h', pI h 99 0 12 v = some h' ∧ OKX h' ∧ rd h' = up (rd h) 99 12 V := x_pI H rfl (by simp [nrx]) ev hr
theorem x_pI_0_6 {h : PH} (H : OKX h) {v : Int32} {V : Int} (ev : v = Z3 V) (hr : r3 V) : ∃ h', pI h 99 0 6 v = some h' ∧ OKX h' ∧ rd h' = up (rd h) 99 6 V := x_pI H rfl (by simp [nrx]) ev hr
theorem x_pI_1_0 {h : PH} (H : OKX h) {a : Nat} (ha : A1 a) {v : Int32} {V : Int} (ev : v = Z3 V) (hr : r3 V) : ∃ h', pI h a 1 0 v = some h' ∧ OKX h' ∧ rd h' = up (rd h) a 0 V := x_pI H (by rcases ha with rfl | rfl <;> rfl) (by rcases ha with rfl | rfl <;> simp [nrx]) ev hr
theorem x_pI_10_0 {h : PH} (H : OKX h) {a : Nat} (ha : A10 a) {v : Int32} {V : Int} (ev : v = Z3 V) (hr : r3 V) : ∃ h', pI h a 10 0 v = some h' ∧ OKX h' ∧ rd h' = up (rd h) a 0 V := x_pI H (by rcases ha with rfl | rfl <;> rfl) (by rcases ha with rfl | rfl <;> simp [nrx]) ev hr
theorem x_pI_10_1 {h : PH} (H : OKX h) {a : Nat} (ha : A10 a) {v : Int32} {V : Int} (ev : v = Z3 V) (hr : r3 V) : ∃ h', pI h a 10 1 v = some h' ∧ OKX h' ∧ rd h' = up (rd h) a 1 V := x_pI H (by rcases ha with rfl | rfl <;> rfl) (by rcases ha with rfl | rfl <;> simp [nrx]) ev hr
theorem x_pI_11_1 {h : PH} (H : OKX h) {v : Int32} {V : Int} (ev : v = Z3 V) (hr : r3 V) : ∃ h', pI h 0 11 1 v = some h' ∧ OKX h' ∧ rd h' = up (rd h) 0 1 V := x_pI H rfl (by simp [nrx]) ev hr
theorem m_pI_12_1 {h : PH} (H : OKM h) {v : Int32} {V : Int} (ev : v = Z3 V) (hr : r3 V) : ∃ h', pI h 0 12 1 v = some h' ∧ OKM h' ∧ rd h' = up (rd h) 0 1 V := m_pI H rfl ev hr
theorem m_pI_12_10 {h : PH} (H : OKM h) {v : Int32} {V : Int} (ev : v = Z3 V) (hr : r3 V) : ∃ h', pI h 0 12 10 v = some h' ∧ OKM h' ∧ rd h' = up (rd h) 0 10 V := m_pI H rfl ev hr
theorem m_pI_12_11 {h : PH} (H : OKM h) {v : Int32} {V : Int} (ev : v = Z3 V) (hr : r3 V) : ∃ h', pI h 0 12 11 v = some h' ∧ OKM h' ∧ rd h' = up (rd h) 0 11 V := m_pI H rfl ev hr
theorem m_pI_12_12 {h : PH} (H : OKM h) {v : Int32} {V : Int} (ev : v = Z3 V) (hr : r3 V) : ∃ h', pI h 0 12 12 v = some h' ∧ OKM h' ∧ rd h' = up (rd h) 0 12 V := m_pI H rfl ev hr
theorem m_pI_12_13 {h : PH} (H : OKM h) {v : Int32} {V : Int} (ev : v = Z3 V) (hr : r3 V) : ∃ h', pI h 0 12 13 v = some h' ∧ OKM h' ∧ rd h' = up (rd h) 0 13 V := m_pI H rfl ev hr
theorem m_pI_12_14 {h : PH} (H : OKM h) {v : Int32} {V : Int} (ev : v = Z3 V) (hr : r3 V) : ∃ h', pI h 0 12 14 v = some h' ∧ OKM h' ∧ rd h' = up (rd h) 0 14 V := m_pI H rfl ev hr
theorem m_pI_12_15 {h : PH} (H : OKM h) {v : Int32} {V : Int} (ev : v = Z3 V) (hr : r3 V) : ∃ h', pI h 0 12 15 v = some h' ∧ OKM h' ∧ rd h' = up (rd h) 0 15 V := m_pI H rfl ev hr
theorem m_pI_12_16 {h : PH} (H : OKM h) {v : Int32} {V : Int} (ev : v = Z3 V) (hr : r3 V) : ∃ h', pI h 0 12 16 v = some h' ∧ OKM h' ∧ rd h' = up (rd h) 0 16 V := m_pI H rfl ev hr
theorem m_pI_12_17 {h : PH} (H : OKM h) {v : Int32} {V : Int} (ev : v = Z3 V) (hr : r3 V) : ∃ h', pI h 0 12 17 v = some h' ∧ OKM h' ∧ rd h' = up (rd h) 0 17 V := m_pI H rfl ev hr
theorem m_pI_12_18 {h : PH} (H : OKM h) {v : Int32} {V : Int} (ev : v = Z3 V) (hr : r3 V) : ∃ h', pI h 0 12 18 v = some h' ∧ OKM h' ∧ rd h' = up (rd h) 0 18 V := m_pI H rfl ev hr
theorem m_pI_12_19 {h : PH} (H : OKM h) {v : Int32} {V : Int} (ev : v = Z3 V) (hr : r3 V) : ∃ h', pI h 0 12 19 v = some h' ∧ OKM h' ∧ rd h' = up (rd h) 0 19 V := m_pI H rfl ev hr
theorem m_pI_12_2 {h : PH} (H : OKM h) {v : Int32} {V : Int} (ev : v = Z3 V) (hr : r3 V) : ∃ h', pI h 0 12 2 v = some h' ∧ OKM h' ∧ rd h' = up (rd h) 0 2 V := m_pI H rfl ev hr
theorem m_pI_12_20 {h : PH} (H : OKM h) {v : Int32} {V : Int} (ev : v = Z3 V) (hr : r3 V) : ∃ h', pI h 0 12 20 v = some h' ∧ OKM h' ∧ rd h' = up (rd h) 0 20 V := m_pI H rfl ev hr
theorem m_pI_12_21 {h : PH} (H : OKM h) {v : Int32} {V : Int} (ev : v = Z3 V) (hr : r3 V) : ∃ h', pI h 0 12 21 v = some h' ∧ OKM h' ∧ rd h' = up (rd h) 0 21 V := m_pI H rfl ev hr
theorem m_pI_12_22 {h : PH} (H : OKM h) {v : Int32} {V : Int} (ev : v = Z3 V) (hr : r3 V) : ∃ h', pI h 0 12 22 v = some h' ∧ OKM h' ∧ rd h' = up (rd h) 0 22 V := m_pI H rfl ev hr
theorem m_pI_12_23 {h : PH} (H : OKM h) {v : Int32} {V : Int} (ev : v = Z3 V) (hr : r3 V) : ∃ h', pI h 0 12 23 v = some h' ∧ OKM h' ∧ rd h' = up (rd h) 0 23 V := m_pI H rfl ev hr
theorem m_pI_12_4 {h : PH} (H : OKM h) {v : Int32} {V : Int} (ev : v = Z3 V) (hr : r3 V) : ∃ h', pI h 0 12 4 v = some h' ∧ OKM h' ∧ rd h' = up (rd h) 0 4 V := m_pI H rfl ev hr
theorem m_pI_12_43 {h : PH} (H : OKM h) {v : Int32} {V : Int} (ev : v = Z3 V) (hr : r3 V) : ∃ h', pI h 0 12 43 v = some h' ∧ OKM h' ∧ rd h' = up (rd h) 0 43 V := m_pI H rfl ev hr
theorem m_pI_12_46 {h : PH} (H : OKM h) {v : Int32} {V : Int} (ev : v = Z3 V) (hr : r3 V) : ∃ h', pI h 0 12 46 v = some h' ∧ OKM h' ∧ rd h' = up (rd h) 0 46 V := m_pI H rfl ev hr
theorem m_pI_12_47 {h : PH} (H : OKM h) {v : Int32} {V : Int} (ev : v = Z3 V) (hr : r3 V) : ∃ h', pI h 0 12 47 v = some h' ∧ OKM h' ∧ rd h' = up (rd h) 0 47 V := m_pI H rfl ev hr
theorem m_pI_12_48 {h : PH} (H : OKM h) {v : Int32} {V : Int} (ev : v = Z3 V) (hr : r3 V) : ∃ h', pI h 0 12 48 v = some h' ∧ OKM h' ∧ rd h' = up (rd h) 0 48 V := m_pI H rfl ev hr
theorem m_pI_12_49 {h : PH} (H : OKM h) {v : Int32} {V : Int} (ev : v = Z3 V) (hr : r3 V) : ∃ h', pI h 0 12 49 v = some h' ∧ OKM h' ∧ rd h' = up (rd h) 0 49 V := m_pI H rfl ev hr
theorem m_pI_12_5 {h : PH} (H : OKM h) {v : Int32} {V : Int} (ev : v = Z3 V) (hr : r3 V) : ∃ h', pI h 0 12 5 v = some h' ∧ OKM h' ∧ rd h' = up (rd h) 0 5 V := m_pI H rfl ev hr
theorem m_pI_12_6 {h : PH} (H : OKM h) {v : Int32} {V : Int} (ev : v = Z3 V) (hr : r3 V) : ∃ h', pI h 0 12 6 v = some h' ∧ OKM h' ∧ rd h' = up (rd h) 0 6 V := m_pI H rfl ev hr
theorem m_pI_12_64 {h : PH} (H : OKM h) {v : Int32} {V : Int} (ev : v = Z3 V) (hr : r3 V) : ∃ h', pI h 0 12 64 v = some h' ∧ OKM h' ∧ rd h' = up (rd h) 0 64 V := m_pI H rfl ev hr
theorem m_pI_12_66 {h : PH} (H : OKM h) {v : Int32} {V : Int} (ev : v = Z3 V) (hr : r3 V) : ∃ h', pI h 0 12 66 v = some h' ∧ OKM h' ∧ rd h' = up (rd h) 0 66 V := m_pI H rfl ev hr
theorem m_pI_12_67 {h : PH} (H : OKM h) {v : Int32} {V : Int} (ev : v = Z3 V) (hr : r3 V) : ∃ h', pI h 0 12 67 v = some h' ∧ OKM h' ∧ rd h' = up (rd h) 0 67 V := m_pI H rfl ev hr
theorem m_pI_12_69 {h : PH} (H : OKM h) {v : Int32} {V : Int} (ev : v = Z3 V) (hr : r3 V) : ∃ h', pI h 0 12 69 v = some h' ∧ OKM h' ∧ rd h' = up (rd h) 0 69 V := m_pI H rfl ev hr
theorem m_pI_12_7 {h : PH} (H : OKM h) {v : Int32} {V : Int} (ev : v = Z3 V) (hr : r3 V) : ∃ h', pI h 0 12 7 v = some h' ∧ OKM h' ∧ rd h' = up (rd h) 0 7 V := m_pI H rfl ev hr
theorem m_pI_12_74 {h : PH} (H : OKM h) {v : Int32} {V : Int} (ev : v = Z3 V) (hr : r3 V) : ∃ h', pI h 0 12 74 v = some h' ∧ OKM h' ∧ rd h' = up (rd h) 0 74 V := m_pI H rfl ev hr
theorem m_pI_12_75 {h : PH} (H : OKM h) {v : Int32} {V : Int} (ev : v = Z3 V) (hr : r3 V) : ∃ h', pI h 0 12 75 v = some h' ∧ OKM h' ∧ rd h' = up (rd h) 0 75 V := m_pI H rfl ev hr
theorem m_pI_12_78 {h : PH} (H : OKM h) {v : Int32} {V : Int} (ev : v = Z3 V) (hr : r3 V) : ∃ h', pI h 0 12 78 v = some h' ∧ OKM h' ∧ rd h' = up (rd h) 0 78 V := m_pI H rfl ev hr
theorem m_pI_12_8 {h : PH} (H : OKM h) {v : Int32} {V : Int} (ev : v = Z3 V) (hr : r3 V) : ∃ h', pI h 0 12 8 v = some h' ∧ OKM h' ∧ rd h' = up (rd h) 0 8 V := m_pI H rfl ev hr
theorem m_pI_12_82 {h : PH} (H : OKM h) {v : Int32} {V : Int} (ev : v = Z3 V) (hr : r3 V) : ∃ h', pI h 0 12 82 v = some h' ∧ OKM h' ∧ rd h' = up (rd h) 0 82 V := m_pI H rfl ev hr
theorem m_pI_12_83 {h : PH} (H : OKM h) {v : Int32} {V : Int} (ev : v = Z3 V) (hr : r3 V) : ∃ h', pI h 0 12 83 v = some h' ∧ OKM h' ∧ rd h' = up (rd h) 0 83 V := m_pI H rfl ev hr
theorem m_pI_12_84 {h : PH} (H : OKM h) {v : Int32} {V : Int} (ev : v = Z3 V) (hr : r3 V) : ∃ h', pI h 0 12 84 v = some h' ∧ OKM h' ∧ rd h' = up (rd h) 0 84 V := m_pI H rfl ev hr
theorem m_pI_12_85 {h : PH} (H : OKM h) {v : Int32} {V : Int} (ev : v = Z3 V) (hr : r3 V) : ∃ h', pI h 0 12 85 v = some h' ∧ OKM h' ∧ rd h' = up (rd h) 0 85 V := m_pI H rfl ev hr
theorem m_pI_12_9 {h : PH} (H : OKM h) {v : Int32} {V : Int} (ev : v = Z3 V) (hr : r3 V) : ∃ h', pI h 0 12 9 v = some h' ∧ OKM h' ∧ rd h' = up (rd h) 0 9 V := m_pI H rfl ev hr
theorem x_pI_2_1 {h : PH} (H : OKX h) {a : Nat} (ha : A2 a) {v : Int32} {V : Int} (ev : v = Z3 V) (hr : r3 V) : ∃ h', pI h a 2 1 v = some h' ∧ OKX h' ∧ rd h' = up (rd h) a 1 V := x_pI H (by rcases ha with rfl | rfl | rfl | rfl | rfl | rfl <;> rfl) (by rcases ha with rfl | rfl | rfl | rfl | rfl | rfl <;> simp [nrx]) ev hr
theorem x_pI_3_0 {h : PH} (H : OKX h) {v : Int32} {V : Int} (ev : v = Z3 V) (hr : r3 V) : ∃ h', pI h 90 3 0 v = some h' ∧ OKX h' ∧ rd h' = up (rd h) 90 0 V := x_pI H rfl (by simp [nrx]) ev hr
theorem x_pI_3_1 {h : PH} (H : OKX h) {v : Int32} {V : Int} (ev : v = Z3 V) (hr : r3 V) : ∃ h', pI h 90 3 1 v = some h' ∧ OKX h' ∧ rd h' = up (rd h) 90 1 V := x_pI H rfl (by simp [nrx]) ev hr
theorem x_pI_4_0 {h : PH} (H : OKX h) {a : Nat} (ha : A4 a) {v : Int32} {V : Int} (ev : v = Z3 V) (hr : r3 V) : ∃ h', pI h a 4 0 v = some h' ∧ OKX h' ∧ rd h' = up (rd h) a 0 V := x_pI H (by rcases ha with rfl | rfl | rfl <;> rfl) (by rcases ha with rfl | rfl | rfl <;> simp [nrx]) ev hr
theorem x_pI_4_1 {h : PH} (H : OKX h) {a : Nat} (ha : A4 a) {v : Int32} {V : Int} (ev : v = Z3 V) (hr : r3 V) : ∃ h', pI h a 4 1 v = some h' ∧ OKX h' ∧ rd h' = up (rd h) a 1 V := x_pI H (by rcases ha with rfl | rfl | rfl <;> rfl) (by rcases ha with rfl | rfl | rfl <;> simp [nrx]) ev hr
theorem x_pI_4_2 {h : PH} (H : OKX h) {a : Nat} (ha : A4 a) {v : Int32} {V : Int} (ev : v = Z3 V) (hr : r3 V) : ∃ h', pI h a 4 2 v = some h' ∧ OKX h' ∧ rd h' = up (rd h) a 2 V := x_pI H (by rcases ha with rfl | rfl | rfl <;> rfl) (by rcases ha with rfl | rfl | rfl <;> simp [nrx]) ev hr
theorem x_pI_4_3 {h : PH} (H : OKX h) {a : Nat} (ha : A4 a) {v : Int32} {V : Int} (ev : v = Z3 V) (hr : r3 V) : ∃ h', pI h a 4 3 v = some h' ∧ OKX h' ∧ rd h' = up (rd h) a 3 V := x_pI H (by rcases ha with rfl | rfl | rfl <;> rfl) (by rcases ha with rfl | rfl | rfl <;> simp [nrx]) ev hr
theorem x_pI_4_4 {h : PH} (H : OKX h) {a : Nat} (ha : A4 a) {v : Int32} {V : Int} (ev : v = Z3 V) (hr : r3 V) : ∃ h', pI h a 4 4 v = some h' ∧ OKX h' ∧ rd h' = up (rd h) a 4 V := x_pI H (by rcases ha with rfl | rfl | rfl <;> rfl) (by rcases ha with rfl | rfl | rfl <;> simp [nrx]) ev hr
theorem x_pI_5_2 {h : PH} (H : OKX h) {v : Int32} {V : Int} (ev : v = Z3 V) (hr : r3 V) : ∃ h', pI h 46 5 2 v = some h' ∧ OKX h' ∧ rd h' = up (rd h) 46 2 V := x_pI H rfl (by simp [nrx]) ev hr
theorem x_pI_5_3 {h : PH} (H : OKX h) {v : Int32} {V : Int} (ev : v = Z3 V) (hr : r3 V) : ∃ h', pI h 46 5 3 v = some h' ∧ OKX h' ∧ rd h' = up (rd h) 46 3 V := x_pI H rfl (by simp [nrx]) ev hr
theorem x_pI_5_6 {h : PH} (H : OKX h) {v : Int32} {V : Int} (ev : v = Z3 V) (hr : r3 V) : ∃ h', pI h 46 5 6 v = some h' ∧ OKX h' ∧ rd h' = up (rd h) 46 6 V := x_pI H rfl (by simp [nrx]) ev hr
theorem x_pI_5_8 {h : PH} (H : OKX h) {v : Int32} {V : Int} (ev : v = Z3 V) (hr : r3 V) : ∃ h', pI h 46 5 8 v = some h' ∧ OKX h' ∧ rd h' = up (rd h) 46 8 V := x_pI H rfl (by simp [nrx]) ev hr
theorem x_pI_5_9 {h : PH} (H : OKX h) {v : Int32} {V : Int} (ev : v = Z3 V) (hr : r3 V) : ∃ h', pI h 46 5 9 v = some h' ∧ OKX h' ∧ rd h' = up (rd h) 46 9 V := x_pI H rfl (by simp [nrx]) ev hr
theorem x_pI_7_2 {h : PH} (H : OKX h) {v : Int32} {V : Int} (ev : v = Z3 V) (hr : r3 V) : ∃ h', pI h 47 7 2 v = some h' ∧ OKX h' ∧ rd h' = up (rd h) 47 2 V := x_pI H rfl (by simp [nrx]) ev hr
theorem x_pI_7_3 {h : PH} (H : OKX h) {v : Int32} {V : Int} (ev : v = Z3 V) (hr : r3 V) : ∃ h', pI h 47 7 3 v = some h' ∧ OKX h' ∧ rd h' = up (rd h) 47 3 V := x_pI H rfl (by simp [nrx]) ev hr
theorem x_pI_7_4 {h : PH} (H : OKX h) {v : Int32} {V : Int} (ev : v = Z3 V) (hr : r3 V) : ∃ h', pI h 47 7 4 v = some h' ∧ OKX h' ∧ rd h' = up (rd h) 47 4 V := x_pI H rfl (by simp [nrx]) ev hr
theorem x_pI_7_5 {h : PH} (H : OKX h) {v : Int32} {V : Int} (ev : v = Z3 V) (hr : r3 V) : ∃ h', pI h 47 7 5 v = some h' ∧ OKX h' ∧ rd h' = up (rd h) 47 5 V := x_pI H rfl (by simp [nrx]) ev hr
theorem x_pI_7_6 {h : PH} (H : OKX h) {v : Int32} {V : Int} (ev : v = Z3 V) (hr : r3 V) : ∃ h', pI h 47 7 6 v = some h' ∧ OKX h' ∧ rd h' = up (rd h) 47 6 V := x_pI H rfl (by simp [nrx]) ev hr
theorem x_pI_8_0 {h : PH} (H : OKX h) {a : Nat} (ha : A8 a) {v : Int32} {V : Int} (ev : v = Z3 V) (hr : r3 V) : ∃ h', pI h a 8 0 v = some h' ∧ OKX h' ∧ rd h' = up (rd h) a 0 V := x_pI H (by rcases ha with rfl | rfl <;> rfl) (by rcases ha with rfl | rfl <;> simp [nrx]) ev hr
theorem x_pI_8_1 {h : PH} (H : OKX h) {a : Nat} (ha : A8 a) {v : Int32} {V : Int} (ev : v = Z3 V) (hr : r3 V) : ∃ h', pI h a 8 1 v = some h' ∧ OKX h' ∧ rd h' = up (rd h) a 1 V := x_pI H (by rcases ha with rfl | rfl <;> rfl) (by rcases ha with rfl | rfl <;> simp [nrx]) ev hr
theorem x_pI_8_10 {h : PH} (H : OKX h) {a : Nat} (ha : A8 a) {v : Int32} {V : Int} (ev : v = Z3 V) (hr : r3 V) : ∃ h', pI h a 8 10 v = some h' ∧ OKX h' ∧ rd h' = up (rd h) a 10 V := x_pI H (by rcases ha with rfl | rfl <;> rfl) (by rcases ha with rfl | rfl <;> simp [nrx]) ev hr
theorem x_pI_8_12 {h : PH} (H : OKX h) {a : Nat} (ha : A8 a) {v : Int32} {V : Int} (ev : v = Z3 V) (hr : r3 V) : ∃ h', pI h a 8 12 v = some h' ∧ OKX h' ∧ rd h' = up (rd h) a 12 V := x_pI H (by rcases ha with rfl | rfl <;> rfl) (by rcases ha with rfl | rfl <;> simp [nrx]) ev hr
theorem x_pI_8_13 {h : PH} (H : OKX h) {a : Nat} (ha : A8 a) {v : Int32} {V : Int} (ev : v = Z3 V) (hr : r3 V) : ∃ h', pI h a 8 13 v = some h' ∧ OKX h' ∧ rd h' = up (rd h) a 13 V := x_pI H (by rcases ha with rfl | rfl <;> rfl) (by rcases ha with rfl | rfl <;> simp [nrx]) ev hr
theorem x_pI_8_2 {h : PH} (H : OKX h) {a : Nat} (ha : A8 a) {v : Int32} {V : Int} (ev : v = Z3 V) (hr : r3 V) : ∃ h', pI h a 8 2 v = some h' ∧ OKX h' ∧ rd h' = up (rd h) a 2 V := x_pI H (by rcases ha with rfl | rfl <;> rfl) (by rcases ha with rfl | rfl <;> simp [nrx]) ev hr
theorem x_pI_8_3 {h : PH} (H : OKX h) {a : Nat} (ha : A8 a) {v : Int32} {V : Int} (ev : v = Z3 V) (hr : r3 V) : ∃ h', pI h a 8 3 v = some h' ∧ OKX h' ∧ rd h' = up (rd h) a 3 V := x_pI H (by rcases ha with rfl | rfl <;> rfl) (by rcases ha with rfl | rfl <;> simp [nrx]) ev hr
theorem x_pI_8_6 {h : PH} (H : OKX h) {a : Nat} (ha : A8 a) {v : Int32} {V : Int} (ev : v = Z3 V) (hr : r3 V) : ∃ h', pI h a 8 6 v = some h' ∧ OKX h' ∧ rd h' = up (rd h) a 6 V := x_pI H (by rcases ha with rfl | rfl <;> rfl) (by rcases ha with rfl | rfl <;> simp [nrx]) ev hr
theorem x_pI_8_7 {h : PH} (H : OKX h) {a : Nat} (ha : A8 a) {v : Int32} {V : Int} (ev : v = Z3 V) (hr : r3 V) : ∃ h', pI h a 8 7 v = some h' ∧ OKX h' ∧ rd h' = up (rd h) a 7 V := x_pI H (by rcases ha with rfl | rfl <;> rfl) (by rcases ha with rfl | rfl <;> simp [nrx]) ev hr
theorem x_pI_8_8 {h : PH} (H : OKX h) {a : Nat} (ha : A8 a) {v : Int32} {V : Int} (ev : v = Z3 V) (hr : r3 V) : ∃ h', pI h a 8 8 v = some h' ∧ OKX h' ∧ rd h' = up (rd h) a 8 V := x_pI H (by rcases ha with rfl | rfl <;> rfl) (by rcases ha with rfl | rfl <;> simp [nrx]) ev hr
theorem x_pI_8_9 {h : PH} (H : OKX h) {a : Nat} (ha : A8 a) {v : Int32} {V : Int} (ev : v = Z3 V) (hr : r3 V) : ∃ h', pI h a 8 9 v = some h' ∧ OKX h' ∧ rd h' = up (rd h) a 9 V := x_pI H (by rcases ha with rfl | rfl <;> rfl) (by rcases ha with rfl | rfl <;> simp [nrx]) ev hr
theorem x_pI_9_0 {h : PH} (H : OKX h) {v : Int32} {V : Int} (ev : v = Z3 V) (hr : r3 V) : ∃ h', pI h 96 9 0 v = some h' ∧ OKX h' ∧ rd h' = up (rd h) 96 0 V := x_pI H rfl (by simp [nrx]) ev hr
theorem m_pJ_12_65 {h : PH} (H : OKM h) {v : Int64} {V : Int} (ev : v = Z6 V) (hr : r6 V) : ∃ h', pJ h 0 12 65 v = some h' ∧ OKM h' ∧ rd h' = up (rd h) 0 65 V := m_pJ H rfl ev hr
theorem m_pJ_12_86 {h : PH} (H : OKM h) {v : Int64} {V : Int} (ev : v = Z6 V) (hr : r6 V) : ∃ h', pJ h 0 12 86 v = some h' ∧ OKM h' ∧ rd h' = up (rd h) 0 86 V := m_pJ H rfl ev hr
-- pR 11 3
-- pR 11 4
-- pR 5 10
-- pR 6 0
-- pR 7 1
theorem x_pZ_11_10 {h : PH} (H : OKX h) {v : Int32} {V : Int} (ev : v = Z3 V) (hr : V = 0 ∨ V = 1) : ∃ h', pZ h 0 11 10 v = some h' ∧ OKX h' ∧ rd h' = up (rd h) 0 10 V := x_pZ H rfl (by simp [nrx]) ev hr
theorem m_pZ_12_24 {h : PH} (H : OKM h) {v : Int32} {V : Int} (ev : v = Z3 V) (hr : V = 0 ∨ V = 1) : ∃ h', pZ h 0 12 24 v = some h' ∧ OKM h' ∧ rd h' = up (rd h) 0 24 V := m_pZ H rfl ev hr
theorem m_pZ_12_50 {h : PH} (H : OKM h) {v : Int32} {V : Int} (ev : v = Z3 V) (hr : V = 0 ∨ V = 1) : ∃ h', pZ h 0 12 50 v = some h' ∧ OKM h' ∧ rd h' = up (rd h) 0 50 V := m_pZ H rfl ev hr
theorem m_pZ_12_51 {h : PH} (H : OKM h) {v : Int32} {V : Int} (ev : v = Z3 V) (hr : V = 0 ∨ V = 1) : ∃ h', pZ h 0 12 51 v = some h' ∧ OKM h' ∧ rd h' = up (rd h) 0 51 V := m_pZ H rfl ev hr
theorem m_pZ_12_54 {h : PH} (H : OKM h) {v : Int32} {V : Int} (ev : v = Z3 V) (hr : V = 0 ∨ V = 1) : ∃ h', pZ h 0 12 54 v = some h' ∧ OKM h' ∧ rd h' = up (rd h) 0 54 V := m_pZ H rfl ev hr
theorem m_pZ_12_80 {h : PH} (H : OKM h) {v : Int32} {V : Int} (ev : v = Z3 V) (hr : V = 0 ∨ V = 1) : ∃ h', pZ h 0 12 80 v = some h' ∧ OKM h' ∧ rd h' = up (rd h) 0 80 V := m_pZ H rfl ev hr
theorem x_pZ_2_2 {h : PH} (H : OKX h) {a : Nat} (ha : A2 a) {v : Int32} {V : Int} (ev : v = Z3 V) (hr : V = 0 ∨ V = 1) : ∃ h', pZ h a 2 2 v = some h' ∧ OKX h' ∧ rd h' = up (rd h) a 2 V := x_pZ H (by rcases ha with rfl | rfl | rfl | rfl | rfl | rfl <;> rfl) (by rcases ha with rfl | rfl | rfl | rfl | rfl | rfl <;> simp [nrx]) ev hr
theorem x_pZ_5_4 {h : PH} (H : OKX h) {v : Int32} {V : Int} (ev : v = Z3 V) (hr : V = 0 ∨ V = 1) : ∃ h', pZ h 46 5 4 v = some h' ∧ OKX h' ∧ rd h' = up (rd h) 46 4 V := x_pZ H rfl (by simp [nrx]) ev hr
theorem x_pZ_5_5 {h : PH} (H : OKX h) {v : Int32} {V : Int} (ev : v = Z3 V) (hr : V = 0 ∨ V = 1) : ∃ h', pZ h 46 5 5 v = some h' ∧ OKX h' ∧ rd h' = up (rd h) 46 5 V := x_pZ H rfl (by simp [nrx]) ev hr
theorem x_pZ_5_7 {h : PH} (H : OKX h) {v : Int32} {V : Int} (ev : v = Z3 V) (hr : V = 0 ∨ V = 1) : ∃ h', pZ h 46 5 7 v = some h' ∧ OKX h' ∧ rd h' = up (rd h) 46 7 V := x_pZ H rfl (by simp [nrx]) ev hr
theorem x_row_1_3 {h : PH} (H : OKX h) {a : Nat} (ha : R1_3 a) : cA (Sk h) a 1 = some 5 := by rw [H.1]; rcases ha with rfl | rfl <;> rfl
theorem x_row_1_5 {h : PH} (H : OKX h) {a : Nat} (ha : R1_5 a) : cA (Sk h) a 1 = some 5 := by rw [H.1]; rcases ha with rfl | rfl <;> rfl
theorem x_row_4_10 {h : PH} (H : OKX h) {a : Nat} (ha : R4_10 a) : cA (Sk h) a 1 = some 28 := by rw [H.1]; rcases ha with rfl | rfl | rfl <;> rfl
theorem x_row_4_5 {h : PH} (H : OKX h) {a : Nat} (ha : R4_5 a) : cA (Sk h) a 1 = some 5 := by rw [H.1]; rcases ha with rfl | rfl | rfl <;> rfl
theorem x_row_4_6 {h : PH} (H : OKX h) {a : Nat} (ha : R4_6 a) : cA (Sk h) a 1 = some 5 := by rw [H.1]; rcases ha with rfl | rfl | rfl <;> rfl
theorem x_row_4_7 {h : PH} (H : OKX h) {a : Nat} (ha : R4_7 a) : cA (Sk h) a 1 = some 5 := by rw [H.1]; rcases ha with rfl | rfl | rfl <;> rfl
theorem x_row_4_8 {h : PH} (H : OKX h) {a : Nat} (ha : R4_8 a) : cA (Sk h) a 1 = some 5 := by rw [H.1]; rcases ha with rfl | rfl | rfl <;> rfl
theorem x_row_4_9 {h : PH} (H : OKX h) {a : Nat} (ha : R4_9 a) : cA (Sk h) a 1 = some 5 := by rw [H.1]; rcases ha with rfl | rfl | rfl <;> rfl
theorem x_row_6_1 {h : PH} (H : OKX h) {a : Nat} (ha : R6_1 a) : cA (Sk h) a 1 = some 5 := by rw [H.1]; rcases ha with rfl | rfl <;> rfl
