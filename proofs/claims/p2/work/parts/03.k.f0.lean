/-! Fields and rows of both shapes (written by wip/gen/gx.py). -/
def A1 (a : Nat) : Prop := a = 3 ∨ a = 25
def A2 (a : Nat) : Prop := a = 18 ∨ a = 20 ∨ a = 22 ∨ a = 40 ∨ a = 42 ∨ a = 44
def A4 (a : Nat) : Prop := a = 69 ∨ a = 76 ∨ a = 83
def A6 (a : Nat) : Prop := a = 51 ∨ a = 60
def A8 (a : Nat) : Prop := a = 2 ∨ a = 24
def A10 (a : Nat) : Prop := a = 10 ∨ a = 32
def R1_1 (a : Nat) : Prop := a = 4 ∨ a = 26
def R1_2 (a : Nat) : Prop := a = 5 ∨ a = 27
def R1_3 (a : Nat) : Prop := a = 6 ∨ a = 28
def R1_4 (a : Nat) : Prop := a = 7 ∨ a = 29
def R1_5 (a : Nat) : Prop := a = 8 ∨ a = 30
def R1_6 (a : Nat) : Prop := a = 9 ∨ a = 31
def R2_0 (a : Nat) : Prop := a = 19 ∨ a = 21 ∨ a = 23 ∨ a = 41 ∨ a = 43 ∨ a = 45
def R4_5 (a : Nat) : Prop := a = 70 ∨ a = 77 ∨ a = 84
def R4_6 (a : Nat) : Prop := a = 71 ∨ a = 78 ∨ a = 85
def R4_7 (a : Nat) : Prop := a = 72 ∨ a = 79 ∨ a = 86
def R4_8 (a : Nat) : Prop := a = 73 ∨ a = 80 ∨ a = 87
def R4_9 (a : Nat) : Prop := a = 74 ∨ a = 81 ∨ a = 88
def R4_10 (a : Nat) : Prop := a = 75 ∨ a = 82 ∨ a = 89
def R6_1 (a : Nat) : Prop := a = 52 ∨ a = 61
def R6_2 (a : Nat) : Prop := a = 53 ∨ a = 62
def R6_3 (a : Nat) : Prop := a = 54 ∨ a = 63
def R6_4 (a : Nat) : Prop := a = 55 ∨ a = 64
def R6_5 (a : Nat) : Prop := a = 56 ∨ a = 65
def R6_6 (a : Nat) : Prop := a = 57 ∨ a = 66
def R6_7 (a : Nat) : Prop := a = 58 ∨ a = 67
def R6_8 (a : Nat) : Prop := a = 59 ∨ a = 68
def R8_11 (a : Nat) : Prop := a = 17 ∨ a = 39
def R10_2 (a : Nat) : Prop := a = 11 ∨ a = 33
def R10_3 (a : Nat) : Prop := a = 12 ∨ a = 34
def R10_4 (a : Nat) : Prop := a = 13 ∨ a = 35
def R10_5 (a : Nat) : Prop := a = 14 ∨ a = 36
def R10_6 (a : Nat) : Prop := a = 15 ∨ a = 37
def R10_7 (a : Nat) : Prop := a = 16 ∨ a = 38
theorem p1_3 : A1 3 := by simp [A1]
theorem p1_25 : A1 25 := by simp [A1]
theorem p2_18 : A2 18 := by simp [A2]
theorem p2_20 : A2 20 := by simp [A2]
theorem p2_22 : A2 22 := by simp [A2]
theorem p2_40 : A2 40 := by simp [A2]
theorem p2_42 : A2 42 := by simp [A2]
theorem p2_44 : A2 44 := by simp [A2]
theorem p4_69 : A4 69 := by simp [A4]
theorem p4_76 : A4 76 := by simp [A4]
theorem p4_83 : A4 83 := by simp [A4]
theorem p6_51 : A6 51 := by simp [A6]
theorem p6_60 : A6 60 := by simp [A6]
theorem p8_2 : A8 2 := by simp [A8]
theorem p8_24 : A8 24 := by simp [A8]
theorem p10_10 : A10 10 := by simp [A10]
theorem p10_32 : A10 32 := by simp [A10]
def ABy (a : Nat) : Prop := a = 49 ∨ a = 1
def SKX (t d r b s o : Nat) : List (Nat × Nat × List Nat) := [(0, 11, [4, 0, 49, t + 3, d + 3, 54, 63, 72, 79, 86, 0, 93, 99, 102]), (6, 700, []), (0, 8, [0, 0, 0, 0, 6, 13, 0, 0, 0, 0, 0, 20, 0, 0]), (0, 1, [0, 7, 8, 9, 10, 11, 12]), (1, 5, []), (1, 5, []), (1, 5, []), (1, 5, []), (1, 5, []), (1, 5, []), (0, 10, [0, 0, 14, 15, 16, 17, 18, 19]), (1, 4, []), (1, 4, []), (1, 28, []), (1, 28, []), (1, 28, []), (1, 28, []), (25, 3, [21, 23, 25]), (0, 2, [22, 0, 0]), (1, 64, []), (0, 2, [24, 0, 0]), (1, 64, []), (0, 2, [26, 0, 0]), (1, 64, []), (0, 8, [0, 0, 0, 0, 28, 35, 0, 0, 0, 0, 0, 42, 0, 0]), (0, 1, [0, 29, 30, 31, 32, 33, 34]), (1, 5, []), (1, 5, []), (1, 5, []), (1, 5, []), (1, 5, []), (1, 5, []), (0, 10, [0, 0, 36, 37, 38, 39, 40, 41]), (1, 4, []), (1, 4, []), (1, 28, []), (1, 28, []), (1, 28, []), (1, 28, []), (25, 3, [43, 45, 47]), (0, 2, [44, 0, 0]), (1, 64, []), (0, 2, [46, 0, 0]), (1, 64, []), (0, 2, [48, 0, 0]), (1, 64, []), (0, 5, [50, 53, 0, 0, 0, 0, 0, 0, 0, 0, r + 3]), (0, 7, [51, b + 3, 0, 0, 0, 0, 0]), (1, 24, []), (6, 0, []), (1, 72, []), (0, 6, [s + 3, 55, 56, 57, 58, 59, 60, 61, 62]), (1, 5, []), (1, 5, []), (1, 28, []), (17, 6, []), (17, 64, []), (1, 5, []), (1, 5, []), (1, 5, []), (0, 6, [o + 3, 64, 65, 66, 67, 68, 69, 70, 71]), (1, 5, []), (1, 5, []), (1, 28, []), (17, 6, []), (17, 64, []), (1, 5, []), (1, 5, []), (1, 5, []), (0, 4, [0, 0, 0, 0, 0, 73, 74, 75, 76, 77, 78]), (1, 5, []), (1, 5, []), (1, 5, []), (1, 5, []), (1, 5, []), (1, 28, []), (0, 4, [0, 0, 0, 0, 0, 80, 81, 82, 83, 84, 85]), (1, 5, []), (1, 5, []), (1, 5, []), (1, 5, []), (1, 5, []), (1, 28, []), (0, 4, [0, 0, 0, 0, 0, 87, 88, 89, 90, 91, 92]), (1, 5, []), (1, 5, []), (1, 5, []), (1, 5, []), (1, 5, []), (1, 28, []), (0, 3, [0, 0, 94, 95, 96, 97, 98]), (1, 24, []), (1, 24, []), (1, 24, []), (1, 24, []), (11, 24, []), (0, 9, [0, 100, 101]), (1, 20, []), (1, 20, []), (0, 0, [103, 104, 105, 106, 107, 108, 0, 109, 110, 111, 112, 0, 0]), (1, 10, []), (1, 280, []), (1, 280, []), (1, 25, []), (1, 25, []), (1, 25, []), (1, 29, []), (1, 28, []), (11, 28, []), (1, 28, [])]
def skx (m : Mem) : List (Nat × Nat × List Nat) := SKX (m 0 3).toNat (m 0 4).toNat (m 46 10).toNat (m 47 1).toNat (m 51 0).toNat (m 60 0).toNat
def vrx (m : Mem) : Prop := (A8 (m 0 3).toNat ∧ A8 (m 0 4).toNat ∧ A8 (m 46 10).toNat ∧ ABy (m 47 1).toNat ∧ A8 (m 51 0).toNat ∧ A8 (m 60 0).toNat) ∧ (0 ≤ m 0 3 ∧ 0 ≤ m 0 4 ∧ 0 ≤ m 46 10 ∧ 0 ≤ m 47 1 ∧ 0 ≤ m 51 0 ∧ 0 ≤ m 60 0)
def OKX (h : PH) : Prop := Sk h = skx (rd h) ∧ vrx (rd h)
def OKM (h : PH) : Prop := Sk h = SM
/-- no place of a reference that changes -/
def nrx (a : Nat) (k : Int) : Prop := ¬ (a = 0 ∧ k = 3) ∧ ¬ (a = 0 ∧ k = 4) ∧ ¬ (a = 46 ∧ k = 10) ∧ ¬ (a = 47 ∧ k = 1) ∧ ¬ (a = 51 ∧ k = 0) ∧ ¬ (a = 60 ∧ k = 0)
theorem up_n {m : Mem} {a : Nat} {k v : Int} {b : Nat} {j : Int} (h : ¬ (a = b ∧ k = j)) : up m a k v b j = m b j := if_neg (fun q => h ⟨q.1.symm, q.2.symm⟩)
theorem skx_e {m m' : Mem} (h1 : m' 0 3 = m 0 3) (h2 : m' 0 4 = m 0 4) (h3 : m' 46 10 = m 46 10) (h4 : m' 47 1 = m 47 1) (h5 : m' 51 0 = m 51 0) (h6 : m' 60 0 = m 60 0) : skx m' = skx m ∧ (vrx m → vrx m') := by
  unfold skx vrx
  rw [h1, h2, h3, h4, h5, h6]
  exact ⟨rfl, id⟩
theorem okx_w {h h' : PH} (H : OKX h) {a : Nat} {k v : Int} (hn : nrx a k) (e1 : Sk h' = Sk h) (e2 : rd h' = up (rd h) a k v) : OKX h' := by
  obtain ⟨n1, n2, n3, n4, n5, n6⟩ := hn
  have e := skx_e (m := rd h) (m' := up (rd h) a k v) (up_n n1) (up_n n2) (up_n n3) (up_n n4) (up_n n5) (up_n n6)
  refine ⟨?_, ?_⟩
  · rw [e1, e2, e.1]; exact H.1
  · rw [e2]; exact e.2 H.2
theorem x_pI {h : PH} (H : OKX h) {a ci k : Nat} (e : cF (skx (rd h)) a ci k = some 0) (hn : nrx a k) {v : Int32} {V : Int} (ev : v = Z3 V) (hr : r3 V) : ∃ h', pI h a ci k v = some h' ∧ OKX h' ∧ rd h' = up (rd h) a k V := by
  obtain ⟨h', e1, e2, e3⟩ := pI_rd (by rw [H.1]; exact e) ev hr
  exact ⟨h', e1, okx_w H hn e2 e3, e3⟩
theorem x_pZ {h : PH} (H : OKX h) {a ci k : Nat} (e : cF (skx (rd h)) a ci k = some 0) (hn : nrx a k) {v : Int32} {V : Int} (ev : v = Z3 V) (hr : V = 0 ∨ V = 1) : ∃ h', pZ h a ci k v = some h' ∧ OKX h' ∧ rd h' = up (rd h) a k V := by
  obtain ⟨h', e1, e2, e3⟩ := pZ_rd (by rw [H.1]; exact e) ev hr
  exact ⟨h', e1, okx_w H hn e2 e3, e3⟩
theorem x_sI {h : PH} (H : OKX h) {a t n : Nat} (e : cA (skx (rd h)) a (5 * t + 1) = some n) (hd : n < 2147483648) (hn : ∀ k, nrx a k) {i : Int32} {I : Int} (hi : i = Z3 I) (c : 0 ≤ I ∧ I < (n : Int)) {x : Int32} {X : Int} (hx : x = Z3 X) (hr : r3 X) : ∃ h', sI h a t i x = some h' ∧ OKX h' ∧ rd h' = up (rd h) a I X := by
  obtain ⟨h', e1, e2, e3⟩ := sI_rd (by rw [H.1]; exact e) hd hi c hx hr
  exact ⟨h', e1, okx_w H (hn I) e2 e3, e3⟩
theorem x_sJ {h : PH} (H : OKX h) {a n : Nat} (e : cA (skx (rd h)) a 17 = some n) (hd : n < 2147483648) (hn : ∀ k, nrx a k) {i : Int32} {I : Int} (hi : i = Z3 I) (c : 0 ≤ I ∧ I < (n : Int)) {x : Int64} {X : Int} (hx : x = Z6 X) (hr : r6 X) : ∃ h', sJ h a i x = some h' ∧ OKX h' ∧ rd h' = up (rd h) a I X := by
  obtain ⟨h', e1, e2, e3⟩ := sJ_rd (by rw [H.1]; exact e) hd hi c hx hr
  exact ⟨h', e1, okx_w H (hn I) e2 e3, e3⟩
theorem nrx_row {a : Nat} (h : a ≠ 0 ∧ a ≠ 46 ∧ a ≠ 47 ∧ a ≠ 51 ∧ a ≠ 60) (k : Int) : nrx a k := ⟨fun q => h.1 q.1, fun q => h.1 q.1, fun q => h.2.1 q.1, fun q => h.2.2.1 q.1, fun q => h.2.2.2.1 q.1, fun q => h.2.2.2.2 q.1⟩
theorem x_cp {h : PH} (H : OKX h) {a a1 n n1 : Nat} (e0 : cA (Sk h) a 1 = some n) (e1 : cA (Sk h) a1 1 = some n1) {sp dp q : Int32} {SP DP Q : Int} (h1 : sp = Z3 SP) (h2 : dp = Z3 DP) (h3 : q = Z3 Q) (c : (0 ≤ SP ∧ 0 ≤ DP ∧ 0 ≤ Q) ∧ SP + Q ≤ (n : Int) ∧ DP + Q ≤ (n1 : Int)) (hn : n < 2147483648) (hn1 : n1 < 2147483648) (hr : a1 ≠ 0 ∧ a1 ≠ 46 ∧ a1 ≠ 47 ∧ a1 ≠ 51 ∧ a1 ≠ 60) : ∃ h', cpI h a sp a1 dp q = some h' ∧ OKX h' ∧ rd h' = cpy (rd h) a SP a1 DP Q := by
  obtain ⟨h', f1, f2, f3⟩ := cpI_rd e0 e1 h1 h2 h3 c hn hn1
  have nn : ∀ (b : Nat) (j : Int), b ≠ a1 → cpy (rd h) a SP a1 DP Q b j = rd h b j := fun b j hb => if_neg (fun q => hb q.1)
  have e := skx_e (m := rd h) (m' := cpy (rd h) a SP a1 DP Q) (nn 0 3 (Ne.symm hr.1)) (nn 0 4 (Ne.symm hr.1)) (nn 46 10 (Ne.symm hr.2.1)) (nn 47 1 (Ne.symm hr.2.2.1)) (nn 51 0 (Ne.symm hr.2.2.2.1)) (nn 60 0 (Ne.symm hr.2.2.2.2))
  refine ⟨h', f1, ⟨?_, ?_⟩, f3⟩
  · rw [f2, f3, e.1]; exact H.1
  · rw [f3]; exact e.2 H.2
theorem m_pI {h : PH} (H : OKM h) {a ci k : Nat} (e : cF SM a ci k = some 0) {v : Int32} {V : Int} (ev : v = Z3 V) (hr : r3 V) : ∃ h', pI h a ci k v = some h' ∧ OKM h' ∧ rd h' = up (rd h) a k V := by
  obtain ⟨h', e1, e2, e3⟩ := pI_rd (by rw [H]; exact e) ev hr
  exact ⟨h', e1, e2.trans H, e3⟩
theorem m_pZ {h : PH} (H : OKM h) {a ci k : Nat} (e : cF SM a ci k = some 0) {v : Int32} {V : Int} (ev : v = Z3 V) (hr : V = 0 ∨ V = 1) : ∃ h', pZ h a ci k v = some h' ∧ OKM h' ∧ rd h' = up (rd h) a k V := by
  obtain ⟨h', e1, e2, e3⟩ := pZ_rd (by rw [H]; exact e) ev hr
  exact ⟨h', e1, e2.trans H, e3⟩
theorem m_pJ {h : PH} (H : OKM h) {a ci k : Nat} (e : cF SM a ci k = some 1) {v : Int64} {V : Int} (ev : v = Z6 V) (hr : r6 V) : ∃ h', pJ h a ci k v = some h' ∧ OKM h' ∧ rd h' = up (rd h) a k V := by
  obtain ⟨h', e1, e2, e3⟩ := pJ_rd (by rw [H]; exact e) ev hr
  exact ⟨h', e1, e2.trans H, e3⟩
theorem m_sI {h : PH} (H : OKM h) {a t n : Nat} (e : cA SM a (5 * t + 1) = some n) (hd : n < 2147483648) {i : Int32} {I : Int} (hi : i = Z3 I) (c : 0 ≤ I ∧ I < (n : Int)) {x : Int32} {X : Int} (hx : x = Z3 X) (hr : r3 X) : ∃ h', sI h a t i x = some h' ∧ OKM h' ∧ rd h' = up (rd h) a I X := by
  obtain ⟨h', e1, e2, e3⟩ := sI_rd (by rw [H]; exact e) hd hi c hx hr
  exact ⟨h', e1, e2.trans H, e3⟩
theorem m_sJ {h : PH} (H : OKM h) {a n : Nat} (e : cA SM a 17 = some n) (hd : n < 2147483648) {i : Int32} {I : Int} (hi : i = Z3 I) (c : 0 ≤ I ∧ I < (n : Int)) {x : Int64} {X : Int} (hx : x = Z6 X) (hr : r6 X) : ∃ h', sJ h a i x = some h' ∧ OKM h' ∧ rd h' = up (rd h) a I X := by
  obtain ⟨h', e1, e2, e3⟩ := sJ_rd (by rw [H]; exact e) hd hi c hx hr
  exact ⟨h', e1, e2.trans H, e3⟩
theorem m_cp {h : PH} (H : OKM h) {a a1 n n1 : Nat} (e0 : cA (Sk h) a 1 = some n) (e1 : cA (Sk h) a1 1 = some n1) {sp dp q : Int32} {SP DP Q : Int} (h1 : sp = Z3 SP) (h2 : dp = Z3 DP) (h3 : q = Z3 Q) (c : (0 ≤ SP ∧ 0 ≤ DP ∧ 0 ≤ Q) ∧ SP + Q ≤ (n : Int) ∧ DP + Q ≤ (n1 : Int)) (hn : n < 2147483648) (hn1 : n1 < 2147483648) : ∃ h', cpI h a sp a1 dp q = some h' ∧ OKM h' ∧ rd h' = cpy (rd h) a SP a1 DP Q := by
  obtain ⟨h', f1, f2, f3⟩ := cpI_rd e0 e1 h1 h2 h3 c hn hn1
  exact ⟨h', f1, f2.trans H, f3⟩
/-- any row of ints of the reference -/
def AnyM (a : Nat) : Prop := ∃ n, cA SM a 1 = some n ∧ n < 2147483648
def lnM (a : Nat) : Int := ((cA SM a 1).getD 0 : Nat)
theorem m_aI_any {h : PH} (H : OKM h) {a : Nat} (ha : AnyM a) {i : Int32} {I : Int} (hi : i = Z3 I) (c : 0 ≤ I ∧ I < lnM a) : aI h a 0 i = some (Z3 (rd h a I)) ∧ r3 (rd h a I) := by
  obtain ⟨n, e, hn⟩ := ha
  refine aI_rd (t := 0) (by rw [H]; exact e) hn hi ?_
  unfold lnM at c
  rw [e] at c
  exact c
theorem m_sI_any {h : PH} (H : OKM h) {a : Nat} (ha : AnyM a) {i : Int32} {I : Int} (hi : i = Z3 I) (c : 0 ≤ I ∧ I < lnM a) {x : Int32} {X : Int} (hx : x = Z3 X) (hr : r3 X) : ∃ h', sI h a 0 i x = some h' ∧ OKM h' ∧ rd h' = up (rd h) a I X := by
  obtain ⟨n, e, hn⟩ := ha
  refine m_sI (t := 0) H e hn hi ?_ hx hr
  unfold lnM at c
  rw [e] at c
  exact c
theorem r3_div {A B : Int} (ha : r3 A) (hb : r3 B) (h : 0 ≤ A ∧ 0 < B) : r3 (A / B) := by
  have h1 := Int.ediv_nonneg h.1 (Int.le_of_lt h.2)
  have h2 := Int.ediv_le_self B h.1
  have := ha.2
  exact ⟨by omega, by omega⟩
theorem r3_rem {A B : Int} (ha : r3 A) (hb : r3 B) (h : 0 ≤ A ∧ 0 < B) : r3 (A % B) := by
  have h1 := Int.emod_nonneg A (by omega : B ≠ 0)
  have h2 := Int.emod_lt_of_pos A h.2
  have := hb.2
  exact ⟨by omega, by omega⟩
theorem r3_b {A : Int} (h : A = 0 ∨ A = 1) : r3 A := by rcases h with rfl | rfl <;> exact ⟨by decide, by decide⟩
/-- the ways of a game -/
def gw (x : Int) : Int := if x = 0 then 4 else x - 1
theorem gw_rd {i : Int32} {I : Int} (hi : i = Z3 I) (c : 0 ≤ I ∧ I < 5) : gwA i = some (Z3 (gw I)) ∧ r3 (gw I) := by
  subst hi
  have : I = 0 ∨ I = 1 ∨ I = 2 ∨ I = 3 ∨ I = 4 := by omega
  rcases this with rfl | rfl | rfl | rfl | rfl <;> exact ⟨by decide, by unfold r3; decide⟩
theorem ao_1_1 {a : Nat} (h : A1 a) : R1_1 (a + 1) := by rcases h with rfl | rfl <;> simp [R1_1]
theorem ao_1_2 {a : Nat} (h : A1 a) : R1_2 (a + 2) := by rcases h with rfl | rfl <;> simp [R1_2]
theorem ao_1_3 {a : Nat} (h : A1 a) : R1_3 (a + 3) := by rcases h with rfl | rfl <;> simp [R1_3]
theorem ao_1_4 {a : Nat} (h : A1 a) : R1_4 (a + 4) := by rcases h with rfl | rfl <;> simp [R1_4]
theorem ao_1_5 {a : Nat} (h : A1 a) : R1_5 (a + 5) := by rcases h with rfl | rfl <;> simp [R1_5]
theorem ao_1_6 {a : Nat} (h : A1 a) : R1_6 (a + 6) := by rcases h with rfl | rfl <;> simp [R1_6]
theorem ao_2_0 {a : Nat} (h : A2 a) : R2_0 (a + 1) := by rcases h with rfl | rfl | rfl | rfl | rfl | rfl <;> simp [R2_0]
theorem ao_4_5 {a : Nat} (h : A4 a) : R4_5 (a + 1) := by rcases h with rfl | rfl | rfl <;> simp [R4_5]
theorem ao_4_6 {a : Nat} (h : A4 a) : R4_6 (a + 2) := by rcases h with rfl | rfl | rfl <;> simp [R4_6]
theorem ao_4_7 {a : Nat} (h : A4 a) : R4_7 (a + 3) := by rcases h with rfl | rfl | rfl <;> simp [R4_7]
theorem ao_4_8 {a : Nat} (h : A4 a) : R4_8 (a + 4) := by rcases h with rfl | rfl | rfl <;> simp [R4_8]
theorem ao_4_9 {a : Nat} (h : A4 a) : R4_9 (a + 5) := by rcases h with rfl | rfl | rfl <;> simp [R4_9]
theorem ao_4_10 {a : Nat} (h : A4 a) : R4_10 (a + 6) := by rcases h with rfl | rfl | rfl <;> simp [R4_10]
theorem ao_6_1 {a : Nat} (h : A6 a) : R6_1 (a + 1) := by rcases h with rfl | rfl <;> simp [R6_1]
theorem ao_6_2 {a : Nat} (h : A6 a) : R6_2 (a + 2) := by rcases h with rfl | rfl <;> simp [R6_2]
theorem ao_6_3 {a : Nat} (h : A6 a) : R6_3 (a + 3) := by rcases h with rfl | rfl <;> simp [R6_3]
theorem ao_6_4 {a : Nat} (h : A6 a) : R6_4 (a + 4) := by rcases h with rfl | rfl <;> simp [R6_4]
theorem ao_6_5 {a : Nat} (h : A6 a) : R6_5 (a + 5) := by rcases h with rfl | rfl <;> simp [R6_5]
theorem ao_6_6 {a : Nat} (h : A6 a) : R6_6 (a + 6) := by rcases h with rfl | rfl <;> simp [R6_6]
theorem ao_6_7 {a : Nat} (h : A6 a) : R6_7 (a + 7) := by rcases h with rfl | rfl <;> simp [R6_7]
theorem ao_6_8 {a : Nat} (h : A6 a) : R6_8 (a + 8) := by rcases h with rfl | rfl <;> simp [R6_8]
theorem ao_8_4 {a : Nat} (h : A8 a) : A1 (a + 1) := by rcases h with rfl | rfl <;> simp [A1]
theorem ao_8_5 {a : Nat} (h : A8 a) : A10 (a + 8) := by rcases h with rfl | rfl <;> simp [A10]
theorem ao_8_11 {a : Nat} (h : A8 a) : R8_11 (a + 15) := by rcases h with rfl | rfl <;> simp [R8_11]
theorem ao_10_2 {a : Nat} (h : A10 a) : R10_2 (a + 1) := by rcases h with rfl | rfl <;> simp [R10_2]
theorem ao_10_3 {a : Nat} (h : A10 a) : R10_3 (a + 2) := by rcases h with rfl | rfl <;> simp [R10_3]
theorem ao_10_4 {a : Nat} (h : A10 a) : R10_4 (a + 3) := by rcases h with rfl | rfl <;> simp [R10_4]
theorem ao_10_5 {a : Nat} (h : A10 a) : R10_5 (a + 4) := by rcases h with rfl | rfl <;> simp [R10_5]
theorem ao_10_6 {a : Nat} (h : A10 a) : R10_6 (a + 5) := by rcases h with rfl | rfl <;> simp [R10_6]
theorem ao_10_7 {a : Nat} (h : A10 a) : R10_7 (a + 6) := by rcases h with rfl | rfl <;> simp [R10_7]
theorem x_aI_0_0 {h : PH} (H : OKX h) {i : Int32} {I : Int} (hi : i = Z3 I) (c : 0 ≤ I ∧ I < 10) : aI h 100 0 i = some (Z3 (rd h 100 I)) ∧ r3 (rd h 100 I) := aI_rd (t := 0) (n := 10) (by rw [H.1]; rfl) (by decide) hi c
theorem x_aI_0_1 {h : PH} (H : OKX h) {i : Int32} {I : Int} (hi : i = Z3 I) (c : 0 ≤ I ∧ I < 280) : aI h 101 0 i = some (Z3 (rd h 101 I)) ∧ r3 (rd h 101 I) := aI_rd (t := 0) (n := 280) (by rw [H.1]; rfl) (by decide) hi c
theorem x_aI_0_10 {h : PH} (H : OKX h) {i : Int32} {I : Int} (hi : i = Z3 I) (c : 0 ≤ I ∧ I < 28) : aI h 109 0 i = some (Z3 (rd h 109 I)) ∧ r3 (rd h 109 I) := aI_rd (t := 0) (n := 28) (by rw [H.1]; rfl) (by decide) hi c
theorem x_aI_0_2 {h : PH} (H : OKX h) {i : Int32} {I : Int} (hi : i = Z3 I) (c : 0 ≤ I ∧ I < 280) : aI h 102 0 i = some (Z3 (rd h 102 I)) ∧ r3 (rd h 102 I) := aI_rd (t := 0) (n := 280) (by rw [H.1]; rfl) (by decide) hi c
theorem x_aI_0_3 {h : PH} (H : OKX h) {i : Int32} {I : Int} (hi : i = Z3 I) (c : 0 ≤ I ∧ I < 25) : aI h 103 0 i = some (Z3 (rd h 103 I)) ∧ r3 (rd h 103 I) := aI_rd (t := 0) (n := 25) (by rw [H.1]; rfl) (by decide) hi c
theorem x_aI_0_4 {h : PH} (H : OKX h) {i : Int32} {I : Int} (hi : i = Z3 I) (c : 0 ≤ I ∧ I < 25) : aI h 104 0 i = some (Z3 (rd h 104 I)) ∧ r3 (rd h 104 I) := aI_rd (t := 0) (n := 25) (by rw [H.1]; rfl) (by decide) hi c
theorem x_aI_0_5 {h : PH} (H : OKX h) {i : Int32} {I : Int} (hi : i = Z3 I) (c : 0 ≤ I ∧ I < 25) : aI h 105 0 i = some (Z3 (rd h 105 I)) ∧ r3 (rd h 105 I) := aI_rd (t := 0) (n := 25) (by rw [H.1]; rfl) (by decide) hi c
theorem x_aI_0_7 {h : PH} (H : OKX h) {i : Int32} {I : Int} (hi : i = Z3 I) (c : 0 ≤ I ∧ I < 29) : aI h 106 0 i = some (Z3 (rd h 106 I)) ∧ r3 (rd h 106 I) := aI_rd (t := 0) (n := 29) (by rw [H.1]; rfl) (by decide) hi c
theorem x_aI_0_8 {h : PH} (H : OKX h) {i : Int32} {I : Int} (hi : i = Z3 I) (c : 0 ≤ I ∧ I < 28) : aI h 107 0 i = some (Z3 (rd h 107 I)) ∧ r3 (rd h 107 I) := aI_rd (t := 0) (n := 28) (by rw [H.1]; rfl) (by decide) hi c
theorem x_aI_0_9 {h : PH} (H : OKX h) {i : Int32} {I : Int} (hi : i = Z3 I) (c : 0 ≤ I ∧ I < 28) : aI h 108 2 i = some (Z3 (rd h 108 I)) ∧ r3 (rd h 108 I) := aI_rd (t := 2) (n := 28) (by rw [H.1]; rfl) (by decide) hi c
theorem x_aI_1_1 {h : PH} (H : OKX h) {a : Nat} (ha : R1_1 a) {i : Int32} {I : Int} (hi : i = Z3 I) (c : 0 ≤ I ∧ I < 5) : aI h a 0 i = some (Z3 (rd h a I)) ∧ r3 (rd h a I) := aI_rd (t := 0) (n := 5) (by rw [H.1]; rcases ha with rfl | rfl <;> rfl) (by decide) hi c
theorem x_aI_1_2 {h : PH} (H : OKX h) {a : Nat} (ha : R1_2 a) {i : Int32} {I : Int} (hi : i = Z3 I) (c : 0 ≤ I ∧ I < 5) : aI h a 0 i = some (Z3 (rd h a I)) ∧ r3 (rd h a I) := aI_rd (t := 0) (n := 5) (by rw [H.1]; rcases ha with rfl | rfl <;> rfl) (by decide) hi c
theorem x_aI_1_4 {h : PH} (H : OKX h) {a : Nat} (ha : R1_4 a) {i : Int32} {I : Int} (hi : i = Z3 I) (c : 0 ≤ I ∧ I < 5) : aI h a 0 i = some (Z3 (rd h a I)) ∧ r3 (rd h a I) := aI_rd (t := 0) (n := 5) (by rw [H.1]; rcases ha with rfl | rfl <;> rfl) (by decide) hi c
theorem x_aI_1_6 {h : PH} (H : OKX h) {a : Nat} (ha : R1_6 a) {i : Int32} {I : Int} (hi : i = Z3 I) (c : 0 ≤ I ∧ I < 5) : aI h a 0 i = some (Z3 (rd h a I)) ∧ r3 (rd h a I) := aI_rd (t := 0) (n := 5) (by rw [H.1]; rcases ha with rfl | rfl <;> rfl) (by decide) hi c
theorem x_aI_10_2 {h : PH} (H : OKX h) {a : Nat} (ha : R10_2 a) {i : Int32} {I : Int} (hi : i = Z3 I) (c : 0 ≤ I ∧ I < 4) : aI h a 0 i = some (Z3 (rd h a I)) ∧ r3 (rd h a I) := aI_rd (t := 0) (n := 4) (by rw [H.1]; rcases ha with rfl | rfl <;> rfl) (by decide) hi c
theorem x_aI_10_3 {h : PH} (H : OKX h) {a : Nat} (ha : R10_3 a) {i : Int32} {I : Int} (hi : i = Z3 I) (c : 0 ≤ I ∧ I < 4) : aI h a 0 i = some (Z3 (rd h a I)) ∧ r3 (rd h a I) := aI_rd (t := 0) (n := 4) (by rw [H.1]; rcases ha with rfl | rfl <;> rfl) (by decide) hi c
theorem x_aI_10_4 {h : PH} (H : OKX h) {a : Nat} (ha : R10_4 a) {i : Int32} {I : Int} (hi : i = Z3 I) (c : 0 ≤ I ∧ I < 28) : aI h a 0 i = some (Z3 (rd h a I)) ∧ r3 (rd h a I) := aI_rd (t := 0) (n := 28) (by rw [H.1]; rcases ha with rfl | rfl <;> rfl) (by decide) hi c
theorem x_aI_10_5 {h : PH} (H : OKX h) {a : Nat} (ha : R10_5 a) {i : Int32} {I : Int} (hi : i = Z3 I) (c : 0 ≤ I ∧ I < 28) : aI h a 0 i = some (Z3 (rd h a I)) ∧ r3 (rd h a I) := aI_rd (t := 0) (n := 28) (by rw [H.1]; rcases ha with rfl | rfl <;> rfl) (by decide) hi c
theorem x_aI_10_6 {h : PH} (H : OKX h) {a : Nat} (ha : R10_6 a) {i : Int32} {I : Int} (hi : i = Z3 I) (c : 0 ≤ I ∧ I < 28) : aI h a 0 i = some (Z3 (rd h a I)) ∧ r3 (rd h a I) := aI_rd (t := 0) (n := 28) (by rw [H.1]; rcases ha with rfl | rfl <;> rfl) (by decide) hi c
theorem x_aI_10_7 {h : PH} (H : OKX h) {a : Nat} (ha : R10_7 a) {i : Int32} {I : Int} (hi : i = Z3 I) (c : 0 ≤ I ∧ I < 28) : aI h a 0 i = some (Z3 (rd h a I)) ∧ r3 (rd h a I) := aI_rd (t := 0) (n := 28) (by rw [H.1]; rcases ha with rfl | rfl <;> rfl) (by decide) hi c
theorem m_aI_12_0 {h : PH} (H : OKM h) {i : Int32} {I : Int} (hi : i = Z3 I) (c : 0 ≤ I ∧ I < 700) : aI h 1 0 i = some (Z3 (rd h 1 I)) ∧ r3 (rd h 1 I) := aI_rd (t := 0) (n := 700) (by rw [H]; rfl) (by decide) hi c
theorem m_aI_12_25 {h : PH} (H : OKM h) {i : Int32} {I : Int} (hi : i = Z3 I) (c : 0 ≤ I ∧ I < 5) : aI h 3 2 i = some (Z3 (rd h 3 I)) ∧ r3 (rd h 3 I) := aI_rd (t := 2) (n := 5) (by rw [H]; rfl) (by decide) hi c
theorem m_aI_12_26 {h : PH} (H : OKM h) {i : Int32} {I : Int} (hi : i = Z3 I) (c : 0 ≤ I ∧ I < 14) : aI h 4 0 i = some (Z3 (rd h 4 I)) ∧ r3 (rd h 4 I) := aI_rd (t := 0) (n := 14) (by rw [H]; rfl) (by decide) hi c
theorem m_aI_12_27 {h : PH} (H : OKM h) {i : Int32} {I : Int} (hi : i = Z3 I) (c : 0 ≤ I ∧ I < 10) : aI h 5 0 i = some (Z3 (rd h 5 I)) ∧ r3 (rd h 5 I) := aI_rd (t := 0) (n := 10) (by rw [H]; rfl) (by decide) hi c
theorem m_aI_12_28 {h : PH} (H : OKM h) {i : Int32} {I : Int} (hi : i = Z3 I) (c : 0 ≤ I ∧ I < 10) : aI h 6 0 i = some (Z3 (rd h 6 I)) ∧ r3 (rd h 6 I) := aI_rd (t := 0) (n := 10) (by rw [H]; rfl) (by decide) hi c
theorem m_aI_12_29 {h : PH} (H : OKM h) {i : Int32} {I : Int} (hi : i = Z3 I) (c : 0 ≤ I ∧ I < 10) : aI h 7 0 i = some (Z3 (rd h 7 I)) ∧ r3 (rd h 7 I) := aI_rd (t := 0) (n := 10) (by rw [H]; rfl) (by decide) hi c
theorem m_aI_12_3 {h : PH} (H : OKM h) {i : Int32} {I : Int} (hi : i = Z3 I) (c : 0 ≤ I ∧ I < 120) : aI h 2 0 i = some (Z3 (rd h 2 I)) ∧ r3 (rd h 2 I) := aI_rd (t := 0) (n := 120) (by rw [H]; rfl) (by decide) hi c
theorem m_aI_12_30 {h : PH} (H : OKM h) {i : Int32} {I : Int} (hi : i = Z3 I) (c : 0 ≤ I ∧ I < 10) : aI h 8 0 i = some (Z3 (rd h 8 I)) ∧ r3 (rd h 8 I) := aI_rd (t := 0) (n := 10) (by rw [H]; rfl) (by decide) hi c
theorem m_aI_12_31 {h : PH} (H : OKM h) {i : Int32} {I : Int} (hi : i = Z3 I) (c : 0 ≤ I ∧ I < 10) : aI h 9 0 i = some (Z3 (rd h 9 I)) ∧ r3 (rd h 9 I) := aI_rd (t := 0) (n := 10) (by rw [H]; rfl) (by decide) hi c
theorem m_aI_12_32 {h : PH} (H : OKM h) {i : Int32} {I : Int} (hi : i = Z3 I) (c : 0 ≤ I ∧ I < 10) : aI h 10 0 i = some (Z3 (rd h 10 I)) ∧ r3 (rd h 10 I) := aI_rd (t := 0) (n := 10) (by rw [H]; rfl) (by decide) hi c
theorem m_aI_12_33 {h : PH} (H : OKM h) {i : Int32} {I : Int} (hi : i = Z3 I) (c : 0 ≤ I ∧ I < 8) : aI h 11 0 i = some (Z3 (rd h 11 I)) ∧ r3 (rd h 11 I) := aI_rd (t := 0) (n := 8) (by rw [H]; rfl) (by decide) hi c
theorem m_aI_12_34 {h : PH} (H : OKM h) {i : Int32} {I : Int} (hi : i = Z3 I) (c : 0 ≤ I ∧ I < 56) : aI h 12 0 i = some (Z3 (rd h 12 I)) ∧ r3 (rd h 12 I) := aI_rd (t := 0) (n := 56) (by rw [H]; rfl) (by decide) hi c
theorem m_aI_12_35 {h : PH} (H : OKM h) {i : Int32} {I : Int} (hi : i = Z3 I) (c : 0 ≤ I ∧ I < 56) : aI h 13 0 i = some (Z3 (rd h 13 I)) ∧ r3 (rd h 13 I) := aI_rd (t := 0) (n := 56) (by rw [H]; rfl) (by decide) hi c
theorem m_aI_12_36 {h : PH} (H : OKM h) {i : Int32} {I : Int} (hi : i = Z3 I) (c : 0 ≤ I ∧ I < 56) : aI h 14 0 i = some (Z3 (rd h 14 I)) ∧ r3 (rd h 14 I) := aI_rd (t := 0) (n := 56) (by rw [H]; rfl) (by decide) hi c
theorem m_aI_12_37 {h : PH} (H : OKM h) {i : Int32} {I : Int} (hi : i = Z3 I) (c : 0 ≤ I ∧ I < 6) : aI h 15 2 i = some (Z3 (rd h 15 I)) ∧ r3 (rd h 15 I) := aI_rd (t := 2) (n := 6) (by rw [H]; rfl) (by decide) hi c
theorem m_aI_12_38 {h : PH} (H : OKM h) {i : Int32} {I : Int} (hi : i = Z3 I) (c : 0 ≤ I ∧ I < 6) : aI h 16 0 i = some (Z3 (rd h 16 I)) ∧ r3 (rd h 16 I) := aI_rd (t := 0) (n := 6) (by rw [H]; rfl) (by decide) hi c
theorem m_aI_12_39 {h : PH} (H : OKM h) {i : Int32} {I : Int} (hi : i = Z3 I) (c : 0 ≤ I ∧ I < 6) : aI h 17 0 i = some (Z3 (rd h 17 I)) ∧ r3 (rd h 17 I) := aI_rd (t := 0) (n := 6) (by rw [H]; rfl) (by decide) hi c
theorem m_aI_12_40 {h : PH} (H : OKM h) {i : Int32} {I : Int} (hi : i = Z3 I) (c : 0 ≤ I ∧ I < 128) : aI h 18 0 i = some (Z3 (rd h 18 I)) ∧ r3 (rd h 18 I) := aI_rd (t := 0) (n := 128) (by rw [H]; rfl) (by decide) hi c
theorem m_aI_12_41 {h : PH} (H : OKM h) {i : Int32} {I : Int} (hi : i = Z3 I) (c : 0 ≤ I ∧ I < 128) : aI h 19 0 i = some (Z3 (rd h 19 I)) ∧ r3 (rd h 19 I) := aI_rd (t := 0) (n := 128) (by rw [H]; rfl) (by decide) hi c
theorem m_aI_12_42 {h : PH} (H : OKM h) {i : Int32} {I : Int} (hi : i = Z3 I) (c : 0 ≤ I ∧ I < 128) : aI h 20 0 i = some (Z3 (rd h 20 I)) ∧ r3 (rd h 20 I) := aI_rd (t := 0) (n := 128) (by rw [H]; rfl) (by decide) hi c
theorem m_aI_12_44 {h : PH} (H : OKM h) {i : Int32} {I : Int} (hi : i = Z3 I) (c : 0 ≤ I ∧ I < 96) : aI h 21 0 i = some (Z3 (rd h 21 I)) ∧ r3 (rd h 21 I) := aI_rd (t := 0) (n := 96) (by rw [H]; rfl) (by decide) hi c
theorem m_aI_12_45 {h : PH} (H : OKM h) {i : Int32} {I : Int} (hi : i = Z3 I) (c : 0 ≤ I ∧ I < 96) : aI h 22 0 i = some (Z3 (rd h 22 I)) ∧ r3 (rd h 22 I) := aI_rd (t := 0) (n := 96) (by rw [H]; rfl) (by decide) hi c
theorem m_aI_12_55 {h : PH} (H : OKM h) {i : Int32} {I : Int} (hi : i = Z3 I) (c : 0 ≤ I ∧ I < 10) : aI h 25 0 i = some (Z3 (rd h 25 I)) ∧ r3 (rd h 25 I) := aI_rd (t := 0) (n := 10) (by rw [H]; rfl) (by decide) hi c
theorem m_aI_12_56 {h : PH} (H : OKM h) {i : Int32} {I : Int} (hi : i = Z3 I) (c : 0 ≤ I ∧ I < 10) : aI h 26 0 i = some (Z3 (rd h 26 I)) ∧ r3 (rd h 26 I) := aI_rd (t := 0) (n := 10) (by rw [H]; rfl) (by decide) hi c
theorem m_aI_12_57 {h : PH} (H : OKM h) {i : Int32} {I : Int} (hi : i = Z3 I) (c : 0 ≤ I ∧ I < 10) : aI h 27 0 i = some (Z3 (rd h 27 I)) ∧ r3 (rd h 27 I) := aI_rd (t := 0) (n := 10) (by rw [H]; rfl) (by decide) hi c
theorem m_aI_12_58 {h : PH} (H : OKM h) {i : Int32} {I : Int} (hi : i = Z3 I) (c : 0 ≤ I ∧ I < 10) : aI h 28 0 i = some (Z3 (rd h 28 I)) ∧ r3 (rd h 28 I) := aI_rd (t := 0) (n := 10) (by rw [H]; rfl) (by decide) hi c
theorem m_aI_12_59 {h : PH} (H : OKM h) {i : Int32} {I : Int} (hi : i = Z3 I) (c : 0 ≤ I ∧ I < 5) : aI h 29 0 i = some (Z3 (rd h 29 I)) ∧ r3 (rd h 29 I) := aI_rd (t := 0) (n := 5) (by rw [H]; rfl) (by decide) hi c
theorem m_aI_12_60 {h : PH} (H : OKM h) {i : Int32} {I : Int} (hi : i = Z3 I) (c : 0 ≤ I ∧ I < 56) : aI h 30 0 i = some (Z3 (rd h 30 I)) ∧ r3 (rd h 30 I) := aI_rd (t := 0) (n := 56) (by rw [H]; rfl) (by decide) hi c
theorem m_aI_12_61 {h : PH} (H : OKM h) {i : Int32} {I : Int} (hi : i = Z3 I) (c : 0 ≤ I ∧ I < 2) : aI h 31 0 i = some (Z3 (rd h 31 I)) ∧ r3 (rd h 31 I) := aI_rd (t := 0) (n := 2) (by rw [H]; rfl) (by decide) hi c
theorem m_aI_12_62 {h : PH} (H : OKM h) {i : Int32} {I : Int} (hi : i = Z3 I) (c : 0 ≤ I ∧ I < 2) : aI h 32 0 i = some (Z3 (rd h 32 I)) ∧ r3 (rd h 32 I) := aI_rd (t := 0) (n := 2) (by rw [H]; rfl) (by decide) hi c
theorem m_aI_12_63 {h : PH} (H : OKM h) {i : Int32} {I : Int} (hi : i = Z3 I) (c : 0 ≤ I ∧ I < 2) : aI h 33 0 i = some (Z3 (rd h 33 I)) ∧ r3 (rd h 33 I) := aI_rd (t := 0) (n := 2) (by rw [H]; rfl) (by decide) hi c
theorem m_aI_12_68 {h : PH} (H : OKM h) {i : Int32} {I : Int} (hi : i = Z3 I) (c : 0 ≤ I ∧ I < 5) : aI h 34 0 i = some (Z3 (rd h 34 I)) ∧ r3 (rd h 34 I) := aI_rd (t := 0) (n := 5) (by rw [H]; rfl) (by decide) hi c
theorem m_aI_12_70 {h : PH} (H : OKM h) {i : Int32} {I : Int} (hi : i = Z3 I) (c : 0 ≤ I ∧ I < 25) : aI h 35 0 i = some (Z3 (rd h 35 I)) ∧ r3 (rd h 35 I) := aI_rd (t := 0) (n := 25) (by rw [H]; rfl) (by decide) hi c
theorem m_aI_12_71 {h : PH} (H : OKM h) {i : Int32} {I : Int} (hi : i = Z3 I) (c : 0 ≤ I ∧ I < 25) : aI h 36 0 i = some (Z3 (rd h 36 I)) ∧ r3 (rd h 36 I) := aI_rd (t := 0) (n := 25) (by rw [H]; rfl) (by decide) hi c
theorem m_aI_12_72 {h : PH} (H : OKM h) {i : Int32} {I : Int} (hi : i = Z3 I) (c : 0 ≤ I ∧ I < 29) : aI h 37 0 i = some (Z3 (rd h 37 I)) ∧ r3 (rd h 37 I) := aI_rd (t := 0) (n := 29) (by rw [H]; rfl) (by decide) hi c
theorem m_aI_12_73 {h : PH} (H : OKM h) {i : Int32} {I : Int} (hi : i = Z3 I) (c : 0 ≤ I ∧ I < 28) : aI h 38 0 i = some (Z3 (rd h 38 I)) ∧ r3 (rd h 38 I) := aI_rd (t := 0) (n := 28) (by rw [H]; rfl) (by decide) hi c
theorem m_aI_12_76 {h : PH} (H : OKM h) {i : Int32} {I : Int} (hi : i = Z3 I) (c : 0 ≤ I ∧ I < 72) : aI h 39 0 i = some (Z3 (rd h 39 I)) ∧ r3 (rd h 39 I) := aI_rd (t := 0) (n := 72) (by rw [H]; rfl) (by decide) hi c
theorem m_aI_12_77 {h : PH} (H : OKM h) {i : Int32} {I : Int} (hi : i = Z3 I) (c : 0 ≤ I ∧ I < 24) : aI h 40 2 i = some (Z3 (rd h 40 I)) ∧ r3 (rd h 40 I) := aI_rd (t := 2) (n := 24) (by rw [H]; rfl) (by decide) hi c
theorem m_aI_12_79 {h : PH} (H : OKM h) {i : Int32} {I : Int} (hi : i = Z3 I) (c : 0 ≤ I ∧ I < 220) : aI h 41 0 i = some (Z3 (rd h 41 I)) ∧ r3 (rd h 41 I) := aI_rd (t := 0) (n := 220) (by rw [H]; rfl) (by decide) hi c
theorem m_aI_12_81 {h : PH} (H : OKM h) {i : Int32} {I : Int} (hi : i = Z3 I) (c : 0 ≤ I ∧ I < 53) : aI h 42 0 i = some (Z3 (rd h 42 I)) ∧ r3 (rd h 42 I) := aI_rd (t := 0) (n := 53) (by rw [H]; rfl) (by decide) hi c
theorem x_aI_2_0 {h : PH} (H : OKX h) {a : Nat} (ha : R2_0 a) {i : Int32} {I : Int} (hi : i = Z3 I) (c : 0 ≤ I ∧ I < 64) : aI h a 0 i = some (Z3 (rd h a I)) ∧ r3 (rd h a I) := aI_rd (t := 0) (n := 64) (by rw [H.1]; rcases ha with rfl | rfl | rfl | rfl | rfl | rfl <;> rfl) (by decide) hi c
theorem x_aI_3_2 {h : PH} (H : OKX h) {i : Int32} {I : Int} (hi : i = Z3 I) (c : 0 ≤ I ∧ I < 24) : aI h 91 0 i = some (Z3 (rd h 91 I)) ∧ r3 (rd h 91 I) := aI_rd (t := 0) (n := 24) (by rw [H.1]; rfl) (by decide) hi c
theorem x_aI_3_3 {h : PH} (H : OKX h) {i : Int32} {I : Int} (hi : i = Z3 I) (c : 0 ≤ I ∧ I < 24) : aI h 92 0 i = some (Z3 (rd h 92 I)) ∧ r3 (rd h 92 I) := aI_rd (t := 0) (n := 24) (by rw [H.1]; rfl) (by decide) hi c
theorem x_aI_3_4 {h : PH} (H : OKX h) {i : Int32} {I : Int} (hi : i = Z3 I) (c : 0 ≤ I ∧ I < 24) : aI h 93 0 i = some (Z3 (rd h 93 I)) ∧ r3 (rd h 93 I) := aI_rd (t := 0) (n := 24) (by rw [H.1]; rfl) (by decide) hi c
theorem x_aI_3_5 {h : PH} (H : OKX h) {i : Int32} {I : Int} (hi : i = Z3 I) (c : 0 ≤ I ∧ I < 24) : aI h 94 0 i = some (Z3 (rd h 94 I)) ∧ r3 (rd h 94 I) := aI_rd (t := 0) (n := 24) (by rw [H.1]; rfl) (by decide) hi c
theorem x_aI_3_6 {h : PH} (H : OKX h) {i : Int32} {I : Int} (hi : i = Z3 I) (c : 0 ≤ I ∧ I < 24) : aI h 95 2 i = some (Z3 (rd h 95 I)) ∧ r3 (rd h 95 I) := aI_rd (t := 2) (n := 24) (by rw [H.1]; rfl) (by decide) hi c
theorem x_aI_4_10 {h : PH} (H : OKX h) {a : Nat} (ha : R4_10 a) {i : Int32} {I : Int} (hi : i = Z3 I) (c : 0 ≤ I ∧ I < 28) : aI h a 0 i = some (Z3 (rd h a I)) ∧ r3 (rd h a I) := aI_rd (t := 0) (n := 28) (by rw [H.1]; rcases ha with rfl | rfl | rfl <;> rfl) (by decide) hi c
theorem x_aI_4_5 {h : PH} (H : OKX h) {a : Nat} (ha : R4_5 a) {i : Int32} {I : Int} (hi : i = Z3 I) (c : 0 ≤ I ∧ I < 5) : aI h a 0 i = some (Z3 (rd h a I)) ∧ r3 (rd h a I) := aI_rd (t := 0) (n := 5) (by rw [H.1]; rcases ha with rfl | rfl | rfl <;> rfl) (by decide) hi c
theorem x_aI_4_6 {h : PH} (H : OKX h) {a : Nat} (ha : R4_6 a) {i : Int32} {I : Int} (hi : i = Z3 I) (c : 0 ≤ I ∧ I < 5) : aI h a 0 i = some (Z3 (rd h a I)) ∧ r3 (rd h a I) := aI_rd (t := 0) (n := 5) (by rw [H.1]; rcases ha with rfl | rfl | rfl <;> rfl) (by decide) hi c
theorem x_aI_4_7 {h : PH} (H : OKX h) {a : Nat} (ha : R4_7 a) {i : Int32} {I : Int} (hi : i = Z3 I) (c : 0 ≤ I ∧ I < 5) : aI h a 0 i = some (Z3 (rd h a I)) ∧ r3 (rd h a I) := aI_rd (t := 0) (n := 5) (by rw [H.1]; rcases ha with rfl | rfl | rfl <;> rfl) (by decide) hi c
theorem x_aI_4_8 {h : PH} (H : OKX h) {a : Nat} (ha : R4_8 a) {i : Int32} {I : Int} (hi : i = Z3 I) (c : 0 ≤ I ∧ I < 5) : aI h a 0 i = some (Z3 (rd h a I)) ∧ r3 (rd h a I) := aI_rd (t := 0) (n := 5) (by rw [H.1]; rcases ha with rfl | rfl | rfl <;> rfl) (by decide) hi c
theorem x_aI_4_9 {h : PH} (H : OKX h) {a : Nat} (ha : R4_9 a) {i : Int32} {I : Int} (hi : i = Z3 I) (c : 0 ≤ I ∧ I < 5) : aI h a 0 i = some (Z3 (rd h a I)) ∧ r3 (rd h a I) := aI_rd (t := 0) (n := 5) (by rw [H.1]; rcases ha with rfl | rfl | rfl <;> rfl) (by decide) hi c
theorem x_aI_5_1 {h : PH} (H : OKX h) {i : Int32} {I : Int} (hi : i = Z3 I) (c : 0 ≤ I ∧ I < 72) : aI h 50 0 i = some (Z3 (rd h 50 I)) ∧ r3 (rd h 50 I) := aI_rd (t := 0) (n := 72) (by rw [H.1]; rfl) (by decide) hi c
theorem x_aI_6_1 {h : PH} (H : OKX h) {a : Nat} (ha : R6_1 a) {i : Int32} {I : Int} (hi : i = Z3 I) (c : 0 ≤ I ∧ I < 5) : aI h a 0 i = some (Z3 (rd h a I)) ∧ r3 (rd h a I) := aI_rd (t := 0) (n := 5) (by rw [H.1]; rcases ha with rfl | rfl <;> rfl) (by decide) hi c
theorem x_aI_6_2 {h : PH} (H : OKX h) {a : Nat} (ha : R6_2 a) {i : Int32} {I : Int} (hi : i = Z3 I) (c : 0 ≤ I ∧ I < 5) : aI h a 0 i = some (Z3 (rd h a I)) ∧ r3 (rd h a I) := aI_rd (t := 0) (n := 5) (by rw [H.1]; rcases ha with rfl | rfl <;> rfl) (by decide) hi c
theorem x_aI_6_3 {h : PH} (H : OKX h) {a : Nat} (ha : R6_3 a) {i : Int32} {I : Int} (hi : i = Z3 I) (c : 0 ≤ I ∧ I < 28) : aI h a 0 i = some (Z3 (rd h a I)) ∧ r3 (rd h a I) := aI_rd (t := 0) (n := 28) (by rw [H.1]; rcases ha with rfl | rfl <;> rfl) (by decide) hi c
theorem x_aI_6_6 {h : PH} (H : OKX h) {a : Nat} (ha : R6_6 a) {i : Int32} {I : Int} (hi : i = Z3 I) (c : 0 ≤ I ∧ I < 5) : aI h a 0 i = some (Z3 (rd h a I)) ∧ r3 (rd h a I) := aI_rd (t := 0) (n := 5) (by rw [H.1]; rcases ha with rfl | rfl <;> rfl) (by decide) hi c
theorem x_aI_6_7 {h : PH} (H : OKX h) {a : Nat} (ha : R6_7 a) {i : Int32} {I : Int} (hi : i = Z3 I) (c : 0 ≤ I ∧ I < 5) : aI h a 0 i = some (Z3 (rd h a I)) ∧ r3 (rd h a I) := aI_rd (t := 0) (n := 5) (by rw [H.1]; rcases ha with rfl | rfl <;> rfl) (by decide) hi c
theorem x_aI_6_8 {h : PH} (H : OKX h) {a : Nat} (ha : R6_8 a) {i : Int32} {I : Int} (hi : i = Z3 I) (c : 0 ≤ I ∧ I < 5) : aI h a 0 i = some (Z3 (rd h a I)) ∧ r3 (rd h a I) := aI_rd (t := 0) (n := 5) (by rw [H.1]; rcases ha with rfl | rfl <;> rfl) (by decide) hi c
theorem x_aI_7_0 {h : PH} (H : OKX h) {i : Int32} {I : Int} (hi : i = Z3 I) (c : 0 ≤ I ∧ I < 24) : aI h 48 0 i = some (Z3 (rd h 48 I)) ∧ r3 (rd h 48 I) := aI_rd (t := 0) (n := 24) (by rw [H.1]; rfl) (by decide) hi c
theorem x_aI_9_1 {h : PH} (H : OKX h) {i : Int32} {I : Int} (hi : i = Z3 I) (c : 0 ≤ I ∧ I < 20) : aI h 97 0 i = some (Z3 (rd h 97 I)) ∧ r3 (rd h 97 I) := aI_rd (t := 0) (n := 20) (by rw [H.1]; rfl) (by decide) hi c
theorem x_aI_9_2 {h : PH} (H : OKX h) {i : Int32} {I : Int} (hi : i = Z3 I) (c : 0 ≤ I ∧ I < 20) : aI h 98 0 i = some (Z3 (rd h 98 I)) ∧ r3 (rd h 98 I) := aI_rd (t := 0) (n := 20) (by rw [H.1]; rfl) (by decide) hi c
theorem m_aJ_12_52 {h : PH} (H : OKM h) {i : Int32} {I : Int} (hi : i = Z3 I) (c : 0 ≤ I ∧ I < 6) : aJ h 23 i = some (Z6 (rd h 23 I)) ∧ r6 (rd h 23 I) := aJ_rd (n := 6) (by rw [H]; rfl) (by decide) hi c
theorem m_aJ_12_53 {h : PH} (H : OKM h) {i : Int32} {I : Int} (hi : i = Z3 I) (c : 0 ≤ I ∧ I < 64) : aJ h 24 i = some (Z6 (rd h 24 I)) ∧ r6 (rd h 24 I) := aJ_rd (n := 64) (by rw [H]; rfl) (by decide) hi c
theorem x_aJ_6_4 {h : PH} (H : OKX h) {a : Nat} (ha : R6_4 a) {i : Int32} {I : Int} (hi : i = Z3 I) (c : 0 ≤ I ∧ I < 6) : aJ h a i = some (Z6 (rd h a I)) ∧ r6 (rd h a I) := aJ_rd (n := 6) (by rw [H.1]; rcases ha with rfl | rfl <;> rfl) (by decide) hi c
theorem x_aJ_6_5 {h : PH} (H : OKX h) {a : Nat} (ha : R6_5 a) {i : Int32} {I : Int} (hi : i = Z3 I) (c : 0 ≤ I ∧ I < 64) : aJ h a i = some (Z6 (rd h a I)) ∧ r6 (rd h a I) := aJ_rd (n := 64) (by rw [H.1]; rcases ha with rfl | rfl <;> rfl) (by decide) hi c
theorem x_aL_11_0 {h : PH} (H : OKX h) : aL h 1 = some (Z3 700) := aL_rd (t := 1) (n := 700) (by rw [H.1]; rfl) (by decide)
theorem m_aL_12_3 {h : PH} (H : OKM h) : aL h 2 = some (Z3 120) := aL_rd (t := 0) (n := 120) (by rw [H]; rfl) (by decide)
theorem x_aL_2_0 {h : PH} (H : OKX h) {a : Nat} (ha : R2_0 a) : aL h a = some (Z3 64) := aL_rd (t := 0) (n := 64) (by rw [H.1]; rcases ha with rfl | rfl | rfl | rfl | rfl | rfl <;> rfl) (by decide)
theorem x_aL_5_1 {h : PH} (H : OKX h) : aL h 50 = some (Z3 72) := aL_rd (t := 0) (n := 72) (by rw [H.1]; rfl) (by decide)
theorem x_aL_6_5 {h : PH} (H : OKX h) {a : Nat} (ha : R6_5 a) : aL h a = some (Z3 64) := aL_rdL (t := 3) (n := 64) (by rw [H.1]; rcases ha with rfl | rfl <;> rfl) (by decide)
theorem x_gI_0_11 {h : PH} (H : OKX h) : gI h 99 0 11 = some (Z3 (rd h 99 11)) ∧ r3 (rd h 99 11) := gI_rd (by rw [H.1]; rfl)
theorem x_gI_0_12 {h : PH} (H : OKX h) : gI h 99 0 12 = some (Z3 (rd h 99 12)) ∧ r3 (rd h 99 12) := gI_rd (by rw [H.1]; rfl)
theorem x_gI_0_6 {h : PH} (H : OKX h) : gI h 99 0 6 = some (Z3 (rd h 99 6)) ∧ r3 (rd h 99 6) := gI_rd (by rw [H.1]; rfl)
theorem x_gI_1_0 {h : PH} (H : OKX h) {a : Nat} (ha : A1 a) : gI h a 1 0 = some (Z3 (rd h a 0)) ∧ r3 (rd h a 0) := gI_rd (by rw [H.1]; rcases ha with rfl | rfl <;> rfl)
theorem x_gI_10_0 {h : PH} (H : OKX h) {a : Nat} (ha : A10 a) : gI h a 10 0 = some (Z3 (rd h a 0)) ∧ r3 (rd h a 0) := gI_rd (by rw [H.1]; rcases ha with rfl | rfl <;> rfl)
theorem x_gI_10_1 {h : PH} (H : OKX h) {a : Nat} (ha : A10 a) : gI h a 10 1 = some (Z3 (rd h a 1)) ∧ r3 (rd h a 1) := gI_rd (by rw [H.1]; rcases ha with rfl | rfl <;> rfl)
theorem x_gI_11_1 {h : PH} (H : OKX h) : gI h 0 11 1 = some (Z3 (rd h 0 1)) ∧ r3 (rd h 0 1) := gI_rd (by rw [H.1]; rfl)
theorem x_gI_11_10 {h : PH} (H : OKX h) : gI h 0 11 10 = some (Z3 (rd h 0 10)) ∧ r3 (rd h 0 10) := gI_rd (by rw [H.1]; rfl)
theorem m_gI_12_1 {h : PH} (H : OKM h) : gI h 0 12 1 = some (Z3 (rd h 0 1)) ∧ r3 (rd h 0 1) := gI_rd (by rw [H]; rfl)
theorem m_gI_12_10 {h : PH} (H : OKM h) : gI h 0 12 10 = some (Z3 (rd h 0 10)) ∧ r3 (rd h 0 10) := gI_rd (by rw [H]; rfl)
theorem m_gI_12_11 {h : PH} (H : OKM h) : gI h 0 12 11 = some (Z3 (rd h 0 11)) ∧ r3 (rd h 0 11) := gI_rd (by rw [H]; rfl)
theorem m_gI_12_12 {h : PH} (H : OKM h) : gI h 0 12 12 = some (Z3 (rd h 0 12)) ∧ r3 (rd h 0 12) := gI_rd (by rw [H]; rfl)
theorem m_gI_12_13 {h : PH} (H : OKM h) : gI h 0 12 13 = some (Z3 (rd h 0 13)) ∧ r3 (rd h 0 13) := gI_rd (by rw [H]; rfl)
theorem m_gI_12_14 {h : PH} (H : OKM h) : gI h 0 12 14 = some (Z3 (rd h 0 14)) ∧ r3 (rd h 0 14) := gI_rd (by rw [H]; rfl)
theorem m_gI_12_15 {h : PH} (H : OKM h) : gI h 0 12 15 = some (Z3 (rd h 0 15)) ∧ r3 (rd h 0 15) := gI_rd (by rw [H]; rfl)
theorem m_gI_12_16 {h : PH} (H : OKM h) : gI h 0 12 16 = some (Z3 (rd h 0 16)) ∧ r3 (rd h 0 16) := gI_rd (by rw [H]; rfl)
theorem m_gI_12_17 {h : PH} (H : OKM h) : gI h 0 12 17 = some (Z3 (rd h 0 17)) ∧ r3 (rd h 0 17) := gI_rd (by rw [H]; rfl)
theorem m_gI_12_18 {h : PH} (H : OKM h) : gI h 0 12 18 = some (Z3 (rd h 0 18)) ∧ r3 (rd h 0 18) := gI_rd (by rw [H]; rfl)
theorem m_gI_12_19 {h : PH} (H : OKM h) : gI h 0 12 19 = some (Z3 (rd h 0 19)) ∧ r3 (rd h 0 19) := gI_rd (by rw [H]; rfl)
theorem m_gI_12_20 {h : PH} (H : OKM h) : gI h 0 12 20 = some (Z3 (rd h 0 20)) ∧ r3 (rd h 0 20) := gI_rd (by rw [H]; rfl)
theorem m_gI_12_21 {h : PH} (H : OKM h) : gI h 0 12 21 = some (Z3 (rd h 0 21)) ∧ r3 (rd h 0 21) := gI_rd (by rw [H]; rfl)
theorem m_gI_12_22 {h : PH} (H : OKM h) : gI h 0 12 22 = some (Z3 (rd h 0 22)) ∧ r3 (rd h 0 22) := gI_rd (by rw [H]; rfl)
theorem m_gI_12_23 {h : PH} (H : OKM h) : gI h 0 12 23 = some (Z3 (rd h 0 23)) ∧ r3 (rd h 0 23) := gI_rd (by rw [H]; rfl)
theorem m_gI_12_24 {h : PH} (H : OKM h) : gI h 0 12 24 = some (Z3 (rd h 0 24)) ∧ r3 (rd h 0 24) := gI_rd (by rw [H]; rfl)
theorem m_gI_12_4 {h : PH} (H : OKM h) : gI h 0 12 4 = some (Z3 (rd h 0 4)) ∧ r3 (rd h 0 4) := gI_rd (by rw [H]; rfl)
theorem m_gI_12_43 {h : PH} (H : OKM h) : gI h 0 12 43 = some (Z3 (rd h 0 43)) ∧ r3 (rd h 0 43) := gI_rd (by rw [H]; rfl)
theorem m_gI_12_46 {h : PH} (H : OKM h) : gI h 0 12 46 = some (Z3 (rd h 0 46)) ∧ r3 (rd h 0 46) := gI_rd (by rw [H]; rfl)
theorem m_gI_12_47 {h : PH} (H : OKM h) : gI h 0 12 47 = some (Z3 (rd h 0 47)) ∧ r3 (rd h 0 47) := gI_rd (by rw [H]; rfl)
theorem m_gI_12_48 {h : PH} (H : OKM h) : gI h 0 12 48 = some (Z3 (rd h 0 48)) ∧ r3 (rd h 0 48) := gI_rd (by rw [H]; rfl)
theorem m_gI_12_49 {h : PH} (H : OKM h) : gI h 0 12 49 = some (Z3 (rd h 0 49)) ∧ r3 (rd h 0 49) := gI_rd (by rw [H]; rfl)
theorem m_gI_12_5 {h : PH} (H : OKM h) : gI h 0 12 5 = some (Z3 (rd h 0 5)) ∧ r3 (rd h 0 5) := gI_rd (by rw [H]; rfl)
theorem m_gI_12_50 {h : PH} (H : OKM h) : gI h 0 12 50 = some (Z3 (rd h 0 50)) ∧ r3 (rd h 0 50) := gI_rd (by rw [H]; rfl)
theorem m_gI_12_51 {h : PH} (H : OKM h) : gI h 0 12 51 = some (Z3 (rd h 0 51)) ∧ r3 (rd h 0 51) := gI_rd (by rw [H]; rfl)
theorem m_gI_12_54 {h : PH} (H : OKM h) : gI h 0 12 54 = some (Z3 (rd h 0 54)) ∧ r3 (rd h 0 54) := gI_rd (by rw [H]; rfl)
theorem m_gI_12_6 {h : PH} (H : OKM h) : gI h 0 12 6 = some (Z3 (rd h 0 6)) ∧ r3 (rd h 0 6) := gI_rd (by rw [H]; rfl)
theorem m_gI_12_64 {h : PH} (H : OKM h) : gI h 0 12 64 = some (Z3 (rd h 0 64)) ∧ r3 (rd h 0 64) := gI_rd (by rw [H]; rfl)
theorem m_gI_12_66 {h : PH} (H : OKM h) : gI h 0 12 66 = some (Z3 (rd h 0 66)) ∧ r3 (rd h 0 66) := gI_rd (by rw [H]; rfl)
theorem m_gI_12_67 {h : PH} (H : OKM h) : gI h 0 12 67 = some (Z3 (rd h 0 67)) ∧ r3 (rd h 0 67) := gI_rd (by rw [H]; rfl)
theorem m_gI_12_69 {h : PH} (H : OKM h) : gI h 0 12 69 = some (Z3 (rd h 0 69)) ∧ r3 (rd h 0 69) := gI_rd (by rw [H]; rfl)
theorem m_gI_12_7 {h : PH} (H : OKM h) : gI h 0 12 7 = some (Z3 (rd h 0 7)) ∧ r3 (rd h 0 7) := gI_rd (by rw [H]; rfl)
theorem m_gI_12_74 {h : PH} (H : OKM h) : gI h 0 12 74 = some (Z3 (rd h 0 74)) ∧ r3 (rd h 0 74) := gI_rd (by rw [H]; rfl)
theorem m_gI_12_75 {h : PH} (H : OKM h) : gI h 0 12 75 = some (Z3 (rd h 0 75)) ∧ r3 (rd h 0 75) := gI_rd (by rw [H]; rfl)
theorem m_gI_12_78 {h : PH} (H : OKM h) : gI h 0 12 78 = some (Z3 (rd h 0 78)) ∧ r3 (rd h 0 78) := gI_rd (by rw [H]; rfl)
theorem m_gI_12_8 {h : PH} (H : OKM h) : gI h 0 12 8 = some (Z3 (rd h 0 8)) ∧ r3 (rd h 0 8) := gI_rd (by rw [H]; rfl)
theorem m_gI_12_80 {h : PH} (H : OKM h) : gI h 0 12 80 = some (Z3 (rd h 0 80)) ∧ r3 (rd h 0 80) := gI_rd (by rw [H]; rfl)
theorem m_gI_12_82 {h : PH} (H : OKM h) : gI h 0 12 82 = some (Z3 (rd h 0 82)) ∧ r3 (rd h 0 82) := gI_rd (by rw [H]; rfl)
theorem m_gI_12_83 {h : PH} (H : OKM h) : gI h 0 12 83 = some (Z3 (rd h 0 83)) ∧ r3 (rd h 0 83) := gI_rd (by rw [H]; rfl)
theorem m_gI_12_84 {h : PH} (H : OKM h) : gI h 0 12 84 = some (Z3 (rd h 0 84)) ∧ r3 (rd h 0 84) := gI_rd (by rw [H]; rfl)
theorem m_gI_12_85 {h : PH} (H : OKM h) : gI h 0 12 85 = some (Z3 (rd h 0 85)) ∧ r3 (rd h 0 85) := gI_rd (by rw [H]; rfl)
theorem m_gI_12_9 {h : PH} (H : OKM h) : gI h 0 12 9 = some (Z3 (rd h 0 9)) ∧ r3 (rd h 0 9) := gI_rd (by rw [H]; rfl)
theorem x_gI_2_1 {h : PH} (H : OKX h) {a : Nat} (ha : A2 a) : gI h a 2 1 = some (Z3 (rd h a 1)) ∧ r3 (rd h a 1) := gI_rd (by rw [H.1]; rcases ha with rfl | rfl | rfl | rfl | rfl | rfl <;> rfl)
theorem x_gI_2_2 {h : PH} (H : OKX h) {a : Nat} (ha : A2 a) : gI h a 2 2 = some (Z3 (rd h a 2)) ∧ r3 (rd h a 2) := gI_rd (by rw [H.1]; rcases ha with rfl | rfl | rfl | rfl | rfl | rfl <;> rfl)
theorem x_gI_3_0 {h : PH} (H : OKX h) : gI h 90 3 0 = some (Z3 (rd h 90 0)) ∧ r3 (rd h 90 0) := gI_rd (by rw [H.1]; rfl)
theorem x_gI_3_1 {h : PH} (H : OKX h) : gI h 90 3 1 = some (Z3 (rd h 90 1)) ∧ r3 (rd h 90 1) := gI_rd (by rw [H.1]; rfl)
theorem x_gI_4_0 {h : PH} (H : OKX h) {a : Nat} (ha : A4 a) : gI h a 4 0 = some (Z3 (rd h a 0)) ∧ r3 (rd h a 0) := gI_rd (by rw [H.1]; rcases ha with rfl | rfl | rfl <;> rfl)
theorem x_gI_4_1 {h : PH} (H : OKX h) {a : Nat} (ha : A4 a) : gI h a 4 1 = some (Z3 (rd h a 1)) ∧ r3 (rd h a 1) := gI_rd (by rw [H.1]; rcases ha with rfl | rfl | rfl <;> rfl)
theorem x_gI_4_2 {h : PH} (H : OKX h) {a : Nat} (ha : A4 a) : gI h a 4 2 = some (Z3 (rd h a 2)) ∧ r3 (rd h a 2) := gI_rd (by rw [H.1]; rcases ha with rfl | rfl | rfl <;> rfl)
theorem x_gI_4_3 {h : PH} (H : OKX h) {a : Nat} (ha : A4 a) : gI h a 4 3 = some (Z3 (rd h a 3)) ∧ r3 (rd h a 3) := gI_rd (by rw [H.1]; rcases ha with rfl | rfl | rfl <;> rfl)
theorem x_gI_4_4 {h : PH} (H : OKX h) {a : Nat} (ha : A4 a) : gI h a 4 4 = some (Z3 (rd h a 4)) ∧ r3 (rd h a 4) := gI_rd (by rw [H.1]; rcases ha with rfl | rfl | rfl <;> rfl)
theorem x_gI_5_2 {h : PH} (H : OKX h) : gI h 46 5 2 = some (Z3 (rd h 46 2)) ∧ r3 (rd h 46 2) := gI_rd (by rw [H.1]; rfl)
theorem x_gI_5_3 {h : PH} (H : OKX h) : gI h 46 5 3 = some (Z3 (rd h 46 3)) ∧ r3 (rd h 46 3) := gI_rd (by rw [H.1]; rfl)
theorem x_gI_5_4 {h : PH} (H : OKX h) : gI h 46 5 4 = some (Z3 (rd h 46 4)) ∧ r3 (rd h 46 4) := gI_rd (by rw [H.1]; rfl)
theorem x_gI_5_5 {h : PH} (H : OKX h) : gI h 46 5 5 = some (Z3 (rd h 46 5)) ∧ r3 (rd h 46 5) := gI_rd (by rw [H.1]; rfl)
theorem x_gI_5_6 {h : PH} (H : OKX h) : gI h 46 5 6 = some (Z3 (rd h 46 6)) ∧ r3 (rd h 46 6) := gI_rd (by rw [H.1]; rfl)
theorem x_gI_5_7 {h : PH} (H : OKX h) : gI h 46 5 7 = some (Z3 (rd h 46 7)) ∧ r3 (rd h 46 7) := gI_rd (by rw [H.1]; rfl)
theorem x_gI_5_8 {h : PH} (H : OKX h) : gI h 46 5 8 = some (Z3 (rd h 46 8)) ∧ r3 (rd h 46 8) := gI_rd (by rw [H.1]; rfl)
theorem x_gI_5_9 {h : PH} (H : OKX h) : gI h 46 5 9 = some (Z3 (rd h 46 9)) ∧ r3 (rd h 46 9) := gI_rd (by rw [H.1]; rfl)
theorem x_gI_7_2 {h : PH} (H : OKX h) : gI h 47 7 2 = some (Z3 (rd h 47 2)) ∧ r3 (rd h 47 2) := gI_rd (by rw [H.1]; rfl)
theorem x_gI_7_3 {h : PH} (H : OKX h) : gI h 47 7 3 = some (Z3 (rd h 47 3)) ∧ r3 (rd h 47 3) := gI_rd (by rw [H.1]; rfl)
theorem x_gI_7_4 {h : PH} (H : OKX h) : gI h 47 7 4 = some (Z3 (rd h 47 4)) ∧ r3 (rd h 47 4) := gI_rd (by rw [H.1]; rfl)
theorem x_gI_7_5 {h : PH} (H : OKX h) : gI h 47 7 5 = some (Z3 (rd h 47 5)) ∧ r3 (rd h 47 5) := gI_rd (by rw [H.1]; rfl)
theorem x_gI_7_6 {h : PH} (H : OKX h) : gI h 47 7 6 = some (Z3 (rd h 47 6)) ∧ r3 (rd h 47 6) := gI_rd (by rw [H.1]; rfl)
theorem x_gI_8_0 {h : PH} (H : OKX h) {a : Nat} (ha : A8 a) : gI h a 8 0 = some (Z3 (rd h a 0)) ∧ r3 (rd h a 0) := gI_rd (by rw [H.1]; rcases ha with rfl | rfl <;> rfl)
theorem x_gI_8_1 {h : PH} (H : OKX h) {a : Nat} (ha : A8 a) : gI h a 8 1 = some (Z3 (rd h a 1)) ∧ r3 (rd h a 1) := gI_rd (by rw [H.1]; rcases ha with rfl | rfl <;> rfl)
theorem x_gI_8_10 {h : PH} (H : OKX h) {a : Nat} (ha : A8 a) : gI h a 8 10 = some (Z3 (rd h a 10)) ∧ r3 (rd h a 10) := gI_rd (by rw [H.1]; rcases ha with rfl | rfl <;> rfl)
theorem x_gI_8_12 {h : PH} (H : OKX h) {a : Nat} (ha : A8 a) : gI h a 8 12 = some (Z3 (rd h a 12)) ∧ r3 (rd h a 12) := gI_rd (by rw [H.1]; rcases ha with rfl | rfl <;> rfl)
theorem x_gI_8_13 {h : PH} (H : OKX h) {a : Nat} (ha : A8 a) : gI h a 8 13 = some (Z3 (rd h a 13)) ∧ r3 (rd h a 13) := gI_rd (by rw [H.1]; rcases ha with rfl | rfl <;> rfl)
theorem x_gI_8_2 {h : PH} (H : OKX h) {a : Nat} (ha : A8 a) : gI h a 8 2 = some (Z3 (rd h a 2)) ∧ r3 (rd h a 2) := gI_rd (by rw [H.1]; rcases ha with rfl | rfl <;> rfl)
theorem x_gI_8_3 {h : PH} (H : OKX h) {a : Nat} (ha : A8 a) : gI h a 8 3 = some (Z3 (rd h a 3)) ∧ r3 (rd h a 3) := gI_rd (by rw [H.1]; rcases ha with rfl | rfl <;> rfl)
theorem x_gI_8_6 {h : PH} (H : OKX h) {a : Nat} (ha : A8 a) : gI h a 8 6 = some (Z3 (rd h a 6)) ∧ r3 (rd h a 6) := gI_rd (by rw [H.1]; rcases ha with rfl | rfl <;> rfl)
theorem x_gI_8_7 {h : PH} (H : OKX h) {a : Nat} (ha : A8 a) : gI h a 8 7 = some (Z3 (rd h a 7)) ∧ r3 (rd h a 7) := gI_rd (by rw [H.1]; rcases ha with rfl | rfl <;> rfl)
theorem x_gI_8_8 {h : PH} (H : OKX h) {a : Nat} (ha : A8 a) : gI h a 8 8 = some (Z3 (rd h a 8)) ∧ r3 (rd h a 8) := gI_rd (by rw [H.1]; rcases ha with rfl | rfl <;> rfl)
theorem x_gI_8_9 {h : PH} (H : OKX h) {a : Nat} (ha : A8 a) : gI h a 8 9 = some (Z3 (rd h a 9)) ∧ r3 (rd h a 9) := gI_rd (by rw [H.1]; rcases ha with rfl | rfl <;> rfl)
theorem x_gI_9_0 {h : PH} (H : OKX h) : gI h 96 9 0 = some (Z3 (rd h 96 0)) ∧ r3 (rd h 96 0) := gI_rd (by rw [H.1]; rfl)
theorem m_gJ_12_65 {h : PH} (H : OKM h) : gJ h 0 12 65 = some (Z6 (rd h 0 65)) ∧ r6 (rd h 0 65) := gJ_rd (by rw [H]; rfl)
theorem m_gJ_12_86 {h : PH} (H : OKM h) : gJ h 0 12 86 = some (Z6 (rd h 0 86)) ∧ r6 (rd h 0 86) := gJ_rd (by rw [H]; rfl)
theorem x_gR_0_0 {h : PH} (H : OKX h) : gR h 99 0 0 = some 100 := by rw [gR_Sk, H.1]; rfl
theorem x_gR_0_1 {h : PH} (H : OKX h) : gR h 99 0 1 = some 101 := by rw [gR_Sk, H.1]; rfl
theorem x_gR_0_10 {h : PH} (H : OKX h) : gR h 99 0 10 = some 109 := by rw [gR_Sk, H.1]; rfl
theorem x_gR_0_2 {h : PH} (H : OKX h) : gR h 99 0 2 = some 102 := by rw [gR_Sk, H.1]; rfl
theorem x_gR_0_3 {h : PH} (H : OKX h) : gR h 99 0 3 = some 103 := by rw [gR_Sk, H.1]; rfl
theorem x_gR_0_4 {h : PH} (H : OKX h) : gR h 99 0 4 = some 104 := by rw [gR_Sk, H.1]; rfl
theorem x_gR_0_5 {h : PH} (H : OKX h) : gR h 99 0 5 = some 105 := by rw [gR_Sk, H.1]; rfl
theorem x_gR_0_7 {h : PH} (H : OKX h) : gR h 99 0 7 = some 106 := by rw [gR_Sk, H.1]; rfl
theorem x_gR_0_8 {h : PH} (H : OKX h) : gR h 99 0 8 = some 107 := by rw [gR_Sk, H.1]; rfl
theorem x_gR_0_9 {h : PH} (H : OKX h) : gR h 99 0 9 = some 108 := by rw [gR_Sk, H.1]; rfl
theorem x_gR_1_1 {h : PH} (H : OKX h) {a : Nat} (ha : A1 a) : gR h a 1 1 = some (a + 1) := by rw [gR_Sk, H.1]; rcases ha with rfl | rfl <;> rfl
theorem x_gR_1_2 {h : PH} (H : OKX h) {a : Nat} (ha : A1 a) : gR h a 1 2 = some (a + 2) := by rw [gR_Sk, H.1]; rcases ha with rfl | rfl <;> rfl
theorem x_gR_1_3 {h : PH} (H : OKX h) {a : Nat} (ha : A1 a) : gR h a 1 3 = some (a + 3) := by rw [gR_Sk, H.1]; rcases ha with rfl | rfl <;> rfl
theorem x_gR_1_4 {h : PH} (H : OKX h) {a : Nat} (ha : A1 a) : gR h a 1 4 = some (a + 4) := by rw [gR_Sk, H.1]; rcases ha with rfl | rfl <;> rfl
theorem x_gR_1_5 {h : PH} (H : OKX h) {a : Nat} (ha : A1 a) : gR h a 1 5 = some (a + 5) := by rw [gR_Sk, H.1]; rcases ha with rfl | rfl <;> rfl
theorem x_gR_1_6 {h : PH} (H : OKX h) {a : Nat} (ha : A1 a) : gR h a 1 6 = some (a + 6) := by rw [gR_Sk, H.1]; rcases ha with rfl | rfl <;> rfl
theorem x_gR_10_2 {h : PH} (H : OKX h) {a : Nat} (ha : A10 a) : gR h a 10 2 = some (a + 1) := by rw [gR_Sk, H.1]; rcases ha with rfl | rfl <;> rfl
theorem x_gR_10_3 {h : PH} (H : OKX h) {a : Nat} (ha : A10 a) : gR h a 10 3 = some (a + 2) := by rw [gR_Sk, H.1]; rcases ha with rfl | rfl <;> rfl
theorem x_gR_10_4 {h : PH} (H : OKX h) {a : Nat} (ha : A10 a) : gR h a 10 4 = some (a + 3) := by rw [gR_Sk, H.1]; rcases ha with rfl | rfl <;> rfl
theorem x_gR_10_5 {h : PH} (H : OKX h) {a : Nat} (ha : A10 a) : gR h a 10 5 = some (a + 4) := by rw [gR_Sk, H.1]; rcases ha with rfl | rfl <;> rfl
theorem x_gR_10_6 {h : PH} (H : OKX h) {a : Nat} (ha : A10 a) : gR h a 10 6 = some (a + 5) := by rw [gR_Sk, H.1]; rcases ha with rfl | rfl <;> rfl
theorem x_gR_10_7 {h : PH} (H : OKX h) {a : Nat} (ha : A10 a) : gR h a 10 7 = some (a + 6) := by rw [gR_Sk, H.1]; rcases ha with rfl | rfl <;> rfl
theorem x_gR_11_0 {h : PH} (H : OKX h) : gR h 0 11 0 = some 1 := by rw [gR_Sk, H.1]; rfl
theorem x_gR_11_11 {h : PH} (H : OKX h) : gR h 0 11 11 = some 90 := by rw [gR_Sk, H.1]; rfl
theorem x_gR_11_12 {h : PH} (H : OKX h) : gR h 0 11 12 = some 96 := by rw [gR_Sk, H.1]; rfl
theorem x_gR_11_13 {h : PH} (H : OKX h) : gR h 0 11 13 = some 99 := by rw [gR_Sk, H.1]; rfl
theorem x_gR_11_2 {h : PH} (H : OKX h) : gR h 0 11 2 = some 46 := by rw [gR_Sk, H.1]; rfl
theorem x_gR_11_3 {h : PH} (H : OKX h) : gR h 0 11 3 = some (rd h 0 3).toNat := by rw [gR_Sk, H.1]; rfl
theorem x_gR_11_4 {h : PH} (H : OKX h) : gR h 0 11 4 = some (rd h 0 4).toNat := by rw [gR_Sk, H.1]; rfl
theorem x_gR_11_5 {h : PH} (H : OKX h) : gR h 0 11 5 = some 51 := by rw [gR_Sk, H.1]; rfl
theorem x_gR_11_6 {h : PH} (H : OKX h) : gR h 0 11 6 = some 60 := by rw [gR_Sk, H.1]; rfl
theorem x_gR_11_7 {h : PH} (H : OKX h) : gR h 0 11 7 = some 69 := by rw [gR_Sk, H.1]; rfl
theorem x_gR_11_8 {h : PH} (H : OKX h) : gR h 0 11 8 = some 76 := by rw [gR_Sk, H.1]; rfl
theorem x_gR_11_9 {h : PH} (H : OKX h) : gR h 0 11 9 = some 83 := by rw [gR_Sk, H.1]; rfl
theorem m_gR_12_0 {h : PH} (H : OKM h) : gR h 0 12 0 = some 1 := by rw [gR_Sk, H]; rfl
theorem m_gR_12_25 {h : PH} (H : OKM h) : gR h 0 12 25 = some 3 := by rw [gR_Sk, H]; rfl
theorem m_gR_12_26 {h : PH} (H : OKM h) : gR h 0 12 26 = some 4 := by rw [gR_Sk, H]; rfl
theorem m_gR_12_27 {h : PH} (H : OKM h) : gR h 0 12 27 = some 5 := by rw [gR_Sk, H]; rfl
theorem m_gR_12_28 {h : PH} (H : OKM h) : gR h 0 12 28 = some 6 := by rw [gR_Sk, H]; rfl
theorem m_gR_12_29 {h : PH} (H : OKM h) : gR h 0 12 29 = some 7 := by rw [gR_Sk, H]; rfl
theorem m_gR_12_3 {h : PH} (H : OKM h) : gR h 0 12 3 = some 2 := by rw [gR_Sk, H]; rfl
theorem m_gR_12_30 {h : PH} (H : OKM h) : gR h 0 12 30 = some 8 := by rw [gR_Sk, H]; rfl
theorem m_gR_12_31 {h : PH} (H : OKM h) : gR h 0 12 31 = some 9 := by rw [gR_Sk, H]; rfl
theorem m_gR_12_32 {h : PH} (H : OKM h) : gR h 0 12 32 = some 10 := by rw [gR_Sk, H]; rfl
theorem m_gR_12_33 {h : PH} (H : OKM h) : gR h 0 12 33 = some 11 := by rw [gR_Sk, H]; rfl
theorem m_gR_12_34 {h : PH} (H : OKM h) : gR h 0 12 34 = some 12 := by rw [gR_Sk, H]; rfl
theorem m_gR_12_35 {h : PH} (H : OKM h) : gR h 0 12 35 = some 13 := by rw [gR_Sk, H]; rfl
theorem m_gR_12_36 {h : PH} (H : OKM h) : gR h 0 12 36 = some 14 := by rw [gR_Sk, H]; rfl
theorem m_gR_12_37 {h : PH} (H : OKM h) : gR h 0 12 37 = some 15 := by rw [gR_Sk, H]; rfl
theorem m_gR_12_38 {h : PH} (H : OKM h) : gR h 0 12 38 = some 16 := by rw [gR_Sk, H]; rfl
theorem m_gR_12_39 {h : PH} (H : OKM h) : gR h 0 12 39 = some 17 := by rw [gR_Sk, H]; rfl
theorem m_gR_12_40 {h : PH} (H : OKM h) : gR h 0 12 40 = some 18 := by rw [gR_Sk, H]; rfl
theorem m_gR_12_41 {h : PH} (H : OKM h) : gR h 0 12 41 = some 19 := by rw [gR_Sk, H]; rfl
theorem m_gR_12_42 {h : PH} (H : OKM h) : gR h 0 12 42 = some 20 := by rw [gR_Sk, H]; rfl
theorem m_gR_12_44 {h : PH} (H : OKM h) : gR h 0 12 44 = some 21 := by rw [gR_Sk, H]; rfl
theorem m_gR_12_45 {h : PH} (H : OKM h) : gR h 0 12 45 = some 22 := by rw [gR_Sk, H]; rfl
theorem m_gR_12_52 {h : PH} (H : OKM h) : gR h 0 12 52 = some 23 := by rw [gR_Sk, H]; rfl
theorem m_gR_12_53 {h : PH} (H : OKM h) : gR h 0 12 53 = some 24 := by rw [gR_Sk, H]; rfl
theorem m_gR_12_55 {h : PH} (H : OKM h) : gR h 0 12 55 = some 25 := by rw [gR_Sk, H]; rfl
theorem m_gR_12_56 {h : PH} (H : OKM h) : gR h 0 12 56 = some 26 := by rw [gR_Sk, H]; rfl
theorem m_gR_12_57 {h : PH} (H : OKM h) : gR h 0 12 57 = some 27 := by rw [gR_Sk, H]; rfl
theorem m_gR_12_58 {h : PH} (H : OKM h) : gR h 0 12 58 = some 28 := by rw [gR_Sk, H]; rfl
theorem m_gR_12_59 {h : PH} (H : OKM h) : gR h 0 12 59 = some 29 := by rw [gR_Sk, H]; rfl
theorem m_gR_12_60 {h : PH} (H : OKM h) : gR h 0 12 60 = some 30 := by rw [gR_Sk, H]; rfl
theorem m_gR_12_61 {h : PH} (H : OKM h) : gR h 0 12 61 = some 31 := by rw [gR_Sk, H]; rfl
theorem m_gR_12_62 {h : PH} (H : OKM h) : gR h 0 12 62 = some 32 := by rw [gR_Sk, H]; rfl
theorem m_gR_12_63 {h : PH} (H : OKM h) : gR h 0 12 63 = some 33 := by rw [gR_Sk, H]; rfl
theorem m_gR_12_68 {h : PH} (H : OKM h) : gR h 0 12 68 = some 34 := by rw [gR_Sk, H]; rfl
theorem m_gR_12_70 {h : PH} (H : OKM h) : gR h 0 12 70 = some 35 := by rw [gR_Sk, H]; rfl
theorem m_gR_12_71 {h : PH} (H : OKM h) : gR h 0 12 71 = some 36 := by rw [gR_Sk, H]; rfl
theorem m_gR_12_72 {h : PH} (H : OKM h) : gR h 0 12 72 = some 37 := by rw [gR_Sk, H]; rfl
theorem m_gR_12_73 {h : PH} (H : OKM h) : gR h 0 12 73 = some 38 := by rw [gR_Sk, H]; rfl
theorem m_gR_12_76 {h : PH} (H : OKM h) : gR h 0 12 76 = some 39 := by rw [gR_Sk, H]; rfl
theorem m_gR_12_77 {h : PH} (H : OKM h) : gR h 0 12 77 = some 40 := by rw [gR_Sk, H]; rfl
theorem m_gR_12_79 {h : PH} (H : OKM h) : gR h 0 12 79 = some 41 := by rw [gR_Sk, H]; rfl
theorem m_gR_12_81 {h : PH} (H : OKM h) : gR h 0 12 81 = some 42 := by rw [gR_Sk, H]; rfl
theorem x_gR_2_0 {h : PH} (H : OKX h) {a : Nat} (ha : A2 a) : gR h a 2 0 = some (a + 1) := by rw [gR_Sk, H.1]; rcases ha with rfl | rfl | rfl | rfl | rfl | rfl <;> rfl
theorem x_gR_3_2 {h : PH} (H : OKX h) : gR h 90 3 2 = some 91 := by rw [gR_Sk, H.1]; rfl
theorem x_gR_3_3 {h : PH} (H : OKX h) : gR h 90 3 3 = some 92 := by rw [gR_Sk, H.1]; rfl
theorem x_gR_3_4 {h : PH} (H : OKX h) : gR h 90 3 4 = some 93 := by rw [gR_Sk, H.1]; rfl
theorem x_gR_3_5 {h : PH} (H : OKX h) : gR h 90 3 5 = some 94 := by rw [gR_Sk, H.1]; rfl
theorem x_gR_3_6 {h : PH} (H : OKX h) : gR h 90 3 6 = some 95 := by rw [gR_Sk, H.1]; rfl
theorem x_gR_4_10 {h : PH} (H : OKX h) {a : Nat} (ha : A4 a) : gR h a 4 10 = some (a + 6) := by rw [gR_Sk, H.1]; rcases ha with rfl | rfl | rfl <;> rfl
theorem x_gR_4_5 {h : PH} (H : OKX h) {a : Nat} (ha : A4 a) : gR h a 4 5 = some (a + 1) := by rw [gR_Sk, H.1]; rcases ha with rfl | rfl | rfl <;> rfl
theorem x_gR_4_6 {h : PH} (H : OKX h) {a : Nat} (ha : A4 a) : gR h a 4 6 = some (a + 2) := by rw [gR_Sk, H.1]; rcases ha with rfl | rfl | rfl <;> rfl
theorem x_gR_4_7 {h : PH} (H : OKX h) {a : Nat} (ha : A4 a) : gR h a 4 7 = some (a + 3) := by rw [gR_Sk, H.1]; rcases ha with rfl | rfl | rfl <;> rfl
theorem x_gR_4_8 {h : PH} (H : OKX h) {a : Nat} (ha : A4 a) : gR h a 4 8 = some (a + 4) := by rw [gR_Sk, H.1]; rcases ha with rfl | rfl | rfl <;> rfl
theorem x_gR_4_9 {h : PH} (H : OKX h) {a : Nat} (ha : A4 a) : gR h a 4 9 = some (a + 5) := by rw [gR_Sk, H.1]; rcases ha with rfl | rfl | rfl <;> rfl
theorem x_gR_5_0 {h : PH} (H : OKX h) : gR h 46 5 0 = some 47 := by rw [gR_Sk, H.1]; rfl
theorem x_gR_5_1 {h : PH} (H : OKX h) : gR h 46 5 1 = some 50 := by rw [gR_Sk, H.1]; rfl
theorem x_gR_5_10 {h : PH} (H : OKX h) : gR h 46 5 10 = some (rd h 46 10).toNat := by rw [gR_Sk, H.1]; rfl
theorem x_gR_6_0 {h : PH} (H : OKX h) {a : Nat} (ha : A6 a) : gR h a 6 0 = some (rd h a 0).toNat := by rw [gR_Sk, H.1]; rcases ha with rfl | rfl <;> rfl
theorem x_gR_6_1 {h : PH} (H : OKX h) {a : Nat} (ha : A6 a) : gR h a 6 1 = some (a + 1) := by rw [gR_Sk, H.1]; rcases ha with rfl | rfl <;> rfl
theorem x_gR_6_2 {h : PH} (H : OKX h) {a : Nat} (ha : A6 a) : gR h a 6 2 = some (a + 2) := by rw [gR_Sk, H.1]; rcases ha with rfl | rfl <;> rfl
theorem x_gR_6_3 {h : PH} (H : OKX h) {a : Nat} (ha : A6 a) : gR h a 6 3 = some (a + 3) := by rw [gR_Sk, H.1]; rcases ha with rfl | rfl <;> rfl
theorem x_gR_6_4 {h : PH} (H : OKX h) {a : Nat} (ha : A6 a) : gR h a 6 4 = some (a + 4) := by rw [gR_Sk, H.1]; rcases ha with rfl | rfl <;> rfl
theorem x_gR_6_5 {h : PH} (H : OKX h) {a : Nat} (ha : A6 a) : gR h a 6 5 = some (a + 5) := by rw [gR_Sk, H.1]; rcases ha with rfl | rfl <;> rfl
theorem x_gR_6_6 {h : PH} (H : OKX h) {a : Nat} (ha : A6 a) : gR h a 6 6 = some (a + 6) := by rw [gR_Sk, H.1]; rcases ha with rfl | rfl <;> rfl
theorem x_gR_6_7 {h : PH} (H : OKX h) {a : Nat} (ha : A6 a) : gR h a 6 7 = some (a + 7) := by rw [gR_Sk, H.1]; rcases ha with rfl | rfl <;> rfl
theorem x_gR_6_8 {h : PH} (H : OKX h) {a : Nat} (ha : A6 a) : gR h a 6 8 = some (a + 8) := by rw [gR_Sk, H.1]; rcases ha with rfl | rfl <;> rfl
theorem x_gR_7_0 {h : PH} (H : OKX h) : gR h 47 7 0 = some 48 := by rw [gR_Sk, H.1]; rfl
theorem x_gR_7_1 {h : PH} (H : OKX h) : gR h 47 7 1 = some (rd h 47 1).toNat := by rw [gR_Sk, H.1]; rfl
theorem x_gR_8_11 {h : PH} (H : OKX h) {a : Nat} (ha : A8 a) : gR h a 8 11 = some (a + 15) := by rw [gR_Sk, H.1]; rcases ha with rfl | rfl <;> rfl
theorem x_gR_8_4 {h : PH} (H : OKX h) {a : Nat} (ha : A8 a) : gR h a 8 4 = some (a + 1) := by rw [gR_Sk, H.1]; rcases ha with rfl | rfl <;> rfl
theorem x_gR_8_5 {h : PH} (H : OKX h) {a : Nat} (ha : A8 a) : gR h a 8 5 = some (a + 8) := by rw [gR_Sk, H.1]; rcases ha with rfl | rfl <;> rfl
theorem x_gR_9_1 {h : PH} (H : OKX h) : gR h 96 9 1 = some 97 := by rw [gR_Sk, H.1]; rfl
theorem x_gR_9_2 {h : PH} (H : OKX h) : gR h 96 9 2 = some 98 := by rw [gR_Sk, H.1]; rfl
theorem nr_4_10 {a : Nat} (ha : R4_10 a) : a ≠ 0 ∧ a ≠ 46 ∧ a ≠ 47 ∧ a ≠ 51 ∧ a ≠ 60 := by rcases ha with rfl | rfl | rfl <;> decide
theorem nr_4_5 {a : Nat} (ha : R4_5 a) : a ≠ 0 ∧ a ≠ 46 ∧ a ≠ 47 ∧ a ≠ 51 ∧ a ≠ 60 := by rcases ha with rfl | rfl | rfl <;> decide
theorem nr_4_6 {a : Nat} (ha : R4_6 a) : a ≠ 0 ∧ a ≠ 46 ∧ a ≠ 47 ∧ a ≠ 51 ∧ a ≠ 60 := by rcases ha with rfl | rfl | rfl <;> decide
theorem nr_4_7 {a : Nat} (ha : R4_7 a) : a ≠ 0 ∧ a ≠ 46 ∧ a ≠ 47 ∧ a ≠ 51 ∧ a ≠ 60 := by rcases ha with rfl | rfl | rfl <;> decide
theorem nr_4_8 {a : Nat} (ha : R4_8 a) : a ≠ 0 ∧ a ≠ 46 ∧ a ≠ 47 ∧ a ≠ 51 ∧ a ≠ 60 := by rcases ha with rfl | rfl | rfl <;> decide
theorem nr_4_9 {a : Nat} (ha : R4_9 a) : a ≠ 0 ∧ a ≠ 46 ∧ a ≠ 47 ∧ a ≠ 51 ∧ a ≠ 60 := by rcases ha with rfl | rfl | rfl <;> decide
theorem nr_6_1 {a : Nat} (ha : R6_1 a) : a ≠ 0 ∧ a ≠ 46 ∧ a ≠ 47 ∧ a ≠ 51 ∧ a ≠ 60 := by rcases ha with rfl | rfl <;> decide
theorem nr_6_2 {a : Nat} (ha : R6_2 a) : a ≠ 0 ∧ a ≠ 46 ∧ a ≠ 47 ∧ a ≠ 51 ∧ a ≠ 60 := by rcases ha with rfl | rfl <;> decide
theorem nr_6_3 {a : Nat} (ha : R6_3 a) : a ≠ 0 ∧ a ≠ 46 ∧ a ≠ 47 ∧ a ≠ 51 ∧ a ≠ 60 := by rcases ha with rfl | rfl <;> decide
theorem nr_9_1 : 97 ≠ 0 ∧ 97 ≠ 46 ∧ 97 ≠ 47 ∧ 97 ≠ 51 ∧ 97 ≠ 60 := by decide
theorem nr_9_2 : 98 ≠ 0 ∧ 98 ≠ 46 ∧ 98 ≠ 47 ∧ 98 ≠ 51 ∧ 98 ≠ 60 := by decide
theorem x_ok_0 {h : PH} (H : OKX h) : okO h 99 0 = true := by rw [okO_Sk, H.1]; rfl
theorem x_ok_1 {h : PH} (H : OKX h) {a : Nat} (ha : A1 a) : okO h a 1 = true := by rw [okO_Sk, H.1]; rcases ha with rfl | rfl <;> rfl
theorem x_ok_10 {h : PH} (H : OKX h) {a : Nat} (ha : A10 a) : okO h a 10 = true := by rw [okO_Sk, H.1]; rcases ha with rfl | rfl <;> rfl
theorem x_ok_11 {h : PH} (H : OKX h) : okO h 0 11 = true := by rw [okO_Sk, H.1]; rfl
theorem m_ok_12 {h : PH} (H : OKM h) : okO h 0 12 = true := by rw [okO_Sk, H]; rfl
theorem x_ok_2 {h : PH} (H : OKX h) {a : Nat} (ha : A2 a) : okO h a 2 = true := by rw [okO_Sk, H.1]; rcases ha with rfl | rfl | rfl | rfl | rfl | rfl <;> rfl
theorem x_ok_3 {h : PH} (H : OKX h) : okO h 90 3 = true := by rw [okO_Sk, H.1]; rfl
theorem x_ok_4 {h : PH} (H : OKX h) {a : Nat} (ha : A4 a) : okO h a 4 = true := by rw [okO_Sk, H.1]; rcases ha with rfl | rfl | rfl <;> rfl
theorem x_ok_5 {h : PH} (H : OKX h) : okO h 46 5 = true := by rw [okO_Sk, H.1]; rfl
theorem x_ok_6 {h : PH} (H : OKX h) {a : Nat} (ha : A6 a) : okO h a 6 = true := by rw [okO_Sk, H.1]; rcases ha with rfl | rfl <;> rfl
theorem x_ok_7 {h : PH} (H : OKX h) : okO h 47 7 = true := by rw [okO_Sk, H.1]; rfl
theorem x_ok_8 {h : PH} (H : OKX h) {a : Nat} (ha : A8 a) : okO h a 8 = true := by rw [okO_Sk, H.1]; rcases ha with rfl | rfl <;> rfl
theorem x_ok_9 {h : PH} (H : OKX h) : okO h 96 9 = true := by rw [okO_Sk, H.1]; rfl
theorem x_pI_0_11 {h : PH} (H : OKX h) {v : Int32} {V : Int} (ev : v = Z3 V) (hr : r3 V) : ∃ h', pI h 99 0 11 v = some h' ∧ OKX h' ∧ rd h' = up (rd h) 99 11 V := x_pI H rfl (by simp [nrx]) ev hr
theorem x_pI_0_12 {h : PH} (H : OKX h) {v : Int32} {V : Int} (ev : v = Z3 V) (hr : r3 V) : ∃ h', pI h 99 0 12 v = some h' ∧ OKX h' ∧ rd h' = up (rd h) 99 12 V := x_pI H rfl (by simp [nrx]) ev hr
theorem x_pI_0_6 {h : PH} (H : OKX h) {v : Int32} {V : Int} (ev : v = Z3 V) (hr : r3 V) : ∃ h', pI h 99 0 6 v = some h' ∧ OKX h' ∧ rd h' = up (rd h) 99 6 V := x_pI H rfl (by simp [nrx]) ev hr
theorem x_pI_1_0 {h : PH} (H : OKX h) {a : Nat} (ha : A1 a) {v : Int32} {V : Int} (ev : v = Z3 V) (hr : r3 V) : ∃ h', pI h a 1 0 v = some h' ∧ OKX h' ∧ rd h' = up (rd h) a 0 V := x_pI H (by rcases ha with rfl | rfl <;> rfl) (by rcases ha with rfl | rfl <;> simp [nrx]) ev hr
theorem x_pI_10_0 {h : PH} (H : OKX h) {a : Nat} (ha : A10 a) {v : Int32} {V : Int} (ev : v = Z3 V) (hr : r3 V) : ∃ h', pI h a 10 0 v = some h' ∧ OKX h' ∧ rd h' = up (rd h) a 0 V := x_pI H (by rcases ha with rfl | rfl <;> rfl) (by rcases ha with rfl | rfl <;> simp [nrx]) ev hr
theorem x_pI_10_1 {h : PH} (H : OKX h) {a : Nat} (ha : A10 a) {v : Int32} {V : Int} (ev : v = Z3 V) (hr : r3 V) : ∃ h', pI h a 10 1 v = some h' ∧ OKX h' ∧ rd h' = up (rd h) a 1 V := x_pI H (by rcases ha with rfl | rfl <;> rfl) (by rcases ha with rfl | rfl <;> simp [nrx]) ev hr
theorem x_pI_11_1 {h : PH} (H : OKX h) {v : Int32} {V : Int} (ev : v = Z3 V) (hr : r3 V) : ∃ h', pI h 0 11 1 v = some h' ∧ OKX h' ∧ rd h' = up (rd h) 0 1 V := x_pI H rfl (by simp [nrx]) ev hr
theorem m_pI_12_1 {h : PH} (H : OKM h) {v : Int32} {V : Int} (ev : v = Z3 V) (hr : r3 V) : ∃ h', pI h 0 12 1 v = some h' ∧ OKM h' ∧ rd h' = up (rd h) 0 1 V := m_pI H rfl ev hr
theorem m_pI_12_10 {h : PH} (H : OKM h) {v : Int32} {V : Int} (ev : v = Z3 V) (hr : r3 V) : ∃ h', pI h 0 12 10 v = some h' ∧ OKM h' ∧ rd h' = up (rd h) 0 10 V := m_pI H rfl ev hr
theorem m_pI_12_11 {h : PH} (H : OKM h) {v : Int32} {V : Int} (ev : v = Z3 V) (hr : r3 V) : ∃ h', pI h 0 12 11 v = some h' ∧ OKM h' ∧ rd h' = up (rd h) 0 11 V := m_pI H rfl ev hr
theorem m_pI_12_12 {h : PH} (H : OKM h) {v : Int32} {V : Int} (ev : v = Z3 V) (hr : r3 V) : ∃ h', pI h 0 12 12 v = some h' ∧ OKM h' ∧ rd h' = up (rd h) 0 12 V := m_pI H rfl ev hr
theorem m_pI_12_13 {h : PH} (H : OKM h) {v : Int32} {V : Int} (ev : v = Z3 V) (hr : r3 V) : ∃ h', pI h 0 12 13 v = some h' ∧ OKM h' ∧ rd h' = up (rd h) 0 13 V := m_pI H rfl ev hr
theorem m_pI_12_14 {h : PH} (H : OKM h) {v : Int32} {V : Int} (ev : v = Z3 V) (hr : r3 V) : ∃ h', pI h 0 12 14 v = some h' ∧ OKM h' ∧ rd h' = up (rd h) 0 14 V := m_pI H rfl ev hr
theorem m_pI_12_15 {h : PH} (H : OKM h) {v : Int32} {V : Int} (ev : v = Z3 V) (hr : r3 V) : ∃ h', pI h 0 12 15 v = some h' ∧ OKM h' ∧ rd h' = up (rd h) 0 15 V := m_pI H rfl ev hr
theorem m_pI_12_16 {h : PH} (H : OKM h) {v : Int32} {V : Int} (ev : v = Z3 V) (hr : r3 V) : ∃ h', pI h 0 12 16 v = some h' ∧ OKM h' ∧ rd h' = up (rd h) 0 16 V := m_pI H rfl ev hr
theorem m_pI_12_17 {h : PH} (H : OKM h) {v : Int32} {V : Int} (ev : v = Z3 V) (hr : r3 V) : ∃ h', pI h 0 12 17 v = some h' ∧ OKM h' ∧ rd h' = up (rd h) 0 17 V := m_pI H rfl ev hr
theorem m_pI_12_18 {h : PH} (H : OKM h) {v : Int32} {V : Int} (ev : v = Z3 V) (hr : r3 V) : ∃ h', pI h 0 12 18 v = some h' ∧ OKM h' ∧ rd h' = up (rd h) 0 18 V := m_pI H rfl ev hr
theorem m_pI_12_19 {h : PH} (H : OKM h) {v : Int32} {V : Int} (ev : v = Z3 V) (hr : r3 V) : ∃ h', pI h 0 12 19 v = some h' ∧ OKM h' ∧ rd h' = up (rd h) 0 19 V := m_pI H rfl ev hr
theorem m_pI_12_2 {h : PH} (H : OKM h) {v : Int32} {V : Int} (ev : v = Z3 V) (hr : r3 V) : ∃ h', pI h 0 12 2 v = some h' ∧ OKM h' ∧ rd h' = up (rd h) 0 2 V := m_pI H rfl ev hr
theorem m_pI_12_20 {h : PH} (H : OKM h) {v : Int32} {V : Int} (ev : v = Z3 V) (hr : r3 V) : ∃ h', pI h 0 12 20 v = some h' ∧ OKM h' ∧ rd h' = up (rd h) 0 20 V := m_pI H rfl ev hr
theorem m_pI_12_21 {h : PH} (H : OKM h) {v : Int32} {V : Int} (ev : v = Z3 V) (hr : r3 V) : ∃ h', pI h 0 12 21 v = some h' ∧ OKM h' ∧ rd h' = up (rd h) 0 21 V := m_pI H rfl ev hr
theorem m_pI_12_22 {h : PH} (H : OKM h) {v : Int32} {V : Int} (ev : v = Z3 V) (hr : r3 V) : ∃ h', pI h 0 12 22 v = some h' ∧ OKM h' ∧ rd h' = up (rd h) 0 22 V := m_pI H rfl ev hr
theorem m_pI_12_23 {h : PH} (H : OKM h) {v : Int32} {V : Int} (ev : v = Z3 V) (hr : r3 V) : ∃ h', pI h 0 12 23 v = some h' ∧ OKM h' ∧ rd h' = up (rd h) 0 23 V := m_pI H rfl ev hr
theorem m_pI_12_4 {h : PH} (H : OKM h) {v : Int32} {V : Int} (ev : v = Z3 V) (hr : r3 V) : ∃ h', pI h 0 12 4 v = some h' ∧ OKM h' ∧ rd h' = up (rd h) 0 4 V := m_pI H rfl ev hr
theorem m_pI_12_43 {h : PH} (H : OKM h) {v : Int32} {V : Int} (ev : v = Z3 V) (hr : r3 V) : ∃ h', pI h 0 12 43 v = some h' ∧ OKM h' ∧ rd h' = up (rd h) 0 43 V := m_pI H rfl ev hr
theorem m_pI_12_46 {h : PH} (H : OKM h) {v : Int32} {V : Int} (ev : v = Z3 V) (hr : r3 V) : ∃ h', pI h 0 12 46 v = some h' ∧ OKM h' ∧ rd h' = up (rd h) 0 46 V := m_pI H rfl ev hr
theorem m_pI_12_47 {h : PH} (H : OKM h) {v : Int32} {V : Int} (ev : v = Z3 V) (hr : r3 V) : ∃ h', pI h 0 12 47 v = some h' ∧ OKM h' ∧ rd h' = up (rd h) 0 47 V := m_pI H rfl ev hr
theorem m_pI_12_48 {h : PH} (H : OKM h) {v : Int32} {V : Int} (ev : v = Z3 V) (hr : r3 V) : ∃ h', pI h 0 12 48 v = some h' ∧ OKM h' ∧ rd h' = up (rd h) 0 48 V := m_pI H rfl ev hr
theorem m_pI_12_49 {h : PH} (H : OKM h) {v : Int32} {V : Int} (ev : v = Z3 V) (hr : r3 V) : ∃ h', pI h 0 12 49 v = some h' ∧ OKM h' ∧ rd h' = up (rd h) 0 49 V := m_pI H rfl ev hr
theorem m_pI_12_5 {h : PH} (H : OKM h) {v : Int32} {V : Int} (ev : v = Z3 V) (hr : r3 V) : ∃ h', pI h 0 12 5 v = some h' ∧ OKM h' ∧ rd h' = up (rd h) 0 5 V := m_pI H rfl ev hr
theorem m_pI_12_6 {h : PH} (H : OKM h) {v : Int32} {V : Int} (ev : v = Z3 V) (hr : r3 V) : ∃ h', pI h 0 12 6 v = some h' ∧ OKM h' ∧ rd h' = up (rd h) 0 6 V := m_pI H rfl ev hr
theorem m_pI_12_64 {h : PH} (H : OKM h) {v : Int32} {V : Int} (ev : v = Z3 V) (hr : r3 V) : ∃ h', pI h 0 12 64 v = some h' ∧ OKM h' ∧ rd h' = up (rd h) 0 64 V := m_pI H rfl ev hr
theorem m_pI_12_66 {h : PH} (H : OKM h) {v : Int32} {V : Int} (ev : v = Z3 V) (hr : r3 V) : ∃ h', pI h 0 12 66 v = some h' ∧ OKM h' ∧ rd h' = up (rd h) 0 66 V := m_pI H rfl ev hr
theorem m_pI_12_67 {h : PH} (H : OKM h) {v : Int32} {V : Int} (ev : v = Z3 V) (hr : r3 V) : ∃ h', pI h 0 12 67 v = some h' ∧ OKM h' ∧ rd h' = up (rd h) 0 67 V := m_pI H rfl ev hr
theorem m_pI_12_69 {h : PH} (H : OKM h) {v : Int32} {V : Int} (ev : v = Z3 V) (hr : r3 V) : ∃ h', pI h 0 12 69 v = some h' ∧ OKM h' ∧ rd h' = up (rd h) 0 69 V := m_pI H rfl ev hr
theorem m_pI_12_7 {h : PH} (H : OKM h) {v : Int32} {V : Int} (ev : v = Z3 V) (hr : r3 V) : ∃ h', pI h 0 12 7 v = some h' ∧ OKM h' ∧ rd h' = up (rd h) 0 7 V := m_pI H rfl ev hr
theorem m_pI_12_74 {h : PH} (H : OKM h) {v : Int32} {V : Int} (ev : v = Z3 V) (hr : r3 V) : ∃ h', pI h 0 12 74 v = some h' ∧ OKM h' ∧ rd h' = up (rd h) 0 74 V := m_pI H rfl ev hr
theorem m_pI_12_75 {h : PH} (H : OKM h) {v : Int32} {V : Int} (ev : v = Z3 V) (hr : r3 V) : ∃ h', pI h 0 12 75 v = some h' ∧ OKM h' ∧ rd h' = up (rd h) 0 75 V := m_pI H rfl ev hr
theorem m_pI_12_78 {h : PH} (H : OKM h) {v : Int32} {V : Int} (ev : v = Z3 V) (hr : r3 V) : ∃ h', pI h 0 12 78 v = some h' ∧ OKM h' ∧ rd h' = up (rd h) 0 78 V := m_pI H rfl ev hr
theorem m_pI_12_8 {h : PH} (H : OKM h) {v : Int32} {V : Int} (ev : v = Z3 V) (hr : r3 V) : ∃ h', pI h 0 12 8 v = some h' ∧ OKM h' ∧ rd h' = up (rd h) 0 8 V := m_pI H rfl ev hr
theorem m_pI_12_82 {h : PH} (H : OKM h) {v : Int32} {V : Int} (ev : v = Z3 V) (hr : r3 V) : ∃ h', pI h 0 12 82 v = some h' ∧ OKM h' ∧ rd h' = up (rd h) 0 82 V := m_pI H rfl ev hr
theorem m_pI_12_83 {h : PH} (H : OKM h) {v : Int32} {V : Int} (ev : v = Z3 V) (hr : r3 V) : ∃ h', pI h 0 12 83 v = some h' ∧ OKM h' ∧ rd h' = up (rd h) 0 83 V := m_pI H rfl ev hr
theorem m_pI_12_84 {h : PH} (H : OKM h) {v : Int32} {V : Int} (ev : v = Z3 V) (hr : r3 V) : ∃ h', pI h 0 12 84 v = some h' ∧ OKM h' ∧ rd h' = up (rd h) 0 84 V := m_pI H rfl ev hr
theorem m_pI_12_85 {h : PH} (H : OKM h) {v : Int32} {V : Int} (ev : v = Z3 V) (hr : r3 V) : ∃ h', pI h 0 12 85 v = some h' ∧ OKM h' ∧ rd h' = up (rd h) 0 85 V := m_pI H rfl ev hr
theorem m_pI_12_9 {h : PH} (H : OKM h) {v : Int32} {V : Int} (ev : v = Z3 V) (hr : r3 V) : ∃ h', pI h 0 12 9 v = some h' ∧ OKM h' ∧ rd h' = up (rd h) 0 9 V := m_pI H rfl ev hr
theorem x_pI_2_1 {h : PH} (H : OKX h) {a : Nat} (ha : A2 a) {v : Int32} {V : Int} (ev : v = Z3 V) (hr : r3 V) : ∃ h', pI h a 2 1 v = some h' ∧ OKX h' ∧ rd h' = up (rd h) a 1 V := x_pI H (by rcases ha with rfl | rfl | rfl | rfl | rfl | rfl <;> rfl) (by rcases ha with rfl | rfl | rfl | rfl | rfl | rfl <;> simp [nrx]) ev hr
theorem x_pI_3_0 {h : PH} (H : OKX h) {v : Int32} {V : Int} (ev : v = Z3 V) (hr : r3 V) : ∃ h', pI h 90 3 0 v = some h' ∧ OKX h' ∧ rd h' = up (rd h) 90 0 V := x_pI H rfl (by simp [nrx]) ev hr
theorem x_pI_3_1 {h : PH} (H : OKX h) {v : Int32} {V : Int} (ev : v = Z3 V) (hr : r3 V) : ∃ h', pI h 90 3 1 v = some h' ∧ OKX h' ∧ rd h' = up (rd h) 90 1 V := x_pI H rfl (by simp [nrx]) ev hr
theorem x_pI_4_0 {h : PH} (H : OKX h) {a : Nat} (ha : A4 a) {v : Int32} {V : Int} (ev : v = Z3 V) (hr : r3 V) : ∃ h', pI h a 4 0 v = some h' ∧ OKX h' ∧ rd h' = up (rd h) a 0 V := x_pI H (by rcases ha with rfl | rfl | rfl <;> rfl) (by rcases ha with rfl | rfl | rfl <;> simp [nrx]) ev hr
theorem x_pI_4_1 {h : PH} (H : OKX h) {a : Nat} (ha : A4 a) {v : Int32} {V : Int} (ev : v = Z3 V) (hr : r3 V) : ∃ h', pI h a 4 1 v = some h' ∧ OKX h' ∧ rd h' = up (rd h) a 1 V := x_pI H (by rcases ha with rfl | rfl | rfl <;> rfl) (by rcases ha with rfl | rfl | rfl <;> simp [nrx]) ev hr
theorem x_pI_4_2 {h : PH} (H : OKX h) {a : Nat} (ha : A4 a) {v : Int32} {V : Int} (ev : v = Z3 V) (hr : r3 V) : ∃ h', pI h a 4 2 v = some h' ∧ OKX h' ∧ rd h' = up (rd h) a 2 V := x_pI H (by rcases ha with rfl | rfl | rfl <;> rfl) (by rcases ha with rfl | rfl | rfl <;> simp [nrx]) ev hr
theorem x_pI_4_3 {h : PH} (H : OKX h) {a : Nat} (ha : A4 a) {v : Int32} {V : Int} (ev : v = Z3 V) (hr : r3 V) : ∃ h', pI h a 4 3 v = some h' ∧ OKX h' ∧ rd h' = up (rd h) a 3 V := x_pI H (by rcases ha with rfl | rfl | rfl <;> rfl) (by rcases ha with rfl | rfl | rfl <;> simp [nrx]) ev hr
theorem x_pI_4_4 {h : PH} (H : OKX h) {a : Nat} (ha : A4 a) {v : Int32} {V : Int} (ev : v = Z3 V) (hr : r3 V) : ∃ h', pI h a 4 4 v = some h' ∧ OKX h' ∧ rd h' = up (rd h) a 4 V := x_pI H (by rcases ha with rfl | rfl | rfl <;> rfl) (by rcases ha with rfl | rfl | rfl <;> simp [nrx]) ev hr
theorem x_pI_5_2 {h : PH} (H : OKX h) {v : Int32} {V : Int} (ev : v = Z3 V) (hr : r3 V) : ∃ h', pI h 46 5 2 v = some h' ∧ OKX h' ∧ rd h' = up (rd h) 46 2 V := x_pI H rfl (by simp [nrx]) ev hr
theorem x_pI_5_3 {h : PH} (H : OKX h) {v : Int32} {V : Int} (ev : v = Z3 V) (hr : r3 V) : ∃ h', pI h 46 5 3 v = some h' ∧ OKX h' ∧ rd h' = up (rd h) 46 3 V := x_pI H rfl (by simp [nrx]) ev hr
theorem x_pI_5_6 {h : PH} (H : OKX h) {v : Int32} {V : Int} (ev : v = Z3 V) (hr : r3 V) : ∃ h', pI h 46 5 6 v = some h' ∧ OKX h' ∧ rd h' = up (rd h) 46 6 V := x_pI H rfl (by simp [nrx]) ev hr
theorem x_pI_5_8 {h : PH} (H : OKX h) {v : Int32} {V : Int} (ev : v = Z3 V) (hr : r3 V) : ∃ h', pI h 46 5 8 v = some h' ∧ OKX h' ∧ rd h' = up (rd h) 46 8 V := x_pI H rfl (by simp [nrx]) ev hr
theorem x_pI_5_9 {h : PH} (H : OKX h) {v : Int32} {V : Int} (ev : v = Z3 V) (hr : r3 V) : ∃ h', pI h 46 5 9 v = some h' ∧ OKX h' ∧ rd h' = up (rd h) 46 9 V := x_pI H rfl (by simp [nrx]) ev hr
theorem x_pI_7_2 {h : PH} (H : OKX h) {v : Int32} {V : Int} (ev : v = Z3 V) (hr : r3 V) : ∃ h', pI h 47 7 2 v = some h' ∧ OKX h' ∧ rd h' = up (rd h) 47 2 V := x_pI H rfl (by simp [nrx]) ev hr
theorem x_pI_7_3 {h : PH} (H : OKX h) {v : Int32} {V : Int} (ev : v = Z3 V) (hr : r3 V) : ∃ h', pI h 47 7 3 v = some h' ∧ OKX h' ∧ rd h' = up (rd h) 47 3 V := x_pI H rfl (by simp [nrx]) ev hr
theorem x_pI_7_4 {h : PH} (H : OKX h) {v : Int32} {V : Int} (ev : v = Z3 V) (hr : r3 V) : ∃ h', pI h 47 7 4 v = some h' ∧ OKX h' ∧ rd h' = up (rd h) 47 4 V := x_pI H rfl (by simp [nrx]) ev hr
theorem x_pI_7_5 {h : PH} (H : OKX h) {v : Int32} {V : Int} (ev : v = Z3 V) (hr : r3 V) : ∃ h', pI h 47 7 5 v = some h' ∧ OKX h' ∧ rd h' = up (rd h) 47 5 V := x_pI H rfl (by simp [nrx]) ev hr
theorem x_pI_7_6 {h : PH} (H : OKX h) {v : Int32} {V : Int} (ev : v = Z3 V) (hr : r3 V) : ∃ h', pI h 47 7 6 v = some h' ∧ OKX h' ∧ rd h' = up (rd h) 47 6 V := x_pI H rfl (by simp [nrx]) ev hr
theorem x_pI_8_0 {h : PH} (H : OKX h) {a : Nat} (ha : A8 a) {v : Int32} {V : Int} (ev : v = Z3 V) (hr : r3 V) : ∃ h', pI h a 8 0 v = some h' ∧ OKX h' ∧ rd h' = up (rd h) a 0 V := x_pI H (by rcases ha with rfl | rfl <;> rfl) (by rcases ha with rfl | rfl <;> simp [nrx]) ev hr
theorem x_pI_8_1 {h : PH} (H : OKX h) {a : Nat} (ha : A8 a) {v : Int32} {V : Int} (ev : v = Z3 V) (hr : r3 V) : ∃ h', pI h a 8 1 v = some h' ∧ OKX h' ∧ rd h' = up (rd h) a 1 V := x_pI H (by rcases ha with rfl | rfl <;> rfl) (by rcases ha with rfl | rfl <;> simp [nrx]) ev hr
theorem x_pI_8_10 {h : PH} (H : OKX h) {a : Nat} (ha : A8 a) {v : Int32} {V : Int} (ev : v = Z3 V) (hr : r3 V) : ∃ h', pI h a 8 10 v = some h' ∧ OKX h' ∧ rd h' = up (rd h) a 10 V := x_pI H (by rcases ha with rfl | rfl <;> rfl) (by rcases ha with rfl | rfl <;> simp [nrx]) ev hr
theorem x_pI_8_12 {h : PH} (H : OKX h) {a : Nat} (ha : A8 a) {v : Int32} {V : Int} (ev : v = Z3 V) (hr : r3 V) : ∃ h', pI h a 8 12 v = some h' ∧ OKX h' ∧ rd h' = up (rd h) a 12 V := x_pI H (by rcases ha with rfl | rfl <;> rfl) (by rcases ha with rfl | rfl <;> simp [nrx]) ev hr
theorem x_pI_8_13 {h : PH} (H : OKX h) {a : Nat} (ha : A8 a) {v : Int32} {V : Int} (ev : v = Z3 V) (hr : r3 V) : ∃ h', pI h a 8 13 v = some h' ∧ OKX h' ∧ rd h' = up (rd h) a 13 V := x_pI H (by rcases ha with rfl | rfl <;> rfl) (by rcases ha with rfl | rfl <;> simp [nrx]) ev hr
theorem x_pI_8_2 {h : PH} (H : OKX h) {a : Nat} (ha : A8 a) {v : Int32} {V : Int} (ev : v = Z3 V) (hr : r3 V) : ∃ h', pI h a 8 2 v = some h' ∧ OKX h' ∧ rd h' = up (rd h) a 2 V := x_pI H (by rcases ha with rfl | rfl <;> rfl) (by rcases ha with rfl | rfl <;> simp [nrx]) ev hr
theorem x_pI_8_3 {h : PH} (H : OKX h) {a : Nat} (ha : A8 a) {v : Int32} {V : Int} (ev : v = Z3 V) (hr : r3 V) : ∃ h', pI h a 8 3 v = some h' ∧ OKX h' ∧ rd h' = up (rd h) a 3 V := x_pI H (by rcases ha with rfl | rfl <;> rfl) (by rcases ha with rfl | rfl <;> simp [nrx]) ev hr
theorem x_pI_8_6 {h : PH} (H : OKX h) {a : Nat} (ha : A8 a) {v : Int32} {V : Int} (ev : v = Z3 V) (hr : r3 V) : ∃ h', pI h a 8 6 v = some h' ∧ OKX h' ∧ rd h' = up (rd h) a 6 V := x_pI H (by rcases ha with rfl | rfl <;> rfl) (by rcases ha with rfl | rfl <;> simp [nrx]) ev hr
theorem x_pI_8_7 {h : PH} (H : OKX h) {a : Nat} (ha : A8 a) {v : Int32} {V : Int} (ev : v = Z3 V) (hr : r3 V) : ∃ h', pI h a 8 7 v = some h' ∧ OKX h' ∧ rd h' = up (rd h) a 7 V := x_pI H (by rcases ha with rfl | rfl <;> rfl) (by rcases ha with rfl | rfl <;> simp [nrx]) ev hr
theorem x_pI_8_8 {h : PH} (H : OKX h) {a : Nat} (ha : A8 a) {v : Int32} {V : Int} (ev : v = Z3 V) (hr : r3 V) : ∃ h', pI h a 8 8 v = some h' ∧ OKX h' ∧ rd h' = up (rd h) a 8 V := x_pI H (by rcases ha with rfl | rfl <;> rfl) (by rcases ha with rfl | rfl <;> simp [nrx]) ev hr
theorem x_pI_8_9 {h : PH} (H : OKX h) {a : Nat} (ha : A8 a) {v : Int32} {V : Int} (ev : v = Z3 V) (hr : r3 V) : ∃ h', pI h a 8 9 v = some h' ∧ OKX h' ∧ rd h' = up (rd h) a 9 V := x_pI H (by rcases ha with rfl | rfl <;> rfl) (by rcases ha with rfl | rfl <;> simp [nrx]) ev hr
theorem x_pI_9_0 {h : PH} (H : OKX h) {v : Int32} {V : Int} (ev : v = Z3 V) (hr : r3 V) : ∃ h', pI h 96 9 0 v = some h' ∧ OKX h' ∧ rd h' = up (rd h) 96 0 V := x_pI H rfl (by simp [nrx]) ev hr
theorem m_pJ_12_65 {h : PH} (H : OKM h) {v : Int64} {V : Int} (ev : v = Z6 V) (hr : r6 V) : ∃ h', pJ h 0 12 65 v = some h' ∧ OKM h' ∧ rd h' = up (rd h) 0 65 V := m_pJ H rfl ev hr
theorem m_pJ_12_86 {h : PH} (H : OKM h) {v : Int64} {V : Int} (ev : v = Z6 V) (hr : r6 V) : ∃ h', pJ h 0 12 86 v = some h' ∧ OKM h' ∧ rd h' = up (rd h) 0 86 V := m_pJ H rfl ev hr
-- pR 11 3
-- pR 11 4
-- pR 5 10
-- pR 6 0
-- pR 7 1
theorem x_pZ_11_10 {h : PH} (H : OKX h) {v : Int32} {V : Int} (ev : v = Z3 V) (hr : V = 0 ∨ V = 1) : ∃ h', pZ h 0 11 10 v = some h' ∧ OKX h' ∧ rd h' = up (rd h) 0 10 V := x_pZ H rfl (by simp [nrx]) ev hr
theorem m_pZ_12_24 {h : PH} (H : OKM h) {v : Int32} {V : Int} (ev : v = Z3 V) (hr : V = 0 ∨ V = 1) : ∃ h', pZ h 0 12 24 v = some h' ∧ OKM h' ∧ rd h' = up (rd h) 0 24 V := m_pZ H rfl ev hr
theorem m_pZ_12_50 {h : PH} (H : OKM h) {v : Int32} {V : Int} (ev : v = Z3 V) (hr : V = 0 ∨ V = 1) : ∃ h', pZ h 0 12 50 v = some h' ∧ OKM h' ∧ rd h' = up (rd h) 0 50 V := m_pZ H rfl ev hr
theorem m_pZ_12_51 {h : PH} (H : OKM h) {v : Int32} {V : Int} (ev : v = Z3 V) (hr : V = 0 ∨ V = 1) : ∃ h', pZ h 0 12 51 v = some h' ∧ OKM h' ∧ rd h' = up (rd h) 0 51 V := m_pZ H rfl ev hr
theorem m_pZ_12_54 {h : PH} (H : OKM h) {v : Int32} {V : Int} (ev : v = Z3 V) (hr : V = 0 ∨ V = 1) : ∃ h', pZ h 0 12 54 v = some h' ∧ OKM h' ∧ rd h' = up (rd h) 0 54 V := m_pZ H rfl ev hr
theorem m_pZ_12_80 {h : PH} (H : OKM h) {v : Int32} {V : Int} (ev : v = Z3 V) (hr : V = 0 ∨ V = 1) : ∃ h', pZ h 0 12 80 v = some h' ∧ OKM h' ∧ rd h' = up (rd h) 0 80 V := m_pZ H rfl ev hr
theorem x_pZ_2_2 {h : PH} (H : OKX h) {a : Nat} (ha : A2 a) {v : Int32} {V : Int} (ev : v = Z3 V) (hr : V = 0 ∨ V = 1) : ∃ h', pZ h a 2 2 v = some h' ∧ OKX h' ∧ rd h' = up (rd h) a 2 V := x_pZ H (by rcases ha with rfl | rfl | rfl | rfl | rfl | rfl <;> rfl) (by rcases ha with rfl | rfl | rfl | rfl | rfl | rfl <;> simp [nrx]) ev hr
theorem x_pZ_5_4 {h : PH} (H : OKX h) {v : Int32} {V : Int} (ev : v = Z3 V) (hr : V = 0 ∨ V = 1) : ∃ h', pZ h 46 5 4 v = some h' ∧ OKX h' ∧ rd h' = up (rd h) 46 4 V := x_pZ H rfl (by simp [nrx]) ev hr
theorem x_pZ_5_5 {h : PH} (H : OKX h) {v : Int32} {V : Int} (ev : v = Z3 V) (hr : V = 0 ∨ V = 1) : ∃ h', pZ h 46 5 5 v = some h' ∧ OKX h' ∧ rd h' = up (rd h) 46 5 V := x_pZ H rfl (by simp [nrx]) ev hr
theorem x_pZ_5_7 {h : PH} (H : OKX h) {v : Int32} {V : Int} (ev : v = Z3 V) (hr : V = 0 ∨ V = 1) : ∃ h', pZ h 46 5 7 v = some h' ∧ OKX h' ∧ rd h' = up (rd h) 46 7 V := x_pZ H rfl (by simp [nrx]) ev hr
theorem x_row_1_3 {h : PH} (H : OKX h) {a : Nat} (ha : R1_3 a) : cA (Sk h) a 1 = some 5 := by rw [H.1]; rcases ha with rfl | rfl <;> rfl
theorem x_row_1_5 {h : PH} (H : OKX h) {a : Nat} (ha : R1_5 a) : cA (Sk h) a 1 = some 5 := by rw [H.1]; rcases ha with rfl | rfl <;> rfl
theorem x_row_4_10 {h : PH} (H : OKX h) {a : Nat} (ha : R4_10 a) : cA (Sk h) a 1 = some 28 := by rw [H.1]; rcases ha with rfl | rfl | rfl <;> rfl
theorem x_row_4_5 {h : PH} (H : OKX h) {a : Nat} (ha : R4_5 a) : cA (Sk h) a 1 = some 5 := by rw [H.1]; rcases ha with rfl | rfl | rfl <;> rfl
theorem x_row_4_6 {h : PH} (H : OKX h) {a : Nat} (ha : R4_6 a) : cA (Sk h) a 1 = some 5 := by rw [H.1]; rcases ha with rfl | rfl | rfl <;> rfl
theorem x_row_4_7 {h : PH} (H : OKX h) {a : Nat} (ha : R4_7 a) : cA (Sk h) a 1 = some 5 := by rw [H.1]; rcases ha with rfl | rfl | rfl <;> rfl
theorem x_row_4_8 {h : PH} (H : OKX h) {a : Nat} (ha : R4_8 a) : cA (Sk h) a 1 = some 5 := by rw [H.1]; rcases ha with rfl | rfl | rfl <;> rfl
theorem x_row_4_9 {h : PH} (H : OKX h) {a : Nat} (ha : R4_9 a) : cA (Sk h) a 1 = some 5 := by rw [H.1]; rcases ha with rfl | rfl | rfl <;> rfl
theorem x_row_6_1 {h : PH} (H : OKX h) {a : Nat} (ha : R6_1 a) : cA (Sk h) a 1 = some 5 := by rw [H.1]; rcases ha with rfl | rfl <;> rfl
theorem x_row_6_2 {h : PH} (H : OKX h) {a : Nat} (ha : R6_2 a) : cA (Sk h) a 1 = some 5 := by rw [H.1]; rcases ha with rfl | rfl <;> rfl
theorem x_row_6_3 {h : PH} (H : OKX h) {a : Nat} (ha : R6_3 a) : cA (Sk h) a 1 = some 28 := by rw [H.1]; rcases ha with rfl | rfl <;> rfl
theorem x_row_9_1 {h : PH} (H : OKX h) : cA (Sk h) 97 1 = some 20 := by rw [H.1]; rfl
theorem x_row_9_2 {h : PH} (H : OKX h) : cA (Sk h) 98 1 = some 20 := by rw [H.1]; rfl
theorem x_sI_0_0 {h : PH} (H : OKX h) {i : Int32} {I : Int} (hi : i = Z3 I) (c : 0 ≤ I ∧ I < 10) {x : Int32} {X : Int} (hx : x = Z3 X) (hr : r3 X) : ∃ h', sI h 100 0 i x = some h' ∧ OKX h' ∧ rd h' = up (rd h) 100 I X := x_sI (t := 0) (n := 10) H rfl (by decide) (fun k => nrx_row (by decide) k) hi c hx hr
theorem x_sI_0_1 {h : PH} (H : OKX h) {i : Int32} {I : Int} (hi : i = Z3 I) (c : 0 ≤ I ∧ I < 280) {x : Int32} {X : Int} (hx : x = Z3 X) (hr : r3 X) : ∃ h', sI h 101 0 i x = some h' ∧ OKX h' ∧ rd h' = up (rd h) 101 I X := x_sI (t := 0) (n := 280) H rfl (by decide) (fun k => nrx_row (by decide) k) hi c hx hr
theorem x_sI_0_10 {h : PH} (H : OKX h) {i : Int32} {I : Int} (hi : i = Z3 I) (c : 0 ≤ I ∧ I < 28) {x : Int32} {X : Int} (hx : x = Z3 X) (hr : r3 X) : ∃ h', sI h 109 0 i x = some h' ∧ OKX h' ∧ rd h' = up (rd h) 109 I X := x_sI (t := 0) (n := 28) H rfl (by decide) (fun k => nrx_row (by decide) k) hi c hx hr
theorem x_sI_0_2 {h : PH} (H : OKX h) {i : Int32} {I : Int} (hi : i = Z3 I) (c : 0 ≤ I ∧ I < 280) {x : Int32} {X : Int} (hx : x = Z3 X) (hr : r3 X) : ∃ h', sI h 102 0 i x = some h' ∧ OKX h' ∧ rd h' = up (rd h) 102 I X := x_sI (t := 0) (n := 280) H rfl (by decide) (fun k => nrx_row (by decide) k) hi c hx hr
theorem x_sI_0_3 {h : PH} (H : OKX h) {i : Int32} {I : Int} (hi : i = Z3 I) (c : 0 ≤ I ∧ I < 25) {x : Int32} {X : Int} (hx : x = Z3 X) (hr : r3 X) : ∃ h', sI h 103 0 i x = some h' ∧ OKX h' ∧ rd h' = up (rd h) 103 I X := x_sI (t := 0) (n := 25) H rfl (by decide) (fun k => nrx_row (by decide) k) hi c hx hr
theorem x_sI_0_4 {h : PH} (H : OKX h) {i : Int32} {I : Int} (hi : i = Z3 I) (c : 0 ≤ I ∧ I < 25) {x : Int32} {X : Int} (hx : x = Z3 X) (hr : r3 X) : ∃ h', sI h 104 0 i x = some h' ∧ OKX h' ∧ rd h' = up (rd h) 104 I X := x_sI (t := 0) (n := 25) H rfl (by decide) (fun k => nrx_row (by decide) k) hi c hx hr
theorem x_sI_0_5 {h : PH} (H : OKX h) {i : Int32} {I : Int} (hi : i = Z3 I) (c : 0 ≤ I ∧ I < 25) {x : Int32} {X : Int} (hx : x = Z3 X) (hr : r3 X) : ∃ h', sI h 105 0 i x = some h' ∧ OKX h' ∧ rd h' = up (rd h) 105 I X := x_sI (t := 0) (n := 25) H rfl (by decide) (fun k => nrx_row (by decide) k) hi c hx hr
theorem x_sI_0_7 {h : PH} (H : OKX h) {i : Int32} {I : Int} (hi : i = Z3 I) (c : 0 ≤ I ∧ I < 29) {x : Int32} {X : Int} (hx : x = Z3 X) (hr : r3 X) : ∃ h', sI h 106 0 i x = some h' ∧ OKX h' ∧ rd h' = up (rd h) 106 I X := x_sI (t := 0) (n := 29) H rfl (by decide) (fun k => nrx_row (by decide) k) hi c hx hr
theorem x_sI_0_8 {h : PH} (H : OKX h) {i : Int32} {I : Int} (hi : i = Z3 I) (c : 0 ≤ I ∧ I < 28) {x : Int32} {X : Int} (hx : x = Z3 X) (hr : r3 X) : ∃ h', sI h 107 0 i x = some h' ∧ OKX h' ∧ rd h' = up (rd h) 107 I X := x_sI (t := 0) (n := 28) H rfl (by decide) (fun k => nrx_row (by decide) k) hi c hx hr
theorem x_sI_0_9 {h : PH} (H : OKX h) {i : Int32} {I : Int} (hi : i = Z3 I) (c : 0 ≤ I ∧ I < 28) {x : Int32} {X : Int} (hx : x = Z3 X) (hr : r3 X) : ∃ h', sI h 108 2 i x = some h' ∧ OKX h' ∧ rd h' = up (rd h) 108 I X := x_sI (t := 2) (n := 28) H rfl (by decide) (fun k => nrx_row (by decide) k) hi c hx hr
theorem x_sI_1_1 {h : PH} (H : OKX h) {a : Nat} (ha : R1_1 a) {i : Int32} {I : Int} (hi : i = Z3 I) (c : 0 ≤ I ∧ I < 5) {x : Int32} {X : Int} (hx : x = Z3 X) (hr : r3 X) : ∃ h', sI h a 0 i x = some h' ∧ OKX h' ∧ rd h' = up (rd h) a I X := x_sI (t := 0) (n := 5) H (by rcases ha with rfl | rfl <;> rfl) (by decide) (fun k => nrx_row (by rcases ha with rfl | rfl <;> decide) k) hi c hx hr
theorem x_sI_1_2 {h : PH} (H : OKX h) {a : Nat} (ha : R1_2 a) {i : Int32} {I : Int} (hi : i = Z3 I) (c : 0 ≤ I ∧ I < 5) {x : Int32} {X : Int} (hx : x = Z3 X) (hr : r3 X) : ∃ h', sI h a 0 i x = some h' ∧ OKX h' ∧ rd h' = up (rd h) a I X := x_sI (t := 0) (n := 5) H (by rcases ha with rfl | rfl <;> rfl) (by decide) (fun k => nrx_row (by rcases ha with rfl | rfl <;> decide) k) hi c hx hr
theorem x_sI_1_3 {h : PH} (H : OKX h) {a : Nat} (ha : R1_3 a) {i : Int32} {I : Int} (hi : i = Z3 I) (c : 0 ≤ I ∧ I < 5) {x : Int32} {X : Int} (hx : x = Z3 X) (hr : r3 X) : ∃ h', sI h a 0 i x = some h' ∧ OKX h' ∧ rd h' = up (rd h) a I X := x_sI (t := 0) (n := 5) H (by rcases ha with rfl | rfl <;> rfl) (by decide) (fun k => nrx_row (by rcases ha with rfl | rfl <;> decide) k) hi c hx hr
theorem x_sI_1_4 {h : PH} (H : OKX h) {a : Nat} (ha : R1_4 a) {i : Int32} {I : Int} (hi : i = Z3 I) (c : 0 ≤ I ∧ I < 5) {x : Int32} {X : Int} (hx : x = Z3 X) (hr : r3 X) : ∃ h', sI h a 0 i x = some h' ∧ OKX h' ∧ rd h' = up (rd h) a I X := x_sI (t := 0) (n := 5) H (by rcases ha with rfl | rfl <;> rfl) (by decide) (fun k => nrx_row (by rcases ha with rfl | rfl <;> decide) k) hi c hx hr
theorem x_sI_1_5 {h : PH} (H : OKX h) {a : Nat} (ha : R1_5 a) {i : Int32} {I : Int} (hi : i = Z3 I) (c : 0 ≤ I ∧ I < 5) {x : Int32} {X : Int} (hx : x = Z3 X) (hr : r3 X) : ∃ h', sI h a 0 i x = some h' ∧ OKX h' ∧ rd h' = up (rd h) a I X := x_sI (t := 0) (n := 5) H (by rcases ha with rfl | rfl <;> rfl) (by decide) (fun k => nrx_row (by rcases ha with rfl | rfl <;> decide) k) hi c hx hr
theorem x_sI_1_6 {h : PH} (H : OKX h) {a : Nat} (ha : R1_6 a) {i : Int32} {I : Int} (hi : i = Z3 I) (c : 0 ≤ I ∧ I < 5) {x : Int32} {X : Int} (hx : x = Z3 X) (hr : r3 X) : ∃ h', sI h a 0 i x = some h' ∧ OKX h' ∧ rd h' = up (rd h) a I X := x_sI (t := 0) (n := 5) H (by rcases ha with rfl | rfl <;> rfl) (by decide) (fun k => nrx_row (by rcases ha with rfl | rfl <;> decide) k) hi c hx hr
theorem x_sI_10_2 {h : PH} (H : OKX h) {a : Nat} (ha : R10_2 a) {i : Int32} {I : Int} (hi : i = Z3 I) (c : 0 ≤ I ∧ I < 4) {x : Int32} {X : Int} (hx : x = Z3 X) (hr : r3 X) : ∃ h', sI h a 0 i x = some h' ∧ OKX h' ∧ rd h' = up (rd h) a I X := x_sI (t := 0) (n := 4) H (by rcases ha with rfl | rfl <;> rfl) (by decide) (fun k => nrx_row (by rcases ha with rfl | rfl <;> decide) k) hi c hx hr
theorem x_sI_10_3 {h : PH} (H : OKX h) {a : Nat} (ha : R10_3 a) {i : Int32} {I : Int} (hi : i = Z3 I) (c : 0 ≤ I ∧ I < 4) {x : Int32} {X : Int} (hx : x = Z3 X) (hr : r3 X) : ∃ h', sI h a 0 i x = some h' ∧ OKX h' ∧ rd h' = up (rd h) a I X := x_sI (t := 0) (n := 4) H (by rcases ha with rfl | rfl <;> rfl) (by decide) (fun k => nrx_row (by rcases ha with rfl | rfl <;> decide) k) hi c hx hr
theorem x_sI_10_4 {h : PH} (H : OKX h) {a : Nat} (ha : R10_4 a) {i : Int32} {I : Int} (hi : i = Z3 I) (c : 0 ≤ I ∧ I < 28) {x : Int32} {X : Int} (hx : x = Z3 X) (hr : r3 X) : ∃ h', sI h a 0 i x = some h' ∧ OKX h' ∧ rd h' = up (rd h) a I X := x_sI (t := 0) (n := 28) H (by rcases ha with rfl | rfl <;> rfl) (by decide) (fun k => nrx_row (by rcases ha with rfl | rfl <;> decide) k) hi c hx hr
theorem x_sI_10_5 {h : PH} (H : OKX h) {a : Nat} (ha : R10_5 a) {i : Int32} {I : Int} (hi : i = Z3 I) (c : 0 ≤ I ∧ I < 28) {x : Int32} {X : Int} (hx : x = Z3 X) (hr : r3 X) : ∃ h', sI h a 0 i x = some h' ∧ OKX h' ∧ rd h' = up (rd h) a I X := x_sI (t := 0) (n := 28) H (by rcases ha with rfl | rfl <;> rfl) (by decide) (fun k => nrx_row (by rcases ha with rfl | rfl <;> decide) k) hi c hx hr
theorem x_sI_10_6 {h : PH} (H : OKX h) {a : Nat} (ha : R10_6 a) {i : Int32} {I : Int} (hi : i = Z3 I) (c : 0 ≤ I ∧ I < 28) {x : Int32} {X : Int} (hx : x = Z3 X) (hr : r3 X) : ∃ h', sI h a 0 i x = some h' ∧ OKX h' ∧ rd h' = up (rd h) a I X := x_sI (t := 0) (n := 28) H (by rcases ha with rfl | rfl <;> rfl) (by decide) (fun k => nrx_row (by rcases ha with rfl | rfl <;> decide) k) hi c hx hr
theorem x_sI_10_7 {h : PH} (H : OKX h) {a : Nat} (ha : R10_7 a) {i : Int32} {I : Int} (hi : i = Z3 I) (c : 0 ≤ I ∧ I < 28) {x : Int32} {X : Int} (hx : x = Z3 X) (hr : r3 X) : ∃ h', sI h a 0 i x = some h' ∧ OKX h' ∧ rd h' = up (rd h) a I X := x_sI (t := 0) (n := 28) H (by rcases ha with rfl | rfl <;> rfl) (by decide) (fun k => nrx_row (by rcases ha with rfl | rfl <;> decide) k) hi c hx hr
theorem x_sI_11_0 {h : PH} (H : OKX h) {i : Int32} {I : Int} (hi : i = Z3 I) (c : 0 ≤ I ∧ I < 700) {x : Int32} {X : Int} (hx : x = Z3 X) (hr : r3 X) : ∃ h', sI h 1 1 i x = some h' ∧ OKX h' ∧ rd h' = up (rd h) 1 I X := x_sI (t := 1) (n := 700) H rfl (by decide) (fun k => nrx_row (by decide) k) hi c hx hr
theorem m_sI_12_0 {h : PH} (H : OKM h) {i : Int32} {I : Int} (hi : i = Z3 I) (c : 0 ≤ I ∧ I < 700) {x : Int32} {X : Int} (hx : x = Z3 X) (hr : r3 X) : ∃ h', sI h 1 0 i x = some h' ∧ OKM h' ∧ rd h' = up (rd h) 1 I X := m_sI (t := 0) (n := 700) H rfl (by decide) hi c hx hr
theorem m_sI_12_25 {h : PH} (H : OKM h) {i : Int32} {I : Int} (hi : i = Z3 I) (c : 0 ≤ I ∧ I < 5) {x : Int32} {X : Int} (hx : x = Z3 X) (hr : r3 X) : ∃ h', sI h 3 2 i x = some h' ∧ OKM h' ∧ rd h' = up (rd h) 3 I X := m_sI (t := 2) (n := 5) H rfl (by decide) hi c hx hr
theorem m_sI_12_26 {h : PH} (H : OKM h) {i : Int32} {I : Int} (hi : i = Z3 I) (c : 0 ≤ I ∧ I < 14) {x : Int32} {X : Int} (hx : x = Z3 X) (hr : r3 X) : ∃ h', sI h 4 0 i x = some h' ∧ OKM h' ∧ rd h' = up (rd h) 4 I X := m_sI (t := 0) (n := 14) H rfl (by decide) hi c hx hr
theorem m_sI_12_27 {h : PH} (H : OKM h) {i : Int32} {I : Int} (hi : i = Z3 I) (c : 0 ≤ I ∧ I < 10) {x : Int32} {X : Int} (hx : x = Z3 X) (hr : r3 X) : ∃ h', sI h 5 0 i x = some h' ∧ OKM h' ∧ rd h' = up (rd h) 5 I X := m_sI (t := 0) (n := 10) H rfl (by decide) hi c hx hr
theorem m_sI_12_28 {h : PH} (H : OKM h) {i : Int32} {I : Int} (hi : i = Z3 I) (c : 0 ≤ I ∧ I < 10) {x : Int32} {X : Int} (hx : x = Z3 X) (hr : r3 X) : ∃ h', sI h 6 0 i x = some h' ∧ OKM h' ∧ rd h' = up (rd h) 6 I X := m_sI (t := 0) (n := 10) H rfl (by decide) hi c hx hr
theorem m_sI_12_29 {h : PH} (H : OKM h) {i : Int32} {I : Int} (hi : i = Z3 I) (c : 0 ≤ I ∧ I < 10) {x : Int32} {X : Int} (hx : x = Z3 X) (hr : r3 X) : ∃ h', sI h 7 0 i x = some h' ∧ OKM h' ∧ rd h' = up (rd h) 7 I X := m_sI (t := 0) (n := 10) H rfl (by decide) hi c hx hr
theorem m_sI_12_30 {h : PH} (H : OKM h) {i : Int32} {I : Int} (hi : i = Z3 I) (c : 0 ≤ I ∧ I < 10) {x : Int32} {X : Int} (hx : x = Z3 X) (hr : r3 X) : ∃ h', sI h 8 0 i x = some h' ∧ OKM h' ∧ rd h' = up (rd h) 8 I X := m_sI (t := 0) (n := 10) H rfl (by decide) hi c hx hr
theorem m_sI_12_31 {h : PH} (H : OKM h) {i : Int32} {I : Int} (hi : i = Z3 I) (c : 0 ≤ I ∧ I < 10) {x : Int32} {X : Int} (hx : x = Z3 X) (hr : r3 X) : ∃ h', sI h 9 0 i x = some h' ∧ OKM h' ∧ rd h' = up (rd h) 9 I X := m_sI (t := 0) (n := 10) H rfl (by decide) hi c hx hr
theorem m_sI_12_32 {h : PH} (H : OKM h) {i : Int32} {I : Int} (hi : i = Z3 I) (c : 0 ≤ I ∧ I < 10) {x : Int32} {X : Int} (hx : x = Z3 X) (hr : r3 X) : ∃ h', sI h 10 0 i x = some h' ∧ OKM h' ∧ rd h' = up (rd h) 10 I X := m_sI (t := 0) (n := 10) H rfl (by decide) hi c hx hr
theorem m_sI_12_33 {h : PH} (H : OKM h) {i : Int32} {I : Int} (hi : i = Z3 I) (c : 0 ≤ I ∧ I < 8) {x : Int32} {X : Int} (hx : x = Z3 X) (hr : r3 X) : ∃ h', sI h 11 0 i x = some h' ∧ OKM h' ∧ rd h' = up (rd h) 11 I X := m_sI (t := 0) (n := 8) H rfl (by decide) hi c hx hr
theorem m_sI_12_34 {h : PH} (H : OKM h) {i : Int32} {I : Int} (hi : i = Z3 I) (c : 0 ≤ I ∧ I < 56) {x : Int32} {X : Int} (hx : x = Z3 X) (hr : r3 X) : ∃ h', sI h 12 0 i x = some h' ∧ OKM h' ∧ rd h' = up (rd h) 12 I X := m_sI (t := 0) (n := 56) H rfl (by decide) hi c hx hr
theorem m_sI_12_35 {h : PH} (H : OKM h) {i : Int32} {I : Int} (hi : i = Z3 I) (c : 0 ≤ I ∧ I < 56) {x : Int32} {X : Int} (hx : x = Z3 X) (hr : r3 X) : ∃ h', sI h 13 0 i x = some h' ∧ OKM h' ∧ rd h' = up (rd h) 13 I X := m_sI (t := 0) (n := 56) H rfl (by decide) hi c hx hr
theorem m_sI_12_36 {h : PH} (H : OKM h) {i : Int32} {I : Int} (hi : i = Z3 I) (c : 0 ≤ I ∧ I < 56) {x : Int32} {X : Int} (hx : x = Z3 X) (hr : r3 X) : ∃ h', sI h 14 0 i x = some h' ∧ OKM h' ∧ rd h' = up (rd h) 14 I X := m_sI (t := 0) (n := 56) H rfl (by decide) hi c hx hr
theorem m_sI_12_37 {h : PH} (H : OKM h) {i : Int32} {I : Int} (hi : i = Z3 I) (c : 0 ≤ I ∧ I < 6) {x : Int32} {X : Int} (hx : x = Z3 X) (hr : r3 X) : ∃ h', sI h 15 2 i x = some h' ∧ OKM h' ∧ rd h' = up (rd h) 15 I X := m_sI (t := 2) (n := 6) H rfl (by decide) hi c hx hr
theorem m_sI_12_38 {h : PH} (H : OKM h) {i : Int32} {I : Int} (hi : i = Z3 I) (c : 0 ≤ I ∧ I < 6) {x : Int32} {X : Int} (hx : x = Z3 X) (hr : r3 X) : ∃ h', sI h 16 0 i x = some h' ∧ OKM h' ∧ rd h' = up (rd h) 16 I X := m_sI (t := 0) (n := 6) H rfl (by decide) hi c hx hr
theorem m_sI_12_39 {h : PH} (H : OKM h) {i : Int32} {I : Int} (hi : i = Z3 I) (c : 0 ≤ I ∧ I < 6) {x : Int32} {X : Int} (hx : x = Z3 X) (hr : r3 X) : ∃ h', sI h 17 0 i x = some h' ∧ OKM h' ∧ rd h' = up (rd h) 17 I X := m_sI (t := 0) (n := 6) H rfl (by decide) hi c hx hr
theorem m_sI_12_40 {h : PH} (H : OKM h) {i : Int32} {I : Int} (hi : i = Z3 I) (c : 0 ≤ I ∧ I < 128) {x : Int32} {X : Int} (hx : x = Z3 X) (hr : r3 X) : ∃ h', sI h 18 0 i x = some h' ∧ OKM h' ∧ rd h' = up (rd h) 18 I X := m_sI (t := 0) (n := 128) H rfl (by decide) hi c hx hr
theorem m_sI_12_41 {h : PH} (H : OKM h) {i : Int32} {I : Int} (hi : i = Z3 I) (c : 0 ≤ I ∧ I < 128) {x : Int32} {X : Int} (hx : x = Z3 X) (hr : r3 X) : ∃ h', sI h 19 0 i x = some h' ∧ OKM h' ∧ rd h' = up (rd h) 19 I X := m_sI (t := 0) (n := 128) H rfl (by decide) hi c hx hr
theorem m_sI_12_42 {h : PH} (H : OKM h) {i : Int32} {I : Int} (hi : i = Z3 I) (c : 0 ≤ I ∧ I < 128) {x : Int32} {X : Int} (hx : x = Z3 X) (hr : r3 X) : ∃ h', sI h 20 0 i x = some h' ∧ OKM h' ∧ rd h' = up (rd h) 20 I X := m_sI (t := 0) (n := 128) H rfl (by decide) hi c hx hr
theorem m_sI_12_44 {h : PH} (H : OKM h) {i : Int32} {I : Int} (hi : i = Z3 I) (c : 0 ≤ I ∧ I < 96) {x : Int32} {X : Int} (hx : x = Z3 X) (hr : r3 X) : ∃ h', sI h 21 0 i x = some h' ∧ OKM h' ∧ rd h' = up (rd h) 21 I X := m_sI (t := 0) (n := 96) H rfl (by decide) hi c hx hr
theorem m_sI_12_45 {h : PH} (H : OKM h) {i : Int32} {I : Int} (hi : i = Z3 I) (c : 0 ≤ I ∧ I < 96) {x : Int32} {X : Int} (hx : x = Z3 X) (hr : r3 X) : ∃ h', sI h 22 0 i x = some h' ∧ OKM h' ∧ rd h' = up (rd h) 22 I X := m_sI (t := 0) (n := 96) H rfl (by decide) hi c hx hr
theorem m_sI_12_55 {h : PH} (H : OKM h) {i : Int32} {I : Int} (hi : i = Z3 I) (c : 0 ≤ I ∧ I < 10) {x : Int32} {X : Int} (hx : x = Z3 X) (hr : r3 X) : ∃ h', sI h 25 0 i x = some h' ∧ OKM h' ∧ rd h' = up (rd h) 25 I X := m_sI (t := 0) (n := 10) H rfl (by decide) hi c hx hr
theorem m_sI_12_56 {h : PH} (H : OKM h) {i : Int32} {I : Int} (hi : i = Z3 I) (c : 0 ≤ I ∧ I < 10) {x : Int32} {X : Int} (hx : x = Z3 X) (hr : r3 X) : ∃ h', sI h 26 0 i x = some h' ∧ OKM h' ∧ rd h' = up (rd h) 26 I X := m_sI (t := 0) (n := 10) H rfl (by decide) hi c hx hr
theorem m_sI_12_57 {h : PH} (H : OKM h) {i : Int32} {I : Int} (hi : i = Z3 I) (c : 0 ≤ I ∧ I < 10) {x : Int32} {X : Int} (hx : x = Z3 X) (hr : r3 X) : ∃ h', sI h 27 0 i x = some h' ∧ OKM h' ∧ rd h' = up (rd h) 27 I X := m_sI (t := 0) (n := 10) H rfl (by decide) hi c hx hr
theorem m_sI_12_58 {h : PH} (H : OKM h) {i : Int32} {I : Int} (hi : i = Z3 I) (c : 0 ≤ I ∧ I < 10) {x : Int32} {X : Int} (hx : x = Z3 X) (hr : r3 X) : ∃ h', sI h 28 0 i x = some h' ∧ OKM h' ∧ rd h' = up (rd h) 28 I X := m_sI (t := 0) (n := 10) H rfl (by decide) hi c hx hr
theorem m_sI_12_59 {h : PH} (H : OKM h) {i : Int32} {I : Int} (hi : i = Z3 I) (c : 0 ≤ I ∧ I < 5) {x : Int32} {X : Int} (hx : x = Z3 X) (hr : r3 X) : ∃ h', sI h 29 0 i x = some h' ∧ OKM h' ∧ rd h' = up (rd h) 29 I X := m_sI (t := 0) (n := 5) H rfl (by decide) hi c hx hr
theorem m_sI_12_60 {h : PH} (H : OKM h) {i : Int32} {I : Int} (hi : i = Z3 I) (c : 0 ≤ I ∧ I < 56) {x : Int32} {X : Int} (hx : x = Z3 X) (hr : r3 X) : ∃ h', sI h 30 0 i x = some h' ∧ OKM h' ∧ rd h' = up (rd h) 30 I X := m_sI (t := 0) (n := 56) H rfl (by decide) hi c hx hr
theorem m_sI_12_61 {h : PH} (H : OKM h) {i : Int32} {I : Int} (hi : i = Z3 I) (c : 0 ≤ I ∧ I < 2) {x : Int32} {X : Int} (hx : x = Z3 X) (hr : r3 X) : ∃ h', sI h 31 0 i x = some h' ∧ OKM h' ∧ rd h' = up (rd h) 31 I X := m_sI (t := 0) (n := 2) H rfl (by decide) hi c hx hr
theorem m_sI_12_62 {h : PH} (H : OKM h) {i : Int32} {I : Int} (hi : i = Z3 I) (c : 0 ≤ I ∧ I < 2) {x : Int32} {X : Int} (hx : x = Z3 X) (hr : r3 X) : ∃ h', sI h 32 0 i x = some h' ∧ OKM h' ∧ rd h' = up (rd h) 32 I X := m_sI (t := 0) (n := 2) H rfl (by decide) hi c hx hr
theorem m_sI_12_63 {h : PH} (H : OKM h) {i : Int32} {I : Int} (hi : i = Z3 I) (c : 0 ≤ I ∧ I < 2) {x : Int32} {X : Int} (hx : x = Z3 X) (hr : r3 X) : ∃ h', sI h 33 0 i x = some h' ∧ OKM h' ∧ rd h' = up (rd h) 33 I X := m_sI (t := 0) (n := 2) H rfl (by decide) hi c hx hr
theorem m_sI_12_68 {h : PH} (H : OKM h) {i : Int32} {I : Int} (hi : i = Z3 I) (c : 0 ≤ I ∧ I < 5) {x : Int32} {X : Int} (hx : x = Z3 X) (hr : r3 X) : ∃ h', sI h 34 0 i x = some h' ∧ OKM h' ∧ rd h' = up (rd h) 34 I X := m_sI (t := 0) (n := 5) H rfl (by decide) hi c hx hr
theorem m_sI_12_70 {h : PH} (H : OKM h) {i : Int32} {I : Int} (hi : i = Z3 I) (c : 0 ≤ I ∧ I < 25) {x : Int32} {X : Int} (hx : x = Z3 X) (hr : r3 X) : ∃ h', sI h 35 0 i x = some h' ∧ OKM h' ∧ rd h' = up (rd h) 35 I X := m_sI (t := 0) (n := 25) H rfl (by decide) hi c hx hr
theorem m_sI_12_71 {h : PH} (H : OKM h) {i : Int32} {I : Int} (hi : i = Z3 I) (c : 0 ≤ I ∧ I < 25) {x : Int32} {X : Int} (hx : x = Z3 X) (hr : r3 X) : ∃ h', sI h 36 0 i x = some h' ∧ OKM h' ∧ rd h' = up (rd h) 36 I X := m_sI (t := 0) (n := 25) H rfl (by decide) hi c hx hr
theorem m_sI_12_72 {h : PH} (H : OKM h) {i : Int32} {I : Int} (hi : i = Z3 I) (c : 0 ≤ I ∧ I < 29) {x : Int32} {X : Int} (hx : x = Z3 X) (hr : r3 X) : ∃ h', sI h 37 0 i x = some h' ∧ OKM h' ∧ rd h' = up (rd h) 37 I X := m_sI (t := 0) (n := 29) H rfl (by decide) hi c hx hr
theorem m_sI_12_73 {h : PH} (H : OKM h) {i : Int32} {I : Int} (hi : i = Z3 I) (c : 0 ≤ I ∧ I < 28) {x : Int32} {X : Int} (hx : x = Z3 X) (hr : r3 X) : ∃ h', sI h 38 0 i x = some h' ∧ OKM h' ∧ rd h' = up (rd h) 38 I X := m_sI (t := 0) (n := 28) H rfl (by decide) hi c hx hr
theorem m_sI_12_76 {h : PH} (H : OKM h) {i : Int32} {I : Int} (hi : i = Z3 I) (c : 0 ≤ I ∧ I < 72) {x : Int32} {X : Int} (hx : x = Z3 X) (hr : r3 X) : ∃ h', sI h 39 0 i x = some h' ∧ OKM h' ∧ rd h' = up (rd h) 39 I X := m_sI (t := 0) (n := 72) H rfl (by decide) hi c hx hr
theorem m_sI_12_77 {h : PH} (H : OKM h) {i : Int32} {I : Int} (hi : i = Z3 I) (c : 0 ≤ I ∧ I < 24) {x : Int32} {X : Int} (hx : x = Z3 X) (hr : r3 X) : ∃ h', sI h 40 2 i x = some h' ∧ OKM h' ∧ rd h' = up (rd h) 40 I X := m_sI (t := 2) (n := 24) H rfl (by decide) hi c hx hr
theorem m_sI_12_79 {h : PH} (H : OKM h) {i : Int32} {I : Int} (hi : i = Z3 I) (c : 0 ≤ I ∧ I < 220) {x : Int32} {X : Int} (hx : x = Z3 X) (hr : r3 X) : ∃ h', sI h 41 0 i x = some h' ∧ OKM h' ∧ rd h' = up (rd h) 41 I X := m_sI (t := 0) (n := 220) H rfl (by decide) hi c hx hr
theorem m_sI_12_81 {h : PH} (H : OKM h) {i : Int32} {I : Int} (hi : i = Z3 I) (c : 0 ≤ I ∧ I < 53) {x : Int32} {X : Int} (hx : x = Z3 X) (hr : r3 X) : ∃ h', sI h 42 0 i x = some h' ∧ OKM h' ∧ rd h' = up (rd h) 42 I X := m_sI (t := 0) (n := 53) H rfl (by decide) hi c hx hr
theorem x_sI_2_0 {h : PH} (H : OKX h) {a : Nat} (ha : R2_0 a) {i : Int32} {I : Int} (hi : i = Z3 I) (c : 0 ≤ I ∧ I < 64) {x : Int32} {X : Int} (hx : x = Z3 X) (hr : r3 X) : ∃ h', sI h a 0 i x = some h' ∧ OKX h' ∧ rd h' = up (rd h) a I X := x_sI (t := 0) (n := 64) H (by rcases ha with rfl | rfl | rfl | rfl | rfl | rfl <;> rfl) (by decide) (fun k => nrx_row (by rcases ha with rfl | rfl | rfl | rfl | rfl | rfl <;> decide) k) hi c hx hr
theorem x_sI_3_2 {h : PH} (H : OKX h) {i : Int32} {I : Int} (hi : i = Z3 I) (c : 0 ≤ I ∧ I < 24) {x : Int32} {X : Int} (hx : x = Z3 X) (hr : r3 X) : ∃ h', sI h 91 0 i x = some h' ∧ OKX h' ∧ rd h' = up (rd h) 91 I X := x_sI (t := 0) (n := 24) H rfl (by decide) (fun k => nrx_row (by decide) k) hi c hx hr
theorem x_sI_3_3 {h : PH} (H : OKX h) {i : Int32} {I : Int} (hi : i = Z3 I) (c : 0 ≤ I ∧ I < 24) {x : Int32} {X : Int} (hx : x = Z3 X) (hr : r3 X) : ∃ h', sI h 92 0 i x = some h' ∧ OKX h' ∧ rd h' = up (rd h) 92 I X := x_sI (t := 0) (n := 24) H rfl (by decide) (fun k => nrx_row (by decide) k) hi c hx hr
theorem x_sI_3_4 {h : PH} (H : OKX h) {i : Int32} {I : Int} (hi : i = Z3 I) (c : 0 ≤ I ∧ I < 24) {x : Int32} {X : Int} (hx : x = Z3 X) (hr : r3 X) : ∃ h', sI h 93 0 i x = some h' ∧ OKX h' ∧ rd h' = up (rd h) 93 I X := x_sI (t := 0) (n := 24) H rfl (by decide) (fun k => nrx_row (by decide) k) hi c hx hr
theorem x_sI_3_5 {h : PH} (H : OKX h) {i : Int32} {I : Int} (hi : i = Z3 I) (c : 0 ≤ I ∧ I < 24) {x : Int32} {X : Int} (hx : x = Z3 X) (hr : r3 X) : ∃ h', sI h 94 0 i x = some h' ∧ OKX h' ∧ rd h' = up (rd h) 94 I X := x_sI (t := 0) (n := 24) H rfl (by decide) (fun k => nrx_row (by decide) k) hi c hx hr
theorem x_sI_3_6 {h : PH} (H : OKX h) {i : Int32} {I : Int} (hi : i = Z3 I) (c : 0 ≤ I ∧ I < 24) {x : Int32} {X : Int} (hx : x = Z3 X) (hr : r3 X) : ∃ h', sI h 95 2 i x = some h' ∧ OKX h' ∧ rd h' = up (rd h) 95 I X := x_sI (t := 2) (n := 24) H rfl (by decide) (fun k => nrx_row (by decide) k) hi c hx hr
theorem x_sI_4_10 {h : PH} (H : OKX h) {a : Nat} (ha : R4_10 a) {i : Int32} {I : Int} (hi : i = Z3 I) (c : 0 ≤ I ∧ I < 28) {x : Int32} {X : Int} (hx : x = Z3 X) (hr : r3 X) : ∃ h', sI h a 0 i x = some h' ∧ OKX h' ∧ rd h' = up (rd h) a I X := x_sI (t := 0) (n := 28) H (by rcases ha with rfl | rfl | rfl <;> rfl) (by decide) (fun k => nrx_row (by rcases ha with rfl | rfl | rfl <;> decide) k) hi c hx hr
theorem x_sI_4_5 {h : PH} (H : OKX h) {a : Nat} (ha : R4_5 a) {i : Int32} {I : Int} (hi : i = Z3 I) (c : 0 ≤ I ∧ I < 5) {x : Int32} {X : Int} (hx : x = Z3 X) (hr : r3 X) : ∃ h', sI h a 0 i x = some h' ∧ OKX h' ∧ rd h' = up (rd h) a I X := x_sI (t := 0) (n := 5) H (by rcases ha with rfl | rfl | rfl <;> rfl) (by decide) (fun k => nrx_row (by rcases ha with rfl | rfl | rfl <;> decide) k) hi c hx hr
theorem x_sI_4_6 {h : PH} (H : OKX h) {a : Nat} (ha : R4_6 a) {i : Int32} {I : Int} (hi : i = Z3 I) (c : 0 ≤ I ∧ I < 5) {x : Int32} {X : Int} (hx : x = Z3 X) (hr : r3 X) : ∃ h', sI h a 0 i x = some h' ∧ OKX h' ∧ rd h' = up (rd h) a I X := x_sI (t := 0) (n := 5) H (by rcases ha with rfl | rfl | rfl <;> rfl) (by decide) (fun k => nrx_row (by rcases ha with rfl | rfl | rfl <;> decide) k) hi c hx hr
theorem x_sI_4_7 {h : PH} (H : OKX h) {a : Nat} (ha : R4_7 a) {i : Int32} {I : Int} (hi : i = Z3 I) (c : 0 ≤ I ∧ I < 5) {x : Int32} {X : Int} (hx : x = Z3 X) (hr : r3 X) : ∃ h', sI h a 0 i x = some h' ∧ OKX h' ∧ rd h' = up (rd h) a I X := x_sI (t := 0) (n := 5) H (by rcases ha with rfl | rfl | rfl <;> rfl) (by decide) (fun k => nrx_row (by rcases ha with rfl | rfl | rfl <;> decide) k) hi c hx hr
theorem x_sI_4_8 {h : PH} (H : OKX h) {a : Nat} (ha : R4_8 a) {i : Int32} {I : Int} (hi : i = Z3 I) (c : 0 ≤ I ∧ I < 5) {x : Int32} {X : Int} (hx : x = Z3 X) (hr : r3 X) : ∃ h', sI h a 0 i x = some h' ∧ OKX h' ∧ rd h' = up (rd h) a I X := x_sI (t := 0) (n := 5) H (by rcases ha with rfl | rfl | rfl <;> rfl) (by decide) (fun k => nrx_row (by rcases ha with rfl | rfl | rfl <;> decide) k) hi c hx hr
theorem x_sI_4_9 {h : PH} (H : OKX h) {a : Nat} (ha : R4_9 a) {i : Int32} {I : Int} (hi : i = Z3 I) (c : 0 ≤ I ∧ I < 5) {x : Int32} {X : Int} (hx : x = Z3 X) (hr : r3 X) : ∃ h', sI h a 0 i x = some h' ∧ OKX h' ∧ rd h' = up (rd h) a I X := x_sI (t := 0) (n := 5) H (by rcases ha with rfl | rfl | rfl <;> rfl) (by decide) (fun k => nrx_row (by rcases ha with rfl | rfl | rfl <;> decide) k) hi c hx hr
theorem x_sI_5_1 {h : PH} (H : OKX h) {i : Int32} {I : Int} (hi : i = Z3 I) (c : 0 ≤ I ∧ I < 72) {x : Int32} {X : Int} (hx : x = Z3 X) (hr : r3 X) : ∃ h', sI h 50 0 i x = some h' ∧ OKX h' ∧ rd h' = up (rd h) 50 I X := x_sI (t := 0) (n := 72) H rfl (by decide) (fun k => nrx_row (by decide) k) hi c hx hr
theorem x_sI_6_1 {h : PH} (H : OKX h) {a : Nat} (ha : R6_1 a) {i : Int32} {I : Int} (hi : i = Z3 I) (c : 0 ≤ I ∧ I < 5) {x : Int32} {X : Int} (hx : x = Z3 X) (hr : r3 X) : ∃ h', sI h a 0 i x = some h' ∧ OKX h' ∧ rd h' = up (rd h) a I X := x_sI (t := 0) (n := 5) H (by rcases ha with rfl | rfl <;> rfl) (by decide) (fun k => nrx_row (by rcases ha with rfl | rfl <;> decide) k) hi c hx hr
theorem x_sI_6_2 {h : PH} (H : OKX h) {a : Nat} (ha : R6_2 a) {i : Int32} {I : Int} (hi : i = Z3 I) (c : 0 ≤ I ∧ I < 5) {x : Int32} {X : Int} (hx : x = Z3 X) (hr : r3 X) : ∃ h', sI h a 0 i x = some h' ∧ OKX h' ∧ rd h' = up (rd h) a I X := x_sI (t := 0) (n := 5) H (by rcases ha with rfl | rfl <;> rfl) (by decide) (fun k => nrx_row (by rcases ha with rfl | rfl <;> decide) k) hi c hx hr
theorem x_sI_6_3 {h : PH} (H : OKX h) {a : Nat} (ha : R6_3 a) {i : Int32} {I : Int} (hi : i = Z3 I) (c : 0 ≤ I ∧ I < 28) {x : Int32} {X : Int} (hx : x = Z3 X) (hr : r3 X) : ∃ h', sI h a 0 i x = some h' ∧ OKX h' ∧ rd h' = up (rd h) a I X := x_sI (t := 0) (n := 28) H (by rcases ha with rfl | rfl <;> rfl) (by decide) (fun k => nrx_row (by rcases ha with rfl | rfl <;> decide) k) hi c hx hr
theorem x_sI_6_6 {h : PH} (H : OKX h) {a : Nat} (ha : R6_6 a) {i : Int32} {I : Int} (hi : i = Z3 I) (c : 0 ≤ I ∧ I < 5) {x : Int32} {X : Int} (hx : x = Z3 X) (hr : r3 X) : ∃ h', sI h a 0 i x = some h' ∧ OKX h' ∧ rd h' = up (rd h) a I X := x_sI (t := 0) (n := 5) H (by rcases ha with rfl | rfl <;> rfl) (by decide) (fun k => nrx_row (by rcases ha with rfl | rfl <;> decide) k) hi c hx hr
theorem x_sI_6_7 {h : PH} (H : OKX h) {a : Nat} (ha : R6_7 a) {i : Int32} {I : Int} (hi : i = Z3 I) (c : 0 ≤ I ∧ I < 5) {x : Int32} {X : Int} (hx : x = Z3 X) (hr : r3 X) : ∃ h', sI h a 0 i x = some h' ∧ OKX h' ∧ rd h' = up (rd h) a I X := x_sI (t := 0) (n := 5) H (by rcases ha with rfl | rfl <;> rfl) (by decide) (fun k => nrx_row (by rcases ha with rfl | rfl <;> decide) k) hi c hx hr
theorem x_sI_6_8 {h : PH} (H : OKX h) {a : Nat} (ha : R6_8 a) {i : Int32} {I : Int} (hi : i = Z3 I) (c : 0 ≤ I ∧ I < 5) {x : Int32} {X : Int} (hx : x = Z3 X) (hr : r3 X) : ∃ h', sI h a 0 i x = some h' ∧ OKX h' ∧ rd h' = up (rd h) a I X := x_sI (t := 0) (n := 5) H (by rcases ha with rfl | rfl <;> rfl) (by decide) (fun k => nrx_row (by rcases ha with rfl | rfl <;> decide) k) hi c hx hr
theorem x_sI_9_1 {h : PH} (H : OKX h) {i : Int32} {I : Int} (hi : i = Z3 I) (c : 0 ≤ I ∧ I < 20) {x : Int32} {X : Int} (hx : x = Z3 X) (hr : r3 X) : ∃ h', sI h 97 0 i x = some h' ∧ OKX h' ∧ rd h' = up (rd h) 97 I X := x_sI (t := 0) (n := 20) H rfl (by decide) (fun k => nrx_row (by decide) k) hi c hx hr
theorem x_sI_9_2 {h : PH} (H : OKX h) {i : Int32} {I : Int} (hi : i = Z3 I) (c : 0 ≤ I ∧ I < 20) {x : Int32} {X : Int} (hx : x = Z3 X) (hr : r3 X) : ∃ h', sI h 98 0 i x = some h' ∧ OKX h' ∧ rd h' = up (rd h) 98 I X := x_sI (t := 0) (n := 20) H rfl (by decide) (fun k => nrx_row (by decide) k) hi c hx hr
theorem m_sJ_12_52 {h : PH} (H : OKM h) {i : Int32} {I : Int} (hi : i = Z3 I) (c : 0 ≤ I ∧ I < 6) {x : Int64} {X : Int} (hx : x = Z6 X) (hr : r6 X) : ∃ h', sJ h 23 i x = some h' ∧ OKM h' ∧ rd h' = up (rd h) 23 I X := m_sJ (n := 6) H rfl (by decide) hi c hx hr
theorem m_sJ_12_53 {h : PH} (H : OKM h) {i : Int32} {I : Int} (hi : i = Z3 I) (c : 0 ≤ I ∧ I < 64) {x : Int64} {X : Int} (hx : x = Z6 X) (hr : r6 X) : ∃ h', sJ h 24 i x = some h' ∧ OKM h' ∧ rd h' = up (rd h) 24 I X := m_sJ (n := 64) H rfl (by decide) hi c hx hr
theorem x_sJ_6_4 {h : PH} (H : OKX h) {a : Nat} (ha : R6_4 a) {i : Int32} {I : Int} (hi : i = Z3 I) (c : 0 ≤ I ∧ I < 6) {x : Int64} {X : Int} (hx : x = Z6 X) (hr : r6 X) : ∃ h', sJ h a i x = some h' ∧ OKX h' ∧ rd h' = up (rd h) a I X := x_sJ (n := 6) H (by rcases ha with rfl | rfl <;> rfl) (by decide) (fun k => nrx_row (by rcases ha with rfl | rfl <;> decide) k) hi c hx hr
theorem x_sJ_6_5 {h : PH} (H : OKX h) {a : Nat} (ha : R6_5 a) {i : Int32} {I : Int} (hi : i = Z3 I) (c : 0 ≤ I ∧ I < 64) {x : Int64} {X : Int} (hx : x = Z6 X) (hr : r6 X) : ∃ h', sJ h a i x = some h' ∧ OKX h' ∧ rd h' = up (rd h) a I X := x_sJ (n := 64) H (by rcases ha with rfl | rfl <;> rfl) (by decide) (fun k => nrx_row (by rcases ha with rfl | rfl <;> decide) k) hi c hx hr
theorem l3_m8 : ((-8) : Int32) = Z3 (-8) := by decide
theorem lr3_m8 : r3 (-8) := ⟨by decide, by decide⟩
theorem l3_m4 : ((-4) : Int32) = Z3 (-4) := by decide
theorem lr3_m4 : r3 (-4) := ⟨by decide, by decide⟩
theorem l3_m3 : ((-3) : Int32) = Z3 (-3) := by decide
theorem lr3_m3 : r3 (-3) := ⟨by decide, by decide⟩
theorem l3_m2 : ((-2) : Int32) = Z3 (-2) := by decide
theorem lr3_m2 : r3 (-2) := ⟨by decide, by decide⟩
theorem l3_m1 : ((-1) : Int32) = Z3 (-1) := by decide
theorem lr3_m1 : r3 (-1) := ⟨by decide, by decide⟩
theorem l3_0 : (0 : Int32) = Z3 0 := by decide
theorem lr3_0 : r3 0 := ⟨by decide, by decide⟩
theorem l3_1 : (1 : Int32) = Z3 1 := by decide
theorem lr3_1 : r3 1 := ⟨by decide, by decide⟩
theorem l3_2 : (2 : Int32) = Z3 2 := by decide
theorem lr3_2 : r3 2 := ⟨by decide, by decide⟩
theorem l3_3 : (3 : Int32) = Z3 3 := by decide
theorem lr3_3 : r3 3 := ⟨by decide, by decide⟩
theorem l3_4 : (4 : Int32) = Z3 4 := by decide
theorem lr3_4 : r3 4 := ⟨by decide, by decide⟩
theorem l3_5 : (5 : Int32) = Z3 5 := by decide
theorem lr3_5 : r3 5 := ⟨by decide, by decide⟩
theorem l3_6 : (6 : Int32) = Z3 6 := by decide
theorem lr3_6 : r3 6 := ⟨by decide, by decide⟩
theorem l3_7 : (7 : Int32) = Z3 7 := by decide
theorem lr3_7 : r3 7 := ⟨by decide, by decide⟩
theorem l3_8 : (8 : Int32) = Z3 8 := by decide
theorem lr3_8 : r3 8 := ⟨by decide, by decide⟩
theorem l3_9 : (9 : Int32) = Z3 9 := by decide
theorem lr3_9 : r3 9 := ⟨by decide, by decide⟩
theorem l3_10 : (10 : Int32) = Z3 10 := by decide
theorem lr3_10 : r3 10 := ⟨by decide, by decide⟩
theorem l3_11 : (11 : Int32) = Z3 11 := by decide
theorem lr3_11 : r3 11 := ⟨by decide, by decide⟩
theorem l3_12 : (12 : Int32) = Z3 12 := by decide
theorem lr3_12 : r3 12 := ⟨by decide, by decide⟩
theorem l3_13 : (13 : Int32) = Z3 13 := by decide
theorem lr3_13 : r3 13 := ⟨by decide, by decide⟩
theorem l3_14 : (14 : Int32) = Z3 14 := by decide
theorem lr3_14 : r3 14 := ⟨by decide, by decide⟩
theorem l3_15 : (15 : Int32) = Z3 15 := by decide
theorem lr3_15 : r3 15 := ⟨by decide, by decide⟩
theorem l3_16 : (16 : Int32) = Z3 16 := by decide
theorem lr3_16 : r3 16 := ⟨by decide, by decide⟩
theorem l3_17 : (17 : Int32) = Z3 17 := by decide
theorem lr3_17 : r3 17 := ⟨by decide, by decide⟩
theorem l3_18 : (18 : Int32) = Z3 18 := by decide
theorem lr3_18 : r3 18 := ⟨by decide, by decide⟩
theorem l3_19 : (19 : Int32) = Z3 19 := by decide
theorem lr3_19 : r3 19 := ⟨by decide, by decide⟩
theorem l3_20 : (20 : Int32) = Z3 20 := by decide
theorem lr3_20 : r3 20 := ⟨by decide, by decide⟩
theorem l3_24 : (24 : Int32) = Z3 24 := by decide
theorem lr3_24 : r3 24 := ⟨by decide, by decide⟩
theorem l3_25 : (25 : Int32) = Z3 25 := by decide
theorem lr3_25 : r3 25 := ⟨by decide, by decide⟩
theorem l3_26 : (26 : Int32) = Z3 26 := by decide
theorem lr3_26 : r3 26 := ⟨by decide, by decide⟩
theorem l3_27 : (27 : Int32) = Z3 27 := by decide
theorem lr3_27 : r3 27 := ⟨by decide, by decide⟩
theorem l3_28 : (28 : Int32) = Z3 28 := by decide
theorem lr3_28 : r3 28 := ⟨by decide, by decide⟩
theorem l3_29 : (29 : Int32) = Z3 29 := by decide
theorem lr3_29 : r3 29 := ⟨by decide, by decide⟩
theorem l3_30 : (30 : Int32) = Z3 30 := by decide
theorem lr3_30 : r3 30 := ⟨by decide, by decide⟩
theorem l3_31 : (31 : Int32) = Z3 31 := by decide
theorem lr3_31 : r3 31 := ⟨by decide, by decide⟩
theorem l3_32 : (32 : Int32) = Z3 32 := by decide
theorem lr3_32 : r3 32 := ⟨by decide, by decide⟩
theorem l3_33 : (33 : Int32) = Z3 33 := by decide
theorem lr3_33 : r3 33 := ⟨by decide, by decide⟩
theorem l3_34 : (34 : Int32) = Z3 34 := by decide
theorem lr3_34 : r3 34 := ⟨by decide, by decide⟩
theorem l3_35 : (35 : Int32) = Z3 35 := by decide
theorem lr3_35 : r3 35 := ⟨by decide, by decide⟩
theorem l3_36 : (36 : Int32) = Z3 36 := by decide
theorem lr3_36 : r3 36 := ⟨by decide, by decide⟩
theorem l3_37 : (37 : Int32) = Z3 37 := by decide
theorem lr3_37 : r3 37 := ⟨by decide, by decide⟩
theorem l3_38 : (38 : Int32) = Z3 38 := by decide
theorem lr3_38 : r3 38 := ⟨by decide, by decide⟩
theorem l3_39 : (39 : Int32) = Z3 39 := by decide
theorem lr3_39 : r3 39 := ⟨by decide, by decide⟩
theorem l3_40 : (40 : Int32) = Z3 40 := by decide
theorem lr3_40 : r3 40 := ⟨by decide, by decide⟩
theorem l3_41 : (41 : Int32) = Z3 41 := by decide
theorem lr3_41 : r3 41 := ⟨by decide, by decide⟩
theorem l3_42 : (42 : Int32) = Z3 42 := by decide
theorem lr3_42 : r3 42 := ⟨by decide, by decide⟩
theorem l3_43 : (43 : Int32) = Z3 43 := by decide
theorem lr3_43 : r3 43 := ⟨by decide, by decide⟩
theorem l3_45 : (45 : Int32) = Z3 45 := by decide
theorem lr3_45 : r3 45 := ⟨by decide, by decide⟩
theorem l3_47 : (47 : Int32) = Z3 47 := by decide
theorem lr3_47 : r3 47 := ⟨by decide, by decide⟩
theorem l3_48 : (48 : Int32) = Z3 48 := by decide
theorem lr3_48 : r3 48 := ⟨by decide, by decide⟩
theorem l3_57 : (57 : Int32) = Z3 57 := by decide
theorem lr3_57 : r3 57 := ⟨by decide, by decide⟩
theorem l3_59 : (59 : Int32) = Z3 59 := by decide
theorem lr3_59 : r3 59 := ⟨by decide, by decide⟩
theorem l3_60 : (60 : Int32) = Z3 60 := by decide
theorem lr3_60 : r3 60 := ⟨by decide, by decide⟩
theorem l3_61 : (61 : Int32) = Z3 61 := by decide
theorem lr3_61 : r3 61 := ⟨by decide, by decide⟩
theorem l3_62 : (62 : Int32) = Z3 62 := by decide
theorem lr3_62 : r3 62 := ⟨by decide, by decide⟩
theorem l3_64 : (64 : Int32) = Z3 64 := by decide
theorem lr3_64 : r3 64 := ⟨by decide, by decide⟩
theorem l3_72 : (72 : Int32) = Z3 72 := by decide
theorem lr3_72 : r3 72 := ⟨by decide, by decide⟩
theorem l3_96 : (96 : Int32) = Z3 96 := by decide
theorem lr3_96 : r3 96 := ⟨by decide, by decide⟩
theorem l3_97 : (97 : Int32) = Z3 97 := by decide
theorem lr3_97 : r3 97 := ⟨by decide, by decide⟩
theorem l3_99 : (99 : Int32) = Z3 99 := by decide
theorem lr3_99 : r3 99 := ⟨by decide, by decide⟩
theorem l3_100 : (100 : Int32) = Z3 100 := by decide
theorem lr3_100 : r3 100 := ⟨by decide, by decide⟩
theorem l3_120 : (120 : Int32) = Z3 120 := by decide
theorem lr3_120 : r3 120 := ⟨by decide, by decide⟩
theorem l3_122 : (122 : Int32) = Z3 122 := by decide
theorem lr3_122 : r3 122 := ⟨by decide, by decide⟩
theorem l3_199 : (199 : Int32) = Z3 199 := by decide
theorem lr3_199 : r3 199 := ⟨by decide, by decide⟩
theorem l3_209 : (209 : Int32) = Z3 209 := by decide
theorem lr3_209 : r3 209 := ⟨by decide, by decide⟩
theorem l3_255 : (255 : Int32) = Z3 255 := by decide
theorem lr3_255 : r3 255 := ⟨by decide, by decide⟩
theorem l3_700 : (700 : Int32) = Z3 700 := by decide
theorem lr3_700 : r3 700 := ⟨by decide, by decide⟩
theorem l3_999 : (999 : Int32) = Z3 999 := by decide
theorem lr3_999 : r3 999 := ⟨by decide, by decide⟩
theorem l3_1000 : (1000 : Int32) = Z3 1000 := by decide
theorem lr3_1000 : r3 1000 := ⟨by decide, by decide⟩
theorem l3_9999 : (9999 : Int32) = Z3 9999 := by decide
theorem lr3_9999 : r3 9999 := ⟨by decide, by decide⟩
theorem l3_10000 : (10000 : Int32) = Z3 10000 := by decide
theorem lr3_10000 : r3 10000 := ⟨by decide, by decide⟩
theorem l3_99999 : (99999 : Int32) = Z3 99999 := by decide
theorem lr3_99999 : r3 99999 := ⟨by decide, by decide⟩
theorem l3_1000000 : (1000000 : Int32) = Z3 1000000 := by decide
theorem lr3_1000000 : r3 1000000 := ⟨by decide, by decide⟩
theorem l3_2147483647 : (2147483647 : Int32) = Z3 2147483647 := by decide
theorem lr3_2147483647 : r3 2147483647 := ⟨by decide, by decide⟩
theorem l6_m9223372036854775808 : ((-9223372036854775808) : Int64) = Z6 (-9223372036854775808) := by decide
theorem lr6_m9223372036854775808 : r6 (-9223372036854775808) := ⟨by decide, by decide⟩
theorem l6_m1000000000000 : ((-1000000000000) : Int64) = Z6 (-1000000000000) := by decide
theorem lr6_m1000000000000 : r6 (-1000000000000) := ⟨by decide, by decide⟩
theorem l6_m8 : ((-8) : Int64) = Z6 (-8) := by decide
theorem lr6_m8 : r6 (-8) := ⟨by decide, by decide⟩
theorem l6_0 : (0 : Int64) = Z6 0 := by decide
theorem lr6_0 : r6 0 := ⟨by decide, by decide⟩
theorem l6_1 : (1 : Int64) = Z6 1 := by decide
theorem lr6_1 : r6 1 := ⟨by decide, by decide⟩
theorem l6_8 : (8 : Int64) = Z6 8 := by decide
theorem lr6_8 : r6 8 := ⟨by decide, by decide⟩
theorem l6_30 : (30 : Int64) = Z6 30 := by decide
theorem lr6_30 : r6 30 := ⟨by decide, by decide⟩
theorem l6_100 : (100 : Int64) = Z6 100 := by decide
theorem lr6_100 : r6 100 := ⟨by decide, by decide⟩
theorem l6_12345 : (12345 : Int64) = Z6 12345 := by decide
theorem lr6_12345 : r6 12345 := ⟨by decide, by decide⟩
theorem l6_65536 : (65536 : Int64) = Z6 65536 := by decide
theorem lr6_65536 : r6 65536 := ⟨by decide, by decide⟩
theorem l6_1103515245 : (1103515245 : Int64) = Z6 1103515245 := by decide
theorem lr6_1103515245 : r6 1103515245 := ⟨by decide, by decide⟩
theorem l6_2147483647 : (2147483647 : Int64) = Z6 2147483647 := by decide
theorem lr6_2147483647 : r6 2147483647 := ⟨by decide, by decide⟩
theorem l6_1000000000000 : (1000000000000 : Int64) = Z6 1000000000000 := by decide
theorem lr6_1000000000000 : r6 1000000000000 := ⟨by decide, by decide⟩
theorem x_v_11_3 {h : PH} (H : OKX h) : A8 (rd h 0 3).toNat := H.2.1.1
theorem x_v_11_4 {h : PH} (H : OKX h) : A8 (rd h 0 4).toNat := H.2.1.2.1
theorem x_v_5_10 {h : PH} (H : OKX h) : A8 (rd h 46 10).toNat := H.2.1.2.2.1
theorem x_v_6_0 {h : PH} (H : OKX h) {a : Nat} (ha : A6 a) : A8 (rd h a 0).toNat := by
  rcases ha with rfl | rfl
  · exact H.2.1.2.2.2.2.1
  · exact H.2.1.2.2.2.2.2
theorem x_aI_B {h : PH} (H : OKX h) (hb : rd h 47 1 = 1) {i : Int32} {I : Int} (hi : i = Z3 I) (c : 0 ≤ I ∧ I < 700) : aI h (rd h 47 1).toNat 1 i = some (Z3 (rd h 1 I)) ∧ r3 (rd h 1 I) := by
  rw [hb]
  exact aI_rd (t := 1) (n := 700) (by rw [H.1]; rfl) (by decide) hi c
theorem x_aR {h : PH} (H : OKX h) {a : Nat} (ha : R8_11 a) {i : Int32} {I : Int} (hi : i = Z3 I) (c : 0 ≤ I ∧ I < 3) : aR h a i = some (a + 1 + 2 * I.toNat) := by
  have hI : I = 0 ∨ I = 1 ∨ I = 2 := by omega
  rcases ha with rfl | rfl
  · exact aR_rd (n := 3) (l := [21, 23, 25]) (by rw [H.1]; rfl) (by decide) hi c (by rcases hI with rfl | rfl | rfl <;> rfl)
  · exact aR_rd (n := 3) (l := [43, 45, 47]) (by rw [H.1]; rfl) (by decide) hi c (by rcases hI with rfl | rfl | rfl <;> rfl)
theorem x_aRp {a : Nat} (ha : R8_11 a) {I : Int} (c : 0 ≤ I ∧ I < 3) : A2 (a + 1 + 2 * I.toNat) := by
  have hI : I = 0 ∨ I = 1 ∨ I = 2 := by omega
  rcases ha with rfl | rfl <;> rcases hI with rfl | rfl | rfl <;> simp [A2]
theorem x_pR {h h' : PH} (H : OKX h) {a ci k r' : Nat} {l : List Nat} (e1 : (Sk h)[a]? = some (0, ci, l)) (e2 : Sk h' = (Sk h).set a (0, ci, l.set k (r' + 3))) (e3 : rd h' = up (rd h) a k r') (hs : ∀ l', (skx (rd h))[a]? = some (0, ci, l') → (skx (rd h)).set a (0, ci, l'.set k (r' + 3)) = skx (up (rd h) a k r')) (hv : vrx (rd h) → vrx (up (rd h) a k r')) : OKX h' := by
  refine ⟨?_, ?_⟩
  · rw [e2, e3, H.1]
    exact hs l (by rw [← H.1]; exact e1)
  · rw [e3]; exact hv H.2
theorem x_pR_11_3 {h : PH} (H : OKX h) {r : Nat} (hr : A8 r) : ∃ h', pR h 0 11 3 r = some h' ∧ OKX h' ∧ rd h' = up (rd h) 0 3 ((r : Nat) : Int) := by
  obtain ⟨h', e1, ⟨l, e2, e3⟩, e4⟩ := pR_rd (h := h) (a := 0) (ci := 11) (k := 3) (r := (rd h 0 3).toNat) (r' := r) (by rw [H.1]; rfl)
  refine ⟨h', e1, x_pR H e2 e3 e4 ?_ ?_, e4⟩
  · intro l' q
    have : l' = _ := (congrArg (fun x => (x.getD (0, 0, [])).2.2) q).symm
    subst this
    rfl
  · rintro ⟨⟨v1, v2, v3, v4, v5, v6⟩, w1, w2, w3, w4, w5, w6⟩
    exact ⟨⟨hr, v2, v3, v4, v5, v6⟩, Int.natCast_nonneg _, w2, w3, w4, w5, w6⟩
theorem x_pR_11_4 {h : PH} (H : OKX h) {r : Nat} (hr : A8 r) : ∃ h', pR h 0 11 4 r = some h' ∧ OKX h' ∧ rd h' = up (rd h) 0 4 ((r : Nat) : Int) := by
  obtain ⟨h', e1, ⟨l, e2, e3⟩, e4⟩ := pR_rd (h := h) (a := 0) (ci := 11) (k := 4) (r := (rd h 0 4).toNat) (r' := r) (by rw [H.1]; rfl)
  refine ⟨h', e1, x_pR H e2 e3 e4 ?_ ?_, e4⟩
  · intro l' q
    have : l' = _ := (congrArg (fun x => (x.getD (0, 0, [])).2.2) q).symm
    subst this
    rfl
  · rintro ⟨⟨v1, v2, v3, v4, v5, v6⟩, w1, w2, w3, w4, w5, w6⟩
    exact ⟨⟨v1, hr, v3, v4, v5, v6⟩, w1, Int.natCast_nonneg _, w3, w4, w5, w6⟩
theorem x_pR_5_10 {h : PH} (H : OKX h) {r : Nat} (hr : A8 r) : ∃ h', pR h 46 5 10 r = some h' ∧ OKX h' ∧ rd h' = up (rd h) 46 10 ((r : Nat) : Int) := by
  obtain ⟨h', e1, ⟨l, e2, e3⟩, e4⟩ := pR_rd (h := h) (a := 46) (ci := 5) (k := 10) (r := (rd h 46 10).toNat) (r' := r) (by rw [H.1]; rfl)
  refine ⟨h', e1, x_pR H e2 e3 e4 ?_ ?_, e4⟩
  · intro l' q
    have : l' = _ := (congrArg (fun x => (x.getD (0, 0, [])).2.2) q).symm
    subst this
    rfl
  · rintro ⟨⟨v1, v2, v3, v4, v5, v6⟩, w1, w2, w3, w4, w5, w6⟩
    exact ⟨⟨v1, v2, hr, v4, v5, v6⟩, w1, w2, Int.natCast_nonneg _, w4, w5, w6⟩
theorem x_pR_7_1 {h : PH} (H : OKX h) : ∃ h', pR h 47 7 1 1 = some h' ∧ OKX h' ∧ rd h' = up (rd h) 47 1 ((1 : Nat) : Int) := by
  obtain ⟨h', e1, ⟨l, e2, e3⟩, e4⟩ := pR_rd (h := h) (a := 47) (ci := 7) (k := 1) (r := (rd h 47 1).toNat) (r' := 1) (by rw [H.1]; rfl)
  refine ⟨h', e1, x_pR H e2 e3 e4 ?_ ?_, e4⟩
  · intro l' q
    have : l' = _ := (congrArg (fun x => (x.getD (0, 0, [])).2.2) q).symm
    subst this
    rfl
  · rintro ⟨⟨v1, v2, v3, v4, v5, v6⟩, w1, w2, w3, w4, w5, w6⟩
    exact ⟨⟨v1, v2, v3, Or.inr rfl, v5, v6⟩, w1, w2, w3, Int.natCast_nonneg _, w5, w6⟩
theorem x_pR_6_0 {h : PH} (H : OKX h) {a : Nat} (ha : A6 a) {r : Nat} (hr : A8 r) : ∃ h', pR h a 6 0 r = some h' ∧ OKX h' ∧ rd h' = up (rd h) a 0 ((r : Nat) : Int) := by
  rcases ha with rfl | rfl
  · obtain ⟨h', e1, ⟨l, e2, e3⟩, e4⟩ := pR_rd (h := h) (a := 51) (ci := 6) (k := 0) (r := (rd h 51 0).toNat) (r' := r) (by rw [H.1]; rfl)
    refine ⟨h', e1, x_pR H e2 e3 e4 ?_ ?_, e4⟩
    · intro l' q
      have : l' = _ := (congrArg (fun x => (x.getD (0, 0, [])).2.2) q).symm
      subst this
      rfl
    · rintro ⟨⟨v1, v2, v3, v4, v5, v6⟩, w1, w2, w3, w4, w5, w6⟩
      exact ⟨⟨v1, v2, v3, v4, hr, v6⟩, w1, w2, w3, w4, Int.natCast_nonneg _, w6⟩
  · obtain ⟨h', e1, ⟨l, e2, e3⟩, e4⟩ := pR_rd (h := h) (a := 60) (ci := 6) (k := 0) (r := (rd h 60 0).toNat) (r' := r) (by rw [H.1]; rfl)
    refine ⟨h', e1, x_pR H e2 e3 e4 ?_ ?_, e4⟩
    · intro l' q
      have : l' = _ := (congrArg (fun x => (x.getD (0, 0, [])).2.2) q).symm
      subst this
      rfl
    · rintro ⟨⟨v1, v2, v3, v4, v5, v6⟩, w1, w2, w3, w4, w5, w6⟩
      exact ⟨⟨v1, v2, v3, v4, v5, hr⟩, w1, w2, w3, w4, w5, Int.natCast_nonneg _⟩
theorem anyM_1 : AnyM 1 := ⟨700, rfl, by decide⟩
theorem anyM_2 : AnyM 2 := ⟨120, rfl, by decide⟩
theorem anyM_4 : AnyM 4 := ⟨14, rfl, by decide⟩
theorem anyM_5 : AnyM 5 := ⟨10, rfl, by decide⟩
theorem anyM_6 : AnyM 6 := ⟨10, rfl, by decide⟩
theorem anyM_7 : AnyM 7 := ⟨10, rfl, by decide⟩
theorem anyM_8 : AnyM 8 := ⟨10, rfl, by decide⟩
theorem anyM_9 : AnyM 9 := ⟨10, rfl, by decide⟩
theorem anyM_10 : AnyM 10 := ⟨10, rfl, by decide⟩
theorem anyM_11 : AnyM 11 := ⟨8, rfl, by decide⟩
theorem anyM_12 : AnyM 12 := ⟨56, rfl, by decide⟩
theorem anyM_13 : AnyM 13 := ⟨56, rfl, by decide⟩
theorem anyM_14 : AnyM 14 := ⟨56, rfl, by decide⟩
theorem anyM_16 : AnyM 16 := ⟨6, rfl, by decide⟩
theorem anyM_17 : AnyM 17 := ⟨6, rfl, by decide⟩
theorem anyM_18 : AnyM 18 := ⟨128, rfl, by decide⟩
theorem anyM_19 : AnyM 19 := ⟨128, rfl, by decide⟩
theorem anyM_20 : AnyM 20 := ⟨128, rfl, by decide⟩
theorem anyM_21 : AnyM 21 := ⟨96, rfl, by decide⟩
theorem anyM_22 : AnyM 22 := ⟨96, rfl, by decide⟩
theorem anyM_25 : AnyM 25 := ⟨10, rfl, by decide⟩
theorem anyM_26 : AnyM 26 := ⟨10, rfl, by decide⟩
theorem anyM_27 : AnyM 27 := ⟨10, rfl, by decide⟩
theorem anyM_28 : AnyM 28 := ⟨10, rfl, by decide⟩
theorem anyM_29 : AnyM 29 := ⟨5, rfl, by decide⟩
theorem anyM_30 : AnyM 30 := ⟨56, rfl, by decide⟩
theorem anyM_31 : AnyM 31 := ⟨2, rfl, by decide⟩
theorem anyM_32 : AnyM 32 := ⟨2, rfl, by decide⟩
theorem anyM_33 : AnyM 33 := ⟨2, rfl, by decide⟩
theorem anyM_34 : AnyM 34 := ⟨5, rfl, by decide⟩
theorem anyM_35 : AnyM 35 := ⟨25, rfl, by decide⟩
theorem anyM_36 : AnyM 36 := ⟨25, rfl, by decide⟩
theorem anyM_37 : AnyM 37 := ⟨29, rfl, by decide⟩
theorem anyM_38 : AnyM 38 := ⟨28, rfl, by decide⟩
theorem anyM_39 : AnyM 39 := ⟨72, rfl, by decide⟩
theorem anyM_41 : AnyM 41 := ⟨220, rfl, by decide⟩
theorem anyM_42 : AnyM 42 := ⟨53, rfl, by decide⟩
