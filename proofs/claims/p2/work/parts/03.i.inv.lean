/-! Bounds of int fields and of what int rows hold; what keeps them. -/
/-- field: (id, class, field, least, most) -/
def Bd (h : PH) (x : Nat × Nat × Nat × Int × Int) : Prop := ∃ v, gI h x.1 x.2.1 x.2.2.1 = some v ∧ x.2.2.2.1 ≤ v.toInt ∧ v.toInt ≤ x.2.2.2.2
/-- row: (id, kind, length, least, most) -/
def Br (h : PH) (x : Nat × Nat × Nat × Int × Int) : Prop := ∀ i v, aI h x.1 x.2.1 i = some v → x.2.2.2.1 ≤ v.toInt ∧ v.toInt ≤ x.2.2.2.2
def Iv (S : List (Nat × Nat × List Nat)) (FB AB : List (Nat × Nat × Nat × Int × Int)) (h : PH) : Prop := Sk h = S ∧ (∀ x ∈ FB, Bd h x) ∧ ∀ x ∈ AB, Br h x
section IV
variable {S : List (Nat × Nat × List Nat)} {FB AB : List (Nat × Nat × Nat × Int × Int)} {h : PH}
theorem iv_R (I : Iv S FB AB h) {a ci k r : Nat} (e : cR S a ci k = some r) : gR h a ci k = some r := by rw [gR_Sk, I.1]; exact e
theorem iv_O (I : Iv S FB AB h) {a ci : Nat} (e : cO S a ci = true) : okO h a ci = true := by rw [okO_Sk, I.1]; exact e
theorem iv_gI (I : Iv S FB AB h) {a ci k : Nat} {lo hi : Int} (hm : (a, ci, k, lo, hi) ∈ FB) : ∃ v, gI h a ci k = some v ∧ lo ≤ v.toInt ∧ v.toInt ≤ hi := I.2.1 _ hm
theorem iv_gI0 (I : Iv S FB AB h) {a ci k : Nat} (e : cF S a ci k = some 0) : ∃ v, gI h a ci k = some v := gI_ex (by rw [I.1]; exact e)
theorem iv_gJ (I : Iv S FB AB h) {a ci k : Nat} (e : cF S a ci k = some 1) : ∃ v, gJ h a ci k = some v := gJ_ex (by rw [I.1]; exact e)
theorem iv_aI (I : Iv S FB AB h) {a t n : Nat} {lo hi : Int} (hm : (a, t, n, lo, hi) ∈ AB) (ht : t < 10) (e : cA S a (t + 1) = some n) {i : Int32} (hi' : vp_in i n) : ∃ v, aI h a t i = some v ∧ lo ≤ v.toInt ∧ v.toInt ≤ hi := by
  obtain ⟨v, e1⟩ := aI_ex (h := h) ht (by rw [I.1]; exact e) hi'
  exact ⟨v, e1, I.2.2 _ hm i v e1⟩
theorem iv_aI0 (I : Iv S FB AB h) {a t n : Nat} (ht : t < 10) (e : cA S a (t + 1) = some n) {i : Int32} (hi' : vp_in i n) : ∃ v, aI h a t i = some v := aI_ex (h := h) ht (by rw [I.1]; exact e) hi'
/-- a field is written: what bounds it is asked of the new value -/
theorem iv_pI (I : Iv S FB AB h) {a ci k : Nat} (e : cF S a ci k = some 0) (v : Int32) (hb : ∀ x ∈ FB, x.1 = a → x.2.2.1 = k → x.2.1 = ci ∧ x.2.2.2.1 ≤ v.toInt ∧ v.toInt ≤ x.2.2.2.2) : ∃ h', pI h a ci k v = some h' ∧ Iv S FB AB h' ∧ Kp (fun x j => ¬ (x = a ∧ j = k)) (fun _ => True) h h' ∧ gI h' a ci k = some v := by
  obtain ⟨h', e1, K, g⟩ := pI_ex (h := h) (a := a) (ci := ci) (k := k) (by rw [I.1]; exact e) v
  refine ⟨h', e1, ⟨K.1.trans I.1, fun x hx => ?_, fun x hx i w hw => ?_⟩, K, g⟩
  · by_cases c : x.1 = a ∧ x.2.2.1 = k
    · obtain ⟨h1, h2, h3⟩ := hb x hx c.1 c.2
      exact ⟨v, by rw [c.1, c.2, h1]; exact g, h2, h3⟩
    · obtain ⟨w, h1, h2⟩ := I.2.1 x hx
      exact ⟨w, by rw [Kp_gI K c]; exact h1, h2⟩
  · exact I.2.2 x hx i w (by rw [← K.2.2 x.1 x.2.1 i trivial]; exact hw)
theorem sI_old {h' : PH} {a t : Nat} {i x : Int32} (e : sI h a t i x = some h') {t' : Nat} {j v : Int32} (hv : aI h' a t' j = some v) : v = x ∨ aI h a t' j = some v := by
  obtain ⟨n, f, h1, h2, h3⟩ := sI_spec e
  subst h3
  unfold aI at hv ⊢
  rw [st_s h1] at hv
  rw [h1]
  simp only at hv ⊢
  split at hv
  · rename_i hc
    rw [if_pos hc]
    by_cases hj : j.toNatClampNeg = i.toNatClampNeg
    · left
      have := Option.some.inj hv
      rw [hj] at this
      simpa [upd] using this.symm
    · right
      have := Option.some.inj hv
      rw [← this]
      simp [upd, hj]
  · cases hv
/-- a row is written: what bounds it is asked of the new value -/
theorem iv_sI (I : Iv S FB AB h) {a t n : Nat} (ht : t < 10) (e : cA S a (t + 1) = some n) {i : Int32} (hi' : vp_in i n) (v : Int32) (hb : ∀ x ∈ AB, x.1 = a → x.2.2.2.1 ≤ v.toInt ∧ v.toInt ≤ x.2.2.2.2) : ∃ h', sI h a t i v = some h' ∧ Iv S FB AB h' ∧ Kp (fun _ _ => True) (fun y => y ≠ a) h h' ∧ aI h' a t i = some v := by
  obtain ⟨h', e1, K, g⟩ := sI_ex (h := h) (a := a) ht (by rw [I.1]; exact e) hi' v
  refine ⟨h', e1, ⟨K.1.trans I.1, fun x hx => ?_, fun x hx j w hw => ?_⟩, K, g⟩
  · obtain ⟨w, h1, h2⟩ := I.2.1 x hx
    exact ⟨w, by rw [Kp_gI K trivial]; exact h1, h2⟩
  · by_cases c : x.1 = a
    · rw [c] at hw
      rcases sI_old e1 hw with z | z
      · rw [z]; exact hb x hx c
      · exact I.2.2 x hx j w (by rw [c]; exact z)
    · exact I.2.2 x hx j w (by rw [← K.2.2 x.1 x.2.1 j c]; exact hw)
end IV
-- numbers: comparisons and sums as integers
theorem i_lt {a b : Int32} : a < b ↔ a.toInt < b.toInt := Int32.lt_iff_toInt_lt
theorem i_le {a b : Int32} : a ≤ b ↔ a.toInt ≤ b.toInt := Int32.le_iff_toInt_le
theorem i_eq {a b : Int32} : a = b ↔ a.toInt = b.toInt := Int32.toInt_inj.symm
theorem i_bm {x : Int} (h1 : -2147483648 ≤ x) (h2 : x ≤ 2147483647) : x.bmod 4294967296 = x := by
  rw [Int.bmod_eq_of_le]
  · omega
  · omega
theorem i_add {a b : Int32} (h1 : -2147483648 ≤ a.toInt + b.toInt) (h2 : a.toInt + b.toInt ≤ 2147483647) : (a + b).toInt = a.toInt + b.toInt := by
  rw [Int32.toInt_add]; exact i_bm h1 h2
theorem i_sub {a b : Int32} (h1 : -2147483648 ≤ a.toInt - b.toInt) (h2 : a.toInt - b.toInt ≤ 2147483647) : (a - b).toInt = a.toInt - b.toInt := by
  rw [Int32.toInt_sub]; exact i_bm h1 h2
theorem i_mul {a b : Int32} (h1 : -2147483648 ≤ a.toInt * b.toInt) (h2 : a.toInt * b.toInt ≤ 2147483647) : (a * b).toInt = a.toInt * b.toInt := by
  rw [Int32.toInt_mul]; exact i_bm h1 h2
theorem i_in {i : Int32} {n : Nat} (h1 : 0 ≤ i.toInt) (h2 : i.toInt < n) : vp_in i n := by
  unfold vp_in
  rintro (z | z)
  · rw [i_lt] at z
    have : (0 : Int32).toInt = 0 := by decide
    omega
  · have : i.toNatClampNeg = i.toInt.toNat := rfl
    omega
