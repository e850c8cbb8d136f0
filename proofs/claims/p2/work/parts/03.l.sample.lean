/-! A first method by hand, as the sample for the program that is to write the others: Waves.firstFrom. -/
section TX
variable {T R O B : Nat} {h : PH}
theorem t_10_firstFrom_2 (I : Iv (SXf T R O B) FBX ABX h) {w : Nat} (hw : w = 10 ∨ w = 32) (x1 : Int32) : ∀ (d n : Nat) (x2 : Int32), 0 ≤ x2.toInt → 28 - x2.toInt ≤ (d : Int) → d < n → ∃ o, F10_firstFrom_2 n h w x1 x2 = some o ∧ o.2 = h ∧ 0 ≤ o.1.toInt ∧ o.1.toInt ≤ 28 := by
  obtain ⟨v1, e1, b1, b2⟩ := iv_gI I (a := w) (ci := 10) (k := 1) (lo := 0) (hi := 28) (by rcases hw with rfl | rfl <;> decide)
  have r6 := iv_R I (a := w) (ci := 10) (k := 4) (r := w + 3) (by rcases hw with rfl | rfl <;> rfl)
  intro d
  induction d with
  | zero =>
    intro n x2 h1 h2 h3
    obtain ⟨n, rfl⟩ : ∃ m, n = m + 1 := ⟨n - 1, by omega⟩
    rw [F10_firstFrom_2]
    exact bx e1 (ixp (i_le.mpr (by omega)) (bx e1 ⟨_, rfl, rfl, b1, b2⟩))
  | succ d ih =>
    intro n x2 h1 h2 h3
    obtain ⟨n, rfl⟩ : ∃ m, n = m + 1 := ⟨n - 1, by omega⟩
    rw [F10_firstFrom_2]
    refine bx e1 ?_
    by_cases c : v1 ≤ x2
    · exact ixp c (bx e1 ⟨_, rfl, rfl, b1, b2⟩)
    · refine ixn c (bx r6 ?_)
      rw [i_le] at c
      obtain ⟨v9, e9, -, -⟩ := iv_aI I (a := w + 3) (t := 0) (n := 28) (lo := 0) (hi := 199) (by rcases hw with rfl | rfl <;> decide) (by decide) (by rcases hw with rfl | rfl <;> rfl) (i := x2) (i_in h1 (by omega))
      refine bx e9 ?_
      by_cases c2 : v9 < x1
      · have q1 : (1 : Int32).toInt = 1 := by decide
        have q : (x2 + 1).toInt = x2.toInt + 1 := by rw [i_add (by omega) (by omega), q1]
        exact ixp c2 (ih n (x2 + 1) (by omega) (by omega) (by omega))
      · exact ixn c2 ⟨_, rfl, rfl, h1, by show x2.toInt ≤ 28; omega⟩
theorem t_10_firstFrom (I : Iv (SXf T R O B) FBX ABX h) {w : Nat} (hw : w = 10 ∨ w = 32) (x1 : Int32) : ∃ o, F10_firstFrom h w x1 = some o ∧ o.2 = h ∧ 0 ≤ o.1.toInt ∧ o.1.toInt ≤ 28 :=
  cx (iv_O I (by rcases hw with rfl | rfl <;> rfl)) (t_10_firstFrom_2 I hw x1 28 1024 0 (by decide) (by decide) (by decide))
end TX
