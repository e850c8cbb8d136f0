/-! The line of a set on both sides: the loop. -/
section Q30
variable {m v : Mem} {S : Int} {D : Nat}
/-- the stop where the token is held -/
theorem n_stop1 (h : PostR m v S) (c : m 47 4 = 38) : ∃ v', G12_lineRead_197 v 1 = some (1, v') ∧ Fm Q7 v v' ∧ PreR m v' S ∧ v 0 8 = 4 := by
  have hk := h.2.2.2.2.2.2.2
  have e8 : v 0 8 = 4 ∧ v 0 9 = 59 := by unfold KR SGN NumR at hk; omega
  obtain ⟨v', z1, z2, z3⟩ := h.tok
  unfold G12_lineRead_197 G12_isSign G12_isSign_0
  rw [if_neg i10, if_pos e8.1, if_pos e8.2, bs1]
  simp only [if_neg i10]
  rw [z1, bs1]
  exact ⟨v', rfl, z2, z3, e8.1⟩
theorem n_stop0 (h : PostR m v S) (c : ¬ m 47 4 = 38) : G12_lineRead_197 v 1 = some (0, up (up v 0 4 1) 0 5 (v 0 10)) := by
  have hk := h.2.2.2.2.2.2.2
  unfold G12_lineRead_197 G12_isSign G12_isSign_0
  have e8 : (if v 0 8 = 4 then if v 0 9 = 59 then some ((1 : Int), v) else some (0, v) else some (0, v)) = some (0, v) := by
    by_cases a : v 0 8 = 4
    · have : ¬ v 0 9 = 59 := by unfold KR SGN NumR at hk; omega
      rw [if_pos a, if_neg this]
    · rw [if_neg a]
  rw [if_neg i10, e8, bs1]
  simp only [if_true]
  rw [r_wrong, bs1, gdb_t (by first | decide | omega)]
/-- one more wave -/
theorem SetI.add {m0 v0 m' : Mem} {x k t c0 y : Int} (hDD : D = 2 ∨ D = 24) (h : SetI m0 v0 m v D x k t c0) (hk : 0 ≤ k) (hc : 0 ≤ c0) (hy : 1 ≤ y ∧ y ≤ 9) (f : Fm (fun b i => (b = D + 8 ∧ i = 1) ∨ (b = D + 8 + 2 ∧ i = t) ∨ (D + 8 + 3 ≤ b ∧ b ≤ D + 8 + 6 ∧ i = c0 + k)) m m') (a : m' (D + 8) 1 = c0 + k + 1 ∧ m' (D + 8 + 2) t = k + 1 ∧ m' (D + 8 + 3) (c0 + k) = x + k ∧ m' (D + 8 + 4) (c0 + k) = y ∧ m' (D + 8 + 5) (c0 + k) = t ∧ m' (D + 8 + 6) (c0 + k) = k + 1) : SetI m0 v0 m' (up (up (up (up v 12 (28 + (c0 + k)) (x + k)) 13 (28 + (c0 + k)) y) 14 (28 + (c0 + k)) t) 0 22 (c0 + k + 1)) D x (k + 1) t c0 := by
  obtain ⟨h1, h2, h3, h4, h5⟩ := h
  obtain ⟨a1, a2, a3, a4, a5, a6⟩ := a
  refine ⟨h1.tr (f.mono ?_), (((h2.w ?_).w ?_).w ?_).w ?_, ⟨?_, ?_, ?_, ?_⟩, ⟨?_, ?_⟩, fun j p q => ?_⟩
  · intro b i q; unfold PSe; omega
  · unfold QSe; omega
  · unfold QSe; omega
  · unfold QSe; omega
  · unfold QSe; omega
  · rw [f (D + 8) 0 (by first | decide | omega)]; exact h3.1
  · rw [a1]; omega
  · rw [f (D + 9) t (by first | decide | omega)]; exact h3.2.2.1
  · exact a2
  · rw [up_e]; omega
  · rw [up_a (by first | decide | omega), up_a (by first | decide | omega), up_a (by first | decide | omega), up_a (by first | decide | omega)]; exact h4.2
  · have d11 : m' (D + 11) = m' (D + 8 + 3) := rfl
    have d12 : m' (D + 12) = m' (D + 8 + 4) := rfl
    have d13 : m' (D + 13) = m' (D + 8 + 5) := rfl
    have d14 : m' (D + 14) = m' (D + 8 + 6) := rfl
    by_cases c : j = k
    · subst c
      rw [d11, d12, d13, d14, a3, a4, a5, a6]
      refine ⟨⟨rfl, hy, rfl, rfl⟩, ?_, ?_, ?_⟩
      · rw [up_a (by first | decide | omega), up_a (by first | decide | omega), up_a (by first | decide | omega), up_e]
      · rw [up_a (by first | decide | omega), up_a (by first | decide | omega), up_e]
      · rw [up_a (by first | decide | omega), up_e]
    · have z := h5 j p (by first | decide | omega)
      rw [f (D + 11) _ (by first | decide | omega), f (D + 12) _ (by first | decide | omega), f (D + 13) _ (by first | decide | omega), f (D + 14) _ (by first | decide | omega)]
      refine ⟨z.1, ?_, ?_, ?_⟩
      · rw [up_a (by first | decide | omega), up_a (by first | decide | omega), up_a (by first | decide | omega), up_i (by first | decide | omega)]; exact z.2.1
      · rw [up_a (by first | decide | omega), up_a (by first | decide | omega), up_i (by first | decide | omega), up_a (by first | decide | omega)]; exact z.2.2.1
      · rw [up_a (by first | decide | omega), up_i (by first | decide | omega), up_a (by first | decide | omega), up_a (by first | decide | omega)]; exact z.2.2.2
end Q30
