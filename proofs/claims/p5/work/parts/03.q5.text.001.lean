section Q39
variable {m v : Mem} {S : Int} {D : Nat}
theorem l_line (hD : DI m v D) (h : PostR m v S) : LOut (G5_readLine m) (G12_lineRead v) m v D S := by
  have hk := h.2.2.2.2.2.2.2
  have hb := KR_b hk
  have hi := KR_kw hk (lo := 0) (hi := 7) (by first | decide | omega) (by first | decide | omega)
  unfold G5_readLine G5_readLine_0 G12_lineRead G12_lineRead_0
  by_cases c : 0 ≤ m 47 4 ∧ m 47 4 ≤ 7
  · obtain ⟨k8, k9⟩ := hi.mp c
    have ek : v 0 9 = m 47 4 := by
      have hlo : kwf (m 47 4) = m 47 4 := kwf_lo (by first | decide | omega)
      unfold KR SGN NumR at hk
      rw [hlo] at hk
      omega
    rw [if_pos k8, if_pos (show v 0 9 ≤ 7 by first | decide | omega), ek]
    rcases (show m 47 4 = 0 ∨ m 47 4 = 1 ∨ m 47 4 = 2 ∨ m 47 4 = 3 ∨ m 47 4 = 4 ∨ m 47 4 = 5 ∨ m 47 4 = 6 ∨ m 47 4 = 7 by first | decide | omega) with e | e | e | e | e | e | e | e
    · simp only [if_pos e]
      exact lo_gdb (l_sea hD h)
    · simp only [if_neg (show ¬ m 47 4 = 0 by first | decide | omega), if_pos e]
      exact lo_gdb (l_peak hD h e)
    · simp only [if_neg (show ¬ m 47 4 = 0 by first | decide | omega), if_neg (show ¬ m 47 4 = 1 by first | decide | omega), if_pos e]
      exact lo_gdb (l_surf hD h)
    · simp only [if_neg (show ¬ m 47 4 = 0 by first | decide | omega), if_neg (show ¬ m 47 4 = 1 by first | decide | omega), if_neg (show ¬ m 47 4 = 2 by first | decide | omega), if_pos e]
      exact lo_gdb (l_set hD h)
    · simp only [if_neg (show ¬ m 47 4 = 0 by first | decide | omega), if_neg (show ¬ m 47 4 = 1 by first | decide | omega), if_neg (show ¬ m 47 4 = 2 by first | decide | omega), if_neg (show ¬ m 47 4 = 3 by first | decide | omega), if_pos e]
      exact lo_gdb (l_bank hD h e)
    · simp only [if_neg (show ¬ m 47 4 = 0 by first | decide | omega), if_neg (show ¬ m 47 4 = 1 by first | decide | omega), if_neg (show ¬ m 47 4 = 2 by first | decide | omega), if_neg (show ¬ m 47 4 = 3 by first | decide | omega), if_neg (show ¬ m 47 4 = 4 by first | decide | omega), if_pos e]
      exact lo_gdb (l_rule hD h e)
    · simp only [if_neg (show ¬ m 47 4 = 0 by first | decide | omega), if_neg (show ¬ m 47 4 = 1 by first | decide | omega), if_neg (show ¬ m 47 4 = 2 by first | decide | omega), if_neg (show ¬ m 47 4 = 3 by first | decide | omega), if_neg (show ¬ m 47 4 = 4 by first | decide | omega), if_neg (show ¬ m 47 4 = 5 by first | decide | omega), if_pos e]
      exact lo_gdb (l_seed hD h e)
    · rw [if_neg (show ¬ m 47 4 = 0 by first | decide | omega), if_neg (show ¬ m 47 4 = 1 by first | decide | omega), if_neg (show ¬ m 47 4 = 2 by first | decide | omega), if_neg (show ¬ m 47 4 = 3 by first | decide | omega), if_neg (show ¬ m 47 4 = 4 by first | decide | omega), if_neg (show ¬ m 47 4 = 5 by first | decide | omega), if_neg (show ¬ m 47 4 = 6 by first | decide | omega), if_pos e, if_neg (show ¬ m 47 4 = 0 by first | decide | omega), if_neg (show ¬ m 47 4 = 1 by first | decide | omega), if_neg (show ¬ m 47 4 = 2 by first | decide | omega), if_neg (show ¬ m 47 4 = 3 by first | decide | omega), if_neg (show ¬ m 47 4 = 4 by first | decide | omega), if_neg (show ¬ m 47 4 = 5 by first | decide | omega), if_neg (show ¬ m 47 4 = 6 by first | decide | omega)]
      exact lo_gdb (l_law hD h)
  · have e17 : G12_lineRead_17 v = some (0, up (up v 0 4 1) 0 5 (v 0 10)) := by unfold G12_lineRead_17; rw [r_wrong, bs1, gdb_t (by first | decide | omega)]
    rw [if_neg (show ¬ m 47 4 = 0 by first | decide | omega), if_neg (show ¬ m 47 4 = 1 by first | decide | omega), if_neg (show ¬ m 47 4 = 2 by first | decide | omega), if_neg (show ¬ m 47 4 = 3 by first | decide | omega), if_neg (show ¬ m 47 4 = 4 by first | decide | omega), if_neg (show ¬ m 47 4 = 5 by first | decide | omega), if_neg (show ¬ m 47 4 = 6 by first | decide | omega), if_neg (show ¬ m 47 4 = 7 by first | decide | omega), c_ref, bs1, gdb_t (by first | decide | omega)]
    refine lo_ref h 1 rfl ?_
    by_cases a : v 0 8 = 1
    · have hkb : 0 ≤ m 47 4 ∧ m 47 4 < 24 → 0 ≤ kwf (m 47 4) ∧ kwf (m 47 4) < 24 ∧ (15 ≤ m 47 4 ∧ m 47 4 ≤ 17 → 15 ≤ kwf (m 47 4) ∧ kwf (m 47 4) ≤ 17) := kwf_b
      have : ¬ v 0 9 ≤ 7 := fun z => c (hi.mpr ⟨a, by unfold KR SGN NumR at hk; first | decide | omega, z⟩)
      rw [if_pos a, if_neg this, e17]
    · rw [if_neg a, e17]
end Q39
