section Q40
variable {m v : Mem} {S : Int} {D : Nat}
theorem bg_v (u : Mem) (x : Int) : (up (up (up (up (up (up (up u 46 8 0) 46 9 (-1)) 46 6 0) 46 7 0) 47 1 1) 47 2 x) 47 3 0 46 6 = 0 ∧ up (up (up (up (up (up (up u 46 8 0) 46 9 (-1)) 46 6 0) 46 7 0) 47 1 1) 47 2 x) 47 3 0 46 7 = 0 ∧ up (up (up (up (up (up (up u 46 8 0) 46 9 (-1)) 46 6 0) 46 7 0) 47 1 1) 47 2 x) 47 3 0 46 8 = 0 ∧ up (up (up (up (up (up (up u 46 8 0) 46 9 (-1)) 46 6 0) 46 7 0) 47 1 1) 47 2 x) 47 3 0 46 9 = -1) ∧ (up (up (up (up (up (up (up u 46 8 0) 46 9 (-1)) 46 6 0) 46 7 0) 47 1 1) 47 2 x) 47 3 0 47 1 = 1 ∧ up (up (up (up (up (up (up u 46 8 0) 46 9 (-1)) 46 6 0) 46 7 0) 47 1 1) 47 2 x) 47 3 0 47 2 = x ∧ up (up (up (up (up (up (up u 46 8 0) 46 9 (-1)) 46 6 0) 46 7 0) 47 1 1) 47 2 x) 47 3 0 47 3 = 0) := by
  refine ⟨⟨?_, ?_, ?_, ?_⟩, ?_, ?_, ?_⟩
  · rw [up_a (by first | decide | omega), up_a (by first | decide | omega), up_a (by first | decide | omega), up_i (by first | decide | omega), up_e]
  · rw [up_a (by first | decide | omega), up_a (by first | decide | omega), up_a (by first | decide | omega), up_e]
  · rw [up_a (by first | decide | omega), up_a (by first | decide | omega), up_a (by first | decide | omega), up_i (by first | decide | omega), up_i (by first | decide | omega), up_i (by first | decide | omega), up_e]
  · rw [up_a (by first | decide | omega), up_a (by first | decide | omega), up_a (by first | decide | omega), up_i (by first | decide | omega), up_i (by first | decide | omega), up_e]
  · rw [up_i (by first | decide | omega), up_i (by first | decide | omega), up_e]
  · rw [up_i (by first | decide | omega), up_e]
  · exact up_e
theorem c_all0 {x : Int} (hx : x ≤ 700) : G5_readAll m x D = G5_readAll_44 1024 (up (up (up (up (up (up (up (fgB D (fgA D (up m 46 10 D))) 46 8 0) 46 9 (-1)) 46 6 0) 46 7 0) 47 1 1) 47 2 x) 47 3 0) 0 := by
  unfold G5_readAll G5_readAll_0 G7_begin G7_begin_0
  have c1 : ((1 : Nat) : Int) = 1 := rfl
  generalize (1024 : Nat) = K
  rw [wt_e, up_e, Int.toNat_natCast, c_fgt, bs1]
  simp only [wt_e, bs1, if_neg (show ¬ 700 < x by first | decide | omega), c1]
end Q40
