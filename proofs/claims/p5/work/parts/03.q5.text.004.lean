/-! How reading begins on both sides; what a refused text leaves. -/
section Q40
variable {m v : Mem} {S : Int} {D : Nat}
def fgA (D : Nat) (m : Mem) : Mem := up (up (up (up (up (up (up (up (up (up (up (up m D 0 6) D 1 4) D 2 0) D 3 0) (D + 1) 0 0) (D + 8) 0 0) (D + 8) 1 0) D 6 0) D 7 0) D 8 0) D 9 0) D 10 0
def fgB (D : Nat) (m : Mem) : Mem := up (up (up (up (up (up (up (up m (D + 16) 1 0) (D + 16) 2 0) (D + 18) 1 0) (D + 18) 2 0) (D + 20) 1 0) (D + 20) 2 0) D 12 0) D 13 0
theorem c_fgt : G8_forget m D = some (fgB D (fgA D m)) := by
  unfold G8_forget G8_forget_0 G10_forget G10_forget_0
  simp only [wt_e, bs1]
  show G8_forget_63 1024 (fgA D m) D 0 = _
  generalize fgA D m = u
  have s0 : ∀ (u : Mem) (k : Nat) (x : Int) (p : Nat), 0 ≤ x → x < 3 → (D + 16) + 2 * x.toNat = p → G8_forget_63 (k + 1) u D x = G8_forget_63 k (up (up u p 1 0) p 2 0) D (x + 1) := by
    intro u k x p h1 h2 h3
    rw [G8_forget_63, if_neg (by first | decide | omega), gdx_t (by first | decide | omega), h3]
    unfold G2_forget G2_forget_0
    rw [wt_e, wt_e, bs1, gd3_t (by first | decide | omega)]
  rw [s0 u 1023 0 (D + 16) (by first | decide | omega) (by first | decide | omega) (by first | decide | omega), s0 _ 1022 (0 + 1) (D + 18) (by first | decide | omega) (by first | decide | omega) (by first | decide | omega), s0 _ 1021 (0 + 1 + 1) (D + 20) (by first | decide | omega) (by first | decide | omega) (by first | decide | omega), G8_forget_63, if_pos (by first | decide | omega), wt_e, wt_e]
  rfl
end Q40
