section Q40
variable {m v : Mem} {S : Int} {D : Nat}
theorem fg_f (hDD : D = 2 ∨ D = 24) : Fm (fun b i => D ≤ b ∧ b ≤ D + 21) m (fgB D (fgA D m)) := by
  unfold fgB fgA
  exact (((((((((((((((((((Fm.w1 (by first | decide | omega)).w (by first | decide | omega)).w (by first | decide | omega)).w (by first | decide | omega)).w (by first | decide | omega)).w (by first | decide | omega)).w (by first | decide | omega)).w (by first | decide | omega)).w (by first | decide | omega)).w (by first | decide | omega)).w (by first | decide | omega)).w (by first | decide | omega)).w (by first | decide | omega)).w (by first | decide | omega)).w (by first | decide | omega)).w (by first | decide | omega)).w (by first | decide | omega)).w (by first | decide | omega)).w (by first | decide | omega)).w (by first | decide | omega)
theorem fg_v (hDD : D = 2 ∨ D = 24) : (fgB D (fgA D m) D 0 = 6 ∧ fgB D (fgA D m) D 1 = 4 ∧ fgB D (fgA D m) D 2 = 0 ∧ fgB D (fgA D m) D 3 = 0 ∧ fgB D (fgA D m) D 6 = 0 ∧ fgB D (fgA D m) D 7 = 0 ∧ fgB D (fgA D m) D 8 = 0 ∧ fgB D (fgA D m) D 9 = 0 ∧ fgB D (fgA D m) D 10 = 0 ∧ fgB D (fgA D m) D 12 = 0 ∧ fgB D (fgA D m) D 13 = 0) ∧ (fgB D (fgA D m) (D + 1) 0 = 0 ∧ fgB D (fgA D m) (D + 8) 0 = 0 ∧ fgB D (fgA D m) (D + 8) 1 = 0) ∧ (fgB D (fgA D m) (D + 16) 1 = 0 ∧ fgB D (fgA D m) (D + 16) 2 = 0 ∧ fgB D (fgA D m) (D + 18) 1 = 0 ∧ fgB D (fgA D m) (D + 18) 2 = 0 ∧ fgB D (fgA D m) (D + 20) 1 = 0 ∧ fgB D (fgA D m) (D + 20) 2 = 0) := by
  rcases hDD with e | e <;> subst e <;> refine ⟨⟨?_, ?_, ?_, ?_, ?_, ?_, ?_, ?_, ?_, ?_, ?_⟩, ⟨?_, ?_, ?_⟩, ?_, ?_, ?_, ?_, ?_, ?_⟩ <;> rfl
end Q40
