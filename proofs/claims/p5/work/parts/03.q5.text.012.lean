/-! How reading begins on both sides. -/
section Q41
variable {m v : Mem} {S : Int} {D : Nat}
def rb0 (v : Mem) (x : Int) : Mem := up (up (up (up (up (up v 0 2 0) 0 6 x) 0 1 0) 0 4 0) 0 5 (-1)) 0 7 0
def rb1 (v : Mem) : Mem := up (up (up (up (up (up (up (up v 0 18 6) 0 19 4) 0 20 0) 0 21 0) 0 22 0) 0 23 0) 0 49 0) 0 24 0
theorem rb_f {x : Int} : Fm (fun b i => b = 0 ∧ (i = 1 ∨ i = 2 ∨ (4 ≤ i ∧ i ≤ 7) ∨ (18 ≤ i ∧ i ≤ 24) ∨ i = 49)) v (rb1 (rb0 v x)) := by
  unfold rb1 rb0
  exact (((((((((((((Fm.w1 (by first | decide | omega)).w (by first | decide | omega)).w (by first | decide | omega)).w (by first | decide | omega)).w (by first | decide | omega)).w (by first | decide | omega)).w (by first | decide | omega)).w (by first | decide | omega)).w (by first | decide | omega)).w (by first | decide | omega)).w (by first | decide | omega)).w (by first | decide | omega)).w (by first | decide | omega)).w (by first | decide | omega)
theorem rb_v {x : Int} : (rb1 (rb0 v x) 0 18 = 6 ∧ rb1 (rb0 v x) 0 19 = 4 ∧ rb1 (rb0 v x) 0 20 = 0 ∧ rb1 (rb0 v x) 0 21 = 0 ∧ rb1 (rb0 v x) 0 22 = 0 ∧ rb1 (rb0 v x) 0 23 = 0 ∧ rb1 (rb0 v x) 0 49 = 0 ∧ rb1 (rb0 v x) 0 24 = 0) ∧ (rb1 (rb0 v x) 0 6 = x ∧ rb1 (rb0 v x) 0 1 = 0 ∧ rb1 (rb0 v x) 0 4 = 0 ∧ rb1 (rb0 v x) 0 5 = -1 ∧ rb1 (rb0 v x) 0 7 = 0) := by
  refine ⟨⟨?_, ?_, ?_, ?_, ?_, ?_, ?_, ?_⟩, ?_, ?_, ?_, ?_, ?_⟩ <;> rfl
end Q41
