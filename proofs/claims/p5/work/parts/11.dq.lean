/-! Decode rows, many at once. -/
def dq (c : ByteArray) : List (Nat × Instr × Nat) → Bool
  | [] => true
  | a :: r => decide (decode c a.1 = .ok (a.2.1, a.2.2)) && dq c r
theorem dq_at {c : ByteArray} : ∀ {L : List (Nat × Instr × Nat)}, dq c L = true → ∀ (k : Nat) {pc n : Nat} {i : Instr}, L[k]? = some (pc, i, n) → decode c pc = .ok (i, n) := by
  intro L
  induction L with
  | nil => intro _ k pc n i e; simp at e
  | cons a r ih =>
    intro h k pc n i e
    simp only [dq, Bool.and_eq_true, decide_eq_true_eq] at h
    cases k with
    | zero =>
      have e2 : a = (pc, i, n) := Option.some.inj e
      subst e2
      exact h.1
    | succ k => exact ih h.2 k e
