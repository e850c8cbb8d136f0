section Q41
variable {m v : Mem} {S : Int} {D : Nat}
theorem r_begin {x : Int} : ∃ w1, G12_plain (rb0 v x) = some w1 ∧ Fm (fun b i => (b = 0 ∧ (i = 1 ∨ i = 2 ∨ (4 ≤ i ∧ i ≤ 7) ∨ (18 ≤ i ∧ i ≤ 24) ∨ i = 49)) ∨ b = 3 ∨ (b = 4 ∧ 7 ≤ i) ∨ (b = 15 ∧ 3 ≤ i)) v w1 ∧ ((w1 0 18 = 6 ∧ w1 0 19 = 4 ∧ w1 0 20 = 0 ∧ w1 0 21 = 0 ∧ w1 0 22 = 0 ∧ w1 0 23 = 0 ∧ w1 0 49 = 0 ∧ w1 0 24 = 0) ∧ (w1 0 6 = x ∧ w1 0 1 = 0 ∧ w1 0 4 = 0 ∧ w1 0 5 = -1 ∧ w1 0 7 = 0)) ∧ (∀ i, 0 ≤ i → i < 5 → w1 3 i = 0) ∧ (∀ i, 7 ≤ i → i < 14 → w1 4 i = 0) ∧ ∀ i, 3 ≤ i → i < 6 → w1 15 i = 0 := by
  have e0 : G12_plain (rb0 v x) = G12_plain_43 1024 (rb1 (rb0 v x)) 0 := by
    unfold G12_plain G12_plain_0 rb1
    rw [wt_e, wt_e, wt_e, wt_e, wt_e, wt_e, wt_e, wt_e]
  have h0 := rb_f (v := v) (x := x)
  have hv := rb_v (v := v) (x := x)
  rw [e0]
  generalize rb1 (rb0 v x) = w0 at h0 hv ⊢
  obtain ⟨w1, a1, a2, a3, a4, a5⟩ := r_p43 5 1024 0 w0 (by first | decide | omega) (by first | decide | omega) (by first | decide | omega)
  have W1 : ∀ i, w1 0 i = w0 0 i := fun i => a2 0 i (by first | decide | omega)
  refine ⟨w1, a1, (h0.mono ?_).tr (a2.mono ?_), ?_, a3, a4, a5⟩
  · intro b i q; omega
  · intro b i q; omega
  · rw [W1, W1, W1, W1, W1, W1, W1, W1, W1, W1, W1, W1, W1]; exact hv
end Q41
