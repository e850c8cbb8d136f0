/-! How reading begins on both sides. -/
section Q41
variable {m v : Mem} {S : Int} {D : Nat}
def rb0 (v : Mem) (x : Int) : Mem := up (up (up (up (up (up v 0 2 0) 0 6 x) 0 1 0) 0 4 0) 0 5 (-1)) 0 7 0
def rb1 (v : Mem) : Mem := up (up (up (up (up (up (up (up v 0 18 6) 0 19 4) 0 20 0) 0 21 0) 0 22 0) 0 23 0) 0 49 0) 0 24 0
theorem rb_f {x : Int} : Fm (fun b i => b = 0 ∧ (i = 1 ∨ i = 2 ∨ (4 ≤ i ∧ i ≤ 7) ∨ (18 ≤ i ∧ i ≤ 24) ∨ i = 49)) v (rb1 (rb0 v x)) := by
  unfold rb1 rb0
  exact (((((((((((((Fm.w1 (by omega)).w (by omega)).w (by omega)).w (by omega)).w (by omega)).w (by omega)).w (by omega)).w (by omega)).w (by omega)).w (by omega)).w (by omega)).w (by omega)).w (by omega)).w (by omega)
theorem rb_v {x : Int} : (rb1 (rb0 v x) 0 18 = 6 ∧ rb1 (rb0 v x) 0 19 = 4 ∧ rb1 (rb0 v x) 0 20 = 0 ∧ rb1 (rb0 v x) 0 21 = 0 ∧ rb1 (rb0 v x) 0 22 = 0 ∧ rb1 (rb0 v x) 0 23 = 0 ∧ rb1 (rb0 v x) 0 49 = 0 ∧ rb1 (rb0 v x) 0 24 = 0) ∧ (rb1 (rb0 v x) 0 6 = x ∧ rb1 (rb0 v x) 0 1 = 0 ∧ rb1 (rb0 v x) 0 4 = 0 ∧ rb1 (rb0 v x) 0 5 = -1 ∧ rb1 (rb0 v x) 0 7 = 0) := by
  refine ⟨⟨?_, ?_, ?_, ?_, ?_, ?_, ?_, ?_⟩, ?_, ?_, ?_, ?_, ?_⟩ <;> rfl
theorem r_begin {x : Int} : ∃ w1, G12_plain (rb0 v x) = some w1 ∧ Fm (fun b i => (b = 0 ∧ (i = 1 ∨ i = 2 ∨ (4 ≤ i ∧ i ≤ 7) ∨ (18 ≤ i ∧ i ≤ 24) ∨ i = 49)) ∨ b = 3 ∨ (b = 4 ∧ 7 ≤ i) ∨ (b = 15 ∧ 3 ≤ i)) v w1 ∧ ((w1 0 18 = 6 ∧ w1 0 19 = 4 ∧ w1 0 20 = 0 ∧ w1 0 21 = 0 ∧ w1 0 22 = 0 ∧ w1 0 23 = 0 ∧ w1 0 49 = 0 ∧ w1 0 24 = 0) ∧ (w1 0 6 = x ∧ w1 0 1 = 0 ∧ w1 0 4 = 0 ∧ w1 0 5 = -1 ∧ w1 0 7 = 0)) ∧ (∀ i, 0 ≤ i → i < 5 → w1 3 i = 0) ∧ (∀ i, 7 ≤ i → i < 14 → w1 4 i = 0) ∧ ∀ i, 3 ≤ i → i < 6 → w1 15 i = 0 := by
  have e0 : G12_plain (rb0 v x) = G12_plain_43 1024 (rb1 (rb0 v x)) 0 := by
    unfold G12_plain G12_plain_0 rb1
    rw [wt_e, wt_e, wt_e, wt_e, wt_e, wt_e, wt_e, wt_e]
  have h0 := rb_f (v := v) (x := x)
  have hv := rb_v (v := v) (x := x)
  rw [e0]
  generalize rb1 (rb0 v x) = w0 at h0 hv ⊢
  obtain ⟨w1, a1, a2, a3, a4, a5⟩ := r_p43 5 1024 0 w0 (by omega) (by omega) (by omega)
  have W1 : ∀ i, w1 0 i = w0 0 i := fun i => a2 0 i (by omega)
  refine ⟨w1, a1, (h0.mono ?_).tr (a2.mono ?_), ?_, a3, a4, a5⟩
  · intro b i q; omega
  · intro b i q; omega
  · rw [W1, W1, W1, W1, W1, W1, W1, W1, W1, W1, W1, W1, W1]; exact hv
/-- both begin to read -/
theorem t_begin {x : Int} (hDD : D = 2 ∨ D = 24) (hT : RTp m v) (hx : 0 ≤ x ∧ x ≤ m 0 1) : ∃ mS vS w1, G5_readAll (up m 0 1 0) x D = G5_readAll_44 1024 mS 0 ∧ G12_plain (rb0 v x) = some w1 ∧ G12_token w1 = some vS ∧ Fm (PT D) m mS ∧ Fm QT v vS ∧ DI mS vS D ∧ PreR mS vS x ∧ mS D 12 = 0 ∧ mS 47 3 = 0 ∧ mS 0 1 = 0 ∧ vS 0 1 = 0 ∧ mS 46 8 = 0 ∧ mS 46 9 = -1 ∧ vS 0 4 = 0 ∧ vS 0 5 = -1 := by
  obtain ⟨p1, p2, p3, p4, p5⟩ := hT
  obtain ⟨mS, e1, FS, ⟨k01, k10⟩, ⟨⟨j6, j7, j8, j9⟩, l1, l2, l3⟩, k12, v0⟩ := c_begin (m := m) (D := D) (x := x) hDD (by omega)
  obtain ⟨w1, a1, a2, ⟨hv1, hv2⟩, a3, a4, a5⟩ := r_begin (v := v) (x := x)
  have hTP : TPx w1 (mS 1) x := by
    have r1 : mS 1 = m 1 := funext fun i => FS 1 i (by unfold PT PX; omega)
    refine ⟨by omega, hv2.1, fun i z1 z2 => ?_, fun i z => ?_⟩
    · rw [r1, a2 1 i (by omega)]; exact p3 i z1 (by omega)
    · rw [a2 2 i (by omega)]; exact p5 i z
  obtain ⟨v', e, f, k1, k2, k3⟩ := r_tokS (p := 0) hTP (by omega) hv2.2.2.2.2
  have V1 : ∀ i, (i < 7 ∨ 10 < i) → v' 0 i = w1 0 i := fun i z => f 0 i (by unfold Q7; omega)
  refine ⟨mS, v', w1, e1, a1, e, FS, ?_, ?_, ⟨hTP.q f, l1, l2, ⟨fun i z => ?_, by rw [j8, j9, V1 4 (by omega), V1 5 (by omega)]; exact ⟨hv2.2.2.1.symm, hv2.2.2.2.1.symm⟩⟩, by omega, ?_, ?_, ?_⟩, k12, l3, k01, ?_, j8, j9, ?_, ?_⟩
  · exact (a2.mono (by intro b i q; unfold QT QX; omega)).tr (f.mono (by intro b i q; unfold Q7 at q; unfold QT QX; omega))
  · refine di_new hDD v0 ⟨k10, j6, j7⟩ ?_ (fun i z1 z2 => ?_) (fun i z1 z2 => ?_) (fun i z1 z2 => ?_)
    · rw [V1 18 (by omega), V1 19 (by omega), V1 20 (by omega), V1 21 (by omega), V1 22 (by omega), V1 23 (by omega), V1 49 (by omega), V1 24 (by omega)]; exact hv1
    · rw [f 3 i (by unfold Q7; omega)]; exact a3 i z1 z2
    · rw [f 4 i (by unfold Q7; omega)]; exact a4 i z1 z2
    · rw [f 15 i (by unfold Q7; omega)]; exact a5 i z1 z2
  · rw [FS 48 i (by unfold PT PX; omega)]; exact p4 i z
  · rw [l3]; exact k1
  · rw [l3]; exact k2
  · rw [l3]; exact k3
  · rw [V1 1 (by omega)]; exact hv2.2.1
  · rw [V1 4 (by omega)]; exact hv2.2.2.1
  · rw [V1 5 (by omega)]; exact hv2.2.2.2.1
end Q41
