section Q41
variable {m v : Mem} {S : Int} {D : Nat}
/-- both begin to read -/
theorem t_begin {x : Int} (hDD : D = 2 ∨ D = 24) (hT : RTp m v) (hx : 0 ≤ x ∧ x ≤ m 0 1) : ∃ mS vS w1, G5_readAll (up m 0 1 0) x D = G5_readAll_44 1024 mS 0 ∧ G12_plain (rb0 v x) = some w1 ∧ G12_token w1 = some vS ∧ Fm (PT D) m mS ∧ Fm QT v vS ∧ DI mS vS D ∧ PreR mS vS x ∧ mS D 12 = 0 ∧ mS 47 3 = 0 ∧ mS 0 1 = 0 ∧ vS 0 1 = 0 ∧ mS 46 8 = 0 ∧ mS 46 9 = -1 ∧ vS 0 4 = 0 ∧ vS 0 5 = -1 := by
  obtain ⟨p1, p2, p3, p4, p5⟩ := hT
  obtain ⟨mS, e1, FS, ⟨k01, k10⟩, ⟨⟨j6, j7, j8, j9⟩, l1, l2, l3⟩, k12, v0⟩ := c_begin (m := m) (D := D) (x := x) hDD (by first | decide | omega)
  obtain ⟨w1, a1, a2, ⟨hv1, hv2⟩, a3, a4, a5⟩ := r_begin (v := v) (x := x)
  have hTP : TPx w1 (mS 1) x := by
    have r1 : mS 1 = m 1 := funext fun i => FS 1 i (by unfold PT PX; first | decide | omega)
    refine ⟨by first | decide | omega, hv2.1, fun i z1 z2 => ?_, fun i z => ?_⟩
    · rw [r1, a2 1 i (by first | decide | omega)]; exact p3 i z1 (by first | decide | omega)
    · rw [a2 2 i (by first | decide | omega)]; exact p5 i z
  obtain ⟨v', e, f, k1, k2, k3⟩ := r_tokS (p := 0) hTP (by first | decide | omega) hv2.2.2.2.2
  have V1 : ∀ i, (i < 7 ∨ 10 < i) → v' 0 i = w1 0 i := fun i z => f 0 i (by unfold Q7; first | decide | omega)
  refine ⟨mS, v', w1, e1, a1, e, FS, ?_, ?_, ⟨hTP.q f, l1, l2, ⟨fun i z => ?_, by rw [j8, j9, V1 4 (by first | decide | omega), V1 5 (by first | decide | omega)]; exact ⟨hv2.2.2.1.symm, hv2.2.2.2.1.symm⟩⟩, by first | decide | omega, ?_, ?_, ?_⟩, k12, l3, k01, ?_, j8, j9, ?_, ?_⟩
  · exact (a2.mono (by intro b i q; unfold QT QX; first | decide | omega)).tr (f.mono (by intro b i q; unfold Q7 at q; unfold QT QX; first | decide | omega))
  · refine di_new hDD v0 ⟨k10, j6, j7⟩ ?_ (fun i z1 z2 => ?_) (fun i z1 z2 => ?_) (fun i z1 z2 => ?_)
    · rw [V1 18 (by first | decide | omega), V1 19 (by first | decide | omega), V1 20 (by first | decide | omega), V1 21 (by first | decide | omega), V1 22 (by first | decide | omega), V1 23 (by first | decide | omega), V1 49 (by first | decide | omega), V1 24 (by first | decide | omega)]; exact hv1
    · rw [f 3 i (by unfold Q7; first | decide | omega)]; exact a3 i z1 z2
    · rw [f 4 i (by unfold Q7; first | decide | omega)]; exact a4 i z1 z2
    · rw [f 15 i (by unfold Q7; first | decide | omega)]; exact a5 i z1 z2
  · rw [FS 48 i (by unfold PT PX; first | decide | omega)]; exact p4 i z
  · rw [l3]; exact k1
  · rw [l3]; exact k2
  · rw [l3]; exact k3
  · rw [V1 1 (by first | decide | omega)]; exact hv2.2.1
  · rw [V1 4 (by first | decide | omega)]; exact hv2.2.2.1
  · rw [V1 5 (by first | decide | omega)]; exact hv2.2.2.2.1
end Q41
