section Q44
variable {m v : Mem} {S : Int} {D T : Nat}
/-- a text was refused: all is as it was -/
theorem Rel.left {m' v' : Mem} (h : Rel m v) (hD : (D : Int) = m 0 4) (f : Fm (PT D) m m') (g : Fm QT v v') (h1 : m' 0 1 = 0 ∧ v' 0 1 = 0) (hf : FLT m' v') : Rel m' v' := by
  obtain ⟨T, hA, h2, h3, h4, h5, h6, h7, h8, h9⟩ := h.all
  obtain ⟨⟨t1, t2, t3, t4⟩, hW, hG, hR⟩ := hA
  have hDT : D + T = 26 := by omega
  have ew : sl 21 m' T = sl 21 m T := sl_c (fun b x y => f.rw1 (fun i => by unfold PT PX; first | decide | omega))
  have en : sl 6 m' 69 = sl 6 m 69 := sl_c (fun b x y => f.rw1 (fun i => by unfold PT PX; first | decide | omega))
  have eg : sl 3 m' 51 = sl 3 m 51 := sl_c (fun b x y => f.rw1 (fun i => by unfold PT PX; first | decide | omega))
  have hs := hW.1
  unfold WS at hs
  refine Rel.of (T := T) ⟨⟨⟨t1, ?_, ?_, ?_⟩, ?_, ?_, ?_⟩, ?_, ?_, ?_, ?_, ?_, ?_, hf, ?_⟩
  · rw [f 0 3 (by unfold PT PX; first | decide | omega)]; exact t2
  · rw [f 0 4 (by unfold PT PX; first | decide | omega)]; exact t3
  · rw [f 51 0 (by unfold PT PX; first | decide | omega)]; exact t4
  · rw [ew]; exact hW
  · rw [ew, eg]; exact hG
  · rw [ew]; exact hR.fr2 hW.1 (fun b i z => g b i (QT_K z))
  · rw [ew, en]; exact h2
  · rw [ew, en]; exact h3.f g (by first | decide | omega) (by intro b i q; unfold QT QX; first | decide | omega)
  · rw [ew]; exact h4.f f g (by intro b i q; unfold PT PX; first | decide | omega) (by intro b i q; unfold QT QX; first | decide | omega)
  · rw [ew]; exact h5.f f g (by intro b i q; unfold PT PX; first | decide | omega) (by intro b i q; unfold QT QX; first | decide | omega)
  · rw [ew, en]; exact h6.f f g (by intro b i q; unfold PT PX; first | decide | omega) (by intro b i q; unfold QT QX; first | decide | omega)
  · obtain ⟨p1, p2, p3, p4, p5⟩ := h7
    refine ⟨by rw [h1.1, h1.2], by first | decide | omega, fun i z1 z2 => by first | decide | omega, fun i z => ?_, fun i z => ?_⟩
    · rw [f 48 i (by unfold PT PX; first | decide | omega)]; exact p4 i z
    · rw [g 2 i (by unfold QT QX; first | decide | omega)]; exact p5 i z
  · intro i p q; rw [f 102 i (by unfold PT PX; first | decide | omega)]; exact h9 i p q
end Q44
