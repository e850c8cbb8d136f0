section Q40
variable {m v : Mem} {S : Int} {D : Nat}
theorem c_begin {x : Int} (hDD : D = 2 ∨ D = 24) (hx : x ≤ 700) : ∃ mS, G5_readAll (up m 0 1 0) x D = G5_readAll_44 1024 mS 0 ∧ Fm (PT D) m mS ∧ (mS 0 1 = 0 ∧ mS 46 10 = (D : Int)) ∧ ((mS 46 6 = 0 ∧ mS 46 7 = 0 ∧ mS 46 8 = 0 ∧ mS 46 9 = -1) ∧ (mS 47 1 = 1 ∧ mS 47 2 = x ∧ mS 47 3 = 0)) ∧ mS D 12 = 0 ∧ ((mS D 0 = 6 ∧ mS D 1 = 4 ∧ mS D 2 = 0 ∧ mS D 3 = 0 ∧ mS D 6 = 0 ∧ mS D 7 = 0 ∧ mS D 8 = 0 ∧ mS D 9 = 0 ∧ mS D 10 = 0 ∧ mS D 13 = 0) ∧ (mS (D + 1) 0 = 0 ∧ mS (D + 8) 0 = 0 ∧ mS (D + 8) 1 = 0) ∧ (mS (D + 16) 1 = 0 ∧ mS (D + 16) 2 = 0 ∧ mS (D + 18) 1 = 0 ∧ mS (D + 18) 2 = 0 ∧ mS (D + 20) 1 = 0 ∧ mS (D + 20) 2 = 0)) := by
  have e1 := c_all0 (m := up m 0 1 0) (D := D) hx
  have f0 : Fm (fun b i => D ≤ b ∧ b ≤ D + 21) (up (up m 0 1 0) 46 10 D) (fgB D (fgA D (up (up m 0 1 0) 46 10 D))) := fg_f hDD
  have v0 := fg_v (m := up (up m 0 1 0) 46 10 D) hDD
  have g0 : Fm (fun b i => (b = 0 ∧ i = 1) ∨ (b = 46 ∧ i = 10)) m (up (up m 0 1 0) 46 10 D) := (Fm.w1 (by first | decide | omega)).w (by first | decide | omega)
  have k10 : up (up m 0 1 0) 46 10 D 46 10 = (D : Int) := up_e
  have k01 : up (up m 0 1 0) 46 10 D 0 1 = 0 := by rw [up_a (by first | decide | omega), up_e]
  generalize fgB D (fgA D (up (up m 0 1 0) 46 10 D)) = u0 at e1 f0 v0
  generalize up (up m 0 1 0) 46 10 (D : Int) = u1 at f0 g0 k10 k01
  have bv := bg_v u0 x
  have f1 : Fm (fun b i => (b = 46 ∧ 6 ≤ i ∧ i ≤ 9) ∨ b = 47) u0 (up (up (up (up (up (up (up u0 46 8 0) 46 9 (-1)) 46 6 0) 46 7 0) 47 1 1) 47 2 x) 47 3 0) := ((((((Fm.w1 (by first | decide | omega)).w (by first | decide | omega)).w (by first | decide | omega)).w (by first | decide | omega)).w (by first | decide | omega)).w (by first | decide | omega)).w (by first | decide | omega)
  generalize up (up (up (up (up (up (up u0 46 8 0) 46 9 (-1)) 46 6 0) 46 7 0) 47 1 1) 47 2 x) 47 3 0 = mS at e1 f1 bv
  have em : ∀ (b : Nat) i, D ≤ b → b ≤ D + 21 → mS b i = u0 b i := fun b i z1 z2 => f1 b i (by first | decide | omega)
  refine ⟨mS, e1, ((g0.mono ?_).tr (f0.mono ?_)).tr (f1.mono ?_), ⟨?_, ?_⟩, bv, ?_, ?_⟩
  · intro b i q; unfold PT; omega
  · intro b i q; unfold PT PX; omega
  · intro b i q; unfold PT PX; omega
  · rw [f1 0 1 (by first | decide | omega), f0 0 1 (by first | decide | omega)]; exact k01
  · rw [f1 46 10 (by first | decide | omega), f0 46 10 (by first | decide | omega)]; exact k10
  · rw [em D 12 (by first | decide | omega) (by first | decide | omega)]; exact v0.1.2.2.2.2.2.2.2.2.2.1
  · obtain ⟨⟨y0, y1, y2, y3, y6, y7, y8, y9, y10, y12, y13⟩, ⟨x1, x2, x3⟩, c1, c2, c3, c4, c5, c6⟩ := v0
    rw [em D 0 (by first | decide | omega) (by first | decide | omega), em D 1 (by first | decide | omega) (by first | decide | omega), em D 2 (by first | decide | omega) (by first | decide | omega), em D 3 (by first | decide | omega) (by first | decide | omega), em D 6 (by first | decide | omega) (by first | decide | omega), em D 7 (by first | decide | omega) (by first | decide | omega), em D 8 (by first | decide | omega) (by first | decide | omega), em D 9 (by first | decide | omega) (by first | decide | omega), em D 10 (by first | decide | omega) (by first | decide | omega), em D 13 (by first | decide | omega) (by first | decide | omega), em (D + 1) 0 (by first | decide | omega) (by first | decide | omega), em (D + 8) 0 (by first | decide | omega) (by first | decide | omega), em (D + 8) 1 (by first | decide | omega) (by first | decide | omega), em (D + 16) 1 (by first | decide | omega) (by first | decide | omega), em (D + 16) 2 (by first | decide | omega) (by first | decide | omega), em (D + 18) 1 (by first | decide | omega) (by first | decide | omega), em (D + 18) 2 (by first | decide | omega) (by first | decide | omega), em (D + 20) 1 (by first | decide | omega) (by first | decide | omega), em (D + 20) 2 (by first | decide | omega) (by first | decide | omega)]
    exact ⟨⟨y0, y1, y2, y3, y6, y7, y8, y9, y10, y13⟩, ⟨x1, x2, x3⟩, c1, c2, c3, c4, c5, c6⟩
end Q40
