/-! A text is told: both say the same, and belong together again. -/
section Q44
variable {m v : Mem} {S : Int} {D T : Nat}
theorem QT_K {b : Nat} {i : Int} (h : KT b i) : ¬ QT b i := by
  unfold KT at h
  unfold QT QX
  omega
/-- a text was refused: all is as it was -/
theorem Rel.left {m' v' : Mem} (h : Rel m v) (hD : (D : Int) = m 0 4) (f : Fm (PT D) m m') (g : Fm QT v v') (h1 : m' 0 1 = 0 ∧ v' 0 1 = 0) (hf : FLT m' v') : Rel m' v' := by
  obtain ⟨T, hA, h2, h3, h4, h5, h6, h7, h8, h9⟩ := h.all
  obtain ⟨⟨t1, t2, t3, t4⟩, hW, hG, hR⟩ := hA
  have hDT : D + T = 26 := by omega
  have ew : sl 21 m' T = sl 21 m T := sl_c (fun b x y => f.rw1 (fun i => by unfold PT PX; omega))
  have en : sl 6 m' 69 = sl 6 m 69 := sl_c (fun b x y => f.rw1 (fun i => by unfold PT PX; omega))
  have eg : sl 3 m' 51 = sl 3 m 51 := sl_c (fun b x y => f.rw1 (fun i => by unfold PT PX; omega))
  have hs := hW.1
  unfold WS at hs
  refine Rel.of (T := T) ⟨⟨⟨t1, ?_, ?_, ?_⟩, ?_, ?_, ?_⟩, ?_, ?_, ?_, ?_, ?_, ?_, hf, ?_⟩
  · rw [f 0 3 (by unfold PT PX; omega)]; exact t2
  · rw [f 0 4 (by unfold PT PX; omega)]; exact t3
  · rw [f 51 0 (by unfold PT PX; omega)]; exact t4
  · rw [ew]; exact hW
  · rw [ew, eg]; exact hG
  · rw [ew]; exact hR.fr2 hW.1 (fun b i z => g b i (QT_K z))
  · rw [ew, en]; exact h2
  · rw [ew, en]; exact h3.f g (by omega) (by intro b i q; unfold QT QX; omega)
  · rw [ew]; exact h4.f f g (by intro b i q; unfold PT PX; omega) (by intro b i q; unfold QT QX; omega)
  · rw [ew]; exact h5.f f g (by intro b i q; unfold PT PX; omega) (by intro b i q; unfold QT QX; omega)
  · rw [ew, en]; exact h6.f f g (by intro b i q; unfold PT PX; omega) (by intro b i q; unfold QT QX; omega)
  · obtain ⟨p1, p2, p3, p4, p5⟩ := h7
    refine ⟨by rw [h1.1, h1.2], by omega, fun i z1 z2 => by omega, fun i z => ?_, fun i z => ?_⟩
    · rw [f 48 i (by unfold PT PX; omega)]; exact p4 i z
    · rw [g 2 i (by unfold QT QX; omega)]; exact p5 i z
  · intro i p q; rw [f 102 i (by unfold PT PX; omega)]; exact h9 i p q
/-- a new text was taken -/
theorem Rel.anew {m1 m5 v1 v2 v3 : Mem} (h : Rel m v) (hD : (D : Int) = m 0 4) (f : Fm (PT D) m m1) (g : Fm QT v v1) (h1 : m1 0 1 = 0 ∧ v1 0 1 = 0) (hf : FLT m1 v1) (hI : DI m1 v1 D) (hk : KD 21 v1 v2) (fm : Fm (fun b i => (b = 0 ∧ (i = 3 ∨ i = 4 ∨ i = 10)) ∨ (51 ≤ b ∧ b ≤ 56) ∨ (69 ≤ b ∧ b ≤ 75) ∨ b = 90 ∨ b = 96) m1 m5) (h0 : m5 0 3 = (D : Int) ∧ m5 0 4 = 26 - (D : Int) ∧ m5 0 10 = 0 ∧ m5 51 0 = (D : Int)) (hG : GE (sl 21 m1 D) (sl 3 m5 51) (gM (sl 21 m1 D) (-1))) (hn0 : m5 69 0 = 0 ∧ m5 69 1 = m1 D 9 ∧ m5 69 2 = m1 D 10 ∧ m5 69 3 = 0 ∧ m5 69 4 = 0) (hn1 : ∀ i, 0 ≤ i → i < 5 → m5 70 i = m1 (D + 3) i ∧ m5 71 i = 0 ∧ m5 72 i = 0 ∧ m5 73 i = 0 ∧ m5 74 i = 0) (hn6 : ∀ i, 0 ≤ i → i < 28 → m5 75 i = -2) (h90 : m5 90 0 = 0 ∧ m5 90 1 = -1 ∧ m5 96 0 = 0) (g3 : Fm (fun b i => ((25 ≤ b ∧ b ≤ 29) ∧ 0 ≤ i) ∨ (30 ≤ b ∧ b ≤ 33) ∨ (b = 0 ∧ 64 ≤ i)) v2 v3) (hb1 : ∀ i, 0 ≤ i → i < 5 → v3 25 i = v2 6 i ∧ v3 26 i = 0 ∧ v3 27 i = 0 ∧ v3 28 i = 0 ∧ v3 29 i = v2 8 i) (hb2 : ∀ i, 0 ≤ i → i < 28 → v3 30 i = -2) (hb3 : v3 31 0 = 0 ∧ v3 32 0 = 0 ∧ v3 33 0 = 0 ∧ v3 0 64 = v2 4 5 ∧ v3 0 65 = v2 4 6 ∧ v3 0 66 = -1 ∧ v3 0 74 = 0 ∧ v3 0 75 = -1 ∧ v3 0 78 = 0 ∧ v3 0 80 = 0) : Rel m5 v3 := by
  obtain ⟨_, _, _, _, _, _, _, h7, _, h9⟩ := h.all
  obtain ⟨⟨hDD, _⟩, hW, hR, _⟩ := hI
  have ew : sl 21 m5 D = sl 21 m1 D := sl_c (fun b x y => fm.rw1 (fun i => by omega))
  have hs := hW.1
  unfold WS at hs
  have hR2 : RT v2 (sl 21 m1 D) := hR.fr2 hW.1 (fun b i z => hk.1 b i z (by unfold KT at z; omega))
  have hR3 : RT v3 (sl 21 m1 D) := hR2.fr2 hW.1 (fun b i z => g3 b i (by unfold KT at z; omega))
  have w0 : ∀ i, sl 21 m1 D 0 i = m1 D i := fun i => sl_e (Nat.zero_le _) i
  have n0 : ∀ i, sl 6 m5 69 0 i = m5 69 i := fun i => sl_e (Nat.zero_le _) i
  have n1 : ∀ i, sl 6 m5 69 1 i = m5 70 i := fun i => sl_e (by omega) i
  have n2 : ∀ i, sl 6 m5 69 2 i = m5 71 i := fun i => sl_e (by omega) i
  have n3 : ∀ i, sl 6 m5 69 3 i = m5 72 i := fun i => sl_e (by omega) i
  have n4 : ∀ i, sl 6 m5 69 4 i = m5 73 i := fun i => sl_e (by omega) i
  have n5 : ∀ i, sl 6 m5 69 5 i = m5 74 i := fun i => sl_e (by omega) i
  have n6 : ∀ i, sl 6 m5 69 6 i = m5 75 i := fun i => sl_e (by omega) i
  have w3 : ∀ i, sl 21 m1 D 3 i = m1 (D + 3) i := fun i => sl_e (by omega) i
  have hff := (ff_spec (w := sl 21 m1 D) (by omega) 0).1
  refine Rel.of (T := D) ⟨⟨⟨hDD, h0.1, h0.2.1, h0.2.2.2⟩, by rw [ew]; exact hW, by rw [ew]; exact hG, by rw [ew]; exact hR3⟩, ?_, ?_, ?_, ?_, ?_, ?_, ?_, ?_⟩
  · rw [ew]
    refine ⟨⟨?_, fun i p q => ?_⟩, ?_, fun i p q => ?_, fun k p q => ?_⟩
    · rw [n0, n0, n0, n0, n0, hn0.1, hn0.2.1, hn0.2.2.1, hn0.2.2.2.1, hn0.2.2.2.2, ← w0, ← w0]
      omega
    · obtain ⟨x1, x2, x3, x4, x5⟩ := hn1 i p (by omega)
      rw [n0, n1, n2, n3, n4, hn0.1, x1, x2, x3, x4, ← w3]
      exact ⟨(hW.2.1 i p q).1, by omega, by omega, by omega⟩
    · rw [n0, hn0.1]; omega
    · obtain ⟨x1, x2, x3, x4, x5⟩ := hn1 i p (by omega)
      have := (hW.2.1 i p q).2.2.1
      rw [n0, n4, n5, hn0.1, x4, x5]
      omega
    · have := (hW.2.2.2.1 k p q).2.1
      rw [n0, n6, hn0.1, hn6 k p (by omega)]
      exact ⟨fun _ => this.1, fun _ => rfl⟩
  · rw [ew]
    refine ⟨⟨fun i p q => ?_, fun k p q => ?_, ?_, ?_, ?_⟩, ?_, ?_, fun i p q => ?_, hb3.2.2.2.2.2.1⟩
    · obtain ⟨x1, x2, x3, x4, x5⟩ := hn1 i p (by omega)
      obtain ⟨y1, y2, y3, y4, y5⟩ := hb1 i p (by omega)
      rw [show 5 * (0 : Int) + i = i by omega, n1, n2, n3, x1, x2, x3, y1, y2, y3, ← w3]
      exact ⟨(hR2.2.2.1 i p q).2.1, rfl, rfl⟩
    · rw [show 28 * (0 : Int) + k = k by omega, n6, hn6 k p (by omega)]; exact hb2 k p (by omega)
    · rw [n0, hn0.2.2.2.1]; exact hb3.2.1
    · rw [n0, hn0.2.2.2.2]; exact hb3.2.2.1
    · rw [n0, hn0.2.2.1, hb3.2.2.2.2.1, ← w0]; exact hR2.2.1.2.2.2.2.2.2
    · rw [n0, hn0.1]; exact hb3.1
    · rw [n0, hn0.2.1, hb3.2.2.2.1, ← w0]; exact hR2.2.1.2.2.2.2.2.1
    · obtain ⟨x1, x2, x3, x4, x5⟩ := hn1 i p (by omega)
      obtain ⟨y1, y2, y3, y4, y5⟩ := hb1 i p (by omega)
      rw [n4, n5, x4, x5, y4, y5]
      exact ⟨rfl, by rw [(hR2.2.2.1 i p q).2.2.2.1]; omega⟩
  · exact ⟨by rw [h0.2.2.1, hb3.2.2.2.2.2.2.2.2.2], Or.inl h0.2.2.1⟩
  · refine ⟨by rw [h90.1, hb3.2.2.2.2.2.2.1], by omega, by rw [h90.2.1, hb3.2.2.2.2.2.2.2.1], by omega, fun k p q => by omega⟩
  · refine ⟨by rw [h90.2.2, hb3.2.2.2.2.2.2.2.2.1], by omega, fun _ s => sl 6 m5 69 1 s, fun _ s => sl 6 m5 69 5 s, fun _ => sl 6 m5 69 0 1, fun s p q => ⟨rfl, rfl⟩, rfl, fun j p q => by omega⟩
  · obtain ⟨p1, p2, p3, p4, p5⟩ := h7
    have q1 : m5 0 1 = 0 := by rw [fm 0 1 (by omega)]; exact h1.1
    have q2 : v3 0 1 = 0 := by rw [g3 0 1 (by omega), hk.2 0 1 (by unfold KT; omega)]; exact h1.2
    refine ⟨by rw [q1, q2], by omega, fun i z1 z2 => by omega, fun i z => ?_, fun i z => ?_⟩
    · rw [fm 48 i (by omega), f 48 i (by unfold PT PX; omega)]; exact p4 i z
    · rw [g3 2 i (by omega), hk.2 2 i (by unfold KT; omega), g 2 i (by unfold QT QX; omega)]; exact p5 i z
  · rw [fm 46 8 (by omega), fm 46 9 (by omega), g3 0 4 (by omega), g3 0 5 (by omega), hk.2 0 4 (by unfold KT; omega), hk.2 0 5 (by unfold KT; omega)]
    exact hf
  · intro i p q; rw [fm 102 i (by omega), f 102 i (by unfold PT PX; omega)]; exact h9 i p q
end Q44
