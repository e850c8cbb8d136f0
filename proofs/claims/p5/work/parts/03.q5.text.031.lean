section Q44
variable {m v : Mem} {S : Int} {D T : Nat}
/-- a new text was taken -/
theorem Rel.anew {m1 m5 v1 v2 v3 : Mem} (h : Rel m v) (hD : (D : Int) = m 0 4) (f : Fm (PT D) m m1) (g : Fm QT v v1) (h1 : m1 0 1 = 0 ∧ v1 0 1 = 0) (hf : FLT m1 v1) (hI : DI m1 v1 D) (hk : KD 21 v1 v2) (fm : Fm (fun b i => (b = 0 ∧ (i = 3 ∨ i = 4 ∨ i = 10)) ∨ (51 ≤ b ∧ b ≤ 56) ∨ (69 ≤ b ∧ b ≤ 75) ∨ b = 90 ∨ b = 96) m1 m5) (h0 : m5 0 3 = (D : Int) ∧ m5 0 4 = 26 - (D : Int) ∧ m5 0 10 = 0 ∧ m5 51 0 = (D : Int)) (hG : GE (sl 21 m1 D) (sl 3 m5 51) (gM (sl 21 m1 D) (-1))) (hn0 : m5 69 0 = 0 ∧ m5 69 1 = m1 D 9 ∧ m5 69 2 = m1 D 10 ∧ m5 69 3 = 0 ∧ m5 69 4 = 0) (hn1 : ∀ i, 0 ≤ i → i < 5 → m5 70 i = m1 (D + 3) i ∧ m5 71 i = 0 ∧ m5 72 i = 0 ∧ m5 73 i = 0 ∧ m5 74 i = 0) (hn6 : ∀ i, 0 ≤ i → i < 28 → m5 75 i = -2) (h90 : m5 90 0 = 0 ∧ m5 90 1 = -1 ∧ m5 96 0 = 0) (g3 : Fm (fun b i => ((25 ≤ b ∧ b ≤ 29) ∧ 0 ≤ i) ∨ (30 ≤ b ∧ b ≤ 33) ∨ (b = 0 ∧ 64 ≤ i)) v2 v3) (hb1 : ∀ i, 0 ≤ i → i < 5 → v3 25 i = v2 6 i ∧ v3 26 i = 0 ∧ v3 27 i = 0 ∧ v3 28 i = 0 ∧ v3 29 i = v2 8 i) (hb2 : ∀ i, 0 ≤ i → i < 28 → v3 30 i = -2) (hb3 : v3 31 0 = 0 ∧ v3 32 0 = 0 ∧ v3 33 0 = 0 ∧ v3 0 64 = v2 4 5 ∧ v3 0 65 = v2 4 6 ∧ v3 0 66 = -1 ∧ v3 0 74 = 0 ∧ v3 0 75 = -1 ∧ v3 0 78 = 0 ∧ v3 0 80 = 0) : Rel m5 v3 := by
  obtain ⟨_, _, _, _, _, _, _, h7, _, h9⟩ := h.all
  obtain ⟨⟨hDD, _⟩, hW, hR, _⟩ := hI
  have ew : sl 21 m5 D = sl 21 m1 D := sl_c (fun b x y => fm.rw1 (fun i => by first | decide | omega))
  have hs := hW.1
  unfold WS at hs
  have hR2 : RT v2 (sl 21 m1 D) := hR.fr2 hW.1 (fun b i z => hk.1 b i z (by unfold KT at z; first | decide | omega))
  have hR3 : RT v3 (sl 21 m1 D) := hR2.fr2 hW.1 (fun b i z => g3 b i (by unfold KT at z; first | decide | omega))
  have w0 : ∀ i, sl 21 m1 D 0 i = m1 D i := fun i => sl_e (Nat.zero_le _) i
  have n0 : ∀ i, sl 6 m5 69 0 i = m5 69 i := fun i => sl_e (Nat.zero_le _) i
  have n1 : ∀ i, sl 6 m5 69 1 i = m5 70 i := fun i => sl_e (by first | decide | omega) i
  have n2 : ∀ i, sl 6 m5 69 2 i = m5 71 i := fun i => sl_e (by first | decide | omega) i
  have n3 : ∀ i, sl 6 m5 69 3 i = m5 72 i := fun i => sl_e (by first | decide | omega) i
  have n4 : ∀ i, sl 6 m5 69 4 i = m5 73 i := fun i => sl_e (by first | decide | omega) i
  have n5 : ∀ i, sl 6 m5 69 5 i = m5 74 i := fun i => sl_e (by first | decide | omega) i
  have n6 : ∀ i, sl 6 m5 69 6 i = m5 75 i := fun i => sl_e (by first | decide | omega) i
  have w3 : ∀ i, sl 21 m1 D 3 i = m1 (D + 3) i := fun i => sl_e (by first | decide | omega) i
  have hff := (ff_spec (w := sl 21 m1 D) (by first | decide | omega) 0).1
  refine Rel.of (T := D) ⟨⟨⟨hDD, h0.1, h0.2.1, h0.2.2.2⟩, by rw [ew]; exact hW, by rw [ew]; exact hG, by rw [ew]; exact hR3⟩, ?_, ?_, ?_, ?_, ?_, ?_, ?_, ?_⟩
  · rw [ew]
    refine ⟨⟨?_, fun i p q => ?_⟩, ?_, fun i p q => ?_, fun k p q => ?_⟩
    · rw [n0, n0, n0, n0, n0, hn0.1, hn0.2.1, hn0.2.2.1, hn0.2.2.2.1, hn0.2.2.2.2, ← w0, ← w0]
      omega
    · obtain ⟨x1, x2, x3, x4, x5⟩ := hn1 i p (by first | decide | omega)
      rw [n0, n1, n2, n3, n4, hn0.1, x1, x2, x3, x4, ← w3]
      exact ⟨(hW.2.1 i p q).1, by first | decide | omega, by first | decide | omega, by first | decide | omega⟩
    · rw [n0, hn0.1]; omega
    · obtain ⟨x1, x2, x3, x4, x5⟩ := hn1 i p (by first | decide | omega)
      have := (hW.2.1 i p q).2.2.1
      rw [n0, n4, n5, hn0.1, x4, x5]
      omega
    · have := (hW.2.2.2.1 k p q).2.1
      rw [n0, n6, hn0.1, hn6 k p (by first | decide | omega)]
      exact ⟨fun _ => this.1, fun _ => rfl⟩
  · rw [ew]
    refine ⟨⟨fun i p q => ?_, fun k p q => ?_, ?_, ?_, ?_⟩, ?_, ?_, fun i p q => ?_, hb3.2.2.2.2.2.1⟩
    · obtain ⟨x1, x2, x3, x4, x5⟩ := hn1 i p (by first | decide | omega)
      obtain ⟨y1, y2, y3, y4, y5⟩ := hb1 i p (by first | decide | omega)
      rw [show 5 * (0 : Int) + i = i by first | decide | omega, n1, n2, n3, x1, x2, x3, y1, y2, y3, ← w3]
      exact ⟨(hR2.2.2.1 i p q).2.1, rfl, rfl⟩
    · rw [show 28 * (0 : Int) + k = k by first | decide | omega, n6, hn6 k p (by first | decide | omega)]; exact hb2 k p (by first | decide | omega)
    · rw [n0, hn0.2.2.2.1]; exact hb3.2.1
    · rw [n0, hn0.2.2.2.2]; exact hb3.2.2.1
    · rw [n0, hn0.2.2.1, hb3.2.2.2.2.1, ← w0]; exact hR2.2.1.2.2.2.2.2.2
    · rw [n0, hn0.1]; exact hb3.1
    · rw [n0, hn0.2.1, hb3.2.2.2.1, ← w0]; exact hR2.2.1.2.2.2.2.2.1
    · obtain ⟨x1, x2, x3, x4, x5⟩ := hn1 i p (by first | decide | omega)
      obtain ⟨y1, y2, y3, y4, y5⟩ := hb1 i p (by first | decide | omega)
      rw [n4, n5, x4, x5, y4, y5]
      exact ⟨rfl, by rw [(hR2.2.2.1 i p q).2.2.2.1]; first | decide | omega⟩
  · exact ⟨by rw [h0.2.2.1, hb3.2.2.2.2.2.2.2.2.2], Or.inl h0.2.2.1⟩
  · refine ⟨by rw [h90.1, hb3.2.2.2.2.2.2.1], by first | decide | omega, by rw [h90.2.1, hb3.2.2.2.2.2.2.2.1], by first | decide | omega, fun k p q => by first | decide | omega⟩
  · refine ⟨by rw [h90.2.2, hb3.2.2.2.2.2.2.2.2.1], by first | decide | omega, fun _ s => sl 6 m5 69 1 s, fun _ s => sl 6 m5 69 5 s, fun _ => sl 6 m5 69 0 1, fun s p q => ⟨rfl, rfl⟩, rfl, fun j p q => by first | decide | omega⟩
  · obtain ⟨p1, p2, p3, p4, p5⟩ := h7
    have q1 : m5 0 1 = 0 := by rw [fm 0 1 (by first | decide | omega)]; exact h1.1
    have q2 : v3 0 1 = 0 := by rw [g3 0 1 (by first | decide | omega), hk.2 0 1 (by unfold KT; first | decide | omega)]; exact h1.2
    refine ⟨by rw [q1, q2], by first | decide | omega, fun i z1 z2 => by first | decide | omega, fun i z => ?_, fun i z => ?_⟩
    · rw [fm 48 i (by first | decide | omega), f 48 i (by unfold PT PX; first | decide | omega)]; exact p4 i z
    · rw [g3 2 i (by first | decide | omega), hk.2 2 i (by unfold KT; first | decide | omega), g 2 i (by unfold QT QX; first | decide | omega)]; exact p5 i z
  · rw [fm 46 8 (by first | decide | omega), fm 46 9 (by first | decide | omega), g3 0 4 (by first | decide | omega), g3 0 5 (by first | decide | omega), hk.2 0 4 (by unfold KT; first | decide | omega), hk.2 0 5 (by unfold KT; first | decide | omega)]
    exact hf
  · intro i p q; rw [fm 102 i (by first | decide | omega), f 102 i (by unfold PT PX; first | decide | omega)]; exact h9 i p q
end Q44
