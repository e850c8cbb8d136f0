section Q17
variable {m v m' v' w g n n' : Mem} {T : Nat}
theorem c_pass (t2 : m 0 3 = (T : Int)) (hc : CX m 51 T w g) (hn : NX m 69 n) (hW : WW w) (hG : GB w g) (hS : SN w n) : ∃ m', G11_passMinute m = some m' ∧ Fm Pm m m' ∧ m' 96 0 = 0 ∧ m' 69 0 = n 0 0 + 1 ∧ (∀ i, i ≠ 0 → m' 69 i = (mnt w g n (n 0 0)) 0 i) ∧ m' 70 = (mnt w g n (n 0 0)) 1 ∧ m' 71 = (mnt w g n (n 0 0)) 2 ∧ m' 72 = (mnt w g n (n 0 0)) 3 ∧ m' 75 = (mnt w g n (n 0 0)) 6 ∧ ∀ s, 0 ≤ s → s < w 1 0 → m' 73 s = (if n 0 0 + 1 < (mnt w g n (n 0 0)) 4 s then (mnt w g n (n 0 0)) 4 s else 0) ∧ m' 74 s = 0 := by
  have hw := hW.1
  unfold WS at hw
  have hT := hc.1.1
  have e69 : m 69 0 = n 0 0 := hn.2.1 0
  obtain ⟨h1, h2, h3, h4⟩ := ff_spec (w := w) (by first | decide | omega) (n 0 0)
  have e81 : m (T + 8) 1 = w 8 1 := hc.1.2.2 8 1 (by first | decide | omega)
  have eT11 : m (T + 11) (ff w (n 0 0)) = w 11 (ff w (n 0 0)) := hc.1.2.2 11 _ (by first | decide | omega)
  have hmn := hS.2.1
  have st : ∃ m1, G11_passMinute m = G11_passMinute_66 m1 ∧ Fr (PW 51 69) m m1 ∧ NX m1 69 (mnt w g n (n 0 0)) := by
    unfold G11_passMinute G11_passMinute_0 mnt
    rw [e69, t2, Int.toNat_natCast, g_ff hc.1 (by first | decide | omega), bs1]
    simp only
    rw [t2, Int.toNat_natCast, e81]
    by_cases c1 : w 8 1 ≤ ff w (n 0 0)
    · rw [if_pos c1, if_neg (show ¬ (ff w (n 0 0) < w 8 1 ∧ w 11 (ff w (n 0 0)) = n 0 0) by first | decide | omega)]
      exact ⟨m, rfl, Fr.rf, hn⟩
    · rw [if_neg c1, gdx_t (by first | decide | omega), eT11, e69]
      by_cases c2 : w 11 (ff w (n 0 0)) = n 0 0
      · rw [if_pos c2, if_pos (show ff w (n 0 0) < w 8 1 ∧ w 11 (ff w (n 0 0)) = n 0 0 by first | decide | omega)]
        obtain ⟨m1, e1, f1, k1⟩ := g_bring hc hW hG hn hS.1 (by first | decide | omega) (v := ff w (n 0 0)) (by first | decide | omega)
        rw [e1, bs1]
        rw [c2] at k1
        exact ⟨m1, rfl, f1, k1⟩
      · rw [if_neg c2, if_neg (show ¬ (ff w (n 0 0) < w 8 1 ∧ w 11 (ff w (n 0 0)) = n 0 0) by first | decide | omega)]
        exact ⟨m, rfl, Fr.rf, hn⟩
  obtain ⟨m1, e1, f1, k1⟩ := st
  obtain ⟨_, q0, _, _, _⟩ := mnt_sn (g := g) hW hS
  have f1' : ∀ b i, ¬ ((55 ≤ b ∧ b ≤ 59) ∨ (69 ≤ b ∧ b ≤ 75)) → m1 b i = m b i := fun b i q => f1 b i (by unfold PW PL PA; first | decide | omega)
  have g0 : m1 0 3 = (T : Int) := by rw [f1' 0 3 (by first | decide | omega)]; exact t2
  have g1 : m1 (T + 1) 0 = w 1 0 := by rw [f1' (T + 1) 0 (by first | decide | omega)]; exact hc.1.2.2 1 0 (by first | decide | omega)
  have g69 : m1 69 0 = n 0 0 := by rw [← q0]; exact k1.2.1 0
  obtain ⟨m2, e2, f2, k2⟩ := c_bm12 (N := w 1 0) (mn := n 0 0 + 1) (by first | decide | omega) (w 1 0).toNat 1024 0 (up m1 69 0 (n 0 0 + 1)) (by first | decide | omega) (by first | decide | omega) (by first | decide | omega) up_e
  rw [e1]
  unfold G11_passMinute_66 G4_beginMinute G4_beginMinute_0
  rw [g0, Int.toNat_natCast, g1, g69, gd3_t (by first | decide | omega), wt_e, e2, bs1, wt_e]
  have r : ∀ b i, b ≠ 73 → b ≠ 74 → b ≠ 96 → up m2 96 0 0 b i = up m1 69 0 (n 0 0 + 1) b i := fun b i p q s => by rw [up_a s, f2 b i (by first | decide | omega)]
  refine ⟨_, rfl, fun b i q => ?_, up_e, ?_, fun i hi => ?_, ?_, ?_, ?_, ?_, fun s p q => ?_⟩
  · unfold Pm at q
    rw [r b i (by first | decide | omega) (by first | decide | omega) (by first | decide | omega), up_a (by first | decide | omega), f1' b i (by first | decide | omega)]
  · rw [r 69 0 (by first | decide | omega) (by first | decide | omega) (by first | decide | omega), up_e]
  · rw [r 69 i (by first | decide | omega) (by first | decide | omega) (by first | decide | omega), up_i hi]; exact k1.2.1 i
  · funext i; rw [r 70 i (by first | decide | omega) (by first | decide | omega) (by first | decide | omega), up_a (by first | decide | omega)]; exact k1.2.2 1 i (by first | decide | omega)
  · funext i; rw [r 71 i (by first | decide | omega) (by first | decide | omega) (by first | decide | omega), up_a (by first | decide | omega)]; exact k1.2.2 2 i (by first | decide | omega)
  · funext i; rw [r 72 i (by first | decide | omega) (by first | decide | omega) (by first | decide | omega), up_a (by first | decide | omega)]; exact k1.2.2 3 i (by first | decide | omega)
  · funext i; rw [r 75 i (by first | decide | omega) (by first | decide | omega) (by first | decide | omega), up_a (by first | decide | omega)]; exact k1.2.2 6 i (by first | decide | omega)
  · have h5 := k2 s p q
    simp only [if_neg (show ¬ s < 0 by first | decide | omega), up_a (show (73 : Nat) ≠ 69 by first | decide | omega)] at h5
    have e73 : m1 73 s = (mnt w g n (n 0 0)) 4 s := k1.2.2 4 s (by first | decide | omega)
    rw [e73] at h5
    rw [up_a (by first | decide | omega), up_a (by first | decide | omega)]; exact h5
theorem r_mn49 {kk : Mem → Int → Int → Option (Int × Mem)} {x y : Int} (hy : 0 ≤ y ∧ y ≤ 99) (h5 : 0 ≤ w 1 0 ∧ w 1 0 ≤ 5) : ∀ (d k : Nat) (i : Int) (v : Mem), 0 ≤ i → w 1 0 - i = d → d < k → v 0 14 = w 1 0 → ∃ v', G12_minutes_49 kk k v x y i = kk v' x (y + 1) ∧ Fm (fun b _ => b = 29) v v' ∧ ∀ s, 0 ≤ s → s < w 1 0 → v' 29 s = if s < i then v 29 s else v 8 s := by
  intro d
  induction d with
  | zero =>
    intro k i v a1 a2 a3 h14
    obtain ⟨k, rfl⟩ : ∃ j, k = j + 1 := ⟨k - 1, by first | decide | omega⟩
    rw [G12_minutes_49, h14, if_pos (by first | decide | omega), gd3_t (by first | decide | omega)]
    exact ⟨v, rfl, Fm.rf, fun s p q => by rw [if_pos (by first | decide | omega)]⟩
  | succ d ih =>
    intro k i v a1 a2 a3 h14
    obtain ⟨k, rfl⟩ : ∃ j, k = j + 1 := ⟨k - 1, by first | decide | omega⟩
    rw [G12_minutes_49, h14, if_neg (by first | decide | omega), gdx_t (by first | decide | omega), gdx_t (by first | decide | omega), wt_e, gd3_t (by first | decide | omega)]
    obtain ⟨v', z1, z2, z3⟩ := ih k (i + 1) (up v 29 i (v 8 i)) (by first | decide | omega) (by first | decide | omega) (by first | decide | omega) (by rw [up_a (by first | decide | omega)]; exact h14)
    refine ⟨v', z1, (Fm.w1 rfl).tr z2, fun s p q => ?_⟩
    rw [z3 s p q, up_a (show (8 : Nat) ≠ 29 by first | decide | omega)]
    by_cases c : s = i
    · rw [c, if_pos (by first | decide | omega), if_neg (by first | decide | omega), up_e]
    · rw [up_i c]
      by_cases c2 : s < i
      · rw [if_pos (by first | decide | omega), if_pos c2]
      · rw [if_neg (by first | decide | omega), if_neg c2]
/-- all but what can be undone -/
def Rel0 (m v : Mem) : Prop := ∃ T, RA m v T ∧ SN (sl 21 m T) (sl 6 m 69) ∧ SV (sl 21 m T) (sl 6 m 69) v ∧ RIw m v (sl 21 m T) ∧ RNo m v (sl 21 m T) ∧ RTp m v ∧ (m 46 8 = v 0 4 ∧ m 46 9 = v 0 5) ∧ W102 m
theorem Rel.r0 (h : Rel m v) : Rel0 m v := by
  obtain ⟨T, h1, h2, h3, h4, h5, h6, h7, h8, h9⟩ := h.all
  exact ⟨T, h1, h2, h3, h4, h5, h7, h8, h9⟩
theorem Rel0.rel (h : Rel0 m v) (h96 : m 96 0 = 0) : Rel m (up v 0 78 0) := by
  obtain ⟨T, h1, h2, h3, h4, h5, h7, h8, h9⟩ := h
  have fm : Fm (fun b i => b = 0 ∧ i = 78) v (up v 0 78 0) := Fm.w1 ⟨rfl, rfl⟩
  have hw := h1.2.1.1
  unfold WS at hw
  refine Rel.of (T := T) ⟨(h1.f (P := fun _ _ => False) Fm.rf fm (fun _ _ _ => id) (by intro b i q; first | decide | omega)).1, h2, h3.f fm (by first | decide | omega) (by intro b i q; first | decide | omega), h4.f (P := fun _ _ => False) Fm.rf fm (fun _ _ _ => id) (by intro b i q; first | decide | omega), h5.f (P := fun _ _ => False) Fm.rf fm (fun _ _ _ => id) (by intro b i q; first | decide | omega), ?_, h7.f (P := fun _ _ => False) Fm.rf fm (fun _ _ _ => id) (by intro b i q; first | decide | omega), ?_, h9⟩
  · exact ⟨by rw [up_e, h96], by first | decide | omega, fun _ s => sl 6 m 69 1 s, fun _ s => sl 6 m 69 5 s, fun _ => sl 6 m 69 0 1, fun s p q => ⟨rfl, rfl⟩, rfl, fun j p q => by first | decide | omega⟩
  · rw [up_i (by first | decide | omega), up_i (by first | decide | omega)]; exact h8
theorem one_min (h : Rel0 m v) (hmn : m 69 0 ≤ 198) {kk : Mem → Int → Int → Option (Int × Mem)} {x y : Int} (hy : 0 ≤ y ∧ y ≤ 99) : ∃ m' v1 v', G11_passMinute m = some m' ∧ G12_aMinute v 0 (v 0 64) = some v1 ∧ G12_minutes_49 kk 1024 v1 x y 0 = kk v' x (y + 1) ∧ Rel0 m' v' ∧ m' 96 0 = 0 ∧ m' 69 0 = m 69 0 + 1 := by
  obtain ⟨T, hA, hS, hV, hI, hN, hP, hF, hX⟩ := h
  have hW := hA.2.1
  have hw := hW.1
  unfold WS at hw
  have hc := CX_sl hA.1.1 (Or.inl rfl) hA.1.2.2.2
  have hn : NX m 69 (sl 6 m 69) := NX_sl (Or.inl rfl)
  have hG : GB (sl 21 m T) (sl 3 m 51) := by
    refine ⟨fun i p q => ?_, fun k p q => ?_⟩
    · obtain ⟨x, y⟩ := hA.2.2.1.1 i p q
      have hc := hW.2.1 i p q
      rw [x, y]
      exact ⟨hc.2.1.1, hc.2.1.2, hc.2.2.2.1.1, hc.2.2.2.1.2⟩
    · rw [hA.2.2.1.2 k p q]
      exact pxM_b (way := -1) (mn := sl 21 m T 11 k) hW
  obtain ⟨m', e1, f1, b1, b2, b3, b4, b5, b6, b7, b8⟩ := c_pass hA.1.2.1 hc hn hW hG hS
  obtain ⟨s1, s2, s3, s4, s5⟩ := mnt_sn (g := sl 3 m 51) hW hS
  have hge : mnt (sl 21 m T) (sl 3 m 51) (sl 6 m 69) (sl 6 m 69 0 0) = mnt (sl 21 m T) (gM (sl 21 m T) (-1)) (sl 6 m 69) (sl 6 m 69 0 0) := mnt_ge hA.2.2.1 (by first | decide | omega) (by first | decide | omega) _
  have e00 : sl 6 m 69 0 0 = m 69 0 := sl_e (by first | decide | omega) 0
  have hTL : TLM v 0 (sl 21 m T) (sl 6 m 69) (-1) 0 (sl 6 m 69 0 0) := by
    intro i p q
    right
    refine ⟨by first | decide | omega, ?_⟩
    have h1 := (hV.2.2.2.1 i p q).1
    have h2 := (hS.2.2.1 i p q).1
    rw [show 5 * (0 : Int) + i = i by first | decide | omega, h1]
    split
    · rename_i c
      rcases h2 with z | z
      · exact z
      · omega
    · rfl
  obtain ⟨v1, e2, f2, c1, c2, c3⟩ := m_min hA.2.2.2 hW (Or.inl rfl) hV.1 hS.1 (by have := (ff_spec (w := sl 21 m T) (by first | decide | omega) (sl 6 m 69 0 0)); first | decide | omega) (mn := sl 6 m 69 0 0) (by have := hS.2.1; first | decide | omega) hV.2.2.2.2 (fun q => by first | decide | omega) hV.2.1 hTL
  rw [← hge] at c2 c3
  have hR1 := hA.2.2.2.pm f2
  obtain ⟨v', e3, f3, d1⟩ := r_mn49 (kk := kk) (x := x) (y := y) (w := sl 21 m T) hy (by first | decide | omega) (sl 21 m T 1 0).toNat 1024 0 v1 (by first | decide | omega) (by first | decide | omega) (by first | decide | omega) hR1.1.2.2.1
  have f2' : Fm (fun b i => PMn 0 b i ∨ b = 29) v v' := (f2.mono (fun b i q => Or.inl q)).tr (f3.mono (fun b i q => Or.inr q))
  obtain ⟨j1, ew⟩ := hA.f f1 f2' (by intro b i q; unfold Pm; first | decide | omega) (by intro b i q; unfold PMn PCm PO PNm; first | decide | omega)
  rw [hV.2.2.1]
  -- the new minute, cell by cell
  have w0 : sl 6 m' 69 0 0 = sl 6 m 69 0 0 + 1 := by rw [sl_e (by first | decide | omega)]; exact b2
  have w0' : ∀ i, i ≠ 0 → sl 6 m' 69 0 i = mnt (sl 21 m T) (sl 3 m 51) (sl 6 m 69) (sl 6 m 69 0 0) 0 i := fun i q => by rw [sl_e (by first | decide | omega)]; exact b3 i q
  have w1 : sl 6 m' 69 1 = mnt (sl 21 m T) (sl 3 m 51) (sl 6 m 69) (sl 6 m 69 0 0) 1 := by rw [sl_r (by first | decide | omega)]; exact b4
  have w2 : sl 6 m' 69 2 = mnt (sl 21 m T) (sl 3 m 51) (sl 6 m 69) (sl 6 m 69 0 0) 2 := by rw [sl_r (by first | decide | omega)]; exact b5
  have w3 : sl 6 m' 69 3 = mnt (sl 21 m T) (sl 3 m 51) (sl 6 m 69) (sl 6 m 69 0 0) 3 := by rw [sl_r (by first | decide | omega)]; exact b6
  have w6 : sl 6 m' 69 6 = mnt (sl 21 m T) (sl 3 m 51) (sl 6 m 69) (sl 6 m 69 0 0) 6 := by rw [sl_r (by first | decide | omega)]; exact b7
  have w4 : ∀ s, 0 ≤ s → s < sl 21 m T 1 0 → sl 6 m' 69 4 s = (if sl 6 m 69 0 0 + 1 < mnt (sl 21 m T) (sl 3 m 51) (sl 6 m 69) (sl 6 m 69 0 0) 4 s then mnt (sl 21 m T) (sl 3 m 51) (sl 6 m 69) (sl 6 m 69 0 0) 4 s else 0) ∧ sl 6 m' 69 5 s = 0 := fun s p q => by
    rw [sl_e (by first | decide | omega), sl_e (by first | decide | omega)]; exact b8 s p q
  refine ⟨m', v1, v', e1, e2, e3, ⟨T, j1, ?_, ?_, ?_, ?_, ?_, ?_, ?_⟩, b1, by rw [b2, e00]⟩
  · rw [ew]
    obtain ⟨t1, t2⟩ := s1
    refine ⟨⟨?_, fun i p q => ?_⟩, by rw [w0]; have := hS.2.1; first | decide | omega, fun i p q => ?_, fun k p q => ?_⟩
    · rw [w0, w0' 1 (by first | decide | omega), w0' 2 (by first | decide | omega), w0' 3 (by first | decide | omega), w0' 4 (by first | decide | omega)]; exact t1
    · have t3 := t2 i p q
      rw [w0, w1, w2, w3, (w4 i p q).1]
      refine ⟨t3.1, t3.2.1, t3.2.2.1, ?_⟩
      split <;> omega
    · have t3 := t2 i p q
      have t4 := s4 i p q
      have t5 := (hW.2.1 i p q).2.2.1
      rw [(w4 i p q).1, (w4 i p q).2, w0]
      refine ⟨?_, ?_, by first | decide | omega, by first | decide | omega⟩
      · split
        · right; assumption
        · left; rfl
      · split <;> omega
    · rw [w6, w0]; exact s5 k p q
  · rw [ew]
    obtain ⟨t1, t2, t3, t4, t5⟩ := c2
    have g29 : ∀ b i, b ≠ 29 → v' b i = v1 b i := fun b i q => f3 b i q
    refine ⟨⟨fun i p q => ?_, fun k p q => ?_, ?_, ?_, ?_⟩, ?_, ?_, fun i p q => ⟨?_, ?_⟩, ?_⟩
    · rw [g29 25 _ (by first | decide | omega), g29 26 _ (by first | decide | omega), g29 27 _ (by first | decide | omega), w1, w2, w3]; exact t1 i p q
    · rw [g29 30 _ (by first | decide | omega), w6]; exact t2 k p q
    · rw [g29 32 _ (by first | decide | omega), w0' 3 (by first | decide | omega)]; exact t3
    · rw [g29 33 _ (by first | decide | omega), w0' 4 (by first | decide | omega)]; exact t4
    · rw [g29 0 65 (by first | decide | omega), w0' 2 (by first | decide | omega)]; exact t5
    · rw [g29 31 0 (by first | decide | omega), w0]; exact c1
    · rw [f2' 0 64 (by unfold PMn PCm PO PNm; first | decide | omega), w0' 1 (by first | decide | omega), s3]; exact hV.2.2.1
    · have t6 := c3 i p q
      rw [g29 28 i (by first | decide | omega), (w4 i p q).1]
      rcases t6 with ⟨y1, _⟩ | ⟨_, y2⟩
      · omega
      · rw [show 5 * (0 : Int) + i = i by first | decide | omega] at y2
        rw [y2]
        by_cases c : sl 6 m 69 0 0 + 1 < mnt (sl 21 m T) (sl 3 m 51) (sl 6 m 69) (sl 6 m 69 0 0) 4 i
        · rw [if_pos c, if_neg (by first | decide | omega)]
        · rw [if_neg c, if_pos (by first | decide | omega)]
    · rw [d1 i p q, if_neg (by first | decide | omega), (w4 i p q).2, (hR1.2.2.1 i p q).2.2.2.1]; omega
    · rw [f2' 0 66 (by unfold PMn PCm PO PNm; first | decide | omega)]; exact hV.2.2.2.2
  · rw [ew]; exact hI.f f1 f2' (by intro b i q; unfold Pm; first | decide | omega) (by intro b i q; unfold PMn PCm PO PNm; first | decide | omega)
  · rw [ew]; exact hN.f f1 f2' (by intro b i q; unfold Pm; first | decide | omega) (by intro b i q; unfold PMn PCm PO PNm; first | decide | omega)
  · exact hP.f f1 f2' (by intro b i q; unfold Pm; first | decide | omega) (by intro b i q; unfold PMn PCm PO PNm; first | decide | omega)
  · rw [f1 46 8 (by unfold Pm; first | decide | omega), f1 46 9 (by unfold Pm; first | decide | omega), f2' 0 4 (by unfold PMn PCm PO PNm; first | decide | omega), f2' 0 5 (by unfold PMn PCm PO PNm; first | decide | omega)]; exact hF
  · intro i p q; rw [f1 102 i (by unfold Pm; first | decide | omega)]; exact hX i p q
theorem mins_l {x : Int} (hx : 1 ≤ x ∧ x ≤ 99) : ∀ (d k k' : Nat) (y : Int) (m v : Mem), 0 ≤ y → x - y = d → d < k → d < k' → Rel0 m v → m 69 0 + d ≤ 199 → (d = 0 → m 96 0 = 0) → Agr (G11_minutes_29 k m x y) (G12_minutes_33 k' v x y) := by
  intro d
  induction d with
  | zero =>
    intro k k' y m v a1 a2 a3 a4 h h1 h2
    obtain ⟨k, rfl⟩ : ∃ j, k = j + 1 := ⟨k - 1, by first | decide | omega⟩
    obtain ⟨k', rfl⟩ : ∃ j, k' = j + 1 := ⟨k' - 1, by first | decide | omega⟩
    rw [G11_minutes_29, if_pos (by first | decide | omega), G12_minutes_33, if_pos (by first | decide | omega), if_neg (by first | decide | omega)]
    unfold G12_minutes_94
    rw [wt_e]
    have hr := h.rel (h2 rfl)
    obtain ⟨T, hA, hS, hV, _⟩ := hr.all
    have e : up v 0 78 0 31 0 = m 69 0 := hV.2.1
    rw [e]
    exact ⟨_, _, _, rfl, rfl, hr⟩
  | succ d ih =>
    intro k k' y m v a1 a2 a3 a4 h h1 h2
    obtain ⟨k, rfl⟩ : ∃ j, k = j + 1 := ⟨k - 1, by first | decide | omega⟩
    obtain ⟨k', rfl⟩ : ∃ j, k' = j + 1 := ⟨k' - 1, by first | decide | omega⟩
    obtain ⟨m', v1, v', e1, e2, e3, hr, h96, h69⟩ := one_min h (by first | decide | omega) (kk := fun m x1 x2 => G12_minutes_33 k' m x1 x2) (x := x) (y := y) (by first | decide | omega)
    rw [G11_minutes_29, if_neg (by first | decide | omega), G12_minutes_33, if_neg (by first | decide | omega), e1, bs1, e2, bs1, e3, gd3_t (by first | decide | omega)]
    exact ih k k' (y + 1) m' v' (by first | decide | omega) (by first | decide | omega) (by first | decide | omega) (by first | decide | omega) hr (by first | decide | omega) (fun _ => h96)
theorem a_minutes (h : Rel m v) (x : Int) : Agr (G11_minutes m x) (G12_minutes v x) := by
  have h1 := h.v0
  unfold G11_minutes G11_minutes_0 G12_minutes G12_minutes_0
  rw [wt_e]
  generalize up v 0 2 0 = u at h1 ⊢
  obtain ⟨T, hA, hS, hV, _⟩ := h1.all
  have e31 : u 31 0 = m 69 0 := hV.2.1
  have e00 : sl 6 m 69 0 0 = m 69 0 := sl_e (by first | decide | omega) 0
  have hmn := hS.2.1
  rw [r_isIn, bs1]
  by_cases c : 0 ≤ x ∧ x ≤ 99
  · simp only [if_pos c, if_neg i10]
    rw [if_neg (by first | decide | omega), if_neg (by first | decide | omega), e31, gd3_t (by first | decide | omega), gd3_t (by first | decide | omega)]
    by_cases c2 : m 69 0 + x ≤ 199
    · rw [if_pos c2, if_pos c2]
      by_cases c3 : x = 0
      · rw [c3]
        rw [G11_minutes_29, if_pos (by first | decide | omega), G12_minutes_33, if_pos (by first | decide | omega), if_pos (by first | decide | omega)]
        unfold G12_minutes_94
        rw [wt_e, up_a (by first | decide | omega), e31]
        have e : up u 0 78 (u 0 78) = u := by
          funext b i
          by_cases z : b = 0 ∧ i = 78
          · rw [z.1, z.2, up_e]
          · unfold up; rw [if_neg z]
        rw [e]; exact agr0 h1 _ rfl rfl
      · exact mins_l (by first | decide | omega) x.toNat 1024 1024 0 m u (by first | decide | omega) (by first | decide | omega) (by first | decide | omega) (by first | decide | omega) h1.r0 (by first | decide | omega) (fun q => by first | decide | omega)
    · rw [if_neg c2, if_neg c2]; exact agr0 h1 _ rfl rfl
  · simp only [if_neg c, if_true]
    split
    · exact agr0 h1 _ rfl rfl
    · rw [if_pos (by first | decide | omega)]; exact agr0 h1 _ rfl rfl
end Q17
/-! feed. -/
theorem by_b (a : Int) : -128 ≤ b3by a ∧ b3by a ≤ 127 ∧ b3by a % 256 = (Z3 a).toInt % 256 := by
  have h : b3by a = (Z3 a).toInt.bmod 256 := by
    unfold b3by
    have e : ∀ x : Int8, vp_nar .byte x.toInt32 = x.toInt32 := fun x => by
      unfold vp_nar
      show (Int32.toInt8 x.toInt32).toInt32 = x.toInt32
      rw [Int8.toInt8_toInt32]
    rw [e, Int8.toInt_toInt32, Int32.toInt_toInt8]
  rw [h]
  refine ⟨?_, ?_, ?_⟩
  · have := Int.le_bmod (x := (Z3 a).toInt) (m := 256) (by first | decide | omega); omega
  · have := Int.bmod_lt (x := (Z3 a).toInt) (m := 256) (by first | decide | omega); omega
  · exact Int.bmod_emod
theorem an255 (a : Int) : b3an a 255 = (Z3 a).toInt % 256 := by
  unfold b3an
  have e1 : (Z3 a &&& Z3 255).toBitVec.toNat = (Z3 a).toBitVec.toNat % 2 ^ 8 := by
    rw [Int32.toBitVec_and, BitVec.toNat_and]
    have : (Z3 255).toBitVec.toNat = 2 ^ 8 - 1 := by decide
    rw [this]
    exact Nat.and_two_pow_sub_one_eq_mod _ 8
  have e2 : (Z3 a &&& Z3 255).toInt = ((Z3 a &&& Z3 255).toBitVec.toNat : Int) := by
    refine bv_nn (n := 31) _ ?_
    rw [e1]
    have := Nat.mod_lt (Z3 a).toBitVec.toNat (show 2 ^ 8 > 0 by decide)
    omega
  rw [e2, e1]
  have e3 : (Z3 a).toInt = (Z3 a).toBitVec.toInt := rfl
  rw [e3, BitVec.toInt_eq_toNat_cond]
  split <;> omega
/-- byte j of x -/
def cby (x j : Int) : Int := b3by (b3sr x (b3an (24 - 8 * j) 31))
def rby (x j : Int) : Int := b3an (b3sr x (b3an (24 - 8 * j) 31)) 255
theorem cr_by (x j : Int) : (-128 ≤ cby x j ∧ cby x j ≤ 127) ∧ rby x j = cby x j % 256 := by
  have h := by_b (b3sr x (b3an (24 - 8 * j) 31))
  refine ⟨⟨h.1, h.2.1⟩, ?_⟩
  show b3an (b3sr x (b3an (24 - 8 * j) 31)) 255 = b3by (b3sr x (b3an (24 - 8 * j) 31)) % 256
  rw [h.2.2]
  exact an255 _
def Pt : Nat → Int → Prop := fun b i => b = 1 ∨ (b = 0 ∧ i = 1)
section Q18
variable {m v m' v' w : Mem} {T : Nat}
end Q18
