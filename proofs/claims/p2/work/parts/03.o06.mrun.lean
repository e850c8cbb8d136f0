/-! The reference: a minute, a run. -/
/-- what a minute mn brings -/
def mnt (w g n : Mem) (mn : Int) : Mem := if ff w mn < w 8 1 ∧ w 11 (ff w mn) = mn then bw w g n (ff w mn) mn else n
def PMn (b : Int) : Nat → Int → Prop := fun a i => PCm b a i ∨ (a = 31 ∧ i = b)
theorem RT.pm {v v' w : Mem} {b : Int} (h : RT v w) (f : Fm (PMn b) v v') : RT v' w := h.fr f (by intro a i q; unfold PMn PCm PO PNm; omega)
section MR
variable {m w n : Mem} {b : Int}
theorem mnt_ge {g g' : Mem} (h : GE w g g') (hs : 0 ≤ w 1 0) (hc : 0 ≤ w 8 1) (mn : Int) : mnt w g n mn = mnt w g' n mn := by
  unfold mnt
  have h1 := ff_spec hc mn
  split
  · rename_i c; rw [bw_ge h ⟨h1.1, c.1⟩ hs]
  · rfl
/-- those who were away till now are back -/
theorem m_min50 (hb : b = 0 ∨ b = 1) {way one mn : Int} (hmn : 0 ≤ mn ∧ mn ≤ 900) (h5 : 0 ≤ w 1 0 ∧ w 1 0 ≤ 5) : ∀ (d k : Nat) (i : Int) (m : Mem), 0 ≤ i → w 1 0 - i = d → d < k → m 0 14 = w 1 0 → m 31 b = mn + 1 → (∀ s, 0 ≤ s → s < w 1 0 → (way = 1 ∧ one = s ∧ 1000 < n 4 s) ∨ (¬ (way = 1 ∧ one = s) ∧ m 28 (5 * b + s) = if n 4 s ≤ (if s < i then mn + 1 else mn) then 0 else n 4 s)) → ∃ m', G12_aMinute_50 k m b i = some m' ∧ Fm (fun a j => a = 28 ∧ 5 * b ≤ j ∧ j < 5 * b + 5) m m' ∧ TLM m' b w n way one (mn + 1) := by
  intro d
  induction d with
  | zero =>
    intro k i m a1 a2 a3 h14 h31 h
    obtain ⟨k, rfl⟩ : ∃ j, k = j + 1 := ⟨k - 1, by omega⟩
    rw [G12_aMinute_50, h14, if_pos (by omega)]
    refine ⟨m, rfl, Fm.rf, fun s p q => ?_⟩
    have := h s p q
    rwa [if_pos (show s < i by omega)] at this
  | succ d ih =>
    intro k i m a1 a2 a3 h14 h31 h
    obtain ⟨k, rfl⟩ : ∃ j, k = j + 1 := ⟨k - 1, by omega⟩
    rw [G12_aMinute_50, h14, if_neg (by omega), gdx_t (by omega), gdx_t (by omega), h31, gdx_t (by omega)]
    have hi := h i (by omega) (by omega)
    rw [if_neg (show ¬ i < i by omega)] at hi
    by_cases c : m 28 (5 * b + i) = mn + 1
    · rw [if_pos c, wt_e, gd3_t (by omega)]
      obtain ⟨m', q1, q2, q3⟩ := ih k (i + 1) (up m 28 (5 * b + i) 0) (by omega) (by omega) (by omega) (by rw [up_a (by omega)]; exact h14) (by rw [up_a (by omega)]; exact h31) (fun s p q => by
        by_cases z : s = i
        · subst z
          rcases hi with x | ⟨x, y⟩
          · exact Or.inl x
          · right
            refine ⟨x, ?_⟩
            rw [up_e, if_pos (show s < s + 1 by omega)]
            rw [c] at y
            by_cases z2 : n 4 s ≤ mn
            · rw [if_pos z2] at y; omega
            · rw [if_neg z2] at y
              rw [if_pos (by omega)]
        · rw [up_i (show 5 * b + s ≠ 5 * b + i by omega)]
          have := h s p q
          by_cases z2 : s < i
          · rw [if_pos z2] at this; rw [if_pos (show s < i + 1 by omega)]; exact this
          · rw [if_neg z2] at this; rw [if_neg (show ¬ s < i + 1 by omega)]; exact this)
      exact ⟨m', q1, (Fm.w1 ⟨rfl, by omega, by omega⟩).tr q2, q3⟩
    · rw [if_neg c, gd3_t (by omega)]
      exact ih k (i + 1) m (by omega) (by omega) (by omega) h14 h31 (fun s p q => by
        have hs := h s p q
        by_cases z : s = i
        · subst z
          rcases hi with x | ⟨x, y⟩
          · exact Or.inl x
          · right
            refine ⟨x, ?_⟩
            rw [if_pos (show s < s + 1 by omega)]
            by_cases z2 : n 4 s ≤ mn
            · rw [if_pos z2] at y; rw [if_pos (by omega)]; exact y
            · rw [if_neg z2] at y
              rw [y] at c
              rw [if_neg (by omega)]; exact y
        · by_cases z2 : s < i
          · rw [if_pos z2] at hs; rw [if_pos (show s < i + 1 by omega)]; exact hs
          · rw [if_neg z2] at hs; rw [if_neg (show ¬ s < i + 1 by omega)]; exact hs)
theorem m_min2 (hW : WW w) (hb : b = 0 ∨ b = 1) {f : Int} (hB : NB w n f) (hf : 0 ≤ f ∧ f ≤ 900) {way one mn : Int} (hmn : 0 ≤ mn ∧ mn ≤ 900) : ∀ (d k : Nat) (i : Int) (m : Mem), 0 ≤ i → w 8 1 - i = d → d < k → RT m w → m 0 66 = way → (way = 1 → m 0 67 = one) → m 31 b = mn → NM m b w (if i ≤ ff w mn then n else mnt w (gM w way) n mn) → TLM m b w (if i ≤ ff w mn then n else mnt w (gM w way) n mn) way one mn → ∃ m', G12_aMinute_2 k m b (n 0 1) i = some m' ∧ Fm (PMn b) m m' ∧ m' 31 b = mn + 1 ∧ NM m' b w (mnt w (gM w way) n mn) ∧ TLM m' b w (mnt w (gM w way) n mn) way one (mn + 1) := by
  have hw := hW.1
  unfold WS at hw
  obtain ⟨v1, v2, v3, v4⟩ := ff_spec (w := w) (by omega) mn
  intro d
  induction d with
  | zero =>
    intro k i m a1 a2 a3 hT h66 h67 h31 hN hL
    obtain ⟨k, rfl⟩ : ∃ j, k = j + 1 := ⟨k - 1, by omega⟩
    have he : (if i ≤ ff w mn then n else mnt w (gM w way) n mn) = mnt w (gM w way) n mn := by
      split
      · unfold mnt; rw [if_neg (by omega)]
      · rfl
    rw [he] at hN hL
    rw [G12_aMinute_2, hT.1.2.2.2.2.1, if_pos (by omega), gdx_t (by omega), gdx_t (by omega), h31, gd3_t (by omega), wt_e]
    obtain ⟨m', q1, q2, q3⟩ := m_min50 (b := b) (w := w) (n := mnt w (gM w way) n mn) hb (way := way) (one := one) hmn (by omega) (w 1 0).toNat 1024 0 (up m 31 b (mn + 1)) (by omega) (by omega) (by omega) (by rw [up_a (by omega)]; exact hT.1.2.2.1) up_e (fun s p q => by
      rw [up_a (by omega), if_neg (show ¬ s < 0 by omega)]
      exact hL s p q)
    have f1 : Fm (PMn b) m (up m 31 b (mn + 1)) := Fm.w1 (Or.inr ⟨rfl, rfl⟩)
    refine ⟨m', q1, f1.tr (q2.mono (by intro a j z; unfold PMn PCm; omega)), ?_, ?_, q3⟩
    · rw [q2 31 b (by omega), up_e]
    · have n1 : NM (up m 31 b (mn + 1)) b w (mnt w (gM w way) n mn) := by
        obtain ⟨h1, h2, h3, h4, h5⟩ := hN
        refine ⟨fun i p q => ?_, fun k p q => ?_, ?_, ?_, ?_⟩
        · simp (disch := omega) only [up_a]; exact h1 i p q
        · simp (disch := omega) only [up_a]; exact h2 k p q
        · simp (disch := omega) only [up_a]; exact h3
        · simp (disch := omega) only [up_a]; exact h4
        · simp (disch := omega) only [up_a]; exact h5
      obtain ⟨h1, h2, h3, h4, h5⟩ := n1
      refine ⟨fun i p q => ?_, fun k p q => ?_, ?_, ?_, ?_⟩
      · rw [q2 _ _ (by omega), q2 _ _ (by omega), q2 _ _ (by omega)]; exact h1 i p q
      · rw [q2 _ _ (by omega)]; exact h2 k p q
      · rw [q2 _ _ (by omega)]; exact h3
      · rw [q2 _ _ (by omega)]; exact h4
      · rw [q2 _ _ (by omega)]; exact h5
  | succ d ih =>
    intro k i m a1 a2 a3 hT h66 h67 h31 hN hL
    obtain ⟨k, rfl⟩ : ∃ j, k = j + 1 := ⟨k - 1, by omega⟩
    rw [G12_aMinute_2, hT.1.2.2.2.2.1, if_neg (by omega), gdx_t (by omega), gdx_t (by omega), (hT.2.2.2.2.1 i (by omega) (by omega)).1, h31]
    by_cases c : w 11 i = mn
    · have hiv : i = ff w mn := by
        rcases Int.lt_trichotomy i (ff w mn) with z | z | z
        · have := v3 i a1 z; omega
        · exact z
        · have h1 := v4 (by omega)
          have h2 := wv_lt hW v1 z (by omega)
          omega
      rw [if_pos c]
      rw [if_pos (by omega)] at hN hL
      have hmt : mnt w (gM w way) n mn = bw w (gM w way) n i (w 11 i) := by
        unfold mnt
        rw [← hiv, if_pos ⟨by omega, c⟩, c]
      obtain ⟨m1, q1, q2, q3, q4⟩ := m_comes hT hW hb hN hB (by omega) h66 h67 (v := i) (by omega) (by rw [c]; exact h31) (by rw [c]; exact hL)
      rw [q1, bs1, gd3_t (by omega)]
      rw [← hmt] at q3 q4
      rw [c] at q4
      obtain ⟨m', z1, z2, z3, z4, z5⟩ := ih k (i + 1) m1 (by omega) (by omega) (by omega) (hT.pc q2) (by rw [q2 0 66 (by unfold PCm PO PNm; omega)]; exact h66) (fun z => by rw [q2 0 67 (by unfold PCm PO PNm; omega)]; exact h67 z) (by rw [q2 31 b (by unfold PCm PO PNm; omega)]; exact h31) (by rw [if_neg (by omega)]; exact q3) (by rw [if_neg (by omega)]; exact q4)
      exact ⟨m', z1, (q2.mono (fun a j z => Or.inl z)).tr z2, z3, z4, z5⟩
    · rw [if_neg c, gd3_t (by omega)]
      have he : (if i + 1 ≤ ff w mn then n else mnt w (gM w way) n mn) = (if i ≤ ff w mn then n else mnt w (gM w way) n mn) := by
        by_cases z : i = ff w mn
        · rw [if_neg (by omega), if_pos (by omega)]
          unfold mnt
          rw [if_neg (fun q => c (by rw [z]; exact q.2))]
        · by_cases z2 : i ≤ ff w mn
          · rw [if_pos z2, if_pos (by omega)]
          · rw [if_neg z2, if_neg (by omega)]
      exact ih k (i + 1) m (by omega) (by omega) (by omega) hT h66 h67 h31 (by rw [he]; exact hN) (by rw [he]; exact hL)
theorem m_min (hT : RT m w) (hW : WW w) (hb : b = 0 ∨ b = 1) (hN : NM m b w n) {f : Int} (hB : NB w n f) (hf : 0 ≤ f ∧ f ≤ 900) {way one mn : Int} (hmn : 0 ≤ mn ∧ mn ≤ 900) (h66 : m 0 66 = way) (h67 : way = 1 → m 0 67 = one) (h31 : m 31 b = mn) (hL : TLM m b w n way one mn) : ∃ m', G12_aMinute m b (n 0 1) = some m' ∧ Fm (PMn b) m m' ∧ m' 31 b = mn + 1 ∧ NM m' b w (mnt w (gM w way) n mn) ∧ TLM m' b w (mnt w (gM w way) n mn) way one (mn + 1) := by
  have hw := hW.1
  unfold WS at hw
  have hv := (ff_spec (w := w) (by omega) mn).1
  exact m_min2 hW hb hB hf hmn (w 8 1).toNat 1024 0 m (by omega) (by omega) (by omega) hT h66 h67 h31 (by rw [if_pos hv]; exact hN) (by rw [if_pos hv]; exact hL)
/-- bank 1 from minute mn on, up to the last wave -/
theorem m_goes (hW : WW w) {way one : Int} : ∀ (D k : Nat) (mn f : Int) (n m : Mem), 0 ≤ mn → mn ≤ 800 → (w 8 1 = 0 ∨ w 11 (w 8 1 - 1) + 1 - mn ≤ D) → D < k → 0 ≤ f → f + 2 * (w 8 1 - ff w mn) ≤ 900 → RT m w → NM m 1 w n → NB w n f → m 0 66 = way → (way = 1 → m 0 67 = one) → m 31 1 = mn → TLM m 1 w n way one mn → ∃ m', G12_goesOn_0 k m (n 0 1) = some m' ∧ Fm (PMn 1) m m' ∧ NM m' 1 w (rnd w (gM w way) (w 8 1 - ff w mn).toNat (ff w mn) n) := by
  have hw := hW.1
  unfold WS at hw
  intro D
  induction D with
  | zero =>
    intro k mn f n m a1 a2 a3 a4 a5 a6 hT hN hB h66 h67 h31 hL
    obtain ⟨k, rfl⟩ : ∃ j, k = j + 1 := ⟨k - 1, by omega⟩
    obtain ⟨v1, v2, v3, v4⟩ := ff_spec (w := w) (by omega) mn
    have hff : ff w mn = w 8 1 := by
      by_cases z : ff w mn < w 8 1
      · have h1 := v4 z
        by_cases z2 : ff w mn = w 8 1 - 1
        · rw [z2] at h1; omega
        · have := wv_lt hW v1 (show ff w mn < w 8 1 - 1 by omega) (by omega); omega
      · omega
    have e0 : rnd w (gM w way) (w 8 1 - ff w mn).toNat (ff w mn) n = n := by
      rw [hff]
      have : (w 8 1 - w 8 1).toNat = 0 := by omega
      rw [this]; rfl
    rw [e0, G12_goesOn_0, hT.1.2.2.2.2.1]
    by_cases c : w 8 1 ≤ 0
    · rw [if_pos c]; exact ⟨m, rfl, Fm.rf, hN⟩
    · rw [if_neg c, gdx_t (by omega), (hT.2.2.2.2.1 (w 8 1 - 1) (by omega) (by omega)).1, h31, if_pos (by omega)]
      exact ⟨m, rfl, Fm.rf, hN⟩
  | succ D ih =>
    intro k mn f n m a1 a2 a3 a4 a5 a6 hT hN hB h66 h67 h31 hL
    obtain ⟨k, rfl⟩ : ∃ j, k = j + 1 := ⟨k - 1, by omega⟩
    obtain ⟨v1, v2, v3, v4⟩ := ff_spec (w := w) (by omega) mn
    by_cases c0 : w 8 1 ≤ 0 ∨ w 11 (w 8 1 - 1) < mn
    · have hff : ff w mn = w 8 1 := by
        by_cases z : ff w mn < w 8 1
        · have h1 := v4 z
          by_cases z2 : ff w mn = w 8 1 - 1
          · rw [z2] at h1; omega
          · have := wv_lt hW v1 (show ff w mn < w 8 1 - 1 by omega) (by omega); omega
        · omega
      have e0 : rnd w (gM w way) (w 8 1 - ff w mn).toNat (ff w mn) n = n := by
        rw [hff]
        have : (w 8 1 - w 8 1).toNat = 0 := by omega
        rw [this]; rfl
      rw [e0, G12_goesOn_0, hT.1.2.2.2.2.1]
      by_cases c : w 8 1 ≤ 0
      · rw [if_pos c]; exact ⟨m, rfl, Fm.rf, hN⟩
      · rw [if_neg c, gdx_t (by omega), (hT.2.2.2.2.1 (w 8 1 - 1) (by omega) (by omega)).1, h31, if_pos (by omega)]
        exact ⟨m, rfl, Fm.rf, hN⟩
    · have hlast := (hW.2.2.2.1 (w 8 1 - 1) (by omega) (by omega)).2.1
      rw [G12_goesOn_0, hT.1.2.2.2.2.1, if_neg (by omega), gdx_t (by omega), (hT.2.2.2.2.1 (w 8 1 - 1) (by omega) (by omega)).1, h31, if_neg (by omega)]
      obtain ⟨m1, q1, q2, q3, q4, q5⟩ := m_min hT hW (Or.inr rfl) hN hB (by omega) (by omega) h66 h67 h31 hL
      rw [q1, bs1]
      have hv : ff w mn < w 8 1 := by
        rcases Int.lt_or_le (ff w mn) (w 8 1) with z | z
        · exact z
        · have := v3 (w 8 1 - 1) (by omega) (by omega); omega
      have h4 := v4 hv
      have hrule : (mnt w (gM w way) n mn) 0 1 = n 0 1 := by
        unfold mnt
        split
        · exact (bw_keep (g := gM w way) (by omega) _ _ (by have := hB.1; omega)).2.2.2.1
        · rfl
      have j66 : m1 0 66 = way := by rw [q2 0 66 (by unfold PMn PCm PO PNm; omega)]; exact h66
      have j67 : way = 1 → m1 0 67 = one := fun z => by rw [q2 0 67 (by unfold PMn PCm PO PNm; omega)]; exact h67 z
      by_cases c : w 11 (ff w mn) = mn
      · have hmt : mnt w (gM w way) n mn = bw w (gM w way) n (ff w mn) (w 11 (ff w mn)) := by
          unfold mnt; rw [if_pos ⟨hv, c⟩, c]
        have hff : ff w (mn + 1) = ff w mn + 1 := ff_eq (by omega) (by omega) (fun k x y => by
          by_cases z : k = ff w mn
          · rw [z, c]; omega
          · have := v3 k x (by omega); omega) (fun z => by
          have := wv_lt hW v1 (show ff w mn < ff w mn + 1 by omega) z; omega)
        obtain ⟨m', z1, z2, z3⟩ := ih k (mn + 1) (f + 2) (mnt w (gM w way) n mn) m1 (by omega) (by omega) (by omega) (by omega) (by omega) (by rw [hff]; omega) (hT.pm q2) q4 (by rw [hmt]; exact bw_nb hW hB a5 (by omega)) j66 j67 q3 q5
        rw [hrule] at z1
        refine ⟨m', z1, q2.tr z2, ?_⟩
        rw [hff, hmt] at z3
        have : (w 8 1 - ff w mn).toNat = (w 8 1 - (ff w mn + 1)).toNat + 1 := by omega
        rw [this, rnd_s]
        exact z3
      · have hmt : mnt w (gM w way) n mn = n := by
          unfold mnt; rw [if_neg (fun q => c q.2)]
        have hff : ff w (mn + 1) = ff w mn := ff_eq (by omega) (by omega) (fun k x y => by have := v3 k x y; omega) (fun z => by omega)
        rw [hmt] at q4 q5
        obtain ⟨m', z1, z2, z3⟩ := ih k (mn + 1) f n m1 (by omega) (by omega) (by omega) (by omega) a5 (by rw [hff]; omega) (hT.pm q2) q4 hB j66 j67 q3 q5
        refine ⟨m', z1, q2.tr z2, ?_⟩
        rw [hff] at z3
        exact z3
end MR
