section Q4
variable {m v w g n : Mem} {T : Nat}
theorem a_count (h : Rel m v) (x : Int) : Agr (G11_count m x) (G12_count v x) := by
  have h1 := h.v0
  unfold G11_count G11_count_0 G12_count G12_count_0
  rw [wt_e]
  generalize up v 0 2 0 = u at h1 ⊢
  obtain ⟨T', _, _, hNo, hUn, _, _⟩ := id h1
  obtain ⟨T, w, g, n, t1, t2, hc, hn, hW, hG, hE, hS, hR, hV, hL, -, -, -⟩ := h1.use
  have hw := hW.1
  unfold WS at hw
  have hff := ff_spec (w := w) (by first | decide | omega) (n 0 0)
  have k1 : m T 0 = w 0 0 := hc.1.2.1 0
  have k2 : m T 1 = w 0 1 := hc.1.2.1 1
  have k3 : m (T + 1) 0 = w 1 0 := hc.1.2.2 1 0 (by first | decide | omega)
  have k4 : m (T + 8) 0 = w 8 0 := hc.1.2.2 8 0 (by first | decide | omega)
  have k5 : m (T + 8) 1 = w 8 1 := hc.1.2.2 8 1 (by first | decide | omega)
  have k6 : m T 13 = w 0 13 := hc.1.2.1 13
  have n0 : m 69 0 = n 0 0 := hn.2.1 0
  have n1 : m 69 1 = n 0 1 := hn.2.1 1
  have n3 : m 69 3 = n 0 3 := hn.2.1 3
  have n4 : m 69 4 = n 0 4 := hn.2.1 4
  obtain ⟨r1, r2, r3, r4, r5, r6⟩ := hR.1
  have c12 : (G3_howManyKnown m).bind (fun o74 => some (o74.1, o74.2)) = some ((if 0 ≤ u 0 75 then u 0 75 else u 0 74), m) := by
    unfold G3_howManyKnown G3_howManyKnown_0
    have h3 := hNo.2.2.1
    have h4 := hNo.2.2.2.1
    rw [← h3, ← hNo.1]
    by_cases z : m 90 1 = -1
    · rw [if_pos z, if_neg (by first | decide | omega), bs1]
    · rw [if_neg z, if_pos (by first | decide | omega), bs1]
  have d12 : (G12_knownBy u).bind (fun o48 => some (o48.1, o48.2)) = some ((if 0 ≤ u 0 75 then u 0 75 else u 0 74), u) := by
    unfold G12_knownBy G12_knownBy_0
    split <;> rfl
  simp only [t2, Int.toNat_natCast, k1, k2, k3, k4, k5, k6, n0, n1, n3, n4, r1, r2, r3, r4, r5, r6, hV.2.1, hV.2.2.1, hV.1.2.2.1, hV.1.2.2.2.1, c_ftc t2 hc.1 hn hW, r_ftc hR hS hV hW, bs1, c12, d12, hNo.1, hUn.1, gd3_t (show -2147483648 ≤ w 8 1 - ff w (n 0 0) ∧ w 8 1 - ff w (n 0 0) ≤ 2147483647 by first | decide | omega)]
  repeat' first | exact agr0 h1 _ rfl rfl | refine agr_if ?_ ?_
end Q4
/-! rank and over. -/
def mxd (f : Int → Int) : Nat → Int → Int → Int
  | 0, _, a => a
  | d + 1, i, a => mxd f d (i + 1) (if f i ≤ a then a else f i)
theorem mxd_s (f : Int → Int) (d : Nat) (i a : Int) : mxd f (d + 1) i a = mxd f d (i + 1) (if f i ≤ a then a else f i) := rfl
theorem mxd_spec {f : Int → Int} : ∀ (d : Nat) (i a : Int), a ≤ mxd f d i a ∧ (∀ j, i ≤ j → j < i + d → f j ≤ mxd f d i a) ∧ (mxd f d i a = a ∨ ∃ j, i ≤ j ∧ j < i + d ∧ mxd f d i a = f j) := by
  intro d
  induction d with
  | zero => intro i a; exact ⟨Int.le_refl a, fun j x y => by first | decide | omega, Or.inl rfl⟩
  | succ d ih =>
    intro i a
    rw [mxd_s]
    obtain ⟨h1, h2, h3⟩ := ih (i + 1) (if f i ≤ a then a else f i)
    have hb : a ≤ (if f i ≤ a then a else f i) ∧ f i ≤ (if f i ≤ a then a else f i) := by split <;> omega
    refine ⟨by first | decide | omega, fun j x y => ?_, ?_⟩
    · by_cases z : j = i
      · rw [z]; omega
      · exact h2 j (by first | decide | omega) (by first | decide | omega)
    · rcases h3 with h3 | ⟨j, x, y, z⟩
      · by_cases c : f i ≤ a
        · rw [if_pos c] at h3 ⊢; exact Or.inl h3
        · rw [if_neg c] at h3 ⊢; exact Or.inr ⟨i, by first | decide | omega, by first | decide | omega, h3⟩
      · exact Or.inr ⟨j, by first | decide | omega, by first | decide | omega, z⟩
theorem lgd_spec {f : Int → Int} {a q : Int} : ∀ (d : Nat) (i : Int), (lgd f a q d i = 1 ∧ ∀ j, i ≤ j → j < i + d → f (a + j) ≤ f q) ∨ (lgd f a q d i = 0 ∧ ∃ j, i ≤ j ∧ j < i + d ∧ f q < f (a + j)) := by
  intro d
  induction d with
  | zero => intro i; exact Or.inl ⟨rfl, fun j x y => by first | decide | omega⟩
  | succ d ih =>
    intro i
    have es : lgd f a q (d + 1) i = if f (a + i) ≤ f q then lgd f a q d (i + 1) else 0 := rfl
    rw [es]
    by_cases c : f (a + i) ≤ f q
    · rw [if_pos c]
      rcases ih (i + 1) with ⟨h1, h2⟩ | ⟨h1, j, x, y, z⟩
      · refine Or.inl ⟨h1, fun j x y => ?_⟩
        by_cases e : j = i
        · rw [e]; exact c
        · exact h2 j (by first | decide | omega) (by first | decide | omega)
      · exact Or.inr ⟨h1, j, by first | decide | omega, by first | decide | omega, z⟩
    · rw [if_neg c]
      exact Or.inr ⟨rfl, i, by first | decide | omega, by first | decide | omega, by first | decide | omega⟩
theorem lg_mx {f : Int → Int} {a q : Int} {d : Nat} (hq : a ≤ q ∧ q < a + d) (h1 : 0 < f q) : f q = mxd f d a 0 ↔ lgd f a q d 0 ≠ 0 := by
  obtain ⟨m1, m2, m3⟩ := mxd_spec (f := f) d a 0
  rcases lgd_spec (f := f) (a := a) (q := q) d 0 with ⟨l1, l2⟩ | ⟨l1, j, x, y, z⟩
  · refine ⟨fun _ => by first | decide | omega, fun _ => ?_⟩
    have h2 := m2 q hq.1 hq.2
    rcases m3 with e | ⟨j, x, y, e⟩
    · omega
    · have := l2 (j - a) (by first | decide | omega) (by first | decide | omega)
      rw [show a + (j - a) = j by first | decide | omega] at this
      omega
  · refine ⟨fun e => ?_, fun e => absurd l1 e⟩
    have := m2 (a + j) (by first | decide | omega) (by first | decide | omega)
    omega
section Q5
variable {m v w g n : Mem} {T : Nat}
theorem r_sEnd (h : RT v w) (hW : WW w) {t : Int} (ht : 0 ≤ t ∧ t < w 8 0) : G12_setEnd v t = some (w 9 t + w 10 t, v) := by
  have hw := hW.1
  unfold WS at hw
  have hp := hW.2.2.1.2.2 t ht.1 ht.2
  unfold G12_setEnd G12_setEnd_0
  rw [gd3_t (by first | decide | omega), h.1.2.2.2.1]
  by_cases c : w 8 0 ≤ t + 1
  · rw [if_pos c, h.1.2.2.2.2.1, hp.2.2.2.2.2 (by first | decide | omega)]
  · rw [if_neg c, gdx_t (by first | decide | omega), h.2.2.2.1 (t + 1) (by first | decide | omega) (by first | decide | omega), hp.2.2.2.2.1 (by first | decide | omega)]
theorem r_rk79 (h : RT v w) (hW : WW w) {k x2 x3 x4 t : Int} (ht : 0 ≤ t ∧ t < w 8 0) (hk : 1 ≤ k ∧ k ≤ w 10 t) (h4 : 0 ≤ x4 ∧ x4 ≤ 10) {kk : Mem → Int → Int → Int → Int → Int → Option (Int × Mem)} : ∀ (d c : Nat) (i a : Int), w 9 t ≤ i → w 9 t + w 10 t - i = d → d < c → (0 ≤ a ∧ a ≤ 9) → G12_rank__79 kk c v k x2 x3 x4 t a i = kk v k x2 x3 (if w 12 (w 9 t + k - 1) = mxd (w 12) d i a then x4 + 1 else x4) (t + 1) := by
  have hw := hW.1
  unfold WS at hw
  have hp := hW.2.2.1.2.2 t ht.1 ht.2
  intro d
  induction d with
  | zero =>
    intro c i a a1 a2 a3 a4
    obtain ⟨c, rfl⟩ : ∃ j, c = j + 1 := ⟨c - 1, by first | decide | omega⟩
    have ea := (h.2.2.2.2.1 (w 9 t + k - 1) (by first | decide | omega) (by first | decide | omega)).2.1
    rw [G12_rank__79, r_sEnd h hW ht, bs1]
    simp only
    rw [if_pos (by first | decide | omega), gdx_t (by first | decide | omega), h.2.2.2.1 t ht.1 ht.2, gdx_t (by first | decide | omega), ea, gd3_t (by first | decide | omega), gd3_t (by first | decide | omega), gd3_t (by first | decide | omega), gd3_t (by first | decide | omega)]
    show (if w 12 (w 9 t + k - 1) = a then _ else _) = kk v k x2 x3 (if w 12 (w 9 t + k - 1) = a then x4 + 1 else x4) (t + 1)
    by_cases z : w 12 (w 9 t + k - 1) = a
    · rw [if_pos z, if_pos z]
    · rw [if_neg z, if_neg z, Int.add_zero]
  | succ d ih =>
    intro c i a a1 a2 a3 a4
    obtain ⟨c, rfl⟩ : ∃ j, c = j + 1 := ⟨c - 1, by first | decide | omega⟩
    have ea := (h.2.2.2.2.1 i (by first | decide | omega) (by first | decide | omega)).2.1
    have hb := (hW.2.2.2.1 i (by first | decide | omega) (by first | decide | omega)).2.1
    rw [G12_rank__79, r_sEnd h hW ht, bs1]
    simp only
    rw [if_neg (by first | decide | omega), gdx_t (by first | decide | omega), gdx_t (by first | decide | omega), ea, gd3_t (by first | decide | omega), gd3_t (by first | decide | omega), mxd_s]
    by_cases z : w 12 i ≤ a
    · rw [if_pos z, if_pos z]
      exact ih c (i + 1) a (by first | decide | omega) (by first | decide | omega) (by first | decide | omega) a4
    · rw [if_neg z, if_neg z]
      exact ih c (i + 1) (w 12 i) (by first | decide | omega) (by first | decide | omega) (by first | decide | omega) (by first | decide | omega)
def rko (w : Mem) (k : Int) : Nat → Int → Int → Int
  | 0, _, a => a
  | d + 1, i, a => rko w k d (i + 1) (if w 10 i < k then a else a + 1)
def rki (w : Mem) (k : Int) : Nat → Int → Int → Int
  | 0, _, a => a
  | d + 1, i, a => rki w k d (i + 1) (if w 10 i < k then a else if lgd (w 12) (w 9 i) (w 9 i + k - 1) (w 10 i).toNat 0 = 0 then a else a + 1)
theorem rko_s (w : Mem) (k : Int) (d : Nat) (i a : Int) : rko w k (d + 1) i a = rko w k d (i + 1) (if w 10 i < k then a else a + 1) := rfl
theorem rki_s (w : Mem) (k : Int) (d : Nat) (i a : Int) : rki w k (d + 1) i a = rki w k d (i + 1) (if w 10 i < k then a else if lgd (w 12) (w 9 i) (w 9 i + k - 1) (w 10 i).toNat 0 = 0 then a else a + 1) := rfl
theorem r_rk (h : RT v w) (hW : WW w) {k y : Int} (hk : 1 ≤ k ∧ k ≤ 7) (hy : y = 0 ∨ y = 1) : ∀ (d c : Nat) (i a b : Int), 0 ≤ i → w 8 0 - i = d → d < c → (0 ≤ a ∧ a ≤ i) → (0 ≤ b ∧ b ≤ i) → G12_rank__34 c v k y a b i = some ((if y = 0 then rki w k d i b else rko w k d i a), v) := by
  have hw := hW.1
  unfold WS at hw
  intro d
  induction d with
  | zero =>
    intro c i a b a1 a2 a3 a4 a5
    obtain ⟨c, rfl⟩ : ∃ j, c = j + 1 := ⟨c - 1, by first | decide | omega⟩
    rw [G12_rank__34, h.1.2.2.2.1, if_pos (by first | decide | omega)]
    rcases hy with rfl | rfl <;> rfl
  | succ d ih =>
    intro c i a b a1 a2 a3 a4 a5
    obtain ⟨c, rfl⟩ : ∃ j, c = j + 1 := ⟨c - 1, by first | decide | omega⟩
    have hp := hW.2.2.1.2.2 i a1 (by first | decide | omega)
    rw [G12_rank__34, h.1.2.2.2.1, if_neg (by first | decide | omega), r_sEnd h hW ⟨a1, by first | decide | omega⟩, bs1, gdx_t (by first | decide | omega), gdx_t (by first | decide | omega)]
    simp only
    rw [h.2.2.2.1 i a1 (by first | decide | omega), gd3_t (by first | decide | omega), gd3_t (by first | decide | omega), gd3_t (by first | decide | omega), rko_s, rki_s]
    by_cases z : w 10 i < k
    · rw [if_neg (by first | decide | omega), if_pos z, if_pos z]
      exact ih c (i + 1) a b (by first | decide | omega) (by first | decide | omega) (by first | decide | omega) (by first | decide | omega) (by first | decide | omega)
    · rw [if_pos (by first | decide | omega), if_neg z, if_neg z, r_rk79 h hW ⟨a1, by first | decide | omega⟩ (by first | decide | omega) (by first | decide | omega) (w 10 i).toNat 1024 (w 9 i) 0 (by first | decide | omega) (by first | decide | omega) (by first | decide | omega) (by first | decide | omega)]
      have hq := (hW.2.2.2.1 (w 9 i + k - 1) (by first | decide | omega) (by first | decide | omega)).2.1
      have hl := lg_mx (f := w 12) (a := w 9 i) (q := w 9 i + k - 1) (d := (w 10 i).toNat) (by first | decide | omega) (by first | decide | omega)
      by_cases z2 : lgd (w 12) (w 9 i) (w 9 i + k - 1) (w 10 i).toNat 0 = 0
      · rw [if_neg (fun q => hl.mp q z2), if_pos z2]
        exact ih c (i + 1) (a + 1) b (by first | decide | omega) (by first | decide | omega) (by first | decide | omega) (by first | decide | omega) (by first | decide | omega)
      · rw [if_pos (hl.mpr z2), if_neg z2]
        exact ih c (i + 1) (a + 1) (b + 1) (by first | decide | omega) (by first | decide | omega) (by first | decide | omega) (by first | decide | omega) (by first | decide | omega)
theorem c_rk (t2 : m 0 3 = (T : Int)) (h : TX m T w) (hW : WW w) {k y : Int} (hk : 1 ≤ k ∧ k ≤ 7) (hy : y = 0 ∨ y = 1) : ∀ (d c : Nat) (i a : Int), 0 ≤ i → w 8 0 - i = d → d < c → (0 ≤ a ∧ a ≤ i) → G11_rank_27 c m k y a i = some ((if y = 0 then rki w k d i a else rko w k d i a), m) := by
  have hw := hW.1
  unfold WS at hw
  intro d
  induction d with
  | zero =>
    intro c i a a1 a2 a3 a4
    obtain ⟨c, rfl⟩ : ∃ j, c = j + 1 := ⟨c - 1, by first | decide | omega⟩
    rw [G11_rank_27, t2, Int.toNat_natCast, h.2.2 8 0 (by first | decide | omega), if_pos (by first | decide | omega)]
    rcases hy with rfl | rfl <;> rfl
  | succ d ih =>
    intro c i a a1 a2 a3 a4
    obtain ⟨c, rfl⟩ : ∃ j, c = j + 1 := ⟨c - 1, by first | decide | omega⟩
    have hp := hW.2.2.1.2.2 i a1 (by first | decide | omega)
    rw [G11_rank_27, t2, Int.toNat_natCast, h.2.2 8 0 (by first | decide | omega), if_neg (by first | decide | omega), g_len h (by first | decide | omega), bs1]
    simp only
    rw [rko_s, rki_s]
    have g1 : ∀ y : Option (Int × Mem), gd3 (a + 1) y = y := fun y => gd3_t (by first | decide | omega)
    have g2 : ∀ y : Option (Int × Mem), gd3 (i + 1) y = y := fun y => gd3_t (by first | decide | omega)
    simp only [g1, g2]
    by_cases z : w 10 i < k
    · simp only [if_pos z]
      exact ih c (i + 1) a (by first | decide | omega) (by first | decide | omega) (by first | decide | omega) (by first | decide | omega)
    · simp only [if_neg z]
      have i1 := ih c (i + 1) (a + 1) (by first | decide | omega) (by first | decide | omega) (by first | decide | omega) (by first | decide | omega)
      have i0 := ih c (i + 1) a (by first | decide | omega) (by first | decide | omega) (by first | decide | omega) (by first | decide | omega)
      rcases hy with rfl | rfl
      · simp only [if_true] at i0 i1 ⊢
        rw [if_neg (by decide), t2, Int.toNat_natCast, g_lg h (by first | decide | omega) (by first | decide | omega) (by first | decide | omega) (by first | decide | omega), bs1]
        simp only
        by_cases z2 : lgd (w 12) (w 9 i) (w 9 i + k - 1) (w 10 i).toNat 0 = 0
        · rw [if_pos z2, if_pos z2]; exact i0
        · rw [if_neg z2, if_neg z2]; exact i1
      · simp only [if_neg i10] at i1 ⊢
        rw [if_pos True.intro]
        exact i1
theorem a_rank (h : Rel m v) (x y : Int) : Agr (G11_rank m x y) (G12_rank_ v x y) := by
  have h1 := h.v0
  unfold G11_rank G11_rank_0 G12_rank_ G12_rank__0
  rw [wt_e]
  generalize up v 0 2 0 = u at h1 ⊢
  obtain ⟨T, w, g, n, t1, t2, hc, hn, hW, hG, hE, hS, hR, hV, hL, -, -, -⟩ := h1.use
  have hw := hW.1
  unfold WS at hw
  rw [r_isIn, bs1]
  by_cases c1 : 1 ≤ x ∧ x ≤ 7
  · simp only [if_pos c1, if_neg i10, if_neg (show ¬ x < 1 by first | decide | omega), if_neg (show ¬ 7 < x by first | decide | omega)]
    rw [r_isIn, bs1]
    by_cases c2 : 0 ≤ y ∧ y ≤ 1
    · simp only [if_pos c2, if_neg i10, if_neg (show ¬ y < 0 by first | decide | omega), if_pos c2.2]
      rw [c_rk t2 hc.1 hW c1 (by first | decide | omega) (w 8 0).toNat 1024 0 0 (by first | decide | omega) (by first | decide | omega) (by first | decide | omega) (by first | decide | omega), r_rk hR hW c1 (by first | decide | omega) (w 8 0).toNat 1024 0 0 0 (by first | decide | omega) (by first | decide | omega) (by first | decide | omega) (by first | decide | omega) (by first | decide | omega)]
      exact agr0 h1 _ rfl rfl
    · simp only [if_neg c2, if_true]
      by_cases z : y < 0
      · rw [if_pos z]; exact agr0 h1 _ rfl rfl
      · rw [if_neg z, if_neg (by first | decide | omega)]; exact agr0 h1 _ rfl rfl
  · simp only [if_neg c1, if_true]
    by_cases z : x < 1
    · rw [if_pos z]; exact agr0 h1 _ rfl rfl
    · rw [if_neg z, if_pos (by first | decide | omega)]; exact agr0 h1 _ rfl rfl
end Q5
