/-! rank and over. -/
def mxd (f : Int → Int) : Nat → Int → Int → Int
  | 0, _, a => a
  | d + 1, i, a => mxd f d (i + 1) (if f i ≤ a then a else f i)
theorem mxd_s (f : Int → Int) (d : Nat) (i a : Int) : mxd f (d + 1) i a = mxd f d (i + 1) (if f i ≤ a then a else f i) := rfl
theorem mxd_spec {f : Int → Int} : ∀ (d : Nat) (i a : Int), a ≤ mxd f d i a ∧ (∀ j, i ≤ j → j < i + d → f j ≤ mxd f d i a) ∧ (mxd f d i a = a ∨ ∃ j, i ≤ j ∧ j < i + d ∧ mxd f d i a = f j) := by
  intro d
  induction d with
  | zero => intro i a; exact ⟨Int.le_refl a, fun j x y => by omega, Or.inl rfl⟩
  | succ d ih =>
    intro i a
    rw [mxd_s]
    obtain ⟨h1, h2, h3⟩ := ih (i + 1) (if f i ≤ a then a else f i)
    have hb : a ≤ (if f i ≤ a then a else f i) ∧ f i ≤ (if f i ≤ a then a else f i) := by split <;> omega
    refine ⟨by omega, fun j x y => ?_, ?_⟩
    · by_cases z : j = i
      · rw [z]; omega
      · exact h2 j (by omega) (by omega)
    · rcases h3 with h3 | ⟨j, x, y, z⟩
      · by_cases c : f i ≤ a
        · rw [if_pos c] at h3 ⊢; exact Or.inl h3
        · rw [if_neg c] at h3 ⊢; exact Or.inr ⟨i, by omega, by omega, h3⟩
      · exact Or.inr ⟨j, by omega, by omega, z⟩
theorem lgd_spec {f : Int → Int} {a q : Int} : ∀ (d : Nat) (i : Int), (lgd f a q d i = 1 ∧ ∀ j, i ≤ j → j < i + d → f (a + j) ≤ f q) ∨ (lgd f a q d i = 0 ∧ ∃ j, i ≤ j ∧ j < i + d ∧ f q < f (a + j)) := by
  intro d
  induction d with
  | zero => intro i; exact Or.inl ⟨rfl, fun j x y => by omega⟩
  | succ d ih =>
    intro i
    have es : lgd f a q (d + 1) i = if f (a + i) ≤ f q then lgd f a q d (i + 1) else 0 := rfl
    rw [es]
    by_cases c : f (a + i) ≤ f q
    · rw [if_pos c]
      rcases ih (i + 1) with ⟨h1, h2⟩ | ⟨h1, j, x, y, z⟩
      · refine Or.inl ⟨h1, fun j x y => ?_⟩
        by_cases e : j = i
        · rw [e]; exact c
        · exact h2 j (by omega) (by omega)
      · exact Or.inr ⟨h1, j, by omega, by omega, z⟩
    · rw [if_neg c]
      exact Or.inr ⟨rfl, i, by omega, by omega, by omega⟩
theorem lg_mx {f : Int → Int} {a q : Int} {d : Nat} (hq : a ≤ q ∧ q < a + d) (h1 : 0 < f q) : f q = mxd f d a 0 ↔ lgd f a q d 0 ≠ 0 := by
  obtain ⟨m1, m2, m3⟩ := mxd_spec (f := f) d a 0
  rcases lgd_spec (f := f) (a := a) (q := q) d 0 with ⟨l1, l2⟩ | ⟨l1, j, x, y, z⟩
  · refine ⟨fun _ => by omega, fun _ => ?_⟩
    have h2 := m2 q hq.1 hq.2
    rcases m3 with e | ⟨j, x, y, e⟩
    · omega
    · have := l2 (j - a) (by omega) (by omega)
      rw [show a + (j - a) = j by omega] at this
      omega
  · refine ⟨fun e => ?_, fun e => absurd l1 e⟩
    have := m2 (a + j) (by omega) (by omega)
    omega
section Q5
variable {m v w g n : Mem} {T : Nat}
theorem r_sEnd (h : RT v w) (hW : WW w) {t : Int} (ht : 0 ≤ t ∧ t < w 8 0) : G12_setEnd v t = some (w 9 t + w 10 t, v) := by
  have hw := hW.1
  unfold WS at hw
  have hp := hW.2.2.1.2.2 t ht.1 ht.2
  unfold G12_setEnd G12_setEnd_0
  rw [gd3_t (by omega), h.1.2.2.2.1]
  by_cases c : w 8 0 ≤ t + 1
  · rw [if_pos c, h.1.2.2.2.2.1, hp.2.2.2.2.2 (by omega)]
  · rw [if_neg c, gdx_t (by omega), h.2.2.2.1 (t + 1) (by omega) (by omega), hp.2.2.2.2.1 (by omega)]
theorem r_rk79 (h : RT v w) (hW : WW w) {k x2 x3 x4 t : Int} (ht : 0 ≤ t ∧ t < w 8 0) (hk : 1 ≤ k ∧ k ≤ w 10 t) (h4 : 0 ≤ x4 ∧ x4 ≤ 10) {kk : Mem → Int → Int → Int → Int → Int → Option (Int × Mem)} : ∀ (d c : Nat) (i a : Int), w 9 t ≤ i → w 9 t + w 10 t - i = d → d < c → (0 ≤ a ∧ a ≤ 9) → G12_rank__79 kk c v k x2 x3 x4 t a i = kk v k x2 x3 (if w 12 (w 9 t + k - 1) = mxd (w 12) d i a then x4 + 1 else x4) (t + 1) := by
  have hw := hW.1
  unfold WS at hw
  have hp := hW.2.2.1.2.2 t ht.1 ht.2
  intro d
  induction d with
  | zero =>
    intro c i a a1 a2 a3 a4
    obtain ⟨c, rfl⟩ : ∃ j, c = j + 1 := ⟨c - 1, by omega⟩
    have ea := (h.2.2.2.2.1 (w 9 t + k - 1) (by omega) (by omega)).2.1
    rw [G12_rank__79, r_sEnd h hW ht, bs1]
    simp only
    rw [if_pos (by omega), gdx_t (by omega), h.2.2.2.1 t ht.1 ht.2, gdx_t (by omega), ea, gd3_t (by omega), gd3_t (by omega), gd3_t (by omega), gd3_t (by omega)]
    show (if w 12 (w 9 t + k - 1) = a then _ else _) = kk v k x2 x3 (if w 12 (w 9 t + k - 1) = a then x4 + 1 else x4) (t + 1)
    by_cases z : w 12 (w 9 t + k - 1) = a
    · rw [if_pos z, if_pos z]
    · rw [if_neg z, if_neg z, Int.add_zero]
  | succ d ih =>
    intro c i a a1 a2 a3 a4
    obtain ⟨c, rfl⟩ : ∃ j, c = j + 1 := ⟨c - 1, by omega⟩
    have ea := (h.2.2.2.2.1 i (by omega) (by omega)).2.1
    have hb := (hW.2.2.2.1 i (by omega) (by omega)).2.1
    rw [G12_rank__79, r_sEnd h hW ht, bs1]
    simp only
    rw [if_neg (by omega), gdx_t (by omega), gdx_t (by omega), ea, gd3_t (by omega), gd3_t (by omega), mxd_s]
    by_cases z : w 12 i ≤ a
    · rw [if_pos z, if_pos z]
      exact ih c (i + 1) a (by omega) (by omega) (by omega) a4
    · rw [if_neg z, if_neg z]
      exact ih c (i + 1) (w 12 i) (by omega) (by omega) (by omega) (by omega)
def rko (w : Mem) (k : Int) : Nat → Int → Int → Int
  | 0, _, a => a
  | d + 1, i, a => rko w k d (i + 1) (if w 10 i < k then a else a + 1)
def rki (w : Mem) (k : Int) : Nat → Int → Int → Int
  | 0, _, a => a
  | d + 1, i, a => rki w k d (i + 1) (if w 10 i < k then a else if lgd (w 12) (w 9 i) (w 9 i + k - 1) (w 10 i).toNat 0 = 0 then a else a + 1)
theorem rko_s (w : Mem) (k : Int) (d : Nat) (i a : Int) : rko w k (d + 1) i a = rko w k d (i + 1) (if w 10 i < k then a else a + 1) := rfl
theorem rki_s (w : Mem) (k : Int) (d : Nat) (i a : Int) : rki w k (d + 1) i a = rki w k d (i + 1) (if w 10 i < k then a else if lgd (w 12) (w 9 i) (w 9 i + k - 1) (w 10 i).toNat 0 = 0 then a else a + 1) := rfl
theorem r_rk (h : RT v w) (hW : WW w) {k y : Int} (hk : 1 ≤ k ∧ k ≤ 7) (hy : y = 0 ∨ y = 1) : ∀ (d c : Nat) (i a b : Int), 0 ≤ i → w 8 0 - i = d → d < c → (0 ≤ a ∧ a ≤ i) → (0 ≤ b ∧ b ≤ i) → G12_rank__34 c v k y a b i = some ((if y = 0 then rki w k d i b else rko w k d i a), v) := by
  have hw := hW.1
  unfold WS at hw
  intro d
  induction d with
  | zero =>
    intro c i a b a1 a2 a3 a4 a5
    obtain ⟨c, rfl⟩ : ∃ j, c = j + 1 := ⟨c - 1, by omega⟩
    rw [G12_rank__34, h.1.2.2.2.1, if_pos (by omega)]
    rcases hy with rfl | rfl <;> rfl
  | succ d ih =>
    intro c i a b a1 a2 a3 a4 a5
    obtain ⟨c, rfl⟩ : ∃ j, c = j + 1 := ⟨c - 1, by omega⟩
    have hp := hW.2.2.1.2.2 i a1 (by omega)
    rw [G12_rank__34, h.1.2.2.2.1, if_neg (by omega), r_sEnd h hW ⟨a1, by omega⟩, bs1, gdx_t (by omega), gdx_t (by omega)]
    simp only
    rw [h.2.2.2.1 i a1 (by omega), gd3_t (by omega), gd3_t (by omega), gd3_t (by omega), rko_s, rki_s]
    by_cases z : w 10 i < k
    · rw [if_neg (by omega), if_pos z, if_pos z]
      exact ih c (i + 1) a b (by omega) (by omega) (by omega) (by omega) (by omega)
    · rw [if_pos (by omega), if_neg z, if_neg z, r_rk79 h hW ⟨a1, by omega⟩ (by omega) (by omega) (w 10 i).toNat 1024 (w 9 i) 0 (by omega) (by omega) (by omega) (by omega)]
      have hq := (hW.2.2.2.1 (w 9 i + k - 1) (by omega) (by omega)).2.1
      have hl := lg_mx (f := w 12) (a := w 9 i) (q := w 9 i + k - 1) (d := (w 10 i).toNat) (by omega) (by omega)
      by_cases z2 : lgd (w 12) (w 9 i) (w 9 i + k - 1) (w 10 i).toNat 0 = 0
      · rw [if_neg (fun q => hl.mp q z2), if_pos z2]
        exact ih c (i + 1) (a + 1) b (by omega) (by omega) (by omega) (by omega) (by omega)
      · rw [if_pos (hl.mpr z2), if_neg z2]
        exact ih c (i + 1) (a + 1) (b + 1) (by omega) (by omega) (by omega) (by omega) (by omega)
theorem c_rk (t2 : m 0 3 = (T : Int)) (h : TX m T w) (hW : WW w) {k y : Int} (hk : 1 ≤ k ∧ k ≤ 7) (hy : y = 0 ∨ y = 1) : ∀ (d c : Nat) (i a : Int), 0 ≤ i → w 8 0 - i = d → d < c → (0 ≤ a ∧ a ≤ i) → G11_rank_27 c m k y a i = some ((if y = 0 then rki w k d i a else rko w k d i a), m) := by
  have hw := hW.1
  unfold WS at hw
  intro d
  induction d with
  | zero =>
    intro c i a a1 a2 a3 a4
    obtain ⟨c, rfl⟩ : ∃ j, c = j + 1 := ⟨c - 1, by omega⟩
    rw [G11_rank_27, t2, Int.toNat_natCast, h.2.2 8 0 (by omega), if_pos (by omega)]
    rcases hy with rfl | rfl <;> rfl
  | succ d ih =>
    intro c i a a1 a2 a3 a4
    obtain ⟨c, rfl⟩ : ∃ j, c = j + 1 := ⟨c - 1, by omega⟩
    have hp := hW.2.2.1.2.2 i a1 (by omega)
    rw [G11_rank_27, t2, Int.toNat_natCast, h.2.2 8 0 (by omega), if_neg (by omega), g_len h (by omega), bs1]
    simp only
    rw [rko_s, rki_s]
    have g1 : ∀ y : Option (Int × Mem), gd3 (a + 1) y = y := fun y => gd3_t (by omega)
    have g2 : ∀ y : Option (Int × Mem), gd3 (i + 1) y = y := fun y => gd3_t (by omega)
    simp only [g1, g2]
    by_cases z : w 10 i < k
    · simp only [if_pos z]
      exact ih c (i + 1) a (by omega) (by omega) (by omega) (by omega)
    · simp only [if_neg z]
      have i1 := ih c (i + 1) (a + 1) (by omega) (by omega) (by omega) (by omega)
      have i0 := ih c (i + 1) a (by omega) (by omega) (by omega) (by omega)
      rcases hy with rfl | rfl
      · simp only [if_true] at i0 i1 ⊢
        rw [if_neg (by decide), t2, Int.toNat_natCast, g_lg h (by omega) (by omega) (by omega) (by omega), bs1]
        simp only
        by_cases z2 : lgd (w 12) (w 9 i) (w 9 i + k - 1) (w 10 i).toNat 0 = 0
        · rw [if_pos z2, if_pos z2]; exact i0
        · rw [if_neg z2, if_neg z2]; exact i1
      · simp only [if_neg i10] at i1 ⊢
        rw [if_pos True.intro]
        exact i1
theorem a_rank (h : Rel m v) (x y : Int) : Agr (G11_rank m x y) (G12_rank_ v x y) := by
  have h1 := h.v0
  unfold G11_rank G11_rank_0 G12_rank_ G12_rank__0
  rw [wt_e]
  generalize up v 0 2 0 = u at h1 ⊢
  obtain ⟨T, w, g, n, t1, t2, hc, hn, hW, hG, hE, hS, hR, hV, hL, -, -, -⟩ := h1.use
  have hw := hW.1
  unfold WS at hw
  rw [r_isIn, bs1]
  by_cases c1 : 1 ≤ x ∧ x ≤ 7
  · simp only [if_pos c1, if_neg i10, if_neg (show ¬ x < 1 by omega), if_neg (show ¬ 7 < x by omega)]
    rw [r_isIn, bs1]
    by_cases c2 : 0 ≤ y ∧ y ≤ 1
    · simp only [if_pos c2, if_neg i10, if_neg (show ¬ y < 0 by omega), if_pos c2.2]
      rw [c_rk t2 hc.1 hW c1 (by omega) (w 8 0).toNat 1024 0 0 (by omega) (by omega) (by omega) (by omega), r_rk hR hW c1 (by omega) (w 8 0).toNat 1024 0 0 0 (by omega) (by omega) (by omega) (by omega) (by omega)]
      exact agr0 h1 _ rfl rfl
    · simp only [if_neg c2, if_true]
      by_cases z : y < 0
      · rw [if_pos z]; exact agr0 h1 _ rfl rfl
      · rw [if_neg z, if_neg (by omega)]; exact agr0 h1 _ rfl rfl
  · simp only [if_neg c1, if_true]
    by_cases z : x < 1
    · rw [if_pos z]; exact agr0 h1 _ rfl rfl
    · rw [if_neg z, if_pos (by omega)]; exact agr0 h1 _ rfl rfl
theorem over_l {x L : Int} (hW : WW w) (hS : SN w n) (hx : 0 ≤ x ∧ x < w 1 0) (hL : L = w 11 (w 8 1 - 1)) (hcnt : 0 < w 8 1) (h7 : 1 ≤ w 0 7) : ∀ (d k : Nat) (i : Int) (m v : Mem), Rel m v → (∃ T g, m 0 3 = ((T : Nat) : Int) ∧ CX m 51 T w g ∧ NX m 69 n ∧ GB w g ∧ GE w g (gM w (-1)) ∧ RT v w ∧ SV w n v) → 0 ≤ i → i ≤ 300 → (L + 1 - i = d ∨ (L + 1 < i ∧ d = 0)) → d < k → Agr (G11_over_93 k m x L (ff w i) (seatV w (gM w (-1)) x (n 1 x) (ff w i)) i) (G12_over_50 k v x L i) := by
  have hw := hW.1
  unfold WS at hw
  have hlb := (hW.2.2.2.1 (w 8 1 - 1) (by omega) (by omega)).2.1
  have hcell := (hS.1.2 x hx.1 hx.2).1
  intro d
  induction d with
  | zero =>
    intro k i m v h ⟨T, g, t2, hc, hn, hG, hE, hR, hV⟩ a1 a0 a2 a3
    obtain ⟨k, rfl⟩ : ∃ j, k = j + 1 := ⟨k - 1, by omega⟩
    rw [G11_over_93, G12_over_50, if_pos (by omega), if_pos (by omega)]
    exact agr0 h _ rfl rfl
  | succ d ih =>
    intro k i m v h ⟨T, g, t2, hc, hn, hG, hE, hR, hV⟩ a1 a0 a2 a3
    obtain ⟨k, rfl⟩ : ∃ j, k = j + 1 := ⟨k - 1, by omega⟩
    obtain ⟨f1, f2, f3, f4⟩ := ff_spec (w := w) (by omega) i
    have hpx : ∀ v, 0 ≤ v → v < w 8 1 → 0 ≤ gM w (-1) 3 v ∧ gM w (-1) 3 v < w 0 0 := fun v a b => by rw [gM3]; exact pxM_b hW
    have hsb := seat_b (g := gM w (-1)) hW (x := x) hcell hpx ⟨f1, f2⟩
    rw [G11_over_93, G12_over_50, if_neg (by omega), if_neg (by omega), t2, Int.toNat_natCast, g_bwv hc.1 (by omega) (by omega) (by omega) (by omega), bs1, hc.1.2.1 8]
    simp only
    have hq1 := Int.ediv_nonneg (a := L - i - w 0 6) (b := w 0 7)
    have hq2 := Int.ediv_le_self (a := L - i - w 0 6) (w 0 7)
    have hbw : 0 ≤ bwv w i L ∧ bwv w i L ≤ 200 := by
      unfold bwv
      split
      · omega
      · have h1 := hq1 (by omega) (by omega)
        have h2 := hq2 (by omega)
        omega
    have hmul : 0 ≤ 100 * w 0 8 * bwv w i L ∧ 100 * w 0 8 * bwv w i L ≤ 900 * 200 := ⟨Int.mul_nonneg (by omega) (by omega), Int.mul_le_mul (by omega) (by omega) (by omega) (by omega)⟩
    -- the reference's number
    obtain ⟨u1, e2, g2⟩ := r_seat hR hW hV.2.2.2.2 (x := i) hx hcell
    have k25 : v 25 x = n 1 x := by have := (hV.1.1 x hx.1 hx.2).1; rwa [show 5 * (0 : Int) + x = x by omega] at this
    have r87 : ∀ b : Int, b = bwv w i L → G12_over_87 (fun m x1 x2 x3 => G12_over_50 k m x1 x2 x3) v x L i b = (if 100 * w 0 8 * bwv w i L ≤ seatV w (gM w (-1)) x (n 1 x) (ff w i) then G12_over_50 k u1 x L (i + 1) else some (i, u1)) := by
      intro b hb
      unfold G12_over_87
      rw [gdx_t (by omega), k25, e2, bs1, hR.2.1.2.2.2.2.1, hb, gd3_t (by omega), gd3_t (by omega)]
    have rr : (if 0 ≤ L - i - v 4 2 then if v 4 3 = 0 then none else gd3 (L - i - v 4 2) (gdd (L - i - v 4 2) (v 4 3) (gd3 ((L - i - v 4 2) / v 4 3 + 1) (G12_over_87 (fun m x1 x2 x3 => G12_over_50 k m x1 x2 x3) v x L i ((L - i - v 4 2) / v 4 3 + 1)))) else G12_over_87 (fun m x1 x2 x3 => G12_over_50 k m x1 x2 x3) v x L i 0) = (if 100 * w 0 8 * bwv w i L ≤ seatV w (gM w (-1)) x (n 1 x) (ff w i) then G12_over_50 k u1 x L (i + 1) else some (i, u1)) := by
      rw [hR.2.1.2.2.1, hR.2.1.2.2.2.1]
      by_cases z : 0 ≤ L - i - w 0 6
      · have h1 := hq1 z (by omega)
        have h2 := hq2 z
        rw [if_pos z, if_neg (by omega), gd3_t (by omega), gdd_t (by omega), gd3_t (by omega)]
        exact r87 _ (by unfold bwv; rw [if_neg (by omega), if_pos h7])
      · rw [if_neg z]
        exact r87 _ (by unfold bwv; rw [if_pos (by omega)])
    have g0 : ∀ y : Option (Int × Mem), gd3 (L - i - v 4 2) y = y := fun y => gd3_t (by rw [hR.2.1.2.2.1]; omega)
    rw [g0]
    simp only [g0] at rr ⊢
    rw [rr, gd3_t (by omega)]
    have e8 : m (T + 8) 1 = w 8 1 := hc.1.2.2 8 1 (by omega)
    have e11 : m (T + 11) (ff w i) = w 11 (ff w i) := hc.1.2.2 11 _ (by omega)
    have e70 : m (69 + 1) x = n 1 x := hn.2.2 1 x (by omega)
    by_cases c1 : 100 * w 0 8 * bwv w i L ≤ seatV w (gM w (-1)) x (n 1 x) (ff w i)
    · rw [if_pos c1, if_pos c1, t2, Int.toNat_natCast, e8]
      have hx0 : ∀ m' : Mem, Fr (PN 51) m m' → (∃ T g, m' 0 3 = ((T : Nat) : Int) ∧ CX m' 51 T w g ∧ NX m' 69 n ∧ GB w g ∧ GE w g (gM w (-1)) ∧ RT u1 w ∧ SV w n u1) := fun m' f => ⟨T, g, by rw [f 0 3 (by unfold PN; omega)]; exact t2, hc.pn f, hn.pl (Or.inl rfl) (f.mono PN_PL), hG, hE, hR.pn g2, hV.q ⟨by omega, by omega⟩ (g2.mono PNm_q)⟩
      have hv : ff w i < w 8 1 := by
        rcases Int.lt_or_le (ff w i) (w 8 1) with z | z
        · exact z
        · have := f3 (w 8 1 - 1) (by omega) (by omega); omega
      have h4 := f4 hv
      rw [if_neg (by omega), gdx_t (by omega), e11]
      by_cases c2 : w 11 (ff w i) = i
      · rw [if_pos c2, gdx_t (by omega), e70]
        have hg := hG.1 x hx.1 hx.2
        obtain ⟨m2, e3, g3⟩ := g_worth hc hW (x := x) (v := ff w i) (c := n 1 x) (by omega) ⟨hg.1, hg.2.1⟩ ⟨f1, hv⟩ hcell (hG.2 _ f1 hv)
        have hwb := worth_b hW (bd := g 1 x) (v := ff w i) ⟨f1, hv⟩ hcell (hG.2 _ f1 hv)
        rw [e3, bs1, gd3_t (by omega)]
        simp only
        have hff : ff w (i + 1) = ff w i + 1 := ff_eq (by omega) (by omega) (fun k x y => by
          by_cases z : k = ff w i
          · rw [z, c2]; omega
          · have := f3 k x (by omega); omega) (fun z => by
          have := wv_lt hW f1 (show ff w i < ff w i + 1 by omega) z; omega)
        have es : seatV w (gM w (-1)) x (n 1 x) (ff w i) = worthV w (gM w (-1) 1 x) (gM w (-1) 3 (ff w i)) (ff w i) (n 1 x) + seatV w (gM w (-1)) x (n 1 x) (ff w i + 1) := by
          unfold seatV
          rw [show (w 8 1 - ff w i).toNat = (w 8 1 - (ff w i + 1)).toNat + 1 by omega, smd_s]
        have ew : worthV w (g 1 x) (g 3 (ff w i)) (ff w i) (n 1 x) = worthV w (gM w (-1) 1 x) (gM w (-1) 3 (ff w i)) (ff w i) (n 1 x) := by rw [(hE.1 x hx.1 hx.2).1, hE.2 _ f1 hv]
        have esub : seatV w (gM w (-1)) x (n 1 x) (ff w i) - worthV w (g 1 x) (g 3 (ff w i)) (ff w i) (n 1 x) = seatV w (gM w (-1)) x (n 1 x) (ff w (i + 1)) := by
          rw [hff, ew]; omega
        rw [gd3_t (by omega), gd3_t (by omega), esub, ← hff]
        exact ih k (i + 1) m2 u1 (h.q (g3.mono PN_Q) (g2.mono PNm_q)) (hx0 m2 g3) (by omega) (by omega) (by omega) (by omega)
      · rw [if_neg c2, gd3_t (by omega)]
        have hff : ff w (i + 1) = ff w i := ff_eq (by omega) (by omega) (fun k x y => by have := f3 k x y; omega) (fun z => by omega)
        have := ih k (i + 1) m u1 (h.q Fr.rf (g2.mono PNm_q)) (hx0 m Fr.rf) (by omega) (by omega) (by omega) (by omega)
        rwa [hff] at this
    · rw [if_neg c1, if_neg c1]
      exact agr h _ rfl rfl Fr.rf (g2.mono PNm_q)
theorem a_over (h : Rel m v) (x : Int) : Agr (G11_over m x) (G12_over v x) := by
  have h1 := h.v0
  unfold G11_over G11_over_0 G12_over G12_over_0
  rw [wt_e]
  generalize up v 0 2 0 = u at h1 ⊢
  obtain ⟨T, w, g, n, t1, t2, hc, hn, hW, hG, hE, hS, hR, hV, hL, -, -, -⟩ := h1.use
  have hw := hW.1
  unfold WS at hw
  have hmn := hS.2.1
  rw [c_isS t2 hc.1, r_isS hR, bs1, bs1]
  by_cases c1 : 0 ≤ x ∧ x < w 1 0
  · simp only [if_pos c1, if_neg i10]
    have e8 : m (T + 8) 1 = w 8 1 := hc.1.2.2 8 1 (by omega)
    rw [t2, Int.toNat_natCast, hc.1.2.1 7, e8, hR.2.1.2.2.1, hR.1.2.2.2.2.1]
    by_cases c2 : w 0 7 < 1
    · rw [if_pos c2, if_pos (show w 0 6 = 0 by omega)]; exact agr0 h1 _ rfl rfl
    · rw [if_neg c2, if_neg (show ¬ w 0 6 = 0 by omega)]
      by_cases c3 : w 8 1 = 0
      · rw [if_neg (show ¬ 1 ≤ w 8 1 by omega), if_pos c3]; exact agr0 h1 _ rfl rfl
      · have e11 : m (T + 11) (w 8 1 - 1) = w 11 (w 8 1 - 1) := hc.1.2.2 11 _ (by omega)
        have e70 : m (69 + 1) x = n 1 x := hn.2.2 1 x (by omega)
        have hcell := (hS.1.2 x c1.1 c1.2).1
        have hlb := (hW.2.2.2.1 (w 8 1 - 1) (by omega) (by omega)).2.1
        rw [if_pos (show 1 ≤ w 8 1 by omega), if_neg c3, gdx_t (by omega), gdx_t (by omega), c_ftc t2 hc.1 hn hW, bs1, gdx_t (by omega)]
        simp only
        rw [e70]
        obtain ⟨m1, e1, f1⟩ := c_seat t2 hc hn hW hG hE c1 hcell
        have e69 : m1 69 0 = n 0 0 := by rw [f1 69 0 (by unfold PN; omega)]; exact hn.2.1 0
        rw [e1, bs1, e11, (hR.2.2.2.2.1 (w 8 1 - 1) (by omega) (by omega)).1, hV.2.1]
        simp only
        rw [e69]
        have h' : Rel m1 u := h1.q (f1.mono PN_Q) Fm.rf
        have hx : ∃ T g, m1 0 3 = ((T : Nat) : Int) ∧ CX m1 51 T w g ∧ NX m1 69 n ∧ GB w g ∧ GE w g (gM w (-1)) ∧ RT u w ∧ SV w n u := ⟨T, g, by rw [f1 0 3 (by unfold PN; omega)]; exact t2, hc.pn f1, hn.pl (Or.inl rfl) (f1.mono PN_PL), hG, hE, hR, hV⟩
        exact over_l hW hS c1 rfl (by omega) (by omega) (w 11 (w 8 1 - 1) + 1 - n 0 0).toNat 1024 (n 0 0) m1 u h' hx hmn.1 (by omega) (by omega) (by omega)
  · simp only [if_neg c1, if_true]; exact agr0 h1 _ rfl rfl
end Q5
