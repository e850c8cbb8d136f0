/-! The game of two: the class. -/
def cAy (w n : Mem) (s i : Int) : Int := bsd w (n 1 s) (gw i)
/-- does the first of the two have wave v -/
def cnd (w : Mem) (a b : Int) (o : Bool) (v : Int) : Bool := decide (fr w a (gM w (-1) 3 v) < fr w b (gM w (-1) 3 v)) || (decide (fr w a (gM w (-1) 3 v) = fr w b (gM w (-1) 3 v)) && o)
def gnO (w : Mem) (s a b : Int) (o : Bool) (v : Int) : Int := if cnd w a b o v = true then wov w s a v else 0
def gnT (w : Mem) (t a b : Int) (o : Bool) (v : Int) : Int := if cnd w a b o v = true then 0 else wov w t b v
def sO (w : Mem) (s a b : Int) (o : Bool) (lo : Int) : Int := smd (gnO w s a b o) (w 8 1 - lo).toNat lo
def sT (w : Mem) (t a b : Int) (o : Bool) (lo : Int) : Int := smd (gnT w t a b o) (w 8 1 - lo).toNat lo
section Q10
variable {m v w g n : Mem} {T : Nat}
theorem gw_b {i : Int} (h : 0 ≤ i ∧ i < 5) : 0 ≤ gw i ∧ gw i ≤ 4 := by unfold gw; split <;> omega
theorem bsd_b (hW : WW w) {c way : Int} (hc : 0 ≤ c ∧ c < w 0 0 * w 0 1) (hw : 0 ≤ way ∧ way ≤ 4) : bsd w c way = -1 ∨ (0 ≤ bsd w c way ∧ bsd w c way < w 0 0 * w 0 1) := by
  have hs := hW.1
  unfold WS at hs
  obtain ⟨b1, b2, b3, b4, e, b5⟩ := cell_b (W := w 0 0) (H := w 0 1) (by omega) (by omega) hc
  have hup : w 0 0 * (c / w 0 0 + 1) ≤ w 0 0 * w 0 1 := Int.mul_le_mul_of_nonneg_left (by omega) (by omega)
  rw [Int.mul_add, Int.mul_one] at hup
  have hm0 := Int.mul_nonneg (show 0 ≤ w 0 0 by omega) b3
  unfold bsd
  split
  · split
    · left; rfl
    · right
      have : w 0 0 * 1 ≤ w 0 0 * (c / w 0 0) := Int.mul_le_mul_of_nonneg_left (by omega) (by omega)
      omega
  · split
    · split
      · left; rfl
      · right; omega
    · split
      · split
        · left; rfl
        · right
          have : w 0 0 * (c / w 0 0 + 2) ≤ w 0 0 * w 0 1 := Int.mul_le_mul_of_nonneg_left (by omega) (by omega)
          rw [Int.mul_add] at this
          omega
      · split
        · split
          · left; rfl
          · right; omega
        · right; omega
theorem cAy_b (hW : WW w) {s i : Int} (hc : 0 ≤ n 1 s ∧ n 1 s < w 0 0 * w 0 1) (hi : 0 ≤ i ∧ i < 5) : cAy w n s i = -1 ∨ (0 ≤ cAy w n s i ∧ cAy w n s i < w 0 0 * w 0 1) := bsd_b hW hc (gw_b hi)
/-- what weighing the ways of one changes -/
def PWy (r : Int) : Nat → Int → Prop := fun b i => PN 51 b ∨ (b = 100 ∧ r ≤ i ∧ i < r + 5) ∨ ((b = 101 ∨ b = 102) ∧ r * 28 ≤ i ∧ i < (r + 5) * 28)
theorem Fm.toFr {P : Nat → Int → Prop} {Q : Nat → Prop} {a b : Mem} (f : Fm P a b) (h : ∀ x i, P x i → Q x) : Fr Q a b := fun x i q => f x i (fun p => q (h x i p))
theorem CX.wy {m m' : Mem} {r : Int} (h : CX m 51 T w g) (f : Fm (PWy r) m m') : CX m' 51 T w g := h.fr (f.toFr (Q := fun b => PN 51 b ∨ (100 ≤ b ∧ b ≤ 102)) (by intro x i p; unfold PWy PN at p; unfold PN; omega)) (by intro b q; have := h.1.1; unfold PN; omega)
theorem NX.wy {m m' : Mem} {r : Int} (h : NX m 69 n) (f : Fm (PWy r) m m') : NX m' 69 n := h.fr (f.toFr (Q := fun b => PN 51 b ∨ (100 ≤ b ∧ b ≤ 102)) (by intro x i p; unfold PWy PN at p; unfold PN; omega)) (by intro b x y; unfold PN; omega)
/-- one way i of row r is weighed from lo on -/
def WyR (m w : Mem) (s c r i lo : Int) : Prop := ∀ k, lo ≤ k → k < w 8 1 → m 101 ((r + i) * 28 + k) = fr w c (gM w (-1) 3 k) ∧ m 102 ((r + i) * 28 + k) = wov w s c k
theorem c_way46 (hW : WW w) (hG : GB w g) (hE : GE w g (gM w (-1))) {s r i c lo : Int} (hs : 0 ≤ s ∧ s < w 1 0) (hr : r = 0 ∨ r = 5) (hi : 0 ≤ i ∧ i < 5) (hc : c = -1 ∨ (0 ≤ c ∧ c < w 0 0 * w 0 1)) (hlo : 0 ≤ lo) {kk : Mem → Nat → Nat → Int → Int → Int → Int → Option Mem} : ∀ (d k : Nat) (j : Int) (m : Mem), lo ≤ j → (w 8 1 - j = d ∨ (w 8 1 < j ∧ d = 0)) → d < k → CX m 51 T w g → W102 m → (c ≠ -1 → ∀ q, lo ≤ q → q < j → q < w 8 1 → m 101 ((r + i) * 28 + q) = fr w c (gM w (-1) 3 q) ∧ m 102 ((r + i) * 28 + q) = wov w s c q) → ∃ m', G0_weighWays_46 kk k m 51 69 s r lo i c j = kk m' 51 69 s r lo (i + 1) ∧ Fm (fun b q => PN 51 b ∨ ((b = 101 ∨ b = 102) ∧ (r + i) * 28 ≤ q ∧ q < (r + i) * 28 + 28)) m m' ∧ W102 m' ∧ (c ≠ -1 → WyR m' w s c r i lo) := by
  have hw := hW.1
  unfold WS at hw
  have hg := hG.1 s hs.1 hs.2
  intro d
  induction d with
  | zero =>
    intro k j m a1 a2 a3 hc0 h102 h
    obtain ⟨k, rfl⟩ : ∃ q, k = q + 1 := ⟨k - 1, by omega⟩
    rw [G0_weighWays_46, hc0.2.2.1, Int.toNat_natCast, hc0.1.2.2 8 1 (by omega), if_pos (show w 8 1 ≤ j by omega), gd3_t (by omega)]
    refine ⟨m, ?_, Fm.rf, h102, fun z q p1 p2 => h z q p1 (by omega) p2⟩
    split <;> rfl
  | succ d ih =>
    intro k j m a1 a2 a3 hc0 h102 h
    obtain ⟨k, rfl⟩ : ∃ q, k = q + 1 := ⟨k - 1, by omega⟩
    by_cases z : c = -1
    · rw [G0_weighWays_46, if_pos z, gd3_t (by omega)]
      exact ⟨m, rfl, Fm.rf, h102, fun z' => absurd z z'⟩
    · have hcc : 0 ≤ c ∧ c < w 0 0 * w 0 1 := by rcases hc with q | q; exact absurd q z; exact q
      have hj : 0 ≤ j ∧ j < w 8 1 := by omega
      have hp := hG.2 j hj.1 hj.2
      have hwb := wov_b hW (s := s) hj hcc
      rw [G0_weighWays_46, if_neg z, hc0.2.2.1, Int.toNat_natCast, hc0.1.2.2 8 1 (by omega), if_neg (by omega), g_farOf hc0 hW hj hcc hp, bs1]
      simp only
      rw [gdx_t (by omega), wt_e, hE.2 j hj.1 hj.2]
      have f1 : Fm (fun b q => PN 51 b ∨ ((b = 101 ∨ b = 102) ∧ (r + i) * 28 ≤ q ∧ q < (r + i) * 28 + 28)) m (up m 101 ((r + i) * 28 + j) (fr w c (gM w (-1) 3 j))) := Fm.w1 (Or.inr ⟨Or.inl rfl, by omega, by omega⟩)
      have hc1 : CX (up m 101 ((r + i) * 28 + j) (fr w c (gM w (-1) 3 j))) 51 T w g := hc0.fr (Fr.up (P := fun b => b = 101) Fr.rf rfl) (by intro b q; have := hc0.1.1; show ¬ b = 101; omega)
      obtain ⟨m2, e2, f2⟩ := g_worth hc1 hW (x := s) (v := j) (c := c) (by omega) ⟨hg.1, hg.2.1⟩ hj hcc hp
      have ew : worthV w (g 1 s) (g 3 j) j c = wov w s c j := by unfold wov; rw [(hE.1 s hs.1 hs.2).1, hE.2 j hj.1 hj.2]
      rw [ew] at e2
      rw [e2, bs1, gdx_t (by omega), wt_e, gd3_t (by omega)]
      simp only
      have f3 : Fm (fun b q => PN 51 b ∨ ((b = 101 ∨ b = 102) ∧ (r + i) * 28 ≤ q ∧ q < (r + i) * 28 + 28)) m (up m2 102 ((r + i) * 28 + j) (wov w s c j)) := by
        have fa : Fm (fun b q => PN 51 b ∨ ((b = 101 ∨ b = 102) ∧ (r + i) * 28 ≤ q ∧ q < (r + i) * 28 + 28)) (up m 101 ((r + i) * 28 + j) (fr w c (gM w (-1) 3 j))) m2 := fun b q hq => f2 b q (fun y => hq (Or.inl y))
        exact (f1.tr fa).w (Or.inr ⟨Or.inr rfl, by omega, by omega⟩)
      have r101 : m2 101 = up m 101 ((r + i) * 28 + j) (fr w c (gM w (-1) 3 j)) 101 := funext fun q => f2 101 q (by unfold PN; omega)
      have r102 : m2 102 = m 102 := funext fun q => by rw [f2 102 q (by unfold PN; omega), up_a (by omega)]
      have w2 : W102 (up m2 102 ((r + i) * 28 + j) (wov w s c j)) := by
        intro q p1 p2
        by_cases zq : q = (r + i) * 28 + j
        · rw [zq, up_e]; exact hwb
        · rw [up_i zq, r102]; exact h102 q p1 p2
      have hc2 : CX (up m2 102 ((r + i) * 28 + j) (wov w s c j)) 51 T w g := (hc1.pn f2).fr (Fr.up (P := fun b => b = 102) Fr.rf rfl) (by intro b q; have := hc0.1.1; show ¬ b = 102; omega)
      obtain ⟨m', z1, z2, z3, z4⟩ := ih k (j + 1) (up m2 102 ((r + i) * 28 + j) (wov w s c j)) (by omega) (by omega) (by omega) hc2 w2 (fun _ q p1 p2 p3 => by
        rw [up_a (show (101 : Nat) ≠ 102 by omega), r101]
        by_cases zq : q = j
        · subst zq; rw [up_e, up_e]; exact ⟨rfl, rfl⟩
        · rw [up_i (show (r + i) * 28 + q ≠ (r + i) * 28 + j by omega), up_i (show (r + i) * 28 + q ≠ (r + i) * 28 + j by omega), r102]
          exact h z q p1 (by omega) p3)
      exact ⟨m', z1, f3.tr z2, z3, z4⟩
theorem c_way3 (hW : WW w) (hG : GB w g) (hE : GE w g (gM w (-1))) {s r lo : Int} (hs : 0 ≤ s ∧ s < w 1 0) (hr : r = 0 ∨ r = 5) (hcell : 0 ≤ n 1 s ∧ n 1 s < w 0 0 * w 0 1) (hlo : 0 ≤ lo) : ∀ (d k : Nat) (i : Int) (m : Mem), 0 ≤ i → 5 - i = d → d < k → CX m 51 T w g → NX m 69 n → W102 m → (∀ j, 0 ≤ j → j < i → m 100 (r + j) = cAy w n s j ∧ (cAy w n s j ≠ -1 → WyR m w s (cAy w n s j) r j lo)) → ∃ m', G0_weighWays_3 k m 51 69 s r lo i = some m' ∧ Fm (PWy r) m m' ∧ W102 m' ∧ ∀ j, 0 ≤ j → j < 5 → m' 100 (r + j) = cAy w n s j ∧ (cAy w n s j ≠ -1 → WyR m' w s (cAy w n s j) r j lo) := by
  have hw := hW.1
  unfold WS at hw
  intro d
  induction d with
  | zero =>
    intro k i m a1 a2 a3 hc hn h102 h
    obtain ⟨k, rfl⟩ : ∃ q, k = q + 1 := ⟨k - 1, by omega⟩
    rw [G0_weighWays_3, if_pos (by omega)]
    exact ⟨m, rfl, Fm.rf, h102, fun j p q => h j p (by omega)⟩
  | succ d ih =>
    intro k i m a1 a2 a3 hc hn h102 h
    obtain ⟨k, rfl⟩ : ∃ q, k = q + 1 := ⟨k - 1, by omega⟩
    have hT := hc.1.1
    have e70 : m (69 + 1) s = n 1 s := hn.2.2 1 s (by omega)
    rw [G0_weighWays_3, if_neg (by omega), gdx_t (by omega), gdx_t (by omega), hc.2.2.1, Int.toNat_natCast, e70, g_bsd hc.1 (by omega) (by omega) hcell, bs1, gdx_t (by omega), wt_e]
    simp only
    have ec : bsd w (n 1 s) (gw i) = cAy w n s i := rfl
    rw [ec]
    have f1 : Fm (PWy r) m (up m 100 (r + i) (cAy w n s i)) := Fm.w1 (Or.inr (Or.inl ⟨rfl, by omega, by omega⟩))
    obtain ⟨m2, e2, f2, w2, q2⟩ := c_way46 (T := T) hW hG hE (s := s) (r := r) (i := i) (c := cAy w n s i) (lo := lo) hs hr (by omega) (cAy_b hW hcell (by omega)) hlo (kk := fun m a1 a2 x3 x4 x5 x6 => G0_weighWays_3 k m a1 a2 x3 x4 x5 x6) (w 8 1 - lo).toNat 1024 lo (up m 100 (r + i) (cAy w n s i)) (by omega) (by omega) (by omega) (hc.wy f1) (fun q p1 p2 => by rw [up_a (by omega)]; exact h102 q p1 p2) (fun _ q p1 p2 => by omega)
    rw [e2]
    have f3 : Fm (PWy r) m m2 := f1.tr (f2.mono (fun b q z => by rcases z with z | z; exact Or.inl z; exact Or.inr (Or.inr ⟨z.1, by omega, by omega⟩)))
    obtain ⟨m', z1, z2, z3, z4⟩ := ih k (i + 1) m2 (by omega) (by omega) (by omega) (hc.wy f3) (hn.wy f3) w2 (fun j p q => by
      rw [f2 100 _ (by unfold PN; omega)]
      by_cases zj : j = i
      · subst zj; rw [up_e]; exact ⟨rfl, q2⟩
      · have := h j p (by omega)
        rw [up_i (show r + j ≠ r + i by omega)]
        refine ⟨this.1, fun zz k2 p1 p2 => ?_⟩
        have h2 := this.2 zz k2 p1 p2
        rw [f2 101 _ (by unfold PN; omega), f2 102 _ (by unfold PN; omega), up_a (by omega), up_a (by omega)]
        exact h2)
    exact ⟨m', z1, f3.tr z2, z3, z4⟩
/-- one pair of ways: who has what -/
theorem c_shr9 (hw : 0 ≤ w 8 1 ∧ w 8 1 ≤ 28) {i k lo x5 : Int} (hi : 0 ≤ i ∧ i < 5) (hk : 0 ≤ k ∧ k < 5) (hlo : 0 ≤ lo) (hx : x5 = 0 ∨ x5 = 1) {fO fT : Int → Int} : ∀ (d f : Nat) (j a b : Int) (m : Mem), lo ≤ j → (w 8 1 - j = d ∨ (w 8 1 < j ∧ d = 0)) → d < f → (0 ≤ a ∧ a ≤ 900 * j) → (0 ≤ b ∧ b ≤ 900 * j) → W102 m → ∃ A B, G0_sharePair_9 f m i k (w 8 1) x5 a b j = some (up (up m 103 (i * 5 + k) A) 104 (i * 5 + k) B) ∧ ((∀ q, lo ≤ q → q < w 8 1 → ((m 101 (i * 28 + q) < m 101 ((5 + k) * 28 + q) ∨ (m 101 (i * 28 + q) = m 101 ((5 + k) * 28 + q) ∧ x5 = 1)) → fO q = m 102 (i * 28 + q) ∧ fT q = 0) ∧ (¬ (m 101 (i * 28 + q) < m 101 ((5 + k) * 28 + q) ∨ (m 101 (i * 28 + q) = m 101 ((5 + k) * 28 + q) ∧ x5 = 1)) → fO q = 0 ∧ fT q = m 102 ((5 + k) * 28 + q))) → A = a + smd fO d j ∧ B = b + smd fT d j) := by
  intro d
  induction d with
  | zero =>
    intro f j a b m a1 a2 a3 a4 a5 h102
    obtain ⟨f, rfl⟩ : ∃ q, f = q + 1 := ⟨f - 1, by omega⟩
    rw [G0_sharePair_9, if_pos (by omega), gdx_t (by omega), wt_e, gdx_t (by omega), wt_e]
    exact ⟨a, b, rfl, fun _ => ⟨by show a = a + 0; omega, by show b = b + 0; omega⟩⟩
  | succ d ih =>
    intro f j a b m a1 a2 a3 a4 a5 h102
    obtain ⟨f, rfl⟩ : ∃ q, f = q + 1 := ⟨f - 1, by omega⟩
    have b1 := h102 (i * 28 + j) (by omega) (by omega)
    have b2 := h102 ((5 + k) * 28 + j) (by omega) (by omega)
    rw [G0_sharePair_9, if_neg (by omega)]
    unfold G0_sharePair_75 G0_sharePair_90
    simp only [gdx_t (show 0 ≤ i * 28 + j ∧ i * 28 + j < 280 by omega), gdx_t (show 0 ≤ (5 + k) * 28 + j ∧ (5 + k) * 28 + j < 280 by omega), gd3_t (show -2147483648 ≤ i * 28 + j ∧ i * 28 + j ≤ 2147483647 by omega), gd3_t (show -2147483648 ≤ (5 + k) * 28 + j ∧ (5 + k) * 28 + j ≤ 2147483647 by omega), gd3_t (show -2147483648 ≤ a + m 102 (i * 28 + j) ∧ a + m 102 (i * 28 + j) ≤ 2147483647 by omega), gd3_t (show -2147483648 ≤ b + m 102 ((5 + k) * 28 + j) ∧ b + m 102 ((5 + k) * 28 + j) ≤ 2147483647 by omega), gd3_t (show -2147483648 ≤ j + 1 ∧ j + 1 ≤ 2147483647 by omega)]
    obtain ⟨A1, B1, e1, q1⟩ := ih f (j + 1) (a + m 102 (i * 28 + j)) b m (by omega) (by omega) (by omega) (by omega) (by omega) h102
    obtain ⟨A2, B2, e2, q2⟩ := ih f (j + 1) a (b + m 102 ((5 + k) * 28 + j)) m (by omega) (by omega) (by omega) (by omega) (by omega) h102
    have one : (m 101 (i * 28 + j) < m 101 ((5 + k) * 28 + j) ∨ (m 101 (i * 28 + j) = m 101 ((5 + k) * 28 + j) ∧ x5 = 1)) → ∃ A B, G0_sharePair_9 f m i k (w 8 1) x5 (a + m 102 (i * 28 + j)) b (j + 1) = some (up (up m 103 (i * 5 + k) A) 104 (i * 5 + k) B) ∧ ((∀ q, lo ≤ q → q < w 8 1 → ((m 101 (i * 28 + q) < m 101 ((5 + k) * 28 + q) ∨ (m 101 (i * 28 + q) = m 101 ((5 + k) * 28 + q) ∧ x5 = 1)) → fO q = m 102 (i * 28 + q) ∧ fT q = 0) ∧ (¬ (m 101 (i * 28 + q) < m 101 ((5 + k) * 28 + q) ∨ (m 101 (i * 28 + q) = m 101 ((5 + k) * 28 + q) ∧ x5 = 1)) → fO q = 0 ∧ fT q = m 102 ((5 + k) * 28 + q))) → A = a + smd fO (d + 1) j ∧ B = b + smd fT (d + 1) j) := fun z => ⟨A1, B1, e1, fun h => by
      have h0 := (h j (by omega) (by omega)).1 z
      have := q1 h
      rw [smd_s, smd_s, h0.1, h0.2]
      omega⟩
    have two : ¬ (m 101 (i * 28 + j) < m 101 ((5 + k) * 28 + j) ∨ (m 101 (i * 28 + j) = m 101 ((5 + k) * 28 + j) ∧ x5 = 1)) → ∃ A B, G0_sharePair_9 f m i k (w 8 1) x5 a (b + m 102 ((5 + k) * 28 + j)) (j + 1) = some (up (up m 103 (i * 5 + k) A) 104 (i * 5 + k) B) ∧ ((∀ q, lo ≤ q → q < w 8 1 → ((m 101 (i * 28 + q) < m 101 ((5 + k) * 28 + q) ∨ (m 101 (i * 28 + q) = m 101 ((5 + k) * 28 + q) ∧ x5 = 1)) → fO q = m 102 (i * 28 + q) ∧ fT q = 0) ∧ (¬ (m 101 (i * 28 + q) < m 101 ((5 + k) * 28 + q) ∨ (m 101 (i * 28 + q) = m 101 ((5 + k) * 28 + q) ∧ x5 = 1)) → fO q = 0 ∧ fT q = m 102 ((5 + k) * 28 + q))) → A = a + smd fO (d + 1) j ∧ B = b + smd fT (d + 1) j) := fun z => ⟨A2, B2, e2, fun h => by
      have h0 := (h j (by omega) (by omega)).2 z
      have := q2 h
      rw [smd_s, smd_s, h0.1, h0.2]
      omega⟩
    by_cases c1 : m 101 (i * 28 + j) < m 101 ((5 + k) * 28 + j)
    · rw [if_pos c1]; exact one (Or.inl c1)
    · rw [if_neg c1]
      by_cases c2 : m 101 (i * 28 + j) = m 101 ((5 + k) * 28 + j)
      · rw [if_pos c2]
        by_cases c3 : x5 = 0
        · rw [if_pos c3]; exact two (fun z => by omega)
        · rw [if_neg c3]; exact one (Or.inr ⟨c2, by omega⟩)
      · rw [if_neg c2]; exact two (fun z => by omega)
/-- all ways of both are weighed -/
def GmR (m w n : Mem) (s t lo : Int) : Prop := ∀ j, 0 ≤ j → j < 5 → (m 100 (0 + j) = cAy w n s j ∧ (cAy w n s j ≠ -1 → WyR m w s (cAy w n s j) 0 j lo)) ∧ (m 100 (5 + j) = cAy w n t j ∧ (cAy w n t j ≠ -1 → WyR m w t (cAy w n t j) 5 j lo))
/-- the gains of pairs before (i, k) are laid -/
def GnR (m w n : Mem) (s t lo p : Int) : Prop := ∀ i k, 0 ≤ i → i < 5 → 0 ≤ k → k < 5 → i * 5 + k < p → cAy w n s i ≠ -1 → cAy w n t k ≠ -1 → m 103 (i * 5 + k) = sO w s (cAy w n s i) (cAy w n t k) (decide (s < t)) lo ∧ m 104 (i * 5 + k) = sT w t (cAy w n s i) (cAy w n t k) (decide (s < t)) lo
def P34 : Nat → Prop := fun b => b = 103 ∨ b = 104
theorem GmR.fr {m m' : Mem} {s t lo : Int} (h : GmR m w n s t lo) (f : Fr P34 m m') : GmR m' w n s t lo := by
  have e0 : m' 100 = m 100 := f.row (by unfold P34; omega)
  have e1 : m' 101 = m 101 := f.row (by unfold P34; omega)
  have e2 : m' 102 = m 102 := f.row (by unfold P34; omega)
  unfold GmR WyR at *
  rw [e0, e1, e2]; exact h
theorem c_share (hw : 0 ≤ w 8 1 ∧ w 8 1 ≤ 28) {s t lo i k : Int} (hi : 0 ≤ i ∧ i < 5) (hk : 0 ≤ k ∧ k < 5) (hlo : 0 ≤ lo ∧ lo ≤ w 8 1) {m : Mem} (h : GmR m w n s t lo) (h102 : W102 m) (hG : GnR m w n s t lo (i * 5 + k)) {x5 : Int} (hx : x5 = if s < t then 1 else 0) : ∃ m', G0_sharePair m i k lo (w 8 1) x5 = some m' ∧ Fr P34 m m' ∧ GnR m' w n s t lo (i * 5 + k + 1) := by
  have hx01 : x5 = 0 ∨ x5 = 1 := by rw [hx]; split <;> omega
  obtain ⟨A, B, e, q⟩ := c_shr9 (w := w) hw hi hk hlo.1 hx01 (fO := gnO w s (cAy w n s i) (cAy w n t k) (decide (s < t))) (fT := gnT w t (cAy w n s i) (cAy w n t k) (decide (s < t))) (w 8 1 - lo).toNat 1024 lo 0 0 m (by omega) (by omega) (by omega) (by omega) (by omega) h102
  unfold G0_sharePair G0_sharePair_0
  rw [e]
  refine ⟨_, rfl, (Fr.up Fr.rf (Or.inl rfl)).up (Or.inr rfl), ?_⟩
  intro i' k' a1 a2 a3 a4 a5 v1 v2
  by_cases z : i' * 5 + k' = i * 5 + k
  · have ei : i' = i := by omega
    have ek : k' = k := by omega
    subst ei ek
    rw [up_a (show (103 : Nat) ≠ 104 by omega), up_e, up_e]
    have hA := (h i' a1 a2).1.2 v1
    have hB := (h k' a3 a4).2.2 v2
    have := q (fun v p1 p2 => by
      have h1 := hA v p1 p2
      have h2 := hB v p1 p2
      rw [show (0 + i') * 28 + v = i' * 28 + v by omega] at h1
      rw [h1.1, h1.2, h2.1, h2.2]
      have hcnd : cnd w (cAy w n s i') (cAy w n t k') (decide (s < t)) v = true ↔ (fr w (cAy w n s i') (gM w (-1) 3 v) < fr w (cAy w n t k') (gM w (-1) 3 v) ∨ (fr w (cAy w n s i') (gM w (-1) 3 v) = fr w (cAy w n t k') (gM w (-1) 3 v) ∧ x5 = 1)) := by
        unfold cnd
        rw [Bool.or_eq_true, Bool.and_eq_true, decide_eq_true_iff, decide_eq_true_iff, decide_eq_true_iff]
        have : s < t ↔ x5 = 1 := by rw [hx]; split <;> omega
        rw [this]
      unfold gnO gnT
      refine ⟨fun y => ?_, fun y => ?_⟩
      · rw [if_pos (hcnd.mpr y), if_pos (hcnd.mpr y)]; exact ⟨rfl, rfl⟩
      · rw [if_neg (fun y' => y (hcnd.mp y')), if_neg (fun y' => y (hcnd.mp y'))]; exact ⟨rfl, rfl⟩)
    rw [Int.zero_add, Int.zero_add] at this
    exact this
  · rw [up_a (show (103 : Nat) ≠ 104 by omega), up_i z, up_i z, up_a (show (104 : Nat) ≠ 103 by omega)]
    exact hG i' k' a1 a2 a3 a4 (by omega) v1 v2
theorem c_pg49 (hW : WW w) {s t lo : Int} (hlo : 0 ≤ lo ∧ lo ≤ w 8 1) {i : Int} (hi : 0 ≤ i ∧ i < 5) {kk : Mem → Nat → Int → Int → Int → Int → Option Mem} : ∀ (d f : Nat) (k : Int) (m : Mem), 0 ≤ k → 5 - k = d → d < f → CX m 51 T w g → W102 m → GmR m w n s t lo → GnR m w n s t lo (i * 5 + k) → ∃ m', G0_playGame_49 kk f m 51 s t lo i k = kk m' 51 s t lo (i + 1) ∧ Fr P34 m m' ∧ GnR m' w n s t lo (i * 5 + 5) := by
  have hw := hW.1
  unfold WS at hw
  intro d
  induction d with
  | zero =>
    intro f k m a1 a2 a3 hc h102 hM hG
    obtain ⟨f, rfl⟩ : ∃ q, f = q + 1 := ⟨f - 1, by omega⟩
    rw [G0_playGame_49, if_pos (by omega), gd3_t (by omega)]
    have : k = 5 := by omega
    subst this
    exact ⟨m, rfl, Fr.rf, hG⟩
  | succ d ih =>
    intro f k m a1 a2 a3 hc h102 hM hG
    obtain ⟨f, rfl⟩ : ∃ q, f = q + 1 := ⟨f - 1, by omega⟩
    rw [G0_playGame_49, if_neg (by omega), hc.2.2.1, Int.toNat_natCast, hc.1.2.2 8 1 (by omega)]
    unfold G0_playGame_83
    have step : ∀ x5 : Int, x5 = (if s < t then 1 else 0) → ∃ m', ((G0_sharePair m i k lo (w 8 1) x5).bind fun o1 => gd3 (k + 1) (G0_playGame_49 kk f o1 51 s t lo i (k + 1))) = kk m' 51 s t lo (i + 1) ∧ Fr P34 m m' ∧ GnR m' w n s t lo (i * 5 + 5) := by
      intro x5 hx
      obtain ⟨m1, e1, f1, g1⟩ := c_share (by omega) hi (k := k) (by omega) hlo hM h102 hG hx
      rw [e1, bs1, gd3_t (by omega)]
      have hT := hc.1.1
      obtain ⟨m', z1, z2, z3⟩ := ih f (k + 1) m1 (by omega) (by omega) (by omega) (hc.fr f1 (by intro b q; unfold P34; omega)) (fun q p1 p2 => by rw [f1 102 q (by unfold P34; omega)]; exact h102 q p1 p2) (hM.fr f1) (by rw [show i * 5 + (k + 1) = i * 5 + k + 1 by omega]; exact g1)
      exact ⟨m', z1, f1.tr z2, z3⟩
    by_cases c : t ≤ s
    · rw [if_pos c]; exact step 0 (by rw [if_neg (by omega)])
    · rw [if_neg c]; exact step 1 (by rw [if_pos (by omega)])
theorem c_pg40 (hW : WW w) {s t lo : Int} (hlo : 0 ≤ lo ∧ lo ≤ w 8 1) : ∀ (d f : Nat) (i : Int) (m : Mem), 0 ≤ i → 5 - i = d → d < f → CX m 51 T w g → W102 m → GmR m w n s t lo → GnR m w n s t lo (i * 5) → ∃ m', G0_playGame_40 f m 51 s t lo i = G0_findRests m' ∧ Fr P34 m m' ∧ GmR m' w n s t lo ∧ GnR m' w n s t lo 25 := by
  intro d
  induction d with
  | zero =>
    intro f i m a1 a2 a3 hc h102 hM hG
    obtain ⟨f, rfl⟩ : ∃ q, f = q + 1 := ⟨f - 1, by omega⟩
    rw [G0_playGame_40, if_pos (by omega)]
    have : i = 5 := by omega
    subst this
    refine ⟨m, ?_, Fr.rf, hM, hG⟩
    cases G0_findRests m <;> rfl
  | succ d ih =>
    intro f i m a1 a2 a3 hc h102 hM hG
    obtain ⟨f, rfl⟩ : ∃ q, f = q + 1 := ⟨f - 1, by omega⟩
    rw [G0_playGame_40, if_neg (by omega)]
    obtain ⟨m1, e1, f1, g1⟩ := c_pg49 (T := T) (g := g) (n := n) hW (s := s) (t := t) hlo (i := i) (by omega) (kk := fun m a1 x3 x4 x5 x6 => G0_playGame_40 f m a1 x3 x4 x5 x6) 5 1024 0 m (by omega) (by omega) (by omega) hc h102 hM (by rw [show i * 5 + 0 = i * 5 by omega]; exact hG)
    rw [e1]
    have hT := hc.1.1
    obtain ⟨m', z1, z2, z3, z4⟩ := ih f (i + 1) m1 (by omega) (by omega) (by omega) (hc.fr f1 (by intro b q; unfold P34; omega)) (fun q p1 p2 => by rw [f1 102 q (by unfold P34; omega)]; exact h102 q p1 p2) (hM.fr f1) (by rw [show (i + 1) * 5 = i * 5 + 5 by omega]; exact g1)
    exact ⟨m', z1, f1.tr z2, z3, z4⟩
/-- neither gains by another way -/
def okR (w n : Mem) (s t lo : Int) (i k : Int) : Bool := decide (cAy w n s i ≠ -1) && (decide (cAy w n t k ≠ -1) && (List.range 5).all fun j => (decide (cAy w n s j = -1) || decide (sO w s (cAy w n s j) (cAy w n t k) (decide (s < t)) lo ≤ sO w s (cAy w n s i) (cAy w n t k) (decide (s < t)) lo)) && (decide (cAy w n t j = -1) || decide (sT w t (cAy w n s i) (cAy w n t j) (decide (s < t)) lo ≤ sT w t (cAy w n s i) (cAy w n t k) (decide (s < t)) lo)))
/-- the test of one way j -/
def okJ (w n : Mem) (s t lo i k j : Int) : Prop := (cAy w n s j = -1 ∨ sO w s (cAy w n s j) (cAy w n t k) (decide (s < t)) lo ≤ sO w s (cAy w n s i) (cAy w n t k) (decide (s < t)) lo) ∧ (cAy w n t j = -1 ∨ sT w t (cAy w n s i) (cAy w n t j) (decide (s < t)) lo ≤ sT w t (cAy w n s i) (cAy w n t k) (decide (s < t)) lo)
theorem okR_iff {s t lo i k : Int} : okR w n s t lo i k = true ↔ (cAy w n s i ≠ -1 ∧ cAy w n t k ≠ -1 ∧ ∀ j, 0 ≤ j → j < 5 → okJ w n s t lo i k j) := by
  unfold okR okJ
  simp only [Bool.and_eq_true, Bool.or_eq_true, decide_eq_true_iff, List.all_eq_true, List.mem_range]
  constructor
  · rintro ⟨h1, h2, h3⟩
    refine ⟨h1, h2, fun j p q => ?_⟩
    have := h3 j.toNat (by omega)
    rwa [show ((j.toNat : Nat) : Int) = j by omega] at this
  · rintro ⟨h1, h2, h3⟩
    exact ⟨h1, h2, fun j hj => h3 j (by omega) (by omega)⟩
theorem c_isR26 {s t lo i k : Int} (hi : 0 ≤ i ∧ i < 5) (hk : 0 ≤ k ∧ k < 5) (hM : GmR m w n s t lo) (hG : GnR m w n s t lo 25) (vi : cAy w n s i ≠ -1) (vk : cAy w n t k ≠ -1) : ∀ (d f : Nat) (j : Int), 0 ≤ j → 5 - j = d → d < f → ∃ x, G0_isRest_26 f m i k j = some (x, m) ∧ ((x = 1 ∧ ∀ q, j ≤ q → q < 5 → okJ w n s t lo i k q) ∨ (x = 0 ∧ ∃ q, j ≤ q ∧ q < 5 ∧ ¬ okJ w n s t lo i k q)) := by
  intro d
  induction d with
  | zero =>
    intro f j a1 a2 a3
    obtain ⟨f, rfl⟩ : ∃ q, f = q + 1 := ⟨f - 1, by omega⟩
    rw [G0_isRest_26, if_pos (by omega)]
    exact ⟨1, rfl, Or.inl ⟨rfl, fun q p1 p2 => by omega⟩⟩
  | succ d ih =>
    intro f j a1 a2 a3
    obtain ⟨f, rfl⟩ : ∃ q, f = q + 1 := ⟨f - 1, by omega⟩
    have eS := (hM j a1 (by omega)).1.1
    have eT := (hM j a1 (by omega)).2.1
    rw [Int.zero_add] at eS
    obtain ⟨x, ex, hx⟩ := ih f (j + 1) (by omega) (by omega) (by omega)
    have g0 := hG i k hi.1 hi.2 hk.1 hk.2 (by omega) vi vk
    -- the second test, then the rest
    have second : (cAy w n s j = -1 ∨ sO w s (cAy w n s j) (cAy w n t k) (decide (s < t)) lo ≤ sO w s (cAy w n s i) (cAy w n t k) (decide (s < t)) lo) → ∃ x, G0_isRest_66 (fun m x1 x2 x3 => G0_isRest_26 f m x1 x2 x3) m i k j = some (x, m) ∧ ((x = 1 ∧ ∀ q, j ≤ q → q < 5 → okJ w n s t lo i k q) ∨ (x = 0 ∧ ∃ q, j ≤ q ∧ q < 5 ∧ ¬ okJ w n s t lo i k q)) := by
      intro h1
      have cont : okJ w n s t lo i k j → ((x = 1 ∧ ∀ q, j ≤ q → q < 5 → okJ w n s t lo i k q) ∨ (x = 0 ∧ ∃ q, j ≤ q ∧ q < 5 ∧ ¬ okJ w n s t lo i k q)) := fun hj => by
        rcases hx with ⟨y1, y2⟩ | ⟨y1, q, y2, y3, y4⟩
        · refine Or.inl ⟨y1, fun q p1 p2 => ?_⟩
          by_cases z : q = j
          · rw [z]; exact hj
          · exact y2 q (by omega) p2
        · exact Or.inr ⟨y1, q, by omega, y3, y4⟩
      unfold G0_isRest_66
      rw [gdx_t (by omega), eT, gdx_t (by omega), gdx_t (by omega), gd3_t (by omega)]
      dsimp only
      rw [ex]
      by_cases c1 : cAy w n t j = -1
      · rw [if_pos c1]
        exact ⟨x, rfl, cont ⟨h1, Or.inl c1⟩⟩
      · have g2 := hG i j hi.1 hi.2 a1 (by omega) (by omega) vi c1
        rw [if_neg c1, g2.2, g0.2]
        by_cases c2 : sT w t (cAy w n s i) (cAy w n t j) (decide (s < t)) lo ≤ sT w t (cAy w n s i) (cAy w n t k) (decide (s < t)) lo
        · rw [if_pos c2]
          exact ⟨x, rfl, cont ⟨h1, Or.inr c2⟩⟩
        · rw [if_neg c2]
          exact ⟨0, rfl, Or.inr ⟨rfl, j, by omega, by omega, fun y => by rcases y.2 with z | z; exact c1 z; exact c2 z⟩⟩
    rw [G0_isRest_26, if_neg (by omega), gdx_t (by omega), eS, gdx_t (by omega), gdx_t (by omega)]
    by_cases c1 : cAy w n s j = -1
    · rw [if_pos c1]; exact second (Or.inl c1)
    · have g1 := hG j k a1 (by omega) hk.1 hk.2 (by omega) c1 vk
      rw [if_neg c1, g1.1, g0.1]
      by_cases c2 : sO w s (cAy w n s j) (cAy w n t k) (decide (s < t)) lo ≤ sO w s (cAy w n s i) (cAy w n t k) (decide (s < t)) lo
      · rw [if_pos c2]; exact second (Or.inr c2)
      · rw [if_neg c2]
        exact ⟨0, rfl, Or.inr ⟨rfl, j, by omega, by omega, fun y => by rcases y.1 with z | z; exact c1 z; exact c2 z⟩⟩
theorem c_rst {s t lo i k : Int} (hi : 0 ≤ i ∧ i < 5) (hk : 0 ≤ k ∧ k < 5) (hM : GmR m w n s t lo) (hG : GnR m w n s t lo 25) : G0_isRest m i k = some ((if okR w n s t lo i k = true then 1 else 0), m) := by
  have eS := (hM i hi.1 hi.2).1.1
  have eT := (hM k hk.1 hk.2).2.1
  rw [Int.zero_add] at eS
  unfold G0_isRest G0_isRest_0
  rw [gdx_t (by omega), eS, gdx_t (by omega), eT]
  by_cases c1 : cAy w n s i = -1
  · rw [if_pos c1, if_neg (fun q => (okR_iff.mp q).1 c1)]
  · rw [if_neg c1]
    by_cases c2 : cAy w n t k = -1
    · rw [if_pos c2, if_neg (fun q => (okR_iff.mp q).2.1 c2)]
    · rw [if_neg c2]
      obtain ⟨x, e, h⟩ := c_isR26 hi hk hM hG c1 c2 5 1024 0 (by omega) (by omega) (by omega)
      rw [e]
      congr 2
      rcases h with ⟨y1, y2⟩ | ⟨y1, q, y2, y3, y4⟩
      · rw [if_pos (okR_iff.mpr ⟨c1, c2, fun j p q => y2 j p q⟩), y1]
      · rw [if_neg (fun z => y4 ((okR_iff.mp z).2.2 q y2 y3)), y1]
/-- the rests from pair p on -/
def rsL (ok : Int → Int → Bool) : Nat → Int → List Int
  | 0, _ => []
  | d + 1, p => if ok (p / 5) (p % 5) = true then (10 * gw (p / 5) + gw (p % 5)) :: rsL ok d (p + 1) else rsL ok d (p + 1)
theorem rsL_s (ok : Int → Int → Bool) (d : Nat) (p : Int) : rsL ok (d + 1) p = if ok (p / 5) (p % 5) = true then (10 * gw (p / 5) + gw (p % 5)) :: rsL ok d (p + 1) else rsL ok d (p + 1) := rfl
def P56 : Nat → Prop := fun b => b = 99 ∨ b = 105
theorem GmR.f56 {m m' : Mem} {s t lo : Int} (h : GmR m w n s t lo) (f : Fr P56 m m') : GmR m' w n s t lo := by
  have e0 : m' 100 = m 100 := f.row (by unfold P56; omega)
  have e1 : m' 101 = m 101 := f.row (by unfold P56; omega)
  have e2 : m' 102 = m 102 := f.row (by unfold P56; omega)
  unfold GmR WyR at *
  rw [e0, e1, e2]; exact h
theorem GnR.f56 {m m' : Mem} {s t lo p : Int} (h : GnR m w n s t lo p) (f : Fr P56 m m') : GnR m' w n s t lo p := by
  have e0 : m' 103 = m 103 := f.row (by unfold P56; omega)
  have e1 : m' 104 = m 104 := f.row (by unfold P56; omega)
  unfold GnR at *
  rw [e0, e1]; exact h
theorem rsL_app (ok : Int → Int → Bool) : ∀ (a b : Nat) (p : Int), rsL ok (a + b) p = rsL ok a p ++ rsL ok b (p + a) := by
  intro a
  induction a with
  | zero => intro b p; rw [Nat.zero_add, show p + ((0 : Nat) : Int) = p by omega]; rfl
  | succ a ih =>
    intro b p
    rw [show a + 1 + b = (a + b) + 1 by omega, rsL_s, rsL_s, ih b (p + 1), show p + 1 + (a : Int) = p + ((a + 1 : Nat) : Int) by omega]
    split <;> rfl
theorem c_fr14 {s t lo i : Int} (hi : 0 ≤ i ∧ i < 5) {kk : Mem → Int → Option Mem} : ∀ (d f : Nat) (k : Int) (l : List Int) (m : Mem), 0 ≤ k → 5 - k = d → d < f → GmR m w n s t lo → GnR m w n s t lo 25 → m 99 6 = l.length → (l.length : Int) ≤ i * 5 + k → frt (m 105) 0 l → ∃ m', G0_findRests_14 kk f m i k = kk m' (i + 1) ∧ Fr P56 m m' ∧ m' 99 6 = (l ++ rsL (okR w n s t lo) d (i * 5 + k)).length ∧ frt (m' 105) 0 (l ++ rsL (okR w n s t lo) d (i * 5 + k)) := by
  intro d
  induction d with
  | zero =>
    intro f k l m a1 a2 a3 hM hG h6 hl h105
    obtain ⟨f, rfl⟩ : ∃ q, f = q + 1 := ⟨f - 1, by omega⟩
    rw [G0_findRests_14, if_pos (by omega), gd3_t (by omega)]
    have e : rsL (okR w n s t lo) 0 (i * 5 + k) = [] := rfl
    rw [e, List.append_nil]
    exact ⟨m, rfl, Fr.rf, h6, h105⟩
  | succ d ih =>
    intro f k l m a1 a2 a3 hM hG h6 hl h105
    obtain ⟨f, rfl⟩ : ∃ q, f = q + 1 := ⟨f - 1, by omega⟩
    have ed : (i * 5 + k) / 5 = i := by omega
    have em : (i * 5 + k) % 5 = k := by omega
    have b1 := gw_b (i := i) hi
    have b2 := gw_b (i := k) (by omega)
    rw [G0_findRests_14, if_neg (by omega), c_rst hi (by omega) hM hG, bs1, rsL_s, ed, em]
    by_cases c : okR w n s t lo i k = true
    · simp only [if_pos c, if_neg i10]
      rw [gdx_t hi, gdx_t (by omega), h6, gdx_t (by omega), gd3_t (by omega), wt_e, up_a (by omega), h6, gd3_t (by omega), wt_e, gd3_t (by omega)]
      have f1 : Fr P56 m (up (up m 105 l.length (10 * gw i + gw k)) 99 6 (l.length + 1)) := (Fr.up Fr.rf (Or.inr rfl)).up (Or.inl rfl)
      obtain ⟨m', z1, z2, z3, z4⟩ := ih f (k + 1) (l ++ [10 * gw i + gw k]) (up (up m 105 l.length (10 * gw i + gw k)) 99 6 (l.length + 1)) (by omega) (by omega) (by omega) (hM.f56 f1) (hG.f56 f1) (by rw [up_e]; simp) (by simp; omega) (by
        rw [up_b (by omega)]
        refine frt_app (frt_up h105 (fun j p q => up_i (by omega))) ⟨?_, trivial⟩
        rw [Int.zero_add]; exact up_e)
      rw [List.append_assoc, show i * 5 + (k + 1) = i * 5 + k + 1 by omega] at z3 z4
      exact ⟨m', z1, f1.tr z2, z3, z4⟩
    · simp only [if_neg c, if_true]
      rw [gd3_t (by omega)]
      have := ih f (k + 1) l m (by omega) (by omega) (by omega) hM hG h6 (by omega) h105
      rwa [show i * 5 + (k + 1) = i * 5 + k + 1 by omega] at this
theorem c_fr7 {s t lo : Int} : ∀ (d f : Nat) (i : Int) (l : List Int) (m : Mem), 0 ≤ i → 5 - i = d → d < f → GmR m w n s t lo → GnR m w n s t lo 25 → m 99 6 = l.length → (l.length : Int) ≤ i * 5 → frt (m 105) 0 l → ∃ m', G0_findRests_7 f m i = some m' ∧ Fr P56 m m' ∧ m' 99 6 = (l ++ rsL (okR w n s t lo) (5 * d) (i * 5)).length ∧ frt (m' 105) 0 (l ++ rsL (okR w n s t lo) (5 * d) (i * 5)) := by
  intro d
  induction d with
  | zero =>
    intro f i l m a1 a2 a3 hM hG h6 hl h105
    obtain ⟨f, rfl⟩ : ∃ q, f = q + 1 := ⟨f - 1, by omega⟩
    rw [G0_findRests_7, if_pos (by omega)]
    have e : rsL (okR w n s t lo) (5 * 0) (i * 5) = [] := rfl
    rw [e, List.append_nil]
    exact ⟨m, rfl, Fr.rf, h6, h105⟩
  | succ d ih =>
    intro f i l m a1 a2 a3 hM hG h6 hl h105
    obtain ⟨f, rfl⟩ : ∃ q, f = q + 1 := ⟨f - 1, by omega⟩
    rw [G0_findRests_7, if_neg (by omega)]
    obtain ⟨m1, e1, f1, k1, k2⟩ := c_fr14 (s := s) (t := t) (lo := lo) (i := i) (by omega) (kk := fun m x1 => G0_findRests_7 f m x1) 5 1024 0 l m (by omega) (by omega) (by omega) hM hG h6 (by omega) h105
    rw [e1]
    rw [show i * 5 + (0 : Int) = i * 5 by omega] at k1 k2
    have hlen : ∀ (e : Nat) (p : Int), (rsL (okR w n s t lo) e p).length ≤ e := by
      intro e
      induction e with
      | zero => intro p; exact Nat.le_refl 0
      | succ e ihe => intro p; rw [rsL_s]; split <;> have := ihe (p + 1) <;> simp <;> omega
    have hl5 := hlen 5 (i * 5)
    obtain ⟨m', z1, z2, z3, z4⟩ := ih f (i + 1) (l ++ rsL (okR w n s t lo) 5 (i * 5)) m1 (by omega) (by omega) (by omega) (hM.f56 f1) (hG.f56 f1) k1 (by rw [List.length_append]; omega) k2
    have ea : rsL (okR w n s t lo) (5 * (d + 1)) (i * 5) = rsL (okR w n s t lo) 5 (i * 5) ++ rsL (okR w n s t lo) (5 * d) ((i + 1) * 5) := by
      rw [show 5 * (d + 1) = 5 + 5 * d by omega, rsL_app, show i * 5 + ((5 : Nat) : Int) = (i + 1) * 5 by omega]
    rw [List.append_assoc, ← ea] at z3 z4
    exact ⟨m', z1, f1.tr z2, z3, z4⟩
theorem c_game (t2 : m 0 3 = (T : Int)) (hc : CX m 51 T w g) (hn : NX m 69 n) (hW : WW w) (hG : GB w g) (hE : GE w g (gM w (-1))) (h102 : W102 m) {s t : Int} (hs : 0 ≤ s ∧ s < w 1 0) (ht : 0 ≤ t ∧ t < w 1 0) (hcs : 0 ≤ n 1 s ∧ n 1 s < w 0 0 * w 0 1) (hct : 0 ≤ n 1 t ∧ n 1 t < w 0 0 * w 0 1) : ∃ m', G0_playGame m 51 69 s t = some m' ∧ Fr PQ m m' ∧ W102 m' ∧ m' 99 6 = (rsL (okR w n s t (ff w (n 0 0))) 25 0).length ∧ frt (m' 105) 0 (rsL (okR w n s t (ff w (n 0 0))) 25 0) := by
  have hw := hW.1
  unfold WS at hw
  have hT := hc.1.1
  obtain ⟨f1, f2, _, _⟩ := ff_spec (w := w) (by omega) (n 0 0)
  have e69 : m 69 0 = n 0 0 := hn.2.1 0
  unfold G0_playGame G0_playGame_0 G0_weighWays G0_weighWays_0
  rw [hc.2.2.1, Int.toNat_natCast, e69, g_ff hc.1 (by omega), bs1]
  simp only
  obtain ⟨m1, e1, g1, w1, q1⟩ := c_way3 (T := T) (n := n) hW hG hE (r := 0) (lo := ff w (n 0 0)) hs (Or.inl rfl) hcs f1 5 1024 0 m (by omega) (by omega) (by omega) hc hn h102 (fun j p q => by omega)
  rw [e1, bs1]
  obtain ⟨m2, e2, g2, w2, q2⟩ := c_way3 (T := T) (n := n) hW hG hE (r := 5) (lo := ff w (n 0 0)) ht (Or.inr rfl) hct f1 5 1024 0 m1 (by omega) (by omega) (by omega) (hc.wy g1) (hn.wy g1) w1 (fun j p q => by omega)
  rw [e2, bs1]
  have hM : GmR m2 w n s t (ff w (n 0 0)) := fun j p q => by
    refine ⟨?_, q2 j p q⟩
    have := q1 j p q
    rw [g2 100 _ (by unfold PWy PN; omega)]
    refine ⟨this.1, fun z k p1 p2 => ?_⟩
    have h2 := this.2 z k p1 p2
    rw [g2 101 _ (by unfold PWy PN; omega), g2 102 _ (by unfold PWy PN; omega)]
    exact h2
  obtain ⟨m3, e3, g3, M3, G3⟩ := c_pg40 (T := T) (g := g) (n := n) hW (s := s) (t := t) ⟨f1, f2⟩ 5 1024 0 m2 (by omega) (by omega) (by omega) ((hc.wy g1).wy g2) w2 hM (fun i k a1 a2 a3 a4 a5 => by omega)
  rw [e3]
  unfold G0_findRests G0_findRests_0
  rw [wt_e]
  have g4 : Fr P56 m3 (up m3 99 6 0) := Fr.up Fr.rf (Or.inl rfl)
  obtain ⟨m', z1, z2, z3, z4⟩ := c_fr7 (w := w) (n := n) (s := s) (t := t) (lo := ff w (n 0 0)) 5 1024 0 [] (up m3 99 6 0) (by omega) (by omega) (by omega) (M3.f56 g4) (G3.f56 g4) (by rw [up_e]; rfl) (by simp) trivial
  have q1 : Fr PQ m m1 := g1.toFr (by intro b i p; unfold PWy PN at p; unfold PQ; omega)
  have q2 : Fr PQ m1 m2 := g2.toFr (by intro b i p; unfold PWy PN at p; unfold PQ; omega)
  have q3 : Fr PQ m2 m3 := g3.mono (by intro b p; unfold P34 at p; unfold PQ; omega)
  have q4 : Fr PQ m3 m' := (g4.tr z2).mono (by intro b p; unfold P56 at p; unfold PQ; omega)
  refine ⟨m', z1, ((q1.tr q2).tr q3).tr q4, fun i p q => ?_, z3, z4⟩
  rw [z2 102 i (by unfold P56; omega), up_a (by omega), g3 102 i (by unfold P34; omega)]
  exact w2 i p q
end Q10
