def sO (w : Mem) (s a b : Int) (o : Bool) (lo : Int) : Int := smd (gnO w s a b o) (w 8 1 - lo).toNat lo
def sT (w : Mem) (t a b : Int) (o : Bool) (lo : Int) : Int := smd (gnT w t a b o) (w 8 1 - lo).toNat lo
section Q10
variable {m v w g n : Mem} {T : Nat}
theorem gw_b {i : Int} (h : 0 ≤ i ∧ i < 5) : 0 ≤ gw i ∧ gw i ≤ 4 := by unfold gw; split <;> omega
theorem bsd_b (hW : WW w) {c way : Int} (hc : 0 ≤ c ∧ c < w 0 0 * w 0 1) (hw : 0 ≤ way ∧ way ≤ 4) : bsd w c way = -1 ∨ (0 ≤ bsd w c way ∧ bsd w c way < w 0 0 * w 0 1) := by
  have hs := hW.1
  unfold WS at hs
  obtain ⟨b1, b2, b3, b4, e, b5⟩ := cell_b (W := w 0 0) (H := w 0 1) (by first | decide | omega) (by first | decide | omega) hc
  have hup : w 0 0 * (c / w 0 0 + 1) ≤ w 0 0 * w 0 1 := Int.mul_le_mul_of_nonneg_left (by first | decide | omega) (by first | decide | omega)
  rw [Int.mul_add, Int.mul_one] at hup
  have hm0 := Int.mul_nonneg (show 0 ≤ w 0 0 by first | decide | omega) b3
  unfold bsd
  split
  · split
    · left; rfl
    · right
      have : w 0 0 * 1 ≤ w 0 0 * (c / w 0 0) := Int.mul_le_mul_of_nonneg_left (by first | decide | omega) (by first | decide | omega)
      omega
  · split
    · split
      · left; rfl
      · right; omega
    · split
      · split
        · left; rfl
        · right
          have : w 0 0 * (c / w 0 0 + 2) ≤ w 0 0 * w 0 1 := Int.mul_le_mul_of_nonneg_left (by first | decide | omega) (by first | decide | omega)
          rw [Int.mul_add] at this
          omega
      · split
        · split
          · left; rfl
          · right; omega
        · right; omega
theorem cAy_b (hW : WW w) {s i : Int} (hc : 0 ≤ n 1 s ∧ n 1 s < w 0 0 * w 0 1) (hi : 0 ≤ i ∧ i < 5) : cAy w n s i = -1 ∨ (0 ≤ cAy w n s i ∧ cAy w n s i < w 0 0 * w 0 1) := bsd_b hW hc (gw_b hi)
/-- what weighing the ways of one changes -/
def PWy (r : Int) : Nat → Int → Prop := fun b i => PN 51 b ∨ (b = 100 ∧ r ≤ i ∧ i < r + 5) ∨ ((b = 101 ∨ b = 102) ∧ r * 28 ≤ i ∧ i < (r + 5) * 28)
theorem Fm.toFr {P : Nat → Int → Prop} {Q : Nat → Prop} {a b : Mem} (f : Fm P a b) (h : ∀ x i, P x i → Q x) : Fr Q a b := fun x i q => f x i (fun p => q (h x i p))
theorem CX.wy {m m' : Mem} {r : Int} (h : CX m 51 T w g) (f : Fm (PWy r) m m') : CX m' 51 T w g := h.fr (f.toFr (Q := fun b => PN 51 b ∨ (100 ≤ b ∧ b ≤ 102)) (by intro x i p; unfold PWy PN at p; unfold PN; first | decide | omega)) (by intro b q; have := h.1.1; unfold PN; first | decide | omega)
theorem NX.wy {m m' : Mem} {r : Int} (h : NX m 69 n) (f : Fm (PWy r) m m') : NX m' 69 n := h.fr (f.toFr (Q := fun b => PN 51 b ∨ (100 ≤ b ∧ b ≤ 102)) (by intro x i p; unfold PWy PN at p; unfold PN; first | decide | omega)) (by intro b x y; unfold PN; first | decide | omega)
/-- one way i of row r is weighed from lo on -/
def WyR (m w : Mem) (s c r i lo : Int) : Prop := ∀ k, lo ≤ k → k < w 8 1 → m 101 ((r + i) * 28 + k) = fr w c (gM w (-1) 3 k) ∧ m 102 ((r + i) * 28 + k) = wov w s c k
theorem c_way46 (hW : WW w) (hG : GB w g) (hE : GE w g (gM w (-1))) {s r i c lo : Int} (hs : 0 ≤ s ∧ s < w 1 0) (hr : r = 0 ∨ r = 5) (hi : 0 ≤ i ∧ i < 5) (hc : c = -1 ∨ (0 ≤ c ∧ c < w 0 0 * w 0 1)) (hlo : 0 ≤ lo) {kk : Mem → Nat → Nat → Int → Int → Int → Int → Option Mem} : ∀ (d k : Nat) (j : Int) (m : Mem), lo ≤ j → (w 8 1 - j = d ∨ (w 8 1 < j ∧ d = 0)) → d < k → CX m 51 T w g → W102 m → (c ≠ -1 → ∀ q, lo ≤ q → q < j → q < w 8 1 → m 101 ((r + i) * 28 + q) = fr w c (gM w (-1) 3 q) ∧ m 102 ((r + i) * 28 + q) = wov w s c q) → ∃ m', G0_weighWays_46 kk k m 51 69 s r lo i c j = kk m' 51 69 s r lo (i + 1) ∧ Fm (fun b q => PN 51 b ∨ ((b = 101 ∨ b = 102) ∧ (r + i) * 28 ≤ q ∧ q < (r + i) * 28 + 28)) m m' ∧ W102 m' ∧ (c ≠ -1 → WyR m' w s c r i lo) := by
  have hw := hW.1
  unfold WS at hw
  have hg := hG.1 s hs.1 hs.2
  intro d
  induction d with
  | zero =>
    intro k j m a1 a2 a3 hc0 h102 h
    obtain ⟨k, rfl⟩ : ∃ q, k = q + 1 := ⟨k - 1, by first | decide | omega⟩
    rw [G0_weighWays_46, hc0.2.2.1, Int.toNat_natCast, hc0.1.2.2 8 1 (by first | decide | omega), if_pos (show w 8 1 ≤ j by first | decide | omega), gd3_t (by first | decide | omega)]
    refine ⟨m, ?_, Fm.rf, h102, fun z q p1 p2 => h z q p1 (by first | decide | omega) p2⟩
    split <;> rfl
  | succ d ih =>
    intro k j m a1 a2 a3 hc0 h102 h
    obtain ⟨k, rfl⟩ : ∃ q, k = q + 1 := ⟨k - 1, by first | decide | omega⟩
    by_cases z : c = -1
    · rw [G0_weighWays_46, if_pos z, gd3_t (by first | decide | omega)]
      exact ⟨m, rfl, Fm.rf, h102, fun z' => absurd z z'⟩
    · have hcc : 0 ≤ c ∧ c < w 0 0 * w 0 1 := by rcases hc with q | q; exact absurd q z; exact q
      have hj : 0 ≤ j ∧ j < w 8 1 := by omega
      have hp := hG.2 j hj.1 hj.2
      have hwb := wov_b hW (s := s) hj hcc
      rw [G0_weighWays_46, if_neg z, hc0.2.2.1, Int.toNat_natCast, hc0.1.2.2 8 1 (by first | decide | omega), if_neg (by first | decide | omega), g_farOf hc0 hW hj hcc hp, bs1]
      simp only
      rw [gdx_t (by first | decide | omega), wt_e, hE.2 j hj.1 hj.2]
      have f1 : Fm (fun b q => PN 51 b ∨ ((b = 101 ∨ b = 102) ∧ (r + i) * 28 ≤ q ∧ q < (r + i) * 28 + 28)) m (up m 101 ((r + i) * 28 + j) (fr w c (gM w (-1) 3 j))) := Fm.w1 (Or.inr ⟨Or.inl rfl, by first | decide | omega, by first | decide | omega⟩)
      have hc1 : CX (up m 101 ((r + i) * 28 + j) (fr w c (gM w (-1) 3 j))) 51 T w g := hc0.fr (Fr.up (P := fun b => b = 101) Fr.rf rfl) (by intro b q; have := hc0.1.1; show ¬ b = 101; first | decide | omega)
      obtain ⟨m2, e2, f2⟩ := g_worth hc1 hW (x := s) (v := j) (c := c) (by first | decide | omega) ⟨hg.1, hg.2.1⟩ hj hcc hp
      have ew : worthV w (g 1 s) (g 3 j) j c = wov w s c j := by unfold wov; rw [(hE.1 s hs.1 hs.2).1, hE.2 j hj.1 hj.2]
      rw [ew] at e2
      rw [e2, bs1, gdx_t (by first | decide | omega), wt_e, gd3_t (by first | decide | omega)]
      simp only
      have f3 : Fm (fun b q => PN 51 b ∨ ((b = 101 ∨ b = 102) ∧ (r + i) * 28 ≤ q ∧ q < (r + i) * 28 + 28)) m (up m2 102 ((r + i) * 28 + j) (wov w s c j)) := by
        have fa : Fm (fun b q => PN 51 b ∨ ((b = 101 ∨ b = 102) ∧ (r + i) * 28 ≤ q ∧ q < (r + i) * 28 + 28)) (up m 101 ((r + i) * 28 + j) (fr w c (gM w (-1) 3 j))) m2 := fun b q hq => f2 b q (fun y => hq (Or.inl y))
        exact (f1.tr fa).w (Or.inr ⟨Or.inr rfl, by first | decide | omega, by first | decide | omega⟩)
      have r101 : m2 101 = up m 101 ((r + i) * 28 + j) (fr w c (gM w (-1) 3 j)) 101 := funext fun q => f2 101 q (by unfold PN; first | decide | omega)
      have r102 : m2 102 = m 102 := funext fun q => by rw [f2 102 q (by unfold PN; first | decide | omega), up_a (by first | decide | omega)]
      have w2 : W102 (up m2 102 ((r + i) * 28 + j) (wov w s c j)) := by
        intro q p1 p2
        by_cases zq : q = (r + i) * 28 + j
        · rw [zq, up_e]; exact hwb
        · rw [up_i zq, r102]; exact h102 q p1 p2
      have hc2 : CX (up m2 102 ((r + i) * 28 + j) (wov w s c j)) 51 T w g := (hc1.pn f2).fr (Fr.up (P := fun b => b = 102) Fr.rf rfl) (by intro b q; have := hc0.1.1; show ¬ b = 102; first | decide | omega)
      obtain ⟨m', z1, z2, z3, z4⟩ := ih k (j + 1) (up m2 102 ((r + i) * 28 + j) (wov w s c j)) (by first | decide | omega) (by first | decide | omega) (by first | decide | omega) hc2 w2 (fun _ q p1 p2 p3 => by
        rw [up_a (show (101 : Nat) ≠ 102 by first | decide | omega), r101]
        by_cases zq : q = j
        · subst zq; rw [up_e, up_e]; exact ⟨rfl, rfl⟩
        · rw [up_i (show (r + i) * 28 + q ≠ (r + i) * 28 + j by first | decide | omega), up_i (show (r + i) * 28 + q ≠ (r + i) * 28 + j by first | decide | omega), r102]
          exact h z q p1 (by first | decide | omega) p3)
      exact ⟨m', z1, f3.tr z2, z3, z4⟩
theorem c_way3 (hW : WW w) (hG : GB w g) (hE : GE w g (gM w (-1))) {s r lo : Int} (hs : 0 ≤ s ∧ s < w 1 0) (hr : r = 0 ∨ r = 5) (hcell : 0 ≤ n 1 s ∧ n 1 s < w 0 0 * w 0 1) (hlo : 0 ≤ lo) : ∀ (d k : Nat) (i : Int) (m : Mem), 0 ≤ i → 5 - i = d → d < k → CX m 51 T w g → NX m 69 n → W102 m → (∀ j, 0 ≤ j → j < i → m 100 (r + j) = cAy w n s j ∧ (cAy w n s j ≠ -1 → WyR m w s (cAy w n s j) r j lo)) → ∃ m', G0_weighWays_3 k m 51 69 s r lo i = some m' ∧ Fm (PWy r) m m' ∧ W102 m' ∧ ∀ j, 0 ≤ j → j < 5 → m' 100 (r + j) = cAy w n s j ∧ (cAy w n s j ≠ -1 → WyR m' w s (cAy w n s j) r j lo) := by
  have hw := hW.1
  unfold WS at hw
  intro d
  induction d with
  | zero =>
    intro k i m a1 a2 a3 hc hn h102 h
    obtain ⟨k, rfl⟩ : ∃ q, k = q + 1 := ⟨k - 1, by first | decide | omega⟩
    rw [G0_weighWays_3, if_pos (by first | decide | omega)]
    exact ⟨m, rfl, Fm.rf, h102, fun j p q => h j p (by first | decide | omega)⟩
  | succ d ih =>
    intro k i m a1 a2 a3 hc hn h102 h
    obtain ⟨k, rfl⟩ : ∃ q, k = q + 1 := ⟨k - 1, by first | decide | omega⟩
    have hT := hc.1.1
    have e70 : m (69 + 1) s = n 1 s := hn.2.2 1 s (by first | decide | omega)
    rw [G0_weighWays_3, if_neg (by first | decide | omega), gdx_t (by first | decide | omega), gdx_t (by first | decide | omega), hc.2.2.1, Int.toNat_natCast, e70, g_bsd hc.1 (by first | decide | omega) (by first | decide | omega) hcell, bs1, gdx_t (by first | decide | omega), wt_e]
    simp only
    have ec : bsd w (n 1 s) (gw i) = cAy w n s i := rfl
    rw [ec]
    have f1 : Fm (PWy r) m (up m 100 (r + i) (cAy w n s i)) := Fm.w1 (Or.inr (Or.inl ⟨rfl, by first | decide | omega, by first | decide | omega⟩))
    obtain ⟨m2, e2, f2, w2, q2⟩ := c_way46 (T := T) hW hG hE (s := s) (r := r) (i := i) (c := cAy w n s i) (lo := lo) hs hr (by first | decide | omega) (cAy_b hW hcell (by first | decide | omega)) hlo (kk := fun m a1 a2 x3 x4 x5 x6 => G0_weighWays_3 k m a1 a2 x3 x4 x5 x6) (w 8 1 - lo).toNat 1024 lo (up m 100 (r + i) (cAy w n s i)) (by first | decide | omega) (by first | decide | omega) (by first | decide | omega) (hc.wy f1) (fun q p1 p2 => by rw [up_a (by first | decide | omega)]; exact h102 q p1 p2) (fun _ q p1 p2 => by first | decide | omega)
    rw [e2]
    have f3 : Fm (PWy r) m m2 := f1.tr (f2.mono (fun b q z => by rcases z with z | z; exact Or.inl z; exact Or.inr (Or.inr ⟨z.1, by first | decide | omega, by first | decide | omega⟩)))
    obtain ⟨m', z1, z2, z3, z4⟩ := ih k (i + 1) m2 (by first | decide | omega) (by first | decide | omega) (by first | decide | omega) (hc.wy f3) (hn.wy f3) w2 (fun j p q => by
      rw [f2 100 _ (by unfold PN; first | decide | omega)]
      by_cases zj : j = i
      · subst zj; rw [up_e]; exact ⟨rfl, q2⟩
      · have := h j p (by first | decide | omega)
        rw [up_i (show r + j ≠ r + i by first | decide | omega)]
        refine ⟨this.1, fun zz k2 p1 p2 => ?_⟩
        have h2 := this.2 zz k2 p1 p2
        rw [f2 101 _ (by unfold PN; first | decide | omega), f2 102 _ (by unfold PN; first | decide | omega), up_a (by first | decide | omega), up_a (by first | decide | omega)]
        exact h2)
    exact ⟨m', z1, f3.tr z2, z3, z4⟩
/-- one pair of ways: who has what -/
theorem c_shr9 (hw : 0 ≤ w 8 1 ∧ w 8 1 ≤ 28) {i k lo x5 : Int} (hi : 0 ≤ i ∧ i < 5) (hk : 0 ≤ k ∧ k < 5) (hlo : 0 ≤ lo) (hx : x5 = 0 ∨ x5 = 1) {fO fT : Int → Int} : ∀ (d f : Nat) (j a b : Int) (m : Mem), lo ≤ j → (w 8 1 - j = d ∨ (w 8 1 < j ∧ d = 0)) → d < f → (0 ≤ a ∧ a ≤ 900 * j) → (0 ≤ b ∧ b ≤ 900 * j) → W102 m → ∃ A B, G0_sharePair_9 f m i k (w 8 1) x5 a b j = some (up (up m 103 (i * 5 + k) A) 104 (i * 5 + k) B) ∧ ((∀ q, lo ≤ q → q < w 8 1 → ((m 101 (i * 28 + q) < m 101 ((5 + k) * 28 + q) ∨ (m 101 (i * 28 + q) = m 101 ((5 + k) * 28 + q) ∧ x5 = 1)) → fO q = m 102 (i * 28 + q) ∧ fT q = 0) ∧ (¬ (m 101 (i * 28 + q) < m 101 ((5 + k) * 28 + q) ∨ (m 101 (i * 28 + q) = m 101 ((5 + k) * 28 + q) ∧ x5 = 1)) → fO q = 0 ∧ fT q = m 102 ((5 + k) * 28 + q))) → A = a + smd fO d j ∧ B = b + smd fT d j) := by
  intro d
  induction d with
  | zero =>
    intro f j a b m a1 a2 a3 a4 a5 h102
    obtain ⟨f, rfl⟩ : ∃ q, f = q + 1 := ⟨f - 1, by first | decide | omega⟩
    rw [G0_sharePair_9, if_pos (by first | decide | omega), gdx_t (by first | decide | omega), wt_e, gdx_t (by first | decide | omega), wt_e]
    exact ⟨a, b, rfl, fun _ => ⟨by show a = a + 0; first | decide | omega, by show b = b + 0; first | decide | omega⟩⟩
  | succ d ih =>
    intro f j a b m a1 a2 a3 a4 a5 h102
    obtain ⟨f, rfl⟩ : ∃ q, f = q + 1 := ⟨f - 1, by first | decide | omega⟩
    have b1 := h102 (i * 28 + j) (by first | decide | omega) (by first | decide | omega)
    have b2 := h102 ((5 + k) * 28 + j) (by first | decide | omega) (by first | decide | omega)
    rw [G0_sharePair_9, if_neg (by first | decide | omega)]
    unfold G0_sharePair_75 G0_sharePair_90
    simp only [gdx_t (show 0 ≤ i * 28 + j ∧ i * 28 + j < 280 by first | decide | omega), gdx_t (show 0 ≤ (5 + k) * 28 + j ∧ (5 + k) * 28 + j < 280 by first | decide | omega), gd3_t (show -2147483648 ≤ i * 28 + j ∧ i * 28 + j ≤ 2147483647 by first | decide | omega), gd3_t (show -2147483648 ≤ (5 + k) * 28 + j ∧ (5 + k) * 28 + j ≤ 2147483647 by first | decide | omega), gd3_t (show -2147483648 ≤ a + m 102 (i * 28 + j) ∧ a + m 102 (i * 28 + j) ≤ 2147483647 by first | decide | omega), gd3_t (show -2147483648 ≤ b + m 102 ((5 + k) * 28 + j) ∧ b + m 102 ((5 + k) * 28 + j) ≤ 2147483647 by first | decide | omega), gd3_t (show -2147483648 ≤ j + 1 ∧ j + 1 ≤ 2147483647 by first | decide | omega)]
    obtain ⟨A1, B1, e1, q1⟩ := ih f (j + 1) (a + m 102 (i * 28 + j)) b m (by first | decide | omega) (by first | decide | omega) (by first | decide | omega) (by first | decide | omega) (by first | decide | omega) h102
    obtain ⟨A2, B2, e2, q2⟩ := ih f (j + 1) a (b + m 102 ((5 + k) * 28 + j)) m (by first | decide | omega) (by first | decide | omega) (by first | decide | omega) (by first | decide | omega) (by first | decide | omega) h102
    have one : (m 101 (i * 28 + j) < m 101 ((5 + k) * 28 + j) ∨ (m 101 (i * 28 + j) = m 101 ((5 + k) * 28 + j) ∧ x5 = 1)) → ∃ A B, G0_sharePair_9 f m i k (w 8 1) x5 (a + m 102 (i * 28 + j)) b (j + 1) = some (up (up m 103 (i * 5 + k) A) 104 (i * 5 + k) B) ∧ ((∀ q, lo ≤ q → q < w 8 1 → ((m 101 (i * 28 + q) < m 101 ((5 + k) * 28 + q) ∨ (m 101 (i * 28 + q) = m 101 ((5 + k) * 28 + q) ∧ x5 = 1)) → fO q = m 102 (i * 28 + q) ∧ fT q = 0) ∧ (¬ (m 101 (i * 28 + q) < m 101 ((5 + k) * 28 + q) ∨ (m 101 (i * 28 + q) = m 101 ((5 + k) * 28 + q) ∧ x5 = 1)) → fO q = 0 ∧ fT q = m 102 ((5 + k) * 28 + q))) → A = a + smd fO (d + 1) j ∧ B = b + smd fT (d + 1) j) := fun z => ⟨A1, B1, e1, fun h => by
      have h0 := (h j (by first | decide | omega) (by first | decide | omega)).1 z
      have := q1 h
      rw [smd_s, smd_s, h0.1, h0.2]
      omega⟩
    have two : ¬ (m 101 (i * 28 + j) < m 101 ((5 + k) * 28 + j) ∨ (m 101 (i * 28 + j) = m 101 ((5 + k) * 28 + j) ∧ x5 = 1)) → ∃ A B, G0_sharePair_9 f m i k (w 8 1) x5 a (b + m 102 ((5 + k) * 28 + j)) (j + 1) = some (up (up m 103 (i * 5 + k) A) 104 (i * 5 + k) B) ∧ ((∀ q, lo ≤ q → q < w 8 1 → ((m 101 (i * 28 + q) < m 101 ((5 + k) * 28 + q) ∨ (m 101 (i * 28 + q) = m 101 ((5 + k) * 28 + q) ∧ x5 = 1)) → fO q = m 102 (i * 28 + q) ∧ fT q = 0) ∧ (¬ (m 101 (i * 28 + q) < m 101 ((5 + k) * 28 + q) ∨ (m 101 (i * 28 + q) = m 101 ((5 + k) * 28 + q) ∧ x5 = 1)) → fO q = 0 ∧ fT q = m 102 ((5 + k) * 28 + q))) → A = a + smd fO (d + 1) j ∧ B = b + smd fT (d + 1) j) := fun z => ⟨A2, B2, e2, fun h => by
      have h0 := (h j (by first | decide | omega) (by first | decide | omega)).2 z
      have := q2 h
      rw [smd_s, smd_s, h0.1, h0.2]
      omega⟩
    by_cases c1 : m 101 (i * 28 + j) < m 101 ((5 + k) * 28 + j)
    · rw [if_pos c1]; exact one (Or.inl c1)
    · rw [if_neg c1]
      by_cases c2 : m 101 (i * 28 + j) = m 101 ((5 + k) * 28 + j)
      · rw [if_pos c2]
        by_cases c3 : x5 = 0
        · rw [if_pos c3]; exact two (fun z => by first | decide | omega)
        · rw [if_neg c3]; exact one (Or.inr ⟨c2, by first | decide | omega⟩)
      · rw [if_neg c2]; exact two (fun z => by first | decide | omega)
/-- all ways of both are weighed -/
def GmR (m w n : Mem) (s t lo : Int) : Prop := ∀ j, 0 ≤ j → j < 5 → (m 100 (0 + j) = cAy w n s j ∧ (cAy w n s j ≠ -1 → WyR m w s (cAy w n s j) 0 j lo)) ∧ (m 100 (5 + j) = cAy w n t j ∧ (cAy w n t j ≠ -1 → WyR m w t (cAy w n t j) 5 j lo))
/-- the gains of pairs before (i, k) are laid -/
def GnR (m w n : Mem) (s t lo p : Int) : Prop := ∀ i k, 0 ≤ i → i < 5 → 0 ≤ k → k < 5 → i * 5 + k < p → cAy w n s i ≠ -1 → cAy w n t k ≠ -1 → m 103 (i * 5 + k) = sO w s (cAy w n s i) (cAy w n t k) (decide (s < t)) lo ∧ m 104 (i * 5 + k) = sT w t (cAy w n s i) (cAy w n t k) (decide (s < t)) lo
def P34 : Nat → Prop := fun b => b = 103 ∨ b = 104
theorem GmR.fr {m m' : Mem} {s t lo : Int} (h : GmR m w n s t lo) (f : Fr P34 m m') : GmR m' w n s t lo := by
  have e0 : m' 100 = m 100 := f.row (by unfold P34; first | decide | omega)
  have e1 : m' 101 = m 101 := f.row (by unfold P34; first | decide | omega)
  have e2 : m' 102 = m 102 := f.row (by unfold P34; first | decide | omega)
  unfold GmR WyR at *
  rw [e0, e1, e2]; exact h
theorem c_share (hw : 0 ≤ w 8 1 ∧ w 8 1 ≤ 28) {s t lo i k : Int} (hi : 0 ≤ i ∧ i < 5) (hk : 0 ≤ k ∧ k < 5) (hlo : 0 ≤ lo ∧ lo ≤ w 8 1) {m : Mem} (h : GmR m w n s t lo) (h102 : W102 m) (hG : GnR m w n s t lo (i * 5 + k)) {x5 : Int} (hx : x5 = if s < t then 1 else 0) : ∃ m', G0_sharePair m i k lo (w 8 1) x5 = some m' ∧ Fr P34 m m' ∧ GnR m' w n s t lo (i * 5 + k + 1) := by
  have hx01 : x5 = 0 ∨ x5 = 1 := by rw [hx]; split <;> omega
  obtain ⟨A, B, e, q⟩ := c_shr9 (w := w) hw hi hk hlo.1 hx01 (fO := gnO w s (cAy w n s i) (cAy w n t k) (decide (s < t))) (fT := gnT w t (cAy w n s i) (cAy w n t k) (decide (s < t))) (w 8 1 - lo).toNat 1024 lo 0 0 m (by first | decide | omega) (by first | decide | omega) (by first | decide | omega) (by first | decide | omega) (by first | decide | omega) h102
  unfold G0_sharePair G0_sharePair_0
  rw [e]
  refine ⟨_, rfl, (Fr.up Fr.rf (Or.inl rfl)).up (Or.inr rfl), ?_⟩
  intro i' k' a1 a2 a3 a4 a5 v1 v2
  by_cases z : i' * 5 + k' = i * 5 + k
  · have ei : i' = i := by omega
    have ek : k' = k := by omega
    subst ei ek
    rw [up_a (show (103 : Nat) ≠ 104 by first | decide | omega), up_e, up_e]
    have hA := (h i' a1 a2).1.2 v1
    have hB := (h k' a3 a4).2.2 v2
    have := q (fun v p1 p2 => by
      have h1 := hA v p1 p2
      have h2 := hB v p1 p2
      rw [show (0 + i') * 28 + v = i' * 28 + v by first | decide | omega] at h1
      rw [h1.1, h1.2, h2.1, h2.2]
      have hcnd : cnd w (cAy w n s i') (cAy w n t k') (decide (s < t)) v = true ↔ (fr w (cAy w n s i') (gM w (-1) 3 v) < fr w (cAy w n t k') (gM w (-1) 3 v) ∨ (fr w (cAy w n s i') (gM w (-1) 3 v) = fr w (cAy w n t k') (gM w (-1) 3 v) ∧ x5 = 1)) := by
        unfold cnd
        rw [Bool.or_eq_true, Bool.and_eq_true, decide_eq_true_iff, decide_eq_true_iff, decide_eq_true_iff]
        have : s < t ↔ x5 = 1 := by rw [hx]; split <;> omega
        rw [this]
      unfold gnO gnT
      refine ⟨fun y => ?_, fun y => ?_⟩
      · rw [if_pos (hcnd.mpr y), if_pos (hcnd.mpr y)]; exact ⟨rfl, rfl⟩
      · rw [if_neg (fun y' => y (hcnd.mp y')), if_neg (fun y' => y (hcnd.mp y'))]; exact ⟨rfl, rfl⟩)
    rw [Int.zero_add, Int.zero_add] at this
    exact this
  · rw [up_a (show (103 : Nat) ≠ 104 by first | decide | omega), up_i z, up_i z, up_a (show (104 : Nat) ≠ 103 by first | decide | omega)]
    exact hG i' k' a1 a2 a3 a4 (by first | decide | omega) v1 v2
end Q10
