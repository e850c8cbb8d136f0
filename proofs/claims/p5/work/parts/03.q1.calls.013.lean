section Q10
variable {m v w g n : Mem} {T : Nat}
theorem c_pg49 (hW : WW w) {s t lo : Int} (hlo : 0 ≤ lo ∧ lo ≤ w 8 1) {i : Int} (hi : 0 ≤ i ∧ i < 5) {kk : Mem → Nat → Int → Int → Int → Int → Option Mem} : ∀ (d f : Nat) (k : Int) (m : Mem), 0 ≤ k → 5 - k = d → d < f → CX m 51 T w g → W102 m → GmR m w n s t lo → GnR m w n s t lo (i * 5 + k) → ∃ m', G0_playGame_49 kk f m 51 s t lo i k = kk m' 51 s t lo (i + 1) ∧ Fr P34 m m' ∧ GnR m' w n s t lo (i * 5 + 5) := by
  have hw := hW.1
  unfold WS at hw
  intro d
  induction d with
  | zero =>
    intro f k m a1 a2 a3 hc h102 hM hG
    obtain ⟨f, rfl⟩ : ∃ q, f = q + 1 := ⟨f - 1, by first | decide | omega⟩
    rw [G0_playGame_49, if_pos (by first | decide | omega), gd3_t (by first | decide | omega)]
    have : k = 5 := by omega
    subst this
    exact ⟨m, rfl, Fr.rf, hG⟩
  | succ d ih =>
    intro f k m a1 a2 a3 hc h102 hM hG
    obtain ⟨f, rfl⟩ : ∃ q, f = q + 1 := ⟨f - 1, by first | decide | omega⟩
    rw [G0_playGame_49, if_neg (by first | decide | omega), hc.2.2.1, Int.toNat_natCast, hc.1.2.2 8 1 (by first | decide | omega)]
    unfold G0_playGame_83
    have step : ∀ x5 : Int, x5 = (if s < t then 1 else 0) → ∃ m', ((G0_sharePair m i k lo (w 8 1) x5).bind fun o1 => gd3 (k + 1) (G0_playGame_49 kk f o1 51 s t lo i (k + 1))) = kk m' 51 s t lo (i + 1) ∧ Fr P34 m m' ∧ GnR m' w n s t lo (i * 5 + 5) := by
      intro x5 hx
      obtain ⟨m1, e1, f1, g1⟩ := c_share (by first | decide | omega) hi (k := k) (by first | decide | omega) hlo hM h102 hG hx
      rw [e1, bs1, gd3_t (by first | decide | omega)]
      have hT := hc.1.1
      obtain ⟨m', z1, z2, z3⟩ := ih f (k + 1) m1 (by first | decide | omega) (by first | decide | omega) (by first | decide | omega) (hc.fr f1 (by intro b q; unfold P34; first | decide | omega)) (fun q p1 p2 => by rw [f1 102 q (by unfold P34; first | decide | omega)]; exact h102 q p1 p2) (hM.fr f1) (by rw [show i * 5 + (k + 1) = i * 5 + k + 1 by first | decide | omega]; exact g1)
      exact ⟨m', z1, f1.tr z2, z3⟩
    by_cases c : t ≤ s
    · rw [if_pos c]; exact step 0 (by rw [if_neg (by first | decide | omega)])
    · rw [if_neg c]; exact step 1 (by rw [if_pos (by first | decide | omega)])
theorem c_pg40 (hW : WW w) {s t lo : Int} (hlo : 0 ≤ lo ∧ lo ≤ w 8 1) : ∀ (d f : Nat) (i : Int) (m : Mem), 0 ≤ i → 5 - i = d → d < f → CX m 51 T w g → W102 m → GmR m w n s t lo → GnR m w n s t lo (i * 5) → ∃ m', G0_playGame_40 f m 51 s t lo i = G0_findRests m' ∧ Fr P34 m m' ∧ GmR m' w n s t lo ∧ GnR m' w n s t lo 25 := by
  intro d
  induction d with
  | zero =>
    intro f i m a1 a2 a3 hc h102 hM hG
    obtain ⟨f, rfl⟩ : ∃ q, f = q + 1 := ⟨f - 1, by first | decide | omega⟩
    rw [G0_playGame_40, if_pos (by first | decide | omega)]
    have : i = 5 := by omega
    subst this
    refine ⟨m, ?_, Fr.rf, hM, hG⟩
    cases G0_findRests m <;> rfl
  | succ d ih =>
    intro f i m a1 a2 a3 hc h102 hM hG
    obtain ⟨f, rfl⟩ : ∃ q, f = q + 1 := ⟨f - 1, by first | decide | omega⟩
    rw [G0_playGame_40, if_neg (by first | decide | omega)]
    obtain ⟨m1, e1, f1, g1⟩ := c_pg49 (T := T) (g := g) (n := n) hW (s := s) (t := t) hlo (i := i) (by first | decide | omega) (kk := fun m a1 x3 x4 x5 x6 => G0_playGame_40 f m a1 x3 x4 x5 x6) 5 1024 0 m (by first | decide | omega) (by first | decide | omega) (by first | decide | omega) hc h102 hM (by rw [show i * 5 + 0 = i * 5 by first | decide | omega]; exact hG)
    rw [e1]
    have hT := hc.1.1
    obtain ⟨m', z1, z2, z3, z4⟩ := ih f (i + 1) m1 (by first | decide | omega) (by first | decide | omega) (by first | decide | omega) (hc.fr f1 (by intro b q; unfold P34; first | decide | omega)) (fun q p1 p2 => by rw [f1 102 q (by unfold P34; first | decide | omega)]; exact h102 q p1 p2) (hM.fr f1) (by rw [show (i + 1) * 5 = i * 5 + 5 by first | decide | omega]; exact g1)
    exact ⟨m', z1, f1.tr z2, z3, z4⟩
/-- neither gains by another way -/
def okR (w n : Mem) (s t lo : Int) (i k : Int) : Bool := decide (cAy w n s i ≠ -1) && (decide (cAy w n t k ≠ -1) && (List.range 5).all fun j => (decide (cAy w n s j = -1) || decide (sO w s (cAy w n s j) (cAy w n t k) (decide (s < t)) lo ≤ sO w s (cAy w n s i) (cAy w n t k) (decide (s < t)) lo)) && (decide (cAy w n t j = -1) || decide (sT w t (cAy w n s i) (cAy w n t j) (decide (s < t)) lo ≤ sT w t (cAy w n s i) (cAy w n t k) (decide (s < t)) lo)))
/-- the test of one way j -/
def okJ (w n : Mem) (s t lo i k j : Int) : Prop := (cAy w n s j = -1 ∨ sO w s (cAy w n s j) (cAy w n t k) (decide (s < t)) lo ≤ sO w s (cAy w n s i) (cAy w n t k) (decide (s < t)) lo) ∧ (cAy w n t j = -1 ∨ sT w t (cAy w n s i) (cAy w n t j) (decide (s < t)) lo ≤ sT w t (cAy w n s i) (cAy w n t k) (decide (s < t)) lo)
theorem okR_iff {s t lo i k : Int} : okR w n s t lo i k = true ↔ (cAy w n s i ≠ -1 ∧ cAy w n t k ≠ -1 ∧ ∀ j, 0 ≤ j → j < 5 → okJ w n s t lo i k j) := by
  unfold okR okJ
  simp only [Bool.and_eq_true, Bool.or_eq_true, decide_eq_true_iff, List.all_eq_true, List.mem_range]
  constructor
  · rintro ⟨h1, h2, h3⟩
    refine ⟨h1, h2, fun j p q => ?_⟩
    have := h3 j.toNat (by first | decide | omega)
    rwa [show ((j.toNat : Nat) : Int) = j by first | decide | omega] at this
  · rintro ⟨h1, h2, h3⟩
    exact ⟨h1, h2, fun j hj => h3 j (by first | decide | omega) (by first | decide | omega)⟩
theorem c_isR26 {s t lo i k : Int} (hi : 0 ≤ i ∧ i < 5) (hk : 0 ≤ k ∧ k < 5) (hM : GmR m w n s t lo) (hG : GnR m w n s t lo 25) (vi : cAy w n s i ≠ -1) (vk : cAy w n t k ≠ -1) : ∀ (d f : Nat) (j : Int), 0 ≤ j → 5 - j = d → d < f → ∃ x, G0_isRest_26 f m i k j = some (x, m) ∧ ((x = 1 ∧ ∀ q, j ≤ q → q < 5 → okJ w n s t lo i k q) ∨ (x = 0 ∧ ∃ q, j ≤ q ∧ q < 5 ∧ ¬ okJ w n s t lo i k q)) := by
  intro d
  induction d with
  | zero =>
    intro f j a1 a2 a3
    obtain ⟨f, rfl⟩ : ∃ q, f = q + 1 := ⟨f - 1, by first | decide | omega⟩
    rw [G0_isRest_26, if_pos (by first | decide | omega)]
    exact ⟨1, rfl, Or.inl ⟨rfl, fun q p1 p2 => by first | decide | omega⟩⟩
  | succ d ih =>
    intro f j a1 a2 a3
    obtain ⟨f, rfl⟩ : ∃ q, f = q + 1 := ⟨f - 1, by first | decide | omega⟩
    have eS := (hM j a1 (by first | decide | omega)).1.1
    have eT := (hM j a1 (by first | decide | omega)).2.1
    rw [Int.zero_add] at eS
    obtain ⟨x, ex, hx⟩ := ih f (j + 1) (by first | decide | omega) (by first | decide | omega) (by first | decide | omega)
    have g0 := hG i k hi.1 hi.2 hk.1 hk.2 (by first | decide | omega) vi vk
    -- the second test, then the rest
    have second : (cAy w n s j = -1 ∨ sO w s (cAy w n s j) (cAy w n t k) (decide (s < t)) lo ≤ sO w s (cAy w n s i) (cAy w n t k) (decide (s < t)) lo) → ∃ x, G0_isRest_66 (fun m x1 x2 x3 => G0_isRest_26 f m x1 x2 x3) m i k j = some (x, m) ∧ ((x = 1 ∧ ∀ q, j ≤ q → q < 5 → okJ w n s t lo i k q) ∨ (x = 0 ∧ ∃ q, j ≤ q ∧ q < 5 ∧ ¬ okJ w n s t lo i k q)) := by
      intro h1
      have cont : okJ w n s t lo i k j → ((x = 1 ∧ ∀ q, j ≤ q → q < 5 → okJ w n s t lo i k q) ∨ (x = 0 ∧ ∃ q, j ≤ q ∧ q < 5 ∧ ¬ okJ w n s t lo i k q)) := fun hj => by
        rcases hx with ⟨y1, y2⟩ | ⟨y1, q, y2, y3, y4⟩
        · refine Or.inl ⟨y1, fun q p1 p2 => ?_⟩
          by_cases z : q = j
          · rw [z]; exact hj
          · exact y2 q (by first | decide | omega) p2
        · exact Or.inr ⟨y1, q, by first | decide | omega, y3, y4⟩
      unfold G0_isRest_66
      rw [gdx_t (by first | decide | omega), eT, gdx_t (by first | decide | omega), gdx_t (by first | decide | omega), gd3_t (by first | decide | omega)]
      dsimp only
      rw [ex]
      by_cases c1 : cAy w n t j = -1
      · rw [if_pos c1]
        exact ⟨x, rfl, cont ⟨h1, Or.inl c1⟩⟩
      · have g2 := hG i j hi.1 hi.2 a1 (by first | decide | omega) (by first | decide | omega) vi c1
        rw [if_neg c1, g2.2, g0.2]
        by_cases c2 : sT w t (cAy w n s i) (cAy w n t j) (decide (s < t)) lo ≤ sT w t (cAy w n s i) (cAy w n t k) (decide (s < t)) lo
        · rw [if_pos c2]
          exact ⟨x, rfl, cont ⟨h1, Or.inr c2⟩⟩
        · rw [if_neg c2]
          exact ⟨0, rfl, Or.inr ⟨rfl, j, by first | decide | omega, by first | decide | omega, fun y => by rcases y.2 with z | z; exact c1 z; exact c2 z⟩⟩
    rw [G0_isRest_26, if_neg (by first | decide | omega), gdx_t (by first | decide | omega), eS, gdx_t (by first | decide | omega), gdx_t (by first | decide | omega)]
    by_cases c1 : cAy w n s j = -1
    · rw [if_pos c1]; exact second (Or.inl c1)
    · have g1 := hG j k a1 (by first | decide | omega) hk.1 hk.2 (by first | decide | omega) c1 vk
      rw [if_neg c1, g1.1, g0.1]
      by_cases c2 : sO w s (cAy w n s j) (cAy w n t k) (decide (s < t)) lo ≤ sO w s (cAy w n s i) (cAy w n t k) (decide (s < t)) lo
      · rw [if_pos c2]; exact second (Or.inr c2)
      · rw [if_neg c2]
        exact ⟨0, rfl, Or.inr ⟨rfl, j, by first | decide | omega, by first | decide | omega, fun y => by rcases y.1 with z | z; exact c1 z; exact c2 z⟩⟩
theorem c_rst {s t lo i k : Int} (hi : 0 ≤ i ∧ i < 5) (hk : 0 ≤ k ∧ k < 5) (hM : GmR m w n s t lo) (hG : GnR m w n s t lo 25) : G0_isRest m i k = some ((if okR w n s t lo i k = true then 1 else 0), m) := by
  have eS := (hM i hi.1 hi.2).1.1
  have eT := (hM k hk.1 hk.2).2.1
  rw [Int.zero_add] at eS
  unfold G0_isRest G0_isRest_0
  rw [gdx_t (by first | decide | omega), eS, gdx_t (by first | decide | omega), eT]
  by_cases c1 : cAy w n s i = -1
  · rw [if_pos c1, if_neg (fun q => (okR_iff.mp q).1 c1)]
  · rw [if_neg c1]
    by_cases c2 : cAy w n t k = -1
    · rw [if_pos c2, if_neg (fun q => (okR_iff.mp q).2.1 c2)]
    · rw [if_neg c2]
      obtain ⟨x, e, h⟩ := c_isR26 hi hk hM hG c1 c2 5 1024 0 (by first | decide | omega) (by first | decide | omega) (by first | decide | omega)
      rw [e]
      congr 2
      rcases h with ⟨y1, y2⟩ | ⟨y1, q, y2, y3, y4⟩
      · rw [if_pos (okR_iff.mpr ⟨c1, c2, fun j p q => y2 j p q⟩), y1]
      · rw [if_neg (fun z => y4 ((okR_iff.mp z).2.2 q y2 y3)), y1]
/-- the rests from pair p on -/
def rsL (ok : Int → Int → Bool) : Nat → Int → List Int
  | 0, _ => []
  | d + 1, p => if ok (p / 5) (p % 5) = true then (10 * gw (p / 5) + gw (p % 5)) :: rsL ok d (p + 1) else rsL ok d (p + 1)
theorem rsL_s (ok : Int → Int → Bool) (d : Nat) (p : Int) : rsL ok (d + 1) p = if ok (p / 5) (p % 5) = true then (10 * gw (p / 5) + gw (p % 5)) :: rsL ok d (p + 1) else rsL ok d (p + 1) := rfl
def P56 : Nat → Prop := fun b => b = 99 ∨ b = 105
theorem GmR.f56 {m m' : Mem} {s t lo : Int} (h : GmR m w n s t lo) (f : Fr P56 m m') : GmR m' w n s t lo := by
  have e0 : m' 100 = m 100 := f.row (by unfold P56; first | decide | omega)
  have e1 : m' 101 = m 101 := f.row (by unfold P56; first | decide | omega)
  have e2 : m' 102 = m 102 := f.row (by unfold P56; first | decide | omega)
  unfold GmR WyR at *
  rw [e0, e1, e2]; exact h
theorem GnR.f56 {m m' : Mem} {s t lo p : Int} (h : GnR m w n s t lo p) (f : Fr P56 m m') : GnR m' w n s t lo p := by
  have e0 : m' 103 = m 103 := f.row (by unfold P56; first | decide | omega)
  have e1 : m' 104 = m 104 := f.row (by unfold P56; first | decide | omega)
  unfold GnR at *
  rw [e0, e1]; exact h
theorem rsL_app (ok : Int → Int → Bool) : ∀ (a b : Nat) (p : Int), rsL ok (a + b) p = rsL ok a p ++ rsL ok b (p + a) := by
  intro a
  induction a with
  | zero => intro b p; rw [Nat.zero_add, show p + ((0 : Nat) : Int) = p by first | decide | omega]; rfl
  | succ a ih =>
    intro b p
    rw [show a + 1 + b = (a + b) + 1 by first | decide | omega, rsL_s, rsL_s, ih b (p + 1), show p + 1 + (a : Int) = p + ((a + 1 : Nat) : Int) by first | decide | omega]
    split <;> rfl
theorem c_fr14 {s t lo i : Int} (hi : 0 ≤ i ∧ i < 5) {kk : Mem → Int → Option Mem} : ∀ (d f : Nat) (k : Int) (l : List Int) (m : Mem), 0 ≤ k → 5 - k = d → d < f → GmR m w n s t lo → GnR m w n s t lo 25 → m 99 6 = l.length → (l.length : Int) ≤ i * 5 + k → frt (m 105) 0 l → ∃ m', G0_findRests_14 kk f m i k = kk m' (i + 1) ∧ Fr P56 m m' ∧ m' 99 6 = (l ++ rsL (okR w n s t lo) d (i * 5 + k)).length ∧ frt (m' 105) 0 (l ++ rsL (okR w n s t lo) d (i * 5 + k)) := by
  intro d
  induction d with
  | zero =>
    intro f k l m a1 a2 a3 hM hG h6 hl h105
    obtain ⟨f, rfl⟩ : ∃ q, f = q + 1 := ⟨f - 1, by first | decide | omega⟩
    rw [G0_findRests_14, if_pos (by first | decide | omega), gd3_t (by first | decide | omega)]
    have e : rsL (okR w n s t lo) 0 (i * 5 + k) = [] := rfl
    rw [e, List.append_nil]
    exact ⟨m, rfl, Fr.rf, h6, h105⟩
  | succ d ih =>
    intro f k l m a1 a2 a3 hM hG h6 hl h105
    obtain ⟨f, rfl⟩ : ∃ q, f = q + 1 := ⟨f - 1, by first | decide | omega⟩
    have ed : (i * 5 + k) / 5 = i := by omega
    have em : (i * 5 + k) % 5 = k := by omega
    have b1 := gw_b (i := i) hi
    have b2 := gw_b (i := k) (by first | decide | omega)
    rw [G0_findRests_14, if_neg (by first | decide | omega), c_rst hi (by first | decide | omega) hM hG, bs1, rsL_s, ed, em]
    by_cases c : okR w n s t lo i k = true
    · simp only [if_pos c, if_neg i10]
      rw [gdx_t hi, gdx_t (by first | decide | omega), h6, gdx_t (by first | decide | omega), gd3_t (by first | decide | omega), wt_e, up_a (by first | decide | omega), h6, gd3_t (by first | decide | omega), wt_e, gd3_t (by first | decide | omega)]
      have f1 : Fr P56 m (up (up m 105 l.length (10 * gw i + gw k)) 99 6 (l.length + 1)) := (Fr.up Fr.rf (Or.inr rfl)).up (Or.inl rfl)
      obtain ⟨m', z1, z2, z3, z4⟩ := ih f (k + 1) (l ++ [10 * gw i + gw k]) (up (up m 105 l.length (10 * gw i + gw k)) 99 6 (l.length + 1)) (by first | decide | omega) (by first | decide | omega) (by first | decide | omega) (hM.f56 f1) (hG.f56 f1) (by rw [up_e]; simp) (by simp; first | decide | omega) (by
        rw [up_b (by first | decide | omega)]
        refine frt_app (frt_up h105 (fun j p q => up_i (by first | decide | omega))) ⟨?_, trivial⟩
        rw [Int.zero_add]; exact up_e)
      rw [List.append_assoc, show i * 5 + (k + 1) = i * 5 + k + 1 by first | decide | omega] at z3 z4
      exact ⟨m', z1, f1.tr z2, z3, z4⟩
    · simp only [if_neg c, if_true]
      rw [gd3_t (by first | decide | omega)]
      have := ih f (k + 1) l m (by first | decide | omega) (by first | decide | omega) (by first | decide | omega) hM hG h6 (by first | decide | omega) h105
      rwa [show i * 5 + (k + 1) = i * 5 + k + 1 by first | decide | omega] at this
theorem c_fr7 {s t lo : Int} : ∀ (d f : Nat) (i : Int) (l : List Int) (m : Mem), 0 ≤ i → 5 - i = d → d < f → GmR m w n s t lo → GnR m w n s t lo 25 → m 99 6 = l.length → (l.length : Int) ≤ i * 5 → frt (m 105) 0 l → ∃ m', G0_findRests_7 f m i = some m' ∧ Fr P56 m m' ∧ m' 99 6 = (l ++ rsL (okR w n s t lo) (5 * d) (i * 5)).length ∧ frt (m' 105) 0 (l ++ rsL (okR w n s t lo) (5 * d) (i * 5)) := by
  intro d
  induction d with
  | zero =>
    intro f i l m a1 a2 a3 hM hG h6 hl h105
    obtain ⟨f, rfl⟩ : ∃ q, f = q + 1 := ⟨f - 1, by first | decide | omega⟩
    rw [G0_findRests_7, if_pos (by first | decide | omega)]
    have e : rsL (okR w n s t lo) (5 * 0) (i * 5) = [] := rfl
    rw [e, List.append_nil]
    exact ⟨m, rfl, Fr.rf, h6, h105⟩
  | succ d ih =>
    intro f i l m a1 a2 a3 hM hG h6 hl h105
    obtain ⟨f, rfl⟩ : ∃ q, f = q + 1 := ⟨f - 1, by first | decide | omega⟩
    rw [G0_findRests_7, if_neg (by first | decide | omega)]
    obtain ⟨m1, e1, f1, k1, k2⟩ := c_fr14 (s := s) (t := t) (lo := lo) (i := i) (by first | decide | omega) (kk := fun m x1 => G0_findRests_7 f m x1) 5 1024 0 l m (by first | decide | omega) (by first | decide | omega) (by first | decide | omega) hM hG h6 (by first | decide | omega) h105
    rw [e1]
    rw [show i * 5 + (0 : Int) = i * 5 by first | decide | omega] at k1 k2
    have hlen : ∀ (e : Nat) (p : Int), (rsL (okR w n s t lo) e p).length ≤ e := by
      intro e
      induction e with
      | zero => intro p; exact Nat.le_refl 0
      | succ e ihe => intro p; rw [rsL_s]; split <;> have := ihe (p + 1) <;> simp <;> omega
    have hl5 := hlen 5 (i * 5)
    obtain ⟨m', z1, z2, z3, z4⟩ := ih f (i + 1) (l ++ rsL (okR w n s t lo) 5 (i * 5)) m1 (by first | decide | omega) (by first | decide | omega) (by first | decide | omega) (hM.f56 f1) (hG.f56 f1) k1 (by rw [List.length_append]; first | decide | omega) k2
    have ea : rsL (okR w n s t lo) (5 * (d + 1)) (i * 5) = rsL (okR w n s t lo) 5 (i * 5) ++ rsL (okR w n s t lo) (5 * d) ((i + 1) * 5) := by
      rw [show 5 * (d + 1) = 5 + 5 * d by first | decide | omega, rsL_app, show i * 5 + ((5 : Nat) : Int) = (i + 1) * 5 by first | decide | omega]
    rw [List.append_assoc, ← ea] at z3 z4
    exact ⟨m', z1, f1.tr z2, z3, z4⟩
theorem c_game (t2 : m 0 3 = (T : Int)) (hc : CX m 51 T w g) (hn : NX m 69 n) (hW : WW w) (hG : GB w g) (hE : GE w g (gM w (-1))) (h102 : W102 m) {s t : Int} (hs : 0 ≤ s ∧ s < w 1 0) (ht : 0 ≤ t ∧ t < w 1 0) (hcs : 0 ≤ n 1 s ∧ n 1 s < w 0 0 * w 0 1) (hct : 0 ≤ n 1 t ∧ n 1 t < w 0 0 * w 0 1) : ∃ m', G0_playGame m 51 69 s t = some m' ∧ Fr PQ m m' ∧ W102 m' ∧ m' 99 6 = (rsL (okR w n s t (ff w (n 0 0))) 25 0).length ∧ frt (m' 105) 0 (rsL (okR w n s t (ff w (n 0 0))) 25 0) := by
  have hw := hW.1
  unfold WS at hw
  have hT := hc.1.1
  obtain ⟨f1, f2, _, _⟩ := ff_spec (w := w) (by first | decide | omega) (n 0 0)
  have e69 : m 69 0 = n 0 0 := hn.2.1 0
  unfold G0_playGame G0_playGame_0 G0_weighWays G0_weighWays_0
  rw [hc.2.2.1, Int.toNat_natCast, e69, g_ff hc.1 (by first | decide | omega), bs1]
  simp only
  obtain ⟨m1, e1, g1, w1, q1⟩ := c_way3 (T := T) (n := n) hW hG hE (r := 0) (lo := ff w (n 0 0)) hs (Or.inl rfl) hcs f1 5 1024 0 m (by first | decide | omega) (by first | decide | omega) (by first | decide | omega) hc hn h102 (fun j p q => by first | decide | omega)
  rw [e1, bs1]
  obtain ⟨m2, e2, g2, w2, q2⟩ := c_way3 (T := T) (n := n) hW hG hE (r := 5) (lo := ff w (n 0 0)) ht (Or.inr rfl) hct f1 5 1024 0 m1 (by first | decide | omega) (by first | decide | omega) (by first | decide | omega) (hc.wy g1) (hn.wy g1) w1 (fun j p q => by first | decide | omega)
  rw [e2, bs1]
  have hM : GmR m2 w n s t (ff w (n 0 0)) := fun j p q => by
    refine ⟨?_, q2 j p q⟩
    have := q1 j p q
    rw [g2 100 _ (by unfold PWy PN; first | decide | omega)]
    refine ⟨this.1, fun z k p1 p2 => ?_⟩
    have h2 := this.2 z k p1 p2
    rw [g2 101 _ (by unfold PWy PN; first | decide | omega), g2 102 _ (by unfold PWy PN; first | decide | omega)]
    exact h2
  obtain ⟨m3, e3, g3, M3, G3⟩ := c_pg40 (T := T) (g := g) (n := n) hW (s := s) (t := t) ⟨f1, f2⟩ 5 1024 0 m2 (by first | decide | omega) (by first | decide | omega) (by first | decide | omega) ((hc.wy g1).wy g2) w2 hM (fun i k a1 a2 a3 a4 a5 => by first | decide | omega)
  rw [e3]
  unfold G0_findRests G0_findRests_0
  rw [wt_e]
  have g4 : Fr P56 m3 (up m3 99 6 0) := Fr.up Fr.rf (Or.inl rfl)
  obtain ⟨m', z1, z2, z3, z4⟩ := c_fr7 (w := w) (n := n) (s := s) (t := t) (lo := ff w (n 0 0)) 5 1024 0 [] (up m3 99 6 0) (by first | decide | omega) (by first | decide | omega) (by first | decide | omega) (M3.f56 g4) (G3.f56 g4) (by rw [up_e]; rfl) (by simp) trivial
  have q1 : Fr PQ m m1 := g1.toFr (by intro b i p; unfold PWy PN at p; unfold PQ; first | decide | omega)
  have q2 : Fr PQ m1 m2 := g2.toFr (by intro b i p; unfold PWy PN at p; unfold PQ; first | decide | omega)
  have q3 : Fr PQ m2 m3 := g3.mono (by intro b p; unfold P34 at p; unfold PQ; first | decide | omega)
  have q4 : Fr PQ m3 m' := (g4.tr z2).mono (by intro b p; unfold P56 at p; unfold PQ; first | decide | omega)
  refine ⟨m', z1, ((q1.tr q2).tr q3).tr q4, fun i p q => ?_, z3, z4⟩
  rw [z2 102 i (by unfold P56; first | decide | omega), up_a (by first | decide | omega), g3 102 i (by unfold P34; first | decide | omega)]
  exact w2 i p q
end Q10
/-! The game of two: the reference. -/
section Q11
variable {m v w g n : Mem} {T : Nat}
end Q11
