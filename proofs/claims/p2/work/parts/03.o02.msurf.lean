/-! The reference: laws, peak, odds, times away. -/
def PE : Nat → Int → Prop := fun b i => b = 24 ∨ (b = 0 ∧ i = 54)
def PNm : Nat → Int → Prop := fun b i => b = 23 ∨ b = 24 ∨ (b = 0 ∧ i = 54)
theorem PE_N : ∀ b i, PE b i → PNm b i := fun b i h => Or.inr h
theorem RT.pn {v v' w : Mem} (h : RT v w) (f : Fm PNm v v') : RT v' w := h.fr f (by intro b i q; unfold PNm; omega)
theorem ist_s (kn : Int → Int) (j : Nat) : ist kn (j + 1) = if kn j < 10000 ∨ (10018 ≤ kn j ∧ kn j < 10024) then (j : Int) :: ist kn j else if kn j = 10015 then (j : Int) :: (ist kn j).drop 1 else (j : Int) :: (ist kn j).drop 2 := rfl
section MS
variable {m : Mem}
theorem m_law12 {k : Int} (hk : 0 ≤ k ∧ k < 6) {kn nm : Int → Int} {len f : Int} (hL : LX kn len) (hl0 : 0 < len) (hf : 0 ≤ f ∧ f + len ≤ 64) (hn : ∀ q, 0 ≤ q → q < 6 → bM (nm q)) :
    ∀ (d n j : Nat) (m : Mem), len - (j : Int) = d → d < n → m 17 k = f + len → (∀ j : Nat, (j : Int) < len → NodeR kn m f j) → (∀ q, 0 ≤ q → q < 6 → m 23 q = nm q) → (∀ q : Int, 0 ≤ q → q < (j : Int) → bM (m 24 (f + q))) → ((m 0 54 = 0 ∧ ∃ st, evl kn nm j = some st ∧ mtch (m 24) f (ist kn j) st) ∨ (m 0 54 = 1 ∧ evl kn nm j = none)) →
    ∃ r m', G12_lawOf_12 n m k (f + j) = some (r, m') ∧ Fm PE m m' ∧ ((m' 0 54 = 0 ∧ lv kn nm len = r ∧ bM r) ∨ (m' 0 54 = 1 ∧ lv kn nm len = -9223372036854775808)) := by
  have hlb := hL.1
  intro d
  induction d with
  | zero =>
    intro n j m a1 a2 a3 a4 a5 a6 a7
    obtain ⟨n, rfl⟩ : ∃ q, n = q + 1 := ⟨n - 1, by omega⟩
    have hj : len.toNat = j := by omega
    rw [G12_lawOf_12, gdx_t hk, a3, if_pos (by omega)]
    rcases a7 with ⟨e0, st, s1, s2⟩ | ⟨e1, s1⟩
    · rw [if_pos e0, gdx_t hk, gdx_t (by omega)]
      have h1 := hL.2.2 hl0
      obtain ⟨l, rfl⟩ : ∃ l, j = l + 1 := ⟨j - 1, by omega⟩
      have h2 : ist kn (l + 1) = [(l : Int)] := by
        rw [hj] at h1
        have : ∃ t, ist kn (l + 1) = (l : Int) :: t := by
          rw [ist_s]
          split
          · exact ⟨_, rfl⟩
          · split
            · exact ⟨_, rfl⟩
            · exact ⟨_, rfl⟩
        obtain ⟨t, ht⟩ := this
        rw [ht] at h1 ⊢
        cases t with
        | nil => rfl
        | cons _ _ => simp at h1
      rw [h2] at s2
      have e3 : f + len - 1 = f + (l : Int) := by omega
      rw [e3]
      match st, s2 with
      | [], s2 => exact s2.elim
      | x :: y :: r, s2 => exact s2.2.elim
      | [x], s2 =>
        refine ⟨m 24 (f + l), m, rfl, Fm.rf, Or.inl ⟨e0, ?_, a6 l (by omega) (by omega)⟩⟩
        unfold lv
        rw [hj, s1, s2.1]
    · rw [if_neg (by omega)]
      exact ⟨0, m, rfl, Fm.rf, Or.inr ⟨e1, lv_none s1 (by omega)⟩⟩
  | succ d ih =>
    intro n j m a1 a2 a3 a4 a5 a6 a7
    obtain ⟨n, rfl⟩ : ∃ q, n = q + 1 := ⟨n - 1, by omega⟩
    have he : m 0 54 = 0 ∨ m 0 54 = 1 := by rcases a7 with h | h <;> omega
    obtain ⟨r, m1, q1, q2, q3, q4, q5, q6⟩ := m_node (kn := kn) (nm := nm) (f := f) (j := j) ⟨hf.1, by omega⟩ (a4 j (by omega)) (fun q x y => ⟨hn q x y, a5 q x y⟩) a6 he
    rw [G12_lawOf_12, gdx_t hk, a3, if_neg (by omega), q1, bs1, gdx_t (by omega), wt_e, gd3_t (by omega)]
    simp only
    have e1 : f + (j : Int) + 1 = f + ((j + 1 : Nat) : Int) := by omega
    rw [e1]
    have k1 : ∀ c : Nat, c ≠ 0 → m1 c = m c := fun c hc => funext fun i => q3 c i (fun z => hc z.1)
    have fr1 : Fm PE m (up m1 24 (f + j) r) := (q3.mono (fun b i z => Or.inr z)).w (Or.inl rfl)
    have e54 : up m1 24 (f + j) r 0 54 = m1 0 54 := up_a (by decide)
    have r24 : up m1 24 (f + j) r 24 = fun i => if i = f + j then r else m 24 i := by rw [up_r, k1 24 (by decide)]
    have hev : evl kn nm (j + 1) = (evl kn nm j).bind (stp kn nm j) := rfl
    obtain ⟨r', m', z1, z2, z3⟩ := ih n (j + 1) (up m1 24 (f + j) r) (by omega) (by omega) (by rw [up_a (by decide), k1 17 (by decide)]; exact a3) (fun i hi => (a4 i hi).fr (by rw [up_b (by decide), k1 18 (by decide)]) (by rw [up_b (by decide), k1 19 (by decide)]) (by rw [up_b (by decide), k1 20 (by decide)])) (fun q x y => by rw [up_a (by decide), k1 23 (by decide)]; exact a5 q x y) (fun q x y => by
      rw [r24]
      show bM (if _ then _ else _)
      split
      · exact q2
      · exact a6 q x (by omega)) (by
      rw [e54, hev, r24]
      rcases a7 with ⟨e0, st, s1, s2⟩ | ⟨e1, s1⟩
      · rcases q6 e0 st s2 with ⟨st', tl, t1, t2, t3, t4, t5⟩ | ⟨t1, t2⟩
        · refine Or.inl ⟨t5, r :: st', by rw [s1, bs1]; exact t1, ?_⟩
          rw [t2]
          refine ⟨by simp, mtch_up t4 (fun a ha => ?_)⟩
          have := t3 a ha
          exact if_neg (by omega)
        · exact Or.inr ⟨t2, by rw [s1, bs1]; exact t1⟩
      · exact Or.inr ⟨q5 e1, by rw [s1]; rfl⟩)
    exact ⟨r', m', z1, fr1.tr z2, z3⟩
theorem m_law {w : Mem} {k : Int} {a b : Nat} (hk : 0 ≤ k ∧ k < 6) {nm : Int → Int} (hR : RLw m w k a b) (h1 : w a 2 = 1) (hL : LX (w b) (w a 1)) (hn : ∀ q, 0 ≤ q → q < 6 → bM (nm q) ∧ m 23 q = nm q) : ∃ r m', G12_lawOf m k = some (r, m') ∧ Fm PE m m' ∧ ((m' 0 54 = 0 ∧ lv (w b) nm (w a 1) = r ∧ bM r) ∨ (m' 0 54 = 1 ∧ lv (w b) nm (w a 1) = -9223372036854775808)) := by
  obtain ⟨g1, g2, g3, g4, g5⟩ := hR.2.2.2 h1
  have hlb := hL.1
  unfold G12_lawOf G12_lawOf_0
  rw [wt_e, gdx_t hk, up_a (by decide)]
  obtain ⟨r, m', q1, q2, q3⟩ := m_law12 hk hL g1 ⟨g2, by omega⟩ (fun q x y => (hn q x y).1) (w a 1).toNat 1024 0 (up m 0 54 0) (by omega) (by omega) (by rw [up_a (by decide)]; exact g3) (fun j hj => (g5 j hj).fr (up_b (by decide)) (up_b (by decide)) (up_b (by decide))) (fun q x y => by rw [up_a (by decide)]; exact (hn q x y).2) (fun q x y => by omega) (Or.inl ⟨up_e, [], rfl, trivial⟩)
  have e : m 16 k + ((0 : Nat) : Int) = m 16 k := by omega
  rw [e] at q1
  exact ⟨r, m', q1, (Fm.w1 (Or.inr ⟨rfl, rfl⟩)).tr q2, q3⟩
theorem m_bl {w : Mem} {k : Int} {a b : Nat} (hk : 0 ≤ k ∧ k < 6) {nm : Int → Int} (hR : RLw m w k a b) (hL : LX (w b) (w a 1)) (hn : ∀ q, 0 ≤ q → q < 6 → bM (nm q) ∧ m 23 q = nm q) {wo lo hi : Int} (hh : -1000 ≤ lo ∧ lo ≤ hi ∧ hi ≤ 1000) : ∃ m', G12_boundLaw m k wo lo hi = some ((if lv (w b) nm (w a 1) = -9223372036854775808 then wo else clp lo hi (lv (w b) nm (w a 1))), m') ∧ Fm PE m m' := by
  unfold G12_boundLaw G12_boundLaw_0
  rw [gdx_t hk, hR.1]
  by_cases c : w a 2 = 0
  · rw [if_pos c]
    have : lv (w b) nm (w a 1) = -9223372036854775808 := by
      rw [hR.2.2.1 c]; rfl
    rw [if_pos this]
    exact ⟨m, rfl, Fm.rf⟩
  · rw [if_neg c]
    obtain ⟨r, m', q1, q2, q3⟩ := m_law hk hR (by have := hR.2.1; omega) hL hn
    rw [q1, bs1]
    refine ⟨m', ?_, q2⟩
    simp only
    rcases q3 with ⟨e0, e1, e2⟩ | ⟨e0, e1⟩
    · unfold bM at e2
      have hne : ¬ r = -9223372036854775808 := by omega
      rw [if_pos e0, e1, if_neg hne]
      unfold clp
      by_cases c1 : lo ≤ r
      · rw [if_pos c1]
        by_cases c2 : r ≤ hi
        · rw [if_pos c2, gd3_t (by omega)]
          by_cases c3 : r < hi
          · rw [if_pos c3, if_neg (by omega)]
          · rw [if_neg c3, if_neg (by omega)]
            congr 2; omega
        · rw [if_neg c2, if_neg (by omega), if_neg (by omega)]
      · rw [if_neg c1, if_pos (by omega)]
    · rw [if_neg (by omega), if_pos e1]
def bdM (w : Mem) (way s : Int) : Int := if way = 3 then 9 else w 4 s
def pxM (w : Mem) (way mn : Int) : Int := if way = 2 then w 0 2 else pkX w mn
variable {w : Mem}
theorem bdM_b (hW : WW w) {way s : Int} (hs : 0 ≤ s ∧ s < w 1 0) : 1 ≤ bdM w way s ∧ bdM w way s ≤ 9 := by
  have := hW.2.1 s hs.1 hs.2
  unfold bdM; split <;> omega
theorem pxM_b (hW : WW w) {way mn : Int} : 0 ≤ pxM w way mn ∧ pxM w way mn < w 0 0 := by
  have hw := hW.1
  unfold WS at hw
  unfold pxM; split
  · omega
  · exact pkX_b hW mn
theorem m_nm (m : Mem) (x1 x2 x3 x4 x5 : Int) (hv : x4 = -1 ∨ (0 ≤ x4 ∧ x4 < 56 ∧ 0 ≤ m 14 x4 ∧ m 14 x4 < 8 ∧ -1000000 ≤ x4 - m 11 (m 14 x4) + 1 ∧ x4 - m 11 (m 14 x4) + 1 ≤ 1000000)) : ∃ m', G12_layNames m x1 x2 x3 x4 x5 = some m' ∧ Fm (fun b _ => b = 23) m m' ∧ m' 23 0 = x1 ∧ m' 23 1 = x2 ∧ m' 23 2 = x3 ∧ m' 23 3 = (if x4 < 0 then 0 else m 13 x4) ∧ m' 23 4 = x5 ∧ m' 23 5 = (if x4 < 0 then 0 else x4 - m 11 (m 14 x4) + 1) := by
  unfold G12_layNames G12_layNames_0 G12_layNames_46 G12_layNames_88
  simp only [wt_e]
  rcases hv with rfl | hv
  · rw [if_neg (by decide), gdx_t (by decide), if_neg (by decide), gdx_t (by decide)]
    refine ⟨_, rfl, ?_, ?_, ?_, ?_, ?_, ?_, ?_⟩
    · intro b i hb
      have hb : b ≠ 23 := hb
      simp only [up_a hb]
    all_goals simp (disch := decide) only [up_e, up_i] <;> rfl
  · rw [if_pos hv.1, gdx_t (by omega), gdx_t (by decide), if_pos hv.1, gdx_t (by omega)]
    simp (disch := decide) only [up_a]
    rw [gdx_t (by omega), gd3_t (by omega), gdx_t (by decide)]
    refine ⟨_, rfl, ?_, ?_, ?_, ?_, ?_, ?_, ?_⟩
    · intro b i hb
      have hb : b ≠ 23 := hb
      simp only [up_a hb]
    · simp (disch := decide) only [up_e, up_i]
    · simp (disch := decide) only [up_e, up_i]
    · simp (disch := decide) only [up_e, up_i]
    · simp (disch := decide) only [up_e, up_i, if_neg (show ¬ x4 < 0 by omega)]
    · simp (disch := decide) only [up_e, up_i]
    · simp (disch := decide) only [up_e, up_i, if_neg (show ¬ x4 < 0 by omega)]
theorem m_pk (hT : RT m w) (hW : WW w) {mn : Int} (hm : 0 ≤ mn ∧ mn ≤ 1000) : ∃ m', G12_peakAt m mn = some (w 0 0 * w 0 3 + pxM w (m 0 66) mn, m') ∧ Fm PNm m m' := by
  have hw := hW.1
  unfold WS at hw
  have hmul : 0 ≤ w 0 0 * w 0 3 ∧ w 0 0 * w 0 3 ≤ 8 * 6 := ⟨Int.mul_nonneg (by omega) (by omega), Int.mul_le_mul (by omega) (by omega) (by omega) (by omega)⟩
  obtain ⟨m1, e1, f1, n0, n1, n2, n3, n4, n5⟩ := m_nm m 0 0 0 (-1) mn (Or.inl rfl)
  have k1 : ∀ (c : Nat) (i : Int), c ≠ 23 → m1 c i = m c i := fun c i hc => f1 c i hc
  have fN : Fm PNm m m1 := f1.mono (fun b i z => Or.inl z)
  have hT1 := hT.pn fN
  unfold G12_peakAt G12_peakAt_0
  rw [e1, bs1, k1 0 66 (by decide), k1 4 0 (by decide), hT.2.1.1]
  have fin : ∀ (x : Int) (m2 : Mem), RT m2 w → -8 ≤ x → x ≤ 8 → G12_peakAt_37 m2 x (w 0 2) = some (w 0 0 * w 0 3 + clp 0 (w 0 0 - 1) (w 0 2 + x), m2) := by
    intro x m2 h2 x1 x2
    unfold G12_peakAt_37 clp
    rw [h2.1.1, h2.2.1.2.1]
    rw [gd3_t (by omega)]
    by_cases c1 : 0 ≤ w 0 2 + x
    · rw [if_pos c1, gd3_t (by omega)]
      by_cases c2 : w 0 2 + x < w 0 0
      · rw [if_pos c2, gd3_t (by omega)]
        by_cases c3 : w 0 2 + x < w 0 0 - 1
        · rw [if_pos c3, if_neg (by omega)]
        · rw [if_neg c3, if_neg (by omega)]
          congr 2; omega
      · rw [if_neg c2, gd3_t (by omega), if_neg (by omega), if_neg (by omega)]
    · rw [if_neg c1, gd3_t (by omega), if_pos (by omega)]
  unfold pxM
  by_cases c : m 0 66 = 2
  · rw [if_pos c, if_pos c, fin 0 m1 hT1 (by omega) (by omega)]
    refine ⟨m1, ?_, fN⟩
    congr 3
    unfold clp
    by_cases c3 : w 0 2 + 0 < w 0 0 - 1
    · rw [if_pos c3, if_neg (by omega)]; omega
    · rw [if_neg c3, if_neg (by omega)]; omega
  · rw [if_neg c, if_neg c]
    obtain ⟨m2, e2, f2⟩ := m_bl (m := m1) (w := w) (k := 1) (a := 18) (b := 19) (by omega) (nm := nmD mn) hT1.2.2.2.2.2.2.1 hW.2.2.2.2.2.1 (fun q x y => ⟨bM_sm (by unfold nmD; split <;> omega), by
      have : q = 0 ∨ q = 1 ∨ q = 2 ∨ q = 3 ∨ q = 4 ∨ q = 5 := by omega
      unfold nmD
      rcases this with rfl | rfl | rfl | rfl | rfl | rfl
      · exact n0
      · exact n1
      · exact n2
      · exact n3
      · exact n4
      · exact n5⟩) (wo := 0) (lo := -8) (hi := 8) (by omega)
    rw [e2, bs1]
    have fN2 := fN.tr (f2.mono PE_N)
    have hT2 := hT.pn fN2
    refine ⟨m2, ?_, fN2⟩
    simp only
    have hb : -8 ≤ (if lv (w 19) (nmD mn) (w 18 1) = -9223372036854775808 then 0 else clp (-8) 8 (lv (w 19) (nmD mn) (w 18 1))) ∧ (if lv (w 19) (nmD mn) (w 18 1) = -9223372036854775808 then 0 else clp (-8) 8 (lv (w 19) (nmD mn) (w 18 1))) ≤ 8 := by
      split
      · omega
      · exact clp_b (by omega)
    rw [fin _ m2 hT2 hb.1 hb.2]
    rfl
theorem pk_dm (hW : WW w) {x : Int} (hx : 0 ≤ x ∧ x < w 0 0) : (w 0 0 * w 0 3 + x) % w 0 0 = x ∧ (w 0 0 * w 0 3 + x) / w 0 0 = w 0 3 ∧ 0 ≤ w 0 0 * w 0 3 + x ∧ w 0 0 * w 0 3 + x < w 0 0 * w 0 1 := by
  have hw := hW.1
  unfold WS at hw
  refine ⟨?_, ?_, ?_, ?_⟩
  · rw [Int.add_comm, Int.add_mul_emod_self_left]
    exact Int.emod_eq_of_lt hx.1 hx.2
  · rw [Int.add_comm, Int.add_mul_ediv_left _ _ (by omega), Int.ediv_eq_zero_of_lt hx.1 hx.2, Int.zero_add]
  · have := Int.mul_nonneg (show 0 ≤ w 0 0 by omega) (show 0 ≤ w 0 3 by omega)
    omega
  · have h1 : w 0 0 * (w 0 3 + 1) ≤ w 0 0 * w 0 1 := Int.mul_le_mul_of_nonneg_left (by omega) (by omega)
    rw [Int.mul_add, Int.mul_one] at h1
    omega
theorem m_far (hT : RT m w) (hW : WW w) {c x : Int} (hc : 0 ≤ c ∧ c < w 0 0 * w 0 1) (hx : 0 ≤ x ∧ x < w 0 0) : G12_far m c (w 0 0 * w 0 3 + x) = some (fr w c x, m) := by
  have hw := hW.1
  unfold WS at hw
  obtain ⟨p1, p2, p3, p4⟩ := pk_dm hW hx
  obtain ⟨b1, b2, b3, b4, e, b5⟩ := cell_b (W := w 0 0) (H := w 0 1) (by omega) (by omega) hc
  unfold G12_far G12_far_0 G12_far_39 fr ab
  simp only [hT.1.1, p1, p2, if_neg (show ¬ w 0 0 = 0 by omega), gdd_t (show 0 ≤ c ∧ 0 < w 0 0 by omega), gdd_t (show 0 ≤ w 0 0 * w 0 3 + x ∧ 0 < w 0 0 by omega)]
  simp only [gd3_t (show -2147483648 ≤ c % w 0 0 - x ∧ c % w 0 0 - x ≤ 2147483647 by omega), gd3_t (show -2147483648 ≤ c / w 0 0 - w 0 3 ∧ c / w 0 0 - w 0 3 ≤ 2147483647 by omega), gd3_t (show -2147483648 ≤ -(c % w 0 0 - x) ∧ -(c % w 0 0 - x) ≤ 2147483647 by omega), gd3_t (show -2147483648 ≤ c % w 0 0 - x + (c / w 0 0 - w 0 3) ∧ c % w 0 0 - x + (c / w 0 0 - w 0 3) ≤ 2147483647 by omega), gd3_t (show -2147483648 ≤ c % w 0 0 - x + -(c / w 0 0 - w 0 3) ∧ c % w 0 0 - x + -(c / w 0 0 - w 0 3) ≤ 2147483647 by omega), gd3_t (show -2147483648 ≤ -(c % w 0 0 - x) + (c / w 0 0 - w 0 3) ∧ -(c % w 0 0 - x) + (c / w 0 0 - w 0 3) ≤ 2147483647 by omega), gd3_t (show -2147483648 ≤ -(c % w 0 0 - x) + -(c / w 0 0 - w 0 3) ∧ -(c % w 0 0 - x) + -(c / w 0 0 - w 0 3) ≤ 2147483647 by omega)]
  split <;> split <;> simp only [Int.zero_sub]
theorem wnm (hT : RT m w) (hW : WW w) {v : Int} (hv : 0 ≤ v ∧ v < w 8 1) : 0 ≤ v ∧ v < 56 ∧ 0 ≤ m 14 v ∧ m 14 v < 8 ∧ -1000000 ≤ v - m 11 (m 14 v) + 1 ∧ v - m 11 (m 14 v) + 1 ≤ 1000000 ∧ m 12 v = w 11 v ∧ m 13 v = w 12 v ∧ m 14 v = w 13 v ∧ v - m 11 (m 14 v) + 1 = w 14 v := by
  have hw := hW.1
  unfold WS at hw
  obtain ⟨e1, e2, e3⟩ := hT.2.2.2.2.1 v hv.1 hv.2
  have h1 := (hW.2.2.2.1 v hv.1 hv.2).1
  have h2 := hT.2.2.2.1 (w 13 v) h1.1 h1.2.1
  have h3 := hW.2.2.1.2.2 (w 13 v) h1.1 h1.2.1
  rw [e3, h2]
  exact ⟨by omega, by omega, by omega, by omega, by omega, by omega, e1, e2, rfl, by omega⟩
theorem m_bd (hT : RT m w) {s : Int} (hs : 0 ≤ s ∧ s < w 1 0) (h5 : w 1 0 ≤ 5) : G12_boardOf m s = some (bdM w (m 0 66) s, m) := by
  unfold G12_boardOf G12_boardOf_0 bdM
  rw [gdx_t (by omega), (hT.2.2.1 s hs.1 hs.2).2.2.1]
  split <;> rfl
theorem m_lc (hT : RT m w) (hW : WW w) {s v c : Int} (hs : 0 ≤ s ∧ s < w 1 0) (hv : 0 ≤ v ∧ v < w 8 1) (hc : 0 ≤ c ∧ c < w 0 0 * w 0 1) : ∃ m', G12_layCatch m s v c = some (fr w c (pxM w (m 0 66) (w 11 v)), m') ∧ Fm PNm m m' ∧ ∀ q, 0 ≤ q → q < 6 → m' 23 q = nmC w (bdM w (m 0 66) s) (pxM w (m 0 66) (w 11 v)) v c q := by
  have hw := hW.1
  unfold WS at hw
  obtain ⟨n1, n2, n3, n4, n5, n6, n7, n8, n9, n10⟩ := wnm hT hW hv
  have hm := (hW.2.2.2.1 v hv.1 hv.2).2.1
  obtain ⟨m1, e1, f1⟩ := m_pk hT hW (mn := w 11 v) (by omega)
  have hT1 := hT.pn f1
  have hpx := pxM_b hW (way := m 0 66) (mn := w 11 v)
  have e66 : m1 0 66 = m 0 66 := f1 0 66 (by unfold PNm; omega)
  obtain ⟨p1, p2, p3, p4⟩ := pk_dm hW hpx
  have hcb := cell_b (W := w 0 0) (H := w 0 1) (by omega) (by omega) hc
  unfold G12_layCatch G12_layCatch_0
  rw [gdx_t (by omega), n7, e1, bs1]
  simp only
  rw [m_far hT1 hW hc hpx, bs1]
  simp only
  rw [hT1.1.1, if_neg (by omega), if_neg (by omega), m_bd hT1 hs (by omega), bs1, gdx_t (by omega), gdd_t (by omega), gdd_t (by omega), p2, gd3_t (by omega)]
  simp only
  rw [(wnm hT1 hW hv).2.2.2.2.2.2.1]
  obtain ⟨a1, a2, a3, a4, a5, a6, a7, a8, a9, a10⟩ := wnm hT1 hW hv
  obtain ⟨m2, g1, g2, g3, g4, g5, g6, g7, g8⟩ := m_nm m1 (fr w c (pxM w (m 0 66) (w 11 v))) (c / w 0 0 - w 0 3) (bdM w (m1 0 66) s) v (w 11 v) (Or.inr ⟨a1, a2, a3, a4, a5, a6⟩)
  rw [g1, bs1]
  refine ⟨m2, rfl, f1.tr (g2.mono (fun b i z => Or.inl z)), fun q x y => ?_⟩
  have : q = 0 ∨ q = 1 ∨ q = 2 ∨ q = 3 ∨ q = 4 ∨ q = 5 := by omega
  unfold nmC nmA
  rcases this with rfl | rfl | rfl | rfl | rfl | rfl
  · exact g3
  · exact g4
  · rw [g5, e66]; rfl
  · rw [g6, if_neg (by omega), a8]; rfl
  · exact g7
  · rw [g8, if_neg (by omega), a10]; rfl
theorem m_odds (hT : RT m w) (hW : WW w) {s v c : Int} (hs : 0 ≤ s ∧ s < w 1 0) (hv : 0 ≤ v ∧ v < w 8 1) (hc : 0 ≤ c ∧ c < w 0 0 * w 0 1) : ∃ m', G12_oddsOf m s v c = some (oddsV w (bdM w (m 0 66) s) (pxM w (m 0 66) (w 11 v)) v c, m') ∧ Fm PNm m m' := by
  have hw := hW.1
  unfold WS at hw
  have hpx := pxM_b hW (way := m 0 66) (mn := w 11 v)
  have hfb := fr_b (w := w) (by omega) (by omega) (by omega) hc hpx
  obtain ⟨m1, e1, f1, n1⟩ := m_lc hT hW hs hv hc
  have hT1 := hT.pn f1
  unfold G12_oddsOf G12_oddsOf_0 G12_oddsOf_29
  rw [e1, bs1]
  simp only
  have fin : ∀ wo : Int, wo = (if 0 < 100 - 20 * fr w c (pxM w (m 0 66) (w 11 v)) then 100 - 20 * fr w c (pxM w (m 0 66) (w 11 v)) else 0) → ∃ m', ((G12_boundLaw m1 0 wo 0 100).bind fun o1 => some (o1.1, o1.2)) = some (oddsV w (bdM w (m 0 66) s) (pxM w (m 0 66) (w 11 v)) v c, m') ∧ Fm PNm m m' := by
    intro wo hwo
    obtain ⟨m2, e2, f2⟩ := m_bl (m := m1) (w := w) (k := 0) (a := 16) (b := 17) (by omega) (nm := nmC w (bdM w (m 0 66) s) (pxM w (m 0 66) (w 11 v)) v c) hT1.2.2.2.2.2.1 hW.2.2.2.2.1 (fun q x y => ⟨bM_sm (nmC_b hW (bdM_b hW hs) hv hc hpx q), n1 q x y⟩) (wo := wo) (lo := 0) (hi := 100) (by omega)
    rw [e2, bs1]
    refine ⟨m2, ?_, f1.tr (f2.mono PE_N)⟩
    rw [hwo]; rfl
  split
  · exact fin 0 (by rw [if_neg (by omega)])
  · rw [gd3_t (by omega)]
    exact fin _ (by rw [if_pos (by omega)])
theorem m_away (hT : RT m w) (hW : WW w) {s v : Int} (hs : 0 ≤ s ∧ s < w 1 0) (hv : 0 ≤ v ∧ v < w 8 1) : ∃ m', G12_awayOf m s v = some (awayN w (bdM w (m 0 66) s) v, m') ∧ Fm PNm m m' := by
  have hw := hW.1
  unfold WS at hw
  obtain ⟨a1, a2, a3, a4, a5, a6, a7, a8, a9, a10⟩ := wnm hT hW hv
  unfold G12_awayOf G12_awayOf_0
  rw [m_bd hT hs (by omega), bs1, gdx_t (by omega)]
  simp only
  rw [a7]
  obtain ⟨m1, e1, f1, g3, g4, g5, g6, g7, g8⟩ := m_nm m 0 0 (bdM w (m 0 66) s) v (w 11 v) (Or.inr ⟨a1, a2, a3, a4, a5, a6⟩)
  have fN : Fm PNm m m1 := f1.mono (fun b i z => Or.inl z)
  have hT1 := hT.pn fN
  rw [e1, bs1]
  obtain ⟨m2, e2, f2⟩ := m_bl (m := m1) (w := w) (k := 2) (a := 20) (b := 21) (by omega) (nm := nmA w (bdM w (m 0 66) s) v) hT1.2.2.2.2.2.2.2 hW.2.2.2.2.2.2 (fun q x y => ⟨bM_sm (nmA_b hW (bdM_b hW hs) hv q), by
    have : q = 0 ∨ q = 1 ∨ q = 2 ∨ q = 3 ∨ q = 4 ∨ q = 5 := by omega
    unfold nmA
    rcases this with rfl | rfl | rfl | rfl | rfl | rfl
    · exact g3
    · exact g4
    · exact g5
    · rw [g6, if_neg (by omega), a8]; rfl
    · exact g7
    · rw [g8, if_neg (by omega), a10]; rfl⟩) (wo := 5) (lo := 1) (hi := 30) (by omega)
  rw [e2, bs1]
  exact ⟨m2, rfl, fN.tr (f2.mono PE_N)⟩
end MS
