/-! The reference: who is in the order. -/
/-- boards, boldness and the peak as they are tried: way -1 as told -/
def gM (w : Mem) (way : Int) : Mem := fun c i => if c = 1 then bdM w way i else if c = 2 then (if way = 0 then 0 else w 6 i) else if c = 3 then pxM w way (w 11 i) else 0
/-- the reference's rows of bank b hold the minute n -/
def NM (v : Mem) (b : Int) (w n : Mem) : Prop := (∀ i, 0 ≤ i → i < w 1 0 → v 25 (5 * b + i) = n 1 i ∧ v 26 (5 * b + i) = n 2 i ∧ v 27 (5 * b + i) = n 3 i) ∧ (∀ k, 0 ≤ k → k < w 8 1 → v 30 (28 * b + k) = n 6 k) ∧ v 32 b = n 0 3 ∧ v 33 b = n 0 4 ∧ v 0 65 = n 0 2
/-- till when each is away, at minute mn -/
def TLM (v : Mem) (b : Int) (w n : Mem) (way one mn : Int) : Prop := ∀ i, 0 ≤ i → i < w 1 0 → (way = 1 ∧ one = i ∧ 1000 < n 4 i) ∨ (¬ (way = 1 ∧ one = i) ∧ v 28 (5 * b + i) = if n 4 i ≤ mn then 0 else n 4 i)
def keyM (w : Mem) (way : Int) (n : Mem) (v i : Int) : Int := if n 0 1 = 0 then fr w (n 1 i) (pxM w way (w 11 v)) else if n 0 1 = 1 then n 2 i else if n 0 1 = 3 then -(n 1 i / w 0 0) else (if hos w n i (w 13 v) = 0 then 0 + fr w (n 1 i) (pxM w way (w 11 v)) else 1000 + fr w (n 1 i) (pxM w way (w 11 v)))
def PO : Nat → Int → Prop := fun b i => PNm b i ∨ b = 34 ∨ (b = 0 ∧ i = 69)
theorem RT.po {v v' w : Mem} (h : RT v w) (f : Fm PO v v') : RT v' w := h.fr f (by intro b i q; unfold PO PNm; omega)
theorem NM.fr {v v' : Mem} {b : Int} {w n : Mem} (h : NM v b w n) {P : Nat → Int → Prop} (f : Fm P v v') (hp : ∀ a i, (25 ≤ a ∧ a ≤ 33) ∨ (a = 0 ∧ i = 65) → ¬ P a i) : NM v' b w n := by
  obtain ⟨h1, h2, h3, h4, h5⟩ := h
  refine ⟨fun i x y => ?_, fun k x y => ?_, ?_, ?_, ?_⟩
  · rw [f _ _ (hp 25 _ (Or.inl (by omega))), f _ _ (hp 26 _ (Or.inl (by omega))), f _ _ (hp 27 _ (Or.inl (by omega)))]; exact h1 i x y
  · rw [f _ _ (hp 30 _ (Or.inl (by omega)))]; exact h2 k x y
  · rw [f _ _ (hp 32 _ (Or.inl (by omega)))]; exact h3
  · rw [f _ _ (hp 33 _ (Or.inl (by omega)))]; exact h4
  · rw [f _ _ (hp 0 65 (Or.inr ⟨rfl, rfl⟩))]; exact h5
theorem NM.po {v v' : Mem} {b : Int} {w n : Mem} (h : NM v b w n) (f : Fm PO v v') : NM v' b w n := h.fr f (by intro a i q; unfold PO PNm; omega)
theorem TLM.fr {v v' : Mem} {b : Int} {w n : Mem} {way one mn : Int} (h : TLM v b w n way one mn) (e : v' 28 = v 28) : TLM v' b w n way one mn := by
  unfold TLM at *; rw [e]; exact h
section MO
variable {m w n : Mem} {b : Int}
theorem m_hod (hT : RT m w) (hs : 0 ≤ w 8 1 ∧ w 8 1 ≤ 28) (hb : b = 0 ∨ b = 1) (hN : NM m b w n) {s v far : Int} (hf : 0 ≤ far ∧ far ≤ 1000) (hv : 0 ≤ v ∧ v < w 8 1) : ∀ (d k : Nat) (i x : Int), 0 ≤ i → w 8 1 - i = d → d < k → (x = 0 ∨ x = 1) → G12_keyOf_76 k m b s v far x i = some ((if x = 0 then (if hod (w 13) (n 6) s (w 13 v) d i = 0 then 0 + far else 1000 + far) else 1000 + far), m) := by
  intro d
  induction d with
  | zero =>
    intro k i x a1 a2 a3 a4
    obtain ⟨k, rfl⟩ : ∃ j, k = j + 1 := ⟨k - 1, by omega⟩
    rw [G12_keyOf_76, hT.1.2.2.2.2.1, if_pos (by omega), gd3_t (by omega), gd3_t (by omega)]
    unfold hod
    rcases a4 with rfl | rfl
    · rfl
    · rfl
  | succ d ih =>
    intro k i x a1 a2 a3 a4
    obtain ⟨k, rfl⟩ : ∃ j, k = j + 1 := ⟨k - 1, by omega⟩
    have e1 := (hT.2.2.2.2.1 i (by omega) (by omega)).2.2
    have e2 := (hT.2.2.2.2.1 v hv.1 hv.2).2.2
    have e3 := hN.2.1 i (by omega) (by omega)
    rw [G12_keyOf_76, hT.1.2.2.2.2.1, if_neg (by omega)]
    unfold G12_keyOf_122
    have g1 : ∀ y : Option (Int × Mem), gd3 (i + 1) y = y := fun y => gd3_t (by omega)
    rw [gdx_t (by omega), gdx_t (by omega), gdx_t (by omega), e1, e2, e3]
    have i0 := ih k (i + 1) 0 (by omega) (by omega) (by omega) (Or.inl rfl)
    have i1 := ih k (i + 1) 1 (by omega) (by omega) (by omega) (Or.inr rfl)
    simp only [g1, i0, i1, if_true, if_neg (show ¬ (1 : Int) = 0 by decide), hod_s]
    rcases a4 with rfl | rfl
    · simp only [if_true]
      by_cases c1 : w 13 i = w 13 v
      · by_cases c2 : n 6 i = s
        · simp only [if_pos c1, if_pos c2, if_neg (show ¬ (1 : Int) = 0 by decide)]
        · simp only [if_pos c1, if_neg c2]
      · simp only [if_neg c1]
    · rfl
theorem m_key (hT : RT m w) (hW : WW w) (hb : b = 0 ∨ b = 1) (hN : NM m b w n) {f : Int} (hB : NB w n f) {s v : Int} (hs : 0 ≤ s ∧ s < w 1 0) (hv : 0 ≤ v ∧ v < w 8 1) : ∃ m', G12_keyOf m b s v (n 0 1) = some (keyM w (m 0 66) n v s, m') ∧ Fm PNm m m' := by
  have hw := hW.1
  unfold WS at hw
  have hnb := hB.2 s hs.1 hs.2
  have hrl := hB.1
  have hm := (hW.2.2.2.1 v hv.1 hv.2).2.1
  have hpx := pxM_b hW (way := m 0 66) (mn := w 11 v)
  have hfb := fr_b (w := w) (by omega) (by omega) (by omega) hnb.1 hpx
  have hcb := cell_b (W := w 0 0) (H := w 0 1) (by omega) (by omega) hnb.1
  obtain ⟨m1, e1, f1⟩ := m_pk hT hW (mn := w 11 v) (by omega)
  have hT1 := hT.pn f1
  have hN1 : NM m1 b w n := hN.fr f1 (by intro a i q; unfold PNm; omega)
  unfold G12_keyOf G12_keyOf_0
  rw [gdx_t (by omega), gdx_t (by omega), (hT.2.2.2.2.1 v hv.1 hv.2).1, (hN.1 s hs.1 hs.2).1, e1, bs1]
  simp only
  rw [m_far hT1 hW hnb.1 hpx, bs1]
  simp only
  rw [gdx_t (by omega), (hN1.1 s hs.1 hs.2).2.1, hT1.1.1, if_neg (show ¬ w 0 0 = 0 by omega), gdd_t (by omega), gd3_t (by omega), m_hod hT1 (by omega) hb hN1 (by omega) hv (w 8 1).toNat 1024 0 0 (by omega) (by omega) (by omega) (Or.inl rfl)]
  refine ⟨m1, ?_, f1⟩
  unfold keyM hos
  simp only [if_true]
  split
  · rfl
  · split
    · rfl
    · split
      · rfl
      · rfl
theorem key_le (hW : WW w) {f : Int} (hB : NB w n f) {way v e x : Int} (he : 0 ≤ e ∧ e < w 1 0) (hx : 0 ≤ x ∧ x < w 1 0) : keyM w way n v e ≤ keyM w way n v x ↔ keyV w (gM w way) n v e ≤ keyV w (gM w way) n v x := by
  have hw := hW.1
  unfold WS at hw
  have h1 := fr_b (w := w) (by omega) (by omega) (by omega) (hB.2 e he.1 he.2).1 (pxM_b hW (way := way) (mn := w 11 v))
  have h2 := fr_b (w := w) (by omega) (by omega) (by omega) (hB.2 x hx.1 hx.2).1 (pxM_b hW (way := way) (mn := w 11 v))
  have hr := hB.1
  have eg : gM w way 3 v = pxM w way (w 11 v) := rfl
  unfold keyM keyV
  rw [eg]
  have : n 0 1 = 0 ∨ n 0 1 = 1 ∨ n 0 1 = 2 ∨ n 0 1 = 3 := by omega
  rcases this with c | c | c | c
  · simp only [if_pos c, if_neg (show ¬ n 0 1 = 1 by omega), if_neg (show ¬ n 0 1 = 2 by omega), if_neg (show ¬ n 0 1 = 3 by omega)]
  · simp only [if_neg (show ¬ n 0 1 = 0 by omega), if_pos c]
  · simp only [if_neg (show ¬ n 0 1 = 0 by omega), if_neg (show ¬ n 0 1 = 1 by omega), if_neg (show ¬ n 0 1 = 3 by omega), if_pos c]
    split <;> split <;> omega
  · simp only [if_neg (show ¬ n 0 1 = 0 by omega), if_neg (show ¬ n 0 1 = 1 by omega), if_neg (show ¬ n 0 1 = 2 by omega), if_pos c]
theorem m_going (hT : RT m w) (hW : WW w) (hb : b = 0 ∨ b = 1) (hN : NM m b w n) {f : Int} (hB : NB w n f) {one mn : Int} (hL : TLM m b w n (m 0 66) one mn) (h67 : m 0 66 = 1 → m 0 67 = one) (hmn : 0 ≤ mn ∧ mn ≤ 1000) {s v : Int} (hs : 0 ≤ s ∧ s < w 1 0) (hv : 0 ≤ v ∧ v < w 8 1) : ∃ m', G12_isGoing m b s v = some ((if okL w (gM w (m 0 66)) n v mn s = true then 1 else 0), m') ∧ Fm PNm m m' := by
  have hw := hW.1
  unfold WS at hw
  have hnb := hB.2 s hs.1 hs.2
  have hl := hL s hs.1 hs.2
  obtain ⟨m1, e1, f1⟩ := m_odds hT hW hs hv hnb.1
  unfold G12_isGoing G12_isGoing_0 G12_isGoing_29
  rw [gdx_t (by omega), gdx_t (by omega), (hN.1 s hs.1 hs.2).1, e1, bs1]
  have ho : oddsV w (bdM w (m 0 66) s) (pxM w (m 0 66) (w 11 v)) v (n 1 s) = odV w (gM w (m 0 66)) n v s := rfl
  simp only
  rw [ho]
  have hok : okL w (gM w (m 0 66)) n v mn s = true ↔ n 4 s ≤ mn ∧ 0 < odV w (gM w (m 0 66)) n v s := by
    unfold okL; rw [Bool.and_eq_true]
    exact ⟨fun q => ⟨of_decide_eq_true q.1, of_decide_eq_true q.2⟩, fun q => ⟨decide_eq_true q.1, decide_eq_true q.2⟩⟩
  rcases hl with ⟨l1, l2, l3⟩ | ⟨l1, l2⟩
  · have hno : ¬ okL w (gM w (m 0 66)) n v mn s = true := fun q => by have := (hok.mp q).1; omega
    rw [if_neg hno, if_pos l1, h67 l1, if_pos l2]
    split
    · exact ⟨m, rfl, Fm.rf⟩
    · exact ⟨m, rfl, Fm.rf⟩
  · have hnw : ¬ (m 0 66 = 1 ∧ m 0 67 = s) := fun q => l1 ⟨q.1, by rw [← h67 q.1]; exact q.2⟩
    have same : (if m 0 66 = 1 then (if m 0 67 = s then some ((0 : Int), m) else if odV w (gM w (m 0 66)) n v s ≤ 0 then some (0, m1) else some (1, m1)) else if odV w (gM w (m 0 66)) n v s ≤ 0 then some (0, m1) else some (1, m1)) = if odV w (gM w (m 0 66)) n v s ≤ 0 then some (0, m1) else some (1, m1) := by
      by_cases z : m 0 66 = 1
      · rw [if_pos z, if_neg (fun q => hnw ⟨z, q⟩)]
      · rw [if_neg z]
    rw [same, l2]
    by_cases c1 : n 4 s ≤ mn
    · rw [if_pos c1, if_pos rfl]
      by_cases c2 : odV w (gM w (m 0 66)) n v s ≤ 0
      · rw [if_pos c2, if_neg (fun q => by have := (hok.mp q).2; omega)]
        exact ⟨m1, rfl, f1⟩
      · rw [if_neg c2, if_pos (hok.mpr ⟨c1, by omega⟩)]
        exact ⟨m1, rfl, f1⟩
    · rw [if_neg c1, if_neg (by omega), if_neg (fun q => c1 (hok.mp q).1)]
      exact ⟨m, rfl, Fm.rf⟩
/-- the inner loop: one is put into the row -/
theorem m_put (hW : WW w) (hb : b = 0 ∨ b = 1) {f : Int} (hB : NB w n f) {way x v : Int} (hx : 0 ≤ x ∧ x < w 1 0) (hv : 0 ≤ v ∧ v < w 8 1) {kk : Mem → Int → Int → Int → Int → Option Mem} : ∀ (lo hi : List Int) (k : Nat) (m : Mem), lo.length < k → lo.length + hi.length < 5 → RT m w → NM m b w n → m 0 66 = way → m 0 69 = lo.length + hi.length → (∀ e ∈ lo, 0 ≤ e ∧ e < w 1 0) → stkO (m 34) 0 lo → stkO (m 34) (lo.length + 1) hi → ∃ m', G12_layOrder_48 kk k m b v (n 0 1) x (keyM w way n v x) lo.length = kk m' b v (n 0 1) (x + 1) ∧ Fm PO m m' ∧ stkO (m' 34) 0 (hi ++ insR (keyM w way n v) x lo) ∧ m' 0 69 = lo.length + hi.length + 1 := by
  have hw := hW.1
  unfold WS at hw
  intro lo
  have fin : ∀ (lo hi : List Int) (m : Mem), lo.length + hi.length < 5 → m 0 69 = lo.length + hi.length → stkO (m 34) 0 lo → stkO (m 34) (lo.length + 1) hi → ∃ m', G12_layOrder_96 kk m b v (n 0 1) x lo.length = kk m' b v (n 0 1) (x + 1) ∧ Fm PO m m' ∧ stkO (m' 34) 0 (hi ++ x :: lo) ∧ m' 0 69 = lo.length + hi.length + 1 := by
    intro lo hi m h1 h69 h2 h3
    unfold G12_layOrder_96
    rw [gdx_t (by omega), wt_e, up_a (by decide), h69, gd3_t (by omega), wt_e, gd3_t (by omega)]
    refine ⟨_, rfl, (Fm.w1 (Or.inr (Or.inl rfl))).w (Or.inr (Or.inr ⟨rfl, rfl⟩)), ?_, up_e⟩
    rw [up_b (by decide)]
    refine stkO_app ?_ ⟨?_, ?_⟩
    · have : (0 : Int) + ((x :: lo).length : Int) = lo.length + 1 := by simp
      rw [this]
      exact stkO_up h3 (fun j a b => up_i (by omega))
    · rw [Int.zero_add]; exact up_e
    · exact stkO_up h2 (fun j a b => up_i (by omega))
  induction lo with
  | nil =>
    intro hi k m a1 a2 hT hN h66 a3 a4 a5 a6
    obtain ⟨k, rfl⟩ : ∃ j, k = j + 1 := ⟨k - 1, by omega⟩
    rw [G12_layOrder_48, if_pos (by simp)]
    exact fin [] hi m a2 a3 a5 a6
  | cons y r ih =>
    intro hi k m a1 a2 hT hN h66 a3 a4 a5 a6
    obtain ⟨k, rfl⟩ : ∃ j, k = j + 1 := ⟨k - 1, by omega⟩
    have hl : ((y :: r).length : Int) = r.length + 1 := by simp
    have hl' : (y :: r).length = r.length + 1 := by simp
    have hy := a4 y (by simp)
    have e1 : m 34 (((y :: r).length : Int) - 1) = y := by
      have := a5.1
      rw [Int.zero_add] at this
      rw [hl, Int.add_sub_cancel]; exact this
    obtain ⟨m1, q1, f1⟩ := m_key hT hW hb hN hB hy hv
    rw [h66] at q1
    have f1' : Fm PO m m1 := f1.mono (fun a i z => Or.inl z)
    have r34 : m1 34 = m 34 := funext fun i => f1 34 i (by unfold PNm; omega)
    have k69 : m1 0 69 = m 0 69 := f1 0 69 (by unfold PNm; omega)
    have k66 : m1 0 66 = m 0 66 := f1 0 66 (by unfold PNm; omega)
    rw [G12_layOrder_48, if_neg (by omega), gdx_t (by omega), e1, q1, bs1]
    simp only
    unfold insR
    by_cases c : keyM w way n v y ≤ keyM w way n v x
    · rw [if_pos c, if_pos c]
      obtain ⟨m', z1, z2, z3, z4⟩ := fin (y :: r) hi m1 a2 (by rw [k69]; exact a3) (by rw [r34]; exact a5) (by rw [r34]; exact a6)
      exact ⟨m', z1, f1'.tr z2, z3, z4⟩
    · rw [if_neg c, if_neg c, gdx_t (by omega), gdx_t (by omega), wt_e, gd3_t (by omega), r34, e1]
      have e2 : ((y :: r).length : Int) + -1 = r.length := by omega
      rw [e2]
      have f2 : Fm PO m (up m1 34 ((y :: r).length : Int) y) := f1'.w (Or.inr (Or.inl rfl))
      obtain ⟨m', z1, z2, z3, z4⟩ := ih (hi ++ [y]) k (up m1 34 ((y :: r).length : Int) y) (by omega) (by simp; omega) (hT.po f2) (hN.po f2) (by rw [up_a (by decide), k66]; exact h66) (by rw [up_a (by decide), k69, a3]; simp; omega) (fun e he => a4 e (List.mem_cons_of_mem _ he)) (stkO_up a5.2 (fun j a b => by rw [up_i (by omega), r34])) (stkO_app (by
          have : (r.length : Int) + 1 + (([y] : List Int).length : Int) = ((y :: r).length : Int) + 1 := by simp
          rw [this]
          exact stkO_up a6 (fun j a b => by rw [up_i (by omega), r34])) ⟨by
            have : (r.length : Int) + 1 + (([] : List Int).length : Int) = ((y :: r).length : Int) := by simp
            rw [this]; exact up_e, trivial⟩)
      refine ⟨m', z1, f2.tr z2, ?_, ?_⟩
      · rw [List.append_assoc] at z3
        exact z3
      · rw [z4]; simp; omega
theorem m_ord8 (hW : WW w) (hb : b = 0 ∨ b = 1) {f : Int} (hB : NB w n f) {way one mn v : Int} (hmn : 0 ≤ mn ∧ mn ≤ 1000) (hv : 0 ≤ v ∧ v < w 8 1) : ∀ (d k : Nat) (i : Int) (rl : List Int) (m : Mem), 0 ≤ i → w 1 0 - i = d → d < k → (rl.length : Int) ≤ i → (∀ e ∈ rl, 0 ≤ e ∧ e < i) → RT m w → NM m b w n → TLM m b w n way one mn → m 0 66 = way → (way = 1 → m 0 67 = one) → m 0 69 = rl.length → stkO (m 34) 0 rl → ∃ m', G12_layOrder_8 k m b v (n 0 1) i = some m' ∧ Fm PO m m' ∧ stkO (m' 34) 0 (lud (okL w (gM w way) n v mn) (keyV w (gM w way) n v) d i rl) ∧ m' 0 69 = (lud (okL w (gM w way) n v mn) (keyV w (gM w way) n v) d i rl).length := by
  have hw := hW.1
  unfold WS at hw
  intro d
  induction d with
  | zero =>
    intro k i rl m a1 a2 a3 a4 a5 hT hN hL h66 h67 h69 hst
    obtain ⟨k, rfl⟩ : ∃ j, k = j + 1 := ⟨k - 1, by omega⟩
    rw [G12_layOrder_8, hT.1.2.2.1, if_pos (by omega)]
    exact ⟨m, rfl, Fm.rf, hst, h69⟩
  | succ d ih =>
    intro k i rl m a1 a2 a3 a4 a5 hT hN hL h66 h67 h69 hst
    obtain ⟨k, rfl⟩ : ∃ j, k = j + 1 := ⟨k - 1, by omega⟩
    obtain ⟨m1, q1, f1⟩ := m_going hT hW hb hN hB (one := one) (mn := mn) (by rw [h66]; exact hL) (by rw [h66]; exact h67) hmn (s := i) (v := v) (by omega) hv
    rw [h66] at q1
    have f1' : Fm PO m m1 := f1.mono (fun a i z => Or.inl z)
    have r34 : m1 34 = m 34 := funext fun i => f1 34 i (by unfold PNm; omega)
    have r28 : m1 28 = m 28 := funext fun i => f1 28 i (by unfold PNm; omega)
    have k69 : m1 0 69 = m 0 69 := f1 0 69 (by unfold PNm; omega)
    have k66 : m1 0 66 = m 0 66 := f1 0 66 (by unfold PNm; omega)
    have k67 : m1 0 67 = m 0 67 := f1 0 67 (by unfold PNm; omega)
    have hT1 := hT.po f1'
    have hN1 := hN.po f1'
    rw [G12_layOrder_8, hT.1.2.2.1, if_neg (by omega), q1, bs1]
    simp only
    have e : lud (okL w (gM w way) n v mn) (keyV w (gM w way) n v) (d + 1) i rl = if okL w (gM w way) n v mn i = true then lud (okL w (gM w way) n v mn) (keyV w (gM w way) n v) d (i + 1) (insR (keyV w (gM w way) n v) i rl) else lud (okL w (gM w way) n v mn) (keyV w (gM w way) n v) d (i + 1) rl := rfl
    rw [e]
    by_cases c : okL w (gM w way) n v mn i = true
    · rw [if_pos c, if_neg (by decide)]
      obtain ⟨m2, q2, f2⟩ := m_key hT1 hW hb hN1 hB (s := i) (v := v) (by omega) hv
      rw [k66, h66] at q2
      rw [q2, bs1]
      simp only
      have f2' : Fm PO m m2 := f1'.tr (f2.mono (fun a i z => Or.inl z))
      have r34' : m2 34 = m 34 := (funext fun i => f2 34 i (by unfold PNm; omega) : m2 34 = m1 34).trans r34
      have r28' : m2 28 = m 28 := (funext fun i => f2 28 i (by unfold PNm; omega) : m2 28 = m1 28).trans r28
      have k69' : m2 0 69 = m 0 69 := (f2 0 69 (by unfold PNm; omega)).trans k69
      have k66' : m2 0 66 = m 0 66 := (f2 0 66 (by unfold PNm; omega)).trans k66
      have k67' : m2 0 67 = m 0 67 := (f2 0 67 (by unfold PNm; omega)).trans k67
      rw [k69', h69]
      obtain ⟨m3, q3, f3, s3, t3⟩ := m_put (way := way) (kk := fun m x1 x2 x3 x4 => G12_layOrder_8 k m x1 x2 x3 x4) hW hb hB (x := i) (v := v) (by omega) hv rl [] 1024 m2 (by omega) (by simp; omega) (hT.po f2') (hN.po f2') (by rw [k66']; exact h66) (by rw [k69', h69]; simp) (fun e he => by have := a5 e he; omega) (by rw [r34']; exact hst) trivial
      rw [q3]
      have hins : insR (keyM w way n v) i rl = insR (keyV w (gM w way) n v) i rl := insR_key (fun e he => key_le hW hB (by have := a5 e he; omega) (by omega))
      rw [List.nil_append, hins] at s3
      have f3' := f2'.tr f3
      have hlen := insR_len (keyV w (gM w way) n v) i rl
      have p28 : m3 28 = m 28 := (funext fun j => f3 28 j (by unfold PO PNm; omega) : m3 28 = m2 28).trans r28'
      obtain ⟨m', z1, z2, z3, z4⟩ := ih k (i + 1) (insR (keyV w (gM w way) n v) i rl) m3 (by omega) (by omega) (by omega) (by omega) (fun e he => by
        rcases insR_mem.mp he with rfl | q
        · omega
        · have := a5 e q; omega) (hT.po f3') (hN.po f3') (hL.fr p28) (by rw [f3 0 66 (by unfold PO PNm; omega), k66']; exact h66) (fun z => by rw [f3 0 67 (by unfold PO PNm; omega), k67']; exact h67 z) (by rw [t3, hlen]; simp) s3
      rw [if_pos c]
      exact ⟨m', z1, f3'.tr z2, z3, z4⟩
    · rw [if_neg c, if_pos rfl, gd3_t (by omega), if_neg c]
      obtain ⟨m', z1, z2, z3, z4⟩ := ih k (i + 1) rl m1 (by omega) (by omega) (by omega) (by omega) (fun e he => by have := a5 e he; omega) hT1 hN1 (hL.fr r28) (by rw [k66]; exact h66) (fun z => by rw [k67]; exact h67 z) (by rw [k69]; exact h69) (by rw [r34]; exact hst)
      exact ⟨m', z1, f1'.tr z2, z3, z4⟩
theorem m_ord (hT : RT m w) (hW : WW w) (hb : b = 0 ∨ b = 1) (hN : NM m b w n) {f : Int} (hB : NB w n f) {way one mn v : Int} (hL : TLM m b w n way one mn) (h66 : m 0 66 = way) (h67 : way = 1 → m 0 67 = one) (hmn : 0 ≤ mn ∧ mn ≤ 1000) (hv : 0 ≤ v ∧ v < w 8 1) : ∃ m', G12_layOrder m b v (n 0 1) = some m' ∧ Fm PO m m' ∧ stkO (m' 34) 0 (lu w (gM w way) n v mn) ∧ m' 0 69 = (lu w (gM w way) n v mn).length := by
  have hw := hW.1
  unfold WS at hw
  unfold G12_layOrder G12_layOrder_0
  rw [wt_e]
  have f1 : Fm PO m (up m 0 69 0) := Fm.w1 (Or.inr (Or.inr ⟨rfl, rfl⟩))
  obtain ⟨m', z1, z2, z3, z4⟩ := m_ord8 hW hb hB hmn hv (w 1 0).toNat 1024 0 [] (up m 0 69 0) (by omega) (by omega) (by omega) (by simp) (fun e he => nomatch he) (hT.po f1) (hN.po f1) (hL.fr (up_b (by decide))) (by rw [up_i (by decide)]; exact h66) (fun z => by rw [up_i (by decide)]; exact h67 z) up_e trivial
  exact ⟨m', z1, f1.tr z2, z3, z4⟩
end MO
