/-! A law: its signs one behind another, what it comes to; the class works it out so. -/
def jn (t a b : Int) : Int :=
  if t = 16 then (if a = 0 then 0 else if b = 0 then 0 else 1)
  else if t = 17 then (if a = 0 then (if b = 0 then 0 else 1) else 1)
  else if t = 26 then (if b ≤ a then 0 else 1)
  else if t = 27 then (if b < a then 0 else 1)
  else if t = 28 then (if a = b then 1 else 0)
  else if t = 29 then (if a = b then 0 else 1)
  else if t = 30 then (if a < b then 0 else 1)
  else if t = 31 then (if a ≤ b then 0 else 1)
  else if t = 32 then a + b
  else if t = 33 then a - b
  else if t = 34 then (if -1000000000000 ≤ a * b ∧ a * b ≤ 1000000000000 then a * b else -9223372036854775808)
  else if t = 35 then (if b = 0 then -9223372036854775808 else Int.tdiv a b)
  else -9223372036854775808
/-- the numbers of the parts that still wait, behind j signs -/
def ist (kn : Int → Int) : Nat → List Int
  | 0 => []
  | j + 1 => if kn j < 10000 ∨ (10018 ≤ kn j ∧ kn j < 10024) then (j : Int) :: ist kn j else if kn j = 10015 then (j : Int) :: (ist kn j).drop 1 else (j : Int) :: (ist kn j).drop 2
def bnk (k : Int) : Prop := k = 10016 ∨ k = 10017 ∨ (10026 ≤ k ∧ k ≤ 10035)
def LX (kn : Int → Int) (len : Int) : Prop := (0 ≤ len ∧ len ≤ 64) ∧ (∀ j : Nat, (j : Int) < len → (0 ≤ kn j ∧ kn j < 10000) ∨ (10018 ≤ kn j ∧ kn j < 10024) ∨ (kn j = 10015 ∧ 1 ≤ (ist kn j).length) ∨ (bnk (kn j) ∧ 2 ≤ (ist kn j).length)) ∧ (0 < len → (ist kn len.toNat).length = 1)
def stp (kn nm : Int → Int) (j : Int) (st : List Int) : Option (List Int) :=
  if kn j < 10000 then some (kn j :: st)
  else if 10018 ≤ kn j ∧ kn j < 10024 then some (nm (kn j - 10018) :: st)
  else if kn j = 10015 then (match st with
    | v :: r => some ((if v = 0 then 1 else 0) :: r)
    | _ => none)
  else (match st with
    | b :: a :: r => if 1000000000000 < jn (kn j - 10000) a b ∨ jn (kn j - 10000) a b < -1000000000000 then none else some (jn (kn j - 10000) a b :: r)
    | _ => none)
def evl (kn nm : Int → Int) : Nat → Option (List Int)
  | 0 => some []
  | j + 1 => (evl kn nm j).bind (stp kn nm j)
def lv (kn nm : Int → Int) (len : Int) : Int := match evl kn nm len.toNat with
  | some [v] => v
  | _ => -9223372036854775808
theorem evl_none {kn nm : Int → Int} {j : Nat} (h : evl kn nm j = none) : ∀ d : Nat, evl kn nm (j + d) = none := by
  intro d
  induction d with
  | zero => exact h
  | succ d ih => show (evl kn nm (j + d)).bind _ = none; rw [ih]; rfl
theorem lv_none {kn nm : Int → Int} {j : Nat} (h : evl kn nm j = none) {len : Int} (hl : (j : Int) ≤ len) : lv kn nm len = -9223372036854775808 := by
  unfold lv
  have : len.toNat = j + (len.toNat - j) := by omega
  rw [this, evl_none h]
/-- a waiting row: the last of it is at the head -/
def stk (f : Int → Int) : List Int → Prop
  | [] => True
  | v :: r => f (r.length : Int) = v ∧ stk f r
theorem stk_up {f g : Int → Int} : ∀ {st : List Int}, stk f st → (∀ j : Int, 0 ≤ j → j < st.length → g j = f j) → stk g st := by
  intro st
  induction st with
  | nil => intros; trivial
  | cons v r ih =>
    intro h1 h2
    have hl : ((v :: r).length : Int) = r.length + 1 := by simp
    exact ⟨by rw [h2 _ (by omega) (by omega)]; exact h1.1, ih h1.2 (fun j a b => h2 j a (by omega))⟩
def bM (v : Int) : Prop := -1000000000000 ≤ v ∧ v ≤ 1000000000000
def bMs (st : List Int) : Prop := ∀ v ∈ st, bM v
theorem ab_mul (a b : Int) : ab a * ab b = ab (a * b) := by
  unfold ab
  by_cases h1 : 0 ≤ a
  · by_cases h2 : 0 ≤ b
    · rw [if_pos h1, if_pos h2, if_pos (Int.mul_nonneg h1 h2)]
    · rw [if_pos h1, if_neg h2]
      by_cases h3 : 0 ≤ a * b
      · rw [if_pos h3]
        have : a * b ≤ 0 := Int.mul_nonpos_of_nonneg_of_nonpos h1 (by omega)
        have h4 : a * (0 - b) = -(a * b) := by rw [Int.mul_sub]; omega
        omega
      · rw [if_neg h3, Int.mul_sub]; omega
  · by_cases h2 : 0 ≤ b
    · rw [if_neg h1, if_pos h2]
      have h4 : (0 - a) * b = -(a * b) := by rw [Int.sub_mul]; omega
      by_cases h3 : 0 ≤ a * b
      · rw [if_pos h3]
        have : a * b ≤ 0 := Int.mul_nonpos_of_nonpos_of_nonneg (by omega) h2
        omega
      · rw [if_neg h3]; omega
    · rw [if_neg h1, if_neg h2]
      have h4 : (0 - a) * (0 - b) = a * b := by rw [Int.zero_sub, Int.zero_sub, Int.neg_mul_neg]
      have : 0 ≤ a * b := by rw [← h4]; exact Int.mul_nonneg (by omega) (by omega)
      rw [if_pos this, h4]
theorem mul_fit {a b : Int} (hb : ab b > 0) : ab a ≤ Int.tdiv 1000000000000 (ab b) ↔ (-1000000000000 ≤ a * b ∧ a * b ≤ 1000000000000) := by
  rw [Int.tdiv_eq_ediv_of_nonneg (by decide), Int.le_ediv_iff_mul_le hb, ab_mul]
  have := ab_b (a * b)
  constructor <;> intro h <;> omega
theorem tdiv_b {a b : Int} (ha : bM a) : bM (Int.tdiv a b) := by
  have h1 : (Int.tdiv a b).natAbs ≤ a.natAbs := by
    rw [Int.natAbs_tdiv]; exact Nat.div_le_self _ _
  unfold bM at *
  omega
section LAW
variable {m : Mem}
theorem g_one (x : Int) : G2_oneIf m x = some (if x = 0 then 0 else 1, m) := by
  unfold G2_oneIf G2_oneIf_0; split <;> rfl
theorem g_one0 : G2_oneIf m 0 = some (0, m) := rfl
theorem g_one1 : G2_oneIf m 1 = some (1, m) := rfl
theorem g_prod {a b : Int} (ha : bM a) (hb : bM b) : G2_product m a b = some (if -1000000000000 ≤ a * b ∧ a * b ≤ 1000000000000 then a * b else -9223372036854775808, m) := by
  have hA := ab_b a
  have hB := ab_b b
  have key : G2_product m a b = G2_product_26 m a b (ab a) (ab b) := by
    unfold bM at ha hb
    unfold G2_product G2_product_0 G2_product_12 ab
    by_cases h1 : 0 ≤ a <;> by_cases h2 : 0 ≤ b
    · rw [if_pos h1, if_pos h2, if_pos h1, if_pos h2]
    · rw [if_pos h1, if_neg h2, if_pos h1, if_neg h2, gd6_t (by omega), Int.zero_sub]
    · rw [if_neg h1, gd6_t (by omega), if_pos h2, if_neg h1, if_pos h2, Int.zero_sub]
    · rw [if_neg h1, gd6_t (by omega), if_neg h2, gd6_t (by omega), if_neg h1, if_neg h2, Int.zero_sub, Int.zero_sub]
  rw [key]
  unfold G2_product_26
  by_cases h0 : ab b ≤ 0
  · rw [if_pos h0]
    have : b = 0 := by omega
    subst this
    rw [Int.mul_zero, gd6_t (by omega), if_pos (by omega)]
  · rw [if_neg h0, if_neg (by omega)]
    have hf := mul_fit (a := a) (b := b) (by omega)
    have htd : bM (Int.tdiv 1000000000000 (ab b)) := tdiv_b ⟨by decide, by decide⟩
    unfold bM at htd
    rw [gd6_t (by omega)]
    by_cases h1 : ab a ≤ Int.tdiv 1000000000000 (ab b)
    · have h2 := hf.mp h1
      rw [if_pos h1, gd6_t (by omega), if_pos h2]
    · rw [if_neg h1, if_neg (fun q => h1 (hf.mpr q))]
theorem g_jn (t : Int) {a b : Int} (ha : bM a) (hb : bM b) : G2_join m t a b = some (jn t a b, m) := by
  have htd : bM (Int.tdiv a b) := tdiv_b ha
  have e := g_prod (m := m) ha hb
  unfold bM at ha hb htd
  unfold G2_join G2_join_0 jn
  simp only [G2_join_133, G2_join_134, G2_join_113, G2_join_108, G2_join_149, G2_join_164, G2_join_179, G2_join_194, G2_join_209, G2_join_224, g_one0, g_one1, bs1, so_ite]
  rw [e, bs1, gd6_t (by omega), gd6_t (by omega), gd6_t (by omega)]
  simp only [so_ite]
  by_cases hb0 : b = 0
  · simp only [if_pos hb0]
  · simp only [if_neg hb0]
theorem evl_len {kn nm : Int → Int} {len : Int} (hL : LX kn len) : ∀ (j : Nat) (st : List Int), (j : Int) ≤ len → evl kn nm j = some st → st.length = (ist kn j).length := by
  intro j
  induction j with
  | zero => intro st _ h; cases h; rfl
  | succ j ih =>
    intro st hj h
    obtain ⟨s0, h1, h2⟩ := ob h
    have hl := ih s0 (by omega) h1
    have hc := hL.2.1 j (by omega)
    unfold stp at h2
    unfold ist
    rcases hc with hc | hc | hc | hc
    · rw [if_pos hc.2] at h2
      cases h2
      rw [if_pos (Or.inl hc.2)]
      simp [hl]
    · rw [if_neg (by omega), if_pos hc] at h2
      cases h2
      rw [if_pos (Or.inr hc)]
      simp [hl]
    · rw [if_neg (by omega), if_neg (by omega), if_pos hc.1] at h2
      rw [if_neg (by omega), if_pos hc.1]
      cases s0 with
      | nil => cases h2
      | cons v r =>
        cases h2
        simp only [List.length_cons, List.length_drop] at *
        omega
    · have hb : ¬ kn j < 10000 ∧ ¬ (10018 ≤ kn j ∧ kn j < 10024) ∧ ¬ kn j = 10015 := by
        have := hc.1; unfold bnk at this; omega
      rw [if_neg hb.1, if_neg hb.2.1, if_neg hb.2.2] at h2
      rw [if_neg (by omega), if_neg hb.2.2]
      cases s0 with
      | nil => cases h2
      | cons v r =>
        cases r with
        | nil => cases h2
        | cons v2 r =>
          simp only at h2
          split at h2
          · cases h2
          · cases h2
            simp only [List.length_cons, List.length_drop] at *
            omega
theorem ist_le (kn : Int → Int) : ∀ j : Nat, (ist kn j).length ≤ j := by
  intro j
  induction j with
  | zero => exact Nat.le_refl 0
  | succ j ih =>
    unfold ist
    split
    · simp; omega
    · split
      · simp; omega
      · simp; omega
theorem g_val5 {l a1 a2 : Nat} {kn nm : Int → Int} {len : Int} (hL : LX kn len) (hn : ∀ j, 0 ≤ j → j < 6 → bM (nm j)) (d1 : l ≠ a2) (d2 : l + 1 ≠ a2) (d3 : a1 ≠ a2) :
    ∀ (d n : Nat) (i : Nat) (st : List Int) (m : Mem), len - (i : Int) = d → d < n → evl kn nm i = some st → bMs st → stk (m a2) st → m l 1 = len → (∀ j, 0 ≤ j → j < len → m (l + 1) j = kn j) → (∀ j, 0 ≤ j → j < 6 → m a1 j = nm j) →
    ∃ m', G2_valueFor_5 n m l a1 a2 (st.length : Int) (i : Int) = some (lv kn nm len, m') ∧ Fr (fun b => b = a2) m m' := by
  intro d
  induction d with
  | zero =>
    intro n i st m h1 h2 h3 h4 h5 h6 h7 h8
    obtain ⟨n, rfl⟩ : ∃ k, n = k + 1 := ⟨n - 1, by omega⟩
    refine ⟨m, ?_, Fr.rf⟩
    rw [G2_valueFor_5, h6, if_pos (by omega)]
    unfold G2_valueFor_177 lv
    have hi : len.toNat = i := by omega
    rw [hi, h3]
    match st, h5 with
    | [], _ => rfl
    | [v], h5 =>
      have : m a2 0 = v := h5.1
      rw [if_pos (by simp), this]
    | a :: b :: r, _ =>
      rw [if_neg (by simp only [List.length_cons]; omega)]
  | succ d ih =>
    intro n i st m h1 h2 h3 h4 h5 h6 h7 h8
    obtain ⟨n, rfl⟩ : ∃ k, n = k + 1 := ⟨n - 1, by omega⟩
    have hlen := evl_len hL i st (by omega) h3
    have hle := ist_le kn i
    have hb := hL.1
    have hc := hL.2.1 i (by omega)
    have hk := h7 i (by omega) (by omega)
    have hev : evl kn nm (i + 1) = stp kn nm i st := by show (evl kn nm i).bind _ = _; rw [h3]; rfl
    have hi1 : ((i : Int) + 1) = ((i + 1 : Nat) : Int) := by omega
    rw [G2_valueFor_5, h6, if_neg (by omega), if_neg (by omega), gdx_t (by omega), hk, gd3_t (by unfold bnk at hc; omega)]
    -- what is put on the row
    have push : ∀ v : Int, bM v → stp kn nm i st = some (v :: st) → ∃ m', gdx (st.length : Int) 64 (wt (up m a2 st.length v) fun m17 => gd3 ((st.length : Int) + 1) (gd3 ((i : Int) + 1) (G2_valueFor_5 n m17 l a1 a2 ((st.length : Int) + 1) ((i : Int) + 1)))) = some (lv kn nm len, m') ∧ Fr (fun b => b = a2) m m' := by
      intro v hv hs
      rw [gdx_t (by omega)]
      rw [wt_e]
      rw [gd3_t (by omega), gd3_t (by omega)]
      have e1 : ((st.length : Int) + 1) = ((v :: st).length : Int) := by simp
      rw [e1, hi1]
      obtain ⟨m', q1, q2⟩ := ih n (i + 1) (v :: st) (up m a2 st.length v) (by omega) (by omega) (by rw [hev]; exact hs) (by intro x hx; rcases List.mem_cons.mp hx with rfl | hx; exact hv; exact h4 x hx) ⟨up_e, stk_up h5 (fun j a b => up_i (by omega))⟩ (by rw [up_a d1]; exact h6) (fun j a b => by rw [up_a d2]; exact h7 j a b) (fun j a b => by rw [up_a d3]; exact h8 j a b)
      exact ⟨m', q1, Fr.tr (Fr.up (P := fun b => b = a2) Fr.rf rfl) q2⟩
    rcases hc with hc | hc | hc | hc
    · rw [if_neg (by omega), gdx_t (by omega)]
      exact push (kn i) (by unfold bM; omega) (by unfold stp; rw [if_pos hc.2])
    · rw [if_pos (by omega), gd3_t (by omega), if_neg (by omega), gd3_t (by omega), if_neg (by omega), gdx_t (by omega)]
      have e2 : kn i - 10000 - 18 = kn i - 10018 := by omega
      rw [e2, h8 _ (by omega) (by omega)]
      exact push _ (hn _ (by omega) (by omega)) (by unfold stp; rw [if_neg (by omega), if_pos hc])
    · rw [if_pos (by omega), gd3_t (by omega), if_pos (by omega), gd3_t (by omega)]
      unfold G2_valueFor_85
      rw [if_pos (by omega), if_neg (by omega), gdx_t (by omega), gd3_t (by omega), gd3_t (by omega)]
      obtain ⟨v, r, rfl⟩ : ∃ v r, st = v :: r := by
        cases st with
        | nil => simp only [List.length_nil] at hlen; omega
        | cons v r => exact ⟨v, r, rfl⟩
      have hv : m a2 (((v :: r).length : Int) - 1) = v := by
        have := h5.1
        have e : ((v :: r).length : Int) - 1 = r.length := by simp
        rw [e]; exact this
      rw [hv]
      have step : ∀ x : Int, bM x → x = (if v = 0 then 1 else 0) → ∃ m', G2_valueFor_115 (fun m a0 a1 a2 x3 x4 => G2_valueFor_5 n m a0 a1 a2 x3 x4) m l a1 a2 ((v :: r).length : Int) (i : Int) x (((v :: r).length : Int) - 1) a2 = some (lv kn nm len, m') ∧ Fr (fun b => b = a2) m m' := by
        intro x hx hxe
        unfold G2_valueFor_115
        rw [gdx_t (by simp only [List.length_cons] at *; omega)]
        rw [wt_e]
        rw [gd3_t (by omega), hi1]
        have e : ((v :: r).length : Int) - 1 = r.length := by simp
        have e1 : ((v :: r).length : Int) = ((x :: r).length : Int) := by simp
        rw [e, e1]
        obtain ⟨m', q1, q2⟩ := ih n (i + 1) (x :: r) (up m a2 r.length x) (by omega) (by omega) (by rw [hev]; unfold stp; rw [if_neg (by omega), if_neg (by omega), if_pos hc.1, hxe]) (by intro y hy; rcases List.mem_cons.mp hy with rfl | hy; exact hx; exact h4 y (List.mem_cons_of_mem _ hy)) ⟨up_e, stk_up h5.2 (fun j a b => up_i (by omega))⟩ (by rw [up_a d1]; exact h6) (fun j a b => by rw [up_a d2]; exact h7 j a b) (fun j a b => by rw [up_a d3]; exact h8 j a b)
        exact ⟨m', q1, Fr.tr (Fr.up (P := fun b => b = a2) Fr.rf rfl) q2⟩
      by_cases hv0 : v = 0
      · rw [if_pos hv0]
        exact step 1 ⟨by decide, by decide⟩ (by rw [if_pos hv0])
      · rw [if_neg hv0]
        exact step 0 ⟨by decide, by decide⟩ (by rw [if_neg hv0])
    · have hbn := hc.1
      have main : ∃ m', G2_valueFor_119 (fun m a0 a1 a2 x3 x4 => G2_valueFor_5 n m a0 a1 a2 x3 x4) m l a1 a2 (st.length : Int) (i : Int) (kn i - 10000) = some (lv kn nm len, m') ∧ Fr (fun b => b = a2) m m' := by
        unfold G2_valueFor_119
        obtain ⟨b, a, r, rfl⟩ : ∃ b a r, st = b :: a :: r := by
          match st, hlen with
          | [], hlen => simp only [List.length_nil] at hlen; omega
          | [v], hlen => simp only [List.length_cons, List.length_nil] at hlen; omega
          | b :: a :: r, _ => exact ⟨b, a, r, rfl⟩
        have hl2 : ((b :: a :: r).length : Int) = r.length + 2 := by simp; omega
        have e1 : ((b :: a :: r).length : Int) + -1 - 1 = r.length := by omega
        have e2 : ((b :: a :: r).length : Int) + -1 = r.length + 1 := by omega
        have hb' : bM b := h4 b (by simp)
        have ha' : bM a := h4 a (by simp)
        have vb : m a2 ((r.length : Int) + 1) = b := by
          have := h5.1
          simpa using this
        have va : m a2 (r.length : Int) = a := h5.2.1
        rw [if_neg (by omega), e1, e2, gdx_t (by omega), gdx_t (by omega), va, vb, g_jn _ ha' hb', bs1]
        have hs : stp kn nm i (b :: a :: r) = if 1000000000000 < jn (kn i - 10000) a b ∨ jn (kn i - 10000) a b < -1000000000000 then none else some (jn (kn i - 10000) a b :: r) := by
          unfold stp
          unfold bnk at hbn
          rw [if_neg (by omega), if_neg (by omega), if_neg (by omega)]
        simp only
        by_cases c1 : 1000000000000 < jn (kn i - 10000) a b
        · rw [if_pos c1, lv_none (j := i + 1) (by rw [hev, hs, if_pos (Or.inl c1)]) (by omega)]
          exact ⟨m, rfl, Fr.rf⟩
        · rw [if_neg c1]
          by_cases c2 : -1000000000000 ≤ jn (kn i - 10000) a b
          · rw [if_pos c2, gdx_t (by omega)]
            rw [wt_e]
            rw [gd3_t (by omega), gd3_t (by omega), hi1]
            have e3 : (r.length : Int) + 1 = ((jn (kn i - 10000) a b :: r).length : Int) := by simp
            rw [e3]
            obtain ⟨m', q1, q2⟩ := ih n (i + 1) (jn (kn i - 10000) a b :: r) (up m a2 r.length (jn (kn i - 10000) a b)) (by omega) (by omega) (by rw [hev, hs, if_neg (by omega)]) (by intro y hy; rcases List.mem_cons.mp hy with rfl | hy; exact ⟨by omega, by omega⟩; exact h4 y (List.mem_cons_of_mem _ (List.mem_cons_of_mem _ hy))) ⟨up_e, stk_up h5.2.2 (fun j a b => up_i (by omega))⟩ (by rw [up_a d1]; exact h6) (fun j a b => by rw [up_a d2]; exact h7 j a b) (fun j a b => by rw [up_a d3]; exact h8 j a b)
            exact ⟨m', q1, Fr.tr (Fr.up (P := fun b => b = a2) Fr.rf rfl) q2⟩
          · rw [if_neg c2, lv_none (j := i + 1) (by rw [hev, hs, if_pos (Or.inr (by omega))]) (by omega)]
            exact ⟨m, rfl, Fr.rf⟩
      have n15 : ¬ (kn i - 10000 = 15) := by unfold bnk at hbn; omega
      unfold bnk at hbn
      rw [if_pos (by omega), gd3_t (by omega)]
      by_cases c : kn i - 10000 < 18
      · rw [if_pos c, gd3_t (by omega)]
        unfold G2_valueFor_85
        rw [if_neg n15]
        exact main
      · rw [if_neg c, gd3_t (by omega), if_pos (by omega), gd3_t (by omega)]
        unfold G2_valueFor_85
        rw [if_neg n15]
        exact main
theorem g_val {l a1 a2 : Nat} {kn nm : Int → Int} {len : Int} (hL : LX kn len) (hn : ∀ j, 0 ≤ j → j < 6 → bM (nm j)) (d1 : l ≠ a2) (d2 : l + 1 ≠ a2) (d3 : a1 ≠ a2) (h6 : m l 1 = len) (h7 : ∀ j, 0 ≤ j → j < len → m (l + 1) j = kn j) (h8 : ∀ j, 0 ≤ j → j < 6 → m a1 j = nm j) : ∃ m', G2_valueFor m l a1 a2 = some (lv kn nm len, m') ∧ Fr (fun b => b = a2) m m' :=
  g_val5 hL hn d1 d2 d3 len.toNat 1024 0 [] m (by have := hL.1; omega) (by have := hL.1; omega) rfl (fun _ h => nomatch h) trivial h6 h7 h8
theorem lv_b {kn nm : Int → Int} {len : Int} (hL : LX kn len) (hn : ∀ j, 0 ≤ j → j < 6 → bM (nm j)) : lv kn nm len = -9223372036854775808 ∨ bM (lv kn nm len) := by
  have all : ∀ (j : Nat) (st : List Int), (j : Int) ≤ len → evl kn nm j = some st → bMs st := by
    intro j
    induction j with
    | zero => intro st _ h; cases h; intro v hv; cases hv
    | succ j ih =>
      intro st hj h
      obtain ⟨s0, h1, h2⟩ := ob h
      have h0 := ih s0 (by omega) h1
      have hc := hL.2.1 j (by omega)
      unfold stp at h2
      split at h2
      · cases h2
        intro v hv
        rcases List.mem_cons.mp hv with rfl | hv
        · unfold bM; unfold bnk at hc; omega
        · exact h0 v hv
      · split at h2
        · rename_i q
          cases h2
          intro v hv
          rcases List.mem_cons.mp hv with rfl | hv
          · exact hn _ (by omega) (by omega)
          · exact h0 v hv
        · split at h2
          · cases s0 with
            | nil => cases h2
            | cons x r =>
              cases h2
              intro v hv
              rcases List.mem_cons.mp hv with rfl | hv
              · unfold bM; split <;> omega
              · exact h0 v (List.mem_cons_of_mem _ hv)
          · match s0, h2, h0 with
            | [], h2, _ => cases h2
            | [x], h2, _ => cases h2
            | b :: a :: r, h2, h0 =>
              simp only at h2
              split at h2
              · cases h2
              · rename_i q
                cases h2
                intro v hv
                rcases List.mem_cons.mp hv with rfl | hv
                · unfold bM; omega
                · exact h0 v (List.mem_cons_of_mem _ (List.mem_cons_of_mem _ hv))
  unfold lv
  split
  · rename_i v h
    right
    exact all _ _ (by have := hL.1; omega) h v (by simp)
  · left; rfl
end LAW
