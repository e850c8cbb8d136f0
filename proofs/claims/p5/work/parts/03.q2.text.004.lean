section Q22
variable {v : Mem} {t : Int → Int} {S : Int}
theorem r_small (h : TPx v t S) {x : Int} (hx : 0 ≤ x) : G12_isSmall v x = some ((if x < S ∧ isLt (t x) = true then 1 else 0), v) := by
  obtain ⟨h1, h2, h3, _⟩ := h
  unfold G12_isSmall G12_isSmall_0
  rw [h2]
  by_cases c : S ≤ x
  · rw [if_pos c, if_neg (by first | decide | omega)]
  · have h4 := h3 x hx (by first | decide | omega)
    rw [if_neg c, gdx_t (by first | decide | omega), gdx_t (by first | decide | omega)]
    by_cases c2 : isLt (t x) = true
    · have := isLt_i.mp c2
      rw [if_neg (show ¬ v 1 x < 97 by first | decide | omega), if_neg (show ¬ 122 < v 1 x by first | decide | omega), if_pos (show x < S ∧ isLt (t x) = true from ⟨by first | decide | omega, c2⟩)]
    · have : ¬ (97 ≤ t x ∧ t x ≤ 122) := fun q => c2 (isLt_i.mpr q)
      rw [if_neg (show ¬ (x < S ∧ isLt (t x) = true) from fun q => c2 q.2)]
      by_cases c3 : v 1 x < 97
      · rw [if_pos c3]
      · rw [if_neg c3, if_pos (by first | decide | omega)]
theorem r_dig (h : TPx v t S) {x : Int} (hx : 0 ≤ x) : G12_isDigit v x = some ((if x < S ∧ isDg (t x) = true then 1 else 0), v) := by
  obtain ⟨h1, h2, h3, _⟩ := h
  unfold G12_isDigit G12_isDigit_0
  rw [h2]
  by_cases c : S ≤ x
  · rw [if_pos c, if_neg (by first | decide | omega)]
  · have h4 := h3 x hx (by first | decide | omega)
    rw [if_neg c, gdx_t (by first | decide | omega), gdx_t (by first | decide | omega)]
    by_cases c2 : isDg (t x) = true
    · have := isDg_i.mp c2
      rw [if_neg (show ¬ v 1 x < 48 by first | decide | omega), if_neg (show ¬ 57 < v 1 x by first | decide | omega), if_pos (show x < S ∧ isDg (t x) = true from ⟨by first | decide | omega, c2⟩)]
    · have : ¬ (48 ≤ t x ∧ t x ≤ 57) := fun q => c2 (isDg_i.mpr q)
      rw [if_neg (show ¬ (x < S ∧ isDg (t x) = true) from fun q => c2 q.2)]
      by_cases c3 : v 1 x < 48
      · rw [if_pos c3]
      · rw [if_neg c3, if_pos (by first | decide | omega)]
theorem r_skip : ∀ (d k : Nat) (p : Int) (v : Mem), TPx v t S → 0 ≤ p → S - p = d → d < k → v 0 7 = p → ∃ v', G12_token_0 k v = G12_token_52 v' ∧ Fm Q7 v v' ∧ v' 0 7 = rn (fun i => isBl (t i)) d p := by
  intro d
  induction d with
  | zero =>
    intro k p v h a1 a2 a3 h7
    obtain ⟨k, rfl⟩ : ∃ q, k = q + 1 := ⟨k - 1, by first | decide | omega⟩
    rw [G12_token_0, h.2.1, if_pos (by first | decide | omega)]
    exact ⟨v, rfl, Fm.rf, h7⟩
  | succ d ih =>
    intro k p v h a1 a2 a3 h7
    obtain ⟨k, rfl⟩ : ∃ q, k = q + 1 := ⟨k - 1, by first | decide | omega⟩
    have hS := h.1
    have h4 := h.2.2.1 p a1 (by first | decide | omega)
    have go : isBl (t p) = true → ∃ v', G12_token_39 (fun m => G12_token_0 k m) v = G12_token_52 v' ∧ Fm Q7 v v' ∧ v' 0 7 = rn (fun i => isBl (t i)) (d + 1) p := by
      intro c
      unfold G12_token_39
      rw [h7, gd3_t (by first | decide | omega), wt_e, rn_s, if_pos c]
      have f1 : Fm Q7 v (up v 0 7 (p + 1)) := Fm.w1 ⟨rfl, by first | decide | omega, by first | decide | omega⟩
      obtain ⟨v', z1, z2, z3⟩ := ih k (p + 1) (up v 0 7 (p + 1)) (h.q f1) (by first | decide | omega) (by first | decide | omega) (by first | decide | omega) up_e
      exact ⟨v', z1, f1.tr z2, z3⟩
    rw [G12_token_0, h.2.1, if_neg (by first | decide | omega), h7, gdx_t (by first | decide | omega), gdx_t (by first | decide | omega)]
    by_cases c1 : t p = 10
    · rw [if_pos (by first | decide | omega)]; exact go (isBl_i.mpr (Or.inl c1))
    · rw [if_neg (by first | decide | omega)]
      by_cases c2 : t p = 32
      · rw [if_pos (by first | decide | omega)]; exact go (isBl_i.mpr (Or.inr c2))
      · rw [if_neg (by first | decide | omega), rn_s, if_neg (fun q => by rcases isBl_i.mp q with y | y; exact c1 y; exact c2 y)]
        exact ⟨v, rfl, Fm.rf, h7⟩
/-- the letter i of the word q .. e -/
def dgw (t : Int → Int) (q e : Int) (i : Nat) : Int := if q + i < e then t (q + i) - 96 else 0
theorem dgw_b {q e : Int} (hl : ∀ i, q ≤ i → i < e → 97 ≤ t i ∧ t i ≤ 122) (i : Nat) : 0 ≤ dgw t q e i ∧ dgw t q e i ≤ 26 ∧ (q + i < e → 1 ≤ dgw t q e i) := by
  unfold dgw
  split
  · have := hl (q + i) (by first | decide | omega) (by assumption); omega
  · omega
theorem pp_dg {q e : Int} (h : q ≤ e ∧ e - q ≤ 6) : pp t q (e - q).toNat = dgw t q e 0 * 33554432 + dgw t q e 1 * 1048576 + dgw t q e 2 * 32768 + dgw t q e 3 * 1024 + dgw t q e 4 * 32 + dgw t q e 5 := by
  have e0 : pp t q 0 = 0 := rfl
  have e1 : pp t q 1 = (t (q + (0 : Nat)) - 96) * 33554432 := by rw [pp_s, if_pos (by first | decide | omega), e0]; show 0 + (t (q + (0 : Nat)) - 96) * 33554432 = _; omega
  have e2 : pp t q 2 = pp t q 1 + (t (q + (1 : Nat)) - 96) * 1048576 := by rw [pp_s, if_pos (by first | decide | omega)]; rfl
  have e3 : pp t q 3 = pp t q 2 + (t (q + (2 : Nat)) - 96) * 32768 := by rw [pp_s, if_pos (by first | decide | omega)]; rfl
  have e4 : pp t q 4 = pp t q 3 + (t (q + (3 : Nat)) - 96) * 1024 := by rw [pp_s, if_pos (by first | decide | omega)]; rfl
  have e5 : pp t q 5 = pp t q 4 + (t (q + (4 : Nat)) - 96) * 32 := by rw [pp_s, if_pos (by first | decide | omega)]; rfl
  have e6 : pp t q 6 = pp t q 5 + (t (q + (5 : Nat)) - 96) * 1 := by rw [pp_s, if_pos (by first | decide | omega)]; rfl
  have y : ∀ i : Nat, q + i < e → dgw t q e i = t (q + i) - 96 := fun i hi => if_pos hi
  have z : ∀ i : Nat, ¬ q + i < e → dgw t q e i = 0 := fun i hi => if_neg hi
  rcases (by omega : (e - q).toNat = 0 ∨ (e - q).toNat = 1 ∨ (e - q).toNat = 2 ∨ (e - q).toNat = 3 ∨ (e - q).toNat = 4 ∨ (e - q).toNat = 5 ∨ (e - q).toNat = 6) with c | c | c | c | c | c | c <;> rw [c]
  · rw [z 0 (by first | decide | omega), z 1 (by first | decide | omega), z 2 (by first | decide | omega), z 3 (by first | decide | omega), z 4 (by first | decide | omega), z 5 (by first | decide | omega)]; omega
  · rw [y 0 (by first | decide | omega), z 1 (by first | decide | omega), z 2 (by first | decide | omega), z 3 (by first | decide | omega), z 4 (by first | decide | omega), z 5 (by first | decide | omega)]; omega
  · rw [y 0 (by first | decide | omega), y 1 (by first | decide | omega), z 2 (by first | decide | omega), z 3 (by first | decide | omega), z 4 (by first | decide | omega), z 5 (by first | decide | omega)]; omega
  · rw [y 0 (by first | decide | omega), y 1 (by first | decide | omega), y 2 (by first | decide | omega), z 3 (by first | decide | omega), z 4 (by first | decide | omega), z 5 (by first | decide | omega)]; omega
  · rw [y 0 (by first | decide | omega), y 1 (by first | decide | omega), y 2 (by first | decide | omega), y 3 (by first | decide | omega), z 4 (by first | decide | omega), z 5 (by first | decide | omega)]; omega
  · rw [y 0 (by first | decide | omega), y 1 (by first | decide | omega), y 2 (by first | decide | omega), y 3 (by first | decide | omega), y 4 (by first | decide | omega), z 5 (by first | decide | omega)]; omega
  · rw [y 0 (by first | decide | omega), y 1 (by first | decide | omega), y 2 (by first | decide | omega), y 3 (by first | decide | omega), y 4 (by first | decide | omega), y 5 (by first | decide | omega)]; omega
theorem r_pk1 (h : TPx v t S) {q e x : Int} (hq : 0 ≤ q ∧ e ≤ S) (hl : ∀ i, q ≤ i → i < e → 97 ≤ t i ∧ t i ≤ 122) {j k : Nat} (hj : j < 6) (hq2 : q < 700) (hx : 0 ≤ x ∧ x < 33554432) : G12_packed_5 (k + 1) v q e x (q + j) = G12_packed_5 k v q e (32 * x + dgw t q e j) (q + (j + 1 : Nat)) := by
  have hb := dgw_b hl j
  have a : b3an 5 31 = 5 := by decide
  have b : b3sl x 5 = x * 32 := sl_v (k := 5) (by decide) (by decide) ⟨by first | decide | omega, by show x * 32 < 2147483648; first | decide | omega⟩
  have o : ∀ y, 0 ≤ y → y < 32 → b3or (x * 32) y = x * 32 + y := fun y p1 p2 => or_v (k := 5) (a := x) rfl (by first | decide | omega) ⟨p1, by show y < 32; first | decide | omega⟩ (by first | decide | omega)
  rw [G12_packed_5, gd3_t (by first | decide | omega), if_neg (by first | decide | omega), a, b, show q + (j : Int) + 1 = q + ((j + 1 : Nat) : Int) by first | decide | omega]
  have hS := h.1
  by_cases c : e ≤ q + j
  · have ez : dgw t q e j = 0 := if_neg (by first | decide | omega)
    rw [if_pos c, gd3_t (by first | decide | omega), o 0 (by first | decide | omega) (by first | decide | omega), ez, show x * 32 + 0 = 32 * x + 0 by first | decide | omega]
  · have ey : dgw t q e j = t (q + j) - 96 := if_pos (by first | decide | omega)
    have h4 := h.2.2.1 (q + j) (by first | decide | omega) (by first | decide | omega)
    have h5 := hl (q + j) (by first | decide | omega) (by first | decide | omega)
    rw [if_neg c, gdx_t (by first | decide | omega), gd3_t (by first | decide | omega), o (v 1 (q + j) - 96) (by first | decide | omega) (by first | decide | omega), ey, show x * 32 + (v 1 (q + j) - 96) = 32 * x + (t (q + j) - 96) by first | decide | omega]
theorem r_pack (h : TPx v t S) {q e : Int} (hq : 0 ≤ q ∧ q < e ∧ e ≤ S ∧ e - q ≤ 6) (hl : ∀ i, q ≤ i → i < e → 97 ≤ t i ∧ t i ≤ 122) : G12_packed v q e = some (pp t q (e - q).toNat, v) := by
  have hS := h.1
  have b0 := dgw_b hl 0
  have b1 := dgw_b hl 1
  have b2 := dgw_b hl 2
  have b3 := dgw_b hl 3
  have b4 := dgw_b hl 4
  have b5 := dgw_b hl 5
  unfold G12_packed G12_packed_0
  have s := fun (j k : Nat) (x : Int) (hj : j < 6) (hx : 0 ≤ x ∧ x < 33554432) => r_pk1 h ⟨hq.1, hq.2.2.1⟩ hl (j := j) (k := k) hj (by first | decide | omega) hx
  have e0 : G12_packed_5 1024 v q e 0 q = G12_packed_5 1024 v q e 0 (q + (0 : Nat)) := by rw [show q + ((0 : Nat) : Int) = q by first | decide | omega]
  rw [e0, s 0 1023 0 (by first | decide | omega) (by first | decide | omega), s 1 1022 _ (by first | decide | omega) (by first | decide | omega), s 2 1021 _ (by first | decide | omega) (by first | decide | omega), s 3 1020 _ (by first | decide | omega) (by first | decide | omega), s 4 1019 _ (by first | decide | omega) (by first | decide | omega), s 5 1018 _ (by first | decide | omega) (by first | decide | omega)]
  rw [G12_packed_5, gd3_t (by first | decide | omega), if_pos (by first | decide | omega), pp_dg ⟨by first | decide | omega, hq.2.2.2⟩]
  congr 2
  omega
/-- the word at off is the word q .. e -/
def Mw (v : Mem) (off L : Nat) (q e : Int) : Prop := e - q = L ∧ ∀ i : Nat, i < L → v 2 (off + i : Nat) = v 1 (q + i)
end Q22
