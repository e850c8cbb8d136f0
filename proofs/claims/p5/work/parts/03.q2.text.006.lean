section Q23
variable {m v : Mem} {t : Int → Int} {S : Int}
theorem r_w90 {q : Int} : ∀ (d k : Nat) (p : Int) (v : Mem), TPx v t S → 0 ≤ q → q ≤ p → S - p = d → d < k → v 0 7 = p → v 0 10 = q → (∀ i, q ≤ i → i < p → 97 ≤ t i ∧ t i ≤ 122) → (p = q → p < S ∧ isLt (t p) = true) → ∃ v', G12_token_90 k v = some v' ∧ Fm Q7 v v' ∧ v' 0 7 = rn (fun i => isLt (t i)) d p ∧ v' 0 10 = q ∧ KR (if rn (fun i => isLt (t i)) d p - q ≤ 6 then wix (pp t q (rn (fun i => isLt (t i)) d p - q).toNat) else 40) (pp t q (rn (fun i => isLt (t i)) d p - q).toNat) (v' 0 8) (v' 0 9) := by
  have fin : ∀ (k : Nat) (p : Int) (v : Mem), TPx v t S → 0 ≤ q → q < p → p ≤ S → v 0 7 = p → v 0 10 = q → ¬ (p < S ∧ isLt (t p) = true) → (∀ i, q ≤ i → i < p → 97 ≤ t i ∧ t i ≤ 122) → ∃ v', G12_token_90 (k + 1) v = some v' ∧ Fm Q7 v v' ∧ v' 0 7 = p ∧ v' 0 10 = q ∧ KR (if p - q ≤ 6 then wix (pp t q (p - q).toNat) else 40) (pp t q (p - q).toNat) (v' 0 8) (v' 0 9) := by
    intro k p v h a1 a2 a3 h7 h10 hn hl
    have hS := h.1
    rw [G12_token_90, h7, r_small h (by first | decide | omega), bs1]
    simp only [if_neg hn, if_true]
    rw [h7, h10]
    unfold G12_wordAt G12_wordAt_0
    have hw := r_wa h (q := q) (e := p) ⟨a1, a2, a3⟩ hl lens 0 1024 0 kw_ok (by decide) (by first | decide | omega) (by decide)
    have hw' : G12_wordAt_5 1024 v q p 0 0 = some ((if p - q ≤ 6 then rix (pp t q (p - q).toNat) else -1), v) := hw
    rw [hw', bs1, wt_e]
    simp only [up_e]
    have u7 : ∀ y, up v 0 9 y 0 7 = p := fun y => by rw [up_i (by first | decide | omega)]; exact h7
    have u10 : ∀ y, up v 0 9 y 0 10 = q := fun y => by rw [up_i (by first | decide | omega)]; exact h10
    rw [u7, u10]
    unfold G12_token_162
    have u8 : ∀ y z, up (up v 0 9 y) 0 8 z 0 7 = p ∧ up (up v 0 9 y) 0 8 z 0 10 = q ∧ up (up v 0 9 y) 0 8 z 0 8 = z ∧ up (up v 0 9 y) 0 8 z 0 9 = y := fun y z => ⟨by rw [up_i (by first | decide | omega)]; exact u7 y, by rw [up_i (by first | decide | omega)]; exact u10 y, up_e, by rw [up_i (by first | decide | omega), up_e]⟩
    have f8 : ∀ y z, Fm Q7 v (up (up v 0 9 y) 0 8 z) := fun y z => (Fm.w1 ⟨rfl, by first | decide | omega, by first | decide | omega⟩).w ⟨rfl, by first | decide | omega, by first | decide | omega⟩
    by_cases c6 : p - q ≤ 6
    · simp only [if_pos c6]
      rcases kw_rel (pp t q (p - q).toNat) with ⟨x1, x2, x3, x4⟩ | ⟨x1, x2⟩
      · rw [if_neg (by first | decide | omega), wt_e, (u8 _ _).2.2.1, if_neg (by first | decide | omega)]
        refine ⟨_, rfl, f8 _ _, (u8 _ _).1, (u8 _ _).2.1, ?_⟩
        rw [(u8 _ _).2.2.1, (u8 _ _).2.2.2]
        exact Or.inr (Or.inl ⟨x1, x2, rfl, x3⟩)
      · rw [if_pos (by first | decide | omega), gd3_t (by first | decide | omega), wt_e, (u8 _ _).2.2.1, if_pos rfl, (u8 _ _).1, (u8 _ _).2.1, r_pack (h.q (f8 _ _)) ⟨a1, a2, a3, c6⟩ hl, bs1, wt_e]
        simp only
        refine ⟨_, rfl, (f8 _ _).w ⟨rfl, by first | decide | omega, by first | decide | omega⟩, ?_, ?_, ?_⟩
        · rw [up_i (by first | decide | omega)]; exact (u8 _ _).1
        · rw [up_i (by first | decide | omega)]; exact (u8 _ _).2.1
        · rw [up_i (by first | decide | omega), up_e, up_e]
          exact Or.inr (Or.inr (Or.inl ⟨x1, rfl, rfl⟩))
    · simp only [if_neg c6]
      rw [if_pos (by first | decide | omega), gd3_t (by first | decide | omega), wt_e, (u8 _ _).2.2.1, if_neg (by first | decide | omega)]
      refine ⟨_, rfl, f8 _ _, (u8 _ _).1, (u8 _ _).2.1, ?_⟩
      rw [(u8 _ _).2.2.1]
      exact Or.inr (Or.inr (Or.inr (Or.inr (Or.inr (Or.inr ⟨rfl, Or.inl rfl⟩)))))
  intro d
  induction d with
  | zero =>
    intro k p v h a1 a2 a3 a4 h7 h10 hl hq
    obtain ⟨k, rfl⟩ : ∃ q, k = q + 1 := ⟨k - 1, by first | decide | omega⟩
    have e : rn (fun i => isLt (t i)) 0 p = p := rfl
    rw [e]
    have : q ≠ p := fun z => by have := hq z.symm; omega
    exact fin k p v h a1 (by first | decide | omega) (by first | decide | omega) h7 h10 (fun z => by first | decide | omega) hl
  | succ d ih =>
    intro k p v h a1 a2 a3 a4 h7 h10 hl hq
    obtain ⟨k, rfl⟩ : ∃ q, k = q + 1 := ⟨k - 1, by first | decide | omega⟩
    have hS := h.1
    rw [rn_s]
    by_cases c : isLt (t p) = true
    · have hc := isLt_i.mp c
      rw [if_pos c, G12_token_90, h7, r_small h (by first | decide | omega), bs1]
      simp only [if_pos (show p < S ∧ isLt (t p) = true from ⟨by first | decide | omega, c⟩), if_neg i10]
      rw [h7, gd3_t (by first | decide | omega), wt_e]
      have f1 : Fm Q7 v (up v 0 7 (p + 1)) := Fm.w1 ⟨rfl, by first | decide | omega, by first | decide | omega⟩
      obtain ⟨v', z1, z2, z3, z4, z5⟩ := ih k (p + 1) (up v 0 7 (p + 1)) (h.q f1) a1 (by first | decide | omega) (by first | decide | omega) (by first | decide | omega) up_e (by rw [up_i (by first | decide | omega)]; exact h10) (fun i p1 p2 => by
        by_cases z : i = p
        · rw [z]; exact hc
        · exact hl i p1 (by first | decide | omega)) (fun z => by first | decide | omega)
      exact ⟨v', z1, f1.tr z2, z3, z4, z5⟩
    · rw [if_neg c]
      have : q ≠ p := fun z => c (hq z.symm).2
      exact fin k p v h a1 (by first | decide | omega) (by first | decide | omega) h7 h10 (fun z => c z.2) hl
theorem r_n213 : ∀ (d k : Nat) (p a : Int) (v : Mem), TPx v t S → 0 ≤ p → S - p = d → d < k → v 0 7 = p → v 0 8 = 3 → NumR a (v 0 9) → (a ≤ 1000000 ∧ v 0 9 ≤ 999999) → ∃ v', G12_token_213 k v = some v' ∧ Fm Q7 v v' ∧ v' 0 7 = rn (fun i => isDg (t i)) d p ∧ v' 0 10 = v 0 10 ∧ v' 0 8 = 3 ∧ NumR (nv t (rn (fun i => isDg (t i)) d p - p).toNat p a) (v' 0 9) := by
  intro d
  induction d with
  | zero =>
    intro k p a v h a1 a2 a3 h7 h8 hN hb
    obtain ⟨k, rfl⟩ : ∃ q, k = q + 1 := ⟨k - 1, by first | decide | omega⟩
    have e : rn (fun i => isDg (t i)) 0 p = p := rfl
    rw [e, G12_token_213, h7, r_dig h (by first | decide | omega), bs1, show (p - p).toNat = 0 by first | decide | omega]
    simp only [if_neg (show ¬ (p < S ∧ isDg (t p) = true) from fun z => by first | decide | omega), if_true]
    exact ⟨v, rfl, Fm.rf, h7, rfl, h8, hN⟩
  | succ d ih =>
    intro k p a v h a1 a2 a3 h7 h8 hN hb
    obtain ⟨k, rfl⟩ : ∃ q, k = q + 1 := ⟨k - 1, by first | decide | omega⟩
    have hS := h.1
    rw [rn_s, G12_token_213, h7, r_dig h (by first | decide | omega), bs1]
    by_cases c : isDg (t p) = true
    · have hc := isDg_i.mp c
      have h4 := h.2.2.1 p a1 (by first | decide | omega)
      obtain ⟨r1, r2, _, _⟩ := rn_spec (f := fun i => isDg (t i)) d (p + 1)
      rw [if_pos c]
      simp only [if_pos (show p < S ∧ isDg (t p) = true from ⟨by first | decide | omega, c⟩), if_neg i10]
      rw [h7]
      have nx : ∀ y, y ≤ 999999 → NumR (if 1000000 < a * 10 + t p - 48 then 1000000 else a * 10 + t p - 48) y → ∃ v', G12_token_261 (fun m => G12_token_213 k m) v y = some v' ∧ Fm Q7 v v' ∧ v' 0 7 = rn (fun i => isDg (t i)) d (p + 1) ∧ v' 0 10 = v 0 10 ∧ v' 0 8 = 3 ∧ NumR (nv t (rn (fun i => isDg (t i)) d (p + 1) - p).toNat p a) (v' 0 9) := by
        intro y hy hN2
        unfold G12_token_261
        have u7 : up v 0 9 y 0 7 = p := by rw [up_i (by first | decide | omega)]; exact h7
        rw [wt_e, u7, gd3_t (by first | decide | omega), wt_e]
        have f1 : Fm Q7 v (up (up v 0 9 y) 0 7 (p + 1)) := (Fm.w1 ⟨rfl, by first | decide | omega, by first | decide | omega⟩).w ⟨rfl, by first | decide | omega, by first | decide | omega⟩
        have u9 : up (up v 0 9 y) 0 7 (p + 1) 0 9 = y := by rw [up_i (by first | decide | omega), up_e]
        obtain ⟨v', z1, z2, z3, z4, z5, z6⟩ := ih k (p + 1) (if 1000000 < a * 10 + t p - 48 then 1000000 else a * 10 + t p - 48) (up (up v 0 9 y) 0 7 (p + 1)) (h.q f1) (by first | decide | omega) (by first | decide | omega) (by first | decide | omega) up_e (by rw [up_i (by first | decide | omega), up_i (by first | decide | omega)]; exact h8) (by rw [u9]; exact hN2) (by rw [u9]; exact ⟨by split <;> omega, hy⟩)
        refine ⟨v', z1, f1.tr z2, z3, ?_, z5, ?_⟩
        · rw [z4, up_i (by first | decide | omega), up_i (by first | decide | omega)]
        · rw [show (rn (fun i => isDg (t i)) d (p + 1) - p).toNat = (rn (fun i => isDg (t i)) d (p + 1) - (p + 1)).toNat + 1 by first | decide | omega, nv_s]; exact z6
      unfold NumR at hN
      by_cases c9 : v 0 9 ≤ 99999
      · rw [if_pos c9, gdx_t (by first | decide | omega), gd3_t (by first | decide | omega)]
        refine nx _ (by first | decide | omega) ?_
        unfold NumR
        split <;> omega
      · rw [if_neg c9]
        refine nx _ (by first | decide | omega) ?_
        unfold NumR
        split <;> omega
    · rw [if_neg c, show (p - p).toNat = 0 by first | decide | omega]
      simp only [if_neg (show ¬ (p < S ∧ isDg (t p) = true) from fun z => c z.2), if_true]
      exact ⟨v, rfl, Fm.rf, h7, rfl, h8, hN⟩
end Q23
