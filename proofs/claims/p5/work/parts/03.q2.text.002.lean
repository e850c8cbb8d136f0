section Q21
variable {m v w : Mem}
theorem c_word {S q : Int} {t : Int → Int} (hS : 0 ≤ S ∧ S ≤ 700) (hq : 0 ≤ q) (hlg : ∀ i : Nat, i < 24 → m 48 i = lgW.getD i 0) : ∀ (d k : Nat) (j : Nat) (m1 : Mem), S - (q + j) = d → d < k → m1 47 1 = 1 → m1 47 2 = S → m1 47 3 = q + j → m1 1 = t → m1 48 = m 48 → m1 47 6 = pp t q j → (∀ i : Nat, i < j → 97 ≤ t (q + i) ∧ t (q + i) ≤ 122) → ∃ m', G7_takeWord_2 k m1 j = some m' ∧ Fm P47 m1 m' ∧ m' 47 3 = rn (fun i => isLt (t i)) d (q + j) ∧ m' 47 5 = m1 47 5 ∧ m' 47 6 = pp t q (rn (fun i => isLt (t i)) d (q + j) - q).toNat ∧ m' 47 4 = (if rn (fun i => isLt (t i)) d (q + j) - q ≤ 6 then wix (pp t q (rn (fun i => isLt (t i)) d (q + j) - q).toNat) else 40) := by
  intro d
  have fin : ∀ (j : Nat) (m1 : Mem), (j : Int) ≤ 700 → m1 47 3 = q + j → m1 48 = m 48 → m1 47 6 = pp t q j → ∃ m', G7_takeWord_72 m1 j = some m' ∧ Fm P47 m1 m' ∧ m' 47 3 = q + j ∧ m' 47 5 = m1 47 5 ∧ m' 47 6 = pp t q (q + j - q).toNat ∧ m' 47 4 = (if q + j - q ≤ 6 then wix (pp t q (q + j - q).toNat) else 40) := by
    intro j m1 hj h3 h48 h6
    have ej : (q + (j : Int) - q).toNat = j := by omega
    have ej2 : q + (j : Int) - q = j := by omega
    unfold G7_takeWord_72 G7_takeWord_92
    rw [ej, ej2]
    by_cases c : (j : Int) ≤ 6
    · rw [if_pos c, if_pos c, h6]
      unfold G7_wordOf G7_wordOf_0
      rw [c_wix lgW 1024 0 (by decide) (by first | decide | omega) (by decide) (fun i hi => by
        rw [h48, show (0 : Int) + (i : Int) = i by first | decide | omega]; exact hlg i hi), bs1]
      simp only
      rw [wt_e]
      refine ⟨_, rfl, Fm.w1 ⟨rfl, by first | decide | omega⟩, ?_, ?_, ?_, up_e⟩
      · rw [up_i (by first | decide | omega)]; exact h3
      · rw [up_i (by first | decide | omega)]
      · rw [up_i (by first | decide | omega)]; exact h6
    · rw [if_neg c, if_neg c, wt_e]
      refine ⟨_, rfl, Fm.w1 ⟨rfl, by first | decide | omega⟩, ?_, ?_, ?_, up_e⟩
      · rw [up_i (by first | decide | omega)]; exact h3
      · rw [up_i (by first | decide | omega)]
      · rw [up_i (by first | decide | omega)]; exact h6
  induction d with
  | zero =>
    intro k j m1 a1 a2 h1 h2 h3 h4 h48 h6 hl
    obtain ⟨k, rfl⟩ : ∃ q, k = q + 1 := ⟨k - 1, by first | decide | omega⟩
    rw [G7_takeWord_2, if_pos (by first | decide | omega)]
    exact fin j m1 (by first | decide | omega) h3 h48 h6
  | succ d ih =>
    intro k j m1 a1 a2 h1 h2 h3 h4 h48 h6 hl
    obtain ⟨k, rfl⟩ : ∃ q, k = q + 1 := ⟨k - 1, by first | decide | omega⟩
    rw [G7_takeWord_2, if_neg (by first | decide | omega), gde_t h1, h3, gdx_t (by first | decide | omega), h4, c_letter, bs1]
    by_cases c : isLt (t (q + j)) = true
    · have hc := isLt_i.mp c
      have er : rn (fun i => isLt (t i)) (d + 1) (q + j) = rn (fun i => isLt (t i)) d (q + (j + 1 : Nat)) := by
        rw [rn_s, if_pos c, show q + (j : Int) + 1 = q + ((j + 1 : Nat) : Int) by first | decide | omega]
      have hl' : ∀ i : Nat, i < j + 1 → 97 ≤ t (q + i) ∧ t (q + i) ≤ 122 := fun i hi => by
        by_cases z : i = j
        · rw [z]; exact hc
        · exact hl i (by first | decide | omega)
      have nx : ∀ m2 : Mem, Fm P47 m1 m2 → m2 47 3 = q + j → m2 47 5 = m1 47 5 → m2 47 6 = pp t q (j + 1) → ∃ m', G7_takeWord_56 (fun m x1 => G7_takeWord_2 k m x1) m2 j = some m' ∧ Fm P47 m1 m' ∧ m' 47 3 = rn (fun i => isLt (t i)) (d + 1) (q + j) ∧ m' 47 5 = m1 47 5 ∧ m' 47 6 = pp t q (rn (fun i => isLt (t i)) (d + 1) (q + j) - q).toNat ∧ m' 47 4 = (if rn (fun i => isLt (t i)) (d + 1) (q + j) - q ≤ 6 then wix (pp t q (rn (fun i => isLt (t i)) (d + 1) (q + j) - q).toNat) else 40) := by
        intro m2 f2 g3 g5 g6
        unfold G7_takeWord_56
        rw [g3, gd3_t (by first | decide | omega), wt_e, gd3_t (by first | decide | omega), er, show (j : Int) + 1 = ((j + 1 : Nat) : Int) by first | decide | omega]
        have f3 : Fm P47 m1 (up m2 47 3 (q + j + 1)) := f2.w ⟨rfl, by first | decide | omega⟩
        obtain ⟨m', z1, z2, z3, z4, z5⟩ := ih k (j + 1) (up m2 47 3 (q + j + 1)) (by first | decide | omega) (by first | decide | omega) (by rw [f3 47 1 (by unfold P47; first | decide | omega)]; exact h1) (by rw [f3 47 2 (by unfold P47; first | decide | omega)]; exact h2) (by rw [up_e]; first | decide | omega) (by rw [f3.rw1 (fun i => by unfold P47; first | decide | omega)]; exact h4) (by rw [f3.rw1 (fun i => by unfold P47; first | decide | omega)]; exact h48) (by rw [up_i (by first | decide | omega)]; exact g6) hl'
        refine ⟨m', z1, f3.tr z2, z3, ?_, z5⟩
        rw [z4, up_i (by first | decide | omega)]; exact g5
      simp only [if_pos c, if_neg i10]
      by_cases c6 : 6 ≤ (j : Int)
      · rw [if_pos c6]
        exact nx m1 Fm.rf h3 rfl (by rw [h6, pp_s, if_neg (by first | decide | omega)])
      · rw [if_neg c6, gde_t h1, h3, gdx_t (by first | decide | omega)]
        unfold G7_letterBits G7_letterBits_0
        rw [bs1, wt_e]
        simp only
        obtain ⟨pb, _⟩ := pp_bs (t := t) (q := q) (j := j) (by first | decide | omega) (fun i hi => hl' i (by first | decide | omega))
        rw [h6, h4, pb]
        exact nx _ (Fm.w1 ⟨rfl, by first | decide | omega⟩) (by rw [up_i (by first | decide | omega)]; exact h3) (by rw [up_i (by first | decide | omega)]) up_e
    · have er : rn (fun i => isLt (t i)) (d + 1) (q + j) = q + j := by rw [rn_s, if_neg c]
      simp only [if_neg c, if_true]
      rw [er]
      exact fin j m1 (by first | decide | omega) h3 h48 h6
theorem c_num {S : Int} {t : Int → Int} (hS : 0 ≤ S ∧ S ≤ 700) : ∀ (d k : Nat) (p a : Int) (m : Mem), 0 ≤ p → S - p = d → d < k → m 47 1 = 1 → m 47 2 = S → m 47 3 = p → m 1 = t → m 47 6 = a → (0 ≤ a ∧ a ≤ 1000000) → ∃ m', G7_takeNumber_0 k m = some m' ∧ Fm P47 m m' ∧ m' 47 3 = rn (fun i => isDg (t i)) d p ∧ m' 47 5 = m 47 5 ∧ m' 47 4 = 25 ∧ m' 47 6 = nv t (rn (fun i => isDg (t i)) d p - p).toNat p a ∧ 0 ≤ m' 47 6 := by
  intro d
  have fin : ∀ (m : Mem) (p a : Int), m 47 3 = p → m 47 6 = a → 0 ≤ a → ∃ m', G7_takeNumber_68 m = some m' ∧ Fm P47 m m' ∧ m' 47 3 = p ∧ m' 47 5 = m 47 5 ∧ m' 47 4 = 25 ∧ m' 47 6 = nv t (p - p).toNat p a ∧ 0 ≤ m' 47 6 := by
    intro m p a h3 h6 ha
    unfold G7_takeNumber_68
    rw [wt_e, show (p - p).toNat = 0 by first | decide | omega]
    refine ⟨_, rfl, Fm.w1 ⟨rfl, by first | decide | omega⟩, ?_, ?_, up_e, ?_, ?_⟩
    · rw [up_i (by first | decide | omega)]; exact h3
    · rw [up_i (by first | decide | omega)]
    · rw [up_i (by first | decide | omega)]; exact h6
    · rw [up_i (by first | decide | omega)]; omega
  induction d with
  | zero =>
    intro k p a m a1 a2 a3 h1 h2 h3 h4 h6 ha
    obtain ⟨k, rfl⟩ : ∃ q, k = q + 1 := ⟨k - 1, by first | decide | omega⟩
    rw [G7_takeNumber_0, if_pos (by first | decide | omega)]
    exact fin m p a h3 h6 ha.1
  | succ d ih =>
    intro k p a m a1 a2 a3 h1 h2 h3 h4 h6 ha
    obtain ⟨k, rfl⟩ : ∃ q, k = q + 1 := ⟨k - 1, by first | decide | omega⟩
    rw [G7_takeNumber_0, if_neg (by first | decide | omega), gde_t h1, h3, gdx_t (by first | decide | omega), h4, c_digit, bs1]
    by_cases c : isDg (t p) = true
    · have hc := isDg_i.mp c
      obtain ⟨r1, r2, _, _⟩ := rn_spec (f := fun i => isDg (t i)) d (p + 1)
      have er : rn (fun i => isDg (t i)) (d + 1) p = rn (fun i => isDg (t i)) d (p + 1) := by rw [rn_s, if_pos c]
      simp only [if_pos c, if_neg i10]
      rw [gde_t h1, h3, gdx_t (by first | decide | omega), h4, h6, gd3_t (by first | decide | omega)]
      have hb : 0 ≤ (if 1000000 < a * 10 + t p - 48 then 1000000 else a * 10 + t p - 48) ∧ (if 1000000 < a * 10 + t p - 48 then 1000000 else a * 10 + t p - 48) ≤ 1000000 := by split <;> omega
      rw [gd3_t (by first | decide | omega), wt_e]
      have e3 : ∀ y, up m 47 6 y 47 3 = p := fun y => by rw [up_i (by first | decide | omega)]; exact h3
      rw [e3, gd3_t (by first | decide | omega), wt_e, er]
      have f1 : Fm P47 m (up (up m 47 6 (if 1000000 < a * 10 + t p - 48 then 1000000 else a * 10 + t p - 48)) 47 3 (p + 1)) := (Fm.w1 ⟨rfl, by first | decide | omega⟩).w ⟨rfl, by first | decide | omega⟩
      obtain ⟨m', z1, z2, z3, z4, z5, z6, z7⟩ := ih k (p + 1) (if 1000000 < a * 10 + t p - 48 then 1000000 else a * 10 + t p - 48) (up (up m 47 6 (if 1000000 < a * 10 + t p - 48 then 1000000 else a * 10 + t p - 48)) 47 3 (p + 1)) (by first | decide | omega) (by first | decide | omega) (by first | decide | omega) (by rw [f1 47 1 (by unfold P47; first | decide | omega)]; exact h1) (by rw [f1 47 2 (by unfold P47; first | decide | omega)]; exact h2) up_e (by rw [f1.rw1 (fun i => by unfold P47; first | decide | omega)]; exact h4) (by rw [up_i (by first | decide | omega), up_e]) hb
      refine ⟨m', z1, f1.tr z2, z3, ?_, z5, ?_, z7⟩
      · rw [z4, up_i (by first | decide | omega), up_i (by first | decide | omega)]
      · rw [z6, show (rn (fun i => isDg (t i)) d (p + 1) - p).toNat = (rn (fun i => isDg (t i)) d (p + 1) - (p + 1)).toNat + 1 by first | decide | omega, nv_s]
    · have er : rn (fun i => isDg (t i)) (d + 1) p = p := by rw [rn_s, if_neg c]
      simp only [if_neg c, if_true]
      rw [er]
      exact fin m p a h3 h6 ha.1
theorem c_next {S x : Int} {t : Int → Int} {p : Int} (hS : 0 ≤ S ∧ S ≤ 700) (hp : 0 ≤ p) (h1 : m 47 1 = 1) (h2 : m 47 2 = S) (h3 : m 47 3 = p + 1) (h4 : m 1 = t) (hx : x ≠ 0) : G7_isNext m x = some ((if chN t S p = x then 1 else 0), m) := by
  unfold G7_isNext G7_isNext_0 chN
  rw [h2, h3, h4]
  by_cases c : S ≤ p + 1
  · rw [if_pos c, if_neg (show ¬ p + 1 < S by first | decide | omega), if_neg (fun q => hx q.symm)]
  · rw [if_neg c, if_pos (show p + 1 < S by first | decide | omega), gde_t h1, gdx_t (by first | decide | omega)]
    split <;> rfl
end Q21
