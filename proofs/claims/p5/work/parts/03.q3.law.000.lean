/-! The line of a law on both sides: what waits and what is held. -/
def wOk (x : Int) : Prop := x = 15 ∨ x = 16 ∨ x = 17 ∨ (26 ≤ x ∧ x ≤ 35) ∨ x = 36
def wSt (x : Int) : Int := if x = 15 then 3 else if x = 16 then 2 else if x = 17 then 1 else if 26 ≤ x ∧ x ≤ 31 then 4 else if x = 32 ∨ x = 33 then 5 else if x = 34 ∨ x = 35 then 6 else 0
def wCm (x : Int) : Int := if x = 15 then 2 else if x = 16 then 3 else if x = 17 then 4 else if x = 36 then 0 else x - 21
def cNB : List Int → Int
  | [] => 0
  | x :: r => (if x = 36 then 0 else 1) + cNB r
def cBR : List Int → Int
  | [] => 0
  | x :: r => (if x = 36 then 1 else 0) + cBR r
def cBN : List Int → Nat
  | [] => 0
  | x :: r => (if x = 36 ∨ x = 15 then 0 else 1) + cBN r
theorem c_len : ∀ l : List Int, cNB l + cBR l = l.length ∧ 0 ≤ cNB l ∧ 0 ≤ cBR l := by
  intro l
  induction l with
  | nil => exact ⟨rfl, by show (0 : Int) ≤ 0; first | decide | omega, by show (0 : Int) ≤ 0; first | decide | omega⟩
  | cons x r ih =>
    have e1 : cNB (x :: r) = (if x = 36 then 0 else 1) + cNB r := rfl
    have e2 : cBR (x :: r) = (if x = 36 then 1 else 0) + cBR r := rfl
    have e3 : ((x :: r).length : Int) = r.length + 1 := by simp
    rw [e1, e2, e3]
    by_cases c : x = 36
    · rw [if_pos c, if_pos c]; omega
    · rw [if_neg c, if_neg c]; omega
theorem c_bn : ∀ l : List Int, (cBN l : Int) ≤ cNB l := by
  intro l
  induction l with
  | nil => show (0 : Int) ≤ 0; omega
  | cons x r ih =>
    have e1 : cNB (x :: r) = (if x = 36 then 0 else 1) + cNB r := rfl
    have e2 : cBN (x :: r) = (if x = 36 ∨ x = 15 then 0 else 1) + cBN r := rfl
    rw [e1, e2]
    by_cases c : x = 36
    · rw [if_pos c, if_pos (Or.inl c)]; omega
    · rw [if_neg c]
      by_cases c2 : x = 36 ∨ x = 15
      · rw [if_pos c2]; omega
      · rw [if_neg c2]; omega
section Q32
variable {m v : Mem} {S : Int} {D : Nat}
theorem c_strg (m : Mem) (x : Int) : G5_strengthOf m x = some (wSt x, m) := by
  by_cases c : x = 15 ∨ x = 16 ∨ x = 17 ∨ x = 26 ∨ x = 27 ∨ x = 28 ∨ x = 29 ∨ x = 30 ∨ x = 31 ∨ x = 32 ∨ x = 33 ∨ x = 34 ∨ x = 35
  · rcases c with e | e | e | e | e | e | e | e | e | e | e | e | e <;> subst e <;> rfl
  · unfold G5_strengthOf G5_strengthOf_0 wSt
    simp only [if_neg (show ¬ x = 15 by first | decide | omega), if_neg (show ¬ x = 16 by first | decide | omega), if_neg (show ¬ x = 17 by first | decide | omega), if_neg (show ¬ x = 26 by first | decide | omega), if_neg (show ¬ x = 27 by first | decide | omega), if_neg (show ¬ x = 28 by first | decide | omega), if_neg (show ¬ x = 29 by first | decide | omega), if_neg (show ¬ x = 30 by first | decide | omega), if_neg (show ¬ x = 31 by first | decide | omega), if_neg (show ¬ x = 32 by first | decide | omega), if_neg (show ¬ x = 33 by first | decide | omega), if_neg (show ¬ x = 34 by first | decide | omega), if_neg (show ¬ x = 35 by first | decide | omega), if_neg (show ¬ (26 ≤ x ∧ x ≤ 31) by first | decide | omega), if_neg (show ¬ (x = 32 ∨ x = 33) by first | decide | omega), if_neg (show ¬ (x = 34 ∨ x = 35) by first | decide | omega)]
theorem r_rkw {x : Int} (h : wOk x) : G12_rank v (wCm x) = some (wSt x, v) := by
  have : x = 15 ∨ x = 16 ∨ x = 17 ∨ x = 26 ∨ x = 27 ∨ x = 28 ∨ x = 29 ∨ x = 30 ∨ x = 31 ∨ x = 32 ∨ x = 33 ∨ x = 34 ∨ x = 35 ∨ x = 36 := by unfold wOk at h; omega
  rcases this with e | e | e | e | e | e | e | e | e | e | e | e | e | e <;> subst e <;> rfl
theorem wSt_b {x : Int} (h : wOk x) : 0 ≤ wSt x ∧ wSt x ≤ 6 ∧ (wSt x = 0 ↔ x = 36) := by
  have : x = 15 ∨ x = 16 ∨ x = 17 ∨ x = 26 ∨ x = 27 ∨ x = 28 ∨ x = 29 ∨ x = 30 ∨ x = 31 ∨ x = 32 ∨ x = 33 ∨ x = 34 ∨ x = 35 ∨ x = 36 := by unfold wOk at h; omega
  rcases this with e | e | e | e | e | e | e | e | e | e | e | e | e | e <;> subst e <;> decide
def KV (kn : Int → Int) (j : Nat) : Prop := (0 ≤ kn j ∧ kn j < 10000) ∨ (10018 ≤ kn j ∧ kn j < 10024) ∨ (kn j = 10015 ∧ 1 ≤ (ist kn j).length) ∨ (bnk (kn j) ∧ 2 ≤ (ist kn j).length)
theorem ist_c {kn kn' : Int → Int} : ∀ {L : Nat}, (∀ j : Nat, j < L → kn' j = kn j) → ist kn' L = ist kn L := by
  intro L
  induction L with
  | zero => intro _; rfl
  | succ L ih =>
    intro h
    rw [ist_s, ist_s, h L (by first | decide | omega), ih (fun j q => h j (by first | decide | omega))]
theorem KV.c {kn kn' : Int → Int} {j : Nat} (h : KV kn j) (e : ∀ i : Nat, i ≤ j → kn' i = kn i) : KV kn' j := by
  unfold KV
  rw [e j (by first | decide | omega), ist_c (fun i q => e i (by first | decide | omega))]
  exact h
theorem NodeR.c {kn kn' : Int → Int} {u u' : Mem} {f : Int} {j : Nat} (h : NodeR kn u f j) (e : ∀ i : Nat, i ≤ j → kn' i = kn i) (e18 : u' 18 (f + j) = u 18 (f + j)) (e19 : u' 19 (f + j) = u 19 (f + j)) (e20 : u' 20 (f + j) = u 20 (f + j)) : NodeR kn' u' f j := by
  unfold NodeR
  rw [e j (by first | decide | omega), ist_c (fun i q => e i (by first | decide | omega)), e18, e19, e20]
  exact h
def KN2 (m v : Mem) (a : Nat) (F : Int) (L : Nat) : Prop := m a 1 = L ∧ v 0 23 = F + L ∧ v 0 47 = (ist (m (a + 1)) L).length ∧ stk (v 22) ((ist (m (a + 1)) L).map (fun x => F + x)) ∧ (∀ j : Nat, j < L → KV (m (a + 1)) j) ∧ ∀ j : Nat, j < L → NodeR (m (a + 1)) (kd v) F j
theorem c_add2 {a : Nat} {x : Int} (h : 0 ≤ m a 1 ∧ m a 1 < 64) : G2_add m a x = some (up (up m (a + 1) (m a 1) x) a 1 (m a 1 + 1)) := by
  unfold G2_add G2_add_0
  have e1 : up m (a + 1) (m a 1) x a 1 = m a 1 := up_a (by first | decide | omega)
  rw [if_neg (by first | decide | omega), gdx_t h, wt_e, e1, gd3_t (by first | decide | omega), wt_e]
/-- what growing changes in the reference -/
def QG (F : Int) : Nat → Int → Prop := fun b i => (b = 0 ∧ (i = 23 ∨ i = 47)) ∨ ((18 ≤ b ∧ b ≤ 20) ∧ 64 + F ≤ i) ∨ b = 22
theorem r_grown {n h c p q : Int} (e1 : v 0 23 = n) (e2 : v 0 47 = h) (hn : 0 ≤ n ∧ n < 64) (hh : 0 ≤ h ∧ h < 96) : G12_grown v c p q = some (up (up (up (up (up (up v 18 (64 + n) c) 19 (64 + n) p) 20 (64 + n) q) 22 h n) 0 47 (h + 1)) 0 23 (n + 1)) := by
  unfold G12_grown G12_grown_0
  rw [e1, gdx_t (by first | decide | omega), wt_e, up_a (by first | decide | omega), e1, gdx_t (by first | decide | omega), wt_e, up_a (by first | decide | omega), up_a (by first | decide | omega), e1, gdx_t (by first | decide | omega), wt_e]
  have k1 : up (up (up v 18 (64 + n) c) 19 (64 + n) p) 20 (64 + n) q 0 47 = h := by rw [up_a (by first | decide | omega), up_a (by first | decide | omega), up_a (by first | decide | omega)]; exact e2
  have k2 : up (up (up v 18 (64 + n) c) 19 (64 + n) p) 20 (64 + n) q 0 23 = n := by rw [up_a (by first | decide | omega), up_a (by first | decide | omega), up_a (by first | decide | omega)]; exact e1
  generalize up (up (up v 18 (64 + n) c) 19 (64 + n) p) 20 (64 + n) q = u at k1 k2 ⊢
  rw [k1, k2, gdx_t hh, wt_e, up_a (by first | decide | omega), k1, gd3_t (by first | decide | omega), wt_e, up_i (by first | decide | omega), up_a (by first | decide | omega), k2, gd3_t (by first | decide | omega), wt_e]
end Q32
