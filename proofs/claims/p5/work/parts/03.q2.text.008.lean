section Q23
variable {m v : Mem} {t : Int → Int} {S : Int}
theorem r_tokS {p : Int} (h : TPx v t S) (hp : 0 ≤ p ∧ p ≤ S) (h7 : v 0 7 = p) : ∃ v', G12_token v = some v' ∧ Fm Q7 v v' ∧ v' 0 10 = tkp t S p ∧ v' 0 7 = tqn t S (tkp t S p) ∧ KR (tqt t S (tkp t S p)) (tqv t S (tkp t S p)) (v' 0 8) (v' 0 9) := by
  have hS := h.1
  obtain ⟨q1, q2, _, _⟩ := rr_spec (f := fun i => isBl (t i)) hp.2
  obtain ⟨v1, e1, f1, k1⟩ := r_skip (t := t) (S := S) (S - p).toNat 1024 p v h hp.1 (by first | decide | omega) (by first | decide | omega) h7
  have k1' : v1 0 7 = tkp t S p := k1
  have q1' : p ≤ tkp t S p := q1
  have q2' : tkp t S p ≤ S := q2
  unfold G12_token
  rw [e1]
  generalize tkp t S p = q at k1' q1' q2' ⊢
  unfold G12_token_52
  rw [wt_e, k1']
  have f2 : Fm Q7 v (up v1 0 10 q) := f1.w ⟨rfl, by first | decide | omega, by first | decide | omega⟩
  have g7 : up v1 0 10 q 0 7 = q := by rw [up_i (by first | decide | omega)]; exact k1'
  have g10 : up v1 0 10 q 0 10 = q := up_e
  generalize up v1 0 10 q = u at f2 g7 g10 ⊢
  have hu := h.q f2
  rw [g7, hu.2.1]
  unfold tqt tqv tqn
  by_cases c1 : S ≤ q
  · rw [if_pos c1, if_pos c1, if_pos c1, if_pos (by first | decide | omega), wt_e]
    refine ⟨_, rfl, f2.w ⟨rfl, by first | decide | omega, by first | decide | omega⟩, by rw [up_i (by first | decide | omega)]; exact g10, by rw [up_i (by first | decide | omega)]; exact g7, ?_⟩
    rw [up_e]
    exact Or.inl ⟨rfl, rfl⟩
  · rw [if_neg c1, if_neg c1, if_neg c1, if_neg (by first | decide | omega), r_small hu (by first | decide | omega), bs1]
    by_cases c2 : isLt (t q) = true
    · simp only [if_pos (show q < S ∧ isLt (t q) = true from ⟨by first | decide | omega, c2⟩), if_pos c2, if_neg i10]
      obtain ⟨v', z1, z2, z3, z4, z5⟩ := r_w90 (q := q) (S - q).toNat 1024 q u hu (by first | decide | omega) (by first | decide | omega) (by first | decide | omega) (by first | decide | omega) g7 g10 (fun i a b => by first | decide | omega) (fun _ => ⟨by first | decide | omega, c2⟩)
      exact ⟨v', z1, f2.tr z2, z4, z3, z5⟩
    · simp only [if_neg (show ¬ (q < S ∧ isLt (t q) = true) from fun z => c2 z.2), if_neg c2, if_true]
      rw [g7, r_dig hu (by first | decide | omega), bs1]
      by_cases c3 : isDg (t q) = true
      · simp only [if_pos (show q < S ∧ isDg (t q) = true from ⟨by first | decide | omega, c3⟩), if_pos c3, if_neg i10]
        rw [wt_e, wt_e]
        have f3 : Fm Q7 v (up (up u 0 8 3) 0 9 0) := (f2.w ⟨rfl, by first | decide | omega, by first | decide | omega⟩).w ⟨rfl, by first | decide | omega, by first | decide | omega⟩
        obtain ⟨v', z1, z2, z3, z4, z5, z6⟩ := r_n213 (S - q).toNat 1024 q 0 (up (up u 0 8 3) 0 9 0) (h.q f3) (by first | decide | omega) (by first | decide | omega) (by first | decide | omega) (by rw [up_i (by first | decide | omega), up_i (by first | decide | omega)]; exact g7) (by rw [up_i (by first | decide | omega), up_e]) (by rw [up_e]; exact ⟨by first | decide | omega, by first | decide | omega, Or.inl rfl⟩) (by rw [up_e]; first | decide | omega)
        refine ⟨v', z1, f3.tr z2, ?_, z3, ?_⟩
        · rw [z4, up_i (by first | decide | omega), up_i (by first | decide | omega)]; exact g10
        · rw [z5]
          exact Or.inr (Or.inr (Or.inr (Or.inl ⟨rfl, rfl, z6⟩)))
      · simp only [if_neg (show ¬ (q < S ∧ isDg (t q) = true) from fun z => c3 z.2), if_neg c3, if_true]
        obtain ⟨v', z1, z2, z3, z4, z5⟩ := r_sgn hu (q := q) (by first | decide | omega) g7
        rw [z1, bs1]
        exact ⟨v', rfl, f2.tr z2, by rw [z4]; exact g10, z3, z5⟩
/-- the class is about to read the token that the reference holds -/
def PreR (m v : Mem) (S : Int) : Prop := TPx v (m 1) S ∧ m 47 1 = 1 ∧ m 47 2 = S ∧ ((∀ i : Nat, i < 24 → m 48 i = lgW.getD i 0) ∧ (m 46 8 = v 0 4 ∧ m 46 9 = v 0 5)) ∧ (0 ≤ m 47 3 ∧ m 47 3 ≤ S) ∧ v 0 10 = tkp (m 1) S (m 47 3) ∧ v 0 7 = tqn (m 1) S (tkp (m 1) S (m 47 3)) ∧ KR (tqt (m 1) S (tkp (m 1) S (m 47 3))) (tqv (m 1) S (tkp (m 1) S (m 47 3))) (v 0 8) (v 0 9)
/-- both hold the same token -/
def PostR (m v : Mem) (S : Int) : Prop := TPx v (m 1) S ∧ m 47 1 = 1 ∧ m 47 2 = S ∧ ((∀ i : Nat, i < 24 → m 48 i = lgW.getD i 0) ∧ (m 46 8 = v 0 4 ∧ m 46 9 = v 0 5)) ∧ (0 ≤ m 47 3 ∧ m 47 3 ≤ S) ∧ v 0 10 = m 47 5 ∧ v 0 7 = m 47 3 ∧ KR (m 47 4) (m 47 6) (v 0 8) (v 0 9)
theorem tqn_b {t : Int → Int} {S q : Int} (h : 0 ≤ q ∧ q ≤ S) : q ≤ tqn t S q ∧ tqn t S q ≤ S ∧ (tqt t S q ≠ 39 → q < tqn t S q) := by
  unfold tqn tqt
  by_cases c1 : S ≤ q
  · rw [if_pos c1, if_pos c1]; exact ⟨by first | decide | omega, by first | decide | omega, fun z => absurd rfl z⟩
  · rw [if_neg c1]
    by_cases c2 : isLt (t q) = true
    · rw [if_pos c2]
      obtain ⟨r1, r2, _, r4⟩ := rr_spec (f := fun i => isLt (t i)) h.2
      have e : lte t S q = rr (fun i => isLt (t i)) S q := rfl
      rw [e]
      have hne : rr (fun i => isLt (t i)) S q ≠ q := fun z => r4 (by first | decide | omega) (by rw [z]; exact c2)
      exact ⟨r1, r2, fun _ => by first | decide | omega⟩
    · rw [if_neg c2]
      by_cases c3 : isDg (t q) = true
      · rw [if_pos c3]
        obtain ⟨r1, r2, _, r4⟩ := rr_spec (f := fun i => isDg (t i)) h.2
        have e : dge t S q = rr (fun i => isDg (t i)) S q := rfl
        rw [e]
        have hne : rr (fun i => isDg (t i)) S q ≠ q := fun z => r4 (by first | decide | omega) (by rw [z]; exact c3)
        exact ⟨r1, r2, fun _ => by first | decide | omega⟩
      · rw [if_neg c3]
        have : sgA (t q) (chN t S q) = 1 ∨ (sgA (t q) (chN t S q) = 2 ∧ q + 1 < S) := by
          unfold sgA chN
          by_cases d : q + 1 < S
          · simp only [if_pos d]
            split
            · split
              · right; exact ⟨rfl, d⟩
              · split
                · right; exact ⟨rfl, d⟩
                · left; rfl
            · split
              · split
                · right; exact ⟨rfl, d⟩
                · left; rfl
              · left; rfl
          · simp only [if_neg d, if_neg (show ¬ (0 : Int) = 61 by first | decide | omega), if_neg (show ¬ (0 : Int) = 62 by first | decide | omega)]
            left
            split
            · rfl
            · split <;> rfl
        omega
theorem PreR.adv (h : PreR m v S) : ∃ m', G7_advance m = some m' ∧ Fm P47 m m' ∧ PostR m' v S ∧ m 47 3 ≤ m' 47 3 ∧ (m' 47 4 ≠ 39 → m 47 3 < m' 47 3) := by
  obtain ⟨h1, h2, h3, h4, h5, h6, h7, h8⟩ := h
  obtain ⟨m', e, f, k1, k2, k3, k4⟩ := c_advS (t := m 1) h1.1 h5 h2 h3 rfl rfl h4.1
  obtain ⟨q1, q2, _, _⟩ := rr_spec (f := fun i => isBl (m 1 i)) h5.2
  have q1' : m 47 3 ≤ tkp (m 1) S (m 47 3) := q1
  have q2' : tkp (m 1) S (m 47 3) ≤ S := q2
  have hb := tqn_b (t := m 1) (S := S) (q := tkp (m 1) S (m 47 3)) (by first | decide | omega)
  have e1 : m' 1 = m 1 := f.rw1 (fun i => by unfold P47; first | decide | omega)
  have e48 : m' 48 = m 48 := f.rw1 (fun i => by unfold P47; first | decide | omega)
  refine ⟨m', e, f, ⟨by rw [e1]; exact h1, by rw [f 47 1 (by unfold P47; first | decide | omega)]; exact h2, by rw [f 47 2 (by unfold P47; first | decide | omega)]; exact h3, by rw [e48, f 46 8 (by unfold P47; first | decide | omega), f 46 9 (by unfold P47; first | decide | omega)]; exact h4, by first | decide | omega, by rw [k1]; exact h6, by rw [k4]; exact h7, by rw [k2, k3]; exact h8⟩, by first | decide | omega, fun z => ?_⟩
  rw [k2] at z
  have := hb.2.2 z
  omega
theorem PostR.tok (h : PostR m v S) : ∃ v', G12_token v = some v' ∧ Fm Q7 v v' ∧ PreR m v' S := by
  obtain ⟨h1, h2, h3, h4, h5, h6, h7, h8⟩ := h
  obtain ⟨v', e, f, k1, k2, k3⟩ := r_tokS h1 h5 h7
  exact ⟨v', e, f, h1.q f, h2, h3, ⟨h4.1, by rw [f 0 4 (by unfold Q7; first | decide | omega), f 0 5 (by unfold Q7; first | decide | omega)]; exact h4.2⟩, h5, k1, k2, k3⟩
/-- what is otherwise changed leaves both alone -/
theorem PreR.f {m m' v v' : Mem} {P Q : Nat → Int → Prop} (h : PreR m v S) (f : Fm P m m') (g : Fm Q v v') (hp : ∀ b i, b = 1 ∨ b = 47 ∨ b = 48 ∨ (b = 46 ∧ (i = 8 ∨ i = 9)) → ¬ P b i) (hq : ∀ b i, (b = 0 ∧ 4 ≤ i ∧ i ≤ 10) ∨ b = 1 ∨ b = 2 → ¬ Q b i) : PreR m' v' S := by
  obtain ⟨h1, h2⟩ := h
  unfold PreR
  rw [f.rw1 (fun i => hp 1 i (by first | decide | omega)), f.rw1 (fun i => hp 47 i (by first | decide | omega)), f.rw1 (fun i => hp 48 i (by first | decide | omega)), f 46 8 (hp _ _ (by first | decide | omega)), f 46 9 (hp _ _ (by first | decide | omega)), g 0 4 (hq _ _ (by first | decide | omega)), g 0 5 (hq _ _ (by first | decide | omega)), g 0 10 (hq _ _ (by first | decide | omega)), g 0 7 (hq _ _ (by first | decide | omega)), g 0 8 (hq _ _ (by first | decide | omega)), g 0 9 (hq _ _ (by first | decide | omega))]
  exact ⟨h1.f g (by intro b i q; exact hq b i (by first | decide | omega)), h2⟩
theorem PostR.f {m m' v v' : Mem} {P Q : Nat → Int → Prop} (h : PostR m v S) (f : Fm P m m') (g : Fm Q v v') (hp : ∀ b i, b = 1 ∨ b = 47 ∨ b = 48 ∨ (b = 46 ∧ (i = 8 ∨ i = 9)) → ¬ P b i) (hq : ∀ b i, (b = 0 ∧ 4 ≤ i ∧ i ≤ 10) ∨ b = 1 ∨ b = 2 → ¬ Q b i) : PostR m' v' S := by
  obtain ⟨h1, h2⟩ := h
  unfold PostR
  rw [f.rw1 (fun i => hp 1 i (by first | decide | omega)), f.rw1 (fun i => hp 47 i (by first | decide | omega)), f.rw1 (fun i => hp 48 i (by first | decide | omega)), f 46 8 (hp _ _ (by first | decide | omega)), f 46 9 (hp _ _ (by first | decide | omega)), g 0 4 (hq _ _ (by first | decide | omega)), g 0 5 (hq _ _ (by first | decide | omega)), g 0 10 (hq _ _ (by first | decide | omega)), g 0 7 (hq _ _ (by first | decide | omega)), g 0 8 (hq _ _ (by first | decide | omega)), g 0 9 (hq _ _ (by first | decide | omega))]
  exact ⟨h1.f g (by intro b i q; exact hq b i (by first | decide | omega)), h2⟩
end Q23
/-! Reading a text: numbers, the draft on both sides. -/
def Pk : Nat → Int → Prop := fun b i => (b = 47 ∧ 3 ≤ i) ∨ (b = 46 ∧ (i = 8 ∨ i = 9))
def Qk : Nat → Int → Prop := fun b i => b = 0 ∧ (i = 4 ∨ i = 5 ∨ (7 ≤ i ∧ i ≤ 11))
/-- the same fault at the same place -/
def FLT (m v : Mem) : Prop := m 46 8 = v 0 4 ∧ m 46 9 = v 0 5
theorem P47_k : ∀ b i, P47 b i → Pk b i := by intro b i h; unfold P47 at h; unfold Pk; omega
theorem Q7_k : ∀ b i, Q7 b i → Qk b i := by intro b i h; unfold Q7 at h; unfold Qk; omega
section Q24
variable {m v m' v' : Mem} {S : Int} {D : Nat}
theorem c_ref (m : Mem) (x : Int) : G5_refuse m x = some (0, up (up m 46 8 x) 46 9 (m 47 5)) := by
  unfold G5_refuse G5_refuse_0
  rw [wt_e, wt_e, up_a (by first | decide | omega)]
theorem r_wrong (v : Mem) (x : Int) : G12_wrong v x = some (0, up (up v 0 4 x) 0 5 (v 0 10)) := by
  unfold G12_wrong G12_wrong_0
  rw [wt_e, wt_e, up_i (by first | decide | omega)]
theorem flt (m v : Mem) (x : Int) {p q : Int} (h : p = q) : FLT (up (up m 46 8 x) 46 9 p) (up (up v 0 4 x) 0 5 q) ∧ Fm Pk m (up (up m 46 8 x) 46 9 p) ∧ Fm Qk v (up (up v 0 4 x) 0 5 q) := by
  refine ⟨⟨?_, ?_⟩, (Fm.w1 (by unfold Pk; first | decide | omega)).w (by unfold Pk; first | decide | omega), (Fm.w1 (by unfold Qk; first | decide | omega)).w (by unfold Qk; first | decide | omega)⟩
  · rw [up_i (by first | decide | omega), up_e, up_i (by first | decide | omega), up_e]
  · rw [up_e, up_e]; exact h
end Q24
