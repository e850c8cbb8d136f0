/-! The reference: what its rows hold of a text; it works laws out alike. -/
def Fm (P : Nat → Int → Prop) (m m' : Mem) : Prop := ∀ b i, ¬ P b i → m' b i = m b i
theorem Fm.rf {P : Nat → Int → Prop} {m : Mem} : Fm P m m := fun _ _ _ => rfl
theorem Fm.tr {P : Nat → Int → Prop} {m m1 m2 : Mem} (a : Fm P m m1) (b : Fm P m1 m2) : Fm P m m2 := fun x i h => (b x i h).trans (a x i h)
theorem Fm.mono {P Q : Nat → Int → Prop} {m m1 : Mem} (a : Fm P m m1) (h : ∀ x i, P x i → Q x i) : Fm Q m m1 := fun x i q => a x i (fun p => q (h x i p))
theorem Fm.w {P : Nat → Int → Prop} {m m1 : Mem} {a : Nat} {i v : Int} (f : Fm P m m1) (h : P a i) : Fm P m (up m1 a i v) := by
  intro x j q
  by_cases c : x = a ∧ j = i
  · exact absurd (by rw [c.1, c.2]; exact h) q
  · have : up m1 a i v x j = m1 x j := if_neg c
    rw [this]; exact f x j q
theorem Fm.w1 {P : Nat → Int → Prop} {m : Mem} {a : Nat} {i v : Int} (h : P a i) : Fm P m (up m a i v) := Fm.w Fm.rf h
def opM (k : Int) : Int := if k = 10016 then 3 else if k = 10017 then 4 else k - 10021
def NodeR (kn : Int → Int) (v : Mem) (f : Int) (j : Nat) : Prop :=
  (0 ≤ kn j ∧ kn j < 10000 ∧ v 18 (f + j) = 0 ∧ v 19 (f + j) = kn j) ∨
  (10018 ≤ kn j ∧ kn j < 10024 ∧ v 18 (f + j) = 1 ∧ v 19 (f + j) = kn j - 10018) ∨
  (kn j = 10015 ∧ v 18 (f + j) = 2 ∧ ∃ a r, ist kn j = a :: r ∧ v 19 (f + j) = f + a) ∨
  (bnk (kn j) ∧ v 18 (f + j) = opM (kn j) ∧ ∃ b a r, ist kn j = b :: a :: r ∧ v 19 (f + j) = f + a ∧ v 20 (f + j) = f + b)
def RLw (v w : Mem) (k : Int) (a b : Nat) : Prop := v 15 k = w a 2 ∧ (w a 2 = 0 ∨ w a 2 = 1) ∧ (w a 2 = 0 → w a 1 = 0) ∧ (w a 2 = 1 → 0 < w a 1 ∧ 0 ≤ v 16 k ∧ v 17 k = v 16 k + w a 1 ∧ v 17 k ≤ 64 ∧ ∀ j : Nat, (j : Int) < w a 1 → NodeR (w b) v (v 16 k) j)
/-- the reference holds the text w -/
def RT (v w : Mem) : Prop :=
  (v 0 12 = w 0 0 ∧ v 0 13 = w 0 1 ∧ v 0 14 = w 1 0 ∧ v 0 15 = w 8 0 ∧ v 0 16 = w 8 1 ∧ v 0 17 = w 0 13) ∧
  (v 4 0 = w 0 2 ∧ v 4 1 = w 0 3 ∧ v 4 2 = w 0 6 ∧ v 4 3 = w 0 7 ∧ v 4 4 = w 0 8 ∧ v 4 5 = w 0 9 ∧ v 4 6 = w 0 10) ∧
  (∀ i, 0 ≤ i → i < w 1 0 → v 5 i = w 2 i ∧ v 6 i = w 3 i ∧ v 7 i = w 4 i ∧ v 8 i = w 5 i ∧ v 9 i = w 6 i ∧ v 10 i = w 7 i) ∧
  (∀ t, 0 ≤ t → t < w 8 0 → v 11 t = w 9 t) ∧ (∀ i, 0 ≤ i → i < w 8 1 → v 12 i = w 11 i ∧ v 13 i = w 12 i ∧ v 14 i = w 13 i) ∧
  RLw v w 0 16 17 ∧ RLw v w 1 18 19 ∧ RLw v w 2 20 21
theorem NodeR.fr {kn : Int → Int} {v v' : Mem} {f : Int} {j : Nat} (h : NodeR kn v f j) (e1 : v' 18 = v 18) (e2 : v' 19 = v 19) (e3 : v' 20 = v 20) : NodeR kn v' f j := by
  unfold NodeR at *; rw [e1, e2, e3]; exact h
theorem RLw.fr {v v' w : Mem} {k : Int} {a b : Nat} (h : RLw v w k a b) (e : ∀ c : Nat, 4 ≤ c → c ≤ 20 → v' c = v c) : RLw v' w k a b := by
  obtain ⟨h1, h2, h3, h4⟩ := h
  refine ⟨by rw [e 15 (by omega) (by omega)]; exact h1, h2, h3, fun q => ?_⟩
  obtain ⟨g1, g2, g3, g4, g5⟩ := h4 q
  rw [e 16 (by omega) (by omega), e 17 (by omega) (by omega)]
  exact ⟨g1, g2, g3, g4, fun j hj => (g5 j hj).fr (e 18 (by omega) (by omega)) (e 19 (by omega) (by omega)) (e 20 (by omega) (by omega))⟩
theorem RT.fr {v v' w : Mem} (h : RT v w) {P : Nat → Int → Prop} (f : Fm P v v') (hp : ∀ b i, (b = 0 ∧ 12 ≤ i ∧ i ≤ 17) ∨ (4 ≤ b ∧ b ≤ 20) → ¬ P b i) : RT v' w := by
  have e0 : ∀ i, 12 ≤ i → i ≤ 17 → v' 0 i = v 0 i := fun i a b => f 0 i (hp 0 i (Or.inl ⟨rfl, a, b⟩))
  have e : ∀ c : Nat, 4 ≤ c → c ≤ 20 → v' c = v c := fun c a b => funext fun i => f c i (hp c i (Or.inr ⟨a, b⟩))
  obtain ⟨h1, h2, h3, h4, h5, h6, h7, h8⟩ := h
  refine ⟨?_, ?_, ?_, ?_, ?_, h6.fr e, h7.fr e, h8.fr e⟩
  · rw [e0 12 (by omega) (by omega), e0 13 (by omega) (by omega), e0 14 (by omega) (by omega), e0 15 (by omega) (by omega), e0 16 (by omega) (by omega), e0 17 (by omega) (by omega)]; exact h1
  · rw [e 4 (by omega) (by omega)]; exact h2
  · rw [e 5 (by omega) (by omega), e 6 (by omega) (by omega), e 7 (by omega) (by omega), e 8 (by omega) (by omega), e 9 (by omega) (by omega), e 10 (by omega) (by omega)]; exact h3
  · rw [e 11 (by omega) (by omega)]; exact h4
  · rw [e 12 (by omega) (by omega), e 13 (by omega) (by omega), e 14 (by omega) (by omega)]; exact h5
/-- values of the waiting parts, by their numbers -/
def mtch (f : Int → Int) (o : Int) : List Int → List Int → Prop
  | [], [] => True
  | a :: r, x :: s => f (o + a) = x ∧ mtch f o r s
  | _, _ => False
theorem mtch_up {f g : Int → Int} {o : Int} : ∀ {r s : List Int}, mtch f o r s → (∀ a ∈ r, g (o + a) = f (o + a)) → mtch g o r s := by
  intro r
  induction r with
  | nil => intro s h _; cases s with
    | nil => trivial
    | cons _ _ => exact h
  | cons a r ih =>
    intro s h e
    cases s with
    | nil => exact h
    | cons x s => exact ⟨by rw [e a (by simp)]; exact h.1, ih h.2 (fun b hb => e b (List.mem_cons_of_mem _ hb))⟩
theorem ist_b (kn : Int → Int) : ∀ (j : Nat) (a : Int), a ∈ ist kn j → 0 ≤ a ∧ a < j := by
  intro j
  induction j with
  | zero => intro a h; cases h
  | succ j ih =>
    intro a h
    unfold ist at h
    have key : ∀ n, a ∈ (j : Int) :: (ist kn j).drop n → 0 ≤ a ∧ a < ((j + 1 : Nat) : Int) := by
      intro n h
      rcases List.mem_cons.mp h with rfl | h
      · omega
      · have := ih a (List.mem_of_mem_drop h); omega
    split at h
    · exact key 0 h
    · split at h
      · exact key 1 h
      · exact key 2 h
section ML
variable {m : Mem}
def P54 : Nat → Int → Prop := fun b i => b = 0 ∧ i = 54
theorem m_bnd {x : Int} (he : m 0 54 = 0 ∨ m 0 54 = 1) : ∃ r m', G12_bounded m x = some (r, m') ∧ bM r ∧ Fm P54 m m' ∧ (m 0 54 = 1 → m' 0 54 = 1) ∧ (m 0 54 = 0 → ((-1000000000000 ≤ x ∧ x ≤ 1000000000000) ∧ r = x ∧ m' 0 54 = 0) ∨ (¬ (-1000000000000 ≤ x ∧ x ≤ 1000000000000) ∧ m' 0 54 = 1)) := by
  have z : bM 0 := ⟨by decide, by decide⟩
  unfold G12_bounded G12_bounded_0 G12_bounded_24 G12_bounded_29
  simp only [wt_e, up_e, gdb_t (show (0 : Int) = 0 ∨ (0 : Int) = 1 by decide), gdb_t (show (1 : Int) = 0 ∨ (1 : Int) = 1 by decide), if_true, if_neg (show ¬ (1 : Int) = 0 by decide)]
  by_cases c : m 0 54 = 0
  · rw [if_pos c]
    by_cases c1 : 1000000000000 < x
    · rw [if_pos c1]
      exact ⟨0, _, rfl, z, Fm.w1 ⟨rfl, rfl⟩, fun _ => up_e, fun _ => Or.inr ⟨by omega, up_e⟩⟩
    · rw [if_neg c1]
      by_cases c2 : -1000000000000 ≤ x
      · rw [if_pos c2]
        exact ⟨x, _, rfl, ⟨c2, by omega⟩, Fm.w1 ⟨rfl, rfl⟩, fun q => by omega, fun _ => Or.inl ⟨⟨c2, by omega⟩, rfl, up_e⟩⟩
      · rw [if_neg c2]
        exact ⟨0, _, rfl, z, Fm.w1 ⟨rfl, rfl⟩, fun _ => up_e, fun _ => Or.inr ⟨by omega, up_e⟩⟩
  · rw [if_neg c]
    exact ⟨0, _, rfl, z, Fm.w1 ⟨rfl, rfl⟩, fun _ => up_e, fun q => absurd q c⟩
theorem m_tim49 {a b s : Int} (he : m 0 54 = 0 ∨ m 0 54 = 1) (hs : (s = 0 ∧ -1000000000000 ≤ a * b ∧ a * b ≤ 1000000000000) ∨ (s = 1 ∧ ¬ (-1000000000000 ≤ a * b ∧ a * b ≤ 1000000000000))) : ∃ r m', G12_times_49 m a b s = some (r, m') ∧ bM r ∧ Fm P54 m m' ∧ (m 0 54 = 1 → m' 0 54 = 1) ∧ (m 0 54 = 0 → ((-1000000000000 ≤ a * b ∧ a * b ≤ 1000000000000) ∧ r = a * b ∧ m' 0 54 = 0) ∨ (¬ (-1000000000000 ≤ a * b ∧ a * b ≤ 1000000000000) ∧ m' 0 54 = 1)) := by
  have z : bM 0 := ⟨by decide, by decide⟩
  unfold G12_times_49 G12_times_64 G12_times_69
  simp only [wt_e, up_e, gdb_t (show (0 : Int) = 0 ∨ (0 : Int) = 1 by decide), gdb_t (show (1 : Int) = 0 ∨ (1 : Int) = 1 by decide), if_true, if_neg (show ¬ (1 : Int) = 0 by decide)]
  by_cases c : m 0 54 = 0
  · rw [if_pos c]
    rcases hs with ⟨h1, h2⟩ | ⟨h1, h2⟩
    · rw [if_pos h1, gd6_t (by omega)]
      exact ⟨a * b, _, rfl, h2, Fm.w1 ⟨rfl, rfl⟩, fun q => by omega, fun _ => Or.inl ⟨h2, rfl, up_e⟩⟩
    · rw [if_neg (by omega)]
      exact ⟨0, _, rfl, z, Fm.w1 ⟨rfl, rfl⟩, fun _ => up_e, fun _ => Or.inr ⟨h2, up_e⟩⟩
  · rw [if_neg c]
    exact ⟨0, _, rfl, z, Fm.w1 ⟨rfl, rfl⟩, fun _ => up_e, fun q => absurd q c⟩
theorem m_tim {a b : Int} (ha : bM a) (hb : bM b) (he : m 0 54 = 0 ∨ m 0 54 = 1) : ∃ r m', G12_times m a b = some (r, m') ∧ bM r ∧ Fm P54 m m' ∧ (m 0 54 = 1 → m' 0 54 = 1) ∧ (m 0 54 = 0 → ((-1000000000000 ≤ a * b ∧ a * b ≤ 1000000000000) ∧ r = a * b ∧ m' 0 54 = 0) ∨ (¬ (-1000000000000 ≤ a * b ∧ a * b ≤ 1000000000000) ∧ m' 0 54 = 1)) := by
  unfold G12_times G12_times_0 G12_times_48
  by_cases a0 : a = 0
  · rw [if_pos a0]
    exact m_tim49 he (Or.inl ⟨rfl, by subst a0; simp, by subst a0; simp⟩)
  · rw [if_neg a0]
    by_cases b0 : b = 0
    · rw [if_pos b0]
      exact m_tim49 he (Or.inl ⟨rfl, by subst b0; simp, by subst b0; simp⟩)
    · rw [if_neg b0]
      have hA := ab_b a
      have hB := ab_b b
      have key : (if 0 ≤ b then G12_times_24 m a b b else gd6 (-b) (G12_times_24 m a b (-b))) = G12_times_39 m a b (ab a) 1000000000000 (ab b) := by
        unfold bM at ha hb
        unfold G12_times_24 ab
        by_cases h1 : 0 ≤ a <;> by_cases h2 : 0 ≤ b
        · simp only [if_pos h1, if_pos h2]
        · simp only [if_pos h1, if_neg h2, gd6_t (show -9223372036854775808 ≤ -b ∧ -b ≤ 9223372036854775807 by omega), Int.zero_sub]
        · simp only [if_neg h1, if_pos h2, gd6_t (show -9223372036854775808 ≤ -a ∧ -a ≤ 9223372036854775807 by omega), Int.zero_sub]
        · simp only [if_neg h1, if_neg h2, gd6_t (show -9223372036854775808 ≤ -a ∧ -a ≤ 9223372036854775807 by omega), gd6_t (show -9223372036854775808 ≤ -b ∧ -b ≤ 9223372036854775807 by omega), Int.zero_sub]
      rw [key]
      unfold G12_times_39 G12_times_48
      have hf := mul_fit (a := b) (b := a) (by omega)
      rw [Int.mul_comm b a] at hf
      have htd : bM (Int.tdiv 1000000000000 (ab a)) := tdiv_b ⟨by decide, by decide⟩
      unfold bM at htd
      rw [if_neg (by omega), gd6_t (by omega)]
      by_cases h1 : ab b ≤ Int.tdiv 1000000000000 (ab a)
      · rw [if_pos h1]
        exact m_tim49 he (Or.inl ⟨rfl, hf.mp h1⟩)
      · rw [if_neg h1]
        exact m_tim49 he (Or.inr ⟨rfl, fun q => h1 (hf.mpr q)⟩)
/-- a node of the reference's tree: what it is worth, whether that is an error -/
theorem m_node {kn nm : Int → Int} {f : Int} {j : Nat} (hf : 0 ≤ f ∧ f + j < 64) (hN : NodeR kn m f j) (hn : ∀ q, 0 ≤ q → q < 6 → bM (nm q) ∧ m 23 q = nm q) (hb : ∀ q : Int, 0 ≤ q → q < (j : Int) → bM (m 24 (f + q))) (he : m 0 54 = 0 ∨ m 0 54 = 1) :
    ∃ r m', G12_valueOf m (f + j) = some (r, m') ∧ bM r ∧ Fm P54 m m' ∧ (m' 0 54 = 0 ∨ m' 0 54 = 1) ∧ (m 0 54 = 1 → m' 0 54 = 1) ∧ (m 0 54 = 0 → ∀ st, mtch (m 24) f (ist kn j) st → (∃ st' tl, stp kn nm j st = some (r :: st') ∧ ist kn (j + 1) = (j : Int) :: tl ∧ (∀ a ∈ tl, 0 ≤ a ∧ a < j) ∧ mtch (m 24) f tl st' ∧ m' 0 54 = 0) ∨ (stp kn nm j st = none ∧ m' 0 54 = 1)) := by
  have hib := ist_b kn j
  unfold G12_valueOf G12_valueOf_0
  simp only [gdx_t (show 0 ≤ f + (j : Int) ∧ f + (j : Int) < 128 by omega)]
  rcases hN with ⟨k0, k1, k2, k3⟩ | ⟨k1, k2, k3, k4⟩ | ⟨k1, k2, a, r, k3, k4⟩ | ⟨k1, k2, b, a, r, k3, k4, k5⟩
  · rw [k2, if_pos rfl, k3]
    refine ⟨kn j, m, rfl, ⟨by omega, by omega⟩, Fm.rf, he, id, fun e0 st hst => Or.inl ⟨st, ist kn j, ?_, ?_, hib, hst, e0⟩⟩
    · unfold stp; rw [if_pos k1]
    · show (if _ then _ else _) = _; rw [if_pos (Or.inl k1)]
  · rw [k3, if_neg (by decide), if_pos rfl, k4, gdx_t (by omega)]
    have h6 := hn (kn j - 10018) (by omega) (by omega)
    rw [h6.2]
    refine ⟨_, m, rfl, h6.1, Fm.rf, he, id, fun e0 st hst => Or.inl ⟨st, ist kn j, ?_, ?_, hib, hst, e0⟩⟩
    · unfold stp; rw [if_neg (by omega), if_pos ⟨k1, k2⟩]
    · show (if _ then _ else _) = _; rw [if_pos (Or.inr ⟨k1, k2⟩)]
  · have ha := hib a (by rw [k3]; simp)
    rw [k2, if_neg (by decide), if_neg (by decide), k4, gdx_t (by omega), if_pos rfl]
    have ht : ist kn (j + 1) = (j : Int) :: r := by
      show (if _ then _ else _) = _
      rw [if_neg (by omega), if_pos k1, k3]; rfl
    have htb : ∀ x ∈ r, 0 ≤ x ∧ x < (j : Int) := fun x hx => hib x (by rw [k3]; exact List.mem_cons_of_mem _ hx)
    have fin : ∀ x : Int, x = (if m 24 (f + a) = 0 then 1 else 0) → bM x → ∃ r' m', some (x, m) = some (r', m') ∧ bM r' ∧ Fm P54 m m' ∧ (m' 0 54 = 0 ∨ m' 0 54 = 1) ∧ (m 0 54 = 1 → m' 0 54 = 1) ∧ (m 0 54 = 0 → ∀ st, mtch (m 24) f (ist kn j) st → (∃ st' tl, stp kn nm j st = some (r' :: st') ∧ ist kn (j + 1) = (j : Int) :: tl ∧ (∀ a ∈ tl, 0 ≤ a ∧ a < (j : Int)) ∧ mtch (m 24) f tl st' ∧ m' 0 54 = 0) ∨ (stp kn nm j st = none ∧ m' 0 54 = 1)) := by
      intro x hx hxb
      refine ⟨x, m, rfl, hxb, Fm.rf, he, id, fun e0 st hst => ?_⟩
      rw [k3] at hst
      cases st with
      | nil => exact hst.elim
      | cons y st' =>
        refine Or.inl ⟨st', r, ?_, ht, htb, hst.2, e0⟩
        unfold stp
        rw [if_neg (by omega), if_neg (by omega), if_pos k1, hx, hst.1]
    split
    · rename_i c; exact fin 1 (by rw [if_pos c]) ⟨by decide, by decide⟩
    · rename_i c; exact fin 0 (by rw [if_neg c]) ⟨by decide, by decide⟩
  · have ha := hib a (by rw [k3]; simp)
    have hbb := hib b (by rw [k3]; simp)
    have hba := hb a ha.1 ha.2
    have hbv := hb b hbb.1 hbb.2
    have ht : ist kn (j + 1) = (j : Int) :: r := by
      show (if _ then _ else _) = _
      unfold bnk at k1
      rw [if_neg (by omega), if_neg (by omega), k3]; rfl
    have htb : ∀ x ∈ r, 0 ≤ x ∧ x < (j : Int) := fun x hx => hib x (by rw [k3]; exact List.mem_cons_of_mem _ (List.mem_cons_of_mem _ hx))
    have hop : 3 ≤ opM (kn j) ∧ opM (kn j) ≤ 14 := by unfold opM; unfold bnk at k1; (split; omega; split <;> omega)
    rw [if_neg (by omega), if_neg (by omega), k4, k5, gdx_t (by omega), if_neg (by omega), gdx_t (by omega)]
    -- what stp says here
    have hstp : ∀ st, mtch (m 24) f (ist kn j) st → ∃ st', stp kn nm j st = (if 1000000000000 < jn (kn j - 10000) (m 24 (f + a)) (m 24 (f + b)) ∨ jn (kn j - 10000) (m 24 (f + a)) (m 24 (f + b)) < -1000000000000 then none else some (jn (kn j - 10000) (m 24 (f + a)) (m 24 (f + b)) :: st')) ∧ mtch (m 24) f r st' := by
      intro st hst
      rw [k3] at hst
      match st, hst with
      | [], hst => exact hst.elim
      | [x], hst => exact hst.2.elim
      | x :: y :: st', hst =>
        refine ⟨st', ?_, hst.2.2⟩
        unfold stp
        unfold bnk at k1
        rw [if_neg (by omega), if_neg (by omega), if_neg (by omega), hst.1, hst.2.1]
    generalize hA : m 24 (f + a) = A at *
    generalize hB : m 24 (f + b) = B at *
    -- an end that leaves all as it is
    have fin : ∀ x : Int, x = jn (kn j - 10000) A B → bM x → ∃ r' m', some (x, m) = some (r', m') ∧ bM r' ∧ Fm P54 m m' ∧ (m' 0 54 = 0 ∨ m' 0 54 = 1) ∧ (m 0 54 = 1 → m' 0 54 = 1) ∧ (m 0 54 = 0 → ∀ st, mtch (m 24) f (ist kn j) st → (∃ st' tl, stp kn nm j st = some (r' :: st') ∧ ist kn (j + 1) = (j : Int) :: tl ∧ (∀ a ∈ tl, 0 ≤ a ∧ a < (j : Int)) ∧ mtch (m 24) f tl st' ∧ m' 0 54 = 0) ∨ (stp kn nm j st = none ∧ m' 0 54 = 1)) := by
      intro x hx hxb
      refine ⟨x, m, rfl, hxb, Fm.rf, he, id, fun e0 st hst => ?_⟩
      obtain ⟨st', q1, q2⟩ := hstp st hst
      unfold bM at hxb
      rw [← hx, if_neg (by omega)] at q1
      exact Or.inl ⟨st', r, q1, ht, htb, q2, e0⟩
    have o1 : bM 1 := ⟨by decide, by decide⟩
    have o0 : bM 0 := ⟨by decide, by decide⟩
    -- an end that may be an error
    have fin2 : ∀ (E : Option (Int × Mem)) (x : Int) (ok : Prop), (∃ r' m', E = some (r', m') ∧ bM r' ∧ Fm P54 m m' ∧ (m 0 54 = 1 → m' 0 54 = 1) ∧ (m 0 54 = 0 → (ok ∧ r' = x ∧ m' 0 54 = 0) ∨ (¬ ok ∧ m' 0 54 = 1))) → (ok → jn (kn j - 10000) A B = x ∧ bM x) → (¬ ok → 1000000000000 < jn (kn j - 10000) A B ∨ jn (kn j - 10000) A B < -1000000000000) → ∃ r' m', (E.bind fun o => some (o.1, o.2)) = some (r', m') ∧ bM r' ∧ Fm P54 m m' ∧ (m' 0 54 = 0 ∨ m' 0 54 = 1) ∧ (m 0 54 = 1 → m' 0 54 = 1) ∧ (m 0 54 = 0 → ∀ st, mtch (m 24) f (ist kn j) st → (∃ st' tl, stp kn nm j st = some (r' :: st') ∧ ist kn (j + 1) = (j : Int) :: tl ∧ (∀ a ∈ tl, 0 ≤ a ∧ a < (j : Int)) ∧ mtch (m 24) f tl st' ∧ m' 0 54 = 0) ∨ (stp kn nm j st = none ∧ m' 0 54 = 1)) := by
      rintro E x ok ⟨r', m', rfl, p2, p3, p4, p5⟩ hk1 hk2
      refine ⟨r', m', rfl, p2, p3, ?_, p4, fun e0 st hst => ?_⟩
      · rcases he with e0 | e1
        · rcases p5 e0 with q | q
          · exact Or.inl q.2.2
          · exact Or.inr q.2
        · exact Or.inr (p4 e1)
      · obtain ⟨st', q1, q2⟩ := hstp st hst
        rcases p5 e0 with ⟨c1, c2, c3⟩ | ⟨c1, c2⟩
        · obtain ⟨d1, d2⟩ := hk1 c1
          unfold bM at d2
          rw [d1, if_neg (by omega)] at q1
          rw [← c2] at q1
          exact Or.inl ⟨st', r, q1, ht, htb, q2, c3⟩
        · rw [if_pos (hk2 c1)] at q1
          exact Or.inr ⟨q1, c2⟩
    have cases : kn j = 10016 ∨ kn j = 10017 ∨ kn j = 10032 ∨ kn j = 10033 ∨ kn j = 10034 ∨ kn j = 10035 ∨ (10026 ≤ kn j ∧ kn j ≤ 10031) := by unfold bnk at k1; omega
    rcases cases with c | c | c | c | c | c | c
    · have e : opM (kn j) = 3 := by unfold opM; rw [if_pos c]
      have ej : jn (kn j - 10000) A B = (if A = 0 then 0 else if B = 0 then 0 else 1) := by rw [c]; rfl
      rw [k2, e, if_pos rfl]
      split
      · rename_i z; exact fin 0 (by rw [ej, if_pos z]) o0
      · rename_i z
        split
        · rename_i z2; exact fin 0 (by rw [ej, if_neg z, if_pos z2]) o0
        · rename_i z2; exact fin 1 (by rw [ej, if_neg z, if_neg z2]) o1
    · have e : opM (kn j) = 4 := by unfold opM; rw [if_neg (by omega), if_pos c]
      have ej : jn (kn j - 10000) A B = (if A = 0 then (if B = 0 then 0 else 1) else 1) := by rw [c]; rfl
      rw [k2, e, if_neg (by decide), if_pos rfl]
      split
      · rename_i z
        split
        · rename_i z2; exact fin 0 (by rw [ej, if_pos z, if_pos z2]) o0
        · rename_i z2; exact fin 1 (by rw [ej, if_pos z, if_neg z2]) o1
      · rename_i z; exact fin 1 (by rw [ej, if_neg z]) o1
    · have e : opM (kn j) = 11 := by unfold opM; rw [if_neg (by omega), if_neg (by omega)]; omega
      have ej : jn (kn j - 10000) A B = A + B := by rw [c]; rfl
      unfold bM at hba hbv
      rw [k2, e, if_neg (by decide), if_neg (by decide), if_pos rfl, gd6_t (by omega)]
      exact fin2 _ (A + B) _ (m_bnd he) (fun q => ⟨ej, q⟩) (fun q => by rw [ej]; omega)
    · have e : opM (kn j) = 12 := by unfold opM; rw [if_neg (by omega), if_neg (by omega)]; omega
      have ej : jn (kn j - 10000) A B = A - B := by rw [c]; rfl
      unfold bM at hba hbv
      rw [k2, e, if_neg (by decide), if_neg (by decide), if_neg (by decide), if_pos rfl, gd6_t (by omega)]
      exact fin2 _ (A - B) _ (m_bnd he) (fun q => ⟨ej, q⟩) (fun q => by rw [ej]; omega)
    · have e : opM (kn j) = 13 := by unfold opM; rw [if_neg (by omega), if_neg (by omega)]; omega
      have ej : jn (kn j - 10000) A B = (if -1000000000000 ≤ A * B ∧ A * B ≤ 1000000000000 then A * B else -9223372036854775808) := by rw [c]; rfl
      rw [k2, e, if_neg (by decide), if_neg (by decide), if_neg (by decide), if_neg (by decide), if_pos rfl]
      exact fin2 _ (A * B) _ (m_tim hba hbv he) (fun q => ⟨by rw [ej, if_pos q], q⟩) (fun q => by rw [ej, if_neg q]; omega)
    · have e : opM (kn j) = 14 := by unfold opM; rw [if_neg (by omega), if_neg (by omega)]; omega
      have ej : jn (kn j - 10000) A B = (if B = 0 then -9223372036854775808 else Int.tdiv A B) := by rw [c]; rfl
      have htd := tdiv_b (b := B) hba
      have htd' := htd
      unfold bM at htd'
      rw [k2, e, if_neg (by decide), if_neg (by decide), if_neg (by decide), if_neg (by decide), if_neg (by decide), if_pos rfl]
      have d0 : ∀ E : Option (Int × Mem), (∃ r' m', E = some (r', m') ∧ bM r' ∧ Fm P54 m m' ∧ (m 0 54 = 1 → m' 0 54 = 1) ∧ (m 0 54 = 0 → (B ≠ 0 ∧ r' = Int.tdiv A B ∧ m' 0 54 = 0) ∨ (¬ B ≠ 0 ∧ m' 0 54 = 1))) → ∃ r' m', E = some (r', m') ∧ bM r' ∧ Fm P54 m m' ∧ (m' 0 54 = 0 ∨ m' 0 54 = 1) ∧ (m 0 54 = 1 → m' 0 54 = 1) ∧ (m 0 54 = 0 → ∀ st, mtch (m 24) f (ist kn j) st → (∃ st' tl, stp kn nm j st = some (r' :: st') ∧ ist kn (j + 1) = (j : Int) :: tl ∧ (∀ a ∈ tl, 0 ≤ a ∧ a < (j : Int)) ∧ mtch (m 24) f tl st' ∧ m' 0 54 = 0) ∨ (stp kn nm j st = none ∧ m' 0 54 = 1)) := by
        intro E hE
        obtain ⟨r', m', q1, q2⟩ := fin2 E (Int.tdiv A B) _ hE (fun q => ⟨by rw [ej, if_neg q], htd⟩) (fun q => by rw [ej, if_pos (Classical.not_not.mp q)]; omega)
        refine ⟨r', m', ?_, q2⟩
        obtain ⟨r2, m2, rfl, _⟩ := hE
        exact q1
      apply d0
      unfold G12_valueOf_235 G12_valueOf_240
      simp only [wt_e, up_e, gdb_t (show (0 : Int) = 0 ∨ (0 : Int) = 1 by decide), gdb_t (show (1 : Int) = 0 ∨ (1 : Int) = 1 by decide), if_true, if_neg (show ¬ (1 : Int) = 0 by decide)]
      by_cases z : m 0 54 = 0
      · rw [if_pos z]
        by_cases z2 : B = 0
        · rw [if_pos z2]
          exact ⟨0, _, rfl, o0, Fm.w1 ⟨rfl, rfl⟩, fun _ => up_e, fun _ => Or.inr ⟨fun q => q z2, up_e⟩⟩
        · rw [if_neg z2, if_neg z2, gd6_t (by omega)]
          exact ⟨_, _, rfl, htd, Fm.w1 ⟨rfl, rfl⟩, fun q => by omega, fun _ => Or.inl ⟨z2, rfl, up_e⟩⟩
      · rw [if_neg z]
        exact ⟨0, _, rfl, o0, Fm.w1 ⟨rfl, rfl⟩, fun _ => up_e, fun q => absurd q z⟩
    · have e : opM (kn j) = kn j - 10021 := by unfold opM; rw [if_neg (by omega), if_neg (by omega)]
      rw [k2, e, if_neg (by omega), if_neg (by omega), if_neg (by omega), if_neg (by omega), if_neg (by omega), if_neg (by omega)]
      have hcmp : ∃ x, G12_compares m (kn j - 10021) A B = some (x, m) ∧ (x = 0 ∨ x = 1) ∧ x = jn (kn j - 10000) A B := by
        have : kn j = 10026 ∨ kn j = 10027 ∨ kn j = 10028 ∨ kn j = 10029 ∨ kn j = 10030 ∨ kn j = 10031 := by omega
        unfold G12_compares G12_compares_0
        rcases this with q | q | q | q | q | q <;> rw [q]
        · show ∃ x, (if B ≤ A then some (0, m) else some (1, m)) = _ ∧ _ ∧ x = (if B ≤ A then 0 else 1)
          split
          · exact ⟨0, rfl, Or.inl rfl, rfl⟩
          · exact ⟨1, rfl, Or.inr rfl, rfl⟩
        · show ∃ x, (if B < A then some (0, m) else some (1, m)) = _ ∧ _ ∧ x = (if B < A then 0 else 1)
          split
          · exact ⟨0, rfl, Or.inl rfl, rfl⟩
          · exact ⟨1, rfl, Or.inr rfl, rfl⟩
        · show ∃ x, (if A = B then some (1, m) else some (0, m)) = _ ∧ _ ∧ x = (if A = B then 1 else 0)
          split
          · exact ⟨1, rfl, Or.inr rfl, rfl⟩
          · exact ⟨0, rfl, Or.inl rfl, rfl⟩
        · show ∃ x, (if A = B then some (0, m) else some (1, m)) = _ ∧ _ ∧ x = (if A = B then 0 else 1)
          split
          · exact ⟨0, rfl, Or.inl rfl, rfl⟩
          · exact ⟨1, rfl, Or.inr rfl, rfl⟩
        · show ∃ x, (if A < B then some (0, m) else some (1, m)) = _ ∧ _ ∧ x = (if A < B then 0 else 1)
          split
          · exact ⟨0, rfl, Or.inl rfl, rfl⟩
          · exact ⟨1, rfl, Or.inr rfl, rfl⟩
        · show ∃ x, (if A ≤ B then some (0, m) else some (1, m)) = _ ∧ _ ∧ x = (if A ≤ B then 0 else 1)
          split
          · exact ⟨0, rfl, Or.inl rfl, rfl⟩
          · exact ⟨1, rfl, Or.inr rfl, rfl⟩
      obtain ⟨x, x1, x2, x3⟩ := hcmp
      rw [x1, bs1]
      simp only
      rcases x2 with rfl | rfl
      · rw [if_pos rfl]; exact fin 0 x3 o0
      · rw [if_neg (by decide)]; exact fin 1 x3 o1
end ML
