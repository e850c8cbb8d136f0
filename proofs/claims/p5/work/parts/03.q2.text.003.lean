section Q21
variable {m v w : Mem}
theorem c_sign {S : Int} {t : Int → Int} {p : Int} (hS : 0 ≤ S ∧ S ≤ 700) (hp : 0 ≤ p ∧ p < S) (h1 : m 47 1 = 1) (h2 : m 47 2 = S) (h3 : m 47 3 = p) (h4 : m 1 = t) : ∃ m', G7_takeSign m = some m' ∧ Fm P47 m m' ∧ m' 47 3 = p + sgA (t p) (chN t S p) ∧ m' 47 5 = m 47 5 ∧ m' 47 6 = m 47 6 ∧ m' 47 4 = sgT (t p) (chN t S p) := by
  have es : ∀ (z : Mem) (c : Int), G7_signOf z c = some (sg1 c, z) := by
    intro z c
    unfold G7_signOf G7_signOf_0 sg1
    repeat (first | rfl | (split; rfl))
  unfold G7_takeSign G7_takeSign_0
  rw [gde_t h1, h3, gdx_t (by first | decide | omega), gd3_t (by first | decide | omega), wt_e, es, bs1, wt_e]
  simp only
  rw [h4]
  have g3 : ∀ y, up (up m 47 3 (p + 1)) 47 4 y 47 3 = p + 1 := fun y => by rw [up_i (by first | decide | omega), up_e]
  have K : ∀ y, (up (up m 47 3 (p + 1)) 47 4 y) 47 1 = 1 ∧ (up (up m 47 3 (p + 1)) 47 4 y) 47 2 = S ∧ (up (up m 47 3 (p + 1)) 47 4 y) 1 = t := fun y => by
    refine ⟨?_, ?_, ?_⟩
    · rw [up_i (by first | decide | omega), up_i (by first | decide | omega)]; exact h1
    · rw [up_i (by first | decide | omega), up_i (by first | decide | omega)]; exact h2
    · rw [up_b (by first | decide | omega), up_b (by first | decide | omega)]; exact h4
  have nx : ∀ y x, x ≠ 0 → G7_isNext (up (up m 47 3 (p + 1)) 47 4 y) x = some ((if chN t S p = x then 1 else 0), up (up m 47 3 (p + 1)) 47 4 y) := fun y x hx => c_next hS hp.1 (K y).1 (K y).2.1 (g3 y) (K y).2.2 hx
  have fin0 : ∀ y, Fm P47 m (up (up m 47 3 (p + 1)) 47 4 y) := fun y => (Fm.w1 ⟨rfl, by first | decide | omega⟩).w ⟨rfl, by first | decide | omega⟩
  have out1 : ∀ y, ∃ m', some (up (up m 47 3 (p + 1)) 47 4 y) = some m' ∧ Fm P47 m m' ∧ m' 47 3 = p + 1 ∧ m' 47 5 = m 47 5 ∧ m' 47 6 = m 47 6 ∧ m' 47 4 = y := fun y => ⟨_, rfl, fin0 y, g3 y, by rw [up_i (by first | decide | omega), up_i (by first | decide | omega)], by rw [up_i (by first | decide | omega), up_i (by first | decide | omega)], up_e⟩
  have out2 : ∀ y z, ∃ m', (wt (up (up (up m 47 3 (p + 1)) 47 4 y) 47 4 z) fun m7 => gd3 (m7 47 3 + 1) (wt (up m7 47 3 (m7 47 3 + 1)) fun m11 => some m11)) = some m' ∧ Fm P47 m m' ∧ m' 47 3 = p + 2 ∧ m' 47 5 = m 47 5 ∧ m' 47 6 = m 47 6 ∧ m' 47 4 = z := fun y z => by
    rw [wt_e, up_i (by first | decide | omega), g3, gd3_t (by first | decide | omega), wt_e]
    exact ⟨_, rfl, ((fin0 y).w ⟨rfl, by first | decide | omega⟩).w ⟨rfl, by first | decide | omega⟩, by rw [up_e]; first | decide | omega, by rw [up_i (by first | decide | omega), up_i (by first | decide | omega), up_i (by first | decide | omega), up_i (by first | decide | omega)], by rw [up_i (by first | decide | omega), up_i (by first | decide | omega), up_i (by first | decide | omega), up_i (by first | decide | omega)], by rw [up_i (by first | decide | omega), up_e]⟩
  unfold G7_takeSign_65 G7_takeSign_102
  simp only [up_e]
  by_cases c1 : t p = 60
  · have e : sg1 (t p) = 26 := by rw [c1]; rfl
    rw [e]
    simp only [if_true, if_neg (show ¬ (26 : Int) = 31 by first | decide | omega)]
    rw [nx 26 61 (by first | decide | omega), bs1]
    unfold sgT sgA
    simp only [if_pos c1]
    by_cases c2 : chN t S p = 61
    · simp only [if_pos c2, if_neg i10]; exact out2 26 27
    · simp only [if_neg c2, if_true]
      rw [nx 26 62 (by first | decide | omega), bs1]
      simp only [up_e]
      by_cases c3 : chN t S p = 62
      · simp only [if_pos c3, if_neg i10]; exact out2 26 29
      · simp only [if_neg c3, if_true, up_e, if_neg (show ¬ (26 : Int) = 31 by first | decide | omega)]; exact out1 26
  · by_cases c2 : t p = 62
    · have e : sg1 (t p) = 31 := by rw [c2]; rfl
      rw [e]
      simp only [if_neg (show ¬ (31 : Int) = 26 by first | decide | omega), if_true]
      rw [nx 31 61 (by first | decide | omega), bs1]
      unfold sgT sgA
      simp only [if_neg c1, if_pos c2]
      by_cases c3 : chN t S p = 61
      · simp only [if_pos c3, if_neg i10]; exact out2 31 30
      · simp only [if_neg c3, if_true]; exact out1 31
    · have e1 : sg1 (t p) ≠ 26 ∧ sg1 (t p) ≠ 31 := by
        unfold sg1
        repeat (first | omega | (split))
      unfold sgT sgA
      simp only [if_neg c1, if_neg c2, if_neg e1.1, if_neg e1.2]
      exact out1 _
theorem c_advS {S p : Int} {t : Int → Int} (hS : 0 ≤ S ∧ S ≤ 700) (hp : 0 ≤ p ∧ p ≤ S) (h1 : m 47 1 = 1) (h2 : m 47 2 = S) (h3 : m 47 3 = p) (h4 : m 1 = t) (hlg : ∀ i : Nat, i < 24 → m 48 i = lgW.getD i 0) : ∃ m', G7_advance m = some m' ∧ Fm P47 m m' ∧ m' 47 5 = tkp t S p ∧ m' 47 4 = tqt t S (tkp t S p) ∧ m' 47 6 = tqv t S (tkp t S p) ∧ m' 47 3 = tqn t S (tkp t S p) := by
  obtain ⟨m1, e1, f1, k1⟩ := c_skip (t := t) hS (S - p).toNat 1024 p m hp.1 (by first | decide | omega) (by first | decide | omega) h1 h2 h3 h4
  have k1' : m1 47 3 = tkp t S p := k1
  obtain ⟨q1, q2, _, _⟩ := rr_spec (f := fun i => isBl (t i)) hp.2
  have q1' : p ≤ tkp t S p := q1
  have q2' : tkp t S p ≤ S := q2
  unfold G7_advance G7_advance_0 G7_skipBlanks
  rw [e1, bs1, wt_e, wt_e, k1']
  generalize tkp t S p = q at k1' q1' q2' ⊢
  have f2 : Fm P47 m (up (up m1 47 5 q) 47 6 0) := (f1.w ⟨rfl, by first | decide | omega⟩).w ⟨rfl, by first | decide | omega⟩
  have g1 : up (up m1 47 5 q) 47 6 0 47 1 = 1 := by rw [f2 47 1 (by unfold P47; first | decide | omega)]; exact h1
  have g2 : up (up m1 47 5 q) 47 6 0 47 2 = S := by rw [f2 47 2 (by unfold P47; first | decide | omega)]; exact h2
  have g3 : up (up m1 47 5 q) 47 6 0 47 3 = q := by rw [up_i (by first | decide | omega), up_i (by first | decide | omega)]; exact k1'
  have g4 : up (up m1 47 5 q) 47 6 0 1 = t := by rw [f2.rw1 (fun i => by unfold P47; first | decide | omega)]; exact h4
  have g5 : up (up m1 47 5 q) 47 6 0 47 5 = q := by rw [up_i (by first | decide | omega), up_e]
  have g6 : up (up m1 47 5 q) 47 6 0 47 6 = 0 := up_e
  have g48 : up (up m1 47 5 q) 47 6 0 48 = m 48 := f2.rw1 (fun i => by unfold P47; first | decide | omega)
  generalize up (up m1 47 5 q) 47 6 0 = m2 at f2 g1 g2 g3 g4 g5 g6 g48 ⊢
  unfold tqt tqv tqn
  rw [g3, g2]
  by_cases c1 : S ≤ q
  · rw [if_pos c1, if_pos c1, if_pos c1, if_neg (by first | decide | omega), wt_e]
    exact ⟨_, rfl, f2.w ⟨rfl, by first | decide | omega⟩, by rw [up_i (by first | decide | omega)]; exact g5, up_e, by rw [up_i (by first | decide | omega)]; exact g6, by rw [up_i (by first | decide | omega)]; exact g3⟩
  · rw [if_neg c1, if_neg c1, if_neg c1, if_pos (by first | decide | omega), gde_t g1, gdx_t (by first | decide | omega), g4, c_letter, bs1]
    by_cases c2 : isLt (t q) = true
    · simp only [if_pos c2, if_neg i10]
      unfold G7_takeWord G7_takeWord_0
      obtain ⟨m', z1, z2, z3, z4, z5, z6⟩ := c_word (t := t) (q := q) hS (by first | decide | omega) hlg (S - q).toNat 1024 0 m2 (by first | decide | omega) (by first | decide | omega) g1 g2 (by rw [g3]; first | decide | omega) g4 g48 g6 (fun i hi => by first | decide | omega)
      have eq0 : q + ((0 : Nat) : Int) = q := by omega
      rw [eq0] at z3 z5 z6
      have el : rn (fun i => isLt (t i)) (S - q).toNat q = lte t S q := rfl
      rw [el] at z3 z5 z6
      have z1' : G7_takeWord_2 1024 m2 0 = some m' := z1
      rw [z1', bs1]
      exact ⟨m', rfl, f2.tr z2, by rw [z4]; exact g5, z6, z5, z3⟩
    · simp only [if_neg c2, if_true]
      rw [gde_t g1, g3, gdx_t (by first | decide | omega), g4, c_digit, bs1]
      by_cases c3 : isDg (t q) = true
      · simp only [if_pos c3, if_neg i10]
        unfold G7_takeNumber
        obtain ⟨m', z1, z2, z3, z4, z5, z6, z7⟩ := c_num (t := t) hS (S - q).toNat 1024 q 0 m2 (by first | decide | omega) (by first | decide | omega) (by first | decide | omega) g1 g2 g3 g4 g6 (by first | decide | omega)
        rw [z1, bs1]
        exact ⟨m', rfl, f2.tr z2, by rw [z4]; exact g5, z5, z6, z3⟩
      · simp only [if_neg c3, if_true]
        obtain ⟨m', z1, z2, z3, z4, z5, z6⟩ := c_sign (t := t) hS (p := q) (by first | decide | omega) g1 g2 g3 g4
        rw [z1, bs1]
        exact ⟨m', rfl, f2.tr z2, by rw [z4]; exact g5, z6, by rw [z5]; exact g6, z3⟩
end Q21
/-! The tokens of a text: the reference reads them alike. -/
def NumR (a b : Int) : Prop := 0 ≤ a ∧ 0 ≤ b ∧ (a = b ∨ (99999 < a ∧ 99999 < b))
def SGN (k x : Int) : Prop := (k = 32 ∧ x = 43) ∨ (k = 33 ∧ x = 45) ∨ (k = 34 ∧ x = 42) ∨ (k = 35 ∧ x = 47) ∨ (k = 36 ∧ x = 40) ∨ (k = 37 ∧ x = 41) ∨ (k = 38 ∧ x = 59)
def kwf (k : Int) : Int := if k = 15 then 17 else if k = 16 then 15 else if k = 17 then 16 else k
/-- one token here and there: code and value, kind and which -/
def KR (k a i x : Int) : Prop := (k = 39 ∧ i = 0) ∨ (0 ≤ k ∧ k < 24 ∧ i = 1 ∧ x = kwf k) ∨ (k = 24 ∧ i = 2 ∧ x = a) ∨ (k = 25 ∧ i = 3 ∧ NumR a x) ∨ (26 ≤ k ∧ k ≤ 31 ∧ i = 5 ∧ x = k - 26) ∨ (SGN k x ∧ i = 4) ∨ (k = 40 ∧ (i = 6 ∨ (i = 4 ∧ x = 37)))
def wd (i : Nat) : Int := wdM.getD i 0
def aw (off L i : Nat) : Int := if i < L then wd (off + i) - 96 else 0
def Pw (off L : Nat) : Int := aw off L 0 * 33554432 + aw off L 1 * 1048576 + aw off L 2 * 32768 + aw off L 3 * 1024 + aw off L 4 * 32 + aw off L 5
def okw (off L : Nat) : Bool := decide (1 ≤ L) && decide (L ≤ 6) && decide (off + L < 120) && decide (wd (off + L) = 32) && (List.range L).all (fun i => decide (97 ≤ wd (off + i)) && decide (wd (off + i) ≤ 122))
def pkl : Nat → List Nat → List Int
  | _, [] => []
  | off, L :: r => Pw off L :: pkl (off + L + 1) r
def okl : Nat → List Nat → Bool
  | off, [] => decide (off = 120)
  | off, L :: r => okw off L && okl (off + L + 1) r
def lens : List Nat := [3, 4, 6, 3, 4, 4, 4, 3, 4, 5, 4, 3, 5, 5, 4, 3, 2, 3, 3, 4, 5, 4, 6, 5]
def rxl : List Int → Int → Int → Int
  | [], _, _ => -1
  | a :: r, B, i => if a = B then i else rxl r B (i + 1)
def rix (B : Int) : Int := rxl (pkl 0 lens) B 0
theorem okw_i {off L : Nat} (h : okw off L = true) : 1 ≤ L ∧ L ≤ 6 ∧ off + L < 120 ∧ wd (off + L) = 32 ∧ ∀ i, i < L → 97 ≤ wd (off + i) ∧ wd (off + i) ≤ 122 := by
  unfold okw at h
  simp only [Bool.and_eq_true, decide_eq_true_iff, List.all_eq_true, List.mem_range] at h
  obtain ⟨⟨⟨⟨h1, h2⟩, h3⟩, h4⟩, h5⟩ := h
  exact ⟨h1, h2, h3, h4, h5⟩
theorem wxl_no : ∀ (l : List Int) (B i : Int), B ∉ l → wxl l B i = i + l.length := by
  intro l
  induction l with
  | nil => intro B i _; show i = i + 0; omega
  | cons a r ih =>
    intro B i h
    have e : wxl (a :: r) B i = if a = B then i else wxl r B (i + 1) := rfl
    rw [e, if_neg (fun q => h (by rw [q]; exact List.mem_cons_self)), ih B (i + 1) (fun q => h (List.mem_cons_of_mem _ q))]
    have : ((a :: r).length : Int) = r.length + 1 := by simp
    omega
theorem rxl_no : ∀ (l : List Int) (B i : Int), B ∉ l → rxl l B i = -1 := by
  intro l
  induction l with
  | nil => intro B i _; rfl
  | cons a r ih =>
    intro B i h
    have e : rxl (a :: r) B i = if a = B then i else rxl r B (i + 1) := rfl
    rw [e, if_neg (fun q => h (by rw [q]; exact List.mem_cons_self)), ih B (i + 1) (fun q => h (List.mem_cons_of_mem _ q))]
theorem kw_yes : ∀ B ∈ lgW, 0 ≤ wix B ∧ wix B < 24 ∧ rix B = kwf (wix B) ∧ 0 ≤ rix B := by decide
theorem kw_sub : ∀ B ∈ pkl 0 lens, B ∈ lgW := by decide
theorem kw_ok : okl 0 lens = true := by decide
theorem kw_rel (B : Int) : (0 ≤ wix B ∧ wix B < 24 ∧ rix B = kwf (wix B) ∧ 0 ≤ rix B) ∨ (wix B = 24 ∧ rix B = -1) := by
  by_cases c : B ∈ lgW
  · exact Or.inl (kw_yes B c)
  · right
    refine ⟨?_, rxl_no _ _ _ (fun q => c (kw_sub B q))⟩
    have := wxl_no lgW B 0 c
    exact this
section Q22
variable {v : Mem} {t : Int → Int} {S : Int}
/-- the tape there and here -/
def TPx (v : Mem) (t : Int → Int) (S : Int) : Prop := (0 ≤ S ∧ S ≤ 700) ∧ v 0 6 = S ∧ (∀ i, 0 ≤ i → i < S → (-128 ≤ t i ∧ t i ≤ 127) ∧ v 1 i = t i % 256) ∧ ∀ i : Nat, i < 120 → v 2 i = wd i
def Q7 : Nat → Int → Prop := fun b i => b = 0 ∧ 7 ≤ i ∧ i ≤ 10
theorem TPx.f {v v' : Mem} (h : TPx v t S) {Q : Nat → Int → Prop} (f : Fm Q v v') (hq : ∀ b i, (b = 0 ∧ i = 6) ∨ b = 1 ∨ b = 2 → ¬ Q b i) : TPx v' t S := by
  unfold TPx
  rw [f 0 6 (hq _ _ (by first | decide | omega)), f.rw1 (fun i => hq 1 i (by first | decide | omega)), f.rw1 (fun i => hq 2 i (by first | decide | omega))]
  exact h
theorem TPx.q {v v' : Mem} (h : TPx v t S) (f : Fm Q7 v v') : TPx v' t S := h.f f (by intro b i q; unfold Q7; first | decide | omega)
end Q22
