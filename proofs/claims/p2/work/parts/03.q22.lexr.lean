/-! The tokens of a text: the reference reads them alike. -/
def NumR (a b : Int) : Prop := 0 ≤ a ∧ 0 ≤ b ∧ (a = b ∨ (99999 < a ∧ 99999 < b))
def SGN (k x : Int) : Prop := (k = 32 ∧ x = 43) ∨ (k = 33 ∧ x = 45) ∨ (k = 34 ∧ x = 42) ∨ (k = 35 ∧ x = 47) ∨ (k = 36 ∧ x = 40) ∨ (k = 37 ∧ x = 41) ∨ (k = 38 ∧ x = 59)
def kwf (k : Int) : Int := if k = 15 then 17 else if k = 16 then 15 else if k = 17 then 16 else k
/-- one token here and there: code and value, kind and which -/
def KR (k a i x : Int) : Prop := (k = 39 ∧ i = 0) ∨ (0 ≤ k ∧ k < 24 ∧ i = 1 ∧ x = kwf k) ∨ (k = 24 ∧ i = 2 ∧ x = a) ∨ (k = 25 ∧ i = 3 ∧ NumR a x) ∨ (26 ≤ k ∧ k ≤ 31 ∧ i = 5 ∧ x = k - 26) ∨ (SGN k x ∧ i = 4) ∨ (k = 40 ∧ (i = 6 ∨ (i = 4 ∧ x = 37)))
def wd (i : Nat) : Int := wdM.getD i 0
def aw (off L i : Nat) : Int := if i < L then wd (off + i) - 96 else 0
def Pw (off L : Nat) : Int := aw off L 0 * 33554432 + aw off L 1 * 1048576 + aw off L 2 * 32768 + aw off L 3 * 1024 + aw off L 4 * 32 + aw off L 5
def okw (off L : Nat) : Bool := decide (1 ≤ L) && decide (L ≤ 6) && decide (off + L < 120) && decide (wd (off + L) = 32) && (List.range L).all (fun i => decide (97 ≤ wd (off + i)) && decide (wd (off + i) ≤ 122))
def pkl : Nat → List Nat → List Int
  | _, [] => []
  | off, L :: r => Pw off L :: pkl (off + L + 1) r
def okl : Nat → List Nat → Bool
  | off, [] => decide (off = 120)
  | off, L :: r => okw off L && okl (off + L + 1) r
def lens : List Nat := [3, 4, 6, 3, 4, 4, 4, 3, 4, 5, 4, 3, 5, 5, 4, 3, 2, 3, 3, 4, 5, 4, 6, 5]
def rxl : List Int → Int → Int → Int
  | [], _, _ => -1
  | a :: r, B, i => if a = B then i else rxl r B (i + 1)
def rix (B : Int) : Int := rxl (pkl 0 lens) B 0
theorem okw_i {off L : Nat} (h : okw off L = true) : 1 ≤ L ∧ L ≤ 6 ∧ off + L < 120 ∧ wd (off + L) = 32 ∧ ∀ i, i < L → 97 ≤ wd (off + i) ∧ wd (off + i) ≤ 122 := by
  unfold okw at h
  simp only [Bool.and_eq_true, decide_eq_true_iff, List.all_eq_true, List.mem_range] at h
  obtain ⟨⟨⟨⟨h1, h2⟩, h3⟩, h4⟩, h5⟩ := h
  exact ⟨h1, h2, h3, h4, h5⟩
theorem wxl_no : ∀ (l : List Int) (B i : Int), B ∉ l → wxl l B i = i + l.length := by
  intro l
  induction l with
  | nil => intro B i _; show i = i + 0; omega
  | cons a r ih =>
    intro B i h
    have e : wxl (a :: r) B i = if a = B then i else wxl r B (i + 1) := rfl
    rw [e, if_neg (fun q => h (by rw [q]; exact List.mem_cons_self)), ih B (i + 1) (fun q => h (List.mem_cons_of_mem _ q))]
    have : ((a :: r).length : Int) = r.length + 1 := by simp
    omega
theorem rxl_no : ∀ (l : List Int) (B i : Int), B ∉ l → rxl l B i = -1 := by
  intro l
  induction l with
  | nil => intro B i _; rfl
  | cons a r ih =>
    intro B i h
    have e : rxl (a :: r) B i = if a = B then i else rxl r B (i + 1) := rfl
    rw [e, if_neg (fun q => h (by rw [q]; exact List.mem_cons_self)), ih B (i + 1) (fun q => h (List.mem_cons_of_mem _ q))]
theorem kw_yes : ∀ B ∈ lgW, 0 ≤ wix B ∧ wix B < 24 ∧ rix B = kwf (wix B) ∧ 0 ≤ rix B := by decide
theorem kw_sub : ∀ B ∈ pkl 0 lens, B ∈ lgW := by decide
theorem kw_ok : okl 0 lens = true := by decide
theorem kw_rel (B : Int) : (0 ≤ wix B ∧ wix B < 24 ∧ rix B = kwf (wix B) ∧ 0 ≤ rix B) ∨ (wix B = 24 ∧ rix B = -1) := by
  by_cases c : B ∈ lgW
  · exact Or.inl (kw_yes B c)
  · right
    refine ⟨?_, rxl_no _ _ _ (fun q => c (kw_sub B q))⟩
    have := wxl_no lgW B 0 c
    exact this
section Q22
variable {v : Mem} {t : Int → Int} {S : Int}
/-- the tape there and here -/
def TPx (v : Mem) (t : Int → Int) (S : Int) : Prop := (0 ≤ S ∧ S ≤ 700) ∧ v 0 6 = S ∧ (∀ i, 0 ≤ i → i < S → (-128 ≤ t i ∧ t i ≤ 127) ∧ v 1 i = t i % 256) ∧ ∀ i : Nat, i < 120 → v 2 i = wd i
def Q7 : Nat → Int → Prop := fun b i => b = 0 ∧ 7 ≤ i ∧ i ≤ 10
theorem TPx.f {v v' : Mem} (h : TPx v t S) {Q : Nat → Int → Prop} (f : Fm Q v v') (hq : ∀ b i, (b = 0 ∧ i = 6) ∨ b = 1 ∨ b = 2 → ¬ Q b i) : TPx v' t S := by
  unfold TPx
  rw [f 0 6 (hq _ _ (by omega)), f.rw1 (fun i => hq 1 i (by omega)), f.rw1 (fun i => hq 2 i (by omega))]
  exact h
theorem TPx.q {v v' : Mem} (h : TPx v t S) (f : Fm Q7 v v') : TPx v' t S := h.f f (by intro b i q; unfold Q7; omega)
theorem r_small (h : TPx v t S) {x : Int} (hx : 0 ≤ x) : G12_isSmall v x = some ((if x < S ∧ isLt (t x) = true then 1 else 0), v) := by
  obtain ⟨h1, h2, h3, _⟩ := h
  unfold G12_isSmall G12_isSmall_0
  rw [h2]
  by_cases c : S ≤ x
  · rw [if_pos c, if_neg (by omega)]
  · have h4 := h3 x hx (by omega)
    rw [if_neg c, gdx_t (by omega), gdx_t (by omega)]
    by_cases c2 : isLt (t x) = true
    · have := isLt_i.mp c2
      rw [if_neg (show ¬ v 1 x < 97 by omega), if_neg (show ¬ 122 < v 1 x by omega), if_pos (show x < S ∧ isLt (t x) = true from ⟨by omega, c2⟩)]
    · have : ¬ (97 ≤ t x ∧ t x ≤ 122) := fun q => c2 (isLt_i.mpr q)
      rw [if_neg (show ¬ (x < S ∧ isLt (t x) = true) from fun q => c2 q.2)]
      by_cases c3 : v 1 x < 97
      · rw [if_pos c3]
      · rw [if_neg c3, if_pos (by omega)]
theorem r_dig (h : TPx v t S) {x : Int} (hx : 0 ≤ x) : G12_isDigit v x = some ((if x < S ∧ isDg (t x) = true then 1 else 0), v) := by
  obtain ⟨h1, h2, h3, _⟩ := h
  unfold G12_isDigit G12_isDigit_0
  rw [h2]
  by_cases c : S ≤ x
  · rw [if_pos c, if_neg (by omega)]
  · have h4 := h3 x hx (by omega)
    rw [if_neg c, gdx_t (by omega), gdx_t (by omega)]
    by_cases c2 : isDg (t x) = true
    · have := isDg_i.mp c2
      rw [if_neg (show ¬ v 1 x < 48 by omega), if_neg (show ¬ 57 < v 1 x by omega), if_pos (show x < S ∧ isDg (t x) = true from ⟨by omega, c2⟩)]
    · have : ¬ (48 ≤ t x ∧ t x ≤ 57) := fun q => c2 (isDg_i.mpr q)
      rw [if_neg (show ¬ (x < S ∧ isDg (t x) = true) from fun q => c2 q.2)]
      by_cases c3 : v 1 x < 48
      · rw [if_pos c3]
      · rw [if_neg c3, if_pos (by omega)]
theorem r_skip : ∀ (d k : Nat) (p : Int) (v : Mem), TPx v t S → 0 ≤ p → S - p = d → d < k → v 0 7 = p → ∃ v', G12_token_0 k v = G12_token_52 v' ∧ Fm Q7 v v' ∧ v' 0 7 = rn (fun i => isBl (t i)) d p := by
  intro d
  induction d with
  | zero =>
    intro k p v h a1 a2 a3 h7
    obtain ⟨k, rfl⟩ : ∃ q, k = q + 1 := ⟨k - 1, by omega⟩
    rw [G12_token_0, h.2.1, if_pos (by omega)]
    exact ⟨v, rfl, Fm.rf, h7⟩
  | succ d ih =>
    intro k p v h a1 a2 a3 h7
    obtain ⟨k, rfl⟩ : ∃ q, k = q + 1 := ⟨k - 1, by omega⟩
    have hS := h.1
    have h4 := h.2.2.1 p a1 (by omega)
    have go : isBl (t p) = true → ∃ v', G12_token_39 (fun m => G12_token_0 k m) v = G12_token_52 v' ∧ Fm Q7 v v' ∧ v' 0 7 = rn (fun i => isBl (t i)) (d + 1) p := by
      intro c
      unfold G12_token_39
      rw [h7, gd3_t (by omega), wt_e, rn_s, if_pos c]
      have f1 : Fm Q7 v (up v 0 7 (p + 1)) := Fm.w1 ⟨rfl, by omega, by omega⟩
      obtain ⟨v', z1, z2, z3⟩ := ih k (p + 1) (up v 0 7 (p + 1)) (h.q f1) (by omega) (by omega) (by omega) up_e
      exact ⟨v', z1, f1.tr z2, z3⟩
    rw [G12_token_0, h.2.1, if_neg (by omega), h7, gdx_t (by omega), gdx_t (by omega)]
    by_cases c1 : t p = 10
    · rw [if_pos (by omega)]; exact go (isBl_i.mpr (Or.inl c1))
    · rw [if_neg (by omega)]
      by_cases c2 : t p = 32
      · rw [if_pos (by omega)]; exact go (isBl_i.mpr (Or.inr c2))
      · rw [if_neg (by omega), rn_s, if_neg (fun q => by rcases isBl_i.mp q with y | y; exact c1 y; exact c2 y)]
        exact ⟨v, rfl, Fm.rf, h7⟩
/-- the letter i of the word q .. e -/
def dgw (t : Int → Int) (q e : Int) (i : Nat) : Int := if q + i < e then t (q + i) - 96 else 0
theorem dgw_b {q e : Int} (hl : ∀ i, q ≤ i → i < e → 97 ≤ t i ∧ t i ≤ 122) (i : Nat) : 0 ≤ dgw t q e i ∧ dgw t q e i ≤ 26 ∧ (q + i < e → 1 ≤ dgw t q e i) := by
  unfold dgw
  split
  · have := hl (q + i) (by omega) (by assumption); omega
  · omega
theorem pp_dg {q e : Int} (h : q ≤ e ∧ e - q ≤ 6) : pp t q (e - q).toNat = dgw t q e 0 * 33554432 + dgw t q e 1 * 1048576 + dgw t q e 2 * 32768 + dgw t q e 3 * 1024 + dgw t q e 4 * 32 + dgw t q e 5 := by
  have e0 : pp t q 0 = 0 := rfl
  have e1 : pp t q 1 = (t (q + (0 : Nat)) - 96) * 33554432 := by rw [pp_s, if_pos (by omega), e0]; show 0 + (t (q + (0 : Nat)) - 96) * 33554432 = _; omega
  have e2 : pp t q 2 = pp t q 1 + (t (q + (1 : Nat)) - 96) * 1048576 := by rw [pp_s, if_pos (by omega)]; rfl
  have e3 : pp t q 3 = pp t q 2 + (t (q + (2 : Nat)) - 96) * 32768 := by rw [pp_s, if_pos (by omega)]; rfl
  have e4 : pp t q 4 = pp t q 3 + (t (q + (3 : Nat)) - 96) * 1024 := by rw [pp_s, if_pos (by omega)]; rfl
  have e5 : pp t q 5 = pp t q 4 + (t (q + (4 : Nat)) - 96) * 32 := by rw [pp_s, if_pos (by omega)]; rfl
  have e6 : pp t q 6 = pp t q 5 + (t (q + (5 : Nat)) - 96) * 1 := by rw [pp_s, if_pos (by omega)]; rfl
  have y : ∀ i : Nat, q + i < e → dgw t q e i = t (q + i) - 96 := fun i hi => if_pos hi
  have z : ∀ i : Nat, ¬ q + i < e → dgw t q e i = 0 := fun i hi => if_neg hi
  rcases (by omega : (e - q).toNat = 0 ∨ (e - q).toNat = 1 ∨ (e - q).toNat = 2 ∨ (e - q).toNat = 3 ∨ (e - q).toNat = 4 ∨ (e - q).toNat = 5 ∨ (e - q).toNat = 6) with c | c | c | c | c | c | c <;> rw [c]
  · rw [z 0 (by omega), z 1 (by omega), z 2 (by omega), z 3 (by omega), z 4 (by omega), z 5 (by omega)]; omega
  · rw [y 0 (by omega), z 1 (by omega), z 2 (by omega), z 3 (by omega), z 4 (by omega), z 5 (by omega)]; omega
  · rw [y 0 (by omega), y 1 (by omega), z 2 (by omega), z 3 (by omega), z 4 (by omega), z 5 (by omega)]; omega
  · rw [y 0 (by omega), y 1 (by omega), y 2 (by omega), z 3 (by omega), z 4 (by omega), z 5 (by omega)]; omega
  · rw [y 0 (by omega), y 1 (by omega), y 2 (by omega), y 3 (by omega), z 4 (by omega), z 5 (by omega)]; omega
  · rw [y 0 (by omega), y 1 (by omega), y 2 (by omega), y 3 (by omega), y 4 (by omega), z 5 (by omega)]; omega
  · rw [y 0 (by omega), y 1 (by omega), y 2 (by omega), y 3 (by omega), y 4 (by omega), y 5 (by omega)]; omega
theorem r_pk1 (h : TPx v t S) {q e x : Int} (hq : 0 ≤ q ∧ e ≤ S) (hl : ∀ i, q ≤ i → i < e → 97 ≤ t i ∧ t i ≤ 122) {j k : Nat} (hj : j < 6) (hq2 : q < 700) (hx : 0 ≤ x ∧ x < 33554432) : G12_packed_5 (k + 1) v q e x (q + j) = G12_packed_5 k v q e (32 * x + dgw t q e j) (q + (j + 1 : Nat)) := by
  have hb := dgw_b hl j
  have a : b3an 5 31 = 5 := by decide
  have b : b3sl x 5 = x * 32 := sl_v (k := 5) (by decide) (by decide) ⟨by omega, by show x * 32 < 2147483648; omega⟩
  have o : ∀ y, 0 ≤ y → y < 32 → b3or (x * 32) y = x * 32 + y := fun y p1 p2 => or_v (k := 5) (a := x) rfl (by omega) ⟨p1, by show y < 32; omega⟩ (by omega)
  rw [G12_packed_5, gd3_t (by omega), if_neg (by omega), a, b, show q + (j : Int) + 1 = q + ((j + 1 : Nat) : Int) by omega]
  have hS := h.1
  by_cases c : e ≤ q + j
  · have ez : dgw t q e j = 0 := if_neg (by omega)
    rw [if_pos c, gd3_t (by omega), o 0 (by omega) (by omega), ez, show x * 32 + 0 = 32 * x + 0 by omega]
  · have ey : dgw t q e j = t (q + j) - 96 := if_pos (by omega)
    have h4 := h.2.2.1 (q + j) (by omega) (by omega)
    have h5 := hl (q + j) (by omega) (by omega)
    rw [if_neg c, gdx_t (by omega), gd3_t (by omega), o (v 1 (q + j) - 96) (by omega) (by omega), ey, show x * 32 + (v 1 (q + j) - 96) = 32 * x + (t (q + j) - 96) by omega]
theorem r_pack (h : TPx v t S) {q e : Int} (hq : 0 ≤ q ∧ q < e ∧ e ≤ S ∧ e - q ≤ 6) (hl : ∀ i, q ≤ i → i < e → 97 ≤ t i ∧ t i ≤ 122) : G12_packed v q e = some (pp t q (e - q).toNat, v) := by
  have hS := h.1
  have b0 := dgw_b hl 0
  have b1 := dgw_b hl 1
  have b2 := dgw_b hl 2
  have b3 := dgw_b hl 3
  have b4 := dgw_b hl 4
  have b5 := dgw_b hl 5
  unfold G12_packed G12_packed_0
  have s := fun (j k : Nat) (x : Int) (hj : j < 6) (hx : 0 ≤ x ∧ x < 33554432) => r_pk1 h ⟨hq.1, hq.2.2.1⟩ hl (j := j) (k := k) hj (by omega) hx
  have e0 : G12_packed_5 1024 v q e 0 q = G12_packed_5 1024 v q e 0 (q + (0 : Nat)) := by rw [show q + ((0 : Nat) : Int) = q by omega]
  rw [e0, s 0 1023 0 (by omega) (by omega), s 1 1022 _ (by omega) (by omega), s 2 1021 _ (by omega) (by omega), s 3 1020 _ (by omega) (by omega), s 4 1019 _ (by omega) (by omega), s 5 1018 _ (by omega) (by omega)]
  rw [G12_packed_5, gd3_t (by omega), if_pos (by omega), pp_dg ⟨by omega, hq.2.2.2⟩]
  congr 2
  omega
/-- the word at off is the word q .. e -/
def Mw (v : Mem) (off L : Nat) (q e : Int) : Prop := e - q = L ∧ ∀ i : Nat, i < L → v 2 (off + i : Nat) = v 1 (q + i)
theorem Mw_i (h : TPx v t S) {q e : Int} (hq : 0 ≤ q ∧ q < e ∧ e ≤ S) (hl : ∀ i, q ≤ i → i < e → 97 ≤ t i ∧ t i ≤ 122) {off L : Nat} (ho : okw off L = true) : Mw v off L q e ↔ (e - q ≤ 6 ∧ Pw off L = pp t q (e - q).toNat) := by
  obtain ⟨o1, o2, o3, o4, o5⟩ := okw_i ho
  have hv : ∀ i : Nat, q + i < e → v 1 (q + i) = t (q + i) := fun i hi => by
    have h4 := h.2.2.1 (q + i) (by omega) (by omega)
    have h5 := hl (q + i) (by omega) hi
    omega
  have ha : ∀ i : Nat, i < L → aw off L i = wd (off + i) - 96 := fun i hi => if_pos hi
  have hz : ∀ i : Nat, ¬ i < L → aw off L i = 0 := fun i hi => if_neg hi
  have y : ∀ i : Nat, q + i < e → dgw t q e i = t (q + i) - 96 := fun i hi => if_pos hi
  have z : ∀ i : Nat, ¬ q + i < e → dgw t q e i = 0 := fun i hi => if_neg hi
  constructor
  · rintro ⟨m1, m2⟩
    refine ⟨by omega, ?_⟩
    have eqs : ∀ i : Nat, i < 6 → aw off L i = dgw t q e i := fun i hi => by
      by_cases c : i < L
      · rw [ha i c, y i (by omega), ← hv i (by omega), ← m2 i c, h.2.2.2 (off + i) (by omega)]
      · rw [hz i c, z i (by omega)]
    rw [pp_dg ⟨by omega, by omega⟩]
    unfold Pw
    rw [eqs 0 (by omega), eqs 1 (by omega), eqs 2 (by omega), eqs 3 (by omega), eqs 4 (by omega), eqs 5 (by omega)]
  · rintro ⟨m1, m2⟩
    rw [pp_dg ⟨by omega, m1⟩] at m2
    unfold Pw at m2
    have ba : ∀ i : Nat, i < 6 → 0 ≤ aw off L i ∧ aw off L i ≤ 26 ∧ (i < L → 1 ≤ aw off L i) := fun i hi => by
      by_cases c : i < L
      · rw [ha i c]; have := o5 i c; omega
      · rw [hz i c]; omega
    have bd := fun i => dgw_b hl i
    have a0 := ba 0 (by omega)
    have a1 := ba 1 (by omega)
    have a2 := ba 2 (by omega)
    have a3 := ba 3 (by omega)
    have a4 := ba 4 (by omega)
    have a5 := ba 5 (by omega)
    have d0 := bd 0
    have d1 := bd 1
    have d2 := bd 2
    have d3 := bd 3
    have d4 := bd 4
    have d5 := bd 5
    have E0 : aw off L 0 = dgw t q e 0 := by omega
    have E1 : aw off L 1 = dgw t q e 1 := by omega
    have E2 : aw off L 2 = dgw t q e 2 := by omega
    have E3 : aw off L 3 = dgw t q e 3 := by omega
    have E4 : aw off L 4 = dgw t q e 4 := by omega
    have E5 : aw off L 5 = dgw t q e 5 := by omega
    have eqs : ∀ i : Nat, i < 6 → aw off L i = dgw t q e i := fun i hi => by
      rcases (by omega : i = 0 ∨ i = 1 ∨ i = 2 ∨ i = 3 ∨ i = 4 ∨ i = 5) with c | c | c | c | c | c <;> rw [c] <;> assumption
    have hle : e - q = L := by
      have g1 : q + (L - 1 : Nat) < e := by
        rcases Int.lt_or_le (q + (L - 1 : Nat)) e with k | k
        · exact k
        · have h1 := eqs (L - 1) (by omega)
          rw [z (L - 1) (by omega)] at h1
          have h2 := (ba (L - 1) (by omega)).2.2 (by omega)
          omega
      by_cases c6 : L = 6
      · omega
      · have g2 : ¬ q + (L : Int) < e := fun k => by
          have h1 := eqs L (by omega)
          rw [hz L (by omega)] at h1
          have h2 := (bd L).2.2 k
          omega
        omega
    refine ⟨hle, fun i hi => ?_⟩
    have h1 := eqs i (by omega)
    rw [ha i hi, y i (by omega)] at h1
    rw [h.2.2.2 (off + i) (by omega), hv i (by omega)]
    omega
theorem r_wl57 {q e k : Int} {off L : Nat} (hq : 0 ≤ q ∧ e ≤ 700) (hk : 0 ≤ k ∧ k < 100) (h3 : off + L < 120) (hle : e - q = L) {kk : Mem → Int → Int → Int → Int → Option (Int × Mem)} : ∀ (d n : Nat) (j : Nat), L - j = d → j ≤ L → d < n → ((∀ i : Nat, j ≤ i → i < L → v 2 (off + i : Nat) = v 1 (q + i)) → G12_wordAt_57 kk n v q e k off L 1 j = some (k, v)) ∧ (¬ (∀ i : Nat, j ≤ i → i < L → v 2 (off + i : Nat) = v 1 (q + i)) → G12_wordAt_57 kk n v q e k off L 1 j = kk v q e (k + 1) (off + L + 1 : Nat)) := by
  intro d
  induction d with
  | zero =>
    intro n j a1 a2 a3
    obtain ⟨n, rfl⟩ : ∃ q, n = q + 1 := ⟨n - 1, by omega⟩
    constructor
    · intro _
      rw [G12_wordAt_57, if_pos (by omega)]
      unfold G12_wordAt_104
      rw [if_neg i10]
    · intro hh
      exact absurd (fun i p q => by omega) hh
  | succ d ih =>
    intro n j a1 a2 a3
    obtain ⟨n, rfl⟩ : ∃ q, n = q + 1 := ⟨n - 1, by omega⟩
    obtain ⟨i1, i2⟩ := ih n (j + 1) (by omega) (by omega) (by omega)
    have ej : (j : Int) + 1 = ((j + 1 : Nat) : Int) := by omega
    have eo : (off : Int) + (j : Int) = ((off + j : Nat) : Int) := by omega
    rw [G12_wordAt_57, if_neg (by omega), if_neg i10, gdx_t (by omega), gdx_t (by omega), gd3_t (by omega), gd3_t (by omega), ej, eo]
    by_cases c : v 2 (off + j : Nat) = v 1 (q + j)
    · rw [if_pos c]
      refine ⟨fun hh => i1 (fun i p q => hh i (by omega) q), fun hh => i2 (fun hh2 => hh (fun i p q => ?_))⟩
      by_cases z : i = j
      · rw [z]; exact c
      · exact hh2 i (by omega) q
    · rw [if_neg c]
      refine ⟨fun hh => absurd (hh j (by omega) (by omega)) c, fun _ => ?_⟩
      obtain ⟨n, rfl⟩ : ∃ q, n = q + 1 := ⟨n - 1, by omega⟩
      have e104 : G12_wordAt_104 kk v q e k off L 0 = kk v q e (k + 1) (off + L + 1 : Nat) := by
        unfold G12_wordAt_104
        rw [if_pos rfl, gd3_t (by omega), gd3_t (by omega), show (off : Int) + ((L : Int) + 1) = ((off + L + 1 : Nat) : Int) by omega]
      rw [G12_wordAt_57]
      split
      · exact e104
      · rw [if_pos rfl]; exact e104
theorem r_wl18 {q e k : Int} {off L : Nat} (h : TPx v t S) (hq : 0 ≤ q ∧ q < e ∧ e ≤ S) (ho : okw off L = true) {kk : Mem → Int → Int → Int → Int → Option (Int × Mem)} : ∀ (d n : Nat) (j : Nat), L - j = d → j ≤ L → d < n → G12_wordAt_18 kk n v q e k off j = if (L : Int) = e - q then G12_wordAt_57 kk 1024 v q e k off L 1 0 else G12_wordAt_57 kk 1024 v q e k off L 0 0 := by
  obtain ⟨o1, o2, o3, o4, o5⟩ := okw_i ho
  have hS := h.1
  intro d
  induction d with
  | zero =>
    intro n j a1 a2 a3
    obtain ⟨n, rfl⟩ : ∃ q, n = q + 1 := ⟨n - 1, by omega⟩
    have ej : j = L := by omega
    subst ej
    have eo : (off : Int) + (j : Int) = ((off + j : Nat) : Int) := by omega
    rw [G12_wordAt_18, eo, gdx_t (by omega), h.2.2.2 (off + j) (by omega), if_pos o4, gd3_t (by omega)]
  | succ d ih =>
    intro n j a1 a2 a3
    obtain ⟨n, rfl⟩ : ∃ q, n = q + 1 := ⟨n - 1, by omega⟩
    have eo : (off : Int) + (j : Int) = ((off + j : Nat) : Int) := by omega
    have hj := o5 j (by omega)
    rw [G12_wordAt_18, eo, gdx_t (by omega), h.2.2.2 (off + j) (by omega), if_neg (by omega), gd3_t (by omega), show (j : Int) + 1 = ((j + 1 : Nat) : Int) by omega]
    exact ih n (j + 1) (by omega) (by omega) (by omega)
theorem r_wa (h : TPx v t S) {q e : Int} (hq : 0 ≤ q ∧ q < e ∧ e ≤ S) (hl : ∀ i, q ≤ i → i < e → 97 ≤ t i ∧ t i ≤ 122) : ∀ (l : List Nat) (off n : Nat) (k : Int), okl off l = true → l.length < n → 0 ≤ k → k + l.length ≤ 24 → G12_wordAt_5 n v q e k off = some ((if e - q ≤ 6 then rxl (pkl off l) (pp t q (e - q).toNat) k else -1), v) := by
  have hS := h.1
  intro l
  induction l with
  | nil =>
    intro off n k h1 h2 h3 h4
    obtain ⟨n, rfl⟩ : ∃ q, n = q + 1 := ⟨n - 1, by omega⟩
    have : off = 120 := of_decide_eq_true h1
    rw [G12_wordAt_5, if_pos (by omega)]
    have e1 : rxl (pkl off []) (pp t q (e - q).toNat) k = -1 := rfl
    rw [e1]
    split <;> rfl
  | cons L r ih =>
    intro off n k h1 h2 h3 h4
    obtain ⟨n, rfl⟩ : ∃ q, n = q + 1 := ⟨n - 1, by omega⟩
    have h1' : (okw off L && okl (off + L + 1) r) = true := h1
    rw [Bool.and_eq_true] at h1'
    obtain ⟨ho, hr⟩ := h1'
    obtain ⟨o1, o2, o3, o4, o5⟩ := okw_i ho
    have hlen : (L :: r).length = r.length + 1 := rfl
    have nxt := ih (off + L + 1) n (k + 1) hr (by omega) (by omega) (by omega)
    have hM := Mw_i h hq hl ho
    have e1 : rxl (pkl off (L :: r)) (pp t q (e - q).toNat) k = if Pw off L = pp t q (e - q).toNat then k else rxl (pkl (off + L + 1) r) (pp t q (e - q).toNat) (k + 1) := rfl
    rw [G12_wordAt_5, if_neg (by omega), e1]
    have e18 := r_wl18 (k := k) (off := off) (L := L) h hq ho (kk := fun m x1 x2 x3 x4 => G12_wordAt_5 n m x1 x2 x3 x4) L 1024 0 (by omega) (by omega) (by omega)
    have e18' : G12_wordAt_18 (fun m x1 x2 x3 x4 => G12_wordAt_5 n m x1 x2 x3 x4) 1024 v q e k off 0 = if (L : Int) = e - q then G12_wordAt_57 (fun m x1 x2 x3 x4 => G12_wordAt_5 n m x1 x2 x3 x4) 1024 v q e k off L 1 0 else G12_wordAt_57 (fun m x1 x2 x3 x4 => G12_wordAt_5 n m x1 x2 x3 x4) 1024 v q e k off L 0 0 := e18
    rw [e18']
    by_cases c : (L : Int) = e - q
    · obtain ⟨w1, w2⟩ := r_wl57 (v := v) (k := k) (off := off) (L := L) ⟨hq.1, by omega⟩ (by omega) o3 c.symm (kk := fun m x1 x2 x3 x4 => G12_wordAt_5 n m x1 x2 x3 x4) L 1024 0 (by omega) (by omega) (by omega)
      rw [if_pos c, if_pos (show e - q ≤ 6 by omega)]
      by_cases c2 : ∀ i : Nat, 0 ≤ i → i < L → v 2 (off + i : Nat) = v 1 (q + i)
      · have := w1 c2
        have hm := (hM.mp ⟨c.symm, fun i hi => c2 i (by omega) hi⟩).2
        rw [if_pos hm]
        exact this
      · have := w2 c2
        have hm : ¬ Pw off L = pp t q (e - q).toNat := fun hp => c2 (fun i _ hi => (hM.mpr ⟨by omega, hp⟩).2 i hi)
        rw [if_neg hm]
        rw [if_pos (show e - q ≤ 6 by omega)] at nxt
        exact this.trans nxt
    · rw [if_neg c]
      have hm : e - q ≤ 6 → ¬ Pw off L = pp t q (e - q).toNat := fun h6 hp => c (hM.mpr ⟨h6, hp⟩).1.symm
      have e104 : G12_wordAt_57 (fun m x1 x2 x3 x4 => G12_wordAt_5 n m x1 x2 x3 x4) 1024 v q e k off L 0 0 = G12_wordAt_5 n v q e (k + 1) (off + L + 1 : Nat) := by
        rw [G12_wordAt_57, if_neg (by omega), if_pos rfl]
        unfold G12_wordAt_104
        rw [if_pos rfl, gd3_t (by omega), gd3_t (by omega), show (off : Int) + ((L : Int) + 1) = ((off + L + 1 : Nat) : Int) by omega]
      rw [e104, nxt]
      by_cases c6 : e - q ≤ 6
      · rw [if_pos c6, if_pos c6, if_neg (hm c6)]
      · rw [if_neg c6, if_neg c6]
end Q22
