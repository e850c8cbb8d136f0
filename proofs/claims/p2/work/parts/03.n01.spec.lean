/-! Words for what a text tells and what is so in a minute: w a text in the class's order of cells (0 scalars, 1 crowd, 2 names .. 7 bent, 8 waves, 9 first, 10 length, 11 minute, 12 size, 13 set, 14 which, 16 18 20 laws, 17 19 21 their signs), n a minute (0 scalars, 1 cell, 2 had, 3 crossed, 4 till, 5 strokes, 6 who). -/
theorem up_e {m : Mem} {a : Nat} {i v : Int} : up m a i v a i = v := if_pos ⟨rfl, rfl⟩
theorem up_a {m : Mem} {a b : Nat} {i v j : Int} (h : b ≠ a) : up m a i v b j = m b j := if_neg (fun q => h q.1)
theorem up_i {m : Mem} {a : Nat} {i v j : Int} (h : j ≠ i) : up m a i v a j = m a j := if_neg (fun q => h q.2)
theorem up_r {m : Mem} {a : Nat} {i v : Int} : up m a i v a = fun j => if j = i then v else m a j := by
  funext j
  unfold up
  by_cases h : j = i
  · rw [if_pos h, if_pos ⟨rfl, h⟩]
  · rw [if_neg h, if_neg (fun q => h q.2)]
theorem up_b {m : Mem} {a b : Nat} {i v : Int} (h : b ≠ a) : up m a i v b = m b := by
  funext j; exact up_a h
theorem cpy_a {m : Mem} {a0 a1 b : Nat} {sp dp n j : Int} (h : b ≠ a1) : cpy m a0 sp a1 dp n b j = m b j := if_neg (fun q => h q.1)
theorem cpy_b {m : Mem} {a0 a1 b : Nat} {sp dp n : Int} (h : b ≠ a1) : cpy m a0 sp a1 dp n b = m b := by funext j; exact cpy_a h
theorem cpy_in {m : Mem} {a0 a1 : Nat} {sp dp n j : Int} (h : dp ≤ j ∧ j < dp + n) : cpy m a0 sp a1 dp n a1 j = m a0 (sp + (j - dp)) := if_pos ⟨rfl, h⟩
theorem cpy_out {m : Mem} {a0 a1 : Nat} {sp dp n j : Int} (h : ¬ (dp ≤ j ∧ j < dp + n)) : cpy m a0 sp a1 dp n a1 j = m a1 j := if_neg (fun q => h q.2)
theorem wt_e {α : Type} {m : Mem} {k : Mem → Option α} : wt m k = k m := rfl
theorem so_ite {c : Prop} [Decidable c] {x y : Int} {m : Mem} : some ((if c then x else y), m) = if c then some (x, m) else some (y, m) := by split <;> rfl
theorem bs1 {α β : Type} {v : α} {f : α → Option β} : (some v).bind f = f v := rfl
/-- outside of P nothing has changed -/
def Fr (P : Nat → Prop) (m m' : Mem) : Prop := ∀ b i, ¬ P b → m' b i = m b i
theorem Fr.rf {P : Nat → Prop} {m : Mem} : Fr P m m := fun _ _ _ => rfl
theorem Fr.tr {P : Nat → Prop} {m m1 m2 : Mem} (a : Fr P m m1) (b : Fr P m1 m2) : Fr P m m2 := fun x i h => (b x i h).trans (a x i h)
theorem Fr.mono {P Q : Nat → Prop} {m m1 : Mem} (a : Fr P m m1) (h : ∀ x, P x → Q x) : Fr Q m m1 := fun x i q => a x i (fun p => q (h x p))
theorem Fr.up {P : Nat → Prop} {m m1 : Mem} {a : Nat} {i v : Int} (f : Fr P m m1) (h : P a) : Fr P m (up m1 a i v) := fun x j q => (up_a (fun e : x = a => q (by rw [e]; exact h))).trans (f x j q)
theorem Fr.row {P : Nat → Prop} {m m1 : Mem} (f : Fr P m m1) {b : Nat} (h : ¬ P b) : m1 b = m b := funext fun i => f b i h
def ab (x : Int) : Int := if 0 ≤ x then x else 0 - x
theorem ab_b (x : Int) : 0 ≤ ab x ∧ (ab x = x ∨ ab x = -x) := by unfold ab; split <;> omega
-- the first place from i on, of d, at which f is not below m
def ffd (f : Int → Int) (m : Int) : Nat → Int → Int
  | 0, i => i
  | d + 1, i => if f i < m then ffd f m d (i + 1) else i
def ff (w : Mem) (m : Int) : Int := ffd (w 11) m (w 8 1).toNat 0
def sfd (f : Int → Int) (m : Int) : Nat → Int → Int
  | 0, _ => -1
  | d + 1, i => if f i < m then sfd f m d (i + 1) else i
def sf (w : Mem) (m : Int) : Int := sfd (fun t => w 11 (w 9 t)) m (w 8 0).toNat 0
def fr (w : Mem) (c x : Int) : Int := ab (c % w 0 0 - x) + ab (c / w 0 0 - w 0 3)
def bsd (w : Mem) (c way : Int) : Int := if way = 0 then (if c / w 0 0 ≤ 0 then -1 else c - w 0 0) else if way = 1 then (if w 0 0 - 1 ≤ c % w 0 0 then -1 else c + 1) else if way = 2 then (if w 0 1 - 1 ≤ c / w 0 0 then -1 else c + w 0 0) else if way = 3 then (if c % w 0 0 ≤ 0 then -1 else c - 1) else c
-- a sum of d things from i on
def smd (f : Int → Int) : Nat → Int → Int
  | 0, _ => 0
  | d + 1, i => f i + smd f d (i + 1)
-- what a text's numbers are within
def WS (w : Mem) : Prop := (1 ≤ w 0 0 ∧ w 0 0 ≤ 8 ∧ 1 ≤ w 0 1 ∧ w 0 1 ≤ 6 ∧ 0 ≤ w 0 2 ∧ w 0 2 < w 0 0 ∧ 0 ≤ w 0 3 ∧ w 0 3 < w 0 1) ∧ (0 ≤ w 1 0 ∧ w 1 0 ≤ 5 ∧ 0 ≤ w 8 0 ∧ w 8 0 ≤ 4 ∧ 0 ≤ w 8 1 ∧ w 8 1 ≤ 28) ∧ (0 ≤ w 0 6 ∧ w 0 6 ≤ 20 ∧ 0 ≤ w 0 7 ∧ w 0 7 ≤ 20 ∧ 0 ≤ w 0 8 ∧ w 0 8 ≤ 9 ∧ 0 ≤ w 0 9 ∧ w 0 9 ≤ 3 ∧ 0 ≤ w 0 10 ∧ w 0 10 ≤ 99999 ∧ 0 ≤ w 0 13 ∧ w 0 13 ≤ 64) ∧ (w 0 6 = 0 ↔ w 0 7 = 0)
def WC (w : Mem) : Prop := ∀ i, 0 ≤ i → i < w 1 0 → (0 ≤ w 3 i ∧ w 3 i < w 0 0 * w 0 1) ∧ (1 ≤ w 4 i ∧ w 4 i ≤ 9) ∧ (1 ≤ w 5 i ∧ w 5 i ≤ 3) ∧ (0 ≤ w 6 i ∧ w 6 i ≤ 100) ∧ (0 ≤ w 7 i ∧ w 7 i ≤ 100)
def WT (w : Mem) : Prop := (w 8 0 = 0 → w 8 1 = 0) ∧ (0 < w 8 0 → w 9 0 = 0) ∧ ∀ t, 0 ≤ t → t < w 8 0 → 0 ≤ w 9 t ∧ 1 ≤ w 10 t ∧ w 10 t ≤ 7 ∧ w 9 t + w 10 t ≤ w 8 1 ∧ (t + 1 < w 8 0 → w 9 (t + 1) = w 9 t + w 10 t) ∧ (t + 1 = w 8 0 → w 9 t + w 10 t = w 8 1)
def WV (w : Mem) : Prop := ∀ i, 0 ≤ i → i < w 8 1 → (0 ≤ w 13 i ∧ w 13 i < w 8 0 ∧ w 9 (w 13 i) ≤ i ∧ i < w 9 (w 13 i) + w 10 (w 13 i) ∧ w 14 i = i - w 9 (w 13 i) + 1 ∧ w 11 i = w 11 (w 9 (w 13 i)) + (i - w 9 (w 13 i))) ∧ (0 ≤ w 11 i ∧ w 11 i ≤ 105 ∧ 1 ≤ w 12 i ∧ w 12 i ≤ 9) ∧ (i + 1 < w 8 1 → w 11 i < w 11 (i + 1))
/-- the told text of the class lies at T -/
def TX (m : Mem) (T : Nat) (w : Mem) : Prop := (T = 2 ∨ T = 24) ∧ (∀ i, m T i = w 0 i) ∧ ∀ c i, c ≤ 21 → m (T + c) i = w c i
theorem TX.fr {m m' : Mem} {T : Nat} {w : Mem} (h : TX m T w) {P : Nat → Prop} (f : Fr P m m') (hp : ∀ b, 2 ≤ b → b < 46 → ¬ P b) : TX m' T w := by
  obtain ⟨h1, h2, h3⟩ := h
  refine ⟨h1, fun i => ?_, fun c i hc => ?_⟩
  · rw [f T i (hp T (by omega) (by omega))]; exact h2 i
  · rw [f (T + c) i (hp (T + c) (by omega) (by omega))]; exact h3 c i hc
/-! Waves and the told text: what the class's methods answer. -/
section WV
variable {m : Mem} {T : Nat} {w : Mem}
theorem g_ff2 (ht : TX m T w) (hs : 0 ≤ w 8 1 ∧ w 8 1 ≤ 28) (x : Int) : ∀ (d n : Nat) (i : Int), 0 ≤ i → i ≤ w 8 1 → w 8 1 - i = d → d < n → G10_firstFrom_2 n m (T + 8) x i = some (ffd (w 11) x d i, m) := by
  obtain ⟨h1, h2, h3⟩ := ht
  intro d
  induction d with
  | zero =>
    intro n i a1 a2 a3 a4
    obtain ⟨n, rfl⟩ : ∃ k, n = k + 1 := ⟨n - 1, by omega⟩
    rw [G10_firstFrom_2, h3 8 1 (by omega), if_pos (by omega)]
    unfold ffd
    congr 2
    omega
  | succ d ih =>
    intro n i a1 a2 a3 a4
    obtain ⟨n, rfl⟩ : ∃ k, n = k + 1 := ⟨n - 1, by omega⟩
    rw [G10_firstFrom_2, h3 8 1 (by omega), if_neg (by omega), gdx_t (by omega), h3 11 i (by omega)]
    unfold ffd
    split
    · rw [gd3_t (by omega), ih n (i + 1) (by omega) (by omega) (by omega) (by omega)]
    · rfl
theorem g_ff (ht : TX m T w) (hs : 0 ≤ w 8 1 ∧ w 8 1 ≤ 28) (x : Int) : G10_firstFrom m (T + 8) x = some (ff w x, m) :=
  g_ff2 ht hs x _ 1024 0 (by omega) (by omega) (by omega) (by omega)
end WV
