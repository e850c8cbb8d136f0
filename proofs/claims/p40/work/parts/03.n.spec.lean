/-! Words for what a text tells and what is so in a minute: w a text in the class's order of cells (0 scalars, 1 crowd, 2 names .. 7 bent, 8 waves, 9 first, 10 length, 11 minute, 12 size, 13 set, 14 which, 16 18 20 laws, 17 19 21 their signs), n a minute (0 scalars, 1 cell, 2 had, 3 crossed, 4 till, 5 strokes, 6 who). -/
theorem up_e {m : Mem} {a : Nat} {i v : Int} : up m a i v a i = v := if_pos ⟨rfl, rfl⟩
theorem up_a {m : Mem} {a b : Nat} {i v j : Int} (h : b ≠ a) : up m a i v b j = m b j := if_neg (fun q => h q.1)
theorem up_i {m : Mem} {a : Nat} {i v j : Int} (h : j ≠ i) : up m a i v a j = m a j := if_neg (fun q => h q.2)
theorem up_r {m : Mem} {a : Nat} {i v : Int} : up m a i v a = fun j => if j = i then v else m a j := by
  funext j
  unfold up
  by_cases h : j = i
  · rw [if_pos h, if_pos ⟨rfl, h⟩]
  · rw [if_neg h, if_neg (fun q => h q.2)]
theorem up_b {m : Mem} {a b : Nat} {i v : Int} (h : b ≠ a) : up m a i v b = m b := by
  funext j; exact up_a h
theorem cpy_a {m : Mem} {a0 a1 b : Nat} {sp dp n j : Int} (h : b ≠ a1) : cpy m a0 sp a1 dp n b j = m b j := if_neg (fun q => h q.1)
theorem cpy_in {m : Mem} {a0 a1 : Nat} {sp dp n j : Int} (h : dp ≤ j ∧ j < dp + n) : cpy m a0 sp a1 dp n a1 j = m a0 (sp + (j - dp)) := if_pos ⟨rfl, h⟩
theorem wt_e {α : Type} {m : Mem} {k : Mem → Option α} : wt m k = k m := rfl
theorem so_ite {c : Prop} [Decidable c] {x y : Int} {m : Mem} : some ((if c then x else y), m) = if c then some (x, m) else some (y, m) := by split <;> rfl
theorem bs1 {α β : Type} {v : α} {f : α → Option β} : (some v).bind f = f v := rfl
/-- outside of P nothing has changed -/
def Fr (P : Nat → Prop) (m m' : Mem) : Prop := ∀ b i, ¬ P b → m' b i = m b i
theorem Fr.rf {P : Nat → Prop} {m : Mem} : Fr P m m := fun _ _ _ => rfl
theorem Fr.tr {P : Nat → Prop} {m m1 m2 : Mem} (a : Fr P m m1) (b : Fr P m1 m2) : Fr P m m2 := fun x i h => (b x i h).trans (a x i h)
theorem Fr.mono {P Q : Nat → Prop} {m m1 : Mem} (a : Fr P m m1) (h : ∀ x, P x → Q x) : Fr Q m m1 := fun x i q => a x i (fun p => q (h x p))
theorem Fr.up {P : Nat → Prop} {m m1 : Mem} {a : Nat} {i v : Int} (f : Fr P m m1) (h : P a) : Fr P m (up m1 a i v) := fun x j q => (up_a (fun e : x = a => q (by rw [e]; exact h))).trans (f x j q)
theorem Fr.row {P : Nat → Prop} {m m1 : Mem} (f : Fr P m m1) {b : Nat} (h : ¬ P b) : m1 b = m b := funext fun i => f b i h
def ab (x : Int) : Int := if 0 ≤ x then x else 0 - x
theorem ab_b (x : Int) : 0 ≤ ab x ∧ (ab x = x ∨ ab x = -x) := by unfold ab; split <;> omega
-- the first place from i on, of d, at which f is not below m
def ffd (f : Int → Int) (m : Int) : Nat → Int → Int
  | 0, i => i
  | d + 1, i => if f i < m then ffd f m d (i + 1) else i
def ff (w : Mem) (m : Int) : Int := ffd (w 11) m (w 8 1).toNat 0
def sfd (f : Int → Int) (m : Int) : Nat → Int → Int
  | 0, _ => -1
  | d + 1, i => if f i < m then sfd f m d (i + 1) else i
def sf (w : Mem) (m : Int) : Int := sfd (fun t => w 11 (w 9 t)) m (w 8 0).toNat 0
def fr (w : Mem) (c x : Int) : Int := ab (c % w 0 0 - x) + ab (c / w 0 0 - w 0 3)
def bsd (w : Mem) (c way : Int) : Int := if way = 0 then (if c / w 0 0 ≤ 0 then -1 else c - w 0 0) else if way = 1 then (if w 0 0 - 1 ≤ c % w 0 0 then -1 else c + 1) else if way = 2 then (if w 0 1 - 1 ≤ c / w 0 0 then -1 else c + w 0 0) else if way = 3 then (if c % w 0 0 ≤ 0 then -1 else c - 1) else c
-- a sum of d things from i on
def smd (f : Int → Int) : Nat → Int → Int
  | 0, _ => 0
  | d + 1, i => f i + smd f d (i + 1)
-- what a text's numbers are within
def WS (w : Mem) : Prop := (1 ≤ w 0 0 ∧ w 0 0 ≤ 8 ∧ 1 ≤ w 0 1 ∧ w 0 1 ≤ 6 ∧ 0 ≤ w 0 2 ∧ w 0 2 < w 0 0 ∧ 0 ≤ w 0 3 ∧ w 0 3 < w 0 1) ∧ (0 ≤ w 1 0 ∧ w 1 0 ≤ 5 ∧ 0 ≤ w 8 0 ∧ w 8 0 ≤ 4 ∧ 0 ≤ w 8 1 ∧ w 8 1 ≤ 28) ∧ (0 ≤ w 0 6 ∧ w 0 6 ≤ 20 ∧ 0 ≤ w 0 7 ∧ w 0 7 ≤ 20 ∧ 0 ≤ w 0 8 ∧ w 0 8 ≤ 9 ∧ 0 ≤ w 0 9 ∧ w 0 9 ≤ 3 ∧ 0 ≤ w 0 10 ∧ w 0 10 ≤ 99999 ∧ 0 ≤ w 0 13 ∧ w 0 13 ≤ 64) ∧ (w 0 6 = 0 ↔ w 0 7 = 0)
def WC (w : Mem) : Prop := ∀ i, 0 ≤ i → i < w 1 0 → (0 ≤ w 3 i ∧ w 3 i < w 0 0 * w 0 1) ∧ (1 ≤ w 4 i ∧ w 4 i ≤ 9) ∧ (1 ≤ w 5 i ∧ w 5 i ≤ 3) ∧ (0 ≤ w 6 i ∧ w 6 i ≤ 100) ∧ (0 ≤ w 7 i ∧ w 7 i ≤ 100)
def WT (w : Mem) : Prop := (w 8 0 = 0 → w 8 1 = 0) ∧ (0 < w 8 0 → w 9 0 = 0) ∧ ∀ t, 0 ≤ t → t < w 8 0 → 0 ≤ w 9 t ∧ 1 ≤ w 10 t ∧ w 10 t ≤ 7 ∧ w 9 t + w 10 t ≤ w 8 1 ∧ (t + 1 < w 8 0 → w 9 (t + 1) = w 9 t + w 10 t) ∧ (t + 1 = w 8 0 → w 9 t + w 10 t = w 8 1)
def WV (w : Mem) : Prop := ∀ i, 0 ≤ i → i < w 8 1 → (0 ≤ w 13 i ∧ w 13 i < w 8 0 ∧ w 9 (w 13 i) ≤ i ∧ i < w 9 (w 13 i) + w 10 (w 13 i) ∧ w 14 i = i - w 9 (w 13 i) + 1 ∧ w 11 i = w 11 (w 9 (w 13 i)) + (i - w 9 (w 13 i))) ∧ (0 ≤ w 11 i ∧ w 11 i ≤ 105 ∧ 1 ≤ w 12 i ∧ w 12 i ≤ 9) ∧ (i + 1 < w 8 1 → w 11 i < w 11 (i + 1))
/-- the told text of the class lies at T -/
def TX (m : Mem) (T : Nat) (w : Mem) : Prop := (T = 2 ∨ T = 24) ∧ (∀ i, m T i = w 0 i) ∧ ∀ c i, c ≤ 21 → m (T + c) i = w c i
theorem TX.fr {m m' : Mem} {T : Nat} {w : Mem} (h : TX m T w) {P : Nat → Prop} (f : Fr P m m') (hp : ∀ b, 2 ≤ b → b < 46 → ¬ P b) : TX m' T w := by
  obtain ⟨h1, h2, h3⟩ := h
  refine ⟨h1, fun i => ?_, fun c i hc => ?_⟩
  · rw [f T i (hp T (by omega) (by omega))]; exact h2 i
  · rw [f (T + c) i (hp (T + c) (by omega) (by omega))]; exact h3 c i hc
/-! Waves and the told text: what the class's methods answer. -/
section WV
variable {m : Mem} {T : Nat} {w : Mem}
theorem g_ff2 (ht : TX m T w) (hs : 0 ≤ w 8 1 ∧ w 8 1 ≤ 28) (x : Int) : ∀ (d n : Nat) (i : Int), 0 ≤ i → i ≤ w 8 1 → w 8 1 - i = d → d < n → G10_firstFrom_2 n m (T + 8) x i = some (ffd (w 11) x d i, m) := by
  obtain ⟨h1, h2, h3⟩ := ht
  intro d
  induction d with
  | zero =>
    intro n i a1 a2 a3 a4
    obtain ⟨n, rfl⟩ : ∃ k, n = k + 1 := ⟨n - 1, by omega⟩
    rw [G10_firstFrom_2, h3 8 1 (by omega), if_pos (by omega)]
    unfold ffd
    congr 2
    omega
  | succ d ih =>
    intro n i a1 a2 a3 a4
    obtain ⟨n, rfl⟩ : ∃ k, n = k + 1 := ⟨n - 1, by omega⟩
    rw [G10_firstFrom_2, h3 8 1 (by omega), if_neg (by omega), gdx_t (by omega), h3 11 i (by omega)]
    unfold ffd
    split
    · rw [gd3_t (by omega), ih n (i + 1) (by omega) (by omega) (by omega) (by omega)]
    · rfl
theorem g_ff (ht : TX m T w) (hs : 0 ≤ w 8 1 ∧ w 8 1 ≤ 28) (x : Int) : G10_firstFrom m (T + 8) x = some (ff w x, m) :=
  g_ff2 ht hs x _ 1024 0 (by omega) (by omega) (by omega) (by omega)
end WV
/-! Waves, told, a minute: what the class's small methods answer. -/
section CW
variable {m : Mem} {T : Nat} {w : Mem}
theorem g_fm (ht : TX m T w) {t : Int} (h1 : 0 ≤ t ∧ t < 4) (h2 : 0 ≤ w 9 t ∧ w 9 t < 28) : G10_firstMinute m (T + 8) t = some (w 11 (w 9 t), m) := by
  obtain ⟨a1, a2, a3⟩ := ht
  unfold G10_firstMinute G10_firstMinute_0
  rw [gdx_t h1, a3 9 t (by omega), gdx_t h2, a3 11 _ (by omega)]
theorem g_lm (ht : TX m T w) {t : Int} (h1 : 0 ≤ t ∧ t < 4) (h2 : 0 ≤ w 9 t ∧ w 9 t < 28) (h3 : 0 ≤ w 10 t ∧ w 10 t ≤ 7) (h4 : 0 ≤ w 11 (w 9 t) ∧ w 11 (w 9 t) ≤ 199) : G10_lastMinute m (T + 8) t = some (w 11 (w 9 t) + w 10 t - 1, m) := by
  have e := g_fm ht h1 h2
  obtain ⟨a1, a2, a3⟩ := ht
  unfold G10_lastMinute G10_lastMinute_0
  rw [e, bs1, gdx_t h1]
  simp only [a3 10 t (by omega)]
  rw [gd3_t (by omega)]
theorem g_sf2 (ht : TX m T w) (hs : 0 ≤ w 8 0 ∧ w 8 0 ≤ 4) (hf : ∀ t, 0 ≤ t → t < w 8 0 → 0 ≤ w 9 t ∧ w 9 t < 28) (x : Int) : ∀ (d n : Nat) (i : Int), 0 ≤ i → i ≤ w 8 0 → w 8 0 - i = d → d < n → G10_setFrom_2 n m (T + 8) x i = some (sfd (fun t => w 11 (w 9 t)) x d i, m) := by
  intro d
  induction d with
  | zero =>
    intro n i a1 a2 a3 a4
    obtain ⟨n, rfl⟩ : ∃ k, n = k + 1 := ⟨n - 1, by omega⟩
    rw [G10_setFrom_2, ht.2.2 8 0 (by omega), if_pos (by omega)]
    rfl
  | succ d ih =>
    intro n i a1 a2 a3 a4
    obtain ⟨n, rfl⟩ : ∃ k, n = k + 1 := ⟨n - 1, by omega⟩
    rw [G10_setFrom_2, ht.2.2 8 0 (by omega), if_neg (by omega), g_fm ht (by omega) (hf i (by omega) (by omega)), bs1]
    unfold sfd
    simp only
    split
    · rw [gd3_t (by omega), ih n (i + 1) (by omega) (by omega) (by omega) (by omega)]
    · rfl
theorem g_sf (ht : TX m T w) (hs : 0 ≤ w 8 0 ∧ w 8 0 ≤ 4) (hf : ∀ t, 0 ≤ t → t < w 8 0 → 0 ≤ w 9 t ∧ w 9 t < 28) (x : Int) : G10_setFrom m (T + 8) x = some (sf w x, m) :=
  g_sf2 ht hs hf x _ 1024 0 (by omega) (by omega) (by omega) (by omega)
theorem g_len (ht : TX m T w) {t : Int} (h1 : 0 ≤ t ∧ t < 4) : G10_lengthOf m (T + 8) t = some (w 10 t, m) := by
  unfold G10_lengthOf G10_lengthOf_0
  rw [gdx_t h1]
  rw [ht.2.2 10 t (by omega)]
-- is none of d sizes from place a on above the asked one
def lgd (f : Int → Int) (a q : Int) : Nat → Int → Int
  | 0, _ => 1
  | d + 1, i => if f (a + i) ≤ f q then lgd f a q d (i + 1) else 0
theorem g_lg2 (ht : TX m T w) {t : Int} (h1 : 0 ≤ t ∧ t < 4) (h2 : 0 ≤ w 9 t ∧ w 9 t + w 10 t ≤ 28) (h3 : w 10 t ≤ 7) {q : Int} (hq : 0 ≤ q ∧ q < 28) : ∀ (d n : Nat) (i : Int), 0 ≤ i → i ≤ w 10 t → w 10 t - i = d → d < n → G10_isLargest_14 n m (T + 8) t q i = some (lgd (w 12) (w 9 t) q d i, m) := by
  have e1 := ht.2.2 10 t (by omega)
  have e2 := ht.2.2 9 t (by omega)
  intro d
  induction d with
  | zero =>
    intro n i a1 a2 a3 a4
    obtain ⟨n, rfl⟩ : ∃ k, n = k + 1 := ⟨n - 1, by omega⟩
    rw [G10_isLargest_14, gdx_t h1, e1, if_pos (by omega)]
    rfl
  | succ d ih =>
    intro n i a1 a2 a3 a4
    obtain ⟨n, rfl⟩ : ∃ k, n = k + 1 := ⟨n - 1, by omega⟩
    rw [G10_isLargest_14, gdx_t h1, e1, if_neg (by omega), gdx_t h1, e2, gdx_t (by omega), gdx_t hq, ht.2.2 12 _ (by omega), ht.2.2 12 _ (by omega)]
    unfold lgd
    split
    · rw [gd3_t (by omega), ih n (i + 1) (by omega) (by omega) (by omega) (by omega)]
    · rfl
theorem g_lg (ht : TX m T w) {t : Int} (h1 : 0 ≤ t ∧ t < 4) (h2 : 0 ≤ w 9 t ∧ w 9 t + w 10 t ≤ 28) (h3 : 0 ≤ w 10 t ∧ w 10 t ≤ 7) {k : Int} (hk : 1 ≤ k ∧ k ≤ w 10 t) : G10_isLargest m (T + 8) t k = some (lgd (w 12) (w 9 t) (w 9 t + k - 1) (w 10 t).toNat 0, m) := by
  unfold G10_isLargest G10_isLargest_0
  rw [gdx_t h1, ht.2.2 9 t (by omega), gd3_t (by omega)]
  exact g_lg2 ht h1 h2 h3.2 (by omega) _ 1024 0 (by omega) (by omega) (by omega) (by omega)
theorem g_cells (ht : TX m T w) (h1 : 1 ≤ w 0 0 ∧ w 0 0 ≤ 8) (h2 : 1 ≤ w 0 1 ∧ w 0 1 ≤ 6) : G8_cells m T = some (w 0 0 * w 0 1, m) := by
  unfold G8_cells G8_cells_0
  rw [ht.2.1, ht.2.1]
  have : 0 ≤ w 0 0 * w 0 1 ∧ w 0 0 * w 0 1 ≤ 8 * 6 := ⟨Int.mul_nonneg (by omega) (by omega), Int.mul_le_mul (by omega) (by omega) (by omega) (by omega)⟩
  rw [gd3_t (by omega)]
theorem g_row (ht : TX m T w) (h1 : 1 ≤ w 0 0) {c : Int} (hc : 0 ≤ c) : G8_rowOf m T c = some (c / w 0 0, m) := by
  unfold G8_rowOf G8_rowOf_0
  rw [ht.2.1, if_neg (by omega), if_neg (by omega), gdd_t (by omega)]
theorem g_col (ht : TX m T w) (h1 : 1 ≤ w 0 0) {c : Int} (hc : 0 ≤ c) : G8_columnOf m T c = some (c % w 0 0, m) := by
  unfold G8_columnOf G8_columnOf_0
  rw [ht.2.1, if_neg (by omega), if_neg (by omega), gdd_t (by omega)]
theorem cell_b {c W H : Int} (h1 : 1 ≤ W ∧ W ≤ 8) (h2 : 1 ≤ H ∧ H ≤ 6) (hc : 0 ≤ c ∧ c < W * H) : 0 ≤ c % W ∧ c % W < W ∧ 0 ≤ c / W ∧ c / W < H ∧ c = W * (c / W) + c % W ∧ c < 48 := by
  have e := (Int.mul_ediv_add_emod c W).symm
  have b1 := Int.emod_nonneg c (by omega : W ≠ 0)
  have b2 := Int.emod_lt_of_pos c (by omega : 0 < W)
  have b3 := Int.ediv_nonneg hc.1 (by omega : 0 ≤ W)
  have b4 : c / W < H := Int.ediv_lt_of_lt_mul (by omega) (by rw [Int.mul_comm]; exact hc.2)
  have b5 : W * H ≤ 8 * 6 := Int.mul_le_mul (by omega) (by omega) (by omega) (by omega)
  exact ⟨b1, b2, b3, b4, e, by omega⟩
theorem g_far (ht : TX m T w) (h1 : 1 ≤ w 0 0 ∧ w 0 0 ≤ 8) (h2 : 1 ≤ w 0 1 ∧ w 0 1 ≤ 6) (h3 : 0 ≤ w 0 3 ∧ w 0 3 < w 0 1) {c x : Int} (hc : 0 ≤ c ∧ c < w 0 0 * w 0 1) (hx : 0 ≤ x ∧ x < w 0 0) : G8_farFrom m T c x = some (fr w c x, m) := by
  obtain ⟨b1, b2, b3, b4, e, b5⟩ := cell_b h1 h2 hc
  unfold G8_farFrom G8_farFrom_0 fr ab
  simp only [ht.2.1]
  rw [if_pos (by omega), if_neg (by omega), if_neg (by omega)]
  simp only [gdd_t (show 0 ≤ c ∧ 0 < w 0 0 by omega)]
  rw [gd3_t (by omega), gd3_t (by omega), gd3_t (by split <;> split <;> omega)]
theorem fr_b (h1 : 1 ≤ w 0 0 ∧ w 0 0 ≤ 8) (h2 : 1 ≤ w 0 1 ∧ w 0 1 ≤ 6) (h3 : 0 ≤ w 0 3 ∧ w 0 3 < w 0 1) {c x : Int} (hc : 0 ≤ c ∧ c < w 0 0 * w 0 1) (hx : 0 ≤ x ∧ x < w 0 0) : 0 ≤ fr w c x ∧ fr w c x ≤ 12 := by
  obtain ⟨b1, b2, b3, b4, e, b5⟩ := cell_b h1 h2 hc
  unfold fr ab
  split <;> split <;> omega
theorem g_bsd (ht : TX m T w) (h1 : 1 ≤ w 0 0 ∧ w 0 0 ≤ 8) (h2 : 1 ≤ w 0 1 ∧ w 0 1 ≤ 6) {c way : Int} (hc : 0 ≤ c ∧ c < w 0 0 * w 0 1) : G8_cellBeside m T c way = some (bsd w c way, m) := by
  obtain ⟨b1, b2, b3, b4, e, b5⟩ := cell_b h1 h2 hc
  unfold G8_cellBeside G8_cellBeside_0 bsd
  rw [g_col ht h1.1 hc.1, bs1, g_row ht h1.1 hc.1, bs1]
  simp only [ht.2.1]
  split
  · split
    · rfl
    · rw [gd3_t (by omega)]
  · split
    · rw [gd3_t (by omega)]
      split
      · rfl
      · rw [gd3_t (by omega)]
    · split
      · rw [gd3_t (by omega)]
        split
        · rfl
        · rw [gd3_t (by omega)]
      · split
        · split
          · rfl
          · rw [gd3_t (by omega)]
        · rfl
def bwv (w : Mem) (x l : Int) : Int := if l - x - w 0 6 < 0 then 0 else if 1 ≤ w 0 7 then (l - x - w 0 6) / w 0 7 + 1 else 0
theorem g_bwv (ht : TX m T w) (h1 : 0 ≤ w 0 6 ∧ w 0 6 ≤ 20) (h2 : 0 ≤ w 0 7 ∧ w 0 7 ≤ 20) {x l : Int} (hx : 0 ≤ x ∧ x ≤ 199) (hl : 0 ≤ l ∧ l ≤ 199) : G8_bankWaves m T x l = some (bwv w x l, m) := by
  unfold G8_bankWaves G8_bankWaves_0 bwv
  simp only [ht.2.1]
  rw [gd3_t (by omega)]
  split
  · rfl
  · split
    · rw [if_neg (by omega), gd3_t (by omega), gdd_t (by omega)]
      have h3 := Int.ediv_nonneg (show 0 ≤ l - x - w 0 6 by omega) (show 0 ≤ w 0 7 by omega)
      have h4 := Int.ediv_le_self (w 0 7) (show 0 ≤ l - x - w 0 6 by omega)
      rw [gd3_t (by omega)]
    · rfl
end CW
/-! A law: its signs one behind another, what it comes to; the class works it out so. -/
def jn (t a b : Int) : Int :=
  if t = 16 then (if a = 0 then 0 else if b = 0 then 0 else 1)
  else if t = 17 then (if a = 0 then (if b = 0 then 0 else 1) else 1)
  else if t = 26 then (if b ≤ a then 0 else 1)
  else if t = 27 then (if b < a then 0 else 1)
  else if t = 28 then (if a = b then 1 else 0)
  else if t = 29 then (if a = b then 0 else 1)
  else if t = 30 then (if a < b then 0 else 1)
  else if t = 31 then (if a ≤ b then 0 else 1)
  else if t = 32 then a + b
  else if t = 33 then a - b
  else if t = 34 then (if -1000000000000 ≤ a * b ∧ a * b ≤ 1000000000000 then a * b else -9223372036854775808)
  else if t = 35 then (if b = 0 then -9223372036854775808 else Int.tdiv a b)
  else -9223372036854775808
/-- the numbers of the parts that still wait, behind j signs -/
def ist (kn : Int → Int) : Nat → List Int
  | 0 => []
  | j + 1 => if kn j < 10000 ∨ (10018 ≤ kn j ∧ kn j < 10024) then (j : Int) :: ist kn j else if kn j = 10015 then (j : Int) :: (ist kn j).drop 1 else (j : Int) :: (ist kn j).drop 2
def bnk (k : Int) : Prop := k = 10016 ∨ k = 10017 ∨ (10026 ≤ k ∧ k ≤ 10035)
def LX (kn : Int → Int) (len : Int) : Prop := (0 ≤ len ∧ len ≤ 64) ∧ (∀ j : Nat, (j : Int) < len → (0 ≤ kn j ∧ kn j < 10000) ∨ (10018 ≤ kn j ∧ kn j < 10024) ∨ (kn j = 10015 ∧ 1 ≤ (ist kn j).length) ∨ (bnk (kn j) ∧ 2 ≤ (ist kn j).length)) ∧ (0 < len → (ist kn len.toNat).length = 1)
def stp (kn nm : Int → Int) (j : Int) (st : List Int) : Option (List Int) :=
  if kn j < 10000 then some (kn j :: st)
  else if 10018 ≤ kn j ∧ kn j < 10024 then some (nm (kn j - 10018) :: st)
  else if kn j = 10015 then (match st with
    | v :: r => some ((if v = 0 then 1 else 0) :: r)
    | _ => none)
  else (match st with
    | b :: a :: r => if 1000000000000 < jn (kn j - 10000) a b ∨ jn (kn j - 10000) a b < -1000000000000 then none else some (jn (kn j - 10000) a b :: r)
    | _ => none)
def evl (kn nm : Int → Int) : Nat → Option (List Int)
  | 0 => some []
  | j + 1 => (evl kn nm j).bind (stp kn nm j)
def lv (kn nm : Int → Int) (len : Int) : Int := match evl kn nm len.toNat with
  | some [v] => v
  | _ => -9223372036854775808
theorem evl_none {kn nm : Int → Int} {j : Nat} (h : evl kn nm j = none) : ∀ d : Nat, evl kn nm (j + d) = none := by
  intro d
  induction d with
  | zero => exact h
  | succ d ih => show (evl kn nm (j + d)).bind _ = none; rw [ih]; rfl
theorem lv_none {kn nm : Int → Int} {j : Nat} (h : evl kn nm j = none) {len : Int} (hl : (j : Int) ≤ len) : lv kn nm len = -9223372036854775808 := by
  unfold lv
  have : len.toNat = j + (len.toNat - j) := by omega
  rw [this, evl_none h]
/-- a waiting row: the last of it is at the head -/
def stk (f : Int → Int) : List Int → Prop
  | [] => True
  | v :: r => f (r.length : Int) = v ∧ stk f r
theorem stk_up {f g : Int → Int} : ∀ {st : List Int}, stk f st → (∀ j : Int, 0 ≤ j → j < st.length → g j = f j) → stk g st := by
  intro st
  induction st with
  | nil => intros; trivial
  | cons v r ih =>
    intro h1 h2
    have hl : ((v :: r).length : Int) = r.length + 1 := by simp
    exact ⟨by rw [h2 _ (by omega) (by omega)]; exact h1.1, ih h1.2 (fun j a b => h2 j a (by omega))⟩
def bM (v : Int) : Prop := -1000000000000 ≤ v ∧ v ≤ 1000000000000
def bMs (st : List Int) : Prop := ∀ v ∈ st, bM v
theorem ab_mul (a b : Int) : ab a * ab b = ab (a * b) := by
  unfold ab
  by_cases h1 : 0 ≤ a
  · by_cases h2 : 0 ≤ b
    · rw [if_pos h1, if_pos h2, if_pos (Int.mul_nonneg h1 h2)]
    · rw [if_pos h1, if_neg h2]
      by_cases h3 : 0 ≤ a * b
      · rw [if_pos h3]
        have : a * b ≤ 0 := Int.mul_nonpos_of_nonneg_of_nonpos h1 (by omega)
        have h4 : a * (0 - b) = -(a * b) := by rw [Int.mul_sub]; omega
        omega
      · rw [if_neg h3, Int.mul_sub]; omega
  · by_cases h2 : 0 ≤ b
    · rw [if_neg h1, if_pos h2]
      have h4 : (0 - a) * b = -(a * b) := by rw [Int.sub_mul]; omega
      by_cases h3 : 0 ≤ a * b
      · rw [if_pos h3]
        have : a * b ≤ 0 := Int.mul_nonpos_of_nonpos_of_nonneg (by omega) h2
        omega
      · rw [if_neg h3]; omega
    · rw [if_neg h1, if_neg h2]
      have h4 : (0 - a) * (0 - b) = a * b := by rw [Int.zero_sub, Int.zero_sub, Int.neg_mul_neg]
      have : 0 ≤ a * b := by rw [← h4]; exact Int.mul_nonneg (by omega) (by omega)
      rw [if_pos this, h4]
theorem mul_fit {a b : Int} (hb : ab b > 0) : ab a ≤ Int.tdiv 1000000000000 (ab b) ↔ (-1000000000000 ≤ a * b ∧ a * b ≤ 1000000000000) := by
  rw [Int.tdiv_eq_ediv_of_nonneg (by decide), Int.le_ediv_iff_mul_le hb, ab_mul]
  have := ab_b (a * b)
  constructor <;> intro h <;> omega
theorem tdiv_b {a b : Int} (ha : bM a) : bM (Int.tdiv a b) := by
  have h1 : (Int.tdiv a b).natAbs ≤ a.natAbs := by
    rw [Int.natAbs_tdiv]; exact Nat.div_le_self _ _
  unfold bM at *
  omega
section LAW
variable {m : Mem}
theorem g_one0 : G2_oneIf m 0 = some (0, m) := rfl
theorem g_one1 : G2_oneIf m 1 = some (1, m) := rfl
theorem g_prod {a b : Int} (ha : bM a) (hb : bM b) : G2_product m a b = some (if -1000000000000 ≤ a * b ∧ a * b ≤ 1000000000000 then a * b else -9223372036854775808, m) := by
  have hA := ab_b a
  have hB := ab_b b
  have key : G2_product m a b = G2_product_26 m a b (ab a) (ab b) := by
    unfold bM at ha hb
    unfold G2_product G2_product_0 G2_product_12 ab
    by_cases h1 : 0 ≤ a <;> by_cases h2 : 0 ≤ b
    · rw [if_pos h1, if_pos h2, if_pos h1, if_pos h2]
    · rw [if_pos h1, if_neg h2, if_pos h1, if_neg h2, gd6_t (by omega), Int.zero_sub]
    · rw [if_neg h1, gd6_t (by omega), if_pos h2, if_neg h1, if_pos h2, Int.zero_sub]
    · rw [if_neg h1, gd6_t (by omega), if_neg h2, gd6_t (by omega), if_neg h1, if_neg h2, Int.zero_sub, Int.zero_sub]
  rw [key]
  unfold G2_product_26
  by_cases h0 : ab b ≤ 0
  · rw [if_pos h0]
    have : b = 0 := by omega
    subst this
    rw [Int.mul_zero, gd6_t (by omega), if_pos (by omega)]
  · rw [if_neg h0, if_neg (by omega)]
    have hf := mul_fit (a := a) (b := b) (by omega)
    have htd : bM (Int.tdiv 1000000000000 (ab b)) := tdiv_b ⟨by decide, by decide⟩
    unfold bM at htd
    rw [gd6_t (by omega)]
    by_cases h1 : ab a ≤ Int.tdiv 1000000000000 (ab b)
    · have h2 := hf.mp h1
      rw [if_pos h1, gd6_t (by omega), if_pos h2]
    · rw [if_neg h1, if_neg (fun q => h1 (hf.mpr q))]
theorem g_jn (t : Int) {a b : Int} (ha : bM a) (hb : bM b) : G2_join m t a b = some (jn t a b, m) := by
  have htd : bM (Int.tdiv a b) := tdiv_b ha
  have e := g_prod (m := m) ha hb
  unfold bM at ha hb htd
  unfold G2_join G2_join_0 jn
  simp only [G2_join_133, G2_join_134, G2_join_113, G2_join_108, G2_join_149, G2_join_164, G2_join_179, G2_join_194, G2_join_209, G2_join_224, g_one0, g_one1, bs1, so_ite]
  rw [e, bs1, gd6_t (by omega), gd6_t (by omega), gd6_t (by omega)]
  simp only [so_ite]
  by_cases hb0 : b = 0
  · simp only [if_pos hb0]
  · simp only [if_neg hb0]
theorem evl_len {kn nm : Int → Int} {len : Int} (hL : LX kn len) : ∀ (j : Nat) (st : List Int), (j : Int) ≤ len → evl kn nm j = some st → st.length = (ist kn j).length := by
  intro j
  induction j with
  | zero => intro st _ h; cases h; rfl
  | succ j ih =>
    intro st hj h
    obtain ⟨s0, h1, h2⟩ := ob h
    have hl := ih s0 (by omega) h1
    have hc := hL.2.1 j (by omega)
    unfold stp at h2
    unfold ist
    rcases hc with hc | hc | hc | hc
    · rw [if_pos hc.2] at h2
      cases h2
      rw [if_pos (Or.inl hc.2)]
      simp [hl]
    · rw [if_neg (by omega), if_pos hc] at h2
      cases h2
      rw [if_pos (Or.inr hc)]
      simp [hl]
    · rw [if_neg (by omega), if_neg (by omega), if_pos hc.1] at h2
      rw [if_neg (by omega), if_pos hc.1]
      cases s0 with
      | nil => cases h2
      | cons v r =>
        cases h2
        simp only [List.length_cons, List.length_drop] at *
        omega
    · have hb : ¬ kn j < 10000 ∧ ¬ (10018 ≤ kn j ∧ kn j < 10024) ∧ ¬ kn j = 10015 := by
        have := hc.1; unfold bnk at this; omega
      rw [if_neg hb.1, if_neg hb.2.1, if_neg hb.2.2] at h2
      rw [if_neg (by omega), if_neg hb.2.2]
      cases s0 with
      | nil => cases h2
      | cons v r =>
        cases r with
        | nil => cases h2
        | cons v2 r =>
          simp only at h2
          split at h2
          · cases h2
          · cases h2
            simp only [List.length_cons, List.length_drop] at *
            omega
theorem ist_le (kn : Int → Int) : ∀ j : Nat, (ist kn j).length ≤ j := by
  intro j
  induction j with
  | zero => exact Nat.le_refl 0
  | succ j ih =>
    unfold ist
    split
    · simp; omega
    · split
      · simp; omega
      · simp; omega
theorem g_val5 {l a1 a2 : Nat} {kn nm : Int → Int} {len : Int} (hL : LX kn len) (hn : ∀ j, 0 ≤ j → j < 6 → bM (nm j)) (d1 : l ≠ a2) (d2 : l + 1 ≠ a2) (d3 : a1 ≠ a2) :
    ∀ (d n : Nat) (i : Nat) (st : List Int) (m : Mem), len - (i : Int) = d → d < n → evl kn nm i = some st → bMs st → stk (m a2) st → m l 1 = len → (∀ j, 0 ≤ j → j < len → m (l + 1) j = kn j) → (∀ j, 0 ≤ j → j < 6 → m a1 j = nm j) →
    ∃ m', G2_valueFor_5 n m l a1 a2 (st.length : Int) (i : Int) = some (lv kn nm len, m') ∧ Fr (fun b => b = a2) m m' := by
  intro d
  induction d with
  | zero =>
    intro n i st m h1 h2 h3 h4 h5 h6 h7 h8
    obtain ⟨n, rfl⟩ : ∃ k, n = k + 1 := ⟨n - 1, by omega⟩
    refine ⟨m, ?_, Fr.rf⟩
    rw [G2_valueFor_5, h6, if_pos (by omega)]
    unfold G2_valueFor_177 lv
    have hi : len.toNat = i := by omega
    rw [hi, h3]
    match st, h5 with
    | [], _ => rfl
    | [v], h5 =>
      have : m a2 0 = v := h5.1
      rw [if_pos (by simp), this]
    | a :: b :: r, _ =>
      rw [if_neg (by simp only [List.length_cons]; omega)]
  | succ d ih =>
    intro n i st m h1 h2 h3 h4 h5 h6 h7 h8
    obtain ⟨n, rfl⟩ : ∃ k, n = k + 1 := ⟨n - 1, by omega⟩
    have hlen := evl_len hL i st (by omega) h3
    have hle := ist_le kn i
    have hb := hL.1
    have hc := hL.2.1 i (by omega)
    have hk := h7 i (by omega) (by omega)
    have hev : evl kn nm (i + 1) = stp kn nm i st := by show (evl kn nm i).bind _ = _; rw [h3]; rfl
    have hi1 : ((i : Int) + 1) = ((i + 1 : Nat) : Int) := by omega
    rw [G2_valueFor_5, h6, if_neg (by omega), if_neg (by omega), gdx_t (by omega), hk, gd3_t (by unfold bnk at hc; omega)]
    -- what is put on the row
    have push : ∀ v : Int, bM v → stp kn nm i st = some (v :: st) → ∃ m', gdx (st.length : Int) 64 (wt (up m a2 st.length v) fun m17 => gd3 ((st.length : Int) + 1) (gd3 ((i : Int) + 1) (G2_valueFor_5 n m17 l a1 a2 ((st.length : Int) + 1) ((i : Int) + 1)))) = some (lv kn nm len, m') ∧ Fr (fun b => b = a2) m m' := by
      intro v hv hs
      rw [gdx_t (by omega)]
      rw [wt_e]
      rw [gd3_t (by omega), gd3_t (by omega)]
      have e1 : ((st.length : Int) + 1) = ((v :: st).length : Int) := by simp
      rw [e1, hi1]
      obtain ⟨m', q1, q2⟩ := ih n (i + 1) (v :: st) (up m a2 st.length v) (by omega) (by omega) (by rw [hev]; exact hs) (by intro x hx; rcases List.mem_cons.mp hx with rfl | hx; exact hv; exact h4 x hx) ⟨up_e, stk_up h5 (fun j a b => up_i (by omega))⟩ (by rw [up_a d1]; exact h6) (fun j a b => by rw [up_a d2]; exact h7 j a b) (fun j a b => by rw [up_a d3]; exact h8 j a b)
      exact ⟨m', q1, Fr.tr (Fr.up (P := fun b => b = a2) Fr.rf rfl) q2⟩
    rcases hc with hc | hc | hc | hc
    · rw [if_neg (by omega), gdx_t (by omega)]
      exact push (kn i) (by unfold bM; omega) (by unfold stp; rw [if_pos hc.2])
    · rw [if_pos (by omega), gd3_t (by omega), if_neg (by omega), gd3_t (by omega), if_neg (by omega), gdx_t (by omega)]
      have e2 : kn i - 10000 - 18 = kn i - 10018 := by omega
      rw [e2, h8 _ (by omega) (by omega)]
      exact push _ (hn _ (by omega) (by omega)) (by unfold stp; rw [if_neg (by omega), if_pos hc])
    · rw [if_pos (by omega), gd3_t (by omega), if_pos (by omega), gd3_t (by omega)]
      unfold G2_valueFor_85
      rw [if_pos (by omega), if_neg (by omega), gdx_t (by omega), gd3_t (by omega), gd3_t (by omega)]
      obtain ⟨v, r, rfl⟩ : ∃ v r, st = v :: r := by
        cases st with
        | nil => simp only [List.length_nil] at hlen; omega
        | cons v r => exact ⟨v, r, rfl⟩
      have hv : m a2 (((v :: r).length : Int) - 1) = v := by
        have := h5.1
        have e : ((v :: r).length : Int) - 1 = r.length := by simp
        rw [e]; exact this
      rw [hv]
      have step : ∀ x : Int, bM x → x = (if v = 0 then 1 else 0) → ∃ m', G2_valueFor_115 (fun m a0 a1 a2 x3 x4 => G2_valueFor_5 n m a0 a1 a2 x3 x4) m l a1 a2 ((v :: r).length : Int) (i : Int) x (((v :: r).length : Int) - 1) a2 = some (lv kn nm len, m') ∧ Fr (fun b => b = a2) m m' := by
        intro x hx hxe
        unfold G2_valueFor_115
        rw [gdx_t (by simp only [List.length_cons] at *; omega)]
        rw [wt_e]
        rw [gd3_t (by omega), hi1]
        have e : ((v :: r).length : Int) - 1 = r.length := by simp
        have e1 : ((v :: r).length : Int) = ((x :: r).length : Int) := by simp
        rw [e, e1]
        obtain ⟨m', q1, q2⟩ := ih n (i + 1) (x :: r) (up m a2 r.length x) (by omega) (by omega) (by rw [hev]; unfold stp; rw [if_neg (by omega), if_neg (by omega), if_pos hc.1, hxe]) (by intro y hy; rcases List.mem_cons.mp hy with rfl | hy; exact hx; exact h4 y (List.mem_cons_of_mem _ hy)) ⟨up_e, stk_up h5.2 (fun j a b => up_i (by omega))⟩ (by rw [up_a d1]; exact h6) (fun j a b => by rw [up_a d2]; exact h7 j a b) (fun j a b => by rw [up_a d3]; exact h8 j a b)
        exact ⟨m', q1, Fr.tr (Fr.up (P := fun b => b = a2) Fr.rf rfl) q2⟩
      by_cases hv0 : v = 0
      · rw [if_pos hv0]
        exact step 1 ⟨by decide, by decide⟩ (by rw [if_pos hv0])
      · rw [if_neg hv0]
        exact step 0 ⟨by decide, by decide⟩ (by rw [if_neg hv0])
    · have hbn := hc.1
      have main : ∃ m', G2_valueFor_119 (fun m a0 a1 a2 x3 x4 => G2_valueFor_5 n m a0 a1 a2 x3 x4) m l a1 a2 (st.length : Int) (i : Int) (kn i - 10000) = some (lv kn nm len, m') ∧ Fr (fun b => b = a2) m m' := by
        unfold G2_valueFor_119
        obtain ⟨b, a, r, rfl⟩ : ∃ b a r, st = b :: a :: r := by
          match st, hlen with
          | [], hlen => simp only [List.length_nil] at hlen; omega
          | [v], hlen => simp only [List.length_cons, List.length_nil] at hlen; omega
          | b :: a :: r, _ => exact ⟨b, a, r, rfl⟩
        have hl2 : ((b :: a :: r).length : Int) = r.length + 2 := by simp; omega
        have e1 : ((b :: a :: r).length : Int) + -1 - 1 = r.length := by omega
        have e2 : ((b :: a :: r).length : Int) + -1 = r.length + 1 := by omega
        have hb' : bM b := h4 b (by simp)
        have ha' : bM a := h4 a (by simp)
        have vb : m a2 ((r.length : Int) + 1) = b := by
          have := h5.1
          simpa using this
        have va : m a2 (r.length : Int) = a := h5.2.1
        rw [if_neg (by omega), e1, e2, gdx_t (by omega), gdx_t (by omega), va, vb, g_jn _ ha' hb', bs1]
        have hs : stp kn nm i (b :: a :: r) = if 1000000000000 < jn (kn i - 10000) a b ∨ jn (kn i - 10000) a b < -1000000000000 then none else some (jn (kn i - 10000) a b :: r) := by
          unfold stp
          unfold bnk at hbn
          rw [if_neg (by omega), if_neg (by omega), if_neg (by omega)]
        simp only
        by_cases c1 : 1000000000000 < jn (kn i - 10000) a b
        · rw [if_pos c1, lv_none (j := i + 1) (by rw [hev, hs, if_pos (Or.inl c1)]) (by omega)]
          exact ⟨m, rfl, Fr.rf⟩
        · rw [if_neg c1]
          by_cases c2 : -1000000000000 ≤ jn (kn i - 10000) a b
          · rw [if_pos c2, gdx_t (by omega)]
            rw [wt_e]
            rw [gd3_t (by omega), gd3_t (by omega), hi1]
            have e3 : (r.length : Int) + 1 = ((jn (kn i - 10000) a b :: r).length : Int) := by simp
            rw [e3]
            obtain ⟨m', q1, q2⟩ := ih n (i + 1) (jn (kn i - 10000) a b :: r) (up m a2 r.length (jn (kn i - 10000) a b)) (by omega) (by omega) (by rw [hev, hs, if_neg (by omega)]) (by intro y hy; rcases List.mem_cons.mp hy with rfl | hy; exact ⟨by omega, by omega⟩; exact h4 y (List.mem_cons_of_mem _ (List.mem_cons_of_mem _ hy))) ⟨up_e, stk_up h5.2.2 (fun j a b => up_i (by omega))⟩ (by rw [up_a d1]; exact h6) (fun j a b => by rw [up_a d2]; exact h7 j a b) (fun j a b => by rw [up_a d3]; exact h8 j a b)
            exact ⟨m', q1, Fr.tr (Fr.up (P := fun b => b = a2) Fr.rf rfl) q2⟩
          · rw [if_neg c2, lv_none (j := i + 1) (by rw [hev, hs, if_pos (Or.inr (by omega))]) (by omega)]
            exact ⟨m, rfl, Fr.rf⟩
      have n15 : ¬ (kn i - 10000 = 15) := by unfold bnk at hbn; omega
      unfold bnk at hbn
      rw [if_pos (by omega), gd3_t (by omega)]
      by_cases c : kn i - 10000 < 18
      · rw [if_pos c, gd3_t (by omega)]
        unfold G2_valueFor_85
        rw [if_neg n15]
        exact main
      · rw [if_neg c, gd3_t (by omega), if_pos (by omega), gd3_t (by omega)]
        unfold G2_valueFor_85
        rw [if_neg n15]
        exact main
theorem g_val {l a1 a2 : Nat} {kn nm : Int → Int} {len : Int} (hL : LX kn len) (hn : ∀ j, 0 ≤ j → j < 6 → bM (nm j)) (d1 : l ≠ a2) (d2 : l + 1 ≠ a2) (d3 : a1 ≠ a2) (h6 : m l 1 = len) (h7 : ∀ j, 0 ≤ j → j < len → m (l + 1) j = kn j) (h8 : ∀ j, 0 ≤ j → j < 6 → m a1 j = nm j) : ∃ m', G2_valueFor m l a1 a2 = some (lv kn nm len, m') ∧ Fr (fun b => b = a2) m m' :=
  g_val5 hL hn d1 d2 d3 len.toNat 1024 0 [] m (by have := hL.1; omega) (by have := hL.1; omega) rfl (fun _ h => nomatch h) trivial h6 h7 h8
end LAW
/-! What the laws say of surfers and waves; the class's surf answers so. -/
def SF (m : Mem) (s T : Nat) (g : Mem) : Prop := (s = 51 ∨ s = 60) ∧ m s 0 = (T : Int) ∧ ∀ c i, 1 ≤ c → c ≤ 3 → m (s + c) i = g c i
def WLX (w : Mem) : Prop := LX (w 17) (w 16 1) ∧ LX (w 19) (w 18 1) ∧ LX (w 21) (w 20 1)
def WW (w : Mem) : Prop := WS w ∧ WC w ∧ WT w ∧ WV w ∧ WLX w
def GB (w g : Mem) : Prop := (∀ i, 0 ≤ i → i < w 1 0 → 1 ≤ g 1 i ∧ g 1 i ≤ 9 ∧ 0 ≤ g 2 i ∧ g 2 i ≤ 100) ∧ ∀ v, 0 ≤ v → v < w 8 1 → 0 ≤ g 3 v ∧ g 3 v < w 0 0
def CX (m : Mem) (s T : Nat) (w g : Mem) : Prop := TX m T w ∧ SF m s T g
theorem CX.fr {m m' : Mem} {s T : Nat} {w g : Mem} (h : CX m s T w g) {P : Nat → Prop} (f : Fr P m m') (hp : ∀ b, (2 ≤ b ∧ b < 46) ∨ (s ≤ b ∧ b < s + 4) → ¬ P b) : CX m' s T w g := by
  obtain ⟨h1, h2, h3, h4⟩ := h
  refine ⟨h1.fr f (fun b a c => hp b (Or.inl ⟨a, c⟩)), h2, ?_, fun c i a b => ?_⟩
  · rw [f s 0 (hp s (Or.inr ⟨by omega, by omega⟩))]; exact h3
  · rw [f (s + c) i (hp (s + c) (Or.inr ⟨by omega, by omega⟩))]; exact h4 c i a b
/-- the rows in which names and parts of a law are laid -/
def PN (s : Nat) : Nat → Prop := fun b => b = s + 4 ∨ b = s + 5
def PL (s : Nat) : Nat → Prop := fun b => s + 4 ≤ b ∧ b ≤ s + 8
theorem PN_PL {s : Nat} : ∀ b, PN s b → PL s b := by intro b h; unfold PN at h; unfold PL; omega
theorem CX.pn {m m' : Mem} {s T : Nat} {w g : Mem} (h : CX m s T w g) (f : Fr (PN s) m m') : CX m' s T w g := h.fr f (by intro b q; have := h.2.1; unfold PN; omega)
theorem CX.pl {m m' : Mem} {s T : Nat} {w g : Mem} (h : CX m s T w g) (f : Fr (PL s) m m') : CX m' s T w g := h.fr f (by intro b q; have := h.2.1; unfold PL; omega)
def nmA (w : Mem) (bd v : Int) : Int → Int := fun j => if j = 2 then bd else if j = 3 then w 12 v else if j = 4 then w 11 v else if j = 5 then w 14 v else 0
def nmC (w : Mem) (bd px v c : Int) : Int → Int := fun j => if j = 0 then fr w c px else if j = 1 then c / w 0 0 - w 0 3 else nmA w bd v j
def nmD (mn : Int) : Int → Int := fun j => if j = 4 then mn else 0
def catchV (w : Mem) (bd px v c : Int) : Int := lv (w 17) (nmC w bd px v c) (w 16 1)
def driftV (w : Mem) (mn : Int) : Int := lv (w 19) (nmD mn) (w 18 1)
def awayV (w : Mem) (bd v : Int) : Int := lv (w 21) (nmA w bd v) (w 20 1)
def clp (lo hi x : Int) : Int := if (if x < hi then x else hi) < lo then lo else (if x < hi then x else hi)
def oddsV (w : Mem) (bd px v c : Int) : Int := if catchV w bd px v c = -9223372036854775808 then (if 0 < 100 - 20 * fr w c px then 100 - 20 * fr w c px else 0) else clp 0 100 (catchV w bd px v c)
def awayN (w : Mem) (bd v : Int) : Int := if awayV w bd v = -9223372036854775808 then 5 else clp 1 30 (awayV w bd v)
def pkX (w : Mem) (mn : Int) : Int := clp 0 (w 0 0 - 1) (w 0 2 + (if driftV w mn = -9223372036854775808 then 0 else clp (-8) 8 (driftV w mn)))
theorem clp_b {lo hi x : Int} (h : lo ≤ hi) : lo ≤ clp lo hi x ∧ clp lo hi x ≤ hi := by unfold clp; split <;> split <;> omega
section SURF
variable {m : Mem} {s T : Nat} {w g : Mem}
theorem g_nA (h : CX m s T w g) {x v : Int} (hx : 0 ≤ x ∧ x < 5) (hv : 0 ≤ v ∧ v < 28) : ∃ m', G6_nameAway m s x v = some m' ∧ Fr (fun b => b = s + 4) m m' ∧ ∀ j, 0 ≤ j → j < 6 → m' (s + 4) j = nmA w (g 1 x) v j := by
  obtain ⟨⟨hT, t1, t2⟩, hs, s1, s2⟩ := h
  unfold G6_nameAway G6_nameAway_0
  simp only [wt_e]
  rw [gdx_t hx, gdx_t hv, gdx_t hv, gdx_t hv]
  simp (disch := omega) only [up_a, s1, Int.toNat_natCast, t2, s2]
  refine ⟨_, rfl, ?_, ?_⟩
  · intro b i hb
    have hb : b ≠ s + 4 := hb
    simp only [up_a hb]
  · intro j h0 h6
    have : j = 0 ∨ j = 1 ∨ j = 2 ∨ j = 3 ∨ j = 4 ∨ j = 5 := by omega
    unfold nmA
    rcases this with rfl | rfl | rfl | rfl | rfl | rfl <;> simp (disch := omega) only [up_e, up_i] <;> rfl
theorem bM_sm {x : Int} (h : -1000000 ≤ x ∧ x ≤ 1000000) : bM x := by unfold bM; omega
theorem nmA_b (hW : WW w) {bd v : Int} (hb : 1 ≤ bd ∧ bd ≤ 9) (hv : 0 ≤ v ∧ v < w 8 1) (j : Int) : -1000000 ≤ nmA w bd v j ∧ nmA w bd v j ≤ 1000000 := by
  obtain ⟨⟨_, hs, _⟩, _, h3, h4, _⟩ := hW
  have := h4 v hv.1 hv.2
  have h5 := h3.2.2 _ this.1.1 this.1.2.1
  unfold nmA
  repeat' split
  all_goals omega
theorem nmC_b (hW : WW w) {bd px v c : Int} (hb : 1 ≤ bd ∧ bd ≤ 9) (hv : 0 ≤ v ∧ v < w 8 1) (hc : 0 ≤ c ∧ c < w 0 0 * w 0 1) (hx : 0 ≤ px ∧ px < w 0 0) (j : Int) : -1000000 ≤ nmC w bd px v c j ∧ nmC w bd px v c j ≤ 1000000 := by
  have h1 := nmA_b hW hb hv j
  obtain ⟨⟨hs, _⟩, _⟩ := hW
  have h2 := fr_b (w := w) (by omega) (by omega) (by omega) hc hx
  have h3 := cell_b (W := w 0 0) (H := w 0 1) (by omega) (by omega) hc
  unfold nmC
  repeat' split
  all_goals omega
theorem g_nC (h : CX m s T w g) (hW : WW w) {x v c : Int} (hx : 0 ≤ x ∧ x < 5) (hv : 0 ≤ v ∧ v < w 8 1) (hc : 0 ≤ c ∧ c < w 0 0 * w 0 1) (hp : 0 ≤ g 3 v ∧ g 3 v < w 0 0) : ∃ m', G6_nameCatch m s x v c = some m' ∧ Fr (fun b => b = s + 4) m m' ∧ ∀ j, 0 ≤ j → j < 6 → m' (s + 4) j = nmC w (g 1 x) (g 3 v) v c j := by
  have hw := hW.1
  unfold WS at hw
  obtain ⟨m1, e1, f1, v1⟩ := g_nA h hx (v := v) (by omega)
  have hs' := h.2.1
  have hT' := h.1.1
  have h1 : CX m1 s T w g := h.fr f1 (by intro b q; have := h.2.1; show ¬ b = s + 4; omega)
  have far1 := g_far h1.1 (by omega) (by omega) (by omega) hc hp
  have hcb := cell_b (W := w 0 0) (H := w 0 1) (by omega) (by omega) hc
  unfold G6_nameCatch G6_nameCatch_0
  rw [e1, bs1, gdx_t (by omega), h1.2.2.1, Int.toNat_natCast, h1.2.2.2 3 v (by omega) (by omega), far1, bs1]
  rw [wt_e]
  simp only
  have h2 : CX (up m1 (s + 4) 0 (fr w c (g 3 v))) s T w g := h1.fr (Fr.up (P := fun b => b = s + 4) Fr.rf rfl) (by intro b q; have := h.2.1; show ¬ b = s + 4; omega)
  rw [h2.2.2.1, Int.toNat_natCast, g_row h2.1 (by omega) hc.1, bs1]
  simp only
  rw [h2.2.2.1, Int.toNat_natCast, h2.1.2.1, gd3_t (by omega), wt_e]
  refine ⟨_, rfl, ?_, ?_⟩
  · intro b i hb
    have hb' : b ≠ s + 4 := hb
    rw [up_a hb', up_a hb']
    exact f1 b i hb
  · intro j j0 j6
    unfold nmC
    by_cases a0 : j = 0
    · subst a0
      rw [up_i (by omega), up_e]; rfl
    · by_cases a1 : j = 1
      · subst a1
        rw [up_e]; rfl
      · rw [up_i a1, up_i a0, v1 j j0 j6, if_neg a0, if_neg a1]
theorem g_catch (h : CX m s T w g) (hW : WW w) {x v c : Int} (hx : 0 ≤ x ∧ x < 5) (hb : 1 ≤ g 1 x ∧ g 1 x ≤ 9) (hv : 0 ≤ v ∧ v < w 8 1) (hc : 0 ≤ c ∧ c < w 0 0 * w 0 1) (hp : 0 ≤ g 3 v ∧ g 3 v < w 0 0) : ∃ m1 m', G6_nameCatch m s x v c = some m1 ∧ m1 s 0 = (T : Int) ∧ G2_valueFor m1 (T + 16) (s + 4) (s + 5) = some (catchV w (g 1 x) (g 3 v) v c, m') ∧ Fr (PN s) m m' := by
  obtain ⟨m1, e1, f1, v1⟩ := g_nC h hW hx hv hc hp
  have h1 : CX m1 s T w g := h.fr f1 (by intro b q; have := h.2.1; show ¬ b = s + 4; omega)
  have hT := h.1.1
  have hs := h.2.1
  obtain ⟨m', e2, f2⟩ := g_val (m := m1) (l := T + 16) (a1 := s + 4) (a2 := s + 5) hW.2.2.2.2.1 (nm := nmC w (g 1 x) (g 3 v) v c) (fun j _ _ => bM_sm (nmC_b hW hb hv hc hp j)) (by omega) (by omega) (by omega) (h1.1.2.2 16 1 (by omega)) (fun j _ _ => h1.1.2.2 17 j (by omega)) v1
  exact ⟨m1, m', e1, h1.2.2.1, e2, (f1.mono (fun b q => Or.inl q)).tr (f2.mono (fun b q => Or.inr q))⟩
theorem g_catchV (h : CX m s T w g) (hW : WW w) {x v c : Int} (hx : 0 ≤ x ∧ x < 5) (hb : 1 ≤ g 1 x ∧ g 1 x ≤ 9) (hv : 0 ≤ v ∧ v < w 8 1) (hc : 0 ≤ c ∧ c < w 0 0 * w 0 1) (hp : 0 ≤ g 3 v ∧ g 3 v < w 0 0) : ∃ m', G6_catchValue m s x v c = some (catchV w (g 1 x) (g 3 v) v c, m') ∧ Fr (PN s) m m' := by
  obtain ⟨m1, m', e1, e0, e2, f⟩ := g_catch h hW hx hb hv hc hp
  unfold G6_catchValue G6_catchValue_0
  rw [e1, bs1, e0, Int.toNat_natCast, e2, bs1]
  exact ⟨m', rfl, f⟩
theorem g_farOf (h : CX m s T w g) (hW : WW w) {v c : Int} (hv : 0 ≤ v ∧ v < w 8 1) (hc : 0 ≤ c ∧ c < w 0 0 * w 0 1) (hp : 0 ≤ g 3 v ∧ g 3 v < w 0 0) : G6_farOf m s c v = some (fr w c (g 3 v), m) := by
  have hw := hW.1
  unfold WS at hw
  unfold G6_farOf G6_farOf_0
  rw [gdx_t (by omega), h.2.2.1, Int.toNat_natCast, h.2.2.2 3 v (by omega) (by omega), g_far h.1 (by omega) (by omega) (by omega) hc hp, bs1]
theorem odds_b (hW : WW w) {bd px v c : Int} (hc : 0 ≤ c ∧ c < w 0 0 * w 0 1) (hx : 0 ≤ px ∧ px < w 0 0) : 0 ≤ oddsV w bd px v c ∧ oddsV w bd px v c ≤ 100 := by
  have hw := hW.1
  unfold WS at hw
  have h2 := fr_b (w := w) (by omega) (by omega) (by omega) hc hx
  unfold oddsV
  split
  · split <;> omega
  · exact clp_b (by omega)
theorem g_odds (h : CX m s T w g) (hW : WW w) {x v c : Int} (hx : 0 ≤ x ∧ x < 5) (hb : 1 ≤ g 1 x ∧ g 1 x ≤ 9) (hv : 0 ≤ v ∧ v < w 8 1) (hc : 0 ≤ c ∧ c < w 0 0 * w 0 1) (hp : 0 ≤ g 3 v ∧ g 3 v < w 0 0) : ∃ m', G6_oddsAt m s x v c = some (oddsV w (g 1 x) (g 3 v) v c, m') ∧ Fr (PN s) m m' := by
  have hw := hW.1
  unfold WS at hw
  obtain ⟨m1, m', e1, e0, e2, f⟩ := g_catch h hW hx hb hv hc hp
  have h2 := h.pn f
  have h3 := fr_b (w := w) (by omega) (by omega) (by omega) hc hp
  have h4 := odds_b hW (bd := g 1 x) (v := v) hc hp
  unfold G6_oddsAt G6_oddsAt_0
  rw [e1, bs1, e0, Int.toNat_natCast, e2, bs1]
  unfold oddsV at h4 ⊢
  simp only at h4 ⊢
  refine ⟨m', ?_, f⟩
  by_cases c1 : catchV w (g 1 x) (g 3 v) v c = -9223372036854775808
  · simp only [if_pos c1] at h4 ⊢
    rw [g_farOf h2 hW hv hc hp, bs1]
    simp only
    rw [gd3_t (by omega), gd3_t (by omega)]
  · simp only [if_neg c1] at h4 ⊢
    unfold clp at h4 ⊢
    rw [gd3_t (by omega)]
theorem g_away0 (h : CX m s T w g) (hW : WW w) {x v : Int} (hx : 0 ≤ x ∧ x < 5) (hb : 1 ≤ g 1 x ∧ g 1 x ≤ 9) (hv : 0 ≤ v ∧ v < w 8 1) : ∃ m1 m', G6_nameAway m s x v = some m1 ∧ m1 s 0 = (T : Int) ∧ G2_valueFor m1 (T + 20) (s + 4) (s + 5) = some (awayV w (g 1 x) v, m') ∧ Fr (PN s) m m' := by
  have hw := hW.1
  unfold WS at hw
  obtain ⟨m1, e1, f1, v1⟩ := g_nA h hx (v := v) (by omega)
  have h1 : CX m1 s T w g := h.fr f1 (by intro b q; have := h.2.1; show ¬ b = s + 4; omega)
  have hT := h.1.1
  have hs := h.2.1
  obtain ⟨m', e2, f2⟩ := g_val (m := m1) (l := T + 20) (a1 := s + 4) (a2 := s + 5) hW.2.2.2.2.2.2 (nm := nmA w (g 1 x) v) (fun j _ _ => bM_sm (nmA_b hW hb hv j)) (by omega) (by omega) (by omega) (h1.1.2.2 20 1 (by omega)) (fun j _ _ => h1.1.2.2 21 j (by omega)) v1
  exact ⟨m1, m', e1, h1.2.2.1, e2, (f1.mono (fun b q => Or.inl q)).tr (f2.mono (fun b q => Or.inr q))⟩
theorem g_awayV (h : CX m s T w g) (hW : WW w) {x v : Int} (hx : 0 ≤ x ∧ x < 5) (hb : 1 ≤ g 1 x ∧ g 1 x ≤ 9) (hv : 0 ≤ v ∧ v < w 8 1) : ∃ m', G6_awayValue m s x v = some (awayV w (g 1 x) v, m') ∧ Fr (PN s) m m' := by
  obtain ⟨m1, m', e1, e0, e2, f⟩ := g_away0 h hW hx hb hv
  unfold G6_awayValue G6_awayValue_0
  rw [e1, bs1, e0, Int.toNat_natCast, e2, bs1]
  exact ⟨m', rfl, f⟩
theorem away_b (w : Mem) (bd v : Int) : 1 ≤ awayN w bd v ∧ awayN w bd v ≤ 30 := by
  unfold awayN
  split
  · omega
  · exact clp_b (by omega)
theorem g_away (h : CX m s T w g) (hW : WW w) {x v : Int} (hx : 0 ≤ x ∧ x < 5) (hb : 1 ≤ g 1 x ∧ g 1 x ≤ 9) (hv : 0 ≤ v ∧ v < w 8 1) : ∃ m', G6_awayFor m s x v = some (awayN w (g 1 x) v, m') ∧ Fr (PN s) m m' := by
  obtain ⟨m1, m', e1, e0, e2, f⟩ := g_away0 h hW hx hb hv
  have h4 := away_b w (g 1 x) v
  unfold G6_awayFor G6_awayFor_0
  rw [e1, bs1, e0, Int.toNat_natCast, e2, bs1]
  refine ⟨m', ?_, f⟩
  unfold awayN at h4 ⊢
  by_cases c1 : awayV w (g 1 x) v = -9223372036854775808
  · simp only [if_pos c1]
  · simp only [if_neg c1] at h4 ⊢
    unfold clp at h4 ⊢
    rw [gd3_t (by omega)]
theorem g_drift2 (hW : WW w) {mn : Int} (hm : 0 ≤ mn ∧ mn ≤ 1000) : ∀ (d n : Nat) (i : Int) (m : Mem), 0 ≤ i → 6 - i = d → d < n → CX m s T w g → (∀ j, 0 ≤ j → j < i → m (s + 4) j = 0) → ∃ m', G6_driftValue_2 n m s mn i = some (driftV w mn, m') ∧ Fr (PN s) m m' := by
  intro d
  induction d with
  | zero =>
    intro n i m a1 a2 a3 h hz
    obtain ⟨n, rfl⟩ : ∃ k, n = k + 1 := ⟨n - 1, by omega⟩
    rw [G6_driftValue_2, if_pos (by omega), wt_e]
    have hT := h.1.1
    have hs := h.2.1
    have h1 : CX (up m (s + 4) 4 mn) s T w g := h.fr (Fr.up (P := fun b => b = s + 4) Fr.rf rfl) (by intro b q; show ¬ b = s + 4; omega)
    obtain ⟨m', e2, f2⟩ := g_val (m := up m (s + 4) 4 mn) (l := T + 18) (a1 := s + 4) (a2 := s + 5) hW.2.2.2.2.2.1 (nm := nmD mn) (fun j _ _ => bM_sm (by unfold nmD; split <;> omega)) (by omega) (by omega) (by omega) (h1.1.2.2 18 1 (by omega)) (fun j _ _ => h1.1.2.2 19 j (by omega)) (fun j j0 j6 => by
      unfold nmD
      by_cases c : j = 4
      · subst c; rw [up_e]; rfl
      · rw [up_i c, if_neg c]; exact hz j j0 (by omega))
    rw [h1.2.2.1, Int.toNat_natCast, e2, bs1]
    exact ⟨m', rfl, ((Fr.up (P := fun b => b = s + 4) Fr.rf rfl).mono (fun b q => Or.inl q)).tr (f2.mono (fun b q => Or.inr q))⟩
  | succ d ih =>
    intro n i m a1 a2 a3 h hz
    obtain ⟨n, rfl⟩ : ∃ k, n = k + 1 := ⟨n - 1, by omega⟩
    have hs := h.2.1
    rw [G6_driftValue_2, if_neg (by omega), gdx_t (by omega), wt_e, gd3_t (by omega)]
    have f : Fr (fun b => b = s + 4) m (up m (s + 4) i 0) := Fr.up Fr.rf rfl
    obtain ⟨m', e, f2⟩ := ih n (i + 1) (up m (s + 4) i 0) (by omega) (by omega) (by omega) (h.fr f (by intro b q; show ¬ b = s + 4; omega)) (fun j j0 j1 => by
      by_cases c : j = i
      · subst c; rw [up_e]
      · rw [up_i c]; exact hz j j0 (by omega))
    exact ⟨m', e, (f.mono (fun b q => Or.inl q)).tr f2⟩
theorem g_drift (h : CX m s T w g) (hW : WW w) {mn : Int} (hm : 0 ≤ mn ∧ mn ≤ 1000) : ∃ m', G6_driftValue m s mn = some (driftV w mn, m') ∧ Fr (PN s) m m' :=
  g_drift2 hW hm 6 1024 0 m (by omega) (by omega) (by omega) h (fun j a b => by omega)
theorem pkX_b (hW : WW w) (mn : Int) : 0 ≤ pkX w mn ∧ pkX w mn < w 0 0 := by
  have hw := hW.1
  unfold WS at hw
  unfold pkX
  have := clp_b (lo := 0) (hi := w 0 0 - 1) (x := w 0 2 + (if driftV w mn = -9223372036854775808 then 0 else clp (-8) 8 (driftV w mn))) (by omega)
  omega
theorem g_pk39 (h : CX m s T w g) (hW : WW w) {t0 : Int} (ht : -8 ≤ t0 ∧ t0 ≤ 8) : G6_peakXAt_39 m s t0 (w 0 2) = some (clp 0 (w 0 0 - 1) (w 0 2 + t0), m) := by
  have hw := hW.1
  unfold WS at hw
  have := clp_b (lo := 0) (hi := w 0 0 - 1) (x := w 0 2 + t0) (by omega)
  unfold G6_peakXAt_39
  simp only [h.2.2.1, Int.toNat_natCast, h.1.2.1]
  unfold clp at this ⊢
  rw [gd6_t (by omega), gd3_t (by omega), gd3_t (by omega), gd6_t (by split <;> omega), gd6_t (by omega), gd3_t (by omega), gd3_t (by omega), gd3_t (by omega)]
theorem g_pkX (h : CX m s T w g) (hW : WW w) {mn : Int} (hm : 0 ≤ mn ∧ mn ≤ 1000) : ∃ m', G6_peakXAt m s mn = some (pkX w mn, m') ∧ Fr (PN s) m m' := by
  obtain ⟨m', e, f⟩ := g_drift h hW hm
  have h1 := h.pn f
  unfold G6_peakXAt G6_peakXAt_0
  rw [e, bs1]
  refine ⟨m', ?_, f⟩
  unfold pkX
  simp only [h1.2.2.1, Int.toNat_natCast, h1.1.2.1]
  by_cases c : driftV w mn = -9223372036854775808
  · rw [if_pos c, if_pos c, g_pk39 h1 hW (by omega)]
  · rw [if_neg c, if_neg c]
    have := g_pk39 h1 hW (t0 := clp (-8) 8 (driftV w mn)) (clp_b (by omega))
    unfold clp at this ⊢
    exact this
def worthV (w : Mem) (bd px v c : Int) : Int := oddsV w bd px v c * w 12 v
theorem worth_b (hW : WW w) {bd px v c : Int} (hv : 0 ≤ v ∧ v < w 8 1) (hc : 0 ≤ c ∧ c < w 0 0 * w 0 1) (hx : 0 ≤ px ∧ px < w 0 0) : 0 ≤ worthV w bd px v c ∧ worthV w bd px v c ≤ 900 := by
  have h1 := odds_b hW (bd := bd) (v := v) hc hx
  have h2 := (hW.2.2.2.1 v hv.1 hv.2).2.1
  unfold worthV
  have h3 := Int.mul_nonneg h1.1 (show 0 ≤ w 12 v by omega)
  have h4 : oddsV w bd px v c * w 12 v ≤ 100 * 9 := Int.mul_le_mul h1.2 (by omega) (by omega) (by omega)
  omega
theorem g_worth (h : CX m s T w g) (hW : WW w) {x v c : Int} (hx : 0 ≤ x ∧ x < 5) (hb : 1 ≤ g 1 x ∧ g 1 x ≤ 9) (hv : 0 ≤ v ∧ v < w 8 1) (hc : 0 ≤ c ∧ c < w 0 0 * w 0 1) (hp : 0 ≤ g 3 v ∧ g 3 v < w 0 0) : ∃ m', G6_worthAt m s x v c = some (worthV w (g 1 x) (g 3 v) v c, m') ∧ Fr (PN s) m m' := by
  have hw := hW.1
  unfold WS at hw
  obtain ⟨m', e, f⟩ := g_odds h hW hx hb hv hc hp
  have h1 := h.pn f
  have h2 := worth_b hW (bd := g 1 x) hv hc hp
  unfold G6_worthAt G6_worthAt_0
  rw [e, bs1, gdx_t (by omega)]
  simp only [h1.2.2.1, Int.toNat_natCast, h1.1.2.2 12 v (by omega)]
  unfold worthV at h2 ⊢
  rw [gd3_t (by omega)]
  exact ⟨m', rfl, f⟩
theorem smd_s (f : Int → Int) (d : Nat) (i : Int) : smd f (d + 1) i = f i + smd f d (i + 1) := rfl
def seatV (w g : Mem) (x c : Int) (i : Int) : Int := smd (fun v => worthV w (g 1 x) (g 3 v) v c) (w 8 1 - i).toNat i
theorem g_seat6 (hW : WW w) {x c : Int} (hx : 0 ≤ x ∧ x < 5) (hb : 1 ≤ g 1 x ∧ g 1 x ≤ 9) (hc : 0 ≤ c ∧ c < w 0 0 * w 0 1) (hp : ∀ v, 0 ≤ v → v < w 8 1 → 0 ≤ g 3 v ∧ g 3 v < w 0 0) : ∀ (d n : Nat) (i a : Int) (m : Mem), 0 ≤ i → w 8 1 - i = d → d < n → 0 ≤ a → a ≤ 900 * i → CX m s T w g → ∃ m', G6_seatFrom_6 n m s x c a i = some (a + smd (fun v => worthV w (g 1 x) (g 3 v) v c) d i, m') ∧ Fr (PN s) m m' := by
  have hw := hW.1
  unfold WS at hw
  intro d
  induction d with
  | zero =>
    intro n i a m a1 a2 a3 a4 a5 h
    obtain ⟨n, rfl⟩ : ∃ k, n = k + 1 := ⟨n - 1, by omega⟩
    rw [G6_seatFrom_6, h.2.2.1, Int.toNat_natCast, h.1.2.2 8 1 (by omega), if_pos (by omega)]
    exact ⟨m, by unfold smd; rw [Int.add_zero], Fr.rf⟩
  | succ d ih =>
    intro n i a m a1 a2 a3 a4 a5 h
    obtain ⟨n, rfl⟩ : ∃ k, n = k + 1 := ⟨n - 1, by omega⟩
    obtain ⟨m1, e1, f1⟩ := g_worth h hW hx hb (v := i) (by omega) hc (hp i (by omega) (by omega))
    have hwb := worth_b hW (bd := g 1 x) (v := i) (by omega) hc (hp i (by omega) (by omega))
    rw [G6_seatFrom_6, h.2.2.1, Int.toNat_natCast, h.1.2.2 8 1 (by omega), if_neg (by omega), e1, bs1, gd3_t (by omega), gd3_t (by omega)]
    obtain ⟨m', e, f⟩ := ih n (i + 1) (a + worthV w (g 1 x) (g 3 i) i c) m1 (by omega) (by omega) (by omega) (by omega) (by omega) (h.pn f1)
    refine ⟨m', ?_, f1.tr f⟩
    simp only
    rw [e, smd_s, Int.add_assoc]
theorem g_seat (h : CX m s T w g) (hW : WW w) {x c i : Int} (hx : 0 ≤ x ∧ x < 5) (hb : 1 ≤ g 1 x ∧ g 1 x ≤ 9) (hc : 0 ≤ c ∧ c < w 0 0 * w 0 1) (hp : ∀ v, 0 ≤ v → v < w 8 1 → 0 ≤ g 3 v ∧ g 3 v < w 0 0) (hi : 0 ≤ i ∧ i ≤ w 8 1) : ∃ m', G6_seatFrom m s x c i = some (seatV w g x c i, m') ∧ Fr (PN s) m m' := by
  have hw := hW.1
  unfold WS at hw
  obtain ⟨m', e, f⟩ := g_seat6 hW hx hb hc hp (w 8 1 - i).toNat 1024 i 0 m hi.1 (by omega) (by omega) (by omega) (by omega) h
  exact ⟨m', by rw [Int.zero_add] at e; exact e, f⟩
theorem smd_b {f : Int → Int} {B : Int} : ∀ (d : Nat) (i : Int), (∀ v, i ≤ v → v < i + d → 0 ≤ f v ∧ f v ≤ B) → 0 ≤ smd f d i ∧ smd f d i ≤ B * d := by
  intro d
  induction d with
  | zero => intro i _; unfold smd; simp
  | succ d ih =>
    intro i h
    have h1 := h i (by omega) (by omega)
    have h2 := ih (i + 1) (fun v a b => h v (by omega) (by omega))
    unfold smd
    have e : B * ((d + 1 : Nat) : Int) = B * d + B := by
      rw [Int.natCast_add, Int.mul_add]; simp
    omega
theorem seat_b (hW : WW w) {x c i : Int} (hc : 0 ≤ c ∧ c < w 0 0 * w 0 1) (hp : ∀ v, 0 ≤ v → v < w 8 1 → 0 ≤ g 3 v ∧ g 3 v < w 0 0) (hi : 0 ≤ i ∧ i ≤ w 8 1) : 0 ≤ seatV w g x c i ∧ seatV w g x c i ≤ 25200 := by
  have hw := hW.1
  unfold WS at hw
  have := smd_b (f := fun v => worthV w (g 1 x) (g 3 v) v c) (B := 900) (w 8 1 - i).toNat i (fun v a b => worth_b hW (bd := g 1 x) (by omega) hc (hp v (by omega) (by omega)))
  unfold seatV
  omega
end SURF
/-! Numbers by bits: what is drawn, shifted, cut. -/
theorem bv_nn {n : Nat} (x : BitVec (n + 1)) (h : x.toNat < 2 ^ n) : x.toInt = (x.toNat : Int) := by
  rw [BitVec.toInt_eq_toNat_cond, if_pos]
  rw [Nat.pow_succ]; omega
theorem z6_bv {X : Int} (h : 0 ≤ X ∧ X < 9223372036854775808) : (Z6 X).toBitVec.toNat = X.toNat := by
  have e : (Z6 X).toBitVec = BitVec.ofInt 64 X := rfl
  rw [e, BitVec.toNat_ofInt]
  have : X % ((2 ^ 64 : Nat) : Int) = X := Int.emod_eq_of_lt h.1 (by have := h.2; omega)
  rw [this]
theorem b6an_m {X : Int} (h : 0 ≤ X ∧ X < 9223372036854775808) : b6an X 2147483647 = X % 2147483648 := by
  unfold b6an
  have e1 : (Z6 X &&& Z6 2147483647).toBitVec.toNat = X.toNat % 2 ^ 31 := by
    rw [Int64.toBitVec_and, BitVec.toNat_and, z6_bv h, z6_bv (by omega)]
    exact Nat.and_two_pow_sub_one_eq_mod _ 31
  have e2 : (Z6 X &&& Z6 2147483647).toInt = ((Z6 X &&& Z6 2147483647).toBitVec.toNat : Int) := by
    refine bv_nn (n := 63) _ ?_
    rw [e1]
    have := Nat.mod_lt X.toNat (show 2 ^ 31 > 0 by decide)
    omega
  rw [e2, e1]
  omega
theorem b3sr_d {A : Int} (ha : r3 A) {S : Int} {k : Nat} (hk : (Z3 S).toBitVec.smod 32 = BitVec.ofNat 32 k) (hk2 : k < 32) : b3sr A S = A / (2 ^ k : Nat) := by
  unfold b3sr
  have e : (Z3 A >>> Z3 S).toBitVec = (Z3 A).toBitVec.sshiftRight k := by
    show BitVec.sshiftRight' (Z3 A).toBitVec ((Z3 S).toBitVec.smod 32) = _
    rw [hk, BitVec.sshiftRight_eq']
    congr 1
    rw [BitVec.toNat_ofNat]
    omega
  show ((Z3 A >>> Z3 S).toBitVec).toInt = _
  rw [e, BitVec.toInt_sshiftRight, Int.shiftRight_eq_div_pow]
  have : (Z3 A).toBitVec.toInt = A := z3_to ha
  rw [this]
def nxt (x : Int) : Int := (x * 1103515245 + 12345) % 2147483648
def hun (y : Int) : Int := y / 65536 % 100
theorem nxt_b (x : Int) : 0 ≤ nxt x ∧ nxt x < 2147483648 := by unfold nxt; omega
theorem g_draw {m : Mem} {a : Nat} (h : 0 ≤ m a 2 ∧ m a 2 < 2147483648) : G4_drawHundredth m a = some (hun (nxt (m a 2)), up m a 2 (nxt (m a 2))) := by
  unfold G4_drawHundredth G4_drawHundredth_0
  have e1 : b6an (m a 2 * 1103515245 + 12345) 2147483647 = nxt (m a 2) := b6an_m (by omega)
  have hb := nxt_b (m a 2)
  have e2 : b3an 16 31 = 16 := by decide
  rw [e1, gd3_t (by omega), wt_e, up_e, e2]
  have e3 : b3sr (nxt (m a 2)) 16 = nxt (m a 2) / 65536 := b3sr_d (k := 16) ⟨by omega, by omega⟩ (by decide) (by decide)
  rw [e3, gdd_t (by omega)]
  rfl
/-! Who is in the order: a row by keys, the last at the head. -/
def insR (key : Int → Int) (x : Int) : List Int → List Int
  | [] => [x]
  | y :: r => if key y ≤ key x then x :: y :: r else y :: insR key x r
def lud (ok : Int → Bool) (key : Int → Int) : Nat → Int → List Int → List Int
  | 0, _, rl => rl
  | d + 1, i, rl => if ok i = true then lud ok key d (i + 1) (insR key i rl) else lud ok key d (i + 1) rl
def stkO (f : Int → Int) (o : Int) : List Int → Prop
  | [] => True
  | v :: r => f (o + r.length) = v ∧ stkO f o r
theorem stkO_app {f : Int → Int} {o : Int} : ∀ {l1 l2 : List Int}, stkO f (o + l2.length) l1 → stkO f o l2 → stkO f o (l1 ++ l2) := by
  intro l1
  induction l1 with
  | nil => intro l2 _ h; exact h
  | cons v r ih =>
    intro l2 h1 h2
    refine ⟨?_, ih h1.2 h2⟩
    rw [← h1.1]
    congr 1
    simp; omega
theorem stkO_up {f g : Int → Int} {o : Int} : ∀ {st : List Int}, stkO f o st → (∀ j : Int, o ≤ j → j < o + st.length → g j = f j) → stkO g o st := by
  intro st
  induction st with
  | nil => intros; trivial
  | cons v r ih =>
    intro h1 h2
    have hl : ((v :: r).length : Int) = r.length + 1 := by simp
    exact ⟨by rw [h2 _ (by omega) (by omega)]; exact h1.1, ih h1.2 (fun j a b => h2 j a (by omega))⟩
theorem insR_len (key : Int → Int) (x : Int) : ∀ l : List Int, (insR key x l).length = l.length + 1 := by
  intro l
  induction l with
  | nil => rfl
  | cons y r ih => unfold insR; split <;> simp [ih]
theorem insR_mem {key : Int → Int} {x e : Int} : ∀ {l : List Int}, e ∈ insR key x l ↔ e = x ∨ e ∈ l := by
  intro l
  induction l with
  | nil => unfold insR; simp
  | cons y r ih =>
    unfold insR
    split
    · simp
    · rw [List.mem_cons, ih, List.mem_cons]
      constructor
      · rintro (h | h | h)
        · exact Or.inr (Or.inl h)
        · exact Or.inl h
        · exact Or.inr (Or.inr h)
      · rintro (h | h | h)
        · exact Or.inr (Or.inl h)
        · exact Or.inl h
        · exact Or.inr (Or.inr h)
theorem insR_key {k1 k2 : Int → Int} {x : Int} : ∀ {l : List Int}, (∀ e ∈ l, k1 e ≤ k1 x ↔ k2 e ≤ k2 x) → insR k1 x l = insR k2 x l := by
  intro l
  induction l with
  | nil => intro _; rfl
  | cons y r ih =>
    intro h
    have h1 := h y (by simp)
    unfold insR
    by_cases c : k1 y ≤ k1 x
    · rw [if_pos c, if_pos (h1.mp c)]
    · rw [if_neg c, if_neg (fun q => c (h1.mpr q)), ih (fun e he => h e (List.mem_cons_of_mem _ he))]
section LINE
variable {s : Nat} {key : Int → Int}
theorem g_put2 {x : Int} (hx : 0 ≤ x ∧ x < 5) : ∀ (lo hi : List Int) (n : Nat) (m : Mem), lo.length < n → lo.length + hi.length < 5 → (∀ e ∈ lo, 0 ≤ e ∧ e < 5 ∧ m (s + 8) e = key e) → m (s + 8) x = key x → stkO (m (s + 6)) 0 lo → stkO (m (s + 6)) (lo.length + 1) hi → ∃ m', G6_putInLine_2 n m s x lo.length = some m' ∧ Fr (fun b => b = s + 6) m m' ∧ stkO (m' (s + 6)) 0 (hi ++ insR key x lo) := by
  intro lo
  have fin : ∀ (lo hi : List Int) (m : Mem), lo.length + hi.length < 5 → stkO (m (s + 6)) 0 lo → stkO (m (s + 6)) (lo.length + 1) hi → ∃ m', G6_putInLine_48 m s x lo.length = some m' ∧ Fr (fun b => b = s + 6) m m' ∧ stkO (m' (s + 6)) 0 (hi ++ x :: lo) := by
    intro lo hi m h1 h2 h3
    unfold G6_putInLine_48
    rw [gdx_t (by omega), wt_e]
    refine ⟨_, rfl, Fr.up Fr.rf rfl, stkO_app ?_ ⟨?_, ?_⟩⟩
    · have : (0 : Int) + ((x :: lo).length : Int) = lo.length + 1 := by simp
      rw [this]
      exact stkO_up h3 (fun j a b => up_i (by omega))
    · rw [Int.zero_add]; exact up_e
    · exact stkO_up h2 (fun j a b => up_i (by omega))
  induction lo with
  | nil =>
    intro hi n m a1 a2 a3 a4 a5 a6
    obtain ⟨n, rfl⟩ : ∃ k, n = k + 1 := ⟨n - 1, by omega⟩
    rw [G6_putInLine_2, if_pos (by simp)]
    exact fin [] hi m a2 a5 a6
  | cons y r ih =>
    intro hi n m a1 a2 a3 a4 a5 a6
    obtain ⟨n, rfl⟩ : ∃ k, n = k + 1 := ⟨n - 1, by omega⟩
    have hl : ((y :: r).length : Int) = r.length + 1 := by simp
    have hl' : (y :: r).length = r.length + 1 := by simp
    have hy := a3 y (by simp)
    have e1 : m (s + 6) (((y :: r).length : Int) - 1) = y := by
      have := a5.1
      rw [Int.zero_add] at this
      rw [hl, Int.add_sub_cancel]; exact this
    rw [G6_putInLine_2, if_neg (by omega), gdx_t (by omega), e1, gdx_t (by omega), gdx_t hx, hy.2.2, a4]
    unfold insR
    by_cases c : key y ≤ key x
    · rw [if_pos c, if_pos c]
      exact fin (y :: r) hi m a2 a5 a6
    · rw [if_neg c, if_neg c, gdx_t (by omega), gdx_t (by omega), wt_e, gd3_t (by omega)]
      have e2 : ((y :: r).length : Int) + -1 = r.length := by omega
      rw [e2]
      obtain ⟨m', q1, q2, q3⟩ := ih (hi ++ [y]) n (up m (s + 6) ((y :: r).length : Int) y) (by omega) (by simp; omega) (fun e he => by
        have := a3 e (List.mem_cons_of_mem _ he)
        exact ⟨this.1, this.2.1, by rw [up_a (by omega)]; exact this.2.2⟩) (by rw [up_a (by omega)]; exact a4) (stkO_up a5.2 (fun j a b => up_i (by omega))) (stkO_app (by
          have : (r.length : Int) + 1 + (([y] : List Int).length : Int) = ((y :: r).length : Int) + 1 := by simp
          rw [this]
          exact stkO_up a6 (fun j a b => up_i (by omega))) ⟨by
            have : (r.length : Int) + 1 + (([] : List Int).length : Int) = ((y :: r).length : Int) := by simp
            rw [this]; exact up_e, trivial⟩)
      refine ⟨m', q1, Fr.tr (Fr.up Fr.rf rfl) q2, ?_⟩
      rw [List.append_assoc] at q3
      exact q3
theorem g_put {x : Int} {m : Mem} (hx : 0 ≤ x ∧ x < 5) (lo : List Int) (h1 : lo.length < 5) (h2 : ∀ e ∈ lo, 0 ≤ e ∧ e < 5 ∧ m (s + 8) e = key e) (h3 : m (s + 8) x = key x) (h4 : stkO (m (s + 6)) 0 lo) : ∃ m', G6_putInLine m s x lo.length = some m' ∧ Fr (fun b => b = s + 6) m m' ∧ stkO (m' (s + 6)) 0 (insR key x lo) :=
  g_put2 hx lo [] 1024 m (by omega) (by simpa using h1) h2 h3 h4 trivial
end LINE
/-! A wave comes: who is in the order, who rides, who crosses; the class does so. -/
def NX (m : Mem) (a : Nat) (n : Mem) : Prop := (a = 69 ∨ a = 76 ∨ a = 83) ∧ (∀ i, m a i = n 0 i) ∧ ∀ c i, c ≤ 6 → m (a + c) i = n c i
theorem NX.fr {m m' : Mem} {a : Nat} {n : Mem} (h : NX m a n) {P : Nat → Prop} (f : Fr P m m') (hp : ∀ b, a ≤ b → b ≤ a + 6 → ¬ P b) : NX m' a n := by
  obtain ⟨h1, h2, h3⟩ := h
  refine ⟨h1, fun i => ?_, fun c i hc => ?_⟩
  · rw [f a i (hp a (by omega) (by omega))]; exact h2 i
  · rw [f (a + c) i (hp (a + c) (by omega) (by omega))]; exact h3 c i hc
theorem NX.pl {m m' : Mem} {a s : Nat} {n : Mem} (h : NX m a n) (hs : s = 51 ∨ s = 60) (f : Fr (PL s) m m') : NX m' a n := h.fr f (by intro b x y; have := h.1; unfold PL; omega)
theorem NX.up0 {m : Mem} {a : Nat} {n : Mem} (h : NX m a n) (i v : Int) : NX (up m a i v) a (up n 0 i v) := by
  obtain ⟨h1, h2, h3⟩ := h
  refine ⟨h1, fun j => ?_, fun c j hc => ?_⟩
  · by_cases e : j = i
    · subst e; rw [up_e, up_e]
    · rw [up_i e, up_i e]; exact h2 j
  · by_cases hc0 : c = 0
    · subst hc0
      by_cases e : j = i
      · subst e; rw [Nat.add_zero, up_e, up_e]
      · rw [Nat.add_zero, up_i e, up_i e]; exact h2 j
    · rw [up_a (by omega), up_a hc0]; exact h3 c j hc
theorem NX.up {m : Mem} {a : Nat} {n : Mem} (h : NX m a n) (c : Nat) (hc0 : 1 ≤ c) (i v : Int) : NX (up m (a + c) i v) a (up n c i v) := by
  obtain ⟨h1, h2, h3⟩ := h
  refine ⟨h1, fun j => ?_, fun d j hd => ?_⟩
  · rw [up_a (by omega), up_a (by omega)]; exact h2 j
  · by_cases e : d = c
    · subst e
      by_cases e : j = i
      · subst e; rw [up_e, up_e]
      · rw [up_i e, up_i e]; exact h3 d j hd
    · rw [up_a (by omega), up_a e]; exact h3 d j hd
def PA (a : Nat) : Nat → Prop := fun b => a ≤ b ∧ b ≤ a + 6
/-- what a wave may change: the minute at a, the surf's rows -/
def PW (s a : Nat) : Nat → Prop := fun b => PL s b ∨ PA a b
theorem CX.pw {m m' : Mem} {s T a : Nat} {w g : Mem} (h : CX m s T w g) (ha : a = 69 ∨ a = 76 ∨ a = 83) (f : Fr (PW s a) m m') : CX m' s T w g := h.fr f (by intro b q; have := h.2.1; unfold PW PL PA; omega)
def hod (f h : Int → Int) (x t : Int) : Nat → Int → Int
  | 0, _ => 0
  | d + 1, i => if f i = t then (if h i = x then 1 else hod f h x t d (i + 1)) else hod f h x t d (i + 1)
theorem hod_s (f h : Int → Int) (x t : Int) (d : Nat) (i : Int) : hod f h x t (d + 1) i = if f i = t then (if h i = x then 1 else hod f h x t d (i + 1)) else hod f h x t d (i + 1) := rfl
def hos (w n : Mem) (x t : Int) : Int := hod (w 13) (n 6) x t (w 8 1).toNat 0
def keyV (w g n : Mem) (v i : Int) : Int := if n 0 1 = 1 then n 2 i else if n 0 1 = 2 then (if hos w n i (w 13 v) = 0 then fr w (n 1 i) (g 3 v) else 100 + fr w (n 1 i) (g 3 v)) else if n 0 1 = 3 then -(n 1 i / w 0 0) else fr w (n 1 i) (g 3 v)
def odV (w g n : Mem) (v i : Int) : Int := oddsV w (g 1 i) (g 3 v) v (n 1 i)
def okL (w g n : Mem) (v mn : Int) : Int → Bool := fun i => decide (n 4 i ≤ mn) && decide (0 < odV w g n v i)
def lu (w g n : Mem) (v mn : Int) : List Int := lud (okL w g n v mn) (keyV w g n v) (w 1 0).toNat 0 []
/-- what the numbers of a minute are within; f: how many waves have come -/
def NB (w n : Mem) (f : Int) : Prop := (0 ≤ n 0 1 ∧ n 0 1 ≤ 3 ∧ 0 ≤ n 0 2 ∧ n 0 2 < 2147483648 ∧ 0 ≤ n 0 3 ∧ n 0 3 ≤ f ∧ 0 ≤ n 0 4 ∧ n 0 4 ≤ f) ∧ ∀ i, 0 ≤ i → i < w 1 0 → (0 ≤ n 1 i ∧ n 1 i < w 0 0 * w 0 1) ∧ (0 ≤ n 2 i ∧ 2 * n 2 i ≤ f) ∧ (0 ≤ n 3 i ∧ n 3 i ≤ f) ∧ (0 ≤ n 4 i ∧ n 4 i ≤ 2147483647)
section WAVE
variable {m : Mem} {s T a : Nat} {w g n : Mem}
theorem g_hod (h : CX m s T w g) (hn : NX m a n) (hs : 0 ≤ w 8 1 ∧ w 8 1 ≤ 28) (x t : Int) : ∀ (d k : Nat) (i : Int), 0 ≤ i → w 8 1 - i = d → d < k → G6_hadOfSet_3 k m s a x t i = some (hod (w 13) (n 6) x t d i, m) := by
  intro d
  induction d with
  | zero =>
    intro k i a1 a2 a3
    obtain ⟨k, rfl⟩ : ∃ j, k = j + 1 := ⟨k - 1, by omega⟩
    rw [G6_hadOfSet_3, h.2.2.1, Int.toNat_natCast, h.1.2.2 8 1 (by omega), if_pos (by omega)]
    rfl
  | succ d ih =>
    intro k i a1 a2 a3
    obtain ⟨k, rfl⟩ : ∃ j, k = j + 1 := ⟨k - 1, by omega⟩
    rw [G6_hadOfSet_3, h.2.2.1, Int.toNat_natCast, h.1.2.2 8 1 (by omega), if_neg (by omega), gdx_t (by omega), gdx_t (by omega), gd3_t (by omega), h.1.2.2 13 i (by omega), hn.2.2 6 i (by omega), ih k (i + 1) (by omega) (by omega) (by omega)]
    rw [hod_s]
    split
    · split <;> rfl
    · rfl
theorem g_hos (h : CX m s T w g) (hn : NX m a n) (hs : 0 ≤ w 8 1 ∧ w 8 1 ≤ 28) (x t : Int) : G6_hadOfSet m s a x t = some (hos w n x t, m) :=
  g_hod h hn hs x t _ 1024 0 (by omega) (by omega) (by omega)
theorem g_key (h : CX m s T w g) (hW : WW w) (hG : GB w g) (hn : NX m a n) {f : Int} (hB : NB w n f) {i v : Int} (hi : 0 ≤ i ∧ i < w 1 0) (hv : 0 ≤ v ∧ v < w 8 1) : G6_keyFor m s a i v = some (keyV w g n v i, m) := by
  have hw := hW.1
  unfold WS at hw
  have hb := hB.2 i hi.1 hi.2
  have hp := hG.2 v hv.1 hv.2
  have hf := fr_b (w := w) (by omega) (by omega) (by omega) hb.1 hp
  have hc := cell_b (W := w 0 0) (H := w 0 1) (by omega) (by omega) hb.1
  unfold G6_keyFor G6_keyFor_0 keyV
  rw [gdx_t (by omega), hn.2.2 1 i (by omega), g_farOf h hW hv hb.1 hp, bs1]
  simp only [hn.2.1, hn.2.2 2 i (by omega), h.2.2.1, Int.toNat_natCast, h.1.2.2 13 v (by omega), hn.2.2 1 i (by omega)]
  rw [gdx_t (by omega), gdx_t (by omega), gdx_t (by omega), g_hos h hn (by omega), bs1, g_row h.1 (by omega) hb.1.1, bs1]
  simp only
  rw [gd3_t (by omega), gd3_t (by omega)]
  split
  · rfl
  · split
    · split <;> rfl
    · split <;> rfl
theorem lud_mem {ok : Int → Bool} {key : Int → Int} {e : Int} : ∀ (d : Nat) (i : Int) (rl : List Int), e ∈ lud ok key d i rl → e ∈ rl ∨ (i ≤ e ∧ e < i + d ∧ ok e = true) := by
  intro d
  induction d with
  | zero => intro i rl h; exact Or.inl h
  | succ d ih =>
    intro i rl h
    unfold lud at h
    split at h
    · rename_i c
      rcases ih _ _ h with q | q
      · rcases insR_mem.mp q with rfl | q
        · exact Or.inr ⟨by omega, by omega, c⟩
        · exact Or.inl q
      · exact Or.inr ⟨by omega, by omega, q.2.2⟩
    · rcases ih _ _ h with q | q
      · exact Or.inl q
      · exact Or.inr ⟨by omega, by omega, q.2.2⟩
theorem lu_mem {v mn e : Int} (h : e ∈ lu w g n v mn) (hs : 0 ≤ w 1 0) : 0 ≤ e ∧ e < w 1 0 ∧ n 4 e ≤ mn ∧ 0 < odV w g n v e := by
  rcases lud_mem _ _ _ h with q | q
  · cases q
  · have h1 := q.2.2
    unfold okL at h1
    rw [Bool.and_eq_true] at h1
    exact ⟨q.1, by omega, of_decide_eq_true h1.1, of_decide_eq_true h1.2⟩
/-- rows of the surf for those in the order -/
def LR (m : Mem) (s : Nat) (w g n : Mem) (v : Int) (rl : List Int) : Prop := stkO (m (s + 6)) 0 rl ∧ ∀ e ∈ rl, m (s + 7) e = odV w g n v e ∧ m (s + 8) e = keyV w g n v e
theorem g_line6 (hW : WW w) (hG : GB w g) {f : Int} (hB : NB w n f) {v mn : Int} (hv : 0 ≤ v ∧ v < w 8 1) : ∀ (d k : Nat) (i : Int) (rl : List Int) (m : Mem), 0 ≤ i → w 1 0 - i = d → d < k → (rl.length : Int) ≤ i → (∀ e ∈ rl, 0 ≤ e ∧ e < i) → CX m s T w g → NX m a n → LR m s w g n v rl → ∃ m', G6_lineUp_6 k m s a v mn rl.length i = some (((lud (okL w g n v mn) (keyV w g n v) d i rl).length : Int), m') ∧ Fr (PL s) m m' ∧ LR m' s w g n v (lud (okL w g n v mn) (keyV w g n v) d i rl) := by
  have hw := hW.1
  unfold WS at hw
  intro d
  induction d with
  | zero =>
    intro k i rl m a1 a2 a3 a4 a5 h hn hL
    obtain ⟨k, rfl⟩ : ∃ j, k = j + 1 := ⟨k - 1, by omega⟩
    rw [G6_lineUp_6, h.2.2.1, Int.toNat_natCast, h.1.2.2 1 0 (by omega), if_pos (by omega)]
    exact ⟨m, rfl, Fr.rf, hL⟩
  | succ d ih =>
    intro k i rl m a1 a2 a3 a4 a5 h hn hL
    obtain ⟨k, rfl⟩ : ∃ j, k = j + 1 := ⟨k - 1, by omega⟩
    have hs := h.2.1
    have ha := hn.1
    have hb := hB.2 i (by omega) (by omega)
    have hg := hG.1 i (by omega) (by omega)
    have hp := hG.2 v hv.1 hv.2
    rw [G6_lineUp_6, h.2.2.1, Int.toNat_natCast, h.1.2.2 1 0 (by omega), if_neg (by omega)]
    unfold G4_isIn G4_isIn_0
    rw [gdx_t (by omega), hn.2.2 4 i (by omega)]
    by_cases c1 : mn < n 4 i
    · rw [if_pos c1, bs1]
      simp only [if_true]
      rw [gd3_t (by omega)]
      obtain ⟨m', q1, q2, q3⟩ := ih k (i + 1) rl m (by omega) (by omega) (by omega) (by omega) (fun e he => by have := a5 e he; omega) h hn hL
      have e : lud (okL w g n v mn) (keyV w g n v) (d + 1) i rl = lud (okL w g n v mn) (keyV w g n v) d (i + 1) rl := by
        show (if okL w g n v mn i = true then _ else _) = _
        rw [if_neg (by unfold okL; rw [Bool.and_eq_true]; rintro ⟨q, _⟩; have := of_decide_eq_true q; omega)]
      rw [e]
      exact ⟨m', q1, q2, q3⟩
    · rw [if_neg c1, bs1]
      simp only [if_neg (show ¬ (1 : Int) = 0 by decide)]
      rw [gdx_t (by omega), hn.2.2 1 i (by omega)]
      obtain ⟨m1, e1, f1⟩ := g_odds h hW (x := i) (v := v) (c := n 1 i) (by omega) ⟨hg.1, hg.2.1⟩ hv hb.1 hp
      rw [e1, bs1, gdx_t (by omega), wt_e, gdx_t (by omega)]
      simp only
      rw [up_e]
      have hod : oddsV w (g 1 i) (g 3 v) v (n 1 i) = odV w g n v i := rfl
      rw [hod]
      have f2 : Fr (PL s) m (up m1 (s + 7) i (odV w g n v i)) := (f1.mono PN_PL).up (by unfold PL; omega)
      have hL2 : LR (up m1 (s + 7) i (odV w g n v i)) s w g n v rl := by
        refine ⟨?_, fun e he => ?_⟩
        · rw [up_b (by omega), f1.row (by unfold PN; omega)]; exact hL.1
        · have := a5 e he
          rw [up_i (by omega), up_a (by omega), f1 _ _ (by unfold PN; omega), f1 _ _ (by unfold PN; omega)]
          exact hL.2 e he
      by_cases c2 : odV w g n v i ≤ 0
      · rw [if_pos c2, gd3_t (by omega)]
        obtain ⟨m', q1, q2, q3⟩ := ih k (i + 1) rl _ (by omega) (by omega) (by omega) (by omega) (fun e he => by have := a5 e he; omega) (h.pl f2) (hn.pl hs f2) hL2
        have e : lud (okL w g n v mn) (keyV w g n v) (d + 1) i rl = lud (okL w g n v mn) (keyV w g n v) d (i + 1) rl := by
          show (if okL w g n v mn i = true then _ else _) = _
          rw [if_neg (by unfold okL; rw [Bool.and_eq_true]; rintro ⟨_, q⟩; have := of_decide_eq_true q; omega)]
        rw [e]
        exact ⟨m', q1, f2.tr q2, q3⟩
      · rw [if_neg c2, g_key (h.pl f2) hW hG (hn.pl hs f2) hB (by omega) hv, bs1, gdx_t (by omega), wt_e]
        simp only
        have f3 : Fr (PL s) m (up (up m1 (s + 7) i (odV w g n v i)) (s + 8) i (keyV w g n v i)) := f2.up (by unfold PL; omega)
        obtain ⟨m4, e4, f4, s4⟩ := g_put (s := s) (key := keyV w g n v) (x := i) (m := up (up m1 (s + 7) i (odV w g n v i)) (s + 8) i (keyV w g n v i)) (by omega) rl (by omega) (fun e he => by
          have := a5 e he
          have h8 := hL2.2 e he
          exact ⟨this.1, by omega, by rw [up_i (by omega)]; exact h8.2⟩) up_e (by rw [up_b (by omega)]; exact hL2.1)
        rw [e4, bs1, gd3_t (by omega), gd3_t (by omega)]
        have f5 : Fr (PL s) m m4 := f3.tr (f4.mono (by intro b q; unfold PL; have : b = s + 6 := q; omega))
        have hlen := insR_len (keyV w g n v) i rl
        have el : (rl.length : Int) + 1 = ((insR (keyV w g n v) i rl).length : Int) := by omega
        rw [el]
        obtain ⟨m', q1, q2, q3⟩ := ih k (i + 1) (insR (keyV w g n v) i rl) m4 (by omega) (by omega) (by omega) (by omega) (fun e he => by
          rcases insR_mem.mp he with rfl | q
          · omega
          · have := a5 e q; omega) (h.pl f5) (hn.pl hs f5) ⟨s4, fun e he => by
            rw [f4 _ _ (by show ¬ s + 7 = s + 6; omega), f4 _ _ (by show ¬ s + 8 = s + 6; omega)]
            rcases insR_mem.mp he with rfl | q
            · exact ⟨by rw [up_a (by omega), up_e], up_e⟩
            · have h9 := a5 e q
              exact ⟨by rw [up_a (by omega)]; exact (hL2.2 e q).1, by rw [up_i (by omega)]; exact (hL2.2 e q).2⟩⟩
        have e : lud (okL w g n v mn) (keyV w g n v) (d + 1) i rl = lud (okL w g n v mn) (keyV w g n v) d (i + 1) (insR (keyV w g n v) i rl) := by
          show (if okL w g n v mn i = true then _ else _) = _
          rw [if_pos (by unfold okL; rw [Bool.and_eq_true]; exact ⟨decide_eq_true (by omega), decide_eq_true (by omega)⟩)]
        rw [e]
        exact ⟨m', q1, f5.tr q2, q3⟩
theorem g_line (h : CX m s T w g) (hW : WW w) (hG : GB w g) (hn : NX m a n) {f : Int} (hB : NB w n f) {v : Int} (mn : Int) (hv : 0 ≤ v ∧ v < w 8 1) : ∃ m', G6_lineUp m s a v mn = some (((lu w g n v mn).length : Int), m') ∧ Fr (PL s) m m' ∧ LR m' s w g n v (lu w g n v mn) := by
  have hw := hW.1
  unfold WS at hw
  exact g_line6 hW hG hB hv (w 1 0).toNat 1024 0 [] m (by omega) (by omega) (by omega) (by simp) (fun e he => nomatch he) h hn ⟨trivial, fun e he => nomatch he⟩
end WAVE
/-! Who rides, who crosses, what comes of it. -/
def ridr (od : Int → Int) : List Int → Int → Option (Int × List Int) × Int
  | [], x => (none, x)
  | e :: r, x => if od e ≤ hun (nxt x) then ridr od r (nxt x) else (some (e, r), nxt x)
def crsr (bl : Int → Int) : List Int → Int → Option Int × Int
  | [], x => (none, x)
  | e :: r, x => if bl e ≤ 0 then crsr bl r x else if bl e ≤ hun (nxt x) then crsr bl r (nxt x) else (some e, nxt x)
def bw2 (w g n : Mem) (v e : Int) (k : Option Int) (y : Int) : Mem := match k with
  | none => up (up (up (up n 0 2 y) 6 v e) 2 e (n 2 e + 1)) 4 e (w 11 v + 1 * awayN w (g 1 e) v)
  | some k => up (up (up (up (up (up (up n 0 2 y) 6 v (-3)) 0 3 (n 0 3 + 1)) 3 e (n 3 e + 1)) 3 k (up n 3 e (n 3 e + 1) 3 k + 1)) 4 e (w 11 v + 2 * awayN w (g 1 e) v)) 4 k (w 11 v + 2 * awayN w (g 1 k) v)
def bw1 (w g n : Mem) (v : Int) (r : Option (Int × List Int) × Int) : Mem := match r.1 with
  | none => up (up (up n 0 2 r.2) 6 v (-1)) 0 4 (n 0 4 + 1)
  | some (e, l) => bw2 w g n v e (crsr (g 2) l r.2).1 (crsr (g 2) l r.2).2
/-- what wave v makes of the minute n, where minute mn is -/
def bw (w g n : Mem) (v mn : Int) : Mem := bw1 w g n v (ridr (odV w g n v) (lu w g n v mn).reverse (n 0 2))
/-- a row told from its head on: the head lies at place k -/
def frt (f : Int → Int) : Int → List Int → Prop
  | _, [] => True
  | k, v :: r => f k = v ∧ frt f (k + 1) r
theorem frt_up {f g : Int → Int} : ∀ {l : List Int} {k : Int}, frt f k l → (∀ j, k ≤ j → j < k + l.length → g j = f j) → frt g k l := by
  intro l
  induction l with
  | nil => intros; trivial
  | cons v r ih =>
    intro k h1 h2
    have hl : ((v :: r).length : Int) = r.length + 1 := by simp
    exact ⟨by rw [h2 _ (by omega) (by omega)]; exact h1.1, ih h1.2 (fun j a b => h2 j (by omega) (by omega))⟩
theorem frt_rev {f : Int → Int} : ∀ (l acc : List Int), stkO f 0 l → frt f (l.length : Int) acc → frt f 0 (l.reverse ++ acc) := by
  intro l
  induction l with
  | nil => intro acc _ h; exact h
  | cons v r ih =>
    intro acc h1 h2
    rw [List.reverse_cons, List.append_assoc]
    refine ih ([v] ++ acc) h1.2 ⟨?_, ?_⟩
    · have := h1.1; rw [Int.zero_add] at this; exact this
    · have e : ((v :: r).length : Int) = r.length + 1 := by simp
      rw [e] at h2; exact h2
theorem stk_frt {f : Int → Int} {l : List Int} (h : stkO f 0 l) : frt f 0 l.reverse := by
  have := frt_rev l [] h trivial
  rwa [List.append_nil] at this
section BR
variable {m : Mem} {s T a : Nat} {w g n : Mem}
theorem g_ride {od : Int → Int} (ha : a = 69 ∨ a = 76 ∨ a = 83) (hs : s = 51 ∨ s = 60) : ∀ (l : List Int) (k : Nat) (i : Int) (m : Mem), l.length < k → 0 ≤ i → i + l.length ≤ 5 → (0 ≤ m a 2 ∧ m a 2 < 2147483648) → frt (m (s + 6)) i l → (∀ e ∈ l, 0 ≤ e ∧ e < 5 ∧ m (s + 7) e = od e) → ∃ p x, G6_placeOfRider_2 k m s a (i + l.length) i = some (p, up m a 2 x) ∧ x = (ridr od l (m a 2)).2 ∧ (0 ≤ x ∧ x < 2147483648) ∧ ((p = -1 ∧ (ridr od l (m a 2)).1 = none) ∨ ∃ e r, (ridr od l (m a 2)).1 = some (e, r) ∧ i ≤ p ∧ p + 1 + r.length = i + l.length ∧ m (s + 6) p = e ∧ frt (m (s + 6)) (p + 1) r ∧ e ∈ l ∧ ∀ q ∈ r, q ∈ l) := by
  intro l
  induction l with
  | nil =>
    intro k i m a1 a2 a3 a4 a5 a6
    obtain ⟨k, rfl⟩ : ∃ j, k = j + 1 := ⟨k - 1, by omega⟩
    have e : m = up m a 2 (m a 2) := by
      funext b j
      by_cases c : b = a ∧ j = 2
      · rw [c.1, c.2, up_e]
      · exact (if_neg c).symm
    refine ⟨-1, m a 2, ?_, rfl, a4, Or.inl ⟨rfl, rfl⟩⟩
    rw [G6_placeOfRider_2, if_pos (by simp), ← e]
  | cons y r ih =>
    intro k i m a1 a2 a3 a4 a5 a6
    obtain ⟨k, rfl⟩ : ∃ j, k = j + 1 := ⟨k - 1, by omega⟩
    have hl : ((y :: r).length : Int) = r.length + 1 := by simp
    have hl' : (y :: r).length = r.length + 1 := by simp
    have hy := a6 y (by simp)
    have hb := nxt_b (m a 2)
    rw [G6_placeOfRider_2, if_neg (by omega), g_draw a4, bs1, gdx_t (by omega)]
    simp only
    rw [up_a (by omega), a5.1, gdx_t (by omega), up_a (by omega), hy.2.2]
    have e0 : ridr od (y :: r) (m a 2) = if od y ≤ hun (nxt (m a 2)) then ridr od r (nxt (m a 2)) else (some (y, r), nxt (m a 2)) := rfl
    by_cases c : od y ≤ hun (nxt (m a 2))
    · rw [if_pos c] at e0 ⊢
      rw [e0, gd3_t (by omega)]
      have e1 : i + ((y :: r).length : Int) = i + 1 + r.length := by omega
      rw [e1]
      obtain ⟨p, x, q1, q2, q3, q4⟩ := ih k (i + 1) (up m a 2 (nxt (m a 2))) (by omega) (by omega) (by omega) (by rw [up_e]; omega) (by rw [up_b (by omega)]; exact a5.2) (fun e he => by
        have := a6 e (List.mem_cons_of_mem _ he)
        rw [up_a (by omega)]; exact this)
      rw [up_e] at q2 q4
      rw [up_b (show s + 6 ≠ a by omega)] at q4
      refine ⟨p, x, ?_, q2, q3, ?_⟩
      · rw [q1]
        congr 2
        funext b j
        by_cases cb : b = a
        · subst cb
          by_cases cj : j = 2
          · subst cj; rw [up_e, up_e]
          · rw [up_i cj, up_i cj, up_i cj]
        · rw [up_a cb, up_a cb, up_a cb]
      · rcases q4 with q4 | ⟨e, r', z1, z2, z3, z4, z5, z6, z7⟩
        · exact Or.inl q4
        · exact Or.inr ⟨e, r', z1, by omega, by omega, z4, z5, List.mem_cons_of_mem _ z6, fun q hq => List.mem_cons_of_mem _ (z7 q hq)⟩
    · rw [if_neg c] at e0 ⊢
      rw [e0]
      exact ⟨i, nxt (m a 2), rfl, rfl, by omega, Or.inr ⟨y, r, rfl, by omega, by omega, a5.1, a5.2, by simp, fun q hq => List.mem_cons_of_mem _ hq⟩⟩
theorem g_cross {bl : Int → Int} (ha : a = 69 ∨ a = 76 ∨ a = 83) (hs : s = 51 ∨ s = 60) : ∀ (l : List Int) (k : Nat) (i : Int) (m : Mem), l.length < k → 0 ≤ i → i + l.length ≤ 5 → (0 ≤ m a 2 ∧ m a 2 < 2147483648) → frt (m (s + 6)) i l → (∀ e ∈ l, 0 ≤ e ∧ e < 5 ∧ m (s + 2) e = bl e) → ∃ p x, G6_crosserBehind_5 k m s a (i + l.length) i = some (p, up m a 2 x) ∧ x = (crsr bl l (m a 2)).2 ∧ (0 ≤ x ∧ x < 2147483648) ∧ ((p = -1 ∧ (crsr bl l (m a 2)).1 = none) ∨ ((crsr bl l (m a 2)).1 = some p ∧ p ∈ l)) := by
  intro l
  induction l with
  | nil =>
    intro k i m a1 a2 a3 a4 a5 a6
    obtain ⟨k, rfl⟩ : ∃ j, k = j + 1 := ⟨k - 1, by omega⟩
    have e : m = up m a 2 (m a 2) := by
      funext b j
      by_cases c : b = a ∧ j = 2
      · rw [c.1, c.2, up_e]
      · exact (if_neg c).symm
    refine ⟨-1, m a 2, ?_, rfl, a4, Or.inl ⟨rfl, rfl⟩⟩
    rw [G6_crosserBehind_5, if_pos (by simp), ← e]
  | cons y r ih =>
    intro k i m a1 a2 a3 a4 a5 a6
    obtain ⟨k, rfl⟩ : ∃ j, k = j + 1 := ⟨k - 1, by omega⟩
    have hl : ((y :: r).length : Int) = r.length + 1 := by simp
    have hl' : (y :: r).length = r.length + 1 := by simp
    have hy := a6 y (by simp)
    have hb := nxt_b (m a 2)
    have e1 : i + ((y :: r).length : Int) = i + 1 + r.length := by omega
    rw [G6_crosserBehind_5, if_neg (by omega), gdx_t (by omega), a5.1, gdx_t (by omega), hy.2.2]
    have e0 : crsr bl (y :: r) (m a 2) = if bl y ≤ 0 then crsr bl r (m a 2) else if bl y ≤ hun (nxt (m a 2)) then crsr bl r (nxt (m a 2)) else (some y, nxt (m a 2)) := rfl
    by_cases c0 : bl y ≤ 0
    · rw [if_pos c0] at e0 ⊢
      rw [e0, gd3_t (by omega), e1]
      obtain ⟨p, x, q1, q2, q3, q4⟩ := ih k (i + 1) m (by omega) (by omega) (by omega) a4 a5.2 (fun e he => a6 e (List.mem_cons_of_mem _ he))
      exact ⟨p, x, q1, q2, q3, q4.imp id (fun z => ⟨z.1, List.mem_cons_of_mem _ z.2⟩)⟩
    · rw [if_neg c0] at e0 ⊢
      rw [g_draw a4, bs1]
      simp only
      by_cases c : bl y ≤ hun (nxt (m a 2))
      · rw [if_pos c] at e0 ⊢
        rw [e0, gd3_t (by omega), e1]
        obtain ⟨p, x, q1, q2, q3, q4⟩ := ih k (i + 1) (up m a 2 (nxt (m a 2))) (by omega) (by omega) (by omega) (by rw [up_e]; omega) (by rw [up_b (by omega)]; exact a5.2) (fun e he => by
          have := a6 e (List.mem_cons_of_mem _ he)
          rw [up_a (by omega)]; exact this)
        rw [up_e] at q2 q4
        refine ⟨p, x, ?_, q2, q3, q4.imp id (fun z => ⟨z.1, List.mem_cons_of_mem _ z.2⟩)⟩
        rw [q1]
        congr 2
        funext b j
        by_cases cb : b = a
        · subst cb
          by_cases cj : j = 2
          · subst cj; rw [up_e, up_e]
          · rw [up_i cj, up_i cj, up_i cj]
        · rw [up_a cb, up_a cb, up_a cb]
      · rw [if_neg c] at e0 ⊢
        rw [e0, gdx_t (by omega), up_a (by omega), a5.1]
        exact ⟨y, nxt (m a 2), rfl, rfl, by omega, Or.inr ⟨rfl, by simp⟩⟩
theorem g_send (h : CX m s T w g) (hW : WW w) (hn : NX m a n) {e v t : Int} (he : 0 ≤ e ∧ e < 5) (hb : 1 ≤ g 1 e ∧ g 1 e ≤ 9) (hv : 0 ≤ v ∧ v < w 8 1) (ht : t = 1 ∨ t = 2) : ∃ m', G6_sendAway m s a e v t = some m' ∧ Fr (PW s a) m m' ∧ NX m' a (up n 4 e (w 11 v + t * awayN w (g 1 e) v)) := by
  have hw := hW.1
  unfold WS at hw
  have hs := h.2.1
  have ha := hn.1
  have hv2 := (hW.2.2.2.1 v hv.1 hv.2).2.1
  have hab := away_b w (g 1 e) v
  obtain ⟨m1, e1, f1⟩ := g_away h hW he hb hv
  have hn1 := hn.pl hs (f1.mono PN_PL)
  unfold G6_sendAway G6_sendAway_0
  rw [gdx_t (by omega), e1, bs1, gdx_t he, h.2.2.1, Int.toNat_natCast, h.1.2.2 11 v (by omega)]
  have hm : 0 ≤ t * awayN w (g 1 e) v ∧ t * awayN w (g 1 e) v ≤ 60 := by
    rcases ht with rfl | rfl <;> omega
  simp only
  rw [gd3_t (by omega), wt_e]
  refine ⟨_, rfl, (f1.mono (fun b q => Or.inl (PN_PL b q))).up (Or.inr ⟨by omega, by omega⟩), ?_⟩
  exact hn1.up 4 (by omega) e _
/-- the rider and the crosser of a wave are among the surfers -/
theorem ridr_mem {od : Int → Int} : ∀ {l : List Int} {x e : Int} {r : List Int}, (ridr od l x).1 = some (e, r) → e ∈ l ∧ ∀ q ∈ r, q ∈ l := by
  intro l
  induction l with
  | nil => intro x e r h; cases h
  | cons y t ih =>
    intro x e r h
    unfold ridr at h
    split at h
    · have := ih h
      exact ⟨List.mem_cons_of_mem _ this.1, fun q hq => List.mem_cons_of_mem _ (this.2 q hq)⟩
    · cases h
      exact ⟨by simp, fun q hq => List.mem_cons_of_mem _ hq⟩
theorem crsr_mem {bl : Int → Int} : ∀ {l : List Int} {x e : Int}, (crsr bl l x).1 = some e → e ∈ l := by
  intro l
  induction l with
  | nil => intro x e h; cases h
  | cons y t ih =>
    intro x e h
    unfold crsr at h
    split at h
    · exact List.mem_cons_of_mem _ (ih h)
    · split at h
      · exact List.mem_cons_of_mem _ (ih h)
      · cases h; simp
theorem g_bring (h : CX m s T w g) (hW : WW w) (hG : GB w g) (hn : NX m a n) {f : Int} (hB : NB w n f) (hf : 0 ≤ f ∧ f ≤ 1000) {v : Int} (hv : 0 ≤ v ∧ v < w 8 1) : ∃ m', G6_bringWave m s a v = some m' ∧ Fr (PW s a) m m' ∧ NX m' a (bw w g n v (w 11 v)) := by
  have hw := hW.1
  unfold WS at hw
  have hs := h.2.1
  have ha := hn.1
  obtain ⟨m1, e1, f1, l1⟩ := g_line h hW hG hn hB (w 11 v) hv
  have h1 := h.pl f1
  have n1 := hn.pl hs f1
  have hlen : (lu w g n v (w 11 v)).length ≤ 5 := by
    have : ∀ (ok : Int → Bool) (key : Int → Int) (d : Nat) (i : Int) (rl : List Int), (lud ok key d i rl).length ≤ rl.length + d := by
      intro ok key d
      induction d with
      | zero => intro i rl; exact Nat.le_refl _
      | succ d ih =>
        intro i rl
        unfold lud
        split
        · have := ih (i + 1) (insR key i rl); rw [insR_len] at this; omega
        · have := ih (i + 1) rl; omega
    have := this (okL w g n v (w 11 v)) (keyV w g n v) (w 1 0).toNat 0 []
    unfold lu
    simp only [List.length_nil] at this
    omega
  have hmem : ∀ e ∈ (lu w g n v (w 11 v)).reverse, 0 ≤ e ∧ e < w 1 0 := fun e he => by
    have := lu_mem (List.mem_reverse.mp he) (by omega)
    exact ⟨this.1, this.2.1⟩
  have hnum : (0 ≤ m1 a 2 ∧ m1 a 2 < 2147483648) := by rw [n1.2.1]; exact ⟨hB.1.2.2.1, hB.1.2.2.2.1⟩
  unfold G6_bringWave G6_bringWave_0
  rw [gdx_t (by omega), h.2.2.1, Int.toNat_natCast, h.1.2.2 11 v (by omega), e1, bs1]
  unfold G6_placeOfRider G6_placeOfRider_0
  obtain ⟨p, x, q1, q2, q3, q4⟩ := g_ride (od := odV w g n v) ha hs (lu w g n v (w 11 v)).reverse 1024 0 m1 (by rw [List.length_reverse]; omega) (by omega) (by rw [List.length_reverse]; omega) hnum (stk_frt l1.1) (fun e he => by
    have := hmem e he
    exact ⟨this.1, by omega, (l1.2 e (List.mem_reverse.mp he)).1⟩)
  rw [List.length_reverse, Int.zero_add] at q1
  simp only
  rw [q1, bs1]
  have nm1 : m1 a 2 = n 0 2 := n1.2.1 2
  rw [nm1] at q2 q4
  have n2 : NX (up m1 a 2 x) a (up n 0 2 x) := n1.up0 2 x
  have f2 : Fr (PW s a) m (up m1 a 2 x) := (f1.mono (fun b q => Or.inl q)).up (Or.inr ⟨by omega, by omega⟩)
  have h2 := h.pw ha f2
  unfold bw bw1
  rcases q4 with ⟨q4, q5⟩ | ⟨e, r, z1, z2, z3, z4, z5, z6, z7⟩
  · rw [q5]
    simp only [q4, if_true]
    rw [gdx_t (by omega), wt_e, up_a (by omega), n2.2.1, up_i (by omega), gd3_t (by have := hB.1; omega), wt_e, ← q2]
    exact ⟨_, rfl, (f2.up (Or.inr ⟨by omega, by omega⟩)).up (Or.inr ⟨by omega, by omega⟩), (n2.up 6 (by omega) v (-1)).up0 4 _⟩
  · rw [z1]
    have hep := hmem e z6
    have hgp := hG.1 e hep.1 hep.2
    have hBe := hB.2 e hep.1 hep.2
    rw [List.length_reverse] at z3
    simp only
    rw [if_neg (by omega), gdx_t (by omega)]
    have e6 : up m1 a 2 x (s + 6) p = e := by rw [up_a (by omega)]; exact z4
    rw [e6]
    unfold G6_crosserBehind G6_crosserBehind_0
    rw [gd3_t (by omega)]
    obtain ⟨c, y, c1, c2, c3, c4⟩ := g_cross (bl := g 2) ha hs r 1024 (p + 1) (up m1 a 2 x) (by omega) (by omega) (by omega) (by rw [up_e]; exact q3) (by rw [up_b (by omega)]; exact z5) (fun q hq => by
      have := hmem q (z7 q hq)
      exact ⟨this.1, by omega, h2.2.2.2 2 q (by omega) (by omega)⟩)
    have ep : p + 1 + (r.length : Int) = ((lu w g n v (w 11 v)).length : Int) := by omega
    rw [ep] at c1
    rw [c1, bs1]
    rw [up_e] at c2 c4
    have n3 : NX (up (up m1 a 2 x) a 2 y) a (up n 0 2 y) := by
      have := n2.up0 2 y
      have e : up (up n 0 2 x) 0 2 y = up n 0 2 y := by
        funext b j
        by_cases cb : b = 0
        · subst cb
          by_cases cj : j = 2
          · subst cj; rw [up_e, up_e]
          · rw [up_i cj, up_i cj, up_i cj]
        · rw [up_a cb, up_a cb, up_a cb]
      rwa [e] at this
    have f3 : Fr (PW s a) m (up (up m1 a 2 x) a 2 y) := f2.up (Or.inr ⟨by omega, by omega⟩)
    have h3 := h.pw ha f3
    rw [← q2]
    unfold bw2
    rcases c4 with ⟨c4, c5⟩ | ⟨c5, c6⟩
    · rw [c5, ← c2]
      simp only [c4, if_true]
      rw [gdx_t (by omega), wt_e, gdx_t (by omega), gdx_t (by omega)]
      have n4 := n3.up 6 (by omega) v e
      have f4 := f3.up (a := a + 6) (i := v) (v := e) (Or.inr ⟨by omega, by omega⟩)
      have e7 : up (up (up m1 a 2 x) a 2 y) (a + 6) v e (a + 2) e = n 2 e := by rw [n4.2.2 2 e (by omega), up_a (by omega), up_a (by omega)]
      rw [e7, gd3_t (by omega), wt_e]
      have n5 := n4.up 2 (by omega) e (n 2 e + 1)
      have f5 := f4.up (a := a + 2) (i := e) (v := n 2 e + 1) (Or.inr ⟨by omega, by omega⟩)
      obtain ⟨m', g1, g2, g3⟩ := g_send (h.pw ha f5) hW n5 (e := e) (v := v) (t := 1) (by omega) ⟨hgp.1, hgp.2.1⟩ hv (Or.inl rfl)
      rw [g1, bs1]
      exact ⟨m', rfl, f5.tr g2, g3⟩
    · rw [c5, ← c2]
      have hcp := hmem c (z7 c c6)
      have hgc := hG.1 c hcp.1 hcp.2
      have hBc := hB.2 c hcp.1 hcp.2
      simp only
      rw [if_neg (by omega), gdx_t (by omega), wt_e]
      have n4 := n3.up 6 (by omega) v (-3)
      have f4 := f3.up (a := a + 6) (i := v) (v := -3) (Or.inr ⟨by omega, by omega⟩)
      have e7 : up (up (up m1 a 2 x) a 2 y) (a + 6) v (-3) a 3 = n 0 3 := by rw [n4.2.1 3, up_a (by omega), up_i (by omega)]
      rw [e7, gd3_t (by have := hB.1; omega), wt_e, gdx_t (by omega), gdx_t (by omega)]
      have n5 := n4.up0 3 (n 0 3 + 1)
      have f5 := f4.up (a := a) (i := 3) (v := n 0 3 + 1) (Or.inr ⟨by omega, by omega⟩)
      have e8 : up (up (up (up m1 a 2 x) a 2 y) (a + 6) v (-3)) a 3 (n 0 3 + 1) (a + 3) e = n 3 e := by rw [n5.2.2 3 e (by omega), up_a (by omega), up_a (by omega), up_a (by omega)]
      rw [e8, gd3_t (by omega), wt_e, gdx_t (by omega), gdx_t (by omega)]
      have n6 := n5.up 3 (by omega) e (n 3 e + 1)
      have f6 := f5.up (a := a + 3) (i := e) (v := n 3 e + 1) (Or.inr ⟨by omega, by omega⟩)
      have e9 : up (up (up (up (up m1 a 2 x) a 2 y) (a + 6) v (-3)) a 3 (n 0 3 + 1)) (a + 3) e (n 3 e + 1) (a + 3) c = up n 3 e (n 3 e + 1) 3 c := by
        rw [n6.2.2 3 c (by omega)]
        by_cases cc : c = e
        · subst cc; rw [up_e, up_e]
        · rw [up_i cc, up_i cc, up_a (by omega), up_a (by omega), up_a (by omega)]
      have e10 : up n 3 e (n 3 e + 1) 3 c ≤ f + 1 ∧ 0 ≤ up n 3 e (n 3 e + 1) 3 c := by
        by_cases cc : c = e
        · subst cc; rw [up_e]; omega
        · rw [up_i cc]; omega
      rw [e9, gd3_t (by omega), wt_e]
      have n7 := n6.up 3 (by omega) c (up n 3 e (n 3 e + 1) 3 c + 1)
      have f7 := f6.up (a := a + 3) (i := c) (v := up n 3 e (n 3 e + 1) 3 c + 1) (Or.inr ⟨by omega, by omega⟩)
      obtain ⟨m8, g1, g2, g3⟩ := g_send (h.pw ha f7) hW n7 (e := e) (v := v) (t := 2) (by omega) ⟨hgp.1, hgp.2.1⟩ hv (Or.inr rfl)
      rw [g1, bs1]
      obtain ⟨m9, k1, k2, k3⟩ := g_send (h.pw ha (f7.tr g2)) hW g3 (e := c) (v := v) (t := 2) (by omega) ⟨hgc.1, hgc.2.1⟩ hv (Or.inr rfl)
      rw [k1, bs1]
      exact ⟨m9, rfl, (f7.tr g2).tr k2, k3⟩
end BR
/-! The reference: what its rows hold of a text; it works laws out alike. -/
def Fm (P : Nat → Int → Prop) (m m' : Mem) : Prop := ∀ b i, ¬ P b i → m' b i = m b i
theorem Fm.rf {P : Nat → Int → Prop} {m : Mem} : Fm P m m := fun _ _ _ => rfl
theorem Fm.tr {P : Nat → Int → Prop} {m m1 m2 : Mem} (a : Fm P m m1) (b : Fm P m1 m2) : Fm P m m2 := fun x i h => (b x i h).trans (a x i h)
theorem Fm.mono {P Q : Nat → Int → Prop} {m m1 : Mem} (a : Fm P m m1) (h : ∀ x i, P x i → Q x i) : Fm Q m m1 := fun x i q => a x i (fun p => q (h x i p))
theorem Fm.w {P : Nat → Int → Prop} {m m1 : Mem} {a : Nat} {i v : Int} (f : Fm P m m1) (h : P a i) : Fm P m (up m1 a i v) := by
  intro x j q
  by_cases c : x = a ∧ j = i
  · exact absurd (by rw [c.1, c.2]; exact h) q
  · have : up m1 a i v x j = m1 x j := if_neg c
    rw [this]; exact f x j q
theorem Fm.w1 {P : Nat → Int → Prop} {m : Mem} {a : Nat} {i v : Int} (h : P a i) : Fm P m (up m a i v) := Fm.w Fm.rf h
def opM (k : Int) : Int := if k = 10016 then 3 else if k = 10017 then 4 else k - 10021
def NodeR (kn : Int → Int) (v : Mem) (f : Int) (j : Nat) : Prop :=
  (0 ≤ kn j ∧ kn j < 10000 ∧ v 18 (f + j) = 0 ∧ v 19 (f + j) = kn j) ∨
  (10018 ≤ kn j ∧ kn j < 10024 ∧ v 18 (f + j) = 1 ∧ v 19 (f + j) = kn j - 10018) ∨
  (kn j = 10015 ∧ v 18 (f + j) = 2 ∧ ∃ a r, ist kn j = a :: r ∧ v 19 (f + j) = f + a) ∨
  (bnk (kn j) ∧ v 18 (f + j) = opM (kn j) ∧ ∃ b a r, ist kn j = b :: a :: r ∧ v 19 (f + j) = f + a ∧ v 20 (f + j) = f + b)
def RLw (v w : Mem) (k : Int) (a b : Nat) : Prop := v 15 k = w a 2 ∧ (w a 2 = 0 ∨ w a 2 = 1) ∧ (w a 2 = 0 → w a 1 = 0) ∧ (w a 2 = 1 → 0 < w a 1 ∧ 0 ≤ v 16 k ∧ v 17 k = v 16 k + w a 1 ∧ v 17 k ≤ 64 ∧ ∀ j : Nat, (j : Int) < w a 1 → NodeR (w b) v (v 16 k) j)
/-- the reference holds the text w -/
def RT (v w : Mem) : Prop :=
  (v 0 12 = w 0 0 ∧ v 0 13 = w 0 1 ∧ v 0 14 = w 1 0 ∧ v 0 15 = w 8 0 ∧ v 0 16 = w 8 1 ∧ v 0 17 = w 0 13) ∧
  (v 4 0 = w 0 2 ∧ v 4 1 = w 0 3 ∧ v 4 2 = w 0 6 ∧ v 4 3 = w 0 7 ∧ v 4 4 = w 0 8 ∧ v 4 5 = w 0 9 ∧ v 4 6 = w 0 10) ∧
  (∀ i, 0 ≤ i → i < w 1 0 → v 5 i = w 2 i ∧ v 6 i = w 3 i ∧ v 7 i = w 4 i ∧ v 8 i = w 5 i ∧ v 9 i = w 6 i ∧ v 10 i = w 7 i) ∧
  (∀ t, 0 ≤ t → t < w 8 0 → v 11 t = w 9 t) ∧ (∀ i, 0 ≤ i → i < w 8 1 → v 12 i = w 11 i ∧ v 13 i = w 12 i ∧ v 14 i = w 13 i) ∧
  RLw v w 0 16 17 ∧ RLw v w 1 18 19 ∧ RLw v w 2 20 21
theorem NodeR.fr {kn : Int → Int} {v v' : Mem} {f : Int} {j : Nat} (h : NodeR kn v f j) (e1 : v' 18 = v 18) (e2 : v' 19 = v 19) (e3 : v' 20 = v 20) : NodeR kn v' f j := by
  unfold NodeR at *; rw [e1, e2, e3]; exact h
theorem RLw.fr {v v' w : Mem} {k : Int} {a b : Nat} (h : RLw v w k a b) (e : ∀ c : Nat, 4 ≤ c → c ≤ 20 → v' c = v c) : RLw v' w k a b := by
  obtain ⟨h1, h2, h3, h4⟩ := h
  refine ⟨by rw [e 15 (by omega) (by omega)]; exact h1, h2, h3, fun q => ?_⟩
  obtain ⟨g1, g2, g3, g4, g5⟩ := h4 q
  rw [e 16 (by omega) (by omega), e 17 (by omega) (by omega)]
  exact ⟨g1, g2, g3, g4, fun j hj => (g5 j hj).fr (e 18 (by omega) (by omega)) (e 19 (by omega) (by omega)) (e 20 (by omega) (by omega))⟩
theorem RT.fr {v v' w : Mem} (h : RT v w) {P : Nat → Int → Prop} (f : Fm P v v') (hp : ∀ b i, (b = 0 ∧ 12 ≤ i ∧ i ≤ 17) ∨ (4 ≤ b ∧ b ≤ 20) → ¬ P b i) : RT v' w := by
  have e0 : ∀ i, 12 ≤ i → i ≤ 17 → v' 0 i = v 0 i := fun i a b => f 0 i (hp 0 i (Or.inl ⟨rfl, a, b⟩))
  have e : ∀ c : Nat, 4 ≤ c → c ≤ 20 → v' c = v c := fun c a b => funext fun i => f c i (hp c i (Or.inr ⟨a, b⟩))
  obtain ⟨h1, h2, h3, h4, h5, h6, h7, h8⟩ := h
  refine ⟨?_, ?_, ?_, ?_, ?_, h6.fr e, h7.fr e, h8.fr e⟩
  · rw [e0 12 (by omega) (by omega), e0 13 (by omega) (by omega), e0 14 (by omega) (by omega), e0 15 (by omega) (by omega), e0 16 (by omega) (by omega), e0 17 (by omega) (by omega)]; exact h1
  · rw [e 4 (by omega) (by omega)]; exact h2
  · rw [e 5 (by omega) (by omega), e 6 (by omega) (by omega), e 7 (by omega) (by omega), e 8 (by omega) (by omega), e 9 (by omega) (by omega), e 10 (by omega) (by omega)]; exact h3
  · rw [e 11 (by omega) (by omega)]; exact h4
  · rw [e 12 (by omega) (by omega), e 13 (by omega) (by omega), e 14 (by omega) (by omega)]; exact h5
/-- values of the waiting parts, by their numbers -/
def mtch (f : Int → Int) (o : Int) : List Int → List Int → Prop
  | [], [] => True
  | a :: r, x :: s => f (o + a) = x ∧ mtch f o r s
  | _, _ => False
theorem mtch_up {f g : Int → Int} {o : Int} : ∀ {r s : List Int}, mtch f o r s → (∀ a ∈ r, g (o + a) = f (o + a)) → mtch g o r s := by
  intro r
  induction r with
  | nil => intro s h _; cases s with
    | nil => trivial
    | cons _ _ => exact h
  | cons a r ih =>
    intro s h e
    cases s with
    | nil => exact h
    | cons x s => exact ⟨by rw [e a (by simp)]; exact h.1, ih h.2 (fun b hb => e b (List.mem_cons_of_mem _ hb))⟩
theorem ist_b (kn : Int → Int) : ∀ (j : Nat) (a : Int), a ∈ ist kn j → 0 ≤ a ∧ a < j := by
  intro j
  induction j with
  | zero => intro a h; cases h
  | succ j ih =>
    intro a h
    unfold ist at h
    have key : ∀ n, a ∈ (j : Int) :: (ist kn j).drop n → 0 ≤ a ∧ a < ((j + 1 : Nat) : Int) := by
      intro n h
      rcases List.mem_cons.mp h with rfl | h
      · omega
      · have := ih a (List.mem_of_mem_drop h); omega
    split at h
    · exact key 0 h
    · split at h
      · exact key 1 h
      · exact key 2 h
section ML
variable {m : Mem}
def P54 : Nat → Int → Prop := fun b i => b = 0 ∧ i = 54
theorem m_bnd {x : Int} (he : m 0 54 = 0 ∨ m 0 54 = 1) : ∃ r m', G12_bounded m x = some (r, m') ∧ bM r ∧ Fm P54 m m' ∧ (m 0 54 = 1 → m' 0 54 = 1) ∧ (m 0 54 = 0 → ((-1000000000000 ≤ x ∧ x ≤ 1000000000000) ∧ r = x ∧ m' 0 54 = 0) ∨ (¬ (-1000000000000 ≤ x ∧ x ≤ 1000000000000) ∧ m' 0 54 = 1)) := by
  have z : bM 0 := ⟨by decide, by decide⟩
  unfold G12_bounded G12_bounded_0 G12_bounded_24 G12_bounded_29
  simp only [wt_e, up_e, gdb_t (show (0 : Int) = 0 ∨ (0 : Int) = 1 by decide), gdb_t (show (1 : Int) = 0 ∨ (1 : Int) = 1 by decide), if_true, if_neg (show ¬ (1 : Int) = 0 by decide)]
  by_cases c : m 0 54 = 0
  · rw [if_pos c]
    by_cases c1 : 1000000000000 < x
    · rw [if_pos c1]
      exact ⟨0, _, rfl, z, Fm.w1 ⟨rfl, rfl⟩, fun _ => up_e, fun _ => Or.inr ⟨by omega, up_e⟩⟩
    · rw [if_neg c1]
      by_cases c2 : -1000000000000 ≤ x
      · rw [if_pos c2]
        exact ⟨x, _, rfl, ⟨c2, by omega⟩, Fm.w1 ⟨rfl, rfl⟩, fun q => by omega, fun _ => Or.inl ⟨⟨c2, by omega⟩, rfl, up_e⟩⟩
      · rw [if_neg c2]
        exact ⟨0, _, rfl, z, Fm.w1 ⟨rfl, rfl⟩, fun _ => up_e, fun _ => Or.inr ⟨by omega, up_e⟩⟩
  · rw [if_neg c]
    exact ⟨0, _, rfl, z, Fm.w1 ⟨rfl, rfl⟩, fun _ => up_e, fun q => absurd q c⟩
theorem m_tim49 {a b s : Int} (he : m 0 54 = 0 ∨ m 0 54 = 1) (hs : (s = 0 ∧ -1000000000000 ≤ a * b ∧ a * b ≤ 1000000000000) ∨ (s = 1 ∧ ¬ (-1000000000000 ≤ a * b ∧ a * b ≤ 1000000000000))) : ∃ r m', G12_times_49 m a b s = some (r, m') ∧ bM r ∧ Fm P54 m m' ∧ (m 0 54 = 1 → m' 0 54 = 1) ∧ (m 0 54 = 0 → ((-1000000000000 ≤ a * b ∧ a * b ≤ 1000000000000) ∧ r = a * b ∧ m' 0 54 = 0) ∨ (¬ (-1000000000000 ≤ a * b ∧ a * b ≤ 1000000000000) ∧ m' 0 54 = 1)) := by
  have z : bM 0 := ⟨by decide, by decide⟩
  unfold G12_times_49 G12_times_64 G12_times_69
  simp only [wt_e, up_e, gdb_t (show (0 : Int) = 0 ∨ (0 : Int) = 1 by decide), gdb_t (show (1 : Int) = 0 ∨ (1 : Int) = 1 by decide), if_true, if_neg (show ¬ (1 : Int) = 0 by decide)]
  by_cases c : m 0 54 = 0
  · rw [if_pos c]
    rcases hs with ⟨h1, h2⟩ | ⟨h1, h2⟩
    · rw [if_pos h1, gd6_t (by omega)]
      exact ⟨a * b, _, rfl, h2, Fm.w1 ⟨rfl, rfl⟩, fun q => by omega, fun _ => Or.inl ⟨h2, rfl, up_e⟩⟩
    · rw [if_neg (by omega)]
      exact ⟨0, _, rfl, z, Fm.w1 ⟨rfl, rfl⟩, fun _ => up_e, fun _ => Or.inr ⟨h2, up_e⟩⟩
  · rw [if_neg c]
    exact ⟨0, _, rfl, z, Fm.w1 ⟨rfl, rfl⟩, fun _ => up_e, fun q => absurd q c⟩
theorem m_tim {a b : Int} (ha : bM a) (hb : bM b) (he : m 0 54 = 0 ∨ m 0 54 = 1) : ∃ r m', G12_times m a b = some (r, m') ∧ bM r ∧ Fm P54 m m' ∧ (m 0 54 = 1 → m' 0 54 = 1) ∧ (m 0 54 = 0 → ((-1000000000000 ≤ a * b ∧ a * b ≤ 1000000000000) ∧ r = a * b ∧ m' 0 54 = 0) ∨ (¬ (-1000000000000 ≤ a * b ∧ a * b ≤ 1000000000000) ∧ m' 0 54 = 1)) := by
  unfold G12_times G12_times_0 G12_times_48
  by_cases a0 : a = 0
  · rw [if_pos a0]
    exact m_tim49 he (Or.inl ⟨rfl, by subst a0; simp, by subst a0; simp⟩)
  · rw [if_neg a0]
    by_cases b0 : b = 0
    · rw [if_pos b0]
      exact m_tim49 he (Or.inl ⟨rfl, by subst b0; simp, by subst b0; simp⟩)
    · rw [if_neg b0]
      have hA := ab_b a
      have hB := ab_b b
      have key : (if 0 ≤ b then G12_times_24 m a b b else gd6 (-b) (G12_times_24 m a b (-b))) = G12_times_39 m a b (ab a) 1000000000000 (ab b) := by
        unfold bM at ha hb
        unfold G12_times_24 ab
        by_cases h1 : 0 ≤ a <;> by_cases h2 : 0 ≤ b
        · simp only [if_pos h1, if_pos h2]
        · simp only [if_pos h1, if_neg h2, gd6_t (show -9223372036854775808 ≤ -b ∧ -b ≤ 9223372036854775807 by omega), Int.zero_sub]
        · simp only [if_neg h1, if_pos h2, gd6_t (show -9223372036854775808 ≤ -a ∧ -a ≤ 9223372036854775807 by omega), Int.zero_sub]
        · simp only [if_neg h1, if_neg h2, gd6_t (show -9223372036854775808 ≤ -a ∧ -a ≤ 9223372036854775807 by omega), gd6_t (show -9223372036854775808 ≤ -b ∧ -b ≤ 9223372036854775807 by omega), Int.zero_sub]
      rw [key]
      unfold G12_times_39 G12_times_48
      have hf := mul_fit (a := b) (b := a) (by omega)
      rw [Int.mul_comm b a] at hf
      have htd : bM (Int.tdiv 1000000000000 (ab a)) := tdiv_b ⟨by decide, by decide⟩
      unfold bM at htd
      rw [if_neg (by omega), gd6_t (by omega)]
      by_cases h1 : ab b ≤ Int.tdiv 1000000000000 (ab a)
      · rw [if_pos h1]
        exact m_tim49 he (Or.inl ⟨rfl, hf.mp h1⟩)
      · rw [if_neg h1]
        exact m_tim49 he (Or.inr ⟨rfl, fun q => h1 (hf.mpr q)⟩)
/-- a node of the reference's tree: what it is worth, whether that is an error -/
theorem m_node {kn nm : Int → Int} {f : Int} {j : Nat} (hf : 0 ≤ f ∧ f + j < 64) (hN : NodeR kn m f j) (hn : ∀ q, 0 ≤ q → q < 6 → bM (nm q) ∧ m 23 q = nm q) (hb : ∀ q : Int, 0 ≤ q → q < (j : Int) → bM (m 24 (f + q))) (he : m 0 54 = 0 ∨ m 0 54 = 1) :
    ∃ r m', G12_valueOf m (f + j) = some (r, m') ∧ bM r ∧ Fm P54 m m' ∧ (m' 0 54 = 0 ∨ m' 0 54 = 1) ∧ (m 0 54 = 1 → m' 0 54 = 1) ∧ (m 0 54 = 0 → ∀ st, mtch (m 24) f (ist kn j) st → (∃ st' tl, stp kn nm j st = some (r :: st') ∧ ist kn (j + 1) = (j : Int) :: tl ∧ (∀ a ∈ tl, 0 ≤ a ∧ a < j) ∧ mtch (m 24) f tl st' ∧ m' 0 54 = 0) ∨ (stp kn nm j st = none ∧ m' 0 54 = 1)) := by
  have hib := ist_b kn j
  unfold G12_valueOf G12_valueOf_0
  simp only [gdx_t (show 0 ≤ f + (j : Int) ∧ f + (j : Int) < 128 by omega)]
  rcases hN with ⟨k0, k1, k2, k3⟩ | ⟨k1, k2, k3, k4⟩ | ⟨k1, k2, a, r, k3, k4⟩ | ⟨k1, k2, b, a, r, k3, k4, k5⟩
  · rw [k2, if_pos rfl, k3]
    refine ⟨kn j, m, rfl, ⟨by omega, by omega⟩, Fm.rf, he, id, fun e0 st hst => Or.inl ⟨st, ist kn j, ?_, ?_, hib, hst, e0⟩⟩
    · unfold stp; rw [if_pos k1]
    · show (if _ then _ else _) = _; rw [if_pos (Or.inl k1)]
  · rw [k3, if_neg (by decide), if_pos rfl, k4, gdx_t (by omega)]
    have h6 := hn (kn j - 10018) (by omega) (by omega)
    rw [h6.2]
    refine ⟨_, m, rfl, h6.1, Fm.rf, he, id, fun e0 st hst => Or.inl ⟨st, ist kn j, ?_, ?_, hib, hst, e0⟩⟩
    · unfold stp; rw [if_neg (by omega), if_pos ⟨k1, k2⟩]
    · show (if _ then _ else _) = _; rw [if_pos (Or.inr ⟨k1, k2⟩)]
  · have ha := hib a (by rw [k3]; simp)
    rw [k2, if_neg (by decide), if_neg (by decide), k4, gdx_t (by omega), if_pos rfl]
    have ht : ist kn (j + 1) = (j : Int) :: r := by
      show (if _ then _ else _) = _
      rw [if_neg (by omega), if_pos k1, k3]; rfl
    have htb : ∀ x ∈ r, 0 ≤ x ∧ x < (j : Int) := fun x hx => hib x (by rw [k3]; exact List.mem_cons_of_mem _ hx)
    have fin : ∀ x : Int, x = (if m 24 (f + a) = 0 then 1 else 0) → bM x → ∃ r' m', some (x, m) = some (r', m') ∧ bM r' ∧ Fm P54 m m' ∧ (m' 0 54 = 0 ∨ m' 0 54 = 1) ∧ (m 0 54 = 1 → m' 0 54 = 1) ∧ (m 0 54 = 0 → ∀ st, mtch (m 24) f (ist kn j) st → (∃ st' tl, stp kn nm j st = some (r' :: st') ∧ ist kn (j + 1) = (j : Int) :: tl ∧ (∀ a ∈ tl, 0 ≤ a ∧ a < (j : Int)) ∧ mtch (m 24) f tl st' ∧ m' 0 54 = 0) ∨ (stp kn nm j st = none ∧ m' 0 54 = 1)) := by
      intro x hx hxb
      refine ⟨x, m, rfl, hxb, Fm.rf, he, id, fun e0 st hst => ?_⟩
      rw [k3] at hst
      cases st with
      | nil => exact hst.elim
      | cons y st' =>
        refine Or.inl ⟨st', r, ?_, ht, htb, hst.2, e0⟩
        unfold stp
        rw [if_neg (by omega), if_neg (by omega), if_pos k1, hx, hst.1]
    split
    · rename_i c; exact fin 1 (by rw [if_pos c]) ⟨by decide, by decide⟩
    · rename_i c; exact fin 0 (by rw [if_neg c]) ⟨by decide, by decide⟩
  · have ha := hib a (by rw [k3]; simp)
    have hbb := hib b (by rw [k3]; simp)
    have hba := hb a ha.1 ha.2
    have hbv := hb b hbb.1 hbb.2
    have ht : ist kn (j + 1) = (j : Int) :: r := by
      show (if _ then _ else _) = _
      unfold bnk at k1
      rw [if_neg (by omega), if_neg (by omega), k3]; rfl
    have htb : ∀ x ∈ r, 0 ≤ x ∧ x < (j : Int) := fun x hx => hib x (by rw [k3]; exact List.mem_cons_of_mem _ (List.mem_cons_of_mem _ hx))
    have hop : 3 ≤ opM (kn j) ∧ opM (kn j) ≤ 14 := by unfold opM; unfold bnk at k1; (split; omega; split <;> omega)
    rw [if_neg (by omega), if_neg (by omega), k4, k5, gdx_t (by omega), if_neg (by omega), gdx_t (by omega)]
    -- what stp says here
    have hstp : ∀ st, mtch (m 24) f (ist kn j) st → ∃ st', stp kn nm j st = (if 1000000000000 < jn (kn j - 10000) (m 24 (f + a)) (m 24 (f + b)) ∨ jn (kn j - 10000) (m 24 (f + a)) (m 24 (f + b)) < -1000000000000 then none else some (jn (kn j - 10000) (m 24 (f + a)) (m 24 (f + b)) :: st')) ∧ mtch (m 24) f r st' := by
      intro st hst
      rw [k3] at hst
      match st, hst with
      | [], hst => exact hst.elim
      | [x], hst => exact hst.2.elim
      | x :: y :: st', hst =>
        refine ⟨st', ?_, hst.2.2⟩
        unfold stp
        unfold bnk at k1
        rw [if_neg (by omega), if_neg (by omega), if_neg (by omega), hst.1, hst.2.1]
    generalize hA : m 24 (f + a) = A at *
    generalize hB : m 24 (f + b) = B at *
    -- an end that leaves all as it is
    have fin : ∀ x : Int, x = jn (kn j - 10000) A B → bM x → ∃ r' m', some (x, m) = some (r', m') ∧ bM r' ∧ Fm P54 m m' ∧ (m' 0 54 = 0 ∨ m' 0 54 = 1) ∧ (m 0 54 = 1 → m' 0 54 = 1) ∧ (m 0 54 = 0 → ∀ st, mtch (m 24) f (ist kn j) st → (∃ st' tl, stp kn nm j st = some (r' :: st') ∧ ist kn (j + 1) = (j : Int) :: tl ∧ (∀ a ∈ tl, 0 ≤ a ∧ a < (j : Int)) ∧ mtch (m 24) f tl st' ∧ m' 0 54 = 0) ∨ (stp kn nm j st = none ∧ m' 0 54 = 1)) := by
      intro x hx hxb
      refine ⟨x, m, rfl, hxb, Fm.rf, he, id, fun e0 st hst => ?_⟩
      obtain ⟨st', q1, q2⟩ := hstp st hst
      unfold bM at hxb
      rw [← hx, if_neg (by omega)] at q1
      exact Or.inl ⟨st', r, q1, ht, htb, q2, e0⟩
    have o1 : bM 1 := ⟨by decide, by decide⟩
    have o0 : bM 0 := ⟨by decide, by decide⟩
    -- an end that may be an error
    have fin2 : ∀ (E : Option (Int × Mem)) (x : Int) (ok : Prop), (∃ r' m', E = some (r', m') ∧ bM r' ∧ Fm P54 m m' ∧ (m 0 54 = 1 → m' 0 54 = 1) ∧ (m 0 54 = 0 → (ok ∧ r' = x ∧ m' 0 54 = 0) ∨ (¬ ok ∧ m' 0 54 = 1))) → (ok → jn (kn j - 10000) A B = x ∧ bM x) → (¬ ok → 1000000000000 < jn (kn j - 10000) A B ∨ jn (kn j - 10000) A B < -1000000000000) → ∃ r' m', (E.bind fun o => some (o.1, o.2)) = some (r', m') ∧ bM r' ∧ Fm P54 m m' ∧ (m' 0 54 = 0 ∨ m' 0 54 = 1) ∧ (m 0 54 = 1 → m' 0 54 = 1) ∧ (m 0 54 = 0 → ∀ st, mtch (m 24) f (ist kn j) st → (∃ st' tl, stp kn nm j st = some (r' :: st') ∧ ist kn (j + 1) = (j : Int) :: tl ∧ (∀ a ∈ tl, 0 ≤ a ∧ a < (j : Int)) ∧ mtch (m 24) f tl st' ∧ m' 0 54 = 0) ∨ (stp kn nm j st = none ∧ m' 0 54 = 1)) := by
      rintro E x ok ⟨r', m', rfl, p2, p3, p4, p5⟩ hk1 hk2
      refine ⟨r', m', rfl, p2, p3, ?_, p4, fun e0 st hst => ?_⟩
      · rcases he with e0 | e1
        · rcases p5 e0 with q | q
          · exact Or.inl q.2.2
          · exact Or.inr q.2
        · exact Or.inr (p4 e1)
      · obtain ⟨st', q1, q2⟩ := hstp st hst
        rcases p5 e0 with ⟨c1, c2, c3⟩ | ⟨c1, c2⟩
        · obtain ⟨d1, d2⟩ := hk1 c1
          unfold bM at d2
          rw [d1, if_neg (by omega)] at q1
          rw [← c2] at q1
          exact Or.inl ⟨st', r, q1, ht, htb, q2, c3⟩
        · rw [if_pos (hk2 c1)] at q1
          exact Or.inr ⟨q1, c2⟩
    have cases : kn j = 10016 ∨ kn j = 10017 ∨ kn j = 10032 ∨ kn j = 10033 ∨ kn j = 10034 ∨ kn j = 10035 ∨ (10026 ≤ kn j ∧ kn j ≤ 10031) := by unfold bnk at k1; omega
    rcases cases with c | c | c | c | c | c | c
    · have e : opM (kn j) = 3 := by unfold opM; rw [if_pos c]
      have ej : jn (kn j - 10000) A B = (if A = 0 then 0 else if B = 0 then 0 else 1) := by rw [c]; rfl
      rw [k2, e, if_pos rfl]
      split
      · rename_i z; exact fin 0 (by rw [ej, if_pos z]) o0
      · rename_i z
        split
        · rename_i z2; exact fin 0 (by rw [ej, if_neg z, if_pos z2]) o0
        · rename_i z2; exact fin 1 (by rw [ej, if_neg z, if_neg z2]) o1
    · have e : opM (kn j) = 4 := by unfold opM; rw [if_neg (by omega), if_pos c]
      have ej : jn (kn j - 10000) A B = (if A = 0 then (if B = 0 then 0 else 1) else 1) := by rw [c]; rfl
      rw [k2, e, if_neg (by decide), if_pos rfl]
      split
      · rename_i z
        split
        · rename_i z2; exact fin 0 (by rw [ej, if_pos z, if_pos z2]) o0
        · rename_i z2; exact fin 1 (by rw [ej, if_pos z, if_neg z2]) o1
      · rename_i z; exact fin 1 (by rw [ej, if_neg z]) o1
    · have e : opM (kn j) = 11 := by unfold opM; rw [if_neg (by omega), if_neg (by omega)]; omega
      have ej : jn (kn j - 10000) A B = A + B := by rw [c]; rfl
      unfold bM at hba hbv
      rw [k2, e, if_neg (by decide), if_neg (by decide), if_pos rfl, gd6_t (by omega)]
      exact fin2 _ (A + B) _ (m_bnd he) (fun q => ⟨ej, q⟩) (fun q => by rw [ej]; omega)
    · have e : opM (kn j) = 12 := by unfold opM; rw [if_neg (by omega), if_neg (by omega)]; omega
      have ej : jn (kn j - 10000) A B = A - B := by rw [c]; rfl
      unfold bM at hba hbv
      rw [k2, e, if_neg (by decide), if_neg (by decide), if_neg (by decide), if_pos rfl, gd6_t (by omega)]
      exact fin2 _ (A - B) _ (m_bnd he) (fun q => ⟨ej, q⟩) (fun q => by rw [ej]; omega)
    · have e : opM (kn j) = 13 := by unfold opM; rw [if_neg (by omega), if_neg (by omega)]; omega
      have ej : jn (kn j - 10000) A B = (if -1000000000000 ≤ A * B ∧ A * B ≤ 1000000000000 then A * B else -9223372036854775808) := by rw [c]; rfl
      rw [k2, e, if_neg (by decide), if_neg (by decide), if_neg (by decide), if_neg (by decide), if_pos rfl]
      exact fin2 _ (A * B) _ (m_tim hba hbv he) (fun q => ⟨by rw [ej, if_pos q], q⟩) (fun q => by rw [ej, if_neg q]; omega)
    · have e : opM (kn j) = 14 := by unfold opM; rw [if_neg (by omega), if_neg (by omega)]; omega
      have ej : jn (kn j - 10000) A B = (if B = 0 then -9223372036854775808 else Int.tdiv A B) := by rw [c]; rfl
      have htd := tdiv_b (b := B) hba
      have htd' := htd
      unfold bM at htd'
      rw [k2, e, if_neg (by decide), if_neg (by decide), if_neg (by decide), if_neg (by decide), if_neg (by decide), if_pos rfl]
      have d0 : ∀ E : Option (Int × Mem), (∃ r' m', E = some (r', m') ∧ bM r' ∧ Fm P54 m m' ∧ (m 0 54 = 1 → m' 0 54 = 1) ∧ (m 0 54 = 0 → (B ≠ 0 ∧ r' = Int.tdiv A B ∧ m' 0 54 = 0) ∨ (¬ B ≠ 0 ∧ m' 0 54 = 1))) → ∃ r' m', E = some (r', m') ∧ bM r' ∧ Fm P54 m m' ∧ (m' 0 54 = 0 ∨ m' 0 54 = 1) ∧ (m 0 54 = 1 → m' 0 54 = 1) ∧ (m 0 54 = 0 → ∀ st, mtch (m 24) f (ist kn j) st → (∃ st' tl, stp kn nm j st = some (r' :: st') ∧ ist kn (j + 1) = (j : Int) :: tl ∧ (∀ a ∈ tl, 0 ≤ a ∧ a < (j : Int)) ∧ mtch (m 24) f tl st' ∧ m' 0 54 = 0) ∨ (stp kn nm j st = none ∧ m' 0 54 = 1)) := by
        intro E hE
        obtain ⟨r', m', q1, q2⟩ := fin2 E (Int.tdiv A B) _ hE (fun q => ⟨by rw [ej, if_neg q], htd⟩) (fun q => by rw [ej, if_pos (Classical.not_not.mp q)]; omega)
        refine ⟨r', m', ?_, q2⟩
        obtain ⟨r2, m2, rfl, _⟩ := hE
        exact q1
      apply d0
      unfold G12_valueOf_235 G12_valueOf_240
      simp only [wt_e, up_e, gdb_t (show (0 : Int) = 0 ∨ (0 : Int) = 1 by decide), gdb_t (show (1 : Int) = 0 ∨ (1 : Int) = 1 by decide), if_true, if_neg (show ¬ (1 : Int) = 0 by decide)]
      by_cases z : m 0 54 = 0
      · rw [if_pos z]
        by_cases z2 : B = 0
        · rw [if_pos z2]
          exact ⟨0, _, rfl, o0, Fm.w1 ⟨rfl, rfl⟩, fun _ => up_e, fun _ => Or.inr ⟨fun q => q z2, up_e⟩⟩
        · rw [if_neg z2, if_neg z2, gd6_t (by omega)]
          exact ⟨_, _, rfl, htd, Fm.w1 ⟨rfl, rfl⟩, fun q => by omega, fun _ => Or.inl ⟨z2, rfl, up_e⟩⟩
      · rw [if_neg z]
        exact ⟨0, _, rfl, o0, Fm.w1 ⟨rfl, rfl⟩, fun _ => up_e, fun q => absurd q z⟩
    · have e : opM (kn j) = kn j - 10021 := by unfold opM; rw [if_neg (by omega), if_neg (by omega)]
      rw [k2, e, if_neg (by omega), if_neg (by omega), if_neg (by omega), if_neg (by omega), if_neg (by omega), if_neg (by omega)]
      have hcmp : ∃ x, G12_compares m (kn j - 10021) A B = some (x, m) ∧ (x = 0 ∨ x = 1) ∧ x = jn (kn j - 10000) A B := by
        have : kn j = 10026 ∨ kn j = 10027 ∨ kn j = 10028 ∨ kn j = 10029 ∨ kn j = 10030 ∨ kn j = 10031 := by omega
        unfold G12_compares G12_compares_0
        rcases this with q | q | q | q | q | q <;> rw [q]
        · show ∃ x, (if B ≤ A then some (0, m) else some (1, m)) = _ ∧ _ ∧ x = (if B ≤ A then 0 else 1)
          split
          · exact ⟨0, rfl, Or.inl rfl, rfl⟩
          · exact ⟨1, rfl, Or.inr rfl, rfl⟩
        · show ∃ x, (if B < A then some (0, m) else some (1, m)) = _ ∧ _ ∧ x = (if B < A then 0 else 1)
          split
          · exact ⟨0, rfl, Or.inl rfl, rfl⟩
          · exact ⟨1, rfl, Or.inr rfl, rfl⟩
        · show ∃ x, (if A = B then some (1, m) else some (0, m)) = _ ∧ _ ∧ x = (if A = B then 1 else 0)
          split
          · exact ⟨1, rfl, Or.inr rfl, rfl⟩
          · exact ⟨0, rfl, Or.inl rfl, rfl⟩
        · show ∃ x, (if A = B then some (0, m) else some (1, m)) = _ ∧ _ ∧ x = (if A = B then 0 else 1)
          split
          · exact ⟨0, rfl, Or.inl rfl, rfl⟩
          · exact ⟨1, rfl, Or.inr rfl, rfl⟩
        · show ∃ x, (if A < B then some (0, m) else some (1, m)) = _ ∧ _ ∧ x = (if A < B then 0 else 1)
          split
          · exact ⟨0, rfl, Or.inl rfl, rfl⟩
          · exact ⟨1, rfl, Or.inr rfl, rfl⟩
        · show ∃ x, (if A ≤ B then some (0, m) else some (1, m)) = _ ∧ _ ∧ x = (if A ≤ B then 0 else 1)
          split
          · exact ⟨0, rfl, Or.inl rfl, rfl⟩
          · exact ⟨1, rfl, Or.inr rfl, rfl⟩
      obtain ⟨x, x1, x2, x3⟩ := hcmp
      rw [x1, bs1]
      simp only
      rcases x2 with rfl | rfl
      · rw [if_pos rfl]; exact fin 0 x3 o0
      · rw [if_neg (by decide)]; exact fin 1 x3 o1
end ML
/-! The reference: laws, peak, odds, times away. -/
def PE : Nat → Int → Prop := fun b i => b = 24 ∨ (b = 0 ∧ i = 54)
def PNm : Nat → Int → Prop := fun b i => b = 23 ∨ b = 24 ∨ (b = 0 ∧ i = 54)
theorem PE_N : ∀ b i, PE b i → PNm b i := fun b i h => Or.inr h
theorem RT.pn {v v' w : Mem} (h : RT v w) (f : Fm PNm v v') : RT v' w := h.fr f (by intro b i q; unfold PNm; omega)
theorem ist_s (kn : Int → Int) (j : Nat) : ist kn (j + 1) = if kn j < 10000 ∨ (10018 ≤ kn j ∧ kn j < 10024) then (j : Int) :: ist kn j else if kn j = 10015 then (j : Int) :: (ist kn j).drop 1 else (j : Int) :: (ist kn j).drop 2 := rfl
section MS
variable {m : Mem}
theorem m_law12 {k : Int} (hk : 0 ≤ k ∧ k < 6) {kn nm : Int → Int} {len f : Int} (hL : LX kn len) (hl0 : 0 < len) (hf : 0 ≤ f ∧ f + len ≤ 64) (hn : ∀ q, 0 ≤ q → q < 6 → bM (nm q)) :
    ∀ (d n j : Nat) (m : Mem), len - (j : Int) = d → d < n → m 17 k = f + len → (∀ j : Nat, (j : Int) < len → NodeR kn m f j) → (∀ q, 0 ≤ q → q < 6 → m 23 q = nm q) → (∀ q : Int, 0 ≤ q → q < (j : Int) → bM (m 24 (f + q))) → ((m 0 54 = 0 ∧ ∃ st, evl kn nm j = some st ∧ mtch (m 24) f (ist kn j) st) ∨ (m 0 54 = 1 ∧ evl kn nm j = none)) →
    ∃ r m', G12_lawOf_12 n m k (f + j) = some (r, m') ∧ Fm PE m m' ∧ ((m' 0 54 = 0 ∧ lv kn nm len = r ∧ bM r) ∨ (m' 0 54 = 1 ∧ lv kn nm len = -9223372036854775808)) := by
  have hlb := hL.1
  intro d
  induction d with
  | zero =>
    intro n j m a1 a2 a3 a4 a5 a6 a7
    obtain ⟨n, rfl⟩ : ∃ q, n = q + 1 := ⟨n - 1, by omega⟩
    have hj : len.toNat = j := by omega
    rw [G12_lawOf_12, gdx_t hk, a3, if_pos (by omega)]
    rcases a7 with ⟨e0, st, s1, s2⟩ | ⟨e1, s1⟩
    · rw [if_pos e0, gdx_t hk, gdx_t (by omega)]
      have h1 := hL.2.2 hl0
      obtain ⟨l, rfl⟩ : ∃ l, j = l + 1 := ⟨j - 1, by omega⟩
      have h2 : ist kn (l + 1) = [(l : Int)] := by
        rw [hj] at h1
        have : ∃ t, ist kn (l + 1) = (l : Int) :: t := by
          rw [ist_s]
          split
          · exact ⟨_, rfl⟩
          · split
            · exact ⟨_, rfl⟩
            · exact ⟨_, rfl⟩
        obtain ⟨t, ht⟩ := this
        rw [ht] at h1 ⊢
        cases t with
        | nil => rfl
        | cons _ _ => simp at h1
      rw [h2] at s2
      have e3 : f + len - 1 = f + (l : Int) := by omega
      rw [e3]
      match st, s2 with
      | [], s2 => exact s2.elim
      | x :: y :: r, s2 => exact s2.2.elim
      | [x], s2 =>
        refine ⟨m 24 (f + l), m, rfl, Fm.rf, Or.inl ⟨e0, ?_, a6 l (by omega) (by omega)⟩⟩
        unfold lv
        rw [hj, s1, s2.1]
    · rw [if_neg (by omega)]
      exact ⟨0, m, rfl, Fm.rf, Or.inr ⟨e1, lv_none s1 (by omega)⟩⟩
  | succ d ih =>
    intro n j m a1 a2 a3 a4 a5 a6 a7
    obtain ⟨n, rfl⟩ : ∃ q, n = q + 1 := ⟨n - 1, by omega⟩
    have he : m 0 54 = 0 ∨ m 0 54 = 1 := by rcases a7 with h | h <;> omega
    obtain ⟨r, m1, q1, q2, q3, q4, q5, q6⟩ := m_node (kn := kn) (nm := nm) (f := f) (j := j) ⟨hf.1, by omega⟩ (a4 j (by omega)) (fun q x y => ⟨hn q x y, a5 q x y⟩) a6 he
    rw [G12_lawOf_12, gdx_t hk, a3, if_neg (by omega), q1, bs1, gdx_t (by omega), wt_e, gd3_t (by omega)]
    simp only
    have e1 : f + (j : Int) + 1 = f + ((j + 1 : Nat) : Int) := by omega
    rw [e1]
    have k1 : ∀ c : Nat, c ≠ 0 → m1 c = m c := fun c hc => funext fun i => q3 c i (fun z => hc z.1)
    have fr1 : Fm PE m (up m1 24 (f + j) r) := (q3.mono (fun b i z => Or.inr z)).w (Or.inl rfl)
    have e54 : up m1 24 (f + j) r 0 54 = m1 0 54 := up_a (by decide)
    have r24 : up m1 24 (f + j) r 24 = fun i => if i = f + j then r else m 24 i := by rw [up_r, k1 24 (by decide)]
    have hev : evl kn nm (j + 1) = (evl kn nm j).bind (stp kn nm j) := rfl
    obtain ⟨r', m', z1, z2, z3⟩ := ih n (j + 1) (up m1 24 (f + j) r) (by omega) (by omega) (by rw [up_a (by decide), k1 17 (by decide)]; exact a3) (fun i hi => (a4 i hi).fr (by rw [up_b (by decide), k1 18 (by decide)]) (by rw [up_b (by decide), k1 19 (by decide)]) (by rw [up_b (by decide), k1 20 (by decide)])) (fun q x y => by rw [up_a (by decide), k1 23 (by decide)]; exact a5 q x y) (fun q x y => by
      rw [r24]
      show bM (if _ then _ else _)
      split
      · exact q2
      · exact a6 q x (by omega)) (by
      rw [e54, hev, r24]
      rcases a7 with ⟨e0, st, s1, s2⟩ | ⟨e1, s1⟩
      · rcases q6 e0 st s2 with ⟨st', tl, t1, t2, t3, t4, t5⟩ | ⟨t1, t2⟩
        · refine Or.inl ⟨t5, r :: st', by rw [s1, bs1]; exact t1, ?_⟩
          rw [t2]
          refine ⟨by simp, mtch_up t4 (fun a ha => ?_)⟩
          have := t3 a ha
          exact if_neg (by omega)
        · exact Or.inr ⟨t2, by rw [s1, bs1]; exact t1⟩
      · exact Or.inr ⟨q5 e1, by rw [s1]; rfl⟩)
    exact ⟨r', m', z1, fr1.tr z2, z3⟩
theorem m_law {w : Mem} {k : Int} {a b : Nat} (hk : 0 ≤ k ∧ k < 6) {nm : Int → Int} (hR : RLw m w k a b) (h1 : w a 2 = 1) (hL : LX (w b) (w a 1)) (hn : ∀ q, 0 ≤ q → q < 6 → bM (nm q) ∧ m 23 q = nm q) : ∃ r m', G12_lawOf m k = some (r, m') ∧ Fm PE m m' ∧ ((m' 0 54 = 0 ∧ lv (w b) nm (w a 1) = r ∧ bM r) ∨ (m' 0 54 = 1 ∧ lv (w b) nm (w a 1) = -9223372036854775808)) := by
  obtain ⟨g1, g2, g3, g4, g5⟩ := hR.2.2.2 h1
  have hlb := hL.1
  unfold G12_lawOf G12_lawOf_0
  rw [wt_e, gdx_t hk, up_a (by decide)]
  obtain ⟨r, m', q1, q2, q3⟩ := m_law12 hk hL g1 ⟨g2, by omega⟩ (fun q x y => (hn q x y).1) (w a 1).toNat 1024 0 (up m 0 54 0) (by omega) (by omega) (by rw [up_a (by decide)]; exact g3) (fun j hj => (g5 j hj).fr (up_b (by decide)) (up_b (by decide)) (up_b (by decide))) (fun q x y => by rw [up_a (by decide)]; exact (hn q x y).2) (fun q x y => by omega) (Or.inl ⟨up_e, [], rfl, trivial⟩)
  have e : m 16 k + ((0 : Nat) : Int) = m 16 k := by omega
  rw [e] at q1
  exact ⟨r, m', q1, (Fm.w1 (Or.inr ⟨rfl, rfl⟩)).tr q2, q3⟩
theorem m_bl {w : Mem} {k : Int} {a b : Nat} (hk : 0 ≤ k ∧ k < 6) {nm : Int → Int} (hR : RLw m w k a b) (hL : LX (w b) (w a 1)) (hn : ∀ q, 0 ≤ q → q < 6 → bM (nm q) ∧ m 23 q = nm q) {wo lo hi : Int} (hh : -1000 ≤ lo ∧ lo ≤ hi ∧ hi ≤ 1000) : ∃ m', G12_boundLaw m k wo lo hi = some ((if lv (w b) nm (w a 1) = -9223372036854775808 then wo else clp lo hi (lv (w b) nm (w a 1))), m') ∧ Fm PE m m' := by
  unfold G12_boundLaw G12_boundLaw_0
  rw [gdx_t hk, hR.1]
  by_cases c : w a 2 = 0
  · rw [if_pos c]
    have : lv (w b) nm (w a 1) = -9223372036854775808 := by
      rw [hR.2.2.1 c]; rfl
    rw [if_pos this]
    exact ⟨m, rfl, Fm.rf⟩
  · rw [if_neg c]
    obtain ⟨r, m', q1, q2, q3⟩ := m_law hk hR (by have := hR.2.1; omega) hL hn
    rw [q1, bs1]
    refine ⟨m', ?_, q2⟩
    simp only
    rcases q3 with ⟨e0, e1, e2⟩ | ⟨e0, e1⟩
    · unfold bM at e2
      have hne : ¬ r = -9223372036854775808 := by omega
      rw [if_pos e0, e1, if_neg hne]
      unfold clp
      by_cases c1 : lo ≤ r
      · rw [if_pos c1]
        by_cases c2 : r ≤ hi
        · rw [if_pos c2, gd3_t (by omega)]
          by_cases c3 : r < hi
          · rw [if_pos c3, if_neg (by omega)]
          · rw [if_neg c3, if_neg (by omega)]
            congr 2; omega
        · rw [if_neg c2, if_neg (by omega), if_neg (by omega)]
      · rw [if_neg c1, if_pos (by omega)]
    · rw [if_neg (by omega), if_pos e1]
def bdM (w : Mem) (way s : Int) : Int := if way = 3 then 9 else w 4 s
def pxM (w : Mem) (way mn : Int) : Int := if way = 2 then w 0 2 else pkX w mn
variable {w : Mem}
theorem bdM_b (hW : WW w) {way s : Int} (hs : 0 ≤ s ∧ s < w 1 0) : 1 ≤ bdM w way s ∧ bdM w way s ≤ 9 := by
  have := hW.2.1 s hs.1 hs.2
  unfold bdM; split <;> omega
theorem pxM_b (hW : WW w) {way mn : Int} : 0 ≤ pxM w way mn ∧ pxM w way mn < w 0 0 := by
  have hw := hW.1
  unfold WS at hw
  unfold pxM; split
  · omega
  · exact pkX_b hW mn
theorem m_nm (m : Mem) (x1 x2 x3 x4 x5 : Int) (hv : x4 = -1 ∨ (0 ≤ x4 ∧ x4 < 56 ∧ 0 ≤ m 14 x4 ∧ m 14 x4 < 8 ∧ -1000000 ≤ x4 - m 11 (m 14 x4) + 1 ∧ x4 - m 11 (m 14 x4) + 1 ≤ 1000000)) : ∃ m', G12_layNames m x1 x2 x3 x4 x5 = some m' ∧ Fm (fun b _ => b = 23) m m' ∧ m' 23 0 = x1 ∧ m' 23 1 = x2 ∧ m' 23 2 = x3 ∧ m' 23 3 = (if x4 < 0 then 0 else m 13 x4) ∧ m' 23 4 = x5 ∧ m' 23 5 = (if x4 < 0 then 0 else x4 - m 11 (m 14 x4) + 1) := by
  unfold G12_layNames G12_layNames_0 G12_layNames_46 G12_layNames_88
  simp only [wt_e]
  rcases hv with rfl | hv
  · rw [if_neg (by decide), gdx_t (by decide), if_neg (by decide), gdx_t (by decide)]
    refine ⟨_, rfl, ?_, ?_, ?_, ?_, ?_, ?_, ?_⟩
    · intro b i hb
      have hb : b ≠ 23 := hb
      simp only [up_a hb]
    all_goals simp (disch := decide) only [up_e, up_i] <;> rfl
  · rw [if_pos hv.1, gdx_t (by omega), gdx_t (by decide), if_pos hv.1, gdx_t (by omega)]
    simp (disch := decide) only [up_a]
    rw [gdx_t (by omega), gd3_t (by omega), gdx_t (by decide)]
    refine ⟨_, rfl, ?_, ?_, ?_, ?_, ?_, ?_, ?_⟩
    · intro b i hb
      have hb : b ≠ 23 := hb
      simp only [up_a hb]
    · simp (disch := decide) only [up_e, up_i]
    · simp (disch := decide) only [up_e, up_i]
    · simp (disch := decide) only [up_e, up_i]
    · simp (disch := decide) only [up_e, up_i, if_neg (show ¬ x4 < 0 by omega)]
    · simp (disch := decide) only [up_e, up_i]
    · simp (disch := decide) only [up_e, up_i, if_neg (show ¬ x4 < 0 by omega)]
theorem m_pk (hT : RT m w) (hW : WW w) {mn : Int} (hm : 0 ≤ mn ∧ mn ≤ 1000) : ∃ m', G12_peakAt m mn = some (w 0 0 * w 0 3 + pxM w (m 0 66) mn, m') ∧ Fm PNm m m' := by
  have hw := hW.1
  unfold WS at hw
  have hmul : 0 ≤ w 0 0 * w 0 3 ∧ w 0 0 * w 0 3 ≤ 8 * 6 := ⟨Int.mul_nonneg (by omega) (by omega), Int.mul_le_mul (by omega) (by omega) (by omega) (by omega)⟩
  obtain ⟨m1, e1, f1, n0, n1, n2, n3, n4, n5⟩ := m_nm m 0 0 0 (-1) mn (Or.inl rfl)
  have k1 : ∀ (c : Nat) (i : Int), c ≠ 23 → m1 c i = m c i := fun c i hc => f1 c i hc
  have fN : Fm PNm m m1 := f1.mono (fun b i z => Or.inl z)
  have hT1 := hT.pn fN
  unfold G12_peakAt G12_peakAt_0
  rw [e1, bs1, k1 0 66 (by decide), k1 4 0 (by decide), hT.2.1.1]
  have fin : ∀ (x : Int) (m2 : Mem), RT m2 w → -8 ≤ x → x ≤ 8 → G12_peakAt_37 m2 x (w 0 2) = some (w 0 0 * w 0 3 + clp 0 (w 0 0 - 1) (w 0 2 + x), m2) := by
    intro x m2 h2 x1 x2
    unfold G12_peakAt_37 clp
    rw [h2.1.1, h2.2.1.2.1]
    rw [gd3_t (by omega)]
    by_cases c1 : 0 ≤ w 0 2 + x
    · rw [if_pos c1, gd3_t (by omega)]
      by_cases c2 : w 0 2 + x < w 0 0
      · rw [if_pos c2, gd3_t (by omega)]
        by_cases c3 : w 0 2 + x < w 0 0 - 1
        · rw [if_pos c3, if_neg (by omega)]
        · rw [if_neg c3, if_neg (by omega)]
          congr 2; omega
      · rw [if_neg c2, gd3_t (by omega), if_neg (by omega), if_neg (by omega)]
    · rw [if_neg c1, gd3_t (by omega), if_pos (by omega)]
  unfold pxM
  by_cases c : m 0 66 = 2
  · rw [if_pos c, if_pos c, fin 0 m1 hT1 (by omega) (by omega)]
    refine ⟨m1, ?_, fN⟩
    congr 3
    unfold clp
    by_cases c3 : w 0 2 + 0 < w 0 0 - 1
    · rw [if_pos c3, if_neg (by omega)]; omega
    · rw [if_neg c3, if_neg (by omega)]; omega
  · rw [if_neg c, if_neg c]
    obtain ⟨m2, e2, f2⟩ := m_bl (m := m1) (w := w) (k := 1) (a := 18) (b := 19) (by omega) (nm := nmD mn) hT1.2.2.2.2.2.2.1 hW.2.2.2.2.2.1 (fun q x y => ⟨bM_sm (by unfold nmD; split <;> omega), by
      have : q = 0 ∨ q = 1 ∨ q = 2 ∨ q = 3 ∨ q = 4 ∨ q = 5 := by omega
      unfold nmD
      rcases this with rfl | rfl | rfl | rfl | rfl | rfl
      · exact n0
      · exact n1
      · exact n2
      · exact n3
      · exact n4
      · exact n5⟩) (wo := 0) (lo := -8) (hi := 8) (by omega)
    rw [e2, bs1]
    have fN2 := fN.tr (f2.mono PE_N)
    have hT2 := hT.pn fN2
    refine ⟨m2, ?_, fN2⟩
    simp only
    have hb : -8 ≤ (if lv (w 19) (nmD mn) (w 18 1) = -9223372036854775808 then 0 else clp (-8) 8 (lv (w 19) (nmD mn) (w 18 1))) ∧ (if lv (w 19) (nmD mn) (w 18 1) = -9223372036854775808 then 0 else clp (-8) 8 (lv (w 19) (nmD mn) (w 18 1))) ≤ 8 := by
      split
      · omega
      · exact clp_b (by omega)
    rw [fin _ m2 hT2 hb.1 hb.2]
    rfl
theorem pk_dm (hW : WW w) {x : Int} (hx : 0 ≤ x ∧ x < w 0 0) : (w 0 0 * w 0 3 + x) % w 0 0 = x ∧ (w 0 0 * w 0 3 + x) / w 0 0 = w 0 3 ∧ 0 ≤ w 0 0 * w 0 3 + x ∧ w 0 0 * w 0 3 + x < w 0 0 * w 0 1 := by
  have hw := hW.1
  unfold WS at hw
  refine ⟨?_, ?_, ?_, ?_⟩
  · rw [Int.add_comm, Int.add_mul_emod_self_left]
    exact Int.emod_eq_of_lt hx.1 hx.2
  · rw [Int.add_comm, Int.add_mul_ediv_left _ _ (by omega), Int.ediv_eq_zero_of_lt hx.1 hx.2, Int.zero_add]
  · have := Int.mul_nonneg (show 0 ≤ w 0 0 by omega) (show 0 ≤ w 0 3 by omega)
    omega
  · have h1 : w 0 0 * (w 0 3 + 1) ≤ w 0 0 * w 0 1 := Int.mul_le_mul_of_nonneg_left (by omega) (by omega)
    rw [Int.mul_add, Int.mul_one] at h1
    omega
theorem m_far (hT : RT m w) (hW : WW w) {c x : Int} (hc : 0 ≤ c ∧ c < w 0 0 * w 0 1) (hx : 0 ≤ x ∧ x < w 0 0) : G12_far m c (w 0 0 * w 0 3 + x) = some (fr w c x, m) := by
  have hw := hW.1
  unfold WS at hw
  obtain ⟨p1, p2, p3, p4⟩ := pk_dm hW hx
  obtain ⟨b1, b2, b3, b4, e, b5⟩ := cell_b (W := w 0 0) (H := w 0 1) (by omega) (by omega) hc
  unfold G12_far G12_far_0 G12_far_39 fr ab
  simp only [hT.1.1, p1, p2, if_neg (show ¬ w 0 0 = 0 by omega), gdd_t (show 0 ≤ c ∧ 0 < w 0 0 by omega), gdd_t (show 0 ≤ w 0 0 * w 0 3 + x ∧ 0 < w 0 0 by omega)]
  simp only [gd3_t (show -2147483648 ≤ c % w 0 0 - x ∧ c % w 0 0 - x ≤ 2147483647 by omega), gd3_t (show -2147483648 ≤ c / w 0 0 - w 0 3 ∧ c / w 0 0 - w 0 3 ≤ 2147483647 by omega), gd3_t (show -2147483648 ≤ -(c % w 0 0 - x) ∧ -(c % w 0 0 - x) ≤ 2147483647 by omega), gd3_t (show -2147483648 ≤ c % w 0 0 - x + (c / w 0 0 - w 0 3) ∧ c % w 0 0 - x + (c / w 0 0 - w 0 3) ≤ 2147483647 by omega), gd3_t (show -2147483648 ≤ c % w 0 0 - x + -(c / w 0 0 - w 0 3) ∧ c % w 0 0 - x + -(c / w 0 0 - w 0 3) ≤ 2147483647 by omega), gd3_t (show -2147483648 ≤ -(c % w 0 0 - x) + (c / w 0 0 - w 0 3) ∧ -(c % w 0 0 - x) + (c / w 0 0 - w 0 3) ≤ 2147483647 by omega), gd3_t (show -2147483648 ≤ -(c % w 0 0 - x) + -(c / w 0 0 - w 0 3) ∧ -(c % w 0 0 - x) + -(c / w 0 0 - w 0 3) ≤ 2147483647 by omega)]
  split <;> split <;> simp only [Int.zero_sub]
theorem wnm (hT : RT m w) (hW : WW w) {v : Int} (hv : 0 ≤ v ∧ v < w 8 1) : 0 ≤ v ∧ v < 56 ∧ 0 ≤ m 14 v ∧ m 14 v < 8 ∧ -1000000 ≤ v - m 11 (m 14 v) + 1 ∧ v - m 11 (m 14 v) + 1 ≤ 1000000 ∧ m 12 v = w 11 v ∧ m 13 v = w 12 v ∧ m 14 v = w 13 v ∧ v - m 11 (m 14 v) + 1 = w 14 v := by
  have hw := hW.1
  unfold WS at hw
  obtain ⟨e1, e2, e3⟩ := hT.2.2.2.2.1 v hv.1 hv.2
  have h1 := (hW.2.2.2.1 v hv.1 hv.2).1
  have h2 := hT.2.2.2.1 (w 13 v) h1.1 h1.2.1
  have h3 := hW.2.2.1.2.2 (w 13 v) h1.1 h1.2.1
  rw [e3, h2]
  exact ⟨by omega, by omega, by omega, by omega, by omega, by omega, e1, e2, rfl, by omega⟩
theorem m_bd (hT : RT m w) {s : Int} (hs : 0 ≤ s ∧ s < w 1 0) (h5 : w 1 0 ≤ 5) : G12_boardOf m s = some (bdM w (m 0 66) s, m) := by
  unfold G12_boardOf G12_boardOf_0 bdM
  rw [gdx_t (by omega), (hT.2.2.1 s hs.1 hs.2).2.2.1]
  split <;> rfl
theorem m_lc (hT : RT m w) (hW : WW w) {s v c : Int} (hs : 0 ≤ s ∧ s < w 1 0) (hv : 0 ≤ v ∧ v < w 8 1) (hc : 0 ≤ c ∧ c < w 0 0 * w 0 1) : ∃ m', G12_layCatch m s v c = some (fr w c (pxM w (m 0 66) (w 11 v)), m') ∧ Fm PNm m m' ∧ ∀ q, 0 ≤ q → q < 6 → m' 23 q = nmC w (bdM w (m 0 66) s) (pxM w (m 0 66) (w 11 v)) v c q := by
  have hw := hW.1
  unfold WS at hw
  obtain ⟨n1, n2, n3, n4, n5, n6, n7, n8, n9, n10⟩ := wnm hT hW hv
  have hm := (hW.2.2.2.1 v hv.1 hv.2).2.1
  obtain ⟨m1, e1, f1⟩ := m_pk hT hW (mn := w 11 v) (by omega)
  have hT1 := hT.pn f1
  have hpx := pxM_b hW (way := m 0 66) (mn := w 11 v)
  have e66 : m1 0 66 = m 0 66 := f1 0 66 (by unfold PNm; omega)
  obtain ⟨p1, p2, p3, p4⟩ := pk_dm hW hpx
  have hcb := cell_b (W := w 0 0) (H := w 0 1) (by omega) (by omega) hc
  unfold G12_layCatch G12_layCatch_0
  rw [gdx_t (by omega), n7, e1, bs1]
  simp only
  rw [m_far hT1 hW hc hpx, bs1]
  simp only
  rw [hT1.1.1, if_neg (by omega), if_neg (by omega), m_bd hT1 hs (by omega), bs1, gdx_t (by omega), gdd_t (by omega), gdd_t (by omega), p2, gd3_t (by omega)]
  simp only
  rw [(wnm hT1 hW hv).2.2.2.2.2.2.1]
  obtain ⟨a1, a2, a3, a4, a5, a6, a7, a8, a9, a10⟩ := wnm hT1 hW hv
  obtain ⟨m2, g1, g2, g3, g4, g5, g6, g7, g8⟩ := m_nm m1 (fr w c (pxM w (m 0 66) (w 11 v))) (c / w 0 0 - w 0 3) (bdM w (m1 0 66) s) v (w 11 v) (Or.inr ⟨a1, a2, a3, a4, a5, a6⟩)
  rw [g1, bs1]
  refine ⟨m2, rfl, f1.tr (g2.mono (fun b i z => Or.inl z)), fun q x y => ?_⟩
  have : q = 0 ∨ q = 1 ∨ q = 2 ∨ q = 3 ∨ q = 4 ∨ q = 5 := by omega
  unfold nmC nmA
  rcases this with rfl | rfl | rfl | rfl | rfl | rfl
  · exact g3
  · exact g4
  · rw [g5, e66]; rfl
  · rw [g6, if_neg (by omega), a8]; rfl
  · exact g7
  · rw [g8, if_neg (by omega), a10]; rfl
theorem m_odds (hT : RT m w) (hW : WW w) {s v c : Int} (hs : 0 ≤ s ∧ s < w 1 0) (hv : 0 ≤ v ∧ v < w 8 1) (hc : 0 ≤ c ∧ c < w 0 0 * w 0 1) : ∃ m', G12_oddsOf m s v c = some (oddsV w (bdM w (m 0 66) s) (pxM w (m 0 66) (w 11 v)) v c, m') ∧ Fm PNm m m' := by
  have hw := hW.1
  unfold WS at hw
  have hpx := pxM_b hW (way := m 0 66) (mn := w 11 v)
  have hfb := fr_b (w := w) (by omega) (by omega) (by omega) hc hpx
  obtain ⟨m1, e1, f1, n1⟩ := m_lc hT hW hs hv hc
  have hT1 := hT.pn f1
  unfold G12_oddsOf G12_oddsOf_0 G12_oddsOf_29
  rw [e1, bs1]
  simp only
  have fin : ∀ wo : Int, wo = (if 0 < 100 - 20 * fr w c (pxM w (m 0 66) (w 11 v)) then 100 - 20 * fr w c (pxM w (m 0 66) (w 11 v)) else 0) → ∃ m', ((G12_boundLaw m1 0 wo 0 100).bind fun o1 => some (o1.1, o1.2)) = some (oddsV w (bdM w (m 0 66) s) (pxM w (m 0 66) (w 11 v)) v c, m') ∧ Fm PNm m m' := by
    intro wo hwo
    obtain ⟨m2, e2, f2⟩ := m_bl (m := m1) (w := w) (k := 0) (a := 16) (b := 17) (by omega) (nm := nmC w (bdM w (m 0 66) s) (pxM w (m 0 66) (w 11 v)) v c) hT1.2.2.2.2.2.1 hW.2.2.2.2.1 (fun q x y => ⟨bM_sm (nmC_b hW (bdM_b hW hs) hv hc hpx q), n1 q x y⟩) (wo := wo) (lo := 0) (hi := 100) (by omega)
    rw [e2, bs1]
    refine ⟨m2, ?_, f1.tr (f2.mono PE_N)⟩
    rw [hwo]; rfl
  split
  · exact fin 0 (by rw [if_neg (by omega)])
  · rw [gd3_t (by omega)]
    exact fin _ (by rw [if_pos (by omega)])
theorem m_away (hT : RT m w) (hW : WW w) {s v : Int} (hs : 0 ≤ s ∧ s < w 1 0) (hv : 0 ≤ v ∧ v < w 8 1) : ∃ m', G12_awayOf m s v = some (awayN w (bdM w (m 0 66) s) v, m') ∧ Fm PNm m m' := by
  have hw := hW.1
  unfold WS at hw
  obtain ⟨a1, a2, a3, a4, a5, a6, a7, a8, a9, a10⟩ := wnm hT hW hv
  unfold G12_awayOf G12_awayOf_0
  rw [m_bd hT hs (by omega), bs1, gdx_t (by omega)]
  simp only
  rw [a7]
  obtain ⟨m1, e1, f1, g3, g4, g5, g6, g7, g8⟩ := m_nm m 0 0 (bdM w (m 0 66) s) v (w 11 v) (Or.inr ⟨a1, a2, a3, a4, a5, a6⟩)
  have fN : Fm PNm m m1 := f1.mono (fun b i z => Or.inl z)
  have hT1 := hT.pn fN
  rw [e1, bs1]
  obtain ⟨m2, e2, f2⟩ := m_bl (m := m1) (w := w) (k := 2) (a := 20) (b := 21) (by omega) (nm := nmA w (bdM w (m 0 66) s) v) hT1.2.2.2.2.2.2.2 hW.2.2.2.2.2.2 (fun q x y => ⟨bM_sm (nmA_b hW (bdM_b hW hs) hv q), by
    have : q = 0 ∨ q = 1 ∨ q = 2 ∨ q = 3 ∨ q = 4 ∨ q = 5 := by omega
    unfold nmA
    rcases this with rfl | rfl | rfl | rfl | rfl | rfl
    · exact g3
    · exact g4
    · exact g5
    · rw [g6, if_neg (by omega), a8]; rfl
    · exact g7
    · rw [g8, if_neg (by omega), a10]; rfl⟩) (wo := 5) (lo := 1) (hi := 30) (by omega)
  rw [e2, bs1]
  exact ⟨m2, rfl, fN.tr (f2.mono PE_N)⟩
end MS
/-! The reference: who is in the order. -/
/-- boards, boldness and the peak as they are tried: way -1 as told -/
def gM (w : Mem) (way : Int) : Mem := fun c i => if c = 1 then bdM w way i else if c = 2 then (if way = 0 then 0 else w 6 i) else if c = 3 then pxM w way (w 11 i) else 0
/-- the reference's rows of bank b hold the minute n -/
def NM (v : Mem) (b : Int) (w n : Mem) : Prop := (∀ i, 0 ≤ i → i < w 1 0 → v 25 (5 * b + i) = n 1 i ∧ v 26 (5 * b + i) = n 2 i ∧ v 27 (5 * b + i) = n 3 i) ∧ (∀ k, 0 ≤ k → k < w 8 1 → v 30 (28 * b + k) = n 6 k) ∧ v 32 b = n 0 3 ∧ v 33 b = n 0 4 ∧ v 0 65 = n 0 2
/-- till when each is away, at minute mn -/
def TLM (v : Mem) (b : Int) (w n : Mem) (way one mn : Int) : Prop := ∀ i, 0 ≤ i → i < w 1 0 → (way = 1 ∧ one = i ∧ 1000 < n 4 i) ∨ (¬ (way = 1 ∧ one = i) ∧ v 28 (5 * b + i) = if n 4 i ≤ mn then 0 else n 4 i)
def keyM (w : Mem) (way : Int) (n : Mem) (v i : Int) : Int := if n 0 1 = 0 then fr w (n 1 i) (pxM w way (w 11 v)) else if n 0 1 = 1 then n 2 i else if n 0 1 = 3 then -(n 1 i / w 0 0) else (if hos w n i (w 13 v) = 0 then 0 + fr w (n 1 i) (pxM w way (w 11 v)) else 1000 + fr w (n 1 i) (pxM w way (w 11 v)))
def PO : Nat → Int → Prop := fun b i => PNm b i ∨ b = 34 ∨ (b = 0 ∧ i = 69)
theorem RT.po {v v' w : Mem} (h : RT v w) (f : Fm PO v v') : RT v' w := h.fr f (by intro b i q; unfold PO PNm; omega)
theorem NM.fr {v v' : Mem} {b : Int} {w n : Mem} (h : NM v b w n) {P : Nat → Int → Prop} (f : Fm P v v') (hp : ∀ a i, (25 ≤ a ∧ a ≤ 33) ∨ (a = 0 ∧ i = 65) → ¬ P a i) : NM v' b w n := by
  obtain ⟨h1, h2, h3, h4, h5⟩ := h
  refine ⟨fun i x y => ?_, fun k x y => ?_, ?_, ?_, ?_⟩
  · rw [f _ _ (hp 25 _ (Or.inl (by omega))), f _ _ (hp 26 _ (Or.inl (by omega))), f _ _ (hp 27 _ (Or.inl (by omega)))]; exact h1 i x y
  · rw [f _ _ (hp 30 _ (Or.inl (by omega)))]; exact h2 k x y
  · rw [f _ _ (hp 32 _ (Or.inl (by omega)))]; exact h3
  · rw [f _ _ (hp 33 _ (Or.inl (by omega)))]; exact h4
  · rw [f _ _ (hp 0 65 (Or.inr ⟨rfl, rfl⟩))]; exact h5
theorem NM.po {v v' : Mem} {b : Int} {w n : Mem} (h : NM v b w n) (f : Fm PO v v') : NM v' b w n := h.fr f (by intro a i q; unfold PO PNm; omega)
theorem TLM.fr {v v' : Mem} {b : Int} {w n : Mem} {way one mn : Int} (h : TLM v b w n way one mn) (e : v' 28 = v 28) : TLM v' b w n way one mn := by
  unfold TLM at *; rw [e]; exact h
section MO
variable {m w n : Mem} {b : Int}
theorem m_hod (hT : RT m w) (hs : 0 ≤ w 8 1 ∧ w 8 1 ≤ 28) (hb : b = 0 ∨ b = 1) (hN : NM m b w n) {s v far : Int} (hf : 0 ≤ far ∧ far ≤ 1000) (hv : 0 ≤ v ∧ v < w 8 1) : ∀ (d k : Nat) (i x : Int), 0 ≤ i → w 8 1 - i = d → d < k → (x = 0 ∨ x = 1) → G12_keyOf_76 k m b s v far x i = some ((if x = 0 then (if hod (w 13) (n 6) s (w 13 v) d i = 0 then 0 + far else 1000 + far) else 1000 + far), m) := by
  intro d
  induction d with
  | zero =>
    intro k i x a1 a2 a3 a4
    obtain ⟨k, rfl⟩ : ∃ j, k = j + 1 := ⟨k - 1, by omega⟩
    rw [G12_keyOf_76, hT.1.2.2.2.2.1, if_pos (by omega), gd3_t (by omega), gd3_t (by omega)]
    unfold hod
    rcases a4 with rfl | rfl
    · rfl
    · rfl
  | succ d ih =>
    intro k i x a1 a2 a3 a4
    obtain ⟨k, rfl⟩ : ∃ j, k = j + 1 := ⟨k - 1, by omega⟩
    have e1 := (hT.2.2.2.2.1 i (by omega) (by omega)).2.2
    have e2 := (hT.2.2.2.2.1 v hv.1 hv.2).2.2
    have e3 := hN.2.1 i (by omega) (by omega)
    rw [G12_keyOf_76, hT.1.2.2.2.2.1, if_neg (by omega)]
    unfold G12_keyOf_122
    have g1 : ∀ y : Option (Int × Mem), gd3 (i + 1) y = y := fun y => gd3_t (by omega)
    rw [gdx_t (by omega), gdx_t (by omega), gdx_t (by omega), e1, e2, e3]
    have i0 := ih k (i + 1) 0 (by omega) (by omega) (by omega) (Or.inl rfl)
    have i1 := ih k (i + 1) 1 (by omega) (by omega) (by omega) (Or.inr rfl)
    simp only [g1, i0, i1, if_true, if_neg (show ¬ (1 : Int) = 0 by decide), hod_s]
    rcases a4 with rfl | rfl
    · simp only [if_true]
      by_cases c1 : w 13 i = w 13 v
      · by_cases c2 : n 6 i = s
        · simp only [if_pos c1, if_pos c2, if_neg (show ¬ (1 : Int) = 0 by decide)]
        · simp only [if_pos c1, if_neg c2]
      · simp only [if_neg c1]
    · rfl
theorem m_key (hT : RT m w) (hW : WW w) (hb : b = 0 ∨ b = 1) (hN : NM m b w n) {f : Int} (hB : NB w n f) {s v : Int} (hs : 0 ≤ s ∧ s < w 1 0) (hv : 0 ≤ v ∧ v < w 8 1) : ∃ m', G12_keyOf m b s v (n 0 1) = some (keyM w (m 0 66) n v s, m') ∧ Fm PNm m m' := by
  have hw := hW.1
  unfold WS at hw
  have hnb := hB.2 s hs.1 hs.2
  have hrl := hB.1
  have hm := (hW.2.2.2.1 v hv.1 hv.2).2.1
  have hpx := pxM_b hW (way := m 0 66) (mn := w 11 v)
  have hfb := fr_b (w := w) (by omega) (by omega) (by omega) hnb.1 hpx
  have hcb := cell_b (W := w 0 0) (H := w 0 1) (by omega) (by omega) hnb.1
  obtain ⟨m1, e1, f1⟩ := m_pk hT hW (mn := w 11 v) (by omega)
  have hT1 := hT.pn f1
  have hN1 : NM m1 b w n := hN.fr f1 (by intro a i q; unfold PNm; omega)
  unfold G12_keyOf G12_keyOf_0
  rw [gdx_t (by omega), gdx_t (by omega), (hT.2.2.2.2.1 v hv.1 hv.2).1, (hN.1 s hs.1 hs.2).1, e1, bs1]
  simp only
  rw [m_far hT1 hW hnb.1 hpx, bs1]
  simp only
  rw [gdx_t (by omega), (hN1.1 s hs.1 hs.2).2.1, hT1.1.1, if_neg (show ¬ w 0 0 = 0 by omega), gdd_t (by omega), gd3_t (by omega), m_hod hT1 (by omega) hb hN1 (by omega) hv (w 8 1).toNat 1024 0 0 (by omega) (by omega) (by omega) (Or.inl rfl)]
  refine ⟨m1, ?_, f1⟩
  unfold keyM hos
  simp only [if_true]
  split
  · rfl
  · split
    · rfl
    · split
      · rfl
      · rfl
theorem key_le (hW : WW w) {f : Int} (hB : NB w n f) {way v e x : Int} (he : 0 ≤ e ∧ e < w 1 0) (hx : 0 ≤ x ∧ x < w 1 0) : keyM w way n v e ≤ keyM w way n v x ↔ keyV w (gM w way) n v e ≤ keyV w (gM w way) n v x := by
  have hw := hW.1
  unfold WS at hw
  have h1 := fr_b (w := w) (by omega) (by omega) (by omega) (hB.2 e he.1 he.2).1 (pxM_b hW (way := way) (mn := w 11 v))
  have h2 := fr_b (w := w) (by omega) (by omega) (by omega) (hB.2 x hx.1 hx.2).1 (pxM_b hW (way := way) (mn := w 11 v))
  have hr := hB.1
  have eg : gM w way 3 v = pxM w way (w 11 v) := rfl
  unfold keyM keyV
  rw [eg]
  have : n 0 1 = 0 ∨ n 0 1 = 1 ∨ n 0 1 = 2 ∨ n 0 1 = 3 := by omega
  rcases this with c | c | c | c
  · simp only [if_pos c, if_neg (show ¬ n 0 1 = 1 by omega), if_neg (show ¬ n 0 1 = 2 by omega), if_neg (show ¬ n 0 1 = 3 by omega)]
  · simp only [if_neg (show ¬ n 0 1 = 0 by omega), if_pos c]
  · simp only [if_neg (show ¬ n 0 1 = 0 by omega), if_neg (show ¬ n 0 1 = 1 by omega), if_neg (show ¬ n 0 1 = 3 by omega), if_pos c]
    split <;> split <;> omega
  · simp only [if_neg (show ¬ n 0 1 = 0 by omega), if_neg (show ¬ n 0 1 = 1 by omega), if_neg (show ¬ n 0 1 = 2 by omega), if_pos c]
theorem m_going (hT : RT m w) (hW : WW w) (hb : b = 0 ∨ b = 1) (hN : NM m b w n) {f : Int} (hB : NB w n f) {one mn : Int} (hL : TLM m b w n (m 0 66) one mn) (h67 : m 0 66 = 1 → m 0 67 = one) (hmn : 0 ≤ mn ∧ mn ≤ 1000) {s v : Int} (hs : 0 ≤ s ∧ s < w 1 0) (hv : 0 ≤ v ∧ v < w 8 1) : ∃ m', G12_isGoing m b s v = some ((if okL w (gM w (m 0 66)) n v mn s = true then 1 else 0), m') ∧ Fm PNm m m' := by
  have hw := hW.1
  unfold WS at hw
  have hnb := hB.2 s hs.1 hs.2
  have hl := hL s hs.1 hs.2
  obtain ⟨m1, e1, f1⟩ := m_odds hT hW hs hv hnb.1
  unfold G12_isGoing G12_isGoing_0 G12_isGoing_29
  rw [gdx_t (by omega), gdx_t (by omega), (hN.1 s hs.1 hs.2).1, e1, bs1]
  have ho : oddsV w (bdM w (m 0 66) s) (pxM w (m 0 66) (w 11 v)) v (n 1 s) = odV w (gM w (m 0 66)) n v s := rfl
  simp only
  rw [ho]
  have hok : okL w (gM w (m 0 66)) n v mn s = true ↔ n 4 s ≤ mn ∧ 0 < odV w (gM w (m 0 66)) n v s := by
    unfold okL; rw [Bool.and_eq_true]
    exact ⟨fun q => ⟨of_decide_eq_true q.1, of_decide_eq_true q.2⟩, fun q => ⟨decide_eq_true q.1, decide_eq_true q.2⟩⟩
  rcases hl with ⟨l1, l2, l3⟩ | ⟨l1, l2⟩
  · have hno : ¬ okL w (gM w (m 0 66)) n v mn s = true := fun q => by have := (hok.mp q).1; omega
    rw [if_neg hno, if_pos l1, h67 l1, if_pos l2]
    split
    · exact ⟨m, rfl, Fm.rf⟩
    · exact ⟨m, rfl, Fm.rf⟩
  · have hnw : ¬ (m 0 66 = 1 ∧ m 0 67 = s) := fun q => l1 ⟨q.1, by rw [← h67 q.1]; exact q.2⟩
    have same : (if m 0 66 = 1 then (if m 0 67 = s then some ((0 : Int), m) else if odV w (gM w (m 0 66)) n v s ≤ 0 then some (0, m1) else some (1, m1)) else if odV w (gM w (m 0 66)) n v s ≤ 0 then some (0, m1) else some (1, m1)) = if odV w (gM w (m 0 66)) n v s ≤ 0 then some (0, m1) else some (1, m1) := by
      by_cases z : m 0 66 = 1
      · rw [if_pos z, if_neg (fun q => hnw ⟨z, q⟩)]
      · rw [if_neg z]
    rw [same, l2]
    by_cases c1 : n 4 s ≤ mn
    · rw [if_pos c1, if_pos rfl]
      by_cases c2 : odV w (gM w (m 0 66)) n v s ≤ 0
      · rw [if_pos c2, if_neg (fun q => by have := (hok.mp q).2; omega)]
        exact ⟨m1, rfl, f1⟩
      · rw [if_neg c2, if_pos (hok.mpr ⟨c1, by omega⟩)]
        exact ⟨m1, rfl, f1⟩
    · rw [if_neg c1, if_neg (by omega), if_neg (fun q => c1 (hok.mp q).1)]
      exact ⟨m, rfl, Fm.rf⟩
/-- the inner loop: one is put into the row -/
theorem m_put (hW : WW w) (hb : b = 0 ∨ b = 1) {f : Int} (hB : NB w n f) {way x v : Int} (hx : 0 ≤ x ∧ x < w 1 0) (hv : 0 ≤ v ∧ v < w 8 1) {kk : Mem → Int → Int → Int → Int → Option Mem} : ∀ (lo hi : List Int) (k : Nat) (m : Mem), lo.length < k → lo.length + hi.length < 5 → RT m w → NM m b w n → m 0 66 = way → m 0 69 = lo.length + hi.length → (∀ e ∈ lo, 0 ≤ e ∧ e < w 1 0) → stkO (m 34) 0 lo → stkO (m 34) (lo.length + 1) hi → ∃ m', G12_layOrder_48 kk k m b v (n 0 1) x (keyM w way n v x) lo.length = kk m' b v (n 0 1) (x + 1) ∧ Fm PO m m' ∧ stkO (m' 34) 0 (hi ++ insR (keyM w way n v) x lo) ∧ m' 0 69 = lo.length + hi.length + 1 := by
  have hw := hW.1
  unfold WS at hw
  intro lo
  have fin : ∀ (lo hi : List Int) (m : Mem), lo.length + hi.length < 5 → m 0 69 = lo.length + hi.length → stkO (m 34) 0 lo → stkO (m 34) (lo.length + 1) hi → ∃ m', G12_layOrder_96 kk m b v (n 0 1) x lo.length = kk m' b v (n 0 1) (x + 1) ∧ Fm PO m m' ∧ stkO (m' 34) 0 (hi ++ x :: lo) ∧ m' 0 69 = lo.length + hi.length + 1 := by
    intro lo hi m h1 h69 h2 h3
    unfold G12_layOrder_96
    rw [gdx_t (by omega), wt_e, up_a (by decide), h69, gd3_t (by omega), wt_e, gd3_t (by omega)]
    refine ⟨_, rfl, (Fm.w1 (Or.inr (Or.inl rfl))).w (Or.inr (Or.inr ⟨rfl, rfl⟩)), ?_, up_e⟩
    rw [up_b (by decide)]
    refine stkO_app ?_ ⟨?_, ?_⟩
    · have : (0 : Int) + ((x :: lo).length : Int) = lo.length + 1 := by simp
      rw [this]
      exact stkO_up h3 (fun j a b => up_i (by omega))
    · rw [Int.zero_add]; exact up_e
    · exact stkO_up h2 (fun j a b => up_i (by omega))
  induction lo with
  | nil =>
    intro hi k m a1 a2 hT hN h66 a3 a4 a5 a6
    obtain ⟨k, rfl⟩ : ∃ j, k = j + 1 := ⟨k - 1, by omega⟩
    rw [G12_layOrder_48, if_pos (by simp)]
    exact fin [] hi m a2 a3 a5 a6
  | cons y r ih =>
    intro hi k m a1 a2 hT hN h66 a3 a4 a5 a6
    obtain ⟨k, rfl⟩ : ∃ j, k = j + 1 := ⟨k - 1, by omega⟩
    have hl : ((y :: r).length : Int) = r.length + 1 := by simp
    have hl' : (y :: r).length = r.length + 1 := by simp
    have hy := a4 y (by simp)
    have e1 : m 34 (((y :: r).length : Int) - 1) = y := by
      have := a5.1
      rw [Int.zero_add] at this
      rw [hl, Int.add_sub_cancel]; exact this
    obtain ⟨m1, q1, f1⟩ := m_key hT hW hb hN hB hy hv
    rw [h66] at q1
    have f1' : Fm PO m m1 := f1.mono (fun a i z => Or.inl z)
    have r34 : m1 34 = m 34 := funext fun i => f1 34 i (by unfold PNm; omega)
    have k69 : m1 0 69 = m 0 69 := f1 0 69 (by unfold PNm; omega)
    have k66 : m1 0 66 = m 0 66 := f1 0 66 (by unfold PNm; omega)
    rw [G12_layOrder_48, if_neg (by omega), gdx_t (by omega), e1, q1, bs1]
    simp only
    unfold insR
    by_cases c : keyM w way n v y ≤ keyM w way n v x
    · rw [if_pos c, if_pos c]
      obtain ⟨m', z1, z2, z3, z4⟩ := fin (y :: r) hi m1 a2 (by rw [k69]; exact a3) (by rw [r34]; exact a5) (by rw [r34]; exact a6)
      exact ⟨m', z1, f1'.tr z2, z3, z4⟩
    · rw [if_neg c, if_neg c, gdx_t (by omega), gdx_t (by omega), wt_e, gd3_t (by omega), r34, e1]
      have e2 : ((y :: r).length : Int) + -1 = r.length := by omega
      rw [e2]
      have f2 : Fm PO m (up m1 34 ((y :: r).length : Int) y) := f1'.w (Or.inr (Or.inl rfl))
      obtain ⟨m', z1, z2, z3, z4⟩ := ih (hi ++ [y]) k (up m1 34 ((y :: r).length : Int) y) (by omega) (by simp; omega) (hT.po f2) (hN.po f2) (by rw [up_a (by decide), k66]; exact h66) (by rw [up_a (by decide), k69, a3]; simp; omega) (fun e he => a4 e (List.mem_cons_of_mem _ he)) (stkO_up a5.2 (fun j a b => by rw [up_i (by omega), r34])) (stkO_app (by
          have : (r.length : Int) + 1 + (([y] : List Int).length : Int) = ((y :: r).length : Int) + 1 := by simp
          rw [this]
          exact stkO_up a6 (fun j a b => by rw [up_i (by omega), r34])) ⟨by
            have : (r.length : Int) + 1 + (([] : List Int).length : Int) = ((y :: r).length : Int) := by simp
            rw [this]; exact up_e, trivial⟩)
      refine ⟨m', z1, f2.tr z2, ?_, ?_⟩
      · rw [List.append_assoc] at z3
        exact z3
      · rw [z4]; simp; omega
theorem m_ord8 (hW : WW w) (hb : b = 0 ∨ b = 1) {f : Int} (hB : NB w n f) {way one mn v : Int} (hmn : 0 ≤ mn ∧ mn ≤ 1000) (hv : 0 ≤ v ∧ v < w 8 1) : ∀ (d k : Nat) (i : Int) (rl : List Int) (m : Mem), 0 ≤ i → w 1 0 - i = d → d < k → (rl.length : Int) ≤ i → (∀ e ∈ rl, 0 ≤ e ∧ e < i) → RT m w → NM m b w n → TLM m b w n way one mn → m 0 66 = way → (way = 1 → m 0 67 = one) → m 0 69 = rl.length → stkO (m 34) 0 rl → ∃ m', G12_layOrder_8 k m b v (n 0 1) i = some m' ∧ Fm PO m m' ∧ stkO (m' 34) 0 (lud (okL w (gM w way) n v mn) (keyV w (gM w way) n v) d i rl) ∧ m' 0 69 = (lud (okL w (gM w way) n v mn) (keyV w (gM w way) n v) d i rl).length := by
  have hw := hW.1
  unfold WS at hw
  intro d
  induction d with
  | zero =>
    intro k i rl m a1 a2 a3 a4 a5 hT hN hL h66 h67 h69 hst
    obtain ⟨k, rfl⟩ : ∃ j, k = j + 1 := ⟨k - 1, by omega⟩
    rw [G12_layOrder_8, hT.1.2.2.1, if_pos (by omega)]
    exact ⟨m, rfl, Fm.rf, hst, h69⟩
  | succ d ih =>
    intro k i rl m a1 a2 a3 a4 a5 hT hN hL h66 h67 h69 hst
    obtain ⟨k, rfl⟩ : ∃ j, k = j + 1 := ⟨k - 1, by omega⟩
    obtain ⟨m1, q1, f1⟩ := m_going hT hW hb hN hB (one := one) (mn := mn) (by rw [h66]; exact hL) (by rw [h66]; exact h67) hmn (s := i) (v := v) (by omega) hv
    rw [h66] at q1
    have f1' : Fm PO m m1 := f1.mono (fun a i z => Or.inl z)
    have r34 : m1 34 = m 34 := funext fun i => f1 34 i (by unfold PNm; omega)
    have r28 : m1 28 = m 28 := funext fun i => f1 28 i (by unfold PNm; omega)
    have k69 : m1 0 69 = m 0 69 := f1 0 69 (by unfold PNm; omega)
    have k66 : m1 0 66 = m 0 66 := f1 0 66 (by unfold PNm; omega)
    have k67 : m1 0 67 = m 0 67 := f1 0 67 (by unfold PNm; omega)
    have hT1 := hT.po f1'
    have hN1 := hN.po f1'
    rw [G12_layOrder_8, hT.1.2.2.1, if_neg (by omega), q1, bs1]
    simp only
    have e : lud (okL w (gM w way) n v mn) (keyV w (gM w way) n v) (d + 1) i rl = if okL w (gM w way) n v mn i = true then lud (okL w (gM w way) n v mn) (keyV w (gM w way) n v) d (i + 1) (insR (keyV w (gM w way) n v) i rl) else lud (okL w (gM w way) n v mn) (keyV w (gM w way) n v) d (i + 1) rl := rfl
    rw [e]
    by_cases c : okL w (gM w way) n v mn i = true
    · rw [if_pos c, if_neg (by decide)]
      obtain ⟨m2, q2, f2⟩ := m_key hT1 hW hb hN1 hB (s := i) (v := v) (by omega) hv
      rw [k66, h66] at q2
      rw [q2, bs1]
      simp only
      have f2' : Fm PO m m2 := f1'.tr (f2.mono (fun a i z => Or.inl z))
      have r34' : m2 34 = m 34 := (funext fun i => f2 34 i (by unfold PNm; omega) : m2 34 = m1 34).trans r34
      have r28' : m2 28 = m 28 := (funext fun i => f2 28 i (by unfold PNm; omega) : m2 28 = m1 28).trans r28
      have k69' : m2 0 69 = m 0 69 := (f2 0 69 (by unfold PNm; omega)).trans k69
      have k66' : m2 0 66 = m 0 66 := (f2 0 66 (by unfold PNm; omega)).trans k66
      have k67' : m2 0 67 = m 0 67 := (f2 0 67 (by unfold PNm; omega)).trans k67
      rw [k69', h69]
      obtain ⟨m3, q3, f3, s3, t3⟩ := m_put (way := way) (kk := fun m x1 x2 x3 x4 => G12_layOrder_8 k m x1 x2 x3 x4) hW hb hB (x := i) (v := v) (by omega) hv rl [] 1024 m2 (by omega) (by simp; omega) (hT.po f2') (hN.po f2') (by rw [k66']; exact h66) (by rw [k69', h69]; simp) (fun e he => by have := a5 e he; omega) (by rw [r34']; exact hst) trivial
      rw [q3]
      have hins : insR (keyM w way n v) i rl = insR (keyV w (gM w way) n v) i rl := insR_key (fun e he => key_le hW hB (by have := a5 e he; omega) (by omega))
      rw [List.nil_append, hins] at s3
      have f3' := f2'.tr f3
      have hlen := insR_len (keyV w (gM w way) n v) i rl
      have p28 : m3 28 = m 28 := (funext fun j => f3 28 j (by unfold PO PNm; omega) : m3 28 = m2 28).trans r28'
      obtain ⟨m', z1, z2, z3, z4⟩ := ih k (i + 1) (insR (keyV w (gM w way) n v) i rl) m3 (by omega) (by omega) (by omega) (by omega) (fun e he => by
        rcases insR_mem.mp he with rfl | q
        · omega
        · have := a5 e q; omega) (hT.po f3') (hN.po f3') (hL.fr p28) (by rw [f3 0 66 (by unfold PO PNm; omega), k66']; exact h66) (fun z => by rw [f3 0 67 (by unfold PO PNm; omega), k67']; exact h67 z) (by rw [t3, hlen]; simp) s3
      rw [if_pos c]
      exact ⟨m', z1, f3'.tr z2, z3, z4⟩
    · rw [if_neg c, if_pos rfl, gd3_t (by omega), if_neg c]
      obtain ⟨m', z1, z2, z3, z4⟩ := ih k (i + 1) rl m1 (by omega) (by omega) (by omega) (by omega) (fun e he => by have := a5 e he; omega) hT1 hN1 (hL.fr r28) (by rw [k66]; exact h66) (fun z => by rw [k67]; exact h67 z) (by rw [k69]; exact h69) (by rw [r34]; exact hst)
      exact ⟨m', z1, f1'.tr z2, z3, z4⟩
theorem m_ord (hT : RT m w) (hW : WW w) (hb : b = 0 ∨ b = 1) (hN : NM m b w n) {f : Int} (hB : NB w n f) {way one mn v : Int} (hL : TLM m b w n way one mn) (h66 : m 0 66 = way) (h67 : way = 1 → m 0 67 = one) (hmn : 0 ≤ mn ∧ mn ≤ 1000) (hv : 0 ≤ v ∧ v < w 8 1) : ∃ m', G12_layOrder m b v (n 0 1) = some m' ∧ Fm PO m m' ∧ stkO (m' 34) 0 (lu w (gM w way) n v mn) ∧ m' 0 69 = (lu w (gM w way) n v mn).length := by
  have hw := hW.1
  unfold WS at hw
  unfold G12_layOrder G12_layOrder_0
  rw [wt_e]
  have f1 : Fm PO m (up m 0 69 0) := Fm.w1 (Or.inr (Or.inr ⟨rfl, rfl⟩))
  obtain ⟨m', z1, z2, z3, z4⟩ := m_ord8 hW hb hB hmn hv (w 1 0).toNat 1024 0 [] (up m 0 69 0) (by omega) (by omega) (by omega) (by simp) (fun e he => nomatch he) (hT.po f1) (hN.po f1) (hL.fr (up_b (by decide))) (by rw [up_i (by decide)]; exact h66) (fun z => by rw [up_i (by decide)]; exact h67 z) up_e trivial
  exact ⟨m', z1, f1.tr z2, z3, z4⟩
end MO
/-! The reference: a wave comes. -/
def PD : Nat → Int → Prop := fun a i => PNm a i ∨ (a = 0 ∧ i = 65)
def PCm (b : Int) : Nat → Int → Prop := fun a i => PO a i ∨ (a = 0 ∧ i = 65) ∨ ((a = 26 ∨ a = 27 ∨ a = 28) ∧ 5 * b ≤ i ∧ i < 5 * b + 5) ∨ (a = 30 ∧ 28 * b ≤ i ∧ i < 28 * b + 28) ∨ ((a = 32 ∨ a = 33) ∧ i = b)
theorem PD_C {b : Int} : ∀ a i, PD a i → PCm b a i := fun a i z => z.elim (fun y => Or.inl (Or.inl y)) (fun y => Or.inr (Or.inl y))
theorem RT.pc {v v' w : Mem} {b : Int} (h : RT v w) (f : Fm (PCm b) v v') : RT v' w := h.fr f (by intro a i q; unfold PCm PO PNm; omega)
section NMU
variable {m w n : Mem} {b : Int}
theorem NM.num (h : NM m b w n) (x : Int) : NM (up m 0 65 x) b w (up n 0 2 x) := by
  obtain ⟨h1, h2, h3, h4, h5⟩ := h
  refine ⟨fun i p q => ?_, fun k p q => ?_, ?_, ?_, ?_⟩
  · simp (disch := omega) only [up_a]; exact h1 i p q
  · simp (disch := omega) only [up_a]; exact h2 k p q
  · simp (disch := omega) only [up_a, up_i]; exact h3
  · simp (disch := omega) only [up_a, up_i]; exact h4
  · rw [up_e, up_e]
theorem NM.who (h : NM m b w n) (v x : Int) : NM (up m 30 (28 * b + v) x) b w (up n 6 v x) := by
  obtain ⟨h1, h2, h3, h4, h5⟩ := h
  refine ⟨fun i p q => ?_, fun k p q => ?_, ?_, ?_, ?_⟩
  · simp (disch := omega) only [up_a]; exact h1 i p q
  · by_cases c : k = v
    · subst c; rw [up_e, up_e]
    · rw [up_i (by omega), up_i c]; exact h2 k p q
  · simp (disch := omega) only [up_a, up_i]; exact h3
  · simp (disch := omega) only [up_a, up_i]; exact h4
  · simp (disch := omega) only [up_a, up_i]; exact h5
theorem NM.had (h : NM m b w n) (e x : Int) : NM (up m 26 (5 * b + e) x) b w (up n 2 e x) := by
  obtain ⟨h1, h2, h3, h4, h5⟩ := h
  refine ⟨fun i p q => ?_, fun k p q => ?_, ?_, ?_, ?_⟩
  · have := h1 i p q
    by_cases c : i = e
    · subst c
      rw [up_e, up_e, up_a (by omega), up_a (by omega), up_a (by omega), up_a (by omega)]; exact ⟨this.1, rfl, this.2.2⟩
    · rw [up_i (show 5 * b + i ≠ 5 * b + e by omega), up_i c, up_a (by omega), up_a (by omega), up_a (by omega), up_a (by omega)]; exact this
  · simp (disch := omega) only [up_a]; exact h2 k p q
  · simp (disch := omega) only [up_a, up_i]; exact h3
  · simp (disch := omega) only [up_a, up_i]; exact h4
  · simp (disch := omega) only [up_a, up_i]; exact h5
theorem NM.crs (h : NM m b w n) (e x : Int) : NM (up m 27 (5 * b + e) x) b w (up n 3 e x) := by
  obtain ⟨h1, h2, h3, h4, h5⟩ := h
  refine ⟨fun i p q => ?_, fun k p q => ?_, ?_, ?_, ?_⟩
  · have := h1 i p q
    by_cases c : i = e
    · subst c
      rw [up_e, up_e, up_a (by omega), up_a (by omega), up_a (by omega), up_a (by omega)]; exact ⟨this.1, this.2.1, rfl⟩
    · rw [up_i (show 5 * b + i ≠ 5 * b + e by omega), up_i c, up_a (by omega), up_a (by omega), up_a (by omega), up_a (by omega)]; exact this
  · simp (disch := omega) only [up_a]; exact h2 k p q
  · simp (disch := omega) only [up_a, up_i]; exact h3
  · simp (disch := omega) only [up_a, up_i]; exact h4
  · simp (disch := omega) only [up_a, up_i]; exact h5
theorem NM.cw (h : NM m b w n) (x : Int) : NM (up m 32 b x) b w (up n 0 3 x) := by
  obtain ⟨h1, h2, h3, h4, h5⟩ := h
  refine ⟨fun i p q => ?_, fun k p q => ?_, ?_, ?_, ?_⟩
  · simp (disch := omega) only [up_a]; exact h1 i p q
  · simp (disch := omega) only [up_a]; exact h2 k p q
  · rw [up_e, up_e]
  · simp (disch := omega) only [up_a, up_i]; exact h4
  · simp (disch := omega) only [up_a, up_i]; exact h5
theorem NM.ww (h : NM m b w n) (x : Int) : NM (up m 33 b x) b w (up n 0 4 x) := by
  obtain ⟨h1, h2, h3, h4, h5⟩ := h
  refine ⟨fun i p q => ?_, fun k p q => ?_, ?_, ?_, ?_⟩
  · simp (disch := omega) only [up_a]; exact h1 i p q
  · simp (disch := omega) only [up_a]; exact h2 k p q
  · simp (disch := omega) only [up_a, up_i]; exact h3
  · rw [up_e, up_e]
  · simp (disch := omega) only [up_a, up_i]; exact h5
theorem NM.till (h : NM m b w n) (e x : Int) : NM m b w (up n 4 e x) := by
  obtain ⟨h1, h2, h3, h4, h5⟩ := h
  refine ⟨fun i p q => ?_, fun k p q => ?_, ?_, ?_, ?_⟩
  · simp (disch := omega) only [up_a]; exact h1 i p q
  · simp (disch := omega) only [up_a]; exact h2 k p q
  · simp (disch := omega) only [up_a, up_i]; exact h3
  · simp (disch := omega) only [up_a, up_i]; exact h4
  · simp (disch := omega) only [up_a, up_i]; exact h5
theorem NM.w28 (h : NM m b w n) (i x : Int) : NM (up m 28 i x) b w n := by
  obtain ⟨h1, h2, h3, h4, h5⟩ := h
  refine ⟨fun i p q => ?_, fun k p q => ?_, ?_, ?_, ?_⟩
  · simp (disch := omega) only [up_a]; exact h1 i p q
  · simp (disch := omega) only [up_a]; exact h2 k p q
  · simp (disch := omega) only [up_a]; exact h3
  · simp (disch := omega) only [up_a]; exact h4
  · simp (disch := omega) only [up_a]; exact h5
theorem TLM.n4 {way one mn : Int} {n' : Mem} (h : TLM m b w n way one mn) (e : n' 4 = n 4) : TLM m b w n' way one mn := by
  unfold TLM at *; rw [e]; exact h
end NMU
section MC
variable {m w n : Mem} {b : Int}
theorem m_draw (h : 0 ≤ m 0 65 ∧ m 0 65 < 2147483648) : G12_number1 m 100 = some (hun (nxt (m 0 65)), up m 0 65 (nxt (m 0 65))) := by
  have hb := nxt_b (m 0 65)
  have e1 : b6an (m 0 65 * 1103515245 + 12345) 2147483647 = nxt (m 0 65) := b6an_m (by omega)
  unfold G12_number1 G12_number1_0
  rw [e1, wt_e, if_neg (by decide), up_e, Int.tdiv_eq_ediv_of_nonneg hb.1, gd6_t (by omega), Int.tmod_eq_emod_of_nonneg (by omega), gd3_t (by omega)]
  rfl
theorem m_send (hT : RT m w) (hW : WW w) (hb : b = 0 ∨ b = 1) {e v t : Int} (he : 0 ≤ e ∧ e < w 1 0) (hv : 0 ≤ v ∧ v < w 8 1) (ht : t = 1 ∨ t = 2) (hm : 0 ≤ m 31 b ∧ m 31 b ≤ 1000) : ∃ m', G12_goesAway m b e v t = some (up m' 28 (5 * b + e) (m 31 b + t * awayN w (bdM w (m 0 66) e) v)) ∧ Fm PNm m m' := by
  have hw := hW.1
  unfold WS at hw
  have hab := away_b w (bdM w (m 0 66) e) v
  obtain ⟨m1, e1, f1⟩ := m_away hT hW he hv
  unfold G12_goesAway G12_goesAway_0
  rw [gdx_t (by omega), e1, bs1, gdx_t (by omega)]
  have hmm : 0 ≤ t * awayN w (bdM w (m 0 66) e) v ∧ t * awayN w (bdM w (m 0 66) e) v ≤ 60 := by rcases ht with rfl | rfl <;> omega
  simp only
  rw [gd3_t (by omega), wt_e]
  exact ⟨m1, rfl, f1⟩
def cbN (m : Mem) (b v e : Int) : Option Mem := gdx ((28 * b) + v) 56 (wt (up m 30 ((28 * b) + v) e) fun m7 => gdx ((5 * b) + e) 10 (gdx ((5 * b) + e) 10 (gd3 ((m7 26 ((5 * b) + e)) + 1) (wt (up m7 26 ((5 * b) + e) ((m7 26 ((5 * b) + e)) + 1)) fun m13 => (G12_goesAway m13 b e v 1).bind fun o14 => some o14))))
def cbX (m : Mem) (b v e j : Int) : Option Mem := gdx ((28 * b) + v) 56 (wt (up m 30 ((28 * b) + v) (-3)) fun m8 => gdx b 2 (gdx b 2 (gd3 ((m8 32 b) + 1) (wt (up m8 32 b ((m8 32 b) + 1)) fun m14 => gdx ((5 * b) + e) 10 (gdx ((5 * b) + e) 10 (gd3 ((m14 27 ((5 * b) + e)) + 1) (wt (up m14 27 ((5 * b) + e) ((m14 27 ((5 * b) + e)) + 1)) fun m20 => gdx j 5 (gdx ((5 * b) + (m20 34 j)) 10 (gdx ((5 * b) + (m20 34 j)) 10 (gd3 ((m20 27 ((5 * b) + (m20 34 j))) + 1) (wt (up m20 27 ((5 * b) + (m20 34 j)) ((m20 27 ((5 * b) + (m20 34 j))) + 1)) fun m30 => (G12_goesAway m30 b e v 2).bind fun o31 => gdx j 5 ((G12_goesAway o31 b (o31 34 j) v 2).bind fun o37 => some o37))))))))))))
theorem TLM.put {way one mn e x : Int} (h : TLM m b w n way one mn) (hne : ¬ (way = 1 ∧ one = e)) (hx : mn < x) : TLM (up m 28 (5 * b + e) x) b w (up n 4 e x) way one mn := by
  intro i p q
  by_cases c : i = e
  · subst c
    right
    refine ⟨hne, ?_⟩
    rw [up_e, up_e, if_neg (by omega)]
  · rw [up_i (show 5 * b + i ≠ 5 * b + e by omega), up_i c]
    exact h i p q
theorem m_cbN (hT : RT m w) (hW : WW w) (hb : b = 0 ∨ b = 1) (hN : NM m b w n) {f : Int} (hB : NB w n f) (hf : 0 ≤ f ∧ f ≤ 1000) {way one v e : Int} (h66 : m 0 66 = way) (hv : 0 ≤ v ∧ v < w 8 1) (he : 0 ≤ e ∧ e < w 1 0) (hL : TLM m b w n way one (w 11 v)) (hmn : m 31 b = w 11 v) (hne : ¬ (way = 1 ∧ one = e)) : ∃ m', cbN m b v e = some m' ∧ Fm (PCm b) m m' ∧ NM m' b w (up (up (up n 6 v e) 2 e (n 2 e + 1)) 4 e (w 11 v + 1 * awayN w (gM w way 1 e) v)) ∧ TLM m' b w (up (up (up n 6 v e) 2 e (n 2 e + 1)) 4 e (w 11 v + 1 * awayN w (gM w way 1 e) v)) way one (w 11 v) := by
  have hw := hW.1
  unfold WS at hw
  have hm := (hW.2.2.2.1 v hv.1 hv.2).2.1
  have hBe := hB.2 e he.1 he.2
  have n1 := hN.who v e
  have f1 : Fm (PCm b) m (up m 30 (28 * b + v) e) := Fm.w1 (by unfold PCm; omega)
  unfold cbN
  rw [gdx_t (by omega), wt_e, gdx_t (by omega), gdx_t (by omega)]
  have e2 : up m 30 (28 * b + v) e 26 (5 * b + e) = n 2 e := by rw [(n1.1 e he.1 he.2).2.1, up_a (by omega)]
  rw [e2, gd3_t (by omega), wt_e]
  have n2 := n1.had e (n 2 e + 1)
  have f2 : Fm (PCm b) m (up (up m 30 (28 * b + v) e) 26 (5 * b + e) (n 2 e + 1)) := f1.w (by unfold PCm; omega)
  have k31 : up (up m 30 (28 * b + v) e) 26 (5 * b + e) (n 2 e + 1) 31 b = w 11 v := by rw [up_a (by omega), up_a (by omega)]; exact hmn
  have k66 : up (up m 30 (28 * b + v) e) 26 (5 * b + e) (n 2 e + 1) 0 66 = way := by rw [up_a (by omega), up_a (by omega)]; exact h66
  obtain ⟨m3, e3, f3⟩ := m_send (hT.pc f2) hW hb he hv (t := 1) (Or.inl rfl) (by rw [k31]; omega)
  rw [k31, k66] at e3
  rw [e3, bs1]
  have hg : gM w way 1 e = bdM w way e := rfl
  rw [hg]
  have hab := away_b w (bdM w way e) v
  have n3 : NM m3 b w (up (up n 6 v e) 2 e (n 2 e + 1)) := n2.fr f3 (by intro a i q; unfold PNm; omega)
  have r28 : m3 28 = m 28 := by
    funext i
    rw [f3 28 i (by unfold PNm; omega), up_a (by omega), up_a (by omega)]
  refine ⟨_, rfl, (f2.tr (f3.mono (fun a i z => Or.inl (Or.inl z)))).w (by unfold PCm; omega), ?_, ?_⟩
  · exact (n3.w28 _ _).till e _
  · have t1 : TLM m3 b w (up (up n 6 v e) 2 e (n 2 e + 1)) way one (w 11 v) := (hL.fr r28).n4 (by rw [up_b (by omega), up_b (by omega)])
    exact t1.put hne (by omega)
theorem m_cbX (hT : RT m w) (hW : WW w) (hb : b = 0 ∨ b = 1) (hN : NM m b w n) {f : Int} (hB : NB w n f) (hf : 0 ≤ f ∧ f ≤ 1000) {way one v e k j : Int} (h66 : m 0 66 = way) (hv : 0 ≤ v ∧ v < w 8 1) (he : 0 ≤ e ∧ e < w 1 0) (hk : 0 ≤ k ∧ k < w 1 0) (hj : 0 ≤ j ∧ j < 5) (hjk : m 34 j = k) (hL : TLM m b w n way one (w 11 v)) (hmn : m 31 b = w 11 v) (hne : ¬ (way = 1 ∧ one = e)) (hnk : ¬ (way = 1 ∧ one = k)) : ∃ m', cbX m b v e j = some m' ∧ Fm (PCm b) m m' ∧ NM m' b w (up (up (up (up (up (up n 6 v (-3)) 0 3 (n 0 3 + 1)) 3 e (n 3 e + 1)) 3 k (up n 3 e (n 3 e + 1) 3 k + 1)) 4 e (w 11 v + 2 * awayN w (gM w way 1 e) v)) 4 k (w 11 v + 2 * awayN w (gM w way 1 k) v)) ∧ TLM m' b w (up (up (up (up (up (up n 6 v (-3)) 0 3 (n 0 3 + 1)) 3 e (n 3 e + 1)) 3 k (up n 3 e (n 3 e + 1) 3 k + 1)) 4 e (w 11 v + 2 * awayN w (gM w way 1 e) v)) 4 k (w 11 v + 2 * awayN w (gM w way 1 k) v)) way one (w 11 v) := by
  have hw := hW.1
  unfold WS at hw
  have hm := (hW.2.2.2.1 v hv.1 hv.2).2.1
  have hBe := hB.2 e he.1 he.2
  have hBk := hB.2 k hk.1 hk.2
  have hB0 := hB.1
  have n1 := hN.who v (-3)
  have f1 : Fm (PCm b) m (up m 30 (28 * b + v) (-3)) := Fm.w1 (by unfold PCm; omega)
  unfold cbX
  rw [gdx_t (by omega), wt_e, gdx_t (by omega), gdx_t (by omega)]
  have e1 : up m 30 (28 * b + v) (-3) 32 b = n 0 3 := by rw [n1.2.2.1, up_a (by omega)]
  rw [e1, gd3_t (by omega), wt_e, gdx_t (by omega), gdx_t (by omega)]
  have n2 := n1.cw (n 0 3 + 1)
  have f2 := f1.w (a := 32) (i := b) (v := n 0 3 + 1) (by unfold PCm; omega)
  have e2 : up (up m 30 (28 * b + v) (-3)) 32 b (n 0 3 + 1) 27 (5 * b + e) = n 3 e := by rw [(n2.1 e he.1 he.2).2.2, up_a (by omega), up_a (by omega)]
  rw [e2, gd3_t (by omega), wt_e, gdx_t hj]
  have n3 := n2.crs e (n 3 e + 1)
  have f3 := f2.w (a := 27) (i := 5 * b + e) (v := n 3 e + 1) (by unfold PCm; omega)
  have e3 : up (up (up m 30 (28 * b + v) (-3)) 32 b (n 0 3 + 1)) 27 (5 * b + e) (n 3 e + 1) 34 j = k := by rw [up_a (by omega), up_a (by omega), up_a (by omega)]; exact hjk
  rw [e3, gdx_t (by omega), gdx_t (by omega)]
  have e4 : up (up (up m 30 (28 * b + v) (-3)) 32 b (n 0 3 + 1)) 27 (5 * b + e) (n 3 e + 1) 27 (5 * b + k) = up n 3 e (n 3 e + 1) 3 k := by
    rw [(n3.1 k hk.1 hk.2).2.2]
    by_cases cc : k = e
    · subst cc; rw [up_e, up_e]
    · rw [up_i cc, up_i cc, up_a (by omega), up_a (by omega)]
  have e5 : up n 3 e (n 3 e + 1) 3 k ≤ f + 1 ∧ 0 ≤ up n 3 e (n 3 e + 1) 3 k := by
    by_cases cc : k = e
    · subst cc; rw [up_e]; omega
    · rw [up_i cc]; omega
  rw [e4, gd3_t (by omega), wt_e]
  have n4 := n3.crs k (up n 3 e (n 3 e + 1) 3 k + 1)
  have f4 := f3.w (a := 27) (i := 5 * b + k) (v := up n 3 e (n 3 e + 1) 3 k + 1) (by unfold PCm; omega)
  generalize hM : up (up (up (up m 30 (28 * b + v) (-3)) 32 b (n 0 3 + 1)) 27 (5 * b + e) (n 3 e + 1)) 27 (5 * b + k) (up n 3 e (n 3 e + 1) 3 k + 1) = M at *
  have k31 : M 31 b = w 11 v := by rw [← hM]; simp (disch := omega) only [up_a]; exact hmn
  have k66 : M 0 66 = way := by rw [← hM]; simp (disch := omega) only [up_a]; exact h66
  have k34 : M 34 = m 34 := by rw [← hM]; simp (disch := omega) only [up_b]
  have k28 : M 28 = m 28 := by rw [← hM]; simp (disch := omega) only [up_b]
  obtain ⟨m5, e6, f5⟩ := m_send (hT.pc f4) hW hb he hv (t := 2) (Or.inr rfl) (by rw [k31]; omega)
  rw [k31, k66] at e6
  rw [e6, bs1, gdx_t hj]
  have r34 : up m5 28 (5 * b + e) (w 11 v + 2 * awayN w (bdM w way e) v) 34 j = k := by rw [up_a (by omega), f5 34 j (by unfold PNm; omega), k34]; exact hjk
  rw [r34]
  have f6 : Fm (PCm b) m (up m5 28 (5 * b + e) (w 11 v + 2 * awayN w (bdM w way e) v)) := (f4.tr (f5.mono (fun a i z => Or.inl (Or.inl z)))).w (by unfold PCm; omega)
  have k31' : up m5 28 (5 * b + e) (w 11 v + 2 * awayN w (bdM w way e) v) 31 b = w 11 v := by rw [up_a (by omega), f5 31 b (by unfold PNm; omega)]; exact k31
  have k66' : up m5 28 (5 * b + e) (w 11 v + 2 * awayN w (bdM w way e) v) 0 66 = way := by rw [up_a (by omega), f5 0 66 (by unfold PNm; omega)]; exact k66
  obtain ⟨m7, e8, f7⟩ := m_send (hT.pc f6) hW hb hk hv (t := 2) (Or.inr rfl) (by rw [k31']; omega)
  rw [k31', k66'] at e8
  rw [e8, bs1]
  have n5 : NM m5 b w _ := n4.fr f5 (by intro a i q; unfold PNm; omega)
  have n6 := (n5.w28 (5 * b + e) (w 11 v + 2 * awayN w (bdM w way e) v)).till e (w 11 v + 2 * awayN w (bdM w way e) v)
  have n7 : NM m7 b w _ := n6.fr f7 (by intro a i q; unfold PNm; omega)
  have hg : gM w way 1 e = bdM w way e := rfl
  have hg' : gM w way 1 k = bdM w way k := rfl
  have hab := away_b w (bdM w way e) v
  have hab' := away_b w (bdM w way k) v
  rw [hg, hg']
  refine ⟨_, rfl, (f6.tr (f7.mono (fun a i z => Or.inl (Or.inl z)))).w (by unfold PCm; omega), (n7.w28 _ _).till k _, ?_⟩
  have t1 : TLM m5 b w (up (up (up (up n 6 v (-3)) 0 3 (n 0 3 + 1)) 3 e (n 3 e + 1)) 3 k (up n 3 e (n 3 e + 1) 3 k + 1)) way one (w 11 v) := (hL.fr (by rw [← k28]; funext i; exact f5 28 i (by unfold PNm; omega))).n4 (by simp (disch := omega) only [up_b])
  have t2 := t1.put hne (x := w 11 v + 2 * awayN w (bdM w way e) v) (by omega)
  have t3 : TLM m7 b w _ way one (w 11 v) := t2.fr (v' := m7) (by funext i; exact f7 28 i (by unfold PNm; omega))
  exact t3.put hnk (by omega)
/-- who rides -/
theorem m_ride (hW : WW w) (hb : b = 0 ∨ b = 1) {f : Int} (hB : NB w n f) {way v : Int} (hv : 0 ≤ v ∧ v < w 8 1) : ∀ (l : List Int) (k : Nat) (i : Int) (m : Mem), l.length < k → 0 ≤ i → i + l.length ≤ 5 → RT m w → (∀ s, 0 ≤ s → s < w 1 0 → m 25 (5 * b + s) = n 1 s) → m 0 66 = way → m 0 69 = i + l.length → (0 ≤ m 0 65 ∧ m 0 65 < 2147483648) → frt (m 34) i l → (∀ e ∈ l, 0 ≤ e ∧ e < w 1 0) → ∃ m1 p, G12_comes_10 k m b v i = G12_comes_62 m1 b v p ∧ Fm PD m m1 ∧ m1 0 65 = (ridr (odV w (gM w way) n v) l (m 0 65)).2 ∧ (0 ≤ m1 0 65 ∧ m1 0 65 < 2147483648) ∧ (((ridr (odV w (gM w way) n v) l (m 0 65)).1 = none ∧ p = i + l.length) ∨ ∃ e r, (ridr (odV w (gM w way) n v) l (m 0 65)).1 = some (e, r) ∧ i ≤ p ∧ p + 1 + r.length = i + l.length ∧ m 34 p = e ∧ frt (m 34) (p + 1) r ∧ e ∈ l ∧ ∀ q ∈ r, q ∈ l) := by
  intro l
  induction l with
  | nil =>
    intro k i m a1 a2 a3 hT h25 h66 h69 a4 a5 a6
    obtain ⟨k, rfl⟩ : ∃ j, k = j + 1 := ⟨k - 1, by omega⟩
    rw [G12_comes_10, if_pos (by rw [h69]; simp)]
    exact ⟨m, i, rfl, Fm.rf, rfl, a4, Or.inl ⟨rfl, by simp⟩⟩
  | cons y r ih =>
    intro k i m a1 a2 a3 hT h25 h66 h69 a4 a5 a6
    obtain ⟨k, rfl⟩ : ∃ j, k = j + 1 := ⟨k - 1, by omega⟩
    have hl : ((y :: r).length : Int) = r.length + 1 := by simp
    have hl' : (y :: r).length = r.length + 1 := by simp
    have hy := a6 y (by simp)
    have hbx := nxt_b (m 0 65)
    have hw := hW.1
    unfold WS at hw
    have hBy := hB.2 y hy.1 hy.2
    rw [G12_comes_10, if_neg (by omega), m_draw a4, bs1, gdx_t (by omega), gdx_t (by omega)]
    simp only
    have f1 : Fm PD m (up m 0 65 (nxt (m 0 65))) := Fm.w1 (Or.inr ⟨rfl, rfl⟩)
    have hT1 : RT (up m 0 65 (nxt (m 0 65))) w := hT.fr f1 (by intro a i q; unfold PD PNm; omega)
    have e34 : up m 0 65 (nxt (m 0 65)) 34 i = y := by rw [up_a (by omega)]; exact a5.1
    have e25 : up m 0 65 (nxt (m 0 65)) 25 (5 * b + y) = n 1 y := by rw [up_a (by omega)]; exact h25 y hy.1 hy.2
    have e66 : up m 0 65 (nxt (m 0 65)) 0 66 = way := by rw [up_i (by omega)]; exact h66
    rw [e34, gdx_t (by omega), e25]
    obtain ⟨m2, q2, f2⟩ := m_odds hT1 hW hy hv hBy.1
    rw [e66] at q2
    rw [q2, bs1]
    simp only
    have ho : oddsV w (bdM w way y) (pxM w way (w 11 v)) v (n 1 y) = odV w (gM w way) n v y := rfl
    rw [ho]
    have f3 : Fm PD m m2 := f1.tr (f2.mono (fun a i z => Or.inl z))
    have r34 : m2 34 = m 34 := by funext j; rw [f2 34 j (by unfold PNm; omega), up_a (by omega)]
    have k65 : m2 0 65 = nxt (m 0 65) := by rw [f2 0 65 (by unfold PNm; omega), up_e]
    have k69 : m2 0 69 = m 0 69 := by rw [f2 0 69 (by unfold PNm; omega), up_i (by omega)]
    have k66 : m2 0 66 = way := by rw [f2 0 66 (by unfold PNm; omega)]; exact e66
    have e0 : ridr (odV w (gM w way) n v) (y :: r) (m 0 65) = if odV w (gM w way) n v y ≤ hun (nxt (m 0 65)) then ridr (odV w (gM w way) n v) r (nxt (m 0 65)) else (some (y, r), nxt (m 0 65)) := rfl
    by_cases c : hun (nxt (m 0 65)) < odV w (gM w way) n v y
    · rw [if_pos c]
      rw [if_neg (by omega)] at e0
      rw [e0]
      exact ⟨m2, i, rfl, f3, k65, by rw [k65]; exact hbx, Or.inr ⟨y, r, rfl, by omega, by omega, a5.1, a5.2, by simp, fun q hq => List.mem_cons_of_mem _ hq⟩⟩
    · rw [if_neg c, gd3_t (by omega)]
      rw [if_pos (by omega)] at e0
      rw [e0]
      obtain ⟨m4, p, z1, z2, z3, z4, z5⟩ := ih k (i + 1) m2 (by omega) (by omega) (by omega) (hT.fr f3 (by intro a i q; unfold PD PNm; omega)) (fun s x y => by rw [f3 25 _ (by unfold PD PNm; omega)]; exact h25 s x y) k66 (by rw [k69, h69]; omega) (by rw [k65]; exact hbx) (by rw [r34]; exact a5.2) (fun e he => a6 e (List.mem_cons_of_mem _ he))
      rw [k65] at z3 z5
      rw [r34] at z5
      refine ⟨m4, p, z1, f3.tr z2, z3, z4, ?_⟩
      rcases z5 with ⟨z5, z6⟩ | ⟨e, r', x1, x2, x3, x4, x5, x6, x7⟩
      · exact Or.inl ⟨z5, by omega⟩
      · exact Or.inr ⟨e, r', x1, by omega, by omega, x4, x5, List.mem_cons_of_mem _ x6, fun q hq => List.mem_cons_of_mem _ (x7 q hq)⟩
/-- who crosses -/
theorem m_cross (hW : WW w) {way v e : Int} : ∀ (l : List Int) (k : Nat) (i : Int) (m : Mem), l.length < k → 0 ≤ i → i + l.length ≤ 5 → RT m w → m 0 66 = way → m 0 69 = i + l.length → (0 ≤ m 0 65 ∧ m 0 65 < 2147483648) → frt (m 34) i l → (∀ e ∈ l, 0 ≤ e ∧ e < w 1 0) → ∃ m1, Fm PD m m1 ∧ m1 0 65 = (crsr (gM w way 2) l (m 0 65)).2 ∧ (0 ≤ m1 0 65 ∧ m1 0 65 < 2147483648) ∧ (((crsr (gM w way 2) l (m 0 65)).1 = none ∧ G12_comes_109 k m b v e i = cbN m1 b v e) ∨ ∃ q j, (crsr (gM w way 2) l (m 0 65)).1 = some q ∧ m 34 j = q ∧ 0 ≤ j ∧ j < 5 ∧ q ∈ l ∧ G12_comes_109 k m b v e i = cbX m1 b v e j) := by
  have hw := hW.1
  unfold WS at hw
  intro l
  induction l with
  | nil =>
    intro k i m a1 a2 a3 hT h66 h69 a4 a5 a6
    obtain ⟨k, rfl⟩ : ∃ j, k = j + 1 := ⟨k - 1, by omega⟩
    refine ⟨m, Fm.rf, rfl, a4, Or.inl ⟨rfl, ?_⟩⟩
    rw [G12_comes_109, if_pos (by rw [h69]; simp)]
    rfl
  | cons y r ih =>
    intro k i m a1 a2 a3 hT h66 h69 a4 a5 a6
    obtain ⟨k, rfl⟩ : ∃ j, k = j + 1 := ⟨k - 1, by omega⟩
    have hl : ((y :: r).length : Int) = r.length + 1 := by simp
    have hl' : (y :: r).length = r.length + 1 := by simp
    have hy := a6 y (by simp)
    have hbx := nxt_b (m 0 65)
    have hby := hW.2.1 y hy.1 hy.2
    have hgy : gM w way 2 y = if way = 0 then 0 else w 6 y := rfl
    have step : G12_comes_109 (k + 1) m b v e i = G12_comes_141 (fun m x1 x2 x5 x6 => G12_comes_109 k m x1 x2 x5 x6) m b v e i (gM w way 2 y) := by
      rw [G12_comes_109, if_neg (by omega), h66, hgy]
      by_cases c : way = 0
      · rw [if_pos c, if_pos c]
      · rw [if_neg c, if_neg c, gdx_t (by omega), a5.1, gdx_t (by omega), (hT.2.2.1 y hy.1 hy.2).2.2.2.2.1]
    rw [step]
    have hgb : 0 ≤ gM w way 2 y := by rw [hgy]; split <;> omega
    unfold G12_comes_141
    have e0 : crsr (gM w way 2) (y :: r) (m 0 65) = if gM w way 2 y ≤ 0 then crsr (gM w way 2) r (m 0 65) else if gM w way 2 y ≤ hun (nxt (m 0 65)) then crsr (gM w way 2) r (nxt (m 0 65)) else (some y, nxt (m 0 65)) := rfl
    by_cases c0 : gM w way 2 y = 0
    · rw [if_pos c0, gd3_t (by omega)]
      rw [if_pos (by omega)] at e0
      rw [e0]
      obtain ⟨m1, z1, z2, z3, z4⟩ := ih k (i + 1) m (by omega) (by omega) (by omega) hT h66 (by rw [h69]; omega) a4 a5.2 (fun e he => a6 e (List.mem_cons_of_mem _ he))
      exact ⟨m1, z1, z2, z3, z4.imp id (fun ⟨q, j, x1, x2, x3, x4, x5, x6⟩ => ⟨q, j, x1, x2, x3, x4, List.mem_cons_of_mem _ x5, x6⟩)⟩
    · rw [if_neg c0, m_draw a4, bs1]
      simp only
      rw [if_neg (by omega)] at e0
      have f1 : Fm PD m (up m 0 65 (nxt (m 0 65))) := Fm.w1 (Or.inr ⟨rfl, rfl⟩)
      by_cases c : hun (nxt (m 0 65)) < gM w way 2 y
      · rw [if_pos c]
        rw [if_neg (by omega)] at e0
        rw [e0]
        refine ⟨up m 0 65 (nxt (m 0 65)), f1, up_e, by rw [up_e]; exact hbx, Or.inr ⟨y, i, rfl, a5.1, a2, by omega, by simp, rfl⟩⟩
      · rw [if_neg c, gd3_t (by omega)]
        rw [if_pos (by omega)] at e0
        rw [e0]
        obtain ⟨m1, z1, z2, z3, z4⟩ := ih k (i + 1) (up m 0 65 (nxt (m 0 65))) (by omega) (by omega) (by omega) (hT.fr f1 (by intro a i q; unfold PD PNm; omega)) (by rw [up_i (by omega)]; exact h66) (by rw [up_i (by omega), h69]; omega) (by rw [up_e]; exact hbx) (by rw [up_b (by omega)]; exact a5.2) (fun e he => a6 e (List.mem_cons_of_mem _ he))
        rw [up_e] at z2 z4
        rw [up_b (show (34 : Nat) ≠ 0 by omega)] at z4
        exact ⟨m1, f1.tr z1, z2, z3, z4.imp id (fun ⟨q, j, x1, x2, x3, x4, x5, x6⟩ => ⟨q, j, x1, x2, x3, x4, List.mem_cons_of_mem _ x5, x6⟩)⟩
theorem NB.num {f x : Int} (h : NB w n f) (hx : 0 ≤ x ∧ x < 2147483648) : NB w (up n 0 2 x) f := by
  obtain ⟨h1, h2⟩ := h
  refine ⟨?_, fun i p q => ?_⟩
  · simp (disch := omega) only [up_e, up_i]; omega
  · simp (disch := omega) only [up_a]; exact h2 i p q
theorem lu_len {g : Mem} {v mn : Int} (h : 0 ≤ w 1 0 ∧ w 1 0 ≤ 5) : (lu w g n v mn).length ≤ 5 := by
  have : ∀ (ok : Int → Bool) (key : Int → Int) (d : Nat) (i : Int) (rl : List Int), (lud ok key d i rl).length ≤ rl.length + d := by
    intro ok key d
    induction d with
    | zero => intro i rl; exact Nat.le_refl _
    | succ d ih =>
      intro i rl
      unfold lud
      split
      · have := ih (i + 1) (insR key i rl); rw [insR_len] at this; omega
      · have := ih (i + 1) rl; omega
  have := this (okL w g n v mn) (keyV w g n v) (w 1 0).toNat 0 []
  unfold lu
  simp only [List.length_nil] at this
  omega
theorem m_comes (hT : RT m w) (hW : WW w) (hb : b = 0 ∨ b = 1) (hN : NM m b w n) {f : Int} (hB : NB w n f) (hf : 0 ≤ f ∧ f ≤ 1000) {way one v : Int} (h66 : m 0 66 = way) (h67 : way = 1 → m 0 67 = one) (hv : 0 ≤ v ∧ v < w 8 1) (hmn : m 31 b = w 11 v) (hL : TLM m b w n way one (w 11 v)) : ∃ m', G12_comes m b v (n 0 1) = some m' ∧ Fm (PCm b) m m' ∧ NM m' b w (bw w (gM w way) n v (w 11 v)) ∧ TLM m' b w (bw w (gM w way) n v (w 11 v)) way one (w 11 v) := by
  have hw := hW.1
  unfold WS at hw
  have hm := (hW.2.2.2.1 v hv.1 hv.2).2.1
  obtain ⟨m1, e1, f1, s1, k1⟩ := m_ord hT hW hb hN hB hL h66 h67 (by omega) hv
  have hlen := lu_len (w := w) (n := n) (g := gM w way) (v := v) (mn := w 11 v) (by omega)
  have hmem : ∀ e ∈ (lu w (gM w way) n v (w 11 v)).reverse, 0 ≤ e ∧ e < w 1 0 ∧ n 4 e ≤ w 11 v := fun e he => by
    have := lu_mem (List.mem_reverse.mp he) (by omega)
    exact ⟨this.1, this.2.1, this.2.2.1⟩
  have hone : ∀ e ∈ (lu w (gM w way) n v (w 11 v)).reverse, ¬ (way = 1 ∧ one = e) := fun e he q => by
    have h4 := hmem e he
    rcases hL e h4.1 h4.2.1 with z | z
    · omega
    · exact z.1 q
  have hT1 := hT.po f1
  have hN1 := hN.po f1
  have k66 : m1 0 66 = way := by rw [f1 0 66 (by unfold PO PNm; omega)]; exact h66
  have k31 : m1 31 b = w 11 v := by rw [f1 31 b (by unfold PO PNm; omega)]; exact hmn
  have k28 : m1 28 = m 28 := funext fun i => f1 28 i (by unfold PO PNm; omega)
  have k65 : m1 0 65 = n 0 2 := hN1.2.2.2.2
  unfold G12_comes G12_comes_0
  rw [e1, bs1]
  obtain ⟨m2, p, q1, q2, q3, q4, q5⟩ := m_ride hW hb hB (way := way) hv (lu w (gM w way) n v (w 11 v)).reverse 1024 0 m1 (by rw [List.length_reverse]; omega) (by omega) (by rw [List.length_reverse]; omega) hT1 (fun s x y => (hN1.1 s x y).1) k66 (by rw [List.length_reverse, k1]; omega) (by rw [k65]; have := hB.1; omega) (stk_frt s1) (fun e he => ⟨(hmem e he).1, (hmem e he).2.1⟩)
  rw [q1]
  rw [k65] at q3 q5
  have f2 : Fm (PCm b) m m2 := (f1.mono (fun a i z => Or.inl z)).tr (q2.mono PD_C)
  have hT2 := hT.pc f2
  have n2 : NM m2 b w (up n 0 2 (m2 0 65)) := by
    have h0 : NM (up m1 0 65 (m2 0 65)) b w (up n 0 2 (m2 0 65)) := hN1.num _
    have : Fm PNm (up m1 0 65 (m2 0 65)) m2 := by
      intro a i z
      by_cases c : a = 0 ∧ i = 65
      · rw [c.1, c.2, up_e]
      · have : up m1 0 65 (m2 0 65) a i = m1 a i := if_neg c
        rw [this]
        exact q2 a i (by unfold PD; exact fun y => y.elim z c)
    exact h0.fr this (by intro a i q; unfold PNm; omega)
  have b2 : NB w (up n 0 2 (m2 0 65)) f := hB.num q4
  have j66 : m2 0 66 = way := by rw [q2 0 66 (by unfold PD PNm; omega)]; exact k66
  have j31 : m2 31 b = w 11 v := by rw [q2 31 b (by unfold PD PNm; omega)]; exact k31
  have j28 : m2 28 = m 28 := (funext fun i => q2 28 i (by unfold PD PNm; omega) : m2 28 = m1 28).trans k28
  have j34 : m2 34 = m1 34 := funext fun i => q2 34 i (by unfold PD PNm; omega)
  have j69 : m2 0 69 = m1 0 69 := q2 0 69 (by unfold PD PNm; omega)
  have l2 : TLM m2 b w (up n 0 2 (m2 0 65)) way one (w 11 v) := (hL.fr j28).n4 (up_b (by omega))
  rw [List.length_reverse] at q5
  unfold G12_comes_62 bw bw1
  rw [← q3]
  rcases q5 with ⟨q5, q6⟩ | ⟨e, r, x1, x2, x3, x4, x5, x6, x7⟩
  · rw [q5, if_pos (by omega), gdx_t (by omega), wt_e, gdx_t (by omega), gdx_t (by omega)]
    have n3 := n2.who v (-1)
    have e33 : up m2 30 (28 * b + v) (-1) 33 b = n 0 4 := by rw [n3.2.2.2.1, up_a (by omega), up_i (by omega)]
    rw [e33, gd3_t (by have := hB.1; omega), wt_e]
    refine ⟨_, rfl, (f2.w (by unfold PCm; omega)).w (by unfold PCm; omega), n3.ww _, ?_⟩
    exact (l2.fr (by rw [up_b (by omega), up_b (by omega)])).n4 (n' := up (up (up n 0 2 (m2 0 65)) 6 v (-1)) 0 4 (n 0 4 + 1)) (by rw [up_b (by omega), up_b (by omega)])
  · rw [x1]
    have he := hmem e x6
    rw [if_neg (by omega), gdx_t (by omega), gd3_t (by omega), j34, x4]
    obtain ⟨m3, y1, y2, y3, y4⟩ := m_cross (b := b) (v := v) (e := e) hW (way := way) r 1024 (p + 1) m2 (by omega) (by omega) (by omega) hT2 j66 (by rw [j69, k1]; omega) q4 (by rw [j34]; exact x5) (fun q hq => ⟨(hmem q (x7 q hq)).1, (hmem q (x7 q hq)).2.1⟩)
    have f3 : Fm (PCm b) m m3 := f2.tr (y1.mono PD_C)
    have hT3 := hT.pc f3
    have n3 : NM m3 b w (up n 0 2 (m3 0 65)) := by
      have h0 : NM (up m2 0 65 (m3 0 65)) b w (up (up n 0 2 (m2 0 65)) 0 2 (m3 0 65)) := n2.num _
      have eu : up (up n 0 2 (m2 0 65)) 0 2 (m3 0 65) = up n 0 2 (m3 0 65) := by
        funext a i
        by_cases cb : a = 0
        · subst cb
          by_cases cj : i = 2
          · subst cj; rw [up_e, up_e]
          · rw [up_i cj, up_i cj, up_i cj]
        · rw [up_a cb, up_a cb, up_a cb]
      rw [eu] at h0
      have : Fm PNm (up m2 0 65 (m3 0 65)) m3 := by
        intro a i z
        by_cases c : a = 0 ∧ i = 65
        · rw [c.1, c.2, up_e]
        · have : up m2 0 65 (m3 0 65) a i = m2 a i := if_neg c
          rw [this]
          exact y1 a i (by unfold PD; exact fun y => y.elim z c)
      exact h0.fr this (by intro a i q; unfold PNm; omega)
    have b3 : NB w (up n 0 2 (m3 0 65)) f := hB.num y3
    have i66 : m3 0 66 = way := by rw [y1 0 66 (by unfold PD PNm; omega)]; exact j66
    have i31 : m3 31 b = w 11 v := by rw [y1 31 b (by unfold PD PNm; omega)]; exact j31
    have i28 : m3 28 = m 28 := (funext fun i => y1 28 i (by unfold PD PNm; omega) : m3 28 = m2 28).trans j28
    have i34 : m3 34 = m2 34 := funext fun i => y1 34 i (by unfold PD PNm; omega)
    have l3 : TLM m3 b w (up n 0 2 (m3 0 65)) way one (w 11 v) := (hL.fr i28).n4 (up_b (by omega))
    unfold bw2
    simp only
    rw [← y2]
    rcases y4 with ⟨y4, y5⟩ | ⟨q, j, y5, y6, y7, y8, y9, y10⟩
    · rw [y4, y5]
      obtain ⟨m', z1, z2, z3, z4⟩ := m_cbN hT3 hW hb n3 b3 hf i66 hv ⟨he.1, he.2.1⟩ l3 i31 (hone e x6)
      rw [up_a (show (2 : Nat) ≠ 0 by omega)] at z3 z4
      exact ⟨m', z1, f3.tr z2, z3, z4⟩
    · rw [y5, y10]
      have hq := hmem q (x7 q y9)
      obtain ⟨m', z1, z2, z3, z4⟩ := m_cbX hT3 hW hb n3 b3 hf i66 hv ⟨he.1, he.2.1⟩ ⟨hq.1, hq.2.1⟩ ⟨y7, y8⟩ (by rw [i34]; exact y6) l3 i31 (hone e x6) (hone q (x7 q y9))
      have e1 : up n 0 2 (m3 0 65) 0 3 = n 0 3 := up_i (by omega)
      have e2 : up n 0 2 (m3 0 65) 3 e = n 3 e := up_a (by omega)
      have e3 : up (up n 0 2 (m3 0 65)) 3 e (n 3 e + 1) 3 q = up n 3 e (n 3 e + 1) 3 q := by
        by_cases cc : q = e
        · subst cc; rw [up_e, up_e]
        · rw [up_i cc, up_i cc, up_a (by omega)]
      rw [e1, e2, e3] at z3 z4
      exact ⟨m', z1, f3.tr z2, z3, z4⟩
end MC
/-! What a wave keeps; the first wave to come; a run. -/
theorem ridr_num {od : Int → Int} : ∀ {l : List Int} {x : Int}, (0 ≤ x ∧ x < 2147483648) → 0 ≤ (ridr od l x).2 ∧ (ridr od l x).2 < 2147483648 := by
  intro l
  induction l with
  | nil => intro x h; exact h
  | cons y t ih =>
    intro x h
    unfold ridr
    split
    · exact ih (nxt_b x)
    · exact nxt_b x
theorem crsr_num {bl : Int → Int} : ∀ {l : List Int} {x : Int}, (0 ≤ x ∧ x < 2147483648) → 0 ≤ (crsr bl l x).2 ∧ (crsr bl l x).2 < 2147483648 := by
  intro l
  induction l with
  | nil => intro x h; exact h
  | cons y t ih =>
    intro x h
    unfold crsr
    split
    · exact ih h
    · split
      · exact ih (nxt_b x)
      · exact nxt_b x
section BWF
variable {w g n : Mem}
/-- the three ways that a wave may end -/
theorem bw_cases (hs : 0 ≤ w 1 0) (v mn : Int) (hn : 0 ≤ n 0 2 ∧ n 0 2 < 2147483648) : ∃ y, (0 ≤ y ∧ y < 2147483648) ∧ (bw w g n v mn = up (up (up n 0 2 y) 6 v (-1)) 0 4 (n 0 4 + 1) ∨ (∃ e, (0 ≤ e ∧ e < w 1 0 ∧ n 4 e ≤ mn) ∧ bw w g n v mn = bw2 w g n v e none y) ∨ ∃ e k, (0 ≤ e ∧ e < w 1 0 ∧ n 4 e ≤ mn) ∧ (0 ≤ k ∧ k < w 1 0 ∧ n 4 k ≤ mn) ∧ bw w g n v mn = bw2 w g n v e (some k) y) := by
  unfold bw bw1
  have hx := ridr_num (od := odV w g n v) (l := (lu w g n v mn).reverse) hn
  have mem : ∀ e ∈ (lu w g n v mn).reverse, 0 ≤ e ∧ e < w 1 0 ∧ n 4 e ≤ mn := fun e he => by
    have := lu_mem (List.mem_reverse.mp he) hs
    exact ⟨this.1, this.2.1, this.2.2.1⟩
  cases h : (ridr (odV w g n v) (lu w g n v mn).reverse (n 0 2)).1 with
  | none => exact ⟨_, hx, Or.inl rfl⟩
  | some p =>
    obtain ⟨e, l⟩ := p
    obtain ⟨h1, h2⟩ := ridr_mem h
    have hy := crsr_num (bl := g 2) (l := l) hx
    cases h3 : (crsr (g 2) l (ridr (odV w g n v) (lu w g n v mn).reverse (n 0 2)).2).1 with
    | none => exact ⟨_, hy, Or.inr (Or.inl ⟨e, mem e h1, by simp only [h3]⟩)⟩
    | some k => exact ⟨_, hy, Or.inr (Or.inr ⟨e, k, mem e h1, mem k (h2 k (crsr_mem h3)), by simp only [h3]⟩)⟩
theorem bw_keep (hs : 0 ≤ w 1 0) (v mn : Int) (hn : 0 ≤ n 0 2 ∧ n 0 2 < 2147483648) : (bw w g n v mn) 1 = n 1 ∧ (bw w g n v mn) 5 = n 5 ∧ (bw w g n v mn) 0 0 = n 0 0 ∧ (bw w g n v mn) 0 1 = n 0 1 ∧ (∀ k, k ≠ v → (bw w g n v mn) 6 k = n 6 k) ∧ (bw w g n v mn) 6 v ≠ -2 := by
  obtain ⟨y, hy, e | ⟨e, he, e'⟩ | ⟨e, k, he, hk, e'⟩⟩ := bw_cases (g := g) hs v mn hn
  · rw [e]
    refine ⟨?_, ?_, ?_, ?_, fun k hk => ?_, ?_⟩
    · simp (disch := omega) only [up_b]
    · simp (disch := omega) only [up_b]
    · simp (disch := omega) only [up_a, up_i]
    · simp (disch := omega) only [up_a, up_i]
    · simp (disch := omega) only [up_a, up_i]
    · simp (disch := omega) only [up_a, up_e]; omega
  · rw [e']
    unfold bw2
    refine ⟨?_, ?_, ?_, ?_, fun k hk => ?_, ?_⟩
    · simp (disch := omega) only [up_b]
    · simp (disch := omega) only [up_b]
    · simp (disch := omega) only [up_a, up_i]
    · simp (disch := omega) only [up_a, up_i]
    · simp (disch := omega) only [up_a, up_i]
    · simp (disch := omega) only [up_a, up_e]; omega
  · rw [e']
    unfold bw2
    refine ⟨?_, ?_, ?_, ?_, fun k hk => ?_, ?_⟩
    · simp (disch := omega) only [up_b]
    · simp (disch := omega) only [up_b]
    · simp (disch := omega) only [up_a, up_i]
    · simp (disch := omega) only [up_a, up_i]
    · simp (disch := omega) only [up_a, up_i]
    · simp (disch := omega) only [up_a, up_e]; omega
theorem up_v {m : Mem} {a : Nat} {i v : Int} (b : Nat) (j : Int) : up m a i v b j = v ∨ up m a i v b j = m b j := by
  by_cases c : b = a ∧ j = i
  · left; exact if_pos c
  · right; exact if_neg c
theorem bw_nb (hW : WW w) {f : Int} (hB : NB w n f) (hf : 0 ≤ f) {v mn : Int} (hv : 0 ≤ v ∧ v < w 8 1) : NB w (bw w g n v mn) (f + 2) := by
  have hw := hW.1
  unfold WS at hw
  have hm := (hW.2.2.2.1 v hv.1 hv.2).2.1
  obtain ⟨h1, h2⟩ := hB
  obtain ⟨y, hy, e | ⟨e, he, e'⟩ | ⟨e, k, he, hk, e'⟩⟩ := bw_cases (g := g) (w := w) (n := n) (by omega) v mn (by omega)
  · rw [e]
    refine ⟨?_, fun i p q => ?_⟩
    · simp (disch := omega) only [up_a, up_i, up_e]; omega
    · simp (disch := omega) only [up_a]
      have := h2 i p q
      omega
  · rw [e']
    unfold bw2
    have hab := away_b w (g 1 e) v
    refine ⟨?_, fun i p q => ?_⟩
    · simp (disch := omega) only [up_a, up_i, up_e]; omega
    · have q1 := h2 i p q
      have q2 := h2 e he.1 he.2.1
      simp (disch := omega) only [up_a]
      refine ⟨q1.1, ?_, ?_, ?_⟩
      · rcases up_v (m := up (up n 0 2 y) 6 v e) (a := 2) (i := e) (v := n 2 e + 1) 2 i with z | z
        · rw [z]; omega
        · rw [z]; simp (disch := omega) only [up_a]; omega
      · omega
      · rcases up_v (m := up (up (up n 0 2 y) 6 v e) 2 e (n 2 e + 1)) (a := 4) (i := e) (v := w 11 v + 1 * awayN w (g 1 e) v) 4 i with z | z
        · rw [z]; omega
        · rw [z]; simp (disch := omega) only [up_a]; omega
  · rw [e']
    unfold bw2
    have hab := away_b w (g 1 e) v
    have hab' := away_b w (g 1 k) v
    refine ⟨?_, fun i p q => ?_⟩
    · simp (disch := omega) only [up_a, up_i, up_e]; omega
    · have q1 := h2 i p q
      have q2 := h2 e he.1 he.2.1
      have q3 := h2 k hk.1 hk.2.1
      simp (disch := omega) only [up_a]
      refine ⟨q1.1, by omega, ?_, ?_⟩
      · have z0 : 0 ≤ up n 3 e (n 3 e + 1) 3 k ∧ up n 3 e (n 3 e + 1) 3 k ≤ f + 1 := by
          rcases up_v (m := n) (a := 3) (i := e) (v := n 3 e + 1) 3 k with z | z <;> rw [z] <;> omega
        rcases up_v (m := up (up (up (up n 0 2 y) 6 v (-3)) 0 3 (n 0 3 + 1)) 3 e (n 3 e + 1)) (a := 3) (i := k) (v := up n 3 e (n 3 e + 1) 3 k + 1) 3 i with z | z
        · rw [z]; omega
        · rw [z]
          rcases up_v (m := up (up (up n 0 2 y) 6 v (-3)) 0 3 (n 0 3 + 1)) (a := 3) (i := e) (v := n 3 e + 1) 3 i with z | z
          · rw [z]; omega
          · rw [z]; simp (disch := omega) only [up_a]; omega
      · rcases up_v (m := up (up (up (up (up (up n 0 2 y) 6 v (-3)) 0 3 (n 0 3 + 1)) 3 e (n 3 e + 1)) 3 k (up n 3 e (n 3 e + 1) 3 k + 1)) 4 e (w 11 v + 2 * awayN w (g 1 e) v)) (a := 4) (i := k) (v := w 11 v + 2 * awayN w (g 1 k) v) 4 i with z | z
        · rw [z]; omega
        · rw [z]
          rcases up_v (m := up (up (up (up (up n 0 2 y) 6 v (-3)) 0 3 (n 0 3 + 1)) 3 e (n 3 e + 1)) 3 k (up n 3 e (n 3 e + 1) 3 k + 1)) (a := 4) (i := e) (v := w 11 v + 2 * awayN w (g 1 e) v) 4 i with z | z
          · rw [z]; omega
          · rw [z]; simp (disch := omega) only [up_a]; omega
/-- two that agree where it matters -/
def GE (w g g' : Mem) : Prop := (∀ i, 0 ≤ i → i < w 1 0 → g 1 i = g' 1 i ∧ g 2 i = g' 2 i) ∧ ∀ v, 0 ≤ v → v < w 8 1 → g 3 v = g' 3 v
theorem ridr_od {o1 o2 : Int → Int} : ∀ {l : List Int} {x : Int}, (∀ e ∈ l, o1 e = o2 e) → ridr o1 l x = ridr o2 l x := by
  intro l
  induction l with
  | nil => intros; rfl
  | cons y t ih =>
    intro x h
    unfold ridr
    rw [h y (by simp), ih (fun e he => h e (List.mem_cons_of_mem _ he))]
theorem crsr_bl {o1 o2 : Int → Int} : ∀ {l : List Int} {x : Int}, (∀ e ∈ l, o1 e = o2 e) → crsr o1 l x = crsr o2 l x := by
  intro l
  induction l with
  | nil => intros; rfl
  | cons y t ih =>
    intro x h
    unfold crsr
    rw [h y (by simp), ih (fun e he => h e (List.mem_cons_of_mem _ he)), ih (fun e he => h e (List.mem_cons_of_mem _ he))]
theorem lud_eq {o1 o2 : Int → Bool} {k1 k2 : Int → Int} : ∀ (d : Nat) (i : Int) (rl : List Int), (∀ e, i ≤ e → e < i + d → o1 e = o2 e) → (∀ e ∈ rl, k1 e = k2 e) → (∀ e, i ≤ e → e < i + d → k1 e = k2 e) → lud o1 k1 d i rl = lud o2 k2 d i rl := by
  intro d
  induction d with
  | zero => intros; rfl
  | succ d ih =>
    intro i rl h1 h2 h3
    have hk := h3 i (by omega) (by omega)
    have hi : insR k1 i rl = insR k2 i rl := insR_key (fun e he => by rw [h2 e he, hk])
    have e1 := ih (i + 1) (insR k2 i rl) (fun e a b => h1 e (by omega) (by omega)) (fun e he => by
      rcases insR_mem.mp he with rfl | q
      · exact hk
      · exact h2 e q) (fun e a b => h3 e (by omega) (by omega))
    have e2 := ih (i + 1) rl (fun e a b => h1 e (by omega) (by omega)) h2 (fun e a b => h3 e (by omega) (by omega))
    show (if _ then _ else _) = (if _ then _ else _)
    rw [h1 i (by omega) (by omega), hi, e1, e2]
theorem od_ge {g' : Mem} (h : GE w g g') {v i : Int} (hv : 0 ≤ v ∧ v < w 8 1) (hi : 0 ≤ i ∧ i < w 1 0) : odV w g n v i = odV w g' n v i := by
  unfold odV; rw [(h.1 i hi.1 hi.2).1, h.2 v hv.1 hv.2]
theorem key_ge {g' : Mem} (h : GE w g g') {v i : Int} (hv : 0 ≤ v ∧ v < w 8 1) : keyV w g n v i = keyV w g' n v i := by
  unfold keyV; rw [h.2 v hv.1 hv.2]
theorem lu_ge {g' : Mem} (h : GE w g g') {v mn : Int} (hv : 0 ≤ v ∧ v < w 8 1) (hs : 0 ≤ w 1 0) : lu w g n v mn = lu w g' n v mn := by
  unfold lu
  exact lud_eq _ _ _ (fun e a b => by unfold okL; rw [od_ge h hv (by omega)]) (fun e he => nomatch he) (fun e _ _ => key_ge h hv)
theorem bw_ge {g' : Mem} (h : GE w g g') {v mn : Int} (hv : 0 ≤ v ∧ v < w 8 1) (hs : 0 ≤ w 1 0) : bw w g n v mn = bw w g' n v mn := by
  have mem : ∀ e ∈ (lu w g' n v mn).reverse, 0 ≤ e ∧ e < w 1 0 := fun e he => by
    have := lu_mem (List.mem_reverse.mp he) hs
    exact ⟨this.1, this.2.1⟩
  have hr : ridr (odV w g n v) (lu w g n v mn).reverse (n 0 2) = ridr (odV w g' n v) (lu w g' n v mn).reverse (n 0 2) := by
    rw [lu_ge h hv hs]
    exact ridr_od (fun e he => od_ge h hv (mem e he))
  unfold bw
  rw [hr]
  unfold bw1
  cases h1 : (ridr (odV w g' n v) (lu w g' n v mn).reverse (n 0 2)).1 with
  | none => rfl
  | some p =>
    obtain ⟨e, l⟩ := p
    obtain ⟨h2, h3⟩ := ridr_mem h1
    have he := mem e h2
    have hc : crsr (g 2) l (ridr (odV w g' n v) (lu w g' n v mn).reverse (n 0 2)).2 = crsr (g' 2) l (ridr (odV w g' n v) (lu w g' n v mn).reverse (n 0 2)).2 := crsr_bl (fun q hq => (h.1 q (mem q (h3 q hq)).1 (mem q (h3 q hq)).2).2)
    simp only
    rw [hc]
    unfold bw2
    cases h4 : (crsr (g' 2) l (ridr (odV w g' n v) (lu w g' n v mn).reverse (n 0 2)).2).1 with
    | none => simp only; rw [(h.1 e he.1 he.2).1]
    | some k =>
      have hk := mem k (h3 k (crsr_mem h4))
      simp only
      rw [(h.1 e he.1 he.2).1, (h.1 k hk.1 hk.2).1]
/-- waves come later and later -/
theorem wv_mono (hW : WW w) : ∀ (d : Nat) (i : Int), 0 ≤ i → i + d + 1 < w 8 1 + 0 → w 11 i < w 11 (i + d + 1) := by
  intro d
  induction d with
  | zero => intro i a b; have := (hW.2.2.2.1 i a (by omega)).2.2 (by omega); simpa using this
  | succ d ih =>
    intro i a b
    have h1 := ih i a (by omega)
    have h2 := (hW.2.2.2.1 (i + d + 1) (by omega) (by omega)).2.2 (by omega)
    have e : i + ((d + 1 : Nat) : Int) + 1 = i + d + 1 + 1 := by omega
    rw [e]; omega
theorem wv_lt (hW : WW w) {i j : Int} (hi : 0 ≤ i) (hij : i < j) (hj : j < w 8 1) : w 11 i < w 11 j := by
  have := wv_mono hW (j - i - 1).toNat i hi (by omega)
  have e : i + ((j - i - 1).toNat : Int) + 1 = j := by omega
  rwa [e] at this
theorem ffd_spec {f : Int → Int} {x : Int} : ∀ (d : Nat) (i : Int), i ≤ ffd f x d i ∧ ffd f x d i ≤ i + d ∧ (∀ k, i ≤ k → k < ffd f x d i → f k < x) ∧ (ffd f x d i < i + d → x ≤ f (ffd f x d i)) := by
  intro d
  induction d with
  | zero => intro i; refine ⟨Int.le_refl i, by show i ≤ _; omega, fun k a b => ?_, fun h => ?_⟩
            · have : k < i := b
              omega
            · have : i < i + ((0 : Nat) : Int) := h
              omega
  | succ d ih =>
    intro i
    have e : ffd f x (d + 1) i = if f i < x then ffd f x d (i + 1) else i := rfl
    rw [e]
    by_cases c : f i < x
    · rw [if_pos c]
      obtain ⟨h1, h2, h3, h4⟩ := ih (i + 1)
      refine ⟨by omega, by omega, fun k a b => ?_, fun h => h4 (by omega)⟩
      by_cases z : k = i
      · rw [z]; exact c
      · exact h3 k (by omega) b
    · rw [if_neg c]
      exact ⟨by omega, by omega, fun k a b => by omega, fun _ => by omega⟩
theorem ff_spec (hs : 0 ≤ w 8 1) (x : Int) : 0 ≤ ff w x ∧ ff w x ≤ w 8 1 ∧ (∀ k, 0 ≤ k → k < ff w x → w 11 k < x) ∧ (ff w x < w 8 1 → x ≤ w 11 (ff w x)) := by
  obtain ⟨h1, h2, h3, h4⟩ := ffd_spec (f := w 11) (x := x) (w 8 1).toNat 0
  unfold ff
  exact ⟨h1, by omega, h3, fun h => h4 (by omega)⟩
/-- it is the only such place -/
theorem ff_eq (hs : 0 ≤ w 8 1) {x v : Int} (h1 : 0 ≤ v ∧ v ≤ w 8 1) (h2 : ∀ k, 0 ≤ k → k < v → w 11 k < x) (h3 : v < w 8 1 → x ≤ w 11 v) : ff w x = v := by
  obtain ⟨a1, a2, a3, a4⟩ := ff_spec hs x
  rcases Int.lt_trichotomy (ff w x) v with c | c | c
  · have := h2 _ a1 c
    have := a4 (by omega)
    omega
  · exact c
  · have := a3 v h1.1 c
    have := h3 (by omega)
    omega
def rnd (w g : Mem) : Nat → Int → Mem → Mem
  | 0, _, n => n
  | d + 1, v, n => rnd w g d (v + 1) (bw w g n v (w 11 v))
theorem rnd_s (d : Nat) (v : Int) : rnd w g (d + 1) v n = rnd w g d (v + 1) (bw w g n v (w 11 v)) := rfl
theorem rnd_ge {g' : Mem} (h : GE w g g') (hs : 0 ≤ w 1 0) : ∀ (d : Nat) (v : Int) (n : Mem), 0 ≤ v → v + d ≤ w 8 1 → rnd w g d v n = rnd w g' d v n := by
  intro d
  induction d with
  | zero => intros; rfl
  | succ d ih =>
    intro v n a b
    rw [rnd_s, rnd_s, bw_ge h (by omega) hs, ih (v + 1) _ (by omega) (by omega)]
theorem rnd_nb (hW : WW w) : ∀ (d : Nat) (v f : Int) (n : Mem), 0 ≤ v → v + d ≤ w 8 1 → 0 ≤ f → NB w n f → NB w (rnd w g d v n) (f + 2 * d) ∧ (rnd w g d v n) 0 1 = n 0 1 := by
  have hw := hW.1
  unfold WS at hw
  intro d
  induction d with
  | zero => intro v f n a b c h; exact ⟨by rw [show f + 2 * ((0 : Nat) : Int) = f by omega]; exact h, rfl⟩
  | succ d ih =>
    intro v f n a b c h
    have h1 := bw_nb (g := g) hW h c (v := v) (mn := w 11 v) (by omega)
    have h2 := ih (v + 1) (f + 2) (bw w g n v (w 11 v)) (by omega) (by omega) (by omega) h1
    rw [rnd_s]
    refine ⟨?_, ?_⟩
    · have : f + 2 * ((d + 1 : Nat) : Int) = f + 2 + 2 * d := by omega
      rw [this]; exact h2.1
    · rw [h2.2]
      exact (bw_keep (g := g) (by omega) v (w 11 v) (by have := h.1; omega)).2.2.2.1
end BWF
/-! The reference: a minute, a run. -/
/-- what a minute mn brings -/
def mnt (w g n : Mem) (mn : Int) : Mem := if ff w mn < w 8 1 ∧ w 11 (ff w mn) = mn then bw w g n (ff w mn) mn else n
def PMn (b : Int) : Nat → Int → Prop := fun a i => PCm b a i ∨ (a = 31 ∧ i = b)
theorem RT.pm {v v' w : Mem} {b : Int} (h : RT v w) (f : Fm (PMn b) v v') : RT v' w := h.fr f (by intro a i q; unfold PMn PCm PO PNm; omega)
section MR
variable {m w n : Mem} {b : Int}
theorem mnt_ge {g g' : Mem} (h : GE w g g') (hs : 0 ≤ w 1 0) (hc : 0 ≤ w 8 1) (mn : Int) : mnt w g n mn = mnt w g' n mn := by
  unfold mnt
  have h1 := ff_spec hc mn
  split
  · rename_i c; rw [bw_ge h ⟨h1.1, c.1⟩ hs]
  · rfl
/-- those who were away till now are back -/
theorem m_min50 (hb : b = 0 ∨ b = 1) {way one mn : Int} (hmn : 0 ≤ mn ∧ mn ≤ 900) (h5 : 0 ≤ w 1 0 ∧ w 1 0 ≤ 5) : ∀ (d k : Nat) (i : Int) (m : Mem), 0 ≤ i → w 1 0 - i = d → d < k → m 0 14 = w 1 0 → m 31 b = mn + 1 → (∀ s, 0 ≤ s → s < w 1 0 → (way = 1 ∧ one = s ∧ 1000 < n 4 s) ∨ (¬ (way = 1 ∧ one = s) ∧ m 28 (5 * b + s) = if n 4 s ≤ (if s < i then mn + 1 else mn) then 0 else n 4 s)) → ∃ m', G12_aMinute_50 k m b i = some m' ∧ Fm (fun a j => a = 28 ∧ 5 * b ≤ j ∧ j < 5 * b + 5) m m' ∧ TLM m' b w n way one (mn + 1) := by
  intro d
  induction d with
  | zero =>
    intro k i m a1 a2 a3 h14 h31 h
    obtain ⟨k, rfl⟩ : ∃ j, k = j + 1 := ⟨k - 1, by omega⟩
    rw [G12_aMinute_50, h14, if_pos (by omega)]
    refine ⟨m, rfl, Fm.rf, fun s p q => ?_⟩
    have := h s p q
    rwa [if_pos (show s < i by omega)] at this
  | succ d ih =>
    intro k i m a1 a2 a3 h14 h31 h
    obtain ⟨k, rfl⟩ : ∃ j, k = j + 1 := ⟨k - 1, by omega⟩
    rw [G12_aMinute_50, h14, if_neg (by omega), gdx_t (by omega), gdx_t (by omega), h31, gdx_t (by omega)]
    have hi := h i (by omega) (by omega)
    rw [if_neg (show ¬ i < i by omega)] at hi
    by_cases c : m 28 (5 * b + i) = mn + 1
    · rw [if_pos c, wt_e, gd3_t (by omega)]
      obtain ⟨m', q1, q2, q3⟩ := ih k (i + 1) (up m 28 (5 * b + i) 0) (by omega) (by omega) (by omega) (by rw [up_a (by omega)]; exact h14) (by rw [up_a (by omega)]; exact h31) (fun s p q => by
        by_cases z : s = i
        · subst z
          rcases hi with x | ⟨x, y⟩
          · exact Or.inl x
          · right
            refine ⟨x, ?_⟩
            rw [up_e, if_pos (show s < s + 1 by omega)]
            rw [c] at y
            by_cases z2 : n 4 s ≤ mn
            · rw [if_pos z2] at y; omega
            · rw [if_neg z2] at y
              rw [if_pos (by omega)]
        · rw [up_i (show 5 * b + s ≠ 5 * b + i by omega)]
          have := h s p q
          by_cases z2 : s < i
          · rw [if_pos z2] at this; rw [if_pos (show s < i + 1 by omega)]; exact this
          · rw [if_neg z2] at this; rw [if_neg (show ¬ s < i + 1 by omega)]; exact this)
      exact ⟨m', q1, (Fm.w1 ⟨rfl, by omega, by omega⟩).tr q2, q3⟩
    · rw [if_neg c, gd3_t (by omega)]
      exact ih k (i + 1) m (by omega) (by omega) (by omega) h14 h31 (fun s p q => by
        have hs := h s p q
        by_cases z : s = i
        · subst z
          rcases hi with x | ⟨x, y⟩
          · exact Or.inl x
          · right
            refine ⟨x, ?_⟩
            rw [if_pos (show s < s + 1 by omega)]
            by_cases z2 : n 4 s ≤ mn
            · rw [if_pos z2] at y; rw [if_pos (by omega)]; exact y
            · rw [if_neg z2] at y
              rw [y] at c
              rw [if_neg (by omega)]; exact y
        · by_cases z2 : s < i
          · rw [if_pos z2] at hs; rw [if_pos (show s < i + 1 by omega)]; exact hs
          · rw [if_neg z2] at hs; rw [if_neg (show ¬ s < i + 1 by omega)]; exact hs)
theorem m_min2 (hW : WW w) (hb : b = 0 ∨ b = 1) {f : Int} (hB : NB w n f) (hf : 0 ≤ f ∧ f ≤ 900) {way one mn : Int} (hmn : 0 ≤ mn ∧ mn ≤ 900) : ∀ (d k : Nat) (i : Int) (m : Mem), 0 ≤ i → w 8 1 - i = d → d < k → RT m w → m 0 66 = way → (way = 1 → m 0 67 = one) → m 31 b = mn → NM m b w (if i ≤ ff w mn then n else mnt w (gM w way) n mn) → TLM m b w (if i ≤ ff w mn then n else mnt w (gM w way) n mn) way one mn → ∃ m', G12_aMinute_2 k m b (n 0 1) i = some m' ∧ Fm (PMn b) m m' ∧ m' 31 b = mn + 1 ∧ NM m' b w (mnt w (gM w way) n mn) ∧ TLM m' b w (mnt w (gM w way) n mn) way one (mn + 1) := by
  have hw := hW.1
  unfold WS at hw
  obtain ⟨v1, v2, v3, v4⟩ := ff_spec (w := w) (by omega) mn
  intro d
  induction d with
  | zero =>
    intro k i m a1 a2 a3 hT h66 h67 h31 hN hL
    obtain ⟨k, rfl⟩ : ∃ j, k = j + 1 := ⟨k - 1, by omega⟩
    have he : (if i ≤ ff w mn then n else mnt w (gM w way) n mn) = mnt w (gM w way) n mn := by
      split
      · unfold mnt; rw [if_neg (by omega)]
      · rfl
    rw [he] at hN hL
    rw [G12_aMinute_2, hT.1.2.2.2.2.1, if_pos (by omega), gdx_t (by omega), gdx_t (by omega), h31, gd3_t (by omega), wt_e]
    obtain ⟨m', q1, q2, q3⟩ := m_min50 (b := b) (w := w) (n := mnt w (gM w way) n mn) hb (way := way) (one := one) hmn (by omega) (w 1 0).toNat 1024 0 (up m 31 b (mn + 1)) (by omega) (by omega) (by omega) (by rw [up_a (by omega)]; exact hT.1.2.2.1) up_e (fun s p q => by
      rw [up_a (by omega), if_neg (show ¬ s < 0 by omega)]
      exact hL s p q)
    have f1 : Fm (PMn b) m (up m 31 b (mn + 1)) := Fm.w1 (Or.inr ⟨rfl, rfl⟩)
    refine ⟨m', q1, f1.tr (q2.mono (by intro a j z; unfold PMn PCm; omega)), ?_, ?_, q3⟩
    · rw [q2 31 b (by omega), up_e]
    · have n1 : NM (up m 31 b (mn + 1)) b w (mnt w (gM w way) n mn) := by
        obtain ⟨h1, h2, h3, h4, h5⟩ := hN
        refine ⟨fun i p q => ?_, fun k p q => ?_, ?_, ?_, ?_⟩
        · simp (disch := omega) only [up_a]; exact h1 i p q
        · simp (disch := omega) only [up_a]; exact h2 k p q
        · simp (disch := omega) only [up_a]; exact h3
        · simp (disch := omega) only [up_a]; exact h4
        · simp (disch := omega) only [up_a]; exact h5
      obtain ⟨h1, h2, h3, h4, h5⟩ := n1
      refine ⟨fun i p q => ?_, fun k p q => ?_, ?_, ?_, ?_⟩
      · rw [q2 _ _ (by omega), q2 _ _ (by omega), q2 _ _ (by omega)]; exact h1 i p q
      · rw [q2 _ _ (by omega)]; exact h2 k p q
      · rw [q2 _ _ (by omega)]; exact h3
      · rw [q2 _ _ (by omega)]; exact h4
      · rw [q2 _ _ (by omega)]; exact h5
  | succ d ih =>
    intro k i m a1 a2 a3 hT h66 h67 h31 hN hL
    obtain ⟨k, rfl⟩ : ∃ j, k = j + 1 := ⟨k - 1, by omega⟩
    rw [G12_aMinute_2, hT.1.2.2.2.2.1, if_neg (by omega), gdx_t (by omega), gdx_t (by omega), (hT.2.2.2.2.1 i (by omega) (by omega)).1, h31]
    by_cases c : w 11 i = mn
    · have hiv : i = ff w mn := by
        rcases Int.lt_trichotomy i (ff w mn) with z | z | z
        · have := v3 i a1 z; omega
        · exact z
        · have h1 := v4 (by omega)
          have h2 := wv_lt hW v1 z (by omega)
          omega
      rw [if_pos c]
      rw [if_pos (by omega)] at hN hL
      have hmt : mnt w (gM w way) n mn = bw w (gM w way) n i (w 11 i) := by
        unfold mnt
        rw [← hiv, if_pos ⟨by omega, c⟩, c]
      obtain ⟨m1, q1, q2, q3, q4⟩ := m_comes hT hW hb hN hB (by omega) h66 h67 (v := i) (by omega) (by rw [c]; exact h31) (by rw [c]; exact hL)
      rw [q1, bs1, gd3_t (by omega)]
      rw [← hmt] at q3 q4
      rw [c] at q4
      obtain ⟨m', z1, z2, z3, z4, z5⟩ := ih k (i + 1) m1 (by omega) (by omega) (by omega) (hT.pc q2) (by rw [q2 0 66 (by unfold PCm PO PNm; omega)]; exact h66) (fun z => by rw [q2 0 67 (by unfold PCm PO PNm; omega)]; exact h67 z) (by rw [q2 31 b (by unfold PCm PO PNm; omega)]; exact h31) (by rw [if_neg (by omega)]; exact q3) (by rw [if_neg (by omega)]; exact q4)
      exact ⟨m', z1, (q2.mono (fun a j z => Or.inl z)).tr z2, z3, z4, z5⟩
    · rw [if_neg c, gd3_t (by omega)]
      have he : (if i + 1 ≤ ff w mn then n else mnt w (gM w way) n mn) = (if i ≤ ff w mn then n else mnt w (gM w way) n mn) := by
        by_cases z : i = ff w mn
        · rw [if_neg (by omega), if_pos (by omega)]
          unfold mnt
          rw [if_neg (fun q => c (by rw [z]; exact q.2))]
        · by_cases z2 : i ≤ ff w mn
          · rw [if_pos z2, if_pos (by omega)]
          · rw [if_neg z2, if_neg (by omega)]
      exact ih k (i + 1) m (by omega) (by omega) (by omega) hT h66 h67 h31 (by rw [he]; exact hN) (by rw [he]; exact hL)
theorem m_min (hT : RT m w) (hW : WW w) (hb : b = 0 ∨ b = 1) (hN : NM m b w n) {f : Int} (hB : NB w n f) (hf : 0 ≤ f ∧ f ≤ 900) {way one mn : Int} (hmn : 0 ≤ mn ∧ mn ≤ 900) (h66 : m 0 66 = way) (h67 : way = 1 → m 0 67 = one) (h31 : m 31 b = mn) (hL : TLM m b w n way one mn) : ∃ m', G12_aMinute m b (n 0 1) = some m' ∧ Fm (PMn b) m m' ∧ m' 31 b = mn + 1 ∧ NM m' b w (mnt w (gM w way) n mn) ∧ TLM m' b w (mnt w (gM w way) n mn) way one (mn + 1) := by
  have hw := hW.1
  unfold WS at hw
  have hv := (ff_spec (w := w) (by omega) mn).1
  exact m_min2 hW hb hB hf hmn (w 8 1).toNat 1024 0 m (by omega) (by omega) (by omega) hT h66 h67 h31 (by rw [if_pos hv]; exact hN) (by rw [if_pos hv]; exact hL)
/-- bank 1 from minute mn on, up to the last wave -/
theorem m_goes (hW : WW w) {way one : Int} : ∀ (D k : Nat) (mn f : Int) (n m : Mem), 0 ≤ mn → mn ≤ 800 → (w 8 1 = 0 ∨ w 11 (w 8 1 - 1) + 1 - mn ≤ D) → D < k → 0 ≤ f → f + 2 * (w 8 1 - ff w mn) ≤ 900 → RT m w → NM m 1 w n → NB w n f → m 0 66 = way → (way = 1 → m 0 67 = one) → m 31 1 = mn → TLM m 1 w n way one mn → ∃ m', G12_goesOn_0 k m (n 0 1) = some m' ∧ Fm (PMn 1) m m' ∧ NM m' 1 w (rnd w (gM w way) (w 8 1 - ff w mn).toNat (ff w mn) n) := by
  have hw := hW.1
  unfold WS at hw
  intro D
  induction D with
  | zero =>
    intro k mn f n m a1 a2 a3 a4 a5 a6 hT hN hB h66 h67 h31 hL
    obtain ⟨k, rfl⟩ : ∃ j, k = j + 1 := ⟨k - 1, by omega⟩
    obtain ⟨v1, v2, v3, v4⟩ := ff_spec (w := w) (by omega) mn
    have hff : ff w mn = w 8 1 := by
      by_cases z : ff w mn < w 8 1
      · have h1 := v4 z
        by_cases z2 : ff w mn = w 8 1 - 1
        · rw [z2] at h1; omega
        · have := wv_lt hW v1 (show ff w mn < w 8 1 - 1 by omega) (by omega); omega
      · omega
    have e0 : rnd w (gM w way) (w 8 1 - ff w mn).toNat (ff w mn) n = n := by
      rw [hff]
      have : (w 8 1 - w 8 1).toNat = 0 := by omega
      rw [this]; rfl
    rw [e0, G12_goesOn_0, hT.1.2.2.2.2.1]
    by_cases c : w 8 1 ≤ 0
    · rw [if_pos c]; exact ⟨m, rfl, Fm.rf, hN⟩
    · rw [if_neg c, gdx_t (by omega), (hT.2.2.2.2.1 (w 8 1 - 1) (by omega) (by omega)).1, h31, if_pos (by omega)]
      exact ⟨m, rfl, Fm.rf, hN⟩
  | succ D ih =>
    intro k mn f n m a1 a2 a3 a4 a5 a6 hT hN hB h66 h67 h31 hL
    obtain ⟨k, rfl⟩ : ∃ j, k = j + 1 := ⟨k - 1, by omega⟩
    obtain ⟨v1, v2, v3, v4⟩ := ff_spec (w := w) (by omega) mn
    by_cases c0 : w 8 1 ≤ 0 ∨ w 11 (w 8 1 - 1) < mn
    · have hff : ff w mn = w 8 1 := by
        by_cases z : ff w mn < w 8 1
        · have h1 := v4 z
          by_cases z2 : ff w mn = w 8 1 - 1
          · rw [z2] at h1; omega
          · have := wv_lt hW v1 (show ff w mn < w 8 1 - 1 by omega) (by omega); omega
        · omega
      have e0 : rnd w (gM w way) (w 8 1 - ff w mn).toNat (ff w mn) n = n := by
        rw [hff]
        have : (w 8 1 - w 8 1).toNat = 0 := by omega
        rw [this]; rfl
      rw [e0, G12_goesOn_0, hT.1.2.2.2.2.1]
      by_cases c : w 8 1 ≤ 0
      · rw [if_pos c]; exact ⟨m, rfl, Fm.rf, hN⟩
      · rw [if_neg c, gdx_t (by omega), (hT.2.2.2.2.1 (w 8 1 - 1) (by omega) (by omega)).1, h31, if_pos (by omega)]
        exact ⟨m, rfl, Fm.rf, hN⟩
    · have hlast := (hW.2.2.2.1 (w 8 1 - 1) (by omega) (by omega)).2.1
      rw [G12_goesOn_0, hT.1.2.2.2.2.1, if_neg (by omega), gdx_t (by omega), (hT.2.2.2.2.1 (w 8 1 - 1) (by omega) (by omega)).1, h31, if_neg (by omega)]
      obtain ⟨m1, q1, q2, q3, q4, q5⟩ := m_min hT hW (Or.inr rfl) hN hB (by omega) (by omega) h66 h67 h31 hL
      rw [q1, bs1]
      have hv : ff w mn < w 8 1 := by
        rcases Int.lt_or_le (ff w mn) (w 8 1) with z | z
        · exact z
        · have := v3 (w 8 1 - 1) (by omega) (by omega); omega
      have h4 := v4 hv
      have hrule : (mnt w (gM w way) n mn) 0 1 = n 0 1 := by
        unfold mnt
        split
        · exact (bw_keep (g := gM w way) (by omega) _ _ (by have := hB.1; omega)).2.2.2.1
        · rfl
      have j66 : m1 0 66 = way := by rw [q2 0 66 (by unfold PMn PCm PO PNm; omega)]; exact h66
      have j67 : way = 1 → m1 0 67 = one := fun z => by rw [q2 0 67 (by unfold PMn PCm PO PNm; omega)]; exact h67 z
      by_cases c : w 11 (ff w mn) = mn
      · have hmt : mnt w (gM w way) n mn = bw w (gM w way) n (ff w mn) (w 11 (ff w mn)) := by
          unfold mnt; rw [if_pos ⟨hv, c⟩, c]
        have hff : ff w (mn + 1) = ff w mn + 1 := ff_eq (by omega) (by omega) (fun k x y => by
          by_cases z : k = ff w mn
          · rw [z, c]; omega
          · have := v3 k x (by omega); omega) (fun z => by
          have := wv_lt hW v1 (show ff w mn < ff w mn + 1 by omega) z; omega)
        obtain ⟨m', z1, z2, z3⟩ := ih k (mn + 1) (f + 2) (mnt w (gM w way) n mn) m1 (by omega) (by omega) (by omega) (by omega) (by omega) (by rw [hff]; omega) (hT.pm q2) q4 (by rw [hmt]; exact bw_nb hW hB a5 (by omega)) j66 j67 q3 q5
        rw [hrule] at z1
        refine ⟨m', z1, q2.tr z2, ?_⟩
        rw [hff, hmt] at z3
        have : (w 8 1 - ff w mn).toNat = (w 8 1 - (ff w mn + 1)).toNat + 1 := by omega
        rw [this, rnd_s]
        exact z3
      · have hmt : mnt w (gM w way) n mn = n := by
          unfold mnt; rw [if_neg (fun q => c q.2)]
        have hff : ff w (mn + 1) = ff w mn := ff_eq (by omega) (by omega) (fun k x y => by have := v3 k x y; omega) (fun z => by omega)
        rw [hmt] at q4 q5
        obtain ⟨m', z1, z2, z3⟩ := ih k (mn + 1) f n m1 (by omega) (by omega) (by omega) (by omega) a5 (by rw [hff]; omega) (hT.pm q2) q4 hB j66 j67 q3 q5
        refine ⟨m', z1, q2.tr z2, ?_⟩
        rw [hff] at z3
        exact z3
end MR
