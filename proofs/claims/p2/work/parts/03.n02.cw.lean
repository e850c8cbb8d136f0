/-! Waves, told, a minute: what the class's small methods answer. -/
section CW
variable {m : Mem} {T : Nat} {w : Mem}
theorem g_fm (ht : TX m T w) {t : Int} (h1 : 0 ≤ t ∧ t < 4) (h2 : 0 ≤ w 9 t ∧ w 9 t < 28) : G10_firstMinute m (T + 8) t = some (w 11 (w 9 t), m) := by
  obtain ⟨a1, a2, a3⟩ := ht
  unfold G10_firstMinute G10_firstMinute_0
  rw [gdx_t h1, a3 9 t (by omega), gdx_t h2, a3 11 _ (by omega)]
theorem g_lm (ht : TX m T w) {t : Int} (h1 : 0 ≤ t ∧ t < 4) (h2 : 0 ≤ w 9 t ∧ w 9 t < 28) (h3 : 0 ≤ w 10 t ∧ w 10 t ≤ 7) (h4 : 0 ≤ w 11 (w 9 t) ∧ w 11 (w 9 t) ≤ 199) : G10_lastMinute m (T + 8) t = some (w 11 (w 9 t) + w 10 t - 1, m) := by
  have e := g_fm ht h1 h2
  obtain ⟨a1, a2, a3⟩ := ht
  unfold G10_lastMinute G10_lastMinute_0
  rw [e, bs1, gdx_t h1]
  simp only [a3 10 t (by omega)]
  rw [gd3_t (by omega)]
theorem g_sf2 (ht : TX m T w) (hs : 0 ≤ w 8 0 ∧ w 8 0 ≤ 4) (hf : ∀ t, 0 ≤ t → t < w 8 0 → 0 ≤ w 9 t ∧ w 9 t < 28) (x : Int) : ∀ (d n : Nat) (i : Int), 0 ≤ i → i ≤ w 8 0 → w 8 0 - i = d → d < n → G10_setFrom_2 n m (T + 8) x i = some (sfd (fun t => w 11 (w 9 t)) x d i, m) := by
  intro d
  induction d with
  | zero =>
    intro n i a1 a2 a3 a4
    obtain ⟨n, rfl⟩ : ∃ k, n = k + 1 := ⟨n - 1, by omega⟩
    rw [G10_setFrom_2, ht.2.2 8 0 (by omega), if_pos (by omega)]
    rfl
  | succ d ih =>
    intro n i a1 a2 a3 a4
    obtain ⟨n, rfl⟩ : ∃ k, n = k + 1 := ⟨n - 1, by omega⟩
    rw [G10_setFrom_2, ht.2.2 8 0 (by omega), if_neg (by omega), g_fm ht (by omega) (hf i (by omega) (by omega)), bs1]
    unfold sfd
    simp only
    split
    · rw [gd3_t (by omega), ih n (i + 1) (by omega) (by omega) (by omega) (by omega)]
    · rfl
theorem g_sf (ht : TX m T w) (hs : 0 ≤ w 8 0 ∧ w 8 0 ≤ 4) (hf : ∀ t, 0 ≤ t → t < w 8 0 → 0 ≤ w 9 t ∧ w 9 t < 28) (x : Int) : G10_setFrom m (T + 8) x = some (sf w x, m) :=
  g_sf2 ht hs hf x _ 1024 0 (by omega) (by omega) (by omega) (by omega)
theorem g_len (ht : TX m T w) {t : Int} (h1 : 0 ≤ t ∧ t < 4) : G10_lengthOf m (T + 8) t = some (w 10 t, m) := by
  unfold G10_lengthOf G10_lengthOf_0
  rw [gdx_t h1]
  rw [ht.2.2 10 t (by omega)]
-- is none of d sizes from place a on above the asked one
def lgd (f : Int → Int) (a q : Int) : Nat → Int → Int
  | 0, _ => 1
  | d + 1, i => if f (a + i) ≤ f q then lgd f a q d (i + 1) else 0
theorem g_lg2 (ht : TX m T w) {t : Int} (h1 : 0 ≤ t ∧ t < 4) (h2 : 0 ≤ w 9 t ∧ w 9 t + w 10 t ≤ 28) (h3 : w 10 t ≤ 7) {q : Int} (hq : 0 ≤ q ∧ q < 28) : ∀ (d n : Nat) (i : Int), 0 ≤ i → i ≤ w 10 t → w 10 t - i = d → d < n → G10_isLargest_14 n m (T + 8) t q i = some (lgd (w 12) (w 9 t) q d i, m) := by
  have e1 := ht.2.2 10 t (by omega)
  have e2 := ht.2.2 9 t (by omega)
  intro d
  induction d with
  | zero =>
    intro n i a1 a2 a3 a4
    obtain ⟨n, rfl⟩ : ∃ k, n = k + 1 := ⟨n - 1, by omega⟩
    rw [G10_isLargest_14, gdx_t h1, e1, if_pos (by omega)]
    rfl
  | succ d ih =>
    intro n i a1 a2 a3 a4
    obtain ⟨n, rfl⟩ : ∃ k, n = k + 1 := ⟨n - 1, by omega⟩
    rw [G10_isLargest_14, gdx_t h1, e1, if_neg (by omega), gdx_t h1, e2, gdx_t (by omega), gdx_t hq, ht.2.2 12 _ (by omega), ht.2.2 12 _ (by omega)]
    unfold lgd
    split
    · rw [gd3_t (by omega), ih n (i + 1) (by omega) (by omega) (by omega) (by omega)]
    · rfl
theorem g_lg (ht : TX m T w) {t : Int} (h1 : 0 ≤ t ∧ t < 4) (h2 : 0 ≤ w 9 t ∧ w 9 t + w 10 t ≤ 28) (h3 : 0 ≤ w 10 t ∧ w 10 t ≤ 7) {k : Int} (hk : 1 ≤ k ∧ k ≤ w 10 t) : G10_isLargest m (T + 8) t k = some (lgd (w 12) (w 9 t) (w 9 t + k - 1) (w 10 t).toNat 0, m) := by
  unfold G10_isLargest G10_isLargest_0
  rw [gdx_t h1, ht.2.2 9 t (by omega), gd3_t (by omega)]
  exact g_lg2 ht h1 h2 h3.2 (by omega) _ 1024 0 (by omega) (by omega) (by omega) (by omega)
theorem g_cells (ht : TX m T w) (h1 : 1 ≤ w 0 0 ∧ w 0 0 ≤ 8) (h2 : 1 ≤ w 0 1 ∧ w 0 1 ≤ 6) : G8_cells m T = some (w 0 0 * w 0 1, m) := by
  unfold G8_cells G8_cells_0
  rw [ht.2.1, ht.2.1]
  have : 0 ≤ w 0 0 * w 0 1 ∧ w 0 0 * w 0 1 ≤ 8 * 6 := ⟨Int.mul_nonneg (by omega) (by omega), Int.mul_le_mul (by omega) (by omega) (by omega) (by omega)⟩
  rw [gd3_t (by omega)]
theorem g_row (ht : TX m T w) (h1 : 1 ≤ w 0 0) {c : Int} (hc : 0 ≤ c) : G8_rowOf m T c = some (c / w 0 0, m) := by
  unfold G8_rowOf G8_rowOf_0
  rw [ht.2.1, if_neg (by omega), if_neg (by omega), gdd_t (by omega)]
theorem g_col (ht : TX m T w) (h1 : 1 ≤ w 0 0) {c : Int} (hc : 0 ≤ c) : G8_columnOf m T c = some (c % w 0 0, m) := by
  unfold G8_columnOf G8_columnOf_0
  rw [ht.2.1, if_neg (by omega), if_neg (by omega), gdd_t (by omega)]
theorem cell_b {c W H : Int} (h1 : 1 ≤ W ∧ W ≤ 8) (h2 : 1 ≤ H ∧ H ≤ 6) (hc : 0 ≤ c ∧ c < W * H) : 0 ≤ c % W ∧ c % W < W ∧ 0 ≤ c / W ∧ c / W < H ∧ c = W * (c / W) + c % W ∧ c < 48 := by
  have e := (Int.mul_ediv_add_emod c W).symm
  have b1 := Int.emod_nonneg c (by omega : W ≠ 0)
  have b2 := Int.emod_lt_of_pos c (by omega : 0 < W)
  have b3 := Int.ediv_nonneg hc.1 (by omega : 0 ≤ W)
  have b4 : c / W < H := Int.ediv_lt_of_lt_mul (by omega) (by rw [Int.mul_comm]; exact hc.2)
  have b5 : W * H ≤ 8 * 6 := Int.mul_le_mul (by omega) (by omega) (by omega) (by omega)
  exact ⟨b1, b2, b3, b4, e, by omega⟩
theorem g_far (ht : TX m T w) (h1 : 1 ≤ w 0 0 ∧ w 0 0 ≤ 8) (h2 : 1 ≤ w 0 1 ∧ w 0 1 ≤ 6) (h3 : 0 ≤ w 0 3 ∧ w 0 3 < w 0 1) {c x : Int} (hc : 0 ≤ c ∧ c < w 0 0 * w 0 1) (hx : 0 ≤ x ∧ x < w 0 0) : G8_farFrom m T c x = some (fr w c x, m) := by
  obtain ⟨b1, b2, b3, b4, e, b5⟩ := cell_b h1 h2 hc
  unfold G8_farFrom G8_farFrom_0 fr ab
  simp only [ht.2.1]
  rw [if_pos (by omega), if_neg (by omega), if_neg (by omega)]
  simp only [gdd_t (show 0 ≤ c ∧ 0 < w 0 0 by omega)]
  rw [gd3_t (by omega), gd3_t (by omega), gd3_t (by split <;> split <;> omega)]
theorem fr_b (h1 : 1 ≤ w 0 0 ∧ w 0 0 ≤ 8) (h2 : 1 ≤ w 0 1 ∧ w 0 1 ≤ 6) (h3 : 0 ≤ w 0 3 ∧ w 0 3 < w 0 1) {c x : Int} (hc : 0 ≤ c ∧ c < w 0 0 * w 0 1) (hx : 0 ≤ x ∧ x < w 0 0) : 0 ≤ fr w c x ∧ fr w c x ≤ 12 := by
  obtain ⟨b1, b2, b3, b4, e, b5⟩ := cell_b h1 h2 hc
  unfold fr ab
  split <;> split <;> omega
theorem g_bsd (ht : TX m T w) (h1 : 1 ≤ w 0 0 ∧ w 0 0 ≤ 8) (h2 : 1 ≤ w 0 1 ∧ w 0 1 ≤ 6) {c way : Int} (hc : 0 ≤ c ∧ c < w 0 0 * w 0 1) : G8_cellBeside m T c way = some (bsd w c way, m) := by
  obtain ⟨b1, b2, b3, b4, e, b5⟩ := cell_b h1 h2 hc
  unfold G8_cellBeside G8_cellBeside_0 bsd
  rw [g_col ht h1.1 hc.1, bs1, g_row ht h1.1 hc.1, bs1]
  simp only [ht.2.1]
  split
  · split
    · rfl
    · rw [gd3_t (by omega)]
  · split
    · rw [gd3_t (by omega)]
      split
      · rfl
      · rw [gd3_t (by omega)]
    · split
      · rw [gd3_t (by omega)]
        split
        · rfl
        · rw [gd3_t (by omega)]
      · split
        · split
          · rfl
          · rw [gd3_t (by omega)]
        · rfl
def bwv (w : Mem) (x l : Int) : Int := if l - x - w 0 6 < 0 then 0 else if 1 ≤ w 0 7 then (l - x - w 0 6) / w 0 7 + 1 else 0
theorem g_bwv (ht : TX m T w) (h1 : 0 ≤ w 0 6 ∧ w 0 6 ≤ 20) (h2 : 0 ≤ w 0 7 ∧ w 0 7 ≤ 20) {x l : Int} (hx : 0 ≤ x ∧ x ≤ 199) (hl : 0 ≤ l ∧ l ≤ 199) : G8_bankWaves m T x l = some (bwv w x l, m) := by
  unfold G8_bankWaves G8_bankWaves_0 bwv
  simp only [ht.2.1]
  rw [gd3_t (by omega)]
  split
  · rfl
  · split
    · rw [if_neg (by omega), gd3_t (by omega), gdd_t (by omega)]
      have h3 := Int.ediv_nonneg (show 0 ≤ l - x - w 0 6 by omega) (show 0 ≤ w 0 7 by omega)
      have h4 := Int.ediv_le_self (w 0 7) (show 0 ≤ l - x - w 0 6 by omega)
      rw [gd3_t (by omega)]
    · rfl
end CW
