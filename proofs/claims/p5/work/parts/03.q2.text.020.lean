/-! The line of a set on both sides. -/
section Q29
variable {m v : Mem} {S : Int} {D : Nat}
theorem c_bset {a : Nat} (h : 0 ≤ m a 0 ∧ m a 0 < 4) : G10_beginSet m a = some (up (up (up m (a + 1) (m a 0) (m a 1)) (a + 2) (m a 0) 0) a 0 (m a 0 + 1)) := by
  unfold G10_beginSet G10_beginSet_0
  have e1 : up m (a + 1) (m a 0) (m a 1) a 0 = m a 0 := up_a (by first | decide | omega)
  have e2 : up (up m (a + 1) (m a 0) (m a 1)) (a + 2) (m a 0) 0 a 0 = m a 0 := by rw [up_a (by first | decide | omega)]; exact e1
  rw [if_neg (by first | decide | omega), gdx_t h, wt_e, e1, gdx_t h, wt_e, e2, gd3_t (by first | decide | omega), wt_e]
/-- a wave is laid into the last set -/
theorem c_addw {a : Nat} {x y s c l : Int} (h1 : m a 0 = s + 1) (h2 : m a 1 = c) (h3 : m (a + 2) s = l) (hs : 0 ≤ s ∧ s < 4) (hc : 0 ≤ c ∧ c < 28) (hl : 0 ≤ l ∧ l < 10) : ∃ m', G10_add m a x y = some m' ∧ Fm (fun b i => (b = a ∧ i = 1) ∨ (b = a + 2 ∧ i = s) ∨ (a + 3 ≤ b ∧ b ≤ a + 6 ∧ i = c)) m m' ∧ m' a 1 = c + 1 ∧ m' (a + 2) s = l + 1 ∧ m' (a + 3) c = x ∧ m' (a + 4) c = y ∧ m' (a + 5) c = s ∧ m' (a + 6) c = l + 1 := by
  unfold G10_add G10_add_0
  have es : s + 1 - 1 = s := by omega
  have p0 : up m (a + 2) s (l + 1) a 0 = s + 1 := by rw [up_a (by first | decide | omega)]; exact h1
  have p1 : up m (a + 2) s (l + 1) a 1 = c := by rw [up_a (by first | decide | omega)]; exact h2
  have q0 : up (up m (a + 2) s (l + 1)) (a + 3) c x a 0 = s + 1 := by rw [up_a (by first | decide | omega)]; exact p0
  have q1 : up (up m (a + 2) s (l + 1)) (a + 3) c x a 1 = c := by rw [up_a (by first | decide | omega)]; exact p1
  have r0 : up (up (up m (a + 2) s (l + 1)) (a + 3) c x) (a + 4) c y a 0 = s + 1 := by rw [up_a (by first | decide | omega)]; exact q0
  have r1 : up (up (up m (a + 2) s (l + 1)) (a + 3) c x) (a + 4) c y a 1 = c := by rw [up_a (by first | decide | omega)]; exact q1
  have t0 : up (up (up (up m (a + 2) s (l + 1)) (a + 3) c x) (a + 4) c y) (a + 5) c s a 0 = s + 1 := by rw [up_a (by first | decide | omega)]; exact r0
  have t1 : up (up (up (up m (a + 2) s (l + 1)) (a + 3) c x) (a + 4) c y) (a + 5) c s a 1 = c := by rw [up_a (by first | decide | omega)]; exact r1
  have t2 : up (up (up (up m (a + 2) s (l + 1)) (a + 3) c x) (a + 4) c y) (a + 5) c s (a + 2) s = l + 1 := by rw [up_a (by first | decide | omega), up_a (by first | decide | omega), up_a (by first | decide | omega), up_e]
  have u1 : up (up (up (up (up m (a + 2) s (l + 1)) (a + 3) c x) (a + 4) c y) (a + 5) c s) (a + 6) c (l + 1) a 1 = c := by rw [up_a (by first | decide | omega)]; exact t1
  rw [h2, if_neg (by first | decide | omega), h1, if_pos (by first | decide | omega), es, gdx_t hs, gdx_t hs, h3, gd3_t (by first | decide | omega), wt_e, p1, gdx_t hc, wt_e, q1, gdx_t hc, wt_e, r1, gdx_t hc, r0, es, gd3_t (by first | decide | omega), wt_e, t0, es, t1, t2, gdx_t hs, gdx_t hc, wt_e, u1, gd3_t (by first | decide | omega), wt_e]
  refine ⟨_, rfl, (((((Fm.w1 ?_).w ?_).w ?_).w ?_).w ?_).w ?_, up_e, ?_, ?_, ?_, ?_, ?_⟩
  · omega
  · omega
  · omega
  · omega
  · omega
  · omega
  · rw [up_a (by first | decide | omega), up_a (by first | decide | omega)]; exact t2
  · rw [up_a (by first | decide | omega), up_a (by first | decide | omega), up_a (by first | decide | omega), up_a (by first | decide | omega), up_e]
  · rw [up_a (by first | decide | omega), up_a (by first | decide | omega), up_a (by first | decide | omega), up_e]
  · rw [up_a (by first | decide | omega), up_a (by first | decide | omega), up_e]
  · rw [up_a (by first | decide | omega), up_e]
/-- what a set's line changes -/
def PSe (D : Nat) (t c0 : Int) : Nat → Int → Prop := fun b i => Pk b i ∨ (b = D + 8 ∧ (i = 0 ∨ i = 1)) ∨ ((b = D + 9 ∨ b = D + 10) ∧ i = t) ∨ ((D + 11 ≤ b ∧ b ≤ D + 14) ∧ c0 ≤ i)
def QSe (t c0 : Int) : Nat → Int → Prop := fun b i => Qk b i ∨ (b = 0 ∧ (i = 21 ∨ i = 22)) ∨ (b = 11 ∧ i = 4 + t) ∨ ((12 ≤ b ∧ b ≤ 14) ∧ 28 + c0 ≤ i)
theorem Pk_t {t c : Int} : ∀ b i, Pk b i → PSe D t c b i := fun _ _ h => Or.inl h
theorem Qk_t {t c : Int} : ∀ b i, Qk b i → QSe t c b i := fun _ _ h => Or.inl h
theorem PSe_x {t c : Int} : ∀ b i, PSe D t c b i → PX D b i := by intro b i h; unfold PSe Pk at h; unfold PX; omega
theorem QSe_x {t c : Int} (ht : 0 ≤ t) (hc : 0 ≤ c) : ∀ b i, QSe t c b i → QX b i := by intro b i h; unfold QSe Qk at h; unfold QX; omega
/-- k waves of the set t are read -/
def SetI (m0 v0 m v : Mem) (D : Nat) (x k t c0 : Int) : Prop := Fm (PSe D t c0) m0 m ∧ Fm (QSe t c0) v0 v ∧ (m (D + 8) 0 = t + 1 ∧ m (D + 8) 1 = c0 + k ∧ m (D + 9) t = c0 ∧ m (D + 10) t = k) ∧ (v 0 22 = c0 + k ∧ v 11 (4 + t) = c0) ∧ ∀ j, 0 ≤ j → j < k → (m (D + 11) (c0 + j) = x + j ∧ (1 ≤ m (D + 12) (c0 + j) ∧ m (D + 12) (c0 + j) ≤ 9) ∧ m (D + 13) (c0 + j) = t ∧ m (D + 14) (c0 + j) = j + 1) ∧ (v 12 (28 + (c0 + j)) = x + j ∧ v 13 (28 + (c0 + j)) = m (D + 12) (c0 + j) ∧ v 14 (28 + (c0 + j)) = t)
theorem SetI.k {m0 v0 m' v' : Mem} {x k t c0 : Int} (hDD : D = 2 ∨ D = 24) (h : SetI m0 v0 m v D x k t c0) (f : Fm Pk m m') (g : Fm Qk v v') : SetI m0 v0 m' v' D x k t c0 := by
  obtain ⟨h1, h2, h3, h4, h5⟩ := h
  have em : ∀ (b : Nat) i, D ≤ b → b ≤ D + 21 → m' b i = m b i := fun b i p q => f b i (by unfold Pk; first | decide | omega)
  have ev : ∀ (b : Nat) i, 1 ≤ b → v' b i = v b i := fun b i p => g b i (by unfold Qk; first | decide | omega)
  refine ⟨h1.tr (f.mono Pk_t), h2.tr (g.mono Qk_t), ?_, ?_, fun j p q => ?_⟩
  · rw [em _ _ (by first | decide | omega) (by first | decide | omega), em _ _ (by first | decide | omega) (by first | decide | omega), em _ _ (by first | decide | omega) (by first | decide | omega), em _ _ (by first | decide | omega) (by first | decide | omega)]; exact h3
  · rw [g 0 22 (by unfold Qk; first | decide | omega), ev _ _ (by first | decide | omega)]; exact h4
  · rw [em _ _ (by first | decide | omega) (by first | decide | omega), em _ _ (by first | decide | omega) (by first | decide | omega), em _ _ (by first | decide | omega) (by first | decide | omega), em _ _ (by first | decide | omega) (by first | decide | omega), ev _ _ (by first | decide | omega), ev _ _ (by first | decide | omega), ev _ _ (by first | decide | omega)]; exact h5 j p q
end Q29
