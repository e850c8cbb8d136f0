/-! The line of a law on both sides: what waits and what is held. -/
def wOk (x : Int) : Prop := x = 15 ∨ x = 16 ∨ x = 17 ∨ (26 ≤ x ∧ x ≤ 35) ∨ x = 36
def wSt (x : Int) : Int := if x = 15 then 3 else if x = 16 then 2 else if x = 17 then 1 else if 26 ≤ x ∧ x ≤ 31 then 4 else if x = 32 ∨ x = 33 then 5 else if x = 34 ∨ x = 35 then 6 else 0
def wCm (x : Int) : Int := if x = 15 then 2 else if x = 16 then 3 else if x = 17 then 4 else if x = 36 then 0 else x - 21
def cNB : List Int → Int
  | [] => 0
  | x :: r => (if x = 36 then 0 else 1) + cNB r
def cBR : List Int → Int
  | [] => 0
  | x :: r => (if x = 36 then 1 else 0) + cBR r
def cBN : List Int → Nat
  | [] => 0
  | x :: r => (if x = 36 ∨ x = 15 then 0 else 1) + cBN r
theorem c_len : ∀ l : List Int, cNB l + cBR l = l.length ∧ 0 ≤ cNB l ∧ 0 ≤ cBR l := by
  intro l
  induction l with
  | nil => exact ⟨rfl, by show (0 : Int) ≤ 0; omega, by show (0 : Int) ≤ 0; omega⟩
  | cons x r ih =>
    have e1 : cNB (x :: r) = (if x = 36 then 0 else 1) + cNB r := rfl
    have e2 : cBR (x :: r) = (if x = 36 then 1 else 0) + cBR r := rfl
    have e3 : ((x :: r).length : Int) = r.length + 1 := by simp
    rw [e1, e2, e3]
    by_cases c : x = 36
    · rw [if_pos c, if_pos c]; omega
    · rw [if_neg c, if_neg c]; omega
theorem c_bn : ∀ l : List Int, (cBN l : Int) ≤ cNB l := by
  intro l
  induction l with
  | nil => show (0 : Int) ≤ 0; omega
  | cons x r ih =>
    have e1 : cNB (x :: r) = (if x = 36 then 0 else 1) + cNB r := rfl
    have e2 : cBN (x :: r) = (if x = 36 ∨ x = 15 then 0 else 1) + cBN r := rfl
    rw [e1, e2]
    by_cases c : x = 36
    · rw [if_pos c, if_pos (Or.inl c)]; omega
    · rw [if_neg c]
      by_cases c2 : x = 36 ∨ x = 15
      · rw [if_pos c2]; omega
      · rw [if_neg c2]; omega
section Q32
variable {m v : Mem} {S : Int} {D : Nat}
theorem c_strg (m : Mem) (x : Int) : G5_strengthOf m x = some (wSt x, m) := by
  by_cases c : x = 15 ∨ x = 16 ∨ x = 17 ∨ x = 26 ∨ x = 27 ∨ x = 28 ∨ x = 29 ∨ x = 30 ∨ x = 31 ∨ x = 32 ∨ x = 33 ∨ x = 34 ∨ x = 35
  · rcases c with e | e | e | e | e | e | e | e | e | e | e | e | e <;> subst e <;> rfl
  · unfold G5_strengthOf G5_strengthOf_0 wSt
    simp only [if_neg (show ¬ x = 15 by omega), if_neg (show ¬ x = 16 by omega), if_neg (show ¬ x = 17 by omega), if_neg (show ¬ x = 26 by omega), if_neg (show ¬ x = 27 by omega), if_neg (show ¬ x = 28 by omega), if_neg (show ¬ x = 29 by omega), if_neg (show ¬ x = 30 by omega), if_neg (show ¬ x = 31 by omega), if_neg (show ¬ x = 32 by omega), if_neg (show ¬ x = 33 by omega), if_neg (show ¬ x = 34 by omega), if_neg (show ¬ x = 35 by omega), if_neg (show ¬ (26 ≤ x ∧ x ≤ 31) by omega), if_neg (show ¬ (x = 32 ∨ x = 33) by omega), if_neg (show ¬ (x = 34 ∨ x = 35) by omega)]
theorem r_rkw {x : Int} (h : wOk x) : G12_rank v (wCm x) = some (wSt x, v) := by
  have : x = 15 ∨ x = 16 ∨ x = 17 ∨ x = 26 ∨ x = 27 ∨ x = 28 ∨ x = 29 ∨ x = 30 ∨ x = 31 ∨ x = 32 ∨ x = 33 ∨ x = 34 ∨ x = 35 ∨ x = 36 := by unfold wOk at h; omega
  rcases this with e | e | e | e | e | e | e | e | e | e | e | e | e | e <;> subst e <;> rfl
theorem wSt_b {x : Int} (h : wOk x) : 0 ≤ wSt x ∧ wSt x ≤ 6 ∧ (wSt x = 0 ↔ x = 36) := by
  have : x = 15 ∨ x = 16 ∨ x = 17 ∨ x = 26 ∨ x = 27 ∨ x = 28 ∨ x = 29 ∨ x = 30 ∨ x = 31 ∨ x = 32 ∨ x = 33 ∨ x = 34 ∨ x = 35 ∨ x = 36 := by unfold wOk at h; omega
  rcases this with e | e | e | e | e | e | e | e | e | e | e | e | e | e <;> subst e <;> decide
def KV (kn : Int → Int) (j : Nat) : Prop := (0 ≤ kn j ∧ kn j < 10000) ∨ (10018 ≤ kn j ∧ kn j < 10024) ∨ (kn j = 10015 ∧ 1 ≤ (ist kn j).length) ∨ (bnk (kn j) ∧ 2 ≤ (ist kn j).length)
theorem ist_c {kn kn' : Int → Int} : ∀ {L : Nat}, (∀ j : Nat, j < L → kn' j = kn j) → ist kn' L = ist kn L := by
  intro L
  induction L with
  | zero => intro _; rfl
  | succ L ih =>
    intro h
    rw [ist_s, ist_s, h L (by omega), ih (fun j q => h j (by omega))]
theorem KV.c {kn kn' : Int → Int} {j : Nat} (h : KV kn j) (e : ∀ i : Nat, i ≤ j → kn' i = kn i) : KV kn' j := by
  unfold KV
  rw [e j (by omega), ist_c (fun i q => e i (by omega))]
  exact h
theorem NodeR.c {kn kn' : Int → Int} {u u' : Mem} {f : Int} {j : Nat} (h : NodeR kn u f j) (e : ∀ i : Nat, i ≤ j → kn' i = kn i) (e18 : u' 18 (f + j) = u 18 (f + j)) (e19 : u' 19 (f + j) = u 19 (f + j)) (e20 : u' 20 (f + j) = u 20 (f + j)) : NodeR kn' u' f j := by
  unfold NodeR
  rw [e j (by omega), ist_c (fun i q => e i (by omega)), e18, e19, e20]
  exact h
def KN2 (m v : Mem) (a : Nat) (F : Int) (L : Nat) : Prop := m a 1 = L ∧ v 0 23 = F + L ∧ v 0 47 = (ist (m (a + 1)) L).length ∧ stk (v 22) ((ist (m (a + 1)) L).map (fun x => F + x)) ∧ (∀ j : Nat, j < L → KV (m (a + 1)) j) ∧ ∀ j : Nat, j < L → NodeR (m (a + 1)) (kd v) F j
theorem c_add2 {a : Nat} {x : Int} (h : 0 ≤ m a 1 ∧ m a 1 < 64) : G2_add m a x = some (up (up m (a + 1) (m a 1) x) a 1 (m a 1 + 1)) := by
  unfold G2_add G2_add_0
  have e1 : up m (a + 1) (m a 1) x a 1 = m a 1 := up_a (by omega)
  rw [if_neg (by omega), gdx_t h, wt_e, e1, gd3_t (by omega), wt_e]
/-- what growing changes in the reference -/
def QG (F : Int) : Nat → Int → Prop := fun b i => (b = 0 ∧ (i = 23 ∨ i = 47)) ∨ ((18 ≤ b ∧ b ≤ 20) ∧ 64 + F ≤ i) ∨ b = 22
theorem r_grown {n h c p q : Int} (e1 : v 0 23 = n) (e2 : v 0 47 = h) (hn : 0 ≤ n ∧ n < 64) (hh : 0 ≤ h ∧ h < 96) : G12_grown v c p q = some (up (up (up (up (up (up v 18 (64 + n) c) 19 (64 + n) p) 20 (64 + n) q) 22 h n) 0 47 (h + 1)) 0 23 (n + 1)) := by
  unfold G12_grown G12_grown_0
  rw [e1, gdx_t (by omega), wt_e, up_a (by omega), e1, gdx_t (by omega), wt_e, up_a (by omega), up_a (by omega), e1, gdx_t (by omega), wt_e]
  have k1 : up (up (up v 18 (64 + n) c) 19 (64 + n) p) 20 (64 + n) q 0 47 = h := by rw [up_a (by omega), up_a (by omega), up_a (by omega)]; exact e2
  have k2 : up (up (up v 18 (64 + n) c) 19 (64 + n) p) 20 (64 + n) q 0 23 = n := by rw [up_a (by omega), up_a (by omega), up_a (by omega)]; exact e1
  generalize up (up (up v 18 (64 + n) c) 19 (64 + n) p) 20 (64 + n) q = u at k1 k2 ⊢
  rw [k1, k2, gdx_t hh, wt_e, up_a (by omega), k1, gd3_t (by omega), wt_e, up_i (by omega), up_a (by omega), k2, gd3_t (by omega), wt_e]
/-- one more knot on both sides -/
theorem KN_grow {a : Nat} {F : Int} {L : Nat} {st : List Int} {y c p q : Int} (hm : m a 1 = L) (hv : v 0 23 = F + L) (h47 : v 0 47 = st.length) (hs : stk (v 22) (st.map (fun x => F + x))) (hkv : ∀ j : Nat, j < L → KV (m (a + 1)) j) (hnd : ∀ j : Nat, j < L → NodeR (m (a + 1)) (kd v) F j) (hF : 0 ≤ F ∧ F + L < 64 ∧ st.length < 96) (e : ∀ kn' : Int → Int, kn' L = y → ist kn' L = ist (m (a + 1)) L → ist kn' (L + 1) = (L : Int) :: st ∧ KV kn' L ∧ ∀ u : Mem, u 18 (F + L) = c → u 19 (F + L) = p → u 20 (F + L) = q → NodeR kn' u F L) : ∃ m' v', G2_add m a y = some m' ∧ G12_grown v c p q = some v' ∧ Fm (fun b i => (b = a ∧ i = 1) ∨ (b = a + 1 ∧ i = L)) m m' ∧ Fm (QG F) v v' ∧ KN2 m' v' a F (L + 1) ∧ (ist (m' (a + 1)) (L + 1)).length = st.length + 1 := by
  have g1 := c_add2 (m := m) (a := a) (x := y) (by omega)
  have g2 := r_grown (v := v) (c := c) (p := p) (q := q) hv h47 (by omega) (by omega)
  rw [hm] at g1
  have f1 : Fm (fun b i => (b = a ∧ i = 1) ∨ (b = a + 1 ∧ i = (L : Int))) m (up (up m (a + 1) L y) a 1 (L + 1)) := (Fm.w1 (by omega)).w (by omega)
  have k1 : up (up m (a + 1) L y) a 1 (L + 1) a 1 = L + 1 := up_e
  have k2 : up (up m (a + 1) L y) a 1 (L + 1) (a + 1) L = y := by rw [up_a (by omega), up_e]
  generalize up (up m (a + 1) L y) a 1 (L + 1) = m' at g1 f1 k1 k2
  have f2 : Fm (QG F) v (up (up (up (up (up (up v 18 (64 + (F + L)) c) 19 (64 + (F + L)) p) 20 (64 + (F + L)) q) 22 st.length (F + L)) 0 47 (st.length + 1)) 0 23 (F + L + 1)) := (((((Fm.w1 (by unfold QG; omega)).w (by unfold QG; omega)).w (by unfold QG; omega)).w (by unfold QG; omega)).w (by unfold QG; omega)).w (by unfold QG; omega)
  have j1 : up (up (up (up (up (up v 18 (64 + (F + L)) c) 19 (64 + (F + L)) p) 20 (64 + (F + L)) q) 22 st.length (F + L)) 0 47 (st.length + 1)) 0 23 (F + L + 1) 0 23 = F + L + 1 := up_e
  have j2 : up (up (up (up (up (up v 18 (64 + (F + L)) c) 19 (64 + (F + L)) p) 20 (64 + (F + L)) q) 22 st.length (F + L)) 0 47 (st.length + 1)) 0 23 (F + L + 1) 0 47 = st.length + 1 := by rw [up_i (by omega), up_e]
  have j3 : up (up (up (up (up (up v 18 (64 + (F + L)) c) 19 (64 + (F + L)) p) 20 (64 + (F + L)) q) 22 st.length (F + L)) 0 47 (st.length + 1)) 0 23 (F + L + 1) 22 st.length = F + L := by rw [up_a (by omega), up_a (by omega), up_e]
  have j4 : ∀ j, j ≠ (st.length : Int) → up (up (up (up (up (up v 18 (64 + (F + L)) c) 19 (64 + (F + L)) p) 20 (64 + (F + L)) q) 22 st.length (F + L)) 0 47 (st.length + 1)) 0 23 (F + L + 1) 22 j = v 22 j := fun j z => by rw [up_a (by omega), up_a (by omega), up_i z, up_a (by omega), up_a (by omega), up_a (by omega)]
  have j5 : up (up (up (up (up (up v 18 (64 + (F + L)) c) 19 (64 + (F + L)) p) 20 (64 + (F + L)) q) 22 st.length (F + L)) 0 47 (st.length + 1)) 0 23 (F + L + 1) 18 (64 + (F + L)) = c := by rw [up_a (by omega), up_a (by omega), up_a (by omega), up_a (by omega), up_a (by omega), up_e]
  have j6 : up (up (up (up (up (up v 18 (64 + (F + L)) c) 19 (64 + (F + L)) p) 20 (64 + (F + L)) q) 22 st.length (F + L)) 0 47 (st.length + 1)) 0 23 (F + L + 1) 19 (64 + (F + L)) = p := by rw [up_a (by omega), up_a (by omega), up_a (by omega), up_a (by omega), up_e]
  have j7 : up (up (up (up (up (up v 18 (64 + (F + L)) c) 19 (64 + (F + L)) p) 20 (64 + (F + L)) q) 22 st.length (F + L)) 0 47 (st.length + 1)) 0 23 (F + L + 1) 20 (64 + (F + L)) = q := by rw [up_a (by omega), up_a (by omega), up_a (by omega), up_e]
  have j8 : ∀ (b : Nat) j, 18 ≤ b ∧ b ≤ 20 → j ≠ 64 + (F + L) → up (up (up (up (up (up v 18 (64 + (F + L)) c) 19 (64 + (F + L)) p) 20 (64 + (F + L)) q) 22 st.length (F + L)) 0 47 (st.length + 1)) 0 23 (F + L + 1) b j = v b j := by
    intro b j hb z
    rw [up_a (by omega), up_a (by omega), up_a (by omega)]
    rcases (show b = 18 ∨ b = 19 ∨ b = 20 by omega) with e | e | e <;> subst e
    · rw [up_a (by omega), up_a (by omega), up_i z]
    · rw [up_a (by omega), up_i z, up_a (by omega)]
    · rw [up_i z, up_a (by omega), up_a (by omega)]
  generalize up (up (up (up (up (up v 18 (64 + (F + L)) c) 19 (64 + (F + L)) p) 20 (64 + (F + L)) q) 22 st.length (F + L)) 0 47 (st.length + 1)) 0 23 (F + L + 1) = v' at g2 f2 j1 j2 j3 j4 j5 j6 j7 j8
  have kk : ∀ j : Nat, j < L → m' (a + 1) j = m (a + 1) j := fun j z => f1 (a + 1) j (by omega)
  obtain ⟨e1, e2, e3⟩ := e (m' (a + 1)) k2 (ist_c kk)
  have sh18 : ∀ (b : Nat) i, 18 ≤ b ∧ b ≤ 20 → kd v' b i = v' b (64 + i) := fun b i z => by
    show v' b (sh b i) = _
    have : sh b i = 64 + i := by unfold sh; rw [if_neg (by omega), if_neg (by omega), if_neg (by omega), if_neg (by omega), if_neg (by omega), if_neg (by omega), if_pos (by omega)]
    rw [this]
  have sh18' : ∀ (b : Nat) i, 18 ≤ b ∧ b ≤ 20 → kd v b i = v b (64 + i) := fun b i z => by
    show v b (sh b i) = _
    have : sh b i = 64 + i := by unfold sh; rw [if_neg (by omega), if_neg (by omega), if_neg (by omega), if_neg (by omega), if_neg (by omega), if_neg (by omega), if_pos (by omega)]
    rw [this]
  refine ⟨m', v', g1, g2, f1, f2, ⟨by rw [k1]; omega, by rw [j1]; omega, ?_, ?_, fun j z => ?_, fun j z => ?_⟩, by rw [e1]; rfl⟩
  · rw [e1, j2]; rfl
  · rw [e1]
    refine ⟨?_, stk_up hs (fun j z1 z2 => j4 j ?_)⟩
    · rw [List.length_map]; exact j3
    · rw [List.length_map] at z2; omega
  · by_cases z2 : j = L
    · rw [z2]; exact e2
    · exact (hkv j (by omega)).c (fun i z3 => kk i (by omega))
  · by_cases z2 : j = L
    · rw [z2]
      exact e3 (kd v') (by rw [sh18 _ _ (by omega)]; exact j5) (by rw [sh18 _ _ (by omega)]; exact j6) (by rw [sh18 _ _ (by omega)]; exact j7)
    · refine (hnd j (by omega)).c (fun i z3 => kk i (by omega)) ?_ ?_ ?_
      · rw [sh18 _ _ (by omega), sh18' _ _ (by omega)]; exact j8 18 _ (by omega) (by omega)
      · rw [sh18 _ _ (by omega), sh18' _ _ (by omega)]; exact j8 19 _ (by omega) (by omega)
      · rw [sh18 _ _ (by omega), sh18' _ _ (by omega)]; exact j8 20 _ (by omega) (by omega)
def WI (m v : Mem) (ws : List Int) : Prop := m 46 2 = ws.length ∧ v 0 46 = ws.length ∧ stk (m 50) ws ∧ stk (v 21) (ws.map wCm) ∧ ∀ x ∈ ws, wOk x
end Q32
