/-! The line of a law on both sides: what waits and what is held. -/
def wOk (x : Int) : Prop := x = 15 ∨ x = 16 ∨ x = 17 ∨ (26 ≤ x ∧ x ≤ 35) ∨ x = 36
def wSt (x : Int) : Int := if x = 15 then 3 else if x = 16 then 2 else if x = 17 then 1 else if 26 ≤ x ∧ x ≤ 31 then 4 else if x = 32 ∨ x = 33 then 5 else if x = 34 ∨ x = 35 then 6 else 0
def wCm (x : Int) : Int := if x = 15 then 2 else if x = 16 then 3 else if x = 17 then 4 else if x = 36 then 0 else x - 21
def cNB : List Int → Int
  | [] => 0
  | x :: r => (if x = 36 then 0 else 1) + cNB r
def cBR : List Int → Int
  | [] => 0
  | x :: r => (if x = 36 then 1 else 0) + cBR r
def cBN : List Int → Nat
  | [] => 0
  | x :: r => (if x = 36 ∨ x = 15 then 0 else 1) + cBN r
theorem c_len : ∀ l : List Int, cNB l + cBR l = l.length ∧ 0 ≤ cNB l ∧ 0 ≤ cBR l := by
  intro l
  induction l with
  | nil => exact ⟨rfl, by show (0 : Int) ≤ 0; first | decide | omega, by show (0 : Int) ≤ 0; first | decide | omega⟩
  | cons x r ih =>
    have e1 : cNB (x :: r) = (if x = 36 then 0 else 1) + cNB r := rfl
    have e2 : cBR (x :: r) = (if x = 36 then 1 else 0) + cBR r := rfl
    have e3 : ((x :: r).length : Int) = r.length + 1 := by simp
    rw [e1, e2, e3]
    by_cases c : x = 36
    · rw [if_pos c, if_pos c]; omega
    · rw [if_neg c, if_neg c]; omega
theorem c_bn : ∀ l : List Int, (cBN l : Int) ≤ cNB l := by
  intro l
  induction l with
  | nil => show (0 : Int) ≤ 0; omega
  | cons x r ih =>
    have e1 : cNB (x :: r) = (if x = 36 then 0 else 1) + cNB r := rfl
    have e2 : cBN (x :: r) = (if x = 36 ∨ x = 15 then 0 else 1) + cBN r := rfl
    rw [e1, e2]
    by_cases c : x = 36
    · rw [if_pos c, if_pos (Or.inl c)]; omega
    · rw [if_neg c]
      by_cases c2 : x = 36 ∨ x = 15
      · rw [if_pos c2]; omega
      · rw [if_neg c2]; omega
section Q32
variable {m v : Mem} {S : Int} {D : Nat}
theorem c_strg (m : Mem) (x : Int) : G5_strengthOf m x = some (wSt x, m) := by
  by_cases c : x = 15 ∨ x = 16 ∨ x = 17 ∨ x = 26 ∨ x = 27 ∨ x = 28 ∨ x = 29 ∨ x = 30 ∨ x = 31 ∨ x = 32 ∨ x = 33 ∨ x = 34 ∨ x = 35
  · rcases c with e | e | e | e | e | e | e | e | e | e | e | e | e <;> subst e <;> rfl
  · unfold G5_strengthOf G5_strengthOf_0 wSt
    simp only [if_neg (show ¬ x = 15 by first | decide | omega), if_neg (show ¬ x = 16 by first | decide | omega), if_neg (show ¬ x = 17 by first | decide | omega), if_neg (show ¬ x = 26 by first | decide | omega), if_neg (show ¬ x = 27 by first | decide | omega), if_neg (show ¬ x = 28 by first | decide | omega), if_neg (show ¬ x = 29 by first | decide | omega), if_neg (show ¬ x = 30 by first | decide | omega), if_neg (show ¬ x = 31 by first | decide | omega), if_neg (show ¬ x = 32 by first | decide | omega), if_neg (show ¬ x = 33 by first | decide | omega), if_neg (show ¬ x = 34 by first | decide | omega), if_neg (show ¬ x = 35 by first | decide | omega), if_neg (show ¬ (26 ≤ x ∧ x ≤ 31) by first | decide | omega), if_neg (show ¬ (x = 32 ∨ x = 33) by first | decide | omega), if_neg (show ¬ (x = 34 ∨ x = 35) by first | decide | omega)]
theorem r_rkw {x : Int} (h : wOk x) : G12_rank v (wCm x) = some (wSt x, v) := by
  have : x = 15 ∨ x = 16 ∨ x = 17 ∨ x = 26 ∨ x = 27 ∨ x = 28 ∨ x = 29 ∨ x = 30 ∨ x = 31 ∨ x = 32 ∨ x = 33 ∨ x = 34 ∨ x = 35 ∨ x = 36 := by unfold wOk at h; omega
  rcases this with e | e | e | e | e | e | e | e | e | e | e | e | e | e <;> subst e <;> rfl
theorem wSt_b {x : Int} (h : wOk x) : 0 ≤ wSt x ∧ wSt x ≤ 6 ∧ (wSt x = 0 ↔ x = 36) := by
  have : x = 15 ∨ x = 16 ∨ x = 17 ∨ x = 26 ∨ x = 27 ∨ x = 28 ∨ x = 29 ∨ x = 30 ∨ x = 31 ∨ x = 32 ∨ x = 33 ∨ x = 34 ∨ x = 35 ∨ x = 36 := by unfold wOk at h; omega
  rcases this with e | e | e | e | e | e | e | e | e | e | e | e | e | e <;> subst e <;> decide
def KV (kn : Int → Int) (j : Nat) : Prop := (0 ≤ kn j ∧ kn j < 10000) ∨ (10018 ≤ kn j ∧ kn j < 10024) ∨ (kn j = 10015 ∧ 1 ≤ (ist kn j).length) ∨ (bnk (kn j) ∧ 2 ≤ (ist kn j).length)
theorem ist_c {kn kn' : Int → Int} : ∀ {L : Nat}, (∀ j : Nat, j < L → kn' j = kn j) → ist kn' L = ist kn L := by
  intro L
  induction L with
  | zero => intro _; rfl
  | succ L ih =>
    intro h
    rw [ist_s, ist_s, h L (by first | decide | omega), ih (fun j q => h j (by first | decide | omega))]
theorem KV.c {kn kn' : Int → Int} {j : Nat} (h : KV kn j) (e : ∀ i : Nat, i ≤ j → kn' i = kn i) : KV kn' j := by
  unfold KV
  rw [e j (by first | decide | omega), ist_c (fun i q => e i (by first | decide | omega))]
  exact h
theorem NodeR.c {kn kn' : Int → Int} {u u' : Mem} {f : Int} {j : Nat} (h : NodeR kn u f j) (e : ∀ i : Nat, i ≤ j → kn' i = kn i) (e18 : u' 18 (f + j) = u 18 (f + j)) (e19 : u' 19 (f + j) = u 19 (f + j)) (e20 : u' 20 (f + j) = u 20 (f + j)) : NodeR kn' u' f j := by
  unfold NodeR
  rw [e j (by first | decide | omega), ist_c (fun i q => e i (by first | decide | omega)), e18, e19, e20]
  exact h
def KN2 (m v : Mem) (a : Nat) (F : Int) (L : Nat) : Prop := m a 1 = L ∧ v 0 23 = F + L ∧ v 0 47 = (ist (m (a + 1)) L).length ∧ stk (v 22) ((ist (m (a + 1)) L).map (fun x => F + x)) ∧ (∀ j : Nat, j < L → KV (m (a + 1)) j) ∧ ∀ j : Nat, j < L → NodeR (m (a + 1)) (kd v) F j
theorem c_add2 {a : Nat} {x : Int} (h : 0 ≤ m a 1 ∧ m a 1 < 64) : G2_add m a x = some (up (up m (a + 1) (m a 1) x) a 1 (m a 1 + 1)) := by
  unfold G2_add G2_add_0
  have e1 : up m (a + 1) (m a 1) x a 1 = m a 1 := up_a (by first | decide | omega)
  rw [if_neg (by first | decide | omega), gdx_t h, wt_e, e1, gd3_t (by first | decide | omega), wt_e]
/-- what growing changes in the reference -/
def QG (F : Int) : Nat → Int → Prop := fun b i => (b = 0 ∧ (i = 23 ∨ i = 47)) ∨ ((18 ≤ b ∧ b ≤ 20) ∧ 64 + F ≤ i) ∨ b = 22
theorem r_grown {n h c p q : Int} (e1 : v 0 23 = n) (e2 : v 0 47 = h) (hn : 0 ≤ n ∧ n < 64) (hh : 0 ≤ h ∧ h < 96) : G12_grown v c p q = some (up (up (up (up (up (up v 18 (64 + n) c) 19 (64 + n) p) 20 (64 + n) q) 22 h n) 0 47 (h + 1)) 0 23 (n + 1)) := by
  unfold G12_grown G12_grown_0
  rw [e1, gdx_t (by first | decide | omega), wt_e, up_a (by first | decide | omega), e1, gdx_t (by first | decide | omega), wt_e, up_a (by first | decide | omega), up_a (by first | decide | omega), e1, gdx_t (by first | decide | omega), wt_e]
  have k1 : up (up (up v 18 (64 + n) c) 19 (64 + n) p) 20 (64 + n) q 0 47 = h := by rw [up_a (by first | decide | omega), up_a (by first | decide | omega), up_a (by first | decide | omega)]; exact e2
  have k2 : up (up (up v 18 (64 + n) c) 19 (64 + n) p) 20 (64 + n) q 0 23 = n := by rw [up_a (by first | decide | omega), up_a (by first | decide | omega), up_a (by first | decide | omega)]; exact e1
  generalize up (up (up v 18 (64 + n) c) 19 (64 + n) p) 20 (64 + n) q = u at k1 k2 ⊢
  rw [k1, k2, gdx_t hh, wt_e, up_a (by first | decide | omega), k1, gd3_t (by first | decide | omega), wt_e, up_i (by first | decide | omega), up_a (by first | decide | omega), k2, gd3_t (by first | decide | omega), wt_e]
/-- one more knot on both sides -/
theorem KN_grow {a : Nat} {F : Int} {L : Nat} {st : List Int} {y c p q : Int} (hm : m a 1 = L) (hv : v 0 23 = F + L) (h47 : v 0 47 = st.length) (hs : stk (v 22) (st.map (fun x => F + x))) (hkv : ∀ j : Nat, j < L → KV (m (a + 1)) j) (hnd : ∀ j : Nat, j < L → NodeR (m (a + 1)) (kd v) F j) (hF : 0 ≤ F ∧ F + L < 64 ∧ st.length < 96) (e : ∀ kn' : Int → Int, kn' L = y → ist kn' L = ist (m (a + 1)) L → ist kn' (L + 1) = (L : Int) :: st ∧ KV kn' L ∧ ∀ u : Mem, u 18 (F + L) = c → u 19 (F + L) = p → u 20 (F + L) = q → NodeR kn' u F L) : ∃ m' v', G2_add m a y = some m' ∧ G12_grown v c p q = some v' ∧ Fm (fun b i => (b = a ∧ i = 1) ∨ (b = a + 1 ∧ i = L)) m m' ∧ Fm (QG F) v v' ∧ KN2 m' v' a F (L + 1) ∧ (ist (m' (a + 1)) (L + 1)).length = st.length + 1 := by
  have g1 := c_add2 (m := m) (a := a) (x := y) (by first | decide | omega)
  have g2 := r_grown (v := v) (c := c) (p := p) (q := q) hv h47 (by first | decide | omega) (by first | decide | omega)
  rw [hm] at g1
  have f1 : Fm (fun b i => (b = a ∧ i = 1) ∨ (b = a + 1 ∧ i = (L : Int))) m (up (up m (a + 1) L y) a 1 (L + 1)) := (Fm.w1 (by first | decide | omega)).w (by first | decide | omega)
  have k1 : up (up m (a + 1) L y) a 1 (L + 1) a 1 = L + 1 := up_e
  have k2 : up (up m (a + 1) L y) a 1 (L + 1) (a + 1) L = y := by rw [up_a (by first | decide | omega), up_e]
  generalize up (up m (a + 1) L y) a 1 (L + 1) = m' at g1 f1 k1 k2
  have f2 : Fm (QG F) v (up (up (up (up (up (up v 18 (64 + (F + L)) c) 19 (64 + (F + L)) p) 20 (64 + (F + L)) q) 22 st.length (F + L)) 0 47 (st.length + 1)) 0 23 (F + L + 1)) := (((((Fm.w1 (by unfold QG; first | decide | omega)).w (by unfold QG; first | decide | omega)).w (by unfold QG; first | decide | omega)).w (by unfold QG; first | decide | omega)).w (by unfold QG; first | decide | omega)).w (by unfold QG; first | decide | omega)
  have j1 : up (up (up (up (up (up v 18 (64 + (F + L)) c) 19 (64 + (F + L)) p) 20 (64 + (F + L)) q) 22 st.length (F + L)) 0 47 (st.length + 1)) 0 23 (F + L + 1) 0 23 = F + L + 1 := up_e
  have j2 : up (up (up (up (up (up v 18 (64 + (F + L)) c) 19 (64 + (F + L)) p) 20 (64 + (F + L)) q) 22 st.length (F + L)) 0 47 (st.length + 1)) 0 23 (F + L + 1) 0 47 = st.length + 1 := by rw [up_i (by first | decide | omega), up_e]
  have j3 : up (up (up (up (up (up v 18 (64 + (F + L)) c) 19 (64 + (F + L)) p) 20 (64 + (F + L)) q) 22 st.length (F + L)) 0 47 (st.length + 1)) 0 23 (F + L + 1) 22 st.length = F + L := by rw [up_a (by first | decide | omega), up_a (by first | decide | omega), up_e]
  have j4 : ∀ j, j ≠ (st.length : Int) → up (up (up (up (up (up v 18 (64 + (F + L)) c) 19 (64 + (F + L)) p) 20 (64 + (F + L)) q) 22 st.length (F + L)) 0 47 (st.length + 1)) 0 23 (F + L + 1) 22 j = v 22 j := fun j z => by rw [up_a (by first | decide | omega), up_a (by first | decide | omega), up_i z, up_a (by first | decide | omega), up_a (by first | decide | omega), up_a (by first | decide | omega)]
  have j5 : up (up (up (up (up (up v 18 (64 + (F + L)) c) 19 (64 + (F + L)) p) 20 (64 + (F + L)) q) 22 st.length (F + L)) 0 47 (st.length + 1)) 0 23 (F + L + 1) 18 (64 + (F + L)) = c := by rw [up_a (by first | decide | omega), up_a (by first | decide | omega), up_a (by first | decide | omega), up_a (by first | decide | omega), up_a (by first | decide | omega), up_e]
  have j6 : up (up (up (up (up (up v 18 (64 + (F + L)) c) 19 (64 + (F + L)) p) 20 (64 + (F + L)) q) 22 st.length (F + L)) 0 47 (st.length + 1)) 0 23 (F + L + 1) 19 (64 + (F + L)) = p := by rw [up_a (by first | decide | omega), up_a (by first | decide | omega), up_a (by first | decide | omega), up_a (by first | decide | omega), up_e]
  have j7 : up (up (up (up (up (up v 18 (64 + (F + L)) c) 19 (64 + (F + L)) p) 20 (64 + (F + L)) q) 22 st.length (F + L)) 0 47 (st.length + 1)) 0 23 (F + L + 1) 20 (64 + (F + L)) = q := by rw [up_a (by first | decide | omega), up_a (by first | decide | omega), up_a (by first | decide | omega), up_e]
  have j8 : ∀ (b : Nat) j, 18 ≤ b ∧ b ≤ 20 → j ≠ 64 + (F + L) → up (up (up (up (up (up v 18 (64 + (F + L)) c) 19 (64 + (F + L)) p) 20 (64 + (F + L)) q) 22 st.length (F + L)) 0 47 (st.length + 1)) 0 23 (F + L + 1) b j = v b j := by
    intro b j hb z
    rw [up_a (by first | decide | omega), up_a (by first | decide | omega), up_a (by first | decide | omega)]
    rcases (show b = 18 ∨ b = 19 ∨ b = 20 by first | decide | omega) with e | e | e <;> subst e
    · rw [up_a (by first | decide | omega), up_a (by first | decide | omega), up_i z]
    · rw [up_a (by first | decide | omega), up_i z, up_a (by first | decide | omega)]
    · rw [up_i z, up_a (by first | decide | omega), up_a (by first | decide | omega)]
  generalize up (up (up (up (up (up v 18 (64 + (F + L)) c) 19 (64 + (F + L)) p) 20 (64 + (F + L)) q) 22 st.length (F + L)) 0 47 (st.length + 1)) 0 23 (F + L + 1) = v' at g2 f2 j1 j2 j3 j4 j5 j6 j7 j8
  have kk : ∀ j : Nat, j < L → m' (a + 1) j = m (a + 1) j := fun j z => f1 (a + 1) j (by first | decide | omega)
  obtain ⟨e1, e2, e3⟩ := e (m' (a + 1)) k2 (ist_c kk)
  have sh18 : ∀ (b : Nat) i, 18 ≤ b ∧ b ≤ 20 → kd v' b i = v' b (64 + i) := fun b i z => by
    show v' b (sh b i) = _
    have : sh b i = 64 + i := by unfold sh; rw [if_neg (by first | decide | omega), if_neg (by first | decide | omega), if_neg (by first | decide | omega), if_neg (by first | decide | omega), if_neg (by first | decide | omega), if_neg (by first | decide | omega), if_pos (by first | decide | omega)]
    rw [this]
  have sh18' : ∀ (b : Nat) i, 18 ≤ b ∧ b ≤ 20 → kd v b i = v b (64 + i) := fun b i z => by
    show v b (sh b i) = _
    have : sh b i = 64 + i := by unfold sh; rw [if_neg (by first | decide | omega), if_neg (by first | decide | omega), if_neg (by first | decide | omega), if_neg (by first | decide | omega), if_neg (by first | decide | omega), if_neg (by first | decide | omega), if_pos (by first | decide | omega)]
    rw [this]
  refine ⟨m', v', g1, g2, f1, f2, ⟨by rw [k1]; first | decide | omega, by rw [j1]; first | decide | omega, ?_, ?_, fun j z => ?_, fun j z => ?_⟩, by rw [e1]; rfl⟩
  · rw [e1, j2]; rfl
  · rw [e1]
    refine ⟨?_, stk_up hs (fun j z1 z2 => j4 j ?_)⟩
    · rw [List.length_map]; exact j3
    · rw [List.length_map] at z2; omega
  · by_cases z2 : j = L
    · rw [z2]; exact e2
    · exact (hkv j (by first | decide | omega)).c (fun i z3 => kk i (by first | decide | omega))
  · by_cases z2 : j = L
    · rw [z2]
      exact e3 (kd v') (by rw [sh18 _ _ (by first | decide | omega)]; exact j5) (by rw [sh18 _ _ (by first | decide | omega)]; exact j6) (by rw [sh18 _ _ (by first | decide | omega)]; exact j7)
    · refine (hnd j (by first | decide | omega)).c (fun i z3 => kk i (by first | decide | omega)) ?_ ?_ ?_
      · rw [sh18 _ _ (by first | decide | omega), sh18' _ _ (by first | decide | omega)]; exact j8 18 _ (by first | decide | omega) (by first | decide | omega)
      · rw [sh18 _ _ (by first | decide | omega), sh18' _ _ (by first | decide | omega)]; exact j8 19 _ (by first | decide | omega) (by first | decide | omega)
      · rw [sh18 _ _ (by first | decide | omega), sh18' _ _ (by first | decide | omega)]; exact j8 20 _ (by first | decide | omega) (by first | decide | omega)
def WI (m v : Mem) (ws : List Int) : Prop := m 46 2 = ws.length ∧ v 0 46 = ws.length ∧ stk (m 50) ws ∧ stk (v 21) (ws.map wCm) ∧ ∀ x ∈ ws, wOk x
end Q32
/-! What waits is bound, on both sides. -/
section Q33
variable {m v : Mem} {S : Int} {D : Nat}
theorem r_drop {h : Int} (e : v 0 47 = h + 1) (hh : 0 ≤ h ∧ h < 96) : G12_dropHeld v = some (v 22 h, up v 0 47 h) := by
  unfold G12_dropHeld G12_dropHeld_0
  have e1 : h + 1 - 1 = h := by omega
  rw [e, gd3_t (by first | decide | omega), e1, wt_e, up_e, gdx_t hh, up_a (by first | decide | omega)]
theorem wCm_o {x : Int} (h : wOk x) (c15 : ¬ x = 15) (c36 : ¬ x = 36) : ¬ wCm x = 2 ∧ wCm x = opM (10000 + x) := by
  have : x = 16 ∨ x = 17 ∨ x = 26 ∨ x = 27 ∨ x = 28 ∨ x = 29 ∨ x = 30 ∨ x = 31 ∨ x = 32 ∨ x = 33 ∨ x = 34 ∨ x = 35 := by unfold wOk at h; omega
  rcases this with e | e | e | e | e | e | e | e | e | e | e | e <;> subst e <;> decide
def PRl (a : Nat) : Nat → Int → Prop := fun b i => (b = 46 ∧ i = 2) ∨ (b = a ∧ i = 1) ∨ b = a + 1
def QRl (F : Int) : Nat → Int → Prop := fun b i => (b = 0 ∧ (i = 23 ∨ i = 46 ∨ i = 47)) ∨ ((18 ≤ b ∧ b ≤ 20) ∧ 64 + F ≤ i) ∨ b = 22
theorem KN2.f {m' v' : Mem} {a : Nat} {F : Int} {L : Nat} (h : KN2 m v a F L) (e1 : m' a 1 = m a 1) (e2 : m' (a + 1) = m (a + 1)) (e3 : v' 0 23 = v 0 23) (e4 : v' 0 47 = v 0 47) (e5 : ∀ b : Nat, 18 ≤ b → b ≤ 22 → b ≠ 21 → v' b = v b) : KN2 m' v' a F L := by
  obtain ⟨h1, h2, h3, h4, h5, h6⟩ := h
  unfold KN2
  rw [e1, e2, e3, e4, e5 22 (by first | decide | omega) (by first | decide | omega) (by first | decide | omega)]
  exact ⟨h1, h2, h3, h4, h5, fun j z => (h6 j z).fr (funext fun i => congrFun (e5 18 (by first | decide | omega) (by first | decide | omega) (by first | decide | omega)) _) (funext fun i => congrFun (e5 19 (by first | decide | omega) (by first | decide | omega) (by first | decide | omega)) _) (funext fun i => congrFun (e5 20 (by first | decide | omega) (by first | decide | omega) (by first | decide | omega)) _)⟩
/-- what is released here is bound there -/
theorem l_rel {x2 F : Int} {a : Nat} (hx : 1 ≤ x2) (hF : 0 ≤ F) (ha : a ≠ 46 ∧ a ≠ 50 ∧ a + 1 ≠ 46 ∧ a + 1 ≠ 50) : ∀ (ws : List Int) (n L : Nat) (m v : Mem), ws.length < n → WI m v ws → KN2 m v a F L → F + L + cNB ws ≤ 64 → ws.length ≤ 72 → (ist (m (a + 1)) L).length = cBN ws + 1 → ∃ m' v' ws' L', G5_release_0 n m a x2 = some m' ∧ G12_bind_0 n v x2 = some v' ∧ Fm (PRl a) m m' ∧ Fm (QRl F) v v' ∧ WI m' v' ws' ∧ KN2 m' v' a F L' ∧ (L' : Int) + cNB ws' = L + cNB ws ∧ (ist (m' (a + 1)) L').length = cBN ws' + 1 ∧ cBR ws' = cBR ws ∧ (ws' = [] ∨ ∃ x r, ws' = x :: r ∧ wSt x < x2) ∧ ws'.length ≤ ws.length ∧ L ≤ L' := by
  intro ws
  induction ws with
  | nil =>
    intro n L m v h1 hW hK h2 h3 h4
    obtain ⟨n, rfl⟩ : ∃ j, n = j + 1 := ⟨n - 1, by first | decide | omega⟩
    have w1 : m 46 2 = 0 := hW.1
    have w2 : v 0 46 = 0 := hW.2.1
    rw [G5_release_0, G12_bind_0, w1, w2, if_pos (by first | decide | omega), if_pos (by first | decide | omega)]
    exact ⟨m, v, [], L, rfl, rfl, Fm.rf, Fm.rf, hW, hK, rfl, h4, rfl, Or.inl rfl, by first | decide | omega, by first | decide | omega⟩
  | cons x r ih =>
    intro n L m v h1 hW hK h2 h3 h4
    obtain ⟨n, rfl⟩ : ∃ j, n = j + 1 := ⟨n - 1, by first | decide | omega⟩
    have hl : ((x :: r).length : Int) = r.length + 1 := by simp
    have hl' : (x :: r).length = r.length + 1 := by simp
    have w1 : m 46 2 = r.length + 1 := by rw [hW.1]; exact hl
    have w2 : v 0 46 = r.length + 1 := by rw [hW.2.1]; exact hl
    have w3 : m 50 r.length = x := hW.2.2.1.1
    have w4 : v 21 r.length = wCm x := by have z := hW.2.2.2.1.1; rw [List.length_map] at z; exact z
    have ok : wOk x := hW.2.2.2.2 x (by simp)
    have er : (r.length : Int) + 1 - 1 = r.length := by omega
    have cl := c_len r
    have cb := c_bn r
    rw [G5_release_0, G12_bind_0, w1, w2, if_neg (by first | decide | omega), if_neg (by first | decide | omega), er, gdx_t (by first | decide | omega), gdx_t (by first | decide | omega), w3, w4, c_strg, bs1, r_rkw ok, bs1]
    dsimp only
    by_cases c : x2 ≤ wSt x
    · have x36 : ¬ x = 36 := fun q => by have := (wSt_b ok).2.2.mpr q; omega
      have n1 : cNB (x :: r) = 1 + cNB r := by show (if x = 36 then 0 else 1) + cNB r = _; rw [if_neg x36]
      have n2 : cBR (x :: r) = cBR r := by show (if x = 36 then 1 else 0) + cBR r = _; rw [if_neg x36]; omega
      obtain ⟨k1, k2, k3, k4, k5, k6⟩ := hK
      have ok' := ok
      unfold wOk at ok'
      have hi := ist_le (m (a + 1)) L
      rw [if_pos c, if_neg (show ¬ wSt x < x2 by first | decide | omega), gd3_t (by first | decide | omega), w2, er, gd3_t (by first | decide | omega), wt_e, up_e, gdx_t (by first | decide | omega), up_a (show (21 : Nat) ≠ 0 by first | decide | omega), w4]
      -- the rest once the knot has grown
      have fin : ∀ (st : List Int) (m1 v1 v2 : Mem), G2_add m a (10000 + x) = some m1 → Fm (fun b i => (b = a ∧ i = 1) ∨ (b = a + 1 ∧ i = (L : Int))) m m1 → Fm (fun b i => b = 0 ∧ (i = 46 ∨ i = 47)) v v1 → v1 0 46 = r.length → Fm (QG F) v1 v2 → KN2 m1 v2 a F (L + 1) → (ist (m1 (a + 1)) (L + 1)).length = cBN r + 1 → ∃ m' v' ws' L', ((G2_add m a (10000 + x)).bind fun o13 => gd3 (o13 46 2 - 1) (wt (up o13 46 2 (o13 46 2 - 1)) fun m17 => G5_release_0 n m17 a x2)) = some m' ∧ G12_bind_0 n v2 x2 = some v' ∧ Fm (PRl a) m m' ∧ Fm (QRl F) v v' ∧ WI m' v' ws' ∧ KN2 m' v' a F L' ∧ (L' : Int) + cNB ws' = L + cNB (x :: r) ∧ (ist (m' (a + 1)) L').length = cBN ws' + 1 ∧ cBR ws' = cBR (x :: r) ∧ (ws' = [] ∨ ∃ x r, ws' = x :: r ∧ wSt x < x2) ∧ ws'.length ≤ (x :: r).length ∧ L ≤ L' := by
        intro st m1 v1 v2 b1 b2 b3 b4 b5 b6 b7
        have d1 : m1 46 2 = r.length + 1 := by rw [b2 46 2 (by first | decide | omega)]; exact w1
        rw [b1, bs1, d1, gd3_t (by first | decide | omega), er, wt_e]
        have hW' : WI (up m1 46 2 r.length) v2 r := by
          refine ⟨up_e, by rw [b5 0 46 (by unfold QG; first | decide | omega)]; exact b4, ?_, ?_, fun y z => hW.2.2.2.2 y (List.mem_cons_of_mem _ z)⟩
          · have : up m1 46 2 r.length 50 = m 50 := funext fun i => by rw [up_a (by first | decide | omega), b2 50 i (by first | decide | omega)]
            rw [this]; exact hW.2.2.1.2
          · have : v2 21 = v 21 := funext fun i => by rw [b5 21 i (by unfold QG; first | decide | omega), b3 21 i (by first | decide | omega)]
            rw [this]; exact hW.2.2.2.1.2
        have hK' : KN2 (up m1 46 2 r.length) v2 a F (L + 1) := b6.f (by rw [up_a (by first | decide | omega)]) (funext fun i => by rw [up_a (by first | decide | omega)]) rfl rfl (fun _ _ _ _ => rfl)
        obtain ⟨m', v', ws', L', y1, y2, y3, y4, y5, y6, y7, y8, y9, y10, y11, y12⟩ := ih n (L + 1) (up m1 46 2 r.length) v2 (by first | decide | omega) hW' hK' (by first | decide | omega) (by first | decide | omega) (by
          have : up m1 46 2 r.length (a + 1) = m1 (a + 1) := funext fun i => by rw [up_a (by first | decide | omega)]
          rw [this]; exact b7)
        refine ⟨m', v', ws', L', y1, y2, ?_, ?_, y5, y6, by rw [y7, n1]; first | decide | omega, y8, by rw [y9, n2], y10, by first | decide | omega, by first | decide | omega⟩
        · exact ((b2.mono (by intro b i q; unfold PRl; first | decide | omega)).w (by unfold PRl; first | decide | omega)).tr y3
        · exact ((b3.mono (by intro b i q; unfold QRl; first | decide | omega)).tr (b5.mono (by intro b i q; unfold QG at q; unfold QRl; first | decide | omega))).tr y4
      by_cases c15 : x = 15
      · have e2 : wCm x = 2 := by rw [c15]; rfl
        have n3 : cBN (x :: r) = cBN r := by show (if x = 36 ∨ x = 15 then 0 else 1) + cBN r = _; rw [if_pos (Or.inr c15)]; omega
        rw [if_pos e2, e2]
        unfold G12_bind_58
        rcases hst : ist (m (a + 1)) L with _ | ⟨a0, st⟩
        · rw [hst] at h4; simp at h4
        · rw [hst] at h4 k3 k4
          have h5 : st.length = cBN r := by rw [n3] at h4; simpa using h4
          have z1 := r_drop (v := up v 0 46 r.length) (h := st.length) (by rw [up_i (by first | decide | omega), k3]; simp) (by first | decide | omega)
          have z2 : up v 0 46 r.length 22 st.length = F + a0 := by
            have z := k4.1
            rw [List.length_map] at z
            rw [up_a (by first | decide | omega)]; exact z
          rw [z2] at z1
          rw [z1, bs1]
          dsimp only
          have f1 : Fm (fun b i => b = 0 ∧ (i = 46 ∨ i = 47)) v (up (up v 0 46 r.length) 0 47 st.length) := (Fm.w1 (by first | decide | omega)).w (by first | decide | omega)
          have q1 : up (up v 0 46 r.length) 0 47 st.length 0 46 = r.length := by rw [up_i (by first | decide | omega), up_e]
          have q2 : up (up v 0 46 r.length) 0 47 st.length 0 47 = st.length := up_e
          generalize up (up v 0 46 r.length) 0 47 st.length = v1 at f1 q1 q2 ⊢
          have e22 : v1 22 = v 22 := f1.rw1 (fun i => by first | decide | omega)
          obtain ⟨m2, v2, g1, g2, g3, g4, g5, g6⟩ := KN_grow (m := m) (v := v1) (a := a) (F := F) (L := L) (st := st) (y := 10000 + x) (c := 2) (p := F + a0) (q := -1) k1 (by rw [f1 0 23 (by first | decide | omega)]; exact k2) q2 (by rw [e22]; exact k4.2) k5 (fun j z => (k6 j z).fr (funext fun i => f1 18 _ (by first | decide | omega)) (funext fun i => f1 19 _ (by first | decide | omega)) (funext fun i => f1 20 _ (by first | decide | omega))) (by first | decide | omega) (by
            intro kn' y1 y2
            rw [hst] at y2
            refine ⟨?_, Or.inr (Or.inr (Or.inl ⟨by rw [y1]; first | decide | omega, by rw [y2]; simp⟩)), fun u u1 u2 u3 => Or.inr (Or.inr (Or.inl ⟨by rw [y1]; first | decide | omega, u1, a0, st, y2, u2⟩))⟩
            rw [ist_s, y1, y2, if_neg (by first | decide | omega), if_pos (by first | decide | omega)]; rfl)
          rw [g2, bs1]
          exact fin st m2 v1 v2 g1 g3 f1 q1 g4 g5 (by rw [g6, h5])
      · have e2 : ¬ wCm x = 2 := (wCm_o ok c15 x36).1
        have n3 : cBN (x :: r) = cBN r + 1 := by show (if x = 36 ∨ x = 15 then 0 else 1) + cBN r = _; rw [if_neg (by first | decide | omega)]; omega
        have eo : wCm x = opM (10000 + x) := (wCm_o ok c15 x36).2
        rw [if_neg e2]
        rcases hst : ist (m (a + 1)) L with _ | ⟨b0, _ | ⟨a0, st⟩⟩
        · rw [hst] at h4; simp at h4
        · rw [hst] at h4; simp at h4; omega
        · rw [hst] at h4 k3 k4
          have h5 : st.length = cBN r := by rw [n3] at h4; simp at h4; omega
          have z1 := r_drop (v := up v 0 46 r.length) (h := st.length + 1) (by rw [up_i (by first | decide | omega), k3]; simp) (by first | decide | omega)
          have z2 : up v 0 46 r.length 22 (st.length + 1) = F + b0 := by
            have z := k4.1
            rw [List.length_map] at z
            rw [up_a (by first | decide | omega)]; simpa using z
          rw [z2] at z1
          rw [z1, bs1]
          unfold G12_bind_58
          dsimp only
          have z3 := r_drop (v := up (up v 0 46 r.length) 0 47 (st.length + 1)) (h := st.length) up_e (by first | decide | omega)
          have z4 : up (up v 0 46 r.length) 0 47 (st.length + 1) 22 st.length = F + a0 := by
            have z := k4.2.1
            rw [List.length_map] at z
            rw [up_a (by first | decide | omega), up_a (by first | decide | omega)]; exact z
          rw [z4] at z3
          rw [z3, bs1]
          dsimp only
          have f1 : Fm (fun b i => b = 0 ∧ (i = 46 ∨ i = 47)) v (up (up (up v 0 46 r.length) 0 47 (st.length + 1)) 0 47 st.length) := ((Fm.w1 (by first | decide | omega)).w (by first | decide | omega)).w (by first | decide | omega)
          have q1 : up (up (up v 0 46 r.length) 0 47 (st.length + 1)) 0 47 st.length 0 46 = r.length := by rw [up_i (by first | decide | omega), up_i (by first | decide | omega), up_e]
          have q2 : up (up (up v 0 46 r.length) 0 47 (st.length + 1)) 0 47 st.length 0 47 = st.length := up_e
          generalize up (up (up v 0 46 r.length) 0 47 (st.length + 1)) 0 47 st.length = v1 at f1 q1 q2 ⊢
          have e22 : v1 22 = v 22 := f1.rw1 (fun i => by first | decide | omega)
          obtain ⟨m2, v2, g1, g2, g3, g4, g5, g6⟩ := KN_grow (m := m) (v := v1) (a := a) (F := F) (L := L) (st := st) (y := 10000 + x) (c := wCm x) (p := F + a0) (q := F + b0) k1 (by rw [f1 0 23 (by first | decide | omega)]; exact k2) q2 (by rw [e22]; exact k4.2.2) k5 (fun j z => (k6 j z).fr (funext fun i => f1 18 _ (by first | decide | omega)) (funext fun i => f1 19 _ (by first | decide | omega)) (funext fun i => f1 20 _ (by first | decide | omega))) (by first | decide | omega) (by
            intro kn' y1 y2
            rw [hst] at y2
            have hb : bnk (kn' L) := by rw [y1]; unfold bnk; omega
            refine ⟨?_, Or.inr (Or.inr (Or.inr ⟨hb, by rw [y2]; simp⟩)), fun u u1 u2 u3 => Or.inr (Or.inr (Or.inr ⟨hb, by rw [u1, y1]; exact eo, b0, a0, st, y2, u2, u3⟩))⟩
            rw [ist_s, y1, y2, if_neg (by first | decide | omega), if_neg (by first | decide | omega)]; rfl)
          rw [g2, bs1]
          exact fin st m2 v1 v2 g1 g3 f1 q1 g4 g5 (by rw [g6, h5])
    · rw [if_neg c, if_pos (show wSt x < x2 by first | decide | omega)]
      exact ⟨m, v, x :: r, L, rfl, rfl, Fm.rf, Fm.rf, hW, hK, rfl, h4, rfl, Or.inr ⟨x, r, rfl, by first | decide | omega⟩, by first | decide | omega, by first | decide | omega⟩
end Q33
/-! One part of a law on both sides. -/
section Q34
variable {m v : Mem} {S : Int} {D : Nat}
def aOk (D a : Nat) : Prop := (D = 2 ∨ D = 24) ∧ (a = D + 16 ∨ a = D + 18 ∨ a = D + 20)
def PLw (D a : Nat) : Nat → Int → Prop := fun b i => Pk b i ∨ (b = 46 ∧ 2 ≤ i ∧ i ≤ 5) ∨ (b = a ∧ i = 1) ∨ b = a + 1 ∨ (b = D ∧ i = 13) ∨ b = 50
def QLw (F : Int) : Nat → Int → Prop := fun b i => Qk b i ∨ (b = 0 ∧ (i = 23 ∨ (46 ≤ i ∧ i ≤ 51))) ∨ ((18 ≤ b ∧ b ≤ 20) ∧ 64 + F ≤ i) ∨ b = 21 ∨ b = 22
theorem Pk_l {a : Nat} : ∀ b i, Pk b i → PLw D a b i := fun _ _ h => Or.inl h
theorem Qk_l {F : Int} : ∀ b i, Qk b i → QLw F b i := fun _ _ h => Or.inl h
theorem PRl_l {a : Nat} : ∀ b i, PRl a b i → PLw D a b i := by intro b i h; unfold PRl at h; unfold PLw; omega
theorem QRl_l {F : Int} : ∀ b i, QRl F b i → QLw F b i := by intro b i h; unfold QRl at h; unfold QLw; omega
def LI (m v : Mem) (D a : Nat) (F : Int) (ws : List Int) (L : Nat) : Prop := m 46 10 = (D : Int) ∧ WI m v ws ∧ KN2 m v a F L ∧ (m 46 3 = cBR ws ∧ v 0 48 = cBR ws ∧ cBR ws ≤ 8) ∧ (v 0 49 = m D 13 ∧ m D 13 ≤ 64 ∧ F + L + cNB ws = m D 13) ∧ (m 46 4 = v 0 50 ∧ (v 0 50 = 0 ∨ v 0 50 = 1)) ∧ (m 46 5 = v 0 51 ∧ (v 0 51 = 0 ∨ v 0 51 = 1)) ∧ ((ist (m (a + 1)) L).length : Int) + v 0 50 = cBN ws + 1
def SOut (X Y : Option (Int × Mem)) (m v : Mem) (D a : Nat) (F S : Int) : Prop := ∃ m' v', Fm (PLw D a) m m' ∧ Fm (QLw F) v v' ∧ m 47 3 ≤ m' 47 3 ∧ ((X = some (1, m') ∧ Y = some (1, v') ∧ (∃ ws L, LI m' v' D a F ws L) ∧ PreR m' v' S ∧ m 47 4 ≠ 39) ∨ (X = some (0, m') ∧ Y = some (0, v') ∧ FLT m' v'))
theorem r_sign (v : Mem) (x : Int) : G12_isSign v x = some (if v 0 8 = 4 ∧ v 0 9 = x then 1 else 0, v) := by
  unfold G12_isSign G12_isSign_0
  by_cases c1 : v 0 8 = 4
  · by_cases c2 : v 0 9 = x
    · rw [if_pos c1, if_pos c2, if_pos ⟨c1, c2⟩]
    · rw [if_pos c1, if_neg c2, if_neg (fun q => c2 q.2)]
  · rw [if_neg c1, if_neg (fun q => c1 q.1)]
theorem r_key (v : Mem) (x : Int) : G12_isKey v x = some (if v 0 8 = 1 ∧ v 0 9 = x then 1 else 0, v) := by
  unfold G12_isKey G12_isKey_0
  by_cases c1 : v 0 8 = 1
  · by_cases c2 : v 0 9 = x
    · rw [if_pos c1, if_pos c2, if_pos ⟨c1, c2⟩]
    · rw [if_pos c1, if_neg c2, if_neg (fun q => c2 q.2)]
  · rw [if_neg c1, if_neg (fun q => c1 q.1)]
theorem s_ref {X Y : Option (Int × Mem)} {a : Nat} {F : Int} (h : PostR m v S) (x : Int) (hX : X = some (0, up (up m 46 8 x) 46 9 (m 47 5))) (hY : Y = some (0, up (up v 0 4 x) 0 5 (v 0 10))) : SOut X Y m v D a F S := by
  obtain ⟨q1, q2, q3⟩ := flt m v x (show m 47 5 = v 0 10 from h.2.2.2.2.2.1.symm)
  exact ⟨_, _, q2.mono Pk_l, q3.mono Qk_l, by rw [up_a (by first | decide | omega), up_a (by first | decide | omega)]; first | decide | omega, Or.inr ⟨hX, hY, q1⟩⟩
theorem s_tr {X Y : Option (Int × Mem)} {a : Nat} {F : Int} {m1 v1 : Mem} (h : SOut X Y m1 v1 D a F S) (f : Fm (PLw D a) m m1) (g : Fm (QLw F) v v1) (p : m 47 3 ≤ m1 47 3) (e : m1 47 4 = m 47 4) : SOut X Y m v D a F S := by
  obtain ⟨m', v', f', g', p', k⟩ := h
  refine ⟨m', v', f.tr f', g.tr g', by first | decide | omega, ?_⟩
  rw [e] at k
  exact k
theorem n_cnt (h : PostR m v S) (e10 : m 46 10 = (D : Int)) (h49 : v 0 49 = m D 13 ∧ 0 ≤ m D 13 ∧ m D 13 ≤ 64) : (m D 13 < 64 ∧ G5_countKnot m = some (1, up m D 13 (m D 13 + 1)) ∧ G12_isCounted v = some (1, up v 0 49 (m D 13 + 1))) ∨ (G5_countKnot m = some (0, up (up m 46 8 2) 46 9 (m 47 5)) ∧ G12_isCounted v = some (0, up (up v 0 4 2) 0 5 (v 0 10))) := by
  unfold G5_countKnot G5_countKnot_0 G12_isCounted G12_isCounted_0
  rw [e10, Int.toNat_natCast, h49.1]
  by_cases c : m D 13 < 64
  · rw [if_pos c, if_neg (by first | decide | omega), gd3_t (by first | decide | omega), wt_e, gd3_t (by first | decide | omega), wt_e]
    exact Or.inl ⟨c, rfl, rfl⟩
  · rw [if_neg c, if_pos (by first | decide | omega), c_ref, bs1, gdb_t (by first | decide | omega), r_wrong, bs1, gdb_t (by first | decide | omega)]
    exact Or.inr ⟨rfl, rfl⟩
theorem c_wait {W x : Int} (e : m 46 2 = W) (h : 0 ≤ W ∧ W < 72) : G5_letWait m x = some (1, up (up m 50 W x) 46 2 (W + 1)) := by
  unfold G5_letWait G5_letWait_0
  rw [e, if_pos h.2, gdx_t h, wt_e, up_a (by first | decide | omega), e, gd3_t (by first | decide | omega), wt_e]
theorem r_wait {W x : Int} (e : v 0 46 = W) (h : 0 ≤ W ∧ W < 96) : G12_waitsFor v x = some (up (up v 21 W x) 0 46 (W + 1)) := by
  unfold G12_waitsFor G12_waitsFor_0
  rw [e, gdx_t h, wt_e, up_a (by first | decide | omega), e, gd3_t (by first | decide | omega), wt_e]
theorem WI.push {ws : List Int} {x : Int} (h : WI m v ws) (hx : wOk x) : WI (up (up m 50 ws.length x) 46 2 (ws.length + 1)) (up (up v 21 ws.length (wCm x)) 0 46 (ws.length + 1)) (x :: ws) := by
  obtain ⟨h1, h2, h3, h4, h5⟩ := h
  refine ⟨by rw [up_e]; simp, by rw [up_e]; simp, ⟨?_, stk_up h3 (fun j a b => ?_)⟩, ⟨?_, stk_up h4 (fun j a b => ?_)⟩, ?_⟩
  · rw [up_a (by first | decide | omega), up_e]
  · rw [up_a (by first | decide | omega), up_i (by first | decide | omega)]
  · rw [List.length_map, up_a (by first | decide | omega), up_e]
  · rw [List.length_map] at b
    rw [up_a (by first | decide | omega), up_i (by first | decide | omega)]
  · intro y hy
    rcases List.mem_cons.mp hy with q | q
    · rw [q]; exact hx
    · exact h5 y q
theorem WI.f {m' v' : Mem} {ws : List Int} (h : WI m v ws) (e1 : m' 46 2 = m 46 2) (e2 : v' 0 46 = v 0 46) (e3 : m' 50 = m 50) (e4 : v' 21 = v 21) : WI m' v' ws := by
  unfold WI
  rw [e1, e2, e3, e4]
  exact h
/-- what stays of the law's state -/
theorem LI.f {m' v' : Mem} {a : Nat} {F : Int} {ws : List Int} {L : Nat} {P Q : Nat → Int → Prop} (h : LI m v D a F ws L) (f : Fm P m m') (g : Fm Q v v') (hp : ∀ b i, (b = 46 ∧ (i = 10 ∨ (2 ≤ i ∧ i ≤ 5))) ∨ b = 50 ∨ b = a ∨ b = a + 1 ∨ (b = D ∧ i = 13) → ¬ P b i) (hq : ∀ b i, (b = 0 ∧ (i = 23 ∨ (46 ≤ i ∧ i ≤ 51))) ∨ (18 ≤ b ∧ b ≤ 22) → ¬ Q b i) : LI m' v' D a F ws L := by
  obtain ⟨h1, h2, h3, h4, h5, h6, h7, h8⟩ := h
  have r : ∀ b : Nat, b = 50 ∨ b = a + 1 → m' b = m b := fun b z => f.rw1 (fun i => hp b i (by first | decide | omega))
  have s : ∀ b : Nat, 18 ≤ b → b ≤ 22 → v' b = v b := fun b z1 z2 => g.rw1 (fun i => hq b i (by first | decide | omega))
  unfold LI
  rw [f 46 10 (hp _ _ (by first | decide | omega)), f 46 3 (hp _ _ (by first | decide | omega)), f 46 4 (hp _ _ (by first | decide | omega)), f 46 5 (hp _ _ (by first | decide | omega)), f D 13 (hp _ _ (by first | decide | omega)), r (a + 1) (by first | decide | omega), g 0 48 (hq _ _ (by first | decide | omega)), g 0 49 (hq _ _ (by first | decide | omega)), g 0 50 (hq _ _ (by first | decide | omega)), g 0 51 (hq _ _ (by first | decide | omega))]
  exact ⟨h1, h2.f (f 46 2 (hp _ _ (by first | decide | omega))) (g 0 46 (hq _ _ (by first | decide | omega))) (r 50 (by first | decide | omega)) (s 21 (by first | decide | omega) (by first | decide | omega)), h3.f (f a 1 (hp _ _ (by first | decide | omega))) (r (a + 1) (by first | decide | omega)) (g 0 23 (hq _ _ (by first | decide | omega))) (g 0 47 (hq _ _ (by first | decide | omega))) (fun b z1 z2 _ => s b z1 z2), h4, h5, h6, h7, h8⟩
theorem LI.k {m' v' : Mem} {a : Nat} {F : Int} {ws : List Int} {L : Nat} (ha : aOk D a) (h : LI m v D a F ws L) (f : Fm Pk m m') (g : Fm Qk v v') : LI m' v' D a F ws L := h.f f g (by intro b i q; unfold aOk at ha; unfold Pk; first | decide | omega) (by intro b i q; unfold Qk; first | decide | omega)
/-- a bracket opens -/
theorem s_open {a : Nat} {F : Int} {ws : List Int} {L : Nat} (ha : aOk D a) (hF : 0 ≤ F) (h : PostR m v S) (hL : LI m v D a F ws L) (c : m 47 4 = 36) : SOut (G5_takePart m a) (G12_leafRead v) m v D a F S := by
  have hk := h.2.2.2.2.2.2.2
  have e8 : v 0 8 = 4 ∧ v 0 9 = 40 := by unfold KR SGN NumR at hk; omega
  obtain ⟨h1, h2, h3, h4, h5, h6, h7, h8⟩ := hL
  have cl := c_len ws
  unfold G5_takePart G5_takePart_0 G12_leafRead G12_leafRead_0
  rw [if_pos c, r_sign, if_pos e8, bs1]
  unfold G5_takeOpen G5_takeOpen_0
  simp only [if_neg i10]
  rw [h4.1, h4.2.1]
  by_cases c8 : cBR ws < 8
  · rw [if_pos c8, if_neg (show ¬ cBR ws = 8 by first | decide | omega), gd3_t (by first | decide | omega), gd3_t (by first | decide | omega)]
    simp only [wt_e]
    have w1 : up (up m 46 3 (cBR ws + 1)) 46 5 1 46 2 = ws.length := by rw [up_i (by first | decide | omega), up_i (by first | decide | omega)]; exact h2.1
    have w2 : up v 0 48 (cBR ws + 1) 0 46 = ws.length := by rw [up_i (by first | decide | omega)]; exact h2.2.1
    rw [c_wait w1 (by first | decide | omega), bs1, r_wait w2 (by first | decide | omega), bs1]
    dsimp only
    have wi0 : WI (up (up m 46 3 (cBR ws + 1)) 46 5 1) (up v 0 48 (cBR ws + 1)) ws := h2.f (by rw [up_i (by first | decide | omega), up_i (by first | decide | omega)]) (up_i (by first | decide | omega)) (funext fun i => by rw [up_a (by first | decide | omega), up_a (by first | decide | omega)]) (funext fun i => by rw [up_a (by first | decide | omega)])
    have wi1 := wi0.push (x := 36) (by unfold wOk; first | decide | omega)
    have f1 : Fm (fun b i => (b = 46 ∧ (i = 2 ∨ i = 3 ∨ i = 5)) ∨ b = 50) m (up (up (up (up m 46 3 (cBR ws + 1)) 46 5 1) 50 ws.length 36) 46 2 (ws.length + 1)) := (((Fm.w1 (by first | decide | omega)).w (by first | decide | omega)).w (by first | decide | omega)).w (by first | decide | omega)
    have g1 : Fm (fun b i => (b = 0 ∧ (i = 46 ∨ i = 48 ∨ i = 51)) ∨ b = 21) v (up (up (up (up v 0 48 (cBR ws + 1)) 21 ws.length (wCm 36)) 0 46 (ws.length + 1)) 0 51 1) := (((Fm.w1 (by first | decide | omega)).w (by first | decide | omega)).w (by first | decide | omega)).w (by first | decide | omega)
    have k3 : up (up (up (up m 46 3 (cBR ws + 1)) 46 5 1) 50 ws.length 36) 46 2 (ws.length + 1) 46 3 = cBR ws + 1 := by rw [up_i (by first | decide | omega), up_a (by first | decide | omega), up_i (by first | decide | omega), up_e]
    have k5 : up (up (up (up m 46 3 (cBR ws + 1)) 46 5 1) 50 ws.length 36) 46 2 (ws.length + 1) 46 5 = 1 := by rw [up_i (by first | decide | omega), up_a (by first | decide | omega), up_e]
    have k48 : up (up (up (up v 0 48 (cBR ws + 1)) 21 ws.length (wCm 36)) 0 46 (ws.length + 1)) 0 51 1 0 48 = cBR ws + 1 := by rw [up_i (by first | decide | omega), up_i (by first | decide | omega), up_a (by first | decide | omega), up_e]
    have k51 : up (up (up (up v 0 48 (cBR ws + 1)) 21 ws.length (wCm 36)) 0 46 (ws.length + 1)) 0 51 1 0 51 = 1 := up_e
    have wi2 : WI (up (up (up (up m 46 3 (cBR ws + 1)) 46 5 1) 50 ws.length 36) 46 2 (ws.length + 1)) (up (up (up (up v 0 48 (cBR ws + 1)) 21 ws.length (wCm 36)) 0 46 (ws.length + 1)) 0 51 1) (36 :: ws) := wi1.f rfl (up_i (by first | decide | omega)) rfl (funext fun i => up_a (by first | decide | omega))
    have e36 : wCm 36 = 0 := by decide
    rw [e36] at g1 k48 k51 wi2
    generalize up (up (up (up m 46 3 (cBR ws + 1)) 46 5 1) 50 ws.length 36) 46 2 (ws.length + 1) = m1 at f1 k3 k5 wi2 ⊢
    generalize up (up (up (up v 0 48 (cBR ws + 1)) 21 ws.length 0) 0 46 (ws.length + 1)) 0 51 1 = v1 at g1 k48 k51 wi2 ⊢
    have p1 : PostR m1 v1 S := h.f f1 g1 (by intro b i q; first | decide | omega) (by intro b i q; first | decide | omega)
    obtain ⟨v2, z1, z2, z3⟩ := p1.tok
    have ha' := ha
    unfold aOk at ha'
    have n1 : cNB (36 :: ws) = cNB ws := by show (if (36 : Int) = 36 then 0 else 1) + cNB ws = _; rw [if_pos rfl]; omega
    have n2 : cBR (36 :: ws) = cBR ws + 1 := by show (if (36 : Int) = 36 then 1 else 0) + cBR ws = _; rw [if_pos rfl]; omega
    have n3 : cBN (36 :: ws) = cBN ws := by show (if (36 : Int) = 36 ∨ (36 : Int) = 15 then 0 else 1) + cBN ws = _; rw [if_pos (Or.inl rfl)]; omega
    have li : LI m1 v1 D a F (36 :: ws) L := by
      refine ⟨by rw [f1 46 10 (by first | decide | omega)]; exact h1, wi2, h3.f (f1 a 1 (by first | decide | omega)) (f1.rw1 (fun i => by first | decide | omega)) (g1 0 23 (by first | decide | omega)) (g1 0 47 (by first | decide | omega)) (fun b q1 q2 q3 => g1.rw1 (fun i => by first | decide | omega)), ⟨by rw [k3, n2], by rw [k48, n2], by rw [n2]; first | decide | omega⟩, ?_, ?_, ?_, ?_⟩
      · rw [g1 0 49 (by first | decide | omega), f1 D 13 (by first | decide | omega), n1]; exact h5
      · rw [g1 0 50 (by first | decide | omega), f1 46 4 (by first | decide | omega)]; exact h6
      · rw [k5, k51]; exact ⟨rfl, Or.inr rfl⟩
      · rw [g1 0 50 (by first | decide | omega), f1.rw1 (b := a + 1) (fun i => by first | decide | omega), n3]; exact h8
    rw [gdb_t (Or.inr rfl), bs1, gdb_t (Or.inr rfl), z1, bs1]
    refine ⟨m1, v2, f1.mono ?_, (g1.mono ?_).tr ((z2.mono Q7_k).mono Qk_l), by rw [f1 47 3 (by first | decide | omega)]; first | decide | omega, Or.inl ⟨rfl, rfl, ⟨36 :: ws, L, li.k ha Fm.rf (z2.mono Q7_k)⟩, z3, by first | decide | omega⟩⟩
    · intro b i q; unfold PLw; omega
    · intro b i q; unfold QLw; omega
  · rw [if_neg c8, if_pos (show cBR ws = 8 by first | decide | omega), c_ref, bs1, gdb_t (by first | decide | omega), bs1, gdb_t (by first | decide | omega), r_wrong, bs1, gdb_t (by first | decide | omega)]
    exact s_ref h 2 rfl rfl
end Q34
/-! One part of a law on both sides: not, numbers and names. -/
section Q35
variable {m v : Mem} {S : Int} {D : Nat}
/-- counted, and let wait -/
theorem n_cw {ws : List Int} {x : Int} (hDD : D = 2 ∨ D = 24) (h : PostR m v S) (e10 : m 46 10 = (D : Int)) (h49 : v 0 49 = m D 13 ∧ 0 ≤ m D 13 ∧ m D 13 ≤ 64) (hW : WI m v ws) (hw : m D 13 < 64 → (ws.length : Int) < 72) (hx : wOk x) : (∃ mA vA m' v', m D 13 < 64 ∧ G5_countKnot m = some (1, mA) ∧ G12_isCounted v = some (1, vA) ∧ G5_letWait mA x = some (1, m') ∧ G12_waitsFor vA (wCm x) = some v' ∧ Fm (fun b i => (b = D ∧ i = 13) ∨ b = 50 ∨ (b = 46 ∧ i = 2)) m m' ∧ Fm (fun b i => (b = 0 ∧ (i = 46 ∨ i = 49)) ∨ b = 21) v v' ∧ WI m' v' (x :: ws) ∧ m' D 13 = m D 13 + 1 ∧ v' 0 49 = m D 13 + 1 ∧ vA 0 51 = v 0 51) ∨ (G5_countKnot m = some (0, up (up m 46 8 2) 46 9 (m 47 5)) ∧ G12_isCounted v = some (0, up (up v 0 4 2) 0 5 (v 0 10))) := by
  rcases n_cnt h e10 h49 with ⟨c, a1, a2⟩ | k
  · refine Or.inl ⟨_, _, up (up (up m D 13 (m D 13 + 1)) 50 ws.length x) 46 2 (ws.length + 1), up (up (up v 0 49 (m D 13 + 1)) 21 ws.length (wCm x)) 0 46 (ws.length + 1), c, a1, a2, ?_, ?_, ((Fm.w1 (by first | decide | omega)).w (by first | decide | omega)).w (by first | decide | omega), ((Fm.w1 (by first | decide | omega)).w (by first | decide | omega)).w (by first | decide | omega), ?_, ?_, ?_, ?_⟩
    · exact c_wait (by rw [up_a (by first | decide | omega)]; exact hW.1) (by have := hw c; first | decide | omega)
    · exact r_wait (by rw [up_i (by first | decide | omega)]; exact hW.2.1) (by have := hw c; first | decide | omega)
    · exact WI.push (hW.f (m' := up m D 13 (m D 13 + 1)) (v' := up v 0 49 (m D 13 + 1)) (up_a (by first | decide | omega)) (up_i (by first | decide | omega)) (funext fun i => up_a (by first | decide | omega)) (funext fun i => up_a (by first | decide | omega))) hx
    · rw [up_a (by first | decide | omega), up_a (by first | decide | omega), up_e]
    · rw [up_i (by first | decide | omega), up_a (by first | decide | omega), up_e]
    · exact up_i (by first | decide | omega)
  · exact Or.inr k
theorem s_not {a : Nat} {F : Int} {ws : List Int} {L : Nat} (ha : aOk D a) (hF : 0 ≤ F) (h : PostR m v S) (hL : LI m v D a F ws L) (c : m 47 4 = 15) (c5 : ¬ m 46 5 = 0) : SOut (G5_takePart m a) (G12_leafRead v) m v D a F S := by
  have hk := h.2.2.2.2.2.2.2
  have e8 : v 0 8 = 1 ∧ v 0 9 = 17 := by
    rw [c] at hk
    have ek : kwf 15 = 17 := by decide
    unfold KR SGN NumR at hk
    rw [ek] at hk
    omega
  obtain ⟨h1, h2, h3, h4, h5, h6, h7, h8⟩ := hL
  have cl := c_len ws
  have ha' := ha
  unfold aOk at ha'
  unfold G5_takePart G5_takePart_0 G12_leafRead G12_leafRead_0
  rw [if_neg (show ¬ m 47 4 = 36 by first | decide | omega), if_pos c, if_neg c5, r_sign, if_neg (show ¬ (v 0 8 = 4 ∧ v 0 9 = 40) by first | decide | omega), bs1]
  simp only [if_true]
  rw [r_key, if_pos e8, bs1]
  simp only [if_neg i10]
  rw [if_neg (show ¬ v 0 51 = 0 by first | decide | omega), c]
  rcases n_cw (x := 15) ha'.1 h h1 ⟨h5.1, by first | decide | omega, h5.2.1⟩ h2 (fun q => by first | decide | omega) (by unfold wOk; first | decide | omega) with ⟨mA, vA, m1, v1, b0, b1, b2, b3, b4, b5, b6, b7, b8, b9, b10⟩ | ⟨b1, b2⟩
  · have ec : wCm 15 = 2 := by decide
    rw [ec] at b4
    rw [b1, bs1, b2, bs1]
    simp only [if_neg i10]
    rw [b3, bs1, b4, bs1]
    simp only [if_neg i10]
    have p1 : PostR m1 v1 S := h.f b5 b6 (by intro b i q; first | decide | omega) (by intro b i q; first | decide | omega)
    obtain ⟨v2, z1, z2, z3⟩ := p1.tok
    rw [z1, bs1]
    have n1 : cNB (15 :: ws) = 1 + cNB ws := by show (if (15 : Int) = 36 then 0 else 1) + cNB ws = _; rw [if_neg (by first | decide | omega)]
    have n2 : cBR (15 :: ws) = cBR ws := by show (if (15 : Int) = 36 then 1 else 0) + cBR ws = _; rw [if_neg (by first | decide | omega)]; omega
    have n3 : cBN (15 :: ws) = cBN ws := by show (if (15 : Int) = 36 ∨ (15 : Int) = 15 then 0 else 1) + cBN ws = _; rw [if_pos (Or.inr rfl)]; omega
    have li : LI m1 v1 D a F (15 :: ws) L := by
      refine ⟨by rw [b5 46 10 (by first | decide | omega)]; exact h1, b7, h3.f (b5 a 1 (by first | decide | omega)) (b5.rw1 (fun i => by first | decide | omega)) (b6 0 23 (by first | decide | omega)) (b6 0 47 (by first | decide | omega)) (fun b q1 q2 q3 => b6.rw1 (fun i => by first | decide | omega)), ?_, ?_, ?_, ?_, ?_⟩
      · rw [b5 46 3 (by first | decide | omega), b6 0 48 (by first | decide | omega), n2]; exact h4
      · rw [b8, b9, n1]; omega
      · rw [b5 46 4 (by first | decide | omega), b6 0 50 (by first | decide | omega)]; exact h6
      · rw [b5 46 5 (by first | decide | omega), b6 0 51 (by first | decide | omega)]; exact h7
      · rw [b6 0 50 (by first | decide | omega), b5.rw1 (b := a + 1) (fun i => by first | decide | omega), n3]; exact h8
    refine ⟨m1, v2, b5.mono ?_, (b6.mono ?_).tr ((z2.mono Q7_k).mono Qk_l), by rw [b5 47 3 (by first | decide | omega)]; first | decide | omega, Or.inl ⟨rfl, rfl, ⟨15 :: ws, L, li.k ha Fm.rf (z2.mono Q7_k)⟩, z3, by first | decide | omega⟩⟩
    · intro b i q; unfold PLw; omega
    · intro b i q; unfold QLw; omega
  · rw [b1, bs1, b2, bs1]
    simp only [if_true]
    exact s_ref h 2 rfl rfl
/-- a leaf grows -/
theorem s_grow {a : Nat} {F : Int} {ws : List Int} {L : Nat} {y c p : Int} (ha : aOk D a) (hF : 0 ≤ F) (h : PostR m v S) (hL : LI m v D a F ws L) (hw : v 0 50 = 1) (h39 : m 47 4 ≠ 39) (hy : (0 ≤ y ∧ y < 10000 ∧ c = 0 ∧ p = y) ∨ (10018 ≤ y ∧ y < 10024 ∧ c = 1 ∧ p = y - 10018)) {X Y : Option (Int × Mem)} (hX : X = (G5_countKnot m).bind fun o1 => if o1.1 = 0 then some (0, o1.2) else G5_takePart_139 o1.2 y a) (hY : Y = (G12_isCounted v).bind fun o1 => if o1.1 = 0 then some (0, o1.2) else G12_leafRead_160 o1.2 p c) : SOut X Y m v D a F S := by
  obtain ⟨h1, h2, h3, h4, h5, h6, h7, h8⟩ := hL
  have cl := c_len ws
  have cb := c_bn ws
  have ha' := ha
  unfold aOk at ha'
  rw [hX, hY]
  rcases n_cnt h h1 ⟨h5.1, by first | decide | omega, h5.2.1⟩ with ⟨c1, a1, a2⟩ | ⟨a1, a2⟩
  · rw [a1, a2, bs1, bs1]
    simp only [if_neg i10]
    have f1 : Fm (fun b i => b = D ∧ i = 13) m (up m D 13 (m D 13 + 1)) := Fm.w1 ⟨rfl, rfl⟩
    have g1 : Fm (fun b i => b = 0 ∧ i = 49) v (up v 0 49 (m D 13 + 1)) := Fm.w1 ⟨rfl, rfl⟩
    have k13 : up m D 13 (m D 13 + 1) D 13 = m D 13 + 1 := up_e
    have k49 : up v 0 49 (m D 13 + 1) 0 49 = m D 13 + 1 := up_e
    generalize up m D 13 (m D 13 + 1) = m1 at f1 k13 ⊢
    generalize up v 0 49 (m D 13 + 1) = v1 at g1 k49 ⊢
    obtain ⟨k1, k2, k3, k4, k5, k6⟩ := h3
    have er : m1 (a + 1) = m (a + 1) := f1.rw1 (fun i => by first | decide | omega)
    have il : ((ist (m (a + 1)) L).length : Int) = cBN ws := by omega
    obtain ⟨m2, v2, q1, q2, q3, q4, q5, q6⟩ := KN_grow (m := m1) (v := v1) (a := a) (F := F) (L := L) (st := ist (m (a + 1)) L) (y := y) (c := c) (p := p) (q := 0) (by rw [f1 a 1 (by first | decide | omega)]; exact k1) (by rw [g1 0 23 (by first | decide | omega)]; exact k2) (by rw [g1 0 47 (by first | decide | omega)]; exact k3) (by rw [g1.rw1 (b := 22) (fun i => by first | decide | omega)]; exact k4) (fun j z => by rw [er]; exact k5 j z) (fun j z => by rw [er]; exact (k6 j z).fr (funext fun i => g1 18 _ (by first | decide | omega)) (funext fun i => g1 19 _ (by first | decide | omega)) (funext fun i => g1 20 _ (by first | decide | omega))) (by first | decide | omega) (by
      intro kn' y1 y2
      rw [er] at y2
      rcases hy with ⟨u1, u2, u3, u4⟩ | ⟨u1, u2, u3, u4⟩
      · refine ⟨by rw [ist_s, y1, y2, if_pos (by first | decide | omega)], Or.inl (by rw [y1]; first | decide | omega), fun u w1 w2 w3 => Or.inl ⟨by first | decide | omega, by first | decide | omega, by first | decide | omega, by first | decide | omega⟩⟩
      · refine ⟨by rw [ist_s, y1, y2, if_pos (by first | decide | omega)], Or.inr (Or.inl (by rw [y1]; first | decide | omega)), fun u w1 w2 w3 => Or.inr (Or.inl ⟨by first | decide | omega, by first | decide | omega, by first | decide | omega, by first | decide | omega⟩)⟩)
    unfold G5_takePart_139 G12_leafRead_160
    rw [q1, bs1, q2, bs1]
    simp only [wt_e]
    have F2 : Fm (PLw D a) m (up m2 46 4 0) := ((f1.mono (by intro b i q; unfold PLw; first | decide | omega)).tr (q3.mono (by intro b i q; unfold PLw; first | decide | omega))).w (by unfold PLw; first | decide | omega)
    have G2 : Fm (QLw F) v (up v2 0 50 0) := ((g1.mono (by intro b i q; unfold QLw; first | decide | omega)).tr (q4.mono (by intro b i q; unfold QG at q; unfold QLw; first | decide | omega))).w (by unfold QLw; first | decide | omega)
    have p2 : PostR (up m2 46 4 0) (up v2 0 50 0) S := ((h.f f1 g1 (by intro b i q; first | decide | omega) (by intro b i q; first | decide | omega)).f q3 q4 (by intro b i q; first | decide | omega) (by intro b i q; unfold QG; first | decide | omega)).f (P := fun b i => b = 46 ∧ i = 4) (Q := fun b i => b = 0 ∧ i = 50) (Fm.w1 ⟨rfl, rfl⟩) (Fm.w1 ⟨rfl, rfl⟩) (by intro b i q; first | decide | omega) (by intro b i q; first | decide | omega)
    have e2 : ∀ (b : Nat) i, b ≠ a → b ≠ a + 1 → ¬ (b = D ∧ i = 13) → m2 b i = m b i := fun b i z1 z2 z3 => by rw [q3 b i (by first | decide | omega), f1 b i z3]
    have d2 : ∀ i, i ≠ 23 → i ≠ 47 → i ≠ 49 → v2 0 i = v 0 i := fun i z1 z2 z3 => by rw [q4 0 i (by unfold QG; first | decide | omega), g1 0 i (by first | decide | omega)]
    have li : LI (up m2 46 4 0) (up v2 0 50 0) D a F ws (L + 1) := by
      refine ⟨by rw [up_i (by first | decide | omega), e2 46 10 (by first | decide | omega) (by first | decide | omega) (by first | decide | omega)]; exact h1, h2.f ?_ ?_ ?_ ?_, q5.f ?_ ?_ ?_ ?_ ?_, ?_, ?_, ?_, ?_, ?_⟩
      · rw [up_i (by first | decide | omega), e2 46 2 (by first | decide | omega) (by first | decide | omega) (by first | decide | omega)]
      · rw [up_i (by first | decide | omega), d2 46 (by first | decide | omega) (by first | decide | omega) (by first | decide | omega)]
      · exact funext fun i => by rw [up_a (by first | decide | omega), e2 50 i (by first | decide | omega) (by first | decide | omega) (by first | decide | omega)]
      · exact funext fun i => by rw [up_a (by first | decide | omega), q4 21 i (by unfold QG; first | decide | omega), g1 21 i (by first | decide | omega)]
      · exact up_a (by first | decide | omega)
      · exact funext fun i => up_a (by first | decide | omega)
      · exact up_i (by first | decide | omega)
      · exact up_i (by first | decide | omega)
      · exact fun b _ _ _ => funext fun i => up_a (by first | decide | omega)
      · rw [up_i (by first | decide | omega), e2 46 3 (by first | decide | omega) (by first | decide | omega) (by first | decide | omega), up_i (by first | decide | omega), d2 48 (by first | decide | omega) (by first | decide | omega) (by first | decide | omega)]; exact h4
      · rw [up_i (by first | decide | omega), q4 0 49 (by unfold QG; first | decide | omega), k49, up_a (by first | decide | omega), q3 D 13 (by first | decide | omega), k13]; omega
      · rw [up_e, up_e]; exact ⟨rfl, Or.inl rfl⟩
      · rw [up_i (by first | decide | omega), e2 46 5 (by first | decide | omega) (by first | decide | omega) (by first | decide | omega), up_i (by first | decide | omega), d2 51 (by first | decide | omega) (by first | decide | omega) (by first | decide | omega)]; exact h7
      · have : up m2 46 4 0 (a + 1) = m2 (a + 1) := funext fun i => up_a (by first | decide | omega)
        rw [this, q6, up_e]; omega
    obtain ⟨v3, z1, z2, z3⟩ := p2.tok
    rw [z1, bs1]
    exact ⟨up m2 46 4 0, v3, F2, G2.tr ((z2.mono Q7_k).mono Qk_l), by rw [up_a (by first | decide | omega), e2 47 3 (by first | decide | omega) (by first | decide | omega) (by first | decide | omega)]; first | decide | omega, Or.inl ⟨rfl, rfl, ⟨ws, L + 1, li.k ha Fm.rf (z2.mono Q7_k)⟩, z3, h39⟩⟩
  · rw [a1, a2, bs1, bs1]
    simp only [if_true]
    exact s_ref h 2 rfl rfl
theorem s_leaf {a : Nat} {F : Int} {ws : List Int} {L : Nat} (ha : aOk D a) (hF : 0 ≤ F) (h : PostR m v S) (hL : LI m v D a F ws L) (hw : v 0 50 = 1) : SOut (G5_takePart_53 m a (m 47 4)) (G12_leafRead_86 v) m v D a F S := by
  have hk := h.2.2.2.2.2.2.2
  have hb := KR_b hk
  unfold G5_takePart_53 G5_takePart_69 G5_takePart_70 G12_leafRead_86 G12_nameMet G12_nameMet_0
  by_cases c1 : 18 ≤ m 47 4 ∧ m 47 4 ≤ 23
  · have hi := (KR_kw hk (lo := 18) (hi := 23) (by first | decide | omega) (by first | decide | omega)).mp c1
    have ek : v 0 9 = m 47 4 := by
      have hlo : kwf (m 47 4) = m 47 4 := kwf_lo (by first | decide | omega)
      unfold KR SGN NumR at hk
      rw [hlo] at hk
      omega
    have hl : (if (1 : Int) = 0 then (G5_refuse m 2).bind fun o7 => gdb o7.1 (some (o7.1, o7.2)) else G5_takePart_110 m a (m 47 4) 1) = G5_takePart_110 m a (m 47 4) 1 := if_neg i10
    rw [if_neg (by first | decide | omega), if_neg (by first | decide | omega), if_neg (by first | decide | omega), if_neg i10, if_pos hi.1, if_neg (by first | decide | omega), gd3_t (by first | decide | omega), bs1]
    dsimp only
    rw [if_pos (by first | decide | omega)]
    unfold G5_takePart_87 G12_leafRead_109
    have e87 : (if m 47 6 ≤ 9999 then G5_takePart_110 m a (m 47 4) 1 else G5_takePart_110 m a (m 47 4) 1) = G5_takePart_110 m a (m 47 4) 1 := by split <;> rfl
    rw [if_neg i10, e87, if_pos (show 0 ≤ v 0 9 - 18 by first | decide | omega)]
    refine s_grow (y := 10000 + m 47 4) (c := 1) (p := v 0 9 - 18) ha hF h hL hw (by first | decide | omega) (Or.inr ⟨by first | decide | omega, by first | decide | omega, rfl, by first | decide | omega⟩) ?_ ?_
    · unfold G5_takePart_110
      simp only [if_neg i10]
      congr 1
      funext o1
      rw [gd3_t (by first | decide | omega)]
    · unfold G12_leafRead_129 G12_leafRead_148
      simp only [if_neg (show ¬ v 0 9 - 18 < 0 by first | decide | omega)]
  · have e53 : ∀ X Y : Option (Int × Mem), (if m 47 4 < 18 then X else if 24 ≤ m 47 4 then X else Y) = X := fun X Y => by
      by_cases z : m 47 4 < 18
      · rw [if_pos z]
      · rw [if_neg z, if_pos (by first | decide | omega)]
    have hkb : 0 ≤ m 47 4 ∧ m 47 4 < 24 → 0 ≤ kwf (m 47 4) ∧ kwf (m 47 4) < 24 ∧ (15 ≤ m 47 4 ∧ m 47 4 ≤ 17 → 15 ≤ kwf (m 47 4) ∧ kwf (m 47 4) ≤ 17) := kwf_b
    have hlo : (m 47 4 < 15 ∨ 17 < m 47 4) → kwf (m 47 4) = m 47 4 := kwf_lo
    have en : (if v 0 8 = 1 then if v 0 9 < 18 then some ((-1 : Int), v) else gd3 (v 0 9 - 18) (some (v 0 9 - 18, v)) else some (-1, v)) = some (-1, v) := by
      by_cases z : v 0 8 = 1
      · have : v 0 9 < 18 := by unfold KR SGN NumR at hk; omega
        rw [if_pos z, if_pos this]
      · rw [if_neg z]
    rw [e53, en, bs1]
    dsimp only
    rw [if_neg (show ¬ (0 : Int) ≤ -1 by first | decide | omega)]
    by_cases c2 : m 47 4 = 25
    · have e8 : v 0 8 = 3 ∧ NumR (m 47 6) (v 0 9) := by unfold KR SGN NumR at hk; unfold NumR; omega
      obtain ⟨e8, n1, n2, n3⟩ := e8
      rw [if_pos c2, if_pos e8]
      unfold G5_takePart_87 G12_leafRead_109
      rw [if_neg (show ¬ (0 : Int) ≤ -1 by first | decide | omega)]
      by_cases c3 : m 47 6 ≤ 9999
      · rw [if_pos c3, if_pos (show v 0 9 ≤ 9999 by first | decide | omega)]
        refine s_grow (y := m 47 6) (c := 0) (p := v 0 9) ha hF h hL hw (by first | decide | omega) (Or.inl ⟨by first | decide | omega, by first | decide | omega, rfl, by first | decide | omega⟩) ?_ ?_
        · unfold G5_takePart_110
          rcases n_cnt h hL.1 ⟨hL.2.2.2.2.1.1, by have := c_len ws; have := hL.2.2.2.2.1; first | decide | omega, hL.2.2.2.2.1.2.1⟩ with ⟨_, a1, _⟩ | ⟨a1, _⟩
          · have hDD := ha.1
            rw [a1, bs1, bs1]
            simp only [if_neg i10, if_true]
            rw [up_a (by first | decide | omega)]
          · rw [a1, bs1, bs1]
            simp only [if_true]
        · unfold G12_leafRead_129 G12_leafRead_148
          rcases n_cnt h hL.1 ⟨hL.2.2.2.2.1.1, by have := c_len ws; have := hL.2.2.2.2.1; first | decide | omega, hL.2.2.2.2.1.2.1⟩ with ⟨_, _, a1⟩ | ⟨_, a1⟩
          · rw [a1, bs1, bs1]
            simp only [if_neg i10, if_pos (show (-1 : Int) < 0 by first | decide | omega)]
            rw [up_i (by first | decide | omega)]
          · rw [a1, bs1, bs1]
            simp only [if_true]
      · rw [if_neg c3, if_pos (show (0 : Int) = 0 from rfl), if_neg (show ¬ v 0 9 ≤ 9999 by first | decide | omega), c_ref, bs1, gdb_t (by first | decide | omega), r_wrong, bs1, gdb_t (by first | decide | omega)]
        exact s_ref h 2 rfl rfl
    · have e8 : ¬ v 0 8 = 3 := by unfold KR SGN NumR at hk; omega
      rw [if_neg c2, if_pos rfl, if_neg e8, c_ref, bs1, gdb_t (by first | decide | omega), r_wrong, bs1, gdb_t (by first | decide | omega)]
      exact s_ref h 1 rfl rfl
theorem s_part {a : Nat} {F : Int} {ws : List Int} {L : Nat} (ha : aOk D a) (hF : 0 ≤ F) (h : PostR m v S) (hL : LI m v D a F ws L) (hw : v 0 50 = 1) : SOut (G5_takePart m a) (G12_leafRead v) m v D a F S := by
  have hk := h.2.2.2.2.2.2.2
  by_cases c1 : m 47 4 = 36
  · exact s_open ha hF h hL c1
  · have d1 : ¬ (v 0 8 = 4 ∧ v 0 9 = 40) := by
      unfold KR SGN NumR at hk
      omega
    by_cases c2 : m 47 4 = 15
    · have ek : v 0 8 = 1 ∧ v 0 9 = 17 := by
        rw [c2] at hk
        have ek : kwf 15 = 17 := by decide
        unfold KR SGN NumR at hk
        rw [ek] at hk
        omega
      by_cases c3 : m 46 5 = 0
      · have e51 : v 0 51 = 0 := by rw [← hL.2.2.2.2.2.2.1.1]; exact c3
        unfold G5_takePart G5_takePart_0 G12_leafRead G12_leafRead_0
        rw [if_neg c1, if_pos c2, if_pos c3, r_sign, if_neg d1, bs1]
        simp only [if_true]
        rw [r_key, if_pos ek, bs1]
        simp only [if_neg i10]
        rw [if_pos e51]
        exact s_leaf ha hF h hL hw
      · exact s_not ha hF h hL c2 c3
    · have d2 : ¬ (v 0 8 = 1 ∧ v 0 9 = 17) := by
        have hkb : 0 ≤ m 47 4 ∧ m 47 4 < 24 → 0 ≤ kwf (m 47 4) ∧ kwf (m 47 4) < 24 ∧ (15 ≤ m 47 4 ∧ m 47 4 ≤ 17 → 15 ≤ kwf (m 47 4) ∧ kwf (m 47 4) ≤ 17) := kwf_b
        have hlo : (m 47 4 < 15 ∨ 17 < m 47 4) → kwf (m 47 4) = m 47 4 := kwf_lo
        have k16 : m 47 4 = 16 → kwf (m 47 4) = 15 := fun q => by rw [q]; decide
        have k17 : m 47 4 = 17 → kwf (m 47 4) = 16 := fun q => by rw [q]; decide
        unfold KR SGN NumR at hk
        omega
      unfold G5_takePart G5_takePart_0 G12_leafRead G12_leafRead_0
      rw [if_neg c1, if_neg c2, r_sign, if_neg d1, bs1]
      simp only [if_true]
      rw [r_key, if_neg d2, bs1]
      simp only [if_true]
      exact s_leaf ha hF h hL hw
end Q35
/-! One joint of a law on both sides. -/
section Q36
variable {m v : Mem} {S : Int} {D : Nat}
def jOk (x : Int) : Prop := x = 16 ∨ x = 17 ∨ (26 ≤ x ∧ x ≤ 35)
theorem jOk_w {x : Int} (h : jOk x) : wOk x ∧ ¬ x = 36 ∧ ¬ x = 15 := by unfold jOk at h; unfold wOk; omega
/-- released and bound, the law's state behind it -/
theorem LI.rel {a : Nat} {F x2 : Int} {ws : List Int} {L : Nat} (ha : aOk D a) (hF : 0 ≤ F) (hx : 1 ≤ x2) (h : PostR m v S) (hL : LI m v D a F ws L) (hw : v 0 50 = 0) : ∃ m' v' ws' L', G5_release m a x2 = some m' ∧ G12_bind v x2 = some v' ∧ Fm (PRl a) m m' ∧ Fm (QRl F) v v' ∧ LI m' v' D a F ws' L' ∧ PostR m' v' S ∧ cBR ws' = cBR ws ∧ (ws' = [] ∨ ∃ x r, ws' = x :: r ∧ wSt x < x2) := by
  obtain ⟨h1, h2, h3, h4, h5, h6, h7, h8⟩ := hL
  have cl := c_len ws
  have ha' := ha
  unfold aOk at ha'
  obtain ⟨m', v', ws', L', y1, y2, y3, y4, y5, y6, y7, y8, y9, y10, y11, y12⟩ := l_rel hx hF (a := a) (by first | decide | omega) ws 1024 L m v (by first | decide | omega) h2 h3 (by first | decide | omega) (by first | decide | omega) (by first | decide | omega)
  refine ⟨m', v', ws', L', y1, y2, y3, y4, ⟨by rw [y3 46 10 (by unfold PRl; first | decide | omega)]; exact h1, y5, y6, ?_, ?_, ?_, ?_, ?_⟩, h.f y3 y4 (by intro b i q; unfold PRl; first | decide | omega) (by intro b i q; unfold QRl; first | decide | omega), y9, y10⟩
  · rw [y3 46 3 (by unfold PRl; first | decide | omega), y4 0 48 (by unfold QRl; first | decide | omega), y9]; exact h4
  · rw [y3 D 13 (by unfold PRl; first | decide | omega), y4 0 49 (by unfold QRl; first | decide | omega)]; omega
  · rw [y3 46 4 (by unfold PRl; first | decide | omega), y4 0 50 (by unfold QRl; first | decide | omega)]; exact h6
  · rw [y3 46 5 (by unfold PRl; first | decide | omega), y4 0 51 (by unfold QRl; first | decide | omega)]; exact h7
  · rw [y4 0 50 (by unfold QRl; first | decide | omega), y8]; omega
/-- the joint is counted and waits -/
theorem s_92 {a : Nat} {F tok : Int} {ws : List Int} {L : Nat} (ha : aOk D a) (hF : 0 ≤ F) (h : PostR m v S) (hL : LI m v D a F ws L) (hw : v 0 50 = 0) (hj : jOk tok) (ht : m 47 4 ≠ 39) : SOut (G5_takeJoint_92 m tok) (G12_signs_217 v (wCm tok)) m v D a F S := by
  obtain ⟨h1, h2, h3, h4, h5, h6, h7, h8⟩ := hL
  have cl := c_len ws
  have ha' := ha
  unfold aOk at ha'
  obtain ⟨w1, w2, w3⟩ := jOk_w hj
  obtain ⟨s, hs, e92, e250⟩ : ∃ s : Int, (s = 0 ∨ s = 1) ∧ (∀ u : Mem, G5_takeJoint_92 u tok = G5_takeJoint_115 (up u 46 4 1) tok s) ∧ ∀ u : Mem, (if 3 ≤ wSt tok then G12_signs_250 u 0 else G12_signs_250 u 1) = G12_signs_250 u s := by
    have : tok = 16 ∨ tok = 17 ∨ tok = 26 ∨ tok = 27 ∨ tok = 28 ∨ tok = 29 ∨ tok = 30 ∨ tok = 31 ∨ tok = 32 ∨ tok = 33 ∨ tok = 34 ∨ tok = 35 := by unfold jOk at hj; omega
    by_cases c : tok = 16 ∨ tok = 17
    · refine ⟨1, Or.inr rfl, fun u => ?_, fun u => ?_⟩
      · unfold G5_takeJoint_92 G5_takeJoint_110
        rw [wt_e]
        by_cases c16 : tok = 16
        · rw [if_pos c16]
        · rw [if_neg c16, if_pos (by first | decide | omega)]
      · rw [if_neg]
        rcases c with e | e <;> subst e <;> decide
    · refine ⟨0, Or.inl rfl, fun u => ?_, fun u => ?_⟩
      · unfold G5_takeJoint_92
        rw [wt_e, if_neg (by first | decide | omega), if_neg (by first | decide | omega)]
      · rw [if_pos]
        rcases this with e | e | e | e | e | e | e | e | e | e | e | e <;> subst e <;> first | (exact absurd (Or.inl rfl) c) | (exact absurd (Or.inr rfl) c) | decide
  rw [e92]
  unfold G5_takeJoint_115 G12_signs_217
  rw [gdb_t (by first | decide | omega), wt_e]
  have f0 : Fm (fun b i => b = 46 ∧ (i = 4 ∨ i = 5)) m (up (up m 46 4 1) 46 5 s) := (Fm.w1 (by first | decide | omega)).w (by first | decide | omega)
  have k4 : up (up m 46 4 1) 46 5 s 46 4 = 1 := by rw [up_i (by first | decide | omega), up_e]
  have k5 : up (up m 46 4 1) 46 5 s 46 5 = s := up_e
  generalize up (up m 46 4 1) 46 5 s = m0 at f0 k4 k5 ⊢
  have p0 : PostR m0 v S := h.f (Q := fun _ _ => False) f0 Fm.rf (by intro b i q; first | decide | omega) (fun b i _ => id)
  have f0' : Fm (PLw D a) m m0 := f0.mono (by intro b i q; unfold PLw; first | decide | omega)
  have e13 : m0 D 13 = m D 13 := f0 D 13 (by first | decide | omega)
  have wi0 : WI m0 v ws := h2.f (f0 46 2 (by first | decide | omega)) rfl (f0.rw1 (fun i => by first | decide | omega)) rfl
  rcases n_cw (x := tok) ha'.1 p0 (by rw [f0 46 10 (by first | decide | omega)]; exact h1) (by rw [e13]; exact ⟨h5.1, by first | decide | omega, h5.2.1⟩) wi0 (fun q => by first | decide | omega) w1 with ⟨mA, vA, m1, v1, b0, b1, b2, b3, b4, b5, b6, b7, b8, b9, b10⟩ | ⟨b1, b2⟩
  · rw [b1, bs1, b2, bs1]
    simp only [if_neg i10]
    rw [b3, bs1, b4, bs1]
    simp only [if_neg i10, wt_e]
    rw [r_rkw w1, bs1]
    dsimp only
    rw [e250]
    unfold G12_signs_250
    rw [gdb_t (by first | decide | omega), wt_e]
    have g1 : Fm (fun b i => (b = 0 ∧ (i = 46 ∨ i = 49 ∨ i = 50 ∨ i = 51)) ∨ b = 21) v (up (up v1 0 50 1) 0 51 s) := ((b6.mono (by intro b i q; first | decide | omega)).w (by first | decide | omega)).w (by first | decide | omega)
    have j50 : up (up v1 0 50 1) 0 51 s 0 50 = 1 := by rw [up_i (by first | decide | omega), up_e]
    have j51 : up (up v1 0 50 1) 0 51 s 0 51 = s := up_e
    have j49 : up (up v1 0 50 1) 0 51 s 0 49 = m0 D 13 + 1 := by rw [up_i (by first | decide | omega), up_i (by first | decide | omega)]; exact b9
    have j48 : up (up v1 0 50 1) 0 51 s 0 48 = v 0 48 := by rw [up_i (by first | decide | omega), up_i (by first | decide | omega)]; exact b6 0 48 (by first | decide | omega)
    have wi1 : WI m1 (up (up v1 0 50 1) 0 51 s) (tok :: ws) := b7.f rfl (by rw [up_i (by first | decide | omega), up_i (by first | decide | omega)]) rfl (funext fun i => by rw [up_a (by first | decide | omega), up_a (by first | decide | omega)])
    generalize up (up v1 0 50 1) 0 51 s = v2 at g1 j48 j49 j50 j51 wi1 ⊢
    have f1 : Fm (fun b i => (b = D ∧ i = 13) ∨ b = 50 ∨ (b = 46 ∧ (i = 2 ∨ i = 4 ∨ i = 5))) m m1 := (f0.mono (by intro b i q; first | decide | omega)).tr (b5.mono (by intro b i q; first | decide | omega))
    have p1 : PostR m1 v2 S := h.f f1 g1 (by intro b i q; first | decide | omega) (by intro b i q; first | decide | omega)
    obtain ⟨v3, z1, z2, z3⟩ := p1.tok
    rw [z1, bs1]
    have n1 : cNB (tok :: ws) = 1 + cNB ws := by show (if tok = 36 then 0 else 1) + cNB ws = _; rw [if_neg w2]
    have n2 : cBR (tok :: ws) = cBR ws := by show (if tok = 36 then 1 else 0) + cBR ws = _; rw [if_neg w2]; omega
    have n3 : cBN (tok :: ws) = 1 + cBN ws := by show (if tok = 36 ∨ tok = 15 then 0 else 1) + cBN ws = _; rw [if_neg (by first | decide | omega)]
    have li : LI m1 v2 D a F (tok :: ws) L := by
      refine ⟨by rw [f1 46 10 (by first | decide | omega)]; exact h1, wi1, h3.f (f1 a 1 (by first | decide | omega)) (f1.rw1 (fun i => by first | decide | omega)) (g1 0 23 (by first | decide | omega)) (g1 0 47 (by first | decide | omega)) (fun b q1 q2 q3 => g1.rw1 (fun i => by first | decide | omega)), ?_, ?_, ?_, ?_, ?_⟩
      · rw [f1 46 3 (by first | decide | omega), j48, n2]; exact h4
      · rw [b8, j49, n1]; omega
      · rw [b5 46 4 (by first | decide | omega), k4, j50]; exact ⟨rfl, Or.inr rfl⟩
      · rw [b5 46 5 (by first | decide | omega), k5, j51]; exact ⟨rfl, hs⟩
      · rw [j50, f1.rw1 (b := a + 1) (fun i => by first | decide | omega), n3]; omega
    refine ⟨m1, v3, f1.mono ?_, (g1.mono ?_).tr ((z2.mono Q7_k).mono Qk_l), by rw [f1 47 3 (by first | decide | omega)]; first | decide | omega, Or.inl ⟨rfl, rfl, ⟨tok :: ws, L, li.k ha Fm.rf (z2.mono Q7_k)⟩, z3, ht⟩⟩
    · intro b i q; unfold PLw; omega
    · intro b i q; unfold QLw; omega
  · rw [b1, bs1, b2, bs1]
    simp only [if_true]
    exact s_tr (s_ref p0 2 rfl rfl) f0' Fm.rf (by rw [f0 47 3 (by first | decide | omega)]; first | decide | omega) (f0 47 4 (by first | decide | omega))
/-- what the reference takes the sign for -/
theorem r_47 {k x : Int} (hk : KR k x (v 0 8) (v 0 9)) : (jOk k ∧ G12_signs_47 v = G12_signs_147 v (wCm k)) ∨ (¬ jOk k ∧ G12_signs_47 v = G12_signs_147 v 0) := by
  unfold G12_signs_47
  rw [r_key, bs1]
  by_cases c16 : v 0 8 = 1 ∧ v 0 9 = 15
  · rw [if_pos c16]
    simp only [if_neg i10]
    have : k = 16 := by
      have hb := KR_b hk
      have hlo : (k < 15 ∨ 17 < k) → kwf k = k := kwf_lo
      have k15 : k = 15 → kwf k = 17 := fun q => by rw [q]; decide
      have k17 : k = 17 → kwf k = 16 := fun q => by rw [q]; decide
      unfold KR SGN NumR at hk
      omega
    subst this
    exact Or.inl ⟨Or.inl rfl, rfl⟩
  · rw [if_neg c16]
    simp only [if_true]
    rw [r_key, bs1]
    by_cases c17 : v 0 8 = 1 ∧ v 0 9 = 16
    · rw [if_pos c17]
      simp only [if_neg i10]
      have : k = 17 := by
        have hb := KR_b hk
        have hlo : (k < 15 ∨ 17 < k) → kwf k = k := kwf_lo
        have k15 : k = 15 → kwf k = 17 := fun q => by rw [q]; decide
        have k17 : k = 16 → kwf k = 15 := fun q => by rw [q]; decide
        unfold KR SGN NumR at hk
        omega
      subst this
      exact Or.inl ⟨Or.inr (Or.inl rfl), rfl⟩
    · rw [if_neg c17]
      simp only [if_true]
      have n16 : ¬ k = 16 := fun q => c16 (by
        have ek : kwf 16 = 15 := by decide
        rw [q] at hk
        unfold KR SGN NumR at hk
        rw [ek] at hk
        omega)
      have n17 : ¬ k = 17 := fun q => c17 (by
        have ek : kwf 17 = 16 := by decide
        rw [q] at hk
        unfold KR SGN NumR at hk
        rw [ek] at hk
        omega)
      by_cases c5 : v 0 8 = 5
      · have hh : 26 ≤ k ∧ k ≤ 31 ∧ v 0 9 = k - 26 := by unfold KR SGN NumR at hk; omega
        rw [if_pos c5, gd3_t (by first | decide | omega)]
        refine Or.inl ⟨by unfold jOk; first | decide | omega, ?_⟩
        have : wCm k = 5 + v 0 9 := by
          unfold wCm
          rw [if_neg (by first | decide | omega), if_neg (by first | decide | omega), if_neg (by first | decide | omega), if_neg (by first | decide | omega)]; omega
        rw [this]
      · rw [if_neg c5, r_sign, bs1]
        by_cases c43 : v 0 8 = 4 ∧ v 0 9 = 43
        · rw [if_pos c43]
          simp only [if_neg i10]
          have : k = 32 := by unfold KR SGN NumR at hk; omega
          subst this
          exact Or.inl ⟨by unfold jOk; first | decide | omega, rfl⟩
        · rw [if_neg c43]
          simp only [if_true]
          rw [r_sign, bs1]
          by_cases c45 : v 0 8 = 4 ∧ v 0 9 = 45
          · rw [if_pos c45]
            simp only [if_neg i10]
            have : k = 33 := by unfold KR SGN NumR at hk; omega
            subst this
            exact Or.inl ⟨by unfold jOk; first | decide | omega, rfl⟩
          · rw [if_neg c45]
            simp only [if_true]
            rw [r_sign, bs1]
            by_cases c42 : v 0 8 = 4 ∧ v 0 9 = 42
            · rw [if_pos c42]
              simp only [if_neg i10]
              have : k = 34 := by unfold KR SGN NumR at hk; omega
              subst this
              exact Or.inl ⟨by unfold jOk; first | decide | omega, rfl⟩
            · rw [if_neg c42]
              simp only [if_true]
              rw [r_sign, bs1]
              by_cases c47 : v 0 8 = 4 ∧ v 0 9 = 47
              · rw [if_pos c47]
                simp only [if_neg i10]
                have : k = 35 := by unfold KR SGN NumR at hk; omega
                subst this
                exact Or.inl ⟨by unfold jOk; first | decide | omega, rfl⟩
              · rw [if_neg c47]
                simp only [if_true]
                refine Or.inr ⟨?_, by first | rfl | trivial⟩
                unfold jOk
                unfold KR SGN NumR at hk
                omega
end Q36
/-! The joints of a law, and the loop over all its pieces. -/
section Q37
variable {m v : Mem} {S : Int} {D : Nat}
theorem jOk_s {x : Int} (h : ¬ jOk x) : wSt x = 0 ∨ x = 15 := by
  by_cases c : x = 15
  · exact Or.inr c
  · left
    unfold jOk at h
    unfold wSt
    rw [if_neg c, if_neg (by first | decide | omega), if_neg (by first | decide | omega), if_neg (by first | decide | omega), if_neg (by first | decide | omega), if_neg (by first | decide | omega)]
theorem s_close {a : Nat} {F : Int} {ws : List Int} {L : Nat} (ha : aOk D a) (hF : 0 ≤ F) (h : PostR m v S) (hL : LI m v D a F ws L) (hw : v 0 50 = 0) (c37 : m 47 4 = 37) : SOut (G5_takeJoint m a) (G12_signs v) m v D a F S := by
  have hk := h.2.2.2.2.2.2.2
  have e8 : v 0 8 = 4 ∧ v 0 9 = 41 := by unfold KR SGN NumR at hk; omega
  have ha' := ha
  unfold aOk at ha'
  have hL' := hL
  obtain ⟨h1, h2, h3, h4, h5, h6, h7, h8⟩ := hL'
  have cl := c_len ws
  unfold G5_takeJoint G5_takeJoint_0 G5_takeClose G5_takeClose_0 G12_signs G12_signs_0
  rw [if_pos c37, r_sign, if_pos e8, bs1]
  simp only [if_neg i10]
  rw [h4.1, h4.2.1]
  by_cases c0 : cBR ws = 0
  · rw [if_pos c0, if_pos (show cBR ws ≤ 0 by first | decide | omega), c_ref, bs1, gdb_t (by first | decide | omega), bs1, gdb_t (by first | decide | omega)]
    rcases r_47 hk with ⟨j, _⟩ | ⟨_, j⟩
    · unfold jOk at j; omega
    · rw [j]
      unfold G12_signs_147
      rw [if_pos rfl, r_wrong, bs1, gdb_t (by first | decide | omega)]
      exact s_ref h 1 rfl rfl
  · rw [if_neg c0, if_neg (show ¬ cBR ws ≤ 0 by first | decide | omega)]
    obtain ⟨m1, v1, ws1, L1, y1, y2, y3, y4, y5, y6, y7, y8⟩ := hL.rel ha hF (x2 := 1) (by first | decide | omega) h hw
    rw [y1, bs1, y2, bs1]
    rcases y8 with q | ⟨x, r, q, qx⟩
    · rw [q] at y7
      have : cBR ([] : List Int) = 0 := rfl
      omega
    · obtain ⟨g1, g2, g3, g4, g5, g6, g7, g8⟩ := y5
      have ok : wOk x := g2.2.2.2.2 x (by rw [q]; simp)
      have x36 : x = 36 := (wSt_b ok).2.2.mp (by have := (wSt_b ok).1; first | decide | omega)
      subst x36
      have n1 : cNB (36 :: r) = cNB r := by show (if (36 : Int) = 36 then 0 else 1) + cNB r = _; rw [if_pos rfl]; omega
      have n2 : cBR (36 :: r) = cBR r + 1 := by show (if (36 : Int) = 36 then 1 else 0) + cBR r = _; rw [if_pos rfl]; omega
      have n3 : cBN (36 :: r) = cBN r := by show (if (36 : Int) = 36 ∨ (36 : Int) = 15 then 0 else 1) + cBN r = _; rw [if_pos (Or.inl rfl)]; omega
      have hl : ((36 :: r).length : Int) = r.length + 1 := by simp
      have er : (r.length : Int) + 1 - 1 = r.length := by omega
      have eb : cBR r + 1 - 1 = cBR r := by omega
      rw [q] at g2 g4 g5 g8
      rw [n1] at g5
      rw [n2] at g4
      rw [n3] at g8
      have cr := c_len r
      have w1 : m1 46 2 = r.length + 1 := by rw [g2.1]; exact hl
      have w2 : v1 0 46 = r.length + 1 := by rw [g2.2.1]; exact hl
      have u1 : up m1 46 3 (cBR r) 46 2 = r.length + 1 := by rw [up_i (by first | decide | omega)]; exact w1
      have u2 : up v1 0 46 r.length 0 48 = cBR r + 1 := by rw [up_i (by first | decide | omega)]; exact g4.2.1
      rw [g4.1, eb, gd3_t (by first | decide | omega), wt_e, u1, if_neg (by first | decide | omega), er, gd3_t (by first | decide | omega), wt_e, bs1, gdb_t (Or.inr rfl), w2, er, gd3_t (by first | decide | omega), wt_e, u2, eb, gd3_t (by first | decide | omega), wt_e]
      have f2 : Fm (fun b i => b = 46 ∧ (i = 2 ∨ i = 3)) m1 (up (up m1 46 3 (cBR r)) 46 2 r.length) := (Fm.w1 (by first | decide | omega)).w (by first | decide | omega)
      have g2' : Fm (fun b i => b = 0 ∧ (i = 46 ∨ i = 48)) v1 (up (up v1 0 46 r.length) 0 48 (cBR r)) := (Fm.w1 (by first | decide | omega)).w (by first | decide | omega)
      have k2 : up (up m1 46 3 (cBR r)) 46 2 r.length 46 2 = r.length := up_e
      have k3 : up (up m1 46 3 (cBR r)) 46 2 r.length 46 3 = cBR r := by rw [up_i (by first | decide | omega), up_e]
      have j2 : up (up v1 0 46 r.length) 0 48 (cBR r) 0 46 = r.length := by rw [up_i (by first | decide | omega), up_e]
      have j3 : up (up v1 0 46 r.length) 0 48 (cBR r) 0 48 = cBR r := up_e
      generalize up (up m1 46 3 (cBR r)) 46 2 r.length = m2 at f2 k2 k3 ⊢
      generalize up (up v1 0 46 r.length) 0 48 (cBR r) = v2 at g2' j2 j3 ⊢
      have p2 : PostR m2 v2 S := y6.f f2 g2' (by intro b i q; first | decide | omega) (by intro b i q; first | decide | omega)
      obtain ⟨v3, z1, z2, z3⟩ := p2.tok
      have li : LI m2 v2 D a F r L1 := by
        refine ⟨by rw [f2 46 10 (by first | decide | omega)]; exact g1, ⟨k2, j2, by rw [f2.rw1 (b := 50) (fun i => by first | decide | omega)]; exact g2.2.2.1.2, by rw [g2'.rw1 (b := 21) (fun i => by first | decide | omega)]; exact g2.2.2.2.1.2, fun x z => g2.2.2.2.2 x (List.mem_cons_of_mem _ z)⟩, g3.f (f2 a 1 (by first | decide | omega)) (f2.rw1 (fun i => by first | decide | omega)) (g2' 0 23 (by first | decide | omega)) (g2' 0 47 (by first | decide | omega)) (fun b q1 q2 q3 => g2'.rw1 (fun i => by first | decide | omega)), ⟨k3, j3, by first | decide | omega⟩, ?_, ?_, ?_, ?_⟩
        · rw [g2' 0 49 (by first | decide | omega), f2 D 13 (by first | decide | omega)]; exact g5
        · rw [g2' 0 50 (by first | decide | omega), f2 46 4 (by first | decide | omega)]; exact g6
        · rw [g2' 0 51 (by first | decide | omega), f2 46 5 (by first | decide | omega)]; exact g7
        · rw [g2' 0 50 (by first | decide | omega), f2.rw1 (b := a + 1) (fun i => by first | decide | omega)]; exact g8
      rw [z1, bs1]
      have e3 : m2 47 3 = m 47 3 := by rw [f2 47 3 (by first | decide | omega), y3 47 3 (by unfold PRl; first | decide | omega)]
      refine ⟨m2, v3, (y3.mono PRl_l).tr (f2.mono ?_), ((y4.mono QRl_l).tr (g2'.mono ?_)).tr ((z2.mono Q7_k).mono Qk_l), by first | decide | omega, Or.inl ⟨rfl, rfl, ⟨r, L1, li.k ha Fm.rf (z2.mono Q7_k)⟩, z3, by first | decide | omega⟩⟩
      · intro b i q; unfold PLw; omega
      · intro b i q; unfold QLw; omega
theorem s_joint {a : Nat} {F : Int} {ws : List Int} {L : Nat} (ha : aOk D a) (hF : 0 ≤ F) (h : PostR m v S) (hL : LI m v D a F ws L) (hw : v 0 50 = 0) : SOut (G5_takeJoint m a) (G12_signs v) m v D a F S := by
  by_cases c37 : m 47 4 = 37
  · exact s_close ha hF h hL hw c37
  have hk := h.2.2.2.2.2.2.2
  have e8 : ¬ (v 0 8 = 4 ∧ v 0 9 = 41) := by unfold KR SGN NumR at hk; omega
  have ha' := ha
  unfold aOk at ha'
  unfold G5_takeJoint G5_takeJoint_0 G12_signs G12_signs_0
  rw [if_neg c37, r_sign, if_neg e8, bs1, c_strg, bs1]
  simp only [if_true]
  rcases r_47 hk with ⟨j, ej⟩ | ⟨j, ej⟩
  · obtain ⟨w1, w2, w3⟩ := jOk_w j
    have st := wSt_b w1
    have s28 : wSt 28 = 4 := by decide
    have cm0 : ¬ wCm (m 47 4) = 0 := by unfold wCm; unfold jOk at j; repeat (first | omega | split)
    rw [ej, if_neg (show ¬ wSt (m 47 4) = 0 by first | decide | omega), if_neg w3, c_strg, bs1, s28]
    unfold G12_signs_147
    rw [if_neg cm0, r_rkw w1, bs1]
    dsimp only
    by_cases c4 : wSt (m 47 4) = 4
    · rw [if_pos c4, if_pos c4]
      unfold G5_takeJoint_55 G5_takeJoint_71 G12_signs_175
      rw [if_neg i10, c4, gd3_t (by first | decide | omega), show (4 : Int) + 1 = 5 by first | decide | omega]
      obtain ⟨m1, v1, ws1, L1, y1, y2, y3, y4, y5, y6, y7, y8⟩ := hL.rel ha hF (x2 := 5) (by first | decide | omega) h hw
      have e50 : v1 0 50 = 0 := by rw [y4 0 50 (by unfold QRl; first | decide | omega)]; exact hw
      have e47 : m1 47 4 = m 47 4 := y3 47 4 (by unfold PRl; first | decide | omega)
      rw [y1, bs1, y2, bs1, if_neg i10, r_rkw w1, bs1]
      simp only [if_pos c4]
      refine s_tr (m1 := m1) (v1 := v1) ?_ (y3.mono PRl_l) (y4.mono QRl_l) (by rw [y3 47 3 (by unfold PRl; first | decide | omega)]; first | decide | omega) e47
      have fin : SOut (G5_takeJoint_92 m1 (m 47 4)) (G12_signs_217 v1 (wCm (m 47 4))) m1 v1 D a F S := s_92 ha hF y6 y5 e50 j (by unfold jOk at j; first | decide | omega)
      unfold G5_waitsForLike G5_waitsForLike_0
      rcases ws1 with _ | ⟨x, r⟩
      · have w1 : m1 46 2 = 0 := y5.2.1.1
        have w2 : v1 0 46 = 0 := y5.2.1.2.1
        rw [w1, if_pos (by first | decide | omega), bs1]
        simp only [if_true]
        rw [w2, if_pos (by first | decide | omega)]
        exact fin
      · have hl : ((x :: r).length : Int) = r.length + 1 := by simp
        have er : (r.length : Int) + 1 - 1 = r.length := by omega
        have w1' : m1 46 2 = r.length + 1 := by rw [y5.2.1.1]; exact hl
        have w2' : v1 0 46 = r.length + 1 := by rw [y5.2.1.2.1]; exact hl
        have w3' : m1 50 r.length = x := y5.2.1.2.2.1.1
        have w4' : v1 21 r.length = wCm x := by have z := y5.2.1.2.2.2.1.1; rw [List.length_map] at z; exact z
        have ok : wOk x := y5.2.1.2.2.2.2 x (by simp)
        have cr := c_len (x :: r)
        obtain ⟨h1, h2, h3, h4, h5, h6, h7, h8⟩ := y5
        obtain ⟨_, hF2, _⟩ := h3
        have hL0 : (0 : Int) ≤ L1 := by omega
        rw [w1', if_neg (show ¬ (r.length : Int) + 1 ≤ 0 by first | decide | omega), er, gdx_t (by first | decide | omega), w3', c_strg, bs1, c_strg, bs1, s28, w2', if_neg (show ¬ (r.length : Int) + 1 ≤ 0 by first | decide | omega), er, gdx_t (by first | decide | omega), w4', r_rkw ok, bs1]
        dsimp only
        by_cases c44 : wSt x = 4
        · rw [if_pos c44, if_pos c44, bs1, if_neg i10, c_ref, bs1, gdb_t (by first | decide | omega), r_wrong, bs1, gdb_t (by first | decide | omega)]
          exact s_ref y6 1 rfl rfl
        · rw [if_neg c44, if_neg c44, bs1, if_pos rfl]
          exact fin
    · rw [if_neg c4, if_neg c4]
      unfold G5_takeJoint_55 G5_takeJoint_71 G12_signs_175
      rw [if_pos rfl, r_rkw w1, bs1]
      dsimp only
      obtain ⟨m1, v1, ws1, L1, y1, y2, y3, y4, y5, y6, y7, y8⟩ := hL.rel ha hF (x2 := wSt (m 47 4)) (by first | decide | omega) h hw
      have e50 : v1 0 50 = 0 := by rw [y4 0 50 (by unfold QRl; first | decide | omega)]; exact hw
      have e47 : m1 47 4 = m 47 4 := y3 47 4 (by unfold PRl; first | decide | omega)
      rw [y1, bs1, y2, bs1, if_pos rfl, r_rkw w1, bs1]
      dsimp only
      rw [if_neg c4]
      exact s_tr (s_92 ha hF y6 y5 e50 j (by unfold jOk at j; first | decide | omega)) (y3.mono PRl_l) (y4.mono QRl_l) (by rw [y3 47 3 (by unfold PRl; first | decide | omega)]; first | decide | omega) e47
  · rw [ej]
    unfold G12_signs_147
    have e35 : G5_takeJoint_35 m = some (0, up (up m 46 8 1) 46 9 (m 47 5)) := by unfold G5_takeJoint_35; rw [c_ref, bs1, gdb_t (by first | decide | omega)]
    rw [if_pos (show (0 : Int) = 0 from rfl), r_wrong, bs1, gdb_t (by first | decide | omega)]
    rcases jOk_s j with q | q
    · rw [if_pos q, e35]
      exact s_ref h 1 rfl rfl
    · have : ¬ wSt (m 47 4) = 0 := by rw [q]; decide
      rw [if_neg this, if_pos q, e35]
      exact s_ref h 1 rfl rfl
/-- all the pieces of a law -/
theorem l_sumL {a : Nat} {F : Int} (ha : aOk D a) (hF : 0 ≤ F) (hS : S ≤ 700) : ∀ (d n : Nat) (x : Int) (m v : Mem) (ws : List Int) (L : Nat), (701 - x).toNat = d → d < n → 0 ≤ x → x ≤ m 47 3 → PreR m v S → LI m v D a F ws L → ∃ m' v', Fm (PLw D a) m m' ∧ Fm (QLw F) v v' ∧ m 47 3 ≤ m' 47 3 ∧ ((G5_readLaw_33 n m a x = some (1, m') ∧ G12_sumRead_25 n v = some (1, v') ∧ PostR m' v' S ∧ m' 47 4 = 38 ∧ v' 0 50 = 0 ∧ ∃ L', LI m' v' D a F [] L') ∨ (G5_readLaw_33 n m a x = some (0, m') ∧ G12_sumRead_25 n v = some (0, v') ∧ FLT m' v')) := by
  intro d
  induction d with
  | zero =>
    intro n x m v ws L h1 h2 h3 h4 p hL
    have := p.2.2.2.2.1
    omega
  | succ d ih =>
    intro n x m v ws L h1 h2 h3 h4 p hL
    obtain ⟨n, rfl⟩ : ∃ j, n = j + 1 := ⟨n - 1, by first | decide | omega⟩
    have hp := p.2.2.2.2.1
    obtain ⟨m1, e1, f1, p1, q1, q2⟩ := p.adv
    have f1' := f1.mono P47_k
    have hL1 := hL.k ha f1' (Fm.rf (m := v))
    have hk := p1.2.2.2.2.2.2.2
    have e6 := hL1.2.2.2.2.2.1
    have e4 := hL1.2.2.2.1
    have cl := c_len ws
    -- a step was made
    have go : ∀ X Y : Option (Int × Mem), SOut X Y m1 v D a F S → ∃ m' v', Fm (PLw D a) m m' ∧ Fm (QLw F) v v' ∧ m 47 3 ≤ m' 47 3 ∧ (((X.bind fun o => if o.1 = 0 then some (0, o.2) else gd3 (x + 1) (G5_readLaw_33 n o.2 a (x + 1))) = some (1, m') ∧ (Y.bind fun o => if o.1 = 0 then some (0, o.2) else G12_sumRead_25 n o.2) = some (1, v') ∧ PostR m' v' S ∧ m' 47 4 = 38 ∧ v' 0 50 = 0 ∧ ∃ L', LI m' v' D a F [] L') ∨ ((X.bind fun o => if o.1 = 0 then some (0, o.2) else gd3 (x + 1) (G5_readLaw_33 n o.2 a (x + 1))) = some (0, m') ∧ (Y.bind fun o => if o.1 = 0 then some (0, o.2) else G12_sumRead_25 n o.2) = some (0, v') ∧ FLT m' v')) := by
      intro X Y hs
      obtain ⟨m2, v2, a1, a2, a3, k⟩ := hs
      rcases k with ⟨k1, k2, ⟨ws2, L2, k3⟩, k4, k5⟩ | ⟨k1, k2, k3⟩
      · have hp2 := k4.2.2.2.2.1
        have q3 := q2 k5
        obtain ⟨m', v', b1, b2, b3, b4⟩ := ih n (x + 1) m2 v2 ws2 L2 (by first | decide | omega) (by first | decide | omega) (by first | decide | omega) (by first | decide | omega) k4 k3
        refine ⟨m', v', ((f1'.mono Pk_l).tr a1).tr b1, a2.tr b2, by first | decide | omega, ?_⟩
        rw [k1, k2, bs1, bs1]
        simp only [if_neg i10]
        rw [gd3_t (by first | decide | omega)]
        exact b4
      · refine ⟨m2, v2, (f1'.mono Pk_l).tr a1, a2, by first | decide | omega, Or.inr ?_⟩
        rw [k1, k2, bs1, bs1]
        simp only [if_true]
        exact ⟨by first | rfl | trivial, by first | rfl | trivial, k3⟩
    rw [G5_readLaw_33, G12_sumRead_25, if_neg (by first | decide | omega), e1, bs1, r_sign, bs1]
    have hsgn : (v 0 8 = 4 ∧ v 0 9 = 59) ↔ m1 47 4 = 38 := by unfold KR SGN NumR at hk; omega
    by_cases c : m1 46 4 = 0 ∧ m1 46 3 = 0 ∧ m1 47 4 = 38
    · have e50 : v 0 50 = 0 := by omega
      obtain ⟨m2, v2, ws2, L2, y1, y2, y3, y4, y5, y6, y7, y8⟩ := hL1.rel ha hF (x2 := 1) (by first | decide | omega) p1 e50
      have hn : ws2 = [] := by
        rcases y8 with q | ⟨z, r, q, qx⟩
        · exact q
        · have ok : wOk z := y5.2.1.2.2.2.2 z (by rw [q]; simp)
          have z36 : z = 36 := (wSt_b ok).2.2.mp (by have := (wSt_b ok).1; first | decide | omega)
          have n2 : cBR ws2 = cBR r + 1 := by rw [q]; show (if z = 36 then 1 else 0) + cBR r = _; rw [if_pos z36]; omega
          have := c_len r
          omega
      rw [hn] at y5
      have e18 : v 0 48 ≤ 0 := by omega
      rw [if_pos c.1, if_pos c.2.1, if_pos c.2.2, if_pos (hsgn.mpr c.2.2), y1, bs1]
      simp only [if_neg i10]
      rw [if_pos e50, if_pos e18, y2, bs1]
      have ha' := ha
      unfold aOk at ha'
      exact ⟨m2, v2, (f1'.mono Pk_l).tr (y3.mono PRl_l), y4.mono QRl_l, by rw [y3 47 3 (by unfold PRl; first | decide | omega)]; first | decide | omega, Or.inl ⟨rfl, rfl, y6, by rw [y3 47 4 (by unfold PRl; first | decide | omega)]; exact c.2.2, by rw [y4 0 50 (by unfold QRl; first | decide | omega)]; exact e50, L2, y5⟩⟩
    · have cX : ∀ X Y : Option (Int × Mem), (if m1 46 4 = 0 then if m1 46 3 = 0 then if m1 47 4 = 38 then Y else X else X else X) = X := fun X Y => by
        by_cases z1 : m1 46 4 = 0
        · rw [if_pos z1]
          by_cases z2 : m1 46 3 = 0
          · rw [if_pos z2, if_neg (fun z3 => c ⟨z1, z2, z3⟩)]
          · rw [if_neg z2]
        · rw [if_neg z1]
      have cY : ∀ X Y : Option (Int × Mem), (if (if v 0 8 = 4 ∧ v 0 9 = 59 then (1 : Int) else 0) = 0 then X else if v 0 50 = 0 then if v 0 48 ≤ 0 then Y else X else X) = X := fun X Y => by
        by_cases z1 : v 0 8 = 4 ∧ v 0 9 = 59
        · rw [if_pos z1, if_neg i10]
          by_cases z2 : v 0 50 = 0
          · rw [if_pos z2, if_neg]
            intro z3
            exact c ⟨by first | decide | omega, by first | decide | omega, hsgn.mp z1⟩
          · rw [if_neg z2]
        · rw [if_neg z1, if_pos rfl]
      dsimp only
      rw [cX, cY]
      unfold G5_readLaw_81 G12_sumRead_48
      by_cases c4 : v 0 50 = 0
      · rw [if_pos (show m1 46 4 = 0 by first | decide | omega), if_pos c4]
        exact go _ _ (s_joint ha hF p1 hL1 c4)
      · rw [if_neg (show ¬ m1 46 4 = 0 by first | decide | omega), if_neg c4]
        exact go _ _ (s_part ha hF p1 hL1 (by first | decide | omega))
end Q37
