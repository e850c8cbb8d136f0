section Q32
variable {m v : Mem} {S : Int} {D : Nat}
/-- one more knot on both sides -/
theorem KN_grow {a : Nat} {F : Int} {L : Nat} {st : List Int} {y c p q : Int} (hm : m a 1 = L) (hv : v 0 23 = F + L) (h47 : v 0 47 = st.length) (hs : stk (v 22) (st.map (fun x => F + x))) (hkv : ∀ j : Nat, j < L → KV (m (a + 1)) j) (hnd : ∀ j : Nat, j < L → NodeR (m (a + 1)) (kd v) F j) (hF : 0 ≤ F ∧ F + L < 64 ∧ st.length < 96) (e : ∀ kn' : Int → Int, kn' L = y → ist kn' L = ist (m (a + 1)) L → ist kn' (L + 1) = (L : Int) :: st ∧ KV kn' L ∧ ∀ u : Mem, u 18 (F + L) = c → u 19 (F + L) = p → u 20 (F + L) = q → NodeR kn' u F L) : ∃ m' v', G2_add m a y = some m' ∧ G12_grown v c p q = some v' ∧ Fm (fun b i => (b = a ∧ i = 1) ∨ (b = a + 1 ∧ i = L)) m m' ∧ Fm (QG F) v v' ∧ KN2 m' v' a F (L + 1) ∧ (ist (m' (a + 1)) (L + 1)).length = st.length + 1 := by
  have g1 := c_add2 (m := m) (a := a) (x := y) (by first | decide | omega)
  have g2 := r_grown (v := v) (c := c) (p := p) (q := q) hv h47 (by first | decide | omega) (by first | decide | omega)
  rw [hm] at g1
  have f1 : Fm (fun b i => (b = a ∧ i = 1) ∨ (b = a + 1 ∧ i = (L : Int))) m (up (up m (a + 1) L y) a 1 (L + 1)) := (Fm.w1 (by first | decide | omega)).w (by first | decide | omega)
  have k1 : up (up m (a + 1) L y) a 1 (L + 1) a 1 = L + 1 := up_e
  have k2 : up (up m (a + 1) L y) a 1 (L + 1) (a + 1) L = y := by rw [up_a (by first | decide | omega), up_e]
  generalize up (up m (a + 1) L y) a 1 (L + 1) = m' at g1 f1 k1 k2
  have f2 : Fm (QG F) v (up (up (up (up (up (up v 18 (64 + (F + L)) c) 19 (64 + (F + L)) p) 20 (64 + (F + L)) q) 22 st.length (F + L)) 0 47 (st.length + 1)) 0 23 (F + L + 1)) := (((((Fm.w1 (by unfold QG; first | decide | omega)).w (by unfold QG; first | decide | omega)).w (by unfold QG; first | decide | omega)).w (by unfold QG; first | decide | omega)).w (by unfold QG; first | decide | omega)).w (by unfold QG; first | decide | omega)
  have j1 : up (up (up (up (up (up v 18 (64 + (F + L)) c) 19 (64 + (F + L)) p) 20 (64 + (F + L)) q) 22 st.length (F + L)) 0 47 (st.length + 1)) 0 23 (F + L + 1) 0 23 = F + L + 1 := up_e
  have j2 : up (up (up (up (up (up v 18 (64 + (F + L)) c) 19 (64 + (F + L)) p) 20 (64 + (F + L)) q) 22 st.length (F + L)) 0 47 (st.length + 1)) 0 23 (F + L + 1) 0 47 = st.length + 1 := by rw [up_i (by first | decide | omega), up_e]
  have j3 : up (up (up (up (up (up v 18 (64 + (F + L)) c) 19 (64 + (F + L)) p) 20 (64 + (F + L)) q) 22 st.length (F + L)) 0 47 (st.length + 1)) 0 23 (F + L + 1) 22 st.length = F + L := by rw [up_a (by first | decide | omega), up_a (by first | decide | omega), up_e]
  have j4 : ∀ j, j ≠ (st.length : Int) → up (up (up (up (up (up v 18 (64 + (F + L)) c) 19 (64 + (F + L)) p) 20 (64 + (F + L)) q) 22 st.length (F + L)) 0 47 (st.length + 1)) 0 23 (F + L + 1) 22 j = v 22 j := fun j z => by rw [up_a (by first | decide | omega), up_a (by first | decide | omega), up_i z, up_a (by first | decide | omega), up_a (by first | decide | omega), up_a (by first | decide | omega)]
  have j5 : up (up (up (up (up (up v 18 (64 + (F + L)) c) 19 (64 + (F + L)) p) 20 (64 + (F + L)) q) 22 st.length (F + L)) 0 47 (st.length + 1)) 0 23 (F + L + 1) 18 (64 + (F + L)) = c := by rw [up_a (by first | decide | omega), up_a (by first | decide | omega), up_a (by first | decide | omega), up_a (by first | decide | omega), up_a (by first | decide | omega), up_e]
  have j6 : up (up (up (up (up (up v 18 (64 + (F + L)) c) 19 (64 + (F + L)) p) 20 (64 + (F + L)) q) 22 st.length (F + L)) 0 47 (st.length + 1)) 0 23 (F + L + 1) 19 (64 + (F + L)) = p := by rw [up_a (by first | decide | omega), up_a (by first | decide | omega), up_a (by first | decide | omega), up_a (by first | decide | omega), up_e]
  have j7 : up (up (up (up (up (up v 18 (64 + (F + L)) c) 19 (64 + (F + L)) p) 20 (64 + (F + L)) q) 22 st.length (F + L)) 0 47 (st.length + 1)) 0 23 (F + L + 1) 20 (64 + (F + L)) = q := by rw [up_a (by first | decide | omega), up_a (by first | decide | omega), up_a (by first | decide | omega), up_e]
  have j8 : ∀ (b : Nat) j, 18 ≤ b ∧ b ≤ 20 → j ≠ 64 + (F + L) → up (up (up (up (up (up v 18 (64 + (F + L)) c) 19 (64 + (F + L)) p) 20 (64 + (F + L)) q) 22 st.length (F + L)) 0 47 (st.length + 1)) 0 23 (F + L + 1) b j = v b j := by
    intro b j hb z
    rw [up_a (by first | decide | omega), up_a (by first | decide | omega), up_a (by first | decide | omega)]
    rcases (show b = 18 ∨ b = 19 ∨ b = 20 by first | decide | omega) with e | e | e <;> subst e
    · rw [up_a (by first | decide | omega), up_a (by first | decide | omega), up_i z]
    · rw [up_a (by first | decide | omega), up_i z, up_a (by first | decide | omega)]
    · rw [up_i z, up_a (by first | decide | omega), up_a (by first | decide | omega)]
  generalize up (up (up (up (up (up v 18 (64 + (F + L)) c) 19 (64 + (F + L)) p) 20 (64 + (F + L)) q) 22 st.length (F + L)) 0 47 (st.length + 1)) 0 23 (F + L + 1) = v' at g2 f2 j1 j2 j3 j4 j5 j6 j7 j8
  have kk : ∀ j : Nat, j < L → m' (a + 1) j = m (a + 1) j := fun j z => f1 (a + 1) j (by first | decide | omega)
  obtain ⟨e1, e2, e3⟩ := e (m' (a + 1)) k2 (ist_c kk)
  have sh18 : ∀ (b : Nat) i, 18 ≤ b ∧ b ≤ 20 → kd v' b i = v' b (64 + i) := fun b i z => by
    show v' b (sh b i) = _
    have : sh b i = 64 + i := by unfold sh; rw [if_neg (by first | decide | omega), if_neg (by first | decide | omega), if_neg (by first | decide | omega), if_neg (by first | decide | omega), if_neg (by first | decide | omega), if_neg (by first | decide | omega), if_pos (by first | decide | omega)]
    rw [this]
  have sh18' : ∀ (b : Nat) i, 18 ≤ b ∧ b ≤ 20 → kd v b i = v b (64 + i) := fun b i z => by
    show v b (sh b i) = _
    have : sh b i = 64 + i := by unfold sh; rw [if_neg (by first | decide | omega), if_neg (by first | decide | omega), if_neg (by first | decide | omega), if_neg (by first | decide | omega), if_neg (by first | decide | omega), if_neg (by first | decide | omega), if_pos (by first | decide | omega)]
    rw [this]
  refine ⟨m', v', g1, g2, f1, f2, ⟨by rw [k1]; first | decide | omega, by rw [j1]; first | decide | omega, ?_, ?_, fun j z => ?_, fun j z => ?_⟩, by rw [e1]; rfl⟩
  · rw [e1, j2]; rfl
  · rw [e1]
    refine ⟨?_, stk_up hs (fun j z1 z2 => j4 j ?_)⟩
    · rw [List.length_map]; exact j3
    · rw [List.length_map] at z2; omega
  · by_cases z2 : j = L
    · rw [z2]; exact e2
    · exact (hkv j (by first | decide | omega)).c (fun i z3 => kk i (by first | decide | omega))
  · by_cases z2 : j = L
    · rw [z2]
      exact e3 (kd v') (by rw [sh18 _ _ (by first | decide | omega)]; exact j5) (by rw [sh18 _ _ (by first | decide | omega)]; exact j6) (by rw [sh18 _ _ (by first | decide | omega)]; exact j7)
    · refine (hnd j (by first | decide | omega)).c (fun i z3 => kk i (by first | decide | omega)) ?_ ?_ ?_
      · rw [sh18 _ _ (by first | decide | omega), sh18' _ _ (by first | decide | omega)]; exact j8 18 _ (by first | decide | omega) (by first | decide | omega)
      · rw [sh18 _ _ (by first | decide | omega), sh18' _ _ (by first | decide | omega)]; exact j8 19 _ (by first | decide | omega) (by first | decide | omega)
      · rw [sh18 _ _ (by first | decide | omega), sh18' _ _ (by first | decide | omega)]; exact j8 20 _ (by first | decide | omega) (by first | decide | omega)
def WI (m v : Mem) (ws : List Int) : Prop := m 46 2 = ws.length ∧ v 0 46 = ws.length ∧ stk (m 50) ws ∧ stk (v 21) (ws.map wCm) ∧ ∀ x ∈ ws, wOk x
end Q32
/-! What waits is bound, on both sides. -/
section Q33
variable {m v : Mem} {S : Int} {D : Nat}
theorem r_drop {h : Int} (e : v 0 47 = h + 1) (hh : 0 ≤ h ∧ h < 96) : G12_dropHeld v = some (v 22 h, up v 0 47 h) := by
  unfold G12_dropHeld G12_dropHeld_0
  have e1 : h + 1 - 1 = h := by omega
  rw [e, gd3_t (by first | decide | omega), e1, wt_e, up_e, gdx_t hh, up_a (by first | decide | omega)]
theorem wCm_o {x : Int} (h : wOk x) (c15 : ¬ x = 15) (c36 : ¬ x = 36) : ¬ wCm x = 2 ∧ wCm x = opM (10000 + x) := by
  have : x = 16 ∨ x = 17 ∨ x = 26 ∨ x = 27 ∨ x = 28 ∨ x = 29 ∨ x = 30 ∨ x = 31 ∨ x = 32 ∨ x = 33 ∨ x = 34 ∨ x = 35 := by unfold wOk at h; omega
  rcases this with e | e | e | e | e | e | e | e | e | e | e | e <;> subst e <;> decide
def PRl (a : Nat) : Nat → Int → Prop := fun b i => (b = 46 ∧ i = 2) ∨ (b = a ∧ i = 1) ∨ b = a + 1
def QRl (F : Int) : Nat → Int → Prop := fun b i => (b = 0 ∧ (i = 23 ∨ i = 46 ∨ i = 47)) ∨ ((18 ≤ b ∧ b ≤ 20) ∧ 64 + F ≤ i) ∨ b = 22
theorem KN2.f {m' v' : Mem} {a : Nat} {F : Int} {L : Nat} (h : KN2 m v a F L) (e1 : m' a 1 = m a 1) (e2 : m' (a + 1) = m (a + 1)) (e3 : v' 0 23 = v 0 23) (e4 : v' 0 47 = v 0 47) (e5 : ∀ b : Nat, 18 ≤ b → b ≤ 22 → b ≠ 21 → v' b = v b) : KN2 m' v' a F L := by
  obtain ⟨h1, h2, h3, h4, h5, h6⟩ := h
  unfold KN2
  rw [e1, e2, e3, e4, e5 22 (by first | decide | omega) (by first | decide | omega) (by first | decide | omega)]
  exact ⟨h1, h2, h3, h4, h5, fun j z => (h6 j z).fr (funext fun i => congrFun (e5 18 (by first | decide | omega) (by first | decide | omega) (by first | decide | omega)) _) (funext fun i => congrFun (e5 19 (by first | decide | omega) (by first | decide | omega) (by first | decide | omega)) _) (funext fun i => congrFun (e5 20 (by first | decide | omega) (by first | decide | omega) (by first | decide | omega)) _)⟩
end Q33
