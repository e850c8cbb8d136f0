/-! What waits is bound, on both sides. -/
section Q33
variable {m v : Mem} {S : Int} {D : Nat}
theorem r_drop {h : Int} (e : v 0 47 = h + 1) (hh : 0 ≤ h ∧ h < 96) : G12_dropHeld v = some (v 22 h, up v 0 47 h) := by
  unfold G12_dropHeld G12_dropHeld_0
  have e1 : h + 1 - 1 = h := by omega
  rw [e, gd3_t (by omega), e1, wt_e, up_e, gdx_t hh, up_a (by omega)]
theorem wCm_o {x : Int} (h : wOk x) (c15 : ¬ x = 15) (c36 : ¬ x = 36) : ¬ wCm x = 2 ∧ wCm x = opM (10000 + x) := by
  have : x = 16 ∨ x = 17 ∨ x = 26 ∨ x = 27 ∨ x = 28 ∨ x = 29 ∨ x = 30 ∨ x = 31 ∨ x = 32 ∨ x = 33 ∨ x = 34 ∨ x = 35 := by unfold wOk at h; omega
  rcases this with e | e | e | e | e | e | e | e | e | e | e | e <;> subst e <;> decide
def PRl (a : Nat) : Nat → Int → Prop := fun b i => (b = 46 ∧ i = 2) ∨ (b = a ∧ i = 1) ∨ b = a + 1
def QRl (F : Int) : Nat → Int → Prop := fun b i => (b = 0 ∧ (i = 23 ∨ i = 46 ∨ i = 47)) ∨ ((18 ≤ b ∧ b ≤ 20) ∧ 64 + F ≤ i) ∨ b = 22
theorem KN2.f {m' v' : Mem} {a : Nat} {F : Int} {L : Nat} (h : KN2 m v a F L) (e1 : m' a 1 = m a 1) (e2 : m' (a + 1) = m (a + 1)) (e3 : v' 0 23 = v 0 23) (e4 : v' 0 47 = v 0 47) (e5 : ∀ b : Nat, 18 ≤ b → b ≤ 22 → b ≠ 21 → v' b = v b) : KN2 m' v' a F L := by
  obtain ⟨h1, h2, h3, h4, h5, h6⟩ := h
  unfold KN2
  rw [e1, e2, e3, e4, e5 22 (by omega) (by omega) (by omega)]
  exact ⟨h1, h2, h3, h4, h5, fun j z => (h6 j z).fr (funext fun i => congrFun (e5 18 (by omega) (by omega) (by omega)) _) (funext fun i => congrFun (e5 19 (by omega) (by omega) (by omega)) _) (funext fun i => congrFun (e5 20 (by omega) (by omega) (by omega)) _)⟩
/-- what is released here is bound there -/
theorem l_rel {x2 F : Int} {a : Nat} (hx : 1 ≤ x2) (hF : 0 ≤ F) (ha : a ≠ 46 ∧ a ≠ 50 ∧ a + 1 ≠ 46 ∧ a + 1 ≠ 50) : ∀ (ws : List Int) (n L : Nat) (m v : Mem), ws.length < n → WI m v ws → KN2 m v a F L → F + L + cNB ws ≤ 64 → ws.length ≤ 72 → (ist (m (a + 1)) L).length = cBN ws + 1 → ∃ m' v' ws' L', G5_release_0 n m a x2 = some m' ∧ G12_bind_0 n v x2 = some v' ∧ Fm (PRl a) m m' ∧ Fm (QRl F) v v' ∧ WI m' v' ws' ∧ KN2 m' v' a F L' ∧ (L' : Int) + cNB ws' = L + cNB ws ∧ (ist (m' (a + 1)) L').length = cBN ws' + 1 ∧ cBR ws' = cBR ws ∧ (ws' = [] ∨ ∃ x r, ws' = x :: r ∧ wSt x < x2) ∧ ws'.length ≤ ws.length ∧ L ≤ L' := by
  intro ws
  induction ws with
  | nil =>
    intro n L m v h1 hW hK h2 h3 h4
    obtain ⟨n, rfl⟩ : ∃ j, n = j + 1 := ⟨n - 1, by omega⟩
    have w1 : m 46 2 = 0 := hW.1
    have w2 : v 0 46 = 0 := hW.2.1
    rw [G5_release_0, G12_bind_0, w1, w2, if_pos (by omega), if_pos (by omega)]
    exact ⟨m, v, [], L, rfl, rfl, Fm.rf, Fm.rf, hW, hK, rfl, h4, rfl, Or.inl rfl, by omega, by omega⟩
  | cons x r ih =>
    intro n L m v h1 hW hK h2 h3 h4
    obtain ⟨n, rfl⟩ : ∃ j, n = j + 1 := ⟨n - 1, by omega⟩
    have hl : ((x :: r).length : Int) = r.length + 1 := by simp
    have hl' : (x :: r).length = r.length + 1 := by simp
    have w1 : m 46 2 = r.length + 1 := by rw [hW.1]; exact hl
    have w2 : v 0 46 = r.length + 1 := by rw [hW.2.1]; exact hl
    have w3 : m 50 r.length = x := hW.2.2.1.1
    have w4 : v 21 r.length = wCm x := by have z := hW.2.2.2.1.1; rw [List.length_map] at z; exact z
    have ok : wOk x := hW.2.2.2.2 x (by simp)
    have er : (r.length : Int) + 1 - 1 = r.length := by omega
    have cl := c_len r
    have cb := c_bn r
    rw [G5_release_0, G12_bind_0, w1, w2, if_neg (by omega), if_neg (by omega), er, gdx_t (by omega), gdx_t (by omega), w3, w4, c_strg, bs1, r_rkw ok, bs1]
    dsimp only
    by_cases c : x2 ≤ wSt x
    · have x36 : ¬ x = 36 := fun q => by have := (wSt_b ok).2.2.mpr q; omega
      have n1 : cNB (x :: r) = 1 + cNB r := by show (if x = 36 then 0 else 1) + cNB r = _; rw [if_neg x36]
      have n2 : cBR (x :: r) = cBR r := by show (if x = 36 then 1 else 0) + cBR r = _; rw [if_neg x36]; omega
      obtain ⟨k1, k2, k3, k4, k5, k6⟩ := hK
      have ok' := ok
      unfold wOk at ok'
      have hi := ist_le (m (a + 1)) L
      rw [if_pos c, if_neg (show ¬ wSt x < x2 by omega), gd3_t (by omega), w2, er, gd3_t (by omega), wt_e, up_e, gdx_t (by omega), up_a (show (21 : Nat) ≠ 0 by omega), w4]
      -- the rest once the knot has grown
      have fin : ∀ (st : List Int) (m1 v1 v2 : Mem), G2_add m a (10000 + x) = some m1 → Fm (fun b i => (b = a ∧ i = 1) ∨ (b = a + 1 ∧ i = (L : Int))) m m1 → Fm (fun b i => b = 0 ∧ (i = 46 ∨ i = 47)) v v1 → v1 0 46 = r.length → Fm (QG F) v1 v2 → KN2 m1 v2 a F (L + 1) → (ist (m1 (a + 1)) (L + 1)).length = cBN r + 1 → ∃ m' v' ws' L', ((G2_add m a (10000 + x)).bind fun o13 => gd3 (o13 46 2 - 1) (wt (up o13 46 2 (o13 46 2 - 1)) fun m17 => G5_release_0 n m17 a x2)) = some m' ∧ G12_bind_0 n v2 x2 = some v' ∧ Fm (PRl a) m m' ∧ Fm (QRl F) v v' ∧ WI m' v' ws' ∧ KN2 m' v' a F L' ∧ (L' : Int) + cNB ws' = L + cNB (x :: r) ∧ (ist (m' (a + 1)) L').length = cBN ws' + 1 ∧ cBR ws' = cBR (x :: r) ∧ (ws' = [] ∨ ∃ x r, ws' = x :: r ∧ wSt x < x2) ∧ ws'.length ≤ (x :: r).length ∧ L ≤ L' := by
        intro st m1 v1 v2 b1 b2 b3 b4 b5 b6 b7
        have d1 : m1 46 2 = r.length + 1 := by rw [b2 46 2 (by omega)]; exact w1
        rw [b1, bs1, d1, gd3_t (by omega), er, wt_e]
        have hW' : WI (up m1 46 2 r.length) v2 r := by
          refine ⟨up_e, by rw [b5 0 46 (by unfold QG; omega)]; exact b4, ?_, ?_, fun y z => hW.2.2.2.2 y (List.mem_cons_of_mem _ z)⟩
          · have : up m1 46 2 r.length 50 = m 50 := funext fun i => by rw [up_a (by omega), b2 50 i (by omega)]
            rw [this]; exact hW.2.2.1.2
          · have : v2 21 = v 21 := funext fun i => by rw [b5 21 i (by unfold QG; omega), b3 21 i (by omega)]
            rw [this]; exact hW.2.2.2.1.2
        have hK' : KN2 (up m1 46 2 r.length) v2 a F (L + 1) := b6.f (by rw [up_a (by omega)]) (funext fun i => by rw [up_a (by omega)]) rfl rfl (fun _ _ _ _ => rfl)
        obtain ⟨m', v', ws', L', y1, y2, y3, y4, y5, y6, y7, y8, y9, y10, y11, y12⟩ := ih n (L + 1) (up m1 46 2 r.length) v2 (by omega) hW' hK' (by omega) (by omega) (by
          have : up m1 46 2 r.length (a + 1) = m1 (a + 1) := funext fun i => by rw [up_a (by omega)]
          rw [this]; exact b7)
        refine ⟨m', v', ws', L', y1, y2, ?_, ?_, y5, y6, by rw [y7, n1]; omega, y8, by rw [y9, n2], y10, by omega, by omega⟩
        · exact ((b2.mono (by intro b i q; unfold PRl; omega)).w (by unfold PRl; omega)).tr y3
        · exact ((b3.mono (by intro b i q; unfold QRl; omega)).tr (b5.mono (by intro b i q; unfold QG at q; unfold QRl; omega))).tr y4
      by_cases c15 : x = 15
      · have e2 : wCm x = 2 := by rw [c15]; rfl
        have n3 : cBN (x :: r) = cBN r := by show (if x = 36 ∨ x = 15 then 0 else 1) + cBN r = _; rw [if_pos (Or.inr c15)]; omega
        rw [if_pos e2, e2]
        unfold G12_bind_58
        rcases hst : ist (m (a + 1)) L with _ | ⟨a0, st⟩
        · rw [hst] at h4; simp at h4
        · rw [hst] at h4 k3 k4
          have h5 : st.length = cBN r := by rw [n3] at h4; simpa using h4
          have z1 := r_drop (v := up v 0 46 r.length) (h := st.length) (by rw [up_i (by omega), k3]; simp) (by omega)
          have z2 : up v 0 46 r.length 22 st.length = F + a0 := by
            have z := k4.1
            rw [List.length_map] at z
            rw [up_a (by omega)]; exact z
          rw [z2] at z1
          rw [z1, bs1]
          dsimp only
          have f1 : Fm (fun b i => b = 0 ∧ (i = 46 ∨ i = 47)) v (up (up v 0 46 r.length) 0 47 st.length) := (Fm.w1 (by omega)).w (by omega)
          have q1 : up (up v 0 46 r.length) 0 47 st.length 0 46 = r.length := by rw [up_i (by omega), up_e]
          have q2 : up (up v 0 46 r.length) 0 47 st.length 0 47 = st.length := up_e
          generalize up (up v 0 46 r.length) 0 47 st.length = v1 at f1 q1 q2 ⊢
          have e22 : v1 22 = v 22 := f1.rw1 (fun i => by omega)
          obtain ⟨m2, v2, g1, g2, g3, g4, g5, g6⟩ := KN_grow (m := m) (v := v1) (a := a) (F := F) (L := L) (st := st) (y := 10000 + x) (c := 2) (p := F + a0) (q := -1) k1 (by rw [f1 0 23 (by omega)]; exact k2) q2 (by rw [e22]; exact k4.2) k5 (fun j z => (k6 j z).fr (funext fun i => f1 18 _ (by omega)) (funext fun i => f1 19 _ (by omega)) (funext fun i => f1 20 _ (by omega))) (by omega) (by
            intro kn' y1 y2
            rw [hst] at y2
            refine ⟨?_, Or.inr (Or.inr (Or.inl ⟨by rw [y1]; omega, by rw [y2]; simp⟩)), fun u u1 u2 u3 => Or.inr (Or.inr (Or.inl ⟨by rw [y1]; omega, u1, a0, st, y2, u2⟩))⟩
            rw [ist_s, y1, y2, if_neg (by omega), if_pos (by omega)]; rfl)
          rw [g2, bs1]
          exact fin st m2 v1 v2 g1 g3 f1 q1 g4 g5 (by rw [g6, h5])
      · have e2 : ¬ wCm x = 2 := (wCm_o ok c15 x36).1
        have n3 : cBN (x :: r) = cBN r + 1 := by show (if x = 36 ∨ x = 15 then 0 else 1) + cBN r = _; rw [if_neg (by omega)]; omega
        have eo : wCm x = opM (10000 + x) := (wCm_o ok c15 x36).2
        rw [if_neg e2]
        rcases hst : ist (m (a + 1)) L with _ | ⟨b0, _ | ⟨a0, st⟩⟩
        · rw [hst] at h4; simp at h4
        · rw [hst] at h4; simp at h4; omega
        · rw [hst] at h4 k3 k4
          have h5 : st.length = cBN r := by rw [n3] at h4; simp at h4; omega
          have z1 := r_drop (v := up v 0 46 r.length) (h := st.length + 1) (by rw [up_i (by omega), k3]; simp) (by omega)
          have z2 : up v 0 46 r.length 22 (st.length + 1) = F + b0 := by
            have z := k4.1
            rw [List.length_map] at z
            rw [up_a (by omega)]; simpa using z
          rw [z2] at z1
          rw [z1, bs1]
          unfold G12_bind_58
          dsimp only
          have z3 := r_drop (v := up (up v 0 46 r.length) 0 47 (st.length + 1)) (h := st.length) up_e (by omega)
          have z4 : up (up v 0 46 r.length) 0 47 (st.length + 1) 22 st.length = F + a0 := by
            have z := k4.2.1
            rw [List.length_map] at z
            rw [up_a (by omega), up_a (by omega)]; exact z
          rw [z4] at z3
          rw [z3, bs1]
          dsimp only
          have f1 : Fm (fun b i => b = 0 ∧ (i = 46 ∨ i = 47)) v (up (up (up v 0 46 r.length) 0 47 (st.length + 1)) 0 47 st.length) := ((Fm.w1 (by omega)).w (by omega)).w (by omega)
          have q1 : up (up (up v 0 46 r.length) 0 47 (st.length + 1)) 0 47 st.length 0 46 = r.length := by rw [up_i (by omega), up_i (by omega), up_e]
          have q2 : up (up (up v 0 46 r.length) 0 47 (st.length + 1)) 0 47 st.length 0 47 = st.length := up_e
          generalize up (up (up v 0 46 r.length) 0 47 (st.length + 1)) 0 47 st.length = v1 at f1 q1 q2 ⊢
          have e22 : v1 22 = v 22 := f1.rw1 (fun i => by omega)
          obtain ⟨m2, v2, g1, g2, g3, g4, g5, g6⟩ := KN_grow (m := m) (v := v1) (a := a) (F := F) (L := L) (st := st) (y := 10000 + x) (c := wCm x) (p := F + a0) (q := F + b0) k1 (by rw [f1 0 23 (by omega)]; exact k2) q2 (by rw [e22]; exact k4.2.2) k5 (fun j z => (k6 j z).fr (funext fun i => f1 18 _ (by omega)) (funext fun i => f1 19 _ (by omega)) (funext fun i => f1 20 _ (by omega))) (by omega) (by
            intro kn' y1 y2
            rw [hst] at y2
            have hb : bnk (kn' L) := by rw [y1]; unfold bnk; omega
            refine ⟨?_, Or.inr (Or.inr (Or.inr ⟨hb, by rw [y2]; simp⟩)), fun u u1 u2 u3 => Or.inr (Or.inr (Or.inr ⟨hb, by rw [u1, y1]; exact eo, b0, a0, st, y2, u2, u3⟩))⟩
            rw [ist_s, y1, y2, if_neg (by omega), if_neg (by omega)]; rfl)
          rw [g2, bs1]
          exact fin st m2 v1 v2 g1 g3 f1 q1 g4 g5 (by rw [g6, h5])
    · rw [if_neg c, if_pos (show wSt x < x2 by omega)]
      exact ⟨m, v, x :: r, L, rfl, rfl, Fm.rf, Fm.rf, hW, hK, rfl, h4, rfl, Or.inr ⟨x, r, rfl, by omega⟩, by omega, by omega⟩
end Q33
