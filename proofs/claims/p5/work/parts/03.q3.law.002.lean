section Q33
variable {m v : Mem} {S : Int} {D : Nat}
/-- what is released here is bound there -/
theorem l_rel {x2 F : Int} {a : Nat} (hx : 1 ≤ x2) (hF : 0 ≤ F) (ha : a ≠ 46 ∧ a ≠ 50 ∧ a + 1 ≠ 46 ∧ a + 1 ≠ 50) : ∀ (ws : List Int) (n L : Nat) (m v : Mem), ws.length < n → WI m v ws → KN2 m v a F L → F + L + cNB ws ≤ 64 → ws.length ≤ 72 → (ist (m (a + 1)) L).length = cBN ws + 1 → ∃ m' v' ws' L', G5_release_0 n m a x2 = some m' ∧ G12_bind_0 n v x2 = some v' ∧ Fm (PRl a) m m' ∧ Fm (QRl F) v v' ∧ WI m' v' ws' ∧ KN2 m' v' a F L' ∧ (L' : Int) + cNB ws' = L + cNB ws ∧ (ist (m' (a + 1)) L').length = cBN ws' + 1 ∧ cBR ws' = cBR ws ∧ (ws' = [] ∨ ∃ x r, ws' = x :: r ∧ wSt x < x2) ∧ ws'.length ≤ ws.length ∧ L ≤ L' := by
  intro ws
  induction ws with
  | nil =>
    intro n L m v h1 hW hK h2 h3 h4
    obtain ⟨n, rfl⟩ : ∃ j, n = j + 1 := ⟨n - 1, by first | decide | omega⟩
    have w1 : m 46 2 = 0 := hW.1
    have w2 : v 0 46 = 0 := hW.2.1
    rw [G5_release_0, G12_bind_0, w1, w2, if_pos (by first | decide | omega), if_pos (by first | decide | omega)]
    exact ⟨m, v, [], L, rfl, rfl, Fm.rf, Fm.rf, hW, hK, rfl, h4, rfl, Or.inl rfl, by first | decide | omega, by first | decide | omega⟩
  | cons x r ih =>
    intro n L m v h1 hW hK h2 h3 h4
    obtain ⟨n, rfl⟩ : ∃ j, n = j + 1 := ⟨n - 1, by first | decide | omega⟩
    have hl : ((x :: r).length : Int) = r.length + 1 := by simp
    have hl' : (x :: r).length = r.length + 1 := by simp
    have w1 : m 46 2 = r.length + 1 := by rw [hW.1]; exact hl
    have w2 : v 0 46 = r.length + 1 := by rw [hW.2.1]; exact hl
    have w3 : m 50 r.length = x := hW.2.2.1.1
    have w4 : v 21 r.length = wCm x := by have z := hW.2.2.2.1.1; rw [List.length_map] at z; exact z
    have ok : wOk x := hW.2.2.2.2 x (by simp)
    have er : (r.length : Int) + 1 - 1 = r.length := by omega
    have cl := c_len r
    have cb := c_bn r
    rw [G5_release_0, G12_bind_0, w1, w2, if_neg (by first | decide | omega), if_neg (by first | decide | omega), er, gdx_t (by first | decide | omega), gdx_t (by first | decide | omega), w3, w4, c_strg, bs1, r_rkw ok, bs1]
    dsimp only
    by_cases c : x2 ≤ wSt x
    · have x36 : ¬ x = 36 := fun q => by have := (wSt_b ok).2.2.mpr q; omega
      have n1 : cNB (x :: r) = 1 + cNB r := by show (if x = 36 then 0 else 1) + cNB r = _; rw [if_neg x36]
      have n2 : cBR (x :: r) = cBR r := by show (if x = 36 then 1 else 0) + cBR r = _; rw [if_neg x36]; omega
      obtain ⟨k1, k2, k3, k4, k5, k6⟩ := hK
      have ok' := ok
      unfold wOk at ok'
      have hi := ist_le (m (a + 1)) L
      rw [if_pos c, if_neg (show ¬ wSt x < x2 by first | decide | omega), gd3_t (by first | decide | omega), w2, er, gd3_t (by first | decide | omega), wt_e, up_e, gdx_t (by first | decide | omega), up_a (show (21 : Nat) ≠ 0 by first | decide | omega), w4]
      -- the rest once the knot has grown
      have fin : ∀ (st : List Int) (m1 v1 v2 : Mem), G2_add m a (10000 + x) = some m1 → Fm (fun b i => (b = a ∧ i = 1) ∨ (b = a + 1 ∧ i = (L : Int))) m m1 → Fm (fun b i => b = 0 ∧ (i = 46 ∨ i = 47)) v v1 → v1 0 46 = r.length → Fm (QG F) v1 v2 → KN2 m1 v2 a F (L + 1) → (ist (m1 (a + 1)) (L + 1)).length = cBN r + 1 → ∃ m' v' ws' L', ((G2_add m a (10000 + x)).bind fun o13 => gd3 (o13 46 2 - 1) (wt (up o13 46 2 (o13 46 2 - 1)) fun m17 => G5_release_0 n m17 a x2)) = some m' ∧ G12_bind_0 n v2 x2 = some v' ∧ Fm (PRl a) m m' ∧ Fm (QRl F) v v' ∧ WI m' v' ws' ∧ KN2 m' v' a F L' ∧ (L' : Int) + cNB ws' = L + cNB (x :: r) ∧ (ist (m' (a + 1)) L').length = cBN ws' + 1 ∧ cBR ws' = cBR (x :: r) ∧ (ws' = [] ∨ ∃ x r, ws' = x :: r ∧ wSt x < x2) ∧ ws'.length ≤ (x :: r).length ∧ L ≤ L' := by
        intro st m1 v1 v2 b1 b2 b3 b4 b5 b6 b7
        have d1 : m1 46 2 = r.length + 1 := by rw [b2 46 2 (by first | decide | omega)]; exact w1
        rw [b1, bs1, d1, gd3_t (by first | decide | omega), er, wt_e]
        have hW' : WI (up m1 46 2 r.length) v2 r := by
          refine ⟨up_e, by rw [b5 0 46 (by unfold QG; first | decide | omega)]; exact b4, ?_, ?_, fun y z => hW.2.2.2.2 y (List.mem_cons_of_mem _ z)⟩
          · have : up m1 46 2 r.length 50 = m 50 := funext fun i => by rw [up_a (by first | decide | omega), b2 50 i (by first | decide | omega)]
            rw [this]; exact hW.2.2.1.2
          · have : v2 21 = v 21 := funext fun i => by rw [b5 21 i (by unfold QG; first | decide | omega), b3 21 i (by first | decide | omega)]
            rw [this]; exact hW.2.2.2.1.2
        have hK' : KN2 (up m1 46 2 r.length) v2 a F (L + 1) := b6.f (by rw [up_a (by first | decide | omega)]) (funext fun i => by rw [up_a (by first | decide | omega)]) rfl rfl (fun _ _ _ _ => rfl)
        obtain ⟨m', v', ws', L', y1, y2, y3, y4, y5, y6, y7, y8, y9, y10, y11, y12⟩ := ih n (L + 1) (up m1 46 2 r.length) v2 (by first | decide | omega) hW' hK' (by first | decide | omega) (by first | decide | omega) (by
          have : up m1 46 2 r.length (a + 1) = m1 (a + 1) := funext fun i => by rw [up_a (by first | decide | omega)]
          rw [this]; exact b7)
        refine ⟨m', v', ws', L', y1, y2, ?_, ?_, y5, y6, by rw [y7, n1]; first | decide | omega, y8, by rw [y9, n2], y10, by first | decide | omega, by first | decide | omega⟩
        · exact ((b2.mono (by intro b i q; unfold PRl; first | decide | omega)).w (by unfold PRl; first | decide | omega)).tr y3
        · exact ((b3.mono (by intro b i q; unfold QRl; first | decide | omega)).tr (b5.mono (by intro b i q; unfold QG at q; unfold QRl; first | decide | omega))).tr y4
      by_cases c15 : x = 15
      · have e2 : wCm x = 2 := by rw [c15]; rfl
        have n3 : cBN (x :: r) = cBN r := by show (if x = 36 ∨ x = 15 then 0 else 1) + cBN r = _; rw [if_pos (Or.inr c15)]; omega
        rw [if_pos e2, e2]
        unfold G12_bind_58
        rcases hst : ist (m (a + 1)) L with _ | ⟨a0, st⟩
        · rw [hst] at h4; simp at h4
        · rw [hst] at h4 k3 k4
          have h5 : st.length = cBN r := by rw [n3] at h4; simpa using h4
          have z1 := r_drop (v := up v 0 46 r.length) (h := st.length) (by rw [up_i (by first | decide | omega), k3]; simp) (by first | decide | omega)
          have z2 : up v 0 46 r.length 22 st.length = F + a0 := by
            have z := k4.1
            rw [List.length_map] at z
            rw [up_a (by first | decide | omega)]; exact z
          rw [z2] at z1
          rw [z1, bs1]
          dsimp only
          have f1 : Fm (fun b i => b = 0 ∧ (i = 46 ∨ i = 47)) v (up (up v 0 46 r.length) 0 47 st.length) := (Fm.w1 (by first | decide | omega)).w (by first | decide | omega)
          have q1 : up (up v 0 46 r.length) 0 47 st.length 0 46 = r.length := by rw [up_i (by first | decide | omega), up_e]
          have q2 : up (up v 0 46 r.length) 0 47 st.length 0 47 = st.length := up_e
          generalize up (up v 0 46 r.length) 0 47 st.length = v1 at f1 q1 q2 ⊢
          have e22 : v1 22 = v 22 := f1.rw1 (fun i => by first | decide | omega)
          obtain ⟨m2, v2, g1, g2, g3, g4, g5, g6⟩ := KN_grow (m := m) (v := v1) (a := a) (F := F) (L := L) (st := st) (y := 10000 + x) (c := 2) (p := F + a0) (q := -1) k1 (by rw [f1 0 23 (by first | decide | omega)]; exact k2) q2 (by rw [e22]; exact k4.2) k5 (fun j z => (k6 j z).fr (funext fun i => f1 18 _ (by first | decide | omega)) (funext fun i => f1 19 _ (by first | decide | omega)) (funext fun i => f1 20 _ (by first | decide | omega))) (by first | decide | omega) (by
            intro kn' y1 y2
            rw [hst] at y2
            refine ⟨?_, Or.inr (Or.inr (Or.inl ⟨by rw [y1]; first | decide | omega, by rw [y2]; simp⟩)), fun u u1 u2 u3 => Or.inr (Or.inr (Or.inl ⟨by rw [y1]; first | decide | omega, u1, a0, st, y2, u2⟩))⟩
            rw [ist_s, y1, y2, if_neg (by first | decide | omega), if_pos (by first | decide | omega)]; rfl)
          rw [g2, bs1]
          exact fin st m2 v1 v2 g1 g3 f1 q1 g4 g5 (by rw [g6, h5])
      · have e2 : ¬ wCm x = 2 := (wCm_o ok c15 x36).1
        have n3 : cBN (x :: r) = cBN r + 1 := by show (if x = 36 ∨ x = 15 then 0 else 1) + cBN r = _; rw [if_neg (by first | decide | omega)]; omega
        have eo : wCm x = opM (10000 + x) := (wCm_o ok c15 x36).2
        rw [if_neg e2]
        rcases hst : ist (m (a + 1)) L with _ | ⟨b0, _ | ⟨a0, st⟩⟩
        · rw [hst] at h4; simp at h4
        · rw [hst] at h4; simp at h4; omega
        · rw [hst] at h4 k3 k4
          have h5 : st.length = cBN r := by rw [n3] at h4; simp at h4; omega
          have z1 := r_drop (v := up v 0 46 r.length) (h := st.length + 1) (by rw [up_i (by first | decide | omega), k3]; simp) (by first | decide | omega)
          have z2 : up v 0 46 r.length 22 (st.length + 1) = F + b0 := by
            have z := k4.1
            rw [List.length_map] at z
            rw [up_a (by first | decide | omega)]; simpa using z
          rw [z2] at z1
          rw [z1, bs1]
          unfold G12_bind_58
          dsimp only
          have z3 := r_drop (v := up (up v 0 46 r.length) 0 47 (st.length + 1)) (h := st.length) up_e (by first | decide | omega)
          have z4 : up (up v 0 46 r.length) 0 47 (st.length + 1) 22 st.length = F + a0 := by
            have z := k4.2.1
            rw [List.length_map] at z
            rw [up_a (by first | decide | omega), up_a (by first | decide | omega)]; exact z
          rw [z4] at z3
          rw [z3, bs1]
          dsimp only
          have f1 : Fm (fun b i => b = 0 ∧ (i = 46 ∨ i = 47)) v (up (up (up v 0 46 r.length) 0 47 (st.length + 1)) 0 47 st.length) := ((Fm.w1 (by first | decide | omega)).w (by first | decide | omega)).w (by first | decide | omega)
          have q1 : up (up (up v 0 46 r.length) 0 47 (st.length + 1)) 0 47 st.length 0 46 = r.length := by rw [up_i (by first | decide | omega), up_i (by first | decide | omega), up_e]
          have q2 : up (up (up v 0 46 r.length) 0 47 (st.length + 1)) 0 47 st.length 0 47 = st.length := up_e
          generalize up (up (up v 0 46 r.length) 0 47 (st.length + 1)) 0 47 st.length = v1 at f1 q1 q2 ⊢
          have e22 : v1 22 = v 22 := f1.rw1 (fun i => by first | decide | omega)
          obtain ⟨m2, v2, g1, g2, g3, g4, g5, g6⟩ := KN_grow (m := m) (v := v1) (a := a) (F := F) (L := L) (st := st) (y := 10000 + x) (c := wCm x) (p := F + a0) (q := F + b0) k1 (by rw [f1 0 23 (by first | decide | omega)]; exact k2) q2 (by rw [e22]; exact k4.2.2) k5 (fun j z => (k6 j z).fr (funext fun i => f1 18 _ (by first | decide | omega)) (funext fun i => f1 19 _ (by first | decide | omega)) (funext fun i => f1 20 _ (by first | decide | omega))) (by first | decide | omega) (by
            intro kn' y1 y2
            rw [hst] at y2
            have hb : bnk (kn' L) := by rw [y1]; unfold bnk; omega
            refine ⟨?_, Or.inr (Or.inr (Or.inr ⟨hb, by rw [y2]; simp⟩)), fun u u1 u2 u3 => Or.inr (Or.inr (Or.inr ⟨hb, by rw [u1, y1]; exact eo, b0, a0, st, y2, u2, u3⟩))⟩
            rw [ist_s, y1, y2, if_neg (by first | decide | omega), if_neg (by first | decide | omega)]; rfl)
          rw [g2, bs1]
          exact fin st m2 v1 v2 g1 g3 f1 q1 g4 g5 (by rw [g6, h5])
    · rw [if_neg c, if_pos (show wSt x < x2 by first | decide | omega)]
      exact ⟨m, v, x :: r, L, rfl, rfl, Fm.rf, Fm.rf, hW, hK, rfl, h4, rfl, Or.inr ⟨x, r, rfl, by first | decide | omega⟩, by first | decide | omega, by first | decide | omega⟩
end Q33
/-! One part of a law on both sides. -/
section Q34
variable {m v : Mem} {S : Int} {D : Nat}
def aOk (D a : Nat) : Prop := (D = 2 ∨ D = 24) ∧ (a = D + 16 ∨ a = D + 18 ∨ a = D + 20)
def PLw (D a : Nat) : Nat → Int → Prop := fun b i => Pk b i ∨ (b = 46 ∧ 2 ≤ i ∧ i ≤ 5) ∨ (b = a ∧ i = 1) ∨ b = a + 1 ∨ (b = D ∧ i = 13) ∨ b = 50
def QLw (F : Int) : Nat → Int → Prop := fun b i => Qk b i ∨ (b = 0 ∧ (i = 23 ∨ (46 ≤ i ∧ i ≤ 51))) ∨ ((18 ≤ b ∧ b ≤ 20) ∧ 64 + F ≤ i) ∨ b = 21 ∨ b = 22
theorem Pk_l {a : Nat} : ∀ b i, Pk b i → PLw D a b i := fun _ _ h => Or.inl h
theorem Qk_l {F : Int} : ∀ b i, Qk b i → QLw F b i := fun _ _ h => Or.inl h
theorem PRl_l {a : Nat} : ∀ b i, PRl a b i → PLw D a b i := by intro b i h; unfold PRl at h; unfold PLw; omega
theorem QRl_l {F : Int} : ∀ b i, QRl F b i → QLw F b i := by intro b i h; unfold QRl at h; unfold QLw; omega
end Q34
