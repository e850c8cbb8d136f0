section Q34
variable {m v : Mem} {S : Int} {D : Nat}
/-- a bracket opens -/
theorem s_open {a : Nat} {F : Int} {ws : List Int} {L : Nat} (ha : aOk D a) (hF : 0 ≤ F) (h : PostR m v S) (hL : LI m v D a F ws L) (c : m 47 4 = 36) : SOut (G5_takePart m a) (G12_leafRead v) m v D a F S := by
  have hk := h.2.2.2.2.2.2.2
  have e8 : v 0 8 = 4 ∧ v 0 9 = 40 := by unfold KR SGN NumR at hk; omega
  obtain ⟨h1, h2, h3, h4, h5, h6, h7, h8⟩ := hL
  have cl := c_len ws
  unfold G5_takePart G5_takePart_0 G12_leafRead G12_leafRead_0
  rw [if_pos c, r_sign, if_pos e8, bs1]
  unfold G5_takeOpen G5_takeOpen_0
  simp only [if_neg i10]
  rw [h4.1, h4.2.1]
  by_cases c8 : cBR ws < 8
  · rw [if_pos c8, if_neg (show ¬ cBR ws = 8 by first | decide | omega), gd3_t (by first | decide | omega), gd3_t (by first | decide | omega)]
    simp only [wt_e]
    have w1 : up (up m 46 3 (cBR ws + 1)) 46 5 1 46 2 = ws.length := by rw [up_i (by first | decide | omega), up_i (by first | decide | omega)]; exact h2.1
    have w2 : up v 0 48 (cBR ws + 1) 0 46 = ws.length := by rw [up_i (by first | decide | omega)]; exact h2.2.1
    rw [c_wait w1 (by first | decide | omega), bs1, r_wait w2 (by first | decide | omega), bs1]
    dsimp only
    have wi0 : WI (up (up m 46 3 (cBR ws + 1)) 46 5 1) (up v 0 48 (cBR ws + 1)) ws := h2.f (by rw [up_i (by first | decide | omega), up_i (by first | decide | omega)]) (up_i (by first | decide | omega)) (funext fun i => by rw [up_a (by first | decide | omega), up_a (by first | decide | omega)]) (funext fun i => by rw [up_a (by first | decide | omega)])
    have wi1 := wi0.push (x := 36) (by unfold wOk; first | decide | omega)
    have f1 : Fm (fun b i => (b = 46 ∧ (i = 2 ∨ i = 3 ∨ i = 5)) ∨ b = 50) m (up (up (up (up m 46 3 (cBR ws + 1)) 46 5 1) 50 ws.length 36) 46 2 (ws.length + 1)) := (((Fm.w1 (by first | decide | omega)).w (by first | decide | omega)).w (by first | decide | omega)).w (by first | decide | omega)
    have g1 : Fm (fun b i => (b = 0 ∧ (i = 46 ∨ i = 48 ∨ i = 51)) ∨ b = 21) v (up (up (up (up v 0 48 (cBR ws + 1)) 21 ws.length (wCm 36)) 0 46 (ws.length + 1)) 0 51 1) := (((Fm.w1 (by first | decide | omega)).w (by first | decide | omega)).w (by first | decide | omega)).w (by first | decide | omega)
    have k3 : up (up (up (up m 46 3 (cBR ws + 1)) 46 5 1) 50 ws.length 36) 46 2 (ws.length + 1) 46 3 = cBR ws + 1 := by rw [up_i (by first | decide | omega), up_a (by first | decide | omega), up_i (by first | decide | omega), up_e]
    have k5 : up (up (up (up m 46 3 (cBR ws + 1)) 46 5 1) 50 ws.length 36) 46 2 (ws.length + 1) 46 5 = 1 := by rw [up_i (by first | decide | omega), up_a (by first | decide | omega), up_e]
    have k48 : up (up (up (up v 0 48 (cBR ws + 1)) 21 ws.length (wCm 36)) 0 46 (ws.length + 1)) 0 51 1 0 48 = cBR ws + 1 := by rw [up_i (by first | decide | omega), up_i (by first | decide | omega), up_a (by first | decide | omega), up_e]
    have k51 : up (up (up (up v 0 48 (cBR ws + 1)) 21 ws.length (wCm 36)) 0 46 (ws.length + 1)) 0 51 1 0 51 = 1 := up_e
    have wi2 : WI (up (up (up (up m 46 3 (cBR ws + 1)) 46 5 1) 50 ws.length 36) 46 2 (ws.length + 1)) (up (up (up (up v 0 48 (cBR ws + 1)) 21 ws.length (wCm 36)) 0 46 (ws.length + 1)) 0 51 1) (36 :: ws) := wi1.f rfl (up_i (by first | decide | omega)) rfl (funext fun i => up_a (by first | decide | omega))
    have e36 : wCm 36 = 0 := by decide
    rw [e36] at g1 k48 k51 wi2
    generalize up (up (up (up m 46 3 (cBR ws + 1)) 46 5 1) 50 ws.length 36) 46 2 (ws.length + 1) = m1 at f1 k3 k5 wi2 ⊢
    generalize up (up (up (up v 0 48 (cBR ws + 1)) 21 ws.length 0) 0 46 (ws.length + 1)) 0 51 1 = v1 at g1 k48 k51 wi2 ⊢
    have p1 : PostR m1 v1 S := h.f f1 g1 (by intro b i q; first | decide | omega) (by intro b i q; first | decide | omega)
    obtain ⟨v2, z1, z2, z3⟩ := p1.tok
    have ha' := ha
    unfold aOk at ha'
    have n1 : cNB (36 :: ws) = cNB ws := by show (if (36 : Int) = 36 then 0 else 1) + cNB ws = _; rw [if_pos rfl]; omega
    have n2 : cBR (36 :: ws) = cBR ws + 1 := by show (if (36 : Int) = 36 then 1 else 0) + cBR ws = _; rw [if_pos rfl]; omega
    have n3 : cBN (36 :: ws) = cBN ws := by show (if (36 : Int) = 36 ∨ (36 : Int) = 15 then 0 else 1) + cBN ws = _; rw [if_pos (Or.inl rfl)]; omega
    have li : LI m1 v1 D a F (36 :: ws) L := by
      refine ⟨by rw [f1 46 10 (by first | decide | omega)]; exact h1, wi2, h3.f (f1 a 1 (by first | decide | omega)) (f1.rw1 (fun i => by first | decide | omega)) (g1 0 23 (by first | decide | omega)) (g1 0 47 (by first | decide | omega)) (fun b q1 q2 q3 => g1.rw1 (fun i => by first | decide | omega)), ⟨by rw [k3, n2], by rw [k48, n2], by rw [n2]; first | decide | omega⟩, ?_, ?_, ?_, ?_⟩
      · rw [g1 0 49 (by first | decide | omega), f1 D 13 (by first | decide | omega), n1]; exact h5
      · rw [g1 0 50 (by first | decide | omega), f1 46 4 (by first | decide | omega)]; exact h6
      · rw [k5, k51]; exact ⟨rfl, Or.inr rfl⟩
      · rw [g1 0 50 (by first | decide | omega), f1.rw1 (b := a + 1) (fun i => by first | decide | omega), n3]; exact h8
    rw [gdb_t (Or.inr rfl), bs1, gdb_t (Or.inr rfl), z1, bs1]
    refine ⟨m1, v2, f1.mono ?_, (g1.mono ?_).tr ((z2.mono Q7_k).mono Qk_l), by rw [f1 47 3 (by first | decide | omega)]; first | decide | omega, Or.inl ⟨rfl, rfl, ⟨36 :: ws, L, li.k ha Fm.rf (z2.mono Q7_k)⟩, z3, by first | decide | omega⟩⟩
    · intro b i q; unfold PLw; omega
    · intro b i q; unfold QLw; omega
  · rw [if_neg c8, if_pos (show cBR ws = 8 by first | decide | omega), c_ref, bs1, gdb_t (by first | decide | omega), bs1, gdb_t (by first | decide | omega), r_wrong, bs1, gdb_t (by first | decide | omega)]
    exact s_ref h 2 rfl rfl
end Q34
/-! One part of a law on both sides: not, numbers and names. -/
section Q35
variable {m v : Mem} {S : Int} {D : Nat}
/-- counted, and let wait -/
theorem n_cw {ws : List Int} {x : Int} (hDD : D = 2 ∨ D = 24) (h : PostR m v S) (e10 : m 46 10 = (D : Int)) (h49 : v 0 49 = m D 13 ∧ 0 ≤ m D 13 ∧ m D 13 ≤ 64) (hW : WI m v ws) (hw : m D 13 < 64 → (ws.length : Int) < 72) (hx : wOk x) : (∃ mA vA m' v', m D 13 < 64 ∧ G5_countKnot m = some (1, mA) ∧ G12_isCounted v = some (1, vA) ∧ G5_letWait mA x = some (1, m') ∧ G12_waitsFor vA (wCm x) = some v' ∧ Fm (fun b i => (b = D ∧ i = 13) ∨ b = 50 ∨ (b = 46 ∧ i = 2)) m m' ∧ Fm (fun b i => (b = 0 ∧ (i = 46 ∨ i = 49)) ∨ b = 21) v v' ∧ WI m' v' (x :: ws) ∧ m' D 13 = m D 13 + 1 ∧ v' 0 49 = m D 13 + 1 ∧ vA 0 51 = v 0 51) ∨ (G5_countKnot m = some (0, up (up m 46 8 2) 46 9 (m 47 5)) ∧ G12_isCounted v = some (0, up (up v 0 4 2) 0 5 (v 0 10))) := by
  rcases n_cnt h e10 h49 with ⟨c, a1, a2⟩ | k
  · refine Or.inl ⟨_, _, up (up (up m D 13 (m D 13 + 1)) 50 ws.length x) 46 2 (ws.length + 1), up (up (up v 0 49 (m D 13 + 1)) 21 ws.length (wCm x)) 0 46 (ws.length + 1), c, a1, a2, ?_, ?_, ((Fm.w1 (by first | decide | omega)).w (by first | decide | omega)).w (by first | decide | omega), ((Fm.w1 (by first | decide | omega)).w (by first | decide | omega)).w (by first | decide | omega), ?_, ?_, ?_, ?_⟩
    · exact c_wait (by rw [up_a (by first | decide | omega)]; exact hW.1) (by have := hw c; first | decide | omega)
    · exact r_wait (by rw [up_i (by first | decide | omega)]; exact hW.2.1) (by have := hw c; first | decide | omega)
    · exact WI.push (hW.f (m' := up m D 13 (m D 13 + 1)) (v' := up v 0 49 (m D 13 + 1)) (up_a (by first | decide | omega)) (up_i (by first | decide | omega)) (funext fun i => up_a (by first | decide | omega)) (funext fun i => up_a (by first | decide | omega))) hx
    · rw [up_a (by first | decide | omega), up_a (by first | decide | omega), up_e]
    · rw [up_i (by first | decide | omega), up_a (by first | decide | omega), up_e]
    · exact up_i (by first | decide | omega)
  · exact Or.inr k
theorem s_not {a : Nat} {F : Int} {ws : List Int} {L : Nat} (ha : aOk D a) (hF : 0 ≤ F) (h : PostR m v S) (hL : LI m v D a F ws L) (c : m 47 4 = 15) (c5 : ¬ m 46 5 = 0) : SOut (G5_takePart m a) (G12_leafRead v) m v D a F S := by
  have hk := h.2.2.2.2.2.2.2
  have e8 : v 0 8 = 1 ∧ v 0 9 = 17 := by
    rw [c] at hk
    have ek : kwf 15 = 17 := by decide
    unfold KR SGN NumR at hk
    rw [ek] at hk
    omega
  obtain ⟨h1, h2, h3, h4, h5, h6, h7, h8⟩ := hL
  have cl := c_len ws
  have ha' := ha
  unfold aOk at ha'
  unfold G5_takePart G5_takePart_0 G12_leafRead G12_leafRead_0
  rw [if_neg (show ¬ m 47 4 = 36 by first | decide | omega), if_pos c, if_neg c5, r_sign, if_neg (show ¬ (v 0 8 = 4 ∧ v 0 9 = 40) by first | decide | omega), bs1]
  simp only [if_true]
  rw [r_key, if_pos e8, bs1]
  simp only [if_neg i10]
  rw [if_neg (show ¬ v 0 51 = 0 by first | decide | omega), c]
  rcases n_cw (x := 15) ha'.1 h h1 ⟨h5.1, by first | decide | omega, h5.2.1⟩ h2 (fun q => by first | decide | omega) (by unfold wOk; first | decide | omega) with ⟨mA, vA, m1, v1, b0, b1, b2, b3, b4, b5, b6, b7, b8, b9, b10⟩ | ⟨b1, b2⟩
  · have ec : wCm 15 = 2 := by decide
    rw [ec] at b4
    rw [b1, bs1, b2, bs1]
    simp only [if_neg i10]
    rw [b3, bs1, b4, bs1]
    simp only [if_neg i10]
    have p1 : PostR m1 v1 S := h.f b5 b6 (by intro b i q; first | decide | omega) (by intro b i q; first | decide | omega)
    obtain ⟨v2, z1, z2, z3⟩ := p1.tok
    rw [z1, bs1]
    have n1 : cNB (15 :: ws) = 1 + cNB ws := by show (if (15 : Int) = 36 then 0 else 1) + cNB ws = _; rw [if_neg (by first | decide | omega)]
    have n2 : cBR (15 :: ws) = cBR ws := by show (if (15 : Int) = 36 then 1 else 0) + cBR ws = _; rw [if_neg (by first | decide | omega)]; omega
    have n3 : cBN (15 :: ws) = cBN ws := by show (if (15 : Int) = 36 ∨ (15 : Int) = 15 then 0 else 1) + cBN ws = _; rw [if_pos (Or.inr rfl)]; omega
    have li : LI m1 v1 D a F (15 :: ws) L := by
      refine ⟨by rw [b5 46 10 (by first | decide | omega)]; exact h1, b7, h3.f (b5 a 1 (by first | decide | omega)) (b5.rw1 (fun i => by first | decide | omega)) (b6 0 23 (by first | decide | omega)) (b6 0 47 (by first | decide | omega)) (fun b q1 q2 q3 => b6.rw1 (fun i => by first | decide | omega)), ?_, ?_, ?_, ?_, ?_⟩
      · rw [b5 46 3 (by first | decide | omega), b6 0 48 (by first | decide | omega), n2]; exact h4
      · rw [b8, b9, n1]; omega
      · rw [b5 46 4 (by first | decide | omega), b6 0 50 (by first | decide | omega)]; exact h6
      · rw [b5 46 5 (by first | decide | omega), b6 0 51 (by first | decide | omega)]; exact h7
      · rw [b6 0 50 (by first | decide | omega), b5.rw1 (b := a + 1) (fun i => by first | decide | omega), n3]; exact h8
    refine ⟨m1, v2, b5.mono ?_, (b6.mono ?_).tr ((z2.mono Q7_k).mono Qk_l), by rw [b5 47 3 (by first | decide | omega)]; first | decide | omega, Or.inl ⟨rfl, rfl, ⟨15 :: ws, L, li.k ha Fm.rf (z2.mono Q7_k)⟩, z3, by first | decide | omega⟩⟩
    · intro b i q; unfold PLw; omega
    · intro b i q; unfold QLw; omega
  · rw [b1, bs1, b2, bs1]
    simp only [if_true]
    exact s_ref h 2 rfl rfl
end Q35
