section Q35
variable {m v : Mem} {S : Int} {D : Nat}
/-- a leaf grows -/
theorem s_grow {a : Nat} {F : Int} {ws : List Int} {L : Nat} {y c p : Int} (ha : aOk D a) (hF : 0 ≤ F) (h : PostR m v S) (hL : LI m v D a F ws L) (hw : v 0 50 = 1) (h39 : m 47 4 ≠ 39) (hy : (0 ≤ y ∧ y < 10000 ∧ c = 0 ∧ p = y) ∨ (10018 ≤ y ∧ y < 10024 ∧ c = 1 ∧ p = y - 10018)) {X Y : Option (Int × Mem)} (hX : X = (G5_countKnot m).bind fun o1 => if o1.1 = 0 then some (0, o1.2) else G5_takePart_139 o1.2 y a) (hY : Y = (G12_isCounted v).bind fun o1 => if o1.1 = 0 then some (0, o1.2) else G12_leafRead_160 o1.2 p c) : SOut X Y m v D a F S := by
  obtain ⟨h1, h2, h3, h4, h5, h6, h7, h8⟩ := hL
  have cl := c_len ws
  have cb := c_bn ws
  have ha' := ha
  unfold aOk at ha'
  rw [hX, hY]
  rcases n_cnt h h1 ⟨h5.1, by first | decide | omega, h5.2.1⟩ with ⟨c1, a1, a2⟩ | ⟨a1, a2⟩
  · rw [a1, a2, bs1, bs1]
    simp only [if_neg i10]
    have f1 : Fm (fun b i => b = D ∧ i = 13) m (up m D 13 (m D 13 + 1)) := Fm.w1 ⟨rfl, rfl⟩
    have g1 : Fm (fun b i => b = 0 ∧ i = 49) v (up v 0 49 (m D 13 + 1)) := Fm.w1 ⟨rfl, rfl⟩
    have k13 : up m D 13 (m D 13 + 1) D 13 = m D 13 + 1 := up_e
    have k49 : up v 0 49 (m D 13 + 1) 0 49 = m D 13 + 1 := up_e
    generalize up m D 13 (m D 13 + 1) = m1 at f1 k13 ⊢
    generalize up v 0 49 (m D 13 + 1) = v1 at g1 k49 ⊢
    obtain ⟨k1, k2, k3, k4, k5, k6⟩ := h3
    have er : m1 (a + 1) = m (a + 1) := f1.rw1 (fun i => by first | decide | omega)
    have il : ((ist (m (a + 1)) L).length : Int) = cBN ws := by omega
    obtain ⟨m2, v2, q1, q2, q3, q4, q5, q6⟩ := KN_grow (m := m1) (v := v1) (a := a) (F := F) (L := L) (st := ist (m (a + 1)) L) (y := y) (c := c) (p := p) (q := 0) (by rw [f1 a 1 (by first | decide | omega)]; exact k1) (by rw [g1 0 23 (by first | decide | omega)]; exact k2) (by rw [g1 0 47 (by first | decide | omega)]; exact k3) (by rw [g1.rw1 (b := 22) (fun i => by first | decide | omega)]; exact k4) (fun j z => by rw [er]; exact k5 j z) (fun j z => by rw [er]; exact (k6 j z).fr (funext fun i => g1 18 _ (by first | decide | omega)) (funext fun i => g1 19 _ (by first | decide | omega)) (funext fun i => g1 20 _ (by first | decide | omega))) (by first | decide | omega) (by
      intro kn' y1 y2
      rw [er] at y2
      rcases hy with ⟨u1, u2, u3, u4⟩ | ⟨u1, u2, u3, u4⟩
      · refine ⟨by rw [ist_s, y1, y2, if_pos (by first | decide | omega)], Or.inl (by rw [y1]; first | decide | omega), fun u w1 w2 w3 => Or.inl ⟨by first | decide | omega, by first | decide | omega, by first | decide | omega, by first | decide | omega⟩⟩
      · refine ⟨by rw [ist_s, y1, y2, if_pos (by first | decide | omega)], Or.inr (Or.inl (by rw [y1]; first | decide | omega)), fun u w1 w2 w3 => Or.inr (Or.inl ⟨by first | decide | omega, by first | decide | omega, by first | decide | omega, by first | decide | omega⟩)⟩)
    unfold G5_takePart_139 G12_leafRead_160
    rw [q1, bs1, q2, bs1]
    simp only [wt_e]
    have F2 : Fm (PLw D a) m (up m2 46 4 0) := ((f1.mono (by intro b i q; unfold PLw; first | decide | omega)).tr (q3.mono (by intro b i q; unfold PLw; first | decide | omega))).w (by unfold PLw; first | decide | omega)
    have G2 : Fm (QLw F) v (up v2 0 50 0) := ((g1.mono (by intro b i q; unfold QLw; first | decide | omega)).tr (q4.mono (by intro b i q; unfold QG at q; unfold QLw; first | decide | omega))).w (by unfold QLw; first | decide | omega)
    have p2 : PostR (up m2 46 4 0) (up v2 0 50 0) S := ((h.f f1 g1 (by intro b i q; first | decide | omega) (by intro b i q; first | decide | omega)).f q3 q4 (by intro b i q; first | decide | omega) (by intro b i q; unfold QG; first | decide | omega)).f (P := fun b i => b = 46 ∧ i = 4) (Q := fun b i => b = 0 ∧ i = 50) (Fm.w1 ⟨rfl, rfl⟩) (Fm.w1 ⟨rfl, rfl⟩) (by intro b i q; first | decide | omega) (by intro b i q; first | decide | omega)
    have e2 : ∀ (b : Nat) i, b ≠ a → b ≠ a + 1 → ¬ (b = D ∧ i = 13) → m2 b i = m b i := fun b i z1 z2 z3 => by rw [q3 b i (by first | decide | omega), f1 b i z3]
    have d2 : ∀ i, i ≠ 23 → i ≠ 47 → i ≠ 49 → v2 0 i = v 0 i := fun i z1 z2 z3 => by rw [q4 0 i (by unfold QG; first | decide | omega), g1 0 i (by first | decide | omega)]
    have li : LI (up m2 46 4 0) (up v2 0 50 0) D a F ws (L + 1) := by
      refine ⟨by rw [up_i (by first | decide | omega), e2 46 10 (by first | decide | omega) (by first | decide | omega) (by first | decide | omega)]; exact h1, h2.f ?_ ?_ ?_ ?_, q5.f ?_ ?_ ?_ ?_ ?_, ?_, ?_, ?_, ?_, ?_⟩
      · rw [up_i (by first | decide | omega), e2 46 2 (by first | decide | omega) (by first | decide | omega) (by first | decide | omega)]
      · rw [up_i (by first | decide | omega), d2 46 (by first | decide | omega) (by first | decide | omega) (by first | decide | omega)]
      · exact funext fun i => by rw [up_a (by first | decide | omega), e2 50 i (by first | decide | omega) (by first | decide | omega) (by first | decide | omega)]
      · exact funext fun i => by rw [up_a (by first | decide | omega), q4 21 i (by unfold QG; first | decide | omega), g1 21 i (by first | decide | omega)]
      · exact up_a (by first | decide | omega)
      · exact funext fun i => up_a (by first | decide | omega)
      · exact up_i (by first | decide | omega)
      · exact up_i (by first | decide | omega)
      · exact fun b _ _ _ => funext fun i => up_a (by first | decide | omega)
      · rw [up_i (by first | decide | omega), e2 46 3 (by first | decide | omega) (by first | decide | omega) (by first | decide | omega), up_i (by first | decide | omega), d2 48 (by first | decide | omega) (by first | decide | omega) (by first | decide | omega)]; exact h4
      · rw [up_i (by first | decide | omega), q4 0 49 (by unfold QG; first | decide | omega), k49, up_a (by first | decide | omega), q3 D 13 (by first | decide | omega), k13]; omega
      · rw [up_e, up_e]; exact ⟨rfl, Or.inl rfl⟩
      · rw [up_i (by first | decide | omega), e2 46 5 (by first | decide | omega) (by first | decide | omega) (by first | decide | omega), up_i (by first | decide | omega), d2 51 (by first | decide | omega) (by first | decide | omega) (by first | decide | omega)]; exact h7
      · have : up m2 46 4 0 (a + 1) = m2 (a + 1) := funext fun i => up_a (by first | decide | omega)
        rw [this, q6, up_e]; omega
    obtain ⟨v3, z1, z2, z3⟩ := p2.tok
    rw [z1, bs1]
    exact ⟨up m2 46 4 0, v3, F2, G2.tr ((z2.mono Q7_k).mono Qk_l), by rw [up_a (by first | decide | omega), e2 47 3 (by first | decide | omega) (by first | decide | omega) (by first | decide | omega)]; first | decide | omega, Or.inl ⟨rfl, rfl, ⟨ws, L + 1, li.k ha Fm.rf (z2.mono Q7_k)⟩, z3, h39⟩⟩
  · rw [a1, a2, bs1, bs1]
    simp only [if_true]
    exact s_ref h 2 rfl rfl
theorem s_leaf {a : Nat} {F : Int} {ws : List Int} {L : Nat} (ha : aOk D a) (hF : 0 ≤ F) (h : PostR m v S) (hL : LI m v D a F ws L) (hw : v 0 50 = 1) : SOut (G5_takePart_53 m a (m 47 4)) (G12_leafRead_86 v) m v D a F S := by
  have hk := h.2.2.2.2.2.2.2
  have hb := KR_b hk
  unfold G5_takePart_53 G5_takePart_69 G5_takePart_70 G12_leafRead_86 G12_nameMet G12_nameMet_0
  by_cases c1 : 18 ≤ m 47 4 ∧ m 47 4 ≤ 23
  · have hi := (KR_kw hk (lo := 18) (hi := 23) (by first | decide | omega) (by first | decide | omega)).mp c1
    have ek : v 0 9 = m 47 4 := by
      have hlo : kwf (m 47 4) = m 47 4 := kwf_lo (by first | decide | omega)
      unfold KR SGN NumR at hk
      rw [hlo] at hk
      omega
    have hl : (if (1 : Int) = 0 then (G5_refuse m 2).bind fun o7 => gdb o7.1 (some (o7.1, o7.2)) else G5_takePart_110 m a (m 47 4) 1) = G5_takePart_110 m a (m 47 4) 1 := if_neg i10
    rw [if_neg (by first | decide | omega), if_neg (by first | decide | omega), if_neg (by first | decide | omega), if_neg i10, if_pos hi.1, if_neg (by first | decide | omega), gd3_t (by first | decide | omega), bs1]
    dsimp only
    rw [if_pos (by first | decide | omega)]
    unfold G5_takePart_87 G12_leafRead_109
    have e87 : (if m 47 6 ≤ 9999 then G5_takePart_110 m a (m 47 4) 1 else G5_takePart_110 m a (m 47 4) 1) = G5_takePart_110 m a (m 47 4) 1 := by split <;> rfl
    rw [if_neg i10, e87, if_pos (show 0 ≤ v 0 9 - 18 by first | decide | omega)]
    refine s_grow (y := 10000 + m 47 4) (c := 1) (p := v 0 9 - 18) ha hF h hL hw (by first | decide | omega) (Or.inr ⟨by first | decide | omega, by first | decide | omega, rfl, by first | decide | omega⟩) ?_ ?_
    · unfold G5_takePart_110
      simp only [if_neg i10]
      congr 1
      funext o1
      rw [gd3_t (by first | decide | omega)]
    · unfold G12_leafRead_129 G12_leafRead_148
      simp only [if_neg (show ¬ v 0 9 - 18 < 0 by first | decide | omega)]
  · have e53 : ∀ X Y : Option (Int × Mem), (if m 47 4 < 18 then X else if 24 ≤ m 47 4 then X else Y) = X := fun X Y => by
      by_cases z : m 47 4 < 18
      · rw [if_pos z]
      · rw [if_neg z, if_pos (by first | decide | omega)]
    have hkb : 0 ≤ m 47 4 ∧ m 47 4 < 24 → 0 ≤ kwf (m 47 4) ∧ kwf (m 47 4) < 24 ∧ (15 ≤ m 47 4 ∧ m 47 4 ≤ 17 → 15 ≤ kwf (m 47 4) ∧ kwf (m 47 4) ≤ 17) := kwf_b
    have hlo : (m 47 4 < 15 ∨ 17 < m 47 4) → kwf (m 47 4) = m 47 4 := kwf_lo
    have en : (if v 0 8 = 1 then if v 0 9 < 18 then some ((-1 : Int), v) else gd3 (v 0 9 - 18) (some (v 0 9 - 18, v)) else some (-1, v)) = some (-1, v) := by
      by_cases z : v 0 8 = 1
      · have : v 0 9 < 18 := by unfold KR SGN NumR at hk; omega
        rw [if_pos z, if_pos this]
      · rw [if_neg z]
    rw [e53, en, bs1]
    dsimp only
    rw [if_neg (show ¬ (0 : Int) ≤ -1 by first | decide | omega)]
    by_cases c2 : m 47 4 = 25
    · have e8 : v 0 8 = 3 ∧ NumR (m 47 6) (v 0 9) := by unfold KR SGN NumR at hk; unfold NumR; omega
      obtain ⟨e8, n1, n2, n3⟩ := e8
      rw [if_pos c2, if_pos e8]
      unfold G5_takePart_87 G12_leafRead_109
      rw [if_neg (show ¬ (0 : Int) ≤ -1 by first | decide | omega)]
      by_cases c3 : m 47 6 ≤ 9999
      · rw [if_pos c3, if_pos (show v 0 9 ≤ 9999 by first | decide | omega)]
        refine s_grow (y := m 47 6) (c := 0) (p := v 0 9) ha hF h hL hw (by first | decide | omega) (Or.inl ⟨by first | decide | omega, by first | decide | omega, rfl, by first | decide | omega⟩) ?_ ?_
        · unfold G5_takePart_110
          rcases n_cnt h hL.1 ⟨hL.2.2.2.2.1.1, by have := c_len ws; have := hL.2.2.2.2.1; first | decide | omega, hL.2.2.2.2.1.2.1⟩ with ⟨_, a1, _⟩ | ⟨a1, _⟩
          · have hDD := ha.1
            rw [a1, bs1, bs1]
            simp only [if_neg i10, if_true]
            rw [up_a (by first | decide | omega)]
          · rw [a1, bs1, bs1]
            simp only [if_true]
        · unfold G12_leafRead_129 G12_leafRead_148
          rcases n_cnt h hL.1 ⟨hL.2.2.2.2.1.1, by have := c_len ws; have := hL.2.2.2.2.1; first | decide | omega, hL.2.2.2.2.1.2.1⟩ with ⟨_, _, a1⟩ | ⟨_, a1⟩
          · rw [a1, bs1, bs1]
            simp only [if_neg i10, if_pos (show (-1 : Int) < 0 by first | decide | omega)]
            rw [up_i (by first | decide | omega)]
          · rw [a1, bs1, bs1]
            simp only [if_true]
      · rw [if_neg c3, if_pos (show (0 : Int) = 0 from rfl), if_neg (show ¬ v 0 9 ≤ 9999 by first | decide | omega), c_ref, bs1, gdb_t (by first | decide | omega), r_wrong, bs1, gdb_t (by first | decide | omega)]
        exact s_ref h 2 rfl rfl
    · have e8 : ¬ v 0 8 = 3 := by unfold KR SGN NumR at hk; omega
      rw [if_neg c2, if_pos rfl, if_neg e8, c_ref, bs1, gdb_t (by first | decide | omega), r_wrong, bs1, gdb_t (by first | decide | omega)]
      exact s_ref h 1 rfl rfl
end Q35
