/-! The joints of a law, and the loop over all its pieces. -/
section Q37
variable {m v : Mem} {S : Int} {D : Nat}
theorem jOk_s {x : Int} (h : ¬ jOk x) : wSt x = 0 ∨ x = 15 := by
  by_cases c : x = 15
  · exact Or.inr c
  · left
    unfold jOk at h
    unfold wSt
    rw [if_neg c, if_neg (by omega), if_neg (by omega), if_neg (by omega), if_neg (by omega), if_neg (by omega)]
theorem s_close {a : Nat} {F : Int} {ws : List Int} {L : Nat} (ha : aOk D a) (hF : 0 ≤ F) (h : PostR m v S) (hL : LI m v D a F ws L) (hw : v 0 50 = 0) (c37 : m 47 4 = 37) : SOut (G5_takeJoint m a) (G12_signs v) m v D a F S := by
  have hk := h.2.2.2.2.2.2.2
  have e8 : v 0 8 = 4 ∧ v 0 9 = 41 := by unfold KR SGN NumR at hk; omega
  have ha' := ha
  unfold aOk at ha'
  have hL' := hL
  obtain ⟨h1, h2, h3, h4, h5, h6, h7, h8⟩ := hL'
  have cl := c_len ws
  unfold G5_takeJoint G5_takeJoint_0 G5_takeClose G5_takeClose_0 G12_signs G12_signs_0
  rw [if_pos c37, r_sign, if_pos e8, bs1]
  simp only [if_neg i10]
  rw [h4.1, h4.2.1]
  by_cases c0 : cBR ws = 0
  · rw [if_pos c0, if_pos (show cBR ws ≤ 0 by omega), c_ref, bs1, gdb_t (by omega), bs1, gdb_t (by omega)]
    rcases r_47 hk with ⟨j, _⟩ | ⟨_, j⟩
    · unfold jOk at j; omega
    · rw [j]
      unfold G12_signs_147
      rw [if_pos rfl, r_wrong, bs1, gdb_t (by omega)]
      exact s_ref h 1 rfl rfl
  · rw [if_neg c0, if_neg (show ¬ cBR ws ≤ 0 by omega)]
    obtain ⟨m1, v1, ws1, L1, y1, y2, y3, y4, y5, y6, y7, y8⟩ := hL.rel ha hF (x2 := 1) (by omega) h hw
    rw [y1, bs1, y2, bs1]
    rcases y8 with q | ⟨x, r, q, qx⟩
    · rw [q] at y7
      have : cBR ([] : List Int) = 0 := rfl
      omega
    · obtain ⟨g1, g2, g3, g4, g5, g6, g7, g8⟩ := y5
      have ok : wOk x := g2.2.2.2.2 x (by rw [q]; simp)
      have x36 : x = 36 := (wSt_b ok).2.2.mp (by have := (wSt_b ok).1; omega)
      subst x36
      have n1 : cNB (36 :: r) = cNB r := by show (if (36 : Int) = 36 then 0 else 1) + cNB r = _; rw [if_pos rfl]; omega
      have n2 : cBR (36 :: r) = cBR r + 1 := by show (if (36 : Int) = 36 then 1 else 0) + cBR r = _; rw [if_pos rfl]; omega
      have n3 : cBN (36 :: r) = cBN r := by show (if (36 : Int) = 36 ∨ (36 : Int) = 15 then 0 else 1) + cBN r = _; rw [if_pos (Or.inl rfl)]; omega
      have hl : ((36 :: r).length : Int) = r.length + 1 := by simp
      have er : (r.length : Int) + 1 - 1 = r.length := by omega
      have eb : cBR r + 1 - 1 = cBR r := by omega
      rw [q] at g2 g4 g5 g8
      rw [n1] at g5
      rw [n2] at g4
      rw [n3] at g8
      have cr := c_len r
      have w1 : m1 46 2 = r.length + 1 := by rw [g2.1]; exact hl
      have w2 : v1 0 46 = r.length + 1 := by rw [g2.2.1]; exact hl
      have u1 : up m1 46 3 (cBR r) 46 2 = r.length + 1 := by rw [up_i (by omega)]; exact w1
      have u2 : up v1 0 46 r.length 0 48 = cBR r + 1 := by rw [up_i (by omega)]; exact g4.2.1
      rw [g4.1, eb, gd3_t (by omega), wt_e, u1, if_neg (by omega), er, gd3_t (by omega), wt_e, bs1, gdb_t (Or.inr rfl), w2, er, gd3_t (by omega), wt_e, u2, eb, gd3_t (by omega), wt_e]
      have f2 : Fm (fun b i => b = 46 ∧ (i = 2 ∨ i = 3)) m1 (up (up m1 46 3 (cBR r)) 46 2 r.length) := (Fm.w1 (by omega)).w (by omega)
      have g2' : Fm (fun b i => b = 0 ∧ (i = 46 ∨ i = 48)) v1 (up (up v1 0 46 r.length) 0 48 (cBR r)) := (Fm.w1 (by omega)).w (by omega)
      have k2 : up (up m1 46 3 (cBR r)) 46 2 r.length 46 2 = r.length := up_e
      have k3 : up (up m1 46 3 (cBR r)) 46 2 r.length 46 3 = cBR r := by rw [up_i (by omega), up_e]
      have j2 : up (up v1 0 46 r.length) 0 48 (cBR r) 0 46 = r.length := by rw [up_i (by omega), up_e]
      have j3 : up (up v1 0 46 r.length) 0 48 (cBR r) 0 48 = cBR r := up_e
      generalize up (up m1 46 3 (cBR r)) 46 2 r.length = m2 at f2 k2 k3 ⊢
      generalize up (up v1 0 46 r.length) 0 48 (cBR r) = v2 at g2' j2 j3 ⊢
      have p2 : PostR m2 v2 S := y6.f f2 g2' (by intro b i q; omega) (by intro b i q; omega)
      obtain ⟨v3, z1, z2, z3⟩ := p2.tok
      have li : LI m2 v2 D a F r L1 := by
        refine ⟨by rw [f2 46 10 (by omega)]; exact g1, ⟨k2, j2, by rw [f2.rw1 (b := 50) (fun i => by omega)]; exact g2.2.2.1.2, by rw [g2'.rw1 (b := 21) (fun i => by omega)]; exact g2.2.2.2.1.2, fun x z => g2.2.2.2.2 x (List.mem_cons_of_mem _ z)⟩, g3.f (f2 a 1 (by omega)) (f2.rw1 (fun i => by omega)) (g2' 0 23 (by omega)) (g2' 0 47 (by omega)) (fun b q1 q2 q3 => g2'.rw1 (fun i => by omega)), ⟨k3, j3, by omega⟩, ?_, ?_, ?_, ?_⟩
        · rw [g2' 0 49 (by omega), f2 D 13 (by omega)]; exact g5
        · rw [g2' 0 50 (by omega), f2 46 4 (by omega)]; exact g6
        · rw [g2' 0 51 (by omega), f2 46 5 (by omega)]; exact g7
        · rw [g2' 0 50 (by omega), f2.rw1 (b := a + 1) (fun i => by omega)]; exact g8
      rw [z1, bs1]
      have e3 : m2 47 3 = m 47 3 := by rw [f2 47 3 (by omega), y3 47 3 (by unfold PRl; omega)]
      refine ⟨m2, v3, (y3.mono PRl_l).tr (f2.mono ?_), ((y4.mono QRl_l).tr (g2'.mono ?_)).tr ((z2.mono Q7_k).mono Qk_l), by omega, Or.inl ⟨rfl, rfl, ⟨r, L1, li.k ha Fm.rf (z2.mono Q7_k)⟩, z3, by omega⟩⟩
      · intro b i q; unfold PLw; omega
      · intro b i q; unfold QLw; omega
theorem s_joint {a : Nat} {F : Int} {ws : List Int} {L : Nat} (ha : aOk D a) (hF : 0 ≤ F) (h : PostR m v S) (hL : LI m v D a F ws L) (hw : v 0 50 = 0) : SOut (G5_takeJoint m a) (G12_signs v) m v D a F S := by
  by_cases c37 : m 47 4 = 37
  · exact s_close ha hF h hL hw c37
  have hk := h.2.2.2.2.2.2.2
  have e8 : ¬ (v 0 8 = 4 ∧ v 0 9 = 41) := by unfold KR SGN NumR at hk; omega
  have ha' := ha
  unfold aOk at ha'
  unfold G5_takeJoint G5_takeJoint_0 G12_signs G12_signs_0
  rw [if_neg c37, r_sign, if_neg e8, bs1, c_strg, bs1]
  simp only [if_true]
  rcases r_47 hk with ⟨j, ej⟩ | ⟨j, ej⟩
  · obtain ⟨w1, w2, w3⟩ := jOk_w j
    have st := wSt_b w1
    have s28 : wSt 28 = 4 := by decide
    have cm0 : ¬ wCm (m 47 4) = 0 := by unfold wCm; unfold jOk at j; repeat (first | omega | split)
    rw [ej, if_neg (show ¬ wSt (m 47 4) = 0 by omega), if_neg w3, c_strg, bs1, s28]
    unfold G12_signs_147
    rw [if_neg cm0, r_rkw w1, bs1]
    dsimp only
    by_cases c4 : wSt (m 47 4) = 4
    · rw [if_pos c4, if_pos c4]
      unfold G5_takeJoint_55 G5_takeJoint_71 G12_signs_175
      rw [if_neg i10, c4, gd3_t (by omega), show (4 : Int) + 1 = 5 by omega]
      obtain ⟨m1, v1, ws1, L1, y1, y2, y3, y4, y5, y6, y7, y8⟩ := hL.rel ha hF (x2 := 5) (by omega) h hw
      have e50 : v1 0 50 = 0 := by rw [y4 0 50 (by unfold QRl; omega)]; exact hw
      have e47 : m1 47 4 = m 47 4 := y3 47 4 (by unfold PRl; omega)
      rw [y1, bs1, y2, bs1, if_neg i10, r_rkw w1, bs1]
      simp only [if_pos c4]
      refine s_tr (m1 := m1) (v1 := v1) ?_ (y3.mono PRl_l) (y4.mono QRl_l) (by rw [y3 47 3 (by unfold PRl; omega)]; omega) e47
      have fin : SOut (G5_takeJoint_92 m1 (m 47 4)) (G12_signs_217 v1 (wCm (m 47 4))) m1 v1 D a F S := s_92 ha hF y6 y5 e50 j (by unfold jOk at j; omega)
      unfold G5_waitsForLike G5_waitsForLike_0
      rcases ws1 with _ | ⟨x, r⟩
      · have w1 : m1 46 2 = 0 := y5.2.1.1
        have w2 : v1 0 46 = 0 := y5.2.1.2.1
        rw [w1, if_pos (by omega), bs1]
        simp only [if_true]
        rw [w2, if_pos (by omega)]
        exact fin
      · have hl : ((x :: r).length : Int) = r.length + 1 := by simp
        have er : (r.length : Int) + 1 - 1 = r.length := by omega
        have w1' : m1 46 2 = r.length + 1 := by rw [y5.2.1.1]; exact hl
        have w2' : v1 0 46 = r.length + 1 := by rw [y5.2.1.2.1]; exact hl
        have w3' : m1 50 r.length = x := y5.2.1.2.2.1.1
        have w4' : v1 21 r.length = wCm x := by have z := y5.2.1.2.2.2.1.1; rw [List.length_map] at z; exact z
        have ok : wOk x := y5.2.1.2.2.2.2 x (by simp)
        have cr := c_len (x :: r)
        obtain ⟨h1, h2, h3, h4, h5, h6, h7, h8⟩ := y5
        obtain ⟨_, hF2, _⟩ := h3
        have hL0 : (0 : Int) ≤ L1 := by omega
        rw [w1', if_neg (show ¬ (r.length : Int) + 1 ≤ 0 by omega), er, gdx_t (by omega), w3', c_strg, bs1, c_strg, bs1, s28, w2', if_neg (show ¬ (r.length : Int) + 1 ≤ 0 by omega), er, gdx_t (by omega), w4', r_rkw ok, bs1]
        dsimp only
        by_cases c44 : wSt x = 4
        · rw [if_pos c44, if_pos c44, bs1, if_neg i10, c_ref, bs1, gdb_t (by omega), r_wrong, bs1, gdb_t (by omega)]
          exact s_ref y6 1 rfl rfl
        · rw [if_neg c44, if_neg c44, bs1, if_pos rfl]
          exact fin
    · rw [if_neg c4, if_neg c4]
      unfold G5_takeJoint_55 G5_takeJoint_71 G12_signs_175
      rw [if_pos rfl, r_rkw w1, bs1]
      dsimp only
      obtain ⟨m1, v1, ws1, L1, y1, y2, y3, y4, y5, y6, y7, y8⟩ := hL.rel ha hF (x2 := wSt (m 47 4)) (by omega) h hw
      have e50 : v1 0 50 = 0 := by rw [y4 0 50 (by unfold QRl; omega)]; exact hw
      have e47 : m1 47 4 = m 47 4 := y3 47 4 (by unfold PRl; omega)
      rw [y1, bs1, y2, bs1, if_pos rfl, r_rkw w1, bs1]
      dsimp only
      rw [if_neg c4]
      exact s_tr (s_92 ha hF y6 y5 e50 j (by unfold jOk at j; omega)) (y3.mono PRl_l) (y4.mono QRl_l) (by rw [y3 47 3 (by unfold PRl; omega)]; omega) e47
  · rw [ej]
    unfold G12_signs_147
    have e35 : G5_takeJoint_35 m = some (0, up (up m 46 8 1) 46 9 (m 47 5)) := by unfold G5_takeJoint_35; rw [c_ref, bs1, gdb_t (by omega)]
    rw [if_pos (show (0 : Int) = 0 from rfl), r_wrong, bs1, gdb_t (by omega)]
    rcases jOk_s j with q | q
    · rw [if_pos q, e35]
      exact s_ref h 1 rfl rfl
    · have : ¬ wSt (m 47 4) = 0 := by rw [q]; decide
      rw [if_neg this, if_pos q, e35]
      exact s_ref h 1 rfl rfl
/-- all the pieces of a law -/
theorem l_sumL {a : Nat} {F : Int} (ha : aOk D a) (hF : 0 ≤ F) (hS : S ≤ 700) : ∀ (d n : Nat) (x : Int) (m v : Mem) (ws : List Int) (L : Nat), (701 - x).toNat = d → d < n → 0 ≤ x → x ≤ m 47 3 → PreR m v S → LI m v D a F ws L → ∃ m' v', Fm (PLw D a) m m' ∧ Fm (QLw F) v v' ∧ m 47 3 ≤ m' 47 3 ∧ ((G5_readLaw_33 n m a x = some (1, m') ∧ G12_sumRead_25 n v = some (1, v') ∧ PostR m' v' S ∧ m' 47 4 = 38 ∧ v' 0 50 = 0 ∧ ∃ L', LI m' v' D a F [] L') ∨ (G5_readLaw_33 n m a x = some (0, m') ∧ G12_sumRead_25 n v = some (0, v') ∧ FLT m' v')) := by
  intro d
  induction d with
  | zero =>
    intro n x m v ws L h1 h2 h3 h4 p hL
    have := p.2.2.2.2.1
    omega
  | succ d ih =>
    intro n x m v ws L h1 h2 h3 h4 p hL
    obtain ⟨n, rfl⟩ : ∃ j, n = j + 1 := ⟨n - 1, by omega⟩
    have hp := p.2.2.2.2.1
    obtain ⟨m1, e1, f1, p1, q1, q2⟩ := p.adv
    have f1' := f1.mono P47_k
    have hL1 := hL.k ha f1' (Fm.rf (m := v))
    have hk := p1.2.2.2.2.2.2.2
    have e6 := hL1.2.2.2.2.2.1
    have e4 := hL1.2.2.2.1
    have cl := c_len ws
    -- a step was made
    have go : ∀ X Y : Option (Int × Mem), SOut X Y m1 v D a F S → ∃ m' v', Fm (PLw D a) m m' ∧ Fm (QLw F) v v' ∧ m 47 3 ≤ m' 47 3 ∧ (((X.bind fun o => if o.1 = 0 then some (0, o.2) else gd3 (x + 1) (G5_readLaw_33 n o.2 a (x + 1))) = some (1, m') ∧ (Y.bind fun o => if o.1 = 0 then some (0, o.2) else G12_sumRead_25 n o.2) = some (1, v') ∧ PostR m' v' S ∧ m' 47 4 = 38 ∧ v' 0 50 = 0 ∧ ∃ L', LI m' v' D a F [] L') ∨ ((X.bind fun o => if o.1 = 0 then some (0, o.2) else gd3 (x + 1) (G5_readLaw_33 n o.2 a (x + 1))) = some (0, m') ∧ (Y.bind fun o => if o.1 = 0 then some (0, o.2) else G12_sumRead_25 n o.2) = some (0, v') ∧ FLT m' v')) := by
      intro X Y hs
      obtain ⟨m2, v2, a1, a2, a3, k⟩ := hs
      rcases k with ⟨k1, k2, ⟨ws2, L2, k3⟩, k4, k5⟩ | ⟨k1, k2, k3⟩
      · have hp2 := k4.2.2.2.2.1
        have q3 := q2 k5
        obtain ⟨m', v', b1, b2, b3, b4⟩ := ih n (x + 1) m2 v2 ws2 L2 (by omega) (by omega) (by omega) (by omega) k4 k3
        refine ⟨m', v', ((f1'.mono Pk_l).tr a1).tr b1, a2.tr b2, by omega, ?_⟩
        rw [k1, k2, bs1, bs1]
        simp only [if_neg i10]
        rw [gd3_t (by omega)]
        exact b4
      · refine ⟨m2, v2, (f1'.mono Pk_l).tr a1, a2, by omega, Or.inr ?_⟩
        rw [k1, k2, bs1, bs1]
        simp only [if_true]
        exact ⟨by first | rfl | trivial, by first | rfl | trivial, k3⟩
    rw [G5_readLaw_33, G12_sumRead_25, if_neg (by omega), e1, bs1, r_sign, bs1]
    have hsgn : (v 0 8 = 4 ∧ v 0 9 = 59) ↔ m1 47 4 = 38 := by unfold KR SGN NumR at hk; omega
    by_cases c : m1 46 4 = 0 ∧ m1 46 3 = 0 ∧ m1 47 4 = 38
    · have e50 : v 0 50 = 0 := by omega
      obtain ⟨m2, v2, ws2, L2, y1, y2, y3, y4, y5, y6, y7, y8⟩ := hL1.rel ha hF (x2 := 1) (by omega) p1 e50
      have hn : ws2 = [] := by
        rcases y8 with q | ⟨z, r, q, qx⟩
        · exact q
        · have ok : wOk z := y5.2.1.2.2.2.2 z (by rw [q]; simp)
          have z36 : z = 36 := (wSt_b ok).2.2.mp (by have := (wSt_b ok).1; omega)
          have n2 : cBR ws2 = cBR r + 1 := by rw [q]; show (if z = 36 then 1 else 0) + cBR r = _; rw [if_pos z36]; omega
          have := c_len r
          omega
      rw [hn] at y5
      have e18 : v 0 48 ≤ 0 := by omega
      rw [if_pos c.1, if_pos c.2.1, if_pos c.2.2, if_pos (hsgn.mpr c.2.2), y1, bs1]
      simp only [if_neg i10]
      rw [if_pos e50, if_pos e18, y2, bs1]
      have ha' := ha
      unfold aOk at ha'
      exact ⟨m2, v2, (f1'.mono Pk_l).tr (y3.mono PRl_l), y4.mono QRl_l, by rw [y3 47 3 (by unfold PRl; omega)]; omega, Or.inl ⟨rfl, rfl, y6, by rw [y3 47 4 (by unfold PRl; omega)]; exact c.2.2, by rw [y4 0 50 (by unfold QRl; omega)]; exact e50, L2, y5⟩⟩
    · have cX : ∀ X Y : Option (Int × Mem), (if m1 46 4 = 0 then if m1 46 3 = 0 then if m1 47 4 = 38 then Y else X else X else X) = X := fun X Y => by
        by_cases z1 : m1 46 4 = 0
        · rw [if_pos z1]
          by_cases z2 : m1 46 3 = 0
          · rw [if_pos z2, if_neg (fun z3 => c ⟨z1, z2, z3⟩)]
          · rw [if_neg z2]
        · rw [if_neg z1]
      have cY : ∀ X Y : Option (Int × Mem), (if (if v 0 8 = 4 ∧ v 0 9 = 59 then (1 : Int) else 0) = 0 then X else if v 0 50 = 0 then if v 0 48 ≤ 0 then Y else X else X) = X := fun X Y => by
        by_cases z1 : v 0 8 = 4 ∧ v 0 9 = 59
        · rw [if_pos z1, if_neg i10]
          by_cases z2 : v 0 50 = 0
          · rw [if_pos z2, if_neg]
            intro z3
            exact c ⟨by omega, by omega, hsgn.mp z1⟩
          · rw [if_neg z2]
        · rw [if_neg z1, if_pos rfl]
      dsimp only
      rw [cX, cY]
      unfold G5_readLaw_81 G12_sumRead_48
      by_cases c4 : v 0 50 = 0
      · rw [if_pos (show m1 46 4 = 0 by omega), if_pos c4]
        exact go _ _ (s_joint ha hF p1 hL1 c4)
      · rw [if_neg (show ¬ m1 46 4 = 0 by omega), if_neg c4]
        exact go _ _ (s_part ha hF p1 hL1 (by omega))
end Q37
