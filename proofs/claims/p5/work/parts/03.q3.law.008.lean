section Q37
variable {m v : Mem} {S : Int} {D : Nat}
theorem s_joint {a : Nat} {F : Int} {ws : List Int} {L : Nat} (ha : aOk D a) (hF : 0 ≤ F) (h : PostR m v S) (hL : LI m v D a F ws L) (hw : v 0 50 = 0) : SOut (G5_takeJoint m a) (G12_signs v) m v D a F S := by
  by_cases c37 : m 47 4 = 37
  · exact s_close ha hF h hL hw c37
  have hk := h.2.2.2.2.2.2.2
  have e8 : ¬ (v 0 8 = 4 ∧ v 0 9 = 41) := by unfold KR SGN NumR at hk; omega
  have ha' := ha
  unfold aOk at ha'
  unfold G5_takeJoint G5_takeJoint_0 G12_signs G12_signs_0
  rw [if_neg c37, r_sign, if_neg e8, bs1, c_strg, bs1]
  simp only [if_true]
  rcases r_47 hk with ⟨j, ej⟩ | ⟨j, ej⟩
  · obtain ⟨w1, w2, w3⟩ := jOk_w j
    have st := wSt_b w1
    have s28 : wSt 28 = 4 := by decide
    have cm0 : ¬ wCm (m 47 4) = 0 := by unfold wCm; unfold jOk at j; repeat (first | omega | split)
    rw [ej, if_neg (show ¬ wSt (m 47 4) = 0 by first | decide | omega), if_neg w3, c_strg, bs1, s28]
    unfold G12_signs_147
    rw [if_neg cm0, r_rkw w1, bs1]
    dsimp only
    by_cases c4 : wSt (m 47 4) = 4
    · rw [if_pos c4, if_pos c4]
      unfold G5_takeJoint_55 G5_takeJoint_71 G12_signs_175
      rw [if_neg i10, c4, gd3_t (by first | decide | omega), show (4 : Int) + 1 = 5 by first | decide | omega]
      obtain ⟨m1, v1, ws1, L1, y1, y2, y3, y4, y5, y6, y7, y8⟩ := hL.rel ha hF (x2 := 5) (by first | decide | omega) h hw
      have e50 : v1 0 50 = 0 := by rw [y4 0 50 (by unfold QRl; first | decide | omega)]; exact hw
      have e47 : m1 47 4 = m 47 4 := y3 47 4 (by unfold PRl; first | decide | omega)
      rw [y1, bs1, y2, bs1, if_neg i10, r_rkw w1, bs1]
      simp only [if_pos c4]
      refine s_tr (m1 := m1) (v1 := v1) ?_ (y3.mono PRl_l) (y4.mono QRl_l) (by rw [y3 47 3 (by unfold PRl; first | decide | omega)]; first | decide | omega) e47
      have fin : SOut (G5_takeJoint_92 m1 (m 47 4)) (G12_signs_217 v1 (wCm (m 47 4))) m1 v1 D a F S := s_92 ha hF y6 y5 e50 j (by unfold jOk at j; first | decide | omega)
      unfold G5_waitsForLike G5_waitsForLike_0
      rcases ws1 with _ | ⟨x, r⟩
      · have w1 : m1 46 2 = 0 := y5.2.1.1
        have w2 : v1 0 46 = 0 := y5.2.1.2.1
        rw [w1, if_pos (by first | decide | omega), bs1]
        simp only [if_true]
        rw [w2, if_pos (by first | decide | omega)]
        exact fin
      · have hl : ((x :: r).length : Int) = r.length + 1 := by simp
        have er : (r.length : Int) + 1 - 1 = r.length := by omega
        have w1' : m1 46 2 = r.length + 1 := by rw [y5.2.1.1]; exact hl
        have w2' : v1 0 46 = r.length + 1 := by rw [y5.2.1.2.1]; exact hl
        have w3' : m1 50 r.length = x := y5.2.1.2.2.1.1
        have w4' : v1 21 r.length = wCm x := by have z := y5.2.1.2.2.2.1.1; rw [List.length_map] at z; exact z
        have ok : wOk x := y5.2.1.2.2.2.2 x (by simp)
        have cr := c_len (x :: r)
        obtain ⟨h1, h2, h3, h4, h5, h6, h7, h8⟩ := y5
        obtain ⟨_, hF2, _⟩ := h3
        have hL0 : (0 : Int) ≤ L1 := by omega
        rw [w1', if_neg (show ¬ (r.length : Int) + 1 ≤ 0 by first | decide | omega), er, gdx_t (by first | decide | omega), w3', c_strg, bs1, c_strg, bs1, s28, w2', if_neg (show ¬ (r.length : Int) + 1 ≤ 0 by first | decide | omega), er, gdx_t (by first | decide | omega), w4', r_rkw ok, bs1]
        dsimp only
        by_cases c44 : wSt x = 4
        · rw [if_pos c44, if_pos c44, bs1, if_neg i10, c_ref, bs1, gdb_t (by first | decide | omega), r_wrong, bs1, gdb_t (by first | decide | omega)]
          exact s_ref y6 1 rfl rfl
        · rw [if_neg c44, if_neg c44, bs1, if_pos rfl]
          exact fin
    · rw [if_neg c4, if_neg c4]
      unfold G5_takeJoint_55 G5_takeJoint_71 G12_signs_175
      rw [if_pos rfl, r_rkw w1, bs1]
      dsimp only
      obtain ⟨m1, v1, ws1, L1, y1, y2, y3, y4, y5, y6, y7, y8⟩ := hL.rel ha hF (x2 := wSt (m 47 4)) (by first | decide | omega) h hw
      have e50 : v1 0 50 = 0 := by rw [y4 0 50 (by unfold QRl; first | decide | omega)]; exact hw
      have e47 : m1 47 4 = m 47 4 := y3 47 4 (by unfold PRl; first | decide | omega)
      rw [y1, bs1, y2, bs1, if_pos rfl, r_rkw w1, bs1]
      dsimp only
      rw [if_neg c4]
      exact s_tr (s_92 ha hF y6 y5 e50 j (by unfold jOk at j; first | decide | omega)) (y3.mono PRl_l) (y4.mono QRl_l) (by rw [y3 47 3 (by unfold PRl; first | decide | omega)]; first | decide | omega) e47
  · rw [ej]
    unfold G12_signs_147
    have e35 : G5_takeJoint_35 m = some (0, up (up m 46 8 1) 46 9 (m 47 5)) := by unfold G5_takeJoint_35; rw [c_ref, bs1, gdb_t (by first | decide | omega)]
    rw [if_pos (show (0 : Int) = 0 from rfl), r_wrong, bs1, gdb_t (by first | decide | omega)]
    rcases jOk_s j with q | q
    · rw [if_pos q, e35]
      exact s_ref h 1 rfl rfl
    · have : ¬ wSt (m 47 4) = 0 := by rw [q]; decide
      rw [if_neg this, if_pos q, e35]
      exact s_ref h 1 rfl rfl
/-- all the pieces of a law -/
theorem l_sumL {a : Nat} {F : Int} (ha : aOk D a) (hF : 0 ≤ F) (hS : S ≤ 700) : ∀ (d n : Nat) (x : Int) (m v : Mem) (ws : List Int) (L : Nat), (701 - x).toNat = d → d < n → 0 ≤ x → x ≤ m 47 3 → PreR m v S → LI m v D a F ws L → ∃ m' v', Fm (PLw D a) m m' ∧ Fm (QLw F) v v' ∧ m 47 3 ≤ m' 47 3 ∧ ((G5_readLaw_33 n m a x = some (1, m') ∧ G12_sumRead_25 n v = some (1, v') ∧ PostR m' v' S ∧ m' 47 4 = 38 ∧ v' 0 50 = 0 ∧ ∃ L', LI m' v' D a F [] L') ∨ (G5_readLaw_33 n m a x = some (0, m') ∧ G12_sumRead_25 n v = some (0, v') ∧ FLT m' v')) := by
  intro d
  induction d with
  | zero =>
    intro n x m v ws L h1 h2 h3 h4 p hL
    have := p.2.2.2.2.1
    omega
  | succ d ih =>
    intro n x m v ws L h1 h2 h3 h4 p hL
    obtain ⟨n, rfl⟩ : ∃ j, n = j + 1 := ⟨n - 1, by first | decide | omega⟩
    have hp := p.2.2.2.2.1
    obtain ⟨m1, e1, f1, p1, q1, q2⟩ := p.adv
    have f1' := f1.mono P47_k
    have hL1 := hL.k ha f1' (Fm.rf (m := v))
    have hk := p1.2.2.2.2.2.2.2
    have e6 := hL1.2.2.2.2.2.1
    have e4 := hL1.2.2.2.1
    have cl := c_len ws
    -- a step was made
    have go : ∀ X Y : Option (Int × Mem), SOut X Y m1 v D a F S → ∃ m' v', Fm (PLw D a) m m' ∧ Fm (QLw F) v v' ∧ m 47 3 ≤ m' 47 3 ∧ (((X.bind fun o => if o.1 = 0 then some (0, o.2) else gd3 (x + 1) (G5_readLaw_33 n o.2 a (x + 1))) = some (1, m') ∧ (Y.bind fun o => if o.1 = 0 then some (0, o.2) else G12_sumRead_25 n o.2) = some (1, v') ∧ PostR m' v' S ∧ m' 47 4 = 38 ∧ v' 0 50 = 0 ∧ ∃ L', LI m' v' D a F [] L') ∨ ((X.bind fun o => if o.1 = 0 then some (0, o.2) else gd3 (x + 1) (G5_readLaw_33 n o.2 a (x + 1))) = some (0, m') ∧ (Y.bind fun o => if o.1 = 0 then some (0, o.2) else G12_sumRead_25 n o.2) = some (0, v') ∧ FLT m' v')) := by
      intro X Y hs
      obtain ⟨m2, v2, a1, a2, a3, k⟩ := hs
      rcases k with ⟨k1, k2, ⟨ws2, L2, k3⟩, k4, k5⟩ | ⟨k1, k2, k3⟩
      · have hp2 := k4.2.2.2.2.1
        have q3 := q2 k5
        obtain ⟨m', v', b1, b2, b3, b4⟩ := ih n (x + 1) m2 v2 ws2 L2 (by first | decide | omega) (by first | decide | omega) (by first | decide | omega) (by first | decide | omega) k4 k3
        refine ⟨m', v', ((f1'.mono Pk_l).tr a1).tr b1, a2.tr b2, by first | decide | omega, ?_⟩
        rw [k1, k2, bs1, bs1]
        simp only [if_neg i10]
        rw [gd3_t (by first | decide | omega)]
        exact b4
      · refine ⟨m2, v2, (f1'.mono Pk_l).tr a1, a2, by first | decide | omega, Or.inr ?_⟩
        rw [k1, k2, bs1, bs1]
        simp only [if_true]
        exact ⟨by first | rfl | trivial, by first | rfl | trivial, k3⟩
    rw [G5_readLaw_33, G12_sumRead_25, if_neg (by first | decide | omega), e1, bs1, r_sign, bs1]
    have hsgn : (v 0 8 = 4 ∧ v 0 9 = 59) ↔ m1 47 4 = 38 := by unfold KR SGN NumR at hk; omega
    by_cases c : m1 46 4 = 0 ∧ m1 46 3 = 0 ∧ m1 47 4 = 38
    · have e50 : v 0 50 = 0 := by omega
      obtain ⟨m2, v2, ws2, L2, y1, y2, y3, y4, y5, y6, y7, y8⟩ := hL1.rel ha hF (x2 := 1) (by first | decide | omega) p1 e50
      have hn : ws2 = [] := by
        rcases y8 with q | ⟨z, r, q, qx⟩
        · exact q
        · have ok : wOk z := y5.2.1.2.2.2.2 z (by rw [q]; simp)
          have z36 : z = 36 := (wSt_b ok).2.2.mp (by have := (wSt_b ok).1; first | decide | omega)
          have n2 : cBR ws2 = cBR r + 1 := by rw [q]; show (if z = 36 then 1 else 0) + cBR r = _; rw [if_pos z36]; omega
          have := c_len r
          omega
      rw [hn] at y5
      have e18 : v 0 48 ≤ 0 := by omega
      rw [if_pos c.1, if_pos c.2.1, if_pos c.2.2, if_pos (hsgn.mpr c.2.2), y1, bs1]
      simp only [if_neg i10]
      rw [if_pos e50, if_pos e18, y2, bs1]
      have ha' := ha
      unfold aOk at ha'
      exact ⟨m2, v2, (f1'.mono Pk_l).tr (y3.mono PRl_l), y4.mono QRl_l, by rw [y3 47 3 (by unfold PRl; first | decide | omega)]; first | decide | omega, Or.inl ⟨rfl, rfl, y6, by rw [y3 47 4 (by unfold PRl; first | decide | omega)]; exact c.2.2, by rw [y4 0 50 (by unfold QRl; first | decide | omega)]; exact e50, L2, y5⟩⟩
    · have cX : ∀ X Y : Option (Int × Mem), (if m1 46 4 = 0 then if m1 46 3 = 0 then if m1 47 4 = 38 then Y else X else X else X) = X := fun X Y => by
        by_cases z1 : m1 46 4 = 0
        · rw [if_pos z1]
          by_cases z2 : m1 46 3 = 0
          · rw [if_pos z2, if_neg (fun z3 => c ⟨z1, z2, z3⟩)]
          · rw [if_neg z2]
        · rw [if_neg z1]
      have cY : ∀ X Y : Option (Int × Mem), (if (if v 0 8 = 4 ∧ v 0 9 = 59 then (1 : Int) else 0) = 0 then X else if v 0 50 = 0 then if v 0 48 ≤ 0 then Y else X else X) = X := fun X Y => by
        by_cases z1 : v 0 8 = 4 ∧ v 0 9 = 59
        · rw [if_pos z1, if_neg i10]
          by_cases z2 : v 0 50 = 0
          · rw [if_pos z2, if_neg]
            intro z3
            exact c ⟨by first | decide | omega, by first | decide | omega, hsgn.mp z1⟩
          · rw [if_neg z2]
        · rw [if_neg z1, if_pos rfl]
      dsimp only
      rw [cX, cY]
      unfold G5_readLaw_81 G12_sumRead_48
      by_cases c4 : v 0 50 = 0
      · rw [if_pos (show m1 46 4 = 0 by first | decide | omega), if_pos c4]
        exact go _ _ (s_joint ha hF p1 hL1 c4)
      · rw [if_neg (show ¬ m1 46 4 = 0 by first | decide | omega), if_neg c4]
        exact go _ _ (s_part ha hF p1 hL1 (by first | decide | omega))
end Q37
