/-! The pure functions do so (written by wip/gen/gx.py). -/
theorem S0_sharePair_0 {h : PH} (H : OKX h) {x1i : Int32} {x1 : Int} (ex1 : x1i = Z3 x1) (qx1 : r3 x1) {x2i : Int32} {x2 : Int} (ex2 : x2i = Z3 x2) (qx2 : r3 x2) {x3i : Int32} {x3 : Int} (ex3 : x3i = Z3 x3) (qx3 : r3 x3) {x4i : Int32} {x4 : Int} (ex4 : x4i = Z3 x4) (qx4 : r3 x4) {x5i : Int32} {x5 : Int} (ex5 : x5i = Z3 x5) (qx5 : r3 x5) : SimV OKX (F0_sharePair_0 h 99 x1i x2i x3i x4i x5i) (G0_sharePair_0 (rd h) x1 x2 x3 x4 x5) := by
  subst ex1 ex2 ex3 ex4 ex5
  unfold F0_sharePair_0 G0_sharePair_0
  exact S0_sharePair_9 1024 H rfl qx1 rfl qx2 rfl qx4 rfl qx5 l3_0 lr3_0 l3_0 lr3_0 rfl qx3
theorem S0_sharePair {h : PH} (H : OKX h) {x1i : Int32} {x1 : Int} (ex1 : x1i = Z3 x1) (qx1 : r3 x1) {x2i : Int32} {x2 : Int} (ex2 : x2i = Z3 x2) (qx2 : r3 x2) {x3i : Int32} {x3 : Int} (ex3 : x3i = Z3 x3) (qx3 : r3 x3) {x4i : Int32} {x4 : Int} (ex4 : x4i = Z3 x4) (qx4 : r3 x4) {x5i : Int32} {x5 : Int} (ex5 : x5i = Z3 x5) (qx5 : r3 x5) : SimV OKX (F0_sharePair h 99 x1i x2i x3i x4i x5i) (G0_sharePair (rd h) x1 x2 x3 x4 x5) := by
  subst ex1 ex2 ex3 ex4 ex5
  unfold F0_sharePair G0_sharePair
  refine sm_cd (x_ok_0 H) ?_
  exact S0_sharePair_0 H rfl qx1 rfl qx2 rfl qx3 rfl qx4 rfl qx5
theorem S0_playGame_83 {k40 : PH → Nat → Nat → Int32 → Int32 → Int32 → Int32 → Option PH} {kk40 : Mem → Nat → Int → Int → Int → Int → Option Mem} (hk40 : ∀ {h : PH} (_ : OKX h) {a2 : Nat} (_ : A6 a2) {x3 : Int32} {y3 : Int} (_ : x3 = Z3 y3) (_ : r3 y3) {x4 : Int32} {y4 : Int} (_ : x4 = Z3 y4) (_ : r3 y4) {x5 : Int32} {y5 : Int} (_ : x5 = Z3 y5) (_ : r3 y5) {x6 : Int32} {y6 : Int} (_ : x6 = Z3 y6) (_ : r3 y6), SimV OKX (k40 h 99 a2 x3 x4 x5 x6) (kk40 (rd h) a2 y3 y4 y5 y6)) {k49 : PH → Nat → Nat → Int32 → Int32 → Int32 → Int32 → Int32 → Option PH} {kk49 : Mem → Nat → Int → Int → Int → Int → Int → Option Mem} (hk49 : ∀ {h : PH} (_ : OKX h) {a2 : Nat} (_ : A6 a2) {x3 : Int32} {y3 : Int} (_ : x3 = Z3 y3) (_ : r3 y3) {x4 : Int32} {y4 : Int} (_ : x4 = Z3 y4) (_ : r3 y4) {x5 : Int32} {y5 : Int} (_ : x5 = Z3 y5) (_ : r3 y5) {x6 : Int32} {y6 : Int} (_ : x6 = Z3 y6) (_ : r3 y6) {x7 : Int32} {y7 : Int} (_ : x7 = Z3 y7) (_ : r3 y7), SimV OKX (k49 h 99 a2 x3 x4 x5 x6 x7) (kk49 (rd h) a2 y3 y4 y5 y6 y7)) {h : PH} (H : OKX h) {a1 : Nat} (ha1 : A6 a1) {x3i : Int32} {x3 : Int} (ex3 : x3i = Z3 x3) (qx3 : r3 x3) {x4i : Int32} {x4 : Int} (ex4 : x4i = Z3 x4) (qx4 : r3 x4) {x5i : Int32} {x5 : Int} (ex5 : x5i = Z3 x5) (qx5 : r3 x5) {x6i : Int32} {x6 : Int} (ex6 : x6i = Z3 x6) (qx6 : r3 x6) {x7i : Int32} {x7 : Int} (ex7 : x7i = Z3 x7) (qx7 : r3 x7) {s0i : Int32} {s0 : Int} (es0 : s0i = Z3 s0) (qs0 : r3 s0) {s1i : Int32} {s1 : Int} (es1 : s1i = Z3 s1) (qs1 : r3 s1) {s2i : Int32} {s2 : Int} (es2 : s2i = Z3 s2) (qs2 : r3 s2) {s3i : Int32} {s3 : Int} (es3 : s3i = Z3 s3) (qs3 : r3 s3) {s4i : Int32} {s4 : Int} (es4 : s4i = Z3 s4) (qs4 : r3 s4) : SimV OKX (F0_playGame_83 k40 k49 h 99 a1 x3i x4i x5i x6i x7i s0i s1i s2i s3i s4i 99) (G0_playGame_83 kk40 kk49 (rd h) a1 x3 x4 x5 x6 x7 s0 s1 s2 s3 s4) := by
  subst ex3 ex4 ex5 ex6 ex7 es0 es1 es2 es3 es4
  unfold F0_playGame_83 G0_playGame_83
  refine sm_VV (S0_sharePair H rfl qs4 rfl qs3 rfl qs2 rfl qs1 rfl qs0) fun ho1 Ho1 => ?_
  refine sg3V fun c1 => ?_
  exact hk49 Ho1 ha1 rfl qx3 rfl qx4 rfl qx5 rfl qx6 (z3_add rfl l3_1) c1
theorem S0_playGame_49 {k40 : PH → Nat → Nat → Int32 → Int32 → Int32 → Int32 → Option PH} {kk40 : Mem → Nat → Int → Int → Int → Int → Option Mem} (hk40 : ∀ {h : PH} (_ : OKX h) {a2 : Nat} (_ : A6 a2) {x3 : Int32} {y3 : Int} (_ : x3 = Z3 y3) (_ : r3 y3) {x4 : Int32} {y4 : Int} (_ : x4 = Z3 y4) (_ : r3 y4) {x5 : Int32} {y5 : Int} (_ : x5 = Z3 y5) (_ : r3 y5) {x6 : Int32} {y6 : Int} (_ : x6 = Z3 y6) (_ : r3 y6), SimV OKX (k40 h 99 a2 x3 x4 x5 x6) (kk40 (rd h) a2 y3 y4 y5 y6)) (n : Nat) : ∀ {h : PH} (H : OKX h) {a1 : Nat} (ha1 : A6 a1) {x3i : Int32} {x3 : Int} (ex3 : x3i = Z3 x3) (qx3 : r3 x3) {x4i : Int32} {x4 : Int} (ex4 : x4i = Z3 x4) (qx4 : r3 x4) {x5i : Int32} {x5 : Int} (ex5 : x5i = Z3 x5) (qx5 : r3 x5) {x6i : Int32} {x6 : Int} (ex6 : x6i = Z3 x6) (qx6 : r3 x6) {x7i : Int32} {x7 : Int} (ex7 : x7i = Z3 x7) (qx7 : r3 x7), SimV OKX (F0_playGame_49 k40 n h 99 a1 x3i x4i x5i x6i x7i) (G0_playGame_49 kk40 n (rd h) a1 x3 x4 x5 x6 x7) := by
  induction n with
  | zero => intros; exact smV_none _
  | succ n ih =>
    intro h H a1 ha1 x3i x3 ex3 qx3 x4i x4 ex4 qx4 x5i x5 ex5 qx5 x6i x6 ex6 qx6 x7i x7 ex7 qx7
    subst ex3 ex4 ex5 ex6 ex7
    rw [F0_playGame_49, G0_playGame_49]
    refine sm_if (z3_le l3_5 rfl lr3_5 qx7) ?_ ?_
    · refine sg3V fun c1 => ?_
      exact hk40 H ha1 rfl qx3 rfl qx4 rfl qx5 (z3_add rfl l3_1) c1
    · refine sm_rd (x_gR_6_0 H ha1) ?_
      refine sm_rd (x_gR_8_5 H (x_v_6_0 H ha1)) ?_
      refine sm_rd (x_gI_10_1 H (ao_8_5 (x_v_6_0 H ha1))).1 ?_
      refine sm_if (z3_le rfl rfl qx4 qx3) ?_ ?_
      · exact S0_playGame_83 hk40 (@fun _ H _ ha1 _ _ ex3 qx3 _ _ ex4 qx4 _ _ ex5 qx5 _ _ ex6 qx6 _ _ ex7 qx7 => ih H ha1 ex3 qx3 ex4 qx4 ex5 qx5 ex6 qx6 ex7 qx7) H ha1 rfl qx3 rfl qx4 rfl qx5 rfl qx6 rfl qx7 l3_0 lr3_0 rfl ((x_gI_10_1 H (ao_8_5 (x_v_6_0 H ha1))).2) rfl qx5 rfl qx7 rfl qx6
      · exact S0_playGame_83 hk40 (@fun _ H _ ha1 _ _ ex3 qx3 _ _ ex4 qx4 _ _ ex5 qx5 _ _ ex6 qx6 _ _ ex7 qx7 => ih H ha1 ex3 qx3 ex4 qx4 ex5 qx5 ex6 qx6 ex7 qx7) H ha1 rfl qx3 rfl qx4 rfl qx5 rfl qx6 rfl qx7 l3_1 lr3_1 rfl ((x_gI_10_1 H (ao_8_5 (x_v_6_0 H ha1))).2) rfl qx5 rfl qx7 rfl qx6
theorem S0_playGame_40 (n : Nat) : ∀ {h : PH} (H : OKX h) {a1 : Nat} (ha1 : A6 a1) {x3i : Int32} {x3 : Int} (ex3 : x3i = Z3 x3) (qx3 : r3 x3) {x4i : Int32} {x4 : Int} (ex4 : x4i = Z3 x4) (qx4 : r3 x4) {x5i : Int32} {x5 : Int} (ex5 : x5i = Z3 x5) (qx5 : r3 x5) {x6i : Int32} {x6 : Int} (ex6 : x6i = Z3 x6) (qx6 : r3 x6), SimV OKX (F0_playGame_40 n h 99 a1 x3i x4i x5i x6i) (G0_playGame_40 n (rd h) a1 x3 x4 x5 x6) := by
  induction n with
  | zero => intros; exact smV_none _
  | succ n ih =>
    intro h H a1 ha1 x3i x3 ex3 qx3 x4i x4 ex4 qx4 x5i x5 ex5 qx5 x6i x6 ex6 qx6
    subst ex3 ex4 ex5 ex6
    rw [F0_playGame_40, G0_playGame_40]
    refine sm_if (z3_le l3_5 rfl lr3_5 qx6) ?_ ?_
    · refine sm_VV (S0_findRests H) fun ho2 Ho2 => ?_
      exact sm_retV Ho2
    · exact S0_playGame_49 (@fun _ H _ ha1 _ _ ex3 qx3 _ _ ex4 qx4 _ _ ex5 qx5 _ _ ex6 qx6 => ih H ha1 ex3 qx3 ex4 qx4 ex5 qx5 ex6 qx6) 1024 H ha1 rfl qx3 rfl qx4 rfl qx5 rfl qx6 l3_0 lr3_0
theorem S0_playGame_0 {h : PH} (H : OKX h) {a1 : Nat} (ha1 : A6 a1) {a2 : Nat} (ha2 : A4 a2) {x3i : Int32} {x3 : Int} (ex3 : x3i = Z3 x3) (qx3 : r3 x3) {x4i : Int32} {x4 : Int} (ex4 : x4i = Z3 x4) (qx4 : r3 x4) : SimV OKX (F0_playGame_0 h 99 a1 a2 x3i x4i) (G0_playGame_0 (rd h) a1 a2 x3 x4) := by
  subst ex3 ex4
  unfold F0_playGame_0 G0_playGame_0
  refine sm_rd (x_gR_6_0 H ha1) ?_
  refine sm_rd (x_gR_8_5 H (x_v_6_0 H ha1)) ?_
  refine sm_rd (x_gI_4_0 H ha2).1 ?_
  refine sm_IV (S10_firstFrom H (ao_8_5 (x_v_6_0 H ha1)) rfl ((x_gI_4_0 H ha2).2)) fun vo7 ho7 Ho7 ro7 => ?_
  refine sm_VV (S0_weighWays Ho7 ha1 ha2 rfl qx3 l3_0 lr3_0 rfl ro7) fun ho9 Ho9 => ?_
  refine sm_VV (S0_weighWays Ho9 ha1 ha2 rfl qx4 l3_5 lr3_5 rfl ro7) fun ho11 Ho11 => ?_
  exact S0_playGame_40 1024 Ho11 ha1 rfl qx3 rfl qx4 rfl ro7 l3_0 lr3_0
theorem S0_playGame {h : PH} (H : OKX h) {a1 : Nat} (ha1 : A6 a1) {a2 : Nat} (ha2 : A4 a2) {x3i : Int32} {x3 : Int} (ex3 : x3i = Z3 x3) (qx3 : r3 x3) {x4i : Int32} {x4 : Int} (ex4 : x4i = Z3 x4) (qx4 : r3 x4) : SimV OKX (F0_playGame h 99 a1 a2 x3i x4i) (G0_playGame (rd h) a1 a2 x3 x4) := by
  subst ex3 ex4
  unfold F0_playGame G0_playGame
  refine sm_cd (x_ok_0 H) ?_
  exact S0_playGame_0 H ha1 ha2 rfl qx3 rfl qx4
theorem S1_add_0 {h : PH} (H : OKX h) {a0 : Nat} (ha0 : A1 a0) {x1i : Int32} {x1 : Int} (ex1 : x1i = Z3 x1) (qx1 : r3 x1) {x2i : Int32} {x2 : Int} (ex2 : x2i = Z3 x2) (qx2 : r3 x2) {x3i : Int32} {x3 : Int} (ex3 : x3i = Z3 x3) (qx3 : r3 x3) {x4i : Int32} {x4 : Int} (ex4 : x4i = Z3 x4) (qx4 : r3 x4) {x5i : Int32} {x5 : Int} (ex5 : x5i = Z3 x5) (qx5 : r3 x5) {x6i : Int32} {x6 : Int} (ex6 : x6i = Z3 x6) (qx6 : r3 x6) : SimV OKX (F1_add_0 h a0 x1i x2i x3i x4i x5i x6i) (G1_add_0 (rd h) a0 x1 x2 x3 x4 x5 x6) := by
  subst ex1 ex2 ex3 ex4 ex5 ex6
  unfold F1_add_0 G1_add_0
  refine sm_rd (x_gI_1_0 H ha0).1 ?_
  refine sm_if (z3_lt rfl l3_5 (x_gI_1_0 H ha0).2 lr3_5) ?_ ?_
  · refine sm_rd (x_gR_1_1 H ha0) ?_
    refine sm_rd (x_gI_1_0 H ha0).1 ?_
    refine sgxV fun c1 => ?_
    refine sm_wt (x_sI_1_1 H (ao_1_1 ha0) rfl c1 rfl qx1) fun h9 Hh9 => ?_
    refine sm_rd (x_gR_1_2 Hh9 ha0) ?_
    refine sm_rd (x_gI_1_0 Hh9 ha0).1 ?_
    refine sgxV fun c2 => ?_
    refine sm_wt (x_sI_1_2 Hh9 (ao_1_2 ha0) rfl c2 rfl qx2) fun h15 Hh15 => ?_
    refine sm_rd (x_gR_1_3 Hh15 ha0) ?_
    refine sm_rd (x_gI_1_0 Hh15 ha0).1 ?_
    refine sgxV fun c3 => ?_
    refine sm_wt (x_sI_1_3 Hh15 (ao_1_3 ha0) rfl c3 rfl qx3) fun h21 Hh21 => ?_
    refine sm_rd (x_gR_1_4 Hh21 ha0) ?_
    refine sm_rd (x_gI_1_0 Hh21 ha0).1 ?_
    refine sgxV fun c4 => ?_
    refine sm_wt (x_sI_1_4 Hh21 (ao_1_4 ha0) rfl c4 rfl qx4) fun h27 Hh27 => ?_
    refine sm_rd (x_gR_1_5 Hh27 ha0) ?_
    refine sm_rd (x_gI_1_0 Hh27 ha0).1 ?_
    refine sgxV fun c5 => ?_
    refine sm_wt (x_sI_1_5 Hh27 (ao_1_5 ha0) rfl c5 rfl qx5) fun h33 Hh33 => ?_
    refine sm_rd (x_gR_1_6 Hh33 ha0) ?_
    refine sm_rd (x_gI_1_0 Hh33 ha0).1 ?_
    refine sgxV fun c6 => ?_
    refine sm_wt (x_sI_1_6 Hh33 (ao_1_6 ha0) rfl c6 rfl qx6) fun h39 Hh39 => ?_
    refine sm_rd (x_gI_1_0 Hh39 ha0).1 ?_
    refine sg3V fun c7 => ?_
    refine sm_wt (x_pI_1_0 Hh39 ha0 (z3_add rfl l3_1) c7) fun h42 Hh42 => ?_
    exact sm_retV Hh42
  · exact sm_retV H
theorem S1_add {h : PH} (H : OKX h) {a0 : Nat} (ha0 : A1 a0) {x1i : Int32} {x1 : Int} (ex1 : x1i = Z3 x1) (qx1 : r3 x1) {x2i : Int32} {x2 : Int} (ex2 : x2i = Z3 x2) (qx2 : r3 x2) {x3i : Int32} {x3 : Int} (ex3 : x3i = Z3 x3) (qx3 : r3 x3) {x4i : Int32} {x4 : Int} (ex4 : x4i = Z3 x4) (qx4 : r3 x4) {x5i : Int32} {x5 : Int} (ex5 : x5i = Z3 x5) (qx5 : r3 x5) {x6i : Int32} {x6 : Int} (ex6 : x6i = Z3 x6) (qx6 : r3 x6) : SimV OKX (F1_add h a0 x1i x2i x3i x4i x5i x6i) (G1_add (rd h) a0 x1 x2 x3 x4 x5 x6) := by
  subst ex1 ex2 ex3 ex4 ex5 ex6
  unfold F1_add G1_add
  refine sm_cd (x_ok_1 H ha0) ?_
  exact S1_add_0 H ha0 rfl qx1 rfl qx2 rfl qx3 rfl qx4 rfl qx5 rfl qx6
theorem S1_hasName_2 (n : Nat) : ∀ {h : PH} (H : OKX h) {a0 : Nat} (ha0 : A1 a0) {x1i : Int32} {x1 : Int} (ex1 : x1i = Z3 x1) (qx1 : r3 x1) {x2i : Int32} {x2 : Int} (ex2 : x2i = Z3 x2) (qx2 : r3 x2), SimI OKX (F1_hasName_2 n h a0 x1i x2i) (G1_hasName_2 n (rd h) a0 x1 x2) := by
  induction n with
  | zero => intros; exact smI_none _
  | succ n ih =>
    intro h H a0 ha0 x1i x1 ex1 qx1 x2i x2 ex2 qx2
    subst ex1 ex2
    rw [F1_hasName_2, G1_hasName_2]
    refine sm_rd (x_gI_1_0 H ha0).1 ?_
    refine sm_if (z3_le rfl rfl (x_gI_1_0 H ha0).2 qx2) ?_ ?_
    · exact sm_rz H l3_0 (by decide)
    · refine sm_rd (x_gR_1_1 H ha0) ?_
      refine sgxI fun c1 => ?_
      refine sm_rd (x_aI_1_1 H (ao_1_1 ha0) rfl c1).1 ?_
      refine sm_if (z3_eq rfl rfl (x_aI_1_1 H (ao_1_1 ha0) rfl c1).2 qx1) ?_ ?_
      · exact sm_rz H l3_1 (by decide)
      · refine sg3I fun c2 => ?_
        exact ih H ha0 rfl qx1 (z3_add rfl l3_1) c2
theorem S1_hasName_0 {h : PH} (H : OKX h) {a0 : Nat} (ha0 : A1 a0) {x1i : Int32} {x1 : Int} (ex1 : x1i = Z3 x1) (qx1 : r3 x1) : SimI OKX (F1_hasName_0 h a0 x1i) (G1_hasName_0 (rd h) a0 x1) := by
  subst ex1
  unfold F1_hasName_0 G1_hasName_0
  exact S1_hasName_2 1024 H ha0 rfl qx1 l3_0 lr3_0
theorem S1_hasName {h : PH} (H : OKX h) {a0 : Nat} (ha0 : A1 a0) {x1i : Int32} {x1 : Int} (ex1 : x1i = Z3 x1) (qx1 : r3 x1) : SimI OKX (F1_hasName h a0 x1i) (G1_hasName (rd h) a0 x1) := by
  subst ex1
  unfold F1_hasName G1_hasName
  refine sm_cd (x_ok_1 H ha0) ?_
  exact S1_hasName_0 H ha0 rfl qx1
theorem S2_add_0 {h : PH} (H : OKX h) {a0 : Nat} (ha0 : A2 a0) {x1i : Int32} {x1 : Int} (ex1 : x1i = Z3 x1) (qx1 : r3 x1) : SimV OKX (F2_add_0 h a0 x1i) (G2_add_0 (rd h) a0 x1) := by
  subst ex1
  unfold F2_add_0 G2_add_0
  refine sm_rd (x_gI_2_1 H ha0).1 ?_
  refine sm_rd (x_gR_2_0 H ha0) ?_
  refine sm_rd (x_aL_2_0 H (ao_2_0 ha0)) ?_
  refine sm_if (z3_le rfl rfl lr3_64 (x_gI_2_1 H ha0).2) ?_ ?_
  · exact sm_retV H
  · refine sm_rd (x_gR_2_0 H ha0) ?_
    refine sm_rd (x_gI_2_1 H ha0).1 ?_
    refine sgxV fun c1 => ?_
    refine sm_wt (x_sI_2_0 H (ao_2_0 ha0) rfl c1 rfl qx1) fun h13 Hh13 => ?_
    refine sm_rd (x_gI_2_1 Hh13 ha0).1 ?_
    refine sg3V fun c2 => ?_
    refine sm_wt (x_pI_2_1 Hh13 ha0 (z3_add rfl l3_1) c2) fun h16 Hh16 => ?_
    exact sm_retV Hh16
theorem S2_add {h : PH} (H : OKX h) {a0 : Nat} (ha0 : A2 a0) {x1i : Int32} {x1 : Int} (ex1 : x1i = Z3 x1) (qx1 : r3 x1) : SimV OKX (F2_add h a0 x1i) (G2_add (rd h) a0 x1) := by
  subst ex1
  unfold F2_add G2_add
  refine sm_cd (x_ok_2 H ha0) ?_
  exact S2_add_0 H ha0 rfl qx1
theorem S2_forget_0 {h : PH} (H : OKX h) {a0 : Nat} (ha0 : A2 a0) : SimV OKX (F2_forget_0 h a0) (G2_forget_0 (rd h) a0) := by
  unfold F2_forget_0 G2_forget_0
  refine sm_wt (x_pI_2_1 H ha0 l3_0 lr3_0) fun h1 Hh1 => ?_
  refine sm_wt (x_pZ_2_2 Hh1 ha0 l3_0 (by decide)) fun h3 Hh3 => ?_
  exact sm_retV Hh3
theorem S2_forget {h : PH} (H : OKX h) {a0 : Nat} (ha0 : A2 a0) : SimV OKX (F2_forget h a0) (G2_forget (rd h) a0) := by
  unfold F2_forget G2_forget
  refine sm_cd (x_ok_2 H ha0) ?_
  exact S2_forget_0 H ha0
theorem S3_addSeat_0 {h : PH} (H : OKX h) {x1i : Int32} {x1 : Int} (ex1 : x1i = Z3 x1) (qx1 : r3 x1) {x2i : Int32} {x2 : Int} (ex2 : x2i = Z3 x2) (qx2 : r3 x2) {x3i : Int32} {x3 : Int} (ex3 : x3i = Z3 x3) (qx3 : r3 x3) : SimI OKX (F3_addSeat_0 h 90 x1i x2i x3i) (G3_addSeat_0 (rd h) x1 x2 x3) := by
  subst ex1 ex2 ex3
  unfold F3_addSeat_0 G3_addSeat_0
  refine sm_rd (x_gI_3_0 H).1 ?_
  refine sm_if (z3_lt rfl l3_24 (x_gI_3_0 H).2 lr3_24) ?_ ?_
  · refine sm_rd (x_gR_3_2 H) ?_
    refine sm_rd (x_gI_3_0 H).1 ?_
    refine sgxI fun c1 => ?_
    refine sm_wt (x_sI_3_2 H rfl c1 rfl qx1) fun h9 Hh9 => ?_
    refine sm_rd (x_gR_3_3 Hh9) ?_
    refine sm_rd (x_gI_3_0 Hh9).1 ?_
    refine sgxI fun c2 => ?_
    refine sm_wt (x_sI_3_3 Hh9 rfl c2 rfl qx2) fun h15 Hh15 => ?_
    refine sm_rd (x_gR_3_4 Hh15) ?_
    refine sm_rd (x_gI_3_0 Hh15).1 ?_
    refine sgxI fun c3 => ?_
    refine sm_wt (x_sI_3_4 Hh15 rfl c3 rfl qx3) fun h21 Hh21 => ?_
    refine sm_rd (x_gR_3_5 Hh21) ?_
    refine sm_rd (x_gI_3_0 Hh21).1 ?_
    refine sgxI fun c4 => ?_
    refine sm_wt (x_sI_3_5 Hh21 rfl c4 l3_m1 lr3_m1) fun h27 Hh27 => ?_
    refine sm_rd (x_gI_3_0 Hh27).1 ?_
    refine sg3I fun c5 => ?_
    refine sm_wt (x_pI_3_0 Hh27 (z3_add rfl l3_1) c5) fun h30 Hh30 => ?_
    refine sm_rd (x_gI_3_0 Hh30).1 ?_
    refine sg3I fun c6 => ?_
    exact sm_retI Hh30 (z3_sub rfl l3_1) c6
  · exact sm_retI H l3_m1 lr3_m1
theorem S3_addSeat {h : PH} (H : OKX h) {x1i : Int32} {x1 : Int} (ex1 : x1i = Z3 x1) (qx1 : r3 x1) {x2i : Int32} {x2 : Int} (ex2 : x2i = Z3 x2) (qx2 : r3 x2) {x3i : Int32} {x3 : Int} (ex3 : x3i = Z3 x3) (qx3 : r3 x3) : SimI OKX (F3_addSeat h 90 x1i x2i x3i) (G3_addSeat (rd h) x1 x2 x3) := by
  subst ex1 ex2 ex3
  unfold F3_addSeat G3_addSeat
  refine sm_cd (x_ok_3 H) ?_
  exact S3_addSeat_0 H rfl qx1 rfl qx2 rfl qx3
theorem S3_addStrike_0 {h : PH} (H : OKX h) {x1i : Int32} {x1 : Int} (ex1 : x1i = Z3 x1) (qx1 : r3 x1) : SimI OKX (F3_addStrike_0 h 90 x1i) (G3_addStrike_0 (rd h) x1) := by
  subst ex1
  unfold F3_addStrike_0 G3_addStrike_0
  refine sm_rd (x_gI_3_0 H).1 ?_
  refine sm_if (z3_lt rfl l3_24 (x_gI_3_0 H).2 lr3_24) ?_ ?_
  · refine sm_rd (x_gR_3_3 H) ?_
    refine sm_rd (x_gI_3_0 H).1 ?_
    refine sgxI fun c1 => ?_
    refine sm_wt (x_sI_3_3 H rfl c1 l3_m1 lr3_m1) fun h9 Hh9 => ?_
    refine sm_rd (x_gR_3_5 Hh9) ?_
    refine sm_rd (x_gI_3_0 Hh9).1 ?_
    refine sgxI fun c2 => ?_
    refine sm_wt (x_sI_3_5 Hh9 rfl c2 rfl qx1) fun h15 Hh15 => ?_
    refine sm_rd (x_gI_3_0 Hh15).1 ?_
    refine sg3I fun c3 => ?_
    refine sm_wt (x_pI_3_0 Hh15 (z3_add rfl l3_1) c3) fun h18 Hh18 => ?_
    refine sm_rd (x_gI_3_0 Hh18).1 ?_
    refine sg3I fun c4 => ?_
    exact sm_retI Hh18 (z3_sub rfl l3_1) c4
  · exact sm_retI H l3_m1 lr3_m1
theorem S3_addStrike {h : PH} (H : OKX h) {x1i : Int32} {x1 : Int} (ex1 : x1i = Z3 x1) (qx1 : r3 x1) : SimI OKX (F3_addStrike h 90 x1i) (G3_addStrike (rd h) x1) := by
  subst ex1
  unfold F3_addStrike G3_addStrike
  refine sm_cd (x_ok_3 H) ?_
  exact S3_addStrike_0 H rfl qx1
theorem S3_howManyKnown_0 {h : PH} (H : OKX h) : SimI OKX (F3_howManyKnown_0 h 90) (G3_howManyKnown_0 (rd h)) := by
  unfold F3_howManyKnown_0 G3_howManyKnown_0
  refine sm_rd (x_gI_3_1 H).1 ?_
  refine sm_if (z3_eq rfl l3_m1 (x_gI_3_1 H).2 lr3_m1) ?_ ?_
  · refine sm_rd (x_gI_3_0 H).1 ?_
    exact sm_retI H rfl (x_gI_3_0 H).2
  · refine sm_rd (x_gI_3_1 H).1 ?_
    exact sm_retI H rfl (x_gI_3_1 H).2
theorem S3_howManyKnown {h : PH} (H : OKX h) : SimI OKX (F3_howManyKnown h 90) (G3_howManyKnown (rd h)) := by
  unfold F3_howManyKnown G3_howManyKnown
  refine sm_cd (x_ok_3 H) ?_
  exact S3_howManyKnown_0 H
theorem S3_findStruck_29 (n : Nat) : ∀ {h : PH} (H : OKX h) {x2i : Int32} {x2 : Int} (ex2 : x2i = Z3 x2) (qx2 : r3 x2), SimV OKX (F3_findStruck_29 n h 90 x2i) (G3_findStruck_29 n (rd h) x2) := by
  induction n with
  | zero => intros; exact smV_none _
  | succ n ih =>
    intro h H x2i x2 ex2 qx2
    subst ex2
    rw [F3_findStruck_29, G3_findStruck_29]
    refine sm_if (z3_lt rfl l3_0 qx2 lr3_0) ?_ ?_
    · exact sm_retV H
    · refine sm_rd (x_gR_3_6 H) ?_
      refine sgxV fun c1 => ?_
      refine sm_rd (x_aI_3_6 H rfl c1).1 ?_
      refine sm_if (z3_eq rfl l3_0 (x_aI_3_6 H rfl c1).2 lr3_0) ?_ ?_
      · refine sm_rd (x_gR_3_5 H) ?_
        refine sgxV fun c2 => ?_
        refine sm_rd (x_aI_3_5 H rfl c2).1 ?_
        refine sm_if (z3_eq rfl l3_m1 (x_aI_3_5 H rfl c2).2 lr3_m1) ?_ ?_
        · refine sg3V fun c3 => ?_
          exact ih H (z3_add rfl l3_m1) c3
        · refine sm_rd (x_gR_3_6 H) ?_
          refine sm_rd (x_gR_3_5 H) ?_
          refine sgxV fun c4 => ?_
          refine sm_rd (x_aI_3_5 H rfl c4).1 ?_
          refine sgxV fun c5 => ?_
          refine sgbV fun c6 => ?_
          refine sm_wt (x_sI_3_6 H rfl c5 (z3_bo l3_1 c6) (r3_b c6)) fun h19 Hh19 => ?_
          refine sg3V fun c7 => ?_
          exact ih Hh19 (z3_add rfl l3_m1) c7
      · refine sg3V fun c8 => ?_
        exact ih H (z3_add rfl l3_m1) c8
theorem S3_findStruck_7 (n : Nat) : ∀ {h : PH} (H : OKX h) {x1i : Int32} {x1 : Int} (ex1 : x1i = Z3 x1) (qx1 : r3 x1) {x2i : Int32} {x2 : Int} (ex2 : x2i = Z3 x2) (qx2 : r3 x2), SimV OKX (F3_findStruck_7 n h 90 x1i x2i) (G3_findStruck_7 n (rd h) x1 x2) := by
  induction n with
  | zero => intros; exact smV_none _
  | succ n ih =>
    intro h H x1i x1 ex1 qx1 x2i x2 ex2 qx2
    subst ex1 ex2
    rw [F3_findStruck_7, G3_findStruck_7]
    refine sm_if (z3_le rfl rfl qx1 qx2) ?_ ?_
    · refine sg3V fun c1 => ?_
      exact S3_findStruck_29 1024 H (z3_sub rfl l3_1) c1
    · refine sm_rd (x_gR_3_6 H) ?_
      refine sgxV fun c2 => ?_
      refine sgbV fun c3 => ?_
      refine sm_wt (x_sI_3_6 H rfl c2 (z3_bo l3_0 c3) (r3_b c3)) fun h5 Hh5 => ?_
      refine sg3V fun c4 => ?_
      exact ih Hh5 rfl qx1 (z3_add rfl l3_1) c4
theorem S3_findStruck_0 {h : PH} (H : OKX h) : SimV OKX (F3_findStruck_0 h 90) (G3_findStruck_0 (rd h)) := by
  unfold F3_findStruck_0 G3_findStruck_0
  refine sm_IV (S3_howManyKnown H) fun vo1 ho1 Ho1 ro1 => ?_
  exact S3_findStruck_7 1024 Ho1 rfl ro1 l3_0 lr3_0
theorem S3_findStruck {h : PH} (H : OKX h) : SimV OKX (F3_findStruck h 90) (G3_findStruck (rd h)) := by
  unfold F3_findStruck G3_findStruck
  refine sm_cd (x_ok_3 H) ?_
  exact S3_findStruck_0 H
theorem S3_isKnownSeat_0 {h : PH} (H : OKX h) {x1i : Int32} {x1 : Int} (ex1 : x1i = Z3 x1) (qx1 : r3 x1) : SimI OKX (F3_isKnownSeat_0 h 90 x1i) (G3_isKnownSeat_0 (rd h) x1) := by
  subst ex1
  unfold F3_isKnownSeat_0 G3_isKnownSeat_0
  refine sm_rd (x_gR_3_6 H) ?_
  refine sgxI fun c1 => ?_
  refine sm_rd (x_aI_3_6 H rfl c1).1 ?_
  refine sm_if (z3_eq rfl l3_0 (x_aI_3_6 H rfl c1).2 lr3_0) ?_ ?_
  · refine sm_rd (x_gR_3_5 H) ?_
    refine sgxI fun c2 => ?_
    refine sm_rd (x_aI_3_5 H rfl c2).1 ?_
    refine sm_if (z3_eq rfl l3_m1 (x_aI_3_5 H rfl c2).2 lr3_m1) ?_ ?_
    · exact sm_rz H l3_1 (by decide)
    · exact sm_rz H l3_0 (by decide)
  · exact sm_rz H l3_0 (by decide)
theorem S3_isKnownSeat {h : PH} (H : OKX h) {x1i : Int32} {x1 : Int} (ex1 : x1i = Z3 x1) (qx1 : r3 x1) : SimI OKX (F3_isKnownSeat h 90 x1i) (G3_isKnownSeat (rd h) x1) := by
  subst ex1
  unfold F3_isKnownSeat G3_isKnownSeat
  refine sm_cd (x_ok_3 H) ?_
  exact S3_isKnownSeat_0 H rfl qx1
theorem S4_begin_89 (n : Nat) : ∀ {h : PH} (H : OKX h) {a0 : Nat} (ha0 : A4 a0) {x2i : Int32} {x2 : Int} (ex2 : x2i = Z3 x2) (qx2 : r3 x2), SimV OKX (F4_begin_89 n h a0 x2i) (G4_begin_89 n (rd h) a0 x2) := by
  induction n with
  | zero => intros; exact smV_none _
  | succ n ih =>
    intro h H a0 ha0 x2i x2 ex2 qx2
    subst ex2
    rw [F4_begin_89, G4_begin_89]
    refine sm_if (z3_le l3_28 rfl lr3_28 qx2) ?_ ?_
    · exact sm_retV H
    · refine sm_rd (x_gR_4_10 H ha0) ?_
      refine sgxV fun c1 => ?_
      refine sm_wt (x_sI_4_10 H (ao_4_10 ha0) rfl c1 l3_m2 lr3_m2) fun h5 Hh5 => ?_
      refine sg3V fun c2 => ?_
      exact ih Hh5 ha0 (z3_add rfl l3_1) c2
theorem S4_begin_33 (n : Nat) : ∀ {h : PH} (H : OKX h) {a0 : Nat} (ha0 : A4 a0) {a1 : Nat} (ha1 : A8 a1) {x2i : Int32} {x2 : Int} (ex2 : x2i = Z3 x2) (qx2 : r3 x2), SimV OKX (F4_begin_33 n h a0 a1 x2i) (G4_begin_33 n (rd h) a0 a1 x2) := by
  induction n with
  | zero => intros; exact smV_none _
  | succ n ih =>
    intro h H a0 ha0 a1 ha1 x2i x2 ex2 qx2
    subst ex2
    rw [F4_begin_33, G4_begin_33]
    refine sm_if (z3_le l3_5 rfl lr3_5 qx2) ?_ ?_
    · exact S4_begin_89 1024 H ha0 l3_0 lr3_0
    · refine sm_rd (x_gR_4_5 H ha0) ?_
      refine sm_rd (x_gR_8_4 H ha1) ?_
      refine sm_rd (x_gR_1_2 H (ao_8_4 ha1)) ?_
      refine sgxV fun c1 => ?_
      refine sm_rd (x_aI_1_2 H (ao_1_2 (ao_8_4 ha1)) rfl c1).1 ?_
      refine sgxV fun c2 => ?_
      refine sm_wt (x_sI_4_5 H (ao_4_5 ha0) rfl c2 rfl (x_aI_1_2 H (ao_1_2 (ao_8_4 ha1)) rfl c1).2) fun h11 Hh11 => ?_
      refine sm_rd (x_gR_4_6 Hh11 ha0) ?_
      refine sgxV fun c3 => ?_
      refine sm_wt (x_sI_4_6 Hh11 (ao_4_6 ha0) rfl c3 l3_0 lr3_0) fun h15 Hh15 => ?_
      refine sm_rd (x_gR_4_7 Hh15 ha0) ?_
      refine sgxV fun c4 => ?_
      refine sm_wt (x_sI_4_7 Hh15 (ao_4_7 ha0) rfl c4 l3_0 lr3_0) fun h19 Hh19 => ?_
      refine sm_rd (x_gR_4_8 Hh19 ha0) ?_
      refine sgxV fun c5 => ?_
      refine sm_wt (x_sI_4_8 Hh19 (ao_4_8 ha0) rfl c5 l3_0 lr3_0) fun h23 Hh23 => ?_
      refine sm_rd (x_gR_4_9 Hh23 ha0) ?_
      refine sgxV fun c6 => ?_
      refine sm_wt (x_sI_4_9 Hh23 (ao_4_9 ha0) rfl c6 l3_0 lr3_0) fun h27 Hh27 => ?_
      refine sg3V fun c7 => ?_
      exact ih Hh27 ha0 ha1 (z3_add rfl l3_1) c7
theorem S4_begin_0 {h : PH} (H : OKX h) {a0 : Nat} (ha0 : A4 a0) {a1 : Nat} (ha1 : A8 a1) : SimV OKX (F4_begin_0 h a0 a1) (G4_begin_0 (rd h) a0 a1) := by
  unfold F4_begin_0 G4_begin_0
  refine sm_wt (x_pI_4_0 H ha0 l3_0 lr3_0) fun h1 Hh1 => ?_
  refine sm_rd (x_gI_8_9 Hh1 ha1).1 ?_
  refine sm_wt (x_pI_4_1 Hh1 ha0 rfl (x_gI_8_9 Hh1 ha1).2) fun h5 Hh5 => ?_
  refine sm_rd (x_gI_8_10 Hh5 ha1).1 ?_
  refine sm_wt (x_pI_4_2 Hh5 ha0 rfl (x_gI_8_10 Hh5 ha1).2) fun h9 Hh9 => ?_
  refine sm_wt (x_pI_4_3 Hh9 ha0 l3_0 lr3_0) fun h11 Hh11 => ?_
  refine sm_wt (x_pI_4_4 Hh11 ha0 l3_0 lr3_0) fun h13 Hh13 => ?_
  exact S4_begin_33 1024 Hh13 ha0 ha1 l3_0 lr3_0
theorem S4_begin {h : PH} (H : OKX h) {a0 : Nat} (ha0 : A4 a0) {a1 : Nat} (ha1 : A8 a1) : SimV OKX (F4_begin h a0 a1) (G4_begin (rd h) a0 a1) := by
  unfold F4_begin G4_begin
  refine sm_cd (x_ok_4 H ha0) ?_
  exact S4_begin_0 H ha0 ha1
theorem S4_isIn_0 {h : PH} (H : OKX h) {a0 : Nat} (ha0 : A4 a0) {x1i : Int32} {x1 : Int} (ex1 : x1i = Z3 x1) (qx1 : r3 x1) {x2i : Int32} {x2 : Int} (ex2 : x2i = Z3 x2) (qx2 : r3 x2) : SimI OKX (F4_isIn_0 h a0 x1i x2i) (G4_isIn_0 (rd h) a0 x1 x2) := by
  subst ex1 ex2
  unfold F4_isIn_0 G4_isIn_0
  refine sm_rd (x_gR_4_8 H ha0) ?_
  refine sgxI fun c1 => ?_
  refine sm_rd (x_aI_4_8 H (ao_4_8 ha0) rfl c1).1 ?_
  refine sm_if (z3_lt rfl rfl qx2 (x_aI_4_8 H (ao_4_8 ha0) rfl c1).2) ?_ ?_
  · exact sm_rz H l3_0 (by decide)
  · exact sm_rz H l3_1 (by decide)
theorem S4_isIn {h : PH} (H : OKX h) {a0 : Nat} (ha0 : A4 a0) {x1i : Int32} {x1 : Int} (ex1 : x1i = Z3 x1) (qx1 : r3 x1) {x2i : Int32} {x2 : Int} (ex2 : x2i = Z3 x2) (qx2 : r3 x2) : SimI OKX (F4_isIn h a0 x1i x2i) (G4_isIn (rd h) a0 x1 x2) := by
  subst ex1 ex2
  unfold F4_isIn G4_isIn
  refine sm_cd (x_ok_4 H ha0) ?_
  exact S4_isIn_0 H ha0 rfl qx1 rfl qx2
theorem S4_beginMinute_36 {k12 : PH → Nat → Int32 → Int32 → Option PH} {kk12 : Mem → Nat → Int → Int → Option Mem} (hk12 : ∀ {h : PH} (_ : OKX h) {a1 : Nat} (_ : A4 a1) {x2 : Int32} {y2 : Int} (_ : x2 = Z3 y2) (_ : r3 y2) {x3 : Int32} {y3 : Int} (_ : x3 = Z3 y3) (_ : r3 y3), SimV OKX (k12 h a1 x2 x3) (kk12 (rd h) a1 y2 y3)) {h : PH} (H : OKX h) {a0 : Nat} (ha0 : A4 a0) {x1i : Int32} {x1 : Int} (ex1 : x1i = Z3 x1) (qx1 : r3 x1) {x2i : Int32} {x2 : Int} (ex2 : x2i = Z3 x2) (qx2 : r3 x2) : SimV OKX (F4_beginMinute_36 k12 h a0 x1i x2i) (G4_beginMinute_36 kk12 (rd h) a0 x1 x2) := by
  subst ex1 ex2
  unfold F4_beginMinute_36 G4_beginMinute_36
  refine sm_rd (x_gR_4_9 H ha0) ?_
  refine sgxV fun c1 => ?_
  refine sm_wt (x_sI_4_9 H (ao_4_9 ha0) rfl c1 l3_0 lr3_0) fun h4 Hh4 => ?_
  refine sg3V fun c2 => ?_
  exact hk12 Hh4 ha0 rfl qx1 (z3_add rfl l3_1) c2
theorem S4_beginMinute_12 (n : Nat) : ∀ {h : PH} (H : OKX h) {a0 : Nat} (ha0 : A4 a0) {x1i : Int32} {x1 : Int} (ex1 : x1i = Z3 x1) (qx1 : r3 x1) {x2i : Int32} {x2 : Int} (ex2 : x2i = Z3 x2) (qx2 : r3 x2), SimV OKX (F4_beginMinute_12 n h a0 x1i x2i) (G4_beginMinute_12 n (rd h) a0 x1 x2) := by
  induction n with
  | zero => intros; exact smV_none _
  | succ n ih =>
    intro h H a0 ha0 x1i x1 ex1 qx1 x2i x2 ex2 qx2
    subst ex1 ex2
    rw [F4_beginMinute_12, G4_beginMinute_12]
    refine sm_if (z3_le rfl rfl qx1 qx2) ?_ ?_
    · exact sm_retV H
    · refine sm_rd (x_gI_4_0 H ha0).1 ?_
      refine sm_IV (S4_isIn H ha0 rfl qx2 rfl ((x_gI_4_0 H ha0).2)) fun vo4 ho4 Ho4 ro4 => ?_
      refine sm_if (z3_eq rfl l3_0 ro4 lr3_0) ?_ ?_
      · exact S4_beginMinute_36 (@fun _ H _ ha0 _ _ ex1 qx1 _ _ ex2 qx2 => ih H ha0 ex1 qx1 ex2 qx2) Ho4 ha0 rfl qx1 rfl qx2
      · refine sm_rd (x_gR_4_8 Ho4 ha0) ?_
        refine sgxV fun c1 => ?_
        refine sm_wt (x_sI_4_8 Ho4 (ao_4_8 ha0) rfl c1 l3_0 lr3_0) fun h10 Hh10 => ?_
        exact S4_beginMinute_36 (@fun _ H _ ha0 _ _ ex1 qx1 _ _ ex2 qx2 => ih H ha0 ex1 qx1 ex2 qx2) Hh10 ha0 rfl qx1 rfl qx2
theorem S4_beginMinute_0 {h : PH} (H : OKX h) {a0 : Nat} (ha0 : A4 a0) {x1i : Int32} {x1 : Int} (ex1 : x1i = Z3 x1) (qx1 : r3 x1) : SimV OKX (F4_beginMinute_0 h a0 x1i) (G4_beginMinute_0 (rd h) a0 x1) := by
  subst ex1
  unfold F4_beginMinute_0 G4_beginMinute_0
  refine sm_rd (x_gI_4_0 H ha0).1 ?_
  refine sg3V fun c1 => ?_
  refine sm_wt (x_pI_4_0 H ha0 (z3_add rfl l3_1) c1) fun h3 Hh3 => ?_
  exact S4_beginMinute_12 1024 Hh3 ha0 rfl qx1 l3_0 lr3_0
theorem S4_beginMinute {h : PH} (H : OKX h) {a0 : Nat} (ha0 : A4 a0) {x1i : Int32} {x1 : Int} (ex1 : x1i = Z3 x1) (qx1 : r3 x1) : SimV OKX (F4_beginMinute h a0 x1i) (G4_beginMinute (rd h) a0 x1) := by
  subst ex1
  unfold F4_beginMinute G4_beginMinute
  refine sm_cd (x_ok_4 H ha0) ?_
  exact S4_beginMinute_0 H ha0 rfl qx1
theorem S4_drawHundredth_0 {h : PH} (H : OKX h) {a0 : Nat} (ha0 : A4 a0) : SimI OKX (F4_drawHundredth_0 h a0) (G4_drawHundredth_0 (rd h) a0) := by
  unfold F4_drawHundredth_0 G4_drawHundredth_0
  refine sm_rd (x_gI_4_2 H ha0).1 ?_
  refine sg3I fun c1 => ?_
  refine sm_wt (x_pI_4_2 H ha0 (z6_to3 (z6_an (z6_add (z6_mul (z3_to6 rfl (x_gI_4_2 H ha0).2) l6_1103515245) l6_12345) l6_2147483647)) c1) fun h3 Hh3 => ?_
  refine sm_rd (x_gI_4_2 Hh3 ha0).1 ?_
  refine sgdI fun c2 => ?_
  exact sm_retI Hh3 (z3_rem (z3_sr rfl (z3_an l3_16 l3_31)) l3_100 (r3_of _) lr3_100 c2) (r3_rem (r3_of _) lr3_100 c2)
theorem S4_drawHundredth {h : PH} (H : OKX h) {a0 : Nat} (ha0 : A4 a0) : SimI OKX (F4_drawHundredth h a0) (G4_drawHundredth (rd h) a0) := by
  unfold F4_drawHundredth G4_drawHundredth
  refine sm_cd (x_ok_4 H ha0) ?_
  exact S4_drawHundredth_0 H ha0
theorem S4_hadInSum_4 (n : Nat) : ∀ {h : PH} (H : OKX h) {a0 : Nat} (ha0 : A4 a0) {x1i : Int32} {x1 : Int} (ex1 : x1i = Z3 x1) (qx1 : r3 x1) {x2i : Int32} {x2 : Int} (ex2 : x2i = Z3 x2) (qx2 : r3 x2) {x3i : Int32} {x3 : Int} (ex3 : x3i = Z3 x3) (qx3 : r3 x3), SimI OKX (F4_hadInSum_4 n h a0 x1i x2i x3i) (G4_hadInSum_4 n (rd h) a0 x1 x2 x3) := by
  induction n with
  | zero => intros; exact smI_none _
  | succ n ih =>
    intro h H a0 ha0 x1i x1 ex1 qx1 x2i x2 ex2 qx2 x3i x3 ex3 qx3
    subst ex1 ex2 ex3
    rw [F4_hadInSum_4, G4_hadInSum_4]
    refine sm_if (z3_le rfl rfl qx1 qx3) ?_ ?_
    · exact sm_retI H rfl qx2
    · refine sm_rd (x_gR_4_6 H ha0) ?_
      refine sgxI fun c1 => ?_
      refine sm_rd (x_aI_4_6 H (ao_4_6 ha0) rfl c1).1 ?_
      refine sg3I fun c2 => ?_
      refine sg3I fun c3 => ?_
      exact ih H ha0 rfl qx1 (z3_add rfl rfl) c2 (z3_add rfl l3_1) c3
theorem S4_hadInSum_0 {h : PH} (H : OKX h) {a0 : Nat} (ha0 : A4 a0) {x1i : Int32} {x1 : Int} (ex1 : x1i = Z3 x1) (qx1 : r3 x1) : SimI OKX (F4_hadInSum_0 h a0 x1i) (G4_hadInSum_0 (rd h) a0 x1) := by
  subst ex1
  unfold F4_hadInSum_0 G4_hadInSum_0
  exact S4_hadInSum_4 1024 H ha0 rfl qx1 l3_0 lr3_0 l3_0 lr3_0
theorem S4_hadInSum {h : PH} (H : OKX h) {a0 : Nat} (ha0 : A4 a0) {x1i : Int32} {x1 : Int} (ex1 : x1i = Z3 x1) (qx1 : r3 x1) : SimI OKX (F4_hadInSum h a0 x1i) (G4_hadInSum (rd h) a0 x1) := by
  subst ex1
  unfold F4_hadInSum G4_hadInSum
  refine sm_cd (x_ok_4 H ha0) ?_
  exact S4_hadInSum_0 H ha0 rfl qx1
theorem S4_leaveOut_0 {h : PH} (H : OKX h) {a0 : Nat} (ha0 : A4 a0) {x1i : Int32} {x1 : Int} (ex1 : x1i = Z3 x1) (qx1 : r3 x1) : SimV OKX (F4_leaveOut_0 h a0 x1i) (G4_leaveOut_0 (rd h) a0 x1) := by
  subst ex1
  unfold F4_leaveOut_0 G4_leaveOut_0
  refine sm_rd (x_gR_4_8 H ha0) ?_
  refine sgxV fun c1 => ?_
  refine sm_wt (x_sI_4_8 H (ao_4_8 ha0) rfl c1 l3_2147483647 lr3_2147483647) fun h4 Hh4 => ?_
  exact sm_retV Hh4
theorem S4_leaveOut {h : PH} (H : OKX h) {a0 : Nat} (ha0 : A4 a0) {x1i : Int32} {x1 : Int} (ex1 : x1i = Z3 x1) (qx1 : r3 x1) : SimV OKX (F4_leaveOut h a0 x1i) (G4_leaveOut (rd h) a0 x1) := by
  subst ex1
  unfold F4_leaveOut G4_leaveOut
  refine sm_cd (x_ok_4 H ha0) ?_
  exact S4_leaveOut_0 H ha0 rfl qx1
theorem S4_seatAll_2 (n : Nat) : ∀ {h : PH} (H : OKX h) {a0 : Nat} (ha0 : A4 a0) {x1i : Int32} {x1 : Int} (ex1 : x1i = Z3 x1) (qx1 : r3 x1) {x2i : Int32} {x2 : Int} (ex2 : x2i = Z3 x2) (qx2 : r3 x2), SimV OKX (F4_seatAll_2 n h a0 x1i x2i) (G4_seatAll_2 n (rd h) a0 x1 x2) := by
  induction n with
  | zero => intros; exact smV_none _
  | succ n ih =>
    intro h H a0 ha0 x1i x1 ex1 qx1 x2i x2 ex2 qx2
    subst ex1 ex2
    rw [F4_seatAll_2, G4_seatAll_2]
    refine sm_if (z3_le l3_5 rfl lr3_5 qx2) ?_ ?_
    · exact sm_retV H
    · refine sm_rd (x_gR_4_5 H ha0) ?_
      refine sgxV fun c1 => ?_
      refine sm_wt (x_sI_4_5 H (ao_4_5 ha0) rfl c1 rfl qx1) fun h5 Hh5 => ?_
      refine sg3V fun c2 => ?_
      exact ih Hh5 ha0 rfl qx1 (z3_add rfl l3_1) c2
theorem S4_seatAll_0 {h : PH} (H : OKX h) {a0 : Nat} (ha0 : A4 a0) {x1i : Int32} {x1 : Int} (ex1 : x1i = Z3 x1) (qx1 : r3 x1) : SimV OKX (F4_seatAll_0 h a0 x1i) (G4_seatAll_0 (rd h) a0 x1) := by
  subst ex1
  unfold F4_seatAll_0 G4_seatAll_0
  exact S4_seatAll_2 1024 H ha0 rfl qx1 l3_0 lr3_0
theorem S4_seatAll {h : PH} (H : OKX h) {a0 : Nat} (ha0 : A4 a0) {x1i : Int32} {x1 : Int} (ex1 : x1i = Z3 x1) (qx1 : r3 x1) : SimV OKX (F4_seatAll h a0 x1i) (G4_seatAll (rd h) a0 x1) := by
  subst ex1
  unfold F4_seatAll G4_seatAll
  refine sm_cd (x_ok_4 H ha0) ?_
  exact S4_seatAll_0 H ha0 rfl qx1
theorem S4_takeAll_0 {h : PH} (H : OKX h) {a0 : Nat} (ha0 : A4 a0) {a1 : Nat} (ha1 : A4 a1) : SimV OKX (F4_takeAll_0 h a0 a1) (G4_takeAll_0 (rd h) a0 a1) := by
  unfold F4_takeAll_0 G4_takeAll_0
  refine sm_rd (x_gI_4_0 H ha1).1 ?_
  refine sm_wt (x_pI_4_0 H ha0 rfl (x_gI_4_0 H ha1).2) fun h3 Hh3 => ?_
  refine sm_rd (x_gI_4_1 Hh3 ha1).1 ?_
  refine sm_wt (x_pI_4_1 Hh3 ha0 rfl (x_gI_4_1 Hh3 ha1).2) fun h7 Hh7 => ?_
  refine sm_rd (x_gI_4_2 Hh7 ha1).1 ?_
  refine sm_wt (x_pI_4_2 Hh7 ha0 rfl (x_gI_4_2 Hh7 ha1).2) fun h11 Hh11 => ?_
  refine sm_rd (x_gI_4_3 Hh11 ha1).1 ?_
  refine sm_wt (x_pI_4_3 Hh11 ha0 rfl (x_gI_4_3 Hh11 ha1).2) fun h15 Hh15 => ?_
  refine sm_rd (x_gI_4_4 Hh15 ha1).1 ?_
  refine sm_wt (x_pI_4_4 Hh15 ha0 rfl (x_gI_4_4 Hh15 ha1).2) fun h19 Hh19 => ?_
  refine sm_rd (x_gR_4_5 Hh19 ha1) ?_
  refine sm_rd (x_gR_4_5 Hh19 ha0) ?_
  refine sm_wt (x_cp Hh19 (x_row_4_5 Hh19 (ao_4_5 ha1)) (x_row_4_5 Hh19 (ao_4_5 ha0)) l3_0 l3_0 l3_5 (by decide) (by decide) (by decide) (nr_4_5 (ao_4_5 ha0))) fun h25 Hh25 => ?_
  refine sm_rd (x_gR_4_6 Hh25 ha1) ?_
  refine sm_rd (x_gR_4_6 Hh25 ha0) ?_
  refine sm_wt (x_cp Hh25 (x_row_4_6 Hh25 (ao_4_6 ha1)) (x_row_4_6 Hh25 (ao_4_6 ha0)) l3_0 l3_0 l3_5 (by decide) (by decide) (by decide) (nr_4_6 (ao_4_6 ha0))) fun h31 Hh31 => ?_
  refine sm_rd (x_gR_4_7 Hh31 ha1) ?_
  refine sm_rd (x_gR_4_7 Hh31 ha0) ?_
  refine sm_wt (x_cp Hh31 (x_row_4_7 Hh31 (ao_4_7 ha1)) (x_row_4_7 Hh31 (ao_4_7 ha0)) l3_0 l3_0 l3_5 (by decide) (by decide) (by decide) (nr_4_7 (ao_4_7 ha0))) fun h37 Hh37 => ?_
  refine sm_rd (x_gR_4_8 Hh37 ha1) ?_
  refine sm_rd (x_gR_4_8 Hh37 ha0) ?_
  refine sm_wt (x_cp Hh37 (x_row_4_8 Hh37 (ao_4_8 ha1)) (x_row_4_8 Hh37 (ao_4_8 ha0)) l3_0 l3_0 l3_5 (by decide) (by decide) (by decide) (nr_4_8 (ao_4_8 ha0))) fun h43 Hh43 => ?_
  refine sm_rd (x_gR_4_9 Hh43 ha1) ?_
  refine sm_rd (x_gR_4_9 Hh43 ha0) ?_
  refine sm_wt (x_cp Hh43 (x_row_4_9 Hh43 (ao_4_9 ha1)) (x_row_4_9 Hh43 (ao_4_9 ha0)) l3_0 l3_0 l3_5 (by decide) (by decide) (by decide) (nr_4_9 (ao_4_9 ha0))) fun h49 Hh49 => ?_
  refine sm_rd (x_gR_4_10 Hh49 ha1) ?_
  refine sm_rd (x_gR_4_10 Hh49 ha0) ?_
  refine sm_wt (x_cp Hh49 (x_row_4_10 Hh49 (ao_4_10 ha1)) (x_row_4_10 Hh49 (ao_4_10 ha0)) l3_0 l3_0 l3_28 (by decide) (by decide) (by decide) (nr_4_10 (ao_4_10 ha0))) fun h55 Hh55 => ?_
  exact sm_retV Hh55
theorem S4_takeAll {h : PH} (H : OKX h) {a0 : Nat} (ha0 : A4 a0) {a1 : Nat} (ha1 : A4 a1) : SimV OKX (F4_takeAll h a0 a1) (G4_takeAll (rd h) a0 a1) := by
  unfold F4_takeAll G4_takeAll
  refine sm_cd (x_ok_4 H ha0) ?_
  exact S4_takeAll_0 H ha0 ha1
theorem S4_takeForRun_0 {h : PH} (H : OKX h) {a0 : Nat} (ha0 : A4 a0) {a1 : Nat} (ha1 : A4 a1) {x2i : Int32} {x2 : Int} (ex2 : x2i = Z3 x2) (qx2 : r3 x2) {x3i : Int32} {x3 : Int} (ex3 : x3i = Z3 x3) (qx3 : r3 x3) : SimV OKX (F4_takeForRun_0 h a0 a1 x2i x3i) (G4_takeForRun_0 (rd h) a0 a1 x2 x3) := by
  subst ex2 ex3
  unfold F4_takeForRun_0 G4_takeForRun_0
  refine sm_VV (S4_takeAll H ha0 ha1) fun ho1 Ho1 => ?_
  refine sm_wt (x_pI_4_1 Ho1 ha0 rfl qx2) fun h3 Hh3 => ?_
  refine sm_wt (x_pI_4_2 Hh3 ha0 rfl qx3) fun h5 Hh5 => ?_
  refine sm_wt (x_pI_4_3 Hh5 ha0 l3_0 lr3_0) fun h7 Hh7 => ?_
  refine sm_wt (x_pI_4_4 Hh7 ha0 l3_0 lr3_0) fun h9 Hh9 => ?_
  exact sm_retV Hh9
theorem S4_takeForRun {h : PH} (H : OKX h) {a0 : Nat} (ha0 : A4 a0) {a1 : Nat} (ha1 : A4 a1) {x2i : Int32} {x2 : Int} (ex2 : x2i = Z3 x2) (qx2 : r3 x2) {x3i : Int32} {x3 : Int} (ex3 : x3i = Z3 x3) (qx3 : r3 x3) : SimV OKX (F4_takeForRun h a0 a1 x2i x3i) (G4_takeForRun (rd h) a0 a1 x2 x3) := by
  subst ex2 ex3
  unfold F4_takeForRun G4_takeForRun
  refine sm_cd (x_ok_4 H ha0) ?_
  exact S4_takeForRun_0 H ha0 ha1 rfl qx2 rfl qx3
theorem S4_unlike_24 (n : Nat) : ∀ {h : PH} (H : OKX h) {a0 : Nat} (ha0 : A4 a0) {x1i : Int32} {x1 : Int} (ex1 : x1i = Z3 x1) (qx1 : r3 x1) {x2i : Int32} {x2 : Int} (ex2 : x2i = Z3 x2) (qx2 : r3 x2) {x3i : Int32} {x3 : Int} (ex3 : x3i = Z3 x3) (qx3 : r3 x3) {x4i : Int32} {x4 : Int} (ex4 : x4i = Z3 x4) (qx4 : r3 x4), SimI OKX (F4_unlike_24 n h a0 x1i x2i x3i x4i) (G4_unlike_24 n (rd h) a0 x1 x2 x3 x4) := by
  induction n with
  | zero => intros; exact smI_none _
  | succ n ih =>
    intro h H a0 ha0 x1i x1 ex1 qx1 x2i x2 ex2 qx2 x3i x3 ex3 qx3 x4i x4 ex4 qx4
    subst ex1 ex2 ex3 ex4
    rw [F4_unlike_24, G4_unlike_24]
    refine sm_if (z3_le rfl rfl qx1 qx4) ?_ ?_
    · refine sg3I fun c1 => ?_
      exact sm_retI H (z3_sub rfl rfl) c1
    · refine sm_rd (x_gR_4_6 H ha0) ?_
      refine sgxI fun c2 => ?_
      refine sm_rd (x_aI_4_6 H (ao_4_6 ha0) rfl c2).1 ?_
      refine sm_rd (x_gR_4_6 H ha0) ?_
      refine sgxI fun c3 => ?_
      refine sm_rd (x_aI_4_6 H (ao_4_6 ha0) rfl c3).1 ?_
      refine sg3I fun c4 => ?_
      exact ih H ha0 rfl qx1 (z3_ite (z3_lt rfl rfl qx2 (x_aI_4_6 H (ao_4_6 ha0) rfl c2).2) rfl rfl) (r3_ite (x_aI_4_6 H (ao_4_6 ha0) rfl c2).2 qx2) (z3_ite (z3_lt rfl rfl (x_aI_4_6 H (ao_4_6 ha0) rfl c3).2 qx3) rfl rfl) (r3_ite (x_aI_4_6 H (ao_4_6 ha0) rfl c3).2 qx3) (z3_add rfl l3_1) c4
theorem S4_unlike_0 {h : PH} (H : OKX h) {a0 : Nat} (ha0 : A4 a0) {x1i : Int32} {x1 : Int} (ex1 : x1i = Z3 x1) (qx1 : r3 x1) : SimI OKX (F4_unlike_0 h a0 x1i) (G4_unlike_0 (rd h) a0 x1) := by
  subst ex1
  unfold F4_unlike_0 G4_unlike_0
  refine sm_if (z3_le l3_1 rfl lr3_1 qx1) ?_ ?_
  · refine sm_rd (x_gR_4_6 H ha0) ?_
    refine sm_rd (x_aI_4_6 H (ao_4_6 ha0) l3_0 ⟨by decide, by decide⟩).1 ?_
    refine sm_rd (x_gR_4_6 H ha0) ?_
    refine sm_rd (x_aI_4_6 H (ao_4_6 ha0) l3_0 ⟨by decide, by decide⟩).1 ?_
    exact S4_unlike_24 1024 H ha0 rfl qx1 rfl ((x_aI_4_6 H (ao_4_6 ha0) l3_0 ⟨by decide, by decide⟩).2) rfl ((x_aI_4_6 H (ao_4_6 ha0) l3_0 ⟨by decide, by decide⟩).2) l3_1 lr3_1
  · exact sm_retI H l3_0 lr3_0
theorem S4_unlike {h : PH} (H : OKX h) {a0 : Nat} (ha0 : A4 a0) {x1i : Int32} {x1 : Int} (ex1 : x1i = Z3 x1) (qx1 : r3 x1) : SimI OKX (F4_unlike h a0 x1i) (G4_unlike (rd h) a0 x1) := by
  subst ex1
  unfold F4_unlike G4_unlike
  refine sm_cd (x_ok_4 H ha0) ?_
  exact S4_unlike_0 H ha0 rfl qx1
theorem S5_refuse_0 {h : PH} (H : OKX h) {x1i : Int32} {x1 : Int} (ex1 : x1i = Z3 x1) (qx1 : r3 x1) : SimI OKX (F5_refuse_0 h 46 x1i) (G5_refuse_0 (rd h) x1) := by
  subst ex1
  unfold F5_refuse_0 G5_refuse_0
  refine sm_wt (x_pI_5_8 H rfl qx1) fun h1 Hh1 => ?_
  refine sm_rd (x_gR_5_0 Hh1) ?_
  refine sm_rd (x_gI_7_5 Hh1).1 ?_
  refine sm_wt (x_pI_5_9 Hh1 rfl (x_gI_7_5 Hh1).2) fun h7 Hh7 => ?_
  exact sm_rz Hh7 l3_0 (by decide)
theorem S5_refuse {h : PH} (H : OKX h) {x1i : Int32} {x1 : Int} (ex1 : x1i = Z3 x1) (qx1 : r3 x1) : SimI OKX (F5_refuse h 46 x1i) (G5_refuse (rd h) x1) := by
  subst ex1
  unfold F5_refuse G5_refuse
  refine sm_cd (x_ok_5 H) ?_
  exact S5_refuse_0 H rfl qx1
theorem S5_countKnot_0 {h : PH} (H : OKX h) : SimI OKX (F5_countKnot_0 h 46) (G5_countKnot_0 (rd h)) := by
  unfold F5_countKnot_0 G5_countKnot_0
  refine sm_rd (x_gR_5_10 H) ?_
  refine sm_rd (x_gI_8_13 H (x_v_5_10 H)).1 ?_
  refine sm_if (z3_lt rfl l3_64 (x_gI_8_13 H (x_v_5_10 H)).2 lr3_64) ?_ ?_
  · refine sm_rd (x_gR_5_10 H) ?_
    refine sm_rd (x_gI_8_13 H (x_v_5_10 H)).1 ?_
    refine sg3I fun c1 => ?_
    refine sm_wt (x_pI_8_13 H (x_v_5_10 H) (z3_add rfl l3_1) c1) fun h10 Hh10 => ?_
    exact sm_rz Hh10 l3_1 (by decide)
  · refine sm_II (S5_refuse H l3_2 lr3_2) fun vo12 ho12 Ho12 ro12 => ?_
    refine sgbI fun c2 => ?_
    exact sm_rz Ho12 rfl c2
theorem S5_countKnot {h : PH} (H : OKX h) : SimI OKX (F5_countKnot h 46) (G5_countKnot (rd h)) := by
  unfold F5_countKnot G5_countKnot
  refine sm_cd (x_ok_5 H) ?_
  exact S5_countKnot_0 H
theorem S7_isLetter_0 {h : PH} (H : OKX h) {x0i : Int32} {x0 : Int} (ex0 : x0i = Z3 x0) (qx0 : r3 x0) : SimI OKX (F7_isLetter_0 h x0i) (G7_isLetter_0 (rd h) x0) := by
  subst ex0
  unfold F7_isLetter_0 G7_isLetter_0
  refine sm_if (z3_lt rfl l3_97 qx0 lr3_97) ?_ ?_
  · exact sm_rz H l3_0 (by decide)
  · refine sm_if (z3_lt l3_122 rfl lr3_122 qx0) ?_ ?_
    · exact sm_rz H l3_0 (by decide)
    · exact sm_rz H l3_1 (by decide)
theorem S7_isLetter {h : PH} (H : OKX h) {x0i : Int32} {x0 : Int} (ex0 : x0i = Z3 x0) (qx0 : r3 x0) : SimI OKX (F7_isLetter h x0i) (G7_isLetter (rd h) x0) := by
  subst ex0
  unfold F7_isLetter G7_isLetter
  exact S7_isLetter_0 H rfl qx0
theorem S7_letterBits_0 {h : PH} (H : OKX h) {x0i : Int32} {x0 : Int} (ex0 : x0i = Z3 x0) (qx0 : r3 x0) {x1i : Int32} {x1 : Int} (ex1 : x1i = Z3 x1) (qx1 : r3 x1) : SimI OKX (F7_letterBits_0 h x0i x1i) (G7_letterBits_0 (rd h) x0 x1) := by
  subst ex0 ex1
  unfold F7_letterBits_0 G7_letterBits_0
  exact sm_retI H (z3_sl (z3_add (z3_sub rfl l3_97) l3_1) (z3_an (z3_sub l3_25 (z3_mul l3_5 rfl)) l3_31)) (r3_of _)
theorem S7_letterBits {h : PH} (H : OKX h) {x0i : Int32} {x0 : Int} (ex0 : x0i = Z3 x0) (qx0 : r3 x0) {x1i : Int32} {x1 : Int} (ex1 : x1i = Z3 x1) (qx1 : r3 x1) : SimI OKX (F7_letterBits h x0i x1i) (G7_letterBits (rd h) x0 x1) := by
  subst ex0 ex1
  unfold F7_letterBits G7_letterBits
  exact S7_letterBits_0 H rfl qx0 rfl qx1
theorem S5_isFirst_0 {h : PH} (H : OKX h) {x1i : Int32} {x1 : Int} (ex1 : x1i = Z3 x1) (qx1 : r3 x1) : SimI OKX (F5_isFirst_0 h 46 x1i) (G5_isFirst_0 (rd h) x1) := by
  subst ex1
  unfold F5_isFirst_0 G5_isFirst_0
  refine sm_rd (x_gI_5_6 H).1 ?_
  refine sm_if (z3_eq (z3_an rfl (z3_sl l3_1 (z3_an rfl l3_31))) l3_0 (r3_of _) lr3_0) ?_ ?_
  · refine sm_rd (x_gI_5_6 H).1 ?_
    refine sm_wt (x_pI_5_6 H (z3_or rfl (z3_sl l3_1 (z3_an rfl l3_31))) (r3_of _)) fun h6 Hh6 => ?_
    exact sm_rz Hh6 l3_1 (by decide)
  · refine sm_II (S5_refuse H l3_3 lr3_3) fun vo8 ho8 Ho8 ro8 => ?_
    refine sgbI fun c1 => ?_
    exact sm_rz Ho8 rfl c1
theorem S5_isFirst {h : PH} (H : OKX h) {x1i : Int32} {x1 : Int} (ex1 : x1i = Z3 x1) (qx1 : r3 x1) : SimI OKX (F5_isFirst h 46 x1i) (G5_isFirst (rd h) x1) := by
  subst ex1
  unfold F5_isFirst G5_isFirst
  refine sm_cd (x_ok_5 H) ?_
  exact S5_isFirst_0 H rfl qx1
theorem S5_letWait_0 {h : PH} (H : OKX h) {x1i : Int32} {x1 : Int} (ex1 : x1i = Z3 x1) (qx1 : r3 x1) : SimI OKX (F5_letWait_0 h 46 x1i) (G5_letWait_0 (rd h) x1) := by
  subst ex1
  unfold F5_letWait_0 G5_letWait_0
  refine sm_rd (x_gI_5_2 H).1 ?_
  refine sm_rd (x_gR_5_1 H) ?_
  refine sm_rd (x_aL_5_1 H) ?_
  refine sm_if (z3_lt rfl rfl (x_gI_5_2 H).2 lr3_72) ?_ ?_
  · refine sm_rd (x_gR_5_1 H) ?_
    refine sm_rd (x_gI_5_2 H).1 ?_
    refine sgxI fun c1 => ?_
    refine sm_wt (x_sI_5_1 H rfl c1 rfl qx1) fun h13 Hh13 => ?_
    refine sm_rd (x_gI_5_2 Hh13).1 ?_
    refine sg3I fun c2 => ?_
    refine sm_wt (x_pI_5_2 Hh13 (z3_add rfl l3_1) c2) fun h16 Hh16 => ?_
    exact sm_rz Hh16 l3_1 (by decide)
  · refine sm_II (S5_refuse H l3_2 lr3_2) fun vo18 ho18 Ho18 ro18 => ?_
    refine sgbI fun c3 => ?_
    exact sm_rz Ho18 rfl c3
theorem S5_letWait {h : PH} (H : OKX h) {x1i : Int32} {x1 : Int} (ex1 : x1i = Z3 x1) (qx1 : r3 x1) : SimI OKX (F5_letWait h 46 x1i) (G5_letWait (rd h) x1) := by
  subst ex1
  unfold F5_letWait G5_letWait
  refine sm_cd (x_ok_5 H) ?_
  exact S5_letWait_0 H rfl qx1
theorem S7_skipBlanks_40 {k0 : PH → Nat → Option PH} {kk0 : Mem → Option Mem} (hk0 : ∀ {h : PH} (_ : OKX h), SimV OKX (k0 h 47) (kk0 (rd h))) {h : PH} (H : OKX h) : SimV OKX (F7_skipBlanks_40 k0 h 47) (G7_skipBlanks_40 kk0 (rd h)) := by
  unfold F7_skipBlanks_40 G7_skipBlanks_40
  refine sm_rd (x_gI_7_3 H).1 ?_
  refine sg3V fun c1 => ?_
  refine sm_wt (x_pI_7_3 H (z3_add rfl l3_1) c1) fun h3 Hh3 => ?_
  exact hk0 Hh3
theorem S7_skipBlanks_0 (n : Nat) : ∀ {h : PH} (H : OKX h), SimV OKX (F7_skipBlanks_0 n h 47) (G7_skipBlanks_0 n (rd h)) := by
  induction n with
  | zero => intros; exact smV_none _
  | succ n ih =>
    intro h H
    rw [F7_skipBlanks_0, G7_skipBlanks_0]
    refine sm_rd (x_gI_7_3 H).1 ?_
    refine sm_rd (x_gI_7_2 H).1 ?_
    refine sm_if (z3_le rfl rfl (x_gI_7_2 H).2 (x_gI_7_3 H).2) ?_ ?_
    · exact sm_retV H
    · refine sm_rd (x_gR_7_1 H) ?_
      refine sm_rd (x_gI_7_3 H).1 ?_
      refine sgeV fun c1 => ?_
      refine sgxV fun c2 => ?_
      refine sm_rd (x_aI_B H c1 rfl c2).1 ?_
      refine sm_if (z3_eq rfl l3_10 (x_aI_B H c1 rfl c2).2 lr3_10) ?_ ?_
      · exact S7_skipBlanks_40 (@fun _ H => ih H) H
      · refine sm_rd (x_gR_7_1 H) ?_
        refine sm_rd (x_gI_7_3 H).1 ?_
        refine sgeV fun c3 => ?_
        refine sgxV fun c4 => ?_
        refine sm_rd (x_aI_B H c3 rfl c4).1 ?_
        refine sm_if (z3_eq rfl l3_32 (x_aI_B H c3 rfl c4).2 lr3_32) ?_ ?_
        · exact S7_skipBlanks_40 (@fun _ H => ih H) H
        · exact sm_retV H
theorem S7_skipBlanks {h : PH} (H : OKX h) : SimV OKX (F7_skipBlanks h 47) (G7_skipBlanks (rd h)) := by
  unfold F7_skipBlanks G7_skipBlanks
  refine sm_cd (x_ok_7 H) ?_
  exact S7_skipBlanks_0 1024 H
theorem S7_wordOf_2 (n : Nat) : ∀ {h : PH} (H : OKX h) {x1i : Int32} {x1 : Int} (ex1 : x1i = Z3 x1) (qx1 : r3 x1) {x2i : Int32} {x2 : Int} (ex2 : x2i = Z3 x2) (qx2 : r3 x2), SimI OKX (F7_wordOf_2 n h 47 x1i x2i) (G7_wordOf_2 n (rd h) x1 x2) := by
  induction n with
  | zero => intros; exact smI_none _
  | succ n ih =>
    intro h H x1i x1 ex1 qx1 x2i x2 ex2 qx2
    subst ex1 ex2
    rw [F7_wordOf_2, G7_wordOf_2]
    refine sm_if (z3_le l3_24 rfl lr3_24 qx2) ?_ ?_
    · exact sm_retI H l3_24 lr3_24
    · refine sm_rd (x_gR_7_0 H) ?_
      refine sgxI fun c1 => ?_
      refine sm_rd (x_aI_7_0 H rfl c1).1 ?_
      refine sm_if (z3_eq rfl rfl (x_aI_7_0 H rfl c1).2 qx1) ?_ ?_
      · exact sm_retI H rfl qx2
      · refine sg3I fun c2 => ?_
        exact ih H rfl qx1 (z3_add rfl l3_1) c2
theorem S7_wordOf_0 {h : PH} (H : OKX h) {x1i : Int32} {x1 : Int} (ex1 : x1i = Z3 x1) (qx1 : r3 x1) : SimI OKX (F7_wordOf_0 h 47 x1i) (G7_wordOf_0 (rd h) x1) := by
  subst ex1
  unfold F7_wordOf_0 G7_wordOf_0
  exact S7_wordOf_2 1024 H rfl qx1 l3_0 lr3_0
theorem S7_wordOf {h : PH} (H : OKX h) {x1i : Int32} {x1 : Int} (ex1 : x1i = Z3 x1) (qx1 : r3 x1) : SimI OKX (F7_wordOf h 47 x1i) (G7_wordOf (rd h) x1) := by
  subst ex1
  unfold F7_wordOf G7_wordOf
  refine sm_cd (x_ok_7 H) ?_
  exact S7_wordOf_0 H rfl qx1
theorem S7_takeWord_92 {h : PH} (H : OKX h) {s0i : Int32} {s0 : Int} (es0 : s0i = Z3 s0) (qs0 : r3 s0) : SimV OKX (F7_takeWord_92 h s0i 47) (G7_takeWord_92 (rd h) s0) := by
  subst es0
  unfold F7_takeWord_92 G7_takeWord_92
  refine sm_wt (x_pI_7_4 H rfl qs0) fun h1 Hh1 => ?_
  exact sm_retV Hh1
theorem S7_takeWord_72 {h : PH} (H : OKX h) {x1i : Int32} {x1 : Int} (ex1 : x1i = Z3 x1) (qx1 : r3 x1) : SimV OKX (F7_takeWord_72 h 47 x1i) (G7_takeWord_72 (rd h) x1) := by
  subst ex1
  unfold F7_takeWord_72 G7_takeWord_72
  refine sm_if (z3_le rfl l3_6 qx1 lr3_6) ?_ ?_
  · refine sm_rd (x_gI_7_6 H).1 ?_
    refine sm_IV (S7_wordOf H rfl ((x_gI_7_6 H).2)) fun vo4 ho4 Ho4 ro4 => ?_
    exact S7_takeWord_92 Ho4 rfl ro4
  · exact S7_takeWord_92 H l3_40 lr3_40
theorem S7_takeWord_56 {k2 : PH → Nat → Int32 → Option PH} {kk2 : Mem → Int → Option Mem} (hk2 : ∀ {h : PH} (_ : OKX h) {x2 : Int32} {y2 : Int} (_ : x2 = Z3 y2) (_ : r3 y2), SimV OKX (k2 h 47 x2) (kk2 (rd h) y2)) {h : PH} (H : OKX h) {x1i : Int32} {x1 : Int} (ex1 : x1i = Z3 x1) (qx1 : r3 x1) : SimV OKX (F7_takeWord_56 k2 h 47 x1i) (G7_takeWord_56 kk2 (rd h) x1) := by
  subst ex1
  unfold F7_takeWord_56 G7_takeWord_56
  refine sm_rd (x_gI_7_3 H).1 ?_
  refine sg3V fun c1 => ?_
  refine sm_wt (x_pI_7_3 H (z3_add rfl l3_1) c1) fun h3 Hh3 => ?_
  refine sg3V fun c2 => ?_
  exact hk2 Hh3 (z3_add rfl l3_1) c2
theorem S7_takeWord_2 (n : Nat) : ∀ {h : PH} (H : OKX h) {x1i : Int32} {x1 : Int} (ex1 : x1i = Z3 x1) (qx1 : r3 x1), SimV OKX (F7_takeWord_2 n h 47 x1i) (G7_takeWord_2 n (rd h) x1) := by
  induction n with
  | zero => intros; exact smV_none _
  | succ n ih =>
    intro h H x1i x1 ex1 qx1
    subst ex1
    rw [F7_takeWord_2, G7_takeWord_2]
    refine sm_rd (x_gI_7_3 H).1 ?_
    refine sm_rd (x_gI_7_2 H).1 ?_
    refine sm_if (z3_le rfl rfl (x_gI_7_2 H).2 (x_gI_7_3 H).2) ?_ ?_
    · exact S7_takeWord_72 H rfl qx1
    · refine sm_rd (x_gR_7_1 H) ?_
      refine sm_rd (x_gI_7_3 H).1 ?_
      refine sgeV fun c1 => ?_
      refine sgxV fun c2 => ?_
      refine sm_rd (x_aI_B H c1 rfl c2).1 ?_
      refine sm_IV (S7_isLetter H rfl ((x_aI_B H c1 rfl c2).2)) fun vo12 ho12 Ho12 ro12 => ?_
      refine sm_if (z3_eq rfl l3_0 ro12 lr3_0) ?_ ?_
      · exact S7_takeWord_72 Ho12 rfl qx1
      · refine sm_if (z3_le l3_6 rfl lr3_6 qx1) ?_ ?_
        · exact S7_takeWord_56 (@fun _ H _ _ ex1 qx1 => ih H ex1 qx1) Ho12 rfl qx1
        · refine sm_rd (x_gI_7_6 Ho12).1 ?_
          refine sm_rd (x_gR_7_1 Ho12) ?_
          refine sm_rd (x_gI_7_3 Ho12).1 ?_
          refine sgeV fun c3 => ?_
          refine sgxV fun c4 => ?_
          refine sm_rd (x_aI_B Ho12 c3 rfl c4).1 ?_
          refine sm_IV (S7_letterBits Ho12 rfl ((x_aI_B Ho12 c3 rfl c4).2) rfl qx1) fun vo24 ho24 Ho24 ro24 => ?_
          refine sm_wt (x_pI_7_6 Ho24 (z3_or rfl rfl) (r3_of _)) fun h26 Hh26 => ?_
          exact S7_takeWord_56 (@fun _ H _ _ ex1 qx1 => ih H ex1 qx1) Hh26 rfl qx1
theorem S7_takeWord_0 {h : PH} (H : OKX h) : SimV OKX (F7_takeWord_0 h 47) (G7_takeWord_0 (rd h)) := by
  unfold F7_takeWord_0 G7_takeWord_0
  exact S7_takeWord_2 1024 H l3_0 lr3_0
theorem S7_takeWord {h : PH} (H : OKX h) : SimV OKX (F7_takeWord h 47) (G7_takeWord (rd h)) := by
  unfold F7_takeWord G7_takeWord
  refine sm_cd (x_ok_7 H) ?_
  exact S7_takeWord_0 H
theorem S7_isDigit_0 {h : PH} (H : OKX h) {x0i : Int32} {x0 : Int} (ex0 : x0i = Z3 x0) (qx0 : r3 x0) : SimI OKX (F7_isDigit_0 h x0i) (G7_isDigit_0 (rd h) x0) := by
  subst ex0
  unfold F7_isDigit_0 G7_isDigit_0
  refine sm_if (z3_lt rfl l3_48 qx0 lr3_48) ?_ ?_
  · exact sm_rz H l3_0 (by decide)
  · refine sm_if (z3_lt l3_57 rfl lr3_57 qx0) ?_ ?_
    · exact sm_rz H l3_0 (by decide)
    · exact sm_rz H l3_1 (by decide)
theorem S7_isDigit {h : PH} (H : OKX h) {x0i : Int32} {x0 : Int} (ex0 : x0i = Z3 x0) (qx0 : r3 x0) : SimI OKX (F7_isDigit h x0i) (G7_isDigit (rd h) x0) := by
  subst ex0
  unfold F7_isDigit G7_isDigit
  exact S7_isDigit_0 H rfl qx0
theorem S7_takeNumber_68 {h : PH} (H : OKX h) : SimV OKX (F7_takeNumber_68 h 47) (G7_takeNumber_68 (rd h)) := by
  unfold F7_takeNumber_68 G7_takeNumber_68
  refine sm_wt (x_pI_7_4 H l3_25 lr3_25) fun h1 Hh1 => ?_
  exact sm_retV Hh1
theorem S7_takeNumber_0 (n : Nat) : ∀ {h : PH} (H : OKX h), SimV OKX (F7_takeNumber_0 n h 47) (G7_takeNumber_0 n (rd h)) := by
  induction n with
  | zero => intros; exact smV_none _
  | succ n ih =>
    intro h H
    rw [F7_takeNumber_0, G7_takeNumber_0]
    refine sm_rd (x_gI_7_3 H).1 ?_
    refine sm_rd (x_gI_7_2 H).1 ?_
    refine sm_if (z3_le rfl rfl (x_gI_7_2 H).2 (x_gI_7_3 H).2) ?_ ?_
    · exact S7_takeNumber_68 H
    · refine sm_rd (x_gR_7_1 H) ?_
      refine sm_rd (x_gI_7_3 H).1 ?_
      refine sgeV fun c1 => ?_
      refine sgxV fun c2 => ?_
      refine sm_rd (x_aI_B H c1 rfl c2).1 ?_
      refine sm_IV (S7_isDigit H rfl ((x_aI_B H c1 rfl c2).2)) fun vo12 ho12 Ho12 ro12 => ?_
      refine sm_if (z3_eq rfl l3_0 ro12 lr3_0) ?_ ?_
      · exact S7_takeNumber_68 Ho12
      · refine sm_rd (x_gI_7_6 Ho12).1 ?_
        refine sm_rd (x_gR_7_1 Ho12) ?_
        refine sm_rd (x_gI_7_3 Ho12).1 ?_
        refine sgeV fun c3 => ?_
        refine sgxV fun c4 => ?_
        refine sm_rd (x_aI_B Ho12 c3 rfl c4).1 ?_
        refine sg3V fun c5 => ?_
        refine sg3V fun c6 => ?_
        refine sm_wt (x_pI_7_6 Ho12 (z3_ite (z3_lt l3_1000000 (z3_sub (z3_add (z3_mul rfl l3_10) rfl) l3_48) lr3_1000000 c5) l3_1000000 (z3_sub (z3_add (z3_mul rfl l3_10) rfl) l3_48)) c6) fun h23 Hh23 => ?_
        refine sm_rd (x_gI_7_3 Hh23).1 ?_
        refine sg3V fun c7 => ?_
        refine sm_wt (x_pI_7_3 Hh23 (z3_add rfl l3_1) c7) fun h27 Hh27 => ?_
        exact ih Hh27
theorem S7_takeNumber {h : PH} (H : OKX h) : SimV OKX (F7_takeNumber h 47) (G7_takeNumber (rd h)) := by
  unfold F7_takeNumber G7_takeNumber
  refine sm_cd (x_ok_7 H) ?_
  exact S7_takeNumber_0 1024 H
theorem S7_signOf_0 {h : PH} (H : OKX h) {x0i : Int32} {x0 : Int} (ex0 : x0i = Z3 x0) (qx0 : r3 x0) : SimI OKX (F7_signOf_0 h x0i) (G7_signOf_0 (rd h) x0) := by
  subst ex0
  unfold F7_signOf_0 G7_signOf_0
  refine sm_if (z3_eq rfl l3_40 qx0 lr3_40) ?_ ?_
  · exact sm_retI H l3_36 lr3_36
  · refine sm_if (z3_eq rfl l3_41 qx0 lr3_41) ?_ ?_
    · exact sm_retI H l3_37 lr3_37
    · refine sm_if (z3_eq rfl l3_42 qx0 lr3_42) ?_ ?_
      · exact sm_retI H l3_34 lr3_34
      · refine sm_if (z3_eq rfl l3_43 qx0 lr3_43) ?_ ?_
        · exact sm_retI H l3_32 lr3_32
        · refine sm_if (z3_eq rfl l3_45 qx0 lr3_45) ?_ ?_
          · exact sm_retI H l3_33 lr3_33
          · refine sm_if (z3_eq rfl l3_47 qx0 lr3_47) ?_ ?_
            · exact sm_retI H l3_35 lr3_35
            · refine sm_if (z3_eq rfl l3_59 qx0 lr3_59) ?_ ?_
              · exact sm_retI H l3_38 lr3_38
              · refine sm_if (z3_eq rfl l3_60 qx0 lr3_60) ?_ ?_
                · exact sm_retI H l3_26 lr3_26
                · refine sm_if (z3_eq rfl l3_61 qx0 lr3_61) ?_ ?_
                  · exact sm_retI H l3_28 lr3_28
                  · refine sm_if (z3_eq rfl l3_62 qx0 lr3_62) ?_ ?_
                    · exact sm_retI H l3_31 lr3_31
                    · exact sm_retI H l3_40 lr3_40
theorem S7_signOf {h : PH} (H : OKX h) {x0i : Int32} {x0 : Int} (ex0 : x0i = Z3 x0) (qx0 : r3 x0) : SimI OKX (F7_signOf h x0i) (G7_signOf (rd h) x0) := by
  subst ex0
  unfold F7_signOf G7_signOf
  exact S7_signOf_0 H rfl qx0
theorem S7_isNext_0 {h : PH} (H : OKX h) {x1i : Int32} {x1 : Int} (ex1 : x1i = Z3 x1) (qx1 : r3 x1) : SimI OKX (F7_isNext_0 h 47 x1i) (G7_isNext_0 (rd h) x1) := by
  subst ex1
  unfold F7_isNext_0 G7_isNext_0
  refine sm_rd (x_gI_7_3 H).1 ?_
  refine sm_rd (x_gI_7_2 H).1 ?_
  refine sm_if (z3_le rfl rfl (x_gI_7_2 H).2 (x_gI_7_3 H).2) ?_ ?_
  · exact sm_rz H l3_0 (by decide)
  · refine sm_rd (x_gR_7_1 H) ?_
    refine sm_rd (x_gI_7_3 H).1 ?_
    refine sgeI fun c1 => ?_
    refine sgxI fun c2 => ?_
    refine sm_rd (x_aI_B H c1 rfl c2).1 ?_
    refine sm_if (z3_eq rfl rfl (x_aI_B H c1 rfl c2).2 qx1) ?_ ?_
    · exact sm_rz H l3_1 (by decide)
    · exact sm_rz H l3_0 (by decide)
theorem S7_isNext {h : PH} (H : OKX h) {x1i : Int32} {x1 : Int} (ex1 : x1i = Z3 x1) (qx1 : r3 x1) : SimI OKX (F7_isNext h 47 x1i) (G7_isNext (rd h) x1) := by
  subst ex1
  unfold F7_isNext G7_isNext
  refine sm_cd (x_ok_7 H) ?_
  exact S7_isNext_0 H rfl qx1
theorem S7_takeSign_102 {h : PH} (H : OKX h) : SimV OKX (F7_takeSign_102 h 47) (G7_takeSign_102 (rd h)) := by
  unfold F7_takeSign_102 G7_takeSign_102
  refine sm_rd (x_gI_7_4 H).1 ?_
  refine sm_if (z3_eq rfl l3_31 (x_gI_7_4 H).2 lr3_31) ?_ ?_
  · refine sm_IV (S7_isNext H l3_61 lr3_61) fun vo4 ho4 Ho4 ro4 => ?_
    refine sm_if (z3_eq rfl l3_0 ro4 lr3_0) ?_ ?_
    · exact sm_retV Ho4
    · refine sm_wt (x_pI_7_4 Ho4 l3_30 lr3_30) fun h7 Hh7 => ?_
      refine sm_rd (x_gI_7_3 Hh7).1 ?_
      refine sg3V fun c1 => ?_
      refine sm_wt (x_pI_7_3 Hh7 (z3_add rfl l3_1) c1) fun h11 Hh11 => ?_
      exact sm_retV Hh11
  · exact sm_retV H
theorem S7_takeSign_65 {h : PH} (H : OKX h) : SimV OKX (F7_takeSign_65 h 47) (G7_takeSign_65 (rd h)) := by
  unfold F7_takeSign_65 G7_takeSign_65
  refine sm_rd (x_gI_7_4 H).1 ?_
  refine sm_if (z3_eq rfl l3_26 (x_gI_7_4 H).2 lr3_26) ?_ ?_
  · refine sm_IV (S7_isNext H l3_62 lr3_62) fun vo4 ho4 Ho4 ro4 => ?_
    refine sm_if (z3_eq rfl l3_0 ro4 lr3_0) ?_ ?_
    · exact S7_takeSign_102 Ho4
    · refine sm_wt (x_pI_7_4 Ho4 l3_29 lr3_29) fun h7 Hh7 => ?_
      refine sm_rd (x_gI_7_3 Hh7).1 ?_
      refine sg3V fun c1 => ?_
      refine sm_wt (x_pI_7_3 Hh7 (z3_add rfl l3_1) c1) fun h11 Hh11 => ?_
      exact sm_retV Hh11
  · exact S7_takeSign_102 H
theorem S7_takeSign_0 {h : PH} (H : OKX h) : SimV OKX (F7_takeSign_0 h 47) (G7_takeSign_0 (rd h)) := by
  unfold F7_takeSign_0 G7_takeSign_0
  refine sm_rd (x_gR_7_1 H) ?_
  refine sm_rd (x_gI_7_3 H).1 ?_
  refine sgeV fun c1 => ?_
  refine sgxV fun c2 => ?_
  refine sm_rd (x_aI_B H c1 rfl c2).1 ?_
  refine sm_rd (x_gI_7_3 H).1 ?_
  refine sg3V fun c3 => ?_
  refine sm_wt (x_pI_7_3 H (z3_add rfl l3_1) c3) fun h9 Hh9 => ?_
  refine sm_IV (S7_signOf Hh9 rfl ((x_aI_B H c1 rfl c2).2)) fun vo11 ho11 Ho11 ro11 => ?_
  refine sm_wt (x_pI_7_4 Ho11 rfl ro11) fun h13 Hh13 => ?_
  refine sm_rd (x_gI_7_4 Hh13).1 ?_
  refine sm_if (z3_eq rfl l3_26 (x_gI_7_4 Hh13).2 lr3_26) ?_ ?_
  · refine sm_IV (S7_isNext Hh13 l3_61 lr3_61) fun vo18 ho18 Ho18 ro18 => ?_
    refine sm_if (z3_eq rfl l3_0 ro18 lr3_0) ?_ ?_
    · exact S7_takeSign_65 Ho18
    · refine sm_wt (x_pI_7_4 Ho18 l3_27 lr3_27) fun h21 Hh21 => ?_
      refine sm_rd (x_gI_7_3 Hh21).1 ?_
      refine sg3V fun c4 => ?_
      refine sm_wt (x_pI_7_3 Hh21 (z3_add rfl l3_1) c4) fun h25 Hh25 => ?_
      exact sm_retV Hh25
  · exact S7_takeSign_65 Hh13
theorem S7_takeSign {h : PH} (H : OKX h) : SimV OKX (F7_takeSign h 47) (G7_takeSign (rd h)) := by
  unfold F7_takeSign G7_takeSign
  refine sm_cd (x_ok_7 H) ?_
  exact S7_takeSign_0 H
theorem S7_advance_0 {h : PH} (H : OKX h) : SimV OKX (F7_advance_0 h 47) (G7_advance_0 (rd h)) := by
  unfold F7_advance_0 G7_advance_0
  refine sm_VV (S7_skipBlanks H) fun ho1 Ho1 => ?_
  refine sm_rd (x_gI_7_3 Ho1).1 ?_
  refine sm_wt (x_pI_7_5 Ho1 rfl (x_gI_7_3 Ho1).2) fun h5 Hh5 => ?_
  refine sm_wt (x_pI_7_6 Hh5 l3_0 lr3_0) fun h7 Hh7 => ?_
  refine sm_rd (x_gI_7_3 Hh7).1 ?_
  refine sm_rd (x_gI_7_2 Hh7).1 ?_
  refine sm_if (z3_lt rfl rfl (x_gI_7_3 Hh7).2 (x_gI_7_2 Hh7).2) ?_ ?_
  · refine sm_rd (x_gR_7_1 Hh7) ?_
    refine sm_rd (x_gI_7_3 Hh7).1 ?_
    refine sgeV fun c1 => ?_
    refine sgxV fun c2 => ?_
    refine sm_rd (x_aI_B Hh7 c1 rfl c2).1 ?_
    refine sm_IV (S7_isLetter Hh7 rfl ((x_aI_B Hh7 c1 rfl c2).2)) fun vo20 ho20 Ho20 ro20 => ?_
    refine sm_if (z3_eq rfl l3_0 ro20 lr3_0) ?_ ?_
    · refine sm_rd (x_gR_7_1 Ho20) ?_
      refine sm_rd (x_gI_7_3 Ho20).1 ?_
      refine sgeV fun c3 => ?_
      refine sgxV fun c4 => ?_
      refine sm_rd (x_aI_B Ho20 c3 rfl c4).1 ?_
      refine sm_IV (S7_isDigit Ho20 rfl ((x_aI_B Ho20 c3 rfl c4).2)) fun vo29 ho29 Ho29 ro29 => ?_
      refine sm_if (z3_eq rfl l3_0 ro29 lr3_0) ?_ ?_
      · refine sm_VV (S7_takeSign Ho29) fun ho32 Ho32 => ?_
        exact sm_retV Ho32
      · refine sm_VV (S7_takeNumber Ho29) fun ho34 Ho34 => ?_
        exact sm_retV Ho34
    · refine sm_VV (S7_takeWord Ho20) fun ho36 Ho36 => ?_
      exact sm_retV Ho36
  · refine sm_wt (x_pI_7_4 Hh7 l3_39 lr3_39) fun h38 Hh38 => ?_
    exact sm_retV Hh38
theorem S7_advance {h : PH} (H : OKX h) : SimV OKX (F7_advance h 47) (G7_advance (rd h)) := by
  unfold F7_advance G7_advance
  refine sm_cd (x_ok_7 H) ?_
  exact S7_advance_0 H
theorem S5_takenNumber_42 {h : PH} (H : OKX h) : SimI OKX (F5_takenNumber_42 h 46) (G5_takenNumber_42 (rd h)) := by
  unfold F5_takenNumber_42 G5_takenNumber_42
  refine sm_II (S5_refuse H l3_2 lr3_2) fun vo1 ho1 Ho1 ro1 => ?_
  exact sm_retI Ho1 l3_m1 lr3_m1
theorem S5_takenNumber_0 {h : PH} (H : OKX h) {x1i : Int32} {x1 : Int} (ex1 : x1i = Z3 x1) (qx1 : r3 x1) {x2i : Int32} {x2 : Int} (ex2 : x2i = Z3 x2) (qx2 : r3 x2) : SimI OKX (F5_takenNumber_0 h 46 x1i x2i) (G5_takenNumber_0 (rd h) x1 x2) := by
  subst ex1 ex2
  unfold F5_takenNumber_0 G5_takenNumber_0
  refine sm_rd (x_gR_5_0 H) ?_
  refine sm_rd (x_gI_7_4 H).1 ?_
  refine sm_if (z3_eq rfl l3_25 (x_gI_7_4 H).2 lr3_25) ?_ ?_
  · refine sm_rd (x_gR_5_0 H) ?_
    refine sm_rd (x_gI_7_6 H).1 ?_
    refine sm_if (z3_lt rfl rfl (x_gI_7_6 H).2 qx1) ?_ ?_
    · exact S5_takenNumber_42 H
    · refine sm_rd (x_gR_5_0 H) ?_
      refine sm_rd (x_gI_7_6 H).1 ?_
      refine sm_if (z3_le rfl rfl (x_gI_7_6 H).2 qx2) ?_ ?_
      · refine sm_rd (x_gR_5_0 H) ?_
        refine sm_rd (x_gI_7_6 H).1 ?_
        exact sm_retI H rfl (x_gI_7_6 H).2
      · exact S5_takenNumber_42 H
  · refine sm_II (S5_refuse H l3_1 lr3_1) fun vo20 ho20 Ho20 ro20 => ?_
    exact sm_retI Ho20 l3_m1 lr3_m1
theorem S5_takenNumber {h : PH} (H : OKX h) {x1i : Int32} {x1 : Int} (ex1 : x1i = Z3 x1) (qx1 : r3 x1) {x2i : Int32} {x2 : Int} (ex2 : x2i = Z3 x2) (qx2 : r3 x2) : SimI OKX (F5_takenNumber h 46 x1i x2i) (G5_takenNumber (rd h) x1 x2) := by
  subst ex1 ex2
  unfold F5_takenNumber G5_takenNumber
  refine sm_cd (x_ok_5 H) ?_
  exact S5_takenNumber_0 H rfl qx1 rfl qx2
theorem S5_numberIn_0 {h : PH} (H : OKX h) {x1i : Int32} {x1 : Int} (ex1 : x1i = Z3 x1) (qx1 : r3 x1) {x2i : Int32} {x2 : Int} (ex2 : x2i = Z3 x2) (qx2 : r3 x2) : SimI OKX (F5_numberIn_0 h 46 x1i x2i) (G5_numberIn_0 (rd h) x1 x2) := by
  subst ex1 ex2
  unfold F5_numberIn_0 G5_numberIn_0
  refine sm_rd (x_gR_5_0 H) ?_
  refine sm_VI (S7_advance H) fun ho3 Ho3 => ?_
  refine sm_II (S5_takenNumber Ho3 rfl qx1 rfl qx2) fun vo5 ho5 Ho5 ro5 => ?_
  exact sm_retI Ho5 rfl ro5
