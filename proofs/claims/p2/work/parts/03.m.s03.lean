/-! The pure functions do so (written by wip/gen/gx.py). -/
theorem S6_keyFor {h : PH} (H : OKX h) {a0 : Nat} (ha0 : A6 a0) {a1 : Nat} (ha1 : A4 a1) {x2i : Int32} {x2 : Int} (ex2 : x2i = Z3 x2) (qx2 : r3 x2) {x3i : Int32} {x3 : Int} (ex3 : x3i = Z3 x3) (qx3 : r3 x3) : SimI OKX (F6_keyFor h a0 a1 x2i x3i) (G6_keyFor (rd h) a0 a1 x2 x3) := by
  subst ex2 ex3
  unfold F6_keyFor G6_keyFor
  refine sm_cd (x_ok_6 H ha0) ?_
  exact S6_keyFor_0 H ha0 ha1 rfl qx2 rfl qx3
theorem S6_putInLine_48 {h : PH} (H : OKX h) {a0 : Nat} (ha0 : A6 a0) {x1i : Int32} {x1 : Int} (ex1 : x1i = Z3 x1) (qx1 : r3 x1) {x3i : Int32} {x3 : Int} (ex3 : x3i = Z3 x3) (qx3 : r3 x3) : SimV OKX (F6_putInLine_48 h a0 x1i x3i) (G6_putInLine_48 (rd h) a0 x1 x3) := by
  subst ex1 ex3
  unfold F6_putInLine_48 G6_putInLine_48
  refine sm_rd (x_gR_6_6 H ha0) ?_
  refine sgxV fun c1 => ?_
  refine sm_wt (x_sI_6_6 H (ao_6_6 ha0) rfl c1 rfl qx1) fun h4 Hh4 => ?_
  exact sm_retV Hh4
theorem S6_putInLine_2 (n : Nat) : ∀ {h : PH} (H : OKX h) {a0 : Nat} (ha0 : A6 a0) {x1i : Int32} {x1 : Int} (ex1 : x1i = Z3 x1) (qx1 : r3 x1) {x3i : Int32} {x3 : Int} (ex3 : x3i = Z3 x3) (qx3 : r3 x3), SimV OKX (F6_putInLine_2 n h a0 x1i x3i) (G6_putInLine_2 n (rd h) a0 x1 x3) := by
  induction n with
  | zero => intros; exact smV_none _
  | succ n ih =>
    intro h H a0 ha0 x1i x1 ex1 qx1 x3i x3 ex3 qx3
    subst ex1 ex3
    rw [F6_putInLine_2, G6_putInLine_2]
    refine sm_if (z3_le rfl l3_0 qx3 lr3_0) ?_ ?_
    · exact S6_putInLine_48 H ha0 rfl qx1 rfl qx3
    · refine sm_rd (x_gR_6_8 H ha0) ?_
      refine sm_rd (x_gR_6_6 H ha0) ?_
      refine sgxV fun c1 => ?_
      refine sm_rd (x_aI_6_6 H (ao_6_6 ha0) (z3_sub rfl l3_1) c1).1 ?_
      refine sgxV fun c2 => ?_
      refine sm_rd (x_aI_6_8 H (ao_6_8 ha0) rfl c2).1 ?_
      refine sm_rd (x_gR_6_8 H ha0) ?_
      refine sgxV fun c3 => ?_
      refine sm_rd (x_aI_6_8 H (ao_6_8 ha0) rfl c3).1 ?_
      refine sm_if (z3_le rfl rfl (x_aI_6_8 H (ao_6_8 ha0) rfl c2).2 (x_aI_6_8 H (ao_6_8 ha0) rfl c3).2) ?_ ?_
      · exact S6_putInLine_48 H ha0 rfl qx1 rfl qx3
      · refine sm_rd (x_gR_6_6 H ha0) ?_
        refine sm_rd (x_gR_6_6 H ha0) ?_
        refine sgxV fun c4 => ?_
        refine sm_rd (x_aI_6_6 H (ao_6_6 ha0) (z3_sub rfl l3_1) c4).1 ?_
        refine sgxV fun c5 => ?_
        refine sm_wt (x_sI_6_6 H (ao_6_6 ha0) rfl c5 rfl (x_aI_6_6 H (ao_6_6 ha0) (z3_sub rfl l3_1) c4).2) fun h22 Hh22 => ?_
        refine sg3V fun c6 => ?_
        exact ih Hh22 ha0 rfl qx1 (z3_add rfl l3_m1) c6
theorem S6_putInLine_0 {h : PH} (H : OKX h) {a0 : Nat} (ha0 : A6 a0) {x1i : Int32} {x1 : Int} (ex1 : x1i = Z3 x1) (qx1 : r3 x1) {x2i : Int32} {x2 : Int} (ex2 : x2i = Z3 x2) (qx2 : r3 x2) : SimV OKX (F6_putInLine_0 h a0 x1i x2i) (G6_putInLine_0 (rd h) a0 x1 x2) := by
  subst ex1 ex2
  unfold F6_putInLine_0 G6_putInLine_0
  exact S6_putInLine_2 1024 H ha0 rfl qx1 rfl qx2
theorem S6_putInLine {h : PH} (H : OKX h) {a0 : Nat} (ha0 : A6 a0) {x1i : Int32} {x1 : Int} (ex1 : x1i = Z3 x1) (qx1 : r3 x1) {x2i : Int32} {x2 : Int} (ex2 : x2i = Z3 x2) (qx2 : r3 x2) : SimV OKX (F6_putInLine h a0 x1i x2i) (G6_putInLine (rd h) a0 x1 x2) := by
  subst ex1 ex2
  unfold F6_putInLine G6_putInLine
  refine sm_cd (x_ok_6 H ha0) ?_
  exact S6_putInLine_0 H ha0 rfl qx1 rfl qx2
theorem S6_lineUp_6 (n : Nat) : ∀ {h : PH} (H : OKX h) {a0 : Nat} (ha0 : A6 a0) {a1 : Nat} (ha1 : A4 a1) {x2i : Int32} {x2 : Int} (ex2 : x2i = Z3 x2) (qx2 : r3 x2) {x3i : Int32} {x3 : Int} (ex3 : x3i = Z3 x3) (qx3 : r3 x3) {x4i : Int32} {x4 : Int} (ex4 : x4i = Z3 x4) (qx4 : r3 x4) {x5i : Int32} {x5 : Int} (ex5 : x5i = Z3 x5) (qx5 : r3 x5), SimI OKX (F6_lineUp_6 n h a0 a1 x2i x3i x4i x5i) (G6_lineUp_6 n (rd h) a0 a1 x2 x3 x4 x5) := by
  induction n with
  | zero => intros; exact smI_none _
  | succ n ih =>
    intro h H a0 ha0 a1 ha1 x2i x2 ex2 qx2 x3i x3 ex3 qx3 x4i x4 ex4 qx4 x5i x5 ex5 qx5
    subst ex2 ex3 ex4 ex5
    rw [F6_lineUp_6, G6_lineUp_6]
    refine sm_rd (x_gR_6_0 H ha0) ?_
    refine sm_rd (x_gR_8_4 H (x_v_6_0 H ha0)) ?_
    refine sm_rd (x_gI_1_0 H (ao_8_4 (x_v_6_0 H ha0))).1 ?_
    refine sm_if (z3_le rfl rfl (x_gI_1_0 H (ao_8_4 (x_v_6_0 H ha0))).2 qx5) ?_ ?_
    · exact sm_retI H rfl qx4
    · refine sm_II (S4_isIn H ha1 rfl qx5 rfl qx3) fun vo8 ho8 Ho8 ro8 => ?_
      refine sm_if (z3_eq rfl l3_0 ro8 lr3_0) ?_ ?_
      · refine sg3I fun c1 => ?_
        exact ih Ho8 ha0 ha1 rfl qx2 rfl qx3 rfl qx4 (z3_add rfl l3_1) c1
      · refine sm_rd (x_gR_6_7 Ho8 ha0) ?_
        refine sm_rd (x_gR_4_5 Ho8 ha1) ?_
        refine sgxI fun c2 => ?_
        refine sm_rd (x_aI_4_5 Ho8 (ao_4_5 ha1) rfl c2).1 ?_
        refine sm_II (S6_oddsAt Ho8 ha0 rfl qx5 rfl qx2 rfl ((x_aI_4_5 Ho8 (ao_4_5 ha1) rfl c2).2)) fun vo17 ho17 Ho17 ro17 => ?_
        refine sgxI fun c3 => ?_
        refine sm_wt (x_sI_6_7 Ho17 (ao_6_7 ha0) rfl c3 rfl ro17) fun h20 Hh20 => ?_
        refine sm_rd (x_gR_6_7 Hh20 ha0) ?_
        refine sgxI fun c4 => ?_
        refine sm_rd (x_aI_6_7 Hh20 (ao_6_7 ha0) rfl c4).1 ?_
        refine sm_if (z3_le rfl l3_0 (x_aI_6_7 Hh20 (ao_6_7 ha0) rfl c4).2 lr3_0) ?_ ?_
        · refine sg3I fun c5 => ?_
          exact ih Hh20 ha0 ha1 rfl qx2 rfl qx3 rfl qx4 (z3_add rfl l3_1) c5
        · refine sm_rd (x_gR_6_8 Hh20 ha0) ?_
          refine sm_II (S6_keyFor Hh20 ha0 ha1 rfl qx5 rfl qx2) fun vo28 ho28 Ho28 ro28 => ?_
          refine sgxI fun c6 => ?_
          refine sm_wt (x_sI_6_8 Ho28 (ao_6_8 ha0) rfl c6 rfl ro28) fun h31 Hh31 => ?_
          refine sm_VI (S6_putInLine Hh31 ha0 rfl qx5 rfl qx4) fun ho32 Ho32 => ?_
          refine sg3I fun c7 => ?_
          refine sg3I fun c8 => ?_
          exact ih Ho32 ha0 ha1 rfl qx2 rfl qx3 (z3_add rfl l3_1) c7 (z3_add rfl l3_1) c8
theorem S6_lineUp_0 {h : PH} (H : OKX h) {a0 : Nat} (ha0 : A6 a0) {a1 : Nat} (ha1 : A4 a1) {x2i : Int32} {x2 : Int} (ex2 : x2i = Z3 x2) (qx2 : r3 x2) {x3i : Int32} {x3 : Int} (ex3 : x3i = Z3 x3) (qx3 : r3 x3) : SimI OKX (F6_lineUp_0 h a0 a1 x2i x3i) (G6_lineUp_0 (rd h) a0 a1 x2 x3) := by
  subst ex2 ex3
  unfold F6_lineUp_0 G6_lineUp_0
  exact S6_lineUp_6 1024 H ha0 ha1 rfl qx2 rfl qx3 l3_0 lr3_0 l3_0 lr3_0
theorem S6_lineUp {h : PH} (H : OKX h) {a0 : Nat} (ha0 : A6 a0) {a1 : Nat} (ha1 : A4 a1) {x2i : Int32} {x2 : Int} (ex2 : x2i = Z3 x2) (qx2 : r3 x2) {x3i : Int32} {x3 : Int} (ex3 : x3i = Z3 x3) (qx3 : r3 x3) : SimI OKX (F6_lineUp h a0 a1 x2i x3i) (G6_lineUp (rd h) a0 a1 x2 x3) := by
  subst ex2 ex3
  unfold F6_lineUp G6_lineUp
  refine sm_cd (x_ok_6 H ha0) ?_
  exact S6_lineUp_0 H ha0 ha1 rfl qx2 rfl qx3
theorem S6_placeOfRider_2 (n : Nat) : ∀ {h : PH} (H : OKX h) {a0 : Nat} (ha0 : A6 a0) {a1 : Nat} (ha1 : A4 a1) {x2i : Int32} {x2 : Int} (ex2 : x2i = Z3 x2) (qx2 : r3 x2) {x3i : Int32} {x3 : Int} (ex3 : x3i = Z3 x3) (qx3 : r3 x3), SimI OKX (F6_placeOfRider_2 n h a0 a1 x2i x3i) (G6_placeOfRider_2 n (rd h) a0 a1 x2 x3) := by
  induction n with
  | zero => intros; exact smI_none _
  | succ n ih =>
    intro h H a0 ha0 a1 ha1 x2i x2 ex2 qx2 x3i x3 ex3 qx3
    subst ex2 ex3
    rw [F6_placeOfRider_2, G6_placeOfRider_2]
    refine sm_if (z3_le rfl rfl qx2 qx3) ?_ ?_
    · exact sm_retI H l3_m1 lr3_m1
    · refine sm_II (S4_drawHundredth H ha1) fun vo2 ho2 Ho2 ro2 => ?_
      refine sm_rd (x_gR_6_7 Ho2 ha0) ?_
      refine sm_rd (x_gR_6_6 Ho2 ha0) ?_
      refine sgxI fun c1 => ?_
      refine sm_rd (x_aI_6_6 Ho2 (ao_6_6 ha0) rfl c1).1 ?_
      refine sgxI fun c2 => ?_
      refine sm_rd (x_aI_6_7 Ho2 (ao_6_7 ha0) rfl c2).1 ?_
      refine sm_if (z3_le rfl rfl (x_aI_6_7 Ho2 (ao_6_7 ha0) rfl c2).2 ro2) ?_ ?_
      · refine sg3I fun c3 => ?_
        exact ih Ho2 ha0 ha1 rfl qx2 (z3_add rfl l3_1) c3
      · exact sm_retI Ho2 rfl qx3
theorem S6_placeOfRider_0 {h : PH} (H : OKX h) {a0 : Nat} (ha0 : A6 a0) {a1 : Nat} (ha1 : A4 a1) {x2i : Int32} {x2 : Int} (ex2 : x2i = Z3 x2) (qx2 : r3 x2) : SimI OKX (F6_placeOfRider_0 h a0 a1 x2i) (G6_placeOfRider_0 (rd h) a0 a1 x2) := by
  subst ex2
  unfold F6_placeOfRider_0 G6_placeOfRider_0
  exact S6_placeOfRider_2 1024 H ha0 ha1 rfl qx2 l3_0 lr3_0
theorem S6_placeOfRider {h : PH} (H : OKX h) {a0 : Nat} (ha0 : A6 a0) {a1 : Nat} (ha1 : A4 a1) {x2i : Int32} {x2 : Int} (ex2 : x2i = Z3 x2) (qx2 : r3 x2) : SimI OKX (F6_placeOfRider h a0 a1 x2i) (G6_placeOfRider (rd h) a0 a1 x2) := by
  subst ex2
  unfold F6_placeOfRider G6_placeOfRider
  refine sm_cd (x_ok_6 H ha0) ?_
  exact S6_placeOfRider_0 H ha0 ha1 rfl qx2
theorem S6_crosserBehind_5 (n : Nat) : ∀ {h : PH} (H : OKX h) {a0 : Nat} (ha0 : A6 a0) {a1 : Nat} (ha1 : A4 a1) {x3i : Int32} {x3 : Int} (ex3 : x3i = Z3 x3) (qx3 : r3 x3) {x4i : Int32} {x4 : Int} (ex4 : x4i = Z3 x4) (qx4 : r3 x4), SimI OKX (F6_crosserBehind_5 n h a0 a1 x3i x4i) (G6_crosserBehind_5 n (rd h) a0 a1 x3 x4) := by
  induction n with
  | zero => intros; exact smI_none _
  | succ n ih =>
    intro h H a0 ha0 a1 ha1 x3i x3 ex3 qx3 x4i x4 ex4 qx4
    subst ex3 ex4
    rw [F6_crosserBehind_5, G6_crosserBehind_5]
    refine sm_if (z3_le rfl rfl qx3 qx4) ?_ ?_
    · exact sm_retI H l3_m1 lr3_m1
    · refine sm_rd (x_gR_6_2 H ha0) ?_
      refine sm_rd (x_gR_6_6 H ha0) ?_
      refine sgxI fun c1 => ?_
      refine sm_rd (x_aI_6_6 H (ao_6_6 ha0) rfl c1).1 ?_
      refine sgxI fun c2 => ?_
      refine sm_rd (x_aI_6_2 H (ao_6_2 ha0) rfl c2).1 ?_
      refine sm_if (z3_le rfl l3_0 (x_aI_6_2 H (ao_6_2 ha0) rfl c2).2 lr3_0) ?_ ?_
      · refine sg3I fun c3 => ?_
        exact ih H ha0 ha1 rfl qx3 (z3_add rfl l3_1) c3
      · refine sm_II (S4_drawHundredth H ha1) fun vo11 ho11 Ho11 ro11 => ?_
        refine sm_if (z3_le rfl rfl (x_aI_6_2 H (ao_6_2 ha0) rfl c2).2 ro11) ?_ ?_
        · refine sg3I fun c4 => ?_
          exact ih Ho11 ha0 ha1 rfl qx3 (z3_add rfl l3_1) c4
        · refine sm_rd (x_gR_6_6 Ho11 ha0) ?_
          refine sgxI fun c5 => ?_
          refine sm_rd (x_aI_6_6 Ho11 (ao_6_6 ha0) rfl c5).1 ?_
          exact sm_retI Ho11 rfl (x_aI_6_6 Ho11 (ao_6_6 ha0) rfl c5).2
theorem S6_crosserBehind_0 {h : PH} (H : OKX h) {a0 : Nat} (ha0 : A6 a0) {a1 : Nat} (ha1 : A4 a1) {x2i : Int32} {x2 : Int} (ex2 : x2i = Z3 x2) (qx2 : r3 x2) {x3i : Int32} {x3 : Int} (ex3 : x3i = Z3 x3) (qx3 : r3 x3) : SimI OKX (F6_crosserBehind_0 h a0 a1 x2i x3i) (G6_crosserBehind_0 (rd h) a0 a1 x2 x3) := by
  subst ex2 ex3
  unfold F6_crosserBehind_0 G6_crosserBehind_0
  refine sg3I fun c1 => ?_
  exact S6_crosserBehind_5 1024 H ha0 ha1 rfl qx3 (z3_add rfl l3_1) c1
theorem S6_crosserBehind {h : PH} (H : OKX h) {a0 : Nat} (ha0 : A6 a0) {a1 : Nat} (ha1 : A4 a1) {x2i : Int32} {x2 : Int} (ex2 : x2i = Z3 x2) (qx2 : r3 x2) {x3i : Int32} {x3 : Int} (ex3 : x3i = Z3 x3) (qx3 : r3 x3) : SimI OKX (F6_crosserBehind h a0 a1 x2i x3i) (G6_crosserBehind (rd h) a0 a1 x2 x3) := by
  subst ex2 ex3
  unfold F6_crosserBehind G6_crosserBehind
  refine sm_cd (x_ok_6 H ha0) ?_
  exact S6_crosserBehind_0 H ha0 ha1 rfl qx2 rfl qx3
theorem S6_sendAway_0 {h : PH} (H : OKX h) {a0 : Nat} (ha0 : A6 a0) {a1 : Nat} (ha1 : A4 a1) {x2i : Int32} {x2 : Int} (ex2 : x2i = Z3 x2) (qx2 : r3 x2) {x3i : Int32} {x3 : Int} (ex3 : x3i = Z3 x3) (qx3 : r3 x3) {x4i : Int32} {x4 : Int} (ex4 : x4i = Z3 x4) (qx4 : r3 x4) : SimV OKX (F6_sendAway_0 h a0 a1 x2i x3i x4i) (G6_sendAway_0 (rd h) a0 a1 x2 x3 x4) := by
  subst ex2 ex3 ex4
  unfold F6_sendAway_0 G6_sendAway_0
  refine sm_rd (x_gR_4_8 H ha1) ?_
  refine sm_rd (x_gR_6_0 H ha0) ?_
  refine sm_rd (x_gR_8_5 H (x_v_6_0 H ha0)) ?_
  refine sm_rd (x_gR_10_4 H (ao_8_5 (x_v_6_0 H ha0))) ?_
  refine sgxV fun c1 => ?_
  refine sm_rd (x_aI_10_4 H (ao_10_4 (ao_8_5 (x_v_6_0 H ha0))) rfl c1).1 ?_
  refine sm_IV (S6_awayFor H ha0 rfl qx2 rfl qx3) fun vo11 ho11 Ho11 ro11 => ?_
  refine sgxV fun c2 => ?_
  refine sg3V fun c3 => ?_
  refine sm_wt (x_sI_4_8 Ho11 (ao_4_8 ha1) rfl c2 (z3_add rfl (z3_mul rfl rfl)) c3) fun h14 Hh14 => ?_
  exact sm_retV Hh14
theorem S6_sendAway {h : PH} (H : OKX h) {a0 : Nat} (ha0 : A6 a0) {a1 : Nat} (ha1 : A4 a1) {x2i : Int32} {x2 : Int} (ex2 : x2i = Z3 x2) (qx2 : r3 x2) {x3i : Int32} {x3 : Int} (ex3 : x3i = Z3 x3) (qx3 : r3 x3) {x4i : Int32} {x4 : Int} (ex4 : x4i = Z3 x4) (qx4 : r3 x4) : SimV OKX (F6_sendAway h a0 a1 x2i x3i x4i) (G6_sendAway (rd h) a0 a1 x2 x3 x4) := by
  subst ex2 ex3 ex4
  unfold F6_sendAway G6_sendAway
  refine sm_cd (x_ok_6 H ha0) ?_
  exact S6_sendAway_0 H ha0 ha1 rfl qx2 rfl qx3 rfl qx4
theorem S6_bringWave_0 {h : PH} (H : OKX h) {a0 : Nat} (ha0 : A6 a0) {a1 : Nat} (ha1 : A4 a1) {x2i : Int32} {x2 : Int} (ex2 : x2i = Z3 x2) (qx2 : r3 x2) : SimV OKX (F6_bringWave_0 h a0 a1 x2i) (G6_bringWave_0 (rd h) a0 a1 x2) := by
  subst ex2
  unfold F6_bringWave_0 G6_bringWave_0
  refine sm_rd (x_gR_6_0 H ha0) ?_
  refine sm_rd (x_gR_8_5 H (x_v_6_0 H ha0)) ?_
  refine sm_rd (x_gR_10_4 H (ao_8_5 (x_v_6_0 H ha0))) ?_
  refine sgxV fun c1 => ?_
  refine sm_rd (x_aI_10_4 H (ao_10_4 (ao_8_5 (x_v_6_0 H ha0))) rfl c1).1 ?_
  refine sm_IV (S6_lineUp H ha0 ha1 rfl qx2 rfl ((x_aI_10_4 H (ao_10_4 (ao_8_5 (x_v_6_0 H ha0))) rfl c1).2)) fun vo9 ho9 Ho9 ro9 => ?_
  refine sm_IV (S6_placeOfRider Ho9 ha0 ha1 rfl ro9) fun vo11 ho11 Ho11 ro11 => ?_
  refine sm_if (z3_eq rfl l3_m1 ro11 lr3_m1) ?_ ?_
  · refine sm_rd (x_gR_4_10 Ho11 ha1) ?_
    refine sgxV fun c2 => ?_
    refine sm_wt (x_sI_4_10 Ho11 (ao_4_10 ha1) rfl c2 l3_m1 lr3_m1) fun h60 Hh60 => ?_
    refine sm_rd (x_gI_4_4 Hh60 ha1).1 ?_
    refine sg3V fun c3 => ?_
    refine sm_wt (x_pI_4_4 Hh60 ha1 (z3_add rfl l3_1) c3) fun h63 Hh63 => ?_
    exact sm_retV Hh63
  · refine sm_rd (x_gR_6_6 Ho11 ha0) ?_
    refine sgxV fun c4 => ?_
    refine sm_rd (x_aI_6_6 Ho11 (ao_6_6 ha0) rfl c4).1 ?_
    refine sm_IV (S6_crosserBehind Ho11 ha0 ha1 rfl ro11 rfl ro9) fun vo18 ho18 Ho18 ro18 => ?_
    refine sm_if (z3_eq rfl l3_m1 ro18 lr3_m1) ?_ ?_
    · refine sm_rd (x_gR_4_10 Ho18 ha1) ?_
      refine sgxV fun c5 => ?_
      refine sm_wt (x_sI_4_10 Ho18 (ao_4_10 ha1) rfl c5 rfl (x_aI_6_6 Ho11 (ao_6_6 ha0) rfl c4).2) fun h48 Hh48 => ?_
      refine sm_rd (x_gR_4_6 Hh48 ha1) ?_
      refine sgxV fun c6 => ?_
      refine sm_rd (x_aI_4_6 Hh48 (ao_4_6 ha1) rfl c6).1 ?_
      refine sgxV fun c7 => ?_
      refine sg3V fun c8 => ?_
      refine sm_wt (x_sI_4_6 Hh48 (ao_4_6 ha1) rfl c7 (z3_add rfl l3_1) c8) fun h54 Hh54 => ?_
      refine sm_VV (S6_sendAway Hh54 ha0 ha1 rfl ((x_aI_6_6 Ho11 (ao_6_6 ha0) rfl c4).2) rfl qx2 l3_1 lr3_1) fun ho55 Ho55 => ?_
      exact sm_retV Ho55
    · refine sm_rd (x_gR_4_10 Ho18 ha1) ?_
      refine sgxV fun c9 => ?_
      refine sm_wt (x_sI_4_10 Ho18 (ao_4_10 ha1) rfl c9 l3_m3 lr3_m3) fun h24 Hh24 => ?_
      refine sm_rd (x_gI_4_3 Hh24 ha1).1 ?_
      refine sg3V fun c10 => ?_
      refine sm_wt (x_pI_4_3 Hh24 ha1 (z3_add rfl l3_1) c10) fun h27 Hh27 => ?_
      refine sm_rd (x_gR_4_7 Hh27 ha1) ?_
      refine sgxV fun c11 => ?_
      refine sm_rd (x_aI_4_7 Hh27 (ao_4_7 ha1) rfl c11).1 ?_
      refine sgxV fun c12 => ?_
      refine sg3V fun c13 => ?_
      refine sm_wt (x_sI_4_7 Hh27 (ao_4_7 ha1) rfl c12 (z3_add rfl l3_1) c13) fun h34 Hh34 => ?_
      refine sm_rd (x_gR_4_7 Hh34 ha1) ?_
      refine sgxV fun c14 => ?_
      refine sm_rd (x_aI_4_7 Hh34 (ao_4_7 ha1) rfl c14).1 ?_
      refine sgxV fun c15 => ?_
      refine sg3V fun c16 => ?_
      refine sm_wt (x_sI_4_7 Hh34 (ao_4_7 ha1) rfl c15 (z3_add rfl l3_1) c16) fun h40 Hh40 => ?_
      refine sm_VV (S6_sendAway Hh40 ha0 ha1 rfl ((x_aI_6_6 Ho11 (ao_6_6 ha0) rfl c4).2) rfl qx2 l3_2 lr3_2) fun ho41 Ho41 => ?_
      refine sm_VV (S6_sendAway Ho41 ha0 ha1 rfl ro18 rfl qx2 l3_2 lr3_2) fun ho43 Ho43 => ?_
      exact sm_retV Ho43
theorem S6_bringWave {h : PH} (H : OKX h) {a0 : Nat} (ha0 : A6 a0) {a1 : Nat} (ha1 : A4 a1) {x2i : Int32} {x2 : Int} (ex2 : x2i = Z3 x2) (qx2 : r3 x2) : SimV OKX (F6_bringWave h a0 a1 x2i) (G6_bringWave (rd h) a0 a1 x2) := by
  subst ex2
  unfold F6_bringWave G6_bringWave
  refine sm_cd (x_ok_6 H ha0) ?_
  exact S6_bringWave_0 H ha0 ha1 rfl qx2
theorem S6_catchValue_0 {h : PH} (H : OKX h) {a0 : Nat} (ha0 : A6 a0) {x1i : Int32} {x1 : Int} (ex1 : x1i = Z3 x1) (qx1 : r3 x1) {x2i : Int32} {x2 : Int} (ex2 : x2i = Z3 x2) (qx2 : r3 x2) {x3i : Int32} {x3 : Int} (ex3 : x3i = Z3 x3) (qx3 : r3 x3) : SimJ OKX (F6_catchValue_0 h a0 x1i x2i x3i) (G6_catchValue_0 (rd h) a0 x1 x2 x3) := by
  subst ex1 ex2 ex3
  unfold F6_catchValue_0 G6_catchValue_0
  refine sm_VJ (S6_nameCatch H ha0 rfl qx1 rfl qx2 rfl qx3) fun ho1 Ho1 => ?_
  refine sm_rd (x_gR_6_0 Ho1 ha0) ?_
  refine sm_rd (x_gR_8_11 Ho1 (x_v_6_0 Ho1 ha0)) ?_
  refine sm_rd (x_aR Ho1 (ao_8_11 (x_v_6_0 Ho1 ha0)) l3_0 (by decide)) ?_
  refine sm_rd (x_gR_6_4 Ho1 ha0) ?_
  refine sm_rd (x_gR_6_5 Ho1 ha0) ?_
  refine sm_JJ (S2_valueFor Ho1 (x_aRp (ao_8_11 (x_v_6_0 Ho1 ha0)) (by decide)) (ao_6_4 ha0) (ao_6_5 ha0)) fun vo13 ho13 Ho13 ro13 => ?_
  exact sm_retJ Ho13 rfl ro13
theorem S6_catchValue {h : PH} (H : OKX h) {a0 : Nat} (ha0 : A6 a0) {x1i : Int32} {x1 : Int} (ex1 : x1i = Z3 x1) (qx1 : r3 x1) {x2i : Int32} {x2 : Int} (ex2 : x2i = Z3 x2) (qx2 : r3 x2) {x3i : Int32} {x3 : Int} (ex3 : x3i = Z3 x3) (qx3 : r3 x3) : SimJ OKX (F6_catchValue h a0 x1i x2i x3i) (G6_catchValue (rd h) a0 x1 x2 x3) := by
  subst ex1 ex2 ex3
  unfold F6_catchValue G6_catchValue
  refine sm_cd (x_ok_6 H ha0) ?_
  exact S6_catchValue_0 H ha0 rfl qx1 rfl qx2 rfl qx3
theorem S6_crossingOdds_74 {k28 : PH → Nat → Int32 → Int32 → Int32 → Int32 → Int32 → Option (Int32 × PH)} {kk28 : Mem → Nat → Int → Int → Int → Int → Int → Option (Int × Mem)} (hk28 : ∀ {h : PH} (_ : OKX h) {a1 : Nat} (_ : A6 a1) {x2 : Int32} {y2 : Int} (_ : x2 = Z3 y2) (_ : r3 y2) {x3 : Int32} {y3 : Int} (_ : x3 = Z3 y3) (_ : r3 y3) {x4 : Int32} {y4 : Int} (_ : x4 = Z3 y4) (_ : r3 y4) {x5 : Int32} {y5 : Int} (_ : x5 = Z3 y5) (_ : r3 y5) {x6 : Int32} {y6 : Int} (_ : x6 = Z3 y6) (_ : r3 y6), SimI OKX (k28 h a1 x2 x3 x4 x5 x6) (kk28 (rd h) a1 y2 y3 y4 y5 y6)) {h : PH} (H : OKX h) {a0 : Nat} (ha0 : A6 a0) {x2i : Int32} {x2 : Int} (ex2 : x2i = Z3 x2) (qx2 : r3 x2) {x4i : Int32} {x4 : Int} (ex4 : x4i = Z3 x4) (qx4 : r3 x4) {x5i : Int32} {x5 : Int} (ex5 : x5i = Z3 x5) (qx5 : r3 x5) {x6i : Int32} {x6 : Int} (ex6 : x6i = Z3 x6) (qx6 : r3 x6) {x7i : Int32} {x7 : Int} (ex7 : x7i = Z3 x7) (qx7 : r3 x7) {x8i : Int32} {x8 : Int} (ex8 : x8i = Z3 x8) (qx8 : r3 x8) : SimI OKX (F6_crossingOdds_74 k28 h a0 x2i x4i x5i x6i x7i x8i) (G6_crossingOdds_74 kk28 (rd h) a0 x2 x4 x5 x6 x7 x8) := by
  subst ex2 ex4 ex5 ex6 ex7 ex8
  unfold F6_crossingOdds_74 G6_crossingOdds_74
  refine sm_rd (x_gR_6_2 H ha0) ?_
  refine sgxI fun c1 => ?_
  refine sm_rd (x_aI_6_2 H (ao_6_2 ha0) rfl c1).1 ?_
  refine sg3I fun c2 => ?_
  refine sgdI fun c3 => ?_
  refine sg3I fun c4 => ?_
  exact hk28 H ha0 rfl qx2 rfl qx4 rfl qx5 (z3_div (z3_mul rfl (z3_sub l3_100 rfl)) l3_100 c2 lr3_100 c3) (r3_div c2 lr3_100 c3) (z3_add rfl l3_1) c4
theorem S6_crossingOdds_28 (n : Nat) : ∀ {h : PH} (H : OKX h) {a0 : Nat} (ha0 : A6 a0) {x2i : Int32} {x2 : Int} (ex2 : x2i = Z3 x2) (qx2 : r3 x2) {x4i : Int32} {x4 : Int} (ex4 : x4i = Z3 x4) (qx4 : r3 x4) {x5i : Int32} {x5 : Int} (ex5 : x5i = Z3 x5) (qx5 : r3 x5) {x6i : Int32} {x6 : Int} (ex6 : x6i = Z3 x6) (qx6 : r3 x6) {x7i : Int32} {x7 : Int} (ex7 : x7i = Z3 x7) (qx7 : r3 x7), SimI OKX (F6_crossingOdds_28 n h a0 x2i x4i x5i x6i x7i) (G6_crossingOdds_28 n (rd h) a0 x2 x4 x5 x6 x7) := by
  induction n with
  | zero => intros; exact smI_none _
  | succ n ih =>
    intro h H a0 ha0 x2i x2 ex2 qx2 x4i x4 ex4 qx4 x5i x5 ex5 qx5 x6i x6 ex6 qx6 x7i x7 ex7 qx7
    subst ex2 ex4 ex5 ex6 ex7
    rw [F6_crossingOdds_28, G6_crossingOdds_28]
    refine sm_if (z3_le rfl rfl qx4 qx7) ?_ ?_
    · refine sg3I fun c1 => ?_
      exact sm_retI H (z3_sub l3_100 rfl) c1
    · refine sm_rd (x_gR_6_6 H ha0) ?_
      refine sgxI fun c2 => ?_
      refine sm_rd (x_aI_6_6 H (ao_6_6 ha0) rfl c2).1 ?_
      refine sm_rd (x_gR_6_8 H ha0) ?_
      refine sgxI fun c3 => ?_
      refine sm_rd (x_aI_6_8 H (ao_6_8 ha0) rfl c3).1 ?_
      refine sm_if (z3_lt rfl rfl qx5 (x_aI_6_8 H (ao_6_8 ha0) rfl c3).2) ?_ ?_
      · exact S6_crossingOdds_74 (@fun _ H _ ha0 _ _ ex2 qx2 _ _ ex4 qx4 _ _ ex5 qx5 _ _ ex6 qx6 _ _ ex7 qx7 => ih H ha0 ex2 qx2 ex4 qx4 ex5 qx5 ex6 qx6 ex7 qx7) H ha0 rfl qx2 rfl qx4 rfl qx5 rfl qx6 rfl qx7 rfl ((x_aI_6_6 H (ao_6_6 ha0) rfl c2).2)
      · refine sm_rd (x_gR_6_8 H ha0) ?_
        refine sgxI fun c4 => ?_
        refine sm_rd (x_aI_6_8 H (ao_6_8 ha0) rfl c4).1 ?_
        refine sm_if (z3_eq rfl rfl (x_aI_6_8 H (ao_6_8 ha0) rfl c4).2 qx5) ?_ ?_
        · refine sm_if (z3_le rfl rfl (x_aI_6_6 H (ao_6_6 ha0) rfl c2).2 qx2) ?_ ?_
          · refine sg3I fun c5 => ?_
            exact ih H ha0 rfl qx2 rfl qx4 rfl qx5 rfl qx6 (z3_add rfl l3_1) c5
          · exact S6_crossingOdds_74 (@fun _ H _ ha0 _ _ ex2 qx2 _ _ ex4 qx4 _ _ ex5 qx5 _ _ ex6 qx6 _ _ ex7 qx7 => ih H ha0 ex2 qx2 ex4 qx4 ex5 qx5 ex6 qx6 ex7 qx7) H ha0 rfl qx2 rfl qx4 rfl qx5 rfl qx6 rfl qx7 rfl ((x_aI_6_6 H (ao_6_6 ha0) rfl c2).2)
        · refine sg3I fun c6 => ?_
          exact ih H ha0 rfl qx2 rfl qx4 rfl qx5 rfl qx6 (z3_add rfl l3_1) c6
theorem S6_crossingOdds_0 {h : PH} (H : OKX h) {a0 : Nat} (ha0 : A6 a0) {a1 : Nat} (ha1 : A4 a1) {x2i : Int32} {x2 : Int} (ex2 : x2i = Z3 x2) (qx2 : r3 x2) {x3i : Int32} {x3 : Int} (ex3 : x3i = Z3 x3) (qx3 : r3 x3) : SimI OKX (F6_crossingOdds_0 h a0 a1 x2i x3i) (G6_crossingOdds_0 (rd h) a0 a1 x2 x3) := by
  subst ex2 ex3
  unfold F6_crossingOdds_0 G6_crossingOdds_0
  refine sm_rd (x_gI_4_0 H ha1).1 ?_
  refine sm_II (S6_lineUp H ha0 ha1 rfl qx3 rfl ((x_gI_4_0 H ha1).2)) fun vo3 ho3 Ho3 ro3 => ?_
  refine sm_II (S6_keyFor Ho3 ha0 ha1 rfl qx2 rfl qx3) fun vo5 ho5 Ho5 ro5 => ?_
  exact S6_crossingOdds_28 1024 Ho5 ha0 rfl qx2 rfl ro3 rfl ro5 l3_100 lr3_100 l3_0 lr3_0
theorem S6_crossingOdds {h : PH} (H : OKX h) {a0 : Nat} (ha0 : A6 a0) {a1 : Nat} (ha1 : A4 a1) {x2i : Int32} {x2 : Int} (ex2 : x2i = Z3 x2) (qx2 : r3 x2) {x3i : Int32} {x3 : Int} (ex3 : x3i = Z3 x3) (qx3 : r3 x3) : SimI OKX (F6_crossingOdds h a0 a1 x2i x3i) (G6_crossingOdds (rd h) a0 a1 x2 x3) := by
  subst ex2 ex3
  unfold F6_crossingOdds G6_crossingOdds
  refine sm_cd (x_ok_6 H ha0) ?_
  exact S6_crossingOdds_0 H ha0 ha1 rfl qx2 rfl qx3
theorem S6_driftValue_2 (n : Nat) : ∀ {h : PH} (H : OKX h) {a0 : Nat} (ha0 : A6 a0) {x1i : Int32} {x1 : Int} (ex1 : x1i = Z3 x1) (qx1 : r3 x1) {x2i : Int32} {x2 : Int} (ex2 : x2i = Z3 x2) (qx2 : r3 x2), SimJ OKX (F6_driftValue_2 n h a0 x1i x2i) (G6_driftValue_2 n (rd h) a0 x1 x2) := by
  induction n with
  | zero => intros; exact smJ_none _
  | succ n ih =>
    intro h H a0 ha0 x1i x1 ex1 qx1 x2i x2 ex2 qx2
    subst ex1 ex2
    rw [F6_driftValue_2, G6_driftValue_2]
    refine sm_if (z3_le l3_6 rfl lr3_6 qx2) ?_ ?_
    · refine sm_rd (x_gR_6_4 H ha0) ?_
      refine sm_wt (x_sJ_6_4 H (ao_6_4 ha0) l3_4 ⟨by decide, by decide⟩ (z3_to6 rfl qx1) (r3_6 qx1)) fun h5 Hh5 => ?_
      refine sm_rd (x_gR_6_0 Hh5 ha0) ?_
      refine sm_rd (x_gR_8_11 Hh5 (x_v_6_0 Hh5 ha0)) ?_
      refine sm_rd (x_aR Hh5 (ao_8_11 (x_v_6_0 Hh5 ha0)) l3_1 (by decide)) ?_
      refine sm_rd (x_gR_6_4 Hh5 ha0) ?_
      refine sm_rd (x_gR_6_5 Hh5 ha0) ?_
      refine sm_JJ (S2_valueFor Hh5 (x_aRp (ao_8_11 (x_v_6_0 Hh5 ha0)) (by decide)) (ao_6_4 ha0) (ao_6_5 ha0)) fun vo16 ho16 Ho16 ro16 => ?_
      exact sm_retJ Ho16 rfl ro16
    · refine sm_rd (x_gR_6_4 H ha0) ?_
      refine sgxJ fun c1 => ?_
      refine sm_wt (x_sJ_6_4 H (ao_6_4 ha0) rfl c1 l6_0 lr6_0) fun h21 Hh21 => ?_
      refine sg3J fun c2 => ?_
      exact ih Hh21 ha0 rfl qx1 (z3_add rfl l3_1) c2
theorem S6_driftValue_0 {h : PH} (H : OKX h) {a0 : Nat} (ha0 : A6 a0) {x1i : Int32} {x1 : Int} (ex1 : x1i = Z3 x1) (qx1 : r3 x1) : SimJ OKX (F6_driftValue_0 h a0 x1i) (G6_driftValue_0 (rd h) a0 x1) := by
  subst ex1
  unfold F6_driftValue_0 G6_driftValue_0
  exact S6_driftValue_2 1024 H ha0 rfl qx1 l3_0 lr3_0
theorem S6_driftValue {h : PH} (H : OKX h) {a0 : Nat} (ha0 : A6 a0) {x1i : Int32} {x1 : Int} (ex1 : x1i = Z3 x1) (qx1 : r3 x1) : SimJ OKX (F6_driftValue h a0 x1i) (G6_driftValue (rd h) a0 x1) := by
  subst ex1
  unfold F6_driftValue G6_driftValue
  refine sm_cd (x_ok_6 H ha0) ?_
  exact S6_driftValue_0 H ha0 rfl qx1
theorem S6_giveBoards_2 (n : Nat) : ∀ {h : PH} (H : OKX h) {a0 : Nat} (ha0 : A6 a0) {x1i : Int32} {x1 : Int} (ex1 : x1i = Z3 x1) (qx1 : r3 x1) {x2i : Int32} {x2 : Int} (ex2 : x2i = Z3 x2) (qx2 : r3 x2), SimV OKX (F6_giveBoards_2 n h a0 x1i x2i) (G6_giveBoards_2 n (rd h) a0 x1 x2) := by
  induction n with
  | zero => intros; exact smV_none _
  | succ n ih =>
    intro h H a0 ha0 x1i x1 ex1 qx1 x2i x2 ex2 qx2
    subst ex1 ex2
    rw [F6_giveBoards_2, G6_giveBoards_2]
    refine sm_if (z3_le l3_5 rfl lr3_5 qx2) ?_ ?_
    · exact sm_retV H
    · refine sm_rd (x_gR_6_1 H ha0) ?_
      refine sgxV fun c1 => ?_
      refine sm_wt (x_sI_6_1 H (ao_6_1 ha0) rfl c1 rfl qx1) fun h5 Hh5 => ?_
      refine sg3V fun c2 => ?_
      exact ih Hh5 ha0 rfl qx1 (z3_add rfl l3_1) c2
theorem S6_giveBoards_0 {h : PH} (H : OKX h) {a0 : Nat} (ha0 : A6 a0) {x1i : Int32} {x1 : Int} (ex1 : x1i = Z3 x1) (qx1 : r3 x1) : SimV OKX (F6_giveBoards_0 h a0 x1i) (G6_giveBoards_0 (rd h) a0 x1) := by
  subst ex1
  unfold F6_giveBoards_0 G6_giveBoards_0
  exact S6_giveBoards_2 1024 H ha0 rfl qx1 l3_0 lr3_0
theorem S6_giveBoards {h : PH} (H : OKX h) {a0 : Nat} (ha0 : A6 a0) {x1i : Int32} {x1 : Int} (ex1 : x1i = Z3 x1) (qx1 : r3 x1) : SimV OKX (F6_giveBoards h a0 x1i) (G6_giveBoards (rd h) a0 x1) := by
  subst ex1
  unfold F6_giveBoards G6_giveBoards
  refine sm_cd (x_ok_6 H ha0) ?_
  exact S6_giveBoards_0 H ha0 rfl qx1
theorem S6_holdPeak_2 (n : Nat) : ∀ {h : PH} (H : OKX h) {a0 : Nat} (ha0 : A6 a0) {x1i : Int32} {x1 : Int} (ex1 : x1i = Z3 x1) (qx1 : r3 x1), SimV OKX (F6_holdPeak_2 n h a0 x1i) (G6_holdPeak_2 n (rd h) a0 x1) := by
  induction n with
  | zero => intros; exact smV_none _
  | succ n ih =>
    intro h H a0 ha0 x1i x1 ex1 qx1
    subst ex1
    rw [F6_holdPeak_2, G6_holdPeak_2]
    refine sm_if (z3_le l3_28 rfl lr3_28 qx1) ?_ ?_
    · exact sm_retV H
    · refine sm_rd (x_gR_6_3 H ha0) ?_
      refine sm_rd (x_gR_6_0 H ha0) ?_
      refine sm_rd (x_gI_8_2 H (x_v_6_0 H ha0)).1 ?_
      refine sgxV fun c1 => ?_
      refine sm_wt (x_sI_6_3 H (ao_6_3 ha0) rfl c1 rfl (x_gI_8_2 H (x_v_6_0 H ha0)).2) fun h9 Hh9 => ?_
      refine sg3V fun c2 => ?_
      exact ih Hh9 ha0 (z3_add rfl l3_1) c2
theorem S6_holdPeak_0 {h : PH} (H : OKX h) {a0 : Nat} (ha0 : A6 a0) : SimV OKX (F6_holdPeak_0 h a0) (G6_holdPeak_0 (rd h) a0) := by
  unfold F6_holdPeak_0 G6_holdPeak_0
  exact S6_holdPeak_2 1024 H ha0 l3_0 lr3_0
theorem S6_holdPeak {h : PH} (H : OKX h) {a0 : Nat} (ha0 : A6 a0) : SimV OKX (F6_holdPeak h a0) (G6_holdPeak (rd h) a0) := by
  unfold F6_holdPeak G6_holdPeak
  refine sm_cd (x_ok_6 H ha0) ?_
  exact S6_holdPeak_0 H ha0
theorem S6_makeNobodyBold_2 (n : Nat) : ∀ {h : PH} (H : OKX h) {a0 : Nat} (ha0 : A6 a0) {x1i : Int32} {x1 : Int} (ex1 : x1i = Z3 x1) (qx1 : r3 x1), SimV OKX (F6_makeNobodyBold_2 n h a0 x1i) (G6_makeNobodyBold_2 n (rd h) a0 x1) := by
  induction n with
  | zero => intros; exact smV_none _
  | succ n ih =>
    intro h H a0 ha0 x1i x1 ex1 qx1
    subst ex1
    rw [F6_makeNobodyBold_2, G6_makeNobodyBold_2]
    refine sm_if (z3_le l3_5 rfl lr3_5 qx1) ?_ ?_
    · exact sm_retV H
    · refine sm_rd (x_gR_6_2 H ha0) ?_
      refine sgxV fun c1 => ?_
      refine sm_wt (x_sI_6_2 H (ao_6_2 ha0) rfl c1 l3_0 lr3_0) fun h5 Hh5 => ?_
      refine sg3V fun c2 => ?_
      exact ih Hh5 ha0 (z3_add rfl l3_1) c2
theorem S6_makeNobodyBold_0 {h : PH} (H : OKX h) {a0 : Nat} (ha0 : A6 a0) : SimV OKX (F6_makeNobodyBold_0 h a0) (G6_makeNobodyBold_0 (rd h) a0) := by
  unfold F6_makeNobodyBold_0 G6_makeNobodyBold_0
  exact S6_makeNobodyBold_2 1024 H ha0 l3_0 lr3_0
theorem S6_makeNobodyBold {h : PH} (H : OKX h) {a0 : Nat} (ha0 : A6 a0) : SimV OKX (F6_makeNobodyBold h a0) (G6_makeNobodyBold (rd h) a0) := by
  unfold F6_makeNobodyBold G6_makeNobodyBold
  refine sm_cd (x_ok_6 H ha0) ?_
  exact S6_makeNobodyBold_0 H ha0
theorem S6_peakXAt_39 {h : PH} (H : OKX h) {a0 : Nat} (ha0 : A6 a0) {t0i : Int64} {t0 : Int} (et0 : t0i = Z6 t0) (qt0 : r6 t0) {t1i : Int64} {t1 : Int} (et1 : t1i = Z6 t1) (qt1 : r6 t1) : SimI OKX (F6_peakXAt_39 h a0 t0i t1i) (G6_peakXAt_39 (rd h) a0 t0 t1) := by
  subst et0 et1
  unfold F6_peakXAt_39 G6_peakXAt_39
  refine sm_rd (x_gR_6_0 H ha0) ?_
  refine sm_rd (x_gI_8_0 H (x_v_6_0 H ha0)).1 ?_
  refine sg6I fun c1 => ?_
  refine sg3I fun c2 => ?_
  refine sg3I fun c3 => ?_
  refine sg6I fun c4 => ?_
  refine sg6I fun c5 => ?_
  refine sg3I fun c6 => ?_
  refine sg3I fun c7 => ?_
  refine sg3I fun c8 => ?_
  exact sm_retI H (z6_to3 (z6_ite (z6_lt (z6_ite (z6_lt (z6_add rfl rfl) (z3_to6 (z3_sub rfl l3_1) c2) c1 (r3_6 c2)) (z6_add rfl rfl) (z3_to6 (z3_sub rfl l3_1) c3)) l6_0 c4 lr6_0) l6_0 (z6_ite (z6_lt (z6_add rfl rfl) (z3_to6 (z3_sub rfl l3_1) c6) c5 (r3_6 c6)) (z6_add rfl rfl) (z3_to6 (z3_sub rfl l3_1) c7)))) c8
theorem S6_peakXAt_0 {h : PH} (H : OKX h) {a0 : Nat} (ha0 : A6 a0) {x1i : Int32} {x1 : Int} (ex1 : x1i = Z3 x1) (qx1 : r3 x1) : SimI OKX (F6_peakXAt_0 h a0 x1i) (G6_peakXAt_0 (rd h) a0 x1) := by
  subst ex1
  unfold F6_peakXAt_0 G6_peakXAt_0
  refine sm_JI (S6_driftValue H ha0 rfl qx1) fun vo1 ho1 Ho1 ro1 => ?_
  refine sm_rd (x_gR_6_0 Ho1 ha0) ?_
  refine sm_rd (x_gI_8_2 Ho1 (x_v_6_0 Ho1 ha0)).1 ?_
  refine sm_if (cmp_eq rfl l6_m9223372036854775808 ro1 lr6_m9223372036854775808) ?_ ?_
  · exact S6_peakXAt_39 Ho1 ha0 l6_0 lr6_0 (z3_to6 rfl (x_gI_8_2 Ho1 (x_v_6_0 Ho1 ha0)).2) (r3_6 (x_gI_8_2 Ho1 (x_v_6_0 Ho1 ha0)).2)
  · exact S6_peakXAt_39 Ho1 ha0 (z6_ite (z6_lt (z6_ite (z6_lt rfl l6_8 ro1 lr6_8) rfl l6_8) l6_m8 (r6_ite ro1 lr6_8) lr6_m8) l6_m8 (z6_ite (z6_lt rfl l6_8 ro1 lr6_8) rfl l6_8)) (r6_ite lr6_m8 (r6_ite ro1 lr6_8)) (z3_to6 rfl (x_gI_8_2 Ho1 (x_v_6_0 Ho1 ha0)).2) (r3_6 (x_gI_8_2 Ho1 (x_v_6_0 Ho1 ha0)).2)
theorem S6_peakXAt {h : PH} (H : OKX h) {a0 : Nat} (ha0 : A6 a0) {x1i : Int32} {x1 : Int} (ex1 : x1i = Z3 x1) (qx1 : r3 x1) : SimI OKX (F6_peakXAt h a0 x1i) (G6_peakXAt (rd h) a0 x1) := by
  subst ex1
  unfold F6_peakXAt G6_peakXAt
  refine sm_cd (x_ok_6 H ha0) ?_
  exact S6_peakXAt_0 H ha0 rfl qx1
theorem S6_seatFrom_6 (n : Nat) : ∀ {h : PH} (H : OKX h) {a0 : Nat} (ha0 : A6 a0) {x1i : Int32} {x1 : Int} (ex1 : x1i = Z3 x1) (qx1 : r3 x1) {x2i : Int32} {x2 : Int} (ex2 : x2i = Z3 x2) (qx2 : r3 x2) {x4i : Int32} {x4 : Int} (ex4 : x4i = Z3 x4) (qx4 : r3 x4) {x5i : Int32} {x5 : Int} (ex5 : x5i = Z3 x5) (qx5 : r3 x5), SimI OKX (F6_seatFrom_6 n h a0 x1i x2i x4i x5i) (G6_seatFrom_6 n (rd h) a0 x1 x2 x4 x5) := by
  induction n with
  | zero => intros; exact smI_none _
  | succ n ih =>
    intro h H a0 ha0 x1i x1 ex1 qx1 x2i x2 ex2 qx2 x4i x4 ex4 qx4 x5i x5 ex5 qx5
    subst ex1 ex2 ex4 ex5
    rw [F6_seatFrom_6, G6_seatFrom_6]
    refine sm_rd (x_gR_6_0 H ha0) ?_
    refine sm_rd (x_gR_8_5 H (x_v_6_0 H ha0)) ?_
    refine sm_rd (x_gI_10_1 H (ao_8_5 (x_v_6_0 H ha0))).1 ?_
    refine sm_if (z3_le rfl rfl (x_gI_10_1 H (ao_8_5 (x_v_6_0 H ha0))).2 qx5) ?_ ?_
    · exact sm_retI H rfl qx4
    · refine sm_II (S6_worthAt H ha0 rfl qx1 rfl qx5 rfl qx2) fun vo8 ho8 Ho8 ro8 => ?_
      refine sg3I fun c1 => ?_
      refine sg3I fun c2 => ?_
      exact ih Ho8 ha0 rfl qx1 rfl qx2 (z3_add rfl rfl) c1 (z3_add rfl l3_1) c2
theorem S6_seatFrom_0 {h : PH} (H : OKX h) {a0 : Nat} (ha0 : A6 a0) {x1i : Int32} {x1 : Int} (ex1 : x1i = Z3 x1) (qx1 : r3 x1) {x2i : Int32} {x2 : Int} (ex2 : x2i = Z3 x2) (qx2 : r3 x2) {x3i : Int32} {x3 : Int} (ex3 : x3i = Z3 x3) (qx3 : r3 x3) : SimI OKX (F6_seatFrom_0 h a0 x1i x2i x3i) (G6_seatFrom_0 (rd h) a0 x1 x2 x3) := by
  subst ex1 ex2 ex3
  unfold F6_seatFrom_0 G6_seatFrom_0
  exact S6_seatFrom_6 1024 H ha0 rfl qx1 rfl qx2 l3_0 lr3_0 rfl qx3
theorem S6_seatFrom {h : PH} (H : OKX h) {a0 : Nat} (ha0 : A6 a0) {x1i : Int32} {x1 : Int} (ex1 : x1i = Z3 x1) (qx1 : r3 x1) {x2i : Int32} {x2 : Int} (ex2 : x2i = Z3 x2) (qx2 : r3 x2) {x3i : Int32} {x3 : Int} (ex3 : x3i = Z3 x3) (qx3 : r3 x3) : SimI OKX (F6_seatFrom h a0 x1i x2i x3i) (G6_seatFrom (rd h) a0 x1 x2 x3) := by
  subst ex1 ex2 ex3
  unfold F6_seatFrom G6_seatFrom
  refine sm_cd (x_ok_6 H ha0) ?_
  exact S6_seatFrom_0 H ha0 rfl qx1 rfl qx2 rfl qx3
theorem S6_takeAsTold_47 (n : Nat) : ∀ {h : PH} (H : OKX h) {a0 : Nat} (ha0 : A6 a0) {x2i : Int32} {x2 : Int} (ex2 : x2i = Z3 x2) (qx2 : r3 x2), SimV OKX (F6_takeAsTold_47 n h a0 x2i) (G6_takeAsTold_47 n (rd h) a0 x2) := by
  induction n with
  | zero => intros; exact smV_none _
  | succ n ih =>
    intro h H a0 ha0 x2i x2 ex2 qx2
    subst ex2
    rw [F6_takeAsTold_47, G6_takeAsTold_47]
    refine sm_rd (x_gR_6_0 H ha0) ?_
    refine sm_rd (x_gR_8_5 H (x_v_6_0 H ha0)) ?_
    refine sm_rd (x_gI_10_1 H (ao_8_5 (x_v_6_0 H ha0))).1 ?_
    refine sm_if (z3_le rfl rfl (x_gI_10_1 H (ao_8_5 (x_v_6_0 H ha0))).2 qx2) ?_ ?_
    · exact sm_retV H
    · refine sm_rd (x_gR_6_3 H ha0) ?_
      refine sm_rd (x_gR_6_0 H ha0) ?_
      refine sm_rd (x_gR_8_5 H (x_v_6_0 H ha0)) ?_
      refine sm_rd (x_gR_10_4 H (ao_8_5 (x_v_6_0 H ha0))) ?_
      refine sgxV fun c1 => ?_
      refine sm_rd (x_aI_10_4 H (ao_10_4 (ao_8_5 (x_v_6_0 H ha0))) rfl c1).1 ?_
      refine sm_IV (S6_peakXAt H ha0 rfl ((x_aI_10_4 H (ao_10_4 (ao_8_5 (x_v_6_0 H ha0))) rfl c1).2)) fun vo18 ho18 Ho18 ro18 => ?_
      refine sgxV fun c2 => ?_
      refine sm_wt (x_sI_6_3 Ho18 (ao_6_3 ha0) rfl c2 rfl ro18) fun h21 Hh21 => ?_
      refine sg3V fun c3 => ?_
      exact ih Hh21 ha0 (z3_add rfl l3_1) c3
theorem S6_takeAsTold_0 {h : PH} (H : OKX h) {a0 : Nat} (ha0 : A6 a0) {a1 : Nat} (ha1 : A8 a1) : SimV OKX (F6_takeAsTold_0 h a0 a1) (G6_takeAsTold_0 (rd h) a0 a1) := by
  unfold F6_takeAsTold_0 G6_takeAsTold_0
  refine sm_wt (x_pR_6_0 H ha0 ha1) fun h1 Hh1 => ?_
  refine sm_rd (x_gR_6_0 Hh1 ha0) ?_
  refine sm_rd (x_gR_8_4 Hh1 (x_v_6_0 Hh1 ha0)) ?_
  refine sm_rd (x_gR_1_3 Hh1 (ao_8_4 (x_v_6_0 Hh1 ha0))) ?_
  refine sm_rd (x_gR_6_1 Hh1 ha0) ?_
  refine sm_wt (x_cp Hh1 (x_row_1_3 Hh1 (ao_1_3 (ao_8_4 (x_v_6_0 Hh1 ha0)))) (x_row_6_1 Hh1 (ao_6_1 ha0)) l3_0 l3_0 l3_5 (by decide) (by decide) (by decide) (nr_6_1 (ao_6_1 ha0))) fun h11 Hh11 => ?_
  refine sm_rd (x_gR_6_0 Hh11 ha0) ?_
  refine sm_rd (x_gR_8_4 Hh11 (x_v_6_0 Hh11 ha0)) ?_
  refine sm_rd (x_gR_1_5 Hh11 (ao_8_4 (x_v_6_0 Hh11 ha0))) ?_
  refine sm_rd (x_gR_6_2 Hh11 ha0) ?_
  refine sm_wt (x_cp Hh11 (x_row_1_5 Hh11 (ao_1_5 (ao_8_4 (x_v_6_0 Hh11 ha0)))) (x_row_6_2 Hh11 (ao_6_2 ha0)) l3_0 l3_0 l3_5 (by decide) (by decide) (by decide) (nr_6_2 (ao_6_2 ha0))) fun h21 Hh21 => ?_
  exact S6_takeAsTold_47 1024 Hh21 ha0 l3_0 lr3_0
theorem S6_takeAsTold {h : PH} (H : OKX h) {a0 : Nat} (ha0 : A6 a0) {a1 : Nat} (ha1 : A8 a1) : SimV OKX (F6_takeAsTold h a0 a1) (G6_takeAsTold (rd h) a0 a1) := by
  unfold F6_takeAsTold G6_takeAsTold
  refine sm_cd (x_ok_6 H ha0) ?_
  exact S6_takeAsTold_0 H ha0 ha1
theorem S6_takeOver_0 {h : PH} (H : OKX h) {a0 : Nat} (ha0 : A6 a0) {a1 : Nat} (ha1 : A6 a1) : SimV OKX (F6_takeOver_0 h a0 a1) (G6_takeOver_0 (rd h) a0 a1) := by
  unfold F6_takeOver_0 G6_takeOver_0
  refine sm_rd (x_gR_6_0 H ha1) ?_
  refine sm_wt (x_pR_6_0 H ha0 (x_v_6_0 H ha1)) fun h3 Hh3 => ?_
  refine sm_rd (x_gR_6_1 Hh3 ha1) ?_
  refine sm_rd (x_gR_6_1 Hh3 ha0) ?_
  refine sm_wt (x_cp Hh3 (x_row_6_1 Hh3 (ao_6_1 ha1)) (x_row_6_1 Hh3 (ao_6_1 ha0)) l3_0 l3_0 l3_5 (by decide) (by decide) (by decide) (nr_6_1 (ao_6_1 ha0))) fun h9 Hh9 => ?_
  refine sm_rd (x_gR_6_2 Hh9 ha1) ?_
  refine sm_rd (x_gR_6_2 Hh9 ha0) ?_
  refine sm_wt (x_cp Hh9 (x_row_6_2 Hh9 (ao_6_2 ha1)) (x_row_6_2 Hh9 (ao_6_2 ha0)) l3_0 l3_0 l3_5 (by decide) (by decide) (by decide) (nr_6_2 (ao_6_2 ha0))) fun h15 Hh15 => ?_
  refine sm_rd (x_gR_6_3 Hh15 ha1) ?_
  refine sm_rd (x_gR_6_3 Hh15 ha0) ?_
  refine sm_wt (x_cp Hh15 (x_row_6_3 Hh15 (ao_6_3 ha1)) (x_row_6_3 Hh15 (ao_6_3 ha0)) l3_0 l3_0 l3_28 (by decide) (by decide) (by decide) (nr_6_3 (ao_6_3 ha0))) fun h21 Hh21 => ?_
  exact sm_retV Hh21
theorem S6_takeOver {h : PH} (H : OKX h) {a0 : Nat} (ha0 : A6 a0) {a1 : Nat} (ha1 : A6 a1) : SimV OKX (F6_takeOver h a0 a1) (G6_takeOver (rd h) a0 a1) := by
  unfold F6_takeOver G6_takeOver
  refine sm_cd (x_ok_6 H ha0) ?_
  exact S6_takeOver_0 H ha0 ha1
theorem S8_bankWaves_0 {h : PH} (H : OKX h) {a0 : Nat} (ha0 : A8 a0) {x1i : Int32} {x1 : Int} (ex1 : x1i = Z3 x1) (qx1 : r3 x1) {x2i : Int32} {x2 : Int} (ex2 : x2i = Z3 x2) (qx2 : r3 x2) : SimI OKX (F8_bankWaves_0 h a0 x1i x2i) (G8_bankWaves_0 (rd h) a0 x1 x2) := by
  subst ex1 ex2
  unfold F8_bankWaves_0 G8_bankWaves_0
  refine sm_rd (x_gI_8_6 H ha0).1 ?_
  refine sg3I fun c1 => ?_
  refine sm_if (z3_lt (z3_sub (z3_sub rfl rfl) rfl) l3_0 c1 lr3_0) ?_ ?_
  · exact sm_retI H l3_0 lr3_0
  · refine sm_rd (x_gI_8_7 H ha0).1 ?_
    refine sm_if (z3_le l3_1 rfl lr3_1 (x_gI_8_7 H ha0).2) ?_ ?_
    · refine sm_rd (x_gI_8_7 H ha0).1 ?_
      refine sm_if (z3_eq rfl l3_0 (x_gI_8_7 H ha0).2 lr3_0) ?_ ?_
      · exact smI_none _
      · refine sg3I fun c2 => ?_
        refine sgdI fun c3 => ?_
        refine sg3I fun c4 => ?_
        exact sm_retI H (z3_add (z3_div (z3_sub (z3_sub rfl rfl) rfl) rfl c2 (x_gI_8_7 H ha0).2 c3) l3_1) c4
    · exact sm_retI H l3_0 lr3_0
theorem S8_bankWaves {h : PH} (H : OKX h) {a0 : Nat} (ha0 : A8 a0) {x1i : Int32} {x1 : Int} (ex1 : x1i = Z3 x1) (qx1 : r3 x1) {x2i : Int32} {x2 : Int} (ex2 : x2i = Z3 x2) (qx2 : r3 x2) : SimI OKX (F8_bankWaves h a0 x1i x2i) (G8_bankWaves (rd h) a0 x1 x2) := by
  subst ex1 ex2
  unfold F8_bankWaves G8_bankWaves
  refine sm_cd (x_ok_8 H ha0) ?_
  exact S8_bankWaves_0 H ha0 rfl qx1 rfl qx2
theorem S8_cells_0 {h : PH} (H : OKX h) {a0 : Nat} (ha0 : A8 a0) : SimI OKX (F8_cells_0 h a0) (G8_cells_0 (rd h) a0) := by
  unfold F8_cells_0 G8_cells_0
  refine sm_rd (x_gI_8_0 H ha0).1 ?_
  refine sm_rd (x_gI_8_1 H ha0).1 ?_
  refine sg3I fun c1 => ?_
  exact sm_retI H (z3_mul rfl rfl) c1
theorem S8_cells {h : PH} (H : OKX h) {a0 : Nat} (ha0 : A8 a0) : SimI OKX (F8_cells h a0) (G8_cells (rd h) a0) := by
  unfold F8_cells G8_cells
  refine sm_cd (x_ok_8 H ha0) ?_
  exact S8_cells_0 H ha0
theorem S9_add_45 {h : PH} (H : OKX h) {x1i : Int32} {x1 : Int} (ex1 : x1i = Z3 x1) (qx1 : r3 x1) {x2i : Int32} {x2 : Int} (ex2 : x2i = Z3 x2) (qx2 : r3 x2) : SimV OKX (F9_add_45 h 96 x1i x2i) (G9_add_45 (rd h) x1 x2) := by
  subst ex1 ex2
  unfold F9_add_45 G9_add_45
  refine sm_rd (x_gR_9_1 H) ?_
  refine sm_rd (x_gI_9_0 H).1 ?_
  refine sgxV fun c1 => ?_
  refine sm_wt (x_sI_9_1 H rfl c1 rfl qx1) fun h6 Hh6 => ?_
  refine sm_rd (x_gR_9_2 Hh6) ?_
  refine sm_rd (x_gI_9_0 Hh6).1 ?_
  refine sgxV fun c2 => ?_
  refine sm_wt (x_sI_9_2 Hh6 rfl c2 rfl qx2) fun h12 Hh12 => ?_
  refine sm_rd (x_gI_9_0 Hh12).1 ?_
  refine sg3V fun c3 => ?_
  refine sm_wt (x_pI_9_0 Hh12 (z3_add rfl l3_1) c3) fun h15 Hh15 => ?_
  exact sm_retV Hh15
theorem S9_add_0 {h : PH} (H : OKX h) {x1i : Int32} {x1 : Int} (ex1 : x1i = Z3 x1) (qx1 : r3 x1) {x2i : Int32} {x2 : Int} (ex2 : x2i = Z3 x2) (qx2 : r3 x2) : SimV OKX (F9_add_0 h 96 x1i x2i) (G9_add_0 (rd h) x1 x2) := by
  subst ex1 ex2
  unfold F9_add_0 G9_add_0
  refine sm_rd (x_gI_9_0 H).1 ?_
  refine sm_if (z3_lt rfl l3_20 (x_gI_9_0 H).2 lr3_20) ?_ ?_
  · exact S9_add_45 H rfl qx1 rfl qx2
  · refine sm_rd (x_gR_9_1 H) ?_
    refine sm_rd (x_gR_9_1 H) ?_
    refine sm_wt (x_cp H (x_row_9_1 H) (x_row_9_1 H) l3_1 l3_0 l3_19 (by decide) (by decide) (by decide) (nr_9_1)) fun h8 Hh8 => ?_
    refine sm_rd (x_gR_9_2 Hh8) ?_
    refine sm_rd (x_gR_9_2 Hh8) ?_
    refine sm_wt (x_cp Hh8 (x_row_9_2 Hh8) (x_row_9_2 Hh8) l3_1 l3_0 l3_19 (by decide) (by decide) (by decide) (nr_9_2)) fun h14 Hh14 => ?_
    refine sm_wt (x_pI_9_0 Hh14 l3_19 lr3_19) fun h16 Hh16 => ?_
    exact S9_add_45 Hh16 rfl qx1 rfl qx2
theorem S9_add {h : PH} (H : OKX h) {x1i : Int32} {x1 : Int} (ex1 : x1i = Z3 x1) (qx1 : r3 x1) {x2i : Int32} {x2 : Int} (ex2 : x2i = Z3 x2) (qx2 : r3 x2) : SimV OKX (F9_add h 96 x1i x2i) (G9_add (rd h) x1 x2) := by
  subst ex1 ex2
  unfold F9_add G9_add
  refine sm_cd (x_ok_9 H) ?_
  exact S9_add_0 H rfl qx1 rfl qx2
theorem S10_isLargest_14 (n : Nat) : ∀ {h : PH} (H : OKX h) {a0 : Nat} (ha0 : A10 a0) {x1i : Int32} {x1 : Int} (ex1 : x1i = Z3 x1) (qx1 : r3 x1) {x3i : Int32} {x3 : Int} (ex3 : x3i = Z3 x3) (qx3 : r3 x3) {x4i : Int32} {x4 : Int} (ex4 : x4i = Z3 x4) (qx4 : r3 x4), SimI OKX (F10_isLargest_14 n h a0 x1i x3i x4i) (G10_isLargest_14 n (rd h) a0 x1 x3 x4) := by
  induction n with
  | zero => intros; exact smI_none _
  | succ n ih =>
    intro h H a0 ha0 x1i x1 ex1 qx1 x3i x3 ex3 qx3 x4i x4 ex4 qx4
    subst ex1 ex3 ex4
    rw [F10_isLargest_14, G10_isLargest_14]
    refine sm_rd (x_gR_10_3 H ha0) ?_
    refine sgxI fun c1 => ?_
    refine sm_rd (x_aI_10_3 H (ao_10_3 ha0) rfl c1).1 ?_
    refine sm_if (z3_le rfl rfl (x_aI_10_3 H (ao_10_3 ha0) rfl c1).2 qx4) ?_ ?_
    · exact sm_rz H l3_1 (by decide)
    · refine sm_rd (x_gR_10_5 H ha0) ?_
      refine sm_rd (x_gR_10_2 H ha0) ?_
      refine sgxI fun c2 => ?_
      refine sm_rd (x_aI_10_2 H (ao_10_2 ha0) rfl c2).1 ?_
      refine sgxI fun c3 => ?_
      refine sm_rd (x_aI_10_5 H (ao_10_5 ha0) (z3_add rfl rfl) c3).1 ?_
      refine sm_rd (x_gR_10_5 H ha0) ?_
      refine sgxI fun c4 => ?_
      refine sm_rd (x_aI_10_5 H (ao_10_5 ha0) rfl c4).1 ?_
      refine sm_if (z3_le rfl rfl (x_aI_10_5 H (ao_10_5 ha0) (z3_add rfl rfl) c3).2 (x_aI_10_5 H (ao_10_5 ha0) rfl c4).2) ?_ ?_
      · refine sg3I fun c5 => ?_
        exact ih H ha0 rfl qx1 rfl qx3 (z3_add rfl l3_1) c5
      · exact sm_rz H l3_0 (by decide)
theorem S10_isLargest_0 {h : PH} (H : OKX h) {a0 : Nat} (ha0 : A10 a0) {x1i : Int32} {x1 : Int} (ex1 : x1i = Z3 x1) (qx1 : r3 x1) {x2i : Int32} {x2 : Int} (ex2 : x2i = Z3 x2) (qx2 : r3 x2) : SimI OKX (F10_isLargest_0 h a0 x1i x2i) (G10_isLargest_0 (rd h) a0 x1 x2) := by
  subst ex1 ex2
  unfold F10_isLargest_0 G10_isLargest_0
  refine sm_rd (x_gR_10_2 H ha0) ?_
  refine sgxI fun c1 => ?_
  refine sm_rd (x_aI_10_2 H (ao_10_2 ha0) rfl c1).1 ?_
  refine sg3I fun c2 => ?_
  exact S10_isLargest_14 1024 H ha0 rfl qx1 (z3_sub (z3_add rfl rfl) l3_1) c2 l3_0 lr3_0
theorem S10_isLargest {h : PH} (H : OKX h) {a0 : Nat} (ha0 : A10 a0) {x1i : Int32} {x1 : Int} (ex1 : x1i = Z3 x1) (qx1 : r3 x1) {x2i : Int32} {x2 : Int} (ex2 : x2i = Z3 x2) (qx2 : r3 x2) : SimI OKX (F10_isLargest h a0 x1i x2i) (G10_isLargest (rd h) a0 x1 x2) := by
  subst ex1 ex2
  unfold F10_isLargest G10_isLargest
  refine sm_cd (x_ok_10 H ha0) ?_
  exact S10_isLargest_0 H ha0 rfl qx1 rfl qx2
theorem S10_lengthOf_0 {h : PH} (H : OKX h) {a0 : Nat} (ha0 : A10 a0) {x1i : Int32} {x1 : Int} (ex1 : x1i = Z3 x1) (qx1 : r3 x1) : SimI OKX (F10_lengthOf_0 h a0 x1i) (G10_lengthOf_0 (rd h) a0 x1) := by
  subst ex1
  unfold F10_lengthOf_0 G10_lengthOf_0
  refine sm_rd (x_gR_10_3 H ha0) ?_
  refine sgxI fun c1 => ?_
  refine sm_rd (x_aI_10_3 H (ao_10_3 ha0) rfl c1).1 ?_
  exact sm_retI H rfl (x_aI_10_3 H (ao_10_3 ha0) rfl c1).2
theorem S10_lengthOf {h : PH} (H : OKX h) {a0 : Nat} (ha0 : A10 a0) {x1i : Int32} {x1 : Int} (ex1 : x1i = Z3 x1) (qx1 : r3 x1) : SimI OKX (F10_lengthOf h a0 x1i) (G10_lengthOf (rd h) a0 x1) := by
  subst ex1
  unfold F10_lengthOf G10_lengthOf
  refine sm_cd (x_ok_10 H ha0) ?_
  exact S10_lengthOf_0 H ha0 rfl qx1
theorem S10_setFrom_2 (n : Nat) : ∀ {h : PH} (H : OKX h) {a0 : Nat} (ha0 : A10 a0) {x1i : Int32} {x1 : Int} (ex1 : x1i = Z3 x1) (qx1 : r3 x1) {x2i : Int32} {x2 : Int} (ex2 : x2i = Z3 x2) (qx2 : r3 x2), SimI OKX (F10_setFrom_2 n h a0 x1i x2i) (G10_setFrom_2 n (rd h) a0 x1 x2) := by
  induction n with
  | zero => intros; exact smI_none _
  | succ n ih =>
    intro h H a0 ha0 x1i x1 ex1 qx1 x2i x2 ex2 qx2
    subst ex1 ex2
    rw [F10_setFrom_2, G10_setFrom_2]
    refine sm_rd (x_gI_10_0 H ha0).1 ?_
    refine sm_if (z3_le rfl rfl (x_gI_10_0 H ha0).2 qx2) ?_ ?_
    · exact sm_retI H l3_m1 lr3_m1
    · refine sm_II (S10_firstMinute H ha0 rfl qx2) fun vo4 ho4 Ho4 ro4 => ?_
      refine sm_if (z3_lt rfl rfl ro4 qx1) ?_ ?_
      · refine sg3I fun c1 => ?_
        exact ih Ho4 ha0 rfl qx1 (z3_add rfl l3_1) c1
      · exact sm_retI Ho4 rfl qx2
theorem S10_setFrom_0 {h : PH} (H : OKX h) {a0 : Nat} (ha0 : A10 a0) {x1i : Int32} {x1 : Int} (ex1 : x1i = Z3 x1) (qx1 : r3 x1) : SimI OKX (F10_setFrom_0 h a0 x1i) (G10_setFrom_0 (rd h) a0 x1) := by
  subst ex1
  unfold F10_setFrom_0 G10_setFrom_0
  exact S10_setFrom_2 1024 H ha0 rfl qx1 l3_0 lr3_0
theorem S10_setFrom {h : PH} (H : OKX h) {a0 : Nat} (ha0 : A10 a0) {x1i : Int32} {x1 : Int} (ex1 : x1i = Z3 x1) (qx1 : r3 x1) : SimI OKX (F10_setFrom h a0 x1i) (G10_setFrom (rd h) a0 x1) := by
  subst ex1
  unfold F10_setFrom G10_setFrom
  refine sm_cd (x_ok_10 H ha0) ?_
  exact S10_setFrom_0 H ha0 rfl qx1
theorem S11_back_0 {h : PH} (H : OKX h) : SimI OKX (F11_back_0 h 0) (G11_back_0 (rd h)) := by
  unfold F11_back_0 G11_back_0
  refine sm_rd (x_gI_11_10 H).1 ?_
  refine sm_if (z3_eq rfl l3_0 (x_gI_11_10 H).2 lr3_0) ?_ ?_
  · exact sm_retI H l3_m1 lr3_m1
  · refine sm_rd (x_gR_11_7 H) ?_
    refine sm_rd (x_gR_11_9 H) ?_
    refine sm_VI (S4_takeAll H p4_69 p4_83) fun ho8 Ho8 => ?_
    refine sm_rd (x_gR_11_12 Ho8) ?_
    refine sm_wt (x_pI_9_0 Ho8 l3_0 lr3_0) fun h12 Hh12 => ?_
    refine sm_rd (x_gR_11_7 Hh12) ?_
    refine sm_rd (x_gI_4_0 Hh12 p4_69).1 ?_
    exact sm_retI Hh12 rfl (x_gI_4_0 Hh12 p4_69).2
theorem S11_back {h : PH} (H : OKX h) : SimI OKX (F11_back h 0) (G11_back (rd h)) := by
  unfold F11_back G11_back
  refine sm_cd (x_ok_11 H) ?_
  exact S11_back_0 H
theorem S11_beginAnew_0 {h : PH} (H : OKX h) : SimV OKX (F11_beginAnew_0 h 0) (G11_beginAnew_0 (rd h)) := by
  unfold F11_beginAnew_0 G11_beginAnew_0
  refine sm_rd (x_gR_11_5 H) ?_
  refine sm_rd (x_gR_11_3 H) ?_
  refine sm_VV (S6_takeAsTold H p6_51 (x_v_11_3 H)) fun ho5 Ho5 => ?_
  refine sm_rd (x_gR_11_7 Ho5) ?_
  refine sm_rd (x_gR_11_3 Ho5) ?_
  refine sm_VV (S4_begin Ho5 p4_69 (x_v_11_3 Ho5)) fun ho11 Ho11 => ?_
  refine sm_rd (x_gR_11_11 Ho11) ?_
  refine sm_wt (x_pI_3_0 Ho11 l3_0 lr3_0) fun h15 Hh15 => ?_
  refine sm_rd (x_gR_11_11 Hh15) ?_
  refine sm_wt (x_pI_3_1 Hh15 l3_m1 lr3_m1) fun h19 Hh19 => ?_
  refine sm_rd (x_gR_11_12 Hh19) ?_
  refine sm_wt (x_pI_9_0 Hh19 l3_0 lr3_0) fun h23 Hh23 => ?_
  refine sm_wt (x_pZ_11_10 Hh23 l3_0 (by decide)) fun h25 Hh25 => ?_
  exact sm_retV Hh25
theorem S11_beginAnew {h : PH} (H : OKX h) : SimV OKX (F11_beginAnew h 0) (G11_beginAnew (rd h)) := by
  unfold F11_beginAnew G11_beginAnew
  refine sm_cd (x_ok_11 H) ?_
  exact S11_beginAnew_0 H
theorem S11_isSurfer_0 {h : PH} (H : OKX h) {x1i : Int32} {x1 : Int} (ex1 : x1i = Z3 x1) (qx1 : r3 x1) : SimI OKX (F11_isSurfer_0 h 0 x1i) (G11_isSurfer_0 (rd h) x1) := by
  subst ex1
  unfold F11_isSurfer_0 G11_isSurfer_0
  refine sm_if (z3_lt rfl l3_0 qx1 lr3_0) ?_ ?_
  · exact sm_rz H l3_0 (by decide)
  · refine sm_rd (x_gR_11_3 H) ?_
    refine sm_rd (x_gR_8_4 H (x_v_11_3 H)) ?_
    refine sm_rd (x_gI_1_0 H (ao_8_4 (x_v_11_3 H))).1 ?_
    refine sm_if (z3_le rfl rfl (x_gI_1_0 H (ao_8_4 (x_v_11_3 H))).2 qx1) ?_ ?_
    · exact sm_rz H l3_0 (by decide)
    · exact sm_rz H l3_1 (by decide)
theorem S11_isSurfer {h : PH} (H : OKX h) {x1i : Int32} {x1 : Int} (ex1 : x1i = Z3 x1) (qx1 : r3 x1) : SimI OKX (F11_isSurfer h 0 x1i) (G11_isSurfer (rd h) x1) := by
  subst ex1
  unfold F11_isSurfer G11_isSurfer
  refine sm_cd (x_ok_11 H) ?_
  exact S11_isSurfer_0 H rfl qx1
theorem S11_firstToCome_0 {h : PH} (H : OKX h) : SimI OKX (F11_firstToCome_0 h 0) (G11_firstToCome_0 (rd h)) := by
  unfold F11_firstToCome_0 G11_firstToCome_0
  refine sm_rd (x_gR_11_3 H) ?_
  refine sm_rd (x_gR_8_5 H (x_v_11_3 H)) ?_
  refine sm_rd (x_gR_11_7 H) ?_
  refine sm_rd (x_gI_4_0 H p4_69).1 ?_
  refine sm_II (S10_firstFrom H (ao_8_5 (x_v_11_3 H)) rfl ((x_gI_4_0 H p4_69).2)) fun vo9 ho9 Ho9 ro9 => ?_
  exact sm_retI Ho9 rfl ro9
theorem S11_firstToCome {h : PH} (H : OKX h) : SimI OKX (F11_firstToCome h 0) (G11_firstToCome (rd h)) := by
  unfold F11_firstToCome G11_firstToCome
  refine sm_cd (x_ok_11 H) ?_
  exact S11_firstToCome_0 H
theorem S11_best_17 (n : Nat) : ∀ {h : PH} (H : OKX h) {x1i : Int32} {x1 : Int} (ex1 : x1i = Z3 x1) (qx1 : r3 x1) {x2i : Int32} {x2 : Int} (ex2 : x2i = Z3 x2) (qx2 : r3 x2) {x3i : Int32} {x3 : Int} (ex3 : x3i = Z3 x3) (qx3 : r3 x3) {x4i : Int32} {x4 : Int} (ex4 : x4i = Z3 x4) (qx4 : r3 x4), SimI OKX (F11_best_17 n h 0 x1i x2i x3i x4i) (G11_best_17 n (rd h) x1 x2 x3 x4) := by
  induction n with
  | zero => intros; exact smI_none _
  | succ n ih =>
    intro h H x1i x1 ex1 qx1 x2i x2 ex2 qx2 x3i x3 ex3 qx3 x4i x4 ex4 qx4
    subst ex1 ex2 ex3 ex4
    rw [F11_best_17, G11_best_17]
    refine sm_rd (x_gR_11_3 H) ?_
    refine sm_II (S8_cells H (x_v_11_3 H)) fun vo3 ho3 Ho3 ro3 => ?_
    refine sm_if (z3_le rfl rfl ro3 qx4) ?_ ?_
    · exact sm_retI Ho3 rfl qx2
    · refine sm_rd (x_gR_11_5 Ho3) ?_
      refine sm_II (S11_firstToCome Ho3) fun vo8 ho8 Ho8 ro8 => ?_
      refine sm_II (S6_seatFrom Ho8 p6_51 rfl qx1 rfl qx4 rfl ro8) fun vo10 ho10 Ho10 ro10 => ?_
      refine sm_if (z3_le rfl rfl ro10 qx3) ?_ ?_
      · refine sg3I fun c1 => ?_
        exact ih Ho10 rfl qx1 rfl qx2 rfl qx3 (z3_add rfl l3_1) c1
      · refine sg3I fun c2 => ?_
        exact ih Ho10 rfl qx1 rfl qx4 rfl ro10 (z3_add rfl l3_1) c2
theorem S11_best_0 {h : PH} (H : OKX h) {x1i : Int32} {x1 : Int} (ex1 : x1i = Z3 x1) (qx1 : r3 x1) : SimI OKX (F11_best_0 h 0 x1i) (G11_best_0 (rd h) x1) := by
  subst ex1
  unfold F11_best_0 G11_best_0
  refine sm_II (S11_isSurfer H rfl qx1) fun vo1 ho1 Ho1 ro1 => ?_
  refine sm_if (z3_eq rfl l3_0 ro1 lr3_0) ?_ ?_
  · exact sm_retI Ho1 l3_m1 lr3_m1
  · exact S11_best_17 1024 Ho1 rfl qx1 l3_0 lr3_0 l3_m1 lr3_m1 l3_0 lr3_0
theorem S11_best {h : PH} (H : OKX h) {x1i : Int32} {x1 : Int} (ex1 : x1i = Z3 x1) (qx1 : r3 x1) : SimI OKX (F11_best h 0 x1i) (G11_best (rd h) x1) := by
  subst ex1
  unfold F11_best G11_best
  refine sm_cd (x_ok_11 H) ?_
  exact S11_best_0 H rfl qx1
theorem S11_runBy_18 (n : Nat) : ∀ {h : PH} (H : OKX h) {x3i : Int32} {x3 : Int} (ex3 : x3i = Z3 x3) (qx3 : r3 x3), SimV OKX (F11_runBy_18 n h 0 x3i) (G11_runBy_18 n (rd h) x3) := by
  induction n with
  | zero => intros; exact smV_none _
  | succ n ih =>
    intro h H x3i x3 ex3 qx3
    subst ex3
    rw [F11_runBy_18, G11_runBy_18]
    refine sm_rd (x_gR_11_3 H) ?_
    refine sm_rd (x_gR_8_5 H (x_v_11_3 H)) ?_
    refine sm_rd (x_gI_10_1 H (ao_8_5 (x_v_11_3 H))).1 ?_
    refine sm_if (z3_le rfl rfl (x_gI_10_1 H (ao_8_5 (x_v_11_3 H))).2 qx3) ?_ ?_
    · exact sm_retV H
    · refine sm_rd (x_gR_11_5 H) ?_
      refine sm_rd (x_gR_11_8 H) ?_
      refine sm_VV (S6_bringWave H p6_51 p4_76 rfl qx3) fun ho12 Ho12 => ?_
      refine sg3V fun c1 => ?_
      exact ih Ho12 (z3_add rfl l3_1) c1
theorem S11_runBy_0 {h : PH} (H : OKX h) {x1i : Int32} {x1 : Int} (ex1 : x1i = Z3 x1) (qx1 : r3 x1) {x2i : Int32} {x2 : Int} (ex2 : x2i = Z3 x2) (qx2 : r3 x2) : SimV OKX (F11_runBy_0 h 0 x1i x2i) (G11_runBy_0 (rd h) x1 x2) := by
  subst ex1 ex2
  unfold F11_runBy_0 G11_runBy_0
  refine sm_rd (x_gR_11_8 H) ?_
  refine sm_rd (x_gR_11_7 H) ?_
  refine sm_VV (S4_takeForRun H p4_76 p4_69 rfl qx1 rfl qx2) fun ho5 Ho5 => ?_
  refine sm_IV (S11_firstToCome Ho5) fun vo7 ho7 Ho7 ro7 => ?_
  exact S11_runBy_18 1024 Ho7 rfl ro7
theorem S11_runBy {h : PH} (H : OKX h) {x1i : Int32} {x1 : Int} (ex1 : x1i = Z3 x1) (qx1 : r3 x1) {x2i : Int32} {x2 : Int} (ex2 : x2i = Z3 x2) (qx2 : r3 x2) : SimV OKX (F11_runBy h 0 x1i x2i) (G11_runBy (rd h) x1 x2) := by
  subst ex1 ex2
  unfold F11_runBy G11_runBy
  refine sm_cd (x_ok_11 H) ?_
  exact S11_runBy_0 H rfl qx1 rfl qx2
theorem S11_chance_33 (n : Nat) : ∀ {h : PH} (H : OKX h) {x2i : Int32} {x2 : Int} (ex2 : x2i = Z3 x2) (qx2 : r3 x2) {x3i : Int32} {x3 : Int} (ex3 : x3i = Z3 x3) (qx3 : r3 x3) {x4i : Int32} {x4 : Int} (ex4 : x4i = Z3 x4) (qx4 : r3 x4) {x5i : Int32} {x5 : Int} (ex5 : x5i = Z3 x5) (qx5 : r3 x5) {x6i : Int32} {x6 : Int} (ex6 : x6i = Z3 x6) (qx6 : r3 x6), SimI OKX (F11_chance_33 n h 0 x2i x3i x4i x5i x6i) (G11_chance_33 n (rd h) x2 x3 x4 x5 x6) := by
  induction n with
  | zero => intros; exact smI_none _
  | succ n ih =>
    intro h H x2i x2 ex2 qx2 x3i x3 ex3 qx3 x4i x4 ex4 qx4 x5i x5 ex5 qx5 x6i x6 ex6 qx6
    subst ex2 ex3 ex4 ex5 ex6
    rw [F11_chance_33, G11_chance_33]
    refine sm_if (z3_le l3_10 rfl lr3_10 qx6) ?_ ?_
    · exact sm_retI H rfl qx4
    · refine sm_rd (x_gR_11_7 H) ?_
      refine sm_rd (x_gI_4_1 H p4_69).1 ?_
      refine sm_VI (S11_runBy H rfl ((x_gI_4_1 H p4_69).2) rfl qx5) fun ho6 Ho6 => ?_
      refine sm_rd (x_gR_11_8 Ho6) ?_
      refine sm_rd (x_gI_4_2 Ho6 p4_76).1 ?_
      refine sm_rd (x_gR_11_8 Ho6) ?_
      refine sm_rd (x_gR_4_6 Ho6 p4_76) ?_
      refine sgxI fun c1 => ?_
      refine sm_rd (x_aI_4_6 Ho6 (ao_4_6 p4_76) rfl c1).1 ?_
      refine sm_if (z3_lt rfl rfl (x_aI_4_6 Ho6 (ao_4_6 p4_76) rfl c1).2 qx3) ?_ ?_
      · refine sg3I fun c2 => ?_
        exact ih Ho6 rfl qx2 rfl qx3 rfl qx4 rfl ((x_gI_4_2 Ho6 p4_76).2) (z3_add rfl l3_1) c2
      · refine sg3I fun c3 => ?_
        refine sg3I fun c4 => ?_
        exact ih Ho6 rfl qx2 rfl qx3 (z3_add rfl l3_1) c3 rfl ((x_gI_4_2 Ho6 p4_76).2) (z3_add rfl l3_1) c4
theorem S11_chance_0 {h : PH} (H : OKX h) {x1i : Int32} {x1 : Int} (ex1 : x1i = Z3 x1) (qx1 : r3 x1) {x2i : Int32} {x2 : Int} (ex2 : x2i = Z3 x2) (qx2 : r3 x2) {x3i : Int32} {x3 : Int} (ex3 : x3i = Z3 x3) (qx3 : r3 x3) : SimI OKX (F11_chance_0 h 0 x1i x2i x3i) (G11_chance_0 (rd h) x1 x2 x3) := by
  subst ex1 ex2 ex3
  unfold F11_chance_0 G11_chance_0
  refine sm_if (z3_lt rfl l3_0 qx1 lr3_0) ?_ ?_
  · exact sm_retI H l3_m1 lr3_m1
  · refine sm_II (S11_isSurfer H rfl qx2) fun vo2 ho2 Ho2 ro2 => ?_
    refine sm_if (z3_eq rfl l3_0 ro2 lr3_0) ?_ ?_
    · exact sm_retI Ho2 l3_m1 lr3_m1
    · refine sm_if (z3_lt rfl l3_0 qx3 lr3_0) ?_ ?_
      · exact sm_retI Ho2 l3_m1 lr3_m1
      · refine sm_if (z3_le rfl l3_28 qx3 lr3_28) ?_ ?_
        · exact S11_chance_33 1024 Ho2 rfl qx2 rfl qx3 l3_0 lr3_0 rfl qx1 l3_0 lr3_0
        · exact sm_retI Ho2 l3_m1 lr3_m1
theorem S11_chance {h : PH} (H : OKX h) {x1i : Int32} {x1 : Int} (ex1 : x1i = Z3 x1) (qx1 : r3 x1) {x2i : Int32} {x2 : Int} (ex2 : x2i = Z3 x2) (qx2 : r3 x2) {x3i : Int32} {x3 : Int} (ex3 : x3i = Z3 x3) (qx3 : r3 x3) : SimI OKX (F11_chance h 0 x1i x2i x3i) (G11_chance (rd h) x1 x2 x3) := by
  subst ex1 ex2 ex3
  unfold F11_chance G11_chance
  refine sm_cd (x_ok_11 H) ?_
  exact S11_chance_0 H rfl qx1 rfl qx2 rfl qx3
theorem S11_changeTrial_0 {h : PH} (H : OKX h) {x1i : Int32} {x1 : Int} (ex1 : x1i = Z3 x1) (qx1 : r3 x1) {x2i : Int32} {x2 : Int} (ex2 : x2i = Z3 x2) (qx2 : r3 x2) : SimV OKX (F11_changeTrial_0 h 0 x1i x2i) (G11_changeTrial_0 (rd h) x1 x2) := by
  subst ex1 ex2
  unfold F11_changeTrial_0 G11_changeTrial_0
  refine sm_if (z3_eq rfl l3_0 qx1 lr3_0) ?_ ?_
  · refine sm_rd (x_gR_11_6 H) ?_
    refine sm_VV (S6_makeNobodyBold H p6_60) fun ho4 Ho4 => ?_
    exact sm_retV Ho4
  · refine sm_if (z3_eq rfl l3_1 qx1 lr3_1) ?_ ?_
    · refine sm_rd (x_gR_11_8 H) ?_
      refine sm_VV (S4_leaveOut H p4_76 rfl qx2) fun ho9 Ho9 => ?_
      exact sm_retV Ho9
    · refine sm_if (z3_eq rfl l3_2 qx1 lr3_2) ?_ ?_
      · refine sm_rd (x_gR_11_6 H) ?_
        refine sm_VV (S6_holdPeak H p6_60) fun ho14 Ho14 => ?_
        exact sm_retV Ho14
      · refine sm_if (z3_eq rfl l3_3 qx1 lr3_3) ?_ ?_
        · refine sm_rd (x_gR_11_6 H) ?_
          refine sm_VV (S6_giveBoards H p6_60 l3_9 lr3_9) fun ho19 Ho19 => ?_
          exact sm_retV Ho19
        · refine sm_rd (x_gR_11_8 H) ?_
          refine sm_rd (x_gR_11_8 H) ?_
          refine sm_rd (x_gR_4_5 H p4_76) ?_
          refine sgxV fun c1 => ?_
          refine sm_rd (x_aI_4_5 H (ao_4_5 p4_76) rfl c1).1 ?_
          refine sm_VV (S4_seatAll H p4_76 rfl ((x_aI_4_5 H (ao_4_5 p4_76) rfl c1).2)) fun ho29 Ho29 => ?_
          exact sm_retV Ho29
theorem S11_changeTrial {h : PH} (H : OKX h) {x1i : Int32} {x1 : Int} (ex1 : x1i = Z3 x1) (qx1 : r3 x1) {x2i : Int32} {x2 : Int} (ex2 : x2i = Z3 x2) (qx2 : r3 x2) : SimV OKX (F11_changeTrial h 0 x1i x2i) (G11_changeTrial (rd h) x1 x2) := by
  subst ex1 ex2
  unfold F11_changeTrial G11_changeTrial
  refine sm_cd (x_ok_11 H) ?_
  exact S11_changeTrial_0 H rfl qx1 rfl qx2
theorem S11_count_0 {h : PH} (H : OKX h) {x1i : Int32} {x1 : Int} (ex1 : x1i = Z3 x1) (qx1 : r3 x1) : SimI OKX (F11_count_0 h 0 x1i) (G11_count_0 (rd h) x1) := by
  subst ex1
  unfold F11_count_0 G11_count_0
  refine sm_if (z3_eq rfl l3_0 qx1 lr3_0) ?_ ?_
  · refine sm_rd (x_gR_11_3 H) ?_
    refine sm_rd (x_gI_8_0 H (x_v_11_3 H)).1 ?_
    exact sm_retI H rfl (x_gI_8_0 H (x_v_11_3 H)).2
  · refine sm_if (z3_eq rfl l3_1 qx1 lr3_1) ?_ ?_
    · refine sm_rd (x_gR_11_3 H) ?_
      refine sm_rd (x_gI_8_1 H (x_v_11_3 H)).1 ?_
      exact sm_retI H rfl (x_gI_8_1 H (x_v_11_3 H)).2
    · refine sm_if (z3_eq rfl l3_2 qx1 lr3_2) ?_ ?_
      · refine sm_rd (x_gR_11_3 H) ?_
        refine sm_rd (x_gR_8_4 H (x_v_11_3 H)) ?_
        refine sm_rd (x_gI_1_0 H (ao_8_4 (x_v_11_3 H))).1 ?_
        exact sm_retI H rfl (x_gI_1_0 H (ao_8_4 (x_v_11_3 H))).2
      · refine sm_if (z3_eq rfl l3_3 qx1 lr3_3) ?_ ?_
        · refine sm_rd (x_gR_11_3 H) ?_
          refine sm_rd (x_gR_8_5 H (x_v_11_3 H)) ?_
          refine sm_rd (x_gI_10_0 H (ao_8_5 (x_v_11_3 H))).1 ?_
          exact sm_retI H rfl (x_gI_10_0 H (ao_8_5 (x_v_11_3 H))).2
        · refine sm_if (z3_eq rfl l3_4 qx1 lr3_4) ?_ ?_
          · refine sm_rd (x_gR_11_3 H) ?_
            refine sm_rd (x_gR_8_5 H (x_v_11_3 H)) ?_
            refine sm_rd (x_gI_10_1 H (ao_8_5 (x_v_11_3 H))).1 ?_
            exact sm_retI H rfl (x_gI_10_1 H (ao_8_5 (x_v_11_3 H))).2
          · refine sm_if (z3_eq rfl l3_5 qx1 lr3_5) ?_ ?_
            · refine sm_rd (x_gR_11_3 H) ?_
              refine sm_rd (x_gI_8_13 H (x_v_11_3 H)).1 ?_
              exact sm_retI H rfl (x_gI_8_13 H (x_v_11_3 H)).2
            · refine sm_if (z3_eq rfl l3_6 qx1 lr3_6) ?_ ?_
              · refine sm_rd (x_gR_11_7 H) ?_
                refine sm_rd (x_gI_4_0 H p4_69).1 ?_
                exact sm_retI H rfl (x_gI_4_0 H p4_69).2
              · refine sm_if (z3_eq rfl l3_7 qx1 lr3_7) ?_ ?_
                · refine sm_rd (x_gR_11_7 H) ?_
                  refine sm_rd (x_gI_4_1 H p4_69).1 ?_
                  exact sm_retI H rfl (x_gI_4_1 H p4_69).2
                · refine sm_if (z3_eq rfl l3_8 qx1 lr3_8) ?_ ?_
                  · refine sm_rd (x_gR_11_7 H) ?_
                    refine sm_rd (x_gI_4_3 H p4_69).1 ?_
                    exact sm_retI H rfl (x_gI_4_3 H p4_69).2
                  · refine sm_if (z3_eq rfl l3_9 qx1 lr3_9) ?_ ?_
                    · refine sm_rd (x_gR_11_7 H) ?_
                      refine sm_rd (x_gI_4_4 H p4_69).1 ?_
                      exact sm_retI H rfl (x_gI_4_4 H p4_69).2
                    · refine sm_if (z3_eq rfl l3_10 qx1 lr3_10) ?_ ?_
                      · refine sm_rd (x_gR_11_3 H) ?_
                        refine sm_rd (x_gR_8_5 H (x_v_11_3 H)) ?_
                        refine sm_rd (x_gI_10_1 H (ao_8_5 (x_v_11_3 H))).1 ?_
                        refine sm_II (S11_firstToCome H) fun vo64 ho64 Ho64 ro64 => ?_
                        refine sg3I fun c1 => ?_
                        exact sm_retI Ho64 (z3_sub rfl rfl) c1
                      · refine sm_if (z3_eq rfl l3_11 qx1 lr3_11) ?_ ?_
                        · refine sm_rd (x_gR_11_11 H) ?_
                          refine sm_rd (x_gI_3_0 H).1 ?_
                          exact sm_retI H rfl (x_gI_3_0 H).2
                        · refine sm_if (z3_eq rfl l3_12 qx1 lr3_12) ?_ ?_
                          · refine sm_rd (x_gR_11_11 H) ?_
                            refine sm_II (S3_howManyKnown H) fun vo74 ho74 Ho74 ro74 => ?_
                            exact sm_retI Ho74 rfl ro74
                          · refine sm_if (z3_eq rfl l3_13 qx1 lr3_13) ?_ ?_
                            · refine sm_rd (x_gR_11_12 H) ?_
                              refine sm_rd (x_gI_9_0 H).1 ?_
                              exact sm_retI H rfl (x_gI_9_0 H).2
                            · exact sm_retI H l3_m1 lr3_m1
theorem S11_count {h : PH} (H : OKX h) {x1i : Int32} {x1 : Int} (ex1 : x1i = Z3 x1) (qx1 : r3 x1) : SimI OKX (F11_count h 0 x1i) (G11_count (rd h) x1) := by
  subst ex1
  unfold F11_count G11_count
  refine sm_cd (x_ok_11 H) ?_
  exact S11_count_0 H rfl qx1
theorem S11_farNow_0 {h : PH} (H : OKX h) {x1i : Int32} {x1 : Int} (ex1 : x1i = Z3 x1) (qx1 : r3 x1) : SimI OKX (F11_farNow_0 h 0 x1i) (G11_farNow_0 (rd h) x1) := by
  subst ex1
  unfold F11_farNow_0 G11_farNow_0
  refine sm_rd (x_gR_11_3 H) ?_
  refine sm_rd (x_gR_11_7 H) ?_
  refine sm_rd (x_gR_4_5 H p4_69) ?_
  refine sgxI fun c1 => ?_
  refine sm_rd (x_aI_4_5 H (ao_4_5 p4_69) rfl c1).1 ?_
  refine sm_rd (x_gR_11_5 H) ?_
  refine sm_rd (x_gR_11_7 H) ?_
  refine sm_rd (x_gI_4_0 H p4_69).1 ?_
  refine sm_II (S6_peakXAt H p6_51 rfl ((x_gI_4_0 H p4_69).2)) fun vo15 ho15 Ho15 ro15 => ?_
  refine sm_II (S8_farFrom Ho15 (x_v_11_3 H) rfl ((x_aI_4_5 H (ao_4_5 p4_69) rfl c1).2) rfl ro15) fun vo17 ho17 Ho17 ro17 => ?_
  exact sm_retI Ho17 rfl ro17
