/-! The pure functions do so (written by wip/gen/gx.py). -/
theorem S11_stroke {h : PH} (H : OKX h) {x1i : Int32} {x1 : Int} (ex1 : x1i = Z3 x1) (qx1 : r3 x1) {x2i : Int32} {x2 : Int} (ex2 : x2i = Z3 x2) (qx2 : r3 x2) : SimI OKX (F11_stroke h 0 x1i x2i) (G11_stroke (rd h) x1 x2) := by
  subst ex1 ex2
  unfold F11_stroke G11_stroke
  refine sm_cd (x_ok_11 H) ?_
  exact S11_stroke_0 H rfl qx1 rfl qx2
theorem S11_table_39 {h : PH} (H : OKX h) {x1i : Int32} {x1 : Int} (ex1 : x1i = Z3 x1) (qx1 : r3 x1) {x2i : Int32} {x2 : Int} (ex2 : x2i = Z3 x2) (qx2 : r3 x2) {x3i : Int32} {x3 : Int} (ex3 : x3i = Z3 x3) (qx3 : r3 x3) : SimI OKX (F11_table_39 h 0 x1i x2i x3i) (G11_table_39 (rd h) x1 x2 x3) := by
  subst ex1 ex2 ex3
  unfold F11_table_39 G11_table_39
  refine sm_VI (S11_runBy H rfl qx1 rfl qx2) fun ho1 Ho1 => ?_
  refine sm_if (z3_eq rfl l3_5 qx3 lr3_5) ?_ ?_
  · refine sm_rd (x_gR_11_8 Ho1) ?_
    refine sm_rd (x_gI_4_3 Ho1 p4_76).1 ?_
    exact sm_retI Ho1 rfl (x_gI_4_3 Ho1 p4_76).2
  · refine sm_if (z3_eq rfl l3_6 qx3 lr3_6) ?_ ?_
    · refine sm_rd (x_gR_11_8 Ho1) ?_
      refine sm_rd (x_gI_4_4 Ho1 p4_76).1 ?_
      exact sm_retI Ho1 rfl (x_gI_4_4 Ho1 p4_76).2
    · refine sm_if (z3_eq rfl l3_7 qx3 lr3_7) ?_ ?_
      · refine sm_rd (x_gR_11_8 Ho1) ?_
        refine sm_rd (x_gR_11_3 Ho1) ?_
        refine sm_rd (x_gR_8_4 Ho1 (x_v_11_3 Ho1)) ?_
        refine sm_rd (x_gI_1_0 Ho1 (ao_8_4 (x_v_11_3 Ho1))).1 ?_
        refine sm_II (S4_unlike Ho1 p4_76 rfl ((x_gI_1_0 Ho1 (ao_8_4 (x_v_11_3 Ho1))).2)) fun vo22 ho22 Ho22 ro22 => ?_
        exact sm_retI Ho22 rfl ro22
      · refine sm_rd (x_gR_11_8 Ho1) ?_
        refine sm_rd (x_gR_4_6 Ho1 p4_76) ?_
        refine sgxI fun c1 => ?_
        refine sm_rd (x_aI_4_6 Ho1 (ao_4_6 p4_76) rfl c1).1 ?_
        exact sm_retI Ho1 rfl (x_aI_4_6 Ho1 (ao_4_6 p4_76) rfl c1).2
theorem S11_table_0 {h : PH} (H : OKX h) {x1i : Int32} {x1 : Int} (ex1 : x1i = Z3 x1) (qx1 : r3 x1) {x2i : Int32} {x2 : Int} (ex2 : x2i = Z3 x2) (qx2 : r3 x2) {x3i : Int32} {x3 : Int} (ex3 : x3i = Z3 x3) (qx3 : r3 x3) : SimI OKX (F11_table_0 h 0 x1i x2i x3i) (G11_table_0 (rd h) x1 x2 x3) := by
  subst ex1 ex2 ex3
  unfold F11_table_0 G11_table_0
  refine sm_II (S11_isRule H rfl qx1) fun vo1 ho1 Ho1 ro1 => ?_
  refine sm_if (z3_eq rfl l3_0 ro1 lr3_0) ?_ ?_
  · exact sm_retI Ho1 l3_m1 lr3_m1
  · refine sm_if (z3_lt rfl l3_0 qx2 lr3_0) ?_ ?_
    · exact sm_retI Ho1 l3_m1 lr3_m1
    · refine sm_if (z3_lt rfl l3_0 qx3 lr3_0) ?_ ?_
      · exact sm_retI Ho1 l3_m1 lr3_m1
      · refine sm_if (z3_le rfl l3_7 qx3 lr3_7) ?_ ?_
        · refine sm_if (z3_le l3_5 rfl lr3_5 qx3) ?_ ?_
          · exact S11_table_39 Ho1 rfl qx1 rfl qx2 rfl qx3
          · refine sm_II (S11_isSurfer Ho1 rfl qx3) fun vo8 ho8 Ho8 ro8 => ?_
            refine sm_if (z3_eq rfl l3_0 ro8 lr3_0) ?_ ?_
            · exact sm_retI Ho8 l3_m1 lr3_m1
            · exact S11_table_39 Ho8 rfl qx1 rfl qx2 rfl qx3
        · exact sm_retI Ho1 l3_m1 lr3_m1
theorem S11_table {h : PH} (H : OKX h) {x1i : Int32} {x1 : Int} (ex1 : x1i = Z3 x1) (qx1 : r3 x1) {x2i : Int32} {x2 : Int} (ex2 : x2i = Z3 x2) (qx2 : r3 x2) {x3i : Int32} {x3 : Int} (ex3 : x3i = Z3 x3) (qx3 : r3 x3) : SimI OKX (F11_table h 0 x1i x2i x3i) (G11_table (rd h) x1 x2 x3) := by
  subst ex1 ex2 ex3
  unfold F11_table G11_table
  refine sm_cd (x_ok_11 H) ?_
  exact S11_table_0 H rfl qx1 rfl qx2 rfl qx3
theorem S11_text_0 {h : PH} (H : OKX h) {x1i : Int32} {x1 : Int} (ex1 : x1i = Z3 x1) (qx1 : r3 x1) : SimI OKX (F11_text_0 h 0 x1i) (G11_text_0 (rd h) x1) := by
  subst ex1
  unfold F11_text_0 G11_text_0
  refine sm_if (z3_lt rfl l3_0 qx1 lr3_0) ?_ ?_
  · exact sm_retI H l3_m2 lr3_m2
  · refine sm_rd (x_gI_11_1 H).1 ?_
    refine sm_if (z3_le rfl rfl qx1 (x_gI_11_1 H).2) ?_ ?_
    · refine sm_wt (x_pI_11_1 H l3_0 lr3_0) fun h5 Hh5 => ?_
      refine sm_rd (x_gR_11_2 Hh5) ?_
      refine sm_rd (x_gR_11_0 Hh5) ?_
      refine sm_rd (x_gR_11_4 Hh5) ?_
      refine sm_II (S5_readAll Hh5 rfl qx1 (x_v_11_4 Hh5)) fun vo13 ho13 Ho13 ro13 => ?_
      refine sm_if (z3_eq rfl l3_0 ro13 lr3_0) ?_ ?_
      · exact sm_retI Ho13 l3_m1 lr3_m1
      · refine sm_rd (x_gR_11_3 Ho13) ?_
        refine sm_rd (x_gR_11_4 Ho13) ?_
        refine sm_wt (x_pR_11_3 Ho13 (x_v_11_4 Ho13)) fun h20 Hh20 => ?_
        refine sm_wt (x_pR_11_4 Hh20 (x_v_11_3 Ho13)) fun h22 Hh22 => ?_
        refine sm_VI (S11_beginAnew Hh22) fun ho24 Ho24 => ?_
        refine sm_rd (x_gR_11_3 Ho24) ?_
        refine sm_rd (x_gI_8_12 Ho24 (x_v_11_3 Ho24)).1 ?_
        exact sm_retI Ho24 rfl (x_gI_8_12 Ho24 (x_v_11_3 Ho24)).2
    · exact sm_retI H l3_m2 lr3_m2
theorem S11_text {h : PH} (H : OKX h) {x1i : Int32} {x1 : Int} (ex1 : x1i = Z3 x1) (qx1 : r3 x1) : SimI OKX (F11_text h 0 x1i) (G11_text (rd h) x1) := by
  subst ex1
  unfold F11_text G11_text
  refine sm_cd (x_ok_11 H) ?_
  exact S11_text_0 H rfl qx1
theorem S11_tried_96 (n : Nat) : ∀ {h : PH} (H : OKX h) {x5i : Int32} {x5 : Int} (ex5 : x5i = Z3 x5) (qx5 : r3 x5), SimI OKX (F11_tried_96 n h 0 x5i) (G11_tried_96 n (rd h) x5) := by
  induction n with
  | zero => intros; exact smI_none _
  | succ n ih =>
    intro h H x5i x5 ex5 qx5
    subst ex5
    rw [F11_tried_96, G11_tried_96]
    refine sm_rd (x_gR_11_3 H) ?_
    refine sm_rd (x_gR_8_5 H (x_v_11_3 H)) ?_
    refine sm_rd (x_gI_10_1 H (ao_8_5 (x_v_11_3 H))).1 ?_
    refine sm_if (z3_le rfl rfl (x_gI_10_1 H (ao_8_5 (x_v_11_3 H))).2 qx5) ?_ ?_
    · refine sm_rd (x_gR_11_8 H) ?_
      refine sm_rd (x_gR_11_3 H) ?_
      refine sm_rd (x_gR_8_4 H (x_v_11_3 H)) ?_
      refine sm_rd (x_gI_1_0 H (ao_8_4 (x_v_11_3 H))).1 ?_
      refine sm_II (S4_hadInSum H p4_76 rfl ((x_gI_1_0 H (ao_8_4 (x_v_11_3 H))).2)) fun vo16 ho16 Ho16 ro16 => ?_
      exact sm_retI Ho16 rfl ro16
    · refine sm_rd (x_gR_11_6 H) ?_
      refine sm_rd (x_gR_11_8 H) ?_
      refine sm_VI (S6_bringWave H p6_60 p4_76 rfl qx5) fun ho22 Ho22 => ?_
      refine sg3I fun c1 => ?_
      exact ih Ho22 (z3_add rfl l3_1) c1
theorem S11_tried_54 {h : PH} (H : OKX h) {x1i : Int32} {x1 : Int} (ex1 : x1i = Z3 x1) (qx1 : r3 x1) {x2i : Int32} {x2 : Int} (ex2 : x2i = Z3 x2) (qx2 : r3 x2) {x3i : Int32} {x3 : Int} (ex3 : x3i = Z3 x3) (qx3 : r3 x3) : SimI OKX (F11_tried_54 h 0 x1i x2i x3i) (G11_tried_54 (rd h) x1 x2 x3) := by
  subst ex1 ex2 ex3
  unfold F11_tried_54 G11_tried_54
  refine sm_rd (x_gR_11_8 H) ?_
  refine sm_rd (x_gR_11_7 H) ?_
  refine sm_rd (x_gR_11_7 H) ?_
  refine sm_rd (x_gI_4_1 H p4_69).1 ?_
  refine sm_VI (S4_takeForRun H p4_76 p4_69 rfl ((x_gI_4_1 H p4_69).2) rfl qx3) fun ho9 Ho9 => ?_
  refine sm_rd (x_gR_11_6 Ho9) ?_
  refine sm_rd (x_gR_11_5 Ho9) ?_
  refine sm_VI (S6_takeOver Ho9 p6_60 p6_51) fun ho15 Ho15 => ?_
  refine sm_VI (S11_changeTrial Ho15 rfl qx1 rfl qx2) fun ho17 Ho17 => ?_
  refine sm_II (S11_firstToCome Ho17) fun vo19 ho19 Ho19 ro19 => ?_
  exact S11_tried_96 1024 Ho19 rfl ro19
theorem S11_tried_30 {h : PH} (H : OKX h) {x1i : Int32} {x1 : Int} (ex1 : x1i = Z3 x1) (qx1 : r3 x1) {x2i : Int32} {x2 : Int} (ex2 : x2i = Z3 x2) (qx2 : r3 x2) {x3i : Int32} {x3 : Int} (ex3 : x3i = Z3 x3) (qx3 : r3 x3) {s0i : Int32} {s0 : Int} (es0 : s0i = Z3 s0) (qs0 : r3 s0) : SimI OKX (F11_tried_30 h 0 x1i x2i x3i s0i) (G11_tried_30 (rd h) x1 x2 x3 s0) := by
  subst ex1 ex2 ex3 es0
  unfold F11_tried_30 G11_tried_30
  refine sm_if (z3_eq rfl l3_0 qs0 lr3_0) ?_ ?_
  · refine sm_if (z3_eq rfl l3_0 qx2 lr3_0) ?_ ?_
    · exact S11_tried_54 H rfl qx1 rfl qx2 rfl qx3
    · exact sm_retI H l3_m1 lr3_m1
  · refine sm_II (S11_isSurfer H rfl qx2) fun vo3 ho3 Ho3 ro3 => ?_
    refine sm_if (z3_eq rfl l3_0 ro3 lr3_0) ?_ ?_
    · exact sm_retI Ho3 l3_m1 lr3_m1
    · exact S11_tried_54 Ho3 rfl qx1 rfl qx2 rfl qx3
theorem S11_tried_25 {h : PH} (H : OKX h) {x1i : Int32} {x1 : Int} (ex1 : x1i = Z3 x1) (qx1 : r3 x1) {x2i : Int32} {x2 : Int} (ex2 : x2i = Z3 x2) (qx2 : r3 x2) {x3i : Int32} {x3 : Int} (ex3 : x3i = Z3 x3) (qx3 : r3 x3) : SimI OKX (F11_tried_25 h 0 x1i x2i x3i) (G11_tried_25 (rd h) x1 x2 x3) := by
  subst ex1 ex2 ex3
  unfold F11_tried_25 G11_tried_25
  exact S11_tried_30 H rfl qx1 rfl qx2 rfl qx3 l3_1 lr3_1
theorem S11_tried_0 {h : PH} (H : OKX h) {x1i : Int32} {x1 : Int} (ex1 : x1i = Z3 x1) (qx1 : r3 x1) {x2i : Int32} {x2 : Int} (ex2 : x2i = Z3 x2) (qx2 : r3 x2) {x3i : Int32} {x3 : Int} (ex3 : x3i = Z3 x3) (qx3 : r3 x3) : SimI OKX (F11_tried_0 h 0 x1i x2i x3i) (G11_tried_0 (rd h) x1 x2 x3) := by
  subst ex1 ex2 ex3
  unfold F11_tried_0 G11_tried_0
  refine sm_if (z3_lt rfl l3_0 qx1 lr3_0) ?_ ?_
  · exact sm_retI H l3_m1 lr3_m1
  · refine sm_if (z3_lt l3_4 rfl lr3_4 qx1) ?_ ?_
    · exact sm_retI H l3_m1 lr3_m1
    · refine sm_if (z3_le l3_0 rfl lr3_0 qx3) ?_ ?_
      · refine sm_if (z3_eq rfl l3_1 qx1 lr3_1) ?_ ?_
        · exact S11_tried_25 H rfl qx1 rfl qx2 rfl qx3
        · refine sm_if (z3_eq rfl l3_4 qx1 lr3_4) ?_ ?_
          · exact S11_tried_25 H rfl qx1 rfl qx2 rfl qx3
          · exact S11_tried_30 H rfl qx1 rfl qx2 rfl qx3 l3_0 lr3_0
      · exact sm_retI H l3_m1 lr3_m1
theorem S11_tried {h : PH} (H : OKX h) {x1i : Int32} {x1 : Int} (ex1 : x1i = Z3 x1) (qx1 : r3 x1) {x2i : Int32} {x2 : Int} (ex2 : x2i = Z3 x2) (qx2 : r3 x2) {x3i : Int32} {x3 : Int} (ex3 : x3i = Z3 x3) (qx3 : r3 x3) : SimI OKX (F11_tried h 0 x1i x2i x3i) (G11_tried (rd h) x1 x2 x3) := by
  subst ex1 ex2 ex3
  unfold F11_tried G11_tried
  refine sm_cd (x_ok_11 H) ?_
  exact S11_tried_0 H rfl qx1 rfl qx2 rfl qx3
theorem S11_undo_97 {h : PH} (H : OKX h) : SimI OKX (F11_undo_97 h 0) (G11_undo_97 (rd h)) := by
  unfold F11_undo_97 G11_undo_97
  refine sm_rd (x_gR_11_12 H) ?_
  refine sm_rd (x_gI_9_0 H).1 ?_
  exact sm_retI H rfl (x_gI_9_0 H).2
theorem S11_undo_0 {h : PH} (H : OKX h) : SimI OKX (F11_undo_0 h 0) (G11_undo_0 (rd h)) := by
  unfold F11_undo_0 G11_undo_0
  refine sm_rd (x_gR_11_12 H) ?_
  refine sm_rd (x_gI_9_0 H).1 ?_
  refine sm_if (z3_le l3_1 rfl lr3_1 (x_gI_9_0 H).2) ?_ ?_
  · refine sm_rd (x_gR_11_12 H) ?_
    refine sm_rd (x_gI_9_0 H).1 ?_
    refine sg3I fun c1 => ?_
    refine sm_wt (x_pI_9_0 H (z3_sub rfl l3_1) c1) fun h10 Hh10 => ?_
    refine sm_rd (x_gR_11_12 Hh10) ?_
    refine sm_rd (x_gR_9_1 Hh10) ?_
    refine sm_rd (x_gR_11_12 Hh10) ?_
    refine sm_rd (x_gI_9_0 Hh10).1 ?_
    refine sgxI fun c2 => ?_
    refine sm_rd (x_aI_9_1 Hh10 rfl c2).1 ?_
    refine sm_rd (x_gR_11_12 Hh10) ?_
    refine sm_rd (x_gR_9_2 Hh10) ?_
    refine sm_rd (x_gR_11_12 Hh10) ?_
    refine sm_rd (x_gI_9_0 Hh10).1 ?_
    refine sgxI fun c3 => ?_
    refine sm_rd (x_aI_9_2 Hh10 rfl c3).1 ?_
    refine sm_if (z3_eq rfl l3_m1 (x_aI_9_1 Hh10 rfl c2).2 lr3_m1) ?_ ?_
    · refine sm_rd (x_gR_11_7 Hh10) ?_
      refine sm_wt (x_pI_4_1 Hh10 p4_69 rfl (x_aI_9_2 Hh10 rfl c3).2) fun h49 Hh49 => ?_
      exact S11_undo_97 Hh49
    · refine sm_rd (x_gR_11_7 Hh10) ?_
      refine sm_rd (x_gR_4_5 Hh10 p4_69) ?_
      refine sgxI fun c4 => ?_
      refine sm_wt (x_sI_4_5 Hh10 (ao_4_5 p4_69) rfl c4 rfl (x_aI_9_2 Hh10 rfl c3).2) fun h38 Hh38 => ?_
      refine sm_rd (x_gR_11_7 Hh38) ?_
      refine sm_rd (x_gR_4_9 Hh38 p4_69) ?_
      refine sgxI fun c5 => ?_
      refine sm_rd (x_aI_4_9 Hh38 (ao_4_9 p4_69) rfl c5).1 ?_
      refine sgxI fun c6 => ?_
      refine sg3I fun c7 => ?_
      refine sm_wt (x_sI_4_9 Hh38 (ao_4_9 p4_69) rfl c6 (z3_sub rfl l3_1) c7) fun h46 Hh46 => ?_
      exact S11_undo_97 Hh46
  · exact sm_retI H l3_m1 lr3_m1
theorem S11_undo {h : PH} (H : OKX h) : SimI OKX (F11_undo h 0) (G11_undo (rd h)) := by
  unfold F11_undo G11_undo
  refine sm_cd (x_ok_11 H) ?_
  exact S11_undo_0 H
theorem S11_wave_0 {h : PH} (H : OKX h) {x1i : Int32} {x1 : Int} (ex1 : x1i = Z3 x1) (qx1 : r3 x1) {x2i : Int32} {x2 : Int} (ex2 : x2i = Z3 x2) (qx2 : r3 x2) : SimI OKX (F11_wave_0 h 0 x1i x2i) (G11_wave_0 (rd h) x1 x2) := by
  subst ex1 ex2
  unfold F11_wave_0 G11_wave_0
  refine sm_II (S11_isWave H rfl qx1) fun vo1 ho1 Ho1 ro1 => ?_
  refine sm_if (z3_eq rfl l3_0 ro1 lr3_0) ?_ ?_
  · exact sm_retI Ho1 l3_m4 lr3_m4
  · refine sm_if (z3_eq rfl l3_0 qx2 lr3_0) ?_ ?_
    · refine sm_rd (x_gR_11_3 Ho1) ?_
      refine sm_rd (x_gR_8_5 Ho1 (x_v_11_3 Ho1)) ?_
      refine sm_rd (x_gR_10_4 Ho1 (ao_8_5 (x_v_11_3 Ho1))) ?_
      refine sgxI fun c1 => ?_
      refine sm_rd (x_aI_10_4 Ho1 (ao_10_4 (ao_8_5 (x_v_11_3 Ho1))) rfl c1).1 ?_
      exact sm_retI Ho1 rfl (x_aI_10_4 Ho1 (ao_10_4 (ao_8_5 (x_v_11_3 Ho1))) rfl c1).2
    · refine sm_if (z3_eq rfl l3_1 qx2 lr3_1) ?_ ?_
      · refine sm_rd (x_gR_11_3 Ho1) ?_
        refine sm_rd (x_gR_8_5 Ho1 (x_v_11_3 Ho1)) ?_
        refine sm_rd (x_gR_10_5 Ho1 (ao_8_5 (x_v_11_3 Ho1))) ?_
        refine sgxI fun c2 => ?_
        refine sm_rd (x_aI_10_5 Ho1 (ao_10_5 (ao_8_5 (x_v_11_3 Ho1))) rfl c2).1 ?_
        exact sm_retI Ho1 rfl (x_aI_10_5 Ho1 (ao_10_5 (ao_8_5 (x_v_11_3 Ho1))) rfl c2).2
      · refine sm_if (z3_eq rfl l3_2 qx2 lr3_2) ?_ ?_
        · refine sm_rd (x_gR_11_3 Ho1) ?_
          refine sm_rd (x_gR_8_5 Ho1 (x_v_11_3 Ho1)) ?_
          refine sm_rd (x_gR_10_6 Ho1 (ao_8_5 (x_v_11_3 Ho1))) ?_
          refine sgxI fun c3 => ?_
          refine sm_rd (x_aI_10_6 Ho1 (ao_10_6 (ao_8_5 (x_v_11_3 Ho1))) rfl c3).1 ?_
          exact sm_retI Ho1 rfl (x_aI_10_6 Ho1 (ao_10_6 (ao_8_5 (x_v_11_3 Ho1))) rfl c3).2
        · refine sm_if (z3_eq rfl l3_3 qx2 lr3_3) ?_ ?_
          · refine sm_rd (x_gR_11_3 Ho1) ?_
            refine sm_rd (x_gR_8_5 Ho1 (x_v_11_3 Ho1)) ?_
            refine sm_rd (x_gR_10_7 Ho1 (ao_8_5 (x_v_11_3 Ho1))) ?_
            refine sgxI fun c4 => ?_
            refine sm_rd (x_aI_10_7 Ho1 (ao_10_7 (ao_8_5 (x_v_11_3 Ho1))) rfl c4).1 ?_
            exact sm_retI Ho1 rfl (x_aI_10_7 Ho1 (ao_10_7 (ao_8_5 (x_v_11_3 Ho1))) rfl c4).2
          · refine sm_if (z3_eq rfl l3_4 qx2 lr3_4) ?_ ?_
            · refine sm_rd (x_gR_11_7 Ho1) ?_
              refine sm_rd (x_gR_4_10 Ho1 p4_69) ?_
              refine sgxI fun c5 => ?_
              refine sm_rd (x_aI_4_10 Ho1 (ao_4_10 p4_69) rfl c5).1 ?_
              exact sm_retI Ho1 rfl (x_aI_4_10 Ho1 (ao_4_10 p4_69) rfl c5).2
            · exact sm_retI Ho1 l3_m4 lr3_m4
theorem S11_wave {h : PH} (H : OKX h) {x1i : Int32} {x1 : Int} (ex1 : x1i = Z3 x1) (qx1 : r3 x1) {x2i : Int32} {x2 : Int} (ex2 : x2i = Z3 x2) (qx2 : r3 x2) : SimI OKX (F11_wave h 0 x1i x2i) (G11_wave (rd h) x1 x2) := by
  subst ex1 ex2
  unfold F11_wave G11_wave
  refine sm_cd (x_ok_11 H) ?_
  exact S11_wave_0 H rfl qx1 rfl qx2
theorem S12_layNames_88 {h : PH} (H : OKM h) {t0i : Int64} {t0 : Int} (et0 : t0i = Z6 t0) (qt0 : r6 t0) {s1i : Int32} {s1 : Int} (es1 : s1i = Z3 s1) (qs1 : r3 s1) : SimV OKM (F12_layNames_88 h t0i s1i 23) (G12_layNames_88 (rd h) t0 s1) := by
  subst et0 es1
  unfold F12_layNames_88 G12_layNames_88
  refine sgxV fun c1 => ?_
  refine sm_wt (m_sJ_12_52 H rfl c1 rfl qt0) fun h2 Hh2 => ?_
  exact sm_retV Hh2
theorem S12_layNames_46 {h : PH} (H : OKM h) {x4i : Int32} {x4 : Int} (ex4 : x4i = Z3 x4) (qx4 : r3 x4) {x5i : Int32} {x5 : Int} (ex5 : x5i = Z3 x5) (qx5 : r3 x5) {t0i : Int64} {t0 : Int} (et0 : t0i = Z6 t0) (qt0 : r6 t0) {s1i : Int32} {s1 : Int} (es1 : s1i = Z3 s1) (qs1 : r3 s1) : SimV OKM (F12_layNames_46 h 0 x4i x5i t0i s1i 23) (G12_layNames_46 (rd h) x4 x5 t0 s1) := by
  subst ex4 ex5 et0 es1
  unfold F12_layNames_46 G12_layNames_46
  refine sgxV fun c1 => ?_
  refine sm_wt (m_sJ_12_52 H rfl c1 rfl qt0) fun h2 Hh2 => ?_
  refine sm_rd (m_gR_12_52 Hh2) ?_
  refine sm_wt (m_sJ_12_52 Hh2 l3_4 ⟨by decide, by decide⟩ (z3_to6 rfl qx5) (r3_6 qx5)) fun h6 Hh6 => ?_
  refine sm_rd (m_gR_12_52 Hh6) ?_
  refine sm_if (z3_le l3_0 rfl lr3_0 qx4) ?_ ?_
  · refine sm_rd (m_gR_12_33 Hh6) ?_
    refine sm_rd (m_gR_12_36 Hh6) ?_
    refine sgxV fun c2 => ?_
    refine sm_rd (m_aI_12_36 Hh6 rfl c2).1 ?_
    refine sgxV fun c3 => ?_
    refine sm_rd (m_aI_12_33 Hh6 rfl c3).1 ?_
    refine sg3V fun c4 => ?_
    exact S12_layNames_88 Hh6 (z3_to6 (z3_add (z3_sub rfl rfl) l3_1) c4) (r3_6 c4) l3_5 lr3_5
  · exact S12_layNames_88 Hh6 l6_0 lr6_0 l3_5 lr3_5
theorem S12_layNames_0 {h : PH} (H : OKM h) {x1i : Int32} {x1 : Int} (ex1 : x1i = Z3 x1) (qx1 : r3 x1) {x2i : Int32} {x2 : Int} (ex2 : x2i = Z3 x2) (qx2 : r3 x2) {x3i : Int32} {x3 : Int} (ex3 : x3i = Z3 x3) (qx3 : r3 x3) {x4i : Int32} {x4 : Int} (ex4 : x4i = Z3 x4) (qx4 : r3 x4) {x5i : Int32} {x5 : Int} (ex5 : x5i = Z3 x5) (qx5 : r3 x5) : SimV OKM (F12_layNames_0 h 0 x1i x2i x3i x4i x5i) (G12_layNames_0 (rd h) x1 x2 x3 x4 x5) := by
  subst ex1 ex2 ex3 ex4 ex5
  unfold F12_layNames_0 G12_layNames_0
  refine sm_rd (m_gR_12_52 H) ?_
  refine sm_wt (m_sJ_12_52 H l3_0 ⟨by decide, by decide⟩ (z3_to6 rfl qx1) (r3_6 qx1)) fun h4 Hh4 => ?_
  refine sm_rd (m_gR_12_52 Hh4) ?_
  refine sm_wt (m_sJ_12_52 Hh4 l3_1 ⟨by decide, by decide⟩ (z3_to6 rfl qx2) (r3_6 qx2)) fun h8 Hh8 => ?_
  refine sm_rd (m_gR_12_52 Hh8) ?_
  refine sm_wt (m_sJ_12_52 Hh8 l3_2 ⟨by decide, by decide⟩ (z3_to6 rfl qx3) (r3_6 qx3)) fun h12 Hh12 => ?_
  refine sm_rd (m_gR_12_52 Hh12) ?_
  refine sm_if (z3_le l3_0 rfl lr3_0 qx4) ?_ ?_
  · refine sm_rd (m_gR_12_35 Hh12) ?_
    refine sgxV fun c1 => ?_
    refine sm_rd (m_aI_12_35 Hh12 rfl c1).1 ?_
    exact S12_layNames_46 Hh12 rfl qx4 rfl qx5 (z3_to6 rfl (m_aI_12_35 Hh12 rfl c1).2) (r3_6 (m_aI_12_35 Hh12 rfl c1).2) l3_3 lr3_3
  · exact S12_layNames_46 Hh12 rfl qx4 rfl qx5 l6_0 lr6_0 l3_3 lr3_3
theorem S12_layNames {h : PH} (H : OKM h) {x1i : Int32} {x1 : Int} (ex1 : x1i = Z3 x1) (qx1 : r3 x1) {x2i : Int32} {x2 : Int} (ex2 : x2i = Z3 x2) (qx2 : r3 x2) {x3i : Int32} {x3 : Int} (ex3 : x3i = Z3 x3) (qx3 : r3 x3) {x4i : Int32} {x4 : Int} (ex4 : x4i = Z3 x4) (qx4 : r3 x4) {x5i : Int32} {x5 : Int} (ex5 : x5i = Z3 x5) (qx5 : r3 x5) : SimV OKM (F12_layNames h 0 x1i x2i x3i x4i x5i) (G12_layNames (rd h) x1 x2 x3 x4 x5) := by
  subst ex1 ex2 ex3 ex4 ex5
  unfold F12_layNames G12_layNames
  refine sm_cd (m_ok_12 H) ?_
  exact S12_layNames_0 H rfl qx1 rfl qx2 rfl qx3 rfl qx4 rfl qx5
theorem S12_bounded_29 {h : PH} (H : OKM h) {j1i : Int64} {j1 : Int} (ej1 : j1i = Z6 j1) (qj1 : r6 j1) {s0i : Int32} {s0 : Int} (es0 : s0i = Z3 s0) (qs0 : r3 s0) : SimJ OKM (F12_bounded_29 h 0 j1i s0i 0) (G12_bounded_29 (rd h) j1 s0) := by
  subst ej1 es0
  unfold F12_bounded_29 G12_bounded_29
  refine sgbJ fun c1 => ?_
  refine sm_wt (m_pZ_12_54 H rfl c1) fun h1 Hh1 => ?_
  refine sm_rd (m_gI_12_54 Hh1).1 ?_
  refine sm_if (z3_eq rfl l3_0 (m_gI_12_54 Hh1).2 lr3_0) ?_ ?_
  · exact sm_retJ Hh1 rfl qj1
  · exact sm_retJ Hh1 l6_0 lr6_0
theorem S12_bounded_24 {h : PH} (H : OKM h) {j1i : Int64} {j1 : Int} (ej1 : j1i = Z6 j1) (qj1 : r6 j1) : SimJ OKM (F12_bounded_24 h 0 j1i 0) (G12_bounded_24 (rd h) j1) := by
  subst ej1
  unfold F12_bounded_24 G12_bounded_24
  exact S12_bounded_29 H rfl qj1 l3_1 lr3_1
theorem S12_bounded_0 {h : PH} (H : OKM h) {j1i : Int64} {j1 : Int} (ej1 : j1i = Z6 j1) (qj1 : r6 j1) : SimJ OKM (F12_bounded_0 h 0 j1i) (G12_bounded_0 (rd h) j1) := by
  subst ej1
  unfold F12_bounded_0 G12_bounded_0
  refine sm_rd (m_gI_12_54 H).1 ?_
  refine sm_if (z3_eq rfl l3_0 (m_gI_12_54 H).2 lr3_0) ?_ ?_
  · refine sm_if (cmp_gt rfl l6_1000000000000 qj1 lr6_1000000000000) ?_ ?_
    · exact S12_bounded_24 H rfl qj1
    · refine sm_if (cmp_ge rfl l6_m1000000000000 qj1 lr6_m1000000000000) ?_ ?_
      · exact S12_bounded_29 H rfl qj1 l3_0 lr3_0
      · exact S12_bounded_24 H rfl qj1
  · exact S12_bounded_24 H rfl qj1
theorem S12_bounded {h : PH} (H : OKM h) {j1i : Int64} {j1 : Int} (ej1 : j1i = Z6 j1) (qj1 : r6 j1) : SimJ OKM (F12_bounded h 0 j1i) (G12_bounded (rd h) j1) := by
  subst ej1
  unfold F12_bounded G12_bounded
  refine sm_cd (m_ok_12 H) ?_
  exact S12_bounded_0 H rfl qj1
theorem S12_times_69 {h : PH} (H : OKM h) {j1i : Int64} {j1 : Int} (ej1 : j1i = Z6 j1) (qj1 : r6 j1) {j3i : Int64} {j3 : Int} (ej3 : j3i = Z6 j3) (qj3 : r6 j3) {s0i : Int32} {s0 : Int} (es0 : s0i = Z3 s0) (qs0 : r3 s0) : SimJ OKM (F12_times_69 h 0 j1i j3i s0i 0) (G12_times_69 (rd h) j1 j3 s0) := by
  subst ej1 ej3 es0
  unfold F12_times_69 G12_times_69
  refine sgbJ fun c1 => ?_
  refine sm_wt (m_pZ_12_54 H rfl c1) fun h1 Hh1 => ?_
  refine sm_rd (m_gI_12_54 Hh1).1 ?_
  refine sm_if (z3_eq rfl l3_0 (m_gI_12_54 Hh1).2 lr3_0) ?_ ?_
  · refine sg6J fun c2 => ?_
    exact sm_retJ Hh1 (z6_mul rfl rfl) c2
  · exact sm_retJ Hh1 l6_0 lr6_0
theorem S12_times_64 {h : PH} (H : OKM h) {j1i : Int64} {j1 : Int} (ej1 : j1i = Z6 j1) (qj1 : r6 j1) {j3i : Int64} {j3 : Int} (ej3 : j3i = Z6 j3) (qj3 : r6 j3) : SimJ OKM (F12_times_64 h 0 j1i j3i 0) (G12_times_64 (rd h) j1 j3) := by
  subst ej1 ej3
  unfold F12_times_64 G12_times_64
  exact S12_times_69 H rfl qj1 rfl qj3 l3_1 lr3_1
theorem S12_times_49 {h : PH} (H : OKM h) {j1i : Int64} {j1 : Int} (ej1 : j1i = Z6 j1) (qj1 : r6 j1) {j3i : Int64} {j3 : Int} (ej3 : j3i = Z6 j3) (qj3 : r6 j3) {s0i : Int32} {s0 : Int} (es0 : s0i = Z3 s0) (qs0 : r3 s0) : SimJ OKM (F12_times_49 h 0 j1i j3i s0i) (G12_times_49 (rd h) j1 j3 s0) := by
  subst ej1 ej3 es0
  unfold F12_times_49 G12_times_49
  refine sm_rd (m_gI_12_54 H).1 ?_
  refine sm_if (z3_eq rfl l3_0 (m_gI_12_54 H).2 lr3_0) ?_ ?_
  · refine sm_if (z3_eq rfl l3_0 qs0 lr3_0) ?_ ?_
    · exact S12_times_69 H rfl qj1 rfl qj3 l3_0 lr3_0
    · exact S12_times_64 H rfl qj1 rfl qj3
  · exact S12_times_64 H rfl qj1 rfl qj3
theorem S12_times_48 {h : PH} (H : OKM h) {j1i : Int64} {j1 : Int} (ej1 : j1i = Z6 j1) (qj1 : r6 j1) {j3i : Int64} {j3 : Int} (ej3 : j3i = Z6 j3) (qj3 : r6 j3) : SimJ OKM (F12_times_48 h 0 j1i j3i) (G12_times_48 (rd h) j1 j3) := by
  subst ej1 ej3
  unfold F12_times_48 G12_times_48
  exact S12_times_49 H rfl qj1 rfl qj3 l3_0 lr3_0
theorem S12_times_39 {h : PH} (H : OKM h) {j1i : Int64} {j1 : Int} (ej1 : j1i = Z6 j1) (qj1 : r6 j1) {j3i : Int64} {j3 : Int} (ej3 : j3i = Z6 j3) (qj3 : r6 j3) {t0i : Int64} {t0 : Int} (et0 : t0i = Z6 t0) (qt0 : r6 t0) {t1i : Int64} {t1 : Int} (et1 : t1i = Z6 t1) (qt1 : r6 t1) {t2i : Int64} {t2 : Int} (et2 : t2i = Z6 t2) (qt2 : r6 t2) : SimJ OKM (F12_times_39 h 0 j1i j3i t0i t1i t2i) (G12_times_39 (rd h) j1 j3 t0 t1 t2) := by
  subst ej1 ej3 et0 et1 et2
  unfold F12_times_39 G12_times_39
  refine sm_if (z6_eq rfl l6_0 qt0 lr6_0) ?_ ?_
  · exact smJ_none _
  · refine sg6J fun c1 => ?_
    refine sm_if (cmp_le rfl (z6_div rfl rfl qt1 qt0) qt2 c1) ?_ ?_
    · exact S12_times_48 H rfl qj1 rfl qj3
    · exact S12_times_49 H rfl qj1 rfl qj3 l3_1 lr3_1
theorem S12_times_24 {h : PH} (H : OKM h) {j1i : Int64} {j1 : Int} (ej1 : j1i = Z6 j1) (qj1 : r6 j1) {j3i : Int64} {j3 : Int} (ej3 : j3i = Z6 j3) (qj3 : r6 j3) {t0i : Int64} {t0 : Int} (et0 : t0i = Z6 t0) (qt0 : r6 t0) : SimJ OKM (F12_times_24 h 0 j1i j3i t0i) (G12_times_24 (rd h) j1 j3 t0) := by
  subst ej1 ej3 et0
  unfold F12_times_24 G12_times_24
  refine sm_if (cmp_ge rfl l6_0 qj1 lr6_0) ?_ ?_
  · exact S12_times_39 H rfl qj1 rfl qj3 rfl qj1 l6_1000000000000 lr6_1000000000000 rfl qt0
  · refine sg6J fun c1 => ?_
    exact S12_times_39 H rfl qj1 rfl qj3 (z6_neg rfl) c1 l6_1000000000000 lr6_1000000000000 rfl qt0
theorem S12_times_0 {h : PH} (H : OKM h) {j1i : Int64} {j1 : Int} (ej1 : j1i = Z6 j1) (qj1 : r6 j1) {j3i : Int64} {j3 : Int} (ej3 : j3i = Z6 j3) (qj3 : r6 j3) : SimJ OKM (F12_times_0 h 0 j1i j3i) (G12_times_0 (rd h) j1 j3) := by
  subst ej1 ej3
  unfold F12_times_0 G12_times_0
  refine sm_if (cmp_eq rfl l6_0 qj1 lr6_0) ?_ ?_
  · exact S12_times_48 H rfl qj1 rfl qj3
  · refine sm_if (cmp_eq rfl l6_0 qj3 lr6_0) ?_ ?_
    · exact S12_times_48 H rfl qj1 rfl qj3
    · refine sm_if (cmp_ge rfl l6_0 qj3 lr6_0) ?_ ?_
      · exact S12_times_24 H rfl qj1 rfl qj3 rfl qj3
      · refine sg6J fun c1 => ?_
        exact S12_times_24 H rfl qj1 rfl qj3 (z6_neg rfl) c1
theorem S12_times {h : PH} (H : OKM h) {j1i : Int64} {j1 : Int} (ej1 : j1i = Z6 j1) (qj1 : r6 j1) {j3i : Int64} {j3 : Int} (ej3 : j3i = Z6 j3) (qj3 : r6 j3) : SimJ OKM (F12_times h 0 j1i j3i) (G12_times (rd h) j1 j3) := by
  subst ej1 ej3
  unfold F12_times G12_times
  refine sm_cd (m_ok_12 H) ?_
  exact S12_times_0 H rfl qj1 rfl qj3
theorem S12_compares_0 {h : PH} (H : OKM h) {x0i : Int32} {x0 : Int} (ex0 : x0i = Z3 x0) (qx0 : r3 x0) {j1i : Int64} {j1 : Int} (ej1 : j1i = Z6 j1) (qj1 : r6 j1) {j3i : Int64} {j3 : Int} (ej3 : j3i = Z6 j3) (qj3 : r6 j3) : SimI OKM (F12_compares_0 h x0i j1i j3i) (G12_compares_0 (rd h) x0 j1 j3) := by
  subst ex0 ej1 ej3
  unfold F12_compares_0 G12_compares_0
  refine sm_if (z3_eq rfl l3_5 qx0 lr3_5) ?_ ?_
  · refine sm_if (cmp_ge rfl rfl qj1 qj3) ?_ ?_
    · exact sm_rz H l3_0 (by decide)
    · exact sm_rz H l3_1 (by decide)
  · refine sm_if (z3_eq rfl l3_6 qx0 lr3_6) ?_ ?_
    · refine sm_if (cmp_gt rfl rfl qj1 qj3) ?_ ?_
      · exact sm_rz H l3_0 (by decide)
      · exact sm_rz H l3_1 (by decide)
    · refine sm_if (z3_eq rfl l3_7 qx0 lr3_7) ?_ ?_
      · refine sm_if (cmp_eq rfl rfl qj1 qj3) ?_ ?_
        · exact sm_rz H l3_1 (by decide)
        · exact sm_rz H l3_0 (by decide)
      · refine sm_if (z3_eq rfl l3_8 qx0 lr3_8) ?_ ?_
        · refine sm_if (cmp_eq rfl rfl qj1 qj3) ?_ ?_
          · exact sm_rz H l3_0 (by decide)
          · exact sm_rz H l3_1 (by decide)
        · refine sm_if (z3_eq rfl l3_9 qx0 lr3_9) ?_ ?_
          · refine sm_if (cmp_lt rfl rfl qj1 qj3) ?_ ?_
            · exact sm_rz H l3_0 (by decide)
            · exact sm_rz H l3_1 (by decide)
          · refine sm_if (cmp_le rfl rfl qj1 qj3) ?_ ?_
            · exact sm_rz H l3_0 (by decide)
            · exact sm_rz H l3_1 (by decide)
theorem S12_compares {h : PH} (H : OKM h) {x0i : Int32} {x0 : Int} (ex0 : x0i = Z3 x0) (qx0 : r3 x0) {j1i : Int64} {j1 : Int} (ej1 : j1i = Z6 j1) (qj1 : r6 j1) {j3i : Int64} {j3 : Int} (ej3 : j3i = Z6 j3) (qj3 : r6 j3) : SimI OKM (F12_compares h x0i j1i j3i) (G12_compares (rd h) x0 j1 j3) := by
  subst ex0 ej1 ej3
  unfold F12_compares G12_compares
  exact S12_compares_0 H rfl qx0 rfl qj1 rfl qj3
theorem S12_valueOf_240 {h : PH} (H : OKM h) {j2i : Int64} {j2 : Int} (ej2 : j2i = Z6 j2) (qj2 : r6 j2) {j4i : Int64} {j4 : Int} (ej4 : j4i = Z6 j4) (qj4 : r6 j4) {s0i : Int32} {s0 : Int} (es0 : s0i = Z3 s0) (qs0 : r3 s0) : SimJ OKM (F12_valueOf_240 h 0 j2i j4i s0i 0) (G12_valueOf_240 (rd h) j2 j4 s0) := by
  subst ej2 ej4 es0
  unfold F12_valueOf_240 G12_valueOf_240
  refine sgbJ fun c1 => ?_
  refine sm_wt (m_pZ_12_54 H rfl c1) fun h1 Hh1 => ?_
  refine sm_rd (m_gI_12_54 Hh1).1 ?_
  refine sm_if (z3_eq rfl l3_0 (m_gI_12_54 Hh1).2 lr3_0) ?_ ?_
  · refine sm_if (z6_eq rfl l6_0 qj4 lr6_0) ?_ ?_
    · exact smJ_none _
    · refine sg6J fun c2 => ?_
      exact sm_retJ Hh1 (z6_div rfl rfl qj2 qj4) c2
  · exact sm_retJ Hh1 l6_0 lr6_0
theorem S12_valueOf_235 {h : PH} (H : OKM h) {j2i : Int64} {j2 : Int} (ej2 : j2i = Z6 j2) (qj2 : r6 j2) {j4i : Int64} {j4 : Int} (ej4 : j4i = Z6 j4) (qj4 : r6 j4) : SimJ OKM (F12_valueOf_235 h 0 j2i j4i 0) (G12_valueOf_235 (rd h) j2 j4) := by
  subst ej2 ej4
  unfold F12_valueOf_235 G12_valueOf_235
  exact S12_valueOf_240 H rfl qj2 rfl qj4 l3_1 lr3_1
theorem S12_valueOf_0 {h : PH} (H : OKM h) {x1i : Int32} {x1 : Int} (ex1 : x1i = Z3 x1) (qx1 : r3 x1) : SimJ OKM (F12_valueOf_0 h 0 x1i) (G12_valueOf_0 (rd h) x1) := by
  subst ex1
  unfold F12_valueOf_0 G12_valueOf_0
  refine sm_rd (m_gR_12_40 H) ?_
  refine sgxJ fun c1 => ?_
  refine sm_rd (m_aI_12_40 H rfl c1).1 ?_
  refine sm_if (z3_eq rfl l3_0 (m_aI_12_40 H rfl c1).2 lr3_0) ?_ ?_
  · refine sm_rd (m_gR_12_41 H) ?_
    refine sgxJ fun c2 => ?_
    refine sm_rd (m_aI_12_41 H rfl c2).1 ?_
    exact sm_retJ H (z3_to6 rfl (m_aI_12_41 H rfl c2).2) (r3_6 (m_aI_12_41 H rfl c2).2)
  · refine sm_rd (m_gR_12_40 H) ?_
    refine sgxJ fun c3 => ?_
    refine sm_rd (m_aI_12_40 H rfl c3).1 ?_
    refine sm_if (z3_eq rfl l3_1 (m_aI_12_40 H rfl c3).2 lr3_1) ?_ ?_
    · refine sm_rd (m_gR_12_52 H) ?_
      refine sm_rd (m_gR_12_41 H) ?_
      refine sgxJ fun c4 => ?_
      refine sm_rd (m_aI_12_41 H rfl c4).1 ?_
      refine sgxJ fun c5 => ?_
      refine sm_rd (m_aJ_12_52 H rfl c5).1 ?_
      exact sm_retJ H rfl (m_aJ_12_52 H rfl c5).2
    · refine sm_rd (m_gR_12_53 H) ?_
      refine sm_rd (m_gR_12_41 H) ?_
      refine sgxJ fun c6 => ?_
      refine sm_rd (m_aI_12_41 H rfl c6).1 ?_
      refine sgxJ fun c7 => ?_
      refine sm_rd (m_aJ_12_53 H rfl c7).1 ?_
      refine sm_rd (m_gR_12_40 H) ?_
      refine sgxJ fun c8 => ?_
      refine sm_rd (m_aI_12_40 H rfl c8).1 ?_
      refine sm_if (z3_eq rfl l3_2 (m_aI_12_40 H rfl c8).2 lr3_2) ?_ ?_
      · refine sm_if (cmp_eq rfl l6_0 (m_aJ_12_53 H rfl c7).2 lr6_0) ?_ ?_
        · exact sm_retJ H l6_1 lr6_1
        · exact sm_retJ H l6_0 lr6_0
      · refine sm_rd (m_gR_12_53 H) ?_
        refine sm_rd (m_gR_12_42 H) ?_
        refine sgxJ fun c9 => ?_
        refine sm_rd (m_aI_12_42 H rfl c9).1 ?_
        refine sgxJ fun c10 => ?_
        refine sm_rd (m_aJ_12_53 H rfl c10).1 ?_
        refine sm_rd (m_gR_12_40 H) ?_
        refine sgxJ fun c11 => ?_
        refine sm_rd (m_aI_12_40 H rfl c11).1 ?_
        refine sm_if (z3_eq rfl l3_3 (m_aI_12_40 H rfl c11).2 lr3_3) ?_ ?_
        · refine sm_if (cmp_eq rfl l6_0 (m_aJ_12_53 H rfl c7).2 lr6_0) ?_ ?_
          · exact sm_retJ H l6_0 lr6_0
          · refine sm_if (cmp_eq rfl l6_0 (m_aJ_12_53 H rfl c10).2 lr6_0) ?_ ?_
            · exact sm_retJ H l6_0 lr6_0
            · exact sm_retJ H l6_1 lr6_1
        · refine sm_if (z3_eq rfl l3_4 (m_aI_12_40 H rfl c11).2 lr3_4) ?_ ?_
          · refine sm_if (cmp_eq rfl l6_0 (m_aJ_12_53 H rfl c7).2 lr6_0) ?_ ?_
            · refine sm_if (cmp_eq rfl l6_0 (m_aJ_12_53 H rfl c10).2 lr6_0) ?_ ?_
              · exact sm_retJ H l6_0 lr6_0
              · exact sm_retJ H l6_1 lr6_1
            · exact sm_retJ H l6_1 lr6_1
          · refine sm_if (z3_eq rfl l3_11 (m_aI_12_40 H rfl c11).2 lr3_11) ?_ ?_
            · refine sg6J fun c12 => ?_
              refine sm_JJ (S12_bounded H (z6_add rfl rfl) c12) fun vo43 ho43 Ho43 ro43 => ?_
              exact sm_retJ Ho43 rfl ro43
            · refine sm_if (z3_eq rfl l3_12 (m_aI_12_40 H rfl c11).2 lr3_12) ?_ ?_
              · refine sg6J fun c13 => ?_
                refine sm_JJ (S12_bounded H (z6_sub rfl rfl) c13) fun vo46 ho46 Ho46 ro46 => ?_
                exact sm_retJ Ho46 rfl ro46
              · refine sm_if (z3_eq rfl l3_13 (m_aI_12_40 H rfl c11).2 lr3_13) ?_ ?_
                · refine sm_JJ (S12_times H rfl ((m_aJ_12_53 H rfl c7).2) rfl ((m_aJ_12_53 H rfl c10).2)) fun vo49 ho49 Ho49 ro49 => ?_
                  exact sm_retJ Ho49 rfl ro49
                · refine sm_if (z3_eq rfl l3_14 (m_aI_12_40 H rfl c11).2 lr3_14) ?_ ?_
                  · refine sm_rd (m_gI_12_54 H).1 ?_
                    refine sm_if (z3_eq rfl l3_0 (m_gI_12_54 H).2 lr3_0) ?_ ?_
                    · refine sm_if (cmp_eq rfl l6_0 (m_aJ_12_53 H rfl c10).2 lr6_0) ?_ ?_
                      · exact S12_valueOf_235 H rfl ((m_aJ_12_53 H rfl c7).2) rfl ((m_aJ_12_53 H rfl c10).2)
                      · exact S12_valueOf_240 H rfl ((m_aJ_12_53 H rfl c7).2) rfl ((m_aJ_12_53 H rfl c10).2) l3_0 lr3_0
                    · exact S12_valueOf_235 H rfl ((m_aJ_12_53 H rfl c7).2) rfl ((m_aJ_12_53 H rfl c10).2)
                  · refine sm_rd (m_gR_12_40 H) ?_
                    refine sgxJ fun c14 => ?_
                    refine sm_rd (m_aI_12_40 H rfl c14).1 ?_
                    refine sm_IJ (S12_compares H rfl ((m_aI_12_40 H rfl c14).2) rfl ((m_aJ_12_53 H rfl c7).2) rfl ((m_aJ_12_53 H rfl c10).2)) fun vo60 ho60 Ho60 ro60 => ?_
                    refine sm_if (z3_eq rfl l3_0 ro60 lr3_0) ?_ ?_
                    · exact sm_retJ Ho60 l6_0 lr6_0
                    · exact sm_retJ Ho60 l6_1 lr6_1
theorem S12_valueOf {h : PH} (H : OKM h) {x1i : Int32} {x1 : Int} (ex1 : x1i = Z3 x1) (qx1 : r3 x1) : SimJ OKM (F12_valueOf h 0 x1i) (G12_valueOf (rd h) x1) := by
  subst ex1
  unfold F12_valueOf G12_valueOf
  refine sm_cd (m_ok_12 H) ?_
  exact S12_valueOf_0 H rfl qx1
theorem S12_lawOf_12 (n : Nat) : ∀ {h : PH} (H : OKM h) {x1i : Int32} {x1 : Int} (ex1 : x1i = Z3 x1) (qx1 : r3 x1) {x2i : Int32} {x2 : Int} (ex2 : x2i = Z3 x2) (qx2 : r3 x2), SimJ OKM (F12_lawOf_12 n h 0 x1i x2i) (G12_lawOf_12 n (rd h) x1 x2) := by
  induction n with
  | zero => intros; exact smJ_none _
  | succ n ih =>
    intro h H x1i x1 ex1 qx1 x2i x2 ex2 qx2
    subst ex1 ex2
    rw [F12_lawOf_12, G12_lawOf_12]
    refine sm_rd (m_gR_12_39 H) ?_
    refine sgxJ fun c1 => ?_
    refine sm_rd (m_aI_12_39 H rfl c1).1 ?_
    refine sm_if (z3_le rfl rfl (m_aI_12_39 H rfl c1).2 qx2) ?_ ?_
    · refine sm_rd (m_gI_12_54 H).1 ?_
      refine sm_if (z3_eq rfl l3_0 (m_gI_12_54 H).2 lr3_0) ?_ ?_
      · refine sm_rd (m_gR_12_53 H) ?_
        refine sm_rd (m_gR_12_39 H) ?_
        refine sgxJ fun c2 => ?_
        refine sm_rd (m_aI_12_39 H rfl c2).1 ?_
        refine sgxJ fun c3 => ?_
        refine sm_rd (m_aJ_12_53 H (z3_sub rfl l3_1) c3).1 ?_
        exact sm_retJ H rfl (m_aJ_12_53 H (z3_sub rfl l3_1) c3).2
      · exact sm_retJ H l6_0 lr6_0
    · refine sm_rd (m_gR_12_53 H) ?_
      refine sm_JJ (S12_valueOf H rfl qx2) fun vo19 ho19 Ho19 ro19 => ?_
      refine sgxJ fun c4 => ?_
      refine sm_wt (m_sJ_12_53 Ho19 rfl c4 rfl ro19) fun h22 Hh22 => ?_
      refine sg3J fun c5 => ?_
      exact ih Hh22 rfl qx1 (z3_add rfl l3_1) c5
theorem S12_lawOf_0 {h : PH} (H : OKM h) {x1i : Int32} {x1 : Int} (ex1 : x1i = Z3 x1) (qx1 : r3 x1) : SimJ OKM (F12_lawOf_0 h 0 x1i) (G12_lawOf_0 (rd h) x1) := by
  subst ex1
  unfold F12_lawOf_0 G12_lawOf_0
  refine sm_wt (m_pZ_12_54 H l3_0 (by decide)) fun h1 Hh1 => ?_
  refine sm_rd (m_gR_12_38 Hh1) ?_
  refine sgxJ fun c1 => ?_
  refine sm_rd (m_aI_12_38 Hh1 rfl c1).1 ?_
  exact S12_lawOf_12 1024 Hh1 rfl qx1 rfl ((m_aI_12_38 Hh1 rfl c1).2)
theorem S12_lawOf {h : PH} (H : OKM h) {x1i : Int32} {x1 : Int} (ex1 : x1i = Z3 x1) (qx1 : r3 x1) : SimJ OKM (F12_lawOf h 0 x1i) (G12_lawOf (rd h) x1) := by
  subst ex1
  unfold F12_lawOf G12_lawOf
  refine sm_cd (m_ok_12 H) ?_
  exact S12_lawOf_0 H rfl qx1
theorem S12_boundLaw_0 {h : PH} (H : OKM h) {x1i : Int32} {x1 : Int} (ex1 : x1i = Z3 x1) (qx1 : r3 x1) {x2i : Int32} {x2 : Int} (ex2 : x2i = Z3 x2) (qx2 : r3 x2) {x3i : Int32} {x3 : Int} (ex3 : x3i = Z3 x3) (qx3 : r3 x3) {x4i : Int32} {x4 : Int} (ex4 : x4i = Z3 x4) (qx4 : r3 x4) : SimI OKM (F12_boundLaw_0 h 0 x1i x2i x3i x4i) (G12_boundLaw_0 (rd h) x1 x2 x3 x4) := by
  subst ex1 ex2 ex3 ex4
  unfold F12_boundLaw_0 G12_boundLaw_0
  refine sm_rd (m_gR_12_37 H) ?_
  refine sgxI fun c1 => ?_
  refine sm_rd (m_aI_12_37 H rfl c1).1 ?_
  refine sm_if (z3_eq rfl l3_0 (m_aI_12_37 H rfl c1).2 lr3_0) ?_ ?_
  · exact sm_retI H rfl qx2
  · refine sm_JI (S12_lawOf H rfl qx1) fun vo6 ho6 Ho6 ro6 => ?_
    refine sm_rd (m_gI_12_54 Ho6).1 ?_
    refine sm_if (z3_eq rfl l3_0 (m_gI_12_54 Ho6).2 lr3_0) ?_ ?_
    · refine sm_if (cmp_ge rfl (z3_to6 rfl qx3) ro6 (r3_6 qx3)) ?_ ?_
      · refine sm_if (cmp_le rfl (z3_to6 rfl qx4) ro6 (r3_6 qx4)) ?_ ?_
        · refine sg3I fun c2 => ?_
          exact sm_retI Ho6 (z6_to3 rfl) c2
        · exact sm_retI Ho6 rfl qx4
      · exact sm_retI Ho6 rfl qx3
    · exact sm_retI Ho6 rfl qx2
theorem S12_boundLaw {h : PH} (H : OKM h) {x1i : Int32} {x1 : Int} (ex1 : x1i = Z3 x1) (qx1 : r3 x1) {x2i : Int32} {x2 : Int} (ex2 : x2i = Z3 x2) (qx2 : r3 x2) {x3i : Int32} {x3 : Int} (ex3 : x3i = Z3 x3) (qx3 : r3 x3) {x4i : Int32} {x4 : Int} (ex4 : x4i = Z3 x4) (qx4 : r3 x4) : SimI OKM (F12_boundLaw h 0 x1i x2i x3i x4i) (G12_boundLaw (rd h) x1 x2 x3 x4) := by
  subst ex1 ex2 ex3 ex4
  unfold F12_boundLaw G12_boundLaw
  refine sm_cd (m_ok_12 H) ?_
  exact S12_boundLaw_0 H rfl qx1 rfl qx2 rfl qx3 rfl qx4
theorem S12_peakAt_37 {h : PH} (H : OKM h) {s0i : Int32} {s0 : Int} (es0 : s0i = Z3 s0) (qs0 : r3 s0) {s1i : Int32} {s1 : Int} (es1 : s1i = Z3 s1) (qs1 : r3 s1) : SimI OKM (F12_peakAt_37 h 0 s0i s1i) (G12_peakAt_37 (rd h) s0 s1) := by
  subst es0 es1
  unfold F12_peakAt_37 G12_peakAt_37
  refine sm_rd (m_gI_12_12 H).1 ?_
  refine sm_rd (m_gR_12_26 H) ?_
  refine sm_rd (m_aI_12_26 H l3_1 ⟨by decide, by decide⟩).1 ?_
  refine sg3I fun c1 => ?_
  refine sm_if (z3_le l3_0 (z3_add rfl rfl) lr3_0 c1) ?_ ?_
  · refine sm_rd (m_gI_12_12 H).1 ?_
    refine sg3I fun c2 => ?_
    refine sm_if (z3_lt (z3_add rfl rfl) rfl c2 (m_gI_12_12 H).2) ?_ ?_
    · refine sg3I fun c3 => ?_
      exact sm_retI H (z3_add (z3_mul rfl rfl) (z3_add rfl rfl)) c3
    · refine sm_rd (m_gI_12_12 H).1 ?_
      refine sg3I fun c4 => ?_
      exact sm_retI H (z3_add (z3_mul rfl rfl) (z3_sub rfl l3_1)) c4
  · refine sg3I fun c5 => ?_
    exact sm_retI H (z3_add (z3_mul rfl rfl) l3_0) c5
theorem S12_peakAt_0 {h : PH} (H : OKM h) {x1i : Int32} {x1 : Int} (ex1 : x1i = Z3 x1) (qx1 : r3 x1) : SimI OKM (F12_peakAt_0 h 0 x1i) (G12_peakAt_0 (rd h) x1) := by
  subst ex1
  unfold F12_peakAt_0 G12_peakAt_0
  refine sm_VI (S12_layNames H l3_0 lr3_0 l3_0 lr3_0 l3_0 lr3_0 l3_m1 lr3_m1 rfl qx1) fun ho1 Ho1 => ?_
  refine sm_rd (m_gR_12_26 Ho1) ?_
  refine sm_rd (m_aI_12_26 Ho1 l3_0 ⟨by decide, by decide⟩).1 ?_
  refine sm_rd (m_gI_12_66 Ho1).1 ?_
  refine sm_if (z3_eq rfl l3_2 (m_gI_12_66 Ho1).2 lr3_2) ?_ ?_
  · exact S12_peakAt_37 Ho1 l3_0 lr3_0 rfl ((m_aI_12_26 Ho1 l3_0 ⟨by decide, by decide⟩).2)
  · refine sm_II (S12_boundLaw Ho1 l3_1 lr3_1 l3_0 lr3_0 l3_m8 lr3_m8 l3_8 lr3_8) fun vo10 ho10 Ho10 ro10 => ?_
    exact S12_peakAt_37 Ho10 rfl ro10 rfl ((m_aI_12_26 Ho1 l3_0 ⟨by decide, by decide⟩).2)
theorem S12_peakAt {h : PH} (H : OKM h) {x1i : Int32} {x1 : Int} (ex1 : x1i = Z3 x1) (qx1 : r3 x1) : SimI OKM (F12_peakAt h 0 x1i) (G12_peakAt (rd h) x1) := by
  subst ex1
  unfold F12_peakAt G12_peakAt
  refine sm_cd (m_ok_12 H) ?_
  exact S12_peakAt_0 H rfl qx1
theorem S12_far_39 {h : PH} (H : OKM h) {x4i : Int32} {x4 : Int} (ex4 : x4i = Z3 x4) (qx4 : r3 x4) {s0i : Int32} {s0 : Int} (es0 : s0i = Z3 s0) (qs0 : r3 s0) : SimI OKM (F12_far_39 h x4i s0i) (G12_far_39 (rd h) x4 s0) := by
  subst ex4 es0
  unfold F12_far_39 G12_far_39
  refine sm_if (z3_le l3_0 rfl lr3_0 qx4) ?_ ?_
  · refine sg3I fun c1 => ?_
    exact sm_retI H (z3_add rfl rfl) c1
  · refine sg3I fun c2 => ?_
    exact sm_retI H (z3_add rfl (z3_neg rfl)) c2
theorem S12_far_0 {h : PH} (H : OKM h) {x1i : Int32} {x1 : Int} (ex1 : x1i = Z3 x1) (qx1 : r3 x1) {x2i : Int32} {x2 : Int} (ex2 : x2i = Z3 x2) (qx2 : r3 x2) : SimI OKM (F12_far_0 h 0 x1i x2i) (G12_far_0 (rd h) x1 x2) := by
  subst ex1 ex2
  unfold F12_far_0 G12_far_0
  refine sm_rd (m_gI_12_12 H).1 ?_
  refine sm_if (z3_eq rfl l3_0 (m_gI_12_12 H).2 lr3_0) ?_ ?_
  · exact smI_none _
  · refine sm_rd (m_gI_12_12 H).1 ?_
    refine sm_if (z3_eq rfl l3_0 (m_gI_12_12 H).2 lr3_0) ?_ ?_
    · exact smI_none _
    · refine sm_rd (m_gI_12_12 H).1 ?_
      refine sm_if (z3_eq rfl l3_0 (m_gI_12_12 H).2 lr3_0) ?_ ?_
      · exact smI_none _
      · refine sm_rd (m_gI_12_12 H).1 ?_
        refine sm_if (z3_eq rfl l3_0 (m_gI_12_12 H).2 lr3_0) ?_ ?_
        · exact smI_none _
        · refine sgdI fun c1 => ?_
          refine sgdI fun c2 => ?_
          refine sg3I fun c3 => ?_
          refine sm_if (z3_le l3_0 (z3_sub (z3_rem rfl rfl qx1 (m_gI_12_12 H).2 c1) (z3_rem rfl rfl qx2 (m_gI_12_12 H).2 c2)) lr3_0 c3) ?_ ?_
          · refine sgdI fun c4 => ?_
            refine sgdI fun c5 => ?_
            refine sg3I fun c6 => ?_
            refine sgdI fun c7 => ?_
            refine sgdI fun c8 => ?_
            refine sg3I fun c9 => ?_
            exact S12_far_39 H (z3_sub (z3_div rfl rfl qx1 (m_gI_12_12 H).2 c4) (z3_div rfl rfl qx2 (m_gI_12_12 H).2 c5)) c6 (z3_sub (z3_rem rfl rfl qx1 (m_gI_12_12 H).2 c7) (z3_rem rfl rfl qx2 (m_gI_12_12 H).2 c8)) c9
          · refine sgdI fun c10 => ?_
            refine sgdI fun c11 => ?_
            refine sg3I fun c12 => ?_
            refine sgdI fun c13 => ?_
            refine sgdI fun c14 => ?_
            refine sg3I fun c15 => ?_
            exact S12_far_39 H (z3_sub (z3_div rfl rfl qx1 (m_gI_12_12 H).2 c10) (z3_div rfl rfl qx2 (m_gI_12_12 H).2 c11)) c12 (z3_neg (z3_sub (z3_rem rfl rfl qx1 (m_gI_12_12 H).2 c13) (z3_rem rfl rfl qx2 (m_gI_12_12 H).2 c14))) c15
theorem S12_far {h : PH} (H : OKM h) {x1i : Int32} {x1 : Int} (ex1 : x1i = Z3 x1) (qx1 : r3 x1) {x2i : Int32} {x2 : Int} (ex2 : x2i = Z3 x2) (qx2 : r3 x2) : SimI OKM (F12_far h 0 x1i x2i) (G12_far (rd h) x1 x2) := by
  subst ex1 ex2
  unfold F12_far G12_far
  refine sm_cd (m_ok_12 H) ?_
  exact S12_far_0 H rfl qx1 rfl qx2
theorem S12_boardOf_0 {h : PH} (H : OKM h) {x1i : Int32} {x1 : Int} (ex1 : x1i = Z3 x1) (qx1 : r3 x1) : SimI OKM (F12_boardOf_0 h 0 x1i) (G12_boardOf_0 (rd h) x1) := by
  subst ex1
  unfold F12_boardOf_0 G12_boardOf_0
  refine sm_rd (m_gI_12_66 H).1 ?_
  refine sm_if (z3_eq rfl l3_3 (m_gI_12_66 H).2 lr3_3) ?_ ?_
  · exact sm_retI H l3_9 lr3_9
  · refine sm_rd (m_gR_12_29 H) ?_
    refine sgxI fun c1 => ?_
    refine sm_rd (m_aI_12_29 H rfl c1).1 ?_
    exact sm_retI H rfl (m_aI_12_29 H rfl c1).2
theorem S12_boardOf {h : PH} (H : OKM h) {x1i : Int32} {x1 : Int} (ex1 : x1i = Z3 x1) (qx1 : r3 x1) : SimI OKM (F12_boardOf h 0 x1i) (G12_boardOf (rd h) x1) := by
  subst ex1
  unfold F12_boardOf G12_boardOf
  refine sm_cd (m_ok_12 H) ?_
  exact S12_boardOf_0 H rfl qx1
theorem S12_layCatch_0 {h : PH} (H : OKM h) {x1i : Int32} {x1 : Int} (ex1 : x1i = Z3 x1) (qx1 : r3 x1) {x2i : Int32} {x2 : Int} (ex2 : x2i = Z3 x2) (qx2 : r3 x2) {x3i : Int32} {x3 : Int} (ex3 : x3i = Z3 x3) (qx3 : r3 x3) : SimI OKM (F12_layCatch_0 h 0 x1i x2i x3i) (G12_layCatch_0 (rd h) x1 x2 x3) := by
  subst ex1 ex2 ex3
  unfold F12_layCatch_0 G12_layCatch_0
  refine sm_rd (m_gR_12_34 H) ?_
  refine sgxI fun c1 => ?_
  refine sm_rd (m_aI_12_34 H rfl c1).1 ?_
  refine sm_II (S12_peakAt H rfl ((m_aI_12_34 H rfl c1).2)) fun vo5 ho5 Ho5 ro5 => ?_
  refine sm_II (S12_far Ho5 rfl qx3 rfl ro5) fun vo7 ho7 Ho7 ro7 => ?_
  refine sm_rd (m_gI_12_12 Ho7).1 ?_
  refine sm_if (z3_eq rfl l3_0 (m_gI_12_12 Ho7).2 lr3_0) ?_ ?_
  · exact smI_none _
  · refine sm_rd (m_gI_12_12 Ho7).1 ?_
    refine sm_if (z3_eq rfl l3_0 (m_gI_12_12 Ho7).2 lr3_0) ?_ ?_
    · exact smI_none _
    · refine sm_II (S12_boardOf Ho7 rfl qx1) fun vo15 ho15 Ho15 ro15 => ?_
      refine sm_rd (m_gR_12_34 Ho15) ?_
      refine sgxI fun c2 => ?_
      refine sm_rd (m_aI_12_34 Ho15 rfl c2).1 ?_
      refine sgdI fun c3 => ?_
      refine sgdI fun c4 => ?_
      refine sg3I fun c5 => ?_
      refine sm_VI (S12_layNames Ho15 rfl ro7 (z3_sub (z3_div rfl rfl qx3 (m_gI_12_12 Ho7).2 c3) (z3_div rfl rfl ro5 (m_gI_12_12 Ho7).2 c4)) c5 rfl ro15 rfl qx2 rfl ((m_aI_12_34 Ho15 rfl c2).2)) fun ho21 Ho21 => ?_
      exact sm_retI Ho21 rfl ro7
theorem S12_layCatch {h : PH} (H : OKM h) {x1i : Int32} {x1 : Int} (ex1 : x1i = Z3 x1) (qx1 : r3 x1) {x2i : Int32} {x2 : Int} (ex2 : x2i = Z3 x2) (qx2 : r3 x2) {x3i : Int32} {x3 : Int} (ex3 : x3i = Z3 x3) (qx3 : r3 x3) : SimI OKM (F12_layCatch h 0 x1i x2i x3i) (G12_layCatch (rd h) x1 x2 x3) := by
  subst ex1 ex2 ex3
  unfold F12_layCatch G12_layCatch
  refine sm_cd (m_ok_12 H) ?_
  exact S12_layCatch_0 H rfl qx1 rfl qx2 rfl qx3
theorem S12_oddsOf_29 {h : PH} (H : OKM h) {s0i : Int32} {s0 : Int} (es0 : s0i = Z3 s0) (qs0 : r3 s0) {s1i : Int32} {s1 : Int} (es1 : s1i = Z3 s1) (qs1 : r3 s1) : SimI OKM (F12_oddsOf_29 h s0i s1i 0) (G12_oddsOf_29 (rd h) s0 s1) := by
  subst es0 es1
  unfold F12_oddsOf_29 G12_oddsOf_29
  refine sm_II (S12_boundLaw H rfl qs1 rfl qs0 l3_0 lr3_0 l3_100 lr3_100) fun vo1 ho1 Ho1 ro1 => ?_
  exact sm_retI Ho1 rfl ro1
theorem S12_oddsOf_0 {h : PH} (H : OKM h) {x1i : Int32} {x1 : Int} (ex1 : x1i = Z3 x1) (qx1 : r3 x1) {x2i : Int32} {x2 : Int} (ex2 : x2i = Z3 x2) (qx2 : r3 x2) {x3i : Int32} {x3 : Int} (ex3 : x3i = Z3 x3) (qx3 : r3 x3) : SimI OKM (F12_oddsOf_0 h 0 x1i x2i x3i) (G12_oddsOf_0 (rd h) x1 x2 x3) := by
  subst ex1 ex2 ex3
  unfold F12_oddsOf_0 G12_oddsOf_0
  refine sm_II (S12_layCatch H rfl qx1 rfl qx2 rfl qx3) fun vo1 ho1 Ho1 ro1 => ?_
  refine sm_if (z3_le l3_5 rfl lr3_5 ro1) ?_ ?_
  · exact S12_oddsOf_29 Ho1 l3_0 lr3_0 l3_0 lr3_0
  · refine sg3I fun c1 => ?_
    exact S12_oddsOf_29 Ho1 (z3_sub l3_100 (z3_mul l3_20 rfl)) c1 l3_0 lr3_0
theorem S12_oddsOf {h : PH} (H : OKM h) {x1i : Int32} {x1 : Int} (ex1 : x1i = Z3 x1) (qx1 : r3 x1) {x2i : Int32} {x2 : Int} (ex2 : x2i = Z3 x2) (qx2 : r3 x2) {x3i : Int32} {x3 : Int} (ex3 : x3i = Z3 x3) (qx3 : r3 x3) : SimI OKM (F12_oddsOf h 0 x1i x2i x3i) (G12_oddsOf (rd h) x1 x2 x3) := by
  subst ex1 ex2 ex3
  unfold F12_oddsOf G12_oddsOf
  refine sm_cd (m_ok_12 H) ?_
  exact S12_oddsOf_0 H rfl qx1 rfl qx2 rfl qx3
theorem S12_isGoing_29 {h : PH} (H : OKM h) {x1i : Int32} {x1 : Int} (ex1 : x1i = Z3 x1) (qx1 : r3 x1) {x2i : Int32} {x2 : Int} (ex2 : x2i = Z3 x2) (qx2 : r3 x2) {x3i : Int32} {x3 : Int} (ex3 : x3i = Z3 x3) (qx3 : r3 x3) : SimI OKM (F12_isGoing_29 h 0 x1i x2i x3i) (G12_isGoing_29 (rd h) x1 x2 x3) := by
  subst ex1 ex2 ex3
  unfold F12_isGoing_29 G12_isGoing_29
  refine sm_rd (m_gR_12_55 H) ?_
  refine sgxI fun c1 => ?_
  refine sm_rd (m_aI_12_55 H (z3_add (z3_mul l3_5 rfl) rfl) c1).1 ?_
  refine sm_II (S12_oddsOf H rfl qx2 rfl qx3 rfl ((m_aI_12_55 H (z3_add (z3_mul l3_5 rfl) rfl) c1).2)) fun vo5 ho5 Ho5 ro5 => ?_
  refine sm_if (z3_le rfl l3_0 ro5 lr3_0) ?_ ?_
  · exact sm_rz Ho5 l3_0 (by decide)
  · exact sm_rz Ho5 l3_1 (by decide)
theorem S12_isGoing_0 {h : PH} (H : OKM h) {x1i : Int32} {x1 : Int} (ex1 : x1i = Z3 x1) (qx1 : r3 x1) {x2i : Int32} {x2 : Int} (ex2 : x2i = Z3 x2) (qx2 : r3 x2) {x3i : Int32} {x3 : Int} (ex3 : x3i = Z3 x3) (qx3 : r3 x3) : SimI OKM (F12_isGoing_0 h 0 x1i x2i x3i) (G12_isGoing_0 (rd h) x1 x2 x3) := by
  subst ex1 ex2 ex3
  unfold F12_isGoing_0 G12_isGoing_0
  refine sm_rd (m_gR_12_58 H) ?_
  refine sgxI fun c1 => ?_
  refine sm_rd (m_aI_12_58 H (z3_add (z3_mul l3_5 rfl) rfl) c1).1 ?_
  refine sm_if (z3_eq rfl l3_0 (m_aI_12_58 H (z3_add (z3_mul l3_5 rfl) rfl) c1).2 lr3_0) ?_ ?_
  · refine sm_rd (m_gI_12_66 H).1 ?_
    refine sm_if (z3_eq rfl l3_1 (m_gI_12_66 H).2 lr3_1) ?_ ?_
    · refine sm_rd (m_gI_12_67 H).1 ?_
      refine sm_if (z3_eq rfl rfl (m_gI_12_67 H).2 qx2) ?_ ?_
      · exact sm_rz H l3_0 (by decide)
      · exact S12_isGoing_29 H rfl qx1 rfl qx2 rfl qx3
    · exact S12_isGoing_29 H rfl qx1 rfl qx2 rfl qx3
  · exact sm_rz H l3_0 (by decide)
theorem S12_isGoing {h : PH} (H : OKM h) {x1i : Int32} {x1 : Int} (ex1 : x1i = Z3 x1) (qx1 : r3 x1) {x2i : Int32} {x2 : Int} (ex2 : x2i = Z3 x2) (qx2 : r3 x2) {x3i : Int32} {x3 : Int} (ex3 : x3i = Z3 x3) (qx3 : r3 x3) : SimI OKM (F12_isGoing h 0 x1i x2i x3i) (G12_isGoing (rd h) x1 x2 x3) := by
  subst ex1 ex2 ex3
  unfold F12_isGoing G12_isGoing
  refine sm_cd (m_ok_12 H) ?_
  exact S12_isGoing_0 H rfl qx1 rfl qx2 rfl qx3
theorem S12_keyOf_122 {k76 : PH → Nat → Int32 → Int32 → Int32 → Int32 → Int32 → Int32 → Option (Int32 × PH)} {kk76 : Mem → Int → Int → Int → Int → Int → Int → Option (Int × Mem)} (hk76 : ∀ {h : PH} (_ : OKM h) {x2 : Int32} {y2 : Int} (_ : x2 = Z3 y2) (_ : r3 y2) {x3 : Int32} {y3 : Int} (_ : x3 = Z3 y3) (_ : r3 y3) {x4 : Int32} {y4 : Int} (_ : x4 = Z3 y4) (_ : r3 y4) {x5 : Int32} {y5 : Int} (_ : x5 = Z3 y5) (_ : r3 y5) {x6 : Int32} {y6 : Int} (_ : x6 = Z3 y6) (_ : r3 y6) {x7 : Int32} {y7 : Int} (_ : x7 = Z3 y7) (_ : r3 y7), SimI OKM (k76 h 0 x2 x3 x4 x5 x6 x7) (kk76 (rd h) y2 y3 y4 y5 y6 y7)) {h : PH} (H : OKM h) {x1i : Int32} {x1 : Int} (ex1 : x1i = Z3 x1) (qx1 : r3 x1) {x2i : Int32} {x2 : Int} (ex2 : x2i = Z3 x2) (qx2 : r3 x2) {x3i : Int32} {x3 : Int} (ex3 : x3i = Z3 x3) (qx3 : r3 x3) {x6i : Int32} {x6 : Int} (ex6 : x6i = Z3 x6) (qx6 : r3 x6) {x8i : Int32} {x8 : Int} (ex8 : x8i = Z3 x8) (qx8 : r3 x8) : SimI OKM (F12_keyOf_122 k76 h 0 x1i x2i x3i x6i x8i) (G12_keyOf_122 kk76 (rd h) x1 x2 x3 x6 x8) := by
  subst ex1 ex2 ex3 ex6 ex8
  unfold F12_keyOf_122 G12_keyOf_122
  refine sg3I fun c1 => ?_
  exact hk76 H rfl qx1 rfl qx2 rfl qx3 rfl qx6 l3_1 lr3_1 (z3_add rfl l3_1) c1
theorem S12_keyOf_76 (n : Nat) : ∀ {h : PH} (H : OKM h) {x1i : Int32} {x1 : Int} (ex1 : x1i = Z3 x1) (qx1 : r3 x1) {x2i : Int32} {x2 : Int} (ex2 : x2i = Z3 x2) (qx2 : r3 x2) {x3i : Int32} {x3 : Int} (ex3 : x3i = Z3 x3) (qx3 : r3 x3) {x6i : Int32} {x6 : Int} (ex6 : x6i = Z3 x6) (qx6 : r3 x6) {x7i : Int32} {x7 : Int} (ex7 : x7i = Z3 x7) (qx7 : r3 x7) {x8i : Int32} {x8 : Int} (ex8 : x8i = Z3 x8) (qx8 : r3 x8), SimI OKM (F12_keyOf_76 n h 0 x1i x2i x3i x6i x7i x8i) (G12_keyOf_76 n (rd h) x1 x2 x3 x6 x7 x8) := by
  induction n with
  | zero => intros; exact smI_none _
  | succ n ih =>
    intro h H x1i x1 ex1 qx1 x2i x2 ex2 qx2 x3i x3 ex3 qx3 x6i x6 ex6 qx6 x7i x7 ex7 qx7 x8i x8 ex8 qx8
    subst ex1 ex2 ex3 ex6 ex7 ex8
    rw [F12_keyOf_76, G12_keyOf_76]
    refine sm_rd (m_gI_12_16 H).1 ?_
    refine sm_if (z3_le rfl rfl (m_gI_12_16 H).2 qx8) ?_ ?_
    · refine sm_if (z3_eq rfl l3_0 qx7 lr3_0) ?_ ?_
      · refine sg3I fun c1 => ?_
        exact sm_retI H (z3_add l3_0 rfl) c1
      · refine sg3I fun c2 => ?_
        exact sm_retI H (z3_add l3_1000 rfl) c2
    · refine sm_if (z3_eq rfl l3_0 qx7 lr3_0) ?_ ?_
      · refine sm_rd (m_gR_12_36 H) ?_
        refine sgxI fun c3 => ?_
        refine sm_rd (m_aI_12_36 H rfl c3).1 ?_
        refine sm_rd (m_gR_12_36 H) ?_
        refine sgxI fun c4 => ?_
        refine sm_rd (m_aI_12_36 H rfl c4).1 ?_
        refine sm_if (z3_eq rfl rfl (m_aI_12_36 H rfl c3).2 (m_aI_12_36 H rfl c4).2) ?_ ?_
        · refine sm_rd (m_gR_12_60 H) ?_
          refine sgxI fun c5 => ?_
          refine sm_rd (m_aI_12_60 H (z3_add (z3_mul l3_28 rfl) rfl) c5).1 ?_
          refine sm_if (z3_eq rfl rfl (m_aI_12_60 H (z3_add (z3_mul l3_28 rfl) rfl) c5).2 qx2) ?_ ?_
          · exact S12_keyOf_122 (@fun _ H _ _ ex1 qx1 _ _ ex2 qx2 _ _ ex3 qx3 _ _ ex6 qx6 _ _ ex7 qx7 _ _ ex8 qx8 => ih H ex1 qx1 ex2 qx2 ex3 qx3 ex6 qx6 ex7 qx7 ex8 qx8) H rfl qx1 rfl qx2 rfl qx3 rfl qx6 rfl qx8
          · refine sg3I fun c6 => ?_
            exact ih H rfl qx1 rfl qx2 rfl qx3 rfl qx6 l3_0 lr3_0 (z3_add rfl l3_1) c6
        · refine sg3I fun c7 => ?_
          exact ih H rfl qx1 rfl qx2 rfl qx3 rfl qx6 l3_0 lr3_0 (z3_add rfl l3_1) c7
      · exact S12_keyOf_122 (@fun _ H _ _ ex1 qx1 _ _ ex2 qx2 _ _ ex3 qx3 _ _ ex6 qx6 _ _ ex7 qx7 _ _ ex8 qx8 => ih H ex1 qx1 ex2 qx2 ex3 qx3 ex6 qx6 ex7 qx7 ex8 qx8) H rfl qx1 rfl qx2 rfl qx3 rfl qx6 rfl qx8
theorem S12_keyOf_0 {h : PH} (H : OKM h) {x1i : Int32} {x1 : Int} (ex1 : x1i = Z3 x1) (qx1 : r3 x1) {x2i : Int32} {x2 : Int} (ex2 : x2i = Z3 x2) (qx2 : r3 x2) {x3i : Int32} {x3 : Int} (ex3 : x3i = Z3 x3) (qx3 : r3 x3) {x4i : Int32} {x4 : Int} (ex4 : x4i = Z3 x4) (qx4 : r3 x4) : SimI OKM (F12_keyOf_0 h 0 x1i x2i x3i x4i) (G12_keyOf_0 (rd h) x1 x2 x3 x4) := by
  subst ex1 ex2 ex3 ex4
  unfold F12_keyOf_0 G12_keyOf_0
  refine sm_rd (m_gR_12_55 H) ?_
  refine sgxI fun c1 => ?_
  refine sm_rd (m_aI_12_55 H (z3_add (z3_mul l3_5 rfl) rfl) c1).1 ?_
  refine sm_rd (m_gR_12_34 H) ?_
  refine sgxI fun c2 => ?_
  refine sm_rd (m_aI_12_34 H rfl c2).1 ?_
  refine sm_II (S12_peakAt H rfl ((m_aI_12_34 H rfl c2).2)) fun vo9 ho9 Ho9 ro9 => ?_
  refine sm_II (S12_far Ho9 rfl ((m_aI_12_55 H (z3_add (z3_mul l3_5 rfl) rfl) c1).2) rfl ro9) fun vo11 ho11 Ho11 ro11 => ?_
  refine sm_if (z3_eq rfl l3_0 qx4 lr3_0) ?_ ?_
  · exact sm_retI Ho11 rfl ro11
  · refine sm_if (z3_eq rfl l3_1 qx4 lr3_1) ?_ ?_
    · refine sm_rd (m_gR_12_56 Ho11) ?_
      refine sgxI fun c3 => ?_
      refine sm_rd (m_aI_12_56 Ho11 (z3_add (z3_mul l3_5 rfl) rfl) c3).1 ?_
      exact sm_retI Ho11 rfl (m_aI_12_56 Ho11 (z3_add (z3_mul l3_5 rfl) rfl) c3).2
    · refine sm_if (z3_eq rfl l3_3 qx4 lr3_3) ?_ ?_
      · refine sm_rd (m_gI_12_12 Ho11).1 ?_
        refine sm_if (z3_eq rfl l3_0 (m_gI_12_12 Ho11).2 lr3_0) ?_ ?_
        · exact smI_none _
        · refine sgdI fun c4 => ?_
          refine sg3I fun c5 => ?_
          exact sm_retI Ho11 (z3_neg (z3_div rfl rfl (m_aI_12_55 H (z3_add (z3_mul l3_5 rfl) rfl) c1).2 (m_gI_12_12 Ho11).2 c4)) c5
      · exact S12_keyOf_76 1024 Ho11 rfl qx1 rfl qx2 rfl qx3 rfl ro11 l3_0 lr3_0 l3_0 lr3_0
theorem S12_keyOf {h : PH} (H : OKM h) {x1i : Int32} {x1 : Int} (ex1 : x1i = Z3 x1) (qx1 : r3 x1) {x2i : Int32} {x2 : Int} (ex2 : x2i = Z3 x2) (qx2 : r3 x2) {x3i : Int32} {x3 : Int} (ex3 : x3i = Z3 x3) (qx3 : r3 x3) {x4i : Int32} {x4 : Int} (ex4 : x4i = Z3 x4) (qx4 : r3 x4) : SimI OKM (F12_keyOf h 0 x1i x2i x3i x4i) (G12_keyOf (rd h) x1 x2 x3 x4) := by
  subst ex1 ex2 ex3 ex4
  unfold F12_keyOf G12_keyOf
  refine sm_cd (m_ok_12 H) ?_
  exact S12_keyOf_0 H rfl qx1 rfl qx2 rfl qx3 rfl qx4
theorem S12_layOrder_96 {k8 : PH → Nat → Int32 → Int32 → Int32 → Int32 → Option PH} {kk8 : Mem → Int → Int → Int → Int → Option Mem} (hk8 : ∀ {h : PH} (_ : OKM h) {x2 : Int32} {y2 : Int} (_ : x2 = Z3 y2) (_ : r3 y2) {x3 : Int32} {y3 : Int} (_ : x3 = Z3 y3) (_ : r3 y3) {x4 : Int32} {y4 : Int} (_ : x4 = Z3 y4) (_ : r3 y4) {x5 : Int32} {y5 : Int} (_ : x5 = Z3 y5) (_ : r3 y5), SimV OKM (k8 h 0 x2 x3 x4 x5) (kk8 (rd h) y2 y3 y4 y5)) {h : PH} (H : OKM h) {x1i : Int32} {x1 : Int} (ex1 : x1i = Z3 x1) (qx1 : r3 x1) {x2i : Int32} {x2 : Int} (ex2 : x2i = Z3 x2) (qx2 : r3 x2) {x3i : Int32} {x3 : Int} (ex3 : x3i = Z3 x3) (qx3 : r3 x3) {x4i : Int32} {x4 : Int} (ex4 : x4i = Z3 x4) (qx4 : r3 x4) {x6i : Int32} {x6 : Int} (ex6 : x6i = Z3 x6) (qx6 : r3 x6) : SimV OKM (F12_layOrder_96 k8 h 0 x1i x2i x3i x4i x6i) (G12_layOrder_96 kk8 (rd h) x1 x2 x3 x4 x6) := by
  subst ex1 ex2 ex3 ex4 ex6
  unfold F12_layOrder_96 G12_layOrder_96
  refine sm_rd (m_gR_12_68 H) ?_
  refine sgxV fun c1 => ?_
  refine sm_wt (m_sI_12_68 H rfl c1 rfl qx4) fun h4 Hh4 => ?_
  refine sm_rd (m_gI_12_69 Hh4).1 ?_
  refine sg3V fun c2 => ?_
  refine sm_wt (m_pI_12_69 Hh4 (z3_add rfl l3_1) c2) fun h7 Hh7 => ?_
  refine sg3V fun c3 => ?_
  exact hk8 Hh7 rfl qx1 rfl qx2 rfl qx3 (z3_add rfl l3_1) c3
theorem S12_layOrder_48 {k8 : PH → Nat → Int32 → Int32 → Int32 → Int32 → Option PH} {kk8 : Mem → Int → Int → Int → Int → Option Mem} (hk8 : ∀ {h : PH} (_ : OKM h) {x2 : Int32} {y2 : Int} (_ : x2 = Z3 y2) (_ : r3 y2) {x3 : Int32} {y3 : Int} (_ : x3 = Z3 y3) (_ : r3 y3) {x4 : Int32} {y4 : Int} (_ : x4 = Z3 y4) (_ : r3 y4) {x5 : Int32} {y5 : Int} (_ : x5 = Z3 y5) (_ : r3 y5), SimV OKM (k8 h 0 x2 x3 x4 x5) (kk8 (rd h) y2 y3 y4 y5)) (n : Nat) : ∀ {h : PH} (H : OKM h) {x1i : Int32} {x1 : Int} (ex1 : x1i = Z3 x1) (qx1 : r3 x1) {x2i : Int32} {x2 : Int} (ex2 : x2i = Z3 x2) (qx2 : r3 x2) {x3i : Int32} {x3 : Int} (ex3 : x3i = Z3 x3) (qx3 : r3 x3) {x4i : Int32} {x4 : Int} (ex4 : x4i = Z3 x4) (qx4 : r3 x4) {x5i : Int32} {x5 : Int} (ex5 : x5i = Z3 x5) (qx5 : r3 x5) {x6i : Int32} {x6 : Int} (ex6 : x6i = Z3 x6) (qx6 : r3 x6), SimV OKM (F12_layOrder_48 k8 n h 0 x1i x2i x3i x4i x5i x6i) (G12_layOrder_48 kk8 n (rd h) x1 x2 x3 x4 x5 x6) := by
  induction n with
  | zero => intros; exact smV_none _
  | succ n ih =>
    intro h H x1i x1 ex1 qx1 x2i x2 ex2 qx2 x3i x3 ex3 qx3 x4i x4 ex4 qx4 x5i x5 ex5 qx5 x6i x6 ex6 qx6
    subst ex1 ex2 ex3 ex4 ex5 ex6
    rw [F12_layOrder_48, G12_layOrder_48]
    refine sm_if (z3_le rfl l3_0 qx6 lr3_0) ?_ ?_
    · exact S12_layOrder_96 hk8 H rfl qx1 rfl qx2 rfl qx3 rfl qx4 rfl qx6
    · refine sm_rd (m_gR_12_68 H) ?_
      refine sgxV fun c1 => ?_
      refine sm_rd (m_aI_12_68 H (z3_sub rfl l3_1) c1).1 ?_
      refine sm_IV (S12_keyOf H rfl qx1 rfl ((m_aI_12_68 H (z3_sub rfl l3_1) c1).2) rfl qx2 rfl qx3) fun vo6 ho6 Ho6 ro6 => ?_
      refine sm_if (z3_le rfl rfl ro6 qx5) ?_ ?_
      · exact S12_layOrder_96 hk8 Ho6 rfl qx1 rfl qx2 rfl qx3 rfl qx4 rfl qx6
      · refine sm_rd (m_gR_12_68 Ho6) ?_
        refine sm_rd (m_gR_12_68 Ho6) ?_
        refine sgxV fun c2 => ?_
        refine sm_rd (m_aI_12_68 Ho6 (z3_sub rfl l3_1) c2).1 ?_
        refine sgxV fun c3 => ?_
        refine sm_wt (m_sI_12_68 Ho6 rfl c3 rfl (m_aI_12_68 Ho6 (z3_sub rfl l3_1) c2).2) fun h16 Hh16 => ?_
        refine sg3V fun c4 => ?_
        exact ih Hh16 rfl qx1 rfl qx2 rfl qx3 rfl qx4 rfl qx5 (z3_add rfl l3_m1) c4
theorem S12_layOrder_8 (n : Nat) : ∀ {h : PH} (H : OKM h) {x1i : Int32} {x1 : Int} (ex1 : x1i = Z3 x1) (qx1 : r3 x1) {x2i : Int32} {x2 : Int} (ex2 : x2i = Z3 x2) (qx2 : r3 x2) {x3i : Int32} {x3 : Int} (ex3 : x3i = Z3 x3) (qx3 : r3 x3) {x4i : Int32} {x4 : Int} (ex4 : x4i = Z3 x4) (qx4 : r3 x4), SimV OKM (F12_layOrder_8 n h 0 x1i x2i x3i x4i) (G12_layOrder_8 n (rd h) x1 x2 x3 x4) := by
  induction n with
  | zero => intros; exact smV_none _
  | succ n ih =>
    intro h H x1i x1 ex1 qx1 x2i x2 ex2 qx2 x3i x3 ex3 qx3 x4i x4 ex4 qx4
    subst ex1 ex2 ex3 ex4
    rw [F12_layOrder_8, G12_layOrder_8]
    refine sm_rd (m_gI_12_14 H).1 ?_
    refine sm_if (z3_le rfl rfl (m_gI_12_14 H).2 qx4) ?_ ?_
    · exact sm_retV H
    · refine sm_IV (S12_isGoing H rfl qx1 rfl qx4 rfl qx2) fun vo4 ho4 Ho4 ro4 => ?_
      refine sm_if (z3_eq rfl l3_0 ro4 lr3_0) ?_ ?_
      · refine sg3V fun c1 => ?_
        exact ih Ho4 rfl qx1 rfl qx2 rfl qx3 (z3_add rfl l3_1) c1
      · refine sm_IV (S12_keyOf Ho4 rfl qx1 rfl qx4 rfl qx2 rfl qx3) fun vo7 ho7 Ho7 ro7 => ?_
        refine sm_rd (m_gI_12_69 Ho7).1 ?_
        exact S12_layOrder_48 (@fun _ H _ _ ex1 qx1 _ _ ex2 qx2 _ _ ex3 qx3 _ _ ex4 qx4 => ih H ex1 qx1 ex2 qx2 ex3 qx3 ex4 qx4) 1024 Ho7 rfl qx1 rfl qx2 rfl qx3 rfl qx4 rfl ro7 rfl ((m_gI_12_69 Ho7).2)
theorem S12_layOrder_0 {h : PH} (H : OKM h) {x1i : Int32} {x1 : Int} (ex1 : x1i = Z3 x1) (qx1 : r3 x1) {x2i : Int32} {x2 : Int} (ex2 : x2i = Z3 x2) (qx2 : r3 x2) {x3i : Int32} {x3 : Int} (ex3 : x3i = Z3 x3) (qx3 : r3 x3) : SimV OKM (F12_layOrder_0 h 0 x1i x2i x3i) (G12_layOrder_0 (rd h) x1 x2 x3) := by
  subst ex1 ex2 ex3
  unfold F12_layOrder_0 G12_layOrder_0
  refine sm_wt (m_pI_12_69 H l3_0 lr3_0) fun h1 Hh1 => ?_
  exact S12_layOrder_8 1024 Hh1 rfl qx1 rfl qx2 rfl qx3 l3_0 lr3_0
theorem S12_layOrder {h : PH} (H : OKM h) {x1i : Int32} {x1 : Int} (ex1 : x1i = Z3 x1) (qx1 : r3 x1) {x2i : Int32} {x2 : Int} (ex2 : x2i = Z3 x2) (qx2 : r3 x2) {x3i : Int32} {x3 : Int} (ex3 : x3i = Z3 x3) (qx3 : r3 x3) : SimV OKM (F12_layOrder h 0 x1i x2i x3i) (G12_layOrder (rd h) x1 x2 x3) := by
  subst ex1 ex2 ex3
  unfold F12_layOrder G12_layOrder
  refine sm_cd (m_ok_12 H) ?_
  exact S12_layOrder_0 H rfl qx1 rfl qx2 rfl qx3
theorem S12_number1_0 {h : PH} (H : OKM h) {x1i : Int32} {x1 : Int} (ex1 : x1i = Z3 x1) (qx1 : r3 x1) : SimI OKM (F12_number1_0 h 0 x1i) (G12_number1_0 (rd h) x1) := by
  subst ex1
  unfold F12_number1_0 G12_number1_0
  refine sm_rd (m_gJ_12_65 H).1 ?_
  refine sm_wt (m_pJ_12_65 H (z6_an (z6_add (z6_mul rfl l6_1103515245) l6_12345) l6_2147483647) (r6_of _)) fun h3 Hh3 => ?_
  refine sm_rd (m_gJ_12_65 Hh3).1 ?_
  refine sm_if (z6_eq (z3_to6 rfl qx1) l6_0 (r3_6 qx1) lr6_0) ?_ ?_
  · exact smI_none _
  · refine sg6I fun c1 => ?_
    refine sg3I fun c2 => ?_
    exact sm_retI Hh3 (z6_to3 (z6_rem (z6_div rfl l6_65536 (m_gJ_12_65 Hh3).2 lr6_65536) (z3_to6 rfl qx1) c1 (r3_6 qx1))) c2
theorem S12_number1 {h : PH} (H : OKM h) {x1i : Int32} {x1 : Int} (ex1 : x1i = Z3 x1) (qx1 : r3 x1) : SimI OKM (F12_number1 h 0 x1i) (G12_number1 (rd h) x1) := by
  subst ex1
  unfold F12_number1 G12_number1
  refine sm_cd (m_ok_12 H) ?_
  exact S12_number1_0 H rfl qx1
theorem S12_awayOf_0 {h : PH} (H : OKM h) {x1i : Int32} {x1 : Int} (ex1 : x1i = Z3 x1) (qx1 : r3 x1) {x2i : Int32} {x2 : Int} (ex2 : x2i = Z3 x2) (qx2 : r3 x2) : SimI OKM (F12_awayOf_0 h 0 x1i x2i) (G12_awayOf_0 (rd h) x1 x2) := by
  subst ex1 ex2
  unfold F12_awayOf_0 G12_awayOf_0
  refine sm_II (S12_boardOf H rfl qx1) fun vo1 ho1 Ho1 ro1 => ?_
  refine sm_rd (m_gR_12_34 Ho1) ?_
  refine sgxI fun c1 => ?_
  refine sm_rd (m_aI_12_34 Ho1 rfl c1).1 ?_
  refine sm_VI (S12_layNames Ho1 l3_0 lr3_0 l3_0 lr3_0 rfl ro1 rfl qx2 rfl ((m_aI_12_34 Ho1 rfl c1).2)) fun ho7 Ho7 => ?_
  refine sm_II (S12_boundLaw Ho7 l3_2 lr3_2 l3_5 lr3_5 l3_1 lr3_1 l3_30 lr3_30) fun vo9 ho9 Ho9 ro9 => ?_
  exact sm_retI Ho9 rfl ro9
theorem S12_awayOf {h : PH} (H : OKM h) {x1i : Int32} {x1 : Int} (ex1 : x1i = Z3 x1) (qx1 : r3 x1) {x2i : Int32} {x2 : Int} (ex2 : x2i = Z3 x2) (qx2 : r3 x2) : SimI OKM (F12_awayOf h 0 x1i x2i) (G12_awayOf (rd h) x1 x2) := by
  subst ex1 ex2
  unfold F12_awayOf G12_awayOf
  refine sm_cd (m_ok_12 H) ?_
  exact S12_awayOf_0 H rfl qx1 rfl qx2
theorem S12_goesAway_0 {h : PH} (H : OKM h) {x1i : Int32} {x1 : Int} (ex1 : x1i = Z3 x1) (qx1 : r3 x1) {x2i : Int32} {x2 : Int} (ex2 : x2i = Z3 x2) (qx2 : r3 x2) {x3i : Int32} {x3 : Int} (ex3 : x3i = Z3 x3) (qx3 : r3 x3) {x4i : Int32} {x4 : Int} (ex4 : x4i = Z3 x4) (qx4 : r3 x4) : SimV OKM (F12_goesAway_0 h 0 x1i x2i x3i x4i) (G12_goesAway_0 (rd h) x1 x2 x3 x4) := by
  subst ex1 ex2 ex3 ex4
  unfold F12_goesAway_0 G12_goesAway_0
  refine sm_rd (m_gR_12_58 H) ?_
  refine sm_rd (m_gR_12_61 H) ?_
  refine sgxV fun c1 => ?_
  refine sm_rd (m_aI_12_61 H rfl c1).1 ?_
  refine sm_IV (S12_awayOf H rfl qx2 rfl qx3) fun vo7 ho7 Ho7 ro7 => ?_
  refine sgxV fun c2 => ?_
  refine sg3V fun c3 => ?_
  refine sm_wt (m_sI_12_58 Ho7 (z3_add (z3_mul l3_5 rfl) rfl) c2 (z3_add rfl (z3_mul rfl rfl)) c3) fun h10 Hh10 => ?_
  exact sm_retV Hh10
