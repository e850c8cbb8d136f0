/-! The pure functions do so (written by wip/gen/gx.py). -/
theorem S12_stroke {h : PH} (H : OKM h) {x1i : Int32} {x1 : Int} (ex1 : x1i = Z3 x1) (qx1 : r3 x1) {x2i : Int32} {x2 : Int} (ex2 : x2i = Z3 x2) (qx2 : r3 x2) : SimI OKM (F12_stroke h 0 x1i x2i) (G12_stroke (rd h) x1 x2) := by
  subst ex1 ex2
  unfold F12_stroke G12_stroke
  refine sm_cd (m_ok_12 H) ?_
  exact S12_stroke_0 H rfl qx1 rfl qx2
theorem S12_table_43 {h : PH} (H : OKM h) {x1i : Int32} {x1 : Int} (ex1 : x1i = Z3 x1) (qx1 : r3 x1) {x2i : Int32} {x2 : Int} (ex2 : x2i = Z3 x2) (qx2 : r3 x2) {x3i : Int32} {x3 : Int} (ex3 : x3i = Z3 x3) (qx3 : r3 x3) : SimI OKM (F12_table_43 h 0 x1i x2i x3i) (G12_table_43 (rd h) x1 x2 x3) := by
  subst ex1 ex2 ex3
  unfold F12_table_43 G12_table_43
  refine sm_VI (S12_run H rfl qx1 rfl qx2) fun ho1 Ho1 => ?_
  refine sm_if (z3_le l3_5 rfl lr3_5 qx3) ?_ ?_
  · refine sm_if (z3_eq rfl l3_5 qx3 lr3_5) ?_ ?_
    · refine sm_rd (m_gR_12_62 Ho1) ?_
      refine sm_rd (m_aI_12_62 Ho1 l3_1 ⟨by decide, by decide⟩).1 ?_
      exact sm_retI Ho1 rfl (m_aI_12_62 Ho1 l3_1 ⟨by decide, by decide⟩).2
    · refine sm_if (z3_eq rfl l3_6 qx3 lr3_6) ?_ ?_
      · refine sm_rd (m_gR_12_63 Ho1) ?_
        refine sm_rd (m_aI_12_63 Ho1 l3_1 ⟨by decide, by decide⟩).1 ?_
        exact sm_retI Ho1 rfl (m_aI_12_63 Ho1 l3_1 ⟨by decide, by decide⟩).2
      · refine sm_II (S12_unlike Ho1 l3_1 lr3_1) fun vo6 ho6 Ho6 ro6 => ?_
        exact sm_retI Ho6 rfl ro6
  · refine sm_rd (m_gR_12_56 Ho1) ?_
    refine sgxI fun c1 => ?_
    refine sm_rd (m_aI_12_56 Ho1 (z3_add l3_5 rfl) c1).1 ?_
    exact sm_retI Ho1 rfl (m_aI_12_56 Ho1 (z3_add l3_5 rfl) c1).2
theorem S12_table_0 {h : PH} (H : OKM h) {x1i : Int32} {x1 : Int} (ex1 : x1i = Z3 x1) (qx1 : r3 x1) {x2i : Int32} {x2 : Int} (ex2 : x2i = Z3 x2) (qx2 : r3 x2) {x3i : Int32} {x3 : Int} (ex3 : x3i = Z3 x3) (qx3 : r3 x3) : SimI OKM (F12_table_0 h 0 x1i x2i x3i) (G12_table_0 (rd h) x1 x2 x3) := by
  subst ex1 ex2 ex3
  unfold F12_table_0 G12_table_0
  refine sm_wt (m_pI_12_2 H l3_0 lr3_0) fun h1 Hh1 => ?_
  refine sm_II (S12_isIn Hh1 rfl qx1 l3_0 lr3_0 l3_3 lr3_3) fun vo3 ho3 Ho3 ro3 => ?_
  refine sm_if (z3_eq rfl l3_0 ro3 lr3_0) ?_ ?_
  · exact sm_retI Ho3 l3_m1 lr3_m1
  · refine sm_if (z3_lt rfl l3_0 qx2 lr3_0) ?_ ?_
    · exact sm_retI Ho3 l3_m1 lr3_m1
    · refine sm_II (S12_isIn Ho3 rfl qx3 l3_0 lr3_0 l3_7 lr3_7) fun vo7 ho7 Ho7 ro7 => ?_
      refine sm_if (z3_eq rfl l3_0 ro7 lr3_0) ?_ ?_
      · exact sm_retI Ho7 l3_m1 lr3_m1
      · refine sm_if (z3_le l3_5 rfl lr3_5 qx3) ?_ ?_
        · exact S12_table_43 Ho7 rfl qx1 rfl qx2 rfl qx3
        · refine sm_rd (m_gI_12_14 Ho7).1 ?_
          refine sm_if (z3_lt rfl rfl qx3 (m_gI_12_14 Ho7).2) ?_ ?_
          · exact S12_table_43 Ho7 rfl qx1 rfl qx2 rfl qx3
          · exact sm_retI Ho7 l3_m1 lr3_m1
theorem S12_table {h : PH} (H : OKM h) {x1i : Int32} {x1 : Int} (ex1 : x1i = Z3 x1) (qx1 : r3 x1) {x2i : Int32} {x2 : Int} (ex2 : x2i = Z3 x2) (qx2 : r3 x2) {x3i : Int32} {x3 : Int} (ex3 : x3i = Z3 x3) (qx3 : r3 x3) : SimI OKM (F12_table h 0 x1i x2i x3i) (G12_table (rd h) x1 x2 x3) := by
  subst ex1 ex2 ex3
  unfold F12_table G12_table
  refine sm_cd (m_ok_12 H) ?_
  exact S12_table_0 H rfl qx1 rfl qx2 rfl qx3
theorem S12_text_55 (n : Nat) : ∀ {h : PH} (H : OKM h) {x2i : Int32} {x2 : Int} (ex2 : x2i = Z3 x2) (qx2 : r3 x2), SimI OKM (F12_text_55 n h 0 x2i) (G12_text_55 n (rd h) x2) := by
  induction n with
  | zero => intros; exact smI_none _
  | succ n ih =>
    intro h H x2i x2 ex2 qx2
    subst ex2
    rw [F12_text_55, G12_text_55]
    refine sm_rd (m_gI_12_8 H).1 ?_
    refine sm_if (z3_eq rfl l3_0 (m_gI_12_8 H).2 lr3_0) ?_ ?_
    · refine sm_VI (S12_keepText H) fun ho4 Ho4 => ?_
      exact sm_retI Ho4 rfl qx2
    · refine sm_II (S12_lineRead H) fun vo6 ho6 Ho6 ro6 => ?_
      refine sm_if (z3_eq rfl l3_0 ro6 lr3_0) ?_ ?_
      · exact sm_retI Ho6 l3_m1 lr3_m1
      · refine sg3I fun c1 => ?_
        exact ih Ho6 (z3_add rfl l3_1) c1
theorem S12_text_0 {h : PH} (H : OKM h) {x1i : Int32} {x1 : Int} (ex1 : x1i = Z3 x1) (qx1 : r3 x1) : SimI OKM (F12_text_0 h 0 x1i) (G12_text_0 (rd h) x1) := by
  subst ex1
  unfold F12_text_0 G12_text_0
  refine sm_wt (m_pI_12_2 H l3_0 lr3_0) fun h1 Hh1 => ?_
  refine sm_if (z3_lt rfl l3_0 qx1 lr3_0) ?_ ?_
  · exact sm_retI Hh1 l3_m2 lr3_m2
  · refine sm_rd (m_gI_12_1 Hh1).1 ?_
    refine sm_if (z3_le rfl rfl qx1 (m_gI_12_1 Hh1).2) ?_ ?_
    · refine sm_wt (m_pI_12_6 Hh1 rfl qx1) fun h7 Hh7 => ?_
      refine sm_wt (m_pI_12_1 Hh7 l3_0 lr3_0) fun h9 Hh9 => ?_
      refine sm_wt (m_pI_12_4 Hh9 l3_0 lr3_0) fun h11 Hh11 => ?_
      refine sm_wt (m_pI_12_5 Hh11 l3_m1 lr3_m1) fun h13 Hh13 => ?_
      refine sm_wt (m_pI_12_7 Hh13 l3_0 lr3_0) fun h15 Hh15 => ?_
      refine sm_VI (S12_plain Hh15) fun ho17 Ho17 => ?_
      refine sm_VI (S12_token Ho17) fun ho19 Ho19 => ?_
      exact S12_text_55 1024 Ho19 l3_0 lr3_0
    · exact sm_retI Hh1 l3_m2 lr3_m2
theorem S12_text {h : PH} (H : OKM h) {x1i : Int32} {x1 : Int} (ex1 : x1i = Z3 x1) (qx1 : r3 x1) : SimI OKM (F12_text h 0 x1i) (G12_text (rd h) x1) := by
  subst ex1
  unfold F12_text G12_text
  refine sm_cd (m_ok_12 H) ?_
  exact S12_text_0 H rfl qx1
theorem S12_tried_111 {h : PH} (H : OKM h) {j4i : Int64} {j4 : Int} (ej4 : j4i = Z6 j4) (qj4 : r6 j4) : SimI OKM (F12_tried_111 h 0 j4i) (G12_tried_111 (rd h) j4) := by
  subst ej4
  unfold F12_tried_111 G12_tried_111
  refine sm_rd (m_gI_12_64 H).1 ?_
  refine sm_VI (S12_goesOn H rfl ((m_gI_12_64 H).2)) fun ho3 Ho3 => ?_
  refine sm_wt (m_pI_12_66 Ho3 l3_m1 lr3_m1) fun h5 Hh5 => ?_
  refine sm_wt (m_pJ_12_65 Hh5 rfl qj4) fun h7 Hh7 => ?_
  refine sm_II (S12_allHad Hh7 l3_1 lr3_1) fun vo9 ho9 Ho9 ro9 => ?_
  exact sm_retI Ho9 rfl ro9
theorem S12_tried_76 (n : Nat) : ∀ {h : PH} (H : OKM h) {x1i : Int32} {x1 : Int} (ex1 : x1i = Z3 x1) (qx1 : r3 x1) {x2i : Int32} {x2 : Int} (ex2 : x2i = Z3 x2) (qx2 : r3 x2) {j4i : Int64} {j4 : Int} (ej4 : j4i = Z6 j4) (qj4 : r6 j4) {x6i : Int32} {x6 : Int} (ex6 : x6i = Z3 x6) (qx6 : r3 x6), SimI OKM (F12_tried_76 n h 0 x1i x2i j4i x6i) (G12_tried_76 n (rd h) x1 x2 j4 x6) := by
  induction n with
  | zero => intros; exact smI_none _
  | succ n ih =>
    intro h H x1i x1 ex1 qx1 x2i x2 ex2 qx2 j4i j4 ej4 qj4 x6i x6 ex6 qx6
    subst ex1 ex2 ej4 ex6
    rw [F12_tried_76, G12_tried_76]
    refine sm_rd (m_gI_12_14 H).1 ?_
    refine sm_if (z3_le rfl rfl (m_gI_12_14 H).2 qx6) ?_ ?_
    · exact S12_tried_111 H rfl qj4
    · refine sm_if (z3_eq rfl l3_4 qx1 lr3_4) ?_ ?_
      · refine sm_rd (m_gR_12_55 H) ?_
        refine sm_rd (m_gR_12_55 H) ?_
        refine sgxI fun c1 => ?_
        refine sm_rd (m_aI_12_55 H rfl c1).1 ?_
        refine sgxI fun c2 => ?_
        refine sm_wt (m_sI_12_55 H (z3_add l3_5 rfl) c2 rfl (m_aI_12_55 H rfl c1).2) fun h12 Hh12 => ?_
        refine sg3I fun c3 => ?_
        exact ih Hh12 rfl qx1 rfl qx2 rfl qj4 (z3_add rfl l3_1) c3
      · exact S12_tried_111 H rfl qj4
theorem S12_tried_47 {h : PH} (H : OKM h) {x1i : Int32} {x1 : Int} (ex1 : x1i = Z3 x1) (qx1 : r3 x1) {x2i : Int32} {x2 : Int} (ex2 : x2i = Z3 x2) (qx2 : r3 x2) {x3i : Int32} {x3 : Int} (ex3 : x3i = Z3 x3) (qx3 : r3 x3) : SimI OKM (F12_tried_47 h 0 x1i x2i x3i) (G12_tried_47 (rd h) x1 x2 x3) := by
  subst ex1 ex2 ex3
  unfold F12_tried_47 G12_tried_47
  refine sm_rd (m_gJ_12_65 H).1 ?_
  refine sm_wt (m_pJ_12_65 H (z3_to6 rfl qx3) (r3_6 qx3)) fun h3 Hh3 => ?_
  refine sm_VI (S12_layTried Hh3) fun ho5 Ho5 => ?_
  refine sm_wt (m_pI_12_66 Ho5 rfl qx1) fun h7 Hh7 => ?_
  refine sm_wt (m_pI_12_67 Hh7 rfl qx2) fun h9 Hh9 => ?_
  exact S12_tried_76 1024 Hh9 rfl qx1 rfl qx2 rfl ((m_gJ_12_65 H).2) l3_0 lr3_0
theorem S12_tried_30 {h : PH} (H : OKM h) {x1i : Int32} {x1 : Int} (ex1 : x1i = Z3 x1) (qx1 : r3 x1) {x2i : Int32} {x2 : Int} (ex2 : x2i = Z3 x2) (qx2 : r3 x2) {x3i : Int32} {x3 : Int} (ex3 : x3i = Z3 x3) (qx3 : r3 x3) : SimI OKM (F12_tried_30 h 0 x1i x2i x3i) (G12_tried_30 (rd h) x1 x2 x3) := by
  subst ex1 ex2 ex3
  unfold F12_tried_30 G12_tried_30
  refine sm_II (S12_isSurfer H rfl qx2) fun vo1 ho1 Ho1 ro1 => ?_
  refine sm_if (z3_eq rfl l3_0 ro1 lr3_0) ?_ ?_
  · exact sm_retI Ho1 l3_m1 lr3_m1
  · exact S12_tried_47 Ho1 rfl qx1 rfl qx2 rfl qx3
theorem S12_tried_0 {h : PH} (H : OKM h) {x1i : Int32} {x1 : Int} (ex1 : x1i = Z3 x1) (qx1 : r3 x1) {x2i : Int32} {x2 : Int} (ex2 : x2i = Z3 x2) (qx2 : r3 x2) {x3i : Int32} {x3 : Int} (ex3 : x3i = Z3 x3) (qx3 : r3 x3) : SimI OKM (F12_tried_0 h 0 x1i x2i x3i) (G12_tried_0 (rd h) x1 x2 x3) := by
  subst ex1 ex2 ex3
  unfold F12_tried_0 G12_tried_0
  refine sm_wt (m_pI_12_2 H l3_0 lr3_0) fun h1 Hh1 => ?_
  refine sm_II (S12_isIn Hh1 rfl qx1 l3_0 lr3_0 l3_4 lr3_4) fun vo3 ho3 Ho3 ro3 => ?_
  refine sm_if (z3_eq rfl l3_0 ro3 lr3_0) ?_ ?_
  · exact sm_retI Ho3 l3_m1 lr3_m1
  · refine sm_if (z3_le l3_0 rfl lr3_0 qx3) ?_ ?_
    · refine sm_if (z3_eq rfl l3_1 qx1 lr3_1) ?_ ?_
      · exact S12_tried_30 Ho3 rfl qx1 rfl qx2 rfl qx3
      · refine sm_if (z3_eq rfl l3_4 qx1 lr3_4) ?_ ?_
        · exact S12_tried_30 Ho3 rfl qx1 rfl qx2 rfl qx3
        · refine sm_if (z3_eq rfl l3_0 qx2 lr3_0) ?_ ?_
          · exact S12_tried_47 Ho3 rfl qx1 rfl qx2 rfl qx3
          · exact sm_retI Ho3 l3_m1 lr3_m1
    · exact sm_retI Ho3 l3_m1 lr3_m1
theorem S12_tried {h : PH} (H : OKM h) {x1i : Int32} {x1 : Int} (ex1 : x1i = Z3 x1) (qx1 : r3 x1) {x2i : Int32} {x2 : Int} (ex2 : x2i = Z3 x2) (qx2 : r3 x2) {x3i : Int32} {x3 : Int} (ex3 : x3i = Z3 x3) (qx3 : r3 x3) : SimI OKM (F12_tried h 0 x1i x2i x3i) (G12_tried (rd h) x1 x2 x3) := by
  subst ex1 ex2 ex3
  unfold F12_tried G12_tried
  refine sm_cd (m_ok_12 H) ?_
  exact S12_tried_0 H rfl qx1 rfl qx2 rfl qx3
theorem S12_undo_26 (n : Nat) : ∀ {h : PH} (H : OKM h) {x1i : Int32} {x1 : Int} (ex1 : x1i = Z3 x1) (qx1 : r3 x1), SimI OKM (F12_undo_26 n h 0 x1i) (G12_undo_26 n (rd h) x1) := by
  induction n with
  | zero => intros; exact smI_none _
  | succ n ih =>
    intro h H x1i x1 ex1 qx1
    subst ex1
    rw [F12_undo_26, G12_undo_26]
    refine sm_if (z3_le l3_5 rfl lr3_5 qx1) ?_ ?_
    · refine sm_rd (m_gR_12_79 H) ?_
      refine sm_rd (m_gI_12_78 H).1 ?_
      refine sgxI fun c1 => ?_
      refine sm_rd (m_aI_12_79 H (z3_add (z3_mul l3_11 rfl) l3_10) c1).1 ?_
      refine sm_wt (m_pI_12_64 H rfl (m_aI_12_79 H (z3_add (z3_mul l3_11 rfl) l3_10) c1).2) fun h8 Hh8 => ?_
      refine sm_rd (m_gI_12_78 Hh8).1 ?_
      exact sm_retI Hh8 rfl (m_gI_12_78 Hh8).2
    · refine sm_rd (m_gR_12_55 H) ?_
      refine sm_rd (m_gR_12_79 H) ?_
      refine sm_rd (m_gI_12_78 H).1 ?_
      refine sgxI fun c2 => ?_
      refine sm_rd (m_aI_12_79 H (z3_add (z3_mul l3_11 rfl) rfl) c2).1 ?_
      refine sgxI fun c3 => ?_
      refine sm_wt (m_sI_12_55 H rfl c3 rfl (m_aI_12_79 H (z3_add (z3_mul l3_11 rfl) rfl) c2).2) fun h21 Hh21 => ?_
      refine sm_rd (m_gR_12_59 Hh21) ?_
      refine sm_rd (m_gR_12_79 Hh21) ?_
      refine sm_rd (m_gI_12_78 Hh21).1 ?_
      refine sgxI fun c4 => ?_
      refine sm_rd (m_aI_12_79 Hh21 (z3_add (z3_add (z3_mul l3_11 rfl) l3_5) rfl) c4).1 ?_
      refine sgxI fun c5 => ?_
      refine sm_wt (m_sI_12_59 Hh21 rfl c5 rfl (m_aI_12_79 Hh21 (z3_add (z3_add (z3_mul l3_11 rfl) l3_5) rfl) c4).2) fun h31 Hh31 => ?_
      refine sg3I fun c6 => ?_
      exact ih Hh31 (z3_add rfl l3_1) c6
theorem S12_undo_0 {h : PH} (H : OKM h) : SimI OKM (F12_undo_0 h 0) (G12_undo_0 (rd h)) := by
  unfold F12_undo_0 G12_undo_0
  refine sm_wt (m_pI_12_2 H l3_0 lr3_0) fun h1 Hh1 => ?_
  refine sm_rd (m_gI_12_78 Hh1).1 ?_
  refine sm_if (z3_eq rfl l3_0 (m_gI_12_78 Hh1).2 lr3_0) ?_ ?_
  · exact sm_retI Hh1 l3_m1 lr3_m1
  · refine sm_rd (m_gI_12_78 Hh1).1 ?_
    refine sg3I fun c1 => ?_
    refine sm_wt (m_pI_12_78 Hh1 (z3_sub rfl l3_1) c1) fun h8 Hh8 => ?_
    exact S12_undo_26 1024 Hh8 l3_0 lr3_0
theorem S12_undo {h : PH} (H : OKM h) : SimI OKM (F12_undo h 0) (G12_undo (rd h)) := by
  unfold F12_undo G12_undo
  refine sm_cd (m_ok_12 H) ?_
  exact S12_undo_0 H
theorem S12_wave_0 {h : PH} (H : OKM h) {x1i : Int32} {x1 : Int} (ex1 : x1i = Z3 x1) (qx1 : r3 x1) {x2i : Int32} {x2 : Int} (ex2 : x2i = Z3 x2) (qx2 : r3 x2) : SimI OKM (F12_wave_0 h 0 x1i x2i) (G12_wave_0 (rd h) x1 x2) := by
  subst ex1 ex2
  unfold F12_wave_0 G12_wave_0
  refine sm_wt (m_pI_12_2 H l3_0 lr3_0) fun h1 Hh1 => ?_
  refine sm_II (S12_isWave Hh1 rfl qx1) fun vo3 ho3 Ho3 ro3 => ?_
  refine sm_if (z3_eq rfl l3_0 ro3 lr3_0) ?_ ?_
  · exact sm_retI Ho3 l3_m4 lr3_m4
  · refine sm_if (z3_eq rfl l3_0 qx2 lr3_0) ?_ ?_
    · refine sm_rd (m_gR_12_34 Ho3) ?_
      refine sgxI fun c1 => ?_
      refine sm_rd (m_aI_12_34 Ho3 rfl c1).1 ?_
      exact sm_retI Ho3 rfl (m_aI_12_34 Ho3 rfl c1).2
    · refine sm_if (z3_eq rfl l3_1 qx2 lr3_1) ?_ ?_
      · refine sm_rd (m_gR_12_35 Ho3) ?_
        refine sgxI fun c2 => ?_
        refine sm_rd (m_aI_12_35 Ho3 rfl c2).1 ?_
        exact sm_retI Ho3 rfl (m_aI_12_35 Ho3 rfl c2).2
      · refine sm_if (z3_eq rfl l3_2 qx2 lr3_2) ?_ ?_
        · refine sm_rd (m_gR_12_36 Ho3) ?_
          refine sgxI fun c3 => ?_
          refine sm_rd (m_aI_12_36 Ho3 rfl c3).1 ?_
          exact sm_retI Ho3 rfl (m_aI_12_36 Ho3 rfl c3).2
        · refine sm_if (z3_eq rfl l3_3 qx2 lr3_3) ?_ ?_
          · refine sm_rd (m_gR_12_33 Ho3) ?_
            refine sm_rd (m_gR_12_36 Ho3) ?_
            refine sgxI fun c4 => ?_
            refine sm_rd (m_aI_12_36 Ho3 rfl c4).1 ?_
            refine sgxI fun c5 => ?_
            refine sm_rd (m_aI_12_33 Ho3 rfl c5).1 ?_
            refine sg3I fun c6 => ?_
            exact sm_retI Ho3 (z3_add (z3_sub rfl rfl) l3_1) c6
          · refine sm_if (z3_eq rfl l3_4 qx2 lr3_4) ?_ ?_
            · refine sm_rd (m_gR_12_60 Ho3) ?_
              refine sgxI fun c7 => ?_
              refine sm_rd (m_aI_12_60 Ho3 rfl c7).1 ?_
              exact sm_retI Ho3 rfl (m_aI_12_60 Ho3 rfl c7).2
            · exact sm_retI Ho3 l3_m4 lr3_m4
theorem S12_wave {h : PH} (H : OKM h) {x1i : Int32} {x1 : Int} (ex1 : x1i = Z3 x1) (qx1 : r3 x1) {x2i : Int32} {x2 : Int} (ex2 : x2i = Z3 x2) (qx2 : r3 x2) : SimI OKM (F12_wave h 0 x1i x2i) (G12_wave (rd h) x1 x2) := by
  subst ex1 ex2
  unfold F12_wave G12_wave
  refine sm_cd (m_ok_12 H) ?_
  exact S12_wave_0 H rfl qx1 rfl qx2
