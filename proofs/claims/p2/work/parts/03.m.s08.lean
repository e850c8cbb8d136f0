/-! The pure functions do so (written by wip/gen/gx.py). -/
theorem S12_keepText_0 {h : PH} (H : OKM h) : SimV OKM (F12_keepText_0 h 0) (G12_keepText_0 (rd h)) := by
  unfold F12_keepText_0 G12_keepText_0
  refine sm_rd (m_gI_12_18 H).1 ?_
  refine sm_wt (m_pI_12_12 H rfl (m_gI_12_18 H).2) fun h3 Hh3 => ?_
  refine sm_rd (m_gI_12_19 Hh3).1 ?_
  refine sm_wt (m_pI_12_13 Hh3 rfl (m_gI_12_19 Hh3).2) fun h7 Hh7 => ?_
  refine sm_rd (m_gI_12_20 Hh7).1 ?_
  refine sm_wt (m_pI_12_14 Hh7 rfl (m_gI_12_20 Hh7).2) fun h11 Hh11 => ?_
  refine sm_rd (m_gI_12_21 Hh11).1 ?_
  refine sm_wt (m_pI_12_15 Hh11 rfl (m_gI_12_21 Hh11).2) fun h15 Hh15 => ?_
  refine sm_rd (m_gI_12_22 Hh15).1 ?_
  refine sm_wt (m_pI_12_16 Hh15 rfl (m_gI_12_22 Hh15).2) fun h19 Hh19 => ?_
  refine sm_rd (m_gI_12_23 Hh19).1 ?_
  refine sm_wt (m_pI_12_17 Hh19 rfl (m_gI_12_23 Hh19).2) fun h23 Hh23 => ?_
  refine sm_rd (m_gR_12_26 Hh23) ?_
  refine sm_VV (S12_copies Hh23 (anyM_4) l3_7 lr3_7) fun ho27 Ho27 => ?_
  refine sm_rd (m_gR_12_27 Ho27) ?_
  refine sm_VV (S12_copies Ho27 (anyM_5) l3_5 lr3_5) fun ho31 Ho31 => ?_
  refine sm_rd (m_gR_12_28 Ho31) ?_
  refine sm_VV (S12_copies Ho31 (anyM_6) l3_5 lr3_5) fun ho35 Ho35 => ?_
  refine sm_rd (m_gR_12_29 Ho35) ?_
  refine sm_VV (S12_copies Ho35 (anyM_7) l3_5 lr3_5) fun ho39 Ho39 => ?_
  refine sm_rd (m_gR_12_30 Ho39) ?_
  refine sm_VV (S12_copies Ho39 (anyM_8) l3_5 lr3_5) fun ho43 Ho43 => ?_
  refine sm_rd (m_gR_12_31 Ho43) ?_
  refine sm_VV (S12_copies Ho43 (anyM_9) l3_5 lr3_5) fun ho47 Ho47 => ?_
  refine sm_rd (m_gR_12_32 Ho47) ?_
  refine sm_VV (S12_copies Ho47 (anyM_10) l3_5 lr3_5) fun ho51 Ho51 => ?_
  refine sm_rd (m_gR_12_33 Ho51) ?_
  refine sm_VV (S12_copies Ho51 (anyM_11) l3_4 lr3_4) fun ho55 Ho55 => ?_
  refine sm_rd (m_gR_12_34 Ho55) ?_
  refine sm_VV (S12_copies Ho55 (anyM_12) l3_28 lr3_28) fun ho59 Ho59 => ?_
  refine sm_rd (m_gR_12_35 Ho59) ?_
  refine sm_VV (S12_copies Ho59 (anyM_13) l3_28 lr3_28) fun ho63 Ho63 => ?_
  refine sm_rd (m_gR_12_36 Ho63) ?_
  refine sm_VV (S12_copies Ho63 (anyM_14) l3_28 lr3_28) fun ho67 Ho67 => ?_
  exact S12_keepText_142 1024 Ho67 l3_0 lr3_0
theorem S12_keepText {h : PH} (H : OKM h) : SimV OKM (F12_keepText h 0) (G12_keepText (rd h)) := by
  unfold F12_keepText G12_keepText
  refine sm_cd (m_ok_12 H) ?_
  exact S12_keepText_0 H
theorem S12_isCell_0 {h : PH} (H : OKM h) {x1i : Int32} {x1 : Int} (ex1 : x1i = Z3 x1) (qx1 : r3 x1) : SimI OKM (F12_isCell_0 h 0 x1i) (G12_isCell_0 (rd h) x1) := by
  subst ex1
  unfold F12_isCell_0 G12_isCell_0
  refine sm_if (z3_lt rfl l3_0 qx1 lr3_0) ?_ ?_
  · exact sm_rz H l3_0 (by decide)
  · refine sm_II (S12_cells H) fun vo2 ho2 Ho2 ro2 => ?_
    refine sm_if (z3_le rfl rfl ro2 qx1) ?_ ?_
    · exact sm_rz Ho2 l3_0 (by decide)
    · exact sm_rz Ho2 l3_1 (by decide)
theorem S12_isCell {h : PH} (H : OKM h) {x1i : Int32} {x1 : Int} (ex1 : x1i = Z3 x1) (qx1 : r3 x1) : SimI OKM (F12_isCell h 0 x1i) (G12_isCell (rd h) x1) := by
  subst ex1
  unfold F12_isCell G12_isCell
  refine sm_cd (m_ok_12 H) ?_
  exact S12_isCell_0 H rfl qx1
theorem S12_isCounted_0 {h : PH} (H : OKM h) : SimI OKM (F12_isCounted_0 h 0) (G12_isCounted_0 (rd h)) := by
  unfold F12_isCounted_0 G12_isCounted_0
  refine sm_rd (m_gI_12_49 H).1 ?_
  refine sm_if (z3_eq rfl l3_64 (m_gI_12_49 H).2 lr3_64) ?_ ?_
  · refine sm_II (S12_wrong H l3_2 lr3_2) fun vo8 ho8 Ho8 ro8 => ?_
    refine sgbI fun c1 => ?_
    exact sm_rz Ho8 rfl c1
  · refine sm_rd (m_gI_12_49 H).1 ?_
    refine sg3I fun c2 => ?_
    refine sm_wt (m_pI_12_49 H (z3_add rfl l3_1) c2) fun h6 Hh6 => ?_
    exact sm_rz Hh6 l3_1 (by decide)
theorem S12_isCounted {h : PH} (H : OKM h) : SimI OKM (F12_isCounted h 0) (G12_isCounted (rd h)) := by
  unfold F12_isCounted G12_isCounted
  refine sm_cd (m_ok_12 H) ?_
  exact S12_isCounted_0 H
theorem S12_isKey_0 {h : PH} (H : OKM h) {x1i : Int32} {x1 : Int} (ex1 : x1i = Z3 x1) (qx1 : r3 x1) : SimI OKM (F12_isKey_0 h 0 x1i) (G12_isKey_0 (rd h) x1) := by
  subst ex1
  unfold F12_isKey_0 G12_isKey_0
  refine sm_rd (m_gI_12_8 H).1 ?_
  refine sm_if (z3_eq rfl l3_1 (m_gI_12_8 H).2 lr3_1) ?_ ?_
  · refine sm_rd (m_gI_12_9 H).1 ?_
    refine sm_if (z3_eq rfl rfl (m_gI_12_9 H).2 qx1) ?_ ?_
    · exact sm_rz H l3_1 (by decide)
    · exact sm_rz H l3_0 (by decide)
  · exact sm_rz H l3_0 (by decide)
theorem S12_isKey {h : PH} (H : OKM h) {x1i : Int32} {x1 : Int} (ex1 : x1i = Z3 x1) (qx1 : r3 x1) : SimI OKM (F12_isKey h 0 x1i) (G12_isKey (rd h) x1) := by
  subst ex1
  unfold F12_isKey G12_isKey
  refine sm_cd (m_ok_12 H) ?_
  exact S12_isKey_0 H rfl qx1
theorem S12_isRest_13 (n : Nat) : ∀ {h : PH} (H : OKM h) {x1i : Int32} {x1 : Int} (ex1 : x1i = Z3 x1) (qx1 : r3 x1) {x2i : Int32} {x2 : Int} (ex2 : x2i = Z3 x2) (qx2 : r3 x2), SimI OKM (F12_isRest_13 n h 0 x1i x2i) (G12_isRest_13 n (rd h) x1 x2) := by
  induction n with
  | zero => intros; exact smI_none _
  | succ n ih =>
    intro h H x1i x1 ex1 qx1 x2i x2 ex2 qx2
    subst ex1 ex2
    rw [F12_isRest_13, G12_isRest_13]
    refine sm_if (z3_le l3_5 rfl lr3_5 qx2) ?_ ?_
    · exact sm_rz H l3_1 (by decide)
    · refine sm_rd (m_gR_12_70 H) ?_
      refine sgdI fun c1 => ?_
      refine sgxI fun c2 => ?_
      refine sm_rd (m_aI_12_70 H (z3_add (z3_mul l3_5 rfl) (z3_rem rfl l3_5 qx1 lr3_5 c1)) c2).1 ?_
      refine sm_rd (m_gR_12_70 H) ?_
      refine sgxI fun c3 => ?_
      refine sm_rd (m_aI_12_70 H rfl c3).1 ?_
      refine sm_if (z3_lt rfl rfl (m_aI_12_70 H rfl c3).2 (m_aI_12_70 H (z3_add (z3_mul l3_5 rfl) (z3_rem rfl l3_5 qx1 lr3_5 c1)) c2).2) ?_ ?_
      · exact sm_rz H l3_0 (by decide)
      · refine sm_rd (m_gR_12_71 H) ?_
        refine sgdI fun c4 => ?_
        refine sgxI fun c5 => ?_
        refine sm_rd (m_aI_12_71 H (z3_add (z3_mul (z3_div rfl l3_5 qx1 lr3_5 c4) l3_5) rfl) c5).1 ?_
        refine sm_rd (m_gR_12_71 H) ?_
        refine sgxI fun c6 => ?_
        refine sm_rd (m_aI_12_71 H rfl c6).1 ?_
        refine sm_if (z3_le rfl rfl (m_aI_12_71 H (z3_add (z3_mul (z3_div rfl l3_5 qx1 lr3_5 c4) l3_5) rfl) c5).2 (m_aI_12_71 H rfl c6).2) ?_ ?_
        · refine sg3I fun c7 => ?_
          exact ih H rfl qx1 (z3_add rfl l3_1) c7
        · exact sm_rz H l3_0 (by decide)
theorem S12_isRest_0 {h : PH} (H : OKM h) {x1i : Int32} {x1 : Int} (ex1 : x1i = Z3 x1) (qx1 : r3 x1) : SimI OKM (F12_isRest_0 h 0 x1i) (G12_isRest_0 (rd h) x1) := by
  subst ex1
  unfold F12_isRest_0 G12_isRest_0
  refine sm_rd (m_gR_12_70 H) ?_
  refine sgxI fun c1 => ?_
  refine sm_rd (m_aI_12_70 H rfl c1).1 ?_
  refine sm_if (z3_le l3_0 rfl lr3_0 (m_aI_12_70 H rfl c1).2) ?_ ?_
  · exact S12_isRest_13 1024 H rfl qx1 l3_0 lr3_0
  · exact sm_rz H l3_0 (by decide)
theorem S12_isRest {h : PH} (H : OKM h) {x1i : Int32} {x1 : Int} (ex1 : x1i = Z3 x1) (qx1 : r3 x1) : SimI OKM (F12_isRest h 0 x1i) (G12_isRest (rd h) x1) := by
  subst ex1
  unfold F12_isRest G12_isRest
  refine sm_cd (m_ok_12 H) ?_
  exact S12_isRest_0 H rfl qx1
theorem S12_isSign_0 {h : PH} (H : OKM h) {x1i : Int32} {x1 : Int} (ex1 : x1i = Z3 x1) (qx1 : r3 x1) : SimI OKM (F12_isSign_0 h 0 x1i) (G12_isSign_0 (rd h) x1) := by
  subst ex1
  unfold F12_isSign_0 G12_isSign_0
  refine sm_rd (m_gI_12_8 H).1 ?_
  refine sm_if (z3_eq rfl l3_4 (m_gI_12_8 H).2 lr3_4) ?_ ?_
  · refine sm_rd (m_gI_12_9 H).1 ?_
    refine sm_if (z3_eq rfl rfl (m_gI_12_9 H).2 qx1) ?_ ?_
    · exact sm_rz H l3_1 (by decide)
    · exact sm_rz H l3_0 (by decide)
  · exact sm_rz H l3_0 (by decide)
theorem S12_isSign {h : PH} (H : OKM h) {x1i : Int32} {x1 : Int} (ex1 : x1i = Z3 x1) (qx1 : r3 x1) : SimI OKM (F12_isSign h 0 x1i) (G12_isSign (rd h) x1) := by
  subst ex1
  unfold F12_isSign G12_isSign
  refine sm_cd (m_ok_12 H) ?_
  exact S12_isSign_0 H rfl qx1
theorem S12_keep_96 (n : Nat) : ∀ {h : PH} (H : OKM h) {x1i : Int32} {x1 : Int} (ex1 : x1i = Z3 x1) (qx1 : r3 x1), SimI OKM (F12_keep_96 n h 0 x1i) (G12_keep_96 n (rd h) x1) := by
  induction n with
  | zero => intros; exact smI_none _
  | succ n ih =>
    intro h H x1i x1 ex1 qx1
    subst ex1
    rw [F12_keep_96, G12_keep_96]
    refine sm_if (z3_le l3_28 rfl lr3_28 qx1) ?_ ?_
    · refine sm_rd (m_gR_12_61 H) ?_
      refine sm_rd (m_aI_12_61 H l3_0 ⟨by decide, by decide⟩).1 ?_
      refine sm_wt (m_pI_12_82 H rfl (m_aI_12_61 H l3_0 ⟨by decide, by decide⟩).2) fun h6 Hh6 => ?_
      refine sm_rd (m_gI_12_64 Hh6).1 ?_
      refine sm_wt (m_pI_12_83 Hh6 rfl (m_gI_12_64 Hh6).2) fun h10 Hh10 => ?_
      refine sm_rd (m_gR_12_62 Hh10) ?_
      refine sm_rd (m_aI_12_62 Hh10 l3_0 ⟨by decide, by decide⟩).1 ?_
      refine sm_wt (m_pI_12_84 Hh10 rfl (m_aI_12_62 Hh10 l3_0 ⟨by decide, by decide⟩).2) fun h16 Hh16 => ?_
      refine sm_rd (m_gR_12_63 Hh16) ?_
      refine sm_rd (m_aI_12_63 Hh16 l3_0 ⟨by decide, by decide⟩).1 ?_
      refine sm_wt (m_pI_12_85 Hh16 rfl (m_aI_12_63 Hh16 l3_0 ⟨by decide, by decide⟩).2) fun h22 Hh22 => ?_
      refine sm_rd (m_gJ_12_65 Hh22).1 ?_
      refine sm_wt (m_pJ_12_86 Hh22 rfl (m_gJ_12_65 Hh22).2) fun h26 Hh26 => ?_
      refine sm_rd (m_gR_12_61 Hh26) ?_
      refine sm_rd (m_aI_12_61 Hh26 l3_0 ⟨by decide, by decide⟩).1 ?_
      exact sm_retI Hh26 rfl (m_aI_12_61 Hh26 l3_0 ⟨by decide, by decide⟩).2
    · refine sm_rd (m_gR_12_81 H) ?_
      refine sm_rd (m_gR_12_60 H) ?_
      refine sgxI fun c1 => ?_
      refine sm_rd (m_aI_12_60 H rfl c1).1 ?_
      refine sgxI fun c2 => ?_
      refine sm_wt (m_sI_12_81 H (z3_add l3_25 rfl) c2 rfl (m_aI_12_60 H rfl c1).2) fun h39 Hh39 => ?_
      refine sg3I fun c3 => ?_
      exact ih Hh39 (z3_add rfl l3_1) c3
theorem S12_keep_12 (n : Nat) : ∀ {h : PH} (H : OKM h) {x1i : Int32} {x1 : Int} (ex1 : x1i = Z3 x1) (qx1 : r3 x1), SimI OKM (F12_keep_12 n h 0 x1i) (G12_keep_12 n (rd h) x1) := by
  induction n with
  | zero => intros; exact smI_none _
  | succ n ih =>
    intro h H x1i x1 ex1 qx1
    subst ex1
    rw [F12_keep_12, G12_keep_12]
    refine sm_if (z3_le l3_5 rfl lr3_5 qx1) ?_ ?_
    · exact S12_keep_96 1024 H l3_0 lr3_0
    · refine sm_rd (m_gR_12_81 H) ?_
      refine sm_rd (m_gR_12_55 H) ?_
      refine sgxI fun c1 => ?_
      refine sm_rd (m_aI_12_55 H rfl c1).1 ?_
      refine sgxI fun c2 => ?_
      refine sm_wt (m_sI_12_81 H rfl c2 rfl (m_aI_12_55 H rfl c1).2) fun h9 Hh9 => ?_
      refine sm_rd (m_gR_12_81 Hh9) ?_
      refine sm_rd (m_gR_12_56 Hh9) ?_
      refine sgxI fun c3 => ?_
      refine sm_rd (m_aI_12_56 Hh9 rfl c3).1 ?_
      refine sgxI fun c4 => ?_
      refine sm_wt (m_sI_12_81 Hh9 (z3_add l3_5 rfl) c4 rfl (m_aI_12_56 Hh9 rfl c3).2) fun h17 Hh17 => ?_
      refine sm_rd (m_gR_12_81 Hh17) ?_
      refine sm_rd (m_gR_12_57 Hh17) ?_
      refine sgxI fun c5 => ?_
      refine sm_rd (m_aI_12_57 Hh17 rfl c5).1 ?_
      refine sgxI fun c6 => ?_
      refine sm_wt (m_sI_12_81 Hh17 (z3_add l3_10 rfl) c6 rfl (m_aI_12_57 Hh17 rfl c5).2) fun h25 Hh25 => ?_
      refine sm_rd (m_gR_12_81 Hh25) ?_
      refine sm_rd (m_gR_12_58 Hh25) ?_
      refine sgxI fun c7 => ?_
      refine sm_rd (m_aI_12_58 Hh25 rfl c7).1 ?_
      refine sgxI fun c8 => ?_
      refine sm_wt (m_sI_12_81 Hh25 (z3_add l3_15 rfl) c8 rfl (m_aI_12_58 Hh25 rfl c7).2) fun h33 Hh33 => ?_
      refine sm_rd (m_gR_12_81 Hh33) ?_
      refine sm_rd (m_gR_12_59 Hh33) ?_
      refine sgxI fun c9 => ?_
      refine sm_rd (m_aI_12_59 Hh33 rfl c9).1 ?_
      refine sgxI fun c10 => ?_
      refine sm_wt (m_sI_12_81 Hh33 (z3_add l3_20 rfl) c10 rfl (m_aI_12_59 Hh33 rfl c9).2) fun h41 Hh41 => ?_
      refine sg3I fun c11 => ?_
      exact ih Hh41 (z3_add rfl l3_1) c11
theorem S12_keep_0 {h : PH} (H : OKM h) : SimI OKM (F12_keep_0 h 0) (G12_keep_0 (rd h)) := by
  unfold F12_keep_0 G12_keep_0
  refine sm_wt (m_pI_12_2 H l3_0 lr3_0) fun h1 Hh1 => ?_
  refine sm_wt (m_pZ_12_80 Hh1 l3_1 (by decide)) fun h3 Hh3 => ?_
  exact S12_keep_12 1024 Hh3 l3_0 lr3_0
theorem S12_keep {h : PH} (H : OKM h) : SimI OKM (F12_keep h 0) (G12_keep (rd h)) := by
  unfold F12_keep G12_keep
  refine sm_cd (m_ok_12 H) ?_
  exact S12_keep_0 H
theorem S12_known_0 {h : PH} (H : OKM h) {x1i : Int32} {x1 : Int} (ex1 : x1i = Z3 x1) (qx1 : r3 x1) : SimI OKM (F12_known_0 h 0 x1i) (G12_known_0 (rd h) x1) := by
  subst ex1
  unfold F12_known_0 G12_known_0
  refine sm_wt (m_pI_12_2 H l3_0 lr3_0) fun h1 Hh1 => ?_
  refine sm_rd (m_gI_12_74 Hh1).1 ?_
  refine sm_II (S12_isIn Hh1 rfl qx1 l3_m1 lr3_m1 rfl ((m_gI_12_74 Hh1).2)) fun vo5 ho5 Ho5 ro5 => ?_
  refine sm_if (z3_eq rfl l3_0 ro5 lr3_0) ?_ ?_
  · exact sm_rz Ho5 l3_0 (by decide)
  · refine sm_wt (m_pI_12_75 Ho5 rfl qx1) fun h8 Hh8 => ?_
    exact sm_rz Hh8 l3_1 (by decide)
theorem S12_known {h : PH} (H : OKM h) {x1i : Int32} {x1 : Int} (ex1 : x1i = Z3 x1) (qx1 : r3 x1) : SimI OKM (F12_known h 0 x1i) (G12_known (rd h) x1) := by
  subst ex1
  unfold F12_known G12_known
  refine sm_cd (m_ok_12 H) ?_
  exact S12_known_0 H rfl qx1
theorem S12_law_134 {h : PH} (H : OKM h) {x4i : Int32} {x4 : Int} (ex4 : x4i = Z3 x4) (qx4 : r3 x4) : SimJ OKM (F12_law_134 h 0 x4i) (G12_law_134 (rd h) x4) := by
  subst ex4
  unfold F12_law_134 G12_law_134
  refine sm_JJ (S12_lawOf H rfl qx4) fun vo1 ho1 Ho1 ro1 => ?_
  refine sm_rd (m_gI_12_54 Ho1).1 ?_
  refine sm_if (z3_eq rfl l3_0 (m_gI_12_54 Ho1).2 lr3_0) ?_ ?_
  · exact sm_retJ Ho1 rfl ro1
  · exact sm_retJ Ho1 l6_m9223372036854775808 lr6_m9223372036854775808
theorem S12_law_57 {h : PH} (H : OKM h) {x1i : Int32} {x1 : Int} (ex1 : x1i = Z3 x1) (qx1 : r3 x1) {x2i : Int32} {x2 : Int} (ex2 : x2i = Z3 x2) (qx2 : r3 x2) {x3i : Int32} {x3 : Int} (ex3 : x3i = Z3 x3) (qx3 : r3 x3) {s0i : Int32} {s0 : Int} (es0 : s0i = Z3 s0) (qs0 : r3 s0) : SimJ OKM (F12_law_57 h 0 x1i x2i x3i s0i) (G12_law_57 (rd h) x1 x2 x3 s0) := by
  subst ex1 ex2 ex3 es0
  unfold F12_law_57 G12_law_57
  refine sm_rd (m_gR_12_37 H) ?_
  refine sgxJ fun c1 => ?_
  refine sm_rd (m_aI_12_37 H rfl c1).1 ?_
  refine sm_if (z3_eq rfl l3_0 (m_aI_12_37 H rfl c1).2 lr3_0) ?_ ?_
  · exact sm_retJ H l6_m9223372036854775808 lr6_m9223372036854775808
  · refine sm_if (z3_eq rfl l3_0 qx1 lr3_0) ?_ ?_
    · refine sm_rd (m_gR_12_55 H) ?_
      refine sgxJ fun c2 => ?_
      refine sm_rd (m_aI_12_55 H rfl c2).1 ?_
      refine sm_IJ (S12_layCatch H rfl qx2 rfl qx3 rfl ((m_aI_12_55 H rfl c2).2)) fun vo28 ho28 Ho28 ro28 => ?_
      exact S12_law_134 Ho28 rfl qs0
    · refine sm_if (z3_eq rfl l3_1 qx1 lr3_1) ?_ ?_
      · refine sm_rd (m_gR_12_29 H) ?_
        refine sgxJ fun c3 => ?_
        refine sm_rd (m_aI_12_29 H rfl c3).1 ?_
        refine sm_rd (m_gR_12_34 H) ?_
        refine sgxJ fun c4 => ?_
        refine sm_rd (m_aI_12_34 H rfl c4).1 ?_
        refine sm_VJ (S12_layNames H l3_0 lr3_0 l3_0 lr3_0 rfl ((m_aI_12_29 H rfl c3).2) rfl qx3 rfl ((m_aI_12_34 H rfl c4).2)) fun ho22 Ho22 => ?_
        exact S12_law_134 Ho22 rfl qs0
      · refine sm_rd (m_gR_12_61 H) ?_
        refine sm_rd (m_aI_12_61 H l3_0 ⟨by decide, by decide⟩).1 ?_
        refine sm_VJ (S12_layNames H l3_0 lr3_0 l3_0 lr3_0 l3_0 lr3_0 l3_m1 lr3_m1 rfl ((m_aI_12_61 H l3_0 ⟨by decide, by decide⟩).2)) fun ho12 Ho12 => ?_
        exact S12_law_134 Ho12 rfl qs0
theorem S12_law_39 {h : PH} (H : OKM h) {x1i : Int32} {x1 : Int} (ex1 : x1i = Z3 x1) (qx1 : r3 x1) {x2i : Int32} {x2 : Int} (ex2 : x2i = Z3 x2) (qx2 : r3 x2) {x3i : Int32} {x3 : Int} (ex3 : x3i = Z3 x3) (qx3 : r3 x3) : SimJ OKM (F12_law_39 h 0 x1i x2i x3i) (G12_law_39 (rd h) x1 x2 x3) := by
  subst ex1 ex2 ex3
  unfold F12_law_39 G12_law_39
  refine sm_if (z3_eq rfl l3_0 qx1 lr3_0) ?_ ?_
  · exact S12_law_57 H rfl qx1 rfl qx2 rfl qx3 l3_0 lr3_0
  · refine sm_if (z3_eq rfl l3_1 qx1 lr3_1) ?_ ?_
    · exact S12_law_57 H rfl qx1 rfl qx2 rfl qx3 l3_2 lr3_2
    · exact S12_law_57 H rfl qx1 rfl qx2 rfl qx3 l3_1 lr3_1
theorem S12_law_0 {h : PH} (H : OKM h) {x1i : Int32} {x1 : Int} (ex1 : x1i = Z3 x1) (qx1 : r3 x1) {x2i : Int32} {x2 : Int} (ex2 : x2i = Z3 x2) (qx2 : r3 x2) {x3i : Int32} {x3 : Int} (ex3 : x3i = Z3 x3) (qx3 : r3 x3) : SimJ OKM (F12_law_0 h 0 x1i x2i x3i) (G12_law_0 (rd h) x1 x2 x3) := by
  subst ex1 ex2 ex3
  unfold F12_law_0 G12_law_0
  refine sm_wt (m_pI_12_2 H l3_0 lr3_0) fun h1 Hh1 => ?_
  refine sm_IJ (S12_isIn Hh1 rfl qx1 l3_0 lr3_0 l3_2 lr3_2) fun vo3 ho3 Ho3 ro3 => ?_
  refine sm_if (z3_eq rfl l3_0 ro3 lr3_0) ?_ ?_
  · exact sm_retJ Ho3 l6_m9223372036854775808 lr6_m9223372036854775808
  · refine sm_if (z3_le l3_2 rfl lr3_2 qx1) ?_ ?_
    · exact S12_law_39 Ho3 rfl qx1 rfl qx2 rfl qx3
    · refine sm_IJ (S12_isSurfer Ho3 rfl qx2) fun vo7 ho7 Ho7 ro7 => ?_
      refine sm_if (z3_eq rfl l3_0 ro7 lr3_0) ?_ ?_
      · exact sm_retJ Ho7 l6_m9223372036854775808 lr6_m9223372036854775808
      · refine sm_IJ (S12_isWave Ho7 rfl qx3) fun vo10 ho10 Ho10 ro10 => ?_
        refine sm_if (z3_eq rfl l3_0 ro10 lr3_0) ?_ ?_
        · exact sm_retJ Ho10 l6_m9223372036854775808 lr6_m9223372036854775808
        · exact S12_law_39 Ho10 rfl qx1 rfl qx2 rfl qx3
theorem S12_law {h : PH} (H : OKM h) {x1i : Int32} {x1 : Int} (ex1 : x1i = Z3 x1) (qx1 : r3 x1) {x2i : Int32} {x2 : Int} (ex2 : x2i = Z3 x2) (qx2 : r3 x2) {x3i : Int32} {x3 : Int} (ex3 : x3i = Z3 x3) (qx3 : r3 x3) : SimJ OKM (F12_law h 0 x1i x2i x3i) (G12_law (rd h) x1 x2 x3) := by
  subst ex1 ex2 ex3
  unfold F12_law G12_law
  refine sm_cd (m_ok_12 H) ?_
  exact S12_law_0 H rfl qx1 rfl qx2 rfl qx3
theorem S12_wayAt_0 {h : PH} (H : OKM h) {x0i : Int32} {x0 : Int} (ex0 : x0i = Z3 x0) (qx0 : r3 x0) : SimI OKM (F12_wayAt_0 h x0i) (G12_wayAt_0 (rd h) x0) := by
  subst ex0
  unfold F12_wayAt_0 G12_wayAt_0
  refine sm_if (z3_eq rfl l3_0 qx0 lr3_0) ?_ ?_
  · exact sm_retI H l3_4 lr3_4
  · refine sg3I fun c1 => ?_
    exact sm_retI H (z3_sub rfl l3_1) c1
theorem S12_wayAt {h : PH} (H : OKM h) {x0i : Int32} {x0 : Int} (ex0 : x0i = Z3 x0) (qx0 : r3 x0) : SimI OKM (F12_wayAt h x0i) (G12_wayAt (rd h) x0) := by
  subst ex0
  unfold F12_wayAt G12_wayAt
  exact S12_wayAt_0 H rfl qx0
theorem S12_layGame_151 {k2 : PH → Nat → Int32 → Int32 → Int32 → Option PH} {kk2 : Mem → Int → Int → Int → Option Mem} (hk2 : ∀ {h : PH} (_ : OKM h) {x2 : Int32} {y2 : Int} (_ : x2 = Z3 y2) (_ : r3 y2) {x3 : Int32} {y3 : Int} (_ : x3 = Z3 y3) (_ : r3 y3) {x4 : Int32} {y4 : Int} (_ : x4 = Z3 y4) (_ : r3 y4), SimV OKM (k2 h 0 x2 x3 x4) (kk2 (rd h) y2 y3 y4)) {k78 : PH → Nat → Int32 → Int32 → Int32 → Int32 → Int32 → Int32 → Option PH} {kk78 : Mem → Int → Int → Int → Int → Int → Int → Option Mem} (hk78 : ∀ {h : PH} (_ : OKM h) {x2 : Int32} {y2 : Int} (_ : x2 = Z3 y2) (_ : r3 y2) {x3 : Int32} {y3 : Int} (_ : x3 = Z3 y3) (_ : r3 y3) {x4 : Int32} {y4 : Int} (_ : x4 = Z3 y4) (_ : r3 y4) {x5 : Int32} {y5 : Int} (_ : x5 = Z3 y5) (_ : r3 y5) {x6 : Int32} {y6 : Int} (_ : x6 = Z3 y6) (_ : r3 y6) {x7 : Int32} {y7 : Int} (_ : x7 = Z3 y7) (_ : r3 y7), SimV OKM (k78 h 0 x2 x3 x4 x5 x6 x7) (kk78 (rd h) y2 y3 y4 y5 y6 y7)) {h : PH} (H : OKM h) {x1i : Int32} {x1 : Int} (ex1 : x1i = Z3 x1) (qx1 : r3 x1) {x2i : Int32} {x2 : Int} (ex2 : x2i = Z3 x2) (qx2 : r3 x2) {x3i : Int32} {x3 : Int} (ex3 : x3i = Z3 x3) (qx3 : r3 x3) {x4i : Int32} {x4 : Int} (ex4 : x4i = Z3 x4) (qx4 : r3 x4) {x5i : Int32} {x5 : Int} (ex5 : x5i = Z3 x5) (qx5 : r3 x5) {x6i : Int32} {x6 : Int} (ex6 : x6i = Z3 x6) (qx6 : r3 x6) : SimV OKM (F12_layGame_151 k2 k78 h 0 x1i x2i x3i x4i x5i x6i) (G12_layGame_151 kk2 kk78 (rd h) x1 x2 x3 x4 x5 x6) := by
  subst ex1 ex2 ex3 ex4 ex5 ex6
  unfold F12_layGame_151 G12_layGame_151
  refine sm_rd (m_gR_12_70 H) ?_
  refine sgxV fun c1 => ?_
  refine sm_rd (m_aI_12_70 H rfl c1).1 ?_
  refine sm_IV (S12_gainOf H rfl qx1 rfl qx6 rfl qx4) fun vo5 ho5 Ho5 ro5 => ?_
  refine sgxV fun c2 => ?_
  refine sg3V fun c3 => ?_
  refine sm_wt (m_sI_12_70 Ho5 rfl c2 (z3_add rfl rfl) c3) fun h8 Hh8 => ?_
  refine sg3V fun c4 => ?_
  exact hk78 Hh8 rfl qx1 rfl qx2 rfl qx3 rfl qx4 rfl qx5 (z3_add rfl l3_1) c4
theorem S12_layGame_172 {k2 : PH → Nat → Int32 → Int32 → Int32 → Option PH} {kk2 : Mem → Int → Int → Int → Option Mem} (hk2 : ∀ {h : PH} (_ : OKM h) {x2 : Int32} {y2 : Int} (_ : x2 = Z3 y2) (_ : r3 y2) {x3 : Int32} {y3 : Int} (_ : x3 = Z3 y3) (_ : r3 y3) {x4 : Int32} {y4 : Int} (_ : x4 = Z3 y4) (_ : r3 y4), SimV OKM (k2 h 0 x2 x3 x4) (kk2 (rd h) y2 y3 y4)) {k78 : PH → Nat → Int32 → Int32 → Int32 → Int32 → Int32 → Int32 → Option PH} {kk78 : Mem → Int → Int → Int → Int → Int → Int → Option Mem} (hk78 : ∀ {h : PH} (_ : OKM h) {x2 : Int32} {y2 : Int} (_ : x2 = Z3 y2) (_ : r3 y2) {x3 : Int32} {y3 : Int} (_ : x3 = Z3 y3) (_ : r3 y3) {x4 : Int32} {y4 : Int} (_ : x4 = Z3 y4) (_ : r3 y4) {x5 : Int32} {y5 : Int} (_ : x5 = Z3 y5) (_ : r3 y5) {x6 : Int32} {y6 : Int} (_ : x6 = Z3 y6) (_ : r3 y6) {x7 : Int32} {y7 : Int} (_ : x7 = Z3 y7) (_ : r3 y7), SimV OKM (k78 h 0 x2 x3 x4 x5 x6 x7) (kk78 (rd h) y2 y3 y4 y5 y6 y7)) {h : PH} (H : OKM h) {x1i : Int32} {x1 : Int} (ex1 : x1i = Z3 x1) (qx1 : r3 x1) {x2i : Int32} {x2 : Int} (ex2 : x2i = Z3 x2) (qx2 : r3 x2) {x3i : Int32} {x3 : Int} (ex3 : x3i = Z3 x3) (qx3 : r3 x3) {x4i : Int32} {x4 : Int} (ex4 : x4i = Z3 x4) (qx4 : r3 x4) {x5i : Int32} {x5 : Int} (ex5 : x5i = Z3 x5) (qx5 : r3 x5) {x6i : Int32} {x6 : Int} (ex6 : x6i = Z3 x6) (qx6 : r3 x6) : SimV OKM (F12_layGame_172 k2 k78 h 0 x1i x2i x3i x4i x5i x6i) (G12_layGame_172 kk2 kk78 (rd h) x1 x2 x3 x4 x5 x6) := by
  subst ex1 ex2 ex3 ex4 ex5 ex6
  unfold F12_layGame_172 G12_layGame_172
  refine sm_rd (m_gR_12_71 H) ?_
  refine sgxV fun c1 => ?_
  refine sm_rd (m_aI_12_71 H rfl c1).1 ?_
  refine sm_IV (S12_gainOf H rfl qx2 rfl qx6 rfl qx5) fun vo5 ho5 Ho5 ro5 => ?_
  refine sgxV fun c2 => ?_
  refine sg3V fun c3 => ?_
  refine sm_wt (m_sI_12_71 Ho5 rfl c2 (z3_add rfl rfl) c3) fun h8 Hh8 => ?_
  refine sg3V fun c4 => ?_
  exact hk78 Hh8 rfl qx1 rfl qx2 rfl qx3 rfl qx4 rfl qx5 (z3_add rfl l3_1) c4
theorem S12_layGame_78 {k2 : PH → Nat → Int32 → Int32 → Int32 → Option PH} {kk2 : Mem → Int → Int → Int → Option Mem} (hk2 : ∀ {h : PH} (_ : OKM h) {x2 : Int32} {y2 : Int} (_ : x2 = Z3 y2) (_ : r3 y2) {x3 : Int32} {y3 : Int} (_ : x3 = Z3 y3) (_ : r3 y3) {x4 : Int32} {y4 : Int} (_ : x4 = Z3 y4) (_ : r3 y4), SimV OKM (k2 h 0 x2 x3 x4) (kk2 (rd h) y2 y3 y4)) (n : Nat) : ∀ {h : PH} (H : OKM h) {x1i : Int32} {x1 : Int} (ex1 : x1i = Z3 x1) (qx1 : r3 x1) {x2i : Int32} {x2 : Int} (ex2 : x2i = Z3 x2) (qx2 : r3 x2) {x3i : Int32} {x3 : Int} (ex3 : x3i = Z3 x3) (qx3 : r3 x3) {x4i : Int32} {x4 : Int} (ex4 : x4i = Z3 x4) (qx4 : r3 x4) {x5i : Int32} {x5 : Int} (ex5 : x5i = Z3 x5) (qx5 : r3 x5) {x6i : Int32} {x6 : Int} (ex6 : x6i = Z3 x6) (qx6 : r3 x6), SimV OKM (F12_layGame_78 k2 n h 0 x1i x2i x3i x4i x5i x6i) (G12_layGame_78 kk2 n (rd h) x1 x2 x3 x4 x5 x6) := by
  induction n with
  | zero => intros; exact smV_none _
  | succ n ih =>
    intro h H x1i x1 ex1 qx1 x2i x2 ex2 qx2 x3i x3 ex3 qx3 x4i x4 ex4 qx4 x5i x5 ex5 qx5 x6i x6 ex6 qx6
    subst ex1 ex2 ex3 ex4 ex5 ex6
    rw [F12_layGame_78, G12_layGame_78]
    refine sm_rd (m_gI_12_16 H).1 ?_
    refine sm_if (z3_le rfl rfl (m_gI_12_16 H).2 qx6) ?_ ?_
    · refine sg3V fun c1 => ?_
      exact hk2 H rfl qx1 rfl qx2 (z3_add rfl l3_1) c1
    · refine sm_IV (S12_isToCome H rfl qx6) fun vo4 ho4 Ho4 ro4 => ?_
      refine sm_if (z3_eq rfl l3_0 ro4 lr3_0) ?_ ?_
      · refine sg3V fun c2 => ?_
        exact ih Ho4 rfl qx1 rfl qx2 rfl qx3 rfl qx4 rfl qx5 (z3_add rfl l3_1) c2
      · refine sm_rd (m_gR_12_34 Ho4) ?_
        refine sgxV fun c3 => ?_
        refine sm_rd (m_aI_12_34 Ho4 rfl c3).1 ?_
        refine sm_IV (S12_peakAt Ho4 rfl ((m_aI_12_34 Ho4 rfl c3).2)) fun vo11 ho11 Ho11 ro11 => ?_
        refine sm_IV (S12_far Ho11 rfl qx4 rfl ro11) fun vo13 ho13 Ho13 ro13 => ?_
        refine sm_IV (S12_far Ho13 rfl qx5 rfl ro11) fun vo15 ho15 Ho15 ro15 => ?_
        refine sm_if (z3_lt rfl rfl ro13 ro15) ?_ ?_
        · exact S12_layGame_151 hk2 (@fun _ H _ _ ex1 qx1 _ _ ex2 qx2 _ _ ex3 qx3 _ _ ex4 qx4 _ _ ex5 qx5 _ _ ex6 qx6 => ih H ex1 qx1 ex2 qx2 ex3 qx3 ex4 qx4 ex5 qx5 ex6 qx6) Ho15 rfl qx1 rfl qx2 rfl qx3 rfl qx4 rfl qx5 rfl qx6
        · refine sm_if (z3_eq rfl rfl ro13 ro15) ?_ ?_
          · refine sm_if (z3_le rfl rfl qx2 qx1) ?_ ?_
            · exact S12_layGame_172 hk2 (@fun _ H _ _ ex1 qx1 _ _ ex2 qx2 _ _ ex3 qx3 _ _ ex4 qx4 _ _ ex5 qx5 _ _ ex6 qx6 => ih H ex1 qx1 ex2 qx2 ex3 qx3 ex4 qx4 ex5 qx5 ex6 qx6) Ho15 rfl qx1 rfl qx2 rfl qx3 rfl qx4 rfl qx5 rfl qx6
            · exact S12_layGame_151 hk2 (@fun _ H _ _ ex1 qx1 _ _ ex2 qx2 _ _ ex3 qx3 _ _ ex4 qx4 _ _ ex5 qx5 _ _ ex6 qx6 => ih H ex1 qx1 ex2 qx2 ex3 qx3 ex4 qx4 ex5 qx5 ex6 qx6) Ho15 rfl qx1 rfl qx2 rfl qx3 rfl qx4 rfl qx5 rfl qx6
          · exact S12_layGame_172 hk2 (@fun _ H _ _ ex1 qx1 _ _ ex2 qx2 _ _ ex3 qx3 _ _ ex4 qx4 _ _ ex5 qx5 _ _ ex6 qx6 => ih H ex1 qx1 ex2 qx2 ex3 qx3 ex4 qx4 ex5 qx5 ex6 qx6) Ho15 rfl qx1 rfl qx2 rfl qx3 rfl qx4 rfl qx5 rfl qx6
theorem S12_layGame_2 (n : Nat) : ∀ {h : PH} (H : OKM h) {x1i : Int32} {x1 : Int} (ex1 : x1i = Z3 x1) (qx1 : r3 x1) {x2i : Int32} {x2 : Int} (ex2 : x2i = Z3 x2) (qx2 : r3 x2) {x3i : Int32} {x3 : Int} (ex3 : x3i = Z3 x3) (qx3 : r3 x3), SimV OKM (F12_layGame_2 n h 0 x1i x2i x3i) (G12_layGame_2 n (rd h) x1 x2 x3) := by
  induction n with
  | zero => intros; exact smV_none _
  | succ n ih =>
    intro h H x1i x1 ex1 qx1 x2i x2 ex2 qx2 x3i x3 ex3 qx3
    subst ex1 ex2 ex3
    rw [F12_layGame_2, G12_layGame_2]
    refine sm_if (z3_le l3_25 rfl lr3_25 qx3) ?_ ?_
    · exact sm_retV H
    · refine sgdV fun c1 => ?_
      refine sm_IV (S12_wayAt H (z3_div rfl l3_5 qx3 lr3_5 c1) (r3_div qx3 lr3_5 c1)) fun vo2 ho2 Ho2 ro2 => ?_
      refine sm_IV (S12_comesTo Ho2 rfl qx1 rfl ro2) fun vo4 ho4 Ho4 ro4 => ?_
      refine sgdV fun c2 => ?_
      refine sm_IV (S12_wayAt Ho4 (z3_rem rfl l3_5 qx3 lr3_5 c2) (r3_rem qx3 lr3_5 c2)) fun vo6 ho6 Ho6 ro6 => ?_
      refine sm_IV (S12_comesTo Ho6 rfl qx2 rfl ro6) fun vo8 ho8 Ho8 ro8 => ?_
      refine sm_rd (m_gR_12_70 Ho8) ?_
      refine sgxV fun c3 => ?_
      refine sm_wt (m_sI_12_70 Ho8 rfl c3 l3_m1 lr3_m1) fun h13 Hh13 => ?_
      refine sm_rd (m_gR_12_71 Hh13) ?_
      refine sgxV fun c4 => ?_
      refine sm_wt (m_sI_12_71 Hh13 rfl c4 l3_m1 lr3_m1) fun h17 Hh17 => ?_
      refine sm_if (z3_lt rfl l3_0 ro4 lr3_0) ?_ ?_
      · refine sg3V fun c5 => ?_
        exact ih Hh17 rfl qx1 rfl qx2 (z3_add rfl l3_1) c5
      · refine sm_if (z3_le l3_0 rfl lr3_0 ro8) ?_ ?_
        · refine sm_rd (m_gR_12_70 Hh17) ?_
          refine sgxV fun c6 => ?_
          refine sm_wt (m_sI_12_70 Hh17 rfl c6 l3_0 lr3_0) fun h23 Hh23 => ?_
          refine sm_rd (m_gR_12_71 Hh23) ?_
          refine sgxV fun c7 => ?_
          refine sm_wt (m_sI_12_71 Hh23 rfl c7 l3_0 lr3_0) fun h27 Hh27 => ?_
          exact S12_layGame_78 (@fun _ H _ _ ex1 qx1 _ _ ex2 qx2 _ _ ex3 qx3 => ih H ex1 qx1 ex2 qx2 ex3 qx3) 1024 Hh27 rfl qx1 rfl qx2 rfl qx3 rfl ro4 rfl ro8 l3_0 lr3_0
        · refine sg3V fun c8 => ?_
          exact ih Hh17 rfl qx1 rfl qx2 (z3_add rfl l3_1) c8
theorem S12_layGame_0 {h : PH} (H : OKM h) {x1i : Int32} {x1 : Int} (ex1 : x1i = Z3 x1) (qx1 : r3 x1) {x2i : Int32} {x2 : Int} (ex2 : x2i = Z3 x2) (qx2 : r3 x2) : SimV OKM (F12_layGame_0 h 0 x1i x2i) (G12_layGame_0 (rd h) x1 x2) := by
  subst ex1 ex2
  unfold F12_layGame_0 G12_layGame_0
  exact S12_layGame_2 1024 H rfl qx1 rfl qx2 l3_0 lr3_0
theorem S12_layGame {h : PH} (H : OKM h) {x1i : Int32} {x1 : Int} (ex1 : x1i = Z3 x1) (qx1 : r3 x1) {x2i : Int32} {x2 : Int} (ex2 : x2i = Z3 x2) (qx2 : r3 x2) : SimV OKM (F12_layGame h 0 x1i x2i) (G12_layGame (rd h) x1 x2) := by
  subst ex1 ex2
  unfold F12_layGame G12_layGame
  refine sm_cd (m_ok_12 H) ?_
  exact S12_layGame_0 H rfl qx1 rfl qx2
theorem S12_layPlan_124 {k17 : PH → Nat → Int32 → Int32 → Option PH} {kk17 : Mem → Int → Int → Option Mem} (hk17 : ∀ {h : PH} (_ : OKM h) {x2 : Int32} {y2 : Int} (_ : x2 = Z3 y2) (_ : r3 y2) {x3 : Int32} {y3 : Int} (_ : x3 = Z3 y3) (_ : r3 y3), SimV OKM (k17 h 0 x2 x3) (kk17 (rd h) y2 y3)) {h : PH} (H : OKM h) {x1i : Int32} {x1 : Int} (ex1 : x1i = Z3 x1) (qx1 : r3 x1) {x2i : Int32} {x2 : Int} (ex2 : x2i = Z3 x2) (qx2 : r3 x2) {s0i : Int32} {s0 : Int} (es0 : s0i = Z3 s0) (qs0 : r3 s0) {s1i : Int32} {s1 : Int} (es1 : s1i = Z3 s1) (qs1 : r3 s1) : SimV OKM (F12_layPlan_124 k17 h 0 x1i x2i s0i s1i 37) (G12_layPlan_124 kk17 (rd h) x1 x2 s0 s1) := by
  subst ex1 ex2 es0 es1
  unfold F12_layPlan_124 G12_layPlan_124
  refine sgxV fun c1 => ?_
  refine sm_wt (m_sI_12_72 H rfl c1 rfl qs0) fun h2 Hh2 => ?_
  refine sg3V fun c2 => ?_
  exact hk17 Hh2 rfl qx1 (z3_add rfl l3_m1) c2
theorem S12_layPlan_65 {k17 : PH → Nat → Int32 → Int32 → Option PH} {kk17 : Mem → Int → Int → Option Mem} (hk17 : ∀ {h : PH} (_ : OKM h) {x2 : Int32} {y2 : Int} (_ : x2 = Z3 y2) (_ : r3 y2) {x3 : Int32} {y3 : Int} (_ : x3 = Z3 y3) (_ : r3 y3), SimV OKM (k17 h 0 x2 x3) (kk17 (rd h) y2 y3)) {h : PH} (H : OKM h) {x1i : Int32} {x1 : Int} (ex1 : x1i = Z3 x1) (qx1 : r3 x1) {x2i : Int32} {x2 : Int} (ex2 : x2i = Z3 x2) (qx2 : r3 x2) {x3i : Int32} {x3 : Int} (ex3 : x3i = Z3 x3) (qx3 : r3 x3) : SimV OKM (F12_layPlan_65 k17 h 0 x1i x2i x3i) (G12_layPlan_65 kk17 (rd h) x1 x2 x3) := by
  subst ex1 ex2 ex3
  unfold F12_layPlan_65 G12_layPlan_65
  refine sm_rd (m_gR_12_73 H) ?_
  refine sgxV fun c1 => ?_
  refine sm_wt (m_sI_12_73 H rfl c1 rfl qx3) fun h4 Hh4 => ?_
  refine sm_rd (m_gR_12_55 Hh4) ?_
  refine sgxV fun c2 => ?_
  refine sm_rd (m_aI_12_55 Hh4 rfl c2).1 ?_
  refine sm_IV (S12_gainOf Hh4 rfl qx1 rfl qx2 rfl ((m_aI_12_55 Hh4 rfl c2).2)) fun vo9 ho9 Ho9 ro9 => ?_
  refine sm_rd (m_gR_12_72 Ho9) ?_
  refine sgxV fun c3 => ?_
  refine sm_rd (m_aI_12_72 Ho9 rfl c3).1 ?_
  refine sm_rd (m_gR_12_72 Ho9) ?_
  refine sm_rd (m_gR_12_72 Ho9) ?_
  refine sgxV fun c4 => ?_
  refine sm_rd (m_aI_12_72 Ho9 (z3_add rfl l3_1) c4).1 ?_
  refine sg3V fun c5 => ?_
  refine sm_if (z3_lt (z3_add rfl rfl) rfl c5 (m_aI_12_72 Ho9 (z3_add rfl l3_1) c4).2) ?_ ?_
  · refine sm_rd (m_gR_12_72 Ho9) ?_
    refine sgxV fun c6 => ?_
    refine sm_rd (m_aI_12_72 Ho9 (z3_add rfl l3_1) c6).1 ?_
    exact S12_layPlan_124 hk17 Ho9 rfl qx1 rfl qx2 rfl ((m_aI_12_72 Ho9 (z3_add rfl l3_1) c6).2) rfl qx2
  · refine sg3V fun c7 => ?_
    exact S12_layPlan_124 hk17 Ho9 rfl qx1 rfl qx2 (z3_add rfl rfl) c7 rfl qx2
theorem S12_layPlan_33 {k17 : PH → Nat → Int32 → Int32 → Option PH} {kk17 : Mem → Int → Int → Option Mem} (hk17 : ∀ {h : PH} (_ : OKM h) {x2 : Int32} {y2 : Int} (_ : x2 = Z3 y2) (_ : r3 y2) {x3 : Int32} {y3 : Int} (_ : x3 = Z3 y3) (_ : r3 y3), SimV OKM (k17 h 0 x2 x3) (kk17 (rd h) y2 y3)) (n : Nat) : ∀ {h : PH} (H : OKM h) {x1i : Int32} {x1 : Int} (ex1 : x1i = Z3 x1) (qx1 : r3 x1) {x2i : Int32} {x2 : Int} (ex2 : x2i = Z3 x2) (qx2 : r3 x2) {x3i : Int32} {x3 : Int} (ex3 : x3i = Z3 x3) (qx3 : r3 x3) {x4i : Int32} {x4 : Int} (ex4 : x4i = Z3 x4) (qx4 : r3 x4), SimV OKM (F12_layPlan_33 k17 n h 0 x1i x2i x3i x4i) (G12_layPlan_33 kk17 n (rd h) x1 x2 x3 x4) := by
  induction n with
  | zero => intros; exact smV_none _
  | succ n ih =>
    intro h H x1i x1 ex1 qx1 x2i x2 ex2 qx2 x3i x3 ex3 qx3 x4i x4 ex4 qx4
    subst ex1 ex2 ex3 ex4
    rw [F12_layPlan_33, G12_layPlan_33]
    refine sm_rd (m_gI_12_16 H).1 ?_
    refine sm_if (z3_le rfl rfl (m_gI_12_16 H).2 qx3) ?_ ?_
    · exact S12_layPlan_65 hk17 H rfl qx1 rfl qx2 rfl qx3
    · refine sm_rd (m_gR_12_34 H) ?_
      refine sgxV fun c1 => ?_
      refine sm_rd (m_aI_12_34 H rfl c1).1 ?_
      refine sm_rd (m_gR_12_34 H) ?_
      refine sgxV fun c2 => ?_
      refine sm_rd (m_aI_12_34 H rfl c2).1 ?_
      refine sg3V fun c3 => ?_
      refine sm_if (z3_le (z3_add rfl rfl) rfl c3 (m_aI_12_34 H rfl c1).2) ?_ ?_
      · exact S12_layPlan_65 hk17 H rfl qx1 rfl qx2 rfl qx3
      · refine sg3V fun c4 => ?_
        exact ih H rfl qx1 rfl qx2 (z3_add rfl l3_1) c4 rfl qx4
theorem S12_layPlan_17 (n : Nat) : ∀ {h : PH} (H : OKM h) {x1i : Int32} {x1 : Int} (ex1 : x1i = Z3 x1) (qx1 : r3 x1) {x2i : Int32} {x2 : Int} (ex2 : x2i = Z3 x2) (qx2 : r3 x2), SimV OKM (F12_layPlan_17 n h 0 x1i x2i) (G12_layPlan_17 n (rd h) x1 x2) := by
  induction n with
  | zero => intros; exact smV_none _
  | succ n ih =>
    intro h H x1i x1 ex1 qx1 x2i x2 ex2 qx2
    subst ex1 ex2
    rw [F12_layPlan_17, G12_layPlan_17]
    refine sm_if (z3_lt rfl l3_0 qx2 lr3_0) ?_ ?_
    · exact sm_retV H
    · refine sm_IV (S12_awayOf H rfl qx1 rfl qx2) fun vo2 ho2 Ho2 ro2 => ?_
      refine sg3V fun c1 => ?_
      exact S12_layPlan_33 (@fun _ H _ _ ex1 qx1 _ _ ex2 qx2 => ih H ex1 qx1 ex2 qx2) 1024 Ho2 rfl qx1 rfl qx2 (z3_add rfl l3_1) c1 rfl ro2
theorem S12_layPlan_0 {h : PH} (H : OKM h) {x1i : Int32} {x1 : Int} (ex1 : x1i = Z3 x1) (qx1 : r3 x1) : SimV OKM (F12_layPlan_0 h 0 x1i) (G12_layPlan_0 (rd h) x1) := by
  subst ex1
  unfold F12_layPlan_0 G12_layPlan_0
  refine sm_rd (m_gR_12_72 H) ?_
  refine sm_rd (m_gI_12_16 H).1 ?_
  refine sgxV fun c1 => ?_
  refine sm_wt (m_sI_12_72 H rfl c1 l3_0 lr3_0) fun h6 Hh6 => ?_
  refine sm_rd (m_gI_12_16 Hh6).1 ?_
  refine sg3V fun c2 => ?_
  exact S12_layPlan_17 1024 Hh6 rfl qx1 (z3_sub rfl l3_1) c2
theorem S12_layPlan {h : PH} (H : OKM h) {x1i : Int32} {x1 : Int} (ex1 : x1i = Z3 x1) (qx1 : r3 x1) : SimV OKM (F12_layPlan h 0 x1i) (G12_layPlan (rd h) x1) := by
  subst ex1
  unfold F12_layPlan G12_layPlan
  refine sm_cd (m_ok_12 H) ?_
  exact S12_layPlan_0 H rfl qx1
theorem S12_waitsFor_0 {h : PH} (H : OKM h) {x1i : Int32} {x1 : Int} (ex1 : x1i = Z3 x1) (qx1 : r3 x1) : SimV OKM (F12_waitsFor_0 h 0 x1i) (G12_waitsFor_0 (rd h) x1) := by
  subst ex1
  unfold F12_waitsFor_0 G12_waitsFor_0
  refine sm_rd (m_gR_12_44 H) ?_
  refine sm_rd (m_gI_12_46 H).1 ?_
  refine sgxV fun c1 => ?_
  refine sm_wt (m_sI_12_44 H rfl c1 rfl qx1) fun h6 Hh6 => ?_
  refine sm_rd (m_gI_12_46 Hh6).1 ?_
  refine sg3V fun c2 => ?_
  refine sm_wt (m_pI_12_46 Hh6 (z3_add rfl l3_1) c2) fun h9 Hh9 => ?_
  exact sm_retV Hh9
theorem S12_waitsFor {h : PH} (H : OKM h) {x1i : Int32} {x1 : Int} (ex1 : x1i = Z3 x1) (qx1 : r3 x1) : SimV OKM (F12_waitsFor h 0 x1i) (G12_waitsFor (rd h) x1) := by
  subst ex1
  unfold F12_waitsFor G12_waitsFor
  refine sm_cd (m_ok_12 H) ?_
  exact S12_waitsFor_0 H rfl qx1
theorem S12_nameMet_0 {h : PH} (H : OKM h) : SimI OKM (F12_nameMet_0 h 0) (G12_nameMet_0 (rd h)) := by
  unfold F12_nameMet_0 G12_nameMet_0
  refine sm_rd (m_gI_12_8 H).1 ?_
  refine sm_if (z3_eq rfl l3_1 (m_gI_12_8 H).2 lr3_1) ?_ ?_
  · refine sm_rd (m_gI_12_9 H).1 ?_
    refine sm_if (z3_lt rfl l3_18 (m_gI_12_9 H).2 lr3_18) ?_ ?_
    · exact sm_retI H l3_m1 lr3_m1
    · refine sm_rd (m_gI_12_9 H).1 ?_
      refine sg3I fun c1 => ?_
      exact sm_retI H (z3_sub rfl l3_18) c1
  · exact sm_retI H l3_m1 lr3_m1
theorem S12_nameMet {h : PH} (H : OKM h) : SimI OKM (F12_nameMet h 0) (G12_nameMet (rd h)) := by
  unfold F12_nameMet G12_nameMet
  refine sm_cd (m_ok_12 H) ?_
  exact S12_nameMet_0 H
theorem S12_leafRead_160 {h : PH} (H : OKM h) {s0i : Int32} {s0 : Int} (es0 : s0i = Z3 s0) (qs0 : r3 s0) {s1i : Int32} {s1 : Int} (es1 : s1i = Z3 s1) (qs1 : r3 s1) : SimI OKM (F12_leafRead_160 h 0 s0i s1i 0) (G12_leafRead_160 (rd h) s0 s1) := by
  subst es0 es1
  unfold F12_leafRead_160 G12_leafRead_160
  refine sm_VI (S12_grown H rfl qs1 rfl qs0 l3_0 lr3_0) fun ho1 Ho1 => ?_
  refine sm_wt (m_pZ_12_50 Ho1 l3_0 (by decide)) fun h3 Hh3 => ?_
  refine sm_VI (S12_token Hh3) fun ho5 Ho5 => ?_
  exact sm_rz Ho5 l3_1 (by decide)
theorem S12_leafRead_148 {h : PH} (H : OKM h) {x1i : Int32} {x1 : Int} (ex1 : x1i = Z3 x1) (qx1 : r3 x1) {s0i : Int32} {s0 : Int} (es0 : s0i = Z3 s0) (qs0 : r3 s0) : SimI OKM (F12_leafRead_148 h 0 x1i s0i 0) (G12_leafRead_148 (rd h) x1 s0) := by
  subst ex1 es0
  unfold F12_leafRead_148 G12_leafRead_148
  refine sm_if (z3_lt rfl l3_0 qx1 lr3_0) ?_ ?_
  · refine sm_rd (m_gI_12_9 H).1 ?_
    exact S12_leafRead_160 H rfl ((m_gI_12_9 H).2) rfl qs0
  · exact S12_leafRead_160 H rfl qx1 rfl qs0
theorem S12_leafRead_129 {h : PH} (H : OKM h) {x1i : Int32} {x1 : Int} (ex1 : x1i = Z3 x1) (qx1 : r3 x1) : SimI OKM (F12_leafRead_129 h 0 x1i) (G12_leafRead_129 (rd h) x1) := by
  subst ex1
  unfold F12_leafRead_129 G12_leafRead_129
  refine sm_II (S12_isCounted H) fun vo1 ho1 Ho1 ro1 => ?_
  refine sm_if (z3_eq rfl l3_0 ro1 lr3_0) ?_ ?_
  · exact sm_rz Ho1 l3_0 (by decide)
  · refine sm_if (z3_lt rfl l3_0 qx1 lr3_0) ?_ ?_
    · exact S12_leafRead_148 Ho1 rfl qx1 l3_0 lr3_0
    · exact S12_leafRead_148 Ho1 rfl qx1 l3_1 lr3_1
theorem S12_leafRead_109 {h : PH} (H : OKM h) {x1i : Int32} {x1 : Int} (ex1 : x1i = Z3 x1) (qx1 : r3 x1) : SimI OKM (F12_leafRead_109 h 0 x1i) (G12_leafRead_109 (rd h) x1) := by
  subst ex1
  unfold F12_leafRead_109 G12_leafRead_109
  refine sm_if (z3_le l3_0 rfl lr3_0 qx1) ?_ ?_
  · exact S12_leafRead_129 H rfl qx1
  · refine sm_rd (m_gI_12_9 H).1 ?_
    refine sm_if (z3_le rfl l3_9999 (m_gI_12_9 H).2 lr3_9999) ?_ ?_
    · exact S12_leafRead_129 H rfl qx1
    · refine sm_II (S12_wrong H l3_2 lr3_2) fun vo5 ho5 Ho5 ro5 => ?_
      refine sgbI fun c1 => ?_
      exact sm_rz Ho5 rfl c1
theorem S12_leafRead_86 {h : PH} (H : OKM h) : SimI OKM (F12_leafRead_86 h 0) (G12_leafRead_86 (rd h)) := by
  unfold F12_leafRead_86 G12_leafRead_86
  refine sm_II (S12_nameMet H) fun vo1 ho1 Ho1 ro1 => ?_
  refine sm_if (z3_le l3_0 rfl lr3_0 ro1) ?_ ?_
  · exact S12_leafRead_109 Ho1 rfl ro1
  · refine sm_rd (m_gI_12_8 Ho1).1 ?_
    refine sm_if (z3_eq rfl l3_3 (m_gI_12_8 Ho1).2 lr3_3) ?_ ?_
    · exact S12_leafRead_109 Ho1 rfl ro1
    · refine sm_II (S12_wrong Ho1 l3_1 lr3_1) fun vo7 ho7 Ho7 ro7 => ?_
      refine sgbI fun c1 => ?_
      exact sm_rz Ho7 rfl c1
theorem S12_leafRead_0 {h : PH} (H : OKM h) : SimI OKM (F12_leafRead_0 h 0) (G12_leafRead_0 (rd h)) := by
  unfold F12_leafRead_0 G12_leafRead_0
  refine sm_II (S12_isSign H l3_40 lr3_40) fun vo1 ho1 Ho1 ro1 => ?_
  refine sm_if (z3_eq rfl l3_0 ro1 lr3_0) ?_ ?_
  · refine sm_II (S12_isKey Ho1 l3_17 lr3_17) fun vo4 ho4 Ho4 ro4 => ?_
    refine sm_if (z3_eq rfl l3_0 ro4 lr3_0) ?_ ?_
    · exact S12_leafRead_86 Ho4
    · refine sm_rd (m_gI_12_51 Ho4).1 ?_
      refine sm_if (z3_eq rfl l3_0 (m_gI_12_51 Ho4).2 lr3_0) ?_ ?_
      · exact S12_leafRead_86 Ho4
      · refine sm_II (S12_isCounted Ho4) fun vo10 ho10 Ho10 ro10 => ?_
        refine sm_if (z3_eq rfl l3_0 ro10 lr3_0) ?_ ?_
        · exact sm_rz Ho10 l3_0 (by decide)
        · refine sm_VI (S12_waitsFor Ho10 l3_2 lr3_2) fun ho13 Ho13 => ?_
          refine sm_VI (S12_token Ho13) fun ho15 Ho15 => ?_
          exact sm_rz Ho15 l3_1 (by decide)
  · refine sm_rd (m_gI_12_48 Ho1).1 ?_
    refine sm_if (z3_eq rfl l3_8 (m_gI_12_48 Ho1).2 lr3_8) ?_ ?_
    · refine sm_II (S12_wrong Ho1 l3_2 lr3_2) fun vo30 ho30 Ho30 ro30 => ?_
      refine sgbI fun c1 => ?_
      exact sm_rz Ho30 rfl c1
    · refine sm_rd (m_gI_12_48 Ho1).1 ?_
      refine sg3I fun c2 => ?_
      refine sm_wt (m_pI_12_48 Ho1 (z3_add rfl l3_1) c2) fun h22 Hh22 => ?_
      refine sm_VI (S12_waitsFor Hh22 l3_0 lr3_0) fun ho24 Ho24 => ?_
      refine sm_wt (m_pZ_12_51 Ho24 l3_1 (by decide)) fun h26 Hh26 => ?_
      refine sm_VI (S12_token Hh26) fun ho28 Ho28 => ?_
      exact sm_rz Ho28 l3_1 (by decide)
theorem S12_leafRead {h : PH} (H : OKM h) : SimI OKM (F12_leafRead h 0) (G12_leafRead (rd h)) := by
  unfold F12_leafRead G12_leafRead
  refine sm_cd (m_ok_12 H) ?_
  exact S12_leafRead_0 H
theorem S12_seaLine_0 {h : PH} (H : OKM h) : SimI OKM (F12_seaLine_0 h 0) (G12_seaLine_0 (rd h)) := by
  unfold F12_seaLine_0 G12_seaLine_0
  refine sm_rd (m_gR_12_25 H) ?_
  refine sm_rd (m_aI_12_25 H l3_0 ⟨by decide, by decide⟩).1 ?_
  refine sm_if (z3_eq rfl l3_0 (m_aI_12_25 H l3_0 ⟨by decide, by decide⟩).2 lr3_0) ?_ ?_
  · refine sm_rd (m_gI_12_24 H).1 ?_
    refine sm_if (z3_eq rfl l3_0 (m_gI_12_24 H).2 lr3_0) ?_ ?_
    · refine sm_rd (m_gR_12_25 H) ?_
      refine sgbI fun c1 => ?_
      refine sm_wt (m_sI_12_25 H l3_0 ⟨by decide, by decide⟩ (z3_bo l3_1 c1) (r3_b c1)) fun h12 Hh12 => ?_
      refine sm_VI (S12_token Hh12) fun ho13 Ho13 => ?_
      refine sm_II (S12_number Ho13 l3_1 lr3_1 l3_8 lr3_8) fun vo15 ho15 Ho15 ro15 => ?_
      refine sm_if (z3_eq rfl l3_0 ro15 lr3_0) ?_ ?_
      · exact sm_rz Ho15 l3_0 (by decide)
      · refine sm_rd (m_gI_12_11 Ho15).1 ?_
        refine sm_wt (m_pI_12_18 Ho15 rfl (m_gI_12_11 Ho15).2) fun h20 Hh20 => ?_
        refine sm_II (S12_number Hh20 l3_1 lr3_1 l3_6 lr3_6) fun vo22 ho22 Ho22 ro22 => ?_
        refine sm_if (z3_eq rfl l3_0 ro22 lr3_0) ?_ ?_
        · exact sm_rz Ho22 l3_0 (by decide)
        · refine sm_rd (m_gI_12_11 Ho22).1 ?_
          refine sm_wt (m_pI_12_19 Ho22 rfl (m_gI_12_11 Ho22).2) fun h27 Hh27 => ?_
          exact sm_rz Hh27 l3_1 (by decide)
    · refine sm_II (S12_wrong H l3_4 lr3_4) fun vo29 ho29 Ho29 ro29 => ?_
      refine sgbI fun c2 => ?_
      exact sm_rz Ho29 rfl c2
  · refine sm_II (S12_wrong H l3_3 lr3_3) fun vo31 ho31 Ho31 ro31 => ?_
    refine sgbI fun c3 => ?_
    exact sm_rz Ho31 rfl c3
theorem S12_seaLine {h : PH} (H : OKM h) : SimI OKM (F12_seaLine h 0) (G12_seaLine (rd h)) := by
  unfold F12_seaLine G12_seaLine
  refine sm_cd (m_ok_12 H) ?_
  exact S12_seaLine_0 H
theorem S12_surferLine_0 {h : PH} (H : OKM h) : SimI OKM (F12_surferLine_0 h 0) (G12_surferLine_0 (rd h)) := by
  unfold F12_surferLine_0 G12_surferLine_0
  refine sm_rd (m_gI_12_20 H).1 ?_
  refine sm_if (z3_eq rfl l3_5 (m_gI_12_20 H).2 lr3_5) ?_ ?_
  · refine sm_II (S12_wrong H l3_2 lr3_2) fun vo85 ho85 Ho85 ro85 => ?_
    refine sgbI fun c1 => ?_
    exact sm_rz Ho85 rfl c1
  · refine sm_VI (S12_token H) fun ho4 Ho4 => ?_
    refine sm_rd (m_gI_12_8 Ho4).1 ?_
    refine sm_if (z3_eq rfl l3_2 (m_gI_12_8 Ho4).2 lr3_2) ?_ ?_
    · refine sm_rd (m_gR_12_27 Ho4) ?_
      refine sm_rd (m_gI_12_20 Ho4).1 ?_
      refine sm_rd (m_gI_12_9 Ho4).1 ?_
      refine sm_II (S12_find Ho4 l3_5 lr3_5 rfl ((m_gI_12_20 Ho4).2) rfl ((m_gI_12_9 Ho4).2)) fun vo15 ho15 Ho15 ro15 => ?_
      refine sm_if (z3_lt rfl l3_0 ro15 lr3_0) ?_ ?_
      · refine sm_rd (m_gI_12_20 Ho15).1 ?_
        refine sm_rd (m_gR_12_27 Ho15) ?_
        refine sm_rd (m_gI_12_9 Ho15).1 ?_
        refine sgxI fun c2 => ?_
        refine sm_wt (m_sI_12_27 Ho15 (z3_add l3_5 rfl) c2 rfl (m_gI_12_9 Ho15).2) fun h25 Hh25 => ?_
        refine sm_VI (S12_token Hh25) fun ho26 Ho26 => ?_
        refine sm_II (S12_cellRead Ho26) fun vo28 ho28 Ho28 ro28 => ?_
        refine sm_if (z3_eq rfl l3_0 ro28 lr3_0) ?_ ?_
        · exact sm_rz Ho28 l3_0 (by decide)
        · refine sm_rd (m_gR_12_28 Ho28) ?_
          refine sm_rd (m_gI_12_18 Ho28).1 ?_
          refine sm_rd (m_gI_12_11 Ho28).1 ?_
          refine sm_rd (m_gI_12_43 Ho28).1 ?_
          refine sgxI fun c3 => ?_
          refine sg3I fun c4 => ?_
          refine sm_wt (m_sI_12_28 Ho28 (z3_add l3_5 rfl) c3 (z3_add (z3_mul rfl rfl) rfl) c4) fun h40 Hh40 => ?_
          refine sm_II (S12_number Hh40 l3_1 lr3_1 l3_9 lr3_9) fun vo41 ho41 Ho41 ro41 => ?_
          refine sm_if (z3_eq rfl l3_0 ro41 lr3_0) ?_ ?_
          · exact sm_rz Ho41 l3_0 (by decide)
          · refine sm_rd (m_gR_12_29 Ho41) ?_
            refine sm_rd (m_gI_12_11 Ho41).1 ?_
            refine sgxI fun c5 => ?_
            refine sm_wt (m_sI_12_29 Ho41 (z3_add l3_5 rfl) c5 rfl (m_gI_12_11 Ho41).2) fun h49 Hh49 => ?_
            refine sm_II (S12_number Hh49 l3_1 lr3_1 l3_3 lr3_3) fun vo50 ho50 Ho50 ro50 => ?_
            refine sm_if (z3_eq rfl l3_0 ro50 lr3_0) ?_ ?_
            · exact sm_rz Ho50 l3_0 (by decide)
            · refine sm_rd (m_gR_12_30 Ho50) ?_
              refine sm_rd (m_gI_12_11 Ho50).1 ?_
              refine sgxI fun c6 => ?_
              refine sm_wt (m_sI_12_30 Ho50 (z3_add l3_5 rfl) c6 rfl (m_gI_12_11 Ho50).2) fun h58 Hh58 => ?_
              refine sm_II (S12_number Hh58 l3_0 lr3_0 l3_100 lr3_100) fun vo59 ho59 Ho59 ro59 => ?_
              refine sm_if (z3_eq rfl l3_0 ro59 lr3_0) ?_ ?_
              · exact sm_rz Ho59 l3_0 (by decide)
              · refine sm_rd (m_gR_12_31 Ho59) ?_
                refine sm_rd (m_gI_12_11 Ho59).1 ?_
                refine sgxI fun c7 => ?_
                refine sm_wt (m_sI_12_31 Ho59 (z3_add l3_5 rfl) c7 rfl (m_gI_12_11 Ho59).2) fun h67 Hh67 => ?_
                refine sm_II (S12_number Hh67 l3_0 lr3_0 l3_100 lr3_100) fun vo68 ho68 Ho68 ro68 => ?_
                refine sm_if (z3_eq rfl l3_0 ro68 lr3_0) ?_ ?_
                · exact sm_rz Ho68 l3_0 (by decide)
                · refine sm_rd (m_gR_12_32 Ho68) ?_
                  refine sm_rd (m_gI_12_11 Ho68).1 ?_
                  refine sgxI fun c8 => ?_
                  refine sm_wt (m_sI_12_32 Ho68 (z3_add l3_5 rfl) c8 rfl (m_gI_12_11 Ho68).2) fun h76 Hh76 => ?_
                  refine sm_rd (m_gI_12_20 Hh76).1 ?_
                  refine sg3I fun c9 => ?_
                  refine sm_wt (m_pI_12_20 Hh76 (z3_add rfl l3_1) c9) fun h79 Hh79 => ?_
                  exact sm_rz Hh79 l3_1 (by decide)
      · refine sm_II (S12_wrong Ho15 l3_3 lr3_3) fun vo81 ho81 Ho81 ro81 => ?_
        refine sgbI fun c10 => ?_
        exact sm_rz Ho81 rfl c10
    · refine sm_II (S12_wrong Ho4 l3_1 lr3_1) fun vo83 ho83 Ho83 ro83 => ?_
      refine sgbI fun c11 => ?_
      exact sm_rz Ho83 rfl c11
theorem S12_surferLine {h : PH} (H : OKM h) : SimI OKM (F12_surferLine h 0) (G12_surferLine (rd h)) := by
  unfold F12_surferLine G12_surferLine
  refine sm_cd (m_ok_12 H) ?_
  exact S12_surferLine_0 H
theorem S12_setLine_110 (n : Nat) : ∀ {h : PH} (H : OKM h) {x2i : Int32} {x2 : Int} (ex2 : x2i = Z3 x2) (qx2 : r3 x2) {x3i : Int32} {x3 : Int} (ex3 : x3i = Z3 x3) (qx3 : r3 x3), SimI OKM (F12_setLine_110 n h 0 x2i x3i) (G12_setLine_110 n (rd h) x2 x3) := by
  induction n with
  | zero => intros; exact smI_none _
  | succ n ih =>
    intro h H x2i x2 ex2 qx2 x3i x3 ex3 qx3
    subst ex2 ex3
    rw [F12_setLine_110, G12_setLine_110]
    refine sm_rd (m_gI_12_8 H).1 ?_
    refine sm_if (z3_eq rfl l3_3 (m_gI_12_8 H).2 lr3_3) ?_ ?_
    · refine sm_if (z3_eq rfl l3_7 qx3 lr3_7) ?_ ?_
      · refine sm_II (S12_wrong H l3_2 lr3_2) fun vo38 ho38 Ho38 ro38 => ?_
        refine sgbI fun c1 => ?_
        exact sm_rz Ho38 rfl c1
      · refine sm_II (S12_number H l3_1 lr3_1 l3_9 lr3_9) fun vo9 ho9 Ho9 ro9 => ?_
        refine sm_if (z3_eq rfl l3_0 ro9 lr3_0) ?_ ?_
        · exact sm_rz Ho9 l3_0 (by decide)
        · refine sm_rd (m_gR_12_34 Ho9) ?_
          refine sm_rd (m_gI_12_22 Ho9).1 ?_
          refine sgxI fun c2 => ?_
          refine sg3I fun c3 => ?_
          refine sm_wt (m_sI_12_34 Ho9 (z3_add l3_28 rfl) c2 (z3_add rfl rfl) c3) fun h17 Hh17 => ?_
          refine sm_rd (m_gR_12_35 Hh17) ?_
          refine sm_rd (m_gI_12_22 Hh17).1 ?_
          refine sm_rd (m_gI_12_11 Hh17).1 ?_
          refine sgxI fun c4 => ?_
          refine sm_wt (m_sI_12_35 Hh17 (z3_add l3_28 rfl) c4 rfl (m_gI_12_11 Hh17).2) fun h25 Hh25 => ?_
          refine sm_rd (m_gR_12_36 Hh25) ?_
          refine sm_rd (m_gI_12_22 Hh25).1 ?_
          refine sm_rd (m_gI_12_21 Hh25).1 ?_
          refine sgxI fun c5 => ?_
          refine sm_wt (m_sI_12_36 Hh25 (z3_add l3_28 rfl) c5 rfl (m_gI_12_21 Hh25).2) fun h33 Hh33 => ?_
          refine sm_rd (m_gI_12_22 Hh33).1 ?_
          refine sg3I fun c6 => ?_
          refine sm_wt (m_pI_12_22 Hh33 (z3_add rfl l3_1) c6) fun h36 Hh36 => ?_
          refine sg3I fun c7 => ?_
          exact ih Hh36 rfl qx2 (z3_add rfl l3_1) c7
    · refine sm_rd (m_gI_12_21 H).1 ?_
      refine sg3I fun c8 => ?_
      refine sm_wt (m_pI_12_21 H (z3_add rfl l3_1) c8) fun h6 Hh6 => ?_
      exact sm_rz Hh6 l3_1 (by decide)
theorem S12_setLine_74 {h : PH} (H : OKM h) : SimI OKM (F12_setLine_74 h 0) (G12_setLine_74 (rd h)) := by
  unfold F12_setLine_74 G12_setLine_74
  refine sm_rd (m_gI_12_11 H).1 ?_
  refine sm_rd (m_gI_12_8 H).1 ?_
  refine sm_if (z3_eq rfl l3_3 (m_gI_12_8 H).2 lr3_3) ?_ ?_
  · refine sm_rd (m_gR_12_33 H) ?_
    refine sm_rd (m_gI_12_21 H).1 ?_
    refine sm_rd (m_gI_12_22 H).1 ?_
    refine sgxI fun c1 => ?_
    refine sm_wt (m_sI_12_33 H (z3_add l3_4 rfl) c1 rfl (m_gI_12_22 H).2) fun h13 Hh13 => ?_
    exact S12_setLine_110 1024 Hh13 rfl ((m_gI_12_11 H).2) l3_0 lr3_0
  · refine sm_II (S12_wrong H l3_1 lr3_1) fun vo14 ho14 Ho14 ro14 => ?_
    refine sgbI fun c2 => ?_
    exact sm_rz Ho14 rfl c2
theorem S12_setLine_0 {h : PH} (H : OKM h) : SimI OKM (F12_setLine_0 h 0) (G12_setLine_0 (rd h)) := by
  unfold F12_setLine_0 G12_setLine_0
  refine sm_rd (m_gI_12_21 H).1 ?_
  refine sm_if (z3_eq rfl l3_4 (m_gI_12_21 H).2 lr3_4) ?_ ?_
  · refine sm_II (S12_wrong H l3_2 lr3_2) fun vo27 ho27 Ho27 ro27 => ?_
    refine sgbI fun c1 => ?_
    exact sm_rz Ho27 rfl c1
  · refine sm_VI (S12_token H) fun ho4 Ho4 => ?_
    refine sm_rd (m_gI_12_10 Ho4).1 ?_
    refine sm_II (S12_number Ho4 l3_0 lr3_0 l3_99 lr3_99) fun vo8 ho8 Ho8 ro8 => ?_
    refine sm_if (z3_eq rfl l3_0 ro8 lr3_0) ?_ ?_
    · exact sm_rz Ho8 l3_0 (by decide)
    · refine sm_rd (m_gI_12_22 Ho8).1 ?_
      refine sm_if (z3_le rfl l3_0 (m_gI_12_22 Ho8).2 lr3_0) ?_ ?_
      · exact S12_setLine_74 Ho8
      · refine sm_rd (m_gI_12_11 Ho8).1 ?_
        refine sm_rd (m_gR_12_34 Ho8) ?_
        refine sm_rd (m_gI_12_22 Ho8).1 ?_
        refine sgxI fun c2 => ?_
        refine sm_rd (m_aI_12_34 Ho8 (z3_sub (z3_add l3_28 rfl) l3_1) c2).1 ?_
        refine sm_if (z3_lt rfl rfl (m_aI_12_34 Ho8 (z3_sub (z3_add l3_28 rfl) l3_1) c2).2 (m_gI_12_11 Ho8).2) ?_ ?_
        · exact S12_setLine_74 Ho8
        · refine sm_wt (m_pI_12_10 Ho8 rfl (m_gI_12_10 Ho4).2) fun h23 Hh23 => ?_
          refine sm_II (S12_wrong Hh23 l3_5 lr3_5) fun vo25 ho25 Ho25 ro25 => ?_
          refine sgbI fun c3 => ?_
          exact sm_rz Ho25 rfl c3
theorem S12_setLine {h : PH} (H : OKM h) : SimI OKM (F12_setLine h 0) (G12_setLine (rd h)) := by
  unfold F12_setLine G12_setLine
  refine sm_cd (m_ok_12 H) ?_
  exact S12_setLine_0 H
theorem S12_onceLine_168 {h : PH} (H : OKM h) : SimI OKM (F12_onceLine_168 h 0) (G12_onceLine_168 (rd h)) := by
  unfold F12_onceLine_168 G12_onceLine_168
  refine sm_II (S12_wrong H l3_1 lr3_1) fun vo1 ho1 Ho1 ro1 => ?_
  refine sgbI fun c1 => ?_
  exact sm_rz Ho1 rfl c1
theorem S12_onceLine_37 {h : PH} (H : OKM h) {s0i : Int32} {s0 : Int} (es0 : s0i = Z3 s0) (qs0 : r3 s0) : SimI OKM (F12_onceLine_37 h 0 s0i) (G12_onceLine_37 (rd h) s0) := by
  subst es0
  unfold F12_onceLine_37 G12_onceLine_37
  refine sm_rd (m_gR_12_25 H) ?_
  refine sgxI fun c1 => ?_
  refine sm_rd (m_aI_12_25 H rfl c1).1 ?_
  refine sm_if (z3_eq rfl l3_0 (m_aI_12_25 H rfl c1).2 lr3_0) ?_ ?_
  · refine sm_rd (m_gR_12_25 H) ?_
    refine sgxI fun c2 => ?_
    refine sgbI fun c3 => ?_
    refine sm_wt (m_sI_12_25 H rfl c2 (z3_bo l3_1 c3) (r3_b c3)) fun h9 Hh9 => ?_
    refine sm_if (z3_eq rfl l3_2 qs0 lr3_2) ?_ ?_
    · refine sm_II (S12_bankLine Hh9) fun vo56 ho56 Ho56 ro56 => ?_
      refine sgbI fun c4 => ?_
      exact sm_rz Ho56 rfl c4
    · refine sm_VI (S12_token Hh9) fun ho11 Ho11 => ?_
      refine sm_if (z3_eq rfl l3_1 qs0 lr3_1) ?_ ?_
      · refine sm_II (S12_cellRead Ho11) fun vo41 ho41 Ho41 ro41 => ?_
        refine sm_if (z3_eq rfl l3_0 ro41 lr3_0) ?_ ?_
        · exact sm_rz Ho41 l3_0 (by decide)
        · refine sm_rd (m_gR_12_26 Ho41) ?_
          refine sm_rd (m_gI_12_43 Ho41).1 ?_
          refine sm_wt (m_sI_12_26 Ho41 l3_7 ⟨by decide, by decide⟩ rfl (m_gI_12_43 Ho41).2) fun h49 Hh49 => ?_
          refine sm_rd (m_gR_12_26 Hh49) ?_
          refine sm_rd (m_gI_12_11 Hh49).1 ?_
          refine sm_wt (m_sI_12_26 Hh49 l3_8 ⟨by decide, by decide⟩ rfl (m_gI_12_11 Hh49).2) fun h55 Hh55 => ?_
          exact sm_rz Hh55 l3_1 (by decide)
      · refine sm_if (z3_eq rfl l3_4 qs0 lr3_4) ?_ ?_
        · refine sm_II (S12_number Ho11 l3_0 lr3_0 l3_99999 lr3_99999) fun vo32 ho32 Ho32 ro32 => ?_
          refine sm_if (z3_eq rfl l3_0 ro32 lr3_0) ?_ ?_
          · exact sm_rz Ho32 l3_0 (by decide)
          · refine sm_rd (m_gR_12_26 Ho32) ?_
            refine sm_rd (m_gI_12_11 Ho32).1 ?_
            refine sm_wt (m_sI_12_26 Ho32 l3_13 ⟨by decide, by decide⟩ rfl (m_gI_12_11 Ho32).2) fun h40 Hh40 => ?_
            exact sm_rz Hh40 l3_1 (by decide)
        · refine sm_rd (m_gI_12_8 Ho11).1 ?_
          refine sm_if (z3_eq rfl l3_1 (m_gI_12_8 Ho11).2 lr3_1) ?_ ?_
          · refine sm_rd (m_gI_12_9 Ho11).1 ?_
            refine sm_if (z3_lt rfl l3_8 (m_gI_12_9 Ho11).2 lr3_8) ?_ ?_
            · exact S12_onceLine_168 Ho11
            · refine sm_rd (m_gI_12_9 Ho11).1 ?_
              refine sm_if (z3_le rfl l3_11 (m_gI_12_9 Ho11).2 lr3_11) ?_ ?_
              · refine sm_rd (m_gR_12_26 Ho11) ?_
                refine sm_rd (m_gI_12_9 Ho11).1 ?_
                refine sg3I fun c5 => ?_
                refine sm_wt (m_sI_12_26 Ho11 l3_12 ⟨by decide, by decide⟩ (z3_sub rfl l3_8) c5) fun h29 Hh29 => ?_
                refine sm_VI (S12_token Hh29) fun ho30 Ho30 => ?_
                exact sm_rz Ho30 l3_1 (by decide)
              · exact S12_onceLine_168 Ho11
          · exact S12_onceLine_168 Ho11
  · refine sm_II (S12_wrong H l3_3 lr3_3) fun vo58 ho58 Ho58 ro58 => ?_
    refine sgbI fun c6 => ?_
    exact sm_rz Ho58 rfl c6
theorem S12_onceLine_0 {h : PH} (H : OKM h) : SimI OKM (F12_onceLine_0 h 0) (G12_onceLine_0 (rd h)) := by
  unfold F12_onceLine_0 G12_onceLine_0
  refine sm_rd (m_gI_12_9 H).1 ?_
  refine sm_if (z3_eq rfl l3_1 (m_gI_12_9 H).2 lr3_1) ?_ ?_
  · exact S12_onceLine_37 H l3_1 lr3_1
  · refine sm_rd (m_gI_12_9 H).1 ?_
    refine sm_if (z3_eq rfl l3_4 (m_gI_12_9 H).2 lr3_4) ?_ ?_
    · exact S12_onceLine_37 H l3_2 lr3_2
    · refine sm_rd (m_gI_12_9 H).1 ?_
      refine sm_if (z3_eq rfl l3_5 (m_gI_12_9 H).2 lr3_5) ?_ ?_
      · exact S12_onceLine_37 H l3_3 lr3_3
      · exact S12_onceLine_37 H l3_4 lr3_4
theorem S12_onceLine {h : PH} (H : OKM h) : SimI OKM (F12_onceLine h 0) (G12_onceLine (rd h)) := by
  unfold F12_onceLine G12_onceLine
  refine sm_cd (m_ok_12 H) ?_
  exact S12_onceLine_0 H
theorem S12_signs_250 {h : PH} (H : OKM h) {s0i : Int32} {s0 : Int} (es0 : s0i = Z3 s0) (qs0 : r3 s0) : SimI OKM (F12_signs_250 h 0 s0i 0) (G12_signs_250 (rd h) s0) := by
  subst es0
  unfold F12_signs_250 G12_signs_250
  refine sgbI fun c1 => ?_
  refine sm_wt (m_pZ_12_51 H rfl c1) fun h1 Hh1 => ?_
  refine sm_VI (S12_token Hh1) fun ho3 Ho3 => ?_
  exact sm_rz Ho3 l3_1 (by decide)
theorem S12_signs_217 {h : PH} (H : OKM h) {x1i : Int32} {x1 : Int} (ex1 : x1i = Z3 x1) (qx1 : r3 x1) : SimI OKM (F12_signs_217 h 0 x1i) (G12_signs_217 (rd h) x1) := by
  subst ex1
  unfold F12_signs_217 G12_signs_217
  refine sm_II (S12_isCounted H) fun vo1 ho1 Ho1 ro1 => ?_
  refine sm_if (z3_eq rfl l3_0 ro1 lr3_0) ?_ ?_
  · exact sm_rz Ho1 l3_0 (by decide)
  · refine sm_VI (S12_waitsFor Ho1 rfl qx1) fun ho4 Ho4 => ?_
    refine sm_wt (m_pZ_12_50 Ho4 l3_1 (by decide)) fun h6 Hh6 => ?_
    refine sm_II (S12_rank Hh6 rfl qx1) fun vo8 ho8 Ho8 ro8 => ?_
    refine sm_if (z3_le l3_3 rfl lr3_3 ro8) ?_ ?_
    · exact S12_signs_250 Ho8 l3_0 lr3_0
    · exact S12_signs_250 Ho8 l3_1 lr3_1
theorem S12_signs_175 {h : PH} (H : OKM h) {x1i : Int32} {x1 : Int} (ex1 : x1i = Z3 x1) (qx1 : r3 x1) {s0i : Int32} {s0 : Int} (es0 : s0i = Z3 s0) (qs0 : r3 s0) : SimI OKM (F12_signs_175 h 0 x1i s0i 0) (G12_signs_175 (rd h) x1 s0) := by
  subst ex1 es0
  unfold F12_signs_175 G12_signs_175
  refine sm_VI (S12_bind H rfl qs0) fun ho1 Ho1 => ?_
  refine sm_II (S12_rank Ho1 rfl qx1) fun vo3 ho3 Ho3 ro3 => ?_
  refine sm_if (z3_eq rfl l3_4 ro3 lr3_4) ?_ ?_
  · refine sm_rd (m_gI_12_46 Ho3).1 ?_
    refine sm_if (z3_le rfl l3_0 (m_gI_12_46 Ho3).2 lr3_0) ?_ ?_
    · exact S12_signs_217 Ho3 rfl qx1
    · refine sm_rd (m_gR_12_44 Ho3) ?_
      refine sm_rd (m_gI_12_46 Ho3).1 ?_
      refine sgxI fun c1 => ?_
      refine sm_rd (m_aI_12_44 Ho3 (z3_sub rfl l3_1) c1).1 ?_
      refine sm_II (S12_rank Ho3 rfl ((m_aI_12_44 Ho3 (z3_sub rfl l3_1) c1).2)) fun vo15 ho15 Ho15 ro15 => ?_
      refine sm_if (z3_eq rfl l3_4 ro15 lr3_4) ?_ ?_
      · refine sm_II (S12_wrong Ho15 l3_1 lr3_1) fun vo18 ho18 Ho18 ro18 => ?_
        refine sgbI fun c2 => ?_
        exact sm_rz Ho18 rfl c2
      · exact S12_signs_217 Ho15 rfl qx1
  · exact S12_signs_217 Ho3 rfl qx1
theorem S12_signs_147 {h : PH} (H : OKM h) {s0i : Int32} {s0 : Int} (es0 : s0i = Z3 s0) (qs0 : r3 s0) : SimI OKM (F12_signs_147 h 0 s0i) (G12_signs_147 (rd h) s0) := by
  subst es0
  unfold F12_signs_147 G12_signs_147
  refine sm_if (z3_eq rfl l3_0 qs0 lr3_0) ?_ ?_
  · refine sm_II (S12_wrong H l3_1 lr3_1) fun vo7 ho7 Ho7 ro7 => ?_
    refine sgbI fun c1 => ?_
    exact sm_rz Ho7 rfl c1
  · refine sm_II (S12_rank H rfl qs0) fun vo2 ho2 Ho2 ro2 => ?_
    refine sm_if (z3_eq rfl l3_4 ro2 lr3_4) ?_ ?_
    · exact S12_signs_175 Ho2 rfl qs0 l3_5 lr3_5
    · refine sm_II (S12_rank Ho2 rfl qs0) fun vo5 ho5 Ho5 ro5 => ?_
      exact S12_signs_175 Ho5 rfl qs0 rfl ro5
theorem S12_signs_47 {h : PH} (H : OKM h) : SimI OKM (F12_signs_47 h 0) (G12_signs_47 (rd h)) := by
  unfold F12_signs_47 G12_signs_47
  refine sm_II (S12_isKey H l3_15 lr3_15) fun vo1 ho1 Ho1 ro1 => ?_
  refine sm_if (z3_eq rfl l3_0 ro1 lr3_0) ?_ ?_
  · refine sm_II (S12_isKey Ho1 l3_16 lr3_16) fun vo4 ho4 Ho4 ro4 => ?_
    refine sm_if (z3_eq rfl l3_0 ro4 lr3_0) ?_ ?_
    · refine sm_rd (m_gI_12_8 Ho4).1 ?_
      refine sm_if (z3_eq rfl l3_5 (m_gI_12_8 Ho4).2 lr3_5) ?_ ?_
      · refine sm_rd (m_gI_12_9 Ho4).1 ?_
        refine sg3I fun c1 => ?_
        exact S12_signs_147 Ho4 (z3_add l3_5 rfl) c1
      · refine sm_II (S12_isSign Ho4 l3_43 lr3_43) fun vo10 ho10 Ho10 ro10 => ?_
        refine sm_if (z3_eq rfl l3_0 ro10 lr3_0) ?_ ?_
        · refine sm_II (S12_isSign Ho10 l3_45 lr3_45) fun vo13 ho13 Ho13 ro13 => ?_
          refine sm_if (z3_eq rfl l3_0 ro13 lr3_0) ?_ ?_
          · refine sm_II (S12_isSign Ho13 l3_42 lr3_42) fun vo16 ho16 Ho16 ro16 => ?_
            refine sm_if (z3_eq rfl l3_0 ro16 lr3_0) ?_ ?_
            · refine sm_II (S12_isSign Ho16 l3_47 lr3_47) fun vo19 ho19 Ho19 ro19 => ?_
              refine sm_if (z3_eq rfl l3_0 ro19 lr3_0) ?_ ?_
              · exact S12_signs_147 Ho19 l3_0 lr3_0
              · exact S12_signs_147 Ho19 l3_14 lr3_14
            · exact S12_signs_147 Ho16 l3_13 lr3_13
          · exact S12_signs_147 Ho13 l3_12 lr3_12
        · exact S12_signs_147 Ho10 l3_11 lr3_11
    · exact S12_signs_147 Ho4 l3_4 lr3_4
  · exact S12_signs_147 Ho1 l3_3 lr3_3
theorem S12_signs_0 {h : PH} (H : OKM h) : SimI OKM (F12_signs_0 h 0) (G12_signs_0 (rd h)) := by
  unfold F12_signs_0 G12_signs_0
  refine sm_II (S12_isSign H l3_41 lr3_41) fun vo1 ho1 Ho1 ro1 => ?_
  refine sm_if (z3_eq rfl l3_0 ro1 lr3_0) ?_ ?_
  · exact S12_signs_47 Ho1
  · refine sm_rd (m_gI_12_48 Ho1).1 ?_
    refine sm_if (z3_le rfl l3_0 (m_gI_12_48 Ho1).2 lr3_0) ?_ ?_
    · exact S12_signs_47 Ho1
    · refine sm_VI (S12_bind Ho1 l3_1 lr3_1) fun ho7 Ho7 => ?_
      refine sm_rd (m_gI_12_46 Ho7).1 ?_
      refine sg3I fun c1 => ?_
      refine sm_wt (m_pI_12_46 Ho7 (z3_sub rfl l3_1) c1) fun h11 Hh11 => ?_
      refine sm_rd (m_gI_12_48 Hh11).1 ?_
      refine sg3I fun c2 => ?_
      refine sm_wt (m_pI_12_48 Hh11 (z3_sub rfl l3_1) c2) fun h15 Hh15 => ?_
      refine sm_VI (S12_token Hh15) fun ho17 Ho17 => ?_
      exact sm_rz Ho17 l3_1 (by decide)
theorem S12_signs {h : PH} (H : OKM h) : SimI OKM (F12_signs h 0) (G12_signs (rd h)) := by
  unfold F12_signs G12_signs
  refine sm_cd (m_ok_12 H) ?_
  exact S12_signs_0 H
theorem S12_sumRead_48 {k25 : PH → Nat → Option (Int32 × PH)} {kk25 : Mem → Option (Int × Mem)} (hk25 : ∀ {h : PH} (_ : OKM h), SimI OKM (k25 h 0) (kk25 (rd h))) {h : PH} (H : OKM h) : SimI OKM (F12_sumRead_48 k25 h 0) (G12_sumRead_48 kk25 (rd h)) := by
  unfold F12_sumRead_48 G12_sumRead_48
  refine sm_rd (m_gI_12_50 H).1 ?_
  refine sm_if (z3_eq rfl l3_0 (m_gI_12_50 H).2 lr3_0) ?_ ?_
  · refine sm_II (S12_signs H) fun vo4 ho4 Ho4 ro4 => ?_
    refine sm_if (z3_eq rfl l3_0 ro4 lr3_0) ?_ ?_
    · exact sm_rz Ho4 l3_0 (by decide)
    · exact hk25 Ho4
  · refine sm_II (S12_leafRead H) fun vo7 ho7 Ho7 ro7 => ?_
    refine sm_if (z3_eq rfl l3_0 ro7 lr3_0) ?_ ?_
    · exact sm_rz Ho7 l3_0 (by decide)
    · exact hk25 Ho7
theorem S12_sumRead_25 (n : Nat) : ∀ {h : PH} (H : OKM h), SimI OKM (F12_sumRead_25 n h 0) (G12_sumRead_25 n (rd h)) := by
  induction n with
  | zero => intros; exact smI_none _
  | succ n ih =>
    intro h H
    rw [F12_sumRead_25, G12_sumRead_25]
    refine sm_II (S12_isSign H l3_59 lr3_59) fun vo1 ho1 Ho1 ro1 => ?_
    refine sm_if (z3_eq rfl l3_0 ro1 lr3_0) ?_ ?_
    · exact S12_sumRead_48 (@fun _ H => ih H) Ho1
    · refine sm_rd (m_gI_12_50 Ho1).1 ?_
      refine sm_if (z3_eq rfl l3_0 (m_gI_12_50 Ho1).2 lr3_0) ?_ ?_
      · refine sm_rd (m_gI_12_48 Ho1).1 ?_
        refine sm_if (z3_le rfl l3_0 (m_gI_12_48 Ho1).2 lr3_0) ?_ ?_
        · refine sm_VI (S12_bind Ho1 l3_1 lr3_1) fun ho10 Ho10 => ?_
          exact sm_rz Ho10 l3_1 (by decide)
        · exact S12_sumRead_48 (@fun _ H => ih H) Ho1
      · exact S12_sumRead_48 (@fun _ H => ih H) Ho1
