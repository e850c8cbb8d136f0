/-! The pure functions do so (written by wip/gen/gx.py). -/
theorem S12_sumRead_0 {h : PH} (H : OKM h) : SimI OKM (F12_sumRead_0 h 0) (G12_sumRead_0 (rd h)) := by
  unfold F12_sumRead_0 G12_sumRead_0
  refine sm_wt (m_pI_12_46 H l3_0 lr3_0) fun h1 Hh1 => ?_
  refine sm_wt (m_pI_12_47 Hh1 l3_0 lr3_0) fun h3 Hh3 => ?_
  refine sm_wt (m_pI_12_48 Hh3 l3_0 lr3_0) fun h5 Hh5 => ?_
  refine sm_wt (m_pZ_12_50 Hh5 l3_1 (by decide)) fun h7 Hh7 => ?_
  refine sm_wt (m_pZ_12_51 Hh7 l3_1 (by decide)) fun h9 Hh9 => ?_
  exact S12_sumRead_25 1024 Hh9
theorem S12_sumRead {h : PH} (H : OKM h) : SimI OKM (F12_sumRead h 0) (G12_sumRead (rd h)) := by
  unfold F12_sumRead G12_sumRead
  refine sm_cd (m_ok_12 H) ?_
  exact S12_sumRead_0 H
theorem S12_lineRead_17 {h : PH} (H : OKM h) : SimI OKM (F12_lineRead_17 h 0) (G12_lineRead_17 (rd h)) := by
  unfold F12_lineRead_17 G12_lineRead_17
  refine sm_II (S12_wrong H l3_1 lr3_1) fun vo1 ho1 Ho1 ro1 => ?_
  refine sgbI fun c1 => ?_
  exact sm_rz Ho1 rfl c1
theorem S12_lineRead_197 {h : PH} (H : OKM h) {x1i : Int32} {x1 : Int} (ex1 : x1i = Z3 x1) (qx1 : r3 x1) : SimI OKM (F12_lineRead_197 h 0 x1i) (G12_lineRead_197 (rd h) x1) := by
  subst ex1
  unfold F12_lineRead_197 G12_lineRead_197
  refine sm_if (z3_eq rfl l3_0 qx1 lr3_0) ?_ ?_
  · exact sm_rz H l3_0 (by decide)
  · refine sm_II (S12_isSign H l3_59 lr3_59) fun vo2 ho2 Ho2 ro2 => ?_
    refine sm_if (z3_eq rfl l3_0 ro2 lr3_0) ?_ ?_
    · refine sm_II (S12_wrong Ho2 l3_1 lr3_1) fun vo7 ho7 Ho7 ro7 => ?_
      refine sgbI fun c1 => ?_
      exact sm_rz Ho7 rfl c1
    · refine sm_VI (S12_token Ho2) fun ho5 Ho5 => ?_
      exact sm_rz Ho5 l3_1 (by decide)
theorem S12_lineRead_130 {h : PH} (H : OKM h) : SimI OKM (F12_lineRead_130 h 0) (G12_lineRead_130 (rd h)) := by
  unfold F12_lineRead_130 G12_lineRead_130
  refine sm_II (S12_wrong H l3_1 lr3_1) fun vo1 ho1 Ho1 ro1 => ?_
  refine sgbI fun c1 => ?_
  exact sm_rz Ho1 rfl c1
theorem S12_lineRead_0 {h : PH} (H : OKM h) : SimI OKM (F12_lineRead_0 h 0) (G12_lineRead_0 (rd h)) := by
  unfold F12_lineRead_0 G12_lineRead_0
  refine sm_rd (m_gI_12_8 H).1 ?_
  refine sm_if (z3_eq rfl l3_1 (m_gI_12_8 H).2 lr3_1) ?_ ?_
  · refine sm_rd (m_gI_12_9 H).1 ?_
    refine sm_if (z3_le rfl l3_7 (m_gI_12_9 H).2 lr3_7) ?_ ?_
    · refine sm_rd (m_gI_12_9 H).1 ?_
      refine sm_if (z3_eq rfl l3_0 (m_gI_12_9 H).2 lr3_0) ?_ ?_
      · refine sm_II (S12_seaLine H) fun vo10 ho10 Ho10 ro10 => ?_
        exact S12_lineRead_197 Ho10 rfl ro10
      · refine sm_if (z3_eq rfl l3_1 (m_gI_12_9 H).2 lr3_1) ?_ ?_
        · refine sm_II (S12_onceLine H) fun vo13 ho13 Ho13 ro13 => ?_
          exact S12_lineRead_197 Ho13 rfl ro13
        · refine sm_if (z3_eq rfl l3_2 (m_gI_12_9 H).2 lr3_2) ?_ ?_
          · refine sm_II (S12_surferLine H) fun vo16 ho16 Ho16 ro16 => ?_
            exact S12_lineRead_197 Ho16 rfl ro16
          · refine sm_if (z3_eq rfl l3_3 (m_gI_12_9 H).2 lr3_3) ?_ ?_
            · refine sm_II (S12_setLine H) fun vo19 ho19 Ho19 ro19 => ?_
              exact S12_lineRead_197 Ho19 rfl ro19
            · refine sm_if (z3_eq rfl l3_4 (m_gI_12_9 H).2 lr3_4) ?_ ?_
              · refine sm_II (S12_onceLine H) fun vo22 ho22 Ho22 ro22 => ?_
                exact S12_lineRead_197 Ho22 rfl ro22
              · refine sm_if (z3_eq rfl l3_5 (m_gI_12_9 H).2 lr3_5) ?_ ?_
                · refine sm_II (S12_onceLine H) fun vo25 ho25 Ho25 ro25 => ?_
                  exact S12_lineRead_197 Ho25 rfl ro25
                · refine sm_if (z3_eq rfl l3_6 (m_gI_12_9 H).2 lr3_6) ?_ ?_
                  · refine sm_II (S12_onceLine H) fun vo28 ho28 Ho28 ro28 => ?_
                    exact S12_lineRead_197 Ho28 rfl ro28
                  · refine sm_VI (S12_token H) fun ho30 Ho30 => ?_
                    refine sm_rd (m_gI_12_8 Ho30).1 ?_
                    refine sm_if (z3_eq rfl l3_1 (m_gI_12_8 Ho30).2 lr3_1) ?_ ?_
                    · refine sm_rd (m_gI_12_9 Ho30).1 ?_
                      refine sm_if (z3_lt rfl l3_12 (m_gI_12_9 Ho30).2 lr3_12) ?_ ?_
                      · exact S12_lineRead_130 Ho30
                      · refine sm_rd (m_gI_12_9 Ho30).1 ?_
                        refine sm_if (z3_le rfl l3_14 (m_gI_12_9 Ho30).2 lr3_14) ?_ ?_
                        · refine sm_rd (m_gI_12_9 Ho30).1 ?_
                          refine sm_rd (m_gR_12_37 Ho30) ?_
                          refine sgxI fun c1 => ?_
                          refine sm_rd (m_aI_12_37 Ho30 (z3_sub (z3_add l3_3 rfl) l3_12) c1).1 ?_
                          refine sm_if (z3_eq rfl l3_0 (m_aI_12_37 Ho30 (z3_sub (z3_add l3_3 rfl) l3_12) c1).2 lr3_0) ?_ ?_
                          · refine sm_rd (m_gR_12_37 Ho30) ?_
                            refine sgxI fun c2 => ?_
                            refine sgbI fun c3 => ?_
                            refine sm_wt (m_sI_12_37 Ho30 (z3_sub (z3_add l3_3 rfl) l3_12) c2 (z3_bo l3_1 c3) (r3_b c3)) fun h51 Hh51 => ?_
                            refine sm_VI (S12_token Hh51) fun ho52 Ho52 => ?_
                            refine sm_rd (m_gR_12_38 Ho52) ?_
                            refine sm_rd (m_gI_12_23 Ho52).1 ?_
                            refine sgxI fun c4 => ?_
                            refine sm_wt (m_sI_12_38 Ho52 (z3_sub (z3_add l3_3 rfl) l3_12) c4 rfl (m_gI_12_23 Ho52).2) fun h59 Hh59 => ?_
                            refine sm_II (S12_sumRead Hh59) fun vo60 ho60 Ho60 ro60 => ?_
                            refine sm_rd (m_gR_12_39 Ho60) ?_
                            refine sm_rd (m_gI_12_23 Ho60).1 ?_
                            refine sgxI fun c5 => ?_
                            refine sm_wt (m_sI_12_39 Ho60 (z3_sub (z3_add l3_3 rfl) l3_12) c5 rfl (m_gI_12_23 Ho60).2) fun h67 Hh67 => ?_
                            exact S12_lineRead_197 Hh67 rfl ro60
                          · refine sm_II (S12_wrong Ho30 l3_3 lr3_3) fun vo68 ho68 Ho68 ro68 => ?_
                            refine sgbI fun c6 => ?_
                            exact sm_rz Ho68 rfl c6
                        · exact S12_lineRead_130 Ho30
                    · exact S12_lineRead_130 Ho30
    · exact S12_lineRead_17 H
  · exact S12_lineRead_17 H
theorem S12_lineRead {h : PH} (H : OKM h) : SimI OKM (F12_lineRead h 0) (G12_lineRead (rd h)) := by
  unfold F12_lineRead G12_lineRead
  refine sm_cd (m_ok_12 H) ?_
  exact S12_lineRead_0 H
theorem S12_locals_100 (n : Nat) : ∀ {h : PH} (H : OKM h) {x1i : Int32} {x1 : Int} (ex1 : x1i = Z3 x1) (qx1 : r3 x1) {x2i : Int32} {x2 : Int} (ex2 : x2i = Z3 x2) (qx2 : r3 x2) {x3i : Int32} {x3 : Int} (ex3 : x3i = Z3 x3) (qx3 : r3 x3) {x4i : Int32} {x4 : Int} (ex4 : x4i = Z3 x4) (qx4 : r3 x4), SimI OKM (F12_locals_100 n h 0 x1i x2i x3i x4i) (G12_locals_100 n (rd h) x1 x2 x3 x4) := by
  induction n with
  | zero => intros; exact smI_none _
  | succ n ih =>
    intro h H x1i x1 ex1 qx1 x2i x2 ex2 qx2 x3i x3 ex3 qx3 x4i x4 ex4 qx4
    subst ex1 ex2 ex3 ex4
    rw [F12_locals_100, G12_locals_100]
    refine sm_II (S12_knownBy H) fun vo1 ho1 Ho1 ro1 => ?_
    refine sm_if (z3_le rfl rfl ro1 qx4) ?_ ?_
    · exact sm_retI Ho1 (z3_an rfl (z3_xo rfl l3_m1)) (r3_of _)
    · refine sm_rd (m_gR_12_77 Ho1) ?_
      refine sgxI fun c1 => ?_
      refine sm_rd (m_aI_12_77 Ho1 rfl c1).1 ?_
      refine sm_if (z3_eq rfl l3_0 (m_aI_12_77 Ho1 rfl c1).2 lr3_0) ?_ ?_
      · refine sg3I fun c2 => ?_
        exact ih Ho1 rfl qx1 rfl qx2 rfl qx3 (z3_add rfl l3_1) c2
      · refine sm_rd (m_gR_12_76 Ho1) ?_
        refine sgxI fun c3 => ?_
        refine sm_rd (m_aI_12_76 Ho1 (z3_mul l3_3 rfl) c3).1 ?_
        refine sm_if (z3_le l3_0 rfl lr3_0 (m_aI_12_76 Ho1 (z3_mul l3_3 rfl) c3).2) ?_ ?_
        · refine sm_rd (m_gR_12_76 Ho1) ?_
          refine sgxI fun c4 => ?_
          refine sm_rd (m_aI_12_76 Ho1 (z3_mul l3_3 rfl) c4).1 ?_
          refine sm_II (S12_beginsFrom Ho1 rfl ((m_aI_12_76 Ho1 (z3_mul l3_3 rfl) c4).2)) fun vo18 ho18 Ho18 ro18 => ?_
          refine sm_if (z3_le l3_0 rfl lr3_0 ro18) ?_ ?_
          · refine sm_rd (m_gR_12_76 Ho18) ?_
            refine sgxI fun c5 => ?_
            refine sm_rd (m_aI_12_76 Ho18 (z3_add (z3_mul l3_3 rfl) l3_1) c5).1 ?_
            refine sm_rd (m_gR_12_76 Ho18) ?_
            refine sgxI fun c6 => ?_
            refine sm_rd (m_aI_12_76 Ho18 (z3_add (z3_mul l3_3 rfl) l3_2) c6).1 ?_
            refine sm_II (S12_peakAt Ho18 rfl ro18) fun vo29 ho29 Ho29 ro29 => ?_
            refine sm_II (S12_far Ho29 rfl ((m_aI_12_76 Ho18 (z3_add (z3_mul l3_3 rfl) l3_2) c6).2) rfl ro29) fun vo31 ho31 Ho31 ro31 => ?_
            refine sm_if (z3_le rfl rfl ro31 qx1) ?_ ?_
            · refine sg3I fun c7 => ?_
              exact ih Ho31 rfl qx1 (z3_or rfl (z3_sl l3_1 (z3_an rfl l3_31))) (r3_of _) rfl qx3 (z3_add rfl l3_1) c7
            · refine sm_rd (m_gR_12_76 Ho31) ?_
              refine sgxI fun c8 => ?_
              refine sm_rd (m_aI_12_76 Ho31 (z3_add (z3_mul l3_3 rfl) l3_1) c8).1 ?_
              refine sg3I fun c9 => ?_
              exact ih Ho31 rfl qx1 (z3_or rfl (z3_sl l3_1 (z3_an rfl l3_31))) (r3_of _) (z3_or rfl (z3_sl l3_1 (z3_an rfl l3_31))) (r3_of _) (z3_add rfl l3_1) c9
          · refine sg3I fun c10 => ?_
            exact ih Ho18 rfl qx1 rfl qx2 rfl qx3 (z3_add rfl l3_1) c10
        · refine sg3I fun c11 => ?_
          exact ih Ho1 rfl qx1 rfl qx2 rfl qx3 (z3_add rfl l3_1) c11
theorem S12_locals_47 (n : Nat) : ∀ {h : PH} (H : OKM h) {x1i : Int32} {x1 : Int} (ex1 : x1i = Z3 x1) (qx1 : r3 x1) {x2i : Int32} {x2 : Int} (ex2 : x2i = Z3 x2) (qx2 : r3 x2), SimI OKM (F12_locals_47 n h 0 x1i x2i) (G12_locals_47 n (rd h) x1 x2) := by
  induction n with
  | zero => intros; exact smI_none _
  | succ n ih =>
    intro h H x1i x1 ex1 qx1 x2i x2 ex2 qx2
    subst ex1 ex2
    rw [F12_locals_47, G12_locals_47]
    refine sm_if (z3_lt rfl l3_0 qx2 lr3_0) ?_ ?_
    · exact S12_locals_100 1024 H rfl qx1 l3_0 lr3_0 l3_0 lr3_0 l3_0 lr3_0
    · refine sm_rd (m_gR_12_77 H) ?_
      refine sgxI fun c1 => ?_
      refine sm_rd (m_aI_12_77 H rfl c1).1 ?_
      refine sm_if (z3_eq rfl l3_0 (m_aI_12_77 H rfl c1).2 lr3_0) ?_ ?_
      · refine sg3I fun c2 => ?_
        exact ih H rfl qx1 (z3_add rfl l3_m1) c2
      · refine sm_rd (m_gR_12_76 H) ?_
        refine sgxI fun c3 => ?_
        refine sm_rd (m_aI_12_76 H (z3_mul l3_3 rfl) c3).1 ?_
        refine sm_if (z3_le l3_0 rfl lr3_0 (m_aI_12_76 H (z3_mul l3_3 rfl) c3).2) ?_ ?_
        · refine sg3I fun c4 => ?_
          exact ih H rfl qx1 (z3_add rfl l3_m1) c4
        · refine sm_rd (m_gR_12_77 H) ?_
          refine sm_rd (m_gR_12_76 H) ?_
          refine sgxI fun c5 => ?_
          refine sm_rd (m_aI_12_76 H (z3_add (z3_mul l3_3 rfl) l3_1) c5).1 ?_
          refine sgxI fun c6 => ?_
          refine sgbI fun c7 => ?_
          refine sm_wt (m_sI_12_77 H rfl c6 (z3_bo l3_0 c7) (r3_b c7)) fun h19 Hh19 => ?_
          refine sg3I fun c8 => ?_
          exact ih Hh19 rfl qx1 (z3_add rfl l3_m1) c8
theorem S12_locals_19 (n : Nat) : ∀ {h : PH} (H : OKM h) {x1i : Int32} {x1 : Int} (ex1 : x1i = Z3 x1) (qx1 : r3 x1) {x2i : Int32} {x2 : Int} (ex2 : x2i = Z3 x2) (qx2 : r3 x2), SimI OKM (F12_locals_19 n h 0 x1i x2i) (G12_locals_19 n (rd h) x1 x2) := by
  induction n with
  | zero => intros; exact smI_none _
  | succ n ih =>
    intro h H x1i x1 ex1 qx1 x2i x2 ex2 qx2
    subst ex1 ex2
    rw [F12_locals_19, G12_locals_19]
    refine sm_II (S12_knownBy H) fun vo1 ho1 Ho1 ro1 => ?_
    refine sm_if (z3_le rfl rfl ro1 qx2) ?_ ?_
    · refine sm_II (S12_knownBy Ho1) fun vo4 ho4 Ho4 ro4 => ?_
      refine sg3I fun c1 => ?_
      exact S12_locals_47 1024 Ho4 rfl qx1 (z3_sub rfl l3_1) c1
    · refine sm_rd (m_gR_12_77 Ho1) ?_
      refine sgxI fun c2 => ?_
      refine sgbI fun c3 => ?_
      refine sm_wt (m_sI_12_77 Ho1 rfl c2 (z3_bo l3_1 c3) (r3_b c3)) fun h9 Hh9 => ?_
      refine sg3I fun c4 => ?_
      exact ih Hh9 rfl qx1 (z3_add rfl l3_1) c4
theorem S12_locals_0 {h : PH} (H : OKM h) {x1i : Int32} {x1 : Int} (ex1 : x1i = Z3 x1) (qx1 : r3 x1) : SimI OKM (F12_locals_0 h 0 x1i) (G12_locals_0 (rd h) x1) := by
  subst ex1
  unfold F12_locals_0 G12_locals_0
  refine sm_wt (m_pI_12_2 H l3_0 lr3_0) fun h1 Hh1 => ?_
  refine sm_II (S12_isIn Hh1 rfl qx1 l3_0 lr3_0 l3_12 lr3_12) fun vo3 ho3 Ho3 ro3 => ?_
  refine sm_if (z3_eq rfl l3_0 ro3 lr3_0) ?_ ?_
  · exact sm_retI Ho3 l3_m1 lr3_m1
  · exact S12_locals_19 1024 Ho3 rfl qx1 l3_0 lr3_0
theorem S12_locals {h : PH} (H : OKM h) {x1i : Int32} {x1 : Int} (ex1 : x1i = Z3 x1) (qx1 : r3 x1) : SimI OKM (F12_locals h 0 x1i) (G12_locals (rd h) x1) := by
  subst ex1
  unfold F12_locals G12_locals
  refine sm_cd (m_ok_12 H) ?_
  exact S12_locals_0 H rfl qx1
theorem S12_look_0 {h : PH} (H : OKM h) {x1i : Int32} {x1 : Int} (ex1 : x1i = Z3 x1) (qx1 : r3 x1) {x2i : Int32} {x2 : Int} (ex2 : x2i = Z3 x2) (qx2 : r3 x2) : SimI OKM (F12_look_0 h 0 x1i x2i) (G12_look_0 (rd h) x1 x2) := by
  subst ex1 ex2
  unfold F12_look_0 G12_look_0
  refine sm_wt (m_pI_12_2 H l3_0 lr3_0) fun h1 Hh1 => ?_
  refine sm_II (S12_isSurfer Hh1 rfl qx1) fun vo3 ho3 Ho3 ro3 => ?_
  refine sm_if (z3_eq rfl l3_0 ro3 lr3_0) ?_ ?_
  · refine sm_II (S12_fails Ho3 l3_1 lr3_1) fun vo46 ho46 Ho46 ro46 => ?_
    exact sm_retI Ho46 rfl ro46
  · refine sm_if (z3_eq rfl l3_0 qx2 lr3_0) ?_ ?_
    · refine sm_rd (m_gR_12_55 Ho3) ?_
      refine sgxI fun c1 => ?_
      refine sm_rd (m_aI_12_55 Ho3 rfl c1).1 ?_
      exact sm_retI Ho3 rfl (m_aI_12_55 Ho3 rfl c1).2
    · refine sm_if (z3_eq rfl l3_1 qx2 lr3_1) ?_ ?_
      · refine sm_rd (m_gR_12_56 Ho3) ?_
        refine sgxI fun c2 => ?_
        refine sm_rd (m_aI_12_56 Ho3 rfl c2).1 ?_
        exact sm_retI Ho3 rfl (m_aI_12_56 Ho3 rfl c2).2
      · refine sm_if (z3_eq rfl l3_2 qx2 lr3_2) ?_ ?_
        · refine sm_rd (m_gR_12_57 Ho3) ?_
          refine sgxI fun c3 => ?_
          refine sm_rd (m_aI_12_57 Ho3 rfl c3).1 ?_
          exact sm_retI Ho3 rfl (m_aI_12_57 Ho3 rfl c3).2
        · refine sm_if (z3_eq rfl l3_3 qx2 lr3_3) ?_ ?_
          · refine sm_rd (m_gR_12_58 Ho3) ?_
            refine sgxI fun c4 => ?_
            refine sm_rd (m_aI_12_58 Ho3 rfl c4).1 ?_
            exact sm_retI Ho3 rfl (m_aI_12_58 Ho3 rfl c4).2
          · refine sm_if (z3_eq rfl l3_4 qx2 lr3_4) ?_ ?_
            · refine sm_rd (m_gR_12_59 Ho3) ?_
              refine sgxI fun c5 => ?_
              refine sm_rd (m_aI_12_59 Ho3 rfl c5).1 ?_
              exact sm_retI Ho3 rfl (m_aI_12_59 Ho3 rfl c5).2
            · refine sm_if (z3_eq rfl l3_5 qx2 lr3_5) ?_ ?_
              · refine sm_rd (m_gR_12_55 Ho3) ?_
                refine sgxI fun c6 => ?_
                refine sm_rd (m_aI_12_55 Ho3 rfl c6).1 ?_
                refine sm_rd (m_gR_12_61 Ho3) ?_
                refine sm_rd (m_aI_12_61 Ho3 l3_0 ⟨by decide, by decide⟩).1 ?_
                refine sm_II (S12_peakAt Ho3 rfl ((m_aI_12_61 Ho3 l3_0 ⟨by decide, by decide⟩).2)) fun vo40 ho40 Ho40 ro40 => ?_
                refine sm_II (S12_far Ho40 rfl ((m_aI_12_55 Ho3 rfl c6).2) rfl ro40) fun vo42 ho42 Ho42 ro42 => ?_
                exact sm_retI Ho42 rfl ro42
              · refine sm_II (S12_fails Ho3 l3_2 lr3_2) fun vo44 ho44 Ho44 ro44 => ?_
                exact sm_retI Ho44 rfl ro44
theorem S12_look {h : PH} (H : OKM h) {x1i : Int32} {x1 : Int} (ex1 : x1i = Z3 x1) (qx1 : r3 x1) {x2i : Int32} {x2 : Int} (ex2 : x2i = Z3 x2) (qx2 : r3 x2) : SimI OKM (F12_look h 0 x1i x2i) (G12_look (rd h) x1 x2) := by
  subst ex1 ex2
  unfold F12_look G12_look
  refine sm_cd (m_ok_12 H) ?_
  exact S12_look_0 H rfl qx1 rfl qx2
theorem S12_minutes_94 {h : PH} (H : OKM h) {s0i : Int32} {s0 : Int} (es0 : s0i = Z3 s0) (qs0 : r3 s0) : SimI OKM (F12_minutes_94 h 0 s0i 0) (G12_minutes_94 (rd h) s0) := by
  subst es0
  unfold F12_minutes_94 G12_minutes_94
  refine sm_wt (m_pI_12_78 H rfl qs0) fun h1 Hh1 => ?_
  refine sm_rd (m_gR_12_61 Hh1) ?_
  refine sm_rd (m_aI_12_61 Hh1 l3_0 ⟨by decide, by decide⟩).1 ?_
  exact sm_retI Hh1 rfl (m_aI_12_61 Hh1 l3_0 ⟨by decide, by decide⟩).2
theorem S12_minutes_49 {k33 : PH → Nat → Int32 → Int32 → Option (Int32 × PH)} {kk33 : Mem → Int → Int → Option (Int × Mem)} (hk33 : ∀ {h : PH} (_ : OKM h) {x2 : Int32} {y2 : Int} (_ : x2 = Z3 y2) (_ : r3 y2) {x3 : Int32} {y3 : Int} (_ : x3 = Z3 y3) (_ : r3 y3), SimI OKM (k33 h 0 x2 x3) (kk33 (rd h) y2 y3)) (n : Nat) : ∀ {h : PH} (H : OKM h) {x1i : Int32} {x1 : Int} (ex1 : x1i = Z3 x1) (qx1 : r3 x1) {x2i : Int32} {x2 : Int} (ex2 : x2i = Z3 x2) (qx2 : r3 x2) {x3i : Int32} {x3 : Int} (ex3 : x3i = Z3 x3) (qx3 : r3 x3), SimI OKM (F12_minutes_49 k33 n h 0 x1i x2i x3i) (G12_minutes_49 kk33 n (rd h) x1 x2 x3) := by
  induction n with
  | zero => intros; exact smI_none _
  | succ n ih =>
    intro h H x1i x1 ex1 qx1 x2i x2 ex2 qx2 x3i x3 ex3 qx3
    subst ex1 ex2 ex3
    rw [F12_minutes_49, G12_minutes_49]
    refine sm_rd (m_gI_12_14 H).1 ?_
    refine sm_if (z3_le rfl rfl (m_gI_12_14 H).2 qx3) ?_ ?_
    · refine sg3I fun c1 => ?_
      exact hk33 H rfl qx1 (z3_add rfl l3_1) c1
    · refine sm_rd (m_gR_12_59 H) ?_
      refine sm_rd (m_gR_12_30 H) ?_
      refine sgxI fun c2 => ?_
      refine sm_rd (m_aI_12_30 H rfl c2).1 ?_
      refine sgxI fun c3 => ?_
      refine sm_wt (m_sI_12_59 H rfl c3 rfl (m_aI_12_30 H rfl c2).2) fun h11 Hh11 => ?_
      refine sg3I fun c4 => ?_
      exact ih Hh11 rfl qx1 rfl qx2 (z3_add rfl l3_1) c4
theorem S12_minutes_33 (n : Nat) : ∀ {h : PH} (H : OKM h) {x1i : Int32} {x1 : Int} (ex1 : x1i = Z3 x1) (qx1 : r3 x1) {x2i : Int32} {x2 : Int} (ex2 : x2i = Z3 x2) (qx2 : r3 x2), SimI OKM (F12_minutes_33 n h 0 x1i x2i) (G12_minutes_33 n (rd h) x1 x2) := by
  induction n with
  | zero => intros; exact smI_none _
  | succ n ih =>
    intro h H x1i x1 ex1 qx1 x2i x2 ex2 qx2
    subst ex1 ex2
    rw [F12_minutes_33, G12_minutes_33]
    refine sm_if (z3_le rfl rfl qx1 qx2) ?_ ?_
    · refine sm_if (z3_le rfl l3_0 qx1 lr3_0) ?_ ?_
      · refine sm_rd (m_gI_12_78 H).1 ?_
        exact S12_minutes_94 H rfl ((m_gI_12_78 H).2)
      · exact S12_minutes_94 H l3_0 lr3_0
    · refine sm_rd (m_gI_12_64 H).1 ?_
      refine sm_VI (S12_aMinute H l3_0 lr3_0 rfl ((m_gI_12_64 H).2)) fun ho7 Ho7 => ?_
      exact S12_minutes_49 (@fun _ H _ _ ex1 qx1 _ _ ex2 qx2 => ih H ex1 qx1 ex2 qx2) 1024 Ho7 rfl qx1 rfl qx2 l3_0 lr3_0
theorem S12_minutes_0 {h : PH} (H : OKM h) {x1i : Int32} {x1 : Int} (ex1 : x1i = Z3 x1) (qx1 : r3 x1) : SimI OKM (F12_minutes_0 h 0 x1i) (G12_minutes_0 (rd h) x1) := by
  subst ex1
  unfold F12_minutes_0 G12_minutes_0
  refine sm_wt (m_pI_12_2 H l3_0 lr3_0) fun h1 Hh1 => ?_
  refine sm_II (S12_isIn Hh1 rfl qx1 l3_0 lr3_0 l3_99 lr3_99) fun vo3 ho3 Ho3 ro3 => ?_
  refine sm_if (z3_eq rfl l3_0 ro3 lr3_0) ?_ ?_
  · exact sm_retI Ho3 l3_m1 lr3_m1
  · refine sm_rd (m_gR_12_61 Ho3) ?_
    refine sm_rd (m_aI_12_61 Ho3 l3_0 ⟨by decide, by decide⟩).1 ?_
    refine sg3I fun c1 => ?_
    refine sm_if (z3_le (z3_add rfl rfl) l3_199 c1 lr3_199) ?_ ?_
    · exact S12_minutes_33 1024 Ho3 rfl qx1 l3_0 lr3_0
    · exact sm_retI Ho3 l3_m1 lr3_m1
theorem S12_minutes {h : PH} (H : OKM h) {x1i : Int32} {x1 : Int} (ex1 : x1i = Z3 x1) (qx1 : r3 x1) : SimI OKM (F12_minutes h 0 x1i) (G12_minutes (rd h) x1) := by
  subst ex1
  unfold F12_minutes G12_minutes
  refine sm_cd (m_ok_12 H) ?_
  exact S12_minutes_0 H rfl qx1
theorem S12_named_0 {h : PH} (H : OKM h) {x1i : Int32} {x1 : Int} (ex1 : x1i = Z3 x1) (qx1 : r3 x1) : SimI OKM (F12_named_0 h 0 x1i) (G12_named_0 (rd h) x1) := by
  subst ex1
  unfold F12_named_0 G12_named_0
  refine sm_wt (m_pI_12_2 H l3_0 lr3_0) fun h1 Hh1 => ?_
  refine sm_rd (m_gR_12_27 Hh1) ?_
  refine sm_rd (m_gI_12_14 Hh1).1 ?_
  refine sm_II (S12_find Hh1 l3_0 lr3_0 rfl ((m_gI_12_14 Hh1).2) rfl qx1) fun vo7 ho7 Ho7 ro7 => ?_
  exact sm_retI Ho7 rfl ro7
theorem S12_named {h : PH} (H : OKM h) {x1i : Int32} {x1 : Int} (ex1 : x1i = Z3 x1) (qx1 : r3 x1) : SimI OKM (F12_named h 0 x1i) (G12_named (rd h) x1) := by
  subst ex1
  unfold F12_named G12_named
  refine sm_cd (m_ok_12 H) ?_
  exact S12_named_0 H rfl qx1
theorem S12_next_7 (n : Nat) : ∀ {h : PH} (H : OKM h) {x1i : Int32} {x1 : Int} (ex1 : x1i = Z3 x1) (qx1 : r3 x1), SimI OKM (F12_next_7 n h 0 x1i) (G12_next_7 n (rd h) x1) := by
  induction n with
  | zero => intros; exact smI_none _
  | succ n ih =>
    intro h H x1i x1 ex1 qx1
    subst ex1
    rw [F12_next_7, G12_next_7]
    refine sm_rd (m_gI_12_15 H).1 ?_
    refine sm_if (z3_le rfl rfl (m_gI_12_15 H).2 qx1) ?_ ?_
    · exact sm_retI H l3_m2 lr3_m2
    · refine sm_rd (m_gR_12_34 H) ?_
      refine sm_rd (m_gR_12_33 H) ?_
      refine sgxI fun c1 => ?_
      refine sm_rd (m_aI_12_33 H rfl c1).1 ?_
      refine sgxI fun c2 => ?_
      refine sm_rd (m_aI_12_34 H rfl c2).1 ?_
      refine sm_rd (m_gR_12_61 H) ?_
      refine sm_rd (m_aI_12_61 H l3_0 ⟨by decide, by decide⟩).1 ?_
      refine sm_if (z3_lt rfl rfl (m_aI_12_34 H rfl c2).2 (m_aI_12_61 H l3_0 ⟨by decide, by decide⟩).2) ?_ ?_
      · refine sg3I fun c3 => ?_
        exact ih H (z3_add rfl l3_1) c3
      · refine sm_rd (m_gR_12_34 H) ?_
        refine sm_rd (m_gR_12_33 H) ?_
        refine sgxI fun c4 => ?_
        refine sm_rd (m_aI_12_33 H rfl c4).1 ?_
        refine sgxI fun c5 => ?_
        refine sm_rd (m_aI_12_34 H rfl c5).1 ?_
        refine sm_rd (m_gR_12_61 H) ?_
        refine sm_rd (m_aI_12_61 H l3_0 ⟨by decide, by decide⟩).1 ?_
        refine sg3I fun c6 => ?_
        exact sm_retI H (z3_sub rfl rfl) c6
theorem S12_next_0 {h : PH} (H : OKM h) : SimI OKM (F12_next_0 h 0) (G12_next_0 (rd h)) := by
  unfold F12_next_0 G12_next_0
  refine sm_wt (m_pI_12_2 H l3_0 lr3_0) fun h1 Hh1 => ?_
  exact S12_next_7 1024 Hh1 l3_0 lr3_0
theorem S12_next {h : PH} (H : OKM h) : SimI OKM (F12_next h 0) (G12_next (rd h)) := by
  unfold F12_next G12_next
  refine sm_cd (m_ok_12 H) ?_
  exact S12_next_0 H
theorem S12_noted_0 {h : PH} (H : OKM h) {x1i : Int32} {x1 : Int} (ex1 : x1i = Z3 x1) (qx1 : r3 x1) {x2i : Int32} {x2 : Int} (ex2 : x2i = Z3 x2) (qx2 : r3 x2) {x3i : Int32} {x3 : Int} (ex3 : x3i = Z3 x3) (qx3 : r3 x3) : SimI OKM (F12_noted_0 h 0 x1i x2i x3i) (G12_noted_0 (rd h) x1 x2 x3) := by
  subst ex1 ex2 ex3
  unfold F12_noted_0 G12_noted_0
  refine sm_rd (m_gR_12_76 H) ?_
  refine sm_rd (m_gI_12_74 H).1 ?_
  refine sgxI fun c1 => ?_
  refine sm_wt (m_sI_12_76 H (z3_mul l3_3 rfl) c1 rfl qx1) fun h6 Hh6 => ?_
  refine sm_rd (m_gR_12_76 Hh6) ?_
  refine sm_rd (m_gI_12_74 Hh6).1 ?_
  refine sgxI fun c2 => ?_
  refine sm_wt (m_sI_12_76 Hh6 (z3_add (z3_mul l3_3 rfl) l3_1) c2 rfl qx2) fun h12 Hh12 => ?_
  refine sm_rd (m_gR_12_76 Hh12) ?_
  refine sm_rd (m_gI_12_74 Hh12).1 ?_
  refine sgxI fun c3 => ?_
  refine sm_wt (m_sI_12_76 Hh12 (z3_add (z3_mul l3_3 rfl) l3_2) c3 rfl qx3) fun h18 Hh18 => ?_
  refine sm_rd (m_gI_12_74 Hh18).1 ?_
  refine sg3I fun c4 => ?_
  refine sm_wt (m_pI_12_74 Hh18 (z3_add rfl l3_1) c4) fun h21 Hh21 => ?_
  refine sm_rd (m_gI_12_74 Hh21).1 ?_
  refine sg3I fun c5 => ?_
  exact sm_retI Hh21 (z3_sub rfl l3_1) c5
theorem S12_noted {h : PH} (H : OKM h) {x1i : Int32} {x1 : Int} (ex1 : x1i = Z3 x1) (qx1 : r3 x1) {x2i : Int32} {x2 : Int} (ex2 : x2i = Z3 x2) (qx2 : r3 x2) {x3i : Int32} {x3 : Int} (ex3 : x3i = Z3 x3) (qx3 : r3 x3) : SimI OKM (F12_noted h 0 x1i x2i x3i) (G12_noted (rd h) x1 x2 x3) := by
  subst ex1 ex2 ex3
  unfold F12_noted G12_noted
  refine sm_cd (m_ok_12 H) ?_
  exact S12_noted_0 H rfl qx1 rfl qx2 rfl qx3
theorem S12_note_0 {h : PH} (H : OKM h) {x1i : Int32} {x1 : Int} (ex1 : x1i = Z3 x1) (qx1 : r3 x1) {x2i : Int32} {x2 : Int} (ex2 : x2i = Z3 x2) (qx2 : r3 x2) {x3i : Int32} {x3 : Int} (ex3 : x3i = Z3 x3) (qx3 : r3 x3) : SimI OKM (F12_note_0 h 0 x1i x2i x3i) (G12_note_0 (rd h) x1 x2 x3) := by
  subst ex1 ex2 ex3
  unfold F12_note_0 G12_note_0
  refine sm_wt (m_pI_12_2 H l3_0 lr3_0) fun h1 Hh1 => ?_
  refine sm_rd (m_gI_12_74 Hh1).1 ?_
  refine sm_if (z3_eq rfl l3_24 (m_gI_12_74 Hh1).2 lr3_24) ?_ ?_
  · exact sm_retI Hh1 l3_m1 lr3_m1
  · refine sm_II (S12_isIn Hh1 rfl qx1 l3_0 lr3_0 l3_199 lr3_199) fun vo6 ho6 Ho6 ro6 => ?_
    refine sm_if (z3_eq rfl l3_0 ro6 lr3_0) ?_ ?_
    · exact sm_retI Ho6 l3_m1 lr3_m1
    · refine sm_II (S12_isSurfer Ho6 rfl qx2) fun vo9 ho9 Ho9 ro9 => ?_
      refine sm_if (z3_eq rfl l3_0 ro9 lr3_0) ?_ ?_
      · exact sm_retI Ho9 l3_m1 lr3_m1
      · refine sm_II (S12_isCell Ho9 rfl qx3) fun vo12 ho12 Ho12 ro12 => ?_
        refine sm_if (z3_eq rfl l3_0 ro12 lr3_0) ?_ ?_
        · exact sm_retI Ho12 l3_m1 lr3_m1
        · refine sm_II (S12_noted Ho12 rfl qx1 rfl qx2 rfl qx3) fun vo15 ho15 Ho15 ro15 => ?_
          exact sm_retI Ho15 rfl ro15
theorem S12_note {h : PH} (H : OKM h) {x1i : Int32} {x1 : Int} (ex1 : x1i = Z3 x1) (qx1 : r3 x1) {x2i : Int32} {x2 : Int} (ex2 : x2i = Z3 x2) (qx2 : r3 x2) {x3i : Int32} {x3 : Int} (ex3 : x3i = Z3 x3) (qx3 : r3 x3) : SimI OKM (F12_note h 0 x1i x2i x3i) (G12_note (rd h) x1 x2 x3) := by
  subst ex1 ex2 ex3
  unfold F12_note G12_note
  refine sm_cd (m_ok_12 H) ?_
  exact S12_note_0 H rfl qx1 rfl qx2 rfl qx3
theorem S12_odds_0 {h : PH} (H : OKM h) {x1i : Int32} {x1 : Int} (ex1 : x1i = Z3 x1) (qx1 : r3 x1) {x2i : Int32} {x2 : Int} (ex2 : x2i = Z3 x2) (qx2 : r3 x2) {x3i : Int32} {x3 : Int} (ex3 : x3i = Z3 x3) (qx3 : r3 x3) : SimI OKM (F12_odds_0 h 0 x1i x2i x3i) (G12_odds_0 (rd h) x1 x2 x3) := by
  subst ex1 ex2 ex3
  unfold F12_odds_0 G12_odds_0
  refine sm_wt (m_pI_12_2 H l3_0 lr3_0) fun h1 Hh1 => ?_
  refine sm_II (S12_isSurfer Hh1 rfl qx1) fun vo3 ho3 Ho3 ro3 => ?_
  refine sm_if (z3_eq rfl l3_0 ro3 lr3_0) ?_ ?_
  · exact sm_retI Ho3 l3_m1 lr3_m1
  · refine sm_II (S12_isWave Ho3 rfl qx2) fun vo6 ho6 Ho6 ro6 => ?_
    refine sm_if (z3_eq rfl l3_0 ro6 lr3_0) ?_ ?_
    · exact sm_retI Ho6 l3_m1 lr3_m1
    · refine sm_II (S12_isCell Ho6 rfl qx3) fun vo9 ho9 Ho9 ro9 => ?_
      refine sm_if (z3_eq rfl l3_0 ro9 lr3_0) ?_ ?_
      · exact sm_retI Ho9 l3_m1 lr3_m1
      · refine sm_II (S12_oddsOf Ho9 rfl qx1 rfl qx2 rfl qx3) fun vo12 ho12 Ho12 ro12 => ?_
        exact sm_retI Ho12 rfl ro12
theorem S12_odds {h : PH} (H : OKM h) {x1i : Int32} {x1 : Int} (ex1 : x1i = Z3 x1) (qx1 : r3 x1) {x2i : Int32} {x2 : Int} (ex2 : x2i = Z3 x2) (qx2 : r3 x2) {x3i : Int32} {x3 : Int} (ex3 : x3i = Z3 x3) (qx3 : r3 x3) : SimI OKM (F12_odds h 0 x1i x2i x3i) (G12_odds (rd h) x1 x2 x3) := by
  subst ex1 ex2 ex3
  unfold F12_odds G12_odds
  refine sm_cd (m_ok_12 H) ?_
  exact S12_odds_0 H rfl qx1 rfl qx2 rfl qx3
theorem S12_order_0 {h : PH} (H : OKM h) {x1i : Int32} {x1 : Int} (ex1 : x1i = Z3 x1) (qx1 : r3 x1) {x2i : Int32} {x2 : Int} (ex2 : x2i = Z3 x2) (qx2 : r3 x2) : SimI OKM (F12_order_0 h 0 x1i x2i) (G12_order_0 (rd h) x1 x2) := by
  subst ex1 ex2
  unfold F12_order_0 G12_order_0
  refine sm_wt (m_pI_12_2 H l3_0 lr3_0) fun h1 Hh1 => ?_
  refine sm_II (S12_isToCome Hh1 rfl qx1) fun vo3 ho3 Ho3 ro3 => ?_
  refine sm_if (z3_eq rfl l3_0 ro3 lr3_0) ?_ ?_
  · exact sm_retI Ho3 l3_m1 lr3_m1
  · refine sm_if (z3_le l3_0 rfl lr3_0 qx2) ?_ ?_
    · refine sm_rd (m_gI_12_64 Ho3).1 ?_
      refine sm_VI (S12_layOrder Ho3 l3_0 lr3_0 rfl qx1 rfl ((m_gI_12_64 Ho3).2)) fun ho9 Ho9 => ?_
      refine sm_rd (m_gI_12_69 Ho9).1 ?_
      refine sm_if (z3_lt rfl rfl qx2 (m_gI_12_69 Ho9).2) ?_ ?_
      · refine sm_rd (m_gR_12_68 Ho9) ?_
        refine sgxI fun c1 => ?_
        refine sm_rd (m_aI_12_68 Ho9 rfl c1).1 ?_
        exact sm_retI Ho9 rfl (m_aI_12_68 Ho9 rfl c1).2
      · exact sm_retI Ho9 l3_m2 lr3_m2
    · exact sm_retI Ho3 l3_m1 lr3_m1
theorem S12_order {h : PH} (H : OKM h) {x1i : Int32} {x1 : Int} (ex1 : x1i = Z3 x1) (qx1 : r3 x1) {x2i : Int32} {x2 : Int} (ex2 : x2i = Z3 x2) (qx2 : r3 x2) : SimI OKM (F12_order h 0 x1i x2i) (G12_order (rd h) x1 x2) := by
  subst ex1 ex2
  unfold F12_order G12_order
  refine sm_cd (m_ok_12 H) ?_
  exact S12_order_0 H rfl qx1 rfl qx2
theorem S12_over_87 {k50 : PH → Nat → Int32 → Int32 → Int32 → Option (Int32 × PH)} {kk50 : Mem → Int → Int → Int → Option (Int × Mem)} (hk50 : ∀ {h : PH} (_ : OKM h) {x2 : Int32} {y2 : Int} (_ : x2 = Z3 y2) (_ : r3 y2) {x3 : Int32} {y3 : Int} (_ : x3 = Z3 y3) (_ : r3 y3) {x4 : Int32} {y4 : Int} (_ : x4 = Z3 y4) (_ : r3 y4), SimI OKM (k50 h 0 x2 x3 x4) (kk50 (rd h) y2 y3 y4)) {h : PH} (H : OKM h) {x1i : Int32} {x1 : Int} (ex1 : x1i = Z3 x1) (qx1 : r3 x1) {x2i : Int32} {x2 : Int} (ex2 : x2i = Z3 x2) (qx2 : r3 x2) {x3i : Int32} {x3 : Int} (ex3 : x3i = Z3 x3) (qx3 : r3 x3) {s0i : Int32} {s0 : Int} (es0 : s0i = Z3 s0) (qs0 : r3 s0) : SimI OKM (F12_over_87 k50 h 0 x1i x2i x3i s0i) (G12_over_87 kk50 (rd h) x1 x2 x3 s0) := by
  subst ex1 ex2 ex3 es0
  unfold F12_over_87 G12_over_87
  refine sm_rd (m_gR_12_26 H) ?_
  refine sm_rd (m_aI_12_26 H l3_4 ⟨by decide, by decide⟩).1 ?_
  refine sm_rd (m_gR_12_55 H) ?_
  refine sgxI fun c1 => ?_
  refine sm_rd (m_aI_12_55 H rfl c1).1 ?_
  refine sm_II (S12_seatFrom H rfl qx1 rfl ((m_aI_12_55 H rfl c1).2) rfl qx3) fun vo9 ho9 Ho9 ro9 => ?_
  refine sg3I fun c2 => ?_
  refine sm_if (z3_le (z3_mul (z3_mul l3_100 rfl) rfl) rfl c2 ro9) ?_ ?_
  · refine sg3I fun c3 => ?_
    exact hk50 Ho9 rfl qx1 rfl qx2 (z3_add rfl l3_1) c3
  · exact sm_retI Ho9 rfl qx3
theorem S12_over_50 (n : Nat) : ∀ {h : PH} (H : OKM h) {x1i : Int32} {x1 : Int} (ex1 : x1i = Z3 x1) (qx1 : r3 x1) {x2i : Int32} {x2 : Int} (ex2 : x2i = Z3 x2) (qx2 : r3 x2) {x3i : Int32} {x3 : Int} (ex3 : x3i = Z3 x3) (qx3 : r3 x3), SimI OKM (F12_over_50 n h 0 x1i x2i x3i) (G12_over_50 n (rd h) x1 x2 x3) := by
  induction n with
  | zero => intros; exact smI_none _
  | succ n ih =>
    intro h H x1i x1 ex1 qx1 x2i x2 ex2 qx2 x3i x3 ex3 qx3
    subst ex1 ex2 ex3
    rw [F12_over_50, G12_over_50]
    refine sm_if (z3_lt rfl rfl qx2 qx3) ?_ ?_
    · exact sm_retI H l3_m2 lr3_m2
    · refine sm_rd (m_gR_12_26 H) ?_
      refine sm_rd (m_aI_12_26 H l3_2 ⟨by decide, by decide⟩).1 ?_
      refine sg3I fun c1 => ?_
      refine sm_if (z3_le l3_0 (z3_sub (z3_sub rfl rfl) rfl) lr3_0 c1) ?_ ?_
      · refine sm_rd (m_gR_12_26 H) ?_
        refine sm_rd (m_aI_12_26 H l3_3 ⟨by decide, by decide⟩).1 ?_
        refine sm_if (z3_eq rfl l3_0 (m_aI_12_26 H l3_3 ⟨by decide, by decide⟩).2 lr3_0) ?_ ?_
        · exact smI_none _
        · refine sg3I fun c2 => ?_
          refine sgdI fun c3 => ?_
          refine sg3I fun c4 => ?_
          exact S12_over_87 (@fun _ H _ _ ex1 qx1 _ _ ex2 qx2 _ _ ex3 qx3 => ih H ex1 qx1 ex2 qx2 ex3 qx3) H rfl qx1 rfl qx2 rfl qx3 (z3_add (z3_div (z3_sub (z3_sub rfl rfl) rfl) rfl c2 (m_aI_12_26 H l3_3 ⟨by decide, by decide⟩).2 c3) l3_1) c4
      · exact S12_over_87 (@fun _ H _ _ ex1 qx1 _ _ ex2 qx2 _ _ ex3 qx3 => ih H ex1 qx1 ex2 qx2 ex3 qx3) H rfl qx1 rfl qx2 rfl qx3 l3_0 lr3_0
theorem S12_over_0 {h : PH} (H : OKM h) {x1i : Int32} {x1 : Int} (ex1 : x1i = Z3 x1) (qx1 : r3 x1) : SimI OKM (F12_over_0 h 0 x1i) (G12_over_0 (rd h) x1) := by
  subst ex1
  unfold F12_over_0 G12_over_0
  refine sm_wt (m_pI_12_2 H l3_0 lr3_0) fun h1 Hh1 => ?_
  refine sm_II (S12_isSurfer Hh1 rfl qx1) fun vo3 ho3 Ho3 ro3 => ?_
  refine sm_if (z3_eq rfl l3_0 ro3 lr3_0) ?_ ?_
  · exact sm_retI Ho3 l3_m1 lr3_m1
  · refine sm_rd (m_gR_12_26 Ho3) ?_
    refine sm_rd (m_aI_12_26 Ho3 l3_2 ⟨by decide, by decide⟩).1 ?_
    refine sm_if (z3_eq rfl l3_0 (m_aI_12_26 Ho3 l3_2 ⟨by decide, by decide⟩).2 lr3_0) ?_ ?_
    · exact sm_retI Ho3 l3_m1 lr3_m1
    · refine sm_rd (m_gI_12_16 Ho3).1 ?_
      refine sm_if (z3_eq rfl l3_0 (m_gI_12_16 Ho3).2 lr3_0) ?_ ?_
      · exact sm_retI Ho3 l3_m1 lr3_m1
      · refine sm_rd (m_gR_12_34 Ho3) ?_
        refine sm_rd (m_gI_12_16 Ho3).1 ?_
        refine sgxI fun c1 => ?_
        refine sm_rd (m_aI_12_34 Ho3 (z3_sub rfl l3_1) c1).1 ?_
        refine sm_rd (m_gR_12_61 Ho3) ?_
        refine sm_rd (m_aI_12_61 Ho3 l3_0 ⟨by decide, by decide⟩).1 ?_
        exact S12_over_50 1024 Ho3 rfl qx1 rfl ((m_aI_12_34 Ho3 (z3_sub rfl l3_1) c1).2) rfl ((m_aI_12_61 Ho3 l3_0 ⟨by decide, by decide⟩).2)
theorem S12_over {h : PH} (H : OKM h) {x1i : Int32} {x1 : Int} (ex1 : x1i = Z3 x1) (qx1 : r3 x1) : SimI OKM (F12_over h 0 x1i) (G12_over (rd h) x1) := by
  subst ex1
  unfold F12_over G12_over
  refine sm_cd (m_ok_12 H) ?_
  exact S12_over_0 H rfl qx1
theorem S12_peak_0 {h : PH} (H : OKM h) {x1i : Int32} {x1 : Int} (ex1 : x1i = Z3 x1) (qx1 : r3 x1) : SimI OKM (F12_peak_0 h 0 x1i) (G12_peak_0 (rd h) x1) := by
  subst ex1
  unfold F12_peak_0 G12_peak_0
  refine sm_wt (m_pI_12_2 H l3_0 lr3_0) fun h1 Hh1 => ?_
  refine sm_II (S12_isIn Hh1 rfl qx1 l3_0 lr3_0 l3_199 lr3_199) fun vo3 ho3 Ho3 ro3 => ?_
  refine sm_if (z3_eq rfl l3_0 ro3 lr3_0) ?_ ?_
  · exact sm_retI Ho3 l3_m1 lr3_m1
  · refine sm_II (S12_peakAt Ho3 rfl qx1) fun vo6 ho6 Ho6 ro6 => ?_
    exact sm_retI Ho6 rfl ro6
theorem S12_peak {h : PH} (H : OKM h) {x1i : Int32} {x1 : Int} (ex1 : x1i = Z3 x1) (qx1 : r3 x1) : SimI OKM (F12_peak h 0 x1i) (G12_peak (rd h) x1) := by
  subst ex1
  unfold F12_peak G12_peak
  refine sm_cd (m_ok_12 H) ?_
  exact S12_peak_0 H rfl qx1
theorem S12_plan_0 {h : PH} (H : OKM h) {x1i : Int32} {x1 : Int} (ex1 : x1i = Z3 x1) (qx1 : r3 x1) : SimI OKM (F12_plan_0 h 0 x1i) (G12_plan_0 (rd h) x1) := by
  subst ex1
  unfold F12_plan_0 G12_plan_0
  refine sm_wt (m_pI_12_2 H l3_0 lr3_0) fun h1 Hh1 => ?_
  refine sm_II (S12_isSurfer Hh1 rfl qx1) fun vo3 ho3 Ho3 ro3 => ?_
  refine sm_if (z3_eq rfl l3_0 ro3 lr3_0) ?_ ?_
  · exact sm_retI Ho3 l3_m1 lr3_m1
  · refine sm_VI (S12_layPlan Ho3 rfl qx1) fun ho6 Ho6 => ?_
    refine sm_rd (m_gR_12_72 Ho6) ?_
    refine sm_II (S12_firstToCome Ho6) fun vo10 ho10 Ho10 ro10 => ?_
    refine sgxI fun c1 => ?_
    refine sm_rd (m_aI_12_72 Ho10 rfl c1).1 ?_
    exact sm_retI Ho10 rfl (m_aI_12_72 Ho10 rfl c1).2
theorem S12_plan {h : PH} (H : OKM h) {x1i : Int32} {x1 : Int} (ex1 : x1i = Z3 x1) (qx1 : r3 x1) : SimI OKM (F12_plan h 0 x1i) (G12_plan (rd h) x1) := by
  subst ex1
  unfold F12_plan G12_plan
  refine sm_cd (m_ok_12 H) ?_
  exact S12_plan_0 H rfl qx1
theorem S12_planned_109 {k32 : PH → Nat → Int32 → Int32 → Int32 → Option (Int32 × PH)} {kk32 : Mem → Int → Int → Int → Option (Int × Mem)} (hk32 : ∀ {h : PH} (_ : OKM h) {x2 : Int32} {y2 : Int} (_ : x2 = Z3 y2) (_ : r3 y2) {x3 : Int32} {y3 : Int} (_ : x3 = Z3 y3) (_ : r3 y3) {x4 : Int32} {y4 : Int} (_ : x4 = Z3 y4) (_ : r3 y4), SimI OKM (k32 h 0 x2 x3 x4) (kk32 (rd h) y2 y3 y4)) {h : PH} (H : OKM h) {x1i : Int32} {x1 : Int} (ex1 : x1i = Z3 x1) (qx1 : r3 x1) {x4i : Int32} {x4 : Int} (ex4 : x4i = Z3 x4) (qx4 : r3 x4) {x5i : Int32} {x5 : Int} (ex5 : x5i = Z3 x5) (qx5 : r3 x5) {s0i : Int32} {s0 : Int} (es0 : s0i = Z3 s0) (qs0 : r3 s0) {s1i : Int32} {s1 : Int} (es1 : s1i = Z3 s1) (qs1 : r3 s1) : SimI OKM (F12_planned_109 k32 h 0 x1i x4i x5i s0i s1i) (G12_planned_109 kk32 (rd h) x1 x4 x5 s0 s1) := by
  subst ex1 ex4 ex5 es0 es1
  unfold F12_planned_109 G12_planned_109
  refine sm_if (z3_eq rfl l3_0 qx5 lr3_0) ?_ ?_
  · refine sg3I fun c1 => ?_
    refine sg3I fun c2 => ?_
    exact hk32 H rfl qx1 (z3_sub rfl rfl) c1 (z3_add rfl l3_1) c2
  · refine sm_rd (m_gR_12_73 H) ?_
    refine sgxI fun c3 => ?_
    refine sm_rd (m_aI_12_73 H rfl c3).1 ?_
    refine sg3I fun c4 => ?_
    exact hk32 H rfl qx1 (z3_sub rfl rfl) c4 rfl ((m_aI_12_73 H rfl c3).2)
theorem S12_planned_98 {k32 : PH → Nat → Int32 → Int32 → Int32 → Option (Int32 × PH)} {kk32 : Mem → Int → Int → Int → Option (Int × Mem)} (hk32 : ∀ {h : PH} (_ : OKM h) {x2 : Int32} {y2 : Int} (_ : x2 = Z3 y2) (_ : r3 y2) {x3 : Int32} {y3 : Int} (_ : x3 = Z3 y3) (_ : r3 y3) {x4 : Int32} {y4 : Int} (_ : x4 = Z3 y4) (_ : r3 y4), SimI OKM (k32 h 0 x2 x3 x4) (kk32 (rd h) y2 y3 y4)) {h : PH} (H : OKM h) {x1i : Int32} {x1 : Int} (ex1 : x1i = Z3 x1) (qx1 : r3 x1) {x3i : Int32} {x3 : Int} (ex3 : x3i = Z3 x3) (qx3 : r3 x3) {x4i : Int32} {x4 : Int} (ex4 : x4i = Z3 x4) (qx4 : r3 x4) {x5i : Int32} {x5 : Int} (ex5 : x5i = Z3 x5) (qx5 : r3 x5) : SimI OKM (F12_planned_98 k32 h 0 x1i x3i x4i x5i) (G12_planned_98 kk32 (rd h) x1 x3 x4 x5) := by
  subst ex1 ex3 ex4 ex5
  unfold F12_planned_98 G12_planned_98
  refine sm_if (z3_eq rfl l3_0 qx5 lr3_0) ?_ ?_
  · exact S12_planned_109 hk32 H rfl qx1 rfl qx4 rfl qx5 l3_0 lr3_0 rfl qx3
  · exact S12_planned_109 hk32 H rfl qx1 rfl qx4 rfl qx5 l3_1 lr3_1 rfl qx3
theorem S12_planned_84 {k32 : PH → Nat → Int32 → Int32 → Int32 → Option (Int32 × PH)} {kk32 : Mem → Int → Int → Int → Option (Int × Mem)} (hk32 : ∀ {h : PH} (_ : OKM h) {x2 : Int32} {y2 : Int} (_ : x2 = Z3 y2) (_ : r3 y2) {x3 : Int32} {y3 : Int} (_ : x3 = Z3 y3) (_ : r3 y3) {x4 : Int32} {y4 : Int} (_ : x4 = Z3 y4) (_ : r3 y4), SimI OKM (k32 h 0 x2 x3 x4) (kk32 (rd h) y2 y3 y4)) {h : PH} (H : OKM h) {x1i : Int32} {x1 : Int} (ex1 : x1i = Z3 x1) (qx1 : r3 x1) {x3i : Int32} {x3 : Int} (ex3 : x3i = Z3 x3) (qx3 : r3 x3) {x4i : Int32} {x4 : Int} (ex4 : x4i = Z3 x4) (qx4 : r3 x4) {s0i : Int32} {s0 : Int} (es0 : s0i = Z3 s0) (qs0 : r3 s0) : SimI OKM (F12_planned_84 k32 h 0 x1i x3i x4i s0i) (G12_planned_84 kk32 (rd h) x1 x3 x4 s0) := by
  subst ex1 ex3 ex4 es0
  unfold F12_planned_84 G12_planned_84
  refine sm_if (z3_eq rfl l3_0 qs0 lr3_0) ?_ ?_
  · exact S12_planned_98 hk32 H rfl qx1 rfl qx3 rfl qx4 rfl qs0
  · refine sm_if (z3_eq rfl l3_0 qx3 lr3_0) ?_ ?_
    · exact sm_retI H rfl qx4
    · exact S12_planned_98 hk32 H rfl qx1 rfl qx3 rfl qx4 rfl qs0
theorem S12_planned_32 (n : Nat) : ∀ {h : PH} (H : OKM h) {x1i : Int32} {x1 : Int} (ex1 : x1i = Z3 x1) (qx1 : r3 x1) {x3i : Int32} {x3 : Int} (ex3 : x3i = Z3 x3) (qx3 : r3 x3) {x4i : Int32} {x4 : Int} (ex4 : x4i = Z3 x4) (qx4 : r3 x4), SimI OKM (F12_planned_32 n h 0 x1i x3i x4i) (G12_planned_32 n (rd h) x1 x3 x4) := by
  induction n with
  | zero => intros; exact smI_none _
  | succ n ih =>
    intro h H x1i x1 ex1 qx1 x3i x3 ex3 qx3 x4i x4 ex4 qx4
    subst ex1 ex3 ex4
    rw [F12_planned_32, G12_planned_32]
    refine sm_rd (m_gI_12_16 H).1 ?_
    refine sm_if (z3_le rfl rfl (m_gI_12_16 H).2 qx4) ?_ ?_
    · exact sm_retI H l3_m2 lr3_m2
    · refine sm_rd (m_gR_12_55 H) ?_
      refine sgxI fun c1 => ?_
      refine sm_rd (m_aI_12_55 H rfl c1).1 ?_
      refine sm_II (S12_gainOf H rfl qx1 rfl qx4 rfl ((m_aI_12_55 H rfl c1).2)) fun vo8 ho8 Ho8 ro8 => ?_
      refine sm_rd (m_gR_12_72 Ho8) ?_
      refine sm_rd (m_gR_12_73 Ho8) ?_
      refine sgxI fun c2 => ?_
      refine sm_rd (m_aI_12_73 Ho8 rfl c2).1 ?_
      refine sgxI fun c3 => ?_
      refine sm_rd (m_aI_12_72 Ho8 rfl c3).1 ?_
      refine sm_rd (m_gR_12_72 Ho8) ?_
      refine sgxI fun c4 => ?_
      refine sm_rd (m_aI_12_72 Ho8 (z3_add rfl l3_1) c4).1 ?_
      refine sg3I fun c5 => ?_
      refine sm_if (z3_lt (z3_add rfl rfl) rfl c5 (m_aI_12_72 Ho8 (z3_add rfl l3_1) c4).2) ?_ ?_
      · exact S12_planned_84 (@fun _ H _ _ ex1 qx1 _ _ ex3 qx3 _ _ ex4 qx4 => ih H ex1 qx1 ex3 qx3 ex4 qx4) Ho8 rfl qx1 rfl qx3 rfl qx4 l3_0 lr3_0
      · exact S12_planned_84 (@fun _ H _ _ ex1 qx1 _ _ ex3 qx3 _ _ ex4 qx4 => ih H ex1 qx1 ex3 qx3 ex4 qx4) Ho8 rfl qx1 rfl qx3 rfl qx4 l3_1 lr3_1
theorem S12_planned_0 {h : PH} (H : OKM h) {x1i : Int32} {x1 : Int} (ex1 : x1i = Z3 x1) (qx1 : r3 x1) {x2i : Int32} {x2 : Int} (ex2 : x2i = Z3 x2) (qx2 : r3 x2) : SimI OKM (F12_planned_0 h 0 x1i x2i) (G12_planned_0 (rd h) x1 x2) := by
  subst ex1 ex2
  unfold F12_planned_0 G12_planned_0
  refine sm_wt (m_pI_12_2 H l3_0 lr3_0) fun h1 Hh1 => ?_
  refine sm_II (S12_isSurfer Hh1 rfl qx1) fun vo3 ho3 Ho3 ro3 => ?_
  refine sm_if (z3_eq rfl l3_0 ro3 lr3_0) ?_ ?_
  · exact sm_retI Ho3 l3_m1 lr3_m1
  · refine sm_if (z3_le l3_0 rfl lr3_0 qx2) ?_ ?_
    · refine sm_VI (S12_layPlan Ho3 rfl qx1) fun ho7 Ho7 => ?_
      refine sm_II (S12_firstToCome Ho7) fun vo9 ho9 Ho9 ro9 => ?_
      exact S12_planned_32 1024 Ho9 rfl qx1 rfl qx2 rfl ro9
    · exact sm_retI Ho3 l3_m1 lr3_m1
theorem S12_planned {h : PH} (H : OKM h) {x1i : Int32} {x1 : Int} (ex1 : x1i = Z3 x1) (qx1 : r3 x1) {x2i : Int32} {x2 : Int} (ex2 : x2i = Z3 x2) (qx2 : r3 x2) : SimI OKM (F12_planned h 0 x1i x2i) (G12_planned (rd h) x1 x2) := by
  subst ex1 ex2
  unfold F12_planned G12_planned
  refine sm_cd (m_ok_12 H) ?_
  exact S12_planned_0 H rfl qx1 rfl qx2
theorem S12_setEnd_0 {h : PH} (H : OKM h) {x1i : Int32} {x1 : Int} (ex1 : x1i = Z3 x1) (qx1 : r3 x1) : SimI OKM (F12_setEnd_0 h 0 x1i) (G12_setEnd_0 (rd h) x1) := by
  subst ex1
  unfold F12_setEnd_0 G12_setEnd_0
  refine sm_rd (m_gI_12_15 H).1 ?_
  refine sg3I fun c1 => ?_
  refine sm_if (z3_le rfl (z3_add rfl l3_1) (m_gI_12_15 H).2 c1) ?_ ?_
  · refine sm_rd (m_gI_12_16 H).1 ?_
    exact sm_retI H rfl (m_gI_12_16 H).2
  · refine sm_rd (m_gR_12_33 H) ?_
    refine sgxI fun c2 => ?_
    refine sm_rd (m_aI_12_33 H (z3_add rfl l3_1) c2).1 ?_
    exact sm_retI H rfl (m_aI_12_33 H (z3_add rfl l3_1) c2).2
theorem S12_setEnd {h : PH} (H : OKM h) {x1i : Int32} {x1 : Int} (ex1 : x1i = Z3 x1) (qx1 : r3 x1) : SimI OKM (F12_setEnd h 0 x1i) (G12_setEnd (rd h) x1) := by
  subst ex1
  unfold F12_setEnd G12_setEnd
  refine sm_cd (m_ok_12 H) ?_
  exact S12_setEnd_0 H rfl qx1
theorem S12_rank__79 {k34 : PH → Nat → Int32 → Int32 → Int32 → Int32 → Int32 → Option (Int32 × PH)} {kk34 : Mem → Int → Int → Int → Int → Int → Option (Int × Mem)} (hk34 : ∀ {h : PH} (_ : OKM h) {x2 : Int32} {y2 : Int} (_ : x2 = Z3 y2) (_ : r3 y2) {x3 : Int32} {y3 : Int} (_ : x3 = Z3 y3) (_ : r3 y3) {x4 : Int32} {y4 : Int} (_ : x4 = Z3 y4) (_ : r3 y4) {x5 : Int32} {y5 : Int} (_ : x5 = Z3 y5) (_ : r3 y5) {x6 : Int32} {y6 : Int} (_ : x6 = Z3 y6) (_ : r3 y6), SimI OKM (k34 h 0 x2 x3 x4 x5 x6) (kk34 (rd h) y2 y3 y4 y5 y6)) (n : Nat) : ∀ {h : PH} (H : OKM h) {x1i : Int32} {x1 : Int} (ex1 : x1i = Z3 x1) (qx1 : r3 x1) {x2i : Int32} {x2 : Int} (ex2 : x2i = Z3 x2) (qx2 : r3 x2) {x3i : Int32} {x3 : Int} (ex3 : x3i = Z3 x3) (qx3 : r3 x3) {x4i : Int32} {x4 : Int} (ex4 : x4i = Z3 x4) (qx4 : r3 x4) {x5i : Int32} {x5 : Int} (ex5 : x5i = Z3 x5) (qx5 : r3 x5) {x6i : Int32} {x6 : Int} (ex6 : x6i = Z3 x6) (qx6 : r3 x6) {x7i : Int32} {x7 : Int} (ex7 : x7i = Z3 x7) (qx7 : r3 x7), SimI OKM (F12_rank__79 k34 n h 0 x1i x2i x3i x4i x5i x6i x7i) (G12_rank__79 kk34 n (rd h) x1 x2 x3 x4 x5 x6 x7) := by
  induction n with
  | zero => intros; exact smI_none _
  | succ n ih =>
    intro h H x1i x1 ex1 qx1 x2i x2 ex2 qx2 x3i x3 ex3 qx3 x4i x4 ex4 qx4 x5i x5 ex5 qx5 x6i x6 ex6 qx6 x7i x7 ex7 qx7
    subst ex1 ex2 ex3 ex4 ex5 ex6 ex7
    rw [F12_rank__79, G12_rank__79]
    refine sm_II (S12_setEnd H rfl qx5) fun vo1 ho1 Ho1 ro1 => ?_
    refine sm_if (z3_le rfl rfl ro1 qx7) ?_ ?_
    · refine sm_rd (m_gR_12_35 Ho1) ?_
      refine sm_rd (m_gR_12_33 Ho1) ?_
      refine sgxI fun c1 => ?_
      refine sm_rd (m_aI_12_33 Ho1 rfl c1).1 ?_
      refine sgxI fun c2 => ?_
      refine sm_rd (m_aI_12_35 Ho1 (z3_sub (z3_add rfl rfl) l3_1) c2).1 ?_
      refine sm_if (z3_eq rfl rfl (m_aI_12_35 Ho1 (z3_sub (z3_add rfl rfl) l3_1) c2).2 qx6) ?_ ?_
      · refine sg3I fun c3 => ?_
        refine sg3I fun c4 => ?_
        exact hk34 Ho1 rfl qx1 rfl qx2 rfl qx3 (z3_add rfl l3_1) c3 (z3_add rfl l3_1) c4
      · refine sg3I fun c5 => ?_
        refine sg3I fun c6 => ?_
        exact hk34 Ho1 rfl qx1 rfl qx2 rfl qx3 (z3_add rfl l3_0) c5 (z3_add rfl l3_1) c6
    · refine sm_rd (m_gR_12_35 Ho1) ?_
      refine sgxI fun c7 => ?_
      refine sm_rd (m_aI_12_35 Ho1 rfl c7).1 ?_
      refine sm_if (z3_le rfl rfl (m_aI_12_35 Ho1 rfl c7).2 qx6) ?_ ?_
      · refine sg3I fun c8 => ?_
        exact ih Ho1 rfl qx1 rfl qx2 rfl qx3 rfl qx4 rfl qx5 rfl qx6 (z3_add rfl l3_1) c8
      · refine sm_rd (m_gR_12_35 Ho1) ?_
        refine sgxI fun c9 => ?_
        refine sm_rd (m_aI_12_35 Ho1 rfl c9).1 ?_
        refine sg3I fun c10 => ?_
        exact ih Ho1 rfl qx1 rfl qx2 rfl qx3 rfl qx4 rfl qx5 rfl ((m_aI_12_35 Ho1 rfl c9).2) (z3_add rfl l3_1) c10
theorem S12_rank__34 (n : Nat) : ∀ {h : PH} (H : OKM h) {x1i : Int32} {x1 : Int} (ex1 : x1i = Z3 x1) (qx1 : r3 x1) {x2i : Int32} {x2 : Int} (ex2 : x2i = Z3 x2) (qx2 : r3 x2) {x3i : Int32} {x3 : Int} (ex3 : x3i = Z3 x3) (qx3 : r3 x3) {x4i : Int32} {x4 : Int} (ex4 : x4i = Z3 x4) (qx4 : r3 x4) {x5i : Int32} {x5 : Int} (ex5 : x5i = Z3 x5) (qx5 : r3 x5), SimI OKM (F12_rank__34 n h 0 x1i x2i x3i x4i x5i) (G12_rank__34 n (rd h) x1 x2 x3 x4 x5) := by
  induction n with
  | zero => intros; exact smI_none _
  | succ n ih =>
    intro h H x1i x1 ex1 qx1 x2i x2 ex2 qx2 x3i x3 ex3 qx3 x4i x4 ex4 qx4 x5i x5 ex5 qx5
    subst ex1 ex2 ex3 ex4 ex5
    rw [F12_rank__34, G12_rank__34]
    refine sm_rd (m_gI_12_15 H).1 ?_
    refine sm_if (z3_le rfl rfl (m_gI_12_15 H).2 qx5) ?_ ?_
    · refine sm_if (z3_eq rfl l3_0 qx2 lr3_0) ?_ ?_
      · exact sm_retI H rfl qx4
      · exact sm_retI H rfl qx3
    · refine sm_II (S12_setEnd H rfl qx5) fun vo5 ho5 Ho5 ro5 => ?_
      refine sm_rd (m_gR_12_33 Ho5) ?_
      refine sgxI fun c1 => ?_
      refine sm_rd (m_aI_12_33 Ho5 rfl c1).1 ?_
      refine sg3I fun c2 => ?_
      refine sm_if (z3_le rfl (z3_sub rfl rfl) qx1 c2) ?_ ?_
      · refine sm_rd (m_gR_12_33 Ho5) ?_
        refine sgxI fun c3 => ?_
        refine sm_rd (m_aI_12_33 Ho5 rfl c3).1 ?_
        refine sg3I fun c4 => ?_
        exact S12_rank__79 (@fun _ H _ _ ex1 qx1 _ _ ex2 qx2 _ _ ex3 qx3 _ _ ex4 qx4 _ _ ex5 qx5 => ih H ex1 qx1 ex2 qx2 ex3 qx3 ex4 qx4 ex5 qx5) 1024 Ho5 rfl qx1 rfl qx2 (z3_add rfl l3_1) c4 rfl qx4 rfl qx5 l3_0 lr3_0 rfl ((m_aI_12_33 Ho5 rfl c3).2)
      · refine sg3I fun c5 => ?_
        exact ih Ho5 rfl qx1 rfl qx2 rfl qx3 rfl qx4 (z3_add rfl l3_1) c5
theorem S12_rank__0 {h : PH} (H : OKM h) {x1i : Int32} {x1 : Int} (ex1 : x1i = Z3 x1) (qx1 : r3 x1) {x2i : Int32} {x2 : Int} (ex2 : x2i = Z3 x2) (qx2 : r3 x2) : SimI OKM (F12_rank__0 h 0 x1i x2i) (G12_rank__0 (rd h) x1 x2) := by
  subst ex1 ex2
  unfold F12_rank__0 G12_rank__0
  refine sm_wt (m_pI_12_2 H l3_0 lr3_0) fun h1 Hh1 => ?_
  refine sm_II (S12_isIn Hh1 rfl qx1 l3_1 lr3_1 l3_7 lr3_7) fun vo3 ho3 Ho3 ro3 => ?_
  refine sm_if (z3_eq rfl l3_0 ro3 lr3_0) ?_ ?_
  · exact sm_retI Ho3 l3_m1 lr3_m1
  · refine sm_II (S12_isIn Ho3 rfl qx2 l3_0 lr3_0 l3_1 lr3_1) fun vo6 ho6 Ho6 ro6 => ?_
    refine sm_if (z3_eq rfl l3_0 ro6 lr3_0) ?_ ?_
    · exact sm_retI Ho6 l3_m1 lr3_m1
    · exact S12_rank__34 1024 Ho6 rfl qx1 rfl qx2 l3_0 lr3_0 l3_0 lr3_0 l3_0 lr3_0
theorem S12_rank_ {h : PH} (H : OKM h) {x1i : Int32} {x1 : Int} (ex1 : x1i = Z3 x1) (qx1 : r3 x1) {x2i : Int32} {x2 : Int} (ex2 : x2i = Z3 x2) (qx2 : r3 x2) : SimI OKM (F12_rank_ h 0 x1i x2i) (G12_rank_ (rd h) x1 x2) := by
  subst ex1 ex2
  unfold F12_rank_ G12_rank_
  refine sm_cd (m_ok_12 H) ?_
  exact S12_rank__0 H rfl qx1 rfl qx2
theorem S12_remember_51 (n : Nat) : ∀ {h : PH} (H : OKM h) {x1i : Int32} {x1 : Int} (ex1 : x1i = Z3 x1) (qx1 : r3 x1), SimV OKM (F12_remember_51 n h 0 x1i) (G12_remember_51 n (rd h) x1) := by
  induction n with
  | zero => intros; exact smV_none _
  | succ n ih =>
    intro h H x1i x1 ex1 qx1
    subst ex1
    rw [F12_remember_51, G12_remember_51]
    refine sm_if (z3_le l3_5 rfl lr3_5 qx1) ?_ ?_
    · refine sm_rd (m_gR_12_79 H) ?_
      refine sm_rd (m_gI_12_78 H).1 ?_
      refine sm_rd (m_gI_12_64 H).1 ?_
      refine sgxV fun c1 => ?_
      refine sm_wt (m_sI_12_79 H (z3_add (z3_mul l3_11 rfl) l3_10) c1 rfl (m_gI_12_64 H).2) fun h9 Hh9 => ?_
      refine sm_rd (m_gI_12_78 Hh9).1 ?_
      refine sg3V fun c2 => ?_
      refine sm_wt (m_pI_12_78 Hh9 (z3_add rfl l3_1) c2) fun h12 Hh12 => ?_
      exact sm_retV Hh12
    · refine sm_rd (m_gR_12_79 H) ?_
      refine sm_rd (m_gI_12_78 H).1 ?_
      refine sm_rd (m_gR_12_55 H) ?_
      refine sgxV fun c3 => ?_
      refine sm_rd (m_aI_12_55 H rfl c3).1 ?_
      refine sgxV fun c4 => ?_
      refine sm_wt (m_sI_12_79 H (z3_add (z3_mul l3_11 rfl) rfl) c4 rfl (m_aI_12_55 H rfl c3).2) fun h23 Hh23 => ?_
      refine sm_rd (m_gR_12_79 Hh23) ?_
      refine sm_rd (m_gI_12_78 Hh23).1 ?_
      refine sm_rd (m_gR_12_59 Hh23) ?_
      refine sgxV fun c5 => ?_
      refine sm_rd (m_aI_12_59 Hh23 rfl c5).1 ?_
      refine sgxV fun c6 => ?_
      refine sm_wt (m_sI_12_79 Hh23 (z3_add (z3_add (z3_mul l3_11 rfl) l3_5) rfl) c6 rfl (m_aI_12_59 Hh23 rfl c5).2) fun h33 Hh33 => ?_
      refine sg3V fun c7 => ?_
      exact ih Hh33 (z3_add rfl l3_1) c7
theorem S12_remember_11 (n : Nat) : ∀ {h : PH} (H : OKM h) {x1i : Int32} {x1 : Int} (ex1 : x1i = Z3 x1) (qx1 : r3 x1), SimV OKM (F12_remember_11 n h 0 x1i) (G12_remember_11 n (rd h) x1) := by
  induction n with
  | zero => intros; exact smV_none _
  | succ n ih =>
    intro h H x1i x1 ex1 qx1
    subst ex1
    rw [F12_remember_11, G12_remember_11]
    refine sm_if (z3_le l3_209 rfl lr3_209 qx1) ?_ ?_
    · refine sm_rd (m_gI_12_78 H).1 ?_
      refine sg3V fun c1 => ?_
      refine sm_wt (m_pI_12_78 H (z3_sub rfl l3_1) c1) fun h4 Hh4 => ?_
      exact S12_remember_51 1024 Hh4 l3_0 lr3_0
    · refine sm_rd (m_gR_12_79 H) ?_
      refine sm_rd (m_gR_12_79 H) ?_
      refine sgxV fun c2 => ?_
      refine sm_rd (m_aI_12_79 H (z3_add rfl l3_11) c2).1 ?_
      refine sgxV fun c3 => ?_
      refine sm_wt (m_sI_12_79 H rfl c3 rfl (m_aI_12_79 H (z3_add rfl l3_11) c2).2) fun h13 Hh13 => ?_
      refine sg3V fun c4 => ?_
      exact ih Hh13 (z3_add rfl l3_1) c4
theorem S12_remember_0 {h : PH} (H : OKM h) : SimV OKM (F12_remember_0 h 0) (G12_remember_0 (rd h)) := by
  unfold F12_remember_0 G12_remember_0
  refine sm_rd (m_gI_12_78 H).1 ?_
  refine sm_if (z3_eq rfl l3_20 (m_gI_12_78 H).2 lr3_20) ?_ ?_
  · exact S12_remember_11 1024 H l3_0 lr3_0
  · exact S12_remember_51 1024 H l3_0 lr3_0
theorem S12_remember {h : PH} (H : OKM h) : SimV OKM (F12_remember h 0) (G12_remember (rd h)) := by
  unfold F12_remember G12_remember
  refine sm_cd (m_ok_12 H) ?_
  exact S12_remember_0 H
theorem S12_restAt_12 (n : Nat) : ∀ {h : PH} (H : OKM h) {x3i : Int32} {x3 : Int} (ex3 : x3i = Z3 x3) (qx3 : r3 x3) {x4i : Int32} {x4 : Int} (ex4 : x4i = Z3 x4) (qx4 : r3 x4) {x5i : Int32} {x5 : Int} (ex5 : x5i = Z3 x5) (qx5 : r3 x5), SimI OKM (F12_restAt_12 n h 0 x3i x4i x5i) (G12_restAt_12 n (rd h) x3 x4 x5) := by
  induction n with
  | zero => intros; exact smI_none _
  | succ n ih =>
    intro h H x3i x3 ex3 qx3 x4i x4 ex4 qx4 x5i x5 ex5 qx5
    subst ex3 ex4 ex5
    rw [F12_restAt_12, G12_restAt_12]
    refine sm_if (z3_le l3_25 rfl lr3_25 qx5) ?_ ?_
    · refine sm_if (z3_le l3_0 rfl lr3_0 qx3) ?_ ?_
      · exact sm_retI H l3_m2 lr3_m2
      · exact sm_retI H rfl qx4
    · refine sm_II (S12_isRest H rfl qx5) fun vo3 ho3 Ho3 ro3 => ?_
      refine sm_if (z3_eq rfl l3_0 ro3 lr3_0) ?_ ?_
      · refine sg3I fun c1 => ?_
        exact ih Ho3 rfl qx3 rfl qx4 (z3_add rfl l3_1) c1
      · refine sm_if (z3_eq rfl rfl qx4 qx3) ?_ ?_
        · refine sgdI fun c2 => ?_
          refine sm_II (S12_wayAt Ho3 (z3_div rfl l3_5 qx5 lr3_5 c2) (r3_div qx5 lr3_5 c2)) fun vo7 ho7 Ho7 ro7 => ?_
          refine sgdI fun c3 => ?_
          refine sm_II (S12_wayAt Ho7 (z3_rem rfl l3_5 qx5 lr3_5 c3) (r3_rem qx5 lr3_5 c3)) fun vo9 ho9 Ho9 ro9 => ?_
          refine sg3I fun c4 => ?_
          exact sm_retI Ho9 (z3_add (z3_mul l3_10 rfl) rfl) c4
        · refine sg3I fun c5 => ?_
          refine sg3I fun c6 => ?_
          exact ih Ho3 rfl qx3 (z3_add rfl l3_1) c5 (z3_add rfl l3_1) c6
theorem S12_restAt_0 {h : PH} (H : OKM h) {x1i : Int32} {x1 : Int} (ex1 : x1i = Z3 x1) (qx1 : r3 x1) {x2i : Int32} {x2 : Int} (ex2 : x2i = Z3 x2) (qx2 : r3 x2) {x3i : Int32} {x3 : Int} (ex3 : x3i = Z3 x3) (qx3 : r3 x3) : SimI OKM (F12_restAt_0 h 0 x1i x2i x3i) (G12_restAt_0 (rd h) x1 x2 x3) := by
  subst ex1 ex2 ex3
  unfold F12_restAt_0 G12_restAt_0
  refine sm_VI (S12_layGame H rfl qx1 rfl qx2) fun ho1 Ho1 => ?_
  exact S12_restAt_12 1024 Ho1 rfl qx3 l3_0 lr3_0 l3_0 lr3_0
theorem S12_restAt {h : PH} (H : OKM h) {x1i : Int32} {x1 : Int} (ex1 : x1i = Z3 x1) (qx1 : r3 x1) {x2i : Int32} {x2 : Int} (ex2 : x2i = Z3 x2) (qx2 : r3 x2) {x3i : Int32} {x3 : Int} (ex3 : x3i = Z3 x3) (qx3 : r3 x3) : SimI OKM (F12_restAt h 0 x1i x2i x3i) (G12_restAt (rd h) x1 x2 x3) := by
  subst ex1 ex2 ex3
  unfold F12_restAt G12_restAt
  refine sm_cd (m_ok_12 H) ?_
  exact S12_restAt_0 H rfl qx1 rfl qx2 rfl qx3
theorem S12_rest_0 {h : PH} (H : OKM h) {x1i : Int32} {x1 : Int} (ex1 : x1i = Z3 x1) (qx1 : r3 x1) {x2i : Int32} {x2 : Int} (ex2 : x2i = Z3 x2) (qx2 : r3 x2) {x3i : Int32} {x3 : Int} (ex3 : x3i = Z3 x3) (qx3 : r3 x3) : SimI OKM (F12_rest_0 h 0 x1i x2i x3i) (G12_rest_0 (rd h) x1 x2 x3) := by
  subst ex1 ex2 ex3
  unfold F12_rest_0 G12_rest_0
  refine sm_wt (m_pI_12_2 H l3_0 lr3_0) fun h1 Hh1 => ?_
  refine sm_II (S12_isSurfer Hh1 rfl qx1) fun vo3 ho3 Ho3 ro3 => ?_
  refine sm_if (z3_eq rfl l3_0 ro3 lr3_0) ?_ ?_
  · exact sm_retI Ho3 l3_m1 lr3_m1
  · refine sm_II (S12_isSurfer Ho3 rfl qx2) fun vo6 ho6 Ho6 ro6 => ?_
    refine sm_if (z3_eq rfl l3_0 ro6 lr3_0) ?_ ?_
    · exact sm_retI Ho6 l3_m1 lr3_m1
    · refine sm_if (z3_eq rfl rfl qx1 qx2) ?_ ?_
      · exact sm_retI Ho6 l3_m1 lr3_m1
      · refine sm_if (z3_lt rfl l3_0 qx3 lr3_0) ?_ ?_
        · exact sm_retI Ho6 l3_m1 lr3_m1
        · refine sm_II (S12_restAt Ho6 rfl qx1 rfl qx2 rfl qx3) fun vo11 ho11 Ho11 ro11 => ?_
          exact sm_retI Ho11 rfl ro11
theorem S12_rest {h : PH} (H : OKM h) {x1i : Int32} {x1 : Int} (ex1 : x1i = Z3 x1) (qx1 : r3 x1) {x2i : Int32} {x2 : Int} (ex2 : x2i = Z3 x2) (qx2 : r3 x2) {x3i : Int32} {x3 : Int} (ex3 : x3i = Z3 x3) (qx3 : r3 x3) : SimI OKM (F12_rest h 0 x1i x2i x3i) (G12_rest (rd h) x1 x2 x3) := by
  subst ex1 ex2 ex3
  unfold F12_rest G12_rest
  refine sm_cd (m_ok_12 H) ?_
  exact S12_rest_0 H rfl qx1 rfl qx2 rfl qx3
theorem S12_rests_0 {h : PH} (H : OKM h) {x1i : Int32} {x1 : Int} (ex1 : x1i = Z3 x1) (qx1 : r3 x1) {x2i : Int32} {x2 : Int} (ex2 : x2i = Z3 x2) (qx2 : r3 x2) : SimI OKM (F12_rests_0 h 0 x1i x2i) (G12_rests_0 (rd h) x1 x2) := by
  subst ex1 ex2
  unfold F12_rests_0 G12_rests_0
  refine sm_wt (m_pI_12_2 H l3_0 lr3_0) fun h1 Hh1 => ?_
  refine sm_II (S12_isSurfer Hh1 rfl qx1) fun vo3 ho3 Ho3 ro3 => ?_
  refine sm_if (z3_eq rfl l3_0 ro3 lr3_0) ?_ ?_
  · exact sm_retI Ho3 l3_m1 lr3_m1
  · refine sm_II (S12_isSurfer Ho3 rfl qx2) fun vo6 ho6 Ho6 ro6 => ?_
    refine sm_if (z3_eq rfl l3_0 ro6 lr3_0) ?_ ?_
    · exact sm_retI Ho6 l3_m1 lr3_m1
    · refine sm_if (z3_eq rfl rfl qx1 qx2) ?_ ?_
      · exact sm_retI Ho6 l3_m1 lr3_m1
      · refine sm_II (S12_restAt Ho6 rfl qx1 rfl qx2 l3_m1 lr3_m1) fun vo10 ho10 Ho10 ro10 => ?_
        exact sm_retI Ho10 rfl ro10
theorem S12_rests {h : PH} (H : OKM h) {x1i : Int32} {x1 : Int} (ex1 : x1i = Z3 x1) (qx1 : r3 x1) {x2i : Int32} {x2 : Int} (ex2 : x2i = Z3 x2) (qx2 : r3 x2) : SimI OKM (F12_rests h 0 x1i x2i) (G12_rests (rd h) x1 x2) := by
  subst ex1 ex2
  unfold F12_rests G12_rests
  refine sm_cd (m_ok_12 H) ?_
  exact S12_rests_0 H rfl qx1 rfl qx2
theorem S12_rule_0 {h : PH} (H : OKM h) {x1i : Int32} {x1 : Int} (ex1 : x1i = Z3 x1) (qx1 : r3 x1) : SimI OKM (F12_rule_0 h 0 x1i) (G12_rule_0 (rd h) x1) := by
  subst ex1
  unfold F12_rule_0 G12_rule_0
  refine sm_wt (m_pI_12_2 H l3_0 lr3_0) fun h1 Hh1 => ?_
  refine sm_II (S12_isIn Hh1 rfl qx1 l3_0 lr3_0 l3_3 lr3_3) fun vo3 ho3 Ho3 ro3 => ?_
  refine sm_if (z3_eq rfl l3_0 ro3 lr3_0) ?_ ?_
  · exact sm_rz Ho3 l3_0 (by decide)
  · refine sm_rd (m_gI_12_64 Ho3).1 ?_
    refine sm_if (z3_eq rfl rfl qx1 (m_gI_12_64 Ho3).2) ?_ ?_
    · exact sm_rz Ho3 l3_0 (by decide)
    · refine sm_VI (S12_remember Ho3) fun ho9 Ho9 => ?_
      refine sm_wt (m_pI_12_64 Ho9 rfl qx1) fun h11 Hh11 => ?_
      exact sm_rz Hh11 l3_1 (by decide)
theorem S12_rule {h : PH} (H : OKM h) {x1i : Int32} {x1 : Int} (ex1 : x1i = Z3 x1) (qx1 : r3 x1) : SimI OKM (F12_rule h 0 x1i) (G12_rule (rd h) x1) := by
  subst ex1
  unfold F12_rule G12_rule
  refine sm_cd (m_ok_12 H) ?_
  exact S12_rule_0 H rfl qx1
theorem S12_seat_0 {h : PH} (H : OKM h) {x1i : Int32} {x1 : Int} (ex1 : x1i = Z3 x1) (qx1 : r3 x1) {x2i : Int32} {x2 : Int} (ex2 : x2i = Z3 x2) (qx2 : r3 x2) : SimI OKM (F12_seat_0 h 0 x1i x2i) (G12_seat_0 (rd h) x1 x2) := by
  subst ex1 ex2
  unfold F12_seat_0 G12_seat_0
  refine sm_wt (m_pI_12_2 H l3_0 lr3_0) fun h1 Hh1 => ?_
  refine sm_II (S12_isSurfer Hh1 rfl qx1) fun vo3 ho3 Ho3 ro3 => ?_
  refine sm_if (z3_eq rfl l3_0 ro3 lr3_0) ?_ ?_
  · exact sm_retI Ho3 l3_m1 lr3_m1
  · refine sm_II (S12_isCell Ho3 rfl qx2) fun vo6 ho6 Ho6 ro6 => ?_
    refine sm_if (z3_eq rfl l3_0 ro6 lr3_0) ?_ ?_
    · exact sm_retI Ho6 l3_m1 lr3_m1
    · refine sm_rd (m_gR_12_61 Ho6) ?_
      refine sm_rd (m_aI_12_61 Ho6 l3_0 ⟨by decide, by decide⟩).1 ?_
      refine sm_II (S12_seatFrom Ho6 rfl qx1 rfl qx2 rfl ((m_aI_12_61 Ho6 l3_0 ⟨by decide, by decide⟩).2)) fun vo13 ho13 Ho13 ro13 => ?_
      exact sm_retI Ho13 rfl ro13
theorem S12_seat {h : PH} (H : OKM h) {x1i : Int32} {x1 : Int} (ex1 : x1i = Z3 x1) (qx1 : r3 x1) {x2i : Int32} {x2 : Int} (ex2 : x2i = Z3 x2) (qx2 : r3 x2) : SimI OKM (F12_seat h 0 x1i x2i) (G12_seat (rd h) x1 x2) := by
  subst ex1 ex2
  unfold F12_seat G12_seat
  refine sm_cd (m_ok_12 H) ?_
  exact S12_seat_0 H rfl qx1 rfl qx2
theorem S12_shares_0 {h : PH} (H : OKM h) {x1i : Int32} {x1 : Int} (ex1 : x1i = Z3 x1) (qx1 : r3 x1) : SimI OKM (F12_shares_0 h 0 x1i) (G12_shares_0 (rd h) x1) := by
  subst ex1
  unfold F12_shares_0 G12_shares_0
  refine sm_wt (m_pI_12_2 H l3_0 lr3_0) fun h1 Hh1 => ?_
  refine sm_rd (m_gI_12_14 Hh1).1 ?_
  refine sm_if (z3_eq rfl l3_0 (m_gI_12_14 Hh1).2 lr3_0) ?_ ?_
  · exact sm_retI Hh1 l3_m1 lr3_m1
  · refine sm_II (S12_isIn Hh1 rfl qx1 l3_0 lr3_0 l3_1 lr3_1) fun vo6 ho6 Ho6 ro6 => ?_
    refine sm_if (z3_eq rfl l3_0 ro6 lr3_0) ?_ ?_
    · exact sm_retI Ho6 l3_m1 lr3_m1
    · refine sm_if (z3_eq rfl l3_0 qx1 lr3_0) ?_ ?_
      · refine sm_II (S12_unlike Ho6 l3_0 lr3_0) fun vo12 ho12 Ho12 ro12 => ?_
        exact sm_retI Ho12 rfl ro12
      · refine sm_II (S12_allHad Ho6 l3_0 lr3_0) fun vo10 ho10 Ho10 ro10 => ?_
        exact sm_retI Ho10 rfl ro10
theorem S12_shares {h : PH} (H : OKM h) {x1i : Int32} {x1 : Int} (ex1 : x1i = Z3 x1) (qx1 : r3 x1) : SimI OKM (F12_shares h 0 x1i) (G12_shares (rd h) x1) := by
  subst ex1
  unfold F12_shares G12_shares
  refine sm_cd (m_ok_12 H) ?_
  exact S12_shares_0 H rfl qx1
theorem S12_strike_0 {h : PH} (H : OKM h) {x1i : Int32} {x1 : Int} (ex1 : x1i = Z3 x1) (qx1 : r3 x1) : SimI OKM (F12_strike_0 h 0 x1i) (G12_strike_0 (rd h) x1) := by
  subst ex1
  unfold F12_strike_0 G12_strike_0
  refine sm_wt (m_pI_12_2 H l3_0 lr3_0) fun h1 Hh1 => ?_
  refine sm_rd (m_gI_12_74 Hh1).1 ?_
  refine sm_if (z3_eq rfl l3_24 (m_gI_12_74 Hh1).2 lr3_24) ?_ ?_
  · exact sm_retI Hh1 l3_m1 lr3_m1
  · refine sm_if (z3_lt rfl l3_0 qx1 lr3_0) ?_ ?_
    · exact sm_retI Hh1 l3_m1 lr3_m1
    · refine sm_rd (m_gI_12_74 Hh1).1 ?_
      refine sm_if (z3_lt rfl rfl qx1 (m_gI_12_74 Hh1).2) ?_ ?_
      · refine sm_II (S12_noted Hh1 l3_m1 lr3_m1 rfl qx1 l3_0 lr3_0) fun vo10 ho10 Ho10 ro10 => ?_
        exact sm_retI Ho10 rfl ro10
      · exact sm_retI Hh1 l3_m1 lr3_m1
theorem S12_strike {h : PH} (H : OKM h) {x1i : Int32} {x1 : Int} (ex1 : x1i = Z3 x1) (qx1 : r3 x1) : SimI OKM (F12_strike h 0 x1i) (G12_strike (rd h) x1) := by
  subst ex1
  unfold F12_strike G12_strike
  refine sm_cd (m_ok_12 H) ?_
  exact S12_strike_0 H rfl qx1
theorem S12_stroke_0 {h : PH} (H : OKM h) {x1i : Int32} {x1 : Int} (ex1 : x1i = Z3 x1) (qx1 : r3 x1) {x2i : Int32} {x2 : Int} (ex2 : x2i = Z3 x2) (qx2 : r3 x2) : SimI OKM (F12_stroke_0 h 0 x1i x2i) (G12_stroke_0 (rd h) x1 x2) := by
  subst ex1 ex2
  unfold F12_stroke_0 G12_stroke_0
  refine sm_wt (m_pI_12_2 H l3_0 lr3_0) fun h1 Hh1 => ?_
  refine sm_II (S12_isSurfer Hh1 rfl qx1) fun vo3 ho3 Ho3 ro3 => ?_
  refine sm_if (z3_eq rfl l3_0 ro3 lr3_0) ?_ ?_
  · exact sm_retI Ho3 l3_m1 lr3_m1
  · refine sm_II (S12_isIn Ho3 rfl qx2 l3_0 lr3_0 l3_3 lr3_3) fun vo6 ho6 Ho6 ro6 => ?_
    refine sm_if (z3_eq rfl l3_0 ro6 lr3_0) ?_ ?_
    · exact sm_retI Ho6 l3_m1 lr3_m1
    · refine sm_rd (m_gR_12_55 Ho6) ?_
      refine sgxI fun c1 => ?_
      refine sm_rd (m_aI_12_55 Ho6 rfl c1).1 ?_
      refine sm_II (S12_beside Ho6 rfl ((m_aI_12_55 Ho6 rfl c1).2) rfl qx2) fun vo13 ho13 Ho13 ro13 => ?_
      refine sm_if (z3_lt rfl l3_0 ro13 lr3_0) ?_ ?_
      · exact sm_retI Ho13 l3_m2 lr3_m2
      · refine sm_rd (m_gR_12_58 Ho13) ?_
        refine sgxI fun c2 => ?_
        refine sm_rd (m_aI_12_58 Ho13 rfl c2).1 ?_
        refine sm_if (z3_lt l3_0 rfl lr3_0 (m_aI_12_58 Ho13 rfl c2).2) ?_ ?_
        · exact sm_retI Ho13 l3_m2 lr3_m2
        · refine sm_rd (m_gR_12_59 Ho13) ?_
          refine sgxI fun c3 => ?_
          refine sm_rd (m_aI_12_59 Ho13 rfl c3).1 ?_
          refine sm_if (z3_eq rfl l3_0 (m_aI_12_59 Ho13 rfl c3).2 lr3_0) ?_ ?_
          · exact sm_retI Ho13 l3_m2 lr3_m2
          · refine sm_VI (S12_remember Ho13) fun ho26 Ho26 => ?_
            refine sm_rd (m_gR_12_55 Ho26) ?_
            refine sgxI fun c4 => ?_
            refine sm_wt (m_sI_12_55 Ho26 rfl c4 rfl ro13) fun h31 Hh31 => ?_
            refine sm_rd (m_gR_12_59 Hh31) ?_
            refine sgxI fun c5 => ?_
            refine sm_rd (m_aI_12_59 Hh31 rfl c5).1 ?_
            refine sgxI fun c6 => ?_
            refine sg3I fun c7 => ?_
            refine sm_wt (m_sI_12_59 Hh31 rfl c6 (z3_sub rfl l3_1) c7) fun h37 Hh37 => ?_
            exact sm_retI Hh37 rfl ro13
