/-! The pure functions do so (written by wip/gen/gx.py). -/
theorem S11_farNow {h : PH} (H : OKX h) {x1i : Int32} {x1 : Int} (ex1 : x1i = Z3 x1) (qx1 : r3 x1) : SimI OKX (F11_farNow h 0 x1i) (G11_farNow (rd h) x1) := by
  subst ex1
  unfold F11_farNow G11_farNow
  refine sm_cd (x_ok_11 H) ?_
  exact S11_farNow_0 H rfl qx1
theorem S11_deeper_0 {h : PH} (H : OKX h) {x1i : Int32} {x1 : Int} (ex1 : x1i = Z3 x1) (qx1 : r3 x1) {x2i : Int32} {x2 : Int} (ex2 : x2i = Z3 x2) (qx2 : r3 x2) : SimI OKX (F11_deeper_0 h 0 x1i x2i) (G11_deeper_0 (rd h) x1 x2) := by
  subst ex1 ex2
  unfold F11_deeper_0 G11_deeper_0
  refine sm_II (S11_isSurfer H rfl qx1) fun vo1 ho1 Ho1 ro1 => ?_
  refine sm_if (z3_eq rfl l3_0 ro1 lr3_0) ?_ ?_
  · exact sm_retI Ho1 l3_m1 lr3_m1
  · refine sm_II (S11_isSurfer Ho1 rfl qx2) fun vo4 ho4 Ho4 ro4 => ?_
    refine sm_if (z3_eq rfl l3_0 ro4 lr3_0) ?_ ?_
    · exact sm_retI Ho4 l3_m1 lr3_m1
    · refine sm_II (S11_farNow Ho4 rfl qx1) fun vo7 ho7 Ho7 ro7 => ?_
      refine sm_II (S11_farNow Ho7 rfl qx2) fun vo9 ho9 Ho9 ro9 => ?_
      refine sm_if (z3_eq rfl rfl ro7 ro9) ?_ ?_
      · exact sm_retI Ho9 l3_0 lr3_0
      · refine sm_if (z3_le rfl rfl ro9 ro7) ?_ ?_
        · exact sm_retI Ho9 l3_2 lr3_2
        · exact sm_retI Ho9 l3_1 lr3_1
theorem S11_deeper {h : PH} (H : OKX h) {x1i : Int32} {x1 : Int} (ex1 : x1i = Z3 x1) (qx1 : r3 x1) {x2i : Int32} {x2 : Int} (ex2 : x2i = Z3 x2) (qx2 : r3 x2) : SimI OKX (F11_deeper h 0 x1i x2i) (G11_deeper (rd h) x1 x2) := by
  subst ex1 ex2
  unfold F11_deeper G11_deeper
  refine sm_cd (x_ok_11 H) ?_
  exact S11_deeper_0 H rfl qx1 rfl qx2
theorem S11_fairest_89 {k16 : PH → Nat → Int32 → Int32 → Int32 → Int32 → Int32 → Option (Int32 × PH)} {kk16 : Mem → Int → Int → Int → Int → Int → Option (Int × Mem)} (hk16 : ∀ {h : PH} (_ : OKX h) {x2 : Int32} {y2 : Int} (_ : x2 = Z3 y2) (_ : r3 y2) {x3 : Int32} {y3 : Int} (_ : x3 = Z3 y3) (_ : r3 y3) {x4 : Int32} {y4 : Int} (_ : x4 = Z3 y4) (_ : r3 y4) {x5 : Int32} {y5 : Int} (_ : x5 = Z3 y5) (_ : r3 y5) {x6 : Int32} {y6 : Int} (_ : x6 = Z3 y6) (_ : r3 y6), SimI OKX (k16 h 0 x2 x3 x4 x5 x6) (kk16 (rd h) y2 y3 y4 y5 y6)) {h : PH} (H : OKX h) {x1i : Int32} {x1 : Int} (ex1 : x1i = Z3 x1) (qx1 : r3 x1) {x5i : Int32} {x5 : Int} (ex5 : x5i = Z3 x5) (qx5 : r3 x5) {x6i : Int32} {x6 : Int} (ex6 : x6i = Z3 x6) (qx6 : r3 x6) {x7i : Int32} {x7 : Int} (ex7 : x7i = Z3 x7) (qx7 : r3 x7) : SimI OKX (F11_fairest_89 k16 h 0 x1i x5i x6i x7i) (G11_fairest_89 kk16 (rd h) x1 x5 x6 x7) := by
  subst ex1 ex5 ex6 ex7
  unfold F11_fairest_89 G11_fairest_89
  refine sg3I fun c1 => ?_
  exact hk16 H rfl qx1 rfl qx5 rfl qx6 rfl qx7 (z3_add rfl l3_1) c1
theorem S11_fairest_16 (n : Nat) : ∀ {h : PH} (H : OKX h) {x1i : Int32} {x1 : Int} (ex1 : x1i = Z3 x1) (qx1 : r3 x1) {x2i : Int32} {x2 : Int} (ex2 : x2i = Z3 x2) (qx2 : r3 x2) {x3i : Int32} {x3 : Int} (ex3 : x3i = Z3 x3) (qx3 : r3 x3) {x4i : Int32} {x4 : Int} (ex4 : x4i = Z3 x4) (qx4 : r3 x4) {x5i : Int32} {x5 : Int} (ex5 : x5i = Z3 x5) (qx5 : r3 x5), SimI OKX (F11_fairest_16 n h 0 x1i x2i x3i x4i x5i) (G11_fairest_16 n (rd h) x1 x2 x3 x4 x5) := by
  induction n with
  | zero => intros; exact smI_none _
  | succ n ih =>
    intro h H x1i x1 ex1 qx1 x2i x2 ex2 qx2 x3i x3 ex3 qx3 x4i x4 ex4 qx4 x5i x5 ex5 qx5
    subst ex1 ex2 ex3 ex4 ex5
    rw [F11_fairest_16, G11_fairest_16]
    refine sm_if (z3_le l3_4 rfl lr3_4 qx5) ?_ ?_
    · exact sm_retI H rfl qx2
    · refine sm_VI (S11_runBy H rfl qx5 rfl qx1) fun ho2 Ho2 => ?_
      refine sm_rd (x_gR_11_8 Ho2) ?_
      refine sm_rd (x_gR_11_3 Ho2) ?_
      refine sm_rd (x_gR_8_4 Ho2 (x_v_11_3 Ho2)) ?_
      refine sm_rd (x_gI_1_0 Ho2 (ao_8_4 (x_v_11_3 Ho2))).1 ?_
      refine sm_II (S4_unlike Ho2 p4_76 rfl ((x_gI_1_0 Ho2 (ao_8_4 (x_v_11_3 Ho2))).2)) fun vo12 ho12 Ho12 ro12 => ?_
      refine sm_rd (x_gR_11_8 Ho12) ?_
      refine sm_rd (x_gI_4_3 Ho12 p4_76).1 ?_
      refine sm_rd (x_gR_11_8 Ho12) ?_
      refine sm_rd (x_gI_4_4 Ho12 p4_76).1 ?_
      refine sm_if (z3_eq rfl l3_m1 qx2 lr3_m1) ?_ ?_
      · refine sg3I fun c1 => ?_
        exact S11_fairest_89 (@fun _ H _ _ ex1 qx1 _ _ ex2 qx2 _ _ ex3 qx3 _ _ ex4 qx4 _ _ ex5 qx5 => ih H ex1 qx1 ex2 qx2 ex3 qx3 ex4 qx4 ex5 qx5) Ho12 rfl qx1 rfl qx5 rfl ro12 (z3_add rfl rfl) c1
      · refine sm_if (z3_lt rfl rfl ro12 qx3) ?_ ?_
        · refine sg3I fun c2 => ?_
          exact S11_fairest_89 (@fun _ H _ _ ex1 qx1 _ _ ex2 qx2 _ _ ex3 qx3 _ _ ex4 qx4 _ _ ex5 qx5 => ih H ex1 qx1 ex2 qx2 ex3 qx3 ex4 qx4 ex5 qx5) Ho12 rfl qx1 rfl qx5 rfl ro12 (z3_add rfl rfl) c2
        · refine sm_if (z3_eq rfl rfl ro12 qx3) ?_ ?_
          · refine sg3I fun c3 => ?_
            refine sm_if (z3_le rfl (z3_add rfl rfl) qx4 c3) ?_ ?_
            · refine sg3I fun c4 => ?_
              exact ih Ho12 rfl qx1 rfl qx2 rfl qx3 rfl qx4 (z3_add rfl l3_1) c4
            · refine sg3I fun c5 => ?_
              exact S11_fairest_89 (@fun _ H _ _ ex1 qx1 _ _ ex2 qx2 _ _ ex3 qx3 _ _ ex4 qx4 _ _ ex5 qx5 => ih H ex1 qx1 ex2 qx2 ex3 qx3 ex4 qx4 ex5 qx5) Ho12 rfl qx1 rfl qx5 rfl ro12 (z3_add rfl rfl) c5
          · refine sg3I fun c6 => ?_
            exact ih Ho12 rfl qx1 rfl qx2 rfl qx3 rfl qx4 (z3_add rfl l3_1) c6
theorem S11_fairest_0 {h : PH} (H : OKX h) {x1i : Int32} {x1 : Int} (ex1 : x1i = Z3 x1) (qx1 : r3 x1) : SimI OKX (F11_fairest_0 h 0 x1i) (G11_fairest_0 (rd h) x1) := by
  subst ex1
  unfold F11_fairest_0 G11_fairest_0
  refine sm_if (z3_le l3_0 rfl lr3_0 qx1) ?_ ?_
  · exact S11_fairest_16 1024 H rfl qx1 l3_m1 lr3_m1 l3_0 lr3_0 l3_0 lr3_0 l3_0 lr3_0
  · exact sm_retI H l3_m1 lr3_m1
theorem S11_fairest {h : PH} (H : OKX h) {x1i : Int32} {x1 : Int} (ex1 : x1i = Z3 x1) (qx1 : r3 x1) : SimI OKX (F11_fairest h 0 x1i) (G11_fairest (rd h) x1) := by
  subst ex1
  unfold F11_fairest G11_fairest
  refine sm_cd (x_ok_11 H) ?_
  exact S11_fairest_0 H rfl qx1
theorem S11_fault_0 {h : PH} (H : OKX h) {x1i : Int32} {x1 : Int} (ex1 : x1i = Z3 x1) (qx1 : r3 x1) : SimI OKX (F11_fault_0 h 0 x1i) (G11_fault_0 (rd h) x1) := by
  subst ex1
  unfold F11_fault_0 G11_fault_0
  refine sm_if (z3_eq rfl l3_0 qx1 lr3_0) ?_ ?_
  · refine sm_rd (x_gR_11_2 H) ?_
    refine sm_rd (x_gI_5_8 H).1 ?_
    exact sm_retI H rfl (x_gI_5_8 H).2
  · refine sm_if (z3_eq rfl l3_1 qx1 lr3_1) ?_ ?_
    · refine sm_rd (x_gR_11_2 H) ?_
      refine sm_rd (x_gI_5_9 H).1 ?_
      exact sm_retI H rfl (x_gI_5_9 H).2
    · exact sm_retI H l3_m1 lr3_m1
theorem S11_fault {h : PH} (H : OKX h) {x1i : Int32} {x1 : Int} (ex1 : x1i = Z3 x1) (qx1 : r3 x1) : SimI OKX (F11_fault h 0 x1i) (G11_fault (rd h) x1) := by
  subst ex1
  unfold F11_fault G11_fault
  refine sm_cd (x_ok_11 H) ?_
  exact S11_fault_0 H rfl qx1
theorem S11_putOnTape_3 (n : Nat) : ∀ {h : PH} (H : OKX h) {x1i : Int32} {x1 : Int} (ex1 : x1i = Z3 x1) (qx1 : r3 x1) {x2i : Int32} {x2 : Int} (ex2 : x2i = Z3 x2) (qx2 : r3 x2), SimV OKX (F11_putOnTape_3 n h 0 x1i x2i) (G11_putOnTape_3 n (rd h) x1 x2) := by
  induction n with
  | zero => intros; exact smV_none _
  | succ n ih =>
    intro h H x1i x1 ex1 qx1 x2i x2 ex2 qx2
    subst ex1 ex2
    rw [F11_putOnTape_3, G11_putOnTape_3]
    refine sm_if (z3_lt rfl l3_0 qx2 lr3_0) ?_ ?_
    · exact sm_retV H
    · refine sm_rd (x_gI_11_1 H).1 ?_
      refine sm_if (z3_le l3_700 rfl lr3_700 (x_gI_11_1 H).2) ?_ ?_
      · exact sm_retV H
      · refine sm_rd (x_gR_11_0 H) ?_
        refine sm_rd (x_gI_11_1 H).1 ?_
        refine sgxV fun c1 => ?_
        refine sm_wt (x_sI_11_0 H rfl c1 (z3_by (z3_sr rfl (z3_an rfl l3_31))) (r3_of _)) fun h10 Hh10 => ?_
        refine sm_rd (x_gI_11_1 Hh10).1 ?_
        refine sg3V fun c2 => ?_
        refine sm_wt (x_pI_11_1 Hh10 (z3_add rfl l3_1) c2) fun h13 Hh13 => ?_
        refine sg3V fun c3 => ?_
        exact ih Hh13 rfl qx1 (z3_add rfl l3_m8) c3
theorem S11_putOnTape_0 {h : PH} (H : OKX h) {x1i : Int32} {x1 : Int} (ex1 : x1i = Z3 x1) (qx1 : r3 x1) : SimV OKX (F11_putOnTape_0 h 0 x1i) (G11_putOnTape_0 (rd h) x1) := by
  subst ex1
  unfold F11_putOnTape_0 G11_putOnTape_0
  exact S11_putOnTape_3 1024 H rfl qx1 l3_24 lr3_24
theorem S11_putOnTape {h : PH} (H : OKX h) {x1i : Int32} {x1 : Int} (ex1 : x1i = Z3 x1) (qx1 : r3 x1) : SimV OKX (F11_putOnTape h 0 x1i) (G11_putOnTape (rd h) x1) := by
  subst ex1
  unfold F11_putOnTape G11_putOnTape
  refine sm_cd (x_ok_11 H) ?_
  exact S11_putOnTape_0 H rfl qx1
theorem S11_feed_0 {h : PH} (H : OKX h) {x1i : Int32} {x1 : Int} (ex1 : x1i = Z3 x1) (qx1 : r3 x1) {x2i : Int32} {x2 : Int} (ex2 : x2i = Z3 x2) (qx2 : r3 x2) {x3i : Int32} {x3 : Int} (ex3 : x3i = Z3 x3) (qx3 : r3 x3) {x4i : Int32} {x4 : Int} (ex4 : x4i = Z3 x4) (qx4 : r3 x4) {x5i : Int32} {x5 : Int} (ex5 : x5i = Z3 x5) (qx5 : r3 x5) : SimI OKX (F11_feed_0 h 0 x1i x2i x3i x4i x5i) (G11_feed_0 (rd h) x1 x2 x3 x4 x5) := by
  subst ex1 ex2 ex3 ex4 ex5
  unfold F11_feed_0 G11_feed_0
  refine sm_rd (x_gI_11_1 H).1 ?_
  refine sg3I fun c1 => ?_
  refine sm_if (z3_le (z3_add rfl l3_20) l3_700 c1 lr3_700) ?_ ?_
  · refine sm_VI (S11_putOnTape H rfl qx1) fun ho4 Ho4 => ?_
    refine sm_VI (S11_putOnTape Ho4 rfl qx2) fun ho6 Ho6 => ?_
    refine sm_VI (S11_putOnTape Ho6 rfl qx3) fun ho8 Ho8 => ?_
    refine sm_VI (S11_putOnTape Ho8 rfl qx4) fun ho10 Ho10 => ?_
    refine sm_VI (S11_putOnTape Ho10 rfl qx5) fun ho12 Ho12 => ?_
    refine sm_rd (x_gI_11_1 Ho12).1 ?_
    exact sm_retI Ho12 rfl (x_gI_11_1 Ho12).2
  · exact sm_retI H l3_m1 lr3_m1
theorem S11_feed {h : PH} (H : OKX h) {x1i : Int32} {x1 : Int} (ex1 : x1i = Z3 x1) (qx1 : r3 x1) {x2i : Int32} {x2 : Int} (ex2 : x2i = Z3 x2) (qx2 : r3 x2) {x3i : Int32} {x3 : Int} (ex3 : x3i = Z3 x3) (qx3 : r3 x3) {x4i : Int32} {x4 : Int} (ex4 : x4i = Z3 x4) (qx4 : r3 x4) {x5i : Int32} {x5 : Int} (ex5 : x5i = Z3 x5) (qx5 : r3 x5) : SimI OKX (F11_feed h 0 x1i x2i x3i x4i x5i) (G11_feed (rd h) x1 x2 x3 x4 x5) := by
  subst ex1 ex2 ex3 ex4 ex5
  unfold F11_feed G11_feed
  refine sm_cd (x_ok_11 H) ?_
  exact S11_feed_0 H rfl qx1 rfl qx2 rfl qx3 rfl qx4 rfl qx5
theorem S11_gaps_26 (n : Nat) : ∀ {h : PH} (H : OKX h) {x1i : Int32} {x1 : Int} (ex1 : x1i = Z3 x1) (qx1 : r3 x1) {x2i : Int32} {x2 : Int} (ex2 : x2i = Z3 x2) (qx2 : r3 x2) {x3i : Int32} {x3 : Int} (ex3 : x3i = Z3 x3) (qx3 : r3 x3) {x4i : Int32} {x4 : Int} (ex4 : x4i = Z3 x4) (qx4 : r3 x4), SimI OKX (F11_gaps_26 n h 0 x1i x2i x3i x4i) (G11_gaps_26 n (rd h) x1 x2 x3 x4) := by
  induction n with
  | zero => intros; exact smI_none _
  | succ n ih =>
    intro h H x1i x1 ex1 qx1 x2i x2 ex2 qx2 x3i x3 ex3 qx3 x4i x4 ex4 qx4
    subst ex1 ex2 ex3 ex4
    rw [F11_gaps_26, G11_gaps_26]
    refine sm_rd (x_gR_11_3 H) ?_
    refine sm_rd (x_gR_8_5 H (x_v_11_3 H)) ?_
    refine sm_rd (x_gI_10_0 H (ao_8_5 (x_v_11_3 H))).1 ?_
    refine sm_if (z3_le rfl rfl (x_gI_10_0 H (ao_8_5 (x_v_11_3 H))).2 qx4) ?_ ?_
    · exact sm_retI H rfl qx3
    · refine sm_rd (x_gR_11_3 H) ?_
      refine sm_rd (x_gR_8_5 H (x_v_11_3 H)) ?_
      refine sm_II (S10_firstMinute H (ao_8_5 (x_v_11_3 H)) rfl qx4) fun vo12 ho12 Ho12 ro12 => ?_
      refine sm_rd (x_gR_11_3 Ho12) ?_
      refine sm_rd (x_gR_8_5 Ho12 (x_v_11_3 Ho12)) ?_
      refine sg3I fun c1 => ?_
      refine sm_II (S10_lastMinute Ho12 (ao_8_5 (x_v_11_3 Ho12)) (z3_sub rfl l3_1) c1) fun vo18 ho18 Ho18 ro18 => ?_
      refine sm_if (z3_eq rfl l3_1 qx2 lr3_1) ?_ ?_
      · refine sg3I fun c2 => ?_
        refine sg3I fun c3 => ?_
        exact ih Ho18 rfl qx1 rfl qx2 (z3_add rfl l3_1) c2 (z3_add rfl l3_1) c3
      · refine sg3I fun c4 => ?_
        refine sm_if (z3_lt rfl (z3_sub rfl rfl) qx1 c4) ?_ ?_
        · refine sg3I fun c5 => ?_
          exact ih Ho18 rfl qx1 rfl qx2 rfl qx3 (z3_add rfl l3_1) c5
        · refine sg3I fun c6 => ?_
          refine sg3I fun c7 => ?_
          exact ih Ho18 rfl qx1 rfl qx2 (z3_add rfl l3_1) c6 (z3_add rfl l3_1) c7
theorem S11_gaps_0 {h : PH} (H : OKX h) {x1i : Int32} {x1 : Int} (ex1 : x1i = Z3 x1) (qx1 : r3 x1) {x2i : Int32} {x2 : Int} (ex2 : x2i = Z3 x2) (qx2 : r3 x2) : SimI OKX (F11_gaps_0 h 0 x1i x2i) (G11_gaps_0 (rd h) x1 x2) := by
  subst ex1 ex2
  unfold F11_gaps_0 G11_gaps_0
  refine sm_if (z3_lt rfl l3_0 qx1 lr3_0) ?_ ?_
  · exact sm_retI H l3_m1 lr3_m1
  · refine sm_if (z3_lt l3_99 rfl lr3_99 qx1) ?_ ?_
    · exact sm_retI H l3_m1 lr3_m1
    · refine sm_if (z3_lt rfl l3_0 qx2 lr3_0) ?_ ?_
      · exact sm_retI H l3_m1 lr3_m1
      · refine sm_if (z3_le rfl l3_1 qx2 lr3_1) ?_ ?_
        · exact S11_gaps_26 1024 H rfl qx1 rfl qx2 l3_0 lr3_0 l3_1 lr3_1
        · exact sm_retI H l3_m1 lr3_m1
theorem S11_gaps {h : PH} (H : OKX h) {x1i : Int32} {x1 : Int} (ex1 : x1i = Z3 x1) (qx1 : r3 x1) {x2i : Int32} {x2 : Int} (ex2 : x2i = Z3 x2) (qx2 : r3 x2) : SimI OKX (F11_gaps h 0 x1i x2i) (G11_gaps (rd h) x1 x2) := by
  subst ex1 ex2
  unfold F11_gaps G11_gaps
  refine sm_cd (x_ok_11 H) ?_
  exact S11_gaps_0 H rfl qx1 rfl qx2
theorem S11_give_0 {h : PH} (H : OKX h) {x1i : Int32} {x1 : Int} (ex1 : x1i = Z3 x1) (qx1 : r3 x1) {x2i : Int32} {x2 : Int} (ex2 : x2i = Z3 x2) (qx2 : r3 x2) {x3i : Int32} {x3 : Int} (ex3 : x3i = Z3 x3) (qx3 : r3 x3) : SimI OKX (F11_give_0 h 0 x1i x2i x3i) (G11_give_0 (rd h) x1 x2 x3) := by
  subst ex1 ex2 ex3
  unfold F11_give_0 G11_give_0
  refine sm_II (S11_isSurfer H rfl qx1) fun vo1 ho1 Ho1 ro1 => ?_
  refine sm_if (z3_eq rfl l3_0 ro1 lr3_0) ?_ ?_
  · exact sm_retI Ho1 l3_m1 lr3_m1
  · refine sm_II (S11_isSurfer Ho1 rfl qx2) fun vo4 ho4 Ho4 ro4 => ?_
    refine sm_if (z3_eq rfl l3_0 ro4 lr3_0) ?_ ?_
    · exact sm_retI Ho4 l3_m1 lr3_m1
    · refine sm_if (z3_eq rfl rfl qx1 qx2) ?_ ?_
      · exact sm_retI Ho4 l3_m1 lr3_m1
      · refine sm_if (z3_lt rfl l3_0 qx3 lr3_0) ?_ ?_
        · exact sm_retI Ho4 l3_m1 lr3_m1
        · refine sm_if (z3_le rfl l3_99 qx3 lr3_99) ?_ ?_
          · refine sm_rd (x_gR_11_3 Ho4) ?_
            refine sm_rd (x_gR_8_4 Ho4 (x_v_11_3 Ho4)) ?_
            refine sm_rd (x_gR_1_6 Ho4 (ao_8_4 (x_v_11_3 Ho4))) ?_
            refine sgxI fun c1 => ?_
            refine sm_rd (x_aI_1_6 Ho4 (ao_1_6 (ao_8_4 (x_v_11_3 Ho4))) rfl c1).1 ?_
            refine sg3I fun c2 => ?_
            refine sm_if (z3_le (z3_mul rfl rfl) l3_100 c2 lr3_100) ?_ ?_
            · exact sm_retI Ho4 l3_0 lr3_0
            · exact sm_retI Ho4 l3_1 lr3_1
          · exact sm_retI Ho4 l3_m1 lr3_m1
theorem S11_give {h : PH} (H : OKX h) {x1i : Int32} {x1 : Int} (ex1 : x1i = Z3 x1) (qx1 : r3 x1) {x2i : Int32} {x2 : Int} (ex2 : x2i = Z3 x2) (qx2 : r3 x2) {x3i : Int32} {x3 : Int} (ex3 : x3i = Z3 x3) (qx3 : r3 x3) : SimI OKX (F11_give h 0 x1i x2i x3i) (G11_give (rd h) x1 x2 x3) := by
  subst ex1 ex2 ex3
  unfold F11_give G11_give
  refine sm_cd (x_ok_11 H) ?_
  exact S11_give_0 H rfl qx1 rfl qx2 rfl qx3
theorem S11_isWave_0 {h : PH} (H : OKX h) {x1i : Int32} {x1 : Int} (ex1 : x1i = Z3 x1) (qx1 : r3 x1) : SimI OKX (F11_isWave_0 h 0 x1i) (G11_isWave_0 (rd h) x1) := by
  subst ex1
  unfold F11_isWave_0 G11_isWave_0
  refine sm_if (z3_lt rfl l3_0 qx1 lr3_0) ?_ ?_
  · exact sm_rz H l3_0 (by decide)
  · refine sm_rd (x_gR_11_3 H) ?_
    refine sm_rd (x_gR_8_5 H (x_v_11_3 H)) ?_
    refine sm_rd (x_gI_10_1 H (ao_8_5 (x_v_11_3 H))).1 ?_
    refine sm_if (z3_le rfl rfl (x_gI_10_1 H (ao_8_5 (x_v_11_3 H))).2 qx1) ?_ ?_
    · exact sm_rz H l3_0 (by decide)
    · exact sm_rz H l3_1 (by decide)
theorem S11_isWave {h : PH} (H : OKX h) {x1i : Int32} {x1 : Int} (ex1 : x1i = Z3 x1) (qx1 : r3 x1) : SimI OKX (F11_isWave h 0 x1i) (G11_isWave (rd h) x1) := by
  subst ex1
  unfold F11_isWave G11_isWave
  refine sm_cd (x_ok_11 H) ?_
  exact S11_isWave_0 H rfl qx1
theorem S11_isToCome_0 {h : PH} (H : OKX h) {x1i : Int32} {x1 : Int} (ex1 : x1i = Z3 x1) (qx1 : r3 x1) : SimI OKX (F11_isToCome_0 h 0 x1i) (G11_isToCome_0 (rd h) x1) := by
  subst ex1
  unfold F11_isToCome_0 G11_isToCome_0
  refine sm_II (S11_isWave H rfl qx1) fun vo1 ho1 Ho1 ro1 => ?_
  refine sm_if (z3_eq rfl l3_0 ro1 lr3_0) ?_ ?_
  · exact sm_rz Ho1 l3_0 (by decide)
  · refine sm_rd (x_gR_11_3 Ho1) ?_
    refine sm_rd (x_gR_8_5 Ho1 (x_v_11_3 Ho1)) ?_
    refine sm_rd (x_gR_10_4 Ho1 (ao_8_5 (x_v_11_3 Ho1))) ?_
    refine sgxI fun c1 => ?_
    refine sm_rd (x_aI_10_4 Ho1 (ao_10_4 (ao_8_5 (x_v_11_3 Ho1))) rfl c1).1 ?_
    refine sm_rd (x_gR_11_7 Ho1) ?_
    refine sm_rd (x_gI_4_0 Ho1 p4_69).1 ?_
    refine sm_if (z3_lt rfl rfl (x_aI_10_4 Ho1 (ao_10_4 (ao_8_5 (x_v_11_3 Ho1))) rfl c1).2 (x_gI_4_0 Ho1 p4_69).2) ?_ ?_
    · exact sm_rz Ho1 l3_0 (by decide)
    · exact sm_rz Ho1 l3_1 (by decide)
theorem S11_isToCome {h : PH} (H : OKX h) {x1i : Int32} {x1 : Int} (ex1 : x1i = Z3 x1) (qx1 : r3 x1) : SimI OKX (F11_isToCome h 0 x1i) (G11_isToCome (rd h) x1) := by
  subst ex1
  unfold F11_isToCome G11_isToCome
  refine sm_cd (x_ok_11 H) ?_
  exact S11_isToCome_0 H rfl qx1
theorem S11_go_0 {h : PH} (H : OKX h) {x1i : Int32} {x1 : Int} (ex1 : x1i = Z3 x1) (qx1 : r3 x1) {x2i : Int32} {x2 : Int} (ex2 : x2i = Z3 x2) (qx2 : r3 x2) {x3i : Int32} {x3 : Int} (ex3 : x3i = Z3 x3) (qx3 : r3 x3) : SimI OKX (F11_go_0 h 0 x1i x2i x3i) (G11_go_0 (rd h) x1 x2 x3) := by
  subst ex1 ex2 ex3
  unfold F11_go_0 G11_go_0
  refine sm_II (S11_isSurfer H rfl qx1) fun vo1 ho1 Ho1 ro1 => ?_
  refine sm_if (z3_eq rfl l3_0 ro1 lr3_0) ?_ ?_
  · exact sm_retI Ho1 l3_m1 lr3_m1
  · refine sm_II (S11_isToCome Ho1 rfl qx2) fun vo4 ho4 Ho4 ro4 => ?_
    refine sm_if (z3_eq rfl l3_0 ro4 lr3_0) ?_ ?_
    · exact sm_retI Ho4 l3_m1 lr3_m1
    · refine sm_if (z3_lt rfl l3_0 qx3 lr3_0) ?_ ?_
      · exact sm_retI Ho4 l3_m1 lr3_m1
      · refine sm_if (z3_le rfl l3_999 qx3 lr3_999) ?_ ?_
        · refine sm_rd (x_gR_11_5 Ho4) ?_
          refine sm_rd (x_gR_11_7 Ho4) ?_
          refine sm_rd (x_gR_4_5 Ho4 p4_69) ?_
          refine sgxI fun c1 => ?_
          refine sm_rd (x_aI_4_5 Ho4 (ao_4_5 p4_69) rfl c1).1 ?_
          refine sm_II (S6_worthAt Ho4 p6_51 rfl qx1 rfl qx2 rfl ((x_aI_4_5 Ho4 (ao_4_5 p4_69) rfl c1).2)) fun vo17 ho17 Ho17 ro17 => ?_
          refine sm_rd (x_gR_11_5 Ho17) ?_
          refine sm_rd (x_gR_11_7 Ho17) ?_
          refine sm_II (S6_crossingOdds Ho17 p6_51 p4_69 rfl qx1 rfl qx2) fun vo23 ho23 Ho23 ro23 => ?_
          refine sg3I fun c2 => ?_
          refine sm_if (z3_le rfl (z3_mul rfl rfl) ro17 c2) ?_ ?_
          · exact sm_retI Ho23 l3_0 lr3_0
          · exact sm_retI Ho23 l3_1 lr3_1
        · exact sm_retI Ho4 l3_m1 lr3_m1
theorem S11_go {h : PH} (H : OKX h) {x1i : Int32} {x1 : Int} (ex1 : x1i = Z3 x1) (qx1 : r3 x1) {x2i : Int32} {x2 : Int} (ex2 : x2i = Z3 x2) (qx2 : r3 x2) {x3i : Int32} {x3 : Int} (ex3 : x3i = Z3 x3) (qx3 : r3 x3) : SimI OKX (F11_go h 0 x1i x2i x3i) (G11_go (rd h) x1 x2 x3) := by
  subst ex1 ex2 ex3
  unfold F11_go G11_go
  refine sm_cd (x_ok_11 H) ?_
  exact S11_go_0 H rfl qx1 rfl qx2 rfl qx3
theorem S11_isCell_0 {h : PH} (H : OKX h) {x1i : Int32} {x1 : Int} (ex1 : x1i = Z3 x1) (qx1 : r3 x1) : SimI OKX (F11_isCell_0 h 0 x1i) (G11_isCell_0 (rd h) x1) := by
  subst ex1
  unfold F11_isCell_0 G11_isCell_0
  refine sm_if (z3_lt rfl l3_0 qx1 lr3_0) ?_ ?_
  · exact sm_rz H l3_0 (by decide)
  · refine sm_rd (x_gR_11_3 H) ?_
    refine sm_II (S8_cells H (x_v_11_3 H)) fun vo4 ho4 Ho4 ro4 => ?_
    refine sm_if (z3_le rfl rfl ro4 qx1) ?_ ?_
    · exact sm_rz Ho4 l3_0 (by decide)
    · exact sm_rz Ho4 l3_1 (by decide)
theorem S11_isCell {h : PH} (H : OKX h) {x1i : Int32} {x1 : Int} (ex1 : x1i = Z3 x1) (qx1 : r3 x1) : SimI OKX (F11_isCell h 0 x1i) (G11_isCell (rd h) x1) := by
  subst ex1
  unfold F11_isCell G11_isCell
  refine sm_cd (x_ok_11 H) ?_
  exact S11_isCell_0 H rfl qx1
theorem S11_isRule_0 {h : PH} (H : OKX h) {x1i : Int32} {x1 : Int} (ex1 : x1i = Z3 x1) (qx1 : r3 x1) : SimI OKX (F11_isRule_0 h x1i) (G11_isRule_0 (rd h) x1) := by
  subst ex1
  unfold F11_isRule_0 G11_isRule_0
  refine sm_if (z3_lt rfl l3_0 qx1 lr3_0) ?_ ?_
  · exact sm_rz H l3_0 (by decide)
  · refine sm_if (z3_le l3_4 rfl lr3_4 qx1) ?_ ?_
    · exact sm_rz H l3_0 (by decide)
    · exact sm_rz H l3_1 (by decide)
theorem S11_isRule {h : PH} (H : OKX h) {x1i : Int32} {x1 : Int} (ex1 : x1i = Z3 x1) (qx1 : r3 x1) : SimI OKX (F11_isRule h 0 x1i) (G11_isRule (rd h) x1) := by
  subst ex1
  unfold F11_isRule G11_isRule
  refine sm_cd (x_ok_11 H) ?_
  exact S11_isRule_0 H rfl qx1
theorem S11_keep_0 {h : PH} (H : OKX h) : SimI OKX (F11_keep_0 h 0) (G11_keep_0 (rd h)) := by
  unfold F11_keep_0 G11_keep_0
  refine sm_rd (x_gR_11_9 H) ?_
  refine sm_rd (x_gR_11_7 H) ?_
  refine sm_VI (S4_takeAll H p4_83 p4_69) fun ho5 Ho5 => ?_
  refine sm_wt (x_pZ_11_10 Ho5 l3_1 (by decide)) fun h7 Hh7 => ?_
  refine sm_rd (x_gR_11_7 Hh7) ?_
  refine sm_rd (x_gI_4_0 Hh7 p4_69).1 ?_
  exact sm_retI Hh7 rfl (x_gI_4_0 Hh7 p4_69).2
theorem S11_keep {h : PH} (H : OKX h) : SimI OKX (F11_keep h 0) (G11_keep (rd h)) := by
  unfold F11_keep G11_keep
  refine sm_cd (x_ok_11 H) ?_
  exact S11_keep_0 H
theorem S11_known_0 {h : PH} (H : OKX h) {x1i : Int32} {x1 : Int} (ex1 : x1i = Z3 x1) (qx1 : r3 x1) : SimI OKX (F11_known_0 h 0 x1i) (G11_known_0 (rd h) x1) := by
  subst ex1
  unfold F11_known_0 G11_known_0
  refine sm_if (z3_lt rfl l3_m1 qx1 lr3_m1) ?_ ?_
  · exact sm_rz H l3_0 (by decide)
  · refine sm_rd (x_gR_11_11 H) ?_
    refine sm_rd (x_gI_3_0 H).1 ?_
    refine sm_if (z3_le rfl rfl qx1 (x_gI_3_0 H).2) ?_ ?_
    · refine sm_rd (x_gR_11_11 H) ?_
      refine sm_wt (x_pI_3_1 H rfl qx1) fun h9 Hh9 => ?_
      exact sm_rz Hh9 l3_1 (by decide)
    · exact sm_rz H l3_0 (by decide)
theorem S11_known {h : PH} (H : OKX h) {x1i : Int32} {x1 : Int} (ex1 : x1i = Z3 x1) (qx1 : r3 x1) : SimI OKX (F11_known h 0 x1i) (G11_known (rd h) x1) := by
  subst ex1
  unfold F11_known G11_known
  refine sm_cd (x_ok_11 H) ?_
  exact S11_known_0 H rfl qx1
theorem S11_law_0 {h : PH} (H : OKX h) {x1i : Int32} {x1 : Int} (ex1 : x1i = Z3 x1) (qx1 : r3 x1) {x2i : Int32} {x2 : Int} (ex2 : x2i = Z3 x2) (qx2 : r3 x2) {x3i : Int32} {x3 : Int} (ex3 : x3i = Z3 x3) (qx3 : r3 x3) : SimJ OKX (F11_law_0 h 0 x1i x2i x3i) (G11_law_0 (rd h) x1 x2 x3) := by
  subst ex1 ex2 ex3
  unfold F11_law_0 G11_law_0
  refine sm_if (z3_eq rfl l3_2 qx1 lr3_2) ?_ ?_
  · refine sm_rd (x_gR_11_5 H) ?_
    refine sm_rd (x_gR_11_7 H) ?_
    refine sm_rd (x_gI_4_0 H p4_69).1 ?_
    refine sm_JJ (S6_driftValue H p6_51 rfl ((x_gI_4_0 H p4_69).2)) fun vo30 ho30 Ho30 ro30 => ?_
    exact sm_retJ Ho30 rfl ro30
  · refine sm_IJ (S11_isSurfer H rfl qx2) fun vo2 ho2 Ho2 ro2 => ?_
    refine sm_if (z3_eq rfl l3_0 ro2 lr3_0) ?_ ?_
    · exact sm_retJ Ho2 l6_m9223372036854775808 lr6_m9223372036854775808
    · refine sm_IJ (S11_isWave Ho2 rfl qx3) fun vo5 ho5 Ho5 ro5 => ?_
      refine sm_if (z3_eq rfl l3_0 ro5 lr3_0) ?_ ?_
      · exact sm_retJ Ho5 l6_m9223372036854775808 lr6_m9223372036854775808
      · refine sm_if (z3_eq rfl l3_0 qx1 lr3_0) ?_ ?_
        · refine sm_rd (x_gR_11_5 Ho5) ?_
          refine sm_rd (x_gR_11_7 Ho5) ?_
          refine sm_rd (x_gR_4_5 Ho5 p4_69) ?_
          refine sgxJ fun c1 => ?_
          refine sm_rd (x_aI_4_5 Ho5 (ao_4_5 p4_69) rfl c1).1 ?_
          refine sm_JJ (S6_catchValue Ho5 p6_51 rfl qx2 rfl qx3 rfl ((x_aI_4_5 Ho5 (ao_4_5 p4_69) rfl c1).2)) fun vo22 ho22 Ho22 ro22 => ?_
          exact sm_retJ Ho22 rfl ro22
        · refine sm_if (z3_eq rfl l3_1 qx1 lr3_1) ?_ ?_
          · refine sm_rd (x_gR_11_5 Ho5) ?_
            refine sm_JJ (S6_awayValue Ho5 p6_51 rfl qx2 rfl qx3) fun vo12 ho12 Ho12 ro12 => ?_
            exact sm_retJ Ho12 rfl ro12
          · exact sm_retJ Ho5 l6_m9223372036854775808 lr6_m9223372036854775808
theorem S11_law {h : PH} (H : OKX h) {x1i : Int32} {x1 : Int} (ex1 : x1i = Z3 x1) (qx1 : r3 x1) {x2i : Int32} {x2 : Int} (ex2 : x2i = Z3 x2) (qx2 : r3 x2) {x3i : Int32} {x3 : Int} (ex3 : x3i = Z3 x3) (qx3 : r3 x3) : SimJ OKX (F11_law h 0 x1i x2i x3i) (G11_law (rd h) x1 x2 x3) := by
  subst ex1 ex2 ex3
  unfold F11_law G11_law
  refine sm_cd (x_ok_11 H) ?_
  exact S11_law_0 H rfl qx1 rfl qx2 rfl qx3
theorem S11_locals_74 {k26 : PH → Nat → Int32 → Int32 → Int32 → Int32 → Option (Int32 × PH)} {kk26 : Mem → Int → Int → Int → Int → Option (Int × Mem)} (hk26 : ∀ {h : PH} (_ : OKX h) {x2 : Int32} {y2 : Int} (_ : x2 = Z3 y2) (_ : r3 y2) {x3 : Int32} {y3 : Int} (_ : x3 = Z3 y3) (_ : r3 y3) {x4 : Int32} {y4 : Int} (_ : x4 = Z3 y4) (_ : r3 y4) {x5 : Int32} {y5 : Int} (_ : x5 = Z3 y5) (_ : r3 y5), SimI OKX (k26 h 0 x2 x3 x4 x5) (kk26 (rd h) y2 y3 y4 y5)) {h : PH} (H : OKX h) {x1i : Int32} {x1 : Int} (ex1 : x1i = Z3 x1) (qx1 : r3 x1) {x2i : Int32} {x2 : Int} (ex2 : x2i = Z3 x2) (qx2 : r3 x2) {x3i : Int32} {x3 : Int} (ex3 : x3i = Z3 x3) (qx3 : r3 x3) {x4i : Int32} {x4 : Int} (ex4 : x4i = Z3 x4) (qx4 : r3 x4) {s0i : Int32} {s0 : Int} (es0 : s0i = Z3 s0) (qs0 : r3 s0) : SimI OKX (F11_locals_74 k26 h 0 x1i x2i x3i x4i s0i) (G11_locals_74 kk26 (rd h) x1 x2 x3 x4 s0) := by
  subst ex1 ex2 ex3 ex4 es0
  unfold F11_locals_74 G11_locals_74
  refine sm_if (z3_eq rfl l3_m1 qs0 lr3_m1) ?_ ?_
  · refine sg3I fun c1 => ?_
    exact hk26 H rfl qx1 rfl qx2 rfl qx3 (z3_add rfl l3_1) c1
  · refine sm_rd (x_gR_11_11 H) ?_
    refine sm_rd (x_gR_3_3 H) ?_
    refine sgxI fun c2 => ?_
    refine sm_rd (x_aI_3_3 H rfl c2).1 ?_
    refine sm_rd (x_gR_11_5 H) ?_
    refine sm_rd (x_gR_11_11 H) ?_
    refine sm_rd (x_gR_3_4 H) ?_
    refine sgxI fun c3 => ?_
    refine sm_rd (x_aI_3_4 H rfl c3).1 ?_
    refine sm_rd (x_gR_11_3 H) ?_
    refine sm_rd (x_gR_8_5 H (x_v_11_3 H)) ?_
    refine sm_rd (x_gR_10_2 H (ao_8_5 (x_v_11_3 H))) ?_
    refine sgxI fun c4 => ?_
    refine sm_rd (x_aI_10_2 H (ao_10_2 (ao_8_5 (x_v_11_3 H))) rfl c4).1 ?_
    refine sm_II (S6_farOf H p6_51 rfl ((x_aI_3_4 H rfl c3).2) rfl ((x_aI_10_2 H (ao_10_2 (ao_8_5 (x_v_11_3 H))) rfl c4).2)) fun vo24 ho24 Ho24 ro24 => ?_
    refine sm_if (z3_lt rfl rfl qx1 ro24) ?_ ?_
    · refine sg3I fun c5 => ?_
      exact hk26 Ho24 rfl qx1 rfl qx2 (z3_or rfl (z3_sl l3_1 (z3_an rfl l3_31))) (r3_of _) (z3_add rfl l3_1) c5
    · refine sg3I fun c6 => ?_
      exact hk26 Ho24 rfl qx1 (z3_or rfl (z3_sl l3_1 (z3_an rfl l3_31))) (r3_of _) rfl qx3 (z3_add rfl l3_1) c6
theorem S11_locals_26 (n : Nat) : ∀ {h : PH} (H : OKX h) {x1i : Int32} {x1 : Int} (ex1 : x1i = Z3 x1) (qx1 : r3 x1) {x2i : Int32} {x2 : Int} (ex2 : x2i = Z3 x2) (qx2 : r3 x2) {x3i : Int32} {x3 : Int} (ex3 : x3i = Z3 x3) (qx3 : r3 x3) {x4i : Int32} {x4 : Int} (ex4 : x4i = Z3 x4) (qx4 : r3 x4), SimI OKX (F11_locals_26 n h 0 x1i x2i x3i x4i) (G11_locals_26 n (rd h) x1 x2 x3 x4) := by
  induction n with
  | zero => intros; exact smI_none _
  | succ n ih =>
    intro h H x1i x1 ex1 qx1 x2i x2 ex2 qx2 x3i x3 ex3 qx3 x4i x4 ex4 qx4
    subst ex1 ex2 ex3 ex4
    rw [F11_locals_26, G11_locals_26]
    refine sm_rd (x_gR_11_11 H) ?_
    refine sm_II (S3_howManyKnown H) fun vo3 ho3 Ho3 ro3 => ?_
    refine sm_if (z3_le rfl rfl ro3 qx4) ?_ ?_
    · exact sm_retI Ho3 (z3_an rfl (z3_xo rfl l3_m1)) (r3_of _)
    · refine sm_rd (x_gR_11_11 Ho3) ?_
      refine sm_II (S3_isKnownSeat Ho3 rfl qx4) fun vo8 ho8 Ho8 ro8 => ?_
      refine sm_if (z3_eq rfl l3_0 ro8 lr3_0) ?_ ?_
      · exact S11_locals_74 (@fun _ H _ _ ex1 qx1 _ _ ex2 qx2 _ _ ex3 qx3 _ _ ex4 qx4 => ih H ex1 qx1 ex2 qx2 ex3 qx3 ex4 qx4) Ho8 rfl qx1 rfl qx2 rfl qx3 rfl qx4 l3_m1 lr3_m1
      · refine sm_rd (x_gR_11_3 Ho8) ?_
        refine sm_rd (x_gR_8_5 Ho8 (x_v_11_3 Ho8)) ?_
        refine sm_rd (x_gR_11_11 Ho8) ?_
        refine sm_rd (x_gR_3_2 Ho8) ?_
        refine sgxI fun c1 => ?_
        refine sm_rd (x_aI_3_2 Ho8 rfl c1).1 ?_
        refine sm_II (S10_setFrom Ho8 (ao_8_5 (x_v_11_3 Ho8)) rfl ((x_aI_3_2 Ho8 rfl c1).2)) fun vo21 ho21 Ho21 ro21 => ?_
        exact S11_locals_74 (@fun _ H _ _ ex1 qx1 _ _ ex2 qx2 _ _ ex3 qx3 _ _ ex4 qx4 => ih H ex1 qx1 ex2 qx2 ex3 qx3 ex4 qx4) Ho21 rfl qx1 rfl qx2 rfl qx3 rfl qx4 rfl ro21
theorem S11_locals_0 {h : PH} (H : OKX h) {x1i : Int32} {x1 : Int} (ex1 : x1i = Z3 x1) (qx1 : r3 x1) : SimI OKX (F11_locals_0 h 0 x1i) (G11_locals_0 (rd h) x1) := by
  subst ex1
  unfold F11_locals_0 G11_locals_0
  refine sm_if (z3_lt rfl l3_0 qx1 lr3_0) ?_ ?_
  · exact sm_retI H l3_m1 lr3_m1
  · refine sm_if (z3_le rfl l3_12 qx1 lr3_12) ?_ ?_
    · refine sm_rd (x_gR_11_11 H) ?_
      refine sm_VI (S3_findStruck H) fun ho5 Ho5 => ?_
      exact S11_locals_26 1024 Ho5 rfl qx1 l3_0 lr3_0 l3_0 lr3_0 l3_0 lr3_0
    · exact sm_retI H l3_m1 lr3_m1
theorem S11_locals {h : PH} (H : OKX h) {x1i : Int32} {x1 : Int} (ex1 : x1i = Z3 x1) (qx1 : r3 x1) : SimI OKX (F11_locals h 0 x1i) (G11_locals (rd h) x1) := by
  subst ex1
  unfold F11_locals G11_locals
  refine sm_cd (x_ok_11 H) ?_
  exact S11_locals_0 H rfl qx1
theorem S11_passMinute_66 {h : PH} (H : OKX h) : SimV OKX (F11_passMinute_66 h 0) (G11_passMinute_66 (rd h)) := by
  unfold F11_passMinute_66 G11_passMinute_66
  refine sm_rd (x_gR_11_7 H) ?_
  refine sm_rd (x_gR_11_3 H) ?_
  refine sm_rd (x_gR_8_4 H (x_v_11_3 H)) ?_
  refine sm_rd (x_gI_1_0 H (ao_8_4 (x_v_11_3 H))).1 ?_
  refine sm_VV (S4_beginMinute H p4_69 rfl ((x_gI_1_0 H (ao_8_4 (x_v_11_3 H))).2)) fun ho9 Ho9 => ?_
  refine sm_rd (x_gR_11_12 Ho9) ?_
  refine sm_wt (x_pI_9_0 Ho9 l3_0 lr3_0) fun h13 Hh13 => ?_
  exact sm_retV Hh13
theorem S11_passMinute_0 {h : PH} (H : OKX h) : SimV OKX (F11_passMinute_0 h 0) (G11_passMinute_0 (rd h)) := by
  unfold F11_passMinute_0 G11_passMinute_0
  refine sm_rd (x_gR_11_3 H) ?_
  refine sm_rd (x_gR_8_5 H (x_v_11_3 H)) ?_
  refine sm_rd (x_gR_11_7 H) ?_
  refine sm_rd (x_gI_4_0 H p4_69).1 ?_
  refine sm_IV (S10_firstFrom H (ao_8_5 (x_v_11_3 H)) rfl ((x_gI_4_0 H p4_69).2)) fun vo9 ho9 Ho9 ro9 => ?_
  refine sm_rd (x_gR_11_3 Ho9) ?_
  refine sm_rd (x_gR_8_5 Ho9 (x_v_11_3 Ho9)) ?_
  refine sm_rd (x_gI_10_1 Ho9 (ao_8_5 (x_v_11_3 Ho9))).1 ?_
  refine sm_if (z3_le rfl rfl (x_gI_10_1 Ho9 (ao_8_5 (x_v_11_3 Ho9))).2 ro9) ?_ ?_
  · exact S11_passMinute_66 Ho9
  · refine sm_rd (x_gR_11_3 Ho9) ?_
    refine sm_rd (x_gR_8_5 Ho9 (x_v_11_3 Ho9)) ?_
    refine sm_rd (x_gR_10_4 Ho9 (ao_8_5 (x_v_11_3 Ho9))) ?_
    refine sgxV fun c1 => ?_
    refine sm_rd (x_aI_10_4 Ho9 (ao_10_4 (ao_8_5 (x_v_11_3 Ho9))) rfl c1).1 ?_
    refine sm_rd (x_gR_11_7 Ho9) ?_
    refine sm_rd (x_gI_4_0 Ho9 p4_69).1 ?_
    refine sm_if (z3_eq rfl rfl (x_aI_10_4 Ho9 (ao_10_4 (ao_8_5 (x_v_11_3 Ho9))) rfl c1).2 (x_gI_4_0 Ho9 p4_69).2) ?_ ?_
    · refine sm_rd (x_gR_11_5 Ho9) ?_
      refine sm_rd (x_gR_11_7 Ho9) ?_
      refine sm_VV (S6_bringWave Ho9 p6_51 p4_69 rfl ro9) fun ho35 Ho35 => ?_
      exact S11_passMinute_66 Ho35
    · exact S11_passMinute_66 Ho9
theorem S11_passMinute {h : PH} (H : OKX h) : SimV OKX (F11_passMinute h 0) (G11_passMinute (rd h)) := by
  unfold F11_passMinute G11_passMinute
  refine sm_cd (x_ok_11 H) ?_
  exact S11_passMinute_0 H
theorem S11_minutes_29 (n : Nat) : ∀ {h : PH} (H : OKX h) {x1i : Int32} {x1 : Int} (ex1 : x1i = Z3 x1) (qx1 : r3 x1) {x2i : Int32} {x2 : Int} (ex2 : x2i = Z3 x2) (qx2 : r3 x2), SimI OKX (F11_minutes_29 n h 0 x1i x2i) (G11_minutes_29 n (rd h) x1 x2) := by
  induction n with
  | zero => intros; exact smI_none _
  | succ n ih =>
    intro h H x1i x1 ex1 qx1 x2i x2 ex2 qx2
    subst ex1 ex2
    rw [F11_minutes_29, G11_minutes_29]
    refine sm_if (z3_le rfl rfl qx1 qx2) ?_ ?_
    · refine sm_rd (x_gR_11_7 H) ?_
      refine sm_rd (x_gI_4_0 H p4_69).1 ?_
      exact sm_retI H rfl (x_gI_4_0 H p4_69).2
    · refine sm_VI (S11_passMinute H) fun ho6 Ho6 => ?_
      refine sg3I fun c1 => ?_
      exact ih Ho6 rfl qx1 (z3_add rfl l3_1) c1
theorem S11_minutes_0 {h : PH} (H : OKX h) {x1i : Int32} {x1 : Int} (ex1 : x1i = Z3 x1) (qx1 : r3 x1) : SimI OKX (F11_minutes_0 h 0 x1i) (G11_minutes_0 (rd h) x1) := by
  subst ex1
  unfold F11_minutes_0 G11_minutes_0
  refine sm_if (z3_lt rfl l3_0 qx1 lr3_0) ?_ ?_
  · exact sm_retI H l3_m1 lr3_m1
  · refine sm_if (z3_lt l3_99 rfl lr3_99 qx1) ?_ ?_
    · exact sm_retI H l3_m1 lr3_m1
    · refine sm_rd (x_gR_11_7 H) ?_
      refine sm_rd (x_gI_4_0 H p4_69).1 ?_
      refine sg3I fun c1 => ?_
      refine sm_if (z3_le (z3_add rfl rfl) l3_199 c1 lr3_199) ?_ ?_
      · exact S11_minutes_29 1024 H rfl qx1 l3_0 lr3_0
      · exact sm_retI H l3_m1 lr3_m1
theorem S11_minutes {h : PH} (H : OKX h) {x1i : Int32} {x1 : Int} (ex1 : x1i = Z3 x1) (qx1 : r3 x1) : SimI OKX (F11_minutes h 0 x1i) (G11_minutes (rd h) x1) := by
  subst ex1
  unfold F11_minutes G11_minutes
  refine sm_cd (x_ok_11 H) ?_
  exact S11_minutes_0 H rfl qx1
theorem S11_named_2 (n : Nat) : ∀ {h : PH} (H : OKX h) {x1i : Int32} {x1 : Int} (ex1 : x1i = Z3 x1) (qx1 : r3 x1) {x2i : Int32} {x2 : Int} (ex2 : x2i = Z3 x2) (qx2 : r3 x2), SimI OKX (F11_named_2 n h 0 x1i x2i) (G11_named_2 n (rd h) x1 x2) := by
  induction n with
  | zero => intros; exact smI_none _
  | succ n ih =>
    intro h H x1i x1 ex1 qx1 x2i x2 ex2 qx2
    subst ex1 ex2
    rw [F11_named_2, G11_named_2]
    refine sm_rd (x_gR_11_3 H) ?_
    refine sm_rd (x_gR_8_4 H (x_v_11_3 H)) ?_
    refine sm_rd (x_gI_1_0 H (ao_8_4 (x_v_11_3 H))).1 ?_
    refine sm_if (z3_le rfl rfl (x_gI_1_0 H (ao_8_4 (x_v_11_3 H))).2 qx2) ?_ ?_
    · exact sm_retI H l3_m1 lr3_m1
    · refine sm_rd (x_gR_11_3 H) ?_
      refine sm_rd (x_gR_8_4 H (x_v_11_3 H)) ?_
      refine sm_rd (x_gR_1_1 H (ao_8_4 (x_v_11_3 H))) ?_
      refine sgxI fun c1 => ?_
      refine sm_rd (x_aI_1_1 H (ao_1_1 (ao_8_4 (x_v_11_3 H))) rfl c1).1 ?_
      refine sm_if (z3_eq rfl rfl (x_aI_1_1 H (ao_1_1 (ao_8_4 (x_v_11_3 H))) rfl c1).2 qx1) ?_ ?_
      · exact sm_retI H rfl qx2
      · refine sg3I fun c2 => ?_
        exact ih H rfl qx1 (z3_add rfl l3_1) c2
theorem S11_named_0 {h : PH} (H : OKX h) {x1i : Int32} {x1 : Int} (ex1 : x1i = Z3 x1) (qx1 : r3 x1) : SimI OKX (F11_named_0 h 0 x1i) (G11_named_0 (rd h) x1) := by
  subst ex1
  unfold F11_named_0 G11_named_0
  exact S11_named_2 1024 H rfl qx1 l3_0 lr3_0
theorem S11_named {h : PH} (H : OKX h) {x1i : Int32} {x1 : Int} (ex1 : x1i = Z3 x1) (qx1 : r3 x1) : SimI OKX (F11_named h 0 x1i) (G11_named (rd h) x1) := by
  subst ex1
  unfold F11_named G11_named
  refine sm_cd (x_ok_11 H) ?_
  exact S11_named_0 H rfl qx1
theorem S11_next_0 {h : PH} (H : OKX h) : SimI OKX (F11_next_0 h 0) (G11_next_0 (rd h)) := by
  unfold F11_next_0 G11_next_0
  refine sm_rd (x_gR_11_3 H) ?_
  refine sm_rd (x_gR_8_5 H (x_v_11_3 H)) ?_
  refine sm_rd (x_gR_11_7 H) ?_
  refine sm_rd (x_gI_4_0 H p4_69).1 ?_
  refine sm_II (S10_setFrom H (ao_8_5 (x_v_11_3 H)) rfl ((x_gI_4_0 H p4_69).2)) fun vo9 ho9 Ho9 ro9 => ?_
  refine sm_if (z3_eq rfl l3_m1 ro9 lr3_m1) ?_ ?_
  · exact sm_retI Ho9 l3_m2 lr3_m2
  · refine sm_rd (x_gR_11_3 Ho9) ?_
    refine sm_rd (x_gR_8_5 Ho9 (x_v_11_3 Ho9)) ?_
    refine sm_II (S10_firstMinute Ho9 (ao_8_5 (x_v_11_3 Ho9)) rfl ro9) fun vo16 ho16 Ho16 ro16 => ?_
    refine sm_rd (x_gR_11_7 Ho16) ?_
    refine sm_rd (x_gI_4_0 Ho16 p4_69).1 ?_
    refine sg3I fun c1 => ?_
    exact sm_retI Ho16 (z3_sub rfl rfl) c1
theorem S11_next {h : PH} (H : OKX h) : SimI OKX (F11_next h 0) (G11_next (rd h)) := by
  unfold F11_next G11_next
  refine sm_cd (x_ok_11 H) ?_
  exact S11_next_0 H
theorem S11_note_0 {h : PH} (H : OKX h) {x1i : Int32} {x1 : Int} (ex1 : x1i = Z3 x1) (qx1 : r3 x1) {x2i : Int32} {x2 : Int} (ex2 : x2i = Z3 x2) (qx2 : r3 x2) {x3i : Int32} {x3 : Int} (ex3 : x3i = Z3 x3) (qx3 : r3 x3) : SimI OKX (F11_note_0 h 0 x1i x2i x3i) (G11_note_0 (rd h) x1 x2 x3) := by
  subst ex1 ex2 ex3
  unfold F11_note_0 G11_note_0
  refine sm_if (z3_lt rfl l3_0 qx1 lr3_0) ?_ ?_
  · exact sm_retI H l3_m1 lr3_m1
  · refine sm_if (z3_lt l3_199 rfl lr3_199 qx1) ?_ ?_
    · exact sm_retI H l3_m1 lr3_m1
    · refine sm_II (S11_isSurfer H rfl qx2) fun vo3 ho3 Ho3 ro3 => ?_
      refine sm_if (z3_eq rfl l3_0 ro3 lr3_0) ?_ ?_
      · exact sm_retI Ho3 l3_m1 lr3_m1
      · refine sm_II (S11_isCell Ho3 rfl qx3) fun vo6 ho6 Ho6 ro6 => ?_
        refine sm_if (z3_eq rfl l3_0 ro6 lr3_0) ?_ ?_
        · exact sm_retI Ho6 l3_m1 lr3_m1
        · refine sm_rd (x_gR_11_11 Ho6) ?_
          refine sm_II (S3_addSeat Ho6 rfl qx1 rfl qx2 rfl qx3) fun vo11 ho11 Ho11 ro11 => ?_
          exact sm_retI Ho11 rfl ro11
theorem S11_note {h : PH} (H : OKX h) {x1i : Int32} {x1 : Int} (ex1 : x1i = Z3 x1) (qx1 : r3 x1) {x2i : Int32} {x2 : Int} (ex2 : x2i = Z3 x2) (qx2 : r3 x2) {x3i : Int32} {x3 : Int} (ex3 : x3i = Z3 x3) (qx3 : r3 x3) : SimI OKX (F11_note h 0 x1i x2i x3i) (G11_note (rd h) x1 x2 x3) := by
  subst ex1 ex2 ex3
  unfold F11_note G11_note
  refine sm_cd (x_ok_11 H) ?_
  exact S11_note_0 H rfl qx1 rfl qx2 rfl qx3
theorem S11_odds_0 {h : PH} (H : OKX h) {x1i : Int32} {x1 : Int} (ex1 : x1i = Z3 x1) (qx1 : r3 x1) {x2i : Int32} {x2 : Int} (ex2 : x2i = Z3 x2) (qx2 : r3 x2) {x3i : Int32} {x3 : Int} (ex3 : x3i = Z3 x3) (qx3 : r3 x3) : SimI OKX (F11_odds_0 h 0 x1i x2i x3i) (G11_odds_0 (rd h) x1 x2 x3) := by
  subst ex1 ex2 ex3
  unfold F11_odds_0 G11_odds_0
  refine sm_II (S11_isSurfer H rfl qx1) fun vo1 ho1 Ho1 ro1 => ?_
  refine sm_if (z3_eq rfl l3_0 ro1 lr3_0) ?_ ?_
  · exact sm_retI Ho1 l3_m1 lr3_m1
  · refine sm_II (S11_isWave Ho1 rfl qx2) fun vo4 ho4 Ho4 ro4 => ?_
    refine sm_if (z3_eq rfl l3_0 ro4 lr3_0) ?_ ?_
    · exact sm_retI Ho4 l3_m1 lr3_m1
    · refine sm_II (S11_isCell Ho4 rfl qx3) fun vo7 ho7 Ho7 ro7 => ?_
      refine sm_if (z3_eq rfl l3_0 ro7 lr3_0) ?_ ?_
      · exact sm_retI Ho7 l3_m1 lr3_m1
      · refine sm_rd (x_gR_11_5 Ho7) ?_
        refine sm_II (S6_oddsAt Ho7 p6_51 rfl qx1 rfl qx2 rfl qx3) fun vo12 ho12 Ho12 ro12 => ?_
        exact sm_retI Ho12 rfl ro12
theorem S11_odds {h : PH} (H : OKX h) {x1i : Int32} {x1 : Int} (ex1 : x1i = Z3 x1) (qx1 : r3 x1) {x2i : Int32} {x2 : Int} (ex2 : x2i = Z3 x2) (qx2 : r3 x2) {x3i : Int32} {x3 : Int} (ex3 : x3i = Z3 x3) (qx3 : r3 x3) : SimI OKX (F11_odds h 0 x1i x2i x3i) (G11_odds (rd h) x1 x2 x3) := by
  subst ex1 ex2 ex3
  unfold F11_odds G11_odds
  refine sm_cd (x_ok_11 H) ?_
  exact S11_odds_0 H rfl qx1 rfl qx2 rfl qx3
theorem S11_order_0 {h : PH} (H : OKX h) {x1i : Int32} {x1 : Int} (ex1 : x1i = Z3 x1) (qx1 : r3 x1) {x2i : Int32} {x2 : Int} (ex2 : x2i = Z3 x2) (qx2 : r3 x2) : SimI OKX (F11_order_0 h 0 x1i x2i) (G11_order_0 (rd h) x1 x2) := by
  subst ex1 ex2
  unfold F11_order_0 G11_order_0
  refine sm_II (S11_isToCome H rfl qx1) fun vo1 ho1 Ho1 ro1 => ?_
  refine sm_if (z3_eq rfl l3_0 ro1 lr3_0) ?_ ?_
  · exact sm_retI Ho1 l3_m1 lr3_m1
  · refine sm_if (z3_le l3_0 rfl lr3_0 qx2) ?_ ?_
    · refine sm_rd (x_gR_11_5 Ho1) ?_
      refine sm_rd (x_gR_11_7 Ho1) ?_
      refine sm_rd (x_gR_11_7 Ho1) ?_
      refine sm_rd (x_gI_4_0 Ho1 p4_69).1 ?_
      refine sm_II (S6_lineUp Ho1 p6_51 p4_69 rfl qx1 rfl ((x_gI_4_0 Ho1 p4_69).2)) fun vo13 ho13 Ho13 ro13 => ?_
      refine sm_if (z3_le rfl rfl ro13 qx2) ?_ ?_
      · exact sm_retI Ho13 l3_m2 lr3_m2
      · refine sm_rd (x_gR_11_5 Ho13) ?_
        refine sm_rd (x_gR_6_6 Ho13 p6_51) ?_
        refine sgxI fun c1 => ?_
        refine sm_rd (x_aI_6_6 Ho13 (ao_6_6 p6_51) rfl c1).1 ?_
        exact sm_retI Ho13 rfl (x_aI_6_6 Ho13 (ao_6_6 p6_51) rfl c1).2
    · exact sm_retI Ho1 l3_m1 lr3_m1
theorem S11_order {h : PH} (H : OKX h) {x1i : Int32} {x1 : Int} (ex1 : x1i = Z3 x1) (qx1 : r3 x1) {x2i : Int32} {x2 : Int} (ex2 : x2i = Z3 x2) (qx2 : r3 x2) : SimI OKX (F11_order h 0 x1i x2i) (G11_order (rd h) x1 x2) := by
  subst ex1 ex2
  unfold F11_order G11_order
  refine sm_cd (x_ok_11 H) ?_
  exact S11_order_0 H rfl qx1 rfl qx2
theorem S11_over_93 (n : Nat) : ∀ {h : PH} (H : OKX h) {x1i : Int32} {x1 : Int} (ex1 : x1i = Z3 x1) (qx1 : r3 x1) {x2i : Int32} {x2 : Int} (ex2 : x2i = Z3 x2) (qx2 : r3 x2) {x3i : Int32} {x3 : Int} (ex3 : x3i = Z3 x3) (qx3 : r3 x3) {x4i : Int32} {x4 : Int} (ex4 : x4i = Z3 x4) (qx4 : r3 x4) {x5i : Int32} {x5 : Int} (ex5 : x5i = Z3 x5) (qx5 : r3 x5), SimI OKX (F11_over_93 n h 0 x1i x2i x3i x4i x5i) (G11_over_93 n (rd h) x1 x2 x3 x4 x5) := by
  induction n with
  | zero => intros; exact smI_none _
  | succ n ih =>
    intro h H x1i x1 ex1 qx1 x2i x2 ex2 qx2 x3i x3 ex3 qx3 x4i x4 ex4 qx4 x5i x5 ex5 qx5
    subst ex1 ex2 ex3 ex4 ex5
    rw [F11_over_93, G11_over_93]
    refine sm_if (z3_lt rfl rfl qx2 qx5) ?_ ?_
    · exact sm_retI H l3_m2 lr3_m2
    · refine sm_rd (x_gR_11_3 H) ?_
      refine sm_rd (x_gI_8_8 H (x_v_11_3 H)).1 ?_
      refine sm_rd (x_gR_11_3 H) ?_
      refine sm_II (S8_bankWaves H (x_v_11_3 H) rfl qx5 rfl qx2) fun vo8 ho8 Ho8 ro8 => ?_
      refine sg3I fun c1 => ?_
      refine sm_if (z3_le (z3_mul (z3_mul l3_100 rfl) rfl) rfl c1 qx4) ?_ ?_
      · refine sm_rd (x_gR_11_3 Ho8) ?_
        refine sm_rd (x_gR_8_5 Ho8 (x_v_11_3 Ho8)) ?_
        refine sm_rd (x_gI_10_1 Ho8 (ao_8_5 (x_v_11_3 Ho8))).1 ?_
        refine sm_if (z3_le rfl rfl (x_gI_10_1 Ho8 (ao_8_5 (x_v_11_3 Ho8))).2 qx3) ?_ ?_
        · refine sg3I fun c2 => ?_
          exact ih Ho8 rfl qx1 rfl qx2 rfl qx3 rfl qx4 (z3_add rfl l3_1) c2
        · refine sm_rd (x_gR_11_3 Ho8) ?_
          refine sm_rd (x_gR_8_5 Ho8 (x_v_11_3 Ho8)) ?_
          refine sm_rd (x_gR_10_4 Ho8 (ao_8_5 (x_v_11_3 Ho8))) ?_
          refine sgxI fun c3 => ?_
          refine sm_rd (x_aI_10_4 Ho8 (ao_10_4 (ao_8_5 (x_v_11_3 Ho8))) rfl c3).1 ?_
          refine sm_if (z3_eq rfl rfl (x_aI_10_4 Ho8 (ao_10_4 (ao_8_5 (x_v_11_3 Ho8))) rfl c3).2 qx5) ?_ ?_
          · refine sm_rd (x_gR_11_5 Ho8) ?_
            refine sm_rd (x_gR_11_7 Ho8) ?_
            refine sm_rd (x_gR_4_5 Ho8 p4_69) ?_
            refine sgxI fun c4 => ?_
            refine sm_rd (x_aI_4_5 Ho8 (ao_4_5 p4_69) rfl c4).1 ?_
            refine sm_II (S6_worthAt Ho8 p6_51 rfl qx1 rfl qx3 rfl ((x_aI_4_5 Ho8 (ao_4_5 p4_69) rfl c4).2)) fun vo35 ho35 Ho35 ro35 => ?_
            refine sg3I fun c5 => ?_
            refine sg3I fun c6 => ?_
            refine sg3I fun c7 => ?_
            exact ih Ho35 rfl qx1 rfl qx2 (z3_add rfl l3_1) c5 (z3_sub rfl rfl) c6 (z3_add rfl l3_1) c7
          · refine sg3I fun c8 => ?_
            exact ih Ho8 rfl qx1 rfl qx2 rfl qx3 rfl qx4 (z3_add rfl l3_1) c8
      · exact sm_retI Ho8 rfl qx5
theorem S11_over_0 {h : PH} (H : OKX h) {x1i : Int32} {x1 : Int} (ex1 : x1i = Z3 x1) (qx1 : r3 x1) : SimI OKX (F11_over_0 h 0 x1i) (G11_over_0 (rd h) x1) := by
  subst ex1
  unfold F11_over_0 G11_over_0
  refine sm_II (S11_isSurfer H rfl qx1) fun vo1 ho1 Ho1 ro1 => ?_
  refine sm_if (z3_eq rfl l3_0 ro1 lr3_0) ?_ ?_
  · exact sm_retI Ho1 l3_m1 lr3_m1
  · refine sm_rd (x_gR_11_3 Ho1) ?_
    refine sm_rd (x_gI_8_7 Ho1 (x_v_11_3 Ho1)).1 ?_
    refine sm_if (z3_lt rfl l3_1 (x_gI_8_7 Ho1 (x_v_11_3 Ho1)).2 lr3_1) ?_ ?_
    · exact sm_retI Ho1 l3_m1 lr3_m1
    · refine sm_rd (x_gR_11_3 Ho1) ?_
      refine sm_rd (x_gR_8_5 Ho1 (x_v_11_3 Ho1)) ?_
      refine sm_rd (x_gI_10_1 Ho1 (ao_8_5 (x_v_11_3 Ho1))).1 ?_
      refine sm_if (z3_le l3_1 rfl lr3_1 (x_gI_10_1 Ho1 (ao_8_5 (x_v_11_3 Ho1))).2) ?_ ?_
      · refine sm_rd (x_gR_11_3 Ho1) ?_
        refine sm_rd (x_gR_8_5 Ho1 (x_v_11_3 Ho1)) ?_
        refine sm_rd (x_gR_10_4 Ho1 (ao_8_5 (x_v_11_3 Ho1))) ?_
        refine sm_rd (x_gR_11_3 Ho1) ?_
        refine sm_rd (x_gR_8_5 Ho1 (x_v_11_3 Ho1)) ?_
        refine sm_rd (x_gI_10_1 Ho1 (ao_8_5 (x_v_11_3 Ho1))).1 ?_
        refine sgxI fun c1 => ?_
        refine sm_rd (x_aI_10_4 Ho1 (ao_10_4 (ao_8_5 (x_v_11_3 Ho1))) (z3_sub rfl l3_1) c1).1 ?_
        refine sm_II (S11_firstToCome Ho1) fun vo30 ho30 Ho30 ro30 => ?_
        refine sm_rd (x_gR_11_5 Ho30) ?_
        refine sm_rd (x_gR_11_7 Ho30) ?_
        refine sm_rd (x_gR_4_5 Ho30 p4_69) ?_
        refine sgxI fun c2 => ?_
        refine sm_rd (x_aI_4_5 Ho30 (ao_4_5 p4_69) rfl c2).1 ?_
        refine sm_II (S6_seatFrom Ho30 p6_51 rfl qx1 rfl ((x_aI_4_5 Ho30 (ao_4_5 p4_69) rfl c2).2) rfl ro30) fun vo40 ho40 Ho40 ro40 => ?_
        refine sm_rd (x_gR_11_7 Ho40) ?_
        refine sm_rd (x_gI_4_0 Ho40 p4_69).1 ?_
        exact S11_over_93 1024 Ho40 rfl qx1 rfl ((x_aI_10_4 Ho1 (ao_10_4 (ao_8_5 (x_v_11_3 Ho1))) (z3_sub rfl l3_1) c1).2) rfl ro30 rfl ro40 rfl ((x_gI_4_0 Ho40 p4_69).2)
      · exact sm_retI Ho1 l3_m1 lr3_m1
theorem S11_over {h : PH} (H : OKX h) {x1i : Int32} {x1 : Int} (ex1 : x1i = Z3 x1) (qx1 : r3 x1) : SimI OKX (F11_over h 0 x1i) (G11_over (rd h) x1) := by
  subst ex1
  unfold F11_over G11_over
  refine sm_cd (x_ok_11 H) ?_
  exact S11_over_0 H rfl qx1
theorem S11_peak_0 {h : PH} (H : OKX h) {x1i : Int32} {x1 : Int} (ex1 : x1i = Z3 x1) (qx1 : r3 x1) : SimI OKX (F11_peak_0 h 0 x1i) (G11_peak_0 (rd h) x1) := by
  subst ex1
  unfold F11_peak_0 G11_peak_0
  refine sm_if (z3_lt rfl l3_0 qx1 lr3_0) ?_ ?_
  · exact sm_retI H l3_m1 lr3_m1
  · refine sm_if (z3_le rfl l3_199 qx1 lr3_199) ?_ ?_
    · refine sm_rd (x_gR_11_3 H) ?_
      refine sm_rd (x_gI_8_3 H (x_v_11_3 H)).1 ?_
      refine sm_rd (x_gR_11_3 H) ?_
      refine sm_rd (x_gI_8_0 H (x_v_11_3 H)).1 ?_
      refine sm_rd (x_gR_11_5 H) ?_
      refine sm_II (S6_peakXAt H p6_51 rfl qx1) fun vo13 ho13 Ho13 ro13 => ?_
      refine sg3I fun c1 => ?_
      exact sm_retI Ho13 (z3_add (z3_mul rfl rfl) rfl) c1
    · exact sm_retI H l3_m1 lr3_m1
theorem S11_peak {h : PH} (H : OKX h) {x1i : Int32} {x1 : Int} (ex1 : x1i = Z3 x1) (qx1 : r3 x1) : SimI OKX (F11_peak h 0 x1i) (G11_peak (rd h) x1) := by
  subst ex1
  unfold F11_peak G11_peak
  refine sm_cd (x_ok_11 H) ?_
  exact S11_peak_0 H rfl qx1
theorem S11_plan_0 {h : PH} (H : OKX h) {x1i : Int32} {x1 : Int} (ex1 : x1i = Z3 x1) (qx1 : r3 x1) : SimI OKX (F11_plan_0 h 0 x1i) (G11_plan_0 (rd h) x1) := by
  subst ex1
  unfold F11_plan_0 G11_plan_0
  refine sm_II (S11_isSurfer H rfl qx1) fun vo1 ho1 Ho1 ro1 => ?_
  refine sm_if (z3_eq rfl l3_0 ro1 lr3_0) ?_ ?_
  · exact sm_retI Ho1 l3_m1 lr3_m1
  · refine sm_rd (x_gR_11_13 Ho1) ?_
    refine sm_rd (x_gR_11_5 Ho1) ?_
    refine sm_rd (x_gR_11_7 Ho1) ?_
    refine sm_VI (S0_makePlan Ho1 p6_51 p4_69 rfl qx1) fun ho10 Ho10 => ?_
    refine sm_rd (x_gR_11_13 Ho10) ?_
    refine sm_rd (x_gI_0_12 Ho10).1 ?_
    exact sm_retI Ho10 rfl (x_gI_0_12 Ho10).2
theorem S11_plan {h : PH} (H : OKX h) {x1i : Int32} {x1 : Int} (ex1 : x1i = Z3 x1) (qx1 : r3 x1) : SimI OKX (F11_plan h 0 x1i) (G11_plan (rd h) x1) := by
  subst ex1
  unfold F11_plan G11_plan
  refine sm_cd (x_ok_11 H) ?_
  exact S11_plan_0 H rfl qx1
theorem S11_planned_0 {h : PH} (H : OKX h) {x1i : Int32} {x1 : Int} (ex1 : x1i = Z3 x1) (qx1 : r3 x1) {x2i : Int32} {x2 : Int} (ex2 : x2i = Z3 x2) (qx2 : r3 x2) : SimI OKX (F11_planned_0 h 0 x1i x2i) (G11_planned_0 (rd h) x1 x2) := by
  subst ex1 ex2
  unfold F11_planned_0 G11_planned_0
  refine sm_II (S11_isSurfer H rfl qx1) fun vo1 ho1 Ho1 ro1 => ?_
  refine sm_if (z3_eq rfl l3_0 ro1 lr3_0) ?_ ?_
  · exact sm_retI Ho1 l3_m1 lr3_m1
  · refine sm_if (z3_le l3_0 rfl lr3_0 qx2) ?_ ?_
    · refine sm_rd (x_gR_11_13 Ho1) ?_
      refine sm_rd (x_gR_11_5 Ho1) ?_
      refine sm_rd (x_gR_11_7 Ho1) ?_
      refine sm_VI (S0_makePlan Ho1 p6_51 p4_69 rfl qx1) fun ho11 Ho11 => ?_
      refine sm_rd (x_gR_11_13 Ho11) ?_
      refine sm_rd (x_gI_0_11 Ho11).1 ?_
      refine sm_if (z3_le rfl rfl (x_gI_0_11 Ho11).2 qx2) ?_ ?_
      · exact sm_retI Ho11 l3_m2 lr3_m2
      · refine sm_rd (x_gR_11_13 Ho11) ?_
        refine sm_rd (x_gR_0_10 Ho11) ?_
        refine sgxI fun c1 => ?_
        refine sm_rd (x_aI_0_10 Ho11 rfl c1).1 ?_
        exact sm_retI Ho11 rfl (x_aI_0_10 Ho11 rfl c1).2
    · exact sm_retI Ho1 l3_m1 lr3_m1
theorem S11_planned {h : PH} (H : OKX h) {x1i : Int32} {x1 : Int} (ex1 : x1i = Z3 x1) (qx1 : r3 x1) {x2i : Int32} {x2 : Int} (ex2 : x2i = Z3 x2) (qx2 : r3 x2) : SimI OKX (F11_planned h 0 x1i x2i) (G11_planned (rd h) x1 x2) := by
  subst ex1 ex2
  unfold F11_planned G11_planned
  refine sm_cd (x_ok_11 H) ?_
  exact S11_planned_0 H rfl qx1 rfl qx2
theorem S11_rank_27 (n : Nat) : ∀ {h : PH} (H : OKX h) {x1i : Int32} {x1 : Int} (ex1 : x1i = Z3 x1) (qx1 : r3 x1) {x2i : Int32} {x2 : Int} (ex2 : x2i = Z3 x2) (qx2 : r3 x2) {x3i : Int32} {x3 : Int} (ex3 : x3i = Z3 x3) (qx3 : r3 x3) {x4i : Int32} {x4 : Int} (ex4 : x4i = Z3 x4) (qx4 : r3 x4), SimI OKX (F11_rank_27 n h 0 x1i x2i x3i x4i) (G11_rank_27 n (rd h) x1 x2 x3 x4) := by
  induction n with
  | zero => intros; exact smI_none _
  | succ n ih =>
    intro h H x1i x1 ex1 qx1 x2i x2 ex2 qx2 x3i x3 ex3 qx3 x4i x4 ex4 qx4
    subst ex1 ex2 ex3 ex4
    rw [F11_rank_27, G11_rank_27]
    refine sm_rd (x_gR_11_3 H) ?_
    refine sm_rd (x_gR_8_5 H (x_v_11_3 H)) ?_
    refine sm_rd (x_gI_10_0 H (ao_8_5 (x_v_11_3 H))).1 ?_
    refine sm_if (z3_le rfl rfl (x_gI_10_0 H (ao_8_5 (x_v_11_3 H))).2 qx4) ?_ ?_
    · exact sm_retI H rfl qx3
    · refine sm_rd (x_gR_11_3 H) ?_
      refine sm_rd (x_gR_8_5 H (x_v_11_3 H)) ?_
      refine sm_II (S10_lengthOf H (ao_8_5 (x_v_11_3 H)) rfl qx4) fun vo12 ho12 Ho12 ro12 => ?_
      refine sm_if (z3_lt rfl rfl ro12 qx1) ?_ ?_
      · refine sg3I fun c1 => ?_
        exact ih Ho12 rfl qx1 rfl qx2 rfl qx3 (z3_add rfl l3_1) c1
      · refine sm_if (z3_eq rfl l3_1 qx2 lr3_1) ?_ ?_
        · refine sg3I fun c2 => ?_
          refine sg3I fun c3 => ?_
          exact ih Ho12 rfl qx1 rfl qx2 (z3_add rfl l3_1) c2 (z3_add rfl l3_1) c3
        · refine sm_rd (x_gR_11_3 Ho12) ?_
          refine sm_rd (x_gR_8_5 Ho12 (x_v_11_3 Ho12)) ?_
          refine sm_II (S10_isLargest Ho12 (ao_8_5 (x_v_11_3 Ho12)) rfl qx4 rfl qx1) fun vo20 ho20 Ho20 ro20 => ?_
          refine sm_if (z3_eq rfl l3_0 ro20 lr3_0) ?_ ?_
          · refine sg3I fun c4 => ?_
            exact ih Ho20 rfl qx1 rfl qx2 rfl qx3 (z3_add rfl l3_1) c4
          · refine sg3I fun c5 => ?_
            refine sg3I fun c6 => ?_
            exact ih Ho20 rfl qx1 rfl qx2 (z3_add rfl l3_1) c5 (z3_add rfl l3_1) c6
theorem S11_rank_0 {h : PH} (H : OKX h) {x1i : Int32} {x1 : Int} (ex1 : x1i = Z3 x1) (qx1 : r3 x1) {x2i : Int32} {x2 : Int} (ex2 : x2i = Z3 x2) (qx2 : r3 x2) : SimI OKX (F11_rank_0 h 0 x1i x2i) (G11_rank_0 (rd h) x1 x2) := by
  subst ex1 ex2
  unfold F11_rank_0 G11_rank_0
  refine sm_if (z3_lt rfl l3_1 qx1 lr3_1) ?_ ?_
  · exact sm_retI H l3_m1 lr3_m1
  · refine sm_if (z3_lt l3_7 rfl lr3_7 qx1) ?_ ?_
    · exact sm_retI H l3_m1 lr3_m1
    · refine sm_if (z3_lt rfl l3_0 qx2 lr3_0) ?_ ?_
      · exact sm_retI H l3_m1 lr3_m1
      · refine sm_if (z3_le rfl l3_1 qx2 lr3_1) ?_ ?_
        · exact S11_rank_27 1024 H rfl qx1 rfl qx2 l3_0 lr3_0 l3_0 lr3_0
        · exact sm_retI H l3_m1 lr3_m1
theorem S11_rank {h : PH} (H : OKX h) {x1i : Int32} {x1 : Int} (ex1 : x1i = Z3 x1) (qx1 : r3 x1) {x2i : Int32} {x2 : Int} (ex2 : x2i = Z3 x2) (qx2 : r3 x2) : SimI OKX (F11_rank h 0 x1i x2i) (G11_rank (rd h) x1 x2) := by
  subst ex1 ex2
  unfold F11_rank G11_rank
  refine sm_cd (x_ok_11 H) ?_
  exact S11_rank_0 H rfl qx1 rfl qx2
theorem S11_rest_0 {h : PH} (H : OKX h) {x1i : Int32} {x1 : Int} (ex1 : x1i = Z3 x1) (qx1 : r3 x1) {x2i : Int32} {x2 : Int} (ex2 : x2i = Z3 x2) (qx2 : r3 x2) {x3i : Int32} {x3 : Int} (ex3 : x3i = Z3 x3) (qx3 : r3 x3) : SimI OKX (F11_rest_0 h 0 x1i x2i x3i) (G11_rest_0 (rd h) x1 x2 x3) := by
  subst ex1 ex2 ex3
  unfold F11_rest_0 G11_rest_0
  refine sm_II (S11_isSurfer H rfl qx1) fun vo1 ho1 Ho1 ro1 => ?_
  refine sm_if (z3_eq rfl l3_0 ro1 lr3_0) ?_ ?_
  · exact sm_retI Ho1 l3_m1 lr3_m1
  · refine sm_II (S11_isSurfer Ho1 rfl qx2) fun vo4 ho4 Ho4 ro4 => ?_
    refine sm_if (z3_eq rfl l3_0 ro4 lr3_0) ?_ ?_
    · exact sm_retI Ho4 l3_m1 lr3_m1
    · refine sm_if (z3_eq rfl rfl qx1 qx2) ?_ ?_
      · exact sm_retI Ho4 l3_m1 lr3_m1
      · refine sm_if (z3_le l3_0 rfl lr3_0 qx3) ?_ ?_
        · refine sm_rd (x_gR_11_13 Ho4) ?_
          refine sm_rd (x_gR_11_5 Ho4) ?_
          refine sm_rd (x_gR_11_7 Ho4) ?_
          refine sm_VI (S0_playGame Ho4 p6_51 p4_69 rfl qx1 rfl qx2) fun ho15 Ho15 => ?_
          refine sm_rd (x_gR_11_13 Ho15) ?_
          refine sm_rd (x_gI_0_6 Ho15).1 ?_
          refine sm_if (z3_le rfl rfl (x_gI_0_6 Ho15).2 qx3) ?_ ?_
          · exact sm_retI Ho15 l3_m2 lr3_m2
          · refine sm_rd (x_gR_11_13 Ho15) ?_
            refine sm_rd (x_gR_0_5 Ho15) ?_
            refine sgxI fun c1 => ?_
            refine sm_rd (x_aI_0_5 Ho15 rfl c1).1 ?_
            exact sm_retI Ho15 rfl (x_aI_0_5 Ho15 rfl c1).2
        · exact sm_retI Ho4 l3_m1 lr3_m1
theorem S11_rest {h : PH} (H : OKX h) {x1i : Int32} {x1 : Int} (ex1 : x1i = Z3 x1) (qx1 : r3 x1) {x2i : Int32} {x2 : Int} (ex2 : x2i = Z3 x2) (qx2 : r3 x2) {x3i : Int32} {x3 : Int} (ex3 : x3i = Z3 x3) (qx3 : r3 x3) : SimI OKX (F11_rest h 0 x1i x2i x3i) (G11_rest (rd h) x1 x2 x3) := by
  subst ex1 ex2 ex3
  unfold F11_rest G11_rest
  refine sm_cd (x_ok_11 H) ?_
  exact S11_rest_0 H rfl qx1 rfl qx2 rfl qx3
theorem S11_rests_0 {h : PH} (H : OKX h) {x1i : Int32} {x1 : Int} (ex1 : x1i = Z3 x1) (qx1 : r3 x1) {x2i : Int32} {x2 : Int} (ex2 : x2i = Z3 x2) (qx2 : r3 x2) : SimI OKX (F11_rests_0 h 0 x1i x2i) (G11_rests_0 (rd h) x1 x2) := by
  subst ex1 ex2
  unfold F11_rests_0 G11_rests_0
  refine sm_II (S11_isSurfer H rfl qx1) fun vo1 ho1 Ho1 ro1 => ?_
  refine sm_if (z3_eq rfl l3_0 ro1 lr3_0) ?_ ?_
  · exact sm_retI Ho1 l3_m1 lr3_m1
  · refine sm_II (S11_isSurfer Ho1 rfl qx2) fun vo4 ho4 Ho4 ro4 => ?_
    refine sm_if (z3_eq rfl l3_0 ro4 lr3_0) ?_ ?_
    · exact sm_retI Ho4 l3_m1 lr3_m1
    · refine sm_if (z3_eq rfl rfl qx1 qx2) ?_ ?_
      · exact sm_retI Ho4 l3_m1 lr3_m1
      · refine sm_rd (x_gR_11_13 Ho4) ?_
        refine sm_rd (x_gR_11_5 Ho4) ?_
        refine sm_rd (x_gR_11_7 Ho4) ?_
        refine sm_VI (S0_playGame Ho4 p6_51 p4_69 rfl qx1 rfl qx2) fun ho14 Ho14 => ?_
        refine sm_rd (x_gR_11_13 Ho14) ?_
        refine sm_rd (x_gI_0_6 Ho14).1 ?_
        exact sm_retI Ho14 rfl (x_gI_0_6 Ho14).2
theorem S11_rests {h : PH} (H : OKX h) {x1i : Int32} {x1 : Int} (ex1 : x1i = Z3 x1) (qx1 : r3 x1) {x2i : Int32} {x2 : Int} (ex2 : x2i = Z3 x2) (qx2 : r3 x2) : SimI OKX (F11_rests h 0 x1i x2i) (G11_rests (rd h) x1 x2) := by
  subst ex1 ex2
  unfold F11_rests G11_rests
  refine sm_cd (x_ok_11 H) ?_
  exact S11_rests_0 H rfl qx1 rfl qx2
theorem S11_rule_0 {h : PH} (H : OKX h) {x1i : Int32} {x1 : Int} (ex1 : x1i = Z3 x1) (qx1 : r3 x1) : SimI OKX (F11_rule_0 h 0 x1i) (G11_rule_0 (rd h) x1) := by
  subst ex1
  unfold F11_rule_0 G11_rule_0
  refine sm_II (S11_isRule H rfl qx1) fun vo1 ho1 Ho1 ro1 => ?_
  refine sm_if (z3_eq rfl l3_0 ro1 lr3_0) ?_ ?_
  · exact sm_rz Ho1 l3_0 (by decide)
  · refine sm_rd (x_gR_11_7 Ho1) ?_
    refine sm_rd (x_gI_4_1 Ho1 p4_69).1 ?_
    refine sm_if (z3_eq rfl rfl qx1 (x_gI_4_1 Ho1 p4_69).2) ?_ ?_
    · exact sm_rz Ho1 l3_0 (by decide)
    · refine sm_rd (x_gR_11_12 Ho1) ?_
      refine sm_rd (x_gR_11_7 Ho1) ?_
      refine sm_rd (x_gI_4_1 Ho1 p4_69).1 ?_
      refine sm_VI (S9_add Ho1 l3_m1 lr3_m1 rfl ((x_gI_4_1 Ho1 p4_69).2)) fun ho15 Ho15 => ?_
      refine sm_rd (x_gR_11_7 Ho15) ?_
      refine sm_wt (x_pI_4_1 Ho15 p4_69 rfl qx1) fun h19 Hh19 => ?_
      exact sm_rz Hh19 l3_1 (by decide)
theorem S11_rule {h : PH} (H : OKX h) {x1i : Int32} {x1 : Int} (ex1 : x1i = Z3 x1) (qx1 : r3 x1) : SimI OKX (F11_rule h 0 x1i) (G11_rule (rd h) x1) := by
  subst ex1
  unfold F11_rule G11_rule
  refine sm_cd (x_ok_11 H) ?_
  exact S11_rule_0 H rfl qx1
theorem S11_seat_0 {h : PH} (H : OKX h) {x1i : Int32} {x1 : Int} (ex1 : x1i = Z3 x1) (qx1 : r3 x1) {x2i : Int32} {x2 : Int} (ex2 : x2i = Z3 x2) (qx2 : r3 x2) : SimI OKX (F11_seat_0 h 0 x1i x2i) (G11_seat_0 (rd h) x1 x2) := by
  subst ex1 ex2
  unfold F11_seat_0 G11_seat_0
  refine sm_II (S11_isSurfer H rfl qx1) fun vo1 ho1 Ho1 ro1 => ?_
  refine sm_if (z3_eq rfl l3_0 ro1 lr3_0) ?_ ?_
  · exact sm_retI Ho1 l3_m1 lr3_m1
  · refine sm_II (S11_isCell Ho1 rfl qx2) fun vo4 ho4 Ho4 ro4 => ?_
    refine sm_if (z3_eq rfl l3_0 ro4 lr3_0) ?_ ?_
    · exact sm_retI Ho4 l3_m1 lr3_m1
    · refine sm_rd (x_gR_11_5 Ho4) ?_
      refine sm_II (S11_firstToCome Ho4) fun vo9 ho9 Ho9 ro9 => ?_
      refine sm_II (S6_seatFrom Ho9 p6_51 rfl qx1 rfl qx2 rfl ro9) fun vo11 ho11 Ho11 ro11 => ?_
      exact sm_retI Ho11 rfl ro11
theorem S11_seat {h : PH} (H : OKX h) {x1i : Int32} {x1 : Int} (ex1 : x1i = Z3 x1) (qx1 : r3 x1) {x2i : Int32} {x2 : Int} (ex2 : x2i = Z3 x2) (qx2 : r3 x2) : SimI OKX (F11_seat h 0 x1i x2i) (G11_seat (rd h) x1 x2) := by
  subst ex1 ex2
  unfold F11_seat G11_seat
  refine sm_cd (x_ok_11 H) ?_
  exact S11_seat_0 H rfl qx1 rfl qx2
theorem S11_shares_0 {h : PH} (H : OKX h) {x1i : Int32} {x1 : Int} (ex1 : x1i = Z3 x1) (qx1 : r3 x1) : SimI OKX (F11_shares_0 h 0 x1i) (G11_shares_0 (rd h) x1) := by
  subst ex1
  unfold F11_shares_0 G11_shares_0
  refine sm_if (z3_lt rfl l3_0 qx1 lr3_0) ?_ ?_
  · exact sm_retI H l3_m1 lr3_m1
  · refine sm_if (z3_lt l3_1 rfl lr3_1 qx1) ?_ ?_
    · exact sm_retI H l3_m1 lr3_m1
    · refine sm_rd (x_gR_11_3 H) ?_
      refine sm_rd (x_gR_8_4 H (x_v_11_3 H)) ?_
      refine sm_rd (x_gI_1_0 H (ao_8_4 (x_v_11_3 H))).1 ?_
      refine sm_if (z3_le l3_1 rfl lr3_1 (x_gI_1_0 H (ao_8_4 (x_v_11_3 H))).2) ?_ ?_
      · refine sm_if (z3_eq rfl l3_0 qx1 lr3_0) ?_ ?_
        · refine sm_rd (x_gR_11_7 H) ?_
          refine sm_rd (x_gR_11_3 H) ?_
          refine sm_rd (x_gR_8_4 H (x_v_11_3 H)) ?_
          refine sm_rd (x_gI_1_0 H (ao_8_4 (x_v_11_3 H))).1 ?_
          refine sm_II (S4_unlike H p4_69 rfl ((x_gI_1_0 H (ao_8_4 (x_v_11_3 H))).2)) fun vo29 ho29 Ho29 ro29 => ?_
          exact sm_retI Ho29 rfl ro29
        · refine sm_rd (x_gR_11_7 H) ?_
          refine sm_rd (x_gR_11_3 H) ?_
          refine sm_rd (x_gR_8_4 H (x_v_11_3 H)) ?_
          refine sm_rd (x_gI_1_0 H (ao_8_4 (x_v_11_3 H))).1 ?_
          refine sm_II (S4_hadInSum H p4_69 rfl ((x_gI_1_0 H (ao_8_4 (x_v_11_3 H))).2)) fun vo19 ho19 Ho19 ro19 => ?_
          exact sm_retI Ho19 rfl ro19
      · exact sm_retI H l3_m1 lr3_m1
theorem S11_shares {h : PH} (H : OKX h) {x1i : Int32} {x1 : Int} (ex1 : x1i = Z3 x1) (qx1 : r3 x1) : SimI OKX (F11_shares h 0 x1i) (G11_shares (rd h) x1) := by
  subst ex1
  unfold F11_shares G11_shares
  refine sm_cd (x_ok_11 H) ?_
  exact S11_shares_0 H rfl qx1
theorem S11_strike_0 {h : PH} (H : OKX h) {x1i : Int32} {x1 : Int} (ex1 : x1i = Z3 x1) (qx1 : r3 x1) : SimI OKX (F11_strike_0 h 0 x1i) (G11_strike_0 (rd h) x1) := by
  subst ex1
  unfold F11_strike_0 G11_strike_0
  refine sm_if (z3_lt rfl l3_0 qx1 lr3_0) ?_ ?_
  · exact sm_retI H l3_m1 lr3_m1
  · refine sm_rd (x_gR_11_11 H) ?_
    refine sm_rd (x_gI_3_0 H).1 ?_
    refine sm_if (z3_lt rfl rfl qx1 (x_gI_3_0 H).2) ?_ ?_
    · refine sm_rd (x_gR_11_11 H) ?_
      refine sm_II (S3_addStrike H rfl qx1) fun vo9 ho9 Ho9 ro9 => ?_
      exact sm_retI Ho9 rfl ro9
    · exact sm_retI H l3_m1 lr3_m1
theorem S11_strike {h : PH} (H : OKX h) {x1i : Int32} {x1 : Int} (ex1 : x1i = Z3 x1) (qx1 : r3 x1) : SimI OKX (F11_strike h 0 x1i) (G11_strike (rd h) x1) := by
  subst ex1
  unfold F11_strike G11_strike
  refine sm_cd (x_ok_11 H) ?_
  exact S11_strike_0 H rfl qx1
theorem S11_stroke_0 {h : PH} (H : OKX h) {x1i : Int32} {x1 : Int} (ex1 : x1i = Z3 x1) (qx1 : r3 x1) {x2i : Int32} {x2 : Int} (ex2 : x2i = Z3 x2) (qx2 : r3 x2) : SimI OKX (F11_stroke_0 h 0 x1i x2i) (G11_stroke_0 (rd h) x1 x2) := by
  subst ex1 ex2
  unfold F11_stroke_0 G11_stroke_0
  refine sm_II (S11_isSurfer H rfl qx1) fun vo1 ho1 Ho1 ro1 => ?_
  refine sm_if (z3_eq rfl l3_0 ro1 lr3_0) ?_ ?_
  · exact sm_retI Ho1 l3_m1 lr3_m1
  · refine sm_if (z3_lt rfl l3_0 qx2 lr3_0) ?_ ?_
    · exact sm_retI Ho1 l3_m1 lr3_m1
    · refine sm_if (z3_lt rfl l3_4 qx2 lr3_4) ?_ ?_
      · refine sm_rd (x_gR_11_7 Ho1) ?_
        refine sm_rd (x_gR_4_5 Ho1 p4_69) ?_
        refine sgxI fun c1 => ?_
        refine sm_rd (x_aI_4_5 Ho1 (ao_4_5 p4_69) rfl c1).1 ?_
        refine sm_rd (x_gR_11_3 Ho1) ?_
        refine sm_II (S8_cellBeside Ho1 (x_v_11_3 Ho1) rfl ((x_aI_4_5 Ho1 (ao_4_5 p4_69) rfl c1).2) rfl qx2) fun vo14 ho14 Ho14 ro14 => ?_
        refine sm_if (z3_eq rfl l3_m1 ro14 lr3_m1) ?_ ?_
        · exact sm_retI Ho14 l3_m2 lr3_m2
        · refine sm_rd (x_gR_11_7 Ho14) ?_
          refine sm_rd (x_gR_11_7 Ho14) ?_
          refine sm_rd (x_gI_4_0 Ho14 p4_69).1 ?_
          refine sm_II (S4_isIn Ho14 p4_69 rfl qx1 rfl ((x_gI_4_0 Ho14 p4_69).2)) fun vo23 ho23 Ho23 ro23 => ?_
          refine sm_if (z3_eq rfl l3_0 ro23 lr3_0) ?_ ?_
          · exact sm_retI Ho23 l3_m2 lr3_m2
          · refine sm_rd (x_gR_11_7 Ho23) ?_
            refine sm_rd (x_gR_4_9 Ho23 p4_69) ?_
            refine sgxI fun c2 => ?_
            refine sm_rd (x_aI_4_9 Ho23 (ao_4_9 p4_69) rfl c2).1 ?_
            refine sm_rd (x_gR_11_3 Ho23) ?_
            refine sm_rd (x_gR_8_4 Ho23 (x_v_11_3 Ho23)) ?_
            refine sm_rd (x_gR_1_4 Ho23 (ao_8_4 (x_v_11_3 Ho23))) ?_
            refine sgxI fun c3 => ?_
            refine sm_rd (x_aI_1_4 Ho23 (ao_1_4 (ao_8_4 (x_v_11_3 Ho23))) rfl c3).1 ?_
            refine sm_if (z3_lt rfl rfl (x_aI_4_9 Ho23 (ao_4_9 p4_69) rfl c2).2 (x_aI_1_4 Ho23 (ao_1_4 (ao_8_4 (x_v_11_3 Ho23))) rfl c3).2) ?_ ?_
            · refine sm_rd (x_gR_11_7 Ho23) ?_
              refine sm_rd (x_gR_4_5 Ho23 p4_69) ?_
              refine sgxI fun c4 => ?_
              refine sm_wt (x_sI_4_5 Ho23 (ao_4_5 p4_69) rfl c4 rfl ro14) fun h46 Hh46 => ?_
              refine sm_rd (x_gR_11_7 Hh46) ?_
              refine sm_rd (x_gR_4_9 Hh46 p4_69) ?_
              refine sgxI fun c5 => ?_
              refine sm_rd (x_aI_4_9 Hh46 (ao_4_9 p4_69) rfl c5).1 ?_
              refine sgxI fun c6 => ?_
              refine sg3I fun c7 => ?_
              refine sm_wt (x_sI_4_9 Hh46 (ao_4_9 p4_69) rfl c6 (z3_add rfl l3_1) c7) fun h54 Hh54 => ?_
              refine sm_rd (x_gR_11_12 Hh54) ?_
              refine sm_VI (S9_add Hh54 rfl qx1 rfl ((x_aI_4_5 Ho1 (ao_4_5 p4_69) rfl c1).2)) fun ho57 Ho57 => ?_
              exact sm_retI Ho57 rfl ro14
            · exact sm_retI Ho23 l3_m2 lr3_m2
      · exact sm_retI Ho1 l3_m1 lr3_m1
