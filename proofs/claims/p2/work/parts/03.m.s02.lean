/-! The pure functions do so (written by wip/gen/gx.py). -/
theorem S5_numberIn {h : PH} (H : OKX h) {x1i : Int32} {x1 : Int} (ex1 : x1i = Z3 x1) (qx1 : r3 x1) {x2i : Int32} {x2 : Int} (ex2 : x2i = Z3 x2) (qx2 : r3 x2) : SimI OKX (F5_numberIn h 46 x1i x2i) (G5_numberIn (rd h) x1 x2) := by
  subst ex1 ex2
  unfold F5_numberIn G5_numberIn
  refine sm_cd (x_ok_5 H) ?_
  exact S5_numberIn_0 H rfl qx1 rfl qx2
theorem S10_forget_0 {h : PH} (H : OKX h) {a0 : Nat} (ha0 : A10 a0) : SimV OKX (F10_forget_0 h a0) (G10_forget_0 (rd h) a0) := by
  unfold F10_forget_0 G10_forget_0
  refine sm_wt (x_pI_10_0 H ha0 l3_0 lr3_0) fun h1 Hh1 => ?_
  refine sm_wt (x_pI_10_1 Hh1 ha0 l3_0 lr3_0) fun h3 Hh3 => ?_
  exact sm_retV Hh3
theorem S10_forget {h : PH} (H : OKX h) {a0 : Nat} (ha0 : A10 a0) : SimV OKX (F10_forget h a0) (G10_forget (rd h) a0) := by
  unfold F10_forget G10_forget
  refine sm_cd (x_ok_10 H ha0) ?_
  exact S10_forget_0 H ha0
theorem S8_forget_63 (n : Nat) : ∀ {h : PH} (H : OKX h) {a0 : Nat} (ha0 : A8 a0) {x1i : Int32} {x1 : Int} (ex1 : x1i = Z3 x1) (qx1 : r3 x1), SimV OKX (F8_forget_63 n h a0 x1i) (G8_forget_63 n (rd h) a0 x1) := by
  induction n with
  | zero => intros; exact smV_none _
  | succ n ih =>
    intro h H a0 ha0 x1i x1 ex1 qx1
    subst ex1
    rw [F8_forget_63, G8_forget_63]
    refine sm_if (z3_le l3_3 rfl lr3_3 qx1) ?_ ?_
    · refine sm_wt (x_pI_8_12 H ha0 l3_0 lr3_0) fun h2 Hh2 => ?_
      refine sm_wt (x_pI_8_13 Hh2 ha0 l3_0 lr3_0) fun h4 Hh4 => ?_
      exact sm_retV Hh4
    · refine sm_rd (x_gR_8_11 H ha0) ?_
      refine sgxV fun c1 => ?_
      refine sm_rd (x_aR H (ao_8_11 ha0) rfl c1) ?_
      refine sm_VV (S2_forget H (x_aRp (ao_8_11 ha0) c1)) fun ho10 Ho10 => ?_
      refine sg3V fun c2 => ?_
      exact ih Ho10 ha0 (z3_add rfl l3_1) c2
theorem S8_forget_0 {h : PH} (H : OKX h) {a0 : Nat} (ha0 : A8 a0) : SimV OKX (F8_forget_0 h a0) (G8_forget_0 (rd h) a0) := by
  unfold F8_forget_0 G8_forget_0
  refine sm_wt (x_pI_8_0 H ha0 l3_6 lr3_6) fun h1 Hh1 => ?_
  refine sm_wt (x_pI_8_1 Hh1 ha0 l3_4 lr3_4) fun h3 Hh3 => ?_
  refine sm_wt (x_pI_8_2 Hh3 ha0 l3_0 lr3_0) fun h5 Hh5 => ?_
  refine sm_wt (x_pI_8_3 Hh5 ha0 l3_0 lr3_0) fun h7 Hh7 => ?_
  refine sm_rd (x_gR_8_4 Hh7 ha0) ?_
  refine sm_wt (x_pI_1_0 Hh7 (ao_8_4 ha0) l3_0 lr3_0) fun h11 Hh11 => ?_
  refine sm_rd (x_gR_8_5 Hh11 ha0) ?_
  refine sm_VV (S10_forget Hh11 (ao_8_5 ha0)) fun ho15 Ho15 => ?_
  refine sm_wt (x_pI_8_6 Ho15 ha0 l3_0 lr3_0) fun h17 Hh17 => ?_
  refine sm_wt (x_pI_8_7 Hh17 ha0 l3_0 lr3_0) fun h19 Hh19 => ?_
  refine sm_wt (x_pI_8_8 Hh19 ha0 l3_0 lr3_0) fun h21 Hh21 => ?_
  refine sm_wt (x_pI_8_9 Hh21 ha0 l3_0 lr3_0) fun h23 Hh23 => ?_
  refine sm_wt (x_pI_8_10 Hh23 ha0 l3_0 lr3_0) fun h25 Hh25 => ?_
  exact S8_forget_63 1024 Hh25 ha0 l3_0 lr3_0
theorem S8_forget {h : PH} (H : OKX h) {a0 : Nat} (ha0 : A8 a0) : SimV OKX (F8_forget h a0) (G8_forget (rd h) a0) := by
  unfold F8_forget G8_forget
  refine sm_cd (x_ok_8 H ha0) ?_
  exact S8_forget_0 H ha0
theorem S7_begin_0 {h : PH} (H : OKX h) {x2i : Int32} {x2 : Int} (ex2 : x2i = Z3 x2) (qx2 : r3 x2) : SimV OKX (F7_begin_0 h 47 1 x2i) (G7_begin_0 (rd h) x2) := by
  subst ex2
  unfold F7_begin_0 G7_begin_0
  refine sm_wt (x_pR_7_1 H) fun h1 Hh1 => ?_
  refine sm_rd (x_aL_11_0 Hh1) ?_
  refine sm_wt (x_pI_7_2 Hh1 (z3_ite (z3_lt rfl rfl lr3_700 qx2) rfl rfl) (r3_ite lr3_700 qx2)) fun h5 Hh5 => ?_
  refine sm_wt (x_pI_7_3 Hh5 l3_0 lr3_0) fun h7 Hh7 => ?_
  exact sm_retV Hh7
theorem S7_begin {h : PH} (H : OKX h) {x2i : Int32} {x2 : Int} (ex2 : x2i = Z3 x2) (qx2 : r3 x2) : SimV OKX (F7_begin h 47 1 x2i) (G7_begin (rd h) x2) := by
  subst ex2
  unfold F7_begin G7_begin
  refine sm_cd (x_ok_7 H) ?_
  exact S7_begin_0 H rfl qx2
theorem S5_readStop_0 {h : PH} (H : OKX h) : SimI OKX (F5_readStop_0 h 46) (G5_readStop_0 (rd h)) := by
  unfold F5_readStop_0 G5_readStop_0
  refine sm_rd (x_gR_5_0 H) ?_
  refine sm_VI (S7_advance H) fun ho3 Ho3 => ?_
  refine sm_rd (x_gR_5_0 Ho3) ?_
  refine sm_rd (x_gI_7_4 Ho3).1 ?_
  refine sm_if (z3_eq rfl l3_38 (x_gI_7_4 Ho3).2 lr3_38) ?_ ?_
  · exact sm_rz Ho3 l3_1 (by decide)
  · refine sm_II (S5_refuse Ho3 l3_1 lr3_1) fun vo10 ho10 Ho10 ro10 => ?_
    refine sm_if (z3_eq rfl l3_0 ro10 lr3_0) ?_ ?_
    · exact sm_rz Ho10 l3_0 (by decide)
    · exact sm_rz Ho10 l3_1 (by decide)
theorem S5_readStop {h : PH} (H : OKX h) : SimI OKX (F5_readStop h 46) (G5_readStop (rd h)) := by
  unfold F5_readStop G5_readStop
  refine sm_cd (x_ok_5 H) ?_
  exact S5_readStop_0 H
theorem S5_readSea_47 {h : PH} (H : OKX h) {x1i : Int32} {x1 : Int} (ex1 : x1i = Z3 x1) (qx1 : r3 x1) {s0i : Int32} {s0 : Int} (es0 : s0i = Z3 s0) (qs0 : r3 s0) : SimI OKX (F5_readSea_47 h 46 x1i s0i) (G5_readSea_47 (rd h) x1 s0) := by
  subst ex1 es0
  unfold F5_readSea_47 G5_readSea_47
  refine sm_if (z3_eq rfl l3_m1 qs0 lr3_m1) ?_ ?_
  · exact sm_rz H l3_0 (by decide)
  · refine sm_rd (x_gR_5_10 H) ?_
    refine sm_wt (x_pI_8_0 H (x_v_5_10 H) rfl qx1) fun h4 Hh4 => ?_
    refine sm_rd (x_gR_5_10 Hh4) ?_
    refine sm_wt (x_pI_8_1 Hh4 (x_v_5_10 Hh4) rfl qs0) fun h8 Hh8 => ?_
    refine sm_II (S5_readStop Hh8) fun vo10 ho10 Ho10 ro10 => ?_
    refine sgbI fun c1 => ?_
    exact sm_rz Ho10 rfl c1
theorem S5_readSea_0 {h : PH} (H : OKX h) : SimI OKX (F5_readSea_0 h 46) (G5_readSea_0 (rd h)) := by
  unfold F5_readSea_0 G5_readSea_0
  refine sm_II (S5_isFirst H l3_0 lr3_0) fun vo1 ho1 Ho1 ro1 => ?_
  refine sm_if (z3_eq rfl l3_0 ro1 lr3_0) ?_ ?_
  · exact sm_rz Ho1 l3_0 (by decide)
  · refine sm_rd (x_gI_5_7 Ho1).1 ?_
    refine sm_if (z3_eq rfl l3_0 (x_gI_5_7 Ho1).2 lr3_0) ?_ ?_
    · refine sm_II (S5_numberIn Ho1 l3_1 lr3_1 l3_8 lr3_8) fun vo7 ho7 Ho7 ro7 => ?_
      refine sm_if (z3_eq rfl l3_m1 ro7 lr3_m1) ?_ ?_
      · exact S5_readSea_47 Ho7 rfl ro7 l3_m1 lr3_m1
      · refine sm_II (S5_numberIn Ho7 l3_1 lr3_1 l3_6 lr3_6) fun vo10 ho10 Ho10 ro10 => ?_
        exact S5_readSea_47 Ho10 rfl ro7 rfl ro10
    · refine sm_II (S5_refuse Ho1 l3_4 lr3_4) fun vo12 ho12 Ho12 ro12 => ?_
      refine sgbI fun c1 => ?_
      exact sm_rz Ho12 rfl c1
theorem S5_readSea {h : PH} (H : OKX h) : SimI OKX (F5_readSea h 46) (G5_readSea (rd h)) := by
  unfold F5_readSea G5_readSea
  refine sm_cd (x_ok_5 H) ?_
  exact S5_readSea_0 H
theorem S5_readPeak_53 {h : PH} (H : OKX h) {x1i : Int32} {x1 : Int} (ex1 : x1i = Z3 x1) (qx1 : r3 x1) {s0i : Int32} {s0 : Int} (es0 : s0i = Z3 s0) (qs0 : r3 s0) : SimI OKX (F5_readPeak_53 h 46 x1i s0i) (G5_readPeak_53 (rd h) x1 s0) := by
  subst ex1 es0
  unfold F5_readPeak_53 G5_readPeak_53
  refine sm_if (z3_eq rfl l3_m1 qs0 lr3_m1) ?_ ?_
  · exact sm_rz H l3_0 (by decide)
  · refine sm_rd (x_gR_5_10 H) ?_
    refine sm_wt (x_pI_8_2 H (x_v_5_10 H) rfl qx1) fun h4 Hh4 => ?_
    refine sm_rd (x_gR_5_10 Hh4) ?_
    refine sm_wt (x_pI_8_3 Hh4 (x_v_5_10 Hh4) rfl qs0) fun h8 Hh8 => ?_
    refine sm_II (S5_readStop Hh8) fun vo10 ho10 Ho10 ro10 => ?_
    refine sgbI fun c1 => ?_
    exact sm_rz Ho10 rfl c1
theorem S5_readPeak_0 {h : PH} (H : OKX h) : SimI OKX (F5_readPeak_0 h 46) (G5_readPeak_0 (rd h)) := by
  unfold F5_readPeak_0 G5_readPeak_0
  refine sm_II (S5_isFirst H l3_1 lr3_1) fun vo1 ho1 Ho1 ro1 => ?_
  refine sm_if (z3_eq rfl l3_0 ro1 lr3_0) ?_ ?_
  · exact sm_rz Ho1 l3_0 (by decide)
  · refine sm_wt (x_pZ_5_7 Ho1 l3_1 (by decide)) fun h4 Hh4 => ?_
    refine sm_rd (x_gR_5_10 Hh4) ?_
    refine sm_rd (x_gI_8_0 Hh4 (x_v_5_10 Hh4)).1 ?_
    refine sg3I fun c1 => ?_
    refine sm_II (S5_numberIn Hh4 l3_0 lr3_0 (z3_sub rfl l3_1) c1) fun vo10 ho10 Ho10 ro10 => ?_
    refine sm_if (z3_eq rfl l3_m1 ro10 lr3_m1) ?_ ?_
    · exact S5_readPeak_53 Ho10 rfl ro10 l3_m1 lr3_m1
    · refine sm_rd (x_gR_5_10 Ho10) ?_
      refine sm_rd (x_gI_8_1 Ho10 (x_v_5_10 Ho10)).1 ?_
      refine sg3I fun c2 => ?_
      refine sm_II (S5_numberIn Ho10 l3_0 lr3_0 (z3_sub rfl l3_1) c2) fun vo17 ho17 Ho17 ro17 => ?_
      exact S5_readPeak_53 Ho17 rfl ro10 rfl ro17
theorem S5_readPeak {h : PH} (H : OKX h) : SimI OKX (F5_readPeak h 46) (G5_readPeak (rd h)) := by
  unfold F5_readPeak G5_readPeak
  refine sm_cd (x_ok_5 H) ?_
  exact S5_readPeak_0 H
theorem S5_readSurfer_195 {h : PH} (H : OKX h) {x1i : Int32} {x1 : Int} (ex1 : x1i = Z3 x1) (qx1 : r3 x1) {x2i : Int32} {x2 : Int} (ex2 : x2i = Z3 x2) (qx2 : r3 x2) {x3i : Int32} {x3 : Int} (ex3 : x3i = Z3 x3) (qx3 : r3 x3) {x4i : Int32} {x4 : Int} (ex4 : x4i = Z3 x4) (qx4 : r3 x4) {x5i : Int32} {x5 : Int} (ex5 : x5i = Z3 x5) (qx5 : r3 x5) {x6i : Int32} {x6 : Int} (ex6 : x6i = Z3 x6) (qx6 : r3 x6) {s0i : Int32} {s0 : Int} (es0 : s0i = Z3 s0) (qs0 : r3 s0) : SimI OKX (F5_readSurfer_195 h 46 x1i x2i x3i x4i x5i x6i s0i) (G5_readSurfer_195 (rd h) x1 x2 x3 x4 x5 x6 s0) := by
  subst ex1 ex2 ex3 ex4 ex5 ex6 es0
  unfold F5_readSurfer_195 G5_readSurfer_195
  refine sm_if (z3_eq rfl l3_m1 qs0 lr3_m1) ?_ ?_
  · exact sm_rz H l3_0 (by decide)
  · refine sm_rd (x_gR_5_10 H) ?_
    refine sm_rd (x_gR_8_4 H (x_v_5_10 H)) ?_
    refine sm_rd (x_gR_5_10 H) ?_
    refine sm_rd (x_gI_8_0 H (x_v_5_10 H)).1 ?_
    refine sg3I fun c1 => ?_
    refine sm_VI (S1_add H (ao_8_4 (x_v_5_10 H)) rfl qx1 (z3_add (z3_mul rfl rfl) rfl) c1 rfl qx4 rfl qx5 rfl qx6 rfl qs0) fun ho10 Ho10 => ?_
    refine sm_II (S5_readStop Ho10) fun vo12 ho12 Ho12 ro12 => ?_
    refine sgbI fun c2 => ?_
    exact sm_rz Ho12 rfl c2
theorem S5_readSurfer_176 {h : PH} (H : OKX h) {x1i : Int32} {x1 : Int} (ex1 : x1i = Z3 x1) (qx1 : r3 x1) {x2i : Int32} {x2 : Int} (ex2 : x2i = Z3 x2) (qx2 : r3 x2) {x3i : Int32} {x3 : Int} (ex3 : x3i = Z3 x3) (qx3 : r3 x3) {x4i : Int32} {x4 : Int} (ex4 : x4i = Z3 x4) (qx4 : r3 x4) {x5i : Int32} {x5 : Int} (ex5 : x5i = Z3 x5) (qx5 : r3 x5) {s0i : Int32} {s0 : Int} (es0 : s0i = Z3 s0) (qs0 : r3 s0) : SimI OKX (F5_readSurfer_176 h 46 x1i x2i x3i x4i x5i s0i) (G5_readSurfer_176 (rd h) x1 x2 x3 x4 x5 s0) := by
  subst ex1 ex2 ex3 ex4 ex5 es0
  unfold F5_readSurfer_176 G5_readSurfer_176
  refine sm_if (z3_eq rfl l3_m1 qs0 lr3_m1) ?_ ?_
  · exact S5_readSurfer_195 H rfl qx1 rfl qx2 rfl qx3 rfl qx4 rfl qx5 rfl qs0 l3_m1 lr3_m1
  · refine sm_II (S5_numberIn H l3_0 lr3_0 l3_100 lr3_100) fun vo2 ho2 Ho2 ro2 => ?_
    exact S5_readSurfer_195 Ho2 rfl qx1 rfl qx2 rfl qx3 rfl qx4 rfl qx5 rfl qs0 rfl ro2
theorem S5_readSurfer_157 {h : PH} (H : OKX h) {x1i : Int32} {x1 : Int} (ex1 : x1i = Z3 x1) (qx1 : r3 x1) {x2i : Int32} {x2 : Int} (ex2 : x2i = Z3 x2) (qx2 : r3 x2) {x3i : Int32} {x3 : Int} (ex3 : x3i = Z3 x3) (qx3 : r3 x3) {x4i : Int32} {x4 : Int} (ex4 : x4i = Z3 x4) (qx4 : r3 x4) {s0i : Int32} {s0 : Int} (es0 : s0i = Z3 s0) (qs0 : r3 s0) : SimI OKX (F5_readSurfer_157 h 46 x1i x2i x3i x4i s0i) (G5_readSurfer_157 (rd h) x1 x2 x3 x4 s0) := by
  subst ex1 ex2 ex3 ex4 es0
  unfold F5_readSurfer_157 G5_readSurfer_157
  refine sm_if (z3_eq rfl l3_m1 qs0 lr3_m1) ?_ ?_
  · exact S5_readSurfer_176 H rfl qx1 rfl qx2 rfl qx3 rfl qx4 rfl qs0 l3_m1 lr3_m1
  · refine sm_II (S5_numberIn H l3_0 lr3_0 l3_100 lr3_100) fun vo2 ho2 Ho2 ro2 => ?_
    exact S5_readSurfer_176 Ho2 rfl qx1 rfl qx2 rfl qx3 rfl qx4 rfl qs0 rfl ro2
theorem S5_readSurfer_139 {h : PH} (H : OKX h) {x1i : Int32} {x1 : Int} (ex1 : x1i = Z3 x1) (qx1 : r3 x1) {x2i : Int32} {x2 : Int} (ex2 : x2i = Z3 x2) (qx2 : r3 x2) {x3i : Int32} {x3 : Int} (ex3 : x3i = Z3 x3) (qx3 : r3 x3) {s0i : Int32} {s0 : Int} (es0 : s0i = Z3 s0) (qs0 : r3 s0) : SimI OKX (F5_readSurfer_139 h 46 x1i x2i x3i s0i) (G5_readSurfer_139 (rd h) x1 x2 x3 s0) := by
  subst ex1 ex2 ex3 es0
  unfold F5_readSurfer_139 G5_readSurfer_139
  refine sm_if (z3_eq rfl l3_m1 qs0 lr3_m1) ?_ ?_
  · exact S5_readSurfer_157 H rfl qx1 rfl qx2 rfl qx3 rfl qs0 l3_m1 lr3_m1
  · refine sm_II (S5_numberIn H l3_1 lr3_1 l3_3 lr3_3) fun vo2 ho2 Ho2 ro2 => ?_
    exact S5_readSurfer_157 Ho2 rfl qx1 rfl qx2 rfl qx3 rfl qs0 rfl ro2
theorem S5_readSurfer_122 {h : PH} (H : OKX h) {x1i : Int32} {x1 : Int} (ex1 : x1i = Z3 x1) (qx1 : r3 x1) {x2i : Int32} {x2 : Int} (ex2 : x2i = Z3 x2) (qx2 : r3 x2) {s0i : Int32} {s0 : Int} (es0 : s0i = Z3 s0) (qs0 : r3 s0) : SimI OKX (F5_readSurfer_122 h 46 x1i x2i s0i) (G5_readSurfer_122 (rd h) x1 x2 s0) := by
  subst ex1 ex2 es0
  unfold F5_readSurfer_122 G5_readSurfer_122
  refine sm_if (z3_eq rfl l3_m1 qs0 lr3_m1) ?_ ?_
  · exact S5_readSurfer_139 H rfl qx1 rfl qx2 rfl qs0 l3_m1 lr3_m1
  · refine sm_II (S5_numberIn H l3_1 lr3_1 l3_9 lr3_9) fun vo2 ho2 Ho2 ro2 => ?_
    exact S5_readSurfer_139 Ho2 rfl qx1 rfl qx2 rfl qs0 rfl ro2
theorem S5_readSurfer_0 {h : PH} (H : OKX h) : SimI OKX (F5_readSurfer_0 h 46) (G5_readSurfer_0 (rd h)) := by
  unfold F5_readSurfer_0 G5_readSurfer_0
  refine sm_rd (x_gR_5_10 H) ?_
  refine sm_rd (x_gR_8_4 H (x_v_5_10 H)) ?_
  refine sm_rd (x_gI_1_0 H (ao_8_4 (x_v_5_10 H))).1 ?_
  refine sm_if (z3_lt rfl l3_5 (x_gI_1_0 H (ao_8_4 (x_v_5_10 H))).2 lr3_5) ?_ ?_
  · refine sm_wt (x_pZ_5_7 H l3_1 (by decide)) fun h8 Hh8 => ?_
    refine sm_rd (x_gR_5_0 Hh8) ?_
    refine sm_VI (S7_advance Hh8) fun ho12 Ho12 => ?_
    refine sm_rd (x_gR_5_0 Ho12) ?_
    refine sm_rd (x_gI_7_4 Ho12).1 ?_
    refine sm_if (z3_eq rfl l3_24 (x_gI_7_4 Ho12).2 lr3_24) ?_ ?_
    · refine sm_rd (x_gR_5_10 Ho12) ?_
      refine sm_rd (x_gR_8_4 Ho12 (x_v_5_10 Ho12)) ?_
      refine sm_rd (x_gR_5_0 Ho12) ?_
      refine sm_rd (x_gI_7_6 Ho12).1 ?_
      refine sm_II (S1_hasName Ho12 (ao_8_4 (x_v_5_10 Ho12)) rfl ((x_gI_7_6 Ho12).2)) fun vo27 ho27 Ho27 ro27 => ?_
      refine sm_if (z3_eq rfl l3_0 ro27 lr3_0) ?_ ?_
      · refine sm_rd (x_gR_5_0 Ho27) ?_
        refine sm_rd (x_gI_7_6 Ho27).1 ?_
        refine sm_rd (x_gR_5_10 Ho27) ?_
        refine sm_rd (x_gI_8_0 Ho27 (x_v_5_10 Ho27)).1 ?_
        refine sg3I fun c1 => ?_
        refine sm_II (S5_numberIn Ho27 l3_0 lr3_0 (z3_sub rfl l3_1) c1) fun vo38 ho38 Ho38 ro38 => ?_
        refine sm_if (z3_eq rfl l3_m1 ro38 lr3_m1) ?_ ?_
        · exact S5_readSurfer_122 Ho38 rfl ((x_gI_7_6 Ho27).2) rfl ro38 l3_m1 lr3_m1
        · refine sm_rd (x_gR_5_10 Ho38) ?_
          refine sm_rd (x_gI_8_1 Ho38 (x_v_5_10 Ho38)).1 ?_
          refine sg3I fun c2 => ?_
          refine sm_II (S5_numberIn Ho38 l3_0 lr3_0 (z3_sub rfl l3_1) c2) fun vo45 ho45 Ho45 ro45 => ?_
          exact S5_readSurfer_122 Ho45 rfl ((x_gI_7_6 Ho27).2) rfl ro38 rfl ro45
      · refine sm_II (S5_refuse Ho27 l3_3 lr3_3) fun vo47 ho47 Ho47 ro47 => ?_
        refine sgbI fun c3 => ?_
        exact sm_rz Ho47 rfl c3
    · refine sm_II (S5_refuse Ho12 l3_1 lr3_1) fun vo49 ho49 Ho49 ro49 => ?_
      refine sgbI fun c4 => ?_
      exact sm_rz Ho49 rfl c4
  · refine sm_II (S5_refuse H l3_2 lr3_2) fun vo51 ho51 Ho51 ro51 => ?_
    refine sgbI fun c5 => ?_
    exact sm_rz Ho51 rfl c5
theorem S5_readSurfer {h : PH} (H : OKX h) : SimI OKX (F5_readSurfer h 46) (G5_readSurfer (rd h)) := by
  unfold F5_readSurfer G5_readSurfer
  refine sm_cd (x_ok_5 H) ?_
  exact S5_readSurfer_0 H
theorem S10_firstMinute_0 {h : PH} (H : OKX h) {a0 : Nat} (ha0 : A10 a0) {x1i : Int32} {x1 : Int} (ex1 : x1i = Z3 x1) (qx1 : r3 x1) : SimI OKX (F10_firstMinute_0 h a0 x1i) (G10_firstMinute_0 (rd h) a0 x1) := by
  subst ex1
  unfold F10_firstMinute_0 G10_firstMinute_0
  refine sm_rd (x_gR_10_4 H ha0) ?_
  refine sm_rd (x_gR_10_2 H ha0) ?_
  refine sgxI fun c1 => ?_
  refine sm_rd (x_aI_10_2 H (ao_10_2 ha0) rfl c1).1 ?_
  refine sgxI fun c2 => ?_
  refine sm_rd (x_aI_10_4 H (ao_10_4 ha0) rfl c2).1 ?_
  exact sm_retI H rfl (x_aI_10_4 H (ao_10_4 ha0) rfl c2).2
theorem S10_firstMinute {h : PH} (H : OKX h) {a0 : Nat} (ha0 : A10 a0) {x1i : Int32} {x1 : Int} (ex1 : x1i = Z3 x1) (qx1 : r3 x1) : SimI OKX (F10_firstMinute h a0 x1i) (G10_firstMinute (rd h) a0 x1) := by
  subst ex1
  unfold F10_firstMinute G10_firstMinute
  refine sm_cd (x_ok_10 H ha0) ?_
  exact S10_firstMinute_0 H ha0 rfl qx1
theorem S10_lastMinute_0 {h : PH} (H : OKX h) {a0 : Nat} (ha0 : A10 a0) {x1i : Int32} {x1 : Int} (ex1 : x1i = Z3 x1) (qx1 : r3 x1) : SimI OKX (F10_lastMinute_0 h a0 x1i) (G10_lastMinute_0 (rd h) a0 x1) := by
  subst ex1
  unfold F10_lastMinute_0 G10_lastMinute_0
  refine sm_II (S10_firstMinute H ha0 rfl qx1) fun vo1 ho1 Ho1 ro1 => ?_
  refine sm_rd (x_gR_10_3 Ho1 ha0) ?_
  refine sgxI fun c1 => ?_
  refine sm_rd (x_aI_10_3 Ho1 (ao_10_3 ha0) rfl c1).1 ?_
  refine sg3I fun c2 => ?_
  exact sm_retI Ho1 (z3_sub (z3_add rfl rfl) l3_1) c2
theorem S10_lastMinute {h : PH} (H : OKX h) {a0 : Nat} (ha0 : A10 a0) {x1i : Int32} {x1 : Int} (ex1 : x1i = Z3 x1) (qx1 : r3 x1) : SimI OKX (F10_lastMinute h a0 x1i) (G10_lastMinute (rd h) a0 x1) := by
  subst ex1
  unfold F10_lastMinute G10_lastMinute
  refine sm_cd (x_ok_10 H ha0) ?_
  exact S10_lastMinute_0 H ha0 rfl qx1
theorem S10_beginSet_0 {h : PH} (H : OKX h) {a0 : Nat} (ha0 : A10 a0) : SimV OKX (F10_beginSet_0 h a0) (G10_beginSet_0 (rd h) a0) := by
  unfold F10_beginSet_0 G10_beginSet_0
  refine sm_rd (x_gI_10_0 H ha0).1 ?_
  refine sm_if (z3_le l3_4 rfl lr3_4 (x_gI_10_0 H ha0).2) ?_ ?_
  · exact sm_retV H
  · refine sm_rd (x_gR_10_2 H ha0) ?_
    refine sm_rd (x_gI_10_0 H ha0).1 ?_
    refine sm_rd (x_gI_10_1 H ha0).1 ?_
    refine sgxV fun c1 => ?_
    refine sm_wt (x_sI_10_2 H (ao_10_2 ha0) rfl c1 rfl (x_gI_10_1 H ha0).2) fun h11 Hh11 => ?_
    refine sm_rd (x_gR_10_3 Hh11 ha0) ?_
    refine sm_rd (x_gI_10_0 Hh11 ha0).1 ?_
    refine sgxV fun c2 => ?_
    refine sm_wt (x_sI_10_3 Hh11 (ao_10_3 ha0) rfl c2 l3_0 lr3_0) fun h17 Hh17 => ?_
    refine sm_rd (x_gI_10_0 Hh17 ha0).1 ?_
    refine sg3V fun c3 => ?_
    refine sm_wt (x_pI_10_0 Hh17 ha0 (z3_add rfl l3_1) c3) fun h20 Hh20 => ?_
    exact sm_retV Hh20
theorem S10_beginSet {h : PH} (H : OKX h) {a0 : Nat} (ha0 : A10 a0) : SimV OKX (F10_beginSet h a0) (G10_beginSet (rd h) a0) := by
  unfold F10_beginSet G10_beginSet
  refine sm_cd (x_ok_10 H ha0) ?_
  exact S10_beginSet_0 H ha0
theorem S10_add_0 {h : PH} (H : OKX h) {a0 : Nat} (ha0 : A10 a0) {x1i : Int32} {x1 : Int} (ex1 : x1i = Z3 x1) (qx1 : r3 x1) {x2i : Int32} {x2 : Int} (ex2 : x2i = Z3 x2) (qx2 : r3 x2) : SimV OKX (F10_add_0 h a0 x1i x2i) (G10_add_0 (rd h) a0 x1 x2) := by
  subst ex1 ex2
  unfold F10_add_0 G10_add_0
  refine sm_rd (x_gI_10_1 H ha0).1 ?_
  refine sm_if (z3_le l3_28 rfl lr3_28 (x_gI_10_1 H ha0).2) ?_ ?_
  · exact sm_retV H
  · refine sm_rd (x_gI_10_0 H ha0).1 ?_
    refine sm_if (z3_le l3_1 rfl lr3_1 (x_gI_10_0 H ha0).2) ?_ ?_
    · refine sm_rd (x_gR_10_3 H ha0) ?_
      refine sm_rd (x_gI_10_0 H ha0).1 ?_
      refine sgxV fun c1 => ?_
      refine sm_rd (x_aI_10_3 H (ao_10_3 ha0) (z3_sub rfl l3_1) c1).1 ?_
      refine sgxV fun c2 => ?_
      refine sg3V fun c3 => ?_
      refine sm_wt (x_sI_10_3 H (ao_10_3 ha0) (z3_sub rfl l3_1) c2 (z3_add rfl l3_1) c3) fun h14 Hh14 => ?_
      refine sm_rd (x_gR_10_4 Hh14 ha0) ?_
      refine sm_rd (x_gI_10_1 Hh14 ha0).1 ?_
      refine sgxV fun c4 => ?_
      refine sm_wt (x_sI_10_4 Hh14 (ao_10_4 ha0) rfl c4 rfl qx1) fun h20 Hh20 => ?_
      refine sm_rd (x_gR_10_5 Hh20 ha0) ?_
      refine sm_rd (x_gI_10_1 Hh20 ha0).1 ?_
      refine sgxV fun c5 => ?_
      refine sm_wt (x_sI_10_5 Hh20 (ao_10_5 ha0) rfl c5 rfl qx2) fun h26 Hh26 => ?_
      refine sm_rd (x_gR_10_6 Hh26 ha0) ?_
      refine sm_rd (x_gI_10_1 Hh26 ha0).1 ?_
      refine sm_rd (x_gI_10_0 Hh26 ha0).1 ?_
      refine sgxV fun c6 => ?_
      refine sg3V fun c7 => ?_
      refine sm_wt (x_sI_10_6 Hh26 (ao_10_6 ha0) rfl c6 (z3_sub rfl l3_1) c7) fun h34 Hh34 => ?_
      refine sm_rd (x_gR_10_7 Hh34 ha0) ?_
      refine sm_rd (x_gI_10_1 Hh34 ha0).1 ?_
      refine sm_rd (x_gR_10_3 Hh34 ha0) ?_
      refine sm_rd (x_gI_10_0 Hh34 ha0).1 ?_
      refine sgxV fun c8 => ?_
      refine sm_rd (x_aI_10_3 Hh34 (ao_10_3 ha0) (z3_sub rfl l3_1) c8).1 ?_
      refine sgxV fun c9 => ?_
      refine sm_wt (x_sI_10_7 Hh34 (ao_10_7 ha0) rfl c9 rfl (x_aI_10_3 Hh34 (ao_10_3 ha0) (z3_sub rfl l3_1) c8).2) fun h46 Hh46 => ?_
      refine sm_rd (x_gI_10_1 Hh46 ha0).1 ?_
      refine sg3V fun c10 => ?_
      refine sm_wt (x_pI_10_1 Hh46 ha0 (z3_add rfl l3_1) c10) fun h49 Hh49 => ?_
      exact sm_retV Hh49
    · exact sm_retV H
theorem S10_add {h : PH} (H : OKX h) {a0 : Nat} (ha0 : A10 a0) {x1i : Int32} {x1 : Int} (ex1 : x1i = Z3 x1) (qx1 : r3 x1) {x2i : Int32} {x2 : Int} (ex2 : x2i = Z3 x2) (qx2 : r3 x2) : SimV OKX (F10_add h a0 x1i x2i) (G10_add (rd h) a0 x1 x2) := by
  subst ex1 ex2
  unfold F10_add G10_add
  refine sm_cd (x_ok_10 H ha0) ?_
  exact S10_add_0 H ha0 rfl qx1 rfl qx2
theorem S5_readSet_101 {k70 : PH → Nat → Nat → Int32 → Int32 → Option (Int32 × PH)} {kk70 : Mem → Nat → Int → Int → Option (Int × Mem)} (hk70 : ∀ {h : PH} (_ : OKX h) {a2 : Nat} (_ : A10 a2) {x3 : Int32} {y3 : Int} (_ : x3 = Z3 y3) (_ : r3 y3) {x4 : Int32} {y4 : Int} (_ : x4 = Z3 y4) (_ : r3 y4), SimI OKX (k70 h 46 a2 x3 x4) (kk70 (rd h) a2 y3 y4)) {h : PH} (H : OKX h) {a1 : Nat} (ha1 : A10 a1) {x2i : Int32} {x2 : Int} (ex2 : x2i = Z3 x2) (qx2 : r3 x2) {x3i : Int32} {x3 : Int} (ex3 : x3i = Z3 x3) (qx3 : r3 x3) : SimI OKX (F5_readSet_101 k70 h 46 a1 x2i x3i) (G5_readSet_101 kk70 (rd h) a1 x2 x3) := by
  subst ex2 ex3
  unfold F5_readSet_101 G5_readSet_101
  refine sm_II (S5_takenNumber H l3_1 lr3_1 l3_9 lr3_9) fun vo1 ho1 Ho1 ro1 => ?_
  refine sm_if (z3_eq rfl l3_m1 ro1 lr3_m1) ?_ ?_
  · exact sm_rz Ho1 l3_0 (by decide)
  · refine sm_if (z3_eq rfl l3_7 qx3 lr3_7) ?_ ?_
    · refine sm_II (S5_refuse Ho1 l3_2 lr3_2) fun vo7 ho7 Ho7 ro7 => ?_
      refine sgbI fun c1 => ?_
      exact sm_rz Ho7 rfl c1
    · refine sg3I fun c2 => ?_
      refine sm_VI (S10_add Ho1 ha1 (z3_add rfl rfl) c2 rfl ro1) fun ho5 Ho5 => ?_
      refine sg3I fun c3 => ?_
      exact hk70 Ho5 ha1 rfl qx2 (z3_add rfl l3_1) c3
theorem S5_readSet_70 (n : Nat) : ∀ {h : PH} (H : OKX h) {a1 : Nat} (ha1 : A10 a1) {x2i : Int32} {x2 : Int} (ex2 : x2i = Z3 x2) (qx2 : r3 x2) {x3i : Int32} {x3 : Int} (ex3 : x3i = Z3 x3) (qx3 : r3 x3), SimI OKX (F5_readSet_70 n h 46 a1 x2i x3i) (G5_readSet_70 n (rd h) a1 x2 x3) := by
  induction n with
  | zero => intros; exact smI_none _
  | succ n ih =>
    intro h H a1 ha1 x2i x2 ex2 qx2 x3i x3 ex3 qx3
    subst ex2 ex3
    rw [F5_readSet_70, G5_readSet_70]
    refine sm_if (z3_lt l3_7 rfl lr3_7 qx3) ?_ ?_
    · exact sm_rz H l3_0 (by decide)
    · refine sm_rd (x_gR_5_0 H) ?_
      refine sm_VI (S7_advance H) fun ho4 Ho4 => ?_
      refine sm_if (z3_le rfl l3_0 qx3 lr3_0) ?_ ?_
      · exact S5_readSet_101 (@fun _ H _ ha1 _ _ ex2 qx2 _ _ ex3 qx3 => ih H ha1 ex2 qx2 ex3 qx3) Ho4 ha1 rfl qx2 rfl qx3
      · refine sm_rd (x_gR_5_0 Ho4) ?_
        refine sm_rd (x_gI_7_4 Ho4).1 ?_
        refine sm_if (z3_eq rfl l3_38 (x_gI_7_4 Ho4).2 lr3_38) ?_ ?_
        · exact sm_rz Ho4 l3_1 (by decide)
        · exact S5_readSet_101 (@fun _ H _ ha1 _ _ ex2 qx2 _ _ ex3 qx3 => ih H ha1 ex2 qx2 ex3 qx3) Ho4 ha1 rfl qx2 rfl qx3
theorem S5_readSet_64 {h : PH} (H : OKX h) {a1 : Nat} (ha1 : A10 a1) {x2i : Int32} {x2 : Int} (ex2 : x2i = Z3 x2) (qx2 : r3 x2) : SimI OKX (F5_readSet_64 h 46 a1 x2i) (G5_readSet_64 (rd h) a1 x2) := by
  subst ex2
  unfold F5_readSet_64 G5_readSet_64
  refine sm_VI (S10_beginSet H ha1) fun ho1 Ho1 => ?_
  exact S5_readSet_70 1024 Ho1 ha1 rfl qx2 l3_0 lr3_0
theorem S5_readSet_0 {h : PH} (H : OKX h) : SimI OKX (F5_readSet_0 h 46) (G5_readSet_0 (rd h)) := by
  unfold F5_readSet_0 G5_readSet_0
  refine sm_rd (x_gR_5_10 H) ?_
  refine sm_rd (x_gR_8_5 H (x_v_5_10 H)) ?_
  refine sm_rd (x_gI_10_0 H (ao_8_5 (x_v_5_10 H))).1 ?_
  refine sm_if (z3_lt rfl l3_4 (x_gI_10_0 H (ao_8_5 (x_v_5_10 H))).2 lr3_4) ?_ ?_
  · refine sm_II (S5_numberIn H l3_0 lr3_0 l3_99 lr3_99) fun vo8 ho8 Ho8 ro8 => ?_
    refine sm_if (z3_eq rfl l3_m1 ro8 lr3_m1) ?_ ?_
    · exact sm_rz Ho8 l3_0 (by decide)
    · refine sm_rd (x_gI_10_0 Ho8 (ao_8_5 (x_v_5_10 H))).1 ?_
      refine sm_if (z3_le rfl l3_0 (x_gI_10_0 Ho8 (ao_8_5 (x_v_5_10 H))).2 lr3_0) ?_ ?_
      · exact S5_readSet_64 Ho8 (ao_8_5 (x_v_5_10 H)) rfl ro8
      · refine sm_rd (x_gI_10_0 Ho8 (ao_8_5 (x_v_5_10 H))).1 ?_
        refine sg3I fun c1 => ?_
        refine sm_II (S10_lastMinute Ho8 (ao_8_5 (x_v_5_10 H)) (z3_sub rfl l3_1) c1) fun vo16 ho16 Ho16 ro16 => ?_
        refine sm_if (z3_lt rfl rfl ro16 ro8) ?_ ?_
        · exact S5_readSet_64 Ho16 (ao_8_5 (x_v_5_10 H)) rfl ro8
        · refine sm_II (S5_refuse Ho16 l3_5 lr3_5) fun vo19 ho19 Ho19 ro19 => ?_
          refine sgbI fun c2 => ?_
          exact sm_rz Ho19 rfl c2
  · refine sm_II (S5_refuse H l3_2 lr3_2) fun vo21 ho21 Ho21 ro21 => ?_
    refine sgbI fun c3 => ?_
    exact sm_rz Ho21 rfl c3
theorem S5_readSet {h : PH} (H : OKX h) : SimI OKX (F5_readSet h 46) (G5_readSet (rd h)) := by
  unfold F5_readSet G5_readSet
  refine sm_cd (x_ok_5 H) ?_
  exact S5_readSet_0 H
theorem S5_readBank_51 {h : PH} (H : OKX h) {x1i : Int32} {x1 : Int} (ex1 : x1i = Z3 x1) (qx1 : r3 x1) {x2i : Int32} {x2 : Int} (ex2 : x2i = Z3 x2) (qx2 : r3 x2) {s0i : Int32} {s0 : Int} (es0 : s0i = Z3 s0) (qs0 : r3 s0) : SimI OKX (F5_readBank_51 h 46 x1i x2i s0i) (G5_readBank_51 (rd h) x1 x2 s0) := by
  subst ex1 ex2 es0
  unfold F5_readBank_51 G5_readBank_51
  refine sm_if (z3_eq rfl l3_m1 qs0 lr3_m1) ?_ ?_
  · exact sm_rz H l3_0 (by decide)
  · refine sm_rd (x_gR_5_10 H) ?_
    refine sm_wt (x_pI_8_6 H (x_v_5_10 H) rfl qx1) fun h4 Hh4 => ?_
    refine sm_rd (x_gR_5_10 Hh4) ?_
    refine sm_wt (x_pI_8_7 Hh4 (x_v_5_10 Hh4) rfl qx2) fun h8 Hh8 => ?_
    refine sm_rd (x_gR_5_10 Hh8) ?_
    refine sm_wt (x_pI_8_8 Hh8 (x_v_5_10 Hh8) rfl qs0) fun h12 Hh12 => ?_
    refine sm_II (S5_readStop Hh12) fun vo14 ho14 Ho14 ro14 => ?_
    refine sgbI fun c1 => ?_
    exact sm_rz Ho14 rfl c1
theorem S5_readBank_34 {h : PH} (H : OKX h) {x1i : Int32} {x1 : Int} (ex1 : x1i = Z3 x1) (qx1 : r3 x1) {s0i : Int32} {s0 : Int} (es0 : s0i = Z3 s0) (qs0 : r3 s0) : SimI OKX (F5_readBank_34 h 46 x1i s0i) (G5_readBank_34 (rd h) x1 s0) := by
  subst ex1 es0
  unfold F5_readBank_34 G5_readBank_34
  refine sm_if (z3_eq rfl l3_m1 qs0 lr3_m1) ?_ ?_
  · exact S5_readBank_51 H rfl qx1 rfl qs0 l3_m1 lr3_m1
  · refine sm_II (S5_numberIn H l3_1 lr3_1 l3_9 lr3_9) fun vo2 ho2 Ho2 ro2 => ?_
    exact S5_readBank_51 Ho2 rfl qx1 rfl qs0 rfl ro2
theorem S5_readBank_0 {h : PH} (H : OKX h) : SimI OKX (F5_readBank_0 h 46) (G5_readBank_0 (rd h)) := by
  unfold F5_readBank_0 G5_readBank_0
  refine sm_II (S5_isFirst H l3_4 lr3_4) fun vo1 ho1 Ho1 ro1 => ?_
  refine sm_if (z3_eq rfl l3_0 ro1 lr3_0) ?_ ?_
  · exact sm_rz Ho1 l3_0 (by decide)
  · refine sm_II (S5_numberIn Ho1 l3_1 lr3_1 l3_20 lr3_20) fun vo4 ho4 Ho4 ro4 => ?_
    refine sm_if (z3_eq rfl l3_m1 ro4 lr3_m1) ?_ ?_
    · exact S5_readBank_34 Ho4 rfl ro4 l3_m1 lr3_m1
    · refine sm_II (S5_numberIn Ho4 l3_1 lr3_1 l3_20 lr3_20) fun vo7 ho7 Ho7 ro7 => ?_
      exact S5_readBank_34 Ho7 rfl ro4 rfl ro7
theorem S5_readBank {h : PH} (H : OKX h) : SimI OKX (F5_readBank h 46) (G5_readBank (rd h)) := by
  unfold F5_readBank G5_readBank
  refine sm_cd (x_ok_5 H) ?_
  exact S5_readBank_0 H
theorem S5_readRule_37 {h : PH} (H : OKX h) : SimI OKX (F5_readRule_37 h 46) (G5_readRule_37 (rd h)) := by
  unfold F5_readRule_37 G5_readRule_37
  refine sm_II (S5_refuse H l3_1 lr3_1) fun vo1 ho1 Ho1 ro1 => ?_
  refine sgbI fun c1 => ?_
  exact sm_rz Ho1 rfl c1
theorem S5_readRule_0 {h : PH} (H : OKX h) : SimI OKX (F5_readRule_0 h 46) (G5_readRule_0 (rd h)) := by
  unfold F5_readRule_0 G5_readRule_0
  refine sm_II (S5_isFirst H l3_5 lr3_5) fun vo1 ho1 Ho1 ro1 => ?_
  refine sm_if (z3_eq rfl l3_0 ro1 lr3_0) ?_ ?_
  · exact sm_rz Ho1 l3_0 (by decide)
  · refine sm_rd (x_gR_5_0 Ho1) ?_
    refine sm_VI (S7_advance Ho1) fun ho6 Ho6 => ?_
    refine sm_rd (x_gR_5_0 Ho6) ?_
    refine sm_rd (x_gI_7_4 Ho6).1 ?_
    refine sg3I fun c1 => ?_
    refine sm_if (z3_lt (z3_sub rfl l3_8) l3_0 c1 lr3_0) ?_ ?_
    · exact S5_readRule_37 Ho6
    · refine sg3I fun c2 => ?_
      refine sm_if (z3_lt (z3_sub rfl l3_8) l3_4 c2 lr3_4) ?_ ?_
      · refine sm_rd (x_gR_5_10 Ho6) ?_
        refine sg3I fun c3 => ?_
        refine sm_wt (x_pI_8_9 Ho6 (x_v_5_10 Ho6) (z3_sub rfl l3_8) c3) fun h16 Hh16 => ?_
        refine sm_II (S5_readStop Hh16) fun vo18 ho18 Ho18 ro18 => ?_
        refine sgbI fun c4 => ?_
        exact sm_rz Ho18 rfl c4
      · exact S5_readRule_37 Ho6
theorem S5_readRule {h : PH} (H : OKX h) : SimI OKX (F5_readRule h 46) (G5_readRule (rd h)) := by
  unfold F5_readRule G5_readRule
  refine sm_cd (x_ok_5 H) ?_
  exact S5_readRule_0 H
theorem S5_readSeed_0 {h : PH} (H : OKX h) : SimI OKX (F5_readSeed_0 h 46) (G5_readSeed_0 (rd h)) := by
  unfold F5_readSeed_0 G5_readSeed_0
  refine sm_II (S5_isFirst H l3_6 lr3_6) fun vo1 ho1 Ho1 ro1 => ?_
  refine sm_if (z3_eq rfl l3_0 ro1 lr3_0) ?_ ?_
  · exact sm_rz Ho1 l3_0 (by decide)
  · refine sm_II (S5_numberIn Ho1 l3_0 lr3_0 l3_99999 lr3_99999) fun vo4 ho4 Ho4 ro4 => ?_
    refine sm_if (z3_eq rfl l3_m1 ro4 lr3_m1) ?_ ?_
    · exact sm_rz Ho4 l3_0 (by decide)
    · refine sm_rd (x_gR_5_10 Ho4) ?_
      refine sm_wt (x_pI_8_10 Ho4 (x_v_5_10 Ho4) rfl ro4) fun h9 Hh9 => ?_
      refine sm_II (S5_readStop Hh9) fun vo11 ho11 Ho11 ro11 => ?_
      refine sgbI fun c1 => ?_
      exact sm_rz Ho11 rfl c1
theorem S5_readSeed {h : PH} (H : OKX h) : SimI OKX (F5_readSeed h 46) (G5_readSeed (rd h)) := by
  unfold F5_readSeed G5_readSeed
  refine sm_cd (x_ok_5 H) ?_
  exact S5_readSeed_0 H
theorem S5_readKind_27 {h : PH} (H : OKX h) : SimR OKX A2 (F5_readKind_27 h 46) (G5_readKind_27 (rd h)) := by
  unfold F5_readKind_27 G5_readKind_27
  refine sm_IR (S5_refuse H l3_1 lr3_1) fun vo1 ho1 Ho1 ro1 => ?_
  exact sm_retR0 Ho1
theorem S5_readKind_0 {h : PH} (H : OKX h) : SimR OKX A2 (F5_readKind_0 h 46) (G5_readKind_0 (rd h)) := by
  unfold F5_readKind_0 G5_readKind_0
  refine sm_rd (x_gR_5_0 H) ?_
  refine sm_VR (S7_advance H) fun ho3 Ho3 => ?_
  refine sm_rd (x_gR_5_0 Ho3) ?_
  refine sm_rd (x_gI_7_4 Ho3).1 ?_
  refine sg3R fun c1 => ?_
  refine sm_if (z3_lt (z3_sub rfl l3_12) l3_0 c1 lr3_0) ?_ ?_
  · exact S5_readKind_27 Ho3
  · refine sg3R fun c2 => ?_
    refine sm_if (z3_lt (z3_sub rfl l3_12) l3_3 c2 lr3_3) ?_ ?_
    · refine sm_rd (x_gR_5_10 Ho3) ?_
      refine sm_rd (x_gR_8_11 Ho3 (x_v_5_10 Ho3)) ?_
      refine sgxR fun c3 => ?_
      refine sm_rd (x_aR Ho3 (ao_8_11 (x_v_5_10 Ho3)) (z3_sub rfl l3_12) c3) ?_
      refine sm_rd (x_gI_2_2 Ho3 (x_aRp (ao_8_11 (x_v_5_10 Ho3)) c3)).1 ?_
      refine sm_if (z3_eq rfl l3_0 (x_gI_2_2 Ho3 (x_aRp (ao_8_11 (x_v_5_10 Ho3)) c3)).2 lr3_0) ?_ ?_
      · refine sm_rd (x_gR_5_10 Ho3) ?_
        refine sm_rd (x_gR_8_11 Ho3 (x_v_5_10 Ho3)) ?_
        refine sgxR fun c4 => ?_
        refine sm_rd (x_aR Ho3 (ao_8_11 (x_v_5_10 Ho3)) (z3_sub rfl l3_12) c4) ?_
        refine sm_wt (x_pZ_2_2 Ho3 (x_aRp (ao_8_11 (x_v_5_10 Ho3)) c4) l3_1 (by decide)) fun h26 Hh26 => ?_
        refine sm_rd (x_gR_5_10 Hh26) ?_
        refine sm_rd (x_gR_8_11 Hh26 (x_v_5_10 Hh26)) ?_
        refine sgxR fun c5 => ?_
        refine sm_rd (x_aR Hh26 (ao_8_11 (x_v_5_10 Hh26)) (z3_sub rfl l3_12) c5) ?_
        exact sm_retR1 Hh26 (x_aRp (ao_8_11 (x_v_5_10 Hh26)) c5)
      · refine sm_IR (S5_refuse Ho3 l3_3 lr3_3) fun vo34 ho34 Ho34 ro34 => ?_
        exact sm_retR0 Ho34
    · exact S5_readKind_27 Ho3
theorem S5_readKind {h : PH} (H : OKX h) : SimR OKX A2 (F5_readKind h 46) (G5_readKind (rd h)) := by
  unfold F5_readKind G5_readKind
  refine sm_cd (x_ok_5 H) ?_
  exact S5_readKind_0 H
theorem S5_strengthOf_0 {h : PH} (H : OKX h) {x0i : Int32} {x0 : Int} (ex0 : x0i = Z3 x0) (qx0 : r3 x0) : SimI OKX (F5_strengthOf_0 h x0i) (G5_strengthOf_0 (rd h) x0) := by
  subst ex0
  unfold F5_strengthOf_0 G5_strengthOf_0
  refine sm_if (z3_eq rfl l3_15 qx0 lr3_15) ?_ ?_
  · exact sm_retI H l3_3 lr3_3
  · refine sm_if (z3_eq rfl l3_16 qx0 lr3_16) ?_ ?_
    · exact sm_retI H l3_2 lr3_2
    · refine sm_if (z3_eq rfl l3_17 qx0 lr3_17) ?_ ?_
      · exact sm_retI H l3_1 lr3_1
      · refine sm_if (z3_eq rfl l3_26 qx0 lr3_26) ?_ ?_
        · exact sm_retI H l3_4 lr3_4
        · refine sm_if (z3_eq rfl l3_27 qx0 lr3_27) ?_ ?_
          · exact sm_retI H l3_4 lr3_4
          · refine sm_if (z3_eq rfl l3_28 qx0 lr3_28) ?_ ?_
            · exact sm_retI H l3_4 lr3_4
            · refine sm_if (z3_eq rfl l3_29 qx0 lr3_29) ?_ ?_
              · exact sm_retI H l3_4 lr3_4
              · refine sm_if (z3_eq rfl l3_30 qx0 lr3_30) ?_ ?_
                · exact sm_retI H l3_4 lr3_4
                · refine sm_if (z3_eq rfl l3_31 qx0 lr3_31) ?_ ?_
                  · exact sm_retI H l3_4 lr3_4
                  · refine sm_if (z3_eq rfl l3_32 qx0 lr3_32) ?_ ?_
                    · exact sm_retI H l3_5 lr3_5
                    · refine sm_if (z3_eq rfl l3_33 qx0 lr3_33) ?_ ?_
                      · exact sm_retI H l3_5 lr3_5
                      · refine sm_if (z3_eq rfl l3_34 qx0 lr3_34) ?_ ?_
                        · exact sm_retI H l3_6 lr3_6
                        · refine sm_if (z3_eq rfl l3_35 qx0 lr3_35) ?_ ?_
                          · exact sm_retI H l3_6 lr3_6
                          · exact sm_retI H l3_0 lr3_0
theorem S5_strengthOf {h : PH} (H : OKX h) {x0i : Int32} {x0 : Int} (ex0 : x0i = Z3 x0) (qx0 : r3 x0) : SimI OKX (F5_strengthOf h x0i) (G5_strengthOf (rd h) x0) := by
  subst ex0
  unfold F5_strengthOf G5_strengthOf
  exact S5_strengthOf_0 H rfl qx0
theorem S5_release_0 (n : Nat) : ∀ {h : PH} (H : OKX h) {a1 : Nat} (ha1 : A2 a1) {x2i : Int32} {x2 : Int} (ex2 : x2i = Z3 x2) (qx2 : r3 x2), SimV OKX (F5_release_0 n h 46 a1 x2i) (G5_release_0 n (rd h) a1 x2) := by
  induction n with
  | zero => intros; exact smV_none _
  | succ n ih =>
    intro h H a1 ha1 x2i x2 ex2 qx2
    subst ex2
    rw [F5_release_0, G5_release_0]
    refine sm_rd (x_gI_5_2 H).1 ?_
    refine sm_if (z3_le rfl l3_0 (x_gI_5_2 H).2 lr3_0) ?_ ?_
    · exact sm_retV H
    · refine sm_rd (x_gR_5_1 H) ?_
      refine sm_rd (x_gI_5_2 H).1 ?_
      refine sgxV fun c1 => ?_
      refine sm_rd (x_aI_5_1 H (z3_sub rfl l3_1) c1).1 ?_
      refine sm_IV (S5_strengthOf H rfl ((x_aI_5_1 H (z3_sub rfl l3_1) c1).2)) fun vo10 ho10 Ho10 ro10 => ?_
      refine sm_if (z3_le rfl rfl qx2 ro10) ?_ ?_
      · refine sg3V fun c2 => ?_
        refine sm_VV (S2_add Ho10 ha1 (z3_add l3_10000 rfl) c2) fun ho13 Ho13 => ?_
        refine sm_rd (x_gI_5_2 Ho13).1 ?_
        refine sg3V fun c3 => ?_
        refine sm_wt (x_pI_5_2 Ho13 (z3_sub rfl l3_1) c3) fun h17 Hh17 => ?_
        exact ih Hh17 ha1 rfl qx2
      · exact sm_retV Ho10
theorem S5_release {h : PH} (H : OKX h) {a1 : Nat} (ha1 : A2 a1) {x2i : Int32} {x2 : Int} (ex2 : x2i = Z3 x2) (qx2 : r3 x2) : SimV OKX (F5_release h 46 a1 x2i) (G5_release (rd h) a1 x2) := by
  subst ex2
  unfold F5_release G5_release
  refine sm_cd (x_ok_5 H) ?_
  exact S5_release_0 1024 H ha1 rfl qx2
theorem S5_takeOpen_0 {h : PH} (H : OKX h) : SimI OKX (F5_takeOpen_0 h 46) (G5_takeOpen_0 (rd h)) := by
  unfold F5_takeOpen_0 G5_takeOpen_0
  refine sm_rd (x_gI_5_3 H).1 ?_
  refine sm_if (z3_lt rfl l3_8 (x_gI_5_3 H).2 lr3_8) ?_ ?_
  · refine sm_rd (x_gI_5_3 H).1 ?_
    refine sg3I fun c1 => ?_
    refine sm_wt (x_pI_5_3 H (z3_add rfl l3_1) c1) fun h6 Hh6 => ?_
    refine sm_wt (x_pZ_5_5 Hh6 l3_1 (by decide)) fun h8 Hh8 => ?_
    refine sm_II (S5_letWait Hh8 l3_36 lr3_36) fun vo10 ho10 Ho10 ro10 => ?_
    refine sgbI fun c2 => ?_
    exact sm_rz Ho10 rfl c2
  · refine sm_II (S5_refuse H l3_2 lr3_2) fun vo12 ho12 Ho12 ro12 => ?_
    refine sgbI fun c3 => ?_
    exact sm_rz Ho12 rfl c3
theorem S5_takeOpen {h : PH} (H : OKX h) : SimI OKX (F5_takeOpen h 46) (G5_takeOpen (rd h)) := by
  unfold F5_takeOpen G5_takeOpen
  refine sm_cd (x_ok_5 H) ?_
  exact S5_takeOpen_0 H
theorem S5_takePart_139 {h : PH} (H : OKX h) {s0i : Int32} {s0 : Int} (es0 : s0i = Z3 s0) (qs0 : r3 s0) {u1 : Nat} (hu1 : A2 u1) : SimI OKX (F5_takePart_139 h 46 s0i u1) (G5_takePart_139 (rd h) s0 u1) := by
  subst es0
  unfold F5_takePart_139 G5_takePart_139
  refine sm_VI (S2_add H hu1 rfl qs0) fun ho1 Ho1 => ?_
  refine sm_wt (x_pZ_5_4 Ho1 l3_0 (by decide)) fun h3 Hh3 => ?_
  exact sm_rz Hh3 l3_1 (by decide)
theorem S5_takePart_110 {h : PH} (H : OKX h) {a1 : Nat} (ha1 : A2 a1) {x2i : Int32} {x2 : Int} (ex2 : x2i = Z3 x2) (qx2 : r3 x2) {x3i : Int32} {x3 : Int} (ex3 : x3i = Z3 x3) (qx3 : r3 x3) : SimI OKX (F5_takePart_110 h 46 a1 x2i x3i) (G5_takePart_110 (rd h) a1 x2 x3) := by
  subst ex2 ex3
  unfold F5_takePart_110 G5_takePart_110
  refine sm_II (S5_countKnot H) fun vo1 ho1 Ho1 ro1 => ?_
  refine sm_if (z3_eq rfl l3_0 ro1 lr3_0) ?_ ?_
  · exact sm_rz Ho1 l3_0 (by decide)
  · refine sm_if (z3_eq rfl l3_0 qx3 lr3_0) ?_ ?_
    · refine sm_rd (x_gR_5_0 Ho1) ?_
      refine sm_rd (x_gI_7_6 Ho1).1 ?_
      exact S5_takePart_139 Ho1 rfl ((x_gI_7_6 Ho1).2) ha1
    · refine sg3I fun c1 => ?_
      exact S5_takePart_139 Ho1 (z3_add l3_10000 rfl) c1 ha1
theorem S5_takePart_87 {h : PH} (H : OKX h) {a1 : Nat} (ha1 : A2 a1) {x2i : Int32} {x2 : Int} (ex2 : x2i = Z3 x2) (qx2 : r3 x2) {x3i : Int32} {x3 : Int} (ex3 : x3i = Z3 x3) (qx3 : r3 x3) : SimI OKX (F5_takePart_87 h 46 a1 x2i x3i) (G5_takePart_87 (rd h) a1 x2 x3) := by
  subst ex2 ex3
  unfold F5_takePart_87 G5_takePart_87
  refine sm_rd (x_gR_5_0 H) ?_
  refine sm_rd (x_gI_7_6 H).1 ?_
  refine sm_if (z3_le rfl l3_9999 (x_gI_7_6 H).2 lr3_9999) ?_ ?_
  · exact S5_takePart_110 H ha1 rfl qx2 rfl qx3
  · refine sm_if (z3_eq rfl l3_0 qx3 lr3_0) ?_ ?_
    · refine sm_II (S5_refuse H l3_2 lr3_2) fun vo7 ho7 Ho7 ro7 => ?_
      refine sgbI fun c1 => ?_
      exact sm_rz Ho7 rfl c1
    · exact S5_takePart_110 H ha1 rfl qx2 rfl qx3
theorem S5_takePart_70 {h : PH} (H : OKX h) {a1 : Nat} (ha1 : A2 a1) {x2i : Int32} {x2 : Int} (ex2 : x2i = Z3 x2) (qx2 : r3 x2) {s0i : Int32} {s0 : Int} (es0 : s0i = Z3 s0) (qs0 : r3 s0) : SimI OKX (F5_takePart_70 h 46 a1 x2i s0i) (G5_takePart_70 (rd h) a1 x2 s0) := by
  subst ex2 es0
  unfold F5_takePart_70 G5_takePart_70
  refine sm_if (z3_eq rfl l3_25 qx2 lr3_25) ?_ ?_
  · exact S5_takePart_87 H ha1 rfl qx2 rfl qs0
  · refine sm_if (z3_eq rfl l3_0 qs0 lr3_0) ?_ ?_
    · refine sm_II (S5_refuse H l3_1 lr3_1) fun vo3 ho3 Ho3 ro3 => ?_
      refine sgbI fun c1 => ?_
      exact sm_rz Ho3 rfl c1
    · exact S5_takePart_87 H ha1 rfl qx2 rfl qs0
theorem S5_takePart_69 {h : PH} (H : OKX h) {a1 : Nat} (ha1 : A2 a1) {x2i : Int32} {x2 : Int} (ex2 : x2i = Z3 x2) (qx2 : r3 x2) : SimI OKX (F5_takePart_69 h 46 a1 x2i) (G5_takePart_69 (rd h) a1 x2) := by
  subst ex2
  unfold F5_takePart_69 G5_takePart_69
  exact S5_takePart_70 H ha1 rfl qx2 l3_0 lr3_0
theorem S5_takePart_53 {h : PH} (H : OKX h) {a1 : Nat} (ha1 : A2 a1) {x2i : Int32} {x2 : Int} (ex2 : x2i = Z3 x2) (qx2 : r3 x2) : SimI OKX (F5_takePart_53 h 46 a1 x2i) (G5_takePart_53 (rd h) a1 x2) := by
  subst ex2
  unfold F5_takePart_53 G5_takePart_53
  refine sm_if (z3_lt rfl l3_18 qx2 lr3_18) ?_ ?_
  · exact S5_takePart_69 H ha1 rfl qx2
  · refine sm_if (z3_le l3_24 rfl lr3_24 qx2) ?_ ?_
    · exact S5_takePart_69 H ha1 rfl qx2
    · exact S5_takePart_70 H ha1 rfl qx2 l3_1 lr3_1
theorem S5_takePart_0 {h : PH} (H : OKX h) {a1 : Nat} (ha1 : A2 a1) : SimI OKX (F5_takePart_0 h 46 a1) (G5_takePart_0 (rd h) a1) := by
  unfold F5_takePart_0 G5_takePart_0
  refine sm_rd (x_gR_5_0 H) ?_
  refine sm_rd (x_gI_7_4 H).1 ?_
  refine sm_if (z3_eq rfl l3_36 (x_gI_7_4 H).2 lr3_36) ?_ ?_
  · refine sm_II (S5_takeOpen H) fun vo16 ho16 Ho16 ro16 => ?_
    refine sgbI fun c1 => ?_
    exact sm_rz Ho16 rfl c1
  · refine sm_if (z3_eq rfl l3_15 (x_gI_7_4 H).2 lr3_15) ?_ ?_
    · refine sm_rd (x_gI_5_5 H).1 ?_
      refine sm_if (z3_eq rfl l3_0 (x_gI_5_5 H).2 lr3_0) ?_ ?_
      · exact S5_takePart_53 H ha1 rfl ((x_gI_7_4 H).2)
      · refine sm_II (S5_countKnot H) fun vo10 ho10 Ho10 ro10 => ?_
        refine sm_if (z3_eq rfl l3_0 ro10 lr3_0) ?_ ?_
        · exact sm_rz Ho10 l3_0 (by decide)
        · refine sm_II (S5_letWait Ho10 rfl ((x_gI_7_4 H).2)) fun vo13 ho13 Ho13 ro13 => ?_
          refine sm_if (z3_eq rfl l3_0 ro13 lr3_0) ?_ ?_
          · exact sm_rz Ho13 l3_0 (by decide)
          · exact sm_rz Ho13 l3_1 (by decide)
    · exact S5_takePart_53 H ha1 rfl ((x_gI_7_4 H).2)
theorem S5_takePart {h : PH} (H : OKX h) {a1 : Nat} (ha1 : A2 a1) : SimI OKX (F5_takePart h 46 a1) (G5_takePart (rd h) a1) := by
  unfold F5_takePart G5_takePart
  refine sm_cd (x_ok_5 H) ?_
  exact S5_takePart_0 H ha1
theorem S5_takeClose_0 {h : PH} (H : OKX h) {a1 : Nat} (ha1 : A2 a1) : SimI OKX (F5_takeClose_0 h 46 a1) (G5_takeClose_0 (rd h) a1) := by
  unfold F5_takeClose_0 G5_takeClose_0
  refine sm_rd (x_gI_5_3 H).1 ?_
  refine sm_if (z3_eq rfl l3_0 (x_gI_5_3 H).2 lr3_0) ?_ ?_
  · refine sm_II (S5_refuse H l3_1 lr3_1) fun vo17 ho17 Ho17 ro17 => ?_
    refine sgbI fun c1 => ?_
    exact sm_rz Ho17 rfl c1
  · refine sm_VI (S5_release H ha1 l3_1 lr3_1) fun ho4 Ho4 => ?_
    refine sm_rd (x_gI_5_3 Ho4).1 ?_
    refine sg3I fun c2 => ?_
    refine sm_wt (x_pI_5_3 Ho4 (z3_sub rfl l3_1) c2) fun h8 Hh8 => ?_
    refine sm_rd (x_gI_5_2 Hh8).1 ?_
    refine sm_if (z3_le rfl l3_0 (x_gI_5_2 Hh8).2 lr3_0) ?_ ?_
    · exact sm_rz Hh8 l3_1 (by decide)
    · refine sm_rd (x_gI_5_2 Hh8).1 ?_
      refine sg3I fun c3 => ?_
      refine sm_wt (x_pI_5_2 Hh8 (z3_sub rfl l3_1) c3) fun h15 Hh15 => ?_
      exact sm_rz Hh15 l3_1 (by decide)
theorem S5_takeClose {h : PH} (H : OKX h) {a1 : Nat} (ha1 : A2 a1) : SimI OKX (F5_takeClose h 46 a1) (G5_takeClose (rd h) a1) := by
  unfold F5_takeClose G5_takeClose
  refine sm_cd (x_ok_5 H) ?_
  exact S5_takeClose_0 H ha1
theorem S5_waitsForLike_0 {h : PH} (H : OKX h) : SimI OKX (F5_waitsForLike_0 h 46) (G5_waitsForLike_0 (rd h)) := by
  unfold F5_waitsForLike_0 G5_waitsForLike_0
  refine sm_rd (x_gI_5_2 H).1 ?_
  refine sm_if (z3_le rfl l3_0 (x_gI_5_2 H).2 lr3_0) ?_ ?_
  · exact sm_rz H l3_0 (by decide)
  · refine sm_rd (x_gR_5_1 H) ?_
    refine sm_rd (x_gI_5_2 H).1 ?_
    refine sgxI fun c1 => ?_
    refine sm_rd (x_aI_5_1 H (z3_sub rfl l3_1) c1).1 ?_
    refine sm_II (S5_strengthOf H rfl ((x_aI_5_1 H (z3_sub rfl l3_1) c1).2)) fun vo10 ho10 Ho10 ro10 => ?_
    refine sm_II (S5_strengthOf Ho10 l3_28 lr3_28) fun vo12 ho12 Ho12 ro12 => ?_
    refine sm_if (z3_eq rfl rfl ro10 ro12) ?_ ?_
    · exact sm_rz Ho12 l3_1 (by decide)
    · exact sm_rz Ho12 l3_0 (by decide)
theorem S5_waitsForLike {h : PH} (H : OKX h) : SimI OKX (F5_waitsForLike h 46) (G5_waitsForLike (rd h)) := by
  unfold F5_waitsForLike G5_waitsForLike
  refine sm_cd (x_ok_5 H) ?_
  exact S5_waitsForLike_0 H
theorem S5_takeJoint_35 {h : PH} (H : OKX h) : SimI OKX (F5_takeJoint_35 h 46) (G5_takeJoint_35 (rd h)) := by
  unfold F5_takeJoint_35 G5_takeJoint_35
  refine sm_II (S5_refuse H l3_1 lr3_1) fun vo1 ho1 Ho1 ro1 => ?_
  refine sgbI fun c1 => ?_
  exact sm_rz Ho1 rfl c1
theorem S5_takeJoint_115 {h : PH} (H : OKX h) {x2i : Int32} {x2 : Int} (ex2 : x2i = Z3 x2) (qx2 : r3 x2) {s0i : Int32} {s0 : Int} (es0 : s0i = Z3 s0) (qs0 : r3 s0) : SimI OKX (F5_takeJoint_115 h 46 x2i s0i 46) (G5_takeJoint_115 (rd h) x2 s0) := by
  subst ex2 es0
  unfold F5_takeJoint_115 G5_takeJoint_115
  refine sgbI fun c1 => ?_
  refine sm_wt (x_pZ_5_5 H rfl c1) fun h1 Hh1 => ?_
  refine sm_II (S5_countKnot Hh1) fun vo3 ho3 Ho3 ro3 => ?_
  refine sm_if (z3_eq rfl l3_0 ro3 lr3_0) ?_ ?_
  · exact sm_rz Ho3 l3_0 (by decide)
  · refine sm_II (S5_letWait Ho3 rfl qx2) fun vo6 ho6 Ho6 ro6 => ?_
    refine sm_if (z3_eq rfl l3_0 ro6 lr3_0) ?_ ?_
    · exact sm_rz Ho6 l3_0 (by decide)
    · exact sm_rz Ho6 l3_1 (by decide)
theorem S5_takeJoint_110 {h : PH} (H : OKX h) {x2i : Int32} {x2 : Int} (ex2 : x2i = Z3 x2) (qx2 : r3 x2) : SimI OKX (F5_takeJoint_110 h 46 x2i 46) (G5_takeJoint_110 (rd h) x2) := by
  subst ex2
  unfold F5_takeJoint_110 G5_takeJoint_110
  exact S5_takeJoint_115 H rfl qx2 l3_1 lr3_1
theorem S5_takeJoint_92 {h : PH} (H : OKX h) {x2i : Int32} {x2 : Int} (ex2 : x2i = Z3 x2) (qx2 : r3 x2) : SimI OKX (F5_takeJoint_92 h 46 x2i) (G5_takeJoint_92 (rd h) x2) := by
  subst ex2
  unfold F5_takeJoint_92 G5_takeJoint_92
  refine sm_wt (x_pZ_5_4 H l3_1 (by decide)) fun h1 Hh1 => ?_
  refine sm_if (z3_eq rfl l3_16 qx2 lr3_16) ?_ ?_
  · exact S5_takeJoint_110 Hh1 rfl qx2
  · refine sm_if (z3_eq rfl l3_17 qx2 lr3_17) ?_ ?_
    · exact S5_takeJoint_110 Hh1 rfl qx2
    · exact S5_takeJoint_115 Hh1 rfl qx2 l3_0 lr3_0
theorem S5_takeJoint_71 {h : PH} (H : OKX h) {x2i : Int32} {x2 : Int} (ex2 : x2i = Z3 x2) (qx2 : r3 x2) {x4i : Int32} {x4 : Int} (ex4 : x4i = Z3 x4) (qx4 : r3 x4) {s0i : Int32} {s0 : Int} (es0 : s0i = Z3 s0) (qs0 : r3 s0) {u1 : Nat} (hu1 : A2 u1) : SimI OKX (F5_takeJoint_71 h 46 x2i x4i s0i u1 46) (G5_takeJoint_71 (rd h) x2 x4 s0 u1) := by
  subst ex2 ex4 es0
  unfold F5_takeJoint_71 G5_takeJoint_71
  refine sm_VI (S5_release H hu1 rfl qs0) fun ho1 Ho1 => ?_
  refine sm_if (z3_eq rfl l3_0 qx4 lr3_0) ?_ ?_
  · exact S5_takeJoint_92 Ho1 rfl qx2
  · refine sm_II (S5_waitsForLike Ho1) fun vo4 ho4 Ho4 ro4 => ?_
    refine sm_if (z3_eq rfl l3_0 ro4 lr3_0) ?_ ?_
    · exact S5_takeJoint_92 Ho4 rfl qx2
    · refine sm_II (S5_refuse Ho4 l3_1 lr3_1) fun vo7 ho7 Ho7 ro7 => ?_
      refine sgbI fun c1 => ?_
      exact sm_rz Ho7 rfl c1
theorem S5_takeJoint_55 {h : PH} (H : OKX h) {a1 : Nat} (ha1 : A2 a1) {x2i : Int32} {x2 : Int} (ex2 : x2i = Z3 x2) (qx2 : r3 x2) {x3i : Int32} {x3 : Int} (ex3 : x3i = Z3 x3) (qx3 : r3 x3) {s0i : Int32} {s0 : Int} (es0 : s0i = Z3 s0) (qs0 : r3 s0) : SimI OKX (F5_takeJoint_55 h 46 a1 x2i x3i s0i) (G5_takeJoint_55 (rd h) a1 x2 x3 s0) := by
  subst ex2 ex3 es0
  unfold F5_takeJoint_55 G5_takeJoint_55
  refine sm_if (z3_eq rfl l3_0 qs0 lr3_0) ?_ ?_
  · exact S5_takeJoint_71 H rfl qx2 rfl qs0 rfl qx3 ha1
  · refine sg3I fun c1 => ?_
    exact S5_takeJoint_71 H rfl qx2 rfl qs0 (z3_add rfl l3_1) c1 ha1
theorem S5_takeJoint_0 {h : PH} (H : OKX h) {a1 : Nat} (ha1 : A2 a1) : SimI OKX (F5_takeJoint_0 h 46 a1) (G5_takeJoint_0 (rd h) a1) := by
  unfold F5_takeJoint_0 G5_takeJoint_0
  refine sm_rd (x_gR_5_0 H) ?_
  refine sm_rd (x_gI_7_4 H).1 ?_
  refine sm_if (z3_eq rfl l3_37 (x_gI_7_4 H).2 lr3_37) ?_ ?_
  · refine sm_II (S5_takeClose H ha1) fun vo13 ho13 Ho13 ro13 => ?_
    refine sgbI fun c1 => ?_
    exact sm_rz Ho13 rfl c1
  · refine sm_II (S5_strengthOf H rfl ((x_gI_7_4 H).2)) fun vo6 ho6 Ho6 ro6 => ?_
    refine sm_if (z3_eq rfl l3_0 ro6 lr3_0) ?_ ?_
    · exact S5_takeJoint_35 Ho6
    · refine sm_if (z3_eq rfl l3_15 (x_gI_7_4 H).2 lr3_15) ?_ ?_
      · exact S5_takeJoint_35 Ho6
      · refine sm_II (S5_strengthOf Ho6 l3_28 lr3_28) fun vo10 ho10 Ho10 ro10 => ?_
        refine sm_if (z3_eq rfl rfl ro6 ro10) ?_ ?_
        · exact S5_takeJoint_55 Ho10 ha1 rfl ((x_gI_7_4 H).2) rfl ro6 l3_1 lr3_1
        · exact S5_takeJoint_55 Ho10 ha1 rfl ((x_gI_7_4 H).2) rfl ro6 l3_0 lr3_0
theorem S5_takeJoint {h : PH} (H : OKX h) {a1 : Nat} (ha1 : A2 a1) : SimI OKX (F5_takeJoint h 46 a1) (G5_takeJoint (rd h) a1) := by
  unfold F5_takeJoint G5_takeJoint
  refine sm_cd (x_ok_5 H) ?_
  exact S5_takeJoint_0 H ha1
theorem S5_readLaw_81 {k33 : PH → Nat → Nat → Int32 → Option (Int32 × PH)} {kk33 : Mem → Nat → Int → Option (Int × Mem)} (hk33 : ∀ {h : PH} (_ : OKX h) {a2 : Nat} (_ : A2 a2) {x3 : Int32} {y3 : Int} (_ : x3 = Z3 y3) (_ : r3 y3), SimI OKX (k33 h 46 a2 x3) (kk33 (rd h) a2 y3)) {h : PH} (H : OKX h) {a1 : Nat} (ha1 : A2 a1) {x2i : Int32} {x2 : Int} (ex2 : x2i = Z3 x2) (qx2 : r3 x2) : SimI OKX (F5_readLaw_81 k33 h 46 a1 x2i) (G5_readLaw_81 kk33 (rd h) a1 x2) := by
  subst ex2
  unfold F5_readLaw_81 G5_readLaw_81
  refine sm_rd (x_gI_5_4 H).1 ?_
  refine sm_if (z3_eq rfl l3_0 (x_gI_5_4 H).2 lr3_0) ?_ ?_
  · refine sm_II (S5_takeJoint H ha1) fun vo4 ho4 Ho4 ro4 => ?_
    refine sm_if (z3_eq rfl l3_0 ro4 lr3_0) ?_ ?_
    · exact sm_rz Ho4 l3_0 (by decide)
    · refine sg3I fun c1 => ?_
      exact hk33 Ho4 ha1 (z3_add rfl l3_1) c1
  · refine sm_II (S5_takePart H ha1) fun vo7 ho7 Ho7 ro7 => ?_
    refine sm_if (z3_eq rfl l3_0 ro7 lr3_0) ?_ ?_
    · exact sm_rz Ho7 l3_0 (by decide)
    · refine sg3I fun c2 => ?_
      exact hk33 Ho7 ha1 (z3_add rfl l3_1) c2
theorem S5_readLaw_33 (n : Nat) : ∀ {h : PH} (H : OKX h) {a1 : Nat} (ha1 : A2 a1) {x2i : Int32} {x2 : Int} (ex2 : x2i = Z3 x2) (qx2 : r3 x2), SimI OKX (F5_readLaw_33 n h 46 a1 x2i) (G5_readLaw_33 n (rd h) a1 x2) := by
  induction n with
  | zero => intros; exact smI_none _
  | succ n ih =>
    intro h H a1 ha1 x2i x2 ex2 qx2
    subst ex2
    rw [F5_readLaw_33, G5_readLaw_33]
    refine sm_if (z3_lt l3_700 rfl lr3_700 qx2) ?_ ?_
    · exact sm_rz H l3_0 (by decide)
    · refine sm_rd (x_gR_5_0 H) ?_
      refine sm_VI (S7_advance H) fun ho4 Ho4 => ?_
      refine sm_rd (x_gI_5_4 Ho4).1 ?_
      refine sm_if (z3_eq rfl l3_0 (x_gI_5_4 Ho4).2 lr3_0) ?_ ?_
      · refine sm_rd (x_gI_5_3 Ho4).1 ?_
        refine sm_if (z3_eq rfl l3_0 (x_gI_5_3 Ho4).2 lr3_0) ?_ ?_
        · refine sm_rd (x_gR_5_0 Ho4) ?_
          refine sm_rd (x_gI_7_4 Ho4).1 ?_
          refine sm_if (z3_eq rfl l3_38 (x_gI_7_4 Ho4).2 lr3_38) ?_ ?_
          · refine sm_VI (S5_release Ho4 ha1 l3_1 lr3_1) fun ho17 Ho17 => ?_
            exact sm_rz Ho17 l3_1 (by decide)
          · exact S5_readLaw_81 (@fun _ H _ ha1 _ _ ex2 qx2 => ih H ha1 ex2 qx2) Ho4 ha1 rfl qx2
        · exact S5_readLaw_81 (@fun _ H _ ha1 _ _ ex2 qx2 => ih H ha1 ex2 qx2) Ho4 ha1 rfl qx2
      · exact S5_readLaw_81 (@fun _ H _ ha1 _ _ ex2 qx2 => ih H ha1 ex2 qx2) Ho4 ha1 rfl qx2
theorem S5_readLaw_0 {h : PH} (H : OKX h) : SimI OKX (F5_readLaw_0 h 46) (G5_readLaw_0 (rd h)) := by
  unfold F5_readLaw_0 G5_readLaw_0
  refine sm_RI (f0 := fun h => rz 0 h) (f1 := fun r3 h => ((pI h 46 5 2 0).bind fun h5 => (pI h5 46 5 3 0).bind fun h7 => (pZ h7 46 5 4 1).bind fun h9 => (pZ h9 46 5 5 1).bind fun h11 => F5_readLaw_33 1024 h11 46 r3 0)) (g0 := fun m => some (0, m)) (g1 := fun r m => wt (up m 46 2 0) fun m5 => wt (up m5 46 3 0) fun m7 => wt (up m7 46 4 1) fun m9 => wt (up m9 46 5 1) fun m11 => G5_readLaw_33 1024 m11 r 0) (S5_readKind H) (fun h H => ?_) (fun r h H hr => ?_)
  · exact sm_rz H l3_0 (by decide)
  · refine sm_wt (x_pI_5_2 H l3_0 lr3_0) fun h5 H5 => ?_
    refine sm_wt (x_pI_5_3 H5 l3_0 lr3_0) fun h7 H7 => ?_
    refine sm_wt (x_pZ_5_4 H7 l3_1 (by decide)) fun h9 H9 => ?_
    refine sm_wt (x_pZ_5_5 H9 l3_1 (by decide)) fun h11 H11 => ?_
    exact S5_readLaw_33 1024 H11 hr l3_0 lr3_0
theorem S5_readLaw {h : PH} (H : OKX h) : SimI OKX (F5_readLaw h 46) (G5_readLaw (rd h)) := by
  unfold F5_readLaw G5_readLaw
  refine sm_cd (x_ok_5 H) ?_
  exact S5_readLaw_0 H
theorem S5_readLine_0 {h : PH} (H : OKX h) : SimI OKX (F5_readLine_0 h 46) (G5_readLine_0 (rd h)) := by
  unfold F5_readLine_0 G5_readLine_0
  refine sm_rd (x_gR_5_0 H) ?_
  refine sm_rd (x_gI_7_4 H).1 ?_
  refine sm_if (z3_eq rfl l3_0 (x_gI_7_4 H).2 lr3_0) ?_ ?_
  · refine sm_II (S5_readSea H) fun vo6 ho6 Ho6 ro6 => ?_
    refine sgbI fun c1 => ?_
    exact sm_rz Ho6 rfl c1
  · refine sm_if (z3_eq rfl l3_1 (x_gI_7_4 H).2 lr3_1) ?_ ?_
    · refine sm_II (S5_readPeak H) fun vo9 ho9 Ho9 ro9 => ?_
      refine sgbI fun c2 => ?_
      exact sm_rz Ho9 rfl c2
    · refine sm_if (z3_eq rfl l3_2 (x_gI_7_4 H).2 lr3_2) ?_ ?_
      · refine sm_II (S5_readSurfer H) fun vo12 ho12 Ho12 ro12 => ?_
        refine sgbI fun c3 => ?_
        exact sm_rz Ho12 rfl c3
      · refine sm_if (z3_eq rfl l3_3 (x_gI_7_4 H).2 lr3_3) ?_ ?_
        · refine sm_II (S5_readSet H) fun vo15 ho15 Ho15 ro15 => ?_
          refine sgbI fun c4 => ?_
          exact sm_rz Ho15 rfl c4
        · refine sm_if (z3_eq rfl l3_4 (x_gI_7_4 H).2 lr3_4) ?_ ?_
          · refine sm_II (S5_readBank H) fun vo18 ho18 Ho18 ro18 => ?_
            refine sgbI fun c5 => ?_
            exact sm_rz Ho18 rfl c5
          · refine sm_if (z3_eq rfl l3_5 (x_gI_7_4 H).2 lr3_5) ?_ ?_
            · refine sm_II (S5_readRule H) fun vo21 ho21 Ho21 ro21 => ?_
              refine sgbI fun c6 => ?_
              exact sm_rz Ho21 rfl c6
            · refine sm_if (z3_eq rfl l3_6 (x_gI_7_4 H).2 lr3_6) ?_ ?_
              · refine sm_II (S5_readSeed H) fun vo24 ho24 Ho24 ro24 => ?_
                refine sgbI fun c7 => ?_
                exact sm_rz Ho24 rfl c7
              · refine sm_if (z3_eq rfl l3_7 (x_gI_7_4 H).2 lr3_7) ?_ ?_
                · refine sm_II (S5_readLaw H) fun vo27 ho27 Ho27 ro27 => ?_
                  refine sgbI fun c8 => ?_
                  exact sm_rz Ho27 rfl c8
                · refine sm_II (S5_refuse H l3_1 lr3_1) fun vo29 ho29 Ho29 ro29 => ?_
                  refine sgbI fun c9 => ?_
                  exact sm_rz Ho29 rfl c9
theorem S5_readLine {h : PH} (H : OKX h) : SimI OKX (F5_readLine h 46) (G5_readLine (rd h)) := by
  unfold F5_readLine G5_readLine
  refine sm_cd (x_ok_5 H) ?_
  exact S5_readLine_0 H
theorem S5_readAll_44 (n : Nat) : ∀ {h : PH} (H : OKX h) {x4i : Int32} {x4 : Int} (ex4 : x4i = Z3 x4) (qx4 : r3 x4), SimI OKX (F5_readAll_44 n h 46 x4i) (G5_readAll_44 n (rd h) x4) := by
  induction n with
  | zero => intros; exact smI_none _
  | succ n ih =>
    intro h H x4i x4 ex4 qx4
    subst ex4
    rw [F5_readAll_44, G5_readAll_44]
    refine sm_if (z3_lt l3_700 rfl lr3_700 qx4) ?_ ?_
    · exact sm_rz H l3_1 (by decide)
    · refine sm_rd (x_gR_5_0 H) ?_
      refine sm_VI (S7_advance H) fun ho4 Ho4 => ?_
      refine sm_rd (x_gR_5_0 Ho4) ?_
      refine sm_rd (x_gI_7_4 Ho4).1 ?_
      refine sm_if (z3_eq rfl l3_39 (x_gI_7_4 Ho4).2 lr3_39) ?_ ?_
      · exact sm_rz Ho4 l3_1 (by decide)
      · refine sm_II (S5_readLine Ho4) fun vo11 ho11 Ho11 ro11 => ?_
        refine sm_if (z3_eq rfl l3_0 ro11 lr3_0) ?_ ?_
        · exact sm_rz Ho11 l3_0 (by decide)
        · refine sm_rd (x_gR_5_10 Ho11) ?_
          refine sm_rd (x_gI_8_12 Ho11 (x_v_5_10 Ho11)).1 ?_
          refine sg3I fun c1 => ?_
          refine sm_wt (x_pI_8_12 Ho11 (x_v_5_10 Ho11) (z3_add rfl l3_1) c1) fun h18 Hh18 => ?_
          refine sg3I fun c2 => ?_
          exact ih Hh18 (z3_add rfl l3_1) c2
theorem S5_readAll_0 {h : PH} (H : OKX h) {x2i : Int32} {x2 : Int} (ex2 : x2i = Z3 x2) (qx2 : r3 x2) {a3 : Nat} (ha3 : A8 a3) : SimI OKX (F5_readAll_0 h 46 1 x2i a3) (G5_readAll_0 (rd h) x2 a3) := by
  subst ex2
  unfold F5_readAll_0 G5_readAll_0
  refine sm_wt (x_pR_5_10 H ha3) fun h1 Hh1 => ?_
  refine sm_rd (x_gR_5_10 Hh1) ?_
  refine sm_VI (S8_forget Hh1 (x_v_5_10 Hh1)) fun ho5 Ho5 => ?_
  refine sm_wt (x_pI_5_8 Ho5 l3_0 lr3_0) fun h7 Hh7 => ?_
  refine sm_wt (x_pI_5_9 Hh7 l3_m1 lr3_m1) fun h9 Hh9 => ?_
  refine sm_wt (x_pI_5_6 Hh9 l3_0 lr3_0) fun h11 Hh11 => ?_
  refine sm_wt (x_pZ_5_7 Hh11 l3_0 (by decide)) fun h13 Hh13 => ?_
  refine sm_rd (x_gR_5_0 Hh13) ?_
  refine sm_VI (S7_begin Hh13 rfl qx2) fun ho17 Ho17 => ?_
  exact S5_readAll_44 1024 Ho17 l3_0 lr3_0
theorem S5_readAll {h : PH} (H : OKX h) {x2i : Int32} {x2 : Int} (ex2 : x2i = Z3 x2) (qx2 : r3 x2) {a3 : Nat} (ha3 : A8 a3) : SimI OKX (F5_readAll h 46 1 x2i a3) (G5_readAll (rd h) x2 a3) := by
  subst ex2
  unfold F5_readAll G5_readAll
  refine sm_cd (x_ok_5 H) ?_
  exact S5_readAll_0 H rfl qx2 ha3
theorem S6_awayValue_0 {h : PH} (H : OKX h) {a0 : Nat} (ha0 : A6 a0) {x1i : Int32} {x1 : Int} (ex1 : x1i = Z3 x1) (qx1 : r3 x1) {x2i : Int32} {x2 : Int} (ex2 : x2i = Z3 x2) (qx2 : r3 x2) : SimJ OKX (F6_awayValue_0 h a0 x1i x2i) (G6_awayValue_0 (rd h) a0 x1 x2) := by
  subst ex1 ex2
  unfold F6_awayValue_0 G6_awayValue_0
  refine sm_VJ (S6_nameAway H ha0 rfl qx1 rfl qx2) fun ho1 Ho1 => ?_
  refine sm_rd (x_gR_6_0 Ho1 ha0) ?_
  refine sm_rd (x_gR_8_11 Ho1 (x_v_6_0 Ho1 ha0)) ?_
  refine sm_rd (x_aR Ho1 (ao_8_11 (x_v_6_0 Ho1 ha0)) l3_2 (by decide)) ?_
  refine sm_rd (x_gR_6_4 Ho1 ha0) ?_
  refine sm_rd (x_gR_6_5 Ho1 ha0) ?_
  refine sm_JJ (S2_valueFor Ho1 (x_aRp (ao_8_11 (x_v_6_0 Ho1 ha0)) (by decide)) (ao_6_4 ha0) (ao_6_5 ha0)) fun vo13 ho13 Ho13 ro13 => ?_
  exact sm_retJ Ho13 rfl ro13
theorem S6_awayValue {h : PH} (H : OKX h) {a0 : Nat} (ha0 : A6 a0) {x1i : Int32} {x1 : Int} (ex1 : x1i = Z3 x1) (qx1 : r3 x1) {x2i : Int32} {x2 : Int} (ex2 : x2i = Z3 x2) (qx2 : r3 x2) : SimJ OKX (F6_awayValue h a0 x1i x2i) (G6_awayValue (rd h) a0 x1 x2) := by
  subst ex1 ex2
  unfold F6_awayValue G6_awayValue
  refine sm_cd (x_ok_6 H ha0) ?_
  exact S6_awayValue_0 H ha0 rfl qx1 rfl qx2
theorem S6_hadOfSet_3 (n : Nat) : ∀ {h : PH} (H : OKX h) {a0 : Nat} (ha0 : A6 a0) {a1 : Nat} (ha1 : A4 a1) {x2i : Int32} {x2 : Int} (ex2 : x2i = Z3 x2) (qx2 : r3 x2) {x3i : Int32} {x3 : Int} (ex3 : x3i = Z3 x3) (qx3 : r3 x3) {x4i : Int32} {x4 : Int} (ex4 : x4i = Z3 x4) (qx4 : r3 x4), SimI OKX (F6_hadOfSet_3 n h a0 a1 x2i x3i x4i) (G6_hadOfSet_3 n (rd h) a0 a1 x2 x3 x4) := by
  induction n with
  | zero => intros; exact smI_none _
  | succ n ih =>
    intro h H a0 ha0 a1 ha1 x2i x2 ex2 qx2 x3i x3 ex3 qx3 x4i x4 ex4 qx4
    subst ex2 ex3 ex4
    rw [F6_hadOfSet_3, G6_hadOfSet_3]
    refine sm_rd (x_gR_6_0 H ha0) ?_
    refine sm_rd (x_gR_8_5 H (x_v_6_0 H ha0)) ?_
    refine sm_rd (x_gI_10_1 H (ao_8_5 (x_v_6_0 H ha0))).1 ?_
    refine sm_if (z3_le rfl rfl (x_gI_10_1 H (ao_8_5 (x_v_6_0 H ha0))).2 qx4) ?_ ?_
    · exact sm_rz H l3_0 (by decide)
    · refine sm_rd (x_gR_6_0 H ha0) ?_
      refine sm_rd (x_gR_8_5 H (x_v_6_0 H ha0)) ?_
      refine sm_rd (x_gR_10_6 H (ao_8_5 (x_v_6_0 H ha0))) ?_
      refine sgxI fun c1 => ?_
      refine sm_rd (x_aI_10_6 H (ao_10_6 (ao_8_5 (x_v_6_0 H ha0))) rfl c1).1 ?_
      refine sm_if (z3_eq rfl rfl (x_aI_10_6 H (ao_10_6 (ao_8_5 (x_v_6_0 H ha0))) rfl c1).2 qx3) ?_ ?_
      · refine sm_rd (x_gR_4_10 H ha1) ?_
        refine sgxI fun c2 => ?_
        refine sm_rd (x_aI_4_10 H (ao_4_10 ha1) rfl c2).1 ?_
        refine sm_if (z3_eq rfl rfl (x_aI_4_10 H (ao_4_10 ha1) rfl c2).2 qx2) ?_ ?_
        · exact sm_rz H l3_1 (by decide)
        · refine sg3I fun c3 => ?_
          exact ih H ha0 ha1 rfl qx2 rfl qx3 (z3_add rfl l3_1) c3
      · refine sg3I fun c4 => ?_
        exact ih H ha0 ha1 rfl qx2 rfl qx3 (z3_add rfl l3_1) c4
theorem S6_hadOfSet_0 {h : PH} (H : OKX h) {a0 : Nat} (ha0 : A6 a0) {a1 : Nat} (ha1 : A4 a1) {x2i : Int32} {x2 : Int} (ex2 : x2i = Z3 x2) (qx2 : r3 x2) {x3i : Int32} {x3 : Int} (ex3 : x3i = Z3 x3) (qx3 : r3 x3) : SimI OKX (F6_hadOfSet_0 h a0 a1 x2i x3i) (G6_hadOfSet_0 (rd h) a0 a1 x2 x3) := by
  subst ex2 ex3
  unfold F6_hadOfSet_0 G6_hadOfSet_0
  exact S6_hadOfSet_3 1024 H ha0 ha1 rfl qx2 rfl qx3 l3_0 lr3_0
theorem S6_hadOfSet {h : PH} (H : OKX h) {a0 : Nat} (ha0 : A6 a0) {a1 : Nat} (ha1 : A4 a1) {x2i : Int32} {x2 : Int} (ex2 : x2i = Z3 x2) (qx2 : r3 x2) {x3i : Int32} {x3 : Int} (ex3 : x3i = Z3 x3) (qx3 : r3 x3) : SimI OKX (F6_hadOfSet h a0 a1 x2i x3i) (G6_hadOfSet (rd h) a0 a1 x2 x3) := by
  subst ex2 ex3
  unfold F6_hadOfSet G6_hadOfSet
  refine sm_cd (x_ok_6 H ha0) ?_
  exact S6_hadOfSet_0 H ha0 ha1 rfl qx2 rfl qx3
theorem S6_keyFor_0 {h : PH} (H : OKX h) {a0 : Nat} (ha0 : A6 a0) {a1 : Nat} (ha1 : A4 a1) {x2i : Int32} {x2 : Int} (ex2 : x2i = Z3 x2) (qx2 : r3 x2) {x3i : Int32} {x3 : Int} (ex3 : x3i = Z3 x3) (qx3 : r3 x3) : SimI OKX (F6_keyFor_0 h a0 a1 x2i x3i) (G6_keyFor_0 (rd h) a0 a1 x2 x3) := by
  subst ex2 ex3
  unfold F6_keyFor_0 G6_keyFor_0
  refine sm_rd (x_gR_4_5 H ha1) ?_
  refine sgxI fun c1 => ?_
  refine sm_rd (x_aI_4_5 H (ao_4_5 ha1) rfl c1).1 ?_
  refine sm_II (S6_farOf H ha0 rfl ((x_aI_4_5 H (ao_4_5 ha1) rfl c1).2) rfl qx3) fun vo5 ho5 Ho5 ro5 => ?_
  refine sm_rd (x_gI_4_1 Ho5 ha1).1 ?_
  refine sm_if (z3_eq rfl l3_1 (x_gI_4_1 Ho5 ha1).2 lr3_1) ?_ ?_
  · refine sm_rd (x_gR_4_6 Ho5 ha1) ?_
    refine sgxI fun c2 => ?_
    refine sm_rd (x_aI_4_6 Ho5 (ao_4_6 ha1) rfl c2).1 ?_
    exact sm_retI Ho5 rfl (x_aI_4_6 Ho5 (ao_4_6 ha1) rfl c2).2
  · refine sm_if (z3_eq rfl l3_2 (x_gI_4_1 Ho5 ha1).2 lr3_2) ?_ ?_
    · refine sm_rd (x_gR_6_0 Ho5 ha0) ?_
      refine sm_rd (x_gR_8_5 Ho5 (x_v_6_0 Ho5 ha0)) ?_
      refine sm_rd (x_gR_10_6 Ho5 (ao_8_5 (x_v_6_0 Ho5 ha0))) ?_
      refine sgxI fun c3 => ?_
      refine sm_rd (x_aI_10_6 Ho5 (ao_10_6 (ao_8_5 (x_v_6_0 Ho5 ha0))) rfl c3).1 ?_
      refine sm_II (S6_hadOfSet Ho5 ha0 ha1 rfl qx2 rfl ((x_aI_10_6 Ho5 (ao_10_6 (ao_8_5 (x_v_6_0 Ho5 ha0))) rfl c3).2)) fun vo23 ho23 Ho23 ro23 => ?_
      refine sm_if (z3_eq rfl l3_0 ro23 lr3_0) ?_ ?_
      · exact sm_retI Ho23 rfl ro5
      · refine sg3I fun c4 => ?_
        exact sm_retI Ho23 (z3_add l3_100 rfl) c4
    · refine sm_if (z3_eq rfl l3_3 (x_gI_4_1 Ho5 ha1).2 lr3_3) ?_ ?_
      · refine sm_rd (x_gR_6_0 Ho5 ha0) ?_
        refine sm_rd (x_gR_4_5 Ho5 ha1) ?_
        refine sgxI fun c5 => ?_
        refine sm_rd (x_aI_4_5 Ho5 (ao_4_5 ha1) rfl c5).1 ?_
        refine sm_II (S8_rowOf Ho5 (x_v_6_0 Ho5 ha0) rfl ((x_aI_4_5 Ho5 (ao_4_5 ha1) rfl c5).2)) fun vo33 ho33 Ho33 ro33 => ?_
        refine sg3I fun c6 => ?_
        exact sm_retI Ho33 (z3_neg rfl) c6
      · exact sm_retI Ho5 rfl ro5
