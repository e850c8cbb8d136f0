/-! The pure functions do so (written by wip/gen/gx.py). -/
theorem S12_goesAway {h : PH} (H : OKM h) {x1i : Int32} {x1 : Int} (ex1 : x1i = Z3 x1) (qx1 : r3 x1) {x2i : Int32} {x2 : Int} (ex2 : x2i = Z3 x2) (qx2 : r3 x2) {x3i : Int32} {x3 : Int} (ex3 : x3i = Z3 x3) (qx3 : r3 x3) {x4i : Int32} {x4 : Int} (ex4 : x4i = Z3 x4) (qx4 : r3 x4) : SimV OKM (F12_goesAway h 0 x1i x2i x3i x4i) (G12_goesAway (rd h) x1 x2 x3 x4) := by
  subst ex1 ex2 ex3 ex4
  unfold F12_goesAway G12_goesAway
  refine sm_cd (m_ok_12 H) ?_
  exact S12_goesAway_0 H rfl qx1 rfl qx2 rfl qx3 rfl qx4
theorem S12_comes_141 {k109 : PH → Nat → Int32 → Int32 → Int32 → Int32 → Option PH} {kk109 : Mem → Int → Int → Int → Int → Option Mem} (hk109 : ∀ {h : PH} (_ : OKM h) {x2 : Int32} {y2 : Int} (_ : x2 = Z3 y2) (_ : r3 y2) {x3 : Int32} {y3 : Int} (_ : x3 = Z3 y3) (_ : r3 y3) {x4 : Int32} {y4 : Int} (_ : x4 = Z3 y4) (_ : r3 y4) {x5 : Int32} {y5 : Int} (_ : x5 = Z3 y5) (_ : r3 y5), SimV OKM (k109 h 0 x2 x3 x4 x5) (kk109 (rd h) y2 y3 y4 y5)) {h : PH} (H : OKM h) {x1i : Int32} {x1 : Int} (ex1 : x1i = Z3 x1) (qx1 : r3 x1) {x2i : Int32} {x2 : Int} (ex2 : x2i = Z3 x2) (qx2 : r3 x2) {x5i : Int32} {x5 : Int} (ex5 : x5i = Z3 x5) (qx5 : r3 x5) {x6i : Int32} {x6 : Int} (ex6 : x6i = Z3 x6) (qx6 : r3 x6) {s0i : Int32} {s0 : Int} (es0 : s0i = Z3 s0) (qs0 : r3 s0) : SimV OKM (F12_comes_141 k109 h 0 x1i x2i x5i x6i s0i) (G12_comes_141 kk109 (rd h) x1 x2 x5 x6 s0) := by
  subst ex1 ex2 ex5 ex6 es0
  unfold F12_comes_141 G12_comes_141
  refine sm_if (z3_eq rfl l3_0 qs0 lr3_0) ?_ ?_
  · refine sg3V fun c1 => ?_
    exact hk109 H rfl qx1 rfl qx2 rfl qx5 (z3_add rfl l3_1) c1
  · refine sm_IV (S12_number1 H l3_100 lr3_100) fun vo2 ho2 Ho2 ro2 => ?_
    refine sm_if (z3_lt rfl rfl ro2 qs0) ?_ ?_
    · refine sm_rd (m_gR_12_60 Ho2) ?_
      refine sgxV fun c2 => ?_
      refine sm_wt (m_sI_12_60 Ho2 (z3_add (z3_mul l3_28 rfl) rfl) c2 l3_m3 lr3_m3) fun h8 Hh8 => ?_
      refine sm_rd (m_gR_12_62 Hh8) ?_
      refine sgxV fun c3 => ?_
      refine sm_rd (m_aI_12_62 Hh8 rfl c3).1 ?_
      refine sgxV fun c4 => ?_
      refine sg3V fun c5 => ?_
      refine sm_wt (m_sI_12_62 Hh8 rfl c4 (z3_add rfl l3_1) c5) fun h14 Hh14 => ?_
      refine sm_rd (m_gR_12_57 Hh14) ?_
      refine sgxV fun c6 => ?_
      refine sm_rd (m_aI_12_57 Hh14 (z3_add (z3_mul l3_5 rfl) rfl) c6).1 ?_
      refine sgxV fun c7 => ?_
      refine sg3V fun c8 => ?_
      refine sm_wt (m_sI_12_57 Hh14 (z3_add (z3_mul l3_5 rfl) rfl) c7 (z3_add rfl l3_1) c8) fun h20 Hh20 => ?_
      refine sm_rd (m_gR_12_57 Hh20) ?_
      refine sm_rd (m_gR_12_68 Hh20) ?_
      refine sgxV fun c9 => ?_
      refine sm_rd (m_aI_12_68 Hh20 rfl c9).1 ?_
      refine sgxV fun c10 => ?_
      refine sm_rd (m_aI_12_57 Hh20 (z3_add (z3_mul l3_5 rfl) rfl) c10).1 ?_
      refine sgxV fun c11 => ?_
      refine sg3V fun c12 => ?_
      refine sm_wt (m_sI_12_57 Hh20 (z3_add (z3_mul l3_5 rfl) rfl) c11 (z3_add rfl l3_1) c12) fun h30 Hh30 => ?_
      refine sm_VV (S12_goesAway Hh30 rfl qx1 rfl qx5 rfl qx2 l3_2 lr3_2) fun ho31 Ho31 => ?_
      refine sm_rd (m_gR_12_68 Ho31) ?_
      refine sgxV fun c13 => ?_
      refine sm_rd (m_aI_12_68 Ho31 rfl c13).1 ?_
      refine sm_VV (S12_goesAway Ho31 rfl qx1 rfl ((m_aI_12_68 Ho31 rfl c13).2) rfl qx2 l3_2 lr3_2) fun ho37 Ho37 => ?_
      exact sm_retV Ho37
    · refine sg3V fun c14 => ?_
      exact hk109 Ho2 rfl qx1 rfl qx2 rfl qx5 (z3_add rfl l3_1) c14
theorem S12_comes_109 (n : Nat) : ∀ {h : PH} (H : OKM h) {x1i : Int32} {x1 : Int} (ex1 : x1i = Z3 x1) (qx1 : r3 x1) {x2i : Int32} {x2 : Int} (ex2 : x2i = Z3 x2) (qx2 : r3 x2) {x5i : Int32} {x5 : Int} (ex5 : x5i = Z3 x5) (qx5 : r3 x5) {x6i : Int32} {x6 : Int} (ex6 : x6i = Z3 x6) (qx6 : r3 x6), SimV OKM (F12_comes_109 n h 0 x1i x2i x5i x6i) (G12_comes_109 n (rd h) x1 x2 x5 x6) := by
  induction n with
  | zero => intros; exact smV_none _
  | succ n ih =>
    intro h H x1i x1 ex1 qx1 x2i x2 ex2 qx2 x5i x5 ex5 qx5 x6i x6 ex6 qx6
    subst ex1 ex2 ex5 ex6
    rw [F12_comes_109, G12_comes_109]
    refine sm_rd (m_gI_12_69 H).1 ?_
    refine sm_if (z3_le rfl rfl (m_gI_12_69 H).2 qx6) ?_ ?_
    · refine sm_rd (m_gR_12_60 H) ?_
      refine sgxV fun c1 => ?_
      refine sm_wt (m_sI_12_60 H (z3_add (z3_mul l3_28 rfl) rfl) c1 rfl qx5) fun h7 Hh7 => ?_
      refine sm_rd (m_gR_12_56 Hh7) ?_
      refine sgxV fun c2 => ?_
      refine sm_rd (m_aI_12_56 Hh7 (z3_add (z3_mul l3_5 rfl) rfl) c2).1 ?_
      refine sgxV fun c3 => ?_
      refine sg3V fun c4 => ?_
      refine sm_wt (m_sI_12_56 Hh7 (z3_add (z3_mul l3_5 rfl) rfl) c3 (z3_add rfl l3_1) c4) fun h13 Hh13 => ?_
      refine sm_VV (S12_goesAway Hh13 rfl qx1 rfl qx5 rfl qx2 l3_1 lr3_1) fun ho14 Ho14 => ?_
      exact sm_retV Ho14
    · refine sm_rd (m_gI_12_66 H).1 ?_
      refine sm_if (z3_eq rfl l3_0 (m_gI_12_66 H).2 lr3_0) ?_ ?_
      · exact S12_comes_141 (@fun _ H _ _ ex1 qx1 _ _ ex2 qx2 _ _ ex5 qx5 _ _ ex6 qx6 => ih H ex1 qx1 ex2 qx2 ex5 qx5 ex6 qx6) H rfl qx1 rfl qx2 rfl qx5 rfl qx6 l3_0 lr3_0
      · refine sm_rd (m_gR_12_31 H) ?_
        refine sm_rd (m_gR_12_68 H) ?_
        refine sgxV fun c5 => ?_
        refine sm_rd (m_aI_12_68 H rfl c5).1 ?_
        refine sgxV fun c6 => ?_
        refine sm_rd (m_aI_12_31 H rfl c6).1 ?_
        exact S12_comes_141 (@fun _ H _ _ ex1 qx1 _ _ ex2 qx2 _ _ ex5 qx5 _ _ ex6 qx6 => ih H ex1 qx1 ex2 qx2 ex5 qx5 ex6 qx6) H rfl qx1 rfl qx2 rfl qx5 rfl qx6 rfl ((m_aI_12_31 H rfl c6).2)
theorem S12_comes_62 {h : PH} (H : OKM h) {x1i : Int32} {x1 : Int} (ex1 : x1i = Z3 x1) (qx1 : r3 x1) {x2i : Int32} {x2 : Int} (ex2 : x2i = Z3 x2) (qx2 : r3 x2) {x4i : Int32} {x4 : Int} (ex4 : x4i = Z3 x4) (qx4 : r3 x4) : SimV OKM (F12_comes_62 h 0 x1i x2i x4i) (G12_comes_62 (rd h) x1 x2 x4) := by
  subst ex1 ex2 ex4
  unfold F12_comes_62 G12_comes_62
  refine sm_rd (m_gI_12_69 H).1 ?_
  refine sm_if (z3_eq rfl rfl qx4 (m_gI_12_69 H).2) ?_ ?_
  · refine sm_rd (m_gR_12_60 H) ?_
    refine sgxV fun c1 => ?_
    refine sm_wt (m_sI_12_60 H (z3_add (z3_mul l3_28 rfl) rfl) c1 l3_m1 lr3_m1) fun h11 Hh11 => ?_
    refine sm_rd (m_gR_12_63 Hh11) ?_
    refine sgxV fun c2 => ?_
    refine sm_rd (m_aI_12_63 Hh11 rfl c2).1 ?_
    refine sgxV fun c3 => ?_
    refine sg3V fun c4 => ?_
    refine sm_wt (m_sI_12_63 Hh11 rfl c3 (z3_add rfl l3_1) c4) fun h17 Hh17 => ?_
    exact sm_retV Hh17
  · refine sm_rd (m_gR_12_68 H) ?_
    refine sgxV fun c5 => ?_
    refine sm_rd (m_aI_12_68 H rfl c5).1 ?_
    refine sg3V fun c6 => ?_
    exact S12_comes_109 1024 H rfl qx1 rfl qx2 rfl ((m_aI_12_68 H rfl c5).2) (z3_add rfl l3_1) c6
theorem S12_comes_10 (n : Nat) : ∀ {h : PH} (H : OKM h) {x1i : Int32} {x1 : Int} (ex1 : x1i = Z3 x1) (qx1 : r3 x1) {x2i : Int32} {x2 : Int} (ex2 : x2i = Z3 x2) (qx2 : r3 x2) {x4i : Int32} {x4 : Int} (ex4 : x4i = Z3 x4) (qx4 : r3 x4), SimV OKM (F12_comes_10 n h 0 x1i x2i x4i) (G12_comes_10 n (rd h) x1 x2 x4) := by
  induction n with
  | zero => intros; exact smV_none _
  | succ n ih =>
    intro h H x1i x1 ex1 qx1 x2i x2 ex2 qx2 x4i x4 ex4 qx4
    subst ex1 ex2 ex4
    rw [F12_comes_10, G12_comes_10]
    refine sm_rd (m_gI_12_69 H).1 ?_
    refine sm_if (z3_le rfl rfl (m_gI_12_69 H).2 qx4) ?_ ?_
    · exact S12_comes_62 H rfl qx1 rfl qx2 rfl qx4
    · refine sm_IV (S12_number1 H l3_100 lr3_100) fun vo4 ho4 Ho4 ro4 => ?_
      refine sm_rd (m_gR_12_68 Ho4) ?_
      refine sgxV fun c1 => ?_
      refine sm_rd (m_aI_12_68 Ho4 rfl c1).1 ?_
      refine sm_rd (m_gR_12_55 Ho4) ?_
      refine sm_rd (m_gR_12_68 Ho4) ?_
      refine sgxV fun c2 => ?_
      refine sm_rd (m_aI_12_68 Ho4 rfl c2).1 ?_
      refine sgxV fun c3 => ?_
      refine sm_rd (m_aI_12_55 Ho4 (z3_add (z3_mul l3_5 rfl) rfl) c3).1 ?_
      refine sm_IV (S12_oddsOf Ho4 rfl ((m_aI_12_68 Ho4 rfl c1).2) rfl qx2 rfl ((m_aI_12_55 Ho4 (z3_add (z3_mul l3_5 rfl) rfl) c3).2)) fun vo18 ho18 Ho18 ro18 => ?_
      refine sm_if (z3_lt rfl rfl ro4 ro18) ?_ ?_
      · exact S12_comes_62 Ho18 rfl qx1 rfl qx2 rfl qx4
      · refine sg3V fun c4 => ?_
        exact ih Ho18 rfl qx1 rfl qx2 (z3_add rfl l3_1) c4
theorem S12_comes_0 {h : PH} (H : OKM h) {x1i : Int32} {x1 : Int} (ex1 : x1i = Z3 x1) (qx1 : r3 x1) {x2i : Int32} {x2 : Int} (ex2 : x2i = Z3 x2) (qx2 : r3 x2) {x3i : Int32} {x3 : Int} (ex3 : x3i = Z3 x3) (qx3 : r3 x3) : SimV OKM (F12_comes_0 h 0 x1i x2i x3i) (G12_comes_0 (rd h) x1 x2 x3) := by
  subst ex1 ex2 ex3
  unfold F12_comes_0 G12_comes_0
  refine sm_VV (S12_layOrder H rfl qx1 rfl qx2 rfl qx3) fun ho1 Ho1 => ?_
  exact S12_comes_10 1024 Ho1 rfl qx1 rfl qx2 l3_0 lr3_0
theorem S12_comes {h : PH} (H : OKM h) {x1i : Int32} {x1 : Int} (ex1 : x1i = Z3 x1) (qx1 : r3 x1) {x2i : Int32} {x2 : Int} (ex2 : x2i = Z3 x2) (qx2 : r3 x2) {x3i : Int32} {x3 : Int} (ex3 : x3i = Z3 x3) (qx3 : r3 x3) : SimV OKM (F12_comes h 0 x1i x2i x3i) (G12_comes (rd h) x1 x2 x3) := by
  subst ex1 ex2 ex3
  unfold F12_comes G12_comes
  refine sm_cd (m_ok_12 H) ?_
  exact S12_comes_0 H rfl qx1 rfl qx2 rfl qx3
theorem S12_aMinute_50 (n : Nat) : ∀ {h : PH} (H : OKM h) {x1i : Int32} {x1 : Int} (ex1 : x1i = Z3 x1) (qx1 : r3 x1) {x3i : Int32} {x3 : Int} (ex3 : x3i = Z3 x3) (qx3 : r3 x3), SimV OKM (F12_aMinute_50 n h 0 x1i x3i) (G12_aMinute_50 n (rd h) x1 x3) := by
  induction n with
  | zero => intros; exact smV_none _
  | succ n ih =>
    intro h H x1i x1 ex1 qx1 x3i x3 ex3 qx3
    subst ex1 ex3
    rw [F12_aMinute_50, G12_aMinute_50]
    refine sm_rd (m_gI_12_14 H).1 ?_
    refine sm_if (z3_le rfl rfl (m_gI_12_14 H).2 qx3) ?_ ?_
    · exact sm_retV H
    · refine sm_rd (m_gR_12_58 H) ?_
      refine sgxV fun c1 => ?_
      refine sm_rd (m_aI_12_58 H (z3_add (z3_mul l3_5 rfl) rfl) c1).1 ?_
      refine sm_rd (m_gR_12_61 H) ?_
      refine sgxV fun c2 => ?_
      refine sm_rd (m_aI_12_61 H rfl c2).1 ?_
      refine sm_if (z3_eq rfl rfl (m_aI_12_58 H (z3_add (z3_mul l3_5 rfl) rfl) c1).2 (m_aI_12_61 H rfl c2).2) ?_ ?_
      · refine sm_rd (m_gR_12_58 H) ?_
        refine sgxV fun c3 => ?_
        refine sm_wt (m_sI_12_58 H (z3_add (z3_mul l3_5 rfl) rfl) c3 l3_0 lr3_0) fun h16 Hh16 => ?_
        refine sg3V fun c4 => ?_
        exact ih Hh16 rfl qx1 (z3_add rfl l3_1) c4
      · refine sg3V fun c5 => ?_
        exact ih H rfl qx1 (z3_add rfl l3_1) c5
theorem S12_aMinute_2 (n : Nat) : ∀ {h : PH} (H : OKM h) {x1i : Int32} {x1 : Int} (ex1 : x1i = Z3 x1) (qx1 : r3 x1) {x2i : Int32} {x2 : Int} (ex2 : x2i = Z3 x2) (qx2 : r3 x2) {x3i : Int32} {x3 : Int} (ex3 : x3i = Z3 x3) (qx3 : r3 x3), SimV OKM (F12_aMinute_2 n h 0 x1i x2i x3i) (G12_aMinute_2 n (rd h) x1 x2 x3) := by
  induction n with
  | zero => intros; exact smV_none _
  | succ n ih =>
    intro h H x1i x1 ex1 qx1 x2i x2 ex2 qx2 x3i x3 ex3 qx3
    subst ex1 ex2 ex3
    rw [F12_aMinute_2, G12_aMinute_2]
    refine sm_rd (m_gI_12_16 H).1 ?_
    refine sm_if (z3_le rfl rfl (m_gI_12_16 H).2 qx3) ?_ ?_
    · refine sm_rd (m_gR_12_61 H) ?_
      refine sgxV fun c1 => ?_
      refine sm_rd (m_aI_12_61 H rfl c1).1 ?_
      refine sgxV fun c2 => ?_
      refine sg3V fun c3 => ?_
      refine sm_wt (m_sI_12_61 H rfl c2 (z3_add rfl l3_1) c3) fun h9 Hh9 => ?_
      exact S12_aMinute_50 1024 Hh9 rfl qx1 l3_0 lr3_0
    · refine sm_rd (m_gR_12_34 H) ?_
      refine sgxV fun c4 => ?_
      refine sm_rd (m_aI_12_34 H rfl c4).1 ?_
      refine sm_rd (m_gR_12_61 H) ?_
      refine sgxV fun c5 => ?_
      refine sm_rd (m_aI_12_61 H rfl c5).1 ?_
      refine sm_if (z3_eq rfl rfl (m_aI_12_34 H rfl c4).2 (m_aI_12_61 H rfl c5).2) ?_ ?_
      · refine sm_VV (S12_comes H rfl qx1 rfl qx3 rfl qx2) fun ho19 Ho19 => ?_
        refine sg3V fun c6 => ?_
        exact ih Ho19 rfl qx1 rfl qx2 (z3_add rfl l3_1) c6
      · refine sg3V fun c7 => ?_
        exact ih H rfl qx1 rfl qx2 (z3_add rfl l3_1) c7
theorem S12_aMinute_0 {h : PH} (H : OKM h) {x1i : Int32} {x1 : Int} (ex1 : x1i = Z3 x1) (qx1 : r3 x1) {x2i : Int32} {x2 : Int} (ex2 : x2i = Z3 x2) (qx2 : r3 x2) : SimV OKM (F12_aMinute_0 h 0 x1i x2i) (G12_aMinute_0 (rd h) x1 x2) := by
  subst ex1 ex2
  unfold F12_aMinute_0 G12_aMinute_0
  exact S12_aMinute_2 1024 H rfl qx1 rfl qx2 l3_0 lr3_0
theorem S12_aMinute {h : PH} (H : OKM h) {x1i : Int32} {x1 : Int} (ex1 : x1i = Z3 x1) (qx1 : r3 x1) {x2i : Int32} {x2 : Int} (ex2 : x2i = Z3 x2) (qx2 : r3 x2) : SimV OKM (F12_aMinute h 0 x1i x2i) (G12_aMinute (rd h) x1 x2) := by
  subst ex1 ex2
  unfold F12_aMinute G12_aMinute
  refine sm_cd (m_ok_12 H) ?_
  exact S12_aMinute_0 H rfl qx1 rfl qx2
theorem S12_allHad_4 (n : Nat) : ∀ {h : PH} (H : OKM h) {x1i : Int32} {x1 : Int} (ex1 : x1i = Z3 x1) (qx1 : r3 x1) {x2i : Int32} {x2 : Int} (ex2 : x2i = Z3 x2) (qx2 : r3 x2) {x3i : Int32} {x3 : Int} (ex3 : x3i = Z3 x3) (qx3 : r3 x3), SimI OKM (F12_allHad_4 n h 0 x1i x2i x3i) (G12_allHad_4 n (rd h) x1 x2 x3) := by
  induction n with
  | zero => intros; exact smI_none _
  | succ n ih =>
    intro h H x1i x1 ex1 qx1 x2i x2 ex2 qx2 x3i x3 ex3 qx3
    subst ex1 ex2 ex3
    rw [F12_allHad_4, G12_allHad_4]
    refine sm_rd (m_gI_12_14 H).1 ?_
    refine sm_if (z3_le rfl rfl (m_gI_12_14 H).2 qx3) ?_ ?_
    · exact sm_retI H rfl qx2
    · refine sm_rd (m_gR_12_56 H) ?_
      refine sgxI fun c1 => ?_
      refine sm_rd (m_aI_12_56 H (z3_add (z3_mul l3_5 rfl) rfl) c1).1 ?_
      refine sg3I fun c2 => ?_
      refine sg3I fun c3 => ?_
      exact ih H rfl qx1 (z3_add rfl rfl) c2 (z3_add rfl l3_1) c3
theorem S12_allHad_0 {h : PH} (H : OKM h) {x1i : Int32} {x1 : Int} (ex1 : x1i = Z3 x1) (qx1 : r3 x1) : SimI OKM (F12_allHad_0 h 0 x1i) (G12_allHad_0 (rd h) x1) := by
  subst ex1
  unfold F12_allHad_0 G12_allHad_0
  exact S12_allHad_4 1024 H rfl qx1 l3_0 lr3_0 l3_0 lr3_0
theorem S12_allHad {h : PH} (H : OKM h) {x1i : Int32} {x1 : Int} (ex1 : x1i = Z3 x1) (qx1 : r3 x1) : SimI OKM (F12_allHad h 0 x1i) (G12_allHad (rd h) x1) := by
  subst ex1
  unfold F12_allHad G12_allHad
  refine sm_cd (m_ok_12 H) ?_
  exact S12_allHad_0 H rfl qx1
theorem S12_back_100 (n : Nat) : ∀ {h : PH} (H : OKM h) {x1i : Int32} {x1 : Int} (ex1 : x1i = Z3 x1) (qx1 : r3 x1), SimI OKM (F12_back_100 n h 0 x1i) (G12_back_100 n (rd h) x1) := by
  induction n with
  | zero => intros; exact smI_none _
  | succ n ih =>
    intro h H x1i x1 ex1 qx1
    subst ex1
    rw [F12_back_100, G12_back_100]
    refine sm_if (z3_le l3_28 rfl lr3_28 qx1) ?_ ?_
    · refine sm_rd (m_gR_12_61 H) ?_
      refine sm_rd (m_gI_12_82 H).1 ?_
      refine sm_wt (m_sI_12_61 H l3_0 ⟨by decide, by decide⟩ rfl (m_gI_12_82 H).2) fun h7 Hh7 => ?_
      refine sm_rd (m_gI_12_83 Hh7).1 ?_
      refine sm_wt (m_pI_12_64 Hh7 rfl (m_gI_12_83 Hh7).2) fun h10 Hh10 => ?_
      refine sm_rd (m_gR_12_62 Hh10) ?_
      refine sm_rd (m_gI_12_84 Hh10).1 ?_
      refine sm_wt (m_sI_12_62 Hh10 l3_0 ⟨by decide, by decide⟩ rfl (m_gI_12_84 Hh10).2) fun h17 Hh17 => ?_
      refine sm_rd (m_gR_12_63 Hh17) ?_
      refine sm_rd (m_gI_12_85 Hh17).1 ?_
      refine sm_wt (m_sI_12_63 Hh17 l3_0 ⟨by decide, by decide⟩ rfl (m_gI_12_85 Hh17).2) fun h23 Hh23 => ?_
      refine sm_rd (m_gJ_12_86 Hh23).1 ?_
      refine sm_wt (m_pJ_12_65 Hh23 rfl (m_gJ_12_86 Hh23).2) fun h26 Hh26 => ?_
      refine sm_wt (m_pI_12_78 Hh26 l3_0 lr3_0) fun h28 Hh28 => ?_
      refine sm_rd (m_gR_12_61 Hh28) ?_
      refine sm_rd (m_aI_12_61 Hh28 l3_0 ⟨by decide, by decide⟩).1 ?_
      exact sm_retI Hh28 rfl (m_aI_12_61 Hh28 l3_0 ⟨by decide, by decide⟩).2
    · refine sm_rd (m_gR_12_60 H) ?_
      refine sm_rd (m_gR_12_81 H) ?_
      refine sgxI fun c1 => ?_
      refine sm_rd (m_aI_12_81 H (z3_add l3_25 rfl) c1).1 ?_
      refine sgxI fun c2 => ?_
      refine sm_wt (m_sI_12_60 H rfl c2 rfl (m_aI_12_81 H (z3_add l3_25 rfl) c1).2) fun h41 Hh41 => ?_
      refine sg3I fun c3 => ?_
      exact ih Hh41 (z3_add rfl l3_1) c3
theorem S12_back_16 (n : Nat) : ∀ {h : PH} (H : OKM h) {x1i : Int32} {x1 : Int} (ex1 : x1i = Z3 x1) (qx1 : r3 x1), SimI OKM (F12_back_16 n h 0 x1i) (G12_back_16 n (rd h) x1) := by
  induction n with
  | zero => intros; exact smI_none _
  | succ n ih =>
    intro h H x1i x1 ex1 qx1
    subst ex1
    rw [F12_back_16, G12_back_16]
    refine sm_if (z3_le l3_5 rfl lr3_5 qx1) ?_ ?_
    · exact S12_back_100 1024 H l3_0 lr3_0
    · refine sm_rd (m_gR_12_55 H) ?_
      refine sm_rd (m_gR_12_81 H) ?_
      refine sgxI fun c1 => ?_
      refine sm_rd (m_aI_12_81 H rfl c1).1 ?_
      refine sgxI fun c2 => ?_
      refine sm_wt (m_sI_12_55 H rfl c2 rfl (m_aI_12_81 H rfl c1).2) fun h9 Hh9 => ?_
      refine sm_rd (m_gR_12_56 Hh9) ?_
      refine sm_rd (m_gR_12_81 Hh9) ?_
      refine sgxI fun c3 => ?_
      refine sm_rd (m_aI_12_81 Hh9 (z3_add l3_5 rfl) c3).1 ?_
      refine sgxI fun c4 => ?_
      refine sm_wt (m_sI_12_56 Hh9 rfl c4 rfl (m_aI_12_81 Hh9 (z3_add l3_5 rfl) c3).2) fun h17 Hh17 => ?_
      refine sm_rd (m_gR_12_57 Hh17) ?_
      refine sm_rd (m_gR_12_81 Hh17) ?_
      refine sgxI fun c5 => ?_
      refine sm_rd (m_aI_12_81 Hh17 (z3_add l3_10 rfl) c5).1 ?_
      refine sgxI fun c6 => ?_
      refine sm_wt (m_sI_12_57 Hh17 rfl c6 rfl (m_aI_12_81 Hh17 (z3_add l3_10 rfl) c5).2) fun h25 Hh25 => ?_
      refine sm_rd (m_gR_12_58 Hh25) ?_
      refine sm_rd (m_gR_12_81 Hh25) ?_
      refine sgxI fun c7 => ?_
      refine sm_rd (m_aI_12_81 Hh25 (z3_add l3_15 rfl) c7).1 ?_
      refine sgxI fun c8 => ?_
      refine sm_wt (m_sI_12_58 Hh25 rfl c8 rfl (m_aI_12_81 Hh25 (z3_add l3_15 rfl) c7).2) fun h33 Hh33 => ?_
      refine sm_rd (m_gR_12_59 Hh33) ?_
      refine sm_rd (m_gR_12_81 Hh33) ?_
      refine sgxI fun c9 => ?_
      refine sm_rd (m_aI_12_81 Hh33 (z3_add l3_20 rfl) c9).1 ?_
      refine sgxI fun c10 => ?_
      refine sm_wt (m_sI_12_59 Hh33 rfl c10 rfl (m_aI_12_81 Hh33 (z3_add l3_20 rfl) c9).2) fun h41 Hh41 => ?_
      refine sg3I fun c11 => ?_
      exact ih Hh41 (z3_add rfl l3_1) c11
theorem S12_back_0 {h : PH} (H : OKM h) : SimI OKM (F12_back_0 h 0) (G12_back_0 (rd h)) := by
  unfold F12_back_0 G12_back_0
  refine sm_wt (m_pI_12_2 H l3_0 lr3_0) fun h1 Hh1 => ?_
  refine sm_rd (m_gI_12_80 Hh1).1 ?_
  refine sm_if (z3_eq rfl l3_0 (m_gI_12_80 Hh1).2 lr3_0) ?_ ?_
  · exact sm_retI Hh1 l3_m1 lr3_m1
  · exact S12_back_16 1024 Hh1 l3_0 lr3_0
theorem S12_back {h : PH} (H : OKM h) : SimI OKM (F12_back h 0) (G12_back (rd h)) := by
  unfold F12_back G12_back
  refine sm_cd (m_ok_12 H) ?_
  exact S12_back_0 H
theorem S12_isSmall_0 {h : PH} (H : OKM h) {x1i : Int32} {x1 : Int} (ex1 : x1i = Z3 x1) (qx1 : r3 x1) : SimI OKM (F12_isSmall_0 h 0 x1i) (G12_isSmall_0 (rd h) x1) := by
  subst ex1
  unfold F12_isSmall_0 G12_isSmall_0
  refine sm_rd (m_gI_12_6 H).1 ?_
  refine sm_if (z3_le rfl rfl (m_gI_12_6 H).2 qx1) ?_ ?_
  · exact sm_rz H l3_0 (by decide)
  · refine sm_rd (m_gR_12_0 H) ?_
    refine sgxI fun c1 => ?_
    refine sm_rd (m_aI_12_0 H rfl c1).1 ?_
    refine sm_if (z3_lt rfl l3_97 (m_aI_12_0 H rfl c1).2 lr3_97) ?_ ?_
    · exact sm_rz H l3_0 (by decide)
    · refine sm_rd (m_gR_12_0 H) ?_
      refine sgxI fun c2 => ?_
      refine sm_rd (m_aI_12_0 H rfl c2).1 ?_
      refine sm_if (z3_lt l3_122 rfl lr3_122 (m_aI_12_0 H rfl c2).2) ?_ ?_
      · exact sm_rz H l3_0 (by decide)
      · exact sm_rz H l3_1 (by decide)
theorem S12_isSmall {h : PH} (H : OKM h) {x1i : Int32} {x1 : Int} (ex1 : x1i = Z3 x1) (qx1 : r3 x1) : SimI OKM (F12_isSmall h 0 x1i) (G12_isSmall (rd h) x1) := by
  subst ex1
  unfold F12_isSmall G12_isSmall
  refine sm_cd (m_ok_12 H) ?_
  exact S12_isSmall_0 H rfl qx1
theorem S12_wordAt_104 {k5 : PH → Nat → Int32 → Int32 → Int32 → Int32 → Option (Int32 × PH)} {kk5 : Mem → Int → Int → Int → Int → Option (Int × Mem)} (hk5 : ∀ {h : PH} (_ : OKM h) {x2 : Int32} {y2 : Int} (_ : x2 = Z3 y2) (_ : r3 y2) {x3 : Int32} {y3 : Int} (_ : x3 = Z3 y3) (_ : r3 y3) {x4 : Int32} {y4 : Int} (_ : x4 = Z3 y4) (_ : r3 y4) {x5 : Int32} {y5 : Int} (_ : x5 = Z3 y5) (_ : r3 y5), SimI OKM (k5 h 0 x2 x3 x4 x5) (kk5 (rd h) y2 y3 y4 y5)) {h : PH} (H : OKM h) {x1i : Int32} {x1 : Int} (ex1 : x1i = Z3 x1) (qx1 : r3 x1) {x2i : Int32} {x2 : Int} (ex2 : x2i = Z3 x2) (qx2 : r3 x2) {x3i : Int32} {x3 : Int} (ex3 : x3i = Z3 x3) (qx3 : r3 x3) {x4i : Int32} {x4 : Int} (ex4 : x4i = Z3 x4) (qx4 : r3 x4) {x5i : Int32} {x5 : Int} (ex5 : x5i = Z3 x5) (qx5 : r3 x5) {x6i : Int32} {x6 : Int} (ex6 : x6i = Z3 x6) (qx6 : r3 x6) : SimI OKM (F12_wordAt_104 k5 h 0 x1i x2i x3i x4i x5i x6i) (G12_wordAt_104 kk5 (rd h) x1 x2 x3 x4 x5 x6) := by
  subst ex1 ex2 ex3 ex4 ex5 ex6
  unfold F12_wordAt_104 G12_wordAt_104
  refine sm_if (z3_eq rfl l3_0 qx6 lr3_0) ?_ ?_
  · refine sg3I fun c1 => ?_
    refine sg3I fun c2 => ?_
    exact hk5 H rfl qx1 rfl qx2 (z3_add rfl l3_1) c1 (z3_add rfl (z3_add rfl l3_1)) c2
  · exact sm_retI H rfl qx3
theorem S12_wordAt_57 {k5 : PH → Nat → Int32 → Int32 → Int32 → Int32 → Option (Int32 × PH)} {kk5 : Mem → Int → Int → Int → Int → Option (Int × Mem)} (hk5 : ∀ {h : PH} (_ : OKM h) {x2 : Int32} {y2 : Int} (_ : x2 = Z3 y2) (_ : r3 y2) {x3 : Int32} {y3 : Int} (_ : x3 = Z3 y3) (_ : r3 y3) {x4 : Int32} {y4 : Int} (_ : x4 = Z3 y4) (_ : r3 y4) {x5 : Int32} {y5 : Int} (_ : x5 = Z3 y5) (_ : r3 y5), SimI OKM (k5 h 0 x2 x3 x4 x5) (kk5 (rd h) y2 y3 y4 y5)) (n : Nat) : ∀ {h : PH} (H : OKM h) {x1i : Int32} {x1 : Int} (ex1 : x1i = Z3 x1) (qx1 : r3 x1) {x2i : Int32} {x2 : Int} (ex2 : x2i = Z3 x2) (qx2 : r3 x2) {x3i : Int32} {x3 : Int} (ex3 : x3i = Z3 x3) (qx3 : r3 x3) {x4i : Int32} {x4 : Int} (ex4 : x4i = Z3 x4) (qx4 : r3 x4) {x5i : Int32} {x5 : Int} (ex5 : x5i = Z3 x5) (qx5 : r3 x5) {x6i : Int32} {x6 : Int} (ex6 : x6i = Z3 x6) (qx6 : r3 x6) {x7i : Int32} {x7 : Int} (ex7 : x7i = Z3 x7) (qx7 : r3 x7), SimI OKM (F12_wordAt_57 k5 n h 0 x1i x2i x3i x4i x5i x6i x7i) (G12_wordAt_57 kk5 n (rd h) x1 x2 x3 x4 x5 x6 x7) := by
  induction n with
  | zero => intros; exact smI_none _
  | succ n ih =>
    intro h H x1i x1 ex1 qx1 x2i x2 ex2 qx2 x3i x3 ex3 qx3 x4i x4 ex4 qx4 x5i x5 ex5 qx5 x6i x6 ex6 qx6 x7i x7 ex7 qx7
    subst ex1 ex2 ex3 ex4 ex5 ex6 ex7
    rw [F12_wordAt_57, G12_wordAt_57]
    refine sm_if (z3_le rfl rfl qx5 qx7) ?_ ?_
    · exact S12_wordAt_104 hk5 H rfl qx1 rfl qx2 rfl qx3 rfl qx4 rfl qx5 rfl qx6
    · refine sm_if (z3_eq rfl l3_0 qx6 lr3_0) ?_ ?_
      · exact S12_wordAt_104 hk5 H rfl qx1 rfl qx2 rfl qx3 rfl qx4 rfl qx5 rfl qx6
      · refine sm_rd (m_gR_12_3 H) ?_
        refine sgxI fun c1 => ?_
        refine sm_rd (m_aI_12_3 H (z3_add rfl rfl) c1).1 ?_
        refine sm_rd (m_gR_12_0 H) ?_
        refine sgxI fun c2 => ?_
        refine sm_rd (m_aI_12_0 H (z3_add rfl rfl) c2).1 ?_
        refine sm_if (z3_eq rfl rfl (m_aI_12_3 H (z3_add rfl rfl) c1).2 (m_aI_12_0 H (z3_add rfl rfl) c2).2) ?_ ?_
        · refine sg3I fun c3 => ?_
          exact ih H rfl qx1 rfl qx2 rfl qx3 rfl qx4 rfl qx5 l3_1 lr3_1 (z3_add rfl l3_1) c3
        · refine sg3I fun c4 => ?_
          exact ih H rfl qx1 rfl qx2 rfl qx3 rfl qx4 rfl qx5 l3_0 lr3_0 (z3_add rfl l3_1) c4
theorem S12_wordAt_18 {k5 : PH → Nat → Int32 → Int32 → Int32 → Int32 → Option (Int32 × PH)} {kk5 : Mem → Int → Int → Int → Int → Option (Int × Mem)} (hk5 : ∀ {h : PH} (_ : OKM h) {x2 : Int32} {y2 : Int} (_ : x2 = Z3 y2) (_ : r3 y2) {x3 : Int32} {y3 : Int} (_ : x3 = Z3 y3) (_ : r3 y3) {x4 : Int32} {y4 : Int} (_ : x4 = Z3 y4) (_ : r3 y4) {x5 : Int32} {y5 : Int} (_ : x5 = Z3 y5) (_ : r3 y5), SimI OKM (k5 h 0 x2 x3 x4 x5) (kk5 (rd h) y2 y3 y4 y5)) (n : Nat) : ∀ {h : PH} (H : OKM h) {x1i : Int32} {x1 : Int} (ex1 : x1i = Z3 x1) (qx1 : r3 x1) {x2i : Int32} {x2 : Int} (ex2 : x2i = Z3 x2) (qx2 : r3 x2) {x3i : Int32} {x3 : Int} (ex3 : x3i = Z3 x3) (qx3 : r3 x3) {x4i : Int32} {x4 : Int} (ex4 : x4i = Z3 x4) (qx4 : r3 x4) {x5i : Int32} {x5 : Int} (ex5 : x5i = Z3 x5) (qx5 : r3 x5), SimI OKM (F12_wordAt_18 k5 n h 0 x1i x2i x3i x4i x5i) (G12_wordAt_18 kk5 n (rd h) x1 x2 x3 x4 x5) := by
  induction n with
  | zero => intros; exact smI_none _
  | succ n ih =>
    intro h H x1i x1 ex1 qx1 x2i x2 ex2 qx2 x3i x3 ex3 qx3 x4i x4 ex4 qx4 x5i x5 ex5 qx5
    subst ex1 ex2 ex3 ex4 ex5
    rw [F12_wordAt_18, G12_wordAt_18]
    refine sm_rd (m_gR_12_3 H) ?_
    refine sgxI fun c1 => ?_
    refine sm_rd (m_aI_12_3 H (z3_add rfl rfl) c1).1 ?_
    refine sm_if (z3_eq rfl l3_32 (m_aI_12_3 H (z3_add rfl rfl) c1).2 lr3_32) ?_ ?_
    · refine sg3I fun c2 => ?_
      refine sm_if (z3_eq rfl (z3_sub rfl rfl) qx5 c2) ?_ ?_
      · exact S12_wordAt_57 hk5 1024 H rfl qx1 rfl qx2 rfl qx3 rfl qx4 rfl qx5 l3_1 lr3_1 l3_0 lr3_0
      · exact S12_wordAt_57 hk5 1024 H rfl qx1 rfl qx2 rfl qx3 rfl qx4 rfl qx5 l3_0 lr3_0 l3_0 lr3_0
    · refine sg3I fun c3 => ?_
      exact ih H rfl qx1 rfl qx2 rfl qx3 rfl qx4 (z3_add rfl l3_1) c3
theorem S12_wordAt_5 (n : Nat) : ∀ {h : PH} (H : OKM h) {x1i : Int32} {x1 : Int} (ex1 : x1i = Z3 x1) (qx1 : r3 x1) {x2i : Int32} {x2 : Int} (ex2 : x2i = Z3 x2) (qx2 : r3 x2) {x3i : Int32} {x3 : Int} (ex3 : x3i = Z3 x3) (qx3 : r3 x3) {x4i : Int32} {x4 : Int} (ex4 : x4i = Z3 x4) (qx4 : r3 x4), SimI OKM (F12_wordAt_5 n h 0 x1i x2i x3i x4i) (G12_wordAt_5 n (rd h) x1 x2 x3 x4) := by
  induction n with
  | zero => intros; exact smI_none _
  | succ n ih =>
    intro h H x1i x1 ex1 qx1 x2i x2 ex2 qx2 x3i x3 ex3 qx3 x4i x4 ex4 qx4
    subst ex1 ex2 ex3 ex4
    rw [F12_wordAt_5, G12_wordAt_5]
    refine sm_rd (m_gR_12_3 H) ?_
    refine sm_rd (m_aL_12_3 H) ?_
    refine sm_if (z3_le rfl rfl lr3_120 qx4) ?_ ?_
    · exact sm_retI H l3_m1 lr3_m1
    · exact S12_wordAt_18 (@fun _ H _ _ ex1 qx1 _ _ ex2 qx2 _ _ ex3 qx3 _ _ ex4 qx4 => ih H ex1 qx1 ex2 qx2 ex3 qx3 ex4 qx4) 1024 H rfl qx1 rfl qx2 rfl qx3 rfl qx4 l3_0 lr3_0
theorem S12_wordAt_0 {h : PH} (H : OKM h) {x1i : Int32} {x1 : Int} (ex1 : x1i = Z3 x1) (qx1 : r3 x1) {x2i : Int32} {x2 : Int} (ex2 : x2i = Z3 x2) (qx2 : r3 x2) : SimI OKM (F12_wordAt_0 h 0 x1i x2i) (G12_wordAt_0 (rd h) x1 x2) := by
  subst ex1 ex2
  unfold F12_wordAt_0 G12_wordAt_0
  exact S12_wordAt_5 1024 H rfl qx1 rfl qx2 l3_0 lr3_0 l3_0 lr3_0
theorem S12_wordAt {h : PH} (H : OKM h) {x1i : Int32} {x1 : Int} (ex1 : x1i = Z3 x1) (qx1 : r3 x1) {x2i : Int32} {x2 : Int} (ex2 : x2i = Z3 x2) (qx2 : r3 x2) : SimI OKM (F12_wordAt h 0 x1i x2i) (G12_wordAt (rd h) x1 x2) := by
  subst ex1 ex2
  unfold F12_wordAt G12_wordAt
  refine sm_cd (m_ok_12 H) ?_
  exact S12_wordAt_0 H rfl qx1 rfl qx2
theorem S12_packed_5 (n : Nat) : ∀ {h : PH} (H : OKM h) {x1i : Int32} {x1 : Int} (ex1 : x1i = Z3 x1) (qx1 : r3 x1) {x2i : Int32} {x2 : Int} (ex2 : x2i = Z3 x2) (qx2 : r3 x2) {x3i : Int32} {x3 : Int} (ex3 : x3i = Z3 x3) (qx3 : r3 x3) {x4i : Int32} {x4 : Int} (ex4 : x4i = Z3 x4) (qx4 : r3 x4), SimI OKM (F12_packed_5 n h 0 x1i x2i x3i x4i) (G12_packed_5 n (rd h) x1 x2 x3 x4) := by
  induction n with
  | zero => intros; exact smI_none _
  | succ n ih =>
    intro h H x1i x1 ex1 qx1 x2i x2 ex2 qx2 x3i x3 ex3 qx3 x4i x4 ex4 qx4
    subst ex1 ex2 ex3 ex4
    rw [F12_packed_5, G12_packed_5]
    refine sg3I fun c1 => ?_
    refine sm_if (z3_le (z3_add rfl l3_6) rfl c1 qx4) ?_ ?_
    · exact sm_retI H rfl qx3
    · refine sm_if (z3_le rfl rfl qx2 qx4) ?_ ?_
      · refine sg3I fun c2 => ?_
        exact ih H rfl qx1 rfl qx2 (z3_or (z3_sl rfl (z3_an l3_5 l3_31)) l3_0) (r3_of _) (z3_add rfl l3_1) c2
      · refine sm_rd (m_gR_12_0 H) ?_
        refine sgxI fun c3 => ?_
        refine sm_rd (m_aI_12_0 H rfl c3).1 ?_
        refine sg3I fun c4 => ?_
        exact ih H rfl qx1 rfl qx2 (z3_or (z3_sl rfl (z3_an l3_5 l3_31)) (z3_sub rfl l3_96)) (r3_of _) (z3_add rfl l3_1) c4
theorem S12_packed_0 {h : PH} (H : OKM h) {x1i : Int32} {x1 : Int} (ex1 : x1i = Z3 x1) (qx1 : r3 x1) {x2i : Int32} {x2 : Int} (ex2 : x2i = Z3 x2) (qx2 : r3 x2) : SimI OKM (F12_packed_0 h 0 x1i x2i) (G12_packed_0 (rd h) x1 x2) := by
  subst ex1 ex2
  unfold F12_packed_0 G12_packed_0
  exact S12_packed_5 1024 H rfl qx1 rfl qx2 l3_0 lr3_0 rfl qx1
theorem S12_packed {h : PH} (H : OKM h) {x1i : Int32} {x1 : Int} (ex1 : x1i = Z3 x1) (qx1 : r3 x1) {x2i : Int32} {x2 : Int} (ex2 : x2i = Z3 x2) (qx2 : r3 x2) : SimI OKM (F12_packed h 0 x1i x2i) (G12_packed (rd h) x1 x2) := by
  subst ex1 ex2
  unfold F12_packed G12_packed
  refine sm_cd (m_ok_12 H) ?_
  exact S12_packed_0 H rfl qx1 rfl qx2
theorem S12_isDigit_0 {h : PH} (H : OKM h) {x1i : Int32} {x1 : Int} (ex1 : x1i = Z3 x1) (qx1 : r3 x1) : SimI OKM (F12_isDigit_0 h 0 x1i) (G12_isDigit_0 (rd h) x1) := by
  subst ex1
  unfold F12_isDigit_0 G12_isDigit_0
  refine sm_rd (m_gI_12_6 H).1 ?_
  refine sm_if (z3_le rfl rfl (m_gI_12_6 H).2 qx1) ?_ ?_
  · exact sm_rz H l3_0 (by decide)
  · refine sm_rd (m_gR_12_0 H) ?_
    refine sgxI fun c1 => ?_
    refine sm_rd (m_aI_12_0 H rfl c1).1 ?_
    refine sm_if (z3_lt rfl l3_48 (m_aI_12_0 H rfl c1).2 lr3_48) ?_ ?_
    · exact sm_rz H l3_0 (by decide)
    · refine sm_rd (m_gR_12_0 H) ?_
      refine sgxI fun c2 => ?_
      refine sm_rd (m_aI_12_0 H rfl c2).1 ?_
      refine sm_if (z3_lt l3_57 rfl lr3_57 (m_aI_12_0 H rfl c2).2) ?_ ?_
      · exact sm_rz H l3_0 (by decide)
      · exact sm_rz H l3_1 (by decide)
theorem S12_isDigit {h : PH} (H : OKM h) {x1i : Int32} {x1 : Int} (ex1 : x1i = Z3 x1) (qx1 : r3 x1) : SimI OKM (F12_isDigit h 0 x1i) (G12_isDigit (rd h) x1) := by
  subst ex1
  unfold F12_isDigit G12_isDigit
  refine sm_cd (m_ok_12 H) ?_
  exact S12_isDigit_0 H rfl qx1
theorem S12_signToken_192 {h : PH} (H : OKM h) {s0i : Int32} {s0 : Int} (es0 : s0i = Z3 s0) (qs0 : r3 s0) : SimV OKM (F12_signToken_192 h s0i 0) (G12_signToken_192 (rd h) s0) := by
  subst es0
  unfold F12_signToken_192 G12_signToken_192
  refine sm_wt (m_pI_12_9 H rfl qs0) fun h1 Hh1 => ?_
  exact sm_retV Hh1
theorem S12_signToken_135 {h : PH} (H : OKM h) {x2i : Int32} {x2 : Int} (ex2 : x2i = Z3 x2) (qx2 : r3 x2) {x3i : Int32} {x3 : Int} (ex3 : x3i = Z3 x3) (qx3 : r3 x3) : SimV OKM (F12_signToken_135 h 0 x2i x3i) (G12_signToken_135 (rd h) x2 x3) := by
  subst ex2 ex3
  unfold F12_signToken_135 G12_signToken_135
  refine sm_wt (m_pI_12_8 H l3_5 lr3_5) fun h1 Hh1 => ?_
  refine sm_rd (m_gI_12_9 Hh1).1 ?_
  refine sm_if (z3_eq rfl l3_61 (m_gI_12_9 Hh1).2 lr3_61) ?_ ?_
  · exact S12_signToken_192 Hh1 l3_2 lr3_2
  · refine sm_rd (m_gI_12_9 Hh1).1 ?_
    refine sm_if (z3_eq rfl l3_60 (m_gI_12_9 Hh1).2 lr3_60) ?_ ?_
    · refine sm_if (z3_eq rfl l3_0 qx2 lr3_0) ?_ ?_
      · refine sm_if (z3_eq rfl l3_0 qx3 lr3_0) ?_ ?_
        · exact S12_signToken_192 Hh1 l3_0 lr3_0
        · exact S12_signToken_192 Hh1 l3_3 lr3_3
      · exact S12_signToken_192 Hh1 l3_1 lr3_1
    · refine sm_if (z3_eq rfl l3_0 qx2 lr3_0) ?_ ?_
      · exact S12_signToken_192 Hh1 l3_5 lr3_5
      · exact S12_signToken_192 Hh1 l3_4 lr3_4
theorem S12_signToken_125 {h : PH} (H : OKM h) {x2i : Int32} {x2 : Int} (ex2 : x2i = Z3 x2) (qx2 : r3 x2) {x3i : Int32} {x3 : Int} (ex3 : x3i = Z3 x3) (qx3 : r3 x3) : SimV OKM (F12_signToken_125 h 0 x2i x3i) (G12_signToken_125 (rd h) x2 x3) := by
  subst ex2 ex3
  unfold F12_signToken_125 G12_signToken_125
  refine sm_rd (m_gI_12_7 H).1 ?_
  refine sg3V fun c1 => ?_
  refine sm_wt (m_pI_12_7 H (z3_add rfl l3_1) c1) fun h3 Hh3 => ?_
  exact S12_signToken_135 Hh3 rfl qx2 rfl qx3
theorem S12_signToken_116 {h : PH} (H : OKM h) {x2i : Int32} {x2 : Int} (ex2 : x2i = Z3 x2) (qx2 : r3 x2) {s0i : Int32} {s0 : Int} (es0 : s0i = Z3 s0) (qs0 : r3 s0) : SimV OKM (F12_signToken_116 h 0 x2i s0i) (G12_signToken_116 (rd h) x2 s0) := by
  subst ex2 es0
  unfold F12_signToken_116 G12_signToken_116
  refine sm_if (z3_eq rfl l3_0 qx2 lr3_0) ?_ ?_
  · refine sm_if (z3_eq rfl l3_0 qs0 lr3_0) ?_ ?_
    · exact S12_signToken_135 H rfl qx2 rfl qs0
    · exact S12_signToken_125 H rfl qx2 rfl qs0
  · exact S12_signToken_125 H rfl qx2 rfl qs0
theorem S12_signToken_115 {h : PH} (H : OKM h) {x2i : Int32} {x2 : Int} (ex2 : x2i = Z3 x2) (qx2 : r3 x2) : SimV OKM (F12_signToken_115 h 0 x2i) (G12_signToken_115 (rd h) x2) := by
  subst ex2
  unfold F12_signToken_115 G12_signToken_115
  exact S12_signToken_116 H rfl qx2 l3_0 lr3_0
theorem S12_signToken_95 {h : PH} (H : OKM h) {x1i : Int32} {x1 : Int} (ex1 : x1i = Z3 x1) (qx1 : r3 x1) {s0i : Int32} {s0 : Int} (es0 : s0i = Z3 s0) (qs0 : r3 s0) : SimV OKM (F12_signToken_95 h 0 x1i s0i) (G12_signToken_95 (rd h) x1 s0) := by
  subst ex1 es0
  unfold F12_signToken_95 G12_signToken_95
  refine sm_rd (m_gI_12_9 H).1 ?_
  refine sm_if (z3_eq rfl l3_60 (m_gI_12_9 H).2 lr3_60) ?_ ?_
  · refine sm_if (z3_eq rfl l3_62 qx1 lr3_62) ?_ ?_
    · exact S12_signToken_116 H rfl qs0 l3_1 lr3_1
    · exact S12_signToken_115 H rfl qs0
  · exact S12_signToken_115 H rfl qs0
theorem S12_signToken_94 {h : PH} (H : OKM h) {x1i : Int32} {x1 : Int} (ex1 : x1i = Z3 x1) (qx1 : r3 x1) : SimV OKM (F12_signToken_94 h 0 x1i) (G12_signToken_94 (rd h) x1) := by
  subst ex1
  unfold F12_signToken_94 G12_signToken_94
  exact S12_signToken_95 H rfl qx1 l3_0 lr3_0
theorem S12_signToken_74 {h : PH} (H : OKM h) {s0i : Int32} {s0 : Int} (es0 : s0i = Z3 s0) (qs0 : r3 s0) : SimV OKM (F12_signToken_74 h 0 s0i) (G12_signToken_74 (rd h) s0) := by
  subst es0
  unfold F12_signToken_74 G12_signToken_74
  refine sm_rd (m_gI_12_9 H).1 ?_
  refine sm_if (z3_eq rfl l3_61 (m_gI_12_9 H).2 lr3_61) ?_ ?_
  · exact S12_signToken_94 H rfl qs0
  · refine sm_if (z3_eq rfl l3_61 qs0 lr3_61) ?_ ?_
    · exact S12_signToken_95 H rfl qs0 l3_1 lr3_1
    · exact S12_signToken_94 H rfl qs0
theorem S12_signToken_50 {h : PH} (H : OKM h) : SimV OKM (F12_signToken_50 h 0) (G12_signToken_50 (rd h)) := by
  unfold F12_signToken_50 G12_signToken_50
  refine sm_rd (m_gI_12_7 H).1 ?_
  refine sm_rd (m_gI_12_6 H).1 ?_
  refine sm_if (z3_le rfl rfl (m_gI_12_6 H).2 (m_gI_12_7 H).2) ?_ ?_
  · exact S12_signToken_74 H l3_0 lr3_0
  · refine sm_rd (m_gR_12_0 H) ?_
    refine sm_rd (m_gI_12_7 H).1 ?_
    refine sgxV fun c1 => ?_
    refine sm_rd (m_aI_12_0 H rfl c1).1 ?_
    exact S12_signToken_74 H rfl ((m_aI_12_0 H rfl c1).2)
theorem S12_signToken_287 {h : PH} (H : OKM h) {s0i : Int32} {s0 : Int} (es0 : s0i = Z3 s0) (qs0 : r3 s0) : SimV OKM (F12_signToken_287 h s0i 0) (G12_signToken_287 (rd h) s0) := by
  subst es0
  unfold F12_signToken_287 G12_signToken_287
  refine sm_wt (m_pI_12_8 H rfl qs0) fun h1 Hh1 => ?_
  exact sm_retV Hh1
theorem S12_signToken_275 {h : PH} (H : OKM h) {s0i : Int32} {s0 : Int} (es0 : s0i = Z3 s0) (qs0 : r3 s0) : SimV OKM (F12_signToken_275 h 0 s0i) (G12_signToken_275 (rd h) s0) := by
  subst es0
  unfold F12_signToken_275 G12_signToken_275
  refine sm_if (z3_eq rfl l3_0 qs0 lr3_0) ?_ ?_
  · exact S12_signToken_287 H l3_6 lr3_6
  · exact S12_signToken_287 H l3_4 lr3_4
theorem S12_signToken_270 {h : PH} (H : OKM h) : SimV OKM (F12_signToken_270 h 0) (G12_signToken_270 (rd h)) := by
  unfold F12_signToken_270 G12_signToken_270
  exact S12_signToken_275 H l3_1 lr3_1
theorem S12_signToken_0 {h : PH} (H : OKM h) : SimV OKM (F12_signToken_0 h 0) (G12_signToken_0 (rd h)) := by
  unfold F12_signToken_0 G12_signToken_0
  refine sm_rd (m_gR_12_0 H) ?_
  refine sm_rd (m_gI_12_7 H).1 ?_
  refine sgxV fun c1 => ?_
  refine sm_rd (m_aI_12_0 H rfl c1).1 ?_
  refine sm_wt (m_pI_12_9 H rfl (m_aI_12_0 H rfl c1).2) fun h7 Hh7 => ?_
  refine sm_rd (m_gI_12_7 Hh7).1 ?_
  refine sg3V fun c2 => ?_
  refine sm_wt (m_pI_12_7 Hh7 (z3_add rfl l3_1) c2) fun h11 Hh11 => ?_
  refine sm_rd (m_gI_12_9 Hh11).1 ?_
  refine sm_if (z3_eq rfl l3_60 (m_gI_12_9 Hh11).2 lr3_60) ?_ ?_
  · exact S12_signToken_50 Hh11
  · refine sm_rd (m_gI_12_9 Hh11).1 ?_
    refine sm_if (z3_eq rfl l3_62 (m_gI_12_9 Hh11).2 lr3_62) ?_ ?_
    · exact S12_signToken_50 Hh11
    · refine sm_rd (m_gI_12_9 Hh11).1 ?_
      refine sm_if (z3_eq rfl l3_61 (m_gI_12_9 Hh11).2 lr3_61) ?_ ?_
      · exact S12_signToken_50 Hh11
      · refine sm_rd (m_gI_12_9 Hh11).1 ?_
        refine sm_if (z3_eq rfl l3_59 (m_gI_12_9 Hh11).2 lr3_59) ?_ ?_
        · exact S12_signToken_270 Hh11
        · refine sm_rd (m_gI_12_9 Hh11).1 ?_
          refine sm_if (z3_eq rfl l3_40 (m_gI_12_9 Hh11).2 lr3_40) ?_ ?_
          · exact S12_signToken_270 Hh11
          · refine sm_rd (m_gI_12_9 Hh11).1 ?_
            refine sm_if (z3_eq rfl l3_41 (m_gI_12_9 Hh11).2 lr3_41) ?_ ?_
            · exact S12_signToken_270 Hh11
            · refine sm_rd (m_gI_12_9 Hh11).1 ?_
              refine sm_if (z3_eq rfl l3_43 (m_gI_12_9 Hh11).2 lr3_43) ?_ ?_
              · exact S12_signToken_270 Hh11
              · refine sm_rd (m_gI_12_9 Hh11).1 ?_
                refine sm_if (z3_eq rfl l3_45 (m_gI_12_9 Hh11).2 lr3_45) ?_ ?_
                · exact S12_signToken_270 Hh11
                · refine sm_rd (m_gI_12_9 Hh11).1 ?_
                  refine sm_if (z3_eq rfl l3_42 (m_gI_12_9 Hh11).2 lr3_42) ?_ ?_
                  · exact S12_signToken_270 Hh11
                  · refine sm_rd (m_gI_12_9 Hh11).1 ?_
                    refine sm_if (z3_eq rfl l3_47 (m_gI_12_9 Hh11).2 lr3_47) ?_ ?_
                    · exact S12_signToken_270 Hh11
                    · refine sm_rd (m_gI_12_9 Hh11).1 ?_
                      refine sm_if (z3_eq rfl l3_37 (m_gI_12_9 Hh11).2 lr3_37) ?_ ?_
                      · exact S12_signToken_270 Hh11
                      · exact S12_signToken_275 Hh11 l3_0 lr3_0
theorem S12_signToken {h : PH} (H : OKM h) : SimV OKM (F12_signToken h 0) (G12_signToken (rd h)) := by
  unfold F12_signToken G12_signToken
  refine sm_cd (m_ok_12 H) ?_
  exact S12_signToken_0 H
theorem S12_token_261 {k213 : PH → Nat → Option PH} {kk213 : Mem → Option Mem} (hk213 : ∀ {h : PH} (_ : OKM h), SimV OKM (k213 h 0) (kk213 (rd h))) {h : PH} (H : OKM h) {s0i : Int32} {s0 : Int} (es0 : s0i = Z3 s0) (qs0 : r3 s0) : SimV OKM (F12_token_261 k213 h 0 s0i 0) (G12_token_261 kk213 (rd h) s0) := by
  subst es0
  unfold F12_token_261 G12_token_261
  refine sm_wt (m_pI_12_9 H rfl qs0) fun h1 Hh1 => ?_
  refine sm_rd (m_gI_12_7 Hh1).1 ?_
  refine sg3V fun c1 => ?_
  refine sm_wt (m_pI_12_7 Hh1 (z3_add rfl l3_1) c1) fun h5 Hh5 => ?_
  exact hk213 Hh5
theorem S12_token_213 (n : Nat) : ∀ {h : PH} (H : OKM h), SimV OKM (F12_token_213 n h 0) (G12_token_213 n (rd h)) := by
  induction n with
  | zero => intros; exact smV_none _
  | succ n ih =>
    intro h H
    rw [F12_token_213, G12_token_213]
    refine sm_rd (m_gI_12_7 H).1 ?_
    refine sm_IV (S12_isDigit H rfl ((m_gI_12_7 H).2)) fun vo3 ho3 Ho3 ro3 => ?_
    refine sm_if (z3_eq rfl l3_0 ro3 lr3_0) ?_ ?_
    · exact sm_retV Ho3
    · refine sm_rd (m_gI_12_9 Ho3).1 ?_
      refine sm_if (z3_le rfl l3_99999 (m_gI_12_9 Ho3).2 lr3_99999) ?_ ?_
      · refine sm_rd (m_gI_12_9 Ho3).1 ?_
        refine sm_rd (m_gR_12_0 Ho3) ?_
        refine sm_rd (m_gI_12_7 Ho3).1 ?_
        refine sgxV fun c1 => ?_
        refine sm_rd (m_aI_12_0 Ho3 rfl c1).1 ?_
        refine sg3V fun c2 => ?_
        exact S12_token_261 (@fun _ H => ih H) Ho3 (z3_sub (z3_add (z3_mul l3_10 rfl) rfl) l3_48) c2
      · refine sm_rd (m_gI_12_9 Ho3).1 ?_
        exact S12_token_261 (@fun _ H => ih H) Ho3 rfl ((m_gI_12_9 Ho3).2)
theorem S12_token_162 {h : PH} (H : OKM h) {s0i : Int32} {s0 : Int} (es0 : s0i = Z3 s0) (qs0 : r3 s0) : SimV OKM (F12_token_162 h 0 s0i 0) (G12_token_162 (rd h) s0) := by
  subst es0
  unfold F12_token_162 G12_token_162
  refine sm_wt (m_pI_12_8 H rfl qs0) fun h1 Hh1 => ?_
  refine sm_rd (m_gI_12_8 Hh1).1 ?_
  refine sm_if (z3_eq rfl l3_2 (m_gI_12_8 Hh1).2 lr3_2) ?_ ?_
  · refine sm_rd (m_gI_12_10 Hh1).1 ?_
    refine sm_rd (m_gI_12_7 Hh1).1 ?_
    refine sm_IV (S12_packed Hh1 rfl ((m_gI_12_10 Hh1).2) rfl ((m_gI_12_7 Hh1).2)) fun vo10 ho10 Ho10 ro10 => ?_
    refine sm_wt (m_pI_12_9 Ho10 rfl ro10) fun h12 Hh12 => ?_
    exact sm_retV Hh12
  · exact sm_retV Hh1
theorem S12_token_90 (n : Nat) : ∀ {h : PH} (H : OKM h), SimV OKM (F12_token_90 n h 0) (G12_token_90 n (rd h)) := by
  induction n with
  | zero => intros; exact smV_none _
  | succ n ih =>
    intro h H
    rw [F12_token_90, G12_token_90]
    refine sm_rd (m_gI_12_7 H).1 ?_
    refine sm_IV (S12_isSmall H rfl ((m_gI_12_7 H).2)) fun vo3 ho3 Ho3 ro3 => ?_
    refine sm_if (z3_eq rfl l3_0 ro3 lr3_0) ?_ ?_
    · refine sm_rd (m_gI_12_10 Ho3).1 ?_
      refine sm_rd (m_gI_12_7 Ho3).1 ?_
      refine sm_IV (S12_wordAt Ho3 rfl ((m_gI_12_10 Ho3).2) rfl ((m_gI_12_7 Ho3).2)) fun vo10 ho10 Ho10 ro10 => ?_
      refine sm_wt (m_pI_12_9 Ho10 rfl ro10) fun h12 Hh12 => ?_
      refine sm_rd (m_gI_12_9 Hh12).1 ?_
      refine sm_if (z3_lt rfl l3_0 (m_gI_12_9 Hh12).2 lr3_0) ?_ ?_
      · refine sm_rd (m_gI_12_7 Hh12).1 ?_
        refine sm_rd (m_gI_12_10 Hh12).1 ?_
        refine sg3V fun c1 => ?_
        refine sm_if (z3_le (z3_sub rfl rfl) l3_6 c1 lr3_6) ?_ ?_
        · exact S12_token_162 Hh12 l3_2 lr3_2
        · exact S12_token_162 Hh12 l3_6 lr3_6
      · exact S12_token_162 Hh12 l3_1 lr3_1
    · refine sm_rd (m_gI_12_7 Ho3).1 ?_
      refine sg3V fun c2 => ?_
      refine sm_wt (m_pI_12_7 Ho3 (z3_add rfl l3_1) c2) fun h24 Hh24 => ?_
      exact ih Hh24
theorem S12_token_52 {h : PH} (H : OKM h) : SimV OKM (F12_token_52 h 0) (G12_token_52 (rd h)) := by
  unfold F12_token_52 G12_token_52
  refine sm_rd (m_gI_12_7 H).1 ?_
  refine sm_wt (m_pI_12_10 H rfl (m_gI_12_7 H).2) fun h3 Hh3 => ?_
  refine sm_rd (m_gI_12_7 Hh3).1 ?_
  refine sm_rd (m_gI_12_6 Hh3).1 ?_
  refine sm_if (z3_eq rfl rfl (m_gI_12_7 Hh3).2 (m_gI_12_6 Hh3).2) ?_ ?_
  · refine sm_wt (m_pI_12_8 Hh3 l3_0 lr3_0) fun h26 Hh26 => ?_
    exact sm_retV Hh26
  · refine sm_rd (m_gI_12_7 Hh3).1 ?_
    refine sm_IV (S12_isSmall Hh3 rfl ((m_gI_12_7 Hh3).2)) fun vo12 ho12 Ho12 ro12 => ?_
    refine sm_if (z3_eq rfl l3_0 ro12 lr3_0) ?_ ?_
    · refine sm_rd (m_gI_12_7 Ho12).1 ?_
      refine sm_IV (S12_isDigit Ho12 rfl ((m_gI_12_7 Ho12).2)) fun vo17 ho17 Ho17 ro17 => ?_
      refine sm_if (z3_eq rfl l3_0 ro17 lr3_0) ?_ ?_
      · refine sm_VV (S12_signToken Ho17) fun ho20 Ho20 => ?_
        exact sm_retV Ho20
      · refine sm_wt (m_pI_12_8 Ho17 l3_3 lr3_3) fun h22 Hh22 => ?_
        refine sm_wt (m_pI_12_9 Hh22 l3_0 lr3_0) fun h24 Hh24 => ?_
        exact S12_token_213 1024 Hh24
    · exact S12_token_90 1024 Ho12
theorem S12_token_39 {k0 : PH → Nat → Option PH} {kk0 : Mem → Option Mem} (hk0 : ∀ {h : PH} (_ : OKM h), SimV OKM (k0 h 0) (kk0 (rd h))) {h : PH} (H : OKM h) : SimV OKM (F12_token_39 k0 h 0) (G12_token_39 kk0 (rd h)) := by
  unfold F12_token_39 G12_token_39
  refine sm_rd (m_gI_12_7 H).1 ?_
  refine sg3V fun c1 => ?_
  refine sm_wt (m_pI_12_7 H (z3_add rfl l3_1) c1) fun h3 Hh3 => ?_
  exact hk0 Hh3
theorem S12_token_0 (n : Nat) : ∀ {h : PH} (H : OKM h), SimV OKM (F12_token_0 n h 0) (G12_token_0 n (rd h)) := by
  induction n with
  | zero => intros; exact smV_none _
  | succ n ih =>
    intro h H
    rw [F12_token_0, G12_token_0]
    refine sm_rd (m_gI_12_7 H).1 ?_
    refine sm_rd (m_gI_12_6 H).1 ?_
    refine sm_if (z3_le rfl rfl (m_gI_12_6 H).2 (m_gI_12_7 H).2) ?_ ?_
    · exact S12_token_52 H
    · refine sm_rd (m_gR_12_0 H) ?_
      refine sm_rd (m_gI_12_7 H).1 ?_
      refine sgxV fun c1 => ?_
      refine sm_rd (m_aI_12_0 H rfl c1).1 ?_
      refine sm_if (z3_eq rfl l3_10 (m_aI_12_0 H rfl c1).2 lr3_10) ?_ ?_
      · exact S12_token_39 (@fun _ H => ih H) H
      · refine sm_rd (m_gR_12_0 H) ?_
        refine sm_rd (m_gI_12_7 H).1 ?_
        refine sgxV fun c2 => ?_
        refine sm_rd (m_aI_12_0 H rfl c2).1 ?_
        refine sm_if (z3_eq rfl l3_32 (m_aI_12_0 H rfl c2).2 lr3_32) ?_ ?_
        · exact S12_token_39 (@fun _ H => ih H) H
        · exact S12_token_52 H
theorem S12_token {h : PH} (H : OKM h) : SimV OKM (F12_token h 0) (G12_token (rd h)) := by
  unfold F12_token G12_token
  refine sm_cd (m_ok_12 H) ?_
  exact S12_token_0 1024 H
theorem S12_wrong_0 {h : PH} (H : OKM h) {x1i : Int32} {x1 : Int} (ex1 : x1i = Z3 x1) (qx1 : r3 x1) : SimI OKM (F12_wrong_0 h 0 x1i) (G12_wrong_0 (rd h) x1) := by
  subst ex1
  unfold F12_wrong_0 G12_wrong_0
  refine sm_wt (m_pI_12_4 H rfl qx1) fun h1 Hh1 => ?_
  refine sm_rd (m_gI_12_10 Hh1).1 ?_
  refine sm_wt (m_pI_12_5 Hh1 rfl (m_gI_12_10 Hh1).2) fun h5 Hh5 => ?_
  exact sm_rz Hh5 l3_0 (by decide)
theorem S12_wrong {h : PH} (H : OKM h) {x1i : Int32} {x1 : Int} (ex1 : x1i = Z3 x1) (qx1 : r3 x1) : SimI OKM (F12_wrong h 0 x1i) (G12_wrong (rd h) x1) := by
  subst ex1
  unfold F12_wrong G12_wrong
  refine sm_cd (m_ok_12 H) ?_
  exact S12_wrong_0 H rfl qx1
theorem S12_isIn_0 {h : PH} (H : OKM h) {x0i : Int32} {x0 : Int} (ex0 : x0i = Z3 x0) (qx0 : r3 x0) {x1i : Int32} {x1 : Int} (ex1 : x1i = Z3 x1) (qx1 : r3 x1) {x2i : Int32} {x2 : Int} (ex2 : x2i = Z3 x2) (qx2 : r3 x2) : SimI OKM (F12_isIn_0 h x0i x1i x2i) (G12_isIn_0 (rd h) x0 x1 x2) := by
  subst ex0 ex1 ex2
  unfold F12_isIn_0 G12_isIn_0
  refine sm_if (z3_lt rfl rfl qx0 qx1) ?_ ?_
  · exact sm_rz H l3_0 (by decide)
  · refine sm_if (z3_lt rfl rfl qx2 qx0) ?_ ?_
    · exact sm_rz H l3_0 (by decide)
    · exact sm_rz H l3_1 (by decide)
theorem S12_isIn {h : PH} (H : OKM h) {x0i : Int32} {x0 : Int} (ex0 : x0i = Z3 x0) (qx0 : r3 x0) {x1i : Int32} {x1 : Int} (ex1 : x1i = Z3 x1) (qx1 : r3 x1) {x2i : Int32} {x2 : Int} (ex2 : x2i = Z3 x2) (qx2 : r3 x2) : SimI OKM (F12_isIn h x0i x1i x2i) (G12_isIn (rd h) x0 x1 x2) := by
  subst ex0 ex1 ex2
  unfold F12_isIn G12_isIn
  exact S12_isIn_0 H rfl qx0 rfl qx1 rfl qx2
theorem S12_number_0 {h : PH} (H : OKM h) {x1i : Int32} {x1 : Int} (ex1 : x1i = Z3 x1) (qx1 : r3 x1) {x2i : Int32} {x2 : Int} (ex2 : x2i = Z3 x2) (qx2 : r3 x2) : SimI OKM (F12_number_0 h 0 x1i x2i) (G12_number_0 (rd h) x1 x2) := by
  subst ex1 ex2
  unfold F12_number_0 G12_number_0
  refine sm_rd (m_gI_12_8 H).1 ?_
  refine sm_if (z3_eq rfl l3_3 (m_gI_12_8 H).2 lr3_3) ?_ ?_
  · refine sm_rd (m_gI_12_9 H).1 ?_
    refine sm_II (S12_isIn H rfl ((m_gI_12_9 H).2) rfl qx1 rfl qx2) fun vo6 ho6 Ho6 ro6 => ?_
    refine sm_if (z3_eq rfl l3_0 ro6 lr3_0) ?_ ?_
    · refine sm_II (S12_wrong Ho6 l3_2 lr3_2) fun vo15 ho15 Ho15 ro15 => ?_
      refine sgbI fun c1 => ?_
      exact sm_rz Ho15 rfl c1
    · refine sm_rd (m_gI_12_9 Ho6).1 ?_
      refine sm_wt (m_pI_12_11 Ho6 rfl (m_gI_12_9 Ho6).2) fun h11 Hh11 => ?_
      refine sm_VI (S12_token Hh11) fun ho13 Ho13 => ?_
      exact sm_rz Ho13 l3_1 (by decide)
  · refine sm_II (S12_wrong H l3_1 lr3_1) fun vo17 ho17 Ho17 ro17 => ?_
    refine sgbI fun c2 => ?_
    exact sm_rz Ho17 rfl c2
theorem S12_number {h : PH} (H : OKM h) {x1i : Int32} {x1 : Int} (ex1 : x1i = Z3 x1) (qx1 : r3 x1) {x2i : Int32} {x2 : Int} (ex2 : x2i = Z3 x2) (qx2 : r3 x2) : SimI OKM (F12_number h 0 x1i x2i) (G12_number (rd h) x1 x2) := by
  subst ex1 ex2
  unfold F12_number G12_number
  refine sm_cd (m_ok_12 H) ?_
  exact S12_number_0 H rfl qx1 rfl qx2
theorem S12_bankLine_0 {h : PH} (H : OKM h) : SimI OKM (F12_bankLine_0 h 0) (G12_bankLine_0 (rd h)) := by
  unfold F12_bankLine_0 G12_bankLine_0
  refine sm_VI (S12_token H) fun ho1 Ho1 => ?_
  refine sm_II (S12_number Ho1 l3_1 lr3_1 l3_20 lr3_20) fun vo3 ho3 Ho3 ro3 => ?_
  refine sm_if (z3_eq rfl l3_0 ro3 lr3_0) ?_ ?_
  · exact sm_rz Ho3 l3_0 (by decide)
  · refine sm_rd (m_gR_12_26 Ho3) ?_
    refine sm_rd (m_gI_12_11 Ho3).1 ?_
    refine sm_wt (m_sI_12_26 Ho3 l3_9 ⟨by decide, by decide⟩ rfl (m_gI_12_11 Ho3).2) fun h11 Hh11 => ?_
    refine sm_II (S12_number Hh11 l3_1 lr3_1 l3_20 lr3_20) fun vo12 ho12 Ho12 ro12 => ?_
    refine sm_if (z3_eq rfl l3_0 ro12 lr3_0) ?_ ?_
    · exact sm_rz Ho12 l3_0 (by decide)
    · refine sm_rd (m_gR_12_26 Ho12) ?_
      refine sm_rd (m_gI_12_11 Ho12).1 ?_
      refine sm_wt (m_sI_12_26 Ho12 l3_10 ⟨by decide, by decide⟩ rfl (m_gI_12_11 Ho12).2) fun h20 Hh20 => ?_
      refine sm_II (S12_number Hh20 l3_1 lr3_1 l3_9 lr3_9) fun vo21 ho21 Ho21 ro21 => ?_
      refine sm_if (z3_eq rfl l3_0 ro21 lr3_0) ?_ ?_
      · exact sm_rz Ho21 l3_0 (by decide)
      · refine sm_rd (m_gR_12_26 Ho21) ?_
        refine sm_rd (m_gI_12_11 Ho21).1 ?_
        refine sm_wt (m_sI_12_26 Ho21 l3_11 ⟨by decide, by decide⟩ rfl (m_gI_12_11 Ho21).2) fun h29 Hh29 => ?_
        exact sm_rz Hh29 l3_1 (by decide)
theorem S12_bankLine {h : PH} (H : OKM h) : SimI OKM (F12_bankLine h 0) (G12_bankLine (rd h)) := by
  unfold F12_bankLine G12_bankLine
  refine sm_cd (m_ok_12 H) ?_
  exact S12_bankLine_0 H
theorem S12_begin_60 (n : Nat) : ∀ {h : PH} (H : OKM h) {x1i : Int32} {x1 : Int} (ex1 : x1i = Z3 x1) (qx1 : r3 x1), SimV OKM (F12_begin_60 n h 0 x1i) (G12_begin_60 n (rd h) x1) := by
  induction n with
  | zero => intros; exact smV_none _
  | succ n ih =>
    intro h H x1i x1 ex1 qx1
    subst ex1
    rw [F12_begin_60, G12_begin_60]
    refine sm_if (z3_le l3_28 rfl lr3_28 qx1) ?_ ?_
    · refine sm_rd (m_gR_12_61 H) ?_
      refine sm_wt (m_sI_12_61 H l3_0 ⟨by decide, by decide⟩ l3_0 lr3_0) fun h5 Hh5 => ?_
      refine sm_rd (m_gR_12_62 Hh5) ?_
      refine sm_wt (m_sI_12_62 Hh5 l3_0 ⟨by decide, by decide⟩ l3_0 lr3_0) fun h9 Hh9 => ?_
      refine sm_rd (m_gR_12_63 Hh9) ?_
      refine sm_wt (m_sI_12_63 Hh9 l3_0 ⟨by decide, by decide⟩ l3_0 lr3_0) fun h13 Hh13 => ?_
      refine sm_rd (m_gR_12_26 Hh13) ?_
      refine sm_rd (m_aI_12_26 Hh13 l3_5 ⟨by decide, by decide⟩).1 ?_
      refine sm_wt (m_pI_12_64 Hh13 rfl (m_aI_12_26 Hh13 l3_5 ⟨by decide, by decide⟩).2) fun h18 Hh18 => ?_
      refine sm_rd (m_gR_12_26 Hh18) ?_
      refine sm_rd (m_aI_12_26 Hh18 l3_6 ⟨by decide, by decide⟩).1 ?_
      refine sm_wt (m_pJ_12_65 Hh18 (z3_to6 rfl (m_aI_12_26 Hh18 l3_6 ⟨by decide, by decide⟩).2) (r3_6 (m_aI_12_26 Hh18 l3_6 ⟨by decide, by decide⟩).2)) fun h24 Hh24 => ?_
      refine sm_wt (m_pI_12_66 Hh24 l3_m1 lr3_m1) fun h26 Hh26 => ?_
      refine sm_wt (m_pI_12_74 Hh26 l3_0 lr3_0) fun h28 Hh28 => ?_
      refine sm_wt (m_pI_12_75 Hh28 l3_m1 lr3_m1) fun h30 Hh30 => ?_
      refine sm_wt (m_pI_12_78 Hh30 l3_0 lr3_0) fun h32 Hh32 => ?_
      refine sm_wt (m_pZ_12_80 Hh32 l3_0 (by decide)) fun h34 Hh34 => ?_
      exact sm_retV Hh34
    · refine sm_rd (m_gR_12_60 H) ?_
      refine sgxV fun c1 => ?_
      refine sm_wt (m_sI_12_60 H rfl c1 l3_m2 lr3_m2) fun h39 Hh39 => ?_
      refine sg3V fun c2 => ?_
      exact ih Hh39 (z3_add rfl l3_1) c2
theorem S12_begin_2 (n : Nat) : ∀ {h : PH} (H : OKM h) {x1i : Int32} {x1 : Int} (ex1 : x1i = Z3 x1) (qx1 : r3 x1), SimV OKM (F12_begin_2 n h 0 x1i) (G12_begin_2 n (rd h) x1) := by
  induction n with
  | zero => intros; exact smV_none _
  | succ n ih =>
    intro h H x1i x1 ex1 qx1
    subst ex1
    rw [F12_begin_2, G12_begin_2]
    refine sm_if (z3_le l3_5 rfl lr3_5 qx1) ?_ ?_
    · exact S12_begin_60 1024 H l3_0 lr3_0
    · refine sm_rd (m_gR_12_55 H) ?_
      refine sm_rd (m_gR_12_28 H) ?_
      refine sgxV fun c1 => ?_
      refine sm_rd (m_aI_12_28 H rfl c1).1 ?_
      refine sgxV fun c2 => ?_
      refine sm_wt (m_sI_12_55 H rfl c2 rfl (m_aI_12_28 H rfl c1).2) fun h9 Hh9 => ?_
      refine sm_rd (m_gR_12_56 Hh9) ?_
      refine sgxV fun c3 => ?_
      refine sm_wt (m_sI_12_56 Hh9 rfl c3 l3_0 lr3_0) fun h13 Hh13 => ?_
      refine sm_rd (m_gR_12_57 Hh13) ?_
      refine sgxV fun c4 => ?_
      refine sm_wt (m_sI_12_57 Hh13 rfl c4 l3_0 lr3_0) fun h17 Hh17 => ?_
      refine sm_rd (m_gR_12_58 Hh17) ?_
      refine sgxV fun c5 => ?_
      refine sm_wt (m_sI_12_58 Hh17 rfl c5 l3_0 lr3_0) fun h21 Hh21 => ?_
      refine sm_rd (m_gR_12_59 Hh21) ?_
      refine sm_rd (m_gR_12_30 Hh21) ?_
      refine sgxV fun c6 => ?_
      refine sm_rd (m_aI_12_30 Hh21 rfl c6).1 ?_
      refine sgxV fun c7 => ?_
      refine sm_wt (m_sI_12_59 Hh21 rfl c7 rfl (m_aI_12_30 Hh21 rfl c6).2) fun h29 Hh29 => ?_
      refine sg3V fun c8 => ?_
      exact ih Hh29 (z3_add rfl l3_1) c8
theorem S12_begin_0 {h : PH} (H : OKM h) : SimV OKM (F12_begin_0 h 0) (G12_begin_0 (rd h)) := by
  unfold F12_begin_0 G12_begin_0
  exact S12_begin_2 1024 H l3_0 lr3_0
theorem S12_begin {h : PH} (H : OKM h) : SimV OKM (F12_begin h 0) (G12_begin (rd h)) := by
  unfold F12_begin G12_begin
  refine sm_cd (m_ok_12 H) ?_
  exact S12_begin_0 H
theorem S12_beginsFrom_2 (n : Nat) : ∀ {h : PH} (H : OKM h) {x1i : Int32} {x1 : Int} (ex1 : x1i = Z3 x1) (qx1 : r3 x1) {x2i : Int32} {x2 : Int} (ex2 : x2i = Z3 x2) (qx2 : r3 x2), SimI OKM (F12_beginsFrom_2 n h 0 x1i x2i) (G12_beginsFrom_2 n (rd h) x1 x2) := by
  induction n with
  | zero => intros; exact smI_none _
  | succ n ih =>
    intro h H x1i x1 ex1 qx1 x2i x2 ex2 qx2
    subst ex1 ex2
    rw [F12_beginsFrom_2, G12_beginsFrom_2]
    refine sm_rd (m_gI_12_15 H).1 ?_
    refine sm_if (z3_le rfl rfl (m_gI_12_15 H).2 qx2) ?_ ?_
    · exact sm_retI H l3_m1 lr3_m1
    · refine sm_rd (m_gR_12_34 H) ?_
      refine sm_rd (m_gR_12_33 H) ?_
      refine sgxI fun c1 => ?_
      refine sm_rd (m_aI_12_33 H rfl c1).1 ?_
      refine sgxI fun c2 => ?_
      refine sm_rd (m_aI_12_34 H rfl c2).1 ?_
      refine sm_if (z3_lt rfl rfl (m_aI_12_34 H rfl c2).2 qx1) ?_ ?_
      · refine sg3I fun c3 => ?_
        exact ih H rfl qx1 (z3_add rfl l3_1) c3
      · refine sm_rd (m_gR_12_34 H) ?_
        refine sm_rd (m_gR_12_33 H) ?_
        refine sgxI fun c4 => ?_
        refine sm_rd (m_aI_12_33 H rfl c4).1 ?_
        refine sgxI fun c5 => ?_
        refine sm_rd (m_aI_12_34 H rfl c5).1 ?_
        exact sm_retI H rfl (m_aI_12_34 H rfl c5).2
theorem S12_beginsFrom_0 {h : PH} (H : OKM h) {x1i : Int32} {x1 : Int} (ex1 : x1i = Z3 x1) (qx1 : r3 x1) : SimI OKM (F12_beginsFrom_0 h 0 x1i) (G12_beginsFrom_0 (rd h) x1) := by
  subst ex1
  unfold F12_beginsFrom_0 G12_beginsFrom_0
  exact S12_beginsFrom_2 1024 H rfl qx1 l3_0 lr3_0
theorem S12_beginsFrom {h : PH} (H : OKM h) {x1i : Int32} {x1 : Int} (ex1 : x1i = Z3 x1) (qx1 : r3 x1) : SimI OKM (F12_beginsFrom h 0 x1i) (G12_beginsFrom (rd h) x1) := by
  subst ex1
  unfold F12_beginsFrom G12_beginsFrom
  refine sm_cd (m_ok_12 H) ?_
  exact S12_beginsFrom_0 H rfl qx1
theorem S12_beside_51 {h : PH} (H : OKM h) {x3i : Int32} {x3 : Int} (ex3 : x3i = Z3 x3) (qx3 : r3 x3) {s0i : Int32} {s0 : Int} (es0 : s0i = Z3 s0) (qs0 : r3 s0) {s1i : Int32} {s1 : Int} (es1 : s1i = Z3 s1) (qs1 : r3 s1) : SimI OKM (F12_beside_51 h 0 x3i s0i s1i) (G12_beside_51 (rd h) x3 s0 s1) := by
  subst ex3 es0 es1
  unfold F12_beside_51 G12_beside_51
  refine sm_rd (m_gI_12_12 H).1 ?_
  refine sg3I fun c1 => ?_
  refine sm_II (S12_isIn H rfl qx3 l3_0 lr3_0 (z3_sub rfl l3_1) c1) fun vo3 ho3 Ho3 ro3 => ?_
  refine sm_if (z3_eq rfl l3_0 ro3 lr3_0) ?_ ?_
  · exact sm_retI Ho3 l3_m1 lr3_m1
  · refine sm_rd (m_gI_12_13 Ho3).1 ?_
    refine sg3I fun c2 => ?_
    refine sg3I fun c3 => ?_
    refine sm_II (S12_isIn Ho3 (z3_add rfl rfl) c2 l3_0 lr3_0 (z3_sub rfl l3_1) c3) fun vo8 ho8 Ho8 ro8 => ?_
    refine sm_if (z3_eq rfl l3_0 ro8 lr3_0) ?_ ?_
    · exact sm_retI Ho8 l3_m1 lr3_m1
    · refine sm_rd (m_gI_12_12 Ho8).1 ?_
      refine sg3I fun c4 => ?_
      exact sm_retI Ho8 (z3_add (z3_mul rfl (z3_add rfl rfl)) rfl) c4
theorem S12_beside_25 {h : PH} (H : OKM h) {x1i : Int32} {x1 : Int} (ex1 : x1i = Z3 x1) (qx1 : r3 x1) {x2i : Int32} {x2 : Int} (ex2 : x2i = Z3 x2) (qx2 : r3 x2) {s0i : Int32} {s0 : Int} (es0 : s0i = Z3 s0) (qs0 : r3 s0) {s1i : Int32} {s1 : Int} (es1 : s1i = Z3 s1) (qs1 : r3 s1) : SimI OKM (F12_beside_25 h 0 x1i x2i s0i s1i) (G12_beside_25 (rd h) x1 x2 s0 s1) := by
  subst ex1 ex2 es0 es1
  unfold F12_beside_25 G12_beside_25
  refine sm_rd (m_gI_12_12 H).1 ?_
  refine sm_if (z3_eq rfl l3_0 (m_gI_12_12 H).2 lr3_0) ?_ ?_
  · exact smI_none _
  · refine sm_if (z3_eq rfl l3_2 qx2 lr3_2) ?_ ?_
    · refine sg3I fun c1 => ?_
      refine sgdI fun c2 => ?_
      exact S12_beside_51 H (z3_add rfl rfl) c1 l3_1 lr3_1 (z3_div rfl rfl qx1 (m_gI_12_12 H).2 c2) (r3_div qx1 (m_gI_12_12 H).2 c2)
    · refine sm_if (z3_eq rfl l3_0 qx2 lr3_0) ?_ ?_
      · refine sg3I fun c3 => ?_
        refine sgdI fun c4 => ?_
        exact S12_beside_51 H (z3_add rfl rfl) c3 l3_m1 lr3_m1 (z3_div rfl rfl qx1 (m_gI_12_12 H).2 c4) (r3_div qx1 (m_gI_12_12 H).2 c4)
      · refine sg3I fun c5 => ?_
        refine sgdI fun c6 => ?_
        exact S12_beside_51 H (z3_add rfl rfl) c5 l3_0 lr3_0 (z3_div rfl rfl qx1 (m_gI_12_12 H).2 c6) (r3_div qx1 (m_gI_12_12 H).2 c6)
theorem S12_beside_0 {h : PH} (H : OKM h) {x1i : Int32} {x1 : Int} (ex1 : x1i = Z3 x1) (qx1 : r3 x1) {x2i : Int32} {x2 : Int} (ex2 : x2i = Z3 x2) (qx2 : r3 x2) : SimI OKM (F12_beside_0 h 0 x1i x2i) (G12_beside_0 (rd h) x1 x2) := by
  subst ex1 ex2
  unfold F12_beside_0 G12_beside_0
  refine sm_rd (m_gI_12_12 H).1 ?_
  refine sm_if (z3_eq rfl l3_0 (m_gI_12_12 H).2 lr3_0) ?_ ?_
  · exact smI_none _
  · refine sm_if (z3_eq rfl l3_1 qx2 lr3_1) ?_ ?_
    · refine sgdI fun c1 => ?_
      exact S12_beside_25 H rfl qx1 rfl qx2 l3_1 lr3_1 (z3_rem rfl rfl qx1 (m_gI_12_12 H).2 c1) (r3_rem qx1 (m_gI_12_12 H).2 c1)
    · refine sm_if (z3_eq rfl l3_3 qx2 lr3_3) ?_ ?_
      · refine sgdI fun c2 => ?_
        exact S12_beside_25 H rfl qx1 rfl qx2 l3_m1 lr3_m1 (z3_rem rfl rfl qx1 (m_gI_12_12 H).2 c2) (r3_rem qx1 (m_gI_12_12 H).2 c2)
      · refine sgdI fun c3 => ?_
        exact S12_beside_25 H rfl qx1 rfl qx2 l3_0 lr3_0 (z3_rem rfl rfl qx1 (m_gI_12_12 H).2 c3) (r3_rem qx1 (m_gI_12_12 H).2 c3)
theorem S12_beside {h : PH} (H : OKM h) {x1i : Int32} {x1 : Int} (ex1 : x1i = Z3 x1) (qx1 : r3 x1) {x2i : Int32} {x2 : Int} (ex2 : x2i = Z3 x2) (qx2 : r3 x2) : SimI OKM (F12_beside h 0 x1i x2i) (G12_beside (rd h) x1 x2) := by
  subst ex1 ex2
  unfold F12_beside G12_beside
  refine sm_cd (m_ok_12 H) ?_
  exact S12_beside_0 H rfl qx1 rfl qx2
theorem S12_isSurfer_0 {h : PH} (H : OKM h) {x1i : Int32} {x1 : Int} (ex1 : x1i = Z3 x1) (qx1 : r3 x1) : SimI OKM (F12_isSurfer_0 h 0 x1i) (G12_isSurfer_0 (rd h) x1) := by
  subst ex1
  unfold F12_isSurfer_0 G12_isSurfer_0
  refine sm_if (z3_lt rfl l3_0 qx1 lr3_0) ?_ ?_
  · exact sm_rz H l3_0 (by decide)
  · refine sm_rd (m_gI_12_14 H).1 ?_
    refine sm_if (z3_le rfl rfl (m_gI_12_14 H).2 qx1) ?_ ?_
    · exact sm_rz H l3_0 (by decide)
    · exact sm_rz H l3_1 (by decide)
theorem S12_isSurfer {h : PH} (H : OKM h) {x1i : Int32} {x1 : Int} (ex1 : x1i = Z3 x1) (qx1 : r3 x1) : SimI OKM (F12_isSurfer h 0 x1i) (G12_isSurfer (rd h) x1) := by
  subst ex1
  unfold F12_isSurfer G12_isSurfer
  refine sm_cd (m_ok_12 H) ?_
  exact S12_isSurfer_0 H rfl qx1
theorem S12_cells_0 {h : PH} (H : OKM h) : SimI OKM (F12_cells_0 h 0) (G12_cells_0 (rd h)) := by
  unfold F12_cells_0 G12_cells_0
  refine sm_rd (m_gI_12_12 H).1 ?_
  refine sm_rd (m_gI_12_13 H).1 ?_
  refine sg3I fun c1 => ?_
  exact sm_retI H (z3_mul rfl rfl) c1
theorem S12_cells {h : PH} (H : OKM h) : SimI OKM (F12_cells h 0) (G12_cells (rd h)) := by
  unfold F12_cells G12_cells
  refine sm_cd (m_ok_12 H) ?_
  exact S12_cells_0 H
theorem S12_gainOf_0 {h : PH} (H : OKM h) {x1i : Int32} {x1 : Int} (ex1 : x1i = Z3 x1) (qx1 : r3 x1) {x2i : Int32} {x2 : Int} (ex2 : x2i = Z3 x2) (qx2 : r3 x2) {x3i : Int32} {x3 : Int} (ex3 : x3i = Z3 x3) (qx3 : r3 x3) : SimI OKM (F12_gainOf_0 h 0 x1i x2i x3i) (G12_gainOf_0 (rd h) x1 x2 x3) := by
  subst ex1 ex2 ex3
  unfold F12_gainOf_0 G12_gainOf_0
  refine sm_II (S12_oddsOf H rfl qx1 rfl qx2 rfl qx3) fun vo1 ho1 Ho1 ro1 => ?_
  refine sm_rd (m_gR_12_35 Ho1) ?_
  refine sgxI fun c1 => ?_
  refine sm_rd (m_aI_12_35 Ho1 rfl c1).1 ?_
  refine sg3I fun c2 => ?_
  exact sm_retI Ho1 (z3_mul rfl rfl) c2
theorem S12_gainOf {h : PH} (H : OKM h) {x1i : Int32} {x1 : Int} (ex1 : x1i = Z3 x1) (qx1 : r3 x1) {x2i : Int32} {x2 : Int} (ex2 : x2i = Z3 x2) (qx2 : r3 x2) {x3i : Int32} {x3 : Int} (ex3 : x3i = Z3 x3) (qx3 : r3 x3) : SimI OKM (F12_gainOf h 0 x1i x2i x3i) (G12_gainOf (rd h) x1 x2 x3) := by
  subst ex1 ex2 ex3
  unfold F12_gainOf G12_gainOf
  refine sm_cd (m_ok_12 H) ?_
  exact S12_gainOf_0 H rfl qx1 rfl qx2 rfl qx3
theorem S12_seatFrom_6 (n : Nat) : ∀ {h : PH} (H : OKM h) {x1i : Int32} {x1 : Int} (ex1 : x1i = Z3 x1) (qx1 : r3 x1) {x2i : Int32} {x2 : Int} (ex2 : x2i = Z3 x2) (qx2 : r3 x2) {x3i : Int32} {x3 : Int} (ex3 : x3i = Z3 x3) (qx3 : r3 x3) {x4i : Int32} {x4 : Int} (ex4 : x4i = Z3 x4) (qx4 : r3 x4) {x5i : Int32} {x5 : Int} (ex5 : x5i = Z3 x5) (qx5 : r3 x5), SimI OKM (F12_seatFrom_6 n h 0 x1i x2i x3i x4i x5i) (G12_seatFrom_6 n (rd h) x1 x2 x3 x4 x5) := by
  induction n with
  | zero => intros; exact smI_none _
  | succ n ih =>
    intro h H x1i x1 ex1 qx1 x2i x2 ex2 qx2 x3i x3 ex3 qx3 x4i x4 ex4 qx4 x5i x5 ex5 qx5
    subst ex1 ex2 ex3 ex4 ex5
    rw [F12_seatFrom_6, G12_seatFrom_6]
    refine sm_rd (m_gI_12_16 H).1 ?_
    refine sm_if (z3_le rfl rfl (m_gI_12_16 H).2 qx5) ?_ ?_
    · exact sm_retI H rfl qx4
    · refine sm_rd (m_gR_12_34 H) ?_
      refine sgxI fun c1 => ?_
      refine sm_rd (m_aI_12_34 H rfl c1).1 ?_
      refine sm_if (z3_lt rfl rfl (m_aI_12_34 H rfl c1).2 qx3) ?_ ?_
      · refine sg3I fun c2 => ?_
        refine sg3I fun c3 => ?_
        exact ih H rfl qx1 rfl qx2 rfl qx3 (z3_add rfl l3_0) c2 (z3_add rfl l3_1) c3
      · refine sm_II (S12_gainOf H rfl qx1 rfl qx5 rfl qx2) fun vo9 ho9 Ho9 ro9 => ?_
        refine sg3I fun c4 => ?_
        refine sg3I fun c5 => ?_
        exact ih Ho9 rfl qx1 rfl qx2 rfl qx3 (z3_add rfl rfl) c4 (z3_add rfl l3_1) c5
