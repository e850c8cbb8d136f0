/-! The pure functions do so (written by wip/gen/gx.py). -/
theorem S0_isRest_66 {k26 : PH → Nat → Int32 → Int32 → Int32 → Option (Int32 × PH)} {kk26 : Mem → Int → Int → Int → Option (Int × Mem)} (hk26 : ∀ {h : PH} (_ : OKX h) {x2 : Int32} {y2 : Int} (_ : x2 = Z3 y2) (_ : r3 y2) {x3 : Int32} {y3 : Int} (_ : x3 = Z3 y3) (_ : r3 y3) {x4 : Int32} {y4 : Int} (_ : x4 = Z3 y4) (_ : r3 y4), SimI OKX (k26 h 99 x2 x3 x4) (kk26 (rd h) y2 y3 y4)) {h : PH} (H : OKX h) {x1i : Int32} {x1 : Int} (ex1 : x1i = Z3 x1) (qx1 : r3 x1) {x2i : Int32} {x2 : Int} (ex2 : x2i = Z3 x2) (qx2 : r3 x2) {x3i : Int32} {x3 : Int} (ex3 : x3i = Z3 x3) (qx3 : r3 x3) : SimI OKX (F0_isRest_66 k26 h 99 x1i x2i x3i) (G0_isRest_66 kk26 (rd h) x1 x2 x3) := by
  subst ex1 ex2 ex3
  unfold F0_isRest_66 G0_isRest_66
  refine sm_rd (x_gR_0_0 H) ?_
  refine sgxI fun c1 => ?_
  refine sm_rd (x_aI_0_0 H (z3_add l3_5 rfl) c1).1 ?_
  refine sm_if (z3_eq rfl l3_m1 (x_aI_0_0 H (z3_add l3_5 rfl) c1).2 lr3_m1) ?_ ?_
  · refine sg3I fun c2 => ?_
    exact hk26 H rfl qx1 rfl qx2 (z3_add rfl l3_1) c2
  · refine sm_rd (x_gR_0_4 H) ?_
    refine sgxI fun c3 => ?_
    refine sm_rd (x_aI_0_4 H (z3_add (z3_mul rfl l3_5) rfl) c3).1 ?_
    refine sm_rd (x_gR_0_4 H) ?_
    refine sgxI fun c4 => ?_
    refine sm_rd (x_aI_0_4 H (z3_add (z3_mul rfl l3_5) rfl) c4).1 ?_
    refine sm_if (z3_le rfl rfl (x_aI_0_4 H (z3_add (z3_mul rfl l3_5) rfl) c3).2 (x_aI_0_4 H (z3_add (z3_mul rfl l3_5) rfl) c4).2) ?_ ?_
    · refine sg3I fun c5 => ?_
      exact hk26 H rfl qx1 rfl qx2 (z3_add rfl l3_1) c5
    · exact sm_rz H l3_0 (by decide)
theorem S0_isRest_26 (n : Nat) : ∀ {h : PH} (H : OKX h) {x1i : Int32} {x1 : Int} (ex1 : x1i = Z3 x1) (qx1 : r3 x1) {x2i : Int32} {x2 : Int} (ex2 : x2i = Z3 x2) (qx2 : r3 x2) {x3i : Int32} {x3 : Int} (ex3 : x3i = Z3 x3) (qx3 : r3 x3), SimI OKX (F0_isRest_26 n h 99 x1i x2i x3i) (G0_isRest_26 n (rd h) x1 x2 x3) := by
  induction n with
  | zero => intros; exact smI_none _
  | succ n ih =>
    intro h H x1i x1 ex1 qx1 x2i x2 ex2 qx2 x3i x3 ex3 qx3
    subst ex1 ex2 ex3
    rw [F0_isRest_26, G0_isRest_26]
    refine sm_if (z3_le l3_5 rfl lr3_5 qx3) ?_ ?_
    · exact sm_rz H l3_1 (by decide)
    · refine sm_rd (x_gR_0_0 H) ?_
      refine sgxI fun c1 => ?_
      refine sm_rd (x_aI_0_0 H rfl c1).1 ?_
      refine sm_if (z3_eq rfl l3_m1 (x_aI_0_0 H rfl c1).2 lr3_m1) ?_ ?_
      · exact S0_isRest_66 (@fun _ H _ _ ex1 qx1 _ _ ex2 qx2 _ _ ex3 qx3 => ih H ex1 qx1 ex2 qx2 ex3 qx3) H rfl qx1 rfl qx2 rfl qx3
      · refine sm_rd (x_gR_0_3 H) ?_
        refine sgxI fun c2 => ?_
        refine sm_rd (x_aI_0_3 H (z3_add (z3_mul rfl l3_5) rfl) c2).1 ?_
        refine sm_rd (x_gR_0_3 H) ?_
        refine sgxI fun c3 => ?_
        refine sm_rd (x_aI_0_3 H (z3_add (z3_mul rfl l3_5) rfl) c3).1 ?_
        refine sm_if (z3_le rfl rfl (x_aI_0_3 H (z3_add (z3_mul rfl l3_5) rfl) c2).2 (x_aI_0_3 H (z3_add (z3_mul rfl l3_5) rfl) c3).2) ?_ ?_
        · exact S0_isRest_66 (@fun _ H _ _ ex1 qx1 _ _ ex2 qx2 _ _ ex3 qx3 => ih H ex1 qx1 ex2 qx2 ex3 qx3) H rfl qx1 rfl qx2 rfl qx3
        · exact sm_rz H l3_0 (by decide)
theorem S0_isRest_0 {h : PH} (H : OKX h) {x1i : Int32} {x1 : Int} (ex1 : x1i = Z3 x1) (qx1 : r3 x1) {x2i : Int32} {x2 : Int} (ex2 : x2i = Z3 x2) (qx2 : r3 x2) : SimI OKX (F0_isRest_0 h 99 x1i x2i) (G0_isRest_0 (rd h) x1 x2) := by
  subst ex1 ex2
  unfold F0_isRest_0 G0_isRest_0
  refine sm_rd (x_gR_0_0 H) ?_
  refine sgxI fun c1 => ?_
  refine sm_rd (x_aI_0_0 H rfl c1).1 ?_
  refine sm_if (z3_eq rfl l3_m1 (x_aI_0_0 H rfl c1).2 lr3_m1) ?_ ?_
  · exact sm_rz H l3_0 (by decide)
  · refine sm_rd (x_gR_0_0 H) ?_
    refine sgxI fun c2 => ?_
    refine sm_rd (x_aI_0_0 H (z3_add l3_5 rfl) c2).1 ?_
    refine sm_if (z3_eq rfl l3_m1 (x_aI_0_0 H (z3_add l3_5 rfl) c2).2 lr3_m1) ?_ ?_
    · exact sm_rz H l3_0 (by decide)
    · exact S0_isRest_26 1024 H rfl qx1 rfl qx2 l3_0 lr3_0
theorem S0_isRest {h : PH} (H : OKX h) {x1i : Int32} {x1 : Int} (ex1 : x1i = Z3 x1) (qx1 : r3 x1) {x2i : Int32} {x2 : Int} (ex2 : x2i = Z3 x2) (qx2 : r3 x2) : SimI OKX (F0_isRest h 99 x1i x2i) (G0_isRest (rd h) x1 x2) := by
  subst ex1 ex2
  unfold F0_isRest G0_isRest
  refine sm_cd (x_ok_0 H) ?_
  exact S0_isRest_0 H rfl qx1 rfl qx2
theorem S0_findRests_14 {k7 : PH → Nat → Int32 → Option PH} {kk7 : Mem → Int → Option Mem} (hk7 : ∀ {h : PH} (_ : OKX h) {x2 : Int32} {y2 : Int} (_ : x2 = Z3 y2) (_ : r3 y2), SimV OKX (k7 h 99 x2) (kk7 (rd h) y2)) (n : Nat) : ∀ {h : PH} (H : OKX h) {x1i : Int32} {x1 : Int} (ex1 : x1i = Z3 x1) (qx1 : r3 x1) {x2i : Int32} {x2 : Int} (ex2 : x2i = Z3 x2) (qx2 : r3 x2), SimV OKX (F0_findRests_14 k7 n h 99 x1i x2i) (G0_findRests_14 kk7 n (rd h) x1 x2) := by
  induction n with
  | zero => intros; exact smV_none _
  | succ n ih =>
    intro h H x1i x1 ex1 qx1 x2i x2 ex2 qx2
    subst ex1 ex2
    rw [F0_findRests_14, G0_findRests_14]
    refine sm_if (z3_le l3_5 rfl lr3_5 qx2) ?_ ?_
    · refine sg3V fun c1 => ?_
      exact hk7 H (z3_add rfl l3_1) c1
    · refine sm_IV (S0_isRest H rfl qx1 rfl qx2) fun vo2 ho2 Ho2 ro2 => ?_
      refine sm_if (z3_eq rfl l3_0 ro2 lr3_0) ?_ ?_
      · refine sg3V fun c2 => ?_
        exact ih Ho2 rfl qx1 (z3_add rfl l3_1) c2
      · refine sm_rd (x_gR_0_5 Ho2) ?_
        refine sm_rd (x_gI_0_6 Ho2).1 ?_
        refine sgxV fun c3 => ?_
        refine sm_rd (gw_rd rfl c3).1 ?_
        refine sgxV fun c4 => ?_
        refine sm_rd (gw_rd rfl c4).1 ?_
        refine sgxV fun c5 => ?_
        refine sg3V fun c6 => ?_
        refine sm_wt (x_sI_0_5 Ho2 rfl c5 (z3_add (z3_mul l3_10 rfl) rfl) c6) fun h18 Hh18 => ?_
        refine sm_rd (x_gI_0_6 Hh18).1 ?_
        refine sg3V fun c7 => ?_
        refine sm_wt (x_pI_0_6 Hh18 (z3_add rfl l3_1) c7) fun h21 Hh21 => ?_
        refine sg3V fun c8 => ?_
        exact ih Hh21 rfl qx1 (z3_add rfl l3_1) c8
theorem S0_findRests_7 (n : Nat) : ∀ {h : PH} (H : OKX h) {x1i : Int32} {x1 : Int} (ex1 : x1i = Z3 x1) (qx1 : r3 x1), SimV OKX (F0_findRests_7 n h 99 x1i) (G0_findRests_7 n (rd h) x1) := by
  induction n with
  | zero => intros; exact smV_none _
  | succ n ih =>
    intro h H x1i x1 ex1 qx1
    subst ex1
    rw [F0_findRests_7, G0_findRests_7]
    refine sm_if (z3_le l3_5 rfl lr3_5 qx1) ?_ ?_
    · exact sm_retV H
    · exact S0_findRests_14 (@fun _ H _ _ ex1 qx1 => ih H ex1 qx1) 1024 H rfl qx1 l3_0 lr3_0
theorem S0_findRests_0 {h : PH} (H : OKX h) : SimV OKX (F0_findRests_0 h 99) (G0_findRests_0 (rd h)) := by
  unfold F0_findRests_0 G0_findRests_0
  refine sm_wt (x_pI_0_6 H l3_0 lr3_0) fun h1 Hh1 => ?_
  exact S0_findRests_7 1024 Hh1 l3_0 lr3_0
theorem S0_findRests {h : PH} (H : OKX h) : SimV OKX (F0_findRests h 99) (G0_findRests (rd h)) := by
  unfold F0_findRests G0_findRests
  refine sm_cd (x_ok_0 H) ?_
  exact S0_findRests_0 H
theorem S0_listPlan_10 (n : Nat) : ∀ {h : PH} (H : OKX h) {x2i : Int32} {x2 : Int} (ex2 : x2i = Z3 x2) (qx2 : r3 x2) {x3i : Int32} {x3 : Int} (ex3 : x3i = Z3 x3) (qx3 : r3 x3) {x4i : Int32} {x4 : Int} (ex4 : x4i = Z3 x4) (qx4 : r3 x4), SimV OKX (F0_listPlan_10 n h 99 x2i x3i x4i) (G0_listPlan_10 n (rd h) x2 x3 x4) := by
  induction n with
  | zero => intros; exact smV_none _
  | succ n ih =>
    intro h H x2i x2 ex2 qx2 x3i x3 ex3 qx3 x4i x4 ex4 qx4
    subst ex2 ex3 ex4
    rw [F0_listPlan_10, G0_listPlan_10]
    refine sm_if (z3_le rfl rfl qx2 qx4) ?_ ?_
    · exact sm_retV H
    · refine sm_if (z3_lt rfl rfl qx4 qx3) ?_ ?_
      · refine sg3V fun c1 => ?_
        exact ih H rfl qx2 rfl qx3 (z3_add rfl l3_1) c1
      · refine sm_rd (x_gR_0_9 H) ?_
        refine sgxV fun c2 => ?_
        refine sm_rd (x_aI_0_9 H rfl c2).1 ?_
        refine sm_if (z3_eq rfl l3_0 (x_aI_0_9 H rfl c2).2 lr3_0) ?_ ?_
        · refine sg3V fun c3 => ?_
          exact ih H rfl qx2 rfl qx3 (z3_add rfl l3_1) c3
        · refine sm_rd (x_gR_0_10 H) ?_
          refine sm_rd (x_gI_0_11 H).1 ?_
          refine sgxV fun c4 => ?_
          refine sm_wt (x_sI_0_10 H rfl c4 rfl qx4) fun h13 Hh13 => ?_
          refine sm_rd (x_gI_0_11 Hh13).1 ?_
          refine sg3V fun c5 => ?_
          refine sm_wt (x_pI_0_11 Hh13 (z3_add rfl l3_1) c5) fun h16 Hh16 => ?_
          refine sm_rd (x_gR_0_8 Hh16) ?_
          refine sgxV fun c6 => ?_
          refine sm_rd (x_aI_0_8 Hh16 rfl c6).1 ?_
          refine sg3V fun c7 => ?_
          exact ih Hh16 rfl qx2 rfl ((x_aI_0_8 Hh16 rfl c6).2) (z3_add rfl l3_1) c7
theorem S0_listPlan_0 {h : PH} (H : OKX h) {x1i : Int32} {x1 : Int} (ex1 : x1i = Z3 x1) (qx1 : r3 x1) {x2i : Int32} {x2 : Int} (ex2 : x2i = Z3 x2) (qx2 : r3 x2) : SimV OKX (F0_listPlan_0 h 99 x1i x2i) (G0_listPlan_0 (rd h) x1 x2) := by
  subst ex1 ex2
  unfold F0_listPlan_0 G0_listPlan_0
  refine sm_wt (x_pI_0_11 H l3_0 lr3_0) fun h1 Hh1 => ?_
  exact S0_listPlan_10 1024 Hh1 rfl qx2 rfl qx1 rfl qx1
theorem S0_listPlan {h : PH} (H : OKX h) {x1i : Int32} {x1 : Int} (ex1 : x1i = Z3 x1) (qx1 : r3 x1) {x2i : Int32} {x2 : Int} (ex2 : x2i = Z3 x2) (qx2 : r3 x2) : SimV OKX (F0_listPlan h 99 x1i x2i) (G0_listPlan (rd h) x1 x2) := by
  subst ex1 ex2
  unfold F0_listPlan G0_listPlan
  refine sm_cd (x_ok_0 H) ?_
  exact S0_listPlan_0 H rfl qx1 rfl qx2
theorem S10_firstFrom_2 (n : Nat) : ∀ {h : PH} (H : OKX h) {a0 : Nat} (ha0 : A10 a0) {x1i : Int32} {x1 : Int} (ex1 : x1i = Z3 x1) (qx1 : r3 x1) {x2i : Int32} {x2 : Int} (ex2 : x2i = Z3 x2) (qx2 : r3 x2), SimI OKX (F10_firstFrom_2 n h a0 x1i x2i) (G10_firstFrom_2 n (rd h) a0 x1 x2) := by
  induction n with
  | zero => intros; exact smI_none _
  | succ n ih =>
    intro h H a0 ha0 x1i x1 ex1 qx1 x2i x2 ex2 qx2
    subst ex1 ex2
    rw [F10_firstFrom_2, G10_firstFrom_2]
    refine sm_rd (x_gI_10_1 H ha0).1 ?_
    refine sm_if (z3_le rfl rfl (x_gI_10_1 H ha0).2 qx2) ?_ ?_
    · refine sm_rd (x_gI_10_1 H ha0).1 ?_
      exact sm_retI H rfl (x_gI_10_1 H ha0).2
    · refine sm_rd (x_gR_10_4 H ha0) ?_
      refine sgxI fun c1 => ?_
      refine sm_rd (x_aI_10_4 H (ao_10_4 ha0) rfl c1).1 ?_
      refine sm_if (z3_lt rfl rfl (x_aI_10_4 H (ao_10_4 ha0) rfl c1).2 qx1) ?_ ?_
      · refine sg3I fun c2 => ?_
        exact ih H ha0 rfl qx1 (z3_add rfl l3_1) c2
      · exact sm_retI H rfl qx2
theorem S10_firstFrom_0 {h : PH} (H : OKX h) {a0 : Nat} (ha0 : A10 a0) {x1i : Int32} {x1 : Int} (ex1 : x1i = Z3 x1) (qx1 : r3 x1) : SimI OKX (F10_firstFrom_0 h a0 x1i) (G10_firstFrom_0 (rd h) a0 x1) := by
  subst ex1
  unfold F10_firstFrom_0 G10_firstFrom_0
  exact S10_firstFrom_2 1024 H ha0 rfl qx1 l3_0 lr3_0
theorem S10_firstFrom {h : PH} (H : OKX h) {a0 : Nat} (ha0 : A10 a0) {x1i : Int32} {x1 : Int} (ex1 : x1i = Z3 x1) (qx1 : r3 x1) : SimI OKX (F10_firstFrom h a0 x1i) (G10_firstFrom (rd h) a0 x1) := by
  subst ex1
  unfold F10_firstFrom G10_firstFrom
  refine sm_cd (x_ok_10 H ha0) ?_
  exact S10_firstFrom_0 H ha0 rfl qx1
theorem S6_nameAway_0 {h : PH} (H : OKX h) {a0 : Nat} (ha0 : A6 a0) {x1i : Int32} {x1 : Int} (ex1 : x1i = Z3 x1) (qx1 : r3 x1) {x2i : Int32} {x2 : Int} (ex2 : x2i = Z3 x2) (qx2 : r3 x2) : SimV OKX (F6_nameAway_0 h a0 x1i x2i) (G6_nameAway_0 (rd h) a0 x1 x2) := by
  subst ex1 ex2
  unfold F6_nameAway_0 G6_nameAway_0
  refine sm_rd (x_gR_6_4 H ha0) ?_
  refine sm_wt (x_sJ_6_4 H (ao_6_4 ha0) l3_0 ⟨by decide, by decide⟩ l6_0 lr6_0) fun h4 Hh4 => ?_
  refine sm_rd (x_gR_6_4 Hh4 ha0) ?_
  refine sm_wt (x_sJ_6_4 Hh4 (ao_6_4 ha0) l3_1 ⟨by decide, by decide⟩ l6_0 lr6_0) fun h8 Hh8 => ?_
  refine sm_rd (x_gR_6_4 Hh8 ha0) ?_
  refine sm_rd (x_gR_6_1 Hh8 ha0) ?_
  refine sgxV fun c1 => ?_
  refine sm_rd (x_aI_6_1 Hh8 (ao_6_1 ha0) rfl c1).1 ?_
  refine sm_wt (x_sJ_6_4 Hh8 (ao_6_4 ha0) l3_2 ⟨by decide, by decide⟩ (z3_to6 rfl (x_aI_6_1 Hh8 (ao_6_1 ha0) rfl c1).2) (r3_6 (x_aI_6_1 Hh8 (ao_6_1 ha0) rfl c1).2)) fun h16 Hh16 => ?_
  refine sm_rd (x_gR_6_4 Hh16 ha0) ?_
  refine sm_rd (x_gR_6_0 Hh16 ha0) ?_
  refine sm_rd (x_gR_8_5 Hh16 (x_v_6_0 Hh16 ha0)) ?_
  refine sm_rd (x_gR_10_5 Hh16 (ao_8_5 (x_v_6_0 Hh16 ha0))) ?_
  refine sgxV fun c2 => ?_
  refine sm_rd (x_aI_10_5 Hh16 (ao_10_5 (ao_8_5 (x_v_6_0 Hh16 ha0))) rfl c2).1 ?_
  refine sm_wt (x_sJ_6_4 Hh16 (ao_6_4 ha0) l3_3 ⟨by decide, by decide⟩ (z3_to6 rfl (x_aI_10_5 Hh16 (ao_10_5 (ao_8_5 (x_v_6_0 Hh16 ha0))) rfl c2).2) (r3_6 (x_aI_10_5 Hh16 (ao_10_5 (ao_8_5 (x_v_6_0 Hh16 ha0))) rfl c2).2)) fun h28 Hh28 => ?_
  refine sm_rd (x_gR_6_4 Hh28 ha0) ?_
  refine sm_rd (x_gR_6_0 Hh28 ha0) ?_
  refine sm_rd (x_gR_8_5 Hh28 (x_v_6_0 Hh28 ha0)) ?_
  refine sm_rd (x_gR_10_4 Hh28 (ao_8_5 (x_v_6_0 Hh28 ha0))) ?_
  refine sgxV fun c3 => ?_
  refine sm_rd (x_aI_10_4 Hh28 (ao_10_4 (ao_8_5 (x_v_6_0 Hh28 ha0))) rfl c3).1 ?_
  refine sm_wt (x_sJ_6_4 Hh28 (ao_6_4 ha0) l3_4 ⟨by decide, by decide⟩ (z3_to6 rfl (x_aI_10_4 Hh28 (ao_10_4 (ao_8_5 (x_v_6_0 Hh28 ha0))) rfl c3).2) (r3_6 (x_aI_10_4 Hh28 (ao_10_4 (ao_8_5 (x_v_6_0 Hh28 ha0))) rfl c3).2)) fun h40 Hh40 => ?_
  refine sm_rd (x_gR_6_4 Hh40 ha0) ?_
  refine sm_rd (x_gR_6_0 Hh40 ha0) ?_
  refine sm_rd (x_gR_8_5 Hh40 (x_v_6_0 Hh40 ha0)) ?_
  refine sm_rd (x_gR_10_7 Hh40 (ao_8_5 (x_v_6_0 Hh40 ha0))) ?_
  refine sgxV fun c4 => ?_
  refine sm_rd (x_aI_10_7 Hh40 (ao_10_7 (ao_8_5 (x_v_6_0 Hh40 ha0))) rfl c4).1 ?_
  refine sm_wt (x_sJ_6_4 Hh40 (ao_6_4 ha0) l3_5 ⟨by decide, by decide⟩ (z3_to6 rfl (x_aI_10_7 Hh40 (ao_10_7 (ao_8_5 (x_v_6_0 Hh40 ha0))) rfl c4).2) (r3_6 (x_aI_10_7 Hh40 (ao_10_7 (ao_8_5 (x_v_6_0 Hh40 ha0))) rfl c4).2)) fun h52 Hh52 => ?_
  exact sm_retV Hh52
theorem S6_nameAway {h : PH} (H : OKX h) {a0 : Nat} (ha0 : A6 a0) {x1i : Int32} {x1 : Int} (ex1 : x1i = Z3 x1) (qx1 : r3 x1) {x2i : Int32} {x2 : Int} (ex2 : x2i = Z3 x2) (qx2 : r3 x2) : SimV OKX (F6_nameAway h a0 x1i x2i) (G6_nameAway (rd h) a0 x1 x2) := by
  subst ex1 ex2
  unfold F6_nameAway G6_nameAway
  refine sm_cd (x_ok_6 H ha0) ?_
  exact S6_nameAway_0 H ha0 rfl qx1 rfl qx2
theorem S2_oneIf_0 {h : PH} (H : OKX h) {x0i : Int32} {x0 : Int} (ex0 : x0i = Z3 x0) (qx0 : r3 x0) : SimJ OKX (F2_oneIf_0 h x0i) (G2_oneIf_0 (rd h) x0) := by
  subst ex0
  unfold F2_oneIf_0 G2_oneIf_0
  refine sm_if (z3_eq rfl l3_0 qx0 lr3_0) ?_ ?_
  · exact sm_retJ H l6_0 lr6_0
  · exact sm_retJ H l6_1 lr6_1
theorem S2_oneIf {h : PH} (H : OKX h) {x0i : Int32} {x0 : Int} (ex0 : x0i = Z3 x0) (qx0 : r3 x0) : SimJ OKX (F2_oneIf h x0i) (G2_oneIf (rd h) x0) := by
  subst ex0
  unfold F2_oneIf G2_oneIf
  exact S2_oneIf_0 H rfl qx0
theorem S2_product_26 {h : PH} (H : OKX h) {j0i : Int64} {j0 : Int} (ej0 : j0i = Z6 j0) (qj0 : r6 j0) {j2i : Int64} {j2 : Int} (ej2 : j2i = Z6 j2) (qj2 : r6 j2) {j4i : Int64} {j4 : Int} (ej4 : j4i = Z6 j4) (qj4 : r6 j4) {t0i : Int64} {t0 : Int} (et0 : t0i = Z6 t0) (qt0 : r6 t0) : SimJ OKX (F2_product_26 h j0i j2i j4i t0i) (G2_product_26 (rd h) j0 j2 j4 t0) := by
  subst ej0 ej2 ej4 et0
  unfold F2_product_26 G2_product_26
  refine sm_if (cmp_le rfl l6_0 qt0 lr6_0) ?_ ?_
  · refine sg6J fun c1 => ?_
    exact sm_retJ H (z6_mul rfl rfl) c1
  · refine sm_if (z6_eq rfl l6_0 qt0 lr6_0) ?_ ?_
    · exact smJ_none _
    · refine sg6J fun c2 => ?_
      refine sm_if (cmp_le rfl (z6_div l6_1000000000000 rfl lr6_1000000000000 qt0) qj4 c2) ?_ ?_
      · refine sg6J fun c3 => ?_
        exact sm_retJ H (z6_mul rfl rfl) c3
      · exact sm_retJ H l6_m9223372036854775808 lr6_m9223372036854775808
theorem S2_product_12 {h : PH} (H : OKX h) {j0i : Int64} {j0 : Int} (ej0 : j0i = Z6 j0) (qj0 : r6 j0) {j2i : Int64} {j2 : Int} (ej2 : j2i = Z6 j2) (qj2 : r6 j2) {t0i : Int64} {t0 : Int} (et0 : t0i = Z6 t0) (qt0 : r6 t0) : SimJ OKX (F2_product_12 h j0i j2i t0i) (G2_product_12 (rd h) j0 j2 t0) := by
  subst ej0 ej2 et0
  unfold F2_product_12 G2_product_12
  refine sm_if (cmp_ge rfl l6_0 qj2 lr6_0) ?_ ?_
  · exact S2_product_26 H rfl qj0 rfl qj2 rfl qt0 rfl qj2
  · refine sg6J fun c1 => ?_
    exact S2_product_26 H rfl qj0 rfl qj2 rfl qt0 (z6_neg rfl) c1
theorem S2_product_0 {h : PH} (H : OKX h) {j0i : Int64} {j0 : Int} (ej0 : j0i = Z6 j0) (qj0 : r6 j0) {j2i : Int64} {j2 : Int} (ej2 : j2i = Z6 j2) (qj2 : r6 j2) : SimJ OKX (F2_product_0 h j0i j2i) (G2_product_0 (rd h) j0 j2) := by
  subst ej0 ej2
  unfold F2_product_0 G2_product_0
  refine sm_if (cmp_ge rfl l6_0 qj0 lr6_0) ?_ ?_
  · exact S2_product_12 H rfl qj0 rfl qj2 rfl qj0
  · refine sg6J fun c1 => ?_
    exact S2_product_12 H rfl qj0 rfl qj2 (z6_neg rfl) c1
theorem S2_product {h : PH} (H : OKX h) {j0i : Int64} {j0 : Int} (ej0 : j0i = Z6 j0) (qj0 : r6 j0) {j2i : Int64} {j2 : Int} (ej2 : j2i = Z6 j2) (qj2 : r6 j2) : SimJ OKX (F2_product h j0i j2i) (G2_product (rd h) j0 j2) := by
  subst ej0 ej2
  unfold F2_product G2_product
  exact S2_product_0 H rfl qj0 rfl qj2
theorem S2_join_134 {h : PH} (H : OKX h) {s0i : Int32} {s0 : Int} (es0 : s0i = Z3 s0) (qs0 : r3 s0) : SimJ OKX (F2_join_134 h s0i) (G2_join_134 (rd h) s0) := by
  subst es0
  unfold F2_join_134 G2_join_134
  refine sm_JJ (S2_oneIf H rfl qs0) fun vo1 ho1 Ho1 ro1 => ?_
  exact sm_retJ Ho1 rfl ro1
theorem S2_join_133 {h : PH} (H : OKX h) : SimJ OKX (F2_join_133 h) (G2_join_133 (rd h)) := by
  unfold F2_join_133 G2_join_133
  exact S2_join_134 H l3_0 lr3_0
theorem S2_join_113 {h : PH} (H : OKX h) {s0i : Int32} {s0 : Int} (es0 : s0i = Z3 s0) (qs0 : r3 s0) : SimJ OKX (F2_join_113 h s0i) (G2_join_113 (rd h) s0) := by
  subst es0
  unfold F2_join_113 G2_join_113
  refine sm_JJ (S2_oneIf H rfl qs0) fun vo1 ho1 Ho1 ro1 => ?_
  exact sm_retJ Ho1 rfl ro1
theorem S2_join_108 {h : PH} (H : OKX h) : SimJ OKX (F2_join_108 h) (G2_join_108 (rd h)) := by
  unfold F2_join_108 G2_join_108
  exact S2_join_113 H l3_1 lr3_1
theorem S2_join_149 {h : PH} (H : OKX h) {s0i : Int32} {s0 : Int} (es0 : s0i = Z3 s0) (qs0 : r3 s0) : SimJ OKX (F2_join_149 h s0i) (G2_join_149 (rd h) s0) := by
  subst es0
  unfold F2_join_149 G2_join_149
  refine sm_JJ (S2_oneIf H rfl qs0) fun vo1 ho1 Ho1 ro1 => ?_
  exact sm_retJ Ho1 rfl ro1
theorem S2_join_164 {h : PH} (H : OKX h) {s0i : Int32} {s0 : Int} (es0 : s0i = Z3 s0) (qs0 : r3 s0) : SimJ OKX (F2_join_164 h s0i) (G2_join_164 (rd h) s0) := by
  subst es0
  unfold F2_join_164 G2_join_164
  refine sm_JJ (S2_oneIf H rfl qs0) fun vo1 ho1 Ho1 ro1 => ?_
  exact sm_retJ Ho1 rfl ro1
theorem S2_join_179 {h : PH} (H : OKX h) {s0i : Int32} {s0 : Int} (es0 : s0i = Z3 s0) (qs0 : r3 s0) : SimJ OKX (F2_join_179 h s0i) (G2_join_179 (rd h) s0) := by
  subst es0
  unfold F2_join_179 G2_join_179
  refine sm_JJ (S2_oneIf H rfl qs0) fun vo1 ho1 Ho1 ro1 => ?_
  exact sm_retJ Ho1 rfl ro1
theorem S2_join_194 {h : PH} (H : OKX h) {s0i : Int32} {s0 : Int} (es0 : s0i = Z3 s0) (qs0 : r3 s0) : SimJ OKX (F2_join_194 h s0i) (G2_join_194 (rd h) s0) := by
  subst es0
  unfold F2_join_194 G2_join_194
  refine sm_JJ (S2_oneIf H rfl qs0) fun vo1 ho1 Ho1 ro1 => ?_
  exact sm_retJ Ho1 rfl ro1
theorem S2_join_209 {h : PH} (H : OKX h) {s0i : Int32} {s0 : Int} (es0 : s0i = Z3 s0) (qs0 : r3 s0) : SimJ OKX (F2_join_209 h s0i) (G2_join_209 (rd h) s0) := by
  subst es0
  unfold F2_join_209 G2_join_209
  refine sm_JJ (S2_oneIf H rfl qs0) fun vo1 ho1 Ho1 ro1 => ?_
  exact sm_retJ Ho1 rfl ro1
theorem S2_join_224 {h : PH} (H : OKX h) {s0i : Int32} {s0 : Int} (es0 : s0i = Z3 s0) (qs0 : r3 s0) : SimJ OKX (F2_join_224 h s0i) (G2_join_224 (rd h) s0) := by
  subst es0
  unfold F2_join_224 G2_join_224
  refine sm_JJ (S2_oneIf H rfl qs0) fun vo1 ho1 Ho1 ro1 => ?_
  exact sm_retJ Ho1 rfl ro1
theorem S2_join_0 {h : PH} (H : OKX h) {x0i : Int32} {x0 : Int} (ex0 : x0i = Z3 x0) (qx0 : r3 x0) {j1i : Int64} {j1 : Int} (ej1 : j1i = Z6 j1) (qj1 : r6 j1) {j3i : Int64} {j3 : Int} (ej3 : j3i = Z6 j3) (qj3 : r6 j3) : SimJ OKX (F2_join_0 h x0i j1i j3i) (G2_join_0 (rd h) x0 j1 j3) := by
  subst ex0 ej1 ej3
  unfold F2_join_0 G2_join_0
  refine sm_if (z3_eq rfl l3_16 qx0 lr3_16) ?_ ?_
  · refine sm_if (cmp_eq rfl l6_0 qj1 lr6_0) ?_ ?_
    · exact S2_join_133 H
    · refine sm_if (cmp_eq rfl l6_0 qj3 lr6_0) ?_ ?_
      · exact S2_join_133 H
      · exact S2_join_134 H l3_1 lr3_1
  · refine sm_if (z3_eq rfl l3_17 qx0 lr3_17) ?_ ?_
    · refine sm_if (cmp_eq rfl l6_0 qj1 lr6_0) ?_ ?_
      · refine sm_if (cmp_eq rfl l6_0 qj3 lr6_0) ?_ ?_
        · exact S2_join_113 H l3_0 lr3_0
        · exact S2_join_108 H
      · exact S2_join_108 H
    · refine sm_if (z3_eq rfl l3_26 qx0 lr3_26) ?_ ?_
      · refine sm_if (cmp_ge rfl rfl qj1 qj3) ?_ ?_
        · exact S2_join_149 H l3_0 lr3_0
        · exact S2_join_149 H l3_1 lr3_1
      · refine sm_if (z3_eq rfl l3_27 qx0 lr3_27) ?_ ?_
        · refine sm_if (cmp_gt rfl rfl qj1 qj3) ?_ ?_
          · exact S2_join_164 H l3_0 lr3_0
          · exact S2_join_164 H l3_1 lr3_1
        · refine sm_if (z3_eq rfl l3_28 qx0 lr3_28) ?_ ?_
          · refine sm_if (cmp_eq rfl rfl qj1 qj3) ?_ ?_
            · exact S2_join_179 H l3_1 lr3_1
            · exact S2_join_179 H l3_0 lr3_0
          · refine sm_if (z3_eq rfl l3_29 qx0 lr3_29) ?_ ?_
            · refine sm_if (cmp_eq rfl rfl qj1 qj3) ?_ ?_
              · exact S2_join_194 H l3_0 lr3_0
              · exact S2_join_194 H l3_1 lr3_1
            · refine sm_if (z3_eq rfl l3_30 qx0 lr3_30) ?_ ?_
              · refine sm_if (cmp_lt rfl rfl qj1 qj3) ?_ ?_
                · exact S2_join_209 H l3_0 lr3_0
                · exact S2_join_209 H l3_1 lr3_1
              · refine sm_if (z3_eq rfl l3_31 qx0 lr3_31) ?_ ?_
                · refine sm_if (cmp_le rfl rfl qj1 qj3) ?_ ?_
                  · exact S2_join_224 H l3_0 lr3_0
                  · exact S2_join_224 H l3_1 lr3_1
                · refine sm_if (z3_eq rfl l3_32 qx0 lr3_32) ?_ ?_
                  · refine sg6J fun c1 => ?_
                    exact sm_retJ H (z6_add rfl rfl) c1
                  · refine sm_if (z3_eq rfl l3_33 qx0 lr3_33) ?_ ?_
                    · refine sg6J fun c2 => ?_
                      exact sm_retJ H (z6_sub rfl rfl) c2
                    · refine sm_if (z3_eq rfl l3_34 qx0 lr3_34) ?_ ?_
                      · refine sm_JJ (S2_product H rfl qj1 rfl qj3) fun vo22 ho22 Ho22 ro22 => ?_
                        exact sm_retJ Ho22 rfl ro22
                      · refine sm_if (z3_eq rfl l3_35 qx0 lr3_35) ?_ ?_
                        · refine sm_if (cmp_eq rfl l6_0 qj3 lr6_0) ?_ ?_
                          · exact sm_retJ H l6_m9223372036854775808 lr6_m9223372036854775808
                          · refine sm_if (z6_eq rfl l6_0 qj3 lr6_0) ?_ ?_
                            · exact smJ_none _
                            · refine sg6J fun c3 => ?_
                              exact sm_retJ H (z6_div rfl rfl qj1 qj3) c3
                        · exact sm_retJ H l6_m9223372036854775808 lr6_m9223372036854775808
theorem S2_join {h : PH} (H : OKX h) {x0i : Int32} {x0 : Int} (ex0 : x0i = Z3 x0) (qx0 : r3 x0) {j1i : Int64} {j1 : Int} (ej1 : j1i = Z6 j1) (qj1 : r6 j1) {j3i : Int64} {j3 : Int} (ej3 : j3i = Z6 j3) (qj3 : r6 j3) : SimJ OKX (F2_join h x0i j1i j3i) (G2_join (rd h) x0 j1 j3) := by
  subst ex0 ej1 ej3
  unfold F2_join G2_join
  exact S2_join_0 H rfl qx0 rfl qj1 rfl qj3
theorem S2_valueFor_177 {h : PH} (H : OKX h) {a2 : Nat} (ha2 : R6_5 a2) {x3i : Int32} {x3 : Int} (ex3 : x3i = Z3 x3) (qx3 : r3 x3) : SimJ OKX (F2_valueFor_177 h a2 x3i) (G2_valueFor_177 (rd h) a2 x3) := by
  subst ex3
  unfold F2_valueFor_177 G2_valueFor_177
  refine sm_if (z3_eq rfl l3_1 qx3 lr3_1) ?_ ?_
  · refine sm_rd (x_aJ_6_5 H ha2 l3_0 ⟨by decide, by decide⟩).1 ?_
    exact sm_retJ H rfl (x_aJ_6_5 H ha2 l3_0 ⟨by decide, by decide⟩).2
  · exact sm_retJ H l6_m9223372036854775808 lr6_m9223372036854775808
theorem S2_valueFor_119 {k5 : PH → Nat → Nat → Nat → Int32 → Int32 → Option (Int64 × PH)} {kk5 : Mem → Nat → Nat → Nat → Int → Int → Option (Int × Mem)} (hk5 : ∀ {h : PH} (_ : OKX h) {a1 : Nat} (_ : A2 a1) {a2 : Nat} (_ : R6_4 a2) {a3 : Nat} (_ : R6_5 a3) {x4 : Int32} {y4 : Int} (_ : x4 = Z3 y4) (_ : r3 y4) {x5 : Int32} {y5 : Int} (_ : x5 = Z3 y5) (_ : r3 y5), SimJ OKX (k5 h a1 a2 a3 x4 x5) (kk5 (rd h) a1 a2 a3 y4 y5)) {h : PH} (H : OKX h) {a0 : Nat} (ha0 : A2 a0) {a1 : Nat} (ha1 : R6_4 a1) {a2 : Nat} (ha2 : R6_5 a2) {x3i : Int32} {x3 : Int} (ex3 : x3i = Z3 x3) (qx3 : r3 x3) {x4i : Int32} {x4 : Int} (ex4 : x4i = Z3 x4) (qx4 : r3 x4) {x5i : Int32} {x5 : Int} (ex5 : x5i = Z3 x5) (qx5 : r3 x5) : SimJ OKX (F2_valueFor_119 k5 h a0 a1 a2 x3i x4i x5i) (G2_valueFor_119 kk5 (rd h) a0 a1 a2 x3 x4 x5) := by
  subst ex3 ex4 ex5
  unfold F2_valueFor_119 G2_valueFor_119
  refine sm_if (z3_le rfl l3_1 qx3 lr3_1) ?_ ?_
  · refine sg3J fun c1 => ?_
    exact hk5 H ha0 ha1 ha2 rfl qx3 (z3_add rfl l3_1) c1
  · refine sgxJ fun c2 => ?_
    refine sm_rd (x_aJ_6_5 H ha2 (z3_sub (z3_add rfl l3_m1) l3_1) c2).1 ?_
    refine sgxJ fun c3 => ?_
    refine sm_rd (x_aJ_6_5 H ha2 (z3_add rfl l3_m1) c3).1 ?_
    refine sm_JJ (S2_join H rfl qx5 rfl ((x_aJ_6_5 H ha2 (z3_sub (z3_add rfl l3_m1) l3_1) c2).2) rfl ((x_aJ_6_5 H ha2 (z3_add rfl l3_m1) c3).2)) fun vo6 ho6 Ho6 ro6 => ?_
    refine sm_if (cmp_gt rfl l6_1000000000000 ro6 lr6_1000000000000) ?_ ?_
    · exact sm_retJ Ho6 l6_m9223372036854775808 lr6_m9223372036854775808
    · refine sm_if (cmp_ge rfl l6_m1000000000000 ro6 lr6_m1000000000000) ?_ ?_
      · refine sgxJ fun c4 => ?_
        refine sm_wt (x_sJ_6_5 Ho6 ha2 (z3_sub (z3_add rfl l3_m1) l3_1) c4 rfl ro6) fun h11 Hh11 => ?_
        refine sg3J fun c5 => ?_
        refine sg3J fun c6 => ?_
        exact hk5 Hh11 ha0 ha1 ha2 (z3_add rfl l3_m1) c5 (z3_add rfl l3_1) c6
      · exact sm_retJ Ho6 l6_m9223372036854775808 lr6_m9223372036854775808
theorem S2_valueFor_115 {k5 : PH → Nat → Nat → Nat → Int32 → Int32 → Option (Int64 × PH)} {kk5 : Mem → Nat → Nat → Nat → Int → Int → Option (Int × Mem)} (hk5 : ∀ {h : PH} (_ : OKX h) {a1 : Nat} (_ : A2 a1) {a2 : Nat} (_ : R6_4 a2) {a3 : Nat} (_ : R6_5 a3) {x4 : Int32} {y4 : Int} (_ : x4 = Z3 y4) (_ : r3 y4) {x5 : Int32} {y5 : Int} (_ : x5 = Z3 y5) (_ : r3 y5), SimJ OKX (k5 h a1 a2 a3 x4 x5) (kk5 (rd h) a1 a2 a3 y4 y5)) {h : PH} (H : OKX h) {a0 : Nat} (ha0 : A2 a0) {a1 : Nat} (ha1 : R6_4 a1) {a2 : Nat} (ha2 : R6_5 a2) {x3i : Int32} {x3 : Int} (ex3 : x3i = Z3 x3) (qx3 : r3 x3) {x4i : Int32} {x4 : Int} (ex4 : x4i = Z3 x4) (qx4 : r3 x4) {t0i : Int64} {t0 : Int} (et0 : t0i = Z6 t0) (qt0 : r6 t0) {s1i : Int32} {s1 : Int} (es1 : s1i = Z3 s1) (qs1 : r3 s1) {u2 : Nat} (hu2 : R6_5 u2) : SimJ OKX (F2_valueFor_115 k5 h a0 a1 a2 x3i x4i t0i s1i u2) (G2_valueFor_115 kk5 (rd h) a0 a1 a2 x3 x4 t0 s1 u2) := by
  subst ex3 ex4 et0 es1
  unfold F2_valueFor_115 G2_valueFor_115
  refine sgxJ fun c1 => ?_
  refine sm_wt (x_sJ_6_5 H hu2 rfl c1 rfl qt0) fun h2 Hh2 => ?_
  refine sg3J fun c2 => ?_
  exact hk5 Hh2 ha0 ha1 ha2 rfl qx3 (z3_add rfl l3_1) c2
theorem S2_valueFor_85 {k5 : PH → Nat → Nat → Nat → Int32 → Int32 → Option (Int64 × PH)} {kk5 : Mem → Nat → Nat → Nat → Int → Int → Option (Int × Mem)} (hk5 : ∀ {h : PH} (_ : OKX h) {a1 : Nat} (_ : A2 a1) {a2 : Nat} (_ : R6_4 a2) {a3 : Nat} (_ : R6_5 a3) {x4 : Int32} {y4 : Int} (_ : x4 = Z3 y4) (_ : r3 y4) {x5 : Int32} {y5 : Int} (_ : x5 = Z3 y5) (_ : r3 y5), SimJ OKX (k5 h a1 a2 a3 x4 x5) (kk5 (rd h) a1 a2 a3 y4 y5)) {h : PH} (H : OKX h) {a0 : Nat} (ha0 : A2 a0) {a1 : Nat} (ha1 : R6_4 a1) {a2 : Nat} (ha2 : R6_5 a2) {x3i : Int32} {x3 : Int} (ex3 : x3i = Z3 x3) (qx3 : r3 x3) {x4i : Int32} {x4 : Int} (ex4 : x4i = Z3 x4) (qx4 : r3 x4) {x5i : Int32} {x5 : Int} (ex5 : x5i = Z3 x5) (qx5 : r3 x5) : SimJ OKX (F2_valueFor_85 k5 h a0 a1 a2 x3i x4i x5i) (G2_valueFor_85 kk5 (rd h) a0 a1 a2 x3 x4 x5) := by
  subst ex3 ex4 ex5
  unfold F2_valueFor_85 G2_valueFor_85
  refine sm_if (z3_eq rfl l3_15 qx5 lr3_15) ?_ ?_
  · refine sm_if (z3_le rfl l3_0 qx3 lr3_0) ?_ ?_
    · exact S2_valueFor_119 hk5 H ha0 ha1 ha2 rfl qx3 rfl qx4 rfl qx5
    · refine sgxJ fun c1 => ?_
      refine sm_rd (x_aJ_6_5 H ha2 (z3_sub rfl l3_1) c1).1 ?_
      refine sm_if (cmp_eq rfl l6_0 (x_aJ_6_5 H ha2 (z3_sub rfl l3_1) c1).2 lr6_0) ?_ ?_
      · refine sg3J fun c2 => ?_
        exact S2_valueFor_115 hk5 H ha0 ha1 ha2 rfl qx3 rfl qx4 l6_1 lr6_1 (z3_sub rfl l3_1) c2 ha2
      · refine sg3J fun c3 => ?_
        exact S2_valueFor_115 hk5 H ha0 ha1 ha2 rfl qx3 rfl qx4 l6_0 lr6_0 (z3_sub rfl l3_1) c3 ha2
  · exact S2_valueFor_119 hk5 H ha0 ha1 ha2 rfl qx3 rfl qx4 rfl qx5
theorem S2_valueFor_5 (n : Nat) : ∀ {h : PH} (H : OKX h) {a0 : Nat} (ha0 : A2 a0) {a1 : Nat} (ha1 : R6_4 a1) {a2 : Nat} (ha2 : R6_5 a2) {x3i : Int32} {x3 : Int} (ex3 : x3i = Z3 x3) (qx3 : r3 x3) {x4i : Int32} {x4 : Int} (ex4 : x4i = Z3 x4) (qx4 : r3 x4), SimJ OKX (F2_valueFor_5 n h a0 a1 a2 x3i x4i) (G2_valueFor_5 n (rd h) a0 a1 a2 x3 x4) := by
  induction n with
  | zero => intros; exact smJ_none _
  | succ n ih =>
    intro h H a0 ha0 a1 ha1 a2 ha2 x3i x3 ex3 qx3 x4i x4 ex4 qx4
    subst ex3 ex4
    rw [F2_valueFor_5, G2_valueFor_5]
    refine sm_rd (x_gI_2_1 H ha0).1 ?_
    refine sm_if (z3_le rfl rfl (x_gI_2_1 H ha0).2 qx4) ?_ ?_
    · exact S2_valueFor_177 H ha2 rfl qx3
    · refine sm_rd (x_aL_6_5 H ha2) ?_
      refine sm_if (z3_le rfl rfl lr3_64 qx3) ?_ ?_
      · exact S2_valueFor_177 H ha2 rfl qx3
      · refine sm_rd (x_gR_2_0 H ha0) ?_
        refine sgxJ fun c1 => ?_
        refine sm_rd (x_aI_2_0 H (ao_2_0 ha0) rfl c1).1 ?_
        refine sg3J fun c2 => ?_
        refine sm_if (z3_le l3_0 (z3_sub rfl l3_10000) lr3_0 c2) ?_ ?_
        · refine sg3J fun c3 => ?_
          refine sm_if (z3_lt (z3_sub rfl l3_10000) l3_18 c3 lr3_18) ?_ ?_
          · refine sg3J fun c4 => ?_
            exact S2_valueFor_85 (@fun _ H _ ha0 _ ha1 _ ha2 _ _ ex3 qx3 _ _ ex4 qx4 => ih H ha0 ha1 ha2 ex3 qx3 ex4 qx4) H ha0 ha1 ha2 rfl qx3 rfl qx4 (z3_sub rfl l3_10000) c4
          · refine sg3J fun c5 => ?_
            refine sm_if (z3_le l3_24 (z3_sub rfl l3_10000) lr3_24 c5) ?_ ?_
            · refine sg3J fun c6 => ?_
              exact S2_valueFor_85 (@fun _ H _ ha0 _ ha1 _ ha2 _ _ ex3 qx3 _ _ ex4 qx4 => ih H ha0 ha1 ha2 ex3 qx3 ex4 qx4) H ha0 ha1 ha2 rfl qx3 rfl qx4 (z3_sub rfl l3_10000) c6
            · refine sgxJ fun c7 => ?_
              refine sm_rd (x_aJ_6_4 H ha1 (z3_sub (z3_sub rfl l3_10000) l3_18) c7).1 ?_
              refine sgxJ fun c8 => ?_
              refine sm_wt (x_sJ_6_5 H ha2 rfl c8 rfl (x_aJ_6_4 H ha1 (z3_sub (z3_sub rfl l3_10000) l3_18) c7).2) fun h17 Hh17 => ?_
              refine sg3J fun c9 => ?_
              refine sg3J fun c10 => ?_
              exact ih Hh17 ha0 ha1 ha2 (z3_add rfl l3_1) c9 (z3_add rfl l3_1) c10
        · refine sm_rd (x_gR_2_0 H ha0) ?_
          refine sgxJ fun c11 => ?_
          refine sm_rd (x_aI_2_0 H (ao_2_0 ha0) rfl c11).1 ?_
          refine sgxJ fun c12 => ?_
          refine sm_wt (x_sJ_6_5 H ha2 rfl c12 (z3_to6 rfl (x_aI_2_0 H (ao_2_0 ha0) rfl c11).2) (r3_6 (x_aI_2_0 H (ao_2_0 ha0) rfl c11).2)) fun h23 Hh23 => ?_
          refine sg3J fun c13 => ?_
          refine sg3J fun c14 => ?_
          exact ih Hh23 ha0 ha1 ha2 (z3_add rfl l3_1) c13 (z3_add rfl l3_1) c14
theorem S2_valueFor_0 {h : PH} (H : OKX h) {a0 : Nat} (ha0 : A2 a0) {a1 : Nat} (ha1 : R6_4 a1) {a2 : Nat} (ha2 : R6_5 a2) : SimJ OKX (F2_valueFor_0 h a0 a1 a2) (G2_valueFor_0 (rd h) a0 a1 a2) := by
  unfold F2_valueFor_0 G2_valueFor_0
  exact S2_valueFor_5 1024 H ha0 ha1 ha2 l3_0 lr3_0 l3_0 lr3_0
theorem S2_valueFor {h : PH} (H : OKX h) {a0 : Nat} (ha0 : A2 a0) {a1 : Nat} (ha1 : R6_4 a1) {a2 : Nat} (ha2 : R6_5 a2) : SimJ OKX (F2_valueFor h a0 a1 a2) (G2_valueFor (rd h) a0 a1 a2) := by
  unfold F2_valueFor G2_valueFor
  refine sm_cd (x_ok_2 H ha0) ?_
  exact S2_valueFor_0 H ha0 ha1 ha2
theorem S6_awayFor_0 {h : PH} (H : OKX h) {a0 : Nat} (ha0 : A6 a0) {x1i : Int32} {x1 : Int} (ex1 : x1i = Z3 x1) (qx1 : r3 x1) {x2i : Int32} {x2 : Int} (ex2 : x2i = Z3 x2) (qx2 : r3 x2) : SimI OKX (F6_awayFor_0 h a0 x1i x2i) (G6_awayFor_0 (rd h) a0 x1 x2) := by
  subst ex1 ex2
  unfold F6_awayFor_0 G6_awayFor_0
  refine sm_VI (S6_nameAway H ha0 rfl qx1 rfl qx2) fun ho1 Ho1 => ?_
  refine sm_rd (x_gR_6_0 Ho1 ha0) ?_
  refine sm_rd (x_gR_8_11 Ho1 (x_v_6_0 Ho1 ha0)) ?_
  refine sm_rd (x_aR Ho1 (ao_8_11 (x_v_6_0 Ho1 ha0)) l3_2 (by decide)) ?_
  refine sm_rd (x_gR_6_4 Ho1 ha0) ?_
  refine sm_rd (x_gR_6_5 Ho1 ha0) ?_
  refine sm_JI (S2_valueFor Ho1 (x_aRp (ao_8_11 (x_v_6_0 Ho1 ha0)) (by decide)) (ao_6_4 ha0) (ao_6_5 ha0)) fun vo13 ho13 Ho13 ro13 => ?_
  refine sm_if (cmp_eq rfl l6_m9223372036854775808 ro13 lr6_m9223372036854775808) ?_ ?_
  · exact sm_retI Ho13 l3_5 lr3_5
  · refine sg3I fun c1 => ?_
    exact sm_retI Ho13 (z6_to3 (z6_ite (z6_lt (z6_ite (z6_lt rfl l6_30 ro13 lr6_30) rfl l6_30) l6_1 (r6_ite ro13 lr6_30) lr6_1) l6_1 (z6_ite (z6_lt rfl l6_30 ro13 lr6_30) rfl l6_30))) c1
theorem S6_awayFor {h : PH} (H : OKX h) {a0 : Nat} (ha0 : A6 a0) {x1i : Int32} {x1 : Int} (ex1 : x1i = Z3 x1) (qx1 : r3 x1) {x2i : Int32} {x2 : Int} (ex2 : x2i = Z3 x2) (qx2 : r3 x2) : SimI OKX (F6_awayFor h a0 x1i x2i) (G6_awayFor (rd h) a0 x1 x2) := by
  subst ex1 ex2
  unfold F6_awayFor G6_awayFor
  refine sm_cd (x_ok_6 H ha0) ?_
  exact S6_awayFor_0 H ha0 rfl qx1 rfl qx2
theorem S8_farFrom_0 {h : PH} (H : OKX h) {a0 : Nat} (ha0 : A8 a0) {x1i : Int32} {x1 : Int} (ex1 : x1i = Z3 x1) (qx1 : r3 x1) {x2i : Int32} {x2 : Int} (ex2 : x2i = Z3 x2) (qx2 : r3 x2) : SimI OKX (F8_farFrom_0 h a0 x1i x2i) (G8_farFrom_0 (rd h) a0 x1 x2) := by
  subst ex1 ex2
  unfold F8_farFrom_0 G8_farFrom_0
  refine sm_rd (x_gI_8_0 H ha0).1 ?_
  refine sm_if (z3_le l3_1 rfl lr3_1 (x_gI_8_0 H ha0).2) ?_ ?_
  · refine sm_rd (x_gI_8_0 H ha0).1 ?_
    refine sm_if (z3_eq rfl l3_0 (x_gI_8_0 H ha0).2 lr3_0) ?_ ?_
    · exact smI_none _
    · refine sm_rd (x_gI_8_0 H ha0).1 ?_
      refine sm_if (z3_eq rfl l3_0 (x_gI_8_0 H ha0).2 lr3_0) ?_ ?_
      · exact smI_none _
      · refine sm_rd (x_gI_8_3 H ha0).1 ?_
        refine sgdI fun c1 => ?_
        refine sg3I fun c2 => ?_
        refine sgdI fun c3 => ?_
        refine sgdI fun c4 => ?_
        refine sgdI fun c5 => ?_
        refine sg3I fun c6 => ?_
        refine sgdI fun c7 => ?_
        refine sgdI fun c8 => ?_
        refine sg3I fun c9 => ?_
        exact sm_retI H (z3_add (z3_ite (z3_le l3_0 (z3_sub (z3_rem rfl rfl qx1 (x_gI_8_0 H ha0).2 c1) rfl) lr3_0 c2) (z3_sub (z3_rem rfl rfl qx1 (x_gI_8_0 H ha0).2 c3) rfl) (z3_sub l3_0 (z3_sub (z3_rem rfl rfl qx1 (x_gI_8_0 H ha0).2 c4) rfl))) (z3_ite (z3_le l3_0 (z3_sub (z3_div rfl rfl qx1 (x_gI_8_0 H ha0).2 c5) rfl) lr3_0 c6) (z3_sub (z3_div rfl rfl qx1 (x_gI_8_0 H ha0).2 c7) rfl) (z3_sub l3_0 (z3_sub (z3_div rfl rfl qx1 (x_gI_8_0 H ha0).2 c8) rfl)))) c9
  · exact sm_retI H l3_0 lr3_0
theorem S8_farFrom {h : PH} (H : OKX h) {a0 : Nat} (ha0 : A8 a0) {x1i : Int32} {x1 : Int} (ex1 : x1i = Z3 x1) (qx1 : r3 x1) {x2i : Int32} {x2 : Int} (ex2 : x2i = Z3 x2) (qx2 : r3 x2) : SimI OKX (F8_farFrom h a0 x1i x2i) (G8_farFrom (rd h) a0 x1 x2) := by
  subst ex1 ex2
  unfold F8_farFrom G8_farFrom
  refine sm_cd (x_ok_8 H ha0) ?_
  exact S8_farFrom_0 H ha0 rfl qx1 rfl qx2
theorem S8_rowOf_0 {h : PH} (H : OKX h) {a0 : Nat} (ha0 : A8 a0) {x1i : Int32} {x1 : Int} (ex1 : x1i = Z3 x1) (qx1 : r3 x1) : SimI OKX (F8_rowOf_0 h a0 x1i) (G8_rowOf_0 (rd h) a0 x1) := by
  subst ex1
  unfold F8_rowOf_0 G8_rowOf_0
  refine sm_rd (x_gI_8_0 H ha0).1 ?_
  refine sm_if (z3_le rfl l3_0 (x_gI_8_0 H ha0).2 lr3_0) ?_ ?_
  · exact sm_retI H l3_0 lr3_0
  · refine sm_rd (x_gI_8_0 H ha0).1 ?_
    refine sm_if (z3_eq rfl l3_0 (x_gI_8_0 H ha0).2 lr3_0) ?_ ?_
    · exact smI_none _
    · refine sgdI fun c1 => ?_
      exact sm_retI H (z3_div rfl rfl qx1 (x_gI_8_0 H ha0).2 c1) (r3_div qx1 (x_gI_8_0 H ha0).2 c1)
theorem S8_rowOf {h : PH} (H : OKX h) {a0 : Nat} (ha0 : A8 a0) {x1i : Int32} {x1 : Int} (ex1 : x1i = Z3 x1) (qx1 : r3 x1) : SimI OKX (F8_rowOf h a0 x1i) (G8_rowOf (rd h) a0 x1) := by
  subst ex1
  unfold F8_rowOf G8_rowOf
  refine sm_cd (x_ok_8 H ha0) ?_
  exact S8_rowOf_0 H ha0 rfl qx1
theorem S6_nameCatch_0 {h : PH} (H : OKX h) {a0 : Nat} (ha0 : A6 a0) {x1i : Int32} {x1 : Int} (ex1 : x1i = Z3 x1) (qx1 : r3 x1) {x2i : Int32} {x2 : Int} (ex2 : x2i = Z3 x2) (qx2 : r3 x2) {x3i : Int32} {x3 : Int} (ex3 : x3i = Z3 x3) (qx3 : r3 x3) : SimV OKX (F6_nameCatch_0 h a0 x1i x2i x3i) (G6_nameCatch_0 (rd h) a0 x1 x2 x3) := by
  subst ex1 ex2 ex3
  unfold F6_nameCatch_0 G6_nameCatch_0
  refine sm_VV (S6_nameAway H ha0 rfl qx1 rfl qx2) fun ho1 Ho1 => ?_
  refine sm_rd (x_gR_6_4 Ho1 ha0) ?_
  refine sm_rd (x_gR_6_0 Ho1 ha0) ?_
  refine sm_rd (x_gR_6_3 Ho1 ha0) ?_
  refine sgxV fun c1 => ?_
  refine sm_rd (x_aI_6_3 Ho1 (ao_6_3 ha0) rfl c1).1 ?_
  refine sm_IV (S8_farFrom Ho1 (x_v_6_0 Ho1 ha0) rfl qx3 rfl ((x_aI_6_3 Ho1 (ao_6_3 ha0) rfl c1).2)) fun vo11 ho11 Ho11 ro11 => ?_
  refine sm_wt (x_sJ_6_4 Ho11 (ao_6_4 ha0) l3_0 ⟨by decide, by decide⟩ (z3_to6 rfl ro11) (r3_6 ro11)) fun h14 Hh14 => ?_
  refine sm_rd (x_gR_6_4 Hh14 ha0) ?_
  refine sm_rd (x_gR_6_0 Hh14 ha0) ?_
  refine sm_IV (S8_rowOf Hh14 (x_v_6_0 Hh14 ha0) rfl qx3) fun vo19 ho19 Ho19 ro19 => ?_
  refine sm_rd (x_gR_6_0 Ho19 ha0) ?_
  refine sm_rd (x_gI_8_3 Ho19 (x_v_6_0 Ho19 ha0)).1 ?_
  refine sg3V fun c2 => ?_
  refine sm_wt (x_sJ_6_4 Ho19 (ao_6_4 ha0) l3_1 ⟨by decide, by decide⟩ (z3_to6 (z3_sub rfl rfl) c2) (r3_6 c2)) fun h26 Hh26 => ?_
  exact sm_retV Hh26
theorem S6_nameCatch {h : PH} (H : OKX h) {a0 : Nat} (ha0 : A6 a0) {x1i : Int32} {x1 : Int} (ex1 : x1i = Z3 x1) (qx1 : r3 x1) {x2i : Int32} {x2 : Int} (ex2 : x2i = Z3 x2) (qx2 : r3 x2) {x3i : Int32} {x3 : Int} (ex3 : x3i = Z3 x3) (qx3 : r3 x3) : SimV OKX (F6_nameCatch h a0 x1i x2i x3i) (G6_nameCatch (rd h) a0 x1 x2 x3) := by
  subst ex1 ex2 ex3
  unfold F6_nameCatch G6_nameCatch
  refine sm_cd (x_ok_6 H ha0) ?_
  exact S6_nameCatch_0 H ha0 rfl qx1 rfl qx2 rfl qx3
theorem S6_farOf_0 {h : PH} (H : OKX h) {a0 : Nat} (ha0 : A6 a0) {x1i : Int32} {x1 : Int} (ex1 : x1i = Z3 x1) (qx1 : r3 x1) {x2i : Int32} {x2 : Int} (ex2 : x2i = Z3 x2) (qx2 : r3 x2) : SimI OKX (F6_farOf_0 h a0 x1i x2i) (G6_farOf_0 (rd h) a0 x1 x2) := by
  subst ex1 ex2
  unfold F6_farOf_0 G6_farOf_0
  refine sm_rd (x_gR_6_0 H ha0) ?_
  refine sm_rd (x_gR_6_3 H ha0) ?_
  refine sgxI fun c1 => ?_
  refine sm_rd (x_aI_6_3 H (ao_6_3 ha0) rfl c1).1 ?_
  refine sm_II (S8_farFrom H (x_v_6_0 H ha0) rfl qx1 rfl ((x_aI_6_3 H (ao_6_3 ha0) rfl c1).2)) fun vo7 ho7 Ho7 ro7 => ?_
  exact sm_retI Ho7 rfl ro7
theorem S6_farOf {h : PH} (H : OKX h) {a0 : Nat} (ha0 : A6 a0) {x1i : Int32} {x1 : Int} (ex1 : x1i = Z3 x1) (qx1 : r3 x1) {x2i : Int32} {x2 : Int} (ex2 : x2i = Z3 x2) (qx2 : r3 x2) : SimI OKX (F6_farOf h a0 x1i x2i) (G6_farOf (rd h) a0 x1 x2) := by
  subst ex1 ex2
  unfold F6_farOf G6_farOf
  refine sm_cd (x_ok_6 H ha0) ?_
  exact S6_farOf_0 H ha0 rfl qx1 rfl qx2
theorem S6_oddsAt_0 {h : PH} (H : OKX h) {a0 : Nat} (ha0 : A6 a0) {x1i : Int32} {x1 : Int} (ex1 : x1i = Z3 x1) (qx1 : r3 x1) {x2i : Int32} {x2 : Int} (ex2 : x2i = Z3 x2) (qx2 : r3 x2) {x3i : Int32} {x3 : Int} (ex3 : x3i = Z3 x3) (qx3 : r3 x3) : SimI OKX (F6_oddsAt_0 h a0 x1i x2i x3i) (G6_oddsAt_0 (rd h) a0 x1 x2 x3) := by
  subst ex1 ex2 ex3
  unfold F6_oddsAt_0 G6_oddsAt_0
  refine sm_VI (S6_nameCatch H ha0 rfl qx1 rfl qx2 rfl qx3) fun ho1 Ho1 => ?_
  refine sm_rd (x_gR_6_0 Ho1 ha0) ?_
  refine sm_rd (x_gR_8_11 Ho1 (x_v_6_0 Ho1 ha0)) ?_
  refine sm_rd (x_aR Ho1 (ao_8_11 (x_v_6_0 Ho1 ha0)) l3_0 (by decide)) ?_
  refine sm_rd (x_gR_6_4 Ho1 ha0) ?_
  refine sm_rd (x_gR_6_5 Ho1 ha0) ?_
  refine sm_JI (S2_valueFor Ho1 (x_aRp (ao_8_11 (x_v_6_0 Ho1 ha0)) (by decide)) (ao_6_4 ha0) (ao_6_5 ha0)) fun vo13 ho13 Ho13 ro13 => ?_
  refine sm_if (cmp_eq rfl l6_m9223372036854775808 ro13 lr6_m9223372036854775808) ?_ ?_
  · refine sm_II (S6_farOf Ho13 ha0 rfl qx3 rfl qx2) fun vo16 ho16 Ho16 ro16 => ?_
    refine sg3I fun c1 => ?_
    refine sg3I fun c2 => ?_
    exact sm_retI Ho16 (z3_ite (z3_lt l3_0 (z3_sub l3_100 (z3_mul l3_20 rfl)) lr3_0 c1) (z3_sub l3_100 (z3_mul l3_20 rfl)) l3_0) c2
  · refine sg3I fun c3 => ?_
    exact sm_retI Ho13 (z6_to3 (z6_ite (z6_lt (z6_ite (z6_lt rfl l6_100 ro13 lr6_100) rfl l6_100) l6_0 (r6_ite ro13 lr6_100) lr6_0) l6_0 (z6_ite (z6_lt rfl l6_100 ro13 lr6_100) rfl l6_100))) c3
theorem S6_oddsAt {h : PH} (H : OKX h) {a0 : Nat} (ha0 : A6 a0) {x1i : Int32} {x1 : Int} (ex1 : x1i = Z3 x1) (qx1 : r3 x1) {x2i : Int32} {x2 : Int} (ex2 : x2i = Z3 x2) (qx2 : r3 x2) {x3i : Int32} {x3 : Int} (ex3 : x3i = Z3 x3) (qx3 : r3 x3) : SimI OKX (F6_oddsAt h a0 x1i x2i x3i) (G6_oddsAt (rd h) a0 x1 x2 x3) := by
  subst ex1 ex2 ex3
  unfold F6_oddsAt G6_oddsAt
  refine sm_cd (x_ok_6 H ha0) ?_
  exact S6_oddsAt_0 H ha0 rfl qx1 rfl qx2 rfl qx3
theorem S6_worthAt_0 {h : PH} (H : OKX h) {a0 : Nat} (ha0 : A6 a0) {x1i : Int32} {x1 : Int} (ex1 : x1i = Z3 x1) (qx1 : r3 x1) {x2i : Int32} {x2 : Int} (ex2 : x2i = Z3 x2) (qx2 : r3 x2) {x3i : Int32} {x3 : Int} (ex3 : x3i = Z3 x3) (qx3 : r3 x3) : SimI OKX (F6_worthAt_0 h a0 x1i x2i x3i) (G6_worthAt_0 (rd h) a0 x1 x2 x3) := by
  subst ex1 ex2 ex3
  unfold F6_worthAt_0 G6_worthAt_0
  refine sm_II (S6_oddsAt H ha0 rfl qx1 rfl qx2 rfl qx3) fun vo1 ho1 Ho1 ro1 => ?_
  refine sm_rd (x_gR_6_0 Ho1 ha0) ?_
  refine sm_rd (x_gR_8_5 Ho1 (x_v_6_0 Ho1 ha0)) ?_
  refine sm_rd (x_gR_10_5 Ho1 (ao_8_5 (x_v_6_0 Ho1 ha0))) ?_
  refine sgxI fun c1 => ?_
  refine sm_rd (x_aI_10_5 Ho1 (ao_10_5 (ao_8_5 (x_v_6_0 Ho1 ha0))) rfl c1).1 ?_
  refine sg3I fun c2 => ?_
  exact sm_retI Ho1 (z3_mul rfl rfl) c2
theorem S6_worthAt {h : PH} (H : OKX h) {a0 : Nat} (ha0 : A6 a0) {x1i : Int32} {x1 : Int} (ex1 : x1i = Z3 x1) (qx1 : r3 x1) {x2i : Int32} {x2 : Int} (ex2 : x2i = Z3 x2) (qx2 : r3 x2) {x3i : Int32} {x3 : Int} (ex3 : x3i = Z3 x3) (qx3 : r3 x3) : SimI OKX (F6_worthAt h a0 x1i x2i x3i) (G6_worthAt (rd h) a0 x1 x2 x3) := by
  subst ex1 ex2 ex3
  unfold F6_worthAt G6_worthAt
  refine sm_cd (x_ok_6 H ha0) ?_
  exact S6_worthAt_0 H ha0 rfl qx1 rfl qx2 rfl qx3
theorem S0_makePlan_128 {k40 : PH → Nat → Nat → Nat → Int32 → Nat → Int32 → Int32 → Option PH} {kk40 : Mem → Nat → Nat → Int → Nat → Int → Int → Option Mem} (hk40 : ∀ {h : PH} (_ : OKX h) {a2 : Nat} (_ : A6 a2) {a3 : Nat} (_ : A4 a3) {x4 : Int32} {y4 : Int} (_ : x4 = Z3 y4) (_ : r3 y4) {a5 : Nat} (_ : A10 a5) {x6 : Int32} {y6 : Int} (_ : x6 = Z3 y6) (_ : r3 y6) {x7 : Int32} {y7 : Int} (_ : x7 = Z3 y7) (_ : r3 y7), SimV OKX (k40 h 99 a2 a3 x4 a5 x6 x7) (kk40 (rd h) a2 a3 y4 a5 y6 y7)) {h : PH} (H : OKX h) {a1 : Nat} (ha1 : A6 a1) {a2 : Nat} (ha2 : A4 a2) {x3i : Int32} {x3 : Int} (ex3 : x3i = Z3 x3) (qx3 : r3 x3) {a4 : Nat} (ha4 : A10 a4) {x5i : Int32} {x5 : Int} (ex5 : x5i = Z3 x5) (qx5 : r3 x5) {x6i : Int32} {x6 : Int} (ex6 : x6i = Z3 x6) (qx6 : r3 x6) {x7i : Int32} {x7 : Int} (ex7 : x7i = Z3 x7) (qx7 : r3 x7) {s0i : Int32} {s0 : Int} (es0 : s0i = Z3 s0) (qs0 : r3 s0) {s1i : Int32} {s1 : Int} (es1 : s1i = Z3 s1) (qs1 : r3 s1) : SimV OKX (F0_makePlan_128 k40 h 99 a1 a2 x3i a4 x5i x6i x7i s0i s1i 108) (G0_makePlan_128 kk40 (rd h) a1 a2 x3 a4 x5 x6 x7 s0 s1) := by
  subst ex3 ex5 ex6 ex7 es0 es1
  unfold F0_makePlan_128 G0_makePlan_128
  refine sgxV fun c1 => ?_
  refine sgbV fun c2 => ?_
  refine sm_wt (x_sI_0_9 H rfl c1 (z3_bo rfl c2) (r3_b c2)) fun h2 Hh2 => ?_
  refine sm_rd (x_gR_0_7 Hh2) ?_
  refine sm_rd (x_gR_0_7 Hh2) ?_
  refine sgxV fun c3 => ?_
  refine sm_rd (x_aI_0_7 Hh2 (z3_add rfl l3_1) c3).1 ?_
  refine sgxV fun c4 => ?_
  refine sm_wt (x_sI_0_7 Hh2 rfl c4 (z3_ite (z3_lt rfl rfl qx7 (x_aI_0_7 Hh2 (z3_add rfl l3_1) c3).2) rfl rfl) (r3_ite (x_aI_0_7 Hh2 (z3_add rfl l3_1) c3).2 qx7)) fun h10 Hh10 => ?_
  refine sg3V fun c5 => ?_
  exact hk40 Hh10 ha1 ha2 rfl qx3 ha4 rfl qx5 (z3_add rfl l3_m1) c5
theorem S0_makePlan_40 (n : Nat) : ∀ {h : PH} (H : OKX h) {a1 : Nat} (ha1 : A6 a1) {a2 : Nat} (ha2 : A4 a2) {x3i : Int32} {x3 : Int} (ex3 : x3i = Z3 x3) (qx3 : r3 x3) {a4 : Nat} (ha4 : A10 a4) {x5i : Int32} {x5 : Int} (ex5 : x5i = Z3 x5) (qx5 : r3 x5) {x6i : Int32} {x6 : Int} (ex6 : x6i = Z3 x6) (qx6 : r3 x6), SimV OKX (F0_makePlan_40 n h 99 a1 a2 x3i a4 x5i x6i) (G0_makePlan_40 n (rd h) a1 a2 x3 a4 x5 x6) := by
  induction n with
  | zero => intros; exact smV_none _
  | succ n ih =>
    intro h H a1 ha1 a2 ha2 x3i x3 ex3 qx3 a4 ha4 x5i x5 ex5 qx5 x6i x6 ex6 qx6
    subst ex3 ex5 ex6
    rw [F0_makePlan_40, G0_makePlan_40]
    refine sm_if (z3_lt rfl rfl qx6 qx5) ?_ ?_
    · refine sm_rd (x_gR_0_7 H) ?_
      refine sgxV fun c1 => ?_
      refine sm_rd (x_aI_0_7 H rfl c1).1 ?_
      refine sm_wt (x_pI_0_12 H rfl (x_aI_0_7 H rfl c1).2) fun h6 Hh6 => ?_
      refine sm_rd (x_gI_10_1 Hh6 ha4).1 ?_
      refine sm_VV (S0_listPlan Hh6 rfl qx5 rfl ((x_gI_10_1 Hh6 ha4).2)) fun ho10 Ho10 => ?_
      exact sm_retV Ho10
    · refine sm_rd (x_gR_0_8 H) ?_
      refine sm_rd (x_gR_10_4 H ha4) ?_
      refine sgxV fun c2 => ?_
      refine sm_rd (x_aI_10_4 H (ao_10_4 ha4) rfl c2).1 ?_
      refine sm_IV (S6_awayFor H ha1 rfl qx3 rfl qx6) fun vo18 ho18 Ho18 ro18 => ?_
      refine sg3V fun c3 => ?_
      refine sm_IV (S10_firstFrom Ho18 ha4 (z3_add rfl rfl) c3) fun vo20 ho20 Ho20 ro20 => ?_
      refine sgxV fun c4 => ?_
      refine sm_wt (x_sI_0_8 Ho20 rfl c4 rfl ro20) fun h23 Hh23 => ?_
      refine sm_rd (x_gR_4_5 Hh23 ha2) ?_
      refine sgxV fun c5 => ?_
      refine sm_rd (x_aI_4_5 Hh23 (ao_4_5 ha2) rfl c5).1 ?_
      refine sm_IV (S6_worthAt Hh23 ha1 rfl qx3 rfl qx6 rfl ((x_aI_4_5 Hh23 (ao_4_5 ha2) rfl c5).2)) fun vo28 ho28 Ho28 ro28 => ?_
      refine sm_rd (x_gR_0_7 Ho28) ?_
      refine sm_rd (x_gR_0_8 Ho28) ?_
      refine sgxV fun c6 => ?_
      refine sm_rd (x_aI_0_8 Ho28 rfl c6).1 ?_
      refine sgxV fun c7 => ?_
      refine sm_rd (x_aI_0_7 Ho28 rfl c7).1 ?_
      refine sm_rd (x_gR_0_9 Ho28) ?_
      refine sm_rd (x_gR_0_7 Ho28) ?_
      refine sgxV fun c8 => ?_
      refine sm_rd (x_aI_0_7 Ho28 (z3_add rfl l3_1) c8).1 ?_
      refine sg3V fun c9 => ?_
      refine sm_if (z3_lt (z3_add rfl rfl) rfl c9 (x_aI_0_7 Ho28 (z3_add rfl l3_1) c8).2) ?_ ?_
      · refine sg3V fun c10 => ?_
        exact S0_makePlan_128 (@fun _ H _ ha1 _ ha2 _ _ ex3 qx3 _ ha4 _ _ ex5 qx5 _ _ ex6 qx6 => ih H ha1 ha2 ex3 qx3 ha4 ex5 qx5 ex6 qx6) Ho28 ha1 ha2 rfl qx3 ha4 rfl qx5 rfl qx6 (z3_add rfl rfl) c10 l3_0 lr3_0 rfl qx6
      · refine sg3V fun c11 => ?_
        exact S0_makePlan_128 (@fun _ H _ ha1 _ ha2 _ _ ex3 qx3 _ ha4 _ _ ex5 qx5 _ _ ex6 qx6 => ih H ha1 ha2 ex3 qx3 ha4 ex5 qx5 ex6 qx6) Ho28 ha1 ha2 rfl qx3 ha4 rfl qx5 rfl qx6 (z3_add rfl rfl) c11 l3_1 lr3_1 rfl qx6
theorem S0_makePlan_0 {h : PH} (H : OKX h) {a1 : Nat} (ha1 : A6 a1) {a2 : Nat} (ha2 : A4 a2) {x3i : Int32} {x3 : Int} (ex3 : x3i = Z3 x3) (qx3 : r3 x3) : SimV OKX (F0_makePlan_0 h 99 a1 a2 x3i) (G0_makePlan_0 (rd h) a1 a2 x3) := by
  subst ex3
  unfold F0_makePlan_0 G0_makePlan_0
  refine sm_rd (x_gR_6_0 H ha1) ?_
  refine sm_rd (x_gR_8_5 H (x_v_6_0 H ha1)) ?_
  refine sm_rd (x_gI_4_0 H ha2).1 ?_
  refine sm_IV (S10_firstFrom H (ao_8_5 (x_v_6_0 H ha1)) rfl ((x_gI_4_0 H ha2).2)) fun vo7 ho7 Ho7 ro7 => ?_
  refine sm_rd (x_gR_0_7 Ho7) ?_
  refine sm_rd (x_gI_10_1 Ho7 (ao_8_5 (x_v_6_0 H ha1))).1 ?_
  refine sgxV fun c1 => ?_
  refine sm_wt (x_sI_0_7 Ho7 rfl c1 l3_0 lr3_0) fun h14 Hh14 => ?_
  refine sm_rd (x_gI_10_1 Hh14 (ao_8_5 (x_v_6_0 H ha1))).1 ?_
  refine sg3V fun c2 => ?_
  exact S0_makePlan_40 1024 Hh14 ha1 ha2 rfl qx3 (ao_8_5 (x_v_6_0 H ha1)) rfl ro7 (z3_sub rfl l3_1) c2
theorem S0_makePlan {h : PH} (H : OKX h) {a1 : Nat} (ha1 : A6 a1) {a2 : Nat} (ha2 : A4 a2) {x3i : Int32} {x3 : Int} (ex3 : x3i = Z3 x3) (qx3 : r3 x3) : SimV OKX (F0_makePlan h 99 a1 a2 x3i) (G0_makePlan (rd h) a1 a2 x3) := by
  subst ex3
  unfold F0_makePlan G0_makePlan
  refine sm_cd (x_ok_0 H) ?_
  exact S0_makePlan_0 H ha1 ha2 rfl qx3
theorem S8_columnOf_0 {h : PH} (H : OKX h) {a0 : Nat} (ha0 : A8 a0) {x1i : Int32} {x1 : Int} (ex1 : x1i = Z3 x1) (qx1 : r3 x1) : SimI OKX (F8_columnOf_0 h a0 x1i) (G8_columnOf_0 (rd h) a0 x1) := by
  subst ex1
  unfold F8_columnOf_0 G8_columnOf_0
  refine sm_rd (x_gI_8_0 H ha0).1 ?_
  refine sm_if (z3_le rfl l3_0 (x_gI_8_0 H ha0).2 lr3_0) ?_ ?_
  · exact sm_retI H l3_0 lr3_0
  · refine sm_rd (x_gI_8_0 H ha0).1 ?_
    refine sm_if (z3_eq rfl l3_0 (x_gI_8_0 H ha0).2 lr3_0) ?_ ?_
    · exact smI_none _
    · refine sgdI fun c1 => ?_
      exact sm_retI H (z3_rem rfl rfl qx1 (x_gI_8_0 H ha0).2 c1) (r3_rem qx1 (x_gI_8_0 H ha0).2 c1)
theorem S8_columnOf {h : PH} (H : OKX h) {a0 : Nat} (ha0 : A8 a0) {x1i : Int32} {x1 : Int} (ex1 : x1i = Z3 x1) (qx1 : r3 x1) : SimI OKX (F8_columnOf h a0 x1i) (G8_columnOf (rd h) a0 x1) := by
  subst ex1
  unfold F8_columnOf G8_columnOf
  refine sm_cd (x_ok_8 H ha0) ?_
  exact S8_columnOf_0 H ha0 rfl qx1
theorem S8_cellBeside_0 {h : PH} (H : OKX h) {a0 : Nat} (ha0 : A8 a0) {x1i : Int32} {x1 : Int} (ex1 : x1i = Z3 x1) (qx1 : r3 x1) {x2i : Int32} {x2 : Int} (ex2 : x2i = Z3 x2) (qx2 : r3 x2) : SimI OKX (F8_cellBeside_0 h a0 x1i x2i) (G8_cellBeside_0 (rd h) a0 x1 x2) := by
  subst ex1 ex2
  unfold F8_cellBeside_0 G8_cellBeside_0
  refine sm_II (S8_columnOf H ha0 rfl qx1) fun vo1 ho1 Ho1 ro1 => ?_
  refine sm_II (S8_rowOf Ho1 ha0 rfl qx1) fun vo3 ho3 Ho3 ro3 => ?_
  refine sm_if (z3_eq rfl l3_0 qx2 lr3_0) ?_ ?_
  · refine sm_if (z3_le rfl l3_0 ro3 lr3_0) ?_ ?_
    · exact sm_retI Ho3 l3_m1 lr3_m1
    · refine sm_rd (x_gI_8_0 Ho3 ha0).1 ?_
      refine sg3I fun c1 => ?_
      exact sm_retI Ho3 (z3_sub rfl rfl) c1
  · refine sm_if (z3_eq rfl l3_1 qx2 lr3_1) ?_ ?_
    · refine sm_rd (x_gI_8_0 Ho3 ha0).1 ?_
      refine sg3I fun c2 => ?_
      refine sm_if (z3_le (z3_sub rfl l3_1) rfl c2 ro1) ?_ ?_
      · exact sm_retI Ho3 l3_m1 lr3_m1
      · refine sg3I fun c3 => ?_
        exact sm_retI Ho3 (z3_add rfl l3_1) c3
    · refine sm_if (z3_eq rfl l3_2 qx2 lr3_2) ?_ ?_
      · refine sm_rd (x_gI_8_1 Ho3 ha0).1 ?_
        refine sg3I fun c4 => ?_
        refine sm_if (z3_le (z3_sub rfl l3_1) rfl c4 ro3) ?_ ?_
        · exact sm_retI Ho3 l3_m1 lr3_m1
        · refine sm_rd (x_gI_8_0 Ho3 ha0).1 ?_
          refine sg3I fun c5 => ?_
          exact sm_retI Ho3 (z3_add rfl rfl) c5
      · refine sm_if (z3_eq rfl l3_3 qx2 lr3_3) ?_ ?_
        · refine sm_if (z3_le rfl l3_0 ro1 lr3_0) ?_ ?_
          · exact sm_retI Ho3 l3_m1 lr3_m1
          · refine sg3I fun c6 => ?_
            exact sm_retI Ho3 (z3_sub rfl l3_1) c6
        · exact sm_retI Ho3 rfl qx1
theorem S8_cellBeside {h : PH} (H : OKX h) {a0 : Nat} (ha0 : A8 a0) {x1i : Int32} {x1 : Int} (ex1 : x1i = Z3 x1) (qx1 : r3 x1) {x2i : Int32} {x2 : Int} (ex2 : x2i = Z3 x2) (qx2 : r3 x2) : SimI OKX (F8_cellBeside h a0 x1i x2i) (G8_cellBeside (rd h) a0 x1 x2) := by
  subst ex1 ex2
  unfold F8_cellBeside G8_cellBeside
  refine sm_cd (x_ok_8 H ha0) ?_
  exact S8_cellBeside_0 H ha0 rfl qx1 rfl qx2
theorem S0_weighWays_46 {k3 : PH → Nat → Nat → Nat → Int32 → Int32 → Int32 → Int32 → Option PH} {kk3 : Mem → Nat → Nat → Int → Int → Int → Int → Option Mem} (hk3 : ∀ {h : PH} (_ : OKX h) {a2 : Nat} (_ : A6 a2) {a3 : Nat} (_ : A4 a3) {x4 : Int32} {y4 : Int} (_ : x4 = Z3 y4) (_ : r3 y4) {x5 : Int32} {y5 : Int} (_ : x5 = Z3 y5) (_ : r3 y5) {x6 : Int32} {y6 : Int} (_ : x6 = Z3 y6) (_ : r3 y6) {x7 : Int32} {y7 : Int} (_ : x7 = Z3 y7) (_ : r3 y7), SimV OKX (k3 h 99 a2 a3 x4 x5 x6 x7) (kk3 (rd h) a2 a3 y4 y5 y6 y7)) (n : Nat) : ∀ {h : PH} (H : OKX h) {a1 : Nat} (ha1 : A6 a1) {a2 : Nat} (ha2 : A4 a2) {x3i : Int32} {x3 : Int} (ex3 : x3i = Z3 x3) (qx3 : r3 x3) {x4i : Int32} {x4 : Int} (ex4 : x4i = Z3 x4) (qx4 : r3 x4) {x5i : Int32} {x5 : Int} (ex5 : x5i = Z3 x5) (qx5 : r3 x5) {x6i : Int32} {x6 : Int} (ex6 : x6i = Z3 x6) (qx6 : r3 x6) {x7i : Int32} {x7 : Int} (ex7 : x7i = Z3 x7) (qx7 : r3 x7) {x8i : Int32} {x8 : Int} (ex8 : x8i = Z3 x8) (qx8 : r3 x8), SimV OKX (F0_weighWays_46 k3 n h 99 a1 a2 x3i x4i x5i x6i x7i x8i) (G0_weighWays_46 kk3 n (rd h) a1 a2 x3 x4 x5 x6 x7 x8) := by
  induction n with
  | zero => intros; exact smV_none _
  | succ n ih =>
    intro h H a1 ha1 a2 ha2 x3i x3 ex3 qx3 x4i x4 ex4 qx4 x5i x5 ex5 qx5 x6i x6 ex6 qx6 x7i x7 ex7 qx7 x8i x8 ex8 qx8
    subst ex3 ex4 ex5 ex6 ex7 ex8
    rw [F0_weighWays_46, G0_weighWays_46]
    refine sm_if (z3_eq rfl l3_m1 qx7 lr3_m1) ?_ ?_
    · refine sg3V fun c1 => ?_
      exact hk3 H ha1 ha2 rfl qx3 rfl qx4 rfl qx5 (z3_add rfl l3_1) c1
    · refine sm_rd (x_gR_6_0 H ha1) ?_
      refine sm_rd (x_gR_8_5 H (x_v_6_0 H ha1)) ?_
      refine sm_rd (x_gI_10_1 H (ao_8_5 (x_v_6_0 H ha1))).1 ?_
      refine sm_if (z3_le rfl rfl (x_gI_10_1 H (ao_8_5 (x_v_6_0 H ha1))).2 qx8) ?_ ?_
      · refine sg3V fun c2 => ?_
        exact hk3 H ha1 ha2 rfl qx3 rfl qx4 rfl qx5 (z3_add rfl l3_1) c2
      · refine sm_rd (x_gR_0_1 H) ?_
        refine sm_IV (S6_farOf H ha1 rfl qx7 rfl qx8) fun vo11 ho11 Ho11 ro11 => ?_
        refine sgxV fun c3 => ?_
        refine sm_wt (x_sI_0_1 Ho11 (z3_add (z3_mul (z3_add rfl rfl) l3_28) rfl) c3 rfl ro11) fun h14 Hh14 => ?_
        refine sm_rd (x_gR_0_2 Hh14) ?_
        refine sm_IV (S6_worthAt Hh14 ha1 rfl qx3 rfl qx8 rfl qx7) fun vo17 ho17 Ho17 ro17 => ?_
        refine sgxV fun c4 => ?_
        refine sm_wt (x_sI_0_2 Ho17 (z3_add (z3_mul (z3_add rfl rfl) l3_28) rfl) c4 rfl ro17) fun h20 Hh20 => ?_
        refine sg3V fun c5 => ?_
        exact ih Hh20 ha1 ha2 rfl qx3 rfl qx4 rfl qx5 rfl qx6 rfl qx7 (z3_add rfl l3_1) c5
theorem S0_weighWays_3 (n : Nat) : ∀ {h : PH} (H : OKX h) {a1 : Nat} (ha1 : A6 a1) {a2 : Nat} (ha2 : A4 a2) {x3i : Int32} {x3 : Int} (ex3 : x3i = Z3 x3) (qx3 : r3 x3) {x4i : Int32} {x4 : Int} (ex4 : x4i = Z3 x4) (qx4 : r3 x4) {x5i : Int32} {x5 : Int} (ex5 : x5i = Z3 x5) (qx5 : r3 x5) {x6i : Int32} {x6 : Int} (ex6 : x6i = Z3 x6) (qx6 : r3 x6), SimV OKX (F0_weighWays_3 n h 99 a1 a2 x3i x4i x5i x6i) (G0_weighWays_3 n (rd h) a1 a2 x3 x4 x5 x6) := by
  induction n with
  | zero => intros; exact smV_none _
  | succ n ih =>
    intro h H a1 ha1 a2 ha2 x3i x3 ex3 qx3 x4i x4 ex4 qx4 x5i x5 ex5 qx5 x6i x6 ex6 qx6
    subst ex3 ex4 ex5 ex6
    rw [F0_weighWays_3, G0_weighWays_3]
    refine sm_if (z3_le l3_5 rfl lr3_5 qx6) ?_ ?_
    · exact sm_retV H
    · refine sm_rd (x_gR_6_0 H ha1) ?_
      refine sm_rd (x_gR_4_5 H ha2) ?_
      refine sgxV fun c1 => ?_
      refine sm_rd (x_aI_4_5 H (ao_4_5 ha2) rfl c1).1 ?_
      refine sgxV fun c2 => ?_
      refine sm_rd (gw_rd rfl c2).1 ?_
      refine sm_IV (S8_cellBeside H (x_v_6_0 H ha1) rfl ((x_aI_4_5 H (ao_4_5 ha2) rfl c1).2) rfl ((gw_rd rfl c2).2)) fun vo12 ho12 Ho12 ro12 => ?_
      refine sm_rd (x_gR_0_0 Ho12) ?_
      refine sgxV fun c3 => ?_
      refine sm_wt (x_sI_0_0 Ho12 (z3_add rfl rfl) c3 rfl ro12) fun h17 Hh17 => ?_
      exact S0_weighWays_46 (@fun _ H _ ha1 _ ha2 _ _ ex3 qx3 _ _ ex4 qx4 _ _ ex5 qx5 _ _ ex6 qx6 => ih H ha1 ha2 ex3 qx3 ex4 qx4 ex5 qx5 ex6 qx6) 1024 Hh17 ha1 ha2 rfl qx3 rfl qx4 rfl qx5 rfl qx6 rfl ro12 rfl qx5
theorem S0_weighWays_0 {h : PH} (H : OKX h) {a1 : Nat} (ha1 : A6 a1) {a2 : Nat} (ha2 : A4 a2) {x3i : Int32} {x3 : Int} (ex3 : x3i = Z3 x3) (qx3 : r3 x3) {x4i : Int32} {x4 : Int} (ex4 : x4i = Z3 x4) (qx4 : r3 x4) {x5i : Int32} {x5 : Int} (ex5 : x5i = Z3 x5) (qx5 : r3 x5) : SimV OKX (F0_weighWays_0 h 99 a1 a2 x3i x4i x5i) (G0_weighWays_0 (rd h) a1 a2 x3 x4 x5) := by
  subst ex3 ex4 ex5
  unfold F0_weighWays_0 G0_weighWays_0
  exact S0_weighWays_3 1024 H ha1 ha2 rfl qx3 rfl qx4 rfl qx5 l3_0 lr3_0
theorem S0_weighWays {h : PH} (H : OKX h) {a1 : Nat} (ha1 : A6 a1) {a2 : Nat} (ha2 : A4 a2) {x3i : Int32} {x3 : Int} (ex3 : x3i = Z3 x3) (qx3 : r3 x3) {x4i : Int32} {x4 : Int} (ex4 : x4i = Z3 x4) (qx4 : r3 x4) {x5i : Int32} {x5 : Int} (ex5 : x5i = Z3 x5) (qx5 : r3 x5) : SimV OKX (F0_weighWays h 99 a1 a2 x3i x4i x5i) (G0_weighWays (rd h) a1 a2 x3 x4 x5) := by
  subst ex3 ex4 ex5
  unfold F0_weighWays G0_weighWays
  refine sm_cd (x_ok_0 H) ?_
  exact S0_weighWays_0 H ha1 ha2 rfl qx3 rfl qx4 rfl qx5
theorem S0_sharePair_75 {k9 : PH → Nat → Int32 → Int32 → Int32 → Int32 → Int32 → Int32 → Int32 → Option PH} {kk9 : Mem → Int → Int → Int → Int → Int → Int → Int → Option Mem} (hk9 : ∀ {h : PH} (_ : OKX h) {x2 : Int32} {y2 : Int} (_ : x2 = Z3 y2) (_ : r3 y2) {x3 : Int32} {y3 : Int} (_ : x3 = Z3 y3) (_ : r3 y3) {x4 : Int32} {y4 : Int} (_ : x4 = Z3 y4) (_ : r3 y4) {x5 : Int32} {y5 : Int} (_ : x5 = Z3 y5) (_ : r3 y5) {x6 : Int32} {y6 : Int} (_ : x6 = Z3 y6) (_ : r3 y6) {x7 : Int32} {y7 : Int} (_ : x7 = Z3 y7) (_ : r3 y7) {x8 : Int32} {y8 : Int} (_ : x8 = Z3 y8) (_ : r3 y8), SimV OKX (k9 h 99 x2 x3 x4 x5 x6 x7 x8) (kk9 (rd h) y2 y3 y4 y5 y6 y7 y8)) {h : PH} (H : OKX h) {x1i : Int32} {x1 : Int} (ex1 : x1i = Z3 x1) (qx1 : r3 x1) {x2i : Int32} {x2 : Int} (ex2 : x2i = Z3 x2) (qx2 : r3 x2) {x4i : Int32} {x4 : Int} (ex4 : x4i = Z3 x4) (qx4 : r3 x4) {x5i : Int32} {x5 : Int} (ex5 : x5i = Z3 x5) (qx5 : r3 x5) {x6i : Int32} {x6 : Int} (ex6 : x6i = Z3 x6) (qx6 : r3 x6) {x7i : Int32} {x7 : Int} (ex7 : x7i = Z3 x7) (qx7 : r3 x7) {x8i : Int32} {x8 : Int} (ex8 : x8i = Z3 x8) (qx8 : r3 x8) {x9i : Int32} {x9 : Int} (ex9 : x9i = Z3 x9) (qx9 : r3 x9) : SimV OKX (F0_sharePair_75 k9 h 99 x1i x2i x4i x5i x6i x7i x8i x9i) (G0_sharePair_75 kk9 (rd h) x1 x2 x4 x5 x6 x7 x8 x9) := by
  subst ex1 ex2 ex4 ex5 ex6 ex7 ex8 ex9
  unfold F0_sharePair_75 G0_sharePair_75
  refine sm_rd (x_gR_0_2 H) ?_
  refine sgxV fun c1 => ?_
  refine sm_rd (x_aI_0_2 H rfl c1).1 ?_
  refine sg3V fun c2 => ?_
  refine sg3V fun c3 => ?_
  exact hk9 H rfl qx1 rfl qx2 rfl qx4 rfl qx5 (z3_add rfl rfl) c2 rfl qx7 (z3_add rfl l3_1) c3
theorem S0_sharePair_90 {k9 : PH → Nat → Int32 → Int32 → Int32 → Int32 → Int32 → Int32 → Int32 → Option PH} {kk9 : Mem → Int → Int → Int → Int → Int → Int → Int → Option Mem} (hk9 : ∀ {h : PH} (_ : OKX h) {x2 : Int32} {y2 : Int} (_ : x2 = Z3 y2) (_ : r3 y2) {x3 : Int32} {y3 : Int} (_ : x3 = Z3 y3) (_ : r3 y3) {x4 : Int32} {y4 : Int} (_ : x4 = Z3 y4) (_ : r3 y4) {x5 : Int32} {y5 : Int} (_ : x5 = Z3 y5) (_ : r3 y5) {x6 : Int32} {y6 : Int} (_ : x6 = Z3 y6) (_ : r3 y6) {x7 : Int32} {y7 : Int} (_ : x7 = Z3 y7) (_ : r3 y7) {x8 : Int32} {y8 : Int} (_ : x8 = Z3 y8) (_ : r3 y8), SimV OKX (k9 h 99 x2 x3 x4 x5 x6 x7 x8) (kk9 (rd h) y2 y3 y4 y5 y6 y7 y8)) {h : PH} (H : OKX h) {x1i : Int32} {x1 : Int} (ex1 : x1i = Z3 x1) (qx1 : r3 x1) {x2i : Int32} {x2 : Int} (ex2 : x2i = Z3 x2) (qx2 : r3 x2) {x4i : Int32} {x4 : Int} (ex4 : x4i = Z3 x4) (qx4 : r3 x4) {x5i : Int32} {x5 : Int} (ex5 : x5i = Z3 x5) (qx5 : r3 x5) {x6i : Int32} {x6 : Int} (ex6 : x6i = Z3 x6) (qx6 : r3 x6) {x7i : Int32} {x7 : Int} (ex7 : x7i = Z3 x7) (qx7 : r3 x7) {x8i : Int32} {x8 : Int} (ex8 : x8i = Z3 x8) (qx8 : r3 x8) {x10i : Int32} {x10 : Int} (ex10 : x10i = Z3 x10) (qx10 : r3 x10) : SimV OKX (F0_sharePair_90 k9 h 99 x1i x2i x4i x5i x6i x7i x8i x10i) (G0_sharePair_90 kk9 (rd h) x1 x2 x4 x5 x6 x7 x8 x10) := by
  subst ex1 ex2 ex4 ex5 ex6 ex7 ex8 ex10
  unfold F0_sharePair_90 G0_sharePair_90
  refine sm_rd (x_gR_0_2 H) ?_
  refine sgxV fun c1 => ?_
  refine sm_rd (x_aI_0_2 H rfl c1).1 ?_
  refine sg3V fun c2 => ?_
  refine sg3V fun c3 => ?_
  exact hk9 H rfl qx1 rfl qx2 rfl qx4 rfl qx5 rfl qx6 (z3_add rfl rfl) c2 (z3_add rfl l3_1) c3
theorem S0_sharePair_9 (n : Nat) : ∀ {h : PH} (H : OKX h) {x1i : Int32} {x1 : Int} (ex1 : x1i = Z3 x1) (qx1 : r3 x1) {x2i : Int32} {x2 : Int} (ex2 : x2i = Z3 x2) (qx2 : r3 x2) {x4i : Int32} {x4 : Int} (ex4 : x4i = Z3 x4) (qx4 : r3 x4) {x5i : Int32} {x5 : Int} (ex5 : x5i = Z3 x5) (qx5 : r3 x5) {x6i : Int32} {x6 : Int} (ex6 : x6i = Z3 x6) (qx6 : r3 x6) {x7i : Int32} {x7 : Int} (ex7 : x7i = Z3 x7) (qx7 : r3 x7) {x8i : Int32} {x8 : Int} (ex8 : x8i = Z3 x8) (qx8 : r3 x8), SimV OKX (F0_sharePair_9 n h 99 x1i x2i x4i x5i x6i x7i x8i) (G0_sharePair_9 n (rd h) x1 x2 x4 x5 x6 x7 x8) := by
  induction n with
  | zero => intros; exact smV_none _
  | succ n ih =>
    intro h H x1i x1 ex1 qx1 x2i x2 ex2 qx2 x4i x4 ex4 qx4 x5i x5 ex5 qx5 x6i x6 ex6 qx6 x7i x7 ex7 qx7 x8i x8 ex8 qx8
    subst ex1 ex2 ex4 ex5 ex6 ex7 ex8
    rw [F0_sharePair_9, G0_sharePair_9]
    refine sm_if (z3_le rfl rfl qx4 qx8) ?_ ?_
    · refine sm_rd (x_gR_0_3 H) ?_
      refine sgxV fun c1 => ?_
      refine sm_wt (x_sI_0_3 H (z3_add (z3_mul rfl l3_5) rfl) c1 rfl qx6) fun h5 Hh5 => ?_
      refine sm_rd (x_gR_0_4 Hh5) ?_
      refine sgxV fun c2 => ?_
      refine sm_wt (x_sI_0_4 Hh5 (z3_add (z3_mul rfl l3_5) rfl) c2 rfl qx7) fun h9 Hh9 => ?_
      exact sm_retV Hh9
    · refine sm_rd (x_gR_0_1 H) ?_
      refine sgxV fun c3 => ?_
      refine sm_rd (x_aI_0_1 H (z3_add (z3_mul rfl l3_28) rfl) c3).1 ?_
      refine sm_rd (x_gR_0_1 H) ?_
      refine sgxV fun c4 => ?_
      refine sm_rd (x_aI_0_1 H (z3_add (z3_mul (z3_add l3_5 rfl) l3_28) rfl) c4).1 ?_
      refine sm_if (z3_lt rfl rfl (x_aI_0_1 H (z3_add (z3_mul rfl l3_28) rfl) c3).2 (x_aI_0_1 H (z3_add (z3_mul (z3_add l3_5 rfl) l3_28) rfl) c4).2) ?_ ?_
      · refine sg3V fun c5 => ?_
        exact S0_sharePair_75 (@fun _ H _ _ ex1 qx1 _ _ ex2 qx2 _ _ ex4 qx4 _ _ ex5 qx5 _ _ ex6 qx6 _ _ ex7 qx7 _ _ ex8 qx8 => ih H ex1 qx1 ex2 qx2 ex4 qx4 ex5 qx5 ex6 qx6 ex7 qx7 ex8 qx8) H rfl qx1 rfl qx2 rfl qx4 rfl qx5 rfl qx6 rfl qx7 rfl qx8 (z3_add (z3_mul rfl l3_28) rfl) c5
      · refine sm_rd (x_gR_0_1 H) ?_
        refine sgxV fun c6 => ?_
        refine sm_rd (x_aI_0_1 H (z3_add (z3_mul rfl l3_28) rfl) c6).1 ?_
        refine sm_rd (x_gR_0_1 H) ?_
        refine sgxV fun c7 => ?_
        refine sm_rd (x_aI_0_1 H (z3_add (z3_mul (z3_add l3_5 rfl) l3_28) rfl) c7).1 ?_
        refine sm_if (z3_eq rfl rfl (x_aI_0_1 H (z3_add (z3_mul rfl l3_28) rfl) c6).2 (x_aI_0_1 H (z3_add (z3_mul (z3_add l3_5 rfl) l3_28) rfl) c7).2) ?_ ?_
        · refine sm_if (z3_eq rfl l3_0 qx5 lr3_0) ?_ ?_
          · refine sg3V fun c8 => ?_
            exact S0_sharePair_90 (@fun _ H _ _ ex1 qx1 _ _ ex2 qx2 _ _ ex4 qx4 _ _ ex5 qx5 _ _ ex6 qx6 _ _ ex7 qx7 _ _ ex8 qx8 => ih H ex1 qx1 ex2 qx2 ex4 qx4 ex5 qx5 ex6 qx6 ex7 qx7 ex8 qx8) H rfl qx1 rfl qx2 rfl qx4 rfl qx5 rfl qx6 rfl qx7 rfl qx8 (z3_add (z3_mul (z3_add l3_5 rfl) l3_28) rfl) c8
          · refine sg3V fun c9 => ?_
            exact S0_sharePair_75 (@fun _ H _ _ ex1 qx1 _ _ ex2 qx2 _ _ ex4 qx4 _ _ ex5 qx5 _ _ ex6 qx6 _ _ ex7 qx7 _ _ ex8 qx8 => ih H ex1 qx1 ex2 qx2 ex4 qx4 ex5 qx5 ex6 qx6 ex7 qx7 ex8 qx8) H rfl qx1 rfl qx2 rfl qx4 rfl qx5 rfl qx6 rfl qx7 rfl qx8 (z3_add (z3_mul rfl l3_28) rfl) c9
        · refine sg3V fun c10 => ?_
          exact S0_sharePair_90 (@fun _ H _ _ ex1 qx1 _ _ ex2 qx2 _ _ ex4 qx4 _ _ ex5 qx5 _ _ ex6 qx6 _ _ ex7 qx7 _ _ ex8 qx8 => ih H ex1 qx1 ex2 qx2 ex4 qx4 ex5 qx5 ex6 qx6 ex7 qx7 ex8 qx8) H rfl qx1 rfl qx2 rfl qx4 rfl qx5 rfl qx6 rfl qx7 rfl qx8 (z3_add (z3_mul (z3_add l3_5 rfl) l3_28) rfl) c10
