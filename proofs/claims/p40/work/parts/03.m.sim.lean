/-! The pure functions do so (written by wip/gen/gx.py). -/
theorem S0_isRest_66 {k26 : PH → Nat → Int32 → Int32 → Int32 → Option (Int32 × PH)} {kk26 : Mem → Int → Int → Int → Option (Int × Mem)} (hk26 : ∀ {h : PH} (_ : OKX h) {x2 : Int32} {y2 : Int} (_ : x2 = Z3 y2) (_ : r3 y2) {x3 : Int32} {y3 : Int} (_ : x3 = Z3 y3) (_ : r3 y3) {x4 : Int32} {y4 : Int} (_ : x4 = Z3 y4) (_ : r3 y4), SimI OKX (k26 h 99 x2 x3 x4) (kk26 (rd h) y2 y3 y4)) {h : PH} (H : OKX h) {x1i : Int32} {x1 : Int} (ex1 : x1i = Z3 x1) (qx1 : r3 x1) {x2i : Int32} {x2 : Int} (ex2 : x2i = Z3 x2) (qx2 : r3 x2) {x3i : Int32} {x3 : Int} (ex3 : x3i = Z3 x3) (qx3 : r3 x3) : SimI OKX (F0_isRest_66 k26 h 99 x1i x2i x3i) (G0_isRest_66 kk26 (rd h) x1 x2 x3) := by
  subst ex1 ex2 ex3
  unfold F0_isRest_66 G0_isRest_66
  refine sm_rd (x_gR_0_0 H) ?_
  refine sgxI fun c1 => ?_
  refine sm_rd (x_aI_0_0 H (z3_add l3_5 rfl) c1).1 ?_
  refine sm_if (z3_eq rfl l3_m1 (x_aI_0_0 H (z3_add l3_5 rfl) c1).2 lr3_m1) ?_ ?_
  · refine sg3I fun c2 => ?_
    exact hk26 H rfl qx1 rfl qx2 (z3_add rfl l3_1) c2
  · refine sm_rd (x_gR_0_4 H) ?_
    refine sgxI fun c3 => ?_
    refine sm_rd (x_aI_0_4 H (z3_add (z3_mul rfl l3_5) rfl) c3).1 ?_
    refine sm_rd (x_gR_0_4 H) ?_
    refine sgxI fun c4 => ?_
    refine sm_rd (x_aI_0_4 H (z3_add (z3_mul rfl l3_5) rfl) c4).1 ?_
    refine sm_if (z3_le rfl rfl (x_aI_0_4 H (z3_add (z3_mul rfl l3_5) rfl) c3).2 (x_aI_0_4 H (z3_add (z3_mul rfl l3_5) rfl) c4).2) ?_ ?_
    · refine sg3I fun c5 => ?_
      exact hk26 H rfl qx1 rfl qx2 (z3_add rfl l3_1) c5
    · exact sm_rz H l3_0 (by decide)
theorem S0_isRest_26 (n : Nat) : ∀ {h : PH} (H : OKX h) {x1i : Int32} {x1 : Int} (ex1 : x1i = Z3 x1) (qx1 : r3 x1) {x2i : Int32} {x2 : Int} (ex2 : x2i = Z3 x2) (qx2 : r3 x2) {x3i : Int32} {x3 : Int} (ex3 : x3i = Z3 x3) (qx3 : r3 x3), SimI OKX (F0_isRest_26 n h 99 x1i x2i x3i) (G0_isRest_26 n (rd h) x1 x2 x3) := by
  induction n with
  | zero => intros; exact smI_none _
  | succ n ih =>
    intro h H x1i x1 ex1 qx1 x2i x2 ex2 qx2 x3i x3 ex3 qx3
    subst ex1 ex2 ex3
    rw [F0_isRest_26, G0_isRest_26]
    refine sm_if (z3_le l3_5 rfl lr3_5 qx3) ?_ ?_
    · exact sm_rz H l3_1 (by decide)
    · refine sm_rd (x_gR_0_0 H) ?_
      refine sgxI fun c1 => ?_
      refine sm_rd (x_aI_0_0 H rfl c1).1 ?_
      refine sm_if (z3_eq rfl l3_m1 (x_aI_0_0 H rfl c1).2 lr3_m1) ?_ ?_
      · exact S0_isRest_66 (@fun _ H _ _ ex1 qx1 _ _ ex2 qx2 _ _ ex3 qx3 => ih H ex1 qx1 ex2 qx2 ex3 qx3) H rfl qx1 rfl qx2 rfl qx3
      · refine sm_rd (x_gR_0_3 H) ?_
        refine sgxI fun c2 => ?_
        refine sm_rd (x_aI_0_3 H (z3_add (z3_mul rfl l3_5) rfl) c2).1 ?_
        refine sm_rd (x_gR_0_3 H) ?_
        refine sgxI fun c3 => ?_
        refine sm_rd (x_aI_0_3 H (z3_add (z3_mul rfl l3_5) rfl) c3).1 ?_
        refine sm_if (z3_le rfl rfl (x_aI_0_3 H (z3_add (z3_mul rfl l3_5) rfl) c2).2 (x_aI_0_3 H (z3_add (z3_mul rfl l3_5) rfl) c3).2) ?_ ?_
        · exact S0_isRest_66 (@fun _ H _ _ ex1 qx1 _ _ ex2 qx2 _ _ ex3 qx3 => ih H ex1 qx1 ex2 qx2 ex3 qx3) H rfl qx1 rfl qx2 rfl qx3
        · exact sm_rz H l3_0 (by decide)
theorem S0_isRest_0 {h : PH} (H : OKX h) {x1i : Int32} {x1 : Int} (ex1 : x1i = Z3 x1) (qx1 : r3 x1) {x2i : Int32} {x2 : Int} (ex2 : x2i = Z3 x2) (qx2 : r3 x2) : SimI OKX (F0_isRest_0 h 99 x1i x2i) (G0_isRest_0 (rd h) x1 x2) := by
  subst ex1 ex2
  unfold F0_isRest_0 G0_isRest_0
  refine sm_rd (x_gR_0_0 H) ?_
  refine sgxI fun c1 => ?_
  refine sm_rd (x_aI_0_0 H rfl c1).1 ?_
  refine sm_if (z3_eq rfl l3_m1 (x_aI_0_0 H rfl c1).2 lr3_m1) ?_ ?_
  · exact sm_rz H l3_0 (by decide)
  · refine sm_rd (x_gR_0_0 H) ?_
    refine sgxI fun c2 => ?_
    refine sm_rd (x_aI_0_0 H (z3_add l3_5 rfl) c2).1 ?_
    refine sm_if (z3_eq rfl l3_m1 (x_aI_0_0 H (z3_add l3_5 rfl) c2).2 lr3_m1) ?_ ?_
    · exact sm_rz H l3_0 (by decide)
    · exact S0_isRest_26 1024 H rfl qx1 rfl qx2 l3_0 lr3_0
theorem S0_isRest {h : PH} (H : OKX h) {x1i : Int32} {x1 : Int} (ex1 : x1i = Z3 x1) (qx1 : r3 x1) {x2i : Int32} {x2 : Int} (ex2 : x2i = Z3 x2) (qx2 : r3 x2) : SimI OKX (F0_isRest h 99 x1i x2i) (G0_isRest (rd h) x1 x2) := by
  subst ex1 ex2
  unfold F0_isRest G0_isRest
  refine sm_cd (x_ok_0 H) ?_
  exact S0_isRest_0 H rfl qx1 rfl qx2
theorem S0_findRests_14 {k7 : PH → Nat → Int32 → Option PH} {kk7 : Mem → Int → Option Mem} (hk7 : ∀ {h : PH} (_ : OKX h) {x2 : Int32} {y2 : Int} (_ : x2 = Z3 y2) (_ : r3 y2), SimV OKX (k7 h 99 x2) (kk7 (rd h) y2)) (n : Nat) : ∀ {h : PH} (H : OKX h) {x1i : Int32} {x1 : Int} (ex1 : x1i = Z3 x1) (qx1 : r3 x1) {x2i : Int32} {x2 : Int} (ex2 : x2i = Z3 x2) (qx2 : r3 x2), SimV OKX (F0_findRests_14 k7 n h 99 x1i x2i) (G0_findRests_14 kk7 n (rd h) x1 x2) := by
  induction n with
  | zero => intros; exact smV_none _
  | succ n ih =>
    intro h H x1i x1 ex1 qx1 x2i x2 ex2 qx2
    subst ex1 ex2
    rw [F0_findRests_14, G0_findRests_14]
    refine sm_if (z3_le l3_5 rfl lr3_5 qx2) ?_ ?_
    · refine sg3V fun c1 => ?_
      exact hk7 H (z3_add rfl l3_1) c1
    · refine sm_IV (S0_isRest H rfl qx1 rfl qx2) fun vo2 ho2 Ho2 ro2 => ?_
      refine sm_if (z3_eq rfl l3_0 ro2 lr3_0) ?_ ?_
      · refine sg3V fun c2 => ?_
        exact ih Ho2 rfl qx1 (z3_add rfl l3_1) c2
      · refine sm_rd (x_gR_0_5 Ho2) ?_
        refine sm_rd (x_gI_0_6 Ho2).1 ?_
        refine sgxV fun c3 => ?_
        refine sm_rd (gw_rd rfl c3).1 ?_
        refine sgxV fun c4 => ?_
        refine sm_rd (gw_rd rfl c4).1 ?_
        refine sgxV fun c5 => ?_
        refine sg3V fun c6 => ?_
        refine sm_wt (x_sI_0_5 Ho2 rfl c5 (z3_add (z3_mul l3_10 rfl) rfl) c6) fun h18 Hh18 => ?_
        refine sm_rd (x_gI_0_6 Hh18).1 ?_
        refine sg3V fun c7 => ?_
        refine sm_wt (x_pI_0_6 Hh18 (z3_add rfl l3_1) c7) fun h21 Hh21 => ?_
        refine sg3V fun c8 => ?_
        exact ih Hh21 rfl qx1 (z3_add rfl l3_1) c8
theorem S0_findRests_7 (n : Nat) : ∀ {h : PH} (H : OKX h) {x1i : Int32} {x1 : Int} (ex1 : x1i = Z3 x1) (qx1 : r3 x1), SimV OKX (F0_findRests_7 n h 99 x1i) (G0_findRests_7 n (rd h) x1) := by
  induction n with
  | zero => intros; exact smV_none _
  | succ n ih =>
    intro h H x1i x1 ex1 qx1
    subst ex1
    rw [F0_findRests_7, G0_findRests_7]
    refine sm_if (z3_le l3_5 rfl lr3_5 qx1) ?_ ?_
    · exact sm_retV H
    · exact S0_findRests_14 (@fun _ H _ _ ex1 qx1 => ih H ex1 qx1) 1024 H rfl qx1 l3_0 lr3_0
theorem S0_findRests_0 {h : PH} (H : OKX h) : SimV OKX (F0_findRests_0 h 99) (G0_findRests_0 (rd h)) := by
  unfold F0_findRests_0 G0_findRests_0
  refine sm_wt (x_pI_0_6 H l3_0 lr3_0) fun h1 Hh1 => ?_
  exact S0_findRests_7 1024 Hh1 l3_0 lr3_0
theorem S0_findRests {h : PH} (H : OKX h) : SimV OKX (F0_findRests h 99) (G0_findRests (rd h)) := by
  unfold F0_findRests G0_findRests
  refine sm_cd (x_ok_0 H) ?_
  exact S0_findRests_0 H
theorem S0_listPlan_10 (n : Nat) : ∀ {h : PH} (H : OKX h) {x2i : Int32} {x2 : Int} (ex2 : x2i = Z3 x2) (qx2 : r3 x2) {x3i : Int32} {x3 : Int} (ex3 : x3i = Z3 x3) (qx3 : r3 x3) {x4i : Int32} {x4 : Int} (ex4 : x4i = Z3 x4) (qx4 : r3 x4), SimV OKX (F0_listPlan_10 n h 99 x2i x3i x4i) (G0_listPlan_10 n (rd h) x2 x3 x4) := by
  induction n with
  | zero => intros; exact smV_none _
  | succ n ih =>
    intro h H x2i x2 ex2 qx2 x3i x3 ex3 qx3 x4i x4 ex4 qx4
    subst ex2 ex3 ex4
    rw [F0_listPlan_10, G0_listPlan_10]
    refine sm_if (z3_le rfl rfl qx2 qx4) ?_ ?_
    · exact sm_retV H
    · refine sm_if (z3_lt rfl rfl qx4 qx3) ?_ ?_
      · refine sg3V fun c1 => ?_
        exact ih H rfl qx2 rfl qx3 (z3_add rfl l3_1) c1
      · refine sm_rd (x_gR_0_9 H) ?_
        refine sgxV fun c2 => ?_
        refine sm_rd (x_aI_0_9 H rfl c2).1 ?_
        refine sm_if (z3_eq rfl l3_0 (x_aI_0_9 H rfl c2).2 lr3_0) ?_ ?_
        · refine sg3V fun c3 => ?_
          exact ih H rfl qx2 rfl qx3 (z3_add rfl l3_1) c3
        · refine sm_rd (x_gR_0_10 H) ?_
          refine sm_rd (x_gI_0_11 H).1 ?_
          refine sgxV fun c4 => ?_
          refine sm_wt (x_sI_0_10 H rfl c4 rfl qx4) fun h13 Hh13 => ?_
          refine sm_rd (x_gI_0_11 Hh13).1 ?_
          refine sg3V fun c5 => ?_
          refine sm_wt (x_pI_0_11 Hh13 (z3_add rfl l3_1) c5) fun h16 Hh16 => ?_
          refine sm_rd (x_gR_0_8 Hh16) ?_
          refine sgxV fun c6 => ?_
          refine sm_rd (x_aI_0_8 Hh16 rfl c6).1 ?_
          refine sg3V fun c7 => ?_
          exact ih Hh16 rfl qx2 rfl ((x_aI_0_8 Hh16 rfl c6).2) (z3_add rfl l3_1) c7
theorem S0_listPlan_0 {h : PH} (H : OKX h) {x1i : Int32} {x1 : Int} (ex1 : x1i = Z3 x1) (qx1 : r3 x1) {x2i : Int32} {x2 : Int} (ex2 : x2i = Z3 x2) (qx2 : r3 x2) : SimV OKX (F0_listPlan_0 h 99 x1i x2i) (G0_listPlan_0 (rd h) x1 x2) := by
  subst ex1 ex2
  unfold F0_listPlan_0 G0_listPlan_0
  refine sm_wt (x_pI_0_11 H l3_0 lr3_0) fun h1 Hh1 => ?_
  exact S0_listPlan_10 1024 Hh1 rfl qx2 rfl qx1 rfl qx1
theorem S0_listPlan {h : PH} (H : OKX h) {x1i : Int32} {x1 : Int} (ex1 : x1i = Z3 x1) (qx1 : r3 x1) {x2i : Int32} {x2 : Int} (ex2 : x2i = Z3 x2) (qx2 : r3 x2) : SimV OKX (F0_listPlan h 99 x1i x2i) (G0_listPlan (rd h) x1 x2) := by
  subst ex1 ex2
  unfold F0_listPlan G0_listPlan
  refine sm_cd (x_ok_0 H) ?_
  exact S0_listPlan_0 H rfl qx1 rfl qx2
theorem S10_firstFrom_2 (n : Nat) : ∀ {h : PH} (H : OKX h) {a0 : Nat} (ha0 : A10 a0) {x1i : Int32} {x1 : Int} (ex1 : x1i = Z3 x1) (qx1 : r3 x1) {x2i : Int32} {x2 : Int} (ex2 : x2i = Z3 x2) (qx2 : r3 x2), SimI OKX (F10_firstFrom_2 n h a0 x1i x2i) (G10_firstFrom_2 n (rd h) a0 x1 x2) := by
  induction n with
  | zero => intros; exact smI_none _
  | succ n ih =>
    intro h H a0 ha0 x1i x1 ex1 qx1 x2i x2 ex2 qx2
    subst ex1 ex2
    rw [F10_firstFrom_2, G10_firstFrom_2]
    refine sm_rd (x_gI_10_1 H ha0).1 ?_
    refine sm_if (z3_le rfl rfl (x_gI_10_1 H ha0).2 qx2) ?_ ?_
    · refine sm_rd (x_gI_10_1 H ha0).1 ?_
      exact sm_retI H rfl (x_gI_10_1 H ha0).2
    · refine sm_rd (x_gR_10_4 H ha0) ?_
      refine sgxI fun c1 => ?_
      refine sm_rd (x_aI_10_4 H (ao_10_4 ha0) rfl c1).1 ?_
      refine sm_if (z3_lt rfl rfl (x_aI_10_4 H (ao_10_4 ha0) rfl c1).2 qx1) ?_ ?_
      · refine sg3I fun c2 => ?_
        exact ih H ha0 rfl qx1 (z3_add rfl l3_1) c2
      · exact sm_retI H rfl qx2
theorem S10_firstFrom_0 {h : PH} (H : OKX h) {a0 : Nat} (ha0 : A10 a0) {x1i : Int32} {x1 : Int} (ex1 : x1i = Z3 x1) (qx1 : r3 x1) : SimI OKX (F10_firstFrom_0 h a0 x1i) (G10_firstFrom_0 (rd h) a0 x1) := by
  subst ex1
  unfold F10_firstFrom_0 G10_firstFrom_0
  exact S10_firstFrom_2 1024 H ha0 rfl qx1 l3_0 lr3_0
theorem S10_firstFrom {h : PH} (H : OKX h) {a0 : Nat} (ha0 : A10 a0) {x1i : Int32} {x1 : Int} (ex1 : x1i = Z3 x1) (qx1 : r3 x1) : SimI OKX (F10_firstFrom h a0 x1i) (G10_firstFrom (rd h) a0 x1) := by
  subst ex1
  unfold F10_firstFrom G10_firstFrom
  refine sm_cd (x_ok_10 H ha0) ?_
  exact S10_firstFrom_0 H ha0 rfl qx1
theorem S6_nameAway_0 {h : PH} (H : OKX h) {a0 : Nat} (ha0 : A6 a0) {x1i : Int32} {x1 : Int} (ex1 : x1i = Z3 x1) (qx1 : r3 x1) {x2i : Int32} {x2 : Int} (ex2 : x2i = Z3 x2) (qx2 : r3 x2) : SimV OKX (F6_nameAway_0 h a0 x1i x2i) (G6_nameAway_0 (rd h) a0 x1 x2) := by
  subst ex1 ex2
  unfold F6_nameAway_0 G6_nameAway_0
  refine sm_rd (x_gR_6_4 H ha0) ?_
  refine sm_wt (x_sJ_6_4 H (ao_6_4 ha0) l3_0 ⟨by decide, by decide⟩ l6_0 lr6_0) fun h4 Hh4 => ?_
  refine sm_rd (x_gR_6_4 Hh4 ha0) ?_
  refine sm_wt (x_sJ_6_4 Hh4 (ao_6_4 ha0) l3_1 ⟨by decide, by decide⟩ l6_0 lr6_0) fun h8 Hh8 => ?_
  refine sm_rd (x_gR_6_4 Hh8 ha0) ?_
  refine sm_rd (x_gR_6_1 Hh8 ha0) ?_
  refine sgxV fun c1 => ?_
  refine sm_rd (x_aI_6_1 Hh8 (ao_6_1 ha0) rfl c1).1 ?_
  refine sm_wt (x_sJ_6_4 Hh8 (ao_6_4 ha0) l3_2 ⟨by decide, by decide⟩ (z3_to6 rfl (x_aI_6_1 Hh8 (ao_6_1 ha0) rfl c1).2) (r3_6 (x_aI_6_1 Hh8 (ao_6_1 ha0) rfl c1).2)) fun h16 Hh16 => ?_
  refine sm_rd (x_gR_6_4 Hh16 ha0) ?_
  refine sm_rd (x_gR_6_0 Hh16 ha0) ?_
  refine sm_rd (x_gR_8_5 Hh16 (x_v_6_0 Hh16 ha0)) ?_
  refine sm_rd (x_gR_10_5 Hh16 (ao_8_5 (x_v_6_0 Hh16 ha0))) ?_
  refine sgxV fun c2 => ?_
  refine sm_rd (x_aI_10_5 Hh16 (ao_10_5 (ao_8_5 (x_v_6_0 Hh16 ha0))) rfl c2).1 ?_
  refine sm_wt (x_sJ_6_4 Hh16 (ao_6_4 ha0) l3_3 ⟨by decide, by decide⟩ (z3_to6 rfl (x_aI_10_5 Hh16 (ao_10_5 (ao_8_5 (x_v_6_0 Hh16 ha0))) rfl c2).2) (r3_6 (x_aI_10_5 Hh16 (ao_10_5 (ao_8_5 (x_v_6_0 Hh16 ha0))) rfl c2).2)) fun h28 Hh28 => ?_
  refine sm_rd (x_gR_6_4 Hh28 ha0) ?_
  refine sm_rd (x_gR_6_0 Hh28 ha0) ?_
  refine sm_rd (x_gR_8_5 Hh28 (x_v_6_0 Hh28 ha0)) ?_
  refine sm_rd (x_gR_10_4 Hh28 (ao_8_5 (x_v_6_0 Hh28 ha0))) ?_
  refine sgxV fun c3 => ?_
  refine sm_rd (x_aI_10_4 Hh28 (ao_10_4 (ao_8_5 (x_v_6_0 Hh28 ha0))) rfl c3).1 ?_
  refine sm_wt (x_sJ_6_4 Hh28 (ao_6_4 ha0) l3_4 ⟨by decide, by decide⟩ (z3_to6 rfl (x_aI_10_4 Hh28 (ao_10_4 (ao_8_5 (x_v_6_0 Hh28 ha0))) rfl c3).2) (r3_6 (x_aI_10_4 Hh28 (ao_10_4 (ao_8_5 (x_v_6_0 Hh28 ha0))) rfl c3).2)) fun h40 Hh40 => ?_
  refine sm_rd (x_gR_6_4 Hh40 ha0) ?_
  refine sm_rd (x_gR_6_0 Hh40 ha0) ?_
  refine sm_rd (x_gR_8_5 Hh40 (x_v_6_0 Hh40 ha0)) ?_
  refine sm_rd (x_gR_10_7 Hh40 (ao_8_5 (x_v_6_0 Hh40 ha0))) ?_
  refine sgxV fun c4 => ?_
  refine sm_rd (x_aI_10_7 Hh40 (ao_10_7 (ao_8_5 (x_v_6_0 Hh40 ha0))) rfl c4).1 ?_
  refine sm_wt (x_sJ_6_4 Hh40 (ao_6_4 ha0) l3_5 ⟨by decide, by decide⟩ (z3_to6 rfl (x_aI_10_7 Hh40 (ao_10_7 (ao_8_5 (x_v_6_0 Hh40 ha0))) rfl c4).2) (r3_6 (x_aI_10_7 Hh40 (ao_10_7 (ao_8_5 (x_v_6_0 Hh40 ha0))) rfl c4).2)) fun h52 Hh52 => ?_
  exact sm_retV Hh52
theorem S6_nameAway {h : PH} (H : OKX h) {a0 : Nat} (ha0 : A6 a0) {x1i : Int32} {x1 : Int} (ex1 : x1i = Z3 x1) (qx1 : r3 x1) {x2i : Int32} {x2 : Int} (ex2 : x2i = Z3 x2) (qx2 : r3 x2) : SimV OKX (F6_nameAway h a0 x1i x2i) (G6_nameAway (rd h) a0 x1 x2) := by
  subst ex1 ex2
  unfold F6_nameAway G6_nameAway
  refine sm_cd (x_ok_6 H ha0) ?_
  exact S6_nameAway_0 H ha0 rfl qx1 rfl qx2
theorem S2_oneIf_0 {h : PH} (H : OKX h) {x0i : Int32} {x0 : Int} (ex0 : x0i = Z3 x0) (qx0 : r3 x0) : SimJ OKX (F2_oneIf_0 h x0i) (G2_oneIf_0 (rd h) x0) := by
  subst ex0
  unfold F2_oneIf_0 G2_oneIf_0
  refine sm_if (z3_eq rfl l3_0 qx0 lr3_0) ?_ ?_
  · exact sm_retJ H l6_0 lr6_0
  · exact sm_retJ H l6_1 lr6_1
theorem S2_oneIf {h : PH} (H : OKX h) {x0i : Int32} {x0 : Int} (ex0 : x0i = Z3 x0) (qx0 : r3 x0) : SimJ OKX (F2_oneIf h x0i) (G2_oneIf (rd h) x0) := by
  subst ex0
  unfold F2_oneIf G2_oneIf
  exact S2_oneIf_0 H rfl qx0
theorem S2_product_26 {h : PH} (H : OKX h) {j0i : Int64} {j0 : Int} (ej0 : j0i = Z6 j0) (qj0 : r6 j0) {j2i : Int64} {j2 : Int} (ej2 : j2i = Z6 j2) (qj2 : r6 j2) {j4i : Int64} {j4 : Int} (ej4 : j4i = Z6 j4) (qj4 : r6 j4) {t0i : Int64} {t0 : Int} (et0 : t0i = Z6 t0) (qt0 : r6 t0) : SimJ OKX (F2_product_26 h j0i j2i j4i t0i) (G2_product_26 (rd h) j0 j2 j4 t0) := by
  subst ej0 ej2 ej4 et0
  unfold F2_product_26 G2_product_26
  refine sm_if (cmp_le rfl l6_0 qt0 lr6_0) ?_ ?_
  · refine sg6J fun c1 => ?_
    exact sm_retJ H (z6_mul rfl rfl) c1
  · refine sm_if (z6_eq rfl l6_0 qt0 lr6_0) ?_ ?_
    · exact smJ_none _
    · refine sg6J fun c2 => ?_
      refine sm_if (cmp_le rfl (z6_div l6_1000000000000 rfl lr6_1000000000000 qt0) qj4 c2) ?_ ?_
      · refine sg6J fun c3 => ?_
        exact sm_retJ H (z6_mul rfl rfl) c3
      · exact sm_retJ H l6_m9223372036854775808 lr6_m9223372036854775808
theorem S2_product_12 {h : PH} (H : OKX h) {j0i : Int64} {j0 : Int} (ej0 : j0i = Z6 j0) (qj0 : r6 j0) {j2i : Int64} {j2 : Int} (ej2 : j2i = Z6 j2) (qj2 : r6 j2) {t0i : Int64} {t0 : Int} (et0 : t0i = Z6 t0) (qt0 : r6 t0) : SimJ OKX (F2_product_12 h j0i j2i t0i) (G2_product_12 (rd h) j0 j2 t0) := by
  subst ej0 ej2 et0
  unfold F2_product_12 G2_product_12
  refine sm_if (cmp_ge rfl l6_0 qj2 lr6_0) ?_ ?_
  · exact S2_product_26 H rfl qj0 rfl qj2 rfl qt0 rfl qj2
  · refine sg6J fun c1 => ?_
    exact S2_product_26 H rfl qj0 rfl qj2 rfl qt0 (z6_neg rfl) c1
theorem S2_product_0 {h : PH} (H : OKX h) {j0i : Int64} {j0 : Int} (ej0 : j0i = Z6 j0) (qj0 : r6 j0) {j2i : Int64} {j2 : Int} (ej2 : j2i = Z6 j2) (qj2 : r6 j2) : SimJ OKX (F2_product_0 h j0i j2i) (G2_product_0 (rd h) j0 j2) := by
  subst ej0 ej2
  unfold F2_product_0 G2_product_0
  refine sm_if (cmp_ge rfl l6_0 qj0 lr6_0) ?_ ?_
  · exact S2_product_12 H rfl qj0 rfl qj2 rfl qj0
  · refine sg6J fun c1 => ?_
    exact S2_product_12 H rfl qj0 rfl qj2 (z6_neg rfl) c1
theorem S2_product {h : PH} (H : OKX h) {j0i : Int64} {j0 : Int} (ej0 : j0i = Z6 j0) (qj0 : r6 j0) {j2i : Int64} {j2 : Int} (ej2 : j2i = Z6 j2) (qj2 : r6 j2) : SimJ OKX (F2_product h j0i j2i) (G2_product (rd h) j0 j2) := by
  subst ej0 ej2
  unfold F2_product G2_product
  exact S2_product_0 H rfl qj0 rfl qj2
theorem S2_join_134 {h : PH} (H : OKX h) {s0i : Int32} {s0 : Int} (es0 : s0i = Z3 s0) (qs0 : r3 s0) : SimJ OKX (F2_join_134 h s0i) (G2_join_134 (rd h) s0) := by
  subst es0
  unfold F2_join_134 G2_join_134
  refine sm_JJ (S2_oneIf H rfl qs0) fun vo1 ho1 Ho1 ro1 => ?_
  exact sm_retJ Ho1 rfl ro1
theorem S2_join_133 {h : PH} (H : OKX h) : SimJ OKX (F2_join_133 h) (G2_join_133 (rd h)) := by
  unfold F2_join_133 G2_join_133
  exact S2_join_134 H l3_0 lr3_0
theorem S2_join_113 {h : PH} (H : OKX h) {s0i : Int32} {s0 : Int} (es0 : s0i = Z3 s0) (qs0 : r3 s0) : SimJ OKX (F2_join_113 h s0i) (G2_join_113 (rd h) s0) := by
  subst es0
  unfold F2_join_113 G2_join_113
  refine sm_JJ (S2_oneIf H rfl qs0) fun vo1 ho1 Ho1 ro1 => ?_
  exact sm_retJ Ho1 rfl ro1
theorem S2_join_108 {h : PH} (H : OKX h) : SimJ OKX (F2_join_108 h) (G2_join_108 (rd h)) := by
  unfold F2_join_108 G2_join_108
  exact S2_join_113 H l3_1 lr3_1
theorem S2_join_149 {h : PH} (H : OKX h) {s0i : Int32} {s0 : Int} (es0 : s0i = Z3 s0) (qs0 : r3 s0) : SimJ OKX (F2_join_149 h s0i) (G2_join_149 (rd h) s0) := by
  subst es0
  unfold F2_join_149 G2_join_149
  refine sm_JJ (S2_oneIf H rfl qs0) fun vo1 ho1 Ho1 ro1 => ?_
  exact sm_retJ Ho1 rfl ro1
theorem S2_join_164 {h : PH} (H : OKX h) {s0i : Int32} {s0 : Int} (es0 : s0i = Z3 s0) (qs0 : r3 s0) : SimJ OKX (F2_join_164 h s0i) (G2_join_164 (rd h) s0) := by
  subst es0
  unfold F2_join_164 G2_join_164
  refine sm_JJ (S2_oneIf H rfl qs0) fun vo1 ho1 Ho1 ro1 => ?_
  exact sm_retJ Ho1 rfl ro1
theorem S2_join_179 {h : PH} (H : OKX h) {s0i : Int32} {s0 : Int} (es0 : s0i = Z3 s0) (qs0 : r3 s0) : SimJ OKX (F2_join_179 h s0i) (G2_join_179 (rd h) s0) := by
  subst es0
  unfold F2_join_179 G2_join_179
  refine sm_JJ (S2_oneIf H rfl qs0) fun vo1 ho1 Ho1 ro1 => ?_
  exact sm_retJ Ho1 rfl ro1
theorem S2_join_194 {h : PH} (H : OKX h) {s0i : Int32} {s0 : Int} (es0 : s0i = Z3 s0) (qs0 : r3 s0) : SimJ OKX (F2_join_194 h s0i) (G2_join_194 (rd h) s0) := by
  subst es0
  unfold F2_join_194 G2_join_194
  refine sm_JJ (S2_oneIf H rfl qs0) fun vo1 ho1 Ho1 ro1 => ?_
  exact sm_retJ Ho1 rfl ro1
theorem S2_join_209 {h : PH} (H : OKX h) {s0i : Int32} {s0 : Int} (es0 : s0i = Z3 s0) (qs0 : r3 s0) : SimJ OKX (F2_join_209 h s0i) (G2_join_209 (rd h) s0) := by
  subst es0
  unfold F2_join_209 G2_join_209
  refine sm_JJ (S2_oneIf H rfl qs0) fun vo1 ho1 Ho1 ro1 => ?_
  exact sm_retJ Ho1 rfl ro1
theorem S2_join_224 {h : PH} (H : OKX h) {s0i : Int32} {s0 : Int} (es0 : s0i = Z3 s0) (qs0 : r3 s0) : SimJ OKX (F2_join_224 h s0i) (G2_join_224 (rd h) s0) := by
  subst es0
  unfold F2_join_224 G2_join_224
  refine sm_JJ (S2_oneIf H rfl qs0) fun vo1 ho1 Ho1 ro1 => ?_
  exact sm_retJ Ho1 rfl ro1
theorem S2_join_0 {h : PH} (H : OKX h) {x0i : Int32} {x0 : Int} (ex0 : x0i = Z3 x0) (qx0 : r3 x0) {j1i : Int64} {j1 : Int} (ej1 : j1i = Z6 j1) (qj1 : r6 j1) {j3i : Int64} {j3 : Int} (ej3 : j3i = Z6 j3) (qj3 : r6 j3) : SimJ OKX (F2_join_0 h x0i j1i j3i) (G2_join_0 (rd h) x0 j1 j3) := by
  subst ex0 ej1 ej3
  unfold F2_join_0 G2_join_0
  refine sm_if (z3_eq rfl l3_16 qx0 lr3_16) ?_ ?_
  · refine sm_if (cmp_eq rfl l6_0 qj1 lr6_0) ?_ ?_
    · exact S2_join_133 H
    · refine sm_if (cmp_eq rfl l6_0 qj3 lr6_0) ?_ ?_
      · exact S2_join_133 H
      · exact S2_join_134 H l3_1 lr3_1
  · refine sm_if (z3_eq rfl l3_17 qx0 lr3_17) ?_ ?_
    · refine sm_if (cmp_eq rfl l6_0 qj1 lr6_0) ?_ ?_
      · refine sm_if (cmp_eq rfl l6_0 qj3 lr6_0) ?_ ?_
        · exact S2_join_113 H l3_0 lr3_0
        · exact S2_join_108 H
      · exact S2_join_108 H
    · refine sm_if (z3_eq rfl l3_26 qx0 lr3_26) ?_ ?_
      · refine sm_if (cmp_ge rfl rfl qj1 qj3) ?_ ?_
        · exact S2_join_149 H l3_0 lr3_0
        · exact S2_join_149 H l3_1 lr3_1
      · refine sm_if (z3_eq rfl l3_27 qx0 lr3_27) ?_ ?_
        · refine sm_if (cmp_gt rfl rfl qj1 qj3) ?_ ?_
          · exact S2_join_164 H l3_0 lr3_0
          · exact S2_join_164 H l3_1 lr3_1
        · refine sm_if (z3_eq rfl l3_28 qx0 lr3_28) ?_ ?_
          · refine sm_if (cmp_eq rfl rfl qj1 qj3) ?_ ?_
            · exact S2_join_179 H l3_1 lr3_1
            · exact S2_join_179 H l3_0 lr3_0
          · refine sm_if (z3_eq rfl l3_29 qx0 lr3_29) ?_ ?_
            · refine sm_if (cmp_eq rfl rfl qj1 qj3) ?_ ?_
              · exact S2_join_194 H l3_0 lr3_0
              · exact S2_join_194 H l3_1 lr3_1
            · refine sm_if (z3_eq rfl l3_30 qx0 lr3_30) ?_ ?_
              · refine sm_if (cmp_lt rfl rfl qj1 qj3) ?_ ?_
                · exact S2_join_209 H l3_0 lr3_0
                · exact S2_join_209 H l3_1 lr3_1
              · refine sm_if (z3_eq rfl l3_31 qx0 lr3_31) ?_ ?_
                · refine sm_if (cmp_le rfl rfl qj1 qj3) ?_ ?_
                  · exact S2_join_224 H l3_0 lr3_0
                  · exact S2_join_224 H l3_1 lr3_1
                · refine sm_if (z3_eq rfl l3_32 qx0 lr3_32) ?_ ?_
                  · refine sg6J fun c1 => ?_
                    exact sm_retJ H (z6_add rfl rfl) c1
                  · refine sm_if (z3_eq rfl l3_33 qx0 lr3_33) ?_ ?_
                    · refine sg6J fun c2 => ?_
                      exact sm_retJ H (z6_sub rfl rfl) c2
                    · refine sm_if (z3_eq rfl l3_34 qx0 lr3_34) ?_ ?_
                      · refine sm_JJ (S2_product H rfl qj1 rfl qj3) fun vo22 ho22 Ho22 ro22 => ?_
                        exact sm_retJ Ho22 rfl ro22
                      · refine sm_if (z3_eq rfl l3_35 qx0 lr3_35) ?_ ?_
                        · refine sm_if (cmp_eq rfl l6_0 qj3 lr6_0) ?_ ?_
                          · exact sm_retJ H l6_m9223372036854775808 lr6_m9223372036854775808
                          · refine sm_if (z6_eq rfl l6_0 qj3 lr6_0) ?_ ?_
                            · exact smJ_none _
                            · refine sg6J fun c3 => ?_
                              exact sm_retJ H (z6_div rfl rfl qj1 qj3) c3
                        · exact sm_retJ H l6_m9223372036854775808 lr6_m9223372036854775808
theorem S2_join {h : PH} (H : OKX h) {x0i : Int32} {x0 : Int} (ex0 : x0i = Z3 x0) (qx0 : r3 x0) {j1i : Int64} {j1 : Int} (ej1 : j1i = Z6 j1) (qj1 : r6 j1) {j3i : Int64} {j3 : Int} (ej3 : j3i = Z6 j3) (qj3 : r6 j3) : SimJ OKX (F2_join h x0i j1i j3i) (G2_join (rd h) x0 j1 j3) := by
  subst ex0 ej1 ej3
  unfold F2_join G2_join
  exact S2_join_0 H rfl qx0 rfl qj1 rfl qj3
theorem S2_valueFor_177 {h : PH} (H : OKX h) {a2 : Nat} (ha2 : R6_5 a2) {x3i : Int32} {x3 : Int} (ex3 : x3i = Z3 x3) (qx3 : r3 x3) : SimJ OKX (F2_valueFor_177 h a2 x3i) (G2_valueFor_177 (rd h) a2 x3) := by
  subst ex3
  unfold F2_valueFor_177 G2_valueFor_177
  refine sm_if (z3_eq rfl l3_1 qx3 lr3_1) ?_ ?_
  · refine sm_rd (x_aJ_6_5 H ha2 l3_0 ⟨by decide, by decide⟩).1 ?_
    exact sm_retJ H rfl (x_aJ_6_5 H ha2 l3_0 ⟨by decide, by decide⟩).2
  · exact sm_retJ H l6_m9223372036854775808 lr6_m9223372036854775808
theorem S2_valueFor_119 {k5 : PH → Nat → Nat → Nat → Int32 → Int32 → Option (Int64 × PH)} {kk5 : Mem → Nat → Nat → Nat → Int → Int → Option (Int × Mem)} (hk5 : ∀ {h : PH} (_ : OKX h) {a1 : Nat} (_ : A2 a1) {a2 : Nat} (_ : R6_4 a2) {a3 : Nat} (_ : R6_5 a3) {x4 : Int32} {y4 : Int} (_ : x4 = Z3 y4) (_ : r3 y4) {x5 : Int32} {y5 : Int} (_ : x5 = Z3 y5) (_ : r3 y5), SimJ OKX (k5 h a1 a2 a3 x4 x5) (kk5 (rd h) a1 a2 a3 y4 y5)) {h : PH} (H : OKX h) {a0 : Nat} (ha0 : A2 a0) {a1 : Nat} (ha1 : R6_4 a1) {a2 : Nat} (ha2 : R6_5 a2) {x3i : Int32} {x3 : Int} (ex3 : x3i = Z3 x3) (qx3 : r3 x3) {x4i : Int32} {x4 : Int} (ex4 : x4i = Z3 x4) (qx4 : r3 x4) {x5i : Int32} {x5 : Int} (ex5 : x5i = Z3 x5) (qx5 : r3 x5) : SimJ OKX (F2_valueFor_119 k5 h a0 a1 a2 x3i x4i x5i) (G2_valueFor_119 kk5 (rd h) a0 a1 a2 x3 x4 x5) := by
  subst ex3 ex4 ex5
  unfold F2_valueFor_119 G2_valueFor_119
  refine sm_if (z3_le rfl l3_1 qx3 lr3_1) ?_ ?_
  · refine sg3J fun c1 => ?_
    exact hk5 H ha0 ha1 ha2 rfl qx3 (z3_add rfl l3_1) c1
  · refine sgxJ fun c2 => ?_
    refine sm_rd (x_aJ_6_5 H ha2 (z3_sub (z3_add rfl l3_m1) l3_1) c2).1 ?_
    refine sgxJ fun c3 => ?_
    refine sm_rd (x_aJ_6_5 H ha2 (z3_add rfl l3_m1) c3).1 ?_
    refine sm_JJ (S2_join H rfl qx5 rfl ((x_aJ_6_5 H ha2 (z3_sub (z3_add rfl l3_m1) l3_1) c2).2) rfl ((x_aJ_6_5 H ha2 (z3_add rfl l3_m1) c3).2)) fun vo6 ho6 Ho6 ro6 => ?_
    refine sm_if (cmp_gt rfl l6_1000000000000 ro6 lr6_1000000000000) ?_ ?_
    · exact sm_retJ Ho6 l6_m9223372036854775808 lr6_m9223372036854775808
    · refine sm_if (cmp_ge rfl l6_m1000000000000 ro6 lr6_m1000000000000) ?_ ?_
      · refine sgxJ fun c4 => ?_
        refine sm_wt (x_sJ_6_5 Ho6 ha2 (z3_sub (z3_add rfl l3_m1) l3_1) c4 rfl ro6) fun h11 Hh11 => ?_
        refine sg3J fun c5 => ?_
        refine sg3J fun c6 => ?_
        exact hk5 Hh11 ha0 ha1 ha2 (z3_add rfl l3_m1) c5 (z3_add rfl l3_1) c6
      · exact sm_retJ Ho6 l6_m9223372036854775808 lr6_m9223372036854775808
theorem S2_valueFor_115 {k5 : PH → Nat → Nat → Nat → Int32 → Int32 → Option (Int64 × PH)} {kk5 : Mem → Nat → Nat → Nat → Int → Int → Option (Int × Mem)} (hk5 : ∀ {h : PH} (_ : OKX h) {a1 : Nat} (_ : A2 a1) {a2 : Nat} (_ : R6_4 a2) {a3 : Nat} (_ : R6_5 a3) {x4 : Int32} {y4 : Int} (_ : x4 = Z3 y4) (_ : r3 y4) {x5 : Int32} {y5 : Int} (_ : x5 = Z3 y5) (_ : r3 y5), SimJ OKX (k5 h a1 a2 a3 x4 x5) (kk5 (rd h) a1 a2 a3 y4 y5)) {h : PH} (H : OKX h) {a0 : Nat} (ha0 : A2 a0) {a1 : Nat} (ha1 : R6_4 a1) {a2 : Nat} (ha2 : R6_5 a2) {x3i : Int32} {x3 : Int} (ex3 : x3i = Z3 x3) (qx3 : r3 x3) {x4i : Int32} {x4 : Int} (ex4 : x4i = Z3 x4) (qx4 : r3 x4) {t0i : Int64} {t0 : Int} (et0 : t0i = Z6 t0) (qt0 : r6 t0) {s1i : Int32} {s1 : Int} (es1 : s1i = Z3 s1) (qs1 : r3 s1) {u2 : Nat} (hu2 : R6_5 u2) : SimJ OKX (F2_valueFor_115 k5 h a0 a1 a2 x3i x4i t0i s1i u2) (G2_valueFor_115 kk5 (rd h) a0 a1 a2 x3 x4 t0 s1 u2) := by
  subst ex3 ex4 et0 es1
  unfold F2_valueFor_115 G2_valueFor_115
  refine sgxJ fun c1 => ?_
  refine sm_wt (x_sJ_6_5 H hu2 rfl c1 rfl qt0) fun h2 Hh2 => ?_
  refine sg3J fun c2 => ?_
  exact hk5 Hh2 ha0 ha1 ha2 rfl qx3 (z3_add rfl l3_1) c2
theorem S2_valueFor_85 {k5 : PH → Nat → Nat → Nat → Int32 → Int32 → Option (Int64 × PH)} {kk5 : Mem → Nat → Nat → Nat → Int → Int → Option (Int × Mem)} (hk5 : ∀ {h : PH} (_ : OKX h) {a1 : Nat} (_ : A2 a1) {a2 : Nat} (_ : R6_4 a2) {a3 : Nat} (_ : R6_5 a3) {x4 : Int32} {y4 : Int} (_ : x4 = Z3 y4) (_ : r3 y4) {x5 : Int32} {y5 : Int} (_ : x5 = Z3 y5) (_ : r3 y5), SimJ OKX (k5 h a1 a2 a3 x4 x5) (kk5 (rd h) a1 a2 a3 y4 y5)) {h : PH} (H : OKX h) {a0 : Nat} (ha0 : A2 a0) {a1 : Nat} (ha1 : R6_4 a1) {a2 : Nat} (ha2 : R6_5 a2) {x3i : Int32} {x3 : Int} (ex3 : x3i = Z3 x3) (qx3 : r3 x3) {x4i : Int32} {x4 : Int} (ex4 : x4i = Z3 x4) (qx4 : r3 x4) {x5i : Int32} {x5 : Int} (ex5 : x5i = Z3 x5) (qx5 : r3 x5) : SimJ OKX (F2_valueFor_85 k5 h a0 a1 a2 x3i x4i x5i) (G2_valueFor_85 kk5 (rd h) a0 a1 a2 x3 x4 x5) := by
  subst ex3 ex4 ex5
  unfold F2_valueFor_85 G2_valueFor_85
  refine sm_if (z3_eq rfl l3_15 qx5 lr3_15) ?_ ?_
  · refine sm_if (z3_le rfl l3_0 qx3 lr3_0) ?_ ?_
    · exact S2_valueFor_119 hk5 H ha0 ha1 ha2 rfl qx3 rfl qx4 rfl qx5
    · refine sgxJ fun c1 => ?_
      refine sm_rd (x_aJ_6_5 H ha2 (z3_sub rfl l3_1) c1).1 ?_
      refine sm_if (cmp_eq rfl l6_0 (x_aJ_6_5 H ha2 (z3_sub rfl l3_1) c1).2 lr6_0) ?_ ?_
      · refine sg3J fun c2 => ?_
        exact S2_valueFor_115 hk5 H ha0 ha1 ha2 rfl qx3 rfl qx4 l6_1 lr6_1 (z3_sub rfl l3_1) c2 ha2
      · refine sg3J fun c3 => ?_
        exact S2_valueFor_115 hk5 H ha0 ha1 ha2 rfl qx3 rfl qx4 l6_0 lr6_0 (z3_sub rfl l3_1) c3 ha2
  · exact S2_valueFor_119 hk5 H ha0 ha1 ha2 rfl qx3 rfl qx4 rfl qx5
theorem S2_valueFor_5 (n : Nat) : ∀ {h : PH} (H : OKX h) {a0 : Nat} (ha0 : A2 a0) {a1 : Nat} (ha1 : R6_4 a1) {a2 : Nat} (ha2 : R6_5 a2) {x3i : Int32} {x3 : Int} (ex3 : x3i = Z3 x3) (qx3 : r3 x3) {x4i : Int32} {x4 : Int} (ex4 : x4i = Z3 x4) (qx4 : r3 x4), SimJ OKX (F2_valueFor_5 n h a0 a1 a2 x3i x4i) (G2_valueFor_5 n (rd h) a0 a1 a2 x3 x4) := by
  induction n with
  | zero => intros; exact smJ_none _
  | succ n ih =>
    intro h H a0 ha0 a1 ha1 a2 ha2 x3i x3 ex3 qx3 x4i x4 ex4 qx4
    subst ex3 ex4
    rw [F2_valueFor_5, G2_valueFor_5]
    refine sm_rd (x_gI_2_1 H ha0).1 ?_
    refine sm_if (z3_le rfl rfl (x_gI_2_1 H ha0).2 qx4) ?_ ?_
    · exact S2_valueFor_177 H ha2 rfl qx3
    · refine sm_rd (x_aL_6_5 H ha2) ?_
      refine sm_if (z3_le rfl rfl lr3_64 qx3) ?_ ?_
      · exact S2_valueFor_177 H ha2 rfl qx3
      · refine sm_rd (x_gR_2_0 H ha0) ?_
        refine sgxJ fun c1 => ?_
        refine sm_rd (x_aI_2_0 H (ao_2_0 ha0) rfl c1).1 ?_
        refine sg3J fun c2 => ?_
        refine sm_if (z3_le l3_0 (z3_sub rfl l3_10000) lr3_0 c2) ?_ ?_
        · refine sg3J fun c3 => ?_
          refine sm_if (z3_lt (z3_sub rfl l3_10000) l3_18 c3 lr3_18) ?_ ?_
          · refine sg3J fun c4 => ?_
            exact S2_valueFor_85 (@fun _ H _ ha0 _ ha1 _ ha2 _ _ ex3 qx3 _ _ ex4 qx4 => ih H ha0 ha1 ha2 ex3 qx3 ex4 qx4) H ha0 ha1 ha2 rfl qx3 rfl qx4 (z3_sub rfl l3_10000) c4
          · refine sg3J fun c5 => ?_
            refine sm_if (z3_le l3_24 (z3_sub rfl l3_10000) lr3_24 c5) ?_ ?_
            · refine sg3J fun c6 => ?_
              exact S2_valueFor_85 (@fun _ H _ ha0 _ ha1 _ ha2 _ _ ex3 qx3 _ _ ex4 qx4 => ih H ha0 ha1 ha2 ex3 qx3 ex4 qx4) H ha0 ha1 ha2 rfl qx3 rfl qx4 (z3_sub rfl l3_10000) c6
            · refine sgxJ fun c7 => ?_
              refine sm_rd (x_aJ_6_4 H ha1 (z3_sub (z3_sub rfl l3_10000) l3_18) c7).1 ?_
              refine sgxJ fun c8 => ?_
              refine sm_wt (x_sJ_6_5 H ha2 rfl c8 rfl (x_aJ_6_4 H ha1 (z3_sub (z3_sub rfl l3_10000) l3_18) c7).2) fun h17 Hh17 => ?_
              refine sg3J fun c9 => ?_
              refine sg3J fun c10 => ?_
              exact ih Hh17 ha0 ha1 ha2 (z3_add rfl l3_1) c9 (z3_add rfl l3_1) c10
        · refine sm_rd (x_gR_2_0 H ha0) ?_
          refine sgxJ fun c11 => ?_
          refine sm_rd (x_aI_2_0 H (ao_2_0 ha0) rfl c11).1 ?_
          refine sgxJ fun c12 => ?_
          refine sm_wt (x_sJ_6_5 H ha2 rfl c12 (z3_to6 rfl (x_aI_2_0 H (ao_2_0 ha0) rfl c11).2) (r3_6 (x_aI_2_0 H (ao_2_0 ha0) rfl c11).2)) fun h23 Hh23 => ?_
          refine sg3J fun c13 => ?_
          refine sg3J fun c14 => ?_
          exact ih Hh23 ha0 ha1 ha2 (z3_add rfl l3_1) c13 (z3_add rfl l3_1) c14
theorem S2_valueFor_0 {h : PH} (H : OKX h) {a0 : Nat} (ha0 : A2 a0) {a1 : Nat} (ha1 : R6_4 a1) {a2 : Nat} (ha2 : R6_5 a2) : SimJ OKX (F2_valueFor_0 h a0 a1 a2) (G2_valueFor_0 (rd h) a0 a1 a2) := by
  unfold F2_valueFor_0 G2_valueFor_0
  exact S2_valueFor_5 1024 H ha0 ha1 ha2 l3_0 lr3_0 l3_0 lr3_0
theorem S2_valueFor {h : PH} (H : OKX h) {a0 : Nat} (ha0 : A2 a0) {a1 : Nat} (ha1 : R6_4 a1) {a2 : Nat} (ha2 : R6_5 a2) : SimJ OKX (F2_valueFor h a0 a1 a2) (G2_valueFor (rd h) a0 a1 a2) := by
  unfold F2_valueFor G2_valueFor
  refine sm_cd (x_ok_2 H ha0) ?_
  exact S2_valueFor_0 H ha0 ha1 ha2
theorem S6_awayFor_0 {h : PH} (H : OKX h) {a0 : Nat} (ha0 : A6 a0) {x1i : Int32} {x1 : Int} (ex1 : x1i = Z3 x1) (qx1 : r3 x1) {x2i : Int32} {x2 : Int} (ex2 : x2i = Z3 x2) (qx2 : r3 x2) : SimI OKX (F6_awayFor_0 h a0 x1i x2i) (G6_awayFor_0 (rd h) a0 x1 x2) := by
  subst ex1 ex2
  unfold F6_awayFor_0 G6_awayFor_0
  refine sm_VI (S6_nameAway H ha0 rfl qx1 rfl qx2) fun ho1 Ho1 => ?_
  refine sm_rd (x_gR_6_0 Ho1 ha0) ?_
  refine sm_rd (x_gR_8_11 Ho1 (x_v_6_0 Ho1 ha0)) ?_
  refine sm_rd (x_aR Ho1 (ao_8_11 (x_v_6_0 Ho1 ha0)) l3_2 (by decide)) ?_
  refine sm_rd (x_gR_6_4 Ho1 ha0) ?_
  refine sm_rd (x_gR_6_5 Ho1 ha0) ?_
  refine sm_JI (S2_valueFor Ho1 (x_aRp (ao_8_11 (x_v_6_0 Ho1 ha0)) (by decide)) (ao_6_4 ha0) (ao_6_5 ha0)) fun vo13 ho13 Ho13 ro13 => ?_
  refine sm_if (cmp_eq rfl l6_m9223372036854775808 ro13 lr6_m9223372036854775808) ?_ ?_
  · exact sm_retI Ho13 l3_5 lr3_5
  · refine sg3I fun c1 => ?_
    exact sm_retI Ho13 (z6_to3 (z6_ite (z6_lt (z6_ite (z6_lt rfl l6_30 ro13 lr6_30) rfl l6_30) l6_1 (r6_ite ro13 lr6_30) lr6_1) l6_1 (z6_ite (z6_lt rfl l6_30 ro13 lr6_30) rfl l6_30))) c1
theorem S6_awayFor {h : PH} (H : OKX h) {a0 : Nat} (ha0 : A6 a0) {x1i : Int32} {x1 : Int} (ex1 : x1i = Z3 x1) (qx1 : r3 x1) {x2i : Int32} {x2 : Int} (ex2 : x2i = Z3 x2) (qx2 : r3 x2) : SimI OKX (F6_awayFor h a0 x1i x2i) (G6_awayFor (rd h) a0 x1 x2) := by
  subst ex1 ex2
  unfold F6_awayFor G6_awayFor
  refine sm_cd (x_ok_6 H ha0) ?_
  exact S6_awayFor_0 H ha0 rfl qx1 rfl qx2
theorem S8_farFrom_0 {h : PH} (H : OKX h) {a0 : Nat} (ha0 : A8 a0) {x1i : Int32} {x1 : Int} (ex1 : x1i = Z3 x1) (qx1 : r3 x1) {x2i : Int32} {x2 : Int} (ex2 : x2i = Z3 x2) (qx2 : r3 x2) : SimI OKX (F8_farFrom_0 h a0 x1i x2i) (G8_farFrom_0 (rd h) a0 x1 x2) := by
  subst ex1 ex2
  unfold F8_farFrom_0 G8_farFrom_0
  refine sm_rd (x_gI_8_0 H ha0).1 ?_
  refine sm_if (z3_le l3_1 rfl lr3_1 (x_gI_8_0 H ha0).2) ?_ ?_
  · refine sm_rd (x_gI_8_0 H ha0).1 ?_
    refine sm_if (z3_eq rfl l3_0 (x_gI_8_0 H ha0).2 lr3_0) ?_ ?_
    · exact smI_none _
    · refine sm_rd (x_gI_8_0 H ha0).1 ?_
      refine sm_if (z3_eq rfl l3_0 (x_gI_8_0 H ha0).2 lr3_0) ?_ ?_
      · exact smI_none _
      · refine sm_rd (x_gI_8_3 H ha0).1 ?_
        refine sgdI fun c1 => ?_
        refine sg3I fun c2 => ?_
        refine sgdI fun c3 => ?_
        refine sgdI fun c4 => ?_
        refine sgdI fun c5 => ?_
        refine sg3I fun c6 => ?_
        refine sgdI fun c7 => ?_
        refine sgdI fun c8 => ?_
        refine sg3I fun c9 => ?_
        exact sm_retI H (z3_add (z3_ite (z3_le l3_0 (z3_sub (z3_rem rfl rfl qx1 (x_gI_8_0 H ha0).2 c1) rfl) lr3_0 c2) (z3_sub (z3_rem rfl rfl qx1 (x_gI_8_0 H ha0).2 c3) rfl) (z3_sub l3_0 (z3_sub (z3_rem rfl rfl qx1 (x_gI_8_0 H ha0).2 c4) rfl))) (z3_ite (z3_le l3_0 (z3_sub (z3_div rfl rfl qx1 (x_gI_8_0 H ha0).2 c5) rfl) lr3_0 c6) (z3_sub (z3_div rfl rfl qx1 (x_gI_8_0 H ha0).2 c7) rfl) (z3_sub l3_0 (z3_sub (z3_div rfl rfl qx1 (x_gI_8_0 H ha0).2 c8) rfl)))) c9
  · exact sm_retI H l3_0 lr3_0
theorem S8_farFrom {h : PH} (H : OKX h) {a0 : Nat} (ha0 : A8 a0) {x1i : Int32} {x1 : Int} (ex1 : x1i = Z3 x1) (qx1 : r3 x1) {x2i : Int32} {x2 : Int} (ex2 : x2i = Z3 x2) (qx2 : r3 x2) : SimI OKX (F8_farFrom h a0 x1i x2i) (G8_farFrom (rd h) a0 x1 x2) := by
  subst ex1 ex2
  unfold F8_farFrom G8_farFrom
  refine sm_cd (x_ok_8 H ha0) ?_
  exact S8_farFrom_0 H ha0 rfl qx1 rfl qx2
theorem S8_rowOf_0 {h : PH} (H : OKX h) {a0 : Nat} (ha0 : A8 a0) {x1i : Int32} {x1 : Int} (ex1 : x1i = Z3 x1) (qx1 : r3 x1) : SimI OKX (F8_rowOf_0 h a0 x1i) (G8_rowOf_0 (rd h) a0 x1) := by
  subst ex1
  unfold F8_rowOf_0 G8_rowOf_0
  refine sm_rd (x_gI_8_0 H ha0).1 ?_
  refine sm_if (z3_le rfl l3_0 (x_gI_8_0 H ha0).2 lr3_0) ?_ ?_
  · exact sm_retI H l3_0 lr3_0
  · refine sm_rd (x_gI_8_0 H ha0).1 ?_
    refine sm_if (z3_eq rfl l3_0 (x_gI_8_0 H ha0).2 lr3_0) ?_ ?_
    · exact smI_none _
    · refine sgdI fun c1 => ?_
      exact sm_retI H (z3_div rfl rfl qx1 (x_gI_8_0 H ha0).2 c1) (r3_div qx1 (x_gI_8_0 H ha0).2 c1)
theorem S8_rowOf {h : PH} (H : OKX h) {a0 : Nat} (ha0 : A8 a0) {x1i : Int32} {x1 : Int} (ex1 : x1i = Z3 x1) (qx1 : r3 x1) : SimI OKX (F8_rowOf h a0 x1i) (G8_rowOf (rd h) a0 x1) := by
  subst ex1
  unfold F8_rowOf G8_rowOf
  refine sm_cd (x_ok_8 H ha0) ?_
  exact S8_rowOf_0 H ha0 rfl qx1
theorem S6_nameCatch_0 {h : PH} (H : OKX h) {a0 : Nat} (ha0 : A6 a0) {x1i : Int32} {x1 : Int} (ex1 : x1i = Z3 x1) (qx1 : r3 x1) {x2i : Int32} {x2 : Int} (ex2 : x2i = Z3 x2) (qx2 : r3 x2) {x3i : Int32} {x3 : Int} (ex3 : x3i = Z3 x3) (qx3 : r3 x3) : SimV OKX (F6_nameCatch_0 h a0 x1i x2i x3i) (G6_nameCatch_0 (rd h) a0 x1 x2 x3) := by
  subst ex1 ex2 ex3
  unfold F6_nameCatch_0 G6_nameCatch_0
  refine sm_VV (S6_nameAway H ha0 rfl qx1 rfl qx2) fun ho1 Ho1 => ?_
  refine sm_rd (x_gR_6_4 Ho1 ha0) ?_
  refine sm_rd (x_gR_6_0 Ho1 ha0) ?_
  refine sm_rd (x_gR_6_3 Ho1 ha0) ?_
  refine sgxV fun c1 => ?_
  refine sm_rd (x_aI_6_3 Ho1 (ao_6_3 ha0) rfl c1).1 ?_
  refine sm_IV (S8_farFrom Ho1 (x_v_6_0 Ho1 ha0) rfl qx3 rfl ((x_aI_6_3 Ho1 (ao_6_3 ha0) rfl c1).2)) fun vo11 ho11 Ho11 ro11 => ?_
  refine sm_wt (x_sJ_6_4 Ho11 (ao_6_4 ha0) l3_0 ⟨by decide, by decide⟩ (z3_to6 rfl ro11) (r3_6 ro11)) fun h14 Hh14 => ?_
  refine sm_rd (x_gR_6_4 Hh14 ha0) ?_
  refine sm_rd (x_gR_6_0 Hh14 ha0) ?_
  refine sm_IV (S8_rowOf Hh14 (x_v_6_0 Hh14 ha0) rfl qx3) fun vo19 ho19 Ho19 ro19 => ?_
  refine sm_rd (x_gR_6_0 Ho19 ha0) ?_
  refine sm_rd (x_gI_8_3 Ho19 (x_v_6_0 Ho19 ha0)).1 ?_
  refine sg3V fun c2 => ?_
  refine sm_wt (x_sJ_6_4 Ho19 (ao_6_4 ha0) l3_1 ⟨by decide, by decide⟩ (z3_to6 (z3_sub rfl rfl) c2) (r3_6 c2)) fun h26 Hh26 => ?_
  exact sm_retV Hh26
theorem S6_nameCatch {h : PH} (H : OKX h) {a0 : Nat} (ha0 : A6 a0) {x1i : Int32} {x1 : Int} (ex1 : x1i = Z3 x1) (qx1 : r3 x1) {x2i : Int32} {x2 : Int} (ex2 : x2i = Z3 x2) (qx2 : r3 x2) {x3i : Int32} {x3 : Int} (ex3 : x3i = Z3 x3) (qx3 : r3 x3) : SimV OKX (F6_nameCatch h a0 x1i x2i x3i) (G6_nameCatch (rd h) a0 x1 x2 x3) := by
  subst ex1 ex2 ex3
  unfold F6_nameCatch G6_nameCatch
  refine sm_cd (x_ok_6 H ha0) ?_
  exact S6_nameCatch_0 H ha0 rfl qx1 rfl qx2 rfl qx3
theorem S6_farOf_0 {h : PH} (H : OKX h) {a0 : Nat} (ha0 : A6 a0) {x1i : Int32} {x1 : Int} (ex1 : x1i = Z3 x1) (qx1 : r3 x1) {x2i : Int32} {x2 : Int} (ex2 : x2i = Z3 x2) (qx2 : r3 x2) : SimI OKX (F6_farOf_0 h a0 x1i x2i) (G6_farOf_0 (rd h) a0 x1 x2) := by
  subst ex1 ex2
  unfold F6_farOf_0 G6_farOf_0
  refine sm_rd (x_gR_6_0 H ha0) ?_
  refine sm_rd (x_gR_6_3 H ha0) ?_
  refine sgxI fun c1 => ?_
  refine sm_rd (x_aI_6_3 H (ao_6_3 ha0) rfl c1).1 ?_
  refine sm_II (S8_farFrom H (x_v_6_0 H ha0) rfl qx1 rfl ((x_aI_6_3 H (ao_6_3 ha0) rfl c1).2)) fun vo7 ho7 Ho7 ro7 => ?_
  exact sm_retI Ho7 rfl ro7
theorem S6_farOf {h : PH} (H : OKX h) {a0 : Nat} (ha0 : A6 a0) {x1i : Int32} {x1 : Int} (ex1 : x1i = Z3 x1) (qx1 : r3 x1) {x2i : Int32} {x2 : Int} (ex2 : x2i = Z3 x2) (qx2 : r3 x2) : SimI OKX (F6_farOf h a0 x1i x2i) (G6_farOf (rd h) a0 x1 x2) := by
  subst ex1 ex2
  unfold F6_farOf G6_farOf
  refine sm_cd (x_ok_6 H ha0) ?_
  exact S6_farOf_0 H ha0 rfl qx1 rfl qx2
theorem S6_oddsAt_0 {h : PH} (H : OKX h) {a0 : Nat} (ha0 : A6 a0) {x1i : Int32} {x1 : Int} (ex1 : x1i = Z3 x1) (qx1 : r3 x1) {x2i : Int32} {x2 : Int} (ex2 : x2i = Z3 x2) (qx2 : r3 x2) {x3i : Int32} {x3 : Int} (ex3 : x3i = Z3 x3) (qx3 : r3 x3) : SimI OKX (F6_oddsAt_0 h a0 x1i x2i x3i) (G6_oddsAt_0 (rd h) a0 x1 x2 x3) := by
  subst ex1 ex2 ex3
  unfold F6_oddsAt_0 G6_oddsAt_0
  refine sm_VI (S6_nameCatch H ha0 rfl qx1 rfl qx2 rfl qx3) fun ho1 Ho1 => ?_
  refine sm_rd (x_gR_6_0 Ho1 ha0) ?_
  refine sm_rd (x_gR_8_11 Ho1 (x_v_6_0 Ho1 ha0)) ?_
  refine sm_rd (x_aR Ho1 (ao_8_11 (x_v_6_0 Ho1 ha0)) l3_0 (by decide)) ?_
  refine sm_rd (x_gR_6_4 Ho1 ha0) ?_
  refine sm_rd (x_gR_6_5 Ho1 ha0) ?_
  refine sm_JI (S2_valueFor Ho1 (x_aRp (ao_8_11 (x_v_6_0 Ho1 ha0)) (by decide)) (ao_6_4 ha0) (ao_6_5 ha0)) fun vo13 ho13 Ho13 ro13 => ?_
  refine sm_if (cmp_eq rfl l6_m9223372036854775808 ro13 lr6_m9223372036854775808) ?_ ?_
  · refine sm_II (S6_farOf Ho13 ha0 rfl qx3 rfl qx2) fun vo16 ho16 Ho16 ro16 => ?_
    refine sg3I fun c1 => ?_
    refine sg3I fun c2 => ?_
    exact sm_retI Ho16 (z3_ite (z3_lt l3_0 (z3_sub l3_100 (z3_mul l3_20 rfl)) lr3_0 c1) (z3_sub l3_100 (z3_mul l3_20 rfl)) l3_0) c2
  · refine sg3I fun c3 => ?_
    exact sm_retI Ho13 (z6_to3 (z6_ite (z6_lt (z6_ite (z6_lt rfl l6_100 ro13 lr6_100) rfl l6_100) l6_0 (r6_ite ro13 lr6_100) lr6_0) l6_0 (z6_ite (z6_lt rfl l6_100 ro13 lr6_100) rfl l6_100))) c3
theorem S6_oddsAt {h : PH} (H : OKX h) {a0 : Nat} (ha0 : A6 a0) {x1i : Int32} {x1 : Int} (ex1 : x1i = Z3 x1) (qx1 : r3 x1) {x2i : Int32} {x2 : Int} (ex2 : x2i = Z3 x2) (qx2 : r3 x2) {x3i : Int32} {x3 : Int} (ex3 : x3i = Z3 x3) (qx3 : r3 x3) : SimI OKX (F6_oddsAt h a0 x1i x2i x3i) (G6_oddsAt (rd h) a0 x1 x2 x3) := by
  subst ex1 ex2 ex3
  unfold F6_oddsAt G6_oddsAt
  refine sm_cd (x_ok_6 H ha0) ?_
  exact S6_oddsAt_0 H ha0 rfl qx1 rfl qx2 rfl qx3
theorem S6_worthAt_0 {h : PH} (H : OKX h) {a0 : Nat} (ha0 : A6 a0) {x1i : Int32} {x1 : Int} (ex1 : x1i = Z3 x1) (qx1 : r3 x1) {x2i : Int32} {x2 : Int} (ex2 : x2i = Z3 x2) (qx2 : r3 x2) {x3i : Int32} {x3 : Int} (ex3 : x3i = Z3 x3) (qx3 : r3 x3) : SimI OKX (F6_worthAt_0 h a0 x1i x2i x3i) (G6_worthAt_0 (rd h) a0 x1 x2 x3) := by
  subst ex1 ex2 ex3
  unfold F6_worthAt_0 G6_worthAt_0
  refine sm_II (S6_oddsAt H ha0 rfl qx1 rfl qx2 rfl qx3) fun vo1 ho1 Ho1 ro1 => ?_
  refine sm_rd (x_gR_6_0 Ho1 ha0) ?_
  refine sm_rd (x_gR_8_5 Ho1 (x_v_6_0 Ho1 ha0)) ?_
  refine sm_rd (x_gR_10_5 Ho1 (ao_8_5 (x_v_6_0 Ho1 ha0))) ?_
  refine sgxI fun c1 => ?_
  refine sm_rd (x_aI_10_5 Ho1 (ao_10_5 (ao_8_5 (x_v_6_0 Ho1 ha0))) rfl c1).1 ?_
  refine sg3I fun c2 => ?_
  exact sm_retI Ho1 (z3_mul rfl rfl) c2
theorem S6_worthAt {h : PH} (H : OKX h) {a0 : Nat} (ha0 : A6 a0) {x1i : Int32} {x1 : Int} (ex1 : x1i = Z3 x1) (qx1 : r3 x1) {x2i : Int32} {x2 : Int} (ex2 : x2i = Z3 x2) (qx2 : r3 x2) {x3i : Int32} {x3 : Int} (ex3 : x3i = Z3 x3) (qx3 : r3 x3) : SimI OKX (F6_worthAt h a0 x1i x2i x3i) (G6_worthAt (rd h) a0 x1 x2 x3) := by
  subst ex1 ex2 ex3
  unfold F6_worthAt G6_worthAt
  refine sm_cd (x_ok_6 H ha0) ?_
  exact S6_worthAt_0 H ha0 rfl qx1 rfl qx2 rfl qx3
theorem S0_makePlan_128 {k40 : PH → Nat → Nat → Nat → Int32 → Nat → Int32 → Int32 → Option PH} {kk40 : Mem → Nat → Nat → Int → Nat → Int → Int → Option Mem} (hk40 : ∀ {h : PH} (_ : OKX h) {a2 : Nat} (_ : A6 a2) {a3 : Nat} (_ : A4 a3) {x4 : Int32} {y4 : Int} (_ : x4 = Z3 y4) (_ : r3 y4) {a5 : Nat} (_ : A10 a5) {x6 : Int32} {y6 : Int} (_ : x6 = Z3 y6) (_ : r3 y6) {x7 : Int32} {y7 : Int} (_ : x7 = Z3 y7) (_ : r3 y7), SimV OKX (k40 h 99 a2 a3 x4 a5 x6 x7) (kk40 (rd h) a2 a3 y4 a5 y6 y7)) {h : PH} (H : OKX h) {a1 : Nat} (ha1 : A6 a1) {a2 : Nat} (ha2 : A4 a2) {x3i : Int32} {x3 : Int} (ex3 : x3i = Z3 x3) (qx3 : r3 x3) {a4 : Nat} (ha4 : A10 a4) {x5i : Int32} {x5 : Int} (ex5 : x5i = Z3 x5) (qx5 : r3 x5) {x6i : Int32} {x6 : Int} (ex6 : x6i = Z3 x6) (qx6 : r3 x6) {x7i : Int32} {x7 : Int} (ex7 : x7i = Z3 x7) (qx7 : r3 x7) {s0i : Int32} {s0 : Int} (es0 : s0i = Z3 s0) (qs0 : r3 s0) {s1i : Int32} {s1 : Int} (es1 : s1i = Z3 s1) (qs1 : r3 s1) : SimV OKX (F0_makePlan_128 k40 h 99 a1 a2 x3i a4 x5i x6i x7i s0i s1i 108) (G0_makePlan_128 kk40 (rd h) a1 a2 x3 a4 x5 x6 x7 s0 s1) := by
  subst ex3 ex5 ex6 ex7 es0 es1
  unfold F0_makePlan_128 G0_makePlan_128
  refine sgxV fun c1 => ?_
  refine sgbV fun c2 => ?_
  refine sm_wt (x_sI_0_9 H rfl c1 (z3_bo rfl c2) (r3_b c2)) fun h2 Hh2 => ?_
  refine sm_rd (x_gR_0_7 Hh2) ?_
  refine sm_rd (x_gR_0_7 Hh2) ?_
  refine sgxV fun c3 => ?_
  refine sm_rd (x_aI_0_7 Hh2 (z3_add rfl l3_1) c3).1 ?_
  refine sgxV fun c4 => ?_
  refine sm_wt (x_sI_0_7 Hh2 rfl c4 (z3_ite (z3_lt rfl rfl qx7 (x_aI_0_7 Hh2 (z3_add rfl l3_1) c3).2) rfl rfl) (r3_ite (x_aI_0_7 Hh2 (z3_add rfl l3_1) c3).2 qx7)) fun h10 Hh10 => ?_
  refine sg3V fun c5 => ?_
  exact hk40 Hh10 ha1 ha2 rfl qx3 ha4 rfl qx5 (z3_add rfl l3_m1) c5
theorem S0_makePlan_40 (n : Nat) : ∀ {h : PH} (H : OKX h) {a1 : Nat} (ha1 : A6 a1) {a2 : Nat} (ha2 : A4 a2) {x3i : Int32} {x3 : Int} (ex3 : x3i = Z3 x3) (qx3 : r3 x3) {a4 : Nat} (ha4 : A10 a4) {x5i : Int32} {x5 : Int} (ex5 : x5i = Z3 x5) (qx5 : r3 x5) {x6i : Int32} {x6 : Int} (ex6 : x6i = Z3 x6) (qx6 : r3 x6), SimV OKX (F0_makePlan_40 n h 99 a1 a2 x3i a4 x5i x6i) (G0_makePlan_40 n (rd h) a1 a2 x3 a4 x5 x6) := by
  induction n with
  | zero => intros; exact smV_none _
  | succ n ih =>
    intro h H a1 ha1 a2 ha2 x3i x3 ex3 qx3 a4 ha4 x5i x5 ex5 qx5 x6i x6 ex6 qx6
    subst ex3 ex5 ex6
    rw [F0_makePlan_40, G0_makePlan_40]
    refine sm_if (z3_lt rfl rfl qx6 qx5) ?_ ?_
    · refine sm_rd (x_gR_0_7 H) ?_
      refine sgxV fun c1 => ?_
      refine sm_rd (x_aI_0_7 H rfl c1).1 ?_
      refine sm_wt (x_pI_0_12 H rfl (x_aI_0_7 H rfl c1).2) fun h6 Hh6 => ?_
      refine sm_rd (x_gI_10_1 Hh6 ha4).1 ?_
      refine sm_VV (S0_listPlan Hh6 rfl qx5 rfl ((x_gI_10_1 Hh6 ha4).2)) fun ho10 Ho10 => ?_
      exact sm_retV Ho10
    · refine sm_rd (x_gR_0_8 H) ?_
      refine sm_rd (x_gR_10_4 H ha4) ?_
      refine sgxV fun c2 => ?_
      refine sm_rd (x_aI_10_4 H (ao_10_4 ha4) rfl c2).1 ?_
      refine sm_IV (S6_awayFor H ha1 rfl qx3 rfl qx6) fun vo18 ho18 Ho18 ro18 => ?_
      refine sg3V fun c3 => ?_
      refine sm_IV (S10_firstFrom Ho18 ha4 (z3_add rfl rfl) c3) fun vo20 ho20 Ho20 ro20 => ?_
      refine sgxV fun c4 => ?_
      refine sm_wt (x_sI_0_8 Ho20 rfl c4 rfl ro20) fun h23 Hh23 => ?_
      refine sm_rd (x_gR_4_5 Hh23 ha2) ?_
      refine sgxV fun c5 => ?_
      refine sm_rd (x_aI_4_5 Hh23 (ao_4_5 ha2) rfl c5).1 ?_
      refine sm_IV (S6_worthAt Hh23 ha1 rfl qx3 rfl qx6 rfl ((x_aI_4_5 Hh23 (ao_4_5 ha2) rfl c5).2)) fun vo28 ho28 Ho28 ro28 => ?_
      refine sm_rd (x_gR_0_7 Ho28) ?_
      refine sm_rd (x_gR_0_8 Ho28) ?_
      refine sgxV fun c6 => ?_
      refine sm_rd (x_aI_0_8 Ho28 rfl c6).1 ?_
      refine sgxV fun c7 => ?_
      refine sm_rd (x_aI_0_7 Ho28 rfl c7).1 ?_
      refine sm_rd (x_gR_0_9 Ho28) ?_
      refine sm_rd (x_gR_0_7 Ho28) ?_
      refine sgxV fun c8 => ?_
      refine sm_rd (x_aI_0_7 Ho28 (z3_add rfl l3_1) c8).1 ?_
      refine sg3V fun c9 => ?_
      refine sm_if (z3_lt (z3_add rfl rfl) rfl c9 (x_aI_0_7 Ho28 (z3_add rfl l3_1) c8).2) ?_ ?_
      · refine sg3V fun c10 => ?_
        exact S0_makePlan_128 (@fun _ H _ ha1 _ ha2 _ _ ex3 qx3 _ ha4 _ _ ex5 qx5 _ _ ex6 qx6 => ih H ha1 ha2 ex3 qx3 ha4 ex5 qx5 ex6 qx6) Ho28 ha1 ha2 rfl qx3 ha4 rfl qx5 rfl qx6 (z3_add rfl rfl) c10 l3_0 lr3_0 rfl qx6
      · refine sg3V fun c11 => ?_
        exact S0_makePlan_128 (@fun _ H _ ha1 _ ha2 _ _ ex3 qx3 _ ha4 _ _ ex5 qx5 _ _ ex6 qx6 => ih H ha1 ha2 ex3 qx3 ha4 ex5 qx5 ex6 qx6) Ho28 ha1 ha2 rfl qx3 ha4 rfl qx5 rfl qx6 (z3_add rfl rfl) c11 l3_1 lr3_1 rfl qx6
theorem S0_makePlan_0 {h : PH} (H : OKX h) {a1 : Nat} (ha1 : A6 a1) {a2 : Nat} (ha2 : A4 a2) {x3i : Int32} {x3 : Int} (ex3 : x3i = Z3 x3) (qx3 : r3 x3) : SimV OKX (F0_makePlan_0 h 99 a1 a2 x3i) (G0_makePlan_0 (rd h) a1 a2 x3) := by
  subst ex3
  unfold F0_makePlan_0 G0_makePlan_0
  refine sm_rd (x_gR_6_0 H ha1) ?_
  refine sm_rd (x_gR_8_5 H (x_v_6_0 H ha1)) ?_
  refine sm_rd (x_gI_4_0 H ha2).1 ?_
  refine sm_IV (S10_firstFrom H (ao_8_5 (x_v_6_0 H ha1)) rfl ((x_gI_4_0 H ha2).2)) fun vo7 ho7 Ho7 ro7 => ?_
  refine sm_rd (x_gR_0_7 Ho7) ?_
  refine sm_rd (x_gI_10_1 Ho7 (ao_8_5 (x_v_6_0 H ha1))).1 ?_
  refine sgxV fun c1 => ?_
  refine sm_wt (x_sI_0_7 Ho7 rfl c1 l3_0 lr3_0) fun h14 Hh14 => ?_
  refine sm_rd (x_gI_10_1 Hh14 (ao_8_5 (x_v_6_0 H ha1))).1 ?_
  refine sg3V fun c2 => ?_
  exact S0_makePlan_40 1024 Hh14 ha1 ha2 rfl qx3 (ao_8_5 (x_v_6_0 H ha1)) rfl ro7 (z3_sub rfl l3_1) c2
theorem S0_makePlan {h : PH} (H : OKX h) {a1 : Nat} (ha1 : A6 a1) {a2 : Nat} (ha2 : A4 a2) {x3i : Int32} {x3 : Int} (ex3 : x3i = Z3 x3) (qx3 : r3 x3) : SimV OKX (F0_makePlan h 99 a1 a2 x3i) (G0_makePlan (rd h) a1 a2 x3) := by
  subst ex3
  unfold F0_makePlan G0_makePlan
  refine sm_cd (x_ok_0 H) ?_
  exact S0_makePlan_0 H ha1 ha2 rfl qx3
theorem S8_columnOf_0 {h : PH} (H : OKX h) {a0 : Nat} (ha0 : A8 a0) {x1i : Int32} {x1 : Int} (ex1 : x1i = Z3 x1) (qx1 : r3 x1) : SimI OKX (F8_columnOf_0 h a0 x1i) (G8_columnOf_0 (rd h) a0 x1) := by
  subst ex1
  unfold F8_columnOf_0 G8_columnOf_0
  refine sm_rd (x_gI_8_0 H ha0).1 ?_
  refine sm_if (z3_le rfl l3_0 (x_gI_8_0 H ha0).2 lr3_0) ?_ ?_
  · exact sm_retI H l3_0 lr3_0
  · refine sm_rd (x_gI_8_0 H ha0).1 ?_
    refine sm_if (z3_eq rfl l3_0 (x_gI_8_0 H ha0).2 lr3_0) ?_ ?_
    · exact smI_none _
    · refine sgdI fun c1 => ?_
      exact sm_retI H (z3_rem rfl rfl qx1 (x_gI_8_0 H ha0).2 c1) (r3_rem qx1 (x_gI_8_0 H ha0).2 c1)
theorem S8_columnOf {h : PH} (H : OKX h) {a0 : Nat} (ha0 : A8 a0) {x1i : Int32} {x1 : Int} (ex1 : x1i = Z3 x1) (qx1 : r3 x1) : SimI OKX (F8_columnOf h a0 x1i) (G8_columnOf (rd h) a0 x1) := by
  subst ex1
  unfold F8_columnOf G8_columnOf
  refine sm_cd (x_ok_8 H ha0) ?_
  exact S8_columnOf_0 H ha0 rfl qx1
theorem S8_cellBeside_0 {h : PH} (H : OKX h) {a0 : Nat} (ha0 : A8 a0) {x1i : Int32} {x1 : Int} (ex1 : x1i = Z3 x1) (qx1 : r3 x1) {x2i : Int32} {x2 : Int} (ex2 : x2i = Z3 x2) (qx2 : r3 x2) : SimI OKX (F8_cellBeside_0 h a0 x1i x2i) (G8_cellBeside_0 (rd h) a0 x1 x2) := by
  subst ex1 ex2
  unfold F8_cellBeside_0 G8_cellBeside_0
  refine sm_II (S8_columnOf H ha0 rfl qx1) fun vo1 ho1 Ho1 ro1 => ?_
  refine sm_II (S8_rowOf Ho1 ha0 rfl qx1) fun vo3 ho3 Ho3 ro3 => ?_
  refine sm_if (z3_eq rfl l3_0 qx2 lr3_0) ?_ ?_
  · refine sm_if (z3_le rfl l3_0 ro3 lr3_0) ?_ ?_
    · exact sm_retI Ho3 l3_m1 lr3_m1
    · refine sm_rd (x_gI_8_0 Ho3 ha0).1 ?_
      refine sg3I fun c1 => ?_
      exact sm_retI Ho3 (z3_sub rfl rfl) c1
  · refine sm_if (z3_eq rfl l3_1 qx2 lr3_1) ?_ ?_
    · refine sm_rd (x_gI_8_0 Ho3 ha0).1 ?_
      refine sg3I fun c2 => ?_
      refine sm_if (z3_le (z3_sub rfl l3_1) rfl c2 ro1) ?_ ?_
      · exact sm_retI Ho3 l3_m1 lr3_m1
      · refine sg3I fun c3 => ?_
        exact sm_retI Ho3 (z3_add rfl l3_1) c3
    · refine sm_if (z3_eq rfl l3_2 qx2 lr3_2) ?_ ?_
      · refine sm_rd (x_gI_8_1 Ho3 ha0).1 ?_
        refine sg3I fun c4 => ?_
        refine sm_if (z3_le (z3_sub rfl l3_1) rfl c4 ro3) ?_ ?_
        · exact sm_retI Ho3 l3_m1 lr3_m1
        · refine sm_rd (x_gI_8_0 Ho3 ha0).1 ?_
          refine sg3I fun c5 => ?_
          exact sm_retI Ho3 (z3_add rfl rfl) c5
      · refine sm_if (z3_eq rfl l3_3 qx2 lr3_3) ?_ ?_
        · refine sm_if (z3_le rfl l3_0 ro1 lr3_0) ?_ ?_
          · exact sm_retI Ho3 l3_m1 lr3_m1
          · refine sg3I fun c6 => ?_
            exact sm_retI Ho3 (z3_sub rfl l3_1) c6
        · exact sm_retI Ho3 rfl qx1
theorem S8_cellBeside {h : PH} (H : OKX h) {a0 : Nat} (ha0 : A8 a0) {x1i : Int32} {x1 : Int} (ex1 : x1i = Z3 x1) (qx1 : r3 x1) {x2i : Int32} {x2 : Int} (ex2 : x2i = Z3 x2) (qx2 : r3 x2) : SimI OKX (F8_cellBeside h a0 x1i x2i) (G8_cellBeside (rd h) a0 x1 x2) := by
  subst ex1 ex2
  unfold F8_cellBeside G8_cellBeside
  refine sm_cd (x_ok_8 H ha0) ?_
  exact S8_cellBeside_0 H ha0 rfl qx1 rfl qx2
theorem S0_weighWays_46 {k3 : PH → Nat → Nat → Nat → Int32 → Int32 → Int32 → Int32 → Option PH} {kk3 : Mem → Nat → Nat → Int → Int → Int → Int → Option Mem} (hk3 : ∀ {h : PH} (_ : OKX h) {a2 : Nat} (_ : A6 a2) {a3 : Nat} (_ : A4 a3) {x4 : Int32} {y4 : Int} (_ : x4 = Z3 y4) (_ : r3 y4) {x5 : Int32} {y5 : Int} (_ : x5 = Z3 y5) (_ : r3 y5) {x6 : Int32} {y6 : Int} (_ : x6 = Z3 y6) (_ : r3 y6) {x7 : Int32} {y7 : Int} (_ : x7 = Z3 y7) (_ : r3 y7), SimV OKX (k3 h 99 a2 a3 x4 x5 x6 x7) (kk3 (rd h) a2 a3 y4 y5 y6 y7)) (n : Nat) : ∀ {h : PH} (H : OKX h) {a1 : Nat} (ha1 : A6 a1) {a2 : Nat} (ha2 : A4 a2) {x3i : Int32} {x3 : Int} (ex3 : x3i = Z3 x3) (qx3 : r3 x3) {x4i : Int32} {x4 : Int} (ex4 : x4i = Z3 x4) (qx4 : r3 x4) {x5i : Int32} {x5 : Int} (ex5 : x5i = Z3 x5) (qx5 : r3 x5) {x6i : Int32} {x6 : Int} (ex6 : x6i = Z3 x6) (qx6 : r3 x6) {x7i : Int32} {x7 : Int} (ex7 : x7i = Z3 x7) (qx7 : r3 x7) {x8i : Int32} {x8 : Int} (ex8 : x8i = Z3 x8) (qx8 : r3 x8), SimV OKX (F0_weighWays_46 k3 n h 99 a1 a2 x3i x4i x5i x6i x7i x8i) (G0_weighWays_46 kk3 n (rd h) a1 a2 x3 x4 x5 x6 x7 x8) := by
  induction n with
  | zero => intros; exact smV_none _
  | succ n ih =>
    intro h H a1 ha1 a2 ha2 x3i x3 ex3 qx3 x4i x4 ex4 qx4 x5i x5 ex5 qx5 x6i x6 ex6 qx6 x7i x7 ex7 qx7 x8i x8 ex8 qx8
    subst ex3 ex4 ex5 ex6 ex7 ex8
    rw [F0_weighWays_46, G0_weighWays_46]
    refine sm_if (z3_eq rfl l3_m1 qx7 lr3_m1) ?_ ?_
    · refine sg3V fun c1 => ?_
      exact hk3 H ha1 ha2 rfl qx3 rfl qx4 rfl qx5 (z3_add rfl l3_1) c1
    · refine sm_rd (x_gR_6_0 H ha1) ?_
      refine sm_rd (x_gR_8_5 H (x_v_6_0 H ha1)) ?_
      refine sm_rd (x_gI_10_1 H (ao_8_5 (x_v_6_0 H ha1))).1 ?_
      refine sm_if (z3_le rfl rfl (x_gI_10_1 H (ao_8_5 (x_v_6_0 H ha1))).2 qx8) ?_ ?_
      · refine sg3V fun c2 => ?_
        exact hk3 H ha1 ha2 rfl qx3 rfl qx4 rfl qx5 (z3_add rfl l3_1) c2
      · refine sm_rd (x_gR_0_1 H) ?_
        refine sm_IV (S6_farOf H ha1 rfl qx7 rfl qx8) fun vo11 ho11 Ho11 ro11 => ?_
        refine sgxV fun c3 => ?_
        refine sm_wt (x_sI_0_1 Ho11 (z3_add (z3_mul (z3_add rfl rfl) l3_28) rfl) c3 rfl ro11) fun h14 Hh14 => ?_
        refine sm_rd (x_gR_0_2 Hh14) ?_
        refine sm_IV (S6_worthAt Hh14 ha1 rfl qx3 rfl qx8 rfl qx7) fun vo17 ho17 Ho17 ro17 => ?_
        refine sgxV fun c4 => ?_
        refine sm_wt (x_sI_0_2 Ho17 (z3_add (z3_mul (z3_add rfl rfl) l3_28) rfl) c4 rfl ro17) fun h20 Hh20 => ?_
        refine sg3V fun c5 => ?_
        exact ih Hh20 ha1 ha2 rfl qx3 rfl qx4 rfl qx5 rfl qx6 rfl qx7 (z3_add rfl l3_1) c5
theorem S0_weighWays_3 (n : Nat) : ∀ {h : PH} (H : OKX h) {a1 : Nat} (ha1 : A6 a1) {a2 : Nat} (ha2 : A4 a2) {x3i : Int32} {x3 : Int} (ex3 : x3i = Z3 x3) (qx3 : r3 x3) {x4i : Int32} {x4 : Int} (ex4 : x4i = Z3 x4) (qx4 : r3 x4) {x5i : Int32} {x5 : Int} (ex5 : x5i = Z3 x5) (qx5 : r3 x5) {x6i : Int32} {x6 : Int} (ex6 : x6i = Z3 x6) (qx6 : r3 x6), SimV OKX (F0_weighWays_3 n h 99 a1 a2 x3i x4i x5i x6i) (G0_weighWays_3 n (rd h) a1 a2 x3 x4 x5 x6) := by
  induction n with
  | zero => intros; exact smV_none _
  | succ n ih =>
    intro h H a1 ha1 a2 ha2 x3i x3 ex3 qx3 x4i x4 ex4 qx4 x5i x5 ex5 qx5 x6i x6 ex6 qx6
    subst ex3 ex4 ex5 ex6
    rw [F0_weighWays_3, G0_weighWays_3]
    refine sm_if (z3_le l3_5 rfl lr3_5 qx6) ?_ ?_
    · exact sm_retV H
    · refine sm_rd (x_gR_6_0 H ha1) ?_
      refine sm_rd (x_gR_4_5 H ha2) ?_
      refine sgxV fun c1 => ?_
      refine sm_rd (x_aI_4_5 H (ao_4_5 ha2) rfl c1).1 ?_
      refine sgxV fun c2 => ?_
      refine sm_rd (gw_rd rfl c2).1 ?_
      refine sm_IV (S8_cellBeside H (x_v_6_0 H ha1) rfl ((x_aI_4_5 H (ao_4_5 ha2) rfl c1).2) rfl ((gw_rd rfl c2).2)) fun vo12 ho12 Ho12 ro12 => ?_
      refine sm_rd (x_gR_0_0 Ho12) ?_
      refine sgxV fun c3 => ?_
      refine sm_wt (x_sI_0_0 Ho12 (z3_add rfl rfl) c3 rfl ro12) fun h17 Hh17 => ?_
      exact S0_weighWays_46 (@fun _ H _ ha1 _ ha2 _ _ ex3 qx3 _ _ ex4 qx4 _ _ ex5 qx5 _ _ ex6 qx6 => ih H ha1 ha2 ex3 qx3 ex4 qx4 ex5 qx5 ex6 qx6) 1024 Hh17 ha1 ha2 rfl qx3 rfl qx4 rfl qx5 rfl qx6 rfl ro12 rfl qx5
theorem S0_weighWays_0 {h : PH} (H : OKX h) {a1 : Nat} (ha1 : A6 a1) {a2 : Nat} (ha2 : A4 a2) {x3i : Int32} {x3 : Int} (ex3 : x3i = Z3 x3) (qx3 : r3 x3) {x4i : Int32} {x4 : Int} (ex4 : x4i = Z3 x4) (qx4 : r3 x4) {x5i : Int32} {x5 : Int} (ex5 : x5i = Z3 x5) (qx5 : r3 x5) : SimV OKX (F0_weighWays_0 h 99 a1 a2 x3i x4i x5i) (G0_weighWays_0 (rd h) a1 a2 x3 x4 x5) := by
  subst ex3 ex4 ex5
  unfold F0_weighWays_0 G0_weighWays_0
  exact S0_weighWays_3 1024 H ha1 ha2 rfl qx3 rfl qx4 rfl qx5 l3_0 lr3_0
theorem S0_weighWays {h : PH} (H : OKX h) {a1 : Nat} (ha1 : A6 a1) {a2 : Nat} (ha2 : A4 a2) {x3i : Int32} {x3 : Int} (ex3 : x3i = Z3 x3) (qx3 : r3 x3) {x4i : Int32} {x4 : Int} (ex4 : x4i = Z3 x4) (qx4 : r3 x4) {x5i : Int32} {x5 : Int} (ex5 : x5i = Z3 x5) (qx5 : r3 x5) : SimV OKX (F0_weighWays h 99 a1 a2 x3i x4i x5i) (G0_weighWays (rd h) a1 a2 x3 x4 x5) := by
  subst ex3 ex4 ex5
  unfold F0_weighWays G0_weighWays
  refine sm_cd (x_ok_0 H) ?_
  exact S0_weighWays_0 H ha1 ha2 rfl qx3 rfl qx4 rfl qx5
theorem S0_sharePair_75 {k9 : PH → Nat → Int32 → Int32 → Int32 → Int32 → Int32 → Int32 → Int32 → Option PH} {kk9 : Mem → Int → Int → Int → Int → Int → Int → Int → Option Mem} (hk9 : ∀ {h : PH} (_ : OKX h) {x2 : Int32} {y2 : Int} (_ : x2 = Z3 y2) (_ : r3 y2) {x3 : Int32} {y3 : Int} (_ : x3 = Z3 y3) (_ : r3 y3) {x4 : Int32} {y4 : Int} (_ : x4 = Z3 y4) (_ : r3 y4) {x5 : Int32} {y5 : Int} (_ : x5 = Z3 y5) (_ : r3 y5) {x6 : Int32} {y6 : Int} (_ : x6 = Z3 y6) (_ : r3 y6) {x7 : Int32} {y7 : Int} (_ : x7 = Z3 y7) (_ : r3 y7) {x8 : Int32} {y8 : Int} (_ : x8 = Z3 y8) (_ : r3 y8), SimV OKX (k9 h 99 x2 x3 x4 x5 x6 x7 x8) (kk9 (rd h) y2 y3 y4 y5 y6 y7 y8)) {h : PH} (H : OKX h) {x1i : Int32} {x1 : Int} (ex1 : x1i = Z3 x1) (qx1 : r3 x1) {x2i : Int32} {x2 : Int} (ex2 : x2i = Z3 x2) (qx2 : r3 x2) {x4i : Int32} {x4 : Int} (ex4 : x4i = Z3 x4) (qx4 : r3 x4) {x5i : Int32} {x5 : Int} (ex5 : x5i = Z3 x5) (qx5 : r3 x5) {x6i : Int32} {x6 : Int} (ex6 : x6i = Z3 x6) (qx6 : r3 x6) {x7i : Int32} {x7 : Int} (ex7 : x7i = Z3 x7) (qx7 : r3 x7) {x8i : Int32} {x8 : Int} (ex8 : x8i = Z3 x8) (qx8 : r3 x8) {x9i : Int32} {x9 : Int} (ex9 : x9i = Z3 x9) (qx9 : r3 x9) : SimV OKX (F0_sharePair_75 k9 h 99 x1i x2i x4i x5i x6i x7i x8i x9i) (G0_sharePair_75 kk9 (rd h) x1 x2 x4 x5 x6 x7 x8 x9) := by
  subst ex1 ex2 ex4 ex5 ex6 ex7 ex8 ex9
  unfold F0_sharePair_75 G0_sharePair_75
  refine sm_rd (x_gR_0_2 H) ?_
  refine sgxV fun c1 => ?_
  refine sm_rd (x_aI_0_2 H rfl c1).1 ?_
  refine sg3V fun c2 => ?_
  refine sg3V fun c3 => ?_
  exact hk9 H rfl qx1 rfl qx2 rfl qx4 rfl qx5 (z3_add rfl rfl) c2 rfl qx7 (z3_add rfl l3_1) c3
theorem S0_sharePair_90 {k9 : PH → Nat → Int32 → Int32 → Int32 → Int32 → Int32 → Int32 → Int32 → Option PH} {kk9 : Mem → Int → Int → Int → Int → Int → Int → Int → Option Mem} (hk9 : ∀ {h : PH} (_ : OKX h) {x2 : Int32} {y2 : Int} (_ : x2 = Z3 y2) (_ : r3 y2) {x3 : Int32} {y3 : Int} (_ : x3 = Z3 y3) (_ : r3 y3) {x4 : Int32} {y4 : Int} (_ : x4 = Z3 y4) (_ : r3 y4) {x5 : Int32} {y5 : Int} (_ : x5 = Z3 y5) (_ : r3 y5) {x6 : Int32} {y6 : Int} (_ : x6 = Z3 y6) (_ : r3 y6) {x7 : Int32} {y7 : Int} (_ : x7 = Z3 y7) (_ : r3 y7) {x8 : Int32} {y8 : Int} (_ : x8 = Z3 y8) (_ : r3 y8), SimV OKX (k9 h 99 x2 x3 x4 x5 x6 x7 x8) (kk9 (rd h) y2 y3 y4 y5 y6 y7 y8)) {h : PH} (H : OKX h) {x1i : Int32} {x1 : Int} (ex1 : x1i = Z3 x1) (qx1 : r3 x1) {x2i : Int32} {x2 : Int} (ex2 : x2i = Z3 x2) (qx2 : r3 x2) {x4i : Int32} {x4 : Int} (ex4 : x4i = Z3 x4) (qx4 : r3 x4) {x5i : Int32} {x5 : Int} (ex5 : x5i = Z3 x5) (qx5 : r3 x5) {x6i : Int32} {x6 : Int} (ex6 : x6i = Z3 x6) (qx6 : r3 x6) {x7i : Int32} {x7 : Int} (ex7 : x7i = Z3 x7) (qx7 : r3 x7) {x8i : Int32} {x8 : Int} (ex8 : x8i = Z3 x8) (qx8 : r3 x8) {x10i : Int32} {x10 : Int} (ex10 : x10i = Z3 x10) (qx10 : r3 x10) : SimV OKX (F0_sharePair_90 k9 h 99 x1i x2i x4i x5i x6i x7i x8i x10i) (G0_sharePair_90 kk9 (rd h) x1 x2 x4 x5 x6 x7 x8 x10) := by
  subst ex1 ex2 ex4 ex5 ex6 ex7 ex8 ex10
  unfold F0_sharePair_90 G0_sharePair_90
  refine sm_rd (x_gR_0_2 H) ?_
  refine sgxV fun c1 => ?_
  refine sm_rd (x_aI_0_2 H rfl c1).1 ?_
  refine sg3V fun c2 => ?_
  refine sg3V fun c3 => ?_
  exact hk9 H rfl qx1 rfl qx2 rfl qx4 rfl qx5 rfl qx6 (z3_add rfl rfl) c2 (z3_add rfl l3_1) c3
theorem S0_sharePair_9 (n : Nat) : ∀ {h : PH} (H : OKX h) {x1i : Int32} {x1 : Int} (ex1 : x1i = Z3 x1) (qx1 : r3 x1) {x2i : Int32} {x2 : Int} (ex2 : x2i = Z3 x2) (qx2 : r3 x2) {x4i : Int32} {x4 : Int} (ex4 : x4i = Z3 x4) (qx4 : r3 x4) {x5i : Int32} {x5 : Int} (ex5 : x5i = Z3 x5) (qx5 : r3 x5) {x6i : Int32} {x6 : Int} (ex6 : x6i = Z3 x6) (qx6 : r3 x6) {x7i : Int32} {x7 : Int} (ex7 : x7i = Z3 x7) (qx7 : r3 x7) {x8i : Int32} {x8 : Int} (ex8 : x8i = Z3 x8) (qx8 : r3 x8), SimV OKX (F0_sharePair_9 n h 99 x1i x2i x4i x5i x6i x7i x8i) (G0_sharePair_9 n (rd h) x1 x2 x4 x5 x6 x7 x8) := by
  induction n with
  | zero => intros; exact smV_none _
  | succ n ih =>
    intro h H x1i x1 ex1 qx1 x2i x2 ex2 qx2 x4i x4 ex4 qx4 x5i x5 ex5 qx5 x6i x6 ex6 qx6 x7i x7 ex7 qx7 x8i x8 ex8 qx8
    subst ex1 ex2 ex4 ex5 ex6 ex7 ex8
    rw [F0_sharePair_9, G0_sharePair_9]
    refine sm_if (z3_le rfl rfl qx4 qx8) ?_ ?_
    · refine sm_rd (x_gR_0_3 H) ?_
      refine sgxV fun c1 => ?_
      refine sm_wt (x_sI_0_3 H (z3_add (z3_mul rfl l3_5) rfl) c1 rfl qx6) fun h5 Hh5 => ?_
      refine sm_rd (x_gR_0_4 Hh5) ?_
      refine sgxV fun c2 => ?_
      refine sm_wt (x_sI_0_4 Hh5 (z3_add (z3_mul rfl l3_5) rfl) c2 rfl qx7) fun h9 Hh9 => ?_
      exact sm_retV Hh9
    · refine sm_rd (x_gR_0_1 H) ?_
      refine sgxV fun c3 => ?_
      refine sm_rd (x_aI_0_1 H (z3_add (z3_mul rfl l3_28) rfl) c3).1 ?_
      refine sm_rd (x_gR_0_1 H) ?_
      refine sgxV fun c4 => ?_
      refine sm_rd (x_aI_0_1 H (z3_add (z3_mul (z3_add l3_5 rfl) l3_28) rfl) c4).1 ?_
      refine sm_if (z3_lt rfl rfl (x_aI_0_1 H (z3_add (z3_mul rfl l3_28) rfl) c3).2 (x_aI_0_1 H (z3_add (z3_mul (z3_add l3_5 rfl) l3_28) rfl) c4).2) ?_ ?_
      · refine sg3V fun c5 => ?_
        exact S0_sharePair_75 (@fun _ H _ _ ex1 qx1 _ _ ex2 qx2 _ _ ex4 qx4 _ _ ex5 qx5 _ _ ex6 qx6 _ _ ex7 qx7 _ _ ex8 qx8 => ih H ex1 qx1 ex2 qx2 ex4 qx4 ex5 qx5 ex6 qx6 ex7 qx7 ex8 qx8) H rfl qx1 rfl qx2 rfl qx4 rfl qx5 rfl qx6 rfl qx7 rfl qx8 (z3_add (z3_mul rfl l3_28) rfl) c5
      · refine sm_rd (x_gR_0_1 H) ?_
        refine sgxV fun c6 => ?_
        refine sm_rd (x_aI_0_1 H (z3_add (z3_mul rfl l3_28) rfl) c6).1 ?_
        refine sm_rd (x_gR_0_1 H) ?_
        refine sgxV fun c7 => ?_
        refine sm_rd (x_aI_0_1 H (z3_add (z3_mul (z3_add l3_5 rfl) l3_28) rfl) c7).1 ?_
        refine sm_if (z3_eq rfl rfl (x_aI_0_1 H (z3_add (z3_mul rfl l3_28) rfl) c6).2 (x_aI_0_1 H (z3_add (z3_mul (z3_add l3_5 rfl) l3_28) rfl) c7).2) ?_ ?_
        · refine sm_if (z3_eq rfl l3_0 qx5 lr3_0) ?_ ?_
          · refine sg3V fun c8 => ?_
            exact S0_sharePair_90 (@fun _ H _ _ ex1 qx1 _ _ ex2 qx2 _ _ ex4 qx4 _ _ ex5 qx5 _ _ ex6 qx6 _ _ ex7 qx7 _ _ ex8 qx8 => ih H ex1 qx1 ex2 qx2 ex4 qx4 ex5 qx5 ex6 qx6 ex7 qx7 ex8 qx8) H rfl qx1 rfl qx2 rfl qx4 rfl qx5 rfl qx6 rfl qx7 rfl qx8 (z3_add (z3_mul (z3_add l3_5 rfl) l3_28) rfl) c8
          · refine sg3V fun c9 => ?_
            exact S0_sharePair_75 (@fun _ H _ _ ex1 qx1 _ _ ex2 qx2 _ _ ex4 qx4 _ _ ex5 qx5 _ _ ex6 qx6 _ _ ex7 qx7 _ _ ex8 qx8 => ih H ex1 qx1 ex2 qx2 ex4 qx4 ex5 qx5 ex6 qx6 ex7 qx7 ex8 qx8) H rfl qx1 rfl qx2 rfl qx4 rfl qx5 rfl qx6 rfl qx7 rfl qx8 (z3_add (z3_mul rfl l3_28) rfl) c9
        · refine sg3V fun c10 => ?_
          exact S0_sharePair_90 (@fun _ H _ _ ex1 qx1 _ _ ex2 qx2 _ _ ex4 qx4 _ _ ex5 qx5 _ _ ex6 qx6 _ _ ex7 qx7 _ _ ex8 qx8 => ih H ex1 qx1 ex2 qx2 ex4 qx4 ex5 qx5 ex6 qx6 ex7 qx7 ex8 qx8) H rfl qx1 rfl qx2 rfl qx4 rfl qx5 rfl qx6 rfl qx7 rfl qx8 (z3_add (z3_mul (z3_add l3_5 rfl) l3_28) rfl) c10
/-! The pure functions do so (written by wip/gen/gx.py). -/
theorem S0_sharePair_0 {h : PH} (H : OKX h) {x1i : Int32} {x1 : Int} (ex1 : x1i = Z3 x1) (qx1 : r3 x1) {x2i : Int32} {x2 : Int} (ex2 : x2i = Z3 x2) (qx2 : r3 x2) {x3i : Int32} {x3 : Int} (ex3 : x3i = Z3 x3) (qx3 : r3 x3) {x4i : Int32} {x4 : Int} (ex4 : x4i = Z3 x4) (qx4 : r3 x4) {x5i : Int32} {x5 : Int} (ex5 : x5i = Z3 x5) (qx5 : r3 x5) : SimV OKX (F0_sharePair_0 h 99 x1i x2i x3i x4i x5i) (G0_sharePair_0 (rd h) x1 x2 x3 x4 x5) := by
  subst ex1 ex2 ex3 ex4 ex5
  unfold F0_sharePair_0 G0_sharePair_0
  exact S0_sharePair_9 1024 H rfl qx1 rfl qx2 rfl qx4 rfl qx5 l3_0 lr3_0 l3_0 lr3_0 rfl qx3
theorem S0_sharePair {h : PH} (H : OKX h) {x1i : Int32} {x1 : Int} (ex1 : x1i = Z3 x1) (qx1 : r3 x1) {x2i : Int32} {x2 : Int} (ex2 : x2i = Z3 x2) (qx2 : r3 x2) {x3i : Int32} {x3 : Int} (ex3 : x3i = Z3 x3) (qx3 : r3 x3) {x4i : Int32} {x4 : Int} (ex4 : x4i = Z3 x4) (qx4 : r3 x4) {x5i : Int32} {x5 : Int} (ex5 : x5i = Z3 x5) (qx5 : r3 x5) : SimV OKX (F0_sharePair h 99 x1i x2i x3i x4i x5i) (G0_sharePair (rd h) x1 x2 x3 x4 x5) := by
  subst ex1 ex2 ex3 ex4 ex5
  unfold F0_sharePair G0_sharePair
  refine sm_cd (x_ok_0 H) ?_
  exact S0_sharePair_0 H rfl qx1 rfl qx2 rfl qx3 rfl qx4 rfl qx5
theorem S0_playGame_83 {k40 : PH → Nat → Nat → Int32 → Int32 → Int32 → Int32 → Option PH} {kk40 : Mem → Nat → Int → Int → Int → Int → Option Mem} (hk40 : ∀ {h : PH} (_ : OKX h) {a2 : Nat} (_ : A6 a2) {x3 : Int32} {y3 : Int} (_ : x3 = Z3 y3) (_ : r3 y3) {x4 : Int32} {y4 : Int} (_ : x4 = Z3 y4) (_ : r3 y4) {x5 : Int32} {y5 : Int} (_ : x5 = Z3 y5) (_ : r3 y5) {x6 : Int32} {y6 : Int} (_ : x6 = Z3 y6) (_ : r3 y6), SimV OKX (k40 h 99 a2 x3 x4 x5 x6) (kk40 (rd h) a2 y3 y4 y5 y6)) {k49 : PH → Nat → Nat → Int32 → Int32 → Int32 → Int32 → Int32 → Option PH} {kk49 : Mem → Nat → Int → Int → Int → Int → Int → Option Mem} (hk49 : ∀ {h : PH} (_ : OKX h) {a2 : Nat} (_ : A6 a2) {x3 : Int32} {y3 : Int} (_ : x3 = Z3 y3) (_ : r3 y3) {x4 : Int32} {y4 : Int} (_ : x4 = Z3 y4) (_ : r3 y4) {x5 : Int32} {y5 : Int} (_ : x5 = Z3 y5) (_ : r3 y5) {x6 : Int32} {y6 : Int} (_ : x6 = Z3 y6) (_ : r3 y6) {x7 : Int32} {y7 : Int} (_ : x7 = Z3 y7) (_ : r3 y7), SimV OKX (k49 h 99 a2 x3 x4 x5 x6 x7) (kk49 (rd h) a2 y3 y4 y5 y6 y7)) {h : PH} (H : OKX h) {a1 : Nat} (ha1 : A6 a1) {x3i : Int32} {x3 : Int} (ex3 : x3i = Z3 x3) (qx3 : r3 x3) {x4i : Int32} {x4 : Int} (ex4 : x4i = Z3 x4) (qx4 : r3 x4) {x5i : Int32} {x5 : Int} (ex5 : x5i = Z3 x5) (qx5 : r3 x5) {x6i : Int32} {x6 : Int} (ex6 : x6i = Z3 x6) (qx6 : r3 x6) {x7i : Int32} {x7 : Int} (ex7 : x7i = Z3 x7) (qx7 : r3 x7) {s0i : Int32} {s0 : Int} (es0 : s0i = Z3 s0) (qs0 : r3 s0) {s1i : Int32} {s1 : Int} (es1 : s1i = Z3 s1) (qs1 : r3 s1) {s2i : Int32} {s2 : Int} (es2 : s2i = Z3 s2) (qs2 : r3 s2) {s3i : Int32} {s3 : Int} (es3 : s3i = Z3 s3) (qs3 : r3 s3) {s4i : Int32} {s4 : Int} (es4 : s4i = Z3 s4) (qs4 : r3 s4) : SimV OKX (F0_playGame_83 k40 k49 h 99 a1 x3i x4i x5i x6i x7i s0i s1i s2i s3i s4i 99) (G0_playGame_83 kk40 kk49 (rd h) a1 x3 x4 x5 x6 x7 s0 s1 s2 s3 s4) := by
  subst ex3 ex4 ex5 ex6 ex7 es0 es1 es2 es3 es4
  unfold F0_playGame_83 G0_playGame_83
  refine sm_VV (S0_sharePair H rfl qs4 rfl qs3 rfl qs2 rfl qs1 rfl qs0) fun ho1 Ho1 => ?_
  refine sg3V fun c1 => ?_
  exact hk49 Ho1 ha1 rfl qx3 rfl qx4 rfl qx5 rfl qx6 (z3_add rfl l3_1) c1
theorem S0_playGame_49 {k40 : PH → Nat → Nat → Int32 → Int32 → Int32 → Int32 → Option PH} {kk40 : Mem → Nat → Int → Int → Int → Int → Option Mem} (hk40 : ∀ {h : PH} (_ : OKX h) {a2 : Nat} (_ : A6 a2) {x3 : Int32} {y3 : Int} (_ : x3 = Z3 y3) (_ : r3 y3) {x4 : Int32} {y4 : Int} (_ : x4 = Z3 y4) (_ : r3 y4) {x5 : Int32} {y5 : Int} (_ : x5 = Z3 y5) (_ : r3 y5) {x6 : Int32} {y6 : Int} (_ : x6 = Z3 y6) (_ : r3 y6), SimV OKX (k40 h 99 a2 x3 x4 x5 x6) (kk40 (rd h) a2 y3 y4 y5 y6)) (n : Nat) : ∀ {h : PH} (H : OKX h) {a1 : Nat} (ha1 : A6 a1) {x3i : Int32} {x3 : Int} (ex3 : x3i = Z3 x3) (qx3 : r3 x3) {x4i : Int32} {x4 : Int} (ex4 : x4i = Z3 x4) (qx4 : r3 x4) {x5i : Int32} {x5 : Int} (ex5 : x5i = Z3 x5) (qx5 : r3 x5) {x6i : Int32} {x6 : Int} (ex6 : x6i = Z3 x6) (qx6 : r3 x6) {x7i : Int32} {x7 : Int} (ex7 : x7i = Z3 x7) (qx7 : r3 x7), SimV OKX (F0_playGame_49 k40 n h 99 a1 x3i x4i x5i x6i x7i) (G0_playGame_49 kk40 n (rd h) a1 x3 x4 x5 x6 x7) := by
  induction n with
  | zero => intros; exact smV_none _
  | succ n ih =>
    intro h H a1 ha1 x3i x3 ex3 qx3 x4i x4 ex4 qx4 x5i x5 ex5 qx5 x6i x6 ex6 qx6 x7i x7 ex7 qx7
    subst ex3 ex4 ex5 ex6 ex7
    rw [F0_playGame_49, G0_playGame_49]
    refine sm_if (z3_le l3_5 rfl lr3_5 qx7) ?_ ?_
    · refine sg3V fun c1 => ?_
      exact hk40 H ha1 rfl qx3 rfl qx4 rfl qx5 (z3_add rfl l3_1) c1
    · refine sm_rd (x_gR_6_0 H ha1) ?_
      refine sm_rd (x_gR_8_5 H (x_v_6_0 H ha1)) ?_
      refine sm_rd (x_gI_10_1 H (ao_8_5 (x_v_6_0 H ha1))).1 ?_
      refine sm_if (z3_le rfl rfl qx4 qx3) ?_ ?_
      · exact S0_playGame_83 hk40 (@fun _ H _ ha1 _ _ ex3 qx3 _ _ ex4 qx4 _ _ ex5 qx5 _ _ ex6 qx6 _ _ ex7 qx7 => ih H ha1 ex3 qx3 ex4 qx4 ex5 qx5 ex6 qx6 ex7 qx7) H ha1 rfl qx3 rfl qx4 rfl qx5 rfl qx6 rfl qx7 l3_0 lr3_0 rfl ((x_gI_10_1 H (ao_8_5 (x_v_6_0 H ha1))).2) rfl qx5 rfl qx7 rfl qx6
      · exact S0_playGame_83 hk40 (@fun _ H _ ha1 _ _ ex3 qx3 _ _ ex4 qx4 _ _ ex5 qx5 _ _ ex6 qx6 _ _ ex7 qx7 => ih H ha1 ex3 qx3 ex4 qx4 ex5 qx5 ex6 qx6 ex7 qx7) H ha1 rfl qx3 rfl qx4 rfl qx5 rfl qx6 rfl qx7 l3_1 lr3_1 rfl ((x_gI_10_1 H (ao_8_5 (x_v_6_0 H ha1))).2) rfl qx5 rfl qx7 rfl qx6
theorem S0_playGame_40 (n : Nat) : ∀ {h : PH} (H : OKX h) {a1 : Nat} (ha1 : A6 a1) {x3i : Int32} {x3 : Int} (ex3 : x3i = Z3 x3) (qx3 : r3 x3) {x4i : Int32} {x4 : Int} (ex4 : x4i = Z3 x4) (qx4 : r3 x4) {x5i : Int32} {x5 : Int} (ex5 : x5i = Z3 x5) (qx5 : r3 x5) {x6i : Int32} {x6 : Int} (ex6 : x6i = Z3 x6) (qx6 : r3 x6), SimV OKX (F0_playGame_40 n h 99 a1 x3i x4i x5i x6i) (G0_playGame_40 n (rd h) a1 x3 x4 x5 x6) := by
  induction n with
  | zero => intros; exact smV_none _
  | succ n ih =>
    intro h H a1 ha1 x3i x3 ex3 qx3 x4i x4 ex4 qx4 x5i x5 ex5 qx5 x6i x6 ex6 qx6
    subst ex3 ex4 ex5 ex6
    rw [F0_playGame_40, G0_playGame_40]
    refine sm_if (z3_le l3_5 rfl lr3_5 qx6) ?_ ?_
    · refine sm_VV (S0_findRests H) fun ho2 Ho2 => ?_
      exact sm_retV Ho2
    · exact S0_playGame_49 (@fun _ H _ ha1 _ _ ex3 qx3 _ _ ex4 qx4 _ _ ex5 qx5 _ _ ex6 qx6 => ih H ha1 ex3 qx3 ex4 qx4 ex5 qx5 ex6 qx6) 1024 H ha1 rfl qx3 rfl qx4 rfl qx5 rfl qx6 l3_0 lr3_0
theorem S0_playGame_0 {h : PH} (H : OKX h) {a1 : Nat} (ha1 : A6 a1) {a2 : Nat} (ha2 : A4 a2) {x3i : Int32} {x3 : Int} (ex3 : x3i = Z3 x3) (qx3 : r3 x3) {x4i : Int32} {x4 : Int} (ex4 : x4i = Z3 x4) (qx4 : r3 x4) : SimV OKX (F0_playGame_0 h 99 a1 a2 x3i x4i) (G0_playGame_0 (rd h) a1 a2 x3 x4) := by
  subst ex3 ex4
  unfold F0_playGame_0 G0_playGame_0
  refine sm_rd (x_gR_6_0 H ha1) ?_
  refine sm_rd (x_gR_8_5 H (x_v_6_0 H ha1)) ?_
  refine sm_rd (x_gI_4_0 H ha2).1 ?_
  refine sm_IV (S10_firstFrom H (ao_8_5 (x_v_6_0 H ha1)) rfl ((x_gI_4_0 H ha2).2)) fun vo7 ho7 Ho7 ro7 => ?_
  refine sm_VV (S0_weighWays Ho7 ha1 ha2 rfl qx3 l3_0 lr3_0 rfl ro7) fun ho9 Ho9 => ?_
  refine sm_VV (S0_weighWays Ho9 ha1 ha2 rfl qx4 l3_5 lr3_5 rfl ro7) fun ho11 Ho11 => ?_
  exact S0_playGame_40 1024 Ho11 ha1 rfl qx3 rfl qx4 rfl ro7 l3_0 lr3_0
theorem S0_playGame {h : PH} (H : OKX h) {a1 : Nat} (ha1 : A6 a1) {a2 : Nat} (ha2 : A4 a2) {x3i : Int32} {x3 : Int} (ex3 : x3i = Z3 x3) (qx3 : r3 x3) {x4i : Int32} {x4 : Int} (ex4 : x4i = Z3 x4) (qx4 : r3 x4) : SimV OKX (F0_playGame h 99 a1 a2 x3i x4i) (G0_playGame (rd h) a1 a2 x3 x4) := by
  subst ex3 ex4
  unfold F0_playGame G0_playGame
  refine sm_cd (x_ok_0 H) ?_
  exact S0_playGame_0 H ha1 ha2 rfl qx3 rfl qx4
theorem S1_add_0 {h : PH} (H : OKX h) {a0 : Nat} (ha0 : A1 a0) {x1i : Int32} {x1 : Int} (ex1 : x1i = Z3 x1) (qx1 : r3 x1) {x2i : Int32} {x2 : Int} (ex2 : x2i = Z3 x2) (qx2 : r3 x2) {x3i : Int32} {x3 : Int} (ex3 : x3i = Z3 x3) (qx3 : r3 x3) {x4i : Int32} {x4 : Int} (ex4 : x4i = Z3 x4) (qx4 : r3 x4) {x5i : Int32} {x5 : Int} (ex5 : x5i = Z3 x5) (qx5 : r3 x5) {x6i : Int32} {x6 : Int} (ex6 : x6i = Z3 x6) (qx6 : r3 x6) : SimV OKX (F1_add_0 h a0 x1i x2i x3i x4i x5i x6i) (G1_add_0 (rd h) a0 x1 x2 x3 x4 x5 x6) := by
  subst ex1 ex2 ex3 ex4 ex5 ex6
  unfold F1_add_0 G1_add_0
  refine sm_rd (x_gI_1_0 H ha0).1 ?_
  refine sm_if (z3_lt rfl l3_5 (x_gI_1_0 H ha0).2 lr3_5) ?_ ?_
  · refine sm_rd (x_gR_1_1 H ha0) ?_
    refine sm_rd (x_gI_1_0 H ha0).1 ?_
    refine sgxV fun c1 => ?_
    refine sm_wt (x_sI_1_1 H (ao_1_1 ha0) rfl c1 rfl qx1) fun h9 Hh9 => ?_
    refine sm_rd (x_gR_1_2 Hh9 ha0) ?_
    refine sm_rd (x_gI_1_0 Hh9 ha0).1 ?_
    refine sgxV fun c2 => ?_
    refine sm_wt (x_sI_1_2 Hh9 (ao_1_2 ha0) rfl c2 rfl qx2) fun h15 Hh15 => ?_
    refine sm_rd (x_gR_1_3 Hh15 ha0) ?_
    refine sm_rd (x_gI_1_0 Hh15 ha0).1 ?_
    refine sgxV fun c3 => ?_
    refine sm_wt (x_sI_1_3 Hh15 (ao_1_3 ha0) rfl c3 rfl qx3) fun h21 Hh21 => ?_
    refine sm_rd (x_gR_1_4 Hh21 ha0) ?_
    refine sm_rd (x_gI_1_0 Hh21 ha0).1 ?_
    refine sgxV fun c4 => ?_
    refine sm_wt (x_sI_1_4 Hh21 (ao_1_4 ha0) rfl c4 rfl qx4) fun h27 Hh27 => ?_
    refine sm_rd (x_gR_1_5 Hh27 ha0) ?_
    refine sm_rd (x_gI_1_0 Hh27 ha0).1 ?_
    refine sgxV fun c5 => ?_
    refine sm_wt (x_sI_1_5 Hh27 (ao_1_5 ha0) rfl c5 rfl qx5) fun h33 Hh33 => ?_
    refine sm_rd (x_gR_1_6 Hh33 ha0) ?_
    refine sm_rd (x_gI_1_0 Hh33 ha0).1 ?_
    refine sgxV fun c6 => ?_
    refine sm_wt (x_sI_1_6 Hh33 (ao_1_6 ha0) rfl c6 rfl qx6) fun h39 Hh39 => ?_
    refine sm_rd (x_gI_1_0 Hh39 ha0).1 ?_
    refine sg3V fun c7 => ?_
    refine sm_wt (x_pI_1_0 Hh39 ha0 (z3_add rfl l3_1) c7) fun h42 Hh42 => ?_
    exact sm_retV Hh42
  · exact sm_retV H
theorem S1_add {h : PH} (H : OKX h) {a0 : Nat} (ha0 : A1 a0) {x1i : Int32} {x1 : Int} (ex1 : x1i = Z3 x1) (qx1 : r3 x1) {x2i : Int32} {x2 : Int} (ex2 : x2i = Z3 x2) (qx2 : r3 x2) {x3i : Int32} {x3 : Int} (ex3 : x3i = Z3 x3) (qx3 : r3 x3) {x4i : Int32} {x4 : Int} (ex4 : x4i = Z3 x4) (qx4 : r3 x4) {x5i : Int32} {x5 : Int} (ex5 : x5i = Z3 x5) (qx5 : r3 x5) {x6i : Int32} {x6 : Int} (ex6 : x6i = Z3 x6) (qx6 : r3 x6) : SimV OKX (F1_add h a0 x1i x2i x3i x4i x5i x6i) (G1_add (rd h) a0 x1 x2 x3 x4 x5 x6) := by
  subst ex1 ex2 ex3 ex4 ex5 ex6
  unfold F1_add G1_add
  refine sm_cd (x_ok_1 H ha0) ?_
  exact S1_add_0 H ha0 rfl qx1 rfl qx2 rfl qx3 rfl qx4 rfl qx5 rfl qx6
theorem S1_hasName_2 (n : Nat) : ∀ {h : PH} (H : OKX h) {a0 : Nat} (ha0 : A1 a0) {x1i : Int32} {x1 : Int} (ex1 : x1i = Z3 x1) (qx1 : r3 x1) {x2i : Int32} {x2 : Int} (ex2 : x2i = Z3 x2) (qx2 : r3 x2), SimI OKX (F1_hasName_2 n h a0 x1i x2i) (G1_hasName_2 n (rd h) a0 x1 x2) := by
  induction n with
  | zero => intros; exact smI_none _
  | succ n ih =>
    intro h H a0 ha0 x1i x1 ex1 qx1 x2i x2 ex2 qx2
    subst ex1 ex2
    rw [F1_hasName_2, G1_hasName_2]
    refine sm_rd (x_gI_1_0 H ha0).1 ?_
    refine sm_if (z3_le rfl rfl (x_gI_1_0 H ha0).2 qx2) ?_ ?_
    · exact sm_rz H l3_0 (by decide)
    · refine sm_rd (x_gR_1_1 H ha0) ?_
      refine sgxI fun c1 => ?_
      refine sm_rd (x_aI_1_1 H (ao_1_1 ha0) rfl c1).1 ?_
      refine sm_if (z3_eq rfl rfl (x_aI_1_1 H (ao_1_1 ha0) rfl c1).2 qx1) ?_ ?_
      · exact sm_rz H l3_1 (by decide)
      · refine sg3I fun c2 => ?_
        exact ih H ha0 rfl qx1 (z3_add rfl l3_1) c2
theorem S1_hasName_0 {h : PH} (H : OKX h) {a0 : Nat} (ha0 : A1 a0) {x1i : Int32} {x1 : Int} (ex1 : x1i = Z3 x1) (qx1 : r3 x1) : SimI OKX (F1_hasName_0 h a0 x1i) (G1_hasName_0 (rd h) a0 x1) := by
  subst ex1
  unfold F1_hasName_0 G1_hasName_0
  exact S1_hasName_2 1024 H ha0 rfl qx1 l3_0 lr3_0
theorem S1_hasName {h : PH} (H : OKX h) {a0 : Nat} (ha0 : A1 a0) {x1i : Int32} {x1 : Int} (ex1 : x1i = Z3 x1) (qx1 : r3 x1) : SimI OKX (F1_hasName h a0 x1i) (G1_hasName (rd h) a0 x1) := by
  subst ex1
  unfold F1_hasName G1_hasName
  refine sm_cd (x_ok_1 H ha0) ?_
  exact S1_hasName_0 H ha0 rfl qx1
theorem S2_add_0 {h : PH} (H : OKX h) {a0 : Nat} (ha0 : A2 a0) {x1i : Int32} {x1 : Int} (ex1 : x1i = Z3 x1) (qx1 : r3 x1) : SimV OKX (F2_add_0 h a0 x1i) (G2_add_0 (rd h) a0 x1) := by
  subst ex1
  unfold F2_add_0 G2_add_0
  refine sm_rd (x_gI_2_1 H ha0).1 ?_
  refine sm_rd (x_gR_2_0 H ha0) ?_
  refine sm_rd (x_aL_2_0 H (ao_2_0 ha0)) ?_
  refine sm_if (z3_le rfl rfl lr3_64 (x_gI_2_1 H ha0).2) ?_ ?_
  · exact sm_retV H
  · refine sm_rd (x_gR_2_0 H ha0) ?_
    refine sm_rd (x_gI_2_1 H ha0).1 ?_
    refine sgxV fun c1 => ?_
    refine sm_wt (x_sI_2_0 H (ao_2_0 ha0) rfl c1 rfl qx1) fun h13 Hh13 => ?_
    refine sm_rd (x_gI_2_1 Hh13 ha0).1 ?_
    refine sg3V fun c2 => ?_
    refine sm_wt (x_pI_2_1 Hh13 ha0 (z3_add rfl l3_1) c2) fun h16 Hh16 => ?_
    exact sm_retV Hh16
theorem S2_add {h : PH} (H : OKX h) {a0 : Nat} (ha0 : A2 a0) {x1i : Int32} {x1 : Int} (ex1 : x1i = Z3 x1) (qx1 : r3 x1) : SimV OKX (F2_add h a0 x1i) (G2_add (rd h) a0 x1) := by
  subst ex1
  unfold F2_add G2_add
  refine sm_cd (x_ok_2 H ha0) ?_
  exact S2_add_0 H ha0 rfl qx1
theorem S2_forget_0 {h : PH} (H : OKX h) {a0 : Nat} (ha0 : A2 a0) : SimV OKX (F2_forget_0 h a0) (G2_forget_0 (rd h) a0) := by
  unfold F2_forget_0 G2_forget_0
  refine sm_wt (x_pI_2_1 H ha0 l3_0 lr3_0) fun h1 Hh1 => ?_
  refine sm_wt (x_pZ_2_2 Hh1 ha0 l3_0 (by decide)) fun h3 Hh3 => ?_
  exact sm_retV Hh3
theorem S2_forget {h : PH} (H : OKX h) {a0 : Nat} (ha0 : A2 a0) : SimV OKX (F2_forget h a0) (G2_forget (rd h) a0) := by
  unfold F2_forget G2_forget
  refine sm_cd (x_ok_2 H ha0) ?_
  exact S2_forget_0 H ha0
theorem S3_addSeat_0 {h : PH} (H : OKX h) {x1i : Int32} {x1 : Int} (ex1 : x1i = Z3 x1) (qx1 : r3 x1) {x2i : Int32} {x2 : Int} (ex2 : x2i = Z3 x2) (qx2 : r3 x2) {x3i : Int32} {x3 : Int} (ex3 : x3i = Z3 x3) (qx3 : r3 x3) : SimI OKX (F3_addSeat_0 h 90 x1i x2i x3i) (G3_addSeat_0 (rd h) x1 x2 x3) := by
  subst ex1 ex2 ex3
  unfold F3_addSeat_0 G3_addSeat_0
  refine sm_rd (x_gI_3_0 H).1 ?_
  refine sm_if (z3_lt rfl l3_24 (x_gI_3_0 H).2 lr3_24) ?_ ?_
  · refine sm_rd (x_gR_3_2 H) ?_
    refine sm_rd (x_gI_3_0 H).1 ?_
    refine sgxI fun c1 => ?_
    refine sm_wt (x_sI_3_2 H rfl c1 rfl qx1) fun h9 Hh9 => ?_
    refine sm_rd (x_gR_3_3 Hh9) ?_
    refine sm_rd (x_gI_3_0 Hh9).1 ?_
    refine sgxI fun c2 => ?_
    refine sm_wt (x_sI_3_3 Hh9 rfl c2 rfl qx2) fun h15 Hh15 => ?_
    refine sm_rd (x_gR_3_4 Hh15) ?_
    refine sm_rd (x_gI_3_0 Hh15).1 ?_
    refine sgxI fun c3 => ?_
    refine sm_wt (x_sI_3_4 Hh15 rfl c3 rfl qx3) fun h21 Hh21 => ?_
    refine sm_rd (x_gR_3_5 Hh21) ?_
    refine sm_rd (x_gI_3_0 Hh21).1 ?_
    refine sgxI fun c4 => ?_
    refine sm_wt (x_sI_3_5 Hh21 rfl c4 l3_m1 lr3_m1) fun h27 Hh27 => ?_
    refine sm_rd (x_gI_3_0 Hh27).1 ?_
    refine sg3I fun c5 => ?_
    refine sm_wt (x_pI_3_0 Hh27 (z3_add rfl l3_1) c5) fun h30 Hh30 => ?_
    refine sm_rd (x_gI_3_0 Hh30).1 ?_
    refine sg3I fun c6 => ?_
    exact sm_retI Hh30 (z3_sub rfl l3_1) c6
  · exact sm_retI H l3_m1 lr3_m1
theorem S3_addSeat {h : PH} (H : OKX h) {x1i : Int32} {x1 : Int} (ex1 : x1i = Z3 x1) (qx1 : r3 x1) {x2i : Int32} {x2 : Int} (ex2 : x2i = Z3 x2) (qx2 : r3 x2) {x3i : Int32} {x3 : Int} (ex3 : x3i = Z3 x3) (qx3 : r3 x3) : SimI OKX (F3_addSeat h 90 x1i x2i x3i) (G3_addSeat (rd h) x1 x2 x3) := by
  subst ex1 ex2 ex3
  unfold F3_addSeat G3_addSeat
  refine sm_cd (x_ok_3 H) ?_
  exact S3_addSeat_0 H rfl qx1 rfl qx2 rfl qx3
theorem S3_addStrike_0 {h : PH} (H : OKX h) {x1i : Int32} {x1 : Int} (ex1 : x1i = Z3 x1) (qx1 : r3 x1) : SimI OKX (F3_addStrike_0 h 90 x1i) (G3_addStrike_0 (rd h) x1) := by
  subst ex1
  unfold F3_addStrike_0 G3_addStrike_0
  refine sm_rd (x_gI_3_0 H).1 ?_
  refine sm_if (z3_lt rfl l3_24 (x_gI_3_0 H).2 lr3_24) ?_ ?_
  · refine sm_rd (x_gR_3_3 H) ?_
    refine sm_rd (x_gI_3_0 H).1 ?_
    refine sgxI fun c1 => ?_
    refine sm_wt (x_sI_3_3 H rfl c1 l3_m1 lr3_m1) fun h9 Hh9 => ?_
    refine sm_rd (x_gR_3_5 Hh9) ?_
    refine sm_rd (x_gI_3_0 Hh9).1 ?_
    refine sgxI fun c2 => ?_
    refine sm_wt (x_sI_3_5 Hh9 rfl c2 rfl qx1) fun h15 Hh15 => ?_
    refine sm_rd (x_gI_3_0 Hh15).1 ?_
    refine sg3I fun c3 => ?_
    refine sm_wt (x_pI_3_0 Hh15 (z3_add rfl l3_1) c3) fun h18 Hh18 => ?_
    refine sm_rd (x_gI_3_0 Hh18).1 ?_
    refine sg3I fun c4 => ?_
    exact sm_retI Hh18 (z3_sub rfl l3_1) c4
  · exact sm_retI H l3_m1 lr3_m1
theorem S3_addStrike {h : PH} (H : OKX h) {x1i : Int32} {x1 : Int} (ex1 : x1i = Z3 x1) (qx1 : r3 x1) : SimI OKX (F3_addStrike h 90 x1i) (G3_addStrike (rd h) x1) := by
  subst ex1
  unfold F3_addStrike G3_addStrike
  refine sm_cd (x_ok_3 H) ?_
  exact S3_addStrike_0 H rfl qx1
theorem S3_howManyKnown_0 {h : PH} (H : OKX h) : SimI OKX (F3_howManyKnown_0 h 90) (G3_howManyKnown_0 (rd h)) := by
  unfold F3_howManyKnown_0 G3_howManyKnown_0
  refine sm_rd (x_gI_3_1 H).1 ?_
  refine sm_if (z3_eq rfl l3_m1 (x_gI_3_1 H).2 lr3_m1) ?_ ?_
  · refine sm_rd (x_gI_3_0 H).1 ?_
    exact sm_retI H rfl (x_gI_3_0 H).2
  · refine sm_rd (x_gI_3_1 H).1 ?_
    exact sm_retI H rfl (x_gI_3_1 H).2
theorem S3_howManyKnown {h : PH} (H : OKX h) : SimI OKX (F3_howManyKnown h 90) (G3_howManyKnown (rd h)) := by
  unfold F3_howManyKnown G3_howManyKnown
  refine sm_cd (x_ok_3 H) ?_
  exact S3_howManyKnown_0 H
theorem S3_findStruck_29 (n : Nat) : ∀ {h : PH} (H : OKX h) {x2i : Int32} {x2 : Int} (ex2 : x2i = Z3 x2) (qx2 : r3 x2), SimV OKX (F3_findStruck_29 n h 90 x2i) (G3_findStruck_29 n (rd h) x2) := by
  induction n with
  | zero => intros; exact smV_none _
  | succ n ih =>
    intro h H x2i x2 ex2 qx2
    subst ex2
    rw [F3_findStruck_29, G3_findStruck_29]
    refine sm_if (z3_lt rfl l3_0 qx2 lr3_0) ?_ ?_
    · exact sm_retV H
    · refine sm_rd (x_gR_3_6 H) ?_
      refine sgxV fun c1 => ?_
      refine sm_rd (x_aI_3_6 H rfl c1).1 ?_
      refine sm_if (z3_eq rfl l3_0 (x_aI_3_6 H rfl c1).2 lr3_0) ?_ ?_
      · refine sm_rd (x_gR_3_5 H) ?_
        refine sgxV fun c2 => ?_
        refine sm_rd (x_aI_3_5 H rfl c2).1 ?_
        refine sm_if (z3_eq rfl l3_m1 (x_aI_3_5 H rfl c2).2 lr3_m1) ?_ ?_
        · refine sg3V fun c3 => ?_
          exact ih H (z3_add rfl l3_m1) c3
        · refine sm_rd (x_gR_3_6 H) ?_
          refine sm_rd (x_gR_3_5 H) ?_
          refine sgxV fun c4 => ?_
          refine sm_rd (x_aI_3_5 H rfl c4).1 ?_
          refine sgxV fun c5 => ?_
          refine sgbV fun c6 => ?_
          refine sm_wt (x_sI_3_6 H rfl c5 (z3_bo l3_1 c6) (r3_b c6)) fun h19 Hh19 => ?_
          refine sg3V fun c7 => ?_
          exact ih Hh19 (z3_add rfl l3_m1) c7
      · refine sg3V fun c8 => ?_
        exact ih H (z3_add rfl l3_m1) c8
theorem S3_findStruck_7 (n : Nat) : ∀ {h : PH} (H : OKX h) {x1i : Int32} {x1 : Int} (ex1 : x1i = Z3 x1) (qx1 : r3 x1) {x2i : Int32} {x2 : Int} (ex2 : x2i = Z3 x2) (qx2 : r3 x2), SimV OKX (F3_findStruck_7 n h 90 x1i x2i) (G3_findStruck_7 n (rd h) x1 x2) := by
  induction n with
  | zero => intros; exact smV_none _
  | succ n ih =>
    intro h H x1i x1 ex1 qx1 x2i x2 ex2 qx2
    subst ex1 ex2
    rw [F3_findStruck_7, G3_findStruck_7]
    refine sm_if (z3_le rfl rfl qx1 qx2) ?_ ?_
    · refine sg3V fun c1 => ?_
      exact S3_findStruck_29 1024 H (z3_sub rfl l3_1) c1
    · refine sm_rd (x_gR_3_6 H) ?_
      refine sgxV fun c2 => ?_
      refine sgbV fun c3 => ?_
      refine sm_wt (x_sI_3_6 H rfl c2 (z3_bo l3_0 c3) (r3_b c3)) fun h5 Hh5 => ?_
      refine sg3V fun c4 => ?_
      exact ih Hh5 rfl qx1 (z3_add rfl l3_1) c4
theorem S3_findStruck_0 {h : PH} (H : OKX h) : SimV OKX (F3_findStruck_0 h 90) (G3_findStruck_0 (rd h)) := by
  unfold F3_findStruck_0 G3_findStruck_0
  refine sm_IV (S3_howManyKnown H) fun vo1 ho1 Ho1 ro1 => ?_
  exact S3_findStruck_7 1024 Ho1 rfl ro1 l3_0 lr3_0
theorem S3_findStruck {h : PH} (H : OKX h) : SimV OKX (F3_findStruck h 90) (G3_findStruck (rd h)) := by
  unfold F3_findStruck G3_findStruck
  refine sm_cd (x_ok_3 H) ?_
  exact S3_findStruck_0 H
theorem S3_isKnownSeat_0 {h : PH} (H : OKX h) {x1i : Int32} {x1 : Int} (ex1 : x1i = Z3 x1) (qx1 : r3 x1) : SimI OKX (F3_isKnownSeat_0 h 90 x1i) (G3_isKnownSeat_0 (rd h) x1) := by
  subst ex1
  unfold F3_isKnownSeat_0 G3_isKnownSeat_0
  refine sm_rd (x_gR_3_6 H) ?_
  refine sgxI fun c1 => ?_
  refine sm_rd (x_aI_3_6 H rfl c1).1 ?_
  refine sm_if (z3_eq rfl l3_0 (x_aI_3_6 H rfl c1).2 lr3_0) ?_ ?_
  · refine sm_rd (x_gR_3_5 H) ?_
    refine sgxI fun c2 => ?_
    refine sm_rd (x_aI_3_5 H rfl c2).1 ?_
    refine sm_if (z3_eq rfl l3_m1 (x_aI_3_5 H rfl c2).2 lr3_m1) ?_ ?_
    · exact sm_rz H l3_1 (by decide)
    · exact sm_rz H l3_0 (by decide)
  · exact sm_rz H l3_0 (by decide)
theorem S3_isKnownSeat {h : PH} (H : OKX h) {x1i : Int32} {x1 : Int} (ex1 : x1i = Z3 x1) (qx1 : r3 x1) : SimI OKX (F3_isKnownSeat h 90 x1i) (G3_isKnownSeat (rd h) x1) := by
  subst ex1
  unfold F3_isKnownSeat G3_isKnownSeat
  refine sm_cd (x_ok_3 H) ?_
  exact S3_isKnownSeat_0 H rfl qx1
theorem S4_begin_89 (n : Nat) : ∀ {h : PH} (H : OKX h) {a0 : Nat} (ha0 : A4 a0) {x2i : Int32} {x2 : Int} (ex2 : x2i = Z3 x2) (qx2 : r3 x2), SimV OKX (F4_begin_89 n h a0 x2i) (G4_begin_89 n (rd h) a0 x2) := by
  induction n with
  | zero => intros; exact smV_none _
  | succ n ih =>
    intro h H a0 ha0 x2i x2 ex2 qx2
    subst ex2
    rw [F4_begin_89, G4_begin_89]
    refine sm_if (z3_le l3_28 rfl lr3_28 qx2) ?_ ?_
    · exact sm_retV H
    · refine sm_rd (x_gR_4_10 H ha0) ?_
      refine sgxV fun c1 => ?_
      refine sm_wt (x_sI_4_10 H (ao_4_10 ha0) rfl c1 l3_m2 lr3_m2) fun h5 Hh5 => ?_
      refine sg3V fun c2 => ?_
      exact ih Hh5 ha0 (z3_add rfl l3_1) c2
theorem S4_begin_33 (n : Nat) : ∀ {h : PH} (H : OKX h) {a0 : Nat} (ha0 : A4 a0) {a1 : Nat} (ha1 : A8 a1) {x2i : Int32} {x2 : Int} (ex2 : x2i = Z3 x2) (qx2 : r3 x2), SimV OKX (F4_begin_33 n h a0 a1 x2i) (G4_begin_33 n (rd h) a0 a1 x2) := by
  induction n with
  | zero => intros; exact smV_none _
  | succ n ih =>
    intro h H a0 ha0 a1 ha1 x2i x2 ex2 qx2
    subst ex2
    rw [F4_begin_33, G4_begin_33]
    refine sm_if (z3_le l3_5 rfl lr3_5 qx2) ?_ ?_
    · exact S4_begin_89 1024 H ha0 l3_0 lr3_0
    · refine sm_rd (x_gR_4_5 H ha0) ?_
      refine sm_rd (x_gR_8_4 H ha1) ?_
      refine sm_rd (x_gR_1_2 H (ao_8_4 ha1)) ?_
      refine sgxV fun c1 => ?_
      refine sm_rd (x_aI_1_2 H (ao_1_2 (ao_8_4 ha1)) rfl c1).1 ?_
      refine sgxV fun c2 => ?_
      refine sm_wt (x_sI_4_5 H (ao_4_5 ha0) rfl c2 rfl (x_aI_1_2 H (ao_1_2 (ao_8_4 ha1)) rfl c1).2) fun h11 Hh11 => ?_
      refine sm_rd (x_gR_4_6 Hh11 ha0) ?_
      refine sgxV fun c3 => ?_
      refine sm_wt (x_sI_4_6 Hh11 (ao_4_6 ha0) rfl c3 l3_0 lr3_0) fun h15 Hh15 => ?_
      refine sm_rd (x_gR_4_7 Hh15 ha0) ?_
      refine sgxV fun c4 => ?_
      refine sm_wt (x_sI_4_7 Hh15 (ao_4_7 ha0) rfl c4 l3_0 lr3_0) fun h19 Hh19 => ?_
      refine sm_rd (x_gR_4_8 Hh19 ha0) ?_
      refine sgxV fun c5 => ?_
      refine sm_wt (x_sI_4_8 Hh19 (ao_4_8 ha0) rfl c5 l3_0 lr3_0) fun h23 Hh23 => ?_
      refine sm_rd (x_gR_4_9 Hh23 ha0) ?_
      refine sgxV fun c6 => ?_
      refine sm_wt (x_sI_4_9 Hh23 (ao_4_9 ha0) rfl c6 l3_0 lr3_0) fun h27 Hh27 => ?_
      refine sg3V fun c7 => ?_
      exact ih Hh27 ha0 ha1 (z3_add rfl l3_1) c7
theorem S4_begin_0 {h : PH} (H : OKX h) {a0 : Nat} (ha0 : A4 a0) {a1 : Nat} (ha1 : A8 a1) : SimV OKX (F4_begin_0 h a0 a1) (G4_begin_0 (rd h) a0 a1) := by
  unfold F4_begin_0 G4_begin_0
  refine sm_wt (x_pI_4_0 H ha0 l3_0 lr3_0) fun h1 Hh1 => ?_
  refine sm_rd (x_gI_8_9 Hh1 ha1).1 ?_
  refine sm_wt (x_pI_4_1 Hh1 ha0 rfl (x_gI_8_9 Hh1 ha1).2) fun h5 Hh5 => ?_
  refine sm_rd (x_gI_8_10 Hh5 ha1).1 ?_
  refine sm_wt (x_pI_4_2 Hh5 ha0 rfl (x_gI_8_10 Hh5 ha1).2) fun h9 Hh9 => ?_
  refine sm_wt (x_pI_4_3 Hh9 ha0 l3_0 lr3_0) fun h11 Hh11 => ?_
  refine sm_wt (x_pI_4_4 Hh11 ha0 l3_0 lr3_0) fun h13 Hh13 => ?_
  exact S4_begin_33 1024 Hh13 ha0 ha1 l3_0 lr3_0
theorem S4_begin {h : PH} (H : OKX h) {a0 : Nat} (ha0 : A4 a0) {a1 : Nat} (ha1 : A8 a1) : SimV OKX (F4_begin h a0 a1) (G4_begin (rd h) a0 a1) := by
  unfold F4_begin G4_begin
  refine sm_cd (x_ok_4 H ha0) ?_
  exact S4_begin_0 H ha0 ha1
theorem S4_isIn_0 {h : PH} (H : OKX h) {a0 : Nat} (ha0 : A4 a0) {x1i : Int32} {x1 : Int} (ex1 : x1i = Z3 x1) (qx1 : r3 x1) {x2i : Int32} {x2 : Int} (ex2 : x2i = Z3 x2) (qx2 : r3 x2) : SimI OKX (F4_isIn_0 h a0 x1i x2i) (G4_isIn_0 (rd h) a0 x1 x2) := by
  subst ex1 ex2
  unfold F4_isIn_0 G4_isIn_0
  refine sm_rd (x_gR_4_8 H ha0) ?_
  refine sgxI fun c1 => ?_
  refine sm_rd (x_aI_4_8 H (ao_4_8 ha0) rfl c1).1 ?_
  refine sm_if (z3_lt rfl rfl qx2 (x_aI_4_8 H (ao_4_8 ha0) rfl c1).2) ?_ ?_
  · exact sm_rz H l3_0 (by decide)
  · exact sm_rz H l3_1 (by decide)
theorem S4_isIn {h : PH} (H : OKX h) {a0 : Nat} (ha0 : A4 a0) {x1i : Int32} {x1 : Int} (ex1 : x1i = Z3 x1) (qx1 : r3 x1) {x2i : Int32} {x2 : Int} (ex2 : x2i = Z3 x2) (qx2 : r3 x2) : SimI OKX (F4_isIn h a0 x1i x2i) (G4_isIn (rd h) a0 x1 x2) := by
  subst ex1 ex2
  unfold F4_isIn G4_isIn
  refine sm_cd (x_ok_4 H ha0) ?_
  exact S4_isIn_0 H ha0 rfl qx1 rfl qx2
theorem S4_beginMinute_36 {k12 : PH → Nat → Int32 → Int32 → Option PH} {kk12 : Mem → Nat → Int → Int → Option Mem} (hk12 : ∀ {h : PH} (_ : OKX h) {a1 : Nat} (_ : A4 a1) {x2 : Int32} {y2 : Int} (_ : x2 = Z3 y2) (_ : r3 y2) {x3 : Int32} {y3 : Int} (_ : x3 = Z3 y3) (_ : r3 y3), SimV OKX (k12 h a1 x2 x3) (kk12 (rd h) a1 y2 y3)) {h : PH} (H : OKX h) {a0 : Nat} (ha0 : A4 a0) {x1i : Int32} {x1 : Int} (ex1 : x1i = Z3 x1) (qx1 : r3 x1) {x2i : Int32} {x2 : Int} (ex2 : x2i = Z3 x2) (qx2 : r3 x2) : SimV OKX (F4_beginMinute_36 k12 h a0 x1i x2i) (G4_beginMinute_36 kk12 (rd h) a0 x1 x2) := by
  subst ex1 ex2
  unfold F4_beginMinute_36 G4_beginMinute_36
  refine sm_rd (x_gR_4_9 H ha0) ?_
  refine sgxV fun c1 => ?_
  refine sm_wt (x_sI_4_9 H (ao_4_9 ha0) rfl c1 l3_0 lr3_0) fun h4 Hh4 => ?_
  refine sg3V fun c2 => ?_
  exact hk12 Hh4 ha0 rfl qx1 (z3_add rfl l3_1) c2
theorem S4_beginMinute_12 (n : Nat) : ∀ {h : PH} (H : OKX h) {a0 : Nat} (ha0 : A4 a0) {x1i : Int32} {x1 : Int} (ex1 : x1i = Z3 x1) (qx1 : r3 x1) {x2i : Int32} {x2 : Int} (ex2 : x2i = Z3 x2) (qx2 : r3 x2), SimV OKX (F4_beginMinute_12 n h a0 x1i x2i) (G4_beginMinute_12 n (rd h) a0 x1 x2) := by
  induction n with
  | zero => intros; exact smV_none _
  | succ n ih =>
    intro h H a0 ha0 x1i x1 ex1 qx1 x2i x2 ex2 qx2
    subst ex1 ex2
    rw [F4_beginMinute_12, G4_beginMinute_12]
    refine sm_if (z3_le rfl rfl qx1 qx2) ?_ ?_
    · exact sm_retV H
    · refine sm_rd (x_gI_4_0 H ha0).1 ?_
      refine sm_IV (S4_isIn H ha0 rfl qx2 rfl ((x_gI_4_0 H ha0).2)) fun vo4 ho4 Ho4 ro4 => ?_
      refine sm_if (z3_eq rfl l3_0 ro4 lr3_0) ?_ ?_
      · exact S4_beginMinute_36 (@fun _ H _ ha0 _ _ ex1 qx1 _ _ ex2 qx2 => ih H ha0 ex1 qx1 ex2 qx2) Ho4 ha0 rfl qx1 rfl qx2
      · refine sm_rd (x_gR_4_8 Ho4 ha0) ?_
        refine sgxV fun c1 => ?_
        refine sm_wt (x_sI_4_8 Ho4 (ao_4_8 ha0) rfl c1 l3_0 lr3_0) fun h10 Hh10 => ?_
        exact S4_beginMinute_36 (@fun _ H _ ha0 _ _ ex1 qx1 _ _ ex2 qx2 => ih H ha0 ex1 qx1 ex2 qx2) Hh10 ha0 rfl qx1 rfl qx2
theorem S4_beginMinute_0 {h : PH} (H : OKX h) {a0 : Nat} (ha0 : A4 a0) {x1i : Int32} {x1 : Int} (ex1 : x1i = Z3 x1) (qx1 : r3 x1) : SimV OKX (F4_beginMinute_0 h a0 x1i) (G4_beginMinute_0 (rd h) a0 x1) := by
  subst ex1
  unfold F4_beginMinute_0 G4_beginMinute_0
  refine sm_rd (x_gI_4_0 H ha0).1 ?_
  refine sg3V fun c1 => ?_
  refine sm_wt (x_pI_4_0 H ha0 (z3_add rfl l3_1) c1) fun h3 Hh3 => ?_
  exact S4_beginMinute_12 1024 Hh3 ha0 rfl qx1 l3_0 lr3_0
theorem S4_beginMinute {h : PH} (H : OKX h) {a0 : Nat} (ha0 : A4 a0) {x1i : Int32} {x1 : Int} (ex1 : x1i = Z3 x1) (qx1 : r3 x1) : SimV OKX (F4_beginMinute h a0 x1i) (G4_beginMinute (rd h) a0 x1) := by
  subst ex1
  unfold F4_beginMinute G4_beginMinute
  refine sm_cd (x_ok_4 H ha0) ?_
  exact S4_beginMinute_0 H ha0 rfl qx1
theorem S4_drawHundredth_0 {h : PH} (H : OKX h) {a0 : Nat} (ha0 : A4 a0) : SimI OKX (F4_drawHundredth_0 h a0) (G4_drawHundredth_0 (rd h) a0) := by
  unfold F4_drawHundredth_0 G4_drawHundredth_0
  refine sm_rd (x_gI_4_2 H ha0).1 ?_
  refine sg3I fun c1 => ?_
  refine sm_wt (x_pI_4_2 H ha0 (z6_to3 (z6_an (z6_add (z6_mul (z3_to6 rfl (x_gI_4_2 H ha0).2) l6_1103515245) l6_12345) l6_2147483647)) c1) fun h3 Hh3 => ?_
  refine sm_rd (x_gI_4_2 Hh3 ha0).1 ?_
  refine sgdI fun c2 => ?_
  exact sm_retI Hh3 (z3_rem (z3_sr rfl (z3_an l3_16 l3_31)) l3_100 (r3_of _) lr3_100 c2) (r3_rem (r3_of _) lr3_100 c2)
theorem S4_drawHundredth {h : PH} (H : OKX h) {a0 : Nat} (ha0 : A4 a0) : SimI OKX (F4_drawHundredth h a0) (G4_drawHundredth (rd h) a0) := by
  unfold F4_drawHundredth G4_drawHundredth
  refine sm_cd (x_ok_4 H ha0) ?_
  exact S4_drawHundredth_0 H ha0
theorem S4_hadInSum_4 (n : Nat) : ∀ {h : PH} (H : OKX h) {a0 : Nat} (ha0 : A4 a0) {x1i : Int32} {x1 : Int} (ex1 : x1i = Z3 x1) (qx1 : r3 x1) {x2i : Int32} {x2 : Int} (ex2 : x2i = Z3 x2) (qx2 : r3 x2) {x3i : Int32} {x3 : Int} (ex3 : x3i = Z3 x3) (qx3 : r3 x3), SimI OKX (F4_hadInSum_4 n h a0 x1i x2i x3i) (G4_hadInSum_4 n (rd h) a0 x1 x2 x3) := by
  induction n with
  | zero => intros; exact smI_none _
  | succ n ih =>
    intro h H a0 ha0 x1i x1 ex1 qx1 x2i x2 ex2 qx2 x3i x3 ex3 qx3
    subst ex1 ex2 ex3
    rw [F4_hadInSum_4, G4_hadInSum_4]
    refine sm_if (z3_le rfl rfl qx1 qx3) ?_ ?_
    · exact sm_retI H rfl qx2
    · refine sm_rd (x_gR_4_6 H ha0) ?_
      refine sgxI fun c1 => ?_
      refine sm_rd (x_aI_4_6 H (ao_4_6 ha0) rfl c1).1 ?_
      refine sg3I fun c2 => ?_
      refine sg3I fun c3 => ?_
      exact ih H ha0 rfl qx1 (z3_add rfl rfl) c2 (z3_add rfl l3_1) c3
theorem S4_hadInSum_0 {h : PH} (H : OKX h) {a0 : Nat} (ha0 : A4 a0) {x1i : Int32} {x1 : Int} (ex1 : x1i = Z3 x1) (qx1 : r3 x1) : SimI OKX (F4_hadInSum_0 h a0 x1i) (G4_hadInSum_0 (rd h) a0 x1) := by
  subst ex1
  unfold F4_hadInSum_0 G4_hadInSum_0
  exact S4_hadInSum_4 1024 H ha0 rfl qx1 l3_0 lr3_0 l3_0 lr3_0
theorem S4_hadInSum {h : PH} (H : OKX h) {a0 : Nat} (ha0 : A4 a0) {x1i : Int32} {x1 : Int} (ex1 : x1i = Z3 x1) (qx1 : r3 x1) : SimI OKX (F4_hadInSum h a0 x1i) (G4_hadInSum (rd h) a0 x1) := by
  subst ex1
  unfold F4_hadInSum G4_hadInSum
  refine sm_cd (x_ok_4 H ha0) ?_
  exact S4_hadInSum_0 H ha0 rfl qx1
theorem S4_leaveOut_0 {h : PH} (H : OKX h) {a0 : Nat} (ha0 : A4 a0) {x1i : Int32} {x1 : Int} (ex1 : x1i = Z3 x1) (qx1 : r3 x1) : SimV OKX (F4_leaveOut_0 h a0 x1i) (G4_leaveOut_0 (rd h) a0 x1) := by
  subst ex1
  unfold F4_leaveOut_0 G4_leaveOut_0
  refine sm_rd (x_gR_4_8 H ha0) ?_
  refine sgxV fun c1 => ?_
  refine sm_wt (x_sI_4_8 H (ao_4_8 ha0) rfl c1 l3_2147483647 lr3_2147483647) fun h4 Hh4 => ?_
  exact sm_retV Hh4
theorem S4_leaveOut {h : PH} (H : OKX h) {a0 : Nat} (ha0 : A4 a0) {x1i : Int32} {x1 : Int} (ex1 : x1i = Z3 x1) (qx1 : r3 x1) : SimV OKX (F4_leaveOut h a0 x1i) (G4_leaveOut (rd h) a0 x1) := by
  subst ex1
  unfold F4_leaveOut G4_leaveOut
  refine sm_cd (x_ok_4 H ha0) ?_
  exact S4_leaveOut_0 H ha0 rfl qx1
theorem S4_seatAll_2 (n : Nat) : ∀ {h : PH} (H : OKX h) {a0 : Nat} (ha0 : A4 a0) {x1i : Int32} {x1 : Int} (ex1 : x1i = Z3 x1) (qx1 : r3 x1) {x2i : Int32} {x2 : Int} (ex2 : x2i = Z3 x2) (qx2 : r3 x2), SimV OKX (F4_seatAll_2 n h a0 x1i x2i) (G4_seatAll_2 n (rd h) a0 x1 x2) := by
  induction n with
  | zero => intros; exact smV_none _
  | succ n ih =>
    intro h H a0 ha0 x1i x1 ex1 qx1 x2i x2 ex2 qx2
    subst ex1 ex2
    rw [F4_seatAll_2, G4_seatAll_2]
    refine sm_if (z3_le l3_5 rfl lr3_5 qx2) ?_ ?_
    · exact sm_retV H
    · refine sm_rd (x_gR_4_5 H ha0) ?_
      refine sgxV fun c1 => ?_
      refine sm_wt (x_sI_4_5 H (ao_4_5 ha0) rfl c1 rfl qx1) fun h5 Hh5 => ?_
      refine sg3V fun c2 => ?_
      exact ih Hh5 ha0 rfl qx1 (z3_add rfl l3_1) c2
theorem S4_seatAll_0 {h : PH} (H : OKX h) {a0 : Nat} (ha0 : A4 a0) {x1i : Int32} {x1 : Int} (ex1 : x1i = Z3 x1) (qx1 : r3 x1) : SimV OKX (F4_seatAll_0 h a0 x1i) (G4_seatAll_0 (rd h) a0 x1) := by
  subst ex1
  unfold F4_seatAll_0 G4_seatAll_0
  exact S4_seatAll_2 1024 H ha0 rfl qx1 l3_0 lr3_0
theorem S4_seatAll {h : PH} (H : OKX h) {a0 : Nat} (ha0 : A4 a0) {x1i : Int32} {x1 : Int} (ex1 : x1i = Z3 x1) (qx1 : r3 x1) : SimV OKX (F4_seatAll h a0 x1i) (G4_seatAll (rd h) a0 x1) := by
  subst ex1
  unfold F4_seatAll G4_seatAll
  refine sm_cd (x_ok_4 H ha0) ?_
  exact S4_seatAll_0 H ha0 rfl qx1
theorem S4_takeAll_0 {h : PH} (H : OKX h) {a0 : Nat} (ha0 : A4 a0) {a1 : Nat} (ha1 : A4 a1) : SimV OKX (F4_takeAll_0 h a0 a1) (G4_takeAll_0 (rd h) a0 a1) := by
  unfold F4_takeAll_0 G4_takeAll_0
  refine sm_rd (x_gI_4_0 H ha1).1 ?_
  refine sm_wt (x_pI_4_0 H ha0 rfl (x_gI_4_0 H ha1).2) fun h3 Hh3 => ?_
  refine sm_rd (x_gI_4_1 Hh3 ha1).1 ?_
  refine sm_wt (x_pI_4_1 Hh3 ha0 rfl (x_gI_4_1 Hh3 ha1).2) fun h7 Hh7 => ?_
  refine sm_rd (x_gI_4_2 Hh7 ha1).1 ?_
  refine sm_wt (x_pI_4_2 Hh7 ha0 rfl (x_gI_4_2 Hh7 ha1).2) fun h11 Hh11 => ?_
  refine sm_rd (x_gI_4_3 Hh11 ha1).1 ?_
  refine sm_wt (x_pI_4_3 Hh11 ha0 rfl (x_gI_4_3 Hh11 ha1).2) fun h15 Hh15 => ?_
  refine sm_rd (x_gI_4_4 Hh15 ha1).1 ?_
  refine sm_wt (x_pI_4_4 Hh15 ha0 rfl (x_gI_4_4 Hh15 ha1).2) fun h19 Hh19 => ?_
  refine sm_rd (x_gR_4_5 Hh19 ha1) ?_
  refine sm_rd (x_gR_4_5 Hh19 ha0) ?_
  refine sm_wt (x_cp Hh19 (x_row_4_5 Hh19 (ao_4_5 ha1)) (x_row_4_5 Hh19 (ao_4_5 ha0)) l3_0 l3_0 l3_5 (by decide) (by decide) (by decide) (nr_4_5 (ao_4_5 ha0))) fun h25 Hh25 => ?_
  refine sm_rd (x_gR_4_6 Hh25 ha1) ?_
  refine sm_rd (x_gR_4_6 Hh25 ha0) ?_
  refine sm_wt (x_cp Hh25 (x_row_4_6 Hh25 (ao_4_6 ha1)) (x_row_4_6 Hh25 (ao_4_6 ha0)) l3_0 l3_0 l3_5 (by decide) (by decide) (by decide) (nr_4_6 (ao_4_6 ha0))) fun h31 Hh31 => ?_
  refine sm_rd (x_gR_4_7 Hh31 ha1) ?_
  refine sm_rd (x_gR_4_7 Hh31 ha0) ?_
  refine sm_wt (x_cp Hh31 (x_row_4_7 Hh31 (ao_4_7 ha1)) (x_row_4_7 Hh31 (ao_4_7 ha0)) l3_0 l3_0 l3_5 (by decide) (by decide) (by decide) (nr_4_7 (ao_4_7 ha0))) fun h37 Hh37 => ?_
  refine sm_rd (x_gR_4_8 Hh37 ha1) ?_
  refine sm_rd (x_gR_4_8 Hh37 ha0) ?_
  refine sm_wt (x_cp Hh37 (x_row_4_8 Hh37 (ao_4_8 ha1)) (x_row_4_8 Hh37 (ao_4_8 ha0)) l3_0 l3_0 l3_5 (by decide) (by decide) (by decide) (nr_4_8 (ao_4_8 ha0))) fun h43 Hh43 => ?_
  refine sm_rd (x_gR_4_9 Hh43 ha1) ?_
  refine sm_rd (x_gR_4_9 Hh43 ha0) ?_
  refine sm_wt (x_cp Hh43 (x_row_4_9 Hh43 (ao_4_9 ha1)) (x_row_4_9 Hh43 (ao_4_9 ha0)) l3_0 l3_0 l3_5 (by decide) (by decide) (by decide) (nr_4_9 (ao_4_9 ha0))) fun h49 Hh49 => ?_
  refine sm_rd (x_gR_4_10 Hh49 ha1) ?_
  refine sm_rd (x_gR_4_10 Hh49 ha0) ?_
  refine sm_wt (x_cp Hh49 (x_row_4_10 Hh49 (ao_4_10 ha1)) (x_row_4_10 Hh49 (ao_4_10 ha0)) l3_0 l3_0 l3_28 (by decide) (by decide) (by decide) (nr_4_10 (ao_4_10 ha0))) fun h55 Hh55 => ?_
  exact sm_retV Hh55
theorem S4_takeAll {h : PH} (H : OKX h) {a0 : Nat} (ha0 : A4 a0) {a1 : Nat} (ha1 : A4 a1) : SimV OKX (F4_takeAll h a0 a1) (G4_takeAll (rd h) a0 a1) := by
  unfold F4_takeAll G4_takeAll
  refine sm_cd (x_ok_4 H ha0) ?_
  exact S4_takeAll_0 H ha0 ha1
theorem S4_takeForRun_0 {h : PH} (H : OKX h) {a0 : Nat} (ha0 : A4 a0) {a1 : Nat} (ha1 : A4 a1) {x2i : Int32} {x2 : Int} (ex2 : x2i = Z3 x2) (qx2 : r3 x2) {x3i : Int32} {x3 : Int} (ex3 : x3i = Z3 x3) (qx3 : r3 x3) : SimV OKX (F4_takeForRun_0 h a0 a1 x2i x3i) (G4_takeForRun_0 (rd h) a0 a1 x2 x3) := by
  subst ex2 ex3
  unfold F4_takeForRun_0 G4_takeForRun_0
  refine sm_VV (S4_takeAll H ha0 ha1) fun ho1 Ho1 => ?_
  refine sm_wt (x_pI_4_1 Ho1 ha0 rfl qx2) fun h3 Hh3 => ?_
  refine sm_wt (x_pI_4_2 Hh3 ha0 rfl qx3) fun h5 Hh5 => ?_
  refine sm_wt (x_pI_4_3 Hh5 ha0 l3_0 lr3_0) fun h7 Hh7 => ?_
  refine sm_wt (x_pI_4_4 Hh7 ha0 l3_0 lr3_0) fun h9 Hh9 => ?_
  exact sm_retV Hh9
theorem S4_takeForRun {h : PH} (H : OKX h) {a0 : Nat} (ha0 : A4 a0) {a1 : Nat} (ha1 : A4 a1) {x2i : Int32} {x2 : Int} (ex2 : x2i = Z3 x2) (qx2 : r3 x2) {x3i : Int32} {x3 : Int} (ex3 : x3i = Z3 x3) (qx3 : r3 x3) : SimV OKX (F4_takeForRun h a0 a1 x2i x3i) (G4_takeForRun (rd h) a0 a1 x2 x3) := by
  subst ex2 ex3
  unfold F4_takeForRun G4_takeForRun
  refine sm_cd (x_ok_4 H ha0) ?_
  exact S4_takeForRun_0 H ha0 ha1 rfl qx2 rfl qx3
theorem S4_unlike_24 (n : Nat) : ∀ {h : PH} (H : OKX h) {a0 : Nat} (ha0 : A4 a0) {x1i : Int32} {x1 : Int} (ex1 : x1i = Z3 x1) (qx1 : r3 x1) {x2i : Int32} {x2 : Int} (ex2 : x2i = Z3 x2) (qx2 : r3 x2) {x3i : Int32} {x3 : Int} (ex3 : x3i = Z3 x3) (qx3 : r3 x3) {x4i : Int32} {x4 : Int} (ex4 : x4i = Z3 x4) (qx4 : r3 x4), SimI OKX (F4_unlike_24 n h a0 x1i x2i x3i x4i) (G4_unlike_24 n (rd h) a0 x1 x2 x3 x4) := by
  induction n with
  | zero => intros; exact smI_none _
  | succ n ih =>
    intro h H a0 ha0 x1i x1 ex1 qx1 x2i x2 ex2 qx2 x3i x3 ex3 qx3 x4i x4 ex4 qx4
    subst ex1 ex2 ex3 ex4
    rw [F4_unlike_24, G4_unlike_24]
    refine sm_if (z3_le rfl rfl qx1 qx4) ?_ ?_
    · refine sg3I fun c1 => ?_
      exact sm_retI H (z3_sub rfl rfl) c1
    · refine sm_rd (x_gR_4_6 H ha0) ?_
      refine sgxI fun c2 => ?_
      refine sm_rd (x_aI_4_6 H (ao_4_6 ha0) rfl c2).1 ?_
      refine sm_rd (x_gR_4_6 H ha0) ?_
      refine sgxI fun c3 => ?_
      refine sm_rd (x_aI_4_6 H (ao_4_6 ha0) rfl c3).1 ?_
      refine sg3I fun c4 => ?_
      exact ih H ha0 rfl qx1 (z3_ite (z3_lt rfl rfl qx2 (x_aI_4_6 H (ao_4_6 ha0) rfl c2).2) rfl rfl) (r3_ite (x_aI_4_6 H (ao_4_6 ha0) rfl c2).2 qx2) (z3_ite (z3_lt rfl rfl (x_aI_4_6 H (ao_4_6 ha0) rfl c3).2 qx3) rfl rfl) (r3_ite (x_aI_4_6 H (ao_4_6 ha0) rfl c3).2 qx3) (z3_add rfl l3_1) c4
theorem S4_unlike_0 {h : PH} (H : OKX h) {a0 : Nat} (ha0 : A4 a0) {x1i : Int32} {x1 : Int} (ex1 : x1i = Z3 x1) (qx1 : r3 x1) : SimI OKX (F4_unlike_0 h a0 x1i) (G4_unlike_0 (rd h) a0 x1) := by
  subst ex1
  unfold F4_unlike_0 G4_unlike_0
  refine sm_if (z3_le l3_1 rfl lr3_1 qx1) ?_ ?_
  · refine sm_rd (x_gR_4_6 H ha0) ?_
    refine sm_rd (x_aI_4_6 H (ao_4_6 ha0) l3_0 ⟨by decide, by decide⟩).1 ?_
    refine sm_rd (x_gR_4_6 H ha0) ?_
    refine sm_rd (x_aI_4_6 H (ao_4_6 ha0) l3_0 ⟨by decide, by decide⟩).1 ?_
    exact S4_unlike_24 1024 H ha0 rfl qx1 rfl ((x_aI_4_6 H (ao_4_6 ha0) l3_0 ⟨by decide, by decide⟩).2) rfl ((x_aI_4_6 H (ao_4_6 ha0) l3_0 ⟨by decide, by decide⟩).2) l3_1 lr3_1
  · exact sm_retI H l3_0 lr3_0
theorem S4_unlike {h : PH} (H : OKX h) {a0 : Nat} (ha0 : A4 a0) {x1i : Int32} {x1 : Int} (ex1 : x1i = Z3 x1) (qx1 : r3 x1) : SimI OKX (F4_unlike h a0 x1i) (G4_unlike (rd h) a0 x1) := by
  subst ex1
  unfold F4_unlike G4_unlike
  refine sm_cd (x_ok_4 H ha0) ?_
  exact S4_unlike_0 H ha0 rfl qx1
theorem S5_refuse_0 {h : PH} (H : OKX h) {x1i : Int32} {x1 : Int} (ex1 : x1i = Z3 x1) (qx1 : r3 x1) : SimI OKX (F5_refuse_0 h 46 x1i) (G5_refuse_0 (rd h) x1) := by
  subst ex1
  unfold F5_refuse_0 G5_refuse_0
  refine sm_wt (x_pI_5_8 H rfl qx1) fun h1 Hh1 => ?_
  refine sm_rd (x_gR_5_0 Hh1) ?_
  refine sm_rd (x_gI_7_5 Hh1).1 ?_
  refine sm_wt (x_pI_5_9 Hh1 rfl (x_gI_7_5 Hh1).2) fun h7 Hh7 => ?_
  exact sm_rz Hh7 l3_0 (by decide)
theorem S5_refuse {h : PH} (H : OKX h) {x1i : Int32} {x1 : Int} (ex1 : x1i = Z3 x1) (qx1 : r3 x1) : SimI OKX (F5_refuse h 46 x1i) (G5_refuse (rd h) x1) := by
  subst ex1
  unfold F5_refuse G5_refuse
  refine sm_cd (x_ok_5 H) ?_
  exact S5_refuse_0 H rfl qx1
theorem S5_countKnot_0 {h : PH} (H : OKX h) : SimI OKX (F5_countKnot_0 h 46) (G5_countKnot_0 (rd h)) := by
  unfold F5_countKnot_0 G5_countKnot_0
  refine sm_rd (x_gR_5_10 H) ?_
  refine sm_rd (x_gI_8_13 H (x_v_5_10 H)).1 ?_
  refine sm_if (z3_lt rfl l3_64 (x_gI_8_13 H (x_v_5_10 H)).2 lr3_64) ?_ ?_
  · refine sm_rd (x_gR_5_10 H) ?_
    refine sm_rd (x_gI_8_13 H (x_v_5_10 H)).1 ?_
    refine sg3I fun c1 => ?_
    refine sm_wt (x_pI_8_13 H (x_v_5_10 H) (z3_add rfl l3_1) c1) fun h10 Hh10 => ?_
    exact sm_rz Hh10 l3_1 (by decide)
  · refine sm_II (S5_refuse H l3_2 lr3_2) fun vo12 ho12 Ho12 ro12 => ?_
    refine sgbI fun c2 => ?_
    exact sm_rz Ho12 rfl c2
theorem S5_countKnot {h : PH} (H : OKX h) : SimI OKX (F5_countKnot h 46) (G5_countKnot (rd h)) := by
  unfold F5_countKnot G5_countKnot
  refine sm_cd (x_ok_5 H) ?_
  exact S5_countKnot_0 H
theorem S7_isLetter_0 {h : PH} (H : OKX h) {x0i : Int32} {x0 : Int} (ex0 : x0i = Z3 x0) (qx0 : r3 x0) : SimI OKX (F7_isLetter_0 h x0i) (G7_isLetter_0 (rd h) x0) := by
  subst ex0
  unfold F7_isLetter_0 G7_isLetter_0
  refine sm_if (z3_lt rfl l3_97 qx0 lr3_97) ?_ ?_
  · exact sm_rz H l3_0 (by decide)
  · refine sm_if (z3_lt l3_122 rfl lr3_122 qx0) ?_ ?_
    · exact sm_rz H l3_0 (by decide)
    · exact sm_rz H l3_1 (by decide)
theorem S7_isLetter {h : PH} (H : OKX h) {x0i : Int32} {x0 : Int} (ex0 : x0i = Z3 x0) (qx0 : r3 x0) : SimI OKX (F7_isLetter h x0i) (G7_isLetter (rd h) x0) := by
  subst ex0
  unfold F7_isLetter G7_isLetter
  exact S7_isLetter_0 H rfl qx0
theorem S7_letterBits_0 {h : PH} (H : OKX h) {x0i : Int32} {x0 : Int} (ex0 : x0i = Z3 x0) (qx0 : r3 x0) {x1i : Int32} {x1 : Int} (ex1 : x1i = Z3 x1) (qx1 : r3 x1) : SimI OKX (F7_letterBits_0 h x0i x1i) (G7_letterBits_0 (rd h) x0 x1) := by
  subst ex0 ex1
  unfold F7_letterBits_0 G7_letterBits_0
  exact sm_retI H (z3_sl (z3_add (z3_sub rfl l3_97) l3_1) (z3_an (z3_sub l3_25 (z3_mul l3_5 rfl)) l3_31)) (r3_of _)
theorem S7_letterBits {h : PH} (H : OKX h) {x0i : Int32} {x0 : Int} (ex0 : x0i = Z3 x0) (qx0 : r3 x0) {x1i : Int32} {x1 : Int} (ex1 : x1i = Z3 x1) (qx1 : r3 x1) : SimI OKX (F7_letterBits h x0i x1i) (G7_letterBits (rd h) x0 x1) := by
  subst ex0 ex1
  unfold F7_letterBits G7_letterBits
  exact S7_letterBits_0 H rfl qx0 rfl qx1
theorem S5_isFirst_0 {h : PH} (H : OKX h) {x1i : Int32} {x1 : Int} (ex1 : x1i = Z3 x1) (qx1 : r3 x1) : SimI OKX (F5_isFirst_0 h 46 x1i) (G5_isFirst_0 (rd h) x1) := by
  subst ex1
  unfold F5_isFirst_0 G5_isFirst_0
  refine sm_rd (x_gI_5_6 H).1 ?_
  refine sm_if (z3_eq (z3_an rfl (z3_sl l3_1 (z3_an rfl l3_31))) l3_0 (r3_of _) lr3_0) ?_ ?_
  · refine sm_rd (x_gI_5_6 H).1 ?_
    refine sm_wt (x_pI_5_6 H (z3_or rfl (z3_sl l3_1 (z3_an rfl l3_31))) (r3_of _)) fun h6 Hh6 => ?_
    exact sm_rz Hh6 l3_1 (by decide)
  · refine sm_II (S5_refuse H l3_3 lr3_3) fun vo8 ho8 Ho8 ro8 => ?_
    refine sgbI fun c1 => ?_
    exact sm_rz Ho8 rfl c1
theorem S5_isFirst {h : PH} (H : OKX h) {x1i : Int32} {x1 : Int} (ex1 : x1i = Z3 x1) (qx1 : r3 x1) : SimI OKX (F5_isFirst h 46 x1i) (G5_isFirst (rd h) x1) := by
  subst ex1
  unfold F5_isFirst G5_isFirst
  refine sm_cd (x_ok_5 H) ?_
  exact S5_isFirst_0 H rfl qx1
theorem S5_letWait_0 {h : PH} (H : OKX h) {x1i : Int32} {x1 : Int} (ex1 : x1i = Z3 x1) (qx1 : r3 x1) : SimI OKX (F5_letWait_0 h 46 x1i) (G5_letWait_0 (rd h) x1) := by
  subst ex1
  unfold F5_letWait_0 G5_letWait_0
  refine sm_rd (x_gI_5_2 H).1 ?_
  refine sm_rd (x_gR_5_1 H) ?_
  refine sm_rd (x_aL_5_1 H) ?_
  refine sm_if (z3_lt rfl rfl (x_gI_5_2 H).2 lr3_72) ?_ ?_
  · refine sm_rd (x_gR_5_1 H) ?_
    refine sm_rd (x_gI_5_2 H).1 ?_
    refine sgxI fun c1 => ?_
    refine sm_wt (x_sI_5_1 H rfl c1 rfl qx1) fun h13 Hh13 => ?_
    refine sm_rd (x_gI_5_2 Hh13).1 ?_
    refine sg3I fun c2 => ?_
    refine sm_wt (x_pI_5_2 Hh13 (z3_add rfl l3_1) c2) fun h16 Hh16 => ?_
    exact sm_rz Hh16 l3_1 (by decide)
  · refine sm_II (S5_refuse H l3_2 lr3_2) fun vo18 ho18 Ho18 ro18 => ?_
    refine sgbI fun c3 => ?_
    exact sm_rz Ho18 rfl c3
theorem S5_letWait {h : PH} (H : OKX h) {x1i : Int32} {x1 : Int} (ex1 : x1i = Z3 x1) (qx1 : r3 x1) : SimI OKX (F5_letWait h 46 x1i) (G5_letWait (rd h) x1) := by
  subst ex1
  unfold F5_letWait G5_letWait
  refine sm_cd (x_ok_5 H) ?_
  exact S5_letWait_0 H rfl qx1
theorem S7_skipBlanks_40 {k0 : PH → Nat → Option PH} {kk0 : Mem → Option Mem} (hk0 : ∀ {h : PH} (_ : OKX h), SimV OKX (k0 h 47) (kk0 (rd h))) {h : PH} (H : OKX h) : SimV OKX (F7_skipBlanks_40 k0 h 47) (G7_skipBlanks_40 kk0 (rd h)) := by
  unfold F7_skipBlanks_40 G7_skipBlanks_40
  refine sm_rd (x_gI_7_3 H).1 ?_
  refine sg3V fun c1 => ?_
  refine sm_wt (x_pI_7_3 H (z3_add rfl l3_1) c1) fun h3 Hh3 => ?_
  exact hk0 Hh3
theorem S7_skipBlanks_0 (n : Nat) : ∀ {h : PH} (H : OKX h), SimV OKX (F7_skipBlanks_0 n h 47) (G7_skipBlanks_0 n (rd h)) := by
  induction n with
  | zero => intros; exact smV_none _
  | succ n ih =>
    intro h H
    rw [F7_skipBlanks_0, G7_skipBlanks_0]
    refine sm_rd (x_gI_7_3 H).1 ?_
    refine sm_rd (x_gI_7_2 H).1 ?_
    refine sm_if (z3_le rfl rfl (x_gI_7_2 H).2 (x_gI_7_3 H).2) ?_ ?_
    · exact sm_retV H
    · refine sm_rd (x_gR_7_1 H) ?_
      refine sm_rd (x_gI_7_3 H).1 ?_
      refine sgeV fun c1 => ?_
      refine sgxV fun c2 => ?_
      refine sm_rd (x_aI_B H c1 rfl c2).1 ?_
      refine sm_if (z3_eq rfl l3_10 (x_aI_B H c1 rfl c2).2 lr3_10) ?_ ?_
      · exact S7_skipBlanks_40 (@fun _ H => ih H) H
      · refine sm_rd (x_gR_7_1 H) ?_
        refine sm_rd (x_gI_7_3 H).1 ?_
        refine sgeV fun c3 => ?_
        refine sgxV fun c4 => ?_
        refine sm_rd (x_aI_B H c3 rfl c4).1 ?_
        refine sm_if (z3_eq rfl l3_32 (x_aI_B H c3 rfl c4).2 lr3_32) ?_ ?_
        · exact S7_skipBlanks_40 (@fun _ H => ih H) H
        · exact sm_retV H
theorem S7_skipBlanks {h : PH} (H : OKX h) : SimV OKX (F7_skipBlanks h 47) (G7_skipBlanks (rd h)) := by
  unfold F7_skipBlanks G7_skipBlanks
  refine sm_cd (x_ok_7 H) ?_
  exact S7_skipBlanks_0 1024 H
theorem S7_wordOf_2 (n : Nat) : ∀ {h : PH} (H : OKX h) {x1i : Int32} {x1 : Int} (ex1 : x1i = Z3 x1) (qx1 : r3 x1) {x2i : Int32} {x2 : Int} (ex2 : x2i = Z3 x2) (qx2 : r3 x2), SimI OKX (F7_wordOf_2 n h 47 x1i x2i) (G7_wordOf_2 n (rd h) x1 x2) := by
  induction n with
  | zero => intros; exact smI_none _
  | succ n ih =>
    intro h H x1i x1 ex1 qx1 x2i x2 ex2 qx2
    subst ex1 ex2
    rw [F7_wordOf_2, G7_wordOf_2]
    refine sm_if (z3_le l3_24 rfl lr3_24 qx2) ?_ ?_
    · exact sm_retI H l3_24 lr3_24
    · refine sm_rd (x_gR_7_0 H) ?_
      refine sgxI fun c1 => ?_
      refine sm_rd (x_aI_7_0 H rfl c1).1 ?_
      refine sm_if (z3_eq rfl rfl (x_aI_7_0 H rfl c1).2 qx1) ?_ ?_
      · exact sm_retI H rfl qx2
      · refine sg3I fun c2 => ?_
        exact ih H rfl qx1 (z3_add rfl l3_1) c2
theorem S7_wordOf_0 {h : PH} (H : OKX h) {x1i : Int32} {x1 : Int} (ex1 : x1i = Z3 x1) (qx1 : r3 x1) : SimI OKX (F7_wordOf_0 h 47 x1i) (G7_wordOf_0 (rd h) x1) := by
  subst ex1
  unfold F7_wordOf_0 G7_wordOf_0
  exact S7_wordOf_2 1024 H rfl qx1 l3_0 lr3_0
theorem S7_wordOf {h : PH} (H : OKX h) {x1i : Int32} {x1 : Int} (ex1 : x1i = Z3 x1) (qx1 : r3 x1) : SimI OKX (F7_wordOf h 47 x1i) (G7_wordOf (rd h) x1) := by
  subst ex1
  unfold F7_wordOf G7_wordOf
  refine sm_cd (x_ok_7 H) ?_
  exact S7_wordOf_0 H rfl qx1
theorem S7_takeWord_92 {h : PH} (H : OKX h) {s0i : Int32} {s0 : Int} (es0 : s0i = Z3 s0) (qs0 : r3 s0) : SimV OKX (F7_takeWord_92 h s0i 47) (G7_takeWord_92 (rd h) s0) := by
  subst es0
  unfold F7_takeWord_92 G7_takeWord_92
  refine sm_wt (x_pI_7_4 H rfl qs0) fun h1 Hh1 => ?_
  exact sm_retV Hh1
theorem S7_takeWord_72 {h : PH} (H : OKX h) {x1i : Int32} {x1 : Int} (ex1 : x1i = Z3 x1) (qx1 : r3 x1) : SimV OKX (F7_takeWord_72 h 47 x1i) (G7_takeWord_72 (rd h) x1) := by
  subst ex1
  unfold F7_takeWord_72 G7_takeWord_72
  refine sm_if (z3_le rfl l3_6 qx1 lr3_6) ?_ ?_
  · refine sm_rd (x_gI_7_6 H).1 ?_
    refine sm_IV (S7_wordOf H rfl ((x_gI_7_6 H).2)) fun vo4 ho4 Ho4 ro4 => ?_
    exact S7_takeWord_92 Ho4 rfl ro4
  · exact S7_takeWord_92 H l3_40 lr3_40
theorem S7_takeWord_56 {k2 : PH → Nat → Int32 → Option PH} {kk2 : Mem → Int → Option Mem} (hk2 : ∀ {h : PH} (_ : OKX h) {x2 : Int32} {y2 : Int} (_ : x2 = Z3 y2) (_ : r3 y2), SimV OKX (k2 h 47 x2) (kk2 (rd h) y2)) {h : PH} (H : OKX h) {x1i : Int32} {x1 : Int} (ex1 : x1i = Z3 x1) (qx1 : r3 x1) : SimV OKX (F7_takeWord_56 k2 h 47 x1i) (G7_takeWord_56 kk2 (rd h) x1) := by
  subst ex1
  unfold F7_takeWord_56 G7_takeWord_56
  refine sm_rd (x_gI_7_3 H).1 ?_
  refine sg3V fun c1 => ?_
  refine sm_wt (x_pI_7_3 H (z3_add rfl l3_1) c1) fun h3 Hh3 => ?_
  refine sg3V fun c2 => ?_
  exact hk2 Hh3 (z3_add rfl l3_1) c2
theorem S7_takeWord_2 (n : Nat) : ∀ {h : PH} (H : OKX h) {x1i : Int32} {x1 : Int} (ex1 : x1i = Z3 x1) (qx1 : r3 x1), SimV OKX (F7_takeWord_2 n h 47 x1i) (G7_takeWord_2 n (rd h) x1) := by
  induction n with
  | zero => intros; exact smV_none _
  | succ n ih =>
    intro h H x1i x1 ex1 qx1
    subst ex1
    rw [F7_takeWord_2, G7_takeWord_2]
    refine sm_rd (x_gI_7_3 H).1 ?_
    refine sm_rd (x_gI_7_2 H).1 ?_
    refine sm_if (z3_le rfl rfl (x_gI_7_2 H).2 (x_gI_7_3 H).2) ?_ ?_
    · exact S7_takeWord_72 H rfl qx1
    · refine sm_rd (x_gR_7_1 H) ?_
      refine sm_rd (x_gI_7_3 H).1 ?_
      refine sgeV fun c1 => ?_
      refine sgxV fun c2 => ?_
      refine sm_rd (x_aI_B H c1 rfl c2).1 ?_
      refine sm_IV (S7_isLetter H rfl ((x_aI_B H c1 rfl c2).2)) fun vo12 ho12 Ho12 ro12 => ?_
      refine sm_if (z3_eq rfl l3_0 ro12 lr3_0) ?_ ?_
      · exact S7_takeWord_72 Ho12 rfl qx1
      · refine sm_if (z3_le l3_6 rfl lr3_6 qx1) ?_ ?_
        · exact S7_takeWord_56 (@fun _ H _ _ ex1 qx1 => ih H ex1 qx1) Ho12 rfl qx1
        · refine sm_rd (x_gI_7_6 Ho12).1 ?_
          refine sm_rd (x_gR_7_1 Ho12) ?_
          refine sm_rd (x_gI_7_3 Ho12).1 ?_
          refine sgeV fun c3 => ?_
          refine sgxV fun c4 => ?_
          refine sm_rd (x_aI_B Ho12 c3 rfl c4).1 ?_
          refine sm_IV (S7_letterBits Ho12 rfl ((x_aI_B Ho12 c3 rfl c4).2) rfl qx1) fun vo24 ho24 Ho24 ro24 => ?_
          refine sm_wt (x_pI_7_6 Ho24 (z3_or rfl rfl) (r3_of _)) fun h26 Hh26 => ?_
          exact S7_takeWord_56 (@fun _ H _ _ ex1 qx1 => ih H ex1 qx1) Hh26 rfl qx1
theorem S7_takeWord_0 {h : PH} (H : OKX h) : SimV OKX (F7_takeWord_0 h 47) (G7_takeWord_0 (rd h)) := by
  unfold F7_takeWord_0 G7_takeWord_0
  exact S7_takeWord_2 1024 H l3_0 lr3_0
theorem S7_takeWord {h : PH} (H : OKX h) : SimV OKX (F7_takeWord h 47) (G7_takeWord (rd h)) := by
  unfold F7_takeWord G7_takeWord
  refine sm_cd (x_ok_7 H) ?_
  exact S7_takeWord_0 H
theorem S7_isDigit_0 {h : PH} (H : OKX h) {x0i : Int32} {x0 : Int} (ex0 : x0i = Z3 x0) (qx0 : r3 x0) : SimI OKX (F7_isDigit_0 h x0i) (G7_isDigit_0 (rd h) x0) := by
  subst ex0
  unfold F7_isDigit_0 G7_isDigit_0
  refine sm_if (z3_lt rfl l3_48 qx0 lr3_48) ?_ ?_
  · exact sm_rz H l3_0 (by decide)
  · refine sm_if (z3_lt l3_57 rfl lr3_57 qx0) ?_ ?_
    · exact sm_rz H l3_0 (by decide)
    · exact sm_rz H l3_1 (by decide)
theorem S7_isDigit {h : PH} (H : OKX h) {x0i : Int32} {x0 : Int} (ex0 : x0i = Z3 x0) (qx0 : r3 x0) : SimI OKX (F7_isDigit h x0i) (G7_isDigit (rd h) x0) := by
  subst ex0
  unfold F7_isDigit G7_isDigit
  exact S7_isDigit_0 H rfl qx0
theorem S7_takeNumber_68 {h : PH} (H : OKX h) : SimV OKX (F7_takeNumber_68 h 47) (G7_takeNumber_68 (rd h)) := by
  unfold F7_takeNumber_68 G7_takeNumber_68
  refine sm_wt (x_pI_7_4 H l3_25 lr3_25) fun h1 Hh1 => ?_
  exact sm_retV Hh1
theorem S7_takeNumber_0 (n : Nat) : ∀ {h : PH} (H : OKX h), SimV OKX (F7_takeNumber_0 n h 47) (G7_takeNumber_0 n (rd h)) := by
  induction n with
  | zero => intros; exact smV_none _
  | succ n ih =>
    intro h H
    rw [F7_takeNumber_0, G7_takeNumber_0]
    refine sm_rd (x_gI_7_3 H).1 ?_
    refine sm_rd (x_gI_7_2 H).1 ?_
    refine sm_if (z3_le rfl rfl (x_gI_7_2 H).2 (x_gI_7_3 H).2) ?_ ?_
    · exact S7_takeNumber_68 H
    · refine sm_rd (x_gR_7_1 H) ?_
      refine sm_rd (x_gI_7_3 H).1 ?_
      refine sgeV fun c1 => ?_
      refine sgxV fun c2 => ?_
      refine sm_rd (x_aI_B H c1 rfl c2).1 ?_
      refine sm_IV (S7_isDigit H rfl ((x_aI_B H c1 rfl c2).2)) fun vo12 ho12 Ho12 ro12 => ?_
      refine sm_if (z3_eq rfl l3_0 ro12 lr3_0) ?_ ?_
      · exact S7_takeNumber_68 Ho12
      · refine sm_rd (x_gI_7_6 Ho12).1 ?_
        refine sm_rd (x_gR_7_1 Ho12) ?_
        refine sm_rd (x_gI_7_3 Ho12).1 ?_
        refine sgeV fun c3 => ?_
        refine sgxV fun c4 => ?_
        refine sm_rd (x_aI_B Ho12 c3 rfl c4).1 ?_
        refine sg3V fun c5 => ?_
        refine sg3V fun c6 => ?_
        refine sm_wt (x_pI_7_6 Ho12 (z3_ite (z3_lt l3_1000000 (z3_sub (z3_add (z3_mul rfl l3_10) rfl) l3_48) lr3_1000000 c5) l3_1000000 (z3_sub (z3_add (z3_mul rfl l3_10) rfl) l3_48)) c6) fun h23 Hh23 => ?_
        refine sm_rd (x_gI_7_3 Hh23).1 ?_
        refine sg3V fun c7 => ?_
        refine sm_wt (x_pI_7_3 Hh23 (z3_add rfl l3_1) c7) fun h27 Hh27 => ?_
        exact ih Hh27
theorem S7_takeNumber {h : PH} (H : OKX h) : SimV OKX (F7_takeNumber h 47) (G7_takeNumber (rd h)) := by
  unfold F7_takeNumber G7_takeNumber
  refine sm_cd (x_ok_7 H) ?_
  exact S7_takeNumber_0 1024 H
theorem S7_signOf_0 {h : PH} (H : OKX h) {x0i : Int32} {x0 : Int} (ex0 : x0i = Z3 x0) (qx0 : r3 x0) : SimI OKX (F7_signOf_0 h x0i) (G7_signOf_0 (rd h) x0) := by
  subst ex0
  unfold F7_signOf_0 G7_signOf_0
  refine sm_if (z3_eq rfl l3_40 qx0 lr3_40) ?_ ?_
  · exact sm_retI H l3_36 lr3_36
  · refine sm_if (z3_eq rfl l3_41 qx0 lr3_41) ?_ ?_
    · exact sm_retI H l3_37 lr3_37
    · refine sm_if (z3_eq rfl l3_42 qx0 lr3_42) ?_ ?_
      · exact sm_retI H l3_34 lr3_34
      · refine sm_if (z3_eq rfl l3_43 qx0 lr3_43) ?_ ?_
        · exact sm_retI H l3_32 lr3_32
        · refine sm_if (z3_eq rfl l3_45 qx0 lr3_45) ?_ ?_
          · exact sm_retI H l3_33 lr3_33
          · refine sm_if (z3_eq rfl l3_47 qx0 lr3_47) ?_ ?_
            · exact sm_retI H l3_35 lr3_35
            · refine sm_if (z3_eq rfl l3_59 qx0 lr3_59) ?_ ?_
              · exact sm_retI H l3_38 lr3_38
              · refine sm_if (z3_eq rfl l3_60 qx0 lr3_60) ?_ ?_
                · exact sm_retI H l3_26 lr3_26
                · refine sm_if (z3_eq rfl l3_61 qx0 lr3_61) ?_ ?_
                  · exact sm_retI H l3_28 lr3_28
                  · refine sm_if (z3_eq rfl l3_62 qx0 lr3_62) ?_ ?_
                    · exact sm_retI H l3_31 lr3_31
                    · exact sm_retI H l3_40 lr3_40
theorem S7_signOf {h : PH} (H : OKX h) {x0i : Int32} {x0 : Int} (ex0 : x0i = Z3 x0) (qx0 : r3 x0) : SimI OKX (F7_signOf h x0i) (G7_signOf (rd h) x0) := by
  subst ex0
  unfold F7_signOf G7_signOf
  exact S7_signOf_0 H rfl qx0
theorem S7_isNext_0 {h : PH} (H : OKX h) {x1i : Int32} {x1 : Int} (ex1 : x1i = Z3 x1) (qx1 : r3 x1) : SimI OKX (F7_isNext_0 h 47 x1i) (G7_isNext_0 (rd h) x1) := by
  subst ex1
  unfold F7_isNext_0 G7_isNext_0
  refine sm_rd (x_gI_7_3 H).1 ?_
  refine sm_rd (x_gI_7_2 H).1 ?_
  refine sm_if (z3_le rfl rfl (x_gI_7_2 H).2 (x_gI_7_3 H).2) ?_ ?_
  · exact sm_rz H l3_0 (by decide)
  · refine sm_rd (x_gR_7_1 H) ?_
    refine sm_rd (x_gI_7_3 H).1 ?_
    refine sgeI fun c1 => ?_
    refine sgxI fun c2 => ?_
    refine sm_rd (x_aI_B H c1 rfl c2).1 ?_
    refine sm_if (z3_eq rfl rfl (x_aI_B H c1 rfl c2).2 qx1) ?_ ?_
    · exact sm_rz H l3_1 (by decide)
    · exact sm_rz H l3_0 (by decide)
theorem S7_isNext {h : PH} (H : OKX h) {x1i : Int32} {x1 : Int} (ex1 : x1i = Z3 x1) (qx1 : r3 x1) : SimI OKX (F7_isNext h 47 x1i) (G7_isNext (rd h) x1) := by
  subst ex1
  unfold F7_isNext G7_isNext
  refine sm_cd (x_ok_7 H) ?_
  exact S7_isNext_0 H rfl qx1
theorem S7_takeSign_102 {h : PH} (H : OKX h) : SimV OKX (F7_takeSign_102 h 47) (G7_takeSign_102 (rd h)) := by
  unfold F7_takeSign_102 G7_takeSign_102
  refine sm_rd (x_gI_7_4 H).1 ?_
  refine sm_if (z3_eq rfl l3_31 (x_gI_7_4 H).2 lr3_31) ?_ ?_
  · refine sm_IV (S7_isNext H l3_61 lr3_61) fun vo4 ho4 Ho4 ro4 => ?_
    refine sm_if (z3_eq rfl l3_0 ro4 lr3_0) ?_ ?_
    · exact sm_retV Ho4
    · refine sm_wt (x_pI_7_4 Ho4 l3_30 lr3_30) fun h7 Hh7 => ?_
      refine sm_rd (x_gI_7_3 Hh7).1 ?_
      refine sg3V fun c1 => ?_
      refine sm_wt (x_pI_7_3 Hh7 (z3_add rfl l3_1) c1) fun h11 Hh11 => ?_
      exact sm_retV Hh11
  · exact sm_retV H
theorem S7_takeSign_65 {h : PH} (H : OKX h) : SimV OKX (F7_takeSign_65 h 47) (G7_takeSign_65 (rd h)) := by
  unfold F7_takeSign_65 G7_takeSign_65
  refine sm_rd (x_gI_7_4 H).1 ?_
  refine sm_if (z3_eq rfl l3_26 (x_gI_7_4 H).2 lr3_26) ?_ ?_
  · refine sm_IV (S7_isNext H l3_62 lr3_62) fun vo4 ho4 Ho4 ro4 => ?_
    refine sm_if (z3_eq rfl l3_0 ro4 lr3_0) ?_ ?_
    · exact S7_takeSign_102 Ho4
    · refine sm_wt (x_pI_7_4 Ho4 l3_29 lr3_29) fun h7 Hh7 => ?_
      refine sm_rd (x_gI_7_3 Hh7).1 ?_
      refine sg3V fun c1 => ?_
      refine sm_wt (x_pI_7_3 Hh7 (z3_add rfl l3_1) c1) fun h11 Hh11 => ?_
      exact sm_retV Hh11
  · exact S7_takeSign_102 H
theorem S7_takeSign_0 {h : PH} (H : OKX h) : SimV OKX (F7_takeSign_0 h 47) (G7_takeSign_0 (rd h)) := by
  unfold F7_takeSign_0 G7_takeSign_0
  refine sm_rd (x_gR_7_1 H) ?_
  refine sm_rd (x_gI_7_3 H).1 ?_
  refine sgeV fun c1 => ?_
  refine sgxV fun c2 => ?_
  refine sm_rd (x_aI_B H c1 rfl c2).1 ?_
  refine sm_rd (x_gI_7_3 H).1 ?_
  refine sg3V fun c3 => ?_
  refine sm_wt (x_pI_7_3 H (z3_add rfl l3_1) c3) fun h9 Hh9 => ?_
  refine sm_IV (S7_signOf Hh9 rfl ((x_aI_B H c1 rfl c2).2)) fun vo11 ho11 Ho11 ro11 => ?_
  refine sm_wt (x_pI_7_4 Ho11 rfl ro11) fun h13 Hh13 => ?_
  refine sm_rd (x_gI_7_4 Hh13).1 ?_
  refine sm_if (z3_eq rfl l3_26 (x_gI_7_4 Hh13).2 lr3_26) ?_ ?_
  · refine sm_IV (S7_isNext Hh13 l3_61 lr3_61) fun vo18 ho18 Ho18 ro18 => ?_
    refine sm_if (z3_eq rfl l3_0 ro18 lr3_0) ?_ ?_
    · exact S7_takeSign_65 Ho18
    · refine sm_wt (x_pI_7_4 Ho18 l3_27 lr3_27) fun h21 Hh21 => ?_
      refine sm_rd (x_gI_7_3 Hh21).1 ?_
      refine sg3V fun c4 => ?_
      refine sm_wt (x_pI_7_3 Hh21 (z3_add rfl l3_1) c4) fun h25 Hh25 => ?_
      exact sm_retV Hh25
  · exact S7_takeSign_65 Hh13
theorem S7_takeSign {h : PH} (H : OKX h) : SimV OKX (F7_takeSign h 47) (G7_takeSign (rd h)) := by
  unfold F7_takeSign G7_takeSign
  refine sm_cd (x_ok_7 H) ?_
  exact S7_takeSign_0 H
theorem S7_advance_0 {h : PH} (H : OKX h) : SimV OKX (F7_advance_0 h 47) (G7_advance_0 (rd h)) := by
  unfold F7_advance_0 G7_advance_0
  refine sm_VV (S7_skipBlanks H) fun ho1 Ho1 => ?_
  refine sm_rd (x_gI_7_3 Ho1).1 ?_
  refine sm_wt (x_pI_7_5 Ho1 rfl (x_gI_7_3 Ho1).2) fun h5 Hh5 => ?_
  refine sm_wt (x_pI_7_6 Hh5 l3_0 lr3_0) fun h7 Hh7 => ?_
  refine sm_rd (x_gI_7_3 Hh7).1 ?_
  refine sm_rd (x_gI_7_2 Hh7).1 ?_
  refine sm_if (z3_lt rfl rfl (x_gI_7_3 Hh7).2 (x_gI_7_2 Hh7).2) ?_ ?_
  · refine sm_rd (x_gR_7_1 Hh7) ?_
    refine sm_rd (x_gI_7_3 Hh7).1 ?_
    refine sgeV fun c1 => ?_
    refine sgxV fun c2 => ?_
    refine sm_rd (x_aI_B Hh7 c1 rfl c2).1 ?_
    refine sm_IV (S7_isLetter Hh7 rfl ((x_aI_B Hh7 c1 rfl c2).2)) fun vo20 ho20 Ho20 ro20 => ?_
    refine sm_if (z3_eq rfl l3_0 ro20 lr3_0) ?_ ?_
    · refine sm_rd (x_gR_7_1 Ho20) ?_
      refine sm_rd (x_gI_7_3 Ho20).1 ?_
      refine sgeV fun c3 => ?_
      refine sgxV fun c4 => ?_
      refine sm_rd (x_aI_B Ho20 c3 rfl c4).1 ?_
      refine sm_IV (S7_isDigit Ho20 rfl ((x_aI_B Ho20 c3 rfl c4).2)) fun vo29 ho29 Ho29 ro29 => ?_
      refine sm_if (z3_eq rfl l3_0 ro29 lr3_0) ?_ ?_
      · refine sm_VV (S7_takeSign Ho29) fun ho32 Ho32 => ?_
        exact sm_retV Ho32
      · refine sm_VV (S7_takeNumber Ho29) fun ho34 Ho34 => ?_
        exact sm_retV Ho34
    · refine sm_VV (S7_takeWord Ho20) fun ho36 Ho36 => ?_
      exact sm_retV Ho36
  · refine sm_wt (x_pI_7_4 Hh7 l3_39 lr3_39) fun h38 Hh38 => ?_
    exact sm_retV Hh38
theorem S7_advance {h : PH} (H : OKX h) : SimV OKX (F7_advance h 47) (G7_advance (rd h)) := by
  unfold F7_advance G7_advance
  refine sm_cd (x_ok_7 H) ?_
  exact S7_advance_0 H
theorem S5_takenNumber_42 {h : PH} (H : OKX h) : SimI OKX (F5_takenNumber_42 h 46) (G5_takenNumber_42 (rd h)) := by
  unfold F5_takenNumber_42 G5_takenNumber_42
  refine sm_II (S5_refuse H l3_2 lr3_2) fun vo1 ho1 Ho1 ro1 => ?_
  exact sm_retI Ho1 l3_m1 lr3_m1
theorem S5_takenNumber_0 {h : PH} (H : OKX h) {x1i : Int32} {x1 : Int} (ex1 : x1i = Z3 x1) (qx1 : r3 x1) {x2i : Int32} {x2 : Int} (ex2 : x2i = Z3 x2) (qx2 : r3 x2) : SimI OKX (F5_takenNumber_0 h 46 x1i x2i) (G5_takenNumber_0 (rd h) x1 x2) := by
  subst ex1 ex2
  unfold F5_takenNumber_0 G5_takenNumber_0
  refine sm_rd (x_gR_5_0 H) ?_
  refine sm_rd (x_gI_7_4 H).1 ?_
  refine sm_if (z3_eq rfl l3_25 (x_gI_7_4 H).2 lr3_25) ?_ ?_
  · refine sm_rd (x_gR_5_0 H) ?_
    refine sm_rd (x_gI_7_6 H).1 ?_
    refine sm_if (z3_lt rfl rfl (x_gI_7_6 H).2 qx1) ?_ ?_
    · exact S5_takenNumber_42 H
    · refine sm_rd (x_gR_5_0 H) ?_
      refine sm_rd (x_gI_7_6 H).1 ?_
      refine sm_if (z3_le rfl rfl (x_gI_7_6 H).2 qx2) ?_ ?_
      · refine sm_rd (x_gR_5_0 H) ?_
        refine sm_rd (x_gI_7_6 H).1 ?_
        exact sm_retI H rfl (x_gI_7_6 H).2
      · exact S5_takenNumber_42 H
  · refine sm_II (S5_refuse H l3_1 lr3_1) fun vo20 ho20 Ho20 ro20 => ?_
    exact sm_retI Ho20 l3_m1 lr3_m1
theorem S5_takenNumber {h : PH} (H : OKX h) {x1i : Int32} {x1 : Int} (ex1 : x1i = Z3 x1) (qx1 : r3 x1) {x2i : Int32} {x2 : Int} (ex2 : x2i = Z3 x2) (qx2 : r3 x2) : SimI OKX (F5_takenNumber h 46 x1i x2i) (G5_takenNumber (rd h) x1 x2) := by
  subst ex1 ex2
  unfold F5_takenNumber G5_takenNumber
  refine sm_cd (x_ok_5 H) ?_
  exact S5_takenNumber_0 H rfl qx1 rfl qx2
theorem S5_numberIn_0 {h : PH} (H : OKX h) {x1i : Int32} {x1 : Int} (ex1 : x1i = Z3 x1) (qx1 : r3 x1) {x2i : Int32} {x2 : Int} (ex2 : x2i = Z3 x2) (qx2 : r3 x2) : SimI OKX (F5_numberIn_0 h 46 x1i x2i) (G5_numberIn_0 (rd h) x1 x2) := by
  subst ex1 ex2
  unfold F5_numberIn_0 G5_numberIn_0
  refine sm_rd (x_gR_5_0 H) ?_
  refine sm_VI (S7_advance H) fun ho3 Ho3 => ?_
  refine sm_II (S5_takenNumber Ho3 rfl qx1 rfl qx2) fun vo5 ho5 Ho5 ro5 => ?_
  exact sm_retI Ho5 rfl ro5
/-! The pure functions do so (written by wip/gen/gx.py). -/
theorem S5_numberIn {h : PH} (H : OKX h) {x1i : Int32} {x1 : Int} (ex1 : x1i = Z3 x1) (qx1 : r3 x1) {x2i : Int32} {x2 : Int} (ex2 : x2i = Z3 x2) (qx2 : r3 x2) : SimI OKX (F5_numberIn h 46 x1i x2i) (G5_numberIn (rd h) x1 x2) := by
  subst ex1 ex2
  unfold F5_numberIn G5_numberIn
  refine sm_cd (x_ok_5 H) ?_
  exact S5_numberIn_0 H rfl qx1 rfl qx2
theorem S10_forget_0 {h : PH} (H : OKX h) {a0 : Nat} (ha0 : A10 a0) : SimV OKX (F10_forget_0 h a0) (G10_forget_0 (rd h) a0) := by
  unfold F10_forget_0 G10_forget_0
  refine sm_wt (x_pI_10_0 H ha0 l3_0 lr3_0) fun h1 Hh1 => ?_
  refine sm_wt (x_pI_10_1 Hh1 ha0 l3_0 lr3_0) fun h3 Hh3 => ?_
  exact sm_retV Hh3
theorem S10_forget {h : PH} (H : OKX h) {a0 : Nat} (ha0 : A10 a0) : SimV OKX (F10_forget h a0) (G10_forget (rd h) a0) := by
  unfold F10_forget G10_forget
  refine sm_cd (x_ok_10 H ha0) ?_
  exact S10_forget_0 H ha0
theorem S8_forget_63 (n : Nat) : ∀ {h : PH} (H : OKX h) {a0 : Nat} (ha0 : A8 a0) {x1i : Int32} {x1 : Int} (ex1 : x1i = Z3 x1) (qx1 : r3 x1), SimV OKX (F8_forget_63 n h a0 x1i) (G8_forget_63 n (rd h) a0 x1) := by
  induction n with
  | zero => intros; exact smV_none _
  | succ n ih =>
    intro h H a0 ha0 x1i x1 ex1 qx1
    subst ex1
    rw [F8_forget_63, G8_forget_63]
    refine sm_if (z3_le l3_3 rfl lr3_3 qx1) ?_ ?_
    · refine sm_wt (x_pI_8_12 H ha0 l3_0 lr3_0) fun h2 Hh2 => ?_
      refine sm_wt (x_pI_8_13 Hh2 ha0 l3_0 lr3_0) fun h4 Hh4 => ?_
      exact sm_retV Hh4
    · refine sm_rd (x_gR_8_11 H ha0) ?_
      refine sgxV fun c1 => ?_
      refine sm_rd (x_aR H (ao_8_11 ha0) rfl c1) ?_
      refine sm_VV (S2_forget H (x_aRp (ao_8_11 ha0) c1)) fun ho10 Ho10 => ?_
      refine sg3V fun c2 => ?_
      exact ih Ho10 ha0 (z3_add rfl l3_1) c2
theorem S8_forget_0 {h : PH} (H : OKX h) {a0 : Nat} (ha0 : A8 a0) : SimV OKX (F8_forget_0 h a0) (G8_forget_0 (rd h) a0) := by
  unfold F8_forget_0 G8_forget_0
  refine sm_wt (x_pI_8_0 H ha0 l3_6 lr3_6) fun h1 Hh1 => ?_
  refine sm_wt (x_pI_8_1 Hh1 ha0 l3_4 lr3_4) fun h3 Hh3 => ?_
  refine sm_wt (x_pI_8_2 Hh3 ha0 l3_0 lr3_0) fun h5 Hh5 => ?_
  refine sm_wt (x_pI_8_3 Hh5 ha0 l3_0 lr3_0) fun h7 Hh7 => ?_
  refine sm_rd (x_gR_8_4 Hh7 ha0) ?_
  refine sm_wt (x_pI_1_0 Hh7 (ao_8_4 ha0) l3_0 lr3_0) fun h11 Hh11 => ?_
  refine sm_rd (x_gR_8_5 Hh11 ha0) ?_
  refine sm_VV (S10_forget Hh11 (ao_8_5 ha0)) fun ho15 Ho15 => ?_
  refine sm_wt (x_pI_8_6 Ho15 ha0 l3_0 lr3_0) fun h17 Hh17 => ?_
  refine sm_wt (x_pI_8_7 Hh17 ha0 l3_0 lr3_0) fun h19 Hh19 => ?_
  refine sm_wt (x_pI_8_8 Hh19 ha0 l3_0 lr3_0) fun h21 Hh21 => ?_
  refine sm_wt (x_pI_8_9 Hh21 ha0 l3_0 lr3_0) fun h23 Hh23 => ?_
  refine sm_wt (x_pI_8_10 Hh23 ha0 l3_0 lr3_0) fun h25 Hh25 => ?_
  exact S8_forget_63 1024 Hh25 ha0 l3_0 lr3_0
theorem S8_forget {h : PH} (H : OKX h) {a0 : Nat} (ha0 : A8 a0) : SimV OKX (F8_forget h a0) (G8_forget (rd h) a0) := by
  unfold F8_forget G8_forget
  refine sm_cd (x_ok_8 H ha0) ?_
  exact S8_forget_0 H ha0
theorem S7_begin_0 {h : PH} (H : OKX h) {x2i : Int32} {x2 : Int} (ex2 : x2i = Z3 x2) (qx2 : r3 x2) : SimV OKX (F7_begin_0 h 47 1 x2i) (G7_begin_0 (rd h) x2) := by
  subst ex2
  unfold F7_begin_0 G7_begin_0
  refine sm_wt (x_pR_7_1 H) fun h1 Hh1 => ?_
  refine sm_rd (x_aL_11_0 Hh1) ?_
  refine sm_wt (x_pI_7_2 Hh1 (z3_ite (z3_lt rfl rfl lr3_700 qx2) rfl rfl) (r3_ite lr3_700 qx2)) fun h5 Hh5 => ?_
  refine sm_wt (x_pI_7_3 Hh5 l3_0 lr3_0) fun h7 Hh7 => ?_
  exact sm_retV Hh7
theorem S7_begin {h : PH} (H : OKX h) {x2i : Int32} {x2 : Int} (ex2 : x2i = Z3 x2) (qx2 : r3 x2) : SimV OKX (F7_begin h 47 1 x2i) (G7_begin (rd h) x2) := by
  subst ex2
  unfold F7_begin G7_begin
  refine sm_cd (x_ok_7 H) ?_
  exact S7_begin_0 H rfl qx2
theorem S5_readStop_0 {h : PH} (H : OKX h) : SimI OKX (F5_readStop_0 h 46) (G5_readStop_0 (rd h)) := by
  unfold F5_readStop_0 G5_readStop_0
  refine sm_rd (x_gR_5_0 H) ?_
  refine sm_VI (S7_advance H) fun ho3 Ho3 => ?_
  refine sm_rd (x_gR_5_0 Ho3) ?_
  refine sm_rd (x_gI_7_4 Ho3).1 ?_
  refine sm_if (z3_eq rfl l3_38 (x_gI_7_4 Ho3).2 lr3_38) ?_ ?_
  · exact sm_rz Ho3 l3_1 (by decide)
  · refine sm_II (S5_refuse Ho3 l3_1 lr3_1) fun vo10 ho10 Ho10 ro10 => ?_
    refine sm_if (z3_eq rfl l3_0 ro10 lr3_0) ?_ ?_
    · exact sm_rz Ho10 l3_0 (by decide)
    · exact sm_rz Ho10 l3_1 (by decide)
theorem S5_readStop {h : PH} (H : OKX h) : SimI OKX (F5_readStop h 46) (G5_readStop (rd h)) := by
  unfold F5_readStop G5_readStop
  refine sm_cd (x_ok_5 H) ?_
  exact S5_readStop_0 H
theorem S5_readSea_47 {h : PH} (H : OKX h) {x1i : Int32} {x1 : Int} (ex1 : x1i = Z3 x1) (qx1 : r3 x1) {s0i : Int32} {s0 : Int} (es0 : s0i = Z3 s0) (qs0 : r3 s0) : SimI OKX (F5_readSea_47 h 46 x1i s0i) (G5_readSea_47 (rd h) x1 s0) := by
  subst ex1 es0
  unfold F5_readSea_47 G5_readSea_47
  refine sm_if (z3_eq rfl l3_m1 qs0 lr3_m1) ?_ ?_
  · exact sm_rz H l3_0 (by decide)
  · refine sm_rd (x_gR_5_10 H) ?_
    refine sm_wt (x_pI_8_0 H (x_v_5_10 H) rfl qx1) fun h4 Hh4 => ?_
    refine sm_rd (x_gR_5_10 Hh4) ?_
    refine sm_wt (x_pI_8_1 Hh4 (x_v_5_10 Hh4) rfl qs0) fun h8 Hh8 => ?_
    refine sm_II (S5_readStop Hh8) fun vo10 ho10 Ho10 ro10 => ?_
    refine sgbI fun c1 => ?_
    exact sm_rz Ho10 rfl c1
theorem S5_readSea_0 {h : PH} (H : OKX h) : SimI OKX (F5_readSea_0 h 46) (G5_readSea_0 (rd h)) := by
  unfold F5_readSea_0 G5_readSea_0
  refine sm_II (S5_isFirst H l3_0 lr3_0) fun vo1 ho1 Ho1 ro1 => ?_
  refine sm_if (z3_eq rfl l3_0 ro1 lr3_0) ?_ ?_
  · exact sm_rz Ho1 l3_0 (by decide)
  · refine sm_rd (x_gI_5_7 Ho1).1 ?_
    refine sm_if (z3_eq rfl l3_0 (x_gI_5_7 Ho1).2 lr3_0) ?_ ?_
    · refine sm_II (S5_numberIn Ho1 l3_1 lr3_1 l3_8 lr3_8) fun vo7 ho7 Ho7 ro7 => ?_
      refine sm_if (z3_eq rfl l3_m1 ro7 lr3_m1) ?_ ?_
      · exact S5_readSea_47 Ho7 rfl ro7 l3_m1 lr3_m1
      · refine sm_II (S5_numberIn Ho7 l3_1 lr3_1 l3_6 lr3_6) fun vo10 ho10 Ho10 ro10 => ?_
        exact S5_readSea_47 Ho10 rfl ro7 rfl ro10
    · refine sm_II (S5_refuse Ho1 l3_4 lr3_4) fun vo12 ho12 Ho12 ro12 => ?_
      refine sgbI fun c1 => ?_
      exact sm_rz Ho12 rfl c1
theorem S5_readSea {h : PH} (H : OKX h) : SimI OKX (F5_readSea h 46) (G5_readSea (rd h)) := by
  unfold F5_readSea G5_readSea
  refine sm_cd (x_ok_5 H) ?_
  exact S5_readSea_0 H
theorem S5_readPeak_53 {h : PH} (H : OKX h) {x1i : Int32} {x1 : Int} (ex1 : x1i = Z3 x1) (qx1 : r3 x1) {s0i : Int32} {s0 : Int} (es0 : s0i = Z3 s0) (qs0 : r3 s0) : SimI OKX (F5_readPeak_53 h 46 x1i s0i) (G5_readPeak_53 (rd h) x1 s0) := by
  subst ex1 es0
  unfold F5_readPeak_53 G5_readPeak_53
  refine sm_if (z3_eq rfl l3_m1 qs0 lr3_m1) ?_ ?_
  · exact sm_rz H l3_0 (by decide)
  · refine sm_rd (x_gR_5_10 H) ?_
    refine sm_wt (x_pI_8_2 H (x_v_5_10 H) rfl qx1) fun h4 Hh4 => ?_
    refine sm_rd (x_gR_5_10 Hh4) ?_
    refine sm_wt (x_pI_8_3 Hh4 (x_v_5_10 Hh4) rfl qs0) fun h8 Hh8 => ?_
    refine sm_II (S5_readStop Hh8) fun vo10 ho10 Ho10 ro10 => ?_
    refine sgbI fun c1 => ?_
    exact sm_rz Ho10 rfl c1
theorem S5_readPeak_0 {h : PH} (H : OKX h) : SimI OKX (F5_readPeak_0 h 46) (G5_readPeak_0 (rd h)) := by
  unfold F5_readPeak_0 G5_readPeak_0
  refine sm_II (S5_isFirst H l3_1 lr3_1) fun vo1 ho1 Ho1 ro1 => ?_
  refine sm_if (z3_eq rfl l3_0 ro1 lr3_0) ?_ ?_
  · exact sm_rz Ho1 l3_0 (by decide)
  · refine sm_wt (x_pZ_5_7 Ho1 l3_1 (by decide)) fun h4 Hh4 => ?_
    refine sm_rd (x_gR_5_10 Hh4) ?_
    refine sm_rd (x_gI_8_0 Hh4 (x_v_5_10 Hh4)).1 ?_
    refine sg3I fun c1 => ?_
    refine sm_II (S5_numberIn Hh4 l3_0 lr3_0 (z3_sub rfl l3_1) c1) fun vo10 ho10 Ho10 ro10 => ?_
    refine sm_if (z3_eq rfl l3_m1 ro10 lr3_m1) ?_ ?_
    · exact S5_readPeak_53 Ho10 rfl ro10 l3_m1 lr3_m1
    · refine sm_rd (x_gR_5_10 Ho10) ?_
      refine sm_rd (x_gI_8_1 Ho10 (x_v_5_10 Ho10)).1 ?_
      refine sg3I fun c2 => ?_
      refine sm_II (S5_numberIn Ho10 l3_0 lr3_0 (z3_sub rfl l3_1) c2) fun vo17 ho17 Ho17 ro17 => ?_
      exact S5_readPeak_53 Ho17 rfl ro10 rfl ro17
theorem S5_readPeak {h : PH} (H : OKX h) : SimI OKX (F5_readPeak h 46) (G5_readPeak (rd h)) := by
  unfold F5_readPeak G5_readPeak
  refine sm_cd (x_ok_5 H) ?_
  exact S5_readPeak_0 H
theorem S5_readSurfer_195 {h : PH} (H : OKX h) {x1i : Int32} {x1 : Int} (ex1 : x1i = Z3 x1) (qx1 : r3 x1) {x2i : Int32} {x2 : Int} (ex2 : x2i = Z3 x2) (qx2 : r3 x2) {x3i : Int32} {x3 : Int} (ex3 : x3i = Z3 x3) (qx3 : r3 x3) {x4i : Int32} {x4 : Int} (ex4 : x4i = Z3 x4) (qx4 : r3 x4) {x5i : Int32} {x5 : Int} (ex5 : x5i = Z3 x5) (qx5 : r3 x5) {x6i : Int32} {x6 : Int} (ex6 : x6i = Z3 x6) (qx6 : r3 x6) {s0i : Int32} {s0 : Int} (es0 : s0i = Z3 s0) (qs0 : r3 s0) : SimI OKX (F5_readSurfer_195 h 46 x1i x2i x3i x4i x5i x6i s0i) (G5_readSurfer_195 (rd h) x1 x2 x3 x4 x5 x6 s0) := by
  subst ex1 ex2 ex3 ex4 ex5 ex6 es0
  unfold F5_readSurfer_195 G5_readSurfer_195
  refine sm_if (z3_eq rfl l3_m1 qs0 lr3_m1) ?_ ?_
  · exact sm_rz H l3_0 (by decide)
  · refine sm_rd (x_gR_5_10 H) ?_
    refine sm_rd (x_gR_8_4 H (x_v_5_10 H)) ?_
    refine sm_rd (x_gR_5_10 H) ?_
    refine sm_rd (x_gI_8_0 H (x_v_5_10 H)).1 ?_
    refine sg3I fun c1 => ?_
    refine sm_VI (S1_add H (ao_8_4 (x_v_5_10 H)) rfl qx1 (z3_add (z3_mul rfl rfl) rfl) c1 rfl qx4 rfl qx5 rfl qx6 rfl qs0) fun ho10 Ho10 => ?_
    refine sm_II (S5_readStop Ho10) fun vo12 ho12 Ho12 ro12 => ?_
    refine sgbI fun c2 => ?_
    exact sm_rz Ho12 rfl c2
theorem S5_readSurfer_176 {h : PH} (H : OKX h) {x1i : Int32} {x1 : Int} (ex1 : x1i = Z3 x1) (qx1 : r3 x1) {x2i : Int32} {x2 : Int} (ex2 : x2i = Z3 x2) (qx2 : r3 x2) {x3i : Int32} {x3 : Int} (ex3 : x3i = Z3 x3) (qx3 : r3 x3) {x4i : Int32} {x4 : Int} (ex4 : x4i = Z3 x4) (qx4 : r3 x4) {x5i : Int32} {x5 : Int} (ex5 : x5i = Z3 x5) (qx5 : r3 x5) {s0i : Int32} {s0 : Int} (es0 : s0i = Z3 s0) (qs0 : r3 s0) : SimI OKX (F5_readSurfer_176 h 46 x1i x2i x3i x4i x5i s0i) (G5_readSurfer_176 (rd h) x1 x2 x3 x4 x5 s0) := by
  subst ex1 ex2 ex3 ex4 ex5 es0
  unfold F5_readSurfer_176 G5_readSurfer_176
  refine sm_if (z3_eq rfl l3_m1 qs0 lr3_m1) ?_ ?_
  · exact S5_readSurfer_195 H rfl qx1 rfl qx2 rfl qx3 rfl qx4 rfl qx5 rfl qs0 l3_m1 lr3_m1
  · refine sm_II (S5_numberIn H l3_0 lr3_0 l3_100 lr3_100) fun vo2 ho2 Ho2 ro2 => ?_
    exact S5_readSurfer_195 Ho2 rfl qx1 rfl qx2 rfl qx3 rfl qx4 rfl qx5 rfl qs0 rfl ro2
theorem S5_readSurfer_157 {h : PH} (H : OKX h) {x1i : Int32} {x1 : Int} (ex1 : x1i = Z3 x1) (qx1 : r3 x1) {x2i : Int32} {x2 : Int} (ex2 : x2i = Z3 x2) (qx2 : r3 x2) {x3i : Int32} {x3 : Int} (ex3 : x3i = Z3 x3) (qx3 : r3 x3) {x4i : Int32} {x4 : Int} (ex4 : x4i = Z3 x4) (qx4 : r3 x4) {s0i : Int32} {s0 : Int} (es0 : s0i = Z3 s0) (qs0 : r3 s0) : SimI OKX (F5_readSurfer_157 h 46 x1i x2i x3i x4i s0i) (G5_readSurfer_157 (rd h) x1 x2 x3 x4 s0) := by
  subst ex1 ex2 ex3 ex4 es0
  unfold F5_readSurfer_157 G5_readSurfer_157
  refine sm_if (z3_eq rfl l3_m1 qs0 lr3_m1) ?_ ?_
  · exact S5_readSurfer_176 H rfl qx1 rfl qx2 rfl qx3 rfl qx4 rfl qs0 l3_m1 lr3_m1
  · refine sm_II (S5_numberIn H l3_0 lr3_0 l3_100 lr3_100) fun vo2 ho2 Ho2 ro2 => ?_
    exact S5_readSurfer_176 Ho2 rfl qx1 rfl qx2 rfl qx3 rfl qx4 rfl qs0 rfl ro2
theorem S5_readSurfer_139 {h : PH} (H : OKX h) {x1i : Int32} {x1 : Int} (ex1 : x1i = Z3 x1) (qx1 : r3 x1) {x2i : Int32} {x2 : Int} (ex2 : x2i = Z3 x2) (qx2 : r3 x2) {x3i : Int32} {x3 : Int} (ex3 : x3i = Z3 x3) (qx3 : r3 x3) {s0i : Int32} {s0 : Int} (es0 : s0i = Z3 s0) (qs0 : r3 s0) : SimI OKX (F5_readSurfer_139 h 46 x1i x2i x3i s0i) (G5_readSurfer_139 (rd h) x1 x2 x3 s0) := by
  subst ex1 ex2 ex3 es0
  unfold F5_readSurfer_139 G5_readSurfer_139
  refine sm_if (z3_eq rfl l3_m1 qs0 lr3_m1) ?_ ?_
  · exact S5_readSurfer_157 H rfl qx1 rfl qx2 rfl qx3 rfl qs0 l3_m1 lr3_m1
  · refine sm_II (S5_numberIn H l3_1 lr3_1 l3_3 lr3_3) fun vo2 ho2 Ho2 ro2 => ?_
    exact S5_readSurfer_157 Ho2 rfl qx1 rfl qx2 rfl qx3 rfl qs0 rfl ro2
theorem S5_readSurfer_122 {h : PH} (H : OKX h) {x1i : Int32} {x1 : Int} (ex1 : x1i = Z3 x1) (qx1 : r3 x1) {x2i : Int32} {x2 : Int} (ex2 : x2i = Z3 x2) (qx2 : r3 x2) {s0i : Int32} {s0 : Int} (es0 : s0i = Z3 s0) (qs0 : r3 s0) : SimI OKX (F5_readSurfer_122 h 46 x1i x2i s0i) (G5_readSurfer_122 (rd h) x1 x2 s0) := by
  subst ex1 ex2 es0
  unfold F5_readSurfer_122 G5_readSurfer_122
  refine sm_if (z3_eq rfl l3_m1 qs0 lr3_m1) ?_ ?_
  · exact S5_readSurfer_139 H rfl qx1 rfl qx2 rfl qs0 l3_m1 lr3_m1
  · refine sm_II (S5_numberIn H l3_1 lr3_1 l3_9 lr3_9) fun vo2 ho2 Ho2 ro2 => ?_
    exact S5_readSurfer_139 Ho2 rfl qx1 rfl qx2 rfl qs0 rfl ro2
theorem S5_readSurfer_0 {h : PH} (H : OKX h) : SimI OKX (F5_readSurfer_0 h 46) (G5_readSurfer_0 (rd h)) := by
  unfold F5_readSurfer_0 G5_readSurfer_0
  refine sm_rd (x_gR_5_10 H) ?_
  refine sm_rd (x_gR_8_4 H (x_v_5_10 H)) ?_
  refine sm_rd (x_gI_1_0 H (ao_8_4 (x_v_5_10 H))).1 ?_
  refine sm_if (z3_lt rfl l3_5 (x_gI_1_0 H (ao_8_4 (x_v_5_10 H))).2 lr3_5) ?_ ?_
  · refine sm_wt (x_pZ_5_7 H l3_1 (by decide)) fun h8 Hh8 => ?_
    refine sm_rd (x_gR_5_0 Hh8) ?_
    refine sm_VI (S7_advance Hh8) fun ho12 Ho12 => ?_
    refine sm_rd (x_gR_5_0 Ho12) ?_
    refine sm_rd (x_gI_7_4 Ho12).1 ?_
    refine sm_if (z3_eq rfl l3_24 (x_gI_7_4 Ho12).2 lr3_24) ?_ ?_
    · refine sm_rd (x_gR_5_10 Ho12) ?_
      refine sm_rd (x_gR_8_4 Ho12 (x_v_5_10 Ho12)) ?_
      refine sm_rd (x_gR_5_0 Ho12) ?_
      refine sm_rd (x_gI_7_6 Ho12).1 ?_
      refine sm_II (S1_hasName Ho12 (ao_8_4 (x_v_5_10 Ho12)) rfl ((x_gI_7_6 Ho12).2)) fun vo27 ho27 Ho27 ro27 => ?_
      refine sm_if (z3_eq rfl l3_0 ro27 lr3_0) ?_ ?_
      · refine sm_rd (x_gR_5_0 Ho27) ?_
        refine sm_rd (x_gI_7_6 Ho27).1 ?_
        refine sm_rd (x_gR_5_10 Ho27) ?_
        refine sm_rd (x_gI_8_0 Ho27 (x_v_5_10 Ho27)).1 ?_
        refine sg3I fun c1 => ?_
        refine sm_II (S5_numberIn Ho27 l3_0 lr3_0 (z3_sub rfl l3_1) c1) fun vo38 ho38 Ho38 ro38 => ?_
        refine sm_if (z3_eq rfl l3_m1 ro38 lr3_m1) ?_ ?_
        · exact S5_readSurfer_122 Ho38 rfl ((x_gI_7_6 Ho27).2) rfl ro38 l3_m1 lr3_m1
        · refine sm_rd (x_gR_5_10 Ho38) ?_
          refine sm_rd (x_gI_8_1 Ho38 (x_v_5_10 Ho38)).1 ?_
          refine sg3I fun c2 => ?_
          refine sm_II (S5_numberIn Ho38 l3_0 lr3_0 (z3_sub rfl l3_1) c2) fun vo45 ho45 Ho45 ro45 => ?_
          exact S5_readSurfer_122 Ho45 rfl ((x_gI_7_6 Ho27).2) rfl ro38 rfl ro45
      · refine sm_II (S5_refuse Ho27 l3_3 lr3_3) fun vo47 ho47 Ho47 ro47 => ?_
        refine sgbI fun c3 => ?_
        exact sm_rz Ho47 rfl c3
    · refine sm_II (S5_refuse Ho12 l3_1 lr3_1) fun vo49 ho49 Ho49 ro49 => ?_
      refine sgbI fun c4 => ?_
      exact sm_rz Ho49 rfl c4
  · refine sm_II (S5_refuse H l3_2 lr3_2) fun vo51 ho51 Ho51 ro51 => ?_
    refine sgbI fun c5 => ?_
    exact sm_rz Ho51 rfl c5
theorem S5_readSurfer {h : PH} (H : OKX h) : SimI OKX (F5_readSurfer h 46) (G5_readSurfer (rd h)) := by
  unfold F5_readSurfer G5_readSurfer
  refine sm_cd (x_ok_5 H) ?_
  exact S5_readSurfer_0 H
theorem S10_firstMinute_0 {h : PH} (H : OKX h) {a0 : Nat} (ha0 : A10 a0) {x1i : Int32} {x1 : Int} (ex1 : x1i = Z3 x1) (qx1 : r3 x1) : SimI OKX (F10_firstMinute_0 h a0 x1i) (G10_firstMinute_0 (rd h) a0 x1) := by
  subst ex1
  unfold F10_firstMinute_0 G10_firstMinute_0
  refine sm_rd (x_gR_10_4 H ha0) ?_
  refine sm_rd (x_gR_10_2 H ha0) ?_
  refine sgxI fun c1 => ?_
  refine sm_rd (x_aI_10_2 H (ao_10_2 ha0) rfl c1).1 ?_
  refine sgxI fun c2 => ?_
  refine sm_rd (x_aI_10_4 H (ao_10_4 ha0) rfl c2).1 ?_
  exact sm_retI H rfl (x_aI_10_4 H (ao_10_4 ha0) rfl c2).2
theorem S10_firstMinute {h : PH} (H : OKX h) {a0 : Nat} (ha0 : A10 a0) {x1i : Int32} {x1 : Int} (ex1 : x1i = Z3 x1) (qx1 : r3 x1) : SimI OKX (F10_firstMinute h a0 x1i) (G10_firstMinute (rd h) a0 x1) := by
  subst ex1
  unfold F10_firstMinute G10_firstMinute
  refine sm_cd (x_ok_10 H ha0) ?_
  exact S10_firstMinute_0 H ha0 rfl qx1
theorem S10_lastMinute_0 {h : PH} (H : OKX h) {a0 : Nat} (ha0 : A10 a0) {x1i : Int32} {x1 : Int} (ex1 : x1i = Z3 x1) (qx1 : r3 x1) : SimI OKX (F10_lastMinute_0 h a0 x1i) (G10_lastMinute_0 (rd h) a0 x1) := by
  subst ex1
  unfold F10_lastMinute_0 G10_lastMinute_0
  refine sm_II (S10_firstMinute H ha0 rfl qx1) fun vo1 ho1 Ho1 ro1 => ?_
  refine sm_rd (x_gR_10_3 Ho1 ha0) ?_
  refine sgxI fun c1 => ?_
  refine sm_rd (x_aI_10_3 Ho1 (ao_10_3 ha0) rfl c1).1 ?_
  refine sg3I fun c2 => ?_
  exact sm_retI Ho1 (z3_sub (z3_add rfl rfl) l3_1) c2
theorem S10_lastMinute {h : PH} (H : OKX h) {a0 : Nat} (ha0 : A10 a0) {x1i : Int32} {x1 : Int} (ex1 : x1i = Z3 x1) (qx1 : r3 x1) : SimI OKX (F10_lastMinute h a0 x1i) (G10_lastMinute (rd h) a0 x1) := by
  subst ex1
  unfold F10_lastMinute G10_lastMinute
  refine sm_cd (x_ok_10 H ha0) ?_
  exact S10_lastMinute_0 H ha0 rfl qx1
theorem S10_beginSet_0 {h : PH} (H : OKX h) {a0 : Nat} (ha0 : A10 a0) : SimV OKX (F10_beginSet_0 h a0) (G10_beginSet_0 (rd h) a0) := by
  unfold F10_beginSet_0 G10_beginSet_0
  refine sm_rd (x_gI_10_0 H ha0).1 ?_
  refine sm_if (z3_le l3_4 rfl lr3_4 (x_gI_10_0 H ha0).2) ?_ ?_
  · exact sm_retV H
  · refine sm_rd (x_gR_10_2 H ha0) ?_
    refine sm_rd (x_gI_10_0 H ha0).1 ?_
    refine sm_rd (x_gI_10_1 H ha0).1 ?_
    refine sgxV fun c1 => ?_
    refine sm_wt (x_sI_10_2 H (ao_10_2 ha0) rfl c1 rfl (x_gI_10_1 H ha0).2) fun h11 Hh11 => ?_
    refine sm_rd (x_gR_10_3 Hh11 ha0) ?_
    refine sm_rd (x_gI_10_0 Hh11 ha0).1 ?_
    refine sgxV fun c2 => ?_
    refine sm_wt (x_sI_10_3 Hh11 (ao_10_3 ha0) rfl c2 l3_0 lr3_0) fun h17 Hh17 => ?_
    refine sm_rd (x_gI_10_0 Hh17 ha0).1 ?_
    refine sg3V fun c3 => ?_
    refine sm_wt (x_pI_10_0 Hh17 ha0 (z3_add rfl l3_1) c3) fun h20 Hh20 => ?_
    exact sm_retV Hh20
theorem S10_beginSet {h : PH} (H : OKX h) {a0 : Nat} (ha0 : A10 a0) : SimV OKX (F10_beginSet h a0) (G10_beginSet (rd h) a0) := by
  unfold F10_beginSet G10_beginSet
  refine sm_cd (x_ok_10 H ha0) ?_
  exact S10_beginSet_0 H ha0
theorem S10_add_0 {h : PH} (H : OKX h) {a0 : Nat} (ha0 : A10 a0) {x1i : Int32} {x1 : Int} (ex1 : x1i = Z3 x1) (qx1 : r3 x1) {x2i : Int32} {x2 : Int} (ex2 : x2i = Z3 x2) (qx2 : r3 x2) : SimV OKX (F10_add_0 h a0 x1i x2i) (G10_add_0 (rd h) a0 x1 x2) := by
  subst ex1 ex2
  unfold F10_add_0 G10_add_0
  refine sm_rd (x_gI_10_1 H ha0).1 ?_
  refine sm_if (z3_le l3_28 rfl lr3_28 (x_gI_10_1 H ha0).2) ?_ ?_
  · exact sm_retV H
  · refine sm_rd (x_gI_10_0 H ha0).1 ?_
    refine sm_if (z3_le l3_1 rfl lr3_1 (x_gI_10_0 H ha0).2) ?_ ?_
    · refine sm_rd (x_gR_10_3 H ha0) ?_
      refine sm_rd (x_gI_10_0 H ha0).1 ?_
      refine sgxV fun c1 => ?_
      refine sm_rd (x_aI_10_3 H (ao_10_3 ha0) (z3_sub rfl l3_1) c1).1 ?_
      refine sgxV fun c2 => ?_
      refine sg3V fun c3 => ?_
      refine sm_wt (x_sI_10_3 H (ao_10_3 ha0) (z3_sub rfl l3_1) c2 (z3_add rfl l3_1) c3) fun h14 Hh14 => ?_
      refine sm_rd (x_gR_10_4 Hh14 ha0) ?_
      refine sm_rd (x_gI_10_1 Hh14 ha0).1 ?_
      refine sgxV fun c4 => ?_
      refine sm_wt (x_sI_10_4 Hh14 (ao_10_4 ha0) rfl c4 rfl qx1) fun h20 Hh20 => ?_
      refine sm_rd (x_gR_10_5 Hh20 ha0) ?_
      refine sm_rd (x_gI_10_1 Hh20 ha0).1 ?_
      refine sgxV fun c5 => ?_
      refine sm_wt (x_sI_10_5 Hh20 (ao_10_5 ha0) rfl c5 rfl qx2) fun h26 Hh26 => ?_
      refine sm_rd (x_gR_10_6 Hh26 ha0) ?_
      refine sm_rd (x_gI_10_1 Hh26 ha0).1 ?_
      refine sm_rd (x_gI_10_0 Hh26 ha0).1 ?_
      refine sgxV fun c6 => ?_
      refine sg3V fun c7 => ?_
      refine sm_wt (x_sI_10_6 Hh26 (ao_10_6 ha0) rfl c6 (z3_sub rfl l3_1) c7) fun h34 Hh34 => ?_
      refine sm_rd (x_gR_10_7 Hh34 ha0) ?_
      refine sm_rd (x_gI_10_1 Hh34 ha0).1 ?_
      refine sm_rd (x_gR_10_3 Hh34 ha0) ?_
      refine sm_rd (x_gI_10_0 Hh34 ha0).1 ?_
      refine sgxV fun c8 => ?_
      refine sm_rd (x_aI_10_3 Hh34 (ao_10_3 ha0) (z3_sub rfl l3_1) c8).1 ?_
      refine sgxV fun c9 => ?_
      refine sm_wt (x_sI_10_7 Hh34 (ao_10_7 ha0) rfl c9 rfl (x_aI_10_3 Hh34 (ao_10_3 ha0) (z3_sub rfl l3_1) c8).2) fun h46 Hh46 => ?_
      refine sm_rd (x_gI_10_1 Hh46 ha0).1 ?_
      refine sg3V fun c10 => ?_
      refine sm_wt (x_pI_10_1 Hh46 ha0 (z3_add rfl l3_1) c10) fun h49 Hh49 => ?_
      exact sm_retV Hh49
    · exact sm_retV H
theorem S10_add {h : PH} (H : OKX h) {a0 : Nat} (ha0 : A10 a0) {x1i : Int32} {x1 : Int} (ex1 : x1i = Z3 x1) (qx1 : r3 x1) {x2i : Int32} {x2 : Int} (ex2 : x2i = Z3 x2) (qx2 : r3 x2) : SimV OKX (F10_add h a0 x1i x2i) (G10_add (rd h) a0 x1 x2) := by
  subst ex1 ex2
  unfold F10_add G10_add
  refine sm_cd (x_ok_10 H ha0) ?_
  exact S10_add_0 H ha0 rfl qx1 rfl qx2
theorem S5_readSet_101 {k70 : PH → Nat → Nat → Int32 → Int32 → Option (Int32 × PH)} {kk70 : Mem → Nat → Int → Int → Option (Int × Mem)} (hk70 : ∀ {h : PH} (_ : OKX h) {a2 : Nat} (_ : A10 a2) {x3 : Int32} {y3 : Int} (_ : x3 = Z3 y3) (_ : r3 y3) {x4 : Int32} {y4 : Int} (_ : x4 = Z3 y4) (_ : r3 y4), SimI OKX (k70 h 46 a2 x3 x4) (kk70 (rd h) a2 y3 y4)) {h : PH} (H : OKX h) {a1 : Nat} (ha1 : A10 a1) {x2i : Int32} {x2 : Int} (ex2 : x2i = Z3 x2) (qx2 : r3 x2) {x3i : Int32} {x3 : Int} (ex3 : x3i = Z3 x3) (qx3 : r3 x3) : SimI OKX (F5_readSet_101 k70 h 46 a1 x2i x3i) (G5_readSet_101 kk70 (rd h) a1 x2 x3) := by
  subst ex2 ex3
  unfold F5_readSet_101 G5_readSet_101
  refine sm_II (S5_takenNumber H l3_1 lr3_1 l3_9 lr3_9) fun vo1 ho1 Ho1 ro1 => ?_
  refine sm_if (z3_eq rfl l3_m1 ro1 lr3_m1) ?_ ?_
  · exact sm_rz Ho1 l3_0 (by decide)
  · refine sm_if (z3_eq rfl l3_7 qx3 lr3_7) ?_ ?_
    · refine sm_II (S5_refuse Ho1 l3_2 lr3_2) fun vo7 ho7 Ho7 ro7 => ?_
      refine sgbI fun c1 => ?_
      exact sm_rz Ho7 rfl c1
    · refine sg3I fun c2 => ?_
      refine sm_VI (S10_add Ho1 ha1 (z3_add rfl rfl) c2 rfl ro1) fun ho5 Ho5 => ?_
      refine sg3I fun c3 => ?_
      exact hk70 Ho5 ha1 rfl qx2 (z3_add rfl l3_1) c3
theorem S5_readSet_70 (n : Nat) : ∀ {h : PH} (H : OKX h) {a1 : Nat} (ha1 : A10 a1) {x2i : Int32} {x2 : Int} (ex2 : x2i = Z3 x2) (qx2 : r3 x2) {x3i : Int32} {x3 : Int} (ex3 : x3i = Z3 x3) (qx3 : r3 x3), SimI OKX (F5_readSet_70 n h 46 a1 x2i x3i) (G5_readSet_70 n (rd h) a1 x2 x3) := by
  induction n with
  | zero => intros; exact smI_none _
  | succ n ih =>
    intro h H a1 ha1 x2i x2 ex2 qx2 x3i x3 ex3 qx3
    subst ex2 ex3
    rw [F5_readSet_70, G5_readSet_70]
    refine sm_if (z3_lt l3_7 rfl lr3_7 qx3) ?_ ?_
    · exact sm_rz H l3_0 (by decide)
    · refine sm_rd (x_gR_5_0 H) ?_
      refine sm_VI (S7_advance H) fun ho4 Ho4 => ?_
      refine sm_if (z3_le rfl l3_0 qx3 lr3_0) ?_ ?_
      · exact S5_readSet_101 (@fun _ H _ ha1 _ _ ex2 qx2 _ _ ex3 qx3 => ih H ha1 ex2 qx2 ex3 qx3) Ho4 ha1 rfl qx2 rfl qx3
      · refine sm_rd (x_gR_5_0 Ho4) ?_
        refine sm_rd (x_gI_7_4 Ho4).1 ?_
        refine sm_if (z3_eq rfl l3_38 (x_gI_7_4 Ho4).2 lr3_38) ?_ ?_
        · exact sm_rz Ho4 l3_1 (by decide)
        · exact S5_readSet_101 (@fun _ H _ ha1 _ _ ex2 qx2 _ _ ex3 qx3 => ih H ha1 ex2 qx2 ex3 qx3) Ho4 ha1 rfl qx2 rfl qx3
theorem S5_readSet_64 {h : PH} (H : OKX h) {a1 : Nat} (ha1 : A10 a1) {x2i : Int32} {x2 : Int} (ex2 : x2i = Z3 x2) (qx2 : r3 x2) : SimI OKX (F5_readSet_64 h 46 a1 x2i) (G5_readSet_64 (rd h) a1 x2) := by
  subst ex2
  unfold F5_readSet_64 G5_readSet_64
  refine sm_VI (S10_beginSet H ha1) fun ho1 Ho1 => ?_
  exact S5_readSet_70 1024 Ho1 ha1 rfl qx2 l3_0 lr3_0
theorem S5_readSet_0 {h : PH} (H : OKX h) : SimI OKX (F5_readSet_0 h 46) (G5_readSet_0 (rd h)) := by
  unfold F5_readSet_0 G5_readSet_0
  refine sm_rd (x_gR_5_10 H) ?_
  refine sm_rd (x_gR_8_5 H (x_v_5_10 H)) ?_
  refine sm_rd (x_gI_10_0 H (ao_8_5 (x_v_5_10 H))).1 ?_
  refine sm_if (z3_lt rfl l3_4 (x_gI_10_0 H (ao_8_5 (x_v_5_10 H))).2 lr3_4) ?_ ?_
  · refine sm_II (S5_numberIn H l3_0 lr3_0 l3_99 lr3_99) fun vo8 ho8 Ho8 ro8 => ?_
    refine sm_if (z3_eq rfl l3_m1 ro8 lr3_m1) ?_ ?_
    · exact sm_rz Ho8 l3_0 (by decide)
    · refine sm_rd (x_gI_10_0 Ho8 (ao_8_5 (x_v_5_10 H))).1 ?_
      refine sm_if (z3_le rfl l3_0 (x_gI_10_0 Ho8 (ao_8_5 (x_v_5_10 H))).2 lr3_0) ?_ ?_
      · exact S5_readSet_64 Ho8 (ao_8_5 (x_v_5_10 H)) rfl ro8
      · refine sm_rd (x_gI_10_0 Ho8 (ao_8_5 (x_v_5_10 H))).1 ?_
        refine sg3I fun c1 => ?_
        refine sm_II (S10_lastMinute Ho8 (ao_8_5 (x_v_5_10 H)) (z3_sub rfl l3_1) c1) fun vo16 ho16 Ho16 ro16 => ?_
        refine sm_if (z3_lt rfl rfl ro16 ro8) ?_ ?_
        · exact S5_readSet_64 Ho16 (ao_8_5 (x_v_5_10 H)) rfl ro8
        · refine sm_II (S5_refuse Ho16 l3_5 lr3_5) fun vo19 ho19 Ho19 ro19 => ?_
          refine sgbI fun c2 => ?_
          exact sm_rz Ho19 rfl c2
  · refine sm_II (S5_refuse H l3_2 lr3_2) fun vo21 ho21 Ho21 ro21 => ?_
    refine sgbI fun c3 => ?_
    exact sm_rz Ho21 rfl c3
theorem S5_readSet {h : PH} (H : OKX h) : SimI OKX (F5_readSet h 46) (G5_readSet (rd h)) := by
  unfold F5_readSet G5_readSet
  refine sm_cd (x_ok_5 H) ?_
  exact S5_readSet_0 H
theorem S5_readBank_51 {h : PH} (H : OKX h) {x1i : Int32} {x1 : Int} (ex1 : x1i = Z3 x1) (qx1 : r3 x1) {x2i : Int32} {x2 : Int} (ex2 : x2i = Z3 x2) (qx2 : r3 x2) {s0i : Int32} {s0 : Int} (es0 : s0i = Z3 s0) (qs0 : r3 s0) : SimI OKX (F5_readBank_51 h 46 x1i x2i s0i) (G5_readBank_51 (rd h) x1 x2 s0) := by
  subst ex1 ex2 es0
  unfold F5_readBank_51 G5_readBank_51
  refine sm_if (z3_eq rfl l3_m1 qs0 lr3_m1) ?_ ?_
  · exact sm_rz H l3_0 (by decide)
  · refine sm_rd (x_gR_5_10 H) ?_
    refine sm_wt (x_pI_8_6 H (x_v_5_10 H) rfl qx1) fun h4 Hh4 => ?_
    refine sm_rd (x_gR_5_10 Hh4) ?_
    refine sm_wt (x_pI_8_7 Hh4 (x_v_5_10 Hh4) rfl qx2) fun h8 Hh8 => ?_
    refine sm_rd (x_gR_5_10 Hh8) ?_
    refine sm_wt (x_pI_8_8 Hh8 (x_v_5_10 Hh8) rfl qs0) fun h12 Hh12 => ?_
    refine sm_II (S5_readStop Hh12) fun vo14 ho14 Ho14 ro14 => ?_
    refine sgbI fun c1 => ?_
    exact sm_rz Ho14 rfl c1
theorem S5_readBank_34 {h : PH} (H : OKX h) {x1i : Int32} {x1 : Int} (ex1 : x1i = Z3 x1) (qx1 : r3 x1) {s0i : Int32} {s0 : Int} (es0 : s0i = Z3 s0) (qs0 : r3 s0) : SimI OKX (F5_readBank_34 h 46 x1i s0i) (G5_readBank_34 (rd h) x1 s0) := by
  subst ex1 es0
  unfold F5_readBank_34 G5_readBank_34
  refine sm_if (z3_eq rfl l3_m1 qs0 lr3_m1) ?_ ?_
  · exact S5_readBank_51 H rfl qx1 rfl qs0 l3_m1 lr3_m1
  · refine sm_II (S5_numberIn H l3_1 lr3_1 l3_9 lr3_9) fun vo2 ho2 Ho2 ro2 => ?_
    exact S5_readBank_51 Ho2 rfl qx1 rfl qs0 rfl ro2
theorem S5_readBank_0 {h : PH} (H : OKX h) : SimI OKX (F5_readBank_0 h 46) (G5_readBank_0 (rd h)) := by
  unfold F5_readBank_0 G5_readBank_0
  refine sm_II (S5_isFirst H l3_4 lr3_4) fun vo1 ho1 Ho1 ro1 => ?_
  refine sm_if (z3_eq rfl l3_0 ro1 lr3_0) ?_ ?_
  · exact sm_rz Ho1 l3_0 (by decide)
  · refine sm_II (S5_numberIn Ho1 l3_1 lr3_1 l3_20 lr3_20) fun vo4 ho4 Ho4 ro4 => ?_
    refine sm_if (z3_eq rfl l3_m1 ro4 lr3_m1) ?_ ?_
    · exact S5_readBank_34 Ho4 rfl ro4 l3_m1 lr3_m1
    · refine sm_II (S5_numberIn Ho4 l3_1 lr3_1 l3_20 lr3_20) fun vo7 ho7 Ho7 ro7 => ?_
      exact S5_readBank_34 Ho7 rfl ro4 rfl ro7
theorem S5_readBank {h : PH} (H : OKX h) : SimI OKX (F5_readBank h 46) (G5_readBank (rd h)) := by
  unfold F5_readBank G5_readBank
  refine sm_cd (x_ok_5 H) ?_
  exact S5_readBank_0 H
theorem S5_readRule_37 {h : PH} (H : OKX h) : SimI OKX (F5_readRule_37 h 46) (G5_readRule_37 (rd h)) := by
  unfold F5_readRule_37 G5_readRule_37
  refine sm_II (S5_refuse H l3_1 lr3_1) fun vo1 ho1 Ho1 ro1 => ?_
  refine sgbI fun c1 => ?_
  exact sm_rz Ho1 rfl c1
theorem S5_readRule_0 {h : PH} (H : OKX h) : SimI OKX (F5_readRule_0 h 46) (G5_readRule_0 (rd h)) := by
  unfold F5_readRule_0 G5_readRule_0
  refine sm_II (S5_isFirst H l3_5 lr3_5) fun vo1 ho1 Ho1 ro1 => ?_
  refine sm_if (z3_eq rfl l3_0 ro1 lr3_0) ?_ ?_
  · exact sm_rz Ho1 l3_0 (by decide)
  · refine sm_rd (x_gR_5_0 Ho1) ?_
    refine sm_VI (S7_advance Ho1) fun ho6 Ho6 => ?_
    refine sm_rd (x_gR_5_0 Ho6) ?_
    refine sm_rd (x_gI_7_4 Ho6).1 ?_
    refine sg3I fun c1 => ?_
    refine sm_if (z3_lt (z3_sub rfl l3_8) l3_0 c1 lr3_0) ?_ ?_
    · exact S5_readRule_37 Ho6
    · refine sg3I fun c2 => ?_
      refine sm_if (z3_lt (z3_sub rfl l3_8) l3_4 c2 lr3_4) ?_ ?_
      · refine sm_rd (x_gR_5_10 Ho6) ?_
        refine sg3I fun c3 => ?_
        refine sm_wt (x_pI_8_9 Ho6 (x_v_5_10 Ho6) (z3_sub rfl l3_8) c3) fun h16 Hh16 => ?_
        refine sm_II (S5_readStop Hh16) fun vo18 ho18 Ho18 ro18 => ?_
        refine sgbI fun c4 => ?_
        exact sm_rz Ho18 rfl c4
      · exact S5_readRule_37 Ho6
theorem S5_readRule {h : PH} (H : OKX h) : SimI OKX (F5_readRule h 46) (G5_readRule (rd h)) := by
  unfold F5_readRule G5_readRule
  refine sm_cd (x_ok_5 H) ?_
  exact S5_readRule_0 H
theorem S5_readSeed_0 {h : PH} (H : OKX h) : SimI OKX (F5_readSeed_0 h 46) (G5_readSeed_0 (rd h)) := by
  unfold F5_readSeed_0 G5_readSeed_0
  refine sm_II (S5_isFirst H l3_6 lr3_6) fun vo1 ho1 Ho1 ro1 => ?_
  refine sm_if (z3_eq rfl l3_0 ro1 lr3_0) ?_ ?_
  · exact sm_rz Ho1 l3_0 (by decide)
  · refine sm_II (S5_numberIn Ho1 l3_0 lr3_0 l3_99999 lr3_99999) fun vo4 ho4 Ho4 ro4 => ?_
    refine sm_if (z3_eq rfl l3_m1 ro4 lr3_m1) ?_ ?_
    · exact sm_rz Ho4 l3_0 (by decide)
    · refine sm_rd (x_gR_5_10 Ho4) ?_
      refine sm_wt (x_pI_8_10 Ho4 (x_v_5_10 Ho4) rfl ro4) fun h9 Hh9 => ?_
      refine sm_II (S5_readStop Hh9) fun vo11 ho11 Ho11 ro11 => ?_
      refine sgbI fun c1 => ?_
      exact sm_rz Ho11 rfl c1
theorem S5_readSeed {h : PH} (H : OKX h) : SimI OKX (F5_readSeed h 46) (G5_readSeed (rd h)) := by
  unfold F5_readSeed G5_readSeed
  refine sm_cd (x_ok_5 H) ?_
  exact S5_readSeed_0 H
theorem S5_readKind_27 {h : PH} (H : OKX h) : SimR OKX A2 (F5_readKind_27 h 46) (G5_readKind_27 (rd h)) := by
  unfold F5_readKind_27 G5_readKind_27
  refine sm_IR (S5_refuse H l3_1 lr3_1) fun vo1 ho1 Ho1 ro1 => ?_
  exact sm_retR0 Ho1
theorem S5_readKind_0 {h : PH} (H : OKX h) : SimR OKX A2 (F5_readKind_0 h 46) (G5_readKind_0 (rd h)) := by
  unfold F5_readKind_0 G5_readKind_0
  refine sm_rd (x_gR_5_0 H) ?_
  refine sm_VR (S7_advance H) fun ho3 Ho3 => ?_
  refine sm_rd (x_gR_5_0 Ho3) ?_
  refine sm_rd (x_gI_7_4 Ho3).1 ?_
  refine sg3R fun c1 => ?_
  refine sm_if (z3_lt (z3_sub rfl l3_12) l3_0 c1 lr3_0) ?_ ?_
  · exact S5_readKind_27 Ho3
  · refine sg3R fun c2 => ?_
    refine sm_if (z3_lt (z3_sub rfl l3_12) l3_3 c2 lr3_3) ?_ ?_
    · refine sm_rd (x_gR_5_10 Ho3) ?_
      refine sm_rd (x_gR_8_11 Ho3 (x_v_5_10 Ho3)) ?_
      refine sgxR fun c3 => ?_
      refine sm_rd (x_aR Ho3 (ao_8_11 (x_v_5_10 Ho3)) (z3_sub rfl l3_12) c3) ?_
      refine sm_rd (x_gI_2_2 Ho3 (x_aRp (ao_8_11 (x_v_5_10 Ho3)) c3)).1 ?_
      refine sm_if (z3_eq rfl l3_0 (x_gI_2_2 Ho3 (x_aRp (ao_8_11 (x_v_5_10 Ho3)) c3)).2 lr3_0) ?_ ?_
      · refine sm_rd (x_gR_5_10 Ho3) ?_
        refine sm_rd (x_gR_8_11 Ho3 (x_v_5_10 Ho3)) ?_
        refine sgxR fun c4 => ?_
        refine sm_rd (x_aR Ho3 (ao_8_11 (x_v_5_10 Ho3)) (z3_sub rfl l3_12) c4) ?_
        refine sm_wt (x_pZ_2_2 Ho3 (x_aRp (ao_8_11 (x_v_5_10 Ho3)) c4) l3_1 (by decide)) fun h26 Hh26 => ?_
        refine sm_rd (x_gR_5_10 Hh26) ?_
        refine sm_rd (x_gR_8_11 Hh26 (x_v_5_10 Hh26)) ?_
        refine sgxR fun c5 => ?_
        refine sm_rd (x_aR Hh26 (ao_8_11 (x_v_5_10 Hh26)) (z3_sub rfl l3_12) c5) ?_
        exact sm_retR1 Hh26 (x_aRp (ao_8_11 (x_v_5_10 Hh26)) c5)
      · refine sm_IR (S5_refuse Ho3 l3_3 lr3_3) fun vo34 ho34 Ho34 ro34 => ?_
        exact sm_retR0 Ho34
    · exact S5_readKind_27 Ho3
theorem S5_readKind {h : PH} (H : OKX h) : SimR OKX A2 (F5_readKind h 46) (G5_readKind (rd h)) := by
  unfold F5_readKind G5_readKind
  refine sm_cd (x_ok_5 H) ?_
  exact S5_readKind_0 H
theorem S5_strengthOf_0 {h : PH} (H : OKX h) {x0i : Int32} {x0 : Int} (ex0 : x0i = Z3 x0) (qx0 : r3 x0) : SimI OKX (F5_strengthOf_0 h x0i) (G5_strengthOf_0 (rd h) x0) := by
  subst ex0
  unfold F5_strengthOf_0 G5_strengthOf_0
  refine sm_if (z3_eq rfl l3_15 qx0 lr3_15) ?_ ?_
  · exact sm_retI H l3_3 lr3_3
  · refine sm_if (z3_eq rfl l3_16 qx0 lr3_16) ?_ ?_
    · exact sm_retI H l3_2 lr3_2
    · refine sm_if (z3_eq rfl l3_17 qx0 lr3_17) ?_ ?_
      · exact sm_retI H l3_1 lr3_1
      · refine sm_if (z3_eq rfl l3_26 qx0 lr3_26) ?_ ?_
        · exact sm_retI H l3_4 lr3_4
        · refine sm_if (z3_eq rfl l3_27 qx0 lr3_27) ?_ ?_
          · exact sm_retI H l3_4 lr3_4
          · refine sm_if (z3_eq rfl l3_28 qx0 lr3_28) ?_ ?_
            · exact sm_retI H l3_4 lr3_4
            · refine sm_if (z3_eq rfl l3_29 qx0 lr3_29) ?_ ?_
              · exact sm_retI H l3_4 lr3_4
              · refine sm_if (z3_eq rfl l3_30 qx0 lr3_30) ?_ ?_
                · exact sm_retI H l3_4 lr3_4
                · refine sm_if (z3_eq rfl l3_31 qx0 lr3_31) ?_ ?_
                  · exact sm_retI H l3_4 lr3_4
                  · refine sm_if (z3_eq rfl l3_32 qx0 lr3_32) ?_ ?_
                    · exact sm_retI H l3_5 lr3_5
                    · refine sm_if (z3_eq rfl l3_33 qx0 lr3_33) ?_ ?_
                      · exact sm_retI H l3_5 lr3_5
                      · refine sm_if (z3_eq rfl l3_34 qx0 lr3_34) ?_ ?_
                        · exact sm_retI H l3_6 lr3_6
                        · refine sm_if (z3_eq rfl l3_35 qx0 lr3_35) ?_ ?_
                          · exact sm_retI H l3_6 lr3_6
                          · exact sm_retI H l3_0 lr3_0
theorem S5_strengthOf {h : PH} (H : OKX h) {x0i : Int32} {x0 : Int} (ex0 : x0i = Z3 x0) (qx0 : r3 x0) : SimI OKX (F5_strengthOf h x0i) (G5_strengthOf (rd h) x0) := by
  subst ex0
  unfold F5_strengthOf G5_strengthOf
  exact S5_strengthOf_0 H rfl qx0
theorem S5_release_0 (n : Nat) : ∀ {h : PH} (H : OKX h) {a1 : Nat} (ha1 : A2 a1) {x2i : Int32} {x2 : Int} (ex2 : x2i = Z3 x2) (qx2 : r3 x2), SimV OKX (F5_release_0 n h 46 a1 x2i) (G5_release_0 n (rd h) a1 x2) := by
  induction n with
  | zero => intros; exact smV_none _
  | succ n ih =>
    intro h H a1 ha1 x2i x2 ex2 qx2
    subst ex2
    rw [F5_release_0, G5_release_0]
    refine sm_rd (x_gI_5_2 H).1 ?_
    refine sm_if (z3_le rfl l3_0 (x_gI_5_2 H).2 lr3_0) ?_ ?_
    · exact sm_retV H
    · refine sm_rd (x_gR_5_1 H) ?_
      refine sm_rd (x_gI_5_2 H).1 ?_
      refine sgxV fun c1 => ?_
      refine sm_rd (x_aI_5_1 H (z3_sub rfl l3_1) c1).1 ?_
      refine sm_IV (S5_strengthOf H rfl ((x_aI_5_1 H (z3_sub rfl l3_1) c1).2)) fun vo10 ho10 Ho10 ro10 => ?_
      refine sm_if (z3_le rfl rfl qx2 ro10) ?_ ?_
      · refine sg3V fun c2 => ?_
        refine sm_VV (S2_add Ho10 ha1 (z3_add l3_10000 rfl) c2) fun ho13 Ho13 => ?_
        refine sm_rd (x_gI_5_2 Ho13).1 ?_
        refine sg3V fun c3 => ?_
        refine sm_wt (x_pI_5_2 Ho13 (z3_sub rfl l3_1) c3) fun h17 Hh17 => ?_
        exact ih Hh17 ha1 rfl qx2
      · exact sm_retV Ho10
theorem S5_release {h : PH} (H : OKX h) {a1 : Nat} (ha1 : A2 a1) {x2i : Int32} {x2 : Int} (ex2 : x2i = Z3 x2) (qx2 : r3 x2) : SimV OKX (F5_release h 46 a1 x2i) (G5_release (rd h) a1 x2) := by
  subst ex2
  unfold F5_release G5_release
  refine sm_cd (x_ok_5 H) ?_
  exact S5_release_0 1024 H ha1 rfl qx2
theorem S5_takeOpen_0 {h : PH} (H : OKX h) : SimI OKX (F5_takeOpen_0 h 46) (G5_takeOpen_0 (rd h)) := by
  unfold F5_takeOpen_0 G5_takeOpen_0
  refine sm_rd (x_gI_5_3 H).1 ?_
  refine sm_if (z3_lt rfl l3_8 (x_gI_5_3 H).2 lr3_8) ?_ ?_
  · refine sm_rd (x_gI_5_3 H).1 ?_
    refine sg3I fun c1 => ?_
    refine sm_wt (x_pI_5_3 H (z3_add rfl l3_1) c1) fun h6 Hh6 => ?_
    refine sm_wt (x_pZ_5_5 Hh6 l3_1 (by decide)) fun h8 Hh8 => ?_
    refine sm_II (S5_letWait Hh8 l3_36 lr3_36) fun vo10 ho10 Ho10 ro10 => ?_
    refine sgbI fun c2 => ?_
    exact sm_rz Ho10 rfl c2
  · refine sm_II (S5_refuse H l3_2 lr3_2) fun vo12 ho12 Ho12 ro12 => ?_
    refine sgbI fun c3 => ?_
    exact sm_rz Ho12 rfl c3
theorem S5_takeOpen {h : PH} (H : OKX h) : SimI OKX (F5_takeOpen h 46) (G5_takeOpen (rd h)) := by
  unfold F5_takeOpen G5_takeOpen
  refine sm_cd (x_ok_5 H) ?_
  exact S5_takeOpen_0 H
theorem S5_takePart_139 {h : PH} (H : OKX h) {s0i : Int32} {s0 : Int} (es0 : s0i = Z3 s0) (qs0 : r3 s0) {u1 : Nat} (hu1 : A2 u1) : SimI OKX (F5_takePart_139 h 46 s0i u1) (G5_takePart_139 (rd h) s0 u1) := by
  subst es0
  unfold F5_takePart_139 G5_takePart_139
  refine sm_VI (S2_add H hu1 rfl qs0) fun ho1 Ho1 => ?_
  refine sm_wt (x_pZ_5_4 Ho1 l3_0 (by decide)) fun h3 Hh3 => ?_
  exact sm_rz Hh3 l3_1 (by decide)
theorem S5_takePart_110 {h : PH} (H : OKX h) {a1 : Nat} (ha1 : A2 a1) {x2i : Int32} {x2 : Int} (ex2 : x2i = Z3 x2) (qx2 : r3 x2) {x3i : Int32} {x3 : Int} (ex3 : x3i = Z3 x3) (qx3 : r3 x3) : SimI OKX (F5_takePart_110 h 46 a1 x2i x3i) (G5_takePart_110 (rd h) a1 x2 x3) := by
  subst ex2 ex3
  unfold F5_takePart_110 G5_takePart_110
  refine sm_II (S5_countKnot H) fun vo1 ho1 Ho1 ro1 => ?_
  refine sm_if (z3_eq rfl l3_0 ro1 lr3_0) ?_ ?_
  · exact sm_rz Ho1 l3_0 (by decide)
  · refine sm_if (z3_eq rfl l3_0 qx3 lr3_0) ?_ ?_
    · refine sm_rd (x_gR_5_0 Ho1) ?_
      refine sm_rd (x_gI_7_6 Ho1).1 ?_
      exact S5_takePart_139 Ho1 rfl ((x_gI_7_6 Ho1).2) ha1
    · refine sg3I fun c1 => ?_
      exact S5_takePart_139 Ho1 (z3_add l3_10000 rfl) c1 ha1
theorem S5_takePart_87 {h : PH} (H : OKX h) {a1 : Nat} (ha1 : A2 a1) {x2i : Int32} {x2 : Int} (ex2 : x2i = Z3 x2) (qx2 : r3 x2) {x3i : Int32} {x3 : Int} (ex3 : x3i = Z3 x3) (qx3 : r3 x3) : SimI OKX (F5_takePart_87 h 46 a1 x2i x3i) (G5_takePart_87 (rd h) a1 x2 x3) := by
  subst ex2 ex3
  unfold F5_takePart_87 G5_takePart_87
  refine sm_rd (x_gR_5_0 H) ?_
  refine sm_rd (x_gI_7_6 H).1 ?_
  refine sm_if (z3_le rfl l3_9999 (x_gI_7_6 H).2 lr3_9999) ?_ ?_
  · exact S5_takePart_110 H ha1 rfl qx2 rfl qx3
  · refine sm_if (z3_eq rfl l3_0 qx3 lr3_0) ?_ ?_
    · refine sm_II (S5_refuse H l3_2 lr3_2) fun vo7 ho7 Ho7 ro7 => ?_
      refine sgbI fun c1 => ?_
      exact sm_rz Ho7 rfl c1
    · exact S5_takePart_110 H ha1 rfl qx2 rfl qx3
theorem S5_takePart_70 {h : PH} (H : OKX h) {a1 : Nat} (ha1 : A2 a1) {x2i : Int32} {x2 : Int} (ex2 : x2i = Z3 x2) (qx2 : r3 x2) {s0i : Int32} {s0 : Int} (es0 : s0i = Z3 s0) (qs0 : r3 s0) : SimI OKX (F5_takePart_70 h 46 a1 x2i s0i) (G5_takePart_70 (rd h) a1 x2 s0) := by
  subst ex2 es0
  unfold F5_takePart_70 G5_takePart_70
  refine sm_if (z3_eq rfl l3_25 qx2 lr3_25) ?_ ?_
  · exact S5_takePart_87 H ha1 rfl qx2 rfl qs0
  · refine sm_if (z3_eq rfl l3_0 qs0 lr3_0) ?_ ?_
    · refine sm_II (S5_refuse H l3_1 lr3_1) fun vo3 ho3 Ho3 ro3 => ?_
      refine sgbI fun c1 => ?_
      exact sm_rz Ho3 rfl c1
    · exact S5_takePart_87 H ha1 rfl qx2 rfl qs0
theorem S5_takePart_69 {h : PH} (H : OKX h) {a1 : Nat} (ha1 : A2 a1) {x2i : Int32} {x2 : Int} (ex2 : x2i = Z3 x2) (qx2 : r3 x2) : SimI OKX (F5_takePart_69 h 46 a1 x2i) (G5_takePart_69 (rd h) a1 x2) := by
  subst ex2
  unfold F5_takePart_69 G5_takePart_69
  exact S5_takePart_70 H ha1 rfl qx2 l3_0 lr3_0
theorem S5_takePart_53 {h : PH} (H : OKX h) {a1 : Nat} (ha1 : A2 a1) {x2i : Int32} {x2 : Int} (ex2 : x2i = Z3 x2) (qx2 : r3 x2) : SimI OKX (F5_takePart_53 h 46 a1 x2i) (G5_takePart_53 (rd h) a1 x2) := by
  subst ex2
  unfold F5_takePart_53 G5_takePart_53
  refine sm_if (z3_lt rfl l3_18 qx2 lr3_18) ?_ ?_
  · exact S5_takePart_69 H ha1 rfl qx2
  · refine sm_if (z3_le l3_24 rfl lr3_24 qx2) ?_ ?_
    · exact S5_takePart_69 H ha1 rfl qx2
    · exact S5_takePart_70 H ha1 rfl qx2 l3_1 lr3_1
theorem S5_takePart_0 {h : PH} (H : OKX h) {a1 : Nat} (ha1 : A2 a1) : SimI OKX (F5_takePart_0 h 46 a1) (G5_takePart_0 (rd h) a1) := by
  unfold F5_takePart_0 G5_takePart_0
  refine sm_rd (x_gR_5_0 H) ?_
  refine sm_rd (x_gI_7_4 H).1 ?_
  refine sm_if (z3_eq rfl l3_36 (x_gI_7_4 H).2 lr3_36) ?_ ?_
  · refine sm_II (S5_takeOpen H) fun vo16 ho16 Ho16 ro16 => ?_
    refine sgbI fun c1 => ?_
    exact sm_rz Ho16 rfl c1
  · refine sm_if (z3_eq rfl l3_15 (x_gI_7_4 H).2 lr3_15) ?_ ?_
    · refine sm_rd (x_gI_5_5 H).1 ?_
      refine sm_if (z3_eq rfl l3_0 (x_gI_5_5 H).2 lr3_0) ?_ ?_
      · exact S5_takePart_53 H ha1 rfl ((x_gI_7_4 H).2)
      · refine sm_II (S5_countKnot H) fun vo10 ho10 Ho10 ro10 => ?_
        refine sm_if (z3_eq rfl l3_0 ro10 lr3_0) ?_ ?_
        · exact sm_rz Ho10 l3_0 (by decide)
        · refine sm_II (S5_letWait Ho10 rfl ((x_gI_7_4 H).2)) fun vo13 ho13 Ho13 ro13 => ?_
          refine sm_if (z3_eq rfl l3_0 ro13 lr3_0) ?_ ?_
          · exact sm_rz Ho13 l3_0 (by decide)
          · exact sm_rz Ho13 l3_1 (by decide)
    · exact S5_takePart_53 H ha1 rfl ((x_gI_7_4 H).2)
theorem S5_takePart {h : PH} (H : OKX h) {a1 : Nat} (ha1 : A2 a1) : SimI OKX (F5_takePart h 46 a1) (G5_takePart (rd h) a1) := by
  unfold F5_takePart G5_takePart
  refine sm_cd (x_ok_5 H) ?_
  exact S5_takePart_0 H ha1
theorem S5_takeClose_0 {h : PH} (H : OKX h) {a1 : Nat} (ha1 : A2 a1) : SimI OKX (F5_takeClose_0 h 46 a1) (G5_takeClose_0 (rd h) a1) := by
  unfold F5_takeClose_0 G5_takeClose_0
  refine sm_rd (x_gI_5_3 H).1 ?_
  refine sm_if (z3_eq rfl l3_0 (x_gI_5_3 H).2 lr3_0) ?_ ?_
  · refine sm_II (S5_refuse H l3_1 lr3_1) fun vo17 ho17 Ho17 ro17 => ?_
    refine sgbI fun c1 => ?_
    exact sm_rz Ho17 rfl c1
  · refine sm_VI (S5_release H ha1 l3_1 lr3_1) fun ho4 Ho4 => ?_
    refine sm_rd (x_gI_5_3 Ho4).1 ?_
    refine sg3I fun c2 => ?_
    refine sm_wt (x_pI_5_3 Ho4 (z3_sub rfl l3_1) c2) fun h8 Hh8 => ?_
    refine sm_rd (x_gI_5_2 Hh8).1 ?_
    refine sm_if (z3_le rfl l3_0 (x_gI_5_2 Hh8).2 lr3_0) ?_ ?_
    · exact sm_rz Hh8 l3_1 (by decide)
    · refine sm_rd (x_gI_5_2 Hh8).1 ?_
      refine sg3I fun c3 => ?_
      refine sm_wt (x_pI_5_2 Hh8 (z3_sub rfl l3_1) c3) fun h15 Hh15 => ?_
      exact sm_rz Hh15 l3_1 (by decide)
theorem S5_takeClose {h : PH} (H : OKX h) {a1 : Nat} (ha1 : A2 a1) : SimI OKX (F5_takeClose h 46 a1) (G5_takeClose (rd h) a1) := by
  unfold F5_takeClose G5_takeClose
  refine sm_cd (x_ok_5 H) ?_
  exact S5_takeClose_0 H ha1
theorem S5_waitsForLike_0 {h : PH} (H : OKX h) : SimI OKX (F5_waitsForLike_0 h 46) (G5_waitsForLike_0 (rd h)) := by
  unfold F5_waitsForLike_0 G5_waitsForLike_0
  refine sm_rd (x_gI_5_2 H).1 ?_
  refine sm_if (z3_le rfl l3_0 (x_gI_5_2 H).2 lr3_0) ?_ ?_
  · exact sm_rz H l3_0 (by decide)
  · refine sm_rd (x_gR_5_1 H) ?_
    refine sm_rd (x_gI_5_2 H).1 ?_
    refine sgxI fun c1 => ?_
    refine sm_rd (x_aI_5_1 H (z3_sub rfl l3_1) c1).1 ?_
    refine sm_II (S5_strengthOf H rfl ((x_aI_5_1 H (z3_sub rfl l3_1) c1).2)) fun vo10 ho10 Ho10 ro10 => ?_
    refine sm_II (S5_strengthOf Ho10 l3_28 lr3_28) fun vo12 ho12 Ho12 ro12 => ?_
    refine sm_if (z3_eq rfl rfl ro10 ro12) ?_ ?_
    · exact sm_rz Ho12 l3_1 (by decide)
    · exact sm_rz Ho12 l3_0 (by decide)
theorem S5_waitsForLike {h : PH} (H : OKX h) : SimI OKX (F5_waitsForLike h 46) (G5_waitsForLike (rd h)) := by
  unfold F5_waitsForLike G5_waitsForLike
  refine sm_cd (x_ok_5 H) ?_
  exact S5_waitsForLike_0 H
theorem S5_takeJoint_35 {h : PH} (H : OKX h) : SimI OKX (F5_takeJoint_35 h 46) (G5_takeJoint_35 (rd h)) := by
  unfold F5_takeJoint_35 G5_takeJoint_35
  refine sm_II (S5_refuse H l3_1 lr3_1) fun vo1 ho1 Ho1 ro1 => ?_
  refine sgbI fun c1 => ?_
  exact sm_rz Ho1 rfl c1
theorem S5_takeJoint_115 {h : PH} (H : OKX h) {x2i : Int32} {x2 : Int} (ex2 : x2i = Z3 x2) (qx2 : r3 x2) {s0i : Int32} {s0 : Int} (es0 : s0i = Z3 s0) (qs0 : r3 s0) : SimI OKX (F5_takeJoint_115 h 46 x2i s0i 46) (G5_takeJoint_115 (rd h) x2 s0) := by
  subst ex2 es0
  unfold F5_takeJoint_115 G5_takeJoint_115
  refine sgbI fun c1 => ?_
  refine sm_wt (x_pZ_5_5 H rfl c1) fun h1 Hh1 => ?_
  refine sm_II (S5_countKnot Hh1) fun vo3 ho3 Ho3 ro3 => ?_
  refine sm_if (z3_eq rfl l3_0 ro3 lr3_0) ?_ ?_
  · exact sm_rz Ho3 l3_0 (by decide)
  · refine sm_II (S5_letWait Ho3 rfl qx2) fun vo6 ho6 Ho6 ro6 => ?_
    refine sm_if (z3_eq rfl l3_0 ro6 lr3_0) ?_ ?_
    · exact sm_rz Ho6 l3_0 (by decide)
    · exact sm_rz Ho6 l3_1 (by decide)
theorem S5_takeJoint_110 {h : PH} (H : OKX h) {x2i : Int32} {x2 : Int} (ex2 : x2i = Z3 x2) (qx2 : r3 x2) : SimI OKX (F5_takeJoint_110 h 46 x2i 46) (G5_takeJoint_110 (rd h) x2) := by
  subst ex2
  unfold F5_takeJoint_110 G5_takeJoint_110
  exact S5_takeJoint_115 H rfl qx2 l3_1 lr3_1
theorem S5_takeJoint_92 {h : PH} (H : OKX h) {x2i : Int32} {x2 : Int} (ex2 : x2i = Z3 x2) (qx2 : r3 x2) : SimI OKX (F5_takeJoint_92 h 46 x2i) (G5_takeJoint_92 (rd h) x2) := by
  subst ex2
  unfold F5_takeJoint_92 G5_takeJoint_92
  refine sm_wt (x_pZ_5_4 H l3_1 (by decide)) fun h1 Hh1 => ?_
  refine sm_if (z3_eq rfl l3_16 qx2 lr3_16) ?_ ?_
  · exact S5_takeJoint_110 Hh1 rfl qx2
  · refine sm_if (z3_eq rfl l3_17 qx2 lr3_17) ?_ ?_
    · exact S5_takeJoint_110 Hh1 rfl qx2
    · exact S5_takeJoint_115 Hh1 rfl qx2 l3_0 lr3_0
theorem S5_takeJoint_71 {h : PH} (H : OKX h) {x2i : Int32} {x2 : Int} (ex2 : x2i = Z3 x2) (qx2 : r3 x2) {x4i : Int32} {x4 : Int} (ex4 : x4i = Z3 x4) (qx4 : r3 x4) {s0i : Int32} {s0 : Int} (es0 : s0i = Z3 s0) (qs0 : r3 s0) {u1 : Nat} (hu1 : A2 u1) : SimI OKX (F5_takeJoint_71 h 46 x2i x4i s0i u1 46) (G5_takeJoint_71 (rd h) x2 x4 s0 u1) := by
  subst ex2 ex4 es0
  unfold F5_takeJoint_71 G5_takeJoint_71
  refine sm_VI (S5_release H hu1 rfl qs0) fun ho1 Ho1 => ?_
  refine sm_if (z3_eq rfl l3_0 qx4 lr3_0) ?_ ?_
  · exact S5_takeJoint_92 Ho1 rfl qx2
  · refine sm_II (S5_waitsForLike Ho1) fun vo4 ho4 Ho4 ro4 => ?_
    refine sm_if (z3_eq rfl l3_0 ro4 lr3_0) ?_ ?_
    · exact S5_takeJoint_92 Ho4 rfl qx2
    · refine sm_II (S5_refuse Ho4 l3_1 lr3_1) fun vo7 ho7 Ho7 ro7 => ?_
      refine sgbI fun c1 => ?_
      exact sm_rz Ho7 rfl c1
theorem S5_takeJoint_55 {h : PH} (H : OKX h) {a1 : Nat} (ha1 : A2 a1) {x2i : Int32} {x2 : Int} (ex2 : x2i = Z3 x2) (qx2 : r3 x2) {x3i : Int32} {x3 : Int} (ex3 : x3i = Z3 x3) (qx3 : r3 x3) {s0i : Int32} {s0 : Int} (es0 : s0i = Z3 s0) (qs0 : r3 s0) : SimI OKX (F5_takeJoint_55 h 46 a1 x2i x3i s0i) (G5_takeJoint_55 (rd h) a1 x2 x3 s0) := by
  subst ex2 ex3 es0
  unfold F5_takeJoint_55 G5_takeJoint_55
  refine sm_if (z3_eq rfl l3_0 qs0 lr3_0) ?_ ?_
  · exact S5_takeJoint_71 H rfl qx2 rfl qs0 rfl qx3 ha1
  · refine sg3I fun c1 => ?_
    exact S5_takeJoint_71 H rfl qx2 rfl qs0 (z3_add rfl l3_1) c1 ha1
theorem S5_takeJoint_0 {h : PH} (H : OKX h) {a1 : Nat} (ha1 : A2 a1) : SimI OKX (F5_takeJoint_0 h 46 a1) (G5_takeJoint_0 (rd h) a1) := by
  unfold F5_takeJoint_0 G5_takeJoint_0
  refine sm_rd (x_gR_5_0 H) ?_
  refine sm_rd (x_gI_7_4 H).1 ?_
  refine sm_if (z3_eq rfl l3_37 (x_gI_7_4 H).2 lr3_37) ?_ ?_
  · refine sm_II (S5_takeClose H ha1) fun vo13 ho13 Ho13 ro13 => ?_
    refine sgbI fun c1 => ?_
    exact sm_rz Ho13 rfl c1
  · refine sm_II (S5_strengthOf H rfl ((x_gI_7_4 H).2)) fun vo6 ho6 Ho6 ro6 => ?_
    refine sm_if (z3_eq rfl l3_0 ro6 lr3_0) ?_ ?_
    · exact S5_takeJoint_35 Ho6
    · refine sm_if (z3_eq rfl l3_15 (x_gI_7_4 H).2 lr3_15) ?_ ?_
      · exact S5_takeJoint_35 Ho6
      · refine sm_II (S5_strengthOf Ho6 l3_28 lr3_28) fun vo10 ho10 Ho10 ro10 => ?_
        refine sm_if (z3_eq rfl rfl ro6 ro10) ?_ ?_
        · exact S5_takeJoint_55 Ho10 ha1 rfl ((x_gI_7_4 H).2) rfl ro6 l3_1 lr3_1
        · exact S5_takeJoint_55 Ho10 ha1 rfl ((x_gI_7_4 H).2) rfl ro6 l3_0 lr3_0
theorem S5_takeJoint {h : PH} (H : OKX h) {a1 : Nat} (ha1 : A2 a1) : SimI OKX (F5_takeJoint h 46 a1) (G5_takeJoint (rd h) a1) := by
  unfold F5_takeJoint G5_takeJoint
  refine sm_cd (x_ok_5 H) ?_
  exact S5_takeJoint_0 H ha1
theorem S5_readLaw_81 {k33 : PH → Nat → Nat → Int32 → Option (Int32 × PH)} {kk33 : Mem → Nat → Int → Option (Int × Mem)} (hk33 : ∀ {h : PH} (_ : OKX h) {a2 : Nat} (_ : A2 a2) {x3 : Int32} {y3 : Int} (_ : x3 = Z3 y3) (_ : r3 y3), SimI OKX (k33 h 46 a2 x3) (kk33 (rd h) a2 y3)) {h : PH} (H : OKX h) {a1 : Nat} (ha1 : A2 a1) {x2i : Int32} {x2 : Int} (ex2 : x2i = Z3 x2) (qx2 : r3 x2) : SimI OKX (F5_readLaw_81 k33 h 46 a1 x2i) (G5_readLaw_81 kk33 (rd h) a1 x2) := by
  subst ex2
  unfold F5_readLaw_81 G5_readLaw_81
  refine sm_rd (x_gI_5_4 H).1 ?_
  refine sm_if (z3_eq rfl l3_0 (x_gI_5_4 H).2 lr3_0) ?_ ?_
  · refine sm_II (S5_takeJoint H ha1) fun vo4 ho4 Ho4 ro4 => ?_
    refine sm_if (z3_eq rfl l3_0 ro4 lr3_0) ?_ ?_
    · exact sm_rz Ho4 l3_0 (by decide)
    · refine sg3I fun c1 => ?_
      exact hk33 Ho4 ha1 (z3_add rfl l3_1) c1
  · refine sm_II (S5_takePart H ha1) fun vo7 ho7 Ho7 ro7 => ?_
    refine sm_if (z3_eq rfl l3_0 ro7 lr3_0) ?_ ?_
    · exact sm_rz Ho7 l3_0 (by decide)
    · refine sg3I fun c2 => ?_
      exact hk33 Ho7 ha1 (z3_add rfl l3_1) c2
theorem S5_readLaw_33 (n : Nat) : ∀ {h : PH} (H : OKX h) {a1 : Nat} (ha1 : A2 a1) {x2i : Int32} {x2 : Int} (ex2 : x2i = Z3 x2) (qx2 : r3 x2), SimI OKX (F5_readLaw_33 n h 46 a1 x2i) (G5_readLaw_33 n (rd h) a1 x2) := by
  induction n with
  | zero => intros; exact smI_none _
  | succ n ih =>
    intro h H a1 ha1 x2i x2 ex2 qx2
    subst ex2
    rw [F5_readLaw_33, G5_readLaw_33]
    refine sm_if (z3_lt l3_700 rfl lr3_700 qx2) ?_ ?_
    · exact sm_rz H l3_0 (by decide)
    · refine sm_rd (x_gR_5_0 H) ?_
      refine sm_VI (S7_advance H) fun ho4 Ho4 => ?_
      refine sm_rd (x_gI_5_4 Ho4).1 ?_
      refine sm_if (z3_eq rfl l3_0 (x_gI_5_4 Ho4).2 lr3_0) ?_ ?_
      · refine sm_rd (x_gI_5_3 Ho4).1 ?_
        refine sm_if (z3_eq rfl l3_0 (x_gI_5_3 Ho4).2 lr3_0) ?_ ?_
        · refine sm_rd (x_gR_5_0 Ho4) ?_
          refine sm_rd (x_gI_7_4 Ho4).1 ?_
          refine sm_if (z3_eq rfl l3_38 (x_gI_7_4 Ho4).2 lr3_38) ?_ ?_
          · refine sm_VI (S5_release Ho4 ha1 l3_1 lr3_1) fun ho17 Ho17 => ?_
            exact sm_rz Ho17 l3_1 (by decide)
          · exact S5_readLaw_81 (@fun _ H _ ha1 _ _ ex2 qx2 => ih H ha1 ex2 qx2) Ho4 ha1 rfl qx2
        · exact S5_readLaw_81 (@fun _ H _ ha1 _ _ ex2 qx2 => ih H ha1 ex2 qx2) Ho4 ha1 rfl qx2
      · exact S5_readLaw_81 (@fun _ H _ ha1 _ _ ex2 qx2 => ih H ha1 ex2 qx2) Ho4 ha1 rfl qx2
theorem S5_readLaw_0 {h : PH} (H : OKX h) : SimI OKX (F5_readLaw_0 h 46) (G5_readLaw_0 (rd h)) := by
  unfold F5_readLaw_0 G5_readLaw_0
  refine sm_RI (f0 := fun h => rz 0 h) (f1 := fun r3 h => ((pI h 46 5 2 0).bind fun h5 => (pI h5 46 5 3 0).bind fun h7 => (pZ h7 46 5 4 1).bind fun h9 => (pZ h9 46 5 5 1).bind fun h11 => F5_readLaw_33 1024 h11 46 r3 0)) (g0 := fun m => some (0, m)) (g1 := fun r m => wt (up m 46 2 0) fun m5 => wt (up m5 46 3 0) fun m7 => wt (up m7 46 4 1) fun m9 => wt (up m9 46 5 1) fun m11 => G5_readLaw_33 1024 m11 r 0) (S5_readKind H) (fun h H => ?_) (fun r h H hr => ?_)
  · exact sm_rz H l3_0 (by decide)
  · refine sm_wt (x_pI_5_2 H l3_0 lr3_0) fun h5 H5 => ?_
    refine sm_wt (x_pI_5_3 H5 l3_0 lr3_0) fun h7 H7 => ?_
    refine sm_wt (x_pZ_5_4 H7 l3_1 (by decide)) fun h9 H9 => ?_
    refine sm_wt (x_pZ_5_5 H9 l3_1 (by decide)) fun h11 H11 => ?_
    exact S5_readLaw_33 1024 H11 hr l3_0 lr3_0
theorem S5_readLaw {h : PH} (H : OKX h) : SimI OKX (F5_readLaw h 46) (G5_readLaw (rd h)) := by
  unfold F5_readLaw G5_readLaw
  refine sm_cd (x_ok_5 H) ?_
  exact S5_readLaw_0 H
theorem S5_readLine_0 {h : PH} (H : OKX h) : SimI OKX (F5_readLine_0 h 46) (G5_readLine_0 (rd h)) := by
  unfold F5_readLine_0 G5_readLine_0
  refine sm_rd (x_gR_5_0 H) ?_
  refine sm_rd (x_gI_7_4 H).1 ?_
  refine sm_if (z3_eq rfl l3_0 (x_gI_7_4 H).2 lr3_0) ?_ ?_
  · refine sm_II (S5_readSea H) fun vo6 ho6 Ho6 ro6 => ?_
    refine sgbI fun c1 => ?_
    exact sm_rz Ho6 rfl c1
  · refine sm_if (z3_eq rfl l3_1 (x_gI_7_4 H).2 lr3_1) ?_ ?_
    · refine sm_II (S5_readPeak H) fun vo9 ho9 Ho9 ro9 => ?_
      refine sgbI fun c2 => ?_
      exact sm_rz Ho9 rfl c2
    · refine sm_if (z3_eq rfl l3_2 (x_gI_7_4 H).2 lr3_2) ?_ ?_
      · refine sm_II (S5_readSurfer H) fun vo12 ho12 Ho12 ro12 => ?_
        refine sgbI fun c3 => ?_
        exact sm_rz Ho12 rfl c3
      · refine sm_if (z3_eq rfl l3_3 (x_gI_7_4 H).2 lr3_3) ?_ ?_
        · refine sm_II (S5_readSet H) fun vo15 ho15 Ho15 ro15 => ?_
          refine sgbI fun c4 => ?_
          exact sm_rz Ho15 rfl c4
        · refine sm_if (z3_eq rfl l3_4 (x_gI_7_4 H).2 lr3_4) ?_ ?_
          · refine sm_II (S5_readBank H) fun vo18 ho18 Ho18 ro18 => ?_
            refine sgbI fun c5 => ?_
            exact sm_rz Ho18 rfl c5
          · refine sm_if (z3_eq rfl l3_5 (x_gI_7_4 H).2 lr3_5) ?_ ?_
            · refine sm_II (S5_readRule H) fun vo21 ho21 Ho21 ro21 => ?_
              refine sgbI fun c6 => ?_
              exact sm_rz Ho21 rfl c6
            · refine sm_if (z3_eq rfl l3_6 (x_gI_7_4 H).2 lr3_6) ?_ ?_
              · refine sm_II (S5_readSeed H) fun vo24 ho24 Ho24 ro24 => ?_
                refine sgbI fun c7 => ?_
                exact sm_rz Ho24 rfl c7
              · refine sm_if (z3_eq rfl l3_7 (x_gI_7_4 H).2 lr3_7) ?_ ?_
                · refine sm_II (S5_readLaw H) fun vo27 ho27 Ho27 ro27 => ?_
                  refine sgbI fun c8 => ?_
                  exact sm_rz Ho27 rfl c8
                · refine sm_II (S5_refuse H l3_1 lr3_1) fun vo29 ho29 Ho29 ro29 => ?_
                  refine sgbI fun c9 => ?_
                  exact sm_rz Ho29 rfl c9
theorem S5_readLine {h : PH} (H : OKX h) : SimI OKX (F5_readLine h 46) (G5_readLine (rd h)) := by
  unfold F5_readLine G5_readLine
  refine sm_cd (x_ok_5 H) ?_
  exact S5_readLine_0 H
theorem S5_readAll_44 (n : Nat) : ∀ {h : PH} (H : OKX h) {x4i : Int32} {x4 : Int} (ex4 : x4i = Z3 x4) (qx4 : r3 x4), SimI OKX (F5_readAll_44 n h 46 x4i) (G5_readAll_44 n (rd h) x4) := by
  induction n with
  | zero => intros; exact smI_none _
  | succ n ih =>
    intro h H x4i x4 ex4 qx4
    subst ex4
    rw [F5_readAll_44, G5_readAll_44]
    refine sm_if (z3_lt l3_700 rfl lr3_700 qx4) ?_ ?_
    · exact sm_rz H l3_1 (by decide)
    · refine sm_rd (x_gR_5_0 H) ?_
      refine sm_VI (S7_advance H) fun ho4 Ho4 => ?_
      refine sm_rd (x_gR_5_0 Ho4) ?_
      refine sm_rd (x_gI_7_4 Ho4).1 ?_
      refine sm_if (z3_eq rfl l3_39 (x_gI_7_4 Ho4).2 lr3_39) ?_ ?_
      · exact sm_rz Ho4 l3_1 (by decide)
      · refine sm_II (S5_readLine Ho4) fun vo11 ho11 Ho11 ro11 => ?_
        refine sm_if (z3_eq rfl l3_0 ro11 lr3_0) ?_ ?_
        · exact sm_rz Ho11 l3_0 (by decide)
        · refine sm_rd (x_gR_5_10 Ho11) ?_
          refine sm_rd (x_gI_8_12 Ho11 (x_v_5_10 Ho11)).1 ?_
          refine sg3I fun c1 => ?_
          refine sm_wt (x_pI_8_12 Ho11 (x_v_5_10 Ho11) (z3_add rfl l3_1) c1) fun h18 Hh18 => ?_
          refine sg3I fun c2 => ?_
          exact ih Hh18 (z3_add rfl l3_1) c2
theorem S5_readAll_0 {h : PH} (H : OKX h) {x2i : Int32} {x2 : Int} (ex2 : x2i = Z3 x2) (qx2 : r3 x2) {a3 : Nat} (ha3 : A8 a3) : SimI OKX (F5_readAll_0 h 46 1 x2i a3) (G5_readAll_0 (rd h) x2 a3) := by
  subst ex2
  unfold F5_readAll_0 G5_readAll_0
  refine sm_wt (x_pR_5_10 H ha3) fun h1 Hh1 => ?_
  refine sm_rd (x_gR_5_10 Hh1) ?_
  refine sm_VI (S8_forget Hh1 (x_v_5_10 Hh1)) fun ho5 Ho5 => ?_
  refine sm_wt (x_pI_5_8 Ho5 l3_0 lr3_0) fun h7 Hh7 => ?_
  refine sm_wt (x_pI_5_9 Hh7 l3_m1 lr3_m1) fun h9 Hh9 => ?_
  refine sm_wt (x_pI_5_6 Hh9 l3_0 lr3_0) fun h11 Hh11 => ?_
  refine sm_wt (x_pZ_5_7 Hh11 l3_0 (by decide)) fun h13 Hh13 => ?_
  refine sm_rd (x_gR_5_0 Hh13) ?_
  refine sm_VI (S7_begin Hh13 rfl qx2) fun ho17 Ho17 => ?_
  exact S5_readAll_44 1024 Ho17 l3_0 lr3_0
theorem S5_readAll {h : PH} (H : OKX h) {x2i : Int32} {x2 : Int} (ex2 : x2i = Z3 x2) (qx2 : r3 x2) {a3 : Nat} (ha3 : A8 a3) : SimI OKX (F5_readAll h 46 1 x2i a3) (G5_readAll (rd h) x2 a3) := by
  subst ex2
  unfold F5_readAll G5_readAll
  refine sm_cd (x_ok_5 H) ?_
  exact S5_readAll_0 H rfl qx2 ha3
theorem S6_awayValue_0 {h : PH} (H : OKX h) {a0 : Nat} (ha0 : A6 a0) {x1i : Int32} {x1 : Int} (ex1 : x1i = Z3 x1) (qx1 : r3 x1) {x2i : Int32} {x2 : Int} (ex2 : x2i = Z3 x2) (qx2 : r3 x2) : SimJ OKX (F6_awayValue_0 h a0 x1i x2i) (G6_awayValue_0 (rd h) a0 x1 x2) := by
  subst ex1 ex2
  unfold F6_awayValue_0 G6_awayValue_0
  refine sm_VJ (S6_nameAway H ha0 rfl qx1 rfl qx2) fun ho1 Ho1 => ?_
  refine sm_rd (x_gR_6_0 Ho1 ha0) ?_
  refine sm_rd (x_gR_8_11 Ho1 (x_v_6_0 Ho1 ha0)) ?_
  refine sm_rd (x_aR Ho1 (ao_8_11 (x_v_6_0 Ho1 ha0)) l3_2 (by decide)) ?_
  refine sm_rd (x_gR_6_4 Ho1 ha0) ?_
  refine sm_rd (x_gR_6_5 Ho1 ha0) ?_
  refine sm_JJ (S2_valueFor Ho1 (x_aRp (ao_8_11 (x_v_6_0 Ho1 ha0)) (by decide)) (ao_6_4 ha0) (ao_6_5 ha0)) fun vo13 ho13 Ho13 ro13 => ?_
  exact sm_retJ Ho13 rfl ro13
theorem S6_awayValue {h : PH} (H : OKX h) {a0 : Nat} (ha0 : A6 a0) {x1i : Int32} {x1 : Int} (ex1 : x1i = Z3 x1) (qx1 : r3 x1) {x2i : Int32} {x2 : Int} (ex2 : x2i = Z3 x2) (qx2 : r3 x2) : SimJ OKX (F6_awayValue h a0 x1i x2i) (G6_awayValue (rd h) a0 x1 x2) := by
  subst ex1 ex2
  unfold F6_awayValue G6_awayValue
  refine sm_cd (x_ok_6 H ha0) ?_
  exact S6_awayValue_0 H ha0 rfl qx1 rfl qx2
theorem S6_hadOfSet_3 (n : Nat) : ∀ {h : PH} (H : OKX h) {a0 : Nat} (ha0 : A6 a0) {a1 : Nat} (ha1 : A4 a1) {x2i : Int32} {x2 : Int} (ex2 : x2i = Z3 x2) (qx2 : r3 x2) {x3i : Int32} {x3 : Int} (ex3 : x3i = Z3 x3) (qx3 : r3 x3) {x4i : Int32} {x4 : Int} (ex4 : x4i = Z3 x4) (qx4 : r3 x4), SimI OKX (F6_hadOfSet_3 n h a0 a1 x2i x3i x4i) (G6_hadOfSet_3 n (rd h) a0 a1 x2 x3 x4) := by
  induction n with
  | zero => intros; exact smI_none _
  | succ n ih =>
    intro h H a0 ha0 a1 ha1 x2i x2 ex2 qx2 x3i x3 ex3 qx3 x4i x4 ex4 qx4
    subst ex2 ex3 ex4
    rw [F6_hadOfSet_3, G6_hadOfSet_3]
    refine sm_rd (x_gR_6_0 H ha0) ?_
    refine sm_rd (x_gR_8_5 H (x_v_6_0 H ha0)) ?_
    refine sm_rd (x_gI_10_1 H (ao_8_5 (x_v_6_0 H ha0))).1 ?_
    refine sm_if (z3_le rfl rfl (x_gI_10_1 H (ao_8_5 (x_v_6_0 H ha0))).2 qx4) ?_ ?_
    · exact sm_rz H l3_0 (by decide)
    · refine sm_rd (x_gR_6_0 H ha0) ?_
      refine sm_rd (x_gR_8_5 H (x_v_6_0 H ha0)) ?_
      refine sm_rd (x_gR_10_6 H (ao_8_5 (x_v_6_0 H ha0))) ?_
      refine sgxI fun c1 => ?_
      refine sm_rd (x_aI_10_6 H (ao_10_6 (ao_8_5 (x_v_6_0 H ha0))) rfl c1).1 ?_
      refine sm_if (z3_eq rfl rfl (x_aI_10_6 H (ao_10_6 (ao_8_5 (x_v_6_0 H ha0))) rfl c1).2 qx3) ?_ ?_
      · refine sm_rd (x_gR_4_10 H ha1) ?_
        refine sgxI fun c2 => ?_
        refine sm_rd (x_aI_4_10 H (ao_4_10 ha1) rfl c2).1 ?_
        refine sm_if (z3_eq rfl rfl (x_aI_4_10 H (ao_4_10 ha1) rfl c2).2 qx2) ?_ ?_
        · exact sm_rz H l3_1 (by decide)
        · refine sg3I fun c3 => ?_
          exact ih H ha0 ha1 rfl qx2 rfl qx3 (z3_add rfl l3_1) c3
      · refine sg3I fun c4 => ?_
        exact ih H ha0 ha1 rfl qx2 rfl qx3 (z3_add rfl l3_1) c4
theorem S6_hadOfSet_0 {h : PH} (H : OKX h) {a0 : Nat} (ha0 : A6 a0) {a1 : Nat} (ha1 : A4 a1) {x2i : Int32} {x2 : Int} (ex2 : x2i = Z3 x2) (qx2 : r3 x2) {x3i : Int32} {x3 : Int} (ex3 : x3i = Z3 x3) (qx3 : r3 x3) : SimI OKX (F6_hadOfSet_0 h a0 a1 x2i x3i) (G6_hadOfSet_0 (rd h) a0 a1 x2 x3) := by
  subst ex2 ex3
  unfold F6_hadOfSet_0 G6_hadOfSet_0
  exact S6_hadOfSet_3 1024 H ha0 ha1 rfl qx2 rfl qx3 l3_0 lr3_0
theorem S6_hadOfSet {h : PH} (H : OKX h) {a0 : Nat} (ha0 : A6 a0) {a1 : Nat} (ha1 : A4 a1) {x2i : Int32} {x2 : Int} (ex2 : x2i = Z3 x2) (qx2 : r3 x2) {x3i : Int32} {x3 : Int} (ex3 : x3i = Z3 x3) (qx3 : r3 x3) : SimI OKX (F6_hadOfSet h a0 a1 x2i x3i) (G6_hadOfSet (rd h) a0 a1 x2 x3) := by
  subst ex2 ex3
  unfold F6_hadOfSet G6_hadOfSet
  refine sm_cd (x_ok_6 H ha0) ?_
  exact S6_hadOfSet_0 H ha0 ha1 rfl qx2 rfl qx3
theorem S6_keyFor_0 {h : PH} (H : OKX h) {a0 : Nat} (ha0 : A6 a0) {a1 : Nat} (ha1 : A4 a1) {x2i : Int32} {x2 : Int} (ex2 : x2i = Z3 x2) (qx2 : r3 x2) {x3i : Int32} {x3 : Int} (ex3 : x3i = Z3 x3) (qx3 : r3 x3) : SimI OKX (F6_keyFor_0 h a0 a1 x2i x3i) (G6_keyFor_0 (rd h) a0 a1 x2 x3) := by
  subst ex2 ex3
  unfold F6_keyFor_0 G6_keyFor_0
  refine sm_rd (x_gR_4_5 H ha1) ?_
  refine sgxI fun c1 => ?_
  refine sm_rd (x_aI_4_5 H (ao_4_5 ha1) rfl c1).1 ?_
  refine sm_II (S6_farOf H ha0 rfl ((x_aI_4_5 H (ao_4_5 ha1) rfl c1).2) rfl qx3) fun vo5 ho5 Ho5 ro5 => ?_
  refine sm_rd (x_gI_4_1 Ho5 ha1).1 ?_
  refine sm_if (z3_eq rfl l3_1 (x_gI_4_1 Ho5 ha1).2 lr3_1) ?_ ?_
  · refine sm_rd (x_gR_4_6 Ho5 ha1) ?_
    refine sgxI fun c2 => ?_
    refine sm_rd (x_aI_4_6 Ho5 (ao_4_6 ha1) rfl c2).1 ?_
    exact sm_retI Ho5 rfl (x_aI_4_6 Ho5 (ao_4_6 ha1) rfl c2).2
  · refine sm_if (z3_eq rfl l3_2 (x_gI_4_1 Ho5 ha1).2 lr3_2) ?_ ?_
    · refine sm_rd (x_gR_6_0 Ho5 ha0) ?_
      refine sm_rd (x_gR_8_5 Ho5 (x_v_6_0 Ho5 ha0)) ?_
      refine sm_rd (x_gR_10_6 Ho5 (ao_8_5 (x_v_6_0 Ho5 ha0))) ?_
      refine sgxI fun c3 => ?_
      refine sm_rd (x_aI_10_6 Ho5 (ao_10_6 (ao_8_5 (x_v_6_0 Ho5 ha0))) rfl c3).1 ?_
      refine sm_II (S6_hadOfSet Ho5 ha0 ha1 rfl qx2 rfl ((x_aI_10_6 Ho5 (ao_10_6 (ao_8_5 (x_v_6_0 Ho5 ha0))) rfl c3).2)) fun vo23 ho23 Ho23 ro23 => ?_
      refine sm_if (z3_eq rfl l3_0 ro23 lr3_0) ?_ ?_
      · exact sm_retI Ho23 rfl ro5
      · refine sg3I fun c4 => ?_
        exact sm_retI Ho23 (z3_add l3_100 rfl) c4
    · refine sm_if (z3_eq rfl l3_3 (x_gI_4_1 Ho5 ha1).2 lr3_3) ?_ ?_
      · refine sm_rd (x_gR_6_0 Ho5 ha0) ?_
        refine sm_rd (x_gR_4_5 Ho5 ha1) ?_
        refine sgxI fun c5 => ?_
        refine sm_rd (x_aI_4_5 Ho5 (ao_4_5 ha1) rfl c5).1 ?_
        refine sm_II (S8_rowOf Ho5 (x_v_6_0 Ho5 ha0) rfl ((x_aI_4_5 Ho5 (ao_4_5 ha1) rfl c5).2)) fun vo33 ho33 Ho33 ro33 => ?_
        refine sg3I fun c6 => ?_
        exact sm_retI Ho33 (z3_neg rfl) c6
      · exact sm_retI Ho5 rfl ro5
/-! The pure functions do so (written by wip/gen/gx.py). -/
theorem S6_keyFor {h : PH} (H : OKX h) {a0 : Nat} (ha0 : A6 a0) {a1 : Nat} (ha1 : A4 a1) {x2i : Int32} {x2 : Int} (ex2 : x2i = Z3 x2) (qx2 : r3 x2) {x3i : Int32} {x3 : Int} (ex3 : x3i = Z3 x3) (qx3 : r3 x3) : SimI OKX (F6_keyFor h a0 a1 x2i x3i) (G6_keyFor (rd h) a0 a1 x2 x3) := by
  subst ex2 ex3
  unfold F6_keyFor G6_keyFor
  refine sm_cd (x_ok_6 H ha0) ?_
  exact S6_keyFor_0 H ha0 ha1 rfl qx2 rfl qx3
theorem S6_putInLine_48 {h : PH} (H : OKX h) {a0 : Nat} (ha0 : A6 a0) {x1i : Int32} {x1 : Int} (ex1 : x1i = Z3 x1) (qx1 : r3 x1) {x3i : Int32} {x3 : Int} (ex3 : x3i = Z3 x3) (qx3 : r3 x3) : SimV OKX (F6_putInLine_48 h a0 x1i x3i) (G6_putInLine_48 (rd h) a0 x1 x3) := by
  subst ex1 ex3
  unfold F6_putInLine_48 G6_putInLine_48
  refine sm_rd (x_gR_6_6 H ha0) ?_
  refine sgxV fun c1 => ?_
  refine sm_wt (x_sI_6_6 H (ao_6_6 ha0) rfl c1 rfl qx1) fun h4 Hh4 => ?_
  exact sm_retV Hh4
theorem S6_putInLine_2 (n : Nat) : ∀ {h : PH} (H : OKX h) {a0 : Nat} (ha0 : A6 a0) {x1i : Int32} {x1 : Int} (ex1 : x1i = Z3 x1) (qx1 : r3 x1) {x3i : Int32} {x3 : Int} (ex3 : x3i = Z3 x3) (qx3 : r3 x3), SimV OKX (F6_putInLine_2 n h a0 x1i x3i) (G6_putInLine_2 n (rd h) a0 x1 x3) := by
  induction n with
  | zero => intros; exact smV_none _
  | succ n ih =>
    intro h H a0 ha0 x1i x1 ex1 qx1 x3i x3 ex3 qx3
    subst ex1 ex3
    rw [F6_putInLine_2, G6_putInLine_2]
    refine sm_if (z3_le rfl l3_0 qx3 lr3_0) ?_ ?_
    · exact S6_putInLine_48 H ha0 rfl qx1 rfl qx3
    · refine sm_rd (x_gR_6_8 H ha0) ?_
      refine sm_rd (x_gR_6_6 H ha0) ?_
      refine sgxV fun c1 => ?_
      refine sm_rd (x_aI_6_6 H (ao_6_6 ha0) (z3_sub rfl l3_1) c1).1 ?_
      refine sgxV fun c2 => ?_
      refine sm_rd (x_aI_6_8 H (ao_6_8 ha0) rfl c2).1 ?_
      refine sm_rd (x_gR_6_8 H ha0) ?_
      refine sgxV fun c3 => ?_
      refine sm_rd (x_aI_6_8 H (ao_6_8 ha0) rfl c3).1 ?_
      refine sm_if (z3_le rfl rfl (x_aI_6_8 H (ao_6_8 ha0) rfl c2).2 (x_aI_6_8 H (ao_6_8 ha0) rfl c3).2) ?_ ?_
      · exact S6_putInLine_48 H ha0 rfl qx1 rfl qx3
      · refine sm_rd (x_gR_6_6 H ha0) ?_
        refine sm_rd (x_gR_6_6 H ha0) ?_
        refine sgxV fun c4 => ?_
        refine sm_rd (x_aI_6_6 H (ao_6_6 ha0) (z3_sub rfl l3_1) c4).1 ?_
        refine sgxV fun c5 => ?_
        refine sm_wt (x_sI_6_6 H (ao_6_6 ha0) rfl c5 rfl (x_aI_6_6 H (ao_6_6 ha0) (z3_sub rfl l3_1) c4).2) fun h22 Hh22 => ?_
        refine sg3V fun c6 => ?_
        exact ih Hh22 ha0 rfl qx1 (z3_add rfl l3_m1) c6
theorem S6_putInLine_0 {h : PH} (H : OKX h) {a0 : Nat} (ha0 : A6 a0) {x1i : Int32} {x1 : Int} (ex1 : x1i = Z3 x1) (qx1 : r3 x1) {x2i : Int32} {x2 : Int} (ex2 : x2i = Z3 x2) (qx2 : r3 x2) : SimV OKX (F6_putInLine_0 h a0 x1i x2i) (G6_putInLine_0 (rd h) a0 x1 x2) := by
  subst ex1 ex2
  unfold F6_putInLine_0 G6_putInLine_0
  exact S6_putInLine_2 1024 H ha0 rfl qx1 rfl qx2
theorem S6_putInLine {h : PH} (H : OKX h) {a0 : Nat} (ha0 : A6 a0) {x1i : Int32} {x1 : Int} (ex1 : x1i = Z3 x1) (qx1 : r3 x1) {x2i : Int32} {x2 : Int} (ex2 : x2i = Z3 x2) (qx2 : r3 x2) : SimV OKX (F6_putInLine h a0 x1i x2i) (G6_putInLine (rd h) a0 x1 x2) := by
  subst ex1 ex2
  unfold F6_putInLine G6_putInLine
  refine sm_cd (x_ok_6 H ha0) ?_
  exact S6_putInLine_0 H ha0 rfl qx1 rfl qx2
theorem S6_lineUp_6 (n : Nat) : ∀ {h : PH} (H : OKX h) {a0 : Nat} (ha0 : A6 a0) {a1 : Nat} (ha1 : A4 a1) {x2i : Int32} {x2 : Int} (ex2 : x2i = Z3 x2) (qx2 : r3 x2) {x3i : Int32} {x3 : Int} (ex3 : x3i = Z3 x3) (qx3 : r3 x3) {x4i : Int32} {x4 : Int} (ex4 : x4i = Z3 x4) (qx4 : r3 x4) {x5i : Int32} {x5 : Int} (ex5 : x5i = Z3 x5) (qx5 : r3 x5), SimI OKX (F6_lineUp_6 n h a0 a1 x2i x3i x4i x5i) (G6_lineUp_6 n (rd h) a0 a1 x2 x3 x4 x5) := by
  induction n with
  | zero => intros; exact smI_none _
  | succ n ih =>
    intro h H a0 ha0 a1 ha1 x2i x2 ex2 qx2 x3i x3 ex3 qx3 x4i x4 ex4 qx4 x5i x5 ex5 qx5
    subst ex2 ex3 ex4 ex5
    rw [F6_lineUp_6, G6_lineUp_6]
    refine sm_rd (x_gR_6_0 H ha0) ?_
    refine sm_rd (x_gR_8_4 H (x_v_6_0 H ha0)) ?_
    refine sm_rd (x_gI_1_0 H (ao_8_4 (x_v_6_0 H ha0))).1 ?_
    refine sm_if (z3_le rfl rfl (x_gI_1_0 H (ao_8_4 (x_v_6_0 H ha0))).2 qx5) ?_ ?_
    · exact sm_retI H rfl qx4
    · refine sm_II (S4_isIn H ha1 rfl qx5 rfl qx3) fun vo8 ho8 Ho8 ro8 => ?_
      refine sm_if (z3_eq rfl l3_0 ro8 lr3_0) ?_ ?_
      · refine sg3I fun c1 => ?_
        exact ih Ho8 ha0 ha1 rfl qx2 rfl qx3 rfl qx4 (z3_add rfl l3_1) c1
      · refine sm_rd (x_gR_6_7 Ho8 ha0) ?_
        refine sm_rd (x_gR_4_5 Ho8 ha1) ?_
        refine sgxI fun c2 => ?_
        refine sm_rd (x_aI_4_5 Ho8 (ao_4_5 ha1) rfl c2).1 ?_
        refine sm_II (S6_oddsAt Ho8 ha0 rfl qx5 rfl qx2 rfl ((x_aI_4_5 Ho8 (ao_4_5 ha1) rfl c2).2)) fun vo17 ho17 Ho17 ro17 => ?_
        refine sgxI fun c3 => ?_
        refine sm_wt (x_sI_6_7 Ho17 (ao_6_7 ha0) rfl c3 rfl ro17) fun h20 Hh20 => ?_
        refine sm_rd (x_gR_6_7 Hh20 ha0) ?_
        refine sgxI fun c4 => ?_
        refine sm_rd (x_aI_6_7 Hh20 (ao_6_7 ha0) rfl c4).1 ?_
        refine sm_if (z3_le rfl l3_0 (x_aI_6_7 Hh20 (ao_6_7 ha0) rfl c4).2 lr3_0) ?_ ?_
        · refine sg3I fun c5 => ?_
          exact ih Hh20 ha0 ha1 rfl qx2 rfl qx3 rfl qx4 (z3_add rfl l3_1) c5
        · refine sm_rd (x_gR_6_8 Hh20 ha0) ?_
          refine sm_II (S6_keyFor Hh20 ha0 ha1 rfl qx5 rfl qx2) fun vo28 ho28 Ho28 ro28 => ?_
          refine sgxI fun c6 => ?_
          refine sm_wt (x_sI_6_8 Ho28 (ao_6_8 ha0) rfl c6 rfl ro28) fun h31 Hh31 => ?_
          refine sm_VI (S6_putInLine Hh31 ha0 rfl qx5 rfl qx4) fun ho32 Ho32 => ?_
          refine sg3I fun c7 => ?_
          refine sg3I fun c8 => ?_
          exact ih Ho32 ha0 ha1 rfl qx2 rfl qx3 (z3_add rfl l3_1) c7 (z3_add rfl l3_1) c8
theorem S6_lineUp_0 {h : PH} (H : OKX h) {a0 : Nat} (ha0 : A6 a0) {a1 : Nat} (ha1 : A4 a1) {x2i : Int32} {x2 : Int} (ex2 : x2i = Z3 x2) (qx2 : r3 x2) {x3i : Int32} {x3 : Int} (ex3 : x3i = Z3 x3) (qx3 : r3 x3) : SimI OKX (F6_lineUp_0 h a0 a1 x2i x3i) (G6_lineUp_0 (rd h) a0 a1 x2 x3) := by
  subst ex2 ex3
  unfold F6_lineUp_0 G6_lineUp_0
  exact S6_lineUp_6 1024 H ha0 ha1 rfl qx2 rfl qx3 l3_0 lr3_0 l3_0 lr3_0
theorem S6_lineUp {h : PH} (H : OKX h) {a0 : Nat} (ha0 : A6 a0) {a1 : Nat} (ha1 : A4 a1) {x2i : Int32} {x2 : Int} (ex2 : x2i = Z3 x2) (qx2 : r3 x2) {x3i : Int32} {x3 : Int} (ex3 : x3i = Z3 x3) (qx3 : r3 x3) : SimI OKX (F6_lineUp h a0 a1 x2i x3i) (G6_lineUp (rd h) a0 a1 x2 x3) := by
  subst ex2 ex3
  unfold F6_lineUp G6_lineUp
  refine sm_cd (x_ok_6 H ha0) ?_
  exact S6_lineUp_0 H ha0 ha1 rfl qx2 rfl qx3
theorem S6_placeOfRider_2 (n : Nat) : ∀ {h : PH} (H : OKX h) {a0 : Nat} (ha0 : A6 a0) {a1 : Nat} (ha1 : A4 a1) {x2i : Int32} {x2 : Int} (ex2 : x2i = Z3 x2) (qx2 : r3 x2) {x3i : Int32} {x3 : Int} (ex3 : x3i = Z3 x3) (qx3 : r3 x3), SimI OKX (F6_placeOfRider_2 n h a0 a1 x2i x3i) (G6_placeOfRider_2 n (rd h) a0 a1 x2 x3) := by
  induction n with
  | zero => intros; exact smI_none _
  | succ n ih =>
    intro h H a0 ha0 a1 ha1 x2i x2 ex2 qx2 x3i x3 ex3 qx3
    subst ex2 ex3
    rw [F6_placeOfRider_2, G6_placeOfRider_2]
    refine sm_if (z3_le rfl rfl qx2 qx3) ?_ ?_
    · exact sm_retI H l3_m1 lr3_m1
    · refine sm_II (S4_drawHundredth H ha1) fun vo2 ho2 Ho2 ro2 => ?_
      refine sm_rd (x_gR_6_7 Ho2 ha0) ?_
      refine sm_rd (x_gR_6_6 Ho2 ha0) ?_
      refine sgxI fun c1 => ?_
      refine sm_rd (x_aI_6_6 Ho2 (ao_6_6 ha0) rfl c1).1 ?_
      refine sgxI fun c2 => ?_
      refine sm_rd (x_aI_6_7 Ho2 (ao_6_7 ha0) rfl c2).1 ?_
      refine sm_if (z3_le rfl rfl (x_aI_6_7 Ho2 (ao_6_7 ha0) rfl c2).2 ro2) ?_ ?_
      · refine sg3I fun c3 => ?_
        exact ih Ho2 ha0 ha1 rfl qx2 (z3_add rfl l3_1) c3
      · exact sm_retI Ho2 rfl qx3
theorem S6_placeOfRider_0 {h : PH} (H : OKX h) {a0 : Nat} (ha0 : A6 a0) {a1 : Nat} (ha1 : A4 a1) {x2i : Int32} {x2 : Int} (ex2 : x2i = Z3 x2) (qx2 : r3 x2) : SimI OKX (F6_placeOfRider_0 h a0 a1 x2i) (G6_placeOfRider_0 (rd h) a0 a1 x2) := by
  subst ex2
  unfold F6_placeOfRider_0 G6_placeOfRider_0
  exact S6_placeOfRider_2 1024 H ha0 ha1 rfl qx2 l3_0 lr3_0
theorem S6_placeOfRider {h : PH} (H : OKX h) {a0 : Nat} (ha0 : A6 a0) {a1 : Nat} (ha1 : A4 a1) {x2i : Int32} {x2 : Int} (ex2 : x2i = Z3 x2) (qx2 : r3 x2) : SimI OKX (F6_placeOfRider h a0 a1 x2i) (G6_placeOfRider (rd h) a0 a1 x2) := by
  subst ex2
  unfold F6_placeOfRider G6_placeOfRider
  refine sm_cd (x_ok_6 H ha0) ?_
  exact S6_placeOfRider_0 H ha0 ha1 rfl qx2
theorem S6_crosserBehind_5 (n : Nat) : ∀ {h : PH} (H : OKX h) {a0 : Nat} (ha0 : A6 a0) {a1 : Nat} (ha1 : A4 a1) {x3i : Int32} {x3 : Int} (ex3 : x3i = Z3 x3) (qx3 : r3 x3) {x4i : Int32} {x4 : Int} (ex4 : x4i = Z3 x4) (qx4 : r3 x4), SimI OKX (F6_crosserBehind_5 n h a0 a1 x3i x4i) (G6_crosserBehind_5 n (rd h) a0 a1 x3 x4) := by
  induction n with
  | zero => intros; exact smI_none _
  | succ n ih =>
    intro h H a0 ha0 a1 ha1 x3i x3 ex3 qx3 x4i x4 ex4 qx4
    subst ex3 ex4
    rw [F6_crosserBehind_5, G6_crosserBehind_5]
    refine sm_if (z3_le rfl rfl qx3 qx4) ?_ ?_
    · exact sm_retI H l3_m1 lr3_m1
    · refine sm_rd (x_gR_6_2 H ha0) ?_
      refine sm_rd (x_gR_6_6 H ha0) ?_
      refine sgxI fun c1 => ?_
      refine sm_rd (x_aI_6_6 H (ao_6_6 ha0) rfl c1).1 ?_
      refine sgxI fun c2 => ?_
      refine sm_rd (x_aI_6_2 H (ao_6_2 ha0) rfl c2).1 ?_
      refine sm_if (z3_le rfl l3_0 (x_aI_6_2 H (ao_6_2 ha0) rfl c2).2 lr3_0) ?_ ?_
      · refine sg3I fun c3 => ?_
        exact ih H ha0 ha1 rfl qx3 (z3_add rfl l3_1) c3
      · refine sm_II (S4_drawHundredth H ha1) fun vo11 ho11 Ho11 ro11 => ?_
        refine sm_if (z3_le rfl rfl (x_aI_6_2 H (ao_6_2 ha0) rfl c2).2 ro11) ?_ ?_
        · refine sg3I fun c4 => ?_
          exact ih Ho11 ha0 ha1 rfl qx3 (z3_add rfl l3_1) c4
        · refine sm_rd (x_gR_6_6 Ho11 ha0) ?_
          refine sgxI fun c5 => ?_
          refine sm_rd (x_aI_6_6 Ho11 (ao_6_6 ha0) rfl c5).1 ?_
          exact sm_retI Ho11 rfl (x_aI_6_6 Ho11 (ao_6_6 ha0) rfl c5).2
theorem S6_crosserBehind_0 {h : PH} (H : OKX h) {a0 : Nat} (ha0 : A6 a0) {a1 : Nat} (ha1 : A4 a1) {x2i : Int32} {x2 : Int} (ex2 : x2i = Z3 x2) (qx2 : r3 x2) {x3i : Int32} {x3 : Int} (ex3 : x3i = Z3 x3) (qx3 : r3 x3) : SimI OKX (F6_crosserBehind_0 h a0 a1 x2i x3i) (G6_crosserBehind_0 (rd h) a0 a1 x2 x3) := by
  subst ex2 ex3
  unfold F6_crosserBehind_0 G6_crosserBehind_0
  refine sg3I fun c1 => ?_
  exact S6_crosserBehind_5 1024 H ha0 ha1 rfl qx3 (z3_add rfl l3_1) c1
theorem S6_crosserBehind {h : PH} (H : OKX h) {a0 : Nat} (ha0 : A6 a0) {a1 : Nat} (ha1 : A4 a1) {x2i : Int32} {x2 : Int} (ex2 : x2i = Z3 x2) (qx2 : r3 x2) {x3i : Int32} {x3 : Int} (ex3 : x3i = Z3 x3) (qx3 : r3 x3) : SimI OKX (F6_crosserBehind h a0 a1 x2i x3i) (G6_crosserBehind (rd h) a0 a1 x2 x3) := by
  subst ex2 ex3
  unfold F6_crosserBehind G6_crosserBehind
  refine sm_cd (x_ok_6 H ha0) ?_
  exact S6_crosserBehind_0 H ha0 ha1 rfl qx2 rfl qx3
theorem S6_sendAway_0 {h : PH} (H : OKX h) {a0 : Nat} (ha0 : A6 a0) {a1 : Nat} (ha1 : A4 a1) {x2i : Int32} {x2 : Int} (ex2 : x2i = Z3 x2) (qx2 : r3 x2) {x3i : Int32} {x3 : Int} (ex3 : x3i = Z3 x3) (qx3 : r3 x3) {x4i : Int32} {x4 : Int} (ex4 : x4i = Z3 x4) (qx4 : r3 x4) : SimV OKX (F6_sendAway_0 h a0 a1 x2i x3i x4i) (G6_sendAway_0 (rd h) a0 a1 x2 x3 x4) := by
  subst ex2 ex3 ex4
  unfold F6_sendAway_0 G6_sendAway_0
  refine sm_rd (x_gR_4_8 H ha1) ?_
  refine sm_rd (x_gR_6_0 H ha0) ?_
  refine sm_rd (x_gR_8_5 H (x_v_6_0 H ha0)) ?_
  refine sm_rd (x_gR_10_4 H (ao_8_5 (x_v_6_0 H ha0))) ?_
  refine sgxV fun c1 => ?_
  refine sm_rd (x_aI_10_4 H (ao_10_4 (ao_8_5 (x_v_6_0 H ha0))) rfl c1).1 ?_
  refine sm_IV (S6_awayFor H ha0 rfl qx2 rfl qx3) fun vo11 ho11 Ho11 ro11 => ?_
  refine sgxV fun c2 => ?_
  refine sg3V fun c3 => ?_
  refine sm_wt (x_sI_4_8 Ho11 (ao_4_8 ha1) rfl c2 (z3_add rfl (z3_mul rfl rfl)) c3) fun h14 Hh14 => ?_
  exact sm_retV Hh14
theorem S6_sendAway {h : PH} (H : OKX h) {a0 : Nat} (ha0 : A6 a0) {a1 : Nat} (ha1 : A4 a1) {x2i : Int32} {x2 : Int} (ex2 : x2i = Z3 x2) (qx2 : r3 x2) {x3i : Int32} {x3 : Int} (ex3 : x3i = Z3 x3) (qx3 : r3 x3) {x4i : Int32} {x4 : Int} (ex4 : x4i = Z3 x4) (qx4 : r3 x4) : SimV OKX (F6_sendAway h a0 a1 x2i x3i x4i) (G6_sendAway (rd h) a0 a1 x2 x3 x4) := by
  subst ex2 ex3 ex4
  unfold F6_sendAway G6_sendAway
  refine sm_cd (x_ok_6 H ha0) ?_
  exact S6_sendAway_0 H ha0 ha1 rfl qx2 rfl qx3 rfl qx4
theorem S6_bringWave_0 {h : PH} (H : OKX h) {a0 : Nat} (ha0 : A6 a0) {a1 : Nat} (ha1 : A4 a1) {x2i : Int32} {x2 : Int} (ex2 : x2i = Z3 x2) (qx2 : r3 x2) : SimV OKX (F6_bringWave_0 h a0 a1 x2i) (G6_bringWave_0 (rd h) a0 a1 x2) := by
  subst ex2
  unfold F6_bringWave_0 G6_bringWave_0
  refine sm_rd (x_gR_6_0 H ha0) ?_
  refine sm_rd (x_gR_8_5 H (x_v_6_0 H ha0)) ?_
  refine sm_rd (x_gR_10_4 H (ao_8_5 (x_v_6_0 H ha0))) ?_
  refine sgxV fun c1 => ?_
  refine sm_rd (x_aI_10_4 H (ao_10_4 (ao_8_5 (x_v_6_0 H ha0))) rfl c1).1 ?_
  refine sm_IV (S6_lineUp H ha0 ha1 rfl qx2 rfl ((x_aI_10_4 H (ao_10_4 (ao_8_5 (x_v_6_0 H ha0))) rfl c1).2)) fun vo9 ho9 Ho9 ro9 => ?_
  refine sm_IV (S6_placeOfRider Ho9 ha0 ha1 rfl ro9) fun vo11 ho11 Ho11 ro11 => ?_
  refine sm_if (z3_eq rfl l3_m1 ro11 lr3_m1) ?_ ?_
  · refine sm_rd (x_gR_4_10 Ho11 ha1) ?_
    refine sgxV fun c2 => ?_
    refine sm_wt (x_sI_4_10 Ho11 (ao_4_10 ha1) rfl c2 l3_m1 lr3_m1) fun h60 Hh60 => ?_
    refine sm_rd (x_gI_4_4 Hh60 ha1).1 ?_
    refine sg3V fun c3 => ?_
    refine sm_wt (x_pI_4_4 Hh60 ha1 (z3_add rfl l3_1) c3) fun h63 Hh63 => ?_
    exact sm_retV Hh63
  · refine sm_rd (x_gR_6_6 Ho11 ha0) ?_
    refine sgxV fun c4 => ?_
    refine sm_rd (x_aI_6_6 Ho11 (ao_6_6 ha0) rfl c4).1 ?_
    refine sm_IV (S6_crosserBehind Ho11 ha0 ha1 rfl ro11 rfl ro9) fun vo18 ho18 Ho18 ro18 => ?_
    refine sm_if (z3_eq rfl l3_m1 ro18 lr3_m1) ?_ ?_
    · refine sm_rd (x_gR_4_10 Ho18 ha1) ?_
      refine sgxV fun c5 => ?_
      refine sm_wt (x_sI_4_10 Ho18 (ao_4_10 ha1) rfl c5 rfl (x_aI_6_6 Ho11 (ao_6_6 ha0) rfl c4).2) fun h48 Hh48 => ?_
      refine sm_rd (x_gR_4_6 Hh48 ha1) ?_
      refine sgxV fun c6 => ?_
      refine sm_rd (x_aI_4_6 Hh48 (ao_4_6 ha1) rfl c6).1 ?_
      refine sgxV fun c7 => ?_
      refine sg3V fun c8 => ?_
      refine sm_wt (x_sI_4_6 Hh48 (ao_4_6 ha1) rfl c7 (z3_add rfl l3_1) c8) fun h54 Hh54 => ?_
      refine sm_VV (S6_sendAway Hh54 ha0 ha1 rfl ((x_aI_6_6 Ho11 (ao_6_6 ha0) rfl c4).2) rfl qx2 l3_1 lr3_1) fun ho55 Ho55 => ?_
      exact sm_retV Ho55
    · refine sm_rd (x_gR_4_10 Ho18 ha1) ?_
      refine sgxV fun c9 => ?_
      refine sm_wt (x_sI_4_10 Ho18 (ao_4_10 ha1) rfl c9 l3_m3 lr3_m3) fun h24 Hh24 => ?_
      refine sm_rd (x_gI_4_3 Hh24 ha1).1 ?_
      refine sg3V fun c10 => ?_
      refine sm_wt (x_pI_4_3 Hh24 ha1 (z3_add rfl l3_1) c10) fun h27 Hh27 => ?_
      refine sm_rd (x_gR_4_7 Hh27 ha1) ?_
      refine sgxV fun c11 => ?_
      refine sm_rd (x_aI_4_7 Hh27 (ao_4_7 ha1) rfl c11).1 ?_
      refine sgxV fun c12 => ?_
      refine sg3V fun c13 => ?_
      refine sm_wt (x_sI_4_7 Hh27 (ao_4_7 ha1) rfl c12 (z3_add rfl l3_1) c13) fun h34 Hh34 => ?_
      refine sm_rd (x_gR_4_7 Hh34 ha1) ?_
      refine sgxV fun c14 => ?_
      refine sm_rd (x_aI_4_7 Hh34 (ao_4_7 ha1) rfl c14).1 ?_
      refine sgxV fun c15 => ?_
      refine sg3V fun c16 => ?_
      refine sm_wt (x_sI_4_7 Hh34 (ao_4_7 ha1) rfl c15 (z3_add rfl l3_1) c16) fun h40 Hh40 => ?_
      refine sm_VV (S6_sendAway Hh40 ha0 ha1 rfl ((x_aI_6_6 Ho11 (ao_6_6 ha0) rfl c4).2) rfl qx2 l3_2 lr3_2) fun ho41 Ho41 => ?_
      refine sm_VV (S6_sendAway Ho41 ha0 ha1 rfl ro18 rfl qx2 l3_2 lr3_2) fun ho43 Ho43 => ?_
      exact sm_retV Ho43
theorem S6_bringWave {h : PH} (H : OKX h) {a0 : Nat} (ha0 : A6 a0) {a1 : Nat} (ha1 : A4 a1) {x2i : Int32} {x2 : Int} (ex2 : x2i = Z3 x2) (qx2 : r3 x2) : SimV OKX (F6_bringWave h a0 a1 x2i) (G6_bringWave (rd h) a0 a1 x2) := by
  subst ex2
  unfold F6_bringWave G6_bringWave
  refine sm_cd (x_ok_6 H ha0) ?_
  exact S6_bringWave_0 H ha0 ha1 rfl qx2
theorem S6_catchValue_0 {h : PH} (H : OKX h) {a0 : Nat} (ha0 : A6 a0) {x1i : Int32} {x1 : Int} (ex1 : x1i = Z3 x1) (qx1 : r3 x1) {x2i : Int32} {x2 : Int} (ex2 : x2i = Z3 x2) (qx2 : r3 x2) {x3i : Int32} {x3 : Int} (ex3 : x3i = Z3 x3) (qx3 : r3 x3) : SimJ OKX (F6_catchValue_0 h a0 x1i x2i x3i) (G6_catchValue_0 (rd h) a0 x1 x2 x3) := by
  subst ex1 ex2 ex3
  unfold F6_catchValue_0 G6_catchValue_0
  refine sm_VJ (S6_nameCatch H ha0 rfl qx1 rfl qx2 rfl qx3) fun ho1 Ho1 => ?_
  refine sm_rd (x_gR_6_0 Ho1 ha0) ?_
  refine sm_rd (x_gR_8_11 Ho1 (x_v_6_0 Ho1 ha0)) ?_
  refine sm_rd (x_aR Ho1 (ao_8_11 (x_v_6_0 Ho1 ha0)) l3_0 (by decide)) ?_
  refine sm_rd (x_gR_6_4 Ho1 ha0) ?_
  refine sm_rd (x_gR_6_5 Ho1 ha0) ?_
  refine sm_JJ (S2_valueFor Ho1 (x_aRp (ao_8_11 (x_v_6_0 Ho1 ha0)) (by decide)) (ao_6_4 ha0) (ao_6_5 ha0)) fun vo13 ho13 Ho13 ro13 => ?_
  exact sm_retJ Ho13 rfl ro13
theorem S6_catchValue {h : PH} (H : OKX h) {a0 : Nat} (ha0 : A6 a0) {x1i : Int32} {x1 : Int} (ex1 : x1i = Z3 x1) (qx1 : r3 x1) {x2i : Int32} {x2 : Int} (ex2 : x2i = Z3 x2) (qx2 : r3 x2) {x3i : Int32} {x3 : Int} (ex3 : x3i = Z3 x3) (qx3 : r3 x3) : SimJ OKX (F6_catchValue h a0 x1i x2i x3i) (G6_catchValue (rd h) a0 x1 x2 x3) := by
  subst ex1 ex2 ex3
  unfold F6_catchValue G6_catchValue
  refine sm_cd (x_ok_6 H ha0) ?_
  exact S6_catchValue_0 H ha0 rfl qx1 rfl qx2 rfl qx3
theorem S6_crossingOdds_74 {k28 : PH → Nat → Int32 → Int32 → Int32 → Int32 → Int32 → Option (Int32 × PH)} {kk28 : Mem → Nat → Int → Int → Int → Int → Int → Option (Int × Mem)} (hk28 : ∀ {h : PH} (_ : OKX h) {a1 : Nat} (_ : A6 a1) {x2 : Int32} {y2 : Int} (_ : x2 = Z3 y2) (_ : r3 y2) {x3 : Int32} {y3 : Int} (_ : x3 = Z3 y3) (_ : r3 y3) {x4 : Int32} {y4 : Int} (_ : x4 = Z3 y4) (_ : r3 y4) {x5 : Int32} {y5 : Int} (_ : x5 = Z3 y5) (_ : r3 y5) {x6 : Int32} {y6 : Int} (_ : x6 = Z3 y6) (_ : r3 y6), SimI OKX (k28 h a1 x2 x3 x4 x5 x6) (kk28 (rd h) a1 y2 y3 y4 y5 y6)) {h : PH} (H : OKX h) {a0 : Nat} (ha0 : A6 a0) {x2i : Int32} {x2 : Int} (ex2 : x2i = Z3 x2) (qx2 : r3 x2) {x4i : Int32} {x4 : Int} (ex4 : x4i = Z3 x4) (qx4 : r3 x4) {x5i : Int32} {x5 : Int} (ex5 : x5i = Z3 x5) (qx5 : r3 x5) {x6i : Int32} {x6 : Int} (ex6 : x6i = Z3 x6) (qx6 : r3 x6) {x7i : Int32} {x7 : Int} (ex7 : x7i = Z3 x7) (qx7 : r3 x7) {x8i : Int32} {x8 : Int} (ex8 : x8i = Z3 x8) (qx8 : r3 x8) : SimI OKX (F6_crossingOdds_74 k28 h a0 x2i x4i x5i x6i x7i x8i) (G6_crossingOdds_74 kk28 (rd h) a0 x2 x4 x5 x6 x7 x8) := by
  subst ex2 ex4 ex5 ex6 ex7 ex8
  unfold F6_crossingOdds_74 G6_crossingOdds_74
  refine sm_rd (x_gR_6_2 H ha0) ?_
  refine sgxI fun c1 => ?_
  refine sm_rd (x_aI_6_2 H (ao_6_2 ha0) rfl c1).1 ?_
  refine sg3I fun c2 => ?_
  refine sgdI fun c3 => ?_
  refine sg3I fun c4 => ?_
  exact hk28 H ha0 rfl qx2 rfl qx4 rfl qx5 (z3_div (z3_mul rfl (z3_sub l3_100 rfl)) l3_100 c2 lr3_100 c3) (r3_div c2 lr3_100 c3) (z3_add rfl l3_1) c4
theorem S6_crossingOdds_28 (n : Nat) : ∀ {h : PH} (H : OKX h) {a0 : Nat} (ha0 : A6 a0) {x2i : Int32} {x2 : Int} (ex2 : x2i = Z3 x2) (qx2 : r3 x2) {x4i : Int32} {x4 : Int} (ex4 : x4i = Z3 x4) (qx4 : r3 x4) {x5i : Int32} {x5 : Int} (ex5 : x5i = Z3 x5) (qx5 : r3 x5) {x6i : Int32} {x6 : Int} (ex6 : x6i = Z3 x6) (qx6 : r3 x6) {x7i : Int32} {x7 : Int} (ex7 : x7i = Z3 x7) (qx7 : r3 x7), SimI OKX (F6_crossingOdds_28 n h a0 x2i x4i x5i x6i x7i) (G6_crossingOdds_28 n (rd h) a0 x2 x4 x5 x6 x7) := by
  induction n with
  | zero => intros; exact smI_none _
  | succ n ih =>
    intro h H a0 ha0 x2i x2 ex2 qx2 x4i x4 ex4 qx4 x5i x5 ex5 qx5 x6i x6 ex6 qx6 x7i x7 ex7 qx7
    subst ex2 ex4 ex5 ex6 ex7
    rw [F6_crossingOdds_28, G6_crossingOdds_28]
    refine sm_if (z3_le rfl rfl qx4 qx7) ?_ ?_
    · refine sg3I fun c1 => ?_
      exact sm_retI H (z3_sub l3_100 rfl) c1
    · refine sm_rd (x_gR_6_6 H ha0) ?_
      refine sgxI fun c2 => ?_
      refine sm_rd (x_aI_6_6 H (ao_6_6 ha0) rfl c2).1 ?_
      refine sm_rd (x_gR_6_8 H ha0) ?_
      refine sgxI fun c3 => ?_
      refine sm_rd (x_aI_6_8 H (ao_6_8 ha0) rfl c3).1 ?_
      refine sm_if (z3_lt rfl rfl qx5 (x_aI_6_8 H (ao_6_8 ha0) rfl c3).2) ?_ ?_
      · exact S6_crossingOdds_74 (@fun _ H _ ha0 _ _ ex2 qx2 _ _ ex4 qx4 _ _ ex5 qx5 _ _ ex6 qx6 _ _ ex7 qx7 => ih H ha0 ex2 qx2 ex4 qx4 ex5 qx5 ex6 qx6 ex7 qx7) H ha0 rfl qx2 rfl qx4 rfl qx5 rfl qx6 rfl qx7 rfl ((x_aI_6_6 H (ao_6_6 ha0) rfl c2).2)
      · refine sm_rd (x_gR_6_8 H ha0) ?_
        refine sgxI fun c4 => ?_
        refine sm_rd (x_aI_6_8 H (ao_6_8 ha0) rfl c4).1 ?_
        refine sm_if (z3_eq rfl rfl (x_aI_6_8 H (ao_6_8 ha0) rfl c4).2 qx5) ?_ ?_
        · refine sm_if (z3_le rfl rfl (x_aI_6_6 H (ao_6_6 ha0) rfl c2).2 qx2) ?_ ?_
          · refine sg3I fun c5 => ?_
            exact ih H ha0 rfl qx2 rfl qx4 rfl qx5 rfl qx6 (z3_add rfl l3_1) c5
          · exact S6_crossingOdds_74 (@fun _ H _ ha0 _ _ ex2 qx2 _ _ ex4 qx4 _ _ ex5 qx5 _ _ ex6 qx6 _ _ ex7 qx7 => ih H ha0 ex2 qx2 ex4 qx4 ex5 qx5 ex6 qx6 ex7 qx7) H ha0 rfl qx2 rfl qx4 rfl qx5 rfl qx6 rfl qx7 rfl ((x_aI_6_6 H (ao_6_6 ha0) rfl c2).2)
        · refine sg3I fun c6 => ?_
          exact ih H ha0 rfl qx2 rfl qx4 rfl qx5 rfl qx6 (z3_add rfl l3_1) c6
theorem S6_crossingOdds_0 {h : PH} (H : OKX h) {a0 : Nat} (ha0 : A6 a0) {a1 : Nat} (ha1 : A4 a1) {x2i : Int32} {x2 : Int} (ex2 : x2i = Z3 x2) (qx2 : r3 x2) {x3i : Int32} {x3 : Int} (ex3 : x3i = Z3 x3) (qx3 : r3 x3) : SimI OKX (F6_crossingOdds_0 h a0 a1 x2i x3i) (G6_crossingOdds_0 (rd h) a0 a1 x2 x3) := by
  subst ex2 ex3
  unfold F6_crossingOdds_0 G6_crossingOdds_0
  refine sm_rd (x_gI_4_0 H ha1).1 ?_
  refine sm_II (S6_lineUp H ha0 ha1 rfl qx3 rfl ((x_gI_4_0 H ha1).2)) fun vo3 ho3 Ho3 ro3 => ?_
  refine sm_II (S6_keyFor Ho3 ha0 ha1 rfl qx2 rfl qx3) fun vo5 ho5 Ho5 ro5 => ?_
  exact S6_crossingOdds_28 1024 Ho5 ha0 rfl qx2 rfl ro3 rfl ro5 l3_100 lr3_100 l3_0 lr3_0
theorem S6_crossingOdds {h : PH} (H : OKX h) {a0 : Nat} (ha0 : A6 a0) {a1 : Nat} (ha1 : A4 a1) {x2i : Int32} {x2 : Int} (ex2 : x2i = Z3 x2) (qx2 : r3 x2) {x3i : Int32} {x3 : Int} (ex3 : x3i = Z3 x3) (qx3 : r3 x3) : SimI OKX (F6_crossingOdds h a0 a1 x2i x3i) (G6_crossingOdds (rd h) a0 a1 x2 x3) := by
  subst ex2 ex3
  unfold F6_crossingOdds G6_crossingOdds
  refine sm_cd (x_ok_6 H ha0) ?_
  exact S6_crossingOdds_0 H ha0 ha1 rfl qx2 rfl qx3
theorem S6_driftValue_2 (n : Nat) : ∀ {h : PH} (H : OKX h) {a0 : Nat} (ha0 : A6 a0) {x1i : Int32} {x1 : Int} (ex1 : x1i = Z3 x1) (qx1 : r3 x1) {x2i : Int32} {x2 : Int} (ex2 : x2i = Z3 x2) (qx2 : r3 x2), SimJ OKX (F6_driftValue_2 n h a0 x1i x2i) (G6_driftValue_2 n (rd h) a0 x1 x2) := by
  induction n with
  | zero => intros; exact smJ_none _
  | succ n ih =>
    intro h H a0 ha0 x1i x1 ex1 qx1 x2i x2 ex2 qx2
    subst ex1 ex2
    rw [F6_driftValue_2, G6_driftValue_2]
    refine sm_if (z3_le l3_6 rfl lr3_6 qx2) ?_ ?_
    · refine sm_rd (x_gR_6_4 H ha0) ?_
      refine sm_wt (x_sJ_6_4 H (ao_6_4 ha0) l3_4 ⟨by decide, by decide⟩ (z3_to6 rfl qx1) (r3_6 qx1)) fun h5 Hh5 => ?_
      refine sm_rd (x_gR_6_0 Hh5 ha0) ?_
      refine sm_rd (x_gR_8_11 Hh5 (x_v_6_0 Hh5 ha0)) ?_
      refine sm_rd (x_aR Hh5 (ao_8_11 (x_v_6_0 Hh5 ha0)) l3_1 (by decide)) ?_
      refine sm_rd (x_gR_6_4 Hh5 ha0) ?_
      refine sm_rd (x_gR_6_5 Hh5 ha0) ?_
      refine sm_JJ (S2_valueFor Hh5 (x_aRp (ao_8_11 (x_v_6_0 Hh5 ha0)) (by decide)) (ao_6_4 ha0) (ao_6_5 ha0)) fun vo16 ho16 Ho16 ro16 => ?_
      exact sm_retJ Ho16 rfl ro16
    · refine sm_rd (x_gR_6_4 H ha0) ?_
      refine sgxJ fun c1 => ?_
      refine sm_wt (x_sJ_6_4 H (ao_6_4 ha0) rfl c1 l6_0 lr6_0) fun h21 Hh21 => ?_
      refine sg3J fun c2 => ?_
      exact ih Hh21 ha0 rfl qx1 (z3_add rfl l3_1) c2
theorem S6_driftValue_0 {h : PH} (H : OKX h) {a0 : Nat} (ha0 : A6 a0) {x1i : Int32} {x1 : Int} (ex1 : x1i = Z3 x1) (qx1 : r3 x1) : SimJ OKX (F6_driftValue_0 h a0 x1i) (G6_driftValue_0 (rd h) a0 x1) := by
  subst ex1
  unfold F6_driftValue_0 G6_driftValue_0
  exact S6_driftValue_2 1024 H ha0 rfl qx1 l3_0 lr3_0
theorem S6_driftValue {h : PH} (H : OKX h) {a0 : Nat} (ha0 : A6 a0) {x1i : Int32} {x1 : Int} (ex1 : x1i = Z3 x1) (qx1 : r3 x1) : SimJ OKX (F6_driftValue h a0 x1i) (G6_driftValue (rd h) a0 x1) := by
  subst ex1
  unfold F6_driftValue G6_driftValue
  refine sm_cd (x_ok_6 H ha0) ?_
  exact S6_driftValue_0 H ha0 rfl qx1
theorem S6_giveBoards_2 (n : Nat) : ∀ {h : PH} (H : OKX h) {a0 : Nat} (ha0 : A6 a0) {x1i : Int32} {x1 : Int} (ex1 : x1i = Z3 x1) (qx1 : r3 x1) {x2i : Int32} {x2 : Int} (ex2 : x2i = Z3 x2) (qx2 : r3 x2), SimV OKX (F6_giveBoards_2 n h a0 x1i x2i) (G6_giveBoards_2 n (rd h) a0 x1 x2) := by
  induction n with
  | zero => intros; exact smV_none _
  | succ n ih =>
    intro h H a0 ha0 x1i x1 ex1 qx1 x2i x2 ex2 qx2
    subst ex1 ex2
    rw [F6_giveBoards_2, G6_giveBoards_2]
    refine sm_if (z3_le l3_5 rfl lr3_5 qx2) ?_ ?_
    · exact sm_retV H
    · refine sm_rd (x_gR_6_1 H ha0) ?_
      refine sgxV fun c1 => ?_
      refine sm_wt (x_sI_6_1 H (ao_6_1 ha0) rfl c1 rfl qx1) fun h5 Hh5 => ?_
      refine sg3V fun c2 => ?_
      exact ih Hh5 ha0 rfl qx1 (z3_add rfl l3_1) c2
theorem S6_giveBoards_0 {h : PH} (H : OKX h) {a0 : Nat} (ha0 : A6 a0) {x1i : Int32} {x1 : Int} (ex1 : x1i = Z3 x1) (qx1 : r3 x1) : SimV OKX (F6_giveBoards_0 h a0 x1i) (G6_giveBoards_0 (rd h) a0 x1) := by
  subst ex1
  unfold F6_giveBoards_0 G6_giveBoards_0
  exact S6_giveBoards_2 1024 H ha0 rfl qx1 l3_0 lr3_0
theorem S6_giveBoards {h : PH} (H : OKX h) {a0 : Nat} (ha0 : A6 a0) {x1i : Int32} {x1 : Int} (ex1 : x1i = Z3 x1) (qx1 : r3 x1) : SimV OKX (F6_giveBoards h a0 x1i) (G6_giveBoards (rd h) a0 x1) := by
  subst ex1
  unfold F6_giveBoards G6_giveBoards
  refine sm_cd (x_ok_6 H ha0) ?_
  exact S6_giveBoards_0 H ha0 rfl qx1
theorem S6_holdPeak_2 (n : Nat) : ∀ {h : PH} (H : OKX h) {a0 : Nat} (ha0 : A6 a0) {x1i : Int32} {x1 : Int} (ex1 : x1i = Z3 x1) (qx1 : r3 x1), SimV OKX (F6_holdPeak_2 n h a0 x1i) (G6_holdPeak_2 n (rd h) a0 x1) := by
  induction n with
  | zero => intros; exact smV_none _
  | succ n ih =>
    intro h H a0 ha0 x1i x1 ex1 qx1
    subst ex1
    rw [F6_holdPeak_2, G6_holdPeak_2]
    refine sm_if (z3_le l3_28 rfl lr3_28 qx1) ?_ ?_
    · exact sm_retV H
    · refine sm_rd (x_gR_6_3 H ha0) ?_
      refine sm_rd (x_gR_6_0 H ha0) ?_
      refine sm_rd (x_gI_8_2 H (x_v_6_0 H ha0)).1 ?_
      refine sgxV fun c1 => ?_
      refine sm_wt (x_sI_6_3 H (ao_6_3 ha0) rfl c1 rfl (x_gI_8_2 H (x_v_6_0 H ha0)).2) fun h9 Hh9 => ?_
      refine sg3V fun c2 => ?_
      exact ih Hh9 ha0 (z3_add rfl l3_1) c2
theorem S6_holdPeak_0 {h : PH} (H : OKX h) {a0 : Nat} (ha0 : A6 a0) : SimV OKX (F6_holdPeak_0 h a0) (G6_holdPeak_0 (rd h) a0) := by
  unfold F6_holdPeak_0 G6_holdPeak_0
  exact S6_holdPeak_2 1024 H ha0 l3_0 lr3_0
theorem S6_holdPeak {h : PH} (H : OKX h) {a0 : Nat} (ha0 : A6 a0) : SimV OKX (F6_holdPeak h a0) (G6_holdPeak (rd h) a0) := by
  unfold F6_holdPeak G6_holdPeak
  refine sm_cd (x_ok_6 H ha0) ?_
  exact S6_holdPeak_0 H ha0
theorem S6_makeNobodyBold_2 (n : Nat) : ∀ {h : PH} (H : OKX h) {a0 : Nat} (ha0 : A6 a0) {x1i : Int32} {x1 : Int} (ex1 : x1i = Z3 x1) (qx1 : r3 x1), SimV OKX (F6_makeNobodyBold_2 n h a0 x1i) (G6_makeNobodyBold_2 n (rd h) a0 x1) := by
  induction n with
  | zero => intros; exact smV_none _
  | succ n ih =>
    intro h H a0 ha0 x1i x1 ex1 qx1
    subst ex1
    rw [F6_makeNobodyBold_2, G6_makeNobodyBold_2]
    refine sm_if (z3_le l3_5 rfl lr3_5 qx1) ?_ ?_
    · exact sm_retV H
    · refine sm_rd (x_gR_6_2 H ha0) ?_
      refine sgxV fun c1 => ?_
      refine sm_wt (x_sI_6_2 H (ao_6_2 ha0) rfl c1 l3_0 lr3_0) fun h5 Hh5 => ?_
      refine sg3V fun c2 => ?_
      exact ih Hh5 ha0 (z3_add rfl l3_1) c2
theorem S6_makeNobodyBold_0 {h : PH} (H : OKX h) {a0 : Nat} (ha0 : A6 a0) : SimV OKX (F6_makeNobodyBold_0 h a0) (G6_makeNobodyBold_0 (rd h) a0) := by
  unfold F6_makeNobodyBold_0 G6_makeNobodyBold_0
  exact S6_makeNobodyBold_2 1024 H ha0 l3_0 lr3_0
theorem S6_makeNobodyBold {h : PH} (H : OKX h) {a0 : Nat} (ha0 : A6 a0) : SimV OKX (F6_makeNobodyBold h a0) (G6_makeNobodyBold (rd h) a0) := by
  unfold F6_makeNobodyBold G6_makeNobodyBold
  refine sm_cd (x_ok_6 H ha0) ?_
  exact S6_makeNobodyBold_0 H ha0
theorem S6_peakXAt_39 {h : PH} (H : OKX h) {a0 : Nat} (ha0 : A6 a0) {t0i : Int64} {t0 : Int} (et0 : t0i = Z6 t0) (qt0 : r6 t0) {t1i : Int64} {t1 : Int} (et1 : t1i = Z6 t1) (qt1 : r6 t1) : SimI OKX (F6_peakXAt_39 h a0 t0i t1i) (G6_peakXAt_39 (rd h) a0 t0 t1) := by
  subst et0 et1
  unfold F6_peakXAt_39 G6_peakXAt_39
  refine sm_rd (x_gR_6_0 H ha0) ?_
  refine sm_rd (x_gI_8_0 H (x_v_6_0 H ha0)).1 ?_
  refine sg6I fun c1 => ?_
  refine sg3I fun c2 => ?_
  refine sg3I fun c3 => ?_
  refine sg6I fun c4 => ?_
  refine sg6I fun c5 => ?_
  refine sg3I fun c6 => ?_
  refine sg3I fun c7 => ?_
  refine sg3I fun c8 => ?_
  exact sm_retI H (z6_to3 (z6_ite (z6_lt (z6_ite (z6_lt (z6_add rfl rfl) (z3_to6 (z3_sub rfl l3_1) c2) c1 (r3_6 c2)) (z6_add rfl rfl) (z3_to6 (z3_sub rfl l3_1) c3)) l6_0 c4 lr6_0) l6_0 (z6_ite (z6_lt (z6_add rfl rfl) (z3_to6 (z3_sub rfl l3_1) c6) c5 (r3_6 c6)) (z6_add rfl rfl) (z3_to6 (z3_sub rfl l3_1) c7)))) c8
theorem S6_peakXAt_0 {h : PH} (H : OKX h) {a0 : Nat} (ha0 : A6 a0) {x1i : Int32} {x1 : Int} (ex1 : x1i = Z3 x1) (qx1 : r3 x1) : SimI OKX (F6_peakXAt_0 h a0 x1i) (G6_peakXAt_0 (rd h) a0 x1) := by
  subst ex1
  unfold F6_peakXAt_0 G6_peakXAt_0
  refine sm_JI (S6_driftValue H ha0 rfl qx1) fun vo1 ho1 Ho1 ro1 => ?_
  refine sm_rd (x_gR_6_0 Ho1 ha0) ?_
  refine sm_rd (x_gI_8_2 Ho1 (x_v_6_0 Ho1 ha0)).1 ?_
  refine sm_if (cmp_eq rfl l6_m9223372036854775808 ro1 lr6_m9223372036854775808) ?_ ?_
  · exact S6_peakXAt_39 Ho1 ha0 l6_0 lr6_0 (z3_to6 rfl (x_gI_8_2 Ho1 (x_v_6_0 Ho1 ha0)).2) (r3_6 (x_gI_8_2 Ho1 (x_v_6_0 Ho1 ha0)).2)
  · exact S6_peakXAt_39 Ho1 ha0 (z6_ite (z6_lt (z6_ite (z6_lt rfl l6_8 ro1 lr6_8) rfl l6_8) l6_m8 (r6_ite ro1 lr6_8) lr6_m8) l6_m8 (z6_ite (z6_lt rfl l6_8 ro1 lr6_8) rfl l6_8)) (r6_ite lr6_m8 (r6_ite ro1 lr6_8)) (z3_to6 rfl (x_gI_8_2 Ho1 (x_v_6_0 Ho1 ha0)).2) (r3_6 (x_gI_8_2 Ho1 (x_v_6_0 Ho1 ha0)).2)
theorem S6_peakXAt {h : PH} (H : OKX h) {a0 : Nat} (ha0 : A6 a0) {x1i : Int32} {x1 : Int} (ex1 : x1i = Z3 x1) (qx1 : r3 x1) : SimI OKX (F6_peakXAt h a0 x1i) (G6_peakXAt (rd h) a0 x1) := by
  subst ex1
  unfold F6_peakXAt G6_peakXAt
  refine sm_cd (x_ok_6 H ha0) ?_
  exact S6_peakXAt_0 H ha0 rfl qx1
theorem S6_seatFrom_6 (n : Nat) : ∀ {h : PH} (H : OKX h) {a0 : Nat} (ha0 : A6 a0) {x1i : Int32} {x1 : Int} (ex1 : x1i = Z3 x1) (qx1 : r3 x1) {x2i : Int32} {x2 : Int} (ex2 : x2i = Z3 x2) (qx2 : r3 x2) {x4i : Int32} {x4 : Int} (ex4 : x4i = Z3 x4) (qx4 : r3 x4) {x5i : Int32} {x5 : Int} (ex5 : x5i = Z3 x5) (qx5 : r3 x5), SimI OKX (F6_seatFrom_6 n h a0 x1i x2i x4i x5i) (G6_seatFrom_6 n (rd h) a0 x1 x2 x4 x5) := by
  induction n with
  | zero => intros; exact smI_none _
  | succ n ih =>
    intro h H a0 ha0 x1i x1 ex1 qx1 x2i x2 ex2 qx2 x4i x4 ex4 qx4 x5i x5 ex5 qx5
    subst ex1 ex2 ex4 ex5
    rw [F6_seatFrom_6, G6_seatFrom_6]
    refine sm_rd (x_gR_6_0 H ha0) ?_
    refine sm_rd (x_gR_8_5 H (x_v_6_0 H ha0)) ?_
    refine sm_rd (x_gI_10_1 H (ao_8_5 (x_v_6_0 H ha0))).1 ?_
    refine sm_if (z3_le rfl rfl (x_gI_10_1 H (ao_8_5 (x_v_6_0 H ha0))).2 qx5) ?_ ?_
    · exact sm_retI H rfl qx4
    · refine sm_II (S6_worthAt H ha0 rfl qx1 rfl qx5 rfl qx2) fun vo8 ho8 Ho8 ro8 => ?_
      refine sg3I fun c1 => ?_
      refine sg3I fun c2 => ?_
      exact ih Ho8 ha0 rfl qx1 rfl qx2 (z3_add rfl rfl) c1 (z3_add rfl l3_1) c2
theorem S6_seatFrom_0 {h : PH} (H : OKX h) {a0 : Nat} (ha0 : A6 a0) {x1i : Int32} {x1 : Int} (ex1 : x1i = Z3 x1) (qx1 : r3 x1) {x2i : Int32} {x2 : Int} (ex2 : x2i = Z3 x2) (qx2 : r3 x2) {x3i : Int32} {x3 : Int} (ex3 : x3i = Z3 x3) (qx3 : r3 x3) : SimI OKX (F6_seatFrom_0 h a0 x1i x2i x3i) (G6_seatFrom_0 (rd h) a0 x1 x2 x3) := by
  subst ex1 ex2 ex3
  unfold F6_seatFrom_0 G6_seatFrom_0
  exact S6_seatFrom_6 1024 H ha0 rfl qx1 rfl qx2 l3_0 lr3_0 rfl qx3
theorem S6_seatFrom {h : PH} (H : OKX h) {a0 : Nat} (ha0 : A6 a0) {x1i : Int32} {x1 : Int} (ex1 : x1i = Z3 x1) (qx1 : r3 x1) {x2i : Int32} {x2 : Int} (ex2 : x2i = Z3 x2) (qx2 : r3 x2) {x3i : Int32} {x3 : Int} (ex3 : x3i = Z3 x3) (qx3 : r3 x3) : SimI OKX (F6_seatFrom h a0 x1i x2i x3i) (G6_seatFrom (rd h) a0 x1 x2 x3) := by
  subst ex1 ex2 ex3
  unfold F6_seatFrom G6_seatFrom
  refine sm_cd (x_ok_6 H ha0) ?_
  exact S6_seatFrom_0 H ha0 rfl qx1 rfl qx2 rfl qx3
theorem S6_takeAsTold_47 (n : Nat) : ∀ {h : PH} (H : OKX h) {a0 : Nat} (ha0 : A6 a0) {x2i : Int32} {x2 : Int} (ex2 : x2i = Z3 x2) (qx2 : r3 x2), SimV OKX (F6_takeAsTold_47 n h a0 x2i) (G6_takeAsTold_47 n (rd h) a0 x2) := by
  induction n with
  | zero => intros; exact smV_none _
  | succ n ih =>
    intro h H a0 ha0 x2i x2 ex2 qx2
    subst ex2
    rw [F6_takeAsTold_47, G6_takeAsTold_47]
    refine sm_rd (x_gR_6_0 H ha0) ?_
    refine sm_rd (x_gR_8_5 H (x_v_6_0 H ha0)) ?_
    refine sm_rd (x_gI_10_1 H (ao_8_5 (x_v_6_0 H ha0))).1 ?_
    refine sm_if (z3_le rfl rfl (x_gI_10_1 H (ao_8_5 (x_v_6_0 H ha0))).2 qx2) ?_ ?_
    · exact sm_retV H
    · refine sm_rd (x_gR_6_3 H ha0) ?_
      refine sm_rd (x_gR_6_0 H ha0) ?_
      refine sm_rd (x_gR_8_5 H (x_v_6_0 H ha0)) ?_
      refine sm_rd (x_gR_10_4 H (ao_8_5 (x_v_6_0 H ha0))) ?_
      refine sgxV fun c1 => ?_
      refine sm_rd (x_aI_10_4 H (ao_10_4 (ao_8_5 (x_v_6_0 H ha0))) rfl c1).1 ?_
      refine sm_IV (S6_peakXAt H ha0 rfl ((x_aI_10_4 H (ao_10_4 (ao_8_5 (x_v_6_0 H ha0))) rfl c1).2)) fun vo18 ho18 Ho18 ro18 => ?_
      refine sgxV fun c2 => ?_
      refine sm_wt (x_sI_6_3 Ho18 (ao_6_3 ha0) rfl c2 rfl ro18) fun h21 Hh21 => ?_
      refine sg3V fun c3 => ?_
      exact ih Hh21 ha0 (z3_add rfl l3_1) c3
theorem S6_takeAsTold_0 {h : PH} (H : OKX h) {a0 : Nat} (ha0 : A6 a0) {a1 : Nat} (ha1 : A8 a1) : SimV OKX (F6_takeAsTold_0 h a0 a1) (G6_takeAsTold_0 (rd h) a0 a1) := by
  unfold F6_takeAsTold_0 G6_takeAsTold_0
  refine sm_wt (x_pR_6_0 H ha0 ha1) fun h1 Hh1 => ?_
  refine sm_rd (x_gR_6_0 Hh1 ha0) ?_
  refine sm_rd (x_gR_8_4 Hh1 (x_v_6_0 Hh1 ha0)) ?_
  refine sm_rd (x_gR_1_3 Hh1 (ao_8_4 (x_v_6_0 Hh1 ha0))) ?_
  refine sm_rd (x_gR_6_1 Hh1 ha0) ?_
  refine sm_wt (x_cp Hh1 (x_row_1_3 Hh1 (ao_1_3 (ao_8_4 (x_v_6_0 Hh1 ha0)))) (x_row_6_1 Hh1 (ao_6_1 ha0)) l3_0 l3_0 l3_5 (by decide) (by decide) (by decide) (nr_6_1 (ao_6_1 ha0))) fun h11 Hh11 => ?_
  refine sm_rd (x_gR_6_0 Hh11 ha0) ?_
  refine sm_rd (x_gR_8_4 Hh11 (x_v_6_0 Hh11 ha0)) ?_
  refine sm_rd (x_gR_1_5 Hh11 (ao_8_4 (x_v_6_0 Hh11 ha0))) ?_
  refine sm_rd (x_gR_6_2 Hh11 ha0) ?_
  refine sm_wt (x_cp Hh11 (x_row_1_5 Hh11 (ao_1_5 (ao_8_4 (x_v_6_0 Hh11 ha0)))) (x_row_6_2 Hh11 (ao_6_2 ha0)) l3_0 l3_0 l3_5 (by decide) (by decide) (by decide) (nr_6_2 (ao_6_2 ha0))) fun h21 Hh21 => ?_
  exact S6_takeAsTold_47 1024 Hh21 ha0 l3_0 lr3_0
theorem S6_takeAsTold {h : PH} (H : OKX h) {a0 : Nat} (ha0 : A6 a0) {a1 : Nat} (ha1 : A8 a1) : SimV OKX (F6_takeAsTold h a0 a1) (G6_takeAsTold (rd h) a0 a1) := by
  unfold F6_takeAsTold G6_takeAsTold
  refine sm_cd (x_ok_6 H ha0) ?_
  exact S6_takeAsTold_0 H ha0 ha1
theorem S6_takeOver_0 {h : PH} (H : OKX h) {a0 : Nat} (ha0 : A6 a0) {a1 : Nat} (ha1 : A6 a1) : SimV OKX (F6_takeOver_0 h a0 a1) (G6_takeOver_0 (rd h) a0 a1) := by
  unfold F6_takeOver_0 G6_takeOver_0
  refine sm_rd (x_gR_6_0 H ha1) ?_
  refine sm_wt (x_pR_6_0 H ha0 (x_v_6_0 H ha1)) fun h3 Hh3 => ?_
  refine sm_rd (x_gR_6_1 Hh3 ha1) ?_
  refine sm_rd (x_gR_6_1 Hh3 ha0) ?_
  refine sm_wt (x_cp Hh3 (x_row_6_1 Hh3 (ao_6_1 ha1)) (x_row_6_1 Hh3 (ao_6_1 ha0)) l3_0 l3_0 l3_5 (by decide) (by decide) (by decide) (nr_6_1 (ao_6_1 ha0))) fun h9 Hh9 => ?_
  refine sm_rd (x_gR_6_2 Hh9 ha1) ?_
  refine sm_rd (x_gR_6_2 Hh9 ha0) ?_
  refine sm_wt (x_cp Hh9 (x_row_6_2 Hh9 (ao_6_2 ha1)) (x_row_6_2 Hh9 (ao_6_2 ha0)) l3_0 l3_0 l3_5 (by decide) (by decide) (by decide) (nr_6_2 (ao_6_2 ha0))) fun h15 Hh15 => ?_
  refine sm_rd (x_gR_6_3 Hh15 ha1) ?_
  refine sm_rd (x_gR_6_3 Hh15 ha0) ?_
  refine sm_wt (x_cp Hh15 (x_row_6_3 Hh15 (ao_6_3 ha1)) (x_row_6_3 Hh15 (ao_6_3 ha0)) l3_0 l3_0 l3_28 (by decide) (by decide) (by decide) (nr_6_3 (ao_6_3 ha0))) fun h21 Hh21 => ?_
  exact sm_retV Hh21
theorem S6_takeOver {h : PH} (H : OKX h) {a0 : Nat} (ha0 : A6 a0) {a1 : Nat} (ha1 : A6 a1) : SimV OKX (F6_takeOver h a0 a1) (G6_takeOver (rd h) a0 a1) := by
  unfold F6_takeOver G6_takeOver
  refine sm_cd (x_ok_6 H ha0) ?_
  exact S6_takeOver_0 H ha0 ha1
theorem S8_bankWaves_0 {h : PH} (H : OKX h) {a0 : Nat} (ha0 : A8 a0) {x1i : Int32} {x1 : Int} (ex1 : x1i = Z3 x1) (qx1 : r3 x1) {x2i : Int32} {x2 : Int} (ex2 : x2i = Z3 x2) (qx2 : r3 x2) : SimI OKX (F8_bankWaves_0 h a0 x1i x2i) (G8_bankWaves_0 (rd h) a0 x1 x2) := by
  subst ex1 ex2
  unfold F8_bankWaves_0 G8_bankWaves_0
  refine sm_rd (x_gI_8_6 H ha0).1 ?_
  refine sg3I fun c1 => ?_
  refine sm_if (z3_lt (z3_sub (z3_sub rfl rfl) rfl) l3_0 c1 lr3_0) ?_ ?_
  · exact sm_retI H l3_0 lr3_0
  · refine sm_rd (x_gI_8_7 H ha0).1 ?_
    refine sm_if (z3_le l3_1 rfl lr3_1 (x_gI_8_7 H ha0).2) ?_ ?_
    · refine sm_rd (x_gI_8_7 H ha0).1 ?_
      refine sm_if (z3_eq rfl l3_0 (x_gI_8_7 H ha0).2 lr3_0) ?_ ?_
      · exact smI_none _
      · refine sg3I fun c2 => ?_
        refine sgdI fun c3 => ?_
        refine sg3I fun c4 => ?_
        exact sm_retI H (z3_add (z3_div (z3_sub (z3_sub rfl rfl) rfl) rfl c2 (x_gI_8_7 H ha0).2 c3) l3_1) c4
    · exact sm_retI H l3_0 lr3_0
theorem S8_bankWaves {h : PH} (H : OKX h) {a0 : Nat} (ha0 : A8 a0) {x1i : Int32} {x1 : Int} (ex1 : x1i = Z3 x1) (qx1 : r3 x1) {x2i : Int32} {x2 : Int} (ex2 : x2i = Z3 x2) (qx2 : r3 x2) : SimI OKX (F8_bankWaves h a0 x1i x2i) (G8_bankWaves (rd h) a0 x1 x2) := by
  subst ex1 ex2
  unfold F8_bankWaves G8_bankWaves
  refine sm_cd (x_ok_8 H ha0) ?_
  exact S8_bankWaves_0 H ha0 rfl qx1 rfl qx2
theorem S8_cells_0 {h : PH} (H : OKX h) {a0 : Nat} (ha0 : A8 a0) : SimI OKX (F8_cells_0 h a0) (G8_cells_0 (rd h) a0) := by
  unfold F8_cells_0 G8_cells_0
  refine sm_rd (x_gI_8_0 H ha0).1 ?_
  refine sm_rd (x_gI_8_1 H ha0).1 ?_
  refine sg3I fun c1 => ?_
  exact sm_retI H (z3_mul rfl rfl) c1
theorem S8_cells {h : PH} (H : OKX h) {a0 : Nat} (ha0 : A8 a0) : SimI OKX (F8_cells h a0) (G8_cells (rd h) a0) := by
  unfold F8_cells G8_cells
  refine sm_cd (x_ok_8 H ha0) ?_
  exact S8_cells_0 H ha0
theorem S9_add_45 {h : PH} (H : OKX h) {x1i : Int32} {x1 : Int} (ex1 : x1i = Z3 x1) (qx1 : r3 x1) {x2i : Int32} {x2 : Int} (ex2 : x2i = Z3 x2) (qx2 : r3 x2) : SimV OKX (F9_add_45 h 96 x1i x2i) (G9_add_45 (rd h) x1 x2) := by
  subst ex1 ex2
  unfold F9_add_45 G9_add_45
  refine sm_rd (x_gR_9_1 H) ?_
  refine sm_rd (x_gI_9_0 H).1 ?_
  refine sgxV fun c1 => ?_
  refine sm_wt (x_sI_9_1 H rfl c1 rfl qx1) fun h6 Hh6 => ?_
  refine sm_rd (x_gR_9_2 Hh6) ?_
  refine sm_rd (x_gI_9_0 Hh6).1 ?_
  refine sgxV fun c2 => ?_
  refine sm_wt (x_sI_9_2 Hh6 rfl c2 rfl qx2) fun h12 Hh12 => ?_
  refine sm_rd (x_gI_9_0 Hh12).1 ?_
  refine sg3V fun c3 => ?_
  refine sm_wt (x_pI_9_0 Hh12 (z3_add rfl l3_1) c3) fun h15 Hh15 => ?_
  exact sm_retV Hh15
theorem S9_add_0 {h : PH} (H : OKX h) {x1i : Int32} {x1 : Int} (ex1 : x1i = Z3 x1) (qx1 : r3 x1) {x2i : Int32} {x2 : Int} (ex2 : x2i = Z3 x2) (qx2 : r3 x2) : SimV OKX (F9_add_0 h 96 x1i x2i) (G9_add_0 (rd h) x1 x2) := by
  subst ex1 ex2
  unfold F9_add_0 G9_add_0
  refine sm_rd (x_gI_9_0 H).1 ?_
  refine sm_if (z3_lt rfl l3_20 (x_gI_9_0 H).2 lr3_20) ?_ ?_
  · exact S9_add_45 H rfl qx1 rfl qx2
  · refine sm_rd (x_gR_9_1 H) ?_
    refine sm_rd (x_gR_9_1 H) ?_
    refine sm_wt (x_cp H (x_row_9_1 H) (x_row_9_1 H) l3_1 l3_0 l3_19 (by decide) (by decide) (by decide) (nr_9_1)) fun h8 Hh8 => ?_
    refine sm_rd (x_gR_9_2 Hh8) ?_
    refine sm_rd (x_gR_9_2 Hh8) ?_
    refine sm_wt (x_cp Hh8 (x_row_9_2 Hh8) (x_row_9_2 Hh8) l3_1 l3_0 l3_19 (by decide) (by decide) (by decide) (nr_9_2)) fun h14 Hh14 => ?_
    refine sm_wt (x_pI_9_0 Hh14 l3_19 lr3_19) fun h16 Hh16 => ?_
    exact S9_add_45 Hh16 rfl qx1 rfl qx2
theorem S9_add {h : PH} (H : OKX h) {x1i : Int32} {x1 : Int} (ex1 : x1i = Z3 x1) (qx1 : r3 x1) {x2i : Int32} {x2 : Int} (ex2 : x2i = Z3 x2) (qx2 : r3 x2) : SimV OKX (F9_add h 96 x1i x2i) (G9_add (rd h) x1 x2) := by
  subst ex1 ex2
  unfold F9_add G9_add
  refine sm_cd (x_ok_9 H) ?_
  exact S9_add_0 H rfl qx1 rfl qx2
theorem S10_isLargest_14 (n : Nat) : ∀ {h : PH} (H : OKX h) {a0 : Nat} (ha0 : A10 a0) {x1i : Int32} {x1 : Int} (ex1 : x1i = Z3 x1) (qx1 : r3 x1) {x3i : Int32} {x3 : Int} (ex3 : x3i = Z3 x3) (qx3 : r3 x3) {x4i : Int32} {x4 : Int} (ex4 : x4i = Z3 x4) (qx4 : r3 x4), SimI OKX (F10_isLargest_14 n h a0 x1i x3i x4i) (G10_isLargest_14 n (rd h) a0 x1 x3 x4) := by
  induction n with
  | zero => intros; exact smI_none _
  | succ n ih =>
    intro h H a0 ha0 x1i x1 ex1 qx1 x3i x3 ex3 qx3 x4i x4 ex4 qx4
    subst ex1 ex3 ex4
    rw [F10_isLargest_14, G10_isLargest_14]
    refine sm_rd (x_gR_10_3 H ha0) ?_
    refine sgxI fun c1 => ?_
    refine sm_rd (x_aI_10_3 H (ao_10_3 ha0) rfl c1).1 ?_
    refine sm_if (z3_le rfl rfl (x_aI_10_3 H (ao_10_3 ha0) rfl c1).2 qx4) ?_ ?_
    · exact sm_rz H l3_1 (by decide)
    · refine sm_rd (x_gR_10_5 H ha0) ?_
      refine sm_rd (x_gR_10_2 H ha0) ?_
      refine sgxI fun c2 => ?_
      refine sm_rd (x_aI_10_2 H (ao_10_2 ha0) rfl c2).1 ?_
      refine sgxI fun c3 => ?_
      refine sm_rd (x_aI_10_5 H (ao_10_5 ha0) (z3_add rfl rfl) c3).1 ?_
      refine sm_rd (x_gR_10_5 H ha0) ?_
      refine sgxI fun c4 => ?_
      refine sm_rd (x_aI_10_5 H (ao_10_5 ha0) rfl c4).1 ?_
      refine sm_if (z3_le rfl rfl (x_aI_10_5 H (ao_10_5 ha0) (z3_add rfl rfl) c3).2 (x_aI_10_5 H (ao_10_5 ha0) rfl c4).2) ?_ ?_
      · refine sg3I fun c5 => ?_
        exact ih H ha0 rfl qx1 rfl qx3 (z3_add rfl l3_1) c5
      · exact sm_rz H l3_0 (by decide)
theorem S10_isLargest_0 {h : PH} (H : OKX h) {a0 : Nat} (ha0 : A10 a0) {x1i : Int32} {x1 : Int} (ex1 : x1i = Z3 x1) (qx1 : r3 x1) {x2i : Int32} {x2 : Int} (ex2 : x2i = Z3 x2) (qx2 : r3 x2) : SimI OKX (F10_isLargest_0 h a0 x1i x2i) (G10_isLargest_0 (rd h) a0 x1 x2) := by
  subst ex1 ex2
  unfold F10_isLargest_0 G10_isLargest_0
  refine sm_rd (x_gR_10_2 H ha0) ?_
  refine sgxI fun c1 => ?_
  refine sm_rd (x_aI_10_2 H (ao_10_2 ha0) rfl c1).1 ?_
  refine sg3I fun c2 => ?_
  exact S10_isLargest_14 1024 H ha0 rfl qx1 (z3_sub (z3_add rfl rfl) l3_1) c2 l3_0 lr3_0
theorem S10_isLargest {h : PH} (H : OKX h) {a0 : Nat} (ha0 : A10 a0) {x1i : Int32} {x1 : Int} (ex1 : x1i = Z3 x1) (qx1 : r3 x1) {x2i : Int32} {x2 : Int} (ex2 : x2i = Z3 x2) (qx2 : r3 x2) : SimI OKX (F10_isLargest h a0 x1i x2i) (G10_isLargest (rd h) a0 x1 x2) := by
  subst ex1 ex2
  unfold F10_isLargest G10_isLargest
  refine sm_cd (x_ok_10 H ha0) ?_
  exact S10_isLargest_0 H ha0 rfl qx1 rfl qx2
theorem S10_lengthOf_0 {h : PH} (H : OKX h) {a0 : Nat} (ha0 : A10 a0) {x1i : Int32} {x1 : Int} (ex1 : x1i = Z3 x1) (qx1 : r3 x1) : SimI OKX (F10_lengthOf_0 h a0 x1i) (G10_lengthOf_0 (rd h) a0 x1) := by
  subst ex1
  unfold F10_lengthOf_0 G10_lengthOf_0
  refine sm_rd (x_gR_10_3 H ha0) ?_
  refine sgxI fun c1 => ?_
  refine sm_rd (x_aI_10_3 H (ao_10_3 ha0) rfl c1).1 ?_
  exact sm_retI H rfl (x_aI_10_3 H (ao_10_3 ha0) rfl c1).2
theorem S10_lengthOf {h : PH} (H : OKX h) {a0 : Nat} (ha0 : A10 a0) {x1i : Int32} {x1 : Int} (ex1 : x1i = Z3 x1) (qx1 : r3 x1) : SimI OKX (F10_lengthOf h a0 x1i) (G10_lengthOf (rd h) a0 x1) := by
  subst ex1
  unfold F10_lengthOf G10_lengthOf
  refine sm_cd (x_ok_10 H ha0) ?_
  exact S10_lengthOf_0 H ha0 rfl qx1
theorem S10_setFrom_2 (n : Nat) : ∀ {h : PH} (H : OKX h) {a0 : Nat} (ha0 : A10 a0) {x1i : Int32} {x1 : Int} (ex1 : x1i = Z3 x1) (qx1 : r3 x1) {x2i : Int32} {x2 : Int} (ex2 : x2i = Z3 x2) (qx2 : r3 x2), SimI OKX (F10_setFrom_2 n h a0 x1i x2i) (G10_setFrom_2 n (rd h) a0 x1 x2) := by
  induction n with
  | zero => intros; exact smI_none _
  | succ n ih =>
    intro h H a0 ha0 x1i x1 ex1 qx1 x2i x2 ex2 qx2
    subst ex1 ex2
    rw [F10_setFrom_2, G10_setFrom_2]
    refine sm_rd (x_gI_10_0 H ha0).1 ?_
    refine sm_if (z3_le rfl rfl (x_gI_10_0 H ha0).2 qx2) ?_ ?_
    · exact sm_retI H l3_m1 lr3_m1
    · refine sm_II (S10_firstMinute H ha0 rfl qx2) fun vo4 ho4 Ho4 ro4 => ?_
      refine sm_if (z3_lt rfl rfl ro4 qx1) ?_ ?_
      · refine sg3I fun c1 => ?_
        exact ih Ho4 ha0 rfl qx1 (z3_add rfl l3_1) c1
      · exact sm_retI Ho4 rfl qx2
theorem S10_setFrom_0 {h : PH} (H : OKX h) {a0 : Nat} (ha0 : A10 a0) {x1i : Int32} {x1 : Int} (ex1 : x1i = Z3 x1) (qx1 : r3 x1) : SimI OKX (F10_setFrom_0 h a0 x1i) (G10_setFrom_0 (rd h) a0 x1) := by
  subst ex1
  unfold F10_setFrom_0 G10_setFrom_0
  exact S10_setFrom_2 1024 H ha0 rfl qx1 l3_0 lr3_0
theorem S10_setFrom {h : PH} (H : OKX h) {a0 : Nat} (ha0 : A10 a0) {x1i : Int32} {x1 : Int} (ex1 : x1i = Z3 x1) (qx1 : r3 x1) : SimI OKX (F10_setFrom h a0 x1i) (G10_setFrom (rd h) a0 x1) := by
  subst ex1
  unfold F10_setFrom G10_setFrom
  refine sm_cd (x_ok_10 H ha0) ?_
  exact S10_setFrom_0 H ha0 rfl qx1
theorem S11_back_0 {h : PH} (H : OKX h) : SimI OKX (F11_back_0 h 0) (G11_back_0 (rd h)) := by
  unfold F11_back_0 G11_back_0
  refine sm_rd (x_gI_11_10 H).1 ?_
  refine sm_if (z3_eq rfl l3_0 (x_gI_11_10 H).2 lr3_0) ?_ ?_
  · exact sm_retI H l3_m1 lr3_m1
  · refine sm_rd (x_gR_11_7 H) ?_
    refine sm_rd (x_gR_11_9 H) ?_
    refine sm_VI (S4_takeAll H p4_69 p4_83) fun ho8 Ho8 => ?_
    refine sm_rd (x_gR_11_12 Ho8) ?_
    refine sm_wt (x_pI_9_0 Ho8 l3_0 lr3_0) fun h12 Hh12 => ?_
    refine sm_rd (x_gR_11_7 Hh12) ?_
    refine sm_rd (x_gI_4_0 Hh12 p4_69).1 ?_
    exact sm_retI Hh12 rfl (x_gI_4_0 Hh12 p4_69).2
theorem S11_back {h : PH} (H : OKX h) : SimI OKX (F11_back h 0) (G11_back (rd h)) := by
  unfold F11_back G11_back
  refine sm_cd (x_ok_11 H) ?_
  exact S11_back_0 H
theorem S11_beginAnew_0 {h : PH} (H : OKX h) : SimV OKX (F11_beginAnew_0 h 0) (G11_beginAnew_0 (rd h)) := by
  unfold F11_beginAnew_0 G11_beginAnew_0
  refine sm_rd (x_gR_11_5 H) ?_
  refine sm_rd (x_gR_11_3 H) ?_
  refine sm_VV (S6_takeAsTold H p6_51 (x_v_11_3 H)) fun ho5 Ho5 => ?_
  refine sm_rd (x_gR_11_7 Ho5) ?_
  refine sm_rd (x_gR_11_3 Ho5) ?_
  refine sm_VV (S4_begin Ho5 p4_69 (x_v_11_3 Ho5)) fun ho11 Ho11 => ?_
  refine sm_rd (x_gR_11_11 Ho11) ?_
  refine sm_wt (x_pI_3_0 Ho11 l3_0 lr3_0) fun h15 Hh15 => ?_
  refine sm_rd (x_gR_11_11 Hh15) ?_
  refine sm_wt (x_pI_3_1 Hh15 l3_m1 lr3_m1) fun h19 Hh19 => ?_
  refine sm_rd (x_gR_11_12 Hh19) ?_
  refine sm_wt (x_pI_9_0 Hh19 l3_0 lr3_0) fun h23 Hh23 => ?_
  refine sm_wt (x_pZ_11_10 Hh23 l3_0 (by decide)) fun h25 Hh25 => ?_
  exact sm_retV Hh25
theorem S11_beginAnew {h : PH} (H : OKX h) : SimV OKX (F11_beginAnew h 0) (G11_beginAnew (rd h)) := by
  unfold F11_beginAnew G11_beginAnew
  refine sm_cd (x_ok_11 H) ?_
  exact S11_beginAnew_0 H
theorem S11_isSurfer_0 {h : PH} (H : OKX h) {x1i : Int32} {x1 : Int} (ex1 : x1i = Z3 x1) (qx1 : r3 x1) : SimI OKX (F11_isSurfer_0 h 0 x1i) (G11_isSurfer_0 (rd h) x1) := by
  subst ex1
  unfold F11_isSurfer_0 G11_isSurfer_0
  refine sm_if (z3_lt rfl l3_0 qx1 lr3_0) ?_ ?_
  · exact sm_rz H l3_0 (by decide)
  · refine sm_rd (x_gR_11_3 H) ?_
    refine sm_rd (x_gR_8_4 H (x_v_11_3 H)) ?_
    refine sm_rd (x_gI_1_0 H (ao_8_4 (x_v_11_3 H))).1 ?_
    refine sm_if (z3_le rfl rfl (x_gI_1_0 H (ao_8_4 (x_v_11_3 H))).2 qx1) ?_ ?_
    · exact sm_rz H l3_0 (by decide)
    · exact sm_rz H l3_1 (by decide)
theorem S11_isSurfer {h : PH} (H : OKX h) {x1i : Int32} {x1 : Int} (ex1 : x1i = Z3 x1) (qx1 : r3 x1) : SimI OKX (F11_isSurfer h 0 x1i) (G11_isSurfer (rd h) x1) := by
  subst ex1
  unfold F11_isSurfer G11_isSurfer
  refine sm_cd (x_ok_11 H) ?_
  exact S11_isSurfer_0 H rfl qx1
theorem S11_firstToCome_0 {h : PH} (H : OKX h) : SimI OKX (F11_firstToCome_0 h 0) (G11_firstToCome_0 (rd h)) := by
  unfold F11_firstToCome_0 G11_firstToCome_0
  refine sm_rd (x_gR_11_3 H) ?_
  refine sm_rd (x_gR_8_5 H (x_v_11_3 H)) ?_
  refine sm_rd (x_gR_11_7 H) ?_
  refine sm_rd (x_gI_4_0 H p4_69).1 ?_
  refine sm_II (S10_firstFrom H (ao_8_5 (x_v_11_3 H)) rfl ((x_gI_4_0 H p4_69).2)) fun vo9 ho9 Ho9 ro9 => ?_
  exact sm_retI Ho9 rfl ro9
theorem S11_firstToCome {h : PH} (H : OKX h) : SimI OKX (F11_firstToCome h 0) (G11_firstToCome (rd h)) := by
  unfold F11_firstToCome G11_firstToCome
  refine sm_cd (x_ok_11 H) ?_
  exact S11_firstToCome_0 H
theorem S11_best_17 (n : Nat) : ∀ {h : PH} (H : OKX h) {x1i : Int32} {x1 : Int} (ex1 : x1i = Z3 x1) (qx1 : r3 x1) {x2i : Int32} {x2 : Int} (ex2 : x2i = Z3 x2) (qx2 : r3 x2) {x3i : Int32} {x3 : Int} (ex3 : x3i = Z3 x3) (qx3 : r3 x3) {x4i : Int32} {x4 : Int} (ex4 : x4i = Z3 x4) (qx4 : r3 x4), SimI OKX (F11_best_17 n h 0 x1i x2i x3i x4i) (G11_best_17 n (rd h) x1 x2 x3 x4) := by
  induction n with
  | zero => intros; exact smI_none _
  | succ n ih =>
    intro h H x1i x1 ex1 qx1 x2i x2 ex2 qx2 x3i x3 ex3 qx3 x4i x4 ex4 qx4
    subst ex1 ex2 ex3 ex4
    rw [F11_best_17, G11_best_17]
    refine sm_rd (x_gR_11_3 H) ?_
    refine sm_II (S8_cells H (x_v_11_3 H)) fun vo3 ho3 Ho3 ro3 => ?_
    refine sm_if (z3_le rfl rfl ro3 qx4) ?_ ?_
    · exact sm_retI Ho3 rfl qx2
    · refine sm_rd (x_gR_11_5 Ho3) ?_
      refine sm_II (S11_firstToCome Ho3) fun vo8 ho8 Ho8 ro8 => ?_
      refine sm_II (S6_seatFrom Ho8 p6_51 rfl qx1 rfl qx4 rfl ro8) fun vo10 ho10 Ho10 ro10 => ?_
      refine sm_if (z3_le rfl rfl ro10 qx3) ?_ ?_
      · refine sg3I fun c1 => ?_
        exact ih Ho10 rfl qx1 rfl qx2 rfl qx3 (z3_add rfl l3_1) c1
      · refine sg3I fun c2 => ?_
        exact ih Ho10 rfl qx1 rfl qx4 rfl ro10 (z3_add rfl l3_1) c2
theorem S11_best_0 {h : PH} (H : OKX h) {x1i : Int32} {x1 : Int} (ex1 : x1i = Z3 x1) (qx1 : r3 x1) : SimI OKX (F11_best_0 h 0 x1i) (G11_best_0 (rd h) x1) := by
  subst ex1
  unfold F11_best_0 G11_best_0
  refine sm_II (S11_isSurfer H rfl qx1) fun vo1 ho1 Ho1 ro1 => ?_
  refine sm_if (z3_eq rfl l3_0 ro1 lr3_0) ?_ ?_
  · exact sm_retI Ho1 l3_m1 lr3_m1
  · exact S11_best_17 1024 Ho1 rfl qx1 l3_0 lr3_0 l3_m1 lr3_m1 l3_0 lr3_0
theorem S11_best {h : PH} (H : OKX h) {x1i : Int32} {x1 : Int} (ex1 : x1i = Z3 x1) (qx1 : r3 x1) : SimI OKX (F11_best h 0 x1i) (G11_best (rd h) x1) := by
  subst ex1
  unfold F11_best G11_best
  refine sm_cd (x_ok_11 H) ?_
  exact S11_best_0 H rfl qx1
theorem S11_runBy_18 (n : Nat) : ∀ {h : PH} (H : OKX h) {x3i : Int32} {x3 : Int} (ex3 : x3i = Z3 x3) (qx3 : r3 x3), SimV OKX (F11_runBy_18 n h 0 x3i) (G11_runBy_18 n (rd h) x3) := by
  induction n with
  | zero => intros; exact smV_none _
  | succ n ih =>
    intro h H x3i x3 ex3 qx3
    subst ex3
    rw [F11_runBy_18, G11_runBy_18]
    refine sm_rd (x_gR_11_3 H) ?_
    refine sm_rd (x_gR_8_5 H (x_v_11_3 H)) ?_
    refine sm_rd (x_gI_10_1 H (ao_8_5 (x_v_11_3 H))).1 ?_
    refine sm_if (z3_le rfl rfl (x_gI_10_1 H (ao_8_5 (x_v_11_3 H))).2 qx3) ?_ ?_
    · exact sm_retV H
    · refine sm_rd (x_gR_11_5 H) ?_
      refine sm_rd (x_gR_11_8 H) ?_
      refine sm_VV (S6_bringWave H p6_51 p4_76 rfl qx3) fun ho12 Ho12 => ?_
      refine sg3V fun c1 => ?_
      exact ih Ho12 (z3_add rfl l3_1) c1
theorem S11_runBy_0 {h : PH} (H : OKX h) {x1i : Int32} {x1 : Int} (ex1 : x1i = Z3 x1) (qx1 : r3 x1) {x2i : Int32} {x2 : Int} (ex2 : x2i = Z3 x2) (qx2 : r3 x2) : SimV OKX (F11_runBy_0 h 0 x1i x2i) (G11_runBy_0 (rd h) x1 x2) := by
  subst ex1 ex2
  unfold F11_runBy_0 G11_runBy_0
  refine sm_rd (x_gR_11_8 H) ?_
  refine sm_rd (x_gR_11_7 H) ?_
  refine sm_VV (S4_takeForRun H p4_76 p4_69 rfl qx1 rfl qx2) fun ho5 Ho5 => ?_
  refine sm_IV (S11_firstToCome Ho5) fun vo7 ho7 Ho7 ro7 => ?_
  exact S11_runBy_18 1024 Ho7 rfl ro7
theorem S11_runBy {h : PH} (H : OKX h) {x1i : Int32} {x1 : Int} (ex1 : x1i = Z3 x1) (qx1 : r3 x1) {x2i : Int32} {x2 : Int} (ex2 : x2i = Z3 x2) (qx2 : r3 x2) : SimV OKX (F11_runBy h 0 x1i x2i) (G11_runBy (rd h) x1 x2) := by
  subst ex1 ex2
  unfold F11_runBy G11_runBy
  refine sm_cd (x_ok_11 H) ?_
  exact S11_runBy_0 H rfl qx1 rfl qx2
theorem S11_chance_33 (n : Nat) : ∀ {h : PH} (H : OKX h) {x2i : Int32} {x2 : Int} (ex2 : x2i = Z3 x2) (qx2 : r3 x2) {x3i : Int32} {x3 : Int} (ex3 : x3i = Z3 x3) (qx3 : r3 x3) {x4i : Int32} {x4 : Int} (ex4 : x4i = Z3 x4) (qx4 : r3 x4) {x5i : Int32} {x5 : Int} (ex5 : x5i = Z3 x5) (qx5 : r3 x5) {x6i : Int32} {x6 : Int} (ex6 : x6i = Z3 x6) (qx6 : r3 x6), SimI OKX (F11_chance_33 n h 0 x2i x3i x4i x5i x6i) (G11_chance_33 n (rd h) x2 x3 x4 x5 x6) := by
  induction n with
  | zero => intros; exact smI_none _
  | succ n ih =>
    intro h H x2i x2 ex2 qx2 x3i x3 ex3 qx3 x4i x4 ex4 qx4 x5i x5 ex5 qx5 x6i x6 ex6 qx6
    subst ex2 ex3 ex4 ex5 ex6
    rw [F11_chance_33, G11_chance_33]
    refine sm_if (z3_le l3_10 rfl lr3_10 qx6) ?_ ?_
    · exact sm_retI H rfl qx4
    · refine sm_rd (x_gR_11_7 H) ?_
      refine sm_rd (x_gI_4_1 H p4_69).1 ?_
      refine sm_VI (S11_runBy H rfl ((x_gI_4_1 H p4_69).2) rfl qx5) fun ho6 Ho6 => ?_
      refine sm_rd (x_gR_11_8 Ho6) ?_
      refine sm_rd (x_gI_4_2 Ho6 p4_76).1 ?_
      refine sm_rd (x_gR_11_8 Ho6) ?_
      refine sm_rd (x_gR_4_6 Ho6 p4_76) ?_
      refine sgxI fun c1 => ?_
      refine sm_rd (x_aI_4_6 Ho6 (ao_4_6 p4_76) rfl c1).1 ?_
      refine sm_if (z3_lt rfl rfl (x_aI_4_6 Ho6 (ao_4_6 p4_76) rfl c1).2 qx3) ?_ ?_
      · refine sg3I fun c2 => ?_
        exact ih Ho6 rfl qx2 rfl qx3 rfl qx4 rfl ((x_gI_4_2 Ho6 p4_76).2) (z3_add rfl l3_1) c2
      · refine sg3I fun c3 => ?_
        refine sg3I fun c4 => ?_
        exact ih Ho6 rfl qx2 rfl qx3 (z3_add rfl l3_1) c3 rfl ((x_gI_4_2 Ho6 p4_76).2) (z3_add rfl l3_1) c4
theorem S11_chance_0 {h : PH} (H : OKX h) {x1i : Int32} {x1 : Int} (ex1 : x1i = Z3 x1) (qx1 : r3 x1) {x2i : Int32} {x2 : Int} (ex2 : x2i = Z3 x2) (qx2 : r3 x2) {x3i : Int32} {x3 : Int} (ex3 : x3i = Z3 x3) (qx3 : r3 x3) : SimI OKX (F11_chance_0 h 0 x1i x2i x3i) (G11_chance_0 (rd h) x1 x2 x3) := by
  subst ex1 ex2 ex3
  unfold F11_chance_0 G11_chance_0
  refine sm_if (z3_lt rfl l3_0 qx1 lr3_0) ?_ ?_
  · exact sm_retI H l3_m1 lr3_m1
  · refine sm_II (S11_isSurfer H rfl qx2) fun vo2 ho2 Ho2 ro2 => ?_
    refine sm_if (z3_eq rfl l3_0 ro2 lr3_0) ?_ ?_
    · exact sm_retI Ho2 l3_m1 lr3_m1
    · refine sm_if (z3_lt rfl l3_0 qx3 lr3_0) ?_ ?_
      · exact sm_retI Ho2 l3_m1 lr3_m1
      · refine sm_if (z3_le rfl l3_28 qx3 lr3_28) ?_ ?_
        · exact S11_chance_33 1024 Ho2 rfl qx2 rfl qx3 l3_0 lr3_0 rfl qx1 l3_0 lr3_0
        · exact sm_retI Ho2 l3_m1 lr3_m1
theorem S11_chance {h : PH} (H : OKX h) {x1i : Int32} {x1 : Int} (ex1 : x1i = Z3 x1) (qx1 : r3 x1) {x2i : Int32} {x2 : Int} (ex2 : x2i = Z3 x2) (qx2 : r3 x2) {x3i : Int32} {x3 : Int} (ex3 : x3i = Z3 x3) (qx3 : r3 x3) : SimI OKX (F11_chance h 0 x1i x2i x3i) (G11_chance (rd h) x1 x2 x3) := by
  subst ex1 ex2 ex3
  unfold F11_chance G11_chance
  refine sm_cd (x_ok_11 H) ?_
  exact S11_chance_0 H rfl qx1 rfl qx2 rfl qx3
theorem S11_changeTrial_0 {h : PH} (H : OKX h) {x1i : Int32} {x1 : Int} (ex1 : x1i = Z3 x1) (qx1 : r3 x1) {x2i : Int32} {x2 : Int} (ex2 : x2i = Z3 x2) (qx2 : r3 x2) : SimV OKX (F11_changeTrial_0 h 0 x1i x2i) (G11_changeTrial_0 (rd h) x1 x2) := by
  subst ex1 ex2
  unfold F11_changeTrial_0 G11_changeTrial_0
  refine sm_if (z3_eq rfl l3_0 qx1 lr3_0) ?_ ?_
  · refine sm_rd (x_gR_11_6 H) ?_
    refine sm_VV (S6_makeNobodyBold H p6_60) fun ho4 Ho4 => ?_
    exact sm_retV Ho4
  · refine sm_if (z3_eq rfl l3_1 qx1 lr3_1) ?_ ?_
    · refine sm_rd (x_gR_11_8 H) ?_
      refine sm_VV (S4_leaveOut H p4_76 rfl qx2) fun ho9 Ho9 => ?_
      exact sm_retV Ho9
    · refine sm_if (z3_eq rfl l3_2 qx1 lr3_2) ?_ ?_
      · refine sm_rd (x_gR_11_6 H) ?_
        refine sm_VV (S6_holdPeak H p6_60) fun ho14 Ho14 => ?_
        exact sm_retV Ho14
      · refine sm_if (z3_eq rfl l3_3 qx1 lr3_3) ?_ ?_
        · refine sm_rd (x_gR_11_6 H) ?_
          refine sm_VV (S6_giveBoards H p6_60 l3_9 lr3_9) fun ho19 Ho19 => ?_
          exact sm_retV Ho19
        · refine sm_rd (x_gR_11_8 H) ?_
          refine sm_rd (x_gR_11_8 H) ?_
          refine sm_rd (x_gR_4_5 H p4_76) ?_
          refine sgxV fun c1 => ?_
          refine sm_rd (x_aI_4_5 H (ao_4_5 p4_76) rfl c1).1 ?_
          refine sm_VV (S4_seatAll H p4_76 rfl ((x_aI_4_5 H (ao_4_5 p4_76) rfl c1).2)) fun ho29 Ho29 => ?_
          exact sm_retV Ho29
theorem S11_changeTrial {h : PH} (H : OKX h) {x1i : Int32} {x1 : Int} (ex1 : x1i = Z3 x1) (qx1 : r3 x1) {x2i : Int32} {x2 : Int} (ex2 : x2i = Z3 x2) (qx2 : r3 x2) : SimV OKX (F11_changeTrial h 0 x1i x2i) (G11_changeTrial (rd h) x1 x2) := by
  subst ex1 ex2
  unfold F11_changeTrial G11_changeTrial
  refine sm_cd (x_ok_11 H) ?_
  exact S11_changeTrial_0 H rfl qx1 rfl qx2
theorem S11_count_0 {h : PH} (H : OKX h) {x1i : Int32} {x1 : Int} (ex1 : x1i = Z3 x1) (qx1 : r3 x1) : SimI OKX (F11_count_0 h 0 x1i) (G11_count_0 (rd h) x1) := by
  subst ex1
  unfold F11_count_0 G11_count_0
  refine sm_if (z3_eq rfl l3_0 qx1 lr3_0) ?_ ?_
  · refine sm_rd (x_gR_11_3 H) ?_
    refine sm_rd (x_gI_8_0 H (x_v_11_3 H)).1 ?_
    exact sm_retI H rfl (x_gI_8_0 H (x_v_11_3 H)).2
  · refine sm_if (z3_eq rfl l3_1 qx1 lr3_1) ?_ ?_
    · refine sm_rd (x_gR_11_3 H) ?_
      refine sm_rd (x_gI_8_1 H (x_v_11_3 H)).1 ?_
      exact sm_retI H rfl (x_gI_8_1 H (x_v_11_3 H)).2
    · refine sm_if (z3_eq rfl l3_2 qx1 lr3_2) ?_ ?_
      · refine sm_rd (x_gR_11_3 H) ?_
        refine sm_rd (x_gR_8_4 H (x_v_11_3 H)) ?_
        refine sm_rd (x_gI_1_0 H (ao_8_4 (x_v_11_3 H))).1 ?_
        exact sm_retI H rfl (x_gI_1_0 H (ao_8_4 (x_v_11_3 H))).2
      · refine sm_if (z3_eq rfl l3_3 qx1 lr3_3) ?_ ?_
        · refine sm_rd (x_gR_11_3 H) ?_
          refine sm_rd (x_gR_8_5 H (x_v_11_3 H)) ?_
          refine sm_rd (x_gI_10_0 H (ao_8_5 (x_v_11_3 H))).1 ?_
          exact sm_retI H rfl (x_gI_10_0 H (ao_8_5 (x_v_11_3 H))).2
        · refine sm_if (z3_eq rfl l3_4 qx1 lr3_4) ?_ ?_
          · refine sm_rd (x_gR_11_3 H) ?_
            refine sm_rd (x_gR_8_5 H (x_v_11_3 H)) ?_
            refine sm_rd (x_gI_10_1 H (ao_8_5 (x_v_11_3 H))).1 ?_
            exact sm_retI H rfl (x_gI_10_1 H (ao_8_5 (x_v_11_3 H))).2
          · refine sm_if (z3_eq rfl l3_5 qx1 lr3_5) ?_ ?_
            · refine sm_rd (x_gR_11_3 H) ?_
              refine sm_rd (x_gI_8_13 H (x_v_11_3 H)).1 ?_
              exact sm_retI H rfl (x_gI_8_13 H (x_v_11_3 H)).2
            · refine sm_if (z3_eq rfl l3_6 qx1 lr3_6) ?_ ?_
              · refine sm_rd (x_gR_11_7 H) ?_
                refine sm_rd (x_gI_4_0 H p4_69).1 ?_
                exact sm_retI H rfl (x_gI_4_0 H p4_69).2
              · refine sm_if (z3_eq rfl l3_7 qx1 lr3_7) ?_ ?_
                · refine sm_rd (x_gR_11_7 H) ?_
                  refine sm_rd (x_gI_4_1 H p4_69).1 ?_
                  exact sm_retI H rfl (x_gI_4_1 H p4_69).2
                · refine sm_if (z3_eq rfl l3_8 qx1 lr3_8) ?_ ?_
                  · refine sm_rd (x_gR_11_7 H) ?_
                    refine sm_rd (x_gI_4_3 H p4_69).1 ?_
                    exact sm_retI H rfl (x_gI_4_3 H p4_69).2
                  · refine sm_if (z3_eq rfl l3_9 qx1 lr3_9) ?_ ?_
                    · refine sm_rd (x_gR_11_7 H) ?_
                      refine sm_rd (x_gI_4_4 H p4_69).1 ?_
                      exact sm_retI H rfl (x_gI_4_4 H p4_69).2
                    · refine sm_if (z3_eq rfl l3_10 qx1 lr3_10) ?_ ?_
                      · refine sm_rd (x_gR_11_3 H) ?_
                        refine sm_rd (x_gR_8_5 H (x_v_11_3 H)) ?_
                        refine sm_rd (x_gI_10_1 H (ao_8_5 (x_v_11_3 H))).1 ?_
                        refine sm_II (S11_firstToCome H) fun vo64 ho64 Ho64 ro64 => ?_
                        refine sg3I fun c1 => ?_
                        exact sm_retI Ho64 (z3_sub rfl rfl) c1
                      · refine sm_if (z3_eq rfl l3_11 qx1 lr3_11) ?_ ?_
                        · refine sm_rd (x_gR_11_11 H) ?_
                          refine sm_rd (x_gI_3_0 H).1 ?_
                          exact sm_retI H rfl (x_gI_3_0 H).2
                        · refine sm_if (z3_eq rfl l3_12 qx1 lr3_12) ?_ ?_
                          · refine sm_rd (x_gR_11_11 H) ?_
                            refine sm_II (S3_howManyKnown H) fun vo74 ho74 Ho74 ro74 => ?_
                            exact sm_retI Ho74 rfl ro74
                          · refine sm_if (z3_eq rfl l3_13 qx1 lr3_13) ?_ ?_
                            · refine sm_rd (x_gR_11_12 H) ?_
                              refine sm_rd (x_gI_9_0 H).1 ?_
                              exact sm_retI H rfl (x_gI_9_0 H).2
                            · exact sm_retI H l3_m1 lr3_m1
theorem S11_count {h : PH} (H : OKX h) {x1i : Int32} {x1 : Int} (ex1 : x1i = Z3 x1) (qx1 : r3 x1) : SimI OKX (F11_count h 0 x1i) (G11_count (rd h) x1) := by
  subst ex1
  unfold F11_count G11_count
  refine sm_cd (x_ok_11 H) ?_
  exact S11_count_0 H rfl qx1
theorem S11_farNow_0 {h : PH} (H : OKX h) {x1i : Int32} {x1 : Int} (ex1 : x1i = Z3 x1) (qx1 : r3 x1) : SimI OKX (F11_farNow_0 h 0 x1i) (G11_farNow_0 (rd h) x1) := by
  subst ex1
  unfold F11_farNow_0 G11_farNow_0
  refine sm_rd (x_gR_11_3 H) ?_
  refine sm_rd (x_gR_11_7 H) ?_
  refine sm_rd (x_gR_4_5 H p4_69) ?_
  refine sgxI fun c1 => ?_
  refine sm_rd (x_aI_4_5 H (ao_4_5 p4_69) rfl c1).1 ?_
  refine sm_rd (x_gR_11_5 H) ?_
  refine sm_rd (x_gR_11_7 H) ?_
  refine sm_rd (x_gI_4_0 H p4_69).1 ?_
  refine sm_II (S6_peakXAt H p6_51 rfl ((x_gI_4_0 H p4_69).2)) fun vo15 ho15 Ho15 ro15 => ?_
  refine sm_II (S8_farFrom Ho15 (x_v_11_3 H) rfl ((x_aI_4_5 H (ao_4_5 p4_69) rfl c1).2) rfl ro15) fun vo17 ho17 Ho17 ro17 => ?_
  exact sm_retI Ho17 rfl ro17
/-! The pure functions do so (written by wip/gen/gx.py). -/
theorem S11_farNow {h : PH} (H : OKX h) {x1i : Int32} {x1 : Int} (ex1 : x1i = Z3 x1) (qx1 : r3 x1) : SimI OKX (F11_farNow h 0 x1i) (G11_farNow (rd h) x1) := by
  subst ex1
  unfold F11_farNow G11_farNow
  refine sm_cd (x_ok_11 H) ?_
  exact S11_farNow_0 H rfl qx1
theorem S11_deeper_0 {h : PH} (H : OKX h) {x1i : Int32} {x1 : Int} (ex1 : x1i = Z3 x1) (qx1 : r3 x1) {x2i : Int32} {x2 : Int} (ex2 : x2i = Z3 x2) (qx2 : r3 x2) : SimI OKX (F11_deeper_0 h 0 x1i x2i) (G11_deeper_0 (rd h) x1 x2) := by
  subst ex1 ex2
  unfold F11_deeper_0 G11_deeper_0
  refine sm_II (S11_isSurfer H rfl qx1) fun vo1 ho1 Ho1 ro1 => ?_
  refine sm_if (z3_eq rfl l3_0 ro1 lr3_0) ?_ ?_
  · exact sm_retI Ho1 l3_m1 lr3_m1
  · refine sm_II (S11_isSurfer Ho1 rfl qx2) fun vo4 ho4 Ho4 ro4 => ?_
    refine sm_if (z3_eq rfl l3_0 ro4 lr3_0) ?_ ?_
    · exact sm_retI Ho4 l3_m1 lr3_m1
    · refine sm_II (S11_farNow Ho4 rfl qx1) fun vo7 ho7 Ho7 ro7 => ?_
      refine sm_II (S11_farNow Ho7 rfl qx2) fun vo9 ho9 Ho9 ro9 => ?_
      refine sm_if (z3_eq rfl rfl ro7 ro9) ?_ ?_
      · exact sm_retI Ho9 l3_0 lr3_0
      · refine sm_if (z3_le rfl rfl ro9 ro7) ?_ ?_
        · exact sm_retI Ho9 l3_2 lr3_2
        · exact sm_retI Ho9 l3_1 lr3_1
theorem S11_deeper {h : PH} (H : OKX h) {x1i : Int32} {x1 : Int} (ex1 : x1i = Z3 x1) (qx1 : r3 x1) {x2i : Int32} {x2 : Int} (ex2 : x2i = Z3 x2) (qx2 : r3 x2) : SimI OKX (F11_deeper h 0 x1i x2i) (G11_deeper (rd h) x1 x2) := by
  subst ex1 ex2
  unfold F11_deeper G11_deeper
  refine sm_cd (x_ok_11 H) ?_
  exact S11_deeper_0 H rfl qx1 rfl qx2
theorem S11_fairest_89 {k16 : PH → Nat → Int32 → Int32 → Int32 → Int32 → Int32 → Option (Int32 × PH)} {kk16 : Mem → Int → Int → Int → Int → Int → Option (Int × Mem)} (hk16 : ∀ {h : PH} (_ : OKX h) {x2 : Int32} {y2 : Int} (_ : x2 = Z3 y2) (_ : r3 y2) {x3 : Int32} {y3 : Int} (_ : x3 = Z3 y3) (_ : r3 y3) {x4 : Int32} {y4 : Int} (_ : x4 = Z3 y4) (_ : r3 y4) {x5 : Int32} {y5 : Int} (_ : x5 = Z3 y5) (_ : r3 y5) {x6 : Int32} {y6 : Int} (_ : x6 = Z3 y6) (_ : r3 y6), SimI OKX (k16 h 0 x2 x3 x4 x5 x6) (kk16 (rd h) y2 y3 y4 y5 y6)) {h : PH} (H : OKX h) {x1i : Int32} {x1 : Int} (ex1 : x1i = Z3 x1) (qx1 : r3 x1) {x5i : Int32} {x5 : Int} (ex5 : x5i = Z3 x5) (qx5 : r3 x5) {x6i : Int32} {x6 : Int} (ex6 : x6i = Z3 x6) (qx6 : r3 x6) {x7i : Int32} {x7 : Int} (ex7 : x7i = Z3 x7) (qx7 : r3 x7) : SimI OKX (F11_fairest_89 k16 h 0 x1i x5i x6i x7i) (G11_fairest_89 kk16 (rd h) x1 x5 x6 x7) := by
  subst ex1 ex5 ex6 ex7
  unfold F11_fairest_89 G11_fairest_89
  refine sg3I fun c1 => ?_
  exact hk16 H rfl qx1 rfl qx5 rfl qx6 rfl qx7 (z3_add rfl l3_1) c1
theorem S11_fairest_16 (n : Nat) : ∀ {h : PH} (H : OKX h) {x1i : Int32} {x1 : Int} (ex1 : x1i = Z3 x1) (qx1 : r3 x1) {x2i : Int32} {x2 : Int} (ex2 : x2i = Z3 x2) (qx2 : r3 x2) {x3i : Int32} {x3 : Int} (ex3 : x3i = Z3 x3) (qx3 : r3 x3) {x4i : Int32} {x4 : Int} (ex4 : x4i = Z3 x4) (qx4 : r3 x4) {x5i : Int32} {x5 : Int} (ex5 : x5i = Z3 x5) (qx5 : r3 x5), SimI OKX (F11_fairest_16 n h 0 x1i x2i x3i x4i x5i) (G11_fairest_16 n (rd h) x1 x2 x3 x4 x5) := by
  induction n with
  | zero => intros; exact smI_none _
  | succ n ih =>
    intro h H x1i x1 ex1 qx1 x2i x2 ex2 qx2 x3i x3 ex3 qx3 x4i x4 ex4 qx4 x5i x5 ex5 qx5
    subst ex1 ex2 ex3 ex4 ex5
    rw [F11_fairest_16, G11_fairest_16]
    refine sm_if (z3_le l3_4 rfl lr3_4 qx5) ?_ ?_
    · exact sm_retI H rfl qx2
    · refine sm_VI (S11_runBy H rfl qx5 rfl qx1) fun ho2 Ho2 => ?_
      refine sm_rd (x_gR_11_8 Ho2) ?_
      refine sm_rd (x_gR_11_3 Ho2) ?_
      refine sm_rd (x_gR_8_4 Ho2 (x_v_11_3 Ho2)) ?_
      refine sm_rd (x_gI_1_0 Ho2 (ao_8_4 (x_v_11_3 Ho2))).1 ?_
      refine sm_II (S4_unlike Ho2 p4_76 rfl ((x_gI_1_0 Ho2 (ao_8_4 (x_v_11_3 Ho2))).2)) fun vo12 ho12 Ho12 ro12 => ?_
      refine sm_rd (x_gR_11_8 Ho12) ?_
      refine sm_rd (x_gI_4_3 Ho12 p4_76).1 ?_
      refine sm_rd (x_gR_11_8 Ho12) ?_
      refine sm_rd (x_gI_4_4 Ho12 p4_76).1 ?_
      refine sm_if (z3_eq rfl l3_m1 qx2 lr3_m1) ?_ ?_
      · refine sg3I fun c1 => ?_
        exact S11_fairest_89 (@fun _ H _ _ ex1 qx1 _ _ ex2 qx2 _ _ ex3 qx3 _ _ ex4 qx4 _ _ ex5 qx5 => ih H ex1 qx1 ex2 qx2 ex3 qx3 ex4 qx4 ex5 qx5) Ho12 rfl qx1 rfl qx5 rfl ro12 (z3_add rfl rfl) c1
      · refine sm_if (z3_lt rfl rfl ro12 qx3) ?_ ?_
        · refine sg3I fun c2 => ?_
          exact S11_fairest_89 (@fun _ H _ _ ex1 qx1 _ _ ex2 qx2 _ _ ex3 qx3 _ _ ex4 qx4 _ _ ex5 qx5 => ih H ex1 qx1 ex2 qx2 ex3 qx3 ex4 qx4 ex5 qx5) Ho12 rfl qx1 rfl qx5 rfl ro12 (z3_add rfl rfl) c2
        · refine sm_if (z3_eq rfl rfl ro12 qx3) ?_ ?_
          · refine sg3I fun c3 => ?_
            refine sm_if (z3_le rfl (z3_add rfl rfl) qx4 c3) ?_ ?_
            · refine sg3I fun c4 => ?_
              exact ih Ho12 rfl qx1 rfl qx2 rfl qx3 rfl qx4 (z3_add rfl l3_1) c4
            · refine sg3I fun c5 => ?_
              exact S11_fairest_89 (@fun _ H _ _ ex1 qx1 _ _ ex2 qx2 _ _ ex3 qx3 _ _ ex4 qx4 _ _ ex5 qx5 => ih H ex1 qx1 ex2 qx2 ex3 qx3 ex4 qx4 ex5 qx5) Ho12 rfl qx1 rfl qx5 rfl ro12 (z3_add rfl rfl) c5
          · refine sg3I fun c6 => ?_
            exact ih Ho12 rfl qx1 rfl qx2 rfl qx3 rfl qx4 (z3_add rfl l3_1) c6
theorem S11_fairest_0 {h : PH} (H : OKX h) {x1i : Int32} {x1 : Int} (ex1 : x1i = Z3 x1) (qx1 : r3 x1) : SimI OKX (F11_fairest_0 h 0 x1i) (G11_fairest_0 (rd h) x1) := by
  subst ex1
  unfold F11_fairest_0 G11_fairest_0
  refine sm_if (z3_le l3_0 rfl lr3_0 qx1) ?_ ?_
  · exact S11_fairest_16 1024 H rfl qx1 l3_m1 lr3_m1 l3_0 lr3_0 l3_0 lr3_0 l3_0 lr3_0
  · exact sm_retI H l3_m1 lr3_m1
theorem S11_fairest {h : PH} (H : OKX h) {x1i : Int32} {x1 : Int} (ex1 : x1i = Z3 x1) (qx1 : r3 x1) : SimI OKX (F11_fairest h 0 x1i) (G11_fairest (rd h) x1) := by
  subst ex1
  unfold F11_fairest G11_fairest
  refine sm_cd (x_ok_11 H) ?_
  exact S11_fairest_0 H rfl qx1
theorem S11_fault_0 {h : PH} (H : OKX h) {x1i : Int32} {x1 : Int} (ex1 : x1i = Z3 x1) (qx1 : r3 x1) : SimI OKX (F11_fault_0 h 0 x1i) (G11_fault_0 (rd h) x1) := by
  subst ex1
  unfold F11_fault_0 G11_fault_0
  refine sm_if (z3_eq rfl l3_0 qx1 lr3_0) ?_ ?_
  · refine sm_rd (x_gR_11_2 H) ?_
    refine sm_rd (x_gI_5_8 H).1 ?_
    exact sm_retI H rfl (x_gI_5_8 H).2
  · refine sm_if (z3_eq rfl l3_1 qx1 lr3_1) ?_ ?_
    · refine sm_rd (x_gR_11_2 H) ?_
      refine sm_rd (x_gI_5_9 H).1 ?_
      exact sm_retI H rfl (x_gI_5_9 H).2
    · exact sm_retI H l3_m1 lr3_m1
theorem S11_fault {h : PH} (H : OKX h) {x1i : Int32} {x1 : Int} (ex1 : x1i = Z3 x1) (qx1 : r3 x1) : SimI OKX (F11_fault h 0 x1i) (G11_fault (rd h) x1) := by
  subst ex1
  unfold F11_fault G11_fault
  refine sm_cd (x_ok_11 H) ?_
  exact S11_fault_0 H rfl qx1
theorem S11_putOnTape_3 (n : Nat) : ∀ {h : PH} (H : OKX h) {x1i : Int32} {x1 : Int} (ex1 : x1i = Z3 x1) (qx1 : r3 x1) {x2i : Int32} {x2 : Int} (ex2 : x2i = Z3 x2) (qx2 : r3 x2), SimV OKX (F11_putOnTape_3 n h 0 x1i x2i) (G11_putOnTape_3 n (rd h) x1 x2) := by
  induction n with
  | zero => intros; exact smV_none _
  | succ n ih =>
    intro h H x1i x1 ex1 qx1 x2i x2 ex2 qx2
    subst ex1 ex2
    rw [F11_putOnTape_3, G11_putOnTape_3]
    refine sm_if (z3_lt rfl l3_0 qx2 lr3_0) ?_ ?_
    · exact sm_retV H
    · refine sm_rd (x_gI_11_1 H).1 ?_
      refine sm_if (z3_le l3_700 rfl lr3_700 (x_gI_11_1 H).2) ?_ ?_
      · exact sm_retV H
      · refine sm_rd (x_gR_11_0 H) ?_
        refine sm_rd (x_gI_11_1 H).1 ?_
        refine sgxV fun c1 => ?_
        refine sm_wt (x_sI_11_0 H rfl c1 (z3_by (z3_sr rfl (z3_an rfl l3_31))) (r3_of _)) fun h10 Hh10 => ?_
        refine sm_rd (x_gI_11_1 Hh10).1 ?_
        refine sg3V fun c2 => ?_
        refine sm_wt (x_pI_11_1 Hh10 (z3_add rfl l3_1) c2) fun h13 Hh13 => ?_
        refine sg3V fun c3 => ?_
        exact ih Hh13 rfl qx1 (z3_add rfl l3_m8) c3
theorem S11_putOnTape_0 {h : PH} (H : OKX h) {x1i : Int32} {x1 : Int} (ex1 : x1i = Z3 x1) (qx1 : r3 x1) : SimV OKX (F11_putOnTape_0 h 0 x1i) (G11_putOnTape_0 (rd h) x1) := by
  subst ex1
  unfold F11_putOnTape_0 G11_putOnTape_0
  exact S11_putOnTape_3 1024 H rfl qx1 l3_24 lr3_24
theorem S11_putOnTape {h : PH} (H : OKX h) {x1i : Int32} {x1 : Int} (ex1 : x1i = Z3 x1) (qx1 : r3 x1) : SimV OKX (F11_putOnTape h 0 x1i) (G11_putOnTape (rd h) x1) := by
  subst ex1
  unfold F11_putOnTape G11_putOnTape
  refine sm_cd (x_ok_11 H) ?_
  exact S11_putOnTape_0 H rfl qx1
theorem S11_feed_0 {h : PH} (H : OKX h) {x1i : Int32} {x1 : Int} (ex1 : x1i = Z3 x1) (qx1 : r3 x1) {x2i : Int32} {x2 : Int} (ex2 : x2i = Z3 x2) (qx2 : r3 x2) {x3i : Int32} {x3 : Int} (ex3 : x3i = Z3 x3) (qx3 : r3 x3) {x4i : Int32} {x4 : Int} (ex4 : x4i = Z3 x4) (qx4 : r3 x4) {x5i : Int32} {x5 : Int} (ex5 : x5i = Z3 x5) (qx5 : r3 x5) : SimI OKX (F11_feed_0 h 0 x1i x2i x3i x4i x5i) (G11_feed_0 (rd h) x1 x2 x3 x4 x5) := by
  subst ex1 ex2 ex3 ex4 ex5
  unfold F11_feed_0 G11_feed_0
  refine sm_rd (x_gI_11_1 H).1 ?_
  refine sg3I fun c1 => ?_
  refine sm_if (z3_le (z3_add rfl l3_20) l3_700 c1 lr3_700) ?_ ?_
  · refine sm_VI (S11_putOnTape H rfl qx1) fun ho4 Ho4 => ?_
    refine sm_VI (S11_putOnTape Ho4 rfl qx2) fun ho6 Ho6 => ?_
    refine sm_VI (S11_putOnTape Ho6 rfl qx3) fun ho8 Ho8 => ?_
    refine sm_VI (S11_putOnTape Ho8 rfl qx4) fun ho10 Ho10 => ?_
    refine sm_VI (S11_putOnTape Ho10 rfl qx5) fun ho12 Ho12 => ?_
    refine sm_rd (x_gI_11_1 Ho12).1 ?_
    exact sm_retI Ho12 rfl (x_gI_11_1 Ho12).2
  · exact sm_retI H l3_m1 lr3_m1
theorem S11_feed {h : PH} (H : OKX h) {x1i : Int32} {x1 : Int} (ex1 : x1i = Z3 x1) (qx1 : r3 x1) {x2i : Int32} {x2 : Int} (ex2 : x2i = Z3 x2) (qx2 : r3 x2) {x3i : Int32} {x3 : Int} (ex3 : x3i = Z3 x3) (qx3 : r3 x3) {x4i : Int32} {x4 : Int} (ex4 : x4i = Z3 x4) (qx4 : r3 x4) {x5i : Int32} {x5 : Int} (ex5 : x5i = Z3 x5) (qx5 : r3 x5) : SimI OKX (F11_feed h 0 x1i x2i x3i x4i x5i) (G11_feed (rd h) x1 x2 x3 x4 x5) := by
  subst ex1 ex2 ex3 ex4 ex5
  unfold F11_feed G11_feed
  refine sm_cd (x_ok_11 H) ?_
  exact S11_feed_0 H rfl qx1 rfl qx2 rfl qx3 rfl qx4 rfl qx5
theorem S11_gaps_26 (n : Nat) : ∀ {h : PH} (H : OKX h) {x1i : Int32} {x1 : Int} (ex1 : x1i = Z3 x1) (qx1 : r3 x1) {x2i : Int32} {x2 : Int} (ex2 : x2i = Z3 x2) (qx2 : r3 x2) {x3i : Int32} {x3 : Int} (ex3 : x3i = Z3 x3) (qx3 : r3 x3) {x4i : Int32} {x4 : Int} (ex4 : x4i = Z3 x4) (qx4 : r3 x4), SimI OKX (F11_gaps_26 n h 0 x1i x2i x3i x4i) (G11_gaps_26 n (rd h) x1 x2 x3 x4) := by
  induction n with
  | zero => intros; exact smI_none _
  | succ n ih =>
    intro h H x1i x1 ex1 qx1 x2i x2 ex2 qx2 x3i x3 ex3 qx3 x4i x4 ex4 qx4
    subst ex1 ex2 ex3 ex4
    rw [F11_gaps_26, G11_gaps_26]
    refine sm_rd (x_gR_11_3 H) ?_
    refine sm_rd (x_gR_8_5 H (x_v_11_3 H)) ?_
    refine sm_rd (x_gI_10_0 H (ao_8_5 (x_v_11_3 H))).1 ?_
    refine sm_if (z3_le rfl rfl (x_gI_10_0 H (ao_8_5 (x_v_11_3 H))).2 qx4) ?_ ?_
    · exact sm_retI H rfl qx3
    · refine sm_rd (x_gR_11_3 H) ?_
      refine sm_rd (x_gR_8_5 H (x_v_11_3 H)) ?_
      refine sm_II (S10_firstMinute H (ao_8_5 (x_v_11_3 H)) rfl qx4) fun vo12 ho12 Ho12 ro12 => ?_
      refine sm_rd (x_gR_11_3 Ho12) ?_
      refine sm_rd (x_gR_8_5 Ho12 (x_v_11_3 Ho12)) ?_
      refine sg3I fun c1 => ?_
      refine sm_II (S10_lastMinute Ho12 (ao_8_5 (x_v_11_3 Ho12)) (z3_sub rfl l3_1) c1) fun vo18 ho18 Ho18 ro18 => ?_
      refine sm_if (z3_eq rfl l3_1 qx2 lr3_1) ?_ ?_
      · refine sg3I fun c2 => ?_
        refine sg3I fun c3 => ?_
        exact ih Ho18 rfl qx1 rfl qx2 (z3_add rfl l3_1) c2 (z3_add rfl l3_1) c3
      · refine sg3I fun c4 => ?_
        refine sm_if (z3_lt rfl (z3_sub rfl rfl) qx1 c4) ?_ ?_
        · refine sg3I fun c5 => ?_
          exact ih Ho18 rfl qx1 rfl qx2 rfl qx3 (z3_add rfl l3_1) c5
        · refine sg3I fun c6 => ?_
          refine sg3I fun c7 => ?_
          exact ih Ho18 rfl qx1 rfl qx2 (z3_add rfl l3_1) c6 (z3_add rfl l3_1) c7
theorem S11_gaps_0 {h : PH} (H : OKX h) {x1i : Int32} {x1 : Int} (ex1 : x1i = Z3 x1) (qx1 : r3 x1) {x2i : Int32} {x2 : Int} (ex2 : x2i = Z3 x2) (qx2 : r3 x2) : SimI OKX (F11_gaps_0 h 0 x1i x2i) (G11_gaps_0 (rd h) x1 x2) := by
  subst ex1 ex2
  unfold F11_gaps_0 G11_gaps_0
  refine sm_if (z3_lt rfl l3_0 qx1 lr3_0) ?_ ?_
  · exact sm_retI H l3_m1 lr3_m1
  · refine sm_if (z3_lt l3_99 rfl lr3_99 qx1) ?_ ?_
    · exact sm_retI H l3_m1 lr3_m1
    · refine sm_if (z3_lt rfl l3_0 qx2 lr3_0) ?_ ?_
      · exact sm_retI H l3_m1 lr3_m1
      · refine sm_if (z3_le rfl l3_1 qx2 lr3_1) ?_ ?_
        · exact S11_gaps_26 1024 H rfl qx1 rfl qx2 l3_0 lr3_0 l3_1 lr3_1
        · exact sm_retI H l3_m1 lr3_m1
theorem S11_gaps {h : PH} (H : OKX h) {x1i : Int32} {x1 : Int} (ex1 : x1i = Z3 x1) (qx1 : r3 x1) {x2i : Int32} {x2 : Int} (ex2 : x2i = Z3 x2) (qx2 : r3 x2) : SimI OKX (F11_gaps h 0 x1i x2i) (G11_gaps (rd h) x1 x2) := by
  subst ex1 ex2
  unfold F11_gaps G11_gaps
  refine sm_cd (x_ok_11 H) ?_
  exact S11_gaps_0 H rfl qx1 rfl qx2
theorem S11_give_0 {h : PH} (H : OKX h) {x1i : Int32} {x1 : Int} (ex1 : x1i = Z3 x1) (qx1 : r3 x1) {x2i : Int32} {x2 : Int} (ex2 : x2i = Z3 x2) (qx2 : r3 x2) {x3i : Int32} {x3 : Int} (ex3 : x3i = Z3 x3) (qx3 : r3 x3) : SimI OKX (F11_give_0 h 0 x1i x2i x3i) (G11_give_0 (rd h) x1 x2 x3) := by
  subst ex1 ex2 ex3
  unfold F11_give_0 G11_give_0
  refine sm_II (S11_isSurfer H rfl qx1) fun vo1 ho1 Ho1 ro1 => ?_
  refine sm_if (z3_eq rfl l3_0 ro1 lr3_0) ?_ ?_
  · exact sm_retI Ho1 l3_m1 lr3_m1
  · refine sm_II (S11_isSurfer Ho1 rfl qx2) fun vo4 ho4 Ho4 ro4 => ?_
    refine sm_if (z3_eq rfl l3_0 ro4 lr3_0) ?_ ?_
    · exact sm_retI Ho4 l3_m1 lr3_m1
    · refine sm_if (z3_eq rfl rfl qx1 qx2) ?_ ?_
      · exact sm_retI Ho4 l3_m1 lr3_m1
      · refine sm_if (z3_lt rfl l3_0 qx3 lr3_0) ?_ ?_
        · exact sm_retI Ho4 l3_m1 lr3_m1
        · refine sm_if (z3_le rfl l3_99 qx3 lr3_99) ?_ ?_
          · refine sm_rd (x_gR_11_3 Ho4) ?_
            refine sm_rd (x_gR_8_4 Ho4 (x_v_11_3 Ho4)) ?_
            refine sm_rd (x_gR_1_6 Ho4 (ao_8_4 (x_v_11_3 Ho4))) ?_
            refine sgxI fun c1 => ?_
            refine sm_rd (x_aI_1_6 Ho4 (ao_1_6 (ao_8_4 (x_v_11_3 Ho4))) rfl c1).1 ?_
            refine sg3I fun c2 => ?_
            refine sm_if (z3_le (z3_mul rfl rfl) l3_100 c2 lr3_100) ?_ ?_
            · exact sm_retI Ho4 l3_0 lr3_0
            · exact sm_retI Ho4 l3_1 lr3_1
          · exact sm_retI Ho4 l3_m1 lr3_m1
theorem S11_give {h : PH} (H : OKX h) {x1i : Int32} {x1 : Int} (ex1 : x1i = Z3 x1) (qx1 : r3 x1) {x2i : Int32} {x2 : Int} (ex2 : x2i = Z3 x2) (qx2 : r3 x2) {x3i : Int32} {x3 : Int} (ex3 : x3i = Z3 x3) (qx3 : r3 x3) : SimI OKX (F11_give h 0 x1i x2i x3i) (G11_give (rd h) x1 x2 x3) := by
  subst ex1 ex2 ex3
  unfold F11_give G11_give
  refine sm_cd (x_ok_11 H) ?_
  exact S11_give_0 H rfl qx1 rfl qx2 rfl qx3
theorem S11_isWave_0 {h : PH} (H : OKX h) {x1i : Int32} {x1 : Int} (ex1 : x1i = Z3 x1) (qx1 : r3 x1) : SimI OKX (F11_isWave_0 h 0 x1i) (G11_isWave_0 (rd h) x1) := by
  subst ex1
  unfold F11_isWave_0 G11_isWave_0
  refine sm_if (z3_lt rfl l3_0 qx1 lr3_0) ?_ ?_
  · exact sm_rz H l3_0 (by decide)
  · refine sm_rd (x_gR_11_3 H) ?_
    refine sm_rd (x_gR_8_5 H (x_v_11_3 H)) ?_
    refine sm_rd (x_gI_10_1 H (ao_8_5 (x_v_11_3 H))).1 ?_
    refine sm_if (z3_le rfl rfl (x_gI_10_1 H (ao_8_5 (x_v_11_3 H))).2 qx1) ?_ ?_
    · exact sm_rz H l3_0 (by decide)
    · exact sm_rz H l3_1 (by decide)
theorem S11_isWave {h : PH} (H : OKX h) {x1i : Int32} {x1 : Int} (ex1 : x1i = Z3 x1) (qx1 : r3 x1) : SimI OKX (F11_isWave h 0 x1i) (G11_isWave (rd h) x1) := by
  subst ex1
  unfold F11_isWave G11_isWave
  refine sm_cd (x_ok_11 H) ?_
  exact S11_isWave_0 H rfl qx1
theorem S11_isToCome_0 {h : PH} (H : OKX h) {x1i : Int32} {x1 : Int} (ex1 : x1i = Z3 x1) (qx1 : r3 x1) : SimI OKX (F11_isToCome_0 h 0 x1i) (G11_isToCome_0 (rd h) x1) := by
  subst ex1
  unfold F11_isToCome_0 G11_isToCome_0
  refine sm_II (S11_isWave H rfl qx1) fun vo1 ho1 Ho1 ro1 => ?_
  refine sm_if (z3_eq rfl l3_0 ro1 lr3_0) ?_ ?_
  · exact sm_rz Ho1 l3_0 (by decide)
  · refine sm_rd (x_gR_11_3 Ho1) ?_
    refine sm_rd (x_gR_8_5 Ho1 (x_v_11_3 Ho1)) ?_
    refine sm_rd (x_gR_10_4 Ho1 (ao_8_5 (x_v_11_3 Ho1))) ?_
    refine sgxI fun c1 => ?_
    refine sm_rd (x_aI_10_4 Ho1 (ao_10_4 (ao_8_5 (x_v_11_3 Ho1))) rfl c1).1 ?_
    refine sm_rd (x_gR_11_7 Ho1) ?_
    refine sm_rd (x_gI_4_0 Ho1 p4_69).1 ?_
    refine sm_if (z3_lt rfl rfl (x_aI_10_4 Ho1 (ao_10_4 (ao_8_5 (x_v_11_3 Ho1))) rfl c1).2 (x_gI_4_0 Ho1 p4_69).2) ?_ ?_
    · exact sm_rz Ho1 l3_0 (by decide)
    · exact sm_rz Ho1 l3_1 (by decide)
theorem S11_isToCome {h : PH} (H : OKX h) {x1i : Int32} {x1 : Int} (ex1 : x1i = Z3 x1) (qx1 : r3 x1) : SimI OKX (F11_isToCome h 0 x1i) (G11_isToCome (rd h) x1) := by
  subst ex1
  unfold F11_isToCome G11_isToCome
  refine sm_cd (x_ok_11 H) ?_
  exact S11_isToCome_0 H rfl qx1
theorem S11_go_0 {h : PH} (H : OKX h) {x1i : Int32} {x1 : Int} (ex1 : x1i = Z3 x1) (qx1 : r3 x1) {x2i : Int32} {x2 : Int} (ex2 : x2i = Z3 x2) (qx2 : r3 x2) {x3i : Int32} {x3 : Int} (ex3 : x3i = Z3 x3) (qx3 : r3 x3) : SimI OKX (F11_go_0 h 0 x1i x2i x3i) (G11_go_0 (rd h) x1 x2 x3) := by
  subst ex1 ex2 ex3
  unfold F11_go_0 G11_go_0
  refine sm_II (S11_isSurfer H rfl qx1) fun vo1 ho1 Ho1 ro1 => ?_
  refine sm_if (z3_eq rfl l3_0 ro1 lr3_0) ?_ ?_
  · exact sm_retI Ho1 l3_m1 lr3_m1
  · refine sm_II (S11_isToCome Ho1 rfl qx2) fun vo4 ho4 Ho4 ro4 => ?_
    refine sm_if (z3_eq rfl l3_0 ro4 lr3_0) ?_ ?_
    · exact sm_retI Ho4 l3_m1 lr3_m1
    · refine sm_if (z3_lt rfl l3_0 qx3 lr3_0) ?_ ?_
      · exact sm_retI Ho4 l3_m1 lr3_m1
      · refine sm_if (z3_le rfl l3_999 qx3 lr3_999) ?_ ?_
        · refine sm_rd (x_gR_11_5 Ho4) ?_
          refine sm_rd (x_gR_11_7 Ho4) ?_
          refine sm_rd (x_gR_4_5 Ho4 p4_69) ?_
          refine sgxI fun c1 => ?_
          refine sm_rd (x_aI_4_5 Ho4 (ao_4_5 p4_69) rfl c1).1 ?_
          refine sm_II (S6_worthAt Ho4 p6_51 rfl qx1 rfl qx2 rfl ((x_aI_4_5 Ho4 (ao_4_5 p4_69) rfl c1).2)) fun vo17 ho17 Ho17 ro17 => ?_
          refine sm_rd (x_gR_11_5 Ho17) ?_
          refine sm_rd (x_gR_11_7 Ho17) ?_
          refine sm_II (S6_crossingOdds Ho17 p6_51 p4_69 rfl qx1 rfl qx2) fun vo23 ho23 Ho23 ro23 => ?_
          refine sg3I fun c2 => ?_
          refine sm_if (z3_le rfl (z3_mul rfl rfl) ro17 c2) ?_ ?_
          · exact sm_retI Ho23 l3_0 lr3_0
          · exact sm_retI Ho23 l3_1 lr3_1
        · exact sm_retI Ho4 l3_m1 lr3_m1
theorem S11_go {h : PH} (H : OKX h) {x1i : Int32} {x1 : Int} (ex1 : x1i = Z3 x1) (qx1 : r3 x1) {x2i : Int32} {x2 : Int} (ex2 : x2i = Z3 x2) (qx2 : r3 x2) {x3i : Int32} {x3 : Int} (ex3 : x3i = Z3 x3) (qx3 : r3 x3) : SimI OKX (F11_go h 0 x1i x2i x3i) (G11_go (rd h) x1 x2 x3) := by
  subst ex1 ex2 ex3
  unfold F11_go G11_go
  refine sm_cd (x_ok_11 H) ?_
  exact S11_go_0 H rfl qx1 rfl qx2 rfl qx3
theorem S11_isCell_0 {h : PH} (H : OKX h) {x1i : Int32} {x1 : Int} (ex1 : x1i = Z3 x1) (qx1 : r3 x1) : SimI OKX (F11_isCell_0 h 0 x1i) (G11_isCell_0 (rd h) x1) := by
  subst ex1
  unfold F11_isCell_0 G11_isCell_0
  refine sm_if (z3_lt rfl l3_0 qx1 lr3_0) ?_ ?_
  · exact sm_rz H l3_0 (by decide)
  · refine sm_rd (x_gR_11_3 H) ?_
    refine sm_II (S8_cells H (x_v_11_3 H)) fun vo4 ho4 Ho4 ro4 => ?_
    refine sm_if (z3_le rfl rfl ro4 qx1) ?_ ?_
    · exact sm_rz Ho4 l3_0 (by decide)
    · exact sm_rz Ho4 l3_1 (by decide)
theorem S11_isCell {h : PH} (H : OKX h) {x1i : Int32} {x1 : Int} (ex1 : x1i = Z3 x1) (qx1 : r3 x1) : SimI OKX (F11_isCell h 0 x1i) (G11_isCell (rd h) x1) := by
  subst ex1
  unfold F11_isCell G11_isCell
  refine sm_cd (x_ok_11 H) ?_
  exact S11_isCell_0 H rfl qx1
theorem S11_isRule_0 {h : PH} (H : OKX h) {x1i : Int32} {x1 : Int} (ex1 : x1i = Z3 x1) (qx1 : r3 x1) : SimI OKX (F11_isRule_0 h x1i) (G11_isRule_0 (rd h) x1) := by
  subst ex1
  unfold F11_isRule_0 G11_isRule_0
  refine sm_if (z3_lt rfl l3_0 qx1 lr3_0) ?_ ?_
  · exact sm_rz H l3_0 (by decide)
  · refine sm_if (z3_le l3_4 rfl lr3_4 qx1) ?_ ?_
    · exact sm_rz H l3_0 (by decide)
    · exact sm_rz H l3_1 (by decide)
theorem S11_isRule {h : PH} (H : OKX h) {x1i : Int32} {x1 : Int} (ex1 : x1i = Z3 x1) (qx1 : r3 x1) : SimI OKX (F11_isRule h 0 x1i) (G11_isRule (rd h) x1) := by
  subst ex1
  unfold F11_isRule G11_isRule
  refine sm_cd (x_ok_11 H) ?_
  exact S11_isRule_0 H rfl qx1
theorem S11_keep_0 {h : PH} (H : OKX h) : SimI OKX (F11_keep_0 h 0) (G11_keep_0 (rd h)) := by
  unfold F11_keep_0 G11_keep_0
  refine sm_rd (x_gR_11_9 H) ?_
  refine sm_rd (x_gR_11_7 H) ?_
  refine sm_VI (S4_takeAll H p4_83 p4_69) fun ho5 Ho5 => ?_
  refine sm_wt (x_pZ_11_10 Ho5 l3_1 (by decide)) fun h7 Hh7 => ?_
  refine sm_rd (x_gR_11_7 Hh7) ?_
  refine sm_rd (x_gI_4_0 Hh7 p4_69).1 ?_
  exact sm_retI Hh7 rfl (x_gI_4_0 Hh7 p4_69).2
theorem S11_keep {h : PH} (H : OKX h) : SimI OKX (F11_keep h 0) (G11_keep (rd h)) := by
  unfold F11_keep G11_keep
  refine sm_cd (x_ok_11 H) ?_
  exact S11_keep_0 H
theorem S11_known_0 {h : PH} (H : OKX h) {x1i : Int32} {x1 : Int} (ex1 : x1i = Z3 x1) (qx1 : r3 x1) : SimI OKX (F11_known_0 h 0 x1i) (G11_known_0 (rd h) x1) := by
  subst ex1
  unfold F11_known_0 G11_known_0
  refine sm_if (z3_lt rfl l3_m1 qx1 lr3_m1) ?_ ?_
  · exact sm_rz H l3_0 (by decide)
  · refine sm_rd (x_gR_11_11 H) ?_
    refine sm_rd (x_gI_3_0 H).1 ?_
    refine sm_if (z3_le rfl rfl qx1 (x_gI_3_0 H).2) ?_ ?_
    · refine sm_rd (x_gR_11_11 H) ?_
      refine sm_wt (x_pI_3_1 H rfl qx1) fun h9 Hh9 => ?_
      exact sm_rz Hh9 l3_1 (by decide)
    · exact sm_rz H l3_0 (by decide)
theorem S11_known {h : PH} (H : OKX h) {x1i : Int32} {x1 : Int} (ex1 : x1i = Z3 x1) (qx1 : r3 x1) : SimI OKX (F11_known h 0 x1i) (G11_known (rd h) x1) := by
  subst ex1
  unfold F11_known G11_known
  refine sm_cd (x_ok_11 H) ?_
  exact S11_known_0 H rfl qx1
theorem S11_law_0 {h : PH} (H : OKX h) {x1i : Int32} {x1 : Int} (ex1 : x1i = Z3 x1) (qx1 : r3 x1) {x2i : Int32} {x2 : Int} (ex2 : x2i = Z3 x2) (qx2 : r3 x2) {x3i : Int32} {x3 : Int} (ex3 : x3i = Z3 x3) (qx3 : r3 x3) : SimJ OKX (F11_law_0 h 0 x1i x2i x3i) (G11_law_0 (rd h) x1 x2 x3) := by
  subst ex1 ex2 ex3
  unfold F11_law_0 G11_law_0
  refine sm_if (z3_eq rfl l3_2 qx1 lr3_2) ?_ ?_
  · refine sm_rd (x_gR_11_5 H) ?_
    refine sm_rd (x_gR_11_7 H) ?_
    refine sm_rd (x_gI_4_0 H p4_69).1 ?_
    refine sm_JJ (S6_driftValue H p6_51 rfl ((x_gI_4_0 H p4_69).2)) fun vo30 ho30 Ho30 ro30 => ?_
    exact sm_retJ Ho30 rfl ro30
  · refine sm_IJ (S11_isSurfer H rfl qx2) fun vo2 ho2 Ho2 ro2 => ?_
    refine sm_if (z3_eq rfl l3_0 ro2 lr3_0) ?_ ?_
    · exact sm_retJ Ho2 l6_m9223372036854775808 lr6_m9223372036854775808
    · refine sm_IJ (S11_isWave Ho2 rfl qx3) fun vo5 ho5 Ho5 ro5 => ?_
      refine sm_if (z3_eq rfl l3_0 ro5 lr3_0) ?_ ?_
      · exact sm_retJ Ho5 l6_m9223372036854775808 lr6_m9223372036854775808
      · refine sm_if (z3_eq rfl l3_0 qx1 lr3_0) ?_ ?_
        · refine sm_rd (x_gR_11_5 Ho5) ?_
          refine sm_rd (x_gR_11_7 Ho5) ?_
          refine sm_rd (x_gR_4_5 Ho5 p4_69) ?_
          refine sgxJ fun c1 => ?_
          refine sm_rd (x_aI_4_5 Ho5 (ao_4_5 p4_69) rfl c1).1 ?_
          refine sm_JJ (S6_catchValue Ho5 p6_51 rfl qx2 rfl qx3 rfl ((x_aI_4_5 Ho5 (ao_4_5 p4_69) rfl c1).2)) fun vo22 ho22 Ho22 ro22 => ?_
          exact sm_retJ Ho22 rfl ro22
        · refine sm_if (z3_eq rfl l3_1 qx1 lr3_1) ?_ ?_
          · refine sm_rd (x_gR_11_5 Ho5) ?_
            refine sm_JJ (S6_awayValue Ho5 p6_51 rfl qx2 rfl qx3) fun vo12 ho12 Ho12 ro12 => ?_
            exact sm_retJ Ho12 rfl ro12
          · exact sm_retJ Ho5 l6_m9223372036854775808 lr6_m9223372036854775808
theorem S11_law {h : PH} (H : OKX h) {x1i : Int32} {x1 : Int} (ex1 : x1i = Z3 x1) (qx1 : r3 x1) {x2i : Int32} {x2 : Int} (ex2 : x2i = Z3 x2) (qx2 : r3 x2) {x3i : Int32} {x3 : Int} (ex3 : x3i = Z3 x3) (qx3 : r3 x3) : SimJ OKX (F11_law h 0 x1i x2i x3i) (G11_law (rd h) x1 x2 x3) := by
  subst ex1 ex2 ex3
  unfold F11_law G11_law
  refine sm_cd (x_ok_11 H) ?_
  exact S11_law_0 H rfl qx1 rfl qx2 rfl qx3
theorem S11_locals_74 {k26 : PH → Nat → Int32 → Int32 → Int32 → Int32 → Option (Int32 × PH)} {kk26 : Mem → Int → Int → Int → Int → Option (Int × Mem)} (hk26 : ∀ {h : PH} (_ : OKX h) {x2 : Int32} {y2 : Int} (_ : x2 = Z3 y2) (_ : r3 y2) {x3 : Int32} {y3 : Int} (_ : x3 = Z3 y3) (_ : r3 y3) {x4 : Int32} {y4 : Int} (_ : x4 = Z3 y4) (_ : r3 y4) {x5 : Int32} {y5 : Int} (_ : x5 = Z3 y5) (_ : r3 y5), SimI OKX (k26 h 0 x2 x3 x4 x5) (kk26 (rd h) y2 y3 y4 y5)) {h : PH} (H : OKX h) {x1i : Int32} {x1 : Int} (ex1 : x1i = Z3 x1) (qx1 : r3 x1) {x2i : Int32} {x2 : Int} (ex2 : x2i = Z3 x2) (qx2 : r3 x2) {x3i : Int32} {x3 : Int} (ex3 : x3i = Z3 x3) (qx3 : r3 x3) {x4i : Int32} {x4 : Int} (ex4 : x4i = Z3 x4) (qx4 : r3 x4) {s0i : Int32} {s0 : Int} (es0 : s0i = Z3 s0) (qs0 : r3 s0) : SimI OKX (F11_locals_74 k26 h 0 x1i x2i x3i x4i s0i) (G11_locals_74 kk26 (rd h) x1 x2 x3 x4 s0) := by
  subst ex1 ex2 ex3 ex4 es0
  unfold F11_locals_74 G11_locals_74
  refine sm_if (z3_eq rfl l3_m1 qs0 lr3_m1) ?_ ?_
  · refine sg3I fun c1 => ?_
    exact hk26 H rfl qx1 rfl qx2 rfl qx3 (z3_add rfl l3_1) c1
  · refine sm_rd (x_gR_11_11 H) ?_
    refine sm_rd (x_gR_3_3 H) ?_
    refine sgxI fun c2 => ?_
    refine sm_rd (x_aI_3_3 H rfl c2).1 ?_
    refine sm_rd (x_gR_11_5 H) ?_
    refine sm_rd (x_gR_11_11 H) ?_
    refine sm_rd (x_gR_3_4 H) ?_
    refine sgxI fun c3 => ?_
    refine sm_rd (x_aI_3_4 H rfl c3).1 ?_
    refine sm_rd (x_gR_11_3 H) ?_
    refine sm_rd (x_gR_8_5 H (x_v_11_3 H)) ?_
    refine sm_rd (x_gR_10_2 H (ao_8_5 (x_v_11_3 H))) ?_
    refine sgxI fun c4 => ?_
    refine sm_rd (x_aI_10_2 H (ao_10_2 (ao_8_5 (x_v_11_3 H))) rfl c4).1 ?_
    refine sm_II (S6_farOf H p6_51 rfl ((x_aI_3_4 H rfl c3).2) rfl ((x_aI_10_2 H (ao_10_2 (ao_8_5 (x_v_11_3 H))) rfl c4).2)) fun vo24 ho24 Ho24 ro24 => ?_
    refine sm_if (z3_lt rfl rfl qx1 ro24) ?_ ?_
    · refine sg3I fun c5 => ?_
      exact hk26 Ho24 rfl qx1 rfl qx2 (z3_or rfl (z3_sl l3_1 (z3_an rfl l3_31))) (r3_of _) (z3_add rfl l3_1) c5
    · refine sg3I fun c6 => ?_
      exact hk26 Ho24 rfl qx1 (z3_or rfl (z3_sl l3_1 (z3_an rfl l3_31))) (r3_of _) rfl qx3 (z3_add rfl l3_1) c6
theorem S11_locals_26 (n : Nat) : ∀ {h : PH} (H : OKX h) {x1i : Int32} {x1 : Int} (ex1 : x1i = Z3 x1) (qx1 : r3 x1) {x2i : Int32} {x2 : Int} (ex2 : x2i = Z3 x2) (qx2 : r3 x2) {x3i : Int32} {x3 : Int} (ex3 : x3i = Z3 x3) (qx3 : r3 x3) {x4i : Int32} {x4 : Int} (ex4 : x4i = Z3 x4) (qx4 : r3 x4), SimI OKX (F11_locals_26 n h 0 x1i x2i x3i x4i) (G11_locals_26 n (rd h) x1 x2 x3 x4) := by
  induction n with
  | zero => intros; exact smI_none _
  | succ n ih =>
    intro h H x1i x1 ex1 qx1 x2i x2 ex2 qx2 x3i x3 ex3 qx3 x4i x4 ex4 qx4
    subst ex1 ex2 ex3 ex4
    rw [F11_locals_26, G11_locals_26]
    refine sm_rd (x_gR_11_11 H) ?_
    refine sm_II (S3_howManyKnown H) fun vo3 ho3 Ho3 ro3 => ?_
    refine sm_if (z3_le rfl rfl ro3 qx4) ?_ ?_
    · exact sm_retI Ho3 (z3_an rfl (z3_xo rfl l3_m1)) (r3_of _)
    · refine sm_rd (x_gR_11_11 Ho3) ?_
      refine sm_II (S3_isKnownSeat Ho3 rfl qx4) fun vo8 ho8 Ho8 ro8 => ?_
      refine sm_if (z3_eq rfl l3_0 ro8 lr3_0) ?_ ?_
      · exact S11_locals_74 (@fun _ H _ _ ex1 qx1 _ _ ex2 qx2 _ _ ex3 qx3 _ _ ex4 qx4 => ih H ex1 qx1 ex2 qx2 ex3 qx3 ex4 qx4) Ho8 rfl qx1 rfl qx2 rfl qx3 rfl qx4 l3_m1 lr3_m1
      · refine sm_rd (x_gR_11_3 Ho8) ?_
        refine sm_rd (x_gR_8_5 Ho8 (x_v_11_3 Ho8)) ?_
        refine sm_rd (x_gR_11_11 Ho8) ?_
        refine sm_rd (x_gR_3_2 Ho8) ?_
        refine sgxI fun c1 => ?_
        refine sm_rd (x_aI_3_2 Ho8 rfl c1).1 ?_
        refine sm_II (S10_setFrom Ho8 (ao_8_5 (x_v_11_3 Ho8)) rfl ((x_aI_3_2 Ho8 rfl c1).2)) fun vo21 ho21 Ho21 ro21 => ?_
        exact S11_locals_74 (@fun _ H _ _ ex1 qx1 _ _ ex2 qx2 _ _ ex3 qx3 _ _ ex4 qx4 => ih H ex1 qx1 ex2 qx2 ex3 qx3 ex4 qx4) Ho21 rfl qx1 rfl qx2 rfl qx3 rfl qx4 rfl ro21
theorem S11_locals_0 {h : PH} (H : OKX h) {x1i : Int32} {x1 : Int} (ex1 : x1i = Z3 x1) (qx1 : r3 x1) : SimI OKX (F11_locals_0 h 0 x1i) (G11_locals_0 (rd h) x1) := by
  subst ex1
  unfold F11_locals_0 G11_locals_0
  refine sm_if (z3_lt rfl l3_0 qx1 lr3_0) ?_ ?_
  · exact sm_retI H l3_m1 lr3_m1
  · refine sm_if (z3_le rfl l3_12 qx1 lr3_12) ?_ ?_
    · refine sm_rd (x_gR_11_11 H) ?_
      refine sm_VI (S3_findStruck H) fun ho5 Ho5 => ?_
      exact S11_locals_26 1024 Ho5 rfl qx1 l3_0 lr3_0 l3_0 lr3_0 l3_0 lr3_0
    · exact sm_retI H l3_m1 lr3_m1
theorem S11_locals {h : PH} (H : OKX h) {x1i : Int32} {x1 : Int} (ex1 : x1i = Z3 x1) (qx1 : r3 x1) : SimI OKX (F11_locals h 0 x1i) (G11_locals (rd h) x1) := by
  subst ex1
  unfold F11_locals G11_locals
  refine sm_cd (x_ok_11 H) ?_
  exact S11_locals_0 H rfl qx1
theorem S11_passMinute_66 {h : PH} (H : OKX h) : SimV OKX (F11_passMinute_66 h 0) (G11_passMinute_66 (rd h)) := by
  unfold F11_passMinute_66 G11_passMinute_66
  refine sm_rd (x_gR_11_7 H) ?_
  refine sm_rd (x_gR_11_3 H) ?_
  refine sm_rd (x_gR_8_4 H (x_v_11_3 H)) ?_
  refine sm_rd (x_gI_1_0 H (ao_8_4 (x_v_11_3 H))).1 ?_
  refine sm_VV (S4_beginMinute H p4_69 rfl ((x_gI_1_0 H (ao_8_4 (x_v_11_3 H))).2)) fun ho9 Ho9 => ?_
  refine sm_rd (x_gR_11_12 Ho9) ?_
  refine sm_wt (x_pI_9_0 Ho9 l3_0 lr3_0) fun h13 Hh13 => ?_
  exact sm_retV Hh13
theorem S11_passMinute_0 {h : PH} (H : OKX h) : SimV OKX (F11_passMinute_0 h 0) (G11_passMinute_0 (rd h)) := by
  unfold F11_passMinute_0 G11_passMinute_0
  refine sm_rd (x_gR_11_3 H) ?_
  refine sm_rd (x_gR_8_5 H (x_v_11_3 H)) ?_
  refine sm_rd (x_gR_11_7 H) ?_
  refine sm_rd (x_gI_4_0 H p4_69).1 ?_
  refine sm_IV (S10_firstFrom H (ao_8_5 (x_v_11_3 H)) rfl ((x_gI_4_0 H p4_69).2)) fun vo9 ho9 Ho9 ro9 => ?_
  refine sm_rd (x_gR_11_3 Ho9) ?_
  refine sm_rd (x_gR_8_5 Ho9 (x_v_11_3 Ho9)) ?_
  refine sm_rd (x_gI_10_1 Ho9 (ao_8_5 (x_v_11_3 Ho9))).1 ?_
  refine sm_if (z3_le rfl rfl (x_gI_10_1 Ho9 (ao_8_5 (x_v_11_3 Ho9))).2 ro9) ?_ ?_
  · exact S11_passMinute_66 Ho9
  · refine sm_rd (x_gR_11_3 Ho9) ?_
    refine sm_rd (x_gR_8_5 Ho9 (x_v_11_3 Ho9)) ?_
    refine sm_rd (x_gR_10_4 Ho9 (ao_8_5 (x_v_11_3 Ho9))) ?_
    refine sgxV fun c1 => ?_
    refine sm_rd (x_aI_10_4 Ho9 (ao_10_4 (ao_8_5 (x_v_11_3 Ho9))) rfl c1).1 ?_
    refine sm_rd (x_gR_11_7 Ho9) ?_
    refine sm_rd (x_gI_4_0 Ho9 p4_69).1 ?_
    refine sm_if (z3_eq rfl rfl (x_aI_10_4 Ho9 (ao_10_4 (ao_8_5 (x_v_11_3 Ho9))) rfl c1).2 (x_gI_4_0 Ho9 p4_69).2) ?_ ?_
    · refine sm_rd (x_gR_11_5 Ho9) ?_
      refine sm_rd (x_gR_11_7 Ho9) ?_
      refine sm_VV (S6_bringWave Ho9 p6_51 p4_69 rfl ro9) fun ho35 Ho35 => ?_
      exact S11_passMinute_66 Ho35
    · exact S11_passMinute_66 Ho9
theorem S11_passMinute {h : PH} (H : OKX h) : SimV OKX (F11_passMinute h 0) (G11_passMinute (rd h)) := by
  unfold F11_passMinute G11_passMinute
  refine sm_cd (x_ok_11 H) ?_
  exact S11_passMinute_0 H
theorem S11_minutes_29 (n : Nat) : ∀ {h : PH} (H : OKX h) {x1i : Int32} {x1 : Int} (ex1 : x1i = Z3 x1) (qx1 : r3 x1) {x2i : Int32} {x2 : Int} (ex2 : x2i = Z3 x2) (qx2 : r3 x2), SimI OKX (F11_minutes_29 n h 0 x1i x2i) (G11_minutes_29 n (rd h) x1 x2) := by
  induction n with
  | zero => intros; exact smI_none _
  | succ n ih =>
    intro h H x1i x1 ex1 qx1 x2i x2 ex2 qx2
    subst ex1 ex2
    rw [F11_minutes_29, G11_minutes_29]
    refine sm_if (z3_le rfl rfl qx1 qx2) ?_ ?_
    · refine sm_rd (x_gR_11_7 H) ?_
      refine sm_rd (x_gI_4_0 H p4_69).1 ?_
      exact sm_retI H rfl (x_gI_4_0 H p4_69).2
    · refine sm_VI (S11_passMinute H) fun ho6 Ho6 => ?_
      refine sg3I fun c1 => ?_
      exact ih Ho6 rfl qx1 (z3_add rfl l3_1) c1
theorem S11_minutes_0 {h : PH} (H : OKX h) {x1i : Int32} {x1 : Int} (ex1 : x1i = Z3 x1) (qx1 : r3 x1) : SimI OKX (F11_minutes_0 h 0 x1i) (G11_minutes_0 (rd h) x1) := by
  subst ex1
  unfold F11_minutes_0 G11_minutes_0
  refine sm_if (z3_lt rfl l3_0 qx1 lr3_0) ?_ ?_
  · exact sm_retI H l3_m1 lr3_m1
  · refine sm_if (z3_lt l3_99 rfl lr3_99 qx1) ?_ ?_
    · exact sm_retI H l3_m1 lr3_m1
    · refine sm_rd (x_gR_11_7 H) ?_
      refine sm_rd (x_gI_4_0 H p4_69).1 ?_
      refine sg3I fun c1 => ?_
      refine sm_if (z3_le (z3_add rfl rfl) l3_199 c1 lr3_199) ?_ ?_
      · exact S11_minutes_29 1024 H rfl qx1 l3_0 lr3_0
      · exact sm_retI H l3_m1 lr3_m1
theorem S11_minutes {h : PH} (H : OKX h) {x1i : Int32} {x1 : Int} (ex1 : x1i = Z3 x1) (qx1 : r3 x1) : SimI OKX (F11_minutes h 0 x1i) (G11_minutes (rd h) x1) := by
  subst ex1
  unfold F11_minutes G11_minutes
  refine sm_cd (x_ok_11 H) ?_
  exact S11_minutes_0 H rfl qx1
theorem S11_named_2 (n : Nat) : ∀ {h : PH} (H : OKX h) {x1i : Int32} {x1 : Int} (ex1 : x1i = Z3 x1) (qx1 : r3 x1) {x2i : Int32} {x2 : Int} (ex2 : x2i = Z3 x2) (qx2 : r3 x2), SimI OKX (F11_named_2 n h 0 x1i x2i) (G11_named_2 n (rd h) x1 x2) := by
  induction n with
  | zero => intros; exact smI_none _
  | succ n ih =>
    intro h H x1i x1 ex1 qx1 x2i x2 ex2 qx2
    subst ex1 ex2
    rw [F11_named_2, G11_named_2]
    refine sm_rd (x_gR_11_3 H) ?_
    refine sm_rd (x_gR_8_4 H (x_v_11_3 H)) ?_
    refine sm_rd (x_gI_1_0 H (ao_8_4 (x_v_11_3 H))).1 ?_
    refine sm_if (z3_le rfl rfl (x_gI_1_0 H (ao_8_4 (x_v_11_3 H))).2 qx2) ?_ ?_
    · exact sm_retI H l3_m1 lr3_m1
    · refine sm_rd (x_gR_11_3 H) ?_
      refine sm_rd (x_gR_8_4 H (x_v_11_3 H)) ?_
      refine sm_rd (x_gR_1_1 H (ao_8_4 (x_v_11_3 H))) ?_
      refine sgxI fun c1 => ?_
      refine sm_rd (x_aI_1_1 H (ao_1_1 (ao_8_4 (x_v_11_3 H))) rfl c1).1 ?_
      refine sm_if (z3_eq rfl rfl (x_aI_1_1 H (ao_1_1 (ao_8_4 (x_v_11_3 H))) rfl c1).2 qx1) ?_ ?_
      · exact sm_retI H rfl qx2
      · refine sg3I fun c2 => ?_
        exact ih H rfl qx1 (z3_add rfl l3_1) c2
theorem S11_named_0 {h : PH} (H : OKX h) {x1i : Int32} {x1 : Int} (ex1 : x1i = Z3 x1) (qx1 : r3 x1) : SimI OKX (F11_named_0 h 0 x1i) (G11_named_0 (rd h) x1) := by
  subst ex1
  unfold F11_named_0 G11_named_0
  exact S11_named_2 1024 H rfl qx1 l3_0 lr3_0
theorem S11_named {h : PH} (H : OKX h) {x1i : Int32} {x1 : Int} (ex1 : x1i = Z3 x1) (qx1 : r3 x1) : SimI OKX (F11_named h 0 x1i) (G11_named (rd h) x1) := by
  subst ex1
  unfold F11_named G11_named
  refine sm_cd (x_ok_11 H) ?_
  exact S11_named_0 H rfl qx1
theorem S11_next_0 {h : PH} (H : OKX h) : SimI OKX (F11_next_0 h 0) (G11_next_0 (rd h)) := by
  unfold F11_next_0 G11_next_0
  refine sm_rd (x_gR_11_3 H) ?_
  refine sm_rd (x_gR_8_5 H (x_v_11_3 H)) ?_
  refine sm_rd (x_gR_11_7 H) ?_
  refine sm_rd (x_gI_4_0 H p4_69).1 ?_
  refine sm_II (S10_setFrom H (ao_8_5 (x_v_11_3 H)) rfl ((x_gI_4_0 H p4_69).2)) fun vo9 ho9 Ho9 ro9 => ?_
  refine sm_if (z3_eq rfl l3_m1 ro9 lr3_m1) ?_ ?_
  · exact sm_retI Ho9 l3_m2 lr3_m2
  · refine sm_rd (x_gR_11_3 Ho9) ?_
    refine sm_rd (x_gR_8_5 Ho9 (x_v_11_3 Ho9)) ?_
    refine sm_II (S10_firstMinute Ho9 (ao_8_5 (x_v_11_3 Ho9)) rfl ro9) fun vo16 ho16 Ho16 ro16 => ?_
    refine sm_rd (x_gR_11_7 Ho16) ?_
    refine sm_rd (x_gI_4_0 Ho16 p4_69).1 ?_
    refine sg3I fun c1 => ?_
    exact sm_retI Ho16 (z3_sub rfl rfl) c1
theorem S11_next {h : PH} (H : OKX h) : SimI OKX (F11_next h 0) (G11_next (rd h)) := by
  unfold F11_next G11_next
  refine sm_cd (x_ok_11 H) ?_
  exact S11_next_0 H
theorem S11_note_0 {h : PH} (H : OKX h) {x1i : Int32} {x1 : Int} (ex1 : x1i = Z3 x1) (qx1 : r3 x1) {x2i : Int32} {x2 : Int} (ex2 : x2i = Z3 x2) (qx2 : r3 x2) {x3i : Int32} {x3 : Int} (ex3 : x3i = Z3 x3) (qx3 : r3 x3) : SimI OKX (F11_note_0 h 0 x1i x2i x3i) (G11_note_0 (rd h) x1 x2 x3) := by
  subst ex1 ex2 ex3
  unfold F11_note_0 G11_note_0
  refine sm_if (z3_lt rfl l3_0 qx1 lr3_0) ?_ ?_
  · exact sm_retI H l3_m1 lr3_m1
  · refine sm_if (z3_lt l3_199 rfl lr3_199 qx1) ?_ ?_
    · exact sm_retI H l3_m1 lr3_m1
    · refine sm_II (S11_isSurfer H rfl qx2) fun vo3 ho3 Ho3 ro3 => ?_
      refine sm_if (z3_eq rfl l3_0 ro3 lr3_0) ?_ ?_
      · exact sm_retI Ho3 l3_m1 lr3_m1
      · refine sm_II (S11_isCell Ho3 rfl qx3) fun vo6 ho6 Ho6 ro6 => ?_
        refine sm_if (z3_eq rfl l3_0 ro6 lr3_0) ?_ ?_
        · exact sm_retI Ho6 l3_m1 lr3_m1
        · refine sm_rd (x_gR_11_11 Ho6) ?_
          refine sm_II (S3_addSeat Ho6 rfl qx1 rfl qx2 rfl qx3) fun vo11 ho11 Ho11 ro11 => ?_
          exact sm_retI Ho11 rfl ro11
theorem S11_note {h : PH} (H : OKX h) {x1i : Int32} {x1 : Int} (ex1 : x1i = Z3 x1) (qx1 : r3 x1) {x2i : Int32} {x2 : Int} (ex2 : x2i = Z3 x2) (qx2 : r3 x2) {x3i : Int32} {x3 : Int} (ex3 : x3i = Z3 x3) (qx3 : r3 x3) : SimI OKX (F11_note h 0 x1i x2i x3i) (G11_note (rd h) x1 x2 x3) := by
  subst ex1 ex2 ex3
  unfold F11_note G11_note
  refine sm_cd (x_ok_11 H) ?_
  exact S11_note_0 H rfl qx1 rfl qx2 rfl qx3
theorem S11_odds_0 {h : PH} (H : OKX h) {x1i : Int32} {x1 : Int} (ex1 : x1i = Z3 x1) (qx1 : r3 x1) {x2i : Int32} {x2 : Int} (ex2 : x2i = Z3 x2) (qx2 : r3 x2) {x3i : Int32} {x3 : Int} (ex3 : x3i = Z3 x3) (qx3 : r3 x3) : SimI OKX (F11_odds_0 h 0 x1i x2i x3i) (G11_odds_0 (rd h) x1 x2 x3) := by
  subst ex1 ex2 ex3
  unfold F11_odds_0 G11_odds_0
  refine sm_II (S11_isSurfer H rfl qx1) fun vo1 ho1 Ho1 ro1 => ?_
  refine sm_if (z3_eq rfl l3_0 ro1 lr3_0) ?_ ?_
  · exact sm_retI Ho1 l3_m1 lr3_m1
  · refine sm_II (S11_isWave Ho1 rfl qx2) fun vo4 ho4 Ho4 ro4 => ?_
    refine sm_if (z3_eq rfl l3_0 ro4 lr3_0) ?_ ?_
    · exact sm_retI Ho4 l3_m1 lr3_m1
    · refine sm_II (S11_isCell Ho4 rfl qx3) fun vo7 ho7 Ho7 ro7 => ?_
      refine sm_if (z3_eq rfl l3_0 ro7 lr3_0) ?_ ?_
      · exact sm_retI Ho7 l3_m1 lr3_m1
      · refine sm_rd (x_gR_11_5 Ho7) ?_
        refine sm_II (S6_oddsAt Ho7 p6_51 rfl qx1 rfl qx2 rfl qx3) fun vo12 ho12 Ho12 ro12 => ?_
        exact sm_retI Ho12 rfl ro12
theorem S11_odds {h : PH} (H : OKX h) {x1i : Int32} {x1 : Int} (ex1 : x1i = Z3 x1) (qx1 : r3 x1) {x2i : Int32} {x2 : Int} (ex2 : x2i = Z3 x2) (qx2 : r3 x2) {x3i : Int32} {x3 : Int} (ex3 : x3i = Z3 x3) (qx3 : r3 x3) : SimI OKX (F11_odds h 0 x1i x2i x3i) (G11_odds (rd h) x1 x2 x3) := by
  subst ex1 ex2 ex3
  unfold F11_odds G11_odds
  refine sm_cd (x_ok_11 H) ?_
  exact S11_odds_0 H rfl qx1 rfl qx2 rfl qx3
theorem S11_order_0 {h : PH} (H : OKX h) {x1i : Int32} {x1 : Int} (ex1 : x1i = Z3 x1) (qx1 : r3 x1) {x2i : Int32} {x2 : Int} (ex2 : x2i = Z3 x2) (qx2 : r3 x2) : SimI OKX (F11_order_0 h 0 x1i x2i) (G11_order_0 (rd h) x1 x2) := by
  subst ex1 ex2
  unfold F11_order_0 G11_order_0
  refine sm_II (S11_isToCome H rfl qx1) fun vo1 ho1 Ho1 ro1 => ?_
  refine sm_if (z3_eq rfl l3_0 ro1 lr3_0) ?_ ?_
  · exact sm_retI Ho1 l3_m1 lr3_m1
  · refine sm_if (z3_le l3_0 rfl lr3_0 qx2) ?_ ?_
    · refine sm_rd (x_gR_11_5 Ho1) ?_
      refine sm_rd (x_gR_11_7 Ho1) ?_
      refine sm_rd (x_gR_11_7 Ho1) ?_
      refine sm_rd (x_gI_4_0 Ho1 p4_69).1 ?_
      refine sm_II (S6_lineUp Ho1 p6_51 p4_69 rfl qx1 rfl ((x_gI_4_0 Ho1 p4_69).2)) fun vo13 ho13 Ho13 ro13 => ?_
      refine sm_if (z3_le rfl rfl ro13 qx2) ?_ ?_
      · exact sm_retI Ho13 l3_m2 lr3_m2
      · refine sm_rd (x_gR_11_5 Ho13) ?_
        refine sm_rd (x_gR_6_6 Ho13 p6_51) ?_
        refine sgxI fun c1 => ?_
        refine sm_rd (x_aI_6_6 Ho13 (ao_6_6 p6_51) rfl c1).1 ?_
        exact sm_retI Ho13 rfl (x_aI_6_6 Ho13 (ao_6_6 p6_51) rfl c1).2
    · exact sm_retI Ho1 l3_m1 lr3_m1
theorem S11_order {h : PH} (H : OKX h) {x1i : Int32} {x1 : Int} (ex1 : x1i = Z3 x1) (qx1 : r3 x1) {x2i : Int32} {x2 : Int} (ex2 : x2i = Z3 x2) (qx2 : r3 x2) : SimI OKX (F11_order h 0 x1i x2i) (G11_order (rd h) x1 x2) := by
  subst ex1 ex2
  unfold F11_order G11_order
  refine sm_cd (x_ok_11 H) ?_
  exact S11_order_0 H rfl qx1 rfl qx2
theorem S11_over_93 (n : Nat) : ∀ {h : PH} (H : OKX h) {x1i : Int32} {x1 : Int} (ex1 : x1i = Z3 x1) (qx1 : r3 x1) {x2i : Int32} {x2 : Int} (ex2 : x2i = Z3 x2) (qx2 : r3 x2) {x3i : Int32} {x3 : Int} (ex3 : x3i = Z3 x3) (qx3 : r3 x3) {x4i : Int32} {x4 : Int} (ex4 : x4i = Z3 x4) (qx4 : r3 x4) {x5i : Int32} {x5 : Int} (ex5 : x5i = Z3 x5) (qx5 : r3 x5), SimI OKX (F11_over_93 n h 0 x1i x2i x3i x4i x5i) (G11_over_93 n (rd h) x1 x2 x3 x4 x5) := by
  induction n with
  | zero => intros; exact smI_none _
  | succ n ih =>
    intro h H x1i x1 ex1 qx1 x2i x2 ex2 qx2 x3i x3 ex3 qx3 x4i x4 ex4 qx4 x5i x5 ex5 qx5
    subst ex1 ex2 ex3 ex4 ex5
    rw [F11_over_93, G11_over_93]
    refine sm_if (z3_lt rfl rfl qx2 qx5) ?_ ?_
    · exact sm_retI H l3_m2 lr3_m2
    · refine sm_rd (x_gR_11_3 H) ?_
      refine sm_rd (x_gI_8_8 H (x_v_11_3 H)).1 ?_
      refine sm_rd (x_gR_11_3 H) ?_
      refine sm_II (S8_bankWaves H (x_v_11_3 H) rfl qx5 rfl qx2) fun vo8 ho8 Ho8 ro8 => ?_
      refine sg3I fun c1 => ?_
      refine sm_if (z3_le (z3_mul (z3_mul l3_100 rfl) rfl) rfl c1 qx4) ?_ ?_
      · refine sm_rd (x_gR_11_3 Ho8) ?_
        refine sm_rd (x_gR_8_5 Ho8 (x_v_11_3 Ho8)) ?_
        refine sm_rd (x_gI_10_1 Ho8 (ao_8_5 (x_v_11_3 Ho8))).1 ?_
        refine sm_if (z3_le rfl rfl (x_gI_10_1 Ho8 (ao_8_5 (x_v_11_3 Ho8))).2 qx3) ?_ ?_
        · refine sg3I fun c2 => ?_
          exact ih Ho8 rfl qx1 rfl qx2 rfl qx3 rfl qx4 (z3_add rfl l3_1) c2
        · refine sm_rd (x_gR_11_3 Ho8) ?_
          refine sm_rd (x_gR_8_5 Ho8 (x_v_11_3 Ho8)) ?_
          refine sm_rd (x_gR_10_4 Ho8 (ao_8_5 (x_v_11_3 Ho8))) ?_
          refine sgxI fun c3 => ?_
          refine sm_rd (x_aI_10_4 Ho8 (ao_10_4 (ao_8_5 (x_v_11_3 Ho8))) rfl c3).1 ?_
          refine sm_if (z3_eq rfl rfl (x_aI_10_4 Ho8 (ao_10_4 (ao_8_5 (x_v_11_3 Ho8))) rfl c3).2 qx5) ?_ ?_
          · refine sm_rd (x_gR_11_5 Ho8) ?_
            refine sm_rd (x_gR_11_7 Ho8) ?_
            refine sm_rd (x_gR_4_5 Ho8 p4_69) ?_
            refine sgxI fun c4 => ?_
            refine sm_rd (x_aI_4_5 Ho8 (ao_4_5 p4_69) rfl c4).1 ?_
            refine sm_II (S6_worthAt Ho8 p6_51 rfl qx1 rfl qx3 rfl ((x_aI_4_5 Ho8 (ao_4_5 p4_69) rfl c4).2)) fun vo35 ho35 Ho35 ro35 => ?_
            refine sg3I fun c5 => ?_
            refine sg3I fun c6 => ?_
            refine sg3I fun c7 => ?_
            exact ih Ho35 rfl qx1 rfl qx2 (z3_add rfl l3_1) c5 (z3_sub rfl rfl) c6 (z3_add rfl l3_1) c7
          · refine sg3I fun c8 => ?_
            exact ih Ho8 rfl qx1 rfl qx2 rfl qx3 rfl qx4 (z3_add rfl l3_1) c8
      · exact sm_retI Ho8 rfl qx5
theorem S11_over_0 {h : PH} (H : OKX h) {x1i : Int32} {x1 : Int} (ex1 : x1i = Z3 x1) (qx1 : r3 x1) : SimI OKX (F11_over_0 h 0 x1i) (G11_over_0 (rd h) x1) := by
  subst ex1
  unfold F11_over_0 G11_over_0
  refine sm_II (S11_isSurfer H rfl qx1) fun vo1 ho1 Ho1 ro1 => ?_
  refine sm_if (z3_eq rfl l3_0 ro1 lr3_0) ?_ ?_
  · exact sm_retI Ho1 l3_m1 lr3_m1
  · refine sm_rd (x_gR_11_3 Ho1) ?_
    refine sm_rd (x_gI_8_7 Ho1 (x_v_11_3 Ho1)).1 ?_
    refine sm_if (z3_lt rfl l3_1 (x_gI_8_7 Ho1 (x_v_11_3 Ho1)).2 lr3_1) ?_ ?_
    · exact sm_retI Ho1 l3_m1 lr3_m1
    · refine sm_rd (x_gR_11_3 Ho1) ?_
      refine sm_rd (x_gR_8_5 Ho1 (x_v_11_3 Ho1)) ?_
      refine sm_rd (x_gI_10_1 Ho1 (ao_8_5 (x_v_11_3 Ho1))).1 ?_
      refine sm_if (z3_le l3_1 rfl lr3_1 (x_gI_10_1 Ho1 (ao_8_5 (x_v_11_3 Ho1))).2) ?_ ?_
      · refine sm_rd (x_gR_11_3 Ho1) ?_
        refine sm_rd (x_gR_8_5 Ho1 (x_v_11_3 Ho1)) ?_
        refine sm_rd (x_gR_10_4 Ho1 (ao_8_5 (x_v_11_3 Ho1))) ?_
        refine sm_rd (x_gR_11_3 Ho1) ?_
        refine sm_rd (x_gR_8_5 Ho1 (x_v_11_3 Ho1)) ?_
        refine sm_rd (x_gI_10_1 Ho1 (ao_8_5 (x_v_11_3 Ho1))).1 ?_
        refine sgxI fun c1 => ?_
        refine sm_rd (x_aI_10_4 Ho1 (ao_10_4 (ao_8_5 (x_v_11_3 Ho1))) (z3_sub rfl l3_1) c1).1 ?_
        refine sm_II (S11_firstToCome Ho1) fun vo30 ho30 Ho30 ro30 => ?_
        refine sm_rd (x_gR_11_5 Ho30) ?_
        refine sm_rd (x_gR_11_7 Ho30) ?_
        refine sm_rd (x_gR_4_5 Ho30 p4_69) ?_
        refine sgxI fun c2 => ?_
        refine sm_rd (x_aI_4_5 Ho30 (ao_4_5 p4_69) rfl c2).1 ?_
        refine sm_II (S6_seatFrom Ho30 p6_51 rfl qx1 rfl ((x_aI_4_5 Ho30 (ao_4_5 p4_69) rfl c2).2) rfl ro30) fun vo40 ho40 Ho40 ro40 => ?_
        refine sm_rd (x_gR_11_7 Ho40) ?_
        refine sm_rd (x_gI_4_0 Ho40 p4_69).1 ?_
        exact S11_over_93 1024 Ho40 rfl qx1 rfl ((x_aI_10_4 Ho1 (ao_10_4 (ao_8_5 (x_v_11_3 Ho1))) (z3_sub rfl l3_1) c1).2) rfl ro30 rfl ro40 rfl ((x_gI_4_0 Ho40 p4_69).2)
      · exact sm_retI Ho1 l3_m1 lr3_m1
theorem S11_over {h : PH} (H : OKX h) {x1i : Int32} {x1 : Int} (ex1 : x1i = Z3 x1) (qx1 : r3 x1) : SimI OKX (F11_over h 0 x1i) (G11_over (rd h) x1) := by
  subst ex1
  unfold F11_over G11_over
  refine sm_cd (x_ok_11 H) ?_
  exact S11_over_0 H rfl qx1
theorem S11_peak_0 {h : PH} (H : OKX h) {x1i : Int32} {x1 : Int} (ex1 : x1i = Z3 x1) (qx1 : r3 x1) : SimI OKX (F11_peak_0 h 0 x1i) (G11_peak_0 (rd h) x1) := by
  subst ex1
  unfold F11_peak_0 G11_peak_0
  refine sm_if (z3_lt rfl l3_0 qx1 lr3_0) ?_ ?_
  · exact sm_retI H l3_m1 lr3_m1
  · refine sm_if (z3_le rfl l3_199 qx1 lr3_199) ?_ ?_
    · refine sm_rd (x_gR_11_3 H) ?_
      refine sm_rd (x_gI_8_3 H (x_v_11_3 H)).1 ?_
      refine sm_rd (x_gR_11_3 H) ?_
      refine sm_rd (x_gI_8_0 H (x_v_11_3 H)).1 ?_
      refine sm_rd (x_gR_11_5 H) ?_
      refine sm_II (S6_peakXAt H p6_51 rfl qx1) fun vo13 ho13 Ho13 ro13 => ?_
      refine sg3I fun c1 => ?_
      exact sm_retI Ho13 (z3_add (z3_mul rfl rfl) rfl) c1
    · exact sm_retI H l3_m1 lr3_m1
theorem S11_peak {h : PH} (H : OKX h) {x1i : Int32} {x1 : Int} (ex1 : x1i = Z3 x1) (qx1 : r3 x1) : SimI OKX (F11_peak h 0 x1i) (G11_peak (rd h) x1) := by
  subst ex1
  unfold F11_peak G11_peak
  refine sm_cd (x_ok_11 H) ?_
  exact S11_peak_0 H rfl qx1
theorem S11_plan_0 {h : PH} (H : OKX h) {x1i : Int32} {x1 : Int} (ex1 : x1i = Z3 x1) (qx1 : r3 x1) : SimI OKX (F11_plan_0 h 0 x1i) (G11_plan_0 (rd h) x1) := by
  subst ex1
  unfold F11_plan_0 G11_plan_0
  refine sm_II (S11_isSurfer H rfl qx1) fun vo1 ho1 Ho1 ro1 => ?_
  refine sm_if (z3_eq rfl l3_0 ro1 lr3_0) ?_ ?_
  · exact sm_retI Ho1 l3_m1 lr3_m1
  · refine sm_rd (x_gR_11_13 Ho1) ?_
    refine sm_rd (x_gR_11_5 Ho1) ?_
    refine sm_rd (x_gR_11_7 Ho1) ?_
    refine sm_VI (S0_makePlan Ho1 p6_51 p4_69 rfl qx1) fun ho10 Ho10 => ?_
    refine sm_rd (x_gR_11_13 Ho10) ?_
    refine sm_rd (x_gI_0_12 Ho10).1 ?_
    exact sm_retI Ho10 rfl (x_gI_0_12 Ho10).2
theorem S11_plan {h : PH} (H : OKX h) {x1i : Int32} {x1 : Int} (ex1 : x1i = Z3 x1) (qx1 : r3 x1) : SimI OKX (F11_plan h 0 x1i) (G11_plan (rd h) x1) := by
  subst ex1
  unfold F11_plan G11_plan
  refine sm_cd (x_ok_11 H) ?_
  exact S11_plan_0 H rfl qx1
theorem S11_planned_0 {h : PH} (H : OKX h) {x1i : Int32} {x1 : Int} (ex1 : x1i = Z3 x1) (qx1 : r3 x1) {x2i : Int32} {x2 : Int} (ex2 : x2i = Z3 x2) (qx2 : r3 x2) : SimI OKX (F11_planned_0 h 0 x1i x2i) (G11_planned_0 (rd h) x1 x2) := by
  subst ex1 ex2
  unfold F11_planned_0 G11_planned_0
  refine sm_II (S11_isSurfer H rfl qx1) fun vo1 ho1 Ho1 ro1 => ?_
  refine sm_if (z3_eq rfl l3_0 ro1 lr3_0) ?_ ?_
  · exact sm_retI Ho1 l3_m1 lr3_m1
  · refine sm_if (z3_le l3_0 rfl lr3_0 qx2) ?_ ?_
    · refine sm_rd (x_gR_11_13 Ho1) ?_
      refine sm_rd (x_gR_11_5 Ho1) ?_
      refine sm_rd (x_gR_11_7 Ho1) ?_
      refine sm_VI (S0_makePlan Ho1 p6_51 p4_69 rfl qx1) fun ho11 Ho11 => ?_
      refine sm_rd (x_gR_11_13 Ho11) ?_
      refine sm_rd (x_gI_0_11 Ho11).1 ?_
      refine sm_if (z3_le rfl rfl (x_gI_0_11 Ho11).2 qx2) ?_ ?_
      · exact sm_retI Ho11 l3_m2 lr3_m2
      · refine sm_rd (x_gR_11_13 Ho11) ?_
        refine sm_rd (x_gR_0_10 Ho11) ?_
        refine sgxI fun c1 => ?_
        refine sm_rd (x_aI_0_10 Ho11 rfl c1).1 ?_
        exact sm_retI Ho11 rfl (x_aI_0_10 Ho11 rfl c1).2
    · exact sm_retI Ho1 l3_m1 lr3_m1
theorem S11_planned {h : PH} (H : OKX h) {x1i : Int32} {x1 : Int} (ex1 : x1i = Z3 x1) (qx1 : r3 x1) {x2i : Int32} {x2 : Int} (ex2 : x2i = Z3 x2) (qx2 : r3 x2) : SimI OKX (F11_planned h 0 x1i x2i) (G11_planned (rd h) x1 x2) := by
  subst ex1 ex2
  unfold F11_planned G11_planned
  refine sm_cd (x_ok_11 H) ?_
  exact S11_planned_0 H rfl qx1 rfl qx2
theorem S11_rank_27 (n : Nat) : ∀ {h : PH} (H : OKX h) {x1i : Int32} {x1 : Int} (ex1 : x1i = Z3 x1) (qx1 : r3 x1) {x2i : Int32} {x2 : Int} (ex2 : x2i = Z3 x2) (qx2 : r3 x2) {x3i : Int32} {x3 : Int} (ex3 : x3i = Z3 x3) (qx3 : r3 x3) {x4i : Int32} {x4 : Int} (ex4 : x4i = Z3 x4) (qx4 : r3 x4), SimI OKX (F11_rank_27 n h 0 x1i x2i x3i x4i) (G11_rank_27 n (rd h) x1 x2 x3 x4) := by
  induction n with
  | zero => intros; exact smI_none _
  | succ n ih =>
    intro h H x1i x1 ex1 qx1 x2i x2 ex2 qx2 x3i x3 ex3 qx3 x4i x4 ex4 qx4
    subst ex1 ex2 ex3 ex4
    rw [F11_rank_27, G11_rank_27]
    refine sm_rd (x_gR_11_3 H) ?_
    refine sm_rd (x_gR_8_5 H (x_v_11_3 H)) ?_
    refine sm_rd (x_gI_10_0 H (ao_8_5 (x_v_11_3 H))).1 ?_
    refine sm_if (z3_le rfl rfl (x_gI_10_0 H (ao_8_5 (x_v_11_3 H))).2 qx4) ?_ ?_
    · exact sm_retI H rfl qx3
    · refine sm_rd (x_gR_11_3 H) ?_
      refine sm_rd (x_gR_8_5 H (x_v_11_3 H)) ?_
      refine sm_II (S10_lengthOf H (ao_8_5 (x_v_11_3 H)) rfl qx4) fun vo12 ho12 Ho12 ro12 => ?_
      refine sm_if (z3_lt rfl rfl ro12 qx1) ?_ ?_
      · refine sg3I fun c1 => ?_
        exact ih Ho12 rfl qx1 rfl qx2 rfl qx3 (z3_add rfl l3_1) c1
      · refine sm_if (z3_eq rfl l3_1 qx2 lr3_1) ?_ ?_
        · refine sg3I fun c2 => ?_
          refine sg3I fun c3 => ?_
          exact ih Ho12 rfl qx1 rfl qx2 (z3_add rfl l3_1) c2 (z3_add rfl l3_1) c3
        · refine sm_rd (x_gR_11_3 Ho12) ?_
          refine sm_rd (x_gR_8_5 Ho12 (x_v_11_3 Ho12)) ?_
          refine sm_II (S10_isLargest Ho12 (ao_8_5 (x_v_11_3 Ho12)) rfl qx4 rfl qx1) fun vo20 ho20 Ho20 ro20 => ?_
          refine sm_if (z3_eq rfl l3_0 ro20 lr3_0) ?_ ?_
          · refine sg3I fun c4 => ?_
            exact ih Ho20 rfl qx1 rfl qx2 rfl qx3 (z3_add rfl l3_1) c4
          · refine sg3I fun c5 => ?_
            refine sg3I fun c6 => ?_
            exact ih Ho20 rfl qx1 rfl qx2 (z3_add rfl l3_1) c5 (z3_add rfl l3_1) c6
theorem S11_rank_0 {h : PH} (H : OKX h) {x1i : Int32} {x1 : Int} (ex1 : x1i = Z3 x1) (qx1 : r3 x1) {x2i : Int32} {x2 : Int} (ex2 : x2i = Z3 x2) (qx2 : r3 x2) : SimI OKX (F11_rank_0 h 0 x1i x2i) (G11_rank_0 (rd h) x1 x2) := by
  subst ex1 ex2
  unfold F11_rank_0 G11_rank_0
  refine sm_if (z3_lt rfl l3_1 qx1 lr3_1) ?_ ?_
  · exact sm_retI H l3_m1 lr3_m1
  · refine sm_if (z3_lt l3_7 rfl lr3_7 qx1) ?_ ?_
    · exact sm_retI H l3_m1 lr3_m1
    · refine sm_if (z3_lt rfl l3_0 qx2 lr3_0) ?_ ?_
      · exact sm_retI H l3_m1 lr3_m1
      · refine sm_if (z3_le rfl l3_1 qx2 lr3_1) ?_ ?_
        · exact S11_rank_27 1024 H rfl qx1 rfl qx2 l3_0 lr3_0 l3_0 lr3_0
        · exact sm_retI H l3_m1 lr3_m1
theorem S11_rank {h : PH} (H : OKX h) {x1i : Int32} {x1 : Int} (ex1 : x1i = Z3 x1) (qx1 : r3 x1) {x2i : Int32} {x2 : Int} (ex2 : x2i = Z3 x2) (qx2 : r3 x2) : SimI OKX (F11_rank h 0 x1i x2i) (G11_rank (rd h) x1 x2) := by
  subst ex1 ex2
  unfold F11_rank G11_rank
  refine sm_cd (x_ok_11 H) ?_
  exact S11_rank_0 H rfl qx1 rfl qx2
theorem S11_rest_0 {h : PH} (H : OKX h) {x1i : Int32} {x1 : Int} (ex1 : x1i = Z3 x1) (qx1 : r3 x1) {x2i : Int32} {x2 : Int} (ex2 : x2i = Z3 x2) (qx2 : r3 x2) {x3i : Int32} {x3 : Int} (ex3 : x3i = Z3 x3) (qx3 : r3 x3) : SimI OKX (F11_rest_0 h 0 x1i x2i x3i) (G11_rest_0 (rd h) x1 x2 x3) := by
  subst ex1 ex2 ex3
  unfold F11_rest_0 G11_rest_0
  refine sm_II (S11_isSurfer H rfl qx1) fun vo1 ho1 Ho1 ro1 => ?_
  refine sm_if (z3_eq rfl l3_0 ro1 lr3_0) ?_ ?_
  · exact sm_retI Ho1 l3_m1 lr3_m1
  · refine sm_II (S11_isSurfer Ho1 rfl qx2) fun vo4 ho4 Ho4 ro4 => ?_
    refine sm_if (z3_eq rfl l3_0 ro4 lr3_0) ?_ ?_
    · exact sm_retI Ho4 l3_m1 lr3_m1
    · refine sm_if (z3_eq rfl rfl qx1 qx2) ?_ ?_
      · exact sm_retI Ho4 l3_m1 lr3_m1
      · refine sm_if (z3_le l3_0 rfl lr3_0 qx3) ?_ ?_
        · refine sm_rd (x_gR_11_13 Ho4) ?_
          refine sm_rd (x_gR_11_5 Ho4) ?_
          refine sm_rd (x_gR_11_7 Ho4) ?_
          refine sm_VI (S0_playGame Ho4 p6_51 p4_69 rfl qx1 rfl qx2) fun ho15 Ho15 => ?_
          refine sm_rd (x_gR_11_13 Ho15) ?_
          refine sm_rd (x_gI_0_6 Ho15).1 ?_
          refine sm_if (z3_le rfl rfl (x_gI_0_6 Ho15).2 qx3) ?_ ?_
          · exact sm_retI Ho15 l3_m2 lr3_m2
          · refine sm_rd (x_gR_11_13 Ho15) ?_
            refine sm_rd (x_gR_0_5 Ho15) ?_
            refine sgxI fun c1 => ?_
            refine sm_rd (x_aI_0_5 Ho15 rfl c1).1 ?_
            exact sm_retI Ho15 rfl (x_aI_0_5 Ho15 rfl c1).2
        · exact sm_retI Ho4 l3_m1 lr3_m1
theorem S11_rest {h : PH} (H : OKX h) {x1i : Int32} {x1 : Int} (ex1 : x1i = Z3 x1) (qx1 : r3 x1) {x2i : Int32} {x2 : Int} (ex2 : x2i = Z3 x2) (qx2 : r3 x2) {x3i : Int32} {x3 : Int} (ex3 : x3i = Z3 x3) (qx3 : r3 x3) : SimI OKX (F11_rest h 0 x1i x2i x3i) (G11_rest (rd h) x1 x2 x3) := by
  subst ex1 ex2 ex3
  unfold F11_rest G11_rest
  refine sm_cd (x_ok_11 H) ?_
  exact S11_rest_0 H rfl qx1 rfl qx2 rfl qx3
theorem S11_rests_0 {h : PH} (H : OKX h) {x1i : Int32} {x1 : Int} (ex1 : x1i = Z3 x1) (qx1 : r3 x1) {x2i : Int32} {x2 : Int} (ex2 : x2i = Z3 x2) (qx2 : r3 x2) : SimI OKX (F11_rests_0 h 0 x1i x2i) (G11_rests_0 (rd h) x1 x2) := by
  subst ex1 ex2
  unfold F11_rests_0 G11_rests_0
  refine sm_II (S11_isSurfer H rfl qx1) fun vo1 ho1 Ho1 ro1 => ?_
  refine sm_if (z3_eq rfl l3_0 ro1 lr3_0) ?_ ?_
  · exact sm_retI Ho1 l3_m1 lr3_m1
  · refine sm_II (S11_isSurfer Ho1 rfl qx2) fun vo4 ho4 Ho4 ro4 => ?_
    refine sm_if (z3_eq rfl l3_0 ro4 lr3_0) ?_ ?_
    · exact sm_retI Ho4 l3_m1 lr3_m1
    · refine sm_if (z3_eq rfl rfl qx1 qx2) ?_ ?_
      · exact sm_retI Ho4 l3_m1 lr3_m1
      · refine sm_rd (x_gR_11_13 Ho4) ?_
        refine sm_rd (x_gR_11_5 Ho4) ?_
        refine sm_rd (x_gR_11_7 Ho4) ?_
        refine sm_VI (S0_playGame Ho4 p6_51 p4_69 rfl qx1 rfl qx2) fun ho14 Ho14 => ?_
        refine sm_rd (x_gR_11_13 Ho14) ?_
        refine sm_rd (x_gI_0_6 Ho14).1 ?_
        exact sm_retI Ho14 rfl (x_gI_0_6 Ho14).2
theorem S11_rests {h : PH} (H : OKX h) {x1i : Int32} {x1 : Int} (ex1 : x1i = Z3 x1) (qx1 : r3 x1) {x2i : Int32} {x2 : Int} (ex2 : x2i = Z3 x2) (qx2 : r3 x2) : SimI OKX (F11_rests h 0 x1i x2i) (G11_rests (rd h) x1 x2) := by
  subst ex1 ex2
  unfold F11_rests G11_rests
  refine sm_cd (x_ok_11 H) ?_
  exact S11_rests_0 H rfl qx1 rfl qx2
theorem S11_rule_0 {h : PH} (H : OKX h) {x1i : Int32} {x1 : Int} (ex1 : x1i = Z3 x1) (qx1 : r3 x1) : SimI OKX (F11_rule_0 h 0 x1i) (G11_rule_0 (rd h) x1) := by
  subst ex1
  unfold F11_rule_0 G11_rule_0
  refine sm_II (S11_isRule H rfl qx1) fun vo1 ho1 Ho1 ro1 => ?_
  refine sm_if (z3_eq rfl l3_0 ro1 lr3_0) ?_ ?_
  · exact sm_rz Ho1 l3_0 (by decide)
  · refine sm_rd (x_gR_11_7 Ho1) ?_
    refine sm_rd (x_gI_4_1 Ho1 p4_69).1 ?_
    refine sm_if (z3_eq rfl rfl qx1 (x_gI_4_1 Ho1 p4_69).2) ?_ ?_
    · exact sm_rz Ho1 l3_0 (by decide)
    · refine sm_rd (x_gR_11_12 Ho1) ?_
      refine sm_rd (x_gR_11_7 Ho1) ?_
      refine sm_rd (x_gI_4_1 Ho1 p4_69).1 ?_
      refine sm_VI (S9_add Ho1 l3_m1 lr3_m1 rfl ((x_gI_4_1 Ho1 p4_69).2)) fun ho15 Ho15 => ?_
      refine sm_rd (x_gR_11_7 Ho15) ?_
      refine sm_wt (x_pI_4_1 Ho15 p4_69 rfl qx1) fun h19 Hh19 => ?_
      exact sm_rz Hh19 l3_1 (by decide)
theorem S11_rule {h : PH} (H : OKX h) {x1i : Int32} {x1 : Int} (ex1 : x1i = Z3 x1) (qx1 : r3 x1) : SimI OKX (F11_rule h 0 x1i) (G11_rule (rd h) x1) := by
  subst ex1
  unfold F11_rule G11_rule
  refine sm_cd (x_ok_11 H) ?_
  exact S11_rule_0 H rfl qx1
theorem S11_seat_0 {h : PH} (H : OKX h) {x1i : Int32} {x1 : Int} (ex1 : x1i = Z3 x1) (qx1 : r3 x1) {x2i : Int32} {x2 : Int} (ex2 : x2i = Z3 x2) (qx2 : r3 x2) : SimI OKX (F11_seat_0 h 0 x1i x2i) (G11_seat_0 (rd h) x1 x2) := by
  subst ex1 ex2
  unfold F11_seat_0 G11_seat_0
  refine sm_II (S11_isSurfer H rfl qx1) fun vo1 ho1 Ho1 ro1 => ?_
  refine sm_if (z3_eq rfl l3_0 ro1 lr3_0) ?_ ?_
  · exact sm_retI Ho1 l3_m1 lr3_m1
  · refine sm_II (S11_isCell Ho1 rfl qx2) fun vo4 ho4 Ho4 ro4 => ?_
    refine sm_if (z3_eq rfl l3_0 ro4 lr3_0) ?_ ?_
    · exact sm_retI Ho4 l3_m1 lr3_m1
    · refine sm_rd (x_gR_11_5 Ho4) ?_
      refine sm_II (S11_firstToCome Ho4) fun vo9 ho9 Ho9 ro9 => ?_
      refine sm_II (S6_seatFrom Ho9 p6_51 rfl qx1 rfl qx2 rfl ro9) fun vo11 ho11 Ho11 ro11 => ?_
      exact sm_retI Ho11 rfl ro11
theorem S11_seat {h : PH} (H : OKX h) {x1i : Int32} {x1 : Int} (ex1 : x1i = Z3 x1) (qx1 : r3 x1) {x2i : Int32} {x2 : Int} (ex2 : x2i = Z3 x2) (qx2 : r3 x2) : SimI OKX (F11_seat h 0 x1i x2i) (G11_seat (rd h) x1 x2) := by
  subst ex1 ex2
  unfold F11_seat G11_seat
  refine sm_cd (x_ok_11 H) ?_
  exact S11_seat_0 H rfl qx1 rfl qx2
theorem S11_shares_0 {h : PH} (H : OKX h) {x1i : Int32} {x1 : Int} (ex1 : x1i = Z3 x1) (qx1 : r3 x1) : SimI OKX (F11_shares_0 h 0 x1i) (G11_shares_0 (rd h) x1) := by
  subst ex1
  unfold F11_shares_0 G11_shares_0
  refine sm_if (z3_lt rfl l3_0 qx1 lr3_0) ?_ ?_
  · exact sm_retI H l3_m1 lr3_m1
  · refine sm_if (z3_lt l3_1 rfl lr3_1 qx1) ?_ ?_
    · exact sm_retI H l3_m1 lr3_m1
    · refine sm_rd (x_gR_11_3 H) ?_
      refine sm_rd (x_gR_8_4 H (x_v_11_3 H)) ?_
      refine sm_rd (x_gI_1_0 H (ao_8_4 (x_v_11_3 H))).1 ?_
      refine sm_if (z3_le l3_1 rfl lr3_1 (x_gI_1_0 H (ao_8_4 (x_v_11_3 H))).2) ?_ ?_
      · refine sm_if (z3_eq rfl l3_0 qx1 lr3_0) ?_ ?_
        · refine sm_rd (x_gR_11_7 H) ?_
          refine sm_rd (x_gR_11_3 H) ?_
          refine sm_rd (x_gR_8_4 H (x_v_11_3 H)) ?_
          refine sm_rd (x_gI_1_0 H (ao_8_4 (x_v_11_3 H))).1 ?_
          refine sm_II (S4_unlike H p4_69 rfl ((x_gI_1_0 H (ao_8_4 (x_v_11_3 H))).2)) fun vo29 ho29 Ho29 ro29 => ?_
          exact sm_retI Ho29 rfl ro29
        · refine sm_rd (x_gR_11_7 H) ?_
          refine sm_rd (x_gR_11_3 H) ?_
          refine sm_rd (x_gR_8_4 H (x_v_11_3 H)) ?_
          refine sm_rd (x_gI_1_0 H (ao_8_4 (x_v_11_3 H))).1 ?_
          refine sm_II (S4_hadInSum H p4_69 rfl ((x_gI_1_0 H (ao_8_4 (x_v_11_3 H))).2)) fun vo19 ho19 Ho19 ro19 => ?_
          exact sm_retI Ho19 rfl ro19
      · exact sm_retI H l3_m1 lr3_m1
theorem S11_shares {h : PH} (H : OKX h) {x1i : Int32} {x1 : Int} (ex1 : x1i = Z3 x1) (qx1 : r3 x1) : SimI OKX (F11_shares h 0 x1i) (G11_shares (rd h) x1) := by
  subst ex1
  unfold F11_shares G11_shares
  refine sm_cd (x_ok_11 H) ?_
  exact S11_shares_0 H rfl qx1
theorem S11_strike_0 {h : PH} (H : OKX h) {x1i : Int32} {x1 : Int} (ex1 : x1i = Z3 x1) (qx1 : r3 x1) : SimI OKX (F11_strike_0 h 0 x1i) (G11_strike_0 (rd h) x1) := by
  subst ex1
  unfold F11_strike_0 G11_strike_0
  refine sm_if (z3_lt rfl l3_0 qx1 lr3_0) ?_ ?_
  · exact sm_retI H l3_m1 lr3_m1
  · refine sm_rd (x_gR_11_11 H) ?_
    refine sm_rd (x_gI_3_0 H).1 ?_
    refine sm_if (z3_lt rfl rfl qx1 (x_gI_3_0 H).2) ?_ ?_
    · refine sm_rd (x_gR_11_11 H) ?_
      refine sm_II (S3_addStrike H rfl qx1) fun vo9 ho9 Ho9 ro9 => ?_
      exact sm_retI Ho9 rfl ro9
    · exact sm_retI H l3_m1 lr3_m1
theorem S11_strike {h : PH} (H : OKX h) {x1i : Int32} {x1 : Int} (ex1 : x1i = Z3 x1) (qx1 : r3 x1) : SimI OKX (F11_strike h 0 x1i) (G11_strike (rd h) x1) := by
  subst ex1
  unfold F11_strike G11_strike
  refine sm_cd (x_ok_11 H) ?_
  exact S11_strike_0 H rfl qx1
theorem S11_stroke_0 {h : PH} (H : OKX h) {x1i : Int32} {x1 : Int} (ex1 : x1i = Z3 x1) (qx1 : r3 x1) {x2i : Int32} {x2 : Int} (ex2 : x2i = Z3 x2) (qx2 : r3 x2) : SimI OKX (F11_stroke_0 h 0 x1i x2i) (G11_stroke_0 (rd h) x1 x2) := by
  subst ex1 ex2
  unfold F11_stroke_0 G11_stroke_0
  refine sm_II (S11_isSurfer H rfl qx1) fun vo1 ho1 Ho1 ro1 => ?_
  refine sm_if (z3_eq rfl l3_0 ro1 lr3_0) ?_ ?_
  · exact sm_retI Ho1 l3_m1 lr3_m1
  · refine sm_if (z3_lt rfl l3_0 qx2 lr3_0) ?_ ?_
    · exact sm_retI Ho1 l3_m1 lr3_m1
    · refine sm_if (z3_lt rfl l3_4 qx2 lr3_4) ?_ ?_
      · refine sm_rd (x_gR_11_7 Ho1) ?_
        refine sm_rd (x_gR_4_5 Ho1 p4_69) ?_
        refine sgxI fun c1 => ?_
        refine sm_rd (x_aI_4_5 Ho1 (ao_4_5 p4_69) rfl c1).1 ?_
        refine sm_rd (x_gR_11_3 Ho1) ?_
        refine sm_II (S8_cellBeside Ho1 (x_v_11_3 Ho1) rfl ((x_aI_4_5 Ho1 (ao_4_5 p4_69) rfl c1).2) rfl qx2) fun vo14 ho14 Ho14 ro14 => ?_
        refine sm_if (z3_eq rfl l3_m1 ro14 lr3_m1) ?_ ?_
        · exact sm_retI Ho14 l3_m2 lr3_m2
        · refine sm_rd (x_gR_11_7 Ho14) ?_
          refine sm_rd (x_gR_11_7 Ho14) ?_
          refine sm_rd (x_gI_4_0 Ho14 p4_69).1 ?_
          refine sm_II (S4_isIn Ho14 p4_69 rfl qx1 rfl ((x_gI_4_0 Ho14 p4_69).2)) fun vo23 ho23 Ho23 ro23 => ?_
          refine sm_if (z3_eq rfl l3_0 ro23 lr3_0) ?_ ?_
          · exact sm_retI Ho23 l3_m2 lr3_m2
          · refine sm_rd (x_gR_11_7 Ho23) ?_
            refine sm_rd (x_gR_4_9 Ho23 p4_69) ?_
            refine sgxI fun c2 => ?_
            refine sm_rd (x_aI_4_9 Ho23 (ao_4_9 p4_69) rfl c2).1 ?_
            refine sm_rd (x_gR_11_3 Ho23) ?_
            refine sm_rd (x_gR_8_4 Ho23 (x_v_11_3 Ho23)) ?_
            refine sm_rd (x_gR_1_4 Ho23 (ao_8_4 (x_v_11_3 Ho23))) ?_
            refine sgxI fun c3 => ?_
            refine sm_rd (x_aI_1_4 Ho23 (ao_1_4 (ao_8_4 (x_v_11_3 Ho23))) rfl c3).1 ?_
            refine sm_if (z3_lt rfl rfl (x_aI_4_9 Ho23 (ao_4_9 p4_69) rfl c2).2 (x_aI_1_4 Ho23 (ao_1_4 (ao_8_4 (x_v_11_3 Ho23))) rfl c3).2) ?_ ?_
            · refine sm_rd (x_gR_11_7 Ho23) ?_
              refine sm_rd (x_gR_4_5 Ho23 p4_69) ?_
              refine sgxI fun c4 => ?_
              refine sm_wt (x_sI_4_5 Ho23 (ao_4_5 p4_69) rfl c4 rfl ro14) fun h46 Hh46 => ?_
              refine sm_rd (x_gR_11_7 Hh46) ?_
              refine sm_rd (x_gR_4_9 Hh46 p4_69) ?_
              refine sgxI fun c5 => ?_
              refine sm_rd (x_aI_4_9 Hh46 (ao_4_9 p4_69) rfl c5).1 ?_
              refine sgxI fun c6 => ?_
              refine sg3I fun c7 => ?_
              refine sm_wt (x_sI_4_9 Hh46 (ao_4_9 p4_69) rfl c6 (z3_add rfl l3_1) c7) fun h54 Hh54 => ?_
              refine sm_rd (x_gR_11_12 Hh54) ?_
              refine sm_VI (S9_add Hh54 rfl qx1 rfl ((x_aI_4_5 Ho1 (ao_4_5 p4_69) rfl c1).2)) fun ho57 Ho57 => ?_
              exact sm_retI Ho57 rfl ro14
            · exact sm_retI Ho23 l3_m2 lr3_m2
      · exact sm_retI Ho1 l3_m1 lr3_m1
/-! The pure functions do so (written by wip/gen/gx.py). -/
theorem S11_stroke {h : PH} (H : OKX h) {x1i : Int32} {x1 : Int} (ex1 : x1i = Z3 x1) (qx1 : r3 x1) {x2i : Int32} {x2 : Int} (ex2 : x2i = Z3 x2) (qx2 : r3 x2) : SimI OKX (F11_stroke h 0 x1i x2i) (G11_stroke (rd h) x1 x2) := by
  subst ex1 ex2
  unfold F11_stroke G11_stroke
  refine sm_cd (x_ok_11 H) ?_
  exact S11_stroke_0 H rfl qx1 rfl qx2
theorem S11_table_39 {h : PH} (H : OKX h) {x1i : Int32} {x1 : Int} (ex1 : x1i = Z3 x1) (qx1 : r3 x1) {x2i : Int32} {x2 : Int} (ex2 : x2i = Z3 x2) (qx2 : r3 x2) {x3i : Int32} {x3 : Int} (ex3 : x3i = Z3 x3) (qx3 : r3 x3) : SimI OKX (F11_table_39 h 0 x1i x2i x3i) (G11_table_39 (rd h) x1 x2 x3) := by
  subst ex1 ex2 ex3
  unfold F11_table_39 G11_table_39
  refine sm_VI (S11_runBy H rfl qx1 rfl qx2) fun ho1 Ho1 => ?_
  refine sm_if (z3_eq rfl l3_5 qx3 lr3_5) ?_ ?_
  · refine sm_rd (x_gR_11_8 Ho1) ?_
    refine sm_rd (x_gI_4_3 Ho1 p4_76).1 ?_
    exact sm_retI Ho1 rfl (x_gI_4_3 Ho1 p4_76).2
  · refine sm_if (z3_eq rfl l3_6 qx3 lr3_6) ?_ ?_
    · refine sm_rd (x_gR_11_8 Ho1) ?_
      refine sm_rd (x_gI_4_4 Ho1 p4_76).1 ?_
      exact sm_retI Ho1 rfl (x_gI_4_4 Ho1 p4_76).2
    · refine sm_if (z3_eq rfl l3_7 qx3 lr3_7) ?_ ?_
      · refine sm_rd (x_gR_11_8 Ho1) ?_
        refine sm_rd (x_gR_11_3 Ho1) ?_
        refine sm_rd (x_gR_8_4 Ho1 (x_v_11_3 Ho1)) ?_
        refine sm_rd (x_gI_1_0 Ho1 (ao_8_4 (x_v_11_3 Ho1))).1 ?_
        refine sm_II (S4_unlike Ho1 p4_76 rfl ((x_gI_1_0 Ho1 (ao_8_4 (x_v_11_3 Ho1))).2)) fun vo22 ho22 Ho22 ro22 => ?_
        exact sm_retI Ho22 rfl ro22
      · refine sm_rd (x_gR_11_8 Ho1) ?_
        refine sm_rd (x_gR_4_6 Ho1 p4_76) ?_
        refine sgxI fun c1 => ?_
        refine sm_rd (x_aI_4_6 Ho1 (ao_4_6 p4_76) rfl c1).1 ?_
        exact sm_retI Ho1 rfl (x_aI_4_6 Ho1 (ao_4_6 p4_76) rfl c1).2
theorem S11_table_0 {h : PH} (H : OKX h) {x1i : Int32} {x1 : Int} (ex1 : x1i = Z3 x1) (qx1 : r3 x1) {x2i : Int32} {x2 : Int} (ex2 : x2i = Z3 x2) (qx2 : r3 x2) {x3i : Int32} {x3 : Int} (ex3 : x3i = Z3 x3) (qx3 : r3 x3) : SimI OKX (F11_table_0 h 0 x1i x2i x3i) (G11_table_0 (rd h) x1 x2 x3) := by
  subst ex1 ex2 ex3
  unfold F11_table_0 G11_table_0
  refine sm_II (S11_isRule H rfl qx1) fun vo1 ho1 Ho1 ro1 => ?_
  refine sm_if (z3_eq rfl l3_0 ro1 lr3_0) ?_ ?_
  · exact sm_retI Ho1 l3_m1 lr3_m1
  · refine sm_if (z3_lt rfl l3_0 qx2 lr3_0) ?_ ?_
    · exact sm_retI Ho1 l3_m1 lr3_m1
    · refine sm_if (z3_lt rfl l3_0 qx3 lr3_0) ?_ ?_
      · exact sm_retI Ho1 l3_m1 lr3_m1
      · refine sm_if (z3_le rfl l3_7 qx3 lr3_7) ?_ ?_
        · refine sm_if (z3_le l3_5 rfl lr3_5 qx3) ?_ ?_
          · exact S11_table_39 Ho1 rfl qx1 rfl qx2 rfl qx3
          · refine sm_II (S11_isSurfer Ho1 rfl qx3) fun vo8 ho8 Ho8 ro8 => ?_
            refine sm_if (z3_eq rfl l3_0 ro8 lr3_0) ?_ ?_
            · exact sm_retI Ho8 l3_m1 lr3_m1
            · exact S11_table_39 Ho8 rfl qx1 rfl qx2 rfl qx3
        · exact sm_retI Ho1 l3_m1 lr3_m1
theorem S11_table {h : PH} (H : OKX h) {x1i : Int32} {x1 : Int} (ex1 : x1i = Z3 x1) (qx1 : r3 x1) {x2i : Int32} {x2 : Int} (ex2 : x2i = Z3 x2) (qx2 : r3 x2) {x3i : Int32} {x3 : Int} (ex3 : x3i = Z3 x3) (qx3 : r3 x3) : SimI OKX (F11_table h 0 x1i x2i x3i) (G11_table (rd h) x1 x2 x3) := by
  subst ex1 ex2 ex3
  unfold F11_table G11_table
  refine sm_cd (x_ok_11 H) ?_
  exact S11_table_0 H rfl qx1 rfl qx2 rfl qx3
theorem S11_text_0 {h : PH} (H : OKX h) {x1i : Int32} {x1 : Int} (ex1 : x1i = Z3 x1) (qx1 : r3 x1) : SimI OKX (F11_text_0 h 0 x1i) (G11_text_0 (rd h) x1) := by
  subst ex1
  unfold F11_text_0 G11_text_0
  refine sm_if (z3_lt rfl l3_0 qx1 lr3_0) ?_ ?_
  · exact sm_retI H l3_m2 lr3_m2
  · refine sm_rd (x_gI_11_1 H).1 ?_
    refine sm_if (z3_le rfl rfl qx1 (x_gI_11_1 H).2) ?_ ?_
    · refine sm_wt (x_pI_11_1 H l3_0 lr3_0) fun h5 Hh5 => ?_
      refine sm_rd (x_gR_11_2 Hh5) ?_
      refine sm_rd (x_gR_11_0 Hh5) ?_
      refine sm_rd (x_gR_11_4 Hh5) ?_
      refine sm_II (S5_readAll Hh5 rfl qx1 (x_v_11_4 Hh5)) fun vo13 ho13 Ho13 ro13 => ?_
      refine sm_if (z3_eq rfl l3_0 ro13 lr3_0) ?_ ?_
      · exact sm_retI Ho13 l3_m1 lr3_m1
      · refine sm_rd (x_gR_11_3 Ho13) ?_
        refine sm_rd (x_gR_11_4 Ho13) ?_
        refine sm_wt (x_pR_11_3 Ho13 (x_v_11_4 Ho13)) fun h20 Hh20 => ?_
        refine sm_wt (x_pR_11_4 Hh20 (x_v_11_3 Ho13)) fun h22 Hh22 => ?_
        refine sm_VI (S11_beginAnew Hh22) fun ho24 Ho24 => ?_
        refine sm_rd (x_gR_11_3 Ho24) ?_
        refine sm_rd (x_gI_8_12 Ho24 (x_v_11_3 Ho24)).1 ?_
        exact sm_retI Ho24 rfl (x_gI_8_12 Ho24 (x_v_11_3 Ho24)).2
    · exact sm_retI H l3_m2 lr3_m2
theorem S11_text {h : PH} (H : OKX h) {x1i : Int32} {x1 : Int} (ex1 : x1i = Z3 x1) (qx1 : r3 x1) : SimI OKX (F11_text h 0 x1i) (G11_text (rd h) x1) := by
  subst ex1
  unfold F11_text G11_text
  refine sm_cd (x_ok_11 H) ?_
  exact S11_text_0 H rfl qx1
theorem S11_tried_96 (n : Nat) : ∀ {h : PH} (H : OKX h) {x5i : Int32} {x5 : Int} (ex5 : x5i = Z3 x5) (qx5 : r3 x5), SimI OKX (F11_tried_96 n h 0 x5i) (G11_tried_96 n (rd h) x5) := by
  induction n with
  | zero => intros; exact smI_none _
  | succ n ih =>
    intro h H x5i x5 ex5 qx5
    subst ex5
    rw [F11_tried_96, G11_tried_96]
    refine sm_rd (x_gR_11_3 H) ?_
    refine sm_rd (x_gR_8_5 H (x_v_11_3 H)) ?_
    refine sm_rd (x_gI_10_1 H (ao_8_5 (x_v_11_3 H))).1 ?_
    refine sm_if (z3_le rfl rfl (x_gI_10_1 H (ao_8_5 (x_v_11_3 H))).2 qx5) ?_ ?_
    · refine sm_rd (x_gR_11_8 H) ?_
      refine sm_rd (x_gR_11_3 H) ?_
      refine sm_rd (x_gR_8_4 H (x_v_11_3 H)) ?_
      refine sm_rd (x_gI_1_0 H (ao_8_4 (x_v_11_3 H))).1 ?_
      refine sm_II (S4_hadInSum H p4_76 rfl ((x_gI_1_0 H (ao_8_4 (x_v_11_3 H))).2)) fun vo16 ho16 Ho16 ro16 => ?_
      exact sm_retI Ho16 rfl ro16
    · refine sm_rd (x_gR_11_6 H) ?_
      refine sm_rd (x_gR_11_8 H) ?_
      refine sm_VI (S6_bringWave H p6_60 p4_76 rfl qx5) fun ho22 Ho22 => ?_
      refine sg3I fun c1 => ?_
      exact ih Ho22 (z3_add rfl l3_1) c1
theorem S11_tried_54 {h : PH} (H : OKX h) {x1i : Int32} {x1 : Int} (ex1 : x1i = Z3 x1) (qx1 : r3 x1) {x2i : Int32} {x2 : Int} (ex2 : x2i = Z3 x2) (qx2 : r3 x2) {x3i : Int32} {x3 : Int} (ex3 : x3i = Z3 x3) (qx3 : r3 x3) : SimI OKX (F11_tried_54 h 0 x1i x2i x3i) (G11_tried_54 (rd h) x1 x2 x3) := by
  subst ex1 ex2 ex3
  unfold F11_tried_54 G11_tried_54
  refine sm_rd (x_gR_11_8 H) ?_
  refine sm_rd (x_gR_11_7 H) ?_
  refine sm_rd (x_gR_11_7 H) ?_
  refine sm_rd (x_gI_4_1 H p4_69).1 ?_
  refine sm_VI (S4_takeForRun H p4_76 p4_69 rfl ((x_gI_4_1 H p4_69).2) rfl qx3) fun ho9 Ho9 => ?_
  refine sm_rd (x_gR_11_6 Ho9) ?_
  refine sm_rd (x_gR_11_5 Ho9) ?_
  refine sm_VI (S6_takeOver Ho9 p6_60 p6_51) fun ho15 Ho15 => ?_
  refine sm_VI (S11_changeTrial Ho15 rfl qx1 rfl qx2) fun ho17 Ho17 => ?_
  refine sm_II (S11_firstToCome Ho17) fun vo19 ho19 Ho19 ro19 => ?_
  exact S11_tried_96 1024 Ho19 rfl ro19
theorem S11_tried_30 {h : PH} (H : OKX h) {x1i : Int32} {x1 : Int} (ex1 : x1i = Z3 x1) (qx1 : r3 x1) {x2i : Int32} {x2 : Int} (ex2 : x2i = Z3 x2) (qx2 : r3 x2) {x3i : Int32} {x3 : Int} (ex3 : x3i = Z3 x3) (qx3 : r3 x3) {s0i : Int32} {s0 : Int} (es0 : s0i = Z3 s0) (qs0 : r3 s0) : SimI OKX (F11_tried_30 h 0 x1i x2i x3i s0i) (G11_tried_30 (rd h) x1 x2 x3 s0) := by
  subst ex1 ex2 ex3 es0
  unfold F11_tried_30 G11_tried_30
  refine sm_if (z3_eq rfl l3_0 qs0 lr3_0) ?_ ?_
  · refine sm_if (z3_eq rfl l3_0 qx2 lr3_0) ?_ ?_
    · exact S11_tried_54 H rfl qx1 rfl qx2 rfl qx3
    · exact sm_retI H l3_m1 lr3_m1
  · refine sm_II (S11_isSurfer H rfl qx2) fun vo3 ho3 Ho3 ro3 => ?_
    refine sm_if (z3_eq rfl l3_0 ro3 lr3_0) ?_ ?_
    · exact sm_retI Ho3 l3_m1 lr3_m1
    · exact S11_tried_54 Ho3 rfl qx1 rfl qx2 rfl qx3
theorem S11_tried_25 {h : PH} (H : OKX h) {x1i : Int32} {x1 : Int} (ex1 : x1i = Z3 x1) (qx1 : r3 x1) {x2i : Int32} {x2 : Int} (ex2 : x2i = Z3 x2) (qx2 : r3 x2) {x3i : Int32} {x3 : Int} (ex3 : x3i = Z3 x3) (qx3 : r3 x3) : SimI OKX (F11_tried_25 h 0 x1i x2i x3i) (G11_tried_25 (rd h) x1 x2 x3) := by
  subst ex1 ex2 ex3
  unfold F11_tried_25 G11_tried_25
  exact S11_tried_30 H rfl qx1 rfl qx2 rfl qx3 l3_1 lr3_1
theorem S11_tried_0 {h : PH} (H : OKX h) {x1i : Int32} {x1 : Int} (ex1 : x1i = Z3 x1) (qx1 : r3 x1) {x2i : Int32} {x2 : Int} (ex2 : x2i = Z3 x2) (qx2 : r3 x2) {x3i : Int32} {x3 : Int} (ex3 : x3i = Z3 x3) (qx3 : r3 x3) : SimI OKX (F11_tried_0 h 0 x1i x2i x3i) (G11_tried_0 (rd h) x1 x2 x3) := by
  subst ex1 ex2 ex3
  unfold F11_tried_0 G11_tried_0
  refine sm_if (z3_lt rfl l3_0 qx1 lr3_0) ?_ ?_
  · exact sm_retI H l3_m1 lr3_m1
  · refine sm_if (z3_lt l3_4 rfl lr3_4 qx1) ?_ ?_
    · exact sm_retI H l3_m1 lr3_m1
    · refine sm_if (z3_le l3_0 rfl lr3_0 qx3) ?_ ?_
      · refine sm_if (z3_eq rfl l3_1 qx1 lr3_1) ?_ ?_
        · exact S11_tried_25 H rfl qx1 rfl qx2 rfl qx3
        · refine sm_if (z3_eq rfl l3_4 qx1 lr3_4) ?_ ?_
          · exact S11_tried_25 H rfl qx1 rfl qx2 rfl qx3
          · exact S11_tried_30 H rfl qx1 rfl qx2 rfl qx3 l3_0 lr3_0
      · exact sm_retI H l3_m1 lr3_m1
theorem S11_tried {h : PH} (H : OKX h) {x1i : Int32} {x1 : Int} (ex1 : x1i = Z3 x1) (qx1 : r3 x1) {x2i : Int32} {x2 : Int} (ex2 : x2i = Z3 x2) (qx2 : r3 x2) {x3i : Int32} {x3 : Int} (ex3 : x3i = Z3 x3) (qx3 : r3 x3) : SimI OKX (F11_tried h 0 x1i x2i x3i) (G11_tried (rd h) x1 x2 x3) := by
  subst ex1 ex2 ex3
  unfold F11_tried G11_tried
  refine sm_cd (x_ok_11 H) ?_
  exact S11_tried_0 H rfl qx1 rfl qx2 rfl qx3
theorem S11_undo_97 {h : PH} (H : OKX h) : SimI OKX (F11_undo_97 h 0) (G11_undo_97 (rd h)) := by
  unfold F11_undo_97 G11_undo_97
  refine sm_rd (x_gR_11_12 H) ?_
  refine sm_rd (x_gI_9_0 H).1 ?_
  exact sm_retI H rfl (x_gI_9_0 H).2
theorem S11_undo_0 {h : PH} (H : OKX h) : SimI OKX (F11_undo_0 h 0) (G11_undo_0 (rd h)) := by
  unfold F11_undo_0 G11_undo_0
  refine sm_rd (x_gR_11_12 H) ?_
  refine sm_rd (x_gI_9_0 H).1 ?_
  refine sm_if (z3_le l3_1 rfl lr3_1 (x_gI_9_0 H).2) ?_ ?_
  · refine sm_rd (x_gR_11_12 H) ?_
    refine sm_rd (x_gI_9_0 H).1 ?_
    refine sg3I fun c1 => ?_
    refine sm_wt (x_pI_9_0 H (z3_sub rfl l3_1) c1) fun h10 Hh10 => ?_
    refine sm_rd (x_gR_11_12 Hh10) ?_
    refine sm_rd (x_gR_9_1 Hh10) ?_
    refine sm_rd (x_gR_11_12 Hh10) ?_
    refine sm_rd (x_gI_9_0 Hh10).1 ?_
    refine sgxI fun c2 => ?_
    refine sm_rd (x_aI_9_1 Hh10 rfl c2).1 ?_
    refine sm_rd (x_gR_11_12 Hh10) ?_
    refine sm_rd (x_gR_9_2 Hh10) ?_
    refine sm_rd (x_gR_11_12 Hh10) ?_
    refine sm_rd (x_gI_9_0 Hh10).1 ?_
    refine sgxI fun c3 => ?_
    refine sm_rd (x_aI_9_2 Hh10 rfl c3).1 ?_
    refine sm_if (z3_eq rfl l3_m1 (x_aI_9_1 Hh10 rfl c2).2 lr3_m1) ?_ ?_
    · refine sm_rd (x_gR_11_7 Hh10) ?_
      refine sm_wt (x_pI_4_1 Hh10 p4_69 rfl (x_aI_9_2 Hh10 rfl c3).2) fun h49 Hh49 => ?_
      exact S11_undo_97 Hh49
    · refine sm_rd (x_gR_11_7 Hh10) ?_
      refine sm_rd (x_gR_4_5 Hh10 p4_69) ?_
      refine sgxI fun c4 => ?_
      refine sm_wt (x_sI_4_5 Hh10 (ao_4_5 p4_69) rfl c4 rfl (x_aI_9_2 Hh10 rfl c3).2) fun h38 Hh38 => ?_
      refine sm_rd (x_gR_11_7 Hh38) ?_
      refine sm_rd (x_gR_4_9 Hh38 p4_69) ?_
      refine sgxI fun c5 => ?_
      refine sm_rd (x_aI_4_9 Hh38 (ao_4_9 p4_69) rfl c5).1 ?_
      refine sgxI fun c6 => ?_
      refine sg3I fun c7 => ?_
      refine sm_wt (x_sI_4_9 Hh38 (ao_4_9 p4_69) rfl c6 (z3_sub rfl l3_1) c7) fun h46 Hh46 => ?_
      exact S11_undo_97 Hh46
  · exact sm_retI H l3_m1 lr3_m1
theorem S11_undo {h : PH} (H : OKX h) : SimI OKX (F11_undo h 0) (G11_undo (rd h)) := by
  unfold F11_undo G11_undo
  refine sm_cd (x_ok_11 H) ?_
  exact S11_undo_0 H
theorem S11_wave_0 {h : PH} (H : OKX h) {x1i : Int32} {x1 : Int} (ex1 : x1i = Z3 x1) (qx1 : r3 x1) {x2i : Int32} {x2 : Int} (ex2 : x2i = Z3 x2) (qx2 : r3 x2) : SimI OKX (F11_wave_0 h 0 x1i x2i) (G11_wave_0 (rd h) x1 x2) := by
  subst ex1 ex2
  unfold F11_wave_0 G11_wave_0
  refine sm_II (S11_isWave H rfl qx1) fun vo1 ho1 Ho1 ro1 => ?_
  refine sm_if (z3_eq rfl l3_0 ro1 lr3_0) ?_ ?_
  · exact sm_retI Ho1 l3_m4 lr3_m4
  · refine sm_if (z3_eq rfl l3_0 qx2 lr3_0) ?_ ?_
    · refine sm_rd (x_gR_11_3 Ho1) ?_
      refine sm_rd (x_gR_8_5 Ho1 (x_v_11_3 Ho1)) ?_
      refine sm_rd (x_gR_10_4 Ho1 (ao_8_5 (x_v_11_3 Ho1))) ?_
      refine sgxI fun c1 => ?_
      refine sm_rd (x_aI_10_4 Ho1 (ao_10_4 (ao_8_5 (x_v_11_3 Ho1))) rfl c1).1 ?_
      exact sm_retI Ho1 rfl (x_aI_10_4 Ho1 (ao_10_4 (ao_8_5 (x_v_11_3 Ho1))) rfl c1).2
    · refine sm_if (z3_eq rfl l3_1 qx2 lr3_1) ?_ ?_
      · refine sm_rd (x_gR_11_3 Ho1) ?_
        refine sm_rd (x_gR_8_5 Ho1 (x_v_11_3 Ho1)) ?_
        refine sm_rd (x_gR_10_5 Ho1 (ao_8_5 (x_v_11_3 Ho1))) ?_
        refine sgxI fun c2 => ?_
        refine sm_rd (x_aI_10_5 Ho1 (ao_10_5 (ao_8_5 (x_v_11_3 Ho1))) rfl c2).1 ?_
        exact sm_retI Ho1 rfl (x_aI_10_5 Ho1 (ao_10_5 (ao_8_5 (x_v_11_3 Ho1))) rfl c2).2
      · refine sm_if (z3_eq rfl l3_2 qx2 lr3_2) ?_ ?_
        · refine sm_rd (x_gR_11_3 Ho1) ?_
          refine sm_rd (x_gR_8_5 Ho1 (x_v_11_3 Ho1)) ?_
          refine sm_rd (x_gR_10_6 Ho1 (ao_8_5 (x_v_11_3 Ho1))) ?_
          refine sgxI fun c3 => ?_
          refine sm_rd (x_aI_10_6 Ho1 (ao_10_6 (ao_8_5 (x_v_11_3 Ho1))) rfl c3).1 ?_
          exact sm_retI Ho1 rfl (x_aI_10_6 Ho1 (ao_10_6 (ao_8_5 (x_v_11_3 Ho1))) rfl c3).2
        · refine sm_if (z3_eq rfl l3_3 qx2 lr3_3) ?_ ?_
          · refine sm_rd (x_gR_11_3 Ho1) ?_
            refine sm_rd (x_gR_8_5 Ho1 (x_v_11_3 Ho1)) ?_
            refine sm_rd (x_gR_10_7 Ho1 (ao_8_5 (x_v_11_3 Ho1))) ?_
            refine sgxI fun c4 => ?_
            refine sm_rd (x_aI_10_7 Ho1 (ao_10_7 (ao_8_5 (x_v_11_3 Ho1))) rfl c4).1 ?_
            exact sm_retI Ho1 rfl (x_aI_10_7 Ho1 (ao_10_7 (ao_8_5 (x_v_11_3 Ho1))) rfl c4).2
          · refine sm_if (z3_eq rfl l3_4 qx2 lr3_4) ?_ ?_
            · refine sm_rd (x_gR_11_7 Ho1) ?_
              refine sm_rd (x_gR_4_10 Ho1 p4_69) ?_
              refine sgxI fun c5 => ?_
              refine sm_rd (x_aI_4_10 Ho1 (ao_4_10 p4_69) rfl c5).1 ?_
              exact sm_retI Ho1 rfl (x_aI_4_10 Ho1 (ao_4_10 p4_69) rfl c5).2
            · exact sm_retI Ho1 l3_m4 lr3_m4
theorem S11_wave {h : PH} (H : OKX h) {x1i : Int32} {x1 : Int} (ex1 : x1i = Z3 x1) (qx1 : r3 x1) {x2i : Int32} {x2 : Int} (ex2 : x2i = Z3 x2) (qx2 : r3 x2) : SimI OKX (F11_wave h 0 x1i x2i) (G11_wave (rd h) x1 x2) := by
  subst ex1 ex2
  unfold F11_wave G11_wave
  refine sm_cd (x_ok_11 H) ?_
  exact S11_wave_0 H rfl qx1 rfl qx2
theorem S12_layNames_88 {h : PH} (H : OKM h) {t0i : Int64} {t0 : Int} (et0 : t0i = Z6 t0) (qt0 : r6 t0) {s1i : Int32} {s1 : Int} (es1 : s1i = Z3 s1) (qs1 : r3 s1) : SimV OKM (F12_layNames_88 h t0i s1i 23) (G12_layNames_88 (rd h) t0 s1) := by
  subst et0 es1
  unfold F12_layNames_88 G12_layNames_88
  refine sgxV fun c1 => ?_
  refine sm_wt (m_sJ_12_52 H rfl c1 rfl qt0) fun h2 Hh2 => ?_
  exact sm_retV Hh2
theorem S12_layNames_46 {h : PH} (H : OKM h) {x4i : Int32} {x4 : Int} (ex4 : x4i = Z3 x4) (qx4 : r3 x4) {x5i : Int32} {x5 : Int} (ex5 : x5i = Z3 x5) (qx5 : r3 x5) {t0i : Int64} {t0 : Int} (et0 : t0i = Z6 t0) (qt0 : r6 t0) {s1i : Int32} {s1 : Int} (es1 : s1i = Z3 s1) (qs1 : r3 s1) : SimV OKM (F12_layNames_46 h 0 x4i x5i t0i s1i 23) (G12_layNames_46 (rd h) x4 x5 t0 s1) := by
  subst ex4 ex5 et0 es1
  unfold F12_layNames_46 G12_layNames_46
  refine sgxV fun c1 => ?_
  refine sm_wt (m_sJ_12_52 H rfl c1 rfl qt0) fun h2 Hh2 => ?_
  refine sm_rd (m_gR_12_52 Hh2) ?_
  refine sm_wt (m_sJ_12_52 Hh2 l3_4 ⟨by decide, by decide⟩ (z3_to6 rfl qx5) (r3_6 qx5)) fun h6 Hh6 => ?_
  refine sm_rd (m_gR_12_52 Hh6) ?_
  refine sm_if (z3_le l3_0 rfl lr3_0 qx4) ?_ ?_
  · refine sm_rd (m_gR_12_33 Hh6) ?_
    refine sm_rd (m_gR_12_36 Hh6) ?_
    refine sgxV fun c2 => ?_
    refine sm_rd (m_aI_12_36 Hh6 rfl c2).1 ?_
    refine sgxV fun c3 => ?_
    refine sm_rd (m_aI_12_33 Hh6 rfl c3).1 ?_
    refine sg3V fun c4 => ?_
    exact S12_layNames_88 Hh6 (z3_to6 (z3_add (z3_sub rfl rfl) l3_1) c4) (r3_6 c4) l3_5 lr3_5
  · exact S12_layNames_88 Hh6 l6_0 lr6_0 l3_5 lr3_5
theorem S12_layNames_0 {h : PH} (H : OKM h) {x1i : Int32} {x1 : Int} (ex1 : x1i = Z3 x1) (qx1 : r3 x1) {x2i : Int32} {x2 : Int} (ex2 : x2i = Z3 x2) (qx2 : r3 x2) {x3i : Int32} {x3 : Int} (ex3 : x3i = Z3 x3) (qx3 : r3 x3) {x4i : Int32} {x4 : Int} (ex4 : x4i = Z3 x4) (qx4 : r3 x4) {x5i : Int32} {x5 : Int} (ex5 : x5i = Z3 x5) (qx5 : r3 x5) : SimV OKM (F12_layNames_0 h 0 x1i x2i x3i x4i x5i) (G12_layNames_0 (rd h) x1 x2 x3 x4 x5) := by
  subst ex1 ex2 ex3 ex4 ex5
  unfold F12_layNames_0 G12_layNames_0
  refine sm_rd (m_gR_12_52 H) ?_
  refine sm_wt (m_sJ_12_52 H l3_0 ⟨by decide, by decide⟩ (z3_to6 rfl qx1) (r3_6 qx1)) fun h4 Hh4 => ?_
  refine sm_rd (m_gR_12_52 Hh4) ?_
  refine sm_wt (m_sJ_12_52 Hh4 l3_1 ⟨by decide, by decide⟩ (z3_to6 rfl qx2) (r3_6 qx2)) fun h8 Hh8 => ?_
  refine sm_rd (m_gR_12_52 Hh8) ?_
  refine sm_wt (m_sJ_12_52 Hh8 l3_2 ⟨by decide, by decide⟩ (z3_to6 rfl qx3) (r3_6 qx3)) fun h12 Hh12 => ?_
  refine sm_rd (m_gR_12_52 Hh12) ?_
  refine sm_if (z3_le l3_0 rfl lr3_0 qx4) ?_ ?_
  · refine sm_rd (m_gR_12_35 Hh12) ?_
    refine sgxV fun c1 => ?_
    refine sm_rd (m_aI_12_35 Hh12 rfl c1).1 ?_
    exact S12_layNames_46 Hh12 rfl qx4 rfl qx5 (z3_to6 rfl (m_aI_12_35 Hh12 rfl c1).2) (r3_6 (m_aI_12_35 Hh12 rfl c1).2) l3_3 lr3_3
  · exact S12_layNames_46 Hh12 rfl qx4 rfl qx5 l6_0 lr6_0 l3_3 lr3_3
theorem S12_layNames {h : PH} (H : OKM h) {x1i : Int32} {x1 : Int} (ex1 : x1i = Z3 x1) (qx1 : r3 x1) {x2i : Int32} {x2 : Int} (ex2 : x2i = Z3 x2) (qx2 : r3 x2) {x3i : Int32} {x3 : Int} (ex3 : x3i = Z3 x3) (qx3 : r3 x3) {x4i : Int32} {x4 : Int} (ex4 : x4i = Z3 x4) (qx4 : r3 x4) {x5i : Int32} {x5 : Int} (ex5 : x5i = Z3 x5) (qx5 : r3 x5) : SimV OKM (F12_layNames h 0 x1i x2i x3i x4i x5i) (G12_layNames (rd h) x1 x2 x3 x4 x5) := by
  subst ex1 ex2 ex3 ex4 ex5
  unfold F12_layNames G12_layNames
  refine sm_cd (m_ok_12 H) ?_
  exact S12_layNames_0 H rfl qx1 rfl qx2 rfl qx3 rfl qx4 rfl qx5
theorem S12_bounded_29 {h : PH} (H : OKM h) {j1i : Int64} {j1 : Int} (ej1 : j1i = Z6 j1) (qj1 : r6 j1) {s0i : Int32} {s0 : Int} (es0 : s0i = Z3 s0) (qs0 : r3 s0) : SimJ OKM (F12_bounded_29 h 0 j1i s0i 0) (G12_bounded_29 (rd h) j1 s0) := by
  subst ej1 es0
  unfold F12_bounded_29 G12_bounded_29
  refine sgbJ fun c1 => ?_
  refine sm_wt (m_pZ_12_54 H rfl c1) fun h1 Hh1 => ?_
  refine sm_rd (m_gI_12_54 Hh1).1 ?_
  refine sm_if (z3_eq rfl l3_0 (m_gI_12_54 Hh1).2 lr3_0) ?_ ?_
  · exact sm_retJ Hh1 rfl qj1
  · exact sm_retJ Hh1 l6_0 lr6_0
theorem S12_bounded_24 {h : PH} (H : OKM h) {j1i : Int64} {j1 : Int} (ej1 : j1i = Z6 j1) (qj1 : r6 j1) : SimJ OKM (F12_bounded_24 h 0 j1i 0) (G12_bounded_24 (rd h) j1) := by
  subst ej1
  unfold F12_bounded_24 G12_bounded_24
  exact S12_bounded_29 H rfl qj1 l3_1 lr3_1
theorem S12_bounded_0 {h : PH} (H : OKM h) {j1i : Int64} {j1 : Int} (ej1 : j1i = Z6 j1) (qj1 : r6 j1) : SimJ OKM (F12_bounded_0 h 0 j1i) (G12_bounded_0 (rd h) j1) := by
  subst ej1
  unfold F12_bounded_0 G12_bounded_0
  refine sm_rd (m_gI_12_54 H).1 ?_
  refine sm_if (z3_eq rfl l3_0 (m_gI_12_54 H).2 lr3_0) ?_ ?_
  · refine sm_if (cmp_gt rfl l6_1000000000000 qj1 lr6_1000000000000) ?_ ?_
    · exact S12_bounded_24 H rfl qj1
    · refine sm_if (cmp_ge rfl l6_m1000000000000 qj1 lr6_m1000000000000) ?_ ?_
      · exact S12_bounded_29 H rfl qj1 l3_0 lr3_0
      · exact S12_bounded_24 H rfl qj1
  · exact S12_bounded_24 H rfl qj1
theorem S12_bounded {h : PH} (H : OKM h) {j1i : Int64} {j1 : Int} (ej1 : j1i = Z6 j1) (qj1 : r6 j1) : SimJ OKM (F12_bounded h 0 j1i) (G12_bounded (rd h) j1) := by
  subst ej1
  unfold F12_bounded G12_bounded
  refine sm_cd (m_ok_12 H) ?_
  exact S12_bounded_0 H rfl qj1
theorem S12_times_69 {h : PH} (H : OKM h) {j1i : Int64} {j1 : Int} (ej1 : j1i = Z6 j1) (qj1 : r6 j1) {j3i : Int64} {j3 : Int} (ej3 : j3i = Z6 j3) (qj3 : r6 j3) {s0i : Int32} {s0 : Int} (es0 : s0i = Z3 s0) (qs0 : r3 s0) : SimJ OKM (F12_times_69 h 0 j1i j3i s0i 0) (G12_times_69 (rd h) j1 j3 s0) := by
  subst ej1 ej3 es0
  unfold F12_times_69 G12_times_69
  refine sgbJ fun c1 => ?_
  refine sm_wt (m_pZ_12_54 H rfl c1) fun h1 Hh1 => ?_
  refine sm_rd (m_gI_12_54 Hh1).1 ?_
  refine sm_if (z3_eq rfl l3_0 (m_gI_12_54 Hh1).2 lr3_0) ?_ ?_
  · refine sg6J fun c2 => ?_
    exact sm_retJ Hh1 (z6_mul rfl rfl) c2
  · exact sm_retJ Hh1 l6_0 lr6_0
theorem S12_times_64 {h : PH} (H : OKM h) {j1i : Int64} {j1 : Int} (ej1 : j1i = Z6 j1) (qj1 : r6 j1) {j3i : Int64} {j3 : Int} (ej3 : j3i = Z6 j3) (qj3 : r6 j3) : SimJ OKM (F12_times_64 h 0 j1i j3i 0) (G12_times_64 (rd h) j1 j3) := by
  subst ej1 ej3
  unfold F12_times_64 G12_times_64
  exact S12_times_69 H rfl qj1 rfl qj3 l3_1 lr3_1
theorem S12_times_49 {h : PH} (H : OKM h) {j1i : Int64} {j1 : Int} (ej1 : j1i = Z6 j1) (qj1 : r6 j1) {j3i : Int64} {j3 : Int} (ej3 : j3i = Z6 j3) (qj3 : r6 j3) {s0i : Int32} {s0 : Int} (es0 : s0i = Z3 s0) (qs0 : r3 s0) : SimJ OKM (F12_times_49 h 0 j1i j3i s0i) (G12_times_49 (rd h) j1 j3 s0) := by
  subst ej1 ej3 es0
  unfold F12_times_49 G12_times_49
  refine sm_rd (m_gI_12_54 H).1 ?_
  refine sm_if (z3_eq rfl l3_0 (m_gI_12_54 H).2 lr3_0) ?_ ?_
  · refine sm_if (z3_eq rfl l3_0 qs0 lr3_0) ?_ ?_
    · exact S12_times_69 H rfl qj1 rfl qj3 l3_0 lr3_0
    · exact S12_times_64 H rfl qj1 rfl qj3
  · exact S12_times_64 H rfl qj1 rfl qj3
theorem S12_times_48 {h : PH} (H : OKM h) {j1i : Int64} {j1 : Int} (ej1 : j1i = Z6 j1) (qj1 : r6 j1) {j3i : Int64} {j3 : Int} (ej3 : j3i = Z6 j3) (qj3 : r6 j3) : SimJ OKM (F12_times_48 h 0 j1i j3i) (G12_times_48 (rd h) j1 j3) := by
  subst ej1 ej3
  unfold F12_times_48 G12_times_48
  exact S12_times_49 H rfl qj1 rfl qj3 l3_0 lr3_0
theorem S12_times_39 {h : PH} (H : OKM h) {j1i : Int64} {j1 : Int} (ej1 : j1i = Z6 j1) (qj1 : r6 j1) {j3i : Int64} {j3 : Int} (ej3 : j3i = Z6 j3) (qj3 : r6 j3) {t0i : Int64} {t0 : Int} (et0 : t0i = Z6 t0) (qt0 : r6 t0) {t1i : Int64} {t1 : Int} (et1 : t1i = Z6 t1) (qt1 : r6 t1) {t2i : Int64} {t2 : Int} (et2 : t2i = Z6 t2) (qt2 : r6 t2) : SimJ OKM (F12_times_39 h 0 j1i j3i t0i t1i t2i) (G12_times_39 (rd h) j1 j3 t0 t1 t2) := by
  subst ej1 ej3 et0 et1 et2
  unfold F12_times_39 G12_times_39
  refine sm_if (z6_eq rfl l6_0 qt0 lr6_0) ?_ ?_
  · exact smJ_none _
  · refine sg6J fun c1 => ?_
    refine sm_if (cmp_le rfl (z6_div rfl rfl qt1 qt0) qt2 c1) ?_ ?_
    · exact S12_times_48 H rfl qj1 rfl qj3
    · exact S12_times_49 H rfl qj1 rfl qj3 l3_1 lr3_1
theorem S12_times_24 {h : PH} (H : OKM h) {j1i : Int64} {j1 : Int} (ej1 : j1i = Z6 j1) (qj1 : r6 j1) {j3i : Int64} {j3 : Int} (ej3 : j3i = Z6 j3) (qj3 : r6 j3) {t0i : Int64} {t0 : Int} (et0 : t0i = Z6 t0) (qt0 : r6 t0) : SimJ OKM (F12_times_24 h 0 j1i j3i t0i) (G12_times_24 (rd h) j1 j3 t0) := by
  subst ej1 ej3 et0
  unfold F12_times_24 G12_times_24
  refine sm_if (cmp_ge rfl l6_0 qj1 lr6_0) ?_ ?_
  · exact S12_times_39 H rfl qj1 rfl qj3 rfl qj1 l6_1000000000000 lr6_1000000000000 rfl qt0
  · refine sg6J fun c1 => ?_
    exact S12_times_39 H rfl qj1 rfl qj3 (z6_neg rfl) c1 l6_1000000000000 lr6_1000000000000 rfl qt0
theorem S12_times_0 {h : PH} (H : OKM h) {j1i : Int64} {j1 : Int} (ej1 : j1i = Z6 j1) (qj1 : r6 j1) {j3i : Int64} {j3 : Int} (ej3 : j3i = Z6 j3) (qj3 : r6 j3) : SimJ OKM (F12_times_0 h 0 j1i j3i) (G12_times_0 (rd h) j1 j3) := by
  subst ej1 ej3
  unfold F12_times_0 G12_times_0
  refine sm_if (cmp_eq rfl l6_0 qj1 lr6_0) ?_ ?_
  · exact S12_times_48 H rfl qj1 rfl qj3
  · refine sm_if (cmp_eq rfl l6_0 qj3 lr6_0) ?_ ?_
    · exact S12_times_48 H rfl qj1 rfl qj3
    · refine sm_if (cmp_ge rfl l6_0 qj3 lr6_0) ?_ ?_
      · exact S12_times_24 H rfl qj1 rfl qj3 rfl qj3
      · refine sg6J fun c1 => ?_
        exact S12_times_24 H rfl qj1 rfl qj3 (z6_neg rfl) c1
theorem S12_times {h : PH} (H : OKM h) {j1i : Int64} {j1 : Int} (ej1 : j1i = Z6 j1) (qj1 : r6 j1) {j3i : Int64} {j3 : Int} (ej3 : j3i = Z6 j3) (qj3 : r6 j3) : SimJ OKM (F12_times h 0 j1i j3i) (G12_times (rd h) j1 j3) := by
  subst ej1 ej3
  unfold F12_times G12_times
  refine sm_cd (m_ok_12 H) ?_
  exact S12_times_0 H rfl qj1 rfl qj3
theorem S12_compares_0 {h : PH} (H : OKM h) {x0i : Int32} {x0 : Int} (ex0 : x0i = Z3 x0) (qx0 : r3 x0) {j1i : Int64} {j1 : Int} (ej1 : j1i = Z6 j1) (qj1 : r6 j1) {j3i : Int64} {j3 : Int} (ej3 : j3i = Z6 j3) (qj3 : r6 j3) : SimI OKM (F12_compares_0 h x0i j1i j3i) (G12_compares_0 (rd h) x0 j1 j3) := by
  subst ex0 ej1 ej3
  unfold F12_compares_0 G12_compares_0
  refine sm_if (z3_eq rfl l3_5 qx0 lr3_5) ?_ ?_
  · refine sm_if (cmp_ge rfl rfl qj1 qj3) ?_ ?_
    · exact sm_rz H l3_0 (by decide)
    · exact sm_rz H l3_1 (by decide)
  · refine sm_if (z3_eq rfl l3_6 qx0 lr3_6) ?_ ?_
    · refine sm_if (cmp_gt rfl rfl qj1 qj3) ?_ ?_
      · exact sm_rz H l3_0 (by decide)
      · exact sm_rz H l3_1 (by decide)
    · refine sm_if (z3_eq rfl l3_7 qx0 lr3_7) ?_ ?_
      · refine sm_if (cmp_eq rfl rfl qj1 qj3) ?_ ?_
        · exact sm_rz H l3_1 (by decide)
        · exact sm_rz H l3_0 (by decide)
      · refine sm_if (z3_eq rfl l3_8 qx0 lr3_8) ?_ ?_
        · refine sm_if (cmp_eq rfl rfl qj1 qj3) ?_ ?_
          · exact sm_rz H l3_0 (by decide)
          · exact sm_rz H l3_1 (by decide)
        · refine sm_if (z3_eq rfl l3_9 qx0 lr3_9) ?_ ?_
          · refine sm_if (cmp_lt rfl rfl qj1 qj3) ?_ ?_
            · exact sm_rz H l3_0 (by decide)
            · exact sm_rz H l3_1 (by decide)
          · refine sm_if (cmp_le rfl rfl qj1 qj3) ?_ ?_
            · exact sm_rz H l3_0 (by decide)
            · exact sm_rz H l3_1 (by decide)
theorem S12_compares {h : PH} (H : OKM h) {x0i : Int32} {x0 : Int} (ex0 : x0i = Z3 x0) (qx0 : r3 x0) {j1i : Int64} {j1 : Int} (ej1 : j1i = Z6 j1) (qj1 : r6 j1) {j3i : Int64} {j3 : Int} (ej3 : j3i = Z6 j3) (qj3 : r6 j3) : SimI OKM (F12_compares h x0i j1i j3i) (G12_compares (rd h) x0 j1 j3) := by
  subst ex0 ej1 ej3
  unfold F12_compares G12_compares
  exact S12_compares_0 H rfl qx0 rfl qj1 rfl qj3
theorem S12_valueOf_240 {h : PH} (H : OKM h) {j2i : Int64} {j2 : Int} (ej2 : j2i = Z6 j2) (qj2 : r6 j2) {j4i : Int64} {j4 : Int} (ej4 : j4i = Z6 j4) (qj4 : r6 j4) {s0i : Int32} {s0 : Int} (es0 : s0i = Z3 s0) (qs0 : r3 s0) : SimJ OKM (F12_valueOf_240 h 0 j2i j4i s0i 0) (G12_valueOf_240 (rd h) j2 j4 s0) := by
  subst ej2 ej4 es0
  unfold F12_valueOf_240 G12_valueOf_240
  refine sgbJ fun c1 => ?_
  refine sm_wt (m_pZ_12_54 H rfl c1) fun h1 Hh1 => ?_
  refine sm_rd (m_gI_12_54 Hh1).1 ?_
  refine sm_if (z3_eq rfl l3_0 (m_gI_12_54 Hh1).2 lr3_0) ?_ ?_
  · refine sm_if (z6_eq rfl l6_0 qj4 lr6_0) ?_ ?_
    · exact smJ_none _
    · refine sg6J fun c2 => ?_
      exact sm_retJ Hh1 (z6_div rfl rfl qj2 qj4) c2
  · exact sm_retJ Hh1 l6_0 lr6_0
theorem S12_valueOf_235 {h : PH} (H : OKM h) {j2i : Int64} {j2 : Int} (ej2 : j2i = Z6 j2) (qj2 : r6 j2) {j4i : Int64} {j4 : Int} (ej4 : j4i = Z6 j4) (qj4 : r6 j4) : SimJ OKM (F12_valueOf_235 h 0 j2i j4i 0) (G12_valueOf_235 (rd h) j2 j4) := by
  subst ej2 ej4
  unfold F12_valueOf_235 G12_valueOf_235
  exact S12_valueOf_240 H rfl qj2 rfl qj4 l3_1 lr3_1
theorem S12_valueOf_0 {h : PH} (H : OKM h) {x1i : Int32} {x1 : Int} (ex1 : x1i = Z3 x1) (qx1 : r3 x1) : SimJ OKM (F12_valueOf_0 h 0 x1i) (G12_valueOf_0 (rd h) x1) := by
  subst ex1
  unfold F12_valueOf_0 G12_valueOf_0
  refine sm_rd (m_gR_12_40 H) ?_
  refine sgxJ fun c1 => ?_
  refine sm_rd (m_aI_12_40 H rfl c1).1 ?_
  refine sm_if (z3_eq rfl l3_0 (m_aI_12_40 H rfl c1).2 lr3_0) ?_ ?_
  · refine sm_rd (m_gR_12_41 H) ?_
    refine sgxJ fun c2 => ?_
    refine sm_rd (m_aI_12_41 H rfl c2).1 ?_
    exact sm_retJ H (z3_to6 rfl (m_aI_12_41 H rfl c2).2) (r3_6 (m_aI_12_41 H rfl c2).2)
  · refine sm_rd (m_gR_12_40 H) ?_
    refine sgxJ fun c3 => ?_
    refine sm_rd (m_aI_12_40 H rfl c3).1 ?_
    refine sm_if (z3_eq rfl l3_1 (m_aI_12_40 H rfl c3).2 lr3_1) ?_ ?_
    · refine sm_rd (m_gR_12_52 H) ?_
      refine sm_rd (m_gR_12_41 H) ?_
      refine sgxJ fun c4 => ?_
      refine sm_rd (m_aI_12_41 H rfl c4).1 ?_
      refine sgxJ fun c5 => ?_
      refine sm_rd (m_aJ_12_52 H rfl c5).1 ?_
      exact sm_retJ H rfl (m_aJ_12_52 H rfl c5).2
    · refine sm_rd (m_gR_12_53 H) ?_
      refine sm_rd (m_gR_12_41 H) ?_
      refine sgxJ fun c6 => ?_
      refine sm_rd (m_aI_12_41 H rfl c6).1 ?_
      refine sgxJ fun c7 => ?_
      refine sm_rd (m_aJ_12_53 H rfl c7).1 ?_
      refine sm_rd (m_gR_12_40 H) ?_
      refine sgxJ fun c8 => ?_
      refine sm_rd (m_aI_12_40 H rfl c8).1 ?_
      refine sm_if (z3_eq rfl l3_2 (m_aI_12_40 H rfl c8).2 lr3_2) ?_ ?_
      · refine sm_if (cmp_eq rfl l6_0 (m_aJ_12_53 H rfl c7).2 lr6_0) ?_ ?_
        · exact sm_retJ H l6_1 lr6_1
        · exact sm_retJ H l6_0 lr6_0
      · refine sm_rd (m_gR_12_53 H) ?_
        refine sm_rd (m_gR_12_42 H) ?_
        refine sgxJ fun c9 => ?_
        refine sm_rd (m_aI_12_42 H rfl c9).1 ?_
        refine sgxJ fun c10 => ?_
        refine sm_rd (m_aJ_12_53 H rfl c10).1 ?_
        refine sm_rd (m_gR_12_40 H) ?_
        refine sgxJ fun c11 => ?_
        refine sm_rd (m_aI_12_40 H rfl c11).1 ?_
        refine sm_if (z3_eq rfl l3_3 (m_aI_12_40 H rfl c11).2 lr3_3) ?_ ?_
        · refine sm_if (cmp_eq rfl l6_0 (m_aJ_12_53 H rfl c7).2 lr6_0) ?_ ?_
          · exact sm_retJ H l6_0 lr6_0
          · refine sm_if (cmp_eq rfl l6_0 (m_aJ_12_53 H rfl c10).2 lr6_0) ?_ ?_
            · exact sm_retJ H l6_0 lr6_0
            · exact sm_retJ H l6_1 lr6_1
        · refine sm_if (z3_eq rfl l3_4 (m_aI_12_40 H rfl c11).2 lr3_4) ?_ ?_
          · refine sm_if (cmp_eq rfl l6_0 (m_aJ_12_53 H rfl c7).2 lr6_0) ?_ ?_
            · refine sm_if (cmp_eq rfl l6_0 (m_aJ_12_53 H rfl c10).2 lr6_0) ?_ ?_
              · exact sm_retJ H l6_0 lr6_0
              · exact sm_retJ H l6_1 lr6_1
            · exact sm_retJ H l6_1 lr6_1
          · refine sm_if (z3_eq rfl l3_11 (m_aI_12_40 H rfl c11).2 lr3_11) ?_ ?_
            · refine sg6J fun c12 => ?_
              refine sm_JJ (S12_bounded H (z6_add rfl rfl) c12) fun vo43 ho43 Ho43 ro43 => ?_
              exact sm_retJ Ho43 rfl ro43
            · refine sm_if (z3_eq rfl l3_12 (m_aI_12_40 H rfl c11).2 lr3_12) ?_ ?_
              · refine sg6J fun c13 => ?_
                refine sm_JJ (S12_bounded H (z6_sub rfl rfl) c13) fun vo46 ho46 Ho46 ro46 => ?_
                exact sm_retJ Ho46 rfl ro46
              · refine sm_if (z3_eq rfl l3_13 (m_aI_12_40 H rfl c11).2 lr3_13) ?_ ?_
                · refine sm_JJ (S12_times H rfl ((m_aJ_12_53 H rfl c7).2) rfl ((m_aJ_12_53 H rfl c10).2)) fun vo49 ho49 Ho49 ro49 => ?_
                  exact sm_retJ Ho49 rfl ro49
                · refine sm_if (z3_eq rfl l3_14 (m_aI_12_40 H rfl c11).2 lr3_14) ?_ ?_
                  · refine sm_rd (m_gI_12_54 H).1 ?_
                    refine sm_if (z3_eq rfl l3_0 (m_gI_12_54 H).2 lr3_0) ?_ ?_
                    · refine sm_if (cmp_eq rfl l6_0 (m_aJ_12_53 H rfl c10).2 lr6_0) ?_ ?_
                      · exact S12_valueOf_235 H rfl ((m_aJ_12_53 H rfl c7).2) rfl ((m_aJ_12_53 H rfl c10).2)
                      · exact S12_valueOf_240 H rfl ((m_aJ_12_53 H rfl c7).2) rfl ((m_aJ_12_53 H rfl c10).2) l3_0 lr3_0
                    · exact S12_valueOf_235 H rfl ((m_aJ_12_53 H rfl c7).2) rfl ((m_aJ_12_53 H rfl c10).2)
                  · refine sm_rd (m_gR_12_40 H) ?_
                    refine sgxJ fun c14 => ?_
                    refine sm_rd (m_aI_12_40 H rfl c14).1 ?_
                    refine sm_IJ (S12_compares H rfl ((m_aI_12_40 H rfl c14).2) rfl ((m_aJ_12_53 H rfl c7).2) rfl ((m_aJ_12_53 H rfl c10).2)) fun vo60 ho60 Ho60 ro60 => ?_
                    refine sm_if (z3_eq rfl l3_0 ro60 lr3_0) ?_ ?_
                    · exact sm_retJ Ho60 l6_0 lr6_0
                    · exact sm_retJ Ho60 l6_1 lr6_1
theorem S12_valueOf {h : PH} (H : OKM h) {x1i : Int32} {x1 : Int} (ex1 : x1i = Z3 x1) (qx1 : r3 x1) : SimJ OKM (F12_valueOf h 0 x1i) (G12_valueOf (rd h) x1) := by
  subst ex1
  unfold F12_valueOf G12_valueOf
  refine sm_cd (m_ok_12 H) ?_
  exact S12_valueOf_0 H rfl qx1
theorem S12_lawOf_12 (n : Nat) : ∀ {h : PH} (H : OKM h) {x1i : Int32} {x1 : Int} (ex1 : x1i = Z3 x1) (qx1 : r3 x1) {x2i : Int32} {x2 : Int} (ex2 : x2i = Z3 x2) (qx2 : r3 x2), SimJ OKM (F12_lawOf_12 n h 0 x1i x2i) (G12_lawOf_12 n (rd h) x1 x2) := by
  induction n with
  | zero => intros; exact smJ_none _
  | succ n ih =>
    intro h H x1i x1 ex1 qx1 x2i x2 ex2 qx2
    subst ex1 ex2
    rw [F12_lawOf_12, G12_lawOf_12]
    refine sm_rd (m_gR_12_39 H) ?_
    refine sgxJ fun c1 => ?_
    refine sm_rd (m_aI_12_39 H rfl c1).1 ?_
    refine sm_if (z3_le rfl rfl (m_aI_12_39 H rfl c1).2 qx2) ?_ ?_
    · refine sm_rd (m_gI_12_54 H).1 ?_
      refine sm_if (z3_eq rfl l3_0 (m_gI_12_54 H).2 lr3_0) ?_ ?_
      · refine sm_rd (m_gR_12_53 H) ?_
        refine sm_rd (m_gR_12_39 H) ?_
        refine sgxJ fun c2 => ?_
        refine sm_rd (m_aI_12_39 H rfl c2).1 ?_
        refine sgxJ fun c3 => ?_
        refine sm_rd (m_aJ_12_53 H (z3_sub rfl l3_1) c3).1 ?_
        exact sm_retJ H rfl (m_aJ_12_53 H (z3_sub rfl l3_1) c3).2
      · exact sm_retJ H l6_0 lr6_0
    · refine sm_rd (m_gR_12_53 H) ?_
      refine sm_JJ (S12_valueOf H rfl qx2) fun vo19 ho19 Ho19 ro19 => ?_
      refine sgxJ fun c4 => ?_
      refine sm_wt (m_sJ_12_53 Ho19 rfl c4 rfl ro19) fun h22 Hh22 => ?_
      refine sg3J fun c5 => ?_
      exact ih Hh22 rfl qx1 (z3_add rfl l3_1) c5
theorem S12_lawOf_0 {h : PH} (H : OKM h) {x1i : Int32} {x1 : Int} (ex1 : x1i = Z3 x1) (qx1 : r3 x1) : SimJ OKM (F12_lawOf_0 h 0 x1i) (G12_lawOf_0 (rd h) x1) := by
  subst ex1
  unfold F12_lawOf_0 G12_lawOf_0
  refine sm_wt (m_pZ_12_54 H l3_0 (by decide)) fun h1 Hh1 => ?_
  refine sm_rd (m_gR_12_38 Hh1) ?_
  refine sgxJ fun c1 => ?_
  refine sm_rd (m_aI_12_38 Hh1 rfl c1).1 ?_
  exact S12_lawOf_12 1024 Hh1 rfl qx1 rfl ((m_aI_12_38 Hh1 rfl c1).2)
theorem S12_lawOf {h : PH} (H : OKM h) {x1i : Int32} {x1 : Int} (ex1 : x1i = Z3 x1) (qx1 : r3 x1) : SimJ OKM (F12_lawOf h 0 x1i) (G12_lawOf (rd h) x1) := by
  subst ex1
  unfold F12_lawOf G12_lawOf
  refine sm_cd (m_ok_12 H) ?_
  exact S12_lawOf_0 H rfl qx1
theorem S12_boundLaw_0 {h : PH} (H : OKM h) {x1i : Int32} {x1 : Int} (ex1 : x1i = Z3 x1) (qx1 : r3 x1) {x2i : Int32} {x2 : Int} (ex2 : x2i = Z3 x2) (qx2 : r3 x2) {x3i : Int32} {x3 : Int} (ex3 : x3i = Z3 x3) (qx3 : r3 x3) {x4i : Int32} {x4 : Int} (ex4 : x4i = Z3 x4) (qx4 : r3 x4) : SimI OKM (F12_boundLaw_0 h 0 x1i x2i x3i x4i) (G12_boundLaw_0 (rd h) x1 x2 x3 x4) := by
  subst ex1 ex2 ex3 ex4
  unfold F12_boundLaw_0 G12_boundLaw_0
  refine sm_rd (m_gR_12_37 H) ?_
  refine sgxI fun c1 => ?_
  refine sm_rd (m_aI_12_37 H rfl c1).1 ?_
  refine sm_if (z3_eq rfl l3_0 (m_aI_12_37 H rfl c1).2 lr3_0) ?_ ?_
  · exact sm_retI H rfl qx2
  · refine sm_JI (S12_lawOf H rfl qx1) fun vo6 ho6 Ho6 ro6 => ?_
    refine sm_rd (m_gI_12_54 Ho6).1 ?_
    refine sm_if (z3_eq rfl l3_0 (m_gI_12_54 Ho6).2 lr3_0) ?_ ?_
    · refine sm_if (cmp_ge rfl (z3_to6 rfl qx3) ro6 (r3_6 qx3)) ?_ ?_
      · refine sm_if (cmp_le rfl (z3_to6 rfl qx4) ro6 (r3_6 qx4)) ?_ ?_
        · refine sg3I fun c2 => ?_
          exact sm_retI Ho6 (z6_to3 rfl) c2
        · exact sm_retI Ho6 rfl qx4
      · exact sm_retI Ho6 rfl qx3
    · exact sm_retI Ho6 rfl qx2
theorem S12_boundLaw {h : PH} (H : OKM h) {x1i : Int32} {x1 : Int} (ex1 : x1i = Z3 x1) (qx1 : r3 x1) {x2i : Int32} {x2 : Int} (ex2 : x2i = Z3 x2) (qx2 : r3 x2) {x3i : Int32} {x3 : Int} (ex3 : x3i = Z3 x3) (qx3 : r3 x3) {x4i : Int32} {x4 : Int} (ex4 : x4i = Z3 x4) (qx4 : r3 x4) : SimI OKM (F12_boundLaw h 0 x1i x2i x3i x4i) (G12_boundLaw (rd h) x1 x2 x3 x4) := by
  subst ex1 ex2 ex3 ex4
  unfold F12_boundLaw G12_boundLaw
  refine sm_cd (m_ok_12 H) ?_
  exact S12_boundLaw_0 H rfl qx1 rfl qx2 rfl qx3 rfl qx4
theorem S12_peakAt_37 {h : PH} (H : OKM h) {s0i : Int32} {s0 : Int} (es0 : s0i = Z3 s0) (qs0 : r3 s0) {s1i : Int32} {s1 : Int} (es1 : s1i = Z3 s1) (qs1 : r3 s1) : SimI OKM (F12_peakAt_37 h 0 s0i s1i) (G12_peakAt_37 (rd h) s0 s1) := by
  subst es0 es1
  unfold F12_peakAt_37 G12_peakAt_37
  refine sm_rd (m_gI_12_12 H).1 ?_
  refine sm_rd (m_gR_12_26 H) ?_
  refine sm_rd (m_aI_12_26 H l3_1 ⟨by decide, by decide⟩).1 ?_
  refine sg3I fun c1 => ?_
  refine sm_if (z3_le l3_0 (z3_add rfl rfl) lr3_0 c1) ?_ ?_
  · refine sm_rd (m_gI_12_12 H).1 ?_
    refine sg3I fun c2 => ?_
    refine sm_if (z3_lt (z3_add rfl rfl) rfl c2 (m_gI_12_12 H).2) ?_ ?_
    · refine sg3I fun c3 => ?_
      exact sm_retI H (z3_add (z3_mul rfl rfl) (z3_add rfl rfl)) c3
    · refine sm_rd (m_gI_12_12 H).1 ?_
      refine sg3I fun c4 => ?_
      exact sm_retI H (z3_add (z3_mul rfl rfl) (z3_sub rfl l3_1)) c4
  · refine sg3I fun c5 => ?_
    exact sm_retI H (z3_add (z3_mul rfl rfl) l3_0) c5
theorem S12_peakAt_0 {h : PH} (H : OKM h) {x1i : Int32} {x1 : Int} (ex1 : x1i = Z3 x1) (qx1 : r3 x1) : SimI OKM (F12_peakAt_0 h 0 x1i) (G12_peakAt_0 (rd h) x1) := by
  subst ex1
  unfold F12_peakAt_0 G12_peakAt_0
  refine sm_VI (S12_layNames H l3_0 lr3_0 l3_0 lr3_0 l3_0 lr3_0 l3_m1 lr3_m1 rfl qx1) fun ho1 Ho1 => ?_
  refine sm_rd (m_gR_12_26 Ho1) ?_
  refine sm_rd (m_aI_12_26 Ho1 l3_0 ⟨by decide, by decide⟩).1 ?_
  refine sm_rd (m_gI_12_66 Ho1).1 ?_
  refine sm_if (z3_eq rfl l3_2 (m_gI_12_66 Ho1).2 lr3_2) ?_ ?_
  · exact S12_peakAt_37 Ho1 l3_0 lr3_0 rfl ((m_aI_12_26 Ho1 l3_0 ⟨by decide, by decide⟩).2)
  · refine sm_II (S12_boundLaw Ho1 l3_1 lr3_1 l3_0 lr3_0 l3_m8 lr3_m8 l3_8 lr3_8) fun vo10 ho10 Ho10 ro10 => ?_
    exact S12_peakAt_37 Ho10 rfl ro10 rfl ((m_aI_12_26 Ho1 l3_0 ⟨by decide, by decide⟩).2)
theorem S12_peakAt {h : PH} (H : OKM h) {x1i : Int32} {x1 : Int} (ex1 : x1i = Z3 x1) (qx1 : r3 x1) : SimI OKM (F12_peakAt h 0 x1i) (G12_peakAt (rd h) x1) := by
  subst ex1
  unfold F12_peakAt G12_peakAt
  refine sm_cd (m_ok_12 H) ?_
  exact S12_peakAt_0 H rfl qx1
theorem S12_far_39 {h : PH} (H : OKM h) {x4i : Int32} {x4 : Int} (ex4 : x4i = Z3 x4) (qx4 : r3 x4) {s0i : Int32} {s0 : Int} (es0 : s0i = Z3 s0) (qs0 : r3 s0) : SimI OKM (F12_far_39 h x4i s0i) (G12_far_39 (rd h) x4 s0) := by
  subst ex4 es0
  unfold F12_far_39 G12_far_39
  refine sm_if (z3_le l3_0 rfl lr3_0 qx4) ?_ ?_
  · refine sg3I fun c1 => ?_
    exact sm_retI H (z3_add rfl rfl) c1
  · refine sg3I fun c2 => ?_
    exact sm_retI H (z3_add rfl (z3_neg rfl)) c2
theorem S12_far_0 {h : PH} (H : OKM h) {x1i : Int32} {x1 : Int} (ex1 : x1i = Z3 x1) (qx1 : r3 x1) {x2i : Int32} {x2 : Int} (ex2 : x2i = Z3 x2) (qx2 : r3 x2) : SimI OKM (F12_far_0 h 0 x1i x2i) (G12_far_0 (rd h) x1 x2) := by
  subst ex1 ex2
  unfold F12_far_0 G12_far_0
  refine sm_rd (m_gI_12_12 H).1 ?_
  refine sm_if (z3_eq rfl l3_0 (m_gI_12_12 H).2 lr3_0) ?_ ?_
  · exact smI_none _
  · refine sm_rd (m_gI_12_12 H).1 ?_
    refine sm_if (z3_eq rfl l3_0 (m_gI_12_12 H).2 lr3_0) ?_ ?_
    · exact smI_none _
    · refine sm_rd (m_gI_12_12 H).1 ?_
      refine sm_if (z3_eq rfl l3_0 (m_gI_12_12 H).2 lr3_0) ?_ ?_
      · exact smI_none _
      · refine sm_rd (m_gI_12_12 H).1 ?_
        refine sm_if (z3_eq rfl l3_0 (m_gI_12_12 H).2 lr3_0) ?_ ?_
        · exact smI_none _
        · refine sgdI fun c1 => ?_
          refine sgdI fun c2 => ?_
          refine sg3I fun c3 => ?_
          refine sm_if (z3_le l3_0 (z3_sub (z3_rem rfl rfl qx1 (m_gI_12_12 H).2 c1) (z3_rem rfl rfl qx2 (m_gI_12_12 H).2 c2)) lr3_0 c3) ?_ ?_
          · refine sgdI fun c4 => ?_
            refine sgdI fun c5 => ?_
            refine sg3I fun c6 => ?_
            refine sgdI fun c7 => ?_
            refine sgdI fun c8 => ?_
            refine sg3I fun c9 => ?_
            exact S12_far_39 H (z3_sub (z3_div rfl rfl qx1 (m_gI_12_12 H).2 c4) (z3_div rfl rfl qx2 (m_gI_12_12 H).2 c5)) c6 (z3_sub (z3_rem rfl rfl qx1 (m_gI_12_12 H).2 c7) (z3_rem rfl rfl qx2 (m_gI_12_12 H).2 c8)) c9
          · refine sgdI fun c10 => ?_
            refine sgdI fun c11 => ?_
            refine sg3I fun c12 => ?_
            refine sgdI fun c13 => ?_
            refine sgdI fun c14 => ?_
            refine sg3I fun c15 => ?_
            exact S12_far_39 H (z3_sub (z3_div rfl rfl qx1 (m_gI_12_12 H).2 c10) (z3_div rfl rfl qx2 (m_gI_12_12 H).2 c11)) c12 (z3_neg (z3_sub (z3_rem rfl rfl qx1 (m_gI_12_12 H).2 c13) (z3_rem rfl rfl qx2 (m_gI_12_12 H).2 c14))) c15
theorem S12_far {h : PH} (H : OKM h) {x1i : Int32} {x1 : Int} (ex1 : x1i = Z3 x1) (qx1 : r3 x1) {x2i : Int32} {x2 : Int} (ex2 : x2i = Z3 x2) (qx2 : r3 x2) : SimI OKM (F12_far h 0 x1i x2i) (G12_far (rd h) x1 x2) := by
  subst ex1 ex2
  unfold F12_far G12_far
  refine sm_cd (m_ok_12 H) ?_
  exact S12_far_0 H rfl qx1 rfl qx2
theorem S12_boardOf_0 {h : PH} (H : OKM h) {x1i : Int32} {x1 : Int} (ex1 : x1i = Z3 x1) (qx1 : r3 x1) : SimI OKM (F12_boardOf_0 h 0 x1i) (G12_boardOf_0 (rd h) x1) := by
  subst ex1
  unfold F12_boardOf_0 G12_boardOf_0
  refine sm_rd (m_gI_12_66 H).1 ?_
  refine sm_if (z3_eq rfl l3_3 (m_gI_12_66 H).2 lr3_3) ?_ ?_
  · exact sm_retI H l3_9 lr3_9
  · refine sm_rd (m_gR_12_29 H) ?_
    refine sgxI fun c1 => ?_
    refine sm_rd (m_aI_12_29 H rfl c1).1 ?_
    exact sm_retI H rfl (m_aI_12_29 H rfl c1).2
theorem S12_boardOf {h : PH} (H : OKM h) {x1i : Int32} {x1 : Int} (ex1 : x1i = Z3 x1) (qx1 : r3 x1) : SimI OKM (F12_boardOf h 0 x1i) (G12_boardOf (rd h) x1) := by
  subst ex1
  unfold F12_boardOf G12_boardOf
  refine sm_cd (m_ok_12 H) ?_
  exact S12_boardOf_0 H rfl qx1
theorem S12_layCatch_0 {h : PH} (H : OKM h) {x1i : Int32} {x1 : Int} (ex1 : x1i = Z3 x1) (qx1 : r3 x1) {x2i : Int32} {x2 : Int} (ex2 : x2i = Z3 x2) (qx2 : r3 x2) {x3i : Int32} {x3 : Int} (ex3 : x3i = Z3 x3) (qx3 : r3 x3) : SimI OKM (F12_layCatch_0 h 0 x1i x2i x3i) (G12_layCatch_0 (rd h) x1 x2 x3) := by
  subst ex1 ex2 ex3
  unfold F12_layCatch_0 G12_layCatch_0
  refine sm_rd (m_gR_12_34 H) ?_
  refine sgxI fun c1 => ?_
  refine sm_rd (m_aI_12_34 H rfl c1).1 ?_
  refine sm_II (S12_peakAt H rfl ((m_aI_12_34 H rfl c1).2)) fun vo5 ho5 Ho5 ro5 => ?_
  refine sm_II (S12_far Ho5 rfl qx3 rfl ro5) fun vo7 ho7 Ho7 ro7 => ?_
  refine sm_rd (m_gI_12_12 Ho7).1 ?_
  refine sm_if (z3_eq rfl l3_0 (m_gI_12_12 Ho7).2 lr3_0) ?_ ?_
  · exact smI_none _
  · refine sm_rd (m_gI_12_12 Ho7).1 ?_
    refine sm_if (z3_eq rfl l3_0 (m_gI_12_12 Ho7).2 lr3_0) ?_ ?_
    · exact smI_none _
    · refine sm_II (S12_boardOf Ho7 rfl qx1) fun vo15 ho15 Ho15 ro15 => ?_
      refine sm_rd (m_gR_12_34 Ho15) ?_
      refine sgxI fun c2 => ?_
      refine sm_rd (m_aI_12_34 Ho15 rfl c2).1 ?_
      refine sgdI fun c3 => ?_
      refine sgdI fun c4 => ?_
      refine sg3I fun c5 => ?_
      refine sm_VI (S12_layNames Ho15 rfl ro7 (z3_sub (z3_div rfl rfl qx3 (m_gI_12_12 Ho7).2 c3) (z3_div rfl rfl ro5 (m_gI_12_12 Ho7).2 c4)) c5 rfl ro15 rfl qx2 rfl ((m_aI_12_34 Ho15 rfl c2).2)) fun ho21 Ho21 => ?_
      exact sm_retI Ho21 rfl ro7
theorem S12_layCatch {h : PH} (H : OKM h) {x1i : Int32} {x1 : Int} (ex1 : x1i = Z3 x1) (qx1 : r3 x1) {x2i : Int32} {x2 : Int} (ex2 : x2i = Z3 x2) (qx2 : r3 x2) {x3i : Int32} {x3 : Int} (ex3 : x3i = Z3 x3) (qx3 : r3 x3) : SimI OKM (F12_layCatch h 0 x1i x2i x3i) (G12_layCatch (rd h) x1 x2 x3) := by
  subst ex1 ex2 ex3
  unfold F12_layCatch G12_layCatch
  refine sm_cd (m_ok_12 H) ?_
  exact S12_layCatch_0 H rfl qx1 rfl qx2 rfl qx3
theorem S12_oddsOf_29 {h : PH} (H : OKM h) {s0i : Int32} {s0 : Int} (es0 : s0i = Z3 s0) (qs0 : r3 s0) {s1i : Int32} {s1 : Int} (es1 : s1i = Z3 s1) (qs1 : r3 s1) : SimI OKM (F12_oddsOf_29 h s0i s1i 0) (G12_oddsOf_29 (rd h) s0 s1) := by
  subst es0 es1
  unfold F12_oddsOf_29 G12_oddsOf_29
  refine sm_II (S12_boundLaw H rfl qs1 rfl qs0 l3_0 lr3_0 l3_100 lr3_100) fun vo1 ho1 Ho1 ro1 => ?_
  exact sm_retI Ho1 rfl ro1
theorem S12_oddsOf_0 {h : PH} (H : OKM h) {x1i : Int32} {x1 : Int} (ex1 : x1i = Z3 x1) (qx1 : r3 x1) {x2i : Int32} {x2 : Int} (ex2 : x2i = Z3 x2) (qx2 : r3 x2) {x3i : Int32} {x3 : Int} (ex3 : x3i = Z3 x3) (qx3 : r3 x3) : SimI OKM (F12_oddsOf_0 h 0 x1i x2i x3i) (G12_oddsOf_0 (rd h) x1 x2 x3) := by
  subst ex1 ex2 ex3
  unfold F12_oddsOf_0 G12_oddsOf_0
  refine sm_II (S12_layCatch H rfl qx1 rfl qx2 rfl qx3) fun vo1 ho1 Ho1 ro1 => ?_
  refine sm_if (z3_le l3_5 rfl lr3_5 ro1) ?_ ?_
  · exact S12_oddsOf_29 Ho1 l3_0 lr3_0 l3_0 lr3_0
  · refine sg3I fun c1 => ?_
    exact S12_oddsOf_29 Ho1 (z3_sub l3_100 (z3_mul l3_20 rfl)) c1 l3_0 lr3_0
theorem S12_oddsOf {h : PH} (H : OKM h) {x1i : Int32} {x1 : Int} (ex1 : x1i = Z3 x1) (qx1 : r3 x1) {x2i : Int32} {x2 : Int} (ex2 : x2i = Z3 x2) (qx2 : r3 x2) {x3i : Int32} {x3 : Int} (ex3 : x3i = Z3 x3) (qx3 : r3 x3) : SimI OKM (F12_oddsOf h 0 x1i x2i x3i) (G12_oddsOf (rd h) x1 x2 x3) := by
  subst ex1 ex2 ex3
  unfold F12_oddsOf G12_oddsOf
  refine sm_cd (m_ok_12 H) ?_
  exact S12_oddsOf_0 H rfl qx1 rfl qx2 rfl qx3
theorem S12_isGoing_29 {h : PH} (H : OKM h) {x1i : Int32} {x1 : Int} (ex1 : x1i = Z3 x1) (qx1 : r3 x1) {x2i : Int32} {x2 : Int} (ex2 : x2i = Z3 x2) (qx2 : r3 x2) {x3i : Int32} {x3 : Int} (ex3 : x3i = Z3 x3) (qx3 : r3 x3) : SimI OKM (F12_isGoing_29 h 0 x1i x2i x3i) (G12_isGoing_29 (rd h) x1 x2 x3) := by
  subst ex1 ex2 ex3
  unfold F12_isGoing_29 G12_isGoing_29
  refine sm_rd (m_gR_12_55 H) ?_
  refine sgxI fun c1 => ?_
  refine sm_rd (m_aI_12_55 H (z3_add (z3_mul l3_5 rfl) rfl) c1).1 ?_
  refine sm_II (S12_oddsOf H rfl qx2 rfl qx3 rfl ((m_aI_12_55 H (z3_add (z3_mul l3_5 rfl) rfl) c1).2)) fun vo5 ho5 Ho5 ro5 => ?_
  refine sm_if (z3_le rfl l3_0 ro5 lr3_0) ?_ ?_
  · exact sm_rz Ho5 l3_0 (by decide)
  · exact sm_rz Ho5 l3_1 (by decide)
theorem S12_isGoing_0 {h : PH} (H : OKM h) {x1i : Int32} {x1 : Int} (ex1 : x1i = Z3 x1) (qx1 : r3 x1) {x2i : Int32} {x2 : Int} (ex2 : x2i = Z3 x2) (qx2 : r3 x2) {x3i : Int32} {x3 : Int} (ex3 : x3i = Z3 x3) (qx3 : r3 x3) : SimI OKM (F12_isGoing_0 h 0 x1i x2i x3i) (G12_isGoing_0 (rd h) x1 x2 x3) := by
  subst ex1 ex2 ex3
  unfold F12_isGoing_0 G12_isGoing_0
  refine sm_rd (m_gR_12_58 H) ?_
  refine sgxI fun c1 => ?_
  refine sm_rd (m_aI_12_58 H (z3_add (z3_mul l3_5 rfl) rfl) c1).1 ?_
  refine sm_if (z3_eq rfl l3_0 (m_aI_12_58 H (z3_add (z3_mul l3_5 rfl) rfl) c1).2 lr3_0) ?_ ?_
  · refine sm_rd (m_gI_12_66 H).1 ?_
    refine sm_if (z3_eq rfl l3_1 (m_gI_12_66 H).2 lr3_1) ?_ ?_
    · refine sm_rd (m_gI_12_67 H).1 ?_
      refine sm_if (z3_eq rfl rfl (m_gI_12_67 H).2 qx2) ?_ ?_
      · exact sm_rz H l3_0 (by decide)
      · exact S12_isGoing_29 H rfl qx1 rfl qx2 rfl qx3
    · exact S12_isGoing_29 H rfl qx1 rfl qx2 rfl qx3
  · exact sm_rz H l3_0 (by decide)
theorem S12_isGoing {h : PH} (H : OKM h) {x1i : Int32} {x1 : Int} (ex1 : x1i = Z3 x1) (qx1 : r3 x1) {x2i : Int32} {x2 : Int} (ex2 : x2i = Z3 x2) (qx2 : r3 x2) {x3i : Int32} {x3 : Int} (ex3 : x3i = Z3 x3) (qx3 : r3 x3) : SimI OKM (F12_isGoing h 0 x1i x2i x3i) (G12_isGoing (rd h) x1 x2 x3) := by
  subst ex1 ex2 ex3
  unfold F12_isGoing G12_isGoing
  refine sm_cd (m_ok_12 H) ?_
  exact S12_isGoing_0 H rfl qx1 rfl qx2 rfl qx3
theorem S12_keyOf_122 {k76 : PH → Nat → Int32 → Int32 → Int32 → Int32 → Int32 → Int32 → Option (Int32 × PH)} {kk76 : Mem → Int → Int → Int → Int → Int → Int → Option (Int × Mem)} (hk76 : ∀ {h : PH} (_ : OKM h) {x2 : Int32} {y2 : Int} (_ : x2 = Z3 y2) (_ : r3 y2) {x3 : Int32} {y3 : Int} (_ : x3 = Z3 y3) (_ : r3 y3) {x4 : Int32} {y4 : Int} (_ : x4 = Z3 y4) (_ : r3 y4) {x5 : Int32} {y5 : Int} (_ : x5 = Z3 y5) (_ : r3 y5) {x6 : Int32} {y6 : Int} (_ : x6 = Z3 y6) (_ : r3 y6) {x7 : Int32} {y7 : Int} (_ : x7 = Z3 y7) (_ : r3 y7), SimI OKM (k76 h 0 x2 x3 x4 x5 x6 x7) (kk76 (rd h) y2 y3 y4 y5 y6 y7)) {h : PH} (H : OKM h) {x1i : Int32} {x1 : Int} (ex1 : x1i = Z3 x1) (qx1 : r3 x1) {x2i : Int32} {x2 : Int} (ex2 : x2i = Z3 x2) (qx2 : r3 x2) {x3i : Int32} {x3 : Int} (ex3 : x3i = Z3 x3) (qx3 : r3 x3) {x6i : Int32} {x6 : Int} (ex6 : x6i = Z3 x6) (qx6 : r3 x6) {x8i : Int32} {x8 : Int} (ex8 : x8i = Z3 x8) (qx8 : r3 x8) : SimI OKM (F12_keyOf_122 k76 h 0 x1i x2i x3i x6i x8i) (G12_keyOf_122 kk76 (rd h) x1 x2 x3 x6 x8) := by
  subst ex1 ex2 ex3 ex6 ex8
  unfold F12_keyOf_122 G12_keyOf_122
  refine sg3I fun c1 => ?_
  exact hk76 H rfl qx1 rfl qx2 rfl qx3 rfl qx6 l3_1 lr3_1 (z3_add rfl l3_1) c1
theorem S12_keyOf_76 (n : Nat) : ∀ {h : PH} (H : OKM h) {x1i : Int32} {x1 : Int} (ex1 : x1i = Z3 x1) (qx1 : r3 x1) {x2i : Int32} {x2 : Int} (ex2 : x2i = Z3 x2) (qx2 : r3 x2) {x3i : Int32} {x3 : Int} (ex3 : x3i = Z3 x3) (qx3 : r3 x3) {x6i : Int32} {x6 : Int} (ex6 : x6i = Z3 x6) (qx6 : r3 x6) {x7i : Int32} {x7 : Int} (ex7 : x7i = Z3 x7) (qx7 : r3 x7) {x8i : Int32} {x8 : Int} (ex8 : x8i = Z3 x8) (qx8 : r3 x8), SimI OKM (F12_keyOf_76 n h 0 x1i x2i x3i x6i x7i x8i) (G12_keyOf_76 n (rd h) x1 x2 x3 x6 x7 x8) := by
  induction n with
  | zero => intros; exact smI_none _
  | succ n ih =>
    intro h H x1i x1 ex1 qx1 x2i x2 ex2 qx2 x3i x3 ex3 qx3 x6i x6 ex6 qx6 x7i x7 ex7 qx7 x8i x8 ex8 qx8
    subst ex1 ex2 ex3 ex6 ex7 ex8
    rw [F12_keyOf_76, G12_keyOf_76]
    refine sm_rd (m_gI_12_16 H).1 ?_
    refine sm_if (z3_le rfl rfl (m_gI_12_16 H).2 qx8) ?_ ?_
    · refine sm_if (z3_eq rfl l3_0 qx7 lr3_0) ?_ ?_
      · refine sg3I fun c1 => ?_
        exact sm_retI H (z3_add l3_0 rfl) c1
      · refine sg3I fun c2 => ?_
        exact sm_retI H (z3_add l3_1000 rfl) c2
    · refine sm_if (z3_eq rfl l3_0 qx7 lr3_0) ?_ ?_
      · refine sm_rd (m_gR_12_36 H) ?_
        refine sgxI fun c3 => ?_
        refine sm_rd (m_aI_12_36 H rfl c3).1 ?_
        refine sm_rd (m_gR_12_36 H) ?_
        refine sgxI fun c4 => ?_
        refine sm_rd (m_aI_12_36 H rfl c4).1 ?_
        refine sm_if (z3_eq rfl rfl (m_aI_12_36 H rfl c3).2 (m_aI_12_36 H rfl c4).2) ?_ ?_
        · refine sm_rd (m_gR_12_60 H) ?_
          refine sgxI fun c5 => ?_
          refine sm_rd (m_aI_12_60 H (z3_add (z3_mul l3_28 rfl) rfl) c5).1 ?_
          refine sm_if (z3_eq rfl rfl (m_aI_12_60 H (z3_add (z3_mul l3_28 rfl) rfl) c5).2 qx2) ?_ ?_
          · exact S12_keyOf_122 (@fun _ H _ _ ex1 qx1 _ _ ex2 qx2 _ _ ex3 qx3 _ _ ex6 qx6 _ _ ex7 qx7 _ _ ex8 qx8 => ih H ex1 qx1 ex2 qx2 ex3 qx3 ex6 qx6 ex7 qx7 ex8 qx8) H rfl qx1 rfl qx2 rfl qx3 rfl qx6 rfl qx8
          · refine sg3I fun c6 => ?_
            exact ih H rfl qx1 rfl qx2 rfl qx3 rfl qx6 l3_0 lr3_0 (z3_add rfl l3_1) c6
        · refine sg3I fun c7 => ?_
          exact ih H rfl qx1 rfl qx2 rfl qx3 rfl qx6 l3_0 lr3_0 (z3_add rfl l3_1) c7
      · exact S12_keyOf_122 (@fun _ H _ _ ex1 qx1 _ _ ex2 qx2 _ _ ex3 qx3 _ _ ex6 qx6 _ _ ex7 qx7 _ _ ex8 qx8 => ih H ex1 qx1 ex2 qx2 ex3 qx3 ex6 qx6 ex7 qx7 ex8 qx8) H rfl qx1 rfl qx2 rfl qx3 rfl qx6 rfl qx8
theorem S12_keyOf_0 {h : PH} (H : OKM h) {x1i : Int32} {x1 : Int} (ex1 : x1i = Z3 x1) (qx1 : r3 x1) {x2i : Int32} {x2 : Int} (ex2 : x2i = Z3 x2) (qx2 : r3 x2) {x3i : Int32} {x3 : Int} (ex3 : x3i = Z3 x3) (qx3 : r3 x3) {x4i : Int32} {x4 : Int} (ex4 : x4i = Z3 x4) (qx4 : r3 x4) : SimI OKM (F12_keyOf_0 h 0 x1i x2i x3i x4i) (G12_keyOf_0 (rd h) x1 x2 x3 x4) := by
  subst ex1 ex2 ex3 ex4
  unfold F12_keyOf_0 G12_keyOf_0
  refine sm_rd (m_gR_12_55 H) ?_
  refine sgxI fun c1 => ?_
  refine sm_rd (m_aI_12_55 H (z3_add (z3_mul l3_5 rfl) rfl) c1).1 ?_
  refine sm_rd (m_gR_12_34 H) ?_
  refine sgxI fun c2 => ?_
  refine sm_rd (m_aI_12_34 H rfl c2).1 ?_
  refine sm_II (S12_peakAt H rfl ((m_aI_12_34 H rfl c2).2)) fun vo9 ho9 Ho9 ro9 => ?_
  refine sm_II (S12_far Ho9 rfl ((m_aI_12_55 H (z3_add (z3_mul l3_5 rfl) rfl) c1).2) rfl ro9) fun vo11 ho11 Ho11 ro11 => ?_
  refine sm_if (z3_eq rfl l3_0 qx4 lr3_0) ?_ ?_
  · exact sm_retI Ho11 rfl ro11
  · refine sm_if (z3_eq rfl l3_1 qx4 lr3_1) ?_ ?_
    · refine sm_rd (m_gR_12_56 Ho11) ?_
      refine sgxI fun c3 => ?_
      refine sm_rd (m_aI_12_56 Ho11 (z3_add (z3_mul l3_5 rfl) rfl) c3).1 ?_
      exact sm_retI Ho11 rfl (m_aI_12_56 Ho11 (z3_add (z3_mul l3_5 rfl) rfl) c3).2
    · refine sm_if (z3_eq rfl l3_3 qx4 lr3_3) ?_ ?_
      · refine sm_rd (m_gI_12_12 Ho11).1 ?_
        refine sm_if (z3_eq rfl l3_0 (m_gI_12_12 Ho11).2 lr3_0) ?_ ?_
        · exact smI_none _
        · refine sgdI fun c4 => ?_
          refine sg3I fun c5 => ?_
          exact sm_retI Ho11 (z3_neg (z3_div rfl rfl (m_aI_12_55 H (z3_add (z3_mul l3_5 rfl) rfl) c1).2 (m_gI_12_12 Ho11).2 c4)) c5
      · exact S12_keyOf_76 1024 Ho11 rfl qx1 rfl qx2 rfl qx3 rfl ro11 l3_0 lr3_0 l3_0 lr3_0
theorem S12_keyOf {h : PH} (H : OKM h) {x1i : Int32} {x1 : Int} (ex1 : x1i = Z3 x1) (qx1 : r3 x1) {x2i : Int32} {x2 : Int} (ex2 : x2i = Z3 x2) (qx2 : r3 x2) {x3i : Int32} {x3 : Int} (ex3 : x3i = Z3 x3) (qx3 : r3 x3) {x4i : Int32} {x4 : Int} (ex4 : x4i = Z3 x4) (qx4 : r3 x4) : SimI OKM (F12_keyOf h 0 x1i x2i x3i x4i) (G12_keyOf (rd h) x1 x2 x3 x4) := by
  subst ex1 ex2 ex3 ex4
  unfold F12_keyOf G12_keyOf
  refine sm_cd (m_ok_12 H) ?_
  exact S12_keyOf_0 H rfl qx1 rfl qx2 rfl qx3 rfl qx4
theorem S12_layOrder_96 {k8 : PH → Nat → Int32 → Int32 → Int32 → Int32 → Option PH} {kk8 : Mem → Int → Int → Int → Int → Option Mem} (hk8 : ∀ {h : PH} (_ : OKM h) {x2 : Int32} {y2 : Int} (_ : x2 = Z3 y2) (_ : r3 y2) {x3 : Int32} {y3 : Int} (_ : x3 = Z3 y3) (_ : r3 y3) {x4 : Int32} {y4 : Int} (_ : x4 = Z3 y4) (_ : r3 y4) {x5 : Int32} {y5 : Int} (_ : x5 = Z3 y5) (_ : r3 y5), SimV OKM (k8 h 0 x2 x3 x4 x5) (kk8 (rd h) y2 y3 y4 y5)) {h : PH} (H : OKM h) {x1i : Int32} {x1 : Int} (ex1 : x1i = Z3 x1) (qx1 : r3 x1) {x2i : Int32} {x2 : Int} (ex2 : x2i = Z3 x2) (qx2 : r3 x2) {x3i : Int32} {x3 : Int} (ex3 : x3i = Z3 x3) (qx3 : r3 x3) {x4i : Int32} {x4 : Int} (ex4 : x4i = Z3 x4) (qx4 : r3 x4) {x6i : Int32} {x6 : Int} (ex6 : x6i = Z3 x6) (qx6 : r3 x6) : SimV OKM (F12_layOrder_96 k8 h 0 x1i x2i x3i x4i x6i) (G12_layOrder_96 kk8 (rd h) x1 x2 x3 x4 x6) := by
  subst ex1 ex2 ex3 ex4 ex6
  unfold F12_layOrder_96 G12_layOrder_96
  refine sm_rd (m_gR_12_68 H) ?_
  refine sgxV fun c1 => ?_
  refine sm_wt (m_sI_12_68 H rfl c1 rfl qx4) fun h4 Hh4 => ?_
  refine sm_rd (m_gI_12_69 Hh4).1 ?_
  refine sg3V fun c2 => ?_
  refine sm_wt (m_pI_12_69 Hh4 (z3_add rfl l3_1) c2) fun h7 Hh7 => ?_
  refine sg3V fun c3 => ?_
  exact hk8 Hh7 rfl qx1 rfl qx2 rfl qx3 (z3_add rfl l3_1) c3
theorem S12_layOrder_48 {k8 : PH → Nat → Int32 → Int32 → Int32 → Int32 → Option PH} {kk8 : Mem → Int → Int → Int → Int → Option Mem} (hk8 : ∀ {h : PH} (_ : OKM h) {x2 : Int32} {y2 : Int} (_ : x2 = Z3 y2) (_ : r3 y2) {x3 : Int32} {y3 : Int} (_ : x3 = Z3 y3) (_ : r3 y3) {x4 : Int32} {y4 : Int} (_ : x4 = Z3 y4) (_ : r3 y4) {x5 : Int32} {y5 : Int} (_ : x5 = Z3 y5) (_ : r3 y5), SimV OKM (k8 h 0 x2 x3 x4 x5) (kk8 (rd h) y2 y3 y4 y5)) (n : Nat) : ∀ {h : PH} (H : OKM h) {x1i : Int32} {x1 : Int} (ex1 : x1i = Z3 x1) (qx1 : r3 x1) {x2i : Int32} {x2 : Int} (ex2 : x2i = Z3 x2) (qx2 : r3 x2) {x3i : Int32} {x3 : Int} (ex3 : x3i = Z3 x3) (qx3 : r3 x3) {x4i : Int32} {x4 : Int} (ex4 : x4i = Z3 x4) (qx4 : r3 x4) {x5i : Int32} {x5 : Int} (ex5 : x5i = Z3 x5) (qx5 : r3 x5) {x6i : Int32} {x6 : Int} (ex6 : x6i = Z3 x6) (qx6 : r3 x6), SimV OKM (F12_layOrder_48 k8 n h 0 x1i x2i x3i x4i x5i x6i) (G12_layOrder_48 kk8 n (rd h) x1 x2 x3 x4 x5 x6) := by
  induction n with
  | zero => intros; exact smV_none _
  | succ n ih =>
    intro h H x1i x1 ex1 qx1 x2i x2 ex2 qx2 x3i x3 ex3 qx3 x4i x4 ex4 qx4 x5i x5 ex5 qx5 x6i x6 ex6 qx6
    subst ex1 ex2 ex3 ex4 ex5 ex6
    rw [F12_layOrder_48, G12_layOrder_48]
    refine sm_if (z3_le rfl l3_0 qx6 lr3_0) ?_ ?_
    · exact S12_layOrder_96 hk8 H rfl qx1 rfl qx2 rfl qx3 rfl qx4 rfl qx6
    · refine sm_rd (m_gR_12_68 H) ?_
      refine sgxV fun c1 => ?_
      refine sm_rd (m_aI_12_68 H (z3_sub rfl l3_1) c1).1 ?_
      refine sm_IV (S12_keyOf H rfl qx1 rfl ((m_aI_12_68 H (z3_sub rfl l3_1) c1).2) rfl qx2 rfl qx3) fun vo6 ho6 Ho6 ro6 => ?_
      refine sm_if (z3_le rfl rfl ro6 qx5) ?_ ?_
      · exact S12_layOrder_96 hk8 Ho6 rfl qx1 rfl qx2 rfl qx3 rfl qx4 rfl qx6
      · refine sm_rd (m_gR_12_68 Ho6) ?_
        refine sm_rd (m_gR_12_68 Ho6) ?_
        refine sgxV fun c2 => ?_
        refine sm_rd (m_aI_12_68 Ho6 (z3_sub rfl l3_1) c2).1 ?_
        refine sgxV fun c3 => ?_
        refine sm_wt (m_sI_12_68 Ho6 rfl c3 rfl (m_aI_12_68 Ho6 (z3_sub rfl l3_1) c2).2) fun h16 Hh16 => ?_
        refine sg3V fun c4 => ?_
        exact ih Hh16 rfl qx1 rfl qx2 rfl qx3 rfl qx4 rfl qx5 (z3_add rfl l3_m1) c4
theorem S12_layOrder_8 (n : Nat) : ∀ {h : PH} (H : OKM h) {x1i : Int32} {x1 : Int} (ex1 : x1i = Z3 x1) (qx1 : r3 x1) {x2i : Int32} {x2 : Int} (ex2 : x2i = Z3 x2) (qx2 : r3 x2) {x3i : Int32} {x3 : Int} (ex3 : x3i = Z3 x3) (qx3 : r3 x3) {x4i : Int32} {x4 : Int} (ex4 : x4i = Z3 x4) (qx4 : r3 x4), SimV OKM (F12_layOrder_8 n h 0 x1i x2i x3i x4i) (G12_layOrder_8 n (rd h) x1 x2 x3 x4) := by
  induction n with
  | zero => intros; exact smV_none _
  | succ n ih =>
    intro h H x1i x1 ex1 qx1 x2i x2 ex2 qx2 x3i x3 ex3 qx3 x4i x4 ex4 qx4
    subst ex1 ex2 ex3 ex4
    rw [F12_layOrder_8, G12_layOrder_8]
    refine sm_rd (m_gI_12_14 H).1 ?_
    refine sm_if (z3_le rfl rfl (m_gI_12_14 H).2 qx4) ?_ ?_
    · exact sm_retV H
    · refine sm_IV (S12_isGoing H rfl qx1 rfl qx4 rfl qx2) fun vo4 ho4 Ho4 ro4 => ?_
      refine sm_if (z3_eq rfl l3_0 ro4 lr3_0) ?_ ?_
      · refine sg3V fun c1 => ?_
        exact ih Ho4 rfl qx1 rfl qx2 rfl qx3 (z3_add rfl l3_1) c1
      · refine sm_IV (S12_keyOf Ho4 rfl qx1 rfl qx4 rfl qx2 rfl qx3) fun vo7 ho7 Ho7 ro7 => ?_
        refine sm_rd (m_gI_12_69 Ho7).1 ?_
        exact S12_layOrder_48 (@fun _ H _ _ ex1 qx1 _ _ ex2 qx2 _ _ ex3 qx3 _ _ ex4 qx4 => ih H ex1 qx1 ex2 qx2 ex3 qx3 ex4 qx4) 1024 Ho7 rfl qx1 rfl qx2 rfl qx3 rfl qx4 rfl ro7 rfl ((m_gI_12_69 Ho7).2)
theorem S12_layOrder_0 {h : PH} (H : OKM h) {x1i : Int32} {x1 : Int} (ex1 : x1i = Z3 x1) (qx1 : r3 x1) {x2i : Int32} {x2 : Int} (ex2 : x2i = Z3 x2) (qx2 : r3 x2) {x3i : Int32} {x3 : Int} (ex3 : x3i = Z3 x3) (qx3 : r3 x3) : SimV OKM (F12_layOrder_0 h 0 x1i x2i x3i) (G12_layOrder_0 (rd h) x1 x2 x3) := by
  subst ex1 ex2 ex3
  unfold F12_layOrder_0 G12_layOrder_0
  refine sm_wt (m_pI_12_69 H l3_0 lr3_0) fun h1 Hh1 => ?_
  exact S12_layOrder_8 1024 Hh1 rfl qx1 rfl qx2 rfl qx3 l3_0 lr3_0
theorem S12_layOrder {h : PH} (H : OKM h) {x1i : Int32} {x1 : Int} (ex1 : x1i = Z3 x1) (qx1 : r3 x1) {x2i : Int32} {x2 : Int} (ex2 : x2i = Z3 x2) (qx2 : r3 x2) {x3i : Int32} {x3 : Int} (ex3 : x3i = Z3 x3) (qx3 : r3 x3) : SimV OKM (F12_layOrder h 0 x1i x2i x3i) (G12_layOrder (rd h) x1 x2 x3) := by
  subst ex1 ex2 ex3
  unfold F12_layOrder G12_layOrder
  refine sm_cd (m_ok_12 H) ?_
  exact S12_layOrder_0 H rfl qx1 rfl qx2 rfl qx3
theorem S12_number1_0 {h : PH} (H : OKM h) {x1i : Int32} {x1 : Int} (ex1 : x1i = Z3 x1) (qx1 : r3 x1) : SimI OKM (F12_number1_0 h 0 x1i) (G12_number1_0 (rd h) x1) := by
  subst ex1
  unfold F12_number1_0 G12_number1_0
  refine sm_rd (m_gJ_12_65 H).1 ?_
  refine sm_wt (m_pJ_12_65 H (z6_an (z6_add (z6_mul rfl l6_1103515245) l6_12345) l6_2147483647) (r6_of _)) fun h3 Hh3 => ?_
  refine sm_rd (m_gJ_12_65 Hh3).1 ?_
  refine sm_if (z6_eq (z3_to6 rfl qx1) l6_0 (r3_6 qx1) lr6_0) ?_ ?_
  · exact smI_none _
  · refine sg6I fun c1 => ?_
    refine sg3I fun c2 => ?_
    exact sm_retI Hh3 (z6_to3 (z6_rem (z6_div rfl l6_65536 (m_gJ_12_65 Hh3).2 lr6_65536) (z3_to6 rfl qx1) c1 (r3_6 qx1))) c2
theorem S12_number1 {h : PH} (H : OKM h) {x1i : Int32} {x1 : Int} (ex1 : x1i = Z3 x1) (qx1 : r3 x1) : SimI OKM (F12_number1 h 0 x1i) (G12_number1 (rd h) x1) := by
  subst ex1
  unfold F12_number1 G12_number1
  refine sm_cd (m_ok_12 H) ?_
  exact S12_number1_0 H rfl qx1
theorem S12_awayOf_0 {h : PH} (H : OKM h) {x1i : Int32} {x1 : Int} (ex1 : x1i = Z3 x1) (qx1 : r3 x1) {x2i : Int32} {x2 : Int} (ex2 : x2i = Z3 x2) (qx2 : r3 x2) : SimI OKM (F12_awayOf_0 h 0 x1i x2i) (G12_awayOf_0 (rd h) x1 x2) := by
  subst ex1 ex2
  unfold F12_awayOf_0 G12_awayOf_0
  refine sm_II (S12_boardOf H rfl qx1) fun vo1 ho1 Ho1 ro1 => ?_
  refine sm_rd (m_gR_12_34 Ho1) ?_
  refine sgxI fun c1 => ?_
  refine sm_rd (m_aI_12_34 Ho1 rfl c1).1 ?_
  refine sm_VI (S12_layNames Ho1 l3_0 lr3_0 l3_0 lr3_0 rfl ro1 rfl qx2 rfl ((m_aI_12_34 Ho1 rfl c1).2)) fun ho7 Ho7 => ?_
  refine sm_II (S12_boundLaw Ho7 l3_2 lr3_2 l3_5 lr3_5 l3_1 lr3_1 l3_30 lr3_30) fun vo9 ho9 Ho9 ro9 => ?_
  exact sm_retI Ho9 rfl ro9
theorem S12_awayOf {h : PH} (H : OKM h) {x1i : Int32} {x1 : Int} (ex1 : x1i = Z3 x1) (qx1 : r3 x1) {x2i : Int32} {x2 : Int} (ex2 : x2i = Z3 x2) (qx2 : r3 x2) : SimI OKM (F12_awayOf h 0 x1i x2i) (G12_awayOf (rd h) x1 x2) := by
  subst ex1 ex2
  unfold F12_awayOf G12_awayOf
  refine sm_cd (m_ok_12 H) ?_
  exact S12_awayOf_0 H rfl qx1 rfl qx2
theorem S12_goesAway_0 {h : PH} (H : OKM h) {x1i : Int32} {x1 : Int} (ex1 : x1i = Z3 x1) (qx1 : r3 x1) {x2i : Int32} {x2 : Int} (ex2 : x2i = Z3 x2) (qx2 : r3 x2) {x3i : Int32} {x3 : Int} (ex3 : x3i = Z3 x3) (qx3 : r3 x3) {x4i : Int32} {x4 : Int} (ex4 : x4i = Z3 x4) (qx4 : r3 x4) : SimV OKM (F12_goesAway_0 h 0 x1i x2i x3i x4i) (G12_goesAway_0 (rd h) x1 x2 x3 x4) := by
  subst ex1 ex2 ex3 ex4
  unfold F12_goesAway_0 G12_goesAway_0
  refine sm_rd (m_gR_12_58 H) ?_
  refine sm_rd (m_gR_12_61 H) ?_
  refine sgxV fun c1 => ?_
  refine sm_rd (m_aI_12_61 H rfl c1).1 ?_
  refine sm_IV (S12_awayOf H rfl qx2 rfl qx3) fun vo7 ho7 Ho7 ro7 => ?_
  refine sgxV fun c2 => ?_
  refine sg3V fun c3 => ?_
  refine sm_wt (m_sI_12_58 Ho7 (z3_add (z3_mul l3_5 rfl) rfl) c2 (z3_add rfl (z3_mul rfl rfl)) c3) fun h10 Hh10 => ?_
  exact sm_retV Hh10
/-! The pure functions do so (written by wip/gen/gx.py). -/
theorem S12_goesAway {h : PH} (H : OKM h) {x1i : Int32} {x1 : Int} (ex1 : x1i = Z3 x1) (qx1 : r3 x1) {x2i : Int32} {x2 : Int} (ex2 : x2i = Z3 x2) (qx2 : r3 x2) {x3i : Int32} {x3 : Int} (ex3 : x3i = Z3 x3) (qx3 : r3 x3) {x4i : Int32} {x4 : Int} (ex4 : x4i = Z3 x4) (qx4 : r3 x4) : SimV OKM (F12_goesAway h 0 x1i x2i x3i x4i) (G12_goesAway (rd h) x1 x2 x3 x4) := by
  subst ex1 ex2 ex3 ex4
  unfold F12_goesAway G12_goesAway
  refine sm_cd (m_ok_12 H) ?_
  exact S12_goesAway_0 H rfl qx1 rfl qx2 rfl qx3 rfl qx4
theorem S12_comes_141 {k109 : PH → Nat → Int32 → Int32 → Int32 → Int32 → Option PH} {kk109 : Mem → Int → Int → Int → Int → Option Mem} (hk109 : ∀ {h : PH} (_ : OKM h) {x2 : Int32} {y2 : Int} (_ : x2 = Z3 y2) (_ : r3 y2) {x3 : Int32} {y3 : Int} (_ : x3 = Z3 y3) (_ : r3 y3) {x4 : Int32} {y4 : Int} (_ : x4 = Z3 y4) (_ : r3 y4) {x5 : Int32} {y5 : Int} (_ : x5 = Z3 y5) (_ : r3 y5), SimV OKM (k109 h 0 x2 x3 x4 x5) (kk109 (rd h) y2 y3 y4 y5)) {h : PH} (H : OKM h) {x1i : Int32} {x1 : Int} (ex1 : x1i = Z3 x1) (qx1 : r3 x1) {x2i : Int32} {x2 : Int} (ex2 : x2i = Z3 x2) (qx2 : r3 x2) {x5i : Int32} {x5 : Int} (ex5 : x5i = Z3 x5) (qx5 : r3 x5) {x6i : Int32} {x6 : Int} (ex6 : x6i = Z3 x6) (qx6 : r3 x6) {s0i : Int32} {s0 : Int} (es0 : s0i = Z3 s0) (qs0 : r3 s0) : SimV OKM (F12_comes_141 k109 h 0 x1i x2i x5i x6i s0i) (G12_comes_141 kk109 (rd h) x1 x2 x5 x6 s0) := by
  subst ex1 ex2 ex5 ex6 es0
  unfold F12_comes_141 G12_comes_141
  refine sm_if (z3_eq rfl l3_0 qs0 lr3_0) ?_ ?_
  · refine sg3V fun c1 => ?_
    exact hk109 H rfl qx1 rfl qx2 rfl qx5 (z3_add rfl l3_1) c1
  · refine sm_IV (S12_number1 H l3_100 lr3_100) fun vo2 ho2 Ho2 ro2 => ?_
    refine sm_if (z3_lt rfl rfl ro2 qs0) ?_ ?_
    · refine sm_rd (m_gR_12_60 Ho2) ?_
      refine sgxV fun c2 => ?_
      refine sm_wt (m_sI_12_60 Ho2 (z3_add (z3_mul l3_28 rfl) rfl) c2 l3_m3 lr3_m3) fun h8 Hh8 => ?_
      refine sm_rd (m_gR_12_62 Hh8) ?_
      refine sgxV fun c3 => ?_
      refine sm_rd (m_aI_12_62 Hh8 rfl c3).1 ?_
      refine sgxV fun c4 => ?_
      refine sg3V fun c5 => ?_
      refine sm_wt (m_sI_12_62 Hh8 rfl c4 (z3_add rfl l3_1) c5) fun h14 Hh14 => ?_
      refine sm_rd (m_gR_12_57 Hh14) ?_
      refine sgxV fun c6 => ?_
      refine sm_rd (m_aI_12_57 Hh14 (z3_add (z3_mul l3_5 rfl) rfl) c6).1 ?_
      refine sgxV fun c7 => ?_
      refine sg3V fun c8 => ?_
      refine sm_wt (m_sI_12_57 Hh14 (z3_add (z3_mul l3_5 rfl) rfl) c7 (z3_add rfl l3_1) c8) fun h20 Hh20 => ?_
      refine sm_rd (m_gR_12_57 Hh20) ?_
      refine sm_rd (m_gR_12_68 Hh20) ?_
      refine sgxV fun c9 => ?_
      refine sm_rd (m_aI_12_68 Hh20 rfl c9).1 ?_
      refine sgxV fun c10 => ?_
      refine sm_rd (m_aI_12_57 Hh20 (z3_add (z3_mul l3_5 rfl) rfl) c10).1 ?_
      refine sgxV fun c11 => ?_
      refine sg3V fun c12 => ?_
      refine sm_wt (m_sI_12_57 Hh20 (z3_add (z3_mul l3_5 rfl) rfl) c11 (z3_add rfl l3_1) c12) fun h30 Hh30 => ?_
      refine sm_VV (S12_goesAway Hh30 rfl qx1 rfl qx5 rfl qx2 l3_2 lr3_2) fun ho31 Ho31 => ?_
      refine sm_rd (m_gR_12_68 Ho31) ?_
      refine sgxV fun c13 => ?_
      refine sm_rd (m_aI_12_68 Ho31 rfl c13).1 ?_
      refine sm_VV (S12_goesAway Ho31 rfl qx1 rfl ((m_aI_12_68 Ho31 rfl c13).2) rfl qx2 l3_2 lr3_2) fun ho37 Ho37 => ?_
      exact sm_retV Ho37
    · refine sg3V fun c14 => ?_
      exact hk109 Ho2 rfl qx1 rfl qx2 rfl qx5 (z3_add rfl l3_1) c14
theorem S12_comes_109 (n : Nat) : ∀ {h : PH} (H : OKM h) {x1i : Int32} {x1 : Int} (ex1 : x1i = Z3 x1) (qx1 : r3 x1) {x2i : Int32} {x2 : Int} (ex2 : x2i = Z3 x2) (qx2 : r3 x2) {x5i : Int32} {x5 : Int} (ex5 : x5i = Z3 x5) (qx5 : r3 x5) {x6i : Int32} {x6 : Int} (ex6 : x6i = Z3 x6) (qx6 : r3 x6), SimV OKM (F12_comes_109 n h 0 x1i x2i x5i x6i) (G12_comes_109 n (rd h) x1 x2 x5 x6) := by
  induction n with
  | zero => intros; exact smV_none _
  | succ n ih =>
    intro h H x1i x1 ex1 qx1 x2i x2 ex2 qx2 x5i x5 ex5 qx5 x6i x6 ex6 qx6
    subst ex1 ex2 ex5 ex6
    rw [F12_comes_109, G12_comes_109]
    refine sm_rd (m_gI_12_69 H).1 ?_
    refine sm_if (z3_le rfl rfl (m_gI_12_69 H).2 qx6) ?_ ?_
    · refine sm_rd (m_gR_12_60 H) ?_
      refine sgxV fun c1 => ?_
      refine sm_wt (m_sI_12_60 H (z3_add (z3_mul l3_28 rfl) rfl) c1 rfl qx5) fun h7 Hh7 => ?_
      refine sm_rd (m_gR_12_56 Hh7) ?_
      refine sgxV fun c2 => ?_
      refine sm_rd (m_aI_12_56 Hh7 (z3_add (z3_mul l3_5 rfl) rfl) c2).1 ?_
      refine sgxV fun c3 => ?_
      refine sg3V fun c4 => ?_
      refine sm_wt (m_sI_12_56 Hh7 (z3_add (z3_mul l3_5 rfl) rfl) c3 (z3_add rfl l3_1) c4) fun h13 Hh13 => ?_
      refine sm_VV (S12_goesAway Hh13 rfl qx1 rfl qx5 rfl qx2 l3_1 lr3_1) fun ho14 Ho14 => ?_
      exact sm_retV Ho14
    · refine sm_rd (m_gI_12_66 H).1 ?_
      refine sm_if (z3_eq rfl l3_0 (m_gI_12_66 H).2 lr3_0) ?_ ?_
      · exact S12_comes_141 (@fun _ H _ _ ex1 qx1 _ _ ex2 qx2 _ _ ex5 qx5 _ _ ex6 qx6 => ih H ex1 qx1 ex2 qx2 ex5 qx5 ex6 qx6) H rfl qx1 rfl qx2 rfl qx5 rfl qx6 l3_0 lr3_0
      · refine sm_rd (m_gR_12_31 H) ?_
        refine sm_rd (m_gR_12_68 H) ?_
        refine sgxV fun c5 => ?_
        refine sm_rd (m_aI_12_68 H rfl c5).1 ?_
        refine sgxV fun c6 => ?_
        refine sm_rd (m_aI_12_31 H rfl c6).1 ?_
        exact S12_comes_141 (@fun _ H _ _ ex1 qx1 _ _ ex2 qx2 _ _ ex5 qx5 _ _ ex6 qx6 => ih H ex1 qx1 ex2 qx2 ex5 qx5 ex6 qx6) H rfl qx1 rfl qx2 rfl qx5 rfl qx6 rfl ((m_aI_12_31 H rfl c6).2)
theorem S12_comes_62 {h : PH} (H : OKM h) {x1i : Int32} {x1 : Int} (ex1 : x1i = Z3 x1) (qx1 : r3 x1) {x2i : Int32} {x2 : Int} (ex2 : x2i = Z3 x2) (qx2 : r3 x2) {x4i : Int32} {x4 : Int} (ex4 : x4i = Z3 x4) (qx4 : r3 x4) : SimV OKM (F12_comes_62 h 0 x1i x2i x4i) (G12_comes_62 (rd h) x1 x2 x4) := by
  subst ex1 ex2 ex4
  unfold F12_comes_62 G12_comes_62
  refine sm_rd (m_gI_12_69 H).1 ?_
  refine sm_if (z3_eq rfl rfl qx4 (m_gI_12_69 H).2) ?_ ?_
  · refine sm_rd (m_gR_12_60 H) ?_
    refine sgxV fun c1 => ?_
    refine sm_wt (m_sI_12_60 H (z3_add (z3_mul l3_28 rfl) rfl) c1 l3_m1 lr3_m1) fun h11 Hh11 => ?_
    refine sm_rd (m_gR_12_63 Hh11) ?_
    refine sgxV fun c2 => ?_
    refine sm_rd (m_aI_12_63 Hh11 rfl c2).1 ?_
    refine sgxV fun c3 => ?_
    refine sg3V fun c4 => ?_
    refine sm_wt (m_sI_12_63 Hh11 rfl c3 (z3_add rfl l3_1) c4) fun h17 Hh17 => ?_
    exact sm_retV Hh17
  · refine sm_rd (m_gR_12_68 H) ?_
    refine sgxV fun c5 => ?_
    refine sm_rd (m_aI_12_68 H rfl c5).1 ?_
    refine sg3V fun c6 => ?_
    exact S12_comes_109 1024 H rfl qx1 rfl qx2 rfl ((m_aI_12_68 H rfl c5).2) (z3_add rfl l3_1) c6
theorem S12_comes_10 (n : Nat) : ∀ {h : PH} (H : OKM h) {x1i : Int32} {x1 : Int} (ex1 : x1i = Z3 x1) (qx1 : r3 x1) {x2i : Int32} {x2 : Int} (ex2 : x2i = Z3 x2) (qx2 : r3 x2) {x4i : Int32} {x4 : Int} (ex4 : x4i = Z3 x4) (qx4 : r3 x4), SimV OKM (F12_comes_10 n h 0 x1i x2i x4i) (G12_comes_10 n (rd h) x1 x2 x4) := by
  induction n with
  | zero => intros; exact smV_none _
  | succ n ih =>
    intro h H x1i x1 ex1 qx1 x2i x2 ex2 qx2 x4i x4 ex4 qx4
    subst ex1 ex2 ex4
    rw [F12_comes_10, G12_comes_10]
    refine sm_rd (m_gI_12_69 H).1 ?_
    refine sm_if (z3_le rfl rfl (m_gI_12_69 H).2 qx4) ?_ ?_
    · exact S12_comes_62 H rfl qx1 rfl qx2 rfl qx4
    · refine sm_IV (S12_number1 H l3_100 lr3_100) fun vo4 ho4 Ho4 ro4 => ?_
      refine sm_rd (m_gR_12_68 Ho4) ?_
      refine sgxV fun c1 => ?_
      refine sm_rd (m_aI_12_68 Ho4 rfl c1).1 ?_
      refine sm_rd (m_gR_12_55 Ho4) ?_
      refine sm_rd (m_gR_12_68 Ho4) ?_
      refine sgxV fun c2 => ?_
      refine sm_rd (m_aI_12_68 Ho4 rfl c2).1 ?_
      refine sgxV fun c3 => ?_
      refine sm_rd (m_aI_12_55 Ho4 (z3_add (z3_mul l3_5 rfl) rfl) c3).1 ?_
      refine sm_IV (S12_oddsOf Ho4 rfl ((m_aI_12_68 Ho4 rfl c1).2) rfl qx2 rfl ((m_aI_12_55 Ho4 (z3_add (z3_mul l3_5 rfl) rfl) c3).2)) fun vo18 ho18 Ho18 ro18 => ?_
      refine sm_if (z3_lt rfl rfl ro4 ro18) ?_ ?_
      · exact S12_comes_62 Ho18 rfl qx1 rfl qx2 rfl qx4
      · refine sg3V fun c4 => ?_
        exact ih Ho18 rfl qx1 rfl qx2 (z3_add rfl l3_1) c4
theorem S12_comes_0 {h : PH} (H : OKM h) {x1i : Int32} {x1 : Int} (ex1 : x1i = Z3 x1) (qx1 : r3 x1) {x2i : Int32} {x2 : Int} (ex2 : x2i = Z3 x2) (qx2 : r3 x2) {x3i : Int32} {x3 : Int} (ex3 : x3i = Z3 x3) (qx3 : r3 x3) : SimV OKM (F12_comes_0 h 0 x1i x2i x3i) (G12_comes_0 (rd h) x1 x2 x3) := by
  subst ex1 ex2 ex3
  unfold F12_comes_0 G12_comes_0
  refine sm_VV (S12_layOrder H rfl qx1 rfl qx2 rfl qx3) fun ho1 Ho1 => ?_
  exact S12_comes_10 1024 Ho1 rfl qx1 rfl qx2 l3_0 lr3_0
theorem S12_comes {h : PH} (H : OKM h) {x1i : Int32} {x1 : Int} (ex1 : x1i = Z3 x1) (qx1 : r3 x1) {x2i : Int32} {x2 : Int} (ex2 : x2i = Z3 x2) (qx2 : r3 x2) {x3i : Int32} {x3 : Int} (ex3 : x3i = Z3 x3) (qx3 : r3 x3) : SimV OKM (F12_comes h 0 x1i x2i x3i) (G12_comes (rd h) x1 x2 x3) := by
  subst ex1 ex2 ex3
  unfold F12_comes G12_comes
  refine sm_cd (m_ok_12 H) ?_
  exact S12_comes_0 H rfl qx1 rfl qx2 rfl qx3
theorem S12_aMinute_50 (n : Nat) : ∀ {h : PH} (H : OKM h) {x1i : Int32} {x1 : Int} (ex1 : x1i = Z3 x1) (qx1 : r3 x1) {x3i : Int32} {x3 : Int} (ex3 : x3i = Z3 x3) (qx3 : r3 x3), SimV OKM (F12_aMinute_50 n h 0 x1i x3i) (G12_aMinute_50 n (rd h) x1 x3) := by
  induction n with
  | zero => intros; exact smV_none _
  | succ n ih =>
    intro h H x1i x1 ex1 qx1 x3i x3 ex3 qx3
    subst ex1 ex3
    rw [F12_aMinute_50, G12_aMinute_50]
    refine sm_rd (m_gI_12_14 H).1 ?_
    refine sm_if (z3_le rfl rfl (m_gI_12_14 H).2 qx3) ?_ ?_
    · exact sm_retV H
    · refine sm_rd (m_gR_12_58 H) ?_
      refine sgxV fun c1 => ?_
      refine sm_rd (m_aI_12_58 H (z3_add (z3_mul l3_5 rfl) rfl) c1).1 ?_
      refine sm_rd (m_gR_12_61 H) ?_
      refine sgxV fun c2 => ?_
      refine sm_rd (m_aI_12_61 H rfl c2).1 ?_
      refine sm_if (z3_eq rfl rfl (m_aI_12_58 H (z3_add (z3_mul l3_5 rfl) rfl) c1).2 (m_aI_12_61 H rfl c2).2) ?_ ?_
      · refine sm_rd (m_gR_12_58 H) ?_
        refine sgxV fun c3 => ?_
        refine sm_wt (m_sI_12_58 H (z3_add (z3_mul l3_5 rfl) rfl) c3 l3_0 lr3_0) fun h16 Hh16 => ?_
        refine sg3V fun c4 => ?_
        exact ih Hh16 rfl qx1 (z3_add rfl l3_1) c4
      · refine sg3V fun c5 => ?_
        exact ih H rfl qx1 (z3_add rfl l3_1) c5
theorem S12_aMinute_2 (n : Nat) : ∀ {h : PH} (H : OKM h) {x1i : Int32} {x1 : Int} (ex1 : x1i = Z3 x1) (qx1 : r3 x1) {x2i : Int32} {x2 : Int} (ex2 : x2i = Z3 x2) (qx2 : r3 x2) {x3i : Int32} {x3 : Int} (ex3 : x3i = Z3 x3) (qx3 : r3 x3), SimV OKM (F12_aMinute_2 n h 0 x1i x2i x3i) (G12_aMinute_2 n (rd h) x1 x2 x3) := by
  induction n with
  | zero => intros; exact smV_none _
  | succ n ih =>
    intro h H x1i x1 ex1 qx1 x2i x2 ex2 qx2 x3i x3 ex3 qx3
    subst ex1 ex2 ex3
    rw [F12_aMinute_2, G12_aMinute_2]
    refine sm_rd (m_gI_12_16 H).1 ?_
    refine sm_if (z3_le rfl rfl (m_gI_12_16 H).2 qx3) ?_ ?_
    · refine sm_rd (m_gR_12_61 H) ?_
      refine sgxV fun c1 => ?_
      refine sm_rd (m_aI_12_61 H rfl c1).1 ?_
      refine sgxV fun c2 => ?_
      refine sg3V fun c3 => ?_
      refine sm_wt (m_sI_12_61 H rfl c2 (z3_add rfl l3_1) c3) fun h9 Hh9 => ?_
      exact S12_aMinute_50 1024 Hh9 rfl qx1 l3_0 lr3_0
    · refine sm_rd (m_gR_12_34 H) ?_
      refine sgxV fun c4 => ?_
      refine sm_rd (m_aI_12_34 H rfl c4).1 ?_
      refine sm_rd (m_gR_12_61 H) ?_
      refine sgxV fun c5 => ?_
      refine sm_rd (m_aI_12_61 H rfl c5).1 ?_
      refine sm_if (z3_eq rfl rfl (m_aI_12_34 H rfl c4).2 (m_aI_12_61 H rfl c5).2) ?_ ?_
      · refine sm_VV (S12_comes H rfl qx1 rfl qx3 rfl qx2) fun ho19 Ho19 => ?_
        refine sg3V fun c6 => ?_
        exact ih Ho19 rfl qx1 rfl qx2 (z3_add rfl l3_1) c6
      · refine sg3V fun c7 => ?_
        exact ih H rfl qx1 rfl qx2 (z3_add rfl l3_1) c7
theorem S12_aMinute_0 {h : PH} (H : OKM h) {x1i : Int32} {x1 : Int} (ex1 : x1i = Z3 x1) (qx1 : r3 x1) {x2i : Int32} {x2 : Int} (ex2 : x2i = Z3 x2) (qx2 : r3 x2) : SimV OKM (F12_aMinute_0 h 0 x1i x2i) (G12_aMinute_0 (rd h) x1 x2) := by
  subst ex1 ex2
  unfold F12_aMinute_0 G12_aMinute_0
  exact S12_aMinute_2 1024 H rfl qx1 rfl qx2 l3_0 lr3_0
theorem S12_aMinute {h : PH} (H : OKM h) {x1i : Int32} {x1 : Int} (ex1 : x1i = Z3 x1) (qx1 : r3 x1) {x2i : Int32} {x2 : Int} (ex2 : x2i = Z3 x2) (qx2 : r3 x2) : SimV OKM (F12_aMinute h 0 x1i x2i) (G12_aMinute (rd h) x1 x2) := by
  subst ex1 ex2
  unfold F12_aMinute G12_aMinute
  refine sm_cd (m_ok_12 H) ?_
  exact S12_aMinute_0 H rfl qx1 rfl qx2
theorem S12_allHad_4 (n : Nat) : ∀ {h : PH} (H : OKM h) {x1i : Int32} {x1 : Int} (ex1 : x1i = Z3 x1) (qx1 : r3 x1) {x2i : Int32} {x2 : Int} (ex2 : x2i = Z3 x2) (qx2 : r3 x2) {x3i : Int32} {x3 : Int} (ex3 : x3i = Z3 x3) (qx3 : r3 x3), SimI OKM (F12_allHad_4 n h 0 x1i x2i x3i) (G12_allHad_4 n (rd h) x1 x2 x3) := by
  induction n with
  | zero => intros; exact smI_none _
  | succ n ih =>
    intro h H x1i x1 ex1 qx1 x2i x2 ex2 qx2 x3i x3 ex3 qx3
    subst ex1 ex2 ex3
    rw [F12_allHad_4, G12_allHad_4]
    refine sm_rd (m_gI_12_14 H).1 ?_
    refine sm_if (z3_le rfl rfl (m_gI_12_14 H).2 qx3) ?_ ?_
    · exact sm_retI H rfl qx2
    · refine sm_rd (m_gR_12_56 H) ?_
      refine sgxI fun c1 => ?_
      refine sm_rd (m_aI_12_56 H (z3_add (z3_mul l3_5 rfl) rfl) c1).1 ?_
      refine sg3I fun c2 => ?_
      refine sg3I fun c3 => ?_
      exact ih H rfl qx1 (z3_add rfl rfl) c2 (z3_add rfl l3_1) c3
theorem S12_allHad_0 {h : PH} (H : OKM h) {x1i : Int32} {x1 : Int} (ex1 : x1i = Z3 x1) (qx1 : r3 x1) : SimI OKM (F12_allHad_0 h 0 x1i) (G12_allHad_0 (rd h) x1) := by
  subst ex1
  unfold F12_allHad_0 G12_allHad_0
  exact S12_allHad_4 1024 H rfl qx1 l3_0 lr3_0 l3_0 lr3_0
theorem S12_allHad {h : PH} (H : OKM h) {x1i : Int32} {x1 : Int} (ex1 : x1i = Z3 x1) (qx1 : r3 x1) : SimI OKM (F12_allHad h 0 x1i) (G12_allHad (rd h) x1) := by
  subst ex1
  unfold F12_allHad G12_allHad
  refine sm_cd (m_ok_12 H) ?_
  exact S12_allHad_0 H rfl qx1
theorem S12_back_100 (n : Nat) : ∀ {h : PH} (H : OKM h) {x1i : Int32} {x1 : Int} (ex1 : x1i = Z3 x1) (qx1 : r3 x1), SimI OKM (F12_back_100 n h 0 x1i) (G12_back_100 n (rd h) x1) := by
  induction n with
  | zero => intros; exact smI_none _
  | succ n ih =>
    intro h H x1i x1 ex1 qx1
    subst ex1
    rw [F12_back_100, G12_back_100]
    refine sm_if (z3_le l3_28 rfl lr3_28 qx1) ?_ ?_
    · refine sm_rd (m_gR_12_61 H) ?_
      refine sm_rd (m_gI_12_82 H).1 ?_
      refine sm_wt (m_sI_12_61 H l3_0 ⟨by decide, by decide⟩ rfl (m_gI_12_82 H).2) fun h7 Hh7 => ?_
      refine sm_rd (m_gI_12_83 Hh7).1 ?_
      refine sm_wt (m_pI_12_64 Hh7 rfl (m_gI_12_83 Hh7).2) fun h10 Hh10 => ?_
      refine sm_rd (m_gR_12_62 Hh10) ?_
      refine sm_rd (m_gI_12_84 Hh10).1 ?_
      refine sm_wt (m_sI_12_62 Hh10 l3_0 ⟨by decide, by decide⟩ rfl (m_gI_12_84 Hh10).2) fun h17 Hh17 => ?_
      refine sm_rd (m_gR_12_63 Hh17) ?_
      refine sm_rd (m_gI_12_85 Hh17).1 ?_
      refine sm_wt (m_sI_12_63 Hh17 l3_0 ⟨by decide, by decide⟩ rfl (m_gI_12_85 Hh17).2) fun h23 Hh23 => ?_
      refine sm_rd (m_gJ_12_86 Hh23).1 ?_
      refine sm_wt (m_pJ_12_65 Hh23 rfl (m_gJ_12_86 Hh23).2) fun h26 Hh26 => ?_
      refine sm_wt (m_pI_12_78 Hh26 l3_0 lr3_0) fun h28 Hh28 => ?_
      refine sm_rd (m_gR_12_61 Hh28) ?_
      refine sm_rd (m_aI_12_61 Hh28 l3_0 ⟨by decide, by decide⟩).1 ?_
      exact sm_retI Hh28 rfl (m_aI_12_61 Hh28 l3_0 ⟨by decide, by decide⟩).2
    · refine sm_rd (m_gR_12_60 H) ?_
      refine sm_rd (m_gR_12_81 H) ?_
      refine sgxI fun c1 => ?_
      refine sm_rd (m_aI_12_81 H (z3_add l3_25 rfl) c1).1 ?_
      refine sgxI fun c2 => ?_
      refine sm_wt (m_sI_12_60 H rfl c2 rfl (m_aI_12_81 H (z3_add l3_25 rfl) c1).2) fun h41 Hh41 => ?_
      refine sg3I fun c3 => ?_
      exact ih Hh41 (z3_add rfl l3_1) c3
theorem S12_back_16 (n : Nat) : ∀ {h : PH} (H : OKM h) {x1i : Int32} {x1 : Int} (ex1 : x1i = Z3 x1) (qx1 : r3 x1), SimI OKM (F12_back_16 n h 0 x1i) (G12_back_16 n (rd h) x1) := by
  induction n with
  | zero => intros; exact smI_none _
  | succ n ih =>
    intro h H x1i x1 ex1 qx1
    subst ex1
    rw [F12_back_16, G12_back_16]
    refine sm_if (z3_le l3_5 rfl lr3_5 qx1) ?_ ?_
    · exact S12_back_100 1024 H l3_0 lr3_0
    · refine sm_rd (m_gR_12_55 H) ?_
      refine sm_rd (m_gR_12_81 H) ?_
      refine sgxI fun c1 => ?_
      refine sm_rd (m_aI_12_81 H rfl c1).1 ?_
      refine sgxI fun c2 => ?_
      refine sm_wt (m_sI_12_55 H rfl c2 rfl (m_aI_12_81 H rfl c1).2) fun h9 Hh9 => ?_
      refine sm_rd (m_gR_12_56 Hh9) ?_
      refine sm_rd (m_gR_12_81 Hh9) ?_
      refine sgxI fun c3 => ?_
      refine sm_rd (m_aI_12_81 Hh9 (z3_add l3_5 rfl) c3).1 ?_
      refine sgxI fun c4 => ?_
      refine sm_wt (m_sI_12_56 Hh9 rfl c4 rfl (m_aI_12_81 Hh9 (z3_add l3_5 rfl) c3).2) fun h17 Hh17 => ?_
      refine sm_rd (m_gR_12_57 Hh17) ?_
      refine sm_rd (m_gR_12_81 Hh17) ?_
      refine sgxI fun c5 => ?_
      refine sm_rd (m_aI_12_81 Hh17 (z3_add l3_10 rfl) c5).1 ?_
      refine sgxI fun c6 => ?_
      refine sm_wt (m_sI_12_57 Hh17 rfl c6 rfl (m_aI_12_81 Hh17 (z3_add l3_10 rfl) c5).2) fun h25 Hh25 => ?_
      refine sm_rd (m_gR_12_58 Hh25) ?_
      refine sm_rd (m_gR_12_81 Hh25) ?_
      refine sgxI fun c7 => ?_
      refine sm_rd (m_aI_12_81 Hh25 (z3_add l3_15 rfl) c7).1 ?_
      refine sgxI fun c8 => ?_
      refine sm_wt (m_sI_12_58 Hh25 rfl c8 rfl (m_aI_12_81 Hh25 (z3_add l3_15 rfl) c7).2) fun h33 Hh33 => ?_
      refine sm_rd (m_gR_12_59 Hh33) ?_
      refine sm_rd (m_gR_12_81 Hh33) ?_
      refine sgxI fun c9 => ?_
      refine sm_rd (m_aI_12_81 Hh33 (z3_add l3_20 rfl) c9).1 ?_
      refine sgxI fun c10 => ?_
      refine sm_wt (m_sI_12_59 Hh33 rfl c10 rfl (m_aI_12_81 Hh33 (z3_add l3_20 rfl) c9).2) fun h41 Hh41 => ?_
      refine sg3I fun c11 => ?_
      exact ih Hh41 (z3_add rfl l3_1) c11
theorem S12_back_0 {h : PH} (H : OKM h) : SimI OKM (F12_back_0 h 0) (G12_back_0 (rd h)) := by
  unfold F12_back_0 G12_back_0
  refine sm_wt (m_pI_12_2 H l3_0 lr3_0) fun h1 Hh1 => ?_
  refine sm_rd (m_gI_12_80 Hh1).1 ?_
  refine sm_if (z3_eq rfl l3_0 (m_gI_12_80 Hh1).2 lr3_0) ?_ ?_
  · exact sm_retI Hh1 l3_m1 lr3_m1
  · exact S12_back_16 1024 Hh1 l3_0 lr3_0
theorem S12_back {h : PH} (H : OKM h) : SimI OKM (F12_back h 0) (G12_back (rd h)) := by
  unfold F12_back G12_back
  refine sm_cd (m_ok_12 H) ?_
  exact S12_back_0 H
theorem S12_isSmall_0 {h : PH} (H : OKM h) {x1i : Int32} {x1 : Int} (ex1 : x1i = Z3 x1) (qx1 : r3 x1) : SimI OKM (F12_isSmall_0 h 0 x1i) (G12_isSmall_0 (rd h) x1) := by
  subst ex1
  unfold F12_isSmall_0 G12_isSmall_0
  refine sm_rd (m_gI_12_6 H).1 ?_
  refine sm_if (z3_le rfl rfl (m_gI_12_6 H).2 qx1) ?_ ?_
  · exact sm_rz H l3_0 (by decide)
  · refine sm_rd (m_gR_12_0 H) ?_
    refine sgxI fun c1 => ?_
    refine sm_rd (m_aI_12_0 H rfl c1).1 ?_
    refine sm_if (z3_lt rfl l3_97 (m_aI_12_0 H rfl c1).2 lr3_97) ?_ ?_
    · exact sm_rz H l3_0 (by decide)
    · refine sm_rd (m_gR_12_0 H) ?_
      refine sgxI fun c2 => ?_
      refine sm_rd (m_aI_12_0 H rfl c2).1 ?_
      refine sm_if (z3_lt l3_122 rfl lr3_122 (m_aI_12_0 H rfl c2).2) ?_ ?_
      · exact sm_rz H l3_0 (by decide)
      · exact sm_rz H l3_1 (by decide)
theorem S12_isSmall {h : PH} (H : OKM h) {x1i : Int32} {x1 : Int} (ex1 : x1i = Z3 x1) (qx1 : r3 x1) : SimI OKM (F12_isSmall h 0 x1i) (G12_isSmall (rd h) x1) := by
  subst ex1
  unfold F12_isSmall G12_isSmall
  refine sm_cd (m_ok_12 H) ?_
  exact S12_isSmall_0 H rfl qx1
theorem S12_wordAt_104 {k5 : PH → Nat → Int32 → Int32 → Int32 → Int32 → Option (Int32 × PH)} {kk5 : Mem → Int → Int → Int → Int → Option (Int × Mem)} (hk5 : ∀ {h : PH} (_ : OKM h) {x2 : Int32} {y2 : Int} (_ : x2 = Z3 y2) (_ : r3 y2) {x3 : Int32} {y3 : Int} (_ : x3 = Z3 y3) (_ : r3 y3) {x4 : Int32} {y4 : Int} (_ : x4 = Z3 y4) (_ : r3 y4) {x5 : Int32} {y5 : Int} (_ : x5 = Z3 y5) (_ : r3 y5), SimI OKM (k5 h 0 x2 x3 x4 x5) (kk5 (rd h) y2 y3 y4 y5)) {h : PH} (H : OKM h) {x1i : Int32} {x1 : Int} (ex1 : x1i = Z3 x1) (qx1 : r3 x1) {x2i : Int32} {x2 : Int} (ex2 : x2i = Z3 x2) (qx2 : r3 x2) {x3i : Int32} {x3 : Int} (ex3 : x3i = Z3 x3) (qx3 : r3 x3) {x4i : Int32} {x4 : Int} (ex4 : x4i = Z3 x4) (qx4 : r3 x4) {x5i : Int32} {x5 : Int} (ex5 : x5i = Z3 x5) (qx5 : r3 x5) {x6i : Int32} {x6 : Int} (ex6 : x6i = Z3 x6) (qx6 : r3 x6) : SimI OKM (F12_wordAt_104 k5 h 0 x1i x2i x3i x4i x5i x6i) (G12_wordAt_104 kk5 (rd h) x1 x2 x3 x4 x5 x6) := by
  subst ex1 ex2 ex3 ex4 ex5 ex6
  unfold F12_wordAt_104 G12_wordAt_104
  refine sm_if (z3_eq rfl l3_0 qx6 lr3_0) ?_ ?_
  · refine sg3I fun c1 => ?_
    refine sg3I fun c2 => ?_
    exact hk5 H rfl qx1 rfl qx2 (z3_add rfl l3_1) c1 (z3_add rfl (z3_add rfl l3_1)) c2
  · exact sm_retI H rfl qx3
theorem S12_wordAt_57 {k5 : PH → Nat → Int32 → Int32 → Int32 → Int32 → Option (Int32 × PH)} {kk5 : Mem → Int → Int → Int → Int → Option (Int × Mem)} (hk5 : ∀ {h : PH} (_ : OKM h) {x2 : Int32} {y2 : Int} (_ : x2 = Z3 y2) (_ : r3 y2) {x3 : Int32} {y3 : Int} (_ : x3 = Z3 y3) (_ : r3 y3) {x4 : Int32} {y4 : Int} (_ : x4 = Z3 y4) (_ : r3 y4) {x5 : Int32} {y5 : Int} (_ : x5 = Z3 y5) (_ : r3 y5), SimI OKM (k5 h 0 x2 x3 x4 x5) (kk5 (rd h) y2 y3 y4 y5)) (n : Nat) : ∀ {h : PH} (H : OKM h) {x1i : Int32} {x1 : Int} (ex1 : x1i = Z3 x1) (qx1 : r3 x1) {x2i : Int32} {x2 : Int} (ex2 : x2i = Z3 x2) (qx2 : r3 x2) {x3i : Int32} {x3 : Int} (ex3 : x3i = Z3 x3) (qx3 : r3 x3) {x4i : Int32} {x4 : Int} (ex4 : x4i = Z3 x4) (qx4 : r3 x4) {x5i : Int32} {x5 : Int} (ex5 : x5i = Z3 x5) (qx5 : r3 x5) {x6i : Int32} {x6 : Int} (ex6 : x6i = Z3 x6) (qx6 : r3 x6) {x7i : Int32} {x7 : Int} (ex7 : x7i = Z3 x7) (qx7 : r3 x7), SimI OKM (F12_wordAt_57 k5 n h 0 x1i x2i x3i x4i x5i x6i x7i) (G12_wordAt_57 kk5 n (rd h) x1 x2 x3 x4 x5 x6 x7) := by
  induction n with
  | zero => intros; exact smI_none _
  | succ n ih =>
    intro h H x1i x1 ex1 qx1 x2i x2 ex2 qx2 x3i x3 ex3 qx3 x4i x4 ex4 qx4 x5i x5 ex5 qx5 x6i x6 ex6 qx6 x7i x7 ex7 qx7
    subst ex1 ex2 ex3 ex4 ex5 ex6 ex7
    rw [F12_wordAt_57, G12_wordAt_57]
    refine sm_if (z3_le rfl rfl qx5 qx7) ?_ ?_
    · exact S12_wordAt_104 hk5 H rfl qx1 rfl qx2 rfl qx3 rfl qx4 rfl qx5 rfl qx6
    · refine sm_if (z3_eq rfl l3_0 qx6 lr3_0) ?_ ?_
      · exact S12_wordAt_104 hk5 H rfl qx1 rfl qx2 rfl qx3 rfl qx4 rfl qx5 rfl qx6
      · refine sm_rd (m_gR_12_3 H) ?_
        refine sgxI fun c1 => ?_
        refine sm_rd (m_aI_12_3 H (z3_add rfl rfl) c1).1 ?_
        refine sm_rd (m_gR_12_0 H) ?_
        refine sgxI fun c2 => ?_
        refine sm_rd (m_aI_12_0 H (z3_add rfl rfl) c2).1 ?_
        refine sm_if (z3_eq rfl rfl (m_aI_12_3 H (z3_add rfl rfl) c1).2 (m_aI_12_0 H (z3_add rfl rfl) c2).2) ?_ ?_
        · refine sg3I fun c3 => ?_
          exact ih H rfl qx1 rfl qx2 rfl qx3 rfl qx4 rfl qx5 l3_1 lr3_1 (z3_add rfl l3_1) c3
        · refine sg3I fun c4 => ?_
          exact ih H rfl qx1 rfl qx2 rfl qx3 rfl qx4 rfl qx5 l3_0 lr3_0 (z3_add rfl l3_1) c4
theorem S12_wordAt_18 {k5 : PH → Nat → Int32 → Int32 → Int32 → Int32 → Option (Int32 × PH)} {kk5 : Mem → Int → Int → Int → Int → Option (Int × Mem)} (hk5 : ∀ {h : PH} (_ : OKM h) {x2 : Int32} {y2 : Int} (_ : x2 = Z3 y2) (_ : r3 y2) {x3 : Int32} {y3 : Int} (_ : x3 = Z3 y3) (_ : r3 y3) {x4 : Int32} {y4 : Int} (_ : x4 = Z3 y4) (_ : r3 y4) {x5 : Int32} {y5 : Int} (_ : x5 = Z3 y5) (_ : r3 y5), SimI OKM (k5 h 0 x2 x3 x4 x5) (kk5 (rd h) y2 y3 y4 y5)) (n : Nat) : ∀ {h : PH} (H : OKM h) {x1i : Int32} {x1 : Int} (ex1 : x1i = Z3 x1) (qx1 : r3 x1) {x2i : Int32} {x2 : Int} (ex2 : x2i = Z3 x2) (qx2 : r3 x2) {x3i : Int32} {x3 : Int} (ex3 : x3i = Z3 x3) (qx3 : r3 x3) {x4i : Int32} {x4 : Int} (ex4 : x4i = Z3 x4) (qx4 : r3 x4) {x5i : Int32} {x5 : Int} (ex5 : x5i = Z3 x5) (qx5 : r3 x5), SimI OKM (F12_wordAt_18 k5 n h 0 x1i x2i x3i x4i x5i) (G12_wordAt_18 kk5 n (rd h) x1 x2 x3 x4 x5) := by
  induction n with
  | zero => intros; exact smI_none _
  | succ n ih =>
    intro h H x1i x1 ex1 qx1 x2i x2 ex2 qx2 x3i x3 ex3 qx3 x4i x4 ex4 qx4 x5i x5 ex5 qx5
    subst ex1 ex2 ex3 ex4 ex5
    rw [F12_wordAt_18, G12_wordAt_18]
    refine sm_rd (m_gR_12_3 H) ?_
    refine sgxI fun c1 => ?_
    refine sm_rd (m_aI_12_3 H (z3_add rfl rfl) c1).1 ?_
    refine sm_if (z3_eq rfl l3_32 (m_aI_12_3 H (z3_add rfl rfl) c1).2 lr3_32) ?_ ?_
    · refine sg3I fun c2 => ?_
      refine sm_if (z3_eq rfl (z3_sub rfl rfl) qx5 c2) ?_ ?_
      · exact S12_wordAt_57 hk5 1024 H rfl qx1 rfl qx2 rfl qx3 rfl qx4 rfl qx5 l3_1 lr3_1 l3_0 lr3_0
      · exact S12_wordAt_57 hk5 1024 H rfl qx1 rfl qx2 rfl qx3 rfl qx4 rfl qx5 l3_0 lr3_0 l3_0 lr3_0
    · refine sg3I fun c3 => ?_
      exact ih H rfl qx1 rfl qx2 rfl qx3 rfl qx4 (z3_add rfl l3_1) c3
theorem S12_wordAt_5 (n : Nat) : ∀ {h : PH} (H : OKM h) {x1i : Int32} {x1 : Int} (ex1 : x1i = Z3 x1) (qx1 : r3 x1) {x2i : Int32} {x2 : Int} (ex2 : x2i = Z3 x2) (qx2 : r3 x2) {x3i : Int32} {x3 : Int} (ex3 : x3i = Z3 x3) (qx3 : r3 x3) {x4i : Int32} {x4 : Int} (ex4 : x4i = Z3 x4) (qx4 : r3 x4), SimI OKM (F12_wordAt_5 n h 0 x1i x2i x3i x4i) (G12_wordAt_5 n (rd h) x1 x2 x3 x4) := by
  induction n with
  | zero => intros; exact smI_none _
  | succ n ih =>
    intro h H x1i x1 ex1 qx1 x2i x2 ex2 qx2 x3i x3 ex3 qx3 x4i x4 ex4 qx4
    subst ex1 ex2 ex3 ex4
    rw [F12_wordAt_5, G12_wordAt_5]
    refine sm_rd (m_gR_12_3 H) ?_
    refine sm_rd (m_aL_12_3 H) ?_
    refine sm_if (z3_le rfl rfl lr3_120 qx4) ?_ ?_
    · exact sm_retI H l3_m1 lr3_m1
    · exact S12_wordAt_18 (@fun _ H _ _ ex1 qx1 _ _ ex2 qx2 _ _ ex3 qx3 _ _ ex4 qx4 => ih H ex1 qx1 ex2 qx2 ex3 qx3 ex4 qx4) 1024 H rfl qx1 rfl qx2 rfl qx3 rfl qx4 l3_0 lr3_0
theorem S12_wordAt_0 {h : PH} (H : OKM h) {x1i : Int32} {x1 : Int} (ex1 : x1i = Z3 x1) (qx1 : r3 x1) {x2i : Int32} {x2 : Int} (ex2 : x2i = Z3 x2) (qx2 : r3 x2) : SimI OKM (F12_wordAt_0 h 0 x1i x2i) (G12_wordAt_0 (rd h) x1 x2) := by
  subst ex1 ex2
  unfold F12_wordAt_0 G12_wordAt_0
  exact S12_wordAt_5 1024 H rfl qx1 rfl qx2 l3_0 lr3_0 l3_0 lr3_0
theorem S12_wordAt {h : PH} (H : OKM h) {x1i : Int32} {x1 : Int} (ex1 : x1i = Z3 x1) (qx1 : r3 x1) {x2i : Int32} {x2 : Int} (ex2 : x2i = Z3 x2) (qx2 : r3 x2) : SimI OKM (F12_wordAt h 0 x1i x2i) (G12_wordAt (rd h) x1 x2) := by
  subst ex1 ex2
  unfold F12_wordAt G12_wordAt
  refine sm_cd (m_ok_12 H) ?_
  exact S12_wordAt_0 H rfl qx1 rfl qx2
theorem S12_packed_5 (n : Nat) : ∀ {h : PH} (H : OKM h) {x1i : Int32} {x1 : Int} (ex1 : x1i = Z3 x1) (qx1 : r3 x1) {x2i : Int32} {x2 : Int} (ex2 : x2i = Z3 x2) (qx2 : r3 x2) {x3i : Int32} {x3 : Int} (ex3 : x3i = Z3 x3) (qx3 : r3 x3) {x4i : Int32} {x4 : Int} (ex4 : x4i = Z3 x4) (qx4 : r3 x4), SimI OKM (F12_packed_5 n h 0 x1i x2i x3i x4i) (G12_packed_5 n (rd h) x1 x2 x3 x4) := by
  induction n with
  | zero => intros; exact smI_none _
  | succ n ih =>
    intro h H x1i x1 ex1 qx1 x2i x2 ex2 qx2 x3i x3 ex3 qx3 x4i x4 ex4 qx4
    subst ex1 ex2 ex3 ex4
    rw [F12_packed_5, G12_packed_5]
    refine sg3I fun c1 => ?_
    refine sm_if (z3_le (z3_add rfl l3_6) rfl c1 qx4) ?_ ?_
    · exact sm_retI H rfl qx3
    · refine sm_if (z3_le rfl rfl qx2 qx4) ?_ ?_
      · refine sg3I fun c2 => ?_
        exact ih H rfl qx1 rfl qx2 (z3_or (z3_sl rfl (z3_an l3_5 l3_31)) l3_0) (r3_of _) (z3_add rfl l3_1) c2
      · refine sm_rd (m_gR_12_0 H) ?_
        refine sgxI fun c3 => ?_
        refine sm_rd (m_aI_12_0 H rfl c3).1 ?_
        refine sg3I fun c4 => ?_
        exact ih H rfl qx1 rfl qx2 (z3_or (z3_sl rfl (z3_an l3_5 l3_31)) (z3_sub rfl l3_96)) (r3_of _) (z3_add rfl l3_1) c4
theorem S12_packed_0 {h : PH} (H : OKM h) {x1i : Int32} {x1 : Int} (ex1 : x1i = Z3 x1) (qx1 : r3 x1) {x2i : Int32} {x2 : Int} (ex2 : x2i = Z3 x2) (qx2 : r3 x2) : SimI OKM (F12_packed_0 h 0 x1i x2i) (G12_packed_0 (rd h) x1 x2) := by
  subst ex1 ex2
  unfold F12_packed_0 G12_packed_0
  exact S12_packed_5 1024 H rfl qx1 rfl qx2 l3_0 lr3_0 rfl qx1
theorem S12_packed {h : PH} (H : OKM h) {x1i : Int32} {x1 : Int} (ex1 : x1i = Z3 x1) (qx1 : r3 x1) {x2i : Int32} {x2 : Int} (ex2 : x2i = Z3 x2) (qx2 : r3 x2) : SimI OKM (F12_packed h 0 x1i x2i) (G12_packed (rd h) x1 x2) := by
  subst ex1 ex2
  unfold F12_packed G12_packed
  refine sm_cd (m_ok_12 H) ?_
  exact S12_packed_0 H rfl qx1 rfl qx2
theorem S12_isDigit_0 {h : PH} (H : OKM h) {x1i : Int32} {x1 : Int} (ex1 : x1i = Z3 x1) (qx1 : r3 x1) : SimI OKM (F12_isDigit_0 h 0 x1i) (G12_isDigit_0 (rd h) x1) := by
  subst ex1
  unfold F12_isDigit_0 G12_isDigit_0
  refine sm_rd (m_gI_12_6 H).1 ?_
  refine sm_if (z3_le rfl rfl (m_gI_12_6 H).2 qx1) ?_ ?_
  · exact sm_rz H l3_0 (by decide)
  · refine sm_rd (m_gR_12_0 H) ?_
    refine sgxI fun c1 => ?_
    refine sm_rd (m_aI_12_0 H rfl c1).1 ?_
    refine sm_if (z3_lt rfl l3_48 (m_aI_12_0 H rfl c1).2 lr3_48) ?_ ?_
    · exact sm_rz H l3_0 (by decide)
    · refine sm_rd (m_gR_12_0 H) ?_
      refine sgxI fun c2 => ?_
      refine sm_rd (m_aI_12_0 H rfl c2).1 ?_
      refine sm_if (z3_lt l3_57 rfl lr3_57 (m_aI_12_0 H rfl c2).2) ?_ ?_
      · exact sm_rz H l3_0 (by decide)
      · exact sm_rz H l3_1 (by decide)
theorem S12_isDigit {h : PH} (H : OKM h) {x1i : Int32} {x1 : Int} (ex1 : x1i = Z3 x1) (qx1 : r3 x1) : SimI OKM (F12_isDigit h 0 x1i) (G12_isDigit (rd h) x1) := by
  subst ex1
  unfold F12_isDigit G12_isDigit
  refine sm_cd (m_ok_12 H) ?_
  exact S12_isDigit_0 H rfl qx1
theorem S12_signToken_192 {h : PH} (H : OKM h) {s0i : Int32} {s0 : Int} (es0 : s0i = Z3 s0) (qs0 : r3 s0) : SimV OKM (F12_signToken_192 h s0i 0) (G12_signToken_192 (rd h) s0) := by
  subst es0
  unfold F12_signToken_192 G12_signToken_192
  refine sm_wt (m_pI_12_9 H rfl qs0) fun h1 Hh1 => ?_
  exact sm_retV Hh1
theorem S12_signToken_135 {h : PH} (H : OKM h) {x2i : Int32} {x2 : Int} (ex2 : x2i = Z3 x2) (qx2 : r3 x2) {x3i : Int32} {x3 : Int} (ex3 : x3i = Z3 x3) (qx3 : r3 x3) : SimV OKM (F12_signToken_135 h 0 x2i x3i) (G12_signToken_135 (rd h) x2 x3) := by
  subst ex2 ex3
  unfold F12_signToken_135 G12_signToken_135
  refine sm_wt (m_pI_12_8 H l3_5 lr3_5) fun h1 Hh1 => ?_
  refine sm_rd (m_gI_12_9 Hh1).1 ?_
  refine sm_if (z3_eq rfl l3_61 (m_gI_12_9 Hh1).2 lr3_61) ?_ ?_
  · exact S12_signToken_192 Hh1 l3_2 lr3_2
  · refine sm_rd (m_gI_12_9 Hh1).1 ?_
    refine sm_if (z3_eq rfl l3_60 (m_gI_12_9 Hh1).2 lr3_60) ?_ ?_
    · refine sm_if (z3_eq rfl l3_0 qx2 lr3_0) ?_ ?_
      · refine sm_if (z3_eq rfl l3_0 qx3 lr3_0) ?_ ?_
        · exact S12_signToken_192 Hh1 l3_0 lr3_0
        · exact S12_signToken_192 Hh1 l3_3 lr3_3
      · exact S12_signToken_192 Hh1 l3_1 lr3_1
    · refine sm_if (z3_eq rfl l3_0 qx2 lr3_0) ?_ ?_
      · exact S12_signToken_192 Hh1 l3_5 lr3_5
      · exact S12_signToken_192 Hh1 l3_4 lr3_4
theorem S12_signToken_125 {h : PH} (H : OKM h) {x2i : Int32} {x2 : Int} (ex2 : x2i = Z3 x2) (qx2 : r3 x2) {x3i : Int32} {x3 : Int} (ex3 : x3i = Z3 x3) (qx3 : r3 x3) : SimV OKM (F12_signToken_125 h 0 x2i x3i) (G12_signToken_125 (rd h) x2 x3) := by
  subst ex2 ex3
  unfold F12_signToken_125 G12_signToken_125
  refine sm_rd (m_gI_12_7 H).1 ?_
  refine sg3V fun c1 => ?_
  refine sm_wt (m_pI_12_7 H (z3_add rfl l3_1) c1) fun h3 Hh3 => ?_
  exact S12_signToken_135 Hh3 rfl qx2 rfl qx3
theorem S12_signToken_116 {h : PH} (H : OKM h) {x2i : Int32} {x2 : Int} (ex2 : x2i = Z3 x2) (qx2 : r3 x2) {s0i : Int32} {s0 : Int} (es0 : s0i = Z3 s0) (qs0 : r3 s0) : SimV OKM (F12_signToken_116 h 0 x2i s0i) (G12_signToken_116 (rd h) x2 s0) := by
  subst ex2 es0
  unfold F12_signToken_116 G12_signToken_116
  refine sm_if (z3_eq rfl l3_0 qx2 lr3_0) ?_ ?_
  · refine sm_if (z3_eq rfl l3_0 qs0 lr3_0) ?_ ?_
    · exact S12_signToken_135 H rfl qx2 rfl qs0
    · exact S12_signToken_125 H rfl qx2 rfl qs0
  · exact S12_signToken_125 H rfl qx2 rfl qs0
theorem S12_signToken_115 {h : PH} (H : OKM h) {x2i : Int32} {x2 : Int} (ex2 : x2i = Z3 x2) (qx2 : r3 x2) : SimV OKM (F12_signToken_115 h 0 x2i) (G12_signToken_115 (rd h) x2) := by
  subst ex2
  unfold F12_signToken_115 G12_signToken_115
  exact S12_signToken_116 H rfl qx2 l3_0 lr3_0
theorem S12_signToken_95 {h : PH} (H : OKM h) {x1i : Int32} {x1 : Int} (ex1 : x1i = Z3 x1) (qx1 : r3 x1) {s0i : Int32} {s0 : Int} (es0 : s0i = Z3 s0) (qs0 : r3 s0) : SimV OKM (F12_signToken_95 h 0 x1i s0i) (G12_signToken_95 (rd h) x1 s0) := by
  subst ex1 es0
  unfold F12_signToken_95 G12_signToken_95
  refine sm_rd (m_gI_12_9 H).1 ?_
  refine sm_if (z3_eq rfl l3_60 (m_gI_12_9 H).2 lr3_60) ?_ ?_
  · refine sm_if (z3_eq rfl l3_62 qx1 lr3_62) ?_ ?_
    · exact S12_signToken_116 H rfl qs0 l3_1 lr3_1
    · exact S12_signToken_115 H rfl qs0
  · exact S12_signToken_115 H rfl qs0
theorem S12_signToken_94 {h : PH} (H : OKM h) {x1i : Int32} {x1 : Int} (ex1 : x1i = Z3 x1) (qx1 : r3 x1) : SimV OKM (F12_signToken_94 h 0 x1i) (G12_signToken_94 (rd h) x1) := by
  subst ex1
  unfold F12_signToken_94 G12_signToken_94
  exact S12_signToken_95 H rfl qx1 l3_0 lr3_0
theorem S12_signToken_74 {h : PH} (H : OKM h) {s0i : Int32} {s0 : Int} (es0 : s0i = Z3 s0) (qs0 : r3 s0) : SimV OKM (F12_signToken_74 h 0 s0i) (G12_signToken_74 (rd h) s0) := by
  subst es0
  unfold F12_signToken_74 G12_signToken_74
  refine sm_rd (m_gI_12_9 H).1 ?_
  refine sm_if (z3_eq rfl l3_61 (m_gI_12_9 H).2 lr3_61) ?_ ?_
  · exact S12_signToken_94 H rfl qs0
  · refine sm_if (z3_eq rfl l3_61 qs0 lr3_61) ?_ ?_
    · exact S12_signToken_95 H rfl qs0 l3_1 lr3_1
    · exact S12_signToken_94 H rfl qs0
theorem S12_signToken_50 {h : PH} (H : OKM h) : SimV OKM (F12_signToken_50 h 0) (G12_signToken_50 (rd h)) := by
  unfold F12_signToken_50 G12_signToken_50
  refine sm_rd (m_gI_12_7 H).1 ?_
  refine sm_rd (m_gI_12_6 H).1 ?_
  refine sm_if (z3_le rfl rfl (m_gI_12_6 H).2 (m_gI_12_7 H).2) ?_ ?_
  · exact S12_signToken_74 H l3_0 lr3_0
  · refine sm_rd (m_gR_12_0 H) ?_
    refine sm_rd (m_gI_12_7 H).1 ?_
    refine sgxV fun c1 => ?_
    refine sm_rd (m_aI_12_0 H rfl c1).1 ?_
    exact S12_signToken_74 H rfl ((m_aI_12_0 H rfl c1).2)
theorem S12_signToken_287 {h : PH} (H : OKM h) {s0i : Int32} {s0 : Int} (es0 : s0i = Z3 s0) (qs0 : r3 s0) : SimV OKM (F12_signToken_287 h s0i 0) (G12_signToken_287 (rd h) s0) := by
  subst es0
  unfold F12_signToken_287 G12_signToken_287
  refine sm_wt (m_pI_12_8 H rfl qs0) fun h1 Hh1 => ?_
  exact sm_retV Hh1
theorem S12_signToken_275 {h : PH} (H : OKM h) {s0i : Int32} {s0 : Int} (es0 : s0i = Z3 s0) (qs0 : r3 s0) : SimV OKM (F12_signToken_275 h 0 s0i) (G12_signToken_275 (rd h) s0) := by
  subst es0
  unfold F12_signToken_275 G12_signToken_275
  refine sm_if (z3_eq rfl l3_0 qs0 lr3_0) ?_ ?_
  · exact S12_signToken_287 H l3_6 lr3_6
  · exact S12_signToken_287 H l3_4 lr3_4
theorem S12_signToken_270 {h : PH} (H : OKM h) : SimV OKM (F12_signToken_270 h 0) (G12_signToken_270 (rd h)) := by
  unfold F12_signToken_270 G12_signToken_270
  exact S12_signToken_275 H l3_1 lr3_1
theorem S12_signToken_0 {h : PH} (H : OKM h) : SimV OKM (F12_signToken_0 h 0) (G12_signToken_0 (rd h)) := by
  unfold F12_signToken_0 G12_signToken_0
  refine sm_rd (m_gR_12_0 H) ?_
  refine sm_rd (m_gI_12_7 H).1 ?_
  refine sgxV fun c1 => ?_
  refine sm_rd (m_aI_12_0 H rfl c1).1 ?_
  refine sm_wt (m_pI_12_9 H rfl (m_aI_12_0 H rfl c1).2) fun h7 Hh7 => ?_
  refine sm_rd (m_gI_12_7 Hh7).1 ?_
  refine sg3V fun c2 => ?_
  refine sm_wt (m_pI_12_7 Hh7 (z3_add rfl l3_1) c2) fun h11 Hh11 => ?_
  refine sm_rd (m_gI_12_9 Hh11).1 ?_
  refine sm_if (z3_eq rfl l3_60 (m_gI_12_9 Hh11).2 lr3_60) ?_ ?_
  · exact S12_signToken_50 Hh11
  · refine sm_rd (m_gI_12_9 Hh11).1 ?_
    refine sm_if (z3_eq rfl l3_62 (m_gI_12_9 Hh11).2 lr3_62) ?_ ?_
    · exact S12_signToken_50 Hh11
    · refine sm_rd (m_gI_12_9 Hh11).1 ?_
      refine sm_if (z3_eq rfl l3_61 (m_gI_12_9 Hh11).2 lr3_61) ?_ ?_
      · exact S12_signToken_50 Hh11
      · refine sm_rd (m_gI_12_9 Hh11).1 ?_
        refine sm_if (z3_eq rfl l3_59 (m_gI_12_9 Hh11).2 lr3_59) ?_ ?_
        · exact S12_signToken_270 Hh11
        · refine sm_rd (m_gI_12_9 Hh11).1 ?_
          refine sm_if (z3_eq rfl l3_40 (m_gI_12_9 Hh11).2 lr3_40) ?_ ?_
          · exact S12_signToken_270 Hh11
          · refine sm_rd (m_gI_12_9 Hh11).1 ?_
            refine sm_if (z3_eq rfl l3_41 (m_gI_12_9 Hh11).2 lr3_41) ?_ ?_
            · exact S12_signToken_270 Hh11
            · refine sm_rd (m_gI_12_9 Hh11).1 ?_
              refine sm_if (z3_eq rfl l3_43 (m_gI_12_9 Hh11).2 lr3_43) ?_ ?_
              · exact S12_signToken_270 Hh11
              · refine sm_rd (m_gI_12_9 Hh11).1 ?_
                refine sm_if (z3_eq rfl l3_45 (m_gI_12_9 Hh11).2 lr3_45) ?_ ?_
                · exact S12_signToken_270 Hh11
                · refine sm_rd (m_gI_12_9 Hh11).1 ?_
                  refine sm_if (z3_eq rfl l3_42 (m_gI_12_9 Hh11).2 lr3_42) ?_ ?_
                  · exact S12_signToken_270 Hh11
                  · refine sm_rd (m_gI_12_9 Hh11).1 ?_
                    refine sm_if (z3_eq rfl l3_47 (m_gI_12_9 Hh11).2 lr3_47) ?_ ?_
                    · exact S12_signToken_270 Hh11
                    · refine sm_rd (m_gI_12_9 Hh11).1 ?_
                      refine sm_if (z3_eq rfl l3_37 (m_gI_12_9 Hh11).2 lr3_37) ?_ ?_
                      · exact S12_signToken_270 Hh11
                      · exact S12_signToken_275 Hh11 l3_0 lr3_0
theorem S12_signToken {h : PH} (H : OKM h) : SimV OKM (F12_signToken h 0) (G12_signToken (rd h)) := by
  unfold F12_signToken G12_signToken
  refine sm_cd (m_ok_12 H) ?_
  exact S12_signToken_0 H
theorem S12_token_261 {k213 : PH → Nat → Option PH} {kk213 : Mem → Option Mem} (hk213 : ∀ {h : PH} (_ : OKM h), SimV OKM (k213 h 0) (kk213 (rd h))) {h : PH} (H : OKM h) {s0i : Int32} {s0 : Int} (es0 : s0i = Z3 s0) (qs0 : r3 s0) : SimV OKM (F12_token_261 k213 h 0 s0i 0) (G12_token_261 kk213 (rd h) s0) := by
  subst es0
  unfold F12_token_261 G12_token_261
  refine sm_wt (m_pI_12_9 H rfl qs0) fun h1 Hh1 => ?_
  refine sm_rd (m_gI_12_7 Hh1).1 ?_
  refine sg3V fun c1 => ?_
  refine sm_wt (m_pI_12_7 Hh1 (z3_add rfl l3_1) c1) fun h5 Hh5 => ?_
  exact hk213 Hh5
theorem S12_token_213 (n : Nat) : ∀ {h : PH} (H : OKM h), SimV OKM (F12_token_213 n h 0) (G12_token_213 n (rd h)) := by
  induction n with
  | zero => intros; exact smV_none _
  | succ n ih =>
    intro h H
    rw [F12_token_213, G12_token_213]
    refine sm_rd (m_gI_12_7 H).1 ?_
    refine sm_IV (S12_isDigit H rfl ((m_gI_12_7 H).2)) fun vo3 ho3 Ho3 ro3 => ?_
    refine sm_if (z3_eq rfl l3_0 ro3 lr3_0) ?_ ?_
    · exact sm_retV Ho3
    · refine sm_rd (m_gI_12_9 Ho3).1 ?_
      refine sm_if (z3_le rfl l3_99999 (m_gI_12_9 Ho3).2 lr3_99999) ?_ ?_
      · refine sm_rd (m_gI_12_9 Ho3).1 ?_
        refine sm_rd (m_gR_12_0 Ho3) ?_
        refine sm_rd (m_gI_12_7 Ho3).1 ?_
        refine sgxV fun c1 => ?_
        refine sm_rd (m_aI_12_0 Ho3 rfl c1).1 ?_
        refine sg3V fun c2 => ?_
        exact S12_token_261 (@fun _ H => ih H) Ho3 (z3_sub (z3_add (z3_mul l3_10 rfl) rfl) l3_48) c2
      · refine sm_rd (m_gI_12_9 Ho3).1 ?_
        exact S12_token_261 (@fun _ H => ih H) Ho3 rfl ((m_gI_12_9 Ho3).2)
theorem S12_token_162 {h : PH} (H : OKM h) {s0i : Int32} {s0 : Int} (es0 : s0i = Z3 s0) (qs0 : r3 s0) : SimV OKM (F12_token_162 h 0 s0i 0) (G12_token_162 (rd h) s0) := by
  subst es0
  unfold F12_token_162 G12_token_162
  refine sm_wt (m_pI_12_8 H rfl qs0) fun h1 Hh1 => ?_
  refine sm_rd (m_gI_12_8 Hh1).1 ?_
  refine sm_if (z3_eq rfl l3_2 (m_gI_12_8 Hh1).2 lr3_2) ?_ ?_
  · refine sm_rd (m_gI_12_10 Hh1).1 ?_
    refine sm_rd (m_gI_12_7 Hh1).1 ?_
    refine sm_IV (S12_packed Hh1 rfl ((m_gI_12_10 Hh1).2) rfl ((m_gI_12_7 Hh1).2)) fun vo10 ho10 Ho10 ro10 => ?_
    refine sm_wt (m_pI_12_9 Ho10 rfl ro10) fun h12 Hh12 => ?_
    exact sm_retV Hh12
  · exact sm_retV Hh1
theorem S12_token_90 (n : Nat) : ∀ {h : PH} (H : OKM h), SimV OKM (F12_token_90 n h 0) (G12_token_90 n (rd h)) := by
  induction n with
  | zero => intros; exact smV_none _
  | succ n ih =>
    intro h H
    rw [F12_token_90, G12_token_90]
    refine sm_rd (m_gI_12_7 H).1 ?_
    refine sm_IV (S12_isSmall H rfl ((m_gI_12_7 H).2)) fun vo3 ho3 Ho3 ro3 => ?_
    refine sm_if (z3_eq rfl l3_0 ro3 lr3_0) ?_ ?_
    · refine sm_rd (m_gI_12_10 Ho3).1 ?_
      refine sm_rd (m_gI_12_7 Ho3).1 ?_
      refine sm_IV (S12_wordAt Ho3 rfl ((m_gI_12_10 Ho3).2) rfl ((m_gI_12_7 Ho3).2)) fun vo10 ho10 Ho10 ro10 => ?_
      refine sm_wt (m_pI_12_9 Ho10 rfl ro10) fun h12 Hh12 => ?_
      refine sm_rd (m_gI_12_9 Hh12).1 ?_
      refine sm_if (z3_lt rfl l3_0 (m_gI_12_9 Hh12).2 lr3_0) ?_ ?_
      · refine sm_rd (m_gI_12_7 Hh12).1 ?_
        refine sm_rd (m_gI_12_10 Hh12).1 ?_
        refine sg3V fun c1 => ?_
        refine sm_if (z3_le (z3_sub rfl rfl) l3_6 c1 lr3_6) ?_ ?_
        · exact S12_token_162 Hh12 l3_2 lr3_2
        · exact S12_token_162 Hh12 l3_6 lr3_6
      · exact S12_token_162 Hh12 l3_1 lr3_1
    · refine sm_rd (m_gI_12_7 Ho3).1 ?_
      refine sg3V fun c2 => ?_
      refine sm_wt (m_pI_12_7 Ho3 (z3_add rfl l3_1) c2) fun h24 Hh24 => ?_
      exact ih Hh24
theorem S12_token_52 {h : PH} (H : OKM h) : SimV OKM (F12_token_52 h 0) (G12_token_52 (rd h)) := by
  unfold F12_token_52 G12_token_52
  refine sm_rd (m_gI_12_7 H).1 ?_
  refine sm_wt (m_pI_12_10 H rfl (m_gI_12_7 H).2) fun h3 Hh3 => ?_
  refine sm_rd (m_gI_12_7 Hh3).1 ?_
  refine sm_rd (m_gI_12_6 Hh3).1 ?_
  refine sm_if (z3_eq rfl rfl (m_gI_12_7 Hh3).2 (m_gI_12_6 Hh3).2) ?_ ?_
  · refine sm_wt (m_pI_12_8 Hh3 l3_0 lr3_0) fun h26 Hh26 => ?_
    exact sm_retV Hh26
  · refine sm_rd (m_gI_12_7 Hh3).1 ?_
    refine sm_IV (S12_isSmall Hh3 rfl ((m_gI_12_7 Hh3).2)) fun vo12 ho12 Ho12 ro12 => ?_
    refine sm_if (z3_eq rfl l3_0 ro12 lr3_0) ?_ ?_
    · refine sm_rd (m_gI_12_7 Ho12).1 ?_
      refine sm_IV (S12_isDigit Ho12 rfl ((m_gI_12_7 Ho12).2)) fun vo17 ho17 Ho17 ro17 => ?_
      refine sm_if (z3_eq rfl l3_0 ro17 lr3_0) ?_ ?_
      · refine sm_VV (S12_signToken Ho17) fun ho20 Ho20 => ?_
        exact sm_retV Ho20
      · refine sm_wt (m_pI_12_8 Ho17 l3_3 lr3_3) fun h22 Hh22 => ?_
        refine sm_wt (m_pI_12_9 Hh22 l3_0 lr3_0) fun h24 Hh24 => ?_
        exact S12_token_213 1024 Hh24
    · exact S12_token_90 1024 Ho12
theorem S12_token_39 {k0 : PH → Nat → Option PH} {kk0 : Mem → Option Mem} (hk0 : ∀ {h : PH} (_ : OKM h), SimV OKM (k0 h 0) (kk0 (rd h))) {h : PH} (H : OKM h) : SimV OKM (F12_token_39 k0 h 0) (G12_token_39 kk0 (rd h)) := by
  unfold F12_token_39 G12_token_39
  refine sm_rd (m_gI_12_7 H).1 ?_
  refine sg3V fun c1 => ?_
  refine sm_wt (m_pI_12_7 H (z3_add rfl l3_1) c1) fun h3 Hh3 => ?_
  exact hk0 Hh3
theorem S12_token_0 (n : Nat) : ∀ {h : PH} (H : OKM h), SimV OKM (F12_token_0 n h 0) (G12_token_0 n (rd h)) := by
  induction n with
  | zero => intros; exact smV_none _
  | succ n ih =>
    intro h H
    rw [F12_token_0, G12_token_0]
    refine sm_rd (m_gI_12_7 H).1 ?_
    refine sm_rd (m_gI_12_6 H).1 ?_
    refine sm_if (z3_le rfl rfl (m_gI_12_6 H).2 (m_gI_12_7 H).2) ?_ ?_
    · exact S12_token_52 H
    · refine sm_rd (m_gR_12_0 H) ?_
      refine sm_rd (m_gI_12_7 H).1 ?_
      refine sgxV fun c1 => ?_
      refine sm_rd (m_aI_12_0 H rfl c1).1 ?_
      refine sm_if (z3_eq rfl l3_10 (m_aI_12_0 H rfl c1).2 lr3_10) ?_ ?_
      · exact S12_token_39 (@fun _ H => ih H) H
      · refine sm_rd (m_gR_12_0 H) ?_
        refine sm_rd (m_gI_12_7 H).1 ?_
        refine sgxV fun c2 => ?_
        refine sm_rd (m_aI_12_0 H rfl c2).1 ?_
        refine sm_if (z3_eq rfl l3_32 (m_aI_12_0 H rfl c2).2 lr3_32) ?_ ?_
        · exact S12_token_39 (@fun _ H => ih H) H
        · exact S12_token_52 H
theorem S12_token {h : PH} (H : OKM h) : SimV OKM (F12_token h 0) (G12_token (rd h)) := by
  unfold F12_token G12_token
  refine sm_cd (m_ok_12 H) ?_
  exact S12_token_0 1024 H
theorem S12_wrong_0 {h : PH} (H : OKM h) {x1i : Int32} {x1 : Int} (ex1 : x1i = Z3 x1) (qx1 : r3 x1) : SimI OKM (F12_wrong_0 h 0 x1i) (G12_wrong_0 (rd h) x1) := by
  subst ex1
  unfold F12_wrong_0 G12_wrong_0
  refine sm_wt (m_pI_12_4 H rfl qx1) fun h1 Hh1 => ?_
  refine sm_rd (m_gI_12_10 Hh1).1 ?_
  refine sm_wt (m_pI_12_5 Hh1 rfl (m_gI_12_10 Hh1).2) fun h5 Hh5 => ?_
  exact sm_rz Hh5 l3_0 (by decide)
theorem S12_wrong {h : PH} (H : OKM h) {x1i : Int32} {x1 : Int} (ex1 : x1i = Z3 x1) (qx1 : r3 x1) : SimI OKM (F12_wrong h 0 x1i) (G12_wrong (rd h) x1) := by
  subst ex1
  unfold F12_wrong G12_wrong
  refine sm_cd (m_ok_12 H) ?_
  exact S12_wrong_0 H rfl qx1
theorem S12_isIn_0 {h : PH} (H : OKM h) {x0i : Int32} {x0 : Int} (ex0 : x0i = Z3 x0) (qx0 : r3 x0) {x1i : Int32} {x1 : Int} (ex1 : x1i = Z3 x1) (qx1 : r3 x1) {x2i : Int32} {x2 : Int} (ex2 : x2i = Z3 x2) (qx2 : r3 x2) : SimI OKM (F12_isIn_0 h x0i x1i x2i) (G12_isIn_0 (rd h) x0 x1 x2) := by
  subst ex0 ex1 ex2
  unfold F12_isIn_0 G12_isIn_0
  refine sm_if (z3_lt rfl rfl qx0 qx1) ?_ ?_
  · exact sm_rz H l3_0 (by decide)
  · refine sm_if (z3_lt rfl rfl qx2 qx0) ?_ ?_
    · exact sm_rz H l3_0 (by decide)
    · exact sm_rz H l3_1 (by decide)
theorem S12_isIn {h : PH} (H : OKM h) {x0i : Int32} {x0 : Int} (ex0 : x0i = Z3 x0) (qx0 : r3 x0) {x1i : Int32} {x1 : Int} (ex1 : x1i = Z3 x1) (qx1 : r3 x1) {x2i : Int32} {x2 : Int} (ex2 : x2i = Z3 x2) (qx2 : r3 x2) : SimI OKM (F12_isIn h x0i x1i x2i) (G12_isIn (rd h) x0 x1 x2) := by
  subst ex0 ex1 ex2
  unfold F12_isIn G12_isIn
  exact S12_isIn_0 H rfl qx0 rfl qx1 rfl qx2
theorem S12_number_0 {h : PH} (H : OKM h) {x1i : Int32} {x1 : Int} (ex1 : x1i = Z3 x1) (qx1 : r3 x1) {x2i : Int32} {x2 : Int} (ex2 : x2i = Z3 x2) (qx2 : r3 x2) : SimI OKM (F12_number_0 h 0 x1i x2i) (G12_number_0 (rd h) x1 x2) := by
  subst ex1 ex2
  unfold F12_number_0 G12_number_0
  refine sm_rd (m_gI_12_8 H).1 ?_
  refine sm_if (z3_eq rfl l3_3 (m_gI_12_8 H).2 lr3_3) ?_ ?_
  · refine sm_rd (m_gI_12_9 H).1 ?_
    refine sm_II (S12_isIn H rfl ((m_gI_12_9 H).2) rfl qx1 rfl qx2) fun vo6 ho6 Ho6 ro6 => ?_
    refine sm_if (z3_eq rfl l3_0 ro6 lr3_0) ?_ ?_
    · refine sm_II (S12_wrong Ho6 l3_2 lr3_2) fun vo15 ho15 Ho15 ro15 => ?_
      refine sgbI fun c1 => ?_
      exact sm_rz Ho15 rfl c1
    · refine sm_rd (m_gI_12_9 Ho6).1 ?_
      refine sm_wt (m_pI_12_11 Ho6 rfl (m_gI_12_9 Ho6).2) fun h11 Hh11 => ?_
      refine sm_VI (S12_token Hh11) fun ho13 Ho13 => ?_
      exact sm_rz Ho13 l3_1 (by decide)
  · refine sm_II (S12_wrong H l3_1 lr3_1) fun vo17 ho17 Ho17 ro17 => ?_
    refine sgbI fun c2 => ?_
    exact sm_rz Ho17 rfl c2
theorem S12_number {h : PH} (H : OKM h) {x1i : Int32} {x1 : Int} (ex1 : x1i = Z3 x1) (qx1 : r3 x1) {x2i : Int32} {x2 : Int} (ex2 : x2i = Z3 x2) (qx2 : r3 x2) : SimI OKM (F12_number h 0 x1i x2i) (G12_number (rd h) x1 x2) := by
  subst ex1 ex2
  unfold F12_number G12_number
  refine sm_cd (m_ok_12 H) ?_
  exact S12_number_0 H rfl qx1 rfl qx2
theorem S12_bankLine_0 {h : PH} (H : OKM h) : SimI OKM (F12_bankLine_0 h 0) (G12_bankLine_0 (rd h)) := by
  unfold F12_bankLine_0 G12_bankLine_0
  refine sm_VI (S12_token H) fun ho1 Ho1 => ?_
  refine sm_II (S12_number Ho1 l3_1 lr3_1 l3_20 lr3_20) fun vo3 ho3 Ho3 ro3 => ?_
  refine sm_if (z3_eq rfl l3_0 ro3 lr3_0) ?_ ?_
  · exact sm_rz Ho3 l3_0 (by decide)
  · refine sm_rd (m_gR_12_26 Ho3) ?_
    refine sm_rd (m_gI_12_11 Ho3).1 ?_
    refine sm_wt (m_sI_12_26 Ho3 l3_9 ⟨by decide, by decide⟩ rfl (m_gI_12_11 Ho3).2) fun h11 Hh11 => ?_
    refine sm_II (S12_number Hh11 l3_1 lr3_1 l3_20 lr3_20) fun vo12 ho12 Ho12 ro12 => ?_
    refine sm_if (z3_eq rfl l3_0 ro12 lr3_0) ?_ ?_
    · exact sm_rz Ho12 l3_0 (by decide)
    · refine sm_rd (m_gR_12_26 Ho12) ?_
      refine sm_rd (m_gI_12_11 Ho12).1 ?_
      refine sm_wt (m_sI_12_26 Ho12 l3_10 ⟨by decide, by decide⟩ rfl (m_gI_12_11 Ho12).2) fun h20 Hh20 => ?_
      refine sm_II (S12_number Hh20 l3_1 lr3_1 l3_9 lr3_9) fun vo21 ho21 Ho21 ro21 => ?_
      refine sm_if (z3_eq rfl l3_0 ro21 lr3_0) ?_ ?_
      · exact sm_rz Ho21 l3_0 (by decide)
      · refine sm_rd (m_gR_12_26 Ho21) ?_
        refine sm_rd (m_gI_12_11 Ho21).1 ?_
        refine sm_wt (m_sI_12_26 Ho21 l3_11 ⟨by decide, by decide⟩ rfl (m_gI_12_11 Ho21).2) fun h29 Hh29 => ?_
        exact sm_rz Hh29 l3_1 (by decide)
theorem S12_bankLine {h : PH} (H : OKM h) : SimI OKM (F12_bankLine h 0) (G12_bankLine (rd h)) := by
  unfold F12_bankLine G12_bankLine
  refine sm_cd (m_ok_12 H) ?_
  exact S12_bankLine_0 H
theorem S12_begin_60 (n : Nat) : ∀ {h : PH} (H : OKM h) {x1i : Int32} {x1 : Int} (ex1 : x1i = Z3 x1) (qx1 : r3 x1), SimV OKM (F12_begin_60 n h 0 x1i) (G12_begin_60 n (rd h) x1) := by
  induction n with
  | zero => intros; exact smV_none _
  | succ n ih =>
    intro h H x1i x1 ex1 qx1
    subst ex1
    rw [F12_begin_60, G12_begin_60]
    refine sm_if (z3_le l3_28 rfl lr3_28 qx1) ?_ ?_
    · refine sm_rd (m_gR_12_61 H) ?_
      refine sm_wt (m_sI_12_61 H l3_0 ⟨by decide, by decide⟩ l3_0 lr3_0) fun h5 Hh5 => ?_
      refine sm_rd (m_gR_12_62 Hh5) ?_
      refine sm_wt (m_sI_12_62 Hh5 l3_0 ⟨by decide, by decide⟩ l3_0 lr3_0) fun h9 Hh9 => ?_
      refine sm_rd (m_gR_12_63 Hh9) ?_
      refine sm_wt (m_sI_12_63 Hh9 l3_0 ⟨by decide, by decide⟩ l3_0 lr3_0) fun h13 Hh13 => ?_
      refine sm_rd (m_gR_12_26 Hh13) ?_
      refine sm_rd (m_aI_12_26 Hh13 l3_5 ⟨by decide, by decide⟩).1 ?_
      refine sm_wt (m_pI_12_64 Hh13 rfl (m_aI_12_26 Hh13 l3_5 ⟨by decide, by decide⟩).2) fun h18 Hh18 => ?_
      refine sm_rd (m_gR_12_26 Hh18) ?_
      refine sm_rd (m_aI_12_26 Hh18 l3_6 ⟨by decide, by decide⟩).1 ?_
      refine sm_wt (m_pJ_12_65 Hh18 (z3_to6 rfl (m_aI_12_26 Hh18 l3_6 ⟨by decide, by decide⟩).2) (r3_6 (m_aI_12_26 Hh18 l3_6 ⟨by decide, by decide⟩).2)) fun h24 Hh24 => ?_
      refine sm_wt (m_pI_12_66 Hh24 l3_m1 lr3_m1) fun h26 Hh26 => ?_
      refine sm_wt (m_pI_12_74 Hh26 l3_0 lr3_0) fun h28 Hh28 => ?_
      refine sm_wt (m_pI_12_75 Hh28 l3_m1 lr3_m1) fun h30 Hh30 => ?_
      refine sm_wt (m_pI_12_78 Hh30 l3_0 lr3_0) fun h32 Hh32 => ?_
      refine sm_wt (m_pZ_12_80 Hh32 l3_0 (by decide)) fun h34 Hh34 => ?_
      exact sm_retV Hh34
    · refine sm_rd (m_gR_12_60 H) ?_
      refine sgxV fun c1 => ?_
      refine sm_wt (m_sI_12_60 H rfl c1 l3_m2 lr3_m2) fun h39 Hh39 => ?_
      refine sg3V fun c2 => ?_
      exact ih Hh39 (z3_add rfl l3_1) c2
theorem S12_begin_2 (n : Nat) : ∀ {h : PH} (H : OKM h) {x1i : Int32} {x1 : Int} (ex1 : x1i = Z3 x1) (qx1 : r3 x1), SimV OKM (F12_begin_2 n h 0 x1i) (G12_begin_2 n (rd h) x1) := by
  induction n with
  | zero => intros; exact smV_none _
  | succ n ih =>
    intro h H x1i x1 ex1 qx1
    subst ex1
    rw [F12_begin_2, G12_begin_2]
    refine sm_if (z3_le l3_5 rfl lr3_5 qx1) ?_ ?_
    · exact S12_begin_60 1024 H l3_0 lr3_0
    · refine sm_rd (m_gR_12_55 H) ?_
      refine sm_rd (m_gR_12_28 H) ?_
      refine sgxV fun c1 => ?_
      refine sm_rd (m_aI_12_28 H rfl c1).1 ?_
      refine sgxV fun c2 => ?_
      refine sm_wt (m_sI_12_55 H rfl c2 rfl (m_aI_12_28 H rfl c1).2) fun h9 Hh9 => ?_
      refine sm_rd (m_gR_12_56 Hh9) ?_
      refine sgxV fun c3 => ?_
      refine sm_wt (m_sI_12_56 Hh9 rfl c3 l3_0 lr3_0) fun h13 Hh13 => ?_
      refine sm_rd (m_gR_12_57 Hh13) ?_
      refine sgxV fun c4 => ?_
      refine sm_wt (m_sI_12_57 Hh13 rfl c4 l3_0 lr3_0) fun h17 Hh17 => ?_
      refine sm_rd (m_gR_12_58 Hh17) ?_
      refine sgxV fun c5 => ?_
      refine sm_wt (m_sI_12_58 Hh17 rfl c5 l3_0 lr3_0) fun h21 Hh21 => ?_
      refine sm_rd (m_gR_12_59 Hh21) ?_
      refine sm_rd (m_gR_12_30 Hh21) ?_
      refine sgxV fun c6 => ?_
      refine sm_rd (m_aI_12_30 Hh21 rfl c6).1 ?_
      refine sgxV fun c7 => ?_
      refine sm_wt (m_sI_12_59 Hh21 rfl c7 rfl (m_aI_12_30 Hh21 rfl c6).2) fun h29 Hh29 => ?_
      refine sg3V fun c8 => ?_
      exact ih Hh29 (z3_add rfl l3_1) c8
theorem S12_begin_0 {h : PH} (H : OKM h) : SimV OKM (F12_begin_0 h 0) (G12_begin_0 (rd h)) := by
  unfold F12_begin_0 G12_begin_0
  exact S12_begin_2 1024 H l3_0 lr3_0
theorem S12_begin {h : PH} (H : OKM h) : SimV OKM (F12_begin h 0) (G12_begin (rd h)) := by
  unfold F12_begin G12_begin
  refine sm_cd (m_ok_12 H) ?_
  exact S12_begin_0 H
theorem S12_beginsFrom_2 (n : Nat) : ∀ {h : PH} (H : OKM h) {x1i : Int32} {x1 : Int} (ex1 : x1i = Z3 x1) (qx1 : r3 x1) {x2i : Int32} {x2 : Int} (ex2 : x2i = Z3 x2) (qx2 : r3 x2), SimI OKM (F12_beginsFrom_2 n h 0 x1i x2i) (G12_beginsFrom_2 n (rd h) x1 x2) := by
  induction n with
  | zero => intros; exact smI_none _
  | succ n ih =>
    intro h H x1i x1 ex1 qx1 x2i x2 ex2 qx2
    subst ex1 ex2
    rw [F12_beginsFrom_2, G12_beginsFrom_2]
    refine sm_rd (m_gI_12_15 H).1 ?_
    refine sm_if (z3_le rfl rfl (m_gI_12_15 H).2 qx2) ?_ ?_
    · exact sm_retI H l3_m1 lr3_m1
    · refine sm_rd (m_gR_12_34 H) ?_
      refine sm_rd (m_gR_12_33 H) ?_
      refine sgxI fun c1 => ?_
      refine sm_rd (m_aI_12_33 H rfl c1).1 ?_
      refine sgxI fun c2 => ?_
      refine sm_rd (m_aI_12_34 H rfl c2).1 ?_
      refine sm_if (z3_lt rfl rfl (m_aI_12_34 H rfl c2).2 qx1) ?_ ?_
      · refine sg3I fun c3 => ?_
        exact ih H rfl qx1 (z3_add rfl l3_1) c3
      · refine sm_rd (m_gR_12_34 H) ?_
        refine sm_rd (m_gR_12_33 H) ?_
        refine sgxI fun c4 => ?_
        refine sm_rd (m_aI_12_33 H rfl c4).1 ?_
        refine sgxI fun c5 => ?_
        refine sm_rd (m_aI_12_34 H rfl c5).1 ?_
        exact sm_retI H rfl (m_aI_12_34 H rfl c5).2
theorem S12_beginsFrom_0 {h : PH} (H : OKM h) {x1i : Int32} {x1 : Int} (ex1 : x1i = Z3 x1) (qx1 : r3 x1) : SimI OKM (F12_beginsFrom_0 h 0 x1i) (G12_beginsFrom_0 (rd h) x1) := by
  subst ex1
  unfold F12_beginsFrom_0 G12_beginsFrom_0
  exact S12_beginsFrom_2 1024 H rfl qx1 l3_0 lr3_0
theorem S12_beginsFrom {h : PH} (H : OKM h) {x1i : Int32} {x1 : Int} (ex1 : x1i = Z3 x1) (qx1 : r3 x1) : SimI OKM (F12_beginsFrom h 0 x1i) (G12_beginsFrom (rd h) x1) := by
  subst ex1
  unfold F12_beginsFrom G12_beginsFrom
  refine sm_cd (m_ok_12 H) ?_
  exact S12_beginsFrom_0 H rfl qx1
theorem S12_beside_51 {h : PH} (H : OKM h) {x3i : Int32} {x3 : Int} (ex3 : x3i = Z3 x3) (qx3 : r3 x3) {s0i : Int32} {s0 : Int} (es0 : s0i = Z3 s0) (qs0 : r3 s0) {s1i : Int32} {s1 : Int} (es1 : s1i = Z3 s1) (qs1 : r3 s1) : SimI OKM (F12_beside_51 h 0 x3i s0i s1i) (G12_beside_51 (rd h) x3 s0 s1) := by
  subst ex3 es0 es1
  unfold F12_beside_51 G12_beside_51
  refine sm_rd (m_gI_12_12 H).1 ?_
  refine sg3I fun c1 => ?_
  refine sm_II (S12_isIn H rfl qx3 l3_0 lr3_0 (z3_sub rfl l3_1) c1) fun vo3 ho3 Ho3 ro3 => ?_
  refine sm_if (z3_eq rfl l3_0 ro3 lr3_0) ?_ ?_
  · exact sm_retI Ho3 l3_m1 lr3_m1
  · refine sm_rd (m_gI_12_13 Ho3).1 ?_
    refine sg3I fun c2 => ?_
    refine sg3I fun c3 => ?_
    refine sm_II (S12_isIn Ho3 (z3_add rfl rfl) c2 l3_0 lr3_0 (z3_sub rfl l3_1) c3) fun vo8 ho8 Ho8 ro8 => ?_
    refine sm_if (z3_eq rfl l3_0 ro8 lr3_0) ?_ ?_
    · exact sm_retI Ho8 l3_m1 lr3_m1
    · refine sm_rd (m_gI_12_12 Ho8).1 ?_
      refine sg3I fun c4 => ?_
      exact sm_retI Ho8 (z3_add (z3_mul rfl (z3_add rfl rfl)) rfl) c4
theorem S12_beside_25 {h : PH} (H : OKM h) {x1i : Int32} {x1 : Int} (ex1 : x1i = Z3 x1) (qx1 : r3 x1) {x2i : Int32} {x2 : Int} (ex2 : x2i = Z3 x2) (qx2 : r3 x2) {s0i : Int32} {s0 : Int} (es0 : s0i = Z3 s0) (qs0 : r3 s0) {s1i : Int32} {s1 : Int} (es1 : s1i = Z3 s1) (qs1 : r3 s1) : SimI OKM (F12_beside_25 h 0 x1i x2i s0i s1i) (G12_beside_25 (rd h) x1 x2 s0 s1) := by
  subst ex1 ex2 es0 es1
  unfold F12_beside_25 G12_beside_25
  refine sm_rd (m_gI_12_12 H).1 ?_
  refine sm_if (z3_eq rfl l3_0 (m_gI_12_12 H).2 lr3_0) ?_ ?_
  · exact smI_none _
  · refine sm_if (z3_eq rfl l3_2 qx2 lr3_2) ?_ ?_
    · refine sg3I fun c1 => ?_
      refine sgdI fun c2 => ?_
      exact S12_beside_51 H (z3_add rfl rfl) c1 l3_1 lr3_1 (z3_div rfl rfl qx1 (m_gI_12_12 H).2 c2) (r3_div qx1 (m_gI_12_12 H).2 c2)
    · refine sm_if (z3_eq rfl l3_0 qx2 lr3_0) ?_ ?_
      · refine sg3I fun c3 => ?_
        refine sgdI fun c4 => ?_
        exact S12_beside_51 H (z3_add rfl rfl) c3 l3_m1 lr3_m1 (z3_div rfl rfl qx1 (m_gI_12_12 H).2 c4) (r3_div qx1 (m_gI_12_12 H).2 c4)
      · refine sg3I fun c5 => ?_
        refine sgdI fun c6 => ?_
        exact S12_beside_51 H (z3_add rfl rfl) c5 l3_0 lr3_0 (z3_div rfl rfl qx1 (m_gI_12_12 H).2 c6) (r3_div qx1 (m_gI_12_12 H).2 c6)
theorem S12_beside_0 {h : PH} (H : OKM h) {x1i : Int32} {x1 : Int} (ex1 : x1i = Z3 x1) (qx1 : r3 x1) {x2i : Int32} {x2 : Int} (ex2 : x2i = Z3 x2) (qx2 : r3 x2) : SimI OKM (F12_beside_0 h 0 x1i x2i) (G12_beside_0 (rd h) x1 x2) := by
  subst ex1 ex2
  unfold F12_beside_0 G12_beside_0
  refine sm_rd (m_gI_12_12 H).1 ?_
  refine sm_if (z3_eq rfl l3_0 (m_gI_12_12 H).2 lr3_0) ?_ ?_
  · exact smI_none _
  · refine sm_if (z3_eq rfl l3_1 qx2 lr3_1) ?_ ?_
    · refine sgdI fun c1 => ?_
      exact S12_beside_25 H rfl qx1 rfl qx2 l3_1 lr3_1 (z3_rem rfl rfl qx1 (m_gI_12_12 H).2 c1) (r3_rem qx1 (m_gI_12_12 H).2 c1)
    · refine sm_if (z3_eq rfl l3_3 qx2 lr3_3) ?_ ?_
      · refine sgdI fun c2 => ?_
        exact S12_beside_25 H rfl qx1 rfl qx2 l3_m1 lr3_m1 (z3_rem rfl rfl qx1 (m_gI_12_12 H).2 c2) (r3_rem qx1 (m_gI_12_12 H).2 c2)
      · refine sgdI fun c3 => ?_
        exact S12_beside_25 H rfl qx1 rfl qx2 l3_0 lr3_0 (z3_rem rfl rfl qx1 (m_gI_12_12 H).2 c3) (r3_rem qx1 (m_gI_12_12 H).2 c3)
theorem S12_beside {h : PH} (H : OKM h) {x1i : Int32} {x1 : Int} (ex1 : x1i = Z3 x1) (qx1 : r3 x1) {x2i : Int32} {x2 : Int} (ex2 : x2i = Z3 x2) (qx2 : r3 x2) : SimI OKM (F12_beside h 0 x1i x2i) (G12_beside (rd h) x1 x2) := by
  subst ex1 ex2
  unfold F12_beside G12_beside
  refine sm_cd (m_ok_12 H) ?_
  exact S12_beside_0 H rfl qx1 rfl qx2
theorem S12_isSurfer_0 {h : PH} (H : OKM h) {x1i : Int32} {x1 : Int} (ex1 : x1i = Z3 x1) (qx1 : r3 x1) : SimI OKM (F12_isSurfer_0 h 0 x1i) (G12_isSurfer_0 (rd h) x1) := by
  subst ex1
  unfold F12_isSurfer_0 G12_isSurfer_0
  refine sm_if (z3_lt rfl l3_0 qx1 lr3_0) ?_ ?_
  · exact sm_rz H l3_0 (by decide)
  · refine sm_rd (m_gI_12_14 H).1 ?_
    refine sm_if (z3_le rfl rfl (m_gI_12_14 H).2 qx1) ?_ ?_
    · exact sm_rz H l3_0 (by decide)
    · exact sm_rz H l3_1 (by decide)
theorem S12_isSurfer {h : PH} (H : OKM h) {x1i : Int32} {x1 : Int} (ex1 : x1i = Z3 x1) (qx1 : r3 x1) : SimI OKM (F12_isSurfer h 0 x1i) (G12_isSurfer (rd h) x1) := by
  subst ex1
  unfold F12_isSurfer G12_isSurfer
  refine sm_cd (m_ok_12 H) ?_
  exact S12_isSurfer_0 H rfl qx1
theorem S12_cells_0 {h : PH} (H : OKM h) : SimI OKM (F12_cells_0 h 0) (G12_cells_0 (rd h)) := by
  unfold F12_cells_0 G12_cells_0
  refine sm_rd (m_gI_12_12 H).1 ?_
  refine sm_rd (m_gI_12_13 H).1 ?_
  refine sg3I fun c1 => ?_
  exact sm_retI H (z3_mul rfl rfl) c1
theorem S12_cells {h : PH} (H : OKM h) : SimI OKM (F12_cells h 0) (G12_cells (rd h)) := by
  unfold F12_cells G12_cells
  refine sm_cd (m_ok_12 H) ?_
  exact S12_cells_0 H
theorem S12_gainOf_0 {h : PH} (H : OKM h) {x1i : Int32} {x1 : Int} (ex1 : x1i = Z3 x1) (qx1 : r3 x1) {x2i : Int32} {x2 : Int} (ex2 : x2i = Z3 x2) (qx2 : r3 x2) {x3i : Int32} {x3 : Int} (ex3 : x3i = Z3 x3) (qx3 : r3 x3) : SimI OKM (F12_gainOf_0 h 0 x1i x2i x3i) (G12_gainOf_0 (rd h) x1 x2 x3) := by
  subst ex1 ex2 ex3
  unfold F12_gainOf_0 G12_gainOf_0
  refine sm_II (S12_oddsOf H rfl qx1 rfl qx2 rfl qx3) fun vo1 ho1 Ho1 ro1 => ?_
  refine sm_rd (m_gR_12_35 Ho1) ?_
  refine sgxI fun c1 => ?_
  refine sm_rd (m_aI_12_35 Ho1 rfl c1).1 ?_
  refine sg3I fun c2 => ?_
  exact sm_retI Ho1 (z3_mul rfl rfl) c2
theorem S12_gainOf {h : PH} (H : OKM h) {x1i : Int32} {x1 : Int} (ex1 : x1i = Z3 x1) (qx1 : r3 x1) {x2i : Int32} {x2 : Int} (ex2 : x2i = Z3 x2) (qx2 : r3 x2) {x3i : Int32} {x3 : Int} (ex3 : x3i = Z3 x3) (qx3 : r3 x3) : SimI OKM (F12_gainOf h 0 x1i x2i x3i) (G12_gainOf (rd h) x1 x2 x3) := by
  subst ex1 ex2 ex3
  unfold F12_gainOf G12_gainOf
  refine sm_cd (m_ok_12 H) ?_
  exact S12_gainOf_0 H rfl qx1 rfl qx2 rfl qx3
theorem S12_seatFrom_6 (n : Nat) : ∀ {h : PH} (H : OKM h) {x1i : Int32} {x1 : Int} (ex1 : x1i = Z3 x1) (qx1 : r3 x1) {x2i : Int32} {x2 : Int} (ex2 : x2i = Z3 x2) (qx2 : r3 x2) {x3i : Int32} {x3 : Int} (ex3 : x3i = Z3 x3) (qx3 : r3 x3) {x4i : Int32} {x4 : Int} (ex4 : x4i = Z3 x4) (qx4 : r3 x4) {x5i : Int32} {x5 : Int} (ex5 : x5i = Z3 x5) (qx5 : r3 x5), SimI OKM (F12_seatFrom_6 n h 0 x1i x2i x3i x4i x5i) (G12_seatFrom_6 n (rd h) x1 x2 x3 x4 x5) := by
  induction n with
  | zero => intros; exact smI_none _
  | succ n ih =>
    intro h H x1i x1 ex1 qx1 x2i x2 ex2 qx2 x3i x3 ex3 qx3 x4i x4 ex4 qx4 x5i x5 ex5 qx5
    subst ex1 ex2 ex3 ex4 ex5
    rw [F12_seatFrom_6, G12_seatFrom_6]
    refine sm_rd (m_gI_12_16 H).1 ?_
    refine sm_if (z3_le rfl rfl (m_gI_12_16 H).2 qx5) ?_ ?_
    · exact sm_retI H rfl qx4
    · refine sm_rd (m_gR_12_34 H) ?_
      refine sgxI fun c1 => ?_
      refine sm_rd (m_aI_12_34 H rfl c1).1 ?_
      refine sm_if (z3_lt rfl rfl (m_aI_12_34 H rfl c1).2 qx3) ?_ ?_
      · refine sg3I fun c2 => ?_
        refine sg3I fun c3 => ?_
        exact ih H rfl qx1 rfl qx2 rfl qx3 (z3_add rfl l3_0) c2 (z3_add rfl l3_1) c3
      · refine sm_II (S12_gainOf H rfl qx1 rfl qx5 rfl qx2) fun vo9 ho9 Ho9 ro9 => ?_
        refine sg3I fun c4 => ?_
        refine sg3I fun c5 => ?_
        exact ih Ho9 rfl qx1 rfl qx2 rfl qx3 (z3_add rfl rfl) c4 (z3_add rfl l3_1) c5
/-! The pure functions do so (written by wip/gen/gx.py). -/
theorem S12_seatFrom_0 {h : PH} (H : OKM h) {x1i : Int32} {x1 : Int} (ex1 : x1i = Z3 x1) (qx1 : r3 x1) {x2i : Int32} {x2 : Int} (ex2 : x2i = Z3 x2) (qx2 : r3 x2) {x3i : Int32} {x3 : Int} (ex3 : x3i = Z3 x3) (qx3 : r3 x3) : SimI OKM (F12_seatFrom_0 h 0 x1i x2i x3i) (G12_seatFrom_0 (rd h) x1 x2 x3) := by
  subst ex1 ex2 ex3
  unfold F12_seatFrom_0 G12_seatFrom_0
  exact S12_seatFrom_6 1024 H rfl qx1 rfl qx2 rfl qx3 l3_0 lr3_0 l3_0 lr3_0
theorem S12_seatFrom {h : PH} (H : OKM h) {x1i : Int32} {x1 : Int} (ex1 : x1i = Z3 x1) (qx1 : r3 x1) {x2i : Int32} {x2 : Int} (ex2 : x2i = Z3 x2) (qx2 : r3 x2) {x3i : Int32} {x3 : Int} (ex3 : x3i = Z3 x3) (qx3 : r3 x3) : SimI OKM (F12_seatFrom h 0 x1i x2i x3i) (G12_seatFrom (rd h) x1 x2 x3) := by
  subst ex1 ex2 ex3
  unfold F12_seatFrom G12_seatFrom
  refine sm_cd (m_ok_12 H) ?_
  exact S12_seatFrom_0 H rfl qx1 rfl qx2 rfl qx3
theorem S12_best_22 (n : Nat) : ∀ {h : PH} (H : OKM h) {x1i : Int32} {x1 : Int} (ex1 : x1i = Z3 x1) (qx1 : r3 x1) {x2i : Int32} {x2 : Int} (ex2 : x2i = Z3 x2) (qx2 : r3 x2) {x3i : Int32} {x3 : Int} (ex3 : x3i = Z3 x3) (qx3 : r3 x3) {x4i : Int32} {x4 : Int} (ex4 : x4i = Z3 x4) (qx4 : r3 x4), SimI OKM (F12_best_22 n h 0 x1i x2i x3i x4i) (G12_best_22 n (rd h) x1 x2 x3 x4) := by
  induction n with
  | zero => intros; exact smI_none _
  | succ n ih =>
    intro h H x1i x1 ex1 qx1 x2i x2 ex2 qx2 x3i x3 ex3 qx3 x4i x4 ex4 qx4
    subst ex1 ex2 ex3 ex4
    rw [F12_best_22, G12_best_22]
    refine sm_II (S12_cells H) fun vo1 ho1 Ho1 ro1 => ?_
    refine sm_if (z3_le rfl rfl ro1 qx4) ?_ ?_
    · exact sm_retI Ho1 rfl qx2
    · refine sm_rd (m_gR_12_61 Ho1) ?_
      refine sm_rd (m_aI_12_61 Ho1 l3_0 ⟨by decide, by decide⟩).1 ?_
      refine sm_II (S12_seatFrom Ho1 rfl qx1 rfl qx4 rfl ((m_aI_12_61 Ho1 l3_0 ⟨by decide, by decide⟩).2)) fun vo8 ho8 Ho8 ro8 => ?_
      refine sm_if (z3_lt rfl rfl qx3 ro8) ?_ ?_
      · refine sg3I fun c1 => ?_
        exact ih Ho8 rfl qx1 rfl qx4 rfl ro8 (z3_add rfl l3_1) c1
      · refine sg3I fun c2 => ?_
        exact ih Ho8 rfl qx1 rfl qx2 rfl qx3 (z3_add rfl l3_1) c2
theorem S12_best_0 {h : PH} (H : OKM h) {x1i : Int32} {x1 : Int} (ex1 : x1i = Z3 x1) (qx1 : r3 x1) : SimI OKM (F12_best_0 h 0 x1i) (G12_best_0 (rd h) x1) := by
  subst ex1
  unfold F12_best_0 G12_best_0
  refine sm_wt (m_pI_12_2 H l3_0 lr3_0) fun h1 Hh1 => ?_
  refine sm_II (S12_isSurfer Hh1 rfl qx1) fun vo3 ho3 Ho3 ro3 => ?_
  refine sm_if (z3_eq rfl l3_0 ro3 lr3_0) ?_ ?_
  · exact sm_retI Ho3 l3_m1 lr3_m1
  · exact S12_best_22 1024 Ho3 rfl qx1 l3_0 lr3_0 l3_m1 lr3_m1 l3_0 lr3_0
theorem S12_best {h : PH} (H : OKM h) {x1i : Int32} {x1 : Int} (ex1 : x1i = Z3 x1) (qx1 : r3 x1) : SimI OKM (F12_best h 0 x1i) (G12_best (rd h) x1) := by
  subst ex1
  unfold F12_best G12_best
  refine sm_cd (m_ok_12 H) ?_
  exact S12_best_0 H rfl qx1
theorem S12_rank_0 {h : PH} (H : OKM h) {x0i : Int32} {x0 : Int} (ex0 : x0i = Z3 x0) (qx0 : r3 x0) : SimI OKM (F12_rank_0 h x0i) (G12_rank_0 (rd h) x0) := by
  subst ex0
  unfold F12_rank_0 G12_rank_0
  refine sm_if (z3_lt rfl l3_13 qx0 lr3_13) ?_ ?_
  · refine sm_if (z3_lt rfl l3_11 qx0 lr3_11) ?_ ?_
    · refine sm_if (z3_lt rfl l3_5 qx0 lr3_5) ?_ ?_
      · refine sm_if (z3_eq rfl l3_2 qx0 lr3_2) ?_ ?_
        · exact sm_retI H l3_3 lr3_3
        · refine sm_if (z3_eq rfl l3_3 qx0 lr3_3) ?_ ?_
          · exact sm_retI H l3_2 lr3_2
          · refine sm_if (z3_eq rfl l3_4 qx0 lr3_4) ?_ ?_
            · exact sm_retI H l3_1 lr3_1
            · exact sm_retI H l3_0 lr3_0
      · exact sm_retI H l3_4 lr3_4
    · exact sm_retI H l3_5 lr3_5
  · exact sm_retI H l3_6 lr3_6
theorem S12_rank {h : PH} (H : OKM h) {x0i : Int32} {x0 : Int} (ex0 : x0i = Z3 x0) (qx0 : r3 x0) : SimI OKM (F12_rank h x0i) (G12_rank (rd h) x0) := by
  subst ex0
  unfold F12_rank G12_rank
  exact S12_rank_0 H rfl qx0
theorem S12_dropHeld_0 {h : PH} (H : OKM h) : SimI OKM (F12_dropHeld_0 h 0) (G12_dropHeld_0 (rd h)) := by
  unfold F12_dropHeld_0 G12_dropHeld_0
  refine sm_rd (m_gI_12_47 H).1 ?_
  refine sg3I fun c1 => ?_
  refine sm_wt (m_pI_12_47 H (z3_sub rfl l3_1) c1) fun h3 Hh3 => ?_
  refine sm_rd (m_gR_12_45 Hh3) ?_
  refine sm_rd (m_gI_12_47 Hh3).1 ?_
  refine sgxI fun c2 => ?_
  refine sm_rd (m_aI_12_45 Hh3 rfl c2).1 ?_
  exact sm_retI Hh3 rfl (m_aI_12_45 Hh3 rfl c2).2
theorem S12_dropHeld {h : PH} (H : OKM h) : SimI OKM (F12_dropHeld h 0) (G12_dropHeld (rd h)) := by
  unfold F12_dropHeld G12_dropHeld
  refine sm_cd (m_ok_12 H) ?_
  exact S12_dropHeld_0 H
theorem S12_grown_0 {h : PH} (H : OKM h) {x1i : Int32} {x1 : Int} (ex1 : x1i = Z3 x1) (qx1 : r3 x1) {x2i : Int32} {x2 : Int} (ex2 : x2i = Z3 x2) (qx2 : r3 x2) {x3i : Int32} {x3 : Int} (ex3 : x3i = Z3 x3) (qx3 : r3 x3) : SimV OKM (F12_grown_0 h 0 x1i x2i x3i) (G12_grown_0 (rd h) x1 x2 x3) := by
  subst ex1 ex2 ex3
  unfold F12_grown_0 G12_grown_0
  refine sm_rd (m_gR_12_40 H) ?_
  refine sm_rd (m_gI_12_23 H).1 ?_
  refine sgxV fun c1 => ?_
  refine sm_wt (m_sI_12_40 H (z3_add l3_64 rfl) c1 rfl qx1) fun h6 Hh6 => ?_
  refine sm_rd (m_gR_12_41 Hh6) ?_
  refine sm_rd (m_gI_12_23 Hh6).1 ?_
  refine sgxV fun c2 => ?_
  refine sm_wt (m_sI_12_41 Hh6 (z3_add l3_64 rfl) c2 rfl qx2) fun h12 Hh12 => ?_
  refine sm_rd (m_gR_12_42 Hh12) ?_
  refine sm_rd (m_gI_12_23 Hh12).1 ?_
  refine sgxV fun c3 => ?_
  refine sm_wt (m_sI_12_42 Hh12 (z3_add l3_64 rfl) c3 rfl qx3) fun h18 Hh18 => ?_
  refine sm_rd (m_gR_12_45 Hh18) ?_
  refine sm_rd (m_gI_12_47 Hh18).1 ?_
  refine sm_rd (m_gI_12_23 Hh18).1 ?_
  refine sgxV fun c4 => ?_
  refine sm_wt (m_sI_12_45 Hh18 rfl c4 rfl (m_gI_12_23 Hh18).2) fun h26 Hh26 => ?_
  refine sm_rd (m_gI_12_47 Hh26).1 ?_
  refine sg3V fun c5 => ?_
  refine sm_wt (m_pI_12_47 Hh26 (z3_add rfl l3_1) c5) fun h29 Hh29 => ?_
  refine sm_rd (m_gI_12_23 Hh29).1 ?_
  refine sg3V fun c6 => ?_
  refine sm_wt (m_pI_12_23 Hh29 (z3_add rfl l3_1) c6) fun h33 Hh33 => ?_
  exact sm_retV Hh33
theorem S12_grown {h : PH} (H : OKM h) {x1i : Int32} {x1 : Int} (ex1 : x1i = Z3 x1) (qx1 : r3 x1) {x2i : Int32} {x2 : Int} (ex2 : x2i = Z3 x2) (qx2 : r3 x2) {x3i : Int32} {x3 : Int} (ex3 : x3i = Z3 x3) (qx3 : r3 x3) : SimV OKM (F12_grown h 0 x1i x2i x3i) (G12_grown (rd h) x1 x2 x3) := by
  subst ex1 ex2 ex3
  unfold F12_grown G12_grown
  refine sm_cd (m_ok_12 H) ?_
  exact S12_grown_0 H rfl qx1 rfl qx2 rfl qx3
theorem S12_bind_58 {k0 : PH → Nat → Int32 → Option PH} {kk0 : Mem → Int → Option Mem} (hk0 : ∀ {h : PH} (_ : OKM h) {x2 : Int32} {y2 : Int} (_ : x2 = Z3 y2) (_ : r3 y2), SimV OKM (k0 h 0 x2) (kk0 (rd h) y2)) {h : PH} (H : OKM h) {x1i : Int32} {x1 : Int} (ex1 : x1i = Z3 x1) (qx1 : r3 x1) {x2i : Int32} {x2 : Int} (ex2 : x2i = Z3 x2) (qx2 : r3 x2) {s0i : Int32} {s0 : Int} (es0 : s0i = Z3 s0) (qs0 : r3 s0) : SimV OKM (F12_bind_58 k0 h 0 x1i x2i s0i) (G12_bind_58 kk0 (rd h) x1 x2 s0) := by
  subst ex1 ex2 es0
  unfold F12_bind_58 G12_bind_58
  refine sm_IV (S12_dropHeld H) fun vo1 ho1 Ho1 ro1 => ?_
  refine sm_VV (S12_grown Ho1 rfl qx2 rfl ro1 rfl qs0) fun ho3 Ho3 => ?_
  exact hk0 Ho3 rfl qx1
theorem S12_bind_0 (n : Nat) : ∀ {h : PH} (H : OKM h) {x1i : Int32} {x1 : Int} (ex1 : x1i = Z3 x1) (qx1 : r3 x1), SimV OKM (F12_bind_0 n h 0 x1i) (G12_bind_0 n (rd h) x1) := by
  induction n with
  | zero => intros; exact smV_none _
  | succ n ih =>
    intro h H x1i x1 ex1 qx1
    subst ex1
    rw [F12_bind_0, G12_bind_0]
    refine sm_rd (m_gI_12_46 H).1 ?_
    refine sm_if (z3_le rfl l3_0 (m_gI_12_46 H).2 lr3_0) ?_ ?_
    · exact sm_retV H
    · refine sm_rd (m_gR_12_44 H) ?_
      refine sm_rd (m_gI_12_46 H).1 ?_
      refine sgxV fun c1 => ?_
      refine sm_rd (m_aI_12_44 H (z3_sub rfl l3_1) c1).1 ?_
      refine sm_IV (S12_rank H rfl ((m_aI_12_44 H (z3_sub rfl l3_1) c1).2)) fun vo10 ho10 Ho10 ro10 => ?_
      refine sm_if (z3_lt rfl rfl ro10 qx1) ?_ ?_
      · exact sm_retV Ho10
      · refine sm_rd (m_gI_12_46 Ho10).1 ?_
        refine sg3V fun c2 => ?_
        refine sm_wt (m_pI_12_46 Ho10 (z3_sub rfl l3_1) c2) fun h15 Hh15 => ?_
        refine sm_rd (m_gR_12_44 Hh15) ?_
        refine sm_rd (m_gI_12_46 Hh15).1 ?_
        refine sgxV fun c3 => ?_
        refine sm_rd (m_aI_12_44 Hh15 rfl c3).1 ?_
        refine sm_if (z3_eq rfl l3_2 (m_aI_12_44 Hh15 rfl c3).2 lr3_2) ?_ ?_
        · exact S12_bind_58 (@fun _ H _ _ ex1 qx1 => ih H ex1 qx1) Hh15 rfl qx1 rfl ((m_aI_12_44 Hh15 rfl c3).2) l3_m1 lr3_m1
        · refine sm_IV (S12_dropHeld Hh15) fun vo24 ho24 Ho24 ro24 => ?_
          exact S12_bind_58 (@fun _ H _ _ ex1 qx1 => ih H ex1 qx1) Ho24 rfl qx1 rfl ((m_aI_12_44 Hh15 rfl c3).2) rfl ro24
theorem S12_bind {h : PH} (H : OKM h) {x1i : Int32} {x1 : Int} (ex1 : x1i = Z3 x1) (qx1 : r3 x1) : SimV OKM (F12_bind h 0 x1i) (G12_bind (rd h) x1) := by
  subst ex1
  unfold F12_bind G12_bind
  refine sm_cd (m_ok_12 H) ?_
  exact S12_bind_0 1024 H rfl qx1
theorem S12_cellRead_0 {h : PH} (H : OKM h) : SimI OKM (F12_cellRead_0 h 0) (G12_cellRead_0 (rd h)) := by
  unfold F12_cellRead_0 G12_cellRead_0
  refine sm_wt (m_pZ_12_24 H l3_1 (by decide)) fun h1 Hh1 => ?_
  refine sm_rd (m_gI_12_18 Hh1).1 ?_
  refine sg3I fun c1 => ?_
  refine sm_II (S12_number Hh1 l3_0 lr3_0 (z3_sub rfl l3_1) c1) fun vo5 ho5 Ho5 ro5 => ?_
  refine sm_if (z3_eq rfl l3_0 ro5 lr3_0) ?_ ?_
  · exact sm_rz Ho5 l3_0 (by decide)
  · refine sm_rd (m_gI_12_11 Ho5).1 ?_
    refine sm_wt (m_pI_12_43 Ho5 rfl (m_gI_12_11 Ho5).2) fun h10 Hh10 => ?_
    refine sm_rd (m_gI_12_19 Hh10).1 ?_
    refine sg3I fun c2 => ?_
    refine sm_II (S12_number Hh10 l3_0 lr3_0 (z3_sub rfl l3_1) c2) fun vo14 ho14 Ho14 ro14 => ?_
    refine sm_if (z3_eq rfl l3_0 ro14 lr3_0) ?_ ?_
    · exact sm_rz Ho14 l3_0 (by decide)
    · exact sm_rz Ho14 l3_1 (by decide)
theorem S12_cellRead {h : PH} (H : OKM h) : SimI OKM (F12_cellRead h 0) (G12_cellRead (rd h)) := by
  unfold F12_cellRead G12_cellRead
  refine sm_cd (m_ok_12 H) ?_
  exact S12_cellRead_0 H
theorem S12_layTried_71 (n : Nat) : ∀ {h : PH} (H : OKM h) {x1i : Int32} {x1 : Int} (ex1 : x1i = Z3 x1) (qx1 : r3 x1), SimV OKM (F12_layTried_71 n h 0 x1i) (G12_layTried_71 n (rd h) x1) := by
  induction n with
  | zero => intros; exact smV_none _
  | succ n ih =>
    intro h H x1i x1 ex1 qx1
    subst ex1
    rw [F12_layTried_71, G12_layTried_71]
    refine sm_if (z3_le l3_28 rfl lr3_28 qx1) ?_ ?_
    · refine sm_rd (m_gR_12_61 H) ?_
      refine sm_rd (m_gR_12_61 H) ?_
      refine sm_rd (m_aI_12_61 H l3_0 ⟨by decide, by decide⟩).1 ?_
      refine sm_wt (m_sI_12_61 H l3_1 ⟨by decide, by decide⟩ rfl (m_aI_12_61 H l3_0 ⟨by decide, by decide⟩).2) fun h9 Hh9 => ?_
      refine sm_rd (m_gR_12_62 Hh9) ?_
      refine sm_wt (m_sI_12_62 Hh9 l3_1 ⟨by decide, by decide⟩ l3_0 lr3_0) fun h13 Hh13 => ?_
      refine sm_rd (m_gR_12_63 Hh13) ?_
      refine sm_wt (m_sI_12_63 Hh13 l3_1 ⟨by decide, by decide⟩ l3_0 lr3_0) fun h17 Hh17 => ?_
      exact sm_retV Hh17
    · refine sm_rd (m_gR_12_60 H) ?_
      refine sm_rd (m_gR_12_60 H) ?_
      refine sgxV fun c1 => ?_
      refine sm_rd (m_aI_12_60 H rfl c1).1 ?_
      refine sgxV fun c2 => ?_
      refine sm_wt (m_sI_12_60 H (z3_add l3_28 rfl) c2 rfl (m_aI_12_60 H rfl c1).2) fun h25 Hh25 => ?_
      refine sg3V fun c3 => ?_
      exact ih Hh25 (z3_add rfl l3_1) c3
theorem S12_layTried_2 (n : Nat) : ∀ {h : PH} (H : OKM h) {x1i : Int32} {x1 : Int} (ex1 : x1i = Z3 x1) (qx1 : r3 x1), SimV OKM (F12_layTried_2 n h 0 x1i) (G12_layTried_2 n (rd h) x1) := by
  induction n with
  | zero => intros; exact smV_none _
  | succ n ih =>
    intro h H x1i x1 ex1 qx1
    subst ex1
    rw [F12_layTried_2, G12_layTried_2]
    refine sm_if (z3_le l3_5 rfl lr3_5 qx1) ?_ ?_
    · exact S12_layTried_71 1024 H l3_0 lr3_0
    · refine sm_rd (m_gR_12_55 H) ?_
      refine sm_rd (m_gR_12_55 H) ?_
      refine sgxV fun c1 => ?_
      refine sm_rd (m_aI_12_55 H rfl c1).1 ?_
      refine sgxV fun c2 => ?_
      refine sm_wt (m_sI_12_55 H (z3_add l3_5 rfl) c2 rfl (m_aI_12_55 H rfl c1).2) fun h9 Hh9 => ?_
      refine sm_rd (m_gR_12_56 Hh9) ?_
      refine sm_rd (m_gR_12_56 Hh9) ?_
      refine sgxV fun c3 => ?_
      refine sm_rd (m_aI_12_56 Hh9 rfl c3).1 ?_
      refine sgxV fun c4 => ?_
      refine sm_wt (m_sI_12_56 Hh9 (z3_add l3_5 rfl) c4 rfl (m_aI_12_56 Hh9 rfl c3).2) fun h17 Hh17 => ?_
      refine sm_rd (m_gR_12_57 Hh17) ?_
      refine sm_rd (m_gR_12_57 Hh17) ?_
      refine sgxV fun c5 => ?_
      refine sm_rd (m_aI_12_57 Hh17 rfl c5).1 ?_
      refine sgxV fun c6 => ?_
      refine sm_wt (m_sI_12_57 Hh17 (z3_add l3_5 rfl) c6 rfl (m_aI_12_57 Hh17 rfl c5).2) fun h25 Hh25 => ?_
      refine sm_rd (m_gR_12_58 Hh25) ?_
      refine sm_rd (m_gR_12_58 Hh25) ?_
      refine sgxV fun c7 => ?_
      refine sm_rd (m_aI_12_58 Hh25 rfl c7).1 ?_
      refine sgxV fun c8 => ?_
      refine sm_wt (m_sI_12_58 Hh25 (z3_add l3_5 rfl) c8 rfl (m_aI_12_58 Hh25 rfl c7).2) fun h33 Hh33 => ?_
      refine sg3V fun c9 => ?_
      exact ih Hh33 (z3_add rfl l3_1) c9
theorem S12_layTried_0 {h : PH} (H : OKM h) : SimV OKM (F12_layTried_0 h 0) (G12_layTried_0 (rd h)) := by
  unfold F12_layTried_0 G12_layTried_0
  exact S12_layTried_2 1024 H l3_0 lr3_0
theorem S12_layTried {h : PH} (H : OKM h) : SimV OKM (F12_layTried h 0) (G12_layTried (rd h)) := by
  unfold F12_layTried G12_layTried
  refine sm_cd (m_ok_12 H) ?_
  exact S12_layTried_0 H
theorem S12_goesOn_0 (n : Nat) : ∀ {h : PH} (H : OKM h) {x1i : Int32} {x1 : Int} (ex1 : x1i = Z3 x1) (qx1 : r3 x1), SimV OKM (F12_goesOn_0 n h 0 x1i) (G12_goesOn_0 n (rd h) x1) := by
  induction n with
  | zero => intros; exact smV_none _
  | succ n ih =>
    intro h H x1i x1 ex1 qx1
    subst ex1
    rw [F12_goesOn_0, G12_goesOn_0]
    refine sm_rd (m_gI_12_16 H).1 ?_
    refine sm_if (z3_le rfl l3_0 (m_gI_12_16 H).2 lr3_0) ?_ ?_
    · exact sm_retV H
    · refine sm_rd (m_gR_12_61 H) ?_
      refine sm_rd (m_aI_12_61 H l3_1 ⟨by decide, by decide⟩).1 ?_
      refine sm_rd (m_gR_12_34 H) ?_
      refine sm_rd (m_gI_12_16 H).1 ?_
      refine sgxV fun c1 => ?_
      refine sm_rd (m_aI_12_34 H (z3_sub rfl l3_1) c1).1 ?_
      refine sm_if (z3_lt rfl rfl (m_aI_12_34 H (z3_sub rfl l3_1) c1).2 (m_aI_12_61 H l3_1 ⟨by decide, by decide⟩).2) ?_ ?_
      · exact sm_retV H
      · refine sm_VV (S12_aMinute H l3_1 lr3_1 rfl qx1) fun ho15 Ho15 => ?_
        exact ih Ho15 rfl qx1
theorem S12_goesOn {h : PH} (H : OKM h) {x1i : Int32} {x1 : Int} (ex1 : x1i = Z3 x1) (qx1 : r3 x1) : SimV OKM (F12_goesOn h 0 x1i) (G12_goesOn (rd h) x1) := by
  subst ex1
  unfold F12_goesOn G12_goesOn
  refine sm_cd (m_ok_12 H) ?_
  exact S12_goesOn_0 1024 H rfl qx1
theorem S12_chance_47 (n : Nat) : ∀ {h : PH} (H : OKM h) {x2i : Int32} {x2 : Int} (ex2 : x2i = Z3 x2) (qx2 : r3 x2) {x3i : Int32} {x3 : Int} (ex3 : x3i = Z3 x3) (qx3 : r3 x3) {j4i : Int64} {j4 : Int} (ej4 : j4i = Z6 j4) (qj4 : r6 j4) {x6i : Int32} {x6 : Int} (ex6 : x6i = Z3 x6) (qx6 : r3 x6) {x7i : Int32} {x7 : Int} (ex7 : x7i = Z3 x7) (qx7 : r3 x7), SimI OKM (F12_chance_47 n h 0 x2i x3i j4i x6i x7i) (G12_chance_47 n (rd h) x2 x3 j4 x6 x7) := by
  induction n with
  | zero => intros; exact smI_none _
  | succ n ih =>
    intro h H x2i x2 ex2 qx2 x3i x3 ex3 qx3 j4i j4 ej4 qj4 x6i x6 ex6 qx6 x7i x7 ex7 qx7
    subst ex2 ex3 ej4 ex6 ex7
    rw [F12_chance_47, G12_chance_47]
    refine sm_if (z3_le l3_10 rfl lr3_10 qx7) ?_ ?_
    · refine sm_wt (m_pJ_12_65 H rfl qj4) fun h2 Hh2 => ?_
      exact sm_retI Hh2 rfl qx6
    · refine sm_VI (S12_layTried H) fun ho4 Ho4 => ?_
      refine sm_rd (m_gI_12_64 Ho4).1 ?_
      refine sm_VI (S12_goesOn Ho4 rfl ((m_gI_12_64 Ho4).2)) fun ho8 Ho8 => ?_
      refine sm_rd (m_gR_12_56 Ho8) ?_
      refine sgxI fun c1 => ?_
      refine sm_rd (m_aI_12_56 Ho8 (z3_add l3_5 rfl) c1).1 ?_
      refine sm_if (z3_lt rfl rfl (m_aI_12_56 Ho8 (z3_add l3_5 rfl) c1).2 qx3) ?_ ?_
      · refine sg3I fun c2 => ?_
        refine sg3I fun c3 => ?_
        exact ih Ho8 rfl qx2 rfl qx3 rfl qj4 (z3_add rfl l3_0) c2 (z3_add rfl l3_1) c3
      · refine sg3I fun c4 => ?_
        refine sg3I fun c5 => ?_
        exact ih Ho8 rfl qx2 rfl qx3 rfl qj4 (z3_add rfl l3_1) c4 (z3_add rfl l3_1) c5
theorem S12_chance_0 {h : PH} (H : OKM h) {x1i : Int32} {x1 : Int} (ex1 : x1i = Z3 x1) (qx1 : r3 x1) {x2i : Int32} {x2 : Int} (ex2 : x2i = Z3 x2) (qx2 : r3 x2) {x3i : Int32} {x3 : Int} (ex3 : x3i = Z3 x3) (qx3 : r3 x3) : SimI OKM (F12_chance_0 h 0 x1i x2i x3i) (G12_chance_0 (rd h) x1 x2 x3) := by
  subst ex1 ex2 ex3
  unfold F12_chance_0 G12_chance_0
  refine sm_wt (m_pI_12_2 H l3_0 lr3_0) fun h1 Hh1 => ?_
  refine sm_if (z3_lt rfl l3_0 qx1 lr3_0) ?_ ?_
  · exact sm_retI Hh1 l3_m1 lr3_m1
  · refine sm_II (S12_isSurfer Hh1 rfl qx2) fun vo4 ho4 Ho4 ro4 => ?_
    refine sm_if (z3_eq rfl l3_0 ro4 lr3_0) ?_ ?_
    · exact sm_retI Ho4 l3_m1 lr3_m1
    · refine sm_II (S12_isIn Ho4 rfl qx3 l3_0 lr3_0 l3_28 lr3_28) fun vo7 ho7 Ho7 ro7 => ?_
      refine sm_if (z3_eq rfl l3_0 ro7 lr3_0) ?_ ?_
      · exact sm_retI Ho7 l3_m1 lr3_m1
      · refine sm_rd (m_gJ_12_65 Ho7).1 ?_
        refine sm_wt (m_pJ_12_65 Ho7 (z3_to6 rfl qx1) (r3_6 qx1)) fun h12 Hh12 => ?_
        exact S12_chance_47 1024 Hh12 rfl qx2 rfl qx3 rfl ((m_gJ_12_65 Ho7).2) l3_0 lr3_0 l3_0 lr3_0
theorem S12_chance {h : PH} (H : OKM h) {x1i : Int32} {x1 : Int} (ex1 : x1i = Z3 x1) (qx1 : r3 x1) {x2i : Int32} {x2 : Int} (ex2 : x2i = Z3 x2) (qx2 : r3 x2) {x3i : Int32} {x3 : Int} (ex3 : x3i = Z3 x3) (qx3 : r3 x3) : SimI OKM (F12_chance h 0 x1i x2i x3i) (G12_chance (rd h) x1 x2 x3) := by
  subst ex1 ex2 ex3
  unfold F12_chance G12_chance
  refine sm_cd (m_ok_12 H) ?_
  exact S12_chance_0 H rfl qx1 rfl qx2 rfl qx3
theorem S12_comesTo_0 {h : PH} (H : OKM h) {x1i : Int32} {x1 : Int} (ex1 : x1i = Z3 x1) (qx1 : r3 x1) {x2i : Int32} {x2 : Int} (ex2 : x2i = Z3 x2) (qx2 : r3 x2) : SimI OKM (F12_comesTo_0 h 0 x1i x2i) (G12_comesTo_0 (rd h) x1 x2) := by
  subst ex1 ex2
  unfold F12_comesTo_0 G12_comesTo_0
  refine sm_if (z3_eq rfl l3_4 qx2 lr3_4) ?_ ?_
  · refine sm_rd (m_gR_12_55 H) ?_
    refine sgxI fun c1 => ?_
    refine sm_rd (m_aI_12_55 H rfl c1).1 ?_
    exact sm_retI H rfl (m_aI_12_55 H rfl c1).2
  · refine sm_rd (m_gR_12_55 H) ?_
    refine sgxI fun c2 => ?_
    refine sm_rd (m_aI_12_55 H rfl c2).1 ?_
    refine sm_II (S12_beside H rfl ((m_aI_12_55 H rfl c2).2) rfl qx2) fun vo6 ho6 Ho6 ro6 => ?_
    exact sm_retI Ho6 rfl ro6
theorem S12_comesTo {h : PH} (H : OKM h) {x1i : Int32} {x1 : Int} (ex1 : x1i = Z3 x1) (qx1 : r3 x1) {x2i : Int32} {x2 : Int} (ex2 : x2i = Z3 x2) (qx2 : r3 x2) : SimI OKM (F12_comesTo h 0 x1i x2i) (G12_comesTo (rd h) x1 x2) := by
  subst ex1 ex2
  unfold F12_comesTo G12_comesTo
  refine sm_cd (m_ok_12 H) ?_
  exact S12_comesTo_0 H rfl qx1 rfl qx2
theorem S12_copies_2 (n : Nat) : ∀ {h : PH} (H : OKM h) {a0 : Nat} (ha0 : AnyM a0) {x1i : Int32} {x1 : Int} (ex1 : x1i = Z3 x1) (qx1 : r3 x1) {x2i : Int32} {x2 : Int} (ex2 : x2i = Z3 x2) (qx2 : r3 x2), SimV OKM (F12_copies_2 n h a0 x1i x2i) (G12_copies_2 n (rd h) a0 x1 x2) := by
  induction n with
  | zero => intros; exact smV_none _
  | succ n ih =>
    intro h H a0 ha0 x1i x1 ex1 qx1 x2i x2 ex2 qx2
    subst ex1 ex2
    rw [F12_copies_2, G12_copies_2]
    refine sm_if (z3_le rfl rfl qx1 qx2) ?_ ?_
    · exact sm_retV H
    · refine sgxV fun c1 => ?_
      refine sm_rd (m_aI_any H ha0 (z3_add rfl rfl) c1).1 ?_
      refine sgxV fun c2 => ?_
      refine sm_wt (m_sI_any H ha0 rfl c2 rfl (m_aI_any H ha0 (z3_add rfl rfl) c1).2) fun h5 Hh5 => ?_
      refine sg3V fun c3 => ?_
      exact ih Hh5 ha0 rfl qx1 (z3_add rfl l3_1) c3
theorem S12_copies_0 {h : PH} (H : OKM h) {a0 : Nat} (ha0 : AnyM a0) {x1i : Int32} {x1 : Int} (ex1 : x1i = Z3 x1) (qx1 : r3 x1) : SimV OKM (F12_copies_0 h a0 x1i) (G12_copies_0 (rd h) a0 x1) := by
  subst ex1
  unfold F12_copies_0 G12_copies_0
  exact S12_copies_2 1024 H ha0 rfl qx1 l3_0 lr3_0
theorem S12_copies {h : PH} (H : OKM h) {a0 : Nat} (ha0 : AnyM a0) {x1i : Int32} {x1 : Int} (ex1 : x1i = Z3 x1) (qx1 : r3 x1) : SimV OKM (F12_copies h a0 x1i) (G12_copies (rd h) a0 x1) := by
  subst ex1
  unfold F12_copies G12_copies
  exact S12_copies_0 H ha0 rfl qx1
theorem S12_firstToCome_2 (n : Nat) : ∀ {h : PH} (H : OKM h) {x1i : Int32} {x1 : Int} (ex1 : x1i = Z3 x1) (qx1 : r3 x1), SimI OKM (F12_firstToCome_2 n h 0 x1i) (G12_firstToCome_2 n (rd h) x1) := by
  induction n with
  | zero => intros; exact smI_none _
  | succ n ih =>
    intro h H x1i x1 ex1 qx1
    subst ex1
    rw [F12_firstToCome_2, G12_firstToCome_2]
    refine sm_rd (m_gI_12_16 H).1 ?_
    refine sm_if (z3_le rfl rfl (m_gI_12_16 H).2 qx1) ?_ ?_
    · exact sm_retI H rfl qx1
    · refine sm_rd (m_gR_12_60 H) ?_
      refine sgxI fun c1 => ?_
      refine sm_rd (m_aI_12_60 H rfl c1).1 ?_
      refine sm_if (z3_eq rfl l3_m2 (m_aI_12_60 H rfl c1).2 lr3_m2) ?_ ?_
      · exact sm_retI H rfl qx1
      · refine sg3I fun c2 => ?_
        exact ih H (z3_add rfl l3_1) c2
theorem S12_firstToCome_0 {h : PH} (H : OKM h) : SimI OKM (F12_firstToCome_0 h 0) (G12_firstToCome_0 (rd h)) := by
  unfold F12_firstToCome_0 G12_firstToCome_0
  exact S12_firstToCome_2 1024 H l3_0 lr3_0
theorem S12_firstToCome {h : PH} (H : OKM h) : SimI OKM (F12_firstToCome h 0) (G12_firstToCome (rd h)) := by
  unfold F12_firstToCome G12_firstToCome
  refine sm_cd (m_ok_12 H) ?_
  exact S12_firstToCome_0 H
theorem S12_knownBy_0 {h : PH} (H : OKM h) : SimI OKM (F12_knownBy_0 h 0) (G12_knownBy_0 (rd h)) := by
  unfold F12_knownBy_0 G12_knownBy_0
  refine sm_rd (m_gI_12_75 H).1 ?_
  refine sm_if (z3_le l3_0 rfl lr3_0 (m_gI_12_75 H).2) ?_ ?_
  · refine sm_rd (m_gI_12_75 H).1 ?_
    exact sm_retI H rfl (m_gI_12_75 H).2
  · refine sm_rd (m_gI_12_74 H).1 ?_
    exact sm_retI H rfl (m_gI_12_74 H).2
theorem S12_knownBy {h : PH} (H : OKM h) : SimI OKM (F12_knownBy h 0) (G12_knownBy (rd h)) := by
  unfold F12_knownBy G12_knownBy
  refine sm_cd (m_ok_12 H) ?_
  exact S12_knownBy_0 H
theorem S12_count_0 {h : PH} (H : OKM h) {x1i : Int32} {x1 : Int} (ex1 : x1i = Z3 x1) (qx1 : r3 x1) : SimI OKM (F12_count_0 h 0 x1i) (G12_count_0 (rd h) x1) := by
  subst ex1
  unfold F12_count_0 G12_count_0
  refine sm_wt (m_pI_12_2 H l3_0 lr3_0) fun h1 Hh1 => ?_
  refine sm_if (z3_eq rfl l3_0 qx1 lr3_0) ?_ ?_
  · refine sm_rd (m_gI_12_12 Hh1).1 ?_
    exact sm_retI Hh1 rfl (m_gI_12_12 Hh1).2
  · refine sm_if (z3_eq rfl l3_1 qx1 lr3_1) ?_ ?_
    · refine sm_rd (m_gI_12_13 Hh1).1 ?_
      exact sm_retI Hh1 rfl (m_gI_12_13 Hh1).2
    · refine sm_if (z3_eq rfl l3_2 qx1 lr3_2) ?_ ?_
      · refine sm_rd (m_gI_12_14 Hh1).1 ?_
        exact sm_retI Hh1 rfl (m_gI_12_14 Hh1).2
      · refine sm_if (z3_eq rfl l3_3 qx1 lr3_3) ?_ ?_
        · refine sm_rd (m_gI_12_15 Hh1).1 ?_
          exact sm_retI Hh1 rfl (m_gI_12_15 Hh1).2
        · refine sm_if (z3_eq rfl l3_4 qx1 lr3_4) ?_ ?_
          · refine sm_rd (m_gI_12_16 Hh1).1 ?_
            exact sm_retI Hh1 rfl (m_gI_12_16 Hh1).2
          · refine sm_if (z3_eq rfl l3_5 qx1 lr3_5) ?_ ?_
            · refine sm_rd (m_gI_12_17 Hh1).1 ?_
              exact sm_retI Hh1 rfl (m_gI_12_17 Hh1).2
            · refine sm_if (z3_eq rfl l3_6 qx1 lr3_6) ?_ ?_
              · refine sm_rd (m_gR_12_61 Hh1) ?_
                refine sm_rd (m_aI_12_61 Hh1 l3_0 ⟨by decide, by decide⟩).1 ?_
                exact sm_retI Hh1 rfl (m_aI_12_61 Hh1 l3_0 ⟨by decide, by decide⟩).2
              · refine sm_if (z3_eq rfl l3_7 qx1 lr3_7) ?_ ?_
                · refine sm_rd (m_gI_12_64 Hh1).1 ?_
                  exact sm_retI Hh1 rfl (m_gI_12_64 Hh1).2
                · refine sm_if (z3_eq rfl l3_8 qx1 lr3_8) ?_ ?_
                  · refine sm_rd (m_gR_12_62 Hh1) ?_
                    refine sm_rd (m_aI_12_62 Hh1 l3_0 ⟨by decide, by decide⟩).1 ?_
                    exact sm_retI Hh1 rfl (m_aI_12_62 Hh1 l3_0 ⟨by decide, by decide⟩).2
                  · refine sm_if (z3_eq rfl l3_9 qx1 lr3_9) ?_ ?_
                    · refine sm_rd (m_gR_12_63 Hh1) ?_
                      refine sm_rd (m_aI_12_63 Hh1 l3_0 ⟨by decide, by decide⟩).1 ?_
                      exact sm_retI Hh1 rfl (m_aI_12_63 Hh1 l3_0 ⟨by decide, by decide⟩).2
                    · refine sm_if (z3_eq rfl l3_10 qx1 lr3_10) ?_ ?_
                      · refine sm_rd (m_gI_12_16 Hh1).1 ?_
                        refine sm_II (S12_firstToCome Hh1) fun vo42 ho42 Ho42 ro42 => ?_
                        refine sg3I fun c1 => ?_
                        exact sm_retI Ho42 (z3_sub rfl rfl) c1
                      · refine sm_if (z3_eq rfl l3_11 qx1 lr3_11) ?_ ?_
                        · refine sm_rd (m_gI_12_74 Hh1).1 ?_
                          exact sm_retI Hh1 rfl (m_gI_12_74 Hh1).2
                        · refine sm_if (z3_eq rfl l3_12 qx1 lr3_12) ?_ ?_
                          · refine sm_II (S12_knownBy Hh1) fun vo48 ho48 Ho48 ro48 => ?_
                            exact sm_retI Ho48 rfl ro48
                          · refine sm_if (z3_eq rfl l3_13 qx1 lr3_13) ?_ ?_
                            · refine sm_rd (m_gI_12_78 Hh1).1 ?_
                              exact sm_retI Hh1 rfl (m_gI_12_78 Hh1).2
                            · exact sm_retI Hh1 l3_m1 lr3_m1
theorem S12_count {h : PH} (H : OKM h) {x1i : Int32} {x1 : Int} (ex1 : x1i = Z3 x1) (qx1 : r3 x1) : SimI OKM (F12_count h 0 x1i) (G12_count (rd h) x1) := by
  subst ex1
  unfold F12_count G12_count
  refine sm_cd (m_ok_12 H) ?_
  exact S12_count_0 H rfl qx1
theorem S12_deeper_0 {h : PH} (H : OKM h) {x1i : Int32} {x1 : Int} (ex1 : x1i = Z3 x1) (qx1 : r3 x1) {x2i : Int32} {x2 : Int} (ex2 : x2i = Z3 x2) (qx2 : r3 x2) : SimI OKM (F12_deeper_0 h 0 x1i x2i) (G12_deeper_0 (rd h) x1 x2) := by
  subst ex1 ex2
  unfold F12_deeper_0 G12_deeper_0
  refine sm_wt (m_pI_12_2 H l3_0 lr3_0) fun h1 Hh1 => ?_
  refine sm_II (S12_isSurfer Hh1 rfl qx1) fun vo3 ho3 Ho3 ro3 => ?_
  refine sm_if (z3_eq rfl l3_0 ro3 lr3_0) ?_ ?_
  · exact sm_retI Ho3 l3_m1 lr3_m1
  · refine sm_II (S12_isSurfer Ho3 rfl qx2) fun vo6 ho6 Ho6 ro6 => ?_
    refine sm_if (z3_eq rfl l3_0 ro6 lr3_0) ?_ ?_
    · exact sm_retI Ho6 l3_m1 lr3_m1
    · refine sm_rd (m_gR_12_61 Ho6) ?_
      refine sm_rd (m_aI_12_61 Ho6 l3_0 ⟨by decide, by decide⟩).1 ?_
      refine sm_II (S12_peakAt Ho6 rfl ((m_aI_12_61 Ho6 l3_0 ⟨by decide, by decide⟩).2)) fun vo13 ho13 Ho13 ro13 => ?_
      refine sm_rd (m_gR_12_55 Ho13) ?_
      refine sgxI fun c1 => ?_
      refine sm_rd (m_aI_12_55 Ho13 rfl c1).1 ?_
      refine sm_II (S12_far Ho13 rfl ((m_aI_12_55 Ho13 rfl c1).2) rfl ro13) fun vo19 ho19 Ho19 ro19 => ?_
      refine sm_rd (m_gR_12_55 Ho19) ?_
      refine sgxI fun c2 => ?_
      refine sm_rd (m_aI_12_55 Ho19 rfl c2).1 ?_
      refine sm_II (S12_far Ho19 rfl ((m_aI_12_55 Ho19 rfl c2).2) rfl ro13) fun vo25 ho25 Ho25 ro25 => ?_
      refine sm_if (z3_le rfl rfl ro25 ro19) ?_ ?_
      · refine sm_if (z3_le rfl rfl ro19 ro25) ?_ ?_
        · exact sm_retI Ho25 l3_0 lr3_0
        · exact sm_retI Ho25 l3_2 lr3_2
      · exact sm_retI Ho25 l3_1 lr3_1
theorem S12_deeper {h : PH} (H : OKM h) {x1i : Int32} {x1 : Int} (ex1 : x1i = Z3 x1) (qx1 : r3 x1) {x2i : Int32} {x2 : Int} (ex2 : x2i = Z3 x2) (qx2 : r3 x2) : SimI OKM (F12_deeper h 0 x1i x2i) (G12_deeper (rd h) x1 x2) := by
  subst ex1 ex2
  unfold F12_deeper G12_deeper
  refine sm_cd (m_ok_12 H) ?_
  exact S12_deeper_0 H rfl qx1 rfl qx2
theorem S12_fails_0 {h : PH} (H : OKM h) {x1i : Int32} {x1 : Int} (ex1 : x1i = Z3 x1) (qx1 : r3 x1) : SimI OKM (F12_fails_0 h 0 x1i) (G12_fails_0 (rd h) x1) := by
  subst ex1
  unfold F12_fails_0 G12_fails_0
  refine sm_wt (m_pI_12_2 H rfl qx1) fun h1 Hh1 => ?_
  exact sm_retI Hh1 l3_0 lr3_0
theorem S12_fails {h : PH} (H : OKM h) {x1i : Int32} {x1 : Int} (ex1 : x1i = Z3 x1) (qx1 : r3 x1) : SimI OKM (F12_fails h 0 x1i) (G12_fails (rd h) x1) := by
  subst ex1
  unfold F12_fails G12_fails
  refine sm_cd (m_ok_12 H) ?_
  exact S12_fails_0 H rfl qx1
theorem S12_run_0 {h : PH} (H : OKM h) {x1i : Int32} {x1 : Int} (ex1 : x1i = Z3 x1) (qx1 : r3 x1) {x2i : Int32} {x2 : Int} (ex2 : x2i = Z3 x2) (qx2 : r3 x2) : SimV OKM (F12_run_0 h 0 x1i x2i) (G12_run_0 (rd h) x1 x2) := by
  subst ex1 ex2
  unfold F12_run_0 G12_run_0
  refine sm_rd (m_gJ_12_65 H).1 ?_
  refine sm_wt (m_pJ_12_65 H (z3_to6 rfl qx2) (r3_6 qx2)) fun h3 Hh3 => ?_
  refine sm_VV (S12_layTried Hh3) fun ho5 Ho5 => ?_
  refine sm_VV (S12_goesOn Ho5 rfl qx1) fun ho7 Ho7 => ?_
  refine sm_wt (m_pJ_12_65 Ho7 rfl (m_gJ_12_65 H).2) fun h9 Hh9 => ?_
  exact sm_retV Hh9
theorem S12_run {h : PH} (H : OKM h) {x1i : Int32} {x1 : Int} (ex1 : x1i = Z3 x1) (qx1 : r3 x1) {x2i : Int32} {x2 : Int} (ex2 : x2i = Z3 x2) (qx2 : r3 x2) : SimV OKM (F12_run h 0 x1i x2i) (G12_run (rd h) x1 x2) := by
  subst ex1 ex2
  unfold F12_run G12_run
  refine sm_cd (m_ok_12 H) ?_
  exact S12_run_0 H rfl qx1 rfl qx2
theorem S12_unlike_47 {k8 : PH → Nat → Int32 → Int32 → Int32 → Int32 → Option (Int32 × PH)} {kk8 : Mem → Int → Int → Int → Int → Option (Int × Mem)} (hk8 : ∀ {h : PH} (_ : OKM h) {x2 : Int32} {y2 : Int} (_ : x2 = Z3 y2) (_ : r3 y2) {x3 : Int32} {y3 : Int} (_ : x3 = Z3 y3) (_ : r3 y3) {x4 : Int32} {y4 : Int} (_ : x4 = Z3 y4) (_ : r3 y4) {x5 : Int32} {y5 : Int} (_ : x5 = Z3 y5) (_ : r3 y5), SimI OKM (k8 h 0 x2 x3 x4 x5) (kk8 (rd h) y2 y3 y4 y5)) {h : PH} (H : OKM h) {x1i : Int32} {x1 : Int} (ex1 : x1i = Z3 x1) (qx1 : r3 x1) {x3i : Int32} {x3 : Int} (ex3 : x3i = Z3 x3) (qx3 : r3 x3) {x4i : Int32} {x4 : Int} (ex4 : x4i = Z3 x4) (qx4 : r3 x4) {s0i : Int32} {s0 : Int} (es0 : s0i = Z3 s0) (qs0 : r3 s0) : SimI OKM (F12_unlike_47 k8 h 0 x1i x3i x4i s0i) (G12_unlike_47 kk8 (rd h) x1 x3 x4 s0) := by
  subst ex1 ex3 ex4 es0
  unfold F12_unlike_47 G12_unlike_47
  refine sm_rd (m_gR_12_56 H) ?_
  refine sgxI fun c1 => ?_
  refine sm_rd (m_aI_12_56 H (z3_add (z3_mul l3_5 rfl) rfl) c1).1 ?_
  refine sm_if (z3_le rfl rfl qx3 (m_aI_12_56 H (z3_add (z3_mul l3_5 rfl) rfl) c1).2) ?_ ?_
  · refine sg3I fun c2 => ?_
    exact hk8 H rfl qx1 rfl qs0 rfl qx3 (z3_add rfl l3_1) c2
  · refine sm_rd (m_gR_12_56 H) ?_
    refine sgxI fun c3 => ?_
    refine sm_rd (m_aI_12_56 H (z3_add (z3_mul l3_5 rfl) rfl) c3).1 ?_
    refine sg3I fun c4 => ?_
    exact hk8 H rfl qx1 rfl qs0 rfl ((m_aI_12_56 H (z3_add (z3_mul l3_5 rfl) rfl) c3).2) (z3_add rfl l3_1) c4
theorem S12_unlike_8 (n : Nat) : ∀ {h : PH} (H : OKM h) {x1i : Int32} {x1 : Int} (ex1 : x1i = Z3 x1) (qx1 : r3 x1) {x2i : Int32} {x2 : Int} (ex2 : x2i = Z3 x2) (qx2 : r3 x2) {x3i : Int32} {x3 : Int} (ex3 : x3i = Z3 x3) (qx3 : r3 x3) {x4i : Int32} {x4 : Int} (ex4 : x4i = Z3 x4) (qx4 : r3 x4), SimI OKM (F12_unlike_8 n h 0 x1i x2i x3i x4i) (G12_unlike_8 n (rd h) x1 x2 x3 x4) := by
  induction n with
  | zero => intros; exact smI_none _
  | succ n ih =>
    intro h H x1i x1 ex1 qx1 x2i x2 ex2 qx2 x3i x3 ex3 qx3 x4i x4 ex4 qx4
    subst ex1 ex2 ex3 ex4
    rw [F12_unlike_8, G12_unlike_8]
    refine sm_rd (m_gI_12_14 H).1 ?_
    refine sm_if (z3_le rfl rfl (m_gI_12_14 H).2 qx4) ?_ ?_
    · refine sm_rd (m_gI_12_14 H).1 ?_
      refine sm_if (z3_eq rfl l3_0 (m_gI_12_14 H).2 lr3_0) ?_ ?_
      · exact sm_retI H l3_0 lr3_0
      · refine sg3I fun c1 => ?_
        exact sm_retI H (z3_sub rfl rfl) c1
    · refine sm_rd (m_gR_12_56 H) ?_
      refine sgxI fun c2 => ?_
      refine sm_rd (m_aI_12_56 H (z3_add (z3_mul l3_5 rfl) rfl) c2).1 ?_
      refine sm_if (z3_le rfl rfl (m_aI_12_56 H (z3_add (z3_mul l3_5 rfl) rfl) c2).2 qx2) ?_ ?_
      · exact S12_unlike_47 (@fun _ H _ _ ex1 qx1 _ _ ex2 qx2 _ _ ex3 qx3 _ _ ex4 qx4 => ih H ex1 qx1 ex2 qx2 ex3 qx3 ex4 qx4) H rfl qx1 rfl qx3 rfl qx4 rfl qx2
      · refine sm_rd (m_gR_12_56 H) ?_
        refine sgxI fun c3 => ?_
        refine sm_rd (m_aI_12_56 H (z3_add (z3_mul l3_5 rfl) rfl) c3).1 ?_
        exact S12_unlike_47 (@fun _ H _ _ ex1 qx1 _ _ ex2 qx2 _ _ ex3 qx3 _ _ ex4 qx4 => ih H ex1 qx1 ex2 qx2 ex3 qx3 ex4 qx4) H rfl qx1 rfl qx3 rfl qx4 rfl ((m_aI_12_56 H (z3_add (z3_mul l3_5 rfl) rfl) c3).2)
theorem S12_unlike_0 {h : PH} (H : OKM h) {x1i : Int32} {x1 : Int} (ex1 : x1i = Z3 x1) (qx1 : r3 x1) : SimI OKM (F12_unlike_0 h 0 x1i) (G12_unlike_0 (rd h) x1) := by
  subst ex1
  unfold F12_unlike_0 G12_unlike_0
  exact S12_unlike_8 1024 H rfl qx1 l3_0 lr3_0 l3_99 lr3_99 l3_0 lr3_0
theorem S12_unlike {h : PH} (H : OKM h) {x1i : Int32} {x1 : Int} (ex1 : x1i = Z3 x1) (qx1 : r3 x1) : SimI OKM (F12_unlike h 0 x1i) (G12_unlike (rd h) x1) := by
  subst ex1
  unfold F12_unlike G12_unlike
  refine sm_cd (m_ok_12 H) ?_
  exact S12_unlike_0 H rfl qx1
theorem S12_fairest_69 {k18 : PH → Nat → Int32 → Int32 → Int32 → Int32 → Option (Int32 × PH)} {kk18 : Mem → Int → Int → Int → Int → Option (Int × Mem)} (hk18 : ∀ {h : PH} (_ : OKM h) {x2 : Int32} {y2 : Int} (_ : x2 = Z3 y2) (_ : r3 y2) {x3 : Int32} {y3 : Int} (_ : x3 = Z3 y3) (_ : r3 y3) {x4 : Int32} {y4 : Int} (_ : x4 = Z3 y4) (_ : r3 y4) {x5 : Int32} {y5 : Int} (_ : x5 = Z3 y5) (_ : r3 y5), SimI OKM (k18 h 0 x2 x3 x4 x5) (kk18 (rd h) y2 y3 y4 y5)) {h : PH} (H : OKM h) {x1i : Int32} {x1 : Int} (ex1 : x1i = Z3 x1) (qx1 : r3 x1) {x4i : Int32} {x4 : Int} (ex4 : x4i = Z3 x4) (qx4 : r3 x4) {x5i : Int32} {x5 : Int} (ex5 : x5i = Z3 x5) (qx5 : r3 x5) : SimI OKM (F12_fairest_69 k18 h 0 x1i x4i x5i) (G12_fairest_69 kk18 (rd h) x1 x4 x5) := by
  subst ex1 ex4 ex5
  unfold F12_fairest_69 G12_fairest_69
  refine sg3I fun c1 => ?_
  exact hk18 H rfl qx1 rfl qx4 rfl qx5 (z3_add rfl l3_1) c1
theorem S12_fairest_18 (n : Nat) : ∀ {h : PH} (H : OKM h) {x1i : Int32} {x1 : Int} (ex1 : x1i = Z3 x1) (qx1 : r3 x1) {x2i : Int32} {x2 : Int} (ex2 : x2i = Z3 x2) (qx2 : r3 x2) {x3i : Int32} {x3 : Int} (ex3 : x3i = Z3 x3) (qx3 : r3 x3) {x4i : Int32} {x4 : Int} (ex4 : x4i = Z3 x4) (qx4 : r3 x4), SimI OKM (F12_fairest_18 n h 0 x1i x2i x3i x4i) (G12_fairest_18 n (rd h) x1 x2 x3 x4) := by
  induction n with
  | zero => intros; exact smI_none _
  | succ n ih =>
    intro h H x1i x1 ex1 qx1 x2i x2 ex2 qx2 x3i x3 ex3 qx3 x4i x4 ex4 qx4
    subst ex1 ex2 ex3 ex4
    rw [F12_fairest_18, G12_fairest_18]
    refine sm_if (z3_le l3_4 rfl lr3_4 qx4) ?_ ?_
    · exact sm_retI H rfl qx2
    · refine sm_VI (S12_run H rfl qx4 rfl qx1) fun ho2 Ho2 => ?_
      refine sm_II (S12_unlike Ho2 l3_1 lr3_1) fun vo4 ho4 Ho4 ro4 => ?_
      refine sm_rd (m_gR_12_62 Ho4) ?_
      refine sm_rd (m_aI_12_62 Ho4 l3_1 ⟨by decide, by decide⟩).1 ?_
      refine sm_rd (m_gR_12_63 Ho4) ?_
      refine sm_rd (m_aI_12_63 Ho4 l3_1 ⟨by decide, by decide⟩).1 ?_
      refine sm_if (z3_lt rfl l3_0 qx2 lr3_0) ?_ ?_
      · refine sg3I fun c1 => ?_
        exact S12_fairest_69 (@fun _ H _ _ ex1 qx1 _ _ ex2 qx2 _ _ ex3 qx3 _ _ ex4 qx4 => ih H ex1 qx1 ex2 qx2 ex3 qx3 ex4 qx4) Ho4 rfl qx1 rfl qx4 (z3_add (z3_add (z3_mul l3_1000 rfl) rfl) rfl) c1
      · refine sg3I fun c2 => ?_
        refine sm_if (z3_lt (z3_add (z3_add (z3_mul l3_1000 rfl) rfl) rfl) rfl c2 qx3) ?_ ?_
        · refine sg3I fun c3 => ?_
          exact S12_fairest_69 (@fun _ H _ _ ex1 qx1 _ _ ex2 qx2 _ _ ex3 qx3 _ _ ex4 qx4 => ih H ex1 qx1 ex2 qx2 ex3 qx3 ex4 qx4) Ho4 rfl qx1 rfl qx4 (z3_add (z3_add (z3_mul l3_1000 rfl) rfl) rfl) c3
        · refine sg3I fun c4 => ?_
          exact ih Ho4 rfl qx1 rfl qx2 rfl qx3 (z3_add rfl l3_1) c4
theorem S12_fairest_0 {h : PH} (H : OKM h) {x1i : Int32} {x1 : Int} (ex1 : x1i = Z3 x1) (qx1 : r3 x1) : SimI OKM (F12_fairest_0 h 0 x1i) (G12_fairest_0 (rd h) x1) := by
  subst ex1
  unfold F12_fairest_0 G12_fairest_0
  refine sm_wt (m_pI_12_2 H l3_0 lr3_0) fun h1 Hh1 => ?_
  refine sm_if (z3_le l3_0 rfl lr3_0 qx1) ?_ ?_
  · exact S12_fairest_18 1024 Hh1 rfl qx1 l3_m1 lr3_m1 l3_0 lr3_0 l3_0 lr3_0
  · exact sm_retI Hh1 l3_m1 lr3_m1
theorem S12_fairest {h : PH} (H : OKM h) {x1i : Int32} {x1 : Int} (ex1 : x1i = Z3 x1) (qx1 : r3 x1) : SimI OKM (F12_fairest h 0 x1i) (G12_fairest (rd h) x1) := by
  subst ex1
  unfold F12_fairest G12_fairest
  refine sm_cd (m_ok_12 H) ?_
  exact S12_fairest_0 H rfl qx1
theorem S12_fault_0 {h : PH} (H : OKM h) {x1i : Int32} {x1 : Int} (ex1 : x1i = Z3 x1) (qx1 : r3 x1) : SimI OKM (F12_fault_0 h 0 x1i) (G12_fault_0 (rd h) x1) := by
  subst ex1
  unfold F12_fault_0 G12_fault_0
  refine sm_wt (m_pI_12_2 H l3_0 lr3_0) fun h1 Hh1 => ?_
  refine sm_if (z3_eq rfl l3_0 qx1 lr3_0) ?_ ?_
  · refine sm_rd (m_gI_12_4 Hh1).1 ?_
    exact sm_retI Hh1 rfl (m_gI_12_4 Hh1).2
  · refine sm_if (z3_eq rfl l3_1 qx1 lr3_1) ?_ ?_
    · refine sm_rd (m_gI_12_5 Hh1).1 ?_
      exact sm_retI Hh1 rfl (m_gI_12_5 Hh1).2
    · exact sm_retI Hh1 l3_m1 lr3_m1
theorem S12_fault {h : PH} (H : OKM h) {x1i : Int32} {x1 : Int} (ex1 : x1i = Z3 x1) (qx1 : r3 x1) : SimI OKM (F12_fault h 0 x1i) (G12_fault (rd h) x1) := by
  subst ex1
  unfold F12_fault G12_fault
  refine sm_cd (m_ok_12 H) ?_
  exact S12_fault_0 H rfl qx1
theorem S12_feed_76 {k23 : PH → Nat → Int32 → Int32 → Int32 → Int32 → Int32 → Int32 → Option (Int32 × PH)} {kk23 : Mem → Int → Int → Int → Int → Int → Int → Option (Int × Mem)} (hk23 : ∀ {h : PH} (_ : OKM h) {x2 : Int32} {y2 : Int} (_ : x2 = Z3 y2) (_ : r3 y2) {x3 : Int32} {y3 : Int} (_ : x3 = Z3 y3) (_ : r3 y3) {x4 : Int32} {y4 : Int} (_ : x4 = Z3 y4) (_ : r3 y4) {x5 : Int32} {y5 : Int} (_ : x5 = Z3 y5) (_ : r3 y5) {x6 : Int32} {y6 : Int} (_ : x6 = Z3 y6) (_ : r3 y6) {x7 : Int32} {y7 : Int} (_ : x7 = Z3 y7) (_ : r3 y7), SimI OKM (k23 h 0 x2 x3 x4 x5 x6 x7) (kk23 (rd h) y2 y3 y4 y5 y6 y7)) {h : PH} (H : OKM h) {x1i : Int32} {x1 : Int} (ex1 : x1i = Z3 x1) (qx1 : r3 x1) {x2i : Int32} {x2 : Int} (ex2 : x2i = Z3 x2) (qx2 : r3 x2) {x3i : Int32} {x3 : Int} (ex3 : x3i = Z3 x3) (qx3 : r3 x3) {x4i : Int32} {x4 : Int} (ex4 : x4i = Z3 x4) (qx4 : r3 x4) {x5i : Int32} {x5 : Int} (ex5 : x5i = Z3 x5) (qx5 : r3 x5) {x6i : Int32} {x6 : Int} (ex6 : x6i = Z3 x6) (qx6 : r3 x6) {s0i : Int32} {s0 : Int} (es0 : s0i = Z3 s0) (qs0 : r3 s0) : SimI OKM (F12_feed_76 k23 h 0 x1i x2i x3i x4i x5i x6i s0i) (G12_feed_76 kk23 (rd h) x1 x2 x3 x4 x5 x6 s0) := by
  subst ex1 ex2 ex3 ex4 ex5 ex6 es0
  unfold F12_feed_76 G12_feed_76
  refine sm_rd (m_gR_12_0 H) ?_
  refine sm_rd (m_gI_12_1 H).1 ?_
  refine sgxI fun c1 => ?_
  refine sgdI fun c2 => ?_
  refine sm_wt (m_sI_12_0 H (z3_add rfl rfl) c1 (z3_an (z3_sr rfl (z3_an (z3_sub l3_24 (z3_mul l3_8 (z3_rem rfl l3_4 qx6 lr3_4 c2))) l3_31)) l3_255) (r3_of _)) fun h6 Hh6 => ?_
  refine sg3I fun c3 => ?_
  exact hk23 Hh6 rfl qx1 rfl qx2 rfl qx3 rfl qx4 rfl qx5 (z3_add rfl l3_1) c3
theorem S12_feed_23 (n : Nat) : ∀ {h : PH} (H : OKM h) {x1i : Int32} {x1 : Int} (ex1 : x1i = Z3 x1) (qx1 : r3 x1) {x2i : Int32} {x2 : Int} (ex2 : x2i = Z3 x2) (qx2 : r3 x2) {x3i : Int32} {x3 : Int} (ex3 : x3i = Z3 x3) (qx3 : r3 x3) {x4i : Int32} {x4 : Int} (ex4 : x4i = Z3 x4) (qx4 : r3 x4) {x5i : Int32} {x5 : Int} (ex5 : x5i = Z3 x5) (qx5 : r3 x5) {x6i : Int32} {x6 : Int} (ex6 : x6i = Z3 x6) (qx6 : r3 x6), SimI OKM (F12_feed_23 n h 0 x1i x2i x3i x4i x5i x6i) (G12_feed_23 n (rd h) x1 x2 x3 x4 x5 x6) := by
  induction n with
  | zero => intros; exact smI_none _
  | succ n ih =>
    intro h H x1i x1 ex1 qx1 x2i x2 ex2 qx2 x3i x3 ex3 qx3 x4i x4 ex4 qx4 x5i x5 ex5 qx5 x6i x6 ex6 qx6
    subst ex1 ex2 ex3 ex4 ex5 ex6
    rw [F12_feed_23, G12_feed_23]
    refine sm_if (z3_le l3_20 rfl lr3_20 qx6) ?_ ?_
    · refine sm_rd (m_gI_12_1 H).1 ?_
      refine sg3I fun c1 => ?_
      refine sm_wt (m_pI_12_1 H (z3_add rfl l3_20) c1) fun h4 Hh4 => ?_
      refine sm_rd (m_gI_12_1 Hh4).1 ?_
      exact sm_retI Hh4 rfl (m_gI_12_1 Hh4).2
    · refine sm_if (z3_le l3_4 rfl lr3_4 qx6) ?_ ?_
      · refine sm_if (z3_le l3_8 rfl lr3_8 qx6) ?_ ?_
        · refine sm_if (z3_le l3_12 rfl lr3_12 qx6) ?_ ?_
          · refine sm_if (z3_le l3_16 rfl lr3_16 qx6) ?_ ?_
            · exact S12_feed_76 (@fun _ H _ _ ex1 qx1 _ _ ex2 qx2 _ _ ex3 qx3 _ _ ex4 qx4 _ _ ex5 qx5 _ _ ex6 qx6 => ih H ex1 qx1 ex2 qx2 ex3 qx3 ex4 qx4 ex5 qx5 ex6 qx6) H rfl qx1 rfl qx2 rfl qx3 rfl qx4 rfl qx5 rfl qx6 rfl qx5
            · exact S12_feed_76 (@fun _ H _ _ ex1 qx1 _ _ ex2 qx2 _ _ ex3 qx3 _ _ ex4 qx4 _ _ ex5 qx5 _ _ ex6 qx6 => ih H ex1 qx1 ex2 qx2 ex3 qx3 ex4 qx4 ex5 qx5 ex6 qx6) H rfl qx1 rfl qx2 rfl qx3 rfl qx4 rfl qx5 rfl qx6 rfl qx4
          · exact S12_feed_76 (@fun _ H _ _ ex1 qx1 _ _ ex2 qx2 _ _ ex3 qx3 _ _ ex4 qx4 _ _ ex5 qx5 _ _ ex6 qx6 => ih H ex1 qx1 ex2 qx2 ex3 qx3 ex4 qx4 ex5 qx5 ex6 qx6) H rfl qx1 rfl qx2 rfl qx3 rfl qx4 rfl qx5 rfl qx6 rfl qx3
        · exact S12_feed_76 (@fun _ H _ _ ex1 qx1 _ _ ex2 qx2 _ _ ex3 qx3 _ _ ex4 qx4 _ _ ex5 qx5 _ _ ex6 qx6 => ih H ex1 qx1 ex2 qx2 ex3 qx3 ex4 qx4 ex5 qx5 ex6 qx6) H rfl qx1 rfl qx2 rfl qx3 rfl qx4 rfl qx5 rfl qx6 rfl qx2
      · exact S12_feed_76 (@fun _ H _ _ ex1 qx1 _ _ ex2 qx2 _ _ ex3 qx3 _ _ ex4 qx4 _ _ ex5 qx5 _ _ ex6 qx6 => ih H ex1 qx1 ex2 qx2 ex3 qx3 ex4 qx4 ex5 qx5 ex6 qx6) H rfl qx1 rfl qx2 rfl qx3 rfl qx4 rfl qx5 rfl qx6 rfl qx1
theorem S12_feed_0 {h : PH} (H : OKM h) {x1i : Int32} {x1 : Int} (ex1 : x1i = Z3 x1) (qx1 : r3 x1) {x2i : Int32} {x2 : Int} (ex2 : x2i = Z3 x2) (qx2 : r3 x2) {x3i : Int32} {x3 : Int} (ex3 : x3i = Z3 x3) (qx3 : r3 x3) {x4i : Int32} {x4 : Int} (ex4 : x4i = Z3 x4) (qx4 : r3 x4) {x5i : Int32} {x5 : Int} (ex5 : x5i = Z3 x5) (qx5 : r3 x5) : SimI OKM (F12_feed_0 h 0 x1i x2i x3i x4i x5i) (G12_feed_0 (rd h) x1 x2 x3 x4 x5) := by
  subst ex1 ex2 ex3 ex4 ex5
  unfold F12_feed_0 G12_feed_0
  refine sm_wt (m_pI_12_2 H l3_0 lr3_0) fun h1 Hh1 => ?_
  refine sm_rd (m_gI_12_1 Hh1).1 ?_
  refine sg3I fun c1 => ?_
  refine sm_if (z3_le (z3_add rfl l3_20) l3_700 c1 lr3_700) ?_ ?_
  · exact S12_feed_23 1024 Hh1 rfl qx1 rfl qx2 rfl qx3 rfl qx4 rfl qx5 l3_0 lr3_0
  · exact sm_retI Hh1 l3_m1 lr3_m1
theorem S12_feed {h : PH} (H : OKM h) {x1i : Int32} {x1 : Int} (ex1 : x1i = Z3 x1) (qx1 : r3 x1) {x2i : Int32} {x2 : Int} (ex2 : x2i = Z3 x2) (qx2 : r3 x2) {x3i : Int32} {x3 : Int} (ex3 : x3i = Z3 x3) (qx3 : r3 x3) {x4i : Int32} {x4 : Int} (ex4 : x4i = Z3 x4) (qx4 : r3 x4) {x5i : Int32} {x5 : Int} (ex5 : x5i = Z3 x5) (qx5 : r3 x5) : SimI OKM (F12_feed h 0 x1i x2i x3i x4i x5i) (G12_feed (rd h) x1 x2 x3 x4 x5) := by
  subst ex1 ex2 ex3 ex4 ex5
  unfold F12_feed G12_feed
  refine sm_cd (m_ok_12 H) ?_
  exact S12_feed_0 H rfl qx1 rfl qx2 rfl qx3 rfl qx4 rfl qx5
theorem S12_find_3 (n : Nat) : ∀ {h : PH} (H : OKM h) {x1i : Int32} {x1 : Int} (ex1 : x1i = Z3 x1) (qx1 : r3 x1) {x2i : Int32} {x2 : Int} (ex2 : x2i = Z3 x2) (qx2 : r3 x2) {x3i : Int32} {x3 : Int} (ex3 : x3i = Z3 x3) (qx3 : r3 x3) {x4i : Int32} {x4 : Int} (ex4 : x4i = Z3 x4) (qx4 : r3 x4), SimI OKM (F12_find_3 n h 5 x1i x2i x3i x4i) (G12_find_3 n (rd h) x1 x2 x3 x4) := by
  induction n with
  | zero => intros; exact smI_none _
  | succ n ih =>
    intro h H x1i x1 ex1 qx1 x2i x2 ex2 qx2 x3i x3 ex3 qx3 x4i x4 ex4 qx4
    subst ex1 ex2 ex3 ex4
    rw [F12_find_3, G12_find_3]
    refine sm_if (z3_le rfl rfl qx2 qx4) ?_ ?_
    · exact sm_retI H l3_m1 lr3_m1
    · refine sgxI fun c1 => ?_
      refine sm_rd (m_aI_12_27 H (z3_add rfl rfl) c1).1 ?_
      refine sm_if (z3_eq rfl rfl (m_aI_12_27 H (z3_add rfl rfl) c1).2 qx3) ?_ ?_
      · exact sm_retI H rfl qx4
      · refine sg3I fun c2 => ?_
        exact ih H rfl qx1 rfl qx2 rfl qx3 (z3_add rfl l3_1) c2
theorem S12_find_0 {h : PH} (H : OKM h) {x1i : Int32} {x1 : Int} (ex1 : x1i = Z3 x1) (qx1 : r3 x1) {x2i : Int32} {x2 : Int} (ex2 : x2i = Z3 x2) (qx2 : r3 x2) {x3i : Int32} {x3 : Int} (ex3 : x3i = Z3 x3) (qx3 : r3 x3) : SimI OKM (F12_find_0 h 5 x1i x2i x3i) (G12_find_0 (rd h) x1 x2 x3) := by
  subst ex1 ex2 ex3
  unfold F12_find_0 G12_find_0
  exact S12_find_3 1024 H rfl qx1 rfl qx2 rfl qx3 l3_0 lr3_0
theorem S12_find {h : PH} (H : OKM h) {x1i : Int32} {x1 : Int} (ex1 : x1i = Z3 x1) (qx1 : r3 x1) {x2i : Int32} {x2 : Int} (ex2 : x2i = Z3 x2) (qx2 : r3 x2) {x3i : Int32} {x3 : Int} (ex3 : x3i = Z3 x3) (qx3 : r3 x3) : SimI OKM (F12_find h 5 x1i x2i x3i) (G12_find (rd h) x1 x2 x3) := by
  subst ex1 ex2 ex3
  unfold F12_find G12_find
  exact S12_find_0 H rfl qx1 rfl qx2 rfl qx3
theorem S12_gaps_31 (n : Nat) : ∀ {h : PH} (H : OKM h) {x1i : Int32} {x1 : Int} (ex1 : x1i = Z3 x1) (qx1 : r3 x1) {x2i : Int32} {x2 : Int} (ex2 : x2i = Z3 x2) (qx2 : r3 x2) {x3i : Int32} {x3 : Int} (ex3 : x3i = Z3 x3) (qx3 : r3 x3) {x4i : Int32} {x4 : Int} (ex4 : x4i = Z3 x4) (qx4 : r3 x4), SimI OKM (F12_gaps_31 n h 0 x1i x2i x3i x4i) (G12_gaps_31 n (rd h) x1 x2 x3 x4) := by
  induction n with
  | zero => intros; exact smI_none _
  | succ n ih =>
    intro h H x1i x1 ex1 qx1 x2i x2 ex2 qx2 x3i x3 ex3 qx3 x4i x4 ex4 qx4
    subst ex1 ex2 ex3 ex4
    rw [F12_gaps_31, G12_gaps_31]
    refine sm_rd (m_gI_12_15 H).1 ?_
    refine sm_if (z3_le rfl rfl (m_gI_12_15 H).2 qx4) ?_ ?_
    · refine sm_if (z3_eq rfl l3_0 qx2 lr3_0) ?_ ?_
      · exact sm_retI H rfl qx3
      · refine sm_rd (m_gI_12_15 H).1 ?_
        refine sm_if (z3_le l3_2 rfl lr3_2 (m_gI_12_15 H).2) ?_ ?_
        · refine sm_rd (m_gI_12_15 H).1 ?_
          refine sg3I fun c1 => ?_
          exact sm_retI H (z3_sub rfl l3_1) c1
        · exact sm_retI H l3_0 lr3_0
    · refine sm_rd (m_gR_12_34 H) ?_
      refine sm_rd (m_gR_12_33 H) ?_
      refine sgxI fun c2 => ?_
      refine sm_rd (m_aI_12_33 H rfl c2).1 ?_
      refine sgxI fun c3 => ?_
      refine sm_rd (m_aI_12_34 H rfl c3).1 ?_
      refine sm_rd (m_gR_12_34 H) ?_
      refine sm_rd (m_gR_12_33 H) ?_
      refine sgxI fun c4 => ?_
      refine sm_rd (m_aI_12_33 H rfl c4).1 ?_
      refine sgxI fun c5 => ?_
      refine sm_rd (m_aI_12_34 H (z3_sub rfl l3_1) c5).1 ?_
      refine sg3I fun c6 => ?_
      refine sm_if (z3_lt rfl (z3_sub rfl rfl) qx1 c6) ?_ ?_
      · refine sg3I fun c7 => ?_
        refine sg3I fun c8 => ?_
        exact ih H rfl qx1 rfl qx2 (z3_add rfl l3_0) c7 (z3_add rfl l3_1) c8
      · refine sg3I fun c9 => ?_
        refine sg3I fun c10 => ?_
        exact ih H rfl qx1 rfl qx2 (z3_add rfl l3_1) c9 (z3_add rfl l3_1) c10
theorem S12_gaps_0 {h : PH} (H : OKM h) {x1i : Int32} {x1 : Int} (ex1 : x1i = Z3 x1) (qx1 : r3 x1) {x2i : Int32} {x2 : Int} (ex2 : x2i = Z3 x2) (qx2 : r3 x2) : SimI OKM (F12_gaps_0 h 0 x1i x2i) (G12_gaps_0 (rd h) x1 x2) := by
  subst ex1 ex2
  unfold F12_gaps_0 G12_gaps_0
  refine sm_wt (m_pI_12_2 H l3_0 lr3_0) fun h1 Hh1 => ?_
  refine sm_II (S12_isIn Hh1 rfl qx1 l3_0 lr3_0 l3_99 lr3_99) fun vo3 ho3 Ho3 ro3 => ?_
  refine sm_if (z3_eq rfl l3_0 ro3 lr3_0) ?_ ?_
  · exact sm_retI Ho3 l3_m1 lr3_m1
  · refine sm_II (S12_isIn Ho3 rfl qx2 l3_0 lr3_0 l3_1 lr3_1) fun vo6 ho6 Ho6 ro6 => ?_
    refine sm_if (z3_eq rfl l3_0 ro6 lr3_0) ?_ ?_
    · exact sm_retI Ho6 l3_m1 lr3_m1
    · exact S12_gaps_31 1024 Ho6 rfl qx1 rfl qx2 l3_0 lr3_0 l3_1 lr3_1
theorem S12_gaps {h : PH} (H : OKM h) {x1i : Int32} {x1 : Int} (ex1 : x1i = Z3 x1) (qx1 : r3 x1) {x2i : Int32} {x2 : Int} (ex2 : x2i = Z3 x2) (qx2 : r3 x2) : SimI OKM (F12_gaps h 0 x1i x2i) (G12_gaps (rd h) x1 x2) := by
  subst ex1 ex2
  unfold F12_gaps G12_gaps
  refine sm_cd (m_ok_12 H) ?_
  exact S12_gaps_0 H rfl qx1 rfl qx2
theorem S12_give_0 {h : PH} (H : OKM h) {x1i : Int32} {x1 : Int} (ex1 : x1i = Z3 x1) (qx1 : r3 x1) {x2i : Int32} {x2 : Int} (ex2 : x2i = Z3 x2) (qx2 : r3 x2) {x3i : Int32} {x3 : Int} (ex3 : x3i = Z3 x3) (qx3 : r3 x3) : SimI OKM (F12_give_0 h 0 x1i x2i x3i) (G12_give_0 (rd h) x1 x2 x3) := by
  subst ex1 ex2 ex3
  unfold F12_give_0 G12_give_0
  refine sm_wt (m_pI_12_2 H l3_0 lr3_0) fun h1 Hh1 => ?_
  refine sm_II (S12_isSurfer Hh1 rfl qx1) fun vo3 ho3 Ho3 ro3 => ?_
  refine sm_if (z3_eq rfl l3_0 ro3 lr3_0) ?_ ?_
  · exact sm_retI Ho3 l3_m1 lr3_m1
  · refine sm_II (S12_isSurfer Ho3 rfl qx2) fun vo6 ho6 Ho6 ro6 => ?_
    refine sm_if (z3_eq rfl l3_0 ro6 lr3_0) ?_ ?_
    · exact sm_retI Ho6 l3_m1 lr3_m1
    · refine sm_if (z3_eq rfl rfl qx1 qx2) ?_ ?_
      · exact sm_retI Ho6 l3_m1 lr3_m1
      · refine sm_II (S12_isIn Ho6 rfl qx3 l3_0 lr3_0 l3_99 lr3_99) fun vo10 ho10 Ho10 ro10 => ?_
        refine sm_if (z3_eq rfl l3_0 ro10 lr3_0) ?_ ?_
        · exact sm_retI Ho10 l3_m1 lr3_m1
        · refine sm_rd (m_gR_12_32 Ho10) ?_
          refine sgxI fun c1 => ?_
          refine sm_rd (m_aI_12_32 Ho10 rfl c1).1 ?_
          refine sg3I fun c2 => ?_
          refine sm_if (z3_le (z3_mul rfl rfl) l3_100 c2 lr3_100) ?_ ?_
          · exact sm_retI Ho10 l3_0 lr3_0
          · exact sm_retI Ho10 l3_1 lr3_1
theorem S12_give {h : PH} (H : OKM h) {x1i : Int32} {x1 : Int} (ex1 : x1i = Z3 x1) (qx1 : r3 x1) {x2i : Int32} {x2 : Int} (ex2 : x2i = Z3 x2) (qx2 : r3 x2) {x3i : Int32} {x3 : Int} (ex3 : x3i = Z3 x3) (qx3 : r3 x3) : SimI OKM (F12_give h 0 x1i x2i x3i) (G12_give (rd h) x1 x2 x3) := by
  subst ex1 ex2 ex3
  unfold F12_give G12_give
  refine sm_cd (m_ok_12 H) ?_
  exact S12_give_0 H rfl qx1 rfl qx2 rfl qx3
theorem S12_isWave_0 {h : PH} (H : OKM h) {x1i : Int32} {x1 : Int} (ex1 : x1i = Z3 x1) (qx1 : r3 x1) : SimI OKM (F12_isWave_0 h 0 x1i) (G12_isWave_0 (rd h) x1) := by
  subst ex1
  unfold F12_isWave_0 G12_isWave_0
  refine sm_if (z3_lt rfl l3_0 qx1 lr3_0) ?_ ?_
  · exact sm_rz H l3_0 (by decide)
  · refine sm_rd (m_gI_12_16 H).1 ?_
    refine sm_if (z3_le rfl rfl (m_gI_12_16 H).2 qx1) ?_ ?_
    · exact sm_rz H l3_0 (by decide)
    · exact sm_rz H l3_1 (by decide)
theorem S12_isWave {h : PH} (H : OKM h) {x1i : Int32} {x1 : Int} (ex1 : x1i = Z3 x1) (qx1 : r3 x1) : SimI OKM (F12_isWave h 0 x1i) (G12_isWave (rd h) x1) := by
  subst ex1
  unfold F12_isWave G12_isWave
  refine sm_cd (m_ok_12 H) ?_
  exact S12_isWave_0 H rfl qx1
theorem S12_isToCome_0 {h : PH} (H : OKM h) {x1i : Int32} {x1 : Int} (ex1 : x1i = Z3 x1) (qx1 : r3 x1) : SimI OKM (F12_isToCome_0 h 0 x1i) (G12_isToCome_0 (rd h) x1) := by
  subst ex1
  unfold F12_isToCome_0 G12_isToCome_0
  refine sm_II (S12_isWave H rfl qx1) fun vo1 ho1 Ho1 ro1 => ?_
  refine sm_if (z3_eq rfl l3_0 ro1 lr3_0) ?_ ?_
  · exact sm_rz Ho1 l3_0 (by decide)
  · refine sm_rd (m_gR_12_60 Ho1) ?_
    refine sgxI fun c1 => ?_
    refine sm_rd (m_aI_12_60 Ho1 rfl c1).1 ?_
    refine sm_if (z3_eq rfl l3_m2 (m_aI_12_60 Ho1 rfl c1).2 lr3_m2) ?_ ?_
    · exact sm_rz Ho1 l3_1 (by decide)
    · exact sm_rz Ho1 l3_0 (by decide)
theorem S12_isToCome {h : PH} (H : OKM h) {x1i : Int32} {x1 : Int} (ex1 : x1i = Z3 x1) (qx1 : r3 x1) : SimI OKM (F12_isToCome h 0 x1i) (G12_isToCome (rd h) x1) := by
  subst ex1
  unfold F12_isToCome G12_isToCome
  refine sm_cd (m_ok_12 H) ?_
  exact S12_isToCome_0 H rfl qx1
theorem S12_go_107 {k54 : PH → Nat → Int32 → Int32 → Int32 → Int32 → Int32 → Int32 → Option (Int32 × PH)} {kk54 : Mem → Int → Int → Int → Int → Int → Int → Option (Int × Mem)} (hk54 : ∀ {h : PH} (_ : OKM h) {x2 : Int32} {y2 : Int} (_ : x2 = Z3 y2) (_ : r3 y2) {x3 : Int32} {y3 : Int} (_ : x3 = Z3 y3) (_ : r3 y3) {x4 : Int32} {y4 : Int} (_ : x4 = Z3 y4) (_ : r3 y4) {x5 : Int32} {y5 : Int} (_ : x5 = Z3 y5) (_ : r3 y5) {x6 : Int32} {y6 : Int} (_ : x6 = Z3 y6) (_ : r3 y6) {x7 : Int32} {y7 : Int} (_ : x7 = Z3 y7) (_ : r3 y7), SimI OKM (k54 h 0 x2 x3 x4 x5 x6 x7) (kk54 (rd h) y2 y3 y4 y5 y6 y7)) {h : PH} (H : OKM h) {x1i : Int32} {x1 : Int} (ex1 : x1i = Z3 x1) (qx1 : r3 x1) {x2i : Int32} {x2 : Int} (ex2 : x2i = Z3 x2) (qx2 : r3 x2) {x3i : Int32} {x3 : Int} (ex3 : x3i = Z3 x3) (qx3 : r3 x3) {x4i : Int32} {x4 : Int} (ex4 : x4i = Z3 x4) (qx4 : r3 x4) {x6i : Int32} {x6 : Int} (ex6 : x6i = Z3 x6) (qx6 : r3 x6) : SimI OKM (F12_go_107 k54 h 0 x1i x2i x3i x4i x6i) (G12_go_107 kk54 (rd h) x1 x2 x3 x4 x6) := by
  subst ex1 ex2 ex3 ex4 ex6
  unfold F12_go_107 G12_go_107
  refine sg3I fun c1 => ?_
  exact hk54 H rfl qx1 rfl qx2 rfl qx3 rfl qx4 l3_1 lr3_1 (z3_add rfl l3_1) c1
theorem S12_go_91 {k54 : PH → Nat → Int32 → Int32 → Int32 → Int32 → Int32 → Int32 → Option (Int32 × PH)} {kk54 : Mem → Int → Int → Int → Int → Int → Int → Option (Int × Mem)} (hk54 : ∀ {h : PH} (_ : OKM h) {x2 : Int32} {y2 : Int} (_ : x2 = Z3 y2) (_ : r3 y2) {x3 : Int32} {y3 : Int} (_ : x3 = Z3 y3) (_ : r3 y3) {x4 : Int32} {y4 : Int} (_ : x4 = Z3 y4) (_ : r3 y4) {x5 : Int32} {y5 : Int} (_ : x5 = Z3 y5) (_ : r3 y5) {x6 : Int32} {y6 : Int} (_ : x6 = Z3 y6) (_ : r3 y6) {x7 : Int32} {y7 : Int} (_ : x7 = Z3 y7) (_ : r3 y7), SimI OKM (k54 h 0 x2 x3 x4 x5 x6 x7) (kk54 (rd h) y2 y3 y4 y5 y6 y7)) {h : PH} (H : OKM h) {x1i : Int32} {x1 : Int} (ex1 : x1i = Z3 x1) (qx1 : r3 x1) {x2i : Int32} {x2 : Int} (ex2 : x2i = Z3 x2) (qx2 : r3 x2) {x3i : Int32} {x3 : Int} (ex3 : x3i = Z3 x3) (qx3 : r3 x3) {x4i : Int32} {x4 : Int} (ex4 : x4i = Z3 x4) (qx4 : r3 x4) {x5i : Int32} {x5 : Int} (ex5 : x5i = Z3 x5) (qx5 : r3 x5) {x6i : Int32} {x6 : Int} (ex6 : x6i = Z3 x6) (qx6 : r3 x6) : SimI OKM (F12_go_91 k54 h 0 x1i x2i x3i x4i x5i x6i) (G12_go_91 kk54 (rd h) x1 x2 x3 x4 x5 x6) := by
  subst ex1 ex2 ex3 ex4 ex5 ex6
  unfold F12_go_91 G12_go_91
  refine sm_if (z3_eq rfl l3_0 qx5 lr3_0) ?_ ?_
  · refine sm_rd (m_gR_12_68 H) ?_
    refine sgxI fun c1 => ?_
    refine sm_rd (m_aI_12_68 H rfl c1).1 ?_
    refine sm_if (z3_eq rfl rfl (m_aI_12_68 H rfl c1).2 qx1) ?_ ?_
    · exact S12_go_107 hk54 H rfl qx1 rfl qx2 rfl qx3 rfl qx4 rfl qx6
    · refine sg3I fun c2 => ?_
      exact hk54 H rfl qx1 rfl qx2 rfl qx3 rfl qx4 l3_0 lr3_0 (z3_add rfl l3_1) c2
  · exact S12_go_107 hk54 H rfl qx1 rfl qx2 rfl qx3 rfl qx4 rfl qx6
theorem S12_go_54 (n : Nat) : ∀ {h : PH} (H : OKM h) {x1i : Int32} {x1 : Int} (ex1 : x1i = Z3 x1) (qx1 : r3 x1) {x2i : Int32} {x2 : Int} (ex2 : x2i = Z3 x2) (qx2 : r3 x2) {x3i : Int32} {x3 : Int} (ex3 : x3i = Z3 x3) (qx3 : r3 x3) {x4i : Int32} {x4 : Int} (ex4 : x4i = Z3 x4) (qx4 : r3 x4) {x5i : Int32} {x5 : Int} (ex5 : x5i = Z3 x5) (qx5 : r3 x5) {x6i : Int32} {x6 : Int} (ex6 : x6i = Z3 x6) (qx6 : r3 x6), SimI OKM (F12_go_54 n h 0 x1i x2i x3i x4i x5i x6i) (G12_go_54 n (rd h) x1 x2 x3 x4 x5 x6) := by
  induction n with
  | zero => intros; exact smI_none _
  | succ n ih =>
    intro h H x1i x1 ex1 qx1 x2i x2 ex2 qx2 x3i x3 ex3 qx3 x4i x4 ex4 qx4 x5i x5 ex5 qx5 x6i x6 ex6 qx6
    subst ex1 ex2 ex3 ex4 ex5 ex6
    rw [F12_go_54, G12_go_54]
    refine sm_rd (m_gI_12_69 H).1 ?_
    refine sm_if (z3_le rfl rfl (m_gI_12_69 H).2 qx6) ?_ ?_
    · refine sm_rd (m_gR_12_55 H) ?_
      refine sgxI fun c1 => ?_
      refine sm_rd (m_aI_12_55 H rfl c1).1 ?_
      refine sm_II (S12_gainOf H rfl qx1 rfl qx2 rfl ((m_aI_12_55 H rfl c1).2)) fun vo8 ho8 Ho8 ro8 => ?_
      refine sg3I fun c2 => ?_
      refine sm_if (z3_le rfl (z3_mul rfl (z3_sub l3_100 rfl)) ro8 c2) ?_ ?_
      · exact sm_retI Ho8 l3_0 lr3_0
      · exact sm_retI Ho8 l3_1 lr3_1
    · refine sm_if (z3_eq rfl l3_0 qx5 lr3_0) ?_ ?_
      · exact S12_go_91 (@fun _ H _ _ ex1 qx1 _ _ ex2 qx2 _ _ ex3 qx3 _ _ ex4 qx4 _ _ ex5 qx5 _ _ ex6 qx6 => ih H ex1 qx1 ex2 qx2 ex3 qx3 ex4 qx4 ex5 qx5 ex6 qx6) H rfl qx1 rfl qx2 rfl qx3 rfl qx4 rfl qx5 rfl qx6
      · refine sm_rd (m_gR_12_31 H) ?_
        refine sm_rd (m_gR_12_68 H) ?_
        refine sgxI fun c3 => ?_
        refine sm_rd (m_aI_12_68 H rfl c3).1 ?_
        refine sgxI fun c4 => ?_
        refine sm_rd (m_aI_12_31 H rfl c4).1 ?_
        refine sg3I fun c5 => ?_
        refine sgdI fun c6 => ?_
        exact S12_go_91 (@fun _ H _ _ ex1 qx1 _ _ ex2 qx2 _ _ ex3 qx3 _ _ ex4 qx4 _ _ ex5 qx5 _ _ ex6 qx6 => ih H ex1 qx1 ex2 qx2 ex3 qx3 ex4 qx4 ex5 qx5 ex6 qx6) H rfl qx1 rfl qx2 rfl qx3 (z3_div (z3_mul rfl (z3_sub l3_100 rfl)) l3_100 c5 lr3_100 c6) (r3_div c5 lr3_100 c6) rfl qx5 rfl qx6
theorem S12_go_0 {h : PH} (H : OKM h) {x1i : Int32} {x1 : Int} (ex1 : x1i = Z3 x1) (qx1 : r3 x1) {x2i : Int32} {x2 : Int} (ex2 : x2i = Z3 x2) (qx2 : r3 x2) {x3i : Int32} {x3 : Int} (ex3 : x3i = Z3 x3) (qx3 : r3 x3) : SimI OKM (F12_go_0 h 0 x1i x2i x3i) (G12_go_0 (rd h) x1 x2 x3) := by
  subst ex1 ex2 ex3
  unfold F12_go_0 G12_go_0
  refine sm_wt (m_pI_12_2 H l3_0 lr3_0) fun h1 Hh1 => ?_
  refine sm_II (S12_isSurfer Hh1 rfl qx1) fun vo3 ho3 Ho3 ro3 => ?_
  refine sm_if (z3_eq rfl l3_0 ro3 lr3_0) ?_ ?_
  · exact sm_retI Ho3 l3_m1 lr3_m1
  · refine sm_II (S12_isToCome Ho3 rfl qx2) fun vo6 ho6 Ho6 ro6 => ?_
    refine sm_if (z3_eq rfl l3_0 ro6 lr3_0) ?_ ?_
    · exact sm_retI Ho6 l3_m1 lr3_m1
    · refine sm_II (S12_isIn Ho6 rfl qx3 l3_0 lr3_0 l3_999 lr3_999) fun vo9 ho9 Ho9 ro9 => ?_
      refine sm_if (z3_eq rfl l3_0 ro9 lr3_0) ?_ ?_
      · exact sm_retI Ho9 l3_m1 lr3_m1
      · refine sm_rd (m_gI_12_64 Ho9).1 ?_
        refine sm_VI (S12_layOrder Ho9 l3_0 lr3_0 rfl qx2 rfl ((m_gI_12_64 Ho9).2)) fun ho14 Ho14 => ?_
        exact S12_go_54 1024 Ho14 rfl qx1 rfl qx2 rfl qx3 l3_100 lr3_100 l3_0 lr3_0 l3_0 lr3_0
theorem S12_go {h : PH} (H : OKM h) {x1i : Int32} {x1 : Int} (ex1 : x1i = Z3 x1) (qx1 : r3 x1) {x2i : Int32} {x2 : Int} (ex2 : x2i = Z3 x2) (qx2 : r3 x2) {x3i : Int32} {x3 : Int} (ex3 : x3i = Z3 x3) (qx3 : r3 x3) : SimI OKM (F12_go h 0 x1i x2i x3i) (G12_go (rd h) x1 x2 x3) := by
  subst ex1 ex2 ex3
  unfold F12_go G12_go
  refine sm_cd (m_ok_12 H) ?_
  exact S12_go_0 H rfl qx1 rfl qx2 rfl qx3
theorem S12_plain_85 (n : Nat) : ∀ {h : PH} (H : OKM h) {x1i : Int32} {x1 : Int} (ex1 : x1i = Z3 x1) (qx1 : r3 x1), SimV OKM (F12_plain_85 n h 0 x1i) (G12_plain_85 n (rd h) x1) := by
  induction n with
  | zero => intros; exact smV_none _
  | succ n ih =>
    intro h H x1i x1 ex1 qx1
    subst ex1
    rw [F12_plain_85, G12_plain_85]
    refine sm_if (z3_le l3_6 rfl lr3_6 qx1) ?_ ?_
    · exact sm_retV H
    · refine sm_rd (m_gR_12_37 H) ?_
      refine sgxV fun c1 => ?_
      refine sgbV fun c2 => ?_
      refine sm_wt (m_sI_12_37 H rfl c1 (z3_bo l3_0 c2) (r3_b c2)) fun h5 Hh5 => ?_
      refine sg3V fun c3 => ?_
      exact ih Hh5 (z3_add rfl l3_1) c3
theorem S12_plain_64 (n : Nat) : ∀ {h : PH} (H : OKM h) {x1i : Int32} {x1 : Int} (ex1 : x1i = Z3 x1) (qx1 : r3 x1), SimV OKM (F12_plain_64 n h 0 x1i) (G12_plain_64 n (rd h) x1) := by
  induction n with
  | zero => intros; exact smV_none _
  | succ n ih =>
    intro h H x1i x1 ex1 qx1
    subst ex1
    rw [F12_plain_64, G12_plain_64]
    refine sm_if (z3_le l3_14 rfl lr3_14 qx1) ?_ ?_
    · exact S12_plain_85 1024 H l3_3 lr3_3
    · refine sm_rd (m_gR_12_26 H) ?_
      refine sgxV fun c1 => ?_
      refine sm_wt (m_sI_12_26 H rfl c1 l3_0 lr3_0) fun h5 Hh5 => ?_
      refine sg3V fun c2 => ?_
      exact ih Hh5 (z3_add rfl l3_1) c2
theorem S12_plain_43 (n : Nat) : ∀ {h : PH} (H : OKM h) {x1i : Int32} {x1 : Int} (ex1 : x1i = Z3 x1) (qx1 : r3 x1), SimV OKM (F12_plain_43 n h 0 x1i) (G12_plain_43 n (rd h) x1) := by
  induction n with
  | zero => intros; exact smV_none _
  | succ n ih =>
    intro h H x1i x1 ex1 qx1
    subst ex1
    rw [F12_plain_43, G12_plain_43]
    refine sm_if (z3_le l3_5 rfl lr3_5 qx1) ?_ ?_
    · exact S12_plain_64 1024 H l3_7 lr3_7
    · refine sm_rd (m_gR_12_25 H) ?_
      refine sgxV fun c1 => ?_
      refine sgbV fun c2 => ?_
      refine sm_wt (m_sI_12_25 H rfl c1 (z3_bo l3_0 c2) (r3_b c2)) fun h5 Hh5 => ?_
      refine sg3V fun c3 => ?_
      exact ih Hh5 (z3_add rfl l3_1) c3
theorem S12_plain_0 {h : PH} (H : OKM h) : SimV OKM (F12_plain_0 h 0) (G12_plain_0 (rd h)) := by
  unfold F12_plain_0 G12_plain_0
  refine sm_wt (m_pI_12_18 H l3_6 lr3_6) fun h1 Hh1 => ?_
  refine sm_wt (m_pI_12_19 Hh1 l3_4 lr3_4) fun h3 Hh3 => ?_
  refine sm_wt (m_pI_12_20 Hh3 l3_0 lr3_0) fun h5 Hh5 => ?_
  refine sm_wt (m_pI_12_21 Hh5 l3_0 lr3_0) fun h7 Hh7 => ?_
  refine sm_wt (m_pI_12_22 Hh7 l3_0 lr3_0) fun h9 Hh9 => ?_
  refine sm_wt (m_pI_12_23 Hh9 l3_0 lr3_0) fun h11 Hh11 => ?_
  refine sm_wt (m_pI_12_49 Hh11 l3_0 lr3_0) fun h13 Hh13 => ?_
  refine sm_wt (m_pZ_12_24 Hh13 l3_0 (by decide)) fun h15 Hh15 => ?_
  exact S12_plain_43 1024 Hh15 l3_0 lr3_0
theorem S12_plain {h : PH} (H : OKM h) : SimV OKM (F12_plain h 0) (G12_plain (rd h)) := by
  unfold F12_plain G12_plain
  refine sm_cd (m_ok_12 H) ?_
  exact S12_plain_0 H
theorem S12_keepText_142 (n : Nat) : ∀ {h : PH} (H : OKM h) {x1i : Int32} {x1 : Int} (ex1 : x1i = Z3 x1) (qx1 : r3 x1), SimV OKM (F12_keepText_142 n h 0 x1i) (G12_keepText_142 n (rd h) x1) := by
  induction n with
  | zero => intros; exact smV_none _
  | succ n ih =>
    intro h H x1i x1 ex1 qx1
    subst ex1
    rw [F12_keepText_142, G12_keepText_142]
    refine sm_if (z3_le l3_3 rfl lr3_3 qx1) ?_ ?_
    · refine sm_rd (m_gR_12_38 H) ?_
      refine sm_VV (S12_copies H (anyM_16) l3_3 lr3_3) fun ho4 Ho4 => ?_
      refine sm_rd (m_gR_12_39 Ho4) ?_
      refine sm_VV (S12_copies Ho4 (anyM_17) l3_3 lr3_3) fun ho8 Ho8 => ?_
      refine sm_rd (m_gR_12_40 Ho8) ?_
      refine sm_VV (S12_copies Ho8 (anyM_18) l3_64 lr3_64) fun ho12 Ho12 => ?_
      refine sm_rd (m_gR_12_41 Ho12) ?_
      refine sm_VV (S12_copies Ho12 (anyM_19) l3_64 lr3_64) fun ho16 Ho16 => ?_
      refine sm_rd (m_gR_12_42 Ho16) ?_
      refine sm_VV (S12_copies Ho16 (anyM_20) l3_64 lr3_64) fun ho20 Ho20 => ?_
      refine sm_VV (S12_begin Ho20) fun ho22 Ho22 => ?_
      exact sm_retV Ho22
    · refine sm_rd (m_gR_12_37 H) ?_
      refine sm_rd (m_gR_12_37 H) ?_
      refine sgxV fun c1 => ?_
      refine sm_rd (m_aI_12_37 H (z3_add l3_3 rfl) c1).1 ?_
      refine sgxV fun c2 => ?_
      refine sgbV fun c3 => ?_
      refine sm_wt (m_sI_12_37 H rfl c2 (z3_bo rfl c3) (r3_b c3)) fun h31 Hh31 => ?_
      refine sg3V fun c4 => ?_
      exact ih Hh31 (z3_add rfl l3_1) c4
/-! The pure functions do so (written by wip/gen/gx.py). -/
theorem S12_keepText_0 {h : PH} (H : OKM h) : SimV OKM (F12_keepText_0 h 0) (G12_keepText_0 (rd h)) := by
  unfold F12_keepText_0 G12_keepText_0
  refine sm_rd (m_gI_12_18 H).1 ?_
  refine sm_wt (m_pI_12_12 H rfl (m_gI_12_18 H).2) fun h3 Hh3 => ?_
  refine sm_rd (m_gI_12_19 Hh3).1 ?_
  refine sm_wt (m_pI_12_13 Hh3 rfl (m_gI_12_19 Hh3).2) fun h7 Hh7 => ?_
  refine sm_rd (m_gI_12_20 Hh7).1 ?_
  refine sm_wt (m_pI_12_14 Hh7 rfl (m_gI_12_20 Hh7).2) fun h11 Hh11 => ?_
  refine sm_rd (m_gI_12_21 Hh11).1 ?_
  refine sm_wt (m_pI_12_15 Hh11 rfl (m_gI_12_21 Hh11).2) fun h15 Hh15 => ?_
  refine sm_rd (m_gI_12_22 Hh15).1 ?_
  refine sm_wt (m_pI_12_16 Hh15 rfl (m_gI_12_22 Hh15).2) fun h19 Hh19 => ?_
  refine sm_rd (m_gI_12_23 Hh19).1 ?_
  refine sm_wt (m_pI_12_17 Hh19 rfl (m_gI_12_23 Hh19).2) fun h23 Hh23 => ?_
  refine sm_rd (m_gR_12_26 Hh23) ?_
  refine sm_VV (S12_copies Hh23 (anyM_4) l3_7 lr3_7) fun ho27 Ho27 => ?_
  refine sm_rd (m_gR_12_27 Ho27) ?_
  refine sm_VV (S12_copies Ho27 (anyM_5) l3_5 lr3_5) fun ho31 Ho31 => ?_
  refine sm_rd (m_gR_12_28 Ho31) ?_
  refine sm_VV (S12_copies Ho31 (anyM_6) l3_5 lr3_5) fun ho35 Ho35 => ?_
  refine sm_rd (m_gR_12_29 Ho35) ?_
  refine sm_VV (S12_copies Ho35 (anyM_7) l3_5 lr3_5) fun ho39 Ho39 => ?_
  refine sm_rd (m_gR_12_30 Ho39) ?_
  refine sm_VV (S12_copies Ho39 (anyM_8) l3_5 lr3_5) fun ho43 Ho43 => ?_
  refine sm_rd (m_gR_12_31 Ho43) ?_
  refine sm_VV (S12_copies Ho43 (anyM_9) l3_5 lr3_5) fun ho47 Ho47 => ?_
  refine sm_rd (m_gR_12_32 Ho47) ?_
  refine sm_VV (S12_copies Ho47 (anyM_10) l3_5 lr3_5) fun ho51 Ho51 => ?_
  refine sm_rd (m_gR_12_33 Ho51) ?_
  refine sm_VV (S12_copies Ho51 (anyM_11) l3_4 lr3_4) fun ho55 Ho55 => ?_
  refine sm_rd (m_gR_12_34 Ho55) ?_
  refine sm_VV (S12_copies Ho55 (anyM_12) l3_28 lr3_28) fun ho59 Ho59 => ?_
  refine sm_rd (m_gR_12_35 Ho59) ?_
  refine sm_VV (S12_copies Ho59 (anyM_13) l3_28 lr3_28) fun ho63 Ho63 => ?_
  refine sm_rd (m_gR_12_36 Ho63) ?_
  refine sm_VV (S12_copies Ho63 (anyM_14) l3_28 lr3_28) fun ho67 Ho67 => ?_
  exact S12_keepText_142 1024 Ho67 l3_0 lr3_0
theorem S12_keepText {h : PH} (H : OKM h) : SimV OKM (F12_keepText h 0) (G12_keepText (rd h)) := by
  unfold F12_keepText G12_keepText
  refine sm_cd (m_ok_12 H) ?_
  exact S12_keepText_0 H
theorem S12_isCell_0 {h : PH} (H : OKM h) {x1i : Int32} {x1 : Int} (ex1 : x1i = Z3 x1) (qx1 : r3 x1) : SimI OKM (F12_isCell_0 h 0 x1i) (G12_isCell_0 (rd h) x1) := by
  subst ex1
  unfold F12_isCell_0 G12_isCell_0
  refine sm_if (z3_lt rfl l3_0 qx1 lr3_0) ?_ ?_
  · exact sm_rz H l3_0 (by decide)
  · refine sm_II (S12_cells H) fun vo2 ho2 Ho2 ro2 => ?_
    refine sm_if (z3_le rfl rfl ro2 qx1) ?_ ?_
    · exact sm_rz Ho2 l3_0 (by decide)
    · exact sm_rz Ho2 l3_1 (by decide)
theorem S12_isCell {h : PH} (H : OKM h) {x1i : Int32} {x1 : Int} (ex1 : x1i = Z3 x1) (qx1 : r3 x1) : SimI OKM (F12_isCell h 0 x1i) (G12_isCell (rd h) x1) := by
  subst ex1
  unfold F12_isCell G12_isCell
  refine sm_cd (m_ok_12 H) ?_
  exact S12_isCell_0 H rfl qx1
theorem S12_isCounted_0 {h : PH} (H : OKM h) : SimI OKM (F12_isCounted_0 h 0) (G12_isCounted_0 (rd h)) := by
  unfold F12_isCounted_0 G12_isCounted_0
  refine sm_rd (m_gI_12_49 H).1 ?_
  refine sm_if (z3_eq rfl l3_64 (m_gI_12_49 H).2 lr3_64) ?_ ?_
  · refine sm_II (S12_wrong H l3_2 lr3_2) fun vo8 ho8 Ho8 ro8 => ?_
    refine sgbI fun c1 => ?_
    exact sm_rz Ho8 rfl c1
  · refine sm_rd (m_gI_12_49 H).1 ?_
    refine sg3I fun c2 => ?_
    refine sm_wt (m_pI_12_49 H (z3_add rfl l3_1) c2) fun h6 Hh6 => ?_
    exact sm_rz Hh6 l3_1 (by decide)
theorem S12_isCounted {h : PH} (H : OKM h) : SimI OKM (F12_isCounted h 0) (G12_isCounted (rd h)) := by
  unfold F12_isCounted G12_isCounted
  refine sm_cd (m_ok_12 H) ?_
  exact S12_isCounted_0 H
theorem S12_isKey_0 {h : PH} (H : OKM h) {x1i : Int32} {x1 : Int} (ex1 : x1i = Z3 x1) (qx1 : r3 x1) : SimI OKM (F12_isKey_0 h 0 x1i) (G12_isKey_0 (rd h) x1) := by
  subst ex1
  unfold F12_isKey_0 G12_isKey_0
  refine sm_rd (m_gI_12_8 H).1 ?_
  refine sm_if (z3_eq rfl l3_1 (m_gI_12_8 H).2 lr3_1) ?_ ?_
  · refine sm_rd (m_gI_12_9 H).1 ?_
    refine sm_if (z3_eq rfl rfl (m_gI_12_9 H).2 qx1) ?_ ?_
    · exact sm_rz H l3_1 (by decide)
    · exact sm_rz H l3_0 (by decide)
  · exact sm_rz H l3_0 (by decide)
theorem S12_isKey {h : PH} (H : OKM h) {x1i : Int32} {x1 : Int} (ex1 : x1i = Z3 x1) (qx1 : r3 x1) : SimI OKM (F12_isKey h 0 x1i) (G12_isKey (rd h) x1) := by
  subst ex1
  unfold F12_isKey G12_isKey
  refine sm_cd (m_ok_12 H) ?_
  exact S12_isKey_0 H rfl qx1
theorem S12_isRest_13 (n : Nat) : ∀ {h : PH} (H : OKM h) {x1i : Int32} {x1 : Int} (ex1 : x1i = Z3 x1) (qx1 : r3 x1) {x2i : Int32} {x2 : Int} (ex2 : x2i = Z3 x2) (qx2 : r3 x2), SimI OKM (F12_isRest_13 n h 0 x1i x2i) (G12_isRest_13 n (rd h) x1 x2) := by
  induction n with
  | zero => intros; exact smI_none _
  | succ n ih =>
    intro h H x1i x1 ex1 qx1 x2i x2 ex2 qx2
    subst ex1 ex2
    rw [F12_isRest_13, G12_isRest_13]
    refine sm_if (z3_le l3_5 rfl lr3_5 qx2) ?_ ?_
    · exact sm_rz H l3_1 (by decide)
    · refine sm_rd (m_gR_12_70 H) ?_
      refine sgdI fun c1 => ?_
      refine sgxI fun c2 => ?_
      refine sm_rd (m_aI_12_70 H (z3_add (z3_mul l3_5 rfl) (z3_rem rfl l3_5 qx1 lr3_5 c1)) c2).1 ?_
      refine sm_rd (m_gR_12_70 H) ?_
      refine sgxI fun c3 => ?_
      refine sm_rd (m_aI_12_70 H rfl c3).1 ?_
      refine sm_if (z3_lt rfl rfl (m_aI_12_70 H rfl c3).2 (m_aI_12_70 H (z3_add (z3_mul l3_5 rfl) (z3_rem rfl l3_5 qx1 lr3_5 c1)) c2).2) ?_ ?_
      · exact sm_rz H l3_0 (by decide)
      · refine sm_rd (m_gR_12_71 H) ?_
        refine sgdI fun c4 => ?_
        refine sgxI fun c5 => ?_
        refine sm_rd (m_aI_12_71 H (z3_add (z3_mul (z3_div rfl l3_5 qx1 lr3_5 c4) l3_5) rfl) c5).1 ?_
        refine sm_rd (m_gR_12_71 H) ?_
        refine sgxI fun c6 => ?_
        refine sm_rd (m_aI_12_71 H rfl c6).1 ?_
        refine sm_if (z3_le rfl rfl (m_aI_12_71 H (z3_add (z3_mul (z3_div rfl l3_5 qx1 lr3_5 c4) l3_5) rfl) c5).2 (m_aI_12_71 H rfl c6).2) ?_ ?_
        · refine sg3I fun c7 => ?_
          exact ih H rfl qx1 (z3_add rfl l3_1) c7
        · exact sm_rz H l3_0 (by decide)
theorem S12_isRest_0 {h : PH} (H : OKM h) {x1i : Int32} {x1 : Int} (ex1 : x1i = Z3 x1) (qx1 : r3 x1) : SimI OKM (F12_isRest_0 h 0 x1i) (G12_isRest_0 (rd h) x1) := by
  subst ex1
  unfold F12_isRest_0 G12_isRest_0
  refine sm_rd (m_gR_12_70 H) ?_
  refine sgxI fun c1 => ?_
  refine sm_rd (m_aI_12_70 H rfl c1).1 ?_
  refine sm_if (z3_le l3_0 rfl lr3_0 (m_aI_12_70 H rfl c1).2) ?_ ?_
  · exact S12_isRest_13 1024 H rfl qx1 l3_0 lr3_0
  · exact sm_rz H l3_0 (by decide)
theorem S12_isRest {h : PH} (H : OKM h) {x1i : Int32} {x1 : Int} (ex1 : x1i = Z3 x1) (qx1 : r3 x1) : SimI OKM (F12_isRest h 0 x1i) (G12_isRest (rd h) x1) := by
  subst ex1
  unfold F12_isRest G12_isRest
  refine sm_cd (m_ok_12 H) ?_
  exact S12_isRest_0 H rfl qx1
theorem S12_isSign_0 {h : PH} (H : OKM h) {x1i : Int32} {x1 : Int} (ex1 : x1i = Z3 x1) (qx1 : r3 x1) : SimI OKM (F12_isSign_0 h 0 x1i) (G12_isSign_0 (rd h) x1) := by
  subst ex1
  unfold F12_isSign_0 G12_isSign_0
  refine sm_rd (m_gI_12_8 H).1 ?_
  refine sm_if (z3_eq rfl l3_4 (m_gI_12_8 H).2 lr3_4) ?_ ?_
  · refine sm_rd (m_gI_12_9 H).1 ?_
    refine sm_if (z3_eq rfl rfl (m_gI_12_9 H).2 qx1) ?_ ?_
    · exact sm_rz H l3_1 (by decide)
    · exact sm_rz H l3_0 (by decide)
  · exact sm_rz H l3_0 (by decide)
theorem S12_isSign {h : PH} (H : OKM h) {x1i : Int32} {x1 : Int} (ex1 : x1i = Z3 x1) (qx1 : r3 x1) : SimI OKM (F12_isSign h 0 x1i) (G12_isSign (rd h) x1) := by
  subst ex1
  unfold F12_isSign G12_isSign
  refine sm_cd (m_ok_12 H) ?_
  exact S12_isSign_0 H rfl qx1
theorem S12_keep_96 (n : Nat) : ∀ {h : PH} (H : OKM h) {x1i : Int32} {x1 : Int} (ex1 : x1i = Z3 x1) (qx1 : r3 x1), SimI OKM (F12_keep_96 n h 0 x1i) (G12_keep_96 n (rd h) x1) := by
  induction n with
  | zero => intros; exact smI_none _
  | succ n ih =>
    intro h H x1i x1 ex1 qx1
    subst ex1
    rw [F12_keep_96, G12_keep_96]
    refine sm_if (z3_le l3_28 rfl lr3_28 qx1) ?_ ?_
    · refine sm_rd (m_gR_12_61 H) ?_
      refine sm_rd (m_aI_12_61 H l3_0 ⟨by decide, by decide⟩).1 ?_
      refine sm_wt (m_pI_12_82 H rfl (m_aI_12_61 H l3_0 ⟨by decide, by decide⟩).2) fun h6 Hh6 => ?_
      refine sm_rd (m_gI_12_64 Hh6).1 ?_
      refine sm_wt (m_pI_12_83 Hh6 rfl (m_gI_12_64 Hh6).2) fun h10 Hh10 => ?_
      refine sm_rd (m_gR_12_62 Hh10) ?_
      refine sm_rd (m_aI_12_62 Hh10 l3_0 ⟨by decide, by decide⟩).1 ?_
      refine sm_wt (m_pI_12_84 Hh10 rfl (m_aI_12_62 Hh10 l3_0 ⟨by decide, by decide⟩).2) fun h16 Hh16 => ?_
      refine sm_rd (m_gR_12_63 Hh16) ?_
      refine sm_rd (m_aI_12_63 Hh16 l3_0 ⟨by decide, by decide⟩).1 ?_
      refine sm_wt (m_pI_12_85 Hh16 rfl (m_aI_12_63 Hh16 l3_0 ⟨by decide, by decide⟩).2) fun h22 Hh22 => ?_
      refine sm_rd (m_gJ_12_65 Hh22).1 ?_
      refine sm_wt (m_pJ_12_86 Hh22 rfl (m_gJ_12_65 Hh22).2) fun h26 Hh26 => ?_
      refine sm_rd (m_gR_12_61 Hh26) ?_
      refine sm_rd (m_aI_12_61 Hh26 l3_0 ⟨by decide, by decide⟩).1 ?_
      exact sm_retI Hh26 rfl (m_aI_12_61 Hh26 l3_0 ⟨by decide, by decide⟩).2
    · refine sm_rd (m_gR_12_81 H) ?_
      refine sm_rd (m_gR_12_60 H) ?_
      refine sgxI fun c1 => ?_
      refine sm_rd (m_aI_12_60 H rfl c1).1 ?_
      refine sgxI fun c2 => ?_
      refine sm_wt (m_sI_12_81 H (z3_add l3_25 rfl) c2 rfl (m_aI_12_60 H rfl c1).2) fun h39 Hh39 => ?_
      refine sg3I fun c3 => ?_
      exact ih Hh39 (z3_add rfl l3_1) c3
theorem S12_keep_12 (n : Nat) : ∀ {h : PH} (H : OKM h) {x1i : Int32} {x1 : Int} (ex1 : x1i = Z3 x1) (qx1 : r3 x1), SimI OKM (F12_keep_12 n h 0 x1i) (G12_keep_12 n (rd h) x1) := by
  induction n with
  | zero => intros; exact smI_none _
  | succ n ih =>
    intro h H x1i x1 ex1 qx1
    subst ex1
    rw [F12_keep_12, G12_keep_12]
    refine sm_if (z3_le l3_5 rfl lr3_5 qx1) ?_ ?_
    · exact S12_keep_96 1024 H l3_0 lr3_0
    · refine sm_rd (m_gR_12_81 H) ?_
      refine sm_rd (m_gR_12_55 H) ?_
      refine sgxI fun c1 => ?_
      refine sm_rd (m_aI_12_55 H rfl c1).1 ?_
      refine sgxI fun c2 => ?_
      refine sm_wt (m_sI_12_81 H rfl c2 rfl (m_aI_12_55 H rfl c1).2) fun h9 Hh9 => ?_
      refine sm_rd (m_gR_12_81 Hh9) ?_
      refine sm_rd (m_gR_12_56 Hh9) ?_
      refine sgxI fun c3 => ?_
      refine sm_rd (m_aI_12_56 Hh9 rfl c3).1 ?_
      refine sgxI fun c4 => ?_
      refine sm_wt (m_sI_12_81 Hh9 (z3_add l3_5 rfl) c4 rfl (m_aI_12_56 Hh9 rfl c3).2) fun h17 Hh17 => ?_
      refine sm_rd (m_gR_12_81 Hh17) ?_
      refine sm_rd (m_gR_12_57 Hh17) ?_
      refine sgxI fun c5 => ?_
      refine sm_rd (m_aI_12_57 Hh17 rfl c5).1 ?_
      refine sgxI fun c6 => ?_
      refine sm_wt (m_sI_12_81 Hh17 (z3_add l3_10 rfl) c6 rfl (m_aI_12_57 Hh17 rfl c5).2) fun h25 Hh25 => ?_
      refine sm_rd (m_gR_12_81 Hh25) ?_
      refine sm_rd (m_gR_12_58 Hh25) ?_
      refine sgxI fun c7 => ?_
      refine sm_rd (m_aI_12_58 Hh25 rfl c7).1 ?_
      refine sgxI fun c8 => ?_
      refine sm_wt (m_sI_12_81 Hh25 (z3_add l3_15 rfl) c8 rfl (m_aI_12_58 Hh25 rfl c7).2) fun h33 Hh33 => ?_
      refine sm_rd (m_gR_12_81 Hh33) ?_
      refine sm_rd (m_gR_12_59 Hh33) ?_
      refine sgxI fun c9 => ?_
      refine sm_rd (m_aI_12_59 Hh33 rfl c9).1 ?_
      refine sgxI fun c10 => ?_
      refine sm_wt (m_sI_12_81 Hh33 (z3_add l3_20 rfl) c10 rfl (m_aI_12_59 Hh33 rfl c9).2) fun h41 Hh41 => ?_
      refine sg3I fun c11 => ?_
      exact ih Hh41 (z3_add rfl l3_1) c11
theorem S12_keep_0 {h : PH} (H : OKM h) : SimI OKM (F12_keep_0 h 0) (G12_keep_0 (rd h)) := by
  unfold F12_keep_0 G12_keep_0
  refine sm_wt (m_pI_12_2 H l3_0 lr3_0) fun h1 Hh1 => ?_
  refine sm_wt (m_pZ_12_80 Hh1 l3_1 (by decide)) fun h3 Hh3 => ?_
  exact S12_keep_12 1024 Hh3 l3_0 lr3_0
theorem S12_keep {h : PH} (H : OKM h) : SimI OKM (F12_keep h 0) (G12_keep (rd h)) := by
  unfold F12_keep G12_keep
  refine sm_cd (m_ok_12 H) ?_
  exact S12_keep_0 H
theorem S12_known_0 {h : PH} (H : OKM h) {x1i : Int32} {x1 : Int} (ex1 : x1i = Z3 x1) (qx1 : r3 x1) : SimI OKM (F12_known_0 h 0 x1i) (G12_known_0 (rd h) x1) := by
  subst ex1
  unfold F12_known_0 G12_known_0
  refine sm_wt (m_pI_12_2 H l3_0 lr3_0) fun h1 Hh1 => ?_
  refine sm_rd (m_gI_12_74 Hh1).1 ?_
  refine sm_II (S12_isIn Hh1 rfl qx1 l3_m1 lr3_m1 rfl ((m_gI_12_74 Hh1).2)) fun vo5 ho5 Ho5 ro5 => ?_
  refine sm_if (z3_eq rfl l3_0 ro5 lr3_0) ?_ ?_
  · exact sm_rz Ho5 l3_0 (by decide)
  · refine sm_wt (m_pI_12_75 Ho5 rfl qx1) fun h8 Hh8 => ?_
    exact sm_rz Hh8 l3_1 (by decide)
theorem S12_known {h : PH} (H : OKM h) {x1i : Int32} {x1 : Int} (ex1 : x1i = Z3 x1) (qx1 : r3 x1) : SimI OKM (F12_known h 0 x1i) (G12_known (rd h) x1) := by
  subst ex1
  unfold F12_known G12_known
  refine sm_cd (m_ok_12 H) ?_
  exact S12_known_0 H rfl qx1
theorem S12_law_134 {h : PH} (H : OKM h) {x4i : Int32} {x4 : Int} (ex4 : x4i = Z3 x4) (qx4 : r3 x4) : SimJ OKM (F12_law_134 h 0 x4i) (G12_law_134 (rd h) x4) := by
  subst ex4
  unfold F12_law_134 G12_law_134
  refine sm_JJ (S12_lawOf H rfl qx4) fun vo1 ho1 Ho1 ro1 => ?_
  refine sm_rd (m_gI_12_54 Ho1).1 ?_
  refine sm_if (z3_eq rfl l3_0 (m_gI_12_54 Ho1).2 lr3_0) ?_ ?_
  · exact sm_retJ Ho1 rfl ro1
  · exact sm_retJ Ho1 l6_m9223372036854775808 lr6_m9223372036854775808
theorem S12_law_57 {h : PH} (H : OKM h) {x1i : Int32} {x1 : Int} (ex1 : x1i = Z3 x1) (qx1 : r3 x1) {x2i : Int32} {x2 : Int} (ex2 : x2i = Z3 x2) (qx2 : r3 x2) {x3i : Int32} {x3 : Int} (ex3 : x3i = Z3 x3) (qx3 : r3 x3) {s0i : Int32} {s0 : Int} (es0 : s0i = Z3 s0) (qs0 : r3 s0) : SimJ OKM (F12_law_57 h 0 x1i x2i x3i s0i) (G12_law_57 (rd h) x1 x2 x3 s0) := by
  subst ex1 ex2 ex3 es0
  unfold F12_law_57 G12_law_57
  refine sm_rd (m_gR_12_37 H) ?_
  refine sgxJ fun c1 => ?_
  refine sm_rd (m_aI_12_37 H rfl c1).1 ?_
  refine sm_if (z3_eq rfl l3_0 (m_aI_12_37 H rfl c1).2 lr3_0) ?_ ?_
  · exact sm_retJ H l6_m9223372036854775808 lr6_m9223372036854775808
  · refine sm_if (z3_eq rfl l3_0 qx1 lr3_0) ?_ ?_
    · refine sm_rd (m_gR_12_55 H) ?_
      refine sgxJ fun c2 => ?_
      refine sm_rd (m_aI_12_55 H rfl c2).1 ?_
      refine sm_IJ (S12_layCatch H rfl qx2 rfl qx3 rfl ((m_aI_12_55 H rfl c2).2)) fun vo28 ho28 Ho28 ro28 => ?_
      exact S12_law_134 Ho28 rfl qs0
    · refine sm_if (z3_eq rfl l3_1 qx1 lr3_1) ?_ ?_
      · refine sm_rd (m_gR_12_29 H) ?_
        refine sgxJ fun c3 => ?_
        refine sm_rd (m_aI_12_29 H rfl c3).1 ?_
        refine sm_rd (m_gR_12_34 H) ?_
        refine sgxJ fun c4 => ?_
        refine sm_rd (m_aI_12_34 H rfl c4).1 ?_
        refine sm_VJ (S12_layNames H l3_0 lr3_0 l3_0 lr3_0 rfl ((m_aI_12_29 H rfl c3).2) rfl qx3 rfl ((m_aI_12_34 H rfl c4).2)) fun ho22 Ho22 => ?_
        exact S12_law_134 Ho22 rfl qs0
      · refine sm_rd (m_gR_12_61 H) ?_
        refine sm_rd (m_aI_12_61 H l3_0 ⟨by decide, by decide⟩).1 ?_
        refine sm_VJ (S12_layNames H l3_0 lr3_0 l3_0 lr3_0 l3_0 lr3_0 l3_m1 lr3_m1 rfl ((m_aI_12_61 H l3_0 ⟨by decide, by decide⟩).2)) fun ho12 Ho12 => ?_
        exact S12_law_134 Ho12 rfl qs0
theorem S12_law_39 {h : PH} (H : OKM h) {x1i : Int32} {x1 : Int} (ex1 : x1i = Z3 x1) (qx1 : r3 x1) {x2i : Int32} {x2 : Int} (ex2 : x2i = Z3 x2) (qx2 : r3 x2) {x3i : Int32} {x3 : Int} (ex3 : x3i = Z3 x3) (qx3 : r3 x3) : SimJ OKM (F12_law_39 h 0 x1i x2i x3i) (G12_law_39 (rd h) x1 x2 x3) := by
  subst ex1 ex2 ex3
  unfold F12_law_39 G12_law_39
  refine sm_if (z3_eq rfl l3_0 qx1 lr3_0) ?_ ?_
  · exact S12_law_57 H rfl qx1 rfl qx2 rfl qx3 l3_0 lr3_0
  · refine sm_if (z3_eq rfl l3_1 qx1 lr3_1) ?_ ?_
    · exact S12_law_57 H rfl qx1 rfl qx2 rfl qx3 l3_2 lr3_2
    · exact S12_law_57 H rfl qx1 rfl qx2 rfl qx3 l3_1 lr3_1
theorem S12_law_0 {h : PH} (H : OKM h) {x1i : Int32} {x1 : Int} (ex1 : x1i = Z3 x1) (qx1 : r3 x1) {x2i : Int32} {x2 : Int} (ex2 : x2i = Z3 x2) (qx2 : r3 x2) {x3i : Int32} {x3 : Int} (ex3 : x3i = Z3 x3) (qx3 : r3 x3) : SimJ OKM (F12_law_0 h 0 x1i x2i x3i) (G12_law_0 (rd h) x1 x2 x3) := by
  subst ex1 ex2 ex3
  unfold F12_law_0 G12_law_0
  refine sm_wt (m_pI_12_2 H l3_0 lr3_0) fun h1 Hh1 => ?_
  refine sm_IJ (S12_isIn Hh1 rfl qx1 l3_0 lr3_0 l3_2 lr3_2) fun vo3 ho3 Ho3 ro3 => ?_
  refine sm_if (z3_eq rfl l3_0 ro3 lr3_0) ?_ ?_
  · exact sm_retJ Ho3 l6_m9223372036854775808 lr6_m9223372036854775808
  · refine sm_if (z3_le l3_2 rfl lr3_2 qx1) ?_ ?_
    · exact S12_law_39 Ho3 rfl qx1 rfl qx2 rfl qx3
    · refine sm_IJ (S12_isSurfer Ho3 rfl qx2) fun vo7 ho7 Ho7 ro7 => ?_
      refine sm_if (z3_eq rfl l3_0 ro7 lr3_0) ?_ ?_
      · exact sm_retJ Ho7 l6_m9223372036854775808 lr6_m9223372036854775808
      · refine sm_IJ (S12_isWave Ho7 rfl qx3) fun vo10 ho10 Ho10 ro10 => ?_
        refine sm_if (z3_eq rfl l3_0 ro10 lr3_0) ?_ ?_
        · exact sm_retJ Ho10 l6_m9223372036854775808 lr6_m9223372036854775808
        · exact S12_law_39 Ho10 rfl qx1 rfl qx2 rfl qx3
theorem S12_law {h : PH} (H : OKM h) {x1i : Int32} {x1 : Int} (ex1 : x1i = Z3 x1) (qx1 : r3 x1) {x2i : Int32} {x2 : Int} (ex2 : x2i = Z3 x2) (qx2 : r3 x2) {x3i : Int32} {x3 : Int} (ex3 : x3i = Z3 x3) (qx3 : r3 x3) : SimJ OKM (F12_law h 0 x1i x2i x3i) (G12_law (rd h) x1 x2 x3) := by
  subst ex1 ex2 ex3
  unfold F12_law G12_law
  refine sm_cd (m_ok_12 H) ?_
  exact S12_law_0 H rfl qx1 rfl qx2 rfl qx3
theorem S12_wayAt_0 {h : PH} (H : OKM h) {x0i : Int32} {x0 : Int} (ex0 : x0i = Z3 x0) (qx0 : r3 x0) : SimI OKM (F12_wayAt_0 h x0i) (G12_wayAt_0 (rd h) x0) := by
  subst ex0
  unfold F12_wayAt_0 G12_wayAt_0
  refine sm_if (z3_eq rfl l3_0 qx0 lr3_0) ?_ ?_
  · exact sm_retI H l3_4 lr3_4
  · refine sg3I fun c1 => ?_
    exact sm_retI H (z3_sub rfl l3_1) c1
theorem S12_wayAt {h : PH} (H : OKM h) {x0i : Int32} {x0 : Int} (ex0 : x0i = Z3 x0) (qx0 : r3 x0) : SimI OKM (F12_wayAt h x0i) (G12_wayAt (rd h) x0) := by
  subst ex0
  unfold F12_wayAt G12_wayAt
  exact S12_wayAt_0 H rfl qx0
theorem S12_layGame_151 {k2 : PH → Nat → Int32 → Int32 → Int32 → Option PH} {kk2 : Mem → Int → Int → Int → Option Mem} (hk2 : ∀ {h : PH} (_ : OKM h) {x2 : Int32} {y2 : Int} (_ : x2 = Z3 y2) (_ : r3 y2) {x3 : Int32} {y3 : Int} (_ : x3 = Z3 y3) (_ : r3 y3) {x4 : Int32} {y4 : Int} (_ : x4 = Z3 y4) (_ : r3 y4), SimV OKM (k2 h 0 x2 x3 x4) (kk2 (rd h) y2 y3 y4)) {k78 : PH → Nat → Int32 → Int32 → Int32 → Int32 → Int32 → Int32 → Option PH} {kk78 : Mem → Int → Int → Int → Int → Int → Int → Option Mem} (hk78 : ∀ {h : PH} (_ : OKM h) {x2 : Int32} {y2 : Int} (_ : x2 = Z3 y2) (_ : r3 y2) {x3 : Int32} {y3 : Int} (_ : x3 = Z3 y3) (_ : r3 y3) {x4 : Int32} {y4 : Int} (_ : x4 = Z3 y4) (_ : r3 y4) {x5 : Int32} {y5 : Int} (_ : x5 = Z3 y5) (_ : r3 y5) {x6 : Int32} {y6 : Int} (_ : x6 = Z3 y6) (_ : r3 y6) {x7 : Int32} {y7 : Int} (_ : x7 = Z3 y7) (_ : r3 y7), SimV OKM (k78 h 0 x2 x3 x4 x5 x6 x7) (kk78 (rd h) y2 y3 y4 y5 y6 y7)) {h : PH} (H : OKM h) {x1i : Int32} {x1 : Int} (ex1 : x1i = Z3 x1) (qx1 : r3 x1) {x2i : Int32} {x2 : Int} (ex2 : x2i = Z3 x2) (qx2 : r3 x2) {x3i : Int32} {x3 : Int} (ex3 : x3i = Z3 x3) (qx3 : r3 x3) {x4i : Int32} {x4 : Int} (ex4 : x4i = Z3 x4) (qx4 : r3 x4) {x5i : Int32} {x5 : Int} (ex5 : x5i = Z3 x5) (qx5 : r3 x5) {x6i : Int32} {x6 : Int} (ex6 : x6i = Z3 x6) (qx6 : r3 x6) : SimV OKM (F12_layGame_151 k2 k78 h 0 x1i x2i x3i x4i x5i x6i) (G12_layGame_151 kk2 kk78 (rd h) x1 x2 x3 x4 x5 x6) := by
  subst ex1 ex2 ex3 ex4 ex5 ex6
  unfold F12_layGame_151 G12_layGame_151
  refine sm_rd (m_gR_12_70 H) ?_
  refine sgxV fun c1 => ?_
  refine sm_rd (m_aI_12_70 H rfl c1).1 ?_
  refine sm_IV (S12_gainOf H rfl qx1 rfl qx6 rfl qx4) fun vo5 ho5 Ho5 ro5 => ?_
  refine sgxV fun c2 => ?_
  refine sg3V fun c3 => ?_
  refine sm_wt (m_sI_12_70 Ho5 rfl c2 (z3_add rfl rfl) c3) fun h8 Hh8 => ?_
  refine sg3V fun c4 => ?_
  exact hk78 Hh8 rfl qx1 rfl qx2 rfl qx3 rfl qx4 rfl qx5 (z3_add rfl l3_1) c4
theorem S12_layGame_172 {k2 : PH → Nat → Int32 → Int32 → Int32 → Option PH} {kk2 : Mem → Int → Int → Int → Option Mem} (hk2 : ∀ {h : PH} (_ : OKM h) {x2 : Int32} {y2 : Int} (_ : x2 = Z3 y2) (_ : r3 y2) {x3 : Int32} {y3 : Int} (_ : x3 = Z3 y3) (_ : r3 y3) {x4 : Int32} {y4 : Int} (_ : x4 = Z3 y4) (_ : r3 y4), SimV OKM (k2 h 0 x2 x3 x4) (kk2 (rd h) y2 y3 y4)) {k78 : PH → Nat → Int32 → Int32 → Int32 → Int32 → Int32 → Int32 → Option PH} {kk78 : Mem → Int → Int → Int → Int → Int → Int → Option Mem} (hk78 : ∀ {h : PH} (_ : OKM h) {x2 : Int32} {y2 : Int} (_ : x2 = Z3 y2) (_ : r3 y2) {x3 : Int32} {y3 : Int} (_ : x3 = Z3 y3) (_ : r3 y3) {x4 : Int32} {y4 : Int} (_ : x4 = Z3 y4) (_ : r3 y4) {x5 : Int32} {y5 : Int} (_ : x5 = Z3 y5) (_ : r3 y5) {x6 : Int32} {y6 : Int} (_ : x6 = Z3 y6) (_ : r3 y6) {x7 : Int32} {y7 : Int} (_ : x7 = Z3 y7) (_ : r3 y7), SimV OKM (k78 h 0 x2 x3 x4 x5 x6 x7) (kk78 (rd h) y2 y3 y4 y5 y6 y7)) {h : PH} (H : OKM h) {x1i : Int32} {x1 : Int} (ex1 : x1i = Z3 x1) (qx1 : r3 x1) {x2i : Int32} {x2 : Int} (ex2 : x2i = Z3 x2) (qx2 : r3 x2) {x3i : Int32} {x3 : Int} (ex3 : x3i = Z3 x3) (qx3 : r3 x3) {x4i : Int32} {x4 : Int} (ex4 : x4i = Z3 x4) (qx4 : r3 x4) {x5i : Int32} {x5 : Int} (ex5 : x5i = Z3 x5) (qx5 : r3 x5) {x6i : Int32} {x6 : Int} (ex6 : x6i = Z3 x6) (qx6 : r3 x6) : SimV OKM (F12_layGame_172 k2 k78 h 0 x1i x2i x3i x4i x5i x6i) (G12_layGame_172 kk2 kk78 (rd h) x1 x2 x3 x4 x5 x6) := by
  subst ex1 ex2 ex3 ex4 ex5 ex6
  unfold F12_layGame_172 G12_layGame_172
  refine sm_rd (m_gR_12_71 H) ?_
  refine sgxV fun c1 => ?_
  refine sm_rd (m_aI_12_71 H rfl c1).1 ?_
  refine sm_IV (S12_gainOf H rfl qx2 rfl qx6 rfl qx5) fun vo5 ho5 Ho5 ro5 => ?_
  refine sgxV fun c2 => ?_
  refine sg3V fun c3 => ?_
  refine sm_wt (m_sI_12_71 Ho5 rfl c2 (z3_add rfl rfl) c3) fun h8 Hh8 => ?_
  refine sg3V fun c4 => ?_
  exact hk78 Hh8 rfl qx1 rfl qx2 rfl qx3 rfl qx4 rfl qx5 (z3_add rfl l3_1) c4
theorem S12_layGame_78 {k2 : PH → Nat → Int32 → Int32 → Int32 → Option PH} {kk2 : Mem → Int → Int → Int → Option Mem} (hk2 : ∀ {h : PH} (_ : OKM h) {x2 : Int32} {y2 : Int} (_ : x2 = Z3 y2) (_ : r3 y2) {x3 : Int32} {y3 : Int} (_ : x3 = Z3 y3) (_ : r3 y3) {x4 : Int32} {y4 : Int} (_ : x4 = Z3 y4) (_ : r3 y4), SimV OKM (k2 h 0 x2 x3 x4) (kk2 (rd h) y2 y3 y4)) (n : Nat) : ∀ {h : PH} (H : OKM h) {x1i : Int32} {x1 : Int} (ex1 : x1i = Z3 x1) (qx1 : r3 x1) {x2i : Int32} {x2 : Int} (ex2 : x2i = Z3 x2) (qx2 : r3 x2) {x3i : Int32} {x3 : Int} (ex3 : x3i = Z3 x3) (qx3 : r3 x3) {x4i : Int32} {x4 : Int} (ex4 : x4i = Z3 x4) (qx4 : r3 x4) {x5i : Int32} {x5 : Int} (ex5 : x5i = Z3 x5) (qx5 : r3 x5) {x6i : Int32} {x6 : Int} (ex6 : x6i = Z3 x6) (qx6 : r3 x6), SimV OKM (F12_layGame_78 k2 n h 0 x1i x2i x3i x4i x5i x6i) (G12_layGame_78 kk2 n (rd h) x1 x2 x3 x4 x5 x6) := by
  induction n with
  | zero => intros; exact smV_none _
  | succ n ih =>
    intro h H x1i x1 ex1 qx1 x2i x2 ex2 qx2 x3i x3 ex3 qx3 x4i x4 ex4 qx4 x5i x5 ex5 qx5 x6i x6 ex6 qx6
    subst ex1 ex2 ex3 ex4 ex5 ex6
    rw [F12_layGame_78, G12_layGame_78]
    refine sm_rd (m_gI_12_16 H).1 ?_
    refine sm_if (z3_le rfl rfl (m_gI_12_16 H).2 qx6) ?_ ?_
    · refine sg3V fun c1 => ?_
      exact hk2 H rfl qx1 rfl qx2 (z3_add rfl l3_1) c1
    · refine sm_IV (S12_isToCome H rfl qx6) fun vo4 ho4 Ho4 ro4 => ?_
      refine sm_if (z3_eq rfl l3_0 ro4 lr3_0) ?_ ?_
      · refine sg3V fun c2 => ?_
        exact ih Ho4 rfl qx1 rfl qx2 rfl qx3 rfl qx4 rfl qx5 (z3_add rfl l3_1) c2
      · refine sm_rd (m_gR_12_34 Ho4) ?_
        refine sgxV fun c3 => ?_
        refine sm_rd (m_aI_12_34 Ho4 rfl c3).1 ?_
        refine sm_IV (S12_peakAt Ho4 rfl ((m_aI_12_34 Ho4 rfl c3).2)) fun vo11 ho11 Ho11 ro11 => ?_
        refine sm_IV (S12_far Ho11 rfl qx4 rfl ro11) fun vo13 ho13 Ho13 ro13 => ?_
        refine sm_IV (S12_far Ho13 rfl qx5 rfl ro11) fun vo15 ho15 Ho15 ro15 => ?_
        refine sm_if (z3_lt rfl rfl ro13 ro15) ?_ ?_
        · exact S12_layGame_151 hk2 (@fun _ H _ _ ex1 qx1 _ _ ex2 qx2 _ _ ex3 qx3 _ _ ex4 qx4 _ _ ex5 qx5 _ _ ex6 qx6 => ih H ex1 qx1 ex2 qx2 ex3 qx3 ex4 qx4 ex5 qx5 ex6 qx6) Ho15 rfl qx1 rfl qx2 rfl qx3 rfl qx4 rfl qx5 rfl qx6
        · refine sm_if (z3_eq rfl rfl ro13 ro15) ?_ ?_
          · refine sm_if (z3_le rfl rfl qx2 qx1) ?_ ?_
            · exact S12_layGame_172 hk2 (@fun _ H _ _ ex1 qx1 _ _ ex2 qx2 _ _ ex3 qx3 _ _ ex4 qx4 _ _ ex5 qx5 _ _ ex6 qx6 => ih H ex1 qx1 ex2 qx2 ex3 qx3 ex4 qx4 ex5 qx5 ex6 qx6) Ho15 rfl qx1 rfl qx2 rfl qx3 rfl qx4 rfl qx5 rfl qx6
            · exact S12_layGame_151 hk2 (@fun _ H _ _ ex1 qx1 _ _ ex2 qx2 _ _ ex3 qx3 _ _ ex4 qx4 _ _ ex5 qx5 _ _ ex6 qx6 => ih H ex1 qx1 ex2 qx2 ex3 qx3 ex4 qx4 ex5 qx5 ex6 qx6) Ho15 rfl qx1 rfl qx2 rfl qx3 rfl qx4 rfl qx5 rfl qx6
          · exact S12_layGame_172 hk2 (@fun _ H _ _ ex1 qx1 _ _ ex2 qx2 _ _ ex3 qx3 _ _ ex4 qx4 _ _ ex5 qx5 _ _ ex6 qx6 => ih H ex1 qx1 ex2 qx2 ex3 qx3 ex4 qx4 ex5 qx5 ex6 qx6) Ho15 rfl qx1 rfl qx2 rfl qx3 rfl qx4 rfl qx5 rfl qx6
theorem S12_layGame_2 (n : Nat) : ∀ {h : PH} (H : OKM h) {x1i : Int32} {x1 : Int} (ex1 : x1i = Z3 x1) (qx1 : r3 x1) {x2i : Int32} {x2 : Int} (ex2 : x2i = Z3 x2) (qx2 : r3 x2) {x3i : Int32} {x3 : Int} (ex3 : x3i = Z3 x3) (qx3 : r3 x3), SimV OKM (F12_layGame_2 n h 0 x1i x2i x3i) (G12_layGame_2 n (rd h) x1 x2 x3) := by
  induction n with
  | zero => intros; exact smV_none _
  | succ n ih =>
    intro h H x1i x1 ex1 qx1 x2i x2 ex2 qx2 x3i x3 ex3 qx3
    subst ex1 ex2 ex3
    rw [F12_layGame_2, G12_layGame_2]
    refine sm_if (z3_le l3_25 rfl lr3_25 qx3) ?_ ?_
    · exact sm_retV H
    · refine sgdV fun c1 => ?_
      refine sm_IV (S12_wayAt H (z3_div rfl l3_5 qx3 lr3_5 c1) (r3_div qx3 lr3_5 c1)) fun vo2 ho2 Ho2 ro2 => ?_
      refine sm_IV (S12_comesTo Ho2 rfl qx1 rfl ro2) fun vo4 ho4 Ho4 ro4 => ?_
      refine sgdV fun c2 => ?_
      refine sm_IV (S12_wayAt Ho4 (z3_rem rfl l3_5 qx3 lr3_5 c2) (r3_rem qx3 lr3_5 c2)) fun vo6 ho6 Ho6 ro6 => ?_
      refine sm_IV (S12_comesTo Ho6 rfl qx2 rfl ro6) fun vo8 ho8 Ho8 ro8 => ?_
      refine sm_rd (m_gR_12_70 Ho8) ?_
      refine sgxV fun c3 => ?_
      refine sm_wt (m_sI_12_70 Ho8 rfl c3 l3_m1 lr3_m1) fun h13 Hh13 => ?_
      refine sm_rd (m_gR_12_71 Hh13) ?_
      refine sgxV fun c4 => ?_
      refine sm_wt (m_sI_12_71 Hh13 rfl c4 l3_m1 lr3_m1) fun h17 Hh17 => ?_
      refine sm_if (z3_lt rfl l3_0 ro4 lr3_0) ?_ ?_
      · refine sg3V fun c5 => ?_
        exact ih Hh17 rfl qx1 rfl qx2 (z3_add rfl l3_1) c5
      · refine sm_if (z3_le l3_0 rfl lr3_0 ro8) ?_ ?_
        · refine sm_rd (m_gR_12_70 Hh17) ?_
          refine sgxV fun c6 => ?_
          refine sm_wt (m_sI_12_70 Hh17 rfl c6 l3_0 lr3_0) fun h23 Hh23 => ?_
          refine sm_rd (m_gR_12_71 Hh23) ?_
          refine sgxV fun c7 => ?_
          refine sm_wt (m_sI_12_71 Hh23 rfl c7 l3_0 lr3_0) fun h27 Hh27 => ?_
          exact S12_layGame_78 (@fun _ H _ _ ex1 qx1 _ _ ex2 qx2 _ _ ex3 qx3 => ih H ex1 qx1 ex2 qx2 ex3 qx3) 1024 Hh27 rfl qx1 rfl qx2 rfl qx3 rfl ro4 rfl ro8 l3_0 lr3_0
        · refine sg3V fun c8 => ?_
          exact ih Hh17 rfl qx1 rfl qx2 (z3_add rfl l3_1) c8
theorem S12_layGame_0 {h : PH} (H : OKM h) {x1i : Int32} {x1 : Int} (ex1 : x1i = Z3 x1) (qx1 : r3 x1) {x2i : Int32} {x2 : Int} (ex2 : x2i = Z3 x2) (qx2 : r3 x2) : SimV OKM (F12_layGame_0 h 0 x1i x2i) (G12_layGame_0 (rd h) x1 x2) := by
  subst ex1 ex2
  unfold F12_layGame_0 G12_layGame_0
  exact S12_layGame_2 1024 H rfl qx1 rfl qx2 l3_0 lr3_0
theorem S12_layGame {h : PH} (H : OKM h) {x1i : Int32} {x1 : Int} (ex1 : x1i = Z3 x1) (qx1 : r3 x1) {x2i : Int32} {x2 : Int} (ex2 : x2i = Z3 x2) (qx2 : r3 x2) : SimV OKM (F12_layGame h 0 x1i x2i) (G12_layGame (rd h) x1 x2) := by
  subst ex1 ex2
  unfold F12_layGame G12_layGame
  refine sm_cd (m_ok_12 H) ?_
  exact S12_layGame_0 H rfl qx1 rfl qx2
theorem S12_layPlan_124 {k17 : PH → Nat → Int32 → Int32 → Option PH} {kk17 : Mem → Int → Int → Option Mem} (hk17 : ∀ {h : PH} (_ : OKM h) {x2 : Int32} {y2 : Int} (_ : x2 = Z3 y2) (_ : r3 y2) {x3 : Int32} {y3 : Int} (_ : x3 = Z3 y3) (_ : r3 y3), SimV OKM (k17 h 0 x2 x3) (kk17 (rd h) y2 y3)) {h : PH} (H : OKM h) {x1i : Int32} {x1 : Int} (ex1 : x1i = Z3 x1) (qx1 : r3 x1) {x2i : Int32} {x2 : Int} (ex2 : x2i = Z3 x2) (qx2 : r3 x2) {s0i : Int32} {s0 : Int} (es0 : s0i = Z3 s0) (qs0 : r3 s0) {s1i : Int32} {s1 : Int} (es1 : s1i = Z3 s1) (qs1 : r3 s1) : SimV OKM (F12_layPlan_124 k17 h 0 x1i x2i s0i s1i 37) (G12_layPlan_124 kk17 (rd h) x1 x2 s0 s1) := by
  subst ex1 ex2 es0 es1
  unfold F12_layPlan_124 G12_layPlan_124
  refine sgxV fun c1 => ?_
  refine sm_wt (m_sI_12_72 H rfl c1 rfl qs0) fun h2 Hh2 => ?_
  refine sg3V fun c2 => ?_
  exact hk17 Hh2 rfl qx1 (z3_add rfl l3_m1) c2
theorem S12_layPlan_65 {k17 : PH → Nat → Int32 → Int32 → Option PH} {kk17 : Mem → Int → Int → Option Mem} (hk17 : ∀ {h : PH} (_ : OKM h) {x2 : Int32} {y2 : Int} (_ : x2 = Z3 y2) (_ : r3 y2) {x3 : Int32} {y3 : Int} (_ : x3 = Z3 y3) (_ : r3 y3), SimV OKM (k17 h 0 x2 x3) (kk17 (rd h) y2 y3)) {h : PH} (H : OKM h) {x1i : Int32} {x1 : Int} (ex1 : x1i = Z3 x1) (qx1 : r3 x1) {x2i : Int32} {x2 : Int} (ex2 : x2i = Z3 x2) (qx2 : r3 x2) {x3i : Int32} {x3 : Int} (ex3 : x3i = Z3 x3) (qx3 : r3 x3) : SimV OKM (F12_layPlan_65 k17 h 0 x1i x2i x3i) (G12_layPlan_65 kk17 (rd h) x1 x2 x3) := by
  subst ex1 ex2 ex3
  unfold F12_layPlan_65 G12_layPlan_65
  refine sm_rd (m_gR_12_73 H) ?_
  refine sgxV fun c1 => ?_
  refine sm_wt (m_sI_12_73 H rfl c1 rfl qx3) fun h4 Hh4 => ?_
  refine sm_rd (m_gR_12_55 Hh4) ?_
  refine sgxV fun c2 => ?_
  refine sm_rd (m_aI_12_55 Hh4 rfl c2).1 ?_
  refine sm_IV (S12_gainOf Hh4 rfl qx1 rfl qx2 rfl ((m_aI_12_55 Hh4 rfl c2).2)) fun vo9 ho9 Ho9 ro9 => ?_
  refine sm_rd (m_gR_12_72 Ho9) ?_
  refine sgxV fun c3 => ?_
  refine sm_rd (m_aI_12_72 Ho9 rfl c3).1 ?_
  refine sm_rd (m_gR_12_72 Ho9) ?_
  refine sm_rd (m_gR_12_72 Ho9) ?_
  refine sgxV fun c4 => ?_
  refine sm_rd (m_aI_12_72 Ho9 (z3_add rfl l3_1) c4).1 ?_
  refine sg3V fun c5 => ?_
  refine sm_if (z3_lt (z3_add rfl rfl) rfl c5 (m_aI_12_72 Ho9 (z3_add rfl l3_1) c4).2) ?_ ?_
  · refine sm_rd (m_gR_12_72 Ho9) ?_
    refine sgxV fun c6 => ?_
    refine sm_rd (m_aI_12_72 Ho9 (z3_add rfl l3_1) c6).1 ?_
    exact S12_layPlan_124 hk17 Ho9 rfl qx1 rfl qx2 rfl ((m_aI_12_72 Ho9 (z3_add rfl l3_1) c6).2) rfl qx2
  · refine sg3V fun c7 => ?_
    exact S12_layPlan_124 hk17 Ho9 rfl qx1 rfl qx2 (z3_add rfl rfl) c7 rfl qx2
theorem S12_layPlan_33 {k17 : PH → Nat → Int32 → Int32 → Option PH} {kk17 : Mem → Int → Int → Option Mem} (hk17 : ∀ {h : PH} (_ : OKM h) {x2 : Int32} {y2 : Int} (_ : x2 = Z3 y2) (_ : r3 y2) {x3 : Int32} {y3 : Int} (_ : x3 = Z3 y3) (_ : r3 y3), SimV OKM (k17 h 0 x2 x3) (kk17 (rd h) y2 y3)) (n : Nat) : ∀ {h : PH} (H : OKM h) {x1i : Int32} {x1 : Int} (ex1 : x1i = Z3 x1) (qx1 : r3 x1) {x2i : Int32} {x2 : Int} (ex2 : x2i = Z3 x2) (qx2 : r3 x2) {x3i : Int32} {x3 : Int} (ex3 : x3i = Z3 x3) (qx3 : r3 x3) {x4i : Int32} {x4 : Int} (ex4 : x4i = Z3 x4) (qx4 : r3 x4), SimV OKM (F12_layPlan_33 k17 n h 0 x1i x2i x3i x4i) (G12_layPlan_33 kk17 n (rd h) x1 x2 x3 x4) := by
  induction n with
  | zero => intros; exact smV_none _
  | succ n ih =>
    intro h H x1i x1 ex1 qx1 x2i x2 ex2 qx2 x3i x3 ex3 qx3 x4i x4 ex4 qx4
    subst ex1 ex2 ex3 ex4
    rw [F12_layPlan_33, G12_layPlan_33]
    refine sm_rd (m_gI_12_16 H).1 ?_
    refine sm_if (z3_le rfl rfl (m_gI_12_16 H).2 qx3) ?_ ?_
    · exact S12_layPlan_65 hk17 H rfl qx1 rfl qx2 rfl qx3
    · refine sm_rd (m_gR_12_34 H) ?_
      refine sgxV fun c1 => ?_
      refine sm_rd (m_aI_12_34 H rfl c1).1 ?_
      refine sm_rd (m_gR_12_34 H) ?_
      refine sgxV fun c2 => ?_
      refine sm_rd (m_aI_12_34 H rfl c2).1 ?_
      refine sg3V fun c3 => ?_
      refine sm_if (z3_le (z3_add rfl rfl) rfl c3 (m_aI_12_34 H rfl c1).2) ?_ ?_
      · exact S12_layPlan_65 hk17 H rfl qx1 rfl qx2 rfl qx3
      · refine sg3V fun c4 => ?_
        exact ih H rfl qx1 rfl qx2 (z3_add rfl l3_1) c4 rfl qx4
theorem S12_layPlan_17 (n : Nat) : ∀ {h : PH} (H : OKM h) {x1i : Int32} {x1 : Int} (ex1 : x1i = Z3 x1) (qx1 : r3 x1) {x2i : Int32} {x2 : Int} (ex2 : x2i = Z3 x2) (qx2 : r3 x2), SimV OKM (F12_layPlan_17 n h 0 x1i x2i) (G12_layPlan_17 n (rd h) x1 x2) := by
  induction n with
  | zero => intros; exact smV_none _
  | succ n ih =>
    intro h H x1i x1 ex1 qx1 x2i x2 ex2 qx2
    subst ex1 ex2
    rw [F12_layPlan_17, G12_layPlan_17]
    refine sm_if (z3_lt rfl l3_0 qx2 lr3_0) ?_ ?_
    · exact sm_retV H
    · refine sm_IV (S12_awayOf H rfl qx1 rfl qx2) fun vo2 ho2 Ho2 ro2 => ?_
      refine sg3V fun c1 => ?_
      exact S12_layPlan_33 (@fun _ H _ _ ex1 qx1 _ _ ex2 qx2 => ih H ex1 qx1 ex2 qx2) 1024 Ho2 rfl qx1 rfl qx2 (z3_add rfl l3_1) c1 rfl ro2
theorem S12_layPlan_0 {h : PH} (H : OKM h) {x1i : Int32} {x1 : Int} (ex1 : x1i = Z3 x1) (qx1 : r3 x1) : SimV OKM (F12_layPlan_0 h 0 x1i) (G12_layPlan_0 (rd h) x1) := by
  subst ex1
  unfold F12_layPlan_0 G12_layPlan_0
  refine sm_rd (m_gR_12_72 H) ?_
  refine sm_rd (m_gI_12_16 H).1 ?_
  refine sgxV fun c1 => ?_
  refine sm_wt (m_sI_12_72 H rfl c1 l3_0 lr3_0) fun h6 Hh6 => ?_
  refine sm_rd (m_gI_12_16 Hh6).1 ?_
  refine sg3V fun c2 => ?_
  exact S12_layPlan_17 1024 Hh6 rfl qx1 (z3_sub rfl l3_1) c2
theorem S12_layPlan {h : PH} (H : OKM h) {x1i : Int32} {x1 : Int} (ex1 : x1i = Z3 x1) (qx1 : r3 x1) : SimV OKM (F12_layPlan h 0 x1i) (G12_layPlan (rd h) x1) := by
  subst ex1
  unfold F12_layPlan G12_layPlan
  refine sm_cd (m_ok_12 H) ?_
  exact S12_layPlan_0 H rfl qx1
theorem S12_waitsFor_0 {h : PH} (H : OKM h) {x1i : Int32} {x1 : Int} (ex1 : x1i = Z3 x1) (qx1 : r3 x1) : SimV OKM (F12_waitsFor_0 h 0 x1i) (G12_waitsFor_0 (rd h) x1) := by
  subst ex1
  unfold F12_waitsFor_0 G12_waitsFor_0
  refine sm_rd (m_gR_12_44 H) ?_
  refine sm_rd (m_gI_12_46 H).1 ?_
  refine sgxV fun c1 => ?_
  refine sm_wt (m_sI_12_44 H rfl c1 rfl qx1) fun h6 Hh6 => ?_
  refine sm_rd (m_gI_12_46 Hh6).1 ?_
  refine sg3V fun c2 => ?_
  refine sm_wt (m_pI_12_46 Hh6 (z3_add rfl l3_1) c2) fun h9 Hh9 => ?_
  exact sm_retV Hh9
theorem S12_waitsFor {h : PH} (H : OKM h) {x1i : Int32} {x1 : Int} (ex1 : x1i = Z3 x1) (qx1 : r3 x1) : SimV OKM (F12_waitsFor h 0 x1i) (G12_waitsFor (rd h) x1) := by
  subst ex1
  unfold F12_waitsFor G12_waitsFor
  refine sm_cd (m_ok_12 H) ?_
  exact S12_waitsFor_0 H rfl qx1
theorem S12_nameMet_0 {h : PH} (H : OKM h) : SimI OKM (F12_nameMet_0 h 0) (G12_nameMet_0 (rd h)) := by
  unfold F12_nameMet_0 G12_nameMet_0
  refine sm_rd (m_gI_12_8 H).1 ?_
  refine sm_if (z3_eq rfl l3_1 (m_gI_12_8 H).2 lr3_1) ?_ ?_
  · refine sm_rd (m_gI_12_9 H).1 ?_
    refine sm_if (z3_lt rfl l3_18 (m_gI_12_9 H).2 lr3_18) ?_ ?_
    · exact sm_retI H l3_m1 lr3_m1
    · refine sm_rd (m_gI_12_9 H).1 ?_
      refine sg3I fun c1 => ?_
      exact sm_retI H (z3_sub rfl l3_18) c1
  · exact sm_retI H l3_m1 lr3_m1
theorem S12_nameMet {h : PH} (H : OKM h) : SimI OKM (F12_nameMet h 0) (G12_nameMet (rd h)) := by
  unfold F12_nameMet G12_nameMet
  refine sm_cd (m_ok_12 H) ?_
  exact S12_nameMet_0 H
theorem S12_leafRead_160 {h : PH} (H : OKM h) {s0i : Int32} {s0 : Int} (es0 : s0i = Z3 s0) (qs0 : r3 s0) {s1i : Int32} {s1 : Int} (es1 : s1i = Z3 s1) (qs1 : r3 s1) : SimI OKM (F12_leafRead_160 h 0 s0i s1i 0) (G12_leafRead_160 (rd h) s0 s1) := by
  subst es0 es1
  unfold F12_leafRead_160 G12_leafRead_160
  refine sm_VI (S12_grown H rfl qs1 rfl qs0 l3_0 lr3_0) fun ho1 Ho1 => ?_
  refine sm_wt (m_pZ_12_50 Ho1 l3_0 (by decide)) fun h3 Hh3 => ?_
  refine sm_VI (S12_token Hh3) fun ho5 Ho5 => ?_
  exact sm_rz Ho5 l3_1 (by decide)
theorem S12_leafRead_148 {h : PH} (H : OKM h) {x1i : Int32} {x1 : Int} (ex1 : x1i = Z3 x1) (qx1 : r3 x1) {s0i : Int32} {s0 : Int} (es0 : s0i = Z3 s0) (qs0 : r3 s0) : SimI OKM (F12_leafRead_148 h 0 x1i s0i 0) (G12_leafRead_148 (rd h) x1 s0) := by
  subst ex1 es0
  unfold F12_leafRead_148 G12_leafRead_148
  refine sm_if (z3_lt rfl l3_0 qx1 lr3_0) ?_ ?_
  · refine sm_rd (m_gI_12_9 H).1 ?_
    exact S12_leafRead_160 H rfl ((m_gI_12_9 H).2) rfl qs0
  · exact S12_leafRead_160 H rfl qx1 rfl qs0
theorem S12_leafRead_129 {h : PH} (H : OKM h) {x1i : Int32} {x1 : Int} (ex1 : x1i = Z3 x1) (qx1 : r3 x1) : SimI OKM (F12_leafRead_129 h 0 x1i) (G12_leafRead_129 (rd h) x1) := by
  subst ex1
  unfold F12_leafRead_129 G12_leafRead_129
  refine sm_II (S12_isCounted H) fun vo1 ho1 Ho1 ro1 => ?_
  refine sm_if (z3_eq rfl l3_0 ro1 lr3_0) ?_ ?_
  · exact sm_rz Ho1 l3_0 (by decide)
  · refine sm_if (z3_lt rfl l3_0 qx1 lr3_0) ?_ ?_
    · exact S12_leafRead_148 Ho1 rfl qx1 l3_0 lr3_0
    · exact S12_leafRead_148 Ho1 rfl qx1 l3_1 lr3_1
theorem S12_leafRead_109 {h : PH} (H : OKM h) {x1i : Int32} {x1 : Int} (ex1 : x1i = Z3 x1) (qx1 : r3 x1) : SimI OKM (F12_leafRead_109 h 0 x1i) (G12_leafRead_109 (rd h) x1) := by
  subst ex1
  unfold F12_leafRead_109 G12_leafRead_109
  refine sm_if (z3_le l3_0 rfl lr3_0 qx1) ?_ ?_
  · exact S12_leafRead_129 H rfl qx1
  · refine sm_rd (m_gI_12_9 H).1 ?_
    refine sm_if (z3_le rfl l3_9999 (m_gI_12_9 H).2 lr3_9999) ?_ ?_
    · exact S12_leafRead_129 H rfl qx1
    · refine sm_II (S12_wrong H l3_2 lr3_2) fun vo5 ho5 Ho5 ro5 => ?_
      refine sgbI fun c1 => ?_
      exact sm_rz Ho5 rfl c1
theorem S12_leafRead_86 {h : PH} (H : OKM h) : SimI OKM (F12_leafRead_86 h 0) (G12_leafRead_86 (rd h)) := by
  unfold F12_leafRead_86 G12_leafRead_86
  refine sm_II (S12_nameMet H) fun vo1 ho1 Ho1 ro1 => ?_
  refine sm_if (z3_le l3_0 rfl lr3_0 ro1) ?_ ?_
  · exact S12_leafRead_109 Ho1 rfl ro1
  · refine sm_rd (m_gI_12_8 Ho1).1 ?_
    refine sm_if (z3_eq rfl l3_3 (m_gI_12_8 Ho1).2 lr3_3) ?_ ?_
    · exact S12_leafRead_109 Ho1 rfl ro1
    · refine sm_II (S12_wrong Ho1 l3_1 lr3_1) fun vo7 ho7 Ho7 ro7 => ?_
      refine sgbI fun c1 => ?_
      exact sm_rz Ho7 rfl c1
theorem S12_leafRead_0 {h : PH} (H : OKM h) : SimI OKM (F12_leafRead_0 h 0) (G12_leafRead_0 (rd h)) := by
  unfold F12_leafRead_0 G12_leafRead_0
  refine sm_II (S12_isSign H l3_40 lr3_40) fun vo1 ho1 Ho1 ro1 => ?_
  refine sm_if (z3_eq rfl l3_0 ro1 lr3_0) ?_ ?_
  · refine sm_II (S12_isKey Ho1 l3_17 lr3_17) fun vo4 ho4 Ho4 ro4 => ?_
    refine sm_if (z3_eq rfl l3_0 ro4 lr3_0) ?_ ?_
    · exact S12_leafRead_86 Ho4
    · refine sm_rd (m_gI_12_51 Ho4).1 ?_
      refine sm_if (z3_eq rfl l3_0 (m_gI_12_51 Ho4).2 lr3_0) ?_ ?_
      · exact S12_leafRead_86 Ho4
      · refine sm_II (S12_isCounted Ho4) fun vo10 ho10 Ho10 ro10 => ?_
        refine sm_if (z3_eq rfl l3_0 ro10 lr3_0) ?_ ?_
        · exact sm_rz Ho10 l3_0 (by decide)
        · refine sm_VI (S12_waitsFor Ho10 l3_2 lr3_2) fun ho13 Ho13 => ?_
          refine sm_VI (S12_token Ho13) fun ho15 Ho15 => ?_
          exact sm_rz Ho15 l3_1 (by decide)
  · refine sm_rd (m_gI_12_48 Ho1).1 ?_
    refine sm_if (z3_eq rfl l3_8 (m_gI_12_48 Ho1).2 lr3_8) ?_ ?_
    · refine sm_II (S12_wrong Ho1 l3_2 lr3_2) fun vo30 ho30 Ho30 ro30 => ?_
      refine sgbI fun c1 => ?_
      exact sm_rz Ho30 rfl c1
    · refine sm_rd (m_gI_12_48 Ho1).1 ?_
      refine sg3I fun c2 => ?_
      refine sm_wt (m_pI_12_48 Ho1 (z3_add rfl l3_1) c2) fun h22 Hh22 => ?_
      refine sm_VI (S12_waitsFor Hh22 l3_0 lr3_0) fun ho24 Ho24 => ?_
      refine sm_wt (m_pZ_12_51 Ho24 l3_1 (by decide)) fun h26 Hh26 => ?_
      refine sm_VI (S12_token Hh26) fun ho28 Ho28 => ?_
      exact sm_rz Ho28 l3_1 (by decide)
theorem S12_leafRead {h : PH} (H : OKM h) : SimI OKM (F12_leafRead h 0) (G12_leafRead (rd h)) := by
  unfold F12_leafRead G12_leafRead
  refine sm_cd (m_ok_12 H) ?_
  exact S12_leafRead_0 H
theorem S12_seaLine_0 {h : PH} (H : OKM h) : SimI OKM (F12_seaLine_0 h 0) (G12_seaLine_0 (rd h)) := by
  unfold F12_seaLine_0 G12_seaLine_0
  refine sm_rd (m_gR_12_25 H) ?_
  refine sm_rd (m_aI_12_25 H l3_0 ⟨by decide, by decide⟩).1 ?_
  refine sm_if (z3_eq rfl l3_0 (m_aI_12_25 H l3_0 ⟨by decide, by decide⟩).2 lr3_0) ?_ ?_
  · refine sm_rd (m_gI_12_24 H).1 ?_
    refine sm_if (z3_eq rfl l3_0 (m_gI_12_24 H).2 lr3_0) ?_ ?_
    · refine sm_rd (m_gR_12_25 H) ?_
      refine sgbI fun c1 => ?_
      refine sm_wt (m_sI_12_25 H l3_0 ⟨by decide, by decide⟩ (z3_bo l3_1 c1) (r3_b c1)) fun h12 Hh12 => ?_
      refine sm_VI (S12_token Hh12) fun ho13 Ho13 => ?_
      refine sm_II (S12_number Ho13 l3_1 lr3_1 l3_8 lr3_8) fun vo15 ho15 Ho15 ro15 => ?_
      refine sm_if (z3_eq rfl l3_0 ro15 lr3_0) ?_ ?_
      · exact sm_rz Ho15 l3_0 (by decide)
      · refine sm_rd (m_gI_12_11 Ho15).1 ?_
        refine sm_wt (m_pI_12_18 Ho15 rfl (m_gI_12_11 Ho15).2) fun h20 Hh20 => ?_
        refine sm_II (S12_number Hh20 l3_1 lr3_1 l3_6 lr3_6) fun vo22 ho22 Ho22 ro22 => ?_
        refine sm_if (z3_eq rfl l3_0 ro22 lr3_0) ?_ ?_
        · exact sm_rz Ho22 l3_0 (by decide)
        · refine sm_rd (m_gI_12_11 Ho22).1 ?_
          refine sm_wt (m_pI_12_19 Ho22 rfl (m_gI_12_11 Ho22).2) fun h27 Hh27 => ?_
          exact sm_rz Hh27 l3_1 (by decide)
    · refine sm_II (S12_wrong H l3_4 lr3_4) fun vo29 ho29 Ho29 ro29 => ?_
      refine sgbI fun c2 => ?_
      exact sm_rz Ho29 rfl c2
  · refine sm_II (S12_wrong H l3_3 lr3_3) fun vo31 ho31 Ho31 ro31 => ?_
    refine sgbI fun c3 => ?_
    exact sm_rz Ho31 rfl c3
theorem S12_seaLine {h : PH} (H : OKM h) : SimI OKM (F12_seaLine h 0) (G12_seaLine (rd h)) := by
  unfold F12_seaLine G12_seaLine
  refine sm_cd (m_ok_12 H) ?_
  exact S12_seaLine_0 H
theorem S12_surferLine_0 {h : PH} (H : OKM h) : SimI OKM (F12_surferLine_0 h 0) (G12_surferLine_0 (rd h)) := by
  unfold F12_surferLine_0 G12_surferLine_0
  refine sm_rd (m_gI_12_20 H).1 ?_
  refine sm_if (z3_eq rfl l3_5 (m_gI_12_20 H).2 lr3_5) ?_ ?_
  · refine sm_II (S12_wrong H l3_2 lr3_2) fun vo85 ho85 Ho85 ro85 => ?_
    refine sgbI fun c1 => ?_
    exact sm_rz Ho85 rfl c1
  · refine sm_VI (S12_token H) fun ho4 Ho4 => ?_
    refine sm_rd (m_gI_12_8 Ho4).1 ?_
    refine sm_if (z3_eq rfl l3_2 (m_gI_12_8 Ho4).2 lr3_2) ?_ ?_
    · refine sm_rd (m_gR_12_27 Ho4) ?_
      refine sm_rd (m_gI_12_20 Ho4).1 ?_
      refine sm_rd (m_gI_12_9 Ho4).1 ?_
      refine sm_II (S12_find Ho4 l3_5 lr3_5 rfl ((m_gI_12_20 Ho4).2) rfl ((m_gI_12_9 Ho4).2)) fun vo15 ho15 Ho15 ro15 => ?_
      refine sm_if (z3_lt rfl l3_0 ro15 lr3_0) ?_ ?_
      · refine sm_rd (m_gI_12_20 Ho15).1 ?_
        refine sm_rd (m_gR_12_27 Ho15) ?_
        refine sm_rd (m_gI_12_9 Ho15).1 ?_
        refine sgxI fun c2 => ?_
        refine sm_wt (m_sI_12_27 Ho15 (z3_add l3_5 rfl) c2 rfl (m_gI_12_9 Ho15).2) fun h25 Hh25 => ?_
        refine sm_VI (S12_token Hh25) fun ho26 Ho26 => ?_
        refine sm_II (S12_cellRead Ho26) fun vo28 ho28 Ho28 ro28 => ?_
        refine sm_if (z3_eq rfl l3_0 ro28 lr3_0) ?_ ?_
        · exact sm_rz Ho28 l3_0 (by decide)
        · refine sm_rd (m_gR_12_28 Ho28) ?_
          refine sm_rd (m_gI_12_18 Ho28).1 ?_
          refine sm_rd (m_gI_12_11 Ho28).1 ?_
          refine sm_rd (m_gI_12_43 Ho28).1 ?_
          refine sgxI fun c3 => ?_
          refine sg3I fun c4 => ?_
          refine sm_wt (m_sI_12_28 Ho28 (z3_add l3_5 rfl) c3 (z3_add (z3_mul rfl rfl) rfl) c4) fun h40 Hh40 => ?_
          refine sm_II (S12_number Hh40 l3_1 lr3_1 l3_9 lr3_9) fun vo41 ho41 Ho41 ro41 => ?_
          refine sm_if (z3_eq rfl l3_0 ro41 lr3_0) ?_ ?_
          · exact sm_rz Ho41 l3_0 (by decide)
          · refine sm_rd (m_gR_12_29 Ho41) ?_
            refine sm_rd (m_gI_12_11 Ho41).1 ?_
            refine sgxI fun c5 => ?_
            refine sm_wt (m_sI_12_29 Ho41 (z3_add l3_5 rfl) c5 rfl (m_gI_12_11 Ho41).2) fun h49 Hh49 => ?_
            refine sm_II (S12_number Hh49 l3_1 lr3_1 l3_3 lr3_3) fun vo50 ho50 Ho50 ro50 => ?_
            refine sm_if (z3_eq rfl l3_0 ro50 lr3_0) ?_ ?_
            · exact sm_rz Ho50 l3_0 (by decide)
            · refine sm_rd (m_gR_12_30 Ho50) ?_
              refine sm_rd (m_gI_12_11 Ho50).1 ?_
              refine sgxI fun c6 => ?_
              refine sm_wt (m_sI_12_30 Ho50 (z3_add l3_5 rfl) c6 rfl (m_gI_12_11 Ho50).2) fun h58 Hh58 => ?_
              refine sm_II (S12_number Hh58 l3_0 lr3_0 l3_100 lr3_100) fun vo59 ho59 Ho59 ro59 => ?_
              refine sm_if (z3_eq rfl l3_0 ro59 lr3_0) ?_ ?_
              · exact sm_rz Ho59 l3_0 (by decide)
              · refine sm_rd (m_gR_12_31 Ho59) ?_
                refine sm_rd (m_gI_12_11 Ho59).1 ?_
                refine sgxI fun c7 => ?_
                refine sm_wt (m_sI_12_31 Ho59 (z3_add l3_5 rfl) c7 rfl (m_gI_12_11 Ho59).2) fun h67 Hh67 => ?_
                refine sm_II (S12_number Hh67 l3_0 lr3_0 l3_100 lr3_100) fun vo68 ho68 Ho68 ro68 => ?_
                refine sm_if (z3_eq rfl l3_0 ro68 lr3_0) ?_ ?_
                · exact sm_rz Ho68 l3_0 (by decide)
                · refine sm_rd (m_gR_12_32 Ho68) ?_
                  refine sm_rd (m_gI_12_11 Ho68).1 ?_
                  refine sgxI fun c8 => ?_
                  refine sm_wt (m_sI_12_32 Ho68 (z3_add l3_5 rfl) c8 rfl (m_gI_12_11 Ho68).2) fun h76 Hh76 => ?_
                  refine sm_rd (m_gI_12_20 Hh76).1 ?_
                  refine sg3I fun c9 => ?_
                  refine sm_wt (m_pI_12_20 Hh76 (z3_add rfl l3_1) c9) fun h79 Hh79 => ?_
                  exact sm_rz Hh79 l3_1 (by decide)
      · refine sm_II (S12_wrong Ho15 l3_3 lr3_3) fun vo81 ho81 Ho81 ro81 => ?_
        refine sgbI fun c10 => ?_
        exact sm_rz Ho81 rfl c10
    · refine sm_II (S12_wrong Ho4 l3_1 lr3_1) fun vo83 ho83 Ho83 ro83 => ?_
      refine sgbI fun c11 => ?_
      exact sm_rz Ho83 rfl c11
theorem S12_surferLine {h : PH} (H : OKM h) : SimI OKM (F12_surferLine h 0) (G12_surferLine (rd h)) := by
  unfold F12_surferLine G12_surferLine
  refine sm_cd (m_ok_12 H) ?_
  exact S12_surferLine_0 H
theorem S12_setLine_110 (n : Nat) : ∀ {h : PH} (H : OKM h) {x2i : Int32} {x2 : Int} (ex2 : x2i = Z3 x2) (qx2 : r3 x2) {x3i : Int32} {x3 : Int} (ex3 : x3i = Z3 x3) (qx3 : r3 x3), SimI OKM (F12_setLine_110 n h 0 x2i x3i) (G12_setLine_110 n (rd h) x2 x3) := by
  induction n with
  | zero => intros; exact smI_none _
  | succ n ih =>
    intro h H x2i x2 ex2 qx2 x3i x3 ex3 qx3
    subst ex2 ex3
    rw [F12_setLine_110, G12_setLine_110]
    refine sm_rd (m_gI_12_8 H).1 ?_
    refine sm_if (z3_eq rfl l3_3 (m_gI_12_8 H).2 lr3_3) ?_ ?_
    · refine sm_if (z3_eq rfl l3_7 qx3 lr3_7) ?_ ?_
      · refine sm_II (S12_wrong H l3_2 lr3_2) fun vo38 ho38 Ho38 ro38 => ?_
        refine sgbI fun c1 => ?_
        exact sm_rz Ho38 rfl c1
      · refine sm_II (S12_number H l3_1 lr3_1 l3_9 lr3_9) fun vo9 ho9 Ho9 ro9 => ?_
        refine sm_if (z3_eq rfl l3_0 ro9 lr3_0) ?_ ?_
        · exact sm_rz Ho9 l3_0 (by decide)
        · refine sm_rd (m_gR_12_34 Ho9) ?_
          refine sm_rd (m_gI_12_22 Ho9).1 ?_
          refine sgxI fun c2 => ?_
          refine sg3I fun c3 => ?_
          refine sm_wt (m_sI_12_34 Ho9 (z3_add l3_28 rfl) c2 (z3_add rfl rfl) c3) fun h17 Hh17 => ?_
          refine sm_rd (m_gR_12_35 Hh17) ?_
          refine sm_rd (m_gI_12_22 Hh17).1 ?_
          refine sm_rd (m_gI_12_11 Hh17).1 ?_
          refine sgxI fun c4 => ?_
          refine sm_wt (m_sI_12_35 Hh17 (z3_add l3_28 rfl) c4 rfl (m_gI_12_11 Hh17).2) fun h25 Hh25 => ?_
          refine sm_rd (m_gR_12_36 Hh25) ?_
          refine sm_rd (m_gI_12_22 Hh25).1 ?_
          refine sm_rd (m_gI_12_21 Hh25).1 ?_
          refine sgxI fun c5 => ?_
          refine sm_wt (m_sI_12_36 Hh25 (z3_add l3_28 rfl) c5 rfl (m_gI_12_21 Hh25).2) fun h33 Hh33 => ?_
          refine sm_rd (m_gI_12_22 Hh33).1 ?_
          refine sg3I fun c6 => ?_
          refine sm_wt (m_pI_12_22 Hh33 (z3_add rfl l3_1) c6) fun h36 Hh36 => ?_
          refine sg3I fun c7 => ?_
          exact ih Hh36 rfl qx2 (z3_add rfl l3_1) c7
    · refine sm_rd (m_gI_12_21 H).1 ?_
      refine sg3I fun c8 => ?_
      refine sm_wt (m_pI_12_21 H (z3_add rfl l3_1) c8) fun h6 Hh6 => ?_
      exact sm_rz Hh6 l3_1 (by decide)
theorem S12_setLine_74 {h : PH} (H : OKM h) : SimI OKM (F12_setLine_74 h 0) (G12_setLine_74 (rd h)) := by
  unfold F12_setLine_74 G12_setLine_74
  refine sm_rd (m_gI_12_11 H).1 ?_
  refine sm_rd (m_gI_12_8 H).1 ?_
  refine sm_if (z3_eq rfl l3_3 (m_gI_12_8 H).2 lr3_3) ?_ ?_
  · refine sm_rd (m_gR_12_33 H) ?_
    refine sm_rd (m_gI_12_21 H).1 ?_
    refine sm_rd (m_gI_12_22 H).1 ?_
    refine sgxI fun c1 => ?_
    refine sm_wt (m_sI_12_33 H (z3_add l3_4 rfl) c1 rfl (m_gI_12_22 H).2) fun h13 Hh13 => ?_
    exact S12_setLine_110 1024 Hh13 rfl ((m_gI_12_11 H).2) l3_0 lr3_0
  · refine sm_II (S12_wrong H l3_1 lr3_1) fun vo14 ho14 Ho14 ro14 => ?_
    refine sgbI fun c2 => ?_
    exact sm_rz Ho14 rfl c2
theorem S12_setLine_0 {h : PH} (H : OKM h) : SimI OKM (F12_setLine_0 h 0) (G12_setLine_0 (rd h)) := by
  unfold F12_setLine_0 G12_setLine_0
  refine sm_rd (m_gI_12_21 H).1 ?_
  refine sm_if (z3_eq rfl l3_4 (m_gI_12_21 H).2 lr3_4) ?_ ?_
  · refine sm_II (S12_wrong H l3_2 lr3_2) fun vo27 ho27 Ho27 ro27 => ?_
    refine sgbI fun c1 => ?_
    exact sm_rz Ho27 rfl c1
  · refine sm_VI (S12_token H) fun ho4 Ho4 => ?_
    refine sm_rd (m_gI_12_10 Ho4).1 ?_
    refine sm_II (S12_number Ho4 l3_0 lr3_0 l3_99 lr3_99) fun vo8 ho8 Ho8 ro8 => ?_
    refine sm_if (z3_eq rfl l3_0 ro8 lr3_0) ?_ ?_
    · exact sm_rz Ho8 l3_0 (by decide)
    · refine sm_rd (m_gI_12_22 Ho8).1 ?_
      refine sm_if (z3_le rfl l3_0 (m_gI_12_22 Ho8).2 lr3_0) ?_ ?_
      · exact S12_setLine_74 Ho8
      · refine sm_rd (m_gI_12_11 Ho8).1 ?_
        refine sm_rd (m_gR_12_34 Ho8) ?_
        refine sm_rd (m_gI_12_22 Ho8).1 ?_
        refine sgxI fun c2 => ?_
        refine sm_rd (m_aI_12_34 Ho8 (z3_sub (z3_add l3_28 rfl) l3_1) c2).1 ?_
        refine sm_if (z3_lt rfl rfl (m_aI_12_34 Ho8 (z3_sub (z3_add l3_28 rfl) l3_1) c2).2 (m_gI_12_11 Ho8).2) ?_ ?_
        · exact S12_setLine_74 Ho8
        · refine sm_wt (m_pI_12_10 Ho8 rfl (m_gI_12_10 Ho4).2) fun h23 Hh23 => ?_
          refine sm_II (S12_wrong Hh23 l3_5 lr3_5) fun vo25 ho25 Ho25 ro25 => ?_
          refine sgbI fun c3 => ?_
          exact sm_rz Ho25 rfl c3
theorem S12_setLine {h : PH} (H : OKM h) : SimI OKM (F12_setLine h 0) (G12_setLine (rd h)) := by
  unfold F12_setLine G12_setLine
  refine sm_cd (m_ok_12 H) ?_
  exact S12_setLine_0 H
theorem S12_onceLine_168 {h : PH} (H : OKM h) : SimI OKM (F12_onceLine_168 h 0) (G12_onceLine_168 (rd h)) := by
  unfold F12_onceLine_168 G12_onceLine_168
  refine sm_II (S12_wrong H l3_1 lr3_1) fun vo1 ho1 Ho1 ro1 => ?_
  refine sgbI fun c1 => ?_
  exact sm_rz Ho1 rfl c1
theorem S12_onceLine_37 {h : PH} (H : OKM h) {s0i : Int32} {s0 : Int} (es0 : s0i = Z3 s0) (qs0 : r3 s0) : SimI OKM (F12_onceLine_37 h 0 s0i) (G12_onceLine_37 (rd h) s0) := by
  subst es0
  unfold F12_onceLine_37 G12_onceLine_37
  refine sm_rd (m_gR_12_25 H) ?_
  refine sgxI fun c1 => ?_
  refine sm_rd (m_aI_12_25 H rfl c1).1 ?_
  refine sm_if (z3_eq rfl l3_0 (m_aI_12_25 H rfl c1).2 lr3_0) ?_ ?_
  · refine sm_rd (m_gR_12_25 H) ?_
    refine sgxI fun c2 => ?_
    refine sgbI fun c3 => ?_
    refine sm_wt (m_sI_12_25 H rfl c2 (z3_bo l3_1 c3) (r3_b c3)) fun h9 Hh9 => ?_
    refine sm_if (z3_eq rfl l3_2 qs0 lr3_2) ?_ ?_
    · refine sm_II (S12_bankLine Hh9) fun vo56 ho56 Ho56 ro56 => ?_
      refine sgbI fun c4 => ?_
      exact sm_rz Ho56 rfl c4
    · refine sm_VI (S12_token Hh9) fun ho11 Ho11 => ?_
      refine sm_if (z3_eq rfl l3_1 qs0 lr3_1) ?_ ?_
      · refine sm_II (S12_cellRead Ho11) fun vo41 ho41 Ho41 ro41 => ?_
        refine sm_if (z3_eq rfl l3_0 ro41 lr3_0) ?_ ?_
        · exact sm_rz Ho41 l3_0 (by decide)
        · refine sm_rd (m_gR_12_26 Ho41) ?_
          refine sm_rd (m_gI_12_43 Ho41).1 ?_
          refine sm_wt (m_sI_12_26 Ho41 l3_7 ⟨by decide, by decide⟩ rfl (m_gI_12_43 Ho41).2) fun h49 Hh49 => ?_
          refine sm_rd (m_gR_12_26 Hh49) ?_
          refine sm_rd (m_gI_12_11 Hh49).1 ?_
          refine sm_wt (m_sI_12_26 Hh49 l3_8 ⟨by decide, by decide⟩ rfl (m_gI_12_11 Hh49).2) fun h55 Hh55 => ?_
          exact sm_rz Hh55 l3_1 (by decide)
      · refine sm_if (z3_eq rfl l3_4 qs0 lr3_4) ?_ ?_
        · refine sm_II (S12_number Ho11 l3_0 lr3_0 l3_99999 lr3_99999) fun vo32 ho32 Ho32 ro32 => ?_
          refine sm_if (z3_eq rfl l3_0 ro32 lr3_0) ?_ ?_
          · exact sm_rz Ho32 l3_0 (by decide)
          · refine sm_rd (m_gR_12_26 Ho32) ?_
            refine sm_rd (m_gI_12_11 Ho32).1 ?_
            refine sm_wt (m_sI_12_26 Ho32 l3_13 ⟨by decide, by decide⟩ rfl (m_gI_12_11 Ho32).2) fun h40 Hh40 => ?_
            exact sm_rz Hh40 l3_1 (by decide)
        · refine sm_rd (m_gI_12_8 Ho11).1 ?_
          refine sm_if (z3_eq rfl l3_1 (m_gI_12_8 Ho11).2 lr3_1) ?_ ?_
          · refine sm_rd (m_gI_12_9 Ho11).1 ?_
            refine sm_if (z3_lt rfl l3_8 (m_gI_12_9 Ho11).2 lr3_8) ?_ ?_
            · exact S12_onceLine_168 Ho11
            · refine sm_rd (m_gI_12_9 Ho11).1 ?_
              refine sm_if (z3_le rfl l3_11 (m_gI_12_9 Ho11).2 lr3_11) ?_ ?_
              · refine sm_rd (m_gR_12_26 Ho11) ?_
                refine sm_rd (m_gI_12_9 Ho11).1 ?_
                refine sg3I fun c5 => ?_
                refine sm_wt (m_sI_12_26 Ho11 l3_12 ⟨by decide, by decide⟩ (z3_sub rfl l3_8) c5) fun h29 Hh29 => ?_
                refine sm_VI (S12_token Hh29) fun ho30 Ho30 => ?_
                exact sm_rz Ho30 l3_1 (by decide)
              · exact S12_onceLine_168 Ho11
          · exact S12_onceLine_168 Ho11
  · refine sm_II (S12_wrong H l3_3 lr3_3) fun vo58 ho58 Ho58 ro58 => ?_
    refine sgbI fun c6 => ?_
    exact sm_rz Ho58 rfl c6
theorem S12_onceLine_0 {h : PH} (H : OKM h) : SimI OKM (F12_onceLine_0 h 0) (G12_onceLine_0 (rd h)) := by
  unfold F12_onceLine_0 G12_onceLine_0
  refine sm_rd (m_gI_12_9 H).1 ?_
  refine sm_if (z3_eq rfl l3_1 (m_gI_12_9 H).2 lr3_1) ?_ ?_
  · exact S12_onceLine_37 H l3_1 lr3_1
  · refine sm_rd (m_gI_12_9 H).1 ?_
    refine sm_if (z3_eq rfl l3_4 (m_gI_12_9 H).2 lr3_4) ?_ ?_
    · exact S12_onceLine_37 H l3_2 lr3_2
    · refine sm_rd (m_gI_12_9 H).1 ?_
      refine sm_if (z3_eq rfl l3_5 (m_gI_12_9 H).2 lr3_5) ?_ ?_
      · exact S12_onceLine_37 H l3_3 lr3_3
      · exact S12_onceLine_37 H l3_4 lr3_4
theorem S12_onceLine {h : PH} (H : OKM h) : SimI OKM (F12_onceLine h 0) (G12_onceLine (rd h)) := by
  unfold F12_onceLine G12_onceLine
  refine sm_cd (m_ok_12 H) ?_
  exact S12_onceLine_0 H
theorem S12_signs_250 {h : PH} (H : OKM h) {s0i : Int32} {s0 : Int} (es0 : s0i = Z3 s0) (qs0 : r3 s0) : SimI OKM (F12_signs_250 h 0 s0i 0) (G12_signs_250 (rd h) s0) := by
  subst es0
  unfold F12_signs_250 G12_signs_250
  refine sgbI fun c1 => ?_
  refine sm_wt (m_pZ_12_51 H rfl c1) fun h1 Hh1 => ?_
  refine sm_VI (S12_token Hh1) fun ho3 Ho3 => ?_
  exact sm_rz Ho3 l3_1 (by decide)
theorem S12_signs_217 {h : PH} (H : OKM h) {x1i : Int32} {x1 : Int} (ex1 : x1i = Z3 x1) (qx1 : r3 x1) : SimI OKM (F12_signs_217 h 0 x1i) (G12_signs_217 (rd h) x1) := by
  subst ex1
  unfold F12_signs_217 G12_signs_217
  refine sm_II (S12_isCounted H) fun vo1 ho1 Ho1 ro1 => ?_
  refine sm_if (z3_eq rfl l3_0 ro1 lr3_0) ?_ ?_
  · exact sm_rz Ho1 l3_0 (by decide)
  · refine sm_VI (S12_waitsFor Ho1 rfl qx1) fun ho4 Ho4 => ?_
    refine sm_wt (m_pZ_12_50 Ho4 l3_1 (by decide)) fun h6 Hh6 => ?_
    refine sm_II (S12_rank Hh6 rfl qx1) fun vo8 ho8 Ho8 ro8 => ?_
    refine sm_if (z3_le l3_3 rfl lr3_3 ro8) ?_ ?_
    · exact S12_signs_250 Ho8 l3_0 lr3_0
    · exact S12_signs_250 Ho8 l3_1 lr3_1
theorem S12_signs_175 {h : PH} (H : OKM h) {x1i : Int32} {x1 : Int} (ex1 : x1i = Z3 x1) (qx1 : r3 x1) {s0i : Int32} {s0 : Int} (es0 : s0i = Z3 s0) (qs0 : r3 s0) : SimI OKM (F12_signs_175 h 0 x1i s0i 0) (G12_signs_175 (rd h) x1 s0) := by
  subst ex1 es0
  unfold F12_signs_175 G12_signs_175
  refine sm_VI (S12_bind H rfl qs0) fun ho1 Ho1 => ?_
  refine sm_II (S12_rank Ho1 rfl qx1) fun vo3 ho3 Ho3 ro3 => ?_
  refine sm_if (z3_eq rfl l3_4 ro3 lr3_4) ?_ ?_
  · refine sm_rd (m_gI_12_46 Ho3).1 ?_
    refine sm_if (z3_le rfl l3_0 (m_gI_12_46 Ho3).2 lr3_0) ?_ ?_
    · exact S12_signs_217 Ho3 rfl qx1
    · refine sm_rd (m_gR_12_44 Ho3) ?_
      refine sm_rd (m_gI_12_46 Ho3).1 ?_
      refine sgxI fun c1 => ?_
      refine sm_rd (m_aI_12_44 Ho3 (z3_sub rfl l3_1) c1).1 ?_
      refine sm_II (S12_rank Ho3 rfl ((m_aI_12_44 Ho3 (z3_sub rfl l3_1) c1).2)) fun vo15 ho15 Ho15 ro15 => ?_
      refine sm_if (z3_eq rfl l3_4 ro15 lr3_4) ?_ ?_
      · refine sm_II (S12_wrong Ho15 l3_1 lr3_1) fun vo18 ho18 Ho18 ro18 => ?_
        refine sgbI fun c2 => ?_
        exact sm_rz Ho18 rfl c2
      · exact S12_signs_217 Ho15 rfl qx1
  · exact S12_signs_217 Ho3 rfl qx1
theorem S12_signs_147 {h : PH} (H : OKM h) {s0i : Int32} {s0 : Int} (es0 : s0i = Z3 s0) (qs0 : r3 s0) : SimI OKM (F12_signs_147 h 0 s0i) (G12_signs_147 (rd h) s0) := by
  subst es0
  unfold F12_signs_147 G12_signs_147
  refine sm_if (z3_eq rfl l3_0 qs0 lr3_0) ?_ ?_
  · refine sm_II (S12_wrong H l3_1 lr3_1) fun vo7 ho7 Ho7 ro7 => ?_
    refine sgbI fun c1 => ?_
    exact sm_rz Ho7 rfl c1
  · refine sm_II (S12_rank H rfl qs0) fun vo2 ho2 Ho2 ro2 => ?_
    refine sm_if (z3_eq rfl l3_4 ro2 lr3_4) ?_ ?_
    · exact S12_signs_175 Ho2 rfl qs0 l3_5 lr3_5
    · refine sm_II (S12_rank Ho2 rfl qs0) fun vo5 ho5 Ho5 ro5 => ?_
      exact S12_signs_175 Ho5 rfl qs0 rfl ro5
theorem S12_signs_47 {h : PH} (H : OKM h) : SimI OKM (F12_signs_47 h 0) (G12_signs_47 (rd h)) := by
  unfold F12_signs_47 G12_signs_47
  refine sm_II (S12_isKey H l3_15 lr3_15) fun vo1 ho1 Ho1 ro1 => ?_
  refine sm_if (z3_eq rfl l3_0 ro1 lr3_0) ?_ ?_
  · refine sm_II (S12_isKey Ho1 l3_16 lr3_16) fun vo4 ho4 Ho4 ro4 => ?_
    refine sm_if (z3_eq rfl l3_0 ro4 lr3_0) ?_ ?_
    · refine sm_rd (m_gI_12_8 Ho4).1 ?_
      refine sm_if (z3_eq rfl l3_5 (m_gI_12_8 Ho4).2 lr3_5) ?_ ?_
      · refine sm_rd (m_gI_12_9 Ho4).1 ?_
        refine sg3I fun c1 => ?_
        exact S12_signs_147 Ho4 (z3_add l3_5 rfl) c1
      · refine sm_II (S12_isSign Ho4 l3_43 lr3_43) fun vo10 ho10 Ho10 ro10 => ?_
        refine sm_if (z3_eq rfl l3_0 ro10 lr3_0) ?_ ?_
        · refine sm_II (S12_isSign Ho10 l3_45 lr3_45) fun vo13 ho13 Ho13 ro13 => ?_
          refine sm_if (z3_eq rfl l3_0 ro13 lr3_0) ?_ ?_
          · refine sm_II (S12_isSign Ho13 l3_42 lr3_42) fun vo16 ho16 Ho16 ro16 => ?_
            refine sm_if (z3_eq rfl l3_0 ro16 lr3_0) ?_ ?_
            · refine sm_II (S12_isSign Ho16 l3_47 lr3_47) fun vo19 ho19 Ho19 ro19 => ?_
              refine sm_if (z3_eq rfl l3_0 ro19 lr3_0) ?_ ?_
              · exact S12_signs_147 Ho19 l3_0 lr3_0
              · exact S12_signs_147 Ho19 l3_14 lr3_14
            · exact S12_signs_147 Ho16 l3_13 lr3_13
          · exact S12_signs_147 Ho13 l3_12 lr3_12
        · exact S12_signs_147 Ho10 l3_11 lr3_11
    · exact S12_signs_147 Ho4 l3_4 lr3_4
  · exact S12_signs_147 Ho1 l3_3 lr3_3
theorem S12_signs_0 {h : PH} (H : OKM h) : SimI OKM (F12_signs_0 h 0) (G12_signs_0 (rd h)) := by
  unfold F12_signs_0 G12_signs_0
  refine sm_II (S12_isSign H l3_41 lr3_41) fun vo1 ho1 Ho1 ro1 => ?_
  refine sm_if (z3_eq rfl l3_0 ro1 lr3_0) ?_ ?_
  · exact S12_signs_47 Ho1
  · refine sm_rd (m_gI_12_48 Ho1).1 ?_
    refine sm_if (z3_le rfl l3_0 (m_gI_12_48 Ho1).2 lr3_0) ?_ ?_
    · exact S12_signs_47 Ho1
    · refine sm_VI (S12_bind Ho1 l3_1 lr3_1) fun ho7 Ho7 => ?_
      refine sm_rd (m_gI_12_46 Ho7).1 ?_
      refine sg3I fun c1 => ?_
      refine sm_wt (m_pI_12_46 Ho7 (z3_sub rfl l3_1) c1) fun h11 Hh11 => ?_
      refine sm_rd (m_gI_12_48 Hh11).1 ?_
      refine sg3I fun c2 => ?_
      refine sm_wt (m_pI_12_48 Hh11 (z3_sub rfl l3_1) c2) fun h15 Hh15 => ?_
      refine sm_VI (S12_token Hh15) fun ho17 Ho17 => ?_
      exact sm_rz Ho17 l3_1 (by decide)
theorem S12_signs {h : PH} (H : OKM h) : SimI OKM (F12_signs h 0) (G12_signs (rd h)) := by
  unfold F12_signs G12_signs
  refine sm_cd (m_ok_12 H) ?_
  exact S12_signs_0 H
theorem S12_sumRead_48 {k25 : PH → Nat → Option (Int32 × PH)} {kk25 : Mem → Option (Int × Mem)} (hk25 : ∀ {h : PH} (_ : OKM h), SimI OKM (k25 h 0) (kk25 (rd h))) {h : PH} (H : OKM h) : SimI OKM (F12_sumRead_48 k25 h 0) (G12_sumRead_48 kk25 (rd h)) := by
  unfold F12_sumRead_48 G12_sumRead_48
  refine sm_rd (m_gI_12_50 H).1 ?_
  refine sm_if (z3_eq rfl l3_0 (m_gI_12_50 H).2 lr3_0) ?_ ?_
  · refine sm_II (S12_signs H) fun vo4 ho4 Ho4 ro4 => ?_
    refine sm_if (z3_eq rfl l3_0 ro4 lr3_0) ?_ ?_
    · exact sm_rz Ho4 l3_0 (by decide)
    · exact hk25 Ho4
  · refine sm_II (S12_leafRead H) fun vo7 ho7 Ho7 ro7 => ?_
    refine sm_if (z3_eq rfl l3_0 ro7 lr3_0) ?_ ?_
    · exact sm_rz Ho7 l3_0 (by decide)
    · exact hk25 Ho7
theorem S12_sumRead_25 (n : Nat) : ∀ {h : PH} (H : OKM h), SimI OKM (F12_sumRead_25 n h 0) (G12_sumRead_25 n (rd h)) := by
  induction n with
  | zero => intros; exact smI_none _
  | succ n ih =>
    intro h H
    rw [F12_sumRead_25, G12_sumRead_25]
    refine sm_II (S12_isSign H l3_59 lr3_59) fun vo1 ho1 Ho1 ro1 => ?_
    refine sm_if (z3_eq rfl l3_0 ro1 lr3_0) ?_ ?_
    · exact S12_sumRead_48 (@fun _ H => ih H) Ho1
    · refine sm_rd (m_gI_12_50 Ho1).1 ?_
      refine sm_if (z3_eq rfl l3_0 (m_gI_12_50 Ho1).2 lr3_0) ?_ ?_
      · refine sm_rd (m_gI_12_48 Ho1).1 ?_
        refine sm_if (z3_le rfl l3_0 (m_gI_12_48 Ho1).2 lr3_0) ?_ ?_
        · refine sm_VI (S12_bind Ho1 l3_1 lr3_1) fun ho10 Ho10 => ?_
          exact sm_rz Ho10 l3_1 (by decide)
        · exact S12_sumRead_48 (@fun _ H => ih H) Ho1
      · exact S12_sumRead_48 (@fun _ H => ih H) Ho1
/-! The pure functions do so (written by wip/gen/gx.py). -/
theorem S12_sumRead_0 {h : PH} (H : OKM h) : SimI OKM (F12_sumRead_0 h 0) (G12_sumRead_0 (rd h)) := by
  unfold F12_sumRead_0 G12_sumRead_0
  refine sm_wt (m_pI_12_46 H l3_0 lr3_0) fun h1 Hh1 => ?_
  refine sm_wt (m_pI_12_47 Hh1 l3_0 lr3_0) fun h3 Hh3 => ?_
  refine sm_wt (m_pI_12_48 Hh3 l3_0 lr3_0) fun h5 Hh5 => ?_
  refine sm_wt (m_pZ_12_50 Hh5 l3_1 (by decide)) fun h7 Hh7 => ?_
  refine sm_wt (m_pZ_12_51 Hh7 l3_1 (by decide)) fun h9 Hh9 => ?_
  exact S12_sumRead_25 1024 Hh9
theorem S12_sumRead {h : PH} (H : OKM h) : SimI OKM (F12_sumRead h 0) (G12_sumRead (rd h)) := by
  unfold F12_sumRead G12_sumRead
  refine sm_cd (m_ok_12 H) ?_
  exact S12_sumRead_0 H
theorem S12_lineRead_17 {h : PH} (H : OKM h) : SimI OKM (F12_lineRead_17 h 0) (G12_lineRead_17 (rd h)) := by
  unfold F12_lineRead_17 G12_lineRead_17
  refine sm_II (S12_wrong H l3_1 lr3_1) fun vo1 ho1 Ho1 ro1 => ?_
  refine sgbI fun c1 => ?_
  exact sm_rz Ho1 rfl c1
theorem S12_lineRead_197 {h : PH} (H : OKM h) {x1i : Int32} {x1 : Int} (ex1 : x1i = Z3 x1) (qx1 : r3 x1) : SimI OKM (F12_lineRead_197 h 0 x1i) (G12_lineRead_197 (rd h) x1) := by
  subst ex1
  unfold F12_lineRead_197 G12_lineRead_197
  refine sm_if (z3_eq rfl l3_0 qx1 lr3_0) ?_ ?_
  · exact sm_rz H l3_0 (by decide)
  · refine sm_II (S12_isSign H l3_59 lr3_59) fun vo2 ho2 Ho2 ro2 => ?_
    refine sm_if (z3_eq rfl l3_0 ro2 lr3_0) ?_ ?_
    · refine sm_II (S12_wrong Ho2 l3_1 lr3_1) fun vo7 ho7 Ho7 ro7 => ?_
      refine sgbI fun c1 => ?_
      exact sm_rz Ho7 rfl c1
    · refine sm_VI (S12_token Ho2) fun ho5 Ho5 => ?_
      exact sm_rz Ho5 l3_1 (by decide)
theorem S12_lineRead_130 {h : PH} (H : OKM h) : SimI OKM (F12_lineRead_130 h 0) (G12_lineRead_130 (rd h)) := by
  unfold F12_lineRead_130 G12_lineRead_130
  refine sm_II (S12_wrong H l3_1 lr3_1) fun vo1 ho1 Ho1 ro1 => ?_
  refine sgbI fun c1 => ?_
  exact sm_rz Ho1 rfl c1
theorem S12_lineRead_0 {h : PH} (H : OKM h) : SimI OKM (F12_lineRead_0 h 0) (G12_lineRead_0 (rd h)) := by
  unfold F12_lineRead_0 G12_lineRead_0
  refine sm_rd (m_gI_12_8 H).1 ?_
  refine sm_if (z3_eq rfl l3_1 (m_gI_12_8 H).2 lr3_1) ?_ ?_
  · refine sm_rd (m_gI_12_9 H).1 ?_
    refine sm_if (z3_le rfl l3_7 (m_gI_12_9 H).2 lr3_7) ?_ ?_
    · refine sm_rd (m_gI_12_9 H).1 ?_
      refine sm_if (z3_eq rfl l3_0 (m_gI_12_9 H).2 lr3_0) ?_ ?_
      · refine sm_II (S12_seaLine H) fun vo10 ho10 Ho10 ro10 => ?_
        exact S12_lineRead_197 Ho10 rfl ro10
      · refine sm_if (z3_eq rfl l3_1 (m_gI_12_9 H).2 lr3_1) ?_ ?_
        · refine sm_II (S12_onceLine H) fun vo13 ho13 Ho13 ro13 => ?_
          exact S12_lineRead_197 Ho13 rfl ro13
        · refine sm_if (z3_eq rfl l3_2 (m_gI_12_9 H).2 lr3_2) ?_ ?_
          · refine sm_II (S12_surferLine H) fun vo16 ho16 Ho16 ro16 => ?_
            exact S12_lineRead_197 Ho16 rfl ro16
          · refine sm_if (z3_eq rfl l3_3 (m_gI_12_9 H).2 lr3_3) ?_ ?_
            · refine sm_II (S12_setLine H) fun vo19 ho19 Ho19 ro19 => ?_
              exact S12_lineRead_197 Ho19 rfl ro19
            · refine sm_if (z3_eq rfl l3_4 (m_gI_12_9 H).2 lr3_4) ?_ ?_
              · refine sm_II (S12_onceLine H) fun vo22 ho22 Ho22 ro22 => ?_
                exact S12_lineRead_197 Ho22 rfl ro22
              · refine sm_if (z3_eq rfl l3_5 (m_gI_12_9 H).2 lr3_5) ?_ ?_
                · refine sm_II (S12_onceLine H) fun vo25 ho25 Ho25 ro25 => ?_
                  exact S12_lineRead_197 Ho25 rfl ro25
                · refine sm_if (z3_eq rfl l3_6 (m_gI_12_9 H).2 lr3_6) ?_ ?_
                  · refine sm_II (S12_onceLine H) fun vo28 ho28 Ho28 ro28 => ?_
                    exact S12_lineRead_197 Ho28 rfl ro28
                  · refine sm_VI (S12_token H) fun ho30 Ho30 => ?_
                    refine sm_rd (m_gI_12_8 Ho30).1 ?_
                    refine sm_if (z3_eq rfl l3_1 (m_gI_12_8 Ho30).2 lr3_1) ?_ ?_
                    · refine sm_rd (m_gI_12_9 Ho30).1 ?_
                      refine sm_if (z3_lt rfl l3_12 (m_gI_12_9 Ho30).2 lr3_12) ?_ ?_
                      · exact S12_lineRead_130 Ho30
                      · refine sm_rd (m_gI_12_9 Ho30).1 ?_
                        refine sm_if (z3_le rfl l3_14 (m_gI_12_9 Ho30).2 lr3_14) ?_ ?_
                        · refine sm_rd (m_gI_12_9 Ho30).1 ?_
                          refine sm_rd (m_gR_12_37 Ho30) ?_
                          refine sgxI fun c1 => ?_
                          refine sm_rd (m_aI_12_37 Ho30 (z3_sub (z3_add l3_3 rfl) l3_12) c1).1 ?_
                          refine sm_if (z3_eq rfl l3_0 (m_aI_12_37 Ho30 (z3_sub (z3_add l3_3 rfl) l3_12) c1).2 lr3_0) ?_ ?_
                          · refine sm_rd (m_gR_12_37 Ho30) ?_
                            refine sgxI fun c2 => ?_
                            refine sgbI fun c3 => ?_
                            refine sm_wt (m_sI_12_37 Ho30 (z3_sub (z3_add l3_3 rfl) l3_12) c2 (z3_bo l3_1 c3) (r3_b c3)) fun h51 Hh51 => ?_
                            refine sm_VI (S12_token Hh51) fun ho52 Ho52 => ?_
                            refine sm_rd (m_gR_12_38 Ho52) ?_
                            refine sm_rd (m_gI_12_23 Ho52).1 ?_
                            refine sgxI fun c4 => ?_
                            refine sm_wt (m_sI_12_38 Ho52 (z3_sub (z3_add l3_3 rfl) l3_12) c4 rfl (m_gI_12_23 Ho52).2) fun h59 Hh59 => ?_
                            refine sm_II (S12_sumRead Hh59) fun vo60 ho60 Ho60 ro60 => ?_
                            refine sm_rd (m_gR_12_39 Ho60) ?_
                            refine sm_rd (m_gI_12_23 Ho60).1 ?_
                            refine sgxI fun c5 => ?_
                            refine sm_wt (m_sI_12_39 Ho60 (z3_sub (z3_add l3_3 rfl) l3_12) c5 rfl (m_gI_12_23 Ho60).2) fun h67 Hh67 => ?_
                            exact S12_lineRead_197 Hh67 rfl ro60
                          · refine sm_II (S12_wrong Ho30 l3_3 lr3_3) fun vo68 ho68 Ho68 ro68 => ?_
                            refine sgbI fun c6 => ?_
                            exact sm_rz Ho68 rfl c6
                        · exact S12_lineRead_130 Ho30
                    · exact S12_lineRead_130 Ho30
    · exact S12_lineRead_17 H
  · exact S12_lineRead_17 H
theorem S12_lineRead {h : PH} (H : OKM h) : SimI OKM (F12_lineRead h 0) (G12_lineRead (rd h)) := by
  unfold F12_lineRead G12_lineRead
  refine sm_cd (m_ok_12 H) ?_
  exact S12_lineRead_0 H
theorem S12_locals_100 (n : Nat) : ∀ {h : PH} (H : OKM h) {x1i : Int32} {x1 : Int} (ex1 : x1i = Z3 x1) (qx1 : r3 x1) {x2i : Int32} {x2 : Int} (ex2 : x2i = Z3 x2) (qx2 : r3 x2) {x3i : Int32} {x3 : Int} (ex3 : x3i = Z3 x3) (qx3 : r3 x3) {x4i : Int32} {x4 : Int} (ex4 : x4i = Z3 x4) (qx4 : r3 x4), SimI OKM (F12_locals_100 n h 0 x1i x2i x3i x4i) (G12_locals_100 n (rd h) x1 x2 x3 x4) := by
  induction n with
  | zero => intros; exact smI_none _
  | succ n ih =>
    intro h H x1i x1 ex1 qx1 x2i x2 ex2 qx2 x3i x3 ex3 qx3 x4i x4 ex4 qx4
    subst ex1 ex2 ex3 ex4
    rw [F12_locals_100, G12_locals_100]
    refine sm_II (S12_knownBy H) fun vo1 ho1 Ho1 ro1 => ?_
    refine sm_if (z3_le rfl rfl ro1 qx4) ?_ ?_
    · exact sm_retI Ho1 (z3_an rfl (z3_xo rfl l3_m1)) (r3_of _)
    · refine sm_rd (m_gR_12_77 Ho1) ?_
      refine sgxI fun c1 => ?_
      refine sm_rd (m_aI_12_77 Ho1 rfl c1).1 ?_
      refine sm_if (z3_eq rfl l3_0 (m_aI_12_77 Ho1 rfl c1).2 lr3_0) ?_ ?_
      · refine sg3I fun c2 => ?_
        exact ih Ho1 rfl qx1 rfl qx2 rfl qx3 (z3_add rfl l3_1) c2
      · refine sm_rd (m_gR_12_76 Ho1) ?_
        refine sgxI fun c3 => ?_
        refine sm_rd (m_aI_12_76 Ho1 (z3_mul l3_3 rfl) c3).1 ?_
        refine sm_if (z3_le l3_0 rfl lr3_0 (m_aI_12_76 Ho1 (z3_mul l3_3 rfl) c3).2) ?_ ?_
        · refine sm_rd (m_gR_12_76 Ho1) ?_
          refine sgxI fun c4 => ?_
          refine sm_rd (m_aI_12_76 Ho1 (z3_mul l3_3 rfl) c4).1 ?_
          refine sm_II (S12_beginsFrom Ho1 rfl ((m_aI_12_76 Ho1 (z3_mul l3_3 rfl) c4).2)) fun vo18 ho18 Ho18 ro18 => ?_
          refine sm_if (z3_le l3_0 rfl lr3_0 ro18) ?_ ?_
          · refine sm_rd (m_gR_12_76 Ho18) ?_
            refine sgxI fun c5 => ?_
            refine sm_rd (m_aI_12_76 Ho18 (z3_add (z3_mul l3_3 rfl) l3_1) c5).1 ?_
            refine sm_rd (m_gR_12_76 Ho18) ?_
            refine sgxI fun c6 => ?_
            refine sm_rd (m_aI_12_76 Ho18 (z3_add (z3_mul l3_3 rfl) l3_2) c6).1 ?_
            refine sm_II (S12_peakAt Ho18 rfl ro18) fun vo29 ho29 Ho29 ro29 => ?_
            refine sm_II (S12_far Ho29 rfl ((m_aI_12_76 Ho18 (z3_add (z3_mul l3_3 rfl) l3_2) c6).2) rfl ro29) fun vo31 ho31 Ho31 ro31 => ?_
            refine sm_if (z3_le rfl rfl ro31 qx1) ?_ ?_
            · refine sg3I fun c7 => ?_
              exact ih Ho31 rfl qx1 (z3_or rfl (z3_sl l3_1 (z3_an rfl l3_31))) (r3_of _) rfl qx3 (z3_add rfl l3_1) c7
            · refine sm_rd (m_gR_12_76 Ho31) ?_
              refine sgxI fun c8 => ?_
              refine sm_rd (m_aI_12_76 Ho31 (z3_add (z3_mul l3_3 rfl) l3_1) c8).1 ?_
              refine sg3I fun c9 => ?_
              exact ih Ho31 rfl qx1 (z3_or rfl (z3_sl l3_1 (z3_an rfl l3_31))) (r3_of _) (z3_or rfl (z3_sl l3_1 (z3_an rfl l3_31))) (r3_of _) (z3_add rfl l3_1) c9
          · refine sg3I fun c10 => ?_
            exact ih Ho18 rfl qx1 rfl qx2 rfl qx3 (z3_add rfl l3_1) c10
        · refine sg3I fun c11 => ?_
          exact ih Ho1 rfl qx1 rfl qx2 rfl qx3 (z3_add rfl l3_1) c11
theorem S12_locals_47 (n : Nat) : ∀ {h : PH} (H : OKM h) {x1i : Int32} {x1 : Int} (ex1 : x1i = Z3 x1) (qx1 : r3 x1) {x2i : Int32} {x2 : Int} (ex2 : x2i = Z3 x2) (qx2 : r3 x2), SimI OKM (F12_locals_47 n h 0 x1i x2i) (G12_locals_47 n (rd h) x1 x2) := by
  induction n with
  | zero => intros; exact smI_none _
  | succ n ih =>
    intro h H x1i x1 ex1 qx1 x2i x2 ex2 qx2
    subst ex1 ex2
    rw [F12_locals_47, G12_locals_47]
    refine sm_if (z3_lt rfl l3_0 qx2 lr3_0) ?_ ?_
    · exact S12_locals_100 1024 H rfl qx1 l3_0 lr3_0 l3_0 lr3_0 l3_0 lr3_0
    · refine sm_rd (m_gR_12_77 H) ?_
      refine sgxI fun c1 => ?_
      refine sm_rd (m_aI_12_77 H rfl c1).1 ?_
      refine sm_if (z3_eq rfl l3_0 (m_aI_12_77 H rfl c1).2 lr3_0) ?_ ?_
      · refine sg3I fun c2 => ?_
        exact ih H rfl qx1 (z3_add rfl l3_m1) c2
      · refine sm_rd (m_gR_12_76 H) ?_
        refine sgxI fun c3 => ?_
        refine sm_rd (m_aI_12_76 H (z3_mul l3_3 rfl) c3).1 ?_
        refine sm_if (z3_le l3_0 rfl lr3_0 (m_aI_12_76 H (z3_mul l3_3 rfl) c3).2) ?_ ?_
        · refine sg3I fun c4 => ?_
          exact ih H rfl qx1 (z3_add rfl l3_m1) c4
        · refine sm_rd (m_gR_12_77 H) ?_
          refine sm_rd (m_gR_12_76 H) ?_
          refine sgxI fun c5 => ?_
          refine sm_rd (m_aI_12_76 H (z3_add (z3_mul l3_3 rfl) l3_1) c5).1 ?_
          refine sgxI fun c6 => ?_
          refine sgbI fun c7 => ?_
          refine sm_wt (m_sI_12_77 H rfl c6 (z3_bo l3_0 c7) (r3_b c7)) fun h19 Hh19 => ?_
          refine sg3I fun c8 => ?_
          exact ih Hh19 rfl qx1 (z3_add rfl l3_m1) c8
theorem S12_locals_19 (n : Nat) : ∀ {h : PH} (H : OKM h) {x1i : Int32} {x1 : Int} (ex1 : x1i = Z3 x1) (qx1 : r3 x1) {x2i : Int32} {x2 : Int} (ex2 : x2i = Z3 x2) (qx2 : r3 x2), SimI OKM (F12_locals_19 n h 0 x1i x2i) (G12_locals_19 n (rd h) x1 x2) := by
  induction n with
  | zero => intros; exact smI_none _
  | succ n ih =>
    intro h H x1i x1 ex1 qx1 x2i x2 ex2 qx2
    subst ex1 ex2
    rw [F12_locals_19, G12_locals_19]
    refine sm_II (S12_knownBy H) fun vo1 ho1 Ho1 ro1 => ?_
    refine sm_if (z3_le rfl rfl ro1 qx2) ?_ ?_
    · refine sm_II (S12_knownBy Ho1) fun vo4 ho4 Ho4 ro4 => ?_
      refine sg3I fun c1 => ?_
      exact S12_locals_47 1024 Ho4 rfl qx1 (z3_sub rfl l3_1) c1
    · refine sm_rd (m_gR_12_77 Ho1) ?_
      refine sgxI fun c2 => ?_
      refine sgbI fun c3 => ?_
      refine sm_wt (m_sI_12_77 Ho1 rfl c2 (z3_bo l3_1 c3) (r3_b c3)) fun h9 Hh9 => ?_
      refine sg3I fun c4 => ?_
      exact ih Hh9 rfl qx1 (z3_add rfl l3_1) c4
theorem S12_locals_0 {h : PH} (H : OKM h) {x1i : Int32} {x1 : Int} (ex1 : x1i = Z3 x1) (qx1 : r3 x1) : SimI OKM (F12_locals_0 h 0 x1i) (G12_locals_0 (rd h) x1) := by
  subst ex1
  unfold F12_locals_0 G12_locals_0
  refine sm_wt (m_pI_12_2 H l3_0 lr3_0) fun h1 Hh1 => ?_
  refine sm_II (S12_isIn Hh1 rfl qx1 l3_0 lr3_0 l3_12 lr3_12) fun vo3 ho3 Ho3 ro3 => ?_
  refine sm_if (z3_eq rfl l3_0 ro3 lr3_0) ?_ ?_
  · exact sm_retI Ho3 l3_m1 lr3_m1
  · exact S12_locals_19 1024 Ho3 rfl qx1 l3_0 lr3_0
theorem S12_locals {h : PH} (H : OKM h) {x1i : Int32} {x1 : Int} (ex1 : x1i = Z3 x1) (qx1 : r3 x1) : SimI OKM (F12_locals h 0 x1i) (G12_locals (rd h) x1) := by
  subst ex1
  unfold F12_locals G12_locals
  refine sm_cd (m_ok_12 H) ?_
  exact S12_locals_0 H rfl qx1
theorem S12_look_0 {h : PH} (H : OKM h) {x1i : Int32} {x1 : Int} (ex1 : x1i = Z3 x1) (qx1 : r3 x1) {x2i : Int32} {x2 : Int} (ex2 : x2i = Z3 x2) (qx2 : r3 x2) : SimI OKM (F12_look_0 h 0 x1i x2i) (G12_look_0 (rd h) x1 x2) := by
  subst ex1 ex2
  unfold F12_look_0 G12_look_0
  refine sm_wt (m_pI_12_2 H l3_0 lr3_0) fun h1 Hh1 => ?_
  refine sm_II (S12_isSurfer Hh1 rfl qx1) fun vo3 ho3 Ho3 ro3 => ?_
  refine sm_if (z3_eq rfl l3_0 ro3 lr3_0) ?_ ?_
  · refine sm_II (S12_fails Ho3 l3_1 lr3_1) fun vo46 ho46 Ho46 ro46 => ?_
    exact sm_retI Ho46 rfl ro46
  · refine sm_if (z3_eq rfl l3_0 qx2 lr3_0) ?_ ?_
    · refine sm_rd (m_gR_12_55 Ho3) ?_
      refine sgxI fun c1 => ?_
      refine sm_rd (m_aI_12_55 Ho3 rfl c1).1 ?_
      exact sm_retI Ho3 rfl (m_aI_12_55 Ho3 rfl c1).2
    · refine sm_if (z3_eq rfl l3_1 qx2 lr3_1) ?_ ?_
      · refine sm_rd (m_gR_12_56 Ho3) ?_
        refine sgxI fun c2 => ?_
        refine sm_rd (m_aI_12_56 Ho3 rfl c2).1 ?_
        exact sm_retI Ho3 rfl (m_aI_12_56 Ho3 rfl c2).2
      · refine sm_if (z3_eq rfl l3_2 qx2 lr3_2) ?_ ?_
        · refine sm_rd (m_gR_12_57 Ho3) ?_
          refine sgxI fun c3 => ?_
          refine sm_rd (m_aI_12_57 Ho3 rfl c3).1 ?_
          exact sm_retI Ho3 rfl (m_aI_12_57 Ho3 rfl c3).2
        · refine sm_if (z3_eq rfl l3_3 qx2 lr3_3) ?_ ?_
          · refine sm_rd (m_gR_12_58 Ho3) ?_
            refine sgxI fun c4 => ?_
            refine sm_rd (m_aI_12_58 Ho3 rfl c4).1 ?_
            exact sm_retI Ho3 rfl (m_aI_12_58 Ho3 rfl c4).2
          · refine sm_if (z3_eq rfl l3_4 qx2 lr3_4) ?_ ?_
            · refine sm_rd (m_gR_12_59 Ho3) ?_
              refine sgxI fun c5 => ?_
              refine sm_rd (m_aI_12_59 Ho3 rfl c5).1 ?_
              exact sm_retI Ho3 rfl (m_aI_12_59 Ho3 rfl c5).2
            · refine sm_if (z3_eq rfl l3_5 qx2 lr3_5) ?_ ?_
              · refine sm_rd (m_gR_12_55 Ho3) ?_
                refine sgxI fun c6 => ?_
                refine sm_rd (m_aI_12_55 Ho3 rfl c6).1 ?_
                refine sm_rd (m_gR_12_61 Ho3) ?_
                refine sm_rd (m_aI_12_61 Ho3 l3_0 ⟨by decide, by decide⟩).1 ?_
                refine sm_II (S12_peakAt Ho3 rfl ((m_aI_12_61 Ho3 l3_0 ⟨by decide, by decide⟩).2)) fun vo40 ho40 Ho40 ro40 => ?_
                refine sm_II (S12_far Ho40 rfl ((m_aI_12_55 Ho3 rfl c6).2) rfl ro40) fun vo42 ho42 Ho42 ro42 => ?_
                exact sm_retI Ho42 rfl ro42
              · refine sm_II (S12_fails Ho3 l3_2 lr3_2) fun vo44 ho44 Ho44 ro44 => ?_
                exact sm_retI Ho44 rfl ro44
theorem S12_look {h : PH} (H : OKM h) {x1i : Int32} {x1 : Int} (ex1 : x1i = Z3 x1) (qx1 : r3 x1) {x2i : Int32} {x2 : Int} (ex2 : x2i = Z3 x2) (qx2 : r3 x2) : SimI OKM (F12_look h 0 x1i x2i) (G12_look (rd h) x1 x2) := by
  subst ex1 ex2
  unfold F12_look G12_look
  refine sm_cd (m_ok_12 H) ?_
  exact S12_look_0 H rfl qx1 rfl qx2
theorem S12_minutes_94 {h : PH} (H : OKM h) {s0i : Int32} {s0 : Int} (es0 : s0i = Z3 s0) (qs0 : r3 s0) : SimI OKM (F12_minutes_94 h 0 s0i 0) (G12_minutes_94 (rd h) s0) := by
  subst es0
  unfold F12_minutes_94 G12_minutes_94
  refine sm_wt (m_pI_12_78 H rfl qs0) fun h1 Hh1 => ?_
  refine sm_rd (m_gR_12_61 Hh1) ?_
  refine sm_rd (m_aI_12_61 Hh1 l3_0 ⟨by decide, by decide⟩).1 ?_
  exact sm_retI Hh1 rfl (m_aI_12_61 Hh1 l3_0 ⟨by decide, by decide⟩).2
theorem S12_minutes_49 {k33 : PH → Nat → Int32 → Int32 → Option (Int32 × PH)} {kk33 : Mem → Int → Int → Option (Int × Mem)} (hk33 : ∀ {h : PH} (_ : OKM h) {x2 : Int32} {y2 : Int} (_ : x2 = Z3 y2) (_ : r3 y2) {x3 : Int32} {y3 : Int} (_ : x3 = Z3 y3) (_ : r3 y3), SimI OKM (k33 h 0 x2 x3) (kk33 (rd h) y2 y3)) (n : Nat) : ∀ {h : PH} (H : OKM h) {x1i : Int32} {x1 : Int} (ex1 : x1i = Z3 x1) (qx1 : r3 x1) {x2i : Int32} {x2 : Int} (ex2 : x2i = Z3 x2) (qx2 : r3 x2) {x3i : Int32} {x3 : Int} (ex3 : x3i = Z3 x3) (qx3 : r3 x3), SimI OKM (F12_minutes_49 k33 n h 0 x1i x2i x3i) (G12_minutes_49 kk33 n (rd h) x1 x2 x3) := by
  induction n with
  | zero => intros; exact smI_none _
  | succ n ih =>
    intro h H x1i x1 ex1 qx1 x2i x2 ex2 qx2 x3i x3 ex3 qx3
    subst ex1 ex2 ex3
    rw [F12_minutes_49, G12_minutes_49]
    refine sm_rd (m_gI_12_14 H).1 ?_
    refine sm_if (z3_le rfl rfl (m_gI_12_14 H).2 qx3) ?_ ?_
    · refine sg3I fun c1 => ?_
      exact hk33 H rfl qx1 (z3_add rfl l3_1) c1
    · refine sm_rd (m_gR_12_59 H) ?_
      refine sm_rd (m_gR_12_30 H) ?_
      refine sgxI fun c2 => ?_
      refine sm_rd (m_aI_12_30 H rfl c2).1 ?_
      refine sgxI fun c3 => ?_
      refine sm_wt (m_sI_12_59 H rfl c3 rfl (m_aI_12_30 H rfl c2).2) fun h11 Hh11 => ?_
      refine sg3I fun c4 => ?_
      exact ih Hh11 rfl qx1 rfl qx2 (z3_add rfl l3_1) c4
theorem S12_minutes_33 (n : Nat) : ∀ {h : PH} (H : OKM h) {x1i : Int32} {x1 : Int} (ex1 : x1i = Z3 x1) (qx1 : r3 x1) {x2i : Int32} {x2 : Int} (ex2 : x2i = Z3 x2) (qx2 : r3 x2), SimI OKM (F12_minutes_33 n h 0 x1i x2i) (G12_minutes_33 n (rd h) x1 x2) := by
  induction n with
  | zero => intros; exact smI_none _
  | succ n ih =>
    intro h H x1i x1 ex1 qx1 x2i x2 ex2 qx2
    subst ex1 ex2
    rw [F12_minutes_33, G12_minutes_33]
    refine sm_if (z3_le rfl rfl qx1 qx2) ?_ ?_
    · refine sm_if (z3_le rfl l3_0 qx1 lr3_0) ?_ ?_
      · refine sm_rd (m_gI_12_78 H).1 ?_
        exact S12_minutes_94 H rfl ((m_gI_12_78 H).2)
      · exact S12_minutes_94 H l3_0 lr3_0
    · refine sm_rd (m_gI_12_64 H).1 ?_
      refine sm_VI (S12_aMinute H l3_0 lr3_0 rfl ((m_gI_12_64 H).2)) fun ho7 Ho7 => ?_
      exact S12_minutes_49 (@fun _ H _ _ ex1 qx1 _ _ ex2 qx2 => ih H ex1 qx1 ex2 qx2) 1024 Ho7 rfl qx1 rfl qx2 l3_0 lr3_0
theorem S12_minutes_0 {h : PH} (H : OKM h) {x1i : Int32} {x1 : Int} (ex1 : x1i = Z3 x1) (qx1 : r3 x1) : SimI OKM (F12_minutes_0 h 0 x1i) (G12_minutes_0 (rd h) x1) := by
  subst ex1
  unfold F12_minutes_0 G12_minutes_0
  refine sm_wt (m_pI_12_2 H l3_0 lr3_0) fun h1 Hh1 => ?_
  refine sm_II (S12_isIn Hh1 rfl qx1 l3_0 lr3_0 l3_99 lr3_99) fun vo3 ho3 Ho3 ro3 => ?_
  refine sm_if (z3_eq rfl l3_0 ro3 lr3_0) ?_ ?_
  · exact sm_retI Ho3 l3_m1 lr3_m1
  · refine sm_rd (m_gR_12_61 Ho3) ?_
    refine sm_rd (m_aI_12_61 Ho3 l3_0 ⟨by decide, by decide⟩).1 ?_
    refine sg3I fun c1 => ?_
    refine sm_if (z3_le (z3_add rfl rfl) l3_199 c1 lr3_199) ?_ ?_
    · exact S12_minutes_33 1024 Ho3 rfl qx1 l3_0 lr3_0
    · exact sm_retI Ho3 l3_m1 lr3_m1
theorem S12_minutes {h : PH} (H : OKM h) {x1i : Int32} {x1 : Int} (ex1 : x1i = Z3 x1) (qx1 : r3 x1) : SimI OKM (F12_minutes h 0 x1i) (G12_minutes (rd h) x1) := by
  subst ex1
  unfold F12_minutes G12_minutes
  refine sm_cd (m_ok_12 H) ?_
  exact S12_minutes_0 H rfl qx1
theorem S12_named_0 {h : PH} (H : OKM h) {x1i : Int32} {x1 : Int} (ex1 : x1i = Z3 x1) (qx1 : r3 x1) : SimI OKM (F12_named_0 h 0 x1i) (G12_named_0 (rd h) x1) := by
  subst ex1
  unfold F12_named_0 G12_named_0
  refine sm_wt (m_pI_12_2 H l3_0 lr3_0) fun h1 Hh1 => ?_
  refine sm_rd (m_gR_12_27 Hh1) ?_
  refine sm_rd (m_gI_12_14 Hh1).1 ?_
  refine sm_II (S12_find Hh1 l3_0 lr3_0 rfl ((m_gI_12_14 Hh1).2) rfl qx1) fun vo7 ho7 Ho7 ro7 => ?_
  exact sm_retI Ho7 rfl ro7
theorem S12_named {h : PH} (H : OKM h) {x1i : Int32} {x1 : Int} (ex1 : x1i = Z3 x1) (qx1 : r3 x1) : SimI OKM (F12_named h 0 x1i) (G12_named (rd h) x1) := by
  subst ex1
  unfold F12_named G12_named
  refine sm_cd (m_ok_12 H) ?_
  exact S12_named_0 H rfl qx1
theorem S12_next_7 (n : Nat) : ∀ {h : PH} (H : OKM h) {x1i : Int32} {x1 : Int} (ex1 : x1i = Z3 x1) (qx1 : r3 x1), SimI OKM (F12_next_7 n h 0 x1i) (G12_next_7 n (rd h) x1) := by
  induction n with
  | zero => intros; exact smI_none _
  | succ n ih =>
    intro h H x1i x1 ex1 qx1
    subst ex1
    rw [F12_next_7, G12_next_7]
    refine sm_rd (m_gI_12_15 H).1 ?_
    refine sm_if (z3_le rfl rfl (m_gI_12_15 H).2 qx1) ?_ ?_
    · exact sm_retI H l3_m2 lr3_m2
    · refine sm_rd (m_gR_12_34 H) ?_
      refine sm_rd (m_gR_12_33 H) ?_
      refine sgxI fun c1 => ?_
      refine sm_rd (m_aI_12_33 H rfl c1).1 ?_
      refine sgxI fun c2 => ?_
      refine sm_rd (m_aI_12_34 H rfl c2).1 ?_
      refine sm_rd (m_gR_12_61 H) ?_
      refine sm_rd (m_aI_12_61 H l3_0 ⟨by decide, by decide⟩).1 ?_
      refine sm_if (z3_lt rfl rfl (m_aI_12_34 H rfl c2).2 (m_aI_12_61 H l3_0 ⟨by decide, by decide⟩).2) ?_ ?_
      · refine sg3I fun c3 => ?_
        exact ih H (z3_add rfl l3_1) c3
      · refine sm_rd (m_gR_12_34 H) ?_
        refine sm_rd (m_gR_12_33 H) ?_
        refine sgxI fun c4 => ?_
        refine sm_rd (m_aI_12_33 H rfl c4).1 ?_
        refine sgxI fun c5 => ?_
        refine sm_rd (m_aI_12_34 H rfl c5).1 ?_
        refine sm_rd (m_gR_12_61 H) ?_
        refine sm_rd (m_aI_12_61 H l3_0 ⟨by decide, by decide⟩).1 ?_
        refine sg3I fun c6 => ?_
        exact sm_retI H (z3_sub rfl rfl) c6
theorem S12_next_0 {h : PH} (H : OKM h) : SimI OKM (F12_next_0 h 0) (G12_next_0 (rd h)) := by
  unfold F12_next_0 G12_next_0
  refine sm_wt (m_pI_12_2 H l3_0 lr3_0) fun h1 Hh1 => ?_
  exact S12_next_7 1024 Hh1 l3_0 lr3_0
theorem S12_next {h : PH} (H : OKM h) : SimI OKM (F12_next h 0) (G12_next (rd h)) := by
  unfold F12_next G12_next
  refine sm_cd (m_ok_12 H) ?_
  exact S12_next_0 H
theorem S12_noted_0 {h : PH} (H : OKM h) {x1i : Int32} {x1 : Int} (ex1 : x1i = Z3 x1) (qx1 : r3 x1) {x2i : Int32} {x2 : Int} (ex2 : x2i = Z3 x2) (qx2 : r3 x2) {x3i : Int32} {x3 : Int} (ex3 : x3i = Z3 x3) (qx3 : r3 x3) : SimI OKM (F12_noted_0 h 0 x1i x2i x3i) (G12_noted_0 (rd h) x1 x2 x3) := by
  subst ex1 ex2 ex3
  unfold F12_noted_0 G12_noted_0
  refine sm_rd (m_gR_12_76 H) ?_
  refine sm_rd (m_gI_12_74 H).1 ?_
  refine sgxI fun c1 => ?_
  refine sm_wt (m_sI_12_76 H (z3_mul l3_3 rfl) c1 rfl qx1) fun h6 Hh6 => ?_
  refine sm_rd (m_gR_12_76 Hh6) ?_
  refine sm_rd (m_gI_12_74 Hh6).1 ?_
  refine sgxI fun c2 => ?_
  refine sm_wt (m_sI_12_76 Hh6 (z3_add (z3_mul l3_3 rfl) l3_1) c2 rfl qx2) fun h12 Hh12 => ?_
  refine sm_rd (m_gR_12_76 Hh12) ?_
  refine sm_rd (m_gI_12_74 Hh12).1 ?_
  refine sgxI fun c3 => ?_
  refine sm_wt (m_sI_12_76 Hh12 (z3_add (z3_mul l3_3 rfl) l3_2) c3 rfl qx3) fun h18 Hh18 => ?_
  refine sm_rd (m_gI_12_74 Hh18).1 ?_
  refine sg3I fun c4 => ?_
  refine sm_wt (m_pI_12_74 Hh18 (z3_add rfl l3_1) c4) fun h21 Hh21 => ?_
  refine sm_rd (m_gI_12_74 Hh21).1 ?_
  refine sg3I fun c5 => ?_
  exact sm_retI Hh21 (z3_sub rfl l3_1) c5
theorem S12_noted {h : PH} (H : OKM h) {x1i : Int32} {x1 : Int} (ex1 : x1i = Z3 x1) (qx1 : r3 x1) {x2i : Int32} {x2 : Int} (ex2 : x2i = Z3 x2) (qx2 : r3 x2) {x3i : Int32} {x3 : Int} (ex3 : x3i = Z3 x3) (qx3 : r3 x3) : SimI OKM (F12_noted h 0 x1i x2i x3i) (G12_noted (rd h) x1 x2 x3) := by
  subst ex1 ex2 ex3
  unfold F12_noted G12_noted
  refine sm_cd (m_ok_12 H) ?_
  exact S12_noted_0 H rfl qx1 rfl qx2 rfl qx3
theorem S12_note_0 {h : PH} (H : OKM h) {x1i : Int32} {x1 : Int} (ex1 : x1i = Z3 x1) (qx1 : r3 x1) {x2i : Int32} {x2 : Int} (ex2 : x2i = Z3 x2) (qx2 : r3 x2) {x3i : Int32} {x3 : Int} (ex3 : x3i = Z3 x3) (qx3 : r3 x3) : SimI OKM (F12_note_0 h 0 x1i x2i x3i) (G12_note_0 (rd h) x1 x2 x3) := by
  subst ex1 ex2 ex3
  unfold F12_note_0 G12_note_0
  refine sm_wt (m_pI_12_2 H l3_0 lr3_0) fun h1 Hh1 => ?_
  refine sm_rd (m_gI_12_74 Hh1).1 ?_
  refine sm_if (z3_eq rfl l3_24 (m_gI_12_74 Hh1).2 lr3_24) ?_ ?_
  · exact sm_retI Hh1 l3_m1 lr3_m1
  · refine sm_II (S12_isIn Hh1 rfl qx1 l3_0 lr3_0 l3_199 lr3_199) fun vo6 ho6 Ho6 ro6 => ?_
    refine sm_if (z3_eq rfl l3_0 ro6 lr3_0) ?_ ?_
    · exact sm_retI Ho6 l3_m1 lr3_m1
    · refine sm_II (S12_isSurfer Ho6 rfl qx2) fun vo9 ho9 Ho9 ro9 => ?_
      refine sm_if (z3_eq rfl l3_0 ro9 lr3_0) ?_ ?_
      · exact sm_retI Ho9 l3_m1 lr3_m1
      · refine sm_II (S12_isCell Ho9 rfl qx3) fun vo12 ho12 Ho12 ro12 => ?_
        refine sm_if (z3_eq rfl l3_0 ro12 lr3_0) ?_ ?_
        · exact sm_retI Ho12 l3_m1 lr3_m1
        · refine sm_II (S12_noted Ho12 rfl qx1 rfl qx2 rfl qx3) fun vo15 ho15 Ho15 ro15 => ?_
          exact sm_retI Ho15 rfl ro15
theorem S12_note {h : PH} (H : OKM h) {x1i : Int32} {x1 : Int} (ex1 : x1i = Z3 x1) (qx1 : r3 x1) {x2i : Int32} {x2 : Int} (ex2 : x2i = Z3 x2) (qx2 : r3 x2) {x3i : Int32} {x3 : Int} (ex3 : x3i = Z3 x3) (qx3 : r3 x3) : SimI OKM (F12_note h 0 x1i x2i x3i) (G12_note (rd h) x1 x2 x3) := by
  subst ex1 ex2 ex3
  unfold F12_note G12_note
  refine sm_cd (m_ok_12 H) ?_
  exact S12_note_0 H rfl qx1 rfl qx2 rfl qx3
theorem S12_odds_0 {h : PH} (H : OKM h) {x1i : Int32} {x1 : Int} (ex1 : x1i = Z3 x1) (qx1 : r3 x1) {x2i : Int32} {x2 : Int} (ex2 : x2i = Z3 x2) (qx2 : r3 x2) {x3i : Int32} {x3 : Int} (ex3 : x3i = Z3 x3) (qx3 : r3 x3) : SimI OKM (F12_odds_0 h 0 x1i x2i x3i) (G12_odds_0 (rd h) x1 x2 x3) := by
  subst ex1 ex2 ex3
  unfold F12_odds_0 G12_odds_0
  refine sm_wt (m_pI_12_2 H l3_0 lr3_0) fun h1 Hh1 => ?_
  refine sm_II (S12_isSurfer Hh1 rfl qx1) fun vo3 ho3 Ho3 ro3 => ?_
  refine sm_if (z3_eq rfl l3_0 ro3 lr3_0) ?_ ?_
  · exact sm_retI Ho3 l3_m1 lr3_m1
  · refine sm_II (S12_isWave Ho3 rfl qx2) fun vo6 ho6 Ho6 ro6 => ?_
    refine sm_if (z3_eq rfl l3_0 ro6 lr3_0) ?_ ?_
    · exact sm_retI Ho6 l3_m1 lr3_m1
    · refine sm_II (S12_isCell Ho6 rfl qx3) fun vo9 ho9 Ho9 ro9 => ?_
      refine sm_if (z3_eq rfl l3_0 ro9 lr3_0) ?_ ?_
      · exact sm_retI Ho9 l3_m1 lr3_m1
      · refine sm_II (S12_oddsOf Ho9 rfl qx1 rfl qx2 rfl qx3) fun vo12 ho12 Ho12 ro12 => ?_
        exact sm_retI Ho12 rfl ro12
theorem S12_odds {h : PH} (H : OKM h) {x1i : Int32} {x1 : Int} (ex1 : x1i = Z3 x1) (qx1 : r3 x1) {x2i : Int32} {x2 : Int} (ex2 : x2i = Z3 x2) (qx2 : r3 x2) {x3i : Int32} {x3 : Int} (ex3 : x3i = Z3 x3) (qx3 : r3 x3) : SimI OKM (F12_odds h 0 x1i x2i x3i) (G12_odds (rd h) x1 x2 x3) := by
  subst ex1 ex2 ex3
  unfold F12_odds G12_odds
  refine sm_cd (m_ok_12 H) ?_
  exact S12_odds_0 H rfl qx1 rfl qx2 rfl qx3
theorem S12_order_0 {h : PH} (H : OKM h) {x1i : Int32} {x1 : Int} (ex1 : x1i = Z3 x1) (qx1 : r3 x1) {x2i : Int32} {x2 : Int} (ex2 : x2i = Z3 x2) (qx2 : r3 x2) : SimI OKM (F12_order_0 h 0 x1i x2i) (G12_order_0 (rd h) x1 x2) := by
  subst ex1 ex2
  unfold F12_order_0 G12_order_0
  refine sm_wt (m_pI_12_2 H l3_0 lr3_0) fun h1 Hh1 => ?_
  refine sm_II (S12_isToCome Hh1 rfl qx1) fun vo3 ho3 Ho3 ro3 => ?_
  refine sm_if (z3_eq rfl l3_0 ro3 lr3_0) ?_ ?_
  · exact sm_retI Ho3 l3_m1 lr3_m1
  · refine sm_if (z3_le l3_0 rfl lr3_0 qx2) ?_ ?_
    · refine sm_rd (m_gI_12_64 Ho3).1 ?_
      refine sm_VI (S12_layOrder Ho3 l3_0 lr3_0 rfl qx1 rfl ((m_gI_12_64 Ho3).2)) fun ho9 Ho9 => ?_
      refine sm_rd (m_gI_12_69 Ho9).1 ?_
      refine sm_if (z3_lt rfl rfl qx2 (m_gI_12_69 Ho9).2) ?_ ?_
      · refine sm_rd (m_gR_12_68 Ho9) ?_
        refine sgxI fun c1 => ?_
        refine sm_rd (m_aI_12_68 Ho9 rfl c1).1 ?_
        exact sm_retI Ho9 rfl (m_aI_12_68 Ho9 rfl c1).2
      · exact sm_retI Ho9 l3_m2 lr3_m2
    · exact sm_retI Ho3 l3_m1 lr3_m1
theorem S12_order {h : PH} (H : OKM h) {x1i : Int32} {x1 : Int} (ex1 : x1i = Z3 x1) (qx1 : r3 x1) {x2i : Int32} {x2 : Int} (ex2 : x2i = Z3 x2) (qx2 : r3 x2) : SimI OKM (F12_order h 0 x1i x2i) (G12_order (rd h) x1 x2) := by
  subst ex1 ex2
  unfold F12_order G12_order
  refine sm_cd (m_ok_12 H) ?_
  exact S12_order_0 H rfl qx1 rfl qx2
theorem S12_over_87 {k50 : PH → Nat → Int32 → Int32 → Int32 → Option (Int32 × PH)} {kk50 : Mem → Int → Int → Int → Option (Int × Mem)} (hk50 : ∀ {h : PH} (_ : OKM h) {x2 : Int32} {y2 : Int} (_ : x2 = Z3 y2) (_ : r3 y2) {x3 : Int32} {y3 : Int} (_ : x3 = Z3 y3) (_ : r3 y3) {x4 : Int32} {y4 : Int} (_ : x4 = Z3 y4) (_ : r3 y4), SimI OKM (k50 h 0 x2 x3 x4) (kk50 (rd h) y2 y3 y4)) {h : PH} (H : OKM h) {x1i : Int32} {x1 : Int} (ex1 : x1i = Z3 x1) (qx1 : r3 x1) {x2i : Int32} {x2 : Int} (ex2 : x2i = Z3 x2) (qx2 : r3 x2) {x3i : Int32} {x3 : Int} (ex3 : x3i = Z3 x3) (qx3 : r3 x3) {s0i : Int32} {s0 : Int} (es0 : s0i = Z3 s0) (qs0 : r3 s0) : SimI OKM (F12_over_87 k50 h 0 x1i x2i x3i s0i) (G12_over_87 kk50 (rd h) x1 x2 x3 s0) := by
  subst ex1 ex2 ex3 es0
  unfold F12_over_87 G12_over_87
  refine sm_rd (m_gR_12_26 H) ?_
  refine sm_rd (m_aI_12_26 H l3_4 ⟨by decide, by decide⟩).1 ?_
  refine sm_rd (m_gR_12_55 H) ?_
  refine sgxI fun c1 => ?_
  refine sm_rd (m_aI_12_55 H rfl c1).1 ?_
  refine sm_II (S12_seatFrom H rfl qx1 rfl ((m_aI_12_55 H rfl c1).2) rfl qx3) fun vo9 ho9 Ho9 ro9 => ?_
  refine sg3I fun c2 => ?_
  refine sm_if (z3_le (z3_mul (z3_mul l3_100 rfl) rfl) rfl c2 ro9) ?_ ?_
  · refine sg3I fun c3 => ?_
    exact hk50 Ho9 rfl qx1 rfl qx2 (z3_add rfl l3_1) c3
  · exact sm_retI Ho9 rfl qx3
theorem S12_over_50 (n : Nat) : ∀ {h : PH} (H : OKM h) {x1i : Int32} {x1 : Int} (ex1 : x1i = Z3 x1) (qx1 : r3 x1) {x2i : Int32} {x2 : Int} (ex2 : x2i = Z3 x2) (qx2 : r3 x2) {x3i : Int32} {x3 : Int} (ex3 : x3i = Z3 x3) (qx3 : r3 x3), SimI OKM (F12_over_50 n h 0 x1i x2i x3i) (G12_over_50 n (rd h) x1 x2 x3) := by
  induction n with
  | zero => intros; exact smI_none _
  | succ n ih =>
    intro h H x1i x1 ex1 qx1 x2i x2 ex2 qx2 x3i x3 ex3 qx3
    subst ex1 ex2 ex3
    rw [F12_over_50, G12_over_50]
    refine sm_if (z3_lt rfl rfl qx2 qx3) ?_ ?_
    · exact sm_retI H l3_m2 lr3_m2
    · refine sm_rd (m_gR_12_26 H) ?_
      refine sm_rd (m_aI_12_26 H l3_2 ⟨by decide, by decide⟩).1 ?_
      refine sg3I fun c1 => ?_
      refine sm_if (z3_le l3_0 (z3_sub (z3_sub rfl rfl) rfl) lr3_0 c1) ?_ ?_
      · refine sm_rd (m_gR_12_26 H) ?_
        refine sm_rd (m_aI_12_26 H l3_3 ⟨by decide, by decide⟩).1 ?_
        refine sm_if (z3_eq rfl l3_0 (m_aI_12_26 H l3_3 ⟨by decide, by decide⟩).2 lr3_0) ?_ ?_
        · exact smI_none _
        · refine sg3I fun c2 => ?_
          refine sgdI fun c3 => ?_
          refine sg3I fun c4 => ?_
          exact S12_over_87 (@fun _ H _ _ ex1 qx1 _ _ ex2 qx2 _ _ ex3 qx3 => ih H ex1 qx1 ex2 qx2 ex3 qx3) H rfl qx1 rfl qx2 rfl qx3 (z3_add (z3_div (z3_sub (z3_sub rfl rfl) rfl) rfl c2 (m_aI_12_26 H l3_3 ⟨by decide, by decide⟩).2 c3) l3_1) c4
      · exact S12_over_87 (@fun _ H _ _ ex1 qx1 _ _ ex2 qx2 _ _ ex3 qx3 => ih H ex1 qx1 ex2 qx2 ex3 qx3) H rfl qx1 rfl qx2 rfl qx3 l3_0 lr3_0
theorem S12_over_0 {h : PH} (H : OKM h) {x1i : Int32} {x1 : Int} (ex1 : x1i = Z3 x1) (qx1 : r3 x1) : SimI OKM (F12_over_0 h 0 x1i) (G12_over_0 (rd h) x1) := by
  subst ex1
  unfold F12_over_0 G12_over_0
  refine sm_wt (m_pI_12_2 H l3_0 lr3_0) fun h1 Hh1 => ?_
  refine sm_II (S12_isSurfer Hh1 rfl qx1) fun vo3 ho3 Ho3 ro3 => ?_
  refine sm_if (z3_eq rfl l3_0 ro3 lr3_0) ?_ ?_
  · exact sm_retI Ho3 l3_m1 lr3_m1
  · refine sm_rd (m_gR_12_26 Ho3) ?_
    refine sm_rd (m_aI_12_26 Ho3 l3_2 ⟨by decide, by decide⟩).1 ?_
    refine sm_if (z3_eq rfl l3_0 (m_aI_12_26 Ho3 l3_2 ⟨by decide, by decide⟩).2 lr3_0) ?_ ?_
    · exact sm_retI Ho3 l3_m1 lr3_m1
    · refine sm_rd (m_gI_12_16 Ho3).1 ?_
      refine sm_if (z3_eq rfl l3_0 (m_gI_12_16 Ho3).2 lr3_0) ?_ ?_
      · exact sm_retI Ho3 l3_m1 lr3_m1
      · refine sm_rd (m_gR_12_34 Ho3) ?_
        refine sm_rd (m_gI_12_16 Ho3).1 ?_
        refine sgxI fun c1 => ?_
        refine sm_rd (m_aI_12_34 Ho3 (z3_sub rfl l3_1) c1).1 ?_
        refine sm_rd (m_gR_12_61 Ho3) ?_
        refine sm_rd (m_aI_12_61 Ho3 l3_0 ⟨by decide, by decide⟩).1 ?_
        exact S12_over_50 1024 Ho3 rfl qx1 rfl ((m_aI_12_34 Ho3 (z3_sub rfl l3_1) c1).2) rfl ((m_aI_12_61 Ho3 l3_0 ⟨by decide, by decide⟩).2)
theorem S12_over {h : PH} (H : OKM h) {x1i : Int32} {x1 : Int} (ex1 : x1i = Z3 x1) (qx1 : r3 x1) : SimI OKM (F12_over h 0 x1i) (G12_over (rd h) x1) := by
  subst ex1
  unfold F12_over G12_over
  refine sm_cd (m_ok_12 H) ?_
  exact S12_over_0 H rfl qx1
theorem S12_peak_0 {h : PH} (H : OKM h) {x1i : Int32} {x1 : Int} (ex1 : x1i = Z3 x1) (qx1 : r3 x1) : SimI OKM (F12_peak_0 h 0 x1i) (G12_peak_0 (rd h) x1) := by
  subst ex1
  unfold F12_peak_0 G12_peak_0
  refine sm_wt (m_pI_12_2 H l3_0 lr3_0) fun h1 Hh1 => ?_
  refine sm_II (S12_isIn Hh1 rfl qx1 l3_0 lr3_0 l3_199 lr3_199) fun vo3 ho3 Ho3 ro3 => ?_
  refine sm_if (z3_eq rfl l3_0 ro3 lr3_0) ?_ ?_
  · exact sm_retI Ho3 l3_m1 lr3_m1
  · refine sm_II (S12_peakAt Ho3 rfl qx1) fun vo6 ho6 Ho6 ro6 => ?_
    exact sm_retI Ho6 rfl ro6
theorem S12_peak {h : PH} (H : OKM h) {x1i : Int32} {x1 : Int} (ex1 : x1i = Z3 x1) (qx1 : r3 x1) : SimI OKM (F12_peak h 0 x1i) (G12_peak (rd h) x1) := by
  subst ex1
  unfold F12_peak G12_peak
  refine sm_cd (m_ok_12 H) ?_
  exact S12_peak_0 H rfl qx1
theorem S12_plan_0 {h : PH} (H : OKM h) {x1i : Int32} {x1 : Int} (ex1 : x1i = Z3 x1) (qx1 : r3 x1) : SimI OKM (F12_plan_0 h 0 x1i) (G12_plan_0 (rd h) x1) := by
  subst ex1
  unfold F12_plan_0 G12_plan_0
  refine sm_wt (m_pI_12_2 H l3_0 lr3_0) fun h1 Hh1 => ?_
  refine sm_II (S12_isSurfer Hh1 rfl qx1) fun vo3 ho3 Ho3 ro3 => ?_
  refine sm_if (z3_eq rfl l3_0 ro3 lr3_0) ?_ ?_
  · exact sm_retI Ho3 l3_m1 lr3_m1
  · refine sm_VI (S12_layPlan Ho3 rfl qx1) fun ho6 Ho6 => ?_
    refine sm_rd (m_gR_12_72 Ho6) ?_
    refine sm_II (S12_firstToCome Ho6) fun vo10 ho10 Ho10 ro10 => ?_
    refine sgxI fun c1 => ?_
    refine sm_rd (m_aI_12_72 Ho10 rfl c1).1 ?_
    exact sm_retI Ho10 rfl (m_aI_12_72 Ho10 rfl c1).2
theorem S12_plan {h : PH} (H : OKM h) {x1i : Int32} {x1 : Int} (ex1 : x1i = Z3 x1) (qx1 : r3 x1) : SimI OKM (F12_plan h 0 x1i) (G12_plan (rd h) x1) := by
  subst ex1
  unfold F12_plan G12_plan
  refine sm_cd (m_ok_12 H) ?_
  exact S12_plan_0 H rfl qx1
theorem S12_planned_109 {k32 : PH → Nat → Int32 → Int32 → Int32 → Option (Int32 × PH)} {kk32 : Mem → Int → Int → Int → Option (Int × Mem)} (hk32 : ∀ {h : PH} (_ : OKM h) {x2 : Int32} {y2 : Int} (_ : x2 = Z3 y2) (_ : r3 y2) {x3 : Int32} {y3 : Int} (_ : x3 = Z3 y3) (_ : r3 y3) {x4 : Int32} {y4 : Int} (_ : x4 = Z3 y4) (_ : r3 y4), SimI OKM (k32 h 0 x2 x3 x4) (kk32 (rd h) y2 y3 y4)) {h : PH} (H : OKM h) {x1i : Int32} {x1 : Int} (ex1 : x1i = Z3 x1) (qx1 : r3 x1) {x4i : Int32} {x4 : Int} (ex4 : x4i = Z3 x4) (qx4 : r3 x4) {x5i : Int32} {x5 : Int} (ex5 : x5i = Z3 x5) (qx5 : r3 x5) {s0i : Int32} {s0 : Int} (es0 : s0i = Z3 s0) (qs0 : r3 s0) {s1i : Int32} {s1 : Int} (es1 : s1i = Z3 s1) (qs1 : r3 s1) : SimI OKM (F12_planned_109 k32 h 0 x1i x4i x5i s0i s1i) (G12_planned_109 kk32 (rd h) x1 x4 x5 s0 s1) := by
  subst ex1 ex4 ex5 es0 es1
  unfold F12_planned_109 G12_planned_109
  refine sm_if (z3_eq rfl l3_0 qx5 lr3_0) ?_ ?_
  · refine sg3I fun c1 => ?_
    refine sg3I fun c2 => ?_
    exact hk32 H rfl qx1 (z3_sub rfl rfl) c1 (z3_add rfl l3_1) c2
  · refine sm_rd (m_gR_12_73 H) ?_
    refine sgxI fun c3 => ?_
    refine sm_rd (m_aI_12_73 H rfl c3).1 ?_
    refine sg3I fun c4 => ?_
    exact hk32 H rfl qx1 (z3_sub rfl rfl) c4 rfl ((m_aI_12_73 H rfl c3).2)
theorem S12_planned_98 {k32 : PH → Nat → Int32 → Int32 → Int32 → Option (Int32 × PH)} {kk32 : Mem → Int → Int → Int → Option (Int × Mem)} (hk32 : ∀ {h : PH} (_ : OKM h) {x2 : Int32} {y2 : Int} (_ : x2 = Z3 y2) (_ : r3 y2) {x3 : Int32} {y3 : Int} (_ : x3 = Z3 y3) (_ : r3 y3) {x4 : Int32} {y4 : Int} (_ : x4 = Z3 y4) (_ : r3 y4), SimI OKM (k32 h 0 x2 x3 x4) (kk32 (rd h) y2 y3 y4)) {h : PH} (H : OKM h) {x1i : Int32} {x1 : Int} (ex1 : x1i = Z3 x1) (qx1 : r3 x1) {x3i : Int32} {x3 : Int} (ex3 : x3i = Z3 x3) (qx3 : r3 x3) {x4i : Int32} {x4 : Int} (ex4 : x4i = Z3 x4) (qx4 : r3 x4) {x5i : Int32} {x5 : Int} (ex5 : x5i = Z3 x5) (qx5 : r3 x5) : SimI OKM (F12_planned_98 k32 h 0 x1i x3i x4i x5i) (G12_planned_98 kk32 (rd h) x1 x3 x4 x5) := by
  subst ex1 ex3 ex4 ex5
  unfold F12_planned_98 G12_planned_98
  refine sm_if (z3_eq rfl l3_0 qx5 lr3_0) ?_ ?_
  · exact S12_planned_109 hk32 H rfl qx1 rfl qx4 rfl qx5 l3_0 lr3_0 rfl qx3
  · exact S12_planned_109 hk32 H rfl qx1 rfl qx4 rfl qx5 l3_1 lr3_1 rfl qx3
theorem S12_planned_84 {k32 : PH → Nat → Int32 → Int32 → Int32 → Option (Int32 × PH)} {kk32 : Mem → Int → Int → Int → Option (Int × Mem)} (hk32 : ∀ {h : PH} (_ : OKM h) {x2 : Int32} {y2 : Int} (_ : x2 = Z3 y2) (_ : r3 y2) {x3 : Int32} {y3 : Int} (_ : x3 = Z3 y3) (_ : r3 y3) {x4 : Int32} {y4 : Int} (_ : x4 = Z3 y4) (_ : r3 y4), SimI OKM (k32 h 0 x2 x3 x4) (kk32 (rd h) y2 y3 y4)) {h : PH} (H : OKM h) {x1i : Int32} {x1 : Int} (ex1 : x1i = Z3 x1) (qx1 : r3 x1) {x3i : Int32} {x3 : Int} (ex3 : x3i = Z3 x3) (qx3 : r3 x3) {x4i : Int32} {x4 : Int} (ex4 : x4i = Z3 x4) (qx4 : r3 x4) {s0i : Int32} {s0 : Int} (es0 : s0i = Z3 s0) (qs0 : r3 s0) : SimI OKM (F12_planned_84 k32 h 0 x1i x3i x4i s0i) (G12_planned_84 kk32 (rd h) x1 x3 x4 s0) := by
  subst ex1 ex3 ex4 es0
  unfold F12_planned_84 G12_planned_84
  refine sm_if (z3_eq rfl l3_0 qs0 lr3_0) ?_ ?_
  · exact S12_planned_98 hk32 H rfl qx1 rfl qx3 rfl qx4 rfl qs0
  · refine sm_if (z3_eq rfl l3_0 qx3 lr3_0) ?_ ?_
    · exact sm_retI H rfl qx4
    · exact S12_planned_98 hk32 H rfl qx1 rfl qx3 rfl qx4 rfl qs0
theorem S12_planned_32 (n : Nat) : ∀ {h : PH} (H : OKM h) {x1i : Int32} {x1 : Int} (ex1 : x1i = Z3 x1) (qx1 : r3 x1) {x3i : Int32} {x3 : Int} (ex3 : x3i = Z3 x3) (qx3 : r3 x3) {x4i : Int32} {x4 : Int} (ex4 : x4i = Z3 x4) (qx4 : r3 x4), SimI OKM (F12_planned_32 n h 0 x1i x3i x4i) (G12_planned_32 n (rd h) x1 x3 x4) := by
  induction n with
  | zero => intros; exact smI_none _
  | succ n ih =>
    intro h H x1i x1 ex1 qx1 x3i x3 ex3 qx3 x4i x4 ex4 qx4
    subst ex1 ex3 ex4
    rw [F12_planned_32, G12_planned_32]
    refine sm_rd (m_gI_12_16 H).1 ?_
    refine sm_if (z3_le rfl rfl (m_gI_12_16 H).2 qx4) ?_ ?_
    · exact sm_retI H l3_m2 lr3_m2
    · refine sm_rd (m_gR_12_55 H) ?_
      refine sgxI fun c1 => ?_
      refine sm_rd (m_aI_12_55 H rfl c1).1 ?_
      refine sm_II (S12_gainOf H rfl qx1 rfl qx4 rfl ((m_aI_12_55 H rfl c1).2)) fun vo8 ho8 Ho8 ro8 => ?_
      refine sm_rd (m_gR_12_72 Ho8) ?_
      refine sm_rd (m_gR_12_73 Ho8) ?_
      refine sgxI fun c2 => ?_
      refine sm_rd (m_aI_12_73 Ho8 rfl c2).1 ?_
      refine sgxI fun c3 => ?_
      refine sm_rd (m_aI_12_72 Ho8 rfl c3).1 ?_
      refine sm_rd (m_gR_12_72 Ho8) ?_
      refine sgxI fun c4 => ?_
      refine sm_rd (m_aI_12_72 Ho8 (z3_add rfl l3_1) c4).1 ?_
      refine sg3I fun c5 => ?_
      refine sm_if (z3_lt (z3_add rfl rfl) rfl c5 (m_aI_12_72 Ho8 (z3_add rfl l3_1) c4).2) ?_ ?_
      · exact S12_planned_84 (@fun _ H _ _ ex1 qx1 _ _ ex3 qx3 _ _ ex4 qx4 => ih H ex1 qx1 ex3 qx3 ex4 qx4) Ho8 rfl qx1 rfl qx3 rfl qx4 l3_0 lr3_0
      · exact S12_planned_84 (@fun _ H _ _ ex1 qx1 _ _ ex3 qx3 _ _ ex4 qx4 => ih H ex1 qx1 ex3 qx3 ex4 qx4) Ho8 rfl qx1 rfl qx3 rfl qx4 l3_1 lr3_1
theorem S12_planned_0 {h : PH} (H : OKM h) {x1i : Int32} {x1 : Int} (ex1 : x1i = Z3 x1) (qx1 : r3 x1) {x2i : Int32} {x2 : Int} (ex2 : x2i = Z3 x2) (qx2 : r3 x2) : SimI OKM (F12_planned_0 h 0 x1i x2i) (G12_planned_0 (rd h) x1 x2) := by
  subst ex1 ex2
  unfold F12_planned_0 G12_planned_0
  refine sm_wt (m_pI_12_2 H l3_0 lr3_0) fun h1 Hh1 => ?_
  refine sm_II (S12_isSurfer Hh1 rfl qx1) fun vo3 ho3 Ho3 ro3 => ?_
  refine sm_if (z3_eq rfl l3_0 ro3 lr3_0) ?_ ?_
  · exact sm_retI Ho3 l3_m1 lr3_m1
  · refine sm_if (z3_le l3_0 rfl lr3_0 qx2) ?_ ?_
    · refine sm_VI (S12_layPlan Ho3 rfl qx1) fun ho7 Ho7 => ?_
      refine sm_II (S12_firstToCome Ho7) fun vo9 ho9 Ho9 ro9 => ?_
      exact S12_planned_32 1024 Ho9 rfl qx1 rfl qx2 rfl ro9
    · exact sm_retI Ho3 l3_m1 lr3_m1
theorem S12_planned {h : PH} (H : OKM h) {x1i : Int32} {x1 : Int} (ex1 : x1i = Z3 x1) (qx1 : r3 x1) {x2i : Int32} {x2 : Int} (ex2 : x2i = Z3 x2) (qx2 : r3 x2) : SimI OKM (F12_planned h 0 x1i x2i) (G12_planned (rd h) x1 x2) := by
  subst ex1 ex2
  unfold F12_planned G12_planned
  refine sm_cd (m_ok_12 H) ?_
  exact S12_planned_0 H rfl qx1 rfl qx2
theorem S12_setEnd_0 {h : PH} (H : OKM h) {x1i : Int32} {x1 : Int} (ex1 : x1i = Z3 x1) (qx1 : r3 x1) : SimI OKM (F12_setEnd_0 h 0 x1i) (G12_setEnd_0 (rd h) x1) := by
  subst ex1
  unfold F12_setEnd_0 G12_setEnd_0
  refine sm_rd (m_gI_12_15 H).1 ?_
  refine sg3I fun c1 => ?_
  refine sm_if (z3_le rfl (z3_add rfl l3_1) (m_gI_12_15 H).2 c1) ?_ ?_
  · refine sm_rd (m_gI_12_16 H).1 ?_
    exact sm_retI H rfl (m_gI_12_16 H).2
  · refine sm_rd (m_gR_12_33 H) ?_
    refine sgxI fun c2 => ?_
    refine sm_rd (m_aI_12_33 H (z3_add rfl l3_1) c2).1 ?_
    exact sm_retI H rfl (m_aI_12_33 H (z3_add rfl l3_1) c2).2
theorem S12_setEnd {h : PH} (H : OKM h) {x1i : Int32} {x1 : Int} (ex1 : x1i = Z3 x1) (qx1 : r3 x1) : SimI OKM (F12_setEnd h 0 x1i) (G12_setEnd (rd h) x1) := by
  subst ex1
  unfold F12_setEnd G12_setEnd
  refine sm_cd (m_ok_12 H) ?_
  exact S12_setEnd_0 H rfl qx1
theorem S12_rank__79 {k34 : PH → Nat → Int32 → Int32 → Int32 → Int32 → Int32 → Option (Int32 × PH)} {kk34 : Mem → Int → Int → Int → Int → Int → Option (Int × Mem)} (hk34 : ∀ {h : PH} (_ : OKM h) {x2 : Int32} {y2 : Int} (_ : x2 = Z3 y2) (_ : r3 y2) {x3 : Int32} {y3 : Int} (_ : x3 = Z3 y3) (_ : r3 y3) {x4 : Int32} {y4 : Int} (_ : x4 = Z3 y4) (_ : r3 y4) {x5 : Int32} {y5 : Int} (_ : x5 = Z3 y5) (_ : r3 y5) {x6 : Int32} {y6 : Int} (_ : x6 = Z3 y6) (_ : r3 y6), SimI OKM (k34 h 0 x2 x3 x4 x5 x6) (kk34 (rd h) y2 y3 y4 y5 y6)) (n : Nat) : ∀ {h : PH} (H : OKM h) {x1i : Int32} {x1 : Int} (ex1 : x1i = Z3 x1) (qx1 : r3 x1) {x2i : Int32} {x2 : Int} (ex2 : x2i = Z3 x2) (qx2 : r3 x2) {x3i : Int32} {x3 : Int} (ex3 : x3i = Z3 x3) (qx3 : r3 x3) {x4i : Int32} {x4 : Int} (ex4 : x4i = Z3 x4) (qx4 : r3 x4) {x5i : Int32} {x5 : Int} (ex5 : x5i = Z3 x5) (qx5 : r3 x5) {x6i : Int32} {x6 : Int} (ex6 : x6i = Z3 x6) (qx6 : r3 x6) {x7i : Int32} {x7 : Int} (ex7 : x7i = Z3 x7) (qx7 : r3 x7), SimI OKM (F12_rank__79 k34 n h 0 x1i x2i x3i x4i x5i x6i x7i) (G12_rank__79 kk34 n (rd h) x1 x2 x3 x4 x5 x6 x7) := by
  induction n with
  | zero => intros; exact smI_none _
  | succ n ih =>
    intro h H x1i x1 ex1 qx1 x2i x2 ex2 qx2 x3i x3 ex3 qx3 x4i x4 ex4 qx4 x5i x5 ex5 qx5 x6i x6 ex6 qx6 x7i x7 ex7 qx7
    subst ex1 ex2 ex3 ex4 ex5 ex6 ex7
    rw [F12_rank__79, G12_rank__79]
    refine sm_II (S12_setEnd H rfl qx5) fun vo1 ho1 Ho1 ro1 => ?_
    refine sm_if (z3_le rfl rfl ro1 qx7) ?_ ?_
    · refine sm_rd (m_gR_12_35 Ho1) ?_
      refine sm_rd (m_gR_12_33 Ho1) ?_
      refine sgxI fun c1 => ?_
      refine sm_rd (m_aI_12_33 Ho1 rfl c1).1 ?_
      refine sgxI fun c2 => ?_
      refine sm_rd (m_aI_12_35 Ho1 (z3_sub (z3_add rfl rfl) l3_1) c2).1 ?_
      refine sm_if (z3_eq rfl rfl (m_aI_12_35 Ho1 (z3_sub (z3_add rfl rfl) l3_1) c2).2 qx6) ?_ ?_
      · refine sg3I fun c3 => ?_
        refine sg3I fun c4 => ?_
        exact hk34 Ho1 rfl qx1 rfl qx2 rfl qx3 (z3_add rfl l3_1) c3 (z3_add rfl l3_1) c4
      · refine sg3I fun c5 => ?_
        refine sg3I fun c6 => ?_
        exact hk34 Ho1 rfl qx1 rfl qx2 rfl qx3 (z3_add rfl l3_0) c5 (z3_add rfl l3_1) c6
    · refine sm_rd (m_gR_12_35 Ho1) ?_
      refine sgxI fun c7 => ?_
      refine sm_rd (m_aI_12_35 Ho1 rfl c7).1 ?_
      refine sm_if (z3_le rfl rfl (m_aI_12_35 Ho1 rfl c7).2 qx6) ?_ ?_
      · refine sg3I fun c8 => ?_
        exact ih Ho1 rfl qx1 rfl qx2 rfl qx3 rfl qx4 rfl qx5 rfl qx6 (z3_add rfl l3_1) c8
      · refine sm_rd (m_gR_12_35 Ho1) ?_
        refine sgxI fun c9 => ?_
        refine sm_rd (m_aI_12_35 Ho1 rfl c9).1 ?_
        refine sg3I fun c10 => ?_
        exact ih Ho1 rfl qx1 rfl qx2 rfl qx3 rfl qx4 rfl qx5 rfl ((m_aI_12_35 Ho1 rfl c9).2) (z3_add rfl l3_1) c10
theorem S12_rank__34 (n : Nat) : ∀ {h : PH} (H : OKM h) {x1i : Int32} {x1 : Int} (ex1 : x1i = Z3 x1) (qx1 : r3 x1) {x2i : Int32} {x2 : Int} (ex2 : x2i = Z3 x2) (qx2 : r3 x2) {x3i : Int32} {x3 : Int} (ex3 : x3i = Z3 x3) (qx3 : r3 x3) {x4i : Int32} {x4 : Int} (ex4 : x4i = Z3 x4) (qx4 : r3 x4) {x5i : Int32} {x5 : Int} (ex5 : x5i = Z3 x5) (qx5 : r3 x5), SimI OKM (F12_rank__34 n h 0 x1i x2i x3i x4i x5i) (G12_rank__34 n (rd h) x1 x2 x3 x4 x5) := by
  induction n with
  | zero => intros; exact smI_none _
  | succ n ih =>
    intro h H x1i x1 ex1 qx1 x2i x2 ex2 qx2 x3i x3 ex3 qx3 x4i x4 ex4 qx4 x5i x5 ex5 qx5
    subst ex1 ex2 ex3 ex4 ex5
    rw [F12_rank__34, G12_rank__34]
    refine sm_rd (m_gI_12_15 H).1 ?_
    refine sm_if (z3_le rfl rfl (m_gI_12_15 H).2 qx5) ?_ ?_
    · refine sm_if (z3_eq rfl l3_0 qx2 lr3_0) ?_ ?_
      · exact sm_retI H rfl qx4
      · exact sm_retI H rfl qx3
    · refine sm_II (S12_setEnd H rfl qx5) fun vo5 ho5 Ho5 ro5 => ?_
      refine sm_rd (m_gR_12_33 Ho5) ?_
      refine sgxI fun c1 => ?_
      refine sm_rd (m_aI_12_33 Ho5 rfl c1).1 ?_
      refine sg3I fun c2 => ?_
      refine sm_if (z3_le rfl (z3_sub rfl rfl) qx1 c2) ?_ ?_
      · refine sm_rd (m_gR_12_33 Ho5) ?_
        refine sgxI fun c3 => ?_
        refine sm_rd (m_aI_12_33 Ho5 rfl c3).1 ?_
        refine sg3I fun c4 => ?_
        exact S12_rank__79 (@fun _ H _ _ ex1 qx1 _ _ ex2 qx2 _ _ ex3 qx3 _ _ ex4 qx4 _ _ ex5 qx5 => ih H ex1 qx1 ex2 qx2 ex3 qx3 ex4 qx4 ex5 qx5) 1024 Ho5 rfl qx1 rfl qx2 (z3_add rfl l3_1) c4 rfl qx4 rfl qx5 l3_0 lr3_0 rfl ((m_aI_12_33 Ho5 rfl c3).2)
      · refine sg3I fun c5 => ?_
        exact ih Ho5 rfl qx1 rfl qx2 rfl qx3 rfl qx4 (z3_add rfl l3_1) c5
theorem S12_rank__0 {h : PH} (H : OKM h) {x1i : Int32} {x1 : Int} (ex1 : x1i = Z3 x1) (qx1 : r3 x1) {x2i : Int32} {x2 : Int} (ex2 : x2i = Z3 x2) (qx2 : r3 x2) : SimI OKM (F12_rank__0 h 0 x1i x2i) (G12_rank__0 (rd h) x1 x2) := by
  subst ex1 ex2
  unfold F12_rank__0 G12_rank__0
  refine sm_wt (m_pI_12_2 H l3_0 lr3_0) fun h1 Hh1 => ?_
  refine sm_II (S12_isIn Hh1 rfl qx1 l3_1 lr3_1 l3_7 lr3_7) fun vo3 ho3 Ho3 ro3 => ?_
  refine sm_if (z3_eq rfl l3_0 ro3 lr3_0) ?_ ?_
  · exact sm_retI Ho3 l3_m1 lr3_m1
  · refine sm_II (S12_isIn Ho3 rfl qx2 l3_0 lr3_0 l3_1 lr3_1) fun vo6 ho6 Ho6 ro6 => ?_
    refine sm_if (z3_eq rfl l3_0 ro6 lr3_0) ?_ ?_
    · exact sm_retI Ho6 l3_m1 lr3_m1
    · exact S12_rank__34 1024 Ho6 rfl qx1 rfl qx2 l3_0 lr3_0 l3_0 lr3_0 l3_0 lr3_0
theorem S12_rank_ {h : PH} (H : OKM h) {x1i : Int32} {x1 : Int} (ex1 : x1i = Z3 x1) (qx1 : r3 x1) {x2i : Int32} {x2 : Int} (ex2 : x2i = Z3 x2) (qx2 : r3 x2) : SimI OKM (F12_rank_ h 0 x1i x2i) (G12_rank_ (rd h) x1 x2) := by
  subst ex1 ex2
  unfold F12_rank_ G12_rank_
  refine sm_cd (m_ok_12 H) ?_
  exact S12_rank__0 H rfl qx1 rfl qx2
theorem S12_remember_51 (n : Nat) : ∀ {h : PH} (H : OKM h) {x1i : Int32} {x1 : Int} (ex1 : x1i = Z3 x1) (qx1 : r3 x1), SimV OKM (F12_remember_51 n h 0 x1i) (G12_remember_51 n (rd h) x1) := by
  induction n with
  | zero => intros; exact smV_none _
  | succ n ih =>
    intro h H x1i x1 ex1 qx1
    subst ex1
    rw [F12_remember_51, G12_remember_51]
    refine sm_if (z3_le l3_5 rfl lr3_5 qx1) ?_ ?_
    · refine sm_rd (m_gR_12_79 H) ?_
      refine sm_rd (m_gI_12_78 H).1 ?_
      refine sm_rd (m_gI_12_64 H).1 ?_
      refine sgxV fun c1 => ?_
      refine sm_wt (m_sI_12_79 H (z3_add (z3_mul l3_11 rfl) l3_10) c1 rfl (m_gI_12_64 H).2) fun h9 Hh9 => ?_
      refine sm_rd (m_gI_12_78 Hh9).1 ?_
      refine sg3V fun c2 => ?_
      refine sm_wt (m_pI_12_78 Hh9 (z3_add rfl l3_1) c2) fun h12 Hh12 => ?_
      exact sm_retV Hh12
    · refine sm_rd (m_gR_12_79 H) ?_
      refine sm_rd (m_gI_12_78 H).1 ?_
      refine sm_rd (m_gR_12_55 H) ?_
      refine sgxV fun c3 => ?_
      refine sm_rd (m_aI_12_55 H rfl c3).1 ?_
      refine sgxV fun c4 => ?_
      refine sm_wt (m_sI_12_79 H (z3_add (z3_mul l3_11 rfl) rfl) c4 rfl (m_aI_12_55 H rfl c3).2) fun h23 Hh23 => ?_
      refine sm_rd (m_gR_12_79 Hh23) ?_
      refine sm_rd (m_gI_12_78 Hh23).1 ?_
      refine sm_rd (m_gR_12_59 Hh23) ?_
      refine sgxV fun c5 => ?_
      refine sm_rd (m_aI_12_59 Hh23 rfl c5).1 ?_
      refine sgxV fun c6 => ?_
      refine sm_wt (m_sI_12_79 Hh23 (z3_add (z3_add (z3_mul l3_11 rfl) l3_5) rfl) c6 rfl (m_aI_12_59 Hh23 rfl c5).2) fun h33 Hh33 => ?_
      refine sg3V fun c7 => ?_
      exact ih Hh33 (z3_add rfl l3_1) c7
theorem S12_remember_11 (n : Nat) : ∀ {h : PH} (H : OKM h) {x1i : Int32} {x1 : Int} (ex1 : x1i = Z3 x1) (qx1 : r3 x1), SimV OKM (F12_remember_11 n h 0 x1i) (G12_remember_11 n (rd h) x1) := by
  induction n with
  | zero => intros; exact smV_none _
  | succ n ih =>
    intro h H x1i x1 ex1 qx1
    subst ex1
    rw [F12_remember_11, G12_remember_11]
    refine sm_if (z3_le l3_209 rfl lr3_209 qx1) ?_ ?_
    · refine sm_rd (m_gI_12_78 H).1 ?_
      refine sg3V fun c1 => ?_
      refine sm_wt (m_pI_12_78 H (z3_sub rfl l3_1) c1) fun h4 Hh4 => ?_
      exact S12_remember_51 1024 Hh4 l3_0 lr3_0
    · refine sm_rd (m_gR_12_79 H) ?_
      refine sm_rd (m_gR_12_79 H) ?_
      refine sgxV fun c2 => ?_
      refine sm_rd (m_aI_12_79 H (z3_add rfl l3_11) c2).1 ?_
      refine sgxV fun c3 => ?_
      refine sm_wt (m_sI_12_79 H rfl c3 rfl (m_aI_12_79 H (z3_add rfl l3_11) c2).2) fun h13 Hh13 => ?_
      refine sg3V fun c4 => ?_
      exact ih Hh13 (z3_add rfl l3_1) c4
theorem S12_remember_0 {h : PH} (H : OKM h) : SimV OKM (F12_remember_0 h 0) (G12_remember_0 (rd h)) := by
  unfold F12_remember_0 G12_remember_0
  refine sm_rd (m_gI_12_78 H).1 ?_
  refine sm_if (z3_eq rfl l3_20 (m_gI_12_78 H).2 lr3_20) ?_ ?_
  · exact S12_remember_11 1024 H l3_0 lr3_0
  · exact S12_remember_51 1024 H l3_0 lr3_0
theorem S12_remember {h : PH} (H : OKM h) : SimV OKM (F12_remember h 0) (G12_remember (rd h)) := by
  unfold F12_remember G12_remember
  refine sm_cd (m_ok_12 H) ?_
  exact S12_remember_0 H
theorem S12_restAt_12 (n : Nat) : ∀ {h : PH} (H : OKM h) {x3i : Int32} {x3 : Int} (ex3 : x3i = Z3 x3) (qx3 : r3 x3) {x4i : Int32} {x4 : Int} (ex4 : x4i = Z3 x4) (qx4 : r3 x4) {x5i : Int32} {x5 : Int} (ex5 : x5i = Z3 x5) (qx5 : r3 x5), SimI OKM (F12_restAt_12 n h 0 x3i x4i x5i) (G12_restAt_12 n (rd h) x3 x4 x5) := by
  induction n with
  | zero => intros; exact smI_none _
  | succ n ih =>
    intro h H x3i x3 ex3 qx3 x4i x4 ex4 qx4 x5i x5 ex5 qx5
    subst ex3 ex4 ex5
    rw [F12_restAt_12, G12_restAt_12]
    refine sm_if (z3_le l3_25 rfl lr3_25 qx5) ?_ ?_
    · refine sm_if (z3_le l3_0 rfl lr3_0 qx3) ?_ ?_
      · exact sm_retI H l3_m2 lr3_m2
      · exact sm_retI H rfl qx4
    · refine sm_II (S12_isRest H rfl qx5) fun vo3 ho3 Ho3 ro3 => ?_
      refine sm_if (z3_eq rfl l3_0 ro3 lr3_0) ?_ ?_
      · refine sg3I fun c1 => ?_
        exact ih Ho3 rfl qx3 rfl qx4 (z3_add rfl l3_1) c1
      · refine sm_if (z3_eq rfl rfl qx4 qx3) ?_ ?_
        · refine sgdI fun c2 => ?_
          refine sm_II (S12_wayAt Ho3 (z3_div rfl l3_5 qx5 lr3_5 c2) (r3_div qx5 lr3_5 c2)) fun vo7 ho7 Ho7 ro7 => ?_
          refine sgdI fun c3 => ?_
          refine sm_II (S12_wayAt Ho7 (z3_rem rfl l3_5 qx5 lr3_5 c3) (r3_rem qx5 lr3_5 c3)) fun vo9 ho9 Ho9 ro9 => ?_
          refine sg3I fun c4 => ?_
          exact sm_retI Ho9 (z3_add (z3_mul l3_10 rfl) rfl) c4
        · refine sg3I fun c5 => ?_
          refine sg3I fun c6 => ?_
          exact ih Ho3 rfl qx3 (z3_add rfl l3_1) c5 (z3_add rfl l3_1) c6
theorem S12_restAt_0 {h : PH} (H : OKM h) {x1i : Int32} {x1 : Int} (ex1 : x1i = Z3 x1) (qx1 : r3 x1) {x2i : Int32} {x2 : Int} (ex2 : x2i = Z3 x2) (qx2 : r3 x2) {x3i : Int32} {x3 : Int} (ex3 : x3i = Z3 x3) (qx3 : r3 x3) : SimI OKM (F12_restAt_0 h 0 x1i x2i x3i) (G12_restAt_0 (rd h) x1 x2 x3) := by
  subst ex1 ex2 ex3
  unfold F12_restAt_0 G12_restAt_0
  refine sm_VI (S12_layGame H rfl qx1 rfl qx2) fun ho1 Ho1 => ?_
  exact S12_restAt_12 1024 Ho1 rfl qx3 l3_0 lr3_0 l3_0 lr3_0
theorem S12_restAt {h : PH} (H : OKM h) {x1i : Int32} {x1 : Int} (ex1 : x1i = Z3 x1) (qx1 : r3 x1) {x2i : Int32} {x2 : Int} (ex2 : x2i = Z3 x2) (qx2 : r3 x2) {x3i : Int32} {x3 : Int} (ex3 : x3i = Z3 x3) (qx3 : r3 x3) : SimI OKM (F12_restAt h 0 x1i x2i x3i) (G12_restAt (rd h) x1 x2 x3) := by
  subst ex1 ex2 ex3
  unfold F12_restAt G12_restAt
  refine sm_cd (m_ok_12 H) ?_
  exact S12_restAt_0 H rfl qx1 rfl qx2 rfl qx3
theorem S12_rest_0 {h : PH} (H : OKM h) {x1i : Int32} {x1 : Int} (ex1 : x1i = Z3 x1) (qx1 : r3 x1) {x2i : Int32} {x2 : Int} (ex2 : x2i = Z3 x2) (qx2 : r3 x2) {x3i : Int32} {x3 : Int} (ex3 : x3i = Z3 x3) (qx3 : r3 x3) : SimI OKM (F12_rest_0 h 0 x1i x2i x3i) (G12_rest_0 (rd h) x1 x2 x3) := by
  subst ex1 ex2 ex3
  unfold F12_rest_0 G12_rest_0
  refine sm_wt (m_pI_12_2 H l3_0 lr3_0) fun h1 Hh1 => ?_
  refine sm_II (S12_isSurfer Hh1 rfl qx1) fun vo3 ho3 Ho3 ro3 => ?_
  refine sm_if (z3_eq rfl l3_0 ro3 lr3_0) ?_ ?_
  · exact sm_retI Ho3 l3_m1 lr3_m1
  · refine sm_II (S12_isSurfer Ho3 rfl qx2) fun vo6 ho6 Ho6 ro6 => ?_
    refine sm_if (z3_eq rfl l3_0 ro6 lr3_0) ?_ ?_
    · exact sm_retI Ho6 l3_m1 lr3_m1
    · refine sm_if (z3_eq rfl rfl qx1 qx2) ?_ ?_
      · exact sm_retI Ho6 l3_m1 lr3_m1
      · refine sm_if (z3_lt rfl l3_0 qx3 lr3_0) ?_ ?_
        · exact sm_retI Ho6 l3_m1 lr3_m1
        · refine sm_II (S12_restAt Ho6 rfl qx1 rfl qx2 rfl qx3) fun vo11 ho11 Ho11 ro11 => ?_
          exact sm_retI Ho11 rfl ro11
theorem S12_rest {h : PH} (H : OKM h) {x1i : Int32} {x1 : Int} (ex1 : x1i = Z3 x1) (qx1 : r3 x1) {x2i : Int32} {x2 : Int} (ex2 : x2i = Z3 x2) (qx2 : r3 x2) {x3i : Int32} {x3 : Int} (ex3 : x3i = Z3 x3) (qx3 : r3 x3) : SimI OKM (F12_rest h 0 x1i x2i x3i) (G12_rest (rd h) x1 x2 x3) := by
  subst ex1 ex2 ex3
  unfold F12_rest G12_rest
  refine sm_cd (m_ok_12 H) ?_
  exact S12_rest_0 H rfl qx1 rfl qx2 rfl qx3
theorem S12_rests_0 {h : PH} (H : OKM h) {x1i : Int32} {x1 : Int} (ex1 : x1i = Z3 x1) (qx1 : r3 x1) {x2i : Int32} {x2 : Int} (ex2 : x2i = Z3 x2) (qx2 : r3 x2) : SimI OKM (F12_rests_0 h 0 x1i x2i) (G12_rests_0 (rd h) x1 x2) := by
  subst ex1 ex2
  unfold F12_rests_0 G12_rests_0
  refine sm_wt (m_pI_12_2 H l3_0 lr3_0) fun h1 Hh1 => ?_
  refine sm_II (S12_isSurfer Hh1 rfl qx1) fun vo3 ho3 Ho3 ro3 => ?_
  refine sm_if (z3_eq rfl l3_0 ro3 lr3_0) ?_ ?_
  · exact sm_retI Ho3 l3_m1 lr3_m1
  · refine sm_II (S12_isSurfer Ho3 rfl qx2) fun vo6 ho6 Ho6 ro6 => ?_
    refine sm_if (z3_eq rfl l3_0 ro6 lr3_0) ?_ ?_
    · exact sm_retI Ho6 l3_m1 lr3_m1
    · refine sm_if (z3_eq rfl rfl qx1 qx2) ?_ ?_
      · exact sm_retI Ho6 l3_m1 lr3_m1
      · refine sm_II (S12_restAt Ho6 rfl qx1 rfl qx2 l3_m1 lr3_m1) fun vo10 ho10 Ho10 ro10 => ?_
        exact sm_retI Ho10 rfl ro10
theorem S12_rests {h : PH} (H : OKM h) {x1i : Int32} {x1 : Int} (ex1 : x1i = Z3 x1) (qx1 : r3 x1) {x2i : Int32} {x2 : Int} (ex2 : x2i = Z3 x2) (qx2 : r3 x2) : SimI OKM (F12_rests h 0 x1i x2i) (G12_rests (rd h) x1 x2) := by
  subst ex1 ex2
  unfold F12_rests G12_rests
  refine sm_cd (m_ok_12 H) ?_
  exact S12_rests_0 H rfl qx1 rfl qx2
theorem S12_rule_0 {h : PH} (H : OKM h) {x1i : Int32} {x1 : Int} (ex1 : x1i = Z3 x1) (qx1 : r3 x1) : SimI OKM (F12_rule_0 h 0 x1i) (G12_rule_0 (rd h) x1) := by
  subst ex1
  unfold F12_rule_0 G12_rule_0
  refine sm_wt (m_pI_12_2 H l3_0 lr3_0) fun h1 Hh1 => ?_
  refine sm_II (S12_isIn Hh1 rfl qx1 l3_0 lr3_0 l3_3 lr3_3) fun vo3 ho3 Ho3 ro3 => ?_
  refine sm_if (z3_eq rfl l3_0 ro3 lr3_0) ?_ ?_
  · exact sm_rz Ho3 l3_0 (by decide)
  · refine sm_rd (m_gI_12_64 Ho3).1 ?_
    refine sm_if (z3_eq rfl rfl qx1 (m_gI_12_64 Ho3).2) ?_ ?_
    · exact sm_rz Ho3 l3_0 (by decide)
    · refine sm_VI (S12_remember Ho3) fun ho9 Ho9 => ?_
      refine sm_wt (m_pI_12_64 Ho9 rfl qx1) fun h11 Hh11 => ?_
      exact sm_rz Hh11 l3_1 (by decide)
theorem S12_rule {h : PH} (H : OKM h) {x1i : Int32} {x1 : Int} (ex1 : x1i = Z3 x1) (qx1 : r3 x1) : SimI OKM (F12_rule h 0 x1i) (G12_rule (rd h) x1) := by
  subst ex1
  unfold F12_rule G12_rule
  refine sm_cd (m_ok_12 H) ?_
  exact S12_rule_0 H rfl qx1
theorem S12_seat_0 {h : PH} (H : OKM h) {x1i : Int32} {x1 : Int} (ex1 : x1i = Z3 x1) (qx1 : r3 x1) {x2i : Int32} {x2 : Int} (ex2 : x2i = Z3 x2) (qx2 : r3 x2) : SimI OKM (F12_seat_0 h 0 x1i x2i) (G12_seat_0 (rd h) x1 x2) := by
  subst ex1 ex2
  unfold F12_seat_0 G12_seat_0
  refine sm_wt (m_pI_12_2 H l3_0 lr3_0) fun h1 Hh1 => ?_
  refine sm_II (S12_isSurfer Hh1 rfl qx1) fun vo3 ho3 Ho3 ro3 => ?_
  refine sm_if (z3_eq rfl l3_0 ro3 lr3_0) ?_ ?_
  · exact sm_retI Ho3 l3_m1 lr3_m1
  · refine sm_II (S12_isCell Ho3 rfl qx2) fun vo6 ho6 Ho6 ro6 => ?_
    refine sm_if (z3_eq rfl l3_0 ro6 lr3_0) ?_ ?_
    · exact sm_retI Ho6 l3_m1 lr3_m1
    · refine sm_rd (m_gR_12_61 Ho6) ?_
      refine sm_rd (m_aI_12_61 Ho6 l3_0 ⟨by decide, by decide⟩).1 ?_
      refine sm_II (S12_seatFrom Ho6 rfl qx1 rfl qx2 rfl ((m_aI_12_61 Ho6 l3_0 ⟨by decide, by decide⟩).2)) fun vo13 ho13 Ho13 ro13 => ?_
      exact sm_retI Ho13 rfl ro13
theorem S12_seat {h : PH} (H : OKM h) {x1i : Int32} {x1 : Int} (ex1 : x1i = Z3 x1) (qx1 : r3 x1) {x2i : Int32} {x2 : Int} (ex2 : x2i = Z3 x2) (qx2 : r3 x2) : SimI OKM (F12_seat h 0 x1i x2i) (G12_seat (rd h) x1 x2) := by
  subst ex1 ex2
  unfold F12_seat G12_seat
  refine sm_cd (m_ok_12 H) ?_
  exact S12_seat_0 H rfl qx1 rfl qx2
theorem S12_shares_0 {h : PH} (H : OKM h) {x1i : Int32} {x1 : Int} (ex1 : x1i = Z3 x1) (qx1 : r3 x1) : SimI OKM (F12_shares_0 h 0 x1i) (G12_shares_0 (rd h) x1) := by
  subst ex1
  unfold F12_shares_0 G12_shares_0
  refine sm_wt (m_pI_12_2 H l3_0 lr3_0) fun h1 Hh1 => ?_
  refine sm_rd (m_gI_12_14 Hh1).1 ?_
  refine sm_if (z3_eq rfl l3_0 (m_gI_12_14 Hh1).2 lr3_0) ?_ ?_
  · exact sm_retI Hh1 l3_m1 lr3_m1
  · refine sm_II (S12_isIn Hh1 rfl qx1 l3_0 lr3_0 l3_1 lr3_1) fun vo6 ho6 Ho6 ro6 => ?_
    refine sm_if (z3_eq rfl l3_0 ro6 lr3_0) ?_ ?_
    · exact sm_retI Ho6 l3_m1 lr3_m1
    · refine sm_if (z3_eq rfl l3_0 qx1 lr3_0) ?_ ?_
      · refine sm_II (S12_unlike Ho6 l3_0 lr3_0) fun vo12 ho12 Ho12 ro12 => ?_
        exact sm_retI Ho12 rfl ro12
      · refine sm_II (S12_allHad Ho6 l3_0 lr3_0) fun vo10 ho10 Ho10 ro10 => ?_
        exact sm_retI Ho10 rfl ro10
theorem S12_shares {h : PH} (H : OKM h) {x1i : Int32} {x1 : Int} (ex1 : x1i = Z3 x1) (qx1 : r3 x1) : SimI OKM (F12_shares h 0 x1i) (G12_shares (rd h) x1) := by
  subst ex1
  unfold F12_shares G12_shares
  refine sm_cd (m_ok_12 H) ?_
  exact S12_shares_0 H rfl qx1
theorem S12_strike_0 {h : PH} (H : OKM h) {x1i : Int32} {x1 : Int} (ex1 : x1i = Z3 x1) (qx1 : r3 x1) : SimI OKM (F12_strike_0 h 0 x1i) (G12_strike_0 (rd h) x1) := by
  subst ex1
  unfold F12_strike_0 G12_strike_0
  refine sm_wt (m_pI_12_2 H l3_0 lr3_0) fun h1 Hh1 => ?_
  refine sm_rd (m_gI_12_74 Hh1).1 ?_
  refine sm_if (z3_eq rfl l3_24 (m_gI_12_74 Hh1).2 lr3_24) ?_ ?_
  · exact sm_retI Hh1 l3_m1 lr3_m1
  · refine sm_if (z3_lt rfl l3_0 qx1 lr3_0) ?_ ?_
    · exact sm_retI Hh1 l3_m1 lr3_m1
    · refine sm_rd (m_gI_12_74 Hh1).1 ?_
      refine sm_if (z3_lt rfl rfl qx1 (m_gI_12_74 Hh1).2) ?_ ?_
      · refine sm_II (S12_noted Hh1 l3_m1 lr3_m1 rfl qx1 l3_0 lr3_0) fun vo10 ho10 Ho10 ro10 => ?_
        exact sm_retI Ho10 rfl ro10
      · exact sm_retI Hh1 l3_m1 lr3_m1
theorem S12_strike {h : PH} (H : OKM h) {x1i : Int32} {x1 : Int} (ex1 : x1i = Z3 x1) (qx1 : r3 x1) : SimI OKM (F12_strike h 0 x1i) (G12_strike (rd h) x1) := by
  subst ex1
  unfold F12_strike G12_strike
  refine sm_cd (m_ok_12 H) ?_
  exact S12_strike_0 H rfl qx1
theorem S12_stroke_0 {h : PH} (H : OKM h) {x1i : Int32} {x1 : Int} (ex1 : x1i = Z3 x1) (qx1 : r3 x1) {x2i : Int32} {x2 : Int} (ex2 : x2i = Z3 x2) (qx2 : r3 x2) : SimI OKM (F12_stroke_0 h 0 x1i x2i) (G12_stroke_0 (rd h) x1 x2) := by
  subst ex1 ex2
  unfold F12_stroke_0 G12_stroke_0
  refine sm_wt (m_pI_12_2 H l3_0 lr3_0) fun h1 Hh1 => ?_
  refine sm_II (S12_isSurfer Hh1 rfl qx1) fun vo3 ho3 Ho3 ro3 => ?_
  refine sm_if (z3_eq rfl l3_0 ro3 lr3_0) ?_ ?_
  · exact sm_retI Ho3 l3_m1 lr3_m1
  · refine sm_II (S12_isIn Ho3 rfl qx2 l3_0 lr3_0 l3_3 lr3_3) fun vo6 ho6 Ho6 ro6 => ?_
    refine sm_if (z3_eq rfl l3_0 ro6 lr3_0) ?_ ?_
    · exact sm_retI Ho6 l3_m1 lr3_m1
    · refine sm_rd (m_gR_12_55 Ho6) ?_
      refine sgxI fun c1 => ?_
      refine sm_rd (m_aI_12_55 Ho6 rfl c1).1 ?_
      refine sm_II (S12_beside Ho6 rfl ((m_aI_12_55 Ho6 rfl c1).2) rfl qx2) fun vo13 ho13 Ho13 ro13 => ?_
      refine sm_if (z3_lt rfl l3_0 ro13 lr3_0) ?_ ?_
      · exact sm_retI Ho13 l3_m2 lr3_m2
      · refine sm_rd (m_gR_12_58 Ho13) ?_
        refine sgxI fun c2 => ?_
        refine sm_rd (m_aI_12_58 Ho13 rfl c2).1 ?_
        refine sm_if (z3_lt l3_0 rfl lr3_0 (m_aI_12_58 Ho13 rfl c2).2) ?_ ?_
        · exact sm_retI Ho13 l3_m2 lr3_m2
        · refine sm_rd (m_gR_12_59 Ho13) ?_
          refine sgxI fun c3 => ?_
          refine sm_rd (m_aI_12_59 Ho13 rfl c3).1 ?_
          refine sm_if (z3_eq rfl l3_0 (m_aI_12_59 Ho13 rfl c3).2 lr3_0) ?_ ?_
          · exact sm_retI Ho13 l3_m2 lr3_m2
          · refine sm_VI (S12_remember Ho13) fun ho26 Ho26 => ?_
            refine sm_rd (m_gR_12_55 Ho26) ?_
            refine sgxI fun c4 => ?_
            refine sm_wt (m_sI_12_55 Ho26 rfl c4 rfl ro13) fun h31 Hh31 => ?_
            refine sm_rd (m_gR_12_59 Hh31) ?_
            refine sgxI fun c5 => ?_
            refine sm_rd (m_aI_12_59 Hh31 rfl c5).1 ?_
            refine sgxI fun c6 => ?_
            refine sg3I fun c7 => ?_
            refine sm_wt (m_sI_12_59 Hh31 rfl c6 (z3_sub rfl l3_1) c7) fun h37 Hh37 => ?_
            exact sm_retI Hh37 rfl ro13
/-! The pure functions do so (written by wip/gen/gx.py). -/
theorem S12_stroke {h : PH} (H : OKM h) {x1i : Int32} {x1 : Int} (ex1 : x1i = Z3 x1) (qx1 : r3 x1) {x2i : Int32} {x2 : Int} (ex2 : x2i = Z3 x2) (qx2 : r3 x2) : SimI OKM (F12_stroke h 0 x1i x2i) (G12_stroke (rd h) x1 x2) := by
  subst ex1 ex2
  unfold F12_stroke G12_stroke
  refine sm_cd (m_ok_12 H) ?_
  exact S12_stroke_0 H rfl qx1 rfl qx2
theorem S12_table_43 {h : PH} (H : OKM h) {x1i : Int32} {x1 : Int} (ex1 : x1i = Z3 x1) (qx1 : r3 x1) {x2i : Int32} {x2 : Int} (ex2 : x2i = Z3 x2) (qx2 : r3 x2) {x3i : Int32} {x3 : Int} (ex3 : x3i = Z3 x3) (qx3 : r3 x3) : SimI OKM (F12_table_43 h 0 x1i x2i x3i) (G12_table_43 (rd h) x1 x2 x3) := by
  subst ex1 ex2 ex3
  unfold F12_table_43 G12_table_43
  refine sm_VI (S12_run H rfl qx1 rfl qx2) fun ho1 Ho1 => ?_
  refine sm_if (z3_le l3_5 rfl lr3_5 qx3) ?_ ?_
  · refine sm_if (z3_eq rfl l3_5 qx3 lr3_5) ?_ ?_
    · refine sm_rd (m_gR_12_62 Ho1) ?_
      refine sm_rd (m_aI_12_62 Ho1 l3_1 ⟨by decide, by decide⟩).1 ?_
      exact sm_retI Ho1 rfl (m_aI_12_62 Ho1 l3_1 ⟨by decide, by decide⟩).2
    · refine sm_if (z3_eq rfl l3_6 qx3 lr3_6) ?_ ?_
      · refine sm_rd (m_gR_12_63 Ho1) ?_
        refine sm_rd (m_aI_12_63 Ho1 l3_1 ⟨by decide, by decide⟩).1 ?_
        exact sm_retI Ho1 rfl (m_aI_12_63 Ho1 l3_1 ⟨by decide, by decide⟩).2
      · refine sm_II (S12_unlike Ho1 l3_1 lr3_1) fun vo6 ho6 Ho6 ro6 => ?_
        exact sm_retI Ho6 rfl ro6
  · refine sm_rd (m_gR_12_56 Ho1) ?_
    refine sgxI fun c1 => ?_
    refine sm_rd (m_aI_12_56 Ho1 (z3_add l3_5 rfl) c1).1 ?_
    exact sm_retI Ho1 rfl (m_aI_12_56 Ho1 (z3_add l3_5 rfl) c1).2
theorem S12_table_0 {h : PH} (H : OKM h) {x1i : Int32} {x1 : Int} (ex1 : x1i = Z3 x1) (qx1 : r3 x1) {x2i : Int32} {x2 : Int} (ex2 : x2i = Z3 x2) (qx2 : r3 x2) {x3i : Int32} {x3 : Int} (ex3 : x3i = Z3 x3) (qx3 : r3 x3) : SimI OKM (F12_table_0 h 0 x1i x2i x3i) (G12_table_0 (rd h) x1 x2 x3) := by
  subst ex1 ex2 ex3
  unfold F12_table_0 G12_table_0
  refine sm_wt (m_pI_12_2 H l3_0 lr3_0) fun h1 Hh1 => ?_
  refine sm_II (S12_isIn Hh1 rfl qx1 l3_0 lr3_0 l3_3 lr3_3) fun vo3 ho3 Ho3 ro3 => ?_
  refine sm_if (z3_eq rfl l3_0 ro3 lr3_0) ?_ ?_
  · exact sm_retI Ho3 l3_m1 lr3_m1
  · refine sm_if (z3_lt rfl l3_0 qx2 lr3_0) ?_ ?_
    · exact sm_retI Ho3 l3_m1 lr3_m1
    · refine sm_II (S12_isIn Ho3 rfl qx3 l3_0 lr3_0 l3_7 lr3_7) fun vo7 ho7 Ho7 ro7 => ?_
      refine sm_if (z3_eq rfl l3_0 ro7 lr3_0) ?_ ?_
      · exact sm_retI Ho7 l3_m1 lr3_m1
      · refine sm_if (z3_le l3_5 rfl lr3_5 qx3) ?_ ?_
        · exact S12_table_43 Ho7 rfl qx1 rfl qx2 rfl qx3
        · refine sm_rd (m_gI_12_14 Ho7).1 ?_
          refine sm_if (z3_lt rfl rfl qx3 (m_gI_12_14 Ho7).2) ?_ ?_
          · exact S12_table_43 Ho7 rfl qx1 rfl qx2 rfl qx3
          · exact sm_retI Ho7 l3_m1 lr3_m1
theorem S12_table {h : PH} (H : OKM h) {x1i : Int32} {x1 : Int} (ex1 : x1i = Z3 x1) (qx1 : r3 x1) {x2i : Int32} {x2 : Int} (ex2 : x2i = Z3 x2) (qx2 : r3 x2) {x3i : Int32} {x3 : Int} (ex3 : x3i = Z3 x3) (qx3 : r3 x3) : SimI OKM (F12_table h 0 x1i x2i x3i) (G12_table (rd h) x1 x2 x3) := by
  subst ex1 ex2 ex3
  unfold F12_table G12_table
  refine sm_cd (m_ok_12 H) ?_
  exact S12_table_0 H rfl qx1 rfl qx2 rfl qx3
theorem S12_text_55 (n : Nat) : ∀ {h : PH} (H : OKM h) {x2i : Int32} {x2 : Int} (ex2 : x2i = Z3 x2) (qx2 : r3 x2), SimI OKM (F12_text_55 n h 0 x2i) (G12_text_55 n (rd h) x2) := by
  induction n with
  | zero => intros; exact smI_none _
  | succ n ih =>
    intro h H x2i x2 ex2 qx2
    subst ex2
    rw [F12_text_55, G12_text_55]
    refine sm_rd (m_gI_12_8 H).1 ?_
    refine sm_if (z3_eq rfl l3_0 (m_gI_12_8 H).2 lr3_0) ?_ ?_
    · refine sm_VI (S12_keepText H) fun ho4 Ho4 => ?_
      exact sm_retI Ho4 rfl qx2
    · refine sm_II (S12_lineRead H) fun vo6 ho6 Ho6 ro6 => ?_
      refine sm_if (z3_eq rfl l3_0 ro6 lr3_0) ?_ ?_
      · exact sm_retI Ho6 l3_m1 lr3_m1
      · refine sg3I fun c1 => ?_
        exact ih Ho6 (z3_add rfl l3_1) c1
theorem S12_text_0 {h : PH} (H : OKM h) {x1i : Int32} {x1 : Int} (ex1 : x1i = Z3 x1) (qx1 : r3 x1) : SimI OKM (F12_text_0 h 0 x1i) (G12_text_0 (rd h) x1) := by
  subst ex1
  unfold F12_text_0 G12_text_0
  refine sm_wt (m_pI_12_2 H l3_0 lr3_0) fun h1 Hh1 => ?_
  refine sm_if (z3_lt rfl l3_0 qx1 lr3_0) ?_ ?_
  · exact sm_retI Hh1 l3_m2 lr3_m2
  · refine sm_rd (m_gI_12_1 Hh1).1 ?_
    refine sm_if (z3_le rfl rfl qx1 (m_gI_12_1 Hh1).2) ?_ ?_
    · refine sm_wt (m_pI_12_6 Hh1 rfl qx1) fun h7 Hh7 => ?_
      refine sm_wt (m_pI_12_1 Hh7 l3_0 lr3_0) fun h9 Hh9 => ?_
      refine sm_wt (m_pI_12_4 Hh9 l3_0 lr3_0) fun h11 Hh11 => ?_
      refine sm_wt (m_pI_12_5 Hh11 l3_m1 lr3_m1) fun h13 Hh13 => ?_
      refine sm_wt (m_pI_12_7 Hh13 l3_0 lr3_0) fun h15 Hh15 => ?_
      refine sm_VI (S12_plain Hh15) fun ho17 Ho17 => ?_
      refine sm_VI (S12_token Ho17) fun ho19 Ho19 => ?_
      exact S12_text_55 1024 Ho19 l3_0 lr3_0
    · exact sm_retI Hh1 l3_m2 lr3_m2
theorem S12_text {h : PH} (H : OKM h) {x1i : Int32} {x1 : Int} (ex1 : x1i = Z3 x1) (qx1 : r3 x1) : SimI OKM (F12_text h 0 x1i) (G12_text (rd h) x1) := by
  subst ex1
  unfold F12_text G12_text
  refine sm_cd (m_ok_12 H) ?_
  exact S12_text_0 H rfl qx1
theorem S12_tried_111 {h : PH} (H : OKM h) {j4i : Int64} {j4 : Int} (ej4 : j4i = Z6 j4) (qj4 : r6 j4) : SimI OKM (F12_tried_111 h 0 j4i) (G12_tried_111 (rd h) j4) := by
  subst ej4
  unfold F12_tried_111 G12_tried_111
  refine sm_rd (m_gI_12_64 H).1 ?_
  refine sm_VI (S12_goesOn H rfl ((m_gI_12_64 H).2)) fun ho3 Ho3 => ?_
  refine sm_wt (m_pI_12_66 Ho3 l3_m1 lr3_m1) fun h5 Hh5 => ?_
  refine sm_wt (m_pJ_12_65 Hh5 rfl qj4) fun h7 Hh7 => ?_
  refine sm_II (S12_allHad Hh7 l3_1 lr3_1) fun vo9 ho9 Ho9 ro9 => ?_
  exact sm_retI Ho9 rfl ro9
theorem S12_tried_76 (n : Nat) : ∀ {h : PH} (H : OKM h) {x1i : Int32} {x1 : Int} (ex1 : x1i = Z3 x1) (qx1 : r3 x1) {x2i : Int32} {x2 : Int} (ex2 : x2i = Z3 x2) (qx2 : r3 x2) {j4i : Int64} {j4 : Int} (ej4 : j4i = Z6 j4) (qj4 : r6 j4) {x6i : Int32} {x6 : Int} (ex6 : x6i = Z3 x6) (qx6 : r3 x6), SimI OKM (F12_tried_76 n h 0 x1i x2i j4i x6i) (G12_tried_76 n (rd h) x1 x2 j4 x6) := by
  induction n with
  | zero => intros; exact smI_none _
  | succ n ih =>
    intro h H x1i x1 ex1 qx1 x2i x2 ex2 qx2 j4i j4 ej4 qj4 x6i x6 ex6 qx6
    subst ex1 ex2 ej4 ex6
    rw [F12_tried_76, G12_tried_76]
    refine sm_rd (m_gI_12_14 H).1 ?_
    refine sm_if (z3_le rfl rfl (m_gI_12_14 H).2 qx6) ?_ ?_
    · exact S12_tried_111 H rfl qj4
    · refine sm_if (z3_eq rfl l3_4 qx1 lr3_4) ?_ ?_
      · refine sm_rd (m_gR_12_55 H) ?_
        refine sm_rd (m_gR_12_55 H) ?_
        refine sgxI fun c1 => ?_
        refine sm_rd (m_aI_12_55 H rfl c1).1 ?_
        refine sgxI fun c2 => ?_
        refine sm_wt (m_sI_12_55 H (z3_add l3_5 rfl) c2 rfl (m_aI_12_55 H rfl c1).2) fun h12 Hh12 => ?_
        refine sg3I fun c3 => ?_
        exact ih Hh12 rfl qx1 rfl qx2 rfl qj4 (z3_add rfl l3_1) c3
      · exact S12_tried_111 H rfl qj4
theorem S12_tried_47 {h : PH} (H : OKM h) {x1i : Int32} {x1 : Int} (ex1 : x1i = Z3 x1) (qx1 : r3 x1) {x2i : Int32} {x2 : Int} (ex2 : x2i = Z3 x2) (qx2 : r3 x2) {x3i : Int32} {x3 : Int} (ex3 : x3i = Z3 x3) (qx3 : r3 x3) : SimI OKM (F12_tried_47 h 0 x1i x2i x3i) (G12_tried_47 (rd h) x1 x2 x3) := by
  subst ex1 ex2 ex3
  unfold F12_tried_47 G12_tried_47
  refine sm_rd (m_gJ_12_65 H).1 ?_
  refine sm_wt (m_pJ_12_65 H (z3_to6 rfl qx3) (r3_6 qx3)) fun h3 Hh3 => ?_
  refine sm_VI (S12_layTried Hh3) fun ho5 Ho5 => ?_
  refine sm_wt (m_pI_12_66 Ho5 rfl qx1) fun h7 Hh7 => ?_
  refine sm_wt (m_pI_12_67 Hh7 rfl qx2) fun h9 Hh9 => ?_
  exact S12_tried_76 1024 Hh9 rfl qx1 rfl qx2 rfl ((m_gJ_12_65 H).2) l3_0 lr3_0
theorem S12_tried_30 {h : PH} (H : OKM h) {x1i : Int32} {x1 : Int} (ex1 : x1i = Z3 x1) (qx1 : r3 x1) {x2i : Int32} {x2 : Int} (ex2 : x2i = Z3 x2) (qx2 : r3 x2) {x3i : Int32} {x3 : Int} (ex3 : x3i = Z3 x3) (qx3 : r3 x3) : SimI OKM (F12_tried_30 h 0 x1i x2i x3i) (G12_tried_30 (rd h) x1 x2 x3) := by
  subst ex1 ex2 ex3
  unfold F12_tried_30 G12_tried_30
  refine sm_II (S12_isSurfer H rfl qx2) fun vo1 ho1 Ho1 ro1 => ?_
  refine sm_if (z3_eq rfl l3_0 ro1 lr3_0) ?_ ?_
  · exact sm_retI Ho1 l3_m1 lr3_m1
  · exact S12_tried_47 Ho1 rfl qx1 rfl qx2 rfl qx3
theorem S12_tried_0 {h : PH} (H : OKM h) {x1i : Int32} {x1 : Int} (ex1 : x1i = Z3 x1) (qx1 : r3 x1) {x2i : Int32} {x2 : Int} (ex2 : x2i = Z3 x2) (qx2 : r3 x2) {x3i : Int32} {x3 : Int} (ex3 : x3i = Z3 x3) (qx3 : r3 x3) : SimI OKM (F12_tried_0 h 0 x1i x2i x3i) (G12_tried_0 (rd h) x1 x2 x3) := by
  subst ex1 ex2 ex3
  unfold F12_tried_0 G12_tried_0
  refine sm_wt (m_pI_12_2 H l3_0 lr3_0) fun h1 Hh1 => ?_
  refine sm_II (S12_isIn Hh1 rfl qx1 l3_0 lr3_0 l3_4 lr3_4) fun vo3 ho3 Ho3 ro3 => ?_
  refine sm_if (z3_eq rfl l3_0 ro3 lr3_0) ?_ ?_
  · exact sm_retI Ho3 l3_m1 lr3_m1
  · refine sm_if (z3_le l3_0 rfl lr3_0 qx3) ?_ ?_
    · refine sm_if (z3_eq rfl l3_1 qx1 lr3_1) ?_ ?_
      · exact S12_tried_30 Ho3 rfl qx1 rfl qx2 rfl qx3
      · refine sm_if (z3_eq rfl l3_4 qx1 lr3_4) ?_ ?_
        · exact S12_tried_30 Ho3 rfl qx1 rfl qx2 rfl qx3
        · refine sm_if (z3_eq rfl l3_0 qx2 lr3_0) ?_ ?_
          · exact S12_tried_47 Ho3 rfl qx1 rfl qx2 rfl qx3
          · exact sm_retI Ho3 l3_m1 lr3_m1
    · exact sm_retI Ho3 l3_m1 lr3_m1
theorem S12_tried {h : PH} (H : OKM h) {x1i : Int32} {x1 : Int} (ex1 : x1i = Z3 x1) (qx1 : r3 x1) {x2i : Int32} {x2 : Int} (ex2 : x2i = Z3 x2) (qx2 : r3 x2) {x3i : Int32} {x3 : Int} (ex3 : x3i = Z3 x3) (qx3 : r3 x3) : SimI OKM (F12_tried h 0 x1i x2i x3i) (G12_tried (rd h) x1 x2 x3) := by
  subst ex1 ex2 ex3
  unfold F12_tried G12_tried
  refine sm_cd (m_ok_12 H) ?_
  exact S12_tried_0 H rfl qx1 rfl qx2 rfl qx3
theorem S12_undo_26 (n : Nat) : ∀ {h : PH} (H : OKM h) {x1i : Int32} {x1 : Int} (ex1 : x1i = Z3 x1) (qx1 : r3 x1), SimI OKM (F12_undo_26 n h 0 x1i) (G12_undo_26 n (rd h) x1) := by
  induction n with
  | zero => intros; exact smI_none _
  | succ n ih =>
    intro h H x1i x1 ex1 qx1
    subst ex1
    rw [F12_undo_26, G12_undo_26]
    refine sm_if (z3_le l3_5 rfl lr3_5 qx1) ?_ ?_
    · refine sm_rd (m_gR_12_79 H) ?_
      refine sm_rd (m_gI_12_78 H).1 ?_
      refine sgxI fun c1 => ?_
      refine sm_rd (m_aI_12_79 H (z3_add (z3_mul l3_11 rfl) l3_10) c1).1 ?_
      refine sm_wt (m_pI_12_64 H rfl (m_aI_12_79 H (z3_add (z3_mul l3_11 rfl) l3_10) c1).2) fun h8 Hh8 => ?_
      refine sm_rd (m_gI_12_78 Hh8).1 ?_
      exact sm_retI Hh8 rfl (m_gI_12_78 Hh8).2
    · refine sm_rd (m_gR_12_55 H) ?_
      refine sm_rd (m_gR_12_79 H) ?_
      refine sm_rd (m_gI_12_78 H).1 ?_
      refine sgxI fun c2 => ?_
      refine sm_rd (m_aI_12_79 H (z3_add (z3_mul l3_11 rfl) rfl) c2).1 ?_
      refine sgxI fun c3 => ?_
      refine sm_wt (m_sI_12_55 H rfl c3 rfl (m_aI_12_79 H (z3_add (z3_mul l3_11 rfl) rfl) c2).2) fun h21 Hh21 => ?_
      refine sm_rd (m_gR_12_59 Hh21) ?_
      refine sm_rd (m_gR_12_79 Hh21) ?_
      refine sm_rd (m_gI_12_78 Hh21).1 ?_
      refine sgxI fun c4 => ?_
      refine sm_rd (m_aI_12_79 Hh21 (z3_add (z3_add (z3_mul l3_11 rfl) l3_5) rfl) c4).1 ?_
      refine sgxI fun c5 => ?_
      refine sm_wt (m_sI_12_59 Hh21 rfl c5 rfl (m_aI_12_79 Hh21 (z3_add (z3_add (z3_mul l3_11 rfl) l3_5) rfl) c4).2) fun h31 Hh31 => ?_
      refine sg3I fun c6 => ?_
      exact ih Hh31 (z3_add rfl l3_1) c6
theorem S12_undo_0 {h : PH} (H : OKM h) : SimI OKM (F12_undo_0 h 0) (G12_undo_0 (rd h)) := by
  unfold F12_undo_0 G12_undo_0
  refine sm_wt (m_pI_12_2 H l3_0 lr3_0) fun h1 Hh1 => ?_
  refine sm_rd (m_gI_12_78 Hh1).1 ?_
  refine sm_if (z3_eq rfl l3_0 (m_gI_12_78 Hh1).2 lr3_0) ?_ ?_
  · exact sm_retI Hh1 l3_m1 lr3_m1
  · refine sm_rd (m_gI_12_78 Hh1).1 ?_
    refine sg3I fun c1 => ?_
    refine sm_wt (m_pI_12_78 Hh1 (z3_sub rfl l3_1) c1) fun h8 Hh8 => ?_
    exact S12_undo_26 1024 Hh8 l3_0 lr3_0
theorem S12_undo {h : PH} (H : OKM h) : SimI OKM (F12_undo h 0) (G12_undo (rd h)) := by
  unfold F12_undo G12_undo
  refine sm_cd (m_ok_12 H) ?_
  exact S12_undo_0 H
theorem S12_wave_0 {h : PH} (H : OKM h) {x1i : Int32} {x1 : Int} (ex1 : x1i = Z3 x1) (qx1 : r3 x1) {x2i : Int32} {x2 : Int} (ex2 : x2i = Z3 x2) (qx2 : r3 x2) : SimI OKM (F12_wave_0 h 0 x1i x2i) (G12_wave_0 (rd h) x1 x2) := by
  subst ex1 ex2
  unfold F12_wave_0 G12_wave_0
  refine sm_wt (m_pI_12_2 H l3_0 lr3_0) fun h1 Hh1 => ?_
  refine sm_II (S12_isWave Hh1 rfl qx1) fun vo3 ho3 Ho3 ro3 => ?_
  refine sm_if (z3_eq rfl l3_0 ro3 lr3_0) ?_ ?_
  · exact sm_retI Ho3 l3_m4 lr3_m4
  · refine sm_if (z3_eq rfl l3_0 qx2 lr3_0) ?_ ?_
    · refine sm_rd (m_gR_12_34 Ho3) ?_
      refine sgxI fun c1 => ?_
      refine sm_rd (m_aI_12_34 Ho3 rfl c1).1 ?_
      exact sm_retI Ho3 rfl (m_aI_12_34 Ho3 rfl c1).2
    · refine sm_if (z3_eq rfl l3_1 qx2 lr3_1) ?_ ?_
      · refine sm_rd (m_gR_12_35 Ho3) ?_
        refine sgxI fun c2 => ?_
        refine sm_rd (m_aI_12_35 Ho3 rfl c2).1 ?_
        exact sm_retI Ho3 rfl (m_aI_12_35 Ho3 rfl c2).2
      · refine sm_if (z3_eq rfl l3_2 qx2 lr3_2) ?_ ?_
        · refine sm_rd (m_gR_12_36 Ho3) ?_
          refine sgxI fun c3 => ?_
          refine sm_rd (m_aI_12_36 Ho3 rfl c3).1 ?_
          exact sm_retI Ho3 rfl (m_aI_12_36 Ho3 rfl c3).2
        · refine sm_if (z3_eq rfl l3_3 qx2 lr3_3) ?_ ?_
          · refine sm_rd (m_gR_12_33 Ho3) ?_
            refine sm_rd (m_gR_12_36 Ho3) ?_
            refine sgxI fun c4 => ?_
            refine sm_rd (m_aI_12_36 Ho3 rfl c4).1 ?_
            refine sgxI fun c5 => ?_
            refine sm_rd (m_aI_12_33 Ho3 rfl c5).1 ?_
            refine sg3I fun c6 => ?_
            exact sm_retI Ho3 (z3_add (z3_sub rfl rfl) l3_1) c6
          · refine sm_if (z3_eq rfl l3_4 qx2 lr3_4) ?_ ?_
            · refine sm_rd (m_gR_12_60 Ho3) ?_
              refine sgxI fun c7 => ?_
              refine sm_rd (m_aI_12_60 Ho3 rfl c7).1 ?_
              exact sm_retI Ho3 rfl (m_aI_12_60 Ho3 rfl c7).2
            · exact sm_retI Ho3 l3_m4 lr3_m4
theorem S12_wave {h : PH} (H : OKM h) {x1i : Int32} {x1 : Int} (ex1 : x1i = Z3 x1) (qx1 : r3 x1) {x2i : Int32} {x2 : Int} (ex2 : x2i = Z3 x2) (qx2 : r3 x2) : SimI OKM (F12_wave h 0 x1i x2i) (G12_wave (rd h) x1 x2) := by
  subst ex1 ex2
  unfold F12_wave G12_wave
  refine sm_cd (m_ok_12 H) ?_
  exact S12_wave_0 H rfl qx1 rfl qx2
