/-! The pure functions do so (written by wip/gen/gx.py). -/
theorem S12_seatFrom_0 {h : PH} (H : OKM h) {x1i : Int32} {x1 : Int} (ex1 : x1i = Z3 x1) (qx1 : r3 x1) {x2i : Int32} {x2 : Int} (ex2 : x2i = Z3 x2) (qx2 : r3 x2) {x3i : Int32} {x3 : Int} (ex3 : x3i = Z3 x3) (qx3 : r3 x3) : SimI OKM (F12_seatFrom_0 h 0 x1i x2i x3i) (G12_seatFrom_0 (rd h) x1 x2 x3) := by
  subst ex1 ex2 ex3
  unfold F12_seatFrom_0 G12_seatFrom_0
  exact S12_seatFrom_6 1024 H rfl qx1 rfl qx2 rfl qx3 l3_0 lr3_0 l3_0 lr3_0
theorem S12_seatFrom {h : PH} (H : OKM h) {x1i : Int32} {x1 : Int} (ex1 : x1i = Z3 x1) (qx1 : r3 x1) {x2i : Int32} {x2 : Int} (ex2 : x2i = Z3 x2) (qx2 : r3 x2) {x3i : Int32} {x3 : Int} (ex3 : x3i = Z3 x3) (qx3 : r3 x3) : SimI OKM (F12_seatFrom h 0 x1i x2i x3i) (G12_seatFrom (rd h) x1 x2 x3) := by
  subst ex1 ex2 ex3
  unfold F12_seatFrom G12_seatFrom
  refine sm_cd (m_ok_12 H) ?_
  exact S12_seatFrom_0 H rfl qx1 rfl qx2 rfl qx3
theorem S12_best_22 (n : Nat) : ∀ {h : PH} (H : OKM h) {x1i : Int32} {x1 : Int} (ex1 : x1i = Z3 x1) (qx1 : r3 x1) {x2i : Int32} {x2 : Int} (ex2 : x2i = Z3 x2) (qx2 : r3 x2) {x3i : Int32} {x3 : Int} (ex3 : x3i = Z3 x3) (qx3 : r3 x3) {x4i : Int32} {x4 : Int} (ex4 : x4i = Z3 x4) (qx4 : r3 x4), SimI OKM (F12_best_22 n h 0 x1i x2i x3i x4i) (G12_best_22 n (rd h) x1 x2 x3 x4) := by
  induction n with
  | zero => intros; exact smI_none _
  | succ n ih =>
    intro h H x1i x1 ex1 qx1 x2i x2 ex2 qx2 x3i x3 ex3 qx3 x4i x4 ex4 qx4
    subst ex1 ex2 ex3 ex4
    rw [F12_best_22, G12_best_22]
    refine sm_II (S12_cells H) fun vo1 ho1 Ho1 ro1 => ?_
    refine sm_if (z3_le rfl rfl ro1 qx4) ?_ ?_
    · exact sm_retI Ho1 rfl qx2
    · refine sm_rd (m_gR_12_61 Ho1) ?_
      refine sm_rd (m_aI_12_61 Ho1 l3_0 ⟨by decide, by decide⟩).1 ?_
      refine sm_II (S12_seatFrom Ho1 rfl qx1 rfl qx4 rfl ((m_aI_12_61 Ho1 l3_0 ⟨by decide, by decide⟩).2)) fun vo8 ho8 Ho8 ro8 => ?_
      refine sm_if (z3_lt rfl rfl qx3 ro8) ?_ ?_
      · refine sg3I fun c1 => ?_
        exact ih Ho8 rfl qx1 rfl qx4 rfl ro8 (z3_add rfl l3_1) c1
      · refine sg3I fun c2 => ?_
        exact ih Ho8 rfl qx1 rfl qx2 rfl qx3 (z3_add rfl l3_1) c2
theorem S12_best_0 {h : PH} (H : OKM h) {x1i : Int32} {x1 : Int} (ex1 : x1i = Z3 x1) (qx1 : r3 x1) : SimI OKM (F12_best_0 h 0 x1i) (G12_best_0 (rd h) x1) := by
  subst ex1
  unfold F12_best_0 G12_best_0
  refine sm_wt (m_pI_12_2 H l3_0 lr3_0) fun h1 Hh1 => ?_
  refine sm_II (S12_isSurfer Hh1 rfl qx1) fun vo3 ho3 Ho3 ro3 => ?_
  refine sm_if (z3_eq rfl l3_0 ro3 lr3_0) ?_ ?_
  · exact sm_retI Ho3 l3_m1 lr3_m1
  · exact S12_best_22 1024 Ho3 rfl qx1 l3_0 lr3_0 l3_m1 lr3_m1 l3_0 lr3_0
theorem S12_best {h : PH} (H : OKM h) {x1i : Int32} {x1 : Int} (ex1 : x1i = Z3 x1) (qx1 : r3 x1) : SimI OKM (F12_best h 0 x1i) (G12_best (rd h) x1) := by
  subst ex1
  unfold F12_best G12_best
  refine sm_cd (m_ok_12 H) ?_
  exact S12_best_0 H rfl qx1
theorem S12_rank_0 {h : PH} (H : OKM h) {x0i : Int32} {x0 : Int} (ex0 : x0i = Z3 x0) (qx0 : r3 x0) : SimI OKM (F12_rank_0 h x0i) (G12_rank_0 (rd h) x0) := by
  subst ex0
  unfold F12_rank_0 G12_rank_0
  refine sm_if (z3_lt rfl l3_13 qx0 lr3_13) ?_ ?_
  · refine sm_if (z3_lt rfl l3_11 qx0 lr3_11) ?_ ?_
    · refine sm_if (z3_lt rfl l3_5 qx0 lr3_5) ?_ ?_
      · refine sm_if (z3_eq rfl l3_2 qx0 lr3_2) ?_ ?_
        · exact sm_retI H l3_3 lr3_3
        · refine sm_if (z3_eq rfl l3_3 qx0 lr3_3) ?_ ?_
          · exact sm_retI H l3_2 lr3_2
          · refine sm_if (z3_eq rfl l3_4 qx0 lr3_4) ?_ ?_
            · exact sm_retI H l3_1 lr3_1
            · exact sm_retI H l3_0 lr3_0
      · exact sm_retI H l3_4 lr3_4
    · exact sm_retI H l3_5 lr3_5
  · exact sm_retI H l3_6 lr3_6
theorem S12_rank {h : PH} (H : OKM h) {x0i : Int32} {x0 : Int} (ex0 : x0i = Z3 x0) (qx0 : r3 x0) : SimI OKM (F12_rank h x0i) (G12_rank (rd h) x0) := by
  subst ex0
  unfold F12_rank G12_rank
  exact S12_rank_0 H rfl qx0
theorem S12_dropHeld_0 {h : PH} (H : OKM h) : SimI OKM (F12_dropHeld_0 h 0) (G12_dropHeld_0 (rd h)) := by
  unfold F12_dropHeld_0 G12_dropHeld_0
  refine sm_rd (m_gI_12_47 H).1 ?_
  refine sg3I fun c1 => ?_
  refine sm_wt (m_pI_12_47 H (z3_sub rfl l3_1) c1) fun h3 Hh3 => ?_
  refine sm_rd (m_gR_12_45 Hh3) ?_
  refine sm_rd (m_gI_12_47 Hh3).1 ?_
  refine sgxI fun c2 => ?_
  refine sm_rd (m_aI_12_45 Hh3 rfl c2).1 ?_
  exact sm_retI Hh3 rfl (m_aI_12_45 Hh3 rfl c2).2
theorem S12_dropHeld {h : PH} (H : OKM h) : SimI OKM (F12_dropHeld h 0) (G12_dropHeld (rd h)) := by
  unfold F12_dropHeld G12_dropHeld
  refine sm_cd (m_ok_12 H) ?_
  exact S12_dropHeld_0 H
theorem S12_grown_0 {h : PH} (H : OKM h) {x1i : Int32} {x1 : Int} (ex1 : x1i = Z3 x1) (qx1 : r3 x1) {x2i : Int32} {x2 : Int} (ex2 : x2i = Z3 x2) (qx2 : r3 x2) {x3i : Int32} {x3 : Int} (ex3 : x3i = Z3 x3) (qx3 : r3 x3) : SimV OKM (F12_grown_0 h 0 x1i x2i x3i) (G12_grown_0 (rd h) x1 x2 x3) := by
  subst ex1 ex2 ex3
  unfold F12_grown_0 G12_grown_0
  refine sm_rd (m_gR_12_40 H) ?_
  refine sm_rd (m_gI_12_23 H).1 ?_
  refine sgxV fun c1 => ?_
  refine sm_wt (m_sI_12_40 H (z3_add l3_64 rfl) c1 rfl qx1) fun h6 Hh6 => ?_
  refine sm_rd (m_gR_12_41 Hh6) ?_
  refine sm_rd (m_gI_12_23 Hh6).1 ?_
  refine sgxV fun c2 => ?_
  refine sm_wt (m_sI_12_41 Hh6 (z3_add l3_64 rfl) c2 rfl qx2) fun h12 Hh12 => ?_
  refine sm_rd (m_gR_12_42 Hh12) ?_
  refine sm_rd (m_gI_12_23 Hh12).1 ?_
  refine sgxV fun c3 => ?_
  refine sm_wt (m_sI_12_42 Hh12 (z3_add l3_64 rfl) c3 rfl qx3) fun h18 Hh18 => ?_
  refine sm_rd (m_gR_12_45 Hh18) ?_
  refine sm_rd (m_gI_12_47 Hh18).1 ?_
  refine sm_rd (m_gI_12_23 Hh18).1 ?_
  refine sgxV fun c4 => ?_
  refine sm_wt (m_sI_12_45 Hh18 rfl c4 rfl (m_gI_12_23 Hh18).2) fun h26 Hh26 => ?_
  refine sm_rd (m_gI_12_47 Hh26).1 ?_
  refine sg3V fun c5 => ?_
  refine sm_wt (m_pI_12_47 Hh26 (z3_add rfl l3_1) c5) fun h29 Hh29 => ?_
  refine sm_rd (m_gI_12_23 Hh29).1 ?_
  refine sg3V fun c6 => ?_
  refine sm_wt (m_pI_12_23 Hh29 (z3_add rfl l3_1) c6) fun h33 Hh33 => ?_
  exact sm_retV Hh33
theorem S12_grown {h : PH} (H : OKM h) {x1i : Int32} {x1 : Int} (ex1 : x1i = Z3 x1) (qx1 : r3 x1) {x2i : Int32} {x2 : Int} (ex2 : x2i = Z3 x2) (qx2 : r3 x2) {x3i : Int32} {x3 : Int} (ex3 : x3i = Z3 x3) (qx3 : r3 x3) : SimV OKM (F12_grown h 0 x1i x2i x3i) (G12_grown (rd h) x1 x2 x3) := by
  subst ex1 ex2 ex3
  unfold F12_grown G12_grown
  refine sm_cd (m_ok_12 H) ?_
  exact S12_grown_0 H rfl qx1 rfl qx2 rfl qx3
theorem S12_bind_58 {k0 : PH → Nat → Int32 → Option PH} {kk0 : Mem → Int → Option Mem} (hk0 : ∀ {h : PH} (_ : OKM h) {x2 : Int32} {y2 : Int} (_ : x2 = Z3 y2) (_ : r3 y2), SimV OKM (k0 h 0 x2) (kk0 (rd h) y2)) {h : PH} (H : OKM h) {x1i : Int32} {x1 : Int} (ex1 : x1i = Z3 x1) (qx1 : r3 x1) {x2i : Int32} {x2 : Int} (ex2 : x2i = Z3 x2) (qx2 : r3 x2) {s0i : Int32} {s0 : Int} (es0 : s0i = Z3 s0) (qs0 : r3 s0) : SimV OKM (F12_bind_58 k0 h 0 x1i x2i s0i) (G12_bind_58 kk0 (rd h) x1 x2 s0) := by
  subst ex1 ex2 es0
  unfold F12_bind_58 G12_bind_58
  refine sm_IV (S12_dropHeld H) fun vo1 ho1 Ho1 ro1 => ?_
  refine sm_VV (S12_grown Ho1 rfl qx2 rfl ro1 rfl qs0) fun ho3 Ho3 => ?_
  exact hk0 Ho3 rfl qx1
theorem S12_bind_0 (n : Nat) : ∀ {h : PH} (H : OKM h) {x1i : Int32} {x1 : Int} (ex1 : x1i = Z3 x1) (qx1 : r3 x1), SimV OKM (F12_bind_0 n h 0 x1i) (G12_bind_0 n (rd h) x1) := by
  induction n with
  | zero => intros; exact smV_none _
  | succ n ih =>
    intro h H x1i x1 ex1 qx1
    subst ex1
    rw [F12_bind_0, G12_bind_0]
    refine sm_rd (m_gI_12_46 H).1 ?_
    refine sm_if (z3_le rfl l3_0 (m_gI_12_46 H).2 lr3_0) ?_ ?_
    · exact sm_retV H
    · refine sm_rd (m_gR_12_44 H) ?_
      refine sm_rd (m_gI_12_46 H).1 ?_
      refine sgxV fun c1 => ?_
      refine sm_rd (m_aI_12_44 H (z3_sub rfl l3_1) c1).1 ?_
      refine sm_IV (S12_rank H rfl ((m_aI_12_44 H (z3_sub rfl l3_1) c1).2)) fun vo10 ho10 Ho10 ro10 => ?_
      refine sm_if (z3_lt rfl rfl ro10 qx1) ?_ ?_
      · exact sm_retV Ho10
      · refine sm_rd (m_gI_12_46 Ho10).1 ?_
        refine sg3V fun c2 => ?_
        refine sm_wt (m_pI_12_46 Ho10 (z3_sub rfl l3_1) c2) fun h15 Hh15 => ?_
        refine sm_rd (m_gR_12_44 Hh15) ?_
        refine sm_rd (m_gI_12_46 Hh15).1 ?_
        refine sgxV fun c3 => ?_
        refine sm_rd (m_aI_12_44 Hh15 rfl c3).1 ?_
        refine sm_if (z3_eq rfl l3_2 (m_aI_12_44 Hh15 rfl c3).2 lr3_2) ?_ ?_
        · exact S12_bind_58 (@fun _ H _ _ ex1 qx1 => ih H ex1 qx1) Hh15 rfl qx1 rfl ((m_aI_12_44 Hh15 rfl c3).2) l3_m1 lr3_m1
        · refine sm_IV (S12_dropHeld Hh15) fun vo24 ho24 Ho24 ro24 => ?_
          exact S12_bind_58 (@fun _ H _ _ ex1 qx1 => ih H ex1 qx1) Ho24 rfl qx1 rfl ((m_aI_12_44 Hh15 rfl c3).2) rfl ro24
theorem S12_bind {h : PH} (H : OKM h) {x1i : Int32} {x1 : Int} (ex1 : x1i = Z3 x1) (qx1 : r3 x1) : SimV OKM (F12_bind h 0 x1i) (G12_bind (rd h) x1) := by
  subst ex1
  unfold F12_bind G12_bind
  refine sm_cd (m_ok_12 H) ?_
  exact S12_bind_0 1024 H rfl qx1
theorem S12_cellRead_0 {h : PH} (H : OKM h) : SimI OKM (F12_cellRead_0 h 0) (G12_cellRead_0 (rd h)) := by
  unfold F12_cellRead_0 G12_cellRead_0
  refine sm_wt (m_pZ_12_24 H l3_1 (by decide)) fun h1 Hh1 => ?_
  refine sm_rd (m_gI_12_18 Hh1).1 ?_
  refine sg3I fun c1 => ?_
  refine sm_II (S12_number Hh1 l3_0 lr3_0 (z3_sub rfl l3_1) c1) fun vo5 ho5 Ho5 ro5 => ?_
  refine sm_if (z3_eq rfl l3_0 ro5 lr3_0) ?_ ?_
  · exact sm_rz Ho5 l3_0 (by decide)
  · refine sm_rd (m_gI_12_11 Ho5).1 ?_
    refine sm_wt (m_pI_12_43 Ho5 rfl (m_gI_12_11 Ho5).2) fun h10 Hh10 => ?_
    refine sm_rd (m_gI_12_19 Hh10).1 ?_
    refine sg3I fun c2 => ?_
    refine sm_II (S12_number Hh10 l3_0 lr3_0 (z3_sub rfl l3_1) c2) fun vo14 ho14 Ho14 ro14 => ?_
    refine sm_if (z3_eq rfl l3_0 ro14 lr3_0) ?_ ?_
    · exact sm_rz Ho14 l3_0 (by decide)
    · exact sm_rz Ho14 l3_1 (by decide)
theorem S12_cellRead {h : PH} (H : OKM h) : SimI OKM (F12_cellRead h 0) (G12_cellRead (rd h)) := by
  unfold F12_cellRead G12_cellRead
  refine sm_cd (m_ok_12 H) ?_
  exact S12_cellRead_0 H
theorem S12_layTried_71 (n : Nat) : ∀ {h : PH} (H : OKM h) {x1i : Int32} {x1 : Int} (ex1 : x1i = Z3 x1) (qx1 : r3 x1), SimV OKM (F12_layTried_71 n h 0 x1i) (G12_layTried_71 n (rd h) x1) := by
  induction n with
  | zero => intros; exact smV_none _
  | succ n ih =>
    intro h H x1i x1 ex1 qx1
    subst ex1
    rw [F12_layTried_71, G12_layTried_71]
    refine sm_if (z3_le l3_28 rfl lr3_28 qx1) ?_ ?_
    · refine sm_rd (m_gR_12_61 H) ?_
      refine sm_rd (m_gR_12_61 H) ?_
      refine sm_rd (m_aI_12_61 H l3_0 ⟨by decide, by decide⟩).1 ?_
      refine sm_wt (m_sI_12_61 H l3_1 ⟨by decide, by decide⟩ rfl (m_aI_12_61 H l3_0 ⟨by decide, by decide⟩).2) fun h9 Hh9 => ?_
      refine sm_rd (m_gR_12_62 Hh9) ?_
      refine sm_wt (m_sI_12_62 Hh9 l3_1 ⟨by decide, by decide⟩ l3_0 lr3_0) fun h13 Hh13 => ?_
      refine sm_rd (m_gR_12_63 Hh13) ?_
      refine sm_wt (m_sI_12_63 Hh13 l3_1 ⟨by decide, by decide⟩ l3_0 lr3_0) fun h17 Hh17 => ?_
      exact sm_retV Hh17
    · refine sm_rd (m_gR_12_60 H) ?_
      refine sm_rd (m_gR_12_60 H) ?_
      refine sgxV fun c1 => ?_
      refine sm_rd (m_aI_12_60 H rfl c1).1 ?_
      refine sgxV fun c2 => ?_
      refine sm_wt (m_sI_12_60 H (z3_add l3_28 rfl) c2 rfl (m_aI_12_60 H rfl c1).2) fun h25 Hh25 => ?_
      refine sg3V fun c3 => ?_
      exact ih Hh25 (z3_add rfl l3_1) c3
theorem S12_layTried_2 (n : Nat) : ∀ {h : PH} (H : OKM h) {x1i : Int32} {x1 : Int} (ex1 : x1i = Z3 x1) (qx1 : r3 x1), SimV OKM (F12_layTried_2 n h 0 x1i) (G12_layTried_2 n (rd h) x1) := by
  induction n with
  | zero => intros; exact smV_none _
  | succ n ih =>
    intro h H x1i x1 ex1 qx1
    subst ex1
    rw [F12_layTried_2, G12_layTried_2]
    refine sm_if (z3_le l3_5 rfl lr3_5 qx1) ?_ ?_
    · exact S12_layTried_71 1024 H l3_0 lr3_0
    · refine sm_rd (m_gR_12_55 H) ?_
      refine sm_rd (m_gR_12_55 H) ?_
      refine sgxV fun c1 => ?_
      refine sm_rd (m_aI_12_55 H rfl c1).1 ?_
      refine sgxV fun c2 => ?_
      refine sm_wt (m_sI_12_55 H (z3_add l3_5 rfl) c2 rfl (m_aI_12_55 H rfl c1).2) fun h9 Hh9 => ?_
      refine sm_rd (m_gR_12_56 Hh9) ?_
      refine sm_rd (m_gR_12_56 Hh9) ?_
      refine sgxV fun c3 => ?_
      refine sm_rd (m_aI_12_56 Hh9 rfl c3).1 ?_
      refine sgxV fun c4 => ?_
      refine sm_wt (m_sI_12_56 Hh9 (z3_add l3_5 rfl) c4 rfl (m_aI_12_56 Hh9 rfl c3).2) fun h17 Hh17 => ?_
      refine sm_rd (m_gR_12_57 Hh17) ?_
      refine sm_rd (m_gR_12_57 Hh17) ?_
      refine sgxV fun c5 => ?_
      refine sm_rd (m_aI_12_57 Hh17 rfl c5).1 ?_
      refine sgxV fun c6 => ?_
      refine sm_wt (m_sI_12_57 Hh17 (z3_add l3_5 rfl) c6 rfl (m_aI_12_57 Hh17 rfl c5).2) fun h25 Hh25 => ?_
      refine sm_rd (m_gR_12_58 Hh25) ?_
      refine sm_rd (m_gR_12_58 Hh25) ?_
      refine sgxV fun c7 => ?_
      refine sm_rd (m_aI_12_58 Hh25 rfl c7).1 ?_
      refine sgxV fun c8 => ?_
      refine sm_wt (m_sI_12_58 Hh25 (z3_add l3_5 rfl) c8 rfl (m_aI_12_58 Hh25 rfl c7).2) fun h33 Hh33 => ?_
      refine sg3V fun c9 => ?_
      exact ih Hh33 (z3_add rfl l3_1) c9
theorem S12_layTried_0 {h : PH} (H : OKM h) : SimV OKM (F12_layTried_0 h 0) (G12_layTried_0 (rd h)) := by
  unfold F12_layTried_0 G12_layTried_0
  exact S12_layTried_2 1024 H l3_0 lr3_0
theorem S12_layTried {h : PH} (H : OKM h) : SimV OKM (F12_layTried h 0) (G12_layTried (rd h)) := by
  unfold F12_layTried G12_layTried
  refine sm_cd (m_ok_12 H) ?_
  exact S12_layTried_0 H
theorem S12_goesOn_0 (n : Nat) : ∀ {h : PH} (H : OKM h) {x1i : Int32} {x1 : Int} (ex1 : x1i = Z3 x1) (qx1 : r3 x1), SimV OKM (F12_goesOn_0 n h 0 x1i) (G12_goesOn_0 n (rd h) x1) := by
  induction n with
  | zero => intros; exact smV_none _
  | succ n ih =>
    intro h H x1i x1 ex1 qx1
    subst ex1
    rw [F12_goesOn_0, G12_goesOn_0]
    refine sm_rd (m_gI_12_16 H).1 ?_
    refine sm_if (z3_le rfl l3_0 (m_gI_12_16 H).2 lr3_0) ?_ ?_
    · exact sm_retV H
    · refine sm_rd (m_gR_12_61 H) ?_
      refine sm_rd (m_aI_12_61 H l3_1 ⟨by decide, by decide⟩).1 ?_
      refine sm_rd (m_gR_12_34 H) ?_
      refine sm_rd (m_gI_12_16 H).1 ?_
      refine sgxV fun c1 => ?_
      refine sm_rd (m_aI_12_34 H (z3_sub rfl l3_1) c1).1 ?_
      refine sm_if (z3_lt rfl rfl (m_aI_12_34 H (z3_sub rfl l3_1) c1).2 (m_aI_12_61 H l3_1 ⟨by decide, by decide⟩).2) ?_ ?_
      · exact sm_retV H
      · refine sm_VV (S12_aMinute H l3_1 lr3_1 rfl qx1) fun ho15 Ho15 => ?_
        exact ih Ho15 rfl qx1
theorem S12_goesOn {h : PH} (H : OKM h) {x1i : Int32} {x1 : Int} (ex1 : x1i = Z3 x1) (qx1 : r3 x1) : SimV OKM (F12_goesOn h 0 x1i) (G12_goesOn (rd h) x1) := by
  subst ex1
  unfold F12_goesOn G12_goesOn
  refine sm_cd (m_ok_12 H) ?_
  exact S12_goesOn_0 1024 H rfl qx1
theorem S12_chance_47 (n : Nat) : ∀ {h : PH} (H : OKM h) {x2i : Int32} {x2 : Int} (ex2 : x2i = Z3 x2) (qx2 : r3 x2) {x3i : Int32} {x3 : Int} (ex3 : x3i = Z3 x3) (qx3 : r3 x3) {j4i : Int64} {j4 : Int} (ej4 : j4i = Z6 j4) (qj4 : r6 j4) {x6i : Int32} {x6 : Int} (ex6 : x6i = Z3 x6) (qx6 : r3 x6) {x7i : Int32} {x7 : Int} (ex7 : x7i = Z3 x7) (qx7 : r3 x7), SimI OKM (F12_chance_47 n h 0 x2i x3i j4i x6i x7i) (G12_chance_47 n (rd h) x2 x3 j4 x6 x7) := by
  induction n with
  | zero => intros; exact smI_none _
  | succ n ih =>
    intro h H x2i x2 ex2 qx2 x3i x3 ex3 qx3 j4i j4 ej4 qj4 x6i x6 ex6 qx6 x7i x7 ex7 qx7
    subst ex2 ex3 ej4 ex6 ex7
    rw [F12_chance_47, G12_chance_47]
    refine sm_if (z3_le l3_10 rfl lr3_10 qx7) ?_ ?_
    · refine sm_wt (m_pJ_12_65 H rfl qj4) fun h2 Hh2 => ?_
      exact sm_retI Hh2 rfl qx6
    · refine sm_VI (S12_layTried H) fun ho4 Ho4 => ?_
      refine sm_rd (m_gI_12_64 Ho4).1 ?_
      refine sm_VI (S12_goesOn Ho4 rfl ((m_gI_12_64 Ho4).2)) fun ho8 Ho8 => ?_
      refine sm_rd (m_gR_12_56 Ho8) ?_
      refine sgxI fun c1 => ?_
      refine sm_rd (m_aI_12_56 Ho8 (z3_add l3_5 rfl) c1).1 ?_
      refine sm_if (z3_lt rfl rfl (m_aI_12_56 Ho8 (z3_add l3_5 rfl) c1).2 qx3) ?_ ?_
      · refine sg3I fun c2 => ?_
        refine sg3I fun c3 => ?_
        exact ih Ho8 rfl qx2 rfl qx3 rfl qj4 (z3_add rfl l3_0) c2 (z3_add rfl l3_1) c3
      · refine sg3I fun c4 => ?_
        refine sg3I fun c5 => ?_
        exact ih Ho8 rfl qx2 rfl qx3 rfl qj4 (z3_add rfl l3_1) c4 (z3_add rfl l3_1) c5
theorem S12_chance_0 {h : PH} (H : OKM h) {x1i : Int32} {x1 : Int} (ex1 : x1i = Z3 x1) (qx1 : r3 x1) {x2i : Int32} {x2 : Int} (ex2 : x2i = Z3 x2) (qx2 : r3 x2) {x3i : Int32} {x3 : Int} (ex3 : x3i = Z3 x3) (qx3 : r3 x3) : SimI OKM (F12_chance_0 h 0 x1i x2i x3i) (G12_chance_0 (rd h) x1 x2 x3) := by
  subst ex1 ex2 ex3
  unfold F12_chance_0 G12_chance_0
  refine sm_wt (m_pI_12_2 H l3_0 lr3_0) fun h1 Hh1 => ?_
  refine sm_if (z3_lt rfl l3_0 qx1 lr3_0) ?_ ?_
  · exact sm_retI Hh1 l3_m1 lr3_m1
  · refine sm_II (S12_isSurfer Hh1 rfl qx2) fun vo4 ho4 Ho4 ro4 => ?_
    refine sm_if (z3_eq rfl l3_0 ro4 lr3_0) ?_ ?_
    · exact sm_retI Ho4 l3_m1 lr3_m1
    · refine sm_II (S12_isIn Ho4 rfl qx3 l3_0 lr3_0 l3_28 lr3_28) fun vo7 ho7 Ho7 ro7 => ?_
      refine sm_if (z3_eq rfl l3_0 ro7 lr3_0) ?_ ?_
      · exact sm_retI Ho7 l3_m1 lr3_m1
      · refine sm_rd (m_gJ_12_65 Ho7).1 ?_
        refine sm_wt (m_pJ_12_65 Ho7 (z3_to6 rfl qx1) (r3_6 qx1)) fun h12 Hh12 => ?_
        exact S12_chance_47 1024 Hh12 rfl qx2 rfl qx3 rfl ((m_gJ_12_65 Ho7).2) l3_0 lr3_0 l3_0 lr3_0
theorem S12_chance {h : PH} (H : OKM h) {x1i : Int32} {x1 : Int} (ex1 : x1i = Z3 x1) (qx1 : r3 x1) {x2i : Int32} {x2 : Int} (ex2 : x2i = Z3 x2) (qx2 : r3 x2) {x3i : Int32} {x3 : Int} (ex3 : x3i = Z3 x3) (qx3 : r3 x3) : SimI OKM (F12_chance h 0 x1i x2i x3i) (G12_chance (rd h) x1 x2 x3) := by
  subst ex1 ex2 ex3
  unfold F12_chance G12_chance
  refine sm_cd (m_ok_12 H) ?_
  exact S12_chance_0 H rfl qx1 rfl qx2 rfl qx3
theorem S12_comesTo_0 {h : PH} (H : OKM h) {x1i : Int32} {x1 : Int} (ex1 : x1i = Z3 x1) (qx1 : r3 x1) {x2i : Int32} {x2 : Int} (ex2 : x2i = Z3 x2) (qx2 : r3 x2) : SimI OKM (F12_comesTo_0 h 0 x1i x2i) (G12_comesTo_0 (rd h) x1 x2) := by
  subst ex1 ex2
  unfold F12_comesTo_0 G12_comesTo_0
  refine sm_if (z3_eq rfl l3_4 qx2 lr3_4) ?_ ?_
  · refine sm_rd (m_gR_12_55 H) ?_
    refine sgxI fun c1 => ?_
    refine sm_rd (m_aI_12_55 H rfl c1).1 ?_
    exact sm_retI H rfl (m_aI_12_55 H rfl c1).2
  · refine sm_rd (m_gR_12_55 H) ?_
    refine sgxI fun c2 => ?_
    refine sm_rd (m_aI_12_55 H rfl c2).1 ?_
    refine sm_II (S12_beside H rfl ((m_aI_12_55 H rfl c2).2) rfl qx2) fun vo6 ho6 Ho6 ro6 => ?_
    exact sm_retI Ho6 rfl ro6
theorem S12_comesTo {h : PH} (H : OKM h) {x1i : Int32} {x1 : Int} (ex1 : x1i = Z3 x1) (qx1 : r3 x1) {x2i : Int32} {x2 : Int} (ex2 : x2i = Z3 x2) (qx2 : r3 x2) : SimI OKM (F12_comesTo h 0 x1i x2i) (G12_comesTo (rd h) x1 x2) := by
  subst ex1 ex2
  unfold F12_comesTo G12_comesTo
  refine sm_cd (m_ok_12 H) ?_
  exact S12_comesTo_0 H rfl qx1 rfl qx2
theorem S12_copies_2 (n : Nat) : ∀ {h : PH} (H : OKM h) {a0 : Nat} (ha0 : AnyM a0) {x1i : Int32} {x1 : Int} (ex1 : x1i = Z3 x1) (qx1 : r3 x1) {x2i : Int32} {x2 : Int} (ex2 : x2i = Z3 x2) (qx2 : r3 x2), SimV OKM (F12_copies_2 n h a0 x1i x2i) (G12_copies_2 n (rd h) a0 x1 x2) := by
  induction n with
  | zero => intros; exact smV_none _
  | succ n ih =>
    intro h H a0 ha0 x1i x1 ex1 qx1 x2i x2 ex2 qx2
    subst ex1 ex2
    rw [F12_copies_2, G12_copies_2]
    refine sm_if (z3_le rfl rfl qx1 qx2) ?_ ?_
    · exact sm_retV H
    · refine sgxV fun c1 => ?_
      refine sm_rd (m_aI_any H ha0 (z3_add rfl rfl) c1).1 ?_
      refine sgxV fun c2 => ?_
      refine sm_wt (m_sI_any H ha0 rfl c2 rfl (m_aI_any H ha0 (z3_add rfl rfl) c1).2) fun h5 Hh5 => ?_
      refine sg3V fun c3 => ?_
      exact ih Hh5 ha0 rfl qx1 (z3_add rfl l3_1) c3
theorem S12_copies_0 {h : PH} (H : OKM h) {a0 : Nat} (ha0 : AnyM a0) {x1i : Int32} {x1 : Int} (ex1 : x1i = Z3 x1) (qx1 : r3 x1) : SimV OKM (F12_copies_0 h a0 x1i) (G12_copies_0 (rd h) a0 x1) := by
  subst ex1
  unfold F12_copies_0 G12_copies_0
  exact S12_copies_2 1024 H ha0 rfl qx1 l3_0 lr3_0
theorem S12_copies {h : PH} (H : OKM h) {a0 : Nat} (ha0 : AnyM a0) {x1i : Int32} {x1 : Int} (ex1 : x1i = Z3 x1) (qx1 : r3 x1) : SimV OKM (F12_copies h a0 x1i) (G12_copies (rd h) a0 x1) := by
  subst ex1
  unfold F12_copies G12_copies
  exact S12_copies_0 H ha0 rfl qx1
theorem S12_firstToCome_2 (n : Nat) : ∀ {h : PH} (H : OKM h) {x1i : Int32} {x1 : Int} (ex1 : x1i = Z3 x1) (qx1 : r3 x1), SimI OKM (F12_firstToCome_2 n h 0 x1i) (G12_firstToCome_2 n (rd h) x1) := by
  induction n with
  | zero => intros; exact smI_none _
  | succ n ih =>
    intro h H x1i x1 ex1 qx1
    subst ex1
    rw [F12_firstToCome_2, G12_firstToCome_2]
    refine sm_rd (m_gI_12_16 H).1 ?_
    refine sm_if (z3_le rfl rfl (m_gI_12_16 H).2 qx1) ?_ ?_
    · exact sm_retI H rfl qx1
    · refine sm_rd (m_gR_12_60 H) ?_
      refine sgxI fun c1 => ?_
      refine sm_rd (m_aI_12_60 H rfl c1).1 ?_
      refine sm_if (z3_eq rfl l3_m2 (m_aI_12_60 H rfl c1).2 lr3_m2) ?_ ?_
      · exact sm_retI H rfl qx1
      · refine sg3I fun c2 => ?_
        exact ih H (z3_add rfl l3_1) c2
theorem S12_firstToCome_0 {h : PH} (H : OKM h) : SimI OKM (F12_firstToCome_0 h 0) (G12_firstToCome_0 (rd h)) := by
  unfold F12_firstToCome_0 G12_firstToCome_0
  exact S12_firstToCome_2 1024 H l3_0 lr3_0
theorem S12_firstToCome {h : PH} (H : OKM h) : SimI OKM (F12_firstToCome h 0) (G12_firstToCome (rd h)) := by
  unfold F12_firstToCome G12_firstToCome
  refine sm_cd (m_ok_12 H) ?_
  exact S12_firstToCome_0 H
theorem S12_knownBy_0 {h : PH} (H : OKM h) : SimI OKM (F12_knownBy_0 h 0) (G12_knownBy_0 (rd h)) := by
  unfold F12_knownBy_0 G12_knownBy_0
  refine sm_rd (m_gI_12_75 H).1 ?_
  refine sm_if (z3_le l3_0 rfl lr3_0 (m_gI_12_75 H).2) ?_ ?_
  · refine sm_rd (m_gI_12_75 H).1 ?_
    exact sm_retI H rfl (m_gI_12_75 H).2
  · refine sm_rd (m_gI_12_74 H).1 ?_
    exact sm_retI H rfl (m_gI_12_74 H).2
theorem S12_knownBy {h : PH} (H : OKM h) : SimI OKM (F12_knownBy h 0) (G12_knownBy (rd h)) := by
  unfold F12_knownBy G12_knownBy
  refine sm_cd (m_ok_12 H) ?_
  exact S12_knownBy_0 H
theorem S12_count_0 {h : PH} (H : OKM h) {x1i : Int32} {x1 : Int} (ex1 : x1i = Z3 x1) (qx1 : r3 x1) : SimI OKM (F12_count_0 h 0 x1i) (G12_count_0 (rd h) x1) := by
  subst ex1
  unfold F12_count_0 G12_count_0
  refine sm_wt (m_pI_12_2 H l3_0 lr3_0) fun h1 Hh1 => ?_
  refine sm_if (z3_eq rfl l3_0 qx1 lr3_0) ?_ ?_
  · refine sm_rd (m_gI_12_12 Hh1).1 ?_
    exact sm_retI Hh1 rfl (m_gI_12_12 Hh1).2
  · refine sm_if (z3_eq rfl l3_1 qx1 lr3_1) ?_ ?_
    · refine sm_rd (m_gI_12_13 Hh1).1 ?_
      exact sm_retI Hh1 rfl (m_gI_12_13 Hh1).2
    · refine sm_if (z3_eq rfl l3_2 qx1 lr3_2) ?_ ?_
      · refine sm_rd (m_gI_12_14 Hh1).1 ?_
        exact sm_retI Hh1 rfl (m_gI_12_14 Hh1).2
      · refine sm_if (z3_eq rfl l3_3 qx1 lr3_3) ?_ ?_
        · refine sm_rd (m_gI_12_15 Hh1).1 ?_
          exact sm_retI Hh1 rfl (m_gI_12_15 Hh1).2
        · refine sm_if (z3_eq rfl l3_4 qx1 lr3_4) ?_ ?_
          · refine sm_rd (m_gI_12_16 Hh1).1 ?_
            exact sm_retI Hh1 rfl (m_gI_12_16 Hh1).2
          · refine sm_if (z3_eq rfl l3_5 qx1 lr3_5) ?_ ?_
            · refine sm_rd (m_gI_12_17 Hh1).1 ?_
              exact sm_retI Hh1 rfl (m_gI_12_17 Hh1).2
            · refine sm_if (z3_eq rfl l3_6 qx1 lr3_6) ?_ ?_
              · refine sm_rd (m_gR_12_61 Hh1) ?_
                refine sm_rd (m_aI_12_61 Hh1 l3_0 ⟨by decide, by decide⟩).1 ?_
                exact sm_retI Hh1 rfl (m_aI_12_61 Hh1 l3_0 ⟨by decide, by decide⟩).2
              · refine sm_if (z3_eq rfl l3_7 qx1 lr3_7) ?_ ?_
                · refine sm_rd (m_gI_12_64 Hh1).1 ?_
                  exact sm_retI Hh1 rfl (m_gI_12_64 Hh1).2
                · refine sm_if (z3_eq rfl l3_8 qx1 lr3_8) ?_ ?_
                  · refine sm_rd (m_gR_12_62 Hh1) ?_
                    refine sm_rd (m_aI_12_62 Hh1 l3_0 ⟨by decide, by decide⟩).1 ?_
                    exact sm_retI Hh1 rfl (m_aI_12_62 Hh1 l3_0 ⟨by decide, by decide⟩).2
                  · refine sm_if (z3_eq rfl l3_9 qx1 lr3_9) ?_ ?_
                    · refine sm_rd (m_gR_12_63 Hh1) ?_
                      refine sm_rd (m_aI_12_63 Hh1 l3_0 ⟨by decide, by decide⟩).1 ?_
                      exact sm_retI Hh1 rfl (m_aI_12_63 Hh1 l3_0 ⟨by decide, by decide⟩).2
                    · refine sm_if (z3_eq rfl l3_10 qx1 lr3_10) ?_ ?_
                      · refine sm_rd (m_gI_12_16 Hh1).1 ?_
                        refine sm_II (S12_firstToCome Hh1) fun vo42 ho42 Ho42 ro42 => ?_
                        refine sg3I fun c1 => ?_
                        exact sm_retI Ho42 (z3_sub rfl rfl) c1
                      · refine sm_if (z3_eq rfl l3_11 qx1 lr3_11) ?_ ?_
                        · refine sm_rd (m_gI_12_74 Hh1).1 ?_
                          exact sm_retI Hh1 rfl (m_gI_12_74 Hh1).2
                        · refine sm_if (z3_eq rfl l3_12 qx1 lr3_12) ?_ ?_
                          · refine sm_II (S12_knownBy Hh1) fun vo48 ho48 Ho48 ro48 => ?_
                            exact sm_retI Ho48 rfl ro48
                          · refine sm_if (z3_eq rfl l3_13 qx1 lr3_13) ?_ ?_
                            · refine sm_rd (m_gI_12_78 Hh1).1 ?_
                              exact sm_retI Hh1 rfl (m_gI_12_78 Hh1).2
                            · exact sm_retI Hh1 l3_m1 lr3_m1
theorem S12_count {h : PH} (H : OKM h) {x1i : Int32} {x1 : Int} (ex1 : x1i = Z3 x1) (qx1 : r3 x1) : SimI OKM (F12_count h 0 x1i) (G12_count (rd h) x1) := by
  subst ex1
  unfold F12_count G12_count
  refine sm_cd (m_ok_12 H) ?_
  exact S12_count_0 H rfl qx1
theorem S12_deeper_0 {h : PH} (H : OKM h) {x1i : Int32} {x1 : Int} (ex1 : x1i = Z3 x1) (qx1 : r3 x1) {x2i : Int32} {x2 : Int} (ex2 : x2i = Z3 x2) (qx2 : r3 x2) : SimI OKM (F12_deeper_0 h 0 x1i x2i) (G12_deeper_0 (rd h) x1 x2) := by
  subst ex1 ex2
  unfold F12_deeper_0 G12_deeper_0
  refine sm_wt (m_pI_12_2 H l3_0 lr3_0) fun h1 Hh1 => ?_
  refine sm_II (S12_isSurfer Hh1 rfl qx1) fun vo3 ho3 Ho3 ro3 => ?_
  refine sm_if (z3_eq rfl l3_0 ro3 lr3_0) ?_ ?_
  · exact sm_retI Ho3 l3_m1 lr3_m1
  · refine sm_II (S12_isSurfer Ho3 rfl qx2) fun vo6 ho6 Ho6 ro6 => ?_
    refine sm_if (z3_eq rfl l3_0 ro6 lr3_0) ?_ ?_
    · exact sm_retI Ho6 l3_m1 lr3_m1
    · refine sm_rd (m_gR_12_61 Ho6) ?_
      refine sm_rd (m_aI_12_61 Ho6 l3_0 ⟨by decide, by decide⟩).1 ?_
      refine sm_II (S12_peakAt Ho6 rfl ((m_aI_12_61 Ho6 l3_0 ⟨by decide, by decide⟩).2)) fun vo13 ho13 Ho13 ro13 => ?_
      refine sm_rd (m_gR_12_55 Ho13) ?_
      refine sgxI fun c1 => ?_
      refine sm_rd (m_aI_12_55 Ho13 rfl c1).1 ?_
      refine sm_II (S12_far Ho13 rfl ((m_aI_12_55 Ho13 rfl c1).2) rfl ro13) fun vo19 ho19 Ho19 ro19 => ?_
      refine sm_rd (m_gR_12_55 Ho19) ?_
      refine sgxI fun c2 => ?_
      refine sm_rd (m_aI_12_55 Ho19 rfl c2).1 ?_
      refine sm_II (S12_far Ho19 rfl ((m_aI_12_55 Ho19 rfl c2).2) rfl ro13) fun vo25 ho25 Ho25 ro25 => ?_
      refine sm_if (z3_le rfl rfl ro25 ro19) ?_ ?_
      · refine sm_if (z3_le rfl rfl ro19 ro25) ?_ ?_
        · exact sm_retI Ho25 l3_0 lr3_0
        · exact sm_retI Ho25 l3_2 lr3_2
      · exact sm_retI Ho25 l3_1 lr3_1
theorem S12_deeper {h : PH} (H : OKM h) {x1i : Int32} {x1 : Int} (ex1 : x1i = Z3 x1) (qx1 : r3 x1) {x2i : Int32} {x2 : Int} (ex2 : x2i = Z3 x2) (qx2 : r3 x2) : SimI OKM (F12_deeper h 0 x1i x2i) (G12_deeper (rd h) x1 x2) := by
  subst ex1 ex2
  unfold F12_deeper G12_deeper
  refine sm_cd (m_ok_12 H) ?_
  exact S12_deeper_0 H rfl qx1 rfl qx2
theorem S12_fails_0 {h : PH} (H : OKM h) {x1i : Int32} {x1 : Int} (ex1 : x1i = Z3 x1) (qx1 : r3 x1) : SimI OKM (F12_fails_0 h 0 x1i) (G12_fails_0 (rd h) x1) := by
  subst ex1
  unfold F12_fails_0 G12_fails_0
  refine sm_wt (m_pI_12_2 H rfl qx1) fun h1 Hh1 => ?_
  exact sm_retI Hh1 l3_0 lr3_0
theorem S12_fails {h : PH} (H : OKM h) {x1i : Int32} {x1 : Int} (ex1 : x1i = Z3 x1) (qx1 : r3 x1) : SimI OKM (F12_fails h 0 x1i) (G12_fails (rd h) x1) := by
  subst ex1
  unfold F12_fails G12_fails
  refine sm_cd (m_ok_12 H) ?_
  exact S12_fails_0 H rfl qx1
theorem S12_run_0 {h : PH} (H : OKM h) {x1i : Int32} {x1 : Int} (ex1 : x1i = Z3 x1) (qx1 : r3 x1) {x2i : Int32} {x2 : Int} (ex2 : x2i = Z3 x2) (qx2 : r3 x2) : SimV OKM (F12_run_0 h 0 x1i x2i) (G12_run_0 (rd h) x1 x2) := by
  subst ex1 ex2
  unfold F12_run_0 G12_run_0
  refine sm_rd (m_gJ_12_65 H).1 ?_
  refine sm_wt (m_pJ_12_65 H (z3_to6 rfl qx2) (r3_6 qx2)) fun h3 Hh3 => ?_
  refine sm_VV (S12_layTried Hh3) fun ho5 Ho5 => ?_
  refine sm_VV (S12_goesOn Ho5 rfl qx1) fun ho7 Ho7 => ?_
  refine sm_wt (m_pJ_12_65 Ho7 rfl (m_gJ_12_65 H).2) fun h9 Hh9 => ?_
  exact sm_retV Hh9
theorem S12_run {h : PH} (H : OKM h) {x1i : Int32} {x1 : Int} (ex1 : x1i = Z3 x1) (qx1 : r3 x1) {x2i : Int32} {x2 : Int} (ex2 : x2i = Z3 x2) (qx2 : r3 x2) : SimV OKM (F12_run h 0 x1i x2i) (G12_run (rd h) x1 x2) := by
  subst ex1 ex2
  unfold F12_run G12_run
  refine sm_cd (m_ok_12 H) ?_
  exact S12_run_0 H rfl qx1 rfl qx2
theorem S12_unlike_47 {k8 : PH → Nat → Int32 → Int32 → Int32 → Int32 → Option (Int32 × PH)} {kk8 : Mem → Int → Int → Int → Int → Option (Int × Mem)} (hk8 : ∀ {h : PH} (_ : OKM h) {x2 : Int32} {y2 : Int} (_ : x2 = Z3 y2) (_ : r3 y2) {x3 : Int32} {y3 : Int} (_ : x3 = Z3 y3) (_ : r3 y3) {x4 : Int32} {y4 : Int} (_ : x4 = Z3 y4) (_ : r3 y4) {x5 : Int32} {y5 : Int} (_ : x5 = Z3 y5) (_ : r3 y5), SimI OKM (k8 h 0 x2 x3 x4 x5) (kk8 (rd h) y2 y3 y4 y5)) {h : PH} (H : OKM h) {x1i : Int32} {x1 : Int} (ex1 : x1i = Z3 x1) (qx1 : r3 x1) {x3i : Int32} {x3 : Int} (ex3 : x3i = Z3 x3) (qx3 : r3 x3) {x4i : Int32} {x4 : Int} (ex4 : x4i = Z3 x4) (qx4 : r3 x4) {s0i : Int32} {s0 : Int} (es0 : s0i = Z3 s0) (qs0 : r3 s0) : SimI OKM (F12_unlike_47 k8 h 0 x1i x3i x4i s0i) (G12_unlike_47 kk8 (rd h) x1 x3 x4 s0) := by
  subst ex1 ex3 ex4 es0
  unfold F12_unlike_47 G12_unlike_47
  refine sm_rd (m_gR_12_56 H) ?_
  refine sgxI fun c1 => ?_
  refine sm_rd (m_aI_12_56 H (z3_add (z3_mul l3_5 rfl) rfl) c1).1 ?_
  refine sm_if (z3_le rfl rfl qx3 (m_aI_12_56 H (z3_add (z3_mul l3_5 rfl) rfl) c1).2) ?_ ?_
  · refine sg3I fun c2 => ?_
    exact hk8 H rfl qx1 rfl qs0 rfl qx3 (z3_add rfl l3_1) c2
  · refine sm_rd (m_gR_12_56 H) ?_
    refine sgxI fun c3 => ?_
    refine sm_rd (m_aI_12_56 H (z3_add (z3_mul l3_5 rfl) rfl) c3).1 ?_
    refine sg3I fun c4 => ?_
    exact hk8 H rfl qx1 rfl qs0 rfl ((m_aI_12_56 H (z3_add (z3_mul l3_5 rfl) rfl) c3).2) (z3_add rfl l3_1) c4
theorem S12_unlike_8 (n : Nat) : ∀ {h : PH} (H : OKM h) {x1i : Int32} {x1 : Int} (ex1 : x1i = Z3 x1) (qx1 : r3 x1) {x2i : Int32} {x2 : Int} (ex2 : x2i = Z3 x2) (qx2 : r3 x2) {x3i : Int32} {x3 : Int} (ex3 : x3i = Z3 x3) (qx3 : r3 x3) {x4i : Int32} {x4 : Int} (ex4 : x4i = Z3 x4) (qx4 : r3 x4), SimI OKM (F12_unlike_8 n h 0 x1i x2i x3i x4i) (G12_unlike_8 n (rd h) x1 x2 x3 x4) := by
  induction n with
  | zero => intros; exact smI_none _
  | succ n ih =>
    intro h H x1i x1 ex1 qx1 x2i x2 ex2 qx2 x3i x3 ex3 qx3 x4i x4 ex4 qx4
    subst ex1 ex2 ex3 ex4
    rw [F12_unlike_8, G12_unlike_8]
    refine sm_rd (m_gI_12_14 H).1 ?_
    refine sm_if (z3_le rfl rfl (m_gI_12_14 H).2 qx4) ?_ ?_
    · refine sm_rd (m_gI_12_14 H).1 ?_
      refine sm_if (z3_eq rfl l3_0 (m_gI_12_14 H).2 lr3_0) ?_ ?_
      · exact sm_retI H l3_0 lr3_0
      · refine sg3I fun c1 => ?_
        exact sm_retI H (z3_sub rfl rfl) c1
    · refine sm_rd (m_gR_12_56 H) ?_
      refine sgxI fun c2 => ?_
      refine sm_rd (m_aI_12_56 H (z3_add (z3_mul l3_5 rfl) rfl) c2).1 ?_
      refine sm_if (z3_le rfl rfl (m_aI_12_56 H (z3_add (z3_mul l3_5 rfl) rfl) c2).2 qx2) ?_ ?_
      · exact S12_unlike_47 (@fun _ H _ _ ex1 qx1 _ _ ex2 qx2 _ _ ex3 qx3 _ _ ex4 qx4 => ih H ex1 qx1 ex2 qx2 ex3 qx3 ex4 qx4) H rfl qx1 rfl qx3 rfl qx4 rfl qx2
      · refine sm_rd (m_gR_12_56 H) ?_
        refine sgxI fun c3 => ?_
        refine sm_rd (m_aI_12_56 H (z3_add (z3_mul l3_5 rfl) rfl) c3).1 ?_
        exact S12_unlike_47 (@fun _ H _ _ ex1 qx1 _ _ ex2 qx2 _ _ ex3 qx3 _ _ ex4 qx4 => ih H ex1 qx1 ex2 qx2 ex3 qx3 ex4 qx4) H rfl qx1 rfl qx3 rfl qx4 rfl ((m_aI_12_56 H (z3_add (z3_mul l3_5 rfl) rfl) c3).2)
theorem S12_unlike_0 {h : PH} (H : OKM h) {x1i : Int32} {x1 : Int} (ex1 : x1i = Z3 x1) (qx1 : r3 x1) : SimI OKM (F12_unlike_0 h 0 x1i) (G12_unlike_0 (rd h) x1) := by
  subst ex1
  unfold F12_unlike_0 G12_unlike_0
  exact S12_unlike_8 1024 H rfl qx1 l3_0 lr3_0 l3_99 lr3_99 l3_0 lr3_0
theorem S12_unlike {h : PH} (H : OKM h) {x1i : Int32} {x1 : Int} (ex1 : x1i = Z3 x1) (qx1 : r3 x1) : SimI OKM (F12_unlike h 0 x1i) (G12_unlike (rd h) x1) := by
  subst ex1
  unfold F12_unlike G12_unlike
  refine sm_cd (m_ok_12 H) ?_
  exact S12_unlike_0 H rfl qx1
theorem S12_fairest_69 {k18 : PH → Nat → Int32 → Int32 → Int32 → Int32 → Option (Int32 × PH)} {kk18 : Mem → Int → Int → Int → Int → Option (Int × Mem)} (hk18 : ∀ {h : PH} (_ : OKM h) {x2 : Int32} {y2 : Int} (_ : x2 = Z3 y2) (_ : r3 y2) {x3 : Int32} {y3 : Int} (_ : x3 = Z3 y3) (_ : r3 y3) {x4 : Int32} {y4 : Int} (_ : x4 = Z3 y4) (_ : r3 y4) {x5 : Int32} {y5 : Int} (_ : x5 = Z3 y5) (_ : r3 y5), SimI OKM (k18 h 0 x2 x3 x4 x5) (kk18 (rd h) y2 y3 y4 y5)) {h : PH} (H : OKM h) {x1i : Int32} {x1 : Int} (ex1 : x1i = Z3 x1) (qx1 : r3 x1) {x4i : Int32} {x4 : Int} (ex4 : x4i = Z3 x4) (qx4 : r3 x4) {x5i : Int32} {x5 : Int} (ex5 : x5i = Z3 x5) (qx5 : r3 x5) : SimI OKM (F12_fairest_69 k18 h 0 x1i x4i x5i) (G12_fairest_69 kk18 (rd h) x1 x4 x5) := by
  subst ex1 ex4 ex5
  unfold F12_fairest_69 G12_fairest_69
  refine sg3I fun c1 => ?_
  exact hk18 H rfl qx1 rfl qx4 rfl qx5 (z3_add rfl l3_1) c1
theorem S12_fairest_18 (n : Nat) : ∀ {h : PH} (H : OKM h) {x1i : Int32} {x1 : Int} (ex1 : x1i = Z3 x1) (qx1 : r3 x1) {x2i : Int32} {x2 : Int} (ex2 : x2i = Z3 x2) (qx2 : r3 x2) {x3i : Int32} {x3 : Int} (ex3 : x3i = Z3 x3) (qx3 : r3 x3) {x4i : Int32} {x4 : Int} (ex4 : x4i = Z3 x4) (qx4 : r3 x4), SimI OKM (F12_fairest_18 n h 0 x1i x2i x3i x4i) (G12_fairest_18 n (rd h) x1 x2 x3 x4) := by
  induction n with
  | zero => intros; exact smI_none _
  | succ n ih =>
    intro h H x1i x1 ex1 qx1 x2i x2 ex2 qx2 x3i x3 ex3 qx3 x4i x4 ex4 qx4
    subst ex1 ex2 ex3 ex4
    rw [F12_fairest_18, G12_fairest_18]
    refine sm_if (z3_le l3_4 rfl lr3_4 qx4) ?_ ?_
    · exact sm_retI H rfl qx2
    · refine sm_VI (S12_run H rfl qx4 rfl qx1) fun ho2 Ho2 => ?_
      refine sm_II (S12_unlike Ho2 l3_1 lr3_1) fun vo4 ho4 Ho4 ro4 => ?_
      refine sm_rd (m_gR_12_62 Ho4) ?_
      refine sm_rd (m_aI_12_62 Ho4 l3_1 ⟨by decide, by decide⟩).1 ?_
      refine sm_rd (m_gR_12_63 Ho4) ?_
      refine sm_rd (m_aI_12_63 Ho4 l3_1 ⟨by decide, by decide⟩).1 ?_
      refine sm_if (z3_lt rfl l3_0 qx2 lr3_0) ?_ ?_
      · refine sg3I fun c1 => ?_
        exact S12_fairest_69 (@fun _ H _ _ ex1 qx1 _ _ ex2 qx2 _ _ ex3 qx3 _ _ ex4 qx4 => ih H ex1 qx1 ex2 qx2 ex3 qx3 ex4 qx4) Ho4 rfl qx1 rfl qx4 (z3_add (z3_add (z3_mul l3_1000 rfl) rfl) rfl) c1
      · refine sg3I fun c2 => ?_
        refine sm_if (z3_lt (z3_add (z3_add (z3_mul l3_1000 rfl) rfl) rfl) rfl c2 qx3) ?_ ?_
        · refine sg3I fun c3 => ?_
          exact S12_fairest_69 (@fun _ H _ _ ex1 qx1 _ _ ex2 qx2 _ _ ex3 qx3 _ _ ex4 qx4 => ih H ex1 qx1 ex2 qx2 ex3 qx3 ex4 qx4) Ho4 rfl qx1 rfl qx4 (z3_add (z3_add (z3_mul l3_1000 rfl) rfl) rfl) c3
        · refine sg3I fun c4 => ?_
          exact ih Ho4 rfl qx1 rfl qx2 rfl qx3 (z3_add rfl l3_1) c4
theorem S12_fairest_0 {h : PH} (H : OKM h) {x1i : Int32} {x1 : Int} (ex1 : x1i = Z3 x1) (qx1 : r3 x1) : SimI OKM (F12_fairest_0 h 0 x1i) (G12_fairest_0 (rd h) x1) := by
  subst ex1
  unfold F12_fairest_0 G12_fairest_0
  refine sm_wt (m_pI_12_2 H l3_0 lr3_0) fun h1 Hh1 => ?_
  refine sm_if (z3_le l3_0 rfl lr3_0 qx1) ?_ ?_
  · exact S12_fairest_18 1024 Hh1 rfl qx1 l3_m1 lr3_m1 l3_0 lr3_0 l3_0 lr3_0
  · exact sm_retI Hh1 l3_m1 lr3_m1
theorem S12_fairest {h : PH} (H : OKM h) {x1i : Int32} {x1 : Int} (ex1 : x1i = Z3 x1) (qx1 : r3 x1) : SimI OKM (F12_fairest h 0 x1i) (G12_fairest (rd h) x1) := by
  subst ex1
  unfold F12_fairest G12_fairest
  refine sm_cd (m_ok_12 H) ?_
  exact S12_fairest_0 H rfl qx1
theorem S12_fault_0 {h : PH} (H : OKM h) {x1i : Int32} {x1 : Int} (ex1 : x1i = Z3 x1) (qx1 : r3 x1) : SimI OKM (F12_fault_0 h 0 x1i) (G12_fault_0 (rd h) x1) := by
  subst ex1
  unfold F12_fault_0 G12_fault_0
  refine sm_wt (m_pI_12_2 H l3_0 lr3_0) fun h1 Hh1 => ?_
  refine sm_if (z3_eq rfl l3_0 qx1 lr3_0) ?_ ?_
  · refine sm_rd (m_gI_12_4 Hh1).1 ?_
    exact sm_retI Hh1 rfl (m_gI_12_4 Hh1).2
  · refine sm_if (z3_eq rfl l3_1 qx1 lr3_1) ?_ ?_
    · refine sm_rd (m_gI_12_5 Hh1).1 ?_
      exact sm_retI Hh1 rfl (m_gI_12_5 Hh1).2
    · exact sm_retI Hh1 l3_m1 lr3_m1
theorem S12_fault {h : PH} (H : OKM h) {x1i : Int32} {x1 : Int} (ex1 : x1i = Z3 x1) (qx1 : r3 x1) : SimI OKM (F12_fault h 0 x1i) (G12_fault (rd h) x1) := by
  subst ex1
  unfold F12_fault G12_fault
  refine sm_cd (m_ok_12 H) ?_
  exact S12_fault_0 H rfl qx1
theorem S12_feed_76 {k23 : PH → Nat → Int32 → Int32 → Int32 → Int32 → Int32 → Int32 → Option (Int32 × PH)} {kk23 : Mem → Int → Int → Int → Int → Int → Int → Option (Int × Mem)} (hk23 : ∀ {h : PH} (_ : OKM h) {x2 : Int32} {y2 : Int} (_ : x2 = Z3 y2) (_ : r3 y2) {x3 : Int32} {y3 : Int} (_ : x3 = Z3 y3) (_ : r3 y3) {x4 : Int32} {y4 : Int} (_ : x4 = Z3 y4) (_ : r3 y4) {x5 : Int32} {y5 : Int} (_ : x5 = Z3 y5) (_ : r3 y5) {x6 : Int32} {y6 : Int} (_ : x6 = Z3 y6) (_ : r3 y6) {x7 : Int32} {y7 : Int} (_ : x7 = Z3 y7) (_ : r3 y7), SimI OKM (k23 h 0 x2 x3 x4 x5 x6 x7) (kk23 (rd h) y2 y3 y4 y5 y6 y7)) {h : PH} (H : OKM h) {x1i : Int32} {x1 : Int} (ex1 : x1i = Z3 x1) (qx1 : r3 x1) {x2i : Int32} {x2 : Int} (ex2 : x2i = Z3 x2) (qx2 : r3 x2) {x3i : Int32} {x3 : Int} (ex3 : x3i = Z3 x3) (qx3 : r3 x3) {x4i : Int32} {x4 : Int} (ex4 : x4i = Z3 x4) (qx4 : r3 x4) {x5i : Int32} {x5 : Int} (ex5 : x5i = Z3 x5) (qx5 : r3 x5) {x6i : Int32} {x6 : Int} (ex6 : x6i = Z3 x6) (qx6 : r3 x6) {s0i : Int32} {s0 : Int} (es0 : s0i = Z3 s0) (qs0 : r3 s0) : SimI OKM (F12_feed_76 k23 h 0 x1i x2i x3i x4i x5i x6i s0i) (G12_feed_76 kk23 (rd h) x1 x2 x3 x4 x5 x6 s0) := by
  subst ex1 ex2 ex3 ex4 ex5 ex6 es0
  unfold F12_feed_76 G12_feed_76
  refine sm_rd (m_gR_12_0 H) ?_
  refine sm_rd (m_gI_12_1 H).1 ?_
  refine sgxI fun c1 => ?_
  refine sgdI fun c2 => ?_
  refine sm_wt (m_sI_12_0 H (z3_add rfl rfl) c1 (z3_an (z3_sr rfl (z3_an (z3_sub l3_24 (z3_mul l3_8 (z3_rem rfl l3_4 qx6 lr3_4 c2))) l3_31)) l3_255) (r3_of _)) fun h6 Hh6 => ?_
  refine sg3I fun c3 => ?_
  exact hk23 Hh6 rfl qx1 rfl qx2 rfl qx3 rfl qx4 rfl qx5 (z3_add rfl l3_1) c3
theorem S12_feed_23 (n : Nat) : ∀ {h : PH} (H : OKM h) {x1i : Int32} {x1 : Int} (ex1 : x1i = Z3 x1) (qx1 : r3 x1) {x2i : Int32} {x2 : Int} (ex2 : x2i = Z3 x2) (qx2 : r3 x2) {x3i : Int32} {x3 : Int} (ex3 : x3i = Z3 x3) (qx3 : r3 x3) {x4i : Int32} {x4 : Int} (ex4 : x4i = Z3 x4) (qx4 : r3 x4) {x5i : Int32} {x5 : Int} (ex5 : x5i = Z3 x5) (qx5 : r3 x5) {x6i : Int32} {x6 : Int} (ex6 : x6i = Z3 x6) (qx6 : r3 x6), SimI OKM (F12_feed_23 n h 0 x1i x2i x3i x4i x5i x6i) (G12_feed_23 n (rd h) x1 x2 x3 x4 x5 x6) := by
  induction n with
  | zero => intros; exact smI_none _
  | succ n ih =>
    intro h H x1i x1 ex1 qx1 x2i x2 ex2 qx2 x3i x3 ex3 qx3 x4i x4 ex4 qx4 x5i x5 ex5 qx5 x6i x6 ex6 qx6
    subst ex1 ex2 ex3 ex4 ex5 ex6
    rw [F12_feed_23, G12_feed_23]
    refine sm_if (z3_le l3_20 rfl lr3_20 qx6) ?_ ?_
    · refine sm_rd (m_gI_12_1 H).1 ?_
      refine sg3I fun c1 => ?_
      refine sm_wt (m_pI_12_1 H (z3_add rfl l3_20) c1) fun h4 Hh4 => ?_
      refine sm_rd (m_gI_12_1 Hh4).1 ?_
      exact sm_retI Hh4 rfl (m_gI_12_1 Hh4).2
    · refine sm_if (z3_le l3_4 rfl lr3_4 qx6) ?_ ?_
      · refine sm_if (z3_le l3_8 rfl lr3_8 qx6) ?_ ?_
        · refine sm_if (z3_le l3_12 rfl lr3_12 qx6) ?_ ?_
          · refine sm_if (z3_le l3_16 rfl lr3_16 qx6) ?_ ?_
            · exact S12_feed_76 (@fun _ H _ _ ex1 qx1 _ _ ex2 qx2 _ _ ex3 qx3 _ _ ex4 qx4 _ _ ex5 qx5 _ _ ex6 qx6 => ih H ex1 qx1 ex2 qx2 ex3 qx3 ex4 qx4 ex5 qx5 ex6 qx6) H rfl qx1 rfl qx2 rfl qx3 rfl qx4 rfl qx5 rfl qx6 rfl qx5
            · exact S12_feed_76 (@fun _ H _ _ ex1 qx1 _ _ ex2 qx2 _ _ ex3 qx3 _ _ ex4 qx4 _ _ ex5 qx5 _ _ ex6 qx6 => ih H ex1 qx1 ex2 qx2 ex3 qx3 ex4 qx4 ex5 qx5 ex6 qx6) H rfl qx1 rfl qx2 rfl qx3 rfl qx4 rfl qx5 rfl qx6 rfl qx4
          · exact S12_feed_76 (@fun _ H _ _ ex1 qx1 _ _ ex2 qx2 _ _ ex3 qx3 _ _ ex4 qx4 _ _ ex5 qx5 _ _ ex6 qx6 => ih H ex1 qx1 ex2 qx2 ex3 qx3 ex4 qx4 ex5 qx5 ex6 qx6) H rfl qx1 rfl qx2 rfl qx3 rfl qx4 rfl qx5 rfl qx6 rfl qx3
        · exact S12_feed_76 (@fun _ H _ _ ex1 qx1 _ _ ex2 qx2 _ _ ex3 qx3 _ _ ex4 qx4 _ _ ex5 qx5 _ _ ex6 qx6 => ih H ex1 qx1 ex2 qx2 ex3 qx3 ex4 qx4 ex5 qx5 ex6 qx6) H rfl qx1 rfl qx2 rfl qx3 rfl qx4 rfl qx5 rfl qx6 rfl qx2
      · exact S12_feed_76 (@fun _ H _ _ ex1 qx1 _ _ ex2 qx2 _ _ ex3 qx3 _ _ ex4 qx4 _ _ ex5 qx5 _ _ ex6 qx6 => ih H ex1 qx1 ex2 qx2 ex3 qx3 ex4 qx4 ex5 qx5 ex6 qx6) H rfl qx1 rfl qx2 rfl qx3 rfl qx4 rfl qx5 rfl qx6 rfl qx1
theorem S12_feed_0 {h : PH} (H : OKM h) {x1i : Int32} {x1 : Int} (ex1 : x1i = Z3 x1) (qx1 : r3 x1) {x2i : Int32} {x2 : Int} (ex2 : x2i = Z3 x2) (qx2 : r3 x2) {x3i : Int32} {x3 : Int} (ex3 : x3i = Z3 x3) (qx3 : r3 x3) {x4i : Int32} {x4 : Int} (ex4 : x4i = Z3 x4) (qx4 : r3 x4) {x5i : Int32} {x5 : Int} (ex5 : x5i = Z3 x5) (qx5 : r3 x5) : SimI OKM (F12_feed_0 h 0 x1i x2i x3i x4i x5i) (G12_feed_0 (rd h) x1 x2 x3 x4 x5) := by
  subst ex1 ex2 ex3 ex4 ex5
  unfold F12_feed_0 G12_feed_0
  refine sm_wt (m_pI_12_2 H l3_0 lr3_0) fun h1 Hh1 => ?_
  refine sm_rd (m_gI_12_1 Hh1).1 ?_
  refine sg3I fun c1 => ?_
  refine sm_if (z3_le (z3_add rfl l3_20) l3_700 c1 lr3_700) ?_ ?_
  · exact S12_feed_23 1024 Hh1 rfl qx1 rfl qx2 rfl qx3 rfl qx4 rfl qx5 l3_0 lr3_0
  · exact sm_retI Hh1 l3_m1 lr3_m1
theorem S12_feed {h : PH} (H : OKM h) {x1i : Int32} {x1 : Int} (ex1 : x1i = Z3 x1) (qx1 : r3 x1) {x2i : Int32} {x2 : Int} (ex2 : x2i = Z3 x2) (qx2 : r3 x2) {x3i : Int32} {x3 : Int} (ex3 : x3i = Z3 x3) (qx3 : r3 x3) {x4i : Int32} {x4 : Int} (ex4 : x4i = Z3 x4) (qx4 : r3 x4) {x5i : Int32} {x5 : Int} (ex5 : x5i = Z3 x5) (qx5 : r3 x5) : SimI OKM (F12_feed h 0 x1i x2i x3i x4i x5i) (G12_feed (rd h) x1 x2 x3 x4 x5) := by
  subst ex1 ex2 ex3 ex4 ex5
  unfold F12_feed G12_feed
  refine sm_cd (m_ok_12 H) ?_
  exact S12_feed_0 H rfl qx1 rfl qx2 rfl qx3 rfl qx4 rfl qx5
theorem S12_find_3 (n : Nat) : ∀ {h : PH} (H : OKM h) {x1i : Int32} {x1 : Int} (ex1 : x1i = Z3 x1) (qx1 : r3 x1) {x2i : Int32} {x2 : Int} (ex2 : x2i = Z3 x2) (qx2 : r3 x2) {x3i : Int32} {x3 : Int} (ex3 : x3i = Z3 x3) (qx3 : r3 x3) {x4i : Int32} {x4 : Int} (ex4 : x4i = Z3 x4) (qx4 : r3 x4), SimI OKM (F12_find_3 n h 5 x1i x2i x3i x4i) (G12_find_3 n (rd h) x1 x2 x3 x4) := by
  induction n with
  | zero => intros; exact smI_none _
  | succ n ih =>
    intro h H x1i x1 ex1 qx1 x2i x2 ex2 qx2 x3i x3 ex3 qx3 x4i x4 ex4 qx4
    subst ex1 ex2 ex3 ex4
    rw [F12_find_3, G12_find_3]
    refine sm_if (z3_le rfl rfl qx2 qx4) ?_ ?_
    · exact sm_retI H l3_m1 lr3_m1
    · refine sgxI fun c1 => ?_
      refine sm_rd (m_aI_12_27 H (z3_add rfl rfl) c1).1 ?_
      refine sm_if (z3_eq rfl rfl (m_aI_12_27 H (z3_add rfl rfl) c1).2 qx3) ?_ ?_
      · exact sm_retI H rfl qx4
      · refine sg3I fun c2 => ?_
        exact ih H rfl qx1 rfl qx2 rfl qx3 (z3_add rfl l3_1) c2
theorem S12_find_0 {h : PH} (H : OKM h) {x1i : Int32} {x1 : Int} (ex1 : x1i = Z3 x1) (qx1 : r3 x1) {x2i : Int32} {x2 : Int} (ex2 : x2i = Z3 x2) (qx2 : r3 x2) {x3i : Int32} {x3 : Int} (ex3 : x3i = Z3 x3) (qx3 : r3 x3) : SimI OKM (F12_find_0 h 5 x1i x2i x3i) (G12_find_0 (rd h) x1 x2 x3) := by
  subst ex1 ex2 ex3
  unfold F12_find_0 G12_find_0
  exact S12_find_3 1024 H rfl qx1 rfl qx2 rfl qx3 l3_0 lr3_0
theorem S12_find {h : PH} (H : OKM h) {x1i : Int32} {x1 : Int} (ex1 : x1i = Z3 x1) (qx1 : r3 x1) {x2i : Int32} {x2 : Int} (ex2 : x2i = Z3 x2) (qx2 : r3 x2) {x3i : Int32} {x3 : Int} (ex3 : x3i = Z3 x3) (qx3 : r3 x3) : SimI OKM (F12_find h 5 x1i x2i x3i) (G12_find (rd h) x1 x2 x3) := by
  subst ex1 ex2 ex3
  unfold F12_find G12_find
  exact S12_find_0 H rfl qx1 rfl qx2 rfl qx3
theorem S12_gaps_31 (n : Nat) : ∀ {h : PH} (H : OKM h) {x1i : Int32} {x1 : Int} (ex1 : x1i = Z3 x1) (qx1 : r3 x1) {x2i : Int32} {x2 : Int} (ex2 : x2i = Z3 x2) (qx2 : r3 x2) {x3i : Int32} {x3 : Int} (ex3 : x3i = Z3 x3) (qx3 : r3 x3) {x4i : Int32} {x4 : Int} (ex4 : x4i = Z3 x4) (qx4 : r3 x4), SimI OKM (F12_gaps_31 n h 0 x1i x2i x3i x4i) (G12_gaps_31 n (rd h) x1 x2 x3 x4) := by
  induction n with
  | zero => intros; exact smI_none _
  | succ n ih =>
    intro h H x1i x1 ex1 qx1 x2i x2 ex2 qx2 x3i x3 ex3 qx3 x4i x4 ex4 qx4
    subst ex1 ex2 ex3 ex4
    rw [F12_gaps_31, G12_gaps_31]
    refine sm_rd (m_gI_12_15 H).1 ?_
    refine sm_if (z3_le rfl rfl (m_gI_12_15 H).2 qx4) ?_ ?_
    · refine sm_if (z3_eq rfl l3_0 qx2 lr3_0) ?_ ?_
      · exact sm_retI H rfl qx3
      · refine sm_rd (m_gI_12_15 H).1 ?_
        refine sm_if (z3_le l3_2 rfl lr3_2 (m_gI_12_15 H).2) ?_ ?_
        · refine sm_rd (m_gI_12_15 H).1 ?_
          refine sg3I fun c1 => ?_
          exact sm_retI H (z3_sub rfl l3_1) c1
        · exact sm_retI H l3_0 lr3_0
    · refine sm_rd (m_gR_12_34 H) ?_
      refine sm_rd (m_gR_12_33 H) ?_
      refine sgxI fun c2 => ?_
      refine sm_rd (m_aI_12_33 H rfl c2).1 ?_
      refine sgxI fun c3 => ?_
      refine sm_rd (m_aI_12_34 H rfl c3).1 ?_
      refine sm_rd (m_gR_12_34 H) ?_
      refine sm_rd (m_gR_12_33 H) ?_
      refine sgxI fun c4 => ?_
      refine sm_rd (m_aI_12_33 H rfl c4).1 ?_
      refine sgxI fun c5 => ?_
      refine sm_rd (m_aI_12_34 H (z3_sub rfl l3_1) c5).1 ?_
      refine sg3I fun c6 => ?_
      refine sm_if (z3_lt rfl (z3_sub rfl rfl) qx1 c6) ?_ ?_
      · refine sg3I fun c7 => ?_
        refine sg3I fun c8 => ?_
        exact ih H rfl qx1 rfl qx2 (z3_add rfl l3_0) c7 (z3_add rfl l3_1) c8
      · refine sg3I fun c9 => ?_
        refine sg3I fun c10 => ?_
        exact ih H rfl qx1 rfl qx2 (z3_add rfl l3_1) c9 (z3_add rfl l3_1) c10
theorem S12_gaps_0 {h : PH} (H : OKM h) {x1i : Int32} {x1 : Int} (ex1 : x1i = Z3 x1) (qx1 : r3 x1) {x2i : Int32} {x2 : Int} (ex2 : x2i = Z3 x2) (qx2 : r3 x2) : SimI OKM (F12_gaps_0 h 0 x1i x2i) (G12_gaps_0 (rd h) x1 x2) := by
  subst ex1 ex2
  unfold F12_gaps_0 G12_gaps_0
  refine sm_wt (m_pI_12_2 H l3_0 lr3_0) fun h1 Hh1 => ?_
  refine sm_II (S12_isIn Hh1 rfl qx1 l3_0 lr3_0 l3_99 lr3_99) fun vo3 ho3 Ho3 ro3 => ?_
  refine sm_if (z3_eq rfl l3_0 ro3 lr3_0) ?_ ?_
  · exact sm_retI Ho3 l3_m1 lr3_m1
  · refine sm_II (S12_isIn Ho3 rfl qx2 l3_0 lr3_0 l3_1 lr3_1) fun vo6 ho6 Ho6 ro6 => ?_
    refine sm_if (z3_eq rfl l3_0 ro6 lr3_0) ?_ ?_
    · exact sm_retI Ho6 l3_m1 lr3_m1
    · exact S12_gaps_31 1024 Ho6 rfl qx1 rfl qx2 l3_0 lr3_0 l3_1 lr3_1
theorem S12_gaps {h : PH} (H : OKM h) {x1i : Int32} {x1 : Int} (ex1 : x1i = Z3 x1) (qx1 : r3 x1) {x2i : Int32} {x2 : Int} (ex2 : x2i = Z3 x2) (qx2 : r3 x2) : SimI OKM (F12_gaps h 0 x1i x2i) (G12_gaps (rd h) x1 x2) := by
  subst ex1 ex2
  unfold F12_gaps G12_gaps
  refine sm_cd (m_ok_12 H) ?_
  exact S12_gaps_0 H rfl qx1 rfl qx2
theorem S12_give_0 {h : PH} (H : OKM h) {x1i : Int32} {x1 : Int} (ex1 : x1i = Z3 x1) (qx1 : r3 x1) {x2i : Int32} {x2 : Int} (ex2 : x2i = Z3 x2) (qx2 : r3 x2) {x3i : Int32} {x3 : Int} (ex3 : x3i = Z3 x3) (qx3 : r3 x3) : SimI OKM (F12_give_0 h 0 x1i x2i x3i) (G12_give_0 (rd h) x1 x2 x3) := by
  subst ex1 ex2 ex3
  unfold F12_give_0 G12_give_0
  refine sm_wt (m_pI_12_2 H l3_0 lr3_0) fun h1 Hh1 => ?_
  refine sm_II (S12_isSurfer Hh1 rfl qx1) fun vo3 ho3 Ho3 ro3 => ?_
  refine sm_if (z3_eq rfl l3_0 ro3 lr3_0) ?_ ?_
  · exact sm_retI Ho3 l3_m1 lr3_m1
  · refine sm_II (S12_isSurfer Ho3 rfl qx2) fun vo6 ho6 Ho6 ro6 => ?_
    refine sm_if (z3_eq rfl l3_0 ro6 lr3_0) ?_ ?_
    · exact sm_retI Ho6 l3_m1 lr3_m1
    · refine sm_if (z3_eq rfl rfl qx1 qx2) ?_ ?_
      · exact sm_retI Ho6 l3_m1 lr3_m1
      · refine sm_II (S12_isIn Ho6 rfl qx3 l3_0 lr3_0 l3_99 lr3_99) fun vo10 ho10 Ho10 ro10 => ?_
        refine sm_if (z3_eq rfl l3_0 ro10 lr3_0) ?_ ?_
        · exact sm_retI Ho10 l3_m1 lr3_m1
        · refine sm_rd (m_gR_12_32 Ho10) ?_
          refine sgxI fun c1 => ?_
          refine sm_rd (m_aI_12_32 Ho10 rfl c1).1 ?_
          refine sg3I fun c2 => ?_
          refine sm_if (z3_le (z3_mul rfl rfl) l3_100 c2 lr3_100) ?_ ?_
          · exact sm_retI Ho10 l3_0 lr3_0
          · exact sm_retI Ho10 l3_1 lr3_1
theorem S12_give {h : PH} (H : OKM h) {x1i : Int32} {x1 : Int} (ex1 : x1i = Z3 x1) (qx1 : r3 x1) {x2i : Int32} {x2 : Int} (ex2 : x2i = Z3 x2) (qx2 : r3 x2) {x3i : Int32} {x3 : Int} (ex3 : x3i = Z3 x3) (qx3 : r3 x3) : SimI OKM (F12_give h 0 x1i x2i x3i) (G12_give (rd h) x1 x2 x3) := by
  subst ex1 ex2 ex3
  unfold F12_give G12_give
  refine sm_cd (m_ok_12 H) ?_
  exact S12_give_0 H rfl qx1 rfl qx2 rfl qx3
theorem S12_isWave_0 {h : PH} (H : OKM h) {x1i : Int32} {x1 : Int} (ex1 : x1i = Z3 x1) (qx1 : r3 x1) : SimI OKM (F12_isWave_0 h 0 x1i) (G12_isWave_0 (rd h) x1) := by
  subst ex1
  unfold F12_isWave_0 G12_isWave_0
  refine sm_if (z3_lt rfl l3_0 qx1 lr3_0) ?_ ?_
  · exact sm_rz H l3_0 (by decide)
  · refine sm_rd (m_gI_12_16 H).1 ?_
    refine sm_if (z3_le rfl rfl (m_gI_12_16 H).2 qx1) ?_ ?_
    · exact sm_rz H l3_0 (by decide)
    · exact sm_rz H l3_1 (by decide)
theorem S12_isWave {h : PH} (H : OKM h) {x1i : Int32} {x1 : Int} (ex1 : x1i = Z3 x1) (qx1 : r3 x1) : SimI OKM (F12_isWave h 0 x1i) (G12_isWave (rd h) x1) := by
  subst ex1
  unfold F12_isWave G12_isWave
  refine sm_cd (m_ok_12 H) ?_
  exact S12_isWave_0 H rfl qx1
theorem S12_isToCome_0 {h : PH} (H : OKM h) {x1i : Int32} {x1 : Int} (ex1 : x1i = Z3 x1) (qx1 : r3 x1) : SimI OKM (F12_isToCome_0 h 0 x1i) (G12_isToCome_0 (rd h) x1) := by
  subst ex1
  unfold F12_isToCome_0 G12_isToCome_0
  refine sm_II (S12_isWave H rfl qx1) fun vo1 ho1 Ho1 ro1 => ?_
  refine sm_if (z3_eq rfl l3_0 ro1 lr3_0) ?_ ?_
  · exact sm_rz Ho1 l3_0 (by decide)
  · refine sm_rd (m_gR_12_60 Ho1) ?_
    refine sgxI fun c1 => ?_
    refine sm_rd (m_aI_12_60 Ho1 rfl c1).1 ?_
    refine sm_if (z3_eq rfl l3_m2 (m_aI_12_60 Ho1 rfl c1).2 lr3_m2) ?_ ?_
    · exact sm_rz Ho1 l3_1 (by decide)
    · exact sm_rz Ho1 l3_0 (by decide)
theorem S12_isToCome {h : PH} (H : OKM h) {x1i : Int32} {x1 : Int} (ex1 : x1i = Z3 x1) (qx1 : r3 x1) : SimI OKM (F12_isToCome h 0 x1i) (G12_isToCome (rd h) x1) := by
  subst ex1
  unfold F12_isToCome G12_isToCome
  refine sm_cd (m_ok_12 H) ?_
  exact S12_isToCome_0 H rfl qx1
theorem S12_go_107 {k54 : PH → Nat → Int32 → Int32 → Int32 → Int32 → Int32 → Int32 → Option (Int32 × PH)} {kk54 : Mem → Int → Int → Int → Int → Int → Int → Option (Int × Mem)} (hk54 : ∀ {h : PH} (_ : OKM h) {x2 : Int32} {y2 : Int} (_ : x2 = Z3 y2) (_ : r3 y2) {x3 : Int32} {y3 : Int} (_ : x3 = Z3 y3) (_ : r3 y3) {x4 : Int32} {y4 : Int} (_ : x4 = Z3 y4) (_ : r3 y4) {x5 : Int32} {y5 : Int} (_ : x5 = Z3 y5) (_ : r3 y5) {x6 : Int32} {y6 : Int} (_ : x6 = Z3 y6) (_ : r3 y6) {x7 : Int32} {y7 : Int} (_ : x7 = Z3 y7) (_ : r3 y7), SimI OKM (k54 h 0 x2 x3 x4 x5 x6 x7) (kk54 (rd h) y2 y3 y4 y5 y6 y7)) {h : PH} (H : OKM h) {x1i : Int32} {x1 : Int} (ex1 : x1i = Z3 x1) (qx1 : r3 x1) {x2i : Int32} {x2 : Int} (ex2 : x2i = Z3 x2) (qx2 : r3 x2) {x3i : Int32} {x3 : Int} (ex3 : x3i = Z3 x3) (qx3 : r3 x3) {x4i : Int32} {x4 : Int} (ex4 : x4i = Z3 x4) (qx4 : r3 x4) {x6i : Int32} {x6 : Int} (ex6 : x6i = Z3 x6) (qx6 : r3 x6) : SimI OKM (F12_go_107 k54 h 0 x1i x2i x3i x4i x6i) (G12_go_107 kk54 (rd h) x1 x2 x3 x4 x6) := by
  subst ex1 ex2 ex3 ex4 ex6
  unfold F12_go_107 G12_go_107
  refine sg3I fun c1 => ?_
  exact hk54 H rfl qx1 rfl qx2 rfl qx3 rfl qx4 l3_1 lr3_1 (z3_add rfl l3_1) c1
theorem S12_go_91 {k54 : PH → Nat → Int32 → Int32 → Int32 → Int32 → Int32 → Int32 → Option (Int32 × PH)} {kk54 : Mem → Int → Int → Int → Int → Int → Int → Option (Int × Mem)} (hk54 : ∀ {h : PH} (_ : OKM h) {x2 : Int32} {y2 : Int} (_ : x2 = Z3 y2) (_ : r3 y2) {x3 : Int32} {y3 : Int} (_ : x3 = Z3 y3) (_ : r3 y3) {x4 : Int32} {y4 : Int} (_ : x4 = Z3 y4) (_ : r3 y4) {x5 : Int32} {y5 : Int} (_ : x5 = Z3 y5) (_ : r3 y5) {x6 : Int32} {y6 : Int} (_ : x6 = Z3 y6) (_ : r3 y6) {x7 : Int32} {y7 : Int} (_ : x7 = Z3 y7) (_ : r3 y7), SimI OKM (k54 h 0 x2 x3 x4 x5 x6 x7) (kk54 (rd h) y2 y3 y4 y5 y6 y7)) {h : PH} (H : OKM h) {x1i : Int32} {x1 : Int} (ex1 : x1i = Z3 x1) (qx1 : r3 x1) {x2i : Int32} {x2 : Int} (ex2 : x2i = Z3 x2) (qx2 : r3 x2) {x3i : Int32} {x3 : Int} (ex3 : x3i = Z3 x3) (qx3 : r3 x3) {x4i : Int32} {x4 : Int} (ex4 : x4i = Z3 x4) (qx4 : r3 x4) {x5i : Int32} {x5 : Int} (ex5 : x5i = Z3 x5) (qx5 : r3 x5) {x6i : Int32} {x6 : Int} (ex6 : x6i = Z3 x6) (qx6 : r3 x6) : SimI OKM (F12_go_91 k54 h 0 x1i x2i x3i x4i x5i x6i) (G12_go_91 kk54 (rd h) x1 x2 x3 x4 x5 x6) := by
  subst ex1 ex2 ex3 ex4 ex5 ex6
  unfold F12_go_91 G12_go_91
  refine sm_if (z3_eq rfl l3_0 qx5 lr3_0) ?_ ?_
  · refine sm_rd (m_gR_12_68 H) ?_
    refine sgxI fun c1 => ?_
    refine sm_rd (m_aI_12_68 H rfl c1).1 ?_
    refine sm_if (z3_eq rfl rfl (m_aI_12_68 H rfl c1).2 qx1) ?_ ?_
    · exact S12_go_107 hk54 H rfl qx1 rfl qx2 rfl qx3 rfl qx4 rfl qx6
    · refine sg3I fun c2 => ?_
      exact hk54 H rfl qx1 rfl qx2 rfl qx3 rfl qx4 l3_0 lr3_0 (z3_add rfl l3_1) c2
  · exact S12_go_107 hk54 H rfl qx1 rfl qx2 rfl qx3 rfl qx4 rfl qx6
theorem S12_go_54 (n : Nat) : ∀ {h : PH} (H : OKM h) {x1i : Int32} {x1 : Int} (ex1 : x1i = Z3 x1) (qx1 : r3 x1) {x2i : Int32} {x2 : Int} (ex2 : x2i = Z3 x2) (qx2 : r3 x2) {x3i : Int32} {x3 : Int} (ex3 : x3i = Z3 x3) (qx3 : r3 x3) {x4i : Int32} {x4 : Int} (ex4 : x4i = Z3 x4) (qx4 : r3 x4) {x5i : Int32} {x5 : Int} (ex5 : x5i = Z3 x5) (qx5 : r3 x5) {x6i : Int32} {x6 : Int} (ex6 : x6i = Z3 x6) (qx6 : r3 x6), SimI OKM (F12_go_54 n h 0 x1i x2i x3i x4i x5i x6i) (G12_go_54 n (rd h) x1 x2 x3 x4 x5 x6) := by
  induction n with
  | zero => intros; exact smI_none _
  | succ n ih =>
    intro h H x1i x1 ex1 qx1 x2i x2 ex2 qx2 x3i x3 ex3 qx3 x4i x4 ex4 qx4 x5i x5 ex5 qx5 x6i x6 ex6 qx6
    subst ex1 ex2 ex3 ex4 ex5 ex6
    rw [F12_go_54, G12_go_54]
    refine sm_rd (m_gI_12_69 H).1 ?_
    refine sm_if (z3_le rfl rfl (m_gI_12_69 H).2 qx6) ?_ ?_
    · refine sm_rd (m_gR_12_55 H) ?_
      refine sgxI fun c1 => ?_
      refine sm_rd (m_aI_12_55 H rfl c1).1 ?_
      refine sm_II (S12_gainOf H rfl qx1 rfl qx2 rfl ((m_aI_12_55 H rfl c1).2)) fun vo8 ho8 Ho8 ro8 => ?_
      refine sg3I fun c2 => ?_
      refine sm_if (z3_le rfl (z3_mul rfl (z3_sub l3_100 rfl)) ro8 c2) ?_ ?_
      · exact sm_retI Ho8 l3_0 lr3_0
      · exact sm_retI Ho8 l3_1 lr3_1
    · refine sm_if (z3_eq rfl l3_0 qx5 lr3_0) ?_ ?_
      · exact S12_go_91 (@fun _ H _ _ ex1 qx1 _ _ ex2 qx2 _ _ ex3 qx3 _ _ ex4 qx4 _ _ ex5 qx5 _ _ ex6 qx6 => ih H ex1 qx1 ex2 qx2 ex3 qx3 ex4 qx4 ex5 qx5 ex6 qx6) H rfl qx1 rfl qx2 rfl qx3 rfl qx4 rfl qx5 rfl qx6
      · refine sm_rd (m_gR_12_31 H) ?_
        refine sm_rd (m_gR_12_68 H) ?_
        refine sgxI fun c3 => ?_
        refine sm_rd (m_aI_12_68 H rfl c3).1 ?_
        refine sgxI fun c4 => ?_
        refine sm_rd (m_aI_12_31 H rfl c4).1 ?_
        refine sg3I fun c5 => ?_
        refine sgdI fun c6 => ?_
        exact S12_go_91 (@fun _ H _ _ ex1 qx1 _ _ ex2 qx2 _ _ ex3 qx3 _ _ ex4 qx4 _ _ ex5 qx5 _ _ ex6 qx6 => ih H ex1 qx1 ex2 qx2 ex3 qx3 ex4 qx4 ex5 qx5 ex6 qx6) H rfl qx1 rfl qx2 rfl qx3 (z3_div (z3_mul rfl (z3_sub l3_100 rfl)) l3_100 c5 lr3_100 c6) (r3_div c5 lr3_100 c6) rfl qx5 rfl qx6
theorem S12_go_0 {h : PH} (H : OKM h) {x1i : Int32} {x1 : Int} (ex1 : x1i = Z3 x1) (qx1 : r3 x1) {x2i : Int32} {x2 : Int} (ex2 : x2i = Z3 x2) (qx2 : r3 x2) {x3i : Int32} {x3 : Int} (ex3 : x3i = Z3 x3) (qx3 : r3 x3) : SimI OKM (F12_go_0 h 0 x1i x2i x3i) (G12_go_0 (rd h) x1 x2 x3) := by
  subst ex1 ex2 ex3
  unfold F12_go_0 G12_go_0
  refine sm_wt (m_pI_12_2 H l3_0 lr3_0) fun h1 Hh1 => ?_
  refine sm_II (S12_isSurfer Hh1 rfl qx1) fun vo3 ho3 Ho3 ro3 => ?_
  refine sm_if (z3_eq rfl l3_0 ro3 lr3_0) ?_ ?_
  · exact sm_retI Ho3 l3_m1 lr3_m1
  · refine sm_II (S12_isToCome Ho3 rfl qx2) fun vo6 ho6 Ho6 ro6 => ?_
    refine sm_if (z3_eq rfl l3_0 ro6 lr3_0) ?_ ?_
    · exact sm_retI Ho6 l3_m1 lr3_m1
    · refine sm_II (S12_isIn Ho6 rfl qx3 l3_0 lr3_0 l3_999 lr3_999) fun vo9 ho9 Ho9 ro9 => ?_
      refine sm_if (z3_eq rfl l3_0 ro9 lr3_0) ?_ ?_
      · exact sm_retI Ho9 l3_m1 lr3_m1
      · refine sm_rd (m_gI_12_64 Ho9).1 ?_
        refine sm_VI (S12_layOrder Ho9 l3_0 lr3_0 rfl qx2 rfl ((m_gI_12_64 Ho9).2)) fun ho14 Ho14 => ?_
        exact S12_go_54 1024 Ho14 rfl qx1 rfl qx2 rfl qx3 l3_100 lr3_100 l3_0 lr3_0 l3_0 lr3_0
theorem S12_go {h : PH} (H : OKM h) {x1i : Int32} {x1 : Int} (ex1 : x1i = Z3 x1) (qx1 : r3 x1) {x2i : Int32} {x2 : Int} (ex2 : x2i = Z3 x2) (qx2 : r3 x2) {x3i : Int32} {x3 : Int} (ex3 : x3i = Z3 x3) (qx3 : r3 x3) : SimI OKM (F12_go h 0 x1i x2i x3i) (G12_go (rd h) x1 x2 x3) := by
  subst ex1 ex2 ex3
  unfold F12_go G12_go
  refine sm_cd (m_ok_12 H) ?_
  exact S12_go_0 H rfl qx1 rfl qx2 rfl qx3
theorem S12_plain_85 (n : Nat) : ∀ {h : PH} (H : OKM h) {x1i : Int32} {x1 : Int} (ex1 : x1i = Z3 x1) (qx1 : r3 x1), SimV OKM (F12_plain_85 n h 0 x1i) (G12_plain_85 n (rd h) x1) := by
  induction n with
  | zero => intros; exact smV_none _
  | succ n ih =>
    intro h H x1i x1 ex1 qx1
    subst ex1
    rw [F12_plain_85, G12_plain_85]
    refine sm_if (z3_le l3_6 rfl lr3_6 qx1) ?_ ?_
    · exact sm_retV H
    · refine sm_rd (m_gR_12_37 H) ?_
      refine sgxV fun c1 => ?_
      refine sgbV fun c2 => ?_
      refine sm_wt (m_sI_12_37 H rfl c1 (z3_bo l3_0 c2) (r3_b c2)) fun h5 Hh5 => ?_
      refine sg3V fun c3 => ?_
      exact ih Hh5 (z3_add rfl l3_1) c3
theorem S12_plain_64 (n : Nat) : ∀ {h : PH} (H : OKM h) {x1i : Int32} {x1 : Int} (ex1 : x1i = Z3 x1) (qx1 : r3 x1), SimV OKM (F12_plain_64 n h 0 x1i) (G12_plain_64 n (rd h) x1) := by
  induction n with
  | zero => intros; exact smV_none _
  | succ n ih =>
    intro h H x1i x1 ex1 qx1
    subst ex1
    rw [F12_plain_64, G12_plain_64]
    refine sm_if (z3_le l3_14 rfl lr3_14 qx1) ?_ ?_
    · exact S12_plain_85 1024 H l3_3 lr3_3
    · refine sm_rd (m_gR_12_26 H) ?_
      refine sgxV fun c1 => ?_
      refine sm_wt (m_sI_12_26 H rfl c1 l3_0 lr3_0) fun h5 Hh5 => ?_
      refine sg3V fun c2 => ?_
      exact ih Hh5 (z3_add rfl l3_1) c2
theorem S12_plain_43 (n : Nat) : ∀ {h : PH} (H : OKM h) {x1i : Int32} {x1 : Int} (ex1 : x1i = Z3 x1) (qx1 : r3 x1), SimV OKM (F12_plain_43 n h 0 x1i) (G12_plain_43 n (rd h) x1) := by
  induction n with
  | zero => intros; exact smV_none _
  | succ n ih =>
    intro h H x1i x1 ex1 qx1
    subst ex1
    rw [F12_plain_43, G12_plain_43]
    refine sm_if (z3_le l3_5 rfl lr3_5 qx1) ?_ ?_
    · exact S12_plain_64 1024 H l3_7 lr3_7
    · refine sm_rd (m_gR_12_25 H) ?_
      refine sgxV fun c1 => ?_
      refine sgbV fun c2 => ?_
      refine sm_wt (m_sI_12_25 H rfl c1 (z3_bo l3_0 c2) (r3_b c2)) fun h5 Hh5 => ?_
      refine sg3V fun c3 => ?_
      exact ih Hh5 (z3_add rfl l3_1) c3
theorem S12_plain_0 {h : PH} (H : OKM h) : SimV OKM (F12_plain_0 h 0) (G12_plain_0 (rd h)) := by
  unfold F12_plain_0 G12_plain_0
  refine sm_wt (m_pI_12_18 H l3_6 lr3_6) fun h1 Hh1 => ?_
  refine sm_wt (m_pI_12_19 Hh1 l3_4 lr3_4) fun h3 Hh3 => ?_
  refine sm_wt (m_pI_12_20 Hh3 l3_0 lr3_0) fun h5 Hh5 => ?_
  refine sm_wt (m_pI_12_21 Hh5 l3_0 lr3_0) fun h7 Hh7 => ?_
  refine sm_wt (m_pI_12_22 Hh7 l3_0 lr3_0) fun h9 Hh9 => ?_
  refine sm_wt (m_pI_12_23 Hh9 l3_0 lr3_0) fun h11 Hh11 => ?_
  refine sm_wt (m_pI_12_49 Hh11 l3_0 lr3_0) fun h13 Hh13 => ?_
  refine sm_wt (m_pZ_12_24 Hh13 l3_0 (by decide)) fun h15 Hh15 => ?_
  exact S12_plain_43 1024 Hh15 l3_0 lr3_0
theorem S12_plain {h : PH} (H : OKM h) : SimV OKM (F12_plain h 0) (G12_plain (rd h)) := by
  unfold F12_plain G12_plain
  refine sm_cd (m_ok_12 H) ?_
  exact S12_plain_0 H
theorem S12_keepText_142 (n : Nat) : ∀ {h : PH} (H : OKM h) {x1i : Int32} {x1 : Int} (ex1 : x1i = Z3 x1) (qx1 : r3 x1), SimV OKM (F12_keepText_142 n h 0 x1i) (G12_keepText_142 n (rd h) x1) := by
  induction n with
  | zero => intros; exact smV_none _
  | succ n ih =>
    intro h H x1i x1 ex1 qx1
    subst ex1
    rw [F12_keepText_142, G12_keepText_142]
    refine sm_if (z3_le l3_3 rfl lr3_3 qx1) ?_ ?_
    · refine sm_rd (m_gR_12_38 H) ?_
      refine sm_VV (S12_copies H (anyM_16) l3_3 lr3_3) fun ho4 Ho4 => ?_
      refine sm_rd (m_gR_12_39 Ho4) ?_
      refine sm_VV (S12_copies Ho4 (anyM_17) l3_3 lr3_3) fun ho8 Ho8 => ?_
      refine sm_rd (m_gR_12_40 Ho8) ?_
      refine sm_VV (S12_copies Ho8 (anyM_18) l3_64 lr3_64) fun ho12 Ho12 => ?_
      refine sm_rd (m_gR_12_41 Ho12) ?_
      refine sm_VV (S12_copies Ho12 (anyM_19) l3_64 lr3_64) fun ho16 Ho16 => ?_
      refine sm_rd (m_gR_12_42 Ho16) ?_
      refine sm_VV (S12_copies Ho16 (anyM_20) l3_64 lr3_64) fun ho20 Ho20 => ?_
      refine sm_VV (S12_begin Ho20) fun ho22 Ho22 => ?_
      exact sm_retV Ho22
    · refine sm_rd (m_gR_12_37 H) ?_
      refine sm_rd (m_gR_12_37 H) ?_
      refine sgxV fun c1 => ?_
      refine sm_rd (m_aI_12_37 H (z3_add l3_3 rfl) c1).1 ?_
      refine sgxV fun c2 => ?_
      refine sgbV fun c3 => ?_
      refine sm_wt (m_sI_12_37 H rfl c2 (z3_bo rfl c3) (r3_b c3)) fun h31 Hh31 => ?_
      refine sg3V fun c4 => ?_
      exact ih Hh31 (z3_add rfl l3_1) c4
