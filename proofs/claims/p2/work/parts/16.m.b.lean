section
variable {p : Program} {l : Launch} {e : Env} {s : State} {m : MethodId} {args : Array Value} {below : List Frame} {meth : Method} {c : Code} {D : va_G} {cy : Nat → ClassId} {b : Nat} {A : Nat → Prop} {fl : Bool}
def vX11_plan : List Cond := .code yX11_plan cX11_plan 2 (some .int) :: TB
theorem gX11_plan_X11_isSurfer : GoodIn vX11_plan (wsV RX11 115 RX11 yX11_isSurfer vX11_isSurfer) := gV_of wT_33_17 wT_33_18 wT_33_19 wT_1_2 wT_33_20
theorem lf11_plan_74 : Fl vX11_plan RX11 74 11 13 := ⟨RX11, TX11, 14, rfl, by decide, (fun w h9 => List.mem_cons_of_mem _ (wC_wsX110 w h9)), (List.mem_cons_of_mem _ wT_2_22)⟩
theorem lf11_plan_37 : Fl vX11_plan RX11 37 11 5 := ⟨RX11, TX11, 14, rfl, by decide, (fun w h9 => List.mem_cons_of_mem _ (wC_wsX110 w h9)), (List.mem_cons_of_mem _ wT_2_3)⟩
theorem lf11_plan_47 : Fl vX11_plan RX11 47 11 7 := ⟨RX11, TX11, 14, rfl, by decide, (fun w h9 => List.mem_cons_of_mem _ (wC_wsX110 w h9)), (List.mem_cons_of_mem _ wT_2_8)⟩
theorem gX11_plan_X0_makePlan : GoodIn vX11_plan (wsV RX11 262 RX0 yX0_makePlan vX0_makePlan) := gV_of wT_54_14 wT_54_15 wT_54_16 wT_2_21 wT_54_17
theorem lf11_plan_266 : Fl vX11_plan RX11 266 0 12 := ⟨RX0, TX0, 13, rfl, by decide, (fun w h9 => List.mem_cons_of_mem _ (wC_wsX00 w h9)), (List.mem_cons_of_mem _ wT_54_13)⟩
theorem cd11_plan : Cd yX11_plan 1 := ⟨by decide, by decide, by decide +kernel⟩
set_option maxHeartbeats 4000000 in
set_option maxRecDepth 100000 in
theorem T11_plan_0 (S : CallFix p m c cX11_plan 2 s args vX11_plan RX11) (hr : meth.sig.returnType = (some .int)) (hlo : meth.locks = false) {out : Int32 × PH} {h : PH} {a0 : Nat} {x1 : Int32} (f : F11_plan_0  h a0 x1 = some out) {H : Heap} {locs : List Loc} (I : ph_I D cy b A fl h s H locs) {ls : Array Slot} (hl : lv_has ls 2 [(0, .ref (b + a0)), (1, .int x1)]) : W p l e ({ frames := 6, cells := 0, slots := 0, locals := 153 } : Room) s m args below meth c H locs 0 0 (MQ below (va_Qi (fun (r : Int32) (u : PH) => (r, u) = out) (ph_B D cy b A fl) A) args s 0 0 A) (F0 m 0 ls []) := by
  unfold F11_plan_0 at f
  refine lv_aload_n S.1 S.2.1 dX11_plan_0 rfl (lv_at hl 0 rfl) ?_
  refine lv_iload_n S.1 S.2.1 dX11_plan_1 rfl (lv_at hl 1 rfl) ?_
  obtain ⟨o1, e2, f⟩ := ob f
  refine o_Vi S (As := [.int x1]) (rest := []) (ci := 11) (M11_isSurfer l D cy b A fl e2) gX11_plan_X11_isSurfer rfl rfl rfl cd11_isSurfer ⟨Nat.le_of_ble_eq_true rfl, Nat.le_of_ble_eq_true rfl⟩ I (gd e2).1 clX11 rfl rfl hl.1 rfl (Nat.le_of_ble_eq_true rfl) dX11_plan_2 ⟨Nat.le_of_ble_eq_true rfl, Nat.le_of_ble_eq_true rfl⟩ (fun H locs I => ?_)
  refine lv_if_ne (tgt := 10) S.1 S.2.1 dX11_plan_5 (by decide) (fun q3 => ?_) (fun q3 => ?_)
  · have f := (if_neg q3).symm.trans f
    refine lv_aload_n S.1 S.2.1 dX11_plan_10 rfl (lv_at hl 0 rfl) ?_
    obtain ⟨r4, e5, f⟩ := ob f
    refine o_gR S lf11_plan_74 I e5 dX11_plan_11 ?_
    refine lv_aload_n S.1 S.2.1 dX11_plan_14 rfl (lv_at hl 0 rfl) ?_
    obtain ⟨r6, e7, f⟩ := ob f
    refine o_gR S lf11_plan_37 I e7 dX11_plan_15 ?_
    refine lv_aload_n S.1 S.2.1 dX11_plan_18 rfl (lv_at hl 0 rfl) ?_
    obtain ⟨r8, e9, f⟩ := ob f
    refine o_gR S lf11_plan_47 I e9 dX11_plan_19 ?_
    refine lv_iload_n S.1 S.2.1 dX11_plan_22 rfl (lv_at hl 1 rfl) ?_
    obtain ⟨o10, e11, f⟩ := ob f
    refine o_Vv S (As := [.ref (b + r6), .ref (b + r8), .int x1]) (rest := []) (ci := 0) (M0_makePlan l D cy b A fl e11) gX11_plan_X0_makePlan rfl rfl rfl cd0_makePlan ⟨Nat.le_of_ble_eq_true rfl, Nat.le_of_ble_eq_true rfl⟩ I (gd e11).1 clX0 rfl rfl hl.1 rfl (Nat.le_of_ble_eq_true rfl) dX11_plan_23 ⟨Nat.le_of_ble_eq_true rfl, Nat.le_of_ble_eq_true rfl⟩ (fun H locs I => ?_)
    refine lv_aload_n S.1 S.2.1 dX11_plan_26 rfl (lv_at hl 0 rfl) ?_
    obtain ⟨r12, e13, f⟩ := ob f
    refine o_gR S lf11_plan_74 I e13 dX11_plan_27 ?_
    obtain ⟨v14, e15, f⟩ := ob f
    refine o_gI S lf11_plan_266 I e15 dX11_plan_30 ?_
    exact o_iret S hr hlo I f dX11_plan_33
  · have f := (if_pos q3).symm.trans f
    refine lv_iconst (v := (-1)) S.1 S.2.1 dX11_plan_8 (by decide) ?_
    exact o_iret S hr hlo I f dX11_plan_9
theorem M11_plan (l : Launch) (D : va_G) (cy : Nat → ClassId) (b : Nat) (A : Nat → Prop) (fl : Bool) {h : PH} {a0 : Nat} {x1 : Int32} {out : Int32 × PH} (f : F11_plan h a0 x1 = some out) : Met l yX11_plan vX11_plan ({ frames := 6, cells := 0, slots := 0, locals := 153 } : Room) (va_Pc [.ref (b + a0), .int x1] (ph_B D cy b A fl h)) (va_Qi (fun (r : Int32) (u : PH) => (r, u) = out) (ph_B D cy b A fl) A) 0 0 A :=
  o_met (by decide) rfl (Nat.le_of_ble_eq_true rfl) rfl (fun p e s m below meth c S hr hlo hnm ls hl I => T11_plan_0 S hr hlo ((gd f).2) I (lv_sub hl [0, 1] rfl))
def vX11_planned : List Cond := .code yX11_planned cX11_planned 3 (some .int) :: TB
theorem gX11_planned_X11_isSurfer : GoodIn vX11_planned (wsV RX11 115 RX11 yX11_isSurfer vX11_isSurfer) := gV_of wT_33_17 wT_33_18 wT_33_19 wT_1_2 wT_33_20
theorem lf11_planned_74 : Fl vX11_planned RX11 74 11 13 := ⟨RX11, TX11, 14, rfl, by decide, (fun w h9 => List.mem_cons_of_mem _ (wC_wsX110 w h9)), (List.mem_cons_of_mem _ wT_2_22)⟩
theorem lf11_planned_37 : Fl vX11_planned RX11 37 11 5 := ⟨RX11, TX11, 14, rfl, by decide, (fun w h9 => List.mem_cons_of_mem _ (wC_wsX110 w h9)), (List.mem_cons_of_mem _ wT_2_3)⟩
theorem lf11_planned_47 : Fl vX11_planned RX11 47 11 7 := ⟨RX11, TX11, 14, rfl, by decide, (fun w h9 => List.mem_cons_of_mem _ (wC_wsX110 w h9)), (List.mem_cons_of_mem _ wT_2_8)⟩
theorem gX11_planned_X0_makePlan : GoodIn vX11_planned (wsV RX11 262 RX0 yX0_makePlan vX0_makePlan) := gV_of wT_54_14 wT_54_15 wT_54_16 wT_2_21 wT_54_17
theorem lf11_planned_269 : Fl vX11_planned RX11 269 0 11 := ⟨RX0, TX0, 13, rfl, by decide, (fun w h9 => List.mem_cons_of_mem _ (wC_wsX00 w h9)), (List.mem_cons_of_mem _ wT_55_19)⟩
theorem lf11_planned_272 : Fl vX11_planned RX11 272 0 10 := ⟨RX0, TX0, 13, rfl, by decide, (fun w h9 => List.mem_cons_of_mem _ (wC_wsX00 w h9)), (List.mem_cons_of_mem _ wT_55_20)⟩
theorem cd11_planned : Cd yX11_planned 2 := ⟨by decide, by decide, by decide +kernel⟩
set_option maxHeartbeats 4000000 in
set_option maxRecDepth 100000 in
theorem T11_planned_0 (S : CallFix p m c cX11_planned 3 s args vX11_planned RX11) (hr : meth.sig.returnType = (some .int)) (hlo : meth.locks = false) {out : Int32 × PH} {h : PH} {a0 : Nat} {x1 : Int32} {x2 : Int32} (f : F11_planned_0  h a0 x1 x2 = some out) {H : Heap} {locs : List Loc} (I : ph_I D cy b A fl h s H locs) {ls : Array Slot} (hl : lv_has ls 3 [(0, .ref (b + a0)), (1, .int x1), (2, .int x2)]) : W p l e ({ frames := 6, cells := 0, slots := 0, locals := 153 } : Room) s m args below meth c H locs 0 0 (MQ below (va_Qi (fun (r : Int32) (u : PH) => (r, u) = out) (ph_B D cy b A fl) A) args s 0 0 A) (F0 m 0 ls []) := by
  unfold F11_planned_0 at f
  refine lv_aload_n S.1 S.2.1 dX11_planned_0 rfl (lv_at hl 0 rfl) ?_
  refine lv_iload_n S.1 S.2.1 dX11_planned_1 rfl (lv_at hl 1 rfl) ?_
  obtain ⟨o1, e2, f⟩ := ob f
  refine o_Vi S (As := [.int x1]) (rest := []) (ci := 11) (M11_isSurfer l D cy b A fl e2) gX11_planned_X11_isSurfer rfl rfl rfl cd11_isSurfer ⟨Nat.le_of_ble_eq_true rfl, Nat.le_of_ble_eq_true rfl⟩ I (gd e2).1 clX11 rfl rfl hl.1 rfl (Nat.le_of_ble_eq_true rfl) dX11_planned_2 ⟨Nat.le_of_ble_eq_true rfl, Nat.le_of_ble_eq_true rfl⟩ (fun H locs I => ?_)
  refine lv_if_eq (tgt := 12) S.1 S.2.1 dX11_planned_5 (by decide) (fun q3 => ?_) (fun q3 => ?_)
  · have f := (if_pos q3).symm.trans f
    refine lv_iconst (v := (-1)) S.1 S.2.1 dX11_planned_12 (by decide) ?_
    exact o_iret S hr hlo I f dX11_planned_13
  · have f := (if_neg q3).symm.trans f
    refine lv_iload_n S.1 S.2.1 dX11_planned_8 rfl (lv_at hl 2 rfl) ?_
    refine lv_if_ge (tgt := 14) S.1 S.2.1 dX11_planned_9 (by decide) (fun q4 => ?_) (fun q4 => ?_)
    · have f := (if_pos q4).symm.trans f
      refine lv_aload_n S.1 S.2.1 dX11_planned_14 rfl (lv_at hl 0 rfl) ?_
      obtain ⟨r5, e6, f⟩ := ob f
      refine o_gR S lf11_planned_74 I e6 dX11_planned_15 ?_
      refine lv_aload_n S.1 S.2.1 dX11_planned_18 rfl (lv_at hl 0 rfl) ?_
      obtain ⟨r7, e8, f⟩ := ob f
      refine o_gR S lf11_planned_37 I e8 dX11_planned_19 ?_
      refine lv_aload_n S.1 S.2.1 dX11_planned_22 rfl (lv_at hl 0 rfl) ?_
      obtain ⟨r9, e10, f⟩ := ob f
      refine o_gR S lf11_planned_47 I e10 dX11_planned_23 ?_
      refine lv_iload_n S.1 S.2.1 dX11_planned_26 rfl (lv_at hl 1 rfl) ?_
      obtain ⟨o11, e12, f⟩ := ob f
      refine o_Vv S (As := [.ref (b + r7), .ref (b + r9), .int x1]) (rest := []) (ci := 0) (M0_makePlan l D cy b A fl e12) gX11_planned_X0_makePlan rfl rfl rfl cd0_makePlan ⟨Nat.le_of_ble_eq_true rfl, Nat.le_of_ble_eq_true rfl⟩ I (gd e12).1 clX0 rfl rfl hl.1 rfl (Nat.le_of_ble_eq_true rfl) dX11_planned_27 ⟨Nat.le_of_ble_eq_true rfl, Nat.le_of_ble_eq_true rfl⟩ (fun H locs I => ?_)
      refine lv_iload_n S.1 S.2.1 dX11_planned_30 rfl (lv_at hl 2 rfl) ?_
      refine lv_aload_n S.1 S.2.1 dX11_planned_31 rfl (lv_at hl 0 rfl) ?_
      obtain ⟨r13, e14, f⟩ := ob f
      refine o_gR S lf11_planned_74 I e14 dX11_planned_32 ?_
      obtain ⟨v15, e16, f⟩ := ob f
      refine o_gI S lf11_planned_269 I e16 dX11_planned_35 ?_
      refine lv_icmp_ge (tgt := 53) S.1 S.2.1 dX11_planned_38 (by decide) (fun q17 => ?_) (fun q17 => ?_)
      · have f := (if_pos q17).symm.trans f
        refine lv_bipush (v := (-2)) S.1 S.2.1 dX11_planned_53 (by decide) ?_
        exact o_iret S hr hlo I f dX11_planned_55
      · have f := (if_neg q17).symm.trans f
        refine lv_aload_n S.1 S.2.1 dX11_planned_41 rfl (lv_at hl 0 rfl) ?_
        obtain ⟨r18, e19, f⟩ := ob f
        refine o_gR S lf11_planned_74 I e19 dX11_planned_42 ?_
        obtain ⟨r20, e21, f⟩ := ob f
        refine o_gR S lf11_planned_272 I e21 dX11_planned_45 ?_
        refine lv_iload_n S.1 S.2.1 dX11_planned_48 rfl (lv_at hl 2 rfl) ?_
        obtain ⟨v23, e22, f⟩ := ob f
        refine o_iald S I e22 dX11_planned_49 ?_
        refine lv_goto (tgt := 55) S.1 S.2.1 dX11_planned_50 (by decide) ?_
        exact o_iret S hr hlo I f dX11_planned_55
    · have f := (if_neg q4).symm.trans f
      refine lv_iconst (v := (-1)) S.1 S.2.1 dX11_planned_12 (by decide) ?_
      exact o_iret S hr hlo I f dX11_planned_13
theorem M11_planned (l : Launch) (D : va_G) (cy : Nat → ClassId) (b : Nat) (A : Nat → Prop) (fl : Bool) {h : PH} {a0 : Nat} {x1 : Int32} {x2 : Int32} {out : Int32 × PH} (f : F11_planned h a0 x1 x2 = some out) : Met l yX11_planned vX11_planned ({ frames := 6, cells := 0, slots := 0, locals := 153 } : Room) (va_Pc [.ref (b + a0), .int x1, .int x2] (ph_B D cy b A fl h)) (va_Qi (fun (r : Int32) (u : PH) => (r, u) = out) (ph_B D cy b A fl) A) 0 0 A :=
  o_met (by decide) rfl (Nat.le_of_ble_eq_true rfl) rfl (fun p e s m below meth c S hr hlo hnm ls hl I => T11_planned_0 S hr hlo ((gd f).2) I (lv_sub hl [0, 1, 2] rfl))
def vX11_rank : List Cond := .code yX11_rank cX11_rank 5 (some .int) :: TB
theorem lf11_rank_18 : Fl vX11_rank RX11 18 11 3 := ⟨RX11, TX11, 14, rfl, by decide, (fun w h9 => List.mem_cons_of_mem _ (wC_wsX110 w h9)), (List.mem_cons_of_mem _ wT_1_18)⟩
theorem lf11_rank_150 : Fl vX11_rank RX11 150 8 5 := ⟨RX8, TX8, 14, rfl, by decide, (fun w h9 => List.mem_cons_of_mem _ (wC_wsX80 w h9)), (List.mem_cons_of_mem _ wT_36_16)⟩
theorem lf11_rank_253 : Fl vX11_rank RX11 253 10 0 := ⟨RX10, TX10, 8, rfl, by decide, (fun w h9 => List.mem_cons_of_mem _ (wC_wsX100 w h9)), (List.mem_cons_of_mem _ wT_53_16)⟩
theorem gX11_rank_X10_lengthOf : GoodIn vX11_rank (wsV RX11 256 RX10 yX10_lengthOf vX10_lengthOf) := gV_of wT_53_17 wT_53_18 wT_53_19 wT_3_9 wT_53_20
theorem gX11_rank_X10_isLargest : GoodIn vX11_rank (wsV RX11 259 RX10 yX10_isLargest vX10_isLargest) := gV_of wT_53_21 wT_53_22 wT_53_23 wT_3_9 wT_54_0
theorem cd11_rank : Cd yX11_rank 2 := ⟨by decide, by decide, by decide +kernel⟩
set_option maxHeartbeats 4000000 in
set_option maxRecDepth 100000 in
theorem T11_rank_27 (S : CallFix p m c cX11_rank 5 s args vX11_rank RX11) (hr : meth.sig.returnType = (some .int)) (hlo : meth.locks = false) {out : Int32 × PH} : ∀ (n : Nat) {h : PH} {a0 : Nat} {x1 : Int32} {x2 : Int32} {x3 : Int32} {x4 : Int32} (f : F11_rank_27  n h a0 x1 x2 x3 x4 = some out) {H : Heap} {locs : List Loc} (I : ph_I D cy b A fl h s H locs) {ls : Array Slot} (hl : lv_has ls 5 [(0, .ref (b + a0)), (1, .int x1), (2, .int x2), (3, .int x3), (4, .int x4)]), W p l e ({ frames := 1, cells := 0, slots := 0, locals := 24 } : Room) s m args below meth c H locs 0 0 (MQ below (va_Qi (fun (r : Int32) (u : PH) => (r, u) = out) (ph_B D cy b A fl) A) args s 0 0 A) (F0 m 27 ls []) := by
  intro n
  induction n with
  | zero => intro h a0 x1 x2 x3 x4 f; rw [F11_rank_27] at f; cases f
  | succ n ih =>
    intro h a0 x1 x2 x3 x4 f H locs I ls hl
    rw [F11_rank_27] at f
    refine lv_iload S.1 S.2.1 dX11_rank_27 (lv_at hl 4 rfl) ?_
    refine lv_aload_n S.1 S.2.1 dX11_rank_29 rfl (lv_at hl 0 rfl) ?_
    obtain ⟨r1, e2, f⟩ := ob f
    refine o_gR S lf11_rank_18 I e2 dX11_rank_30 ?_
    obtain ⟨r3, e4, f⟩ := ob f
    refine o_gR S lf11_rank_150 I e4 dX11_rank_33 ?_
    obtain ⟨v5, e6, f⟩ := ob f
    refine o_gI S lf11_rank_253 I e6 dX11_rank_36 ?_
    refine lv_icmp_ge (tgt := 88) S.1 S.2.1 dX11_rank_39 (by decide) (fun q7 => ?_) (fun q7 => ?_)
    · have f := (if_pos q7).symm.trans f
      refine lv_iload_n S.1 S.2.1 dX11_rank_88 rfl (lv_at hl 3 rfl) ?_
      exact o_iret S hr hlo I f dX11_rank_89
    · have f := (if_neg q7).symm.trans f
      refine lv_aload_n S.1 S.2.1 dX11_rank_42 rfl (lv_at hl 0 rfl) ?_
      obtain ⟨r8, e9, f⟩ := ob f
      refine o_gR S lf11_rank_18 I e9 dX11_rank_43 ?_
      obtain ⟨r10, e11, f⟩ := ob f
      refine o_gR S lf11_rank_150 I e11 dX11_rank_46 ?_
      refine lv_iload S.1 S.2.1 dX11_rank_49 (lv_at hl 4 rfl) ?_
      obtain ⟨o12, e13, f⟩ := ob f
      refine o_Vi S (As := [.int x4]) (rest := []) (ci := 10) (M10_lengthOf l D cy b A fl e13) gX11_rank_X10_lengthOf rfl rfl rfl cd10_lengthOf ⟨Nat.le_of_ble_eq_true rfl, Nat.le_of_ble_eq_true rfl⟩ I (gd e13).1 clX10 rfl rfl hl.1 rfl (Nat.le_of_ble_eq_true rfl) dX11_rank_51 ⟨Nat.le_of_ble_eq_true rfl, Nat.le_of_ble_eq_true rfl⟩ (fun H locs I => ?_)
      refine lv_iload_n S.1 S.2.1 dX11_rank_54 rfl (lv_at hl 1 rfl) ?_
      refine lv_icmp_lt (tgt := 82) S.1 S.2.1 dX11_rank_55 (by decide) (fun q14 => ?_) (fun q14 => ?_)
      · have f := (if_pos q14).symm.trans f
        refine lv_iinc (v := (x4 + 1)) (lv' := [(4, .int (x4 + 1)), (0, .ref (b + a0)), (1, .int x1), (2, .int x2), (3, .int x3)]) S.1 S.2.1 dX11_rank_82 hl (k := 4) rfl (congrArg (fun z => x4 + z) (by decide)) (by decide) rfl (fun ls hl => ?_)
        refine lv_goto (tgt := 27) S.1 S.2.1 dX11_rank_85 (by decide) ?_
        exact ih f I (lv_sub hl [1, 2, 3, 4, 0] rfl)
      · have f := (if_neg q14).symm.trans f
        refine lv_iload_n S.1 S.2.1 dX11_rank_58 rfl (lv_at hl 2 rfl) ?_
        refine lv_iconst (v := 1) S.1 S.2.1 dX11_rank_59 (by decide) ?_
        refine lv_icmp_eq (tgt := 79) S.1 S.2.1 dX11_rank_60 (by decide) (fun q15 => ?_) (fun q15 => ?_)
        · have f := (if_pos q15).symm.trans f
          refine lv_iinc (v := (x3 + 1)) (lv' := [(3, .int (x3 + 1)), (0, .ref (b + a0)), (1, .int x1), (2, .int x2), (4, .int x4)]) S.1 S.2.1 dX11_rank_79 hl (k := 3) rfl (congrArg (fun z => x3 + z) (by decide)) (by decide) rfl (fun ls hl => ?_)
          refine lv_iinc (v := (x4 + 1)) (lv' := [(4, .int (x4 + 1)), (3, .int (x3 + 1)), (0, .ref (b + a0)), (1, .int x1), (2, .int x2)]) S.1 S.2.1 dX11_rank_82 hl (k := 4) rfl (congrArg (fun z => x4 + z) (by decide)) (by decide) rfl (fun ls hl => ?_)
          refine lv_goto (tgt := 27) S.1 S.2.1 dX11_rank_85 (by decide) ?_
          exact ih f I (lv_sub hl [2, 3, 4, 1, 0] rfl)
        · have f := (if_neg q15).symm.trans f
          refine lv_aload_n S.1 S.2.1 dX11_rank_63 rfl (lv_at hl 0 rfl) ?_
          obtain ⟨r16, e17, f⟩ := ob f
          refine o_gR S lf11_rank_18 I e17 dX11_rank_64 ?_
          obtain ⟨r18, e19, f⟩ := ob f
          refine o_gR S lf11_rank_150 I e19 dX11_rank_67 ?_
          refine lv_iload S.1 S.2.1 dX11_rank_70 (lv_at hl 4 rfl) ?_
          refine lv_iload_n S.1 S.2.1 dX11_rank_72 rfl (lv_at hl 1 rfl) ?_
          obtain ⟨o20, e21, f⟩ := ob f
          refine o_Vi S (As := [.int x4, .int x1]) (rest := []) (ci := 10) (M10_isLargest l D cy b A fl e21) gX11_rank_X10_isLargest rfl rfl rfl cd10_isLargest ⟨Nat.le_of_ble_eq_true rfl, Nat.le_of_ble_eq_true rfl⟩ I (gd e21).1 clX10 rfl rfl hl.1 rfl (Nat.le_of_ble_eq_true rfl) dX11_rank_73 ⟨Nat.le_of_ble_eq_true rfl, Nat.le_of_ble_eq_true rfl⟩ (fun H locs I => ?_)
          refine lv_if_eq (tgt := 82) S.1 S.2.1 dX11_rank_76 (by decide) (fun q22 => ?_) (fun q22 => ?_)
          · have f := (if_pos q22).symm.trans f
            refine lv_iinc (v := (x4 + 1)) (lv' := [(4, .int (x4 + 1)), (0, .ref (b + a0)), (1, .int x1), (2, .int x2), (3, .int x3)]) S.1 S.2.1 dX11_rank_82 hl (k := 4) rfl (congrArg (fun z => x4 + z) (by decide)) (by decide) rfl (fun ls hl => ?_)
            refine lv_goto (tgt := 27) S.1 S.2.1 dX11_rank_85 (by decide) ?_
            exact ih f I (lv_sub hl [1, 2, 3, 4, 0] rfl)
          · have f := (if_neg q22).symm.trans f
            refine lv_iinc (v := (x3 + 1)) (lv' := [(3, .int (x3 + 1)), (0, .ref (b + a0)), (1, .int x1), (2, .int x2), (4, .int x4)]) S.1 S.2.1 dX11_rank_79 hl (k := 3) rfl (congrArg (fun z => x3 + z) (by decide)) (by decide) rfl (fun ls hl => ?_)
            refine lv_iinc (v := (x4 + 1)) (lv' := [(4, .int (x4 + 1)), (3, .int (x3 + 1)), (0, .ref (b + a0)), (1, .int x1), (2, .int x2)]) S.1 S.2.1 dX11_rank_82 hl (k := 4) rfl (congrArg (fun z => x4 + z) (by decide)) (by decide) rfl (fun ls hl => ?_)
            refine lv_goto (tgt := 27) S.1 S.2.1 dX11_rank_85 (by decide) ?_
            exact ih f I (lv_sub hl [2, 3, 4, 1, 0] rfl)
set_option maxHeartbeats 4000000 in
set_option maxRecDepth 100000 in
theorem T11_rank_0 (S : CallFix p m c cX11_rank 5 s args vX11_rank RX11) (hr : meth.sig.returnType = (some .int)) (hlo : meth.locks = false) {out : Int32 × PH} {h : PH} {a0 : Nat} {x1 : Int32} {x2 : Int32} (f : F11_rank_0  h a0 x1 x2 = some out) {H : Heap} {locs : List Loc} (I : ph_I D cy b A fl h s H locs) {ls : Array Slot} (hl : lv_has ls 5 [(0, .ref (b + a0)), (1, .int x1), (2, .int x2)]) : W p l e ({ frames := 1, cells := 0, slots := 0, locals := 24 } : Room) s m args below meth c H locs 0 0 (MQ below (va_Qi (fun (r : Int32) (u : PH) => (r, u) = out) (ph_B D cy b A fl) A) args s 0 0 A) (F0 m 0 ls []) := by
  unfold F11_rank_0 at f
  refine lv_iload_n S.1 S.2.1 dX11_rank_0 rfl (lv_at hl 1 rfl) ?_
  refine lv_iconst (v := 1) S.1 S.2.1 dX11_rank_1 (by decide) ?_
  refine lv_icmp_lt (tgt := 20) S.1 S.2.1 dX11_rank_2 (by decide) (fun q1 => ?_) (fun q1 => ?_)
  · have f := (if_pos q1).symm.trans f
    refine lv_iconst (v := (-1)) S.1 S.2.1 dX11_rank_20 (by decide) ?_
    exact o_iret S hr hlo I f dX11_rank_21
  · have f := (if_neg q1).symm.trans f
    refine lv_iload_n S.1 S.2.1 dX11_rank_5 rfl (lv_at hl 1 rfl) ?_
    refine lv_bipush (v := 7) S.1 S.2.1 dX11_rank_6 (by decide) ?_
    refine lv_icmp_gt (tgt := 20) S.1 S.2.1 dX11_rank_8 (by decide) (fun q2 => ?_) (fun q2 => ?_)
    · have f := (if_pos q2).symm.trans f
      refine lv_iconst (v := (-1)) S.1 S.2.1 dX11_rank_20 (by decide) ?_
      exact o_iret S hr hlo I f dX11_rank_21
    · have f := (if_neg q2).symm.trans f
      refine lv_iload_n S.1 S.2.1 dX11_rank_11 rfl (lv_at hl 2 rfl) ?_
      refine lv_if_lt (tgt := 20) S.1 S.2.1 dX11_rank_12 (by decide) (fun q3 => ?_) (fun q3 => ?_)
      · have f := (if_pos q3).symm.trans f
        refine lv_iconst (v := (-1)) S.1 S.2.1 dX11_rank_20 (by decide) ?_
        exact o_iret S hr hlo I f dX11_rank_21
      · have f := (if_neg q3).symm.trans f
        refine lv_iload_n S.1 S.2.1 dX11_rank_15 rfl (lv_at hl 2 rfl) ?_
        refine lv_iconst (v := 1) S.1 S.2.1 dX11_rank_16 (by decide) ?_
        refine lv_icmp_le (tgt := 22) S.1 S.2.1 dX11_rank_17 (by decide) (fun q4 => ?_) (fun q4 => ?_)
        · have f := (if_pos q4).symm.trans f
          refine lv_iconst (v := 0) S.1 S.2.1 dX11_rank_22 (by decide) ?_
          refine lv_istore_n (lv' := [(3, .int 0), (0, .ref (b + a0)), (1, .int x1), (2, .int x2)]) S.1 S.2.1 dX11_rank_23 rfl hl (by decide) rfl (fun ls hl => ?_)
          refine lv_iconst (v := 0) S.1 S.2.1 dX11_rank_24 (by decide) ?_
          refine lv_istore (lv' := [(4, .int 0), (3, .int 0), (0, .ref (b + a0)), (1, .int x1), (2, .int x2)]) S.1 S.2.1 dX11_rank_25 hl (by decide) rfl (fun ls hl => ?_)
          exact T11_rank_27 S hr hlo  1024 f I (lv_sub hl [2, 3, 4, 1, 0] rfl)
        · have f := (if_neg q4).symm.trans f
          refine lv_iconst (v := (-1)) S.1 S.2.1 dX11_rank_20 (by decide) ?_
          exact o_iret S hr hlo I f dX11_rank_21
theorem M11_rank (l : Launch) (D : va_G) (cy : Nat → ClassId) (b : Nat) (A : Nat → Prop) (fl : Bool) {h : PH} {a0 : Nat} {x1 : Int32} {x2 : Int32} {out : Int32 × PH} (f : F11_rank h a0 x1 x2 = some out) : Met l yX11_rank vX11_rank ({ frames := 1, cells := 0, slots := 0, locals := 24 } : Room) (va_Pc [.ref (b + a0), .int x1, .int x2] (ph_B D cy b A fl h)) (va_Qi (fun (r : Int32) (u : PH) => (r, u) = out) (ph_B D cy b A fl) A) 0 0 A :=
  o_met (by decide) rfl (Nat.le_of_ble_eq_true rfl) rfl (fun p e s m below meth c S hr hlo hnm ls hl I => T11_rank_0 S hr hlo ((gd f).2) I (lv_sub hl [0, 1, 2] rfl))
def vX11_rest : List Cond := .code yX11_rest cX11_rest 4 (some .int) :: TB
theorem gX11_rest_X11_isSurfer : GoodIn vX11_rest (wsV RX11 115 RX11 yX11_isSurfer vX11_isSurfer) := gV_of wT_33_17 wT_33_18 wT_33_19 wT_1_2 wT_33_20
theorem lf11_rest_74 : Fl vX11_rest RX11 74 11 13 := ⟨RX11, TX11, 14, rfl, by decide, (fun w h9 => List.mem_cons_of_mem _ (wC_wsX110 w h9)), (List.mem_cons_of_mem _ wT_2_22)⟩
theorem lf11_rest_37 : Fl vX11_rest RX11 37 11 5 := ⟨RX11, TX11, 14, rfl, by decide, (fun w h9 => List.mem_cons_of_mem _ (wC_wsX110 w h9)), (List.mem_cons_of_mem _ wT_2_3)⟩
theorem lf11_rest_47 : Fl vX11_rest RX11 47 11 7 := ⟨RX11, TX11, 14, rfl, by decide, (fun w h9 => List.mem_cons_of_mem _ (wC_wsX110 w h9)), (List.mem_cons_of_mem _ wT_2_8)⟩
theorem gX11_rest_X0_playGame : GoodIn vX11_rest (wsV RX11 243 RX0 yX0_playGame vX0_playGame) := gV_of wT_50_22 wT_50_23 wT_51_0 wT_2_21 wT_51_1
theorem lf11_rest_247 : Fl vX11_rest RX11 247 0 6 := ⟨RX0, TX0, 13, rfl, by decide, (fun w h9 => List.mem_cons_of_mem _ (wC_wsX00 w h9)), (List.mem_cons_of_mem _ wT_50_21)⟩
theorem lf11_rest_250 : Fl vX11_rest RX11 250 0 5 := ⟨RX0, TX0, 13, rfl, by decide, (fun w h9 => List.mem_cons_of_mem _ (wC_wsX00 w h9)), (List.mem_cons_of_mem _ wT_53_7)⟩
theorem cd11_rest : Cd yX11_rest 3 := ⟨by decide, by decide, by decide +kernel⟩
set_option maxHeartbeats 4000000 in
set_option maxRecDepth 100000 in
theorem T11_rest_0 (S : CallFix p m c cX11_rest 4 s args vX11_rest RX11) (hr : meth.sig.returnType = (some .int)) (hlo : meth.locks = false) {out : Int32 × PH} {h : PH} {a0 : Nat} {x1 : Int32} {x2 : Int32} {x3 : Int32} (f : F11_rest_0  h a0 x1 x2 x3 = some out) {H : Heap} {locs : List Loc} (I : ph_I D cy b A fl h s H locs) {ls : Array Slot} (hl : lv_has ls 4 [(0, .ref (b + a0)), (1, .int x1), (2, .int x2), (3, .int x3)]) : W p l e ({ frames := 7, cells := 0, slots := 0, locals := 182 } : Room) s m args below meth c H locs 0 0 (MQ below (va_Qi (fun (r : Int32) (u : PH) => (r, u) = out) (ph_B D cy b A fl) A) args s 0 0 A) (F0 m 0 ls []) := by
  unfold F11_rest_0 at f
  refine lv_aload_n S.1 S.2.1 dX11_rest_0 rfl (lv_at hl 0 rfl) ?_
  refine lv_iload_n S.1 S.2.1 dX11_rest_1 rfl (lv_at hl 1 rfl) ?_
  obtain ⟨o1, e2, f⟩ := ob f
  refine o_Vi S (As := [.int x1]) (rest := []) (ci := 11) (M11_isSurfer l D cy b A fl e2) gX11_rest_X11_isSurfer rfl rfl rfl cd11_isSurfer ⟨Nat.le_of_ble_eq_true rfl, Nat.le_of_ble_eq_true rfl⟩ I (gd e2).1 clX11 rfl rfl hl.1 rfl (Nat.le_of_ble_eq_true rfl) dX11_rest_2 ⟨Nat.le_of_ble_eq_true rfl, Nat.le_of_ble_eq_true rfl⟩ (fun H locs I => ?_)
  refine lv_if_eq (tgt := 25) S.1 S.2.1 dX11_rest_5 (by decide) (fun q3 => ?_) (fun q3 => ?_)
  · have f := (if_pos q3).symm.trans f
    refine lv_iconst (v := (-1)) S.1 S.2.1 dX11_rest_25 (by decide) ?_
    exact o_iret S hr hlo I f dX11_rest_26
  · have f := (if_neg q3).symm.trans f
    refine lv_aload_n S.1 S.2.1 dX11_rest_8 rfl (lv_at hl 0 rfl) ?_
    refine lv_iload_n S.1 S.2.1 dX11_rest_9 rfl (lv_at hl 2 rfl) ?_
    obtain ⟨o4, e5, f⟩ := ob f
    refine o_Vi S (As := [.int x2]) (rest := []) (ci := 11) (M11_isSurfer l D cy b A fl e5) gX11_rest_X11_isSurfer rfl rfl rfl cd11_isSurfer ⟨Nat.le_of_ble_eq_true rfl, Nat.le_of_ble_eq_true rfl⟩ I (gd e5).1 clX11 rfl rfl hl.1 rfl (Nat.le_of_ble_eq_true rfl) dX11_rest_10 ⟨Nat.le_of_ble_eq_true rfl, Nat.le_of_ble_eq_true rfl⟩ (fun H locs I => ?_)
    refine lv_if_eq (tgt := 25) S.1 S.2.1 dX11_rest_13 (by decide) (fun q6 => ?_) (fun q6 => ?_)
    · have f := (if_pos q6).symm.trans f
      refine lv_iconst (v := (-1)) S.1 S.2.1 dX11_rest_25 (by decide) ?_
      exact o_iret S hr hlo I f dX11_rest_26
    · have f := (if_neg q6).symm.trans f
      refine lv_iload_n S.1 S.2.1 dX11_rest_16 rfl (lv_at hl 1 rfl) ?_
      refine lv_iload_n S.1 S.2.1 dX11_rest_17 rfl (lv_at hl 2 rfl) ?_
      refine lv_icmp_eq (tgt := 25) S.1 S.2.1 dX11_rest_18 (by decide) (fun q7 => ?_) (fun q7 => ?_)
      · have f := (if_pos q7).symm.trans f
        refine lv_iconst (v := (-1)) S.1 S.2.1 dX11_rest_25 (by decide) ?_
        exact o_iret S hr hlo I f dX11_rest_26
      · have f := (if_neg q7).symm.trans f
        refine lv_iload_n S.1 S.2.1 dX11_rest_21 rfl (lv_at hl 3 rfl) ?_
        refine lv_if_ge (tgt := 27) S.1 S.2.1 dX11_rest_22 (by decide) (fun q8 => ?_) (fun q8 => ?_)
        · have f := (if_pos q8).symm.trans f
          refine lv_aload_n S.1 S.2.1 dX11_rest_27 rfl (lv_at hl 0 rfl) ?_
          obtain ⟨r9, e10, f⟩ := ob f
          refine o_gR S lf11_rest_74 I e10 dX11_rest_28 ?_
          refine lv_aload_n S.1 S.2.1 dX11_rest_31 rfl (lv_at hl 0 rfl) ?_
          obtain ⟨r11, e12, f⟩ := ob f
          refine o_gR S lf11_rest_37 I e12 dX11_rest_32 ?_
          refine lv_aload_n S.1 S.2.1 dX11_rest_35 rfl (lv_at hl 0 rfl) ?_
          obtain ⟨r13, e14, f⟩ := ob f
          refine o_gR S lf11_rest_47 I e14 dX11_rest_36 ?_
          refine lv_iload_n S.1 S.2.1 dX11_rest_39 rfl (lv_at hl 1 rfl) ?_
          refine lv_iload_n S.1 S.2.1 dX11_rest_40 rfl (lv_at hl 2 rfl) ?_
          obtain ⟨o15, e16, f⟩ := ob f
          refine o_Vv S (As := [.ref (b + r11), .ref (b + r13), .int x1, .int x2]) (rest := []) (ci := 0) (M0_playGame l D cy b A fl e16) gX11_rest_X0_playGame rfl rfl rfl cd0_playGame ⟨Nat.le_of_ble_eq_true rfl, Nat.le_of_ble_eq_true rfl⟩ I (gd e16).1 clX0 rfl rfl hl.1 rfl (Nat.le_of_ble_eq_true rfl) dX11_rest_41 ⟨Nat.le_of_ble_eq_true rfl, Nat.le_of_ble_eq_true rfl⟩ (fun H locs I => ?_)
          refine lv_iload_n S.1 S.2.1 dX11_rest_44 rfl (lv_at hl 3 rfl) ?_
          refine lv_aload_n S.1 S.2.1 dX11_rest_45 rfl (lv_at hl 0 rfl) ?_
          obtain ⟨r17, e18, f⟩ := ob f
          refine o_gR S lf11_rest_74 I e18 dX11_rest_46 ?_
          obtain ⟨v19, e20, f⟩ := ob f
          refine o_gI S lf11_rest_247 I e20 dX11_rest_49 ?_
          refine lv_icmp_ge (tgt := 67) S.1 S.2.1 dX11_rest_52 (by decide) (fun q21 => ?_) (fun q21 => ?_)
          · have f := (if_pos q21).symm.trans f
            refine lv_bipush (v := (-2)) S.1 S.2.1 dX11_rest_67 (by decide) ?_
            exact o_iret S hr hlo I f dX11_rest_69
          · have f := (if_neg q21).symm.trans f
            refine lv_aload_n S.1 S.2.1 dX11_rest_55 rfl (lv_at hl 0 rfl) ?_
            obtain ⟨r22, e23, f⟩ := ob f
            refine o_gR S lf11_rest_74 I e23 dX11_rest_56 ?_
            obtain ⟨r24, e25, f⟩ := ob f
            refine o_gR S lf11_rest_250 I e25 dX11_rest_59 ?_
            refine lv_iload_n S.1 S.2.1 dX11_rest_62 rfl (lv_at hl 3 rfl) ?_
            obtain ⟨v27, e26, f⟩ := ob f
            refine o_iald S I e26 dX11_rest_63 ?_
            refine lv_goto (tgt := 69) S.1 S.2.1 dX11_rest_64 (by decide) ?_
            exact o_iret S hr hlo I f dX11_rest_69
        · have f := (if_neg q8).symm.trans f
          refine lv_iconst (v := (-1)) S.1 S.2.1 dX11_rest_25 (by decide) ?_
          exact o_iret S hr hlo I f dX11_rest_26
theorem M11_rest (l : Launch) (D : va_G) (cy : Nat → ClassId) (b : Nat) (A : Nat → Prop) (fl : Bool) {h : PH} {a0 : Nat} {x1 : Int32} {x2 : Int32} {x3 : Int32} {out : Int32 × PH} (f : F11_rest h a0 x1 x2 x3 = some out) : Met l yX11_rest vX11_rest ({ frames := 7, cells := 0, slots := 0, locals := 182 } : Room) (va_Pc [.ref (b + a0), .int x1, .int x2, .int x3] (ph_B D cy b A fl h)) (va_Qi (fun (r : Int32) (u : PH) => (r, u) = out) (ph_B D cy b A fl) A) 0 0 A :=
  o_met (by decide) rfl (Nat.le_of_ble_eq_true rfl) rfl (fun p e s m below meth c S hr hlo hnm ls hl I => T11_rest_0 S hr hlo ((gd f).2) I (lv_sub hl [0, 1, 2, 3] rfl))
def vX11_rests : List Cond := .code yX11_rests cX11_rests 3 (some .int) :: TB
theorem gX11_rests_X11_isSurfer : GoodIn vX11_rests (wsV RX11 115 RX11 yX11_isSurfer vX11_isSurfer) := gV_of wT_33_17 wT_33_18 wT_33_19 wT_1_2 wT_33_20
theorem lf11_rests_74 : Fl vX11_rests RX11 74 11 13 := ⟨RX11, TX11, 14, rfl, by decide, (fun w h9 => List.mem_cons_of_mem _ (wC_wsX110 w h9)), (List.mem_cons_of_mem _ wT_2_22)⟩
theorem lf11_rests_37 : Fl vX11_rests RX11 37 11 5 := ⟨RX11, TX11, 14, rfl, by decide, (fun w h9 => List.mem_cons_of_mem _ (wC_wsX110 w h9)), (List.mem_cons_of_mem _ wT_2_3)⟩
theorem lf11_rests_47 : Fl vX11_rests RX11 47 11 7 := ⟨RX11, TX11, 14, rfl, by decide, (fun w h9 => List.mem_cons_of_mem _ (wC_wsX110 w h9)), (List.mem_cons_of_mem _ wT_2_8)⟩
theorem gX11_rests_X0_playGame : GoodIn vX11_rests (wsV RX11 243 RX0 yX0_playGame vX0_playGame) := gV_of wT_50_22 wT_50_23 wT_51_0 wT_2_21 wT_51_1
theorem lf11_rests_247 : Fl vX11_rests RX11 247 0 6 := ⟨RX0, TX0, 13, rfl, by decide, (fun w h9 => List.mem_cons_of_mem _ (wC_wsX00 w h9)), (List.mem_cons_of_mem _ wT_50_21)⟩
theorem cd11_rests : Cd yX11_rests 2 := ⟨by decide, by decide, by decide +kernel⟩
set_option maxHeartbeats 4000000 in
set_option maxRecDepth 100000 in
theorem T11_rests_0 (S : CallFix p m c cX11_rests 3 s args vX11_rests RX11) (hr : meth.sig.returnType = (some .int)) (hlo : meth.locks = false) {out : Int32 × PH} {h : PH} {a0 : Nat} {x1 : Int32} {x2 : Int32} (f : F11_rests_0  h a0 x1 x2 = some out) {H : Heap} {locs : List Loc} (I : ph_I D cy b A fl h s H locs) {ls : Array Slot} (hl : lv_has ls 3 [(0, .ref (b + a0)), (1, .int x1), (2, .int x2)]) : W p l e ({ frames := 7, cells := 0, slots := 0, locals := 182 } : Room) s m args below meth c H locs 0 0 (MQ below (va_Qi (fun (r : Int32) (u : PH) => (r, u) = out) (ph_B D cy b A fl) A) args s 0 0 A) (F0 m 0 ls []) := by
  unfold F11_rests_0 at f
  refine lv_aload_n S.1 S.2.1 dX11_rests_0 rfl (lv_at hl 0 rfl) ?_
  refine lv_iload_n S.1 S.2.1 dX11_rests_1 rfl (lv_at hl 1 rfl) ?_
  obtain ⟨o1, e2, f⟩ := ob f
  refine o_Vi S (As := [.int x1]) (rest := []) (ci := 11) (M11_isSurfer l D cy b A fl e2) gX11_rests_X11_isSurfer rfl rfl rfl cd11_isSurfer ⟨Nat.le_of_ble_eq_true rfl, Nat.le_of_ble_eq_true rfl⟩ I (gd e2).1 clX11 rfl rfl hl.1 rfl (Nat.le_of_ble_eq_true rfl) dX11_rests_2 ⟨Nat.le_of_ble_eq_true rfl, Nat.le_of_ble_eq_true rfl⟩ (fun H locs I => ?_)
  refine lv_if_eq (tgt := 21) S.1 S.2.1 dX11_rests_5 (by decide) (fun q3 => ?_) (fun q3 => ?_)
  · have f := (if_pos q3).symm.trans f
    refine lv_iconst (v := (-1)) S.1 S.2.1 dX11_rests_21 (by decide) ?_
    exact o_iret S hr hlo I f dX11_rests_22
  · have f := (if_neg q3).symm.trans f
    refine lv_aload_n S.1 S.2.1 dX11_rests_8 rfl (lv_at hl 0 rfl) ?_
    refine lv_iload_n S.1 S.2.1 dX11_rests_9 rfl (lv_at hl 2 rfl) ?_
    obtain ⟨o4, e5, f⟩ := ob f
    refine o_Vi S (As := [.int x2]) (rest := []) (ci := 11) (M11_isSurfer l D cy b A fl e5) gX11_rests_X11_isSurfer rfl rfl rfl cd11_isSurfer ⟨Nat.le_of_ble_eq_true rfl, Nat.le_of_ble_eq_true rfl⟩ I (gd e5).1 clX11 rfl rfl hl.1 rfl (Nat.le_of_ble_eq_true rfl) dX11_rests_10 ⟨Nat.le_of_ble_eq_true rfl, Nat.le_of_ble_eq_true rfl⟩ (fun H locs I => ?_)
    refine lv_if_eq (tgt := 21) S.1 S.2.1 dX11_rests_13 (by decide) (fun q6 => ?_) (fun q6 => ?_)
    · have f := (if_pos q6).symm.trans f
      refine lv_iconst (v := (-1)) S.1 S.2.1 dX11_rests_21 (by decide) ?_
      exact o_iret S hr hlo I f dX11_rests_22
    · have f := (if_neg q6).symm.trans f
      refine lv_iload_n S.1 S.2.1 dX11_rests_16 rfl (lv_at hl 1 rfl) ?_
      refine lv_iload_n S.1 S.2.1 dX11_rests_17 rfl (lv_at hl 2 rfl) ?_
      refine lv_icmp_ne (tgt := 23) S.1 S.2.1 dX11_rests_18 (by decide) (fun q7 => ?_) (fun q7 => ?_)
      · have f := (if_neg q7).symm.trans f
        refine lv_aload_n S.1 S.2.1 dX11_rests_23 rfl (lv_at hl 0 rfl) ?_
        obtain ⟨r8, e9, f⟩ := ob f
        refine o_gR S lf11_rests_74 I e9 dX11_rests_24 ?_
        refine lv_aload_n S.1 S.2.1 dX11_rests_27 rfl (lv_at hl 0 rfl) ?_
        obtain ⟨r10, e11, f⟩ := ob f
        refine o_gR S lf11_rests_37 I e11 dX11_rests_28 ?_
        refine lv_aload_n S.1 S.2.1 dX11_rests_31 rfl (lv_at hl 0 rfl) ?_
        obtain ⟨r12, e13, f⟩ := ob f
        refine o_gR S lf11_rests_47 I e13 dX11_rests_32 ?_
        refine lv_iload_n S.1 S.2.1 dX11_rests_35 rfl (lv_at hl 1 rfl) ?_
        refine lv_iload_n S.1 S.2.1 dX11_rests_36 rfl (lv_at hl 2 rfl) ?_
        obtain ⟨o14, e15, f⟩ := ob f
        refine o_Vv S (As := [.ref (b + r10), .ref (b + r12), .int x1, .int x2]) (rest := []) (ci := 0) (M0_playGame l D cy b A fl e15) gX11_rests_X0_playGame rfl rfl rfl cd0_playGame ⟨Nat.le_of_ble_eq_true rfl, Nat.le_of_ble_eq_true rfl⟩ I (gd e15).1 clX0 rfl rfl hl.1 rfl (Nat.le_of_ble_eq_true rfl) dX11_rests_37 ⟨Nat.le_of_ble_eq_true rfl, Nat.le_of_ble_eq_true rfl⟩ (fun H locs I => ?_)
        refine lv_aload_n S.1 S.2.1 dX11_rests_40 rfl (lv_at hl 0 rfl) ?_
        obtain ⟨r16, e17, f⟩ := ob f
        refine o_gR S lf11_rests_74 I e17 dX11_rests_41 ?_
        obtain ⟨v18, e19, f⟩ := ob f
        refine o_gI S lf11_rests_247 I e19 dX11_rests_44 ?_
        exact o_iret S hr hlo I f dX11_rests_47
      · have f := (if_pos q7).symm.trans f
        refine lv_iconst (v := (-1)) S.1 S.2.1 dX11_rests_21 (by decide) ?_
        exact o_iret S hr hlo I f dX11_rests_22
theorem M11_rests (l : Launch) (D : va_G) (cy : Nat → ClassId) (b : Nat) (A : Nat → Prop) (fl : Bool) {h : PH} {a0 : Nat} {x1 : Int32} {x2 : Int32} {out : Int32 × PH} (f : F11_rests h a0 x1 x2 = some out) : Met l yX11_rests vX11_rests ({ frames := 7, cells := 0, slots := 0, locals := 182 } : Room) (va_Pc [.ref (b + a0), .int x1, .int x2] (ph_B D cy b A fl h)) (va_Qi (fun (r : Int32) (u : PH) => (r, u) = out) (ph_B D cy b A fl) A) 0 0 A :=
  o_met (by decide) rfl (Nat.le_of_ble_eq_true rfl) rfl (fun p e s m below meth c S hr hlo hnm ls hl I => T11_rests_0 S hr hlo ((gd f).2) I (lv_sub hl [0, 1, 2] rfl))
def vX11_rule : List Cond := .code yX11_rule cX11_rule 2 (some .boolean) :: TB
theorem gX11_rule_X11_isRule : GoodIn vX11_rule (wsV RX11 214 RX11 yX11_isRule vX11_isRule) := gV_of wT_43_0 wT_43_1 wT_43_2 wT_1_2 wT_43_3
theorem lf11_rule_47 : Fl vX11_rule RX11 47 11 7 := ⟨RX11, TX11, 14, rfl, by decide, (fun w h9 => List.mem_cons_of_mem _ (wC_wsX110 w h9)), (List.mem_cons_of_mem _ wT_2_8)⟩
theorem lf11_rule_217 : Fl vX11_rule RX11 217 4 1 := ⟨RX4, TX4, 11, rfl, by decide, (fun w h9 => List.mem_cons_of_mem _ (wC_wsX40 w h9)), (List.mem_cons_of_mem _ wT_42_23)⟩
theorem lf11_rule_67 : Fl vX11_rule RX11 67 11 12 := ⟨RX11, TX11, 14, rfl, by decide, (fun w h9 => List.mem_cons_of_mem _ (wC_wsX110 w h9)), (List.mem_cons_of_mem _ wT_2_18)⟩
theorem gX11_rule_X9_add : GoodIn vX11_rule (wsV RX11 210 RX9 yX9_add vX9_add) := gV_of wT_42_1 wT_42_2 wT_42_3 wT_2_17 wT_42_4
theorem lp11_rule_217 : Pl vX11_rule RX11 217 4 1 .int := ⟨RX4, TX4, 11, tyX4, rfl, by decide, (fun w h9 => List.mem_cons_of_mem _ (wC_wsX40 w h9)), (List.mem_cons_of_mem _ wT_42_23), tyX4_ok, nmX4, rfl, rfl⟩
theorem cd11_rule : Cd yX11_rule 1 := ⟨by decide, by decide, by decide +kernel⟩
set_option maxHeartbeats 4000000 in
set_option maxRecDepth 100000 in
theorem T11_rule_0 (S : CallFix p m c cX11_rule 2 s args vX11_rule RX11) (hr : meth.sig.returnType = (some .boolean)) (hlo : meth.locks = false) {out : Int32 × PH} {h : PH} {a0 : Nat} {x1 : Int32} (f : F11_rule_0  h a0 x1 = some out) {H : Heap} {locs : List Loc} (I : ph_I D cy b A false h s H locs) {ls : Array Slot} (hl : lv_has ls 2 [(0, .ref (b + a0)), (1, .int x1)]) : W p l e ({ frames := 2, cells := 0, slots := 0, locals := 62 } : Room) s m args below meth c H locs 0 0 (MQ below (va_Qi (fun (r : Int32) (u : PH) => (r, u) = out) (ph_B D cy b A false) A) args s 0 0 A) (F0 m 0 ls []) := by
  unfold F11_rule_0 at f
  refine lv_aload_n S.1 S.2.1 dX11_rule_0 rfl (lv_at hl 0 rfl) ?_
  refine lv_iload_n S.1 S.2.1 dX11_rule_1 rfl (lv_at hl 1 rfl) ?_
  obtain ⟨o1, e2, f⟩ := ob f
  refine o_Vi S (As := [.int x1]) (rest := []) (ci := 11) (M11_isRule l D cy b A false e2) gX11_rule_X11_isRule rfl rfl rfl cd11_isRule ⟨Nat.le_of_ble_eq_true rfl, Nat.le_of_ble_eq_true rfl⟩ I (gd e2).1 clX11 rfl rfl hl.1 rfl (Nat.le_of_ble_eq_true rfl) dX11_rule_2 ⟨Nat.le_of_ble_eq_true rfl, Nat.le_of_ble_eq_true rfl⟩ (fun H locs I => ?_)
  refine lv_if_eq (tgt := 19) S.1 S.2.1 dX11_rule_5 (by decide) (fun q3 => ?_) (fun q3 => ?_)
  · have f := (if_pos q3).symm.trans f
    refine lv_iconst (v := 0) S.1 S.2.1 dX11_rule_19 (by decide) ?_
    exact o_zret S hr hlo I f dX11_rule_20
  · have f := (if_neg q3).symm.trans f
    refine lv_iload_n S.1 S.2.1 dX11_rule_8 rfl (lv_at hl 1 rfl) ?_
    refine lv_aload_n S.1 S.2.1 dX11_rule_9 rfl (lv_at hl 0 rfl) ?_
    obtain ⟨r4, e5, f⟩ := ob f
    refine o_gR S lf11_rule_47 I e5 dX11_rule_10 ?_
    obtain ⟨v6, e7, f⟩ := ob f
    refine o_gI S lf11_rule_217 I e7 dX11_rule_13 ?_
    refine lv_icmp_ne (tgt := 21) S.1 S.2.1 dX11_rule_16 (by decide) (fun q8 => ?_) (fun q8 => ?_)
    · have f := (if_neg q8).symm.trans f
      refine lv_aload_n S.1 S.2.1 dX11_rule_21 rfl (lv_at hl 0 rfl) ?_
      obtain ⟨r9, e10, f⟩ := ob f
      refine o_gR S lf11_rule_67 I e10 dX11_rule_22 ?_
      refine lv_iconst (v := (-1)) S.1 S.2.1 dX11_rule_25 (by decide) ?_
      refine lv_aload_n S.1 S.2.1 dX11_rule_26 rfl (lv_at hl 0 rfl) ?_
      obtain ⟨r11, e12, f⟩ := ob f
      refine o_gR S lf11_rule_47 I e12 dX11_rule_27 ?_
      obtain ⟨v13, e14, f⟩ := ob f
      refine o_gI S lf11_rule_217 I e14 dX11_rule_30 ?_
      obtain ⟨o15, e16, f⟩ := ob f
      refine o_Vv S (As := [.int (-1), .int v13]) (rest := []) (ci := 9) (M9_add l D cy b A e16) gX11_rule_X9_add rfl rfl rfl cd9_add ⟨Nat.le_of_ble_eq_true rfl, Nat.le_of_ble_eq_true rfl⟩ I (gd e16).1 clX9 rfl rfl hl.1 rfl (Nat.le_of_ble_eq_true rfl) dX11_rule_33 ⟨Nat.le_of_ble_eq_true rfl, Nat.le_of_ble_eq_true rfl⟩ (fun H locs I => ?_)
      refine lv_aload_n S.1 S.2.1 dX11_rule_36 rfl (lv_at hl 0 rfl) ?_
      obtain ⟨r17, e18, f⟩ := ob f
      refine o_gR S lf11_rule_47 I e18 dX11_rule_37 ?_
      refine lv_iload_n S.1 S.2.1 dX11_rule_40 rfl (lv_at hl 1 rfl) ?_
      obtain ⟨h19, e20, f⟩ := ob f
      refine o_pI S lp11_rule_217 I e20 dX11_rule_41 (fun H locs I => ?_)
      refine lv_iconst (v := 1) S.1 S.2.1 dX11_rule_44 (by decide) ?_
      exact o_zret S hr hlo I f dX11_rule_45
    · have f := (if_pos q8).symm.trans f
      refine lv_iconst (v := 0) S.1 S.2.1 dX11_rule_19 (by decide) ?_
      exact o_zret S hr hlo I f dX11_rule_20
theorem M11_rule (l : Launch) (D : va_G) (cy : Nat → ClassId) (b : Nat) (A : Nat → Prop) {h : PH} {a0 : Nat} {x1 : Int32} {out : Int32 × PH} (f : F11_rule h a0 x1 = some out) : Met l yX11_rule vX11_rule ({ frames := 2, cells := 0, slots := 0, locals := 62 } : Room) (va_Pc [.ref (b + a0), .int x1] (ph_B D cy b A false h)) (va_Qi (fun (r : Int32) (u : PH) => (r, u) = out) (ph_B D cy b A false) A) 0 0 A :=
  o_met (by decide) rfl (Nat.le_of_ble_eq_true rfl) rfl (fun p e s m below meth c S hr hlo hnm ls hl I => T11_rule_0 S hr hlo ((gd f).2) I (lv_sub hl [0, 1] rfl))
def vX11_seat : List Cond := .code yX11_seat cX11_seat 3 (some .int) :: TB
theorem gX11_seat_X11_isSurfer : GoodIn vX11_seat (wsV RX11 115 RX11 yX11_isSurfer vX11_isSurfer) := gV_of wT_33_17 wT_33_18 wT_33_19 wT_1_2 wT_33_20
theorem gX11_seat_X11_isCell : GoodIn vX11_seat (wsV RX11 179 RX11 yX11_isCell vX11_isCell) := gV_of wT_38_1 wT_38_2 wT_38_3 wT_1_2 wT_38_4
theorem lf11_seat_37 : Fl vX11_seat RX11 37 11 5 := ⟨RX11, TX11, 14, rfl, by decide, (fun w h9 => List.mem_cons_of_mem _ (wC_wsX110 w h9)), (List.mem_cons_of_mem _ wT_2_3)⟩
theorem gX11_seat_X11_firstToCome : GoodIn vX11_seat (wsV RX11 233 RX11 yX11_firstToCome vX11_firstToCome) := gV_of wT_49_9 wT_49_10 wT_49_11 wT_1_2 wT_49_12
theorem gX11_seat_X6_seatFrom : GoodIn vX11_seat (wsV RX11 237 RX6 yX6_seatFrom vX6_seatFrom) := gV_of wT_49_13 wT_49_14 wT_49_15 wT_2_2 wT_49_16
theorem cd11_seat : Cd yX11_seat 2 := ⟨by decide, by decide, by decide +kernel⟩
set_option maxHeartbeats 4000000 in
set_option maxRecDepth 100000 in
theorem T11_seat_0 (S : CallFix p m c cX11_seat 3 s args vX11_seat RX11) (hr : meth.sig.returnType = (some .int)) (hlo : meth.locks = false) {out : Int32 × PH} {h : PH} {a0 : Nat} {x1 : Int32} {x2 : Int32} (f : F11_seat_0  h a0 x1 x2 = some out) {H : Heap} {locs : List Loc} (I : ph_I D cy b A fl h s H locs) {ls : Array Slot} (hl : lv_has ls 3 [(0, .ref (b + a0)), (1, .int x1), (2, .int x2)]) : W p l e ({ frames := 6, cells := 0, slots := 0, locals := 151 } : Room) s m args below meth c H locs 0 0 (MQ below (va_Qi (fun (r : Int32) (u : PH) => (r, u) = out) (ph_B D cy b A fl) A) args s 0 0 A) (F0 m 0 ls []) := by
  unfold F11_seat_0 at f
  refine lv_aload_n S.1 S.2.1 dX11_seat_0 rfl (lv_at hl 0 rfl) ?_
  refine lv_iload_n S.1 S.2.1 dX11_seat_1 rfl (lv_at hl 1 rfl) ?_
  obtain ⟨o1, e2, f⟩ := ob f
  refine o_Vi S (As := [.int x1]) (rest := []) (ci := 11) (M11_isSurfer l D cy b A fl e2) gX11_seat_X11_isSurfer rfl rfl rfl cd11_isSurfer ⟨Nat.le_of_ble_eq_true rfl, Nat.le_of_ble_eq_true rfl⟩ I (gd e2).1 clX11 rfl rfl hl.1 rfl (Nat.le_of_ble_eq_true rfl) dX11_seat_2 ⟨Nat.le_of_ble_eq_true rfl, Nat.le_of_ble_eq_true rfl⟩ (fun H locs I => ?_)
  refine lv_if_eq (tgt := 16) S.1 S.2.1 dX11_seat_5 (by decide) (fun q3 => ?_) (fun q3 => ?_)
  · have f := (if_pos q3).symm.trans f
    refine lv_iconst (v := (-1)) S.1 S.2.1 dX11_seat_16 (by decide) ?_
    exact o_iret S hr hlo I f dX11_seat_17
  · have f := (if_neg q3).symm.trans f
    refine lv_aload_n S.1 S.2.1 dX11_seat_8 rfl (lv_at hl 0 rfl) ?_
    refine lv_iload_n S.1 S.2.1 dX11_seat_9 rfl (lv_at hl 2 rfl) ?_
    obtain ⟨o4, e5, f⟩ := ob f
    refine o_Vi S (As := [.int x2]) (rest := []) (ci := 11) (M11_isCell l D cy b A fl e5) gX11_seat_X11_isCell rfl rfl rfl cd11_isCell ⟨Nat.le_of_ble_eq_true rfl, Nat.le_of_ble_eq_true rfl⟩ I (gd e5).1 clX11 rfl rfl hl.1 rfl (Nat.le_of_ble_eq_true rfl) dX11_seat_10 ⟨Nat.le_of_ble_eq_true rfl, Nat.le_of_ble_eq_true rfl⟩ (fun H locs I => ?_)
    refine lv_if_ne (tgt := 18) S.1 S.2.1 dX11_seat_13 (by decide) (fun q6 => ?_) (fun q6 => ?_)
    · have f := (if_neg q6).symm.trans f
      refine lv_aload_n S.1 S.2.1 dX11_seat_18 rfl (lv_at hl 0 rfl) ?_
      obtain ⟨r7, e8, f⟩ := ob f
      refine o_gR S lf11_seat_37 I e8 dX11_seat_19 ?_
      refine lv_iload_n S.1 S.2.1 dX11_seat_22 rfl (lv_at hl 1 rfl) ?_
      refine lv_iload_n S.1 S.2.1 dX11_seat_23 rfl (lv_at hl 2 rfl) ?_
      refine lv_aload_n S.1 S.2.1 dX11_seat_24 rfl (lv_at hl 0 rfl) ?_
      obtain ⟨o9, e10, f⟩ := ob f
      refine o_Vi S (As := []) (rest := [.int x2, .int x1, .ref (b + r7)]) (ci := 11) (M11_firstToCome l D cy b A fl e10) gX11_seat_X11_firstToCome rfl rfl rfl cd11_firstToCome ⟨Nat.le_of_ble_eq_true rfl, Nat.le_of_ble_eq_true rfl⟩ I (gd e10).1 clX11 rfl rfl hl.1 rfl (Nat.le_of_ble_eq_true rfl) dX11_seat_25 ⟨Nat.le_of_ble_eq_true rfl, Nat.le_of_ble_eq_true rfl⟩ (fun H locs I => ?_)
      obtain ⟨o11, e12, f⟩ := ob f
      refine o_Vi S (As := [.int x1, .int x2, .int o9.1]) (rest := []) (ci := 6) (M6_seatFrom l D cy b A fl e12) gX11_seat_X6_seatFrom rfl rfl rfl cd6_seatFrom ⟨Nat.le_of_ble_eq_true rfl, Nat.le_of_ble_eq_true rfl⟩ I (gd e12).1 clX6 rfl rfl hl.1 rfl (Nat.le_of_ble_eq_true rfl) dX11_seat_28 ⟨Nat.le_of_ble_eq_true rfl, Nat.le_of_ble_eq_true rfl⟩ (fun H locs I => ?_)
      exact o_iret S hr hlo I f dX11_seat_31
    · have f := (if_pos q6).symm.trans f
      refine lv_iconst (v := (-1)) S.1 S.2.1 dX11_seat_16 (by decide) ?_
      exact o_iret S hr hlo I f dX11_seat_17
theorem M11_seat (l : Launch) (D : va_G) (cy : Nat → ClassId) (b : Nat) (A : Nat → Prop) (fl : Bool) {h : PH} {a0 : Nat} {x1 : Int32} {x2 : Int32} {out : Int32 × PH} (f : F11_seat h a0 x1 x2 = some out) : Met l yX11_seat vX11_seat ({ frames := 6, cells := 0, slots := 0, locals := 151 } : Room) (va_Pc [.ref (b + a0), .int x1, .int x2] (ph_B D cy b A fl h)) (va_Qi (fun (r : Int32) (u : PH) => (r, u) = out) (ph_B D cy b A fl) A) 0 0 A :=
  o_met (by decide) rfl (Nat.le_of_ble_eq_true rfl) rfl (fun p e s m below meth c S hr hlo hnm ls hl I => T11_seat_0 S hr hlo ((gd f).2) I (lv_sub hl [0, 1, 2] rfl))
def vX11_shares : List Cond := .code yX11_shares cX11_shares 2 (some .int) :: TB
theorem lf11_shares_18 : Fl vX11_shares RX11 18 11 3 := ⟨RX11, TX11, 14, rfl, by decide, (fun w h9 => List.mem_cons_of_mem _ (wC_wsX110 w h9)), (List.mem_cons_of_mem _ wT_1_18)⟩
theorem lf11_shares_102 : Fl vX11_shares RX11 102 8 4 := ⟨RX8, TX8, 14, rfl, by decide, (fun w h9 => List.mem_cons_of_mem _ (wC_wsX80 w h9)), (List.mem_cons_of_mem _ wT_32_14)⟩
theorem lf11_shares_106 : Fl vX11_shares RX11 106 1 0 := ⟨RX1, TX1, 7, rfl, by decide, (fun w h9 => List.mem_cons_of_mem _ (wC_wsX10 w h9)), (List.mem_cons_of_mem _ wT_32_15)⟩
theorem lf11_shares_47 : Fl vX11_shares RX11 47 11 7 := ⟨RX11, TX11, 14, rfl, by decide, (fun w h9 => List.mem_cons_of_mem _ (wC_wsX110 w h9)), (List.mem_cons_of_mem _ wT_2_8)⟩
theorem gX11_shares_X4_hadInSum : GoodIn vX11_shares (wsV RX11 317 RX4 yX4_hadInSum vX4_hadInSum) := gV_of wT_60_21 wT_60_22 wT_60_23 wT_2_7 wT_61_0
theorem gX11_shares_X4_unlike : GoodIn vX11_shares (wsV RX11 293 RX4 yX4_unlike vX4_unlike) := gV_of wT_57_19 wT_57_20 wT_57_21 wT_2_7 wT_57_22
theorem cd11_shares : Cd yX11_shares 1 := ⟨by decide, by decide, by decide +kernel⟩
set_option maxHeartbeats 4000000 in
set_option maxRecDepth 100000 in
theorem T11_shares_0 (S : CallFix p m c cX11_shares 2 s args vX11_shares RX11) (hr : meth.sig.returnType = (some .int)) (hlo : meth.locks = false) {out : Int32 × PH} {h : PH} {a0 : Nat} {x1 : Int32} (f : F11_shares_0  h a0 x1 = some out) {H : Heap} {locs : List Loc} (I : ph_I D cy b A fl h s H locs) {ls : Array Slot} (hl : lv_has ls 2 [(0, .ref (b + a0)), (1, .int x1)]) : W p l e ({ frames := 2, cells := 0, slots := 0, locals := 48 } : Room) s m args below meth c H locs 0 0 (MQ below (va_Qi (fun (r : Int32) (u : PH) => (r, u) = out) (ph_B D cy b A fl) A) args s 0 0 A) (F0 m 0 ls []) := by
  unfold F11_shares_0 at f
  refine lv_iload_n S.1 S.2.1 dX11_shares_0 rfl (lv_at hl 1 rfl) ?_
  refine lv_if_lt (tgt := 23) S.1 S.2.1 dX11_shares_1 (by decide) (fun q1 => ?_) (fun q1 => ?_)
  · have f := (if_pos q1).symm.trans f
    refine lv_iconst (v := (-1)) S.1 S.2.1 dX11_shares_23 (by decide) ?_
    exact o_iret S hr hlo I f dX11_shares_24
  · have f := (if_neg q1).symm.trans f
    refine lv_iload_n S.1 S.2.1 dX11_shares_4 rfl (lv_at hl 1 rfl) ?_
    refine lv_iconst (v := 1) S.1 S.2.1 dX11_shares_5 (by decide) ?_
    refine lv_icmp_gt (tgt := 23) S.1 S.2.1 dX11_shares_6 (by decide) (fun q2 => ?_) (fun q2 => ?_)
    · have f := (if_pos q2).symm.trans f
      refine lv_iconst (v := (-1)) S.1 S.2.1 dX11_shares_23 (by decide) ?_
      exact o_iret S hr hlo I f dX11_shares_24
    · have f := (if_neg q2).symm.trans f
      refine lv_aload_n S.1 S.2.1 dX11_shares_9 rfl (lv_at hl 0 rfl) ?_
      obtain ⟨r3, e4, f⟩ := ob f
      refine o_gR S lf11_shares_18 I e4 dX11_shares_10 ?_
      obtain ⟨r5, e6, f⟩ := ob f
      refine o_gR S lf11_shares_102 I e6 dX11_shares_13 ?_
      obtain ⟨v7, e8, f⟩ := ob f
      refine o_gI S lf11_shares_106 I e8 dX11_shares_16 ?_
      refine lv_iconst (v := 1) S.1 S.2.1 dX11_shares_19 (by decide) ?_
      refine lv_icmp_ge (tgt := 25) S.1 S.2.1 dX11_shares_20 (by decide) (fun q9 => ?_) (fun q9 => ?_)
      · have f := (if_pos q9).symm.trans f
        refine lv_iload_n S.1 S.2.1 dX11_shares_25 rfl (lv_at hl 1 rfl) ?_
        refine lv_if_ne (tgt := 49) S.1 S.2.1 dX11_shares_26 (by decide) (fun q10 => ?_) (fun q10 => ?_)
        · have f := (if_neg q10).symm.trans f
          refine lv_aload_n S.1 S.2.1 dX11_shares_49 rfl (lv_at hl 0 rfl) ?_
          obtain ⟨r11, e12, f⟩ := ob f
          refine o_gR S lf11_shares_47 I e12 dX11_shares_50 ?_
          refine lv_aload_n S.1 S.2.1 dX11_shares_53 rfl (lv_at hl 0 rfl) ?_
          obtain ⟨r13, e14, f⟩ := ob f
          refine o_gR S lf11_shares_18 I e14 dX11_shares_54 ?_
          obtain ⟨r15, e16, f⟩ := ob f
          refine o_gR S lf11_shares_102 I e16 dX11_shares_57 ?_
          obtain ⟨v17, e18, f⟩ := ob f
          refine o_gI S lf11_shares_106 I e18 dX11_shares_60 ?_
          obtain ⟨o19, e20, f⟩ := ob f
          refine o_Vi S (As := [.int v17]) (rest := []) (ci := 4) (M4_hadInSum l D cy b A fl e20) gX11_shares_X4_hadInSum rfl rfl rfl cd4_hadInSum ⟨Nat.le_of_ble_eq_true rfl, Nat.le_of_ble_eq_true rfl⟩ I (gd e20).1 clX4 rfl rfl hl.1 rfl (Nat.le_of_ble_eq_true rfl) dX11_shares_63 ⟨Nat.le_of_ble_eq_true rfl, Nat.le_of_ble_eq_true rfl⟩ (fun H locs I => ?_)
          exact o_iret S hr hlo I f dX11_shares_66
        · have f := (if_pos q10).symm.trans f
          refine lv_aload_n S.1 S.2.1 dX11_shares_29 rfl (lv_at hl 0 rfl) ?_
          obtain ⟨r21, e22, f⟩ := ob f
          refine o_gR S lf11_shares_47 I e22 dX11_shares_30 ?_
          refine lv_aload_n S.1 S.2.1 dX11_shares_33 rfl (lv_at hl 0 rfl) ?_
          obtain ⟨r23, e24, f⟩ := ob f
          refine o_gR S lf11_shares_18 I e24 dX11_shares_34 ?_
          obtain ⟨r25, e26, f⟩ := ob f
          refine o_gR S lf11_shares_102 I e26 dX11_shares_37 ?_
          obtain ⟨v27, e28, f⟩ := ob f
          refine o_gI S lf11_shares_106 I e28 dX11_shares_40 ?_
          obtain ⟨o29, e30, f⟩ := ob f
          refine o_Vi S (As := [.int v27]) (rest := []) (ci := 4) (M4_unlike l D cy b A fl e30) gX11_shares_X4_unlike rfl rfl rfl cd4_unlike ⟨Nat.le_of_ble_eq_true rfl, Nat.le_of_ble_eq_true rfl⟩ I (gd e30).1 clX4 rfl rfl hl.1 rfl (Nat.le_of_ble_eq_true rfl) dX11_shares_43 ⟨Nat.le_of_ble_eq_true rfl, Nat.le_of_ble_eq_true rfl⟩ (fun H locs I => ?_)
          refine lv_goto (tgt := 66) S.1 S.2.1 dX11_shares_46 (by decide) ?_
          exact o_iret S hr hlo I f dX11_shares_66
      · have f := (if_neg q9).symm.trans f
        refine lv_iconst (v := (-1)) S.1 S.2.1 dX11_shares_23 (by decide) ?_
        exact o_iret S hr hlo I f dX11_shares_24
theorem M11_shares (l : Launch) (D : va_G) (cy : Nat → ClassId) (b : Nat) (A : Nat → Prop) (fl : Bool) {h : PH} {a0 : Nat} {x1 : Int32} {out : Int32 × PH} (f : F11_shares h a0 x1 = some out) : Met l yX11_shares vX11_shares ({ frames := 2, cells := 0, slots := 0, locals := 48 } : Room) (va_Pc [.ref (b + a0), .int x1] (ph_B D cy b A fl h)) (va_Qi (fun (r : Int32) (u : PH) => (r, u) = out) (ph_B D cy b A fl) A) 0 0 A :=
  o_met (by decide) rfl (Nat.le_of_ble_eq_true rfl) rfl (fun p e s m below meth c S hr hlo hnm ls hl I => T11_shares_0 S hr hlo ((gd f).2) I (lv_sub hl [0, 1] rfl))
def vX11_strike : List Cond := .code yX11_strike cX11_strike 2 (some .int) :: TB
theorem lf11_strike_60 : Fl vX11_strike RX11 60 11 11 := ⟨RX11, TX11, 14, rfl, by decide, (fun w h9 => List.mem_cons_of_mem _ (wC_wsX110 w h9)), (List.mem_cons_of_mem _ wT_2_14)⟩
theorem lf11_strike_323 : Fl vX11_strike RX11 323 3 0 := ⟨RX3, TX3, 7, rfl, by decide, (fun w h9 => List.mem_cons_of_mem _ (wC_wsX30 w h9)), (List.mem_cons_of_mem _ wT_23_18)⟩
theorem gX11_strike_X3_addStrike : GoodIn vX11_strike (wsV RX11 324 RX3 yX3_addStrike vX3_addStrike) := gV_of wT_62_6 wT_62_7 wT_62_8 wT_2_13 wT_62_9
theorem cd11_strike : Cd yX11_strike 1 := ⟨by decide, by decide, by decide +kernel⟩
set_option maxHeartbeats 4000000 in
set_option maxRecDepth 100000 in
theorem T11_strike_0 (S : CallFix p m c cX11_strike 2 s args vX11_strike RX11) (hr : meth.sig.returnType = (some .int)) (hlo : meth.locks = false) {out : Int32 × PH} {h : PH} {a0 : Nat} {x1 : Int32} (f : F11_strike_0  h a0 x1 = some out) {H : Heap} {locs : List Loc} (I : ph_I D cy b A fl h s H locs) {ls : Array Slot} (hl : lv_has ls 2 [(0, .ref (b + a0)), (1, .int x1)]) : W p l e ({ frames := 1, cells := 0, slots := 0, locals := 21 } : Room) s m args below meth c H locs 0 0 (MQ below (va_Qi (fun (r : Int32) (u : PH) => (r, u) = out) (ph_B D cy b A fl) A) args s 0 0 A) (F0 m 0 ls []) := by
  unfold F11_strike_0 at f
  refine lv_iload_n S.1 S.2.1 dX11_strike_0 rfl (lv_at hl 1 rfl) ?_
  refine lv_if_lt (tgt := 15) S.1 S.2.1 dX11_strike_1 (by decide) (fun q1 => ?_) (fun q1 => ?_)
  · have f := (if_pos q1).symm.trans f
    refine lv_iconst (v := (-1)) S.1 S.2.1 dX11_strike_15 (by decide) ?_
    exact o_iret S hr hlo I f dX11_strike_16
  · have f := (if_neg q1).symm.trans f
    refine lv_iload_n S.1 S.2.1 dX11_strike_4 rfl (lv_at hl 1 rfl) ?_
    refine lv_aload_n S.1 S.2.1 dX11_strike_5 rfl (lv_at hl 0 rfl) ?_
    obtain ⟨r2, e3, f⟩ := ob f
    refine o_gR S lf11_strike_60 I e3 dX11_strike_6 ?_
    obtain ⟨v4, e5, f⟩ := ob f
    refine o_gI S lf11_strike_323 I e5 dX11_strike_9 ?_
    refine lv_icmp_lt (tgt := 17) S.1 S.2.1 dX11_strike_12 (by decide) (fun q6 => ?_) (fun q6 => ?_)
    · have f := (if_pos q6).symm.trans f
      refine lv_aload_n S.1 S.2.1 dX11_strike_17 rfl (lv_at hl 0 rfl) ?_
      obtain ⟨r7, e8, f⟩ := ob f
      refine o_gR S lf11_strike_60 I e8 dX11_strike_18 ?_
      refine lv_iload_n S.1 S.2.1 dX11_strike_21 rfl (lv_at hl 1 rfl) ?_
      obtain ⟨o9, e10, f⟩ := ob f
      refine o_Vi S (As := [.int x1]) (rest := []) (ci := 3) (M3_addStrike l D cy b A fl e10) gX11_strike_X3_addStrike rfl rfl rfl cd3_addStrike ⟨Nat.le_of_ble_eq_true rfl, Nat.le_of_ble_eq_true rfl⟩ I (gd e10).1 clX3 rfl rfl hl.1 rfl (Nat.le_of_ble_eq_true rfl) dX11_strike_22 ⟨Nat.le_of_ble_eq_true rfl, Nat.le_of_ble_eq_true rfl⟩ (fun H locs I => ?_)
      exact o_iret S hr hlo I f dX11_strike_25
    · have f := (if_neg q6).symm.trans f
      refine lv_iconst (v := (-1)) S.1 S.2.1 dX11_strike_15 (by decide) ?_
      exact o_iret S hr hlo I f dX11_strike_16
theorem M11_strike (l : Launch) (D : va_G) (cy : Nat → ClassId) (b : Nat) (A : Nat → Prop) (fl : Bool) {h : PH} {a0 : Nat} {x1 : Int32} {out : Int32 × PH} (f : F11_strike h a0 x1 = some out) : Met l yX11_strike vX11_strike ({ frames := 1, cells := 0, slots := 0, locals := 21 } : Room) (va_Pc [.ref (b + a0), .int x1] (ph_B D cy b A fl h)) (va_Qi (fun (r : Int32) (u : PH) => (r, u) = out) (ph_B D cy b A fl) A) 0 0 A :=
  o_met (by decide) rfl (Nat.le_of_ble_eq_true rfl) rfl (fun p e s m below meth c S hr hlo hnm ls hl I => T11_strike_0 S hr hlo ((gd f).2) I (lv_sub hl [0, 1] rfl))
def vX11_stroke : List Cond := .code yX11_stroke cX11_stroke 5 (some .int) :: TB
theorem gX11_stroke_X11_isSurfer : GoodIn vX11_stroke (wsV RX11 115 RX11 yX11_isSurfer vX11_isSurfer) := gV_of wT_33_17 wT_33_18 wT_33_19 wT_1_2 wT_33_20
theorem lf11_stroke_47 : Fl vX11_stroke RX11 47 11 7 := ⟨RX11, TX11, 14, rfl, by decide, (fun w h9 => List.mem_cons_of_mem _ (wC_wsX110 w h9)), (List.mem_cons_of_mem _ wT_2_8)⟩
theorem lf11_stroke_122 : Fl vX11_stroke RX11 122 4 5 := ⟨RX4, TX4, 11, rfl, by decide, (fun w h9 => List.mem_cons_of_mem _ (wC_wsX40 w h9)), (List.mem_cons_of_mem _ wT_33_11)⟩
theorem lf11_stroke_18 : Fl vX11_stroke RX11 18 11 3 := ⟨RX11, TX11, 14, rfl, by decide, (fun w h9 => List.mem_cons_of_mem _ (wC_wsX110 w h9)), (List.mem_cons_of_mem _ wT_1_18)⟩
theorem gX11_stroke_X8_cellBeside : GoodIn vX11_stroke (wsV RX11 202 RX8 yX8_cellBeside vX8_cellBeside) := gV_of wT_41_12 wT_41_13 wT_41_14 wT_1_17 wT_41_15
theorem lf11_stroke_186 : Fl vX11_stroke RX11 186 4 0 := ⟨RX4, TX4, 11, rfl, by decide, (fun w h9 => List.mem_cons_of_mem _ (wC_wsX40 w h9)), (List.mem_cons_of_mem _ wT_34_1)⟩
theorem gX11_stroke_X4_isIn : GoodIn vX11_stroke (wsV RX11 206 RX4 yX4_isIn vX4_isIn) := gV_of wT_41_21 wT_41_22 wT_41_23 wT_2_7 wT_42_0
theorem lf11_stroke_137 : Fl vX11_stroke RX11 137 4 9 := ⟨RX4, TX4, 11, rfl, by decide, (fun w h9 => List.mem_cons_of_mem _ (wC_wsX40 w h9)), (List.mem_cons_of_mem _ wT_33_16)⟩
theorem lf11_stroke_102 : Fl vX11_stroke RX11 102 8 4 := ⟨RX8, TX8, 14, rfl, by decide, (fun w h9 => List.mem_cons_of_mem _ (wC_wsX80 w h9)), (List.mem_cons_of_mem _ wT_32_14)⟩
theorem lf11_stroke_134 : Fl vX11_stroke RX11 134 1 4 := ⟨RX1, TX1, 7, rfl, by decide, (fun w h9 => List.mem_cons_of_mem _ (wC_wsX10 w h9)), (List.mem_cons_of_mem _ wT_33_15)⟩
theorem lf11_stroke_67 : Fl vX11_stroke RX11 67 11 12 := ⟨RX11, TX11, 14, rfl, by decide, (fun w h9 => List.mem_cons_of_mem _ (wC_wsX110 w h9)), (List.mem_cons_of_mem _ wT_2_18)⟩
theorem gX11_stroke_X9_add : GoodIn vX11_stroke (wsV RX11 210 RX9 yX9_add vX9_add) := gV_of wT_42_1 wT_42_2 wT_42_3 wT_2_17 wT_42_4
theorem cd11_stroke : Cd yX11_stroke 2 := ⟨by decide, by decide, by decide +kernel⟩
set_option maxHeartbeats 4000000 in
set_option maxRecDepth 100000 in
theorem T11_stroke_0 (S : CallFix p m c cX11_stroke 5 s args vX11_stroke RX11) (hr : meth.sig.returnType = (some .int)) (hlo : meth.locks = false) {out : Int32 × PH} {h : PH} {a0 : Nat} {x1 : Int32} {x2 : Int32} (f : F11_stroke_0  h a0 x1 x2 = some out) {H : Heap} {locs : List Loc} (I : ph_I D cy b A false h s H locs) {ls : Array Slot} (hl : lv_has ls 5 [(0, .ref (b + a0)), (1, .int x1), (2, .int x2)]) : W p l e ({ frames := 2, cells := 0, slots := 0, locals := 62 } : Room) s m args below meth c H locs 0 0 (MQ below (va_Qi (fun (r : Int32) (u : PH) => (r, u) = out) (ph_B D cy b A false) A) args s 0 0 A) (F0 m 0 ls []) := by
  unfold F11_stroke_0 at f
  refine lv_aload_n S.1 S.2.1 dX11_stroke_0 rfl (lv_at hl 0 rfl) ?_
  refine lv_iload_n S.1 S.2.1 dX11_stroke_1 rfl (lv_at hl 1 rfl) ?_
  obtain ⟨o1, e2, f⟩ := ob f
  refine o_Vi S (As := [.int x1]) (rest := []) (ci := 11) (M11_isSurfer l D cy b A false e2) gX11_stroke_X11_isSurfer rfl rfl rfl cd11_isSurfer ⟨Nat.le_of_ble_eq_true rfl, Nat.le_of_ble_eq_true rfl⟩ I (gd e2).1 clX11 rfl rfl hl.1 rfl (Nat.le_of_ble_eq_true rfl) dX11_stroke_2 ⟨Nat.le_of_ble_eq_true rfl, Nat.le_of_ble_eq_true rfl⟩ (fun H locs I => ?_)
  refine lv_if_eq (tgt := 17) S.1 S.2.1 dX11_stroke_5 (by decide) (fun q3 => ?_) (fun q3 => ?_)
  · have f := (if_pos q3).symm.trans f
    refine lv_iconst (v := (-1)) S.1 S.2.1 dX11_stroke_17 (by decide) ?_
    exact o_iret S hr hlo I f dX11_stroke_18
  · have f := (if_neg q3).symm.trans f
    refine lv_iload_n S.1 S.2.1 dX11_stroke_8 rfl (lv_at hl 2 rfl) ?_
    refine lv_if_lt (tgt := 17) S.1 S.2.1 dX11_stroke_9 (by decide) (fun q4 => ?_) (fun q4 => ?_)
    · have f := (if_pos q4).symm.trans f
      refine lv_iconst (v := (-1)) S.1 S.2.1 dX11_stroke_17 (by decide) ?_
      exact o_iret S hr hlo I f dX11_stroke_18
    · have f := (if_neg q4).symm.trans f
      refine lv_iload_n S.1 S.2.1 dX11_stroke_12 rfl (lv_at hl 2 rfl) ?_
      refine lv_iconst (v := 4) S.1 S.2.1 dX11_stroke_13 (by decide) ?_
      refine lv_icmp_lt (tgt := 19) S.1 S.2.1 dX11_stroke_14 (by decide) (fun q5 => ?_) (fun q5 => ?_)
      · have f := (if_pos q5).symm.trans f
        refine lv_aload_n S.1 S.2.1 dX11_stroke_19 rfl (lv_at hl 0 rfl) ?_
        obtain ⟨r6, e7, f⟩ := ob f
        refine o_gR S lf11_stroke_47 I e7 dX11_stroke_20 ?_
        obtain ⟨r8, e9, f⟩ := ob f
        refine o_gR S lf11_stroke_122 I e9 dX11_stroke_23 ?_
        refine lv_iload_n S.1 S.2.1 dX11_stroke_26 rfl (lv_at hl 1 rfl) ?_
        obtain ⟨v11, e10, f⟩ := ob f
        refine o_iald S I e10 dX11_stroke_27 ?_
        refine lv_istore_n (lv' := [(3, .int v11), (0, .ref (b + a0)), (1, .int x1), (2, .int x2)]) S.1 S.2.1 dX11_stroke_28 rfl hl (by decide) rfl (fun ls hl => ?_)
        refine lv_aload_n S.1 S.2.1 dX11_stroke_29 rfl (lv_at hl 1 rfl) ?_
        obtain ⟨r12, e13, f⟩ := ob f
        refine o_gR S lf11_stroke_18 I e13 dX11_stroke_30 ?_
        refine lv_iload_n S.1 S.2.1 dX11_stroke_33 rfl (lv_at hl 0 rfl) ?_
        refine lv_iload_n S.1 S.2.1 dX11_stroke_34 rfl (lv_at hl 3 rfl) ?_
        obtain ⟨o14, e15, f⟩ := ob f
        refine o_Vi S (As := [.int v11, .int x2]) (rest := []) (ci := 8) (M8_cellBeside l D cy b A false e15) gX11_stroke_X8_cellBeside rfl rfl rfl cd8_cellBeside ⟨Nat.le_of_ble_eq_true rfl, Nat.le_of_ble_eq_true rfl⟩ I (gd e15).1 clX8 rfl rfl hl.1 rfl (Nat.le_of_ble_eq_true rfl) dX11_stroke_35 ⟨Nat.le_of_ble_eq_true rfl, Nat.le_of_ble_eq_true rfl⟩ (fun H locs I => ?_)
        refine lv_istore (lv' := [(4, .int o14.1), (3, .int v11), (0, .ref (b + a0)), (1, .int x1), (2, .int x2)]) S.1 S.2.1 dX11_stroke_38 hl (by decide) rfl (fun ls hl => ?_)
        refine lv_iload S.1 S.2.1 dX11_stroke_40 (lv_at hl 0 rfl) ?_
        refine lv_iconst (v := (-1)) S.1 S.2.1 dX11_stroke_42 (by decide) ?_
        refine lv_icmp_eq (tgt := 88) S.1 S.2.1 dX11_stroke_43 (by decide) (fun q16 => ?_) (fun q16 => ?_)
        · have f := (if_pos q16).symm.trans f
          refine lv_bipush (v := (-2)) S.1 S.2.1 dX11_stroke_88 (by decide) ?_
          exact o_iret S hr hlo I f dX11_stroke_90
        · have f := (if_neg q16).symm.trans f
          refine lv_aload_n S.1 S.2.1 dX11_stroke_46 rfl (lv_at hl 2 rfl) ?_
          obtain ⟨r17, e18, f⟩ := ob f
          refine o_gR S lf11_stroke_47 I e18 dX11_stroke_47 ?_
          refine lv_iload_n S.1 S.2.1 dX11_stroke_50 rfl (lv_at hl 3 rfl) ?_
          refine lv_aload_n S.1 S.2.1 dX11_stroke_51 rfl (lv_at hl 2 rfl) ?_
          obtain ⟨r19, e20, f⟩ := ob f
          refine o_gR S lf11_stroke_47 I e20 dX11_stroke_52 ?_
          obtain ⟨v21, e22, f⟩ := ob f
          refine o_gI S lf11_stroke_186 I e22 dX11_stroke_55 ?_
          obtain ⟨o23, e24, f⟩ := ob f
          refine o_Vi S (As := [.int x1, .int v21]) (rest := []) (ci := 4) (M4_isIn l D cy b A false e24) gX11_stroke_X4_isIn rfl rfl rfl cd4_isIn ⟨Nat.le_of_ble_eq_true rfl, Nat.le_of_ble_eq_true rfl⟩ I (gd e24).1 clX4 rfl rfl hl.1 rfl (Nat.le_of_ble_eq_true rfl) dX11_stroke_58 ⟨Nat.le_of_ble_eq_true rfl, Nat.le_of_ble_eq_true rfl⟩ (fun H locs I => ?_)
          refine lv_if_eq (tgt := 88) S.1 S.2.1 dX11_stroke_61 (by decide) (fun q25 => ?_) (fun q25 => ?_)
          · have f := (if_pos q25).symm.trans f
            refine lv_bipush (v := (-2)) S.1 S.2.1 dX11_stroke_88 (by decide) ?_
            exact o_iret S hr hlo I f dX11_stroke_90
          · have f := (if_neg q25).symm.trans f
            refine lv_aload_n S.1 S.2.1 dX11_stroke_64 rfl (lv_at hl 2 rfl) ?_
            obtain ⟨r26, e27, f⟩ := ob f
            refine o_gR S lf11_stroke_47 I e27 dX11_stroke_65 ?_
            obtain ⟨r28, e29, f⟩ := ob f
            refine o_gR S lf11_stroke_137 I e29 dX11_stroke_68 ?_
            refine lv_iload_n S.1 S.2.1 dX11_stroke_71 rfl (lv_at hl 3 rfl) ?_
            obtain ⟨v31, e30, f⟩ := ob f
            refine o_iald S I e30 dX11_stroke_72 ?_
            refine lv_aload_n S.1 S.2.1 dX11_stroke_73 rfl (lv_at hl 2 rfl) ?_
            obtain ⟨r32, e33, f⟩ := ob f
            refine o_gR S lf11_stroke_18 I e33 dX11_stroke_74 ?_
            obtain ⟨r34, e35, f⟩ := ob f
            refine o_gR S lf11_stroke_102 I e35 dX11_stroke_77 ?_
            obtain ⟨r36, e37, f⟩ := ob f
            refine o_gR S lf11_stroke_134 I e37 dX11_stroke_80 ?_
            refine lv_iload_n S.1 S.2.1 dX11_stroke_83 rfl (lv_at hl 3 rfl) ?_
            obtain ⟨v39, e38, f⟩ := ob f
            refine o_iald S I e38 dX11_stroke_84 ?_
            refine lv_icmp_lt (tgt := 91) S.1 S.2.1 dX11_stroke_85 (by decide) (fun q40 => ?_) (fun q40 => ?_)
            · have f := (if_pos q40).symm.trans f
              refine lv_aload_n S.1 S.2.1 dX11_stroke_91 rfl (lv_at hl 2 rfl) ?_
              obtain ⟨r41, e42, f⟩ := ob f
              refine o_gR S lf11_stroke_47 I e42 dX11_stroke_92 ?_
              obtain ⟨r43, e44, f⟩ := ob f
              refine o_gR S lf11_stroke_122 I e44 dX11_stroke_95 ?_
              refine lv_iload_n S.1 S.2.1 dX11_stroke_98 rfl (lv_at hl 3 rfl) ?_
              refine lv_iload S.1 S.2.1 dX11_stroke_99 (lv_at hl 0 rfl) ?_
              obtain ⟨h46, e45, f⟩ := ob f
              refine o_iast S I e45 dX11_stroke_101 (fun H locs I => ?_)
              refine lv_aload_n S.1 S.2.1 dX11_stroke_102 rfl (lv_at hl 2 rfl) ?_
              obtain ⟨r47, e48, f⟩ := ob f
              refine o_gR S lf11_stroke_47 I e48 dX11_stroke_103 ?_
              obtain ⟨r49, e50, f⟩ := ob f
              refine o_gR S lf11_stroke_137 I e50 dX11_stroke_106 ?_
              refine lv_iload_n S.1 S.2.1 dX11_stroke_109 rfl (lv_at hl 3 rfl) ?_
              refine lv_dup2_11 S.1 S.2.1 dX11_stroke_110 rfl rfl ?_
              obtain ⟨v52, e51, f⟩ := ob f
              refine o_iald S I e51 dX11_stroke_111 ?_
              refine lv_iconst (v := 1) S.1 S.2.1 dX11_stroke_112 (by decide) ?_
              refine lv_iadd S.1 S.2.1 dX11_stroke_113 ?_
              obtain ⟨h54, e53, f⟩ := ob f
              refine o_iast S I e53 dX11_stroke_114 (fun H locs I => ?_)
              refine lv_aload_n S.1 S.2.1 dX11_stroke_115 rfl (lv_at hl 2 rfl) ?_
              obtain ⟨r55, e56, f⟩ := ob f
              refine o_gR S lf11_stroke_67 I e56 dX11_stroke_116 ?_
              refine lv_iload_n S.1 S.2.1 dX11_stroke_119 rfl (lv_at hl 3 rfl) ?_
              refine lv_iload_n S.1 S.2.1 dX11_stroke_120 rfl (lv_at hl 1 rfl) ?_
              obtain ⟨o57, e58, f⟩ := ob f
              refine o_Vv S (As := [.int x1, .int v11]) (rest := []) (ci := 9) (M9_add l D cy b A e58) gX11_stroke_X9_add rfl rfl rfl cd9_add ⟨Nat.le_of_ble_eq_true rfl, Nat.le_of_ble_eq_true rfl⟩ I (gd e58).1 clX9 rfl rfl hl.1 rfl (Nat.le_of_ble_eq_true rfl) dX11_stroke_121 ⟨Nat.le_of_ble_eq_true rfl, Nat.le_of_ble_eq_true rfl⟩ (fun H locs I => ?_)
              refine lv_iload S.1 S.2.1 dX11_stroke_124 (lv_at hl 0 rfl) ?_
              exact o_iret S hr hlo I f dX11_stroke_126
            · have f := (if_neg q40).symm.trans f
              refine lv_bipush (v := (-2)) S.1 S.2.1 dX11_stroke_88 (by decide) ?_
              exact o_iret S hr hlo I f dX11_stroke_90
      · have f := (if_neg q5).symm.trans f
        refine lv_iconst (v := (-1)) S.1 S.2.1 dX11_stroke_17 (by decide) ?_
        exact o_iret S hr hlo I f dX11_stroke_18
theorem M11_stroke (l : Launch) (D : va_G) (cy : Nat → ClassId) (b : Nat) (A : Nat → Prop) {h : PH} {a0 : Nat} {x1 : Int32} {x2 : Int32} {out : Int32 × PH} (f : F11_stroke h a0 x1 x2 = some out) : Met l yX11_stroke vX11_stroke ({ frames := 2, cells := 0, slots := 0, locals := 62 } : Room) (va_Pc [.ref (b + a0), .int x1, .int x2] (ph_B D cy b A false h)) (va_Qi (fun (r : Int32) (u : PH) => (r, u) = out) (ph_B D cy b A false) A) 0 0 A :=
  o_met (by decide) rfl (Nat.le_of_ble_eq_true rfl) rfl (fun p e s m below meth c S hr hlo hnm ls hl I => T11_stroke_0 S hr hlo ((gd f).2) I (lv_sub hl [0, 1, 2] rfl))
def vX11_table : List Cond := .code yX11_table cX11_table 4 (some .int) :: TB
theorem gX11_table_X11_runBy : GoodIn vX11_table (wsV RX11 284 RX11 yX11_runBy vX11_runBy) := gV_of wT_57_6 wT_57_7 wT_57_8 wT_1_2 wT_57_9
theorem lf11_table_51 : Fl vX11_table RX11 51 11 8 := ⟨RX11, TX11, 14, rfl, by decide, (fun w h9 => List.mem_cons_of_mem _ (wC_wsX110 w h9)), (List.mem_cons_of_mem _ wT_2_9)⟩
theorem lf11_table_287 : Fl vX11_table RX11 287 4 3 := ⟨RX4, TX4, 11, rfl, by decide, (fun w h9 => List.mem_cons_of_mem _ (wC_wsX40 w h9)), (List.mem_cons_of_mem _ wT_57_4)⟩
theorem lf11_table_290 : Fl vX11_table RX11 290 4 4 := ⟨RX4, TX4, 11, rfl, by decide, (fun w h9 => List.mem_cons_of_mem _ (wC_wsX40 w h9)), (List.mem_cons_of_mem _ wT_57_5)⟩
theorem lf11_table_18 : Fl vX11_table RX11 18 11 3 := ⟨RX11, TX11, 14, rfl, by decide, (fun w h9 => List.mem_cons_of_mem _ (wC_wsX110 w h9)), (List.mem_cons_of_mem _ wT_1_18)⟩
theorem lf11_table_102 : Fl vX11_table RX11 102 8 4 := ⟨RX8, TX8, 14, rfl, by decide, (fun w h9 => List.mem_cons_of_mem _ (wC_wsX80 w h9)), (List.mem_cons_of_mem _ wT_32_14)⟩
theorem lf11_table_106 : Fl vX11_table RX11 106 1 0 := ⟨RX1, TX1, 7, rfl, by decide, (fun w h9 => List.mem_cons_of_mem _ (wC_wsX10 w h9)), (List.mem_cons_of_mem _ wT_32_15)⟩
theorem gX11_table_X4_unlike : GoodIn vX11_table (wsV RX11 293 RX4 yX4_unlike vX4_unlike) := gV_of wT_57_19 wT_57_20 wT_57_21 wT_2_7 wT_57_22
theorem lf11_table_125 : Fl vX11_table RX11 125 4 6 := ⟨RX4, TX4, 11, rfl, by decide, (fun w h9 => List.mem_cons_of_mem _ (wC_wsX40 w h9)), (List.mem_cons_of_mem _ wT_33_12)⟩
theorem gX11_table_X11_isRule : GoodIn vX11_table (wsV RX11 214 RX11 yX11_isRule vX11_isRule) := gV_of wT_43_0 wT_43_1 wT_43_2 wT_1_2 wT_43_3
theorem gX11_table_X11_isSurfer : GoodIn vX11_table (wsV RX11 115 RX11 yX11_isSurfer vX11_isSurfer) := gV_of wT_33_17 wT_33_18 wT_33_19 wT_1_2 wT_33_20
theorem cd11_table : Cd yX11_table 3 := ⟨by decide, by decide, by decide +kernel⟩
set_option maxHeartbeats 4000000 in
set_option maxRecDepth 100000 in
theorem T11_table_39 (S : CallFix p m c cX11_table 4 s args vX11_table RX11) (hr : meth.sig.returnType = (some .int)) (hlo : meth.locks = false) {out : Int32 × PH} {h : PH} {a0 : Nat} {x1 : Int32} {x2 : Int32} {x3 : Int32} (f : F11_table_39  h a0 x1 x2 x3 = some out) {H : Heap} {locs : List Loc} (I : ph_I D cy b A false h s H locs) {ls : Array Slot} (hl : lv_has ls 4 [(0, .ref (b + a0)), (1, .int x1), (2, .int x2), (3, .int x3)]) : W p l e ({ frames := 7, cells := 0, slots := 0, locals := 177 } : Room) s m args below meth c H locs 0 0 (MQ below (va_Qi (fun (r : Int32) (u : PH) => (r, u) = out) (ph_B D cy b A false) A) args s 0 0 A) (F0 m 39 ls []) := by
  unfold F11_table_39 at f
  refine lv_aload_n S.1 S.2.1 dX11_table_39 rfl (lv_at hl 0 rfl) ?_
  refine lv_iload_n S.1 S.2.1 dX11_table_40 rfl (lv_at hl 1 rfl) ?_
  refine lv_iload_n S.1 S.2.1 dX11_table_41 rfl (lv_at hl 2 rfl) ?_
  obtain ⟨o1, e2, f⟩ := ob f
  refine o_Vv S (As := [.int x1, .int x2]) (rest := []) (ci := 11) (M11_runBy l D cy b A e2) gX11_table_X11_runBy rfl rfl rfl cd11_runBy ⟨Nat.le_of_ble_eq_true rfl, Nat.le_of_ble_eq_true rfl⟩ I (gd e2).1 clX11 rfl rfl hl.1 rfl (Nat.le_of_ble_eq_true rfl) dX11_table_42 ⟨Nat.le_of_ble_eq_true rfl, Nat.le_of_ble_eq_true rfl⟩ (fun H locs I => ?_)
  refine lv_iload_n S.1 S.2.1 dX11_table_45 rfl (lv_at hl 3 rfl) ?_
  rcases Decidable.em (x3 = 5) with q3 | q3
  · have f := (if_pos q3).symm.trans f
    refine lv_tableIn (off := 26) (tgt := 72) S.1 S.2.1 dX11_table_46 (by rw [q3]; decide) (by rw [q3]; decide) (by rw [q3]; rfl) (by decide) ?_
    refine lv_aload_n S.1 S.2.1 dX11_table_72 rfl (lv_at hl 0 rfl) ?_
    obtain ⟨r4, e5, f⟩ := ob f
    refine o_gR S lf11_table_51 I e5 dX11_table_73 ?_
    obtain ⟨v6, e7, f⟩ := ob f
    refine o_gI S lf11_table_287 I e7 dX11_table_76 ?_
    exact o_iret S hr hlo I f dX11_table_79
  have f := (if_neg q3).symm.trans f
  rcases Decidable.em (x3 = 6) with q8 | q8
  · have f := (if_pos q8).symm.trans f
    refine lv_tableIn (off := 34) (tgt := 80) S.1 S.2.1 dX11_table_46 (by rw [q8]; decide) (by rw [q8]; decide) (by rw [q8]; rfl) (by decide) ?_
    refine lv_aload_n S.1 S.2.1 dX11_table_80 rfl (lv_at hl 0 rfl) ?_
    obtain ⟨r9, e10, f⟩ := ob f
    refine o_gR S lf11_table_51 I e10 dX11_table_81 ?_
    obtain ⟨v11, e12, f⟩ := ob f
    refine o_gI S lf11_table_290 I e12 dX11_table_84 ?_
    exact o_iret S hr hlo I f dX11_table_87
  have f := (if_neg q8).symm.trans f
  rcases Decidable.em (x3 = 7) with q13 | q13
  · have f := (if_pos q13).symm.trans f
    refine lv_tableIn (off := 42) (tgt := 88) S.1 S.2.1 dX11_table_46 (by rw [q13]; decide) (by rw [q13]; decide) (by rw [q13]; rfl) (by decide) ?_
    refine lv_aload_n S.1 S.2.1 dX11_table_88 rfl (lv_at hl 0 rfl) ?_
    obtain ⟨r14, e15, f⟩ := ob f
    refine o_gR S lf11_table_51 I e15 dX11_table_89 ?_
    refine lv_aload_n S.1 S.2.1 dX11_table_92 rfl (lv_at hl 0 rfl) ?_
    obtain ⟨r16, e17, f⟩ := ob f
    refine o_gR S lf11_table_18 I e17 dX11_table_93 ?_
    obtain ⟨r18, e19, f⟩ := ob f
    refine o_gR S lf11_table_102 I e19 dX11_table_96 ?_
    obtain ⟨v20, e21, f⟩ := ob f
    refine o_gI S lf11_table_106 I e21 dX11_table_99 ?_
    obtain ⟨o22, e23, f⟩ := ob f
    refine o_Vi S (As := [.int v20]) (rest := []) (ci := 4) (M4_unlike l D cy b A false e23) gX11_table_X4_unlike rfl rfl rfl cd4_unlike ⟨Nat.le_of_ble_eq_true rfl, Nat.le_of_ble_eq_true rfl⟩ I (gd e23).1 clX4 rfl rfl hl.1 rfl (Nat.le_of_ble_eq_true rfl) dX11_table_102 ⟨Nat.le_of_ble_eq_true rfl, Nat.le_of_ble_eq_true rfl⟩ (fun H locs I => ?_)
    exact o_iret S hr hlo I f dX11_table_105
  have f := (if_neg q13).symm.trans f
  refine lv_tableOut (tgt := 106) S.1 S.2.1 dX11_table_46 (by have := lv_neT q3 (a := 5) (by decide); have := lv_neT q8 (a := 6) (by decide); have := lv_neT q13 (a := 7) (by decide); omega) (by decide) ?_
  refine lv_aload_n S.1 S.2.1 dX11_table_106 rfl (lv_at hl 0 rfl) ?_
  obtain ⟨r24, e25, f⟩ := ob f
  refine o_gR S lf11_table_51 I e25 dX11_table_107 ?_
  obtain ⟨r26, e27, f⟩ := ob f
  refine o_gR S lf11_table_125 I e27 dX11_table_110 ?_
  refine lv_iload_n S.1 S.2.1 dX11_table_113 rfl (lv_at hl 3 rfl) ?_
  obtain ⟨v29, e28, f⟩ := ob f
  refine o_iald S I e28 dX11_table_114 ?_
  exact o_iret S hr hlo I f dX11_table_115
set_option maxHeartbeats 4000000 in
set_option maxRecDepth 100000 in
theorem T11_table_0 (S : CallFix p m c cX11_table 4 s args vX11_table RX11) (hr : meth.sig.returnType = (some .int)) (hlo : meth.locks = false) {out : Int32 × PH} {h : PH} {a0 : Nat} {x1 : Int32} {x2 : Int32} {x3 : Int32} (f : F11_table_0  h a0 x1 x2 x3 = some out) {H : Heap} {locs : List Loc} (I : ph_I D cy b A false h s H locs) {ls : Array Slot} (hl : lv_has ls 4 [(0, .ref (b + a0)), (1, .int x1), (2, .int x2), (3, .int x3)]) : W p l e ({ frames := 7, cells := 0, slots := 0, locals := 177 } : Room) s m args below meth c H locs 0 0 (MQ below (va_Qi (fun (r : Int32) (u : PH) => (r, u) = out) (ph_B D cy b A false) A) args s 0 0 A) (F0 m 0 ls []) := by
  unfold F11_table_0 at f
  refine lv_aload_n S.1 S.2.1 dX11_table_0 rfl (lv_at hl 0 rfl) ?_
  refine lv_iload_n S.1 S.2.1 dX11_table_1 rfl (lv_at hl 1 rfl) ?_
  obtain ⟨o1, e2, f⟩ := ob f
  refine o_Vi S (As := [.int x1]) (rest := []) (ci := 11) (M11_isRule l D cy b A false e2) gX11_table_X11_isRule rfl rfl rfl cd11_isRule ⟨Nat.le_of_ble_eq_true rfl, Nat.le_of_ble_eq_true rfl⟩ I (gd e2).1 clX11 rfl rfl hl.1 rfl (Nat.le_of_ble_eq_true rfl) dX11_table_2 ⟨Nat.le_of_ble_eq_true rfl, Nat.le_of_ble_eq_true rfl⟩ (fun H locs I => ?_)
  refine lv_if_eq (tgt := 22) S.1 S.2.1 dX11_table_5 (by decide) (fun q3 => ?_) (fun q3 => ?_)
  · have f := (if_pos q3).symm.trans f
    refine lv_iconst (v := (-1)) S.1 S.2.1 dX11_table_22 (by decide) ?_
    exact o_iret S hr hlo I f dX11_table_23
  · have f := (if_neg q3).symm.trans f
    refine lv_iload_n S.1 S.2.1 dX11_table_8 rfl (lv_at hl 2 rfl) ?_
    refine lv_if_lt (tgt := 22) S.1 S.2.1 dX11_table_9 (by decide) (fun q4 => ?_) (fun q4 => ?_)
    · have f := (if_pos q4).symm.trans f
      refine lv_iconst (v := (-1)) S.1 S.2.1 dX11_table_22 (by decide) ?_
      exact o_iret S hr hlo I f dX11_table_23
    · have f := (if_neg q4).symm.trans f
      refine lv_iload_n S.1 S.2.1 dX11_table_12 rfl (lv_at hl 3 rfl) ?_
      refine lv_if_lt (tgt := 22) S.1 S.2.1 dX11_table_13 (by decide) (fun q5 => ?_) (fun q5 => ?_)
      · have f := (if_pos q5).symm.trans f
        refine lv_iconst (v := (-1)) S.1 S.2.1 dX11_table_22 (by decide) ?_
        exact o_iret S hr hlo I f dX11_table_23
      · have f := (if_neg q5).symm.trans f
        refine lv_iload_n S.1 S.2.1 dX11_table_16 rfl (lv_at hl 3 rfl) ?_
        refine lv_bipush (v := 7) S.1 S.2.1 dX11_table_17 (by decide) ?_
        refine lv_icmp_le (tgt := 24) S.1 S.2.1 dX11_table_19 (by decide) (fun q6 => ?_) (fun q6 => ?_)
        · have f := (if_pos q6).symm.trans f
          refine lv_iload_n S.1 S.2.1 dX11_table_24 rfl (lv_at hl 3 rfl) ?_
          refine lv_iconst (v := 5) S.1 S.2.1 dX11_table_25 (by decide) ?_
          refine lv_icmp_ge (tgt := 39) S.1 S.2.1 dX11_table_26 (by decide) (fun q7 => ?_) (fun q7 => ?_)
          · have f := (if_pos q7).symm.trans f
            exact T11_table_39 S hr hlo  f I (lv_sub hl [0, 1, 2, 3] rfl)
          · have f := (if_neg q7).symm.trans f
            refine lv_aload_n S.1 S.2.1 dX11_table_29 rfl (lv_at hl 0 rfl) ?_
            refine lv_iload_n S.1 S.2.1 dX11_table_30 rfl (lv_at hl 3 rfl) ?_
            obtain ⟨o8, e9, f⟩ := ob f
            refine o_Vi S (As := [.int x3]) (rest := []) (ci := 11) (M11_isSurfer l D cy b A false e9) gX11_table_X11_isSurfer rfl rfl rfl cd11_isSurfer ⟨Nat.le_of_ble_eq_true rfl, Nat.le_of_ble_eq_true rfl⟩ I (gd e9).1 clX11 rfl rfl hl.1 rfl (Nat.le_of_ble_eq_true rfl) dX11_table_31 ⟨Nat.le_of_ble_eq_true rfl, Nat.le_of_ble_eq_true rfl⟩ (fun H locs I => ?_)
            refine lv_if_ne (tgt := 39) S.1 S.2.1 dX11_table_34 (by decide) (fun q10 => ?_) (fun q10 => ?_)
            · have f := (if_neg q10).symm.trans f
              exact T11_table_39 S hr hlo  f I (lv_sub hl [0, 1, 2, 3] rfl)
            · have f := (if_pos q10).symm.trans f
              refine lv_iconst (v := (-1)) S.1 S.2.1 dX11_table_37 (by decide) ?_
              exact o_iret S hr hlo I f dX11_table_38
        · have f := (if_neg q6).symm.trans f
          refine lv_iconst (v := (-1)) S.1 S.2.1 dX11_table_22 (by decide) ?_
          exact o_iret S hr hlo I f dX11_table_23
theorem M11_table (l : Launch) (D : va_G) (cy : Nat → ClassId) (b : Nat) (A : Nat → Prop) {h : PH} {a0 : Nat} {x1 : Int32} {x2 : Int32} {x3 : Int32} {out : Int32 × PH} (f : F11_table h a0 x1 x2 x3 = some out) : Met l yX11_table vX11_table ({ frames := 7, cells := 0, slots := 0, locals := 177 } : Room) (va_Pc [.ref (b + a0), .int x1, .int x2, .int x3] (ph_B D cy b A false h)) (va_Qi (fun (r : Int32) (u : PH) => (r, u) = out) (ph_B D cy b A false) A) 0 0 A :=
  o_met (by decide) rfl (Nat.le_of_ble_eq_true rfl) rfl (fun p e s m below meth c S hr hlo hnm ls hl I => T11_table_0 S hr hlo ((gd f).2) I (lv_sub hl [0, 1, 2, 3] rfl))
def vX11_text : List Cond := .code yX11_text cX11_text 3 (some .int) :: TB
theorem lf11_text_78 : Fl vX11_text RX11 78 11 1 := ⟨RX11, TX11, 14, rfl, by decide, (fun w h9 => List.mem_cons_of_mem _ (wC_wsX110 w h9)), (List.mem_cons_of_mem _ wT_13_8)⟩
theorem lp11_text_78 : Pl vX11_text RX11 78 11 1 .int := ⟨RX11, TX11, 14, tyX11, rfl, by decide, (fun w h9 => List.mem_cons_of_mem _ (wC_wsX110 w h9)), (List.mem_cons_of_mem _ wT_13_8), tyX11_ok, nmX11, rfl, rfl⟩
theorem lf11_text_30 : Fl vX11_text RX11 30 11 2 := ⟨RX11, TX11, 14, rfl, by decide, (fun w h9 => List.mem_cons_of_mem _ (wC_wsX110 w h9)), (List.mem_cons_of_mem _ wT_1_23)⟩
theorem lf11_text_11 : Fl vX11_text RX11 11 11 0 := ⟨RX11, TX11, 14, rfl, by decide, (fun w h9 => List.mem_cons_of_mem _ (wC_wsX110 w h9)), (List.mem_cons_of_mem _ wT_1_14)⟩
theorem lf11_text_22 : Fl vX11_text RX11 22 11 4 := ⟨RX11, TX11, 14, rfl, by decide, (fun w h9 => List.mem_cons_of_mem _ (wC_wsX110 w h9)), (List.mem_cons_of_mem _ wT_1_19)⟩
theorem gX11_text_X5_readAll : GoodIn vX11_text (wsV RX11 86 RX5 yX5_readAll vX5_readAll) := gV_of wT_14_0 wT_14_1 wT_14_2 wT_1_22 wT_14_3
theorem lf11_text_18 : Fl vX11_text RX11 18 11 3 := ⟨RX11, TX11, 14, rfl, by decide, (fun w h9 => List.mem_cons_of_mem _ (wC_wsX110 w h9)), (List.mem_cons_of_mem _ wT_1_18)⟩
theorem lp11_text_18 : Pl vX11_text RX11 18 11 3 (.object "WhoseWave$Told") := ⟨RX11, TX11, 14, tyX11, rfl, by decide, (fun w h9 => List.mem_cons_of_mem _ (wC_wsX110 w h9)), (List.mem_cons_of_mem _ wT_1_18), tyX11_ok, nmX11, rfl, rfl⟩
theorem lp11_text_22 : Pl vX11_text RX11 22 11 4 (.object "WhoseWave$Told") := ⟨RX11, TX11, 14, tyX11, rfl, by decide, (fun w h9 => List.mem_cons_of_mem _ (wC_wsX110 w h9)), (List.mem_cons_of_mem _ wT_1_19), tyX11_ok, nmX11, rfl, rfl⟩
theorem gX11_text_X11_beginAnew : GoodIn vX11_text (wsV RX11 90 RX11 yX11_beginAnew vX11_beginAnew) := gV_of wT_23_14 wT_23_15 wT_23_16 wT_1_2 wT_23_17
theorem lf11_text_93 : Fl vX11_text RX11 93 8 12 := ⟨RX8, TX8, 14, rfl, by decide, (fun w h9 => List.mem_cons_of_mem _ (wC_wsX80 w h9)), (List.mem_cons_of_mem _ wT_13_23)⟩
theorem cd11_text : Cd yX11_text 1 := ⟨by decide, by decide, by decide +kernel⟩
set_option maxHeartbeats 4000000 in
set_option maxRecDepth 100000 in
theorem T11_text_0 (S : CallFix p m c cX11_text 3 s args vX11_text RX11) (hr : meth.sig.returnType = (some .int)) (hlo : meth.locks = false) {out : Int32 × PH} {h : PH} {a0 : Nat} {x1 : Int32} (f : F11_text_0  h a0 x1 = some out) {H : Heap} {locs : List Loc} (I : ph_I D cy b A false h s H locs) {ls : Array Slot} (hl : lv_has ls 3 [(0, .ref (b + a0)), (1, .int x1)]) : W p l e ({ frames := 7, cells := 0, slots := 0, locals := 167 } : Room) s m args below meth c H locs 0 0 (MQ below (va_Qi (fun (r : Int32) (u : PH) => (r, u) = out) (ph_B D cy b A false) A) args s 0 0 A) (F0 m 0 ls []) := by
  unfold F11_text_0 at f
  refine lv_iload_n S.1 S.2.1 dX11_text_0 rfl (lv_at hl 1 rfl) ?_
  refine lv_if_lt (tgt := 12) S.1 S.2.1 dX11_text_1 (by decide) (fun q1 => ?_) (fun q1 => ?_)
  · have f := (if_pos q1).symm.trans f
    refine lv_bipush (v := (-2)) S.1 S.2.1 dX11_text_12 (by decide) ?_
    exact o_iret S hr hlo I f dX11_text_14
  · have f := (if_neg q1).symm.trans f
    refine lv_iload_n S.1 S.2.1 dX11_text_4 rfl (lv_at hl 1 rfl) ?_
    refine lv_aload_n S.1 S.2.1 dX11_text_5 rfl (lv_at hl 0 rfl) ?_
    obtain ⟨v2, e3, f⟩ := ob f
    refine o_gI S lf11_text_78 I e3 dX11_text_6 ?_
    refine lv_icmp_le (tgt := 15) S.1 S.2.1 dX11_text_9 (by decide) (fun q4 => ?_) (fun q4 => ?_)
    · have f := (if_pos q4).symm.trans f
      refine lv_aload_n S.1 S.2.1 dX11_text_15 rfl (lv_at hl 0 rfl) ?_
      refine lv_iconst (v := 0) S.1 S.2.1 dX11_text_16 (by decide) ?_
      obtain ⟨h5, e6, f⟩ := ob f
      refine o_pI S lp11_text_78 I e6 dX11_text_17 (fun H locs I => ?_)
      refine lv_aload_n S.1 S.2.1 dX11_text_20 rfl (lv_at hl 0 rfl) ?_
      obtain ⟨r7, e8, f⟩ := ob f
      refine o_gR S lf11_text_30 I e8 dX11_text_21 ?_
      refine lv_aload_n S.1 S.2.1 dX11_text_24 rfl (lv_at hl 0 rfl) ?_
      obtain ⟨r9, e10, f⟩ := ob f
      refine o_gR S lf11_text_11 I e10 dX11_text_25 ?_
      refine lv_iload_n S.1 S.2.1 dX11_text_28 rfl (lv_at hl 1 rfl) ?_
      refine lv_aload_n S.1 S.2.1 dX11_text_29 rfl (lv_at hl 0 rfl) ?_
      obtain ⟨r11, e12, f⟩ := ob f
      refine o_gR S lf11_text_22 I e12 dX11_text_30 ?_
      obtain ⟨o13, e14, f⟩ := ob f
      refine o_Vi S (As := [.ref (b + r9), .int x1, .ref (b + r11)]) (rest := []) (ci := 5) (M5_readAll l D cy b A false e14) gX11_text_X5_readAll rfl rfl rfl cd5_readAll ⟨Nat.le_of_ble_eq_true rfl, Nat.le_of_ble_eq_true rfl⟩ I (gd e14).1 clX5 rfl rfl hl.1 rfl (Nat.le_of_ble_eq_true rfl) dX11_text_33 ⟨Nat.le_of_ble_eq_true rfl, Nat.le_of_ble_eq_true rfl⟩ (fun H locs I => ?_)
      refine lv_if_ne (tgt := 41) S.1 S.2.1 dX11_text_36 (by decide) (fun q15 => ?_) (fun q15 => ?_)
      · have f := (if_neg q15).symm.trans f
        refine lv_aload_n S.1 S.2.1 dX11_text_41 rfl (lv_at hl 0 rfl) ?_
        obtain ⟨r16, e17, f⟩ := ob f
        refine o_gR S lf11_text_18 I e17 dX11_text_42 ?_
        refine lv_astore_n (lv' := [(2, .ref (b + r16)), (0, .ref (b + a0)), (1, .int x1)]) S.1 S.2.1 dX11_text_45 rfl hl (by decide) rfl (fun ls hl => ?_)
        refine lv_aload_n S.1 S.2.1 dX11_text_46 rfl (lv_at hl 1 rfl) ?_
        refine lv_aload_n S.1 S.2.1 dX11_text_47 rfl (lv_at hl 1 rfl) ?_
        obtain ⟨r18, e19, f⟩ := ob f
        refine o_gR S lf11_text_22 I e19 dX11_text_48 ?_
        obtain ⟨h20, e21, f⟩ := ob f
        refine o_pR S lp11_text_18 (Or.inl ⟨_, rfl⟩) I e21 dX11_text_51 (fun H locs I => ?_)
        refine lv_aload_n S.1 S.2.1 dX11_text_54 rfl (lv_at hl 1 rfl) ?_
        refine lv_aload_n S.1 S.2.1 dX11_text_55 rfl (lv_at hl 0 rfl) ?_
        obtain ⟨h22, e23, f⟩ := ob f
        refine o_pR S lp11_text_22 (Or.inl ⟨_, rfl⟩) I e23 dX11_text_56 (fun H locs I => ?_)
        refine lv_aload_n S.1 S.2.1 dX11_text_59 rfl (lv_at hl 1 rfl) ?_
        obtain ⟨o24, e25, f⟩ := ob f
        refine o_Vv S (As := []) (rest := []) (ci := 11) (M11_beginAnew l D cy b A e25) gX11_text_X11_beginAnew rfl rfl rfl cd11_beginAnew ⟨Nat.le_of_ble_eq_true rfl, Nat.le_of_ble_eq_true rfl⟩ I (gd e25).1 clX11 rfl rfl hl.1 rfl (Nat.le_of_ble_eq_true rfl) dX11_text_60 ⟨Nat.le_of_ble_eq_true rfl, Nat.le_of_ble_eq_true rfl⟩ (fun H locs I => ?_)
        refine lv_aload_n S.1 S.2.1 dX11_text_63 rfl (lv_at hl 1 rfl) ?_
        obtain ⟨r26, e27, f⟩ := ob f
        refine o_gR S lf11_text_18 I e27 dX11_text_64 ?_
        obtain ⟨v28, e29, f⟩ := ob f
        refine o_gI S lf11_text_93 I e29 dX11_text_67 ?_
        exact o_iret S hr hlo I f dX11_text_70
      · have f := (if_pos q15).symm.trans f
        refine lv_iconst (v := (-1)) S.1 S.2.1 dX11_text_39 (by decide) ?_
        exact o_iret S hr hlo I f dX11_text_40
    · have f := (if_neg q4).symm.trans f
      refine lv_bipush (v := (-2)) S.1 S.2.1 dX11_text_12 (by decide) ?_
      exact o_iret S hr hlo I f dX11_text_14
theorem M11_text (l : Launch) (D : va_G) (cy : Nat → ClassId) (b : Nat) (A : Nat → Prop) {h : PH} {a0 : Nat} {x1 : Int32} {out : Int32 × PH} (f : F11_text h a0 x1 = some out) : Met l yX11_text vX11_text ({ frames := 7, cells := 0, slots := 0, locals := 167 } : Room) (va_Pc [.ref (b + a0), .int x1] (ph_B D cy b A false h)) (va_Qi (fun (r : Int32) (u : PH) => (r, u) = out) (ph_B D cy b A false) A) 0 0 A :=
  o_met (by decide) rfl (Nat.le_of_ble_eq_true rfl) rfl (fun p e s m below meth c S hr hlo hnm ls hl I => T11_text_0 S hr hlo ((gd f).2) I (lv_sub hl [0, 1] rfl))
def vX11_tried : List Cond := .code yX11_tried cX11_tried 6 (some .int) :: TB
theorem lf11_tried_18 : Fl vX11_tried RX11 18 11 3 := ⟨RX11, TX11, 14, rfl, by decide, (fun w h9 => List.mem_cons_of_mem _ (wC_wsX110 w h9)), (List.mem_cons_of_mem _ wT_1_18)⟩
theorem lf11_tried_150 : Fl vX11_tried RX11 150 8 5 := ⟨RX8, TX8, 14, rfl, by decide, (fun w h9 => List.mem_cons_of_mem _ (wC_wsX80 w h9)), (List.mem_cons_of_mem _ wT_36_16)⟩
theorem lf11_tried_299 : Fl vX11_tried RX11 299 10 1 := ⟨RX10, TX10, 8, rfl, by decide, (fun w h9 => List.mem_cons_of_mem _ (wC_wsX100 w h9)), (List.mem_cons_of_mem _ wT_37_2)⟩
theorem lf11_tried_51 : Fl vX11_tried RX11 51 11 8 := ⟨RX11, TX11, 14, rfl, by decide, (fun w h9 => List.mem_cons_of_mem _ (wC_wsX110 w h9)), (List.mem_cons_of_mem _ wT_2_9)⟩
theorem lf11_tried_102 : Fl vX11_tried RX11 102 8 4 := ⟨RX8, TX8, 14, rfl, by decide, (fun w h9 => List.mem_cons_of_mem _ (wC_wsX80 w h9)), (List.mem_cons_of_mem _ wT_32_14)⟩
theorem lf11_tried_106 : Fl vX11_tried RX11 106 1 0 := ⟨RX1, TX1, 7, rfl, by decide, (fun w h9 => List.mem_cons_of_mem _ (wC_wsX10 w h9)), (List.mem_cons_of_mem _ wT_32_15)⟩
theorem gX11_tried_X4_hadInSum : GoodIn vX11_tried (wsV RX11 317 RX4 yX4_hadInSum vX4_hadInSum) := gV_of wT_60_21 wT_60_22 wT_60_23 wT_2_7 wT_61_0
theorem lf11_tried_41 : Fl vX11_tried RX11 41 11 6 := ⟨RX11, TX11, 14, rfl, by decide, (fun w h9 => List.mem_cons_of_mem _ (wC_wsX110 w h9)), (List.mem_cons_of_mem _ wT_2_4)⟩
theorem gX11_tried_X6_bringWave : GoodIn vX11_tried (wsV RX11 364 RX6 yX6_bringWave vX6_bringWave) := gV_of wT_43_20 wT_43_21 wT_43_22 wT_2_2 wT_43_23
theorem lf11_tried_47 : Fl vX11_tried RX11 47 11 7 := ⟨RX11, TX11, 14, rfl, by decide, (fun w h9 => List.mem_cons_of_mem _ (wC_wsX110 w h9)), (List.mem_cons_of_mem _ wT_2_8)⟩
theorem lf11_tried_217 : Fl vX11_tried RX11 217 4 1 := ⟨RX4, TX4, 11, rfl, by decide, (fun w h9 => List.mem_cons_of_mem _ (wC_wsX40 w h9)), (List.mem_cons_of_mem _ wT_42_23)⟩
theorem gX11_tried_X4_takeForRun : GoodIn vX11_tried (wsV RX11 353 RX4 yX4_takeForRun vX4_takeForRun) := gV_of wT_57_10 wT_57_11 wT_57_12 wT_2_7 wT_57_13
theorem lf11_tried_37 : Fl vX11_tried RX11 37 11 5 := ⟨RX11, TX11, 14, rfl, by decide, (fun w h9 => List.mem_cons_of_mem _ (wC_wsX110 w h9)), (List.mem_cons_of_mem _ wT_2_3)⟩
theorem gX11_tried_X6_takeOver : GoodIn vX11_tried (wsV RX11 357 RX6 yX6_takeOver vX6_takeOver) := gV_of wT_64_21 wT_64_22 wT_64_23 wT_2_2 wT_65_0
theorem gX11_tried_X11_changeTrial : GoodIn vX11_tried (wsV RX11 361 RX11 yX11_changeTrial vX11_changeTrial) := gV_of wT_65_1 wT_65_2 wT_65_3 wT_1_2 wT_65_4
theorem gX11_tried_X11_firstToCome : GoodIn vX11_tried (wsV RX11 233 RX11 yX11_firstToCome vX11_firstToCome) := gV_of wT_49_9 wT_49_10 wT_49_11 wT_1_2 wT_49_12
theorem gX11_tried_X11_isSurfer : GoodIn vX11_tried (wsV RX11 115 RX11 yX11_isSurfer vX11_isSurfer) := gV_of wT_33_17 wT_33_18 wT_33_19 wT_1_2 wT_33_20
theorem cd11_tried : Cd yX11_tried 3 := ⟨by decide, by decide, by decide +kernel⟩
set_option maxHeartbeats 4000000 in
set_option maxRecDepth 100000 in
theorem T11_tried_96 (S : CallFix p m c cX11_tried 6 s args vX11_tried RX11) (hr : meth.sig.returnType = (some .int)) (hlo : meth.locks = false) {out : Int32 × PH} : ∀ (n : Nat) {h : PH} {a0 : Nat} {x5 : Int32} (f : F11_tried_96  n h a0 x5 = some out) {H : Heap} {locs : List Loc} (I : ph_I D cy b A false h s H locs) {ls : Array Slot} (hl : lv_has ls 6 [(0, .ref (b + a0)), (5, .int x5)]), W p l e ({ frames := 6, cells := 0, slots := 0, locals := 154 } : Room) s m args below meth c H locs 0 0 (MQ below (va_Qi (fun (r : Int32) (u : PH) => (r, u) = out) (ph_B D cy b A false) A) args s 0 0 A) (F0 m 96 ls []) := by
  intro n
  induction n with
  | zero => intro h a0 x5 f; rw [F11_tried_96] at f; cases f
  | succ n ih =>
    intro h a0 x5 f H locs I ls hl
    rw [F11_tried_96] at f
    refine lv_iload S.1 S.2.1 dX11_tried_96 (lv_at hl 1 rfl) ?_
    refine lv_aload_n S.1 S.2.1 dX11_tried_98 rfl (lv_at hl 0 rfl) ?_
    obtain ⟨r1, e2, f⟩ := ob f
    refine o_gR S lf11_tried_18 I e2 dX11_tried_99 ?_
    obtain ⟨r3, e4, f⟩ := ob f
    refine o_gR S lf11_tried_150 I e4 dX11_tried_102 ?_
    obtain ⟨v5, e6, f⟩ := ob f
    refine o_gI S lf11_tried_299 I e6 dX11_tried_105 ?_
    refine lv_icmp_ge (tgt := 130) S.1 S.2.1 dX11_tried_108 (by decide) (fun q7 => ?_) (fun q7 => ?_)
    · have f := (if_pos q7).symm.trans f
      refine lv_aload_n S.1 S.2.1 dX11_tried_130 rfl (lv_at hl 0 rfl) ?_
      obtain ⟨r8, e9, f⟩ := ob f
      refine o_gR S lf11_tried_51 I e9 dX11_tried_131 ?_
      refine lv_aload_n S.1 S.2.1 dX11_tried_134 rfl (lv_at hl 0 rfl) ?_
      obtain ⟨r10, e11, f⟩ := ob f
      refine o_gR S lf11_tried_18 I e11 dX11_tried_135 ?_
      obtain ⟨r12, e13, f⟩ := ob f
      refine o_gR S lf11_tried_102 I e13 dX11_tried_138 ?_
      obtain ⟨v14, e15, f⟩ := ob f
      refine o_gI S lf11_tried_106 I e15 dX11_tried_141 ?_
      obtain ⟨o16, e17, f⟩ := ob f
      refine o_Vi S (As := [.int v14]) (rest := []) (ci := 4) (M4_hadInSum l D cy b A false e17) gX11_tried_X4_hadInSum rfl rfl rfl cd4_hadInSum ⟨Nat.le_of_ble_eq_true rfl, Nat.le_of_ble_eq_true rfl⟩ I (gd e17).1 clX4 rfl rfl hl.1 rfl (Nat.le_of_ble_eq_true rfl) dX11_tried_144 ⟨Nat.le_of_ble_eq_true rfl, Nat.le_of_ble_eq_true rfl⟩ (fun H locs I => ?_)
      exact o_iret S hr hlo I f dX11_tried_147
    · have f := (if_neg q7).symm.trans f
      refine lv_aload_n S.1 S.2.1 dX11_tried_111 rfl (lv_at hl 0 rfl) ?_
      obtain ⟨r18, e19, f⟩ := ob f
      refine o_gR S lf11_tried_41 I e19 dX11_tried_112 ?_
      refine lv_aload_n S.1 S.2.1 dX11_tried_115 rfl (lv_at hl 0 rfl) ?_
      obtain ⟨r20, e21, f⟩ := ob f
      refine o_gR S lf11_tried_51 I e21 dX11_tried_116 ?_
      refine lv_iload S.1 S.2.1 dX11_tried_119 (lv_at hl 1 rfl) ?_
      obtain ⟨o22, e23, f⟩ := ob f
      refine o_Vv S (As := [.ref (b + r20), .int x5]) (rest := []) (ci := 6) (M6_bringWave l D cy b A false e23) gX11_tried_X6_bringWave rfl rfl rfl cd6_bringWave ⟨Nat.le_of_ble_eq_true rfl, Nat.le_of_ble_eq_true rfl⟩ I (gd e23).1 clX6 rfl rfl hl.1 rfl (Nat.le_of_ble_eq_true rfl) dX11_tried_121 ⟨Nat.le_of_ble_eq_true rfl, Nat.le_of_ble_eq_true rfl⟩ (fun H locs I => ?_)
      refine lv_iinc (v := (x5 + 1)) (lv' := [(5, .int (x5 + 1)), (0, .ref (b + a0))]) S.1 S.2.1 dX11_tried_124 hl (k := 1) rfl (congrArg (fun z => x5 + z) (by decide)) (by decide) rfl (fun ls hl => ?_)
      refine lv_goto (tgt := 96) S.1 S.2.1 dX11_tried_127 (by decide) ?_
      exact ih f I (lv_sub hl [1, 0] rfl)
set_option maxHeartbeats 4000000 in
set_option maxRecDepth 100000 in
theorem T11_tried_54 (S : CallFix p m c cX11_tried 6 s args vX11_tried RX11) (hr : meth.sig.returnType = (some .int)) (hlo : meth.locks = false) {out : Int32 × PH} {h : PH} {a0 : Nat} {x1 : Int32} {x2 : Int32} {x3 : Int32} (f : F11_tried_54  h a0 x1 x2 x3 = some out) {H : Heap} {locs : List Loc} (I : ph_I D cy b A false h s H locs) {ls : Array Slot} (hl : lv_has ls 6 [(0, .ref (b + a0)), (1, .int x1), (2, .int x2), (3, .int x3)]) : W p l e ({ frames := 6, cells := 0, slots := 0, locals := 154 } : Room) s m args below meth c H locs 0 0 (MQ below (va_Qi (fun (r : Int32) (u : PH) => (r, u) = out) (ph_B D cy b A false) A) args s 0 0 A) (F0 m 54 ls []) := by
  unfold F11_tried_54 at f
  refine lv_aload_n S.1 S.2.1 dX11_tried_54 rfl (lv_at hl 0 rfl) ?_
  obtain ⟨r1, e2, f⟩ := ob f
  refine o_gR S lf11_tried_51 I e2 dX11_tried_55 ?_
  refine lv_aload_n S.1 S.2.1 dX11_tried_58 rfl (lv_at hl 0 rfl) ?_
  obtain ⟨r3, e4, f⟩ := ob f
  refine o_gR S lf11_tried_47 I e4 dX11_tried_59 ?_
  refine lv_aload_n S.1 S.2.1 dX11_tried_62 rfl (lv_at hl 0 rfl) ?_
  obtain ⟨r5, e6, f⟩ := ob f
  refine o_gR S lf11_tried_47 I e6 dX11_tried_63 ?_
  obtain ⟨v7, e8, f⟩ := ob f
  refine o_gI S lf11_tried_217 I e8 dX11_tried_66 ?_
  refine lv_iload_n S.1 S.2.1 dX11_tried_69 rfl (lv_at hl 3 rfl) ?_
  obtain ⟨o9, e10, f⟩ := ob f
  refine o_Vv S (As := [.ref (b + r3), .int v7, .int x3]) (rest := []) (ci := 4) (M4_takeForRun l D cy b A e10) gX11_tried_X4_takeForRun rfl rfl rfl cd4_takeForRun ⟨Nat.le_of_ble_eq_true rfl, Nat.le_of_ble_eq_true rfl⟩ I (gd e10).1 clX4 rfl rfl hl.1 rfl (Nat.le_of_ble_eq_true rfl) dX11_tried_70 ⟨Nat.le_of_ble_eq_true rfl, Nat.le_of_ble_eq_true rfl⟩ (fun H locs I => ?_)
  refine lv_aload_n S.1 S.2.1 dX11_tried_73 rfl (lv_at hl 0 rfl) ?_
  obtain ⟨r11, e12, f⟩ := ob f
  refine o_gR S lf11_tried_41 I e12 dX11_tried_74 ?_
  refine lv_aload_n S.1 S.2.1 dX11_tried_77 rfl (lv_at hl 0 rfl) ?_
  obtain ⟨r13, e14, f⟩ := ob f
  refine o_gR S lf11_tried_37 I e14 dX11_tried_78 ?_
  obtain ⟨o15, e16, f⟩ := ob f
  refine o_Vv S (As := [.ref (b + r13)]) (rest := []) (ci := 6) (M6_takeOver l D cy b A e16) gX11_tried_X6_takeOver rfl rfl rfl cd6_takeOver ⟨Nat.le_of_ble_eq_true rfl, Nat.le_of_ble_eq_true rfl⟩ I (gd e16).1 clX6 rfl rfl hl.1 rfl (Nat.le_of_ble_eq_true rfl) dX11_tried_81 ⟨Nat.le_of_ble_eq_true rfl, Nat.le_of_ble_eq_true rfl⟩ (fun H locs I => ?_)
  refine lv_aload_n S.1 S.2.1 dX11_tried_84 rfl (lv_at hl 0 rfl) ?_
  refine lv_iload_n S.1 S.2.1 dX11_tried_85 rfl (lv_at hl 1 rfl) ?_
  refine lv_iload_n S.1 S.2.1 dX11_tried_86 rfl (lv_at hl 2 rfl) ?_
  obtain ⟨o17, e18, f⟩ := ob f
  refine o_Vv S (As := [.int x1, .int x2]) (rest := []) (ci := 11) (M11_changeTrial l D cy b A false e18) gX11_tried_X11_changeTrial rfl rfl rfl cd11_changeTrial ⟨Nat.le_of_ble_eq_true rfl, Nat.le_of_ble_eq_true rfl⟩ I (gd e18).1 clX11 rfl rfl hl.1 rfl (Nat.le_of_ble_eq_true rfl) dX11_tried_87 ⟨Nat.le_of_ble_eq_true rfl, Nat.le_of_ble_eq_true rfl⟩ (fun H locs I => ?_)
  refine lv_aload_n S.1 S.2.1 dX11_tried_90 rfl (lv_at hl 0 rfl) ?_
  obtain ⟨o19, e20, f⟩ := ob f
  refine o_Vi S (As := []) (rest := []) (ci := 11) (M11_firstToCome l D cy b A false e20) gX11_tried_X11_firstToCome rfl rfl rfl cd11_firstToCome ⟨Nat.le_of_ble_eq_true rfl, Nat.le_of_ble_eq_true rfl⟩ I (gd e20).1 clX11 rfl rfl hl.1 rfl (Nat.le_of_ble_eq_true rfl) dX11_tried_91 ⟨Nat.le_of_ble_eq_true rfl, Nat.le_of_ble_eq_true rfl⟩ (fun H locs I => ?_)
  refine lv_istore (lv' := [(5, .int o19.1), (0, .ref (b + a0)), (1, .int x1), (2, .int x2), (3, .int x3)]) S.1 S.2.1 dX11_tried_94 hl (by decide) rfl (fun ls hl => ?_)
  exact T11_tried_96 S hr hlo  1024 f I (lv_sub hl [1, 0] rfl)
set_option maxHeartbeats 4000000 in
set_option maxRecDepth 100000 in
theorem T11_tried_30 (S : CallFix p m c cX11_tried 6 s args vX11_tried RX11) (hr : meth.sig.returnType = (some .int)) (hlo : meth.locks = false) {out : Int32 × PH} {h : PH} {a0 : Nat} {x1 : Int32} {x2 : Int32} {x3 : Int32} {s0 : Int32} (f : F11_tried_30  h a0 x1 x2 x3 s0 = some out) {H : Heap} {locs : List Loc} (I : ph_I D cy b A false h s H locs) {ls : Array Slot} (hl : lv_has ls 6 [(0, .ref (b + a0)), (1, .int x1), (2, .int x2), (3, .int x3)]) : W p l e ({ frames := 6, cells := 0, slots := 0, locals := 154 } : Room) s m args below meth c H locs 0 0 (MQ below (va_Qi (fun (r : Int32) (u : PH) => (r, u) = out) (ph_B D cy b A false) A) args s 0 0 A) (F0 m 30 ls [.int s0]) := by
  unfold F11_tried_30 at f
  refine lv_istore (lv' := [(4, .int s0), (0, .ref (b + a0)), (1, .int x1), (2, .int x2), (3, .int x3)]) S.1 S.2.1 dX11_tried_30 hl (by decide) rfl (fun ls hl => ?_)
  refine lv_iload S.1 S.2.1 dX11_tried_32 (lv_at hl 0 rfl) ?_
  refine lv_if_eq (tgt := 48) S.1 S.2.1 dX11_tried_34 (by decide) (fun q1 => ?_) (fun q1 => ?_)
  · have f := (if_pos q1).symm.trans f
    refine lv_iload_n S.1 S.2.1 dX11_tried_48 rfl (lv_at hl 3 rfl) ?_
    refine lv_if_eq (tgt := 54) S.1 S.2.1 dX11_tried_49 (by decide) (fun q2 => ?_) (fun q2 => ?_)
    · have f := (if_pos q2).symm.trans f
      exact T11_tried_54 S hr hlo  f I (lv_sub hl [1, 2, 3, 4] rfl)
    · have f := (if_neg q2).symm.trans f
      refine lv_iconst (v := (-1)) S.1 S.2.1 dX11_tried_52 (by decide) ?_
      exact o_iret S hr hlo I f dX11_tried_53
  · have f := (if_neg q1).symm.trans f
    refine lv_aload_n S.1 S.2.1 dX11_tried_37 rfl (lv_at hl 1 rfl) ?_
    refine lv_iload_n S.1 S.2.1 dX11_tried_38 rfl (lv_at hl 3 rfl) ?_
    obtain ⟨o3, e4, f⟩ := ob f
    refine o_Vi S (As := [.int x2]) (rest := []) (ci := 11) (M11_isSurfer l D cy b A false e4) gX11_tried_X11_isSurfer rfl rfl rfl cd11_isSurfer ⟨Nat.le_of_ble_eq_true rfl, Nat.le_of_ble_eq_true rfl⟩ I (gd e4).1 clX11 rfl rfl hl.1 rfl (Nat.le_of_ble_eq_true rfl) dX11_tried_39 ⟨Nat.le_of_ble_eq_true rfl, Nat.le_of_ble_eq_true rfl⟩ (fun H locs I => ?_)
    refine lv_if_ne (tgt := 54) S.1 S.2.1 dX11_tried_42 (by decide) (fun q5 => ?_) (fun q5 => ?_)
    · have f := (if_neg q5).symm.trans f
      exact T11_tried_54 S hr hlo  f I (lv_sub hl [1, 2, 3, 4] rfl)
    · have f := (if_pos q5).symm.trans f
      refine lv_goto (tgt := 52) S.1 S.2.1 dX11_tried_45 (by decide) ?_
      refine lv_iconst (v := (-1)) S.1 S.2.1 dX11_tried_52 (by decide) ?_
      exact o_iret S hr hlo I f dX11_tried_53
set_option maxHeartbeats 4000000 in
set_option maxRecDepth 100000 in
theorem T11_tried_25 (S : CallFix p m c cX11_tried 6 s args vX11_tried RX11) (hr : meth.sig.returnType = (some .int)) (hlo : meth.locks = false) {out : Int32 × PH} {h : PH} {a0 : Nat} {x1 : Int32} {x2 : Int32} {x3 : Int32} (f : F11_tried_25  h a0 x1 x2 x3 = some out) {H : Heap} {locs : List Loc} (I : ph_I D cy b A false h s H locs) {ls : Array Slot} (hl : lv_has ls 6 [(0, .ref (b + a0)), (1, .int x1), (2, .int x2), (3, .int x3)]) : W p l e ({ frames := 6, cells := 0, slots := 0, locals := 154 } : Room) s m args below meth c H locs 0 0 (MQ below (va_Qi (fun (r : Int32) (u : PH) => (r, u) = out) (ph_B D cy b A false) A) args s 0 0 A) (F0 m 25 ls []) := by
  unfold F11_tried_25 at f
  refine lv_iconst (v := 1) S.1 S.2.1 dX11_tried_25 (by decide) ?_
  refine lv_goto (tgt := 30) S.1 S.2.1 dX11_tried_26 (by decide) ?_
  exact T11_tried_30 S hr hlo  f I (lv_sub hl [0, 1, 2, 3] rfl)
set_option maxHeartbeats 4000000 in
set_option maxRecDepth 100000 in
theorem T11_tried_0 (S : CallFix p m c cX11_tried 6 s args vX11_tried RX11) (hr : meth.sig.returnType = (some .int)) (hlo : meth.locks = false) {out : Int32 × PH} {h : PH} {a0 : Nat} {x1 : Int32} {x2 : Int32} {x3 : Int32} (f : F11_tried_0  h a0 x1 x2 x3 = some out) {H : Heap} {locs : List Loc} (I : ph_I D cy b A false h s H locs) {ls : Array Slot} (hl : lv_has ls 6 [(0, .ref (b + a0)), (1, .int x1), (2, .int x2), (3, .int x3)]) : W p l e ({ frames := 6, cells := 0, slots := 0, locals := 154 } : Room) s m args below meth c H locs 0 0 (MQ below (va_Qi (fun (r : Int32) (u : PH) => (r, u) = out) (ph_B D cy b A false) A) args s 0 0 A) (F0 m 0 ls []) := by
  unfold F11_tried_0 at f
  refine lv_iload_n S.1 S.2.1 dX11_tried_0 rfl (lv_at hl 1 rfl) ?_
  refine lv_if_lt (tgt := 13) S.1 S.2.1 dX11_tried_1 (by decide) (fun q1 => ?_) (fun q1 => ?_)
  · have f := (if_pos q1).symm.trans f
    refine lv_iconst (v := (-1)) S.1 S.2.1 dX11_tried_13 (by decide) ?_
    exact o_iret S hr hlo I f dX11_tried_14
  · have f := (if_neg q1).symm.trans f
    refine lv_iload_n S.1 S.2.1 dX11_tried_4 rfl (lv_at hl 1 rfl) ?_
    refine lv_iconst (v := 4) S.1 S.2.1 dX11_tried_5 (by decide) ?_
    refine lv_icmp_gt (tgt := 13) S.1 S.2.1 dX11_tried_6 (by decide) (fun q2 => ?_) (fun q2 => ?_)
    · have f := (if_pos q2).symm.trans f
      refine lv_iconst (v := (-1)) S.1 S.2.1 dX11_tried_13 (by decide) ?_
      exact o_iret S hr hlo I f dX11_tried_14
    · have f := (if_neg q2).symm.trans f
      refine lv_iload_n S.1 S.2.1 dX11_tried_9 rfl (lv_at hl 3 rfl) ?_
      refine lv_if_ge (tgt := 15) S.1 S.2.1 dX11_tried_10 (by decide) (fun q3 => ?_) (fun q3 => ?_)
      · have f := (if_pos q3).symm.trans f
        refine lv_iload_n S.1 S.2.1 dX11_tried_15 rfl (lv_at hl 1 rfl) ?_
        refine lv_iconst (v := 1) S.1 S.2.1 dX11_tried_16 (by decide) ?_
        refine lv_icmp_eq (tgt := 25) S.1 S.2.1 dX11_tried_17 (by decide) (fun q4 => ?_) (fun q4 => ?_)
        · have f := (if_pos q4).symm.trans f
          exact T11_tried_25 S hr hlo  f I (lv_sub hl [0, 1, 2, 3] rfl)
        · have f := (if_neg q4).symm.trans f
          refine lv_iload_n S.1 S.2.1 dX11_tried_20 rfl (lv_at hl 1 rfl) ?_
          refine lv_iconst (v := 4) S.1 S.2.1 dX11_tried_21 (by decide) ?_
          refine lv_icmp_ne (tgt := 29) S.1 S.2.1 dX11_tried_22 (by decide) (fun q5 => ?_) (fun q5 => ?_)
          · have f := (if_neg q5).symm.trans f
            refine lv_iconst (v := 0) S.1 S.2.1 dX11_tried_29 (by decide) ?_
            exact T11_tried_30 S hr hlo  f I (lv_sub hl [0, 1, 2, 3] rfl)
          · have f := (if_pos q5).symm.trans f
            exact T11_tried_25 S hr hlo  f I (lv_sub hl [0, 1, 2, 3] rfl)
      · have f := (if_neg q3).symm.trans f
        refine lv_iconst (v := (-1)) S.1 S.2.1 dX11_tried_13 (by decide) ?_
        exact o_iret S hr hlo I f dX11_tried_14
theorem M11_tried (l : Launch) (D : va_G) (cy : Nat → ClassId) (b : Nat) (A : Nat → Prop) {h : PH} {a0 : Nat} {x1 : Int32} {x2 : Int32} {x3 : Int32} {out : Int32 × PH} (f : F11_tried h a0 x1 x2 x3 = some out) : Met l yX11_tried vX11_tried ({ frames := 6, cells := 0, slots := 0, locals := 154 } : Room) (va_Pc [.ref (b + a0), .int x1, .int x2, .int x3] (ph_B D cy b A false h)) (va_Qi (fun (r : Int32) (u : PH) => (r, u) = out) (ph_B D cy b A false) A) 0 0 A :=
  o_met (by decide) rfl (Nat.le_of_ble_eq_true rfl) rfl (fun p e s m below meth c S hr hlo hnm ls hl I => T11_tried_0 S hr hlo ((gd f).2) I (lv_sub hl [0, 1, 2, 3] rfl))
def vX11_undo : List Cond := .code yX11_undo cX11_undo 3 (some .int) :: TB
theorem lf11_undo_67 : Fl vX11_undo RX11 67 11 12 := ⟨RX11, TX11, 14, rfl, by decide, (fun w h9 => List.mem_cons_of_mem _ (wC_wsX110 w h9)), (List.mem_cons_of_mem _ wT_2_18)⟩
theorem lf11_undo_368 : Fl vX11_undo RX11 368 9 0 := ⟨RX9, TX9, 3, rfl, by decide, (fun w h9 => List.mem_cons_of_mem _ (wC_wsX90 w h9)), (List.mem_cons_of_mem _ wT_23_20)⟩
theorem lp11_undo_368 : Pl vX11_undo RX11 368 9 0 .int := ⟨RX9, TX9, 3, tyX9, rfl, by decide, (fun w h9 => List.mem_cons_of_mem _ (wC_wsX90 w h9)), (List.mem_cons_of_mem _ wT_23_20), tyX9_ok, nmX9, rfl, rfl⟩
theorem lf11_undo_369 : Fl vX11_undo RX11 369 9 1 := ⟨RX9, TX9, 3, rfl, by decide, (fun w h9 => List.mem_cons_of_mem _ (wC_wsX90 w h9)), (List.mem_cons_of_mem _ wT_66_10)⟩
theorem lf11_undo_370 : Fl vX11_undo RX11 370 9 2 := ⟨RX9, TX9, 3, rfl, by decide, (fun w h9 => List.mem_cons_of_mem _ (wC_wsX90 w h9)), (List.mem_cons_of_mem _ wT_66_11)⟩
theorem lf11_undo_47 : Fl vX11_undo RX11 47 11 7 := ⟨RX11, TX11, 14, rfl, by decide, (fun w h9 => List.mem_cons_of_mem _ (wC_wsX110 w h9)), (List.mem_cons_of_mem _ wT_2_8)⟩
theorem lf11_undo_122 : Fl vX11_undo RX11 122 4 5 := ⟨RX4, TX4, 11, rfl, by decide, (fun w h9 => List.mem_cons_of_mem _ (wC_wsX40 w h9)), (List.mem_cons_of_mem _ wT_33_11)⟩
theorem lf11_undo_137 : Fl vX11_undo RX11 137 4 9 := ⟨RX4, TX4, 11, rfl, by decide, (fun w h9 => List.mem_cons_of_mem _ (wC_wsX40 w h9)), (List.mem_cons_of_mem _ wT_33_16)⟩
theorem lp11_undo_217 : Pl vX11_undo RX11 217 4 1 .int := ⟨RX4, TX4, 11, tyX4, rfl, by decide, (fun w h9 => List.mem_cons_of_mem _ (wC_wsX40 w h9)), (List.mem_cons_of_mem _ wT_42_23), tyX4_ok, nmX4, rfl, rfl⟩
theorem cd11_undo : Cd yX11_undo 0 := ⟨by decide, by decide, by decide +kernel⟩
set_option maxHeartbeats 4000000 in
set_option maxRecDepth 100000 in
theorem T11_undo_97 (S : CallFix p m c cX11_undo 3 s args vX11_undo RX11) (hr : meth.sig.returnType = (some .int)) (hlo : meth.locks = false) {out : Int32 × PH} {h : PH} {a0 : Nat} (f : F11_undo_97  h a0 = some out) {H : Heap} {locs : List Loc} (I : ph_I D cy b A fl h s H locs) {ls : Array Slot} (hl : lv_has ls 3 [(0, .ref (b + a0))]) : W p l e ({ frames := 0, cells := 0, slots := 0, locals := 0 } : Room) s m args below meth c H locs 0 0 (MQ below (va_Qi (fun (r : Int32) (u : PH) => (r, u) = out) (ph_B D cy b A fl) A) args s 0 0 A) (F0 m 97 ls []) := by
  unfold F11_undo_97 at f
  refine lv_aload_n S.1 S.2.1 dX11_undo_97 rfl (lv_at hl 0 rfl) ?_
  obtain ⟨r1, e2, f⟩ := ob f
  refine o_gR S lf11_undo_67 I e2 dX11_undo_98 ?_
  obtain ⟨v3, e4, f⟩ := ob f
  refine o_gI S lf11_undo_368 I e4 dX11_undo_101 ?_
  exact o_iret S hr hlo I f dX11_undo_104
set_option maxHeartbeats 4000000 in
set_option maxRecDepth 100000 in
theorem T11_undo_0 (S : CallFix p m c cX11_undo 3 s args vX11_undo RX11) (hr : meth.sig.returnType = (some .int)) (hlo : meth.locks = false) {out : Int32 × PH} {h : PH} {a0 : Nat} (f : F11_undo_0  h a0 = some out) {H : Heap} {locs : List Loc} (I : ph_I D cy b A fl h s H locs) {ls : Array Slot} (hl : lv_has ls 3 [(0, .ref (b + a0))]) : W p l e ({ frames := 0, cells := 0, slots := 0, locals := 0 } : Room) s m args below meth c H locs 0 0 (MQ below (va_Qi (fun (r : Int32) (u : PH) => (r, u) = out) (ph_B D cy b A fl) A) args s 0 0 A) (F0 m 0 ls []) := by
  unfold F11_undo_0 at f
  refine lv_aload_n S.1 S.2.1 dX11_undo_0 rfl (lv_at hl 0 rfl) ?_
  obtain ⟨r1, e2, f⟩ := ob f
  refine o_gR S lf11_undo_67 I e2 dX11_undo_1 ?_
  obtain ⟨v3, e4, f⟩ := ob f
  refine o_gI S lf11_undo_368 I e4 dX11_undo_4 ?_
  refine lv_iconst (v := 1) S.1 S.2.1 dX11_undo_7 (by decide) ?_
  refine lv_icmp_ge (tgt := 13) S.1 S.2.1 dX11_undo_8 (by decide) (fun q5 => ?_) (fun q5 => ?_)
  · have f := (if_pos q5).symm.trans f
    refine lv_aload_n S.1 S.2.1 dX11_undo_13 rfl (lv_at hl 0 rfl) ?_
    obtain ⟨r6, e7, f⟩ := ob f
    refine o_gR S lf11_undo_67 I e7 dX11_undo_14 ?_
    refine lv_dup S.1 S.2.1 dX11_undo_17 rfl ?_
    obtain ⟨v8, e9, f⟩ := ob f
    refine o_gI S lf11_undo_368 I e9 dX11_undo_18 ?_
    refine lv_iconst (v := 1) S.1 S.2.1 dX11_undo_21 (by decide) ?_
    refine lv_isub S.1 S.2.1 dX11_undo_22 ?_
    obtain ⟨h10, e11, f⟩ := ob f
    refine o_pI S lp11_undo_368 I e11 dX11_undo_23 (fun H locs I => ?_)
    refine lv_aload_n S.1 S.2.1 dX11_undo_26 rfl (lv_at hl 0 rfl) ?_
    obtain ⟨r12, e13, f⟩ := ob f
    refine o_gR S lf11_undo_67 I e13 dX11_undo_27 ?_
    obtain ⟨r14, e15, f⟩ := ob f
    refine o_gR S lf11_undo_369 I e15 dX11_undo_30 ?_
    refine lv_aload_n S.1 S.2.1 dX11_undo_33 rfl (lv_at hl 0 rfl) ?_
    obtain ⟨r16, e17, f⟩ := ob f
    refine o_gR S lf11_undo_67 I e17 dX11_undo_34 ?_
    obtain ⟨v18, e19, f⟩ := ob f
    refine o_gI S lf11_undo_368 I e19 dX11_undo_37 ?_
    obtain ⟨v21, e20, f⟩ := ob f
    refine o_iald S I e20 dX11_undo_40 ?_
    refine lv_istore_n (lv' := [(1, .int v21), (0, .ref (b + a0))]) S.1 S.2.1 dX11_undo_41 rfl hl (by decide) rfl (fun ls hl => ?_)
    refine lv_aload_n S.1 S.2.1 dX11_undo_42 rfl (lv_at hl 1 rfl) ?_
    obtain ⟨r22, e23, f⟩ := ob f
    refine o_gR S lf11_undo_67 I e23 dX11_undo_43 ?_
    obtain ⟨r24, e25, f⟩ := ob f
    refine o_gR S lf11_undo_370 I e25 dX11_undo_46 ?_
    refine lv_aload_n S.1 S.2.1 dX11_undo_49 rfl (lv_at hl 1 rfl) ?_
    obtain ⟨r26, e27, f⟩ := ob f
    refine o_gR S lf11_undo_67 I e27 dX11_undo_50 ?_
    obtain ⟨v28, e29, f⟩ := ob f
    refine o_gI S lf11_undo_368 I e29 dX11_undo_53 ?_
    obtain ⟨v31, e30, f⟩ := ob f
    refine o_iald S I e30 dX11_undo_56 ?_
    refine lv_istore_n (lv' := [(2, .int v31), (1, .int v21), (0, .ref (b + a0))]) S.1 S.2.1 dX11_undo_57 rfl hl (by decide) rfl (fun ls hl => ?_)
    refine lv_iload_n S.1 S.2.1 dX11_undo_58 rfl (lv_at hl 1 rfl) ?_
    refine lv_iconst (v := (-1)) S.1 S.2.1 dX11_undo_59 (by decide) ?_
    refine lv_icmp_ne (tgt := 74) S.1 S.2.1 dX11_undo_60 (by decide) (fun q32 => ?_) (fun q32 => ?_)
    · have f := (if_neg q32).symm.trans f
      refine lv_aload_n S.1 S.2.1 dX11_undo_74 rfl (lv_at hl 2 rfl) ?_
      obtain ⟨r33, e34, f⟩ := ob f
      refine o_gR S lf11_undo_47 I e34 dX11_undo_75 ?_
      obtain ⟨r35, e36, f⟩ := ob f
      refine o_gR S lf11_undo_122 I e36 dX11_undo_78 ?_
      refine lv_iload_n S.1 S.2.1 dX11_undo_81 rfl (lv_at hl 1 rfl) ?_
      refine lv_iload_n S.1 S.2.1 dX11_undo_82 rfl (lv_at hl 0 rfl) ?_
      obtain ⟨h38, e37, f⟩ := ob f
      refine o_iast S I e37 dX11_undo_83 (fun H locs I => ?_)
      refine lv_aload_n S.1 S.2.1 dX11_undo_84 rfl (lv_at hl 2 rfl) ?_
      obtain ⟨r39, e40, f⟩ := ob f
      refine o_gR S lf11_undo_47 I e40 dX11_undo_85 ?_
      obtain ⟨r41, e42, f⟩ := ob f
      refine o_gR S lf11_undo_137 I e42 dX11_undo_88 ?_
      refine lv_iload_n S.1 S.2.1 dX11_undo_91 rfl (lv_at hl 1 rfl) ?_
      refine lv_dup2_11 S.1 S.2.1 dX11_undo_92 rfl rfl ?_
      obtain ⟨v44, e43, f⟩ := ob f
      refine o_iald S I e43 dX11_undo_93 ?_
      refine lv_iconst (v := 1) S.1 S.2.1 dX11_undo_94 (by decide) ?_
      refine lv_isub S.1 S.2.1 dX11_undo_95 ?_
      obtain ⟨h46, e45, f⟩ := ob f
      refine o_iast S I e45 dX11_undo_96 (fun H locs I => ?_)
      exact T11_undo_97 S hr hlo  f I (lv_sub hl [2] rfl)
    · have f := (if_pos q32).symm.trans f
      refine lv_aload_n S.1 S.2.1 dX11_undo_63 rfl (lv_at hl 2 rfl) ?_
      obtain ⟨r47, e48, f⟩ := ob f
      refine o_gR S lf11_undo_47 I e48 dX11_undo_64 ?_
      refine lv_iload_n S.1 S.2.1 dX11_undo_67 rfl (lv_at hl 0 rfl) ?_
      obtain ⟨h49, e50, f⟩ := ob f
      refine o_pI S lp11_undo_217 I e50 dX11_undo_68 (fun H locs I => ?_)
      refine lv_goto (tgt := 97) S.1 S.2.1 dX11_undo_71 (by decide) ?_
      exact T11_undo_97 S hr hlo  f I (lv_sub hl [2] rfl)
  · have f := (if_neg q5).symm.trans f
    refine lv_iconst (v := (-1)) S.1 S.2.1 dX11_undo_11 (by decide) ?_
    exact o_iret S hr hlo I f dX11_undo_12
theorem M11_undo (l : Launch) (D : va_G) (cy : Nat → ClassId) (b : Nat) (A : Nat → Prop) (fl : Bool) {h : PH} {a0 : Nat} {out : Int32 × PH} (f : F11_undo h a0 = some out) : Met l yX11_undo vX11_undo ({ frames := 0, cells := 0, slots := 0, locals := 0 } : Room) (va_Pc [.ref (b + a0)] (ph_B D cy b A fl h)) (va_Qi (fun (r : Int32) (u : PH) => (r, u) = out) (ph_B D cy b A fl) A) 0 0 A :=
  o_met (by decide) rfl (Nat.le_of_ble_eq_true rfl) rfl (fun p e s m below meth c S hr hlo hnm ls hl I => T11_undo_0 S hr hlo ((gd f).2) I (lv_sub hl [0] rfl))
def vX11_wave : List Cond := .code yX11_wave cX11_wave 3 (some .int) :: TB
theorem gX11_wave_X11_isWave : GoodIn vX11_wave (wsV RX11 147 RX11 yX11_isWave vX11_isWave) := gV_of wT_36_22 wT_36_23 wT_37_0 wT_1_2 wT_37_1
theorem lf11_wave_18 : Fl vX11_wave RX11 18 11 3 := ⟨RX11, TX11, 14, rfl, by decide, (fun w h9 => List.mem_cons_of_mem _ (wC_wsX110 w h9)), (List.mem_cons_of_mem _ wT_1_18)⟩
theorem lf11_wave_150 : Fl vX11_wave RX11 150 8 5 := ⟨RX8, TX8, 14, rfl, by decide, (fun w h9 => List.mem_cons_of_mem _ (wC_wsX80 w h9)), (List.mem_cons_of_mem _ wT_36_16)⟩
theorem lf11_wave_154 : Fl vX11_wave RX11 154 10 4 := ⟨RX10, TX10, 8, rfl, by decide, (fun w h9 => List.mem_cons_of_mem _ (wC_wsX100 w h9)), (List.mem_cons_of_mem _ wT_36_17)⟩
theorem lf11_wave_159 : Fl vX11_wave RX11 159 10 5 := ⟨RX10, TX10, 8, rfl, by decide, (fun w h9 => List.mem_cons_of_mem _ (wC_wsX100 w h9)), (List.mem_cons_of_mem _ wT_36_18)⟩
theorem lf11_wave_161 : Fl vX11_wave RX11 161 10 6 := ⟨RX10, TX10, 8, rfl, by decide, (fun w h9 => List.mem_cons_of_mem _ (wC_wsX100 w h9)), (List.mem_cons_of_mem _ wT_36_19)⟩
theorem lf11_wave_164 : Fl vX11_wave RX11 164 10 7 := ⟨RX10, TX10, 8, rfl, by decide, (fun w h9 => List.mem_cons_of_mem _ (wC_wsX100 w h9)), (List.mem_cons_of_mem _ wT_36_20)⟩
theorem lf11_wave_47 : Fl vX11_wave RX11 47 11 7 := ⟨RX11, TX11, 14, rfl, by decide, (fun w h9 => List.mem_cons_of_mem _ (wC_wsX110 w h9)), (List.mem_cons_of_mem _ wT_2_8)⟩
theorem lf11_wave_167 : Fl vX11_wave RX11 167 4 10 := ⟨RX4, TX4, 11, rfl, by decide, (fun w h9 => List.mem_cons_of_mem _ (wC_wsX40 w h9)), (List.mem_cons_of_mem _ wT_36_21)⟩
theorem cd11_wave : Cd yX11_wave 2 := ⟨by decide, by decide, by decide +kernel⟩
set_option maxHeartbeats 4000000 in
set_option maxRecDepth 100000 in
theorem T11_wave_0 (S : CallFix p m c cX11_wave 3 s args vX11_wave RX11) (hr : meth.sig.returnType = (some .int)) (hlo : meth.locks = false) {out : Int32 × PH} {h : PH} {a0 : Nat} {x1 : Int32} {x2 : Int32} (f : F11_wave_0  h a0 x1 x2 = some out) {H : Heap} {locs : List Loc} (I : ph_I D cy b A fl h s H locs) {ls : Array Slot} (hl : lv_has ls 3 [(0, .ref (b + a0)), (1, .int x1), (2, .int x2)]) : W p l e ({ frames := 1, cells := 0, slots := 0, locals := 21 } : Room) s m args below meth c H locs 0 0 (MQ below (va_Qi (fun (r : Int32) (u : PH) => (r, u) = out) (ph_B D cy b A fl) A) args s 0 0 A) (F0 m 0 ls []) := by
  unfold F11_wave_0 at f
  refine lv_aload_n S.1 S.2.1 dX11_wave_0 rfl (lv_at hl 0 rfl) ?_
  refine lv_iload_n S.1 S.2.1 dX11_wave_1 rfl (lv_at hl 1 rfl) ?_
  obtain ⟨o1, e2, f⟩ := ob f
  refine o_Vi S (As := [.int x1]) (rest := []) (ci := 11) (M11_isWave l D cy b A fl e2) gX11_wave_X11_isWave rfl rfl rfl cd11_isWave ⟨Nat.le_of_ble_eq_true rfl, Nat.le_of_ble_eq_true rfl⟩ I (gd e2).1 clX11 rfl rfl hl.1 rfl (Nat.le_of_ble_eq_true rfl) dX11_wave_2 ⟨Nat.le_of_ble_eq_true rfl, Nat.le_of_ble_eq_true rfl⟩ (fun H locs I => ?_)
  refine lv_if_ne (tgt := 11) S.1 S.2.1 dX11_wave_5 (by decide) (fun q3 => ?_) (fun q3 => ?_)
  · have f := (if_neg q3).symm.trans f
    refine lv_iload_n S.1 S.2.1 dX11_wave_11 rfl (lv_at hl 2 rfl) ?_
    rcases Decidable.em (x2 = 0) with q4 | q4
    · have f := (if_pos q4).symm.trans f
      refine lv_tableIn (off := 36) (tgt := 48) S.1 S.2.1 dX11_wave_12 (by rw [q4]; decide) (by rw [q4]; decide) (by rw [q4]; rfl) (by decide) ?_
      refine lv_aload_n S.1 S.2.1 dX11_wave_48 rfl (lv_at hl 0 rfl) ?_
      obtain ⟨r5, e6, f⟩ := ob f
      refine o_gR S lf11_wave_18 I e6 dX11_wave_49 ?_
      obtain ⟨r7, e8, f⟩ := ob f
      refine o_gR S lf11_wave_150 I e8 dX11_wave_52 ?_
      obtain ⟨r9, e10, f⟩ := ob f
      refine o_gR S lf11_wave_154 I e10 dX11_wave_55 ?_
      refine lv_iload_n S.1 S.2.1 dX11_wave_58 rfl (lv_at hl 1 rfl) ?_
      obtain ⟨v12, e11, f⟩ := ob f
      refine o_iald S I e11 dX11_wave_59 ?_
      exact o_iret S hr hlo I f dX11_wave_60
    have f := (if_neg q4).symm.trans f
    rcases Decidable.em (x2 = 1) with q13 | q13
    · have f := (if_pos q13).symm.trans f
      refine lv_tableIn (off := 49) (tgt := 61) S.1 S.2.1 dX11_wave_12 (by rw [q13]; decide) (by rw [q13]; decide) (by rw [q13]; rfl) (by decide) ?_
      refine lv_aload_n S.1 S.2.1 dX11_wave_61 rfl (lv_at hl 0 rfl) ?_
      obtain ⟨r14, e15, f⟩ := ob f
      refine o_gR S lf11_wave_18 I e15 dX11_wave_62 ?_
      obtain ⟨r16, e17, f⟩ := ob f
      refine o_gR S lf11_wave_150 I e17 dX11_wave_65 ?_
      obtain ⟨r18, e19, f⟩ := ob f
      refine o_gR S lf11_wave_159 I e19 dX11_wave_68 ?_
      refine lv_iload_n S.1 S.2.1 dX11_wave_71 rfl (lv_at hl 1 rfl) ?_
      obtain ⟨v21, e20, f⟩ := ob f
      refine o_iald S I e20 dX11_wave_72 ?_
      exact o_iret S hr hlo I f dX11_wave_73
    have f := (if_neg q13).symm.trans f
    rcases Decidable.em (x2 = 2) with q22 | q22
    · have f := (if_pos q22).symm.trans f
      refine lv_tableIn (off := 62) (tgt := 74) S.1 S.2.1 dX11_wave_12 (by rw [q22]; decide) (by rw [q22]; decide) (by rw [q22]; rfl) (by decide) ?_
      refine lv_aload_n S.1 S.2.1 dX11_wave_74 rfl (lv_at hl 0 rfl) ?_
      obtain ⟨r23, e24, f⟩ := ob f
      refine o_gR S lf11_wave_18 I e24 dX11_wave_75 ?_
      obtain ⟨r25, e26, f⟩ := ob f
      refine o_gR S lf11_wave_150 I e26 dX11_wave_78 ?_
      obtain ⟨r27, e28, f⟩ := ob f
      refine o_gR S lf11_wave_161 I e28 dX11_wave_81 ?_
      refine lv_iload_n S.1 S.2.1 dX11_wave_84 rfl (lv_at hl 1 rfl) ?_
      obtain ⟨v30, e29, f⟩ := ob f
      refine o_iald S I e29 dX11_wave_85 ?_
      exact o_iret S hr hlo I f dX11_wave_86
    have f := (if_neg q22).symm.trans f
    rcases Decidable.em (x2 = 3) with q31 | q31
    · have f := (if_pos q31).symm.trans f
      refine lv_tableIn (off := 75) (tgt := 87) S.1 S.2.1 dX11_wave_12 (by rw [q31]; decide) (by rw [q31]; decide) (by rw [q31]; rfl) (by decide) ?_
      refine lv_aload_n S.1 S.2.1 dX11_wave_87 rfl (lv_at hl 0 rfl) ?_
      obtain ⟨r32, e33, f⟩ := ob f
      refine o_gR S lf11_wave_18 I e33 dX11_wave_88 ?_
      obtain ⟨r34, e35, f⟩ := ob f
      refine o_gR S lf11_wave_150 I e35 dX11_wave_91 ?_
      obtain ⟨r36, e37, f⟩ := ob f
      refine o_gR S lf11_wave_164 I e37 dX11_wave_94 ?_
      refine lv_iload_n S.1 S.2.1 dX11_wave_97 rfl (lv_at hl 1 rfl) ?_
      obtain ⟨v39, e38, f⟩ := ob f
      refine o_iald S I e38 dX11_wave_98 ?_
      exact o_iret S hr hlo I f dX11_wave_99
    have f := (if_neg q31).symm.trans f
    rcases Decidable.em (x2 = 4) with q40 | q40
    · have f := (if_pos q40).symm.trans f
      refine lv_tableIn (off := 88) (tgt := 100) S.1 S.2.1 dX11_wave_12 (by rw [q40]; decide) (by rw [q40]; decide) (by rw [q40]; rfl) (by decide) ?_
      refine lv_aload_n S.1 S.2.1 dX11_wave_100 rfl (lv_at hl 0 rfl) ?_
      obtain ⟨r41, e42, f⟩ := ob f
      refine o_gR S lf11_wave_47 I e42 dX11_wave_101 ?_
      obtain ⟨r43, e44, f⟩ := ob f
      refine o_gR S lf11_wave_167 I e44 dX11_wave_104 ?_
      refine lv_iload_n S.1 S.2.1 dX11_wave_107 rfl (lv_at hl 1 rfl) ?_
      obtain ⟨v46, e45, f⟩ := ob f
      refine o_iald S I e45 dX11_wave_108 ?_
      exact o_iret S hr hlo I f dX11_wave_109
    have f := (if_neg q40).symm.trans f
    refine lv_tableOut (tgt := 110) S.1 S.2.1 dX11_wave_12 (by have := lv_neT q4 (a := 0) (by decide); have := lv_neT q13 (a := 1) (by decide); have := lv_neT q22 (a := 2) (by decide); have := lv_neT q31 (a := 3) (by decide); have := lv_neT q40 (a := 4) (by decide); omega) (by decide) ?_
    refine lv_bipush (v := (-4)) S.1 S.2.1 dX11_wave_110 (by decide) ?_
    exact o_iret S hr hlo I f dX11_wave_112
  · have f := (if_pos q3).symm.trans f
    refine lv_bipush (v := (-4)) S.1 S.2.1 dX11_wave_8 (by decide) ?_
    exact o_iret S hr hlo I f dX11_wave_10
theorem M11_wave (l : Launch) (D : va_G) (cy : Nat → ClassId) (b : Nat) (A : Nat → Prop) (fl : Bool) {h : PH} {a0 : Nat} {x1 : Int32} {x2 : Int32} {out : Int32 × PH} (f : F11_wave h a0 x1 x2 = some out) : Met l yX11_wave vX11_wave ({ frames := 1, cells := 0, slots := 0, locals := 21 } : Room) (va_Pc [.ref (b + a0), .int x1, .int x2] (ph_B D cy b A fl h)) (va_Qi (fun (r : Int32) (u : PH) => (r, u) = out) (ph_B D cy b A fl) A) 0 0 A :=
  o_met (by decide) rfl (Nat.le_of_ble_eq_true rfl) rfl (fun p e s m below meth c S hr hlo hnm ls hl I => T11_wave_0 S hr hlo ((gd f).2) I (lv_sub hl [0, 1, 2] rfl))
def vX12_layNames : List Cond := .code yX12_layNames cX12_layNames 6 none :: TB
theorem lf12_layNames_81 : Fl vX12_layNames RX12 81 12 52 := ⟨RX12, TX12, 87, rfl, by decide, (fun w h9 => List.mem_cons_of_mem _ (wC_wsX120 w h9)), (List.mem_cons_of_mem _ wT_10_20)⟩
theorem lf12_layNames_45 : Fl vX12_layNames RX12 45 12 33 := ⟨RX12, TX12, 87, rfl, by decide, (fun w h9 => List.mem_cons_of_mem _ (wC_wsX120 w h9)), (List.mem_cons_of_mem _ wT_10_8)⟩
theorem lf12_layNames_54 : Fl vX12_layNames RX12 54 12 36 := ⟨RX12, TX12, 87, rfl, by decide, (fun w h9 => List.mem_cons_of_mem _ (wC_wsX120 w h9)), (List.mem_cons_of_mem _ wT_10_11)⟩
theorem lf12_layNames_51 : Fl vX12_layNames RX12 51 12 35 := ⟨RX12, TX12, 87, rfl, by decide, (fun w h9 => List.mem_cons_of_mem _ (wC_wsX120 w h9)), (List.mem_cons_of_mem _ wT_10_10)⟩
theorem cd12_layNames : Cd yX12_layNames 5 := ⟨by decide, by decide, by decide +kernel⟩
set_option maxHeartbeats 4000000 in
set_option maxRecDepth 100000 in
theorem T12_layNames_88 (S : CallFix p m c cX12_layNames 6 s args vX12_layNames RX12) (hr : meth.sig.returnType = none) (hlo : meth.locks = false) {out : PH} {h : PH} {t0 : Int64} {s1 : Int32} {u2 : Nat} (f : F12_layNames_88  h t0 s1 u2 = some out) {H : Heap} {locs : List Loc} (I : ph_I D cy b A fl h s H locs) {ls : Array Slot} (hl : lv_has ls 6 []) : W p l e ({ frames := 0, cells := 0, slots := 0, locals := 0 } : Room) s m args below meth c H locs 0 0 (MQ below (va_Qv (fun (u : PH) => u = out) (ph_B D cy b A fl) A) args s 0 0 A) (F0 m 88 ls [.long t0, .int s1, .ref (b + u2)]) := by
  unfold F12_layNames_88 at f
  obtain ⟨h2, e1, f⟩ := ob f
  refine o_last S I e1 dX12_layNames_88 (fun H locs I => ?_)
  exact o_vret S hr hlo I f dX12_layNames_89
set_option maxHeartbeats 4000000 in
set_option maxRecDepth 100000 in
theorem T12_layNames_46 (S : CallFix p m c cX12_layNames 6 s args vX12_layNames RX12) (hr : meth.sig.returnType = none) (hlo : meth.locks = false) {out : PH} {h : PH} {a0 : Nat} {x4 : Int32} {x5 : Int32} {t0 : Int64} {s1 : Int32} {u2 : Nat} (f : F12_layNames_46  h a0 x4 x5 t0 s1 u2 = some out) {H : Heap} {locs : List Loc} (I : ph_I D cy b A fl h s H locs) {ls : Array Slot} (hl : lv_has ls 6 [(0, .ref (b + a0)), (4, .int x4), (5, .int x5)]) : W p l e ({ frames := 0, cells := 0, slots := 0, locals := 0 } : Room) s m args below meth c H locs 0 0 (MQ below (va_Qv (fun (u : PH) => u = out) (ph_B D cy b A fl) A) args s 0 0 A) (F0 m 46 ls [.long t0, .int s1, .ref (b + u2)]) := by
  unfold F12_layNames_46 at f
  obtain ⟨h2, e1, f⟩ := ob f
  refine o_last S I e1 dX12_layNames_46 (fun H locs I => ?_)
  refine lv_aload_n S.1 S.2.1 dX12_layNames_47 rfl (lv_at hl 0 rfl) ?_
  obtain ⟨r3, e4, f⟩ := ob f
  refine o_gR S lf12_layNames_81 I e4 dX12_layNames_48 ?_
  refine lv_iconst (v := 4) S.1 S.2.1 dX12_layNames_51 (by decide) ?_
  refine lv_iload S.1 S.2.1 dX12_layNames_52 (lv_at hl 2 rfl) ?_
  refine lv_i2l (v := Int32.toInt64 x5) S.1 S.2.1 dX12_layNames_54 rfl ?_
  obtain ⟨h6, e5, f⟩ := ob f
  refine o_last S I e5 dX12_layNames_55 (fun H locs I => ?_)
  refine lv_aload_n S.1 S.2.1 dX12_layNames_56 rfl (lv_at hl 0 rfl) ?_
  obtain ⟨r7, e8, f⟩ := ob f
  refine o_gR S lf12_layNames_81 I e8 dX12_layNames_57 ?_
  refine lv_iconst (v := 5) S.1 S.2.1 dX12_layNames_60 (by decide) ?_
  refine lv_iload S.1 S.2.1 dX12_layNames_61 (lv_at hl 1 rfl) ?_
  refine lv_if_ge (tgt := 70) S.1 S.2.1 dX12_layNames_63 (by decide) (fun q9 => ?_) (fun q9 => ?_)
  · have f := (if_pos q9).symm.trans f
    refine lv_iload S.1 S.2.1 dX12_layNames_70 (lv_at hl 1 rfl) ?_
    refine lv_aload_n S.1 S.2.1 dX12_layNames_72 rfl (lv_at hl 0 rfl) ?_
    obtain ⟨r10, e11, f⟩ := ob f
    refine o_gR S lf12_layNames_45 I e11 dX12_layNames_73 ?_
    refine lv_aload_n S.1 S.2.1 dX12_layNames_76 rfl (lv_at hl 0 rfl) ?_
    obtain ⟨r12, e13, f⟩ := ob f
    refine o_gR S lf12_layNames_54 I e13 dX12_layNames_77 ?_
    refine lv_iload S.1 S.2.1 dX12_layNames_80 (lv_at hl 1 rfl) ?_
    obtain ⟨v15, e14, f⟩ := ob f
    refine o_iald S I e14 dX12_layNames_82 ?_
    obtain ⟨v17, e16, f⟩ := ob f
    refine o_iald S I e16 dX12_layNames_83 ?_
    refine lv_isub S.1 S.2.1 dX12_layNames_84 ?_
    refine lv_iconst (v := 1) S.1 S.2.1 dX12_layNames_85 (by decide) ?_
    refine lv_iadd S.1 S.2.1 dX12_layNames_86 ?_
    refine lv_i2l (v := Int32.toInt64 ((x4 - v17) + 1)) S.1 S.2.1 dX12_layNames_87 rfl ?_
    exact T12_layNames_88 S hr hlo  f I (lv_sub hl [] rfl)
  · have f := (if_neg q9).symm.trans f
    refine lv_lconst (v := 0) S.1 S.2.1 dX12_layNames_66 (by decide) ?_
    refine lv_goto (tgt := 88) S.1 S.2.1 dX12_layNames_67 (by decide) ?_
    exact T12_layNames_88 S hr hlo  f I (lv_sub hl [] rfl)
set_option maxHeartbeats 4000000 in
set_option maxRecDepth 100000 in
theorem T12_layNames_0 (S : CallFix p m c cX12_layNames 6 s args vX12_layNames RX12) (hr : meth.sig.returnType = none) (hlo : meth.locks = false) {out : PH} {h : PH} {a0 : Nat} {x1 : Int32} {x2 : Int32} {x3 : Int32} {x4 : Int32} {x5 : Int32} (f : F12_layNames_0  h a0 x1 x2 x3 x4 x5 = some out) {H : Heap} {locs : List Loc} (I : ph_I D cy b A fl h s H locs) {ls : Array Slot} (hl : lv_has ls 6 [(0, .ref (b + a0)), (1, .int x1), (2, .int x2), (3, .int x3), (4, .int x4), (5, .int x5)]) : W p l e ({ frames := 0, cells := 0, slots := 0, locals := 0 } : Room) s m args below meth c H locs 0 0 (MQ below (va_Qv (fun (u : PH) => u = out) (ph_B D cy b A fl) A) args s 0 0 A) (F0 m 0 ls []) := by
  unfold F12_layNames_0 at f
  refine lv_aload_n S.1 S.2.1 dX12_layNames_0 rfl (lv_at hl 0 rfl) ?_
  obtain ⟨r1, e2, f⟩ := ob f
  refine o_gR S lf12_layNames_81 I e2 dX12_layNames_1 ?_
  refine lv_iconst (v := 0) S.1 S.2.1 dX12_layNames_4 (by decide) ?_
  refine lv_iload_n S.1 S.2.1 dX12_layNames_5 rfl (lv_at hl 1 rfl) ?_
  refine lv_i2l (v := Int32.toInt64 x1) S.1 S.2.1 dX12_layNames_6 rfl ?_
  obtain ⟨h4, e3, f⟩ := ob f
  refine o_last S I e3 dX12_layNames_7 (fun H locs I => ?_)
  refine lv_aload_n S.1 S.2.1 dX12_layNames_8 rfl (lv_at hl 0 rfl) ?_
  obtain ⟨r5, e6, f⟩ := ob f
  refine o_gR S lf12_layNames_81 I e6 dX12_layNames_9 ?_
  refine lv_iconst (v := 1) S.1 S.2.1 dX12_layNames_12 (by decide) ?_
  refine lv_iload_n S.1 S.2.1 dX12_layNames_13 rfl (lv_at hl 2 rfl) ?_
  refine lv_i2l (v := Int32.toInt64 x2) S.1 S.2.1 dX12_layNames_14 rfl ?_
  obtain ⟨h8, e7, f⟩ := ob f
  refine o_last S I e7 dX12_layNames_15 (fun H locs I => ?_)
  refine lv_aload_n S.1 S.2.1 dX12_layNames_16 rfl (lv_at hl 0 rfl) ?_
  obtain ⟨r9, e10, f⟩ := ob f
  refine o_gR S lf12_layNames_81 I e10 dX12_layNames_17 ?_
  refine lv_iconst (v := 2) S.1 S.2.1 dX12_layNames_20 (by decide) ?_
  refine lv_iload_n S.1 S.2.1 dX12_layNames_21 rfl (lv_at hl 3 rfl) ?_
  refine lv_i2l (v := Int32.toInt64 x3) S.1 S.2.1 dX12_layNames_22 rfl ?_
  obtain ⟨h12, e11, f⟩ := ob f
  refine o_last S I e11 dX12_layNames_23 (fun H locs I => ?_)
  refine lv_aload_n S.1 S.2.1 dX12_layNames_24 rfl (lv_at hl 0 rfl) ?_
  obtain ⟨r13, e14, f⟩ := ob f
  refine o_gR S lf12_layNames_81 I e14 dX12_layNames_25 ?_
  refine lv_iconst (v := 3) S.1 S.2.1 dX12_layNames_28 (by decide) ?_
  refine lv_iload S.1 S.2.1 dX12_layNames_29 (lv_at hl 4 rfl) ?_
  refine lv_if_ge (tgt := 38) S.1 S.2.1 dX12_layNames_31 (by decide) (fun q15 => ?_) (fun q15 => ?_)
  · have f := (if_pos q15).symm.trans f
    refine lv_aload_n S.1 S.2.1 dX12_layNames_38 rfl (lv_at hl 0 rfl) ?_
    obtain ⟨r16, e17, f⟩ := ob f
    refine o_gR S lf12_layNames_51 I e17 dX12_layNames_39 ?_
    refine lv_iload S.1 S.2.1 dX12_layNames_42 (lv_at hl 4 rfl) ?_
    obtain ⟨v19, e18, f⟩ := ob f
    refine o_iald S I e18 dX12_layNames_44 ?_
    refine lv_i2l (v := Int32.toInt64 v19) S.1 S.2.1 dX12_layNames_45 rfl ?_
    exact T12_layNames_46 S hr hlo  f I (lv_sub hl [0, 4, 5] rfl)
  · have f := (if_neg q15).symm.trans f
    refine lv_lconst (v := 0) S.1 S.2.1 dX12_layNames_34 (by decide) ?_
    refine lv_goto (tgt := 46) S.1 S.2.1 dX12_layNames_35 (by decide) ?_
    exact T12_layNames_46 S hr hlo  f I (lv_sub hl [0, 4, 5] rfl)
theorem M12_layNames (l : Launch) (D : va_G) (cy : Nat → ClassId) (b : Nat) (A : Nat → Prop) (fl : Bool) {h : PH} {a0 : Nat} {x1 : Int32} {x2 : Int32} {x3 : Int32} {x4 : Int32} {x5 : Int32} {out : PH} (f : F12_layNames h a0 x1 x2 x3 x4 x5 = some out) : Met l yX12_layNames vX12_layNames ({ frames := 0, cells := 0, slots := 0, locals := 0 } : Room) (va_Pc [.ref (b + a0), .int x1, .int x2, .int x3, .int x4, .int x5] (ph_B D cy b A fl h)) (va_Qv (fun (u : PH) => u = out) (ph_B D cy b A fl) A) 0 0 A :=
  o_met (by decide) rfl (Nat.le_of_ble_eq_true rfl) rfl (fun p e s m below meth c S hr hlo hnm ls hl I => T12_layNames_0 S hr hlo ((gd f).2) I (lv_sub hl [0, 1, 2, 3, 4, 5] rfl))
def vX12_bounded : List Cond := .code yX12_bounded cX12_bounded 3 (some .long) :: TB
theorem lp12_bounded_347 : Pl vX12_bounded RX12 347 12 54 .boolean := ⟨RX12, TX12, 87, tyX12, rfl, by decide, (fun w h9 => List.mem_cons_of_mem _ (wC_wsX120 w h9)), (List.mem_cons_of_mem _ wT_35_10), tyX12_ok, nmX12, rfl, rfl⟩
theorem lf12_bounded_347 : Fl vX12_bounded RX12 347 12 54 := ⟨RX12, TX12, 87, rfl, by decide, (fun w h9 => List.mem_cons_of_mem _ (wC_wsX120 w h9)), (List.mem_cons_of_mem _ wT_35_10)⟩
theorem cd12_bounded : Cd yX12_bounded 1 := ⟨by decide, by decide, by decide +kernel⟩
set_option maxHeartbeats 4000000 in
set_option maxRecDepth 100000 in
theorem T12_bounded_29 (S : CallFix p m c cX12_bounded 3 s args vX12_bounded RX12) (hr : meth.sig.returnType = (some .long)) (hlo : meth.locks = false) {out : Int64 × PH} {h : PH} {a0 : Nat} {j1 : Int64} {s0 : Int32} {u1 : Nat} (f : F12_bounded_29  h a0 j1 s0 u1 = some out) {H : Heap} {locs : List Loc} (I : ph_I D cy b A fl h s H locs) {ls : Array Slot} (hl : lv_has ls 3 [(0, .ref (b + a0)), (1, .long j1)]) : W p l e ({ frames := 0, cells := 0, slots := 0, locals := 0 } : Room) s m args below meth c H locs 0 0 (MQ below (va_Ql (fun (r : Int64) (u : PH) => (r, u) = out) (ph_B D cy b A fl) A) args s 0 0 A) (F0 m 29 ls [.int s0, .ref (b + u1)]) := by
  unfold F12_bounded_29 at f
  obtain ⟨h1, e2, f⟩ := ob f
  refine o_pZ S lp12_bounded_347 I e2 dX12_bounded_29 (fun H locs I => ?_)
  refine lv_aload_n S.1 S.2.1 dX12_bounded_32 rfl (lv_at hl 0 rfl) ?_
  obtain ⟨v3, e4, f⟩ := ob f
  refine o_gI S lf12_bounded_347 I e4 dX12_bounded_33 ?_
  refine lv_if_eq (tgt := 43) S.1 S.2.1 dX12_bounded_36 (by decide) (fun q5 => ?_) (fun q5 => ?_)
  · have f := (if_pos q5).symm.trans f
    refine lv_lload_n S.1 S.2.1 dX12_bounded_43 rfl (lv_at hl 1 rfl) ?_
    exact o_lret S hr hlo I f dX12_bounded_44
  · have f := (if_neg q5).symm.trans f
    refine lv_lconst (v := 0) S.1 S.2.1 dX12_bounded_39 (by decide) ?_
    refine lv_goto (tgt := 44) S.1 S.2.1 dX12_bounded_40 (by decide) ?_
    exact o_lret S hr hlo I f dX12_bounded_44
set_option maxHeartbeats 4000000 in
set_option maxRecDepth 100000 in
theorem T12_bounded_24 (S : CallFix p m c cX12_bounded 3 s args vX12_bounded RX12) (hr : meth.sig.returnType = (some .long)) (hlo : meth.locks = false) {out : Int64 × PH} {h : PH} {a0 : Nat} {j1 : Int64} {u0 : Nat} (f : F12_bounded_24  h a0 j1 u0 = some out) {H : Heap} {locs : List Loc} (I : ph_I D cy b A fl h s H locs) {ls : Array Slot} (hl : lv_has ls 3 [(0, .ref (b + a0)), (1, .long j1)]) : W p l e ({ frames := 0, cells := 0, slots := 0, locals := 0 } : Room) s m args below meth c H locs 0 0 (MQ below (va_Ql (fun (r : Int64) (u : PH) => (r, u) = out) (ph_B D cy b A fl) A) args s 0 0 A) (F0 m 24 ls [.ref (b + u0)]) := by
  unfold F12_bounded_24 at f
  refine lv_iconst (v := 1) S.1 S.2.1 dX12_bounded_24 (by decide) ?_
  refine lv_goto (tgt := 29) S.1 S.2.1 dX12_bounded_25 (by decide) ?_
  exact T12_bounded_29 S hr hlo  f I (lv_sub hl [0, 1] rfl)
set_option maxHeartbeats 4000000 in
set_option maxRecDepth 100000 in
theorem T12_bounded_0 (S : CallFix p m c cX12_bounded 3 s args vX12_bounded RX12) (hr : meth.sig.returnType = (some .long)) (hlo : meth.locks = false) {out : Int64 × PH} {h : PH} {a0 : Nat} {j1 : Int64} (f : F12_bounded_0  h a0 j1 = some out) {H : Heap} {locs : List Loc} (I : ph_I D cy b A fl h s H locs) {ls : Array Slot} (hl : lv_has ls 3 [(0, .ref (b + a0)), (1, .long j1)]) : W p l e ({ frames := 0, cells := 0, slots := 0, locals := 0 } : Room) s m args below meth c H locs 0 0 (MQ below (va_Ql (fun (r : Int64) (u : PH) => (r, u) = out) (ph_B D cy b A fl) A) args s 0 0 A) (F0 m 0 ls []) := by
  unfold F12_bounded_0 at f
  refine lv_aload_n S.1 S.2.1 dX12_bounded_0 rfl (lv_at hl 0 rfl) ?_
  refine lv_aload_n S.1 S.2.1 dX12_bounded_1 rfl (lv_at hl 0 rfl) ?_
  obtain ⟨v1, e2, f⟩ := ob f
  refine o_gI S lf12_bounded_347 I e2 dX12_bounded_2 ?_
  refine lv_if_ne (tgt := 24) S.1 S.2.1 dX12_bounded_5 (by decide) (fun q3 => ?_) (fun q3 => ?_)
  · have f := (if_neg q3).symm.trans f
    exact T12_bounded_24 S hr hlo  f I (lv_sub hl [0, 1] rfl)
  · have f := (if_pos q3).symm.trans f
    refine lv_lload_n S.1 S.2.1 dX12_bounded_8 rfl (lv_at hl 1 rfl) ?_
    refine lv_ldc2 (v := 1000000000000) S.1 S.2.1 S.2.2.2.1 (S.2.2.2.2 _ (List.mem_cons_of_mem _ wT_35_23)) dX12_bounded_9 ?_
    refine W.lcmp S.1 S.2.1 dX12_bounded_12 ?_
    refine lv_if_gt (tgt := 24) S.1 S.2.1 dX12_bounded_13 (by decide) (fun q4 => ?_) (fun q4 => ?_)
    · have f := (if_pos q4).symm.trans f
      exact T12_bounded_24 S hr hlo  f I (lv_sub hl [0, 1] rfl)
    · have f := (if_neg q4).symm.trans f
      refine lv_lload_n S.1 S.2.1 dX12_bounded_16 rfl (lv_at hl 1 rfl) ?_
      refine lv_ldc2 (v := (-1000000000000)) S.1 S.2.1 S.2.2.2.1 (S.2.2.2.2 _ (List.mem_cons_of_mem _ wT_36_0)) dX12_bounded_17 ?_
      refine W.lcmp S.1 S.2.1 dX12_bounded_20 ?_
      refine lv_if_ge (tgt := 28) S.1 S.2.1 dX12_bounded_21 (by decide) (fun q5 => ?_) (fun q5 => ?_)
      · have f := (if_pos q5).symm.trans f
        refine lv_iconst (v := 0) S.1 S.2.1 dX12_bounded_28 (by decide) ?_
        exact T12_bounded_29 S hr hlo  f I (lv_sub hl [0, 1] rfl)
      · have f := (if_neg q5).symm.trans f
        exact T12_bounded_24 S hr hlo  f I (lv_sub hl [0, 1] rfl)
theorem M12_bounded (l : Launch) (D : va_G) (cy : Nat → ClassId) (b : Nat) (A : Nat → Prop) (fl : Bool) {h : PH} {a0 : Nat} {j1 : Int64} {out : Int64 × PH} (f : F12_bounded h a0 j1 = some out) : Met l yX12_bounded vX12_bounded ({ frames := 0, cells := 0, slots := 0, locals := 0 } : Room) (va_Pc [.ref (b + a0), .long j1] (ph_B D cy b A fl h)) (va_Ql (fun (r : Int64) (u : PH) => (r, u) = out) (ph_B D cy b A fl) A) 0 0 A :=
  o_met (by decide) rfl (Nat.le_of_ble_eq_true rfl) rfl (fun p e s m below meth c S hr hlo hnm ls hl I => T12_bounded_0 S hr hlo ((gd f).2) I (lv_sub hl [0, 1] rfl))
def vX12_times : List Cond := .code yX12_times cX12_times 6 (some .long) :: TB
theorem lp12_times_347 : Pl vX12_times RX12 347 12 54 .boolean := ⟨RX12, TX12, 87, tyX12, rfl, by decide, (fun w h9 => List.mem_cons_of_mem _ (wC_wsX120 w h9)), (List.mem_cons_of_mem _ wT_35_10), tyX12_ok, nmX12, rfl, rfl⟩
theorem lf12_times_347 : Fl vX12_times RX12 347 12 54 := ⟨RX12, TX12, 87, rfl, by decide, (fun w h9 => List.mem_cons_of_mem _ (wC_wsX120 w h9)), (List.mem_cons_of_mem _ wT_35_10)⟩
theorem cd12_times : Cd yX12_times 2 := ⟨by decide, by decide, by decide +kernel⟩
set_option maxHeartbeats 4000000 in
set_option maxRecDepth 100000 in
theorem T12_times_69 (S : CallFix p m c cX12_times 6 s args vX12_times RX12) (hr : meth.sig.returnType = (some .long)) (hlo : meth.locks = false) {out : Int64 × PH} {h : PH} {a0 : Nat} {j1 : Int64} {j3 : Int64} {s0 : Int32} {u1 : Nat} (f : F12_times_69  h a0 j1 j3 s0 u1 = some out) {H : Heap} {locs : List Loc} (I : ph_I D cy b A fl h s H locs) {ls : Array Slot} (hl : lv_has ls 6 [(0, .ref (b + a0)), (1, .long j1), (3, .long j3)]) : W p l e ({ frames := 0, cells := 0, slots := 0, locals := 0 } : Room) s m args below meth c H locs 0 0 (MQ below (va_Ql (fun (r : Int64) (u : PH) => (r, u) = out) (ph_B D cy b A fl) A) args s 0 0 A) (F0 m 69 ls [.int s0, .ref (b + u1)]) := by
  unfold F12_times_69 at f
  obtain ⟨h1, e2, f⟩ := ob f
  refine o_pZ S lp12_times_347 I e2 dX12_times_69 (fun H locs I => ?_)
  refine lv_aload_n S.1 S.2.1 dX12_times_72 rfl (lv_at hl 0 rfl) ?_
  obtain ⟨v3, e4, f⟩ := ob f
  refine o_gI S lf12_times_347 I e4 dX12_times_73 ?_
  refine lv_if_eq (tgt := 83) S.1 S.2.1 dX12_times_76 (by decide) (fun q5 => ?_) (fun q5 => ?_)
  · have f := (if_pos q5).symm.trans f
    refine lv_lload_n S.1 S.2.1 dX12_times_83 rfl (lv_at hl 1 rfl) ?_
    refine lv_lload_n S.1 S.2.1 dX12_times_84 rfl (lv_at hl 2 rfl) ?_
    refine lv_lmul S.1 S.2.1 dX12_times_85 ?_
    exact o_lret S hr hlo I f dX12_times_86
  · have f := (if_neg q5).symm.trans f
    refine lv_lconst (v := 0) S.1 S.2.1 dX12_times_79 (by decide) ?_
    refine lv_goto (tgt := 86) S.1 S.2.1 dX12_times_80 (by decide) ?_
    exact o_lret S hr hlo I f dX12_times_86
set_option maxHeartbeats 4000000 in
set_option maxRecDepth 100000 in
theorem T12_times_64 (S : CallFix p m c cX12_times 6 s args vX12_times RX12) (hr : meth.sig.returnType = (some .long)) (hlo : meth.locks = false) {out : Int64 × PH} {h : PH} {a0 : Nat} {j1 : Int64} {j3 : Int64} {u0 : Nat} (f : F12_times_64  h a0 j1 j3 u0 = some out) {H : Heap} {locs : List Loc} (I : ph_I D cy b A fl h s H locs) {ls : Array Slot} (hl : lv_has ls 6 [(0, .ref (b + a0)), (1, .long j1), (3, .long j3)]) : W p l e ({ frames := 0, cells := 0, slots := 0, locals := 0 } : Room) s m args below meth c H locs 0 0 (MQ below (va_Ql (fun (r : Int64) (u : PH) => (r, u) = out) (ph_B D cy b A fl) A) args s 0 0 A) (F0 m 64 ls [.ref (b + u0)]) := by
  unfold F12_times_64 at f
  refine lv_iconst (v := 1) S.1 S.2.1 dX12_times_64 (by decide) ?_
  refine lv_goto (tgt := 69) S.1 S.2.1 dX12_times_65 (by decide) ?_
  exact T12_times_69 S hr hlo  f I (lv_sub hl [0, 1, 2] rfl)
set_option maxHeartbeats 4000000 in
set_option maxRecDepth 100000 in
theorem T12_times_49 (S : CallFix p m c cX12_times 6 s args vX12_times RX12) (hr : meth.sig.returnType = (some .long)) (hlo : meth.locks = false) {out : Int64 × PH} {h : PH} {a0 : Nat} {j1 : Int64} {j3 : Int64} {s0 : Int32} (f : F12_times_49  h a0 j1 j3 s0 = some out) {H : Heap} {locs : List Loc} (I : ph_I D cy b A fl h s H locs) {ls : Array Slot} (hl : lv_has ls 6 [(0, .ref (b + a0)), (1, .long j1), (3, .long j3)]) : W p l e ({ frames := 0, cells := 0, slots := 0, locals := 0 } : Room) s m args below meth c H locs 0 0 (MQ below (va_Ql (fun (r : Int64) (u : PH) => (r, u) = out) (ph_B D cy b A fl) A) args s 0 0 A) (F0 m 49 ls [.int s0]) := by
  unfold F12_times_49 at f
  refine lv_istore (lv' := [(5, .int s0), (0, .ref (b + a0)), (1, .long j1), (3, .long j3)]) S.1 S.2.1 dX12_times_49 hl (by decide) rfl (fun ls hl => ?_)
  refine lv_aload_n S.1 S.2.1 dX12_times_51 rfl (lv_at hl 1 rfl) ?_
  refine lv_aload_n S.1 S.2.1 dX12_times_52 rfl (lv_at hl 1 rfl) ?_
  obtain ⟨v1, e2, f⟩ := ob f
  refine o_gI S lf12_times_347 I e2 dX12_times_53 ?_
  refine lv_if_ne (tgt := 64) S.1 S.2.1 dX12_times_56 (by decide) (fun q3 => ?_) (fun q3 => ?_)
  · have f := (if_neg q3).symm.trans f
    exact T12_times_64 S hr hlo  f I (lv_sub hl [1, 2, 3] rfl)
  · have f := (if_pos q3).symm.trans f
    refine lv_iload S.1 S.2.1 dX12_times_59 (lv_at hl 0 rfl) ?_
    refine lv_if_eq (tgt := 68) S.1 S.2.1 dX12_times_61 (by decide) (fun q4 => ?_) (fun q4 => ?_)
    · have f := (if_pos q4).symm.trans f
      refine lv_iconst (v := 0) S.1 S.2.1 dX12_times_68 (by decide) ?_
      exact T12_times_69 S hr hlo  f I (lv_sub hl [1, 2, 3] rfl)
    · have f := (if_neg q4).symm.trans f
      exact T12_times_64 S hr hlo  f I (lv_sub hl [1, 2, 3] rfl)
set_option maxHeartbeats 4000000 in
set_option maxRecDepth 100000 in
theorem T12_times_48 (S : CallFix p m c cX12_times 6 s args vX12_times RX12) (hr : meth.sig.returnType = (some .long)) (hlo : meth.locks = false) {out : Int64 × PH} {h : PH} {a0 : Nat} {j1 : Int64} {j3 : Int64} (f : F12_times_48  h a0 j1 j3 = some out) {H : Heap} {locs : List Loc} (I : ph_I D cy b A fl h s H locs) {ls : Array Slot} (hl : lv_has ls 6 [(0, .ref (b + a0)), (1, .long j1), (3, .long j3)]) : W p l e ({ frames := 0, cells := 0, slots := 0, locals := 0 } : Room) s m args below meth c H locs 0 0 (MQ below (va_Ql (fun (r : Int64) (u : PH) => (r, u) = out) (ph_B D cy b A fl) A) args s 0 0 A) (F0 m 48 ls []) := by
  unfold F12_times_48 at f
  refine lv_iconst (v := 0) S.1 S.2.1 dX12_times_48 (by decide) ?_
  exact T12_times_49 S hr hlo  f I (lv_sub hl [0, 1, 2] rfl)
set_option maxHeartbeats 4000000 in
set_option maxRecDepth 100000 in
theorem T12_times_39 (S : CallFix p m c cX12_times 6 s args vX12_times RX12) (hr : meth.sig.returnType = (some .long)) (hlo : meth.locks = false) {out : Int64 × PH} {h : PH} {a0 : Nat} {j1 : Int64} {j3 : Int64} {t0 : Int64} {t1 : Int64} {t2 : Int64} (f : F12_times_39  h a0 j1 j3 t0 t1 t2 = some out) {H : Heap} {locs : List Loc} (I : ph_I D cy b A fl h s H locs) {ls : Array Slot} (hl : lv_has ls 6 [(0, .ref (b + a0)), (1, .long j1), (3, .long j3)]) : W p l e ({ frames := 0, cells := 0, slots := 0, locals := 0 } : Room) s m args below meth c H locs 0 0 (MQ below (va_Ql (fun (r : Int64) (u : PH) => (r, u) = out) (ph_B D cy b A fl) A) args s 0 0 A) (F0 m 39 ls [.long t0, .long t1, .long t2]) := by
  unfold F12_times_39 at f
  have q1 : ¬ t0 = 0 := fun q => by rw [if_pos q] at f; cases f
  have f := (if_neg q1).symm.trans f
  refine lv_ldiv S.1 S.2.1 dX12_times_39 q1 ?_
  refine W.lcmp S.1 S.2.1 dX12_times_40 ?_
  refine lv_if_le (tgt := 48) S.1 S.2.1 dX12_times_41 (by decide) (fun q2 => ?_) (fun q2 => ?_)
  · have f := (if_pos q2).symm.trans f
    exact T12_times_48 S hr hlo  f I (lv_sub hl [0, 1, 2] rfl)
  · have f := (if_neg q2).symm.trans f
    refine lv_iconst (v := 1) S.1 S.2.1 dX12_times_44 (by decide) ?_
    refine lv_goto (tgt := 49) S.1 S.2.1 dX12_times_45 (by decide) ?_
    exact T12_times_49 S hr hlo  f I (lv_sub hl [0, 1, 2] rfl)
set_option maxHeartbeats 4000000 in
set_option maxRecDepth 100000 in
theorem T12_times_24 (S : CallFix p m c cX12_times 6 s args vX12_times RX12) (hr : meth.sig.returnType = (some .long)) (hlo : meth.locks = false) {out : Int64 × PH} {h : PH} {a0 : Nat} {j1 : Int64} {j3 : Int64} {t0 : Int64} (f : F12_times_24  h a0 j1 j3 t0 = some out) {H : Heap} {locs : List Loc} (I : ph_I D cy b A fl h s H locs) {ls : Array Slot} (hl : lv_has ls 6 [(0, .ref (b + a0)), (1, .long j1), (3, .long j3)]) : W p l e ({ frames := 0, cells := 0, slots := 0, locals := 0 } : Room) s m args below meth c H locs 0 0 (MQ below (va_Ql (fun (r : Int64) (u : PH) => (r, u) = out) (ph_B D cy b A fl) A) args s 0 0 A) (F0 m 24 ls [.long t0]) := by
  unfold F12_times_24 at f
  refine lv_ldc2 (v := 1000000000000) S.1 S.2.1 S.2.2.2.1 (S.2.2.2.2 _ (List.mem_cons_of_mem _ wT_35_23)) dX12_times_24 ?_
  refine lv_lload_n S.1 S.2.1 dX12_times_27 rfl (lv_at hl 1 rfl) ?_
  refine lv_lconst (v := 0) S.1 S.2.1 dX12_times_28 (by decide) ?_
  refine W.lcmp S.1 S.2.1 dX12_times_29 ?_
  refine lv_if_ge (tgt := 38) S.1 S.2.1 dX12_times_30 (by decide) (fun q1 => ?_) (fun q1 => ?_)
  · have f := (if_pos q1).symm.trans f
    refine lv_lload_n S.1 S.2.1 dX12_times_38 rfl (lv_at hl 1 rfl) ?_
    exact T12_times_39 S hr hlo  f I (lv_sub hl [0, 1, 2] rfl)
  · have f := (if_neg q1).symm.trans f
    refine lv_lload_n S.1 S.2.1 dX12_times_33 rfl (lv_at hl 1 rfl) ?_
    refine lv_lneg S.1 S.2.1 dX12_times_34 ?_
    refine lv_goto (tgt := 39) S.1 S.2.1 dX12_times_35 (by decide) ?_
    exact T12_times_39 S hr hlo  f I (lv_sub hl [0, 1, 2] rfl)
set_option maxHeartbeats 4000000 in
set_option maxRecDepth 100000 in
theorem T12_times_0 (S : CallFix p m c cX12_times 6 s args vX12_times RX12) (hr : meth.sig.returnType = (some .long)) (hlo : meth.locks = false) {out : Int64 × PH} {h : PH} {a0 : Nat} {j1 : Int64} {j3 : Int64} (f : F12_times_0  h a0 j1 j3 = some out) {H : Heap} {locs : List Loc} (I : ph_I D cy b A fl h s H locs) {ls : Array Slot} (hl : lv_has ls 6 [(0, .ref (b + a0)), (1, .long j1), (3, .long j3)]) : W p l e ({ frames := 0, cells := 0, slots := 0, locals := 0 } : Room) s m args below meth c H locs 0 0 (MQ below (va_Ql (fun (r : Int64) (u : PH) => (r, u) = out) (ph_B D cy b A fl) A) args s 0 0 A) (F0 m 0 ls []) := by
  unfold F12_times_0 at f
  refine lv_lload_n S.1 S.2.1 dX12_times_0 rfl (lv_at hl 1 rfl) ?_
  refine lv_lconst (v := 0) S.1 S.2.1 dX12_times_1 (by decide) ?_
  refine W.lcmp S.1 S.2.1 dX12_times_2 ?_
  refine lv_if_eq (tgt := 48) S.1 S.2.1 dX12_times_3 (by decide) (fun q1 => ?_) (fun q1 => ?_)
  · have f := (if_pos q1).symm.trans f
    exact T12_times_48 S hr hlo  f I (lv_sub hl [0, 1, 2] rfl)
  · have f := (if_neg q1).symm.trans f
    refine lv_lload_n S.1 S.2.1 dX12_times_6 rfl (lv_at hl 2 rfl) ?_
    refine lv_lconst (v := 0) S.1 S.2.1 dX12_times_7 (by decide) ?_
    refine W.lcmp S.1 S.2.1 dX12_times_8 ?_
    refine lv_if_eq (tgt := 48) S.1 S.2.1 dX12_times_9 (by decide) (fun q2 => ?_) (fun q2 => ?_)
    · have f := (if_pos q2).symm.trans f
      exact T12_times_48 S hr hlo  f I (lv_sub hl [0, 1, 2] rfl)
    · have f := (if_neg q2).symm.trans f
      refine lv_lload_n S.1 S.2.1 dX12_times_12 rfl (lv_at hl 2 rfl) ?_
      refine lv_lconst (v := 0) S.1 S.2.1 dX12_times_13 (by decide) ?_
      refine W.lcmp S.1 S.2.1 dX12_times_14 ?_
      refine lv_if_ge (tgt := 23) S.1 S.2.1 dX12_times_15 (by decide) (fun q3 => ?_) (fun q3 => ?_)
      · have f := (if_pos q3).symm.trans f
        refine lv_lload_n S.1 S.2.1 dX12_times_23 rfl (lv_at hl 2 rfl) ?_
        exact T12_times_24 S hr hlo  f I (lv_sub hl [0, 1, 2] rfl)
      · have f := (if_neg q3).symm.trans f
        refine lv_lload_n S.1 S.2.1 dX12_times_18 rfl (lv_at hl 2 rfl) ?_
        refine lv_lneg S.1 S.2.1 dX12_times_19 ?_
        refine lv_goto (tgt := 24) S.1 S.2.1 dX12_times_20 (by decide) ?_
        exact T12_times_24 S hr hlo  f I (lv_sub hl [0, 1, 2] rfl)
theorem M12_times (l : Launch) (D : va_G) (cy : Nat → ClassId) (b : Nat) (A : Nat → Prop) (fl : Bool) {h : PH} {a0 : Nat} {j1 : Int64} {j3 : Int64} {out : Int64 × PH} (f : F12_times h a0 j1 j3 = some out) : Met l yX12_times vX12_times ({ frames := 0, cells := 0, slots := 0, locals := 0 } : Room) (va_Pc [.ref (b + a0), .long j1, .long j3] (ph_B D cy b A fl h)) (va_Ql (fun (r : Int64) (u : PH) => (r, u) = out) (ph_B D cy b A fl) A) 0 0 A :=
  o_met (by decide) rfl (Nat.le_of_ble_eq_true rfl) rfl (fun p e s m below meth c S hr hlo hnm ls hl I => T12_times_0 S hr hlo ((gd f).2) I (lv_sub hl [0, 1, 2] rfl))
def vX12_compares : List Cond := .code yX12_compares cX12_compares 5 (some .boolean) :: TB
theorem cd12_compares : Cd yX12_compares 3 := ⟨by decide, by decide, by decide +kernel⟩
set_option maxHeartbeats 4000000 in
set_option maxRecDepth 100000 in
theorem T12_compares_0 (S : CallFix p m c cX12_compares 5 s args vX12_compares RX12) (hr : meth.sig.returnType = (some .boolean)) (hlo : meth.locks = false) {out : Int32 × PH} {h : PH} {x0 : Int32} {j1 : Int64} {j3 : Int64} (f : F12_compares_0  h x0 j1 j3 = some out) {H : Heap} {locs : List Loc} (I : ph_I D cy b A fl h s H locs) {ls : Array Slot} (hl : lv_has ls 5 [(0, .int x0), (1, .long j1), (3, .long j3)]) : W p l e ({ frames := 0, cells := 0, slots := 0, locals := 0 } : Room) s m args below meth c H locs 0 0 (MQ below (va_Qi (fun (r : Int32) (u : PH) => (r, u) = out) (ph_B D cy b A fl) A) args s 0 0 A) (F0 m 0 ls []) := by
  unfold F12_compares_0 at f
  refine lv_iload_n S.1 S.2.1 dX12_compares_0 rfl (lv_at hl 0 rfl) ?_
  rcases Decidable.em (x0 = 5) with q1 | q1
  · have f := (if_pos q1).symm.trans f
    refine lv_tableIn (off := 35) (tgt := 36) S.1 S.2.1 dX12_compares_1 (by rw [q1]; decide) (by rw [q1]; decide) (by rw [q1]; rfl) (by decide) ?_
    refine lv_lload_n S.1 S.2.1 dX12_compares_36 rfl (lv_at hl 1 rfl) ?_
    refine lv_lload_n S.1 S.2.1 dX12_compares_37 rfl (lv_at hl 2 rfl) ?_
    refine W.lcmp S.1 S.2.1 dX12_compares_38 ?_
    refine lv_if_ge (tgt := 46) S.1 S.2.1 dX12_compares_39 (by decide) (fun q2 => ?_) (fun q2 => ?_)
    · have f := (if_pos q2).symm.trans f
      refine lv_iconst (v := 0) S.1 S.2.1 dX12_compares_46 (by decide) ?_
      exact o_zret S hr hlo I f dX12_compares_47
    · have f := (if_neg q2).symm.trans f
      refine lv_iconst (v := 1) S.1 S.2.1 dX12_compares_42 (by decide) ?_
      refine lv_goto (tgt := 47) S.1 S.2.1 dX12_compares_43 (by decide) ?_
      exact o_zret S hr hlo I f dX12_compares_47
  have f := (if_neg q1).symm.trans f
  rcases Decidable.em (x0 = 6) with q3 | q3
  · have f := (if_pos q3).symm.trans f
    refine lv_tableIn (off := 47) (tgt := 48) S.1 S.2.1 dX12_compares_1 (by rw [q3]; decide) (by rw [q3]; decide) (by rw [q3]; rfl) (by decide) ?_
    refine lv_lload_n S.1 S.2.1 dX12_compares_48 rfl (lv_at hl 1 rfl) ?_
    refine lv_lload_n S.1 S.2.1 dX12_compares_49 rfl (lv_at hl 2 rfl) ?_
    refine W.lcmp S.1 S.2.1 dX12_compares_50 ?_
    refine lv_if_gt (tgt := 58) S.1 S.2.1 dX12_compares_51 (by decide) (fun q4 => ?_) (fun q4 => ?_)
    · have f := (if_pos q4).symm.trans f
      refine lv_iconst (v := 0) S.1 S.2.1 dX12_compares_58 (by decide) ?_
      exact o_zret S hr hlo I f dX12_compares_59
    · have f := (if_neg q4).symm.trans f
      refine lv_iconst (v := 1) S.1 S.2.1 dX12_compares_54 (by decide) ?_
      refine lv_goto (tgt := 59) S.1 S.2.1 dX12_compares_55 (by decide) ?_
      exact o_zret S hr hlo I f dX12_compares_59
  have f := (if_neg q3).symm.trans f
  rcases Decidable.em (x0 = 7) with q5 | q5
  · have f := (if_pos q5).symm.trans f
    refine lv_tableIn (off := 59) (tgt := 60) S.1 S.2.1 dX12_compares_1 (by rw [q5]; decide) (by rw [q5]; decide) (by rw [q5]; rfl) (by decide) ?_
    refine lv_lload_n S.1 S.2.1 dX12_compares_60 rfl (lv_at hl 1 rfl) ?_
    refine lv_lload_n S.1 S.2.1 dX12_compares_61 rfl (lv_at hl 2 rfl) ?_
    refine W.lcmp S.1 S.2.1 dX12_compares_62 ?_
    refine lv_if_ne (tgt := 70) S.1 S.2.1 dX12_compares_63 (by decide) (fun q6 => ?_) (fun q6 => ?_)
    · have f := (if_neg q6).symm.trans f
      refine lv_iconst (v := 0) S.1 S.2.1 dX12_compares_70 (by decide) ?_
      exact o_zret S hr hlo I f dX12_compares_71
    · have f := (if_pos q6).symm.trans f
      refine lv_iconst (v := 1) S.1 S.2.1 dX12_compares_66 (by decide) ?_
      refine lv_goto (tgt := 71) S.1 S.2.1 dX12_compares_67 (by decide) ?_
      exact o_zret S hr hlo I f dX12_compares_71
  have f := (if_neg q5).symm.trans f
  rcases Decidable.em (x0 = 8) with q7 | q7
  · have f := (if_pos q7).symm.trans f
    refine lv_tableIn (off := 71) (tgt := 72) S.1 S.2.1 dX12_compares_1 (by rw [q7]; decide) (by rw [q7]; decide) (by rw [q7]; rfl) (by decide) ?_
    refine lv_lload_n S.1 S.2.1 dX12_compares_72 rfl (lv_at hl 1 rfl) ?_
    refine lv_lload_n S.1 S.2.1 dX12_compares_73 rfl (lv_at hl 2 rfl) ?_
    refine W.lcmp S.1 S.2.1 dX12_compares_74 ?_
    refine lv_if_eq (tgt := 82) S.1 S.2.1 dX12_compares_75 (by decide) (fun q8 => ?_) (fun q8 => ?_)
    · have f := (if_pos q8).symm.trans f
      refine lv_iconst (v := 0) S.1 S.2.1 dX12_compares_82 (by decide) ?_
      exact o_zret S hr hlo I f dX12_compares_83
    · have f := (if_neg q8).symm.trans f
      refine lv_iconst (v := 1) S.1 S.2.1 dX12_compares_78 (by decide) ?_
      refine lv_goto (tgt := 83) S.1 S.2.1 dX12_compares_79 (by decide) ?_
      exact o_zret S hr hlo I f dX12_compares_83
  have f := (if_neg q7).symm.trans f
  rcases Decidable.em (x0 = 9) with q9 | q9
  · have f := (if_pos q9).symm.trans f
    refine lv_tableIn (off := 83) (tgt := 84) S.1 S.2.1 dX12_compares_1 (by rw [q9]; decide) (by rw [q9]; decide) (by rw [q9]; rfl) (by decide) ?_
    refine lv_lload_n S.1 S.2.1 dX12_compares_84 rfl (lv_at hl 1 rfl) ?_
    refine lv_lload_n S.1 S.2.1 dX12_compares_85 rfl (lv_at hl 2 rfl) ?_
    refine W.lcmp S.1 S.2.1 dX12_compares_86 ?_
    refine lv_if_lt (tgt := 94) S.1 S.2.1 dX12_compares_87 (by decide) (fun q10 => ?_) (fun q10 => ?_)
    · have f := (if_pos q10).symm.trans f
      refine lv_iconst (v := 0) S.1 S.2.1 dX12_compares_94 (by decide) ?_
      exact o_zret S hr hlo I f dX12_compares_95
    · have f := (if_neg q10).symm.trans f
      refine lv_iconst (v := 1) S.1 S.2.1 dX12_compares_90 (by decide) ?_
      refine lv_goto (tgt := 95) S.1 S.2.1 dX12_compares_91 (by decide) ?_
      exact o_zret S hr hlo I f dX12_compares_95
  have f := (if_neg q9).symm.trans f
  refine lv_tableOut (tgt := 96) S.1 S.2.1 dX12_compares_1 (by have := lv_neT q1 (a := 5) (by decide); have := lv_neT q3 (a := 6) (by decide); have := lv_neT q5 (a := 7) (by decide); have := lv_neT q7 (a := 8) (by decide); have := lv_neT q9 (a := 9) (by decide); omega) (by decide) ?_
  refine lv_lload_n S.1 S.2.1 dX12_compares_96 rfl (lv_at hl 1 rfl) ?_
  refine lv_lload_n S.1 S.2.1 dX12_compares_97 rfl (lv_at hl 2 rfl) ?_
  refine W.lcmp S.1 S.2.1 dX12_compares_98 ?_
  refine lv_if_le (tgt := 106) S.1 S.2.1 dX12_compares_99 (by decide) (fun q11 => ?_) (fun q11 => ?_)
  · have f := (if_pos q11).symm.trans f
    refine lv_iconst (v := 0) S.1 S.2.1 dX12_compares_106 (by decide) ?_
    exact o_zret S hr hlo I f dX12_compares_107
  · have f := (if_neg q11).symm.trans f
    refine lv_iconst (v := 1) S.1 S.2.1 dX12_compares_102 (by decide) ?_
    refine lv_goto (tgt := 107) S.1 S.2.1 dX12_compares_103 (by decide) ?_
    exact o_zret S hr hlo I f dX12_compares_107
theorem M12_compares (l : Launch) (D : va_G) (cy : Nat → ClassId) (b : Nat) (A : Nat → Prop) (fl : Bool) {h : PH} {x0 : Int32} {j1 : Int64} {j3 : Int64} {out : Int32 × PH} (f : F12_compares h x0 j1 j3 = some out) : Met l yX12_compares vX12_compares ({ frames := 0, cells := 0, slots := 0, locals := 0 } : Room) (va_Pc [.int x0, .long j1, .long j3] (ph_B D cy b A fl h)) (va_Qi (fun (r : Int32) (u : PH) => (r, u) = out) (ph_B D cy b A fl) A) 0 0 A :=
  o_met (by decide) rfl (Nat.le_of_ble_eq_true rfl) rfl (fun p e s m below meth c S hr hlo hnm ls hl I => T12_compares_0 S hr hlo (f) I (lv_sub hl [0, 1, 2] rfl))
def vX12_valueOf : List Cond := .code yX12_valueOf cX12_valueOf 6 (some .long) :: TB
theorem lp12_valueOf_347 : Pl vX12_valueOf RX12 347 12 54 .boolean := ⟨RX12, TX12, 87, tyX12, rfl, by decide, (fun w h9 => List.mem_cons_of_mem _ (wC_wsX120 w h9)), (List.mem_cons_of_mem _ wT_35_10), tyX12_ok, nmX12, rfl, rfl⟩
theorem lf12_valueOf_347 : Fl vX12_valueOf RX12 347 12 54 := ⟨RX12, TX12, 87, rfl, by decide, (fun w h9 => List.mem_cons_of_mem _ (wC_wsX120 w h9)), (List.mem_cons_of_mem _ wT_35_10)⟩
theorem lf12_valueOf_66 : Fl vX12_valueOf RX12 66 12 40 := ⟨RX12, TX12, 87, rfl, by decide, (fun w h9 => List.mem_cons_of_mem _ (wC_wsX120 w h9)), (List.mem_cons_of_mem _ wT_10_15)⟩
theorem lf12_valueOf_85 : Fl vX12_valueOf RX12 85 12 53 := ⟨RX12, TX12, 87, rfl, by decide, (fun w h9 => List.mem_cons_of_mem _ (wC_wsX120 w h9)), (List.mem_cons_of_mem _ wT_10_21)⟩
theorem lf12_valueOf_69 : Fl vX12_valueOf RX12 69 12 41 := ⟨RX12, TX12, 87, rfl, by decide, (fun w h9 => List.mem_cons_of_mem _ (wC_wsX120 w h9)), (List.mem_cons_of_mem _ wT_10_16)⟩
theorem lf12_valueOf_72 : Fl vX12_valueOf RX12 72 12 42 := ⟨RX12, TX12, 87, rfl, by decide, (fun w h9 => List.mem_cons_of_mem _ (wC_wsX120 w h9)), (List.mem_cons_of_mem _ wT_10_17)⟩
theorem gX12_valueOf_X12_bounded : GoodIn vX12_valueOf (wsV RX12 354 RX12 yX12_bounded vX12_bounded) := gV_of wT_35_19 wT_35_20 wT_35_21 wT_1_5 wT_35_22
theorem gX12_valueOf_X12_times : GoodIn vX12_valueOf (wsV RX12 358 RX12 yX12_times vX12_times) := gV_of wT_36_1 wT_36_2 wT_36_3 wT_1_5 wT_36_4
theorem gX12_valueOf_X12_compares : GoodIn vX12_valueOf (va_wsS RX12 362 yX12_compares vX12_compares) := gS_of wT_36_5 wT_36_6 wT_1_5 wT_36_7
theorem lf12_valueOf_81 : Fl vX12_valueOf RX12 81 12 52 := ⟨RX12, TX12, 87, rfl, by decide, (fun w h9 => List.mem_cons_of_mem _ (wC_wsX120 w h9)), (List.mem_cons_of_mem _ wT_10_20)⟩
theorem cd12_valueOf : Cd yX12_valueOf 1 := ⟨by decide, by decide, by decide +kernel⟩
set_option maxHeartbeats 4000000 in
set_option maxRecDepth 100000 in
theorem T12_valueOf_240 (S : CallFix p m c cX12_valueOf 6 s args vX12_valueOf RX12) (hr : meth.sig.returnType = (some .long)) (hlo : meth.locks = false) {out : Int64 × PH} {h : PH} {a0 : Nat} {j2 : Int64} {j4 : Int64} {s0 : Int32} {u1 : Nat} (f : F12_valueOf_240  h a0 j2 j4 s0 u1 = some out) {H : Heap} {locs : List Loc} (I : ph_I D cy b A fl h s H locs) {ls : Array Slot} (hl : lv_has ls 6 [(0, .ref (b + a0)), (2, .long j2), (4, .long j4)]) : W p l e ({ frames := 1, cells := 0, slots := 0, locals := 25 } : Room) s m args below meth c H locs 0 0 (MQ below (va_Ql (fun (r : Int64) (u : PH) => (r, u) = out) (ph_B D cy b A fl) A) args s 0 0 A) (F0 m 240 ls [.int s0, .ref (b + u1)]) := by
  unfold F12_valueOf_240 at f
  obtain ⟨h1, e2, f⟩ := ob f
  refine o_pZ S lp12_valueOf_347 I e2 dX12_valueOf_240 (fun H locs I => ?_)
  refine lv_aload_n S.1 S.2.1 dX12_valueOf_243 rfl (lv_at hl 0 rfl) ?_
  obtain ⟨v3, e4, f⟩ := ob f
  refine o_gI S lf12_valueOf_347 I e4 dX12_valueOf_244 ?_
  refine lv_if_eq (tgt := 254) S.1 S.2.1 dX12_valueOf_247 (by decide) (fun q5 => ?_) (fun q5 => ?_)
  · have f := (if_pos q5).symm.trans f
    refine lv_lload_n S.1 S.2.1 dX12_valueOf_254 rfl (lv_at hl 1 rfl) ?_
    refine lv_lload S.1 S.2.1 dX12_valueOf_255 (lv_at hl 2 rfl) ?_
    have q6 : ¬ j4 = 0 := fun q => by rw [if_pos q] at f; cases f
    have f := (if_neg q6).symm.trans f
    refine lv_ldiv S.1 S.2.1 dX12_valueOf_257 q6 ?_
    exact o_lret S hr hlo I f dX12_valueOf_258
  · have f := (if_neg q5).symm.trans f
    refine lv_lconst (v := 0) S.1 S.2.1 dX12_valueOf_250 (by decide) ?_
    refine lv_goto (tgt := 258) S.1 S.2.1 dX12_valueOf_251 (by decide) ?_
    exact o_lret S hr hlo I f dX12_valueOf_258
set_option maxHeartbeats 4000000 in
set_option maxRecDepth 100000 in
theorem T12_valueOf_235 (S : CallFix p m c cX12_valueOf 6 s args vX12_valueOf RX12) (hr : meth.sig.returnType = (some .long)) (hlo : meth.locks = false) {out : Int64 × PH} {h : PH} {a0 : Nat} {j2 : Int64} {j4 : Int64} {u0 : Nat} (f : F12_valueOf_235  h a0 j2 j4 u0 = some out) {H : Heap} {locs : List Loc} (I : ph_I D cy b A fl h s H locs) {ls : Array Slot} (hl : lv_has ls 6 [(0, .ref (b + a0)), (2, .long j2), (4, .long j4)]) : W p l e ({ frames := 1, cells := 0, slots := 0, locals := 25 } : Room) s m args below meth c H locs 0 0 (MQ below (va_Ql (fun (r : Int64) (u : PH) => (r, u) = out) (ph_B D cy b A fl) A) args s 0 0 A) (F0 m 235 ls [.ref (b + u0)]) := by
  unfold F12_valueOf_235 at f
  refine lv_iconst (v := 1) S.1 S.2.1 dX12_valueOf_235 (by decide) ?_
  refine lv_goto (tgt := 240) S.1 S.2.1 dX12_valueOf_236 (by decide) ?_
  exact T12_valueOf_240 S hr hlo  f I (lv_sub hl [0, 1, 2] rfl)
set_option maxHeartbeats 4000000 in
set_option maxRecDepth 100000 in
theorem T12_valueOf_0 (S : CallFix p m c cX12_valueOf 6 s args vX12_valueOf RX12) (hr : meth.sig.returnType = (some .long)) (hlo : meth.locks = false) {out : Int64 × PH} {h : PH} {a0 : Nat} {x1 : Int32} (f : F12_valueOf_0  h a0 x1 = some out) {H : Heap} {locs : List Loc} (I : ph_I D cy b A fl h s H locs) {ls : Array Slot} (hl : lv_has ls 6 [(0, .ref (b + a0)), (1, .int x1)]) : W p l e ({ frames := 1, cells := 0, slots := 0, locals := 25 } : Room) s m args below meth c H locs 0 0 (MQ below (va_Ql (fun (r : Int64) (u : PH) => (r, u) = out) (ph_B D cy b A fl) A) args s 0 0 A) (F0 m 0 ls []) := by
  unfold F12_valueOf_0 at f
  refine lv_aload_n S.1 S.2.1 dX12_valueOf_0 rfl (lv_at hl 0 rfl) ?_
  obtain ⟨r1, e2, f⟩ := ob f
  refine o_gR S lf12_valueOf_66 I e2 dX12_valueOf_1 ?_
  refine lv_iload_n S.1 S.2.1 dX12_valueOf_4 rfl (lv_at hl 1 rfl) ?_
  obtain ⟨v4, e3, f⟩ := ob f
  refine o_iald S I e3 dX12_valueOf_5 ?_
  refine lv_if_ne (tgt := 17) S.1 S.2.1 dX12_valueOf_6 (by decide) (fun q5 => ?_) (fun q5 => ?_)
  · have f := (if_neg q5).symm.trans f
    refine lv_aload_n S.1 S.2.1 dX12_valueOf_17 rfl (lv_at hl 0 rfl) ?_
    obtain ⟨r6, e7, f⟩ := ob f
    refine o_gR S lf12_valueOf_66 I e7 dX12_valueOf_18 ?_
    refine lv_iload_n S.1 S.2.1 dX12_valueOf_21 rfl (lv_at hl 1 rfl) ?_
    obtain ⟨v9, e8, f⟩ := ob f
    refine o_iald S I e8 dX12_valueOf_22 ?_
    refine lv_iconst (v := 1) S.1 S.2.1 dX12_valueOf_23 (by decide) ?_
    refine lv_icmp_ne (tgt := 39) S.1 S.2.1 dX12_valueOf_24 (by decide) (fun q10 => ?_) (fun q10 => ?_)
    · have f := (if_neg q10).symm.trans f
      refine lv_aload_n S.1 S.2.1 dX12_valueOf_39 rfl (lv_at hl 0 rfl) ?_
      obtain ⟨r11, e12, f⟩ := ob f
      refine o_gR S lf12_valueOf_85 I e12 dX12_valueOf_40 ?_
      refine lv_aload_n S.1 S.2.1 dX12_valueOf_43 rfl (lv_at hl 0 rfl) ?_
      obtain ⟨r13, e14, f⟩ := ob f
      refine o_gR S lf12_valueOf_69 I e14 dX12_valueOf_44 ?_
      refine lv_iload_n S.1 S.2.1 dX12_valueOf_47 rfl (lv_at hl 1 rfl) ?_
      obtain ⟨v16, e15, f⟩ := ob f
      refine o_iald S I e15 dX12_valueOf_48 ?_
      obtain ⟨w18, e17, f⟩ := ob f
      refine o_lald S I e17 dX12_valueOf_49 ?_
      refine lv_lstore_n (lv' := [(2, .long w18), (0, .ref (b + a0)), (1, .int x1)]) S.1 S.2.1 dX12_valueOf_50 rfl hl (by decide) rfl (fun ls hl => ?_)
      refine lv_aload_n S.1 S.2.1 dX12_valueOf_51 rfl (lv_at hl 1 rfl) ?_
      obtain ⟨r19, e20, f⟩ := ob f
      refine o_gR S lf12_valueOf_66 I e20 dX12_valueOf_52 ?_
      refine lv_iload_n S.1 S.2.1 dX12_valueOf_55 rfl (lv_at hl 2 rfl) ?_
      obtain ⟨v22, e21, f⟩ := ob f
      refine o_iald S I e21 dX12_valueOf_56 ?_
      refine lv_iconst (v := 2) S.1 S.2.1 dX12_valueOf_57 (by decide) ?_
      refine lv_icmp_ne (tgt := 73) S.1 S.2.1 dX12_valueOf_58 (by decide) (fun q23 => ?_) (fun q23 => ?_)
      · have f := (if_neg q23).symm.trans f
        refine lv_aload_n S.1 S.2.1 dX12_valueOf_73 rfl (lv_at hl 1 rfl) ?_
        obtain ⟨r24, e25, f⟩ := ob f
        refine o_gR S lf12_valueOf_85 I e25 dX12_valueOf_74 ?_
        refine lv_aload_n S.1 S.2.1 dX12_valueOf_77 rfl (lv_at hl 1 rfl) ?_
        obtain ⟨r26, e27, f⟩ := ob f
        refine o_gR S lf12_valueOf_72 I e27 dX12_valueOf_78 ?_
        refine lv_iload_n S.1 S.2.1 dX12_valueOf_81 rfl (lv_at hl 2 rfl) ?_
        obtain ⟨v29, e28, f⟩ := ob f
        refine o_iald S I e28 dX12_valueOf_82 ?_
        obtain ⟨w31, e30, f⟩ := ob f
        refine o_lald S I e30 dX12_valueOf_83 ?_
        refine lv_lstore (lv' := [(4, .long w31), (2, .long w18), (0, .ref (b + a0)), (1, .int x1)]) S.1 S.2.1 dX12_valueOf_84 hl (by decide) rfl (fun ls hl => ?_)
        refine lv_aload_n S.1 S.2.1 dX12_valueOf_86 rfl (lv_at hl 2 rfl) ?_
        obtain ⟨r32, e33, f⟩ := ob f
        refine o_gR S lf12_valueOf_66 I e33 dX12_valueOf_87 ?_
        refine lv_iload_n S.1 S.2.1 dX12_valueOf_90 rfl (lv_at hl 3 rfl) ?_
        obtain ⟨v35, e34, f⟩ := ob f
        refine o_iald S I e34 dX12_valueOf_91 ?_
        rcases Decidable.em (v35 = 3) with q36 | q36
        · have f := (if_pos q36).symm.trans f
          refine lv_tableIn (off := 64) (tgt := 156) S.1 S.2.1 dX12_valueOf_92 (by rw [q36]; decide) (by rw [q36]; decide) (by rw [q36]; rfl) (by decide) ?_
          refine lv_lload_n S.1 S.2.1 dX12_valueOf_156 rfl (lv_at hl 1 rfl) ?_
          refine lv_lconst (v := 0) S.1 S.2.1 dX12_valueOf_157 (by decide) ?_
          refine W.lcmp S.1 S.2.1 dX12_valueOf_158 ?_
          refine lv_if_eq (tgt := 173) S.1 S.2.1 dX12_valueOf_159 (by decide) (fun q37 => ?_) (fun q37 => ?_)
          · have f := (if_pos q37).symm.trans f
            refine lv_lconst (v := 0) S.1 S.2.1 dX12_valueOf_173 (by decide) ?_
            exact o_lret S hr hlo I f dX12_valueOf_174
          · have f := (if_neg q37).symm.trans f
            refine lv_lload S.1 S.2.1 dX12_valueOf_162 (lv_at hl 0 rfl) ?_
            refine lv_lconst (v := 0) S.1 S.2.1 dX12_valueOf_164 (by decide) ?_
            refine W.lcmp S.1 S.2.1 dX12_valueOf_165 ?_
            refine lv_if_eq (tgt := 173) S.1 S.2.1 dX12_valueOf_166 (by decide) (fun q38 => ?_) (fun q38 => ?_)
            · have f := (if_pos q38).symm.trans f
              refine lv_lconst (v := 0) S.1 S.2.1 dX12_valueOf_173 (by decide) ?_
              exact o_lret S hr hlo I f dX12_valueOf_174
            · have f := (if_neg q38).symm.trans f
              refine lv_lconst (v := 1) S.1 S.2.1 dX12_valueOf_169 (by decide) ?_
              refine lv_goto (tgt := 174) S.1 S.2.1 dX12_valueOf_170 (by decide) ?_
              exact o_lret S hr hlo I f dX12_valueOf_174
        have f := (if_neg q36).symm.trans f
        rcases Decidable.em (v35 = 4) with q39 | q39
        · have f := (if_pos q39).symm.trans f
          refine lv_tableIn (off := 83) (tgt := 175) S.1 S.2.1 dX12_valueOf_92 (by rw [q39]; decide) (by rw [q39]; decide) (by rw [q39]; rfl) (by decide) ?_
          refine lv_lload_n S.1 S.2.1 dX12_valueOf_175 rfl (lv_at hl 1 rfl) ?_
          refine lv_lconst (v := 0) S.1 S.2.1 dX12_valueOf_176 (by decide) ?_
          refine W.lcmp S.1 S.2.1 dX12_valueOf_177 ?_
          refine lv_if_ne (tgt := 188) S.1 S.2.1 dX12_valueOf_178 (by decide) (fun q40 => ?_) (fun q40 => ?_)
          · have f := (if_neg q40).symm.trans f
            refine lv_lconst (v := 1) S.1 S.2.1 dX12_valueOf_188 (by decide) ?_
            refine lv_goto (tgt := 193) S.1 S.2.1 dX12_valueOf_189 (by decide) ?_
            exact o_lret S hr hlo I f dX12_valueOf_193
          · have f := (if_pos q40).symm.trans f
            refine lv_lload S.1 S.2.1 dX12_valueOf_181 (lv_at hl 0 rfl) ?_
            refine lv_lconst (v := 0) S.1 S.2.1 dX12_valueOf_183 (by decide) ?_
            refine W.lcmp S.1 S.2.1 dX12_valueOf_184 ?_
            refine lv_if_eq (tgt := 192) S.1 S.2.1 dX12_valueOf_185 (by decide) (fun q41 => ?_) (fun q41 => ?_)
            · have f := (if_pos q41).symm.trans f
              refine lv_lconst (v := 0) S.1 S.2.1 dX12_valueOf_192 (by decide) ?_
              exact o_lret S hr hlo I f dX12_valueOf_193
            · have f := (if_neg q41).symm.trans f
              refine lv_lconst (v := 1) S.1 S.2.1 dX12_valueOf_188 (by decide) ?_
              refine lv_goto (tgt := 193) S.1 S.2.1 dX12_valueOf_189 (by decide) ?_
              exact o_lret S hr hlo I f dX12_valueOf_193
        have f := (if_neg q39).symm.trans f
        rcases Decidable.em (v35 = 11) with q42 | q42
        · have f := (if_pos q42).symm.trans f
          refine lv_tableIn (off := 102) (tgt := 194) S.1 S.2.1 dX12_valueOf_92 (by rw [q42]; decide) (by rw [q42]; decide) (by rw [q42]; rfl) (by decide) ?_
          refine lv_aload_n S.1 S.2.1 dX12_valueOf_194 rfl (lv_at hl 2 rfl) ?_
          refine lv_lload_n S.1 S.2.1 dX12_valueOf_195 rfl (lv_at hl 1 rfl) ?_
          refine lv_lload S.1 S.2.1 dX12_valueOf_196 (lv_at hl 0 rfl) ?_
          refine lv_ladd S.1 S.2.1 dX12_valueOf_198 ?_
          obtain ⟨o43, e44, f⟩ := ob f
          refine o_Vl S (As := [.long (w18 + w31)]) (rest := []) (ci := 12) (M12_bounded l D cy b A fl e44) gX12_valueOf_X12_bounded rfl rfl rfl cd12_bounded ⟨Nat.le_of_ble_eq_true rfl, Nat.le_of_ble_eq_true rfl⟩ I (gd e44).1 clX12 rfl rfl hl.1 rfl (Nat.le_of_ble_eq_true rfl) dX12_valueOf_199 ⟨Nat.le_of_ble_eq_true rfl, Nat.le_of_ble_eq_true rfl⟩ (fun H locs I => ?_)
          exact o_lret S hr hlo I f dX12_valueOf_202
        have f := (if_neg q42).symm.trans f
        rcases Decidable.em (v35 = 12) with q45 | q45
        · have f := (if_pos q45).symm.trans f
          refine lv_tableIn (off := 111) (tgt := 203) S.1 S.2.1 dX12_valueOf_92 (by rw [q45]; decide) (by rw [q45]; decide) (by rw [q45]; rfl) (by decide) ?_
          refine lv_aload_n S.1 S.2.1 dX12_valueOf_203 rfl (lv_at hl 2 rfl) ?_
          refine lv_lload_n S.1 S.2.1 dX12_valueOf_204 rfl (lv_at hl 1 rfl) ?_
          refine lv_lload S.1 S.2.1 dX12_valueOf_205 (lv_at hl 0 rfl) ?_
          refine lv_lsub S.1 S.2.1 dX12_valueOf_207 ?_
          obtain ⟨o46, e47, f⟩ := ob f
          refine o_Vl S (As := [.long (w18 - w31)]) (rest := []) (ci := 12) (M12_bounded l D cy b A fl e47) gX12_valueOf_X12_bounded rfl rfl rfl cd12_bounded ⟨Nat.le_of_ble_eq_true rfl, Nat.le_of_ble_eq_true rfl⟩ I (gd e47).1 clX12 rfl rfl hl.1 rfl (Nat.le_of_ble_eq_true rfl) dX12_valueOf_208 ⟨Nat.le_of_ble_eq_true rfl, Nat.le_of_ble_eq_true rfl⟩ (fun H locs I => ?_)
          exact o_lret S hr hlo I f dX12_valueOf_211
        have f := (if_neg q45).symm.trans f
        rcases Decidable.em (v35 = 13) with q48 | q48
        · have f := (if_pos q48).symm.trans f
          refine lv_tableIn (off := 120) (tgt := 212) S.1 S.2.1 dX12_valueOf_92 (by rw [q48]; decide) (by rw [q48]; decide) (by rw [q48]; rfl) (by decide) ?_
          refine lv_aload_n S.1 S.2.1 dX12_valueOf_212 rfl (lv_at hl 2 rfl) ?_
          refine lv_lload_n S.1 S.2.1 dX12_valueOf_213 rfl (lv_at hl 1 rfl) ?_
          refine lv_lload S.1 S.2.1 dX12_valueOf_214 (lv_at hl 0 rfl) ?_
          obtain ⟨o49, e50, f⟩ := ob f
          refine o_Vl S (As := [.long w18, .long w31]) (rest := []) (ci := 12) (M12_times l D cy b A fl e50) gX12_valueOf_X12_times rfl rfl rfl cd12_times ⟨Nat.le_of_ble_eq_true rfl, Nat.le_of_ble_eq_true rfl⟩ I (gd e50).1 clX12 rfl rfl hl.1 rfl (Nat.le_of_ble_eq_true rfl) dX12_valueOf_216 ⟨Nat.le_of_ble_eq_true rfl, Nat.le_of_ble_eq_true rfl⟩ (fun H locs I => ?_)
          exact o_lret S hr hlo I f dX12_valueOf_219
        have f := (if_neg q48).symm.trans f
        rcases Decidable.em (v35 = 14) with q51 | q51
        · have f := (if_pos q51).symm.trans f
          refine lv_tableIn (off := 128) (tgt := 220) S.1 S.2.1 dX12_valueOf_92 (by rw [q51]; decide) (by rw [q51]; decide) (by rw [q51]; rfl) (by decide) ?_
          refine lv_aload_n S.1 S.2.1 dX12_valueOf_220 rfl (lv_at hl 2 rfl) ?_
          refine lv_aload_n S.1 S.2.1 dX12_valueOf_221 rfl (lv_at hl 2 rfl) ?_
          obtain ⟨v52, e53, f⟩ := ob f
          refine o_gI S lf12_valueOf_347 I e53 dX12_valueOf_222 ?_
          refine lv_if_ne (tgt := 235) S.1 S.2.1 dX12_valueOf_225 (by decide) (fun q54 => ?_) (fun q54 => ?_)
          · have f := (if_neg q54).symm.trans f
            exact T12_valueOf_235 S hr hlo  f I (lv_sub hl [2, 1, 0] rfl)
          · have f := (if_pos q54).symm.trans f
            refine lv_lload S.1 S.2.1 dX12_valueOf_228 (lv_at hl 0 rfl) ?_
            refine lv_lconst (v := 0) S.1 S.2.1 dX12_valueOf_230 (by decide) ?_
            refine W.lcmp S.1 S.2.1 dX12_valueOf_231 ?_
            refine lv_if_ne (tgt := 239) S.1 S.2.1 dX12_valueOf_232 (by decide) (fun q55 => ?_) (fun q55 => ?_)
            · have f := (if_neg q55).symm.trans f
              refine lv_iconst (v := 0) S.1 S.2.1 dX12_valueOf_239 (by decide) ?_
              exact T12_valueOf_240 S hr hlo  f I (lv_sub hl [2, 1, 0] rfl)
            · have f := (if_pos q55).symm.trans f
              exact T12_valueOf_235 S hr hlo  f I (lv_sub hl [2, 1, 0] rfl)
        have f := (if_neg q51).symm.trans f
        suffices K : W p l e ({ frames := 1, cells := 0, slots := 0, locals := 25 } : Room) s m args below meth c H locs 0 0 (MQ below (va_Ql (fun (r : Int64) (u : PH) => (r, u) = out) (ph_B D cy b A fl) A) args s 0 0 A) (F0 m 259 ls []) by
          have := lv_neT q36 (a := 3) (by decide)
          have := lv_neT q39 (a := 4) (by decide)
          have := lv_neT q42 (a := 11) (by decide)
          have := lv_neT q45 (a := 12) (by decide)
          have := lv_neT q48 (a := 13) (by decide)
          have := lv_neT q51 (a := 14) (by decide)
          have g9 : (v35).toInt < 3 ∨ 14 < (v35).toInt ∨ (v35).toInt = 5 ∨ (v35).toInt = 6 ∨ (v35).toInt = 7 ∨ (v35).toInt = 8 ∨ (v35).toInt = 9 ∨ (v35).toInt = 10 := by omega
          rcases g9 with g9 | g9 | g9 | g9 | g9 | g9 | g9 | g9
          · exact lv_tableOut (tgt := 259) S.1 S.2.1 dX12_valueOf_92 (Or.inl g9) (by decide) K
          · exact lv_tableOut (tgt := 259) S.1 S.2.1 dX12_valueOf_92 (Or.inr g9) (by decide) K
          · exact lv_tableIn (off := 167) (tgt := 259) S.1 S.2.1 dX12_valueOf_92 (by rw [g9]; decide) (by rw [g9]; decide) (by rw [g9]; rfl) (by decide) K
          · exact lv_tableIn (off := 167) (tgt := 259) S.1 S.2.1 dX12_valueOf_92 (by rw [g9]; decide) (by rw [g9]; decide) (by rw [g9]; rfl) (by decide) K
          · exact lv_tableIn (off := 167) (tgt := 259) S.1 S.2.1 dX12_valueOf_92 (by rw [g9]; decide) (by rw [g9]; decide) (by rw [g9]; rfl) (by decide) K
          · exact lv_tableIn (off := 167) (tgt := 259) S.1 S.2.1 dX12_valueOf_92 (by rw [g9]; decide) (by rw [g9]; decide) (by rw [g9]; rfl) (by decide) K
          · exact lv_tableIn (off := 167) (tgt := 259) S.1 S.2.1 dX12_valueOf_92 (by rw [g9]; decide) (by rw [g9]; decide) (by rw [g9]; rfl) (by decide) K
          · exact lv_tableIn (off := 167) (tgt := 259) S.1 S.2.1 dX12_valueOf_92 (by rw [g9]; decide) (by rw [g9]; decide) (by rw [g9]; rfl) (by decide) K
        refine lv_aload_n S.1 S.2.1 dX12_valueOf_259 rfl (lv_at hl 2 rfl) ?_
        obtain ⟨r56, e57, f⟩ := ob f
        refine o_gR S lf12_valueOf_66 I e57 dX12_valueOf_260 ?_
        refine lv_iload_n S.1 S.2.1 dX12_valueOf_263 rfl (lv_at hl 3 rfl) ?_
        obtain ⟨v59, e58, f⟩ := ob f
        refine o_iald S I e58 dX12_valueOf_264 ?_
        refine lv_lload_n S.1 S.2.1 dX12_valueOf_265 rfl (lv_at hl 1 rfl) ?_
        refine lv_lload S.1 S.2.1 dX12_valueOf_266 (lv_at hl 0 rfl) ?_
        obtain ⟨o60, e61, f⟩ := ob f
        refine o_Si S (As := [.int v59, .long w18, .long w31]) (rest := []) (M12_compares l D cy b A fl e61) gX12_valueOf_X12_compares rfl rfl rfl cd12_compares ⟨Nat.le_of_ble_eq_true rfl, Nat.le_of_ble_eq_true rfl⟩ I rfl hl.1 rfl (Nat.le_of_ble_eq_true rfl) dX12_valueOf_268 ⟨Nat.le_of_ble_eq_true rfl, Nat.le_of_ble_eq_true rfl⟩ (fun H locs I => ?_)
        refine lv_if_eq (tgt := 278) S.1 S.2.1 dX12_valueOf_271 (by decide) (fun q62 => ?_) (fun q62 => ?_)
        · have f := (if_pos q62).symm.trans f
          refine lv_lconst (v := 0) S.1 S.2.1 dX12_valueOf_278 (by decide) ?_
          exact o_lret S hr hlo I f dX12_valueOf_279
        · have f := (if_neg q62).symm.trans f
          refine lv_lconst (v := 1) S.1 S.2.1 dX12_valueOf_274 (by decide) ?_
          refine lv_goto (tgt := 279) S.1 S.2.1 dX12_valueOf_275 (by decide) ?_
          exact o_lret S hr hlo I f dX12_valueOf_279
      · have f := (if_pos q23).symm.trans f
        refine lv_lload_n S.1 S.2.1 dX12_valueOf_61 rfl (lv_at hl 0 rfl) ?_
        refine lv_lconst (v := 0) S.1 S.2.1 dX12_valueOf_62 (by decide) ?_
        refine W.lcmp S.1 S.2.1 dX12_valueOf_63 ?_
        refine lv_if_ne (tgt := 71) S.1 S.2.1 dX12_valueOf_64 (by decide) (fun q63 => ?_) (fun q63 => ?_)
        · have f := (if_neg q63).symm.trans f
          refine lv_lconst (v := 0) S.1 S.2.1 dX12_valueOf_71 (by decide) ?_
          exact o_lret S hr hlo I f dX12_valueOf_72
        · have f := (if_pos q63).symm.trans f
          refine lv_lconst (v := 1) S.1 S.2.1 dX12_valueOf_67 (by decide) ?_
          refine lv_goto (tgt := 72) S.1 S.2.1 dX12_valueOf_68 (by decide) ?_
          exact o_lret S hr hlo I f dX12_valueOf_72
    · have f := (if_pos q10).symm.trans f
      refine lv_aload_n S.1 S.2.1 dX12_valueOf_27 rfl (lv_at hl 0 rfl) ?_
      obtain ⟨r64, e65, f⟩ := ob f
      refine o_gR S lf12_valueOf_81 I e65 dX12_valueOf_28 ?_
      refine lv_aload_n S.1 S.2.1 dX12_valueOf_31 rfl (lv_at hl 0 rfl) ?_
      obtain ⟨r66, e67, f⟩ := ob f
      refine o_gR S lf12_valueOf_69 I e67 dX12_valueOf_32 ?_
      refine lv_iload_n S.1 S.2.1 dX12_valueOf_35 rfl (lv_at hl 1 rfl) ?_
      obtain ⟨v69, e68, f⟩ := ob f
      refine o_iald S I e68 dX12_valueOf_36 ?_
      obtain ⟨w71, e70, f⟩ := ob f
      refine o_lald S I e70 dX12_valueOf_37 ?_
      exact o_lret S hr hlo I f dX12_valueOf_38
  · have f := (if_pos q5).symm.trans f
    refine lv_aload_n S.1 S.2.1 dX12_valueOf_9 rfl (lv_at hl 0 rfl) ?_
    obtain ⟨r72, e73, f⟩ := ob f
    refine o_gR S lf12_valueOf_69 I e73 dX12_valueOf_10 ?_
    refine lv_iload_n S.1 S.2.1 dX12_valueOf_13 rfl (lv_at hl 1 rfl) ?_
    obtain ⟨v75, e74, f⟩ := ob f
    refine o_iald S I e74 dX12_valueOf_14 ?_
    refine lv_i2l (v := Int32.toInt64 v75) S.1 S.2.1 dX12_valueOf_15 rfl ?_
    exact o_lret S hr hlo I f dX12_valueOf_16
theorem M12_valueOf (l : Launch) (D : va_G) (cy : Nat → ClassId) (b : Nat) (A : Nat → Prop) (fl : Bool) {h : PH} {a0 : Nat} {x1 : Int32} {out : Int64 × PH} (f : F12_valueOf h a0 x1 = some out) : Met l yX12_valueOf vX12_valueOf ({ frames := 1, cells := 0, slots := 0, locals := 25 } : Room) (va_Pc [.ref (b + a0), .int x1] (ph_B D cy b A fl h)) (va_Ql (fun (r : Int64) (u : PH) => (r, u) = out) (ph_B D cy b A fl) A) 0 0 A :=
  o_met (by decide) rfl (Nat.le_of_ble_eq_true rfl) rfl (fun p e s m below meth c S hr hlo hnm ls hl I => T12_valueOf_0 S hr hlo ((gd f).2) I (lv_sub hl [0, 1] rfl))
def vX12_lawOf : List Cond := .code yX12_lawOf cX12_lawOf 3 (some .long) :: TB
theorem lf12_lawOf_63 : Fl vX12_lawOf RX12 63 12 39 := ⟨RX12, TX12, 87, rfl, by decide, (fun w h9 => List.mem_cons_of_mem _ (wC_wsX120 w h9)), (List.mem_cons_of_mem _ wT_10_14)⟩
theorem lf12_lawOf_347 : Fl vX12_lawOf RX12 347 12 54 := ⟨RX12, TX12, 87, rfl, by decide, (fun w h9 => List.mem_cons_of_mem _ (wC_wsX120 w h9)), (List.mem_cons_of_mem _ wT_35_10)⟩
theorem lf12_lawOf_85 : Fl vX12_lawOf RX12 85 12 53 := ⟨RX12, TX12, 87, rfl, by decide, (fun w h9 => List.mem_cons_of_mem _ (wC_wsX120 w h9)), (List.mem_cons_of_mem _ wT_10_21)⟩
theorem gX12_lawOf_X12_valueOf : GoodIn vX12_lawOf (wsV RX12 385 RX12 yX12_valueOf vX12_valueOf) := gV_of wT_35_15 wT_35_16 wT_35_17 wT_1_5 wT_35_18
theorem lp12_lawOf_347 : Pl vX12_lawOf RX12 347 12 54 .boolean := ⟨RX12, TX12, 87, tyX12, rfl, by decide, (fun w h9 => List.mem_cons_of_mem _ (wC_wsX120 w h9)), (List.mem_cons_of_mem _ wT_35_10), tyX12_ok, nmX12, rfl, rfl⟩
theorem lf12_lawOf_60 : Fl vX12_lawOf RX12 60 12 38 := ⟨RX12, TX12, 87, rfl, by decide, (fun w h9 => List.mem_cons_of_mem _ (wC_wsX120 w h9)), (List.mem_cons_of_mem _ wT_10_13)⟩
theorem cd12_lawOf : Cd yX12_lawOf 1 := ⟨by decide, by decide, by decide +kernel⟩
set_option maxHeartbeats 4000000 in
set_option maxRecDepth 100000 in
theorem T12_lawOf_12 (S : CallFix p m c cX12_lawOf 3 s args vX12_lawOf RX12) (hr : meth.sig.returnType = (some .long)) (hlo : meth.locks = false) {out : Int64 × PH} : ∀ (n : Nat) {h : PH} {a0 : Nat} {x1 : Int32} {x2 : Int32} (f : F12_lawOf_12  n h a0 x1 x2 = some out) {H : Heap} {locs : List Loc} (I : ph_I D cy b A fl h s H locs) {ls : Array Slot} (hl : lv_has ls 3 [(0, .ref (b + a0)), (1, .int x1), (2, .int x2)]), W p l e ({ frames := 2, cells := 0, slots := 0, locals := 50 } : Room) s m args below meth c H locs 0 0 (MQ below (va_Ql (fun (r : Int64) (u : PH) => (r, u) = out) (ph_B D cy b A fl) A) args s 0 0 A) (F0 m 12 ls []) := by
  intro n
  induction n with
  | zero => intro h a0 x1 x2 f; rw [F12_lawOf_12] at f; cases f
  | succ n ih =>
    intro h a0 x1 x2 f H locs I ls hl
    rw [F12_lawOf_12] at f
    refine lv_iload_n S.1 S.2.1 dX12_lawOf_12 rfl (lv_at hl 2 rfl) ?_
    refine lv_aload_n S.1 S.2.1 dX12_lawOf_13 rfl (lv_at hl 0 rfl) ?_
    obtain ⟨r1, e2, f⟩ := ob f
    refine o_gR S lf12_lawOf_63 I e2 dX12_lawOf_14 ?_
    refine lv_iload_n S.1 S.2.1 dX12_lawOf_17 rfl (lv_at hl 1 rfl) ?_
    obtain ⟨v4, e3, f⟩ := ob f
    refine o_iald S I e3 dX12_lawOf_18 ?_
    refine lv_icmp_ge (tgt := 39) S.1 S.2.1 dX12_lawOf_19 (by decide) (fun q5 => ?_) (fun q5 => ?_)
    · have f := (if_pos q5).symm.trans f
      refine lv_aload_n S.1 S.2.1 dX12_lawOf_39 rfl (lv_at hl 0 rfl) ?_
      obtain ⟨v6, e7, f⟩ := ob f
      refine o_gI S lf12_lawOf_347 I e7 dX12_lawOf_40 ?_
      refine lv_if_eq (tgt := 50) S.1 S.2.1 dX12_lawOf_43 (by decide) (fun q8 => ?_) (fun q8 => ?_)
      · have f := (if_pos q8).symm.trans f
        refine lv_aload_n S.1 S.2.1 dX12_lawOf_50 rfl (lv_at hl 0 rfl) ?_
        obtain ⟨r9, e10, f⟩ := ob f
        refine o_gR S lf12_lawOf_85 I e10 dX12_lawOf_51 ?_
        refine lv_aload_n S.1 S.2.1 dX12_lawOf_54 rfl (lv_at hl 0 rfl) ?_
        obtain ⟨r11, e12, f⟩ := ob f
        refine o_gR S lf12_lawOf_63 I e12 dX12_lawOf_55 ?_
        refine lv_iload_n S.1 S.2.1 dX12_lawOf_58 rfl (lv_at hl 1 rfl) ?_
        obtain ⟨v14, e13, f⟩ := ob f
        refine o_iald S I e13 dX12_lawOf_59 ?_
        refine lv_iconst (v := 1) S.1 S.2.1 dX12_lawOf_60 (by decide) ?_
        refine lv_isub S.1 S.2.1 dX12_lawOf_61 ?_
        obtain ⟨w16, e15, f⟩ := ob f
        refine o_lald S I e15 dX12_lawOf_62 ?_
        exact o_lret S hr hlo I f dX12_lawOf_63
      · have f := (if_neg q8).symm.trans f
        refine lv_lconst (v := 0) S.1 S.2.1 dX12_lawOf_46 (by decide) ?_
        refine lv_goto (tgt := 63) S.1 S.2.1 dX12_lawOf_47 (by decide) ?_
        exact o_lret S hr hlo I f dX12_lawOf_63
    · have f := (if_neg q5).symm.trans f
      refine lv_aload_n S.1 S.2.1 dX12_lawOf_22 rfl (lv_at hl 0 rfl) ?_
      obtain ⟨r17, e18, f⟩ := ob f
      refine o_gR S lf12_lawOf_85 I e18 dX12_lawOf_23 ?_
      refine lv_iload_n S.1 S.2.1 dX12_lawOf_26 rfl (lv_at hl 2 rfl) ?_
      refine lv_aload_n S.1 S.2.1 dX12_lawOf_27 rfl (lv_at hl 0 rfl) ?_
      refine lv_iload_n S.1 S.2.1 dX12_lawOf_28 rfl (lv_at hl 2 rfl) ?_
      obtain ⟨o19, e20, f⟩ := ob f
      refine o_Vl S (As := [.int x2]) (rest := [.int x2, .ref (b + r17)]) (ci := 12) (M12_valueOf l D cy b A fl e20) gX12_lawOf_X12_valueOf rfl rfl rfl cd12_valueOf ⟨Nat.le_of_ble_eq_true rfl, Nat.le_of_ble_eq_true rfl⟩ I (gd e20).1 clX12 rfl rfl hl.1 rfl (Nat.le_of_ble_eq_true rfl) dX12_lawOf_29 ⟨Nat.le_of_ble_eq_true rfl, Nat.le_of_ble_eq_true rfl⟩ (fun H locs I => ?_)
      obtain ⟨h22, e21, f⟩ := ob f
      refine o_last S I e21 dX12_lawOf_32 (fun H locs I => ?_)
      refine lv_iinc (v := (x2 + 1)) (lv' := [(2, .int (x2 + 1)), (0, .ref (b + a0)), (1, .int x1)]) S.1 S.2.1 dX12_lawOf_33 hl (k := 2) rfl (congrArg (fun z => x2 + z) (by decide)) (by decide) rfl (fun ls hl => ?_)
      refine lv_goto (tgt := 12) S.1 S.2.1 dX12_lawOf_36 (by decide) ?_
      exact ih f I (lv_sub hl [1, 2, 0] rfl)
set_option maxHeartbeats 4000000 in
set_option maxRecDepth 100000 in
theorem T12_lawOf_0 (S : CallFix p m c cX12_lawOf 3 s args vX12_lawOf RX12) (hr : meth.sig.returnType = (some .long)) (hlo : meth.locks = false) {out : Int64 × PH} {h : PH} {a0 : Nat} {x1 : Int32} (f : F12_lawOf_0  h a0 x1 = some out) {H : Heap} {locs : List Loc} (I : ph_I D cy b A fl h s H locs) {ls : Array Slot} (hl : lv_has ls 3 [(0, .ref (b + a0)), (1, .int x1)]) : W p l e ({ frames := 2, cells := 0, slots := 0, locals := 50 } : Room) s m args below meth c H locs 0 0 (MQ below (va_Ql (fun (r : Int64) (u : PH) => (r, u) = out) (ph_B D cy b A fl) A) args s 0 0 A) (F0 m 0 ls []) := by
  unfold F12_lawOf_0 at f
  refine lv_aload_n S.1 S.2.1 dX12_lawOf_0 rfl (lv_at hl 0 rfl) ?_
  refine lv_iconst (v := 0) S.1 S.2.1 dX12_lawOf_1 (by decide) ?_
  obtain ⟨h1, e2, f⟩ := ob f
  refine o_pZ S lp12_lawOf_347 I e2 dX12_lawOf_2 (fun H locs I => ?_)
  refine lv_aload_n S.1 S.2.1 dX12_lawOf_5 rfl (lv_at hl 0 rfl) ?_
  obtain ⟨r3, e4, f⟩ := ob f
  refine o_gR S lf12_lawOf_60 I e4 dX12_lawOf_6 ?_
  refine lv_iload_n S.1 S.2.1 dX12_lawOf_9 rfl (lv_at hl 1 rfl) ?_
  obtain ⟨v6, e5, f⟩ := ob f
  refine o_iald S I e5 dX12_lawOf_10 ?_
  refine lv_istore_n (lv' := [(2, .int v6), (0, .ref (b + a0)), (1, .int x1)]) S.1 S.2.1 dX12_lawOf_11 rfl hl (by decide) rfl (fun ls hl => ?_)
  exact T12_lawOf_12 S hr hlo  1024 f I (lv_sub hl [1, 2, 0] rfl)
theorem M12_lawOf (l : Launch) (D : va_G) (cy : Nat → ClassId) (b : Nat) (A : Nat → Prop) (fl : Bool) {h : PH} {a0 : Nat} {x1 : Int32} {out : Int64 × PH} (f : F12_lawOf h a0 x1 = some out) : Met l yX12_lawOf vX12_lawOf ({ frames := 2, cells := 0, slots := 0, locals := 50 } : Room) (va_Pc [.ref (b + a0), .int x1] (ph_B D cy b A fl h)) (va_Ql (fun (r : Int64) (u : PH) => (r, u) = out) (ph_B D cy b A fl) A) 0 0 A :=
  o_met (by decide) rfl (Nat.le_of_ble_eq_true rfl) rfl (fun p e s m below meth c S hr hlo hnm ls hl I => T12_lawOf_0 S hr hlo ((gd f).2) I (lv_sub hl [0, 1] rfl))
def vX12_boundLaw : List Cond := .code yX12_boundLaw cX12_boundLaw 7 (some .int) :: TB
theorem lf12_boundLaw_57 : Fl vX12_boundLaw RX12 57 12 37 := ⟨RX12, TX12, 87, rfl, by decide, (fun w h9 => List.mem_cons_of_mem _ (wC_wsX120 w h9)), (List.mem_cons_of_mem _ wT_10_12)⟩
theorem gX12_boundLaw_X12_lawOf : GoodIn vX12_boundLaw (wsV RX12 389 RX12 yX12_lawOf vX12_lawOf) := gV_of wT_35_11 wT_35_12 wT_35_13 wT_1_5 wT_35_14
theorem lf12_boundLaw_347 : Fl vX12_boundLaw RX12 347 12 54 := ⟨RX12, TX12, 87, rfl, by decide, (fun w h9 => List.mem_cons_of_mem _ (wC_wsX120 w h9)), (List.mem_cons_of_mem _ wT_35_10)⟩
theorem cd12_boundLaw : Cd yX12_boundLaw 4 := ⟨by decide, by decide, by decide +kernel⟩
set_option maxHeartbeats 4000000 in
set_option maxRecDepth 100000 in
theorem T12_boundLaw_0 (S : CallFix p m c cX12_boundLaw 7 s args vX12_boundLaw RX12) (hr : meth.sig.returnType = (some .int)) (hlo : meth.locks = false) {out : Int32 × PH} {h : PH} {a0 : Nat} {x1 : Int32} {x2 : Int32} {x3 : Int32} {x4 : Int32} (f : F12_boundLaw_0  h a0 x1 x2 x3 x4 = some out) {H : Heap} {locs : List Loc} (I : ph_I D cy b A fl h s H locs) {ls : Array Slot} (hl : lv_has ls 7 [(0, .ref (b + a0)), (1, .int x1), (2, .int x2), (3, .int x3), (4, .int x4)]) : W p l e ({ frames := 3, cells := 0, slots := 0, locals := 72 } : Room) s m args below meth c H locs 0 0 (MQ below (va_Qi (fun (r : Int32) (u : PH) => (r, u) = out) (ph_B D cy b A fl) A) args s 0 0 A) (F0 m 0 ls []) := by
  unfold F12_boundLaw_0 at f
  refine lv_aload_n S.1 S.2.1 dX12_boundLaw_0 rfl (lv_at hl 0 rfl) ?_
  obtain ⟨r1, e2, f⟩ := ob f
  refine o_gR S lf12_boundLaw_57 I e2 dX12_boundLaw_1 ?_
  refine lv_iload_n S.1 S.2.1 dX12_boundLaw_4 rfl (lv_at hl 1 rfl) ?_
  obtain ⟨v4, e3, f⟩ := ob f
  refine o_zald S I e3 dX12_boundLaw_5 ?_
  refine lv_if_ne (tgt := 11) S.1 S.2.1 dX12_boundLaw_6 (by decide) (fun q5 => ?_) (fun q5 => ?_)
  · have f := (if_neg q5).symm.trans f
    refine lv_aload_n S.1 S.2.1 dX12_boundLaw_11 rfl (lv_at hl 0 rfl) ?_
    refine lv_iload_n S.1 S.2.1 dX12_boundLaw_12 rfl (lv_at hl 1 rfl) ?_
    obtain ⟨o6, e7, f⟩ := ob f
    refine o_Vl S (As := [.int x1]) (rest := []) (ci := 12) (M12_lawOf l D cy b A fl e7) gX12_boundLaw_X12_lawOf rfl rfl rfl cd12_lawOf ⟨Nat.le_of_ble_eq_true rfl, Nat.le_of_ble_eq_true rfl⟩ I (gd e7).1 clX12 rfl rfl hl.1 rfl (Nat.le_of_ble_eq_true rfl) dX12_boundLaw_13 ⟨Nat.le_of_ble_eq_true rfl, Nat.le_of_ble_eq_true rfl⟩ (fun H locs I => ?_)
    refine lv_lstore (lv' := [(5, .long o6.1), (0, .ref (b + a0)), (1, .int x1), (2, .int x2), (3, .int x3), (4, .int x4)]) S.1 S.2.1 dX12_boundLaw_16 hl (by decide) rfl (fun ls hl => ?_)
    refine lv_aload_n S.1 S.2.1 dX12_boundLaw_18 rfl (lv_at hl 1 rfl) ?_
    obtain ⟨v8, e9, f⟩ := ob f
    refine o_gI S lf12_boundLaw_347 I e9 dX12_boundLaw_19 ?_
    refine lv_if_eq (tgt := 27) S.1 S.2.1 dX12_boundLaw_22 (by decide) (fun q10 => ?_) (fun q10 => ?_)
    · have f := (if_pos q10).symm.trans f
      refine lv_lload S.1 S.2.1 dX12_boundLaw_27 (lv_at hl 0 rfl) ?_
      refine lv_iload_n S.1 S.2.1 dX12_boundLaw_29 rfl (lv_at hl 4 rfl) ?_
      refine lv_i2l (v := Int32.toInt64 x3) S.1 S.2.1 dX12_boundLaw_30 rfl ?_
      refine W.lcmp S.1 S.2.1 dX12_boundLaw_31 ?_
      refine lv_if_ge (tgt := 37) S.1 S.2.1 dX12_boundLaw_32 (by decide) (fun q11 => ?_) (fun q11 => ?_)
      · have f := (if_pos q11).symm.trans f
        refine lv_lload S.1 S.2.1 dX12_boundLaw_37 (lv_at hl 0 rfl) ?_
        refine lv_iload S.1 S.2.1 dX12_boundLaw_39 (lv_at hl 5 rfl) ?_
        refine lv_i2l (v := Int32.toInt64 x4) S.1 S.2.1 dX12_boundLaw_41 rfl ?_
        refine W.lcmp S.1 S.2.1 dX12_boundLaw_42 ?_
        refine lv_if_le (tgt := 51) S.1 S.2.1 dX12_boundLaw_43 (by decide) (fun q12 => ?_) (fun q12 => ?_)
        · have f := (if_pos q12).symm.trans f
          refine lv_lload S.1 S.2.1 dX12_boundLaw_51 (lv_at hl 0 rfl) ?_
          refine lv_l2i (v := Int64.toInt32 o6.1) S.1 S.2.1 dX12_boundLaw_53 rfl ?_
          exact o_iret S hr hlo I f dX12_boundLaw_54
        · have f := (if_neg q12).symm.trans f
          refine lv_iload S.1 S.2.1 dX12_boundLaw_46 (lv_at hl 5 rfl) ?_
          refine lv_goto (tgt := 54) S.1 S.2.1 dX12_boundLaw_48 (by decide) ?_
          exact o_iret S hr hlo I f dX12_boundLaw_54
      · have f := (if_neg q11).symm.trans f
        refine lv_iload_n S.1 S.2.1 dX12_boundLaw_35 rfl (lv_at hl 4 rfl) ?_
        exact o_iret S hr hlo I f dX12_boundLaw_36
    · have f := (if_neg q10).symm.trans f
      refine lv_iload_n S.1 S.2.1 dX12_boundLaw_25 rfl (lv_at hl 3 rfl) ?_
      exact o_iret S hr hlo I f dX12_boundLaw_26
  · have f := (if_pos q5).symm.trans f
    refine lv_iload_n S.1 S.2.1 dX12_boundLaw_9 rfl (lv_at hl 2 rfl) ?_
    exact o_iret S hr hlo I f dX12_boundLaw_10
theorem M12_boundLaw (l : Launch) (D : va_G) (cy : Nat → ClassId) (b : Nat) (A : Nat → Prop) (fl : Bool) {h : PH} {a0 : Nat} {x1 : Int32} {x2 : Int32} {x3 : Int32} {x4 : Int32} {out : Int32 × PH} (f : F12_boundLaw h a0 x1 x2 x3 x4 = some out) : Met l yX12_boundLaw vX12_boundLaw ({ frames := 3, cells := 0, slots := 0, locals := 72 } : Room) (va_Pc [.ref (b + a0), .int x1, .int x2, .int x3, .int x4] (ph_B D cy b A fl h)) (va_Qi (fun (r : Int32) (u : PH) => (r, u) = out) (ph_B D cy b A fl) A) 0 0 A :=
  o_met (by decide) rfl (Nat.le_of_ble_eq_true rfl) rfl (fun p e s m below meth c S hr hlo hnm ls hl I => T12_boundLaw_0 S hr hlo ((gd f).2) I (lv_sub hl [0, 1, 2, 3, 4] rfl))
def vX12_peakAt : List Cond := .code yX12_peakAt cX12_peakAt 3 (some .int) :: TB
theorem lf12_peakAt_241 : Fl vX12_peakAt RX12 241 12 12 := ⟨RX12, TX12, 87, rfl, by decide, (fun w h9 => List.mem_cons_of_mem _ (wC_wsX120 w h9)), (List.mem_cons_of_mem _ wT_12_10)⟩
theorem lf12_peakAt_24 : Fl vX12_peakAt RX12 24 12 26 := ⟨RX12, TX12, 87, rfl, by decide, (fun w h9 => List.mem_cons_of_mem _ (wC_wsX120 w h9)), (List.mem_cons_of_mem _ wT_10_1)⟩
theorem gX12_peakAt_X12_layNames : GoodIn vX12_peakAt (wsV RX12 392 RX12 yX12_layNames vX12_layNames) := gV_of wT_35_2 wT_35_3 wT_35_4 wT_1_5 wT_35_5
theorem lf12_peakAt_115 : Fl vX12_peakAt RX12 115 12 66 := ⟨RX12, TX12, 87, rfl, by decide, (fun w h9 => List.mem_cons_of_mem _ (wC_wsX120 w h9)), (List.mem_cons_of_mem _ wT_11_7)⟩
theorem gX12_peakAt_X12_boundLaw : GoodIn vX12_peakAt (wsV RX12 396 RX12 yX12_boundLaw vX12_boundLaw) := gV_of wT_35_6 wT_35_7 wT_35_8 wT_1_5 wT_35_9
theorem cd12_peakAt : Cd yX12_peakAt 1 := ⟨by decide, by decide, by decide +kernel⟩
set_option maxHeartbeats 4000000 in
set_option maxRecDepth 100000 in
theorem T12_peakAt_37 (S : CallFix p m c cX12_peakAt 3 s args vX12_peakAt RX12) (hr : meth.sig.returnType = (some .int)) (hlo : meth.locks = false) {out : Int32 × PH} {h : PH} {a0 : Nat} {s0 : Int32} {s1 : Int32} (f : F12_peakAt_37  h a0 s0 s1 = some out) {H : Heap} {locs : List Loc} (I : ph_I D cy b A fl h s H locs) {ls : Array Slot} (hl : lv_has ls 3 [(0, .ref (b + a0))]) : W p l e ({ frames := 4, cells := 0, slots := 0, locals := 98 } : Room) s m args below meth c H locs 0 0 (MQ below (va_Qi (fun (r : Int32) (u : PH) => (r, u) = out) (ph_B D cy b A fl) A) args s 0 0 A) (F0 m 37 ls [.int s0, .int s1]) := by
  unfold F12_peakAt_37 at f
  refine lv_iadd S.1 S.2.1 dX12_peakAt_37 ?_
  refine lv_istore_n (lv' := [(2, .int (s1 + s0)), (0, .ref (b + a0))]) S.1 S.2.1 dX12_peakAt_38 rfl hl (by decide) rfl (fun ls hl => ?_)
  refine lv_aload_n S.1 S.2.1 dX12_peakAt_39 rfl (lv_at hl 1 rfl) ?_
  obtain ⟨v1, e2, f⟩ := ob f
  refine o_gI S lf12_peakAt_241 I e2 dX12_peakAt_40 ?_
  refine lv_aload_n S.1 S.2.1 dX12_peakAt_43 rfl (lv_at hl 1 rfl) ?_
  obtain ⟨r3, e4, f⟩ := ob f
  refine o_gR S lf12_peakAt_24 I e4 dX12_peakAt_44 ?_
  refine lv_iconst (v := 1) S.1 S.2.1 dX12_peakAt_47 (by decide) ?_
  obtain ⟨v6, e5, f⟩ := ob f
  refine o_iald S I e5 dX12_peakAt_48 ?_
  refine lv_imul S.1 S.2.1 dX12_peakAt_49 ?_
  refine lv_iload_n S.1 S.2.1 dX12_peakAt_50 rfl (lv_at hl 0 rfl) ?_
  refine lv_if_ge (tgt := 58) S.1 S.2.1 dX12_peakAt_51 (by decide) (fun q7 => ?_) (fun q7 => ?_)
  · have f := (if_pos q7).symm.trans f
    refine lv_iload_n S.1 S.2.1 dX12_peakAt_58 rfl (lv_at hl 0 rfl) ?_
    refine lv_aload_n S.1 S.2.1 dX12_peakAt_59 rfl (lv_at hl 1 rfl) ?_
    obtain ⟨v8, e9, f⟩ := ob f
    refine o_gI S lf12_peakAt_241 I e9 dX12_peakAt_60 ?_
    refine lv_icmp_lt (tgt := 75) S.1 S.2.1 dX12_peakAt_63 (by decide) (fun q10 => ?_) (fun q10 => ?_)
    · have f := (if_pos q10).symm.trans f
      refine lv_iload_n S.1 S.2.1 dX12_peakAt_75 rfl (lv_at hl 0 rfl) ?_
      refine lv_iadd S.1 S.2.1 dX12_peakAt_76 ?_
      exact o_iret S hr hlo I f dX12_peakAt_77
    · have f := (if_neg q10).symm.trans f
      refine lv_aload_n S.1 S.2.1 dX12_peakAt_66 rfl (lv_at hl 1 rfl) ?_
      obtain ⟨v11, e12, f⟩ := ob f
      refine o_gI S lf12_peakAt_241 I e12 dX12_peakAt_67 ?_
      refine lv_iconst (v := 1) S.1 S.2.1 dX12_peakAt_70 (by decide) ?_
      refine lv_isub S.1 S.2.1 dX12_peakAt_71 ?_
      refine lv_goto (tgt := 76) S.1 S.2.1 dX12_peakAt_72 (by decide) ?_
      refine lv_iadd S.1 S.2.1 dX12_peakAt_76 ?_
      exact o_iret S hr hlo I f dX12_peakAt_77
  · have f := (if_neg q7).symm.trans f
    refine lv_iconst (v := 0) S.1 S.2.1 dX12_peakAt_54 (by decide) ?_
    refine lv_goto (tgt := 76) S.1 S.2.1 dX12_peakAt_55 (by decide) ?_
    refine lv_iadd S.1 S.2.1 dX12_peakAt_76 ?_
    exact o_iret S hr hlo I f dX12_peakAt_77
set_option maxHeartbeats 4000000 in
set_option maxRecDepth 100000 in
theorem T12_peakAt_0 (S : CallFix p m c cX12_peakAt 3 s args vX12_peakAt RX12) (hr : meth.sig.returnType = (some .int)) (hlo : meth.locks = false) {out : Int32 × PH} {h : PH} {a0 : Nat} {x1 : Int32} (f : F12_peakAt_0  h a0 x1 = some out) {H : Heap} {locs : List Loc} (I : ph_I D cy b A fl h s H locs) {ls : Array Slot} (hl : lv_has ls 3 [(0, .ref (b + a0)), (1, .int x1)]) : W p l e ({ frames := 4, cells := 0, slots := 0, locals := 98 } : Room) s m args below meth c H locs 0 0 (MQ below (va_Qi (fun (r : Int32) (u : PH) => (r, u) = out) (ph_B D cy b A fl) A) args s 0 0 A) (F0 m 0 ls []) := by
  unfold F12_peakAt_0 at f
  refine lv_aload_n S.1 S.2.1 dX12_peakAt_0 rfl (lv_at hl 0 rfl) ?_
  refine lv_iconst (v := 0) S.1 S.2.1 dX12_peakAt_1 (by decide) ?_
  refine lv_iconst (v := 0) S.1 S.2.1 dX12_peakAt_2 (by decide) ?_
  refine lv_iconst (v := 0) S.1 S.2.1 dX12_peakAt_3 (by decide) ?_
  refine lv_iconst (v := (-1)) S.1 S.2.1 dX12_peakAt_4 (by decide) ?_
  refine lv_iload_n S.1 S.2.1 dX12_peakAt_5 rfl (lv_at hl 1 rfl) ?_
  obtain ⟨o1, e2, f⟩ := ob f
  refine o_Vv S (As := [.int 0, .int 0, .int 0, .int (-1), .int x1]) (rest := []) (ci := 12) (M12_layNames l D cy b A fl e2) gX12_peakAt_X12_layNames rfl rfl rfl cd12_layNames ⟨Nat.le_of_ble_eq_true rfl, Nat.le_of_ble_eq_true rfl⟩ I (gd e2).1 clX12 rfl rfl hl.1 rfl (Nat.le_of_ble_eq_true rfl) dX12_peakAt_6 ⟨Nat.le_of_ble_eq_true rfl, Nat.le_of_ble_eq_true rfl⟩ (fun H locs I => ?_)
  refine lv_aload_n S.1 S.2.1 dX12_peakAt_9 rfl (lv_at hl 0 rfl) ?_
  obtain ⟨r3, e4, f⟩ := ob f
  refine o_gR S lf12_peakAt_24 I e4 dX12_peakAt_10 ?_
  refine lv_iconst (v := 0) S.1 S.2.1 dX12_peakAt_13 (by decide) ?_
  obtain ⟨v6, e5, f⟩ := ob f
  refine o_iald S I e5 dX12_peakAt_14 ?_
  refine lv_aload_n S.1 S.2.1 dX12_peakAt_15 rfl (lv_at hl 0 rfl) ?_
  obtain ⟨v7, e8, f⟩ := ob f
  refine o_gI S lf12_peakAt_115 I e8 dX12_peakAt_16 ?_
  refine lv_iconst (v := 2) S.1 S.2.1 dX12_peakAt_19 (by decide) ?_
  refine lv_icmp_ne (tgt := 27) S.1 S.2.1 dX12_peakAt_20 (by decide) (fun q9 => ?_) (fun q9 => ?_)
  · have f := (if_neg q9).symm.trans f
    refine lv_aload_n S.1 S.2.1 dX12_peakAt_27 rfl (lv_at hl 0 rfl) ?_
    refine lv_iconst (v := 1) S.1 S.2.1 dX12_peakAt_28 (by decide) ?_
    refine lv_iconst (v := 0) S.1 S.2.1 dX12_peakAt_29 (by decide) ?_
    refine lv_bipush (v := (-8)) S.1 S.2.1 dX12_peakAt_30 (by decide) ?_
    refine lv_bipush (v := 8) S.1 S.2.1 dX12_peakAt_32 (by decide) ?_
    obtain ⟨o10, e11, f⟩ := ob f
    refine o_Vi S (As := [.int 1, .int 0, .int (-8), .int 8]) (rest := [.int v6]) (ci := 12) (M12_boundLaw l D cy b A fl e11) gX12_peakAt_X12_boundLaw rfl rfl rfl cd12_boundLaw ⟨Nat.le_of_ble_eq_true rfl, Nat.le_of_ble_eq_true rfl⟩ I (gd e11).1 clX12 rfl rfl hl.1 rfl (Nat.le_of_ble_eq_true rfl) dX12_peakAt_34 ⟨Nat.le_of_ble_eq_true rfl, Nat.le_of_ble_eq_true rfl⟩ (fun H locs I => ?_)
    exact T12_peakAt_37 S hr hlo  f I (lv_sub hl [0] rfl)
  · have f := (if_pos q9).symm.trans f
    refine lv_iconst (v := 0) S.1 S.2.1 dX12_peakAt_23 (by decide) ?_
    refine lv_goto (tgt := 37) S.1 S.2.1 dX12_peakAt_24 (by decide) ?_
    exact T12_peakAt_37 S hr hlo  f I (lv_sub hl [0] rfl)
theorem M12_peakAt (l : Launch) (D : va_G) (cy : Nat → ClassId) (b : Nat) (A : Nat → Prop) (fl : Bool) {h : PH} {a0 : Nat} {x1 : Int32} {out : Int32 × PH} (f : F12_peakAt h a0 x1 = some out) : Met l yX12_peakAt vX12_peakAt ({ frames := 4, cells := 0, slots := 0, locals := 98 } : Room) (va_Pc [.ref (b + a0), .int x1] (ph_B D cy b A fl h)) (va_Qi (fun (r : Int32) (u : PH) => (r, u) = out) (ph_B D cy b A fl) A) 0 0 A :=
  o_met (by decide) rfl (Nat.le_of_ble_eq_true rfl) rfl (fun p e s m below meth c S hr hlo hnm ls hl I => T12_peakAt_0 S hr hlo ((gd f).2) I (lv_sub hl [0, 1] rfl))
def vX12_far : List Cond := .code yX12_far cX12_far 5 (some .int) :: TB
theorem lf12_far_241 : Fl vX12_far RX12 241 12 12 := ⟨RX12, TX12, 87, rfl, by decide, (fun w h9 => List.mem_cons_of_mem _ (wC_wsX120 w h9)), (List.mem_cons_of_mem _ wT_12_10)⟩
theorem cd12_far : Cd yX12_far 2 := ⟨by decide, by decide, by decide +kernel⟩
set_option maxHeartbeats 4000000 in
set_option maxRecDepth 100000 in
theorem T12_far_39 (S : CallFix p m c cX12_far 5 s args vX12_far RX12) (hr : meth.sig.returnType = (some .int)) (hlo : meth.locks = false) {out : Int32 × PH} {h : PH} {x4 : Int32} {s0 : Int32} (f : F12_far_39  h x4 s0 = some out) {H : Heap} {locs : List Loc} (I : ph_I D cy b A fl h s H locs) {ls : Array Slot} (hl : lv_has ls 5 [(4, .int x4)]) : W p l e ({ frames := 0, cells := 0, slots := 0, locals := 0 } : Room) s m args below meth c H locs 0 0 (MQ below (va_Qi (fun (r : Int32) (u : PH) => (r, u) = out) (ph_B D cy b A fl) A) args s 0 0 A) (F0 m 39 ls [.int s0]) := by
  unfold F12_far_39 at f
  refine lv_iload S.1 S.2.1 dX12_far_39 (lv_at hl 0 rfl) ?_
  refine lv_if_ge (tgt := 50) S.1 S.2.1 dX12_far_41 (by decide) (fun q1 => ?_) (fun q1 => ?_)
  · have f := (if_pos q1).symm.trans f
    refine lv_iload S.1 S.2.1 dX12_far_50 (lv_at hl 0 rfl) ?_
    refine lv_iadd S.1 S.2.1 dX12_far_52 ?_
    exact o_iret S hr hlo I f dX12_far_53
  · have f := (if_neg q1).symm.trans f
    refine lv_iload S.1 S.2.1 dX12_far_44 (lv_at hl 0 rfl) ?_
    refine lv_ineg S.1 S.2.1 dX12_far_46 ?_
    refine lv_goto (tgt := 52) S.1 S.2.1 dX12_far_47 (by decide) ?_
    refine lv_iadd S.1 S.2.1 dX12_far_52 ?_
    exact o_iret S hr hlo I f dX12_far_53
set_option maxHeartbeats 4000000 in
set_option maxRecDepth 100000 in
theorem T12_far_0 (S : CallFix p m c cX12_far 5 s args vX12_far RX12) (hr : meth.sig.returnType = (some .int)) (hlo : meth.locks = false) {out : Int32 × PH} {h : PH} {a0 : Nat} {x1 : Int32} {x2 : Int32} (f : F12_far_0  h a0 x1 x2 = some out) {H : Heap} {locs : List Loc} (I : ph_I D cy b A fl h s H locs) {ls : Array Slot} (hl : lv_has ls 5 [(0, .ref (b + a0)), (1, .int x1), (2, .int x2)]) : W p l e ({ frames := 0, cells := 0, slots := 0, locals := 0 } : Room) s m args below meth c H locs 0 0 (MQ below (va_Qi (fun (r : Int32) (u : PH) => (r, u) = out) (ph_B D cy b A fl) A) args s 0 0 A) (F0 m 0 ls []) := by
  unfold F12_far_0 at f
  refine lv_iload_n S.1 S.2.1 dX12_far_0 rfl (lv_at hl 1 rfl) ?_
  refine lv_aload_n S.1 S.2.1 dX12_far_1 rfl (lv_at hl 0 rfl) ?_
  obtain ⟨v1, e2, f⟩ := ob f
  refine o_gI S lf12_far_241 I e2 dX12_far_2 ?_
  have q3 : ¬ v1 = 0 := fun q => by rw [if_pos q] at f; cases f
  have f := (if_neg q3).symm.trans f
  refine lv_irem S.1 S.2.1 dX12_far_5 q3 ?_
  refine lv_iload_n S.1 S.2.1 dX12_far_6 rfl (lv_at hl 2 rfl) ?_
  refine lv_aload_n S.1 S.2.1 dX12_far_7 rfl (lv_at hl 0 rfl) ?_
  obtain ⟨v4, e5, f⟩ := ob f
  refine o_gI S lf12_far_241 I e5 dX12_far_8 ?_
  have q6 : ¬ v4 = 0 := fun q => by rw [if_pos q] at f; cases f
  have f := (if_neg q6).symm.trans f
  refine lv_irem S.1 S.2.1 dX12_far_11 q6 ?_
  refine lv_isub S.1 S.2.1 dX12_far_12 ?_
  refine lv_istore_n (lv' := [(3, .int ((x1 - x1 / v1 * v1) - (x2 - x2 / v4 * v4))), (0, .ref (b + a0)), (1, .int x1), (2, .int x2)]) S.1 S.2.1 dX12_far_13 rfl hl (by decide) rfl (fun ls hl => ?_)
  refine lv_iload_n S.1 S.2.1 dX12_far_14 rfl (lv_at hl 2 rfl) ?_
  refine lv_aload_n S.1 S.2.1 dX12_far_15 rfl (lv_at hl 1 rfl) ?_
  obtain ⟨v7, e8, f⟩ := ob f
  refine o_gI S lf12_far_241 I e8 dX12_far_16 ?_
  have q9 : ¬ v7 = 0 := fun q => by rw [if_pos q] at f; cases f
  have f := (if_neg q9).symm.trans f
  refine lv_idiv S.1 S.2.1 dX12_far_19 q9 ?_
  refine lv_iload_n S.1 S.2.1 dX12_far_20 rfl (lv_at hl 3 rfl) ?_
  refine lv_aload_n S.1 S.2.1 dX12_far_21 rfl (lv_at hl 1 rfl) ?_
  obtain ⟨v10, e11, f⟩ := ob f
  refine o_gI S lf12_far_241 I e11 dX12_far_22 ?_
  have q12 : ¬ v10 = 0 := fun q => by rw [if_pos q] at f; cases f
  have f := (if_neg q12).symm.trans f
  refine lv_idiv S.1 S.2.1 dX12_far_25 q12 ?_
  refine lv_isub S.1 S.2.1 dX12_far_26 ?_
  refine lv_istore (lv' := [(4, .int ((x1 / v7) - (x2 / v10))), (3, .int ((x1 - x1 / v1 * v1) - (x2 - x2 / v4 * v4))), (0, .ref (b + a0)), (1, .int x1), (2, .int x2)]) S.1 S.2.1 dX12_far_27 hl (by decide) rfl (fun ls hl => ?_)
  refine lv_iload_n S.1 S.2.1 dX12_far_29 rfl (lv_at hl 1 rfl) ?_
  refine lv_if_ge (tgt := 38) S.1 S.2.1 dX12_far_30 (by decide) (fun q13 => ?_) (fun q13 => ?_)
  · have f := (if_pos q13).symm.trans f
    refine lv_iload_n S.1 S.2.1 dX12_far_38 rfl (lv_at hl 1 rfl) ?_
    exact T12_far_39 S hr hlo  f I (lv_sub hl [0] rfl)
  · have f := (if_neg q13).symm.trans f
    refine lv_iload_n S.1 S.2.1 dX12_far_33 rfl (lv_at hl 1 rfl) ?_
    refine lv_ineg S.1 S.2.1 dX12_far_34 ?_
    refine lv_goto (tgt := 39) S.1 S.2.1 dX12_far_35 (by decide) ?_
    exact T12_far_39 S hr hlo  f I (lv_sub hl [0] rfl)
theorem M12_far (l : Launch) (D : va_G) (cy : Nat → ClassId) (b : Nat) (A : Nat → Prop) (fl : Bool) {h : PH} {a0 : Nat} {x1 : Int32} {x2 : Int32} {out : Int32 × PH} (f : F12_far h a0 x1 x2 = some out) : Met l yX12_far vX12_far ({ frames := 0, cells := 0, slots := 0, locals := 0 } : Room) (va_Pc [.ref (b + a0), .int x1, .int x2] (ph_B D cy b A fl h)) (va_Qi (fun (r : Int32) (u : PH) => (r, u) = out) (ph_B D cy b A fl) A) 0 0 A :=
  o_met (by decide) rfl (Nat.le_of_ble_eq_true rfl) rfl (fun p e s m below meth c S hr hlo hnm ls hl I => T12_far_0 S hr hlo ((gd f).2) I (lv_sub hl [0, 1, 2] rfl))
end
