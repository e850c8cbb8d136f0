section
variable {p : Program} {l : Launch} {e : Env} {s : State} {m : MethodId} {args : Array Value} {below : List Frame} {meth : Method} {c : Code} {D : va_G} {cy : Nat → ClassId} {b : Nat} {A : Nat → Prop} {fl : Bool}
def vX12_restAt : List Cond := .code yX12_restAt cX12_restAt 6 (some .int) :: TB
theorem gX12_restAt_X12_isRest : GoodIn vX12_restAt (wsV RX12 494 RX12 yX12_isRest vX12_isRest) := gV_of wT_52_23 wT_53_0 wT_53_1 wT_1_5 wT_53_2
theorem gX12_restAt_X12_wayAt : GoodIn vX12_restAt (va_wsS RX12 485 yX12_wayAt vX12_wayAt) := gS_of wT_52_16 wT_52_17 wT_1_5 wT_52_18
theorem gX12_restAt_X12_layGame : GoodIn vX12_restAt (wsV RX12 491 RX12 yX12_layGame vX12_layGame) := gV_of wT_52_12 wT_52_13 wT_52_14 wT_1_5 wT_52_15
theorem cd12_restAt : Cd yX12_restAt 3 := ⟨by decide, by decide, by decide +kernel⟩
set_option maxHeartbeats 4000000 in
set_option maxRecDepth 100000 in
theorem T12_restAt_12 (S : CallFix p m c cX12_restAt 6 s args vX12_restAt RX12) (hr : meth.sig.returnType = (some .int)) (hlo : meth.locks = false) {out : Int32 × PH} : ∀ (n : Nat) {h : PH} {a0 : Nat} {x3 : Int32} {x4 : Int32} {x5 : Int32} (f : F12_restAt_12  n h a0 x3 x4 x5 = some out) {H : Heap} {locs : List Loc} (I : ph_I D cy b A fl h s H locs) {ls : Array Slot} (hl : lv_has ls 6 [(0, .ref (b + a0)), (3, .int x3), (4, .int x4), (5, .int x5)]), W p l e ({ frames := 9, cells := 0, slots := 0, locals := 221 } : Room) s m args below meth c H locs 0 0 (MQ below (va_Qi (fun (r : Int32) (u : PH) => (r, u) = out) (ph_B D cy b A fl) A) args s 0 0 A) (F0 m 12 ls []) := by
  intro n
  induction n with
  | zero => intro h a0 x3 x4 x5 f; rw [F12_restAt_12] at f; cases f
  | succ n ih =>
    intro h a0 x3 x4 x5 f H locs I ls hl
    rw [F12_restAt_12] at f
    refine lv_iload S.1 S.2.1 dX12_restAt_12 (lv_at hl 3 rfl) ?_
    refine lv_bipush (v := 25) S.1 S.2.1 dX12_restAt_14 (by decide) ?_
    refine lv_icmp_ge (tgt := 65) S.1 S.2.1 dX12_restAt_16 (by decide) (fun q1 => ?_) (fun q1 => ?_)
    · have f := (if_pos q1).symm.trans f
      refine lv_iload_n S.1 S.2.1 dX12_restAt_65 rfl (lv_at hl 1 rfl) ?_
      refine lv_if_ge (tgt := 74) S.1 S.2.1 dX12_restAt_66 (by decide) (fun q2 => ?_) (fun q2 => ?_)
      · have f := (if_pos q2).symm.trans f
        refine lv_bipush (v := (-2)) S.1 S.2.1 dX12_restAt_74 (by decide) ?_
        exact o_iret S hr hlo I f dX12_restAt_76
      · have f := (if_neg q2).symm.trans f
        refine lv_iload S.1 S.2.1 dX12_restAt_69 (lv_at hl 2 rfl) ?_
        refine lv_goto (tgt := 76) S.1 S.2.1 dX12_restAt_71 (by decide) ?_
        exact o_iret S hr hlo I f dX12_restAt_76
    · have f := (if_neg q1).symm.trans f
      refine lv_aload_n S.1 S.2.1 dX12_restAt_19 rfl (lv_at hl 0 rfl) ?_
      refine lv_iload S.1 S.2.1 dX12_restAt_20 (lv_at hl 3 rfl) ?_
      obtain ⟨o3, e4, f⟩ := ob f
      refine o_Vi S (As := [.int x5]) (rest := []) (ci := 12) (M12_isRest l D cy b A fl e4) gX12_restAt_X12_isRest rfl rfl rfl cd12_isRest ⟨Nat.le_of_ble_eq_true rfl, Nat.le_of_ble_eq_true rfl⟩ I (gd e4).1 clX12 rfl rfl hl.1 rfl (Nat.le_of_ble_eq_true rfl) dX12_restAt_22 ⟨Nat.le_of_ble_eq_true rfl, Nat.le_of_ble_eq_true rfl⟩ (fun H locs I => ?_)
      refine lv_if_ne (tgt := 31) S.1 S.2.1 dX12_restAt_25 (by decide) (fun q5 => ?_) (fun q5 => ?_)
      · have f := (if_neg q5).symm.trans f
        refine lv_iload S.1 S.2.1 dX12_restAt_31 (lv_at hl 2 rfl) ?_
        refine lv_iload_n S.1 S.2.1 dX12_restAt_33 rfl (lv_at hl 1 rfl) ?_
        refine lv_icmp_ne (tgt := 56) S.1 S.2.1 dX12_restAt_34 (by decide) (fun q6 => ?_) (fun q6 => ?_)
        · have f := (if_neg q6).symm.trans f
          refine lv_iinc (v := (x4 + 1)) (lv' := [(4, .int (x4 + 1)), (0, .ref (b + a0)), (3, .int x3), (5, .int x5)]) S.1 S.2.1 dX12_restAt_56 hl (k := 2) rfl (congrArg (fun z => x4 + z) (by decide)) (by decide) rfl (fun ls hl => ?_)
          refine lv_iinc (v := (x5 + 1)) (lv' := [(5, .int (x5 + 1)), (4, .int (x4 + 1)), (0, .ref (b + a0)), (3, .int x3)]) S.1 S.2.1 dX12_restAt_59 hl (k := 3) rfl (congrArg (fun z => x5 + z) (by decide)) (by decide) rfl (fun ls hl => ?_)
          refine lv_goto (tgt := 12) S.1 S.2.1 dX12_restAt_62 (by decide) ?_
          exact ih f I (lv_sub hl [2, 3, 1, 0] rfl)
        · have f := (if_pos q6).symm.trans f
          refine lv_bipush (v := 10) S.1 S.2.1 dX12_restAt_37 (by decide) ?_
          refine lv_iload S.1 S.2.1 dX12_restAt_39 (lv_at hl 3 rfl) ?_
          refine lv_iconst (v := 5) S.1 S.2.1 dX12_restAt_41 (by decide) ?_
          refine lv_idiv S.1 S.2.1 dX12_restAt_42 (by decide) ?_
          obtain ⟨o7, e8, f⟩ := ob f
          refine o_Si S (As := [.int (x5 / 5)]) (rest := [.int 10]) (M12_wayAt l D cy b A fl e8) gX12_restAt_X12_wayAt rfl rfl rfl cd12_wayAt ⟨Nat.le_of_ble_eq_true rfl, Nat.le_of_ble_eq_true rfl⟩ I rfl hl.1 rfl (Nat.le_of_ble_eq_true rfl) dX12_restAt_43 ⟨Nat.le_of_ble_eq_true rfl, Nat.le_of_ble_eq_true rfl⟩ (fun H locs I => ?_)
          refine lv_imul S.1 S.2.1 dX12_restAt_46 ?_
          refine lv_iload S.1 S.2.1 dX12_restAt_47 (lv_at hl 3 rfl) ?_
          refine lv_iconst (v := 5) S.1 S.2.1 dX12_restAt_49 (by decide) ?_
          refine lv_irem S.1 S.2.1 dX12_restAt_50 (by decide) ?_
          obtain ⟨o9, e10, f⟩ := ob f
          refine o_Si S (As := [.int (x5 - x5 / 5 * 5)]) (rest := [.int (10 * o7.1)]) (M12_wayAt l D cy b A fl e10) gX12_restAt_X12_wayAt rfl rfl rfl cd12_wayAt ⟨Nat.le_of_ble_eq_true rfl, Nat.le_of_ble_eq_true rfl⟩ I rfl hl.1 rfl (Nat.le_of_ble_eq_true rfl) dX12_restAt_51 ⟨Nat.le_of_ble_eq_true rfl, Nat.le_of_ble_eq_true rfl⟩ (fun H locs I => ?_)
          refine lv_iadd S.1 S.2.1 dX12_restAt_54 ?_
          exact o_iret S hr hlo I f dX12_restAt_55
      · have f := (if_pos q5).symm.trans f
        refine lv_goto (tgt := 59) S.1 S.2.1 dX12_restAt_28 (by decide) ?_
        refine lv_iinc (v := (x5 + 1)) (lv' := [(5, .int (x5 + 1)), (0, .ref (b + a0)), (3, .int x3), (4, .int x4)]) S.1 S.2.1 dX12_restAt_59 hl (k := 3) rfl (congrArg (fun z => x5 + z) (by decide)) (by decide) rfl (fun ls hl => ?_)
        refine lv_goto (tgt := 12) S.1 S.2.1 dX12_restAt_62 (by decide) ?_
        exact ih f I (lv_sub hl [1, 2, 3, 0] rfl)
set_option maxHeartbeats 4000000 in
set_option maxRecDepth 100000 in
theorem T12_restAt_0 (S : CallFix p m c cX12_restAt 6 s args vX12_restAt RX12) (hr : meth.sig.returnType = (some .int)) (hlo : meth.locks = false) {out : Int32 × PH} {h : PH} {a0 : Nat} {x1 : Int32} {x2 : Int32} {x3 : Int32} (f : F12_restAt_0  h a0 x1 x2 x3 = some out) {H : Heap} {locs : List Loc} (I : ph_I D cy b A fl h s H locs) {ls : Array Slot} (hl : lv_has ls 6 [(0, .ref (b + a0)), (1, .int x1), (2, .int x2), (3, .int x3)]) : W p l e ({ frames := 9, cells := 0, slots := 0, locals := 221 } : Room) s m args below meth c H locs 0 0 (MQ below (va_Qi (fun (r : Int32) (u : PH) => (r, u) = out) (ph_B D cy b A fl) A) args s 0 0 A) (F0 m 0 ls []) := by
  unfold F12_restAt_0 at f
  refine lv_aload_n S.1 S.2.1 dX12_restAt_0 rfl (lv_at hl 0 rfl) ?_
  refine lv_iload_n S.1 S.2.1 dX12_restAt_1 rfl (lv_at hl 1 rfl) ?_
  refine lv_iload_n S.1 S.2.1 dX12_restAt_2 rfl (lv_at hl 2 rfl) ?_
  obtain ⟨o1, e2, f⟩ := ob f
  refine o_Vv S (As := [.int x1, .int x2]) (rest := []) (ci := 12) (M12_layGame l D cy b A fl e2) gX12_restAt_X12_layGame rfl rfl rfl cd12_layGame ⟨Nat.le_of_ble_eq_true rfl, Nat.le_of_ble_eq_true rfl⟩ I (gd e2).1 clX12 rfl rfl hl.1 rfl (Nat.le_of_ble_eq_true rfl) dX12_restAt_3 ⟨Nat.le_of_ble_eq_true rfl, Nat.le_of_ble_eq_true rfl⟩ (fun H locs I => ?_)
  refine lv_iconst (v := 0) S.1 S.2.1 dX12_restAt_6 (by decide) ?_
  refine lv_istore (lv' := [(4, .int 0), (0, .ref (b + a0)), (1, .int x1), (2, .int x2), (3, .int x3)]) S.1 S.2.1 dX12_restAt_7 hl (by decide) rfl (fun ls hl => ?_)
  refine lv_iconst (v := 0) S.1 S.2.1 dX12_restAt_9 (by decide) ?_
  refine lv_istore (lv' := [(5, .int 0), (4, .int 0), (0, .ref (b + a0)), (1, .int x1), (2, .int x2), (3, .int x3)]) S.1 S.2.1 dX12_restAt_10 hl (by decide) rfl (fun ls hl => ?_)
  exact T12_restAt_12 S hr hlo  1024 f I (lv_sub hl [2, 5, 1, 0] rfl)
theorem M12_restAt (l : Launch) (D : va_G) (cy : Nat → ClassId) (b : Nat) (A : Nat → Prop) (fl : Bool) {h : PH} {a0 : Nat} {x1 : Int32} {x2 : Int32} {x3 : Int32} {out : Int32 × PH} (f : F12_restAt h a0 x1 x2 x3 = some out) : Met l yX12_restAt vX12_restAt ({ frames := 9, cells := 0, slots := 0, locals := 221 } : Room) (va_Pc [.ref (b + a0), .int x1, .int x2, .int x3] (ph_B D cy b A fl h)) (va_Qi (fun (r : Int32) (u : PH) => (r, u) = out) (ph_B D cy b A fl) A) 0 0 A :=
  o_met (by decide) rfl (Nat.le_of_ble_eq_true rfl) rfl (fun p e s m below meth c S hr hlo hnm ls hl I => T12_restAt_0 S hr hlo ((gd f).2) I (lv_sub hl [0, 1, 2, 3] rfl))
def vX12_rest : List Cond := .code yX12_rest cX12_rest 4 (some .int) :: TB
theorem lp12_rest_154 : Pl vX12_rest RX12 154 12 2 .int := ⟨RX12, TX12, 87, tyX12, rfl, by decide, (fun w h9 => List.mem_cons_of_mem _ (wC_wsX120 w h9)), (List.mem_cons_of_mem _ wT_13_17), tyX12_ok, nmX12, rfl, rfl⟩
theorem gX12_rest_X12_isSurfer : GoodIn vX12_rest (wsV RX12 413 RX12 yX12_isSurfer vX12_isSurfer) := gV_of wT_34_14 wT_34_15 wT_34_16 wT_1_5 wT_34_17
theorem gX12_rest_X12_restAt : GoodIn vX12_rest (wsV RX12 497 RX12 yX12_restAt vX12_restAt) := gV_of wT_52_8 wT_52_9 wT_52_10 wT_1_5 wT_52_11
theorem cd12_rest : Cd yX12_rest 3 := ⟨by decide, by decide, by decide +kernel⟩
set_option maxHeartbeats 4000000 in
set_option maxRecDepth 100000 in
theorem T12_rest_0 (S : CallFix p m c cX12_rest 4 s args vX12_rest RX12) (hr : meth.sig.returnType = (some .int)) (hlo : meth.locks = false) {out : Int32 × PH} {h : PH} {a0 : Nat} {x1 : Int32} {x2 : Int32} {x3 : Int32} (f : F12_rest_0  h a0 x1 x2 x3 = some out) {H : Heap} {locs : List Loc} (I : ph_I D cy b A fl h s H locs) {ls : Array Slot} (hl : lv_has ls 4 [(0, .ref (b + a0)), (1, .int x1), (2, .int x2), (3, .int x3)]) : W p l e ({ frames := 10, cells := 0, slots := 0, locals := 246 } : Room) s m args below meth c H locs 0 0 (MQ below (va_Qi (fun (r : Int32) (u : PH) => (r, u) = out) (ph_B D cy b A fl) A) args s 0 0 A) (F0 m 0 ls []) := by
  unfold F12_rest_0 at f
  refine lv_aload_n S.1 S.2.1 dX12_rest_0 rfl (lv_at hl 0 rfl) ?_
  refine lv_iconst (v := 0) S.1 S.2.1 dX12_rest_1 (by decide) ?_
  obtain ⟨h1, e2, f⟩ := ob f
  refine o_pI S lp12_rest_154 I e2 dX12_rest_2 (fun H locs I => ?_)
  refine lv_aload_n S.1 S.2.1 dX12_rest_5 rfl (lv_at hl 0 rfl) ?_
  refine lv_iload_n S.1 S.2.1 dX12_rest_6 rfl (lv_at hl 1 rfl) ?_
  obtain ⟨o3, e4, f⟩ := ob f
  refine o_Vi S (As := [.int x1]) (rest := []) (ci := 12) (M12_isSurfer l D cy b A fl e4) gX12_rest_X12_isSurfer rfl rfl rfl cd12_isSurfer ⟨Nat.le_of_ble_eq_true rfl, Nat.le_of_ble_eq_true rfl⟩ I (gd e4).1 clX12 rfl rfl hl.1 rfl (Nat.le_of_ble_eq_true rfl) dX12_rest_7 ⟨Nat.le_of_ble_eq_true rfl, Nat.le_of_ble_eq_true rfl⟩ (fun H locs I => ?_)
  refine lv_if_eq (tgt := 40) S.1 S.2.1 dX12_rest_10 (by decide) (fun q5 => ?_) (fun q5 => ?_)
  · have f := (if_pos q5).symm.trans f
    refine lv_iconst (v := (-1)) S.1 S.2.1 dX12_rest_40 (by decide) ?_
    exact o_iret S hr hlo I f dX12_rest_41
  · have f := (if_neg q5).symm.trans f
    refine lv_aload_n S.1 S.2.1 dX12_rest_13 rfl (lv_at hl 0 rfl) ?_
    refine lv_iload_n S.1 S.2.1 dX12_rest_14 rfl (lv_at hl 2 rfl) ?_
    obtain ⟨o6, e7, f⟩ := ob f
    refine o_Vi S (As := [.int x2]) (rest := []) (ci := 12) (M12_isSurfer l D cy b A fl e7) gX12_rest_X12_isSurfer rfl rfl rfl cd12_isSurfer ⟨Nat.le_of_ble_eq_true rfl, Nat.le_of_ble_eq_true rfl⟩ I (gd e7).1 clX12 rfl rfl hl.1 rfl (Nat.le_of_ble_eq_true rfl) dX12_rest_15 ⟨Nat.le_of_ble_eq_true rfl, Nat.le_of_ble_eq_true rfl⟩ (fun H locs I => ?_)
    refine lv_if_eq (tgt := 40) S.1 S.2.1 dX12_rest_18 (by decide) (fun q8 => ?_) (fun q8 => ?_)
    · have f := (if_pos q8).symm.trans f
      refine lv_iconst (v := (-1)) S.1 S.2.1 dX12_rest_40 (by decide) ?_
      exact o_iret S hr hlo I f dX12_rest_41
    · have f := (if_neg q8).symm.trans f
      refine lv_iload_n S.1 S.2.1 dX12_rest_21 rfl (lv_at hl 1 rfl) ?_
      refine lv_iload_n S.1 S.2.1 dX12_rest_22 rfl (lv_at hl 2 rfl) ?_
      refine lv_icmp_eq (tgt := 40) S.1 S.2.1 dX12_rest_23 (by decide) (fun q9 => ?_) (fun q9 => ?_)
      · have f := (if_pos q9).symm.trans f
        refine lv_iconst (v := (-1)) S.1 S.2.1 dX12_rest_40 (by decide) ?_
        exact o_iret S hr hlo I f dX12_rest_41
      · have f := (if_neg q9).symm.trans f
        refine lv_iload_n S.1 S.2.1 dX12_rest_26 rfl (lv_at hl 3 rfl) ?_
        refine lv_if_lt (tgt := 40) S.1 S.2.1 dX12_rest_27 (by decide) (fun q10 => ?_) (fun q10 => ?_)
        · have f := (if_pos q10).symm.trans f
          refine lv_iconst (v := (-1)) S.1 S.2.1 dX12_rest_40 (by decide) ?_
          exact o_iret S hr hlo I f dX12_rest_41
        · have f := (if_neg q10).symm.trans f
          refine lv_aload_n S.1 S.2.1 dX12_rest_30 rfl (lv_at hl 0 rfl) ?_
          refine lv_iload_n S.1 S.2.1 dX12_rest_31 rfl (lv_at hl 1 rfl) ?_
          refine lv_iload_n S.1 S.2.1 dX12_rest_32 rfl (lv_at hl 2 rfl) ?_
          refine lv_iload_n S.1 S.2.1 dX12_rest_33 rfl (lv_at hl 3 rfl) ?_
          obtain ⟨o11, e12, f⟩ := ob f
          refine o_Vi S (As := [.int x1, .int x2, .int x3]) (rest := []) (ci := 12) (M12_restAt l D cy b A fl e12) gX12_rest_X12_restAt rfl rfl rfl cd12_restAt ⟨Nat.le_of_ble_eq_true rfl, Nat.le_of_ble_eq_true rfl⟩ I (gd e12).1 clX12 rfl rfl hl.1 rfl (Nat.le_of_ble_eq_true rfl) dX12_rest_34 ⟨Nat.le_of_ble_eq_true rfl, Nat.le_of_ble_eq_true rfl⟩ (fun H locs I => ?_)
          refine lv_goto (tgt := 41) S.1 S.2.1 dX12_rest_37 (by decide) ?_
          exact o_iret S hr hlo I f dX12_rest_41
theorem M12_rest (l : Launch) (D : va_G) (cy : Nat → ClassId) (b : Nat) (A : Nat → Prop) (fl : Bool) {h : PH} {a0 : Nat} {x1 : Int32} {x2 : Int32} {x3 : Int32} {out : Int32 × PH} (f : F12_rest h a0 x1 x2 x3 = some out) : Met l yX12_rest vX12_rest ({ frames := 10, cells := 0, slots := 0, locals := 246 } : Room) (va_Pc [.ref (b + a0), .int x1, .int x2, .int x3] (ph_B D cy b A fl h)) (va_Qi (fun (r : Int32) (u : PH) => (r, u) = out) (ph_B D cy b A fl) A) 0 0 A :=
  o_met (by decide) rfl (Nat.le_of_ble_eq_true rfl) rfl (fun p e s m below meth c S hr hlo hnm ls hl I => T12_rest_0 S hr hlo ((gd f).2) I (lv_sub hl [0, 1, 2, 3] rfl))
def vX12_rests : List Cond := .code yX12_rests cX12_rests 3 (some .int) :: TB
theorem lp12_rests_154 : Pl vX12_rests RX12 154 12 2 .int := ⟨RX12, TX12, 87, tyX12, rfl, by decide, (fun w h9 => List.mem_cons_of_mem _ (wC_wsX120 w h9)), (List.mem_cons_of_mem _ wT_13_17), tyX12_ok, nmX12, rfl, rfl⟩
theorem gX12_rests_X12_isSurfer : GoodIn vX12_rests (wsV RX12 413 RX12 yX12_isSurfer vX12_isSurfer) := gV_of wT_34_14 wT_34_15 wT_34_16 wT_1_5 wT_34_17
theorem gX12_rests_X12_restAt : GoodIn vX12_rests (wsV RX12 497 RX12 yX12_restAt vX12_restAt) := gV_of wT_52_8 wT_52_9 wT_52_10 wT_1_5 wT_52_11
theorem cd12_rests : Cd yX12_rests 2 := ⟨by decide, by decide, by decide +kernel⟩
set_option maxHeartbeats 4000000 in
set_option maxRecDepth 100000 in
theorem T12_rests_0 (S : CallFix p m c cX12_rests 3 s args vX12_rests RX12) (hr : meth.sig.returnType = (some .int)) (hlo : meth.locks = false) {out : Int32 × PH} {h : PH} {a0 : Nat} {x1 : Int32} {x2 : Int32} (f : F12_rests_0  h a0 x1 x2 = some out) {H : Heap} {locs : List Loc} (I : ph_I D cy b A fl h s H locs) {ls : Array Slot} (hl : lv_has ls 3 [(0, .ref (b + a0)), (1, .int x1), (2, .int x2)]) : W p l e ({ frames := 10, cells := 0, slots := 0, locals := 246 } : Room) s m args below meth c H locs 0 0 (MQ below (va_Qi (fun (r : Int32) (u : PH) => (r, u) = out) (ph_B D cy b A fl) A) args s 0 0 A) (F0 m 0 ls []) := by
  unfold F12_rests_0 at f
  refine lv_aload_n S.1 S.2.1 dX12_rests_0 rfl (lv_at hl 0 rfl) ?_
  refine lv_iconst (v := 0) S.1 S.2.1 dX12_rests_1 (by decide) ?_
  obtain ⟨h1, e2, f⟩ := ob f
  refine o_pI S lp12_rests_154 I e2 dX12_rests_2 (fun H locs I => ?_)
  refine lv_aload_n S.1 S.2.1 dX12_rests_5 rfl (lv_at hl 0 rfl) ?_
  refine lv_iload_n S.1 S.2.1 dX12_rests_6 rfl (lv_at hl 1 rfl) ?_
  obtain ⟨o3, e4, f⟩ := ob f
  refine o_Vi S (As := [.int x1]) (rest := []) (ci := 12) (M12_isSurfer l D cy b A fl e4) gX12_rests_X12_isSurfer rfl rfl rfl cd12_isSurfer ⟨Nat.le_of_ble_eq_true rfl, Nat.le_of_ble_eq_true rfl⟩ I (gd e4).1 clX12 rfl rfl hl.1 rfl (Nat.le_of_ble_eq_true rfl) dX12_rests_7 ⟨Nat.le_of_ble_eq_true rfl, Nat.le_of_ble_eq_true rfl⟩ (fun H locs I => ?_)
  refine lv_if_eq (tgt := 36) S.1 S.2.1 dX12_rests_10 (by decide) (fun q5 => ?_) (fun q5 => ?_)
  · have f := (if_pos q5).symm.trans f
    refine lv_iconst (v := (-1)) S.1 S.2.1 dX12_rests_36 (by decide) ?_
    exact o_iret S hr hlo I f dX12_rests_37
  · have f := (if_neg q5).symm.trans f
    refine lv_aload_n S.1 S.2.1 dX12_rests_13 rfl (lv_at hl 0 rfl) ?_
    refine lv_iload_n S.1 S.2.1 dX12_rests_14 rfl (lv_at hl 2 rfl) ?_
    obtain ⟨o6, e7, f⟩ := ob f
    refine o_Vi S (As := [.int x2]) (rest := []) (ci := 12) (M12_isSurfer l D cy b A fl e7) gX12_rests_X12_isSurfer rfl rfl rfl cd12_isSurfer ⟨Nat.le_of_ble_eq_true rfl, Nat.le_of_ble_eq_true rfl⟩ I (gd e7).1 clX12 rfl rfl hl.1 rfl (Nat.le_of_ble_eq_true rfl) dX12_rests_15 ⟨Nat.le_of_ble_eq_true rfl, Nat.le_of_ble_eq_true rfl⟩ (fun H locs I => ?_)
    refine lv_if_eq (tgt := 36) S.1 S.2.1 dX12_rests_18 (by decide) (fun q8 => ?_) (fun q8 => ?_)
    · have f := (if_pos q8).symm.trans f
      refine lv_iconst (v := (-1)) S.1 S.2.1 dX12_rests_36 (by decide) ?_
      exact o_iret S hr hlo I f dX12_rests_37
    · have f := (if_neg q8).symm.trans f
      refine lv_iload_n S.1 S.2.1 dX12_rests_21 rfl (lv_at hl 1 rfl) ?_
      refine lv_iload_n S.1 S.2.1 dX12_rests_22 rfl (lv_at hl 2 rfl) ?_
      refine lv_icmp_eq (tgt := 36) S.1 S.2.1 dX12_rests_23 (by decide) (fun q9 => ?_) (fun q9 => ?_)
      · have f := (if_pos q9).symm.trans f
        refine lv_iconst (v := (-1)) S.1 S.2.1 dX12_rests_36 (by decide) ?_
        exact o_iret S hr hlo I f dX12_rests_37
      · have f := (if_neg q9).symm.trans f
        refine lv_aload_n S.1 S.2.1 dX12_rests_26 rfl (lv_at hl 0 rfl) ?_
        refine lv_iload_n S.1 S.2.1 dX12_rests_27 rfl (lv_at hl 1 rfl) ?_
        refine lv_iload_n S.1 S.2.1 dX12_rests_28 rfl (lv_at hl 2 rfl) ?_
        refine lv_iconst (v := (-1)) S.1 S.2.1 dX12_rests_29 (by decide) ?_
        obtain ⟨o10, e11, f⟩ := ob f
        refine o_Vi S (As := [.int x1, .int x2, .int (-1)]) (rest := []) (ci := 12) (M12_restAt l D cy b A fl e11) gX12_rests_X12_restAt rfl rfl rfl cd12_restAt ⟨Nat.le_of_ble_eq_true rfl, Nat.le_of_ble_eq_true rfl⟩ I (gd e11).1 clX12 rfl rfl hl.1 rfl (Nat.le_of_ble_eq_true rfl) dX12_rests_30 ⟨Nat.le_of_ble_eq_true rfl, Nat.le_of_ble_eq_true rfl⟩ (fun H locs I => ?_)
        refine lv_goto (tgt := 37) S.1 S.2.1 dX12_rests_33 (by decide) ?_
        exact o_iret S hr hlo I f dX12_rests_37
theorem M12_rests (l : Launch) (D : va_G) (cy : Nat → ClassId) (b : Nat) (A : Nat → Prop) (fl : Bool) {h : PH} {a0 : Nat} {x1 : Int32} {x2 : Int32} {out : Int32 × PH} (f : F12_rests h a0 x1 x2 = some out) : Met l yX12_rests vX12_rests ({ frames := 10, cells := 0, slots := 0, locals := 246 } : Room) (va_Pc [.ref (b + a0), .int x1, .int x2] (ph_B D cy b A fl h)) (va_Qi (fun (r : Int32) (u : PH) => (r, u) = out) (ph_B D cy b A fl) A) 0 0 A :=
  o_met (by decide) rfl (Nat.le_of_ble_eq_true rfl) rfl (fun p e s m below meth c S hr hlo hnm ls hl I => T12_rests_0 S hr hlo ((gd f).2) I (lv_sub hl [0, 1, 2] rfl))
def vX12_rule : List Cond := .code yX12_rule cX12_rule 2 (some .boolean) :: TB
theorem lp12_rule_154 : Pl vX12_rule RX12 154 12 2 .int := ⟨RX12, TX12, 87, tyX12, rfl, by decide, (fun w h9 => List.mem_cons_of_mem _ (wC_wsX120 w h9)), (List.mem_cons_of_mem _ wT_13_17), tyX12_ok, nmX12, rfl, rfl⟩
theorem gX12_rule_X12_isIn : GoodIn vX12_rule (va_wsS RX12 199 yX12_isIn vX12_isIn) := gS_of wT_28_17 wT_28_18 wT_1_5 wT_28_19
theorem lf12_rule_369 : Fl vX12_rule RX12 369 12 64 := ⟨RX12, TX12, 87, rfl, by decide, (fun w h9 => List.mem_cons_of_mem _ (wC_wsX120 w h9)), (List.mem_cons_of_mem _ wT_12_23)⟩
theorem gX12_rule_X12_remember : GoodIn vX12_rule (wsV RX12 469 RX12 yX12_remember vX12_remember) := gV_of wT_42_15 wT_42_16 wT_42_17 wT_1_5 wT_42_18
theorem lp12_rule_369 : Pl vX12_rule RX12 369 12 64 .int := ⟨RX12, TX12, 87, tyX12, rfl, by decide, (fun w h9 => List.mem_cons_of_mem _ (wC_wsX120 w h9)), (List.mem_cons_of_mem _ wT_12_23), tyX12_ok, nmX12, rfl, rfl⟩
theorem cd12_rule : Cd yX12_rule 1 := ⟨by decide, by decide, by decide +kernel⟩
set_option maxHeartbeats 4000000 in
set_option maxRecDepth 100000 in
theorem T12_rule_0 (S : CallFix p m c cX12_rule 2 s args vX12_rule RX12) (hr : meth.sig.returnType = (some .boolean)) (hlo : meth.locks = false) {out : Int32 × PH} {h : PH} {a0 : Nat} {x1 : Int32} (f : F12_rule_0  h a0 x1 = some out) {H : Heap} {locs : List Loc} (I : ph_I D cy b A fl h s H locs) {ls : Array Slot} (hl : lv_has ls 2 [(0, .ref (b + a0)), (1, .int x1)]) : W p l e ({ frames := 1, cells := 0, slots := 0, locals := 22 } : Room) s m args below meth c H locs 0 0 (MQ below (va_Qi (fun (r : Int32) (u : PH) => (r, u) = out) (ph_B D cy b A fl) A) args s 0 0 A) (F0 m 0 ls []) := by
  unfold F12_rule_0 at f
  refine lv_aload_n S.1 S.2.1 dX12_rule_0 rfl (lv_at hl 0 rfl) ?_
  refine lv_iconst (v := 0) S.1 S.2.1 dX12_rule_1 (by decide) ?_
  obtain ⟨h1, e2, f⟩ := ob f
  refine o_pI S lp12_rule_154 I e2 dX12_rule_2 (fun H locs I => ?_)
  refine lv_iload_n S.1 S.2.1 dX12_rule_5 rfl (lv_at hl 1 rfl) ?_
  refine lv_iconst (v := 0) S.1 S.2.1 dX12_rule_6 (by decide) ?_
  refine lv_iconst (v := 3) S.1 S.2.1 dX12_rule_7 (by decide) ?_
  obtain ⟨o3, e4, f⟩ := ob f
  refine o_Si S (As := [.int x1, .int 0, .int 3]) (rest := []) (M12_isIn l D cy b A fl e4) gX12_rule_X12_isIn rfl rfl rfl cd12_isIn ⟨Nat.le_of_ble_eq_true rfl, Nat.le_of_ble_eq_true rfl⟩ I rfl hl.1 rfl (Nat.le_of_ble_eq_true rfl) dX12_rule_8 ⟨Nat.le_of_ble_eq_true rfl, Nat.le_of_ble_eq_true rfl⟩ (fun H locs I => ?_)
  refine lv_if_eq (tgt := 22) S.1 S.2.1 dX12_rule_11 (by decide) (fun q5 => ?_) (fun q5 => ?_)
  · have f := (if_pos q5).symm.trans f
    refine lv_iconst (v := 0) S.1 S.2.1 dX12_rule_22 (by decide) ?_
    exact o_zret S hr hlo I f dX12_rule_23
  · have f := (if_neg q5).symm.trans f
    refine lv_iload_n S.1 S.2.1 dX12_rule_14 rfl (lv_at hl 1 rfl) ?_
    refine lv_aload_n S.1 S.2.1 dX12_rule_15 rfl (lv_at hl 0 rfl) ?_
    obtain ⟨v6, e7, f⟩ := ob f
    refine o_gI S lf12_rule_369 I e7 dX12_rule_16 ?_
    refine lv_icmp_ne (tgt := 24) S.1 S.2.1 dX12_rule_19 (by decide) (fun q8 => ?_) (fun q8 => ?_)
    · have f := (if_neg q8).symm.trans f
      refine lv_aload_n S.1 S.2.1 dX12_rule_24 rfl (lv_at hl 0 rfl) ?_
      obtain ⟨o9, e10, f⟩ := ob f
      refine o_Vv S (As := []) (rest := []) (ci := 12) (M12_remember l D cy b A fl e10) gX12_rule_X12_remember rfl rfl rfl cd12_remember ⟨Nat.le_of_ble_eq_true rfl, Nat.le_of_ble_eq_true rfl⟩ I (gd e10).1 clX12 rfl rfl hl.1 rfl (Nat.le_of_ble_eq_true rfl) dX12_rule_25 ⟨Nat.le_of_ble_eq_true rfl, Nat.le_of_ble_eq_true rfl⟩ (fun H locs I => ?_)
      refine lv_aload_n S.1 S.2.1 dX12_rule_28 rfl (lv_at hl 0 rfl) ?_
      refine lv_iload_n S.1 S.2.1 dX12_rule_29 rfl (lv_at hl 1 rfl) ?_
      obtain ⟨h11, e12, f⟩ := ob f
      refine o_pI S lp12_rule_369 I e12 dX12_rule_30 (fun H locs I => ?_)
      refine lv_iconst (v := 1) S.1 S.2.1 dX12_rule_33 (by decide) ?_
      exact o_zret S hr hlo I f dX12_rule_34
    · have f := (if_pos q8).symm.trans f
      refine lv_iconst (v := 0) S.1 S.2.1 dX12_rule_22 (by decide) ?_
      exact o_zret S hr hlo I f dX12_rule_23
theorem M12_rule (l : Launch) (D : va_G) (cy : Nat → ClassId) (b : Nat) (A : Nat → Prop) (fl : Bool) {h : PH} {a0 : Nat} {x1 : Int32} {out : Int32 × PH} (f : F12_rule h a0 x1 = some out) : Met l yX12_rule vX12_rule ({ frames := 1, cells := 0, slots := 0, locals := 22 } : Room) (va_Pc [.ref (b + a0), .int x1] (ph_B D cy b A fl h)) (va_Qi (fun (r : Int32) (u : PH) => (r, u) = out) (ph_B D cy b A fl) A) 0 0 A :=
  o_met (by decide) rfl (Nat.le_of_ble_eq_true rfl) rfl (fun p e s m below meth c S hr hlo hnm ls hl I => T12_rule_0 S hr hlo ((gd f).2) I (lv_sub hl [0, 1] rfl))
def vX12_seat : List Cond := .code yX12_seat cX12_seat 3 (some .int) :: TB
theorem lp12_seat_154 : Pl vX12_seat RX12 154 12 2 .int := ⟨RX12, TX12, 87, tyX12, rfl, by decide, (fun w h9 => List.mem_cons_of_mem _ (wC_wsX120 w h9)), (List.mem_cons_of_mem _ wT_13_17), tyX12_ok, nmX12, rfl, rfl⟩
theorem gX12_seat_X12_isSurfer : GoodIn vX12_seat (wsV RX12 413 RX12 yX12_isSurfer vX12_isSurfer) := gV_of wT_34_14 wT_34_15 wT_34_16 wT_1_5 wT_34_17
theorem gX12_seat_X12_isCell : GoodIn vX12_seat (wsV RX12 422 RX12 yX12_isCell vX12_isCell) := gV_of wT_39_17 wT_39_18 wT_39_19 wT_1_5 wT_39_20
theorem lf12_seat_106 : Fl vX12_seat RX12 106 12 61 := ⟨RX12, TX12, 87, rfl, by decide, (fun w h9 => List.mem_cons_of_mem _ (wC_wsX120 w h9)), (List.mem_cons_of_mem _ wT_11_4)⟩
theorem gX12_seat_X12_seatFrom : GoodIn vX12_seat (wsV RX12 482 RX12 yX12_seatFrom vX12_seatFrom) := gV_of wT_50_1 wT_50_2 wT_50_3 wT_1_5 wT_50_4
theorem cd12_seat : Cd yX12_seat 2 := ⟨by decide, by decide, by decide +kernel⟩
set_option maxHeartbeats 4000000 in
set_option maxRecDepth 100000 in
theorem T12_seat_0 (S : CallFix p m c cX12_seat 3 s args vX12_seat RX12) (hr : meth.sig.returnType = (some .int)) (hlo : meth.locks = false) {out : Int32 × PH} {h : PH} {a0 : Nat} {x1 : Int32} {x2 : Int32} (f : F12_seat_0  h a0 x1 x2 = some out) {H : Heap} {locs : List Loc} (I : ph_I D cy b A fl h s H locs) {ls : Array Slot} (hl : lv_has ls 3 [(0, .ref (b + a0)), (1, .int x1), (2, .int x2)]) : W p l e ({ frames := 9, cells := 0, slots := 0, locals := 217 } : Room) s m args below meth c H locs 0 0 (MQ below (va_Qi (fun (r : Int32) (u : PH) => (r, u) = out) (ph_B D cy b A fl) A) args s 0 0 A) (F0 m 0 ls []) := by
  unfold F12_seat_0 at f
  refine lv_aload_n S.1 S.2.1 dX12_seat_0 rfl (lv_at hl 0 rfl) ?_
  refine lv_iconst (v := 0) S.1 S.2.1 dX12_seat_1 (by decide) ?_
  obtain ⟨h1, e2, f⟩ := ob f
  refine o_pI S lp12_seat_154 I e2 dX12_seat_2 (fun H locs I => ?_)
  refine lv_aload_n S.1 S.2.1 dX12_seat_5 rfl (lv_at hl 0 rfl) ?_
  refine lv_iload_n S.1 S.2.1 dX12_seat_6 rfl (lv_at hl 1 rfl) ?_
  obtain ⟨o3, e4, f⟩ := ob f
  refine o_Vi S (As := [.int x1]) (rest := []) (ci := 12) (M12_isSurfer l D cy b A fl e4) gX12_seat_X12_isSurfer rfl rfl rfl cd12_isSurfer ⟨Nat.le_of_ble_eq_true rfl, Nat.le_of_ble_eq_true rfl⟩ I (gd e4).1 clX12 rfl rfl hl.1 rfl (Nat.le_of_ble_eq_true rfl) dX12_seat_7 ⟨Nat.le_of_ble_eq_true rfl, Nat.le_of_ble_eq_true rfl⟩ (fun H locs I => ?_)
  refine lv_if_eq (tgt := 36) S.1 S.2.1 dX12_seat_10 (by decide) (fun q5 => ?_) (fun q5 => ?_)
  · have f := (if_pos q5).symm.trans f
    refine lv_iconst (v := (-1)) S.1 S.2.1 dX12_seat_36 (by decide) ?_
    exact o_iret S hr hlo I f dX12_seat_37
  · have f := (if_neg q5).symm.trans f
    refine lv_aload_n S.1 S.2.1 dX12_seat_13 rfl (lv_at hl 0 rfl) ?_
    refine lv_iload_n S.1 S.2.1 dX12_seat_14 rfl (lv_at hl 2 rfl) ?_
    obtain ⟨o6, e7, f⟩ := ob f
    refine o_Vi S (As := [.int x2]) (rest := []) (ci := 12) (M12_isCell l D cy b A fl e7) gX12_seat_X12_isCell rfl rfl rfl cd12_isCell ⟨Nat.le_of_ble_eq_true rfl, Nat.le_of_ble_eq_true rfl⟩ I (gd e7).1 clX12 rfl rfl hl.1 rfl (Nat.le_of_ble_eq_true rfl) dX12_seat_15 ⟨Nat.le_of_ble_eq_true rfl, Nat.le_of_ble_eq_true rfl⟩ (fun H locs I => ?_)
    refine lv_if_eq (tgt := 36) S.1 S.2.1 dX12_seat_18 (by decide) (fun q8 => ?_) (fun q8 => ?_)
    · have f := (if_pos q8).symm.trans f
      refine lv_iconst (v := (-1)) S.1 S.2.1 dX12_seat_36 (by decide) ?_
      exact o_iret S hr hlo I f dX12_seat_37
    · have f := (if_neg q8).symm.trans f
      refine lv_aload_n S.1 S.2.1 dX12_seat_21 rfl (lv_at hl 0 rfl) ?_
      refine lv_iload_n S.1 S.2.1 dX12_seat_22 rfl (lv_at hl 1 rfl) ?_
      refine lv_iload_n S.1 S.2.1 dX12_seat_23 rfl (lv_at hl 2 rfl) ?_
      refine lv_aload_n S.1 S.2.1 dX12_seat_24 rfl (lv_at hl 0 rfl) ?_
      obtain ⟨r9, e10, f⟩ := ob f
      refine o_gR S lf12_seat_106 I e10 dX12_seat_25 ?_
      refine lv_iconst (v := 0) S.1 S.2.1 dX12_seat_28 (by decide) ?_
      obtain ⟨v12, e11, f⟩ := ob f
      refine o_iald S I e11 dX12_seat_29 ?_
      obtain ⟨o13, e14, f⟩ := ob f
      refine o_Vi S (As := [.int x1, .int x2, .int v12]) (rest := []) (ci := 12) (M12_seatFrom l D cy b A fl e14) gX12_seat_X12_seatFrom rfl rfl rfl cd12_seatFrom ⟨Nat.le_of_ble_eq_true rfl, Nat.le_of_ble_eq_true rfl⟩ I (gd e14).1 clX12 rfl rfl hl.1 rfl (Nat.le_of_ble_eq_true rfl) dX12_seat_30 ⟨Nat.le_of_ble_eq_true rfl, Nat.le_of_ble_eq_true rfl⟩ (fun H locs I => ?_)
      refine lv_goto (tgt := 37) S.1 S.2.1 dX12_seat_33 (by decide) ?_
      exact o_iret S hr hlo I f dX12_seat_37
theorem M12_seat (l : Launch) (D : va_G) (cy : Nat → ClassId) (b : Nat) (A : Nat → Prop) (fl : Bool) {h : PH} {a0 : Nat} {x1 : Int32} {x2 : Int32} {out : Int32 × PH} (f : F12_seat h a0 x1 x2 = some out) : Met l yX12_seat vX12_seat ({ frames := 9, cells := 0, slots := 0, locals := 217 } : Room) (va_Pc [.ref (b + a0), .int x1, .int x2] (ph_B D cy b A fl h)) (va_Qi (fun (r : Int32) (u : PH) => (r, u) = out) (ph_B D cy b A fl) A) 0 0 A :=
  o_met (by decide) rfl (Nat.le_of_ble_eq_true rfl) rfl (fun p e s m below meth c S hr hlo hnm ls hl I => T12_seat_0 S hr hlo ((gd f).2) I (lv_sub hl [0, 1, 2] rfl))
def vX12_shares : List Cond := .code yX12_shares cX12_shares 2 (some .int) :: TB
theorem lp12_shares_154 : Pl vX12_shares RX12 154 12 2 .int := ⟨RX12, TX12, 87, tyX12, rfl, by decide, (fun w h9 => List.mem_cons_of_mem _ (wC_wsX120 w h9)), (List.mem_cons_of_mem _ wT_13_17), tyX12_ok, nmX12, rfl, rfl⟩
theorem lf12_shares_247 : Fl vX12_shares RX12 247 12 14 := ⟨RX12, TX12, 87, rfl, by decide, (fun w h9 => List.mem_cons_of_mem _ (wC_wsX120 w h9)), (List.mem_cons_of_mem _ wT_12_12)⟩
theorem gX12_shares_X12_isIn : GoodIn vX12_shares (va_wsS RX12 199 yX12_isIn vX12_isIn) := gS_of wT_28_17 wT_28_18 wT_1_5 wT_28_19
theorem gX12_shares_X12_allHad : GoodIn vX12_shares (wsV RX12 521 RX12 yX12_allHad vX12_allHad) := gV_of wT_61_5 wT_61_6 wT_61_7 wT_1_5 wT_61_8
theorem gX12_shares_X12_unlike : GoodIn vX12_shares (wsV RX12 518 RX12 yX12_unlike vX12_unlike) := gV_of wT_58_17 wT_58_18 wT_58_19 wT_1_5 wT_58_20
theorem cd12_shares : Cd yX12_shares 1 := ⟨by decide, by decide, by decide +kernel⟩
set_option maxHeartbeats 4000000 in
set_option maxRecDepth 100000 in
theorem T12_shares_0 (S : CallFix p m c cX12_shares 2 s args vX12_shares RX12) (hr : meth.sig.returnType = (some .int)) (hlo : meth.locks = false) {out : Int32 × PH} {h : PH} {a0 : Nat} {x1 : Int32} (f : F12_shares_0  h a0 x1 = some out) {H : Heap} {locs : List Loc} (I : ph_I D cy b A fl h s H locs) {ls : Array Slot} (hl : lv_has ls 2 [(0, .ref (b + a0)), (1, .int x1)]) : W p l e ({ frames := 1, cells := 0, slots := 0, locals := 24 } : Room) s m args below meth c H locs 0 0 (MQ below (va_Qi (fun (r : Int32) (u : PH) => (r, u) = out) (ph_B D cy b A fl) A) args s 0 0 A) (F0 m 0 ls []) := by
  unfold F12_shares_0 at f
  refine lv_aload_n S.1 S.2.1 dX12_shares_0 rfl (lv_at hl 0 rfl) ?_
  refine lv_iconst (v := 0) S.1 S.2.1 dX12_shares_1 (by decide) ?_
  obtain ⟨h1, e2, f⟩ := ob f
  refine o_pI S lp12_shares_154 I e2 dX12_shares_2 (fun H locs I => ?_)
  refine lv_aload_n S.1 S.2.1 dX12_shares_5 rfl (lv_at hl 0 rfl) ?_
  obtain ⟨v3, e4, f⟩ := ob f
  refine o_gI S lf12_shares_247 I e4 dX12_shares_6 ?_
  refine lv_if_eq (tgt := 21) S.1 S.2.1 dX12_shares_9 (by decide) (fun q5 => ?_) (fun q5 => ?_)
  · have f := (if_pos q5).symm.trans f
    refine lv_iconst (v := (-1)) S.1 S.2.1 dX12_shares_21 (by decide) ?_
    exact o_iret S hr hlo I f dX12_shares_22
  · have f := (if_neg q5).symm.trans f
    refine lv_iload_n S.1 S.2.1 dX12_shares_12 rfl (lv_at hl 1 rfl) ?_
    refine lv_iconst (v := 0) S.1 S.2.1 dX12_shares_13 (by decide) ?_
    refine lv_iconst (v := 1) S.1 S.2.1 dX12_shares_14 (by decide) ?_
    obtain ⟨o6, e7, f⟩ := ob f
    refine o_Si S (As := [.int x1, .int 0, .int 1]) (rest := []) (M12_isIn l D cy b A fl e7) gX12_shares_X12_isIn rfl rfl rfl cd12_isIn ⟨Nat.le_of_ble_eq_true rfl, Nat.le_of_ble_eq_true rfl⟩ I rfl hl.1 rfl (Nat.le_of_ble_eq_true rfl) dX12_shares_15 ⟨Nat.le_of_ble_eq_true rfl, Nat.le_of_ble_eq_true rfl⟩ (fun H locs I => ?_)
    refine lv_if_ne (tgt := 23) S.1 S.2.1 dX12_shares_18 (by decide) (fun q8 => ?_) (fun q8 => ?_)
    · have f := (if_neg q8).symm.trans f
      refine lv_iload_n S.1 S.2.1 dX12_shares_23 rfl (lv_at hl 1 rfl) ?_
      refine lv_if_ne (tgt := 35) S.1 S.2.1 dX12_shares_24 (by decide) (fun q9 => ?_) (fun q9 => ?_)
      · have f := (if_neg q9).symm.trans f
        refine lv_aload_n S.1 S.2.1 dX12_shares_35 rfl (lv_at hl 0 rfl) ?_
        refine lv_iconst (v := 0) S.1 S.2.1 dX12_shares_36 (by decide) ?_
        obtain ⟨o10, e11, f⟩ := ob f
        refine o_Vi S (As := [.int 0]) (rest := []) (ci := 12) (M12_allHad l D cy b A fl e11) gX12_shares_X12_allHad rfl rfl rfl cd12_allHad ⟨Nat.le_of_ble_eq_true rfl, Nat.le_of_ble_eq_true rfl⟩ I (gd e11).1 clX12 rfl rfl hl.1 rfl (Nat.le_of_ble_eq_true rfl) dX12_shares_37 ⟨Nat.le_of_ble_eq_true rfl, Nat.le_of_ble_eq_true rfl⟩ (fun H locs I => ?_)
        exact o_iret S hr hlo I f dX12_shares_40
      · have f := (if_pos q9).symm.trans f
        refine lv_aload_n S.1 S.2.1 dX12_shares_27 rfl (lv_at hl 0 rfl) ?_
        refine lv_iconst (v := 0) S.1 S.2.1 dX12_shares_28 (by decide) ?_
        obtain ⟨o12, e13, f⟩ := ob f
        refine o_Vi S (As := [.int 0]) (rest := []) (ci := 12) (M12_unlike l D cy b A fl e13) gX12_shares_X12_unlike rfl rfl rfl cd12_unlike ⟨Nat.le_of_ble_eq_true rfl, Nat.le_of_ble_eq_true rfl⟩ I (gd e13).1 clX12 rfl rfl hl.1 rfl (Nat.le_of_ble_eq_true rfl) dX12_shares_29 ⟨Nat.le_of_ble_eq_true rfl, Nat.le_of_ble_eq_true rfl⟩ (fun H locs I => ?_)
        refine lv_goto (tgt := 40) S.1 S.2.1 dX12_shares_32 (by decide) ?_
        exact o_iret S hr hlo I f dX12_shares_40
    · have f := (if_pos q8).symm.trans f
      refine lv_iconst (v := (-1)) S.1 S.2.1 dX12_shares_21 (by decide) ?_
      exact o_iret S hr hlo I f dX12_shares_22
theorem M12_shares (l : Launch) (D : va_G) (cy : Nat → ClassId) (b : Nat) (A : Nat → Prop) (fl : Bool) {h : PH} {a0 : Nat} {x1 : Int32} {out : Int32 × PH} (f : F12_shares h a0 x1 = some out) : Met l yX12_shares vX12_shares ({ frames := 1, cells := 0, slots := 0, locals := 24 } : Room) (va_Pc [.ref (b + a0), .int x1] (ph_B D cy b A fl h)) (va_Qi (fun (r : Int32) (u : PH) => (r, u) = out) (ph_B D cy b A fl) A) 0 0 A :=
  o_met (by decide) rfl (Nat.le_of_ble_eq_true rfl) rfl (fun p e s m below meth c S hr hlo hnm ls hl I => T12_shares_0 S hr hlo ((gd f).2) I (lv_sub hl [0, 1] rfl))
def vX12_strike : List Cond := .code yX12_strike cX12_strike 2 (some .int) :: TB
theorem lp12_strike_154 : Pl vX12_strike RX12 154 12 2 .int := ⟨RX12, TX12, 87, tyX12, rfl, by decide, (fun w h9 => List.mem_cons_of_mem _ (wC_wsX120 w h9)), (List.mem_cons_of_mem _ wT_13_17), tyX12_ok, nmX12, rfl, rfl⟩
theorem lf12_strike_376 : Fl vX12_strike RX12 376 12 74 := ⟨RX12, TX12, 87, rfl, by decide, (fun w h9 => List.mem_cons_of_mem _ (wC_wsX120 w h9)), (List.mem_cons_of_mem _ wT_13_1)⟩
theorem gX12_strike_X12_noted : GoodIn vX12_strike (wsV RX12 524 RX12 yX12_noted vX12_noted) := gV_of wT_61_22 wT_61_23 wT_62_0 wT_1_5 wT_62_1
theorem cd12_strike : Cd yX12_strike 1 := ⟨by decide, by decide, by decide +kernel⟩
set_option maxHeartbeats 4000000 in
set_option maxRecDepth 100000 in
theorem T12_strike_0 (S : CallFix p m c cX12_strike 2 s args vX12_strike RX12) (hr : meth.sig.returnType = (some .int)) (hlo : meth.locks = false) {out : Int32 × PH} {h : PH} {a0 : Nat} {x1 : Int32} (f : F12_strike_0  h a0 x1 = some out) {H : Heap} {locs : List Loc} (I : ph_I D cy b A fl h s H locs) {ls : Array Slot} (hl : lv_has ls 2 [(0, .ref (b + a0)), (1, .int x1)]) : W p l e ({ frames := 1, cells := 0, slots := 0, locals := 23 } : Room) s m args below meth c H locs 0 0 (MQ below (va_Qi (fun (r : Int32) (u : PH) => (r, u) = out) (ph_B D cy b A fl) A) args s 0 0 A) (F0 m 0 ls []) := by
  unfold F12_strike_0 at f
  refine lv_aload_n S.1 S.2.1 dX12_strike_0 rfl (lv_at hl 0 rfl) ?_
  refine lv_iconst (v := 0) S.1 S.2.1 dX12_strike_1 (by decide) ?_
  obtain ⟨h1, e2, f⟩ := ob f
  refine o_pI S lp12_strike_154 I e2 dX12_strike_2 (fun H locs I => ?_)
  refine lv_aload_n S.1 S.2.1 dX12_strike_5 rfl (lv_at hl 0 rfl) ?_
  obtain ⟨v3, e4, f⟩ := ob f
  refine o_gI S lf12_strike_376 I e4 dX12_strike_6 ?_
  refine lv_bipush (v := 24) S.1 S.2.1 dX12_strike_9 (by decide) ?_
  refine lv_icmp_eq (tgt := 26) S.1 S.2.1 dX12_strike_11 (by decide) (fun q5 => ?_) (fun q5 => ?_)
  · have f := (if_pos q5).symm.trans f
    refine lv_iconst (v := (-1)) S.1 S.2.1 dX12_strike_26 (by decide) ?_
    refine lv_goto (tgt := 37) S.1 S.2.1 dX12_strike_27 (by decide) ?_
    exact o_iret S hr hlo I f dX12_strike_37
  · have f := (if_neg q5).symm.trans f
    refine lv_iload_n S.1 S.2.1 dX12_strike_14 rfl (lv_at hl 1 rfl) ?_
    refine lv_if_lt (tgt := 26) S.1 S.2.1 dX12_strike_15 (by decide) (fun q6 => ?_) (fun q6 => ?_)
    · have f := (if_pos q6).symm.trans f
      refine lv_iconst (v := (-1)) S.1 S.2.1 dX12_strike_26 (by decide) ?_
      refine lv_goto (tgt := 37) S.1 S.2.1 dX12_strike_27 (by decide) ?_
      exact o_iret S hr hlo I f dX12_strike_37
    · have f := (if_neg q6).symm.trans f
      refine lv_iload_n S.1 S.2.1 dX12_strike_18 rfl (lv_at hl 1 rfl) ?_
      refine lv_aload_n S.1 S.2.1 dX12_strike_19 rfl (lv_at hl 0 rfl) ?_
      obtain ⟨v7, e8, f⟩ := ob f
      refine o_gI S lf12_strike_376 I e8 dX12_strike_20 ?_
      refine lv_icmp_lt (tgt := 30) S.1 S.2.1 dX12_strike_23 (by decide) (fun q9 => ?_) (fun q9 => ?_)
      · have f := (if_pos q9).symm.trans f
        refine lv_aload_n S.1 S.2.1 dX12_strike_30 rfl (lv_at hl 0 rfl) ?_
        refine lv_iconst (v := (-1)) S.1 S.2.1 dX12_strike_31 (by decide) ?_
        refine lv_iload_n S.1 S.2.1 dX12_strike_32 rfl (lv_at hl 1 rfl) ?_
        refine lv_iconst (v := 0) S.1 S.2.1 dX12_strike_33 (by decide) ?_
        obtain ⟨o10, e11, f⟩ := ob f
        refine o_Vi S (As := [.int (-1), .int x1, .int 0]) (rest := []) (ci := 12) (M12_noted l D cy b A fl e11) gX12_strike_X12_noted rfl rfl rfl cd12_noted ⟨Nat.le_of_ble_eq_true rfl, Nat.le_of_ble_eq_true rfl⟩ I (gd e11).1 clX12 rfl rfl hl.1 rfl (Nat.le_of_ble_eq_true rfl) dX12_strike_34 ⟨Nat.le_of_ble_eq_true rfl, Nat.le_of_ble_eq_true rfl⟩ (fun H locs I => ?_)
        exact o_iret S hr hlo I f dX12_strike_37
      · have f := (if_neg q9).symm.trans f
        refine lv_iconst (v := (-1)) S.1 S.2.1 dX12_strike_26 (by decide) ?_
        refine lv_goto (tgt := 37) S.1 S.2.1 dX12_strike_27 (by decide) ?_
        exact o_iret S hr hlo I f dX12_strike_37
theorem M12_strike (l : Launch) (D : va_G) (cy : Nat → ClassId) (b : Nat) (A : Nat → Prop) (fl : Bool) {h : PH} {a0 : Nat} {x1 : Int32} {out : Int32 × PH} (f : F12_strike h a0 x1 = some out) : Met l yX12_strike vX12_strike ({ frames := 1, cells := 0, slots := 0, locals := 23 } : Room) (va_Pc [.ref (b + a0), .int x1] (ph_B D cy b A fl h)) (va_Qi (fun (r : Int32) (u : PH) => (r, u) = out) (ph_B D cy b A fl) A) 0 0 A :=
  o_met (by decide) rfl (Nat.le_of_ble_eq_true rfl) rfl (fun p e s m below meth c S hr hlo hnm ls hl I => T12_strike_0 S hr hlo ((gd f).2) I (lv_sub hl [0, 1] rfl))
def vX12_stroke : List Cond := .code yX12_stroke cX12_stroke 4 (some .int) :: TB
theorem lp12_stroke_154 : Pl vX12_stroke RX12 154 12 2 .int := ⟨RX12, TX12, 87, tyX12, rfl, by decide, (fun w h9 => List.mem_cons_of_mem _ (wC_wsX120 w h9)), (List.mem_cons_of_mem _ wT_13_17), tyX12_ok, nmX12, rfl, rfl⟩
theorem gX12_stroke_X12_isSurfer : GoodIn vX12_stroke (wsV RX12 413 RX12 yX12_isSurfer vX12_isSurfer) := gV_of wT_34_14 wT_34_15 wT_34_16 wT_1_5 wT_34_17
theorem gX12_stroke_X12_isIn : GoodIn vX12_stroke (va_wsS RX12 199 yX12_isIn vX12_isIn) := gS_of wT_28_17 wT_28_18 wT_1_5 wT_28_19
theorem lf12_stroke_88 : Fl vX12_stroke RX12 88 12 55 := ⟨RX12, TX12, 87, rfl, by decide, (fun w h9 => List.mem_cons_of_mem _ (wC_wsX120 w h9)), (List.mem_cons_of_mem _ wT_10_22)⟩
theorem gX12_stroke_X12_beside : GoodIn vX12_stroke (wsV RX12 466 RX12 yX12_beside vX12_beside) := gV_of wT_42_11 wT_42_12 wT_42_13 wT_1_5 wT_42_14
theorem lf12_stroke_97 : Fl vX12_stroke RX12 97 12 58 := ⟨RX12, TX12, 87, rfl, by decide, (fun w h9 => List.mem_cons_of_mem _ (wC_wsX120 w h9)), (List.mem_cons_of_mem _ wT_11_1)⟩
theorem lf12_stroke_100 : Fl vX12_stroke RX12 100 12 59 := ⟨RX12, TX12, 87, rfl, by decide, (fun w h9 => List.mem_cons_of_mem _ (wC_wsX120 w h9)), (List.mem_cons_of_mem _ wT_11_2)⟩
theorem gX12_stroke_X12_remember : GoodIn vX12_stroke (wsV RX12 469 RX12 yX12_remember vX12_remember) := gV_of wT_42_15 wT_42_16 wT_42_17 wT_1_5 wT_42_18
theorem cd12_stroke : Cd yX12_stroke 2 := ⟨by decide, by decide, by decide +kernel⟩
set_option maxHeartbeats 4000000 in
set_option maxRecDepth 100000 in
theorem T12_stroke_0 (S : CallFix p m c cX12_stroke 4 s args vX12_stroke RX12) (hr : meth.sig.returnType = (some .int)) (hlo : meth.locks = false) {out : Int32 × PH} {h : PH} {a0 : Nat} {x1 : Int32} {x2 : Int32} (f : F12_stroke_0  h a0 x1 x2 = some out) {H : Heap} {locs : List Loc} (I : ph_I D cy b A fl h s H locs) {ls : Array Slot} (hl : lv_has ls 4 [(0, .ref (b + a0)), (1, .int x1), (2, .int x2)]) : W p l e ({ frames := 2, cells := 0, slots := 0, locals := 46 } : Room) s m args below meth c H locs 0 0 (MQ below (va_Qi (fun (r : Int32) (u : PH) => (r, u) = out) (ph_B D cy b A fl) A) args s 0 0 A) (F0 m 0 ls []) := by
  unfold F12_stroke_0 at f
  refine lv_aload_n S.1 S.2.1 dX12_stroke_0 rfl (lv_at hl 0 rfl) ?_
  refine lv_iconst (v := 0) S.1 S.2.1 dX12_stroke_1 (by decide) ?_
  obtain ⟨h1, e2, f⟩ := ob f
  refine o_pI S lp12_stroke_154 I e2 dX12_stroke_2 (fun H locs I => ?_)
  refine lv_aload_n S.1 S.2.1 dX12_stroke_5 rfl (lv_at hl 0 rfl) ?_
  refine lv_iload_n S.1 S.2.1 dX12_stroke_6 rfl (lv_at hl 1 rfl) ?_
  obtain ⟨o3, e4, f⟩ := ob f
  refine o_Vi S (As := [.int x1]) (rest := []) (ci := 12) (M12_isSurfer l D cy b A fl e4) gX12_stroke_X12_isSurfer rfl rfl rfl cd12_isSurfer ⟨Nat.le_of_ble_eq_true rfl, Nat.le_of_ble_eq_true rfl⟩ I (gd e4).1 clX12 rfl rfl hl.1 rfl (Nat.le_of_ble_eq_true rfl) dX12_stroke_7 ⟨Nat.le_of_ble_eq_true rfl, Nat.le_of_ble_eq_true rfl⟩ (fun H locs I => ?_)
  refine lv_if_eq (tgt := 22) S.1 S.2.1 dX12_stroke_10 (by decide) (fun q5 => ?_) (fun q5 => ?_)
  · have f := (if_pos q5).symm.trans f
    refine lv_iconst (v := (-1)) S.1 S.2.1 dX12_stroke_22 (by decide) ?_
    exact o_iret S hr hlo I f dX12_stroke_23
  · have f := (if_neg q5).symm.trans f
    refine lv_iload_n S.1 S.2.1 dX12_stroke_13 rfl (lv_at hl 2 rfl) ?_
    refine lv_iconst (v := 0) S.1 S.2.1 dX12_stroke_14 (by decide) ?_
    refine lv_iconst (v := 3) S.1 S.2.1 dX12_stroke_15 (by decide) ?_
    obtain ⟨o6, e7, f⟩ := ob f
    refine o_Si S (As := [.int x2, .int 0, .int 3]) (rest := []) (M12_isIn l D cy b A fl e7) gX12_stroke_X12_isIn rfl rfl rfl cd12_isIn ⟨Nat.le_of_ble_eq_true rfl, Nat.le_of_ble_eq_true rfl⟩ I rfl hl.1 rfl (Nat.le_of_ble_eq_true rfl) dX12_stroke_16 ⟨Nat.le_of_ble_eq_true rfl, Nat.le_of_ble_eq_true rfl⟩ (fun H locs I => ?_)
    refine lv_if_ne (tgt := 24) S.1 S.2.1 dX12_stroke_19 (by decide) (fun q8 => ?_) (fun q8 => ?_)
    · have f := (if_neg q8).symm.trans f
      refine lv_aload_n S.1 S.2.1 dX12_stroke_24 rfl (lv_at hl 0 rfl) ?_
      refine lv_aload_n S.1 S.2.1 dX12_stroke_25 rfl (lv_at hl 0 rfl) ?_
      obtain ⟨r9, e10, f⟩ := ob f
      refine o_gR S lf12_stroke_88 I e10 dX12_stroke_26 ?_
      refine lv_iload_n S.1 S.2.1 dX12_stroke_29 rfl (lv_at hl 1 rfl) ?_
      obtain ⟨v12, e11, f⟩ := ob f
      refine o_iald S I e11 dX12_stroke_30 ?_
      refine lv_iload_n S.1 S.2.1 dX12_stroke_31 rfl (lv_at hl 2 rfl) ?_
      obtain ⟨o13, e14, f⟩ := ob f
      refine o_Vi S (As := [.int v12, .int x2]) (rest := []) (ci := 12) (M12_beside l D cy b A fl e14) gX12_stroke_X12_beside rfl rfl rfl cd12_beside ⟨Nat.le_of_ble_eq_true rfl, Nat.le_of_ble_eq_true rfl⟩ I (gd e14).1 clX12 rfl rfl hl.1 rfl (Nat.le_of_ble_eq_true rfl) dX12_stroke_32 ⟨Nat.le_of_ble_eq_true rfl, Nat.le_of_ble_eq_true rfl⟩ (fun H locs I => ?_)
      refine lv_istore_n (lv' := [(3, .int o13.1), (0, .ref (b + a0)), (1, .int x1), (2, .int x2)]) S.1 S.2.1 dX12_stroke_35 rfl hl (by decide) rfl (fun ls hl => ?_)
      refine lv_iload_n S.1 S.2.1 dX12_stroke_36 rfl (lv_at hl 0 rfl) ?_
      refine lv_if_lt (tgt := 58) S.1 S.2.1 dX12_stroke_37 (by decide) (fun q15 => ?_) (fun q15 => ?_)
      · have f := (if_pos q15).symm.trans f
        refine lv_bipush (v := (-2)) S.1 S.2.1 dX12_stroke_58 (by decide) ?_
        exact o_iret S hr hlo I f dX12_stroke_60
      · have f := (if_neg q15).symm.trans f
        refine lv_aload_n S.1 S.2.1 dX12_stroke_40 rfl (lv_at hl 1 rfl) ?_
        obtain ⟨r16, e17, f⟩ := ob f
        refine o_gR S lf12_stroke_97 I e17 dX12_stroke_41 ?_
        refine lv_iload_n S.1 S.2.1 dX12_stroke_44 rfl (lv_at hl 2 rfl) ?_
        obtain ⟨v19, e18, f⟩ := ob f
        refine o_iald S I e18 dX12_stroke_45 ?_
        refine lv_if_gt (tgt := 58) S.1 S.2.1 dX12_stroke_46 (by decide) (fun q20 => ?_) (fun q20 => ?_)
        · have f := (if_pos q20).symm.trans f
          refine lv_bipush (v := (-2)) S.1 S.2.1 dX12_stroke_58 (by decide) ?_
          exact o_iret S hr hlo I f dX12_stroke_60
        · have f := (if_neg q20).symm.trans f
          refine lv_aload_n S.1 S.2.1 dX12_stroke_49 rfl (lv_at hl 1 rfl) ?_
          obtain ⟨r21, e22, f⟩ := ob f
          refine o_gR S lf12_stroke_100 I e22 dX12_stroke_50 ?_
          refine lv_iload_n S.1 S.2.1 dX12_stroke_53 rfl (lv_at hl 2 rfl) ?_
          obtain ⟨v24, e23, f⟩ := ob f
          refine o_iald S I e23 dX12_stroke_54 ?_
          refine lv_if_ne (tgt := 61) S.1 S.2.1 dX12_stroke_55 (by decide) (fun q25 => ?_) (fun q25 => ?_)
          · have f := (if_neg q25).symm.trans f
            refine lv_aload_n S.1 S.2.1 dX12_stroke_61 rfl (lv_at hl 1 rfl) ?_
            obtain ⟨o26, e27, f⟩ := ob f
            refine o_Vv S (As := []) (rest := []) (ci := 12) (M12_remember l D cy b A fl e27) gX12_stroke_X12_remember rfl rfl rfl cd12_remember ⟨Nat.le_of_ble_eq_true rfl, Nat.le_of_ble_eq_true rfl⟩ I (gd e27).1 clX12 rfl rfl hl.1 rfl (Nat.le_of_ble_eq_true rfl) dX12_stroke_62 ⟨Nat.le_of_ble_eq_true rfl, Nat.le_of_ble_eq_true rfl⟩ (fun H locs I => ?_)
            refine lv_aload_n S.1 S.2.1 dX12_stroke_65 rfl (lv_at hl 1 rfl) ?_
            obtain ⟨r28, e29, f⟩ := ob f
            refine o_gR S lf12_stroke_88 I e29 dX12_stroke_66 ?_
            refine lv_iload_n S.1 S.2.1 dX12_stroke_69 rfl (lv_at hl 2 rfl) ?_
            refine lv_iload_n S.1 S.2.1 dX12_stroke_70 rfl (lv_at hl 0 rfl) ?_
            obtain ⟨h31, e30, f⟩ := ob f
            refine o_iast S I e30 dX12_stroke_71 (fun H locs I => ?_)
            refine lv_aload_n S.1 S.2.1 dX12_stroke_72 rfl (lv_at hl 1 rfl) ?_
            obtain ⟨r32, e33, f⟩ := ob f
            refine o_gR S lf12_stroke_100 I e33 dX12_stroke_73 ?_
            refine lv_iload_n S.1 S.2.1 dX12_stroke_76 rfl (lv_at hl 2 rfl) ?_
            refine lv_dup2_11 S.1 S.2.1 dX12_stroke_77 rfl rfl ?_
            obtain ⟨v35, e34, f⟩ := ob f
            refine o_iald S I e34 dX12_stroke_78 ?_
            refine lv_iconst (v := 1) S.1 S.2.1 dX12_stroke_79 (by decide) ?_
            refine lv_isub S.1 S.2.1 dX12_stroke_80 ?_
            obtain ⟨h37, e36, f⟩ := ob f
            refine o_iast S I e36 dX12_stroke_81 (fun H locs I => ?_)
            refine lv_iload_n S.1 S.2.1 dX12_stroke_82 rfl (lv_at hl 0 rfl) ?_
            exact o_iret S hr hlo I f dX12_stroke_83
          · have f := (if_pos q25).symm.trans f
            refine lv_bipush (v := (-2)) S.1 S.2.1 dX12_stroke_58 (by decide) ?_
            exact o_iret S hr hlo I f dX12_stroke_60
    · have f := (if_pos q8).symm.trans f
      refine lv_iconst (v := (-1)) S.1 S.2.1 dX12_stroke_22 (by decide) ?_
      exact o_iret S hr hlo I f dX12_stroke_23
theorem M12_stroke (l : Launch) (D : va_G) (cy : Nat → ClassId) (b : Nat) (A : Nat → Prop) (fl : Bool) {h : PH} {a0 : Nat} {x1 : Int32} {x2 : Int32} {out : Int32 × PH} (f : F12_stroke h a0 x1 x2 = some out) : Met l yX12_stroke vX12_stroke ({ frames := 2, cells := 0, slots := 0, locals := 46 } : Room) (va_Pc [.ref (b + a0), .int x1, .int x2] (ph_B D cy b A fl h)) (va_Qi (fun (r : Int32) (u : PH) => (r, u) = out) (ph_B D cy b A fl) A) 0 0 A :=
  o_met (by decide) rfl (Nat.le_of_ble_eq_true rfl) rfl (fun p e s m below meth c S hr hlo hnm ls hl I => T12_stroke_0 S hr hlo ((gd f).2) I (lv_sub hl [0, 1, 2] rfl))
def vX12_table : List Cond := .code yX12_table cX12_table 4 (some .int) :: TB
theorem gX12_table_X12_run : GoodIn vX12_table (wsV RX12 515 RX12 yX12_run vX12_run) := gV_of wT_58_5 wT_58_6 wT_58_7 wT_1_5 wT_58_8
theorem gX12_table_X12_unlike : GoodIn vX12_table (wsV RX12 518 RX12 yX12_unlike vX12_unlike) := gV_of wT_58_17 wT_58_18 wT_58_19 wT_1_5 wT_58_20
theorem lf12_table_112 : Fl vX12_table RX12 112 12 63 := ⟨RX12, TX12, 87, rfl, by decide, (fun w h9 => List.mem_cons_of_mem _ (wC_wsX120 w h9)), (List.mem_cons_of_mem _ wT_11_6)⟩
theorem lf12_table_109 : Fl vX12_table RX12 109 12 62 := ⟨RX12, TX12, 87, rfl, by decide, (fun w h9 => List.mem_cons_of_mem _ (wC_wsX120 w h9)), (List.mem_cons_of_mem _ wT_11_5)⟩
theorem lf12_table_91 : Fl vX12_table RX12 91 12 56 := ⟨RX12, TX12, 87, rfl, by decide, (fun w h9 => List.mem_cons_of_mem _ (wC_wsX120 w h9)), (List.mem_cons_of_mem _ wT_10_23)⟩
theorem lp12_table_154 : Pl vX12_table RX12 154 12 2 .int := ⟨RX12, TX12, 87, tyX12, rfl, by decide, (fun w h9 => List.mem_cons_of_mem _ (wC_wsX120 w h9)), (List.mem_cons_of_mem _ wT_13_17), tyX12_ok, nmX12, rfl, rfl⟩
theorem gX12_table_X12_isIn : GoodIn vX12_table (va_wsS RX12 199 yX12_isIn vX12_isIn) := gS_of wT_28_17 wT_28_18 wT_1_5 wT_28_19
theorem lf12_table_247 : Fl vX12_table RX12 247 12 14 := ⟨RX12, TX12, 87, rfl, by decide, (fun w h9 => List.mem_cons_of_mem _ (wC_wsX120 w h9)), (List.mem_cons_of_mem _ wT_12_12)⟩
theorem cd12_table : Cd yX12_table 3 := ⟨by decide, by decide, by decide +kernel⟩
set_option maxHeartbeats 4000000 in
set_option maxRecDepth 100000 in
theorem T12_table_43 (S : CallFix p m c cX12_table 4 s args vX12_table RX12) (hr : meth.sig.returnType = (some .int)) (hlo : meth.locks = false) {out : Int32 × PH} {h : PH} {a0 : Nat} {x1 : Int32} {x2 : Int32} {x3 : Int32} (f : F12_table_43  h a0 x1 x2 x3 = some out) {H : Heap} {locs : List Loc} (I : ph_I D cy b A fl h s H locs) {ls : Array Slot} (hl : lv_has ls 4 [(0, .ref (b + a0)), (1, .int x1), (2, .int x2), (3, .int x3)]) : W p l e ({ frames := 13, cells := 0, slots := 0, locals := 313 } : Room) s m args below meth c H locs 0 0 (MQ below (va_Qi (fun (r : Int32) (u : PH) => (r, u) = out) (ph_B D cy b A fl) A) args s 0 0 A) (F0 m 43 ls []) := by
  unfold F12_table_43 at f
  refine lv_aload_n S.1 S.2.1 dX12_table_43 rfl (lv_at hl 0 rfl) ?_
  refine lv_iload_n S.1 S.2.1 dX12_table_44 rfl (lv_at hl 1 rfl) ?_
  refine lv_iload_n S.1 S.2.1 dX12_table_45 rfl (lv_at hl 2 rfl) ?_
  obtain ⟨o1, e2, f⟩ := ob f
  refine o_Vv S (As := [.int x1, .int x2]) (rest := []) (ci := 12) (M12_run l D cy b A fl e2) gX12_table_X12_run rfl rfl rfl cd12_run ⟨Nat.le_of_ble_eq_true rfl, Nat.le_of_ble_eq_true rfl⟩ I (gd e2).1 clX12 rfl rfl hl.1 rfl (Nat.le_of_ble_eq_true rfl) dX12_table_46 ⟨Nat.le_of_ble_eq_true rfl, Nat.le_of_ble_eq_true rfl⟩ (fun H locs I => ?_)
  refine lv_iload_n S.1 S.2.1 dX12_table_49 rfl (lv_at hl 3 rfl) ?_
  refine lv_iconst (v := 5) S.1 S.2.1 dX12_table_50 (by decide) ?_
  refine lv_icmp_ge (tgt := 65) S.1 S.2.1 dX12_table_51 (by decide) (fun q3 => ?_) (fun q3 => ?_)
  · have f := (if_pos q3).symm.trans f
    refine lv_iload_n S.1 S.2.1 dX12_table_65 rfl (lv_at hl 3 rfl) ?_
    refine lv_iconst (v := 5) S.1 S.2.1 dX12_table_66 (by decide) ?_
    refine lv_icmp_ne (tgt := 79) S.1 S.2.1 dX12_table_67 (by decide) (fun q4 => ?_) (fun q4 => ?_)
    · have f := (if_neg q4).symm.trans f
      refine lv_iload_n S.1 S.2.1 dX12_table_79 rfl (lv_at hl 3 rfl) ?_
      refine lv_bipush (v := 6) S.1 S.2.1 dX12_table_80 (by decide) ?_
      refine lv_icmp_ne (tgt := 94) S.1 S.2.1 dX12_table_82 (by decide) (fun q5 => ?_) (fun q5 => ?_)
      · have f := (if_neg q5).symm.trans f
        refine lv_aload_n S.1 S.2.1 dX12_table_94 rfl (lv_at hl 0 rfl) ?_
        refine lv_iconst (v := 1) S.1 S.2.1 dX12_table_95 (by decide) ?_
        obtain ⟨o6, e7, f⟩ := ob f
        refine o_Vi S (As := [.int 1]) (rest := []) (ci := 12) (M12_unlike l D cy b A fl e7) gX12_table_X12_unlike rfl rfl rfl cd12_unlike ⟨Nat.le_of_ble_eq_true rfl, Nat.le_of_ble_eq_true rfl⟩ I (gd e7).1 clX12 rfl rfl hl.1 rfl (Nat.le_of_ble_eq_true rfl) dX12_table_96 ⟨Nat.le_of_ble_eq_true rfl, Nat.le_of_ble_eq_true rfl⟩ (fun H locs I => ?_)
        exact o_iret S hr hlo I f dX12_table_99
      · have f := (if_pos q5).symm.trans f
        refine lv_aload_n S.1 S.2.1 dX12_table_85 rfl (lv_at hl 0 rfl) ?_
        obtain ⟨r8, e9, f⟩ := ob f
        refine o_gR S lf12_table_112 I e9 dX12_table_86 ?_
        refine lv_iconst (v := 1) S.1 S.2.1 dX12_table_89 (by decide) ?_
        obtain ⟨v11, e10, f⟩ := ob f
        refine o_iald S I e10 dX12_table_90 ?_
        refine lv_goto (tgt := 99) S.1 S.2.1 dX12_table_91 (by decide) ?_
        exact o_iret S hr hlo I f dX12_table_99
    · have f := (if_pos q4).symm.trans f
      refine lv_aload_n S.1 S.2.1 dX12_table_70 rfl (lv_at hl 0 rfl) ?_
      obtain ⟨r12, e13, f⟩ := ob f
      refine o_gR S lf12_table_109 I e13 dX12_table_71 ?_
      refine lv_iconst (v := 1) S.1 S.2.1 dX12_table_74 (by decide) ?_
      obtain ⟨v15, e14, f⟩ := ob f
      refine o_iald S I e14 dX12_table_75 ?_
      refine lv_goto (tgt := 99) S.1 S.2.1 dX12_table_76 (by decide) ?_
      exact o_iret S hr hlo I f dX12_table_99
  · have f := (if_neg q3).symm.trans f
    refine lv_aload_n S.1 S.2.1 dX12_table_54 rfl (lv_at hl 0 rfl) ?_
    obtain ⟨r16, e17, f⟩ := ob f
    refine o_gR S lf12_table_91 I e17 dX12_table_55 ?_
    refine lv_iconst (v := 5) S.1 S.2.1 dX12_table_58 (by decide) ?_
    refine lv_iload_n S.1 S.2.1 dX12_table_59 rfl (lv_at hl 3 rfl) ?_
    refine lv_iadd S.1 S.2.1 dX12_table_60 ?_
    obtain ⟨v19, e18, f⟩ := ob f
    refine o_iald S I e18 dX12_table_61 ?_
    refine lv_goto (tgt := 99) S.1 S.2.1 dX12_table_62 (by decide) ?_
    exact o_iret S hr hlo I f dX12_table_99
set_option maxHeartbeats 4000000 in
set_option maxRecDepth 100000 in
theorem T12_table_0 (S : CallFix p m c cX12_table 4 s args vX12_table RX12) (hr : meth.sig.returnType = (some .int)) (hlo : meth.locks = false) {out : Int32 × PH} {h : PH} {a0 : Nat} {x1 : Int32} {x2 : Int32} {x3 : Int32} (f : F12_table_0  h a0 x1 x2 x3 = some out) {H : Heap} {locs : List Loc} (I : ph_I D cy b A fl h s H locs) {ls : Array Slot} (hl : lv_has ls 4 [(0, .ref (b + a0)), (1, .int x1), (2, .int x2), (3, .int x3)]) : W p l e ({ frames := 13, cells := 0, slots := 0, locals := 313 } : Room) s m args below meth c H locs 0 0 (MQ below (va_Qi (fun (r : Int32) (u : PH) => (r, u) = out) (ph_B D cy b A fl) A) args s 0 0 A) (F0 m 0 ls []) := by
  unfold F12_table_0 at f
  refine lv_aload_n S.1 S.2.1 dX12_table_0 rfl (lv_at hl 0 rfl) ?_
  refine lv_iconst (v := 0) S.1 S.2.1 dX12_table_1 (by decide) ?_
  obtain ⟨h1, e2, f⟩ := ob f
  refine o_pI S lp12_table_154 I e2 dX12_table_2 (fun H locs I => ?_)
  refine lv_iload_n S.1 S.2.1 dX12_table_5 rfl (lv_at hl 1 rfl) ?_
  refine lv_iconst (v := 0) S.1 S.2.1 dX12_table_6 (by decide) ?_
  refine lv_iconst (v := 3) S.1 S.2.1 dX12_table_7 (by decide) ?_
  obtain ⟨o3, e4, f⟩ := ob f
  refine o_Si S (As := [.int x1, .int 0, .int 3]) (rest := []) (M12_isIn l D cy b A fl e4) gX12_table_X12_isIn rfl rfl rfl cd12_isIn ⟨Nat.le_of_ble_eq_true rfl, Nat.le_of_ble_eq_true rfl⟩ I rfl hl.1 rfl (Nat.le_of_ble_eq_true rfl) dX12_table_8 ⟨Nat.le_of_ble_eq_true rfl, Nat.le_of_ble_eq_true rfl⟩ (fun H locs I => ?_)
  refine lv_if_eq (tgt := 41) S.1 S.2.1 dX12_table_11 (by decide) (fun q5 => ?_) (fun q5 => ?_)
  · have f := (if_pos q5).symm.trans f
    refine lv_iconst (v := (-1)) S.1 S.2.1 dX12_table_41 (by decide) ?_
    exact o_iret S hr hlo I f dX12_table_42
  · have f := (if_neg q5).symm.trans f
    refine lv_iload_n S.1 S.2.1 dX12_table_14 rfl (lv_at hl 2 rfl) ?_
    refine lv_if_lt (tgt := 41) S.1 S.2.1 dX12_table_15 (by decide) (fun q6 => ?_) (fun q6 => ?_)
    · have f := (if_pos q6).symm.trans f
      refine lv_iconst (v := (-1)) S.1 S.2.1 dX12_table_41 (by decide) ?_
      exact o_iret S hr hlo I f dX12_table_42
    · have f := (if_neg q6).symm.trans f
      refine lv_iload_n S.1 S.2.1 dX12_table_18 rfl (lv_at hl 3 rfl) ?_
      refine lv_iconst (v := 0) S.1 S.2.1 dX12_table_19 (by decide) ?_
      refine lv_bipush (v := 7) S.1 S.2.1 dX12_table_20 (by decide) ?_
      obtain ⟨o7, e8, f⟩ := ob f
      refine o_Si S (As := [.int x3, .int 0, .int 7]) (rest := []) (M12_isIn l D cy b A fl e8) gX12_table_X12_isIn rfl rfl rfl cd12_isIn ⟨Nat.le_of_ble_eq_true rfl, Nat.le_of_ble_eq_true rfl⟩ I rfl hl.1 rfl (Nat.le_of_ble_eq_true rfl) dX12_table_22 ⟨Nat.le_of_ble_eq_true rfl, Nat.le_of_ble_eq_true rfl⟩ (fun H locs I => ?_)
      refine lv_if_eq (tgt := 41) S.1 S.2.1 dX12_table_25 (by decide) (fun q9 => ?_) (fun q9 => ?_)
      · have f := (if_pos q9).symm.trans f
        refine lv_iconst (v := (-1)) S.1 S.2.1 dX12_table_41 (by decide) ?_
        exact o_iret S hr hlo I f dX12_table_42
      · have f := (if_neg q9).symm.trans f
        refine lv_iload_n S.1 S.2.1 dX12_table_28 rfl (lv_at hl 3 rfl) ?_
        refine lv_iconst (v := 5) S.1 S.2.1 dX12_table_29 (by decide) ?_
        refine lv_icmp_ge (tgt := 43) S.1 S.2.1 dX12_table_30 (by decide) (fun q10 => ?_) (fun q10 => ?_)
        · have f := (if_pos q10).symm.trans f
          exact T12_table_43 S hr hlo  f I (lv_sub hl [0, 1, 2, 3] rfl)
        · have f := (if_neg q10).symm.trans f
          refine lv_iload_n S.1 S.2.1 dX12_table_33 rfl (lv_at hl 3 rfl) ?_
          refine lv_aload_n S.1 S.2.1 dX12_table_34 rfl (lv_at hl 0 rfl) ?_
          obtain ⟨v11, e12, f⟩ := ob f
          refine o_gI S lf12_table_247 I e12 dX12_table_35 ?_
          refine lv_icmp_lt (tgt := 43) S.1 S.2.1 dX12_table_38 (by decide) (fun q13 => ?_) (fun q13 => ?_)
          · have f := (if_pos q13).symm.trans f
            exact T12_table_43 S hr hlo  f I (lv_sub hl [0, 1, 2, 3] rfl)
          · have f := (if_neg q13).symm.trans f
            refine lv_iconst (v := (-1)) S.1 S.2.1 dX12_table_41 (by decide) ?_
            exact o_iret S hr hlo I f dX12_table_42
theorem M12_table (l : Launch) (D : va_G) (cy : Nat → ClassId) (b : Nat) (A : Nat → Prop) (fl : Bool) {h : PH} {a0 : Nat} {x1 : Int32} {x2 : Int32} {x3 : Int32} {out : Int32 × PH} (f : F12_table h a0 x1 x2 x3 = some out) : Met l yX12_table vX12_table ({ frames := 13, cells := 0, slots := 0, locals := 313 } : Room) (va_Pc [.ref (b + a0), .int x1, .int x2, .int x3] (ph_B D cy b A fl h)) (va_Qi (fun (r : Int32) (u : PH) => (r, u) = out) (ph_B D cy b A fl) A) 0 0 A :=
  o_met (by decide) rfl (Nat.le_of_ble_eq_true rfl) rfl (fun p e s m below meth c S hr hlo hnm ls hl I => T12_table_0 S hr hlo ((gd f).2) I (lv_sub hl [0, 1, 2, 3] rfl))
def vX12_text : List Cond := .code yX12_text cX12_text 3 (some .int) :: TB
theorem lf12_text_172 : Fl vX12_text RX12 172 12 8 := ⟨RX12, TX12, 87, rfl, by decide, (fun w h9 => List.mem_cons_of_mem _ (wC_wsX120 w h9)), (List.mem_cons_of_mem _ wT_26_20)⟩
theorem gX12_text_X12_keepText : GoodIn vX12_text (wsV RX12 151 RX12 yX12_keepText vX12_keepText) := gV_of wT_12_6 wT_12_7 wT_12_8 wT_1_5 wT_12_9
theorem gX12_text_X12_lineRead : GoodIn vX12_text (wsV RX12 295 RX12 yX12_lineRead vX12_lineRead) := gV_of wT_28_0 wT_28_1 wT_28_2 wT_1_5 wT_28_3
theorem lp12_text_154 : Pl vX12_text RX12 154 12 2 .int := ⟨RX12, TX12, 87, tyX12, rfl, by decide, (fun w h9 => List.mem_cons_of_mem _ (wC_wsX120 w h9)), (List.mem_cons_of_mem _ wT_13_17), tyX12_ok, nmX12, rfl, rfl⟩
theorem lf12_text_157 : Fl vX12_text RX12 157 12 1 := ⟨RX12, TX12, 87, rfl, by decide, (fun w h9 => List.mem_cons_of_mem _ (wC_wsX120 w h9)), (List.mem_cons_of_mem _ wT_13_18)⟩
theorem lp12_text_166 : Pl vX12_text RX12 166 12 6 .int := ⟨RX12, TX12, 87, tyX12, rfl, by decide, (fun w h9 => List.mem_cons_of_mem _ (wC_wsX120 w h9)), (List.mem_cons_of_mem _ wT_26_17), tyX12_ok, nmX12, rfl, rfl⟩
theorem lp12_text_157 : Pl vX12_text RX12 157 12 1 .int := ⟨RX12, TX12, 87, tyX12, rfl, by decide, (fun w h9 => List.mem_cons_of_mem _ (wC_wsX120 w h9)), (List.mem_cons_of_mem _ wT_13_18), tyX12_ok, nmX12, rfl, rfl⟩
theorem lp12_text_160 : Pl vX12_text RX12 160 12 4 .int := ⟨RX12, TX12, 87, tyX12, rfl, by decide, (fun w h9 => List.mem_cons_of_mem _ (wC_wsX120 w h9)), (List.mem_cons_of_mem _ wT_26_18), tyX12_ok, nmX12, rfl, rfl⟩
theorem lp12_text_16 : Pl vX12_text RX12 16 12 5 .int := ⟨RX12, TX12, 87, tyX12, rfl, by decide, (fun w h9 => List.mem_cons_of_mem _ (wC_wsX120 w h9)), (List.mem_cons_of_mem _ wT_9_23), tyX12_ok, nmX12, rfl, rfl⟩
theorem lp12_text_169 : Pl vX12_text RX12 169 12 7 .int := ⟨RX12, TX12, 87, tyX12, rfl, by decide, (fun w h9 => List.mem_cons_of_mem _ (wC_wsX120 w h9)), (List.mem_cons_of_mem _ wT_26_19), tyX12_ok, nmX12, rfl, rfl⟩
theorem gX12_text_X12_plain : GoodIn vX12_text (wsV RX12 148 RX12 yX12_plain vX12_plain) := gV_of wT_11_18 wT_11_19 wT_11_20 wT_1_5 wT_11_21
theorem gX12_text_X12_token : GoodIn vX12_text (wsV RX12 206 RX12 yX12_token vX12_token) := gV_of wT_26_21 wT_26_22 wT_26_23 wT_1_5 wT_27_0
theorem cd12_text : Cd yX12_text 1 := ⟨by decide, by decide, by decide +kernel⟩
set_option maxHeartbeats 4000000 in
set_option maxRecDepth 100000 in
theorem T12_text_55 (S : CallFix p m c cX12_text 3 s args vX12_text RX12) (hr : meth.sig.returnType = (some .int)) (hlo : meth.locks = false) {out : Int32 × PH} : ∀ (n : Nat) {h : PH} {a0 : Nat} {x2 : Int32} (f : F12_text_55  n h a0 x2 = some out) {H : Heap} {locs : List Loc} (I : ph_I D cy b A fl h s H locs) {ls : Array Slot} (hl : lv_has ls 3 [(0, .ref (b + a0)), (2, .int x2)]), W p l e ({ frames := 6, cells := 0, slots := 0, locals := 132 } : Room) s m args below meth c H locs 0 0 (MQ below (va_Qi (fun (r : Int32) (u : PH) => (r, u) = out) (ph_B D cy b A fl) A) args s 0 0 A) (F0 m 55 ls []) := by
  intro n
  induction n with
  | zero => intro h a0 x2 f; rw [F12_text_55] at f; cases f
  | succ n ih =>
    intro h a0 x2 f H locs I ls hl
    rw [F12_text_55] at f
    refine lv_aload_n S.1 S.2.1 dX12_text_55 rfl (lv_at hl 0 rfl) ?_
    obtain ⟨v1, e2, f⟩ := ob f
    refine o_gI S lf12_text_172 I e2 dX12_text_56 ?_
    refine lv_if_eq (tgt := 77) S.1 S.2.1 dX12_text_59 (by decide) (fun q3 => ?_) (fun q3 => ?_)
    · have f := (if_pos q3).symm.trans f
      refine lv_aload_n S.1 S.2.1 dX12_text_77 rfl (lv_at hl 0 rfl) ?_
      obtain ⟨o4, e5, f⟩ := ob f
      refine o_Vv S (As := []) (rest := []) (ci := 12) (M12_keepText l D cy b A fl e5) gX12_text_X12_keepText rfl rfl rfl cd12_keepText ⟨Nat.le_of_ble_eq_true rfl, Nat.le_of_ble_eq_true rfl⟩ I (gd e5).1 clX12 rfl rfl hl.1 rfl (Nat.le_of_ble_eq_true rfl) dX12_text_78 ⟨Nat.le_of_ble_eq_true rfl, Nat.le_of_ble_eq_true rfl⟩ (fun H locs I => ?_)
      refine lv_iload_n S.1 S.2.1 dX12_text_81 rfl (lv_at hl 1 rfl) ?_
      exact o_iret S hr hlo I f dX12_text_82
    · have f := (if_neg q3).symm.trans f
      refine lv_aload_n S.1 S.2.1 dX12_text_62 rfl (lv_at hl 0 rfl) ?_
      obtain ⟨o6, e7, f⟩ := ob f
      refine o_Vi S (As := []) (rest := []) (ci := 12) (M12_lineRead l D cy b A fl e7) gX12_text_X12_lineRead rfl rfl rfl cd12_lineRead ⟨Nat.le_of_ble_eq_true rfl, Nat.le_of_ble_eq_true rfl⟩ I (gd e7).1 clX12 rfl rfl hl.1 rfl (Nat.le_of_ble_eq_true rfl) dX12_text_63 ⟨Nat.le_of_ble_eq_true rfl, Nat.le_of_ble_eq_true rfl⟩ (fun H locs I => ?_)
      refine lv_if_ne (tgt := 71) S.1 S.2.1 dX12_text_66 (by decide) (fun q8 => ?_) (fun q8 => ?_)
      · have f := (if_neg q8).symm.trans f
        refine lv_iinc (v := (x2 + 1)) (lv' := [(2, .int (x2 + 1)), (0, .ref (b + a0))]) S.1 S.2.1 dX12_text_71 hl (k := 1) rfl (congrArg (fun z => x2 + z) (by decide)) (by decide) rfl (fun ls hl => ?_)
        refine lv_goto (tgt := 55) S.1 S.2.1 dX12_text_74 (by decide) ?_
        exact ih f I (lv_sub hl [1, 0] rfl)
      · have f := (if_pos q8).symm.trans f
        refine lv_iconst (v := (-1)) S.1 S.2.1 dX12_text_69 (by decide) ?_
        exact o_iret S hr hlo I f dX12_text_70
set_option maxHeartbeats 4000000 in
set_option maxRecDepth 100000 in
theorem T12_text_0 (S : CallFix p m c cX12_text 3 s args vX12_text RX12) (hr : meth.sig.returnType = (some .int)) (hlo : meth.locks = false) {out : Int32 × PH} {h : PH} {a0 : Nat} {x1 : Int32} (f : F12_text_0  h a0 x1 = some out) {H : Heap} {locs : List Loc} (I : ph_I D cy b A fl h s H locs) {ls : Array Slot} (hl : lv_has ls 3 [(0, .ref (b + a0)), (1, .int x1)]) : W p l e ({ frames := 6, cells := 0, slots := 0, locals := 132 } : Room) s m args below meth c H locs 0 0 (MQ below (va_Qi (fun (r : Int32) (u : PH) => (r, u) = out) (ph_B D cy b A fl) A) args s 0 0 A) (F0 m 0 ls []) := by
  unfold F12_text_0 at f
  refine lv_aload_n S.1 S.2.1 dX12_text_0 rfl (lv_at hl 0 rfl) ?_
  refine lv_iconst (v := 0) S.1 S.2.1 dX12_text_1 (by decide) ?_
  obtain ⟨h1, e2, f⟩ := ob f
  refine o_pI S lp12_text_154 I e2 dX12_text_2 (fun H locs I => ?_)
  refine lv_iload_n S.1 S.2.1 dX12_text_5 rfl (lv_at hl 1 rfl) ?_
  refine lv_if_lt (tgt := 17) S.1 S.2.1 dX12_text_6 (by decide) (fun q3 => ?_) (fun q3 => ?_)
  · have f := (if_pos q3).symm.trans f
    refine lv_bipush (v := (-2)) S.1 S.2.1 dX12_text_17 (by decide) ?_
    exact o_iret S hr hlo I f dX12_text_19
  · have f := (if_neg q3).symm.trans f
    refine lv_iload_n S.1 S.2.1 dX12_text_9 rfl (lv_at hl 1 rfl) ?_
    refine lv_aload_n S.1 S.2.1 dX12_text_10 rfl (lv_at hl 0 rfl) ?_
    obtain ⟨v4, e5, f⟩ := ob f
    refine o_gI S lf12_text_157 I e5 dX12_text_11 ?_
    refine lv_icmp_le (tgt := 20) S.1 S.2.1 dX12_text_14 (by decide) (fun q6 => ?_) (fun q6 => ?_)
    · have f := (if_pos q6).symm.trans f
      refine lv_aload_n S.1 S.2.1 dX12_text_20 rfl (lv_at hl 0 rfl) ?_
      refine lv_iload_n S.1 S.2.1 dX12_text_21 rfl (lv_at hl 1 rfl) ?_
      obtain ⟨h7, e8, f⟩ := ob f
      refine o_pI S lp12_text_166 I e8 dX12_text_22 (fun H locs I => ?_)
      refine lv_aload_n S.1 S.2.1 dX12_text_25 rfl (lv_at hl 0 rfl) ?_
      refine lv_iconst (v := 0) S.1 S.2.1 dX12_text_26 (by decide) ?_
      obtain ⟨h9, e10, f⟩ := ob f
      refine o_pI S lp12_text_157 I e10 dX12_text_27 (fun H locs I => ?_)
      refine lv_aload_n S.1 S.2.1 dX12_text_30 rfl (lv_at hl 0 rfl) ?_
      refine lv_iconst (v := 0) S.1 S.2.1 dX12_text_31 (by decide) ?_
      obtain ⟨h11, e12, f⟩ := ob f
      refine o_pI S lp12_text_160 I e12 dX12_text_32 (fun H locs I => ?_)
      refine lv_aload_n S.1 S.2.1 dX12_text_35 rfl (lv_at hl 0 rfl) ?_
      refine lv_iconst (v := (-1)) S.1 S.2.1 dX12_text_36 (by decide) ?_
      obtain ⟨h13, e14, f⟩ := ob f
      refine o_pI S lp12_text_16 I e14 dX12_text_37 (fun H locs I => ?_)
      refine lv_aload_n S.1 S.2.1 dX12_text_40 rfl (lv_at hl 0 rfl) ?_
      refine lv_iconst (v := 0) S.1 S.2.1 dX12_text_41 (by decide) ?_
      obtain ⟨h15, e16, f⟩ := ob f
      refine o_pI S lp12_text_169 I e16 dX12_text_42 (fun H locs I => ?_)
      refine lv_aload_n S.1 S.2.1 dX12_text_45 rfl (lv_at hl 0 rfl) ?_
      obtain ⟨o17, e18, f⟩ := ob f
      refine o_Vv S (As := []) (rest := []) (ci := 12) (M12_plain l D cy b A fl e18) gX12_text_X12_plain rfl rfl rfl cd12_plain ⟨Nat.le_of_ble_eq_true rfl, Nat.le_of_ble_eq_true rfl⟩ I (gd e18).1 clX12 rfl rfl hl.1 rfl (Nat.le_of_ble_eq_true rfl) dX12_text_46 ⟨Nat.le_of_ble_eq_true rfl, Nat.le_of_ble_eq_true rfl⟩ (fun H locs I => ?_)
      refine lv_aload_n S.1 S.2.1 dX12_text_49 rfl (lv_at hl 0 rfl) ?_
      obtain ⟨o19, e20, f⟩ := ob f
      refine o_Vv S (As := []) (rest := []) (ci := 12) (M12_token l D cy b A fl e20) gX12_text_X12_token rfl rfl rfl cd12_token ⟨Nat.le_of_ble_eq_true rfl, Nat.le_of_ble_eq_true rfl⟩ I (gd e20).1 clX12 rfl rfl hl.1 rfl (Nat.le_of_ble_eq_true rfl) dX12_text_50 ⟨Nat.le_of_ble_eq_true rfl, Nat.le_of_ble_eq_true rfl⟩ (fun H locs I => ?_)
      refine lv_iconst (v := 0) S.1 S.2.1 dX12_text_53 (by decide) ?_
      refine lv_istore_n (lv' := [(2, .int 0), (0, .ref (b + a0)), (1, .int x1)]) S.1 S.2.1 dX12_text_54 rfl hl (by decide) rfl (fun ls hl => ?_)
      exact T12_text_55 S hr hlo  1024 f I (lv_sub hl [1, 0] rfl)
    · have f := (if_neg q6).symm.trans f
      refine lv_bipush (v := (-2)) S.1 S.2.1 dX12_text_17 (by decide) ?_
      exact o_iret S hr hlo I f dX12_text_19
theorem M12_text (l : Launch) (D : va_G) (cy : Nat → ClassId) (b : Nat) (A : Nat → Prop) (fl : Bool) {h : PH} {a0 : Nat} {x1 : Int32} {out : Int32 × PH} (f : F12_text h a0 x1 = some out) : Met l yX12_text vX12_text ({ frames := 6, cells := 0, slots := 0, locals := 132 } : Room) (va_Pc [.ref (b + a0), .int x1] (ph_B D cy b A fl h)) (va_Qi (fun (r : Int32) (u : PH) => (r, u) = out) (ph_B D cy b A fl) A) 0 0 A :=
  o_met (by decide) rfl (Nat.le_of_ble_eq_true rfl) rfl (fun p e s m below meth c S hr hlo hnm ls hl I => T12_text_0 S hr hlo ((gd f).2) I (lv_sub hl [0, 1] rfl))
def vX12_tried : List Cond := .code yX12_tried cX12_tried 7 (some .int) :: TB
theorem lf12_tried_369 : Fl vX12_tried RX12 369 12 64 := ⟨RX12, TX12, 87, rfl, by decide, (fun w h9 => List.mem_cons_of_mem _ (wC_wsX120 w h9)), (List.mem_cons_of_mem _ wT_12_23)⟩
theorem gX12_tried_X12_goesOn : GoodIn vX12_tried (wsV RX12 512 RX12 yX12_goesOn vX12_goesOn) := gV_of wT_58_13 wT_58_14 wT_58_15 wT_1_5 wT_58_16
theorem lp12_tried_115 : Pl vX12_tried RX12 115 12 66 .int := ⟨RX12, TX12, 87, tyX12, rfl, by decide, (fun w h9 => List.mem_cons_of_mem _ (wC_wsX120 w h9)), (List.mem_cons_of_mem _ wT_11_7), tyX12_ok, nmX12, rfl, rfl⟩
theorem lp12_tried_372 : Pl vX12_tried RX12 372 12 65 .long := ⟨RX12, TX12, 87, tyX12, rfl, by decide, (fun w h9 => List.mem_cons_of_mem _ (wC_wsX120 w h9)), (List.mem_cons_of_mem _ wT_13_0), tyX12_ok, nmX12, rfl, rfl⟩
theorem gX12_tried_X12_allHad : GoodIn vX12_tried (wsV RX12 521 RX12 yX12_allHad vX12_allHad) := gV_of wT_61_5 wT_61_6 wT_61_7 wT_1_5 wT_61_8
theorem lf12_tried_247 : Fl vX12_tried RX12 247 12 14 := ⟨RX12, TX12, 87, rfl, by decide, (fun w h9 => List.mem_cons_of_mem _ (wC_wsX120 w h9)), (List.mem_cons_of_mem _ wT_12_12)⟩
theorem lf12_tried_88 : Fl vX12_tried RX12 88 12 55 := ⟨RX12, TX12, 87, rfl, by decide, (fun w h9 => List.mem_cons_of_mem _ (wC_wsX120 w h9)), (List.mem_cons_of_mem _ wT_10_22)⟩
theorem lf12_tried_372 : Fl vX12_tried RX12 372 12 65 := ⟨RX12, TX12, 87, rfl, by decide, (fun w h9 => List.mem_cons_of_mem _ (wC_wsX120 w h9)), (List.mem_cons_of_mem _ wT_13_0)⟩
theorem gX12_tried_X12_layTried : GoodIn vX12_tried (wsV RX12 509 RX12 yX12_layTried vX12_layTried) := gV_of wT_58_9 wT_58_10 wT_58_11 wT_1_5 wT_58_12
theorem lp12_tried_430 : Pl vX12_tried RX12 430 12 67 .int := ⟨RX12, TX12, 87, tyX12, rfl, by decide, (fun w h9 => List.mem_cons_of_mem _ (wC_wsX120 w h9)), (List.mem_cons_of_mem _ wT_47_6), tyX12_ok, nmX12, rfl, rfl⟩
theorem gX12_tried_X12_isSurfer : GoodIn vX12_tried (wsV RX12 413 RX12 yX12_isSurfer vX12_isSurfer) := gV_of wT_34_14 wT_34_15 wT_34_16 wT_1_5 wT_34_17
theorem lp12_tried_154 : Pl vX12_tried RX12 154 12 2 .int := ⟨RX12, TX12, 87, tyX12, rfl, by decide, (fun w h9 => List.mem_cons_of_mem _ (wC_wsX120 w h9)), (List.mem_cons_of_mem _ wT_13_17), tyX12_ok, nmX12, rfl, rfl⟩
theorem gX12_tried_X12_isIn : GoodIn vX12_tried (va_wsS RX12 199 yX12_isIn vX12_isIn) := gS_of wT_28_17 wT_28_18 wT_1_5 wT_28_19
theorem cd12_tried : Cd yX12_tried 3 := ⟨by decide, by decide, by decide +kernel⟩
set_option maxHeartbeats 4000000 in
set_option maxRecDepth 100000 in
theorem T12_tried_111 (S : CallFix p m c cX12_tried 7 s args vX12_tried RX12) (hr : meth.sig.returnType = (some .int)) (hlo : meth.locks = false) {out : Int32 × PH} {h : PH} {a0 : Nat} {j4 : Int64} (f : F12_tried_111  h a0 j4 = some out) {H : Heap} {locs : List Loc} (I : ph_I D cy b A fl h s H locs) {ls : Array Slot} (hl : lv_has ls 7 [(0, .ref (b + a0)), (4, .long j4)]) : W p l e ({ frames := 12, cells := 0, slots := 0, locals := 289 } : Room) s m args below meth c H locs 0 0 (MQ below (va_Qi (fun (r : Int32) (u : PH) => (r, u) = out) (ph_B D cy b A fl) A) args s 0 0 A) (F0 m 111 ls []) := by
  unfold F12_tried_111 at f
  refine lv_aload_n S.1 S.2.1 dX12_tried_111 rfl (lv_at hl 0 rfl) ?_
  refine lv_aload_n S.1 S.2.1 dX12_tried_112 rfl (lv_at hl 0 rfl) ?_
  obtain ⟨v1, e2, f⟩ := ob f
  refine o_gI S lf12_tried_369 I e2 dX12_tried_113 ?_
  obtain ⟨o3, e4, f⟩ := ob f
  refine o_Vv S (As := [.int v1]) (rest := []) (ci := 12) (M12_goesOn l D cy b A fl e4) gX12_tried_X12_goesOn rfl rfl rfl cd12_goesOn ⟨Nat.le_of_ble_eq_true rfl, Nat.le_of_ble_eq_true rfl⟩ I (gd e4).1 clX12 rfl rfl hl.1 rfl (Nat.le_of_ble_eq_true rfl) dX12_tried_116 ⟨Nat.le_of_ble_eq_true rfl, Nat.le_of_ble_eq_true rfl⟩ (fun H locs I => ?_)
  refine lv_aload_n S.1 S.2.1 dX12_tried_119 rfl (lv_at hl 0 rfl) ?_
  refine lv_iconst (v := (-1)) S.1 S.2.1 dX12_tried_120 (by decide) ?_
  obtain ⟨h5, e6, f⟩ := ob f
  refine o_pI S lp12_tried_115 I e6 dX12_tried_121 (fun H locs I => ?_)
  refine lv_aload_n S.1 S.2.1 dX12_tried_124 rfl (lv_at hl 0 rfl) ?_
  refine lv_lload S.1 S.2.1 dX12_tried_125 (lv_at hl 1 rfl) ?_
  obtain ⟨h7, e8, f⟩ := ob f
  refine o_pJ S lp12_tried_372 I e8 dX12_tried_127 (fun H locs I => ?_)
  refine lv_aload_n S.1 S.2.1 dX12_tried_130 rfl (lv_at hl 0 rfl) ?_
  refine lv_iconst (v := 1) S.1 S.2.1 dX12_tried_131 (by decide) ?_
  obtain ⟨o9, e10, f⟩ := ob f
  refine o_Vi S (As := [.int 1]) (rest := []) (ci := 12) (M12_allHad l D cy b A fl e10) gX12_tried_X12_allHad rfl rfl rfl cd12_allHad ⟨Nat.le_of_ble_eq_true rfl, Nat.le_of_ble_eq_true rfl⟩ I (gd e10).1 clX12 rfl rfl hl.1 rfl (Nat.le_of_ble_eq_true rfl) dX12_tried_132 ⟨Nat.le_of_ble_eq_true rfl, Nat.le_of_ble_eq_true rfl⟩ (fun H locs I => ?_)
  exact o_iret S hr hlo I f dX12_tried_135
set_option maxHeartbeats 4000000 in
set_option maxRecDepth 100000 in
theorem T12_tried_76 (S : CallFix p m c cX12_tried 7 s args vX12_tried RX12) (hr : meth.sig.returnType = (some .int)) (hlo : meth.locks = false) {out : Int32 × PH} : ∀ (n : Nat) {h : PH} {a0 : Nat} {x1 : Int32} {x2 : Int32} {j4 : Int64} {x6 : Int32} (f : F12_tried_76  n h a0 x1 x2 j4 x6 = some out) {H : Heap} {locs : List Loc} (I : ph_I D cy b A fl h s H locs) {ls : Array Slot} (hl : lv_has ls 7 [(0, .ref (b + a0)), (1, .int x1), (2, .int x2), (4, .long j4), (6, .int x6)]), W p l e ({ frames := 12, cells := 0, slots := 0, locals := 289 } : Room) s m args below meth c H locs 0 0 (MQ below (va_Qi (fun (r : Int32) (u : PH) => (r, u) = out) (ph_B D cy b A fl) A) args s 0 0 A) (F0 m 76 ls []) := by
  intro n
  induction n with
  | zero => intro h a0 x1 x2 j4 x6 f; rw [F12_tried_76] at f; cases f
  | succ n ih =>
    intro h a0 x1 x2 j4 x6 f H locs I ls hl
    rw [F12_tried_76] at f
    refine lv_iload S.1 S.2.1 dX12_tried_76 (lv_at hl 4 rfl) ?_
    refine lv_aload_n S.1 S.2.1 dX12_tried_78 rfl (lv_at hl 0 rfl) ?_
    obtain ⟨v1, e2, f⟩ := ob f
    refine o_gI S lf12_tried_247 I e2 dX12_tried_79 ?_
    refine lv_icmp_ge (tgt := 111) S.1 S.2.1 dX12_tried_82 (by decide) (fun q3 => ?_) (fun q3 => ?_)
    · have f := (if_pos q3).symm.trans f
      exact T12_tried_111 S hr hlo  f I (lv_sub hl [0, 3] rfl)
    · have f := (if_neg q3).symm.trans f
      refine lv_iload_n S.1 S.2.1 dX12_tried_85 rfl (lv_at hl 1 rfl) ?_
      refine lv_iconst (v := 4) S.1 S.2.1 dX12_tried_86 (by decide) ?_
      refine lv_icmp_ne (tgt := 111) S.1 S.2.1 dX12_tried_87 (by decide) (fun q4 => ?_) (fun q4 => ?_)
      · have f := (if_neg q4).symm.trans f
        exact T12_tried_111 S hr hlo  f I (lv_sub hl [0, 3] rfl)
      · have f := (if_pos q4).symm.trans f
        refine lv_aload_n S.1 S.2.1 dX12_tried_90 rfl (lv_at hl 0 rfl) ?_
        obtain ⟨r5, e6, f⟩ := ob f
        refine o_gR S lf12_tried_88 I e6 dX12_tried_91 ?_
        refine lv_iconst (v := 5) S.1 S.2.1 dX12_tried_94 (by decide) ?_
        refine lv_iload S.1 S.2.1 dX12_tried_95 (lv_at hl 4 rfl) ?_
        refine lv_iadd S.1 S.2.1 dX12_tried_97 ?_
        refine lv_aload_n S.1 S.2.1 dX12_tried_98 rfl (lv_at hl 0 rfl) ?_
        obtain ⟨r7, e8, f⟩ := ob f
        refine o_gR S lf12_tried_88 I e8 dX12_tried_99 ?_
        refine lv_iload_n S.1 S.2.1 dX12_tried_102 rfl (lv_at hl 2 rfl) ?_
        obtain ⟨v10, e9, f⟩ := ob f
        refine o_iald S I e9 dX12_tried_103 ?_
        obtain ⟨h12, e11, f⟩ := ob f
        refine o_iast S I e11 dX12_tried_104 (fun H locs I => ?_)
        refine lv_iinc (v := (x6 + 1)) (lv' := [(6, .int (x6 + 1)), (0, .ref (b + a0)), (1, .int x1), (2, .int x2), (4, .long j4)]) S.1 S.2.1 dX12_tried_105 hl (k := 4) rfl (congrArg (fun z => x6 + z) (by decide)) (by decide) rfl (fun ls hl => ?_)
        refine lv_goto (tgt := 76) S.1 S.2.1 dX12_tried_108 (by decide) ?_
        exact ih f I (lv_sub hl [1, 2, 3, 4, 0] rfl)
set_option maxHeartbeats 4000000 in
set_option maxRecDepth 100000 in
theorem T12_tried_47 (S : CallFix p m c cX12_tried 7 s args vX12_tried RX12) (hr : meth.sig.returnType = (some .int)) (hlo : meth.locks = false) {out : Int32 × PH} {h : PH} {a0 : Nat} {x1 : Int32} {x2 : Int32} {x3 : Int32} (f : F12_tried_47  h a0 x1 x2 x3 = some out) {H : Heap} {locs : List Loc} (I : ph_I D cy b A fl h s H locs) {ls : Array Slot} (hl : lv_has ls 7 [(0, .ref (b + a0)), (1, .int x1), (2, .int x2), (3, .int x3)]) : W p l e ({ frames := 12, cells := 0, slots := 0, locals := 289 } : Room) s m args below meth c H locs 0 0 (MQ below (va_Qi (fun (r : Int32) (u : PH) => (r, u) = out) (ph_B D cy b A fl) A) args s 0 0 A) (F0 m 47 ls []) := by
  unfold F12_tried_47 at f
  refine lv_aload_n S.1 S.2.1 dX12_tried_47 rfl (lv_at hl 0 rfl) ?_
  obtain ⟨w1, e2, f⟩ := ob f
  refine o_gJ S lf12_tried_372 I e2 dX12_tried_48 ?_
  refine lv_lstore (lv' := [(4, .long w1), (0, .ref (b + a0)), (1, .int x1), (2, .int x2), (3, .int x3)]) S.1 S.2.1 dX12_tried_51 hl (by decide) rfl (fun ls hl => ?_)
  refine lv_aload_n S.1 S.2.1 dX12_tried_53 rfl (lv_at hl 1 rfl) ?_
  refine lv_iload_n S.1 S.2.1 dX12_tried_54 rfl (lv_at hl 4 rfl) ?_
  refine lv_i2l (v := Int32.toInt64 x3) S.1 S.2.1 dX12_tried_55 rfl ?_
  obtain ⟨h3, e4, f⟩ := ob f
  refine o_pJ S lp12_tried_372 I e4 dX12_tried_56 (fun H locs I => ?_)
  refine lv_aload_n S.1 S.2.1 dX12_tried_59 rfl (lv_at hl 1 rfl) ?_
  obtain ⟨o5, e6, f⟩ := ob f
  refine o_Vv S (As := []) (rest := []) (ci := 12) (M12_layTried l D cy b A fl e6) gX12_tried_X12_layTried rfl rfl rfl cd12_layTried ⟨Nat.le_of_ble_eq_true rfl, Nat.le_of_ble_eq_true rfl⟩ I (gd e6).1 clX12 rfl rfl hl.1 rfl (Nat.le_of_ble_eq_true rfl) dX12_tried_60 ⟨Nat.le_of_ble_eq_true rfl, Nat.le_of_ble_eq_true rfl⟩ (fun H locs I => ?_)
  refine lv_aload_n S.1 S.2.1 dX12_tried_63 rfl (lv_at hl 1 rfl) ?_
  refine lv_iload_n S.1 S.2.1 dX12_tried_64 rfl (lv_at hl 2 rfl) ?_
  obtain ⟨h7, e8, f⟩ := ob f
  refine o_pI S lp12_tried_115 I e8 dX12_tried_65 (fun H locs I => ?_)
  refine lv_aload_n S.1 S.2.1 dX12_tried_68 rfl (lv_at hl 1 rfl) ?_
  refine lv_iload_n S.1 S.2.1 dX12_tried_69 rfl (lv_at hl 3 rfl) ?_
  obtain ⟨h9, e10, f⟩ := ob f
  refine o_pI S lp12_tried_430 I e10 dX12_tried_70 (fun H locs I => ?_)
  refine lv_iconst (v := 0) S.1 S.2.1 dX12_tried_73 (by decide) ?_
  refine lv_istore (lv' := [(6, .int 0), (4, .long w1), (0, .ref (b + a0)), (1, .int x1), (2, .int x2), (3, .int x3)]) S.1 S.2.1 dX12_tried_74 hl (by decide) rfl (fun ls hl => ?_)
  exact T12_tried_76 S hr hlo  1024 f I (lv_sub hl [2, 3, 4, 1, 0] rfl)
set_option maxHeartbeats 4000000 in
set_option maxRecDepth 100000 in
theorem T12_tried_30 (S : CallFix p m c cX12_tried 7 s args vX12_tried RX12) (hr : meth.sig.returnType = (some .int)) (hlo : meth.locks = false) {out : Int32 × PH} {h : PH} {a0 : Nat} {x1 : Int32} {x2 : Int32} {x3 : Int32} (f : F12_tried_30  h a0 x1 x2 x3 = some out) {H : Heap} {locs : List Loc} (I : ph_I D cy b A fl h s H locs) {ls : Array Slot} (hl : lv_has ls 7 [(0, .ref (b + a0)), (1, .int x1), (2, .int x2), (3, .int x3)]) : W p l e ({ frames := 12, cells := 0, slots := 0, locals := 289 } : Room) s m args below meth c H locs 0 0 (MQ below (va_Qi (fun (r : Int32) (u : PH) => (r, u) = out) (ph_B D cy b A fl) A) args s 0 0 A) (F0 m 30 ls []) := by
  unfold F12_tried_30 at f
  refine lv_aload_n S.1 S.2.1 dX12_tried_30 rfl (lv_at hl 0 rfl) ?_
  refine lv_iload_n S.1 S.2.1 dX12_tried_31 rfl (lv_at hl 2 rfl) ?_
  obtain ⟨o1, e2, f⟩ := ob f
  refine o_Vi S (As := [.int x2]) (rest := []) (ci := 12) (M12_isSurfer l D cy b A fl e2) gX12_tried_X12_isSurfer rfl rfl rfl cd12_isSurfer ⟨Nat.le_of_ble_eq_true rfl, Nat.le_of_ble_eq_true rfl⟩ I (gd e2).1 clX12 rfl rfl hl.1 rfl (Nat.le_of_ble_eq_true rfl) dX12_tried_32 ⟨Nat.le_of_ble_eq_true rfl, Nat.le_of_ble_eq_true rfl⟩ (fun H locs I => ?_)
  refine lv_if_ne (tgt := 47) S.1 S.2.1 dX12_tried_35 (by decide) (fun q3 => ?_) (fun q3 => ?_)
  · have f := (if_neg q3).symm.trans f
    exact T12_tried_47 S hr hlo  f I (lv_sub hl [0, 1, 2, 3] rfl)
  · have f := (if_pos q3).symm.trans f
    refine lv_goto (tgt := 45) S.1 S.2.1 dX12_tried_38 (by decide) ?_
    refine lv_iconst (v := (-1)) S.1 S.2.1 dX12_tried_45 (by decide) ?_
    exact o_iret S hr hlo I f dX12_tried_46
set_option maxHeartbeats 4000000 in
set_option maxRecDepth 100000 in
theorem T12_tried_0 (S : CallFix p m c cX12_tried 7 s args vX12_tried RX12) (hr : meth.sig.returnType = (some .int)) (hlo : meth.locks = false) {out : Int32 × PH} {h : PH} {a0 : Nat} {x1 : Int32} {x2 : Int32} {x3 : Int32} (f : F12_tried_0  h a0 x1 x2 x3 = some out) {H : Heap} {locs : List Loc} (I : ph_I D cy b A fl h s H locs) {ls : Array Slot} (hl : lv_has ls 7 [(0, .ref (b + a0)), (1, .int x1), (2, .int x2), (3, .int x3)]) : W p l e ({ frames := 12, cells := 0, slots := 0, locals := 289 } : Room) s m args below meth c H locs 0 0 (MQ below (va_Qi (fun (r : Int32) (u : PH) => (r, u) = out) (ph_B D cy b A fl) A) args s 0 0 A) (F0 m 0 ls []) := by
  unfold F12_tried_0 at f
  refine lv_aload_n S.1 S.2.1 dX12_tried_0 rfl (lv_at hl 0 rfl) ?_
  refine lv_iconst (v := 0) S.1 S.2.1 dX12_tried_1 (by decide) ?_
  obtain ⟨h1, e2, f⟩ := ob f
  refine o_pI S lp12_tried_154 I e2 dX12_tried_2 (fun H locs I => ?_)
  refine lv_iload_n S.1 S.2.1 dX12_tried_5 rfl (lv_at hl 1 rfl) ?_
  refine lv_iconst (v := 0) S.1 S.2.1 dX12_tried_6 (by decide) ?_
  refine lv_iconst (v := 4) S.1 S.2.1 dX12_tried_7 (by decide) ?_
  obtain ⟨o3, e4, f⟩ := ob f
  refine o_Si S (As := [.int x1, .int 0, .int 4]) (rest := []) (M12_isIn l D cy b A fl e4) gX12_tried_X12_isIn rfl rfl rfl cd12_isIn ⟨Nat.le_of_ble_eq_true rfl, Nat.le_of_ble_eq_true rfl⟩ I rfl hl.1 rfl (Nat.le_of_ble_eq_true rfl) dX12_tried_8 ⟨Nat.le_of_ble_eq_true rfl, Nat.le_of_ble_eq_true rfl⟩ (fun H locs I => ?_)
  refine lv_if_eq (tgt := 18) S.1 S.2.1 dX12_tried_11 (by decide) (fun q5 => ?_) (fun q5 => ?_)
  · have f := (if_pos q5).symm.trans f
    refine lv_iconst (v := (-1)) S.1 S.2.1 dX12_tried_18 (by decide) ?_
    exact o_iret S hr hlo I f dX12_tried_19
  · have f := (if_neg q5).symm.trans f
    refine lv_iload_n S.1 S.2.1 dX12_tried_14 rfl (lv_at hl 3 rfl) ?_
    refine lv_if_ge (tgt := 20) S.1 S.2.1 dX12_tried_15 (by decide) (fun q6 => ?_) (fun q6 => ?_)
    · have f := (if_pos q6).symm.trans f
      refine lv_iload_n S.1 S.2.1 dX12_tried_20 rfl (lv_at hl 1 rfl) ?_
      refine lv_iconst (v := 1) S.1 S.2.1 dX12_tried_21 (by decide) ?_
      refine lv_icmp_eq (tgt := 30) S.1 S.2.1 dX12_tried_22 (by decide) (fun q7 => ?_) (fun q7 => ?_)
      · have f := (if_pos q7).symm.trans f
        exact T12_tried_30 S hr hlo  f I (lv_sub hl [0, 1, 2, 3] rfl)
      · have f := (if_neg q7).symm.trans f
        refine lv_iload_n S.1 S.2.1 dX12_tried_25 rfl (lv_at hl 1 rfl) ?_
        refine lv_iconst (v := 4) S.1 S.2.1 dX12_tried_26 (by decide) ?_
        refine lv_icmp_ne (tgt := 41) S.1 S.2.1 dX12_tried_27 (by decide) (fun q8 => ?_) (fun q8 => ?_)
        · have f := (if_neg q8).symm.trans f
          refine lv_iload_n S.1 S.2.1 dX12_tried_41 rfl (lv_at hl 2 rfl) ?_
          refine lv_if_eq (tgt := 47) S.1 S.2.1 dX12_tried_42 (by decide) (fun q9 => ?_) (fun q9 => ?_)
          · have f := (if_pos q9).symm.trans f
            exact T12_tried_47 S hr hlo  f I (lv_sub hl [0, 1, 2, 3] rfl)
          · have f := (if_neg q9).symm.trans f
            refine lv_iconst (v := (-1)) S.1 S.2.1 dX12_tried_45 (by decide) ?_
            exact o_iret S hr hlo I f dX12_tried_46
        · have f := (if_pos q8).symm.trans f
          exact T12_tried_30 S hr hlo  f I (lv_sub hl [0, 1, 2, 3] rfl)
    · have f := (if_neg q6).symm.trans f
      refine lv_iconst (v := (-1)) S.1 S.2.1 dX12_tried_18 (by decide) ?_
      exact o_iret S hr hlo I f dX12_tried_19
theorem M12_tried (l : Launch) (D : va_G) (cy : Nat → ClassId) (b : Nat) (A : Nat → Prop) (fl : Bool) {h : PH} {a0 : Nat} {x1 : Int32} {x2 : Int32} {x3 : Int32} {out : Int32 × PH} (f : F12_tried h a0 x1 x2 x3 = some out) : Met l yX12_tried vX12_tried ({ frames := 12, cells := 0, slots := 0, locals := 289 } : Room) (va_Pc [.ref (b + a0), .int x1, .int x2, .int x3] (ph_B D cy b A fl h)) (va_Qi (fun (r : Int32) (u : PH) => (r, u) = out) (ph_B D cy b A fl) A) 0 0 A :=
  o_met (by decide) rfl (Nat.le_of_ble_eq_true rfl) rfl (fun p e s m below meth c S hr hlo hnm ls hl I => T12_tried_0 S hr hlo ((gd f).2) I (lv_sub hl [0, 1, 2, 3] rfl))
def vX12_undo : List Cond := .code yX12_undo cX12_undo 2 (some .int) :: TB
theorem lf12_undo_142 : Fl vX12_undo RX12 142 12 79 := ⟨RX12, TX12, 87, rfl, by decide, (fun w h9 => List.mem_cons_of_mem _ (wC_wsX120 w h9)), (List.mem_cons_of_mem _ wT_11_16)⟩
theorem lf12_undo_379 : Fl vX12_undo RX12 379 12 78 := ⟨RX12, TX12, 87, rfl, by decide, (fun w h9 => List.mem_cons_of_mem _ (wC_wsX120 w h9)), (List.mem_cons_of_mem _ wT_13_2)⟩
theorem lp12_undo_369 : Pl vX12_undo RX12 369 12 64 .int := ⟨RX12, TX12, 87, tyX12, rfl, by decide, (fun w h9 => List.mem_cons_of_mem _ (wC_wsX120 w h9)), (List.mem_cons_of_mem _ wT_12_23), tyX12_ok, nmX12, rfl, rfl⟩
theorem lf12_undo_88 : Fl vX12_undo RX12 88 12 55 := ⟨RX12, TX12, 87, rfl, by decide, (fun w h9 => List.mem_cons_of_mem _ (wC_wsX120 w h9)), (List.mem_cons_of_mem _ wT_10_22)⟩
theorem lf12_undo_100 : Fl vX12_undo RX12 100 12 59 := ⟨RX12, TX12, 87, rfl, by decide, (fun w h9 => List.mem_cons_of_mem _ (wC_wsX120 w h9)), (List.mem_cons_of_mem _ wT_11_2)⟩
theorem lp12_undo_154 : Pl vX12_undo RX12 154 12 2 .int := ⟨RX12, TX12, 87, tyX12, rfl, by decide, (fun w h9 => List.mem_cons_of_mem _ (wC_wsX120 w h9)), (List.mem_cons_of_mem _ wT_13_17), tyX12_ok, nmX12, rfl, rfl⟩
theorem lp12_undo_379 : Pl vX12_undo RX12 379 12 78 .int := ⟨RX12, TX12, 87, tyX12, rfl, by decide, (fun w h9 => List.mem_cons_of_mem _ (wC_wsX120 w h9)), (List.mem_cons_of_mem _ wT_13_2), tyX12_ok, nmX12, rfl, rfl⟩
theorem cd12_undo : Cd yX12_undo 0 := ⟨by decide, by decide, by decide +kernel⟩
set_option maxHeartbeats 4000000 in
set_option maxRecDepth 100000 in
theorem T12_undo_26 (S : CallFix p m c cX12_undo 2 s args vX12_undo RX12) (hr : meth.sig.returnType = (some .int)) (hlo : meth.locks = false) {out : Int32 × PH} : ∀ (n : Nat) {h : PH} {a0 : Nat} {x1 : Int32} (f : F12_undo_26  n h a0 x1 = some out) {H : Heap} {locs : List Loc} (I : ph_I D cy b A fl h s H locs) {ls : Array Slot} (hl : lv_has ls 2 [(0, .ref (b + a0)), (1, .int x1)]), W p l e ({ frames := 0, cells := 0, slots := 0, locals := 0 } : Room) s m args below meth c H locs 0 0 (MQ below (va_Qi (fun (r : Int32) (u : PH) => (r, u) = out) (ph_B D cy b A fl) A) args s 0 0 A) (F0 m 26 ls []) := by
  intro n
  induction n with
  | zero => intro h a0 x1 f; rw [F12_undo_26] at f; cases f
  | succ n ih =>
    intro h a0 x1 f H locs I ls hl
    rw [F12_undo_26] at f
    refine lv_iload_n S.1 S.2.1 dX12_undo_26 rfl (lv_at hl 1 rfl) ?_
    refine lv_iconst (v := 5) S.1 S.2.1 dX12_undo_27 (by decide) ?_
    refine lv_icmp_ge (tgt := 79) S.1 S.2.1 dX12_undo_28 (by decide) (fun q1 => ?_) (fun q1 => ?_)
    · have f := (if_pos q1).symm.trans f
      refine lv_aload_n S.1 S.2.1 dX12_undo_79 rfl (lv_at hl 0 rfl) ?_
      refine lv_aload_n S.1 S.2.1 dX12_undo_80 rfl (lv_at hl 0 rfl) ?_
      obtain ⟨r2, e3, f⟩ := ob f
      refine o_gR S lf12_undo_142 I e3 dX12_undo_81 ?_
      refine lv_bipush (v := 11) S.1 S.2.1 dX12_undo_84 (by decide) ?_
      refine lv_aload_n S.1 S.2.1 dX12_undo_86 rfl (lv_at hl 0 rfl) ?_
      obtain ⟨v4, e5, f⟩ := ob f
      refine o_gI S lf12_undo_379 I e5 dX12_undo_87 ?_
      refine lv_imul S.1 S.2.1 dX12_undo_90 ?_
      refine lv_bipush (v := 10) S.1 S.2.1 dX12_undo_91 (by decide) ?_
      refine lv_iadd S.1 S.2.1 dX12_undo_93 ?_
      obtain ⟨v7, e6, f⟩ := ob f
      refine o_iald S I e6 dX12_undo_94 ?_
      obtain ⟨h8, e9, f⟩ := ob f
      refine o_pI S lp12_undo_369 I e9 dX12_undo_95 (fun H locs I => ?_)
      refine lv_aload_n S.1 S.2.1 dX12_undo_98 rfl (lv_at hl 0 rfl) ?_
      obtain ⟨v10, e11, f⟩ := ob f
      refine o_gI S lf12_undo_379 I e11 dX12_undo_99 ?_
      exact o_iret S hr hlo I f dX12_undo_102
    · have f := (if_neg q1).symm.trans f
      refine lv_aload_n S.1 S.2.1 dX12_undo_31 rfl (lv_at hl 0 rfl) ?_
      obtain ⟨r12, e13, f⟩ := ob f
      refine o_gR S lf12_undo_88 I e13 dX12_undo_32 ?_
      refine lv_iload_n S.1 S.2.1 dX12_undo_35 rfl (lv_at hl 1 rfl) ?_
      refine lv_aload_n S.1 S.2.1 dX12_undo_36 rfl (lv_at hl 0 rfl) ?_
      obtain ⟨r14, e15, f⟩ := ob f
      refine o_gR S lf12_undo_142 I e15 dX12_undo_37 ?_
      refine lv_bipush (v := 11) S.1 S.2.1 dX12_undo_40 (by decide) ?_
      refine lv_aload_n S.1 S.2.1 dX12_undo_42 rfl (lv_at hl 0 rfl) ?_
      obtain ⟨v16, e17, f⟩ := ob f
      refine o_gI S lf12_undo_379 I e17 dX12_undo_43 ?_
      refine lv_imul S.1 S.2.1 dX12_undo_46 ?_
      refine lv_iload_n S.1 S.2.1 dX12_undo_47 rfl (lv_at hl 1 rfl) ?_
      refine lv_iadd S.1 S.2.1 dX12_undo_48 ?_
      obtain ⟨v19, e18, f⟩ := ob f
      refine o_iald S I e18 dX12_undo_49 ?_
      obtain ⟨h21, e20, f⟩ := ob f
      refine o_iast S I e20 dX12_undo_50 (fun H locs I => ?_)
      refine lv_aload_n S.1 S.2.1 dX12_undo_51 rfl (lv_at hl 0 rfl) ?_
      obtain ⟨r22, e23, f⟩ := ob f
      refine o_gR S lf12_undo_100 I e23 dX12_undo_52 ?_
      refine lv_iload_n S.1 S.2.1 dX12_undo_55 rfl (lv_at hl 1 rfl) ?_
      refine lv_aload_n S.1 S.2.1 dX12_undo_56 rfl (lv_at hl 0 rfl) ?_
      obtain ⟨r24, e25, f⟩ := ob f
      refine o_gR S lf12_undo_142 I e25 dX12_undo_57 ?_
      refine lv_bipush (v := 11) S.1 S.2.1 dX12_undo_60 (by decide) ?_
      refine lv_aload_n S.1 S.2.1 dX12_undo_62 rfl (lv_at hl 0 rfl) ?_
      obtain ⟨v26, e27, f⟩ := ob f
      refine o_gI S lf12_undo_379 I e27 dX12_undo_63 ?_
      refine lv_imul S.1 S.2.1 dX12_undo_66 ?_
      refine lv_iconst (v := 5) S.1 S.2.1 dX12_undo_67 (by decide) ?_
      refine lv_iadd S.1 S.2.1 dX12_undo_68 ?_
      refine lv_iload_n S.1 S.2.1 dX12_undo_69 rfl (lv_at hl 1 rfl) ?_
      refine lv_iadd S.1 S.2.1 dX12_undo_70 ?_
      obtain ⟨v29, e28, f⟩ := ob f
      refine o_iald S I e28 dX12_undo_71 ?_
      obtain ⟨h31, e30, f⟩ := ob f
      refine o_iast S I e30 dX12_undo_72 (fun H locs I => ?_)
      refine lv_iinc (v := (x1 + 1)) (lv' := [(1, .int (x1 + 1)), (0, .ref (b + a0))]) S.1 S.2.1 dX12_undo_73 hl (k := 1) rfl (congrArg (fun z => x1 + z) (by decide)) (by decide) rfl (fun ls hl => ?_)
      refine lv_goto (tgt := 26) S.1 S.2.1 dX12_undo_76 (by decide) ?_
      exact ih f I (lv_sub hl [1, 0] rfl)
set_option maxHeartbeats 4000000 in
set_option maxRecDepth 100000 in
theorem T12_undo_0 (S : CallFix p m c cX12_undo 2 s args vX12_undo RX12) (hr : meth.sig.returnType = (some .int)) (hlo : meth.locks = false) {out : Int32 × PH} {h : PH} {a0 : Nat} (f : F12_undo_0  h a0 = some out) {H : Heap} {locs : List Loc} (I : ph_I D cy b A fl h s H locs) {ls : Array Slot} (hl : lv_has ls 2 [(0, .ref (b + a0))]) : W p l e ({ frames := 0, cells := 0, slots := 0, locals := 0 } : Room) s m args below meth c H locs 0 0 (MQ below (va_Qi (fun (r : Int32) (u : PH) => (r, u) = out) (ph_B D cy b A fl) A) args s 0 0 A) (F0 m 0 ls []) := by
  unfold F12_undo_0 at f
  refine lv_aload_n S.1 S.2.1 dX12_undo_0 rfl (lv_at hl 0 rfl) ?_
  refine lv_iconst (v := 0) S.1 S.2.1 dX12_undo_1 (by decide) ?_
  obtain ⟨h1, e2, f⟩ := ob f
  refine o_pI S lp12_undo_154 I e2 dX12_undo_2 (fun H locs I => ?_)
  refine lv_aload_n S.1 S.2.1 dX12_undo_5 rfl (lv_at hl 0 rfl) ?_
  obtain ⟨v3, e4, f⟩ := ob f
  refine o_gI S lf12_undo_379 I e4 dX12_undo_6 ?_
  refine lv_if_ne (tgt := 14) S.1 S.2.1 dX12_undo_9 (by decide) (fun q5 => ?_) (fun q5 => ?_)
  · have f := (if_neg q5).symm.trans f
    refine lv_aload_n S.1 S.2.1 dX12_undo_14 rfl (lv_at hl 0 rfl) ?_
    refine lv_dup S.1 S.2.1 dX12_undo_15 rfl ?_
    obtain ⟨v6, e7, f⟩ := ob f
    refine o_gI S lf12_undo_379 I e7 dX12_undo_16 ?_
    refine lv_iconst (v := 1) S.1 S.2.1 dX12_undo_19 (by decide) ?_
    refine lv_isub S.1 S.2.1 dX12_undo_20 ?_
    obtain ⟨h8, e9, f⟩ := ob f
    refine o_pI S lp12_undo_379 I e9 dX12_undo_21 (fun H locs I => ?_)
    refine lv_iconst (v := 0) S.1 S.2.1 dX12_undo_24 (by decide) ?_
    refine lv_istore_n (lv' := [(1, .int 0), (0, .ref (b + a0))]) S.1 S.2.1 dX12_undo_25 rfl hl (by decide) rfl (fun ls hl => ?_)
    exact T12_undo_26 S hr hlo  1024 f I (lv_sub hl [1, 0] rfl)
  · have f := (if_pos q5).symm.trans f
    refine lv_iconst (v := (-1)) S.1 S.2.1 dX12_undo_12 (by decide) ?_
    exact o_iret S hr hlo I f dX12_undo_13
theorem M12_undo (l : Launch) (D : va_G) (cy : Nat → ClassId) (b : Nat) (A : Nat → Prop) (fl : Bool) {h : PH} {a0 : Nat} {out : Int32 × PH} (f : F12_undo h a0 = some out) : Met l yX12_undo vX12_undo ({ frames := 0, cells := 0, slots := 0, locals := 0 } : Room) (va_Pc [.ref (b + a0)] (ph_B D cy b A fl h)) (va_Qi (fun (r : Int32) (u : PH) => (r, u) = out) (ph_B D cy b A fl) A) 0 0 A :=
  o_met (by decide) rfl (Nat.le_of_ble_eq_true rfl) rfl (fun p e s m below meth c S hr hlo hnm ls hl I => T12_undo_0 S hr hlo ((gd f).2) I (lv_sub hl [0] rfl))
def vX12_wave : List Cond := .code yX12_wave cX12_wave 3 (some .int) :: TB
theorem lp12_wave_154 : Pl vX12_wave RX12 154 12 2 .int := ⟨RX12, TX12, 87, tyX12, rfl, by decide, (fun w h9 => List.mem_cons_of_mem _ (wC_wsX120 w h9)), (List.mem_cons_of_mem _ wT_13_17), tyX12_ok, nmX12, rfl, rfl⟩
theorem gX12_wave_X12_isWave : GoodIn vX12_wave (wsV RX12 419 RX12 yX12_isWave vX12_isWave) := gV_of wT_37_7 wT_37_8 wT_37_9 wT_1_5 wT_37_10
theorem lf12_wave_48 : Fl vX12_wave RX12 48 12 34 := ⟨RX12, TX12, 87, rfl, by decide, (fun w h9 => List.mem_cons_of_mem _ (wC_wsX120 w h9)), (List.mem_cons_of_mem _ wT_10_9)⟩
theorem lf12_wave_51 : Fl vX12_wave RX12 51 12 35 := ⟨RX12, TX12, 87, rfl, by decide, (fun w h9 => List.mem_cons_of_mem _ (wC_wsX120 w h9)), (List.mem_cons_of_mem _ wT_10_10)⟩
theorem lf12_wave_54 : Fl vX12_wave RX12 54 12 36 := ⟨RX12, TX12, 87, rfl, by decide, (fun w h9 => List.mem_cons_of_mem _ (wC_wsX120 w h9)), (List.mem_cons_of_mem _ wT_10_11)⟩
theorem lf12_wave_45 : Fl vX12_wave RX12 45 12 33 := ⟨RX12, TX12, 87, rfl, by decide, (fun w h9 => List.mem_cons_of_mem _ (wC_wsX120 w h9)), (List.mem_cons_of_mem _ wT_10_8)⟩
theorem lf12_wave_103 : Fl vX12_wave RX12 103 12 60 := ⟨RX12, TX12, 87, rfl, by decide, (fun w h9 => List.mem_cons_of_mem _ (wC_wsX120 w h9)), (List.mem_cons_of_mem _ wT_11_3)⟩
theorem cd12_wave : Cd yX12_wave 2 := ⟨by decide, by decide, by decide +kernel⟩
set_option maxHeartbeats 4000000 in
set_option maxRecDepth 100000 in
theorem T12_wave_0 (S : CallFix p m c cX12_wave 3 s args vX12_wave RX12) (hr : meth.sig.returnType = (some .int)) (hlo : meth.locks = false) {out : Int32 × PH} {h : PH} {a0 : Nat} {x1 : Int32} {x2 : Int32} (f : F12_wave_0  h a0 x1 x2 = some out) {H : Heap} {locs : List Loc} (I : ph_I D cy b A fl h s H locs) {ls : Array Slot} (hl : lv_has ls 3 [(0, .ref (b + a0)), (1, .int x1), (2, .int x2)]) : W p l e ({ frames := 1, cells := 0, slots := 0, locals := 21 } : Room) s m args below meth c H locs 0 0 (MQ below (va_Qi (fun (r : Int32) (u : PH) => (r, u) = out) (ph_B D cy b A fl) A) args s 0 0 A) (F0 m 0 ls []) := by
  unfold F12_wave_0 at f
  refine lv_aload_n S.1 S.2.1 dX12_wave_0 rfl (lv_at hl 0 rfl) ?_
  refine lv_iconst (v := 0) S.1 S.2.1 dX12_wave_1 (by decide) ?_
  obtain ⟨h1, e2, f⟩ := ob f
  refine o_pI S lp12_wave_154 I e2 dX12_wave_2 (fun H locs I => ?_)
  refine lv_aload_n S.1 S.2.1 dX12_wave_5 rfl (lv_at hl 0 rfl) ?_
  refine lv_iload_n S.1 S.2.1 dX12_wave_6 rfl (lv_at hl 1 rfl) ?_
  obtain ⟨o3, e4, f⟩ := ob f
  refine o_Vi S (As := [.int x1]) (rest := []) (ci := 12) (M12_isWave l D cy b A fl e4) gX12_wave_X12_isWave rfl rfl rfl cd12_isWave ⟨Nat.le_of_ble_eq_true rfl, Nat.le_of_ble_eq_true rfl⟩ I (gd e4).1 clX12 rfl rfl hl.1 rfl (Nat.le_of_ble_eq_true rfl) dX12_wave_7 ⟨Nat.le_of_ble_eq_true rfl, Nat.le_of_ble_eq_true rfl⟩ (fun H locs I => ?_)
  refine lv_if_ne (tgt := 16) S.1 S.2.1 dX12_wave_10 (by decide) (fun q5 => ?_) (fun q5 => ?_)
  · have f := (if_neg q5).symm.trans f
    refine lv_iload_n S.1 S.2.1 dX12_wave_16 rfl (lv_at hl 2 rfl) ?_
    rcases Decidable.em (x2 = 0) with q6 | q6
    · have f := (if_pos q6).symm.trans f
      refine lv_tableIn (off := 35) (tgt := 52) S.1 S.2.1 dX12_wave_17 (by rw [q6]; decide) (by rw [q6]; decide) (by rw [q6]; rfl) (by decide) ?_
      refine lv_aload_n S.1 S.2.1 dX12_wave_52 rfl (lv_at hl 0 rfl) ?_
      obtain ⟨r7, e8, f⟩ := ob f
      refine o_gR S lf12_wave_48 I e8 dX12_wave_53 ?_
      refine lv_iload_n S.1 S.2.1 dX12_wave_56 rfl (lv_at hl 1 rfl) ?_
      obtain ⟨v10, e9, f⟩ := ob f
      refine o_iald S I e9 dX12_wave_57 ?_
      exact o_iret S hr hlo I f dX12_wave_58
    have f := (if_neg q6).symm.trans f
    rcases Decidable.em (x2 = 1) with q11 | q11
    · have f := (if_pos q11).symm.trans f
      refine lv_tableIn (off := 42) (tgt := 59) S.1 S.2.1 dX12_wave_17 (by rw [q11]; decide) (by rw [q11]; decide) (by rw [q11]; rfl) (by decide) ?_
      refine lv_aload_n S.1 S.2.1 dX12_wave_59 rfl (lv_at hl 0 rfl) ?_
      obtain ⟨r12, e13, f⟩ := ob f
      refine o_gR S lf12_wave_51 I e13 dX12_wave_60 ?_
      refine lv_iload_n S.1 S.2.1 dX12_wave_63 rfl (lv_at hl 1 rfl) ?_
      obtain ⟨v15, e14, f⟩ := ob f
      refine o_iald S I e14 dX12_wave_64 ?_
      exact o_iret S hr hlo I f dX12_wave_65
    have f := (if_neg q11).symm.trans f
    rcases Decidable.em (x2 = 2) with q16 | q16
    · have f := (if_pos q16).symm.trans f
      refine lv_tableIn (off := 49) (tgt := 66) S.1 S.2.1 dX12_wave_17 (by rw [q16]; decide) (by rw [q16]; decide) (by rw [q16]; rfl) (by decide) ?_
      refine lv_aload_n S.1 S.2.1 dX12_wave_66 rfl (lv_at hl 0 rfl) ?_
      obtain ⟨r17, e18, f⟩ := ob f
      refine o_gR S lf12_wave_54 I e18 dX12_wave_67 ?_
      refine lv_iload_n S.1 S.2.1 dX12_wave_70 rfl (lv_at hl 1 rfl) ?_
      obtain ⟨v20, e19, f⟩ := ob f
      refine o_iald S I e19 dX12_wave_71 ?_
      exact o_iret S hr hlo I f dX12_wave_72
    have f := (if_neg q16).symm.trans f
    rcases Decidable.em (x2 = 3) with q21 | q21
    · have f := (if_pos q21).symm.trans f
      refine lv_tableIn (off := 56) (tgt := 73) S.1 S.2.1 dX12_wave_17 (by rw [q21]; decide) (by rw [q21]; decide) (by rw [q21]; rfl) (by decide) ?_
      refine lv_iload_n S.1 S.2.1 dX12_wave_73 rfl (lv_at hl 1 rfl) ?_
      refine lv_aload_n S.1 S.2.1 dX12_wave_74 rfl (lv_at hl 0 rfl) ?_
      obtain ⟨r22, e23, f⟩ := ob f
      refine o_gR S lf12_wave_45 I e23 dX12_wave_75 ?_
      refine lv_aload_n S.1 S.2.1 dX12_wave_78 rfl (lv_at hl 0 rfl) ?_
      obtain ⟨r24, e25, f⟩ := ob f
      refine o_gR S lf12_wave_54 I e25 dX12_wave_79 ?_
      refine lv_iload_n S.1 S.2.1 dX12_wave_82 rfl (lv_at hl 1 rfl) ?_
      obtain ⟨v27, e26, f⟩ := ob f
      refine o_iald S I e26 dX12_wave_83 ?_
      obtain ⟨v29, e28, f⟩ := ob f
      refine o_iald S I e28 dX12_wave_84 ?_
      refine lv_isub S.1 S.2.1 dX12_wave_85 ?_
      refine lv_iconst (v := 1) S.1 S.2.1 dX12_wave_86 (by decide) ?_
      refine lv_iadd S.1 S.2.1 dX12_wave_87 ?_
      exact o_iret S hr hlo I f dX12_wave_88
    have f := (if_neg q21).symm.trans f
    rcases Decidable.em (x2 = 4) with q30 | q30
    · have f := (if_pos q30).symm.trans f
      refine lv_tableIn (off := 72) (tgt := 89) S.1 S.2.1 dX12_wave_17 (by rw [q30]; decide) (by rw [q30]; decide) (by rw [q30]; rfl) (by decide) ?_
      refine lv_aload_n S.1 S.2.1 dX12_wave_89 rfl (lv_at hl 0 rfl) ?_
      obtain ⟨r31, e32, f⟩ := ob f
      refine o_gR S lf12_wave_103 I e32 dX12_wave_90 ?_
      refine lv_iload_n S.1 S.2.1 dX12_wave_93 rfl (lv_at hl 1 rfl) ?_
      obtain ⟨v34, e33, f⟩ := ob f
      refine o_iald S I e33 dX12_wave_94 ?_
      exact o_iret S hr hlo I f dX12_wave_95
    have f := (if_neg q30).symm.trans f
    refine lv_tableOut (tgt := 96) S.1 S.2.1 dX12_wave_17 (by have := lv_neT q6 (a := 0) (by decide); have := lv_neT q11 (a := 1) (by decide); have := lv_neT q16 (a := 2) (by decide); have := lv_neT q21 (a := 3) (by decide); have := lv_neT q30 (a := 4) (by decide); omega) (by decide) ?_
    refine lv_bipush (v := (-4)) S.1 S.2.1 dX12_wave_96 (by decide) ?_
    exact o_iret S hr hlo I f dX12_wave_98
  · have f := (if_pos q5).symm.trans f
    refine lv_bipush (v := (-4)) S.1 S.2.1 dX12_wave_13 (by decide) ?_
    exact o_iret S hr hlo I f dX12_wave_15
theorem M12_wave (l : Launch) (D : va_G) (cy : Nat → ClassId) (b : Nat) (A : Nat → Prop) (fl : Bool) {h : PH} {a0 : Nat} {x1 : Int32} {x2 : Int32} {out : Int32 × PH} (f : F12_wave h a0 x1 x2 = some out) : Met l yX12_wave vX12_wave ({ frames := 1, cells := 0, slots := 0, locals := 21 } : Room) (va_Pc [.ref (b + a0), .int x1, .int x2] (ph_B D cy b A fl h)) (va_Qi (fun (r : Int32) (u : PH) => (r, u) = out) (ph_B D cy b A fl) A) 0 0 A :=
  o_met (by decide) rfl (Nat.le_of_ble_eq_true rfl) rfl (fun p e s m below meth c S hr hlo hnm ls hl I => T12_wave_0 S hr hlo ((gd f).2) I (lv_sub hl [0, 1, 2] rfl))
end
