section
variable {p : Program} {l : Launch} {e : Env} {s : State} {m : MethodId} {args : Array Value} {below : List Frame} {meth : Method} {c : Code} {D : va_G} {cy : Nat → ClassId} {b : Nat} {A : Nat → Prop} {fl : Bool}
def vX12_boardOf : List Cond := .code yX12_boardOf cX12_boardOf 2 (some .int) :: TB
theorem lf12_boardOf_115 : Fl vX12_boardOf RX12 115 12 66 := ⟨RX12, TX12, 87, rfl, by decide, (fun w h9 => List.mem_cons_of_mem _ (wC_wsX120 w h9)), (List.mem_cons_of_mem _ wT_11_7)⟩
theorem lf12_boardOf_33 : Fl vX12_boardOf RX12 33 12 29 := ⟨RX12, TX12, 87, rfl, by decide, (fun w h9 => List.mem_cons_of_mem _ (wC_wsX120 w h9)), (List.mem_cons_of_mem _ wT_10_4)⟩
theorem cd12_boardOf : Cd yX12_boardOf 1 := ⟨by decide, by decide, by decide +kernel⟩
set_option maxHeartbeats 4000000 in
set_option maxRecDepth 100000 in
theorem T12_boardOf_0 (S : CallFix p m c cX12_boardOf 2 s args vX12_boardOf RX12) (hr : meth.sig.returnType = (some .int)) (hlo : meth.locks = false) {out : Int32 × PH} {h : PH} {a0 : Nat} {x1 : Int32} (f : F12_boardOf_0  h a0 x1 = some out) {H : Heap} {locs : List Loc} (I : ph_I D cy b A fl h s H locs) {ls : Array Slot} (hl : lv_has ls 2 [(0, .ref (b + a0)), (1, .int x1)]) : W p l e ({ frames := 0, cells := 0, slots := 0, locals := 0 } : Room) s m args below meth c H locs 0 0 (MQ below (va_Qi (fun (r : Int32) (u : PH) => (r, u) = out) (ph_B D cy b A fl) A) args s 0 0 A) (F0 m 0 ls []) := by
  unfold F12_boardOf_0 at f
  refine lv_aload_n S.1 S.2.1 dX12_boardOf_0 rfl (lv_at hl 0 rfl) ?_
  obtain ⟨v1, e2, f⟩ := ob f
  refine o_gI S lf12_boardOf_115 I e2 dX12_boardOf_1 ?_
  refine lv_iconst (v := 3) S.1 S.2.1 dX12_boardOf_4 (by decide) ?_
  refine lv_icmp_ne (tgt := 13) S.1 S.2.1 dX12_boardOf_5 (by decide) (fun q3 => ?_) (fun q3 => ?_)
  · have f := (if_neg q3).symm.trans f
    refine lv_aload_n S.1 S.2.1 dX12_boardOf_13 rfl (lv_at hl 0 rfl) ?_
    obtain ⟨r4, e5, f⟩ := ob f
    refine o_gR S lf12_boardOf_33 I e5 dX12_boardOf_14 ?_
    refine lv_iload_n S.1 S.2.1 dX12_boardOf_17 rfl (lv_at hl 1 rfl) ?_
    obtain ⟨v7, e6, f⟩ := ob f
    refine o_iald S I e6 dX12_boardOf_18 ?_
    exact o_iret S hr hlo I f dX12_boardOf_19
  · have f := (if_pos q3).symm.trans f
    refine lv_bipush (v := 9) S.1 S.2.1 dX12_boardOf_8 (by decide) ?_
    refine lv_goto (tgt := 19) S.1 S.2.1 dX12_boardOf_10 (by decide) ?_
    exact o_iret S hr hlo I f dX12_boardOf_19
theorem M12_boardOf (l : Launch) (D : va_G) (cy : Nat → ClassId) (b : Nat) (A : Nat → Prop) (fl : Bool) {h : PH} {a0 : Nat} {x1 : Int32} {out : Int32 × PH} (f : F12_boardOf h a0 x1 = some out) : Met l yX12_boardOf vX12_boardOf ({ frames := 0, cells := 0, slots := 0, locals := 0 } : Room) (va_Pc [.ref (b + a0), .int x1] (ph_B D cy b A fl h)) (va_Qi (fun (r : Int32) (u : PH) => (r, u) = out) (ph_B D cy b A fl) A) 0 0 A :=
  o_met (by decide) rfl (Nat.le_of_ble_eq_true rfl) rfl (fun p e s m below meth c S hr hlo hnm ls hl I => T12_boardOf_0 S hr hlo ((gd f).2) I (lv_sub hl [0, 1] rfl))
def vX12_layCatch : List Cond := .code yX12_layCatch cX12_layCatch 6 (some .int) :: TB
theorem lf12_layCatch_48 : Fl vX12_layCatch RX12 48 12 34 := ⟨RX12, TX12, 87, rfl, by decide, (fun w h9 => List.mem_cons_of_mem _ (wC_wsX120 w h9)), (List.mem_cons_of_mem _ wT_10_9)⟩
theorem gX12_layCatch_X12_peakAt : GoodIn vX12_layCatch (wsV RX12 400 RX12 yX12_peakAt vX12_peakAt) := gV_of wT_34_22 wT_34_23 wT_35_0 wT_1_5 wT_35_1
theorem gX12_layCatch_X12_far : GoodIn vX12_layCatch (wsV RX12 403 RX12 yX12_far vX12_far) := gV_of wT_36_8 wT_36_9 wT_36_10 wT_1_5 wT_36_11
theorem lf12_layCatch_241 : Fl vX12_layCatch RX12 241 12 12 := ⟨RX12, TX12, 87, rfl, by decide, (fun w h9 => List.mem_cons_of_mem _ (wC_wsX120 w h9)), (List.mem_cons_of_mem _ wT_12_10)⟩
theorem gX12_layCatch_X12_boardOf : GoodIn vX12_layCatch (wsV RX12 406 RX12 yX12_boardOf vX12_boardOf) := gV_of wT_40_9 wT_40_10 wT_40_11 wT_1_5 wT_40_12
theorem gX12_layCatch_X12_layNames : GoodIn vX12_layCatch (wsV RX12 392 RX12 yX12_layNames vX12_layNames) := gV_of wT_35_2 wT_35_3 wT_35_4 wT_1_5 wT_35_5
theorem cd12_layCatch : Cd yX12_layCatch 3 := ⟨by decide, by decide, by decide +kernel⟩
set_option maxHeartbeats 4000000 in
set_option maxRecDepth 100000 in
theorem T12_layCatch_0 (S : CallFix p m c cX12_layCatch 6 s args vX12_layCatch RX12) (hr : meth.sig.returnType = (some .int)) (hlo : meth.locks = false) {out : Int32 × PH} {h : PH} {a0 : Nat} {x1 : Int32} {x2 : Int32} {x3 : Int32} (f : F12_layCatch_0  h a0 x1 x2 x3 = some out) {H : Heap} {locs : List Loc} (I : ph_I D cy b A fl h s H locs) {ls : Array Slot} (hl : lv_has ls 6 [(0, .ref (b + a0)), (1, .int x1), (2, .int x2), (3, .int x3)]) : W p l e ({ frames := 5, cells := 0, slots := 0, locals := 120 } : Room) s m args below meth c H locs 0 0 (MQ below (va_Qi (fun (r : Int32) (u : PH) => (r, u) = out) (ph_B D cy b A fl) A) args s 0 0 A) (F0 m 0 ls []) := by
  unfold F12_layCatch_0 at f
  refine lv_aload_n S.1 S.2.1 dX12_layCatch_0 rfl (lv_at hl 0 rfl) ?_
  refine lv_aload_n S.1 S.2.1 dX12_layCatch_1 rfl (lv_at hl 0 rfl) ?_
  obtain ⟨r1, e2, f⟩ := ob f
  refine o_gR S lf12_layCatch_48 I e2 dX12_layCatch_2 ?_
  refine lv_iload_n S.1 S.2.1 dX12_layCatch_5 rfl (lv_at hl 2 rfl) ?_
  obtain ⟨v4, e3, f⟩ := ob f
  refine o_iald S I e3 dX12_layCatch_6 ?_
  obtain ⟨o5, e6, f⟩ := ob f
  refine o_Vi S (As := [.int v4]) (rest := []) (ci := 12) (M12_peakAt l D cy b A fl e6) gX12_layCatch_X12_peakAt rfl rfl rfl cd12_peakAt ⟨Nat.le_of_ble_eq_true rfl, Nat.le_of_ble_eq_true rfl⟩ I (gd e6).1 clX12 rfl rfl hl.1 rfl (Nat.le_of_ble_eq_true rfl) dX12_layCatch_7 ⟨Nat.le_of_ble_eq_true rfl, Nat.le_of_ble_eq_true rfl⟩ (fun H locs I => ?_)
  refine lv_istore (lv' := [(4, .int o5.1), (0, .ref (b + a0)), (1, .int x1), (2, .int x2), (3, .int x3)]) S.1 S.2.1 dX12_layCatch_10 hl (by decide) rfl (fun ls hl => ?_)
  refine lv_aload_n S.1 S.2.1 dX12_layCatch_12 rfl (lv_at hl 1 rfl) ?_
  refine lv_iload_n S.1 S.2.1 dX12_layCatch_13 rfl (lv_at hl 4 rfl) ?_
  refine lv_iload S.1 S.2.1 dX12_layCatch_14 (lv_at hl 0 rfl) ?_
  obtain ⟨o7, e8, f⟩ := ob f
  refine o_Vi S (As := [.int x3, .int o5.1]) (rest := []) (ci := 12) (M12_far l D cy b A fl e8) gX12_layCatch_X12_far rfl rfl rfl cd12_far ⟨Nat.le_of_ble_eq_true rfl, Nat.le_of_ble_eq_true rfl⟩ I (gd e8).1 clX12 rfl rfl hl.1 rfl (Nat.le_of_ble_eq_true rfl) dX12_layCatch_16 ⟨Nat.le_of_ble_eq_true rfl, Nat.le_of_ble_eq_true rfl⟩ (fun H locs I => ?_)
  refine lv_istore (lv' := [(5, .int o7.1), (4, .int o5.1), (0, .ref (b + a0)), (1, .int x1), (2, .int x2), (3, .int x3)]) S.1 S.2.1 dX12_layCatch_19 hl (by decide) rfl (fun ls hl => ?_)
  refine lv_aload_n S.1 S.2.1 dX12_layCatch_21 rfl (lv_at hl 2 rfl) ?_
  refine lv_iload S.1 S.2.1 dX12_layCatch_22 (lv_at hl 0 rfl) ?_
  refine lv_iload_n S.1 S.2.1 dX12_layCatch_24 rfl (lv_at hl 5 rfl) ?_
  refine lv_aload_n S.1 S.2.1 dX12_layCatch_25 rfl (lv_at hl 2 rfl) ?_
  obtain ⟨v9, e10, f⟩ := ob f
  refine o_gI S lf12_layCatch_241 I e10 dX12_layCatch_26 ?_
  have q11 : ¬ v9 = 0 := fun q => by rw [if_pos q] at f; cases f
  have f := (if_neg q11).symm.trans f
  refine lv_idiv S.1 S.2.1 dX12_layCatch_29 q11 ?_
  refine lv_iload S.1 S.2.1 dX12_layCatch_30 (lv_at hl 1 rfl) ?_
  refine lv_aload_n S.1 S.2.1 dX12_layCatch_32 rfl (lv_at hl 2 rfl) ?_
  obtain ⟨v12, e13, f⟩ := ob f
  refine o_gI S lf12_layCatch_241 I e13 dX12_layCatch_33 ?_
  have q14 : ¬ v12 = 0 := fun q => by rw [if_pos q] at f; cases f
  have f := (if_neg q14).symm.trans f
  refine lv_idiv S.1 S.2.1 dX12_layCatch_36 q14 ?_
  refine lv_isub S.1 S.2.1 dX12_layCatch_37 ?_
  refine lv_aload_n S.1 S.2.1 dX12_layCatch_38 rfl (lv_at hl 2 rfl) ?_
  refine lv_iload_n S.1 S.2.1 dX12_layCatch_39 rfl (lv_at hl 3 rfl) ?_
  obtain ⟨o15, e16, f⟩ := ob f
  refine o_Vi S (As := [.int x1]) (rest := [.int ((x3 / v9) - (o5.1 / v12)), .int o7.1, .ref (b + a0)]) (ci := 12) (M12_boardOf l D cy b A fl e16) gX12_layCatch_X12_boardOf rfl rfl rfl cd12_boardOf ⟨Nat.le_of_ble_eq_true rfl, Nat.le_of_ble_eq_true rfl⟩ I (gd e16).1 clX12 rfl rfl hl.1 rfl (Nat.le_of_ble_eq_true rfl) dX12_layCatch_40 ⟨Nat.le_of_ble_eq_true rfl, Nat.le_of_ble_eq_true rfl⟩ (fun H locs I => ?_)
  refine lv_iload_n S.1 S.2.1 dX12_layCatch_43 rfl (lv_at hl 4 rfl) ?_
  refine lv_aload_n S.1 S.2.1 dX12_layCatch_44 rfl (lv_at hl 2 rfl) ?_
  obtain ⟨r17, e18, f⟩ := ob f
  refine o_gR S lf12_layCatch_48 I e18 dX12_layCatch_45 ?_
  refine lv_iload_n S.1 S.2.1 dX12_layCatch_48 rfl (lv_at hl 4 rfl) ?_
  obtain ⟨v20, e19, f⟩ := ob f
  refine o_iald S I e19 dX12_layCatch_49 ?_
  obtain ⟨o21, e22, f⟩ := ob f
  refine o_Vv S (As := [.int o7.1, .int ((x3 / v9) - (o5.1 / v12)), .int o15.1, .int x2, .int v20]) (rest := []) (ci := 12) (M12_layNames l D cy b A fl e22) gX12_layCatch_X12_layNames rfl rfl rfl cd12_layNames ⟨Nat.le_of_ble_eq_true rfl, Nat.le_of_ble_eq_true rfl⟩ I (gd e22).1 clX12 rfl rfl hl.1 rfl (Nat.le_of_ble_eq_true rfl) dX12_layCatch_50 ⟨Nat.le_of_ble_eq_true rfl, Nat.le_of_ble_eq_true rfl⟩ (fun H locs I => ?_)
  refine lv_iload S.1 S.2.1 dX12_layCatch_53 (lv_at hl 0 rfl) ?_
  exact o_iret S hr hlo I f dX12_layCatch_55
theorem M12_layCatch (l : Launch) (D : va_G) (cy : Nat → ClassId) (b : Nat) (A : Nat → Prop) (fl : Bool) {h : PH} {a0 : Nat} {x1 : Int32} {x2 : Int32} {x3 : Int32} {out : Int32 × PH} (f : F12_layCatch h a0 x1 x2 x3 = some out) : Met l yX12_layCatch vX12_layCatch ({ frames := 5, cells := 0, slots := 0, locals := 120 } : Room) (va_Pc [.ref (b + a0), .int x1, .int x2, .int x3] (ph_B D cy b A fl h)) (va_Qi (fun (r : Int32) (u : PH) => (r, u) = out) (ph_B D cy b A fl) A) 0 0 A :=
  o_met (by decide) rfl (Nat.le_of_ble_eq_true rfl) rfl (fun p e s m below meth c S hr hlo hnm ls hl I => T12_layCatch_0 S hr hlo ((gd f).2) I (lv_sub hl [0, 1, 2, 3] rfl))
def vX12_oddsOf : List Cond := .code yX12_oddsOf cX12_oddsOf 5 (some .int) :: TB
theorem gX12_oddsOf_X12_boundLaw : GoodIn vX12_oddsOf (wsV RX12 396 RX12 yX12_boundLaw vX12_boundLaw) := gV_of wT_35_6 wT_35_7 wT_35_8 wT_1_5 wT_35_9
theorem gX12_oddsOf_X12_layCatch : GoodIn vX12_oddsOf (wsV RX12 409 RX12 yX12_layCatch vX12_layCatch) := gV_of wT_40_5 wT_40_6 wT_40_7 wT_1_5 wT_40_8
theorem cd12_oddsOf : Cd yX12_oddsOf 3 := ⟨by decide, by decide, by decide +kernel⟩
set_option maxHeartbeats 4000000 in
set_option maxRecDepth 100000 in
theorem T12_oddsOf_29 (S : CallFix p m c cX12_oddsOf 5 s args vX12_oddsOf RX12) (hr : meth.sig.returnType = (some .int)) (hlo : meth.locks = false) {out : Int32 × PH} {h : PH} {s0 : Int32} {s1 : Int32} {u2 : Nat} (f : F12_oddsOf_29  h s0 s1 u2 = some out) {H : Heap} {locs : List Loc} (I : ph_I D cy b A fl h s H locs) {ls : Array Slot} (hl : lv_has ls 5 []) : W p l e ({ frames := 6, cells := 0, slots := 0, locals := 145 } : Room) s m args below meth c H locs 0 0 (MQ below (va_Qi (fun (r : Int32) (u : PH) => (r, u) = out) (ph_B D cy b A fl) A) args s 0 0 A) (F0 m 29 ls [.int s0, .int s1, .ref (b + u2)]) := by
  unfold F12_oddsOf_29 at f
  refine lv_iconst (v := 0) S.1 S.2.1 dX12_oddsOf_29 (by decide) ?_
  refine lv_bipush (v := 100) S.1 S.2.1 dX12_oddsOf_30 (by decide) ?_
  obtain ⟨o1, e2, f⟩ := ob f
  refine o_Vi S (As := [.int s1, .int s0, .int 0, .int 100]) (rest := []) (ci := 12) (M12_boundLaw l D cy b A fl e2) gX12_oddsOf_X12_boundLaw rfl rfl rfl cd12_boundLaw ⟨Nat.le_of_ble_eq_true rfl, Nat.le_of_ble_eq_true rfl⟩ I (gd e2).1 clX12 rfl rfl hl.1 rfl (Nat.le_of_ble_eq_true rfl) dX12_oddsOf_32 ⟨Nat.le_of_ble_eq_true rfl, Nat.le_of_ble_eq_true rfl⟩ (fun H locs I => ?_)
  exact o_iret S hr hlo I f dX12_oddsOf_35
set_option maxHeartbeats 4000000 in
set_option maxRecDepth 100000 in
theorem T12_oddsOf_0 (S : CallFix p m c cX12_oddsOf 5 s args vX12_oddsOf RX12) (hr : meth.sig.returnType = (some .int)) (hlo : meth.locks = false) {out : Int32 × PH} {h : PH} {a0 : Nat} {x1 : Int32} {x2 : Int32} {x3 : Int32} (f : F12_oddsOf_0  h a0 x1 x2 x3 = some out) {H : Heap} {locs : List Loc} (I : ph_I D cy b A fl h s H locs) {ls : Array Slot} (hl : lv_has ls 5 [(0, .ref (b + a0)), (1, .int x1), (2, .int x2), (3, .int x3)]) : W p l e ({ frames := 6, cells := 0, slots := 0, locals := 145 } : Room) s m args below meth c H locs 0 0 (MQ below (va_Qi (fun (r : Int32) (u : PH) => (r, u) = out) (ph_B D cy b A fl) A) args s 0 0 A) (F0 m 0 ls []) := by
  unfold F12_oddsOf_0 at f
  refine lv_aload_n S.1 S.2.1 dX12_oddsOf_0 rfl (lv_at hl 0 rfl) ?_
  refine lv_iload_n S.1 S.2.1 dX12_oddsOf_1 rfl (lv_at hl 1 rfl) ?_
  refine lv_iload_n S.1 S.2.1 dX12_oddsOf_2 rfl (lv_at hl 2 rfl) ?_
  refine lv_iload_n S.1 S.2.1 dX12_oddsOf_3 rfl (lv_at hl 3 rfl) ?_
  obtain ⟨o1, e2, f⟩ := ob f
  refine o_Vi S (As := [.int x1, .int x2, .int x3]) (rest := []) (ci := 12) (M12_layCatch l D cy b A fl e2) gX12_oddsOf_X12_layCatch rfl rfl rfl cd12_layCatch ⟨Nat.le_of_ble_eq_true rfl, Nat.le_of_ble_eq_true rfl⟩ I (gd e2).1 clX12 rfl rfl hl.1 rfl (Nat.le_of_ble_eq_true rfl) dX12_oddsOf_4 ⟨Nat.le_of_ble_eq_true rfl, Nat.le_of_ble_eq_true rfl⟩ (fun H locs I => ?_)
  refine lv_istore (lv' := [(4, .int o1.1), (0, .ref (b + a0)), (1, .int x1), (2, .int x2), (3, .int x3)]) S.1 S.2.1 dX12_oddsOf_7 hl (by decide) rfl (fun ls hl => ?_)
  refine lv_aload_n S.1 S.2.1 dX12_oddsOf_9 rfl (lv_at hl 1 rfl) ?_
  refine lv_iconst (v := 0) S.1 S.2.1 dX12_oddsOf_10 (by decide) ?_
  refine lv_iload S.1 S.2.1 dX12_oddsOf_11 (lv_at hl 0 rfl) ?_
  refine lv_iconst (v := 5) S.1 S.2.1 dX12_oddsOf_13 (by decide) ?_
  refine lv_icmp_ge (tgt := 28) S.1 S.2.1 dX12_oddsOf_14 (by decide) (fun q3 => ?_) (fun q3 => ?_)
  · have f := (if_pos q3).symm.trans f
    refine lv_iconst (v := 0) S.1 S.2.1 dX12_oddsOf_28 (by decide) ?_
    exact T12_oddsOf_29 S hr hlo  f I (lv_sub hl [] rfl)
  · have f := (if_neg q3).symm.trans f
    refine lv_bipush (v := 100) S.1 S.2.1 dX12_oddsOf_17 (by decide) ?_
    refine lv_bipush (v := 20) S.1 S.2.1 dX12_oddsOf_19 (by decide) ?_
    refine lv_iload S.1 S.2.1 dX12_oddsOf_21 (lv_at hl 0 rfl) ?_
    refine lv_imul S.1 S.2.1 dX12_oddsOf_23 ?_
    refine lv_isub S.1 S.2.1 dX12_oddsOf_24 ?_
    refine lv_goto (tgt := 29) S.1 S.2.1 dX12_oddsOf_25 (by decide) ?_
    exact T12_oddsOf_29 S hr hlo  f I (lv_sub hl [] rfl)
theorem M12_oddsOf (l : Launch) (D : va_G) (cy : Nat → ClassId) (b : Nat) (A : Nat → Prop) (fl : Bool) {h : PH} {a0 : Nat} {x1 : Int32} {x2 : Int32} {x3 : Int32} {out : Int32 × PH} (f : F12_oddsOf h a0 x1 x2 x3 = some out) : Met l yX12_oddsOf vX12_oddsOf ({ frames := 6, cells := 0, slots := 0, locals := 145 } : Room) (va_Pc [.ref (b + a0), .int x1, .int x2, .int x3] (ph_B D cy b A fl h)) (va_Qi (fun (r : Int32) (u : PH) => (r, u) = out) (ph_B D cy b A fl) A) 0 0 A :=
  o_met (by decide) rfl (Nat.le_of_ble_eq_true rfl) rfl (fun p e s m below meth c S hr hlo hnm ls hl I => T12_oddsOf_0 S hr hlo ((gd f).2) I (lv_sub hl [0, 1, 2, 3] rfl))
def vX12_isGoing : List Cond := .code yX12_isGoing cX12_isGoing 4 (some .boolean) :: TB
theorem lf12_isGoing_88 : Fl vX12_isGoing RX12 88 12 55 := ⟨RX12, TX12, 87, rfl, by decide, (fun w h9 => List.mem_cons_of_mem _ (wC_wsX120 w h9)), (List.mem_cons_of_mem _ wT_10_22)⟩
theorem gX12_isGoing_X12_oddsOf : GoodIn vX12_isGoing (wsV RX12 425 RX12 yX12_oddsOf vX12_oddsOf) := gV_of wT_40_1 wT_40_2 wT_40_3 wT_1_5 wT_40_4
theorem lf12_isGoing_97 : Fl vX12_isGoing RX12 97 12 58 := ⟨RX12, TX12, 87, rfl, by decide, (fun w h9 => List.mem_cons_of_mem _ (wC_wsX120 w h9)), (List.mem_cons_of_mem _ wT_11_1)⟩
theorem lf12_isGoing_115 : Fl vX12_isGoing RX12 115 12 66 := ⟨RX12, TX12, 87, rfl, by decide, (fun w h9 => List.mem_cons_of_mem _ (wC_wsX120 w h9)), (List.mem_cons_of_mem _ wT_11_7)⟩
theorem lf12_isGoing_430 : Fl vX12_isGoing RX12 430 12 67 := ⟨RX12, TX12, 87, rfl, by decide, (fun w h9 => List.mem_cons_of_mem _ (wC_wsX120 w h9)), (List.mem_cons_of_mem _ wT_47_6)⟩
theorem cd12_isGoing : Cd yX12_isGoing 3 := ⟨by decide, by decide, by decide +kernel⟩
set_option maxHeartbeats 4000000 in
set_option maxRecDepth 100000 in
theorem T12_isGoing_29 (S : CallFix p m c cX12_isGoing 4 s args vX12_isGoing RX12) (hr : meth.sig.returnType = (some .boolean)) (hlo : meth.locks = false) {out : Int32 × PH} {h : PH} {a0 : Nat} {x1 : Int32} {x2 : Int32} {x3 : Int32} (f : F12_isGoing_29  h a0 x1 x2 x3 = some out) {H : Heap} {locs : List Loc} (I : ph_I D cy b A fl h s H locs) {ls : Array Slot} (hl : lv_has ls 4 [(0, .ref (b + a0)), (1, .int x1), (2, .int x2), (3, .int x3)]) : W p l e ({ frames := 7, cells := 0, slots := 0, locals := 169 } : Room) s m args below meth c H locs 0 0 (MQ below (va_Qi (fun (r : Int32) (u : PH) => (r, u) = out) (ph_B D cy b A fl) A) args s 0 0 A) (F0 m 29 ls []) := by
  unfold F12_isGoing_29 at f
  refine lv_aload_n S.1 S.2.1 dX12_isGoing_29 rfl (lv_at hl 0 rfl) ?_
  refine lv_iload_n S.1 S.2.1 dX12_isGoing_30 rfl (lv_at hl 2 rfl) ?_
  refine lv_iload_n S.1 S.2.1 dX12_isGoing_31 rfl (lv_at hl 3 rfl) ?_
  refine lv_aload_n S.1 S.2.1 dX12_isGoing_32 rfl (lv_at hl 0 rfl) ?_
  obtain ⟨r1, e2, f⟩ := ob f
  refine o_gR S lf12_isGoing_88 I e2 dX12_isGoing_33 ?_
  refine lv_iconst (v := 5) S.1 S.2.1 dX12_isGoing_36 (by decide) ?_
  refine lv_iload_n S.1 S.2.1 dX12_isGoing_37 rfl (lv_at hl 1 rfl) ?_
  refine lv_imul S.1 S.2.1 dX12_isGoing_38 ?_
  refine lv_iload_n S.1 S.2.1 dX12_isGoing_39 rfl (lv_at hl 2 rfl) ?_
  refine lv_iadd S.1 S.2.1 dX12_isGoing_40 ?_
  obtain ⟨v4, e3, f⟩ := ob f
  refine o_iald S I e3 dX12_isGoing_41 ?_
  obtain ⟨o5, e6, f⟩ := ob f
  refine o_Vi S (As := [.int x2, .int x3, .int v4]) (rest := []) (ci := 12) (M12_oddsOf l D cy b A fl e6) gX12_isGoing_X12_oddsOf rfl rfl rfl cd12_oddsOf ⟨Nat.le_of_ble_eq_true rfl, Nat.le_of_ble_eq_true rfl⟩ I (gd e6).1 clX12 rfl rfl hl.1 rfl (Nat.le_of_ble_eq_true rfl) dX12_isGoing_42 ⟨Nat.le_of_ble_eq_true rfl, Nat.le_of_ble_eq_true rfl⟩ (fun H locs I => ?_)
  refine lv_if_le (tgt := 52) S.1 S.2.1 dX12_isGoing_45 (by decide) (fun q7 => ?_) (fun q7 => ?_)
  · have f := (if_pos q7).symm.trans f
    refine lv_iconst (v := 0) S.1 S.2.1 dX12_isGoing_52 (by decide) ?_
    exact o_zret S hr hlo I f dX12_isGoing_53
  · have f := (if_neg q7).symm.trans f
    refine lv_iconst (v := 1) S.1 S.2.1 dX12_isGoing_48 (by decide) ?_
    refine lv_goto (tgt := 53) S.1 S.2.1 dX12_isGoing_49 (by decide) ?_
    exact o_zret S hr hlo I f dX12_isGoing_53
set_option maxHeartbeats 4000000 in
set_option maxRecDepth 100000 in
theorem T12_isGoing_0 (S : CallFix p m c cX12_isGoing 4 s args vX12_isGoing RX12) (hr : meth.sig.returnType = (some .boolean)) (hlo : meth.locks = false) {out : Int32 × PH} {h : PH} {a0 : Nat} {x1 : Int32} {x2 : Int32} {x3 : Int32} (f : F12_isGoing_0  h a0 x1 x2 x3 = some out) {H : Heap} {locs : List Loc} (I : ph_I D cy b A fl h s H locs) {ls : Array Slot} (hl : lv_has ls 4 [(0, .ref (b + a0)), (1, .int x1), (2, .int x2), (3, .int x3)]) : W p l e ({ frames := 7, cells := 0, slots := 0, locals := 169 } : Room) s m args below meth c H locs 0 0 (MQ below (va_Qi (fun (r : Int32) (u : PH) => (r, u) = out) (ph_B D cy b A fl) A) args s 0 0 A) (F0 m 0 ls []) := by
  unfold F12_isGoing_0 at f
  refine lv_aload_n S.1 S.2.1 dX12_isGoing_0 rfl (lv_at hl 0 rfl) ?_
  obtain ⟨r1, e2, f⟩ := ob f
  refine o_gR S lf12_isGoing_97 I e2 dX12_isGoing_1 ?_
  refine lv_iconst (v := 5) S.1 S.2.1 dX12_isGoing_4 (by decide) ?_
  refine lv_iload_n S.1 S.2.1 dX12_isGoing_5 rfl (lv_at hl 1 rfl) ?_
  refine lv_imul S.1 S.2.1 dX12_isGoing_6 ?_
  refine lv_iload_n S.1 S.2.1 dX12_isGoing_7 rfl (lv_at hl 2 rfl) ?_
  refine lv_iadd S.1 S.2.1 dX12_isGoing_8 ?_
  obtain ⟨v4, e3, f⟩ := ob f
  refine o_iald S I e3 dX12_isGoing_9 ?_
  refine lv_if_ne (tgt := 52) S.1 S.2.1 dX12_isGoing_10 (by decide) (fun q5 => ?_) (fun q5 => ?_)
  · have f := (if_neg q5).symm.trans f
    refine lv_iconst (v := 0) S.1 S.2.1 dX12_isGoing_52 (by decide) ?_
    exact o_zret S hr hlo I f dX12_isGoing_53
  · have f := (if_pos q5).symm.trans f
    refine lv_aload_n S.1 S.2.1 dX12_isGoing_13 rfl (lv_at hl 0 rfl) ?_
    obtain ⟨v6, e7, f⟩ := ob f
    refine o_gI S lf12_isGoing_115 I e7 dX12_isGoing_14 ?_
    refine lv_iconst (v := 1) S.1 S.2.1 dX12_isGoing_17 (by decide) ?_
    refine lv_icmp_ne (tgt := 29) S.1 S.2.1 dX12_isGoing_18 (by decide) (fun q8 => ?_) (fun q8 => ?_)
    · have f := (if_neg q8).symm.trans f
      exact T12_isGoing_29 S hr hlo  f I (lv_sub hl [0, 1, 2, 3] rfl)
    · have f := (if_pos q8).symm.trans f
      refine lv_aload_n S.1 S.2.1 dX12_isGoing_21 rfl (lv_at hl 0 rfl) ?_
      obtain ⟨v9, e10, f⟩ := ob f
      refine o_gI S lf12_isGoing_430 I e10 dX12_isGoing_22 ?_
      refine lv_iload_n S.1 S.2.1 dX12_isGoing_25 rfl (lv_at hl 2 rfl) ?_
      refine lv_icmp_eq (tgt := 52) S.1 S.2.1 dX12_isGoing_26 (by decide) (fun q11 => ?_) (fun q11 => ?_)
      · have f := (if_pos q11).symm.trans f
        refine lv_iconst (v := 0) S.1 S.2.1 dX12_isGoing_52 (by decide) ?_
        exact o_zret S hr hlo I f dX12_isGoing_53
      · have f := (if_neg q11).symm.trans f
        exact T12_isGoing_29 S hr hlo  f I (lv_sub hl [0, 1, 2, 3] rfl)
theorem M12_isGoing (l : Launch) (D : va_G) (cy : Nat → ClassId) (b : Nat) (A : Nat → Prop) (fl : Bool) {h : PH} {a0 : Nat} {x1 : Int32} {x2 : Int32} {x3 : Int32} {out : Int32 × PH} (f : F12_isGoing h a0 x1 x2 x3 = some out) : Met l yX12_isGoing vX12_isGoing ({ frames := 7, cells := 0, slots := 0, locals := 169 } : Room) (va_Pc [.ref (b + a0), .int x1, .int x2, .int x3] (ph_B D cy b A fl h)) (va_Qi (fun (r : Int32) (u : PH) => (r, u) = out) (ph_B D cy b A fl) A) 0 0 A :=
  o_met (by decide) rfl (Nat.le_of_ble_eq_true rfl) rfl (fun p e s m below meth c S hr hlo hnm ls hl I => T12_isGoing_0 S hr hlo ((gd f).2) I (lv_sub hl [0, 1, 2, 3] rfl))
def vX12_keyOf : List Cond := .code yX12_keyOf cX12_keyOf 9 (some .int) :: TB
theorem lf12_keyOf_253 : Fl vX12_keyOf RX12 253 12 16 := ⟨RX12, TX12, 87, rfl, by decide, (fun w h9 => List.mem_cons_of_mem _ (wC_wsX120 w h9)), (List.mem_cons_of_mem _ wT_12_14)⟩
theorem lf12_keyOf_54 : Fl vX12_keyOf RX12 54 12 36 := ⟨RX12, TX12, 87, rfl, by decide, (fun w h9 => List.mem_cons_of_mem _ (wC_wsX120 w h9)), (List.mem_cons_of_mem _ wT_10_11)⟩
theorem lf12_keyOf_103 : Fl vX12_keyOf RX12 103 12 60 := ⟨RX12, TX12, 87, rfl, by decide, (fun w h9 => List.mem_cons_of_mem _ (wC_wsX120 w h9)), (List.mem_cons_of_mem _ wT_11_3)⟩
theorem lf12_keyOf_88 : Fl vX12_keyOf RX12 88 12 55 := ⟨RX12, TX12, 87, rfl, by decide, (fun w h9 => List.mem_cons_of_mem _ (wC_wsX120 w h9)), (List.mem_cons_of_mem _ wT_10_22)⟩
theorem lf12_keyOf_48 : Fl vX12_keyOf RX12 48 12 34 := ⟨RX12, TX12, 87, rfl, by decide, (fun w h9 => List.mem_cons_of_mem _ (wC_wsX120 w h9)), (List.mem_cons_of_mem _ wT_10_9)⟩
theorem gX12_keyOf_X12_peakAt : GoodIn vX12_keyOf (wsV RX12 400 RX12 yX12_peakAt vX12_peakAt) := gV_of wT_34_22 wT_34_23 wT_35_0 wT_1_5 wT_35_1
theorem gX12_keyOf_X12_far : GoodIn vX12_keyOf (wsV RX12 403 RX12 yX12_far vX12_far) := gV_of wT_36_8 wT_36_9 wT_36_10 wT_1_5 wT_36_11
theorem lf12_keyOf_241 : Fl vX12_keyOf RX12 241 12 12 := ⟨RX12, TX12, 87, rfl, by decide, (fun w h9 => List.mem_cons_of_mem _ (wC_wsX120 w h9)), (List.mem_cons_of_mem _ wT_12_10)⟩
theorem lf12_keyOf_91 : Fl vX12_keyOf RX12 91 12 56 := ⟨RX12, TX12, 87, rfl, by decide, (fun w h9 => List.mem_cons_of_mem _ (wC_wsX120 w h9)), (List.mem_cons_of_mem _ wT_10_23)⟩
theorem cd12_keyOf : Cd yX12_keyOf 4 := ⟨by decide, by decide, by decide +kernel⟩
set_option maxHeartbeats 4000000 in
set_option maxRecDepth 100000 in
theorem T12_keyOf_122 (S : CallFix p m c cX12_keyOf 9 s args vX12_keyOf RX12) (hr : meth.sig.returnType = (some .int)) (hlo : meth.locks = false) {out : Int32 × PH} {k76 : PH → Nat → Int32 → Int32 → Int32 → Int32 → Int32 → Int32 → Option (Int32 × PH)} (hk76 : ∀ {h : PH} {a0 : Nat} {x1 : Int32} {x2 : Int32} {x3 : Int32} {x6 : Int32} {x7 : Int32} {x8 : Int32}, k76 h a0 x1 x2 x3 x6 x7 x8 = some out → ∀ (H : Heap) (locs : List Loc), ph_I D cy b A fl h s H locs → ∀ (ls : Array Slot), lv_has ls 9 [(0, .ref (b + a0)), (1, .int x1), (2, .int x2), (3, .int x3), (6, .int x6), (7, .int x7), (8, .int x8)] → W p l e ({ frames := 5, cells := 0, slots := 0, locals := 120 } : Room) s m args below meth c H locs 0 0 (MQ below (va_Qi (fun (r : Int32) (u : PH) => (r, u) = out) (ph_B D cy b A fl) A) args s 0 0 A) (F0 m 76 ls [])) {h : PH} {a0 : Nat} {x1 : Int32} {x2 : Int32} {x3 : Int32} {x6 : Int32} {x8 : Int32} (f : F12_keyOf_122 k76 h a0 x1 x2 x3 x6 x8 = some out) {H : Heap} {locs : List Loc} (I : ph_I D cy b A fl h s H locs) {ls : Array Slot} (hl : lv_has ls 9 [(0, .ref (b + a0)), (1, .int x1), (2, .int x2), (3, .int x3), (6, .int x6), (8, .int x8)]) : W p l e ({ frames := 5, cells := 0, slots := 0, locals := 120 } : Room) s m args below meth c H locs 0 0 (MQ below (va_Qi (fun (r : Int32) (u : PH) => (r, u) = out) (ph_B D cy b A fl) A) args s 0 0 A) (F0 m 122 ls []) := by
  unfold F12_keyOf_122 at f
  refine lv_iconst (v := 1) S.1 S.2.1 dX12_keyOf_122 (by decide) ?_
  refine lv_goto (tgt := 127) S.1 S.2.1 dX12_keyOf_123 (by decide) ?_
  refine lv_istore (lv' := [(7, .int 1), (0, .ref (b + a0)), (1, .int x1), (2, .int x2), (3, .int x3), (6, .int x6), (8, .int x8)]) S.1 S.2.1 dX12_keyOf_127 hl (by decide) rfl (fun ls hl => ?_)
  refine lv_iinc (v := (x8 + 1)) (lv' := [(8, .int (x8 + 1)), (7, .int 1), (0, .ref (b + a0)), (1, .int x1), (2, .int x2), (3, .int x3), (6, .int x6)]) S.1 S.2.1 dX12_keyOf_129 hl (k := 6) rfl (congrArg (fun z => x8 + z) (by decide)) (by decide) rfl (fun ls hl => ?_)
  refine lv_goto (tgt := 76) S.1 S.2.1 dX12_keyOf_132 (by decide) ?_
  exact hk76 f _ _ I _ (lv_sub hl [2, 3, 4, 5, 6, 1, 0] rfl)
set_option maxHeartbeats 4000000 in
set_option maxRecDepth 100000 in
theorem T12_keyOf_76 (S : CallFix p m c cX12_keyOf 9 s args vX12_keyOf RX12) (hr : meth.sig.returnType = (some .int)) (hlo : meth.locks = false) {out : Int32 × PH} : ∀ (n : Nat) {h : PH} {a0 : Nat} {x1 : Int32} {x2 : Int32} {x3 : Int32} {x6 : Int32} {x7 : Int32} {x8 : Int32} (f : F12_keyOf_76  n h a0 x1 x2 x3 x6 x7 x8 = some out) {H : Heap} {locs : List Loc} (I : ph_I D cy b A fl h s H locs) {ls : Array Slot} (hl : lv_has ls 9 [(0, .ref (b + a0)), (1, .int x1), (2, .int x2), (3, .int x3), (6, .int x6), (7, .int x7), (8, .int x8)]), W p l e ({ frames := 5, cells := 0, slots := 0, locals := 120 } : Room) s m args below meth c H locs 0 0 (MQ below (va_Qi (fun (r : Int32) (u : PH) => (r, u) = out) (ph_B D cy b A fl) A) args s 0 0 A) (F0 m 76 ls []) := by
  intro n
  induction n with
  | zero => intro h a0 x1 x2 x3 x6 x7 x8 f; rw [F12_keyOf_76] at f; cases f
  | succ n ih =>
    intro h a0 x1 x2 x3 x6 x7 x8 f H locs I ls hl
    rw [F12_keyOf_76] at f
    refine lv_iload S.1 S.2.1 dX12_keyOf_76 (lv_at hl 6 rfl) ?_
    refine lv_aload_n S.1 S.2.1 dX12_keyOf_78 rfl (lv_at hl 0 rfl) ?_
    obtain ⟨v1, e2, f⟩ := ob f
    refine o_gI S lf12_keyOf_253 I e2 dX12_keyOf_79 ?_
    refine lv_icmp_ge (tgt := 135) S.1 S.2.1 dX12_keyOf_82 (by decide) (fun q3 => ?_) (fun q3 => ?_)
    · have f := (if_pos q3).symm.trans f
      refine lv_iload S.1 S.2.1 dX12_keyOf_135 (lv_at hl 5 rfl) ?_
      refine lv_if_eq (tgt := 146) S.1 S.2.1 dX12_keyOf_137 (by decide) (fun q4 => ?_) (fun q4 => ?_)
      · have f := (if_pos q4).symm.trans f
        refine lv_iconst (v := 0) S.1 S.2.1 dX12_keyOf_146 (by decide) ?_
        refine lv_iload S.1 S.2.1 dX12_keyOf_147 (lv_at hl 4 rfl) ?_
        refine lv_iadd S.1 S.2.1 dX12_keyOf_149 ?_
        exact o_iret S hr hlo I f dX12_keyOf_150
      · have f := (if_neg q4).symm.trans f
        refine lv_sipush (v := 1000) S.1 S.2.1 dX12_keyOf_140 (by decide) ?_
        refine lv_goto (tgt := 147) S.1 S.2.1 dX12_keyOf_143 (by decide) ?_
        refine lv_iload S.1 S.2.1 dX12_keyOf_147 (lv_at hl 4 rfl) ?_
        refine lv_iadd S.1 S.2.1 dX12_keyOf_149 ?_
        exact o_iret S hr hlo I f dX12_keyOf_150
    · have f := (if_neg q3).symm.trans f
      refine lv_iload S.1 S.2.1 dX12_keyOf_85 (lv_at hl 5 rfl) ?_
      refine lv_if_ne (tgt := 122) S.1 S.2.1 dX12_keyOf_87 (by decide) (fun q5 => ?_) (fun q5 => ?_)
      · have f := (if_neg q5).symm.trans f
        exact T12_keyOf_122 S hr hlo (fun f _ _ I _ hl => ih f I hl) f I (lv_sub hl [0, 1, 2, 3, 4, 6] rfl)
      · have f := (if_pos q5).symm.trans f
        refine lv_aload_n S.1 S.2.1 dX12_keyOf_90 rfl (lv_at hl 0 rfl) ?_
        obtain ⟨r6, e7, f⟩ := ob f
        refine o_gR S lf12_keyOf_54 I e7 dX12_keyOf_91 ?_
        refine lv_iload S.1 S.2.1 dX12_keyOf_94 (lv_at hl 6 rfl) ?_
        obtain ⟨v9, e8, f⟩ := ob f
        refine o_iald S I e8 dX12_keyOf_96 ?_
        refine lv_aload_n S.1 S.2.1 dX12_keyOf_97 rfl (lv_at hl 0 rfl) ?_
        obtain ⟨r10, e11, f⟩ := ob f
        refine o_gR S lf12_keyOf_54 I e11 dX12_keyOf_98 ?_
        refine lv_iload_n S.1 S.2.1 dX12_keyOf_101 rfl (lv_at hl 3 rfl) ?_
        obtain ⟨v13, e12, f⟩ := ob f
        refine o_iald S I e12 dX12_keyOf_102 ?_
        refine lv_icmp_ne (tgt := 126) S.1 S.2.1 dX12_keyOf_103 (by decide) (fun q14 => ?_) (fun q14 => ?_)
        · have f := (if_neg q14).symm.trans f
          refine lv_iconst (v := 0) S.1 S.2.1 dX12_keyOf_126 (by decide) ?_
          refine lv_istore (lv' := [(7, .int 0), (0, .ref (b + a0)), (1, .int x1), (2, .int x2), (3, .int x3), (6, .int x6), (8, .int x8)]) S.1 S.2.1 dX12_keyOf_127 hl (by decide) rfl (fun ls hl => ?_)
          refine lv_iinc (v := (x8 + 1)) (lv' := [(8, .int (x8 + 1)), (7, .int 0), (0, .ref (b + a0)), (1, .int x1), (2, .int x2), (3, .int x3), (6, .int x6)]) S.1 S.2.1 dX12_keyOf_129 hl (k := 6) rfl (congrArg (fun z => x8 + z) (by decide)) (by decide) rfl (fun ls hl => ?_)
          refine lv_goto (tgt := 76) S.1 S.2.1 dX12_keyOf_132 (by decide) ?_
          exact ih f I (lv_sub hl [2, 3, 4, 5, 6, 1, 0] rfl)
        · have f := (if_pos q14).symm.trans f
          refine lv_aload_n S.1 S.2.1 dX12_keyOf_106 rfl (lv_at hl 0 rfl) ?_
          obtain ⟨r15, e16, f⟩ := ob f
          refine o_gR S lf12_keyOf_103 I e16 dX12_keyOf_107 ?_
          refine lv_bipush (v := 28) S.1 S.2.1 dX12_keyOf_110 (by decide) ?_
          refine lv_iload_n S.1 S.2.1 dX12_keyOf_112 rfl (lv_at hl 1 rfl) ?_
          refine lv_imul S.1 S.2.1 dX12_keyOf_113 ?_
          refine lv_iload S.1 S.2.1 dX12_keyOf_114 (lv_at hl 6 rfl) ?_
          refine lv_iadd S.1 S.2.1 dX12_keyOf_116 ?_
          obtain ⟨v18, e17, f⟩ := ob f
          refine o_iald S I e17 dX12_keyOf_117 ?_
          refine lv_iload_n S.1 S.2.1 dX12_keyOf_118 rfl (lv_at hl 2 rfl) ?_
          refine lv_icmp_ne (tgt := 126) S.1 S.2.1 dX12_keyOf_119 (by decide) (fun q19 => ?_) (fun q19 => ?_)
          · have f := (if_neg q19).symm.trans f
            refine lv_iconst (v := 0) S.1 S.2.1 dX12_keyOf_126 (by decide) ?_
            refine lv_istore (lv' := [(7, .int 0), (0, .ref (b + a0)), (1, .int x1), (2, .int x2), (3, .int x3), (6, .int x6), (8, .int x8)]) S.1 S.2.1 dX12_keyOf_127 hl (by decide) rfl (fun ls hl => ?_)
            refine lv_iinc (v := (x8 + 1)) (lv' := [(8, .int (x8 + 1)), (7, .int 0), (0, .ref (b + a0)), (1, .int x1), (2, .int x2), (3, .int x3), (6, .int x6)]) S.1 S.2.1 dX12_keyOf_129 hl (k := 6) rfl (congrArg (fun z => x8 + z) (by decide)) (by decide) rfl (fun ls hl => ?_)
            refine lv_goto (tgt := 76) S.1 S.2.1 dX12_keyOf_132 (by decide) ?_
            exact ih f I (lv_sub hl [2, 3, 4, 5, 6, 1, 0] rfl)
          · have f := (if_pos q19).symm.trans f
            exact T12_keyOf_122 S hr hlo (fun f _ _ I _ hl => ih f I hl) f I (lv_sub hl [0, 1, 2, 3, 4, 6] rfl)
set_option maxHeartbeats 4000000 in
set_option maxRecDepth 100000 in
theorem T12_keyOf_0 (S : CallFix p m c cX12_keyOf 9 s args vX12_keyOf RX12) (hr : meth.sig.returnType = (some .int)) (hlo : meth.locks = false) {out : Int32 × PH} {h : PH} {a0 : Nat} {x1 : Int32} {x2 : Int32} {x3 : Int32} {x4 : Int32} (f : F12_keyOf_0  h a0 x1 x2 x3 x4 = some out) {H : Heap} {locs : List Loc} (I : ph_I D cy b A fl h s H locs) {ls : Array Slot} (hl : lv_has ls 9 [(0, .ref (b + a0)), (1, .int x1), (2, .int x2), (3, .int x3), (4, .int x4)]) : W p l e ({ frames := 5, cells := 0, slots := 0, locals := 120 } : Room) s m args below meth c H locs 0 0 (MQ below (va_Qi (fun (r : Int32) (u : PH) => (r, u) = out) (ph_B D cy b A fl) A) args s 0 0 A) (F0 m 0 ls []) := by
  unfold F12_keyOf_0 at f
  refine lv_aload_n S.1 S.2.1 dX12_keyOf_0 rfl (lv_at hl 0 rfl) ?_
  obtain ⟨r1, e2, f⟩ := ob f
  refine o_gR S lf12_keyOf_88 I e2 dX12_keyOf_1 ?_
  refine lv_iconst (v := 5) S.1 S.2.1 dX12_keyOf_4 (by decide) ?_
  refine lv_iload_n S.1 S.2.1 dX12_keyOf_5 rfl (lv_at hl 1 rfl) ?_
  refine lv_imul S.1 S.2.1 dX12_keyOf_6 ?_
  refine lv_iload_n S.1 S.2.1 dX12_keyOf_7 rfl (lv_at hl 2 rfl) ?_
  refine lv_iadd S.1 S.2.1 dX12_keyOf_8 ?_
  obtain ⟨v4, e3, f⟩ := ob f
  refine o_iald S I e3 dX12_keyOf_9 ?_
  refine lv_istore (lv' := [(5, .int v4), (0, .ref (b + a0)), (1, .int x1), (2, .int x2), (3, .int x3), (4, .int x4)]) S.1 S.2.1 dX12_keyOf_10 hl (by decide) rfl (fun ls hl => ?_)
  refine lv_aload_n S.1 S.2.1 dX12_keyOf_12 rfl (lv_at hl 1 rfl) ?_
  refine lv_iload S.1 S.2.1 dX12_keyOf_13 (lv_at hl 0 rfl) ?_
  refine lv_aload_n S.1 S.2.1 dX12_keyOf_15 rfl (lv_at hl 1 rfl) ?_
  refine lv_aload_n S.1 S.2.1 dX12_keyOf_16 rfl (lv_at hl 1 rfl) ?_
  obtain ⟨r5, e6, f⟩ := ob f
  refine o_gR S lf12_keyOf_48 I e6 dX12_keyOf_17 ?_
  refine lv_iload_n S.1 S.2.1 dX12_keyOf_20 rfl (lv_at hl 4 rfl) ?_
  obtain ⟨v8, e7, f⟩ := ob f
  refine o_iald S I e7 dX12_keyOf_21 ?_
  obtain ⟨o9, e10, f⟩ := ob f
  refine o_Vi S (As := [.int v8]) (rest := [.int v4, .ref (b + a0)]) (ci := 12) (M12_peakAt l D cy b A fl e10) gX12_keyOf_X12_peakAt rfl rfl rfl cd12_peakAt ⟨Nat.le_of_ble_eq_true rfl, Nat.le_of_ble_eq_true rfl⟩ I (gd e10).1 clX12 rfl rfl hl.1 rfl (Nat.le_of_ble_eq_true rfl) dX12_keyOf_22 ⟨Nat.le_of_ble_eq_true rfl, Nat.le_of_ble_eq_true rfl⟩ (fun H locs I => ?_)
  obtain ⟨o11, e12, f⟩ := ob f
  refine o_Vi S (As := [.int v4, .int o9.1]) (rest := []) (ci := 12) (M12_far l D cy b A fl e12) gX12_keyOf_X12_far rfl rfl rfl cd12_far ⟨Nat.le_of_ble_eq_true rfl, Nat.le_of_ble_eq_true rfl⟩ I (gd e12).1 clX12 rfl rfl hl.1 rfl (Nat.le_of_ble_eq_true rfl) dX12_keyOf_25 ⟨Nat.le_of_ble_eq_true rfl, Nat.le_of_ble_eq_true rfl⟩ (fun H locs I => ?_)
  refine lv_istore (lv' := [(6, .int o11.1), (5, .int v4), (0, .ref (b + a0)), (1, .int x1), (2, .int x2), (3, .int x3), (4, .int x4)]) S.1 S.2.1 dX12_keyOf_28 hl (by decide) rfl (fun ls hl => ?_)
  refine lv_iload S.1 S.2.1 dX12_keyOf_30 (lv_at hl 6 rfl) ?_
  refine lv_if_ne (tgt := 38) S.1 S.2.1 dX12_keyOf_32 (by decide) (fun q13 => ?_) (fun q13 => ?_)
  · have f := (if_neg q13).symm.trans f
    refine lv_iload S.1 S.2.1 dX12_keyOf_38 (lv_at hl 6 rfl) ?_
    refine lv_iconst (v := 1) S.1 S.2.1 dX12_keyOf_40 (by decide) ?_
    refine lv_icmp_ne (tgt := 55) S.1 S.2.1 dX12_keyOf_41 (by decide) (fun q14 => ?_) (fun q14 => ?_)
    · have f := (if_neg q14).symm.trans f
      refine lv_iload S.1 S.2.1 dX12_keyOf_55 (lv_at hl 6 rfl) ?_
      refine lv_iconst (v := 3) S.1 S.2.1 dX12_keyOf_57 (by decide) ?_
      refine lv_icmp_ne (tgt := 70) S.1 S.2.1 dX12_keyOf_58 (by decide) (fun q15 => ?_) (fun q15 => ?_)
      · have f := (if_neg q15).symm.trans f
        refine lv_iconst (v := 0) S.1 S.2.1 dX12_keyOf_70 (by decide) ?_
        refine lv_istore (lv' := [(7, .int 0), (6, .int o11.1), (5, .int v4), (0, .ref (b + a0)), (1, .int x1), (2, .int x2), (3, .int x3), (4, .int x4)]) S.1 S.2.1 dX12_keyOf_71 hl (by decide) rfl (fun ls hl => ?_)
        refine lv_iconst (v := 0) S.1 S.2.1 dX12_keyOf_73 (by decide) ?_
        refine lv_istore (lv' := [(8, .int 0), (7, .int 0), (6, .int o11.1), (5, .int v4), (0, .ref (b + a0)), (1, .int x1), (2, .int x2), (3, .int x3), (4, .int x4)]) S.1 S.2.1 dX12_keyOf_74 hl (by decide) rfl (fun ls hl => ?_)
        exact T12_keyOf_76 S hr hlo  1024 f I (lv_sub hl [4, 5, 6, 7, 2, 1, 0] rfl)
      · have f := (if_pos q15).symm.trans f
        refine lv_iload S.1 S.2.1 dX12_keyOf_61 (lv_at hl 1 rfl) ?_
        refine lv_aload_n S.1 S.2.1 dX12_keyOf_63 rfl (lv_at hl 2 rfl) ?_
        obtain ⟨v16, e17, f⟩ := ob f
        refine o_gI S lf12_keyOf_241 I e17 dX12_keyOf_64 ?_
        have q18 : ¬ v16 = 0 := fun q => by rw [if_pos q] at f; cases f
        have f := (if_neg q18).symm.trans f
        refine lv_idiv S.1 S.2.1 dX12_keyOf_67 q18 ?_
        refine lv_ineg S.1 S.2.1 dX12_keyOf_68 ?_
        exact o_iret S hr hlo I f dX12_keyOf_69
    · have f := (if_pos q14).symm.trans f
      refine lv_aload_n S.1 S.2.1 dX12_keyOf_44 rfl (lv_at hl 2 rfl) ?_
      obtain ⟨r19, e20, f⟩ := ob f
      refine o_gR S lf12_keyOf_91 I e20 dX12_keyOf_45 ?_
      refine lv_iconst (v := 5) S.1 S.2.1 dX12_keyOf_48 (by decide) ?_
      refine lv_iload_n S.1 S.2.1 dX12_keyOf_49 rfl (lv_at hl 3 rfl) ?_
      refine lv_imul S.1 S.2.1 dX12_keyOf_50 ?_
      refine lv_iload_n S.1 S.2.1 dX12_keyOf_51 rfl (lv_at hl 4 rfl) ?_
      refine lv_iadd S.1 S.2.1 dX12_keyOf_52 ?_
      obtain ⟨v22, e21, f⟩ := ob f
      refine o_iald S I e21 dX12_keyOf_53 ?_
      exact o_iret S hr hlo I f dX12_keyOf_54
  · have f := (if_pos q13).symm.trans f
    refine lv_iload S.1 S.2.1 dX12_keyOf_35 (lv_at hl 0 rfl) ?_
    exact o_iret S hr hlo I f dX12_keyOf_37
theorem M12_keyOf (l : Launch) (D : va_G) (cy : Nat → ClassId) (b : Nat) (A : Nat → Prop) (fl : Bool) {h : PH} {a0 : Nat} {x1 : Int32} {x2 : Int32} {x3 : Int32} {x4 : Int32} {out : Int32 × PH} (f : F12_keyOf h a0 x1 x2 x3 x4 = some out) : Met l yX12_keyOf vX12_keyOf ({ frames := 5, cells := 0, slots := 0, locals := 120 } : Room) (va_Pc [.ref (b + a0), .int x1, .int x2, .int x3, .int x4] (ph_B D cy b A fl h)) (va_Qi (fun (r : Int32) (u : PH) => (r, u) = out) (ph_B D cy b A fl) A) 0 0 A :=
  o_met (by decide) rfl (Nat.le_of_ble_eq_true rfl) rfl (fun p e s m below meth c S hr hlo hnm ls hl I => T12_keyOf_0 S hr hlo ((gd f).2) I (lv_sub hl [0, 1, 2, 3, 4] rfl))
def vX12_layOrder : List Cond := .code yX12_layOrder cX12_layOrder 7 none :: TB
theorem lf12_layOrder_118 : Fl vX12_layOrder RX12 118 12 68 := ⟨RX12, TX12, 87, rfl, by decide, (fun w h9 => List.mem_cons_of_mem _ (wC_wsX120 w h9)), (List.mem_cons_of_mem _ wT_11_8)⟩
theorem lf12_layOrder_433 : Fl vX12_layOrder RX12 433 12 69 := ⟨RX12, TX12, 87, rfl, by decide, (fun w h9 => List.mem_cons_of_mem _ (wC_wsX120 w h9)), (List.mem_cons_of_mem _ wT_46_21)⟩
theorem lp12_layOrder_433 : Pl vX12_layOrder RX12 433 12 69 .int := ⟨RX12, TX12, 87, tyX12, rfl, by decide, (fun w h9 => List.mem_cons_of_mem _ (wC_wsX120 w h9)), (List.mem_cons_of_mem _ wT_46_21), tyX12_ok, nmX12, rfl, rfl⟩
theorem gX12_layOrder_X12_keyOf : GoodIn vX12_layOrder (wsV RX12 439 RX12 yX12_keyOf vX12_keyOf) := gV_of wT_47_7 wT_47_8 wT_47_9 wT_1_5 wT_47_10
theorem lf12_layOrder_247 : Fl vX12_layOrder RX12 247 12 14 := ⟨RX12, TX12, 87, rfl, by decide, (fun w h9 => List.mem_cons_of_mem _ (wC_wsX120 w h9)), (List.mem_cons_of_mem _ wT_12_12)⟩
theorem gX12_layOrder_X12_isGoing : GoodIn vX12_layOrder (wsV RX12 436 RX12 yX12_isGoing vX12_isGoing) := gV_of wT_47_2 wT_47_3 wT_47_4 wT_1_5 wT_47_5
theorem cd12_layOrder : Cd yX12_layOrder 3 := ⟨by decide, by decide, by decide +kernel⟩
set_option maxHeartbeats 4000000 in
set_option maxRecDepth 100000 in
theorem T12_layOrder_96 (S : CallFix p m c cX12_layOrder 7 s args vX12_layOrder RX12) (hr : meth.sig.returnType = none) (hlo : meth.locks = false) {out : PH} {k8 : PH → Nat → Int32 → Int32 → Int32 → Int32 → Option (PH)} (hk8 : ∀ {h : PH} {a0 : Nat} {x1 : Int32} {x2 : Int32} {x3 : Int32} {x4 : Int32}, k8 h a0 x1 x2 x3 x4 = some out → ∀ (H : Heap) (locs : List Loc), ph_I D cy b A fl h s H locs → ∀ (ls : Array Slot), lv_has ls 7 [(0, .ref (b + a0)), (1, .int x1), (2, .int x2), (3, .int x3), (4, .int x4)] → W p l e ({ frames := 8, cells := 0, slots := 0, locals := 192 } : Room) s m args below meth c H locs 0 0 (MQ below (va_Qv (fun (u : PH) => u = out) (ph_B D cy b A fl) A) args s 0 0 A) (F0 m 8 ls [])) {h : PH} {a0 : Nat} {x1 : Int32} {x2 : Int32} {x3 : Int32} {x4 : Int32} {x6 : Int32} (f : F12_layOrder_96 k8 h a0 x1 x2 x3 x4 x6 = some out) {H : Heap} {locs : List Loc} (I : ph_I D cy b A fl h s H locs) {ls : Array Slot} (hl : lv_has ls 7 [(0, .ref (b + a0)), (1, .int x1), (2, .int x2), (3, .int x3), (4, .int x4), (6, .int x6)]) : W p l e ({ frames := 8, cells := 0, slots := 0, locals := 192 } : Room) s m args below meth c H locs 0 0 (MQ below (va_Qv (fun (u : PH) => u = out) (ph_B D cy b A fl) A) args s 0 0 A) (F0 m 96 ls []) := by
  unfold F12_layOrder_96 at f
  refine lv_aload_n S.1 S.2.1 dX12_layOrder_96 rfl (lv_at hl 0 rfl) ?_
  obtain ⟨r1, e2, f⟩ := ob f
  refine o_gR S lf12_layOrder_118 I e2 dX12_layOrder_97 ?_
  refine lv_iload S.1 S.2.1 dX12_layOrder_100 (lv_at hl 5 rfl) ?_
  refine lv_iload S.1 S.2.1 dX12_layOrder_102 (lv_at hl 4 rfl) ?_
  obtain ⟨h4, e3, f⟩ := ob f
  refine o_iast S I e3 dX12_layOrder_104 (fun H locs I => ?_)
  refine lv_aload_n S.1 S.2.1 dX12_layOrder_105 rfl (lv_at hl 0 rfl) ?_
  refine lv_dup S.1 S.2.1 dX12_layOrder_106 rfl ?_
  obtain ⟨v5, e6, f⟩ := ob f
  refine o_gI S lf12_layOrder_433 I e6 dX12_layOrder_107 ?_
  refine lv_iconst (v := 1) S.1 S.2.1 dX12_layOrder_110 (by decide) ?_
  refine lv_iadd S.1 S.2.1 dX12_layOrder_111 ?_
  obtain ⟨h7, e8, f⟩ := ob f
  refine o_pI S lp12_layOrder_433 I e8 dX12_layOrder_112 (fun H locs I => ?_)
  refine lv_iinc (v := (x4 + 1)) (lv' := [(4, .int (x4 + 1)), (0, .ref (b + a0)), (1, .int x1), (2, .int x2), (3, .int x3), (6, .int x6)]) S.1 S.2.1 dX12_layOrder_115 hl (k := 4) rfl (congrArg (fun z => x4 + z) (by decide)) (by decide) rfl (fun ls hl => ?_)
  refine lv_goto (tgt := 8) S.1 S.2.1 dX12_layOrder_118 (by decide) ?_
  exact hk8 f _ _ I _ (lv_sub hl [1, 2, 3, 4, 0] rfl)
set_option maxHeartbeats 4000000 in
set_option maxRecDepth 100000 in
theorem T12_layOrder_48 (S : CallFix p m c cX12_layOrder 7 s args vX12_layOrder RX12) (hr : meth.sig.returnType = none) (hlo : meth.locks = false) {out : PH} {k8 : PH → Nat → Int32 → Int32 → Int32 → Int32 → Option (PH)} (hk8 : ∀ {h : PH} {a0 : Nat} {x1 : Int32} {x2 : Int32} {x3 : Int32} {x4 : Int32}, k8 h a0 x1 x2 x3 x4 = some out → ∀ (H : Heap) (locs : List Loc), ph_I D cy b A fl h s H locs → ∀ (ls : Array Slot), lv_has ls 7 [(0, .ref (b + a0)), (1, .int x1), (2, .int x2), (3, .int x3), (4, .int x4)] → W p l e ({ frames := 8, cells := 0, slots := 0, locals := 192 } : Room) s m args below meth c H locs 0 0 (MQ below (va_Qv (fun (u : PH) => u = out) (ph_B D cy b A fl) A) args s 0 0 A) (F0 m 8 ls [])) : ∀ (n : Nat) {h : PH} {a0 : Nat} {x1 : Int32} {x2 : Int32} {x3 : Int32} {x4 : Int32} {x5 : Int32} {x6 : Int32} (f : F12_layOrder_48 k8 n h a0 x1 x2 x3 x4 x5 x6 = some out) {H : Heap} {locs : List Loc} (I : ph_I D cy b A fl h s H locs) {ls : Array Slot} (hl : lv_has ls 7 [(0, .ref (b + a0)), (1, .int x1), (2, .int x2), (3, .int x3), (4, .int x4), (5, .int x5), (6, .int x6)]), W p l e ({ frames := 8, cells := 0, slots := 0, locals := 192 } : Room) s m args below meth c H locs 0 0 (MQ below (va_Qv (fun (u : PH) => u = out) (ph_B D cy b A fl) A) args s 0 0 A) (F0 m 48 ls []) := by
  intro n
  induction n with
  | zero => intro h a0 x1 x2 x3 x4 x5 x6 f; rw [F12_layOrder_48] at f; cases f
  | succ n ih =>
    intro h a0 x1 x2 x3 x4 x5 x6 f H locs I ls hl
    rw [F12_layOrder_48] at f
    refine lv_iload S.1 S.2.1 dX12_layOrder_48 (lv_at hl 6 rfl) ?_
    refine lv_if_le (tgt := 96) S.1 S.2.1 dX12_layOrder_50 (by decide) (fun q1 => ?_) (fun q1 => ?_)
    · have f := (if_pos q1).symm.trans f
      exact T12_layOrder_96 S hr hlo (fun f _ _ I _ hl => hk8 f _ _ I _ hl) f I (lv_sub hl [0, 1, 2, 3, 4, 6] rfl)
    · have f := (if_neg q1).symm.trans f
      refine lv_aload_n S.1 S.2.1 dX12_layOrder_53 rfl (lv_at hl 0 rfl) ?_
      refine lv_iload_n S.1 S.2.1 dX12_layOrder_54 rfl (lv_at hl 1 rfl) ?_
      refine lv_aload_n S.1 S.2.1 dX12_layOrder_55 rfl (lv_at hl 0 rfl) ?_
      obtain ⟨r2, e3, f⟩ := ob f
      refine o_gR S lf12_layOrder_118 I e3 dX12_layOrder_56 ?_
      refine lv_iload S.1 S.2.1 dX12_layOrder_59 (lv_at hl 6 rfl) ?_
      refine lv_iconst (v := 1) S.1 S.2.1 dX12_layOrder_61 (by decide) ?_
      refine lv_isub S.1 S.2.1 dX12_layOrder_62 ?_
      obtain ⟨v5, e4, f⟩ := ob f
      refine o_iald S I e4 dX12_layOrder_63 ?_
      refine lv_iload_n S.1 S.2.1 dX12_layOrder_64 rfl (lv_at hl 2 rfl) ?_
      refine lv_iload_n S.1 S.2.1 dX12_layOrder_65 rfl (lv_at hl 3 rfl) ?_
      obtain ⟨o6, e7, f⟩ := ob f
      refine o_Vi S (As := [.int x1, .int v5, .int x2, .int x3]) (rest := []) (ci := 12) (M12_keyOf l D cy b A fl e7) gX12_layOrder_X12_keyOf rfl rfl rfl cd12_keyOf ⟨Nat.le_of_ble_eq_true rfl, Nat.le_of_ble_eq_true rfl⟩ I (gd e7).1 clX12 rfl rfl hl.1 rfl (Nat.le_of_ble_eq_true rfl) dX12_layOrder_66 ⟨Nat.le_of_ble_eq_true rfl, Nat.le_of_ble_eq_true rfl⟩ (fun H locs I => ?_)
      refine lv_iload S.1 S.2.1 dX12_layOrder_69 (lv_at hl 5 rfl) ?_
      refine lv_icmp_le (tgt := 96) S.1 S.2.1 dX12_layOrder_71 (by decide) (fun q8 => ?_) (fun q8 => ?_)
      · have f := (if_pos q8).symm.trans f
        exact T12_layOrder_96 S hr hlo (fun f _ _ I _ hl => hk8 f _ _ I _ hl) f I (lv_sub hl [0, 1, 2, 3, 4, 6] rfl)
      · have f := (if_neg q8).symm.trans f
        refine lv_aload_n S.1 S.2.1 dX12_layOrder_74 rfl (lv_at hl 0 rfl) ?_
        obtain ⟨r9, e10, f⟩ := ob f
        refine o_gR S lf12_layOrder_118 I e10 dX12_layOrder_75 ?_
        refine lv_iload S.1 S.2.1 dX12_layOrder_78 (lv_at hl 6 rfl) ?_
        refine lv_aload_n S.1 S.2.1 dX12_layOrder_80 rfl (lv_at hl 0 rfl) ?_
        obtain ⟨r11, e12, f⟩ := ob f
        refine o_gR S lf12_layOrder_118 I e12 dX12_layOrder_81 ?_
        refine lv_iload S.1 S.2.1 dX12_layOrder_84 (lv_at hl 6 rfl) ?_
        refine lv_iconst (v := 1) S.1 S.2.1 dX12_layOrder_86 (by decide) ?_
        refine lv_isub S.1 S.2.1 dX12_layOrder_87 ?_
        obtain ⟨v14, e13, f⟩ := ob f
        refine o_iald S I e13 dX12_layOrder_88 ?_
        obtain ⟨h16, e15, f⟩ := ob f
        refine o_iast S I e15 dX12_layOrder_89 (fun H locs I => ?_)
        refine lv_iinc (v := (x6 + (-1))) (lv' := [(6, .int (x6 + (-1))), (0, .ref (b + a0)), (1, .int x1), (2, .int x2), (3, .int x3), (4, .int x4), (5, .int x5)]) S.1 S.2.1 dX12_layOrder_90 hl (k := 6) rfl (congrArg (fun z => x6 + z) (by decide)) (by decide) rfl (fun ls hl => ?_)
        refine lv_goto (tgt := 48) S.1 S.2.1 dX12_layOrder_93 (by decide) ?_
        exact ih f I (lv_sub hl [1, 2, 3, 4, 5, 6, 0] rfl)
set_option maxHeartbeats 4000000 in
set_option maxRecDepth 100000 in
theorem T12_layOrder_8 (S : CallFix p m c cX12_layOrder 7 s args vX12_layOrder RX12) (hr : meth.sig.returnType = none) (hlo : meth.locks = false) {out : PH} : ∀ (n : Nat) {h : PH} {a0 : Nat} {x1 : Int32} {x2 : Int32} {x3 : Int32} {x4 : Int32} (f : F12_layOrder_8  n h a0 x1 x2 x3 x4 = some out) {H : Heap} {locs : List Loc} (I : ph_I D cy b A fl h s H locs) {ls : Array Slot} (hl : lv_has ls 7 [(0, .ref (b + a0)), (1, .int x1), (2, .int x2), (3, .int x3), (4, .int x4)]), W p l e ({ frames := 8, cells := 0, slots := 0, locals := 192 } : Room) s m args below meth c H locs 0 0 (MQ below (va_Qv (fun (u : PH) => u = out) (ph_B D cy b A fl) A) args s 0 0 A) (F0 m 8 ls []) := by
  intro n
  induction n with
  | zero => intro h a0 x1 x2 x3 x4 f; rw [F12_layOrder_8] at f; cases f
  | succ n ih =>
    intro h a0 x1 x2 x3 x4 f H locs I ls hl
    rw [F12_layOrder_8] at f
    refine lv_iload S.1 S.2.1 dX12_layOrder_8 (lv_at hl 4 rfl) ?_
    refine lv_aload_n S.1 S.2.1 dX12_layOrder_10 rfl (lv_at hl 0 rfl) ?_
    obtain ⟨v1, e2, f⟩ := ob f
    refine o_gI S lf12_layOrder_247 I e2 dX12_layOrder_11 ?_
    refine lv_icmp_ge (tgt := 121) S.1 S.2.1 dX12_layOrder_14 (by decide) (fun q3 => ?_) (fun q3 => ?_)
    · have f := (if_pos q3).symm.trans f
      exact o_vret S hr hlo I f dX12_layOrder_121
    · have f := (if_neg q3).symm.trans f
      refine lv_aload_n S.1 S.2.1 dX12_layOrder_17 rfl (lv_at hl 0 rfl) ?_
      refine lv_iload_n S.1 S.2.1 dX12_layOrder_18 rfl (lv_at hl 1 rfl) ?_
      refine lv_iload S.1 S.2.1 dX12_layOrder_19 (lv_at hl 4 rfl) ?_
      refine lv_iload_n S.1 S.2.1 dX12_layOrder_21 rfl (lv_at hl 2 rfl) ?_
      obtain ⟨o4, e5, f⟩ := ob f
      refine o_Vi S (As := [.int x1, .int x4, .int x2]) (rest := []) (ci := 12) (M12_isGoing l D cy b A fl e5) gX12_layOrder_X12_isGoing rfl rfl rfl cd12_isGoing ⟨Nat.le_of_ble_eq_true rfl, Nat.le_of_ble_eq_true rfl⟩ I (gd e5).1 clX12 rfl rfl hl.1 rfl (Nat.le_of_ble_eq_true rfl) dX12_layOrder_22 ⟨Nat.le_of_ble_eq_true rfl, Nat.le_of_ble_eq_true rfl⟩ (fun H locs I => ?_)
      refine lv_if_ne (tgt := 31) S.1 S.2.1 dX12_layOrder_25 (by decide) (fun q6 => ?_) (fun q6 => ?_)
      · have f := (if_neg q6).symm.trans f
        refine lv_aload_n S.1 S.2.1 dX12_layOrder_31 rfl (lv_at hl 0 rfl) ?_
        refine lv_iload_n S.1 S.2.1 dX12_layOrder_32 rfl (lv_at hl 1 rfl) ?_
        refine lv_iload S.1 S.2.1 dX12_layOrder_33 (lv_at hl 4 rfl) ?_
        refine lv_iload_n S.1 S.2.1 dX12_layOrder_35 rfl (lv_at hl 2 rfl) ?_
        refine lv_iload_n S.1 S.2.1 dX12_layOrder_36 rfl (lv_at hl 3 rfl) ?_
        obtain ⟨o7, e8, f⟩ := ob f
        refine o_Vi S (As := [.int x1, .int x4, .int x2, .int x3]) (rest := []) (ci := 12) (M12_keyOf l D cy b A fl e8) gX12_layOrder_X12_keyOf rfl rfl rfl cd12_keyOf ⟨Nat.le_of_ble_eq_true rfl, Nat.le_of_ble_eq_true rfl⟩ I (gd e8).1 clX12 rfl rfl hl.1 rfl (Nat.le_of_ble_eq_true rfl) dX12_layOrder_37 ⟨Nat.le_of_ble_eq_true rfl, Nat.le_of_ble_eq_true rfl⟩ (fun H locs I => ?_)
        refine lv_istore (lv' := [(5, .int o7.1), (0, .ref (b + a0)), (1, .int x1), (2, .int x2), (3, .int x3), (4, .int x4)]) S.1 S.2.1 dX12_layOrder_40 hl (by decide) rfl (fun ls hl => ?_)
        refine lv_aload_n S.1 S.2.1 dX12_layOrder_42 rfl (lv_at hl 1 rfl) ?_
        obtain ⟨v9, e10, f⟩ := ob f
        refine o_gI S lf12_layOrder_433 I e10 dX12_layOrder_43 ?_
        refine lv_istore (lv' := [(6, .int v9), (5, .int o7.1), (0, .ref (b + a0)), (1, .int x1), (2, .int x2), (3, .int x3), (4, .int x4)]) S.1 S.2.1 dX12_layOrder_46 hl (by decide) rfl (fun ls hl => ?_)
        exact T12_layOrder_48 S hr hlo (fun f _ _ I _ hl => ih f I hl) 1024 f I (lv_sub hl [2, 3, 4, 5, 6, 1, 0] rfl)
      · have f := (if_pos q6).symm.trans f
        refine lv_goto (tgt := 115) S.1 S.2.1 dX12_layOrder_28 (by decide) ?_
        refine lv_iinc (v := (x4 + 1)) (lv' := [(4, .int (x4 + 1)), (0, .ref (b + a0)), (1, .int x1), (2, .int x2), (3, .int x3)]) S.1 S.2.1 dX12_layOrder_115 hl (k := 4) rfl (congrArg (fun z => x4 + z) (by decide)) (by decide) rfl (fun ls hl => ?_)
        refine lv_goto (tgt := 8) S.1 S.2.1 dX12_layOrder_118 (by decide) ?_
        exact ih f I (lv_sub hl [1, 2, 3, 4, 0] rfl)
set_option maxHeartbeats 4000000 in
set_option maxRecDepth 100000 in
theorem T12_layOrder_0 (S : CallFix p m c cX12_layOrder 7 s args vX12_layOrder RX12) (hr : meth.sig.returnType = none) (hlo : meth.locks = false) {out : PH} {h : PH} {a0 : Nat} {x1 : Int32} {x2 : Int32} {x3 : Int32} (f : F12_layOrder_0  h a0 x1 x2 x3 = some out) {H : Heap} {locs : List Loc} (I : ph_I D cy b A fl h s H locs) {ls : Array Slot} (hl : lv_has ls 7 [(0, .ref (b + a0)), (1, .int x1), (2, .int x2), (3, .int x3)]) : W p l e ({ frames := 8, cells := 0, slots := 0, locals := 192 } : Room) s m args below meth c H locs 0 0 (MQ below (va_Qv (fun (u : PH) => u = out) (ph_B D cy b A fl) A) args s 0 0 A) (F0 m 0 ls []) := by
  unfold F12_layOrder_0 at f
  refine lv_aload_n S.1 S.2.1 dX12_layOrder_0 rfl (lv_at hl 0 rfl) ?_
  refine lv_iconst (v := 0) S.1 S.2.1 dX12_layOrder_1 (by decide) ?_
  obtain ⟨h1, e2, f⟩ := ob f
  refine o_pI S lp12_layOrder_433 I e2 dX12_layOrder_2 (fun H locs I => ?_)
  refine lv_iconst (v := 0) S.1 S.2.1 dX12_layOrder_5 (by decide) ?_
  refine lv_istore (lv' := [(4, .int 0), (0, .ref (b + a0)), (1, .int x1), (2, .int x2), (3, .int x3)]) S.1 S.2.1 dX12_layOrder_6 hl (by decide) rfl (fun ls hl => ?_)
  exact T12_layOrder_8 S hr hlo  1024 f I (lv_sub hl [1, 2, 3, 4, 0] rfl)
theorem M12_layOrder (l : Launch) (D : va_G) (cy : Nat → ClassId) (b : Nat) (A : Nat → Prop) (fl : Bool) {h : PH} {a0 : Nat} {x1 : Int32} {x2 : Int32} {x3 : Int32} {out : PH} (f : F12_layOrder h a0 x1 x2 x3 = some out) : Met l yX12_layOrder vX12_layOrder ({ frames := 8, cells := 0, slots := 0, locals := 192 } : Room) (va_Pc [.ref (b + a0), .int x1, .int x2, .int x3] (ph_B D cy b A fl h)) (va_Qv (fun (u : PH) => u = out) (ph_B D cy b A fl) A) 0 0 A :=
  o_met (by decide) rfl (Nat.le_of_ble_eq_true rfl) rfl (fun p e s m below meth c S hr hlo hnm ls hl I => T12_layOrder_0 S hr hlo ((gd f).2) I (lv_sub hl [0, 1, 2, 3] rfl))
def vX12_number1 : List Cond := .code yX12_number1 cX12_number1 2 (some .int) :: TB
theorem lf12_number1_372 : Fl vX12_number1 RX12 372 12 65 := ⟨RX12, TX12, 87, rfl, by decide, (fun w h9 => List.mem_cons_of_mem _ (wC_wsX120 w h9)), (List.mem_cons_of_mem _ wT_13_0)⟩
theorem lp12_number1_372 : Pl vX12_number1 RX12 372 12 65 .long := ⟨RX12, TX12, 87, tyX12, rfl, by decide, (fun w h9 => List.mem_cons_of_mem _ (wC_wsX120 w h9)), (List.mem_cons_of_mem _ wT_13_0), tyX12_ok, nmX12, rfl, rfl⟩
theorem cd12_number1 : Cd yX12_number1 1 := ⟨by decide, by decide, by decide +kernel⟩
set_option maxHeartbeats 4000000 in
set_option maxRecDepth 100000 in
theorem T12_number1_0 (S : CallFix p m c cX12_number1 2 s args vX12_number1 RX12) (hr : meth.sig.returnType = (some .int)) (hlo : meth.locks = false) {out : Int32 × PH} {h : PH} {a0 : Nat} {x1 : Int32} (f : F12_number1_0  h a0 x1 = some out) {H : Heap} {locs : List Loc} (I : ph_I D cy b A fl h s H locs) {ls : Array Slot} (hl : lv_has ls 2 [(0, .ref (b + a0)), (1, .int x1)]) : W p l e ({ frames := 0, cells := 0, slots := 0, locals := 0 } : Room) s m args below meth c H locs 0 0 (MQ below (va_Qi (fun (r : Int32) (u : PH) => (r, u) = out) (ph_B D cy b A fl) A) args s 0 0 A) (F0 m 0 ls []) := by
  unfold F12_number1_0 at f
  refine lv_aload_n S.1 S.2.1 dX12_number1_0 rfl (lv_at hl 0 rfl) ?_
  refine lv_aload_n S.1 S.2.1 dX12_number1_1 rfl (lv_at hl 0 rfl) ?_
  obtain ⟨w1, e2, f⟩ := ob f
  refine o_gJ S lf12_number1_372 I e2 dX12_number1_2 ?_
  refine lv_ldc2 (v := 1103515245) S.1 S.2.1 S.2.2.2.1 (S.2.2.2.2 _ (List.mem_cons_of_mem _ wT_47_15)) dX12_number1_5 ?_
  refine lv_lmul S.1 S.2.1 dX12_number1_8 ?_
  refine lv_ldc2 (v := 12345) S.1 S.2.1 S.2.2.2.1 (S.2.2.2.2 _ (List.mem_cons_of_mem _ wT_47_16)) dX12_number1_9 ?_
  refine lv_ladd S.1 S.2.1 dX12_number1_12 ?_
  refine lv_ldc2 (v := 2147483647) S.1 S.2.1 S.2.2.2.1 (S.2.2.2.2 _ (List.mem_cons_of_mem _ wT_47_17)) dX12_number1_13 ?_
  refine lv_land S.1 S.2.1 dX12_number1_16 ?_
  obtain ⟨h3, e4, f⟩ := ob f
  refine o_pJ S lp12_number1_372 I e4 dX12_number1_17 (fun H locs I => ?_)
  refine lv_aload_n S.1 S.2.1 dX12_number1_20 rfl (lv_at hl 0 rfl) ?_
  obtain ⟨w5, e6, f⟩ := ob f
  refine o_gJ S lf12_number1_372 I e6 dX12_number1_21 ?_
  refine lv_ldc2 (v := 65536) S.1 S.2.1 S.2.2.2.1 (S.2.2.2.2 _ (List.mem_cons_of_mem _ wT_47_18)) dX12_number1_24 ?_
  refine lv_ldiv S.1 S.2.1 dX12_number1_27 (by decide) ?_
  refine lv_iload_n S.1 S.2.1 dX12_number1_28 rfl (lv_at hl 1 rfl) ?_
  refine lv_i2l (v := Int32.toInt64 x1) S.1 S.2.1 dX12_number1_29 rfl ?_
  have q7 : ¬ (Int32.toInt64 x1) = 0 := fun q => by rw [if_pos q] at f; cases f
  have f := (if_neg q7).symm.trans f
  refine lv_lrem S.1 S.2.1 dX12_number1_30 q7 ?_
  refine lv_l2i (v := Int64.toInt32 ((w5 / (65536 : Int64)) - (w5 / (65536 : Int64)) / (Int32.toInt64 x1) * (Int32.toInt64 x1))) S.1 S.2.1 dX12_number1_31 rfl ?_
  exact o_iret S hr hlo I f dX12_number1_32
theorem M12_number1 (l : Launch) (D : va_G) (cy : Nat → ClassId) (b : Nat) (A : Nat → Prop) (fl : Bool) {h : PH} {a0 : Nat} {x1 : Int32} {out : Int32 × PH} (f : F12_number1 h a0 x1 = some out) : Met l yX12_number1 vX12_number1 ({ frames := 0, cells := 0, slots := 0, locals := 0 } : Room) (va_Pc [.ref (b + a0), .int x1] (ph_B D cy b A fl h)) (va_Qi (fun (r : Int32) (u : PH) => (r, u) = out) (ph_B D cy b A fl) A) 0 0 A :=
  o_met (by decide) rfl (Nat.le_of_ble_eq_true rfl) rfl (fun p e s m below meth c S hr hlo hnm ls hl I => T12_number1_0 S hr hlo ((gd f).2) I (lv_sub hl [0, 1] rfl))
def vX12_awayOf : List Cond := .code yX12_awayOf cX12_awayOf 3 (some .int) :: TB
theorem gX12_awayOf_X12_boardOf : GoodIn vX12_awayOf (wsV RX12 406 RX12 yX12_boardOf vX12_boardOf) := gV_of wT_40_9 wT_40_10 wT_40_11 wT_1_5 wT_40_12
theorem lf12_awayOf_48 : Fl vX12_awayOf RX12 48 12 34 := ⟨RX12, TX12, 87, rfl, by decide, (fun w h9 => List.mem_cons_of_mem _ (wC_wsX120 w h9)), (List.mem_cons_of_mem _ wT_10_9)⟩
theorem gX12_awayOf_X12_layNames : GoodIn vX12_awayOf (wsV RX12 392 RX12 yX12_layNames vX12_layNames) := gV_of wT_35_2 wT_35_3 wT_35_4 wT_1_5 wT_35_5
theorem gX12_awayOf_X12_boundLaw : GoodIn vX12_awayOf (wsV RX12 396 RX12 yX12_boundLaw vX12_boundLaw) := gV_of wT_35_6 wT_35_7 wT_35_8 wT_1_5 wT_35_9
theorem cd12_awayOf : Cd yX12_awayOf 2 := ⟨by decide, by decide, by decide +kernel⟩
set_option maxHeartbeats 4000000 in
set_option maxRecDepth 100000 in
theorem T12_awayOf_0 (S : CallFix p m c cX12_awayOf 3 s args vX12_awayOf RX12) (hr : meth.sig.returnType = (some .int)) (hlo : meth.locks = false) {out : Int32 × PH} {h : PH} {a0 : Nat} {x1 : Int32} {x2 : Int32} (f : F12_awayOf_0  h a0 x1 x2 = some out) {H : Heap} {locs : List Loc} (I : ph_I D cy b A fl h s H locs) {ls : Array Slot} (hl : lv_has ls 3 [(0, .ref (b + a0)), (1, .int x1), (2, .int x2)]) : W p l e ({ frames := 4, cells := 0, slots := 0, locals := 98 } : Room) s m args below meth c H locs 0 0 (MQ below (va_Qi (fun (r : Int32) (u : PH) => (r, u) = out) (ph_B D cy b A fl) A) args s 0 0 A) (F0 m 0 ls []) := by
  unfold F12_awayOf_0 at f
  refine lv_aload_n S.1 S.2.1 dX12_awayOf_0 rfl (lv_at hl 0 rfl) ?_
  refine lv_iconst (v := 0) S.1 S.2.1 dX12_awayOf_1 (by decide) ?_
  refine lv_iconst (v := 0) S.1 S.2.1 dX12_awayOf_2 (by decide) ?_
  refine lv_aload_n S.1 S.2.1 dX12_awayOf_3 rfl (lv_at hl 0 rfl) ?_
  refine lv_iload_n S.1 S.2.1 dX12_awayOf_4 rfl (lv_at hl 1 rfl) ?_
  obtain ⟨o1, e2, f⟩ := ob f
  refine o_Vi S (As := [.int x1]) (rest := [.int 0, .int 0, .ref (b + a0)]) (ci := 12) (M12_boardOf l D cy b A fl e2) gX12_awayOf_X12_boardOf rfl rfl rfl cd12_boardOf ⟨Nat.le_of_ble_eq_true rfl, Nat.le_of_ble_eq_true rfl⟩ I (gd e2).1 clX12 rfl rfl hl.1 rfl (Nat.le_of_ble_eq_true rfl) dX12_awayOf_5 ⟨Nat.le_of_ble_eq_true rfl, Nat.le_of_ble_eq_true rfl⟩ (fun H locs I => ?_)
  refine lv_iload_n S.1 S.2.1 dX12_awayOf_8 rfl (lv_at hl 2 rfl) ?_
  refine lv_aload_n S.1 S.2.1 dX12_awayOf_9 rfl (lv_at hl 0 rfl) ?_
  obtain ⟨r3, e4, f⟩ := ob f
  refine o_gR S lf12_awayOf_48 I e4 dX12_awayOf_10 ?_
  refine lv_iload_n S.1 S.2.1 dX12_awayOf_13 rfl (lv_at hl 2 rfl) ?_
  obtain ⟨v6, e5, f⟩ := ob f
  refine o_iald S I e5 dX12_awayOf_14 ?_
  obtain ⟨o7, e8, f⟩ := ob f
  refine o_Vv S (As := [.int 0, .int 0, .int o1.1, .int x2, .int v6]) (rest := []) (ci := 12) (M12_layNames l D cy b A fl e8) gX12_awayOf_X12_layNames rfl rfl rfl cd12_layNames ⟨Nat.le_of_ble_eq_true rfl, Nat.le_of_ble_eq_true rfl⟩ I (gd e8).1 clX12 rfl rfl hl.1 rfl (Nat.le_of_ble_eq_true rfl) dX12_awayOf_15 ⟨Nat.le_of_ble_eq_true rfl, Nat.le_of_ble_eq_true rfl⟩ (fun H locs I => ?_)
  refine lv_aload_n S.1 S.2.1 dX12_awayOf_18 rfl (lv_at hl 0 rfl) ?_
  refine lv_iconst (v := 2) S.1 S.2.1 dX12_awayOf_19 (by decide) ?_
  refine lv_iconst (v := 5) S.1 S.2.1 dX12_awayOf_20 (by decide) ?_
  refine lv_iconst (v := 1) S.1 S.2.1 dX12_awayOf_21 (by decide) ?_
  refine lv_bipush (v := 30) S.1 S.2.1 dX12_awayOf_22 (by decide) ?_
  obtain ⟨o9, e10, f⟩ := ob f
  refine o_Vi S (As := [.int 2, .int 5, .int 1, .int 30]) (rest := []) (ci := 12) (M12_boundLaw l D cy b A fl e10) gX12_awayOf_X12_boundLaw rfl rfl rfl cd12_boundLaw ⟨Nat.le_of_ble_eq_true rfl, Nat.le_of_ble_eq_true rfl⟩ I (gd e10).1 clX12 rfl rfl hl.1 rfl (Nat.le_of_ble_eq_true rfl) dX12_awayOf_24 ⟨Nat.le_of_ble_eq_true rfl, Nat.le_of_ble_eq_true rfl⟩ (fun H locs I => ?_)
  exact o_iret S hr hlo I f dX12_awayOf_27
theorem M12_awayOf (l : Launch) (D : va_G) (cy : Nat → ClassId) (b : Nat) (A : Nat → Prop) (fl : Bool) {h : PH} {a0 : Nat} {x1 : Int32} {x2 : Int32} {out : Int32 × PH} (f : F12_awayOf h a0 x1 x2 = some out) : Met l yX12_awayOf vX12_awayOf ({ frames := 4, cells := 0, slots := 0, locals := 98 } : Room) (va_Pc [.ref (b + a0), .int x1, .int x2] (ph_B D cy b A fl h)) (va_Qi (fun (r : Int32) (u : PH) => (r, u) = out) (ph_B D cy b A fl) A) 0 0 A :=
  o_met (by decide) rfl (Nat.le_of_ble_eq_true rfl) rfl (fun p e s m below meth c S hr hlo hnm ls hl I => T12_awayOf_0 S hr hlo ((gd f).2) I (lv_sub hl [0, 1, 2] rfl))
def vX12_goesAway : List Cond := .code yX12_goesAway cX12_goesAway 5 none :: TB
theorem lf12_goesAway_97 : Fl vX12_goesAway RX12 97 12 58 := ⟨RX12, TX12, 87, rfl, by decide, (fun w h9 => List.mem_cons_of_mem _ (wC_wsX120 w h9)), (List.mem_cons_of_mem _ wT_11_1)⟩
theorem lf12_goesAway_106 : Fl vX12_goesAway RX12 106 12 61 := ⟨RX12, TX12, 87, rfl, by decide, (fun w h9 => List.mem_cons_of_mem _ (wC_wsX120 w h9)), (List.mem_cons_of_mem _ wT_11_4)⟩
theorem gX12_goesAway_X12_awayOf : GoodIn vX12_goesAway (wsV RX12 450 RX12 yX12_awayOf vX12_awayOf) := gV_of wT_47_23 wT_48_0 wT_48_1 wT_1_5 wT_48_2
theorem cd12_goesAway : Cd yX12_goesAway 4 := ⟨by decide, by decide, by decide +kernel⟩
set_option maxHeartbeats 4000000 in
set_option maxRecDepth 100000 in
theorem T12_goesAway_0 (S : CallFix p m c cX12_goesAway 5 s args vX12_goesAway RX12) (hr : meth.sig.returnType = none) (hlo : meth.locks = false) {out : PH} {h : PH} {a0 : Nat} {x1 : Int32} {x2 : Int32} {x3 : Int32} {x4 : Int32} (f : F12_goesAway_0  h a0 x1 x2 x3 x4 = some out) {H : Heap} {locs : List Loc} (I : ph_I D cy b A fl h s H locs) {ls : Array Slot} (hl : lv_has ls 5 [(0, .ref (b + a0)), (1, .int x1), (2, .int x2), (3, .int x3), (4, .int x4)]) : W p l e ({ frames := 5, cells := 0, slots := 0, locals := 120 } : Room) s m args below meth c H locs 0 0 (MQ below (va_Qv (fun (u : PH) => u = out) (ph_B D cy b A fl) A) args s 0 0 A) (F0 m 0 ls []) := by
  unfold F12_goesAway_0 at f
  refine lv_aload_n S.1 S.2.1 dX12_goesAway_0 rfl (lv_at hl 0 rfl) ?_
  obtain ⟨r1, e2, f⟩ := ob f
  refine o_gR S lf12_goesAway_97 I e2 dX12_goesAway_1 ?_
  refine lv_iconst (v := 5) S.1 S.2.1 dX12_goesAway_4 (by decide) ?_
  refine lv_iload_n S.1 S.2.1 dX12_goesAway_5 rfl (lv_at hl 1 rfl) ?_
  refine lv_imul S.1 S.2.1 dX12_goesAway_6 ?_
  refine lv_iload_n S.1 S.2.1 dX12_goesAway_7 rfl (lv_at hl 2 rfl) ?_
  refine lv_iadd S.1 S.2.1 dX12_goesAway_8 ?_
  refine lv_aload_n S.1 S.2.1 dX12_goesAway_9 rfl (lv_at hl 0 rfl) ?_
  obtain ⟨r3, e4, f⟩ := ob f
  refine o_gR S lf12_goesAway_106 I e4 dX12_goesAway_10 ?_
  refine lv_iload_n S.1 S.2.1 dX12_goesAway_13 rfl (lv_at hl 1 rfl) ?_
  obtain ⟨v6, e5, f⟩ := ob f
  refine o_iald S I e5 dX12_goesAway_14 ?_
  refine lv_iload S.1 S.2.1 dX12_goesAway_15 (lv_at hl 4 rfl) ?_
  refine lv_aload_n S.1 S.2.1 dX12_goesAway_17 rfl (lv_at hl 0 rfl) ?_
  refine lv_iload_n S.1 S.2.1 dX12_goesAway_18 rfl (lv_at hl 2 rfl) ?_
  refine lv_iload_n S.1 S.2.1 dX12_goesAway_19 rfl (lv_at hl 3 rfl) ?_
  obtain ⟨o7, e8, f⟩ := ob f
  refine o_Vi S (As := [.int x2, .int x3]) (rest := [.int x4, .int v6, .int ((5 * x1) + x2), .ref (b + r1)]) (ci := 12) (M12_awayOf l D cy b A fl e8) gX12_goesAway_X12_awayOf rfl rfl rfl cd12_awayOf ⟨Nat.le_of_ble_eq_true rfl, Nat.le_of_ble_eq_true rfl⟩ I (gd e8).1 clX12 rfl rfl hl.1 rfl (Nat.le_of_ble_eq_true rfl) dX12_goesAway_20 ⟨Nat.le_of_ble_eq_true rfl, Nat.le_of_ble_eq_true rfl⟩ (fun H locs I => ?_)
  refine lv_imul S.1 S.2.1 dX12_goesAway_23 ?_
  refine lv_iadd S.1 S.2.1 dX12_goesAway_24 ?_
  obtain ⟨h10, e9, f⟩ := ob f
  refine o_iast S I e9 dX12_goesAway_25 (fun H locs I => ?_)
  exact o_vret S hr hlo I f dX12_goesAway_26
theorem M12_goesAway (l : Launch) (D : va_G) (cy : Nat → ClassId) (b : Nat) (A : Nat → Prop) (fl : Bool) {h : PH} {a0 : Nat} {x1 : Int32} {x2 : Int32} {x3 : Int32} {x4 : Int32} {out : PH} (f : F12_goesAway h a0 x1 x2 x3 x4 = some out) : Met l yX12_goesAway vX12_goesAway ({ frames := 5, cells := 0, slots := 0, locals := 120 } : Room) (va_Pc [.ref (b + a0), .int x1, .int x2, .int x3, .int x4] (ph_B D cy b A fl h)) (va_Qv (fun (u : PH) => u = out) (ph_B D cy b A fl) A) 0 0 A :=
  o_met (by decide) rfl (Nat.le_of_ble_eq_true rfl) rfl (fun p e s m below meth c S hr hlo hnm ls hl I => T12_goesAway_0 S hr hlo ((gd f).2) I (lv_sub hl [0, 1, 2, 3, 4] rfl))
def vX12_comes : List Cond := .code yX12_comes cX12_comes 8 none :: TB
theorem gX12_comes_X12_number1 : GoodIn vX12_comes (wsV RX12 456 RX12 yX12_number1 vX12_number1) := gV_of wT_47_11 wT_47_12 wT_47_13 wT_1_5 wT_47_14
theorem lf12_comes_103 : Fl vX12_comes RX12 103 12 60 := ⟨RX12, TX12, 87, rfl, by decide, (fun w h9 => List.mem_cons_of_mem _ (wC_wsX120 w h9)), (List.mem_cons_of_mem _ wT_11_3)⟩
theorem lf12_comes_109 : Fl vX12_comes RX12 109 12 62 := ⟨RX12, TX12, 87, rfl, by decide, (fun w h9 => List.mem_cons_of_mem _ (wC_wsX120 w h9)), (List.mem_cons_of_mem _ wT_11_5)⟩
theorem lf12_comes_94 : Fl vX12_comes RX12 94 12 57 := ⟨RX12, TX12, 87, rfl, by decide, (fun w h9 => List.mem_cons_of_mem _ (wC_wsX120 w h9)), (List.mem_cons_of_mem _ wT_11_0)⟩
theorem lf12_comes_118 : Fl vX12_comes RX12 118 12 68 := ⟨RX12, TX12, 87, rfl, by decide, (fun w h9 => List.mem_cons_of_mem _ (wC_wsX120 w h9)), (List.mem_cons_of_mem _ wT_11_8)⟩
theorem gX12_comes_X12_goesAway : GoodIn vX12_comes (wsV RX12 459 RX12 yX12_goesAway vX12_goesAway) := gV_of wT_47_19 wT_47_20 wT_47_21 wT_1_5 wT_47_22
theorem lf12_comes_433 : Fl vX12_comes RX12 433 12 69 := ⟨RX12, TX12, 87, rfl, by decide, (fun w h9 => List.mem_cons_of_mem _ (wC_wsX120 w h9)), (List.mem_cons_of_mem _ wT_46_21)⟩
theorem lf12_comes_91 : Fl vX12_comes RX12 91 12 56 := ⟨RX12, TX12, 87, rfl, by decide, (fun w h9 => List.mem_cons_of_mem _ (wC_wsX120 w h9)), (List.mem_cons_of_mem _ wT_10_23)⟩
theorem lf12_comes_115 : Fl vX12_comes RX12 115 12 66 := ⟨RX12, TX12, 87, rfl, by decide, (fun w h9 => List.mem_cons_of_mem _ (wC_wsX120 w h9)), (List.mem_cons_of_mem _ wT_11_7)⟩
theorem lf12_comes_39 : Fl vX12_comes RX12 39 12 31 := ⟨RX12, TX12, 87, rfl, by decide, (fun w h9 => List.mem_cons_of_mem _ (wC_wsX120 w h9)), (List.mem_cons_of_mem _ wT_10_6)⟩
theorem lf12_comes_112 : Fl vX12_comes RX12 112 12 63 := ⟨RX12, TX12, 87, rfl, by decide, (fun w h9 => List.mem_cons_of_mem _ (wC_wsX120 w h9)), (List.mem_cons_of_mem _ wT_11_6)⟩
theorem lf12_comes_88 : Fl vX12_comes RX12 88 12 55 := ⟨RX12, TX12, 87, rfl, by decide, (fun w h9 => List.mem_cons_of_mem _ (wC_wsX120 w h9)), (List.mem_cons_of_mem _ wT_10_22)⟩
theorem gX12_comes_X12_oddsOf : GoodIn vX12_comes (wsV RX12 425 RX12 yX12_oddsOf vX12_oddsOf) := gV_of wT_40_1 wT_40_2 wT_40_3 wT_1_5 wT_40_4
theorem gX12_comes_X12_layOrder : GoodIn vX12_comes (wsV RX12 453 RX12 yX12_layOrder vX12_layOrder) := gV_of wT_46_22 wT_46_23 wT_47_0 wT_1_5 wT_47_1
theorem cd12_comes : Cd yX12_comes 3 := ⟨by decide, by decide, by decide +kernel⟩
set_option maxHeartbeats 4000000 in
set_option maxRecDepth 100000 in
theorem T12_comes_141 (S : CallFix p m c cX12_comes 8 s args vX12_comes RX12) (hr : meth.sig.returnType = none) (hlo : meth.locks = false) {out : PH} {k109 : PH → Nat → Int32 → Int32 → Int32 → Int32 → Option (PH)} (hk109 : ∀ {h : PH} {a0 : Nat} {x1 : Int32} {x2 : Int32} {x5 : Int32} {x6 : Int32}, k109 h a0 x1 x2 x5 x6 = some out → ∀ (H : Heap) (locs : List Loc), ph_I D cy b A fl h s H locs → ∀ (ls : Array Slot), lv_has ls 8 [(0, .ref (b + a0)), (1, .int x1), (2, .int x2), (5, .int x5), (6, .int x6)] → W p l e ({ frames := 9, cells := 0, slots := 0, locals := 218 } : Room) s m args below meth c H locs 0 0 (MQ below (va_Qv (fun (u : PH) => u = out) (ph_B D cy b A fl) A) args s 0 0 A) (F0 m 109 ls [])) {h : PH} {a0 : Nat} {x1 : Int32} {x2 : Int32} {x5 : Int32} {x6 : Int32} {s0 : Int32} (f : F12_comes_141 k109 h a0 x1 x2 x5 x6 s0 = some out) {H : Heap} {locs : List Loc} (I : ph_I D cy b A fl h s H locs) {ls : Array Slot} (hl : lv_has ls 8 [(0, .ref (b + a0)), (1, .int x1), (2, .int x2), (5, .int x5), (6, .int x6)]) : W p l e ({ frames := 9, cells := 0, slots := 0, locals := 218 } : Room) s m args below meth c H locs 0 0 (MQ below (va_Qv (fun (u : PH) => u = out) (ph_B D cy b A fl) A) args s 0 0 A) (F0 m 141 ls [.int s0]) := by
  unfold F12_comes_141 at f
  refine lv_istore (lv' := [(7, .int s0), (0, .ref (b + a0)), (1, .int x1), (2, .int x2), (5, .int x5), (6, .int x6)]) S.1 S.2.1 dX12_comes_141 hl (by decide) rfl (fun ls hl => ?_)
  refine lv_iload S.1 S.2.1 dX12_comes_143 (lv_at hl 0 rfl) ?_
  refine lv_if_eq (tgt := 244) S.1 S.2.1 dX12_comes_145 (by decide) (fun q1 => ?_) (fun q1 => ?_)
  · have f := (if_pos q1).symm.trans f
    refine lv_iinc (v := (x6 + 1)) (lv' := [(6, .int (x6 + 1)), (7, .int s0), (0, .ref (b + a0)), (1, .int x1), (2, .int x2), (5, .int x5)]) S.1 S.2.1 dX12_comes_244 hl (k := 5) rfl (congrArg (fun z => x6 + z) (by decide)) (by decide) rfl (fun ls hl => ?_)
    refine lv_goto (tgt := 109) S.1 S.2.1 dX12_comes_247 (by decide) ?_
    exact hk109 f _ _ I _ (lv_sub hl [2, 3, 4, 5, 0] rfl)
  · have f := (if_neg q1).symm.trans f
    refine lv_aload_n S.1 S.2.1 dX12_comes_148 rfl (lv_at hl 1 rfl) ?_
    refine lv_bipush (v := 100) S.1 S.2.1 dX12_comes_149 (by decide) ?_
    obtain ⟨o2, e3, f⟩ := ob f
    refine o_Vi S (As := [.int 100]) (rest := []) (ci := 12) (M12_number1 l D cy b A fl e3) gX12_comes_X12_number1 rfl rfl rfl cd12_number1 ⟨Nat.le_of_ble_eq_true rfl, Nat.le_of_ble_eq_true rfl⟩ I (gd e3).1 clX12 rfl rfl hl.1 rfl (Nat.le_of_ble_eq_true rfl) dX12_comes_151 ⟨Nat.le_of_ble_eq_true rfl, Nat.le_of_ble_eq_true rfl⟩ (fun H locs I => ?_)
    refine lv_iload S.1 S.2.1 dX12_comes_154 (lv_at hl 0 rfl) ?_
    refine lv_icmp_lt (tgt := 162) S.1 S.2.1 dX12_comes_156 (by decide) (fun q4 => ?_) (fun q4 => ?_)
    · have f := (if_pos q4).symm.trans f
      refine lv_aload_n S.1 S.2.1 dX12_comes_162 rfl (lv_at hl 1 rfl) ?_
      obtain ⟨r5, e6, f⟩ := ob f
      refine o_gR S lf12_comes_103 I e6 dX12_comes_163 ?_
      refine lv_bipush (v := 28) S.1 S.2.1 dX12_comes_166 (by decide) ?_
      refine lv_iload_n S.1 S.2.1 dX12_comes_168 rfl (lv_at hl 2 rfl) ?_
      refine lv_imul S.1 S.2.1 dX12_comes_169 ?_
      refine lv_iload_n S.1 S.2.1 dX12_comes_170 rfl (lv_at hl 3 rfl) ?_
      refine lv_iadd S.1 S.2.1 dX12_comes_171 ?_
      refine lv_bipush (v := (-3)) S.1 S.2.1 dX12_comes_172 (by decide) ?_
      obtain ⟨h8, e7, f⟩ := ob f
      refine o_iast S I e7 dX12_comes_174 (fun H locs I => ?_)
      refine lv_aload_n S.1 S.2.1 dX12_comes_175 rfl (lv_at hl 1 rfl) ?_
      obtain ⟨r9, e10, f⟩ := ob f
      refine o_gR S lf12_comes_109 I e10 dX12_comes_176 ?_
      refine lv_iload_n S.1 S.2.1 dX12_comes_179 rfl (lv_at hl 2 rfl) ?_
      refine lv_dup2_11 S.1 S.2.1 dX12_comes_180 rfl rfl ?_
      obtain ⟨v12, e11, f⟩ := ob f
      refine o_iald S I e11 dX12_comes_181 ?_
      refine lv_iconst (v := 1) S.1 S.2.1 dX12_comes_182 (by decide) ?_
      refine lv_iadd S.1 S.2.1 dX12_comes_183 ?_
      obtain ⟨h14, e13, f⟩ := ob f
      refine o_iast S I e13 dX12_comes_184 (fun H locs I => ?_)
      refine lv_aload_n S.1 S.2.1 dX12_comes_185 rfl (lv_at hl 1 rfl) ?_
      obtain ⟨r15, e16, f⟩ := ob f
      refine o_gR S lf12_comes_94 I e16 dX12_comes_186 ?_
      refine lv_iconst (v := 5) S.1 S.2.1 dX12_comes_189 (by decide) ?_
      refine lv_iload_n S.1 S.2.1 dX12_comes_190 rfl (lv_at hl 2 rfl) ?_
      refine lv_imul S.1 S.2.1 dX12_comes_191 ?_
      refine lv_iload S.1 S.2.1 dX12_comes_192 (lv_at hl 4 rfl) ?_
      refine lv_iadd S.1 S.2.1 dX12_comes_194 ?_
      refine lv_dup2_11 S.1 S.2.1 dX12_comes_195 rfl rfl ?_
      obtain ⟨v18, e17, f⟩ := ob f
      refine o_iald S I e17 dX12_comes_196 ?_
      refine lv_iconst (v := 1) S.1 S.2.1 dX12_comes_197 (by decide) ?_
      refine lv_iadd S.1 S.2.1 dX12_comes_198 ?_
      obtain ⟨h20, e19, f⟩ := ob f
      refine o_iast S I e19 dX12_comes_199 (fun H locs I => ?_)
      refine lv_aload_n S.1 S.2.1 dX12_comes_200 rfl (lv_at hl 1 rfl) ?_
      obtain ⟨r21, e22, f⟩ := ob f
      refine o_gR S lf12_comes_94 I e22 dX12_comes_201 ?_
      refine lv_iconst (v := 5) S.1 S.2.1 dX12_comes_204 (by decide) ?_
      refine lv_iload_n S.1 S.2.1 dX12_comes_205 rfl (lv_at hl 2 rfl) ?_
      refine lv_imul S.1 S.2.1 dX12_comes_206 ?_
      refine lv_aload_n S.1 S.2.1 dX12_comes_207 rfl (lv_at hl 1 rfl) ?_
      obtain ⟨r23, e24, f⟩ := ob f
      refine o_gR S lf12_comes_118 I e24 dX12_comes_208 ?_
      refine lv_iload S.1 S.2.1 dX12_comes_211 (lv_at hl 5 rfl) ?_
      obtain ⟨v26, e25, f⟩ := ob f
      refine o_iald S I e25 dX12_comes_213 ?_
      refine lv_iadd S.1 S.2.1 dX12_comes_214 ?_
      refine lv_dup2_11 S.1 S.2.1 dX12_comes_215 rfl rfl ?_
      obtain ⟨v28, e27, f⟩ := ob f
      refine o_iald S I e27 dX12_comes_216 ?_
      refine lv_iconst (v := 1) S.1 S.2.1 dX12_comes_217 (by decide) ?_
      refine lv_iadd S.1 S.2.1 dX12_comes_218 ?_
      obtain ⟨h30, e29, f⟩ := ob f
      refine o_iast S I e29 dX12_comes_219 (fun H locs I => ?_)
      refine lv_aload_n S.1 S.2.1 dX12_comes_220 rfl (lv_at hl 1 rfl) ?_
      refine lv_iload_n S.1 S.2.1 dX12_comes_221 rfl (lv_at hl 2 rfl) ?_
      refine lv_iload S.1 S.2.1 dX12_comes_222 (lv_at hl 4 rfl) ?_
      refine lv_iload_n S.1 S.2.1 dX12_comes_224 rfl (lv_at hl 3 rfl) ?_
      refine lv_iconst (v := 2) S.1 S.2.1 dX12_comes_225 (by decide) ?_
      obtain ⟨o31, e32, f⟩ := ob f
      refine o_Vv S (As := [.int x1, .int x5, .int x2, .int 2]) (rest := []) (ci := 12) (M12_goesAway l D cy b A fl e32) gX12_comes_X12_goesAway rfl rfl rfl cd12_goesAway ⟨Nat.le_of_ble_eq_true rfl, Nat.le_of_ble_eq_true rfl⟩ I (gd e32).1 clX12 rfl rfl hl.1 rfl (Nat.le_of_ble_eq_true rfl) dX12_comes_226 ⟨Nat.le_of_ble_eq_true rfl, Nat.le_of_ble_eq_true rfl⟩ (fun H locs I => ?_)
      refine lv_aload_n S.1 S.2.1 dX12_comes_229 rfl (lv_at hl 1 rfl) ?_
      refine lv_iload_n S.1 S.2.1 dX12_comes_230 rfl (lv_at hl 2 rfl) ?_
      refine lv_aload_n S.1 S.2.1 dX12_comes_231 rfl (lv_at hl 1 rfl) ?_
      obtain ⟨r33, e34, f⟩ := ob f
      refine o_gR S lf12_comes_118 I e34 dX12_comes_232 ?_
      refine lv_iload S.1 S.2.1 dX12_comes_235 (lv_at hl 5 rfl) ?_
      obtain ⟨v36, e35, f⟩ := ob f
      refine o_iald S I e35 dX12_comes_237 ?_
      refine lv_iload_n S.1 S.2.1 dX12_comes_238 rfl (lv_at hl 3 rfl) ?_
      refine lv_iconst (v := 2) S.1 S.2.1 dX12_comes_239 (by decide) ?_
      obtain ⟨o37, e38, f⟩ := ob f
      refine o_Vv S (As := [.int x1, .int v36, .int x2, .int 2]) (rest := []) (ci := 12) (M12_goesAway l D cy b A fl e38) gX12_comes_X12_goesAway rfl rfl rfl cd12_goesAway ⟨Nat.le_of_ble_eq_true rfl, Nat.le_of_ble_eq_true rfl⟩ I (gd e38).1 clX12 rfl rfl hl.1 rfl (Nat.le_of_ble_eq_true rfl) dX12_comes_240 ⟨Nat.le_of_ble_eq_true rfl, Nat.le_of_ble_eq_true rfl⟩ (fun H locs I => ?_)
      exact o_vret S hr hlo I f dX12_comes_243
    · have f := (if_neg q4).symm.trans f
      refine lv_goto (tgt := 244) S.1 S.2.1 dX12_comes_159 (by decide) ?_
      refine lv_iinc (v := (x6 + 1)) (lv' := [(6, .int (x6 + 1)), (7, .int s0), (0, .ref (b + a0)), (1, .int x1), (2, .int x2), (5, .int x5)]) S.1 S.2.1 dX12_comes_244 hl (k := 5) rfl (congrArg (fun z => x6 + z) (by decide)) (by decide) rfl (fun ls hl => ?_)
      refine lv_goto (tgt := 109) S.1 S.2.1 dX12_comes_247 (by decide) ?_
      exact hk109 f _ _ I _ (lv_sub hl [2, 3, 4, 5, 0] rfl)
set_option maxHeartbeats 4000000 in
set_option maxRecDepth 100000 in
theorem T12_comes_109 (S : CallFix p m c cX12_comes 8 s args vX12_comes RX12) (hr : meth.sig.returnType = none) (hlo : meth.locks = false) {out : PH} : ∀ (n : Nat) {h : PH} {a0 : Nat} {x1 : Int32} {x2 : Int32} {x5 : Int32} {x6 : Int32} (f : F12_comes_109  n h a0 x1 x2 x5 x6 = some out) {H : Heap} {locs : List Loc} (I : ph_I D cy b A fl h s H locs) {ls : Array Slot} (hl : lv_has ls 8 [(0, .ref (b + a0)), (1, .int x1), (2, .int x2), (5, .int x5), (6, .int x6)]), W p l e ({ frames := 9, cells := 0, slots := 0, locals := 218 } : Room) s m args below meth c H locs 0 0 (MQ below (va_Qv (fun (u : PH) => u = out) (ph_B D cy b A fl) A) args s 0 0 A) (F0 m 109 ls []) := by
  intro n
  induction n with
  | zero => intro h a0 x1 x2 x5 x6 f; rw [F12_comes_109] at f; cases f
  | succ n ih =>
    intro h a0 x1 x2 x5 x6 f H locs I ls hl
    rw [F12_comes_109] at f
    refine lv_iload S.1 S.2.1 dX12_comes_109 (lv_at hl 4 rfl) ?_
    refine lv_aload_n S.1 S.2.1 dX12_comes_111 rfl (lv_at hl 0 rfl) ?_
    obtain ⟨v1, e2, f⟩ := ob f
    refine o_gI S lf12_comes_433 I e2 dX12_comes_112 ?_
    refine lv_icmp_ge (tgt := 250) S.1 S.2.1 dX12_comes_115 (by decide) (fun q3 => ?_) (fun q3 => ?_)
    · have f := (if_pos q3).symm.trans f
      refine lv_aload_n S.1 S.2.1 dX12_comes_250 rfl (lv_at hl 0 rfl) ?_
      obtain ⟨r4, e5, f⟩ := ob f
      refine o_gR S lf12_comes_103 I e5 dX12_comes_251 ?_
      refine lv_bipush (v := 28) S.1 S.2.1 dX12_comes_254 (by decide) ?_
      refine lv_iload_n S.1 S.2.1 dX12_comes_256 rfl (lv_at hl 1 rfl) ?_
      refine lv_imul S.1 S.2.1 dX12_comes_257 ?_
      refine lv_iload_n S.1 S.2.1 dX12_comes_258 rfl (lv_at hl 2 rfl) ?_
      refine lv_iadd S.1 S.2.1 dX12_comes_259 ?_
      refine lv_iload S.1 S.2.1 dX12_comes_260 (lv_at hl 3 rfl) ?_
      obtain ⟨h7, e6, f⟩ := ob f
      refine o_iast S I e6 dX12_comes_262 (fun H locs I => ?_)
      refine lv_aload_n S.1 S.2.1 dX12_comes_263 rfl (lv_at hl 0 rfl) ?_
      obtain ⟨r8, e9, f⟩ := ob f
      refine o_gR S lf12_comes_91 I e9 dX12_comes_264 ?_
      refine lv_iconst (v := 5) S.1 S.2.1 dX12_comes_267 (by decide) ?_
      refine lv_iload_n S.1 S.2.1 dX12_comes_268 rfl (lv_at hl 1 rfl) ?_
      refine lv_imul S.1 S.2.1 dX12_comes_269 ?_
      refine lv_iload S.1 S.2.1 dX12_comes_270 (lv_at hl 3 rfl) ?_
      refine lv_iadd S.1 S.2.1 dX12_comes_272 ?_
      refine lv_dup2_11 S.1 S.2.1 dX12_comes_273 rfl rfl ?_
      obtain ⟨v11, e10, f⟩ := ob f
      refine o_iald S I e10 dX12_comes_274 ?_
      refine lv_iconst (v := 1) S.1 S.2.1 dX12_comes_275 (by decide) ?_
      refine lv_iadd S.1 S.2.1 dX12_comes_276 ?_
      obtain ⟨h13, e12, f⟩ := ob f
      refine o_iast S I e12 dX12_comes_277 (fun H locs I => ?_)
      refine lv_aload_n S.1 S.2.1 dX12_comes_278 rfl (lv_at hl 0 rfl) ?_
      refine lv_iload_n S.1 S.2.1 dX12_comes_279 rfl (lv_at hl 1 rfl) ?_
      refine lv_iload S.1 S.2.1 dX12_comes_280 (lv_at hl 3 rfl) ?_
      refine lv_iload_n S.1 S.2.1 dX12_comes_282 rfl (lv_at hl 2 rfl) ?_
      refine lv_iconst (v := 1) S.1 S.2.1 dX12_comes_283 (by decide) ?_
      obtain ⟨o14, e15, f⟩ := ob f
      refine o_Vv S (As := [.int x1, .int x5, .int x2, .int 1]) (rest := []) (ci := 12) (M12_goesAway l D cy b A fl e15) gX12_comes_X12_goesAway rfl rfl rfl cd12_goesAway ⟨Nat.le_of_ble_eq_true rfl, Nat.le_of_ble_eq_true rfl⟩ I (gd e15).1 clX12 rfl rfl hl.1 rfl (Nat.le_of_ble_eq_true rfl) dX12_comes_284 ⟨Nat.le_of_ble_eq_true rfl, Nat.le_of_ble_eq_true rfl⟩ (fun H locs I => ?_)
      exact o_vret S hr hlo I f dX12_comes_287
    · have f := (if_neg q3).symm.trans f
      refine lv_aload_n S.1 S.2.1 dX12_comes_118 rfl (lv_at hl 0 rfl) ?_
      obtain ⟨v16, e17, f⟩ := ob f
      refine o_gI S lf12_comes_115 I e17 dX12_comes_119 ?_
      refine lv_if_ne (tgt := 129) S.1 S.2.1 dX12_comes_122 (by decide) (fun q18 => ?_) (fun q18 => ?_)
      · have f := (if_neg q18).symm.trans f
        refine lv_aload_n S.1 S.2.1 dX12_comes_129 rfl (lv_at hl 0 rfl) ?_
        obtain ⟨r19, e20, f⟩ := ob f
        refine o_gR S lf12_comes_39 I e20 dX12_comes_130 ?_
        refine lv_aload_n S.1 S.2.1 dX12_comes_133 rfl (lv_at hl 0 rfl) ?_
        obtain ⟨r21, e22, f⟩ := ob f
        refine o_gR S lf12_comes_118 I e22 dX12_comes_134 ?_
        refine lv_iload S.1 S.2.1 dX12_comes_137 (lv_at hl 4 rfl) ?_
        obtain ⟨v24, e23, f⟩ := ob f
        refine o_iald S I e23 dX12_comes_139 ?_
        obtain ⟨v26, e25, f⟩ := ob f
        refine o_iald S I e25 dX12_comes_140 ?_
        exact T12_comes_141 S hr hlo (fun f _ _ I _ hl => ih f I hl) f I (lv_sub hl [0, 1, 2, 3, 4] rfl)
      · have f := (if_pos q18).symm.trans f
        refine lv_iconst (v := 0) S.1 S.2.1 dX12_comes_125 (by decide) ?_
        refine lv_goto (tgt := 141) S.1 S.2.1 dX12_comes_126 (by decide) ?_
        exact T12_comes_141 S hr hlo (fun f _ _ I _ hl => ih f I hl) f I (lv_sub hl [0, 1, 2, 3, 4] rfl)
set_option maxHeartbeats 4000000 in
set_option maxRecDepth 100000 in
theorem T12_comes_62 (S : CallFix p m c cX12_comes 8 s args vX12_comes RX12) (hr : meth.sig.returnType = none) (hlo : meth.locks = false) {out : PH} {h : PH} {a0 : Nat} {x1 : Int32} {x2 : Int32} {x4 : Int32} (f : F12_comes_62  h a0 x1 x2 x4 = some out) {H : Heap} {locs : List Loc} (I : ph_I D cy b A fl h s H locs) {ls : Array Slot} (hl : lv_has ls 8 [(0, .ref (b + a0)), (1, .int x1), (2, .int x2), (4, .int x4)]) : W p l e ({ frames := 9, cells := 0, slots := 0, locals := 218 } : Room) s m args below meth c H locs 0 0 (MQ below (va_Qv (fun (u : PH) => u = out) (ph_B D cy b A fl) A) args s 0 0 A) (F0 m 62 ls []) := by
  unfold F12_comes_62 at f
  refine lv_iload S.1 S.2.1 dX12_comes_62 (lv_at hl 3 rfl) ?_
  refine lv_aload_n S.1 S.2.1 dX12_comes_64 rfl (lv_at hl 0 rfl) ?_
  obtain ⟨v1, e2, f⟩ := ob f
  refine o_gI S lf12_comes_433 I e2 dX12_comes_65 ?_
  refine lv_icmp_ne (tgt := 94) S.1 S.2.1 dX12_comes_68 (by decide) (fun q3 => ?_) (fun q3 => ?_)
  · have f := (if_neg q3).symm.trans f
    refine lv_aload_n S.1 S.2.1 dX12_comes_94 rfl (lv_at hl 0 rfl) ?_
    obtain ⟨r4, e5, f⟩ := ob f
    refine o_gR S lf12_comes_118 I e5 dX12_comes_95 ?_
    refine lv_iload S.1 S.2.1 dX12_comes_98 (lv_at hl 3 rfl) ?_
    obtain ⟨v7, e6, f⟩ := ob f
    refine o_iald S I e6 dX12_comes_100 ?_
    refine lv_istore (lv' := [(5, .int v7), (0, .ref (b + a0)), (1, .int x1), (2, .int x2), (4, .int x4)]) S.1 S.2.1 dX12_comes_101 hl (by decide) rfl (fun ls hl => ?_)
    refine lv_iload S.1 S.2.1 dX12_comes_103 (lv_at hl 4 rfl) ?_
    refine lv_iconst (v := 1) S.1 S.2.1 dX12_comes_105 (by decide) ?_
    refine lv_iadd S.1 S.2.1 dX12_comes_106 ?_
    refine lv_istore (lv' := [(6, .int (x4 + 1)), (5, .int v7), (0, .ref (b + a0)), (1, .int x1), (2, .int x2), (4, .int x4)]) S.1 S.2.1 dX12_comes_107 hl (by decide) rfl (fun ls hl => ?_)
    exact T12_comes_109 S hr hlo  1024 f I (lv_sub hl [2, 3, 4, 1, 0] rfl)
  · have f := (if_pos q3).symm.trans f
    refine lv_aload_n S.1 S.2.1 dX12_comes_71 rfl (lv_at hl 0 rfl) ?_
    obtain ⟨r8, e9, f⟩ := ob f
    refine o_gR S lf12_comes_103 I e9 dX12_comes_72 ?_
    refine lv_bipush (v := 28) S.1 S.2.1 dX12_comes_75 (by decide) ?_
    refine lv_iload_n S.1 S.2.1 dX12_comes_77 rfl (lv_at hl 1 rfl) ?_
    refine lv_imul S.1 S.2.1 dX12_comes_78 ?_
    refine lv_iload_n S.1 S.2.1 dX12_comes_79 rfl (lv_at hl 2 rfl) ?_
    refine lv_iadd S.1 S.2.1 dX12_comes_80 ?_
    refine lv_iconst (v := (-1)) S.1 S.2.1 dX12_comes_81 (by decide) ?_
    obtain ⟨h11, e10, f⟩ := ob f
    refine o_iast S I e10 dX12_comes_82 (fun H locs I => ?_)
    refine lv_aload_n S.1 S.2.1 dX12_comes_83 rfl (lv_at hl 0 rfl) ?_
    obtain ⟨r12, e13, f⟩ := ob f
    refine o_gR S lf12_comes_112 I e13 dX12_comes_84 ?_
    refine lv_iload_n S.1 S.2.1 dX12_comes_87 rfl (lv_at hl 1 rfl) ?_
    refine lv_dup2_11 S.1 S.2.1 dX12_comes_88 rfl rfl ?_
    obtain ⟨v15, e14, f⟩ := ob f
    refine o_iald S I e14 dX12_comes_89 ?_
    refine lv_iconst (v := 1) S.1 S.2.1 dX12_comes_90 (by decide) ?_
    refine lv_iadd S.1 S.2.1 dX12_comes_91 ?_
    obtain ⟨h17, e16, f⟩ := ob f
    refine o_iast S I e16 dX12_comes_92 (fun H locs I => ?_)
    exact o_vret S hr hlo I f dX12_comes_93
set_option maxHeartbeats 4000000 in
set_option maxRecDepth 100000 in
theorem T12_comes_10 (S : CallFix p m c cX12_comes 8 s args vX12_comes RX12) (hr : meth.sig.returnType = none) (hlo : meth.locks = false) {out : PH} : ∀ (n : Nat) {h : PH} {a0 : Nat} {x1 : Int32} {x2 : Int32} {x4 : Int32} (f : F12_comes_10  n h a0 x1 x2 x4 = some out) {H : Heap} {locs : List Loc} (I : ph_I D cy b A fl h s H locs) {ls : Array Slot} (hl : lv_has ls 8 [(0, .ref (b + a0)), (1, .int x1), (2, .int x2), (4, .int x4)]), W p l e ({ frames := 9, cells := 0, slots := 0, locals := 218 } : Room) s m args below meth c H locs 0 0 (MQ below (va_Qv (fun (u : PH) => u = out) (ph_B D cy b A fl) A) args s 0 0 A) (F0 m 10 ls []) := by
  intro n
  induction n with
  | zero => intro h a0 x1 x2 x4 f; rw [F12_comes_10] at f; cases f
  | succ n ih =>
    intro h a0 x1 x2 x4 f H locs I ls hl
    rw [F12_comes_10] at f
    refine lv_iload S.1 S.2.1 dX12_comes_10 (lv_at hl 3 rfl) ?_
    refine lv_aload_n S.1 S.2.1 dX12_comes_12 rfl (lv_at hl 0 rfl) ?_
    obtain ⟨v1, e2, f⟩ := ob f
    refine o_gI S lf12_comes_433 I e2 dX12_comes_13 ?_
    refine lv_icmp_ge (tgt := 62) S.1 S.2.1 dX12_comes_16 (by decide) (fun q3 => ?_) (fun q3 => ?_)
    · have f := (if_pos q3).symm.trans f
      exact T12_comes_62 S hr hlo  f I (lv_sub hl [0, 1, 2, 3] rfl)
    · have f := (if_neg q3).symm.trans f
      refine lv_aload_n S.1 S.2.1 dX12_comes_19 rfl (lv_at hl 0 rfl) ?_
      refine lv_bipush (v := 100) S.1 S.2.1 dX12_comes_20 (by decide) ?_
      obtain ⟨o4, e5, f⟩ := ob f
      refine o_Vi S (As := [.int 100]) (rest := []) (ci := 12) (M12_number1 l D cy b A fl e5) gX12_comes_X12_number1 rfl rfl rfl cd12_number1 ⟨Nat.le_of_ble_eq_true rfl, Nat.le_of_ble_eq_true rfl⟩ I (gd e5).1 clX12 rfl rfl hl.1 rfl (Nat.le_of_ble_eq_true rfl) dX12_comes_22 ⟨Nat.le_of_ble_eq_true rfl, Nat.le_of_ble_eq_true rfl⟩ (fun H locs I => ?_)
      refine lv_aload_n S.1 S.2.1 dX12_comes_25 rfl (lv_at hl 0 rfl) ?_
      refine lv_aload_n S.1 S.2.1 dX12_comes_26 rfl (lv_at hl 0 rfl) ?_
      obtain ⟨r6, e7, f⟩ := ob f
      refine o_gR S lf12_comes_118 I e7 dX12_comes_27 ?_
      refine lv_iload S.1 S.2.1 dX12_comes_30 (lv_at hl 3 rfl) ?_
      obtain ⟨v9, e8, f⟩ := ob f
      refine o_iald S I e8 dX12_comes_32 ?_
      refine lv_iload_n S.1 S.2.1 dX12_comes_33 rfl (lv_at hl 2 rfl) ?_
      refine lv_aload_n S.1 S.2.1 dX12_comes_34 rfl (lv_at hl 0 rfl) ?_
      obtain ⟨r10, e11, f⟩ := ob f
      refine o_gR S lf12_comes_88 I e11 dX12_comes_35 ?_
      refine lv_iconst (v := 5) S.1 S.2.1 dX12_comes_38 (by decide) ?_
      refine lv_iload_n S.1 S.2.1 dX12_comes_39 rfl (lv_at hl 1 rfl) ?_
      refine lv_imul S.1 S.2.1 dX12_comes_40 ?_
      refine lv_aload_n S.1 S.2.1 dX12_comes_41 rfl (lv_at hl 0 rfl) ?_
      obtain ⟨r12, e13, f⟩ := ob f
      refine o_gR S lf12_comes_118 I e13 dX12_comes_42 ?_
      refine lv_iload S.1 S.2.1 dX12_comes_45 (lv_at hl 3 rfl) ?_
      obtain ⟨v15, e14, f⟩ := ob f
      refine o_iald S I e14 dX12_comes_47 ?_
      refine lv_iadd S.1 S.2.1 dX12_comes_48 ?_
      obtain ⟨v17, e16, f⟩ := ob f
      refine o_iald S I e16 dX12_comes_49 ?_
      obtain ⟨o18, e19, f⟩ := ob f
      refine o_Vi S (As := [.int v9, .int x2, .int v17]) (rest := [.int o4.1]) (ci := 12) (M12_oddsOf l D cy b A fl e19) gX12_comes_X12_oddsOf rfl rfl rfl cd12_oddsOf ⟨Nat.le_of_ble_eq_true rfl, Nat.le_of_ble_eq_true rfl⟩ I (gd e19).1 clX12 rfl rfl hl.1 rfl (Nat.le_of_ble_eq_true rfl) dX12_comes_50 ⟨Nat.le_of_ble_eq_true rfl, Nat.le_of_ble_eq_true rfl⟩ (fun H locs I => ?_)
      refine lv_icmp_lt (tgt := 62) S.1 S.2.1 dX12_comes_53 (by decide) (fun q20 => ?_) (fun q20 => ?_)
      · have f := (if_pos q20).symm.trans f
        exact T12_comes_62 S hr hlo  f I (lv_sub hl [0, 1, 2, 3] rfl)
      · have f := (if_neg q20).symm.trans f
        refine lv_iinc (v := (x4 + 1)) (lv' := [(4, .int (x4 + 1)), (0, .ref (b + a0)), (1, .int x1), (2, .int x2)]) S.1 S.2.1 dX12_comes_56 hl (k := 3) rfl (congrArg (fun z => x4 + z) (by decide)) (by decide) rfl (fun ls hl => ?_)
        refine lv_goto (tgt := 10) S.1 S.2.1 dX12_comes_59 (by decide) ?_
        exact ih f I (lv_sub hl [1, 2, 3, 0] rfl)
set_option maxHeartbeats 4000000 in
set_option maxRecDepth 100000 in
theorem T12_comes_0 (S : CallFix p m c cX12_comes 8 s args vX12_comes RX12) (hr : meth.sig.returnType = none) (hlo : meth.locks = false) {out : PH} {h : PH} {a0 : Nat} {x1 : Int32} {x2 : Int32} {x3 : Int32} (f : F12_comes_0  h a0 x1 x2 x3 = some out) {H : Heap} {locs : List Loc} (I : ph_I D cy b A fl h s H locs) {ls : Array Slot} (hl : lv_has ls 8 [(0, .ref (b + a0)), (1, .int x1), (2, .int x2), (3, .int x3)]) : W p l e ({ frames := 9, cells := 0, slots := 0, locals := 218 } : Room) s m args below meth c H locs 0 0 (MQ below (va_Qv (fun (u : PH) => u = out) (ph_B D cy b A fl) A) args s 0 0 A) (F0 m 0 ls []) := by
  unfold F12_comes_0 at f
  refine lv_aload_n S.1 S.2.1 dX12_comes_0 rfl (lv_at hl 0 rfl) ?_
  refine lv_iload_n S.1 S.2.1 dX12_comes_1 rfl (lv_at hl 1 rfl) ?_
  refine lv_iload_n S.1 S.2.1 dX12_comes_2 rfl (lv_at hl 2 rfl) ?_
  refine lv_iload_n S.1 S.2.1 dX12_comes_3 rfl (lv_at hl 3 rfl) ?_
  obtain ⟨o1, e2, f⟩ := ob f
  refine o_Vv S (As := [.int x1, .int x2, .int x3]) (rest := []) (ci := 12) (M12_layOrder l D cy b A fl e2) gX12_comes_X12_layOrder rfl rfl rfl cd12_layOrder ⟨Nat.le_of_ble_eq_true rfl, Nat.le_of_ble_eq_true rfl⟩ I (gd e2).1 clX12 rfl rfl hl.1 rfl (Nat.le_of_ble_eq_true rfl) dX12_comes_4 ⟨Nat.le_of_ble_eq_true rfl, Nat.le_of_ble_eq_true rfl⟩ (fun H locs I => ?_)
  refine lv_iconst (v := 0) S.1 S.2.1 dX12_comes_7 (by decide) ?_
  refine lv_istore (lv' := [(4, .int 0), (0, .ref (b + a0)), (1, .int x1), (2, .int x2), (3, .int x3)]) S.1 S.2.1 dX12_comes_8 hl (by decide) rfl (fun ls hl => ?_)
  exact T12_comes_10 S hr hlo  1024 f I (lv_sub hl [1, 2, 3, 0] rfl)
theorem M12_comes (l : Launch) (D : va_G) (cy : Nat → ClassId) (b : Nat) (A : Nat → Prop) (fl : Bool) {h : PH} {a0 : Nat} {x1 : Int32} {x2 : Int32} {x3 : Int32} {out : PH} (f : F12_comes h a0 x1 x2 x3 = some out) : Met l yX12_comes vX12_comes ({ frames := 9, cells := 0, slots := 0, locals := 218 } : Room) (va_Pc [.ref (b + a0), .int x1, .int x2, .int x3] (ph_B D cy b A fl h)) (va_Qv (fun (u : PH) => u = out) (ph_B D cy b A fl) A) 0 0 A :=
  o_met (by decide) rfl (Nat.le_of_ble_eq_true rfl) rfl (fun p e s m below meth c S hr hlo hnm ls hl I => T12_comes_0 S hr hlo ((gd f).2) I (lv_sub hl [0, 1, 2, 3] rfl))
def vX12_aMinute : List Cond := .code yX12_aMinute cX12_aMinute 4 none :: TB
theorem lf12_aMinute_247 : Fl vX12_aMinute RX12 247 12 14 := ⟨RX12, TX12, 87, rfl, by decide, (fun w h9 => List.mem_cons_of_mem _ (wC_wsX120 w h9)), (List.mem_cons_of_mem _ wT_12_12)⟩
theorem lf12_aMinute_97 : Fl vX12_aMinute RX12 97 12 58 := ⟨RX12, TX12, 87, rfl, by decide, (fun w h9 => List.mem_cons_of_mem _ (wC_wsX120 w h9)), (List.mem_cons_of_mem _ wT_11_1)⟩
theorem lf12_aMinute_106 : Fl vX12_aMinute RX12 106 12 61 := ⟨RX12, TX12, 87, rfl, by decide, (fun w h9 => List.mem_cons_of_mem _ (wC_wsX120 w h9)), (List.mem_cons_of_mem _ wT_11_4)⟩
theorem lf12_aMinute_253 : Fl vX12_aMinute RX12 253 12 16 := ⟨RX12, TX12, 87, rfl, by decide, (fun w h9 => List.mem_cons_of_mem _ (wC_wsX120 w h9)), (List.mem_cons_of_mem _ wT_12_14)⟩
theorem lf12_aMinute_48 : Fl vX12_aMinute RX12 48 12 34 := ⟨RX12, TX12, 87, rfl, by decide, (fun w h9 => List.mem_cons_of_mem _ (wC_wsX120 w h9)), (List.mem_cons_of_mem _ wT_10_9)⟩
theorem gX12_aMinute_X12_comes : GoodIn vX12_aMinute (wsV RX12 463 RX12 yX12_comes vX12_comes) := gV_of wT_46_17 wT_46_18 wT_46_19 wT_1_5 wT_46_20
theorem cd12_aMinute : Cd yX12_aMinute 2 := ⟨by decide, by decide, by decide +kernel⟩
set_option maxHeartbeats 4000000 in
set_option maxRecDepth 100000 in
theorem T12_aMinute_50 (S : CallFix p m c cX12_aMinute 4 s args vX12_aMinute RX12) (hr : meth.sig.returnType = none) (hlo : meth.locks = false) {out : PH} : ∀ (n : Nat) {h : PH} {a0 : Nat} {x1 : Int32} {x3 : Int32} (f : F12_aMinute_50  n h a0 x1 x3 = some out) {H : Heap} {locs : List Loc} (I : ph_I D cy b A fl h s H locs) {ls : Array Slot} (hl : lv_has ls 4 [(0, .ref (b + a0)), (1, .int x1), (3, .int x3)]), W p l e ({ frames := 10, cells := 0, slots := 0, locals := 245 } : Room) s m args below meth c H locs 0 0 (MQ below (va_Qv (fun (u : PH) => u = out) (ph_B D cy b A fl) A) args s 0 0 A) (F0 m 50 ls []) := by
  intro n
  induction n with
  | zero => intro h a0 x1 x3 f; rw [F12_aMinute_50] at f; cases f
  | succ n ih =>
    intro h a0 x1 x3 f H locs I ls hl
    rw [F12_aMinute_50] at f
    refine lv_iload_n S.1 S.2.1 dX12_aMinute_50 rfl (lv_at hl 2 rfl) ?_
    refine lv_aload_n S.1 S.2.1 dX12_aMinute_51 rfl (lv_at hl 0 rfl) ?_
    obtain ⟨v1, e2, f⟩ := ob f
    refine o_gI S lf12_aMinute_247 I e2 dX12_aMinute_52 ?_
    refine lv_icmp_ge (tgt := 94) S.1 S.2.1 dX12_aMinute_55 (by decide) (fun q3 => ?_) (fun q3 => ?_)
    · have f := (if_pos q3).symm.trans f
      exact o_vret S hr hlo I f dX12_aMinute_94
    · have f := (if_neg q3).symm.trans f
      refine lv_aload_n S.1 S.2.1 dX12_aMinute_58 rfl (lv_at hl 0 rfl) ?_
      obtain ⟨r4, e5, f⟩ := ob f
      refine o_gR S lf12_aMinute_97 I e5 dX12_aMinute_59 ?_
      refine lv_iconst (v := 5) S.1 S.2.1 dX12_aMinute_62 (by decide) ?_
      refine lv_iload_n S.1 S.2.1 dX12_aMinute_63 rfl (lv_at hl 1 rfl) ?_
      refine lv_imul S.1 S.2.1 dX12_aMinute_64 ?_
      refine lv_iload_n S.1 S.2.1 dX12_aMinute_65 rfl (lv_at hl 2 rfl) ?_
      refine lv_iadd S.1 S.2.1 dX12_aMinute_66 ?_
      obtain ⟨v7, e6, f⟩ := ob f
      refine o_iald S I e6 dX12_aMinute_67 ?_
      refine lv_aload_n S.1 S.2.1 dX12_aMinute_68 rfl (lv_at hl 0 rfl) ?_
      obtain ⟨r8, e9, f⟩ := ob f
      refine o_gR S lf12_aMinute_106 I e9 dX12_aMinute_69 ?_
      refine lv_iload_n S.1 S.2.1 dX12_aMinute_72 rfl (lv_at hl 1 rfl) ?_
      obtain ⟨v11, e10, f⟩ := ob f
      refine o_iald S I e10 dX12_aMinute_73 ?_
      refine lv_icmp_ne (tgt := 88) S.1 S.2.1 dX12_aMinute_74 (by decide) (fun q12 => ?_) (fun q12 => ?_)
      · have f := (if_neg q12).symm.trans f
        refine lv_iinc (v := (x3 + 1)) (lv' := [(3, .int (x3 + 1)), (0, .ref (b + a0)), (1, .int x1)]) S.1 S.2.1 dX12_aMinute_88 hl (k := 2) rfl (congrArg (fun z => x3 + z) (by decide)) (by decide) rfl (fun ls hl => ?_)
        refine lv_goto (tgt := 50) S.1 S.2.1 dX12_aMinute_91 (by decide) ?_
        exact ih f I (lv_sub hl [1, 2, 0] rfl)
      · have f := (if_pos q12).symm.trans f
        refine lv_aload_n S.1 S.2.1 dX12_aMinute_77 rfl (lv_at hl 0 rfl) ?_
        obtain ⟨r13, e14, f⟩ := ob f
        refine o_gR S lf12_aMinute_97 I e14 dX12_aMinute_78 ?_
        refine lv_iconst (v := 5) S.1 S.2.1 dX12_aMinute_81 (by decide) ?_
        refine lv_iload_n S.1 S.2.1 dX12_aMinute_82 rfl (lv_at hl 1 rfl) ?_
        refine lv_imul S.1 S.2.1 dX12_aMinute_83 ?_
        refine lv_iload_n S.1 S.2.1 dX12_aMinute_84 rfl (lv_at hl 2 rfl) ?_
        refine lv_iadd S.1 S.2.1 dX12_aMinute_85 ?_
        refine lv_iconst (v := 0) S.1 S.2.1 dX12_aMinute_86 (by decide) ?_
        obtain ⟨h16, e15, f⟩ := ob f
        refine o_iast S I e15 dX12_aMinute_87 (fun H locs I => ?_)
        refine lv_iinc (v := (x3 + 1)) (lv' := [(3, .int (x3 + 1)), (0, .ref (b + a0)), (1, .int x1)]) S.1 S.2.1 dX12_aMinute_88 hl (k := 2) rfl (congrArg (fun z => x3 + z) (by decide)) (by decide) rfl (fun ls hl => ?_)
        refine lv_goto (tgt := 50) S.1 S.2.1 dX12_aMinute_91 (by decide) ?_
        exact ih f I (lv_sub hl [1, 2, 0] rfl)
set_option maxHeartbeats 4000000 in
set_option maxRecDepth 100000 in
theorem T12_aMinute_2 (S : CallFix p m c cX12_aMinute 4 s args vX12_aMinute RX12) (hr : meth.sig.returnType = none) (hlo : meth.locks = false) {out : PH} : ∀ (n : Nat) {h : PH} {a0 : Nat} {x1 : Int32} {x2 : Int32} {x3 : Int32} (f : F12_aMinute_2  n h a0 x1 x2 x3 = some out) {H : Heap} {locs : List Loc} (I : ph_I D cy b A fl h s H locs) {ls : Array Slot} (hl : lv_has ls 4 [(0, .ref (b + a0)), (1, .int x1), (2, .int x2), (3, .int x3)]), W p l e ({ frames := 10, cells := 0, slots := 0, locals := 245 } : Room) s m args below meth c H locs 0 0 (MQ below (va_Qv (fun (u : PH) => u = out) (ph_B D cy b A fl) A) args s 0 0 A) (F0 m 2 ls []) := by
  intro n
  induction n with
  | zero => intro h a0 x1 x2 x3 f; rw [F12_aMinute_2] at f; cases f
  | succ n ih =>
    intro h a0 x1 x2 x3 f H locs I ls hl
    rw [F12_aMinute_2] at f
    refine lv_iload_n S.1 S.2.1 dX12_aMinute_2 rfl (lv_at hl 3 rfl) ?_
    refine lv_aload_n S.1 S.2.1 dX12_aMinute_3 rfl (lv_at hl 0 rfl) ?_
    obtain ⟨v1, e2, f⟩ := ob f
    refine o_gI S lf12_aMinute_253 I e2 dX12_aMinute_4 ?_
    refine lv_icmp_ge (tgt := 38) S.1 S.2.1 dX12_aMinute_7 (by decide) (fun q3 => ?_) (fun q3 => ?_)
    · have f := (if_pos q3).symm.trans f
      refine lv_aload_n S.1 S.2.1 dX12_aMinute_38 rfl (lv_at hl 0 rfl) ?_
      obtain ⟨r4, e5, f⟩ := ob f
      refine o_gR S lf12_aMinute_106 I e5 dX12_aMinute_39 ?_
      refine lv_iload_n S.1 S.2.1 dX12_aMinute_42 rfl (lv_at hl 1 rfl) ?_
      refine lv_dup2_11 S.1 S.2.1 dX12_aMinute_43 rfl rfl ?_
      obtain ⟨v7, e6, f⟩ := ob f
      refine o_iald S I e6 dX12_aMinute_44 ?_
      refine lv_iconst (v := 1) S.1 S.2.1 dX12_aMinute_45 (by decide) ?_
      refine lv_iadd S.1 S.2.1 dX12_aMinute_46 ?_
      obtain ⟨h9, e8, f⟩ := ob f
      refine o_iast S I e8 dX12_aMinute_47 (fun H locs I => ?_)
      refine lv_iconst (v := 0) S.1 S.2.1 dX12_aMinute_48 (by decide) ?_
      refine lv_istore_n (lv' := [(3, .int 0), (0, .ref (b + a0)), (1, .int x1), (2, .int x2)]) S.1 S.2.1 dX12_aMinute_49 rfl hl (by decide) rfl (fun ls hl => ?_)
      exact T12_aMinute_50 S hr hlo  1024 f I (lv_sub hl [1, 2, 0] rfl)
    · have f := (if_neg q3).symm.trans f
      refine lv_aload_n S.1 S.2.1 dX12_aMinute_10 rfl (lv_at hl 0 rfl) ?_
      obtain ⟨r10, e11, f⟩ := ob f
      refine o_gR S lf12_aMinute_48 I e11 dX12_aMinute_11 ?_
      refine lv_iload_n S.1 S.2.1 dX12_aMinute_14 rfl (lv_at hl 3 rfl) ?_
      obtain ⟨v13, e12, f⟩ := ob f
      refine o_iald S I e12 dX12_aMinute_15 ?_
      refine lv_aload_n S.1 S.2.1 dX12_aMinute_16 rfl (lv_at hl 0 rfl) ?_
      obtain ⟨r14, e15, f⟩ := ob f
      refine o_gR S lf12_aMinute_106 I e15 dX12_aMinute_17 ?_
      refine lv_iload_n S.1 S.2.1 dX12_aMinute_20 rfl (lv_at hl 1 rfl) ?_
      obtain ⟨v17, e16, f⟩ := ob f
      refine o_iald S I e16 dX12_aMinute_21 ?_
      refine lv_icmp_ne (tgt := 32) S.1 S.2.1 dX12_aMinute_22 (by decide) (fun q18 => ?_) (fun q18 => ?_)
      · have f := (if_neg q18).symm.trans f
        refine lv_iinc (v := (x3 + 1)) (lv' := [(3, .int (x3 + 1)), (0, .ref (b + a0)), (1, .int x1), (2, .int x2)]) S.1 S.2.1 dX12_aMinute_32 hl (k := 3) rfl (congrArg (fun z => x3 + z) (by decide)) (by decide) rfl (fun ls hl => ?_)
        refine lv_goto (tgt := 2) S.1 S.2.1 dX12_aMinute_35 (by decide) ?_
        exact ih f I (lv_sub hl [1, 2, 3, 0] rfl)
      · have f := (if_pos q18).symm.trans f
        refine lv_aload_n S.1 S.2.1 dX12_aMinute_25 rfl (lv_at hl 0 rfl) ?_
        refine lv_iload_n S.1 S.2.1 dX12_aMinute_26 rfl (lv_at hl 1 rfl) ?_
        refine lv_iload_n S.1 S.2.1 dX12_aMinute_27 rfl (lv_at hl 3 rfl) ?_
        refine lv_iload_n S.1 S.2.1 dX12_aMinute_28 rfl (lv_at hl 2 rfl) ?_
        obtain ⟨o19, e20, f⟩ := ob f
        refine o_Vv S (As := [.int x1, .int x3, .int x2]) (rest := []) (ci := 12) (M12_comes l D cy b A fl e20) gX12_aMinute_X12_comes rfl rfl rfl cd12_comes ⟨Nat.le_of_ble_eq_true rfl, Nat.le_of_ble_eq_true rfl⟩ I (gd e20).1 clX12 rfl rfl hl.1 rfl (Nat.le_of_ble_eq_true rfl) dX12_aMinute_29 ⟨Nat.le_of_ble_eq_true rfl, Nat.le_of_ble_eq_true rfl⟩ (fun H locs I => ?_)
        refine lv_iinc (v := (x3 + 1)) (lv' := [(3, .int (x3 + 1)), (0, .ref (b + a0)), (1, .int x1), (2, .int x2)]) S.1 S.2.1 dX12_aMinute_32 hl (k := 3) rfl (congrArg (fun z => x3 + z) (by decide)) (by decide) rfl (fun ls hl => ?_)
        refine lv_goto (tgt := 2) S.1 S.2.1 dX12_aMinute_35 (by decide) ?_
        exact ih f I (lv_sub hl [1, 2, 3, 0] rfl)
set_option maxHeartbeats 4000000 in
set_option maxRecDepth 100000 in
theorem T12_aMinute_0 (S : CallFix p m c cX12_aMinute 4 s args vX12_aMinute RX12) (hr : meth.sig.returnType = none) (hlo : meth.locks = false) {out : PH} {h : PH} {a0 : Nat} {x1 : Int32} {x2 : Int32} (f : F12_aMinute_0  h a0 x1 x2 = some out) {H : Heap} {locs : List Loc} (I : ph_I D cy b A fl h s H locs) {ls : Array Slot} (hl : lv_has ls 4 [(0, .ref (b + a0)), (1, .int x1), (2, .int x2)]) : W p l e ({ frames := 10, cells := 0, slots := 0, locals := 245 } : Room) s m args below meth c H locs 0 0 (MQ below (va_Qv (fun (u : PH) => u = out) (ph_B D cy b A fl) A) args s 0 0 A) (F0 m 0 ls []) := by
  unfold F12_aMinute_0 at f
  refine lv_iconst (v := 0) S.1 S.2.1 dX12_aMinute_0 (by decide) ?_
  refine lv_istore_n (lv' := [(3, .int 0), (0, .ref (b + a0)), (1, .int x1), (2, .int x2)]) S.1 S.2.1 dX12_aMinute_1 rfl hl (by decide) rfl (fun ls hl => ?_)
  exact T12_aMinute_2 S hr hlo  1024 f I (lv_sub hl [1, 2, 3, 0] rfl)
theorem M12_aMinute (l : Launch) (D : va_G) (cy : Nat → ClassId) (b : Nat) (A : Nat → Prop) (fl : Bool) {h : PH} {a0 : Nat} {x1 : Int32} {x2 : Int32} {out : PH} (f : F12_aMinute h a0 x1 x2 = some out) : Met l yX12_aMinute vX12_aMinute ({ frames := 10, cells := 0, slots := 0, locals := 245 } : Room) (va_Pc [.ref (b + a0), .int x1, .int x2] (ph_B D cy b A fl h)) (va_Qv (fun (u : PH) => u = out) (ph_B D cy b A fl) A) 0 0 A :=
  o_met (by decide) rfl (Nat.le_of_ble_eq_true rfl) rfl (fun p e s m below meth c S hr hlo hnm ls hl I => T12_aMinute_0 S hr hlo ((gd f).2) I (lv_sub hl [0, 1, 2] rfl))
def vX12_allHad : List Cond := .code yX12_allHad cX12_allHad 4 (some .int) :: TB
theorem lf12_allHad_247 : Fl vX12_allHad RX12 247 12 14 := ⟨RX12, TX12, 87, rfl, by decide, (fun w h9 => List.mem_cons_of_mem _ (wC_wsX120 w h9)), (List.mem_cons_of_mem _ wT_12_12)⟩
theorem lf12_allHad_91 : Fl vX12_allHad RX12 91 12 56 := ⟨RX12, TX12, 87, rfl, by decide, (fun w h9 => List.mem_cons_of_mem _ (wC_wsX120 w h9)), (List.mem_cons_of_mem _ wT_10_23)⟩
theorem cd12_allHad : Cd yX12_allHad 1 := ⟨by decide, by decide, by decide +kernel⟩
set_option maxHeartbeats 4000000 in
set_option maxRecDepth 100000 in
theorem T12_allHad_4 (S : CallFix p m c cX12_allHad 4 s args vX12_allHad RX12) (hr : meth.sig.returnType = (some .int)) (hlo : meth.locks = false) {out : Int32 × PH} : ∀ (n : Nat) {h : PH} {a0 : Nat} {x1 : Int32} {x2 : Int32} {x3 : Int32} (f : F12_allHad_4  n h a0 x1 x2 x3 = some out) {H : Heap} {locs : List Loc} (I : ph_I D cy b A fl h s H locs) {ls : Array Slot} (hl : lv_has ls 4 [(0, .ref (b + a0)), (1, .int x1), (2, .int x2), (3, .int x3)]), W p l e ({ frames := 0, cells := 0, slots := 0, locals := 0 } : Room) s m args below meth c H locs 0 0 (MQ below (va_Qi (fun (r : Int32) (u : PH) => (r, u) = out) (ph_B D cy b A fl) A) args s 0 0 A) (F0 m 4 ls []) := by
  intro n
  induction n with
  | zero => intro h a0 x1 x2 x3 f; rw [F12_allHad_4] at f; cases f
  | succ n ih =>
    intro h a0 x1 x2 x3 f H locs I ls hl
    rw [F12_allHad_4] at f
    refine lv_iload_n S.1 S.2.1 dX12_allHad_4 rfl (lv_at hl 3 rfl) ?_
    refine lv_aload_n S.1 S.2.1 dX12_allHad_5 rfl (lv_at hl 0 rfl) ?_
    obtain ⟨v1, e2, f⟩ := ob f
    refine o_gI S lf12_allHad_247 I e2 dX12_allHad_6 ?_
    refine lv_icmp_ge (tgt := 31) S.1 S.2.1 dX12_allHad_9 (by decide) (fun q3 => ?_) (fun q3 => ?_)
    · have f := (if_pos q3).symm.trans f
      refine lv_iload_n S.1 S.2.1 dX12_allHad_31 rfl (lv_at hl 2 rfl) ?_
      exact o_iret S hr hlo I f dX12_allHad_32
    · have f := (if_neg q3).symm.trans f
      refine lv_iload_n S.1 S.2.1 dX12_allHad_12 rfl (lv_at hl 2 rfl) ?_
      refine lv_aload_n S.1 S.2.1 dX12_allHad_13 rfl (lv_at hl 0 rfl) ?_
      obtain ⟨r4, e5, f⟩ := ob f
      refine o_gR S lf12_allHad_91 I e5 dX12_allHad_14 ?_
      refine lv_iconst (v := 5) S.1 S.2.1 dX12_allHad_17 (by decide) ?_
      refine lv_iload_n S.1 S.2.1 dX12_allHad_18 rfl (lv_at hl 1 rfl) ?_
      refine lv_imul S.1 S.2.1 dX12_allHad_19 ?_
      refine lv_iload_n S.1 S.2.1 dX12_allHad_20 rfl (lv_at hl 3 rfl) ?_
      refine lv_iadd S.1 S.2.1 dX12_allHad_21 ?_
      obtain ⟨v7, e6, f⟩ := ob f
      refine o_iald S I e6 dX12_allHad_22 ?_
      refine lv_iadd S.1 S.2.1 dX12_allHad_23 ?_
      refine lv_istore_n (lv' := [(2, .int (x2 + v7)), (0, .ref (b + a0)), (1, .int x1), (3, .int x3)]) S.1 S.2.1 dX12_allHad_24 rfl hl (by decide) rfl (fun ls hl => ?_)
      refine lv_iinc (v := (x3 + 1)) (lv' := [(3, .int (x3 + 1)), (2, .int (x2 + v7)), (0, .ref (b + a0)), (1, .int x1)]) S.1 S.2.1 dX12_allHad_25 hl (k := 3) rfl (congrArg (fun z => x3 + z) (by decide)) (by decide) rfl (fun ls hl => ?_)
      refine lv_goto (tgt := 4) S.1 S.2.1 dX12_allHad_28 (by decide) ?_
      exact ih f I (lv_sub hl [2, 3, 1, 0] rfl)
set_option maxHeartbeats 4000000 in
set_option maxRecDepth 100000 in
theorem T12_allHad_0 (S : CallFix p m c cX12_allHad 4 s args vX12_allHad RX12) (hr : meth.sig.returnType = (some .int)) (hlo : meth.locks = false) {out : Int32 × PH} {h : PH} {a0 : Nat} {x1 : Int32} (f : F12_allHad_0  h a0 x1 = some out) {H : Heap} {locs : List Loc} (I : ph_I D cy b A fl h s H locs) {ls : Array Slot} (hl : lv_has ls 4 [(0, .ref (b + a0)), (1, .int x1)]) : W p l e ({ frames := 0, cells := 0, slots := 0, locals := 0 } : Room) s m args below meth c H locs 0 0 (MQ below (va_Qi (fun (r : Int32) (u : PH) => (r, u) = out) (ph_B D cy b A fl) A) args s 0 0 A) (F0 m 0 ls []) := by
  unfold F12_allHad_0 at f
  refine lv_iconst (v := 0) S.1 S.2.1 dX12_allHad_0 (by decide) ?_
  refine lv_istore_n (lv' := [(2, .int 0), (0, .ref (b + a0)), (1, .int x1)]) S.1 S.2.1 dX12_allHad_1 rfl hl (by decide) rfl (fun ls hl => ?_)
  refine lv_iconst (v := 0) S.1 S.2.1 dX12_allHad_2 (by decide) ?_
  refine lv_istore_n (lv' := [(3, .int 0), (2, .int 0), (0, .ref (b + a0)), (1, .int x1)]) S.1 S.2.1 dX12_allHad_3 rfl hl (by decide) rfl (fun ls hl => ?_)
  exact T12_allHad_4 S hr hlo  1024 f I (lv_sub hl [2, 3, 1, 0] rfl)
theorem M12_allHad (l : Launch) (D : va_G) (cy : Nat → ClassId) (b : Nat) (A : Nat → Prop) (fl : Bool) {h : PH} {a0 : Nat} {x1 : Int32} {out : Int32 × PH} (f : F12_allHad h a0 x1 = some out) : Met l yX12_allHad vX12_allHad ({ frames := 0, cells := 0, slots := 0, locals := 0 } : Room) (va_Pc [.ref (b + a0), .int x1] (ph_B D cy b A fl h)) (va_Qi (fun (r : Int32) (u : PH) => (r, u) = out) (ph_B D cy b A fl) A) 0 0 A :=
  o_met (by decide) rfl (Nat.le_of_ble_eq_true rfl) rfl (fun p e s m below meth c S hr hlo hnm ls hl I => T12_allHad_0 S hr hlo ((gd f).2) I (lv_sub hl [0, 1] rfl))
def vX12_back : List Cond := .code yX12_back cX12_back 2 (some .int) :: TB
theorem lf12_back_106 : Fl vX12_back RX12 106 12 61 := ⟨RX12, TX12, 87, rfl, by decide, (fun w h9 => List.mem_cons_of_mem _ (wC_wsX120 w h9)), (List.mem_cons_of_mem _ wT_11_4)⟩
theorem lf12_back_533 : Fl vX12_back RX12 533 12 82 := ⟨RX12, TX12, 87, rfl, by decide, (fun w h9 => List.mem_cons_of_mem _ (wC_wsX120 w h9)), (List.mem_cons_of_mem _ wT_67_1)⟩
theorem lf12_back_536 : Fl vX12_back RX12 536 12 83 := ⟨RX12, TX12, 87, rfl, by decide, (fun w h9 => List.mem_cons_of_mem _ (wC_wsX120 w h9)), (List.mem_cons_of_mem _ wT_67_2)⟩
theorem lp12_back_369 : Pl vX12_back RX12 369 12 64 .int := ⟨RX12, TX12, 87, tyX12, rfl, by decide, (fun w h9 => List.mem_cons_of_mem _ (wC_wsX120 w h9)), (List.mem_cons_of_mem _ wT_12_23), tyX12_ok, nmX12, rfl, rfl⟩
theorem lf12_back_109 : Fl vX12_back RX12 109 12 62 := ⟨RX12, TX12, 87, rfl, by decide, (fun w h9 => List.mem_cons_of_mem _ (wC_wsX120 w h9)), (List.mem_cons_of_mem _ wT_11_5)⟩
theorem lf12_back_539 : Fl vX12_back RX12 539 12 84 := ⟨RX12, TX12, 87, rfl, by decide, (fun w h9 => List.mem_cons_of_mem _ (wC_wsX120 w h9)), (List.mem_cons_of_mem _ wT_67_3)⟩
theorem lf12_back_112 : Fl vX12_back RX12 112 12 63 := ⟨RX12, TX12, 87, rfl, by decide, (fun w h9 => List.mem_cons_of_mem _ (wC_wsX120 w h9)), (List.mem_cons_of_mem _ wT_11_6)⟩
theorem lf12_back_542 : Fl vX12_back RX12 542 12 85 := ⟨RX12, TX12, 87, rfl, by decide, (fun w h9 => List.mem_cons_of_mem _ (wC_wsX120 w h9)), (List.mem_cons_of_mem _ wT_67_4)⟩
theorem lf12_back_545 : Fl vX12_back RX12 545 12 86 := ⟨RX12, TX12, 87, rfl, by decide, (fun w h9 => List.mem_cons_of_mem _ (wC_wsX120 w h9)), (List.mem_cons_of_mem _ wT_67_5)⟩
theorem lp12_back_372 : Pl vX12_back RX12 372 12 65 .long := ⟨RX12, TX12, 87, tyX12, rfl, by decide, (fun w h9 => List.mem_cons_of_mem _ (wC_wsX120 w h9)), (List.mem_cons_of_mem _ wT_13_0), tyX12_ok, nmX12, rfl, rfl⟩
theorem lp12_back_379 : Pl vX12_back RX12 379 12 78 .int := ⟨RX12, TX12, 87, tyX12, rfl, by decide, (fun w h9 => List.mem_cons_of_mem _ (wC_wsX120 w h9)), (List.mem_cons_of_mem _ wT_13_2), tyX12_ok, nmX12, rfl, rfl⟩
theorem lf12_back_103 : Fl vX12_back RX12 103 12 60 := ⟨RX12, TX12, 87, rfl, by decide, (fun w h9 => List.mem_cons_of_mem _ (wC_wsX120 w h9)), (List.mem_cons_of_mem _ wT_11_3)⟩
theorem lf12_back_145 : Fl vX12_back RX12 145 12 81 := ⟨RX12, TX12, 87, rfl, by decide, (fun w h9 => List.mem_cons_of_mem _ (wC_wsX120 w h9)), (List.mem_cons_of_mem _ wT_11_17)⟩
theorem lf12_back_88 : Fl vX12_back RX12 88 12 55 := ⟨RX12, TX12, 87, rfl, by decide, (fun w h9 => List.mem_cons_of_mem _ (wC_wsX120 w h9)), (List.mem_cons_of_mem _ wT_10_22)⟩
theorem lf12_back_91 : Fl vX12_back RX12 91 12 56 := ⟨RX12, TX12, 87, rfl, by decide, (fun w h9 => List.mem_cons_of_mem _ (wC_wsX120 w h9)), (List.mem_cons_of_mem _ wT_10_23)⟩
theorem lf12_back_94 : Fl vX12_back RX12 94 12 57 := ⟨RX12, TX12, 87, rfl, by decide, (fun w h9 => List.mem_cons_of_mem _ (wC_wsX120 w h9)), (List.mem_cons_of_mem _ wT_11_0)⟩
theorem lf12_back_97 : Fl vX12_back RX12 97 12 58 := ⟨RX12, TX12, 87, rfl, by decide, (fun w h9 => List.mem_cons_of_mem _ (wC_wsX120 w h9)), (List.mem_cons_of_mem _ wT_11_1)⟩
theorem lf12_back_100 : Fl vX12_back RX12 100 12 59 := ⟨RX12, TX12, 87, rfl, by decide, (fun w h9 => List.mem_cons_of_mem _ (wC_wsX120 w h9)), (List.mem_cons_of_mem _ wT_11_2)⟩
theorem lp12_back_154 : Pl vX12_back RX12 154 12 2 .int := ⟨RX12, TX12, 87, tyX12, rfl, by decide, (fun w h9 => List.mem_cons_of_mem _ (wC_wsX120 w h9)), (List.mem_cons_of_mem _ wT_13_17), tyX12_ok, nmX12, rfl, rfl⟩
theorem lf12_back_382 : Fl vX12_back RX12 382 12 80 := ⟨RX12, TX12, 87, rfl, by decide, (fun w h9 => List.mem_cons_of_mem _ (wC_wsX120 w h9)), (List.mem_cons_of_mem _ wT_13_3)⟩
theorem cd12_back : Cd yX12_back 0 := ⟨by decide, by decide, by decide +kernel⟩
set_option maxHeartbeats 4000000 in
set_option maxRecDepth 100000 in
theorem T12_back_100 (S : CallFix p m c cX12_back 2 s args vX12_back RX12) (hr : meth.sig.returnType = (some .int)) (hlo : meth.locks = false) {out : Int32 × PH} : ∀ (n : Nat) {h : PH} {a0 : Nat} {x1 : Int32} (f : F12_back_100  n h a0 x1 = some out) {H : Heap} {locs : List Loc} (I : ph_I D cy b A fl h s H locs) {ls : Array Slot} (hl : lv_has ls 2 [(0, .ref (b + a0)), (1, .int x1)]), W p l e ({ frames := 0, cells := 0, slots := 0, locals := 0 } : Room) s m args below meth c H locs 0 0 (MQ below (va_Qi (fun (r : Int32) (u : PH) => (r, u) = out) (ph_B D cy b A fl) A) args s 0 0 A) (F0 m 100 ls []) := by
  intro n
  induction n with
  | zero => intro h a0 x1 f; rw [F12_back_100] at f; cases f
  | succ n ih =>
    intro h a0 x1 f H locs I ls hl
    rw [F12_back_100] at f
    refine lv_iload_n S.1 S.2.1 dX12_back_100 rfl (lv_at hl 1 rfl) ?_
    refine lv_bipush (v := 28) S.1 S.2.1 dX12_back_101 (by decide) ?_
    refine lv_icmp_ge (tgt := 127) S.1 S.2.1 dX12_back_103 (by decide) (fun q1 => ?_) (fun q1 => ?_)
    · have f := (if_pos q1).symm.trans f
      refine lv_aload_n S.1 S.2.1 dX12_back_127 rfl (lv_at hl 0 rfl) ?_
      obtain ⟨r2, e3, f⟩ := ob f
      refine o_gR S lf12_back_106 I e3 dX12_back_128 ?_
      refine lv_iconst (v := 0) S.1 S.2.1 dX12_back_131 (by decide) ?_
      refine lv_aload_n S.1 S.2.1 dX12_back_132 rfl (lv_at hl 0 rfl) ?_
      obtain ⟨v4, e5, f⟩ := ob f
      refine o_gI S lf12_back_533 I e5 dX12_back_133 ?_
      obtain ⟨h7, e6, f⟩ := ob f
      refine o_iast S I e6 dX12_back_136 (fun H locs I => ?_)
      refine lv_aload_n S.1 S.2.1 dX12_back_137 rfl (lv_at hl 0 rfl) ?_
      refine lv_aload_n S.1 S.2.1 dX12_back_138 rfl (lv_at hl 0 rfl) ?_
      obtain ⟨v8, e9, f⟩ := ob f
      refine o_gI S lf12_back_536 I e9 dX12_back_139 ?_
      obtain ⟨h10, e11, f⟩ := ob f
      refine o_pI S lp12_back_369 I e11 dX12_back_142 (fun H locs I => ?_)
      refine lv_aload_n S.1 S.2.1 dX12_back_145 rfl (lv_at hl 0 rfl) ?_
      obtain ⟨r12, e13, f⟩ := ob f
      refine o_gR S lf12_back_109 I e13 dX12_back_146 ?_
      refine lv_iconst (v := 0) S.1 S.2.1 dX12_back_149 (by decide) ?_
      refine lv_aload_n S.1 S.2.1 dX12_back_150 rfl (lv_at hl 0 rfl) ?_
      obtain ⟨v14, e15, f⟩ := ob f
      refine o_gI S lf12_back_539 I e15 dX12_back_151 ?_
      obtain ⟨h17, e16, f⟩ := ob f
      refine o_iast S I e16 dX12_back_154 (fun H locs I => ?_)
      refine lv_aload_n S.1 S.2.1 dX12_back_155 rfl (lv_at hl 0 rfl) ?_
      obtain ⟨r18, e19, f⟩ := ob f
      refine o_gR S lf12_back_112 I e19 dX12_back_156 ?_
      refine lv_iconst (v := 0) S.1 S.2.1 dX12_back_159 (by decide) ?_
      refine lv_aload_n S.1 S.2.1 dX12_back_160 rfl (lv_at hl 0 rfl) ?_
      obtain ⟨v20, e21, f⟩ := ob f
      refine o_gI S lf12_back_542 I e21 dX12_back_161 ?_
      obtain ⟨h23, e22, f⟩ := ob f
      refine o_iast S I e22 dX12_back_164 (fun H locs I => ?_)
      refine lv_aload_n S.1 S.2.1 dX12_back_165 rfl (lv_at hl 0 rfl) ?_
      refine lv_aload_n S.1 S.2.1 dX12_back_166 rfl (lv_at hl 0 rfl) ?_
      obtain ⟨w24, e25, f⟩ := ob f
      refine o_gJ S lf12_back_545 I e25 dX12_back_167 ?_
      obtain ⟨h26, e27, f⟩ := ob f
      refine o_pJ S lp12_back_372 I e27 dX12_back_170 (fun H locs I => ?_)
      refine lv_aload_n S.1 S.2.1 dX12_back_173 rfl (lv_at hl 0 rfl) ?_
      refine lv_iconst (v := 0) S.1 S.2.1 dX12_back_174 (by decide) ?_
      obtain ⟨h28, e29, f⟩ := ob f
      refine o_pI S lp12_back_379 I e29 dX12_back_175 (fun H locs I => ?_)
      refine lv_aload_n S.1 S.2.1 dX12_back_178 rfl (lv_at hl 0 rfl) ?_
      obtain ⟨r30, e31, f⟩ := ob f
      refine o_gR S lf12_back_106 I e31 dX12_back_179 ?_
      refine lv_iconst (v := 0) S.1 S.2.1 dX12_back_182 (by decide) ?_
      obtain ⟨v33, e32, f⟩ := ob f
      refine o_iald S I e32 dX12_back_183 ?_
      exact o_iret S hr hlo I f dX12_back_184
    · have f := (if_neg q1).symm.trans f
      refine lv_aload_n S.1 S.2.1 dX12_back_106 rfl (lv_at hl 0 rfl) ?_
      obtain ⟨r34, e35, f⟩ := ob f
      refine o_gR S lf12_back_103 I e35 dX12_back_107 ?_
      refine lv_iload_n S.1 S.2.1 dX12_back_110 rfl (lv_at hl 1 rfl) ?_
      refine lv_aload_n S.1 S.2.1 dX12_back_111 rfl (lv_at hl 0 rfl) ?_
      obtain ⟨r36, e37, f⟩ := ob f
      refine o_gR S lf12_back_145 I e37 dX12_back_112 ?_
      refine lv_bipush (v := 25) S.1 S.2.1 dX12_back_115 (by decide) ?_
      refine lv_iload_n S.1 S.2.1 dX12_back_117 rfl (lv_at hl 1 rfl) ?_
      refine lv_iadd S.1 S.2.1 dX12_back_118 ?_
      obtain ⟨v39, e38, f⟩ := ob f
      refine o_iald S I e38 dX12_back_119 ?_
      obtain ⟨h41, e40, f⟩ := ob f
      refine o_iast S I e40 dX12_back_120 (fun H locs I => ?_)
      refine lv_iinc (v := (x1 + 1)) (lv' := [(1, .int (x1 + 1)), (0, .ref (b + a0))]) S.1 S.2.1 dX12_back_121 hl (k := 1) rfl (congrArg (fun z => x1 + z) (by decide)) (by decide) rfl (fun ls hl => ?_)
      refine lv_goto (tgt := 100) S.1 S.2.1 dX12_back_124 (by decide) ?_
      exact ih f I (lv_sub hl [1, 0] rfl)
set_option maxHeartbeats 4000000 in
set_option maxRecDepth 100000 in
theorem T12_back_16 (S : CallFix p m c cX12_back 2 s args vX12_back RX12) (hr : meth.sig.returnType = (some .int)) (hlo : meth.locks = false) {out : Int32 × PH} : ∀ (n : Nat) {h : PH} {a0 : Nat} {x1 : Int32} (f : F12_back_16  n h a0 x1 = some out) {H : Heap} {locs : List Loc} (I : ph_I D cy b A fl h s H locs) {ls : Array Slot} (hl : lv_has ls 2 [(0, .ref (b + a0)), (1, .int x1)]), W p l e ({ frames := 0, cells := 0, slots := 0, locals := 0 } : Room) s m args below meth c H locs 0 0 (MQ below (va_Qi (fun (r : Int32) (u : PH) => (r, u) = out) (ph_B D cy b A fl) A) args s 0 0 A) (F0 m 16 ls []) := by
  intro n
  induction n with
  | zero => intro h a0 x1 f; rw [F12_back_16] at f; cases f
  | succ n ih =>
    intro h a0 x1 f H locs I ls hl
    rw [F12_back_16] at f
    refine lv_iload_n S.1 S.2.1 dX12_back_16 rfl (lv_at hl 1 rfl) ?_
    refine lv_iconst (v := 5) S.1 S.2.1 dX12_back_17 (by decide) ?_
    refine lv_icmp_ge (tgt := 98) S.1 S.2.1 dX12_back_18 (by decide) (fun q1 => ?_) (fun q1 => ?_)
    · have f := (if_pos q1).symm.trans f
      refine lv_iconst (v := 0) S.1 S.2.1 dX12_back_98 (by decide) ?_
      refine lv_istore_n (lv' := [(1, .int 0), (0, .ref (b + a0))]) S.1 S.2.1 dX12_back_99 rfl hl (by decide) rfl (fun ls hl => ?_)
      exact T12_back_100 S hr hlo  1024 f I (lv_sub hl [1, 0] rfl)
    · have f := (if_neg q1).symm.trans f
      refine lv_aload_n S.1 S.2.1 dX12_back_21 rfl (lv_at hl 0 rfl) ?_
      obtain ⟨r2, e3, f⟩ := ob f
      refine o_gR S lf12_back_88 I e3 dX12_back_22 ?_
      refine lv_iload_n S.1 S.2.1 dX12_back_25 rfl (lv_at hl 1 rfl) ?_
      refine lv_aload_n S.1 S.2.1 dX12_back_26 rfl (lv_at hl 0 rfl) ?_
      obtain ⟨r4, e5, f⟩ := ob f
      refine o_gR S lf12_back_145 I e5 dX12_back_27 ?_
      refine lv_iload_n S.1 S.2.1 dX12_back_30 rfl (lv_at hl 1 rfl) ?_
      obtain ⟨v7, e6, f⟩ := ob f
      refine o_iald S I e6 dX12_back_31 ?_
      obtain ⟨h9, e8, f⟩ := ob f
      refine o_iast S I e8 dX12_back_32 (fun H locs I => ?_)
      refine lv_aload_n S.1 S.2.1 dX12_back_33 rfl (lv_at hl 0 rfl) ?_
      obtain ⟨r10, e11, f⟩ := ob f
      refine o_gR S lf12_back_91 I e11 dX12_back_34 ?_
      refine lv_iload_n S.1 S.2.1 dX12_back_37 rfl (lv_at hl 1 rfl) ?_
      refine lv_aload_n S.1 S.2.1 dX12_back_38 rfl (lv_at hl 0 rfl) ?_
      obtain ⟨r12, e13, f⟩ := ob f
      refine o_gR S lf12_back_145 I e13 dX12_back_39 ?_
      refine lv_iconst (v := 5) S.1 S.2.1 dX12_back_42 (by decide) ?_
      refine lv_iload_n S.1 S.2.1 dX12_back_43 rfl (lv_at hl 1 rfl) ?_
      refine lv_iadd S.1 S.2.1 dX12_back_44 ?_
      obtain ⟨v15, e14, f⟩ := ob f
      refine o_iald S I e14 dX12_back_45 ?_
      obtain ⟨h17, e16, f⟩ := ob f
      refine o_iast S I e16 dX12_back_46 (fun H locs I => ?_)
      refine lv_aload_n S.1 S.2.1 dX12_back_47 rfl (lv_at hl 0 rfl) ?_
      obtain ⟨r18, e19, f⟩ := ob f
      refine o_gR S lf12_back_94 I e19 dX12_back_48 ?_
      refine lv_iload_n S.1 S.2.1 dX12_back_51 rfl (lv_at hl 1 rfl) ?_
      refine lv_aload_n S.1 S.2.1 dX12_back_52 rfl (lv_at hl 0 rfl) ?_
      obtain ⟨r20, e21, f⟩ := ob f
      refine o_gR S lf12_back_145 I e21 dX12_back_53 ?_
      refine lv_bipush (v := 10) S.1 S.2.1 dX12_back_56 (by decide) ?_
      refine lv_iload_n S.1 S.2.1 dX12_back_58 rfl (lv_at hl 1 rfl) ?_
      refine lv_iadd S.1 S.2.1 dX12_back_59 ?_
      obtain ⟨v23, e22, f⟩ := ob f
      refine o_iald S I e22 dX12_back_60 ?_
      obtain ⟨h25, e24, f⟩ := ob f
      refine o_iast S I e24 dX12_back_61 (fun H locs I => ?_)
      refine lv_aload_n S.1 S.2.1 dX12_back_62 rfl (lv_at hl 0 rfl) ?_
      obtain ⟨r26, e27, f⟩ := ob f
      refine o_gR S lf12_back_97 I e27 dX12_back_63 ?_
      refine lv_iload_n S.1 S.2.1 dX12_back_66 rfl (lv_at hl 1 rfl) ?_
      refine lv_aload_n S.1 S.2.1 dX12_back_67 rfl (lv_at hl 0 rfl) ?_
      obtain ⟨r28, e29, f⟩ := ob f
      refine o_gR S lf12_back_145 I e29 dX12_back_68 ?_
      refine lv_bipush (v := 15) S.1 S.2.1 dX12_back_71 (by decide) ?_
      refine lv_iload_n S.1 S.2.1 dX12_back_73 rfl (lv_at hl 1 rfl) ?_
      refine lv_iadd S.1 S.2.1 dX12_back_74 ?_
      obtain ⟨v31, e30, f⟩ := ob f
      refine o_iald S I e30 dX12_back_75 ?_
      obtain ⟨h33, e32, f⟩ := ob f
      refine o_iast S I e32 dX12_back_76 (fun H locs I => ?_)
      refine lv_aload_n S.1 S.2.1 dX12_back_77 rfl (lv_at hl 0 rfl) ?_
      obtain ⟨r34, e35, f⟩ := ob f
      refine o_gR S lf12_back_100 I e35 dX12_back_78 ?_
      refine lv_iload_n S.1 S.2.1 dX12_back_81 rfl (lv_at hl 1 rfl) ?_
      refine lv_aload_n S.1 S.2.1 dX12_back_82 rfl (lv_at hl 0 rfl) ?_
      obtain ⟨r36, e37, f⟩ := ob f
      refine o_gR S lf12_back_145 I e37 dX12_back_83 ?_
      refine lv_bipush (v := 20) S.1 S.2.1 dX12_back_86 (by decide) ?_
      refine lv_iload_n S.1 S.2.1 dX12_back_88 rfl (lv_at hl 1 rfl) ?_
      refine lv_iadd S.1 S.2.1 dX12_back_89 ?_
      obtain ⟨v39, e38, f⟩ := ob f
      refine o_iald S I e38 dX12_back_90 ?_
      obtain ⟨h41, e40, f⟩ := ob f
      refine o_iast S I e40 dX12_back_91 (fun H locs I => ?_)
      refine lv_iinc (v := (x1 + 1)) (lv' := [(1, .int (x1 + 1)), (0, .ref (b + a0))]) S.1 S.2.1 dX12_back_92 hl (k := 1) rfl (congrArg (fun z => x1 + z) (by decide)) (by decide) rfl (fun ls hl => ?_)
      refine lv_goto (tgt := 16) S.1 S.2.1 dX12_back_95 (by decide) ?_
      exact ih f I (lv_sub hl [1, 0] rfl)
set_option maxHeartbeats 4000000 in
set_option maxRecDepth 100000 in
theorem T12_back_0 (S : CallFix p m c cX12_back 2 s args vX12_back RX12) (hr : meth.sig.returnType = (some .int)) (hlo : meth.locks = false) {out : Int32 × PH} {h : PH} {a0 : Nat} (f : F12_back_0  h a0 = some out) {H : Heap} {locs : List Loc} (I : ph_I D cy b A fl h s H locs) {ls : Array Slot} (hl : lv_has ls 2 [(0, .ref (b + a0))]) : W p l e ({ frames := 0, cells := 0, slots := 0, locals := 0 } : Room) s m args below meth c H locs 0 0 (MQ below (va_Qi (fun (r : Int32) (u : PH) => (r, u) = out) (ph_B D cy b A fl) A) args s 0 0 A) (F0 m 0 ls []) := by
  unfold F12_back_0 at f
  refine lv_aload_n S.1 S.2.1 dX12_back_0 rfl (lv_at hl 0 rfl) ?_
  refine lv_iconst (v := 0) S.1 S.2.1 dX12_back_1 (by decide) ?_
  obtain ⟨h1, e2, f⟩ := ob f
  refine o_pI S lp12_back_154 I e2 dX12_back_2 (fun H locs I => ?_)
  refine lv_aload_n S.1 S.2.1 dX12_back_5 rfl (lv_at hl 0 rfl) ?_
  obtain ⟨v3, e4, f⟩ := ob f
  refine o_gI S lf12_back_382 I e4 dX12_back_6 ?_
  refine lv_if_ne (tgt := 14) S.1 S.2.1 dX12_back_9 (by decide) (fun q5 => ?_) (fun q5 => ?_)
  · have f := (if_neg q5).symm.trans f
    refine lv_iconst (v := 0) S.1 S.2.1 dX12_back_14 (by decide) ?_
    refine lv_istore_n (lv' := [(1, .int 0), (0, .ref (b + a0))]) S.1 S.2.1 dX12_back_15 rfl hl (by decide) rfl (fun ls hl => ?_)
    exact T12_back_16 S hr hlo  1024 f I (lv_sub hl [1, 0] rfl)
  · have f := (if_pos q5).symm.trans f
    refine lv_iconst (v := (-1)) S.1 S.2.1 dX12_back_12 (by decide) ?_
    exact o_iret S hr hlo I f dX12_back_13
theorem M12_back (l : Launch) (D : va_G) (cy : Nat → ClassId) (b : Nat) (A : Nat → Prop) (fl : Bool) {h : PH} {a0 : Nat} {out : Int32 × PH} (f : F12_back h a0 = some out) : Met l yX12_back vX12_back ({ frames := 0, cells := 0, slots := 0, locals := 0 } : Room) (va_Pc [.ref (b + a0)] (ph_B D cy b A fl h)) (va_Qi (fun (r : Int32) (u : PH) => (r, u) = out) (ph_B D cy b A fl) A) 0 0 A :=
  o_met (by decide) rfl (Nat.le_of_ble_eq_true rfl) rfl (fun p e s m below meth c S hr hlo hnm ls hl I => T12_back_0 S hr hlo ((gd f).2) I (lv_sub hl [0] rfl))
def vX12_isSmall : List Cond := .code yX12_isSmall cX12_isSmall 2 (some .boolean) :: TB
theorem lf12_isSmall_166 : Fl vX12_isSmall RX12 166 12 6 := ⟨RX12, TX12, 87, rfl, by decide, (fun w h9 => List.mem_cons_of_mem _ (wC_wsX120 w h9)), (List.mem_cons_of_mem _ wT_26_17)⟩
theorem lf12_isSmall_7 : Fl vX12_isSmall RX12 7 12 0 := ⟨RX12, TX12, 87, rfl, by decide, (fun w h9 => List.mem_cons_of_mem _ (wC_wsX120 w h9)), (List.mem_cons_of_mem _ wT_9_21)⟩
theorem cd12_isSmall : Cd yX12_isSmall 1 := ⟨by decide, by decide, by decide +kernel⟩
set_option maxHeartbeats 4000000 in
set_option maxRecDepth 100000 in
theorem T12_isSmall_0 (S : CallFix p m c cX12_isSmall 2 s args vX12_isSmall RX12) (hr : meth.sig.returnType = (some .boolean)) (hlo : meth.locks = false) {out : Int32 × PH} {h : PH} {a0 : Nat} {x1 : Int32} (f : F12_isSmall_0  h a0 x1 = some out) {H : Heap} {locs : List Loc} (I : ph_I D cy b A fl h s H locs) {ls : Array Slot} (hl : lv_has ls 2 [(0, .ref (b + a0)), (1, .int x1)]) : W p l e ({ frames := 0, cells := 0, slots := 0, locals := 0 } : Room) s m args below meth c H locs 0 0 (MQ below (va_Qi (fun (r : Int32) (u : PH) => (r, u) = out) (ph_B D cy b A fl) A) args s 0 0 A) (F0 m 0 ls []) := by
  unfold F12_isSmall_0 at f
  refine lv_iload_n S.1 S.2.1 dX12_isSmall_0 rfl (lv_at hl 1 rfl) ?_
  refine lv_aload_n S.1 S.2.1 dX12_isSmall_1 rfl (lv_at hl 0 rfl) ?_
  obtain ⟨v1, e2, f⟩ := ob f
  refine o_gI S lf12_isSmall_166 I e2 dX12_isSmall_2 ?_
  refine lv_icmp_ge (tgt := 34) S.1 S.2.1 dX12_isSmall_5 (by decide) (fun q3 => ?_) (fun q3 => ?_)
  · have f := (if_pos q3).symm.trans f
    refine lv_iconst (v := 0) S.1 S.2.1 dX12_isSmall_34 (by decide) ?_
    exact o_zret S hr hlo I f dX12_isSmall_35
  · have f := (if_neg q3).symm.trans f
    refine lv_aload_n S.1 S.2.1 dX12_isSmall_8 rfl (lv_at hl 0 rfl) ?_
    obtain ⟨r4, e5, f⟩ := ob f
    refine o_gR S lf12_isSmall_7 I e5 dX12_isSmall_9 ?_
    refine lv_iload_n S.1 S.2.1 dX12_isSmall_12 rfl (lv_at hl 1 rfl) ?_
    obtain ⟨v7, e6, f⟩ := ob f
    refine o_iald S I e6 dX12_isSmall_13 ?_
    refine lv_bipush (v := 97) S.1 S.2.1 dX12_isSmall_14 (by decide) ?_
    refine lv_icmp_lt (tgt := 34) S.1 S.2.1 dX12_isSmall_16 (by decide) (fun q8 => ?_) (fun q8 => ?_)
    · have f := (if_pos q8).symm.trans f
      refine lv_iconst (v := 0) S.1 S.2.1 dX12_isSmall_34 (by decide) ?_
      exact o_zret S hr hlo I f dX12_isSmall_35
    · have f := (if_neg q8).symm.trans f
      refine lv_aload_n S.1 S.2.1 dX12_isSmall_19 rfl (lv_at hl 0 rfl) ?_
      obtain ⟨r9, e10, f⟩ := ob f
      refine o_gR S lf12_isSmall_7 I e10 dX12_isSmall_20 ?_
      refine lv_iload_n S.1 S.2.1 dX12_isSmall_23 rfl (lv_at hl 1 rfl) ?_
      obtain ⟨v12, e11, f⟩ := ob f
      refine o_iald S I e11 dX12_isSmall_24 ?_
      refine lv_bipush (v := 122) S.1 S.2.1 dX12_isSmall_25 (by decide) ?_
      refine lv_icmp_gt (tgt := 34) S.1 S.2.1 dX12_isSmall_27 (by decide) (fun q13 => ?_) (fun q13 => ?_)
      · have f := (if_pos q13).symm.trans f
        refine lv_iconst (v := 0) S.1 S.2.1 dX12_isSmall_34 (by decide) ?_
        exact o_zret S hr hlo I f dX12_isSmall_35
      · have f := (if_neg q13).symm.trans f
        refine lv_iconst (v := 1) S.1 S.2.1 dX12_isSmall_30 (by decide) ?_
        refine lv_goto (tgt := 35) S.1 S.2.1 dX12_isSmall_31 (by decide) ?_
        exact o_zret S hr hlo I f dX12_isSmall_35
theorem M12_isSmall (l : Launch) (D : va_G) (cy : Nat → ClassId) (b : Nat) (A : Nat → Prop) (fl : Bool) {h : PH} {a0 : Nat} {x1 : Int32} {out : Int32 × PH} (f : F12_isSmall h a0 x1 = some out) : Met l yX12_isSmall vX12_isSmall ({ frames := 0, cells := 0, slots := 0, locals := 0 } : Room) (va_Pc [.ref (b + a0), .int x1] (ph_B D cy b A fl h)) (va_Qi (fun (r : Int32) (u : PH) => (r, u) = out) (ph_B D cy b A fl) A) 0 0 A :=
  o_met (by decide) rfl (Nat.le_of_ble_eq_true rfl) rfl (fun p e s m below meth c S hr hlo hnm ls hl I => T12_isSmall_0 S hr hlo ((gd f).2) I (lv_sub hl [0, 1] rfl))
def vX12_wordAt : List Cond := .code yX12_wordAt cX12_wordAt 8 (some .int) :: TB
theorem lf12_wordAt_13 : Fl vX12_wordAt RX12 13 12 3 := ⟨RX12, TX12, 87, rfl, by decide, (fun w h9 => List.mem_cons_of_mem _ (wC_wsX120 w h9)), (List.mem_cons_of_mem _ wT_9_22)⟩
theorem lf12_wordAt_7 : Fl vX12_wordAt RX12 7 12 0 := ⟨RX12, TX12, 87, rfl, by decide, (fun w h9 => List.mem_cons_of_mem _ (wC_wsX120 w h9)), (List.mem_cons_of_mem _ wT_9_21)⟩
theorem cd12_wordAt : Cd yX12_wordAt 2 := ⟨by decide, by decide, by decide +kernel⟩
set_option maxHeartbeats 4000000 in
set_option maxRecDepth 100000 in
theorem T12_wordAt_104 (S : CallFix p m c cX12_wordAt 8 s args vX12_wordAt RX12) (hr : meth.sig.returnType = (some .int)) (hlo : meth.locks = false) {out : Int32 × PH} {k5 : PH → Nat → Int32 → Int32 → Int32 → Int32 → Option (Int32 × PH)} (hk5 : ∀ {h : PH} {a0 : Nat} {x1 : Int32} {x2 : Int32} {x3 : Int32} {x4 : Int32}, k5 h a0 x1 x2 x3 x4 = some out → ∀ (H : Heap) (locs : List Loc), ph_I D cy b A fl h s H locs → ∀ (ls : Array Slot), lv_has ls 8 [(0, .ref (b + a0)), (1, .int x1), (2, .int x2), (3, .int x3), (4, .int x4)] → W p l e ({ frames := 0, cells := 0, slots := 0, locals := 0 } : Room) s m args below meth c H locs 0 0 (MQ below (va_Qi (fun (r : Int32) (u : PH) => (r, u) = out) (ph_B D cy b A fl) A) args s 0 0 A) (F0 m 5 ls [])) {h : PH} {a0 : Nat} {x1 : Int32} {x2 : Int32} {x3 : Int32} {x4 : Int32} {x5 : Int32} {x6 : Int32} (f : F12_wordAt_104 k5 h a0 x1 x2 x3 x4 x5 x6 = some out) {H : Heap} {locs : List Loc} (I : ph_I D cy b A fl h s H locs) {ls : Array Slot} (hl : lv_has ls 8 [(0, .ref (b + a0)), (1, .int x1), (2, .int x2), (3, .int x3), (4, .int x4), (5, .int x5), (6, .int x6)]) : W p l e ({ frames := 0, cells := 0, slots := 0, locals := 0 } : Room) s m args below meth c H locs 0 0 (MQ below (va_Qi (fun (r : Int32) (u : PH) => (r, u) = out) (ph_B D cy b A fl) A) args s 0 0 A) (F0 m 104 ls []) := by
  unfold F12_wordAt_104 at f
  refine lv_iload S.1 S.2.1 dX12_wordAt_104 (lv_at hl 6 rfl) ?_
  refine lv_if_eq (tgt := 111) S.1 S.2.1 dX12_wordAt_106 (by decide) (fun q1 => ?_) (fun q1 => ?_)
  · have f := (if_pos q1).symm.trans f
    refine lv_iload S.1 S.2.1 dX12_wordAt_111 (lv_at hl 4 rfl) ?_
    refine lv_iload S.1 S.2.1 dX12_wordAt_113 (lv_at hl 5 rfl) ?_
    refine lv_iconst (v := 1) S.1 S.2.1 dX12_wordAt_115 (by decide) ?_
    refine lv_iadd S.1 S.2.1 dX12_wordAt_116 ?_
    refine lv_iadd S.1 S.2.1 dX12_wordAt_117 ?_
    refine lv_istore (lv' := [(4, .int (x4 + (x5 + 1))), (0, .ref (b + a0)), (1, .int x1), (2, .int x2), (3, .int x3), (5, .int x5), (6, .int x6)]) S.1 S.2.1 dX12_wordAt_118 hl (by decide) rfl (fun ls hl => ?_)
    refine lv_iinc (v := (x3 + 1)) (lv' := [(3, .int (x3 + 1)), (4, .int (x4 + (x5 + 1))), (0, .ref (b + a0)), (1, .int x1), (2, .int x2), (5, .int x5), (6, .int x6)]) S.1 S.2.1 dX12_wordAt_120 hl (k := 4) rfl (congrArg (fun z => x3 + z) (by decide)) (by decide) rfl (fun ls hl => ?_)
    refine lv_goto (tgt := 5) S.1 S.2.1 dX12_wordAt_123 (by decide) ?_
    exact hk5 f _ _ I _ (lv_sub hl [2, 3, 4, 0, 1] rfl)
  · have f := (if_neg q1).symm.trans f
    refine lv_iload_n S.1 S.2.1 dX12_wordAt_109 rfl (lv_at hl 3 rfl) ?_
    exact o_iret S hr hlo I f dX12_wordAt_110
set_option maxHeartbeats 4000000 in
set_option maxRecDepth 100000 in
theorem T12_wordAt_57 (S : CallFix p m c cX12_wordAt 8 s args vX12_wordAt RX12) (hr : meth.sig.returnType = (some .int)) (hlo : meth.locks = false) {out : Int32 × PH} {k5 : PH → Nat → Int32 → Int32 → Int32 → Int32 → Option (Int32 × PH)} (hk5 : ∀ {h : PH} {a0 : Nat} {x1 : Int32} {x2 : Int32} {x3 : Int32} {x4 : Int32}, k5 h a0 x1 x2 x3 x4 = some out → ∀ (H : Heap) (locs : List Loc), ph_I D cy b A fl h s H locs → ∀ (ls : Array Slot), lv_has ls 8 [(0, .ref (b + a0)), (1, .int x1), (2, .int x2), (3, .int x3), (4, .int x4)] → W p l e ({ frames := 0, cells := 0, slots := 0, locals := 0 } : Room) s m args below meth c H locs 0 0 (MQ below (va_Qi (fun (r : Int32) (u : PH) => (r, u) = out) (ph_B D cy b A fl) A) args s 0 0 A) (F0 m 5 ls [])) : ∀ (n : Nat) {h : PH} {a0 : Nat} {x1 : Int32} {x2 : Int32} {x3 : Int32} {x4 : Int32} {x5 : Int32} {x6 : Int32} {x7 : Int32} (f : F12_wordAt_57 k5 n h a0 x1 x2 x3 x4 x5 x6 x7 = some out) {H : Heap} {locs : List Loc} (I : ph_I D cy b A fl h s H locs) {ls : Array Slot} (hl : lv_has ls 8 [(0, .ref (b + a0)), (1, .int x1), (2, .int x2), (3, .int x3), (4, .int x4), (5, .int x5), (6, .int x6), (7, .int x7)]), W p l e ({ frames := 0, cells := 0, slots := 0, locals := 0 } : Room) s m args below meth c H locs 0 0 (MQ below (va_Qi (fun (r : Int32) (u : PH) => (r, u) = out) (ph_B D cy b A fl) A) args s 0 0 A) (F0 m 57 ls []) := by
  intro n
  induction n with
  | zero => intro h a0 x1 x2 x3 x4 x5 x6 x7 f; rw [F12_wordAt_57] at f; cases f
  | succ n ih =>
    intro h a0 x1 x2 x3 x4 x5 x6 x7 f H locs I ls hl
    rw [F12_wordAt_57] at f
    refine lv_iload S.1 S.2.1 dX12_wordAt_57 (lv_at hl 7 rfl) ?_
    refine lv_iload S.1 S.2.1 dX12_wordAt_59 (lv_at hl 5 rfl) ?_
    refine lv_icmp_ge (tgt := 104) S.1 S.2.1 dX12_wordAt_61 (by decide) (fun q1 => ?_) (fun q1 => ?_)
    · have f := (if_pos q1).symm.trans f
      exact T12_wordAt_104 S hr hlo (fun f _ _ I _ hl => hk5 f _ _ I _ hl) f I (lv_sub hl [0, 1, 2, 3, 4, 5, 6] rfl)
    · have f := (if_neg q1).symm.trans f
      refine lv_iload S.1 S.2.1 dX12_wordAt_64 (lv_at hl 6 rfl) ?_
      refine lv_if_eq (tgt := 104) S.1 S.2.1 dX12_wordAt_66 (by decide) (fun q2 => ?_) (fun q2 => ?_)
      · have f := (if_pos q2).symm.trans f
        exact T12_wordAt_104 S hr hlo (fun f _ _ I _ hl => hk5 f _ _ I _ hl) f I (lv_sub hl [0, 1, 2, 3, 4, 5, 6] rfl)
      · have f := (if_neg q2).symm.trans f
        refine lv_aload_n S.1 S.2.1 dX12_wordAt_69 rfl (lv_at hl 0 rfl) ?_
        obtain ⟨r3, e4, f⟩ := ob f
        refine o_gR S lf12_wordAt_13 I e4 dX12_wordAt_70 ?_
        refine lv_iload S.1 S.2.1 dX12_wordAt_73 (lv_at hl 4 rfl) ?_
        refine lv_iload S.1 S.2.1 dX12_wordAt_75 (lv_at hl 7 rfl) ?_
        refine lv_iadd S.1 S.2.1 dX12_wordAt_77 ?_
        obtain ⟨v6, e5, f⟩ := ob f
        refine o_iald S I e5 dX12_wordAt_78 ?_
        refine lv_aload_n S.1 S.2.1 dX12_wordAt_79 rfl (lv_at hl 0 rfl) ?_
        obtain ⟨r7, e8, f⟩ := ob f
        refine o_gR S lf12_wordAt_7 I e8 dX12_wordAt_80 ?_
        refine lv_iload_n S.1 S.2.1 dX12_wordAt_83 rfl (lv_at hl 1 rfl) ?_
        refine lv_iload S.1 S.2.1 dX12_wordAt_84 (lv_at hl 7 rfl) ?_
        refine lv_iadd S.1 S.2.1 dX12_wordAt_86 ?_
        obtain ⟨v10, e9, f⟩ := ob f
        refine o_iald S I e9 dX12_wordAt_87 ?_
        refine lv_icmp_ne (tgt := 95) S.1 S.2.1 dX12_wordAt_88 (by decide) (fun q11 => ?_) (fun q11 => ?_)
        · have f := (if_neg q11).symm.trans f
          refine lv_iconst (v := 0) S.1 S.2.1 dX12_wordAt_95 (by decide) ?_
          refine lv_istore (lv' := [(6, .int 0), (0, .ref (b + a0)), (1, .int x1), (2, .int x2), (3, .int x3), (4, .int x4), (5, .int x5), (7, .int x7)]) S.1 S.2.1 dX12_wordAt_96 hl (by decide) rfl (fun ls hl => ?_)
          refine lv_iinc (v := (x7 + 1)) (lv' := [(7, .int (x7 + 1)), (6, .int 0), (0, .ref (b + a0)), (1, .int x1), (2, .int x2), (3, .int x3), (4, .int x4), (5, .int x5)]) S.1 S.2.1 dX12_wordAt_98 hl (k := 7) rfl (congrArg (fun z => x7 + z) (by decide)) (by decide) rfl (fun ls hl => ?_)
          refine lv_goto (tgt := 57) S.1 S.2.1 dX12_wordAt_101 (by decide) ?_
          exact ih f I (lv_sub hl [2, 3, 4, 5, 6, 7, 1, 0] rfl)
        · have f := (if_pos q11).symm.trans f
          refine lv_iconst (v := 1) S.1 S.2.1 dX12_wordAt_91 (by decide) ?_
          refine lv_goto (tgt := 96) S.1 S.2.1 dX12_wordAt_92 (by decide) ?_
          refine lv_istore (lv' := [(6, .int 1), (0, .ref (b + a0)), (1, .int x1), (2, .int x2), (3, .int x3), (4, .int x4), (5, .int x5), (7, .int x7)]) S.1 S.2.1 dX12_wordAt_96 hl (by decide) rfl (fun ls hl => ?_)
          refine lv_iinc (v := (x7 + 1)) (lv' := [(7, .int (x7 + 1)), (6, .int 1), (0, .ref (b + a0)), (1, .int x1), (2, .int x2), (3, .int x3), (4, .int x4), (5, .int x5)]) S.1 S.2.1 dX12_wordAt_98 hl (k := 7) rfl (congrArg (fun z => x7 + z) (by decide)) (by decide) rfl (fun ls hl => ?_)
          refine lv_goto (tgt := 57) S.1 S.2.1 dX12_wordAt_101 (by decide) ?_
          exact ih f I (lv_sub hl [2, 3, 4, 5, 6, 7, 1, 0] rfl)
set_option maxHeartbeats 4000000 in
set_option maxRecDepth 100000 in
theorem T12_wordAt_18 (S : CallFix p m c cX12_wordAt 8 s args vX12_wordAt RX12) (hr : meth.sig.returnType = (some .int)) (hlo : meth.locks = false) {out : Int32 × PH} {k5 : PH → Nat → Int32 → Int32 → Int32 → Int32 → Option (Int32 × PH)} (hk5 : ∀ {h : PH} {a0 : Nat} {x1 : Int32} {x2 : Int32} {x3 : Int32} {x4 : Int32}, k5 h a0 x1 x2 x3 x4 = some out → ∀ (H : Heap) (locs : List Loc), ph_I D cy b A fl h s H locs → ∀ (ls : Array Slot), lv_has ls 8 [(0, .ref (b + a0)), (1, .int x1), (2, .int x2), (3, .int x3), (4, .int x4)] → W p l e ({ frames := 0, cells := 0, slots := 0, locals := 0 } : Room) s m args below meth c H locs 0 0 (MQ below (va_Qi (fun (r : Int32) (u : PH) => (r, u) = out) (ph_B D cy b A fl) A) args s 0 0 A) (F0 m 5 ls [])) : ∀ (n : Nat) {h : PH} {a0 : Nat} {x1 : Int32} {x2 : Int32} {x3 : Int32} {x4 : Int32} {x5 : Int32} (f : F12_wordAt_18 k5 n h a0 x1 x2 x3 x4 x5 = some out) {H : Heap} {locs : List Loc} (I : ph_I D cy b A fl h s H locs) {ls : Array Slot} (hl : lv_has ls 8 [(0, .ref (b + a0)), (1, .int x1), (2, .int x2), (3, .int x3), (4, .int x4), (5, .int x5)]), W p l e ({ frames := 0, cells := 0, slots := 0, locals := 0 } : Room) s m args below meth c H locs 0 0 (MQ below (va_Qi (fun (r : Int32) (u : PH) => (r, u) = out) (ph_B D cy b A fl) A) args s 0 0 A) (F0 m 18 ls []) := by
  intro n
  induction n with
  | zero => intro h a0 x1 x2 x3 x4 x5 f; rw [F12_wordAt_18] at f; cases f
  | succ n ih =>
    intro h a0 x1 x2 x3 x4 x5 f H locs I ls hl
    rw [F12_wordAt_18] at f
    refine lv_aload_n S.1 S.2.1 dX12_wordAt_18 rfl (lv_at hl 0 rfl) ?_
    obtain ⟨r1, e2, f⟩ := ob f
    refine o_gR S lf12_wordAt_13 I e2 dX12_wordAt_19 ?_
    refine lv_iload S.1 S.2.1 dX12_wordAt_22 (lv_at hl 4 rfl) ?_
    refine lv_iload S.1 S.2.1 dX12_wordAt_24 (lv_at hl 5 rfl) ?_
    refine lv_iadd S.1 S.2.1 dX12_wordAt_26 ?_
    obtain ⟨v4, e3, f⟩ := ob f
    refine o_iald S I e3 dX12_wordAt_27 ?_
    refine lv_bipush (v := 32) S.1 S.2.1 dX12_wordAt_28 (by decide) ?_
    refine lv_icmp_eq (tgt := 39) S.1 S.2.1 dX12_wordAt_30 (by decide) (fun q5 => ?_) (fun q5 => ?_)
    · have f := (if_pos q5).symm.trans f
      refine lv_iload S.1 S.2.1 dX12_wordAt_39 (lv_at hl 5 rfl) ?_
      refine lv_iload_n S.1 S.2.1 dX12_wordAt_41 rfl (lv_at hl 2 rfl) ?_
      refine lv_iload_n S.1 S.2.1 dX12_wordAt_42 rfl (lv_at hl 1 rfl) ?_
      refine lv_isub S.1 S.2.1 dX12_wordAt_43 ?_
      refine lv_icmp_ne (tgt := 51) S.1 S.2.1 dX12_wordAt_44 (by decide) (fun q6 => ?_) (fun q6 => ?_)
      · have f := (if_neg q6).symm.trans f
        refine lv_iconst (v := 0) S.1 S.2.1 dX12_wordAt_51 (by decide) ?_
        refine lv_istore (lv' := [(6, .int 0), (0, .ref (b + a0)), (1, .int x1), (2, .int x2), (3, .int x3), (4, .int x4), (5, .int x5)]) S.1 S.2.1 dX12_wordAt_52 hl (by decide) rfl (fun ls hl => ?_)
        refine lv_iconst (v := 0) S.1 S.2.1 dX12_wordAt_54 (by decide) ?_
        refine lv_istore (lv' := [(7, .int 0), (6, .int 0), (0, .ref (b + a0)), (1, .int x1), (2, .int x2), (3, .int x3), (4, .int x4), (5, .int x5)]) S.1 S.2.1 dX12_wordAt_55 hl (by decide) rfl (fun ls hl => ?_)
        exact T12_wordAt_57 S hr hlo (fun f _ _ I _ hl => hk5 f _ _ I _ hl) 1024 f I (lv_sub hl [2, 3, 4, 5, 6, 7, 1, 0] rfl)
      · have f := (if_pos q6).symm.trans f
        refine lv_iconst (v := 1) S.1 S.2.1 dX12_wordAt_47 (by decide) ?_
        refine lv_goto (tgt := 52) S.1 S.2.1 dX12_wordAt_48 (by decide) ?_
        refine lv_istore (lv' := [(6, .int 1), (0, .ref (b + a0)), (1, .int x1), (2, .int x2), (3, .int x3), (4, .int x4), (5, .int x5)]) S.1 S.2.1 dX12_wordAt_52 hl (by decide) rfl (fun ls hl => ?_)
        refine lv_iconst (v := 0) S.1 S.2.1 dX12_wordAt_54 (by decide) ?_
        refine lv_istore (lv' := [(7, .int 0), (6, .int 1), (0, .ref (b + a0)), (1, .int x1), (2, .int x2), (3, .int x3), (4, .int x4), (5, .int x5)]) S.1 S.2.1 dX12_wordAt_55 hl (by decide) rfl (fun ls hl => ?_)
        exact T12_wordAt_57 S hr hlo (fun f _ _ I _ hl => hk5 f _ _ I _ hl) 1024 f I (lv_sub hl [2, 3, 4, 5, 6, 7, 1, 0] rfl)
    · have f := (if_neg q5).symm.trans f
      refine lv_iinc (v := (x5 + 1)) (lv' := [(5, .int (x5 + 1)), (0, .ref (b + a0)), (1, .int x1), (2, .int x2), (3, .int x3), (4, .int x4)]) S.1 S.2.1 dX12_wordAt_33 hl (k := 5) rfl (congrArg (fun z => x5 + z) (by decide)) (by decide) rfl (fun ls hl => ?_)
      refine lv_goto (tgt := 18) S.1 S.2.1 dX12_wordAt_36 (by decide) ?_
      exact ih f I (lv_sub hl [1, 2, 3, 4, 5, 0] rfl)
set_option maxHeartbeats 4000000 in
set_option maxRecDepth 100000 in
theorem T12_wordAt_5 (S : CallFix p m c cX12_wordAt 8 s args vX12_wordAt RX12) (hr : meth.sig.returnType = (some .int)) (hlo : meth.locks = false) {out : Int32 × PH} : ∀ (n : Nat) {h : PH} {a0 : Nat} {x1 : Int32} {x2 : Int32} {x3 : Int32} {x4 : Int32} (f : F12_wordAt_5  n h a0 x1 x2 x3 x4 = some out) {H : Heap} {locs : List Loc} (I : ph_I D cy b A fl h s H locs) {ls : Array Slot} (hl : lv_has ls 8 [(0, .ref (b + a0)), (1, .int x1), (2, .int x2), (3, .int x3), (4, .int x4)]), W p l e ({ frames := 0, cells := 0, slots := 0, locals := 0 } : Room) s m args below meth c H locs 0 0 (MQ below (va_Qi (fun (r : Int32) (u : PH) => (r, u) = out) (ph_B D cy b A fl) A) args s 0 0 A) (F0 m 5 ls []) := by
  intro n
  induction n with
  | zero => intro h a0 x1 x2 x3 x4 f; rw [F12_wordAt_5] at f; cases f
  | succ n ih =>
    intro h a0 x1 x2 x3 x4 f H locs I ls hl
    rw [F12_wordAt_5] at f
    refine lv_iload S.1 S.2.1 dX12_wordAt_5 (lv_at hl 4 rfl) ?_
    refine lv_aload_n S.1 S.2.1 dX12_wordAt_7 rfl (lv_at hl 0 rfl) ?_
    obtain ⟨r1, e2, f⟩ := ob f
    refine o_gR S lf12_wordAt_13 I e2 dX12_wordAt_8 ?_
    obtain ⟨v3, e4, f⟩ := ob f
    refine o_alen S I e4 dX12_wordAt_11 ?_
    refine lv_icmp_ge (tgt := 126) S.1 S.2.1 dX12_wordAt_12 (by decide) (fun q5 => ?_) (fun q5 => ?_)
    · have f := (if_pos q5).symm.trans f
      refine lv_iconst (v := (-1)) S.1 S.2.1 dX12_wordAt_126 (by decide) ?_
      exact o_iret S hr hlo I f dX12_wordAt_127
    · have f := (if_neg q5).symm.trans f
      refine lv_iconst (v := 0) S.1 S.2.1 dX12_wordAt_15 (by decide) ?_
      refine lv_istore (lv' := [(5, .int 0), (0, .ref (b + a0)), (1, .int x1), (2, .int x2), (3, .int x3), (4, .int x4)]) S.1 S.2.1 dX12_wordAt_16 hl (by decide) rfl (fun ls hl => ?_)
      exact T12_wordAt_18 S hr hlo (fun f _ _ I _ hl => ih f I hl) 1024 f I (lv_sub hl [1, 2, 3, 4, 5, 0] rfl)
set_option maxHeartbeats 4000000 in
set_option maxRecDepth 100000 in
theorem T12_wordAt_0 (S : CallFix p m c cX12_wordAt 8 s args vX12_wordAt RX12) (hr : meth.sig.returnType = (some .int)) (hlo : meth.locks = false) {out : Int32 × PH} {h : PH} {a0 : Nat} {x1 : Int32} {x2 : Int32} (f : F12_wordAt_0  h a0 x1 x2 = some out) {H : Heap} {locs : List Loc} (I : ph_I D cy b A fl h s H locs) {ls : Array Slot} (hl : lv_has ls 8 [(0, .ref (b + a0)), (1, .int x1), (2, .int x2)]) : W p l e ({ frames := 0, cells := 0, slots := 0, locals := 0 } : Room) s m args below meth c H locs 0 0 (MQ below (va_Qi (fun (r : Int32) (u : PH) => (r, u) = out) (ph_B D cy b A fl) A) args s 0 0 A) (F0 m 0 ls []) := by
  unfold F12_wordAt_0 at f
  refine lv_iconst (v := 0) S.1 S.2.1 dX12_wordAt_0 (by decide) ?_
  refine lv_istore_n (lv' := [(3, .int 0), (0, .ref (b + a0)), (1, .int x1), (2, .int x2)]) S.1 S.2.1 dX12_wordAt_1 rfl hl (by decide) rfl (fun ls hl => ?_)
  refine lv_iconst (v := 0) S.1 S.2.1 dX12_wordAt_2 (by decide) ?_
  refine lv_istore (lv' := [(4, .int 0), (3, .int 0), (0, .ref (b + a0)), (1, .int x1), (2, .int x2)]) S.1 S.2.1 dX12_wordAt_3 hl (by decide) rfl (fun ls hl => ?_)
  exact T12_wordAt_5 S hr hlo  1024 f I (lv_sub hl [2, 3, 4, 1, 0] rfl)
theorem M12_wordAt (l : Launch) (D : va_G) (cy : Nat → ClassId) (b : Nat) (A : Nat → Prop) (fl : Bool) {h : PH} {a0 : Nat} {x1 : Int32} {x2 : Int32} {out : Int32 × PH} (f : F12_wordAt h a0 x1 x2 = some out) : Met l yX12_wordAt vX12_wordAt ({ frames := 0, cells := 0, slots := 0, locals := 0 } : Room) (va_Pc [.ref (b + a0), .int x1, .int x2] (ph_B D cy b A fl h)) (va_Qi (fun (r : Int32) (u : PH) => (r, u) = out) (ph_B D cy b A fl) A) 0 0 A :=
  o_met (by decide) rfl (Nat.le_of_ble_eq_true rfl) rfl (fun p e s m below meth c S hr hlo hnm ls hl I => T12_wordAt_0 S hr hlo ((gd f).2) I (lv_sub hl [0, 1, 2] rfl))
def vX12_packed : List Cond := .code yX12_packed cX12_packed 5 (some .int) :: TB
theorem lf12_packed_7 : Fl vX12_packed RX12 7 12 0 := ⟨RX12, TX12, 87, rfl, by decide, (fun w h9 => List.mem_cons_of_mem _ (wC_wsX120 w h9)), (List.mem_cons_of_mem _ wT_9_21)⟩
theorem cd12_packed : Cd yX12_packed 2 := ⟨by decide, by decide, by decide +kernel⟩
set_option maxHeartbeats 4000000 in
set_option maxRecDepth 100000 in
theorem T12_packed_5 (S : CallFix p m c cX12_packed 5 s args vX12_packed RX12) (hr : meth.sig.returnType = (some .int)) (hlo : meth.locks = false) {out : Int32 × PH} : ∀ (n : Nat) {h : PH} {a0 : Nat} {x1 : Int32} {x2 : Int32} {x3 : Int32} {x4 : Int32} (f : F12_packed_5  n h a0 x1 x2 x3 x4 = some out) {H : Heap} {locs : List Loc} (I : ph_I D cy b A fl h s H locs) {ls : Array Slot} (hl : lv_has ls 5 [(0, .ref (b + a0)), (1, .int x1), (2, .int x2), (3, .int x3), (4, .int x4)]), W p l e ({ frames := 0, cells := 0, slots := 0, locals := 0 } : Room) s m args below meth c H locs 0 0 (MQ below (va_Qi (fun (r : Int32) (u : PH) => (r, u) = out) (ph_B D cy b A fl) A) args s 0 0 A) (F0 m 5 ls []) := by
  intro n
  induction n with
  | zero => intro h a0 x1 x2 x3 x4 f; rw [F12_packed_5] at f; cases f
  | succ n ih =>
    intro h a0 x1 x2 x3 x4 f H locs I ls hl
    rw [F12_packed_5] at f
    refine lv_iload S.1 S.2.1 dX12_packed_5 (lv_at hl 4 rfl) ?_
    refine lv_iload_n S.1 S.2.1 dX12_packed_7 rfl (lv_at hl 1 rfl) ?_
    refine lv_bipush (v := 6) S.1 S.2.1 dX12_packed_8 (by decide) ?_
    refine lv_iadd S.1 S.2.1 dX12_packed_10 ?_
    refine lv_icmp_ge (tgt := 45) S.1 S.2.1 dX12_packed_11 (by decide) (fun q1 => ?_) (fun q1 => ?_)
    · have f := (if_pos q1).symm.trans f
      refine lv_iload_n S.1 S.2.1 dX12_packed_45 rfl (lv_at hl 3 rfl) ?_
      exact o_iret S hr hlo I f dX12_packed_46
    · have f := (if_neg q1).symm.trans f
      refine lv_iload_n S.1 S.2.1 dX12_packed_14 rfl (lv_at hl 3 rfl) ?_
      refine lv_iconst (v := 5) S.1 S.2.1 dX12_packed_15 (by decide) ?_
      refine lv_ishl S.1 S.2.1 dX12_packed_16 ?_
      refine lv_iload S.1 S.2.1 dX12_packed_17 (lv_at hl 4 rfl) ?_
      refine lv_iload_n S.1 S.2.1 dX12_packed_19 rfl (lv_at hl 2 rfl) ?_
      refine lv_icmp_ge (tgt := 36) S.1 S.2.1 dX12_packed_20 (by decide) (fun q2 => ?_) (fun q2 => ?_)
      · have f := (if_pos q2).symm.trans f
        refine lv_iconst (v := 0) S.1 S.2.1 dX12_packed_36 (by decide) ?_
        refine lv_ior S.1 S.2.1 dX12_packed_37 ?_
        refine lv_istore_n (lv' := [(3, .int ((x3 <<< (5 &&& 31)) ||| 0)), (0, .ref (b + a0)), (1, .int x1), (2, .int x2), (4, .int x4)]) S.1 S.2.1 dX12_packed_38 rfl hl (by decide) rfl (fun ls hl => ?_)
        refine lv_iinc (v := (x4 + 1)) (lv' := [(4, .int (x4 + 1)), (3, .int ((x3 <<< (5 &&& 31)) ||| 0)), (0, .ref (b + a0)), (1, .int x1), (2, .int x2)]) S.1 S.2.1 dX12_packed_39 hl (k := 4) rfl (congrArg (fun z => x4 + z) (by decide)) (by decide) rfl (fun ls hl => ?_)
        refine lv_goto (tgt := 5) S.1 S.2.1 dX12_packed_42 (by decide) ?_
        exact ih f I (lv_sub hl [2, 3, 4, 1, 0] rfl)
      · have f := (if_neg q2).symm.trans f
        refine lv_aload_n S.1 S.2.1 dX12_packed_23 rfl (lv_at hl 0 rfl) ?_
        obtain ⟨r3, e4, f⟩ := ob f
        refine o_gR S lf12_packed_7 I e4 dX12_packed_24 ?_
        refine lv_iload S.1 S.2.1 dX12_packed_27 (lv_at hl 4 rfl) ?_
        obtain ⟨v6, e5, f⟩ := ob f
        refine o_iald S I e5 dX12_packed_29 ?_
        refine lv_bipush (v := 96) S.1 S.2.1 dX12_packed_30 (by decide) ?_
        refine lv_isub S.1 S.2.1 dX12_packed_32 ?_
        refine lv_goto (tgt := 37) S.1 S.2.1 dX12_packed_33 (by decide) ?_
        refine lv_ior S.1 S.2.1 dX12_packed_37 ?_
        refine lv_istore_n (lv' := [(3, .int ((x3 <<< (5 &&& 31)) ||| (v6 - 96))), (0, .ref (b + a0)), (1, .int x1), (2, .int x2), (4, .int x4)]) S.1 S.2.1 dX12_packed_38 rfl hl (by decide) rfl (fun ls hl => ?_)
        refine lv_iinc (v := (x4 + 1)) (lv' := [(4, .int (x4 + 1)), (3, .int ((x3 <<< (5 &&& 31)) ||| (v6 - 96))), (0, .ref (b + a0)), (1, .int x1), (2, .int x2)]) S.1 S.2.1 dX12_packed_39 hl (k := 4) rfl (congrArg (fun z => x4 + z) (by decide)) (by decide) rfl (fun ls hl => ?_)
        refine lv_goto (tgt := 5) S.1 S.2.1 dX12_packed_42 (by decide) ?_
        exact ih f I (lv_sub hl [2, 3, 4, 1, 0] rfl)
set_option maxHeartbeats 4000000 in
set_option maxRecDepth 100000 in
theorem T12_packed_0 (S : CallFix p m c cX12_packed 5 s args vX12_packed RX12) (hr : meth.sig.returnType = (some .int)) (hlo : meth.locks = false) {out : Int32 × PH} {h : PH} {a0 : Nat} {x1 : Int32} {x2 : Int32} (f : F12_packed_0  h a0 x1 x2 = some out) {H : Heap} {locs : List Loc} (I : ph_I D cy b A fl h s H locs) {ls : Array Slot} (hl : lv_has ls 5 [(0, .ref (b + a0)), (1, .int x1), (2, .int x2)]) : W p l e ({ frames := 0, cells := 0, slots := 0, locals := 0 } : Room) s m args below meth c H locs 0 0 (MQ below (va_Qi (fun (r : Int32) (u : PH) => (r, u) = out) (ph_B D cy b A fl) A) args s 0 0 A) (F0 m 0 ls []) := by
  unfold F12_packed_0 at f
  refine lv_iconst (v := 0) S.1 S.2.1 dX12_packed_0 (by decide) ?_
  refine lv_istore_n (lv' := [(3, .int 0), (0, .ref (b + a0)), (1, .int x1), (2, .int x2)]) S.1 S.2.1 dX12_packed_1 rfl hl (by decide) rfl (fun ls hl => ?_)
  refine lv_iload_n S.1 S.2.1 dX12_packed_2 rfl (lv_at hl 2 rfl) ?_
  refine lv_istore (lv' := [(4, .int x1), (3, .int 0), (0, .ref (b + a0)), (1, .int x1), (2, .int x2)]) S.1 S.2.1 dX12_packed_3 hl (by decide) rfl (fun ls hl => ?_)
  exact T12_packed_5 S hr hlo  1024 f I (lv_sub hl [2, 3, 4, 1, 0] rfl)
theorem M12_packed (l : Launch) (D : va_G) (cy : Nat → ClassId) (b : Nat) (A : Nat → Prop) (fl : Bool) {h : PH} {a0 : Nat} {x1 : Int32} {x2 : Int32} {out : Int32 × PH} (f : F12_packed h a0 x1 x2 = some out) : Met l yX12_packed vX12_packed ({ frames := 0, cells := 0, slots := 0, locals := 0 } : Room) (va_Pc [.ref (b + a0), .int x1, .int x2] (ph_B D cy b A fl h)) (va_Qi (fun (r : Int32) (u : PH) => (r, u) = out) (ph_B D cy b A fl) A) 0 0 A :=
  o_met (by decide) rfl (Nat.le_of_ble_eq_true rfl) rfl (fun p e s m below meth c S hr hlo hnm ls hl I => T12_packed_0 S hr hlo ((gd f).2) I (lv_sub hl [0, 1, 2] rfl))
def vX12_isDigit : List Cond := .code yX12_isDigit cX12_isDigit 2 (some .boolean) :: TB
theorem lf12_isDigit_166 : Fl vX12_isDigit RX12 166 12 6 := ⟨RX12, TX12, 87, rfl, by decide, (fun w h9 => List.mem_cons_of_mem _ (wC_wsX120 w h9)), (List.mem_cons_of_mem _ wT_26_17)⟩
theorem lf12_isDigit_7 : Fl vX12_isDigit RX12 7 12 0 := ⟨RX12, TX12, 87, rfl, by decide, (fun w h9 => List.mem_cons_of_mem _ (wC_wsX120 w h9)), (List.mem_cons_of_mem _ wT_9_21)⟩
theorem cd12_isDigit : Cd yX12_isDigit 1 := ⟨by decide, by decide, by decide +kernel⟩
set_option maxHeartbeats 4000000 in
set_option maxRecDepth 100000 in
theorem T12_isDigit_0 (S : CallFix p m c cX12_isDigit 2 s args vX12_isDigit RX12) (hr : meth.sig.returnType = (some .boolean)) (hlo : meth.locks = false) {out : Int32 × PH} {h : PH} {a0 : Nat} {x1 : Int32} (f : F12_isDigit_0  h a0 x1 = some out) {H : Heap} {locs : List Loc} (I : ph_I D cy b A fl h s H locs) {ls : Array Slot} (hl : lv_has ls 2 [(0, .ref (b + a0)), (1, .int x1)]) : W p l e ({ frames := 0, cells := 0, slots := 0, locals := 0 } : Room) s m args below meth c H locs 0 0 (MQ below (va_Qi (fun (r : Int32) (u : PH) => (r, u) = out) (ph_B D cy b A fl) A) args s 0 0 A) (F0 m 0 ls []) := by
  unfold F12_isDigit_0 at f
  refine lv_iload_n S.1 S.2.1 dX12_isDigit_0 rfl (lv_at hl 1 rfl) ?_
  refine lv_aload_n S.1 S.2.1 dX12_isDigit_1 rfl (lv_at hl 0 rfl) ?_
  obtain ⟨v1, e2, f⟩ := ob f
  refine o_gI S lf12_isDigit_166 I e2 dX12_isDigit_2 ?_
  refine lv_icmp_ge (tgt := 34) S.1 S.2.1 dX12_isDigit_5 (by decide) (fun q3 => ?_) (fun q3 => ?_)
  · have f := (if_pos q3).symm.trans f
    refine lv_iconst (v := 0) S.1 S.2.1 dX12_isDigit_34 (by decide) ?_
    exact o_zret S hr hlo I f dX12_isDigit_35
  · have f := (if_neg q3).symm.trans f
    refine lv_aload_n S.1 S.2.1 dX12_isDigit_8 rfl (lv_at hl 0 rfl) ?_
    obtain ⟨r4, e5, f⟩ := ob f
    refine o_gR S lf12_isDigit_7 I e5 dX12_isDigit_9 ?_
    refine lv_iload_n S.1 S.2.1 dX12_isDigit_12 rfl (lv_at hl 1 rfl) ?_
    obtain ⟨v7, e6, f⟩ := ob f
    refine o_iald S I e6 dX12_isDigit_13 ?_
    refine lv_bipush (v := 48) S.1 S.2.1 dX12_isDigit_14 (by decide) ?_
    refine lv_icmp_lt (tgt := 34) S.1 S.2.1 dX12_isDigit_16 (by decide) (fun q8 => ?_) (fun q8 => ?_)
    · have f := (if_pos q8).symm.trans f
      refine lv_iconst (v := 0) S.1 S.2.1 dX12_isDigit_34 (by decide) ?_
      exact o_zret S hr hlo I f dX12_isDigit_35
    · have f := (if_neg q8).symm.trans f
      refine lv_aload_n S.1 S.2.1 dX12_isDigit_19 rfl (lv_at hl 0 rfl) ?_
      obtain ⟨r9, e10, f⟩ := ob f
      refine o_gR S lf12_isDigit_7 I e10 dX12_isDigit_20 ?_
      refine lv_iload_n S.1 S.2.1 dX12_isDigit_23 rfl (lv_at hl 1 rfl) ?_
      obtain ⟨v12, e11, f⟩ := ob f
      refine o_iald S I e11 dX12_isDigit_24 ?_
      refine lv_bipush (v := 57) S.1 S.2.1 dX12_isDigit_25 (by decide) ?_
      refine lv_icmp_gt (tgt := 34) S.1 S.2.1 dX12_isDigit_27 (by decide) (fun q13 => ?_) (fun q13 => ?_)
      · have f := (if_pos q13).symm.trans f
        refine lv_iconst (v := 0) S.1 S.2.1 dX12_isDigit_34 (by decide) ?_
        exact o_zret S hr hlo I f dX12_isDigit_35
      · have f := (if_neg q13).symm.trans f
        refine lv_iconst (v := 1) S.1 S.2.1 dX12_isDigit_30 (by decide) ?_
        refine lv_goto (tgt := 35) S.1 S.2.1 dX12_isDigit_31 (by decide) ?_
        exact o_zret S hr hlo I f dX12_isDigit_35
theorem M12_isDigit (l : Launch) (D : va_G) (cy : Nat → ClassId) (b : Nat) (A : Nat → Prop) (fl : Bool) {h : PH} {a0 : Nat} {x1 : Int32} {out : Int32 × PH} (f : F12_isDigit h a0 x1 = some out) : Met l yX12_isDigit vX12_isDigit ({ frames := 0, cells := 0, slots := 0, locals := 0 } : Room) (va_Pc [.ref (b + a0), .int x1] (ph_B D cy b A fl h)) (va_Qi (fun (r : Int32) (u : PH) => (r, u) = out) (ph_B D cy b A fl) A) 0 0 A :=
  o_met (by decide) rfl (Nat.le_of_ble_eq_true rfl) rfl (fun p e s m below meth c S hr hlo hnm ls hl I => T12_isDigit_0 S hr hlo ((gd f).2) I (lv_sub hl [0, 1] rfl))
def vX12_signToken : List Cond := .code yX12_signToken cX12_signToken 4 none :: TB
theorem lp12_signToken_183 : Pl vX12_signToken RX12 183 12 9 .int := ⟨RX12, TX12, 87, tyX12, rfl, by decide, (fun w h9 => List.mem_cons_of_mem _ (wC_wsX120 w h9)), (List.mem_cons_of_mem _ wT_27_2), tyX12_ok, nmX12, rfl, rfl⟩
theorem lp12_signToken_172 : Pl vX12_signToken RX12 172 12 8 .int := ⟨RX12, TX12, 87, tyX12, rfl, by decide, (fun w h9 => List.mem_cons_of_mem _ (wC_wsX120 w h9)), (List.mem_cons_of_mem _ wT_26_20), tyX12_ok, nmX12, rfl, rfl⟩
theorem lf12_signToken_183 : Fl vX12_signToken RX12 183 12 9 := ⟨RX12, TX12, 87, rfl, by decide, (fun w h9 => List.mem_cons_of_mem _ (wC_wsX120 w h9)), (List.mem_cons_of_mem _ wT_27_2)⟩
theorem lf12_signToken_169 : Fl vX12_signToken RX12 169 12 7 := ⟨RX12, TX12, 87, rfl, by decide, (fun w h9 => List.mem_cons_of_mem _ (wC_wsX120 w h9)), (List.mem_cons_of_mem _ wT_26_19)⟩
theorem lp12_signToken_169 : Pl vX12_signToken RX12 169 12 7 .int := ⟨RX12, TX12, 87, tyX12, rfl, by decide, (fun w h9 => List.mem_cons_of_mem _ (wC_wsX120 w h9)), (List.mem_cons_of_mem _ wT_26_19), tyX12_ok, nmX12, rfl, rfl⟩
theorem lf12_signToken_166 : Fl vX12_signToken RX12 166 12 6 := ⟨RX12, TX12, 87, rfl, by decide, (fun w h9 => List.mem_cons_of_mem _ (wC_wsX120 w h9)), (List.mem_cons_of_mem _ wT_26_17)⟩
theorem lf12_signToken_7 : Fl vX12_signToken RX12 7 12 0 := ⟨RX12, TX12, 87, rfl, by decide, (fun w h9 => List.mem_cons_of_mem _ (wC_wsX120 w h9)), (List.mem_cons_of_mem _ wT_9_21)⟩
theorem cd12_signToken : Cd yX12_signToken 0 := ⟨by decide, by decide, by decide +kernel⟩
set_option maxHeartbeats 4000000 in
set_option maxRecDepth 100000 in
theorem T12_signToken_192 (S : CallFix p m c cX12_signToken 4 s args vX12_signToken RX12) (hr : meth.sig.returnType = none) (hlo : meth.locks = false) {out : PH} {h : PH} {s0 : Int32} {u1 : Nat} (f : F12_signToken_192  h s0 u1 = some out) {H : Heap} {locs : List Loc} (I : ph_I D cy b A fl h s H locs) {ls : Array Slot} (hl : lv_has ls 4 []) : W p l e ({ frames := 0, cells := 0, slots := 0, locals := 0 } : Room) s m args below meth c H locs 0 0 (MQ below (va_Qv (fun (u : PH) => u = out) (ph_B D cy b A fl) A) args s 0 0 A) (F0 m 192 ls [.int s0, .ref (b + u1)]) := by
  unfold F12_signToken_192 at f
  obtain ⟨h1, e2, f⟩ := ob f
  refine o_pI S lp12_signToken_183 I e2 dX12_signToken_192 (fun H locs I => ?_)
  refine lv_goto (tgt := 290) S.1 S.2.1 dX12_signToken_195 (by decide) ?_
  exact o_vret S hr hlo I f dX12_signToken_290
set_option maxHeartbeats 4000000 in
set_option maxRecDepth 100000 in
theorem T12_signToken_135 (S : CallFix p m c cX12_signToken 4 s args vX12_signToken RX12) (hr : meth.sig.returnType = none) (hlo : meth.locks = false) {out : PH} {h : PH} {a0 : Nat} {x2 : Int32} {x3 : Int32} (f : F12_signToken_135  h a0 x2 x3 = some out) {H : Heap} {locs : List Loc} (I : ph_I D cy b A fl h s H locs) {ls : Array Slot} (hl : lv_has ls 4 [(0, .ref (b + a0)), (2, .int x2), (3, .int x3)]) : W p l e ({ frames := 0, cells := 0, slots := 0, locals := 0 } : Room) s m args below meth c H locs 0 0 (MQ below (va_Qv (fun (u : PH) => u = out) (ph_B D cy b A fl) A) args s 0 0 A) (F0 m 135 ls []) := by
  unfold F12_signToken_135 at f
  refine lv_aload_n S.1 S.2.1 dX12_signToken_135 rfl (lv_at hl 0 rfl) ?_
  refine lv_iconst (v := 5) S.1 S.2.1 dX12_signToken_136 (by decide) ?_
  obtain ⟨h1, e2, f⟩ := ob f
  refine o_pI S lp12_signToken_172 I e2 dX12_signToken_137 (fun H locs I => ?_)
  refine lv_aload_n S.1 S.2.1 dX12_signToken_140 rfl (lv_at hl 0 rfl) ?_
  refine lv_aload_n S.1 S.2.1 dX12_signToken_141 rfl (lv_at hl 0 rfl) ?_
  obtain ⟨v3, e4, f⟩ := ob f
  refine o_gI S lf12_signToken_183 I e4 dX12_signToken_142 ?_
  refine lv_bipush (v := 61) S.1 S.2.1 dX12_signToken_145 (by decide) ?_
  refine lv_icmp_ne (tgt := 154) S.1 S.2.1 dX12_signToken_147 (by decide) (fun q5 => ?_) (fun q5 => ?_)
  · have f := (if_neg q5).symm.trans f
    refine lv_aload_n S.1 S.2.1 dX12_signToken_154 rfl (lv_at hl 0 rfl) ?_
    obtain ⟨v6, e7, f⟩ := ob f
    refine o_gI S lf12_signToken_183 I e7 dX12_signToken_155 ?_
    refine lv_bipush (v := 60) S.1 S.2.1 dX12_signToken_158 (by decide) ?_
    refine lv_icmp_ne (tgt := 183) S.1 S.2.1 dX12_signToken_160 (by decide) (fun q8 => ?_) (fun q8 => ?_)
    · have f := (if_neg q8).symm.trans f
      refine lv_iload_n S.1 S.2.1 dX12_signToken_183 rfl (lv_at hl 1 rfl) ?_
      refine lv_if_eq (tgt := 191) S.1 S.2.1 dX12_signToken_184 (by decide) (fun q9 => ?_) (fun q9 => ?_)
      · have f := (if_pos q9).symm.trans f
        refine lv_iconst (v := 5) S.1 S.2.1 dX12_signToken_191 (by decide) ?_
        exact T12_signToken_192 S hr hlo  f I (lv_sub hl [] rfl)
      · have f := (if_neg q9).symm.trans f
        refine lv_iconst (v := 4) S.1 S.2.1 dX12_signToken_187 (by decide) ?_
        refine lv_goto (tgt := 192) S.1 S.2.1 dX12_signToken_188 (by decide) ?_
        exact T12_signToken_192 S hr hlo  f I (lv_sub hl [] rfl)
    · have f := (if_pos q8).symm.trans f
      refine lv_iload_n S.1 S.2.1 dX12_signToken_163 rfl (lv_at hl 1 rfl) ?_
      refine lv_if_eq (tgt := 171) S.1 S.2.1 dX12_signToken_164 (by decide) (fun q10 => ?_) (fun q10 => ?_)
      · have f := (if_pos q10).symm.trans f
        refine lv_iload_n S.1 S.2.1 dX12_signToken_171 rfl (lv_at hl 2 rfl) ?_
        refine lv_if_eq (tgt := 179) S.1 S.2.1 dX12_signToken_172 (by decide) (fun q11 => ?_) (fun q11 => ?_)
        · have f := (if_pos q11).symm.trans f
          refine lv_iconst (v := 0) S.1 S.2.1 dX12_signToken_179 (by decide) ?_
          refine lv_goto (tgt := 192) S.1 S.2.1 dX12_signToken_180 (by decide) ?_
          exact T12_signToken_192 S hr hlo  f I (lv_sub hl [] rfl)
        · have f := (if_neg q11).symm.trans f
          refine lv_iconst (v := 3) S.1 S.2.1 dX12_signToken_175 (by decide) ?_
          refine lv_goto (tgt := 192) S.1 S.2.1 dX12_signToken_176 (by decide) ?_
          exact T12_signToken_192 S hr hlo  f I (lv_sub hl [] rfl)
      · have f := (if_neg q10).symm.trans f
        refine lv_iconst (v := 1) S.1 S.2.1 dX12_signToken_167 (by decide) ?_
        refine lv_goto (tgt := 192) S.1 S.2.1 dX12_signToken_168 (by decide) ?_
        exact T12_signToken_192 S hr hlo  f I (lv_sub hl [] rfl)
  · have f := (if_pos q5).symm.trans f
    refine lv_iconst (v := 2) S.1 S.2.1 dX12_signToken_150 (by decide) ?_
    refine lv_goto (tgt := 192) S.1 S.2.1 dX12_signToken_151 (by decide) ?_
    exact T12_signToken_192 S hr hlo  f I (lv_sub hl [] rfl)
set_option maxHeartbeats 4000000 in
set_option maxRecDepth 100000 in
theorem T12_signToken_125 (S : CallFix p m c cX12_signToken 4 s args vX12_signToken RX12) (hr : meth.sig.returnType = none) (hlo : meth.locks = false) {out : PH} {h : PH} {a0 : Nat} {x2 : Int32} {x3 : Int32} (f : F12_signToken_125  h a0 x2 x3 = some out) {H : Heap} {locs : List Loc} (I : ph_I D cy b A fl h s H locs) {ls : Array Slot} (hl : lv_has ls 4 [(0, .ref (b + a0)), (2, .int x2), (3, .int x3)]) : W p l e ({ frames := 0, cells := 0, slots := 0, locals := 0 } : Room) s m args below meth c H locs 0 0 (MQ below (va_Qv (fun (u : PH) => u = out) (ph_B D cy b A fl) A) args s 0 0 A) (F0 m 125 ls []) := by
  unfold F12_signToken_125 at f
  refine lv_aload_n S.1 S.2.1 dX12_signToken_125 rfl (lv_at hl 0 rfl) ?_
  refine lv_dup S.1 S.2.1 dX12_signToken_126 rfl ?_
  obtain ⟨v1, e2, f⟩ := ob f
  refine o_gI S lf12_signToken_169 I e2 dX12_signToken_127 ?_
  refine lv_iconst (v := 1) S.1 S.2.1 dX12_signToken_130 (by decide) ?_
  refine lv_iadd S.1 S.2.1 dX12_signToken_131 ?_
  obtain ⟨h3, e4, f⟩ := ob f
  refine o_pI S lp12_signToken_169 I e4 dX12_signToken_132 (fun H locs I => ?_)
  exact T12_signToken_135 S hr hlo  f I (lv_sub hl [0, 1, 2] rfl)
set_option maxHeartbeats 4000000 in
set_option maxRecDepth 100000 in
theorem T12_signToken_116 (S : CallFix p m c cX12_signToken 4 s args vX12_signToken RX12) (hr : meth.sig.returnType = none) (hlo : meth.locks = false) {out : PH} {h : PH} {a0 : Nat} {x2 : Int32} {s0 : Int32} (f : F12_signToken_116  h a0 x2 s0 = some out) {H : Heap} {locs : List Loc} (I : ph_I D cy b A fl h s H locs) {ls : Array Slot} (hl : lv_has ls 4 [(0, .ref (b + a0)), (2, .int x2)]) : W p l e ({ frames := 0, cells := 0, slots := 0, locals := 0 } : Room) s m args below meth c H locs 0 0 (MQ below (va_Qv (fun (u : PH) => u = out) (ph_B D cy b A fl) A) args s 0 0 A) (F0 m 116 ls [.int s0]) := by
  unfold F12_signToken_116 at f
  refine lv_istore_n (lv' := [(3, .int s0), (0, .ref (b + a0)), (2, .int x2)]) S.1 S.2.1 dX12_signToken_116 rfl hl (by decide) rfl (fun ls hl => ?_)
  refine lv_iload_n S.1 S.2.1 dX12_signToken_117 rfl (lv_at hl 2 rfl) ?_
  refine lv_if_ne (tgt := 125) S.1 S.2.1 dX12_signToken_118 (by decide) (fun q1 => ?_) (fun q1 => ?_)
  · have f := (if_neg q1).symm.trans f
    exact T12_signToken_125 S hr hlo  f I (lv_sub hl [1, 2, 0] rfl)
  · have f := (if_pos q1).symm.trans f
    refine lv_iload_n S.1 S.2.1 dX12_signToken_121 rfl (lv_at hl 0 rfl) ?_
    refine lv_if_eq (tgt := 135) S.1 S.2.1 dX12_signToken_122 (by decide) (fun q2 => ?_) (fun q2 => ?_)
    · have f := (if_pos q2).symm.trans f
      exact T12_signToken_135 S hr hlo  f I (lv_sub hl [1, 2, 0] rfl)
    · have f := (if_neg q2).symm.trans f
      exact T12_signToken_125 S hr hlo  f I (lv_sub hl [1, 2, 0] rfl)
set_option maxHeartbeats 4000000 in
set_option maxRecDepth 100000 in
theorem T12_signToken_115 (S : CallFix p m c cX12_signToken 4 s args vX12_signToken RX12) (hr : meth.sig.returnType = none) (hlo : meth.locks = false) {out : PH} {h : PH} {a0 : Nat} {x2 : Int32} (f : F12_signToken_115  h a0 x2 = some out) {H : Heap} {locs : List Loc} (I : ph_I D cy b A fl h s H locs) {ls : Array Slot} (hl : lv_has ls 4 [(0, .ref (b + a0)), (2, .int x2)]) : W p l e ({ frames := 0, cells := 0, slots := 0, locals := 0 } : Room) s m args below meth c H locs 0 0 (MQ below (va_Qv (fun (u : PH) => u = out) (ph_B D cy b A fl) A) args s 0 0 A) (F0 m 115 ls []) := by
  unfold F12_signToken_115 at f
  refine lv_iconst (v := 0) S.1 S.2.1 dX12_signToken_115 (by decide) ?_
  exact T12_signToken_116 S hr hlo  f I (lv_sub hl [0, 1] rfl)
set_option maxHeartbeats 4000000 in
set_option maxRecDepth 100000 in
theorem T12_signToken_95 (S : CallFix p m c cX12_signToken 4 s args vX12_signToken RX12) (hr : meth.sig.returnType = none) (hlo : meth.locks = false) {out : PH} {h : PH} {a0 : Nat} {x1 : Int32} {s0 : Int32} (f : F12_signToken_95  h a0 x1 s0 = some out) {H : Heap} {locs : List Loc} (I : ph_I D cy b A fl h s H locs) {ls : Array Slot} (hl : lv_has ls 4 [(0, .ref (b + a0)), (1, .int x1)]) : W p l e ({ frames := 0, cells := 0, slots := 0, locals := 0 } : Room) s m args below meth c H locs 0 0 (MQ below (va_Qv (fun (u : PH) => u = out) (ph_B D cy b A fl) A) args s 0 0 A) (F0 m 95 ls [.int s0]) := by
  unfold F12_signToken_95 at f
  refine lv_istore_n (lv' := [(2, .int s0), (0, .ref (b + a0)), (1, .int x1)]) S.1 S.2.1 dX12_signToken_95 rfl hl (by decide) rfl (fun ls hl => ?_)
  refine lv_aload_n S.1 S.2.1 dX12_signToken_96 rfl (lv_at hl 1 rfl) ?_
  obtain ⟨v1, e2, f⟩ := ob f
  refine o_gI S lf12_signToken_183 I e2 dX12_signToken_97 ?_
  refine lv_bipush (v := 60) S.1 S.2.1 dX12_signToken_100 (by decide) ?_
  refine lv_icmp_ne (tgt := 115) S.1 S.2.1 dX12_signToken_102 (by decide) (fun q3 => ?_) (fun q3 => ?_)
  · have f := (if_neg q3).symm.trans f
    exact T12_signToken_115 S hr hlo  f I (lv_sub hl [1, 0] rfl)
  · have f := (if_pos q3).symm.trans f
    refine lv_iload_n S.1 S.2.1 dX12_signToken_105 rfl (lv_at hl 2 rfl) ?_
    refine lv_bipush (v := 62) S.1 S.2.1 dX12_signToken_106 (by decide) ?_
    refine lv_icmp_ne (tgt := 115) S.1 S.2.1 dX12_signToken_108 (by decide) (fun q4 => ?_) (fun q4 => ?_)
    · have f := (if_neg q4).symm.trans f
      exact T12_signToken_115 S hr hlo  f I (lv_sub hl [1, 0] rfl)
    · have f := (if_pos q4).symm.trans f
      refine lv_iconst (v := 1) S.1 S.2.1 dX12_signToken_111 (by decide) ?_
      refine lv_goto (tgt := 116) S.1 S.2.1 dX12_signToken_112 (by decide) ?_
      exact T12_signToken_116 S hr hlo  f I (lv_sub hl [1, 0] rfl)
set_option maxHeartbeats 4000000 in
set_option maxRecDepth 100000 in
theorem T12_signToken_94 (S : CallFix p m c cX12_signToken 4 s args vX12_signToken RX12) (hr : meth.sig.returnType = none) (hlo : meth.locks = false) {out : PH} {h : PH} {a0 : Nat} {x1 : Int32} (f : F12_signToken_94  h a0 x1 = some out) {H : Heap} {locs : List Loc} (I : ph_I D cy b A fl h s H locs) {ls : Array Slot} (hl : lv_has ls 4 [(0, .ref (b + a0)), (1, .int x1)]) : W p l e ({ frames := 0, cells := 0, slots := 0, locals := 0 } : Room) s m args below meth c H locs 0 0 (MQ below (va_Qv (fun (u : PH) => u = out) (ph_B D cy b A fl) A) args s 0 0 A) (F0 m 94 ls []) := by
  unfold F12_signToken_94 at f
  refine lv_iconst (v := 0) S.1 S.2.1 dX12_signToken_94 (by decide) ?_
  exact T12_signToken_95 S hr hlo  f I (lv_sub hl [0, 1] rfl)
set_option maxHeartbeats 4000000 in
set_option maxRecDepth 100000 in
theorem T12_signToken_74 (S : CallFix p m c cX12_signToken 4 s args vX12_signToken RX12) (hr : meth.sig.returnType = none) (hlo : meth.locks = false) {out : PH} {h : PH} {a0 : Nat} {s0 : Int32} (f : F12_signToken_74  h a0 s0 = some out) {H : Heap} {locs : List Loc} (I : ph_I D cy b A fl h s H locs) {ls : Array Slot} (hl : lv_has ls 4 [(0, .ref (b + a0))]) : W p l e ({ frames := 0, cells := 0, slots := 0, locals := 0 } : Room) s m args below meth c H locs 0 0 (MQ below (va_Qv (fun (u : PH) => u = out) (ph_B D cy b A fl) A) args s 0 0 A) (F0 m 74 ls [.int s0]) := by
  unfold F12_signToken_74 at f
  refine lv_istore_n (lv' := [(1, .int s0), (0, .ref (b + a0))]) S.1 S.2.1 dX12_signToken_74 rfl hl (by decide) rfl (fun ls hl => ?_)
  refine lv_aload_n S.1 S.2.1 dX12_signToken_75 rfl (lv_at hl 1 rfl) ?_
  obtain ⟨v1, e2, f⟩ := ob f
  refine o_gI S lf12_signToken_183 I e2 dX12_signToken_76 ?_
  refine lv_bipush (v := 61) S.1 S.2.1 dX12_signToken_79 (by decide) ?_
  refine lv_icmp_eq (tgt := 94) S.1 S.2.1 dX12_signToken_81 (by decide) (fun q3 => ?_) (fun q3 => ?_)
  · have f := (if_pos q3).symm.trans f
    exact T12_signToken_94 S hr hlo  f I (lv_sub hl [1, 0] rfl)
  · have f := (if_neg q3).symm.trans f
    refine lv_iload_n S.1 S.2.1 dX12_signToken_84 rfl (lv_at hl 0 rfl) ?_
    refine lv_bipush (v := 61) S.1 S.2.1 dX12_signToken_85 (by decide) ?_
    refine lv_icmp_ne (tgt := 94) S.1 S.2.1 dX12_signToken_87 (by decide) (fun q4 => ?_) (fun q4 => ?_)
    · have f := (if_neg q4).symm.trans f
      exact T12_signToken_94 S hr hlo  f I (lv_sub hl [1, 0] rfl)
    · have f := (if_pos q4).symm.trans f
      refine lv_iconst (v := 1) S.1 S.2.1 dX12_signToken_90 (by decide) ?_
      refine lv_goto (tgt := 95) S.1 S.2.1 dX12_signToken_91 (by decide) ?_
      exact T12_signToken_95 S hr hlo  f I (lv_sub hl [1, 0] rfl)
set_option maxHeartbeats 4000000 in
set_option maxRecDepth 100000 in
theorem T12_signToken_50 (S : CallFix p m c cX12_signToken 4 s args vX12_signToken RX12) (hr : meth.sig.returnType = none) (hlo : meth.locks = false) {out : PH} {h : PH} {a0 : Nat} (f : F12_signToken_50  h a0 = some out) {H : Heap} {locs : List Loc} (I : ph_I D cy b A fl h s H locs) {ls : Array Slot} (hl : lv_has ls 4 [(0, .ref (b + a0))]) : W p l e ({ frames := 0, cells := 0, slots := 0, locals := 0 } : Room) s m args below meth c H locs 0 0 (MQ below (va_Qv (fun (u : PH) => u = out) (ph_B D cy b A fl) A) args s 0 0 A) (F0 m 50 ls []) := by
  unfold F12_signToken_50 at f
  refine lv_aload_n S.1 S.2.1 dX12_signToken_50 rfl (lv_at hl 0 rfl) ?_
  obtain ⟨v1, e2, f⟩ := ob f
  refine o_gI S lf12_signToken_169 I e2 dX12_signToken_51 ?_
  refine lv_aload_n S.1 S.2.1 dX12_signToken_54 rfl (lv_at hl 0 rfl) ?_
  obtain ⟨v3, e4, f⟩ := ob f
  refine o_gI S lf12_signToken_166 I e4 dX12_signToken_55 ?_
  refine lv_icmp_ge (tgt := 73) S.1 S.2.1 dX12_signToken_58 (by decide) (fun q5 => ?_) (fun q5 => ?_)
  · have f := (if_pos q5).symm.trans f
    refine lv_iconst (v := 0) S.1 S.2.1 dX12_signToken_73 (by decide) ?_
    exact T12_signToken_74 S hr hlo  f I (lv_sub hl [0] rfl)
  · have f := (if_neg q5).symm.trans f
    refine lv_aload_n S.1 S.2.1 dX12_signToken_61 rfl (lv_at hl 0 rfl) ?_
    obtain ⟨r6, e7, f⟩ := ob f
    refine o_gR S lf12_signToken_7 I e7 dX12_signToken_62 ?_
    refine lv_aload_n S.1 S.2.1 dX12_signToken_65 rfl (lv_at hl 0 rfl) ?_
    obtain ⟨v8, e9, f⟩ := ob f
    refine o_gI S lf12_signToken_169 I e9 dX12_signToken_66 ?_
    obtain ⟨v11, e10, f⟩ := ob f
    refine o_iald S I e10 dX12_signToken_69 ?_
    refine lv_goto (tgt := 74) S.1 S.2.1 dX12_signToken_70 (by decide) ?_
    exact T12_signToken_74 S hr hlo  f I (lv_sub hl [0] rfl)
set_option maxHeartbeats 4000000 in
set_option maxRecDepth 100000 in
theorem T12_signToken_287 (S : CallFix p m c cX12_signToken 4 s args vX12_signToken RX12) (hr : meth.sig.returnType = none) (hlo : meth.locks = false) {out : PH} {h : PH} {s0 : Int32} {u1 : Nat} (f : F12_signToken_287  h s0 u1 = some out) {H : Heap} {locs : List Loc} (I : ph_I D cy b A fl h s H locs) {ls : Array Slot} (hl : lv_has ls 4 []) : W p l e ({ frames := 0, cells := 0, slots := 0, locals := 0 } : Room) s m args below meth c H locs 0 0 (MQ below (va_Qv (fun (u : PH) => u = out) (ph_B D cy b A fl) A) args s 0 0 A) (F0 m 287 ls [.int s0, .ref (b + u1)]) := by
  unfold F12_signToken_287 at f
  obtain ⟨h1, e2, f⟩ := ob f
  refine o_pI S lp12_signToken_172 I e2 dX12_signToken_287 (fun H locs I => ?_)
  exact o_vret S hr hlo I f dX12_signToken_290
set_option maxHeartbeats 4000000 in
set_option maxRecDepth 100000 in
theorem T12_signToken_275 (S : CallFix p m c cX12_signToken 4 s args vX12_signToken RX12) (hr : meth.sig.returnType = none) (hlo : meth.locks = false) {out : PH} {h : PH} {a0 : Nat} {s0 : Int32} (f : F12_signToken_275  h a0 s0 = some out) {H : Heap} {locs : List Loc} (I : ph_I D cy b A fl h s H locs) {ls : Array Slot} (hl : lv_has ls 4 [(0, .ref (b + a0))]) : W p l e ({ frames := 0, cells := 0, slots := 0, locals := 0 } : Room) s m args below meth c H locs 0 0 (MQ below (va_Qv (fun (u : PH) => u = out) (ph_B D cy b A fl) A) args s 0 0 A) (F0 m 275 ls [.int s0]) := by
  unfold F12_signToken_275 at f
  refine lv_istore_n (lv' := [(1, .int s0), (0, .ref (b + a0))]) S.1 S.2.1 dX12_signToken_275 rfl hl (by decide) rfl (fun ls hl => ?_)
  refine lv_aload_n S.1 S.2.1 dX12_signToken_276 rfl (lv_at hl 1 rfl) ?_
  refine lv_iload_n S.1 S.2.1 dX12_signToken_277 rfl (lv_at hl 0 rfl) ?_
  refine lv_if_eq (tgt := 285) S.1 S.2.1 dX12_signToken_278 (by decide) (fun q1 => ?_) (fun q1 => ?_)
  · have f := (if_pos q1).symm.trans f
    refine lv_bipush (v := 6) S.1 S.2.1 dX12_signToken_285 (by decide) ?_
    exact T12_signToken_287 S hr hlo  f I (lv_sub hl [] rfl)
  · have f := (if_neg q1).symm.trans f
    refine lv_iconst (v := 4) S.1 S.2.1 dX12_signToken_281 (by decide) ?_
    refine lv_goto (tgt := 287) S.1 S.2.1 dX12_signToken_282 (by decide) ?_
    exact T12_signToken_287 S hr hlo  f I (lv_sub hl [] rfl)
set_option maxHeartbeats 4000000 in
set_option maxRecDepth 100000 in
theorem T12_signToken_270 (S : CallFix p m c cX12_signToken 4 s args vX12_signToken RX12) (hr : meth.sig.returnType = none) (hlo : meth.locks = false) {out : PH} {h : PH} {a0 : Nat} (f : F12_signToken_270  h a0 = some out) {H : Heap} {locs : List Loc} (I : ph_I D cy b A fl h s H locs) {ls : Array Slot} (hl : lv_has ls 4 [(0, .ref (b + a0))]) : W p l e ({ frames := 0, cells := 0, slots := 0, locals := 0 } : Room) s m args below meth c H locs 0 0 (MQ below (va_Qv (fun (u : PH) => u = out) (ph_B D cy b A fl) A) args s 0 0 A) (F0 m 270 ls []) := by
  unfold F12_signToken_270 at f
  refine lv_iconst (v := 1) S.1 S.2.1 dX12_signToken_270 (by decide) ?_
  refine lv_goto (tgt := 275) S.1 S.2.1 dX12_signToken_271 (by decide) ?_
  exact T12_signToken_275 S hr hlo  f I (lv_sub hl [0] rfl)
set_option maxHeartbeats 4000000 in
set_option maxRecDepth 100000 in
theorem T12_signToken_0 (S : CallFix p m c cX12_signToken 4 s args vX12_signToken RX12) (hr : meth.sig.returnType = none) (hlo : meth.locks = false) {out : PH} {h : PH} {a0 : Nat} (f : F12_signToken_0  h a0 = some out) {H : Heap} {locs : List Loc} (I : ph_I D cy b A fl h s H locs) {ls : Array Slot} (hl : lv_has ls 4 [(0, .ref (b + a0))]) : W p l e ({ frames := 0, cells := 0, slots := 0, locals := 0 } : Room) s m args below meth c H locs 0 0 (MQ below (va_Qv (fun (u : PH) => u = out) (ph_B D cy b A fl) A) args s 0 0 A) (F0 m 0 ls []) := by
  unfold F12_signToken_0 at f
  refine lv_aload_n S.1 S.2.1 dX12_signToken_0 rfl (lv_at hl 0 rfl) ?_
  refine lv_aload_n S.1 S.2.1 dX12_signToken_1 rfl (lv_at hl 0 rfl) ?_
  obtain ⟨r1, e2, f⟩ := ob f
  refine o_gR S lf12_signToken_7 I e2 dX12_signToken_2 ?_
  refine lv_aload_n S.1 S.2.1 dX12_signToken_5 rfl (lv_at hl 0 rfl) ?_
  obtain ⟨v3, e4, f⟩ := ob f
  refine o_gI S lf12_signToken_169 I e4 dX12_signToken_6 ?_
  obtain ⟨v6, e5, f⟩ := ob f
  refine o_iald S I e5 dX12_signToken_9 ?_
  obtain ⟨h7, e8, f⟩ := ob f
  refine o_pI S lp12_signToken_183 I e8 dX12_signToken_10 (fun H locs I => ?_)
  refine lv_aload_n S.1 S.2.1 dX12_signToken_13 rfl (lv_at hl 0 rfl) ?_
  refine lv_dup S.1 S.2.1 dX12_signToken_14 rfl ?_
  obtain ⟨v9, e10, f⟩ := ob f
  refine o_gI S lf12_signToken_169 I e10 dX12_signToken_15 ?_
  refine lv_iconst (v := 1) S.1 S.2.1 dX12_signToken_18 (by decide) ?_
  refine lv_iadd S.1 S.2.1 dX12_signToken_19 ?_
  obtain ⟨h11, e12, f⟩ := ob f
  refine o_pI S lp12_signToken_169 I e12 dX12_signToken_20 (fun H locs I => ?_)
  refine lv_aload_n S.1 S.2.1 dX12_signToken_23 rfl (lv_at hl 0 rfl) ?_
  obtain ⟨v13, e14, f⟩ := ob f
  refine o_gI S lf12_signToken_183 I e14 dX12_signToken_24 ?_
  refine lv_bipush (v := 60) S.1 S.2.1 dX12_signToken_27 (by decide) ?_
  refine lv_icmp_eq (tgt := 50) S.1 S.2.1 dX12_signToken_29 (by decide) (fun q15 => ?_) (fun q15 => ?_)
  · have f := (if_pos q15).symm.trans f
    exact T12_signToken_50 S hr hlo  f I (lv_sub hl [0] rfl)
  · have f := (if_neg q15).symm.trans f
    refine lv_aload_n S.1 S.2.1 dX12_signToken_32 rfl (lv_at hl 0 rfl) ?_
    obtain ⟨v16, e17, f⟩ := ob f
    refine o_gI S lf12_signToken_183 I e17 dX12_signToken_33 ?_
    refine lv_bipush (v := 62) S.1 S.2.1 dX12_signToken_36 (by decide) ?_
    refine lv_icmp_eq (tgt := 50) S.1 S.2.1 dX12_signToken_38 (by decide) (fun q18 => ?_) (fun q18 => ?_)
    · have f := (if_pos q18).symm.trans f
      exact T12_signToken_50 S hr hlo  f I (lv_sub hl [0] rfl)
    · have f := (if_neg q18).symm.trans f
      refine lv_aload_n S.1 S.2.1 dX12_signToken_41 rfl (lv_at hl 0 rfl) ?_
      obtain ⟨v19, e20, f⟩ := ob f
      refine o_gI S lf12_signToken_183 I e20 dX12_signToken_42 ?_
      refine lv_bipush (v := 61) S.1 S.2.1 dX12_signToken_45 (by decide) ?_
      refine lv_icmp_ne (tgt := 198) S.1 S.2.1 dX12_signToken_47 (by decide) (fun q21 => ?_) (fun q21 => ?_)
      · have f := (if_neg q21).symm.trans f
        refine lv_aload_n S.1 S.2.1 dX12_signToken_198 rfl (lv_at hl 0 rfl) ?_
        obtain ⟨v22, e23, f⟩ := ob f
        refine o_gI S lf12_signToken_183 I e23 dX12_signToken_199 ?_
        refine lv_bipush (v := 59) S.1 S.2.1 dX12_signToken_202 (by decide) ?_
        refine lv_icmp_eq (tgt := 270) S.1 S.2.1 dX12_signToken_204 (by decide) (fun q24 => ?_) (fun q24 => ?_)
        · have f := (if_pos q24).symm.trans f
          exact T12_signToken_270 S hr hlo  f I (lv_sub hl [0] rfl)
        · have f := (if_neg q24).symm.trans f
          refine lv_aload_n S.1 S.2.1 dX12_signToken_207 rfl (lv_at hl 0 rfl) ?_
          obtain ⟨v25, e26, f⟩ := ob f
          refine o_gI S lf12_signToken_183 I e26 dX12_signToken_208 ?_
          refine lv_bipush (v := 40) S.1 S.2.1 dX12_signToken_211 (by decide) ?_
          refine lv_icmp_eq (tgt := 270) S.1 S.2.1 dX12_signToken_213 (by decide) (fun q27 => ?_) (fun q27 => ?_)
          · have f := (if_pos q27).symm.trans f
            exact T12_signToken_270 S hr hlo  f I (lv_sub hl [0] rfl)
          · have f := (if_neg q27).symm.trans f
            refine lv_aload_n S.1 S.2.1 dX12_signToken_216 rfl (lv_at hl 0 rfl) ?_
            obtain ⟨v28, e29, f⟩ := ob f
            refine o_gI S lf12_signToken_183 I e29 dX12_signToken_217 ?_
            refine lv_bipush (v := 41) S.1 S.2.1 dX12_signToken_220 (by decide) ?_
            refine lv_icmp_eq (tgt := 270) S.1 S.2.1 dX12_signToken_222 (by decide) (fun q30 => ?_) (fun q30 => ?_)
            · have f := (if_pos q30).symm.trans f
              exact T12_signToken_270 S hr hlo  f I (lv_sub hl [0] rfl)
            · have f := (if_neg q30).symm.trans f
              refine lv_aload_n S.1 S.2.1 dX12_signToken_225 rfl (lv_at hl 0 rfl) ?_
              obtain ⟨v31, e32, f⟩ := ob f
              refine o_gI S lf12_signToken_183 I e32 dX12_signToken_226 ?_
              refine lv_bipush (v := 43) S.1 S.2.1 dX12_signToken_229 (by decide) ?_
              refine lv_icmp_eq (tgt := 270) S.1 S.2.1 dX12_signToken_231 (by decide) (fun q33 => ?_) (fun q33 => ?_)
              · have f := (if_pos q33).symm.trans f
                exact T12_signToken_270 S hr hlo  f I (lv_sub hl [0] rfl)
              · have f := (if_neg q33).symm.trans f
                refine lv_aload_n S.1 S.2.1 dX12_signToken_234 rfl (lv_at hl 0 rfl) ?_
                obtain ⟨v34, e35, f⟩ := ob f
                refine o_gI S lf12_signToken_183 I e35 dX12_signToken_235 ?_
                refine lv_bipush (v := 45) S.1 S.2.1 dX12_signToken_238 (by decide) ?_
                refine lv_icmp_eq (tgt := 270) S.1 S.2.1 dX12_signToken_240 (by decide) (fun q36 => ?_) (fun q36 => ?_)
                · have f := (if_pos q36).symm.trans f
                  exact T12_signToken_270 S hr hlo  f I (lv_sub hl [0] rfl)
                · have f := (if_neg q36).symm.trans f
                  refine lv_aload_n S.1 S.2.1 dX12_signToken_243 rfl (lv_at hl 0 rfl) ?_
                  obtain ⟨v37, e38, f⟩ := ob f
                  refine o_gI S lf12_signToken_183 I e38 dX12_signToken_244 ?_
                  refine lv_bipush (v := 42) S.1 S.2.1 dX12_signToken_247 (by decide) ?_
                  refine lv_icmp_eq (tgt := 270) S.1 S.2.1 dX12_signToken_249 (by decide) (fun q39 => ?_) (fun q39 => ?_)
                  · have f := (if_pos q39).symm.trans f
                    exact T12_signToken_270 S hr hlo  f I (lv_sub hl [0] rfl)
                  · have f := (if_neg q39).symm.trans f
                    refine lv_aload_n S.1 S.2.1 dX12_signToken_252 rfl (lv_at hl 0 rfl) ?_
                    obtain ⟨v40, e41, f⟩ := ob f
                    refine o_gI S lf12_signToken_183 I e41 dX12_signToken_253 ?_
                    refine lv_bipush (v := 47) S.1 S.2.1 dX12_signToken_256 (by decide) ?_
                    refine lv_icmp_eq (tgt := 270) S.1 S.2.1 dX12_signToken_258 (by decide) (fun q42 => ?_) (fun q42 => ?_)
                    · have f := (if_pos q42).symm.trans f
                      exact T12_signToken_270 S hr hlo  f I (lv_sub hl [0] rfl)
                    · have f := (if_neg q42).symm.trans f
                      refine lv_aload_n S.1 S.2.1 dX12_signToken_261 rfl (lv_at hl 0 rfl) ?_
                      obtain ⟨v43, e44, f⟩ := ob f
                      refine o_gI S lf12_signToken_183 I e44 dX12_signToken_262 ?_
                      refine lv_bipush (v := 37) S.1 S.2.1 dX12_signToken_265 (by decide) ?_
                      refine lv_icmp_ne (tgt := 274) S.1 S.2.1 dX12_signToken_267 (by decide) (fun q45 => ?_) (fun q45 => ?_)
                      · have f := (if_neg q45).symm.trans f
                        refine lv_iconst (v := 0) S.1 S.2.1 dX12_signToken_274 (by decide) ?_
                        exact T12_signToken_275 S hr hlo  f I (lv_sub hl [0] rfl)
                      · have f := (if_pos q45).symm.trans f
                        exact T12_signToken_270 S hr hlo  f I (lv_sub hl [0] rfl)
      · have f := (if_pos q21).symm.trans f
        exact T12_signToken_50 S hr hlo  f I (lv_sub hl [0] rfl)
theorem M12_signToken (l : Launch) (D : va_G) (cy : Nat → ClassId) (b : Nat) (A : Nat → Prop) (fl : Bool) {h : PH} {a0 : Nat} {out : PH} (f : F12_signToken h a0 = some out) : Met l yX12_signToken vX12_signToken ({ frames := 0, cells := 0, slots := 0, locals := 0 } : Room) (va_Pc [.ref (b + a0)] (ph_B D cy b A fl h)) (va_Qv (fun (u : PH) => u = out) (ph_B D cy b A fl) A) 0 0 A :=
  o_met (by decide) rfl (Nat.le_of_ble_eq_true rfl) rfl (fun p e s m below meth c S hr hlo hnm ls hl I => T12_signToken_0 S hr hlo ((gd f).2) I (lv_sub hl [0] rfl))
def vX12_token : List Cond := .code yX12_token cX12_token 1 none :: TB
theorem lp12_token_183 : Pl vX12_token RX12 183 12 9 .int := ⟨RX12, TX12, 87, tyX12, rfl, by decide, (fun w h9 => List.mem_cons_of_mem _ (wC_wsX120 w h9)), (List.mem_cons_of_mem _ wT_27_2), tyX12_ok, nmX12, rfl, rfl⟩
theorem lf12_token_169 : Fl vX12_token RX12 169 12 7 := ⟨RX12, TX12, 87, rfl, by decide, (fun w h9 => List.mem_cons_of_mem _ (wC_wsX120 w h9)), (List.mem_cons_of_mem _ wT_26_19)⟩
theorem lp12_token_169 : Pl vX12_token RX12 169 12 7 .int := ⟨RX12, TX12, 87, tyX12, rfl, by decide, (fun w h9 => List.mem_cons_of_mem _ (wC_wsX120 w h9)), (List.mem_cons_of_mem _ wT_26_19), tyX12_ok, nmX12, rfl, rfl⟩
theorem gX12_token_X12_isDigit : GoodIn vX12_token (wsV RX12 189 RX12 yX12_isDigit vX12_isDigit) := gV_of wT_27_16 wT_27_17 wT_27_18 wT_1_5 wT_27_19
theorem lf12_token_183 : Fl vX12_token RX12 183 12 9 := ⟨RX12, TX12, 87, rfl, by decide, (fun w h9 => List.mem_cons_of_mem _ (wC_wsX120 w h9)), (List.mem_cons_of_mem _ wT_27_2)⟩
theorem lf12_token_7 : Fl vX12_token RX12 7 12 0 := ⟨RX12, TX12, 87, rfl, by decide, (fun w h9 => List.mem_cons_of_mem _ (wC_wsX120 w h9)), (List.mem_cons_of_mem _ wT_9_21)⟩
theorem lp12_token_172 : Pl vX12_token RX12 172 12 8 .int := ⟨RX12, TX12, 87, tyX12, rfl, by decide, (fun w h9 => List.mem_cons_of_mem _ (wC_wsX120 w h9)), (List.mem_cons_of_mem _ wT_26_20), tyX12_ok, nmX12, rfl, rfl⟩
theorem lf12_token_172 : Fl vX12_token RX12 172 12 8 := ⟨RX12, TX12, 87, rfl, by decide, (fun w h9 => List.mem_cons_of_mem _ (wC_wsX120 w h9)), (List.mem_cons_of_mem _ wT_26_20)⟩
theorem lf12_token_163 : Fl vX12_token RX12 163 12 10 := ⟨RX12, TX12, 87, rfl, by decide, (fun w h9 => List.mem_cons_of_mem _ (wC_wsX120 w h9)), (List.mem_cons_of_mem _ wT_27_1)⟩
theorem gX12_token_X12_packed : GoodIn vX12_token (wsV RX12 186 RX12 yX12_packed vX12_packed) := gV_of wT_27_12 wT_27_13 wT_27_14 wT_1_5 wT_27_15
theorem gX12_token_X12_isSmall : GoodIn vX12_token (wsV RX12 175 RX12 yX12_isSmall vX12_isSmall) := gV_of wT_27_4 wT_27_5 wT_27_6 wT_1_5 wT_27_7
theorem gX12_token_X12_wordAt : GoodIn vX12_token (wsV RX12 179 RX12 yX12_wordAt vX12_wordAt) := gV_of wT_27_8 wT_27_9 wT_27_10 wT_1_5 wT_27_11
theorem lp12_token_163 : Pl vX12_token RX12 163 12 10 .int := ⟨RX12, TX12, 87, tyX12, rfl, by decide, (fun w h9 => List.mem_cons_of_mem _ (wC_wsX120 w h9)), (List.mem_cons_of_mem _ wT_27_1), tyX12_ok, nmX12, rfl, rfl⟩
theorem lf12_token_166 : Fl vX12_token RX12 166 12 6 := ⟨RX12, TX12, 87, rfl, by decide, (fun w h9 => List.mem_cons_of_mem _ (wC_wsX120 w h9)), (List.mem_cons_of_mem _ wT_26_17)⟩
theorem gX12_token_X12_signToken : GoodIn vX12_token (wsV RX12 193 RX12 yX12_signToken vX12_signToken) := gV_of wT_27_20 wT_27_21 wT_27_22 wT_1_5 wT_27_23
theorem cd12_token : Cd yX12_token 0 := ⟨by decide, by decide, by decide +kernel⟩
set_option maxHeartbeats 4000000 in
set_option maxRecDepth 100000 in
theorem T12_token_261 (S : CallFix p m c cX12_token 1 s args vX12_token RX12) (hr : meth.sig.returnType = none) (hlo : meth.locks = false) {out : PH} {k213 : PH → Nat → Option (PH)} (hk213 : ∀ {h : PH} {a0 : Nat}, k213 h a0 = some out → ∀ (H : Heap) (locs : List Loc), ph_I D cy b A fl h s H locs → ∀ (ls : Array Slot), lv_has ls 1 [(0, .ref (b + a0))] → W p l e ({ frames := 1, cells := 0, slots := 0, locals := 27 } : Room) s m args below meth c H locs 0 0 (MQ below (va_Qv (fun (u : PH) => u = out) (ph_B D cy b A fl) A) args s 0 0 A) (F0 m 213 ls [])) {h : PH} {a0 : Nat} {s0 : Int32} {u1 : Nat} (f : F12_token_261 k213 h a0 s0 u1 = some out) {H : Heap} {locs : List Loc} (I : ph_I D cy b A fl h s H locs) {ls : Array Slot} (hl : lv_has ls 1 [(0, .ref (b + a0))]) : W p l e ({ frames := 1, cells := 0, slots := 0, locals := 27 } : Room) s m args below meth c H locs 0 0 (MQ below (va_Qv (fun (u : PH) => u = out) (ph_B D cy b A fl) A) args s 0 0 A) (F0 m 261 ls [.int s0, .ref (b + u1)]) := by
  unfold F12_token_261 at f
  obtain ⟨h1, e2, f⟩ := ob f
  refine o_pI S lp12_token_183 I e2 dX12_token_261 (fun H locs I => ?_)
  refine lv_aload_n S.1 S.2.1 dX12_token_264 rfl (lv_at hl 0 rfl) ?_
  refine lv_dup S.1 S.2.1 dX12_token_265 rfl ?_
  obtain ⟨v3, e4, f⟩ := ob f
  refine o_gI S lf12_token_169 I e4 dX12_token_266 ?_
  refine lv_iconst (v := 1) S.1 S.2.1 dX12_token_269 (by decide) ?_
  refine lv_iadd S.1 S.2.1 dX12_token_270 ?_
  obtain ⟨h5, e6, f⟩ := ob f
  refine o_pI S lp12_token_169 I e6 dX12_token_271 (fun H locs I => ?_)
  refine lv_goto (tgt := 213) S.1 S.2.1 dX12_token_274 (by decide) ?_
  exact hk213 f _ _ I _ (lv_sub hl [0] rfl)
set_option maxHeartbeats 4000000 in
set_option maxRecDepth 100000 in
theorem T12_token_213 (S : CallFix p m c cX12_token 1 s args vX12_token RX12) (hr : meth.sig.returnType = none) (hlo : meth.locks = false) {out : PH} : ∀ (n : Nat) {h : PH} {a0 : Nat} (f : F12_token_213  n h a0 = some out) {H : Heap} {locs : List Loc} (I : ph_I D cy b A fl h s H locs) {ls : Array Slot} (hl : lv_has ls 1 [(0, .ref (b + a0))]), W p l e ({ frames := 1, cells := 0, slots := 0, locals := 27 } : Room) s m args below meth c H locs 0 0 (MQ below (va_Qv (fun (u : PH) => u = out) (ph_B D cy b A fl) A) args s 0 0 A) (F0 m 213 ls []) := by
  intro n
  induction n with
  | zero => intro h a0 f; rw [F12_token_213] at f; cases f
  | succ n ih =>
    intro h a0 f H locs I ls hl
    rw [F12_token_213] at f
    refine lv_aload_n S.1 S.2.1 dX12_token_213 rfl (lv_at hl 0 rfl) ?_
    refine lv_aload_n S.1 S.2.1 dX12_token_214 rfl (lv_at hl 0 rfl) ?_
    obtain ⟨v1, e2, f⟩ := ob f
    refine o_gI S lf12_token_169 I e2 dX12_token_215 ?_
    obtain ⟨o3, e4, f⟩ := ob f
    refine o_Vi S (As := [.int v1]) (rest := []) (ci := 12) (M12_isDigit l D cy b A fl e4) gX12_token_X12_isDigit rfl rfl rfl cd12_isDigit ⟨Nat.le_of_ble_eq_true rfl, Nat.le_of_ble_eq_true rfl⟩ I (gd e4).1 clX12 rfl rfl hl.1 rfl (Nat.le_of_ble_eq_true rfl) dX12_token_218 ⟨Nat.le_of_ble_eq_true rfl, Nat.le_of_ble_eq_true rfl⟩ (fun H locs I => ?_)
    refine lv_if_eq (tgt := 281) S.1 S.2.1 dX12_token_221 (by decide) (fun q5 => ?_) (fun q5 => ?_)
    · have f := (if_pos q5).symm.trans f
      exact o_vret S hr hlo I f dX12_token_281
    · have f := (if_neg q5).symm.trans f
      refine lv_aload_n S.1 S.2.1 dX12_token_224 rfl (lv_at hl 0 rfl) ?_
      refine lv_aload_n S.1 S.2.1 dX12_token_225 rfl (lv_at hl 0 rfl) ?_
      obtain ⟨v6, e7, f⟩ := ob f
      refine o_gI S lf12_token_183 I e7 dX12_token_226 ?_
      refine lv_ldc (v := 99999) S.1 S.2.1 S.2.2.2.1 (S.2.2.2.2 _ (List.mem_cons_of_mem _ wT_27_3)) dX12_token_229 ?_
      refine lv_icmp_le (tgt := 241) S.1 S.2.1 dX12_token_231 (by decide) (fun q8 => ?_) (fun q8 => ?_)
      · have f := (if_pos q8).symm.trans f
        refine lv_bipush (v := 10) S.1 S.2.1 dX12_token_241 (by decide) ?_
        refine lv_aload_n S.1 S.2.1 dX12_token_243 rfl (lv_at hl 0 rfl) ?_
        obtain ⟨v9, e10, f⟩ := ob f
        refine o_gI S lf12_token_183 I e10 dX12_token_244 ?_
        refine lv_imul S.1 S.2.1 dX12_token_247 ?_
        refine lv_aload_n S.1 S.2.1 dX12_token_248 rfl (lv_at hl 0 rfl) ?_
        obtain ⟨r11, e12, f⟩ := ob f
        refine o_gR S lf12_token_7 I e12 dX12_token_249 ?_
        refine lv_aload_n S.1 S.2.1 dX12_token_252 rfl (lv_at hl 0 rfl) ?_
        obtain ⟨v13, e14, f⟩ := ob f
        refine o_gI S lf12_token_169 I e14 dX12_token_253 ?_
        obtain ⟨v16, e15, f⟩ := ob f
        refine o_iald S I e15 dX12_token_256 ?_
        refine lv_iadd S.1 S.2.1 dX12_token_257 ?_
        refine lv_bipush (v := 48) S.1 S.2.1 dX12_token_258 (by decide) ?_
        refine lv_isub S.1 S.2.1 dX12_token_260 ?_
        exact T12_token_261 S hr hlo (fun f _ _ I _ hl => ih f I hl) f I (lv_sub hl [0] rfl)
      · have f := (if_neg q8).symm.trans f
        refine lv_aload_n S.1 S.2.1 dX12_token_234 rfl (lv_at hl 0 rfl) ?_
        obtain ⟨v17, e18, f⟩ := ob f
        refine o_gI S lf12_token_183 I e18 dX12_token_235 ?_
        refine lv_goto (tgt := 261) S.1 S.2.1 dX12_token_238 (by decide) ?_
        exact T12_token_261 S hr hlo (fun f _ _ I _ hl => ih f I hl) f I (lv_sub hl [0] rfl)
set_option maxHeartbeats 4000000 in
set_option maxRecDepth 100000 in
theorem T12_token_162 (S : CallFix p m c cX12_token 1 s args vX12_token RX12) (hr : meth.sig.returnType = none) (hlo : meth.locks = false) {out : PH} {h : PH} {a0 : Nat} {s0 : Int32} {u1 : Nat} (f : F12_token_162  h a0 s0 u1 = some out) {H : Heap} {locs : List Loc} (I : ph_I D cy b A fl h s H locs) {ls : Array Slot} (hl : lv_has ls 1 [(0, .ref (b + a0))]) : W p l e ({ frames := 1, cells := 0, slots := 0, locals := 27 } : Room) s m args below meth c H locs 0 0 (MQ below (va_Qv (fun (u : PH) => u = out) (ph_B D cy b A fl) A) args s 0 0 A) (F0 m 162 ls [.int s0, .ref (b + u1)]) := by
  unfold F12_token_162 at f
  obtain ⟨h1, e2, f⟩ := ob f
  refine o_pI S lp12_token_172 I e2 dX12_token_162 (fun H locs I => ?_)
  refine lv_aload_n S.1 S.2.1 dX12_token_165 rfl (lv_at hl 0 rfl) ?_
  obtain ⟨v3, e4, f⟩ := ob f
  refine o_gI S lf12_token_172 I e4 dX12_token_166 ?_
  refine lv_iconst (v := 2) S.1 S.2.1 dX12_token_169 (by decide) ?_
  refine lv_icmp_ne (tgt := 281) S.1 S.2.1 dX12_token_170 (by decide) (fun q5 => ?_) (fun q5 => ?_)
  · have f := (if_neg q5).symm.trans f
    exact o_vret S hr hlo I f dX12_token_281
  · have f := (if_pos q5).symm.trans f
    refine lv_aload_n S.1 S.2.1 dX12_token_173 rfl (lv_at hl 0 rfl) ?_
    refine lv_aload_n S.1 S.2.1 dX12_token_174 rfl (lv_at hl 0 rfl) ?_
    refine lv_aload_n S.1 S.2.1 dX12_token_175 rfl (lv_at hl 0 rfl) ?_
    obtain ⟨v6, e7, f⟩ := ob f
    refine o_gI S lf12_token_163 I e7 dX12_token_176 ?_
    refine lv_aload_n S.1 S.2.1 dX12_token_179 rfl (lv_at hl 0 rfl) ?_
    obtain ⟨v8, e9, f⟩ := ob f
    refine o_gI S lf12_token_169 I e9 dX12_token_180 ?_
    obtain ⟨o10, e11, f⟩ := ob f
    refine o_Vi S (As := [.int v6, .int v8]) (rest := [.ref (b + a0)]) (ci := 12) (M12_packed l D cy b A fl e11) gX12_token_X12_packed rfl rfl rfl cd12_packed ⟨Nat.le_of_ble_eq_true rfl, Nat.le_of_ble_eq_true rfl⟩ I (gd e11).1 clX12 rfl rfl hl.1 rfl (Nat.le_of_ble_eq_true rfl) dX12_token_183 ⟨Nat.le_of_ble_eq_true rfl, Nat.le_of_ble_eq_true rfl⟩ (fun H locs I => ?_)
    obtain ⟨h12, e13, f⟩ := ob f
    refine o_pI S lp12_token_183 I e13 dX12_token_186 (fun H locs I => ?_)
    refine lv_goto (tgt := 281) S.1 S.2.1 dX12_token_189 (by decide) ?_
    exact o_vret S hr hlo I f dX12_token_281
set_option maxHeartbeats 4000000 in
set_option maxRecDepth 100000 in
theorem T12_token_90 (S : CallFix p m c cX12_token 1 s args vX12_token RX12) (hr : meth.sig.returnType = none) (hlo : meth.locks = false) {out : PH} : ∀ (n : Nat) {h : PH} {a0 : Nat} (f : F12_token_90  n h a0 = some out) {H : Heap} {locs : List Loc} (I : ph_I D cy b A fl h s H locs) {ls : Array Slot} (hl : lv_has ls 1 [(0, .ref (b + a0))]), W p l e ({ frames := 1, cells := 0, slots := 0, locals := 27 } : Room) s m args below meth c H locs 0 0 (MQ below (va_Qv (fun (u : PH) => u = out) (ph_B D cy b A fl) A) args s 0 0 A) (F0 m 90 ls []) := by
  intro n
  induction n with
  | zero => intro h a0 f; rw [F12_token_90] at f; cases f
  | succ n ih =>
    intro h a0 f H locs I ls hl
    rw [F12_token_90] at f
    refine lv_aload_n S.1 S.2.1 dX12_token_90 rfl (lv_at hl 0 rfl) ?_
    refine lv_aload_n S.1 S.2.1 dX12_token_91 rfl (lv_at hl 0 rfl) ?_
    obtain ⟨v1, e2, f⟩ := ob f
    refine o_gI S lf12_token_169 I e2 dX12_token_92 ?_
    obtain ⟨o3, e4, f⟩ := ob f
    refine o_Vi S (As := [.int v1]) (rest := []) (ci := 12) (M12_isSmall l D cy b A fl e4) gX12_token_X12_isSmall rfl rfl rfl cd12_isSmall ⟨Nat.le_of_ble_eq_true rfl, Nat.le_of_ble_eq_true rfl⟩ I (gd e4).1 clX12 rfl rfl hl.1 rfl (Nat.le_of_ble_eq_true rfl) dX12_token_95 ⟨Nat.le_of_ble_eq_true rfl, Nat.le_of_ble_eq_true rfl⟩ (fun H locs I => ?_)
    refine lv_if_eq (tgt := 114) S.1 S.2.1 dX12_token_98 (by decide) (fun q5 => ?_) (fun q5 => ?_)
    · have f := (if_pos q5).symm.trans f
      refine lv_aload_n S.1 S.2.1 dX12_token_114 rfl (lv_at hl 0 rfl) ?_
      refine lv_aload_n S.1 S.2.1 dX12_token_115 rfl (lv_at hl 0 rfl) ?_
      refine lv_aload_n S.1 S.2.1 dX12_token_116 rfl (lv_at hl 0 rfl) ?_
      obtain ⟨v6, e7, f⟩ := ob f
      refine o_gI S lf12_token_163 I e7 dX12_token_117 ?_
      refine lv_aload_n S.1 S.2.1 dX12_token_120 rfl (lv_at hl 0 rfl) ?_
      obtain ⟨v8, e9, f⟩ := ob f
      refine o_gI S lf12_token_169 I e9 dX12_token_121 ?_
      obtain ⟨o10, e11, f⟩ := ob f
      refine o_Vi S (As := [.int v6, .int v8]) (rest := [.ref (b + a0)]) (ci := 12) (M12_wordAt l D cy b A fl e11) gX12_token_X12_wordAt rfl rfl rfl cd12_wordAt ⟨Nat.le_of_ble_eq_true rfl, Nat.le_of_ble_eq_true rfl⟩ I (gd e11).1 clX12 rfl rfl hl.1 rfl (Nat.le_of_ble_eq_true rfl) dX12_token_124 ⟨Nat.le_of_ble_eq_true rfl, Nat.le_of_ble_eq_true rfl⟩ (fun H locs I => ?_)
      obtain ⟨h12, e13, f⟩ := ob f
      refine o_pI S lp12_token_183 I e13 dX12_token_127 (fun H locs I => ?_)
      refine lv_aload_n S.1 S.2.1 dX12_token_130 rfl (lv_at hl 0 rfl) ?_
      refine lv_aload_n S.1 S.2.1 dX12_token_131 rfl (lv_at hl 0 rfl) ?_
      obtain ⟨v14, e15, f⟩ := ob f
      refine o_gI S lf12_token_183 I e15 dX12_token_132 ?_
      refine lv_if_lt (tgt := 142) S.1 S.2.1 dX12_token_135 (by decide) (fun q16 => ?_) (fun q16 => ?_)
      · have f := (if_pos q16).symm.trans f
        refine lv_aload_n S.1 S.2.1 dX12_token_142 rfl (lv_at hl 0 rfl) ?_
        obtain ⟨v17, e18, f⟩ := ob f
        refine o_gI S lf12_token_169 I e18 dX12_token_143 ?_
        refine lv_aload_n S.1 S.2.1 dX12_token_146 rfl (lv_at hl 0 rfl) ?_
        obtain ⟨v19, e20, f⟩ := ob f
        refine o_gI S lf12_token_163 I e20 dX12_token_147 ?_
        refine lv_isub S.1 S.2.1 dX12_token_150 ?_
        refine lv_bipush (v := 6) S.1 S.2.1 dX12_token_151 (by decide) ?_
        refine lv_icmp_le (tgt := 161) S.1 S.2.1 dX12_token_153 (by decide) (fun q21 => ?_) (fun q21 => ?_)
        · have f := (if_pos q21).symm.trans f
          refine lv_iconst (v := 2) S.1 S.2.1 dX12_token_161 (by decide) ?_
          exact T12_token_162 S hr hlo  f I (lv_sub hl [0] rfl)
        · have f := (if_neg q21).symm.trans f
          refine lv_bipush (v := 6) S.1 S.2.1 dX12_token_156 (by decide) ?_
          refine lv_goto (tgt := 162) S.1 S.2.1 dX12_token_158 (by decide) ?_
          exact T12_token_162 S hr hlo  f I (lv_sub hl [0] rfl)
      · have f := (if_neg q16).symm.trans f
        refine lv_iconst (v := 1) S.1 S.2.1 dX12_token_138 (by decide) ?_
        refine lv_goto (tgt := 162) S.1 S.2.1 dX12_token_139 (by decide) ?_
        exact T12_token_162 S hr hlo  f I (lv_sub hl [0] rfl)
    · have f := (if_neg q5).symm.trans f
      refine lv_aload_n S.1 S.2.1 dX12_token_101 rfl (lv_at hl 0 rfl) ?_
      refine lv_dup S.1 S.2.1 dX12_token_102 rfl ?_
      obtain ⟨v22, e23, f⟩ := ob f
      refine o_gI S lf12_token_169 I e23 dX12_token_103 ?_
      refine lv_iconst (v := 1) S.1 S.2.1 dX12_token_106 (by decide) ?_
      refine lv_iadd S.1 S.2.1 dX12_token_107 ?_
      obtain ⟨h24, e25, f⟩ := ob f
      refine o_pI S lp12_token_169 I e25 dX12_token_108 (fun H locs I => ?_)
      refine lv_goto (tgt := 90) S.1 S.2.1 dX12_token_111 (by decide) ?_
      exact ih f I (lv_sub hl [0] rfl)
set_option maxHeartbeats 4000000 in
set_option maxRecDepth 100000 in
theorem T12_token_52 (S : CallFix p m c cX12_token 1 s args vX12_token RX12) (hr : meth.sig.returnType = none) (hlo : meth.locks = false) {out : PH} {h : PH} {a0 : Nat} (f : F12_token_52  h a0 = some out) {H : Heap} {locs : List Loc} (I : ph_I D cy b A fl h s H locs) {ls : Array Slot} (hl : lv_has ls 1 [(0, .ref (b + a0))]) : W p l e ({ frames := 1, cells := 0, slots := 0, locals := 27 } : Room) s m args below meth c H locs 0 0 (MQ below (va_Qv (fun (u : PH) => u = out) (ph_B D cy b A fl) A) args s 0 0 A) (F0 m 52 ls []) := by
  unfold F12_token_52 at f
  refine lv_aload_n S.1 S.2.1 dX12_token_52 rfl (lv_at hl 0 rfl) ?_
  refine lv_aload_n S.1 S.2.1 dX12_token_53 rfl (lv_at hl 0 rfl) ?_
  obtain ⟨v1, e2, f⟩ := ob f
  refine o_gI S lf12_token_169 I e2 dX12_token_54 ?_
  obtain ⟨h3, e4, f⟩ := ob f
  refine o_pI S lp12_token_163 I e4 dX12_token_57 (fun H locs I => ?_)
  refine lv_aload_n S.1 S.2.1 dX12_token_60 rfl (lv_at hl 0 rfl) ?_
  obtain ⟨v5, e6, f⟩ := ob f
  refine o_gI S lf12_token_169 I e6 dX12_token_61 ?_
  refine lv_aload_n S.1 S.2.1 dX12_token_64 rfl (lv_at hl 0 rfl) ?_
  obtain ⟨v7, e8, f⟩ := ob f
  refine o_gI S lf12_token_166 I e8 dX12_token_65 ?_
  refine lv_icmp_ne (tgt := 79) S.1 S.2.1 dX12_token_68 (by decide) (fun q9 => ?_) (fun q9 => ?_)
  · have f := (if_neg q9).symm.trans f
    refine lv_aload_n S.1 S.2.1 dX12_token_79 rfl (lv_at hl 0 rfl) ?_
    refine lv_aload_n S.1 S.2.1 dX12_token_80 rfl (lv_at hl 0 rfl) ?_
    obtain ⟨v10, e11, f⟩ := ob f
    refine o_gI S lf12_token_169 I e11 dX12_token_81 ?_
    obtain ⟨o12, e13, f⟩ := ob f
    refine o_Vi S (As := [.int v10]) (rest := []) (ci := 12) (M12_isSmall l D cy b A fl e13) gX12_token_X12_isSmall rfl rfl rfl cd12_isSmall ⟨Nat.le_of_ble_eq_true rfl, Nat.le_of_ble_eq_true rfl⟩ I (gd e13).1 clX12 rfl rfl hl.1 rfl (Nat.le_of_ble_eq_true rfl) dX12_token_84 ⟨Nat.le_of_ble_eq_true rfl, Nat.le_of_ble_eq_true rfl⟩ (fun H locs I => ?_)
    refine lv_if_eq (tgt := 192) S.1 S.2.1 dX12_token_87 (by decide) (fun q14 => ?_) (fun q14 => ?_)
    · have f := (if_pos q14).symm.trans f
      refine lv_aload_n S.1 S.2.1 dX12_token_192 rfl (lv_at hl 0 rfl) ?_
      refine lv_aload_n S.1 S.2.1 dX12_token_193 rfl (lv_at hl 0 rfl) ?_
      obtain ⟨v15, e16, f⟩ := ob f
      refine o_gI S lf12_token_169 I e16 dX12_token_194 ?_
      obtain ⟨o17, e18, f⟩ := ob f
      refine o_Vi S (As := [.int v15]) (rest := []) (ci := 12) (M12_isDigit l D cy b A fl e18) gX12_token_X12_isDigit rfl rfl rfl cd12_isDigit ⟨Nat.le_of_ble_eq_true rfl, Nat.le_of_ble_eq_true rfl⟩ I (gd e18).1 clX12 rfl rfl hl.1 rfl (Nat.le_of_ble_eq_true rfl) dX12_token_197 ⟨Nat.le_of_ble_eq_true rfl, Nat.le_of_ble_eq_true rfl⟩ (fun H locs I => ?_)
      refine lv_if_eq (tgt := 277) S.1 S.2.1 dX12_token_200 (by decide) (fun q19 => ?_) (fun q19 => ?_)
      · have f := (if_pos q19).symm.trans f
        refine lv_aload_n S.1 S.2.1 dX12_token_277 rfl (lv_at hl 0 rfl) ?_
        obtain ⟨o20, e21, f⟩ := ob f
        refine o_Vv S (As := []) (rest := []) (ci := 12) (M12_signToken l D cy b A fl e21) gX12_token_X12_signToken rfl rfl rfl cd12_signToken ⟨Nat.le_of_ble_eq_true rfl, Nat.le_of_ble_eq_true rfl⟩ I (gd e21).1 clX12 rfl rfl hl.1 rfl (Nat.le_of_ble_eq_true rfl) dX12_token_278 ⟨Nat.le_of_ble_eq_true rfl, Nat.le_of_ble_eq_true rfl⟩ (fun H locs I => ?_)
        exact o_vret S hr hlo I f dX12_token_281
      · have f := (if_neg q19).symm.trans f
        refine lv_aload_n S.1 S.2.1 dX12_token_203 rfl (lv_at hl 0 rfl) ?_
        refine lv_iconst (v := 3) S.1 S.2.1 dX12_token_204 (by decide) ?_
        obtain ⟨h22, e23, f⟩ := ob f
        refine o_pI S lp12_token_172 I e23 dX12_token_205 (fun H locs I => ?_)
        refine lv_aload_n S.1 S.2.1 dX12_token_208 rfl (lv_at hl 0 rfl) ?_
        refine lv_iconst (v := 0) S.1 S.2.1 dX12_token_209 (by decide) ?_
        obtain ⟨h24, e25, f⟩ := ob f
        refine o_pI S lp12_token_183 I e25 dX12_token_210 (fun H locs I => ?_)
        exact T12_token_213 S hr hlo  1024 f I (lv_sub hl [0] rfl)
    · have f := (if_neg q14).symm.trans f
      exact T12_token_90 S hr hlo  1024 f I (lv_sub hl [0] rfl)
  · have f := (if_pos q9).symm.trans f
    refine lv_aload_n S.1 S.2.1 dX12_token_71 rfl (lv_at hl 0 rfl) ?_
    refine lv_iconst (v := 0) S.1 S.2.1 dX12_token_72 (by decide) ?_
    obtain ⟨h26, e27, f⟩ := ob f
    refine o_pI S lp12_token_172 I e27 dX12_token_73 (fun H locs I => ?_)
    refine lv_goto (tgt := 281) S.1 S.2.1 dX12_token_76 (by decide) ?_
    exact o_vret S hr hlo I f dX12_token_281
set_option maxHeartbeats 4000000 in
set_option maxRecDepth 100000 in
theorem T12_token_39 (S : CallFix p m c cX12_token 1 s args vX12_token RX12) (hr : meth.sig.returnType = none) (hlo : meth.locks = false) {out : PH} {k0 : PH → Nat → Option (PH)} (hk0 : ∀ {h : PH} {a0 : Nat}, k0 h a0 = some out → ∀ (H : Heap) (locs : List Loc), ph_I D cy b A fl h s H locs → ∀ (ls : Array Slot), lv_has ls 1 [(0, .ref (b + a0))] → W p l e ({ frames := 1, cells := 0, slots := 0, locals := 27 } : Room) s m args below meth c H locs 0 0 (MQ below (va_Qv (fun (u : PH) => u = out) (ph_B D cy b A fl) A) args s 0 0 A) (F0 m 0 ls [])) {h : PH} {a0 : Nat} (f : F12_token_39 k0 h a0 = some out) {H : Heap} {locs : List Loc} (I : ph_I D cy b A fl h s H locs) {ls : Array Slot} (hl : lv_has ls 1 [(0, .ref (b + a0))]) : W p l e ({ frames := 1, cells := 0, slots := 0, locals := 27 } : Room) s m args below meth c H locs 0 0 (MQ below (va_Qv (fun (u : PH) => u = out) (ph_B D cy b A fl) A) args s 0 0 A) (F0 m 39 ls []) := by
  unfold F12_token_39 at f
  refine lv_aload_n S.1 S.2.1 dX12_token_39 rfl (lv_at hl 0 rfl) ?_
  refine lv_dup S.1 S.2.1 dX12_token_40 rfl ?_
  obtain ⟨v1, e2, f⟩ := ob f
  refine o_gI S lf12_token_169 I e2 dX12_token_41 ?_
  refine lv_iconst (v := 1) S.1 S.2.1 dX12_token_44 (by decide) ?_
  refine lv_iadd S.1 S.2.1 dX12_token_45 ?_
  obtain ⟨h3, e4, f⟩ := ob f
  refine o_pI S lp12_token_169 I e4 dX12_token_46 (fun H locs I => ?_)
  refine lv_goto (tgt := 0) S.1 S.2.1 dX12_token_49 (by decide) ?_
  exact hk0 f _ _ I _ (lv_sub hl [0] rfl)
set_option maxHeartbeats 4000000 in
set_option maxRecDepth 100000 in
theorem T12_token_0 (S : CallFix p m c cX12_token 1 s args vX12_token RX12) (hr : meth.sig.returnType = none) (hlo : meth.locks = false) {out : PH} : ∀ (n : Nat) {h : PH} {a0 : Nat} (f : F12_token_0  n h a0 = some out) {H : Heap} {locs : List Loc} (I : ph_I D cy b A fl h s H locs) {ls : Array Slot} (hl : lv_has ls 1 [(0, .ref (b + a0))]), W p l e ({ frames := 1, cells := 0, slots := 0, locals := 27 } : Room) s m args below meth c H locs 0 0 (MQ below (va_Qv (fun (u : PH) => u = out) (ph_B D cy b A fl) A) args s 0 0 A) (F0 m 0 ls []) := by
  intro n
  induction n with
  | zero => intro h a0 f; rw [F12_token_0] at f; cases f
  | succ n ih =>
    intro h a0 f H locs I ls hl
    rw [F12_token_0] at f
    refine lv_aload_n S.1 S.2.1 dX12_token_0 rfl (lv_at hl 0 rfl) ?_
    obtain ⟨v1, e2, f⟩ := ob f
    refine o_gI S lf12_token_169 I e2 dX12_token_1 ?_
    refine lv_aload_n S.1 S.2.1 dX12_token_4 rfl (lv_at hl 0 rfl) ?_
    obtain ⟨v3, e4, f⟩ := ob f
    refine o_gI S lf12_token_166 I e4 dX12_token_5 ?_
    refine lv_icmp_ge (tgt := 52) S.1 S.2.1 dX12_token_8 (by decide) (fun q5 => ?_) (fun q5 => ?_)
    · have f := (if_pos q5).symm.trans f
      exact T12_token_52 S hr hlo  f I (lv_sub hl [0] rfl)
    · have f := (if_neg q5).symm.trans f
      refine lv_aload_n S.1 S.2.1 dX12_token_11 rfl (lv_at hl 0 rfl) ?_
      obtain ⟨r6, e7, f⟩ := ob f
      refine o_gR S lf12_token_7 I e7 dX12_token_12 ?_
      refine lv_aload_n S.1 S.2.1 dX12_token_15 rfl (lv_at hl 0 rfl) ?_
      obtain ⟨v8, e9, f⟩ := ob f
      refine o_gI S lf12_token_169 I e9 dX12_token_16 ?_
      obtain ⟨v11, e10, f⟩ := ob f
      refine o_iald S I e10 dX12_token_19 ?_
      refine lv_bipush (v := 10) S.1 S.2.1 dX12_token_20 (by decide) ?_
      refine lv_icmp_eq (tgt := 39) S.1 S.2.1 dX12_token_22 (by decide) (fun q12 => ?_) (fun q12 => ?_)
      · have f := (if_pos q12).symm.trans f
        exact T12_token_39 S hr hlo (fun f _ _ I _ hl => ih f I hl) f I (lv_sub hl [0] rfl)
      · have f := (if_neg q12).symm.trans f
        refine lv_aload_n S.1 S.2.1 dX12_token_25 rfl (lv_at hl 0 rfl) ?_
        obtain ⟨r13, e14, f⟩ := ob f
        refine o_gR S lf12_token_7 I e14 dX12_token_26 ?_
        refine lv_aload_n S.1 S.2.1 dX12_token_29 rfl (lv_at hl 0 rfl) ?_
        obtain ⟨v15, e16, f⟩ := ob f
        refine o_gI S lf12_token_169 I e16 dX12_token_30 ?_
        obtain ⟨v18, e17, f⟩ := ob f
        refine o_iald S I e17 dX12_token_33 ?_
        refine lv_bipush (v := 32) S.1 S.2.1 dX12_token_34 (by decide) ?_
        refine lv_icmp_ne (tgt := 52) S.1 S.2.1 dX12_token_36 (by decide) (fun q19 => ?_) (fun q19 => ?_)
        · have f := (if_neg q19).symm.trans f
          exact T12_token_52 S hr hlo  f I (lv_sub hl [0] rfl)
        · have f := (if_pos q19).symm.trans f
          exact T12_token_39 S hr hlo (fun f _ _ I _ hl => ih f I hl) f I (lv_sub hl [0] rfl)
theorem M12_token (l : Launch) (D : va_G) (cy : Nat → ClassId) (b : Nat) (A : Nat → Prop) (fl : Bool) {h : PH} {a0 : Nat} {out : PH} (f : F12_token h a0 = some out) : Met l yX12_token vX12_token ({ frames := 1, cells := 0, slots := 0, locals := 27 } : Room) (va_Pc [.ref (b + a0)] (ph_B D cy b A fl h)) (va_Qv (fun (u : PH) => u = out) (ph_B D cy b A fl) A) 0 0 A :=
  o_met (by decide) rfl (Nat.le_of_ble_eq_true rfl) rfl (fun p e s m below meth c S hr hlo hnm ls hl I => T12_token_0 S hr hlo 1024 ((gd f).2) I (lv_sub hl [0] rfl))
def vX12_wrong : List Cond := .code yX12_wrong cX12_wrong 2 (some .boolean) :: TB
theorem lp12_wrong_160 : Pl vX12_wrong RX12 160 12 4 .int := ⟨RX12, TX12, 87, tyX12, rfl, by decide, (fun w h9 => List.mem_cons_of_mem _ (wC_wsX120 w h9)), (List.mem_cons_of_mem _ wT_26_18), tyX12_ok, nmX12, rfl, rfl⟩
theorem lf12_wrong_163 : Fl vX12_wrong RX12 163 12 10 := ⟨RX12, TX12, 87, rfl, by decide, (fun w h9 => List.mem_cons_of_mem _ (wC_wsX120 w h9)), (List.mem_cons_of_mem _ wT_27_1)⟩
theorem lp12_wrong_16 : Pl vX12_wrong RX12 16 12 5 .int := ⟨RX12, TX12, 87, tyX12, rfl, by decide, (fun w h9 => List.mem_cons_of_mem _ (wC_wsX120 w h9)), (List.mem_cons_of_mem _ wT_9_23), tyX12_ok, nmX12, rfl, rfl⟩
theorem cd12_wrong : Cd yX12_wrong 1 := ⟨by decide, by decide, by decide +kernel⟩
set_option maxHeartbeats 4000000 in
set_option maxRecDepth 100000 in
theorem T12_wrong_0 (S : CallFix p m c cX12_wrong 2 s args vX12_wrong RX12) (hr : meth.sig.returnType = (some .boolean)) (hlo : meth.locks = false) {out : Int32 × PH} {h : PH} {a0 : Nat} {x1 : Int32} (f : F12_wrong_0  h a0 x1 = some out) {H : Heap} {locs : List Loc} (I : ph_I D cy b A fl h s H locs) {ls : Array Slot} (hl : lv_has ls 2 [(0, .ref (b + a0)), (1, .int x1)]) : W p l e ({ frames := 0, cells := 0, slots := 0, locals := 0 } : Room) s m args below meth c H locs 0 0 (MQ below (va_Qi (fun (r : Int32) (u : PH) => (r, u) = out) (ph_B D cy b A fl) A) args s 0 0 A) (F0 m 0 ls []) := by
  unfold F12_wrong_0 at f
  refine lv_aload_n S.1 S.2.1 dX12_wrong_0 rfl (lv_at hl 0 rfl) ?_
  refine lv_iload_n S.1 S.2.1 dX12_wrong_1 rfl (lv_at hl 1 rfl) ?_
  obtain ⟨h1, e2, f⟩ := ob f
  refine o_pI S lp12_wrong_160 I e2 dX12_wrong_2 (fun H locs I => ?_)
  refine lv_aload_n S.1 S.2.1 dX12_wrong_5 rfl (lv_at hl 0 rfl) ?_
  refine lv_aload_n S.1 S.2.1 dX12_wrong_6 rfl (lv_at hl 0 rfl) ?_
  obtain ⟨v3, e4, f⟩ := ob f
  refine o_gI S lf12_wrong_163 I e4 dX12_wrong_7 ?_
  obtain ⟨h5, e6, f⟩ := ob f
  refine o_pI S lp12_wrong_16 I e6 dX12_wrong_10 (fun H locs I => ?_)
  refine lv_iconst (v := 0) S.1 S.2.1 dX12_wrong_13 (by decide) ?_
  exact o_zret S hr hlo I f dX12_wrong_14
theorem M12_wrong (l : Launch) (D : va_G) (cy : Nat → ClassId) (b : Nat) (A : Nat → Prop) (fl : Bool) {h : PH} {a0 : Nat} {x1 : Int32} {out : Int32 × PH} (f : F12_wrong h a0 x1 = some out) : Met l yX12_wrong vX12_wrong ({ frames := 0, cells := 0, slots := 0, locals := 0 } : Room) (va_Pc [.ref (b + a0), .int x1] (ph_B D cy b A fl h)) (va_Qi (fun (r : Int32) (u : PH) => (r, u) = out) (ph_B D cy b A fl) A) 0 0 A :=
  o_met (by decide) rfl (Nat.le_of_ble_eq_true rfl) rfl (fun p e s m below meth c S hr hlo hnm ls hl I => T12_wrong_0 S hr hlo ((gd f).2) I (lv_sub hl [0, 1] rfl))
def vX12_isIn : List Cond := .code yX12_isIn cX12_isIn 3 (some .boolean) :: TB
theorem cd12_isIn : Cd yX12_isIn 3 := ⟨by decide, by decide, by decide +kernel⟩
set_option maxHeartbeats 4000000 in
set_option maxRecDepth 100000 in
theorem T12_isIn_0 (S : CallFix p m c cX12_isIn 3 s args vX12_isIn RX12) (hr : meth.sig.returnType = (some .boolean)) (hlo : meth.locks = false) {out : Int32 × PH} {h : PH} {x0 : Int32} {x1 : Int32} {x2 : Int32} (f : F12_isIn_0  h x0 x1 x2 = some out) {H : Heap} {locs : List Loc} (I : ph_I D cy b A fl h s H locs) {ls : Array Slot} (hl : lv_has ls 3 [(0, .int x0), (1, .int x1), (2, .int x2)]) : W p l e ({ frames := 0, cells := 0, slots := 0, locals := 0 } : Room) s m args below meth c H locs 0 0 (MQ below (va_Qi (fun (r : Int32) (u : PH) => (r, u) = out) (ph_B D cy b A fl) A) args s 0 0 A) (F0 m 0 ls []) := by
  unfold F12_isIn_0 at f
  refine lv_iload_n S.1 S.2.1 dX12_isIn_0 rfl (lv_at hl 0 rfl) ?_
  refine lv_iload_n S.1 S.2.1 dX12_isIn_1 rfl (lv_at hl 1 rfl) ?_
  refine lv_icmp_lt (tgt := 14) S.1 S.2.1 dX12_isIn_2 (by decide) (fun q1 => ?_) (fun q1 => ?_)
  · have f := (if_pos q1).symm.trans f
    refine lv_iconst (v := 0) S.1 S.2.1 dX12_isIn_14 (by decide) ?_
    exact o_zret S hr hlo I f dX12_isIn_15
  · have f := (if_neg q1).symm.trans f
    refine lv_iload_n S.1 S.2.1 dX12_isIn_5 rfl (lv_at hl 0 rfl) ?_
    refine lv_iload_n S.1 S.2.1 dX12_isIn_6 rfl (lv_at hl 2 rfl) ?_
    refine lv_icmp_gt (tgt := 14) S.1 S.2.1 dX12_isIn_7 (by decide) (fun q2 => ?_) (fun q2 => ?_)
    · have f := (if_pos q2).symm.trans f
      refine lv_iconst (v := 0) S.1 S.2.1 dX12_isIn_14 (by decide) ?_
      exact o_zret S hr hlo I f dX12_isIn_15
    · have f := (if_neg q2).symm.trans f
      refine lv_iconst (v := 1) S.1 S.2.1 dX12_isIn_10 (by decide) ?_
      refine lv_goto (tgt := 15) S.1 S.2.1 dX12_isIn_11 (by decide) ?_
      exact o_zret S hr hlo I f dX12_isIn_15
theorem M12_isIn (l : Launch) (D : va_G) (cy : Nat → ClassId) (b : Nat) (A : Nat → Prop) (fl : Bool) {h : PH} {x0 : Int32} {x1 : Int32} {x2 : Int32} {out : Int32 × PH} (f : F12_isIn h x0 x1 x2 = some out) : Met l yX12_isIn vX12_isIn ({ frames := 0, cells := 0, slots := 0, locals := 0 } : Room) (va_Pc [.int x0, .int x1, .int x2] (ph_B D cy b A fl h)) (va_Qi (fun (r : Int32) (u : PH) => (r, u) = out) (ph_B D cy b A fl) A) 0 0 A :=
  o_met (by decide) rfl (Nat.le_of_ble_eq_true rfl) rfl (fun p e s m below meth c S hr hlo hnm ls hl I => T12_isIn_0 S hr hlo (f) I (lv_sub hl [0, 1, 2] rfl))
def vX12_number : List Cond := .code yX12_number cX12_number 3 (some .boolean) :: TB
theorem lf12_number_172 : Fl vX12_number RX12 172 12 8 := ⟨RX12, TX12, 87, rfl, by decide, (fun w h9 => List.mem_cons_of_mem _ (wC_wsX120 w h9)), (List.mem_cons_of_mem _ wT_26_20)⟩
theorem lf12_number_183 : Fl vX12_number RX12 183 12 9 := ⟨RX12, TX12, 87, rfl, by decide, (fun w h9 => List.mem_cons_of_mem _ (wC_wsX120 w h9)), (List.mem_cons_of_mem _ wT_27_2)⟩
theorem gX12_number_X12_isIn : GoodIn vX12_number (va_wsS RX12 199 yX12_isIn vX12_isIn) := gS_of wT_28_17 wT_28_18 wT_1_5 wT_28_19
theorem lp12_number_203 : Pl vX12_number RX12 203 12 11 .int := ⟨RX12, TX12, 87, tyX12, rfl, by decide, (fun w h9 => List.mem_cons_of_mem _ (wC_wsX120 w h9)), (List.mem_cons_of_mem _ wT_28_12), tyX12_ok, nmX12, rfl, rfl⟩
theorem gX12_number_X12_token : GoodIn vX12_number (wsV RX12 206 RX12 yX12_token vX12_token) := gV_of wT_26_21 wT_26_22 wT_26_23 wT_1_5 wT_27_0
theorem gX12_number_X12_wrong : GoodIn vX12_number (wsV RX12 196 RX12 yX12_wrong vX12_wrong) := gV_of wT_28_4 wT_28_5 wT_28_6 wT_1_5 wT_28_7
theorem cd12_number : Cd yX12_number 2 := ⟨by decide, by decide, by decide +kernel⟩
set_option maxHeartbeats 4000000 in
set_option maxRecDepth 100000 in
theorem T12_number_0 (S : CallFix p m c cX12_number 3 s args vX12_number RX12) (hr : meth.sig.returnType = (some .boolean)) (hlo : meth.locks = false) {out : Int32 × PH} {h : PH} {a0 : Nat} {x1 : Int32} {x2 : Int32} (f : F12_number_0  h a0 x1 x2 = some out) {H : Heap} {locs : List Loc} (I : ph_I D cy b A fl h s H locs) {ls : Array Slot} (hl : lv_has ls 3 [(0, .ref (b + a0)), (1, .int x1), (2, .int x2)]) : W p l e ({ frames := 2, cells := 0, slots := 0, locals := 47 } : Room) s m args below meth c H locs 0 0 (MQ below (va_Qi (fun (r : Int32) (u : PH) => (r, u) = out) (ph_B D cy b A fl) A) args s 0 0 A) (F0 m 0 ls []) := by
  unfold F12_number_0 at f
  refine lv_aload_n S.1 S.2.1 dX12_number_0 rfl (lv_at hl 0 rfl) ?_
  obtain ⟨v1, e2, f⟩ := ob f
  refine o_gI S lf12_number_172 I e2 dX12_number_1 ?_
  refine lv_iconst (v := 3) S.1 S.2.1 dX12_number_4 (by decide) ?_
  refine lv_icmp_eq (tgt := 14) S.1 S.2.1 dX12_number_5 (by decide) (fun q3 => ?_) (fun q3 => ?_)
  · have f := (if_pos q3).symm.trans f
    refine lv_aload_n S.1 S.2.1 dX12_number_14 rfl (lv_at hl 0 rfl) ?_
    obtain ⟨v4, e5, f⟩ := ob f
    refine o_gI S lf12_number_183 I e5 dX12_number_15 ?_
    refine lv_iload_n S.1 S.2.1 dX12_number_18 rfl (lv_at hl 1 rfl) ?_
    refine lv_iload_n S.1 S.2.1 dX12_number_19 rfl (lv_at hl 2 rfl) ?_
    obtain ⟨o6, e7, f⟩ := ob f
    refine o_Si S (As := [.int v4, .int x1, .int x2]) (rest := []) (M12_isIn l D cy b A fl e7) gX12_number_X12_isIn rfl rfl rfl cd12_isIn ⟨Nat.le_of_ble_eq_true rfl, Nat.le_of_ble_eq_true rfl⟩ I rfl hl.1 rfl (Nat.le_of_ble_eq_true rfl) dX12_number_20 ⟨Nat.le_of_ble_eq_true rfl, Nat.le_of_ble_eq_true rfl⟩ (fun H locs I => ?_)
    refine lv_if_ne (tgt := 32) S.1 S.2.1 dX12_number_23 (by decide) (fun q8 => ?_) (fun q8 => ?_)
    · have f := (if_neg q8).symm.trans f
      refine lv_aload_n S.1 S.2.1 dX12_number_32 rfl (lv_at hl 0 rfl) ?_
      refine lv_aload_n S.1 S.2.1 dX12_number_33 rfl (lv_at hl 0 rfl) ?_
      obtain ⟨v9, e10, f⟩ := ob f
      refine o_gI S lf12_number_183 I e10 dX12_number_34 ?_
      obtain ⟨h11, e12, f⟩ := ob f
      refine o_pI S lp12_number_203 I e12 dX12_number_37 (fun H locs I => ?_)
      refine lv_aload_n S.1 S.2.1 dX12_number_40 rfl (lv_at hl 0 rfl) ?_
      obtain ⟨o13, e14, f⟩ := ob f
      refine o_Vv S (As := []) (rest := []) (ci := 12) (M12_token l D cy b A fl e14) gX12_number_X12_token rfl rfl rfl cd12_token ⟨Nat.le_of_ble_eq_true rfl, Nat.le_of_ble_eq_true rfl⟩ I (gd e14).1 clX12 rfl rfl hl.1 rfl (Nat.le_of_ble_eq_true rfl) dX12_number_41 ⟨Nat.le_of_ble_eq_true rfl, Nat.le_of_ble_eq_true rfl⟩ (fun H locs I => ?_)
      refine lv_iconst (v := 1) S.1 S.2.1 dX12_number_44 (by decide) ?_
      exact o_zret S hr hlo I f dX12_number_45
    · have f := (if_pos q8).symm.trans f
      refine lv_aload_n S.1 S.2.1 dX12_number_26 rfl (lv_at hl 0 rfl) ?_
      refine lv_iconst (v := 2) S.1 S.2.1 dX12_number_27 (by decide) ?_
      obtain ⟨o15, e16, f⟩ := ob f
      refine o_Vi S (As := [.int 2]) (rest := []) (ci := 12) (M12_wrong l D cy b A fl e16) gX12_number_X12_wrong rfl rfl rfl cd12_wrong ⟨Nat.le_of_ble_eq_true rfl, Nat.le_of_ble_eq_true rfl⟩ I (gd e16).1 clX12 rfl rfl hl.1 rfl (Nat.le_of_ble_eq_true rfl) dX12_number_28 ⟨Nat.le_of_ble_eq_true rfl, Nat.le_of_ble_eq_true rfl⟩ (fun H locs I => ?_)
      exact o_zret S hr hlo I f dX12_number_31
  · have f := (if_neg q3).symm.trans f
    refine lv_aload_n S.1 S.2.1 dX12_number_8 rfl (lv_at hl 0 rfl) ?_
    refine lv_iconst (v := 1) S.1 S.2.1 dX12_number_9 (by decide) ?_
    obtain ⟨o17, e18, f⟩ := ob f
    refine o_Vi S (As := [.int 1]) (rest := []) (ci := 12) (M12_wrong l D cy b A fl e18) gX12_number_X12_wrong rfl rfl rfl cd12_wrong ⟨Nat.le_of_ble_eq_true rfl, Nat.le_of_ble_eq_true rfl⟩ I (gd e18).1 clX12 rfl rfl hl.1 rfl (Nat.le_of_ble_eq_true rfl) dX12_number_10 ⟨Nat.le_of_ble_eq_true rfl, Nat.le_of_ble_eq_true rfl⟩ (fun H locs I => ?_)
    exact o_zret S hr hlo I f dX12_number_13
theorem M12_number (l : Launch) (D : va_G) (cy : Nat → ClassId) (b : Nat) (A : Nat → Prop) (fl : Bool) {h : PH} {a0 : Nat} {x1 : Int32} {x2 : Int32} {out : Int32 × PH} (f : F12_number h a0 x1 x2 = some out) : Met l yX12_number vX12_number ({ frames := 2, cells := 0, slots := 0, locals := 47 } : Room) (va_Pc [.ref (b + a0), .int x1, .int x2] (ph_B D cy b A fl h)) (va_Qi (fun (r : Int32) (u : PH) => (r, u) = out) (ph_B D cy b A fl) A) 0 0 A :=
  o_met (by decide) rfl (Nat.le_of_ble_eq_true rfl) rfl (fun p e s m below meth c S hr hlo hnm ls hl I => T12_number_0 S hr hlo ((gd f).2) I (lv_sub hl [0, 1, 2] rfl))
def vX12_bankLine : List Cond := .code yX12_bankLine cX12_bankLine 1 (some .boolean) :: TB
theorem gX12_bankLine_X12_token : GoodIn vX12_bankLine (wsV RX12 206 RX12 yX12_token vX12_token) := gV_of wT_26_21 wT_26_22 wT_26_23 wT_1_5 wT_27_0
theorem gX12_bankLine_X12_number : GoodIn vX12_bankLine (wsV RX12 212 RX12 yX12_number vX12_number) := gV_of wT_28_13 wT_28_14 wT_28_15 wT_1_5 wT_28_16
theorem lf12_bankLine_24 : Fl vX12_bankLine RX12 24 12 26 := ⟨RX12, TX12, 87, rfl, by decide, (fun w h9 => List.mem_cons_of_mem _ (wC_wsX120 w h9)), (List.mem_cons_of_mem _ wT_10_1)⟩
theorem lf12_bankLine_203 : Fl vX12_bankLine RX12 203 12 11 := ⟨RX12, TX12, 87, rfl, by decide, (fun w h9 => List.mem_cons_of_mem _ (wC_wsX120 w h9)), (List.mem_cons_of_mem _ wT_28_12)⟩
theorem cd12_bankLine : Cd yX12_bankLine 0 := ⟨by decide, by decide, by decide +kernel⟩
set_option maxHeartbeats 4000000 in
set_option maxRecDepth 100000 in
theorem T12_bankLine_0 (S : CallFix p m c cX12_bankLine 1 s args vX12_bankLine RX12) (hr : meth.sig.returnType = (some .boolean)) (hlo : meth.locks = false) {out : Int32 × PH} {h : PH} {a0 : Nat} (f : F12_bankLine_0  h a0 = some out) {H : Heap} {locs : List Loc} (I : ph_I D cy b A fl h s H locs) {ls : Array Slot} (hl : lv_has ls 1 [(0, .ref (b + a0))]) : W p l e ({ frames := 3, cells := 0, slots := 0, locals := 69 } : Room) s m args below meth c H locs 0 0 (MQ below (va_Qi (fun (r : Int32) (u : PH) => (r, u) = out) (ph_B D cy b A fl) A) args s 0 0 A) (F0 m 0 ls []) := by
  unfold F12_bankLine_0 at f
  refine lv_aload_n S.1 S.2.1 dX12_bankLine_0 rfl (lv_at hl 0 rfl) ?_
  obtain ⟨o1, e2, f⟩ := ob f
  refine o_Vv S (As := []) (rest := []) (ci := 12) (M12_token l D cy b A fl e2) gX12_bankLine_X12_token rfl rfl rfl cd12_token ⟨Nat.le_of_ble_eq_true rfl, Nat.le_of_ble_eq_true rfl⟩ I (gd e2).1 clX12 rfl rfl hl.1 rfl (Nat.le_of_ble_eq_true rfl) dX12_bankLine_1 ⟨Nat.le_of_ble_eq_true rfl, Nat.le_of_ble_eq_true rfl⟩ (fun H locs I => ?_)
  refine lv_aload_n S.1 S.2.1 dX12_bankLine_4 rfl (lv_at hl 0 rfl) ?_
  refine lv_iconst (v := 1) S.1 S.2.1 dX12_bankLine_5 (by decide) ?_
  refine lv_bipush (v := 20) S.1 S.2.1 dX12_bankLine_6 (by decide) ?_
  obtain ⟨o3, e4, f⟩ := ob f
  refine o_Vi S (As := [.int 1, .int 20]) (rest := []) (ci := 12) (M12_number l D cy b A fl e4) gX12_bankLine_X12_number rfl rfl rfl cd12_number ⟨Nat.le_of_ble_eq_true rfl, Nat.le_of_ble_eq_true rfl⟩ I (gd e4).1 clX12 rfl rfl hl.1 rfl (Nat.le_of_ble_eq_true rfl) dX12_bankLine_8 ⟨Nat.le_of_ble_eq_true rfl, Nat.le_of_ble_eq_true rfl⟩ (fun H locs I => ?_)
  refine lv_if_ne (tgt := 16) S.1 S.2.1 dX12_bankLine_11 (by decide) (fun q5 => ?_) (fun q5 => ?_)
  · have f := (if_neg q5).symm.trans f
    refine lv_aload_n S.1 S.2.1 dX12_bankLine_16 rfl (lv_at hl 0 rfl) ?_
    obtain ⟨r6, e7, f⟩ := ob f
    refine o_gR S lf12_bankLine_24 I e7 dX12_bankLine_17 ?_
    refine lv_bipush (v := 9) S.1 S.2.1 dX12_bankLine_20 (by decide) ?_
    refine lv_aload_n S.1 S.2.1 dX12_bankLine_22 rfl (lv_at hl 0 rfl) ?_
    obtain ⟨v8, e9, f⟩ := ob f
    refine o_gI S lf12_bankLine_203 I e9 dX12_bankLine_23 ?_
    obtain ⟨h11, e10, f⟩ := ob f
    refine o_iast S I e10 dX12_bankLine_26 (fun H locs I => ?_)
    refine lv_aload_n S.1 S.2.1 dX12_bankLine_27 rfl (lv_at hl 0 rfl) ?_
    refine lv_iconst (v := 1) S.1 S.2.1 dX12_bankLine_28 (by decide) ?_
    refine lv_bipush (v := 20) S.1 S.2.1 dX12_bankLine_29 (by decide) ?_
    obtain ⟨o12, e13, f⟩ := ob f
    refine o_Vi S (As := [.int 1, .int 20]) (rest := []) (ci := 12) (M12_number l D cy b A fl e13) gX12_bankLine_X12_number rfl rfl rfl cd12_number ⟨Nat.le_of_ble_eq_true rfl, Nat.le_of_ble_eq_true rfl⟩ I (gd e13).1 clX12 rfl rfl hl.1 rfl (Nat.le_of_ble_eq_true rfl) dX12_bankLine_31 ⟨Nat.le_of_ble_eq_true rfl, Nat.le_of_ble_eq_true rfl⟩ (fun H locs I => ?_)
    refine lv_if_ne (tgt := 39) S.1 S.2.1 dX12_bankLine_34 (by decide) (fun q14 => ?_) (fun q14 => ?_)
    · have f := (if_neg q14).symm.trans f
      refine lv_aload_n S.1 S.2.1 dX12_bankLine_39 rfl (lv_at hl 0 rfl) ?_
      obtain ⟨r15, e16, f⟩ := ob f
      refine o_gR S lf12_bankLine_24 I e16 dX12_bankLine_40 ?_
      refine lv_bipush (v := 10) S.1 S.2.1 dX12_bankLine_43 (by decide) ?_
      refine lv_aload_n S.1 S.2.1 dX12_bankLine_45 rfl (lv_at hl 0 rfl) ?_
      obtain ⟨v17, e18, f⟩ := ob f
      refine o_gI S lf12_bankLine_203 I e18 dX12_bankLine_46 ?_
      obtain ⟨h20, e19, f⟩ := ob f
      refine o_iast S I e19 dX12_bankLine_49 (fun H locs I => ?_)
      refine lv_aload_n S.1 S.2.1 dX12_bankLine_50 rfl (lv_at hl 0 rfl) ?_
      refine lv_iconst (v := 1) S.1 S.2.1 dX12_bankLine_51 (by decide) ?_
      refine lv_bipush (v := 9) S.1 S.2.1 dX12_bankLine_52 (by decide) ?_
      obtain ⟨o21, e22, f⟩ := ob f
      refine o_Vi S (As := [.int 1, .int 9]) (rest := []) (ci := 12) (M12_number l D cy b A fl e22) gX12_bankLine_X12_number rfl rfl rfl cd12_number ⟨Nat.le_of_ble_eq_true rfl, Nat.le_of_ble_eq_true rfl⟩ I (gd e22).1 clX12 rfl rfl hl.1 rfl (Nat.le_of_ble_eq_true rfl) dX12_bankLine_54 ⟨Nat.le_of_ble_eq_true rfl, Nat.le_of_ble_eq_true rfl⟩ (fun H locs I => ?_)
      refine lv_if_ne (tgt := 62) S.1 S.2.1 dX12_bankLine_57 (by decide) (fun q23 => ?_) (fun q23 => ?_)
      · have f := (if_neg q23).symm.trans f
        refine lv_aload_n S.1 S.2.1 dX12_bankLine_62 rfl (lv_at hl 0 rfl) ?_
        obtain ⟨r24, e25, f⟩ := ob f
        refine o_gR S lf12_bankLine_24 I e25 dX12_bankLine_63 ?_
        refine lv_bipush (v := 11) S.1 S.2.1 dX12_bankLine_66 (by decide) ?_
        refine lv_aload_n S.1 S.2.1 dX12_bankLine_68 rfl (lv_at hl 0 rfl) ?_
        obtain ⟨v26, e27, f⟩ := ob f
        refine o_gI S lf12_bankLine_203 I e27 dX12_bankLine_69 ?_
        obtain ⟨h29, e28, f⟩ := ob f
        refine o_iast S I e28 dX12_bankLine_72 (fun H locs I => ?_)
        refine lv_iconst (v := 1) S.1 S.2.1 dX12_bankLine_73 (by decide) ?_
        exact o_zret S hr hlo I f dX12_bankLine_74
      · have f := (if_pos q23).symm.trans f
        refine lv_iconst (v := 0) S.1 S.2.1 dX12_bankLine_60 (by decide) ?_
        exact o_zret S hr hlo I f dX12_bankLine_61
    · have f := (if_pos q14).symm.trans f
      refine lv_iconst (v := 0) S.1 S.2.1 dX12_bankLine_37 (by decide) ?_
      exact o_zret S hr hlo I f dX12_bankLine_38
  · have f := (if_pos q5).symm.trans f
    refine lv_iconst (v := 0) S.1 S.2.1 dX12_bankLine_14 (by decide) ?_
    exact o_zret S hr hlo I f dX12_bankLine_15
theorem M12_bankLine (l : Launch) (D : va_G) (cy : Nat → ClassId) (b : Nat) (A : Nat → Prop) (fl : Bool) {h : PH} {a0 : Nat} {out : Int32 × PH} (f : F12_bankLine h a0 = some out) : Met l yX12_bankLine vX12_bankLine ({ frames := 3, cells := 0, slots := 0, locals := 69 } : Room) (va_Pc [.ref (b + a0)] (ph_B D cy b A fl h)) (va_Qi (fun (r : Int32) (u : PH) => (r, u) = out) (ph_B D cy b A fl) A) 0 0 A :=
  o_met (by decide) rfl (Nat.le_of_ble_eq_true rfl) rfl (fun p e s m below meth c S hr hlo hnm ls hl I => T12_bankLine_0 S hr hlo ((gd f).2) I (lv_sub hl [0] rfl))
def vX12_begin : List Cond := .code yX12_begin cX12_begin 2 none :: TB
theorem lf12_begin_106 : Fl vX12_begin RX12 106 12 61 := ⟨RX12, TX12, 87, rfl, by decide, (fun w h9 => List.mem_cons_of_mem _ (wC_wsX120 w h9)), (List.mem_cons_of_mem _ wT_11_4)⟩
theorem lf12_begin_109 : Fl vX12_begin RX12 109 12 62 := ⟨RX12, TX12, 87, rfl, by decide, (fun w h9 => List.mem_cons_of_mem _ (wC_wsX120 w h9)), (List.mem_cons_of_mem _ wT_11_5)⟩
theorem lf12_begin_112 : Fl vX12_begin RX12 112 12 63 := ⟨RX12, TX12, 87, rfl, by decide, (fun w h9 => List.mem_cons_of_mem _ (wC_wsX120 w h9)), (List.mem_cons_of_mem _ wT_11_6)⟩
theorem lf12_begin_24 : Fl vX12_begin RX12 24 12 26 := ⟨RX12, TX12, 87, rfl, by decide, (fun w h9 => List.mem_cons_of_mem _ (wC_wsX120 w h9)), (List.mem_cons_of_mem _ wT_10_1)⟩
theorem lp12_begin_369 : Pl vX12_begin RX12 369 12 64 .int := ⟨RX12, TX12, 87, tyX12, rfl, by decide, (fun w h9 => List.mem_cons_of_mem _ (wC_wsX120 w h9)), (List.mem_cons_of_mem _ wT_12_23), tyX12_ok, nmX12, rfl, rfl⟩
theorem lp12_begin_372 : Pl vX12_begin RX12 372 12 65 .long := ⟨RX12, TX12, 87, tyX12, rfl, by decide, (fun w h9 => List.mem_cons_of_mem _ (wC_wsX120 w h9)), (List.mem_cons_of_mem _ wT_13_0), tyX12_ok, nmX12, rfl, rfl⟩
theorem lp12_begin_115 : Pl vX12_begin RX12 115 12 66 .int := ⟨RX12, TX12, 87, tyX12, rfl, by decide, (fun w h9 => List.mem_cons_of_mem _ (wC_wsX120 w h9)), (List.mem_cons_of_mem _ wT_11_7), tyX12_ok, nmX12, rfl, rfl⟩
theorem lp12_begin_376 : Pl vX12_begin RX12 376 12 74 .int := ⟨RX12, TX12, 87, tyX12, rfl, by decide, (fun w h9 => List.mem_cons_of_mem _ (wC_wsX120 w h9)), (List.mem_cons_of_mem _ wT_13_1), tyX12_ok, nmX12, rfl, rfl⟩
theorem lp12_begin_133 : Pl vX12_begin RX12 133 12 75 .int := ⟨RX12, TX12, 87, tyX12, rfl, by decide, (fun w h9 => List.mem_cons_of_mem _ (wC_wsX120 w h9)), (List.mem_cons_of_mem _ wT_11_13), tyX12_ok, nmX12, rfl, rfl⟩
theorem lp12_begin_379 : Pl vX12_begin RX12 379 12 78 .int := ⟨RX12, TX12, 87, tyX12, rfl, by decide, (fun w h9 => List.mem_cons_of_mem _ (wC_wsX120 w h9)), (List.mem_cons_of_mem _ wT_13_2), tyX12_ok, nmX12, rfl, rfl⟩
theorem lp12_begin_382 : Pl vX12_begin RX12 382 12 80 .boolean := ⟨RX12, TX12, 87, tyX12, rfl, by decide, (fun w h9 => List.mem_cons_of_mem _ (wC_wsX120 w h9)), (List.mem_cons_of_mem _ wT_13_3), tyX12_ok, nmX12, rfl, rfl⟩
theorem lf12_begin_103 : Fl vX12_begin RX12 103 12 60 := ⟨RX12, TX12, 87, rfl, by decide, (fun w h9 => List.mem_cons_of_mem _ (wC_wsX120 w h9)), (List.mem_cons_of_mem _ wT_11_3)⟩
theorem lf12_begin_88 : Fl vX12_begin RX12 88 12 55 := ⟨RX12, TX12, 87, rfl, by decide, (fun w h9 => List.mem_cons_of_mem _ (wC_wsX120 w h9)), (List.mem_cons_of_mem _ wT_10_22)⟩
theorem lf12_begin_30 : Fl vX12_begin RX12 30 12 28 := ⟨RX12, TX12, 87, rfl, by decide, (fun w h9 => List.mem_cons_of_mem _ (wC_wsX120 w h9)), (List.mem_cons_of_mem _ wT_10_3)⟩
theorem lf12_begin_91 : Fl vX12_begin RX12 91 12 56 := ⟨RX12, TX12, 87, rfl, by decide, (fun w h9 => List.mem_cons_of_mem _ (wC_wsX120 w h9)), (List.mem_cons_of_mem _ wT_10_23)⟩
theorem lf12_begin_94 : Fl vX12_begin RX12 94 12 57 := ⟨RX12, TX12, 87, rfl, by decide, (fun w h9 => List.mem_cons_of_mem _ (wC_wsX120 w h9)), (List.mem_cons_of_mem _ wT_11_0)⟩
theorem lf12_begin_97 : Fl vX12_begin RX12 97 12 58 := ⟨RX12, TX12, 87, rfl, by decide, (fun w h9 => List.mem_cons_of_mem _ (wC_wsX120 w h9)), (List.mem_cons_of_mem _ wT_11_1)⟩
theorem lf12_begin_100 : Fl vX12_begin RX12 100 12 59 := ⟨RX12, TX12, 87, rfl, by decide, (fun w h9 => List.mem_cons_of_mem _ (wC_wsX120 w h9)), (List.mem_cons_of_mem _ wT_11_2)⟩
theorem lf12_begin_36 : Fl vX12_begin RX12 36 12 30 := ⟨RX12, TX12, 87, rfl, by decide, (fun w h9 => List.mem_cons_of_mem _ (wC_wsX120 w h9)), (List.mem_cons_of_mem _ wT_10_5)⟩
theorem cd12_begin : Cd yX12_begin 0 := ⟨by decide, by decide, by decide +kernel⟩
set_option maxHeartbeats 4000000 in
set_option maxRecDepth 100000 in
theorem T12_begin_60 (S : CallFix p m c cX12_begin 2 s args vX12_begin RX12) (hr : meth.sig.returnType = none) (hlo : meth.locks = false) {out : PH} : ∀ (n : Nat) {h : PH} {a0 : Nat} {x1 : Int32} (f : F12_begin_60  n h a0 x1 = some out) {H : Heap} {locs : List Loc} (I : ph_I D cy b A fl h s H locs) {ls : Array Slot} (hl : lv_has ls 2 [(0, .ref (b + a0)), (1, .int x1)]), W p l e ({ frames := 0, cells := 0, slots := 0, locals := 0 } : Room) s m args below meth c H locs 0 0 (MQ below (va_Qv (fun (u : PH) => u = out) (ph_B D cy b A fl) A) args s 0 0 A) (F0 m 60 ls []) := by
  intro n
  induction n with
  | zero => intro h a0 x1 f; rw [F12_begin_60] at f; cases f
  | succ n ih =>
    intro h a0 x1 f H locs I ls hl
    rw [F12_begin_60] at f
    refine lv_iload_n S.1 S.2.1 dX12_begin_60 rfl (lv_at hl 1 rfl) ?_
    refine lv_bipush (v := 28) S.1 S.2.1 dX12_begin_61 (by decide) ?_
    refine lv_icmp_ge (tgt := 80) S.1 S.2.1 dX12_begin_63 (by decide) (fun q1 => ?_) (fun q1 => ?_)
    · have f := (if_pos q1).symm.trans f
      refine lv_aload_n S.1 S.2.1 dX12_begin_80 rfl (lv_at hl 0 rfl) ?_
      obtain ⟨r2, e3, f⟩ := ob f
      refine o_gR S lf12_begin_106 I e3 dX12_begin_81 ?_
      refine lv_iconst (v := 0) S.1 S.2.1 dX12_begin_84 (by decide) ?_
      refine lv_iconst (v := 0) S.1 S.2.1 dX12_begin_85 (by decide) ?_
      obtain ⟨h5, e4, f⟩ := ob f
      refine o_iast S I e4 dX12_begin_86 (fun H locs I => ?_)
      refine lv_aload_n S.1 S.2.1 dX12_begin_87 rfl (lv_at hl 0 rfl) ?_
      obtain ⟨r6, e7, f⟩ := ob f
      refine o_gR S lf12_begin_109 I e7 dX12_begin_88 ?_
      refine lv_iconst (v := 0) S.1 S.2.1 dX12_begin_91 (by decide) ?_
      refine lv_iconst (v := 0) S.1 S.2.1 dX12_begin_92 (by decide) ?_
      obtain ⟨h9, e8, f⟩ := ob f
      refine o_iast S I e8 dX12_begin_93 (fun H locs I => ?_)
      refine lv_aload_n S.1 S.2.1 dX12_begin_94 rfl (lv_at hl 0 rfl) ?_
      obtain ⟨r10, e11, f⟩ := ob f
      refine o_gR S lf12_begin_112 I e11 dX12_begin_95 ?_
      refine lv_iconst (v := 0) S.1 S.2.1 dX12_begin_98 (by decide) ?_
      refine lv_iconst (v := 0) S.1 S.2.1 dX12_begin_99 (by decide) ?_
      obtain ⟨h13, e12, f⟩ := ob f
      refine o_iast S I e12 dX12_begin_100 (fun H locs I => ?_)
      refine lv_aload_n S.1 S.2.1 dX12_begin_101 rfl (lv_at hl 0 rfl) ?_
      refine lv_aload_n S.1 S.2.1 dX12_begin_102 rfl (lv_at hl 0 rfl) ?_
      obtain ⟨r14, e15, f⟩ := ob f
      refine o_gR S lf12_begin_24 I e15 dX12_begin_103 ?_
      refine lv_iconst (v := 5) S.1 S.2.1 dX12_begin_106 (by decide) ?_
      obtain ⟨v17, e16, f⟩ := ob f
      refine o_iald S I e16 dX12_begin_107 ?_
      obtain ⟨h18, e19, f⟩ := ob f
      refine o_pI S lp12_begin_369 I e19 dX12_begin_108 (fun H locs I => ?_)
      refine lv_aload_n S.1 S.2.1 dX12_begin_111 rfl (lv_at hl 0 rfl) ?_
      refine lv_aload_n S.1 S.2.1 dX12_begin_112 rfl (lv_at hl 0 rfl) ?_
      obtain ⟨r20, e21, f⟩ := ob f
      refine o_gR S lf12_begin_24 I e21 dX12_begin_113 ?_
      refine lv_bipush (v := 6) S.1 S.2.1 dX12_begin_116 (by decide) ?_
      obtain ⟨v23, e22, f⟩ := ob f
      refine o_iald S I e22 dX12_begin_118 ?_
      refine lv_i2l (v := Int32.toInt64 v23) S.1 S.2.1 dX12_begin_119 rfl ?_
      obtain ⟨h24, e25, f⟩ := ob f
      refine o_pJ S lp12_begin_372 I e25 dX12_begin_120 (fun H locs I => ?_)
      refine lv_aload_n S.1 S.2.1 dX12_begin_123 rfl (lv_at hl 0 rfl) ?_
      refine lv_iconst (v := (-1)) S.1 S.2.1 dX12_begin_124 (by decide) ?_
      obtain ⟨h26, e27, f⟩ := ob f
      refine o_pI S lp12_begin_115 I e27 dX12_begin_125 (fun H locs I => ?_)
      refine lv_aload_n S.1 S.2.1 dX12_begin_128 rfl (lv_at hl 0 rfl) ?_
      refine lv_iconst (v := 0) S.1 S.2.1 dX12_begin_129 (by decide) ?_
      obtain ⟨h28, e29, f⟩ := ob f
      refine o_pI S lp12_begin_376 I e29 dX12_begin_130 (fun H locs I => ?_)
      refine lv_aload_n S.1 S.2.1 dX12_begin_133 rfl (lv_at hl 0 rfl) ?_
      refine lv_iconst (v := (-1)) S.1 S.2.1 dX12_begin_134 (by decide) ?_
      obtain ⟨h30, e31, f⟩ := ob f
      refine o_pI S lp12_begin_133 I e31 dX12_begin_135 (fun H locs I => ?_)
      refine lv_aload_n S.1 S.2.1 dX12_begin_138 rfl (lv_at hl 0 rfl) ?_
      refine lv_iconst (v := 0) S.1 S.2.1 dX12_begin_139 (by decide) ?_
      obtain ⟨h32, e33, f⟩ := ob f
      refine o_pI S lp12_begin_379 I e33 dX12_begin_140 (fun H locs I => ?_)
      refine lv_aload_n S.1 S.2.1 dX12_begin_143 rfl (lv_at hl 0 rfl) ?_
      refine lv_iconst (v := 0) S.1 S.2.1 dX12_begin_144 (by decide) ?_
      obtain ⟨h34, e35, f⟩ := ob f
      refine o_pZ S lp12_begin_382 I e35 dX12_begin_145 (fun H locs I => ?_)
      exact o_vret S hr hlo I f dX12_begin_148
    · have f := (if_neg q1).symm.trans f
      refine lv_aload_n S.1 S.2.1 dX12_begin_66 rfl (lv_at hl 0 rfl) ?_
      obtain ⟨r36, e37, f⟩ := ob f
      refine o_gR S lf12_begin_103 I e37 dX12_begin_67 ?_
      refine lv_iload_n S.1 S.2.1 dX12_begin_70 rfl (lv_at hl 1 rfl) ?_
      refine lv_bipush (v := (-2)) S.1 S.2.1 dX12_begin_71 (by decide) ?_
      obtain ⟨h39, e38, f⟩ := ob f
      refine o_iast S I e38 dX12_begin_73 (fun H locs I => ?_)
      refine lv_iinc (v := (x1 + 1)) (lv' := [(1, .int (x1 + 1)), (0, .ref (b + a0))]) S.1 S.2.1 dX12_begin_74 hl (k := 1) rfl (congrArg (fun z => x1 + z) (by decide)) (by decide) rfl (fun ls hl => ?_)
      refine lv_goto (tgt := 60) S.1 S.2.1 dX12_begin_77 (by decide) ?_
      exact ih f I (lv_sub hl [1, 0] rfl)
set_option maxHeartbeats 4000000 in
set_option maxRecDepth 100000 in
theorem T12_begin_2 (S : CallFix p m c cX12_begin 2 s args vX12_begin RX12) (hr : meth.sig.returnType = none) (hlo : meth.locks = false) {out : PH} : ∀ (n : Nat) {h : PH} {a0 : Nat} {x1 : Int32} (f : F12_begin_2  n h a0 x1 = some out) {H : Heap} {locs : List Loc} (I : ph_I D cy b A fl h s H locs) {ls : Array Slot} (hl : lv_has ls 2 [(0, .ref (b + a0)), (1, .int x1)]), W p l e ({ frames := 0, cells := 0, slots := 0, locals := 0 } : Room) s m args below meth c H locs 0 0 (MQ below (va_Qv (fun (u : PH) => u = out) (ph_B D cy b A fl) A) args s 0 0 A) (F0 m 2 ls []) := by
  intro n
  induction n with
  | zero => intro h a0 x1 f; rw [F12_begin_2] at f; cases f
  | succ n ih =>
    intro h a0 x1 f H locs I ls hl
    rw [F12_begin_2] at f
    refine lv_iload_n S.1 S.2.1 dX12_begin_2 rfl (lv_at hl 1 rfl) ?_
    refine lv_iconst (v := 5) S.1 S.2.1 dX12_begin_3 (by decide) ?_
    refine lv_icmp_ge (tgt := 58) S.1 S.2.1 dX12_begin_4 (by decide) (fun q1 => ?_) (fun q1 => ?_)
    · have f := (if_pos q1).symm.trans f
      refine lv_iconst (v := 0) S.1 S.2.1 dX12_begin_58 (by decide) ?_
      refine lv_istore_n (lv' := [(1, .int 0), (0, .ref (b + a0))]) S.1 S.2.1 dX12_begin_59 rfl hl (by decide) rfl (fun ls hl => ?_)
      exact T12_begin_60 S hr hlo  1024 f I (lv_sub hl [1, 0] rfl)
    · have f := (if_neg q1).symm.trans f
      refine lv_aload_n S.1 S.2.1 dX12_begin_7 rfl (lv_at hl 0 rfl) ?_
      obtain ⟨r2, e3, f⟩ := ob f
      refine o_gR S lf12_begin_88 I e3 dX12_begin_8 ?_
      refine lv_iload_n S.1 S.2.1 dX12_begin_11 rfl (lv_at hl 1 rfl) ?_
      refine lv_aload_n S.1 S.2.1 dX12_begin_12 rfl (lv_at hl 0 rfl) ?_
      obtain ⟨r4, e5, f⟩ := ob f
      refine o_gR S lf12_begin_30 I e5 dX12_begin_13 ?_
      refine lv_iload_n S.1 S.2.1 dX12_begin_16 rfl (lv_at hl 1 rfl) ?_
      obtain ⟨v7, e6, f⟩ := ob f
      refine o_iald S I e6 dX12_begin_17 ?_
      obtain ⟨h9, e8, f⟩ := ob f
      refine o_iast S I e8 dX12_begin_18 (fun H locs I => ?_)
      refine lv_aload_n S.1 S.2.1 dX12_begin_19 rfl (lv_at hl 0 rfl) ?_
      obtain ⟨r10, e11, f⟩ := ob f
      refine o_gR S lf12_begin_91 I e11 dX12_begin_20 ?_
      refine lv_iload_n S.1 S.2.1 dX12_begin_23 rfl (lv_at hl 1 rfl) ?_
      refine lv_iconst (v := 0) S.1 S.2.1 dX12_begin_24 (by decide) ?_
      obtain ⟨h13, e12, f⟩ := ob f
      refine o_iast S I e12 dX12_begin_25 (fun H locs I => ?_)
      refine lv_aload_n S.1 S.2.1 dX12_begin_26 rfl (lv_at hl 0 rfl) ?_
      obtain ⟨r14, e15, f⟩ := ob f
      refine o_gR S lf12_begin_94 I e15 dX12_begin_27 ?_
      refine lv_iload_n S.1 S.2.1 dX12_begin_30 rfl (lv_at hl 1 rfl) ?_
      refine lv_iconst (v := 0) S.1 S.2.1 dX12_begin_31 (by decide) ?_
      obtain ⟨h17, e16, f⟩ := ob f
      refine o_iast S I e16 dX12_begin_32 (fun H locs I => ?_)
      refine lv_aload_n S.1 S.2.1 dX12_begin_33 rfl (lv_at hl 0 rfl) ?_
      obtain ⟨r18, e19, f⟩ := ob f
      refine o_gR S lf12_begin_97 I e19 dX12_begin_34 ?_
      refine lv_iload_n S.1 S.2.1 dX12_begin_37 rfl (lv_at hl 1 rfl) ?_
      refine lv_iconst (v := 0) S.1 S.2.1 dX12_begin_38 (by decide) ?_
      obtain ⟨h21, e20, f⟩ := ob f
      refine o_iast S I e20 dX12_begin_39 (fun H locs I => ?_)
      refine lv_aload_n S.1 S.2.1 dX12_begin_40 rfl (lv_at hl 0 rfl) ?_
      obtain ⟨r22, e23, f⟩ := ob f
      refine o_gR S lf12_begin_100 I e23 dX12_begin_41 ?_
      refine lv_iload_n S.1 S.2.1 dX12_begin_44 rfl (lv_at hl 1 rfl) ?_
      refine lv_aload_n S.1 S.2.1 dX12_begin_45 rfl (lv_at hl 0 rfl) ?_
      obtain ⟨r24, e25, f⟩ := ob f
      refine o_gR S lf12_begin_36 I e25 dX12_begin_46 ?_
      refine lv_iload_n S.1 S.2.1 dX12_begin_49 rfl (lv_at hl 1 rfl) ?_
      obtain ⟨v27, e26, f⟩ := ob f
      refine o_iald S I e26 dX12_begin_50 ?_
      obtain ⟨h29, e28, f⟩ := ob f
      refine o_iast S I e28 dX12_begin_51 (fun H locs I => ?_)
      refine lv_iinc (v := (x1 + 1)) (lv' := [(1, .int (x1 + 1)), (0, .ref (b + a0))]) S.1 S.2.1 dX12_begin_52 hl (k := 1) rfl (congrArg (fun z => x1 + z) (by decide)) (by decide) rfl (fun ls hl => ?_)
      refine lv_goto (tgt := 2) S.1 S.2.1 dX12_begin_55 (by decide) ?_
      exact ih f I (lv_sub hl [1, 0] rfl)
set_option maxHeartbeats 4000000 in
set_option maxRecDepth 100000 in
theorem T12_begin_0 (S : CallFix p m c cX12_begin 2 s args vX12_begin RX12) (hr : meth.sig.returnType = none) (hlo : meth.locks = false) {out : PH} {h : PH} {a0 : Nat} (f : F12_begin_0  h a0 = some out) {H : Heap} {locs : List Loc} (I : ph_I D cy b A fl h s H locs) {ls : Array Slot} (hl : lv_has ls 2 [(0, .ref (b + a0))]) : W p l e ({ frames := 0, cells := 0, slots := 0, locals := 0 } : Room) s m args below meth c H locs 0 0 (MQ below (va_Qv (fun (u : PH) => u = out) (ph_B D cy b A fl) A) args s 0 0 A) (F0 m 0 ls []) := by
  unfold F12_begin_0 at f
  refine lv_iconst (v := 0) S.1 S.2.1 dX12_begin_0 (by decide) ?_
  refine lv_istore_n (lv' := [(1, .int 0), (0, .ref (b + a0))]) S.1 S.2.1 dX12_begin_1 rfl hl (by decide) rfl (fun ls hl => ?_)
  exact T12_begin_2 S hr hlo  1024 f I (lv_sub hl [1, 0] rfl)
theorem M12_begin (l : Launch) (D : va_G) (cy : Nat → ClassId) (b : Nat) (A : Nat → Prop) (fl : Bool) {h : PH} {a0 : Nat} {out : PH} (f : F12_begin h a0 = some out) : Met l yX12_begin vX12_begin ({ frames := 0, cells := 0, slots := 0, locals := 0 } : Room) (va_Pc [.ref (b + a0)] (ph_B D cy b A fl h)) (va_Qv (fun (u : PH) => u = out) (ph_B D cy b A fl) A) 0 0 A :=
  o_met (by decide) rfl (Nat.le_of_ble_eq_true rfl) rfl (fun p e s m below meth c S hr hlo hnm ls hl I => T12_begin_0 S hr hlo ((gd f).2) I (lv_sub hl [0] rfl))
end
