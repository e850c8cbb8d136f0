section
variable {p : Program} {l : Launch} {e : Env} {s : State} {m : MethodId} {args : Array Value} {below : List Frame} {meth : Method} {c : Code} {D : va_G} {cy : Nat → ClassId} {b : Nat} {A : Nat → Prop} {fl : Bool}
theorem M6_nameCatch (l : Launch) (D : va_G) (cy : Nat → ClassId) (b : Nat) (A : Nat → Prop) (fl : Bool) {h : PH} {a0 : Nat} {x1 : Int32} {x2 : Int32} {x3 : Int32} {out : PH} (f : F6_nameCatch h a0 x1 x2 x3 = some out) : Met l yX6_nameCatch vX6_nameCatch ({ frames := 2, cells := 0, slots := 0, locals := 46 } : Room) (va_Pc [.ref (b + a0), .int x1, .int x2, .int x3] (ph_B D cy b A fl h)) (va_Qv (fun (u : PH) => u = out) (ph_B D cy b A fl) A) 0 0 A :=
  o_met (by decide) rfl (Nat.le_of_ble_eq_true rfl) rfl (fun p e s m below meth c S hr hlo hnm ls hl I => T6_nameCatch_0 S hr hlo ((gd f).2) I (lv_sub hl [0, 1, 2, 3] rfl))
def vX6_farOf : List Cond := .code yX6_farOf cX6_farOf 3 (some .int) :: TB
theorem lf6_farOf_9 : Fl vX6_farOf RX6 9 6 0 := ⟨RX6, TX6, 9, rfl, by decide, (fun w h9 => List.mem_cons_of_mem _ (wC_wsX60 w h9)), (List.mem_cons_of_mem _ wT_7_15)⟩
theorem lf6_farOf_22 : Fl vX6_farOf RX6 22 6 3 := ⟨RX6, TX6, 9, rfl, by decide, (fun w h9 => List.mem_cons_of_mem _ (wC_wsX60 w h9)), (List.mem_cons_of_mem _ wT_7_18)⟩
theorem gX6_farOf_X8_farFrom : GoodIn vX6_farOf (wsV RX6 108 RX8 yX8_farFrom vX8_farFrom) := gV_of wT_39_4 wT_34_4 wT_34_5 wT_1_17 wT_34_6
theorem cd6_farOf : Cd yX6_farOf 2 := ⟨by decide, by decide, by decide +kernel⟩
set_option maxHeartbeats 4000000 in
set_option maxRecDepth 100000 in
theorem T6_farOf_0 (S : CallFix p m c cX6_farOf 3 s args vX6_farOf RX6) (hr : meth.sig.returnType = (some .int)) (hlo : meth.locks = false) {out : Int32 × PH} {h : PH} {a0 : Nat} {x1 : Int32} {x2 : Int32} (f : F6_farOf_0  h a0 x1 x2 = some out) {H : Heap} {locs : List Loc} (I : ph_I D cy b A fl h s H locs) {ls : Array Slot} (hl : lv_has ls 3 [(0, .ref (b + a0)), (1, .int x1), (2, .int x2)]) : W p l e ({ frames := 2, cells := 0, slots := 0, locals := 46 } : Room) s m args below meth c H locs 0 0 (MQ below (va_Qi (fun (r : Int32) (u : PH) => (r, u) = out) (ph_B D cy b A fl) A) args s 0 0 A) (F0 m 0 ls []) := by
  unfold F6_farOf_0 at f
  refine lv_aload_n S.1 S.2.1 dX6_farOf_0 rfl (lv_at hl 0 rfl) ?_
  obtain ⟨r1, e2, f⟩ := ob f
  refine o_gR S lf6_farOf_9 I e2 dX6_farOf_1 ?_
  refine lv_iload_n S.1 S.2.1 dX6_farOf_4 rfl (lv_at hl 1 rfl) ?_
  refine lv_aload_n S.1 S.2.1 dX6_farOf_5 rfl (lv_at hl 0 rfl) ?_
  obtain ⟨r3, e4, f⟩ := ob f
  refine o_gR S lf6_farOf_22 I e4 dX6_farOf_6 ?_
  refine lv_iload_n S.1 S.2.1 dX6_farOf_9 rfl (lv_at hl 2 rfl) ?_
  obtain ⟨v6, e5, f⟩ := ob f
  refine o_iald S I e5 dX6_farOf_10 ?_
  obtain ⟨o7, e8, f⟩ := ob f
  refine o_Vi S (As := [.int x1, .int v6]) (rest := []) (ci := 8) (M8_farFrom l D cy b A fl e8) gX6_farOf_X8_farFrom rfl rfl rfl cd8_farFrom ⟨Nat.le_of_ble_eq_true rfl, Nat.le_of_ble_eq_true rfl⟩ I (gd e8).1 clX8 rfl rfl hl.1 rfl (Nat.le_of_ble_eq_true rfl) dX6_farOf_11 ⟨Nat.le_of_ble_eq_true rfl, Nat.le_of_ble_eq_true rfl⟩ (fun H locs I => ?_)
  exact o_iret S hr hlo I f dX6_farOf_14
theorem M6_farOf (l : Launch) (D : va_G) (cy : Nat → ClassId) (b : Nat) (A : Nat → Prop) (fl : Bool) {h : PH} {a0 : Nat} {x1 : Int32} {x2 : Int32} {out : Int32 × PH} (f : F6_farOf h a0 x1 x2 = some out) : Met l yX6_farOf vX6_farOf ({ frames := 2, cells := 0, slots := 0, locals := 46 } : Room) (va_Pc [.ref (b + a0), .int x1, .int x2] (ph_B D cy b A fl h)) (va_Qi (fun (r : Int32) (u : PH) => (r, u) = out) (ph_B D cy b A fl) A) 0 0 A :=
  o_met (by decide) rfl (Nat.le_of_ble_eq_true rfl) rfl (fun p e s m below meth c S hr hlo hnm ls hl I => T6_farOf_0 S hr hlo ((gd f).2) I (lv_sub hl [0, 1, 2] rfl))
def vX6_oddsAt : List Cond := .code yX6_oddsAt cX6_oddsAt 6 (some .int) :: TB
theorem gX6_oddsAt_X6_nameCatch : GoodIn vX6_oddsAt (wsV RX6 128 RX6 yX6_nameCatch vX6_nameCatch) := gV_of wT_38_17 wT_38_18 wT_38_19 wT_2_2 wT_38_20
theorem lf6_oddsAt_9 : Fl vX6_oddsAt RX6 9 6 0 := ⟨RX6, TX6, 9, rfl, by decide, (fun w h9 => List.mem_cons_of_mem _ (wC_wsX60 w h9)), (List.mem_cons_of_mem _ wT_7_15)⟩
theorem lf6_oddsAt_76 : Fl vX6_oddsAt RX6 76 8 11 := ⟨RX8, TX8, 14, rfl, by decide, (fun w h9 => List.mem_cons_of_mem _ (wC_wsX80 w h9)), (List.mem_cons_of_mem _ wT_25_7)⟩
theorem lf6_oddsAt_25 : Fl vX6_oddsAt RX6 25 6 4 := ⟨RX6, TX6, 9, rfl, by decide, (fun w h9 => List.mem_cons_of_mem _ (wC_wsX60 w h9)), (List.mem_cons_of_mem _ wT_7_19)⟩
theorem lf6_oddsAt_29 : Fl vX6_oddsAt RX6 29 6 5 := ⟨RX6, TX6, 9, rfl, by decide, (fun w h9 => List.mem_cons_of_mem _ (wC_wsX60 w h9)), (List.mem_cons_of_mem _ wT_7_20)⟩
theorem gX6_oddsAt_X2_valueFor : GoodIn vX6_oddsAt (wsV RX6 80 RX2 yX2_valueFor vX2_valueFor) := gV_of wT_25_8 wT_25_9 wT_25_10 wT_3_14 wT_25_11
theorem gX6_oddsAt_X6_farOf : GoodIn vX6_oddsAt (wsV RX6 132 RX6 yX6_farOf vX6_farOf) := gV_of wT_39_9 wT_39_10 wT_39_11 wT_2_2 wT_39_12
theorem cd6_oddsAt : Cd yX6_oddsAt 3 := ⟨by decide, by decide, by decide +kernel⟩
set_option maxHeartbeats 4000000 in
set_option maxRecDepth 100000 in
theorem T6_oddsAt_0 (S : CallFix p m c cX6_oddsAt 6 s args vX6_oddsAt RX6) (hr : meth.sig.returnType = (some .int)) (hlo : meth.locks = false) {out : Int32 × PH} {h : PH} {a0 : Nat} {x1 : Int32} {x2 : Int32} {x3 : Int32} (f : F6_oddsAt_0  h a0 x1 x2 x3 = some out) {H : Heap} {locs : List Loc} (I : ph_I D cy b A fl h s H locs) {ls : Array Slot} (hl : lv_has ls 6 [(0, .ref (b + a0)), (1, .int x1), (2, .int x2), (3, .int x3)]) : W p l e ({ frames := 3, cells := 0, slots := 0, locals := 78 } : Room) s m args below meth c H locs 0 0 (MQ below (va_Qi (fun (r : Int32) (u : PH) => (r, u) = out) (ph_B D cy b A fl) A) args s 0 0 A) (F0 m 0 ls []) := by
  unfold F6_oddsAt_0 at f
  refine lv_aload_n S.1 S.2.1 dX6_oddsAt_0 rfl (lv_at hl 0 rfl) ?_
  refine lv_iload_n S.1 S.2.1 dX6_oddsAt_1 rfl (lv_at hl 1 rfl) ?_
  refine lv_iload_n S.1 S.2.1 dX6_oddsAt_2 rfl (lv_at hl 2 rfl) ?_
  refine lv_iload_n S.1 S.2.1 dX6_oddsAt_3 rfl (lv_at hl 3 rfl) ?_
  obtain ⟨o1, e2, f⟩ := ob f
  refine o_Vv S (As := [.int x1, .int x2, .int x3]) (rest := []) (ci := 6) (M6_nameCatch l D cy b A fl e2) gX6_oddsAt_X6_nameCatch rfl rfl rfl cd6_nameCatch ⟨Nat.le_of_ble_eq_true rfl, Nat.le_of_ble_eq_true rfl⟩ I (gd e2).1 clX6 rfl rfl hl.1 rfl (Nat.le_of_ble_eq_true rfl) dX6_oddsAt_4 ⟨Nat.le_of_ble_eq_true rfl, Nat.le_of_ble_eq_true rfl⟩ (fun H locs I => ?_)
  refine lv_aload_n S.1 S.2.1 dX6_oddsAt_7 rfl (lv_at hl 0 rfl) ?_
  obtain ⟨r3, e4, f⟩ := ob f
  refine o_gR S lf6_oddsAt_9 I e4 dX6_oddsAt_8 ?_
  obtain ⟨r5, e6, f⟩ := ob f
  refine o_gR S lf6_oddsAt_76 I e6 dX6_oddsAt_11 ?_
  refine lv_iconst (v := 0) S.1 S.2.1 dX6_oddsAt_14 (by decide) ?_
  obtain ⟨r8, e7, f⟩ := ob f
  refine o_aald S I e7 dX6_oddsAt_15 ?_
  refine lv_aload_n S.1 S.2.1 dX6_oddsAt_16 rfl (lv_at hl 0 rfl) ?_
  obtain ⟨r9, e10, f⟩ := ob f
  refine o_gR S lf6_oddsAt_25 I e10 dX6_oddsAt_17 ?_
  refine lv_aload_n S.1 S.2.1 dX6_oddsAt_20 rfl (lv_at hl 0 rfl) ?_
  obtain ⟨r11, e12, f⟩ := ob f
  refine o_gR S lf6_oddsAt_29 I e12 dX6_oddsAt_21 ?_
  obtain ⟨o13, e14, f⟩ := ob f
  refine o_Vl S (As := [.ref (b + r9), .ref (b + r11)]) (rest := []) (ci := 2) (M2_valueFor l D cy b A fl e14) gX6_oddsAt_X2_valueFor rfl rfl rfl cd2_valueFor ⟨Nat.le_of_ble_eq_true rfl, Nat.le_of_ble_eq_true rfl⟩ I (gd e14).1 clX2 rfl rfl hl.1 rfl (Nat.le_of_ble_eq_true rfl) dX6_oddsAt_24 ⟨Nat.le_of_ble_eq_true rfl, Nat.le_of_ble_eq_true rfl⟩ (fun H locs I => ?_)
  refine lv_lstore (lv' := [(4, .long o13.1), (0, .ref (b + a0)), (1, .int x1), (2, .int x2), (3, .int x3)]) S.1 S.2.1 dX6_oddsAt_27 hl (by decide) rfl (fun ls hl => ?_)
  refine lv_lload S.1 S.2.1 dX6_oddsAt_29 (lv_at hl 0 rfl) ?_
  refine lv_ldc2 (v := (-9223372036854775808)) S.1 S.2.1 S.2.2.2.1 (S.2.2.2.2 _ (List.mem_cons_of_mem _ wT_24_17)) dX6_oddsAt_31 ?_
  refine W.lcmp S.1 S.2.1 dX6_oddsAt_34 ?_
  refine lv_if_ne (tgt := 55) S.1 S.2.1 dX6_oddsAt_35 (by decide) (fun q15 => ?_) (fun q15 => ?_)
  · have f := (if_neg q15).symm.trans f
    refine lv_lconst (v := 0) S.1 S.2.1 dX6_oddsAt_55 (by decide) ?_
    refine lv_ldc2 (v := 100) S.1 S.2.1 S.2.2.2.1 (S.2.2.2.2 _ (List.mem_cons_of_mem _ wT_38_16)) dX6_oddsAt_56 ?_
    refine lv_lload S.1 S.2.1 dX6_oddsAt_59 (lv_at hl 0 rfl) ?_
    refine va_mmin_long S.1 S.2.1 (by rw [S.2.2.1, hl.1]) S.2.2.2.1 (S.2.2.2.2 _ (List.mem_cons_of_mem _ wT_24_20)) (S.2.2.2.2 _ (List.mem_cons_of_mem _ wT_24_21)) (S.2.2.2.2 _ (List.mem_cons_of_mem _ wT_15_17)) (S.2.2.2.2 _ (List.mem_cons_of_mem _ wT_24_22)) (Nat.le_of_ble_eq_true rfl) (Nat.le_of_ble_eq_true rfl) (Nat.zero_le _) (Nat.zero_le _) dX6_oddsAt_61 ?_
    refine va_mmax_long S.1 S.2.1 (by rw [S.2.2.1, hl.1]) S.2.2.2.1 (S.2.2.2.2 _ (List.mem_cons_of_mem _ wT_24_23)) (S.2.2.2.2 _ (List.mem_cons_of_mem _ wT_25_0)) (S.2.2.2.2 _ (List.mem_cons_of_mem _ wT_15_17)) (S.2.2.2.2 _ (List.mem_cons_of_mem _ wT_25_1)) (Nat.le_of_ble_eq_true rfl) (Nat.le_of_ble_eq_true rfl) (Nat.zero_le _) (Nat.zero_le _) dX6_oddsAt_64 ?_
    refine lv_l2i (v := Int64.toInt32 (if (if o13.1 < (100 : Int64) then o13.1 else (100 : Int64)) < (0 : Int64) then (0 : Int64) else (if o13.1 < (100 : Int64) then o13.1 else (100 : Int64)))) S.1 S.2.1 dX6_oddsAt_67 rfl ?_
    exact o_iret S hr hlo I f dX6_oddsAt_68
  · have f := (if_pos q15).symm.trans f
    refine lv_iconst (v := 0) S.1 S.2.1 dX6_oddsAt_38 (by decide) ?_
    refine lv_bipush (v := 100) S.1 S.2.1 dX6_oddsAt_39 (by decide) ?_
    refine lv_bipush (v := 20) S.1 S.2.1 dX6_oddsAt_41 (by decide) ?_
    refine lv_aload_n S.1 S.2.1 dX6_oddsAt_43 rfl (lv_at hl 1 rfl) ?_
    refine lv_iload_n S.1 S.2.1 dX6_oddsAt_44 rfl (lv_at hl 4 rfl) ?_
    refine lv_iload_n S.1 S.2.1 dX6_oddsAt_45 rfl (lv_at hl 3 rfl) ?_
    obtain ⟨o16, e17, f⟩ := ob f
    refine o_Vi S (As := [.int x3, .int x2]) (rest := [.int 20, .int 100, .int 0]) (ci := 6) (M6_farOf l D cy b A fl e17) gX6_oddsAt_X6_farOf rfl rfl rfl cd6_farOf ⟨Nat.le_of_ble_eq_true rfl, Nat.le_of_ble_eq_true rfl⟩ I (gd e17).1 clX6 rfl rfl hl.1 rfl (Nat.le_of_ble_eq_true rfl) dX6_oddsAt_46 ⟨Nat.le_of_ble_eq_true rfl, Nat.le_of_ble_eq_true rfl⟩ (fun H locs I => ?_)
    refine lv_imul S.1 S.2.1 dX6_oddsAt_49 ?_
    refine lv_isub S.1 S.2.1 dX6_oddsAt_50 ?_
    refine va_mmax S.1 S.2.1 (by rw [S.2.2.1, hl.1]) S.2.2.2.1 (S.2.2.2.2 _ (List.mem_cons_of_mem _ wT_38_13)) (S.2.2.2.2 _ (List.mem_cons_of_mem _ wT_38_14)) (S.2.2.2.2 _ (List.mem_cons_of_mem _ wT_15_17)) (S.2.2.2.2 _ (List.mem_cons_of_mem _ wT_38_15)) (Nat.le_of_ble_eq_true rfl) (Nat.le_of_ble_eq_true rfl) (Nat.zero_le _) (Nat.zero_le _) dX6_oddsAt_51 ?_
    exact o_iret S hr hlo I f dX6_oddsAt_54
theorem M6_oddsAt (l : Launch) (D : va_G) (cy : Nat → ClassId) (b : Nat) (A : Nat → Prop) (fl : Bool) {h : PH} {a0 : Nat} {x1 : Int32} {x2 : Int32} {x3 : Int32} {out : Int32 × PH} (f : F6_oddsAt h a0 x1 x2 x3 = some out) : Met l yX6_oddsAt vX6_oddsAt ({ frames := 3, cells := 0, slots := 0, locals := 78 } : Room) (va_Pc [.ref (b + a0), .int x1, .int x2, .int x3] (ph_B D cy b A fl h)) (va_Qi (fun (r : Int32) (u : PH) => (r, u) = out) (ph_B D cy b A fl) A) 0 0 A :=
  o_met (by decide) rfl (Nat.le_of_ble_eq_true rfl) rfl (fun p e s m below meth c S hr hlo hnm ls hl I => T6_oddsAt_0 S hr hlo ((gd f).2) I (lv_sub hl [0, 1, 2, 3] rfl))
def vX6_worthAt : List Cond := .code yX6_worthAt cX6_worthAt 4 (some .int) :: TB
theorem gX6_worthAt_X6_oddsAt : GoodIn vX6_worthAt (wsV RX6 141 RX6 yX6_oddsAt vX6_oddsAt) := gV_of wT_44_12 wT_38_10 wT_38_11 wT_2_2 wT_38_12
theorem lf6_worthAt_9 : Fl vX6_worthAt RX6 9 6 0 := ⟨RX6, TX6, 9, rfl, by decide, (fun w h9 => List.mem_cons_of_mem _ (wC_wsX60 w h9)), (List.mem_cons_of_mem _ wT_7_15)⟩
theorem lf6_worthAt_57 : Fl vX6_worthAt RX6 57 8 5 := ⟨RX8, TX8, 14, rfl, by decide, (fun w h9 => List.mem_cons_of_mem _ (wC_wsX80 w h9)), (List.mem_cons_of_mem _ wT_24_9)⟩
theorem lf6_worthAt_112 : Fl vX6_worthAt RX6 112 10 5 := ⟨RX10, TX10, 8, rfl, by decide, (fun w h9 => List.mem_cons_of_mem _ (wC_wsX100 w h9)), (List.mem_cons_of_mem _ wT_39_2)⟩
theorem cd6_worthAt : Cd yX6_worthAt 3 := ⟨by decide, by decide, by decide +kernel⟩
set_option maxHeartbeats 4000000 in
set_option maxRecDepth 100000 in
theorem T6_worthAt_0 (S : CallFix p m c cX6_worthAt 4 s args vX6_worthAt RX6) (hr : meth.sig.returnType = (some .int)) (hlo : meth.locks = false) {out : Int32 × PH} {h : PH} {a0 : Nat} {x1 : Int32} {x2 : Int32} {x3 : Int32} (f : F6_worthAt_0  h a0 x1 x2 x3 = some out) {H : Heap} {locs : List Loc} (I : ph_I D cy b A fl h s H locs) {ls : Array Slot} (hl : lv_has ls 4 [(0, .ref (b + a0)), (1, .int x1), (2, .int x2), (3, .int x3)]) : W p l e ({ frames := 4, cells := 0, slots := 0, locals := 103 } : Room) s m args below meth c H locs 0 0 (MQ below (va_Qi (fun (r : Int32) (u : PH) => (r, u) = out) (ph_B D cy b A fl) A) args s 0 0 A) (F0 m 0 ls []) := by
  unfold F6_worthAt_0 at f
  refine lv_aload_n S.1 S.2.1 dX6_worthAt_0 rfl (lv_at hl 0 rfl) ?_
  refine lv_iload_n S.1 S.2.1 dX6_worthAt_1 rfl (lv_at hl 1 rfl) ?_
  refine lv_iload_n S.1 S.2.1 dX6_worthAt_2 rfl (lv_at hl 2 rfl) ?_
  refine lv_iload_n S.1 S.2.1 dX6_worthAt_3 rfl (lv_at hl 3 rfl) ?_
  obtain ⟨o1, e2, f⟩ := ob f
  refine o_Vi S (As := [.int x1, .int x2, .int x3]) (rest := []) (ci := 6) (M6_oddsAt l D cy b A fl e2) gX6_worthAt_X6_oddsAt rfl rfl rfl cd6_oddsAt ⟨Nat.le_of_ble_eq_true rfl, Nat.le_of_ble_eq_true rfl⟩ I (gd e2).1 clX6 rfl rfl hl.1 rfl (Nat.le_of_ble_eq_true rfl) dX6_worthAt_4 ⟨Nat.le_of_ble_eq_true rfl, Nat.le_of_ble_eq_true rfl⟩ (fun H locs I => ?_)
  refine lv_aload_n S.1 S.2.1 dX6_worthAt_7 rfl (lv_at hl 0 rfl) ?_
  obtain ⟨r3, e4, f⟩ := ob f
  refine o_gR S lf6_worthAt_9 I e4 dX6_worthAt_8 ?_
  obtain ⟨r5, e6, f⟩ := ob f
  refine o_gR S lf6_worthAt_57 I e6 dX6_worthAt_11 ?_
  obtain ⟨r7, e8, f⟩ := ob f
  refine o_gR S lf6_worthAt_112 I e8 dX6_worthAt_14 ?_
  refine lv_iload_n S.1 S.2.1 dX6_worthAt_17 rfl (lv_at hl 2 rfl) ?_
  obtain ⟨v10, e9, f⟩ := ob f
  refine o_iald S I e9 dX6_worthAt_18 ?_
  refine lv_imul S.1 S.2.1 dX6_worthAt_19 ?_
  exact o_iret S hr hlo I f dX6_worthAt_20
theorem M6_worthAt (l : Launch) (D : va_G) (cy : Nat → ClassId) (b : Nat) (A : Nat → Prop) (fl : Bool) {h : PH} {a0 : Nat} {x1 : Int32} {x2 : Int32} {x3 : Int32} {out : Int32 × PH} (f : F6_worthAt h a0 x1 x2 x3 = some out) : Met l yX6_worthAt vX6_worthAt ({ frames := 4, cells := 0, slots := 0, locals := 103 } : Room) (va_Pc [.ref (b + a0), .int x1, .int x2, .int x3] (ph_B D cy b A fl h)) (va_Qi (fun (r : Int32) (u : PH) => (r, u) = out) (ph_B D cy b A fl) A) 0 0 A :=
  o_met (by decide) rfl (Nat.le_of_ble_eq_true rfl) rfl (fun p e s m below meth c S hr hlo hnm ls hl I => T6_worthAt_0 S hr hlo ((gd f).2) I (lv_sub hl [0, 1, 2, 3] rfl))
def vX0_makePlan : List Cond := .code yX0_makePlan cX0_makePlan 8 none :: TB
theorem lf0_makePlan_30 : Fl vX0_makePlan RX0 30 0 7 := ⟨RX0, TX0, 13, rfl, by decide, (fun w h9 => List.mem_cons_of_mem _ (wC_wsX00 w h9)), (List.mem_cons_of_mem _ wT_9_13)⟩
theorem lp0_makePlan_115 : Pl vX0_makePlan RX0 115 0 12 .int := ⟨RX0, TX0, 13, tyX0, rfl, by decide, (fun w h9 => List.mem_cons_of_mem _ (wC_wsX00 w h9)), (List.mem_cons_of_mem _ wT_54_20), tyX0_ok, nmX0, rfl, rfl⟩
theorem lf0_makePlan_71 : Fl vX0_makePlan RX0 71 10 1 := ⟨RX10, TX10, 8, rfl, by decide, (fun w h9 => List.mem_cons_of_mem _ (wC_wsX100 w h9)), (List.mem_cons_of_mem _ wT_51_5)⟩
theorem gX0_makePlan_X0_listPlan : GoodIn vX0_makePlan (wsV RX0 118 RX0 yX0_listPlan vX0_listPlan) := gV_of wT_54_22 wT_54_23 wT_55_0 wT_2_21 wT_55_1
theorem lf0_makePlan_33 : Fl vX0_makePlan RX0 33 0 8 := ⟨RX0, TX0, 13, rfl, by decide, (fun w h9 => List.mem_cons_of_mem _ (wC_wsX00 w h9)), (List.mem_cons_of_mem _ wT_9_14)⟩
theorem lf0_makePlan_105 : Fl vX0_makePlan RX0 105 10 4 := ⟨RX10, TX10, 8, rfl, by decide, (fun w h9 => List.mem_cons_of_mem _ (wC_wsX100 w h9)), (List.mem_cons_of_mem _ wT_54_18)⟩
theorem gX0_makePlan_X6_awayFor : GoodIn vX0_makePlan (wsV RX0 107 RX6 yX6_awayFor vX6_awayFor) := gV_of wT_54_21 wT_46_0 wT_46_1 wT_2_2 wT_46_2
theorem gX0_makePlan_X10_firstFrom : GoodIn vX0_makePlan (wsV RX0 61 RX10 yX10_firstFrom vX10_firstFrom) := gV_of wT_51_6 wT_43_17 wT_43_18 wT_3_9 wT_43_19
theorem lf0_makePlan_81 : Fl vX0_makePlan RX0 81 4 5 := ⟨RX4, TX4, 11, rfl, by decide, (fun w h9 => List.mem_cons_of_mem _ (wC_wsX40 w h9)), (List.mem_cons_of_mem _ wT_51_11)⟩
theorem gX0_makePlan_X6_worthAt : GoodIn vX0_makePlan (wsV RX0 94 RX6 yX6_worthAt vX6_worthAt) := gV_of wT_51_14 wT_49_18 wT_49_19 wT_2_2 wT_49_20
theorem lf0_makePlan_36 : Fl vX0_makePlan RX0 36 0 9 := ⟨RX0, TX0, 13, rfl, by decide, (fun w h9 => List.mem_cons_of_mem _ (wC_wsX00 w h9)), (List.mem_cons_of_mem _ wT_9_15)⟩
theorem lf0_makePlan_43 : Fl vX0_makePlan RX0 43 6 0 := ⟨RX6, TX6, 9, rfl, by decide, (fun w h9 => List.mem_cons_of_mem _ (wC_wsX60 w h9)), (List.mem_cons_of_mem _ wT_51_2)⟩
theorem lf0_makePlan_49 : Fl vX0_makePlan RX0 49 8 5 := ⟨RX8, TX8, 14, rfl, by decide, (fun w h9 => List.mem_cons_of_mem _ (wC_wsX80 w h9)), (List.mem_cons_of_mem _ wT_51_3)⟩
theorem lf0_makePlan_55 : Fl vX0_makePlan RX0 55 4 0 := ⟨RX4, TX4, 11, rfl, by decide, (fun w h9 => List.mem_cons_of_mem _ (wC_wsX40 w h9)), (List.mem_cons_of_mem _ wT_51_4)⟩
theorem cd0_makePlan : Cd yX0_makePlan 3 := ⟨by decide, by decide, by decide +kernel⟩
set_option maxHeartbeats 4000000 in
set_option maxRecDepth 100000 in
theorem T0_makePlan_128 (S : CallFix p m c cX0_makePlan 8 s args vX0_makePlan RX0) (hr : meth.sig.returnType = none) (hlo : meth.locks = false) {out : PH} {k40 : PH → Nat → Nat → Nat → Int32 → Nat → Int32 → Int32 → Option (PH)} (hk40 : ∀ {h : PH} {a0 : Nat} {a1 : Nat} {a2 : Nat} {x3 : Int32} {a4 : Nat} {x5 : Int32} {x6 : Int32}, k40 h a0 a1 a2 x3 a4 x5 x6 = some out → ∀ (H : Heap) (locs : List Loc), ph_I D cy b A fl h s H locs → ∀ (ls : Array Slot), lv_has ls 8 [(0, .ref (b + a0)), (1, .ref (b + a1)), (2, .ref (b + a2)), (3, .int x3), (4, .ref (b + a4)), (5, .int x5), (6, .int x6)] → W p l e ({ frames := 5, cells := 0, slots := 0, locals := 126 } : Room) s m args below meth c H locs 0 0 (MQ below (va_Qv (fun (u : PH) => u = out) (ph_B D cy b A fl) A) args s 0 0 A) (F0 m 40 ls [])) {h : PH} {a0 : Nat} {a1 : Nat} {a2 : Nat} {x3 : Int32} {a4 : Nat} {x5 : Int32} {x6 : Int32} {x7 : Int32} {s0 : Int32} {s1 : Int32} {u2 : Nat} (f : F0_makePlan_128 k40 h a0 a1 a2 x3 a4 x5 x6 x7 s0 s1 u2 = some out) {H : Heap} {locs : List Loc} (I : ph_I D cy b A fl h s H locs) {ls : Array Slot} (hl : lv_has ls 8 [(0, .ref (b + a0)), (1, .ref (b + a1)), (2, .ref (b + a2)), (3, .int x3), (4, .ref (b + a4)), (5, .int x5), (6, .int x6), (7, .int x7)]) : W p l e ({ frames := 5, cells := 0, slots := 0, locals := 126 } : Room) s m args below meth c H locs 0 0 (MQ below (va_Qv (fun (u : PH) => u = out) (ph_B D cy b A fl) A) args s 0 0 A) (F0 m 128 ls [.int s0, .int s1, .ref (b + u2)]) := by
  unfold F0_makePlan_128 at f
  obtain ⟨h2, e1, f⟩ := ob f
  refine o_zast S I e1 dX0_makePlan_128 (fun H locs I => ?_)
  refine lv_aload_n S.1 S.2.1 dX0_makePlan_129 rfl (lv_at hl 0 rfl) ?_
  obtain ⟨r3, e4, f⟩ := ob f
  refine o_gR S lf0_makePlan_30 I e4 dX0_makePlan_130 ?_
  refine lv_iload S.1 S.2.1 dX0_makePlan_133 (lv_at hl 6 rfl) ?_
  refine lv_iload S.1 S.2.1 dX0_makePlan_135 (lv_at hl 7 rfl) ?_
  refine lv_aload_n S.1 S.2.1 dX0_makePlan_137 rfl (lv_at hl 0 rfl) ?_
  obtain ⟨r5, e6, f⟩ := ob f
  refine o_gR S lf0_makePlan_30 I e6 dX0_makePlan_138 ?_
  refine lv_iload S.1 S.2.1 dX0_makePlan_141 (lv_at hl 6 rfl) ?_
  refine lv_iconst (v := 1) S.1 S.2.1 dX0_makePlan_143 (by decide) ?_
  refine lv_iadd S.1 S.2.1 dX0_makePlan_144 ?_
  obtain ⟨v8, e7, f⟩ := ob f
  refine o_iald S I e7 dX0_makePlan_145 ?_
  refine va_mmax S.1 S.2.1 (by rw [S.2.2.1, hl.1]) S.2.2.2.1 (S.2.2.2.2 _ (List.mem_cons_of_mem _ wT_54_19)) (S.2.2.2.2 _ (List.mem_cons_of_mem _ wT_38_14)) (S.2.2.2.2 _ (List.mem_cons_of_mem _ wT_15_17)) (S.2.2.2.2 _ (List.mem_cons_of_mem _ wT_38_15)) (Nat.le_of_ble_eq_true rfl) (Nat.le_of_ble_eq_true rfl) (Nat.zero_le _) (Nat.zero_le _) dX0_makePlan_146 ?_
  obtain ⟨h10, e9, f⟩ := ob f
  refine o_iast S I e9 dX0_makePlan_149 (fun H locs I => ?_)
  refine lv_iinc (v := (x6 + (-1))) (lv' := [(6, .int (x6 + (-1))), (0, .ref (b + a0)), (1, .ref (b + a1)), (2, .ref (b + a2)), (3, .int x3), (4, .ref (b + a4)), (5, .int x5), (7, .int x7)]) S.1 S.2.1 dX0_makePlan_150 hl (k := 6) rfl (congrArg (fun z => x6 + z) (by decide)) (by decide) rfl (fun ls hl => ?_)
  refine lv_goto (tgt := 40) S.1 S.2.1 dX0_makePlan_153 (by decide) ?_
  exact hk40 f _ _ I _ (lv_sub hl [1, 2, 3, 4, 5, 6, 0] rfl)
set_option maxHeartbeats 4000000 in
set_option maxRecDepth 100000 in
theorem T0_makePlan_40 (S : CallFix p m c cX0_makePlan 8 s args vX0_makePlan RX0) (hr : meth.sig.returnType = none) (hlo : meth.locks = false) {out : PH} : ∀ (n : Nat) {h : PH} {a0 : Nat} {a1 : Nat} {a2 : Nat} {x3 : Int32} {a4 : Nat} {x5 : Int32} {x6 : Int32} (f : F0_makePlan_40  n h a0 a1 a2 x3 a4 x5 x6 = some out) {H : Heap} {locs : List Loc} (I : ph_I D cy b A fl h s H locs) {ls : Array Slot} (hl : lv_has ls 8 [(0, .ref (b + a0)), (1, .ref (b + a1)), (2, .ref (b + a2)), (3, .int x3), (4, .ref (b + a4)), (5, .int x5), (6, .int x6)]), W p l e ({ frames := 5, cells := 0, slots := 0, locals := 126 } : Room) s m args below meth c H locs 0 0 (MQ below (va_Qv (fun (u : PH) => u = out) (ph_B D cy b A fl) A) args s 0 0 A) (F0 m 40 ls []) := by
  intro n
  induction n with
  | zero => intro h a0 a1 a2 x3 a4 x5 x6 f; rw [F0_makePlan_40] at f; cases f
  | succ n ih =>
    intro h a0 a1 a2 x3 a4 x5 x6 f H locs I ls hl
    rw [F0_makePlan_40] at f
    refine lv_iload S.1 S.2.1 dX0_makePlan_40 (lv_at hl 6 rfl) ?_
    refine lv_iload S.1 S.2.1 dX0_makePlan_42 (lv_at hl 5 rfl) ?_
    refine lv_icmp_lt (tgt := 156) S.1 S.2.1 dX0_makePlan_44 (by decide) (fun q1 => ?_) (fun q1 => ?_)
    · have f := (if_pos q1).symm.trans f
      refine lv_aload_n S.1 S.2.1 dX0_makePlan_156 rfl (lv_at hl 0 rfl) ?_
      refine lv_aload_n S.1 S.2.1 dX0_makePlan_157 rfl (lv_at hl 0 rfl) ?_
      obtain ⟨r2, e3, f⟩ := ob f
      refine o_gR S lf0_makePlan_30 I e3 dX0_makePlan_158 ?_
      refine lv_iload S.1 S.2.1 dX0_makePlan_161 (lv_at hl 5 rfl) ?_
      obtain ⟨v5, e4, f⟩ := ob f
      refine o_iald S I e4 dX0_makePlan_163 ?_
      obtain ⟨h6, e7, f⟩ := ob f
      refine o_pI S lp0_makePlan_115 I e7 dX0_makePlan_164 (fun H locs I => ?_)
      refine lv_aload_n S.1 S.2.1 dX0_makePlan_167 rfl (lv_at hl 0 rfl) ?_
      refine lv_iload S.1 S.2.1 dX0_makePlan_168 (lv_at hl 5 rfl) ?_
      refine lv_aload S.1 S.2.1 dX0_makePlan_170 (lv_at hl 4 rfl) ?_
      obtain ⟨v8, e9, f⟩ := ob f
      refine o_gI S lf0_makePlan_71 I e9 dX0_makePlan_172 ?_
      obtain ⟨o10, e11, f⟩ := ob f
      refine o_Vv S (As := [.int x5, .int v8]) (rest := []) (ci := 0) (M0_listPlan l D cy b A fl e11) gX0_makePlan_X0_listPlan rfl rfl rfl cd0_listPlan ⟨Nat.le_of_ble_eq_true rfl, Nat.le_of_ble_eq_true rfl⟩ I (gd e11).1 clX0 rfl rfl hl.1 rfl (Nat.le_of_ble_eq_true rfl) dX0_makePlan_175 ⟨Nat.le_of_ble_eq_true rfl, Nat.le_of_ble_eq_true rfl⟩ (fun H locs I => ?_)
      exact o_vret S hr hlo I f dX0_makePlan_178
    · have f := (if_neg q1).symm.trans f
      refine lv_aload_n S.1 S.2.1 dX0_makePlan_47 rfl (lv_at hl 0 rfl) ?_
      obtain ⟨r12, e13, f⟩ := ob f
      refine o_gR S lf0_makePlan_33 I e13 dX0_makePlan_48 ?_
      refine lv_iload S.1 S.2.1 dX0_makePlan_51 (lv_at hl 6 rfl) ?_
      refine lv_aload S.1 S.2.1 dX0_makePlan_53 (lv_at hl 4 rfl) ?_
      refine lv_aload S.1 S.2.1 dX0_makePlan_55 (lv_at hl 4 rfl) ?_
      obtain ⟨r14, e15, f⟩ := ob f
      refine o_gR S lf0_makePlan_105 I e15 dX0_makePlan_57 ?_
      refine lv_iload S.1 S.2.1 dX0_makePlan_60 (lv_at hl 6 rfl) ?_
      obtain ⟨v17, e16, f⟩ := ob f
      refine o_iald S I e16 dX0_makePlan_62 ?_
      refine lv_aload_n S.1 S.2.1 dX0_makePlan_63 rfl (lv_at hl 1 rfl) ?_
      refine lv_iload_n S.1 S.2.1 dX0_makePlan_64 rfl (lv_at hl 3 rfl) ?_
      refine lv_iload S.1 S.2.1 dX0_makePlan_65 (lv_at hl 6 rfl) ?_
      obtain ⟨o18, e19, f⟩ := ob f
      refine o_Vi S (As := [.int x3, .int x6]) (rest := [.int v17, .ref (b + a4), .int x6, .ref (b + r12)]) (ci := 6) (M6_awayFor l D cy b A fl e19) gX0_makePlan_X6_awayFor rfl rfl rfl cd6_awayFor ⟨Nat.le_of_ble_eq_true rfl, Nat.le_of_ble_eq_true rfl⟩ I (gd e19).1 clX6 rfl rfl hl.1 rfl (Nat.le_of_ble_eq_true rfl) dX0_makePlan_67 ⟨Nat.le_of_ble_eq_true rfl, Nat.le_of_ble_eq_true rfl⟩ (fun H locs I => ?_)
      refine lv_iadd S.1 S.2.1 dX0_makePlan_70 ?_
      obtain ⟨o20, e21, f⟩ := ob f
      refine o_Vi S (As := [.int (v17 + o18.1)]) (rest := [.int x6, .ref (b + r12)]) (ci := 10) (M10_firstFrom l D cy b A fl e21) gX0_makePlan_X10_firstFrom rfl rfl rfl cd10_firstFrom ⟨Nat.le_of_ble_eq_true rfl, Nat.le_of_ble_eq_true rfl⟩ I (gd e21).1 clX10 rfl rfl hl.1 rfl (Nat.le_of_ble_eq_true rfl) dX0_makePlan_71 ⟨Nat.le_of_ble_eq_true rfl, Nat.le_of_ble_eq_true rfl⟩ (fun H locs I => ?_)
      obtain ⟨h23, e22, f⟩ := ob f
      refine o_iast S I e22 dX0_makePlan_74 (fun H locs I => ?_)
      refine lv_aload_n S.1 S.2.1 dX0_makePlan_75 rfl (lv_at hl 1 rfl) ?_
      refine lv_iload_n S.1 S.2.1 dX0_makePlan_76 rfl (lv_at hl 3 rfl) ?_
      refine lv_iload S.1 S.2.1 dX0_makePlan_77 (lv_at hl 6 rfl) ?_
      refine lv_aload_n S.1 S.2.1 dX0_makePlan_79 rfl (lv_at hl 2 rfl) ?_
      obtain ⟨r24, e25, f⟩ := ob f
      refine o_gR S lf0_makePlan_81 I e25 dX0_makePlan_80 ?_
      refine lv_iload_n S.1 S.2.1 dX0_makePlan_83 rfl (lv_at hl 3 rfl) ?_
      obtain ⟨v27, e26, f⟩ := ob f
      refine o_iald S I e26 dX0_makePlan_84 ?_
      obtain ⟨o28, e29, f⟩ := ob f
      refine o_Vi S (As := [.int x3, .int x6, .int v27]) (rest := []) (ci := 6) (M6_worthAt l D cy b A fl e29) gX0_makePlan_X6_worthAt rfl rfl rfl cd6_worthAt ⟨Nat.le_of_ble_eq_true rfl, Nat.le_of_ble_eq_true rfl⟩ I (gd e29).1 clX6 rfl rfl hl.1 rfl (Nat.le_of_ble_eq_true rfl) dX0_makePlan_85 ⟨Nat.le_of_ble_eq_true rfl, Nat.le_of_ble_eq_true rfl⟩ (fun H locs I => ?_)
      refine lv_aload_n S.1 S.2.1 dX0_makePlan_88 rfl (lv_at hl 0 rfl) ?_
      obtain ⟨r30, e31, f⟩ := ob f
      refine o_gR S lf0_makePlan_30 I e31 dX0_makePlan_89 ?_
      refine lv_aload_n S.1 S.2.1 dX0_makePlan_92 rfl (lv_at hl 0 rfl) ?_
      obtain ⟨r32, e33, f⟩ := ob f
      refine o_gR S lf0_makePlan_33 I e33 dX0_makePlan_93 ?_
      refine lv_iload S.1 S.2.1 dX0_makePlan_96 (lv_at hl 6 rfl) ?_
      obtain ⟨v35, e34, f⟩ := ob f
      refine o_iald S I e34 dX0_makePlan_98 ?_
      obtain ⟨v37, e36, f⟩ := ob f
      refine o_iald S I e36 dX0_makePlan_99 ?_
      refine lv_iadd S.1 S.2.1 dX0_makePlan_100 ?_
      refine lv_istore (lv' := [(7, .int (o28.1 + v37)), (0, .ref (b + a0)), (1, .ref (b + a1)), (2, .ref (b + a2)), (3, .int x3), (4, .ref (b + a4)), (5, .int x5), (6, .int x6)]) S.1 S.2.1 dX0_makePlan_101 hl (by decide) rfl (fun ls hl => ?_)
      refine lv_aload_n S.1 S.2.1 dX0_makePlan_103 rfl (lv_at hl 1 rfl) ?_
      obtain ⟨r38, e39, f⟩ := ob f
      refine o_gR S lf0_makePlan_36 I e39 dX0_makePlan_104 ?_
      refine lv_iload S.1 S.2.1 dX0_makePlan_107 (lv_at hl 7 rfl) ?_
      refine lv_iload S.1 S.2.1 dX0_makePlan_109 (lv_at hl 0 rfl) ?_
      refine lv_aload_n S.1 S.2.1 dX0_makePlan_111 rfl (lv_at hl 1 rfl) ?_
      obtain ⟨r40, e41, f⟩ := ob f
      refine o_gR S lf0_makePlan_30 I e41 dX0_makePlan_112 ?_
      refine lv_iload S.1 S.2.1 dX0_makePlan_115 (lv_at hl 7 rfl) ?_
      refine lv_iconst (v := 1) S.1 S.2.1 dX0_makePlan_117 (by decide) ?_
      refine lv_iadd S.1 S.2.1 dX0_makePlan_118 ?_
      obtain ⟨v43, e42, f⟩ := ob f
      refine o_iald S I e42 dX0_makePlan_119 ?_
      refine lv_icmp_lt (tgt := 127) S.1 S.2.1 dX0_makePlan_120 (by decide) (fun q44 => ?_) (fun q44 => ?_)
      · have f := (if_pos q44).symm.trans f
        refine lv_iconst (v := 0) S.1 S.2.1 dX0_makePlan_127 (by decide) ?_
        exact T0_makePlan_128 S hr hlo (fun f _ _ I _ hl => ih f I hl) f I (lv_sub hl [1, 2, 3, 4, 5, 6, 7, 0] rfl)
      · have f := (if_neg q44).symm.trans f
        refine lv_iconst (v := 1) S.1 S.2.1 dX0_makePlan_123 (by decide) ?_
        refine lv_goto (tgt := 128) S.1 S.2.1 dX0_makePlan_124 (by decide) ?_
        exact T0_makePlan_128 S hr hlo (fun f _ _ I _ hl => ih f I hl) f I (lv_sub hl [1, 2, 3, 4, 5, 6, 7, 0] rfl)
set_option maxHeartbeats 4000000 in
set_option maxRecDepth 100000 in
theorem T0_makePlan_0 (S : CallFix p m c cX0_makePlan 8 s args vX0_makePlan RX0) (hr : meth.sig.returnType = none) (hlo : meth.locks = false) {out : PH} {h : PH} {a0 : Nat} {a1 : Nat} {a2 : Nat} {x3 : Int32} (f : F0_makePlan_0  h a0 a1 a2 x3 = some out) {H : Heap} {locs : List Loc} (I : ph_I D cy b A fl h s H locs) {ls : Array Slot} (hl : lv_has ls 8 [(0, .ref (b + a0)), (1, .ref (b + a1)), (2, .ref (b + a2)), (3, .int x3)]) : W p l e ({ frames := 5, cells := 0, slots := 0, locals := 126 } : Room) s m args below meth c H locs 0 0 (MQ below (va_Qv (fun (u : PH) => u = out) (ph_B D cy b A fl) A) args s 0 0 A) (F0 m 0 ls []) := by
  unfold F0_makePlan_0 at f
  refine lv_aload_n S.1 S.2.1 dX0_makePlan_0 rfl (lv_at hl 1 rfl) ?_
  obtain ⟨r1, e2, f⟩ := ob f
  refine o_gR S lf0_makePlan_43 I e2 dX0_makePlan_1 ?_
  obtain ⟨r3, e4, f⟩ := ob f
  refine o_gR S lf0_makePlan_49 I e4 dX0_makePlan_4 ?_
  refine lv_astore (lv' := [(4, .ref (b + r3)), (0, .ref (b + a0)), (1, .ref (b + a1)), (2, .ref (b + a2)), (3, .int x3)]) S.1 S.2.1 dX0_makePlan_7 hl (by decide) rfl (fun ls hl => ?_)
  refine lv_aload S.1 S.2.1 dX0_makePlan_9 (lv_at hl 0 rfl) ?_
  refine lv_aload_n S.1 S.2.1 dX0_makePlan_11 rfl (lv_at hl 3 rfl) ?_
  obtain ⟨v5, e6, f⟩ := ob f
  refine o_gI S lf0_makePlan_55 I e6 dX0_makePlan_12 ?_
  obtain ⟨o7, e8, f⟩ := ob f
  refine o_Vi S (As := [.int v5]) (rest := []) (ci := 10) (M10_firstFrom l D cy b A fl e8) gX0_makePlan_X10_firstFrom rfl rfl rfl cd10_firstFrom ⟨Nat.le_of_ble_eq_true rfl, Nat.le_of_ble_eq_true rfl⟩ I (gd e8).1 clX10 rfl rfl hl.1 rfl (Nat.le_of_ble_eq_true rfl) dX0_makePlan_15 ⟨Nat.le_of_ble_eq_true rfl, Nat.le_of_ble_eq_true rfl⟩ (fun H locs I => ?_)
  refine lv_istore (lv' := [(5, .int o7.1), (4, .ref (b + r3)), (0, .ref (b + a0)), (1, .ref (b + a1)), (2, .ref (b + a2)), (3, .int x3)]) S.1 S.2.1 dX0_makePlan_18 hl (by decide) rfl (fun ls hl => ?_)
  refine lv_aload_n S.1 S.2.1 dX0_makePlan_20 rfl (lv_at hl 2 rfl) ?_
  obtain ⟨r9, e10, f⟩ := ob f
  refine o_gR S lf0_makePlan_30 I e10 dX0_makePlan_21 ?_
  refine lv_aload S.1 S.2.1 dX0_makePlan_24 (lv_at hl 1 rfl) ?_
  obtain ⟨v11, e12, f⟩ := ob f
  refine o_gI S lf0_makePlan_71 I e12 dX0_makePlan_26 ?_
  refine lv_iconst (v := 0) S.1 S.2.1 dX0_makePlan_29 (by decide) ?_
  obtain ⟨h14, e13, f⟩ := ob f
  refine o_iast S I e13 dX0_makePlan_30 (fun H locs I => ?_)
  refine lv_aload S.1 S.2.1 dX0_makePlan_31 (lv_at hl 1 rfl) ?_
  obtain ⟨v15, e16, f⟩ := ob f
  refine o_gI S lf0_makePlan_71 I e16 dX0_makePlan_33 ?_
  refine lv_iconst (v := 1) S.1 S.2.1 dX0_makePlan_36 (by decide) ?_
  refine lv_isub S.1 S.2.1 dX0_makePlan_37 ?_
  refine lv_istore (lv' := [(6, .int (v15 - 1)), (5, .int o7.1), (4, .ref (b + r3)), (0, .ref (b + a0)), (1, .ref (b + a1)), (2, .ref (b + a2)), (3, .int x3)]) S.1 S.2.1 dX0_makePlan_38 hl (by decide) rfl (fun ls hl => ?_)
  exact T0_makePlan_40 S hr hlo  1024 f I (lv_sub hl [3, 4, 5, 6, 2, 1, 0] rfl)
theorem M0_makePlan (l : Launch) (D : va_G) (cy : Nat → ClassId) (b : Nat) (A : Nat → Prop) (fl : Bool) {h : PH} {a0 : Nat} {a1 : Nat} {a2 : Nat} {x3 : Int32} {out : PH} (f : F0_makePlan h a0 a1 a2 x3 = some out) : Met l yX0_makePlan vX0_makePlan ({ frames := 5, cells := 0, slots := 0, locals := 126 } : Room) (va_Pc [.ref (b + a0), .ref (b + a1), .ref (b + a2), .int x3] (ph_B D cy b A fl h)) (va_Qv (fun (u : PH) => u = out) (ph_B D cy b A fl) A) 0 0 A :=
  o_met (by decide) rfl (Nat.le_of_ble_eq_true rfl) rfl (fun p e s m below meth c S hr hlo hnm ls hl I => T0_makePlan_0 S hr hlo ((gd f).2) I (lv_sub hl [0, 1, 2, 3] rfl))
def vX8_columnOf : List Cond := .code yX8_columnOf cX8_columnOf 2 (some .int) :: TB
theorem lf8_columnOf_32 : Fl vX8_columnOf RX8 32 8 0 := ⟨RX8, TX8, 14, rfl, by decide, (fun w h9 => List.mem_cons_of_mem _ (wC_wsX80 w h9)), (List.mem_cons_of_mem _ wT_3_15)⟩
theorem cd8_columnOf : Cd yX8_columnOf 1 := ⟨by decide, by decide, by decide +kernel⟩
set_option maxHeartbeats 4000000 in
set_option maxRecDepth 100000 in
theorem T8_columnOf_0 (S : CallFix p m c cX8_columnOf 2 s args vX8_columnOf RX8) (hr : meth.sig.returnType = (some .int)) (hlo : meth.locks = false) {out : Int32 × PH} {h : PH} {a0 : Nat} {x1 : Int32} (f : F8_columnOf_0  h a0 x1 = some out) {H : Heap} {locs : List Loc} (I : ph_I D cy b A fl h s H locs) {ls : Array Slot} (hl : lv_has ls 2 [(0, .ref (b + a0)), (1, .int x1)]) : W p l e ({ frames := 0, cells := 0, slots := 0, locals := 0 } : Room) s m args below meth c H locs 0 0 (MQ below (va_Qi (fun (r : Int32) (u : PH) => (r, u) = out) (ph_B D cy b A fl) A) args s 0 0 A) (F0 m 0 ls []) := by
  unfold F8_columnOf_0 at f
  refine lv_aload_n S.1 S.2.1 dX8_columnOf_0 rfl (lv_at hl 0 rfl) ?_
  obtain ⟨v1, e2, f⟩ := ob f
  refine o_gI S lf8_columnOf_32 I e2 dX8_columnOf_1 ?_
  refine lv_if_le (tgt := 16) S.1 S.2.1 dX8_columnOf_4 (by decide) (fun q3 => ?_) (fun q3 => ?_)
  · have f := (if_pos q3).symm.trans f
    refine lv_iconst (v := 0) S.1 S.2.1 dX8_columnOf_16 (by decide) ?_
    exact o_iret S hr hlo I f dX8_columnOf_17
  · have f := (if_neg q3).symm.trans f
    refine lv_iload_n S.1 S.2.1 dX8_columnOf_7 rfl (lv_at hl 1 rfl) ?_
    refine lv_aload_n S.1 S.2.1 dX8_columnOf_8 rfl (lv_at hl 0 rfl) ?_
    obtain ⟨v4, e5, f⟩ := ob f
    refine o_gI S lf8_columnOf_32 I e5 dX8_columnOf_9 ?_
    have q6 : ¬ v4 = 0 := fun q => by rw [if_pos q] at f; cases f
    have f := (if_neg q6).symm.trans f
    refine lv_irem S.1 S.2.1 dX8_columnOf_12 q6 ?_
    refine lv_goto (tgt := 17) S.1 S.2.1 dX8_columnOf_13 (by decide) ?_
    exact o_iret S hr hlo I f dX8_columnOf_17
theorem M8_columnOf (l : Launch) (D : va_G) (cy : Nat → ClassId) (b : Nat) (A : Nat → Prop) (fl : Bool) {h : PH} {a0 : Nat} {x1 : Int32} {out : Int32 × PH} (f : F8_columnOf h a0 x1 = some out) : Met l yX8_columnOf vX8_columnOf ({ frames := 0, cells := 0, slots := 0, locals := 0 } : Room) (va_Pc [.ref (b + a0), .int x1] (ph_B D cy b A fl h)) (va_Qi (fun (r : Int32) (u : PH) => (r, u) = out) (ph_B D cy b A fl) A) 0 0 A :=
  o_met (by decide) rfl (Nat.le_of_ble_eq_true rfl) rfl (fun p e s m below meth c S hr hlo hnm ls hl I => T8_columnOf_0 S hr hlo ((gd f).2) I (lv_sub hl [0, 1] rfl))
def vX8_cellBeside : List Cond := .code yX8_cellBeside cX8_cellBeside 5 (some .int) :: TB
theorem gX8_cellBeside_X8_columnOf : GoodIn vX8_cellBeside (wsV RX8 79 RX8 yX8_columnOf vX8_columnOf) := gV_of wT_41_16 wT_41_17 wT_41_18 wT_1_17 wT_41_19
theorem gX8_cellBeside_X8_rowOf : GoodIn vX8_cellBeside (wsV RX8 82 RX8 yX8_rowOf vX8_rowOf) := gV_of wT_41_20 wT_39_6 wT_39_7 wT_1_17 wT_39_8
theorem lf8_cellBeside_32 : Fl vX8_cellBeside RX8 32 8 0 := ⟨RX8, TX8, 14, rfl, by decide, (fun w h9 => List.mem_cons_of_mem _ (wC_wsX80 w h9)), (List.mem_cons_of_mem _ wT_3_15)⟩
theorem lf8_cellBeside_36 : Fl vX8_cellBeside RX8 36 8 1 := ⟨RX8, TX8, 14, rfl, by decide, (fun w h9 => List.mem_cons_of_mem _ (wC_wsX80 w h9)), (List.mem_cons_of_mem _ wT_3_16)⟩
theorem cd8_cellBeside : Cd yX8_cellBeside 2 := ⟨by decide, by decide, by decide +kernel⟩
set_option maxHeartbeats 4000000 in
set_option maxRecDepth 100000 in
theorem T8_cellBeside_0 (S : CallFix p m c cX8_cellBeside 5 s args vX8_cellBeside RX8) (hr : meth.sig.returnType = (some .int)) (hlo : meth.locks = false) {out : Int32 × PH} {h : PH} {a0 : Nat} {x1 : Int32} {x2 : Int32} (f : F8_cellBeside_0  h a0 x1 x2 = some out) {H : Heap} {locs : List Loc} (I : ph_I D cy b A fl h s H locs) {ls : Array Slot} (hl : lv_has ls 5 [(0, .ref (b + a0)), (1, .int x1), (2, .int x2)]) : W p l e ({ frames := 1, cells := 0, slots := 0, locals := 21 } : Room) s m args below meth c H locs 0 0 (MQ below (va_Qi (fun (r : Int32) (u : PH) => (r, u) = out) (ph_B D cy b A fl) A) args s 0 0 A) (F0 m 0 ls []) := by
  unfold F8_cellBeside_0 at f
  refine lv_aload_n S.1 S.2.1 dX8_cellBeside_0 rfl (lv_at hl 0 rfl) ?_
  refine lv_iload_n S.1 S.2.1 dX8_cellBeside_1 rfl (lv_at hl 1 rfl) ?_
  obtain ⟨o1, e2, f⟩ := ob f
  refine o_Vi S (As := [.int x1]) (rest := []) (ci := 8) (M8_columnOf l D cy b A fl e2) gX8_cellBeside_X8_columnOf rfl rfl rfl cd8_columnOf ⟨Nat.le_of_ble_eq_true rfl, Nat.le_of_ble_eq_true rfl⟩ I (gd e2).1 clX8 rfl rfl hl.1 rfl (Nat.le_of_ble_eq_true rfl) dX8_cellBeside_2 ⟨Nat.le_of_ble_eq_true rfl, Nat.le_of_ble_eq_true rfl⟩ (fun H locs I => ?_)
  refine lv_istore_n (lv' := [(3, .int o1.1), (0, .ref (b + a0)), (1, .int x1), (2, .int x2)]) S.1 S.2.1 dX8_cellBeside_5 rfl hl (by decide) rfl (fun ls hl => ?_)
  refine lv_aload_n S.1 S.2.1 dX8_cellBeside_6 rfl (lv_at hl 1 rfl) ?_
  refine lv_iload_n S.1 S.2.1 dX8_cellBeside_7 rfl (lv_at hl 2 rfl) ?_
  obtain ⟨o3, e4, f⟩ := ob f
  refine o_Vi S (As := [.int x1]) (rest := []) (ci := 8) (M8_rowOf l D cy b A fl e4) gX8_cellBeside_X8_rowOf rfl rfl rfl cd8_rowOf ⟨Nat.le_of_ble_eq_true rfl, Nat.le_of_ble_eq_true rfl⟩ I (gd e4).1 clX8 rfl rfl hl.1 rfl (Nat.le_of_ble_eq_true rfl) dX8_cellBeside_8 ⟨Nat.le_of_ble_eq_true rfl, Nat.le_of_ble_eq_true rfl⟩ (fun H locs I => ?_)
  refine lv_istore (lv' := [(4, .int o3.1), (3, .int o1.1), (0, .ref (b + a0)), (1, .int x1), (2, .int x2)]) S.1 S.2.1 dX8_cellBeside_11 hl (by decide) rfl (fun ls hl => ?_)
  refine lv_iload_n S.1 S.2.1 dX8_cellBeside_13 rfl (lv_at hl 4 rfl) ?_
  rcases Decidable.em (x2 = 0) with q5 | q5
  · have f := (if_pos q5).symm.trans f
    refine lv_tableIn (off := 30) (tgt := 44) S.1 S.2.1 dX8_cellBeside_14 (by rw [q5]; decide) (by rw [q5]; decide) (by rw [q5]; rfl) (by decide) ?_
    refine lv_iload S.1 S.2.1 dX8_cellBeside_44 (lv_at hl 0 rfl) ?_
    refine lv_if_le (tgt := 58) S.1 S.2.1 dX8_cellBeside_46 (by decide) (fun q6 => ?_) (fun q6 => ?_)
    · have f := (if_pos q6).symm.trans f
      refine lv_iconst (v := (-1)) S.1 S.2.1 dX8_cellBeside_58 (by decide) ?_
      exact o_iret S hr hlo I f dX8_cellBeside_59
    · have f := (if_neg q6).symm.trans f
      refine lv_iload_n S.1 S.2.1 dX8_cellBeside_49 rfl (lv_at hl 3 rfl) ?_
      refine lv_aload_n S.1 S.2.1 dX8_cellBeside_50 rfl (lv_at hl 2 rfl) ?_
      obtain ⟨v7, e8, f⟩ := ob f
      refine o_gI S lf8_cellBeside_32 I e8 dX8_cellBeside_51 ?_
      refine lv_isub S.1 S.2.1 dX8_cellBeside_54 ?_
      refine lv_goto (tgt := 59) S.1 S.2.1 dX8_cellBeside_55 (by decide) ?_
      exact o_iret S hr hlo I f dX8_cellBeside_59
  have f := (if_neg q5).symm.trans f
  rcases Decidable.em (x2 = 1) with q9 | q9
  · have f := (if_pos q9).symm.trans f
    refine lv_tableIn (off := 46) (tgt := 60) S.1 S.2.1 dX8_cellBeside_14 (by rw [q9]; decide) (by rw [q9]; decide) (by rw [q9]; rfl) (by decide) ?_
    refine lv_iload_n S.1 S.2.1 dX8_cellBeside_60 rfl (lv_at hl 1 rfl) ?_
    refine lv_aload_n S.1 S.2.1 dX8_cellBeside_61 rfl (lv_at hl 2 rfl) ?_
    obtain ⟨v10, e11, f⟩ := ob f
    refine o_gI S lf8_cellBeside_32 I e11 dX8_cellBeside_62 ?_
    refine lv_iconst (v := 1) S.1 S.2.1 dX8_cellBeside_65 (by decide) ?_
    refine lv_isub S.1 S.2.1 dX8_cellBeside_66 ?_
    refine lv_icmp_ge (tgt := 76) S.1 S.2.1 dX8_cellBeside_67 (by decide) (fun q12 => ?_) (fun q12 => ?_)
    · have f := (if_pos q12).symm.trans f
      refine lv_iconst (v := (-1)) S.1 S.2.1 dX8_cellBeside_76 (by decide) ?_
      exact o_iret S hr hlo I f dX8_cellBeside_77
    · have f := (if_neg q12).symm.trans f
      refine lv_iload_n S.1 S.2.1 dX8_cellBeside_70 rfl (lv_at hl 3 rfl) ?_
      refine lv_iconst (v := 1) S.1 S.2.1 dX8_cellBeside_71 (by decide) ?_
      refine lv_iadd S.1 S.2.1 dX8_cellBeside_72 ?_
      refine lv_goto (tgt := 77) S.1 S.2.1 dX8_cellBeside_73 (by decide) ?_
      exact o_iret S hr hlo I f dX8_cellBeside_77
  have f := (if_neg q9).symm.trans f
  rcases Decidable.em (x2 = 2) with q13 | q13
  · have f := (if_pos q13).symm.trans f
    refine lv_tableIn (off := 64) (tgt := 78) S.1 S.2.1 dX8_cellBeside_14 (by rw [q13]; decide) (by rw [q13]; decide) (by rw [q13]; rfl) (by decide) ?_
    refine lv_iload S.1 S.2.1 dX8_cellBeside_78 (lv_at hl 0 rfl) ?_
    refine lv_aload_n S.1 S.2.1 dX8_cellBeside_80 rfl (lv_at hl 2 rfl) ?_
    obtain ⟨v14, e15, f⟩ := ob f
    refine o_gI S lf8_cellBeside_36 I e15 dX8_cellBeside_81 ?_
    refine lv_iconst (v := 1) S.1 S.2.1 dX8_cellBeside_84 (by decide) ?_
    refine lv_isub S.1 S.2.1 dX8_cellBeside_85 ?_
    refine lv_icmp_ge (tgt := 98) S.1 S.2.1 dX8_cellBeside_86 (by decide) (fun q16 => ?_) (fun q16 => ?_)
    · have f := (if_pos q16).symm.trans f
      refine lv_iconst (v := (-1)) S.1 S.2.1 dX8_cellBeside_98 (by decide) ?_
      exact o_iret S hr hlo I f dX8_cellBeside_99
    · have f := (if_neg q16).symm.trans f
      refine lv_iload_n S.1 S.2.1 dX8_cellBeside_89 rfl (lv_at hl 3 rfl) ?_
      refine lv_aload_n S.1 S.2.1 dX8_cellBeside_90 rfl (lv_at hl 2 rfl) ?_
      obtain ⟨v17, e18, f⟩ := ob f
      refine o_gI S lf8_cellBeside_32 I e18 dX8_cellBeside_91 ?_
      refine lv_iadd S.1 S.2.1 dX8_cellBeside_94 ?_
      refine lv_goto (tgt := 99) S.1 S.2.1 dX8_cellBeside_95 (by decide) ?_
      exact o_iret S hr hlo I f dX8_cellBeside_99
  have f := (if_neg q13).symm.trans f
  rcases Decidable.em (x2 = 3) with q19 | q19
  · have f := (if_pos q19).symm.trans f
    refine lv_tableIn (off := 86) (tgt := 100) S.1 S.2.1 dX8_cellBeside_14 (by rw [q19]; decide) (by rw [q19]; decide) (by rw [q19]; rfl) (by decide) ?_
    refine lv_iload_n S.1 S.2.1 dX8_cellBeside_100 rfl (lv_at hl 1 rfl) ?_
    refine lv_if_le (tgt := 110) S.1 S.2.1 dX8_cellBeside_101 (by decide) (fun q20 => ?_) (fun q20 => ?_)
    · have f := (if_pos q20).symm.trans f
      refine lv_iconst (v := (-1)) S.1 S.2.1 dX8_cellBeside_110 (by decide) ?_
      exact o_iret S hr hlo I f dX8_cellBeside_111
    · have f := (if_neg q20).symm.trans f
      refine lv_iload_n S.1 S.2.1 dX8_cellBeside_104 rfl (lv_at hl 3 rfl) ?_
      refine lv_iconst (v := 1) S.1 S.2.1 dX8_cellBeside_105 (by decide) ?_
      refine lv_isub S.1 S.2.1 dX8_cellBeside_106 ?_
      refine lv_goto (tgt := 111) S.1 S.2.1 dX8_cellBeside_107 (by decide) ?_
      exact o_iret S hr hlo I f dX8_cellBeside_111
  have f := (if_neg q19).symm.trans f
  refine lv_tableOut (tgt := 112) S.1 S.2.1 dX8_cellBeside_14 (by have := lv_neT q5 (a := 0) (by decide); have := lv_neT q9 (a := 1) (by decide); have := lv_neT q13 (a := 2) (by decide); have := lv_neT q19 (a := 3) (by decide); omega) (by decide) ?_
  refine lv_iload_n S.1 S.2.1 dX8_cellBeside_112 rfl (lv_at hl 3 rfl) ?_
  exact o_iret S hr hlo I f dX8_cellBeside_113
theorem M8_cellBeside (l : Launch) (D : va_G) (cy : Nat → ClassId) (b : Nat) (A : Nat → Prop) (fl : Bool) {h : PH} {a0 : Nat} {x1 : Int32} {x2 : Int32} {out : Int32 × PH} (f : F8_cellBeside h a0 x1 x2 = some out) : Met l yX8_cellBeside vX8_cellBeside ({ frames := 1, cells := 0, slots := 0, locals := 21 } : Room) (va_Pc [.ref (b + a0), .int x1, .int x2] (ph_B D cy b A fl h)) (va_Qi (fun (r : Int32) (u : PH) => (r, u) = out) (ph_B D cy b A fl) A) 0 0 A :=
  o_met (by decide) rfl (Nat.le_of_ble_eq_true rfl) rfl (fun p e s m below meth c S hr hlo hnm ls hl I => T8_cellBeside_0 S hr hlo ((gd f).2) I (lv_sub hl [0, 1, 2] rfl))
def vX0_weighWays : List Cond := .code yX0_weighWays cX0_weighWays 10 none :: TB
theorem lf0_weighWays_43 : Fl vX0_weighWays RX0 43 6 0 := ⟨RX6, TX6, 9, rfl, by decide, (fun w h9 => List.mem_cons_of_mem _ (wC_wsX60 w h9)), (List.mem_cons_of_mem _ wT_51_2)⟩
theorem lf0_weighWays_49 : Fl vX0_weighWays RX0 49 8 5 := ⟨RX8, TX8, 14, rfl, by decide, (fun w h9 => List.mem_cons_of_mem _ (wC_wsX80 w h9)), (List.mem_cons_of_mem _ wT_51_3)⟩
theorem lf0_weighWays_71 : Fl vX0_weighWays RX0 71 10 1 := ⟨RX10, TX10, 8, rfl, by decide, (fun w h9 => List.mem_cons_of_mem _ (wC_wsX100 w h9)), (List.mem_cons_of_mem _ wT_51_5)⟩
theorem lf0_weighWays_15 : Fl vX0_weighWays RX0 15 0 1 := ⟨RX0, TX0, 13, rfl, by decide, (fun w h9 => List.mem_cons_of_mem _ (wC_wsX00 w h9)), (List.mem_cons_of_mem _ wT_9_8)⟩
theorem gX0_weighWays_X6_farOf : GoodIn vX0_weighWays (wsV RX0 91 RX6 yX6_farOf vX6_farOf) := gV_of wT_51_13 wT_39_10 wT_39_11 wT_2_2 wT_39_12
theorem lf0_weighWays_18 : Fl vX0_weighWays RX0 18 0 2 := ⟨RX0, TX0, 13, rfl, by decide, (fun w h9 => List.mem_cons_of_mem _ (wC_wsX00 w h9)), (List.mem_cons_of_mem _ wT_9_9)⟩
theorem gX0_weighWays_X6_worthAt : GoodIn vX0_weighWays (wsV RX0 94 RX6 yX6_worthAt vX6_worthAt) := gV_of wT_51_14 wT_49_18 wT_49_19 wT_2_2 wT_49_20
theorem lf0_weighWays_81 : Fl vX0_weighWays RX0 81 4 5 := ⟨RX4, TX4, 11, rfl, by decide, (fun w h9 => List.mem_cons_of_mem _ (wC_wsX40 w h9)), (List.mem_cons_of_mem _ wT_51_11)⟩
theorem gX0_weighWays_X8_cellBeside : GoodIn vX0_weighWays (wsV RX0 87 RX8 yX8_cellBeside vX8_cellBeside) := gV_of wT_51_12 wT_41_13 wT_41_14 wT_1_17 wT_41_15
theorem lf0_weighWays_9 : Fl vX0_weighWays RX0 9 0 0 := ⟨RX0, TX0, 13, rfl, by decide, (fun w h9 => List.mem_cons_of_mem _ (wC_wsX00 w h9)), (List.mem_cons_of_mem _ wT_9_7)⟩
theorem cd0_weighWays : Cd yX0_weighWays 5 := ⟨by decide, by decide, by decide +kernel⟩
set_option maxHeartbeats 4000000 in
set_option maxRecDepth 100000 in
theorem T0_weighWays_46 (S : CallFix p m c cX0_weighWays 10 s args vX0_weighWays RX0) (hr : meth.sig.returnType = none) (hlo : meth.locks = false) {out : PH} {k3 : PH → Nat → Nat → Nat → Int32 → Int32 → Int32 → Int32 → Option (PH)} (hk3 : ∀ {h : PH} {a0 : Nat} {a1 : Nat} {a2 : Nat} {x3 : Int32} {x4 : Int32} {x5 : Int32} {x6 : Int32}, k3 h a0 a1 a2 x3 x4 x5 x6 = some out → ∀ (H : Heap) (locs : List Loc), ph_I D cy b A fl h s H locs → ∀ (ls : Array Slot), lv_has ls 10 [(0, .ref (b + a0)), (1, .ref (b + a1)), (2, .ref (b + a2)), (3, .int x3), (4, .int x4), (5, .int x5), (6, .int x6)] → W p l e ({ frames := 5, cells := 0, slots := 0, locals := 126 } : Room) s m args below meth c H locs 0 0 (MQ below (va_Qv (fun (u : PH) => u = out) (ph_B D cy b A fl) A) args s 0 0 A) (F0 m 3 ls [])) : ∀ (n : Nat) {h : PH} {a0 : Nat} {a1 : Nat} {a2 : Nat} {x3 : Int32} {x4 : Int32} {x5 : Int32} {x6 : Int32} {x7 : Int32} {x8 : Int32} (f : F0_weighWays_46 k3 n h a0 a1 a2 x3 x4 x5 x6 x7 x8 = some out) {H : Heap} {locs : List Loc} (I : ph_I D cy b A fl h s H locs) {ls : Array Slot} (hl : lv_has ls 10 [(0, .ref (b + a0)), (1, .ref (b + a1)), (2, .ref (b + a2)), (3, .int x3), (4, .int x4), (5, .int x5), (6, .int x6), (7, .int x7), (8, .int x8)]), W p l e ({ frames := 5, cells := 0, slots := 0, locals := 126 } : Room) s m args below meth c H locs 0 0 (MQ below (va_Qv (fun (u : PH) => u = out) (ph_B D cy b A fl) A) args s 0 0 A) (F0 m 46 ls []) := by
  intro n
  induction n with
  | zero => intro h a0 a1 a2 x3 x4 x5 x6 x7 x8 f; rw [F0_weighWays_46] at f; cases f
  | succ n ih =>
    intro h a0 a1 a2 x3 x4 x5 x6 x7 x8 f H locs I ls hl
    rw [F0_weighWays_46] at f
    refine lv_iload S.1 S.2.1 dX0_weighWays_46 (lv_at hl 7 rfl) ?_
    refine lv_iconst (v := (-1)) S.1 S.2.1 dX0_weighWays_48 (by decide) ?_
    refine lv_icmp_eq (tgt := 117) S.1 S.2.1 dX0_weighWays_49 (by decide) (fun q1 => ?_) (fun q1 => ?_)
    · have f := (if_pos q1).symm.trans f
      refine lv_iinc (v := (x6 + 1)) (lv' := [(6, .int (x6 + 1)), (0, .ref (b + a0)), (1, .ref (b + a1)), (2, .ref (b + a2)), (3, .int x3), (4, .int x4), (5, .int x5), (7, .int x7), (8, .int x8)]) S.1 S.2.1 dX0_weighWays_117 hl (k := 6) rfl (congrArg (fun z => x6 + z) (by decide)) (by decide) rfl (fun ls hl => ?_)
      refine lv_goto (tgt := 3) S.1 S.2.1 dX0_weighWays_120 (by decide) ?_
      exact hk3 f _ _ I _ (lv_sub hl [1, 2, 3, 4, 5, 6, 0] rfl)
    · have f := (if_neg q1).symm.trans f
      refine lv_iload S.1 S.2.1 dX0_weighWays_52 (lv_at hl 8 rfl) ?_
      refine lv_aload_n S.1 S.2.1 dX0_weighWays_54 rfl (lv_at hl 1 rfl) ?_
      obtain ⟨r2, e3, f⟩ := ob f
      refine o_gR S lf0_weighWays_43 I e3 dX0_weighWays_55 ?_
      obtain ⟨r4, e5, f⟩ := ob f
      refine o_gR S lf0_weighWays_49 I e5 dX0_weighWays_58 ?_
      obtain ⟨v6, e7, f⟩ := ob f
      refine o_gI S lf0_weighWays_71 I e7 dX0_weighWays_61 ?_
      refine lv_icmp_ge (tgt := 117) S.1 S.2.1 dX0_weighWays_64 (by decide) (fun q8 => ?_) (fun q8 => ?_)
      · have f := (if_pos q8).symm.trans f
        refine lv_iinc (v := (x6 + 1)) (lv' := [(6, .int (x6 + 1)), (0, .ref (b + a0)), (1, .ref (b + a1)), (2, .ref (b + a2)), (3, .int x3), (4, .int x4), (5, .int x5), (7, .int x7), (8, .int x8)]) S.1 S.2.1 dX0_weighWays_117 hl (k := 6) rfl (congrArg (fun z => x6 + z) (by decide)) (by decide) rfl (fun ls hl => ?_)
        refine lv_goto (tgt := 3) S.1 S.2.1 dX0_weighWays_120 (by decide) ?_
        exact hk3 f _ _ I _ (lv_sub hl [1, 2, 3, 4, 5, 6, 0] rfl)
      · have f := (if_neg q8).symm.trans f
        refine lv_iload S.1 S.2.1 dX0_weighWays_67 (lv_at hl 4 rfl) ?_
        refine lv_iload S.1 S.2.1 dX0_weighWays_69 (lv_at hl 6 rfl) ?_
        refine lv_iadd S.1 S.2.1 dX0_weighWays_71 ?_
        refine lv_bipush (v := 28) S.1 S.2.1 dX0_weighWays_72 (by decide) ?_
        refine lv_imul S.1 S.2.1 dX0_weighWays_74 ?_
        refine lv_iload S.1 S.2.1 dX0_weighWays_75 (lv_at hl 8 rfl) ?_
        refine lv_iadd S.1 S.2.1 dX0_weighWays_77 ?_
        refine lv_istore (lv' := [(9, .int (((x4 + x6) * 28) + x8)), (0, .ref (b + a0)), (1, .ref (b + a1)), (2, .ref (b + a2)), (3, .int x3), (4, .int x4), (5, .int x5), (6, .int x6), (7, .int x7), (8, .int x8)]) S.1 S.2.1 dX0_weighWays_78 hl (by decide) rfl (fun ls hl => ?_)
        refine lv_aload_n S.1 S.2.1 dX0_weighWays_80 rfl (lv_at hl 1 rfl) ?_
        obtain ⟨r9, e10, f⟩ := ob f
        refine o_gR S lf0_weighWays_15 I e10 dX0_weighWays_81 ?_
        refine lv_iload S.1 S.2.1 dX0_weighWays_84 (lv_at hl 0 rfl) ?_
        refine lv_aload_n S.1 S.2.1 dX0_weighWays_86 rfl (lv_at hl 2 rfl) ?_
        refine lv_iload S.1 S.2.1 dX0_weighWays_87 (lv_at hl 8 rfl) ?_
        refine lv_iload S.1 S.2.1 dX0_weighWays_89 (lv_at hl 9 rfl) ?_
        obtain ⟨o11, e12, f⟩ := ob f
        refine o_Vi S (As := [.int x7, .int x8]) (rest := [.int (((x4 + x6) * 28) + x8), .ref (b + r9)]) (ci := 6) (M6_farOf l D cy b A fl e12) gX0_weighWays_X6_farOf rfl rfl rfl cd6_farOf ⟨Nat.le_of_ble_eq_true rfl, Nat.le_of_ble_eq_true rfl⟩ I (gd e12).1 clX6 rfl rfl hl.1 rfl (Nat.le_of_ble_eq_true rfl) dX0_weighWays_91 ⟨Nat.le_of_ble_eq_true rfl, Nat.le_of_ble_eq_true rfl⟩ (fun H locs I => ?_)
        obtain ⟨h14, e13, f⟩ := ob f
        refine o_iast S I e13 dX0_weighWays_94 (fun H locs I => ?_)
        refine lv_aload_n S.1 S.2.1 dX0_weighWays_95 rfl (lv_at hl 1 rfl) ?_
        obtain ⟨r15, e16, f⟩ := ob f
        refine o_gR S lf0_weighWays_18 I e16 dX0_weighWays_96 ?_
        refine lv_iload S.1 S.2.1 dX0_weighWays_99 (lv_at hl 0 rfl) ?_
        refine lv_aload_n S.1 S.2.1 dX0_weighWays_101 rfl (lv_at hl 2 rfl) ?_
        refine lv_iload_n S.1 S.2.1 dX0_weighWays_102 rfl (lv_at hl 4 rfl) ?_
        refine lv_iload S.1 S.2.1 dX0_weighWays_103 (lv_at hl 9 rfl) ?_
        refine lv_iload S.1 S.2.1 dX0_weighWays_105 (lv_at hl 8 rfl) ?_
        obtain ⟨o17, e18, f⟩ := ob f
        refine o_Vi S (As := [.int x3, .int x8, .int x7]) (rest := [.int (((x4 + x6) * 28) + x8), .ref (b + r15)]) (ci := 6) (M6_worthAt l D cy b A fl e18) gX0_weighWays_X6_worthAt rfl rfl rfl cd6_worthAt ⟨Nat.le_of_ble_eq_true rfl, Nat.le_of_ble_eq_true rfl⟩ I (gd e18).1 clX6 rfl rfl hl.1 rfl (Nat.le_of_ble_eq_true rfl) dX0_weighWays_107 ⟨Nat.le_of_ble_eq_true rfl, Nat.le_of_ble_eq_true rfl⟩ (fun H locs I => ?_)
        obtain ⟨h20, e19, f⟩ := ob f
        refine o_iast S I e19 dX0_weighWays_110 (fun H locs I => ?_)
        refine lv_iinc (v := (x8 + 1)) (lv' := [(8, .int (x8 + 1)), (9, .int (((x4 + x6) * 28) + x8)), (0, .ref (b + a0)), (1, .ref (b + a1)), (2, .ref (b + a2)), (3, .int x3), (4, .int x4), (5, .int x5), (6, .int x6), (7, .int x7)]) S.1 S.2.1 dX0_weighWays_111 hl (k := 9) rfl (congrArg (fun z => x8 + z) (by decide)) (by decide) rfl (fun ls hl => ?_)
        refine lv_goto (tgt := 46) S.1 S.2.1 dX0_weighWays_114 (by decide) ?_
        exact ih f I (lv_sub hl [2, 3, 4, 5, 6, 7, 8, 9, 0] rfl)
set_option maxHeartbeats 4000000 in
set_option maxRecDepth 100000 in
theorem T0_weighWays_3 (S : CallFix p m c cX0_weighWays 10 s args vX0_weighWays RX0) (hr : meth.sig.returnType = none) (hlo : meth.locks = false) {out : PH} : ∀ (n : Nat) {h : PH} {a0 : Nat} {a1 : Nat} {a2 : Nat} {x3 : Int32} {x4 : Int32} {x5 : Int32} {x6 : Int32} (f : F0_weighWays_3  n h a0 a1 a2 x3 x4 x5 x6 = some out) {H : Heap} {locs : List Loc} (I : ph_I D cy b A fl h s H locs) {ls : Array Slot} (hl : lv_has ls 10 [(0, .ref (b + a0)), (1, .ref (b + a1)), (2, .ref (b + a2)), (3, .int x3), (4, .int x4), (5, .int x5), (6, .int x6)]), W p l e ({ frames := 5, cells := 0, slots := 0, locals := 126 } : Room) s m args below meth c H locs 0 0 (MQ below (va_Qv (fun (u : PH) => u = out) (ph_B D cy b A fl) A) args s 0 0 A) (F0 m 3 ls []) := by
  intro n
  induction n with
  | zero => intro h a0 a1 a2 x3 x4 x5 x6 f; rw [F0_weighWays_3] at f; cases f
  | succ n ih =>
    intro h a0 a1 a2 x3 x4 x5 x6 f H locs I ls hl
    rw [F0_weighWays_3] at f
    refine lv_iload S.1 S.2.1 dX0_weighWays_3 (lv_at hl 6 rfl) ?_
    refine lv_iconst (v := 5) S.1 S.2.1 dX0_weighWays_5 (by decide) ?_
    refine lv_icmp_ge (tgt := 123) S.1 S.2.1 dX0_weighWays_6 (by decide) (fun q1 => ?_) (fun q1 => ?_)
    · have f := (if_pos q1).symm.trans f
      exact o_vret S hr hlo I f dX0_weighWays_123
    · have f := (if_neg q1).symm.trans f
      refine lv_aload_n S.1 S.2.1 dX0_weighWays_9 rfl (lv_at hl 1 rfl) ?_
      obtain ⟨r2, e3, f⟩ := ob f
      refine o_gR S lf0_weighWays_43 I e3 dX0_weighWays_10 ?_
      refine lv_aload_n S.1 S.2.1 dX0_weighWays_13 rfl (lv_at hl 2 rfl) ?_
      obtain ⟨r4, e5, f⟩ := ob f
      refine o_gR S lf0_weighWays_81 I e5 dX0_weighWays_14 ?_
      refine lv_iload_n S.1 S.2.1 dX0_weighWays_17 rfl (lv_at hl 3 rfl) ?_
      obtain ⟨v7, e6, f⟩ := ob f
      refine o_iald S I e6 dX0_weighWays_18 ?_
      refine o_gws S I dX0_weighWays_19 (fun g8 z9 => ?_)
      refine lv_iload S.1 S.2.1 dX0_weighWays_22 (lv_at hl 6 rfl) ?_
      obtain ⟨v11, e10, f⟩ := ob f
      refine o_gwald S I z9 e10 dX0_weighWays_24 ?_
      obtain ⟨o12, e13, f⟩ := ob f
      refine o_Vi S (As := [.int v7, .int v11]) (rest := []) (ci := 8) (M8_cellBeside l D cy b A fl e13) gX0_weighWays_X8_cellBeside rfl rfl rfl cd8_cellBeside ⟨Nat.le_of_ble_eq_true rfl, Nat.le_of_ble_eq_true rfl⟩ I (gd e13).1 clX8 rfl rfl hl.1 rfl (Nat.le_of_ble_eq_true rfl) dX0_weighWays_25 ⟨Nat.le_of_ble_eq_true rfl, Nat.le_of_ble_eq_true rfl⟩ (fun H locs I => ?_)
      refine lv_istore (lv' := [(7, .int o12.1), (0, .ref (b + a0)), (1, .ref (b + a1)), (2, .ref (b + a2)), (3, .int x3), (4, .int x4), (5, .int x5), (6, .int x6)]) S.1 S.2.1 dX0_weighWays_28 hl (by decide) rfl (fun ls hl => ?_)
      refine lv_aload_n S.1 S.2.1 dX0_weighWays_30 rfl (lv_at hl 1 rfl) ?_
      obtain ⟨r14, e15, f⟩ := ob f
      refine o_gR S lf0_weighWays_9 I e15 dX0_weighWays_31 ?_
      refine lv_iload S.1 S.2.1 dX0_weighWays_34 (lv_at hl 5 rfl) ?_
      refine lv_iload S.1 S.2.1 dX0_weighWays_36 (lv_at hl 7 rfl) ?_
      refine lv_iadd S.1 S.2.1 dX0_weighWays_38 ?_
      refine lv_iload S.1 S.2.1 dX0_weighWays_39 (lv_at hl 0 rfl) ?_
      obtain ⟨h17, e16, f⟩ := ob f
      refine o_iast S I e16 dX0_weighWays_41 (fun H locs I => ?_)
      refine lv_iload S.1 S.2.1 dX0_weighWays_42 (lv_at hl 6 rfl) ?_
      refine lv_istore (lv' := [(8, .int x5), (7, .int o12.1), (0, .ref (b + a0)), (1, .ref (b + a1)), (2, .ref (b + a2)), (3, .int x3), (4, .int x4), (5, .int x5), (6, .int x6)]) S.1 S.2.1 dX0_weighWays_44 hl (by decide) rfl (fun ls hl => ?_)
      exact T0_weighWays_46 S hr hlo (fun f _ _ I _ hl => ih f I hl) 1024 f I (lv_sub hl [2, 3, 4, 5, 6, 7, 8, 1, 0] rfl)
set_option maxHeartbeats 4000000 in
set_option maxRecDepth 100000 in
theorem T0_weighWays_0 (S : CallFix p m c cX0_weighWays 10 s args vX0_weighWays RX0) (hr : meth.sig.returnType = none) (hlo : meth.locks = false) {out : PH} {h : PH} {a0 : Nat} {a1 : Nat} {a2 : Nat} {x3 : Int32} {x4 : Int32} {x5 : Int32} (f : F0_weighWays_0  h a0 a1 a2 x3 x4 x5 = some out) {H : Heap} {locs : List Loc} (I : ph_I D cy b A fl h s H locs) {ls : Array Slot} (hl : lv_has ls 10 [(0, .ref (b + a0)), (1, .ref (b + a1)), (2, .ref (b + a2)), (3, .int x3), (4, .int x4), (5, .int x5)]) : W p l e ({ frames := 5, cells := 0, slots := 0, locals := 126 } : Room) s m args below meth c H locs 0 0 (MQ below (va_Qv (fun (u : PH) => u = out) (ph_B D cy b A fl) A) args s 0 0 A) (F0 m 0 ls []) := by
  unfold F0_weighWays_0 at f
  refine lv_iconst (v := 0) S.1 S.2.1 dX0_weighWays_0 (by decide) ?_
  refine lv_istore (lv' := [(6, .int 0), (0, .ref (b + a0)), (1, .ref (b + a1)), (2, .ref (b + a2)), (3, .int x3), (4, .int x4), (5, .int x5)]) S.1 S.2.1 dX0_weighWays_1 hl (by decide) rfl (fun ls hl => ?_)
  exact T0_weighWays_3 S hr hlo  1024 f I (lv_sub hl [1, 2, 3, 4, 5, 6, 0] rfl)
theorem M0_weighWays (l : Launch) (D : va_G) (cy : Nat → ClassId) (b : Nat) (A : Nat → Prop) (fl : Bool) {h : PH} {a0 : Nat} {a1 : Nat} {a2 : Nat} {x3 : Int32} {x4 : Int32} {x5 : Int32} {out : PH} (f : F0_weighWays h a0 a1 a2 x3 x4 x5 = some out) : Met l yX0_weighWays vX0_weighWays ({ frames := 5, cells := 0, slots := 0, locals := 126 } : Room) (va_Pc [.ref (b + a0), .ref (b + a1), .ref (b + a2), .int x3, .int x4, .int x5] (ph_B D cy b A fl h)) (va_Qv (fun (u : PH) => u = out) (ph_B D cy b A fl) A) 0 0 A :=
  o_met (by decide) rfl (Nat.le_of_ble_eq_true rfl) rfl (fun p e s m below meth c S hr hlo hnm ls hl I => T0_weighWays_0 S hr hlo ((gd f).2) I (lv_sub hl [0, 1, 2, 3, 4, 5] rfl))
def vX0_sharePair : List Cond := .code yX0_sharePair cX0_sharePair 11 none :: TB
theorem lf0_sharePair_18 : Fl vX0_sharePair RX0 18 0 2 := ⟨RX0, TX0, 13, rfl, by decide, (fun w h9 => List.mem_cons_of_mem _ (wC_wsX00 w h9)), (List.mem_cons_of_mem _ wT_9_9)⟩
theorem lf0_sharePair_21 : Fl vX0_sharePair RX0 21 0 3 := ⟨RX0, TX0, 13, rfl, by decide, (fun w h9 => List.mem_cons_of_mem _ (wC_wsX00 w h9)), (List.mem_cons_of_mem _ wT_9_10)⟩
theorem lf0_sharePair_24 : Fl vX0_sharePair RX0 24 0 4 := ⟨RX0, TX0, 13, rfl, by decide, (fun w h9 => List.mem_cons_of_mem _ (wC_wsX00 w h9)), (List.mem_cons_of_mem _ wT_9_11)⟩
theorem lf0_sharePair_15 : Fl vX0_sharePair RX0 15 0 1 := ⟨RX0, TX0, 13, rfl, by decide, (fun w h9 => List.mem_cons_of_mem _ (wC_wsX00 w h9)), (List.mem_cons_of_mem _ wT_9_8)⟩
theorem cd0_sharePair : Cd yX0_sharePair 5 := ⟨by decide, by decide, by decide +kernel⟩
set_option maxHeartbeats 4000000 in
set_option maxRecDepth 100000 in
theorem T0_sharePair_75 (S : CallFix p m c cX0_sharePair 11 s args vX0_sharePair RX0) (hr : meth.sig.returnType = none) (hlo : meth.locks = false) {out : PH} {k9 : PH → Nat → Int32 → Int32 → Int32 → Int32 → Int32 → Int32 → Int32 → Option (PH)} (hk9 : ∀ {h : PH} {a0 : Nat} {x1 : Int32} {x2 : Int32} {x4 : Int32} {x5 : Int32} {x6 : Int32} {x7 : Int32} {x8 : Int32}, k9 h a0 x1 x2 x4 x5 x6 x7 x8 = some out → ∀ (H : Heap) (locs : List Loc), ph_I D cy b A fl h s H locs → ∀ (ls : Array Slot), lv_has ls 11 [(0, .ref (b + a0)), (1, .int x1), (2, .int x2), (4, .int x4), (5, .int x5), (6, .int x6), (7, .int x7), (8, .int x8)] → W p l e ({ frames := 0, cells := 0, slots := 0, locals := 0 } : Room) s m args below meth c H locs 0 0 (MQ below (va_Qv (fun (u : PH) => u = out) (ph_B D cy b A fl) A) args s 0 0 A) (F0 m 9 ls [])) {h : PH} {a0 : Nat} {x1 : Int32} {x2 : Int32} {x4 : Int32} {x5 : Int32} {x6 : Int32} {x7 : Int32} {x8 : Int32} {x9 : Int32} (f : F0_sharePair_75 k9 h a0 x1 x2 x4 x5 x6 x7 x8 x9 = some out) {H : Heap} {locs : List Loc} (I : ph_I D cy b A fl h s H locs) {ls : Array Slot} (hl : lv_has ls 11 [(0, .ref (b + a0)), (1, .int x1), (2, .int x2), (4, .int x4), (5, .int x5), (6, .int x6), (7, .int x7), (8, .int x8), (9, .int x9)]) : W p l e ({ frames := 0, cells := 0, slots := 0, locals := 0 } : Room) s m args below meth c H locs 0 0 (MQ below (va_Qv (fun (u : PH) => u = out) (ph_B D cy b A fl) A) args s 0 0 A) (F0 m 75 ls []) := by
  unfold F0_sharePair_75 at f
  refine lv_iload S.1 S.2.1 dX0_sharePair_75 (lv_at hl 5 rfl) ?_
  refine lv_aload_n S.1 S.2.1 dX0_sharePair_77 rfl (lv_at hl 0 rfl) ?_
  obtain ⟨r1, e2, f⟩ := ob f
  refine o_gR S lf0_sharePair_18 I e2 dX0_sharePair_78 ?_
  refine lv_iload S.1 S.2.1 dX0_sharePair_81 (lv_at hl 8 rfl) ?_
  obtain ⟨v4, e3, f⟩ := ob f
  refine o_iald S I e3 dX0_sharePair_83 ?_
  refine lv_iadd S.1 S.2.1 dX0_sharePair_84 ?_
  refine lv_istore (lv' := [(6, .int (x6 + v4)), (0, .ref (b + a0)), (1, .int x1), (2, .int x2), (4, .int x4), (5, .int x5), (7, .int x7), (8, .int x8), (9, .int x9)]) S.1 S.2.1 dX0_sharePair_85 hl (by decide) rfl (fun ls hl => ?_)
  refine lv_goto (tgt := 102) S.1 S.2.1 dX0_sharePair_87 (by decide) ?_
  refine lv_iinc (v := (x8 + 1)) (lv' := [(8, .int (x8 + 1)), (6, .int (x6 + v4)), (0, .ref (b + a0)), (1, .int x1), (2, .int x2), (4, .int x4), (5, .int x5), (7, .int x7), (9, .int x9)]) S.1 S.2.1 dX0_sharePair_102 hl (k := 7) rfl (congrArg (fun z => x8 + z) (by decide)) (by decide) rfl (fun ls hl => ?_)
  refine lv_goto (tgt := 9) S.1 S.2.1 dX0_sharePair_105 (by decide) ?_
  exact hk9 f _ _ I _ (lv_sub hl [2, 3, 4, 5, 6, 1, 7, 0] rfl)
set_option maxHeartbeats 4000000 in
set_option maxRecDepth 100000 in
theorem T0_sharePair_90 (S : CallFix p m c cX0_sharePair 11 s args vX0_sharePair RX0) (hr : meth.sig.returnType = none) (hlo : meth.locks = false) {out : PH} {k9 : PH → Nat → Int32 → Int32 → Int32 → Int32 → Int32 → Int32 → Int32 → Option (PH)} (hk9 : ∀ {h : PH} {a0 : Nat} {x1 : Int32} {x2 : Int32} {x4 : Int32} {x5 : Int32} {x6 : Int32} {x7 : Int32} {x8 : Int32}, k9 h a0 x1 x2 x4 x5 x6 x7 x8 = some out → ∀ (H : Heap) (locs : List Loc), ph_I D cy b A fl h s H locs → ∀ (ls : Array Slot), lv_has ls 11 [(0, .ref (b + a0)), (1, .int x1), (2, .int x2), (4, .int x4), (5, .int x5), (6, .int x6), (7, .int x7), (8, .int x8)] → W p l e ({ frames := 0, cells := 0, slots := 0, locals := 0 } : Room) s m args below meth c H locs 0 0 (MQ below (va_Qv (fun (u : PH) => u = out) (ph_B D cy b A fl) A) args s 0 0 A) (F0 m 9 ls [])) {h : PH} {a0 : Nat} {x1 : Int32} {x2 : Int32} {x4 : Int32} {x5 : Int32} {x6 : Int32} {x7 : Int32} {x8 : Int32} {x10 : Int32} (f : F0_sharePair_90 k9 h a0 x1 x2 x4 x5 x6 x7 x8 x10 = some out) {H : Heap} {locs : List Loc} (I : ph_I D cy b A fl h s H locs) {ls : Array Slot} (hl : lv_has ls 11 [(0, .ref (b + a0)), (1, .int x1), (2, .int x2), (4, .int x4), (5, .int x5), (6, .int x6), (7, .int x7), (8, .int x8), (10, .int x10)]) : W p l e ({ frames := 0, cells := 0, slots := 0, locals := 0 } : Room) s m args below meth c H locs 0 0 (MQ below (va_Qv (fun (u : PH) => u = out) (ph_B D cy b A fl) A) args s 0 0 A) (F0 m 90 ls []) := by
  unfold F0_sharePair_90 at f
  refine lv_iload S.1 S.2.1 dX0_sharePair_90 (lv_at hl 6 rfl) ?_
  refine lv_aload_n S.1 S.2.1 dX0_sharePair_92 rfl (lv_at hl 0 rfl) ?_
  obtain ⟨r1, e2, f⟩ := ob f
  refine o_gR S lf0_sharePair_18 I e2 dX0_sharePair_93 ?_
  refine lv_iload S.1 S.2.1 dX0_sharePair_96 (lv_at hl 8 rfl) ?_
  obtain ⟨v4, e3, f⟩ := ob f
  refine o_iald S I e3 dX0_sharePair_98 ?_
  refine lv_iadd S.1 S.2.1 dX0_sharePair_99 ?_
  refine lv_istore (lv' := [(7, .int (x7 + v4)), (0, .ref (b + a0)), (1, .int x1), (2, .int x2), (4, .int x4), (5, .int x5), (6, .int x6), (8, .int x8), (10, .int x10)]) S.1 S.2.1 dX0_sharePair_100 hl (by decide) rfl (fun ls hl => ?_)
  refine lv_iinc (v := (x8 + 1)) (lv' := [(8, .int (x8 + 1)), (7, .int (x7 + v4)), (0, .ref (b + a0)), (1, .int x1), (2, .int x2), (4, .int x4), (5, .int x5), (6, .int x6), (10, .int x10)]) S.1 S.2.1 dX0_sharePair_102 hl (k := 7) rfl (congrArg (fun z => x8 + z) (by decide)) (by decide) rfl (fun ls hl => ?_)
  refine lv_goto (tgt := 9) S.1 S.2.1 dX0_sharePair_105 (by decide) ?_
  exact hk9 f _ _ I _ (lv_sub hl [2, 3, 4, 5, 6, 7, 1, 0] rfl)
set_option maxHeartbeats 4000000 in
set_option maxRecDepth 100000 in
theorem T0_sharePair_9 (S : CallFix p m c cX0_sharePair 11 s args vX0_sharePair RX0) (hr : meth.sig.returnType = none) (hlo : meth.locks = false) {out : PH} : ∀ (n : Nat) {h : PH} {a0 : Nat} {x1 : Int32} {x2 : Int32} {x4 : Int32} {x5 : Int32} {x6 : Int32} {x7 : Int32} {x8 : Int32} (f : F0_sharePair_9  n h a0 x1 x2 x4 x5 x6 x7 x8 = some out) {H : Heap} {locs : List Loc} (I : ph_I D cy b A fl h s H locs) {ls : Array Slot} (hl : lv_has ls 11 [(0, .ref (b + a0)), (1, .int x1), (2, .int x2), (4, .int x4), (5, .int x5), (6, .int x6), (7, .int x7), (8, .int x8)]), W p l e ({ frames := 0, cells := 0, slots := 0, locals := 0 } : Room) s m args below meth c H locs 0 0 (MQ below (va_Qv (fun (u : PH) => u = out) (ph_B D cy b A fl) A) args s 0 0 A) (F0 m 9 ls []) := by
  intro n
  induction n with
  | zero => intro h a0 x1 x2 x4 x5 x6 x7 x8 f; rw [F0_sharePair_9] at f; cases f
  | succ n ih =>
    intro h a0 x1 x2 x4 x5 x6 x7 x8 f H locs I ls hl
    rw [F0_sharePair_9] at f
    refine lv_iload S.1 S.2.1 dX0_sharePair_9 (lv_at hl 7 rfl) ?_
    refine lv_iload S.1 S.2.1 dX0_sharePair_11 (lv_at hl 3 rfl) ?_
    refine lv_icmp_ge (tgt := 108) S.1 S.2.1 dX0_sharePair_13 (by decide) (fun q1 => ?_) (fun q1 => ?_)
    · have f := (if_pos q1).symm.trans f
      refine lv_aload_n S.1 S.2.1 dX0_sharePair_108 rfl (lv_at hl 0 rfl) ?_
      obtain ⟨r2, e3, f⟩ := ob f
      refine o_gR S lf0_sharePair_21 I e3 dX0_sharePair_109 ?_
      refine lv_iload_n S.1 S.2.1 dX0_sharePair_112 rfl (lv_at hl 1 rfl) ?_
      refine lv_iconst (v := 5) S.1 S.2.1 dX0_sharePair_113 (by decide) ?_
      refine lv_imul S.1 S.2.1 dX0_sharePair_114 ?_
      refine lv_iload_n S.1 S.2.1 dX0_sharePair_115 rfl (lv_at hl 2 rfl) ?_
      refine lv_iadd S.1 S.2.1 dX0_sharePair_116 ?_
      refine lv_iload S.1 S.2.1 dX0_sharePair_117 (lv_at hl 5 rfl) ?_
      obtain ⟨h5, e4, f⟩ := ob f
      refine o_iast S I e4 dX0_sharePair_119 (fun H locs I => ?_)
      refine lv_aload_n S.1 S.2.1 dX0_sharePair_120 rfl (lv_at hl 0 rfl) ?_
      obtain ⟨r6, e7, f⟩ := ob f
      refine o_gR S lf0_sharePair_24 I e7 dX0_sharePair_121 ?_
      refine lv_iload_n S.1 S.2.1 dX0_sharePair_124 rfl (lv_at hl 1 rfl) ?_
      refine lv_iconst (v := 5) S.1 S.2.1 dX0_sharePair_125 (by decide) ?_
      refine lv_imul S.1 S.2.1 dX0_sharePair_126 ?_
      refine lv_iload_n S.1 S.2.1 dX0_sharePair_127 rfl (lv_at hl 2 rfl) ?_
      refine lv_iadd S.1 S.2.1 dX0_sharePair_128 ?_
      refine lv_iload S.1 S.2.1 dX0_sharePair_129 (lv_at hl 6 rfl) ?_
      obtain ⟨h9, e8, f⟩ := ob f
      refine o_iast S I e8 dX0_sharePair_131 (fun H locs I => ?_)
      exact o_vret S hr hlo I f dX0_sharePair_132
    · have f := (if_neg q1).symm.trans f
      refine lv_iload_n S.1 S.2.1 dX0_sharePair_16 rfl (lv_at hl 1 rfl) ?_
      refine lv_bipush (v := 28) S.1 S.2.1 dX0_sharePair_17 (by decide) ?_
      refine lv_imul S.1 S.2.1 dX0_sharePair_19 ?_
      refine lv_iload S.1 S.2.1 dX0_sharePair_20 (lv_at hl 7 rfl) ?_
      refine lv_iadd S.1 S.2.1 dX0_sharePair_22 ?_
      refine lv_istore (lv' := [(9, .int ((x1 * 28) + x8)), (0, .ref (b + a0)), (1, .int x1), (2, .int x2), (4, .int x4), (5, .int x5), (6, .int x6), (7, .int x7), (8, .int x8)]) S.1 S.2.1 dX0_sharePair_23 hl (by decide) rfl (fun ls hl => ?_)
      refine lv_iconst (v := 5) S.1 S.2.1 dX0_sharePair_25 (by decide) ?_
      refine lv_iload_n S.1 S.2.1 dX0_sharePair_26 rfl (lv_at hl 3 rfl) ?_
      refine lv_iadd S.1 S.2.1 dX0_sharePair_27 ?_
      refine lv_bipush (v := 28) S.1 S.2.1 dX0_sharePair_28 (by decide) ?_
      refine lv_imul S.1 S.2.1 dX0_sharePair_30 ?_
      refine lv_iload S.1 S.2.1 dX0_sharePair_31 (lv_at hl 8 rfl) ?_
      refine lv_iadd S.1 S.2.1 dX0_sharePair_33 ?_
      refine lv_istore (lv' := [(10, .int (((5 + x2) * 28) + x8)), (9, .int ((x1 * 28) + x8)), (0, .ref (b + a0)), (1, .int x1), (2, .int x2), (4, .int x4), (5, .int x5), (6, .int x6), (7, .int x7), (8, .int x8)]) S.1 S.2.1 dX0_sharePair_34 hl (by decide) rfl (fun ls hl => ?_)
      refine lv_aload_n S.1 S.2.1 dX0_sharePair_36 rfl (lv_at hl 2 rfl) ?_
      obtain ⟨r10, e11, f⟩ := ob f
      refine o_gR S lf0_sharePair_15 I e11 dX0_sharePair_37 ?_
      refine lv_iload S.1 S.2.1 dX0_sharePair_40 (lv_at hl 1 rfl) ?_
      obtain ⟨v13, e12, f⟩ := ob f
      refine o_iald S I e12 dX0_sharePair_42 ?_
      refine lv_aload_n S.1 S.2.1 dX0_sharePair_43 rfl (lv_at hl 2 rfl) ?_
      obtain ⟨r14, e15, f⟩ := ob f
      refine o_gR S lf0_sharePair_15 I e15 dX0_sharePair_44 ?_
      refine lv_iload S.1 S.2.1 dX0_sharePair_47 (lv_at hl 0 rfl) ?_
      obtain ⟨v17, e16, f⟩ := ob f
      refine o_iald S I e16 dX0_sharePair_49 ?_
      refine lv_icmp_lt (tgt := 75) S.1 S.2.1 dX0_sharePair_50 (by decide) (fun q18 => ?_) (fun q18 => ?_)
      · have f := (if_pos q18).symm.trans f
        exact T0_sharePair_75 S hr hlo (fun f _ _ I _ hl => ih f I hl) f I (lv_sub hl [2, 3, 4, 5, 6, 7, 8, 9, 1] rfl)
      · have f := (if_neg q18).symm.trans f
        refine lv_aload_n S.1 S.2.1 dX0_sharePair_53 rfl (lv_at hl 2 rfl) ?_
        obtain ⟨r19, e20, f⟩ := ob f
        refine o_gR S lf0_sharePair_15 I e20 dX0_sharePair_54 ?_
        refine lv_iload S.1 S.2.1 dX0_sharePair_57 (lv_at hl 1 rfl) ?_
        obtain ⟨v22, e21, f⟩ := ob f
        refine o_iald S I e21 dX0_sharePair_59 ?_
        refine lv_aload_n S.1 S.2.1 dX0_sharePair_60 rfl (lv_at hl 2 rfl) ?_
        obtain ⟨r23, e24, f⟩ := ob f
        refine o_gR S lf0_sharePair_15 I e24 dX0_sharePair_61 ?_
        refine lv_iload S.1 S.2.1 dX0_sharePair_64 (lv_at hl 0 rfl) ?_
        obtain ⟨v26, e25, f⟩ := ob f
        refine o_iald S I e25 dX0_sharePair_66 ?_
        refine lv_icmp_ne (tgt := 90) S.1 S.2.1 dX0_sharePair_67 (by decide) (fun q27 => ?_) (fun q27 => ?_)
        · have f := (if_neg q27).symm.trans f
          exact T0_sharePair_90 S hr hlo (fun f _ _ I _ hl => ih f I hl) f I (lv_sub hl [2, 3, 4, 5, 6, 7, 8, 9, 0] rfl)
        · have f := (if_pos q27).symm.trans f
          refine lv_iload S.1 S.2.1 dX0_sharePair_70 (lv_at hl 6 rfl) ?_
          refine lv_if_eq (tgt := 90) S.1 S.2.1 dX0_sharePair_72 (by decide) (fun q28 => ?_) (fun q28 => ?_)
          · have f := (if_pos q28).symm.trans f
            exact T0_sharePair_90 S hr hlo (fun f _ _ I _ hl => ih f I hl) f I (lv_sub hl [2, 3, 4, 5, 6, 7, 8, 9, 0] rfl)
          · have f := (if_neg q28).symm.trans f
            exact T0_sharePair_75 S hr hlo (fun f _ _ I _ hl => ih f I hl) f I (lv_sub hl [2, 3, 4, 5, 6, 7, 8, 9, 1] rfl)
end
