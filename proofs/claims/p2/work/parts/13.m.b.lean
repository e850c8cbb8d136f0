section
variable {p : Program} {l : Launch} {e : Env} {s : State} {m : MethodId} {args : Array Value} {below : List Frame} {meth : Method} {c : Code} {D : va_G} {cy : Nat → ClassId} {b : Nat} {A : Nat → Prop} {fl : Bool}
def vX5_readSeed : List Cond := .code yX5_readSeed cX5_readSeed 2 (some .boolean) :: TB
theorem gX5_readSeed_X5_isFirst : GoodIn vX5_readSeed (wsV RX5 100 RX5 yX5_isFirst vX5_isFirst) := gV_of wT_17_21 wT_17_22 wT_17_23 wT_1_22 wT_18_0
theorem gX5_readSeed_X5_numberIn : GoodIn vX5_readSeed (wsV RX5 103 RX5 yX5_numberIn vX5_numberIn) := gV_of wT_18_6 wT_18_7 wT_18_8 wT_1_22 wT_18_9
theorem lf5_readSeed_9 : Fl vX5_readSeed RX5 9 5 10 := ⟨RX5, TX5, 11, rfl, by decide, (fun w h9 => List.mem_cons_of_mem _ (wC_wsX50 w h9)), (List.mem_cons_of_mem _ wT_4_23)⟩
theorem lp5_readSeed_169 : Pl vX5_readSeed RX5 169 8 10 .int := ⟨RX8, TX8, 14, tyX8, rfl, by decide, (fun w h9 => List.mem_cons_of_mem _ (wC_wsX80 w h9)), (List.mem_cons_of_mem _ wT_21_7), tyX8_ok, nmX8, rfl, rfl⟩
theorem gX5_readSeed_X5_readStop : GoodIn vX5_readSeed (wsV RX5 112 RX5 yX5_readStop vX5_readStop) := gV_of wT_18_15 wT_18_16 wT_18_17 wT_1_22 wT_18_18
theorem cd5_readSeed : Cd yX5_readSeed 0 := ⟨by decide, by decide, by decide +kernel⟩
set_option maxHeartbeats 4000000 in
set_option maxRecDepth 100000 in
theorem T5_readSeed_0 (S : CallFix p m c cX5_readSeed 2 s args vX5_readSeed RX5) (hr : meth.sig.returnType = (some .boolean)) (hlo : meth.locks = false) {out : Int32 × PH} {h : PH} {a0 : Nat} (f : F5_readSeed_0  h a0 = some out) {H : Heap} {locs : List Loc} (I : ph_I D cy b A fl h s H locs) {ls : Array Slot} (hl : lv_has ls 2 [(0, .ref (b + a0))]) : W p l e ({ frames := 4, cells := 0, slots := 0, locals := 86 } : Room) s m args below meth c H locs 0 0 (MQ below (va_Qi (fun (r : Int32) (u : PH) => (r, u) = out) (ph_B D cy b A fl) A) args s 0 0 A) (F0 m 0 ls []) := by
  unfold F5_readSeed_0 at f
  refine lv_aload_n S.1 S.2.1 dX5_readSeed_0 rfl (lv_at hl 0 rfl) ?_
  refine lv_bipush (v := 6) S.1 S.2.1 dX5_readSeed_1 (by decide) ?_
  obtain ⟨o1, e2, f⟩ := ob f
  refine o_Vi S (As := [.int 6]) (rest := []) (ci := 5) (M5_isFirst l D cy b A fl e2) gX5_readSeed_X5_isFirst rfl rfl rfl cd5_isFirst ⟨Nat.le_of_ble_eq_true rfl, Nat.le_of_ble_eq_true rfl⟩ I (gd e2).1 clX5 rfl rfl hl.1 rfl (Nat.le_of_ble_eq_true rfl) dX5_readSeed_3 ⟨Nat.le_of_ble_eq_true rfl, Nat.le_of_ble_eq_true rfl⟩ (fun H locs I => ?_)
  refine lv_if_ne (tgt := 11) S.1 S.2.1 dX5_readSeed_6 (by decide) (fun q3 => ?_) (fun q3 => ?_)
  · have f := (if_neg q3).symm.trans f
    refine lv_aload_n S.1 S.2.1 dX5_readSeed_11 rfl (lv_at hl 0 rfl) ?_
    refine lv_iconst (v := 0) S.1 S.2.1 dX5_readSeed_12 (by decide) ?_
    refine lv_ldc (v := 99999) S.1 S.2.1 S.2.2.2.1 (S.2.2.2.2 _ (List.mem_cons_of_mem _ wT_21_6)) dX5_readSeed_13 ?_
    obtain ⟨o4, e5, f⟩ := ob f
    refine o_Vi S (As := [.int 0, .int 99999]) (rest := []) (ci := 5) (M5_numberIn l D cy b A fl e5) gX5_readSeed_X5_numberIn rfl rfl rfl cd5_numberIn ⟨Nat.le_of_ble_eq_true rfl, Nat.le_of_ble_eq_true rfl⟩ I (gd e5).1 clX5 rfl rfl hl.1 rfl (Nat.le_of_ble_eq_true rfl) dX5_readSeed_15 ⟨Nat.le_of_ble_eq_true rfl, Nat.le_of_ble_eq_true rfl⟩ (fun H locs I => ?_)
    refine lv_istore_n (lv' := [(1, .int o4.1), (0, .ref (b + a0))]) S.1 S.2.1 dX5_readSeed_18 rfl hl (by decide) rfl (fun ls hl => ?_)
    refine lv_iload_n S.1 S.2.1 dX5_readSeed_19 rfl (lv_at hl 0 rfl) ?_
    refine lv_iconst (v := (-1)) S.1 S.2.1 dX5_readSeed_20 (by decide) ?_
    refine lv_icmp_ne (tgt := 26) S.1 S.2.1 dX5_readSeed_21 (by decide) (fun q6 => ?_) (fun q6 => ?_)
    · have f := (if_neg q6).symm.trans f
      refine lv_aload_n S.1 S.2.1 dX5_readSeed_26 rfl (lv_at hl 1 rfl) ?_
      obtain ⟨r7, e8, f⟩ := ob f
      refine o_gR S lf5_readSeed_9 I e8 dX5_readSeed_27 ?_
      refine lv_iload_n S.1 S.2.1 dX5_readSeed_30 rfl (lv_at hl 0 rfl) ?_
      obtain ⟨h9, e10, f⟩ := ob f
      refine o_pI S lp5_readSeed_169 I e10 dX5_readSeed_31 (fun H locs I => ?_)
      refine lv_aload_n S.1 S.2.1 dX5_readSeed_34 rfl (lv_at hl 1 rfl) ?_
      obtain ⟨o11, e12, f⟩ := ob f
      refine o_Vi S (As := []) (rest := []) (ci := 5) (M5_readStop l D cy b A fl e12) gX5_readSeed_X5_readStop rfl rfl rfl cd5_readStop ⟨Nat.le_of_ble_eq_true rfl, Nat.le_of_ble_eq_true rfl⟩ I (gd e12).1 clX5 rfl rfl hl.1 rfl (Nat.le_of_ble_eq_true rfl) dX5_readSeed_35 ⟨Nat.le_of_ble_eq_true rfl, Nat.le_of_ble_eq_true rfl⟩ (fun H locs I => ?_)
      exact o_zret S hr hlo I f dX5_readSeed_38
    · have f := (if_pos q6).symm.trans f
      refine lv_iconst (v := 0) S.1 S.2.1 dX5_readSeed_24 (by decide) ?_
      exact o_zret S hr hlo I f dX5_readSeed_25
  · have f := (if_pos q3).symm.trans f
    refine lv_iconst (v := 0) S.1 S.2.1 dX5_readSeed_9 (by decide) ?_
    exact o_zret S hr hlo I f dX5_readSeed_10
theorem M5_readSeed (l : Launch) (D : va_G) (cy : Nat → ClassId) (b : Nat) (A : Nat → Prop) (fl : Bool) {h : PH} {a0 : Nat} {out : Int32 × PH} (f : F5_readSeed h a0 = some out) : Met l yX5_readSeed vX5_readSeed ({ frames := 4, cells := 0, slots := 0, locals := 86 } : Room) (va_Pc [.ref (b + a0)] (ph_B D cy b A fl h)) (va_Qi (fun (r : Int32) (u : PH) => (r, u) = out) (ph_B D cy b A fl) A) 0 0 A :=
  o_met (by decide) rfl (Nat.le_of_ble_eq_true rfl) rfl (fun p e s m below meth c S hr hlo hnm ls hl I => T5_readSeed_0 S hr hlo ((gd f).2) I (lv_sub hl [0] rfl))
def vX5_readKind : List Cond := .code yX5_readKind cX5_readKind 2 (some (.object "WhoseWave$Law")) :: TB
theorem gX5_readKind_X5_refuse : GoodIn vX5_readKind (wsV RX5 89 RX5 yX5_refuse vX5_refuse) := gV_of wT_18_1 wT_18_2 wT_18_3 wT_1_22 wT_18_4
theorem lf5_readKind_18 : Fl vX5_readKind RX5 18 5 0 := ⟨RX5, TX5, 11, rfl, by decide, (fun w h9 => List.mem_cons_of_mem _ (wC_wsX50 w h9)), (List.mem_cons_of_mem _ wT_5_3)⟩
theorem gX5_readKind_X7_advance : GoodIn vX5_readKind (wsV RX5 49 RX7 yX7_advance vX7_advance) := gV_of wT_15_21 wT_15_22 wT_15_23 wT_5_2 wT_16_0
theorem lf5_readKind_52 : Fl vX5_readKind RX5 52 7 4 := ⟨RX7, TX7, 7, rfl, by decide, (fun w h9 => List.mem_cons_of_mem _ (wC_wsX70 w h9)), (List.mem_cons_of_mem _ wT_14_7)⟩
theorem lf5_readKind_9 : Fl vX5_readKind RX5 9 5 10 := ⟨RX5, TX5, 11, rfl, by decide, (fun w h9 => List.mem_cons_of_mem _ (wC_wsX50 w h9)), (List.mem_cons_of_mem _ wT_4_23)⟩
theorem lf5_readKind_172 : Fl vX5_readKind RX5 172 8 11 := ⟨RX8, TX8, 14, rfl, by decide, (fun w h9 => List.mem_cons_of_mem _ (wC_wsX80 w h9)), (List.mem_cons_of_mem _ wT_21_20)⟩
theorem lf5_readKind_176 : Fl vX5_readKind RX5 176 2 2 := ⟨RX2, TX2, 3, rfl, by decide, (fun w h9 => List.mem_cons_of_mem _ (wC_wsX20 w h9)), (List.mem_cons_of_mem _ wT_21_21)⟩
theorem lp5_readKind_176 : Pl vX5_readKind RX5 176 2 2 .boolean := ⟨RX2, TX2, 3, tyX2, rfl, by decide, (fun w h9 => List.mem_cons_of_mem _ (wC_wsX20 w h9)), (List.mem_cons_of_mem _ wT_21_21), tyX2_ok, nmX2, rfl, rfl⟩
theorem cd5_readKind : Cd yX5_readKind 0 := ⟨by decide, by decide, by decide +kernel⟩
set_option maxHeartbeats 4000000 in
set_option maxRecDepth 100000 in
theorem T5_readKind_27 (S : CallFix p m c cX5_readKind 2 s args vX5_readKind RX5) (hr : meth.sig.returnType = (some (.object "WhoseWave$Law"))) (hlo : meth.locks = false) {out : Option Nat × PH} {h : PH} {a0 : Nat} (f : F5_readKind_27  h a0 = some out) {H : Heap} {locs : List Loc} (I : ph_I D cy b A fl h s H locs) {ls : Array Slot} (hl : lv_has ls 2 [(0, .ref (b + a0))]) : W p l e ({ frames := 3, cells := 0, slots := 0, locals := 64 } : Room) s m args below meth c H locs 0 0 (MQ below (va_Qq (fun (r : Option Nat) (u : PH) => (r, u) = (out.1.map (fun x => b + x), out.2)) (ph_B D cy b A fl) A) args s 0 0 A) (F0 m 27 ls []) := by
  unfold F5_readKind_27 at f
  refine lv_aload_n S.1 S.2.1 dX5_readKind_27 rfl (lv_at hl 0 rfl) ?_
  refine lv_iconst (v := 1) S.1 S.2.1 dX5_readKind_28 (by decide) ?_
  obtain ⟨o1, e2, f⟩ := ob f
  refine o_Vi S (As := [.int 1]) (rest := []) (ci := 5) (M5_refuse l D cy b A fl e2) gX5_readKind_X5_refuse rfl rfl rfl cd5_refuse ⟨Nat.le_of_ble_eq_true rfl, Nat.le_of_ble_eq_true rfl⟩ I (gd e2).1 clX5 rfl rfl hl.1 rfl (Nat.le_of_ble_eq_true rfl) dX5_readKind_29 ⟨Nat.le_of_ble_eq_true rfl, Nat.le_of_ble_eq_true rfl⟩ (fun H locs I => ?_)
  refine lv_pop S.1 S.2.1 dX5_readKind_32 rfl ?_
  refine lv_null S.1 S.2.1 dX5_readKind_33 ?_
  exact o_aretN S hr (Or.inl ⟨_, rfl⟩) hlo I f dX5_readKind_34
set_option maxHeartbeats 4000000 in
set_option maxRecDepth 100000 in
theorem T5_readKind_0 (S : CallFix p m c cX5_readKind 2 s args vX5_readKind RX5) (hr : meth.sig.returnType = (some (.object "WhoseWave$Law"))) (hlo : meth.locks = false) {out : Option Nat × PH} {h : PH} {a0 : Nat} (f : F5_readKind_0  h a0 = some out) {H : Heap} {locs : List Loc} (I : ph_I D cy b A fl h s H locs) {ls : Array Slot} (hl : lv_has ls 2 [(0, .ref (b + a0))]) : W p l e ({ frames := 3, cells := 0, slots := 0, locals := 64 } : Room) s m args below meth c H locs 0 0 (MQ below (va_Qq (fun (r : Option Nat) (u : PH) => (r, u) = (out.1.map (fun x => b + x), out.2)) (ph_B D cy b A fl) A) args s 0 0 A) (F0 m 0 ls []) := by
  unfold F5_readKind_0 at f
  refine lv_aload_n S.1 S.2.1 dX5_readKind_0 rfl (lv_at hl 0 rfl) ?_
  obtain ⟨r1, e2, f⟩ := ob f
  refine o_gR S lf5_readKind_18 I e2 dX5_readKind_1 ?_
  obtain ⟨o3, e4, f⟩ := ob f
  refine o_Vv S (As := []) (rest := []) (ci := 7) (M7_advance l D cy b A fl e4) gX5_readKind_X7_advance rfl rfl rfl cd7_advance ⟨Nat.le_of_ble_eq_true rfl, Nat.le_of_ble_eq_true rfl⟩ I (gd e4).1 clX7 rfl rfl hl.1 rfl (Nat.le_of_ble_eq_true rfl) dX5_readKind_4 ⟨Nat.le_of_ble_eq_true rfl, Nat.le_of_ble_eq_true rfl⟩ (fun H locs I => ?_)
  refine lv_aload_n S.1 S.2.1 dX5_readKind_7 rfl (lv_at hl 0 rfl) ?_
  obtain ⟨r5, e6, f⟩ := ob f
  refine o_gR S lf5_readKind_18 I e6 dX5_readKind_8 ?_
  obtain ⟨v7, e8, f⟩ := ob f
  refine o_gI S lf5_readKind_52 I e8 dX5_readKind_11 ?_
  refine lv_bipush (v := 12) S.1 S.2.1 dX5_readKind_14 (by decide) ?_
  refine lv_isub S.1 S.2.1 dX5_readKind_16 ?_
  refine lv_istore_n (lv' := [(1, .int (v7 - 12)), (0, .ref (b + a0))]) S.1 S.2.1 dX5_readKind_17 rfl hl (by decide) rfl (fun ls hl => ?_)
  refine lv_iload_n S.1 S.2.1 dX5_readKind_18 rfl (lv_at hl 0 rfl) ?_
  refine lv_if_lt (tgt := 27) S.1 S.2.1 dX5_readKind_19 (by decide) (fun q9 => ?_) (fun q9 => ?_)
  · have f := (if_pos q9).symm.trans f
    exact T5_readKind_27 S hr hlo  f I (lv_sub hl [1] rfl)
  · have f := (if_neg q9).symm.trans f
    refine lv_iload_n S.1 S.2.1 dX5_readKind_22 rfl (lv_at hl 0 rfl) ?_
    refine lv_iconst (v := 3) S.1 S.2.1 dX5_readKind_23 (by decide) ?_
    refine lv_icmp_lt (tgt := 35) S.1 S.2.1 dX5_readKind_24 (by decide) (fun q10 => ?_) (fun q10 => ?_)
    · have f := (if_pos q10).symm.trans f
      refine lv_aload_n S.1 S.2.1 dX5_readKind_35 rfl (lv_at hl 1 rfl) ?_
      obtain ⟨r11, e12, f⟩ := ob f
      refine o_gR S lf5_readKind_9 I e12 dX5_readKind_36 ?_
      obtain ⟨r13, e14, f⟩ := ob f
      refine o_gR S lf5_readKind_172 I e14 dX5_readKind_39 ?_
      refine lv_iload_n S.1 S.2.1 dX5_readKind_42 rfl (lv_at hl 0 rfl) ?_
      obtain ⟨r16, e15, f⟩ := ob f
      refine o_aald S I e15 dX5_readKind_43 ?_
      obtain ⟨v17, e18, f⟩ := ob f
      refine o_gI S lf5_readKind_176 I e18 dX5_readKind_44 ?_
      refine lv_if_eq (tgt := 58) S.1 S.2.1 dX5_readKind_47 (by decide) (fun q19 => ?_) (fun q19 => ?_)
      · have f := (if_pos q19).symm.trans f
        refine lv_aload_n S.1 S.2.1 dX5_readKind_58 rfl (lv_at hl 1 rfl) ?_
        obtain ⟨r20, e21, f⟩ := ob f
        refine o_gR S lf5_readKind_9 I e21 dX5_readKind_59 ?_
        obtain ⟨r22, e23, f⟩ := ob f
        refine o_gR S lf5_readKind_172 I e23 dX5_readKind_62 ?_
        refine lv_iload_n S.1 S.2.1 dX5_readKind_65 rfl (lv_at hl 0 rfl) ?_
        obtain ⟨r25, e24, f⟩ := ob f
        refine o_aald S I e24 dX5_readKind_66 ?_
        refine lv_iconst (v := 1) S.1 S.2.1 dX5_readKind_67 (by decide) ?_
        obtain ⟨h26, e27, f⟩ := ob f
        refine o_pZ S lp5_readKind_176 I e27 dX5_readKind_68 (fun H locs I => ?_)
        refine lv_aload_n S.1 S.2.1 dX5_readKind_71 rfl (lv_at hl 1 rfl) ?_
        obtain ⟨r28, e29, f⟩ := ob f
        refine o_gR S lf5_readKind_9 I e29 dX5_readKind_72 ?_
        obtain ⟨r30, e31, f⟩ := ob f
        refine o_gR S lf5_readKind_172 I e31 dX5_readKind_75 ?_
        refine lv_iload_n S.1 S.2.1 dX5_readKind_78 rfl (lv_at hl 0 rfl) ?_
        obtain ⟨r33, e32, f⟩ := ob f
        refine o_aald S I e32 dX5_readKind_79 ?_
        exact o_aret S hr (Or.inl ⟨_, rfl⟩) hlo I f dX5_readKind_80
      · have f := (if_neg q19).symm.trans f
        refine lv_aload_n S.1 S.2.1 dX5_readKind_50 rfl (lv_at hl 1 rfl) ?_
        refine lv_iconst (v := 3) S.1 S.2.1 dX5_readKind_51 (by decide) ?_
        obtain ⟨o34, e35, f⟩ := ob f
        refine o_Vi S (As := [.int 3]) (rest := []) (ci := 5) (M5_refuse l D cy b A fl e35) gX5_readKind_X5_refuse rfl rfl rfl cd5_refuse ⟨Nat.le_of_ble_eq_true rfl, Nat.le_of_ble_eq_true rfl⟩ I (gd e35).1 clX5 rfl rfl hl.1 rfl (Nat.le_of_ble_eq_true rfl) dX5_readKind_52 ⟨Nat.le_of_ble_eq_true rfl, Nat.le_of_ble_eq_true rfl⟩ (fun H locs I => ?_)
        refine lv_pop S.1 S.2.1 dX5_readKind_55 rfl ?_
        refine lv_null S.1 S.2.1 dX5_readKind_56 ?_
        exact o_aretN S hr (Or.inl ⟨_, rfl⟩) hlo I f dX5_readKind_57
    · have f := (if_neg q10).symm.trans f
      exact T5_readKind_27 S hr hlo  f I (lv_sub hl [1] rfl)
theorem M5_readKind (l : Launch) (D : va_G) (cy : Nat → ClassId) (b : Nat) (A : Nat → Prop) (fl : Bool) {h : PH} {a0 : Nat} {out : Option Nat × PH} (f : F5_readKind h a0 = some out) : Met l yX5_readKind vX5_readKind ({ frames := 3, cells := 0, slots := 0, locals := 64 } : Room) (va_Pc [.ref (b + a0)] (ph_B D cy b A fl h)) (va_Qq (fun (r : Option Nat) (u : PH) => (r, u) = (out.1.map (fun x => b + x), out.2)) (ph_B D cy b A fl) A) 0 0 A :=
  o_met (by decide) rfl (Nat.le_of_ble_eq_true rfl) rfl (fun p e s m below meth c S hr hlo hnm ls hl I => T5_readKind_0 S hr hlo ((gd f).2) I (lv_sub hl [0] rfl))
def vX5_strengthOf : List Cond := .code yX5_strengthOf cX5_strengthOf 1 (some .int) :: TB
theorem cd5_strengthOf : Cd yX5_strengthOf 1 := ⟨by decide, by decide, by decide +kernel⟩
set_option maxHeartbeats 4000000 in
set_option maxRecDepth 100000 in
theorem T5_strengthOf_0 (S : CallFix p m c cX5_strengthOf 1 s args vX5_strengthOf RX5) (hr : meth.sig.returnType = (some .int)) (hlo : meth.locks = false) {out : Int32 × PH} {h : PH} {x0 : Int32} (f : F5_strengthOf_0  h x0 = some out) {H : Heap} {locs : List Loc} (I : ph_I D cy b A fl h s H locs) {ls : Array Slot} (hl : lv_has ls 1 [(0, .int x0)]) : W p l e ({ frames := 0, cells := 0, slots := 0, locals := 0 } : Room) s m args below meth c H locs 0 0 (MQ below (va_Qi (fun (r : Int32) (u : PH) => (r, u) = out) (ph_B D cy b A fl) A) args s 0 0 A) (F0 m 0 ls []) := by
  unfold F5_strengthOf_0 at f
  refine lv_iload_n S.1 S.2.1 dX5_strengthOf_0 rfl (lv_at hl 0 rfl) ?_
  rcases Decidable.em (x0 = 15) with q1 | q1
  · have f := (if_pos q1).symm.trans f
    refine lv_tableIn (off := 103) (tgt := 104) S.1 S.2.1 dX5_strengthOf_1 (by rw [q1]; decide) (by rw [q1]; decide) (by rw [q1]; rfl) (by decide) ?_
    refine lv_iconst (v := 3) S.1 S.2.1 dX5_strengthOf_104 (by decide) ?_
    exact o_iret S hr hlo I f dX5_strengthOf_105
  have f := (if_neg q1).symm.trans f
  rcases Decidable.em (x0 = 16) with q2 | q2
  · have f := (if_pos q2).symm.trans f
    refine lv_tableIn (off := 101) (tgt := 102) S.1 S.2.1 dX5_strengthOf_1 (by rw [q2]; decide) (by rw [q2]; decide) (by rw [q2]; rfl) (by decide) ?_
    refine lv_iconst (v := 2) S.1 S.2.1 dX5_strengthOf_102 (by decide) ?_
    exact o_iret S hr hlo I f dX5_strengthOf_103
  have f := (if_neg q2).symm.trans f
  rcases Decidable.em (x0 = 17) with q3 | q3
  · have f := (if_pos q3).symm.trans f
    refine lv_tableIn (off := 99) (tgt := 100) S.1 S.2.1 dX5_strengthOf_1 (by rw [q3]; decide) (by rw [q3]; decide) (by rw [q3]; rfl) (by decide) ?_
    refine lv_iconst (v := 1) S.1 S.2.1 dX5_strengthOf_100 (by decide) ?_
    exact o_iret S hr hlo I f dX5_strengthOf_101
  have f := (if_neg q3).symm.trans f
  rcases Decidable.em (x0 = 26) with q4 | q4
  · have f := (if_pos q4).symm.trans f
    refine lv_tableIn (off := 105) (tgt := 106) S.1 S.2.1 dX5_strengthOf_1 (by rw [q4]; decide) (by rw [q4]; decide) (by rw [q4]; rfl) (by decide) ?_
    refine lv_iconst (v := 4) S.1 S.2.1 dX5_strengthOf_106 (by decide) ?_
    exact o_iret S hr hlo I f dX5_strengthOf_107
  have f := (if_neg q4).symm.trans f
  rcases Decidable.em (x0 = 27) with q5 | q5
  · have f := (if_pos q5).symm.trans f
    refine lv_tableIn (off := 105) (tgt := 106) S.1 S.2.1 dX5_strengthOf_1 (by rw [q5]; decide) (by rw [q5]; decide) (by rw [q5]; rfl) (by decide) ?_
    refine lv_iconst (v := 4) S.1 S.2.1 dX5_strengthOf_106 (by decide) ?_
    exact o_iret S hr hlo I f dX5_strengthOf_107
  have f := (if_neg q5).symm.trans f
  rcases Decidable.em (x0 = 28) with q6 | q6
  · have f := (if_pos q6).symm.trans f
    refine lv_tableIn (off := 105) (tgt := 106) S.1 S.2.1 dX5_strengthOf_1 (by rw [q6]; decide) (by rw [q6]; decide) (by rw [q6]; rfl) (by decide) ?_
    refine lv_iconst (v := 4) S.1 S.2.1 dX5_strengthOf_106 (by decide) ?_
    exact o_iret S hr hlo I f dX5_strengthOf_107
  have f := (if_neg q6).symm.trans f
  rcases Decidable.em (x0 = 29) with q7 | q7
  · have f := (if_pos q7).symm.trans f
    refine lv_tableIn (off := 105) (tgt := 106) S.1 S.2.1 dX5_strengthOf_1 (by rw [q7]; decide) (by rw [q7]; decide) (by rw [q7]; rfl) (by decide) ?_
    refine lv_iconst (v := 4) S.1 S.2.1 dX5_strengthOf_106 (by decide) ?_
    exact o_iret S hr hlo I f dX5_strengthOf_107
  have f := (if_neg q7).symm.trans f
  rcases Decidable.em (x0 = 30) with q8 | q8
  · have f := (if_pos q8).symm.trans f
    refine lv_tableIn (off := 105) (tgt := 106) S.1 S.2.1 dX5_strengthOf_1 (by rw [q8]; decide) (by rw [q8]; decide) (by rw [q8]; rfl) (by decide) ?_
    refine lv_iconst (v := 4) S.1 S.2.1 dX5_strengthOf_106 (by decide) ?_
    exact o_iret S hr hlo I f dX5_strengthOf_107
  have f := (if_neg q8).symm.trans f
  rcases Decidable.em (x0 = 31) with q9 | q9
  · have f := (if_pos q9).symm.trans f
    refine lv_tableIn (off := 105) (tgt := 106) S.1 S.2.1 dX5_strengthOf_1 (by rw [q9]; decide) (by rw [q9]; decide) (by rw [q9]; rfl) (by decide) ?_
    refine lv_iconst (v := 4) S.1 S.2.1 dX5_strengthOf_106 (by decide) ?_
    exact o_iret S hr hlo I f dX5_strengthOf_107
  have f := (if_neg q9).symm.trans f
  rcases Decidable.em (x0 = 32) with q10 | q10
  · have f := (if_pos q10).symm.trans f
    refine lv_tableIn (off := 107) (tgt := 108) S.1 S.2.1 dX5_strengthOf_1 (by rw [q10]; decide) (by rw [q10]; decide) (by rw [q10]; rfl) (by decide) ?_
    refine lv_iconst (v := 5) S.1 S.2.1 dX5_strengthOf_108 (by decide) ?_
    exact o_iret S hr hlo I f dX5_strengthOf_109
  have f := (if_neg q10).symm.trans f
  rcases Decidable.em (x0 = 33) with q11 | q11
  · have f := (if_pos q11).symm.trans f
    refine lv_tableIn (off := 107) (tgt := 108) S.1 S.2.1 dX5_strengthOf_1 (by rw [q11]; decide) (by rw [q11]; decide) (by rw [q11]; rfl) (by decide) ?_
    refine lv_iconst (v := 5) S.1 S.2.1 dX5_strengthOf_108 (by decide) ?_
    exact o_iret S hr hlo I f dX5_strengthOf_109
  have f := (if_neg q11).symm.trans f
  rcases Decidable.em (x0 = 34) with q12 | q12
  · have f := (if_pos q12).symm.trans f
    refine lv_tableIn (off := 109) (tgt := 110) S.1 S.2.1 dX5_strengthOf_1 (by rw [q12]; decide) (by rw [q12]; decide) (by rw [q12]; rfl) (by decide) ?_
    refine lv_bipush (v := 6) S.1 S.2.1 dX5_strengthOf_110 (by decide) ?_
    exact o_iret S hr hlo I f dX5_strengthOf_112
  have f := (if_neg q12).symm.trans f
  rcases Decidable.em (x0 = 35) with q13 | q13
  · have f := (if_pos q13).symm.trans f
    refine lv_tableIn (off := 109) (tgt := 110) S.1 S.2.1 dX5_strengthOf_1 (by rw [q13]; decide) (by rw [q13]; decide) (by rw [q13]; rfl) (by decide) ?_
    refine lv_bipush (v := 6) S.1 S.2.1 dX5_strengthOf_110 (by decide) ?_
    exact o_iret S hr hlo I f dX5_strengthOf_112
  have f := (if_neg q13).symm.trans f
  suffices K : W p l e ({ frames := 0, cells := 0, slots := 0, locals := 0 } : Room) s m args below meth c H locs 0 0 (MQ below (va_Qi (fun (r : Int32) (u : PH) => (r, u) = out) (ph_B D cy b A fl) A) args s 0 0 A) (F0 m 113 ls []) by
    have := lv_neT q1 (a := 15) (by decide)
    have := lv_neT q2 (a := 16) (by decide)
    have := lv_neT q3 (a := 17) (by decide)
    have := lv_neT q4 (a := 26) (by decide)
    have := lv_neT q5 (a := 27) (by decide)
    have := lv_neT q6 (a := 28) (by decide)
    have := lv_neT q7 (a := 29) (by decide)
    have := lv_neT q8 (a := 30) (by decide)
    have := lv_neT q9 (a := 31) (by decide)
    have := lv_neT q10 (a := 32) (by decide)
    have := lv_neT q11 (a := 33) (by decide)
    have := lv_neT q12 (a := 34) (by decide)
    have := lv_neT q13 (a := 35) (by decide)
    have g9 : (x0).toInt < 15 ∨ 35 < (x0).toInt ∨ (x0).toInt = 18 ∨ (x0).toInt = 19 ∨ (x0).toInt = 20 ∨ (x0).toInt = 21 ∨ (x0).toInt = 22 ∨ (x0).toInt = 23 ∨ (x0).toInt = 24 ∨ (x0).toInt = 25 := by omega
    rcases g9 with g9 | g9 | g9 | g9 | g9 | g9 | g9 | g9 | g9 | g9
    · exact lv_tableOut (tgt := 113) S.1 S.2.1 dX5_strengthOf_1 (Or.inl g9) (by decide) K
    · exact lv_tableOut (tgt := 113) S.1 S.2.1 dX5_strengthOf_1 (Or.inr g9) (by decide) K
    · exact lv_tableIn (off := 112) (tgt := 113) S.1 S.2.1 dX5_strengthOf_1 (by rw [g9]; decide) (by rw [g9]; decide) (by rw [g9]; rfl) (by decide) K
    · exact lv_tableIn (off := 112) (tgt := 113) S.1 S.2.1 dX5_strengthOf_1 (by rw [g9]; decide) (by rw [g9]; decide) (by rw [g9]; rfl) (by decide) K
    · exact lv_tableIn (off := 112) (tgt := 113) S.1 S.2.1 dX5_strengthOf_1 (by rw [g9]; decide) (by rw [g9]; decide) (by rw [g9]; rfl) (by decide) K
    · exact lv_tableIn (off := 112) (tgt := 113) S.1 S.2.1 dX5_strengthOf_1 (by rw [g9]; decide) (by rw [g9]; decide) (by rw [g9]; rfl) (by decide) K
    · exact lv_tableIn (off := 112) (tgt := 113) S.1 S.2.1 dX5_strengthOf_1 (by rw [g9]; decide) (by rw [g9]; decide) (by rw [g9]; rfl) (by decide) K
    · exact lv_tableIn (off := 112) (tgt := 113) S.1 S.2.1 dX5_strengthOf_1 (by rw [g9]; decide) (by rw [g9]; decide) (by rw [g9]; rfl) (by decide) K
    · exact lv_tableIn (off := 112) (tgt := 113) S.1 S.2.1 dX5_strengthOf_1 (by rw [g9]; decide) (by rw [g9]; decide) (by rw [g9]; rfl) (by decide) K
    · exact lv_tableIn (off := 112) (tgt := 113) S.1 S.2.1 dX5_strengthOf_1 (by rw [g9]; decide) (by rw [g9]; decide) (by rw [g9]; rfl) (by decide) K
  refine lv_iconst (v := 0) S.1 S.2.1 dX5_strengthOf_113 (by decide) ?_
  exact o_iret S hr hlo I f dX5_strengthOf_114
theorem M5_strengthOf (l : Launch) (D : va_G) (cy : Nat → ClassId) (b : Nat) (A : Nat → Prop) (fl : Bool) {h : PH} {x0 : Int32} {out : Int32 × PH} (f : F5_strengthOf h x0 = some out) : Met l yX5_strengthOf vX5_strengthOf ({ frames := 0, cells := 0, slots := 0, locals := 0 } : Room) (va_Pc [.int x0] (ph_B D cy b A fl h)) (va_Qi (fun (r : Int32) (u : PH) => (r, u) = out) (ph_B D cy b A fl) A) 0 0 A :=
  o_met (by decide) rfl (Nat.le_of_ble_eq_true rfl) rfl (fun p e s m below meth c S hr hlo hnm ls hl I => T5_strengthOf_0 S hr hlo (f) I (lv_sub hl [0] rfl))
def vX5_release : List Cond := .code yX5_release cX5_release 4 none :: TB
theorem lf5_release_185 : Fl vX5_release RX5 185 5 2 := ⟨RX5, TX5, 11, rfl, by decide, (fun w h9 => List.mem_cons_of_mem _ (wC_wsX50 w h9)), (List.mem_cons_of_mem _ wT_21_12)⟩
theorem lf5_release_22 : Fl vX5_release RX5 22 5 1 := ⟨RX5, TX5, 11, rfl, by decide, (fun w h9 => List.mem_cons_of_mem _ (wC_wsX50 w h9)), (List.mem_cons_of_mem _ wT_5_4)⟩
theorem gX5_release_X5_strengthOf : GoodIn vX5_release (va_wsS RX5 223 yX5_strengthOf vX5_strengthOf) := gS_of wT_22_2 wT_22_3 wT_1_22 wT_22_4
theorem gX5_release_X2_add : GoodIn vX5_release (wsV RX5 217 RX2 yX2_add vX2_add) := gV_of wT_22_5 wT_22_6 wT_22_7 wT_3_14 wT_22_8
theorem lp5_release_185 : Pl vX5_release RX5 185 5 2 .int := ⟨RX5, TX5, 11, tyX5, rfl, by decide, (fun w h9 => List.mem_cons_of_mem _ (wC_wsX50 w h9)), (List.mem_cons_of_mem _ wT_21_12), tyX5_ok, nmX5, rfl, rfl⟩
theorem cd5_release : Cd yX5_release 2 := ⟨by decide, by decide, by decide +kernel⟩
set_option maxHeartbeats 4000000 in
set_option maxRecDepth 100000 in
theorem T5_release_0 (S : CallFix p m c cX5_release 4 s args vX5_release RX5) (hr : meth.sig.returnType = none) (hlo : meth.locks = false) {out : PH} : ∀ (n : Nat) {h : PH} {a0 : Nat} {a1 : Nat} {x2 : Int32} (f : F5_release_0  n h a0 a1 x2 = some out) {H : Heap} {locs : List Loc} (I : ph_I D cy b A fl h s H locs) {ls : Array Slot} (hl : lv_has ls 4 [(0, .ref (b + a0)), (1, .ref (b + a1)), (2, .int x2)]), W p l e ({ frames := 1, cells := 0, slots := 0, locals := 21 } : Room) s m args below meth c H locs 0 0 (MQ below (va_Qv (fun (u : PH) => u = out) (ph_B D cy b A fl) A) args s 0 0 A) (F0 m 0 ls []) := by
  intro n
  induction n with
  | zero => intro h a0 a1 x2 f; rw [F5_release_0] at f; cases f
  | succ n ih =>
    intro h a0 a1 x2 f H locs I ls hl
    rw [F5_release_0] at f
    refine lv_aload_n S.1 S.2.1 dX5_release_0 rfl (lv_at hl 0 rfl) ?_
    obtain ⟨v1, e2, f⟩ := ob f
    refine o_gI S lf5_release_185 I e2 dX5_release_1 ?_
    refine lv_if_le (tgt := 50) S.1 S.2.1 dX5_release_4 (by decide) (fun q3 => ?_) (fun q3 => ?_)
    · have f := (if_pos q3).symm.trans f
      exact o_vret S hr hlo I f dX5_release_50
    · have f := (if_neg q3).symm.trans f
      refine lv_aload_n S.1 S.2.1 dX5_release_7 rfl (lv_at hl 0 rfl) ?_
      obtain ⟨r4, e5, f⟩ := ob f
      refine o_gR S lf5_release_22 I e5 dX5_release_8 ?_
      refine lv_aload_n S.1 S.2.1 dX5_release_11 rfl (lv_at hl 0 rfl) ?_
      obtain ⟨v6, e7, f⟩ := ob f
      refine o_gI S lf5_release_185 I e7 dX5_release_12 ?_
      refine lv_iconst (v := 1) S.1 S.2.1 dX5_release_15 (by decide) ?_
      refine lv_isub S.1 S.2.1 dX5_release_16 ?_
      obtain ⟨v9, e8, f⟩ := ob f
      refine o_iald S I e8 dX5_release_17 ?_
      refine lv_istore_n (lv' := [(3, .int v9), (0, .ref (b + a0)), (1, .ref (b + a1)), (2, .int x2)]) S.1 S.2.1 dX5_release_18 rfl hl (by decide) rfl (fun ls hl => ?_)
      refine lv_iload_n S.1 S.2.1 dX5_release_19 rfl (lv_at hl 0 rfl) ?_
      obtain ⟨o10, e11, f⟩ := ob f
      refine o_Si S (As := [.int v9]) (rest := []) (M5_strengthOf l D cy b A fl e11) gX5_release_X5_strengthOf rfl rfl rfl cd5_strengthOf ⟨Nat.le_of_ble_eq_true rfl, Nat.le_of_ble_eq_true rfl⟩ I rfl hl.1 rfl (Nat.le_of_ble_eq_true rfl) dX5_release_20 ⟨Nat.le_of_ble_eq_true rfl, Nat.le_of_ble_eq_true rfl⟩ (fun H locs I => ?_)
      refine lv_iload_n S.1 S.2.1 dX5_release_23 rfl (lv_at hl 3 rfl) ?_
      refine lv_icmp_ge (tgt := 28) S.1 S.2.1 dX5_release_24 (by decide) (fun q12 => ?_) (fun q12 => ?_)
      · have f := (if_pos q12).symm.trans f
        refine lv_aload_n S.1 S.2.1 dX5_release_28 rfl (lv_at hl 2 rfl) ?_
        refine lv_sipush (v := 10000) S.1 S.2.1 dX5_release_29 (by decide) ?_
        refine lv_iload_n S.1 S.2.1 dX5_release_32 rfl (lv_at hl 0 rfl) ?_
        refine lv_iadd S.1 S.2.1 dX5_release_33 ?_
        obtain ⟨o13, e14, f⟩ := ob f
        refine o_Vv S (As := [.int (10000 + v9)]) (rest := []) (ci := 2) (M2_add l D cy b A fl e14) gX5_release_X2_add rfl rfl rfl cd2_add ⟨Nat.le_of_ble_eq_true rfl, Nat.le_of_ble_eq_true rfl⟩ I (gd e14).1 clX2 rfl rfl hl.1 rfl (Nat.le_of_ble_eq_true rfl) dX5_release_34 ⟨Nat.le_of_ble_eq_true rfl, Nat.le_of_ble_eq_true rfl⟩ (fun H locs I => ?_)
        refine lv_aload_n S.1 S.2.1 dX5_release_37 rfl (lv_at hl 1 rfl) ?_
        refine lv_dup S.1 S.2.1 dX5_release_38 rfl ?_
        obtain ⟨v15, e16, f⟩ := ob f
        refine o_gI S lf5_release_185 I e16 dX5_release_39 ?_
        refine lv_iconst (v := 1) S.1 S.2.1 dX5_release_42 (by decide) ?_
        refine lv_isub S.1 S.2.1 dX5_release_43 ?_
        obtain ⟨h17, e18, f⟩ := ob f
        refine o_pI S lp5_release_185 I e18 dX5_release_44 (fun H locs I => ?_)
        refine lv_goto (tgt := 0) S.1 S.2.1 dX5_release_47 (by decide) ?_
        exact ih f I (lv_sub hl [1, 2, 3] rfl)
      · have f := (if_neg q12).symm.trans f
        exact o_vret S hr hlo I f dX5_release_27
theorem M5_release (l : Launch) (D : va_G) (cy : Nat → ClassId) (b : Nat) (A : Nat → Prop) (fl : Bool) {h : PH} {a0 : Nat} {a1 : Nat} {x2 : Int32} {out : PH} (f : F5_release h a0 a1 x2 = some out) : Met l yX5_release vX5_release ({ frames := 1, cells := 0, slots := 0, locals := 21 } : Room) (va_Pc [.ref (b + a0), .ref (b + a1), .int x2] (ph_B D cy b A fl h)) (va_Qv (fun (u : PH) => u = out) (ph_B D cy b A fl) A) 0 0 A :=
  o_met (by decide) rfl (Nat.le_of_ble_eq_true rfl) rfl (fun p e s m below meth c S hr hlo hnm ls hl I => T5_release_0 S hr hlo 1024 ((gd f).2) I (lv_sub hl [0, 1, 2] rfl))
def vX5_takeOpen : List Cond := .code yX5_takeOpen cX5_takeOpen 1 (some .boolean) :: TB
theorem lf5_takeOpen_188 : Fl vX5_takeOpen RX5 188 5 3 := ⟨RX5, TX5, 11, rfl, by decide, (fun w h9 => List.mem_cons_of_mem _ (wC_wsX50 w h9)), (List.mem_cons_of_mem _ wT_21_13)⟩
theorem lp5_takeOpen_188 : Pl vX5_takeOpen RX5 188 5 3 .int := ⟨RX5, TX5, 11, tyX5, rfl, by decide, (fun w h9 => List.mem_cons_of_mem _ (wC_wsX50 w h9)), (List.mem_cons_of_mem _ wT_21_13), tyX5_ok, nmX5, rfl, rfl⟩
theorem lp5_takeOpen_194 : Pl vX5_takeOpen RX5 194 5 5 .boolean := ⟨RX5, TX5, 11, tyX5, rfl, by decide, (fun w h9 => List.mem_cons_of_mem _ (wC_wsX50 w h9)), (List.mem_cons_of_mem _ wT_21_15), tyX5_ok, nmX5, rfl, rfl⟩
theorem gX5_takeOpen_X5_letWait : GoodIn vX5_takeOpen (wsV RX5 214 RX5 yX5_letWait vX5_letWait) := gV_of wT_22_17 wT_22_18 wT_22_19 wT_1_22 wT_22_20
theorem gX5_takeOpen_X5_refuse : GoodIn vX5_takeOpen (wsV RX5 89 RX5 yX5_refuse vX5_refuse) := gV_of wT_18_1 wT_18_2 wT_18_3 wT_1_22 wT_18_4
theorem cd5_takeOpen : Cd yX5_takeOpen 0 := ⟨by decide, by decide, by decide +kernel⟩
set_option maxHeartbeats 4000000 in
set_option maxRecDepth 100000 in
theorem T5_takeOpen_0 (S : CallFix p m c cX5_takeOpen 1 s args vX5_takeOpen RX5) (hr : meth.sig.returnType = (some .boolean)) (hlo : meth.locks = false) {out : Int32 × PH} {h : PH} {a0 : Nat} (f : F5_takeOpen_0  h a0 = some out) {H : Heap} {locs : List Loc} (I : ph_I D cy b A fl h s H locs) {ls : Array Slot} (hl : lv_has ls 1 [(0, .ref (b + a0))]) : W p l e ({ frames := 2, cells := 0, slots := 0, locals := 42 } : Room) s m args below meth c H locs 0 0 (MQ below (va_Qi (fun (r : Int32) (u : PH) => (r, u) = out) (ph_B D cy b A fl) A) args s 0 0 A) (F0 m 0 ls []) := by
  unfold F5_takeOpen_0 at f
  refine lv_aload_n S.1 S.2.1 dX5_takeOpen_0 rfl (lv_at hl 0 rfl) ?_
  obtain ⟨v1, e2, f⟩ := ob f
  refine o_gI S lf5_takeOpen_188 I e2 dX5_takeOpen_1 ?_
  refine lv_bipush (v := 8) S.1 S.2.1 dX5_takeOpen_4 (by decide) ?_
  refine lv_icmp_lt (tgt := 15) S.1 S.2.1 dX5_takeOpen_6 (by decide) (fun q3 => ?_) (fun q3 => ?_)
  · have f := (if_pos q3).symm.trans f
    refine lv_aload_n S.1 S.2.1 dX5_takeOpen_15 rfl (lv_at hl 0 rfl) ?_
    refine lv_dup S.1 S.2.1 dX5_takeOpen_16 rfl ?_
    obtain ⟨v4, e5, f⟩ := ob f
    refine o_gI S lf5_takeOpen_188 I e5 dX5_takeOpen_17 ?_
    refine lv_iconst (v := 1) S.1 S.2.1 dX5_takeOpen_20 (by decide) ?_
    refine lv_iadd S.1 S.2.1 dX5_takeOpen_21 ?_
    obtain ⟨h6, e7, f⟩ := ob f
    refine o_pI S lp5_takeOpen_188 I e7 dX5_takeOpen_22 (fun H locs I => ?_)
    refine lv_aload_n S.1 S.2.1 dX5_takeOpen_25 rfl (lv_at hl 0 rfl) ?_
    refine lv_iconst (v := 1) S.1 S.2.1 dX5_takeOpen_26 (by decide) ?_
    obtain ⟨h8, e9, f⟩ := ob f
    refine o_pZ S lp5_takeOpen_194 I e9 dX5_takeOpen_27 (fun H locs I => ?_)
    refine lv_aload_n S.1 S.2.1 dX5_takeOpen_30 rfl (lv_at hl 0 rfl) ?_
    refine lv_bipush (v := 36) S.1 S.2.1 dX5_takeOpen_31 (by decide) ?_
    obtain ⟨o10, e11, f⟩ := ob f
    refine o_Vi S (As := [.int 36]) (rest := []) (ci := 5) (M5_letWait l D cy b A fl e11) gX5_takeOpen_X5_letWait rfl rfl rfl cd5_letWait ⟨Nat.le_of_ble_eq_true rfl, Nat.le_of_ble_eq_true rfl⟩ I (gd e11).1 clX5 rfl rfl hl.1 rfl (Nat.le_of_ble_eq_true rfl) dX5_takeOpen_33 ⟨Nat.le_of_ble_eq_true rfl, Nat.le_of_ble_eq_true rfl⟩ (fun H locs I => ?_)
    exact o_zret S hr hlo I f dX5_takeOpen_36
  · have f := (if_neg q3).symm.trans f
    refine lv_aload_n S.1 S.2.1 dX5_takeOpen_9 rfl (lv_at hl 0 rfl) ?_
    refine lv_iconst (v := 2) S.1 S.2.1 dX5_takeOpen_10 (by decide) ?_
    obtain ⟨o12, e13, f⟩ := ob f
    refine o_Vi S (As := [.int 2]) (rest := []) (ci := 5) (M5_refuse l D cy b A fl e13) gX5_takeOpen_X5_refuse rfl rfl rfl cd5_refuse ⟨Nat.le_of_ble_eq_true rfl, Nat.le_of_ble_eq_true rfl⟩ I (gd e13).1 clX5 rfl rfl hl.1 rfl (Nat.le_of_ble_eq_true rfl) dX5_takeOpen_11 ⟨Nat.le_of_ble_eq_true rfl, Nat.le_of_ble_eq_true rfl⟩ (fun H locs I => ?_)
    exact o_zret S hr hlo I f dX5_takeOpen_14
theorem M5_takeOpen (l : Launch) (D : va_G) (cy : Nat → ClassId) (b : Nat) (A : Nat → Prop) (fl : Bool) {h : PH} {a0 : Nat} {out : Int32 × PH} (f : F5_takeOpen h a0 = some out) : Met l yX5_takeOpen vX5_takeOpen ({ frames := 2, cells := 0, slots := 0, locals := 42 } : Room) (va_Pc [.ref (b + a0)] (ph_B D cy b A fl h)) (va_Qi (fun (r : Int32) (u : PH) => (r, u) = out) (ph_B D cy b A fl) A) 0 0 A :=
  o_met (by decide) rfl (Nat.le_of_ble_eq_true rfl) rfl (fun p e s m below meth c S hr hlo hnm ls hl I => T5_takeOpen_0 S hr hlo ((gd f).2) I (lv_sub hl [0] rfl))
def vX5_takePart : List Cond := .code yX5_takePart cX5_takePart 4 (some .boolean) :: TB
theorem gX5_takePart_X2_add : GoodIn vX5_takePart (wsV RX5 217 RX2 yX2_add vX2_add) := gV_of wT_22_5 wT_22_6 wT_22_7 wT_3_14 wT_22_8
theorem lp5_takePart_191 : Pl vX5_takePart RX5 191 5 4 .boolean := ⟨RX5, TX5, 11, tyX5, rfl, by decide, (fun w h9 => List.mem_cons_of_mem _ (wC_wsX50 w h9)), (List.mem_cons_of_mem _ wT_21_14), tyX5_ok, nmX5, rfl, rfl⟩
theorem gX5_takePart_X5_countKnot : GoodIn vX5_takePart (wsV RX5 211 RX5 yX5_countKnot vX5_countKnot) := gV_of wT_22_21 wT_22_22 wT_22_23 wT_1_22 wT_23_0
theorem lf5_takePart_18 : Fl vX5_takePart RX5 18 5 0 := ⟨RX5, TX5, 11, rfl, by decide, (fun w h9 => List.mem_cons_of_mem _ (wC_wsX50 w h9)), (List.mem_cons_of_mem _ wT_5_3)⟩
theorem lf5_takePart_97 : Fl vX5_takePart RX5 97 7 6 := ⟨RX7, TX7, 7, rfl, by decide, (fun w h9 => List.mem_cons_of_mem _ (wC_wsX70 w h9)), (List.mem_cons_of_mem _ wT_18_14)⟩
theorem gX5_takePart_X5_refuse : GoodIn vX5_takePart (wsV RX5 89 RX5 yX5_refuse vX5_refuse) := gV_of wT_18_1 wT_18_2 wT_18_3 wT_1_22 wT_18_4
theorem lf5_takePart_52 : Fl vX5_takePart RX5 52 7 4 := ⟨RX7, TX7, 7, rfl, by decide, (fun w h9 => List.mem_cons_of_mem _ (wC_wsX70 w h9)), (List.mem_cons_of_mem _ wT_14_7)⟩
theorem lf5_takePart_194 : Fl vX5_takePart RX5 194 5 5 := ⟨RX5, TX5, 11, rfl, by decide, (fun w h9 => List.mem_cons_of_mem _ (wC_wsX50 w h9)), (List.mem_cons_of_mem _ wT_21_15)⟩
theorem gX5_takePart_X5_letWait : GoodIn vX5_takePart (wsV RX5 214 RX5 yX5_letWait vX5_letWait) := gV_of wT_22_17 wT_22_18 wT_22_19 wT_1_22 wT_22_20
theorem gX5_takePart_X5_takeOpen : GoodIn vX5_takePart (wsV RX5 208 RX5 yX5_takeOpen vX5_takeOpen) := gV_of wT_22_13 wT_22_14 wT_22_15 wT_1_22 wT_22_16
theorem cd5_takePart : Cd yX5_takePart 1 := ⟨by decide, by decide, by decide +kernel⟩
set_option maxHeartbeats 4000000 in
set_option maxRecDepth 100000 in
theorem T5_takePart_139 (S : CallFix p m c cX5_takePart 4 s args vX5_takePart RX5) (hr : meth.sig.returnType = (some .boolean)) (hlo : meth.locks = false) {out : Int32 × PH} {h : PH} {a0 : Nat} {s0 : Int32} {u1 : Nat} (f : F5_takePart_139  h a0 s0 u1 = some out) {H : Heap} {locs : List Loc} (I : ph_I D cy b A fl h s H locs) {ls : Array Slot} (hl : lv_has ls 4 [(0, .ref (b + a0))]) : W p l e ({ frames := 3, cells := 0, slots := 0, locals := 62 } : Room) s m args below meth c H locs 0 0 (MQ below (va_Qi (fun (r : Int32) (u : PH) => (r, u) = out) (ph_B D cy b A fl) A) args s 0 0 A) (F0 m 139 ls [.int s0, .ref (b + u1)]) := by
  unfold F5_takePart_139 at f
  obtain ⟨o1, e2, f⟩ := ob f
  refine o_Vv S (As := [.int s0]) (rest := []) (ci := 2) (M2_add l D cy b A fl e2) gX5_takePart_X2_add rfl rfl rfl cd2_add ⟨Nat.le_of_ble_eq_true rfl, Nat.le_of_ble_eq_true rfl⟩ I (gd e2).1 clX2 rfl rfl hl.1 rfl (Nat.le_of_ble_eq_true rfl) dX5_takePart_139 ⟨Nat.le_of_ble_eq_true rfl, Nat.le_of_ble_eq_true rfl⟩ (fun H locs I => ?_)
  refine lv_aload_n S.1 S.2.1 dX5_takePart_142 rfl (lv_at hl 0 rfl) ?_
  refine lv_iconst (v := 0) S.1 S.2.1 dX5_takePart_143 (by decide) ?_
  obtain ⟨h3, e4, f⟩ := ob f
  refine o_pZ S lp5_takePart_191 I e4 dX5_takePart_144 (fun H locs I => ?_)
  refine lv_iconst (v := 1) S.1 S.2.1 dX5_takePart_147 (by decide) ?_
  exact o_zret S hr hlo I f dX5_takePart_148
set_option maxHeartbeats 4000000 in
set_option maxRecDepth 100000 in
theorem T5_takePart_110 (S : CallFix p m c cX5_takePart 4 s args vX5_takePart RX5) (hr : meth.sig.returnType = (some .boolean)) (hlo : meth.locks = false) {out : Int32 × PH} {h : PH} {a0 : Nat} {a1 : Nat} {x2 : Int32} {x3 : Int32} (f : F5_takePart_110  h a0 a1 x2 x3 = some out) {H : Heap} {locs : List Loc} (I : ph_I D cy b A fl h s H locs) {ls : Array Slot} (hl : lv_has ls 4 [(0, .ref (b + a0)), (1, .ref (b + a1)), (2, .int x2), (3, .int x3)]) : W p l e ({ frames := 3, cells := 0, slots := 0, locals := 62 } : Room) s m args below meth c H locs 0 0 (MQ below (va_Qi (fun (r : Int32) (u : PH) => (r, u) = out) (ph_B D cy b A fl) A) args s 0 0 A) (F0 m 110 ls []) := by
  unfold F5_takePart_110 at f
  refine lv_aload_n S.1 S.2.1 dX5_takePart_110 rfl (lv_at hl 0 rfl) ?_
  obtain ⟨o1, e2, f⟩ := ob f
  refine o_Vi S (As := []) (rest := []) (ci := 5) (M5_countKnot l D cy b A fl e2) gX5_takePart_X5_countKnot rfl rfl rfl cd5_countKnot ⟨Nat.le_of_ble_eq_true rfl, Nat.le_of_ble_eq_true rfl⟩ I (gd e2).1 clX5 rfl rfl hl.1 rfl (Nat.le_of_ble_eq_true rfl) dX5_takePart_111 ⟨Nat.le_of_ble_eq_true rfl, Nat.le_of_ble_eq_true rfl⟩ (fun H locs I => ?_)
  refine lv_if_ne (tgt := 119) S.1 S.2.1 dX5_takePart_114 (by decide) (fun q3 => ?_) (fun q3 => ?_)
  · have f := (if_neg q3).symm.trans f
    refine lv_aload_n S.1 S.2.1 dX5_takePart_119 rfl (lv_at hl 1 rfl) ?_
    refine lv_iload_n S.1 S.2.1 dX5_takePart_120 rfl (lv_at hl 3 rfl) ?_
    refine lv_if_eq (tgt := 132) S.1 S.2.1 dX5_takePart_121 (by decide) (fun q4 => ?_) (fun q4 => ?_)
    · have f := (if_pos q4).symm.trans f
      refine lv_aload_n S.1 S.2.1 dX5_takePart_132 rfl (lv_at hl 0 rfl) ?_
      obtain ⟨r5, e6, f⟩ := ob f
      refine o_gR S lf5_takePart_18 I e6 dX5_takePart_133 ?_
      obtain ⟨v7, e8, f⟩ := ob f
      refine o_gI S lf5_takePart_97 I e8 dX5_takePart_136 ?_
      exact T5_takePart_139 S hr hlo  f I (lv_sub hl [0] rfl)
    · have f := (if_neg q4).symm.trans f
      refine lv_sipush (v := 10000) S.1 S.2.1 dX5_takePart_124 (by decide) ?_
      refine lv_iload_n S.1 S.2.1 dX5_takePart_127 rfl (lv_at hl 2 rfl) ?_
      refine lv_iadd S.1 S.2.1 dX5_takePart_128 ?_
      refine lv_goto (tgt := 139) S.1 S.2.1 dX5_takePart_129 (by decide) ?_
      exact T5_takePart_139 S hr hlo  f I (lv_sub hl [0] rfl)
  · have f := (if_pos q3).symm.trans f
    refine lv_iconst (v := 0) S.1 S.2.1 dX5_takePart_117 (by decide) ?_
    exact o_zret S hr hlo I f dX5_takePart_118
set_option maxHeartbeats 4000000 in
set_option maxRecDepth 100000 in
theorem T5_takePart_87 (S : CallFix p m c cX5_takePart 4 s args vX5_takePart RX5) (hr : meth.sig.returnType = (some .boolean)) (hlo : meth.locks = false) {out : Int32 × PH} {h : PH} {a0 : Nat} {a1 : Nat} {x2 : Int32} {x3 : Int32} (f : F5_takePart_87  h a0 a1 x2 x3 = some out) {H : Heap} {locs : List Loc} (I : ph_I D cy b A fl h s H locs) {ls : Array Slot} (hl : lv_has ls 4 [(0, .ref (b + a0)), (1, .ref (b + a1)), (2, .int x2), (3, .int x3)]) : W p l e ({ frames := 3, cells := 0, slots := 0, locals := 62 } : Room) s m args below meth c H locs 0 0 (MQ below (va_Qi (fun (r : Int32) (u : PH) => (r, u) = out) (ph_B D cy b A fl) A) args s 0 0 A) (F0 m 87 ls []) := by
  unfold F5_takePart_87 at f
  refine lv_aload_n S.1 S.2.1 dX5_takePart_87 rfl (lv_at hl 0 rfl) ?_
  obtain ⟨r1, e2, f⟩ := ob f
  refine o_gR S lf5_takePart_18 I e2 dX5_takePart_88 ?_
  obtain ⟨v3, e4, f⟩ := ob f
  refine o_gI S lf5_takePart_97 I e4 dX5_takePart_91 ?_
  refine lv_sipush (v := 9999) S.1 S.2.1 dX5_takePart_94 (by decide) ?_
  refine lv_icmp_le (tgt := 110) S.1 S.2.1 dX5_takePart_97 (by decide) (fun q5 => ?_) (fun q5 => ?_)
  · have f := (if_pos q5).symm.trans f
    exact T5_takePart_110 S hr hlo  f I (lv_sub hl [0, 1, 2, 3] rfl)
  · have f := (if_neg q5).symm.trans f
    refine lv_iload_n S.1 S.2.1 dX5_takePart_100 rfl (lv_at hl 3 rfl) ?_
    refine lv_if_ne (tgt := 110) S.1 S.2.1 dX5_takePart_101 (by decide) (fun q6 => ?_) (fun q6 => ?_)
    · have f := (if_neg q6).symm.trans f
      exact T5_takePart_110 S hr hlo  f I (lv_sub hl [0, 1, 2, 3] rfl)
    · have f := (if_pos q6).symm.trans f
      refine lv_aload_n S.1 S.2.1 dX5_takePart_104 rfl (lv_at hl 0 rfl) ?_
      refine lv_iconst (v := 2) S.1 S.2.1 dX5_takePart_105 (by decide) ?_
      obtain ⟨o7, e8, f⟩ := ob f
      refine o_Vi S (As := [.int 2]) (rest := []) (ci := 5) (M5_refuse l D cy b A fl e8) gX5_takePart_X5_refuse rfl rfl rfl cd5_refuse ⟨Nat.le_of_ble_eq_true rfl, Nat.le_of_ble_eq_true rfl⟩ I (gd e8).1 clX5 rfl rfl hl.1 rfl (Nat.le_of_ble_eq_true rfl) dX5_takePart_106 ⟨Nat.le_of_ble_eq_true rfl, Nat.le_of_ble_eq_true rfl⟩ (fun H locs I => ?_)
      exact o_zret S hr hlo I f dX5_takePart_109
set_option maxHeartbeats 4000000 in
set_option maxRecDepth 100000 in
theorem T5_takePart_70 (S : CallFix p m c cX5_takePart 4 s args vX5_takePart RX5) (hr : meth.sig.returnType = (some .boolean)) (hlo : meth.locks = false) {out : Int32 × PH} {h : PH} {a0 : Nat} {a1 : Nat} {x2 : Int32} {s0 : Int32} (f : F5_takePart_70  h a0 a1 x2 s0 = some out) {H : Heap} {locs : List Loc} (I : ph_I D cy b A fl h s H locs) {ls : Array Slot} (hl : lv_has ls 4 [(0, .ref (b + a0)), (1, .ref (b + a1)), (2, .int x2)]) : W p l e ({ frames := 3, cells := 0, slots := 0, locals := 62 } : Room) s m args below meth c H locs 0 0 (MQ below (va_Qi (fun (r : Int32) (u : PH) => (r, u) = out) (ph_B D cy b A fl) A) args s 0 0 A) (F0 m 70 ls [.int s0]) := by
  unfold F5_takePart_70 at f
  refine lv_istore_n (lv' := [(3, .int s0), (0, .ref (b + a0)), (1, .ref (b + a1)), (2, .int x2)]) S.1 S.2.1 dX5_takePart_70 rfl hl (by decide) rfl (fun ls hl => ?_)
  refine lv_iload_n S.1 S.2.1 dX5_takePart_71 rfl (lv_at hl 3 rfl) ?_
  refine lv_bipush (v := 25) S.1 S.2.1 dX5_takePart_72 (by decide) ?_
  refine lv_icmp_eq (tgt := 87) S.1 S.2.1 dX5_takePart_74 (by decide) (fun q1 => ?_) (fun q1 => ?_)
  · have f := (if_pos q1).symm.trans f
    exact T5_takePart_87 S hr hlo  f I (lv_sub hl [1, 2, 3, 0] rfl)
  · have f := (if_neg q1).symm.trans f
    refine lv_iload_n S.1 S.2.1 dX5_takePart_77 rfl (lv_at hl 0 rfl) ?_
    refine lv_if_ne (tgt := 87) S.1 S.2.1 dX5_takePart_78 (by decide) (fun q2 => ?_) (fun q2 => ?_)
    · have f := (if_neg q2).symm.trans f
      exact T5_takePart_87 S hr hlo  f I (lv_sub hl [1, 2, 3, 0] rfl)
    · have f := (if_pos q2).symm.trans f
      refine lv_aload_n S.1 S.2.1 dX5_takePart_81 rfl (lv_at hl 1 rfl) ?_
      refine lv_iconst (v := 1) S.1 S.2.1 dX5_takePart_82 (by decide) ?_
      obtain ⟨o3, e4, f⟩ := ob f
      refine o_Vi S (As := [.int 1]) (rest := []) (ci := 5) (M5_refuse l D cy b A fl e4) gX5_takePart_X5_refuse rfl rfl rfl cd5_refuse ⟨Nat.le_of_ble_eq_true rfl, Nat.le_of_ble_eq_true rfl⟩ I (gd e4).1 clX5 rfl rfl hl.1 rfl (Nat.le_of_ble_eq_true rfl) dX5_takePart_83 ⟨Nat.le_of_ble_eq_true rfl, Nat.le_of_ble_eq_true rfl⟩ (fun H locs I => ?_)
      exact o_zret S hr hlo I f dX5_takePart_86
set_option maxHeartbeats 4000000 in
set_option maxRecDepth 100000 in
theorem T5_takePart_69 (S : CallFix p m c cX5_takePart 4 s args vX5_takePart RX5) (hr : meth.sig.returnType = (some .boolean)) (hlo : meth.locks = false) {out : Int32 × PH} {h : PH} {a0 : Nat} {a1 : Nat} {x2 : Int32} (f : F5_takePart_69  h a0 a1 x2 = some out) {H : Heap} {locs : List Loc} (I : ph_I D cy b A fl h s H locs) {ls : Array Slot} (hl : lv_has ls 4 [(0, .ref (b + a0)), (1, .ref (b + a1)), (2, .int x2)]) : W p l e ({ frames := 3, cells := 0, slots := 0, locals := 62 } : Room) s m args below meth c H locs 0 0 (MQ below (va_Qi (fun (r : Int32) (u : PH) => (r, u) = out) (ph_B D cy b A fl) A) args s 0 0 A) (F0 m 69 ls []) := by
  unfold F5_takePart_69 at f
  refine lv_iconst (v := 0) S.1 S.2.1 dX5_takePart_69 (by decide) ?_
  exact T5_takePart_70 S hr hlo  f I (lv_sub hl [0, 1, 2] rfl)
set_option maxHeartbeats 4000000 in
set_option maxRecDepth 100000 in
theorem T5_takePart_53 (S : CallFix p m c cX5_takePart 4 s args vX5_takePart RX5) (hr : meth.sig.returnType = (some .boolean)) (hlo : meth.locks = false) {out : Int32 × PH} {h : PH} {a0 : Nat} {a1 : Nat} {x2 : Int32} (f : F5_takePart_53  h a0 a1 x2 = some out) {H : Heap} {locs : List Loc} (I : ph_I D cy b A fl h s H locs) {ls : Array Slot} (hl : lv_has ls 4 [(0, .ref (b + a0)), (1, .ref (b + a1)), (2, .int x2)]) : W p l e ({ frames := 3, cells := 0, slots := 0, locals := 62 } : Room) s m args below meth c H locs 0 0 (MQ below (va_Qi (fun (r : Int32) (u : PH) => (r, u) = out) (ph_B D cy b A fl) A) args s 0 0 A) (F0 m 53 ls []) := by
  unfold F5_takePart_53 at f
  refine lv_iload_n S.1 S.2.1 dX5_takePart_53 rfl (lv_at hl 2 rfl) ?_
  refine lv_bipush (v := 18) S.1 S.2.1 dX5_takePart_54 (by decide) ?_
  refine lv_icmp_lt (tgt := 69) S.1 S.2.1 dX5_takePart_56 (by decide) (fun q1 => ?_) (fun q1 => ?_)
  · have f := (if_pos q1).symm.trans f
    exact T5_takePart_69 S hr hlo  f I (lv_sub hl [0, 1, 2] rfl)
  · have f := (if_neg q1).symm.trans f
    refine lv_iload_n S.1 S.2.1 dX5_takePart_59 rfl (lv_at hl 2 rfl) ?_
    refine lv_bipush (v := 24) S.1 S.2.1 dX5_takePart_60 (by decide) ?_
    refine lv_icmp_ge (tgt := 69) S.1 S.2.1 dX5_takePart_62 (by decide) (fun q2 => ?_) (fun q2 => ?_)
    · have f := (if_pos q2).symm.trans f
      exact T5_takePart_69 S hr hlo  f I (lv_sub hl [0, 1, 2] rfl)
    · have f := (if_neg q2).symm.trans f
      refine lv_iconst (v := 1) S.1 S.2.1 dX5_takePart_65 (by decide) ?_
      refine lv_goto (tgt := 70) S.1 S.2.1 dX5_takePart_66 (by decide) ?_
      exact T5_takePart_70 S hr hlo  f I (lv_sub hl [0, 1, 2] rfl)
set_option maxHeartbeats 4000000 in
set_option maxRecDepth 100000 in
theorem T5_takePart_0 (S : CallFix p m c cX5_takePart 4 s args vX5_takePart RX5) (hr : meth.sig.returnType = (some .boolean)) (hlo : meth.locks = false) {out : Int32 × PH} {h : PH} {a0 : Nat} {a1 : Nat} (f : F5_takePart_0  h a0 a1 = some out) {H : Heap} {locs : List Loc} (I : ph_I D cy b A fl h s H locs) {ls : Array Slot} (hl : lv_has ls 4 [(0, .ref (b + a0)), (1, .ref (b + a1))]) : W p l e ({ frames := 3, cells := 0, slots := 0, locals := 62 } : Room) s m args below meth c H locs 0 0 (MQ below (va_Qi (fun (r : Int32) (u : PH) => (r, u) = out) (ph_B D cy b A fl) A) args s 0 0 A) (F0 m 0 ls []) := by
  unfold F5_takePart_0 at f
  refine lv_aload_n S.1 S.2.1 dX5_takePart_0 rfl (lv_at hl 0 rfl) ?_
  obtain ⟨r1, e2, f⟩ := ob f
  refine o_gR S lf5_takePart_18 I e2 dX5_takePart_1 ?_
  obtain ⟨v3, e4, f⟩ := ob f
  refine o_gI S lf5_takePart_52 I e4 dX5_takePart_4 ?_
  refine lv_istore_n (lv' := [(2, .int v3), (0, .ref (b + a0)), (1, .ref (b + a1))]) S.1 S.2.1 dX5_takePart_7 rfl hl (by decide) rfl (fun ls hl => ?_)
  refine lv_iload_n S.1 S.2.1 dX5_takePart_8 rfl (lv_at hl 0 rfl) ?_
  refine lv_bipush (v := 36) S.1 S.2.1 dX5_takePart_9 (by decide) ?_
  refine lv_icmp_ne (tgt := 19) S.1 S.2.1 dX5_takePart_11 (by decide) (fun q5 => ?_) (fun q5 => ?_)
  · have f := (if_neg q5).symm.trans f
    refine lv_iload_n S.1 S.2.1 dX5_takePart_19 rfl (lv_at hl 0 rfl) ?_
    refine lv_bipush (v := 15) S.1 S.2.1 dX5_takePart_20 (by decide) ?_
    refine lv_icmp_ne (tgt := 53) S.1 S.2.1 dX5_takePart_22 (by decide) (fun q6 => ?_) (fun q6 => ?_)
    · have f := (if_neg q6).symm.trans f
      exact T5_takePart_53 S hr hlo  f I (lv_sub hl [1, 2, 0] rfl)
    · have f := (if_pos q6).symm.trans f
      refine lv_aload_n S.1 S.2.1 dX5_takePart_25 rfl (lv_at hl 1 rfl) ?_
      obtain ⟨v7, e8, f⟩ := ob f
      refine o_gI S lf5_takePart_194 I e8 dX5_takePart_26 ?_
      refine lv_if_eq (tgt := 53) S.1 S.2.1 dX5_takePart_29 (by decide) (fun q9 => ?_) (fun q9 => ?_)
      · have f := (if_pos q9).symm.trans f
        exact T5_takePart_53 S hr hlo  f I (lv_sub hl [1, 2, 0] rfl)
      · have f := (if_neg q9).symm.trans f
        refine lv_aload_n S.1 S.2.1 dX5_takePart_32 rfl (lv_at hl 1 rfl) ?_
        obtain ⟨o10, e11, f⟩ := ob f
        refine o_Vi S (As := []) (rest := []) (ci := 5) (M5_countKnot l D cy b A fl e11) gX5_takePart_X5_countKnot rfl rfl rfl cd5_countKnot ⟨Nat.le_of_ble_eq_true rfl, Nat.le_of_ble_eq_true rfl⟩ I (gd e11).1 clX5 rfl rfl hl.1 rfl (Nat.le_of_ble_eq_true rfl) dX5_takePart_33 ⟨Nat.le_of_ble_eq_true rfl, Nat.le_of_ble_eq_true rfl⟩ (fun H locs I => ?_)
        refine lv_if_eq (tgt := 51) S.1 S.2.1 dX5_takePart_36 (by decide) (fun q12 => ?_) (fun q12 => ?_)
        · have f := (if_pos q12).symm.trans f
          refine lv_iconst (v := 0) S.1 S.2.1 dX5_takePart_51 (by decide) ?_
          exact o_zret S hr hlo I f dX5_takePart_52
        · have f := (if_neg q12).symm.trans f
          refine lv_aload_n S.1 S.2.1 dX5_takePart_39 rfl (lv_at hl 1 rfl) ?_
          refine lv_iload_n S.1 S.2.1 dX5_takePart_40 rfl (lv_at hl 0 rfl) ?_
          obtain ⟨o13, e14, f⟩ := ob f
          refine o_Vi S (As := [.int v3]) (rest := []) (ci := 5) (M5_letWait l D cy b A fl e14) gX5_takePart_X5_letWait rfl rfl rfl cd5_letWait ⟨Nat.le_of_ble_eq_true rfl, Nat.le_of_ble_eq_true rfl⟩ I (gd e14).1 clX5 rfl rfl hl.1 rfl (Nat.le_of_ble_eq_true rfl) dX5_takePart_41 ⟨Nat.le_of_ble_eq_true rfl, Nat.le_of_ble_eq_true rfl⟩ (fun H locs I => ?_)
          refine lv_if_eq (tgt := 51) S.1 S.2.1 dX5_takePart_44 (by decide) (fun q15 => ?_) (fun q15 => ?_)
          · have f := (if_pos q15).symm.trans f
            refine lv_iconst (v := 0) S.1 S.2.1 dX5_takePart_51 (by decide) ?_
            exact o_zret S hr hlo I f dX5_takePart_52
          · have f := (if_neg q15).symm.trans f
            refine lv_iconst (v := 1) S.1 S.2.1 dX5_takePart_47 (by decide) ?_
            refine lv_goto (tgt := 52) S.1 S.2.1 dX5_takePart_48 (by decide) ?_
            exact o_zret S hr hlo I f dX5_takePart_52
  · have f := (if_pos q5).symm.trans f
    refine lv_aload_n S.1 S.2.1 dX5_takePart_14 rfl (lv_at hl 1 rfl) ?_
    obtain ⟨o16, e17, f⟩ := ob f
    refine o_Vi S (As := []) (rest := []) (ci := 5) (M5_takeOpen l D cy b A fl e17) gX5_takePart_X5_takeOpen rfl rfl rfl cd5_takeOpen ⟨Nat.le_of_ble_eq_true rfl, Nat.le_of_ble_eq_true rfl⟩ I (gd e17).1 clX5 rfl rfl hl.1 rfl (Nat.le_of_ble_eq_true rfl) dX5_takePart_15 ⟨Nat.le_of_ble_eq_true rfl, Nat.le_of_ble_eq_true rfl⟩ (fun H locs I => ?_)
    exact o_zret S hr hlo I f dX5_takePart_18
theorem M5_takePart (l : Launch) (D : va_G) (cy : Nat → ClassId) (b : Nat) (A : Nat → Prop) (fl : Bool) {h : PH} {a0 : Nat} {a1 : Nat} {out : Int32 × PH} (f : F5_takePart h a0 a1 = some out) : Met l yX5_takePart vX5_takePart ({ frames := 3, cells := 0, slots := 0, locals := 62 } : Room) (va_Pc [.ref (b + a0), .ref (b + a1)] (ph_B D cy b A fl h)) (va_Qi (fun (r : Int32) (u : PH) => (r, u) = out) (ph_B D cy b A fl) A) 0 0 A :=
  o_met (by decide) rfl (Nat.le_of_ble_eq_true rfl) rfl (fun p e s m below meth c S hr hlo hnm ls hl I => T5_takePart_0 S hr hlo ((gd f).2) I (lv_sub hl [0, 1] rfl))
def vX5_takeClose : List Cond := .code yX5_takeClose cX5_takeClose 2 (some .boolean) :: TB
theorem lf5_takeClose_188 : Fl vX5_takeClose RX5 188 5 3 := ⟨RX5, TX5, 11, rfl, by decide, (fun w h9 => List.mem_cons_of_mem _ (wC_wsX50 w h9)), (List.mem_cons_of_mem _ wT_21_13)⟩
theorem gX5_takeClose_X5_release : GoodIn vX5_takeClose (wsV RX5 197 RX5 yX5_release vX5_release) := gV_of wT_21_22 wT_21_23 wT_22_0 wT_1_22 wT_22_1
theorem lp5_takeClose_188 : Pl vX5_takeClose RX5 188 5 3 .int := ⟨RX5, TX5, 11, tyX5, rfl, by decide, (fun w h9 => List.mem_cons_of_mem _ (wC_wsX50 w h9)), (List.mem_cons_of_mem _ wT_21_13), tyX5_ok, nmX5, rfl, rfl⟩
theorem lf5_takeClose_185 : Fl vX5_takeClose RX5 185 5 2 := ⟨RX5, TX5, 11, rfl, by decide, (fun w h9 => List.mem_cons_of_mem _ (wC_wsX50 w h9)), (List.mem_cons_of_mem _ wT_21_12)⟩
theorem lp5_takeClose_185 : Pl vX5_takeClose RX5 185 5 2 .int := ⟨RX5, TX5, 11, tyX5, rfl, by decide, (fun w h9 => List.mem_cons_of_mem _ (wC_wsX50 w h9)), (List.mem_cons_of_mem _ wT_21_12), tyX5_ok, nmX5, rfl, rfl⟩
theorem gX5_takeClose_X5_refuse : GoodIn vX5_takeClose (wsV RX5 89 RX5 yX5_refuse vX5_refuse) := gV_of wT_18_1 wT_18_2 wT_18_3 wT_1_22 wT_18_4
theorem cd5_takeClose : Cd yX5_takeClose 1 := ⟨by decide, by decide, by decide +kernel⟩
set_option maxHeartbeats 4000000 in
set_option maxRecDepth 100000 in
theorem T5_takeClose_0 (S : CallFix p m c cX5_takeClose 2 s args vX5_takeClose RX5) (hr : meth.sig.returnType = (some .boolean)) (hlo : meth.locks = false) {out : Int32 × PH} {h : PH} {a0 : Nat} {a1 : Nat} (f : F5_takeClose_0  h a0 a1 = some out) {H : Heap} {locs : List Loc} (I : ph_I D cy b A fl h s H locs) {ls : Array Slot} (hl : lv_has ls 2 [(0, .ref (b + a0)), (1, .ref (b + a1))]) : W p l e ({ frames := 2, cells := 0, slots := 0, locals := 44 } : Room) s m args below meth c H locs 0 0 (MQ below (va_Qi (fun (r : Int32) (u : PH) => (r, u) = out) (ph_B D cy b A fl) A) args s 0 0 A) (F0 m 0 ls []) := by
  unfold F5_takeClose_0 at f
  refine lv_aload_n S.1 S.2.1 dX5_takeClose_0 rfl (lv_at hl 0 rfl) ?_
  obtain ⟨v1, e2, f⟩ := ob f
  refine o_gI S lf5_takeClose_188 I e2 dX5_takeClose_1 ?_
  refine lv_if_ne (tgt := 13) S.1 S.2.1 dX5_takeClose_4 (by decide) (fun q3 => ?_) (fun q3 => ?_)
  · have f := (if_neg q3).symm.trans f
    refine lv_aload_n S.1 S.2.1 dX5_takeClose_13 rfl (lv_at hl 0 rfl) ?_
    refine lv_aload_n S.1 S.2.1 dX5_takeClose_14 rfl (lv_at hl 1 rfl) ?_
    refine lv_iconst (v := 1) S.1 S.2.1 dX5_takeClose_15 (by decide) ?_
    obtain ⟨o4, e5, f⟩ := ob f
    refine o_Vv S (As := [.ref (b + a1), .int 1]) (rest := []) (ci := 5) (M5_release l D cy b A fl e5) gX5_takeClose_X5_release rfl rfl rfl cd5_release ⟨Nat.le_of_ble_eq_true rfl, Nat.le_of_ble_eq_true rfl⟩ I (gd e5).1 clX5 rfl rfl hl.1 rfl (Nat.le_of_ble_eq_true rfl) dX5_takeClose_16 ⟨Nat.le_of_ble_eq_true rfl, Nat.le_of_ble_eq_true rfl⟩ (fun H locs I => ?_)
    refine lv_aload_n S.1 S.2.1 dX5_takeClose_19 rfl (lv_at hl 0 rfl) ?_
    refine lv_dup S.1 S.2.1 dX5_takeClose_20 rfl ?_
    obtain ⟨v6, e7, f⟩ := ob f
    refine o_gI S lf5_takeClose_188 I e7 dX5_takeClose_21 ?_
    refine lv_iconst (v := 1) S.1 S.2.1 dX5_takeClose_24 (by decide) ?_
    refine lv_isub S.1 S.2.1 dX5_takeClose_25 ?_
    obtain ⟨h8, e9, f⟩ := ob f
    refine o_pI S lp5_takeClose_188 I e9 dX5_takeClose_26 (fun H locs I => ?_)
    refine lv_aload_n S.1 S.2.1 dX5_takeClose_29 rfl (lv_at hl 0 rfl) ?_
    obtain ⟨v10, e11, f⟩ := ob f
    refine o_gI S lf5_takeClose_185 I e11 dX5_takeClose_30 ?_
    refine lv_if_le (tgt := 46) S.1 S.2.1 dX5_takeClose_33 (by decide) (fun q12 => ?_) (fun q12 => ?_)
    · have f := (if_pos q12).symm.trans f
      refine lv_iconst (v := 1) S.1 S.2.1 dX5_takeClose_46 (by decide) ?_
      exact o_zret S hr hlo I f dX5_takeClose_47
    · have f := (if_neg q12).symm.trans f
      refine lv_aload_n S.1 S.2.1 dX5_takeClose_36 rfl (lv_at hl 0 rfl) ?_
      refine lv_dup S.1 S.2.1 dX5_takeClose_37 rfl ?_
      obtain ⟨v13, e14, f⟩ := ob f
      refine o_gI S lf5_takeClose_185 I e14 dX5_takeClose_38 ?_
      refine lv_iconst (v := 1) S.1 S.2.1 dX5_takeClose_41 (by decide) ?_
      refine lv_isub S.1 S.2.1 dX5_takeClose_42 ?_
      obtain ⟨h15, e16, f⟩ := ob f
      refine o_pI S lp5_takeClose_185 I e16 dX5_takeClose_43 (fun H locs I => ?_)
      refine lv_iconst (v := 1) S.1 S.2.1 dX5_takeClose_46 (by decide) ?_
      exact o_zret S hr hlo I f dX5_takeClose_47
  · have f := (if_pos q3).symm.trans f
    refine lv_aload_n S.1 S.2.1 dX5_takeClose_7 rfl (lv_at hl 0 rfl) ?_
    refine lv_iconst (v := 1) S.1 S.2.1 dX5_takeClose_8 (by decide) ?_
    obtain ⟨o17, e18, f⟩ := ob f
    refine o_Vi S (As := [.int 1]) (rest := []) (ci := 5) (M5_refuse l D cy b A fl e18) gX5_takeClose_X5_refuse rfl rfl rfl cd5_refuse ⟨Nat.le_of_ble_eq_true rfl, Nat.le_of_ble_eq_true rfl⟩ I (gd e18).1 clX5 rfl rfl hl.1 rfl (Nat.le_of_ble_eq_true rfl) dX5_takeClose_9 ⟨Nat.le_of_ble_eq_true rfl, Nat.le_of_ble_eq_true rfl⟩ (fun H locs I => ?_)
    exact o_zret S hr hlo I f dX5_takeClose_12
theorem M5_takeClose (l : Launch) (D : va_G) (cy : Nat → ClassId) (b : Nat) (A : Nat → Prop) (fl : Bool) {h : PH} {a0 : Nat} {a1 : Nat} {out : Int32 × PH} (f : F5_takeClose h a0 a1 = some out) : Met l yX5_takeClose vX5_takeClose ({ frames := 2, cells := 0, slots := 0, locals := 44 } : Room) (va_Pc [.ref (b + a0), .ref (b + a1)] (ph_B D cy b A fl h)) (va_Qi (fun (r : Int32) (u : PH) => (r, u) = out) (ph_B D cy b A fl) A) 0 0 A :=
  o_met (by decide) rfl (Nat.le_of_ble_eq_true rfl) rfl (fun p e s m below meth c S hr hlo hnm ls hl I => T5_takeClose_0 S hr hlo ((gd f).2) I (lv_sub hl [0, 1] rfl))
def vX5_waitsForLike : List Cond := .code yX5_waitsForLike cX5_waitsForLike 1 (some .boolean) :: TB
theorem lf5_waitsForLike_185 : Fl vX5_waitsForLike RX5 185 5 2 := ⟨RX5, TX5, 11, rfl, by decide, (fun w h9 => List.mem_cons_of_mem _ (wC_wsX50 w h9)), (List.mem_cons_of_mem _ wT_21_12)⟩
theorem lf5_waitsForLike_22 : Fl vX5_waitsForLike RX5 22 5 1 := ⟨RX5, TX5, 11, rfl, by decide, (fun w h9 => List.mem_cons_of_mem _ (wC_wsX50 w h9)), (List.mem_cons_of_mem _ wT_5_4)⟩
theorem gX5_waitsForLike_X5_strengthOf : GoodIn vX5_waitsForLike (va_wsS RX5 223 yX5_strengthOf vX5_strengthOf) := gS_of wT_22_2 wT_22_3 wT_1_22 wT_22_4
theorem cd5_waitsForLike : Cd yX5_waitsForLike 0 := ⟨by decide, by decide, by decide +kernel⟩
set_option maxHeartbeats 4000000 in
set_option maxRecDepth 100000 in
theorem T5_waitsForLike_0 (S : CallFix p m c cX5_waitsForLike 1 s args vX5_waitsForLike RX5) (hr : meth.sig.returnType = (some .boolean)) (hlo : meth.locks = false) {out : Int32 × PH} {h : PH} {a0 : Nat} (f : F5_waitsForLike_0  h a0 = some out) {H : Heap} {locs : List Loc} (I : ph_I D cy b A fl h s H locs) {ls : Array Slot} (hl : lv_has ls 1 [(0, .ref (b + a0))]) : W p l e ({ frames := 1, cells := 0, slots := 0, locals := 20 } : Room) s m args below meth c H locs 0 0 (MQ below (va_Qi (fun (r : Int32) (u : PH) => (r, u) = out) (ph_B D cy b A fl) A) args s 0 0 A) (F0 m 0 ls []) := by
  unfold F5_waitsForLike_0 at f
  refine lv_aload_n S.1 S.2.1 dX5_waitsForLike_0 rfl (lv_at hl 0 rfl) ?_
  obtain ⟨v1, e2, f⟩ := ob f
  refine o_gI S lf5_waitsForLike_185 I e2 dX5_waitsForLike_1 ?_
  refine lv_if_le (tgt := 33) S.1 S.2.1 dX5_waitsForLike_4 (by decide) (fun q3 => ?_) (fun q3 => ?_)
  · have f := (if_pos q3).symm.trans f
    refine lv_iconst (v := 0) S.1 S.2.1 dX5_waitsForLike_33 (by decide) ?_
    exact o_zret S hr hlo I f dX5_waitsForLike_34
  · have f := (if_neg q3).symm.trans f
    refine lv_aload_n S.1 S.2.1 dX5_waitsForLike_7 rfl (lv_at hl 0 rfl) ?_
    obtain ⟨r4, e5, f⟩ := ob f
    refine o_gR S lf5_waitsForLike_22 I e5 dX5_waitsForLike_8 ?_
    refine lv_aload_n S.1 S.2.1 dX5_waitsForLike_11 rfl (lv_at hl 0 rfl) ?_
    obtain ⟨v6, e7, f⟩ := ob f
    refine o_gI S lf5_waitsForLike_185 I e7 dX5_waitsForLike_12 ?_
    refine lv_iconst (v := 1) S.1 S.2.1 dX5_waitsForLike_15 (by decide) ?_
    refine lv_isub S.1 S.2.1 dX5_waitsForLike_16 ?_
    obtain ⟨v9, e8, f⟩ := ob f
    refine o_iald S I e8 dX5_waitsForLike_17 ?_
    obtain ⟨o10, e11, f⟩ := ob f
    refine o_Si S (As := [.int v9]) (rest := []) (M5_strengthOf l D cy b A fl e11) gX5_waitsForLike_X5_strengthOf rfl rfl rfl cd5_strengthOf ⟨Nat.le_of_ble_eq_true rfl, Nat.le_of_ble_eq_true rfl⟩ I rfl hl.1 rfl (Nat.le_of_ble_eq_true rfl) dX5_waitsForLike_18 ⟨Nat.le_of_ble_eq_true rfl, Nat.le_of_ble_eq_true rfl⟩ (fun H locs I => ?_)
    refine lv_bipush (v := 28) S.1 S.2.1 dX5_waitsForLike_21 (by decide) ?_
    obtain ⟨o12, e13, f⟩ := ob f
    refine o_Si S (As := [.int 28]) (rest := [.int o10.1]) (M5_strengthOf l D cy b A fl e13) gX5_waitsForLike_X5_strengthOf rfl rfl rfl cd5_strengthOf ⟨Nat.le_of_ble_eq_true rfl, Nat.le_of_ble_eq_true rfl⟩ I rfl hl.1 rfl (Nat.le_of_ble_eq_true rfl) dX5_waitsForLike_23 ⟨Nat.le_of_ble_eq_true rfl, Nat.le_of_ble_eq_true rfl⟩ (fun H locs I => ?_)
    refine lv_icmp_ne (tgt := 33) S.1 S.2.1 dX5_waitsForLike_26 (by decide) (fun q14 => ?_) (fun q14 => ?_)
    · have f := (if_neg q14).symm.trans f
      refine lv_iconst (v := 0) S.1 S.2.1 dX5_waitsForLike_33 (by decide) ?_
      exact o_zret S hr hlo I f dX5_waitsForLike_34
    · have f := (if_pos q14).symm.trans f
      refine lv_iconst (v := 1) S.1 S.2.1 dX5_waitsForLike_29 (by decide) ?_
      refine lv_goto (tgt := 34) S.1 S.2.1 dX5_waitsForLike_30 (by decide) ?_
      exact o_zret S hr hlo I f dX5_waitsForLike_34
theorem M5_waitsForLike (l : Launch) (D : va_G) (cy : Nat → ClassId) (b : Nat) (A : Nat → Prop) (fl : Bool) {h : PH} {a0 : Nat} {out : Int32 × PH} (f : F5_waitsForLike h a0 = some out) : Met l yX5_waitsForLike vX5_waitsForLike ({ frames := 1, cells := 0, slots := 0, locals := 20 } : Room) (va_Pc [.ref (b + a0)] (ph_B D cy b A fl h)) (va_Qi (fun (r : Int32) (u : PH) => (r, u) = out) (ph_B D cy b A fl) A) 0 0 A :=
  o_met (by decide) rfl (Nat.le_of_ble_eq_true rfl) rfl (fun p e s m below meth c S hr hlo hnm ls hl I => T5_waitsForLike_0 S hr hlo ((gd f).2) I (lv_sub hl [0] rfl))
def vX5_takeJoint : List Cond := .code yX5_takeJoint cX5_takeJoint 5 (some .boolean) :: TB
theorem gX5_takeJoint_X5_refuse : GoodIn vX5_takeJoint (wsV RX5 89 RX5 yX5_refuse vX5_refuse) := gV_of wT_18_1 wT_18_2 wT_18_3 wT_1_22 wT_18_4
theorem lp5_takeJoint_194 : Pl vX5_takeJoint RX5 194 5 5 .boolean := ⟨RX5, TX5, 11, tyX5, rfl, by decide, (fun w h9 => List.mem_cons_of_mem _ (wC_wsX50 w h9)), (List.mem_cons_of_mem _ wT_21_15), tyX5_ok, nmX5, rfl, rfl⟩
theorem gX5_takeJoint_X5_countKnot : GoodIn vX5_takeJoint (wsV RX5 211 RX5 yX5_countKnot vX5_countKnot) := gV_of wT_22_21 wT_22_22 wT_22_23 wT_1_22 wT_23_0
theorem gX5_takeJoint_X5_letWait : GoodIn vX5_takeJoint (wsV RX5 214 RX5 yX5_letWait vX5_letWait) := gV_of wT_22_17 wT_22_18 wT_22_19 wT_1_22 wT_22_20
theorem lp5_takeJoint_191 : Pl vX5_takeJoint RX5 191 5 4 .boolean := ⟨RX5, TX5, 11, tyX5, rfl, by decide, (fun w h9 => List.mem_cons_of_mem _ (wC_wsX50 w h9)), (List.mem_cons_of_mem _ wT_21_14), tyX5_ok, nmX5, rfl, rfl⟩
theorem gX5_takeJoint_X5_release : GoodIn vX5_takeJoint (wsV RX5 197 RX5 yX5_release vX5_release) := gV_of wT_21_22 wT_21_23 wT_22_0 wT_1_22 wT_22_1
theorem gX5_takeJoint_X5_waitsForLike : GoodIn vX5_takeJoint (wsV RX5 226 RX5 yX5_waitsForLike vX5_waitsForLike) := gV_of wT_23_10 wT_23_11 wT_23_12 wT_1_22 wT_23_13
theorem lf5_takeJoint_18 : Fl vX5_takeJoint RX5 18 5 0 := ⟨RX5, TX5, 11, rfl, by decide, (fun w h9 => List.mem_cons_of_mem _ (wC_wsX50 w h9)), (List.mem_cons_of_mem _ wT_5_3)⟩
theorem lf5_takeJoint_52 : Fl vX5_takeJoint RX5 52 7 4 := ⟨RX7, TX7, 7, rfl, by decide, (fun w h9 => List.mem_cons_of_mem _ (wC_wsX70 w h9)), (List.mem_cons_of_mem _ wT_14_7)⟩
theorem gX5_takeJoint_X5_strengthOf : GoodIn vX5_takeJoint (va_wsS RX5 223 yX5_strengthOf vX5_strengthOf) := gS_of wT_22_2 wT_22_3 wT_1_22 wT_22_4
theorem gX5_takeJoint_X5_takeClose : GoodIn vX5_takeJoint (wsV RX5 220 RX5 yX5_takeClose vX5_takeClose) := gV_of wT_23_6 wT_23_7 wT_23_8 wT_1_22 wT_23_9
theorem cd5_takeJoint : Cd yX5_takeJoint 1 := ⟨by decide, by decide, by decide +kernel⟩
set_option maxHeartbeats 4000000 in
set_option maxRecDepth 100000 in
theorem T5_takeJoint_35 (S : CallFix p m c cX5_takeJoint 5 s args vX5_takeJoint RX5) (hr : meth.sig.returnType = (some .boolean)) (hlo : meth.locks = false) {out : Int32 × PH} {h : PH} {a0 : Nat} (f : F5_takeJoint_35  h a0 = some out) {H : Heap} {locs : List Loc} (I : ph_I D cy b A fl h s H locs) {ls : Array Slot} (hl : lv_has ls 5 [(0, .ref (b + a0))]) : W p l e ({ frames := 3, cells := 0, slots := 0, locals := 65 } : Room) s m args below meth c H locs 0 0 (MQ below (va_Qi (fun (r : Int32) (u : PH) => (r, u) = out) (ph_B D cy b A fl) A) args s 0 0 A) (F0 m 35 ls []) := by
  unfold F5_takeJoint_35 at f
  refine lv_aload_n S.1 S.2.1 dX5_takeJoint_35 rfl (lv_at hl 0 rfl) ?_
  refine lv_iconst (v := 1) S.1 S.2.1 dX5_takeJoint_36 (by decide) ?_
  obtain ⟨o1, e2, f⟩ := ob f
  refine o_Vi S (As := [.int 1]) (rest := []) (ci := 5) (M5_refuse l D cy b A fl e2) gX5_takeJoint_X5_refuse rfl rfl rfl cd5_refuse ⟨Nat.le_of_ble_eq_true rfl, Nat.le_of_ble_eq_true rfl⟩ I (gd e2).1 clX5 rfl rfl hl.1 rfl (Nat.le_of_ble_eq_true rfl) dX5_takeJoint_37 ⟨Nat.le_of_ble_eq_true rfl, Nat.le_of_ble_eq_true rfl⟩ (fun H locs I => ?_)
  exact o_zret S hr hlo I f dX5_takeJoint_40
set_option maxHeartbeats 4000000 in
set_option maxRecDepth 100000 in
theorem T5_takeJoint_115 (S : CallFix p m c cX5_takeJoint 5 s args vX5_takeJoint RX5) (hr : meth.sig.returnType = (some .boolean)) (hlo : meth.locks = false) {out : Int32 × PH} {h : PH} {a0 : Nat} {x2 : Int32} {s0 : Int32} {u1 : Nat} (f : F5_takeJoint_115  h a0 x2 s0 u1 = some out) {H : Heap} {locs : List Loc} (I : ph_I D cy b A fl h s H locs) {ls : Array Slot} (hl : lv_has ls 5 [(0, .ref (b + a0)), (2, .int x2)]) : W p l e ({ frames := 3, cells := 0, slots := 0, locals := 65 } : Room) s m args below meth c H locs 0 0 (MQ below (va_Qi (fun (r : Int32) (u : PH) => (r, u) = out) (ph_B D cy b A fl) A) args s 0 0 A) (F0 m 115 ls [.int s0, .ref (b + u1)]) := by
  unfold F5_takeJoint_115 at f
  obtain ⟨h1, e2, f⟩ := ob f
  refine o_pZ S lp5_takeJoint_194 I e2 dX5_takeJoint_115 (fun H locs I => ?_)
  refine lv_aload_n S.1 S.2.1 dX5_takeJoint_118 rfl (lv_at hl 0 rfl) ?_
  obtain ⟨o3, e4, f⟩ := ob f
  refine o_Vi S (As := []) (rest := []) (ci := 5) (M5_countKnot l D cy b A fl e4) gX5_takeJoint_X5_countKnot rfl rfl rfl cd5_countKnot ⟨Nat.le_of_ble_eq_true rfl, Nat.le_of_ble_eq_true rfl⟩ I (gd e4).1 clX5 rfl rfl hl.1 rfl (Nat.le_of_ble_eq_true rfl) dX5_takeJoint_119 ⟨Nat.le_of_ble_eq_true rfl, Nat.le_of_ble_eq_true rfl⟩ (fun H locs I => ?_)
  refine lv_if_eq (tgt := 137) S.1 S.2.1 dX5_takeJoint_122 (by decide) (fun q5 => ?_) (fun q5 => ?_)
  · have f := (if_pos q5).symm.trans f
    refine lv_iconst (v := 0) S.1 S.2.1 dX5_takeJoint_137 (by decide) ?_
    exact o_zret S hr hlo I f dX5_takeJoint_138
  · have f := (if_neg q5).symm.trans f
    refine lv_aload_n S.1 S.2.1 dX5_takeJoint_125 rfl (lv_at hl 0 rfl) ?_
    refine lv_iload_n S.1 S.2.1 dX5_takeJoint_126 rfl (lv_at hl 1 rfl) ?_
    obtain ⟨o6, e7, f⟩ := ob f
    refine o_Vi S (As := [.int x2]) (rest := []) (ci := 5) (M5_letWait l D cy b A fl e7) gX5_takeJoint_X5_letWait rfl rfl rfl cd5_letWait ⟨Nat.le_of_ble_eq_true rfl, Nat.le_of_ble_eq_true rfl⟩ I (gd e7).1 clX5 rfl rfl hl.1 rfl (Nat.le_of_ble_eq_true rfl) dX5_takeJoint_127 ⟨Nat.le_of_ble_eq_true rfl, Nat.le_of_ble_eq_true rfl⟩ (fun H locs I => ?_)
    refine lv_if_eq (tgt := 137) S.1 S.2.1 dX5_takeJoint_130 (by decide) (fun q8 => ?_) (fun q8 => ?_)
    · have f := (if_pos q8).symm.trans f
      refine lv_iconst (v := 0) S.1 S.2.1 dX5_takeJoint_137 (by decide) ?_
      exact o_zret S hr hlo I f dX5_takeJoint_138
    · have f := (if_neg q8).symm.trans f
      refine lv_iconst (v := 1) S.1 S.2.1 dX5_takeJoint_133 (by decide) ?_
      refine lv_goto (tgt := 138) S.1 S.2.1 dX5_takeJoint_134 (by decide) ?_
      exact o_zret S hr hlo I f dX5_takeJoint_138
set_option maxHeartbeats 4000000 in
set_option maxRecDepth 100000 in
theorem T5_takeJoint_110 (S : CallFix p m c cX5_takeJoint 5 s args vX5_takeJoint RX5) (hr : meth.sig.returnType = (some .boolean)) (hlo : meth.locks = false) {out : Int32 × PH} {h : PH} {a0 : Nat} {x2 : Int32} {u0 : Nat} (f : F5_takeJoint_110  h a0 x2 u0 = some out) {H : Heap} {locs : List Loc} (I : ph_I D cy b A fl h s H locs) {ls : Array Slot} (hl : lv_has ls 5 [(0, .ref (b + a0)), (2, .int x2)]) : W p l e ({ frames := 3, cells := 0, slots := 0, locals := 65 } : Room) s m args below meth c H locs 0 0 (MQ below (va_Qi (fun (r : Int32) (u : PH) => (r, u) = out) (ph_B D cy b A fl) A) args s 0 0 A) (F0 m 110 ls [.ref (b + u0)]) := by
  unfold F5_takeJoint_110 at f
  refine lv_iconst (v := 1) S.1 S.2.1 dX5_takeJoint_110 (by decide) ?_
  refine lv_goto (tgt := 115) S.1 S.2.1 dX5_takeJoint_111 (by decide) ?_
  exact T5_takeJoint_115 S hr hlo  f I (lv_sub hl [0, 1] rfl)
set_option maxHeartbeats 4000000 in
set_option maxRecDepth 100000 in
theorem T5_takeJoint_92 (S : CallFix p m c cX5_takeJoint 5 s args vX5_takeJoint RX5) (hr : meth.sig.returnType = (some .boolean)) (hlo : meth.locks = false) {out : Int32 × PH} {h : PH} {a0 : Nat} {x2 : Int32} (f : F5_takeJoint_92  h a0 x2 = some out) {H : Heap} {locs : List Loc} (I : ph_I D cy b A fl h s H locs) {ls : Array Slot} (hl : lv_has ls 5 [(0, .ref (b + a0)), (2, .int x2)]) : W p l e ({ frames := 3, cells := 0, slots := 0, locals := 65 } : Room) s m args below meth c H locs 0 0 (MQ below (va_Qi (fun (r : Int32) (u : PH) => (r, u) = out) (ph_B D cy b A fl) A) args s 0 0 A) (F0 m 92 ls []) := by
  unfold F5_takeJoint_92 at f
  refine lv_aload_n S.1 S.2.1 dX5_takeJoint_92 rfl (lv_at hl 0 rfl) ?_
  refine lv_iconst (v := 1) S.1 S.2.1 dX5_takeJoint_93 (by decide) ?_
  obtain ⟨h1, e2, f⟩ := ob f
  refine o_pZ S lp5_takeJoint_191 I e2 dX5_takeJoint_94 (fun H locs I => ?_)
  refine lv_aload_n S.1 S.2.1 dX5_takeJoint_97 rfl (lv_at hl 0 rfl) ?_
  refine lv_iload_n S.1 S.2.1 dX5_takeJoint_98 rfl (lv_at hl 1 rfl) ?_
  refine lv_bipush (v := 16) S.1 S.2.1 dX5_takeJoint_99 (by decide) ?_
  refine lv_icmp_eq (tgt := 110) S.1 S.2.1 dX5_takeJoint_101 (by decide) (fun q3 => ?_) (fun q3 => ?_)
  · have f := (if_pos q3).symm.trans f
    exact T5_takeJoint_110 S hr hlo  f I (lv_sub hl [0, 1] rfl)
  · have f := (if_neg q3).symm.trans f
    refine lv_iload_n S.1 S.2.1 dX5_takeJoint_104 rfl (lv_at hl 1 rfl) ?_
    refine lv_bipush (v := 17) S.1 S.2.1 dX5_takeJoint_105 (by decide) ?_
    refine lv_icmp_ne (tgt := 114) S.1 S.2.1 dX5_takeJoint_107 (by decide) (fun q4 => ?_) (fun q4 => ?_)
    · have f := (if_neg q4).symm.trans f
      refine lv_iconst (v := 0) S.1 S.2.1 dX5_takeJoint_114 (by decide) ?_
      exact T5_takeJoint_115 S hr hlo  f I (lv_sub hl [0, 1] rfl)
    · have f := (if_pos q4).symm.trans f
      exact T5_takeJoint_110 S hr hlo  f I (lv_sub hl [0, 1] rfl)
set_option maxHeartbeats 4000000 in
set_option maxRecDepth 100000 in
theorem T5_takeJoint_71 (S : CallFix p m c cX5_takeJoint 5 s args vX5_takeJoint RX5) (hr : meth.sig.returnType = (some .boolean)) (hlo : meth.locks = false) {out : Int32 × PH} {h : PH} {a0 : Nat} {x2 : Int32} {x4 : Int32} {s0 : Int32} {u1 : Nat} {u2 : Nat} (f : F5_takeJoint_71  h a0 x2 x4 s0 u1 u2 = some out) {H : Heap} {locs : List Loc} (I : ph_I D cy b A fl h s H locs) {ls : Array Slot} (hl : lv_has ls 5 [(0, .ref (b + a0)), (2, .int x2), (4, .int x4)]) : W p l e ({ frames := 3, cells := 0, slots := 0, locals := 65 } : Room) s m args below meth c H locs 0 0 (MQ below (va_Qi (fun (r : Int32) (u : PH) => (r, u) = out) (ph_B D cy b A fl) A) args s 0 0 A) (F0 m 71 ls [.int s0, .ref (b + u1), .ref (b + u2)]) := by
  unfold F5_takeJoint_71 at f
  obtain ⟨o1, e2, f⟩ := ob f
  refine o_Vv S (As := [.ref (b + u1), .int s0]) (rest := []) (ci := 5) (M5_release l D cy b A fl e2) gX5_takeJoint_X5_release rfl rfl rfl cd5_release ⟨Nat.le_of_ble_eq_true rfl, Nat.le_of_ble_eq_true rfl⟩ I (gd e2).1 clX5 rfl rfl hl.1 rfl (Nat.le_of_ble_eq_true rfl) dX5_takeJoint_71 ⟨Nat.le_of_ble_eq_true rfl, Nat.le_of_ble_eq_true rfl⟩ (fun H locs I => ?_)
  refine lv_iload S.1 S.2.1 dX5_takeJoint_74 (lv_at hl 2 rfl) ?_
  refine lv_if_eq (tgt := 92) S.1 S.2.1 dX5_takeJoint_76 (by decide) (fun q3 => ?_) (fun q3 => ?_)
  · have f := (if_pos q3).symm.trans f
    exact T5_takeJoint_92 S hr hlo  f I (lv_sub hl [0, 1] rfl)
  · have f := (if_neg q3).symm.trans f
    refine lv_aload_n S.1 S.2.1 dX5_takeJoint_79 rfl (lv_at hl 0 rfl) ?_
    obtain ⟨o4, e5, f⟩ := ob f
    refine o_Vi S (As := []) (rest := []) (ci := 5) (M5_waitsForLike l D cy b A fl e5) gX5_takeJoint_X5_waitsForLike rfl rfl rfl cd5_waitsForLike ⟨Nat.le_of_ble_eq_true rfl, Nat.le_of_ble_eq_true rfl⟩ I (gd e5).1 clX5 rfl rfl hl.1 rfl (Nat.le_of_ble_eq_true rfl) dX5_takeJoint_80 ⟨Nat.le_of_ble_eq_true rfl, Nat.le_of_ble_eq_true rfl⟩ (fun H locs I => ?_)
    refine lv_if_eq (tgt := 92) S.1 S.2.1 dX5_takeJoint_83 (by decide) (fun q6 => ?_) (fun q6 => ?_)
    · have f := (if_pos q6).symm.trans f
      exact T5_takeJoint_92 S hr hlo  f I (lv_sub hl [0, 1] rfl)
    · have f := (if_neg q6).symm.trans f
      refine lv_aload_n S.1 S.2.1 dX5_takeJoint_86 rfl (lv_at hl 0 rfl) ?_
      refine lv_iconst (v := 1) S.1 S.2.1 dX5_takeJoint_87 (by decide) ?_
      obtain ⟨o7, e8, f⟩ := ob f
      refine o_Vi S (As := [.int 1]) (rest := []) (ci := 5) (M5_refuse l D cy b A fl e8) gX5_takeJoint_X5_refuse rfl rfl rfl cd5_refuse ⟨Nat.le_of_ble_eq_true rfl, Nat.le_of_ble_eq_true rfl⟩ I (gd e8).1 clX5 rfl rfl hl.1 rfl (Nat.le_of_ble_eq_true rfl) dX5_takeJoint_88 ⟨Nat.le_of_ble_eq_true rfl, Nat.le_of_ble_eq_true rfl⟩ (fun H locs I => ?_)
      exact o_zret S hr hlo I f dX5_takeJoint_91
set_option maxHeartbeats 4000000 in
set_option maxRecDepth 100000 in
theorem T5_takeJoint_55 (S : CallFix p m c cX5_takeJoint 5 s args vX5_takeJoint RX5) (hr : meth.sig.returnType = (some .boolean)) (hlo : meth.locks = false) {out : Int32 × PH} {h : PH} {a0 : Nat} {a1 : Nat} {x2 : Int32} {x3 : Int32} {s0 : Int32} (f : F5_takeJoint_55  h a0 a1 x2 x3 s0 = some out) {H : Heap} {locs : List Loc} (I : ph_I D cy b A fl h s H locs) {ls : Array Slot} (hl : lv_has ls 5 [(0, .ref (b + a0)), (1, .ref (b + a1)), (2, .int x2), (3, .int x3)]) : W p l e ({ frames := 3, cells := 0, slots := 0, locals := 65 } : Room) s m args below meth c H locs 0 0 (MQ below (va_Qi (fun (r : Int32) (u : PH) => (r, u) = out) (ph_B D cy b A fl) A) args s 0 0 A) (F0 m 55 ls [.int s0]) := by
  unfold F5_takeJoint_55 at f
  refine lv_istore (lv' := [(4, .int s0), (0, .ref (b + a0)), (1, .ref (b + a1)), (2, .int x2), (3, .int x3)]) S.1 S.2.1 dX5_takeJoint_55 hl (by decide) rfl (fun ls hl => ?_)
  refine lv_aload_n S.1 S.2.1 dX5_takeJoint_57 rfl (lv_at hl 1 rfl) ?_
  refine lv_aload_n S.1 S.2.1 dX5_takeJoint_58 rfl (lv_at hl 2 rfl) ?_
  refine lv_iload S.1 S.2.1 dX5_takeJoint_59 (lv_at hl 0 rfl) ?_
  refine lv_if_eq (tgt := 70) S.1 S.2.1 dX5_takeJoint_61 (by decide) (fun q1 => ?_) (fun q1 => ?_)
  · have f := (if_pos q1).symm.trans f
    refine lv_iload_n S.1 S.2.1 dX5_takeJoint_70 rfl (lv_at hl 4 rfl) ?_
    exact T5_takeJoint_71 S hr hlo  f I (lv_sub hl [1, 3, 0] rfl)
  · have f := (if_neg q1).symm.trans f
    refine lv_iload_n S.1 S.2.1 dX5_takeJoint_64 rfl (lv_at hl 4 rfl) ?_
    refine lv_iconst (v := 1) S.1 S.2.1 dX5_takeJoint_65 (by decide) ?_
    refine lv_iadd S.1 S.2.1 dX5_takeJoint_66 ?_
    refine lv_goto (tgt := 71) S.1 S.2.1 dX5_takeJoint_67 (by decide) ?_
    exact T5_takeJoint_71 S hr hlo  f I (lv_sub hl [1, 3, 0] rfl)
set_option maxHeartbeats 4000000 in
set_option maxRecDepth 100000 in
theorem T5_takeJoint_0 (S : CallFix p m c cX5_takeJoint 5 s args vX5_takeJoint RX5) (hr : meth.sig.returnType = (some .boolean)) (hlo : meth.locks = false) {out : Int32 × PH} {h : PH} {a0 : Nat} {a1 : Nat} (f : F5_takeJoint_0  h a0 a1 = some out) {H : Heap} {locs : List Loc} (I : ph_I D cy b A fl h s H locs) {ls : Array Slot} (hl : lv_has ls 5 [(0, .ref (b + a0)), (1, .ref (b + a1))]) : W p l e ({ frames := 3, cells := 0, slots := 0, locals := 65 } : Room) s m args below meth c H locs 0 0 (MQ below (va_Qi (fun (r : Int32) (u : PH) => (r, u) = out) (ph_B D cy b A fl) A) args s 0 0 A) (F0 m 0 ls []) := by
  unfold F5_takeJoint_0 at f
  refine lv_aload_n S.1 S.2.1 dX5_takeJoint_0 rfl (lv_at hl 0 rfl) ?_
  obtain ⟨r1, e2, f⟩ := ob f
  refine o_gR S lf5_takeJoint_18 I e2 dX5_takeJoint_1 ?_
  obtain ⟨v3, e4, f⟩ := ob f
  refine o_gI S lf5_takeJoint_52 I e4 dX5_takeJoint_4 ?_
  refine lv_istore_n (lv' := [(2, .int v3), (0, .ref (b + a0)), (1, .ref (b + a1))]) S.1 S.2.1 dX5_takeJoint_7 rfl hl (by decide) rfl (fun ls hl => ?_)
  refine lv_iload_n S.1 S.2.1 dX5_takeJoint_8 rfl (lv_at hl 0 rfl) ?_
  refine lv_bipush (v := 37) S.1 S.2.1 dX5_takeJoint_9 (by decide) ?_
  refine lv_icmp_ne (tgt := 20) S.1 S.2.1 dX5_takeJoint_11 (by decide) (fun q5 => ?_) (fun q5 => ?_)
  · have f := (if_neg q5).symm.trans f
    refine lv_iload_n S.1 S.2.1 dX5_takeJoint_20 rfl (lv_at hl 0 rfl) ?_
    obtain ⟨o6, e7, f⟩ := ob f
    refine o_Si S (As := [.int v3]) (rest := []) (M5_strengthOf l D cy b A fl e7) gX5_takeJoint_X5_strengthOf rfl rfl rfl cd5_strengthOf ⟨Nat.le_of_ble_eq_true rfl, Nat.le_of_ble_eq_true rfl⟩ I rfl hl.1 rfl (Nat.le_of_ble_eq_true rfl) dX5_takeJoint_21 ⟨Nat.le_of_ble_eq_true rfl, Nat.le_of_ble_eq_true rfl⟩ (fun H locs I => ?_)
    refine lv_istore_n (lv' := [(3, .int o6.1), (2, .int v3), (0, .ref (b + a0)), (1, .ref (b + a1))]) S.1 S.2.1 dX5_takeJoint_24 rfl hl (by decide) rfl (fun ls hl => ?_)
    refine lv_iload_n S.1 S.2.1 dX5_takeJoint_25 rfl (lv_at hl 0 rfl) ?_
    refine lv_if_eq (tgt := 35) S.1 S.2.1 dX5_takeJoint_26 (by decide) (fun q8 => ?_) (fun q8 => ?_)
    · have f := (if_pos q8).symm.trans f
      exact T5_takeJoint_35 S hr hlo  f I (lv_sub hl [2] rfl)
    · have f := (if_neg q8).symm.trans f
      refine lv_iload_n S.1 S.2.1 dX5_takeJoint_29 rfl (lv_at hl 1 rfl) ?_
      refine lv_bipush (v := 15) S.1 S.2.1 dX5_takeJoint_30 (by decide) ?_
      refine lv_icmp_ne (tgt := 41) S.1 S.2.1 dX5_takeJoint_32 (by decide) (fun q9 => ?_) (fun q9 => ?_)
      · have f := (if_neg q9).symm.trans f
        refine lv_iload_n S.1 S.2.1 dX5_takeJoint_41 rfl (lv_at hl 0 rfl) ?_
        refine lv_bipush (v := 28) S.1 S.2.1 dX5_takeJoint_42 (by decide) ?_
        obtain ⟨o10, e11, f⟩ := ob f
        refine o_Si S (As := [.int 28]) (rest := [.int o6.1]) (M5_strengthOf l D cy b A fl e11) gX5_takeJoint_X5_strengthOf rfl rfl rfl cd5_strengthOf ⟨Nat.le_of_ble_eq_true rfl, Nat.le_of_ble_eq_true rfl⟩ I rfl hl.1 rfl (Nat.le_of_ble_eq_true rfl) dX5_takeJoint_44 ⟨Nat.le_of_ble_eq_true rfl, Nat.le_of_ble_eq_true rfl⟩ (fun H locs I => ?_)
        refine lv_icmp_ne (tgt := 54) S.1 S.2.1 dX5_takeJoint_47 (by decide) (fun q12 => ?_) (fun q12 => ?_)
        · have f := (if_neg q12).symm.trans f
          refine lv_iconst (v := 0) S.1 S.2.1 dX5_takeJoint_54 (by decide) ?_
          exact T5_takeJoint_55 S hr hlo  f I (lv_sub hl [2, 3, 1, 0] rfl)
        · have f := (if_pos q12).symm.trans f
          refine lv_iconst (v := 1) S.1 S.2.1 dX5_takeJoint_50 (by decide) ?_
          refine lv_goto (tgt := 55) S.1 S.2.1 dX5_takeJoint_51 (by decide) ?_
          exact T5_takeJoint_55 S hr hlo  f I (lv_sub hl [2, 3, 1, 0] rfl)
      · have f := (if_pos q9).symm.trans f
        exact T5_takeJoint_35 S hr hlo  f I (lv_sub hl [2] rfl)
  · have f := (if_pos q5).symm.trans f
    refine lv_aload_n S.1 S.2.1 dX5_takeJoint_14 rfl (lv_at hl 1 rfl) ?_
    refine lv_aload_n S.1 S.2.1 dX5_takeJoint_15 rfl (lv_at hl 2 rfl) ?_
    obtain ⟨o13, e14, f⟩ := ob f
    refine o_Vi S (As := [.ref (b + a1)]) (rest := []) (ci := 5) (M5_takeClose l D cy b A fl e14) gX5_takeJoint_X5_takeClose rfl rfl rfl cd5_takeClose ⟨Nat.le_of_ble_eq_true rfl, Nat.le_of_ble_eq_true rfl⟩ I (gd e14).1 clX5 rfl rfl hl.1 rfl (Nat.le_of_ble_eq_true rfl) dX5_takeJoint_16 ⟨Nat.le_of_ble_eq_true rfl, Nat.le_of_ble_eq_true rfl⟩ (fun H locs I => ?_)
    exact o_zret S hr hlo I f dX5_takeJoint_19
theorem M5_takeJoint (l : Launch) (D : va_G) (cy : Nat → ClassId) (b : Nat) (A : Nat → Prop) (fl : Bool) {h : PH} {a0 : Nat} {a1 : Nat} {out : Int32 × PH} (f : F5_takeJoint h a0 a1 = some out) : Met l yX5_takeJoint vX5_takeJoint ({ frames := 3, cells := 0, slots := 0, locals := 65 } : Room) (va_Pc [.ref (b + a0), .ref (b + a1)] (ph_B D cy b A fl h)) (va_Qi (fun (r : Int32) (u : PH) => (r, u) = out) (ph_B D cy b A fl) A) 0 0 A :=
  o_met (by decide) rfl (Nat.le_of_ble_eq_true rfl) rfl (fun p e s m below meth c S hr hlo hnm ls hl I => T5_takeJoint_0 S hr hlo ((gd f).2) I (lv_sub hl [0, 1] rfl))
def vX5_readLaw : List Cond := .code yX5_readLaw cX5_readLaw 3 (some .boolean) :: TB
theorem lf5_readLaw_191 : Fl vX5_readLaw RX5 191 5 4 := ⟨RX5, TX5, 11, rfl, by decide, (fun w h9 => List.mem_cons_of_mem _ (wC_wsX50 w h9)), (List.mem_cons_of_mem _ wT_21_14)⟩
theorem gX5_readLaw_X5_takeJoint : GoodIn vX5_readLaw (wsV RX5 205 RX5 yX5_takeJoint vX5_takeJoint) := gV_of wT_23_2 wT_23_3 wT_23_4 wT_1_22 wT_23_5
theorem gX5_readLaw_X5_takePart : GoodIn vX5_readLaw (wsV RX5 201 RX5 yX5_takePart vX5_takePart) := gV_of wT_22_9 wT_22_10 wT_22_11 wT_1_22 wT_22_12
theorem lf5_readLaw_18 : Fl vX5_readLaw RX5 18 5 0 := ⟨RX5, TX5, 11, rfl, by decide, (fun w h9 => List.mem_cons_of_mem _ (wC_wsX50 w h9)), (List.mem_cons_of_mem _ wT_5_3)⟩
theorem gX5_readLaw_X7_advance : GoodIn vX5_readLaw (wsV RX5 49 RX7 yX7_advance vX7_advance) := gV_of wT_15_21 wT_15_22 wT_15_23 wT_5_2 wT_16_0
theorem lf5_readLaw_188 : Fl vX5_readLaw RX5 188 5 3 := ⟨RX5, TX5, 11, rfl, by decide, (fun w h9 => List.mem_cons_of_mem _ (wC_wsX50 w h9)), (List.mem_cons_of_mem _ wT_21_13)⟩
theorem lf5_readLaw_52 : Fl vX5_readLaw RX5 52 7 4 := ⟨RX7, TX7, 7, rfl, by decide, (fun w h9 => List.mem_cons_of_mem _ (wC_wsX70 w h9)), (List.mem_cons_of_mem _ wT_14_7)⟩
theorem gX5_readLaw_X5_release : GoodIn vX5_readLaw (wsV RX5 197 RX5 yX5_release vX5_release) := gV_of wT_21_22 wT_21_23 wT_22_0 wT_1_22 wT_22_1
theorem gX5_readLaw_X5_readKind : GoodIn vX5_readLaw (wsV RX5 181 RX5 yX5_readKind vX5_readKind) := gV_of wT_21_16 wT_21_17 wT_21_18 wT_1_22 wT_21_19
theorem lp5_readLaw_185 : Pl vX5_readLaw RX5 185 5 2 .int := ⟨RX5, TX5, 11, tyX5, rfl, by decide, (fun w h9 => List.mem_cons_of_mem _ (wC_wsX50 w h9)), (List.mem_cons_of_mem _ wT_21_12), tyX5_ok, nmX5, rfl, rfl⟩
theorem lp5_readLaw_188 : Pl vX5_readLaw RX5 188 5 3 .int := ⟨RX5, TX5, 11, tyX5, rfl, by decide, (fun w h9 => List.mem_cons_of_mem _ (wC_wsX50 w h9)), (List.mem_cons_of_mem _ wT_21_13), tyX5_ok, nmX5, rfl, rfl⟩
theorem lp5_readLaw_191 : Pl vX5_readLaw RX5 191 5 4 .boolean := ⟨RX5, TX5, 11, tyX5, rfl, by decide, (fun w h9 => List.mem_cons_of_mem _ (wC_wsX50 w h9)), (List.mem_cons_of_mem _ wT_21_14), tyX5_ok, nmX5, rfl, rfl⟩
theorem lp5_readLaw_194 : Pl vX5_readLaw RX5 194 5 5 .boolean := ⟨RX5, TX5, 11, tyX5, rfl, by decide, (fun w h9 => List.mem_cons_of_mem _ (wC_wsX50 w h9)), (List.mem_cons_of_mem _ wT_21_15), tyX5_ok, nmX5, rfl, rfl⟩
theorem cd5_readLaw : Cd yX5_readLaw 0 := ⟨by decide, by decide, by decide +kernel⟩
set_option maxHeartbeats 4000000 in
set_option maxRecDepth 100000 in
theorem T5_readLaw_81 (S : CallFix p m c cX5_readLaw 3 s args vX5_readLaw RX5) (hr : meth.sig.returnType = (some .boolean)) (hlo : meth.locks = false) {out : Int32 × PH} {k33 : PH → Nat → Nat → Int32 → Option (Int32 × PH)} (hk33 : ∀ {h : PH} {a0 : Nat} {a1 : Nat} {x2 : Int32}, k33 h a0 a1 x2 = some out → ∀ (H : Heap) (locs : List Loc), ph_I D cy b A fl h s H locs → ∀ (ls : Array Slot), lv_has ls 3 [(0, .ref (b + a0)), (1, .ref (b + a1)), (2, .int x2)] → W p l e ({ frames := 4, cells := 0, slots := 0, locals := 89 } : Room) s m args below meth c H locs 0 0 (MQ below (va_Qi (fun (r : Int32) (u : PH) => (r, u) = out) (ph_B D cy b A fl) A) args s 0 0 A) (F0 m 33 ls [])) {h : PH} {a0 : Nat} {a1 : Nat} {x2 : Int32} (f : F5_readLaw_81 k33 h a0 a1 x2 = some out) {H : Heap} {locs : List Loc} (I : ph_I D cy b A fl h s H locs) {ls : Array Slot} (hl : lv_has ls 3 [(0, .ref (b + a0)), (1, .ref (b + a1)), (2, .int x2)]) : W p l e ({ frames := 4, cells := 0, slots := 0, locals := 89 } : Room) s m args below meth c H locs 0 0 (MQ below (va_Qi (fun (r : Int32) (u : PH) => (r, u) = out) (ph_B D cy b A fl) A) args s 0 0 A) (F0 m 81 ls []) := by
  unfold F5_readLaw_81 at f
  refine lv_aload_n S.1 S.2.1 dX5_readLaw_81 rfl (lv_at hl 0 rfl) ?_
  obtain ⟨v1, e2, f⟩ := ob f
  refine o_gI S lf5_readLaw_191 I e2 dX5_readLaw_82 ?_
  refine lv_if_eq (tgt := 99) S.1 S.2.1 dX5_readLaw_85 (by decide) (fun q3 => ?_) (fun q3 => ?_)
  · have f := (if_pos q3).symm.trans f
    refine lv_aload_n S.1 S.2.1 dX5_readLaw_99 rfl (lv_at hl 0 rfl) ?_
    refine lv_aload_n S.1 S.2.1 dX5_readLaw_100 rfl (lv_at hl 1 rfl) ?_
    obtain ⟨o4, e5, f⟩ := ob f
    refine o_Vi S (As := [.ref (b + a1)]) (rest := []) (ci := 5) (M5_takeJoint l D cy b A fl e5) gX5_readLaw_X5_takeJoint rfl rfl rfl cd5_takeJoint ⟨Nat.le_of_ble_eq_true rfl, Nat.le_of_ble_eq_true rfl⟩ I (gd e5).1 clX5 rfl rfl hl.1 rfl (Nat.le_of_ble_eq_true rfl) dX5_readLaw_101 ⟨Nat.le_of_ble_eq_true rfl, Nat.le_of_ble_eq_true rfl⟩ (fun H locs I => ?_)
    refine lv_if_ne (tgt := 109) S.1 S.2.1 dX5_readLaw_104 (by decide) (fun q6 => ?_) (fun q6 => ?_)
    · have f := (if_neg q6).symm.trans f
      refine lv_iinc (v := (x2 + 1)) (lv' := [(2, .int (x2 + 1)), (0, .ref (b + a0)), (1, .ref (b + a1))]) S.1 S.2.1 dX5_readLaw_109 hl (k := 2) rfl (congrArg (fun z => x2 + z) (by decide)) (by decide) rfl (fun ls hl => ?_)
      refine lv_goto (tgt := 33) S.1 S.2.1 dX5_readLaw_112 (by decide) ?_
      exact hk33 f _ _ I _ (lv_sub hl [1, 2, 0] rfl)
    · have f := (if_pos q6).symm.trans f
      refine lv_iconst (v := 0) S.1 S.2.1 dX5_readLaw_107 (by decide) ?_
      exact o_zret S hr hlo I f dX5_readLaw_108
  · have f := (if_neg q3).symm.trans f
    refine lv_aload_n S.1 S.2.1 dX5_readLaw_88 rfl (lv_at hl 0 rfl) ?_
    refine lv_aload_n S.1 S.2.1 dX5_readLaw_89 rfl (lv_at hl 1 rfl) ?_
    obtain ⟨o7, e8, f⟩ := ob f
    refine o_Vi S (As := [.ref (b + a1)]) (rest := []) (ci := 5) (M5_takePart l D cy b A fl e8) gX5_readLaw_X5_takePart rfl rfl rfl cd5_takePart ⟨Nat.le_of_ble_eq_true rfl, Nat.le_of_ble_eq_true rfl⟩ I (gd e8).1 clX5 rfl rfl hl.1 rfl (Nat.le_of_ble_eq_true rfl) dX5_readLaw_90 ⟨Nat.le_of_ble_eq_true rfl, Nat.le_of_ble_eq_true rfl⟩ (fun H locs I => ?_)
    refine lv_if_eq (tgt := 107) S.1 S.2.1 dX5_readLaw_93 (by decide) (fun q9 => ?_) (fun q9 => ?_)
    · have f := (if_pos q9).symm.trans f
      refine lv_iconst (v := 0) S.1 S.2.1 dX5_readLaw_107 (by decide) ?_
      exact o_zret S hr hlo I f dX5_readLaw_108
    · have f := (if_neg q9).symm.trans f
      refine lv_goto (tgt := 109) S.1 S.2.1 dX5_readLaw_96 (by decide) ?_
      refine lv_iinc (v := (x2 + 1)) (lv' := [(2, .int (x2 + 1)), (0, .ref (b + a0)), (1, .ref (b + a1))]) S.1 S.2.1 dX5_readLaw_109 hl (k := 2) rfl (congrArg (fun z => x2 + z) (by decide)) (by decide) rfl (fun ls hl => ?_)
      refine lv_goto (tgt := 33) S.1 S.2.1 dX5_readLaw_112 (by decide) ?_
      exact hk33 f _ _ I _ (lv_sub hl [1, 2, 0] rfl)
set_option maxHeartbeats 4000000 in
set_option maxRecDepth 100000 in
theorem T5_readLaw_33 (S : CallFix p m c cX5_readLaw 3 s args vX5_readLaw RX5) (hr : meth.sig.returnType = (some .boolean)) (hlo : meth.locks = false) {out : Int32 × PH} : ∀ (n : Nat) {h : PH} {a0 : Nat} {a1 : Nat} {x2 : Int32} (f : F5_readLaw_33  n h a0 a1 x2 = some out) {H : Heap} {locs : List Loc} (I : ph_I D cy b A fl h s H locs) {ls : Array Slot} (hl : lv_has ls 3 [(0, .ref (b + a0)), (1, .ref (b + a1)), (2, .int x2)]), W p l e ({ frames := 4, cells := 0, slots := 0, locals := 89 } : Room) s m args below meth c H locs 0 0 (MQ below (va_Qi (fun (r : Int32) (u : PH) => (r, u) = out) (ph_B D cy b A fl) A) args s 0 0 A) (F0 m 33 ls []) := by
  intro n
  induction n with
  | zero => intro h a0 a1 x2 f; rw [F5_readLaw_33] at f; cases f
  | succ n ih =>
    intro h a0 a1 x2 f H locs I ls hl
    rw [F5_readLaw_33] at f
    refine lv_iload_n S.1 S.2.1 dX5_readLaw_33 rfl (lv_at hl 2 rfl) ?_
    refine lv_sipush (v := 700) S.1 S.2.1 dX5_readLaw_34 (by decide) ?_
    refine lv_icmp_gt (tgt := 115) S.1 S.2.1 dX5_readLaw_37 (by decide) (fun q1 => ?_) (fun q1 => ?_)
    · have f := (if_pos q1).symm.trans f
      refine lv_iconst (v := 0) S.1 S.2.1 dX5_readLaw_115 (by decide) ?_
      exact o_zret S hr hlo I f dX5_readLaw_116
    · have f := (if_neg q1).symm.trans f
      refine lv_aload_n S.1 S.2.1 dX5_readLaw_40 rfl (lv_at hl 0 rfl) ?_
      obtain ⟨r2, e3, f⟩ := ob f
      refine o_gR S lf5_readLaw_18 I e3 dX5_readLaw_41 ?_
      obtain ⟨o4, e5, f⟩ := ob f
      refine o_Vv S (As := []) (rest := []) (ci := 7) (M7_advance l D cy b A fl e5) gX5_readLaw_X7_advance rfl rfl rfl cd7_advance ⟨Nat.le_of_ble_eq_true rfl, Nat.le_of_ble_eq_true rfl⟩ I (gd e5).1 clX7 rfl rfl hl.1 rfl (Nat.le_of_ble_eq_true rfl) dX5_readLaw_44 ⟨Nat.le_of_ble_eq_true rfl, Nat.le_of_ble_eq_true rfl⟩ (fun H locs I => ?_)
      refine lv_aload_n S.1 S.2.1 dX5_readLaw_47 rfl (lv_at hl 0 rfl) ?_
      obtain ⟨v6, e7, f⟩ := ob f
      refine o_gI S lf5_readLaw_191 I e7 dX5_readLaw_48 ?_
      refine lv_if_ne (tgt := 81) S.1 S.2.1 dX5_readLaw_51 (by decide) (fun q8 => ?_) (fun q8 => ?_)
      · have f := (if_neg q8).symm.trans f
        exact T5_readLaw_81 S hr hlo (fun f _ _ I _ hl => ih f I hl) f I (lv_sub hl [0, 1, 2] rfl)
      · have f := (if_pos q8).symm.trans f
        refine lv_aload_n S.1 S.2.1 dX5_readLaw_54 rfl (lv_at hl 0 rfl) ?_
        obtain ⟨v9, e10, f⟩ := ob f
        refine o_gI S lf5_readLaw_188 I e10 dX5_readLaw_55 ?_
        refine lv_if_ne (tgt := 81) S.1 S.2.1 dX5_readLaw_58 (by decide) (fun q11 => ?_) (fun q11 => ?_)
        · have f := (if_neg q11).symm.trans f
          exact T5_readLaw_81 S hr hlo (fun f _ _ I _ hl => ih f I hl) f I (lv_sub hl [0, 1, 2] rfl)
        · have f := (if_pos q11).symm.trans f
          refine lv_aload_n S.1 S.2.1 dX5_readLaw_61 rfl (lv_at hl 0 rfl) ?_
          obtain ⟨r12, e13, f⟩ := ob f
          refine o_gR S lf5_readLaw_18 I e13 dX5_readLaw_62 ?_
          obtain ⟨v14, e15, f⟩ := ob f
          refine o_gI S lf5_readLaw_52 I e15 dX5_readLaw_65 ?_
          refine lv_bipush (v := 38) S.1 S.2.1 dX5_readLaw_68 (by decide) ?_
          refine lv_icmp_ne (tgt := 81) S.1 S.2.1 dX5_readLaw_70 (by decide) (fun q16 => ?_) (fun q16 => ?_)
          · have f := (if_neg q16).symm.trans f
            exact T5_readLaw_81 S hr hlo (fun f _ _ I _ hl => ih f I hl) f I (lv_sub hl [0, 1, 2] rfl)
          · have f := (if_pos q16).symm.trans f
            refine lv_aload_n S.1 S.2.1 dX5_readLaw_73 rfl (lv_at hl 0 rfl) ?_
            refine lv_aload_n S.1 S.2.1 dX5_readLaw_74 rfl (lv_at hl 1 rfl) ?_
            refine lv_iconst (v := 1) S.1 S.2.1 dX5_readLaw_75 (by decide) ?_
            obtain ⟨o17, e18, f⟩ := ob f
            refine o_Vv S (As := [.ref (b + a1), .int 1]) (rest := []) (ci := 5) (M5_release l D cy b A fl e18) gX5_readLaw_X5_release rfl rfl rfl cd5_release ⟨Nat.le_of_ble_eq_true rfl, Nat.le_of_ble_eq_true rfl⟩ I (gd e18).1 clX5 rfl rfl hl.1 rfl (Nat.le_of_ble_eq_true rfl) dX5_readLaw_76 ⟨Nat.le_of_ble_eq_true rfl, Nat.le_of_ble_eq_true rfl⟩ (fun H locs I => ?_)
            refine lv_iconst (v := 1) S.1 S.2.1 dX5_readLaw_79 (by decide) ?_
            exact o_zret S hr hlo I f dX5_readLaw_80
set_option maxHeartbeats 4000000 in
set_option maxRecDepth 100000 in
theorem T5_readLaw_0 (S : CallFix p m c cX5_readLaw 3 s args vX5_readLaw RX5) (hr : meth.sig.returnType = (some .boolean)) (hlo : meth.locks = false) {out : Int32 × PH} {h : PH} {a0 : Nat} (f : F5_readLaw_0  h a0 = some out) {H : Heap} {locs : List Loc} (I : ph_I D cy b A fl h s H locs) {ls : Array Slot} (hl : lv_has ls 3 [(0, .ref (b + a0))]) : W p l e ({ frames := 4, cells := 0, slots := 0, locals := 89 } : Room) s m args below meth c H locs 0 0 (MQ below (va_Qi (fun (r : Int32) (u : PH) => (r, u) = out) (ph_B D cy b A fl) A) args s 0 0 A) (F0 m 0 ls []) := by
  unfold F5_readLaw_0 at f
  refine lv_aload_n S.1 S.2.1 dX5_readLaw_0 rfl (lv_at hl 0 rfl) ?_
  obtain ⟨o1, e2, f⟩ := ob f
  refine o_Vq S (As := []) (rest := []) (ci := 5) (M5_readKind l D cy b A fl e2) gX5_readLaw_X5_readKind rfl rfl rfl cd5_readKind ⟨Nat.le_of_ble_eq_true rfl, Nat.le_of_ble_eq_true rfl⟩ I (gd e2).1 clX5 rfl rfl hl.1 rfl (Nat.le_of_ble_eq_true rfl) dX5_readLaw_1 ⟨Nat.le_of_ble_eq_true rfl, Nat.le_of_ble_eq_true rfl⟩ (fun q4 H locs I => ?_) (fun r3 q4 H locs I => ?_)
  · rw [q4] at f
    refine lv_astore_nN (lv' := [(1, .null), (0, .ref (b + a0))]) S.1 S.2.1 dX5_readLaw_4 rfl hl (by decide) rfl (fun ls hl => ?_)
    refine lv_aload_nN S.1 S.2.1 dX5_readLaw_5 rfl (lv_at hl 0 rfl) ?_
    refine lv_ifnonnullN S.1 S.2.1 dX5_readLaw_6 ?_
    refine lv_iconst (v := 0) S.1 S.2.1 dX5_readLaw_9 (by decide) ?_
    exact o_zret S hr hlo I f dX5_readLaw_10
  · rw [q4] at f
    refine lv_astore_n (lv' := [(1, .ref (b + r3)), (0, .ref (b + a0))]) S.1 S.2.1 dX5_readLaw_4 rfl hl (by decide) rfl (fun ls hl => ?_)
    refine lv_aload_n S.1 S.2.1 dX5_readLaw_5 rfl (lv_at hl 0 rfl) ?_
    refine lv_ifnonnull (tgt := 11) S.1 S.2.1 dX5_readLaw_6 (by decide) ?_
    refine lv_aload_n S.1 S.2.1 dX5_readLaw_11 rfl (lv_at hl 1 rfl) ?_
    refine lv_iconst (v := 0) S.1 S.2.1 dX5_readLaw_12 (by decide) ?_
    obtain ⟨h5, e6, f⟩ := ob f
    refine o_pI S lp5_readLaw_185 I e6 dX5_readLaw_13 (fun H locs I => ?_)
    refine lv_aload_n S.1 S.2.1 dX5_readLaw_16 rfl (lv_at hl 1 rfl) ?_
    refine lv_iconst (v := 0) S.1 S.2.1 dX5_readLaw_17 (by decide) ?_
    obtain ⟨h7, e8, f⟩ := ob f
    refine o_pI S lp5_readLaw_188 I e8 dX5_readLaw_18 (fun H locs I => ?_)
    refine lv_aload_n S.1 S.2.1 dX5_readLaw_21 rfl (lv_at hl 1 rfl) ?_
    refine lv_iconst (v := 1) S.1 S.2.1 dX5_readLaw_22 (by decide) ?_
    obtain ⟨h9, e10, f⟩ := ob f
    refine o_pZ S lp5_readLaw_191 I e10 dX5_readLaw_23 (fun H locs I => ?_)
    refine lv_aload_n S.1 S.2.1 dX5_readLaw_26 rfl (lv_at hl 1 rfl) ?_
    refine lv_iconst (v := 1) S.1 S.2.1 dX5_readLaw_27 (by decide) ?_
    obtain ⟨h11, e12, f⟩ := ob f
    refine o_pZ S lp5_readLaw_194 I e12 dX5_readLaw_28 (fun H locs I => ?_)
    refine lv_iconst (v := 0) S.1 S.2.1 dX5_readLaw_31 (by decide) ?_
    refine lv_istore_n (lv' := [(2, .int 0), (1, .ref (b + r3)), (0, .ref (b + a0))]) S.1 S.2.1 dX5_readLaw_32 rfl hl (by decide) rfl (fun ls hl => ?_)
    exact T5_readLaw_33 S hr hlo  1024 f I (lv_sub hl [2, 1, 0] rfl)
theorem M5_readLaw (l : Launch) (D : va_G) (cy : Nat → ClassId) (b : Nat) (A : Nat → Prop) (fl : Bool) {h : PH} {a0 : Nat} {out : Int32 × PH} (f : F5_readLaw h a0 = some out) : Met l yX5_readLaw vX5_readLaw ({ frames := 4, cells := 0, slots := 0, locals := 89 } : Room) (va_Pc [.ref (b + a0)] (ph_B D cy b A fl h)) (va_Qi (fun (r : Int32) (u : PH) => (r, u) = out) (ph_B D cy b A fl) A) 0 0 A :=
  o_met (by decide) rfl (Nat.le_of_ble_eq_true rfl) rfl (fun p e s m below meth c S hr hlo hnm ls hl I => T5_readLaw_0 S hr hlo ((gd f).2) I (lv_sub hl [0] rfl))
def vX5_readLine : List Cond := .code yX5_readLine cX5_readLine 1 (some .boolean) :: TB
theorem lf5_readLine_18 : Fl vX5_readLine RX5 18 5 0 := ⟨RX5, TX5, 11, rfl, by decide, (fun w h9 => List.mem_cons_of_mem _ (wC_wsX50 w h9)), (List.mem_cons_of_mem _ wT_5_3)⟩
theorem lf5_readLine_52 : Fl vX5_readLine RX5 52 7 4 := ⟨RX7, TX7, 7, rfl, by decide, (fun w h9 => List.mem_cons_of_mem _ (wC_wsX70 w h9)), (List.mem_cons_of_mem _ wT_14_7)⟩
theorem gX5_readLine_X5_readSea : GoodIn vX5_readLine (wsV RX5 65 RX5 yX5_readSea vX5_readSea) := gV_of wT_17_15 wT_17_16 wT_17_17 wT_1_22 wT_17_18
theorem gX5_readLine_X5_readPeak : GoodIn vX5_readLine (wsV RX5 68 RX5 yX5_readPeak vX5_readPeak) := gV_of wT_18_19 wT_18_20 wT_18_21 wT_1_22 wT_18_22
theorem gX5_readLine_X5_readSurfer : GoodIn vX5_readLine (wsV RX5 71 RX5 yX5_readSurfer vX5_readSurfer) := gV_of wT_19_1 wT_19_2 wT_19_3 wT_1_22 wT_19_4
theorem gX5_readLine_X5_readSet : GoodIn vX5_readLine (wsV RX5 74 RX5 yX5_readSet vX5_readSet) := gV_of wT_19_16 wT_19_17 wT_19_18 wT_1_22 wT_19_19
theorem gX5_readLine_X5_readBank : GoodIn vX5_readLine (wsV RX5 77 RX5 yX5_readBank vX5_readBank) := gV_of wT_20_14 wT_20_15 wT_20_16 wT_1_22 wT_20_17
theorem gX5_readLine_X5_readRule : GoodIn vX5_readLine (wsV RX5 80 RX5 yX5_readRule vX5_readRule) := gV_of wT_20_21 wT_20_22 wT_20_23 wT_1_22 wT_21_0
theorem gX5_readLine_X5_readSeed : GoodIn vX5_readLine (wsV RX5 83 RX5 yX5_readSeed vX5_readSeed) := gV_of wT_21_2 wT_21_3 wT_21_4 wT_1_22 wT_21_5
theorem gX5_readLine_X5_readLaw : GoodIn vX5_readLine (wsV RX5 86 RX5 yX5_readLaw vX5_readLaw) := gV_of wT_21_8 wT_21_9 wT_21_10 wT_1_22 wT_21_11
theorem gX5_readLine_X5_refuse : GoodIn vX5_readLine (wsV RX5 89 RX5 yX5_refuse vX5_refuse) := gV_of wT_18_1 wT_18_2 wT_18_3 wT_1_22 wT_18_4
theorem cd5_readLine : Cd yX5_readLine 0 := ⟨by decide, by decide, by decide +kernel⟩
set_option maxHeartbeats 4000000 in
set_option maxRecDepth 100000 in
theorem T5_readLine_0 (S : CallFix p m c cX5_readLine 1 s args vX5_readLine RX5) (hr : meth.sig.returnType = (some .boolean)) (hlo : meth.locks = false) {out : Int32 × PH} {h : PH} {a0 : Nat} (f : F5_readLine_0  h a0 = some out) {H : Heap} {locs : List Loc} (I : ph_I D cy b A fl h s H locs) {ls : Array Slot} (hl : lv_has ls 1 [(0, .ref (b + a0))]) : W p l e ({ frames := 5, cells := 0, slots := 0, locals := 113 } : Room) s m args below meth c H locs 0 0 (MQ below (va_Qi (fun (r : Int32) (u : PH) => (r, u) = out) (ph_B D cy b A fl) A) args s 0 0 A) (F0 m 0 ls []) := by
  unfold F5_readLine_0 at f
  refine lv_aload_n S.1 S.2.1 dX5_readLine_0 rfl (lv_at hl 0 rfl) ?_
  obtain ⟨r1, e2, f⟩ := ob f
  refine o_gR S lf5_readLine_18 I e2 dX5_readLine_1 ?_
  obtain ⟨v3, e4, f⟩ := ob f
  refine o_gI S lf5_readLine_52 I e4 dX5_readLine_4 ?_
  rcases Decidable.em (v3 = 0) with q5 | q5
  · have f := (if_pos q5).symm.trans f
    refine lv_tableIn (off := 45) (tgt := 52) S.1 S.2.1 dX5_readLine_7 (by rw [q5]; decide) (by rw [q5]; decide) (by rw [q5]; rfl) (by decide) ?_
    refine lv_aload_n S.1 S.2.1 dX5_readLine_52 rfl (lv_at hl 0 rfl) ?_
    obtain ⟨o6, e7, f⟩ := ob f
    refine o_Vi S (As := []) (rest := []) (ci := 5) (M5_readSea l D cy b A fl e7) gX5_readLine_X5_readSea rfl rfl rfl cd5_readSea ⟨Nat.le_of_ble_eq_true rfl, Nat.le_of_ble_eq_true rfl⟩ I (gd e7).1 clX5 rfl rfl hl.1 rfl (Nat.le_of_ble_eq_true rfl) dX5_readLine_53 ⟨Nat.le_of_ble_eq_true rfl, Nat.le_of_ble_eq_true rfl⟩ (fun H locs I => ?_)
    exact o_zret S hr hlo I f dX5_readLine_56
  have f := (if_neg q5).symm.trans f
  rcases Decidable.em (v3 = 1) with q8 | q8
  · have f := (if_pos q8).symm.trans f
    refine lv_tableIn (off := 50) (tgt := 57) S.1 S.2.1 dX5_readLine_7 (by rw [q8]; decide) (by rw [q8]; decide) (by rw [q8]; rfl) (by decide) ?_
    refine lv_aload_n S.1 S.2.1 dX5_readLine_57 rfl (lv_at hl 0 rfl) ?_
    obtain ⟨o9, e10, f⟩ := ob f
    refine o_Vi S (As := []) (rest := []) (ci := 5) (M5_readPeak l D cy b A fl e10) gX5_readLine_X5_readPeak rfl rfl rfl cd5_readPeak ⟨Nat.le_of_ble_eq_true rfl, Nat.le_of_ble_eq_true rfl⟩ I (gd e10).1 clX5 rfl rfl hl.1 rfl (Nat.le_of_ble_eq_true rfl) dX5_readLine_58 ⟨Nat.le_of_ble_eq_true rfl, Nat.le_of_ble_eq_true rfl⟩ (fun H locs I => ?_)
    exact o_zret S hr hlo I f dX5_readLine_61
  have f := (if_neg q8).symm.trans f
  rcases Decidable.em (v3 = 2) with q11 | q11
  · have f := (if_pos q11).symm.trans f
    refine lv_tableIn (off := 55) (tgt := 62) S.1 S.2.1 dX5_readLine_7 (by rw [q11]; decide) (by rw [q11]; decide) (by rw [q11]; rfl) (by decide) ?_
    refine lv_aload_n S.1 S.2.1 dX5_readLine_62 rfl (lv_at hl 0 rfl) ?_
    obtain ⟨o12, e13, f⟩ := ob f
    refine o_Vi S (As := []) (rest := []) (ci := 5) (M5_readSurfer l D cy b A fl e13) gX5_readLine_X5_readSurfer rfl rfl rfl cd5_readSurfer ⟨Nat.le_of_ble_eq_true rfl, Nat.le_of_ble_eq_true rfl⟩ I (gd e13).1 clX5 rfl rfl hl.1 rfl (Nat.le_of_ble_eq_true rfl) dX5_readLine_63 ⟨Nat.le_of_ble_eq_true rfl, Nat.le_of_ble_eq_true rfl⟩ (fun H locs I => ?_)
    exact o_zret S hr hlo I f dX5_readLine_66
  have f := (if_neg q11).symm.trans f
  rcases Decidable.em (v3 = 3) with q14 | q14
  · have f := (if_pos q14).symm.trans f
    refine lv_tableIn (off := 60) (tgt := 67) S.1 S.2.1 dX5_readLine_7 (by rw [q14]; decide) (by rw [q14]; decide) (by rw [q14]; rfl) (by decide) ?_
    refine lv_aload_n S.1 S.2.1 dX5_readLine_67 rfl (lv_at hl 0 rfl) ?_
    obtain ⟨o15, e16, f⟩ := ob f
    refine o_Vi S (As := []) (rest := []) (ci := 5) (M5_readSet l D cy b A fl e16) gX5_readLine_X5_readSet rfl rfl rfl cd5_readSet ⟨Nat.le_of_ble_eq_true rfl, Nat.le_of_ble_eq_true rfl⟩ I (gd e16).1 clX5 rfl rfl hl.1 rfl (Nat.le_of_ble_eq_true rfl) dX5_readLine_68 ⟨Nat.le_of_ble_eq_true rfl, Nat.le_of_ble_eq_true rfl⟩ (fun H locs I => ?_)
    exact o_zret S hr hlo I f dX5_readLine_71
  have f := (if_neg q14).symm.trans f
  rcases Decidable.em (v3 = 4) with q17 | q17
  · have f := (if_pos q17).symm.trans f
    refine lv_tableIn (off := 65) (tgt := 72) S.1 S.2.1 dX5_readLine_7 (by rw [q17]; decide) (by rw [q17]; decide) (by rw [q17]; rfl) (by decide) ?_
    refine lv_aload_n S.1 S.2.1 dX5_readLine_72 rfl (lv_at hl 0 rfl) ?_
    obtain ⟨o18, e19, f⟩ := ob f
    refine o_Vi S (As := []) (rest := []) (ci := 5) (M5_readBank l D cy b A fl e19) gX5_readLine_X5_readBank rfl rfl rfl cd5_readBank ⟨Nat.le_of_ble_eq_true rfl, Nat.le_of_ble_eq_true rfl⟩ I (gd e19).1 clX5 rfl rfl hl.1 rfl (Nat.le_of_ble_eq_true rfl) dX5_readLine_73 ⟨Nat.le_of_ble_eq_true rfl, Nat.le_of_ble_eq_true rfl⟩ (fun H locs I => ?_)
    exact o_zret S hr hlo I f dX5_readLine_76
  have f := (if_neg q17).symm.trans f
  rcases Decidable.em (v3 = 5) with q20 | q20
  · have f := (if_pos q20).symm.trans f
    refine lv_tableIn (off := 70) (tgt := 77) S.1 S.2.1 dX5_readLine_7 (by rw [q20]; decide) (by rw [q20]; decide) (by rw [q20]; rfl) (by decide) ?_
    refine lv_aload_n S.1 S.2.1 dX5_readLine_77 rfl (lv_at hl 0 rfl) ?_
    obtain ⟨o21, e22, f⟩ := ob f
    refine o_Vi S (As := []) (rest := []) (ci := 5) (M5_readRule l D cy b A fl e22) gX5_readLine_X5_readRule rfl rfl rfl cd5_readRule ⟨Nat.le_of_ble_eq_true rfl, Nat.le_of_ble_eq_true rfl⟩ I (gd e22).1 clX5 rfl rfl hl.1 rfl (Nat.le_of_ble_eq_true rfl) dX5_readLine_78 ⟨Nat.le_of_ble_eq_true rfl, Nat.le_of_ble_eq_true rfl⟩ (fun H locs I => ?_)
    exact o_zret S hr hlo I f dX5_readLine_81
  have f := (if_neg q20).symm.trans f
  rcases Decidable.em (v3 = 6) with q23 | q23
  · have f := (if_pos q23).symm.trans f
    refine lv_tableIn (off := 75) (tgt := 82) S.1 S.2.1 dX5_readLine_7 (by rw [q23]; decide) (by rw [q23]; decide) (by rw [q23]; rfl) (by decide) ?_
    refine lv_aload_n S.1 S.2.1 dX5_readLine_82 rfl (lv_at hl 0 rfl) ?_
    obtain ⟨o24, e25, f⟩ := ob f
    refine o_Vi S (As := []) (rest := []) (ci := 5) (M5_readSeed l D cy b A fl e25) gX5_readLine_X5_readSeed rfl rfl rfl cd5_readSeed ⟨Nat.le_of_ble_eq_true rfl, Nat.le_of_ble_eq_true rfl⟩ I (gd e25).1 clX5 rfl rfl hl.1 rfl (Nat.le_of_ble_eq_true rfl) dX5_readLine_83 ⟨Nat.le_of_ble_eq_true rfl, Nat.le_of_ble_eq_true rfl⟩ (fun H locs I => ?_)
    exact o_zret S hr hlo I f dX5_readLine_86
  have f := (if_neg q23).symm.trans f
  rcases Decidable.em (v3 = 7) with q26 | q26
  · have f := (if_pos q26).symm.trans f
    refine lv_tableIn (off := 80) (tgt := 87) S.1 S.2.1 dX5_readLine_7 (by rw [q26]; decide) (by rw [q26]; decide) (by rw [q26]; rfl) (by decide) ?_
    refine lv_aload_n S.1 S.2.1 dX5_readLine_87 rfl (lv_at hl 0 rfl) ?_
    obtain ⟨o27, e28, f⟩ := ob f
    refine o_Vi S (As := []) (rest := []) (ci := 5) (M5_readLaw l D cy b A fl e28) gX5_readLine_X5_readLaw rfl rfl rfl cd5_readLaw ⟨Nat.le_of_ble_eq_true rfl, Nat.le_of_ble_eq_true rfl⟩ I (gd e28).1 clX5 rfl rfl hl.1 rfl (Nat.le_of_ble_eq_true rfl) dX5_readLine_88 ⟨Nat.le_of_ble_eq_true rfl, Nat.le_of_ble_eq_true rfl⟩ (fun H locs I => ?_)
    exact o_zret S hr hlo I f dX5_readLine_91
  have f := (if_neg q26).symm.trans f
  refine lv_tableOut (tgt := 92) S.1 S.2.1 dX5_readLine_7 (by have := lv_neT q5 (a := 0) (by decide); have := lv_neT q8 (a := 1) (by decide); have := lv_neT q11 (a := 2) (by decide); have := lv_neT q14 (a := 3) (by decide); have := lv_neT q17 (a := 4) (by decide); have := lv_neT q20 (a := 5) (by decide); have := lv_neT q23 (a := 6) (by decide); have := lv_neT q26 (a := 7) (by decide); omega) (by decide) ?_
  refine lv_aload_n S.1 S.2.1 dX5_readLine_92 rfl (lv_at hl 0 rfl) ?_
  refine lv_iconst (v := 1) S.1 S.2.1 dX5_readLine_93 (by decide) ?_
  obtain ⟨o29, e30, f⟩ := ob f
  refine o_Vi S (As := [.int 1]) (rest := []) (ci := 5) (M5_refuse l D cy b A fl e30) gX5_readLine_X5_refuse rfl rfl rfl cd5_refuse ⟨Nat.le_of_ble_eq_true rfl, Nat.le_of_ble_eq_true rfl⟩ I (gd e30).1 clX5 rfl rfl hl.1 rfl (Nat.le_of_ble_eq_true rfl) dX5_readLine_94 ⟨Nat.le_of_ble_eq_true rfl, Nat.le_of_ble_eq_true rfl⟩ (fun H locs I => ?_)
  exact o_zret S hr hlo I f dX5_readLine_97
theorem M5_readLine (l : Launch) (D : va_G) (cy : Nat → ClassId) (b : Nat) (A : Nat → Prop) (fl : Bool) {h : PH} {a0 : Nat} {out : Int32 × PH} (f : F5_readLine h a0 = some out) : Met l yX5_readLine vX5_readLine ({ frames := 5, cells := 0, slots := 0, locals := 113 } : Room) (va_Pc [.ref (b + a0)] (ph_B D cy b A fl h)) (va_Qi (fun (r : Int32) (u : PH) => (r, u) = out) (ph_B D cy b A fl) A) 0 0 A :=
  o_met (by decide) rfl (Nat.le_of_ble_eq_true rfl) rfl (fun p e s m below meth c S hr hlo hnm ls hl I => T5_readLine_0 S hr hlo ((gd f).2) I (lv_sub hl [0] rfl))
def vX5_readAll : List Cond := .code yX5_readAll cX5_readAll 5 (some .boolean) :: TB
theorem lf5_readAll_18 : Fl vX5_readAll RX5 18 5 0 := ⟨RX5, TX5, 11, rfl, by decide, (fun w h9 => List.mem_cons_of_mem _ (wC_wsX50 w h9)), (List.mem_cons_of_mem _ wT_5_3)⟩
theorem gX5_readAll_X7_advance : GoodIn vX5_readAll (wsV RX5 49 RX7 yX7_advance vX7_advance) := gV_of wT_15_21 wT_15_22 wT_15_23 wT_5_2 wT_16_0
theorem lf5_readAll_52 : Fl vX5_readAll RX5 52 7 4 := ⟨RX7, TX7, 7, rfl, by decide, (fun w h9 => List.mem_cons_of_mem _ (wC_wsX70 w h9)), (List.mem_cons_of_mem _ wT_14_7)⟩
theorem gX5_readAll_X5_readLine : GoodIn vX5_readAll (wsV RX5 55 RX5 yX5_readLine vX5_readLine) := gV_of wT_17_11 wT_17_12 wT_17_13 wT_1_22 wT_17_14
theorem lf5_readAll_9 : Fl vX5_readAll RX5 9 5 10 := ⟨RX5, TX5, 11, rfl, by decide, (fun w h9 => List.mem_cons_of_mem _ (wC_wsX50 w h9)), (List.mem_cons_of_mem _ wT_4_23)⟩
theorem lf5_readAll_59 : Fl vX5_readAll RX5 59 8 12 := ⟨RX8, TX8, 14, rfl, by decide, (fun w h9 => List.mem_cons_of_mem _ (wC_wsX80 w h9)), (List.mem_cons_of_mem _ wT_14_8)⟩
theorem lp5_readAll_59 : Pl vX5_readAll RX5 59 8 12 .int := ⟨RX8, TX8, 14, tyX8, rfl, by decide, (fun w h9 => List.mem_cons_of_mem _ (wC_wsX80 w h9)), (List.mem_cons_of_mem _ wT_14_8), tyX8_ok, nmX8, rfl, rfl⟩
theorem lp5_readAll_9 : Pl vX5_readAll RX5 9 5 10 (.object "WhoseWave$Told") := ⟨RX5, TX5, 11, tyX5, rfl, by decide, (fun w h9 => List.mem_cons_of_mem _ (wC_wsX50 w h9)), (List.mem_cons_of_mem _ wT_4_23), tyX5_ok, nmX5, rfl, rfl⟩
theorem gX5_readAll_X8_forget : GoodIn vX5_readAll (wsV RX5 30 RX8 yX8_forget vX8_forget) := gV_of wT_14_9 wT_14_10 wT_14_11 wT_1_17 wT_14_12
theorem lp5_readAll_35 : Pl vX5_readAll RX5 35 5 8 .int := ⟨RX5, TX5, 11, tyX5, rfl, by decide, (fun w h9 => List.mem_cons_of_mem _ (wC_wsX50 w h9)), (List.mem_cons_of_mem _ wT_14_4), tyX5_ok, nmX5, rfl, rfl⟩
theorem lp5_readAll_26 : Pl vX5_readAll RX5 26 5 9 .int := ⟨RX5, TX5, 11, tyX5, rfl, by decide, (fun w h9 => List.mem_cons_of_mem _ (wC_wsX50 w h9)), (List.mem_cons_of_mem _ wT_5_5), tyX5_ok, nmX5, rfl, rfl⟩
theorem lp5_readAll_38 : Pl vX5_readAll RX5 38 5 6 .int := ⟨RX5, TX5, 11, tyX5, rfl, by decide, (fun w h9 => List.mem_cons_of_mem _ (wC_wsX50 w h9)), (List.mem_cons_of_mem _ wT_14_5), tyX5_ok, nmX5, rfl, rfl⟩
theorem lp5_readAll_41 : Pl vX5_readAll RX5 41 5 7 .boolean := ⟨RX5, TX5, 11, tyX5, rfl, by decide, (fun w h9 => List.mem_cons_of_mem _ (wC_wsX50 w h9)), (List.mem_cons_of_mem _ wT_14_6), tyX5_ok, nmX5, rfl, rfl⟩
theorem gX5_readAll_X7_begin : GoodIn vX5_readAll (wsV RX5 45 RX7 yX7_begin vX7_begin) := gV_of wT_15_11 wT_15_12 wT_15_13 wT_5_2 wT_15_14
theorem cd5_readAll : Cd yX5_readAll 3 := ⟨by decide, by decide, by decide +kernel⟩
set_option maxHeartbeats 4000000 in
set_option maxRecDepth 100000 in
theorem T5_readAll_44 (S : CallFix p m c cX5_readAll 5 s args vX5_readAll RX5) (hr : meth.sig.returnType = (some .boolean)) (hlo : meth.locks = false) {out : Int32 × PH} : ∀ (n : Nat) {h : PH} {a0 : Nat} {x4 : Int32} (f : F5_readAll_44  n h a0 x4 = some out) {H : Heap} {locs : List Loc} (I : ph_I D cy b A fl h s H locs) {ls : Array Slot} (hl : lv_has ls 5 [(0, .ref (b + a0)), (4, .int x4)]), W p l e ({ frames := 6, cells := 0, slots := 0, locals := 133 } : Room) s m args below meth c H locs 0 0 (MQ below (va_Qi (fun (r : Int32) (u : PH) => (r, u) = out) (ph_B D cy b A fl) A) args s 0 0 A) (F0 m 44 ls []) := by
  intro n
  induction n with
  | zero => intro h a0 x4 f; rw [F5_readAll_44] at f; cases f
  | succ n ih =>
    intro h a0 x4 f H locs I ls hl
    rw [F5_readAll_44] at f
    refine lv_iload S.1 S.2.1 dX5_readAll_44 (lv_at hl 1 rfl) ?_
    refine lv_sipush (v := 700) S.1 S.2.1 dX5_readAll_46 (by decide) ?_
    refine lv_icmp_gt (tgt := 101) S.1 S.2.1 dX5_readAll_49 (by decide) (fun q1 => ?_) (fun q1 => ?_)
    · have f := (if_pos q1).symm.trans f
      refine lv_iconst (v := 1) S.1 S.2.1 dX5_readAll_101 (by decide) ?_
      exact o_zret S hr hlo I f dX5_readAll_102
    · have f := (if_neg q1).symm.trans f
      refine lv_aload_n S.1 S.2.1 dX5_readAll_52 rfl (lv_at hl 0 rfl) ?_
      obtain ⟨r2, e3, f⟩ := ob f
      refine o_gR S lf5_readAll_18 I e3 dX5_readAll_53 ?_
      obtain ⟨o4, e5, f⟩ := ob f
      refine o_Vv S (As := []) (rest := []) (ci := 7) (M7_advance l D cy b A fl e5) gX5_readAll_X7_advance rfl rfl rfl cd7_advance ⟨Nat.le_of_ble_eq_true rfl, Nat.le_of_ble_eq_true rfl⟩ I (gd e5).1 clX7 rfl rfl hl.1 rfl (Nat.le_of_ble_eq_true rfl) dX5_readAll_56 ⟨Nat.le_of_ble_eq_true rfl, Nat.le_of_ble_eq_true rfl⟩ (fun H locs I => ?_)
      refine lv_aload_n S.1 S.2.1 dX5_readAll_59 rfl (lv_at hl 0 rfl) ?_
      obtain ⟨r6, e7, f⟩ := ob f
      refine o_gR S lf5_readAll_18 I e7 dX5_readAll_60 ?_
      obtain ⟨v8, e9, f⟩ := ob f
      refine o_gI S lf5_readAll_52 I e9 dX5_readAll_63 ?_
      refine lv_bipush (v := 39) S.1 S.2.1 dX5_readAll_66 (by decide) ?_
      refine lv_icmp_ne (tgt := 73) S.1 S.2.1 dX5_readAll_68 (by decide) (fun q10 => ?_) (fun q10 => ?_)
      · have f := (if_neg q10).symm.trans f
        refine lv_aload_n S.1 S.2.1 dX5_readAll_73 rfl (lv_at hl 0 rfl) ?_
        obtain ⟨o11, e12, f⟩ := ob f
        refine o_Vi S (As := []) (rest := []) (ci := 5) (M5_readLine l D cy b A fl e12) gX5_readAll_X5_readLine rfl rfl rfl cd5_readLine ⟨Nat.le_of_ble_eq_true rfl, Nat.le_of_ble_eq_true rfl⟩ I (gd e12).1 clX5 rfl rfl hl.1 rfl (Nat.le_of_ble_eq_true rfl) dX5_readAll_74 ⟨Nat.le_of_ble_eq_true rfl, Nat.le_of_ble_eq_true rfl⟩ (fun H locs I => ?_)
        refine lv_if_ne (tgt := 82) S.1 S.2.1 dX5_readAll_77 (by decide) (fun q13 => ?_) (fun q13 => ?_)
        · have f := (if_neg q13).symm.trans f
          refine lv_aload_n S.1 S.2.1 dX5_readAll_82 rfl (lv_at hl 0 rfl) ?_
          obtain ⟨r14, e15, f⟩ := ob f
          refine o_gR S lf5_readAll_9 I e15 dX5_readAll_83 ?_
          refine lv_dup S.1 S.2.1 dX5_readAll_86 rfl ?_
          obtain ⟨v16, e17, f⟩ := ob f
          refine o_gI S lf5_readAll_59 I e17 dX5_readAll_87 ?_
          refine lv_iconst (v := 1) S.1 S.2.1 dX5_readAll_90 (by decide) ?_
          refine lv_iadd S.1 S.2.1 dX5_readAll_91 ?_
          obtain ⟨h18, e19, f⟩ := ob f
          refine o_pI S lp5_readAll_59 I e19 dX5_readAll_92 (fun H locs I => ?_)
          refine lv_iinc (v := (x4 + 1)) (lv' := [(4, .int (x4 + 1)), (0, .ref (b + a0))]) S.1 S.2.1 dX5_readAll_95 hl (k := 1) rfl (congrArg (fun z => x4 + z) (by decide)) (by decide) rfl (fun ls hl => ?_)
          refine lv_goto (tgt := 44) S.1 S.2.1 dX5_readAll_98 (by decide) ?_
          exact ih f I (lv_sub hl [1, 0] rfl)
        · have f := (if_pos q13).symm.trans f
          refine lv_iconst (v := 0) S.1 S.2.1 dX5_readAll_80 (by decide) ?_
          exact o_zret S hr hlo I f dX5_readAll_81
      · have f := (if_pos q10).symm.trans f
        refine lv_iconst (v := 1) S.1 S.2.1 dX5_readAll_71 (by decide) ?_
        exact o_zret S hr hlo I f dX5_readAll_72
set_option maxHeartbeats 4000000 in
set_option maxRecDepth 100000 in
theorem T5_readAll_0 (S : CallFix p m c cX5_readAll 5 s args vX5_readAll RX5) (hr : meth.sig.returnType = (some .boolean)) (hlo : meth.locks = false) {out : Int32 × PH} {h : PH} {a0 : Nat} {a1 : Nat} {x2 : Int32} {a3 : Nat} (f : F5_readAll_0  h a0 a1 x2 a3 = some out) {H : Heap} {locs : List Loc} (I : ph_I D cy b A fl h s H locs) {ls : Array Slot} (hl : lv_has ls 5 [(0, .ref (b + a0)), (1, .ref (b + a1)), (2, .int x2), (3, .ref (b + a3))]) : W p l e ({ frames := 6, cells := 0, slots := 0, locals := 133 } : Room) s m args below meth c H locs 0 0 (MQ below (va_Qi (fun (r : Int32) (u : PH) => (r, u) = out) (ph_B D cy b A fl) A) args s 0 0 A) (F0 m 0 ls []) := by
  unfold F5_readAll_0 at f
  refine lv_aload_n S.1 S.2.1 dX5_readAll_0 rfl (lv_at hl 0 rfl) ?_
  refine lv_aload_n S.1 S.2.1 dX5_readAll_1 rfl (lv_at hl 3 rfl) ?_
  obtain ⟨h1, e2, f⟩ := ob f
  refine o_pR S lp5_readAll_9 (Or.inl ⟨_, rfl⟩) I e2 dX5_readAll_2 (fun H locs I => ?_)
  refine lv_aload_n S.1 S.2.1 dX5_readAll_5 rfl (lv_at hl 0 rfl) ?_
  obtain ⟨r3, e4, f⟩ := ob f
  refine o_gR S lf5_readAll_9 I e4 dX5_readAll_6 ?_
  obtain ⟨o5, e6, f⟩ := ob f
  refine o_Vv S (As := []) (rest := []) (ci := 8) (M8_forget l D cy b A fl e6) gX5_readAll_X8_forget rfl rfl rfl cd8_forget ⟨Nat.le_of_ble_eq_true rfl, Nat.le_of_ble_eq_true rfl⟩ I (gd e6).1 clX8 rfl rfl hl.1 rfl (Nat.le_of_ble_eq_true rfl) dX5_readAll_9 ⟨Nat.le_of_ble_eq_true rfl, Nat.le_of_ble_eq_true rfl⟩ (fun H locs I => ?_)
  refine lv_aload_n S.1 S.2.1 dX5_readAll_12 rfl (lv_at hl 0 rfl) ?_
  refine lv_iconst (v := 0) S.1 S.2.1 dX5_readAll_13 (by decide) ?_
  obtain ⟨h7, e8, f⟩ := ob f
  refine o_pI S lp5_readAll_35 I e8 dX5_readAll_14 (fun H locs I => ?_)
  refine lv_aload_n S.1 S.2.1 dX5_readAll_17 rfl (lv_at hl 0 rfl) ?_
  refine lv_iconst (v := (-1)) S.1 S.2.1 dX5_readAll_18 (by decide) ?_
  obtain ⟨h9, e10, f⟩ := ob f
  refine o_pI S lp5_readAll_26 I e10 dX5_readAll_19 (fun H locs I => ?_)
  refine lv_aload_n S.1 S.2.1 dX5_readAll_22 rfl (lv_at hl 0 rfl) ?_
  refine lv_iconst (v := 0) S.1 S.2.1 dX5_readAll_23 (by decide) ?_
  obtain ⟨h11, e12, f⟩ := ob f
  refine o_pI S lp5_readAll_38 I e12 dX5_readAll_24 (fun H locs I => ?_)
  refine lv_aload_n S.1 S.2.1 dX5_readAll_27 rfl (lv_at hl 0 rfl) ?_
  refine lv_iconst (v := 0) S.1 S.2.1 dX5_readAll_28 (by decide) ?_
  obtain ⟨h13, e14, f⟩ := ob f
  refine o_pZ S lp5_readAll_41 I e14 dX5_readAll_29 (fun H locs I => ?_)
  refine lv_aload_n S.1 S.2.1 dX5_readAll_32 rfl (lv_at hl 0 rfl) ?_
  obtain ⟨r15, e16, f⟩ := ob f
  refine o_gR S lf5_readAll_18 I e16 dX5_readAll_33 ?_
  refine lv_aload_n S.1 S.2.1 dX5_readAll_36 rfl (lv_at hl 1 rfl) ?_
  refine lv_iload_n S.1 S.2.1 dX5_readAll_37 rfl (lv_at hl 2 rfl) ?_
  obtain ⟨o17, e18, f⟩ := ob f
  refine o_Vv S (As := [.ref (b + a1), .int x2]) (rest := []) (ci := 7) (M7_begin l D cy b A fl e18) gX5_readAll_X7_begin rfl rfl rfl cd7_begin ⟨Nat.le_of_ble_eq_true rfl, Nat.le_of_ble_eq_true rfl⟩ I (gd e18).1 clX7 rfl rfl hl.1 rfl (Nat.le_of_ble_eq_true rfl) dX5_readAll_38 ⟨Nat.le_of_ble_eq_true rfl, Nat.le_of_ble_eq_true rfl⟩ (fun H locs I => ?_)
  refine lv_iconst (v := 0) S.1 S.2.1 dX5_readAll_41 (by decide) ?_
  refine lv_istore (lv' := [(4, .int 0), (0, .ref (b + a0)), (1, .ref (b + a1)), (2, .int x2), (3, .ref (b + a3))]) S.1 S.2.1 dX5_readAll_42 hl (by decide) rfl (fun ls hl => ?_)
  exact T5_readAll_44 S hr hlo  1024 f I (lv_sub hl [1, 0] rfl)
theorem M5_readAll (l : Launch) (D : va_G) (cy : Nat → ClassId) (b : Nat) (A : Nat → Prop) (fl : Bool) {h : PH} {a0 : Nat} {a1 : Nat} {x2 : Int32} {a3 : Nat} {out : Int32 × PH} (f : F5_readAll h a0 a1 x2 a3 = some out) : Met l yX5_readAll vX5_readAll ({ frames := 6, cells := 0, slots := 0, locals := 133 } : Room) (va_Pc [.ref (b + a0), .ref (b + a1), .int x2, .ref (b + a3)] (ph_B D cy b A fl h)) (va_Qi (fun (r : Int32) (u : PH) => (r, u) = out) (ph_B D cy b A fl) A) 0 0 A :=
  o_met (by decide) rfl (Nat.le_of_ble_eq_true rfl) rfl (fun p e s m below meth c S hr hlo hnm ls hl I => T5_readAll_0 S hr hlo ((gd f).2) I (lv_sub hl [0, 1, 2, 3] rfl))
def vX6_awayValue : List Cond := .code yX6_awayValue cX6_awayValue 3 (some .long) :: TB
theorem gX6_awayValue_X6_nameAway : GoodIn vX6_awayValue (wsV RX6 118 RX6 yX6_nameAway vX6_nameAway) := gV_of wT_38_22 wT_38_23 wT_39_0 wT_2_2 wT_39_1
theorem lf6_awayValue_9 : Fl vX6_awayValue RX6 9 6 0 := ⟨RX6, TX6, 9, rfl, by decide, (fun w h9 => List.mem_cons_of_mem _ (wC_wsX60 w h9)), (List.mem_cons_of_mem _ wT_7_15)⟩
theorem lf6_awayValue_76 : Fl vX6_awayValue RX6 76 8 11 := ⟨RX8, TX8, 14, rfl, by decide, (fun w h9 => List.mem_cons_of_mem _ (wC_wsX80 w h9)), (List.mem_cons_of_mem _ wT_25_7)⟩
theorem lf6_awayValue_25 : Fl vX6_awayValue RX6 25 6 4 := ⟨RX6, TX6, 9, rfl, by decide, (fun w h9 => List.mem_cons_of_mem _ (wC_wsX60 w h9)), (List.mem_cons_of_mem _ wT_7_19)⟩
theorem lf6_awayValue_29 : Fl vX6_awayValue RX6 29 6 5 := ⟨RX6, TX6, 9, rfl, by decide, (fun w h9 => List.mem_cons_of_mem _ (wC_wsX60 w h9)), (List.mem_cons_of_mem _ wT_7_20)⟩
theorem gX6_awayValue_X2_valueFor : GoodIn vX6_awayValue (wsV RX6 80 RX2 yX2_valueFor vX2_valueFor) := gV_of wT_25_8 wT_25_9 wT_25_10 wT_3_14 wT_25_11
theorem cd6_awayValue : Cd yX6_awayValue 2 := ⟨by decide, by decide, by decide +kernel⟩
set_option maxHeartbeats 4000000 in
set_option maxRecDepth 100000 in
theorem T6_awayValue_0 (S : CallFix p m c cX6_awayValue 3 s args vX6_awayValue RX6) (hr : meth.sig.returnType = (some .long)) (hlo : meth.locks = false) {out : Int64 × PH} {h : PH} {a0 : Nat} {x1 : Int32} {x2 : Int32} (f : F6_awayValue_0  h a0 x1 x2 = some out) {H : Heap} {locs : List Loc} (I : ph_I D cy b A fl h s H locs) {ls : Array Slot} (hl : lv_has ls 3 [(0, .ref (b + a0)), (1, .int x1), (2, .int x2)]) : W p l e ({ frames := 3, cells := 0, slots := 0, locals := 78 } : Room) s m args below meth c H locs 0 0 (MQ below (va_Ql (fun (r : Int64) (u : PH) => (r, u) = out) (ph_B D cy b A fl) A) args s 0 0 A) (F0 m 0 ls []) := by
  unfold F6_awayValue_0 at f
  refine lv_aload_n S.1 S.2.1 dX6_awayValue_0 rfl (lv_at hl 0 rfl) ?_
  refine lv_iload_n S.1 S.2.1 dX6_awayValue_1 rfl (lv_at hl 1 rfl) ?_
  refine lv_iload_n S.1 S.2.1 dX6_awayValue_2 rfl (lv_at hl 2 rfl) ?_
  obtain ⟨o1, e2, f⟩ := ob f
  refine o_Vv S (As := [.int x1, .int x2]) (rest := []) (ci := 6) (M6_nameAway l D cy b A fl e2) gX6_awayValue_X6_nameAway rfl rfl rfl cd6_nameAway ⟨Nat.le_of_ble_eq_true rfl, Nat.le_of_ble_eq_true rfl⟩ I (gd e2).1 clX6 rfl rfl hl.1 rfl (Nat.le_of_ble_eq_true rfl) dX6_awayValue_3 ⟨Nat.le_of_ble_eq_true rfl, Nat.le_of_ble_eq_true rfl⟩ (fun H locs I => ?_)
  refine lv_aload_n S.1 S.2.1 dX6_awayValue_6 rfl (lv_at hl 0 rfl) ?_
  obtain ⟨r3, e4, f⟩ := ob f
  refine o_gR S lf6_awayValue_9 I e4 dX6_awayValue_7 ?_
  obtain ⟨r5, e6, f⟩ := ob f
  refine o_gR S lf6_awayValue_76 I e6 dX6_awayValue_10 ?_
  refine lv_iconst (v := 2) S.1 S.2.1 dX6_awayValue_13 (by decide) ?_
  obtain ⟨r8, e7, f⟩ := ob f
  refine o_aald S I e7 dX6_awayValue_14 ?_
  refine lv_aload_n S.1 S.2.1 dX6_awayValue_15 rfl (lv_at hl 0 rfl) ?_
  obtain ⟨r9, e10, f⟩ := ob f
  refine o_gR S lf6_awayValue_25 I e10 dX6_awayValue_16 ?_
  refine lv_aload_n S.1 S.2.1 dX6_awayValue_19 rfl (lv_at hl 0 rfl) ?_
  obtain ⟨r11, e12, f⟩ := ob f
  refine o_gR S lf6_awayValue_29 I e12 dX6_awayValue_20 ?_
  obtain ⟨o13, e14, f⟩ := ob f
  refine o_Vl S (As := [.ref (b + r9), .ref (b + r11)]) (rest := []) (ci := 2) (M2_valueFor l D cy b A fl e14) gX6_awayValue_X2_valueFor rfl rfl rfl cd2_valueFor ⟨Nat.le_of_ble_eq_true rfl, Nat.le_of_ble_eq_true rfl⟩ I (gd e14).1 clX2 rfl rfl hl.1 rfl (Nat.le_of_ble_eq_true rfl) dX6_awayValue_23 ⟨Nat.le_of_ble_eq_true rfl, Nat.le_of_ble_eq_true rfl⟩ (fun H locs I => ?_)
  exact o_lret S hr hlo I f dX6_awayValue_26
theorem M6_awayValue (l : Launch) (D : va_G) (cy : Nat → ClassId) (b : Nat) (A : Nat → Prop) (fl : Bool) {h : PH} {a0 : Nat} {x1 : Int32} {x2 : Int32} {out : Int64 × PH} (f : F6_awayValue h a0 x1 x2 = some out) : Met l yX6_awayValue vX6_awayValue ({ frames := 3, cells := 0, slots := 0, locals := 78 } : Room) (va_Pc [.ref (b + a0), .int x1, .int x2] (ph_B D cy b A fl h)) (va_Ql (fun (r : Int64) (u : PH) => (r, u) = out) (ph_B D cy b A fl) A) 0 0 A :=
  o_met (by decide) rfl (Nat.le_of_ble_eq_true rfl) rfl (fun p e s m below meth c S hr hlo hnm ls hl I => T6_awayValue_0 S hr hlo ((gd f).2) I (lv_sub hl [0, 1, 2] rfl))
def vX6_hadOfSet : List Cond := .code yX6_hadOfSet cX6_hadOfSet 5 (some .boolean) :: TB
theorem lf6_hadOfSet_9 : Fl vX6_hadOfSet RX6 9 6 0 := ⟨RX6, TX6, 9, rfl, by decide, (fun w h9 => List.mem_cons_of_mem _ (wC_wsX60 w h9)), (List.mem_cons_of_mem _ wT_7_15)⟩
theorem lf6_hadOfSet_57 : Fl vX6_hadOfSet RX6 57 8 5 := ⟨RX8, TX8, 14, rfl, by decide, (fun w h9 => List.mem_cons_of_mem _ (wC_wsX80 w h9)), (List.mem_cons_of_mem _ wT_24_9)⟩
theorem lf6_hadOfSet_61 : Fl vX6_hadOfSet RX6 61 10 1 := ⟨RX10, TX10, 8, rfl, by decide, (fun w h9 => List.mem_cons_of_mem _ (wC_wsX100 w h9)), (List.mem_cons_of_mem _ wT_24_10)⟩
theorem lf6_hadOfSet_159 : Fl vX6_hadOfSet RX6 159 10 6 := ⟨RX10, TX10, 8, rfl, by decide, (fun w h9 => List.mem_cons_of_mem _ (wC_wsX100 w h9)), (List.mem_cons_of_mem _ wT_44_18)⟩
theorem lf6_hadOfSet_166 : Fl vX6_hadOfSet RX6 166 4 10 := ⟨RX4, TX4, 11, rfl, by decide, (fun w h9 => List.mem_cons_of_mem _ (wC_wsX40 w h9)), (List.mem_cons_of_mem _ wT_44_0)⟩
theorem cd6_hadOfSet : Cd yX6_hadOfSet 3 := ⟨by decide, by decide, by decide +kernel⟩
set_option maxHeartbeats 4000000 in
set_option maxRecDepth 100000 in
theorem T6_hadOfSet_3 (S : CallFix p m c cX6_hadOfSet 5 s args vX6_hadOfSet RX6) (hr : meth.sig.returnType = (some .boolean)) (hlo : meth.locks = false) {out : Int32 × PH} : ∀ (n : Nat) {h : PH} {a0 : Nat} {a1 : Nat} {x2 : Int32} {x3 : Int32} {x4 : Int32} (f : F6_hadOfSet_3  n h a0 a1 x2 x3 x4 = some out) {H : Heap} {locs : List Loc} (I : ph_I D cy b A fl h s H locs) {ls : Array Slot} (hl : lv_has ls 5 [(0, .ref (b + a0)), (1, .ref (b + a1)), (2, .int x2), (3, .int x3), (4, .int x4)]), W p l e ({ frames := 0, cells := 0, slots := 0, locals := 0 } : Room) s m args below meth c H locs 0 0 (MQ below (va_Qi (fun (r : Int32) (u : PH) => (r, u) = out) (ph_B D cy b A fl) A) args s 0 0 A) (F0 m 3 ls []) := by
  intro n
  induction n with
  | zero => intro h a0 a1 x2 x3 x4 f; rw [F6_hadOfSet_3] at f; cases f
  | succ n ih =>
    intro h a0 a1 x2 x3 x4 f H locs I ls hl
    rw [F6_hadOfSet_3] at f
    refine lv_iload S.1 S.2.1 dX6_hadOfSet_3 (lv_at hl 4 rfl) ?_
    refine lv_aload_n S.1 S.2.1 dX6_hadOfSet_5 rfl (lv_at hl 0 rfl) ?_
    obtain ⟨r1, e2, f⟩ := ob f
    refine o_gR S lf6_hadOfSet_9 I e2 dX6_hadOfSet_6 ?_
    obtain ⟨r3, e4, f⟩ := ob f
    refine o_gR S lf6_hadOfSet_57 I e4 dX6_hadOfSet_9 ?_
    obtain ⟨v5, e6, f⟩ := ob f
    refine o_gI S lf6_hadOfSet_61 I e6 dX6_hadOfSet_12 ?_
    refine lv_icmp_ge (tgt := 54) S.1 S.2.1 dX6_hadOfSet_15 (by decide) (fun q7 => ?_) (fun q7 => ?_)
    · have f := (if_pos q7).symm.trans f
      refine lv_iconst (v := 0) S.1 S.2.1 dX6_hadOfSet_54 (by decide) ?_
      exact o_zret S hr hlo I f dX6_hadOfSet_55
    · have f := (if_neg q7).symm.trans f
      refine lv_aload_n S.1 S.2.1 dX6_hadOfSet_18 rfl (lv_at hl 0 rfl) ?_
      obtain ⟨r8, e9, f⟩ := ob f
      refine o_gR S lf6_hadOfSet_9 I e9 dX6_hadOfSet_19 ?_
      obtain ⟨r10, e11, f⟩ := ob f
      refine o_gR S lf6_hadOfSet_57 I e11 dX6_hadOfSet_22 ?_
      obtain ⟨r12, e13, f⟩ := ob f
      refine o_gR S lf6_hadOfSet_159 I e13 dX6_hadOfSet_25 ?_
      refine lv_iload S.1 S.2.1 dX6_hadOfSet_28 (lv_at hl 4 rfl) ?_
      obtain ⟨v15, e14, f⟩ := ob f
      refine o_iald S I e14 dX6_hadOfSet_30 ?_
      refine lv_iload_n S.1 S.2.1 dX6_hadOfSet_31 rfl (lv_at hl 3 rfl) ?_
      refine lv_icmp_ne (tgt := 48) S.1 S.2.1 dX6_hadOfSet_32 (by decide) (fun q16 => ?_) (fun q16 => ?_)
      · have f := (if_neg q16).symm.trans f
        refine lv_iinc (v := (x4 + 1)) (lv' := [(4, .int (x4 + 1)), (0, .ref (b + a0)), (1, .ref (b + a1)), (2, .int x2), (3, .int x3)]) S.1 S.2.1 dX6_hadOfSet_48 hl (k := 4) rfl (congrArg (fun z => x4 + z) (by decide)) (by decide) rfl (fun ls hl => ?_)
        refine lv_goto (tgt := 3) S.1 S.2.1 dX6_hadOfSet_51 (by decide) ?_
        exact ih f I (lv_sub hl [1, 2, 3, 4, 0] rfl)
      · have f := (if_pos q16).symm.trans f
        refine lv_aload_n S.1 S.2.1 dX6_hadOfSet_35 rfl (lv_at hl 1 rfl) ?_
        obtain ⟨r17, e18, f⟩ := ob f
        refine o_gR S lf6_hadOfSet_166 I e18 dX6_hadOfSet_36 ?_
        refine lv_iload S.1 S.2.1 dX6_hadOfSet_39 (lv_at hl 4 rfl) ?_
        obtain ⟨v20, e19, f⟩ := ob f
        refine o_iald S I e19 dX6_hadOfSet_41 ?_
        refine lv_iload_n S.1 S.2.1 dX6_hadOfSet_42 rfl (lv_at hl 2 rfl) ?_
        refine lv_icmp_ne (tgt := 48) S.1 S.2.1 dX6_hadOfSet_43 (by decide) (fun q21 => ?_) (fun q21 => ?_)
        · have f := (if_neg q21).symm.trans f
          refine lv_iinc (v := (x4 + 1)) (lv' := [(4, .int (x4 + 1)), (0, .ref (b + a0)), (1, .ref (b + a1)), (2, .int x2), (3, .int x3)]) S.1 S.2.1 dX6_hadOfSet_48 hl (k := 4) rfl (congrArg (fun z => x4 + z) (by decide)) (by decide) rfl (fun ls hl => ?_)
          refine lv_goto (tgt := 3) S.1 S.2.1 dX6_hadOfSet_51 (by decide) ?_
          exact ih f I (lv_sub hl [1, 2, 3, 4, 0] rfl)
        · have f := (if_pos q21).symm.trans f
          refine lv_iconst (v := 1) S.1 S.2.1 dX6_hadOfSet_46 (by decide) ?_
          exact o_zret S hr hlo I f dX6_hadOfSet_47
set_option maxHeartbeats 4000000 in
set_option maxRecDepth 100000 in
theorem T6_hadOfSet_0 (S : CallFix p m c cX6_hadOfSet 5 s args vX6_hadOfSet RX6) (hr : meth.sig.returnType = (some .boolean)) (hlo : meth.locks = false) {out : Int32 × PH} {h : PH} {a0 : Nat} {a1 : Nat} {x2 : Int32} {x3 : Int32} (f : F6_hadOfSet_0  h a0 a1 x2 x3 = some out) {H : Heap} {locs : List Loc} (I : ph_I D cy b A fl h s H locs) {ls : Array Slot} (hl : lv_has ls 5 [(0, .ref (b + a0)), (1, .ref (b + a1)), (2, .int x2), (3, .int x3)]) : W p l e ({ frames := 0, cells := 0, slots := 0, locals := 0 } : Room) s m args below meth c H locs 0 0 (MQ below (va_Qi (fun (r : Int32) (u : PH) => (r, u) = out) (ph_B D cy b A fl) A) args s 0 0 A) (F0 m 0 ls []) := by
  unfold F6_hadOfSet_0 at f
  refine lv_iconst (v := 0) S.1 S.2.1 dX6_hadOfSet_0 (by decide) ?_
  refine lv_istore (lv' := [(4, .int 0), (0, .ref (b + a0)), (1, .ref (b + a1)), (2, .int x2), (3, .int x3)]) S.1 S.2.1 dX6_hadOfSet_1 hl (by decide) rfl (fun ls hl => ?_)
  exact T6_hadOfSet_3 S hr hlo  1024 f I (lv_sub hl [1, 2, 3, 4, 0] rfl)
theorem M6_hadOfSet (l : Launch) (D : va_G) (cy : Nat → ClassId) (b : Nat) (A : Nat → Prop) (fl : Bool) {h : PH} {a0 : Nat} {a1 : Nat} {x2 : Int32} {x3 : Int32} {out : Int32 × PH} (f : F6_hadOfSet h a0 a1 x2 x3 = some out) : Met l yX6_hadOfSet vX6_hadOfSet ({ frames := 0, cells := 0, slots := 0, locals := 0 } : Room) (va_Pc [.ref (b + a0), .ref (b + a1), .int x2, .int x3] (ph_B D cy b A fl h)) (va_Qi (fun (r : Int32) (u : PH) => (r, u) = out) (ph_B D cy b A fl) A) 0 0 A :=
  o_met (by decide) rfl (Nat.le_of_ble_eq_true rfl) rfl (fun p e s m below meth c S hr hlo hnm ls hl I => T6_hadOfSet_0 S hr hlo ((gd f).2) I (lv_sub hl [0, 1, 2, 3] rfl))
def vX6_keyFor : List Cond := .code yX6_keyFor cX6_keyFor 5 (some .int) :: TB
theorem lf6_keyFor_148 : Fl vX6_keyFor RX6 148 4 5 := ⟨RX4, TX4, 11, rfl, by decide, (fun w h9 => List.mem_cons_of_mem _ (wC_wsX40 w h9)), (List.mem_cons_of_mem _ wT_44_10)⟩
theorem gX6_keyFor_X6_farOf : GoodIn vX6_keyFor (wsV RX6 132 RX6 yX6_farOf vX6_farOf) := gV_of wT_39_9 wT_39_10 wT_39_11 wT_2_2 wT_39_12
theorem lf6_keyFor_153 : Fl vX6_keyFor RX6 153 4 1 := ⟨RX4, TX4, 11, rfl, by decide, (fun w h9 => List.mem_cons_of_mem _ (wC_wsX40 w h9)), (List.mem_cons_of_mem _ wT_44_17)⟩
theorem lf6_keyFor_156 : Fl vX6_keyFor RX6 156 4 6 := ⟨RX4, TX4, 11, rfl, by decide, (fun w h9 => List.mem_cons_of_mem _ (wC_wsX40 w h9)), (List.mem_cons_of_mem _ wT_44_2)⟩
theorem lf6_keyFor_9 : Fl vX6_keyFor RX6 9 6 0 := ⟨RX6, TX6, 9, rfl, by decide, (fun w h9 => List.mem_cons_of_mem _ (wC_wsX60 w h9)), (List.mem_cons_of_mem _ wT_7_15)⟩
theorem lf6_keyFor_57 : Fl vX6_keyFor RX6 57 8 5 := ⟨RX8, TX8, 14, rfl, by decide, (fun w h9 => List.mem_cons_of_mem _ (wC_wsX80 w h9)), (List.mem_cons_of_mem _ wT_24_9)⟩
theorem lf6_keyFor_159 : Fl vX6_keyFor RX6 159 10 6 := ⟨RX10, TX10, 8, rfl, by decide, (fun w h9 => List.mem_cons_of_mem _ (wC_wsX100 w h9)), (List.mem_cons_of_mem _ wT_44_18)⟩
theorem gX6_keyFor_X6_hadOfSet : GoodIn vX6_keyFor (wsV RX6 162 RX6 yX6_hadOfSet vX6_hadOfSet) := gV_of wT_44_19 wT_44_20 wT_44_21 wT_2_2 wT_44_22
theorem gX6_keyFor_X8_rowOf : GoodIn vX6_keyFor (wsV RX6 122 RX8 yX8_rowOf vX8_rowOf) := gV_of wT_39_5 wT_39_6 wT_39_7 wT_1_17 wT_39_8
theorem cd6_keyFor : Cd yX6_keyFor 3 := ⟨by decide, by decide, by decide +kernel⟩
set_option maxHeartbeats 4000000 in
set_option maxRecDepth 100000 in
theorem T6_keyFor_0 (S : CallFix p m c cX6_keyFor 5 s args vX6_keyFor RX6) (hr : meth.sig.returnType = (some .int)) (hlo : meth.locks = false) {out : Int32 × PH} {h : PH} {a0 : Nat} {a1 : Nat} {x2 : Int32} {x3 : Int32} (f : F6_keyFor_0  h a0 a1 x2 x3 = some out) {H : Heap} {locs : List Loc} (I : ph_I D cy b A fl h s H locs) {ls : Array Slot} (hl : lv_has ls 5 [(0, .ref (b + a0)), (1, .ref (b + a1)), (2, .int x2), (3, .int x3)]) : W p l e ({ frames := 3, cells := 0, slots := 0, locals := 68 } : Room) s m args below meth c H locs 0 0 (MQ below (va_Qi (fun (r : Int32) (u : PH) => (r, u) = out) (ph_B D cy b A fl) A) args s 0 0 A) (F0 m 0 ls []) := by
  unfold F6_keyFor_0 at f
  refine lv_aload_n S.1 S.2.1 dX6_keyFor_0 rfl (lv_at hl 0 rfl) ?_
  refine lv_aload_n S.1 S.2.1 dX6_keyFor_1 rfl (lv_at hl 1 rfl) ?_
  obtain ⟨r1, e2, f⟩ := ob f
  refine o_gR S lf6_keyFor_148 I e2 dX6_keyFor_2 ?_
  refine lv_iload_n S.1 S.2.1 dX6_keyFor_5 rfl (lv_at hl 2 rfl) ?_
  obtain ⟨v4, e3, f⟩ := ob f
  refine o_iald S I e3 dX6_keyFor_6 ?_
  refine lv_iload_n S.1 S.2.1 dX6_keyFor_7 rfl (lv_at hl 3 rfl) ?_
  obtain ⟨o5, e6, f⟩ := ob f
  refine o_Vi S (As := [.int v4, .int x3]) (rest := []) (ci := 6) (M6_farOf l D cy b A fl e6) gX6_keyFor_X6_farOf rfl rfl rfl cd6_farOf ⟨Nat.le_of_ble_eq_true rfl, Nat.le_of_ble_eq_true rfl⟩ I (gd e6).1 clX6 rfl rfl hl.1 rfl (Nat.le_of_ble_eq_true rfl) dX6_keyFor_8 ⟨Nat.le_of_ble_eq_true rfl, Nat.le_of_ble_eq_true rfl⟩ (fun H locs I => ?_)
  refine lv_istore (lv' := [(4, .int o5.1), (0, .ref (b + a0)), (1, .ref (b + a1)), (2, .int x2), (3, .int x3)]) S.1 S.2.1 dX6_keyFor_11 hl (by decide) rfl (fun ls hl => ?_)
  refine lv_aload_n S.1 S.2.1 dX6_keyFor_13 rfl (lv_at hl 2 rfl) ?_
  obtain ⟨v7, e8, f⟩ := ob f
  refine o_gI S lf6_keyFor_153 I e8 dX6_keyFor_14 ?_
  rcases Decidable.em (v7 = 1) with q9 | q9
  · have f := (if_pos q9).symm.trans f
    refine lv_tableIn (off := 27) (tgt := 44) S.1 S.2.1 dX6_keyFor_17 (by rw [q9]; decide) (by rw [q9]; decide) (by rw [q9]; rfl) (by decide) ?_
    refine lv_aload_n S.1 S.2.1 dX6_keyFor_44 rfl (lv_at hl 2 rfl) ?_
    obtain ⟨r10, e11, f⟩ := ob f
    refine o_gR S lf6_keyFor_156 I e11 dX6_keyFor_45 ?_
    refine lv_iload_n S.1 S.2.1 dX6_keyFor_48 rfl (lv_at hl 3 rfl) ?_
    obtain ⟨v13, e12, f⟩ := ob f
    refine o_iald S I e12 dX6_keyFor_49 ?_
    exact o_iret S hr hlo I f dX6_keyFor_50
  have f := (if_neg q9).symm.trans f
  rcases Decidable.em (v7 = 2) with q14 | q14
  · have f := (if_pos q14).symm.trans f
    refine lv_tableIn (off := 34) (tgt := 51) S.1 S.2.1 dX6_keyFor_17 (by rw [q14]; decide) (by rw [q14]; decide) (by rw [q14]; rfl) (by decide) ?_
    refine lv_aload_n S.1 S.2.1 dX6_keyFor_51 rfl (lv_at hl 1 rfl) ?_
    refine lv_aload_n S.1 S.2.1 dX6_keyFor_52 rfl (lv_at hl 2 rfl) ?_
    refine lv_iload_n S.1 S.2.1 dX6_keyFor_53 rfl (lv_at hl 3 rfl) ?_
    refine lv_aload_n S.1 S.2.1 dX6_keyFor_54 rfl (lv_at hl 1 rfl) ?_
    obtain ⟨r15, e16, f⟩ := ob f
    refine o_gR S lf6_keyFor_9 I e16 dX6_keyFor_55 ?_
    obtain ⟨r17, e18, f⟩ := ob f
    refine o_gR S lf6_keyFor_57 I e18 dX6_keyFor_58 ?_
    obtain ⟨r19, e20, f⟩ := ob f
    refine o_gR S lf6_keyFor_159 I e20 dX6_keyFor_61 ?_
    refine lv_iload_n S.1 S.2.1 dX6_keyFor_64 rfl (lv_at hl 4 rfl) ?_
    obtain ⟨v22, e21, f⟩ := ob f
    refine o_iald S I e21 dX6_keyFor_65 ?_
    obtain ⟨o23, e24, f⟩ := ob f
    refine o_Vi S (As := [.ref (b + a1), .int x2, .int v22]) (rest := []) (ci := 6) (M6_hadOfSet l D cy b A fl e24) gX6_keyFor_X6_hadOfSet rfl rfl rfl cd6_hadOfSet ⟨Nat.le_of_ble_eq_true rfl, Nat.le_of_ble_eq_true rfl⟩ I (gd e24).1 clX6 rfl rfl hl.1 rfl (Nat.le_of_ble_eq_true rfl) dX6_keyFor_66 ⟨Nat.le_of_ble_eq_true rfl, Nat.le_of_ble_eq_true rfl⟩ (fun H locs I => ?_)
    refine lv_if_eq (tgt := 80) S.1 S.2.1 dX6_keyFor_69 (by decide) (fun q25 => ?_) (fun q25 => ?_)
    · have f := (if_pos q25).symm.trans f
      refine lv_iload S.1 S.2.1 dX6_keyFor_80 (lv_at hl 0 rfl) ?_
      exact o_iret S hr hlo I f dX6_keyFor_82
    · have f := (if_neg q25).symm.trans f
      refine lv_bipush (v := 100) S.1 S.2.1 dX6_keyFor_72 (by decide) ?_
      refine lv_iload S.1 S.2.1 dX6_keyFor_74 (lv_at hl 0 rfl) ?_
      refine lv_iadd S.1 S.2.1 dX6_keyFor_76 ?_
      refine lv_goto (tgt := 82) S.1 S.2.1 dX6_keyFor_77 (by decide) ?_
      exact o_iret S hr hlo I f dX6_keyFor_82
  have f := (if_neg q14).symm.trans f
  rcases Decidable.em (v7 = 3) with q26 | q26
  · have f := (if_pos q26).symm.trans f
    refine lv_tableIn (off := 66) (tgt := 83) S.1 S.2.1 dX6_keyFor_17 (by rw [q26]; decide) (by rw [q26]; decide) (by rw [q26]; rfl) (by decide) ?_
    refine lv_aload_n S.1 S.2.1 dX6_keyFor_83 rfl (lv_at hl 1 rfl) ?_
    obtain ⟨r27, e28, f⟩ := ob f
    refine o_gR S lf6_keyFor_9 I e28 dX6_keyFor_84 ?_
    refine lv_aload_n S.1 S.2.1 dX6_keyFor_87 rfl (lv_at hl 2 rfl) ?_
    obtain ⟨r29, e30, f⟩ := ob f
    refine o_gR S lf6_keyFor_148 I e30 dX6_keyFor_88 ?_
    refine lv_iload_n S.1 S.2.1 dX6_keyFor_91 rfl (lv_at hl 3 rfl) ?_
    obtain ⟨v32, e31, f⟩ := ob f
    refine o_iald S I e31 dX6_keyFor_92 ?_
    obtain ⟨o33, e34, f⟩ := ob f
    refine o_Vi S (As := [.int v32]) (rest := []) (ci := 8) (M8_rowOf l D cy b A fl e34) gX6_keyFor_X8_rowOf rfl rfl rfl cd8_rowOf ⟨Nat.le_of_ble_eq_true rfl, Nat.le_of_ble_eq_true rfl⟩ I (gd e34).1 clX8 rfl rfl hl.1 rfl (Nat.le_of_ble_eq_true rfl) dX6_keyFor_93 ⟨Nat.le_of_ble_eq_true rfl, Nat.le_of_ble_eq_true rfl⟩ (fun H locs I => ?_)
    refine lv_ineg S.1 S.2.1 dX6_keyFor_96 ?_
    exact o_iret S hr hlo I f dX6_keyFor_97
  have f := (if_neg q26).symm.trans f
  refine lv_tableOut (tgt := 98) S.1 S.2.1 dX6_keyFor_17 (by have := lv_neT q9 (a := 1) (by decide); have := lv_neT q14 (a := 2) (by decide); have := lv_neT q26 (a := 3) (by decide); omega) (by decide) ?_
  refine lv_iload S.1 S.2.1 dX6_keyFor_98 (lv_at hl 0 rfl) ?_
  exact o_iret S hr hlo I f dX6_keyFor_100
theorem M6_keyFor (l : Launch) (D : va_G) (cy : Nat → ClassId) (b : Nat) (A : Nat → Prop) (fl : Bool) {h : PH} {a0 : Nat} {a1 : Nat} {x2 : Int32} {x3 : Int32} {out : Int32 × PH} (f : F6_keyFor h a0 a1 x2 x3 = some out) : Met l yX6_keyFor vX6_keyFor ({ frames := 3, cells := 0, slots := 0, locals := 68 } : Room) (va_Pc [.ref (b + a0), .ref (b + a1), .int x2, .int x3] (ph_B D cy b A fl h)) (va_Qi (fun (r : Int32) (u : PH) => (r, u) = out) (ph_B D cy b A fl) A) 0 0 A :=
  o_met (by decide) rfl (Nat.le_of_ble_eq_true rfl) rfl (fun p e s m below meth c S hr hlo hnm ls hl I => T6_keyFor_0 S hr hlo ((gd f).2) I (lv_sub hl [0, 1, 2, 3] rfl))
def vX6_putInLine : List Cond := .code yX6_putInLine cX6_putInLine 4 none :: TB
theorem lf6_putInLine_32 : Fl vX6_putInLine RX6 32 6 6 := ⟨RX6, TX6, 9, rfl, by decide, (fun w h9 => List.mem_cons_of_mem _ (wC_wsX60 w h9)), (List.mem_cons_of_mem _ wT_7_21)⟩
theorem lf6_putInLine_38 : Fl vX6_putInLine RX6 38 6 8 := ⟨RX6, TX6, 9, rfl, by decide, (fun w h9 => List.mem_cons_of_mem _ (wC_wsX60 w h9)), (List.mem_cons_of_mem _ wT_7_23)⟩
theorem cd6_putInLine : Cd yX6_putInLine 2 := ⟨by decide, by decide, by decide +kernel⟩
set_option maxHeartbeats 4000000 in
set_option maxRecDepth 100000 in
theorem T6_putInLine_48 (S : CallFix p m c cX6_putInLine 4 s args vX6_putInLine RX6) (hr : meth.sig.returnType = none) (hlo : meth.locks = false) {out : PH} {h : PH} {a0 : Nat} {x1 : Int32} {x3 : Int32} (f : F6_putInLine_48  h a0 x1 x3 = some out) {H : Heap} {locs : List Loc} (I : ph_I D cy b A fl h s H locs) {ls : Array Slot} (hl : lv_has ls 4 [(0, .ref (b + a0)), (1, .int x1), (3, .int x3)]) : W p l e ({ frames := 0, cells := 0, slots := 0, locals := 0 } : Room) s m args below meth c H locs 0 0 (MQ below (va_Qv (fun (u : PH) => u = out) (ph_B D cy b A fl) A) args s 0 0 A) (F0 m 48 ls []) := by
  unfold F6_putInLine_48 at f
  refine lv_aload_n S.1 S.2.1 dX6_putInLine_48 rfl (lv_at hl 0 rfl) ?_
  obtain ⟨r1, e2, f⟩ := ob f
  refine o_gR S lf6_putInLine_32 I e2 dX6_putInLine_49 ?_
  refine lv_iload_n S.1 S.2.1 dX6_putInLine_52 rfl (lv_at hl 2 rfl) ?_
  refine lv_iload_n S.1 S.2.1 dX6_putInLine_53 rfl (lv_at hl 1 rfl) ?_
  obtain ⟨h4, e3, f⟩ := ob f
  refine o_iast S I e3 dX6_putInLine_54 (fun H locs I => ?_)
  exact o_vret S hr hlo I f dX6_putInLine_55
set_option maxHeartbeats 4000000 in
set_option maxRecDepth 100000 in
theorem T6_putInLine_2 (S : CallFix p m c cX6_putInLine 4 s args vX6_putInLine RX6) (hr : meth.sig.returnType = none) (hlo : meth.locks = false) {out : PH} : ∀ (n : Nat) {h : PH} {a0 : Nat} {x1 : Int32} {x3 : Int32} (f : F6_putInLine_2  n h a0 x1 x3 = some out) {H : Heap} {locs : List Loc} (I : ph_I D cy b A fl h s H locs) {ls : Array Slot} (hl : lv_has ls 4 [(0, .ref (b + a0)), (1, .int x1), (3, .int x3)]), W p l e ({ frames := 0, cells := 0, slots := 0, locals := 0 } : Room) s m args below meth c H locs 0 0 (MQ below (va_Qv (fun (u : PH) => u = out) (ph_B D cy b A fl) A) args s 0 0 A) (F0 m 2 ls []) := by
  intro n
  induction n with
  | zero => intro h a0 x1 x3 f; rw [F6_putInLine_2] at f; cases f
  | succ n ih =>
    intro h a0 x1 x3 f H locs I ls hl
    rw [F6_putInLine_2] at f
    refine lv_iload_n S.1 S.2.1 dX6_putInLine_2 rfl (lv_at hl 2 rfl) ?_
    refine lv_if_le (tgt := 48) S.1 S.2.1 dX6_putInLine_3 (by decide) (fun q1 => ?_) (fun q1 => ?_)
    · have f := (if_pos q1).symm.trans f
      exact T6_putInLine_48 S hr hlo  f I (lv_sub hl [0, 1, 2] rfl)
    · have f := (if_neg q1).symm.trans f
      refine lv_aload_n S.1 S.2.1 dX6_putInLine_6 rfl (lv_at hl 0 rfl) ?_
      obtain ⟨r2, e3, f⟩ := ob f
      refine o_gR S lf6_putInLine_38 I e3 dX6_putInLine_7 ?_
      refine lv_aload_n S.1 S.2.1 dX6_putInLine_10 rfl (lv_at hl 0 rfl) ?_
      obtain ⟨r4, e5, f⟩ := ob f
      refine o_gR S lf6_putInLine_32 I e5 dX6_putInLine_11 ?_
      refine lv_iload_n S.1 S.2.1 dX6_putInLine_14 rfl (lv_at hl 2 rfl) ?_
      refine lv_iconst (v := 1) S.1 S.2.1 dX6_putInLine_15 (by decide) ?_
      refine lv_isub S.1 S.2.1 dX6_putInLine_16 ?_
      obtain ⟨v7, e6, f⟩ := ob f
      refine o_iald S I e6 dX6_putInLine_17 ?_
      obtain ⟨v9, e8, f⟩ := ob f
      refine o_iald S I e8 dX6_putInLine_18 ?_
      refine lv_aload_n S.1 S.2.1 dX6_putInLine_19 rfl (lv_at hl 0 rfl) ?_
      obtain ⟨r10, e11, f⟩ := ob f
      refine o_gR S lf6_putInLine_38 I e11 dX6_putInLine_20 ?_
      refine lv_iload_n S.1 S.2.1 dX6_putInLine_23 rfl (lv_at hl 1 rfl) ?_
      obtain ⟨v13, e12, f⟩ := ob f
      refine o_iald S I e12 dX6_putInLine_24 ?_
      refine lv_icmp_le (tgt := 48) S.1 S.2.1 dX6_putInLine_25 (by decide) (fun q14 => ?_) (fun q14 => ?_)
      · have f := (if_pos q14).symm.trans f
        exact T6_putInLine_48 S hr hlo  f I (lv_sub hl [0, 1, 2] rfl)
      · have f := (if_neg q14).symm.trans f
        refine lv_aload_n S.1 S.2.1 dX6_putInLine_28 rfl (lv_at hl 0 rfl) ?_
        obtain ⟨r15, e16, f⟩ := ob f
        refine o_gR S lf6_putInLine_32 I e16 dX6_putInLine_29 ?_
        refine lv_iload_n S.1 S.2.1 dX6_putInLine_32 rfl (lv_at hl 2 rfl) ?_
        refine lv_aload_n S.1 S.2.1 dX6_putInLine_33 rfl (lv_at hl 0 rfl) ?_
        obtain ⟨r17, e18, f⟩ := ob f
        refine o_gR S lf6_putInLine_32 I e18 dX6_putInLine_34 ?_
        refine lv_iload_n S.1 S.2.1 dX6_putInLine_37 rfl (lv_at hl 2 rfl) ?_
        refine lv_iconst (v := 1) S.1 S.2.1 dX6_putInLine_38 (by decide) ?_
        refine lv_isub S.1 S.2.1 dX6_putInLine_39 ?_
        obtain ⟨v20, e19, f⟩ := ob f
        refine o_iald S I e19 dX6_putInLine_40 ?_
        obtain ⟨h22, e21, f⟩ := ob f
        refine o_iast S I e21 dX6_putInLine_41 (fun H locs I => ?_)
        refine lv_iinc (v := (x3 + (-1))) (lv' := [(3, .int (x3 + (-1))), (0, .ref (b + a0)), (1, .int x1)]) S.1 S.2.1 dX6_putInLine_42 hl (k := 2) rfl (congrArg (fun z => x3 + z) (by decide)) (by decide) rfl (fun ls hl => ?_)
        refine lv_goto (tgt := 2) S.1 S.2.1 dX6_putInLine_45 (by decide) ?_
        exact ih f I (lv_sub hl [1, 2, 0] rfl)
set_option maxHeartbeats 4000000 in
set_option maxRecDepth 100000 in
theorem T6_putInLine_0 (S : CallFix p m c cX6_putInLine 4 s args vX6_putInLine RX6) (hr : meth.sig.returnType = none) (hlo : meth.locks = false) {out : PH} {h : PH} {a0 : Nat} {x1 : Int32} {x2 : Int32} (f : F6_putInLine_0  h a0 x1 x2 = some out) {H : Heap} {locs : List Loc} (I : ph_I D cy b A fl h s H locs) {ls : Array Slot} (hl : lv_has ls 4 [(0, .ref (b + a0)), (1, .int x1), (2, .int x2)]) : W p l e ({ frames := 0, cells := 0, slots := 0, locals := 0 } : Room) s m args below meth c H locs 0 0 (MQ below (va_Qv (fun (u : PH) => u = out) (ph_B D cy b A fl) A) args s 0 0 A) (F0 m 0 ls []) := by
  unfold F6_putInLine_0 at f
  refine lv_iload_n S.1 S.2.1 dX6_putInLine_0 rfl (lv_at hl 2 rfl) ?_
  refine lv_istore_n (lv' := [(3, .int x2), (0, .ref (b + a0)), (1, .int x1), (2, .int x2)]) S.1 S.2.1 dX6_putInLine_1 rfl hl (by decide) rfl (fun ls hl => ?_)
  exact T6_putInLine_2 S hr hlo  1024 f I (lv_sub hl [1, 2, 0] rfl)
theorem M6_putInLine (l : Launch) (D : va_G) (cy : Nat → ClassId) (b : Nat) (A : Nat → Prop) (fl : Bool) {h : PH} {a0 : Nat} {x1 : Int32} {x2 : Int32} {out : PH} (f : F6_putInLine h a0 x1 x2 = some out) : Met l yX6_putInLine vX6_putInLine ({ frames := 0, cells := 0, slots := 0, locals := 0 } : Room) (va_Pc [.ref (b + a0), .int x1, .int x2] (ph_B D cy b A fl h)) (va_Qv (fun (u : PH) => u = out) (ph_B D cy b A fl) A) 0 0 A :=
  o_met (by decide) rfl (Nat.le_of_ble_eq_true rfl) rfl (fun p e s m below meth c S hr hlo hnm ls hl I => T6_putInLine_0 S hr hlo ((gd f).2) I (lv_sub hl [0, 1, 2] rfl))
def vX6_lineUp : List Cond := .code yX6_lineUp cX6_lineUp 6 (some .int) :: TB
theorem lf6_lineUp_9 : Fl vX6_lineUp RX6 9 6 0 := ⟨RX6, TX6, 9, rfl, by decide, (fun w h9 => List.mem_cons_of_mem _ (wC_wsX60 w h9)), (List.mem_cons_of_mem _ wT_7_15)⟩
theorem lf6_lineUp_41 : Fl vX6_lineUp RX6 41 8 4 := ⟨RX8, TX8, 14, rfl, by decide, (fun w h9 => List.mem_cons_of_mem _ (wC_wsX80 w h9)), (List.mem_cons_of_mem _ wT_24_2)⟩
theorem lf6_lineUp_169 : Fl vX6_lineUp RX6 169 1 0 := ⟨RX1, TX1, 7, rfl, by decide, (fun w h9 => List.mem_cons_of_mem _ (wC_wsX10 w h9)), (List.mem_cons_of_mem _ wT_44_9)⟩
theorem gX6_lineUp_X4_isIn : GoodIn vX6_lineUp (wsV RX6 171 RX4 yX4_isIn vX4_isIn) := gV_of wT_44_11 wT_41_22 wT_41_23 wT_2_7 wT_42_0
theorem lf6_lineUp_35 : Fl vX6_lineUp RX6 35 6 7 := ⟨RX6, TX6, 9, rfl, by decide, (fun w h9 => List.mem_cons_of_mem _ (wC_wsX60 w h9)), (List.mem_cons_of_mem _ wT_7_22)⟩
theorem lf6_lineUp_148 : Fl vX6_lineUp RX6 148 4 5 := ⟨RX4, TX4, 11, rfl, by decide, (fun w h9 => List.mem_cons_of_mem _ (wC_wsX40 w h9)), (List.mem_cons_of_mem _ wT_44_10)⟩
theorem gX6_lineUp_X6_oddsAt : GoodIn vX6_lineUp (wsV RX6 141 RX6 yX6_oddsAt vX6_oddsAt) := gV_of wT_44_12 wT_38_10 wT_38_11 wT_2_2 wT_38_12
theorem lf6_lineUp_38 : Fl vX6_lineUp RX6 38 6 8 := ⟨RX6, TX6, 9, rfl, by decide, (fun w h9 => List.mem_cons_of_mem _ (wC_wsX60 w h9)), (List.mem_cons_of_mem _ wT_7_23)⟩
theorem gX6_lineUp_X6_keyFor : GoodIn vX6_lineUp (wsV RX6 175 RX6 yX6_keyFor vX6_keyFor) := gV_of wT_44_13 wT_44_14 wT_44_15 wT_2_2 wT_44_16
theorem gX6_lineUp_X6_putInLine : GoodIn vX6_lineUp (wsV RX6 179 RX6 yX6_putInLine vX6_putInLine) := gV_of wT_44_23 wT_45_0 wT_45_1 wT_2_2 wT_45_2
theorem cd6_lineUp : Cd yX6_lineUp 3 := ⟨by decide, by decide, by decide +kernel⟩
set_option maxHeartbeats 4000000 in
set_option maxRecDepth 100000 in
theorem T6_lineUp_6 (S : CallFix p m c cX6_lineUp 6 s args vX6_lineUp RX6) (hr : meth.sig.returnType = (some .int)) (hlo : meth.locks = false) {out : Int32 × PH} : ∀ (n : Nat) {h : PH} {a0 : Nat} {a1 : Nat} {x2 : Int32} {x3 : Int32} {x4 : Int32} {x5 : Int32} (f : F6_lineUp_6  n h a0 a1 x2 x3 x4 x5 = some out) {H : Heap} {locs : List Loc} (I : ph_I D cy b A fl h s H locs) {ls : Array Slot} (hl : lv_has ls 6 [(0, .ref (b + a0)), (1, .ref (b + a1)), (2, .int x2), (3, .int x3), (4, .int x4), (5, .int x5)]), W p l e ({ frames := 4, cells := 0, slots := 0, locals := 103 } : Room) s m args below meth c H locs 0 0 (MQ below (va_Qi (fun (r : Int32) (u : PH) => (r, u) = out) (ph_B D cy b A fl) A) args s 0 0 A) (F0 m 6 ls []) := by
  intro n
  induction n with
  | zero => intro h a0 a1 x2 x3 x4 x5 f; rw [F6_lineUp_6] at f; cases f
  | succ n ih =>
    intro h a0 a1 x2 x3 x4 x5 f H locs I ls hl
    rw [F6_lineUp_6] at f
    refine lv_iload S.1 S.2.1 dX6_lineUp_6 (lv_at hl 5 rfl) ?_
    refine lv_aload_n S.1 S.2.1 dX6_lineUp_8 rfl (lv_at hl 0 rfl) ?_
    obtain ⟨r1, e2, f⟩ := ob f
    refine o_gR S lf6_lineUp_9 I e2 dX6_lineUp_9 ?_
    obtain ⟨r3, e4, f⟩ := ob f
    refine o_gR S lf6_lineUp_41 I e4 dX6_lineUp_12 ?_
    obtain ⟨v5, e6, f⟩ := ob f
    refine o_gI S lf6_lineUp_169 I e6 dX6_lineUp_15 ?_
    refine lv_icmp_ge (tgt := 94) S.1 S.2.1 dX6_lineUp_18 (by decide) (fun q7 => ?_) (fun q7 => ?_)
    · have f := (if_pos q7).symm.trans f
      refine lv_iload S.1 S.2.1 dX6_lineUp_94 (lv_at hl 4 rfl) ?_
      exact o_iret S hr hlo I f dX6_lineUp_96
    · have f := (if_neg q7).symm.trans f
      refine lv_aload_n S.1 S.2.1 dX6_lineUp_21 rfl (lv_at hl 1 rfl) ?_
      refine lv_iload S.1 S.2.1 dX6_lineUp_22 (lv_at hl 5 rfl) ?_
      refine lv_iload_n S.1 S.2.1 dX6_lineUp_24 rfl (lv_at hl 3 rfl) ?_
      obtain ⟨o8, e9, f⟩ := ob f
      refine o_Vi S (As := [.int x5, .int x3]) (rest := []) (ci := 4) (M4_isIn l D cy b A fl e9) gX6_lineUp_X4_isIn rfl rfl rfl cd4_isIn ⟨Nat.le_of_ble_eq_true rfl, Nat.le_of_ble_eq_true rfl⟩ I (gd e9).1 clX4 rfl rfl hl.1 rfl (Nat.le_of_ble_eq_true rfl) dX6_lineUp_25 ⟨Nat.le_of_ble_eq_true rfl, Nat.le_of_ble_eq_true rfl⟩ (fun H locs I => ?_)
      refine lv_if_eq (tgt := 88) S.1 S.2.1 dX6_lineUp_28 (by decide) (fun q10 => ?_) (fun q10 => ?_)
      · have f := (if_pos q10).symm.trans f
        refine lv_iinc (v := (x5 + 1)) (lv' := [(5, .int (x5 + 1)), (0, .ref (b + a0)), (1, .ref (b + a1)), (2, .int x2), (3, .int x3), (4, .int x4)]) S.1 S.2.1 dX6_lineUp_88 hl (k := 5) rfl (congrArg (fun z => x5 + z) (by decide)) (by decide) rfl (fun ls hl => ?_)
        refine lv_goto (tgt := 6) S.1 S.2.1 dX6_lineUp_91 (by decide) ?_
        exact ih f I (lv_sub hl [1, 2, 3, 4, 5, 0] rfl)
      · have f := (if_neg q10).symm.trans f
        refine lv_aload_n S.1 S.2.1 dX6_lineUp_31 rfl (lv_at hl 0 rfl) ?_
        obtain ⟨r11, e12, f⟩ := ob f
        refine o_gR S lf6_lineUp_35 I e12 dX6_lineUp_32 ?_
        refine lv_iload S.1 S.2.1 dX6_lineUp_35 (lv_at hl 5 rfl) ?_
        refine lv_aload_n S.1 S.2.1 dX6_lineUp_37 rfl (lv_at hl 0 rfl) ?_
        refine lv_iload S.1 S.2.1 dX6_lineUp_38 (lv_at hl 5 rfl) ?_
        refine lv_iload_n S.1 S.2.1 dX6_lineUp_40 rfl (lv_at hl 2 rfl) ?_
        refine lv_aload_n S.1 S.2.1 dX6_lineUp_41 rfl (lv_at hl 1 rfl) ?_
        obtain ⟨r13, e14, f⟩ := ob f
        refine o_gR S lf6_lineUp_148 I e14 dX6_lineUp_42 ?_
        refine lv_iload S.1 S.2.1 dX6_lineUp_45 (lv_at hl 5 rfl) ?_
        obtain ⟨v16, e15, f⟩ := ob f
        refine o_iald S I e15 dX6_lineUp_47 ?_
        obtain ⟨o17, e18, f⟩ := ob f
        refine o_Vi S (As := [.int x5, .int x2, .int v16]) (rest := [.int x5, .ref (b + r11)]) (ci := 6) (M6_oddsAt l D cy b A fl e18) gX6_lineUp_X6_oddsAt rfl rfl rfl cd6_oddsAt ⟨Nat.le_of_ble_eq_true rfl, Nat.le_of_ble_eq_true rfl⟩ I (gd e18).1 clX6 rfl rfl hl.1 rfl (Nat.le_of_ble_eq_true rfl) dX6_lineUp_48 ⟨Nat.le_of_ble_eq_true rfl, Nat.le_of_ble_eq_true rfl⟩ (fun H locs I => ?_)
        obtain ⟨h20, e19, f⟩ := ob f
        refine o_iast S I e19 dX6_lineUp_51 (fun H locs I => ?_)
        refine lv_aload_n S.1 S.2.1 dX6_lineUp_52 rfl (lv_at hl 0 rfl) ?_
        obtain ⟨r21, e22, f⟩ := ob f
        refine o_gR S lf6_lineUp_35 I e22 dX6_lineUp_53 ?_
        refine lv_iload S.1 S.2.1 dX6_lineUp_56 (lv_at hl 5 rfl) ?_
        obtain ⟨v24, e23, f⟩ := ob f
        refine o_iald S I e23 dX6_lineUp_58 ?_
        refine lv_if_le (tgt := 88) S.1 S.2.1 dX6_lineUp_59 (by decide) (fun q25 => ?_) (fun q25 => ?_)
        · have f := (if_pos q25).symm.trans f
          refine lv_iinc (v := (x5 + 1)) (lv' := [(5, .int (x5 + 1)), (0, .ref (b + a0)), (1, .ref (b + a1)), (2, .int x2), (3, .int x3), (4, .int x4)]) S.1 S.2.1 dX6_lineUp_88 hl (k := 5) rfl (congrArg (fun z => x5 + z) (by decide)) (by decide) rfl (fun ls hl => ?_)
          refine lv_goto (tgt := 6) S.1 S.2.1 dX6_lineUp_91 (by decide) ?_
          exact ih f I (lv_sub hl [1, 2, 3, 4, 5, 0] rfl)
        · have f := (if_neg q25).symm.trans f
          refine lv_aload_n S.1 S.2.1 dX6_lineUp_62 rfl (lv_at hl 0 rfl) ?_
          obtain ⟨r26, e27, f⟩ := ob f
          refine o_gR S lf6_lineUp_38 I e27 dX6_lineUp_63 ?_
          refine lv_iload S.1 S.2.1 dX6_lineUp_66 (lv_at hl 5 rfl) ?_
          refine lv_aload_n S.1 S.2.1 dX6_lineUp_68 rfl (lv_at hl 0 rfl) ?_
          refine lv_aload_n S.1 S.2.1 dX6_lineUp_69 rfl (lv_at hl 1 rfl) ?_
          refine lv_iload S.1 S.2.1 dX6_lineUp_70 (lv_at hl 5 rfl) ?_
          refine lv_iload_n S.1 S.2.1 dX6_lineUp_72 rfl (lv_at hl 2 rfl) ?_
          obtain ⟨o28, e29, f⟩ := ob f
          refine o_Vi S (As := [.ref (b + a1), .int x5, .int x2]) (rest := [.int x5, .ref (b + r26)]) (ci := 6) (M6_keyFor l D cy b A fl e29) gX6_lineUp_X6_keyFor rfl rfl rfl cd6_keyFor ⟨Nat.le_of_ble_eq_true rfl, Nat.le_of_ble_eq_true rfl⟩ I (gd e29).1 clX6 rfl rfl hl.1 rfl (Nat.le_of_ble_eq_true rfl) dX6_lineUp_73 ⟨Nat.le_of_ble_eq_true rfl, Nat.le_of_ble_eq_true rfl⟩ (fun H locs I => ?_)
          obtain ⟨h31, e30, f⟩ := ob f
          refine o_iast S I e30 dX6_lineUp_76 (fun H locs I => ?_)
          refine lv_aload_n S.1 S.2.1 dX6_lineUp_77 rfl (lv_at hl 0 rfl) ?_
          refine lv_iload S.1 S.2.1 dX6_lineUp_78 (lv_at hl 5 rfl) ?_
          refine lv_iload S.1 S.2.1 dX6_lineUp_80 (lv_at hl 4 rfl) ?_
          obtain ⟨o32, e33, f⟩ := ob f
          refine o_Vv S (As := [.int x5, .int x4]) (rest := []) (ci := 6) (M6_putInLine l D cy b A fl e33) gX6_lineUp_X6_putInLine rfl rfl rfl cd6_putInLine ⟨Nat.le_of_ble_eq_true rfl, Nat.le_of_ble_eq_true rfl⟩ I (gd e33).1 clX6 rfl rfl hl.1 rfl (Nat.le_of_ble_eq_true rfl) dX6_lineUp_82 ⟨Nat.le_of_ble_eq_true rfl, Nat.le_of_ble_eq_true rfl⟩ (fun H locs I => ?_)
          refine lv_iinc (v := (x4 + 1)) (lv' := [(4, .int (x4 + 1)), (0, .ref (b + a0)), (1, .ref (b + a1)), (2, .int x2), (3, .int x3), (5, .int x5)]) S.1 S.2.1 dX6_lineUp_85 hl (k := 4) rfl (congrArg (fun z => x4 + z) (by decide)) (by decide) rfl (fun ls hl => ?_)
          refine lv_iinc (v := (x5 + 1)) (lv' := [(5, .int (x5 + 1)), (4, .int (x4 + 1)), (0, .ref (b + a0)), (1, .ref (b + a1)), (2, .int x2), (3, .int x3)]) S.1 S.2.1 dX6_lineUp_88 hl (k := 5) rfl (congrArg (fun z => x5 + z) (by decide)) (by decide) rfl (fun ls hl => ?_)
          refine lv_goto (tgt := 6) S.1 S.2.1 dX6_lineUp_91 (by decide) ?_
          exact ih f I (lv_sub hl [2, 3, 4, 5, 1, 0] rfl)
set_option maxHeartbeats 4000000 in
set_option maxRecDepth 100000 in
theorem T6_lineUp_0 (S : CallFix p m c cX6_lineUp 6 s args vX6_lineUp RX6) (hr : meth.sig.returnType = (some .int)) (hlo : meth.locks = false) {out : Int32 × PH} {h : PH} {a0 : Nat} {a1 : Nat} {x2 : Int32} {x3 : Int32} (f : F6_lineUp_0  h a0 a1 x2 x3 = some out) {H : Heap} {locs : List Loc} (I : ph_I D cy b A fl h s H locs) {ls : Array Slot} (hl : lv_has ls 6 [(0, .ref (b + a0)), (1, .ref (b + a1)), (2, .int x2), (3, .int x3)]) : W p l e ({ frames := 4, cells := 0, slots := 0, locals := 103 } : Room) s m args below meth c H locs 0 0 (MQ below (va_Qi (fun (r : Int32) (u : PH) => (r, u) = out) (ph_B D cy b A fl) A) args s 0 0 A) (F0 m 0 ls []) := by
  unfold F6_lineUp_0 at f
  refine lv_iconst (v := 0) S.1 S.2.1 dX6_lineUp_0 (by decide) ?_
  refine lv_istore (lv' := [(4, .int 0), (0, .ref (b + a0)), (1, .ref (b + a1)), (2, .int x2), (3, .int x3)]) S.1 S.2.1 dX6_lineUp_1 hl (by decide) rfl (fun ls hl => ?_)
  refine lv_iconst (v := 0) S.1 S.2.1 dX6_lineUp_3 (by decide) ?_
  refine lv_istore (lv' := [(5, .int 0), (4, .int 0), (0, .ref (b + a0)), (1, .ref (b + a1)), (2, .int x2), (3, .int x3)]) S.1 S.2.1 dX6_lineUp_4 hl (by decide) rfl (fun ls hl => ?_)
  exact T6_lineUp_6 S hr hlo  1024 f I (lv_sub hl [2, 3, 4, 5, 1, 0] rfl)
theorem M6_lineUp (l : Launch) (D : va_G) (cy : Nat → ClassId) (b : Nat) (A : Nat → Prop) (fl : Bool) {h : PH} {a0 : Nat} {a1 : Nat} {x2 : Int32} {x3 : Int32} {out : Int32 × PH} (f : F6_lineUp h a0 a1 x2 x3 = some out) : Met l yX6_lineUp vX6_lineUp ({ frames := 4, cells := 0, slots := 0, locals := 103 } : Room) (va_Pc [.ref (b + a0), .ref (b + a1), .int x2, .int x3] (ph_B D cy b A fl h)) (va_Qi (fun (r : Int32) (u : PH) => (r, u) = out) (ph_B D cy b A fl) A) 0 0 A :=
  o_met (by decide) rfl (Nat.le_of_ble_eq_true rfl) rfl (fun p e s m below meth c S hr hlo hnm ls hl I => T6_lineUp_0 S hr hlo ((gd f).2) I (lv_sub hl [0, 1, 2, 3] rfl))
def vX6_placeOfRider : List Cond := .code yX6_placeOfRider cX6_placeOfRider 4 (some .int) :: TB
theorem gX6_placeOfRider_X4_drawHundredth : GoodIn vX6_placeOfRider (wsV RX6 205 RX4 yX4_drawHundredth vX4_drawHundredth) := gV_of wT_45_7 wT_45_8 wT_45_9 wT_2_7 wT_45_10
theorem lf6_placeOfRider_35 : Fl vX6_placeOfRider RX6 35 6 7 := ⟨RX6, TX6, 9, rfl, by decide, (fun w h9 => List.mem_cons_of_mem _ (wC_wsX60 w h9)), (List.mem_cons_of_mem _ wT_7_22)⟩
theorem lf6_placeOfRider_32 : Fl vX6_placeOfRider RX6 32 6 6 := ⟨RX6, TX6, 9, rfl, by decide, (fun w h9 => List.mem_cons_of_mem _ (wC_wsX60 w h9)), (List.mem_cons_of_mem _ wT_7_21)⟩
theorem cd6_placeOfRider : Cd yX6_placeOfRider 2 := ⟨by decide, by decide, by decide +kernel⟩
set_option maxHeartbeats 4000000 in
set_option maxRecDepth 100000 in
theorem T6_placeOfRider_2 (S : CallFix p m c cX6_placeOfRider 4 s args vX6_placeOfRider RX6) (hr : meth.sig.returnType = (some .int)) (hlo : meth.locks = false) {out : Int32 × PH} : ∀ (n : Nat) {h : PH} {a0 : Nat} {a1 : Nat} {x2 : Int32} {x3 : Int32} (f : F6_placeOfRider_2  n h a0 a1 x2 x3 = some out) {H : Heap} {locs : List Loc} (I : ph_I D cy b A fl h s H locs) {ls : Array Slot} (hl : lv_has ls 4 [(0, .ref (b + a0)), (1, .ref (b + a1)), (2, .int x2), (3, .int x3)]), W p l e ({ frames := 1, cells := 0, slots := 0, locals := 20 } : Room) s m args below meth c H locs 0 0 (MQ below (va_Qi (fun (r : Int32) (u : PH) => (r, u) = out) (ph_B D cy b A fl) A) args s 0 0 A) (F0 m 2 ls []) := by
  intro n
  induction n with
  | zero => intro h a0 a1 x2 x3 f; rw [F6_placeOfRider_2] at f; cases f
  | succ n ih =>
    intro h a0 a1 x2 x3 f H locs I ls hl
    rw [F6_placeOfRider_2] at f
    refine lv_iload_n S.1 S.2.1 dX6_placeOfRider_2 rfl (lv_at hl 3 rfl) ?_
    refine lv_iload_n S.1 S.2.1 dX6_placeOfRider_3 rfl (lv_at hl 2 rfl) ?_
    refine lv_icmp_ge (tgt := 33) S.1 S.2.1 dX6_placeOfRider_4 (by decide) (fun q1 => ?_) (fun q1 => ?_)
    · have f := (if_pos q1).symm.trans f
      refine lv_iconst (v := (-1)) S.1 S.2.1 dX6_placeOfRider_33 (by decide) ?_
      exact o_iret S hr hlo I f dX6_placeOfRider_34
    · have f := (if_neg q1).symm.trans f
      refine lv_aload_n S.1 S.2.1 dX6_placeOfRider_7 rfl (lv_at hl 1 rfl) ?_
      obtain ⟨o2, e3, f⟩ := ob f
      refine o_Vi S (As := []) (rest := []) (ci := 4) (M4_drawHundredth l D cy b A fl e3) gX6_placeOfRider_X4_drawHundredth rfl rfl rfl cd4_drawHundredth ⟨Nat.le_of_ble_eq_true rfl, Nat.le_of_ble_eq_true rfl⟩ I (gd e3).1 clX4 rfl rfl hl.1 rfl (Nat.le_of_ble_eq_true rfl) dX6_placeOfRider_8 ⟨Nat.le_of_ble_eq_true rfl, Nat.le_of_ble_eq_true rfl⟩ (fun H locs I => ?_)
      refine lv_aload_n S.1 S.2.1 dX6_placeOfRider_11 rfl (lv_at hl 0 rfl) ?_
      obtain ⟨r4, e5, f⟩ := ob f
      refine o_gR S lf6_placeOfRider_35 I e5 dX6_placeOfRider_12 ?_
      refine lv_aload_n S.1 S.2.1 dX6_placeOfRider_15 rfl (lv_at hl 0 rfl) ?_
      obtain ⟨r6, e7, f⟩ := ob f
      refine o_gR S lf6_placeOfRider_32 I e7 dX6_placeOfRider_16 ?_
      refine lv_iload_n S.1 S.2.1 dX6_placeOfRider_19 rfl (lv_at hl 3 rfl) ?_
      obtain ⟨v9, e8, f⟩ := ob f
      refine o_iald S I e8 dX6_placeOfRider_20 ?_
      obtain ⟨v11, e10, f⟩ := ob f
      refine o_iald S I e10 dX6_placeOfRider_21 ?_
      refine lv_icmp_ge (tgt := 27) S.1 S.2.1 dX6_placeOfRider_22 (by decide) (fun q12 => ?_) (fun q12 => ?_)
      · have f := (if_pos q12).symm.trans f
        refine lv_iinc (v := (x3 + 1)) (lv' := [(3, .int (x3 + 1)), (0, .ref (b + a0)), (1, .ref (b + a1)), (2, .int x2)]) S.1 S.2.1 dX6_placeOfRider_27 hl (k := 3) rfl (congrArg (fun z => x3 + z) (by decide)) (by decide) rfl (fun ls hl => ?_)
        refine lv_goto (tgt := 2) S.1 S.2.1 dX6_placeOfRider_30 (by decide) ?_
        exact ih f I (lv_sub hl [1, 2, 3, 0] rfl)
      · have f := (if_neg q12).symm.trans f
        refine lv_iload_n S.1 S.2.1 dX6_placeOfRider_25 rfl (lv_at hl 3 rfl) ?_
        exact o_iret S hr hlo I f dX6_placeOfRider_26
set_option maxHeartbeats 4000000 in
set_option maxRecDepth 100000 in
theorem T6_placeOfRider_0 (S : CallFix p m c cX6_placeOfRider 4 s args vX6_placeOfRider RX6) (hr : meth.sig.returnType = (some .int)) (hlo : meth.locks = false) {out : Int32 × PH} {h : PH} {a0 : Nat} {a1 : Nat} {x2 : Int32} (f : F6_placeOfRider_0  h a0 a1 x2 = some out) {H : Heap} {locs : List Loc} (I : ph_I D cy b A fl h s H locs) {ls : Array Slot} (hl : lv_has ls 4 [(0, .ref (b + a0)), (1, .ref (b + a1)), (2, .int x2)]) : W p l e ({ frames := 1, cells := 0, slots := 0, locals := 20 } : Room) s m args below meth c H locs 0 0 (MQ below (va_Qi (fun (r : Int32) (u : PH) => (r, u) = out) (ph_B D cy b A fl) A) args s 0 0 A) (F0 m 0 ls []) := by
  unfold F6_placeOfRider_0 at f
  refine lv_iconst (v := 0) S.1 S.2.1 dX6_placeOfRider_0 (by decide) ?_
  refine lv_istore_n (lv' := [(3, .int 0), (0, .ref (b + a0)), (1, .ref (b + a1)), (2, .int x2)]) S.1 S.2.1 dX6_placeOfRider_1 rfl hl (by decide) rfl (fun ls hl => ?_)
  exact T6_placeOfRider_2 S hr hlo  1024 f I (lv_sub hl [1, 2, 3, 0] rfl)
theorem M6_placeOfRider (l : Launch) (D : va_G) (cy : Nat → ClassId) (b : Nat) (A : Nat → Prop) (fl : Bool) {h : PH} {a0 : Nat} {a1 : Nat} {x2 : Int32} {out : Int32 × PH} (f : F6_placeOfRider h a0 a1 x2 = some out) : Met l yX6_placeOfRider vX6_placeOfRider ({ frames := 1, cells := 0, slots := 0, locals := 20 } : Room) (va_Pc [.ref (b + a0), .ref (b + a1), .int x2] (ph_B D cy b A fl h)) (va_Qi (fun (r : Int32) (u : PH) => (r, u) = out) (ph_B D cy b A fl) A) 0 0 A :=
  o_met (by decide) rfl (Nat.le_of_ble_eq_true rfl) rfl (fun p e s m below meth c S hr hlo hnm ls hl I => T6_placeOfRider_0 S hr hlo ((gd f).2) I (lv_sub hl [0, 1, 2] rfl))
def vX6_crosserBehind : List Cond := .code yX6_crosserBehind cX6_crosserBehind 6 (some .int) :: TB
theorem lf6_crosserBehind_19 : Fl vX6_crosserBehind RX6 19 6 2 := ⟨RX6, TX6, 9, rfl, by decide, (fun w h9 => List.mem_cons_of_mem _ (wC_wsX60 w h9)), (List.mem_cons_of_mem _ wT_7_17)⟩
theorem lf6_crosserBehind_32 : Fl vX6_crosserBehind RX6 32 6 6 := ⟨RX6, TX6, 9, rfl, by decide, (fun w h9 => List.mem_cons_of_mem _ (wC_wsX60 w h9)), (List.mem_cons_of_mem _ wT_7_21)⟩
theorem gX6_crosserBehind_X4_drawHundredth : GoodIn vX6_crosserBehind (wsV RX6 205 RX4 yX4_drawHundredth vX4_drawHundredth) := gV_of wT_45_7 wT_45_8 wT_45_9 wT_2_7 wT_45_10
theorem cd6_crosserBehind : Cd yX6_crosserBehind 3 := ⟨by decide, by decide, by decide +kernel⟩
set_option maxHeartbeats 4000000 in
set_option maxRecDepth 100000 in
theorem T6_crosserBehind_5 (S : CallFix p m c cX6_crosserBehind 6 s args vX6_crosserBehind RX6) (hr : meth.sig.returnType = (some .int)) (hlo : meth.locks = false) {out : Int32 × PH} : ∀ (n : Nat) {h : PH} {a0 : Nat} {a1 : Nat} {x3 : Int32} {x4 : Int32} (f : F6_crosserBehind_5  n h a0 a1 x3 x4 = some out) {H : Heap} {locs : List Loc} (I : ph_I D cy b A fl h s H locs) {ls : Array Slot} (hl : lv_has ls 6 [(0, .ref (b + a0)), (1, .ref (b + a1)), (3, .int x3), (4, .int x4)]), W p l e ({ frames := 1, cells := 0, slots := 0, locals := 20 } : Room) s m args below meth c H locs 0 0 (MQ below (va_Qi (fun (r : Int32) (u : PH) => (r, u) = out) (ph_B D cy b A fl) A) args s 0 0 A) (F0 m 5 ls []) := by
  intro n
  induction n with
  | zero => intro h a0 a1 x3 x4 f; rw [F6_crosserBehind_5] at f; cases f
  | succ n ih =>
    intro h a0 a1 x3 x4 f H locs I ls hl
    rw [F6_crosserBehind_5] at f
    refine lv_iload S.1 S.2.1 dX6_crosserBehind_5 (lv_at hl 3 rfl) ?_
    refine lv_iload_n S.1 S.2.1 dX6_crosserBehind_7 rfl (lv_at hl 2 rfl) ?_
    refine lv_icmp_ge (tgt := 53) S.1 S.2.1 dX6_crosserBehind_8 (by decide) (fun q1 => ?_) (fun q1 => ?_)
    · have f := (if_pos q1).symm.trans f
      refine lv_iconst (v := (-1)) S.1 S.2.1 dX6_crosserBehind_53 (by decide) ?_
      exact o_iret S hr hlo I f dX6_crosserBehind_54
    · have f := (if_neg q1).symm.trans f
      refine lv_aload_n S.1 S.2.1 dX6_crosserBehind_11 rfl (lv_at hl 0 rfl) ?_
      obtain ⟨r2, e3, f⟩ := ob f
      refine o_gR S lf6_crosserBehind_19 I e3 dX6_crosserBehind_12 ?_
      refine lv_aload_n S.1 S.2.1 dX6_crosserBehind_15 rfl (lv_at hl 0 rfl) ?_
      obtain ⟨r4, e5, f⟩ := ob f
      refine o_gR S lf6_crosserBehind_32 I e5 dX6_crosserBehind_16 ?_
      refine lv_iload S.1 S.2.1 dX6_crosserBehind_19 (lv_at hl 3 rfl) ?_
      obtain ⟨v7, e6, f⟩ := ob f
      refine o_iald S I e6 dX6_crosserBehind_21 ?_
      obtain ⟨v9, e8, f⟩ := ob f
      refine o_iald S I e8 dX6_crosserBehind_22 ?_
      refine lv_istore (lv' := [(5, .int v9), (0, .ref (b + a0)), (1, .ref (b + a1)), (3, .int x3), (4, .int x4)]) S.1 S.2.1 dX6_crosserBehind_23 hl (by decide) rfl (fun ls hl => ?_)
      refine lv_iload S.1 S.2.1 dX6_crosserBehind_25 (lv_at hl 0 rfl) ?_
      refine lv_if_le (tgt := 47) S.1 S.2.1 dX6_crosserBehind_27 (by decide) (fun q10 => ?_) (fun q10 => ?_)
      · have f := (if_pos q10).symm.trans f
        refine lv_iinc (v := (x4 + 1)) (lv' := [(4, .int (x4 + 1)), (5, .int v9), (0, .ref (b + a0)), (1, .ref (b + a1)), (3, .int x3)]) S.1 S.2.1 dX6_crosserBehind_47 hl (k := 4) rfl (congrArg (fun z => x4 + z) (by decide)) (by decide) rfl (fun ls hl => ?_)
        refine lv_goto (tgt := 5) S.1 S.2.1 dX6_crosserBehind_50 (by decide) ?_
        exact ih f I (lv_sub hl [2, 3, 4, 0] rfl)
      · have f := (if_neg q10).symm.trans f
        refine lv_aload_n S.1 S.2.1 dX6_crosserBehind_30 rfl (lv_at hl 2 rfl) ?_
        obtain ⟨o11, e12, f⟩ := ob f
        refine o_Vi S (As := []) (rest := []) (ci := 4) (M4_drawHundredth l D cy b A fl e12) gX6_crosserBehind_X4_drawHundredth rfl rfl rfl cd4_drawHundredth ⟨Nat.le_of_ble_eq_true rfl, Nat.le_of_ble_eq_true rfl⟩ I (gd e12).1 clX4 rfl rfl hl.1 rfl (Nat.le_of_ble_eq_true rfl) dX6_crosserBehind_31 ⟨Nat.le_of_ble_eq_true rfl, Nat.le_of_ble_eq_true rfl⟩ (fun H locs I => ?_)
        refine lv_iload S.1 S.2.1 dX6_crosserBehind_34 (lv_at hl 0 rfl) ?_
        refine lv_icmp_ge (tgt := 47) S.1 S.2.1 dX6_crosserBehind_36 (by decide) (fun q13 => ?_) (fun q13 => ?_)
        · have f := (if_pos q13).symm.trans f
          refine lv_iinc (v := (x4 + 1)) (lv' := [(4, .int (x4 + 1)), (5, .int v9), (0, .ref (b + a0)), (1, .ref (b + a1)), (3, .int x3)]) S.1 S.2.1 dX6_crosserBehind_47 hl (k := 4) rfl (congrArg (fun z => x4 + z) (by decide)) (by decide) rfl (fun ls hl => ?_)
          refine lv_goto (tgt := 5) S.1 S.2.1 dX6_crosserBehind_50 (by decide) ?_
          exact ih f I (lv_sub hl [2, 3, 4, 0] rfl)
        · have f := (if_neg q13).symm.trans f
          refine lv_aload_n S.1 S.2.1 dX6_crosserBehind_39 rfl (lv_at hl 1 rfl) ?_
          obtain ⟨r14, e15, f⟩ := ob f
          refine o_gR S lf6_crosserBehind_32 I e15 dX6_crosserBehind_40 ?_
          refine lv_iload S.1 S.2.1 dX6_crosserBehind_43 (lv_at hl 4 rfl) ?_
          obtain ⟨v17, e16, f⟩ := ob f
          refine o_iald S I e16 dX6_crosserBehind_45 ?_
          exact o_iret S hr hlo I f dX6_crosserBehind_46
set_option maxHeartbeats 4000000 in
set_option maxRecDepth 100000 in
theorem T6_crosserBehind_0 (S : CallFix p m c cX6_crosserBehind 6 s args vX6_crosserBehind RX6) (hr : meth.sig.returnType = (some .int)) (hlo : meth.locks = false) {out : Int32 × PH} {h : PH} {a0 : Nat} {a1 : Nat} {x2 : Int32} {x3 : Int32} (f : F6_crosserBehind_0  h a0 a1 x2 x3 = some out) {H : Heap} {locs : List Loc} (I : ph_I D cy b A fl h s H locs) {ls : Array Slot} (hl : lv_has ls 6 [(0, .ref (b + a0)), (1, .ref (b + a1)), (2, .int x2), (3, .int x3)]) : W p l e ({ frames := 1, cells := 0, slots := 0, locals := 20 } : Room) s m args below meth c H locs 0 0 (MQ below (va_Qi (fun (r : Int32) (u : PH) => (r, u) = out) (ph_B D cy b A fl) A) args s 0 0 A) (F0 m 0 ls []) := by
  unfold F6_crosserBehind_0 at f
  refine lv_iload_n S.1 S.2.1 dX6_crosserBehind_0 rfl (lv_at hl 2 rfl) ?_
  refine lv_iconst (v := 1) S.1 S.2.1 dX6_crosserBehind_1 (by decide) ?_
  refine lv_iadd S.1 S.2.1 dX6_crosserBehind_2 ?_
  refine lv_istore (lv' := [(4, .int (x2 + 1)), (0, .ref (b + a0)), (1, .ref (b + a1)), (2, .int x2), (3, .int x3)]) S.1 S.2.1 dX6_crosserBehind_3 hl (by decide) rfl (fun ls hl => ?_)
  exact T6_crosserBehind_5 S hr hlo  1024 f I (lv_sub hl [1, 2, 4, 0] rfl)
theorem M6_crosserBehind (l : Launch) (D : va_G) (cy : Nat → ClassId) (b : Nat) (A : Nat → Prop) (fl : Bool) {h : PH} {a0 : Nat} {a1 : Nat} {x2 : Int32} {x3 : Int32} {out : Int32 × PH} (f : F6_crosserBehind h a0 a1 x2 x3 = some out) : Met l yX6_crosserBehind vX6_crosserBehind ({ frames := 1, cells := 0, slots := 0, locals := 20 } : Room) (va_Pc [.ref (b + a0), .ref (b + a1), .int x2, .int x3] (ph_B D cy b A fl h)) (va_Qi (fun (r : Int32) (u : PH) => (r, u) = out) (ph_B D cy b A fl) A) 0 0 A :=
  o_met (by decide) rfl (Nat.le_of_ble_eq_true rfl) rfl (fun p e s m below meth c S hr hlo hnm ls hl I => T6_crosserBehind_0 S hr hlo ((gd f).2) I (lv_sub hl [0, 1, 2, 3] rfl))
def vX6_sendAway : List Cond := .code yX6_sendAway cX6_sendAway 5 none :: TB
theorem lf6_sendAway_209 : Fl vX6_sendAway RX6 209 4 8 := ⟨RX4, TX4, 11, rfl, by decide, (fun w h9 => List.mem_cons_of_mem _ (wC_wsX40 w h9)), (List.mem_cons_of_mem _ wT_45_22)⟩
theorem lf6_sendAway_9 : Fl vX6_sendAway RX6 9 6 0 := ⟨RX6, TX6, 9, rfl, by decide, (fun w h9 => List.mem_cons_of_mem _ (wC_wsX60 w h9)), (List.mem_cons_of_mem _ wT_7_15)⟩
theorem lf6_sendAway_57 : Fl vX6_sendAway RX6 57 8 5 := ⟨RX8, TX8, 14, rfl, by decide, (fun w h9 => List.mem_cons_of_mem _ (wC_wsX80 w h9)), (List.mem_cons_of_mem _ wT_24_9)⟩
theorem lf6_sendAway_67 : Fl vX6_sendAway RX6 67 10 4 := ⟨RX10, TX10, 8, rfl, by decide, (fun w h9 => List.mem_cons_of_mem _ (wC_wsX100 w h9)), (List.mem_cons_of_mem _ wT_24_11)⟩
theorem gX6_sendAway_X6_awayFor : GoodIn vX6_sendAway (wsV RX6 212 RX6 yX6_awayFor vX6_awayFor) := gV_of wT_45_23 wT_46_0 wT_46_1 wT_2_2 wT_46_2
theorem cd6_sendAway : Cd yX6_sendAway 4 := ⟨by decide, by decide, by decide +kernel⟩
set_option maxHeartbeats 4000000 in
set_option maxRecDepth 100000 in
theorem T6_sendAway_0 (S : CallFix p m c cX6_sendAway 5 s args vX6_sendAway RX6) (hr : meth.sig.returnType = none) (hlo : meth.locks = false) {out : PH} {h : PH} {a0 : Nat} {a1 : Nat} {x2 : Int32} {x3 : Int32} {x4 : Int32} (f : F6_sendAway_0  h a0 a1 x2 x3 x4 = some out) {H : Heap} {locs : List Loc} (I : ph_I D cy b A fl h s H locs) {ls : Array Slot} (hl : lv_has ls 5 [(0, .ref (b + a0)), (1, .ref (b + a1)), (2, .int x2), (3, .int x3), (4, .int x4)]) : W p l e ({ frames := 4, cells := 0, slots := 0, locals := 102 } : Room) s m args below meth c H locs 0 0 (MQ below (va_Qv (fun (u : PH) => u = out) (ph_B D cy b A fl) A) args s 0 0 A) (F0 m 0 ls []) := by
  unfold F6_sendAway_0 at f
  refine lv_aload_n S.1 S.2.1 dX6_sendAway_0 rfl (lv_at hl 1 rfl) ?_
  obtain ⟨r1, e2, f⟩ := ob f
  refine o_gR S lf6_sendAway_209 I e2 dX6_sendAway_1 ?_
  refine lv_iload_n S.1 S.2.1 dX6_sendAway_4 rfl (lv_at hl 2 rfl) ?_
  refine lv_aload_n S.1 S.2.1 dX6_sendAway_5 rfl (lv_at hl 0 rfl) ?_
  obtain ⟨r3, e4, f⟩ := ob f
  refine o_gR S lf6_sendAway_9 I e4 dX6_sendAway_6 ?_
  obtain ⟨r5, e6, f⟩ := ob f
  refine o_gR S lf6_sendAway_57 I e6 dX6_sendAway_9 ?_
  obtain ⟨r7, e8, f⟩ := ob f
  refine o_gR S lf6_sendAway_67 I e8 dX6_sendAway_12 ?_
  refine lv_iload_n S.1 S.2.1 dX6_sendAway_15 rfl (lv_at hl 3 rfl) ?_
  obtain ⟨v10, e9, f⟩ := ob f
  refine o_iald S I e9 dX6_sendAway_16 ?_
  refine lv_iload S.1 S.2.1 dX6_sendAway_17 (lv_at hl 4 rfl) ?_
  refine lv_aload_n S.1 S.2.1 dX6_sendAway_19 rfl (lv_at hl 0 rfl) ?_
  refine lv_iload_n S.1 S.2.1 dX6_sendAway_20 rfl (lv_at hl 2 rfl) ?_
  refine lv_iload_n S.1 S.2.1 dX6_sendAway_21 rfl (lv_at hl 3 rfl) ?_
  obtain ⟨o11, e12, f⟩ := ob f
  refine o_Vi S (As := [.int x2, .int x3]) (rest := [.int x4, .int v10, .int x2, .ref (b + r1)]) (ci := 6) (M6_awayFor l D cy b A fl e12) gX6_sendAway_X6_awayFor rfl rfl rfl cd6_awayFor ⟨Nat.le_of_ble_eq_true rfl, Nat.le_of_ble_eq_true rfl⟩ I (gd e12).1 clX6 rfl rfl hl.1 rfl (Nat.le_of_ble_eq_true rfl) dX6_sendAway_22 ⟨Nat.le_of_ble_eq_true rfl, Nat.le_of_ble_eq_true rfl⟩ (fun H locs I => ?_)
  refine lv_imul S.1 S.2.1 dX6_sendAway_25 ?_
  refine lv_iadd S.1 S.2.1 dX6_sendAway_26 ?_
  obtain ⟨h14, e13, f⟩ := ob f
  refine o_iast S I e13 dX6_sendAway_27 (fun H locs I => ?_)
  exact o_vret S hr hlo I f dX6_sendAway_28
theorem M6_sendAway (l : Launch) (D : va_G) (cy : Nat → ClassId) (b : Nat) (A : Nat → Prop) (fl : Bool) {h : PH} {a0 : Nat} {a1 : Nat} {x2 : Int32} {x3 : Int32} {x4 : Int32} {out : PH} (f : F6_sendAway h a0 a1 x2 x3 x4 = some out) : Met l yX6_sendAway vX6_sendAway ({ frames := 4, cells := 0, slots := 0, locals := 102 } : Room) (va_Pc [.ref (b + a0), .ref (b + a1), .int x2, .int x3, .int x4] (ph_B D cy b A fl h)) (va_Qv (fun (u : PH) => u = out) (ph_B D cy b A fl) A) 0 0 A :=
  o_met (by decide) rfl (Nat.le_of_ble_eq_true rfl) rfl (fun p e s m below meth c S hr hlo hnm ls hl I => T6_sendAway_0 S hr hlo ((gd f).2) I (lv_sub hl [0, 1, 2, 3, 4] rfl))
def vX6_bringWave : List Cond := .code yX6_bringWave cX6_bringWave 7 none :: TB
theorem lf6_bringWave_9 : Fl vX6_bringWave RX6 9 6 0 := ⟨RX6, TX6, 9, rfl, by decide, (fun w h9 => List.mem_cons_of_mem _ (wC_wsX60 w h9)), (List.mem_cons_of_mem _ wT_7_15)⟩
theorem lf6_bringWave_57 : Fl vX6_bringWave RX6 57 8 5 := ⟨RX8, TX8, 14, rfl, by decide, (fun w h9 => List.mem_cons_of_mem _ (wC_wsX80 w h9)), (List.mem_cons_of_mem _ wT_24_9)⟩
theorem lf6_bringWave_67 : Fl vX6_bringWave RX6 67 10 4 := ⟨RX10, TX10, 8, rfl, by decide, (fun w h9 => List.mem_cons_of_mem _ (wC_wsX100 w h9)), (List.mem_cons_of_mem _ wT_24_11)⟩
theorem gX6_bringWave_X6_lineUp : GoodIn vX6_bringWave (wsV RX6 182 RX6 yX6_lineUp vX6_lineUp) := gV_of wT_44_5 wT_44_6 wT_44_7 wT_2_2 wT_44_8
theorem gX6_bringWave_X6_placeOfRider : GoodIn vX6_bringWave (wsV RX6 185 RX6 yX6_placeOfRider vX6_placeOfRider) := gV_of wT_45_3 wT_45_4 wT_45_5 wT_2_2 wT_45_6
theorem lf6_bringWave_32 : Fl vX6_bringWave RX6 32 6 6 := ⟨RX6, TX6, 9, rfl, by decide, (fun w h9 => List.mem_cons_of_mem _ (wC_wsX60 w h9)), (List.mem_cons_of_mem _ wT_7_21)⟩
theorem gX6_bringWave_X6_crosserBehind : GoodIn vX6_bringWave (wsV RX6 192 RX6 yX6_crosserBehind vX6_crosserBehind) := gV_of wT_45_14 wT_45_15 wT_45_16 wT_2_2 wT_45_17
theorem lf6_bringWave_166 : Fl vX6_bringWave RX6 166 4 10 := ⟨RX4, TX4, 11, rfl, by decide, (fun w h9 => List.mem_cons_of_mem _ (wC_wsX40 w h9)), (List.mem_cons_of_mem _ wT_44_0)⟩
theorem lf6_bringWave_199 : Fl vX6_bringWave RX6 199 4 3 := ⟨RX4, TX4, 11, rfl, by decide, (fun w h9 => List.mem_cons_of_mem _ (wC_wsX40 w h9)), (List.mem_cons_of_mem _ wT_44_3)⟩
theorem lp6_bringWave_199 : Pl vX6_bringWave RX6 199 4 3 .int := ⟨RX4, TX4, 11, tyX4, rfl, by decide, (fun w h9 => List.mem_cons_of_mem _ (wC_wsX40 w h9)), (List.mem_cons_of_mem _ wT_44_3), tyX4_ok, nmX4, rfl, rfl⟩
theorem lf6_bringWave_202 : Fl vX6_bringWave RX6 202 4 7 := ⟨RX4, TX4, 11, rfl, by decide, (fun w h9 => List.mem_cons_of_mem _ (wC_wsX40 w h9)), (List.mem_cons_of_mem _ wT_44_4)⟩
theorem gX6_bringWave_X6_sendAway : GoodIn vX6_bringWave (wsV RX6 195 RX6 yX6_sendAway vX6_sendAway) := gV_of wT_45_18 wT_45_19 wT_45_20 wT_2_2 wT_45_21
theorem lf6_bringWave_156 : Fl vX6_bringWave RX6 156 4 6 := ⟨RX4, TX4, 11, rfl, by decide, (fun w h9 => List.mem_cons_of_mem _ (wC_wsX40 w h9)), (List.mem_cons_of_mem _ wT_44_2)⟩
theorem lf6_bringWave_189 : Fl vX6_bringWave RX6 189 4 4 := ⟨RX4, TX4, 11, rfl, by decide, (fun w h9 => List.mem_cons_of_mem _ (wC_wsX40 w h9)), (List.mem_cons_of_mem _ wT_44_1)⟩
theorem lp6_bringWave_189 : Pl vX6_bringWave RX6 189 4 4 .int := ⟨RX4, TX4, 11, tyX4, rfl, by decide, (fun w h9 => List.mem_cons_of_mem _ (wC_wsX40 w h9)), (List.mem_cons_of_mem _ wT_44_1), tyX4_ok, nmX4, rfl, rfl⟩
theorem cd6_bringWave : Cd yX6_bringWave 2 := ⟨by decide, by decide, by decide +kernel⟩
set_option maxHeartbeats 4000000 in
set_option maxRecDepth 100000 in
theorem T6_bringWave_0 (S : CallFix p m c cX6_bringWave 7 s args vX6_bringWave RX6) (hr : meth.sig.returnType = none) (hlo : meth.locks = false) {out : PH} {h : PH} {a0 : Nat} {a1 : Nat} {x2 : Int32} (f : F6_bringWave_0  h a0 a1 x2 = some out) {H : Heap} {locs : List Loc} (I : ph_I D cy b A fl h s H locs) {ls : Array Slot} (hl : lv_has ls 7 [(0, .ref (b + a0)), (1, .ref (b + a1)), (2, .int x2)]) : W p l e ({ frames := 5, cells := 0, slots := 0, locals := 128 } : Room) s m args below meth c H locs 0 0 (MQ below (va_Qv (fun (u : PH) => u = out) (ph_B D cy b A fl) A) args s 0 0 A) (F0 m 0 ls []) := by
  unfold F6_bringWave_0 at f
  refine lv_aload_n S.1 S.2.1 dX6_bringWave_0 rfl (lv_at hl 0 rfl) ?_
  refine lv_aload_n S.1 S.2.1 dX6_bringWave_1 rfl (lv_at hl 1 rfl) ?_
  refine lv_iload_n S.1 S.2.1 dX6_bringWave_2 rfl (lv_at hl 2 rfl) ?_
  refine lv_aload_n S.1 S.2.1 dX6_bringWave_3 rfl (lv_at hl 0 rfl) ?_
  obtain ⟨r1, e2, f⟩ := ob f
  refine o_gR S lf6_bringWave_9 I e2 dX6_bringWave_4 ?_
  obtain ⟨r3, e4, f⟩ := ob f
  refine o_gR S lf6_bringWave_57 I e4 dX6_bringWave_7 ?_
  obtain ⟨r5, e6, f⟩ := ob f
  refine o_gR S lf6_bringWave_67 I e6 dX6_bringWave_10 ?_
  refine lv_iload_n S.1 S.2.1 dX6_bringWave_13 rfl (lv_at hl 2 rfl) ?_
  obtain ⟨v8, e7, f⟩ := ob f
  refine o_iald S I e7 dX6_bringWave_14 ?_
  obtain ⟨o9, e10, f⟩ := ob f
  refine o_Vi S (As := [.ref (b + a1), .int x2, .int v8]) (rest := []) (ci := 6) (M6_lineUp l D cy b A fl e10) gX6_bringWave_X6_lineUp rfl rfl rfl cd6_lineUp ⟨Nat.le_of_ble_eq_true rfl, Nat.le_of_ble_eq_true rfl⟩ I (gd e10).1 clX6 rfl rfl hl.1 rfl (Nat.le_of_ble_eq_true rfl) dX6_bringWave_15 ⟨Nat.le_of_ble_eq_true rfl, Nat.le_of_ble_eq_true rfl⟩ (fun H locs I => ?_)
  refine lv_istore_n (lv' := [(3, .int o9.1), (0, .ref (b + a0)), (1, .ref (b + a1)), (2, .int x2)]) S.1 S.2.1 dX6_bringWave_18 rfl hl (by decide) rfl (fun ls hl => ?_)
  refine lv_aload_n S.1 S.2.1 dX6_bringWave_19 rfl (lv_at hl 1 rfl) ?_
  refine lv_aload_n S.1 S.2.1 dX6_bringWave_20 rfl (lv_at hl 2 rfl) ?_
  refine lv_iload_n S.1 S.2.1 dX6_bringWave_21 rfl (lv_at hl 0 rfl) ?_
  obtain ⟨o11, e12, f⟩ := ob f
  refine o_Vi S (As := [.ref (b + a1), .int o9.1]) (rest := []) (ci := 6) (M6_placeOfRider l D cy b A fl e12) gX6_bringWave_X6_placeOfRider rfl rfl rfl cd6_placeOfRider ⟨Nat.le_of_ble_eq_true rfl, Nat.le_of_ble_eq_true rfl⟩ I (gd e12).1 clX6 rfl rfl hl.1 rfl (Nat.le_of_ble_eq_true rfl) dX6_bringWave_22 ⟨Nat.le_of_ble_eq_true rfl, Nat.le_of_ble_eq_true rfl⟩ (fun H locs I => ?_)
  refine lv_istore (lv' := [(4, .int o11.1), (3, .int o9.1), (0, .ref (b + a0)), (1, .ref (b + a1)), (2, .int x2)]) S.1 S.2.1 dX6_bringWave_25 hl (by decide) rfl (fun ls hl => ?_)
  refine lv_iload S.1 S.2.1 dX6_bringWave_27 (lv_at hl 0 rfl) ?_
  refine lv_iconst (v := (-1)) S.1 S.2.1 dX6_bringWave_29 (by decide) ?_
  refine lv_icmp_ne (tgt := 51) S.1 S.2.1 dX6_bringWave_30 (by decide) (fun q13 => ?_) (fun q13 => ?_)
  · have f := (if_neg q13).symm.trans f
    refine lv_aload_n S.1 S.2.1 dX6_bringWave_51 rfl (lv_at hl 2 rfl) ?_
    obtain ⟨r14, e15, f⟩ := ob f
    refine o_gR S lf6_bringWave_32 I e15 dX6_bringWave_52 ?_
    refine lv_iload S.1 S.2.1 dX6_bringWave_55 (lv_at hl 0 rfl) ?_
    obtain ⟨v17, e16, f⟩ := ob f
    refine o_iald S I e16 dX6_bringWave_57 ?_
    refine lv_istore (lv' := [(5, .int v17), (4, .int o11.1), (3, .int o9.1), (0, .ref (b + a0)), (1, .ref (b + a1)), (2, .int x2)]) S.1 S.2.1 dX6_bringWave_58 hl (by decide) rfl (fun ls hl => ?_)
    refine lv_aload_n S.1 S.2.1 dX6_bringWave_60 rfl (lv_at hl 3 rfl) ?_
    refine lv_aload_n S.1 S.2.1 dX6_bringWave_61 rfl (lv_at hl 4 rfl) ?_
    refine lv_iload S.1 S.2.1 dX6_bringWave_62 (lv_at hl 1 rfl) ?_
    refine lv_iload_n S.1 S.2.1 dX6_bringWave_64 rfl (lv_at hl 2 rfl) ?_
    obtain ⟨o18, e19, f⟩ := ob f
    refine o_Vi S (As := [.ref (b + a1), .int o11.1, .int o9.1]) (rest := []) (ci := 6) (M6_crosserBehind l D cy b A fl e19) gX6_bringWave_X6_crosserBehind rfl rfl rfl cd6_crosserBehind ⟨Nat.le_of_ble_eq_true rfl, Nat.le_of_ble_eq_true rfl⟩ I (gd e19).1 clX6 rfl rfl hl.1 rfl (Nat.le_of_ble_eq_true rfl) dX6_bringWave_65 ⟨Nat.le_of_ble_eq_true rfl, Nat.le_of_ble_eq_true rfl⟩ (fun H locs I => ?_)
    refine lv_istore (lv' := [(6, .int o18.1), (5, .int v17), (4, .int o11.1), (3, .int o9.1), (0, .ref (b + a0)), (1, .ref (b + a1)), (2, .int x2)]) S.1 S.2.1 dX6_bringWave_68 hl (by decide) rfl (fun ls hl => ?_)
    refine lv_iload S.1 S.2.1 dX6_bringWave_70 (lv_at hl 0 rfl) ?_
    refine lv_iconst (v := (-1)) S.1 S.2.1 dX6_bringWave_72 (by decide) ?_
    refine lv_icmp_ne (tgt := 105) S.1 S.2.1 dX6_bringWave_73 (by decide) (fun q20 => ?_) (fun q20 => ?_)
    · have f := (if_neg q20).symm.trans f
      refine lv_aload_n S.1 S.2.1 dX6_bringWave_105 rfl (lv_at hl 5 rfl) ?_
      obtain ⟨r21, e22, f⟩ := ob f
      refine o_gR S lf6_bringWave_166 I e22 dX6_bringWave_106 ?_
      refine lv_iload_n S.1 S.2.1 dX6_bringWave_109 rfl (lv_at hl 6 rfl) ?_
      refine lv_bipush (v := (-3)) S.1 S.2.1 dX6_bringWave_110 (by decide) ?_
      obtain ⟨h24, e23, f⟩ := ob f
      refine o_iast S I e23 dX6_bringWave_112 (fun H locs I => ?_)
      refine lv_aload_n S.1 S.2.1 dX6_bringWave_113 rfl (lv_at hl 5 rfl) ?_
      refine lv_dup S.1 S.2.1 dX6_bringWave_114 rfl ?_
      obtain ⟨v25, e26, f⟩ := ob f
      refine o_gI S lf6_bringWave_199 I e26 dX6_bringWave_115 ?_
      refine lv_iconst (v := 1) S.1 S.2.1 dX6_bringWave_118 (by decide) ?_
      refine lv_iadd S.1 S.2.1 dX6_bringWave_119 ?_
      obtain ⟨h27, e28, f⟩ := ob f
      refine o_pI S lp6_bringWave_199 I e28 dX6_bringWave_120 (fun H locs I => ?_)
      refine lv_aload_n S.1 S.2.1 dX6_bringWave_123 rfl (lv_at hl 5 rfl) ?_
      obtain ⟨r29, e30, f⟩ := ob f
      refine o_gR S lf6_bringWave_202 I e30 dX6_bringWave_124 ?_
      refine lv_iload S.1 S.2.1 dX6_bringWave_127 (lv_at hl 1 rfl) ?_
      refine lv_dup2_11 S.1 S.2.1 dX6_bringWave_129 rfl rfl ?_
      obtain ⟨v32, e31, f⟩ := ob f
      refine o_iald S I e31 dX6_bringWave_130 ?_
      refine lv_iconst (v := 1) S.1 S.2.1 dX6_bringWave_131 (by decide) ?_
      refine lv_iadd S.1 S.2.1 dX6_bringWave_132 ?_
      obtain ⟨h34, e33, f⟩ := ob f
      refine o_iast S I e33 dX6_bringWave_133 (fun H locs I => ?_)
      refine lv_aload_n S.1 S.2.1 dX6_bringWave_134 rfl (lv_at hl 5 rfl) ?_
      obtain ⟨r35, e36, f⟩ := ob f
      refine o_gR S lf6_bringWave_202 I e36 dX6_bringWave_135 ?_
      refine lv_iload S.1 S.2.1 dX6_bringWave_138 (lv_at hl 0 rfl) ?_
      refine lv_dup2_11 S.1 S.2.1 dX6_bringWave_140 rfl rfl ?_
      obtain ⟨v38, e37, f⟩ := ob f
      refine o_iald S I e37 dX6_bringWave_141 ?_
      refine lv_iconst (v := 1) S.1 S.2.1 dX6_bringWave_142 (by decide) ?_
      refine lv_iadd S.1 S.2.1 dX6_bringWave_143 ?_
      obtain ⟨h40, e39, f⟩ := ob f
      refine o_iast S I e39 dX6_bringWave_144 (fun H locs I => ?_)
      refine lv_aload_n S.1 S.2.1 dX6_bringWave_145 rfl (lv_at hl 4 rfl) ?_
      refine lv_aload_n S.1 S.2.1 dX6_bringWave_146 rfl (lv_at hl 5 rfl) ?_
      refine lv_iload S.1 S.2.1 dX6_bringWave_147 (lv_at hl 1 rfl) ?_
      refine lv_iload_n S.1 S.2.1 dX6_bringWave_149 rfl (lv_at hl 6 rfl) ?_
      refine lv_iconst (v := 2) S.1 S.2.1 dX6_bringWave_150 (by decide) ?_
      obtain ⟨o41, e42, f⟩ := ob f
      refine o_Vv S (As := [.ref (b + a1), .int v17, .int x2, .int 2]) (rest := []) (ci := 6) (M6_sendAway l D cy b A fl e42) gX6_bringWave_X6_sendAway rfl rfl rfl cd6_sendAway ⟨Nat.le_of_ble_eq_true rfl, Nat.le_of_ble_eq_true rfl⟩ I (gd e42).1 clX6 rfl rfl hl.1 rfl (Nat.le_of_ble_eq_true rfl) dX6_bringWave_151 ⟨Nat.le_of_ble_eq_true rfl, Nat.le_of_ble_eq_true rfl⟩ (fun H locs I => ?_)
      refine lv_aload_n S.1 S.2.1 dX6_bringWave_154 rfl (lv_at hl 4 rfl) ?_
      refine lv_aload_n S.1 S.2.1 dX6_bringWave_155 rfl (lv_at hl 5 rfl) ?_
      refine lv_iload S.1 S.2.1 dX6_bringWave_156 (lv_at hl 0 rfl) ?_
      refine lv_iload_n S.1 S.2.1 dX6_bringWave_158 rfl (lv_at hl 6 rfl) ?_
      refine lv_iconst (v := 2) S.1 S.2.1 dX6_bringWave_159 (by decide) ?_
      obtain ⟨o43, e44, f⟩ := ob f
      refine o_Vv S (As := [.ref (b + a1), .int o18.1, .int x2, .int 2]) (rest := []) (ci := 6) (M6_sendAway l D cy b A fl e44) gX6_bringWave_X6_sendAway rfl rfl rfl cd6_sendAway ⟨Nat.le_of_ble_eq_true rfl, Nat.le_of_ble_eq_true rfl⟩ I (gd e44).1 clX6 rfl rfl hl.1 rfl (Nat.le_of_ble_eq_true rfl) dX6_bringWave_160 ⟨Nat.le_of_ble_eq_true rfl, Nat.le_of_ble_eq_true rfl⟩ (fun H locs I => ?_)
      exact o_vret S hr hlo I f dX6_bringWave_163
    · have f := (if_pos q20).symm.trans f
      refine lv_aload_n S.1 S.2.1 dX6_bringWave_76 rfl (lv_at hl 5 rfl) ?_
      obtain ⟨r45, e46, f⟩ := ob f
      refine o_gR S lf6_bringWave_166 I e46 dX6_bringWave_77 ?_
      refine lv_iload_n S.1 S.2.1 dX6_bringWave_80 rfl (lv_at hl 6 rfl) ?_
      refine lv_iload S.1 S.2.1 dX6_bringWave_81 (lv_at hl 1 rfl) ?_
      obtain ⟨h48, e47, f⟩ := ob f
      refine o_iast S I e47 dX6_bringWave_83 (fun H locs I => ?_)
      refine lv_aload_n S.1 S.2.1 dX6_bringWave_84 rfl (lv_at hl 5 rfl) ?_
      obtain ⟨r49, e50, f⟩ := ob f
      refine o_gR S lf6_bringWave_156 I e50 dX6_bringWave_85 ?_
      refine lv_iload S.1 S.2.1 dX6_bringWave_88 (lv_at hl 1 rfl) ?_
      refine lv_dup2_11 S.1 S.2.1 dX6_bringWave_90 rfl rfl ?_
      obtain ⟨v52, e51, f⟩ := ob f
      refine o_iald S I e51 dX6_bringWave_91 ?_
      refine lv_iconst (v := 1) S.1 S.2.1 dX6_bringWave_92 (by decide) ?_
      refine lv_iadd S.1 S.2.1 dX6_bringWave_93 ?_
      obtain ⟨h54, e53, f⟩ := ob f
      refine o_iast S I e53 dX6_bringWave_94 (fun H locs I => ?_)
      refine lv_aload_n S.1 S.2.1 dX6_bringWave_95 rfl (lv_at hl 4 rfl) ?_
      refine lv_aload_n S.1 S.2.1 dX6_bringWave_96 rfl (lv_at hl 5 rfl) ?_
      refine lv_iload S.1 S.2.1 dX6_bringWave_97 (lv_at hl 1 rfl) ?_
      refine lv_iload_n S.1 S.2.1 dX6_bringWave_99 rfl (lv_at hl 6 rfl) ?_
      refine lv_iconst (v := 1) S.1 S.2.1 dX6_bringWave_100 (by decide) ?_
      obtain ⟨o55, e56, f⟩ := ob f
      refine o_Vv S (As := [.ref (b + a1), .int v17, .int x2, .int 1]) (rest := []) (ci := 6) (M6_sendAway l D cy b A fl e56) gX6_bringWave_X6_sendAway rfl rfl rfl cd6_sendAway ⟨Nat.le_of_ble_eq_true rfl, Nat.le_of_ble_eq_true rfl⟩ I (gd e56).1 clX6 rfl rfl hl.1 rfl (Nat.le_of_ble_eq_true rfl) dX6_bringWave_101 ⟨Nat.le_of_ble_eq_true rfl, Nat.le_of_ble_eq_true rfl⟩ (fun H locs I => ?_)
      exact o_vret S hr hlo I f dX6_bringWave_104
  · have f := (if_pos q13).symm.trans f
    refine lv_aload_n S.1 S.2.1 dX6_bringWave_33 rfl (lv_at hl 3 rfl) ?_
    obtain ⟨r57, e58, f⟩ := ob f
    refine o_gR S lf6_bringWave_166 I e58 dX6_bringWave_34 ?_
    refine lv_iload_n S.1 S.2.1 dX6_bringWave_37 rfl (lv_at hl 4 rfl) ?_
    refine lv_iconst (v := (-1)) S.1 S.2.1 dX6_bringWave_38 (by decide) ?_
    obtain ⟨h60, e59, f⟩ := ob f
    refine o_iast S I e59 dX6_bringWave_39 (fun H locs I => ?_)
    refine lv_aload_n S.1 S.2.1 dX6_bringWave_40 rfl (lv_at hl 3 rfl) ?_
    refine lv_dup S.1 S.2.1 dX6_bringWave_41 rfl ?_
    obtain ⟨v61, e62, f⟩ := ob f
    refine o_gI S lf6_bringWave_189 I e62 dX6_bringWave_42 ?_
    refine lv_iconst (v := 1) S.1 S.2.1 dX6_bringWave_45 (by decide) ?_
    refine lv_iadd S.1 S.2.1 dX6_bringWave_46 ?_
    obtain ⟨h63, e64, f⟩ := ob f
    refine o_pI S lp6_bringWave_189 I e64 dX6_bringWave_47 (fun H locs I => ?_)
    exact o_vret S hr hlo I f dX6_bringWave_50
theorem M6_bringWave (l : Launch) (D : va_G) (cy : Nat → ClassId) (b : Nat) (A : Nat → Prop) (fl : Bool) {h : PH} {a0 : Nat} {a1 : Nat} {x2 : Int32} {out : PH} (f : F6_bringWave h a0 a1 x2 = some out) : Met l yX6_bringWave vX6_bringWave ({ frames := 5, cells := 0, slots := 0, locals := 128 } : Room) (va_Pc [.ref (b + a0), .ref (b + a1), .int x2] (ph_B D cy b A fl h)) (va_Qv (fun (u : PH) => u = out) (ph_B D cy b A fl) A) 0 0 A :=
  o_met (by decide) rfl (Nat.le_of_ble_eq_true rfl) rfl (fun p e s m below meth c S hr hlo hnm ls hl I => T6_bringWave_0 S hr hlo ((gd f).2) I (lv_sub hl [0, 1, 2] rfl))
def vX6_catchValue : List Cond := .code yX6_catchValue cX6_catchValue 4 (some .long) :: TB
theorem gX6_catchValue_X6_nameCatch : GoodIn vX6_catchValue (wsV RX6 128 RX6 yX6_nameCatch vX6_nameCatch) := gV_of wT_38_17 wT_38_18 wT_38_19 wT_2_2 wT_38_20
theorem lf6_catchValue_9 : Fl vX6_catchValue RX6 9 6 0 := ⟨RX6, TX6, 9, rfl, by decide, (fun w h9 => List.mem_cons_of_mem _ (wC_wsX60 w h9)), (List.mem_cons_of_mem _ wT_7_15)⟩
theorem lf6_catchValue_76 : Fl vX6_catchValue RX6 76 8 11 := ⟨RX8, TX8, 14, rfl, by decide, (fun w h9 => List.mem_cons_of_mem _ (wC_wsX80 w h9)), (List.mem_cons_of_mem _ wT_25_7)⟩
theorem lf6_catchValue_25 : Fl vX6_catchValue RX6 25 6 4 := ⟨RX6, TX6, 9, rfl, by decide, (fun w h9 => List.mem_cons_of_mem _ (wC_wsX60 w h9)), (List.mem_cons_of_mem _ wT_7_19)⟩
theorem lf6_catchValue_29 : Fl vX6_catchValue RX6 29 6 5 := ⟨RX6, TX6, 9, rfl, by decide, (fun w h9 => List.mem_cons_of_mem _ (wC_wsX60 w h9)), (List.mem_cons_of_mem _ wT_7_20)⟩
theorem gX6_catchValue_X2_valueFor : GoodIn vX6_catchValue (wsV RX6 80 RX2 yX2_valueFor vX2_valueFor) := gV_of wT_25_8 wT_25_9 wT_25_10 wT_3_14 wT_25_11
theorem cd6_catchValue : Cd yX6_catchValue 3 := ⟨by decide, by decide, by decide +kernel⟩
set_option maxHeartbeats 4000000 in
set_option maxRecDepth 100000 in
theorem T6_catchValue_0 (S : CallFix p m c cX6_catchValue 4 s args vX6_catchValue RX6) (hr : meth.sig.returnType = (some .long)) (hlo : meth.locks = false) {out : Int64 × PH} {h : PH} {a0 : Nat} {x1 : Int32} {x2 : Int32} {x3 : Int32} (f : F6_catchValue_0  h a0 x1 x2 x3 = some out) {H : Heap} {locs : List Loc} (I : ph_I D cy b A fl h s H locs) {ls : Array Slot} (hl : lv_has ls 4 [(0, .ref (b + a0)), (1, .int x1), (2, .int x2), (3, .int x3)]) : W p l e ({ frames := 3, cells := 0, slots := 0, locals := 78 } : Room) s m args below meth c H locs 0 0 (MQ below (va_Ql (fun (r : Int64) (u : PH) => (r, u) = out) (ph_B D cy b A fl) A) args s 0 0 A) (F0 m 0 ls []) := by
  unfold F6_catchValue_0 at f
  refine lv_aload_n S.1 S.2.1 dX6_catchValue_0 rfl (lv_at hl 0 rfl) ?_
  refine lv_iload_n S.1 S.2.1 dX6_catchValue_1 rfl (lv_at hl 1 rfl) ?_
  refine lv_iload_n S.1 S.2.1 dX6_catchValue_2 rfl (lv_at hl 2 rfl) ?_
  refine lv_iload_n S.1 S.2.1 dX6_catchValue_3 rfl (lv_at hl 3 rfl) ?_
  obtain ⟨o1, e2, f⟩ := ob f
  refine o_Vv S (As := [.int x1, .int x2, .int x3]) (rest := []) (ci := 6) (M6_nameCatch l D cy b A fl e2) gX6_catchValue_X6_nameCatch rfl rfl rfl cd6_nameCatch ⟨Nat.le_of_ble_eq_true rfl, Nat.le_of_ble_eq_true rfl⟩ I (gd e2).1 clX6 rfl rfl hl.1 rfl (Nat.le_of_ble_eq_true rfl) dX6_catchValue_4 ⟨Nat.le_of_ble_eq_true rfl, Nat.le_of_ble_eq_true rfl⟩ (fun H locs I => ?_)
  refine lv_aload_n S.1 S.2.1 dX6_catchValue_7 rfl (lv_at hl 0 rfl) ?_
  obtain ⟨r3, e4, f⟩ := ob f
  refine o_gR S lf6_catchValue_9 I e4 dX6_catchValue_8 ?_
  obtain ⟨r5, e6, f⟩ := ob f
  refine o_gR S lf6_catchValue_76 I e6 dX6_catchValue_11 ?_
  refine lv_iconst (v := 0) S.1 S.2.1 dX6_catchValue_14 (by decide) ?_
  obtain ⟨r8, e7, f⟩ := ob f
  refine o_aald S I e7 dX6_catchValue_15 ?_
  refine lv_aload_n S.1 S.2.1 dX6_catchValue_16 rfl (lv_at hl 0 rfl) ?_
  obtain ⟨r9, e10, f⟩ := ob f
  refine o_gR S lf6_catchValue_25 I e10 dX6_catchValue_17 ?_
  refine lv_aload_n S.1 S.2.1 dX6_catchValue_20 rfl (lv_at hl 0 rfl) ?_
  obtain ⟨r11, e12, f⟩ := ob f
  refine o_gR S lf6_catchValue_29 I e12 dX6_catchValue_21 ?_
  obtain ⟨o13, e14, f⟩ := ob f
  refine o_Vl S (As := [.ref (b + r9), .ref (b + r11)]) (rest := []) (ci := 2) (M2_valueFor l D cy b A fl e14) gX6_catchValue_X2_valueFor rfl rfl rfl cd2_valueFor ⟨Nat.le_of_ble_eq_true rfl, Nat.le_of_ble_eq_true rfl⟩ I (gd e14).1 clX2 rfl rfl hl.1 rfl (Nat.le_of_ble_eq_true rfl) dX6_catchValue_24 ⟨Nat.le_of_ble_eq_true rfl, Nat.le_of_ble_eq_true rfl⟩ (fun H locs I => ?_)
  exact o_lret S hr hlo I f dX6_catchValue_27
theorem M6_catchValue (l : Launch) (D : va_G) (cy : Nat → ClassId) (b : Nat) (A : Nat → Prop) (fl : Bool) {h : PH} {a0 : Nat} {x1 : Int32} {x2 : Int32} {x3 : Int32} {out : Int64 × PH} (f : F6_catchValue h a0 x1 x2 x3 = some out) : Met l yX6_catchValue vX6_catchValue ({ frames := 3, cells := 0, slots := 0, locals := 78 } : Room) (va_Pc [.ref (b + a0), .int x1, .int x2, .int x3] (ph_B D cy b A fl h)) (va_Ql (fun (r : Int64) (u : PH) => (r, u) = out) (ph_B D cy b A fl) A) 0 0 A :=
  o_met (by decide) rfl (Nat.le_of_ble_eq_true rfl) rfl (fun p e s m below meth c S hr hlo hnm ls hl I => T6_catchValue_0 S hr hlo ((gd f).2) I (lv_sub hl [0, 1, 2, 3] rfl))
def vX6_crossingOdds : List Cond := .code yX6_crossingOdds cX6_crossingOdds 9 (some .int) :: TB
theorem lf6_crossingOdds_19 : Fl vX6_crossingOdds RX6 19 6 2 := ⟨RX6, TX6, 9, rfl, by decide, (fun w h9 => List.mem_cons_of_mem _ (wC_wsX60 w h9)), (List.mem_cons_of_mem _ wT_7_17)⟩
theorem lf6_crossingOdds_32 : Fl vX6_crossingOdds RX6 32 6 6 := ⟨RX6, TX6, 9, rfl, by decide, (fun w h9 => List.mem_cons_of_mem _ (wC_wsX60 w h9)), (List.mem_cons_of_mem _ wT_7_21)⟩
theorem lf6_crossingOdds_38 : Fl vX6_crossingOdds RX6 38 6 8 := ⟨RX6, TX6, 9, rfl, by decide, (fun w h9 => List.mem_cons_of_mem _ (wC_wsX60 w h9)), (List.mem_cons_of_mem _ wT_7_23)⟩
theorem lf6_crossingOdds_215 : Fl vX6_crossingOdds RX6 215 4 0 := ⟨RX4, TX4, 11, rfl, by decide, (fun w h9 => List.mem_cons_of_mem _ (wC_wsX40 w h9)), (List.mem_cons_of_mem _ wT_56_10)⟩
theorem gX6_crossingOdds_X6_lineUp : GoodIn vX6_crossingOdds (wsV RX6 182 RX6 yX6_lineUp vX6_lineUp) := gV_of wT_44_5 wT_44_6 wT_44_7 wT_2_2 wT_44_8
theorem gX6_crossingOdds_X6_keyFor : GoodIn vX6_crossingOdds (wsV RX6 175 RX6 yX6_keyFor vX6_keyFor) := gV_of wT_44_13 wT_44_14 wT_44_15 wT_2_2 wT_44_16
theorem cd6_crossingOdds : Cd yX6_crossingOdds 3 := ⟨by decide, by decide, by decide +kernel⟩
set_option maxHeartbeats 4000000 in
set_option maxRecDepth 100000 in
theorem T6_crossingOdds_74 (S : CallFix p m c cX6_crossingOdds 9 s args vX6_crossingOdds RX6) (hr : meth.sig.returnType = (some .int)) (hlo : meth.locks = false) {out : Int32 × PH} {k28 : PH → Nat → Int32 → Int32 → Int32 → Int32 → Int32 → Option (Int32 × PH)} (hk28 : ∀ {h : PH} {a0 : Nat} {x2 : Int32} {x4 : Int32} {x5 : Int32} {x6 : Int32} {x7 : Int32}, k28 h a0 x2 x4 x5 x6 x7 = some out → ∀ (H : Heap) (locs : List Loc), ph_I D cy b A fl h s H locs → ∀ (ls : Array Slot), lv_has ls 9 [(0, .ref (b + a0)), (2, .int x2), (4, .int x4), (5, .int x5), (6, .int x6), (7, .int x7)] → W p l e ({ frames := 5, cells := 0, slots := 0, locals := 128 } : Room) s m args below meth c H locs 0 0 (MQ below (va_Qi (fun (r : Int32) (u : PH) => (r, u) = out) (ph_B D cy b A fl) A) args s 0 0 A) (F0 m 28 ls [])) {h : PH} {a0 : Nat} {x2 : Int32} {x4 : Int32} {x5 : Int32} {x6 : Int32} {x7 : Int32} {x8 : Int32} (f : F6_crossingOdds_74 k28 h a0 x2 x4 x5 x6 x7 x8 = some out) {H : Heap} {locs : List Loc} (I : ph_I D cy b A fl h s H locs) {ls : Array Slot} (hl : lv_has ls 9 [(0, .ref (b + a0)), (2, .int x2), (4, .int x4), (5, .int x5), (6, .int x6), (7, .int x7), (8, .int x8)]) : W p l e ({ frames := 5, cells := 0, slots := 0, locals := 128 } : Room) s m args below meth c H locs 0 0 (MQ below (va_Qi (fun (r : Int32) (u : PH) => (r, u) = out) (ph_B D cy b A fl) A) args s 0 0 A) (F0 m 74 ls []) := by
  unfold F6_crossingOdds_74 at f
  refine lv_iload S.1 S.2.1 dX6_crossingOdds_74 (lv_at hl 4 rfl) ?_
  refine lv_bipush (v := 100) S.1 S.2.1 dX6_crossingOdds_76 (by decide) ?_
  refine lv_aload_n S.1 S.2.1 dX6_crossingOdds_78 rfl (lv_at hl 0 rfl) ?_
  obtain ⟨r1, e2, f⟩ := ob f
  refine o_gR S lf6_crossingOdds_19 I e2 dX6_crossingOdds_79 ?_
  refine lv_iload S.1 S.2.1 dX6_crossingOdds_82 (lv_at hl 6 rfl) ?_
  obtain ⟨v4, e3, f⟩ := ob f
  refine o_iald S I e3 dX6_crossingOdds_84 ?_
  refine lv_isub S.1 S.2.1 dX6_crossingOdds_85 ?_
  refine lv_imul S.1 S.2.1 dX6_crossingOdds_86 ?_
  refine lv_bipush (v := 100) S.1 S.2.1 dX6_crossingOdds_87 (by decide) ?_
  refine lv_idiv S.1 S.2.1 dX6_crossingOdds_89 (by decide) ?_
  refine lv_istore (lv' := [(6, .int ((x6 * (100 - v4)) / 100)), (0, .ref (b + a0)), (2, .int x2), (4, .int x4), (5, .int x5), (7, .int x7), (8, .int x8)]) S.1 S.2.1 dX6_crossingOdds_90 hl (by decide) rfl (fun ls hl => ?_)
  refine lv_iinc (v := (x7 + 1)) (lv' := [(7, .int (x7 + 1)), (6, .int ((x6 * (100 - v4)) / 100)), (0, .ref (b + a0)), (2, .int x2), (4, .int x4), (5, .int x5), (8, .int x8)]) S.1 S.2.1 dX6_crossingOdds_92 hl (k := 5) rfl (congrArg (fun z => x7 + z) (by decide)) (by decide) rfl (fun ls hl => ?_)
  refine lv_goto (tgt := 28) S.1 S.2.1 dX6_crossingOdds_95 (by decide) ?_
  exact hk28 f _ _ I _ (lv_sub hl [2, 3, 4, 5, 1, 0] rfl)
set_option maxHeartbeats 4000000 in
set_option maxRecDepth 100000 in
theorem T6_crossingOdds_28 (S : CallFix p m c cX6_crossingOdds 9 s args vX6_crossingOdds RX6) (hr : meth.sig.returnType = (some .int)) (hlo : meth.locks = false) {out : Int32 × PH} : ∀ (n : Nat) {h : PH} {a0 : Nat} {x2 : Int32} {x4 : Int32} {x5 : Int32} {x6 : Int32} {x7 : Int32} (f : F6_crossingOdds_28  n h a0 x2 x4 x5 x6 x7 = some out) {H : Heap} {locs : List Loc} (I : ph_I D cy b A fl h s H locs) {ls : Array Slot} (hl : lv_has ls 9 [(0, .ref (b + a0)), (2, .int x2), (4, .int x4), (5, .int x5), (6, .int x6), (7, .int x7)]), W p l e ({ frames := 5, cells := 0, slots := 0, locals := 128 } : Room) s m args below meth c H locs 0 0 (MQ below (va_Qi (fun (r : Int32) (u : PH) => (r, u) = out) (ph_B D cy b A fl) A) args s 0 0 A) (F0 m 28 ls []) := by
  intro n
  induction n with
  | zero => intro h a0 x2 x4 x5 x6 x7 f; rw [F6_crossingOdds_28] at f; cases f
  | succ n ih =>
    intro h a0 x2 x4 x5 x6 x7 f H locs I ls hl
    rw [F6_crossingOdds_28] at f
    refine lv_iload S.1 S.2.1 dX6_crossingOdds_28 (lv_at hl 5 rfl) ?_
    refine lv_iload S.1 S.2.1 dX6_crossingOdds_30 (lv_at hl 2 rfl) ?_
    refine lv_icmp_ge (tgt := 98) S.1 S.2.1 dX6_crossingOdds_32 (by decide) (fun q1 => ?_) (fun q1 => ?_)
    · have f := (if_pos q1).symm.trans f
      refine lv_bipush (v := 100) S.1 S.2.1 dX6_crossingOdds_98 (by decide) ?_
      refine lv_iload S.1 S.2.1 dX6_crossingOdds_100 (lv_at hl 4 rfl) ?_
      refine lv_isub S.1 S.2.1 dX6_crossingOdds_102 ?_
      exact o_iret S hr hlo I f dX6_crossingOdds_103
    · have f := (if_neg q1).symm.trans f
      refine lv_aload_n S.1 S.2.1 dX6_crossingOdds_35 rfl (lv_at hl 0 rfl) ?_
      obtain ⟨r2, e3, f⟩ := ob f
      refine o_gR S lf6_crossingOdds_32 I e3 dX6_crossingOdds_36 ?_
      refine lv_iload S.1 S.2.1 dX6_crossingOdds_39 (lv_at hl 5 rfl) ?_
      obtain ⟨v5, e4, f⟩ := ob f
      refine o_iald S I e4 dX6_crossingOdds_41 ?_
      refine lv_istore (lv' := [(8, .int v5), (0, .ref (b + a0)), (2, .int x2), (4, .int x4), (5, .int x5), (6, .int x6), (7, .int x7)]) S.1 S.2.1 dX6_crossingOdds_42 hl (by decide) rfl (fun ls hl => ?_)
      refine lv_aload_n S.1 S.2.1 dX6_crossingOdds_44 rfl (lv_at hl 1 rfl) ?_
      obtain ⟨r6, e7, f⟩ := ob f
      refine o_gR S lf6_crossingOdds_38 I e7 dX6_crossingOdds_45 ?_
      refine lv_iload S.1 S.2.1 dX6_crossingOdds_48 (lv_at hl 0 rfl) ?_
      obtain ⟨v9, e8, f⟩ := ob f
      refine o_iald S I e8 dX6_crossingOdds_50 ?_
      refine lv_iload S.1 S.2.1 dX6_crossingOdds_51 (lv_at hl 4 rfl) ?_
      refine lv_icmp_gt (tgt := 74) S.1 S.2.1 dX6_crossingOdds_53 (by decide) (fun q10 => ?_) (fun q10 => ?_)
      · have f := (if_pos q10).symm.trans f
        exact T6_crossingOdds_74 S hr hlo (fun f _ _ I _ hl => ih f I hl) f I (lv_sub hl [1, 2, 3, 4, 5, 6, 0] rfl)
      · have f := (if_neg q10).symm.trans f
        refine lv_aload_n S.1 S.2.1 dX6_crossingOdds_56 rfl (lv_at hl 1 rfl) ?_
        obtain ⟨r11, e12, f⟩ := ob f
        refine o_gR S lf6_crossingOdds_38 I e12 dX6_crossingOdds_57 ?_
        refine lv_iload S.1 S.2.1 dX6_crossingOdds_60 (lv_at hl 0 rfl) ?_
        obtain ⟨v14, e13, f⟩ := ob f
        refine o_iald S I e13 dX6_crossingOdds_62 ?_
        refine lv_iload S.1 S.2.1 dX6_crossingOdds_63 (lv_at hl 4 rfl) ?_
        refine lv_icmp_ne (tgt := 92) S.1 S.2.1 dX6_crossingOdds_65 (by decide) (fun q15 => ?_) (fun q15 => ?_)
        · have f := (if_neg q15).symm.trans f
          refine lv_iinc (v := (x7 + 1)) (lv' := [(7, .int (x7 + 1)), (8, .int v5), (0, .ref (b + a0)), (2, .int x2), (4, .int x4), (5, .int x5), (6, .int x6)]) S.1 S.2.1 dX6_crossingOdds_92 hl (k := 6) rfl (congrArg (fun z => x7 + z) (by decide)) (by decide) rfl (fun ls hl => ?_)
          refine lv_goto (tgt := 28) S.1 S.2.1 dX6_crossingOdds_95 (by decide) ?_
          exact ih f I (lv_sub hl [2, 3, 4, 5, 6, 0] rfl)
        · have f := (if_pos q15).symm.trans f
          refine lv_iload S.1 S.2.1 dX6_crossingOdds_68 (lv_at hl 0 rfl) ?_
          refine lv_iload_n S.1 S.2.1 dX6_crossingOdds_70 rfl (lv_at hl 2 rfl) ?_
          refine lv_icmp_le (tgt := 92) S.1 S.2.1 dX6_crossingOdds_71 (by decide) (fun q16 => ?_) (fun q16 => ?_)
          · have f := (if_pos q16).symm.trans f
            refine lv_iinc (v := (x7 + 1)) (lv' := [(7, .int (x7 + 1)), (8, .int v5), (0, .ref (b + a0)), (2, .int x2), (4, .int x4), (5, .int x5), (6, .int x6)]) S.1 S.2.1 dX6_crossingOdds_92 hl (k := 6) rfl (congrArg (fun z => x7 + z) (by decide)) (by decide) rfl (fun ls hl => ?_)
            refine lv_goto (tgt := 28) S.1 S.2.1 dX6_crossingOdds_95 (by decide) ?_
            exact ih f I (lv_sub hl [2, 3, 4, 5, 6, 0] rfl)
          · have f := (if_neg q16).symm.trans f
            exact T6_crossingOdds_74 S hr hlo (fun f _ _ I _ hl => ih f I hl) f I (lv_sub hl [1, 2, 3, 4, 5, 6, 0] rfl)
set_option maxHeartbeats 4000000 in
set_option maxRecDepth 100000 in
theorem T6_crossingOdds_0 (S : CallFix p m c cX6_crossingOdds 9 s args vX6_crossingOdds RX6) (hr : meth.sig.returnType = (some .int)) (hlo : meth.locks = false) {out : Int32 × PH} {h : PH} {a0 : Nat} {a1 : Nat} {x2 : Int32} {x3 : Int32} (f : F6_crossingOdds_0  h a0 a1 x2 x3 = some out) {H : Heap} {locs : List Loc} (I : ph_I D cy b A fl h s H locs) {ls : Array Slot} (hl : lv_has ls 9 [(0, .ref (b + a0)), (1, .ref (b + a1)), (2, .int x2), (3, .int x3)]) : W p l e ({ frames := 5, cells := 0, slots := 0, locals := 128 } : Room) s m args below meth c H locs 0 0 (MQ below (va_Qi (fun (r : Int32) (u : PH) => (r, u) = out) (ph_B D cy b A fl) A) args s 0 0 A) (F0 m 0 ls []) := by
  unfold F6_crossingOdds_0 at f
  refine lv_aload_n S.1 S.2.1 dX6_crossingOdds_0 rfl (lv_at hl 0 rfl) ?_
  refine lv_aload_n S.1 S.2.1 dX6_crossingOdds_1 rfl (lv_at hl 1 rfl) ?_
  refine lv_iload_n S.1 S.2.1 dX6_crossingOdds_2 rfl (lv_at hl 3 rfl) ?_
  refine lv_aload_n S.1 S.2.1 dX6_crossingOdds_3 rfl (lv_at hl 1 rfl) ?_
  obtain ⟨v1, e2, f⟩ := ob f
  refine o_gI S lf6_crossingOdds_215 I e2 dX6_crossingOdds_4 ?_
  obtain ⟨o3, e4, f⟩ := ob f
  refine o_Vi S (As := [.ref (b + a1), .int x3, .int v1]) (rest := []) (ci := 6) (M6_lineUp l D cy b A fl e4) gX6_crossingOdds_X6_lineUp rfl rfl rfl cd6_lineUp ⟨Nat.le_of_ble_eq_true rfl, Nat.le_of_ble_eq_true rfl⟩ I (gd e4).1 clX6 rfl rfl hl.1 rfl (Nat.le_of_ble_eq_true rfl) dX6_crossingOdds_7 ⟨Nat.le_of_ble_eq_true rfl, Nat.le_of_ble_eq_true rfl⟩ (fun H locs I => ?_)
  refine lv_istore (lv' := [(4, .int o3.1), (0, .ref (b + a0)), (1, .ref (b + a1)), (2, .int x2), (3, .int x3)]) S.1 S.2.1 dX6_crossingOdds_10 hl (by decide) rfl (fun ls hl => ?_)
  refine lv_aload_n S.1 S.2.1 dX6_crossingOdds_12 rfl (lv_at hl 1 rfl) ?_
  refine lv_aload_n S.1 S.2.1 dX6_crossingOdds_13 rfl (lv_at hl 2 rfl) ?_
  refine lv_iload_n S.1 S.2.1 dX6_crossingOdds_14 rfl (lv_at hl 3 rfl) ?_
  refine lv_iload_n S.1 S.2.1 dX6_crossingOdds_15 rfl (lv_at hl 4 rfl) ?_
  obtain ⟨o5, e6, f⟩ := ob f
  refine o_Vi S (As := [.ref (b + a1), .int x2, .int x3]) (rest := []) (ci := 6) (M6_keyFor l D cy b A fl e6) gX6_crossingOdds_X6_keyFor rfl rfl rfl cd6_keyFor ⟨Nat.le_of_ble_eq_true rfl, Nat.le_of_ble_eq_true rfl⟩ I (gd e6).1 clX6 rfl rfl hl.1 rfl (Nat.le_of_ble_eq_true rfl) dX6_crossingOdds_16 ⟨Nat.le_of_ble_eq_true rfl, Nat.le_of_ble_eq_true rfl⟩ (fun H locs I => ?_)
  refine lv_istore (lv' := [(5, .int o5.1), (4, .int o3.1), (0, .ref (b + a0)), (1, .ref (b + a1)), (2, .int x2), (3, .int x3)]) S.1 S.2.1 dX6_crossingOdds_19 hl (by decide) rfl (fun ls hl => ?_)
  refine lv_bipush (v := 100) S.1 S.2.1 dX6_crossingOdds_21 (by decide) ?_
  refine lv_istore (lv' := [(6, .int 100), (5, .int o5.1), (4, .int o3.1), (0, .ref (b + a0)), (1, .ref (b + a1)), (2, .int x2), (3, .int x3)]) S.1 S.2.1 dX6_crossingOdds_23 hl (by decide) rfl (fun ls hl => ?_)
  refine lv_iconst (v := 0) S.1 S.2.1 dX6_crossingOdds_25 (by decide) ?_
  refine lv_istore (lv' := [(7, .int 0), (6, .int 100), (5, .int o5.1), (4, .int o3.1), (0, .ref (b + a0)), (1, .ref (b + a1)), (2, .int x2), (3, .int x3)]) S.1 S.2.1 dX6_crossingOdds_26 hl (by decide) rfl (fun ls hl => ?_)
  exact T6_crossingOdds_28 S hr hlo  1024 f I (lv_sub hl [4, 6, 3, 2, 1, 0] rfl)
theorem M6_crossingOdds (l : Launch) (D : va_G) (cy : Nat → ClassId) (b : Nat) (A : Nat → Prop) (fl : Bool) {h : PH} {a0 : Nat} {a1 : Nat} {x2 : Int32} {x3 : Int32} {out : Int32 × PH} (f : F6_crossingOdds h a0 a1 x2 x3 = some out) : Met l yX6_crossingOdds vX6_crossingOdds ({ frames := 5, cells := 0, slots := 0, locals := 128 } : Room) (va_Pc [.ref (b + a0), .ref (b + a1), .int x2, .int x3] (ph_B D cy b A fl h)) (va_Qi (fun (r : Int32) (u : PH) => (r, u) = out) (ph_B D cy b A fl) A) 0 0 A :=
  o_met (by decide) rfl (Nat.le_of_ble_eq_true rfl) rfl (fun p e s m below meth c S hr hlo hnm ls hl I => T6_crossingOdds_0 S hr hlo ((gd f).2) I (lv_sub hl [0, 1, 2, 3] rfl))
def vX6_driftValue : List Cond := .code yX6_driftValue cX6_driftValue 3 (some .long) :: TB
theorem lf6_driftValue_25 : Fl vX6_driftValue RX6 25 6 4 := ⟨RX6, TX6, 9, rfl, by decide, (fun w h9 => List.mem_cons_of_mem _ (wC_wsX60 w h9)), (List.mem_cons_of_mem _ wT_7_19)⟩
theorem lf6_driftValue_9 : Fl vX6_driftValue RX6 9 6 0 := ⟨RX6, TX6, 9, rfl, by decide, (fun w h9 => List.mem_cons_of_mem _ (wC_wsX60 w h9)), (List.mem_cons_of_mem _ wT_7_15)⟩
theorem lf6_driftValue_76 : Fl vX6_driftValue RX6 76 8 11 := ⟨RX8, TX8, 14, rfl, by decide, (fun w h9 => List.mem_cons_of_mem _ (wC_wsX80 w h9)), (List.mem_cons_of_mem _ wT_25_7)⟩
theorem lf6_driftValue_29 : Fl vX6_driftValue RX6 29 6 5 := ⟨RX6, TX6, 9, rfl, by decide, (fun w h9 => List.mem_cons_of_mem _ (wC_wsX60 w h9)), (List.mem_cons_of_mem _ wT_7_20)⟩
theorem gX6_driftValue_X2_valueFor : GoodIn vX6_driftValue (wsV RX6 80 RX2 yX2_valueFor vX2_valueFor) := gV_of wT_25_8 wT_25_9 wT_25_10 wT_3_14 wT_25_11
theorem cd6_driftValue : Cd yX6_driftValue 1 := ⟨by decide, by decide, by decide +kernel⟩
set_option maxHeartbeats 4000000 in
set_option maxRecDepth 100000 in
theorem T6_driftValue_2 (S : CallFix p m c cX6_driftValue 3 s args vX6_driftValue RX6) (hr : meth.sig.returnType = (some .long)) (hlo : meth.locks = false) {out : Int64 × PH} : ∀ (n : Nat) {h : PH} {a0 : Nat} {x1 : Int32} {x2 : Int32} (f : F6_driftValue_2  n h a0 x1 x2 = some out) {H : Heap} {locs : List Loc} (I : ph_I D cy b A fl h s H locs) {ls : Array Slot} (hl : lv_has ls 3 [(0, .ref (b + a0)), (1, .int x1), (2, .int x2)]), W p l e ({ frames := 3, cells := 0, slots := 0, locals := 78 } : Room) s m args below meth c H locs 0 0 (MQ below (va_Ql (fun (r : Int64) (u : PH) => (r, u) = out) (ph_B D cy b A fl) A) args s 0 0 A) (F0 m 2 ls []) := by
  intro n
  induction n with
  | zero => intro h a0 x1 x2 f; rw [F6_driftValue_2] at f; cases f
  | succ n ih =>
    intro h a0 x1 x2 f H locs I ls hl
    rw [F6_driftValue_2] at f
    refine lv_iload_n S.1 S.2.1 dX6_driftValue_2 rfl (lv_at hl 2 rfl) ?_
    refine lv_bipush (v := 6) S.1 S.2.1 dX6_driftValue_3 (by decide) ?_
    refine lv_icmp_ge (tgt := 21) S.1 S.2.1 dX6_driftValue_5 (by decide) (fun q1 => ?_) (fun q1 => ?_)
    · have f := (if_pos q1).symm.trans f
      refine lv_aload_n S.1 S.2.1 dX6_driftValue_21 rfl (lv_at hl 0 rfl) ?_
      obtain ⟨r2, e3, f⟩ := ob f
      refine o_gR S lf6_driftValue_25 I e3 dX6_driftValue_22 ?_
      refine lv_iconst (v := 4) S.1 S.2.1 dX6_driftValue_25 (by decide) ?_
      refine lv_iload_n S.1 S.2.1 dX6_driftValue_26 rfl (lv_at hl 1 rfl) ?_
      refine lv_i2l (v := Int32.toInt64 x1) S.1 S.2.1 dX6_driftValue_27 rfl ?_
      obtain ⟨h5, e4, f⟩ := ob f
      refine o_last S I e4 dX6_driftValue_28 (fun H locs I => ?_)
      refine lv_aload_n S.1 S.2.1 dX6_driftValue_29 rfl (lv_at hl 0 rfl) ?_
      obtain ⟨r6, e7, f⟩ := ob f
      refine o_gR S lf6_driftValue_9 I e7 dX6_driftValue_30 ?_
      obtain ⟨r8, e9, f⟩ := ob f
      refine o_gR S lf6_driftValue_76 I e9 dX6_driftValue_33 ?_
      refine lv_iconst (v := 1) S.1 S.2.1 dX6_driftValue_36 (by decide) ?_
      obtain ⟨r11, e10, f⟩ := ob f
      refine o_aald S I e10 dX6_driftValue_37 ?_
      refine lv_aload_n S.1 S.2.1 dX6_driftValue_38 rfl (lv_at hl 0 rfl) ?_
      obtain ⟨r12, e13, f⟩ := ob f
      refine o_gR S lf6_driftValue_25 I e13 dX6_driftValue_39 ?_
      refine lv_aload_n S.1 S.2.1 dX6_driftValue_42 rfl (lv_at hl 0 rfl) ?_
      obtain ⟨r14, e15, f⟩ := ob f
      refine o_gR S lf6_driftValue_29 I e15 dX6_driftValue_43 ?_
      obtain ⟨o16, e17, f⟩ := ob f
      refine o_Vl S (As := [.ref (b + r12), .ref (b + r14)]) (rest := []) (ci := 2) (M2_valueFor l D cy b A fl e17) gX6_driftValue_X2_valueFor rfl rfl rfl cd2_valueFor ⟨Nat.le_of_ble_eq_true rfl, Nat.le_of_ble_eq_true rfl⟩ I (gd e17).1 clX2 rfl rfl hl.1 rfl (Nat.le_of_ble_eq_true rfl) dX6_driftValue_46 ⟨Nat.le_of_ble_eq_true rfl, Nat.le_of_ble_eq_true rfl⟩ (fun H locs I => ?_)
      exact o_lret S hr hlo I f dX6_driftValue_49
    · have f := (if_neg q1).symm.trans f
      refine lv_aload_n S.1 S.2.1 dX6_driftValue_8 rfl (lv_at hl 0 rfl) ?_
      obtain ⟨r18, e19, f⟩ := ob f
      refine o_gR S lf6_driftValue_25 I e19 dX6_driftValue_9 ?_
      refine lv_iload_n S.1 S.2.1 dX6_driftValue_12 rfl (lv_at hl 2 rfl) ?_
      refine lv_lconst (v := 0) S.1 S.2.1 dX6_driftValue_13 (by decide) ?_
      obtain ⟨h21, e20, f⟩ := ob f
      refine o_last S I e20 dX6_driftValue_14 (fun H locs I => ?_)
      refine lv_iinc (v := (x2 + 1)) (lv' := [(2, .int (x2 + 1)), (0, .ref (b + a0)), (1, .int x1)]) S.1 S.2.1 dX6_driftValue_15 hl (k := 2) rfl (congrArg (fun z => x2 + z) (by decide)) (by decide) rfl (fun ls hl => ?_)
      refine lv_goto (tgt := 2) S.1 S.2.1 dX6_driftValue_18 (by decide) ?_
      exact ih f I (lv_sub hl [1, 2, 0] rfl)
set_option maxHeartbeats 4000000 in
set_option maxRecDepth 100000 in
theorem T6_driftValue_0 (S : CallFix p m c cX6_driftValue 3 s args vX6_driftValue RX6) (hr : meth.sig.returnType = (some .long)) (hlo : meth.locks = false) {out : Int64 × PH} {h : PH} {a0 : Nat} {x1 : Int32} (f : F6_driftValue_0  h a0 x1 = some out) {H : Heap} {locs : List Loc} (I : ph_I D cy b A fl h s H locs) {ls : Array Slot} (hl : lv_has ls 3 [(0, .ref (b + a0)), (1, .int x1)]) : W p l e ({ frames := 3, cells := 0, slots := 0, locals := 78 } : Room) s m args below meth c H locs 0 0 (MQ below (va_Ql (fun (r : Int64) (u : PH) => (r, u) = out) (ph_B D cy b A fl) A) args s 0 0 A) (F0 m 0 ls []) := by
  unfold F6_driftValue_0 at f
  refine lv_iconst (v := 0) S.1 S.2.1 dX6_driftValue_0 (by decide) ?_
  refine lv_istore_n (lv' := [(2, .int 0), (0, .ref (b + a0)), (1, .int x1)]) S.1 S.2.1 dX6_driftValue_1 rfl hl (by decide) rfl (fun ls hl => ?_)
  exact T6_driftValue_2 S hr hlo  1024 f I (lv_sub hl [1, 2, 0] rfl)
theorem M6_driftValue (l : Launch) (D : va_G) (cy : Nat → ClassId) (b : Nat) (A : Nat → Prop) (fl : Bool) {h : PH} {a0 : Nat} {x1 : Int32} {out : Int64 × PH} (f : F6_driftValue h a0 x1 = some out) : Met l yX6_driftValue vX6_driftValue ({ frames := 3, cells := 0, slots := 0, locals := 78 } : Room) (va_Pc [.ref (b + a0), .int x1] (ph_B D cy b A fl h)) (va_Ql (fun (r : Int64) (u : PH) => (r, u) = out) (ph_B D cy b A fl) A) 0 0 A :=
  o_met (by decide) rfl (Nat.le_of_ble_eq_true rfl) rfl (fun p e s m below meth c S hr hlo hnm ls hl I => T6_driftValue_0 S hr hlo ((gd f).2) I (lv_sub hl [0, 1] rfl))
end
