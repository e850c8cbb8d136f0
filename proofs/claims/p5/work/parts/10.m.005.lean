theorem dX5_countKnot_1 : decode cX5_countKnot 1 = .ok (.getfield 9, 3) := by decide +kernel
theorem dX5_countKnot_4 : decode cX5_countKnot 4 = .ok (.getfield 229, 3) := by decide +kernel
theorem dX5_countKnot_7 : decode cX5_countKnot 7 = .ok (.bipush 64, 2) := by decide +kernel
theorem dX5_countKnot_9 : decode cX5_countKnot 9 = .ok (.if_icmp .lt 9, 3) := by decide +kernel
theorem dX5_countKnot_12 : decode cX5_countKnot 12 = .ok (.aload_n 0, 1) := by decide +kernel
theorem dX5_countKnot_13 : decode cX5_countKnot 13 = .ok (.iconst 2, 1) := by decide +kernel
theorem dX5_countKnot_14 : decode cX5_countKnot 14 = .ok (.invokevirtual 89, 3) := by decide +kernel
theorem dX5_countKnot_17 : decode cX5_countKnot 17 = .ok (.ireturn, 1) := by decide +kernel
theorem dX5_countKnot_18 : decode cX5_countKnot 18 = .ok (.aload_n 0, 1) := by decide +kernel
theorem dX5_countKnot_19 : decode cX5_countKnot 19 = .ok (.getfield 9, 3) := by decide +kernel
theorem dX5_countKnot_22 : decode cX5_countKnot 22 = .ok (.dup, 1) := by decide +kernel
theorem dX5_countKnot_23 : decode cX5_countKnot 23 = .ok (.getfield 229, 3) := by decide +kernel
theorem dX5_countKnot_26 : decode cX5_countKnot 26 = .ok (.iconst 1, 1) := by decide +kernel
theorem dX5_countKnot_27 : decode cX5_countKnot 27 = .ok (.iadd, 1) := by decide +kernel
theorem dX5_countKnot_28 : decode cX5_countKnot 28 = .ok (.putfield 229, 3) := by decide +kernel
theorem dX5_countKnot_31 : decode cX5_countKnot 31 = .ok (.iconst 1, 1) := by decide +kernel
theorem dX5_countKnot_32 : decode cX5_countKnot 32 = .ok (.ireturn, 1) := by decide +kernel
theorem dX7_isLetter_0 : decode cX7_isLetter 0 = .ok (.iload_n 0, 1) := by decide +kernel
theorem dX7_isLetter_1 : decode cX7_isLetter 1 = .ok (.bipush 97, 2) := by decide +kernel
theorem dX7_isLetter_3 : decode cX7_isLetter 3 = .ok (.if_icmp .lt 13, 3) := by decide +kernel
theorem dX7_isLetter_6 : decode cX7_isLetter 6 = .ok (.iload_n 0, 1) := by decide +kernel
theorem dX7_isLetter_7 : decode cX7_isLetter 7 = .ok (.bipush 122, 2) := by decide +kernel
theorem dX7_isLetter_9 : decode cX7_isLetter 9 = .ok (.if_icmp .gt 7, 3) := by decide +kernel
theorem dX7_isLetter_12 : decode cX7_isLetter 12 = .ok (.iconst 1, 1) := by decide +kernel
theorem dX7_isLetter_13 : decode cX7_isLetter 13 = .ok (.goto 4, 3) := by decide +kernel
theorem dX7_isLetter_16 : decode cX7_isLetter 16 = .ok (.iconst 0, 1) := by decide +kernel
theorem dX7_isLetter_17 : decode cX7_isLetter 17 = .ok (.ireturn, 1) := by decide +kernel
theorem dX7_letterBits_0 : decode cX7_letterBits 0 = .ok (.iload_n 0, 1) := by decide +kernel
theorem dX7_letterBits_1 : decode cX7_letterBits 1 = .ok (.bipush 97, 2) := by decide +kernel
theorem dX7_letterBits_3 : decode cX7_letterBits 3 = .ok (.isub, 1) := by decide +kernel
theorem dX7_letterBits_4 : decode cX7_letterBits 4 = .ok (.iconst 1, 1) := by decide +kernel
theorem dX7_letterBits_5 : decode cX7_letterBits 5 = .ok (.iadd, 1) := by decide +kernel
theorem dX7_letterBits_6 : decode cX7_letterBits 6 = .ok (.bipush 25, 2) := by decide +kernel
theorem dX7_letterBits_8 : decode cX7_letterBits 8 = .ok (.iconst 5, 1) := by decide +kernel
theorem dX7_letterBits_9 : decode cX7_letterBits 9 = .ok (.iload_n 1, 1) := by decide +kernel
theorem dX7_letterBits_10 : decode cX7_letterBits 10 = .ok (.imul, 1) := by decide +kernel
theorem dX7_letterBits_11 : decode cX7_letterBits 11 = .ok (.isub, 1) := by decide +kernel
theorem dX7_letterBits_12 : decode cX7_letterBits 12 = .ok (.ishl, 1) := by decide +kernel
theorem dX7_letterBits_13 : decode cX7_letterBits 13 = .ok (.ireturn, 1) := by decide +kernel
theorem dX5_isFirst_0 : decode cX5_isFirst 0 = .ok (.iconst 1, 1) := by decide +kernel
theorem dX5_isFirst_1 : decode cX5_isFirst 1 = .ok (.iload_n 1, 1) := by decide +kernel
theorem dX5_isFirst_2 : decode cX5_isFirst 2 = .ok (.ishl, 1) := by decide +kernel
theorem dX5_isFirst_3 : decode cX5_isFirst 3 = .ok (.istore_n 2, 1) := by decide +kernel
theorem dX5_isFirst_4 : decode cX5_isFirst 4 = .ok (.aload_n 0, 1) := by decide +kernel
theorem dX5_isFirst_5 : decode cX5_isFirst 5 = .ok (.getfield 38, 3) := by decide +kernel
theorem dX5_isFirst_8 : decode cX5_isFirst 8 = .ok (.iload_n 2, 1) := by decide +kernel
theorem dX5_isFirst_9 : decode cX5_isFirst 9 = .ok (.iand, 1) := by decide +kernel
theorem dX5_isFirst_10 : decode cX5_isFirst 10 = .ok (.ifCond .eq 9, 3) := by decide +kernel
theorem dX5_isFirst_13 : decode cX5_isFirst 13 = .ok (.aload_n 0, 1) := by decide +kernel
theorem dX5_isFirst_14 : decode cX5_isFirst 14 = .ok (.iconst 3, 1) := by decide +kernel
theorem dX5_isFirst_15 : decode cX5_isFirst 15 = .ok (.invokevirtual 89, 3) := by decide +kernel
theorem dX5_isFirst_18 : decode cX5_isFirst 18 = .ok (.ireturn, 1) := by decide +kernel
theorem dX5_isFirst_19 : decode cX5_isFirst 19 = .ok (.aload_n 0, 1) := by decide +kernel
theorem dX5_isFirst_20 : decode cX5_isFirst 20 = .ok (.dup, 1) := by decide +kernel
theorem dX5_isFirst_21 : decode cX5_isFirst 21 = .ok (.getfield 38, 3) := by decide +kernel
theorem dX5_isFirst_24 : decode cX5_isFirst 24 = .ok (.iload_n 2, 1) := by decide +kernel
theorem dX5_isFirst_25 : decode cX5_isFirst 25 = .ok (.ior, 1) := by decide +kernel
theorem dX5_isFirst_26 : decode cX5_isFirst 26 = .ok (.putfield 38, 3) := by decide +kernel
theorem dX5_isFirst_29 : decode cX5_isFirst 29 = .ok (.iconst 1, 1) := by decide +kernel
theorem dX5_isFirst_30 : decode cX5_isFirst 30 = .ok (.ireturn, 1) := by decide +kernel
theorem dX5_letWait_0 : decode cX5_letWait 0 = .ok (.aload_n 0, 1) := by decide +kernel
theorem dX5_letWait_1 : decode cX5_letWait 1 = .ok (.getfield 185, 3) := by decide +kernel
theorem dX5_letWait_4 : decode cX5_letWait 4 = .ok (.aload_n 0, 1) := by decide +kernel
theorem dX5_letWait_5 : decode cX5_letWait 5 = .ok (.getfield 22, 3) := by decide +kernel
theorem dX5_letWait_8 : decode cX5_letWait 8 = .ok (.arraylength, 1) := by decide +kernel
theorem dX5_letWait_9 : decode cX5_letWait 9 = .ok (.if_icmp .lt 9, 3) := by decide +kernel
theorem dX5_letWait_12 : decode cX5_letWait 12 = .ok (.aload_n 0, 1) := by decide +kernel
theorem dX5_letWait_13 : decode cX5_letWait 13 = .ok (.iconst 2, 1) := by decide +kernel
theorem dX5_letWait_14 : decode cX5_letWait 14 = .ok (.invokevirtual 89, 3) := by decide +kernel
theorem dX5_letWait_17 : decode cX5_letWait 17 = .ok (.ireturn, 1) := by decide +kernel
theorem dX5_letWait_18 : decode cX5_letWait 18 = .ok (.aload_n 0, 1) := by decide +kernel
theorem dX5_letWait_19 : decode cX5_letWait 19 = .ok (.getfield 22, 3) := by decide +kernel
theorem dX5_letWait_22 : decode cX5_letWait 22 = .ok (.aload_n 0, 1) := by decide +kernel
theorem dX5_letWait_23 : decode cX5_letWait 23 = .ok (.getfield 185, 3) := by decide +kernel
theorem dX5_letWait_26 : decode cX5_letWait 26 = .ok (.iload_n 1, 1) := by decide +kernel
theorem dX5_letWait_27 : decode cX5_letWait 27 = .ok (.iastore, 1) := by decide +kernel
theorem dX5_letWait_28 : decode cX5_letWait 28 = .ok (.aload_n 0, 1) := by decide +kernel
theorem dX5_letWait_29 : decode cX5_letWait 29 = .ok (.dup, 1) := by decide +kernel
theorem dX5_letWait_30 : decode cX5_letWait 30 = .ok (.getfield 185, 3) := by decide +kernel
theorem dX5_letWait_33 : decode cX5_letWait 33 = .ok (.iconst 1, 1) := by decide +kernel
theorem dX5_letWait_34 : decode cX5_letWait 34 = .ok (.iadd, 1) := by decide +kernel
theorem dX5_letWait_35 : decode cX5_letWait 35 = .ok (.putfield 185, 3) := by decide +kernel
theorem dX5_letWait_38 : decode cX5_letWait 38 = .ok (.iconst 1, 1) := by decide +kernel
theorem dX5_letWait_39 : decode cX5_letWait 39 = .ok (.ireturn, 1) := by decide +kernel
theorem dX7_skipBlanks_0 : decode cX7_skipBlanks 0 = .ok (.aload_n 0, 1) := by decide +kernel
theorem dX7_skipBlanks_1 : decode cX7_skipBlanks 1 = .ok (.getfield 44, 3) := by decide +kernel
theorem dX7_skipBlanks_4 : decode cX7_skipBlanks 4 = .ok (.aload_n 0, 1) := by decide +kernel
theorem dX7_skipBlanks_5 : decode cX7_skipBlanks 5 = .ok (.getfield 40, 3) := by decide +kernel
theorem dX7_skipBlanks_8 : decode cX7_skipBlanks 8 = .ok (.if_icmp .ge 45, 3) := by decide +kernel
theorem dX7_skipBlanks_11 : decode cX7_skipBlanks 11 = .ok (.aload_n 0, 1) := by decide +kernel
theorem dX7_skipBlanks_12 : decode cX7_skipBlanks 12 = .ok (.getfield 15, 3) := by decide +kernel
theorem dX7_skipBlanks_15 : decode cX7_skipBlanks 15 = .ok (.aload_n 0, 1) := by decide +kernel
theorem dX7_skipBlanks_16 : decode cX7_skipBlanks 16 = .ok (.getfield 44, 3) := by decide +kernel
theorem dX7_skipBlanks_19 : decode cX7_skipBlanks 19 = .ok (.baload, 1) := by decide +kernel
theorem dX7_skipBlanks_20 : decode cX7_skipBlanks 20 = .ok (.bipush 10, 2) := by decide +kernel
theorem dX7_skipBlanks_22 : decode cX7_skipBlanks 22 = .ok (.if_icmp .eq 18, 3) := by decide +kernel
theorem dX7_skipBlanks_25 : decode cX7_skipBlanks 25 = .ok (.aload_n 0, 1) := by decide +kernel
theorem dX7_skipBlanks_26 : decode cX7_skipBlanks 26 = .ok (.getfield 15, 3) := by decide +kernel
theorem dX7_skipBlanks_29 : decode cX7_skipBlanks 29 = .ok (.aload_n 0, 1) := by decide +kernel
theorem dX7_skipBlanks_30 : decode cX7_skipBlanks 30 = .ok (.getfield 44, 3) := by decide +kernel
theorem dX7_skipBlanks_33 : decode cX7_skipBlanks 33 = .ok (.baload, 1) := by decide +kernel
theorem dX7_skipBlanks_34 : decode cX7_skipBlanks 34 = .ok (.bipush 32, 2) := by decide +kernel
theorem dX7_skipBlanks_36 : decode cX7_skipBlanks 36 = .ok (.if_icmp .eq 4, 3) := by decide +kernel
theorem dX7_skipBlanks_39 : decode cX7_skipBlanks 39 = .ok (.return_, 1) := by decide +kernel
theorem dX7_skipBlanks_40 : decode cX7_skipBlanks 40 = .ok (.aload_n 0, 1) := by decide +kernel
theorem dX7_skipBlanks_41 : decode cX7_skipBlanks 41 = .ok (.dup, 1) := by decide +kernel
theorem dX7_skipBlanks_42 : decode cX7_skipBlanks 42 = .ok (.getfield 44, 3) := by decide +kernel
theorem dX7_skipBlanks_45 : decode cX7_skipBlanks 45 = .ok (.iconst 1, 1) := by decide +kernel
theorem dX7_skipBlanks_46 : decode cX7_skipBlanks 46 = .ok (.iadd, 1) := by decide +kernel
theorem dX7_skipBlanks_47 : decode cX7_skipBlanks 47 = .ok (.putfield 44, 3) := by decide +kernel
theorem dX7_skipBlanks_50 : decode cX7_skipBlanks 50 = .ok (.goto (-50), 3) := by decide +kernel
theorem dX7_skipBlanks_53 : decode cX7_skipBlanks 53 = .ok (.return_, 1) := by decide +kernel
section
variable {p : Program} {l : Launch} {e : Env} {s : State} {m : MethodId} {args : Array Value} {below : List Frame} {meth : Method} {c : Code} {D : va_G} {cy : Nat → ClassId} {b : Nat} {A : Nat → Prop} {fl : Bool}
def vX2_add : List Cond := .code yX2_add cX2_add 2 none :: TB
theorem lf2_add_15 : Fl vX2_add RX2 15 2 1 := ⟨RX2, TX2, 3, rfl, by decide, (fun w h9 => List.mem_cons_of_mem _ (wC_wsX20 w h9)), (List.mem_cons_of_mem _ wT_15_9)⟩
theorem lf2_add_9 : Fl vX2_add RX2 9 2 0 := ⟨RX2, TX2, 3, rfl, by decide, (fun w h9 => List.mem_cons_of_mem _ (wC_wsX20 w h9)), (List.mem_cons_of_mem _ wT_4_18)⟩
theorem lp2_add_15 : Pl vX2_add RX2 15 2 1 .int := ⟨RX2, TX2, 3, tyX2, rfl, by decide, (fun w h9 => List.mem_cons_of_mem _ (wC_wsX20 w h9)), (List.mem_cons_of_mem _ wT_15_9), tyX2_ok, nmX2, rfl, rfl⟩
theorem cd2_add : Cd yX2_add 1 := ⟨by decide, by decide, by decide +kernel⟩
set_option maxHeartbeats 4000000 in
set_option maxRecDepth 100000 in
theorem T2_add_0 (S : CallFix p m c cX2_add 2 s args vX2_add RX2) (hr : meth.sig.returnType = none) (hlo : meth.locks = false) {out : PH} {h : PH} {a0 : Nat} {x1 : Int32} (f : F2_add_0  h a0 x1 = some out) {H : Heap} {locs : List Loc} (I : ph_I D cy b A fl h s H locs) {ls : Array Slot} (hl : lv_has ls 2 [(0, .ref (b + a0)), (1, .int x1)]) : W p l e ({ frames := 0, cells := 0, slots := 0, locals := 0 } : Room) s m args below meth c H locs 0 0 (MQ below (va_Qv (fun (u : PH) => u = out) (ph_B D cy b A fl) A) args s 0 0 A) (F0 m 0 ls []) := by
  unfold F2_add_0 at f
  refine lv_aload_n S.1 S.2.1 dX2_add_0 rfl (lv_at hl 0 rfl) ?_
  obtain ⟨v1, e2, f⟩ := ob f
  refine o_gI S lf2_add_15 I e2 dX2_add_1 ?_
  refine lv_aload_n S.1 S.2.1 dX2_add_4 rfl (lv_at hl 0 rfl) ?_
  obtain ⟨r3, e4, f⟩ := ob f
  refine o_gR S lf2_add_9 I e4 dX2_add_5 ?_
  obtain ⟨v5, e6, f⟩ := ob f
  refine o_alen S I e6 dX2_add_8 ?_
  refine lv_icmp_ge (tgt := 32) S.1 S.2.1 dX2_add_9 (by decide) (fun q7 => ?_) (fun q7 => ?_)
  · have f := (if_pos q7).symm.trans f
    exact o_vret S hr hlo I f dX2_add_32
  · have f := (if_neg q7).symm.trans f
    refine lv_aload_n S.1 S.2.1 dX2_add_12 rfl (lv_at hl 0 rfl) ?_
    obtain ⟨r8, e9, f⟩ := ob f
    refine o_gR S lf2_add_9 I e9 dX2_add_13 ?_
    refine lv_aload_n S.1 S.2.1 dX2_add_16 rfl (lv_at hl 0 rfl) ?_
    obtain ⟨v10, e11, f⟩ := ob f
    refine o_gI S lf2_add_15 I e11 dX2_add_17 ?_
    refine lv_iload_n S.1 S.2.1 dX2_add_20 rfl (lv_at hl 1 rfl) ?_
    obtain ⟨h13, e12, f⟩ := ob f
    refine o_iast S I e12 dX2_add_21 (fun H locs I => ?_)
    refine lv_aload_n S.1 S.2.1 dX2_add_22 rfl (lv_at hl 0 rfl) ?_
    refine lv_dup S.1 S.2.1 dX2_add_23 rfl ?_
    obtain ⟨v14, e15, f⟩ := ob f
    refine o_gI S lf2_add_15 I e15 dX2_add_24 ?_
    refine lv_iconst (v := 1) S.1 S.2.1 dX2_add_27 (by decide) ?_
    refine lv_iadd S.1 S.2.1 dX2_add_28 ?_
    obtain ⟨h16, e17, f⟩ := ob f
    refine o_pI S lp2_add_15 I e17 dX2_add_29 (fun H locs I => ?_)
    exact o_vret S hr hlo I f dX2_add_32
theorem M2_add (l : Launch) (D : va_G) (cy : Nat → ClassId) (b : Nat) (A : Nat → Prop) (fl : Bool) {h : PH} {a0 : Nat} {x1 : Int32} {out : PH} (f : F2_add h a0 x1 = some out) : Met l yX2_add vX2_add ({ frames := 0, cells := 0, slots := 0, locals := 0 } : Room) (va_Pc [.ref (b + a0), .int x1] (ph_B D cy b A fl h)) (va_Qv (fun (u : PH) => u = out) (ph_B D cy b A fl) A) 0 0 A :=
  o_met (by decide) rfl (Nat.le_of_ble_eq_true rfl) rfl (fun p e s m below meth c S hr hlo hnm ls hl I => T2_add_0 S hr hlo ((gd f).2) I (lv_sub hl [0, 1] rfl))
def vX2_forget : List Cond := .code yX2_forget cX2_forget 1 none :: TB
theorem lp2_forget_15 : Pl vX2_forget RX2 15 2 1 .int := ⟨RX2, TX2, 3, tyX2, rfl, by decide, (fun w h9 => List.mem_cons_of_mem _ (wC_wsX20 w h9)), (List.mem_cons_of_mem _ wT_15_9), tyX2_ok, nmX2, rfl, rfl⟩
theorem lp2_forget_19 : Pl vX2_forget RX2 19 2 2 .boolean := ⟨RX2, TX2, 3, tyX2, rfl, by decide, (fun w h9 => List.mem_cons_of_mem _ (wC_wsX20 w h9)), (List.mem_cons_of_mem _ wT_15_10), tyX2_ok, nmX2, rfl, rfl⟩
theorem cd2_forget : Cd yX2_forget 0 := ⟨by decide, by decide, by decide +kernel⟩
set_option maxHeartbeats 4000000 in
set_option maxRecDepth 100000 in
theorem T2_forget_0 (S : CallFix p m c cX2_forget 1 s args vX2_forget RX2) (hr : meth.sig.returnType = none) (hlo : meth.locks = false) {out : PH} {h : PH} {a0 : Nat} (f : F2_forget_0  h a0 = some out) {H : Heap} {locs : List Loc} (I : ph_I D cy b A fl h s H locs) {ls : Array Slot} (hl : lv_has ls 1 [(0, .ref (b + a0))]) : W p l e ({ frames := 0, cells := 0, slots := 0, locals := 0 } : Room) s m args below meth c H locs 0 0 (MQ below (va_Qv (fun (u : PH) => u = out) (ph_B D cy b A fl) A) args s 0 0 A) (F0 m 0 ls []) := by
  unfold F2_forget_0 at f
  refine lv_aload_n S.1 S.2.1 dX2_forget_0 rfl (lv_at hl 0 rfl) ?_
  refine lv_iconst (v := 0) S.1 S.2.1 dX2_forget_1 (by decide) ?_
  obtain ⟨h1, e2, f⟩ := ob f
  refine o_pI S lp2_forget_15 I e2 dX2_forget_2 (fun H locs I => ?_)
  refine lv_aload_n S.1 S.2.1 dX2_forget_5 rfl (lv_at hl 0 rfl) ?_
  refine lv_iconst (v := 0) S.1 S.2.1 dX2_forget_6 (by decide) ?_
  obtain ⟨h3, e4, f⟩ := ob f
  refine o_pZ S lp2_forget_19 I e4 dX2_forget_7 (fun H locs I => ?_)
  exact o_vret S hr hlo I f dX2_forget_10
theorem M2_forget (l : Launch) (D : va_G) (cy : Nat → ClassId) (b : Nat) (A : Nat → Prop) (fl : Bool) {h : PH} {a0 : Nat} {out : PH} (f : F2_forget h a0 = some out) : Met l yX2_forget vX2_forget ({ frames := 0, cells := 0, slots := 0, locals := 0 } : Room) (va_Pc [.ref (b + a0)] (ph_B D cy b A fl h)) (va_Qv (fun (u : PH) => u = out) (ph_B D cy b A fl) A) 0 0 A :=
  o_met (by decide) rfl (Nat.le_of_ble_eq_true rfl) rfl (fun p e s m below meth c S hr hlo hnm ls hl I => T2_forget_0 S hr hlo ((gd f).2) I (lv_sub hl [0] rfl))
def vX3_addSeat : List Cond := .code yX3_addSeat cX3_addSeat 4 (some .int) :: TB
theorem lf3_addSeat_32 : Fl vX3_addSeat RX3 32 3 0 := ⟨RX3, TX3, 7, rfl, by decide, (fun w h9 => List.mem_cons_of_mem _ (wC_wsX30 w h9)), (List.mem_cons_of_mem _ wT_61_17)⟩
theorem lf3_addSeat_15 : Fl vX3_addSeat RX3 15 3 2 := ⟨RX3, TX3, 7, rfl, by decide, (fun w h9 => List.mem_cons_of_mem _ (wC_wsX30 w h9)), (List.mem_cons_of_mem _ wT_8_15)⟩
theorem lf3_addSeat_19 : Fl vX3_addSeat RX3 19 3 3 := ⟨RX3, TX3, 7, rfl, by decide, (fun w h9 => List.mem_cons_of_mem _ (wC_wsX30 w h9)), (List.mem_cons_of_mem _ wT_8_16)⟩
theorem lf3_addSeat_22 : Fl vX3_addSeat RX3 22 3 4 := ⟨RX3, TX3, 7, rfl, by decide, (fun w h9 => List.mem_cons_of_mem _ (wC_wsX30 w h9)), (List.mem_cons_of_mem _ wT_8_17)⟩
theorem lf3_addSeat_25 : Fl vX3_addSeat RX3 25 3 5 := ⟨RX3, TX3, 7, rfl, by decide, (fun w h9 => List.mem_cons_of_mem _ (wC_wsX30 w h9)), (List.mem_cons_of_mem _ wT_8_18)⟩
theorem lp3_addSeat_32 : Pl vX3_addSeat RX3 32 3 0 .int := ⟨RX3, TX3, 7, tyX3, rfl, by decide, (fun w h9 => List.mem_cons_of_mem _ (wC_wsX30 w h9)), (List.mem_cons_of_mem _ wT_61_17), tyX3_ok, nmX3, rfl, rfl⟩
theorem cd3_addSeat : Cd yX3_addSeat 3 := ⟨by decide, by decide, by decide +kernel⟩
set_option maxHeartbeats 4000000 in
set_option maxRecDepth 100000 in
theorem T3_addSeat_0 (S : CallFix p m c cX3_addSeat 4 s args vX3_addSeat RX3) (hr : meth.sig.returnType = (some .int)) (hlo : meth.locks = false) {out : Int32 × PH} {h : PH} {a0 : Nat} {x1 : Int32} {x2 : Int32} {x3 : Int32} (f : F3_addSeat_0  h a0 x1 x2 x3 = some out) {H : Heap} {locs : List Loc} (I : ph_I D cy b A fl h s H locs) {ls : Array Slot} (hl : lv_has ls 4 [(0, .ref (b + a0)), (1, .int x1), (2, .int x2), (3, .int x3)]) : W p l e ({ frames := 0, cells := 0, slots := 0, locals := 0 } : Room) s m args below meth c H locs 0 0 (MQ below (va_Qi (fun (r : Int32) (u : PH) => (r, u) = out) (ph_B D cy b A fl) A) args s 0 0 A) (F0 m 0 ls []) := by
  unfold F3_addSeat_0 at f
  refine lv_aload_n S.1 S.2.1 dX3_addSeat_0 rfl (lv_at hl 0 rfl) ?_
  obtain ⟨v1, e2, f⟩ := ob f
  refine o_gI S lf3_addSeat_32 I e2 dX3_addSeat_1 ?_
  refine lv_bipush (v := 24) S.1 S.2.1 dX3_addSeat_4 (by decide) ?_
  refine lv_icmp_lt (tgt := 11) S.1 S.2.1 dX3_addSeat_6 (by decide) (fun q3 => ?_) (fun q3 => ?_)
  · have f := (if_pos q3).symm.trans f
    refine lv_aload_n S.1 S.2.1 dX3_addSeat_11 rfl (lv_at hl 0 rfl) ?_
    obtain ⟨r4, e5, f⟩ := ob f
    refine o_gR S lf3_addSeat_15 I e5 dX3_addSeat_12 ?_
    refine lv_aload_n S.1 S.2.1 dX3_addSeat_15 rfl (lv_at hl 0 rfl) ?_
    obtain ⟨v6, e7, f⟩ := ob f
    refine o_gI S lf3_addSeat_32 I e7 dX3_addSeat_16 ?_
    refine lv_iload_n S.1 S.2.1 dX3_addSeat_19 rfl (lv_at hl 1 rfl) ?_
    obtain ⟨h9, e8, f⟩ := ob f
    refine o_iast S I e8 dX3_addSeat_20 (fun H locs I => ?_)
    refine lv_aload_n S.1 S.2.1 dX3_addSeat_21 rfl (lv_at hl 0 rfl) ?_
    obtain ⟨r10, e11, f⟩ := ob f
    refine o_gR S lf3_addSeat_19 I e11 dX3_addSeat_22 ?_
    refine lv_aload_n S.1 S.2.1 dX3_addSeat_25 rfl (lv_at hl 0 rfl) ?_
    obtain ⟨v12, e13, f⟩ := ob f
    refine o_gI S lf3_addSeat_32 I e13 dX3_addSeat_26 ?_
    refine lv_iload_n S.1 S.2.1 dX3_addSeat_29 rfl (lv_at hl 2 rfl) ?_
    obtain ⟨h15, e14, f⟩ := ob f
    refine o_iast S I e14 dX3_addSeat_30 (fun H locs I => ?_)
    refine lv_aload_n S.1 S.2.1 dX3_addSeat_31 rfl (lv_at hl 0 rfl) ?_
    obtain ⟨r16, e17, f⟩ := ob f
    refine o_gR S lf3_addSeat_22 I e17 dX3_addSeat_32 ?_
    refine lv_aload_n S.1 S.2.1 dX3_addSeat_35 rfl (lv_at hl 0 rfl) ?_
    obtain ⟨v18, e19, f⟩ := ob f
    refine o_gI S lf3_addSeat_32 I e19 dX3_addSeat_36 ?_
    refine lv_iload_n S.1 S.2.1 dX3_addSeat_39 rfl (lv_at hl 3 rfl) ?_
    obtain ⟨h21, e20, f⟩ := ob f
    refine o_iast S I e20 dX3_addSeat_40 (fun H locs I => ?_)
    refine lv_aload_n S.1 S.2.1 dX3_addSeat_41 rfl (lv_at hl 0 rfl) ?_
    obtain ⟨r22, e23, f⟩ := ob f
    refine o_gR S lf3_addSeat_25 I e23 dX3_addSeat_42 ?_
    refine lv_aload_n S.1 S.2.1 dX3_addSeat_45 rfl (lv_at hl 0 rfl) ?_
    obtain ⟨v24, e25, f⟩ := ob f
    refine o_gI S lf3_addSeat_32 I e25 dX3_addSeat_46 ?_
    refine lv_iconst (v := (-1)) S.1 S.2.1 dX3_addSeat_49 (by decide) ?_
    obtain ⟨h27, e26, f⟩ := ob f
    refine o_iast S I e26 dX3_addSeat_50 (fun H locs I => ?_)
    refine lv_aload_n S.1 S.2.1 dX3_addSeat_51 rfl (lv_at hl 0 rfl) ?_
    refine lv_dup S.1 S.2.1 dX3_addSeat_52 rfl ?_
    obtain ⟨v28, e29, f⟩ := ob f
    refine o_gI S lf3_addSeat_32 I e29 dX3_addSeat_53 ?_
    refine lv_iconst (v := 1) S.1 S.2.1 dX3_addSeat_56 (by decide) ?_
    refine lv_iadd S.1 S.2.1 dX3_addSeat_57 ?_
    obtain ⟨h30, e31, f⟩ := ob f
    refine o_pI S lp3_addSeat_32 I e31 dX3_addSeat_58 (fun H locs I => ?_)
    refine lv_aload_n S.1 S.2.1 dX3_addSeat_61 rfl (lv_at hl 0 rfl) ?_
    obtain ⟨v32, e33, f⟩ := ob f
    refine o_gI S lf3_addSeat_32 I e33 dX3_addSeat_62 ?_
    refine lv_iconst (v := 1) S.1 S.2.1 dX3_addSeat_65 (by decide) ?_
    refine lv_isub S.1 S.2.1 dX3_addSeat_66 ?_
    exact o_iret S hr hlo I f dX3_addSeat_67
  · have f := (if_neg q3).symm.trans f
    refine lv_iconst (v := (-1)) S.1 S.2.1 dX3_addSeat_9 (by decide) ?_
    exact o_iret S hr hlo I f dX3_addSeat_10
theorem M3_addSeat (l : Launch) (D : va_G) (cy : Nat → ClassId) (b : Nat) (A : Nat → Prop) (fl : Bool) {h : PH} {a0 : Nat} {x1 : Int32} {x2 : Int32} {x3 : Int32} {out : Int32 × PH} (f : F3_addSeat h a0 x1 x2 x3 = some out) : Met l yX3_addSeat vX3_addSeat ({ frames := 0, cells := 0, slots := 0, locals := 0 } : Room) (va_Pc [.ref (b + a0), .int x1, .int x2, .int x3] (ph_B D cy b A fl h)) (va_Qi (fun (r : Int32) (u : PH) => (r, u) = out) (ph_B D cy b A fl) A) 0 0 A :=
  o_met (by decide) rfl (Nat.le_of_ble_eq_true rfl) rfl (fun p e s m below meth c S hr hlo hnm ls hl I => T3_addSeat_0 S hr hlo ((gd f).2) I (lv_sub hl [0, 1, 2, 3] rfl))
def vX3_addStrike : List Cond := .code yX3_addStrike cX3_addStrike 2 (some .int) :: TB
theorem lf3_addStrike_32 : Fl vX3_addStrike RX3 32 3 0 := ⟨RX3, TX3, 7, rfl, by decide, (fun w h9 => List.mem_cons_of_mem _ (wC_wsX30 w h9)), (List.mem_cons_of_mem _ wT_61_17)⟩
theorem lf3_addStrike_19 : Fl vX3_addStrike RX3 19 3 3 := ⟨RX3, TX3, 7, rfl, by decide, (fun w h9 => List.mem_cons_of_mem _ (wC_wsX30 w h9)), (List.mem_cons_of_mem _ wT_8_16)⟩
theorem lf3_addStrike_25 : Fl vX3_addStrike RX3 25 3 5 := ⟨RX3, TX3, 7, rfl, by decide, (fun w h9 => List.mem_cons_of_mem _ (wC_wsX30 w h9)), (List.mem_cons_of_mem _ wT_8_18)⟩
theorem lp3_addStrike_32 : Pl vX3_addStrike RX3 32 3 0 .int := ⟨RX3, TX3, 7, tyX3, rfl, by decide, (fun w h9 => List.mem_cons_of_mem _ (wC_wsX30 w h9)), (List.mem_cons_of_mem _ wT_61_17), tyX3_ok, nmX3, rfl, rfl⟩
theorem cd3_addStrike : Cd yX3_addStrike 1 := ⟨by decide, by decide, by decide +kernel⟩
set_option maxHeartbeats 4000000 in
set_option maxRecDepth 100000 in
theorem T3_addStrike_0 (S : CallFix p m c cX3_addStrike 2 s args vX3_addStrike RX3) (hr : meth.sig.returnType = (some .int)) (hlo : meth.locks = false) {out : Int32 × PH} {h : PH} {a0 : Nat} {x1 : Int32} (f : F3_addStrike_0  h a0 x1 = some out) {H : Heap} {locs : List Loc} (I : ph_I D cy b A fl h s H locs) {ls : Array Slot} (hl : lv_has ls 2 [(0, .ref (b + a0)), (1, .int x1)]) : W p l e ({ frames := 0, cells := 0, slots := 0, locals := 0 } : Room) s m args below meth c H locs 0 0 (MQ below (va_Qi (fun (r : Int32) (u : PH) => (r, u) = out) (ph_B D cy b A fl) A) args s 0 0 A) (F0 m 0 ls []) := by
  unfold F3_addStrike_0 at f
  refine lv_aload_n S.1 S.2.1 dX3_addStrike_0 rfl (lv_at hl 0 rfl) ?_
  obtain ⟨v1, e2, f⟩ := ob f
  refine o_gI S lf3_addStrike_32 I e2 dX3_addStrike_1 ?_
  refine lv_bipush (v := 24) S.1 S.2.1 dX3_addStrike_4 (by decide) ?_
  refine lv_icmp_lt (tgt := 11) S.1 S.2.1 dX3_addStrike_6 (by decide) (fun q3 => ?_) (fun q3 => ?_)
  · have f := (if_pos q3).symm.trans f
    refine lv_aload_n S.1 S.2.1 dX3_addStrike_11 rfl (lv_at hl 0 rfl) ?_
    obtain ⟨r4, e5, f⟩ := ob f
    refine o_gR S lf3_addStrike_19 I e5 dX3_addStrike_12 ?_
    refine lv_aload_n S.1 S.2.1 dX3_addStrike_15 rfl (lv_at hl 0 rfl) ?_
    obtain ⟨v6, e7, f⟩ := ob f
    refine o_gI S lf3_addStrike_32 I e7 dX3_addStrike_16 ?_
    refine lv_iconst (v := (-1)) S.1 S.2.1 dX3_addStrike_19 (by decide) ?_
    obtain ⟨h9, e8, f⟩ := ob f
    refine o_iast S I e8 dX3_addStrike_20 (fun H locs I => ?_)
    refine lv_aload_n S.1 S.2.1 dX3_addStrike_21 rfl (lv_at hl 0 rfl) ?_
    obtain ⟨r10, e11, f⟩ := ob f
    refine o_gR S lf3_addStrike_25 I e11 dX3_addStrike_22 ?_
    refine lv_aload_n S.1 S.2.1 dX3_addStrike_25 rfl (lv_at hl 0 rfl) ?_
    obtain ⟨v12, e13, f⟩ := ob f
    refine o_gI S lf3_addStrike_32 I e13 dX3_addStrike_26 ?_
    refine lv_iload_n S.1 S.2.1 dX3_addStrike_29 rfl (lv_at hl 1 rfl) ?_
    obtain ⟨h15, e14, f⟩ := ob f
    refine o_iast S I e14 dX3_addStrike_30 (fun H locs I => ?_)
    refine lv_aload_n S.1 S.2.1 dX3_addStrike_31 rfl (lv_at hl 0 rfl) ?_
    refine lv_dup S.1 S.2.1 dX3_addStrike_32 rfl ?_
    obtain ⟨v16, e17, f⟩ := ob f
    refine o_gI S lf3_addStrike_32 I e17 dX3_addStrike_33 ?_
    refine lv_iconst (v := 1) S.1 S.2.1 dX3_addStrike_36 (by decide) ?_
    refine lv_iadd S.1 S.2.1 dX3_addStrike_37 ?_
    obtain ⟨h18, e19, f⟩ := ob f
    refine o_pI S lp3_addStrike_32 I e19 dX3_addStrike_38 (fun H locs I => ?_)
    refine lv_aload_n S.1 S.2.1 dX3_addStrike_41 rfl (lv_at hl 0 rfl) ?_
    obtain ⟨v20, e21, f⟩ := ob f
    refine o_gI S lf3_addStrike_32 I e21 dX3_addStrike_42 ?_
    refine lv_iconst (v := 1) S.1 S.2.1 dX3_addStrike_45 (by decide) ?_
    refine lv_isub S.1 S.2.1 dX3_addStrike_46 ?_
    exact o_iret S hr hlo I f dX3_addStrike_47
  · have f := (if_neg q3).symm.trans f
    refine lv_iconst (v := (-1)) S.1 S.2.1 dX3_addStrike_9 (by decide) ?_
    exact o_iret S hr hlo I f dX3_addStrike_10
theorem M3_addStrike (l : Launch) (D : va_G) (cy : Nat → ClassId) (b : Nat) (A : Nat → Prop) (fl : Bool) {h : PH} {a0 : Nat} {x1 : Int32} {out : Int32 × PH} (f : F3_addStrike h a0 x1 = some out) : Met l yX3_addStrike vX3_addStrike ({ frames := 0, cells := 0, slots := 0, locals := 0 } : Room) (va_Pc [.ref (b + a0), .int x1] (ph_B D cy b A fl h)) (va_Qi (fun (r : Int32) (u : PH) => (r, u) = out) (ph_B D cy b A fl) A) 0 0 A :=
  o_met (by decide) rfl (Nat.le_of_ble_eq_true rfl) rfl (fun p e s m below meth c S hr hlo hnm ls hl I => T3_addStrike_0 S hr hlo ((gd f).2) I (lv_sub hl [0, 1] rfl))
def vX3_howManyKnown : List Cond := .code yX3_howManyKnown cX3_howManyKnown 1 (some .int) :: TB
theorem lf3_howManyKnown_9 : Fl vX3_howManyKnown RX3 9 3 1 := ⟨RX3, TX3, 7, rfl, by decide, (fun w h9 => List.mem_cons_of_mem _ (wC_wsX30 w h9)), (List.mem_cons_of_mem _ wT_8_14)⟩
theorem lf3_howManyKnown_32 : Fl vX3_howManyKnown RX3 32 3 0 := ⟨RX3, TX3, 7, rfl, by decide, (fun w h9 => List.mem_cons_of_mem _ (wC_wsX30 w h9)), (List.mem_cons_of_mem _ wT_61_17)⟩
theorem cd3_howManyKnown : Cd yX3_howManyKnown 0 := ⟨by decide, by decide, by decide +kernel⟩
set_option maxHeartbeats 4000000 in
set_option maxRecDepth 100000 in
theorem T3_howManyKnown_0 (S : CallFix p m c cX3_howManyKnown 1 s args vX3_howManyKnown RX3) (hr : meth.sig.returnType = (some .int)) (hlo : meth.locks = false) {out : Int32 × PH} {h : PH} {a0 : Nat} (f : F3_howManyKnown_0  h a0 = some out) {H : Heap} {locs : List Loc} (I : ph_I D cy b A fl h s H locs) {ls : Array Slot} (hl : lv_has ls 1 [(0, .ref (b + a0))]) : W p l e ({ frames := 0, cells := 0, slots := 0, locals := 0 } : Room) s m args below meth c H locs 0 0 (MQ below (va_Qi (fun (r : Int32) (u : PH) => (r, u) = out) (ph_B D cy b A fl) A) args s 0 0 A) (F0 m 0 ls []) := by
  unfold F3_howManyKnown_0 at f
  refine lv_aload_n S.1 S.2.1 dX3_howManyKnown_0 rfl (lv_at hl 0 rfl) ?_
  obtain ⟨v1, e2, f⟩ := ob f
  refine o_gI S lf3_howManyKnown_9 I e2 dX3_howManyKnown_1 ?_
  refine lv_iconst (v := (-1)) S.1 S.2.1 dX3_howManyKnown_4 (by decide) ?_
  refine lv_icmp_ne (tgt := 15) S.1 S.2.1 dX3_howManyKnown_5 (by decide) (fun q3 => ?_) (fun q3 => ?_)
  · have f := (if_neg q3).symm.trans f
    refine lv_aload_n S.1 S.2.1 dX3_howManyKnown_15 rfl (lv_at hl 0 rfl) ?_
    obtain ⟨v4, e5, f⟩ := ob f
    refine o_gI S lf3_howManyKnown_9 I e5 dX3_howManyKnown_16 ?_
    exact o_iret S hr hlo I f dX3_howManyKnown_19
  · have f := (if_pos q3).symm.trans f
    refine lv_aload_n S.1 S.2.1 dX3_howManyKnown_8 rfl (lv_at hl 0 rfl) ?_
    obtain ⟨v6, e7, f⟩ := ob f
    refine o_gI S lf3_howManyKnown_32 I e7 dX3_howManyKnown_9 ?_
    refine lv_goto (tgt := 19) S.1 S.2.1 dX3_howManyKnown_12 (by decide) ?_
    exact o_iret S hr hlo I f dX3_howManyKnown_19
theorem M3_howManyKnown (l : Launch) (D : va_G) (cy : Nat → ClassId) (b : Nat) (A : Nat → Prop) (fl : Bool) {h : PH} {a0 : Nat} {out : Int32 × PH} (f : F3_howManyKnown h a0 = some out) : Met l yX3_howManyKnown vX3_howManyKnown ({ frames := 0, cells := 0, slots := 0, locals := 0 } : Room) (va_Pc [.ref (b + a0)] (ph_B D cy b A fl h)) (va_Qi (fun (r : Int32) (u : PH) => (r, u) = out) (ph_B D cy b A fl) A) 0 0 A :=
  o_met (by decide) rfl (Nat.le_of_ble_eq_true rfl) rfl (fun p e s m below meth c S hr hlo hnm ls hl I => T3_howManyKnown_0 S hr hlo ((gd f).2) I (lv_sub hl [0] rfl))
def vX3_findStruck : List Cond := .code yX3_findStruck cX3_findStruck 3 none :: TB
theorem lf3_findStruck_28 : Fl vX3_findStruck RX3 28 3 6 := ⟨RX3, TX3, 7, rfl, by decide, (fun w h9 => List.mem_cons_of_mem _ (wC_wsX30 w h9)), (List.mem_cons_of_mem _ wT_8_20)⟩
theorem lf3_findStruck_25 : Fl vX3_findStruck RX3 25 3 5 := ⟨RX3, TX3, 7, rfl, by decide, (fun w h9 => List.mem_cons_of_mem _ (wC_wsX30 w h9)), (List.mem_cons_of_mem _ wT_8_18)⟩
theorem gX3_findStruck_X3_howManyKnown : GoodIn vX3_findStruck (wsV RX3 35 RX3 yX3_howManyKnown vX3_howManyKnown) := gV_of wT_63_10 wT_63_11 wT_63_12 wT_2_13 wT_63_13
theorem cd3_findStruck : Cd yX3_findStruck 0 := ⟨by decide, by decide, by decide +kernel⟩
set_option maxHeartbeats 4000000 in
set_option maxRecDepth 100000 in
theorem T3_findStruck_29 (S : CallFix p m c cX3_findStruck 3 s args vX3_findStruck RX3) (hr : meth.sig.returnType = none) (hlo : meth.locks = false) {out : PH} : ∀ (n : Nat) {h : PH} {a0 : Nat} {x2 : Int32} (f : F3_findStruck_29  n h a0 x2 = some out) {H : Heap} {locs : List Loc} (I : ph_I D cy b A fl h s H locs) {ls : Array Slot} (hl : lv_has ls 3 [(0, .ref (b + a0)), (2, .int x2)]), W p l e ({ frames := 1, cells := 0, slots := 0, locals := 20 } : Room) s m args below meth c H locs 0 0 (MQ below (va_Qv (fun (u : PH) => u = out) (ph_B D cy b A fl) A) args s 0 0 A) (F0 m 29 ls []) := by
  intro n
  induction n with
  | zero => intro h a0 x2 f; rw [F3_findStruck_29] at f; cases f
  | succ n ih =>
    intro h a0 x2 f H locs I ls hl
    rw [F3_findStruck_29] at f
    refine lv_iload_n S.1 S.2.1 dX3_findStruck_29 rfl (lv_at hl 1 rfl) ?_
    refine lv_if_lt (tgt := 70) S.1 S.2.1 dX3_findStruck_30 (by decide) (fun q1 => ?_) (fun q1 => ?_)
    · have f := (if_pos q1).symm.trans f
      exact o_vret S hr hlo I f dX3_findStruck_70
    · have f := (if_neg q1).symm.trans f
      refine lv_aload_n S.1 S.2.1 dX3_findStruck_33 rfl (lv_at hl 0 rfl) ?_
      obtain ⟨r2, e3, f⟩ := ob f
      refine o_gR S lf3_findStruck_28 I e3 dX3_findStruck_34 ?_
      refine lv_iload_n S.1 S.2.1 dX3_findStruck_37 rfl (lv_at hl 1 rfl) ?_
      obtain ⟨v5, e4, f⟩ := ob f
      refine o_zald S I e4 dX3_findStruck_38 ?_
      refine lv_if_ne (tgt := 64) S.1 S.2.1 dX3_findStruck_39 (by decide) (fun q6 => ?_) (fun q6 => ?_)
      · have f := (if_neg q6).symm.trans f
        refine lv_iinc (v := (x2 + (-1))) (lv' := [(2, .int (x2 + (-1))), (0, .ref (b + a0))]) S.1 S.2.1 dX3_findStruck_64 hl (k := 1) rfl (congrArg (fun z => x2 + z) (by decide)) (by decide) rfl (fun ls hl => ?_)
        refine lv_goto (tgt := 29) S.1 S.2.1 dX3_findStruck_67 (by decide) ?_
        exact ih f I (lv_sub hl [1, 0] rfl)
      · have f := (if_pos q6).symm.trans f
        refine lv_aload_n S.1 S.2.1 dX3_findStruck_42 rfl (lv_at hl 0 rfl) ?_
        obtain ⟨r7, e8, f⟩ := ob f
        refine o_gR S lf3_findStruck_25 I e8 dX3_findStruck_43 ?_
        refine lv_iload_n S.1 S.2.1 dX3_findStruck_46 rfl (lv_at hl 1 rfl) ?_
        obtain ⟨v10, e9, f⟩ := ob f
        refine o_iald S I e9 dX3_findStruck_47 ?_
        refine lv_iconst (v := (-1)) S.1 S.2.1 dX3_findStruck_48 (by decide) ?_
        refine lv_icmp_eq (tgt := 64) S.1 S.2.1 dX3_findStruck_49 (by decide) (fun q11 => ?_) (fun q11 => ?_)
        · have f := (if_pos q11).symm.trans f
          refine lv_iinc (v := (x2 + (-1))) (lv' := [(2, .int (x2 + (-1))), (0, .ref (b + a0))]) S.1 S.2.1 dX3_findStruck_64 hl (k := 1) rfl (congrArg (fun z => x2 + z) (by decide)) (by decide) rfl (fun ls hl => ?_)
          refine lv_goto (tgt := 29) S.1 S.2.1 dX3_findStruck_67 (by decide) ?_
          exact ih f I (lv_sub hl [1, 0] rfl)
        · have f := (if_neg q11).symm.trans f
          refine lv_aload_n S.1 S.2.1 dX3_findStruck_52 rfl (lv_at hl 0 rfl) ?_
          obtain ⟨r12, e13, f⟩ := ob f
          refine o_gR S lf3_findStruck_28 I e13 dX3_findStruck_53 ?_
          refine lv_aload_n S.1 S.2.1 dX3_findStruck_56 rfl (lv_at hl 0 rfl) ?_
          obtain ⟨r14, e15, f⟩ := ob f
          refine o_gR S lf3_findStruck_25 I e15 dX3_findStruck_57 ?_
          refine lv_iload_n S.1 S.2.1 dX3_findStruck_60 rfl (lv_at hl 1 rfl) ?_
          obtain ⟨v17, e16, f⟩ := ob f
          refine o_iald S I e16 dX3_findStruck_61 ?_
          refine lv_iconst (v := 1) S.1 S.2.1 dX3_findStruck_62 (by decide) ?_
          obtain ⟨h19, e18, f⟩ := ob f
          refine o_zast S I e18 dX3_findStruck_63 (fun H locs I => ?_)
          refine lv_iinc (v := (x2 + (-1))) (lv' := [(2, .int (x2 + (-1))), (0, .ref (b + a0))]) S.1 S.2.1 dX3_findStruck_64 hl (k := 1) rfl (congrArg (fun z => x2 + z) (by decide)) (by decide) rfl (fun ls hl => ?_)
          refine lv_goto (tgt := 29) S.1 S.2.1 dX3_findStruck_67 (by decide) ?_
          exact ih f I (lv_sub hl [1, 0] rfl)
set_option maxHeartbeats 4000000 in
set_option maxRecDepth 100000 in
theorem T3_findStruck_7 (S : CallFix p m c cX3_findStruck 3 s args vX3_findStruck RX3) (hr : meth.sig.returnType = none) (hlo : meth.locks = false) {out : PH} : ∀ (n : Nat) {h : PH} {a0 : Nat} {x1 : Int32} {x2 : Int32} (f : F3_findStruck_7  n h a0 x1 x2 = some out) {H : Heap} {locs : List Loc} (I : ph_I D cy b A fl h s H locs) {ls : Array Slot} (hl : lv_has ls 3 [(0, .ref (b + a0)), (1, .int x1), (2, .int x2)]), W p l e ({ frames := 1, cells := 0, slots := 0, locals := 20 } : Room) s m args below meth c H locs 0 0 (MQ below (va_Qv (fun (u : PH) => u = out) (ph_B D cy b A fl) A) args s 0 0 A) (F0 m 7 ls []) := by
  intro n
  induction n with
  | zero => intro h a0 x1 x2 f; rw [F3_findStruck_7] at f; cases f
  | succ n ih =>
    intro h a0 x1 x2 f H locs I ls hl
    rw [F3_findStruck_7] at f
    refine lv_iload_n S.1 S.2.1 dX3_findStruck_7 rfl (lv_at hl 2 rfl) ?_
    refine lv_iload_n S.1 S.2.1 dX3_findStruck_8 rfl (lv_at hl 1 rfl) ?_
    refine lv_icmp_ge (tgt := 25) S.1 S.2.1 dX3_findStruck_9 (by decide) (fun q1 => ?_) (fun q1 => ?_)
    · have f := (if_pos q1).symm.trans f
      refine lv_iload_n S.1 S.2.1 dX3_findStruck_25 rfl (lv_at hl 1 rfl) ?_
      refine lv_iconst (v := 1) S.1 S.2.1 dX3_findStruck_26 (by decide) ?_
      refine lv_isub S.1 S.2.1 dX3_findStruck_27 ?_
      refine lv_istore_n (lv' := [(2, .int (x1 - 1)), (0, .ref (b + a0)), (1, .int x1)]) S.1 S.2.1 dX3_findStruck_28 rfl hl (by decide) rfl (fun ls hl => ?_)
      exact T3_findStruck_29 S hr hlo  1024 f I (lv_sub hl [1, 0] rfl)
    · have f := (if_neg q1).symm.trans f
      refine lv_aload_n S.1 S.2.1 dX3_findStruck_12 rfl (lv_at hl 0 rfl) ?_
      obtain ⟨r2, e3, f⟩ := ob f
      refine o_gR S lf3_findStruck_28 I e3 dX3_findStruck_13 ?_
      refine lv_iload_n S.1 S.2.1 dX3_findStruck_16 rfl (lv_at hl 2 rfl) ?_
      refine lv_iconst (v := 0) S.1 S.2.1 dX3_findStruck_17 (by decide) ?_
      obtain ⟨h5, e4, f⟩ := ob f
      refine o_zast S I e4 dX3_findStruck_18 (fun H locs I => ?_)
      refine lv_iinc (v := (x2 + 1)) (lv' := [(2, .int (x2 + 1)), (0, .ref (b + a0)), (1, .int x1)]) S.1 S.2.1 dX3_findStruck_19 hl (k := 2) rfl (congrArg (fun z => x2 + z) (by decide)) (by decide) rfl (fun ls hl => ?_)
      refine lv_goto (tgt := 7) S.1 S.2.1 dX3_findStruck_22 (by decide) ?_
      exact ih f I (lv_sub hl [1, 2, 0] rfl)
set_option maxHeartbeats 4000000 in
set_option maxRecDepth 100000 in
theorem T3_findStruck_0 (S : CallFix p m c cX3_findStruck 3 s args vX3_findStruck RX3) (hr : meth.sig.returnType = none) (hlo : meth.locks = false) {out : PH} {h : PH} {a0 : Nat} (f : F3_findStruck_0  h a0 = some out) {H : Heap} {locs : List Loc} (I : ph_I D cy b A fl h s H locs) {ls : Array Slot} (hl : lv_has ls 3 [(0, .ref (b + a0))]) : W p l e ({ frames := 1, cells := 0, slots := 0, locals := 20 } : Room) s m args below meth c H locs 0 0 (MQ below (va_Qv (fun (u : PH) => u = out) (ph_B D cy b A fl) A) args s 0 0 A) (F0 m 0 ls []) := by
  unfold F3_findStruck_0 at f
  refine lv_aload_n S.1 S.2.1 dX3_findStruck_0 rfl (lv_at hl 0 rfl) ?_
  obtain ⟨o1, e2, f⟩ := ob f
  refine o_Vi S (As := []) (rest := []) (ci := 3) (M3_howManyKnown l D cy b A fl e2) gX3_findStruck_X3_howManyKnown rfl rfl rfl cd3_howManyKnown ⟨Nat.le_of_ble_eq_true rfl, Nat.le_of_ble_eq_true rfl⟩ I (gd e2).1 clX3 rfl rfl hl.1 rfl (Nat.le_of_ble_eq_true rfl) dX3_findStruck_1 ⟨Nat.le_of_ble_eq_true rfl, Nat.le_of_ble_eq_true rfl⟩ (fun H locs I => ?_)
  refine lv_istore_n (lv' := [(1, .int o1.1), (0, .ref (b + a0))]) S.1 S.2.1 dX3_findStruck_4 rfl hl (by decide) rfl (fun ls hl => ?_)
  refine lv_iconst (v := 0) S.1 S.2.1 dX3_findStruck_5 (by decide) ?_
  refine lv_istore_n (lv' := [(2, .int 0), (1, .int o1.1), (0, .ref (b + a0))]) S.1 S.2.1 dX3_findStruck_6 rfl hl (by decide) rfl (fun ls hl => ?_)
  exact T3_findStruck_7 S hr hlo  1024 f I (lv_sub hl [2, 1, 0] rfl)
theorem M3_findStruck (l : Launch) (D : va_G) (cy : Nat → ClassId) (b : Nat) (A : Nat → Prop) (fl : Bool) {h : PH} {a0 : Nat} {out : PH} (f : F3_findStruck h a0 = some out) : Met l yX3_findStruck vX3_findStruck ({ frames := 1, cells := 0, slots := 0, locals := 20 } : Room) (va_Pc [.ref (b + a0)] (ph_B D cy b A fl h)) (va_Qv (fun (u : PH) => u = out) (ph_B D cy b A fl) A) 0 0 A :=
  o_met (by decide) rfl (Nat.le_of_ble_eq_true rfl) rfl (fun p e s m below meth c S hr hlo hnm ls hl I => T3_findStruck_0 S hr hlo ((gd f).2) I (lv_sub hl [0] rfl))
def vX3_isKnownSeat : List Cond := .code yX3_isKnownSeat cX3_isKnownSeat 2 (some .boolean) :: TB
theorem lf3_isKnownSeat_28 : Fl vX3_isKnownSeat RX3 28 3 6 := ⟨RX3, TX3, 7, rfl, by decide, (fun w h9 => List.mem_cons_of_mem _ (wC_wsX30 w h9)), (List.mem_cons_of_mem _ wT_8_20)⟩
theorem lf3_isKnownSeat_25 : Fl vX3_isKnownSeat RX3 25 3 5 := ⟨RX3, TX3, 7, rfl, by decide, (fun w h9 => List.mem_cons_of_mem _ (wC_wsX30 w h9)), (List.mem_cons_of_mem _ wT_8_18)⟩
theorem cd3_isKnownSeat : Cd yX3_isKnownSeat 1 := ⟨by decide, by decide, by decide +kernel⟩
set_option maxHeartbeats 4000000 in
set_option maxRecDepth 100000 in
theorem T3_isKnownSeat_0 (S : CallFix p m c cX3_isKnownSeat 2 s args vX3_isKnownSeat RX3) (hr : meth.sig.returnType = (some .boolean)) (hlo : meth.locks = false) {out : Int32 × PH} {h : PH} {a0 : Nat} {x1 : Int32} (f : F3_isKnownSeat_0  h a0 x1 = some out) {H : Heap} {locs : List Loc} (I : ph_I D cy b A fl h s H locs) {ls : Array Slot} (hl : lv_has ls 2 [(0, .ref (b + a0)), (1, .int x1)]) : W p l e ({ frames := 0, cells := 0, slots := 0, locals := 0 } : Room) s m args below meth c H locs 0 0 (MQ below (va_Qi (fun (r : Int32) (u : PH) => (r, u) = out) (ph_B D cy b A fl) A) args s 0 0 A) (F0 m 0 ls []) := by
  unfold F3_isKnownSeat_0 at f
  refine lv_aload_n S.1 S.2.1 dX3_isKnownSeat_0 rfl (lv_at hl 0 rfl) ?_
  obtain ⟨r1, e2, f⟩ := ob f
  refine o_gR S lf3_isKnownSeat_28 I e2 dX3_isKnownSeat_1 ?_
  refine lv_iload_n S.1 S.2.1 dX3_isKnownSeat_4 rfl (lv_at hl 1 rfl) ?_
  obtain ⟨v4, e3, f⟩ := ob f
  refine o_zald S I e3 dX3_isKnownSeat_5 ?_
  refine lv_if_ne (tgt := 23) S.1 S.2.1 dX3_isKnownSeat_6 (by decide) (fun q5 => ?_) (fun q5 => ?_)
  · have f := (if_neg q5).symm.trans f
    refine lv_iconst (v := 0) S.1 S.2.1 dX3_isKnownSeat_23 (by decide) ?_
    exact o_zret S hr hlo I f dX3_isKnownSeat_24
  · have f := (if_pos q5).symm.trans f
    refine lv_aload_n S.1 S.2.1 dX3_isKnownSeat_9 rfl (lv_at hl 0 rfl) ?_
    obtain ⟨r6, e7, f⟩ := ob f
    refine o_gR S lf3_isKnownSeat_25 I e7 dX3_isKnownSeat_10 ?_
    refine lv_iload_n S.1 S.2.1 dX3_isKnownSeat_13 rfl (lv_at hl 1 rfl) ?_
    obtain ⟨v9, e8, f⟩ := ob f
    refine o_iald S I e8 dX3_isKnownSeat_14 ?_
    refine lv_iconst (v := (-1)) S.1 S.2.1 dX3_isKnownSeat_15 (by decide) ?_
    refine lv_icmp_ne (tgt := 23) S.1 S.2.1 dX3_isKnownSeat_16 (by decide) (fun q10 => ?_) (fun q10 => ?_)
    · have f := (if_neg q10).symm.trans f
      refine lv_iconst (v := 0) S.1 S.2.1 dX3_isKnownSeat_23 (by decide) ?_
      exact o_zret S hr hlo I f dX3_isKnownSeat_24
    · have f := (if_pos q10).symm.trans f
      refine lv_iconst (v := 1) S.1 S.2.1 dX3_isKnownSeat_19 (by decide) ?_
      refine lv_goto (tgt := 24) S.1 S.2.1 dX3_isKnownSeat_20 (by decide) ?_
      exact o_zret S hr hlo I f dX3_isKnownSeat_24
theorem M3_isKnownSeat (l : Launch) (D : va_G) (cy : Nat → ClassId) (b : Nat) (A : Nat → Prop) (fl : Bool) {h : PH} {a0 : Nat} {x1 : Int32} {out : Int32 × PH} (f : F3_isKnownSeat h a0 x1 = some out) : Met l yX3_isKnownSeat vX3_isKnownSeat ({ frames := 0, cells := 0, slots := 0, locals := 0 } : Room) (va_Pc [.ref (b + a0), .int x1] (ph_B D cy b A fl h)) (va_Qi (fun (r : Int32) (u : PH) => (r, u) = out) (ph_B D cy b A fl) A) 0 0 A :=
  o_met (by decide) rfl (Nat.le_of_ble_eq_true rfl) rfl (fun p e s m below meth c S hr hlo hnm ls hl I => T3_isKnownSeat_0 S hr hlo ((gd f).2) I (lv_sub hl [0, 1] rfl))
def vX4_begin : List Cond := .code yX4_begin cX4_begin 3 none :: TB
theorem lf4_begin_27 : Fl vX4_begin RX4 27 4 10 := ⟨RX4, TX4, 11, rfl, by decide, (fun w h9 => List.mem_cons_of_mem _ (wC_wsX40 w h9)), (List.mem_cons_of_mem _ wT_8_9)⟩
theorem lf4_begin_9 : Fl vX4_begin RX4 9 4 5 := ⟨RX4, TX4, 11, rfl, by decide, (fun w h9 => List.mem_cons_of_mem _ (wC_wsX40 w h9)), (List.mem_cons_of_mem _ wT_8_4)⟩
theorem lf4_begin_52 : Fl vX4_begin RX4 52 8 4 := ⟨RX8, TX8, 14, rfl, by decide, (fun w h9 => List.mem_cons_of_mem _ (wC_wsX80 w h9)), (List.mem_cons_of_mem _ wT_26_11)⟩
theorem lf4_begin_56 : Fl vX4_begin RX4 56 1 2 := ⟨RX1, TX1, 7, rfl, by decide, (fun w h9 => List.mem_cons_of_mem _ (wC_wsX10 w h9)), (List.mem_cons_of_mem _ wT_26_12)⟩
theorem lf4_begin_15 : Fl vX4_begin RX4 15 4 6 := ⟨RX4, TX4, 11, rfl, by decide, (fun w h9 => List.mem_cons_of_mem _ (wC_wsX40 w h9)), (List.mem_cons_of_mem _ wT_8_5)⟩
theorem lf4_begin_18 : Fl vX4_begin RX4 18 4 7 := ⟨RX4, TX4, 11, rfl, by decide, (fun w h9 => List.mem_cons_of_mem _ (wC_wsX40 w h9)), (List.mem_cons_of_mem _ wT_8_6)⟩
theorem lf4_begin_21 : Fl vX4_begin RX4 21 4 8 := ⟨RX4, TX4, 11, rfl, by decide, (fun w h9 => List.mem_cons_of_mem _ (wC_wsX40 w h9)), (List.mem_cons_of_mem _ wT_8_7)⟩
theorem lf4_begin_24 : Fl vX4_begin RX4 24 4 9 := ⟨RX4, TX4, 11, rfl, by decide, (fun w h9 => List.mem_cons_of_mem _ (wC_wsX40 w h9)), (List.mem_cons_of_mem _ wT_8_8)⟩
theorem lp4_begin_30 : Pl vX4_begin RX4 30 4 0 .int := ⟨RX4, TX4, 11, tyX4, rfl, by decide, (fun w h9 => List.mem_cons_of_mem _ (wC_wsX40 w h9)), (List.mem_cons_of_mem _ wT_26_4), tyX4_ok, nmX4, rfl, rfl⟩
theorem lf4_begin_34 : Fl vX4_begin RX4 34 8 9 := ⟨RX8, TX8, 14, rfl, by decide, (fun w h9 => List.mem_cons_of_mem _ (wC_wsX80 w h9)), (List.mem_cons_of_mem _ wT_26_5)⟩
theorem lp4_begin_39 : Pl vX4_begin RX4 39 4 1 .int := ⟨RX4, TX4, 11, tyX4, rfl, by decide, (fun w h9 => List.mem_cons_of_mem _ (wC_wsX40 w h9)), (List.mem_cons_of_mem _ wT_26_6), tyX4_ok, nmX4, rfl, rfl⟩
theorem lf4_begin_40 : Fl vX4_begin RX4 40 8 10 := ⟨RX8, TX8, 14, rfl, by decide, (fun w h9 => List.mem_cons_of_mem _ (wC_wsX80 w h9)), (List.mem_cons_of_mem _ wT_26_7)⟩
theorem lp4_begin_43 : Pl vX4_begin RX4 43 4 2 .int := ⟨RX4, TX4, 11, tyX4, rfl, by decide, (fun w h9 => List.mem_cons_of_mem _ (wC_wsX40 w h9)), (List.mem_cons_of_mem _ wT_26_8), tyX4_ok, nmX4, rfl, rfl⟩
theorem lp4_begin_46 : Pl vX4_begin RX4 46 4 3 .int := ⟨RX4, TX4, 11, tyX4, rfl, by decide, (fun w h9 => List.mem_cons_of_mem _ (wC_wsX40 w h9)), (List.mem_cons_of_mem _ wT_26_9), tyX4_ok, nmX4, rfl, rfl⟩
theorem lp4_begin_49 : Pl vX4_begin RX4 49 4 4 .int := ⟨RX4, TX4, 11, tyX4, rfl, by decide, (fun w h9 => List.mem_cons_of_mem _ (wC_wsX40 w h9)), (List.mem_cons_of_mem _ wT_26_10), tyX4_ok, nmX4, rfl, rfl⟩
theorem cd4_begin : Cd yX4_begin 1 := ⟨by decide, by decide, by decide +kernel⟩
set_option maxHeartbeats 4000000 in
set_option maxRecDepth 100000 in
theorem T4_begin_89 (S : CallFix p m c cX4_begin 3 s args vX4_begin RX4) (hr : meth.sig.returnType = none) (hlo : meth.locks = false) {out : PH} : ∀ (n : Nat) {h : PH} {a0 : Nat} {x2 : Int32} (f : F4_begin_89  n h a0 x2 = some out) {H : Heap} {locs : List Loc} (I : ph_I D cy b A fl h s H locs) {ls : Array Slot} (hl : lv_has ls 3 [(0, .ref (b + a0)), (2, .int x2)]), W p l e ({ frames := 0, cells := 0, slots := 0, locals := 0 } : Room) s m args below meth c H locs 0 0 (MQ below (va_Qv (fun (u : PH) => u = out) (ph_B D cy b A fl) A) args s 0 0 A) (F0 m 89 ls []) := by
  intro n
  induction n with
  | zero => intro h a0 x2 f; rw [F4_begin_89] at f; cases f
  | succ n ih =>
    intro h a0 x2 f H locs I ls hl
    rw [F4_begin_89] at f
    refine lv_iload_n S.1 S.2.1 dX4_begin_89 rfl (lv_at hl 1 rfl) ?_
    refine lv_bipush (v := 28) S.1 S.2.1 dX4_begin_90 (by decide) ?_
    refine lv_icmp_ge (tgt := 109) S.1 S.2.1 dX4_begin_92 (by decide) (fun q1 => ?_) (fun q1 => ?_)
    · have f := (if_pos q1).symm.trans f
      exact o_vret S hr hlo I f dX4_begin_109
    · have f := (if_neg q1).symm.trans f
      refine lv_aload_n S.1 S.2.1 dX4_begin_95 rfl (lv_at hl 0 rfl) ?_
      obtain ⟨r2, e3, f⟩ := ob f
      refine o_gR S lf4_begin_27 I e3 dX4_begin_96 ?_
      refine lv_iload_n S.1 S.2.1 dX4_begin_99 rfl (lv_at hl 1 rfl) ?_
      refine lv_bipush (v := (-2)) S.1 S.2.1 dX4_begin_100 (by decide) ?_
      obtain ⟨h5, e4, f⟩ := ob f
      refine o_iast S I e4 dX4_begin_102 (fun H locs I => ?_)
      refine lv_iinc (v := (x2 + 1)) (lv' := [(2, .int (x2 + 1)), (0, .ref (b + a0))]) S.1 S.2.1 dX4_begin_103 hl (k := 1) rfl (congrArg (fun z => x2 + z) (by decide)) (by decide) rfl (fun ls hl => ?_)
      refine lv_goto (tgt := 89) S.1 S.2.1 dX4_begin_106 (by decide) ?_
      exact ih f I (lv_sub hl [1, 0] rfl)
set_option maxHeartbeats 4000000 in
set_option maxRecDepth 100000 in
theorem T4_begin_33 (S : CallFix p m c cX4_begin 3 s args vX4_begin RX4) (hr : meth.sig.returnType = none) (hlo : meth.locks = false) {out : PH} : ∀ (n : Nat) {h : PH} {a0 : Nat} {a1 : Nat} {x2 : Int32} (f : F4_begin_33  n h a0 a1 x2 = some out) {H : Heap} {locs : List Loc} (I : ph_I D cy b A fl h s H locs) {ls : Array Slot} (hl : lv_has ls 3 [(0, .ref (b + a0)), (1, .ref (b + a1)), (2, .int x2)]), W p l e ({ frames := 0, cells := 0, slots := 0, locals := 0 } : Room) s m args below meth c H locs 0 0 (MQ below (va_Qv (fun (u : PH) => u = out) (ph_B D cy b A fl) A) args s 0 0 A) (F0 m 33 ls []) := by
  intro n
  induction n with
  | zero => intro h a0 a1 x2 f; rw [F4_begin_33] at f; cases f
  | succ n ih =>
    intro h a0 a1 x2 f H locs I ls hl
    rw [F4_begin_33] at f
    refine lv_iload_n S.1 S.2.1 dX4_begin_33 rfl (lv_at hl 2 rfl) ?_
    refine lv_iconst (v := 5) S.1 S.2.1 dX4_begin_34 (by decide) ?_
    refine lv_icmp_ge (tgt := 87) S.1 S.2.1 dX4_begin_35 (by decide) (fun q1 => ?_) (fun q1 => ?_)
    · have f := (if_pos q1).symm.trans f
      refine lv_iconst (v := 0) S.1 S.2.1 dX4_begin_87 (by decide) ?_
      refine lv_istore_n (lv' := [(2, .int 0), (0, .ref (b + a0)), (1, .ref (b + a1))]) S.1 S.2.1 dX4_begin_88 rfl hl (by decide) rfl (fun ls hl => ?_)
      exact T4_begin_89 S hr hlo  1024 f I (lv_sub hl [1, 0] rfl)
    · have f := (if_neg q1).symm.trans f
      refine lv_aload_n S.1 S.2.1 dX4_begin_38 rfl (lv_at hl 0 rfl) ?_
      obtain ⟨r2, e3, f⟩ := ob f
      refine o_gR S lf4_begin_9 I e3 dX4_begin_39 ?_
      refine lv_iload_n S.1 S.2.1 dX4_begin_42 rfl (lv_at hl 2 rfl) ?_
      refine lv_aload_n S.1 S.2.1 dX4_begin_43 rfl (lv_at hl 1 rfl) ?_
      obtain ⟨r4, e5, f⟩ := ob f
      refine o_gR S lf4_begin_52 I e5 dX4_begin_44 ?_
      obtain ⟨r6, e7, f⟩ := ob f
      refine o_gR S lf4_begin_56 I e7 dX4_begin_47 ?_
      refine lv_iload_n S.1 S.2.1 dX4_begin_50 rfl (lv_at hl 2 rfl) ?_
      obtain ⟨v9, e8, f⟩ := ob f
      refine o_iald S I e8 dX4_begin_51 ?_
      obtain ⟨h11, e10, f⟩ := ob f
      refine o_iast S I e10 dX4_begin_52 (fun H locs I => ?_)
      refine lv_aload_n S.1 S.2.1 dX4_begin_53 rfl (lv_at hl 0 rfl) ?_
      obtain ⟨r12, e13, f⟩ := ob f
      refine o_gR S lf4_begin_15 I e13 dX4_begin_54 ?_
      refine lv_iload_n S.1 S.2.1 dX4_begin_57 rfl (lv_at hl 2 rfl) ?_
      refine lv_iconst (v := 0) S.1 S.2.1 dX4_begin_58 (by decide) ?_
      obtain ⟨h15, e14, f⟩ := ob f
      refine o_iast S I e14 dX4_begin_59 (fun H locs I => ?_)
      refine lv_aload_n S.1 S.2.1 dX4_begin_60 rfl (lv_at hl 0 rfl) ?_
      obtain ⟨r16, e17, f⟩ := ob f
      refine o_gR S lf4_begin_18 I e17 dX4_begin_61 ?_
      refine lv_iload_n S.1 S.2.1 dX4_begin_64 rfl (lv_at hl 2 rfl) ?_
      refine lv_iconst (v := 0) S.1 S.2.1 dX4_begin_65 (by decide) ?_
      obtain ⟨h19, e18, f⟩ := ob f
      refine o_iast S I e18 dX4_begin_66 (fun H locs I => ?_)
      refine lv_aload_n S.1 S.2.1 dX4_begin_67 rfl (lv_at hl 0 rfl) ?_
      obtain ⟨r20, e21, f⟩ := ob f
      refine o_gR S lf4_begin_21 I e21 dX4_begin_68 ?_
      refine lv_iload_n S.1 S.2.1 dX4_begin_71 rfl (lv_at hl 2 rfl) ?_
      refine lv_iconst (v := 0) S.1 S.2.1 dX4_begin_72 (by decide) ?_
      obtain ⟨h23, e22, f⟩ := ob f
      refine o_iast S I e22 dX4_begin_73 (fun H locs I => ?_)
      refine lv_aload_n S.1 S.2.1 dX4_begin_74 rfl (lv_at hl 0 rfl) ?_
      obtain ⟨r24, e25, f⟩ := ob f
      refine o_gR S lf4_begin_24 I e25 dX4_begin_75 ?_
      refine lv_iload_n S.1 S.2.1 dX4_begin_78 rfl (lv_at hl 2 rfl) ?_
      refine lv_iconst (v := 0) S.1 S.2.1 dX4_begin_79 (by decide) ?_
      obtain ⟨h27, e26, f⟩ := ob f
      refine o_iast S I e26 dX4_begin_80 (fun H locs I => ?_)
      refine lv_iinc (v := (x2 + 1)) (lv' := [(2, .int (x2 + 1)), (0, .ref (b + a0)), (1, .ref (b + a1))]) S.1 S.2.1 dX4_begin_81 hl (k := 2) rfl (congrArg (fun z => x2 + z) (by decide)) (by decide) rfl (fun ls hl => ?_)
      refine lv_goto (tgt := 33) S.1 S.2.1 dX4_begin_84 (by decide) ?_
      exact ih f I (lv_sub hl [1, 2, 0] rfl)
set_option maxHeartbeats 4000000 in
set_option maxRecDepth 100000 in
theorem T4_begin_0 (S : CallFix p m c cX4_begin 3 s args vX4_begin RX4) (hr : meth.sig.returnType = none) (hlo : meth.locks = false) {out : PH} {h : PH} {a0 : Nat} {a1 : Nat} (f : F4_begin_0  h a0 a1 = some out) {H : Heap} {locs : List Loc} (I : ph_I D cy b A fl h s H locs) {ls : Array Slot} (hl : lv_has ls 3 [(0, .ref (b + a0)), (1, .ref (b + a1))]) : W p l e ({ frames := 0, cells := 0, slots := 0, locals := 0 } : Room) s m args below meth c H locs 0 0 (MQ below (va_Qv (fun (u : PH) => u = out) (ph_B D cy b A fl) A) args s 0 0 A) (F0 m 0 ls []) := by
  unfold F4_begin_0 at f
  refine lv_aload_n S.1 S.2.1 dX4_begin_0 rfl (lv_at hl 0 rfl) ?_
  refine lv_iconst (v := 0) S.1 S.2.1 dX4_begin_1 (by decide) ?_
  obtain ⟨h1, e2, f⟩ := ob f
  refine o_pI S lp4_begin_30 I e2 dX4_begin_2 (fun H locs I => ?_)
  refine lv_aload_n S.1 S.2.1 dX4_begin_5 rfl (lv_at hl 0 rfl) ?_
  refine lv_aload_n S.1 S.2.1 dX4_begin_6 rfl (lv_at hl 1 rfl) ?_
  obtain ⟨v3, e4, f⟩ := ob f
  refine o_gI S lf4_begin_34 I e4 dX4_begin_7 ?_
  obtain ⟨h5, e6, f⟩ := ob f
  refine o_pI S lp4_begin_39 I e6 dX4_begin_10 (fun H locs I => ?_)
  refine lv_aload_n S.1 S.2.1 dX4_begin_13 rfl (lv_at hl 0 rfl) ?_
  refine lv_aload_n S.1 S.2.1 dX4_begin_14 rfl (lv_at hl 1 rfl) ?_
  obtain ⟨v7, e8, f⟩ := ob f
  refine o_gI S lf4_begin_40 I e8 dX4_begin_15 ?_
  obtain ⟨h9, e10, f⟩ := ob f
  refine o_pI S lp4_begin_43 I e10 dX4_begin_18 (fun H locs I => ?_)
  refine lv_aload_n S.1 S.2.1 dX4_begin_21 rfl (lv_at hl 0 rfl) ?_
  refine lv_iconst (v := 0) S.1 S.2.1 dX4_begin_22 (by decide) ?_
  obtain ⟨h11, e12, f⟩ := ob f
  refine o_pI S lp4_begin_46 I e12 dX4_begin_23 (fun H locs I => ?_)
  refine lv_aload_n S.1 S.2.1 dX4_begin_26 rfl (lv_at hl 0 rfl) ?_
  refine lv_iconst (v := 0) S.1 S.2.1 dX4_begin_27 (by decide) ?_
  obtain ⟨h13, e14, f⟩ := ob f
  refine o_pI S lp4_begin_49 I e14 dX4_begin_28 (fun H locs I => ?_)
  refine lv_iconst (v := 0) S.1 S.2.1 dX4_begin_31 (by decide) ?_
  refine lv_istore_n (lv' := [(2, .int 0), (0, .ref (b + a0)), (1, .ref (b + a1))]) S.1 S.2.1 dX4_begin_32 rfl hl (by decide) rfl (fun ls hl => ?_)
  exact T4_begin_33 S hr hlo  1024 f I (lv_sub hl [1, 2, 0] rfl)
theorem M4_begin (l : Launch) (D : va_G) (cy : Nat → ClassId) (b : Nat) (A : Nat → Prop) (fl : Bool) {h : PH} {a0 : Nat} {a1 : Nat} {out : PH} (f : F4_begin h a0 a1 = some out) : Met l yX4_begin vX4_begin ({ frames := 0, cells := 0, slots := 0, locals := 0 } : Room) (va_Pc [.ref (b + a0), .ref (b + a1)] (ph_B D cy b A fl h)) (va_Qv (fun (u : PH) => u = out) (ph_B D cy b A fl) A) 0 0 A :=
  o_met (by decide) rfl (Nat.le_of_ble_eq_true rfl) rfl (fun p e s m below meth c S hr hlo hnm ls hl I => T4_begin_0 S hr hlo ((gd f).2) I (lv_sub hl [0, 1] rfl))
def vX4_isIn : List Cond := .code yX4_isIn cX4_isIn 3 (some .boolean) :: TB
theorem lf4_isIn_21 : Fl vX4_isIn RX4 21 4 8 := ⟨RX4, TX4, 11, rfl, by decide, (fun w h9 => List.mem_cons_of_mem _ (wC_wsX40 w h9)), (List.mem_cons_of_mem _ wT_8_7)⟩
theorem cd4_isIn : Cd yX4_isIn 2 := ⟨by decide, by decide, by decide +kernel⟩
set_option maxHeartbeats 4000000 in
set_option maxRecDepth 100000 in
theorem T4_isIn_0 (S : CallFix p m c cX4_isIn 3 s args vX4_isIn RX4) (hr : meth.sig.returnType = (some .boolean)) (hlo : meth.locks = false) {out : Int32 × PH} {h : PH} {a0 : Nat} {x1 : Int32} {x2 : Int32} (f : F4_isIn_0  h a0 x1 x2 = some out) {H : Heap} {locs : List Loc} (I : ph_I D cy b A fl h s H locs) {ls : Array Slot} (hl : lv_has ls 3 [(0, .ref (b + a0)), (1, .int x1), (2, .int x2)]) : W p l e ({ frames := 0, cells := 0, slots := 0, locals := 0 } : Room) s m args below meth c H locs 0 0 (MQ below (va_Qi (fun (r : Int32) (u : PH) => (r, u) = out) (ph_B D cy b A fl) A) args s 0 0 A) (F0 m 0 ls []) := by
  unfold F4_isIn_0 at f
  refine lv_aload_n S.1 S.2.1 dX4_isIn_0 rfl (lv_at hl 0 rfl) ?_
  obtain ⟨r1, e2, f⟩ := ob f
  refine o_gR S lf4_isIn_21 I e2 dX4_isIn_1 ?_
  refine lv_iload_n S.1 S.2.1 dX4_isIn_4 rfl (lv_at hl 1 rfl) ?_
  obtain ⟨v4, e3, f⟩ := ob f
  refine o_iald S I e3 dX4_isIn_5 ?_
  refine lv_iload_n S.1 S.2.1 dX4_isIn_6 rfl (lv_at hl 2 rfl) ?_
  refine lv_icmp_gt (tgt := 14) S.1 S.2.1 dX4_isIn_7 (by decide) (fun q5 => ?_) (fun q5 => ?_)
  · have f := (if_pos q5).symm.trans f
    refine lv_iconst (v := 0) S.1 S.2.1 dX4_isIn_14 (by decide) ?_
    exact o_zret S hr hlo I f dX4_isIn_15
  · have f := (if_neg q5).symm.trans f
    refine lv_iconst (v := 1) S.1 S.2.1 dX4_isIn_10 (by decide) ?_
    refine lv_goto (tgt := 15) S.1 S.2.1 dX4_isIn_11 (by decide) ?_
    exact o_zret S hr hlo I f dX4_isIn_15
theorem M4_isIn (l : Launch) (D : va_G) (cy : Nat → ClassId) (b : Nat) (A : Nat → Prop) (fl : Bool) {h : PH} {a0 : Nat} {x1 : Int32} {x2 : Int32} {out : Int32 × PH} (f : F4_isIn h a0 x1 x2 = some out) : Met l yX4_isIn vX4_isIn ({ frames := 0, cells := 0, slots := 0, locals := 0 } : Room) (va_Pc [.ref (b + a0), .int x1, .int x2] (ph_B D cy b A fl h)) (va_Qi (fun (r : Int32) (u : PH) => (r, u) = out) (ph_B D cy b A fl) A) 0 0 A :=
  o_met (by decide) rfl (Nat.le_of_ble_eq_true rfl) rfl (fun p e s m below meth c S hr hlo hnm ls hl I => T4_isIn_0 S hr hlo ((gd f).2) I (lv_sub hl [0, 1, 2] rfl))
def vX4_beginMinute : List Cond := .code yX4_beginMinute cX4_beginMinute 3 none :: TB
theorem lf4_beginMinute_24 : Fl vX4_beginMinute RX4 24 4 9 := ⟨RX4, TX4, 11, rfl, by decide, (fun w h9 => List.mem_cons_of_mem _ (wC_wsX40 w h9)), (List.mem_cons_of_mem _ wT_8_8)⟩
theorem lf4_beginMinute_30 : Fl vX4_beginMinute RX4 30 4 0 := ⟨RX4, TX4, 11, rfl, by decide, (fun w h9 => List.mem_cons_of_mem _ (wC_wsX40 w h9)), (List.mem_cons_of_mem _ wT_26_4)⟩
theorem gX4_beginMinute_X4_isIn : GoodIn vX4_beginMinute (wsV RX4 72 RX4 yX4_isIn vX4_isIn) := gV_of wT_46_8 wT_41_22 wT_41_23 wT_2_7 wT_42_0
theorem lf4_beginMinute_21 : Fl vX4_beginMinute RX4 21 4 8 := ⟨RX4, TX4, 11, rfl, by decide, (fun w h9 => List.mem_cons_of_mem _ (wC_wsX40 w h9)), (List.mem_cons_of_mem _ wT_8_7)⟩
theorem lp4_beginMinute_30 : Pl vX4_beginMinute RX4 30 4 0 .int := ⟨RX4, TX4, 11, tyX4, rfl, by decide, (fun w h9 => List.mem_cons_of_mem _ (wC_wsX40 w h9)), (List.mem_cons_of_mem _ wT_26_4), tyX4_ok, nmX4, rfl, rfl⟩
theorem cd4_beginMinute : Cd yX4_beginMinute 1 := ⟨by decide, by decide, by decide +kernel⟩
set_option maxHeartbeats 4000000 in
set_option maxRecDepth 100000 in
theorem T4_beginMinute_36 (S : CallFix p m c cX4_beginMinute 3 s args vX4_beginMinute RX4) (hr : meth.sig.returnType = none) (hlo : meth.locks = false) {out : PH} {k12 : PH → Nat → Int32 → Int32 → Option (PH)} (hk12 : ∀ {h : PH} {a0 : Nat} {x1 : Int32} {x2 : Int32}, k12 h a0 x1 x2 = some out → ∀ (H : Heap) (locs : List Loc), ph_I D cy b A fl h s H locs → ∀ (ls : Array Slot), lv_has ls 3 [(0, .ref (b + a0)), (1, .int x1), (2, .int x2)] → W p l e ({ frames := 1, cells := 0, slots := 0, locals := 22 } : Room) s m args below meth c H locs 0 0 (MQ below (va_Qv (fun (u : PH) => u = out) (ph_B D cy b A fl) A) args s 0 0 A) (F0 m 12 ls [])) {h : PH} {a0 : Nat} {x1 : Int32} {x2 : Int32} (f : F4_beginMinute_36 k12 h a0 x1 x2 = some out) {H : Heap} {locs : List Loc} (I : ph_I D cy b A fl h s H locs) {ls : Array Slot} (hl : lv_has ls 3 [(0, .ref (b + a0)), (1, .int x1), (2, .int x2)]) : W p l e ({ frames := 1, cells := 0, slots := 0, locals := 22 } : Room) s m args below meth c H locs 0 0 (MQ below (va_Qv (fun (u : PH) => u = out) (ph_B D cy b A fl) A) args s 0 0 A) (F0 m 36 ls []) := by
  unfold F4_beginMinute_36 at f
  refine lv_aload_n S.1 S.2.1 dX4_beginMinute_36 rfl (lv_at hl 0 rfl) ?_
  obtain ⟨r1, e2, f⟩ := ob f
  refine o_gR S lf4_beginMinute_24 I e2 dX4_beginMinute_37 ?_
  refine lv_iload_n S.1 S.2.1 dX4_beginMinute_40 rfl (lv_at hl 2 rfl) ?_
  refine lv_iconst (v := 0) S.1 S.2.1 dX4_beginMinute_41 (by decide) ?_
  obtain ⟨h4, e3, f⟩ := ob f
  refine o_iast S I e3 dX4_beginMinute_42 (fun H locs I => ?_)
  refine lv_iinc (v := (x2 + 1)) (lv' := [(2, .int (x2 + 1)), (0, .ref (b + a0)), (1, .int x1)]) S.1 S.2.1 dX4_beginMinute_43 hl (k := 2) rfl (congrArg (fun z => x2 + z) (by decide)) (by decide) rfl (fun ls hl => ?_)
  refine lv_goto (tgt := 12) S.1 S.2.1 dX4_beginMinute_46 (by decide) ?_
  exact hk12 f _ _ I _ (lv_sub hl [1, 2, 0] rfl)
set_option maxHeartbeats 4000000 in
set_option maxRecDepth 100000 in
theorem T4_beginMinute_12 (S : CallFix p m c cX4_beginMinute 3 s args vX4_beginMinute RX4) (hr : meth.sig.returnType = none) (hlo : meth.locks = false) {out : PH} : ∀ (n : Nat) {h : PH} {a0 : Nat} {x1 : Int32} {x2 : Int32} (f : F4_beginMinute_12  n h a0 x1 x2 = some out) {H : Heap} {locs : List Loc} (I : ph_I D cy b A fl h s H locs) {ls : Array Slot} (hl : lv_has ls 3 [(0, .ref (b + a0)), (1, .int x1), (2, .int x2)]), W p l e ({ frames := 1, cells := 0, slots := 0, locals := 22 } : Room) s m args below meth c H locs 0 0 (MQ below (va_Qv (fun (u : PH) => u = out) (ph_B D cy b A fl) A) args s 0 0 A) (F0 m 12 ls []) := by
  intro n
  induction n with
  | zero => intro h a0 x1 x2 f; rw [F4_beginMinute_12] at f; cases f
  | succ n ih =>
    intro h a0 x1 x2 f H locs I ls hl
    rw [F4_beginMinute_12] at f
    refine lv_iload_n S.1 S.2.1 dX4_beginMinute_12 rfl (lv_at hl 2 rfl) ?_
    refine lv_iload_n S.1 S.2.1 dX4_beginMinute_13 rfl (lv_at hl 1 rfl) ?_
    refine lv_icmp_ge (tgt := 49) S.1 S.2.1 dX4_beginMinute_14 (by decide) (fun q1 => ?_) (fun q1 => ?_)
    · have f := (if_pos q1).symm.trans f
      exact o_vret S hr hlo I f dX4_beginMinute_49
    · have f := (if_neg q1).symm.trans f
      refine lv_aload_n S.1 S.2.1 dX4_beginMinute_17 rfl (lv_at hl 0 rfl) ?_
      refine lv_iload_n S.1 S.2.1 dX4_beginMinute_18 rfl (lv_at hl 2 rfl) ?_
      refine lv_aload_n S.1 S.2.1 dX4_beginMinute_19 rfl (lv_at hl 0 rfl) ?_
      obtain ⟨v2, e3, f⟩ := ob f
      refine o_gI S lf4_beginMinute_30 I e3 dX4_beginMinute_20 ?_
      obtain ⟨o4, e5, f⟩ := ob f
      refine o_Vi S (As := [.int x2, .int v2]) (rest := []) (ci := 4) (M4_isIn l D cy b A fl e5) gX4_beginMinute_X4_isIn rfl rfl rfl cd4_isIn ⟨Nat.le_of_ble_eq_true rfl, Nat.le_of_ble_eq_true rfl⟩ I (gd e5).1 clX4 rfl rfl hl.1 rfl (Nat.le_of_ble_eq_true rfl) dX4_beginMinute_23 ⟨Nat.le_of_ble_eq_true rfl, Nat.le_of_ble_eq_true rfl⟩ (fun H locs I => ?_)
      refine lv_if_eq (tgt := 36) S.1 S.2.1 dX4_beginMinute_26 (by decide) (fun q6 => ?_) (fun q6 => ?_)
      · have f := (if_pos q6).symm.trans f
        exact T4_beginMinute_36 S hr hlo (fun f _ _ I _ hl => ih f I hl) f I (lv_sub hl [0, 1, 2] rfl)
      · have f := (if_neg q6).symm.trans f
        refine lv_aload_n S.1 S.2.1 dX4_beginMinute_29 rfl (lv_at hl 0 rfl) ?_
        obtain ⟨r7, e8, f⟩ := ob f
        refine o_gR S lf4_beginMinute_21 I e8 dX4_beginMinute_30 ?_
        refine lv_iload_n S.1 S.2.1 dX4_beginMinute_33 rfl (lv_at hl 2 rfl) ?_
        refine lv_iconst (v := 0) S.1 S.2.1 dX4_beginMinute_34 (by decide) ?_
        obtain ⟨h10, e9, f⟩ := ob f
        refine o_iast S I e9 dX4_beginMinute_35 (fun H locs I => ?_)
        exact T4_beginMinute_36 S hr hlo (fun f _ _ I _ hl => ih f I hl) f I (lv_sub hl [0, 1, 2] rfl)
set_option maxHeartbeats 4000000 in
set_option maxRecDepth 100000 in
theorem T4_beginMinute_0 (S : CallFix p m c cX4_beginMinute 3 s args vX4_beginMinute RX4) (hr : meth.sig.returnType = none) (hlo : meth.locks = false) {out : PH} {h : PH} {a0 : Nat} {x1 : Int32} (f : F4_beginMinute_0  h a0 x1 = some out) {H : Heap} {locs : List Loc} (I : ph_I D cy b A fl h s H locs) {ls : Array Slot} (hl : lv_has ls 3 [(0, .ref (b + a0)), (1, .int x1)]) : W p l e ({ frames := 1, cells := 0, slots := 0, locals := 22 } : Room) s m args below meth c H locs 0 0 (MQ below (va_Qv (fun (u : PH) => u = out) (ph_B D cy b A fl) A) args s 0 0 A) (F0 m 0 ls []) := by
  unfold F4_beginMinute_0 at f
  refine lv_aload_n S.1 S.2.1 dX4_beginMinute_0 rfl (lv_at hl 0 rfl) ?_
  refine lv_dup S.1 S.2.1 dX4_beginMinute_1 rfl ?_
  obtain ⟨v1, e2, f⟩ := ob f
  refine o_gI S lf4_beginMinute_30 I e2 dX4_beginMinute_2 ?_
  refine lv_iconst (v := 1) S.1 S.2.1 dX4_beginMinute_5 (by decide) ?_
  refine lv_iadd S.1 S.2.1 dX4_beginMinute_6 ?_
  obtain ⟨h3, e4, f⟩ := ob f
  refine o_pI S lp4_beginMinute_30 I e4 dX4_beginMinute_7 (fun H locs I => ?_)
  refine lv_iconst (v := 0) S.1 S.2.1 dX4_beginMinute_10 (by decide) ?_
  refine lv_istore_n (lv' := [(2, .int 0), (0, .ref (b + a0)), (1, .int x1)]) S.1 S.2.1 dX4_beginMinute_11 rfl hl (by decide) rfl (fun ls hl => ?_)
  exact T4_beginMinute_12 S hr hlo  1024 f I (lv_sub hl [1, 2, 0] rfl)
theorem M4_beginMinute (l : Launch) (D : va_G) (cy : Nat → ClassId) (b : Nat) (A : Nat → Prop) (fl : Bool) {h : PH} {a0 : Nat} {x1 : Int32} {out : PH} (f : F4_beginMinute h a0 x1 = some out) : Met l yX4_beginMinute vX4_beginMinute ({ frames := 1, cells := 0, slots := 0, locals := 22 } : Room) (va_Pc [.ref (b + a0), .int x1] (ph_B D cy b A fl h)) (va_Qv (fun (u : PH) => u = out) (ph_B D cy b A fl) A) 0 0 A :=
  o_met (by decide) rfl (Nat.le_of_ble_eq_true rfl) rfl (fun p e s m below meth c S hr hlo hnm ls hl I => T4_beginMinute_0 S hr hlo ((gd f).2) I (lv_sub hl [0, 1] rfl))
def vX4_drawHundredth : List Cond := .code yX4_drawHundredth cX4_drawHundredth 1 (some .int) :: TB
theorem lf4_drawHundredth_43 : Fl vX4_drawHundredth RX4 43 4 2 := ⟨RX4, TX4, 11, rfl, by decide, (fun w h9 => List.mem_cons_of_mem _ (wC_wsX40 w h9)), (List.mem_cons_of_mem _ wT_26_8)⟩
theorem lp4_drawHundredth_43 : Pl vX4_drawHundredth RX4 43 4 2 .int := ⟨RX4, TX4, 11, tyX4, rfl, by decide, (fun w h9 => List.mem_cons_of_mem _ (wC_wsX40 w h9)), (List.mem_cons_of_mem _ wT_26_8), tyX4_ok, nmX4, rfl, rfl⟩
theorem cd4_drawHundredth : Cd yX4_drawHundredth 0 := ⟨by decide, by decide, by decide +kernel⟩
set_option maxHeartbeats 4000000 in
set_option maxRecDepth 100000 in
theorem T4_drawHundredth_0 (S : CallFix p m c cX4_drawHundredth 1 s args vX4_drawHundredth RX4) (hr : meth.sig.returnType = (some .int)) (hlo : meth.locks = false) {out : Int32 × PH} {h : PH} {a0 : Nat} (f : F4_drawHundredth_0  h a0 = some out) {H : Heap} {locs : List Loc} (I : ph_I D cy b A fl h s H locs) {ls : Array Slot} (hl : lv_has ls 1 [(0, .ref (b + a0))]) : W p l e ({ frames := 0, cells := 0, slots := 0, locals := 0 } : Room) s m args below meth c H locs 0 0 (MQ below (va_Qi (fun (r : Int32) (u : PH) => (r, u) = out) (ph_B D cy b A fl) A) args s 0 0 A) (F0 m 0 ls []) := by
  unfold F4_drawHundredth_0 at f
  refine lv_aload_n S.1 S.2.1 dX4_drawHundredth_0 rfl (lv_at hl 0 rfl) ?_
  refine lv_aload_n S.1 S.2.1 dX4_drawHundredth_1 rfl (lv_at hl 0 rfl) ?_
  obtain ⟨v1, e2, f⟩ := ob f
  refine o_gI S lf4_drawHundredth_43 I e2 dX4_drawHundredth_2 ?_
  refine lv_i2l (v := Int32.toInt64 v1) S.1 S.2.1 dX4_drawHundredth_5 rfl ?_
  refine lv_ldc2 (v := 1103515245) S.1 S.2.1 S.2.2.2.1 (S.2.2.2.2 _ (List.mem_cons_of_mem _ wT_45_11)) dX4_drawHundredth_6 ?_
  refine lv_lmul S.1 S.2.1 dX4_drawHundredth_9 ?_
  refine lv_ldc2 (v := 12345) S.1 S.2.1 S.2.2.2.1 (S.2.2.2.2 _ (List.mem_cons_of_mem _ wT_45_12)) dX4_drawHundredth_10 ?_
  refine lv_ladd S.1 S.2.1 dX4_drawHundredth_13 ?_
  refine lv_ldc2 (v := 2147483647) S.1 S.2.1 S.2.2.2.1 (S.2.2.2.2 _ (List.mem_cons_of_mem _ wT_45_13)) dX4_drawHundredth_14 ?_
  refine lv_land S.1 S.2.1 dX4_drawHundredth_17 ?_
  refine lv_l2i (v := Int64.toInt32 ((((Int32.toInt64 v1) * (1103515245 : Int64)) + (12345 : Int64)) &&& (2147483647 : Int64))) S.1 S.2.1 dX4_drawHundredth_18 rfl ?_
  obtain ⟨h3, e4, f⟩ := ob f
  refine o_pI S lp4_drawHundredth_43 I e4 dX4_drawHundredth_19 (fun H locs I => ?_)
  refine lv_aload_n S.1 S.2.1 dX4_drawHundredth_22 rfl (lv_at hl 0 rfl) ?_
  obtain ⟨v5, e6, f⟩ := ob f
  refine o_gI S lf4_drawHundredth_43 I e6 dX4_drawHundredth_23 ?_
  refine lv_bipush (v := 16) S.1 S.2.1 dX4_drawHundredth_26 (by decide) ?_
  refine lv_ishr S.1 S.2.1 dX4_drawHundredth_28 ?_
  refine lv_bipush (v := 100) S.1 S.2.1 dX4_drawHundredth_29 (by decide) ?_
  refine lv_irem S.1 S.2.1 dX4_drawHundredth_31 (by decide) ?_
  exact o_iret S hr hlo I f dX4_drawHundredth_32
theorem M4_drawHundredth (l : Launch) (D : va_G) (cy : Nat → ClassId) (b : Nat) (A : Nat → Prop) (fl : Bool) {h : PH} {a0 : Nat} {out : Int32 × PH} (f : F4_drawHundredth h a0 = some out) : Met l yX4_drawHundredth vX4_drawHundredth ({ frames := 0, cells := 0, slots := 0, locals := 0 } : Room) (va_Pc [.ref (b + a0)] (ph_B D cy b A fl h)) (va_Qi (fun (r : Int32) (u : PH) => (r, u) = out) (ph_B D cy b A fl) A) 0 0 A :=
  o_met (by decide) rfl (Nat.le_of_ble_eq_true rfl) rfl (fun p e s m below meth c S hr hlo hnm ls hl I => T4_drawHundredth_0 S hr hlo ((gd f).2) I (lv_sub hl [0] rfl))
def vX4_hadInSum : List Cond := .code yX4_hadInSum cX4_hadInSum 4 (some .int) :: TB
theorem lf4_hadInSum_15 : Fl vX4_hadInSum RX4 15 4 6 := ⟨RX4, TX4, 11, rfl, by decide, (fun w h9 => List.mem_cons_of_mem _ (wC_wsX40 w h9)), (List.mem_cons_of_mem _ wT_8_5)⟩
theorem cd4_hadInSum : Cd yX4_hadInSum 1 := ⟨by decide, by decide, by decide +kernel⟩
set_option maxHeartbeats 4000000 in
set_option maxRecDepth 100000 in
theorem T4_hadInSum_4 (S : CallFix p m c cX4_hadInSum 4 s args vX4_hadInSum RX4) (hr : meth.sig.returnType = (some .int)) (hlo : meth.locks = false) {out : Int32 × PH} : ∀ (n : Nat) {h : PH} {a0 : Nat} {x1 : Int32} {x2 : Int32} {x3 : Int32} (f : F4_hadInSum_4  n h a0 x1 x2 x3 = some out) {H : Heap} {locs : List Loc} (I : ph_I D cy b A fl h s H locs) {ls : Array Slot} (hl : lv_has ls 4 [(0, .ref (b + a0)), (1, .int x1), (2, .int x2), (3, .int x3)]), W p l e ({ frames := 0, cells := 0, slots := 0, locals := 0 } : Room) s m args below meth c H locs 0 0 (MQ below (va_Qi (fun (r : Int32) (u : PH) => (r, u) = out) (ph_B D cy b A fl) A) args s 0 0 A) (F0 m 4 ls []) := by
  intro n
  induction n with
  | zero => intro h a0 x1 x2 x3 f; rw [F4_hadInSum_4] at f; cases f
  | succ n ih =>
    intro h a0 x1 x2 x3 f H locs I ls hl
    rw [F4_hadInSum_4] at f
    refine lv_iload_n S.1 S.2.1 dX4_hadInSum_4 rfl (lv_at hl 3 rfl) ?_
    refine lv_iload_n S.1 S.2.1 dX4_hadInSum_5 rfl (lv_at hl 1 rfl) ?_
    refine lv_icmp_ge (tgt := 24) S.1 S.2.1 dX4_hadInSum_6 (by decide) (fun q1 => ?_) (fun q1 => ?_)
    · have f := (if_pos q1).symm.trans f
      refine lv_iload_n S.1 S.2.1 dX4_hadInSum_24 rfl (lv_at hl 2 rfl) ?_
      exact o_iret S hr hlo I f dX4_hadInSum_25
    · have f := (if_neg q1).symm.trans f
      refine lv_iload_n S.1 S.2.1 dX4_hadInSum_9 rfl (lv_at hl 2 rfl) ?_
      refine lv_aload_n S.1 S.2.1 dX4_hadInSum_10 rfl (lv_at hl 0 rfl) ?_
      obtain ⟨r2, e3, f⟩ := ob f
      refine o_gR S lf4_hadInSum_15 I e3 dX4_hadInSum_11 ?_
      refine lv_iload_n S.1 S.2.1 dX4_hadInSum_14 rfl (lv_at hl 3 rfl) ?_
      obtain ⟨v5, e4, f⟩ := ob f
      refine o_iald S I e4 dX4_hadInSum_15 ?_
      refine lv_iadd S.1 S.2.1 dX4_hadInSum_16 ?_
      refine lv_istore_n (lv' := [(2, .int (x2 + v5)), (0, .ref (b + a0)), (1, .int x1), (3, .int x3)]) S.1 S.2.1 dX4_hadInSum_17 rfl hl (by decide) rfl (fun ls hl => ?_)
      refine lv_iinc (v := (x3 + 1)) (lv' := [(3, .int (x3 + 1)), (2, .int (x2 + v5)), (0, .ref (b + a0)), (1, .int x1)]) S.1 S.2.1 dX4_hadInSum_18 hl (k := 3) rfl (congrArg (fun z => x3 + z) (by decide)) (by decide) rfl (fun ls hl => ?_)
      refine lv_goto (tgt := 4) S.1 S.2.1 dX4_hadInSum_21 (by decide) ?_
      exact ih f I (lv_sub hl [2, 3, 1, 0] rfl)
end
