section
variable {p : Program} {l : Launch} {e : Env} {s : State} {m : MethodId} {args : Array Value} {below : List Frame} {meth : Method} {c : Code} {D : va_G} {cy : Nat → ClassId} {b : Nat} {A : Nat → Prop} {fl : Bool}
theorem cd2_oneIf : Cd yX2_oneIf 1 := ⟨by decide, by decide, by decide +kernel⟩
def F2_oneIf_0  (h : PH) (x0 : Int32) : Option (Int64 × PH) := if x0 = 0 then (some ((0 : Int64), h)) else (some ((1 : Int64), h))
set_option maxHeartbeats 4000000 in
set_option maxRecDepth 100000 in
theorem T2_oneIf_0 (S : CallFix p m c cX2_oneIf 1 s args wsX2_oneIf RX2) (hr : meth.sig.returnType = (some .long)) (hlo : meth.locks = false) {out : Int64 × PH} {h : PH} {x0 : Int32} (f : F2_oneIf_0  h x0 = some out) {H : Heap} {locs : List Loc} (I : ph_I D cy b A fl h s H locs) {ls : Array Slot} (hl : lv_has ls 1 [(0, .int x0)]) : W p l e ({ frames := 0, cells := 0, slots := 0, locals := 0 } : Room) s m args below meth c H locs 0 0 (MQ below (va_Ql (fun (r : Int64) (u : PH) => (r, u) = out) (ph_B D cy b A fl) A) args s 0 0 A) (F0 m 0 ls []) := by
  unfold F2_oneIf_0 at f
  refine lv_iload_n S.1 S.2.1 dX2_oneIf_0 rfl (lv_at hl 0 rfl) ?_
  refine lv_if_eq (tgt := 8) S.1 S.2.1 dX2_oneIf_1 (by decide) (fun q1 => ?_) (fun q1 => ?_)
  · have f := (if_pos q1).symm.trans f
    refine lv_lconst (v := 0) S.1 S.2.1 dX2_oneIf_8 (by decide) ?_
    exact o_lret S hr hlo I f dX2_oneIf_9
  · have f := (if_neg q1).symm.trans f
    refine lv_lconst (v := 1) S.1 S.2.1 dX2_oneIf_4 (by decide) ?_
    refine lv_goto (tgt := 9) S.1 S.2.1 dX2_oneIf_5 (by decide) ?_
    exact o_lret S hr hlo I f dX2_oneIf_9
def F2_oneIf (h : PH) (x0 : Int32) : Option (Int64 × PH) := F2_oneIf_0 h x0
theorem M2_oneIf (l : Launch) (D : va_G) (cy : Nat → ClassId) (b : Nat) (A : Nat → Prop) (fl : Bool) {h : PH} {x0 : Int32} {out : Int64 × PH} (f : F2_oneIf h x0 = some out) : Met l yX2_oneIf wsX2_oneIf ({ frames := 0, cells := 0, slots := 0, locals := 0 } : Room) (va_Pc [.int x0] (ph_B D cy b A fl h)) (va_Ql (fun (r : Int64) (u : PH) => (r, u) = out) (ph_B D cy b A fl) A) 0 0 A :=
  o_met (by decide) rfl (Nat.le_of_ble_eq_true rfl) rfl (fun p e s m below meth c S hr hlo hnm ls hl I => T2_oneIf_0 S hr hlo (f) I (lv_sub hl [0] rfl))
theorem cd2_product : Cd yX2_product 2 := ⟨by decide, by decide, by decide +kernel⟩
def F2_product_26  (h : PH) (j0 : Int64) (j2 : Int64) (j4 : Int64) (t0 : Int64) : Option (Int64 × PH) := if (lg_cmp t0 (0 : Int64)) ≤ 0 then (some ((j0 * j2), h)) else (if t0 = 0 then none else if (lg_cmp j4 ((1000000000000 : Int64) / t0)) ≤ 0 then (some ((j0 * j2), h)) else (some ((-9223372036854775808 : Int64), h)))
set_option maxHeartbeats 4000000 in
set_option maxRecDepth 100000 in
theorem T2_product_26 (S : CallFix p m c cX2_product 8 s args wsX2_product RX2) (hr : meth.sig.returnType = (some .long)) (hlo : meth.locks = false) {out : Int64 × PH} {h : PH} {j0 : Int64} {j2 : Int64} {j4 : Int64} {t0 : Int64} (f : F2_product_26  h j0 j2 j4 t0 = some out) {H : Heap} {locs : List Loc} (I : ph_I D cy b A fl h s H locs) {ls : Array Slot} (hl : lv_has ls 8 [(0, .long j0), (2, .long j2), (4, .long j4)]) : W p l e ({ frames := 0, cells := 0, slots := 0, locals := 0 } : Room) s m args below meth c H locs 0 0 (MQ below (va_Ql (fun (r : Int64) (u : PH) => (r, u) = out) (ph_B D cy b A fl) A) args s 0 0 A) (F0 m 26 ls [.long t0]) := by
  unfold F2_product_26 at f
  refine lv_lstore (lv' := [(6, .long t0), (0, .long j0), (2, .long j2), (4, .long j4)]) S.1 S.2.1 dX2_product_26 hl (by decide) rfl (fun ls hl => ?_)
  refine lv_lload S.1 S.2.1 dX2_product_28 (lv_at hl 0 rfl) ?_
  refine lv_lconst (v := 0) S.1 S.2.1 dX2_product_30 (by decide) ?_
  refine W.lcmp S.1 S.2.1 dX2_product_31 ?_
  refine lv_if_le (tgt := 51) S.1 S.2.1 dX2_product_32 (by decide) (fun q1 => ?_) (fun q1 => ?_)
  · have f := (if_pos q1).symm.trans f
    refine lv_lload_n S.1 S.2.1 dX2_product_51 rfl (lv_at hl 1 rfl) ?_
    refine lv_lload_n S.1 S.2.1 dX2_product_52 rfl (lv_at hl 2 rfl) ?_
    refine lv_lmul S.1 S.2.1 dX2_product_53 ?_
    exact o_lret S hr hlo I f dX2_product_54
  · have f := (if_neg q1).symm.trans f
    refine lv_lload S.1 S.2.1 dX2_product_35 (lv_at hl 3 rfl) ?_
    refine lv_ldc2 (v := 1000000000000) S.1 S.2.1 S.2.2.2.1 (S.2.2.2.2 _ (List.mem_cons_of_mem _ (List.mem_of_getElem? (i := 0) rfl))) dX2_product_37 ?_
    refine lv_lload S.1 S.2.1 dX2_product_40 (lv_at hl 0 rfl) ?_
    have q2 : ¬ t0 = 0 := fun q => by rw [if_pos q] at f; cases f
    have f := (if_neg q2).symm.trans f
    refine lv_ldiv S.1 S.2.1 dX2_product_42 q2 ?_
    refine W.lcmp S.1 S.2.1 dX2_product_43 ?_
    refine lv_if_le (tgt := 51) S.1 S.2.1 dX2_product_44 (by decide) (fun q3 => ?_) (fun q3 => ?_)
    · have f := (if_pos q3).symm.trans f
      refine lv_lload_n S.1 S.2.1 dX2_product_51 rfl (lv_at hl 1 rfl) ?_
      refine lv_lload_n S.1 S.2.1 dX2_product_52 rfl (lv_at hl 2 rfl) ?_
      refine lv_lmul S.1 S.2.1 dX2_product_53 ?_
      exact o_lret S hr hlo I f dX2_product_54
    · have f := (if_neg q3).symm.trans f
      refine lv_ldc2 (v := (-9223372036854775808)) S.1 S.2.1 S.2.2.2.1 (S.2.2.2.2 _ (List.mem_cons_of_mem _ (List.mem_of_getElem? (i := 1) rfl))) dX2_product_47 ?_
      exact o_lret S hr hlo I f dX2_product_50
def F2_product_12  (h : PH) (j0 : Int64) (j2 : Int64) (t0 : Int64) : Option (Int64 × PH) := if 0 ≤ (lg_cmp j2 (0 : Int64)) then (F2_product_26  h j0 j2 t0 j2) else (F2_product_26  h j0 j2 t0 (-j2))
set_option maxHeartbeats 4000000 in
set_option maxRecDepth 100000 in
theorem T2_product_12 (S : CallFix p m c cX2_product 8 s args wsX2_product RX2) (hr : meth.sig.returnType = (some .long)) (hlo : meth.locks = false) {out : Int64 × PH} {h : PH} {j0 : Int64} {j2 : Int64} {t0 : Int64} (f : F2_product_12  h j0 j2 t0 = some out) {H : Heap} {locs : List Loc} (I : ph_I D cy b A fl h s H locs) {ls : Array Slot} (hl : lv_has ls 8 [(0, .long j0), (2, .long j2)]) : W p l e ({ frames := 0, cells := 0, slots := 0, locals := 0 } : Room) s m args below meth c H locs 0 0 (MQ below (va_Ql (fun (r : Int64) (u : PH) => (r, u) = out) (ph_B D cy b A fl) A) args s 0 0 A) (F0 m 12 ls [.long t0]) := by
  unfold F2_product_12 at f
  refine lv_lstore (lv' := [(4, .long t0), (0, .long j0), (2, .long j2)]) S.1 S.2.1 dX2_product_12 hl (by decide) rfl (fun ls hl => ?_)
  refine lv_lload_n S.1 S.2.1 dX2_product_14 rfl (lv_at hl 2 rfl) ?_
  refine lv_lconst (v := 0) S.1 S.2.1 dX2_product_15 (by decide) ?_
  refine W.lcmp S.1 S.2.1 dX2_product_16 ?_
  refine lv_if_ge (tgt := 25) S.1 S.2.1 dX2_product_17 (by decide) (fun q1 => ?_) (fun q1 => ?_)
  · have f := (if_pos q1).symm.trans f
    refine lv_lload_n S.1 S.2.1 dX2_product_25 rfl (lv_at hl 2 rfl) ?_
    exact T2_product_26 S hr hlo  f I (lv_sub hl [1, 2, 0] rfl)
  · have f := (if_neg q1).symm.trans f
    refine lv_lload_n S.1 S.2.1 dX2_product_20 rfl (lv_at hl 2 rfl) ?_
    refine lv_lneg S.1 S.2.1 dX2_product_21 ?_
    refine lv_goto (tgt := 26) S.1 S.2.1 dX2_product_22 (by decide) ?_
    exact T2_product_26 S hr hlo  f I (lv_sub hl [1, 2, 0] rfl)
def F2_product_0  (h : PH) (j0 : Int64) (j2 : Int64) : Option (Int64 × PH) := if 0 ≤ (lg_cmp j0 (0 : Int64)) then (F2_product_12  h j0 j2 j0) else (F2_product_12  h j0 j2 (-j0))
set_option maxHeartbeats 4000000 in
set_option maxRecDepth 100000 in
theorem T2_product_0 (S : CallFix p m c cX2_product 8 s args wsX2_product RX2) (hr : meth.sig.returnType = (some .long)) (hlo : meth.locks = false) {out : Int64 × PH} {h : PH} {j0 : Int64} {j2 : Int64} (f : F2_product_0  h j0 j2 = some out) {H : Heap} {locs : List Loc} (I : ph_I D cy b A fl h s H locs) {ls : Array Slot} (hl : lv_has ls 8 [(0, .long j0), (2, .long j2)]) : W p l e ({ frames := 0, cells := 0, slots := 0, locals := 0 } : Room) s m args below meth c H locs 0 0 (MQ below (va_Ql (fun (r : Int64) (u : PH) => (r, u) = out) (ph_B D cy b A fl) A) args s 0 0 A) (F0 m 0 ls []) := by
  unfold F2_product_0 at f
  refine lv_lload_n S.1 S.2.1 dX2_product_0 rfl (lv_at hl 0 rfl) ?_
  refine lv_lconst (v := 0) S.1 S.2.1 dX2_product_1 (by decide) ?_
  refine W.lcmp S.1 S.2.1 dX2_product_2 ?_
  refine lv_if_ge (tgt := 11) S.1 S.2.1 dX2_product_3 (by decide) (fun q1 => ?_) (fun q1 => ?_)
  · have f := (if_pos q1).symm.trans f
    refine lv_lload_n S.1 S.2.1 dX2_product_11 rfl (lv_at hl 0 rfl) ?_
    exact T2_product_12 S hr hlo  f I (lv_sub hl [0, 1] rfl)
  · have f := (if_neg q1).symm.trans f
    refine lv_lload_n S.1 S.2.1 dX2_product_6 rfl (lv_at hl 0 rfl) ?_
    refine lv_lneg S.1 S.2.1 dX2_product_7 ?_
    refine lv_goto (tgt := 12) S.1 S.2.1 dX2_product_8 (by decide) ?_
    exact T2_product_12 S hr hlo  f I (lv_sub hl [0, 1] rfl)
def F2_product (h : PH) (j0 : Int64) (j2 : Int64) : Option (Int64 × PH) := F2_product_0 h j0 j2
theorem M2_product (l : Launch) (D : va_G) (cy : Nat → ClassId) (b : Nat) (A : Nat → Prop) (fl : Bool) {h : PH} {j0 : Int64} {j2 : Int64} {out : Int64 × PH} (f : F2_product h j0 j2 = some out) : Met l yX2_product wsX2_product ({ frames := 0, cells := 0, slots := 0, locals := 0 } : Room) (va_Pc [.long j0, .long j2] (ph_B D cy b A fl h)) (va_Ql (fun (r : Int64) (u : PH) => (r, u) = out) (ph_B D cy b A fl) A) 0 0 A :=
  o_met (by decide) rfl (Nat.le_of_ble_eq_true rfl) rfl (fun p e s m below meth c S hr hlo hnm ls hl I => T2_product_0 S hr hlo (f) I (lv_sub hl [0, 1] rfl))
theorem lp2_forget_15 : Pl wsX2_forget RX2 15 2 1 .int := ⟨RX2, TX2, 3, tyX2, rfl, by decide, (fun w h9 => List.mem_cons_of_mem _ (List.mem_append_right _ h9)), (List.mem_cons_of_mem _ (List.mem_append_left _ (List.mem_of_getElem? (i := 0) rfl))), tyX2_ok, nmX2, rfl, rfl⟩
theorem lp2_forget_19 : Pl wsX2_forget RX2 19 2 2 .boolean := ⟨RX2, TX2, 3, tyX2, rfl, by decide, (fun w h9 => List.mem_cons_of_mem _ (List.mem_append_right _ h9)), (List.mem_cons_of_mem _ (List.mem_append_left _ (List.mem_of_getElem? (i := 1) rfl))), tyX2_ok, nmX2, rfl, rfl⟩
theorem cd2_forget : Cd yX2_forget 0 := ⟨by decide, by decide, by decide +kernel⟩
def F2_forget_0  (h : PH) (a0 : Nat) : Option (PH) := (pI h a0 2 1 0).bind fun h1 => (pZ h1 a0 2 2 0).bind fun h3 => some h3
set_option maxHeartbeats 4000000 in
set_option maxRecDepth 100000 in
theorem T2_forget_0 (S : CallFix p m c cX2_forget 1 s args wsX2_forget RX2) (hr : meth.sig.returnType = none) (hlo : meth.locks = false) {out : PH} {h : PH} {a0 : Nat} (f : F2_forget_0  h a0 = some out) {H : Heap} {locs : List Loc} (I : ph_I D cy b A fl h s H locs) {ls : Array Slot} (hl : lv_has ls 1 [(0, .ref (b + a0))]) : W p l e ({ frames := 0, cells := 0, slots := 0, locals := 0 } : Room) s m args below meth c H locs 0 0 (MQ below (va_Qv (fun (u : PH) => u = out) (ph_B D cy b A fl) A) args s 0 0 A) (F0 m 0 ls []) := by
  unfold F2_forget_0 at f
  refine lv_aload_n S.1 S.2.1 dX2_forget_0 rfl (lv_at hl 0 rfl) ?_
  refine lv_iconst (v := 0) S.1 S.2.1 dX2_forget_1 (by decide) ?_
  obtain ⟨h1, e2, f⟩ := ob f
  refine o_pI S lp2_forget_15 I e2 dX2_forget_2 (fun H locs I => ?_)
  refine lv_aload_n S.1 S.2.1 dX2_forget_5 rfl (lv_at hl 0 rfl) ?_
  refine lv_iconst (v := 0) S.1 S.2.1 dX2_forget_6 (by decide) ?_
  obtain ⟨h3, e4, f⟩ := ob f
  refine o_pZ S lp2_forget_19 I e4 dX2_forget_7 (fun H locs I => ?_)
  exact o_vret S hr hlo I f dX2_forget_10
def F2_forget (h : PH) (a0 : Nat) : Option (PH) := cond (okO h a0 2) (F2_forget_0 h a0) none
theorem M2_forget (l : Launch) (D : va_G) (cy : Nat → ClassId) (b : Nat) (A : Nat → Prop) (fl : Bool) {h : PH} {a0 : Nat} {out : PH} (f : F2_forget h a0 = some out) : Met l yX2_forget wsX2_forget ({ frames := 0, cells := 0, slots := 0, locals := 0 } : Room) (va_Pc [.ref (b + a0)] (ph_B D cy b A fl h)) (va_Qv (fun (u : PH) => u = out) (ph_B D cy b A fl) A) 0 0 A :=
  o_met (by decide) rfl (Nat.le_of_ble_eq_true rfl) rfl (fun p e s m below meth c S hr hlo hnm ls hl I => T2_forget_0 S hr hlo ((gd f).2) I (lv_sub hl [0] rfl))
theorem lf2_add_15 : Fl wsX2_add RX2 15 2 1 := ⟨RX2, TX2, 3, rfl, by decide, (fun w h9 => List.mem_cons_of_mem _ (List.mem_append_right _ h9)), (List.mem_cons_of_mem _ (List.mem_append_left _ (List.mem_of_getElem? (i := 0) rfl)))⟩
theorem lf2_add_9 : Fl wsX2_add RX2 9 2 0 := ⟨RX2, TX2, 3, rfl, by decide, (fun w h9 => List.mem_cons_of_mem _ (List.mem_append_right _ h9)), (List.mem_cons_of_mem _ (List.mem_append_left _ (List.mem_of_getElem? (i := 1) rfl)))⟩
theorem lp2_add_15 : Pl wsX2_add RX2 15 2 1 .int := ⟨RX2, TX2, 3, tyX2, rfl, by decide, (fun w h9 => List.mem_cons_of_mem _ (List.mem_append_right _ h9)), (List.mem_cons_of_mem _ (List.mem_append_left _ (List.mem_of_getElem? (i := 0) rfl))), tyX2_ok, nmX2, rfl, rfl⟩
theorem cd2_add : Cd yX2_add 1 := ⟨by decide, by decide, by decide +kernel⟩
def F2_add_0  (h : PH) (a0 : Nat) (x1 : Int32) : Option (PH) := (gI h a0 2 1).bind fun v1 => (gR h a0 2 0).bind fun r3 => (aL h r3).bind fun v5 => if v5 ≤ v1 then (some h) else ((gR h a0 2 0).bind fun r8 => (gI h a0 2 1).bind fun v10 => (sI h r8 0 v10 x1).bind fun h13 => (gI h13 a0 2 1).bind fun v14 => (pI h13 a0 2 1 (v14 + 1)).bind fun h16 => some h16)
set_option maxHeartbeats 4000000 in
set_option maxRecDepth 100000 in
theorem T2_add_0 (S : CallFix p m c cX2_add 2 s args wsX2_add RX2) (hr : meth.sig.returnType = none) (hlo : meth.locks = false) {out : PH} {h : PH} {a0 : Nat} {x1 : Int32} (f : F2_add_0  h a0 x1 = some out) {H : Heap} {locs : List Loc} (I : ph_I D cy b A fl h s H locs) {ls : Array Slot} (hl : lv_has ls 2 [(0, .ref (b + a0)), (1, .int x1)]) : W p l e ({ frames := 0, cells := 0, slots := 0, locals := 0 } : Room) s m args below meth c H locs 0 0 (MQ below (va_Qv (fun (u : PH) => u = out) (ph_B D cy b A fl) A) args s 0 0 A) (F0 m 0 ls []) := by
  unfold F2_add_0 at f
  refine lv_aload_n S.1 S.2.1 dX2_add_0 rfl (lv_at hl 0 rfl) ?_
  obtain ⟨v1, e2, f⟩ := ob f
  refine o_gI S lf2_add_15 I e2 dX2_add_1 ?_
  refine lv_aload_n S.1 S.2.1 dX2_add_4 rfl (lv_at hl 0 rfl) ?_
  obtain ⟨r3, e4, f⟩ := ob f
  refine o_gR S lf2_add_9 I e4 dX2_add_5 ?_
  obtain ⟨v5, e6, f⟩ := ob f
  refine o_alen S I e6 dX2_add_8 ?_
  refine lv_icmp_ge (tgt := 32) S.1 S.2.1 dX2_add_9 (by decide) (fun q7 => ?_) (fun q7 => ?_)
  · have f := (if_pos q7).symm.trans f
    exact o_vret S hr hlo I f dX2_add_32
  · have f := (if_neg q7).symm.trans f
    refine lv_aload_n S.1 S.2.1 dX2_add_12 rfl (lv_at hl 0 rfl) ?_
    obtain ⟨r8, e9, f⟩ := ob f
    refine o_gR S lf2_add_9 I e9 dX2_add_13 ?_
    refine lv_aload_n S.1 S.2.1 dX2_add_16 rfl (lv_at hl 0 rfl) ?_
    obtain ⟨v10, e11, f⟩ := ob f
    refine o_gI S lf2_add_15 I e11 dX2_add_17 ?_
    refine lv_iload_n S.1 S.2.1 dX2_add_20 rfl (lv_at hl 1 rfl) ?_
    obtain ⟨h13, e12, f⟩ := ob f
    refine o_iast S I e12 dX2_add_21 (fun H locs I => ?_)
    refine lv_aload_n S.1 S.2.1 dX2_add_22 rfl (lv_at hl 0 rfl) ?_
    refine lv_dup S.1 S.2.1 dX2_add_23 rfl ?_
    obtain ⟨v14, e15, f⟩ := ob f
    refine o_gI S lf2_add_15 I e15 dX2_add_24 ?_
    refine lv_iconst (v := 1) S.1 S.2.1 dX2_add_27 (by decide) ?_
    refine lv_iadd S.1 S.2.1 dX2_add_28 ?_
    obtain ⟨h16, e17, f⟩ := ob f
    refine o_pI S lp2_add_15 I e17 dX2_add_29 (fun H locs I => ?_)
    exact o_vret S hr hlo I f dX2_add_32
def F2_add (h : PH) (a0 : Nat) (x1 : Int32) : Option (PH) := cond (okO h a0 2) (F2_add_0 h a0 x1) none
theorem M2_add (l : Launch) (D : va_G) (cy : Nat → ClassId) (b : Nat) (A : Nat → Prop) (fl : Bool) {h : PH} {a0 : Nat} {x1 : Int32} {out : PH} (f : F2_add h a0 x1 = some out) : Met l yX2_add wsX2_add ({ frames := 0, cells := 0, slots := 0, locals := 0 } : Room) (va_Pc [.ref (b + a0), .int x1] (ph_B D cy b A fl h)) (va_Qv (fun (u : PH) => u = out) (ph_B D cy b A fl) A) 0 0 A :=
  o_met (by decide) rfl (Nat.le_of_ble_eq_true rfl) rfl (fun p e s m below meth c S hr hlo hnm ls hl I => T2_add_0 S hr hlo ((gd f).2) I (lv_sub hl [0, 1] rfl))
theorem lf8_cells_32 : Fl wsX8_cells RX8 32 8 0 := ⟨RX8, TX8, 14, rfl, by decide, (fun w h9 => List.mem_cons_of_mem _ (List.mem_append_right _ h9)), (List.mem_cons_of_mem _ (List.mem_append_left _ (List.mem_of_getElem? (i := 0) rfl)))⟩
theorem lf8_cells_36 : Fl wsX8_cells RX8 36 8 1 := ⟨RX8, TX8, 14, rfl, by decide, (fun w h9 => List.mem_cons_of_mem _ (List.mem_append_right _ h9)), (List.mem_cons_of_mem _ (List.mem_append_left _ (List.mem_of_getElem? (i := 1) rfl)))⟩
theorem cd8_cells : Cd yX8_cells 0 := ⟨by decide, by decide, by decide +kernel⟩
def F8_cells_0  (h : PH) (a0 : Nat) : Option (Int32 × PH) := (gI h a0 8 0).bind fun v1 => (gI h a0 8 1).bind fun v3 => some ((v1 * v3), h)
set_option maxHeartbeats 4000000 in
set_option maxRecDepth 100000 in
theorem T8_cells_0 (S : CallFix p m c cX8_cells 1 s args wsX8_cells RX8) (hr : meth.sig.returnType = (some .int)) (hlo : meth.locks = false) {out : Int32 × PH} {h : PH} {a0 : Nat} (f : F8_cells_0  h a0 = some out) {H : Heap} {locs : List Loc} (I : ph_I D cy b A fl h s H locs) {ls : Array Slot} (hl : lv_has ls 1 [(0, .ref (b + a0))]) : W p l e ({ frames := 0, cells := 0, slots := 0, locals := 0 } : Room) s m args below meth c H locs 0 0 (MQ below (va_Qi (fun (r : Int32) (u : PH) => (r, u) = out) (ph_B D cy b A fl) A) args s 0 0 A) (F0 m 0 ls []) := by
  unfold F8_cells_0 at f
  refine lv_aload_n S.1 S.2.1 dX8_cells_0 rfl (lv_at hl 0 rfl) ?_
  obtain ⟨v1, e2, f⟩ := ob f
  refine o_gI S lf8_cells_32 I e2 dX8_cells_1 ?_
  refine lv_aload_n S.1 S.2.1 dX8_cells_4 rfl (lv_at hl 0 rfl) ?_
  obtain ⟨v3, e4, f⟩ := ob f
  refine o_gI S lf8_cells_36 I e4 dX8_cells_5 ?_
  refine lv_imul S.1 S.2.1 dX8_cells_8 ?_
  exact o_iret S hr hlo I f dX8_cells_9
def F8_cells (h : PH) (a0 : Nat) : Option (Int32 × PH) := cond (okO h a0 8) (F8_cells_0 h a0) none
theorem M8_cells (l : Launch) (D : va_G) (cy : Nat → ClassId) (b : Nat) (A : Nat → Prop) (fl : Bool) {h : PH} {a0 : Nat} {out : Int32 × PH} (f : F8_cells h a0 = some out) : Met l yX8_cells wsX8_cells ({ frames := 0, cells := 0, slots := 0, locals := 0 } : Room) (va_Pc [.ref (b + a0)] (ph_B D cy b A fl h)) (va_Qi (fun (r : Int32) (u : PH) => (r, u) = out) (ph_B D cy b A fl) A) 0 0 A :=
  o_met (by decide) rfl (Nat.le_of_ble_eq_true rfl) rfl (fun p e s m below meth c S hr hlo hnm ls hl I => T8_cells_0 S hr hlo ((gd f).2) I (lv_sub hl [0] rfl))
theorem lf8_columnOf_32 : Fl wsX8_columnOf RX8 32 8 0 := ⟨RX8, TX8, 14, rfl, by decide, (fun w h9 => List.mem_cons_of_mem _ (List.mem_append_right _ h9)), (List.mem_cons_of_mem _ (List.mem_append_left _ (List.mem_of_getElem? (i := 0) rfl)))⟩
theorem cd8_columnOf : Cd yX8_columnOf 1 := ⟨by decide, by decide, by decide +kernel⟩
def F8_columnOf_0  (h : PH) (a0 : Nat) (x1 : Int32) : Option (Int32 × PH) := (gI h a0 8 0).bind fun v1 => if v1 ≤ 0 then (some (0, h)) else ((gI h a0 8 0).bind fun v4 => if v4 = 0 then none else some ((x1 - x1 / v4 * v4), h))
set_option maxHeartbeats 4000000 in
set_option maxRecDepth 100000 in
theorem T8_columnOf_0 (S : CallFix p m c cX8_columnOf 2 s args wsX8_columnOf RX8) (hr : meth.sig.returnType = (some .int)) (hlo : meth.locks = false) {out : Int32 × PH} {h : PH} {a0 : Nat} {x1 : Int32} (f : F8_columnOf_0  h a0 x1 = some out) {H : Heap} {locs : List Loc} (I : ph_I D cy b A fl h s H locs) {ls : Array Slot} (hl : lv_has ls 2 [(0, .ref (b + a0)), (1, .int x1)]) : W p l e ({ frames := 0, cells := 0, slots := 0, locals := 0 } : Room) s m args below meth c H locs 0 0 (MQ below (va_Qi (fun (r : Int32) (u : PH) => (r, u) = out) (ph_B D cy b A fl) A) args s 0 0 A) (F0 m 0 ls []) := by
  unfold F8_columnOf_0 at f
  refine lv_aload_n S.1 S.2.1 dX8_columnOf_0 rfl (lv_at hl 0 rfl) ?_
  obtain ⟨v1, e2, f⟩ := ob f
  refine o_gI S lf8_columnOf_32 I e2 dX8_columnOf_1 ?_
  refine lv_if_le (tgt := 16) S.1 S.2.1 dX8_columnOf_4 (by decide) (fun q3 => ?_) (fun q3 => ?_)
  · have f := (if_pos q3).symm.trans f
    refine lv_iconst (v := 0) S.1 S.2.1 dX8_columnOf_16 (by decide) ?_
    exact o_iret S hr hlo I f dX8_columnOf_17
  · have f := (if_neg q3).symm.trans f
    refine lv_iload_n S.1 S.2.1 dX8_columnOf_7 rfl (lv_at hl 1 rfl) ?_
    refine lv_aload_n S.1 S.2.1 dX8_columnOf_8 rfl (lv_at hl 0 rfl) ?_
    obtain ⟨v4, e5, f⟩ := ob f
    refine o_gI S lf8_columnOf_32 I e5 dX8_columnOf_9 ?_
    have q6 : ¬ v4 = 0 := fun q => by rw [if_pos q] at f; cases f
    have f := (if_neg q6).symm.trans f
    refine lv_irem S.1 S.2.1 dX8_columnOf_12 q6 ?_
    refine lv_goto (tgt := 17) S.1 S.2.1 dX8_columnOf_13 (by decide) ?_
    exact o_iret S hr hlo I f dX8_columnOf_17
def F8_columnOf (h : PH) (a0 : Nat) (x1 : Int32) : Option (Int32 × PH) := cond (okO h a0 8) (F8_columnOf_0 h a0 x1) none
theorem M8_columnOf (l : Launch) (D : va_G) (cy : Nat → ClassId) (b : Nat) (A : Nat → Prop) (fl : Bool) {h : PH} {a0 : Nat} {x1 : Int32} {out : Int32 × PH} (f : F8_columnOf h a0 x1 = some out) : Met l yX8_columnOf wsX8_columnOf ({ frames := 0, cells := 0, slots := 0, locals := 0 } : Room) (va_Pc [.ref (b + a0), .int x1] (ph_B D cy b A fl h)) (va_Qi (fun (r : Int32) (u : PH) => (r, u) = out) (ph_B D cy b A fl) A) 0 0 A :=
  o_met (by decide) rfl (Nat.le_of_ble_eq_true rfl) rfl (fun p e s m below meth c S hr hlo hnm ls hl I => T8_columnOf_0 S hr hlo ((gd f).2) I (lv_sub hl [0, 1] rfl))
theorem lf8_rowOf_32 : Fl wsX8_rowOf RX8 32 8 0 := ⟨RX8, TX8, 14, rfl, by decide, (fun w h9 => List.mem_cons_of_mem _ (List.mem_append_right _ h9)), (List.mem_cons_of_mem _ (List.mem_append_left _ (List.mem_of_getElem? (i := 0) rfl)))⟩
theorem cd8_rowOf : Cd yX8_rowOf 1 := ⟨by decide, by decide, by decide +kernel⟩
def F8_rowOf_0  (h : PH) (a0 : Nat) (x1 : Int32) : Option (Int32 × PH) := (gI h a0 8 0).bind fun v1 => if v1 ≤ 0 then (some (0, h)) else ((gI h a0 8 0).bind fun v4 => if v4 = 0 then none else some ((x1 / v4), h))
set_option maxHeartbeats 4000000 in
set_option maxRecDepth 100000 in
theorem T8_rowOf_0 (S : CallFix p m c cX8_rowOf 2 s args wsX8_rowOf RX8) (hr : meth.sig.returnType = (some .int)) (hlo : meth.locks = false) {out : Int32 × PH} {h : PH} {a0 : Nat} {x1 : Int32} (f : F8_rowOf_0  h a0 x1 = some out) {H : Heap} {locs : List Loc} (I : ph_I D cy b A fl h s H locs) {ls : Array Slot} (hl : lv_has ls 2 [(0, .ref (b + a0)), (1, .int x1)]) : W p l e ({ frames := 0, cells := 0, slots := 0, locals := 0 } : Room) s m args below meth c H locs 0 0 (MQ below (va_Qi (fun (r : Int32) (u : PH) => (r, u) = out) (ph_B D cy b A fl) A) args s 0 0 A) (F0 m 0 ls []) := by
  unfold F8_rowOf_0 at f
  refine lv_aload_n S.1 S.2.1 dX8_rowOf_0 rfl (lv_at hl 0 rfl) ?_
  obtain ⟨v1, e2, f⟩ := ob f
  refine o_gI S lf8_rowOf_32 I e2 dX8_rowOf_1 ?_
  refine lv_if_le (tgt := 16) S.1 S.2.1 dX8_rowOf_4 (by decide) (fun q3 => ?_) (fun q3 => ?_)
  · have f := (if_pos q3).symm.trans f
    refine lv_iconst (v := 0) S.1 S.2.1 dX8_rowOf_16 (by decide) ?_
    exact o_iret S hr hlo I f dX8_rowOf_17
  · have f := (if_neg q3).symm.trans f
    refine lv_iload_n S.1 S.2.1 dX8_rowOf_7 rfl (lv_at hl 1 rfl) ?_
    refine lv_aload_n S.1 S.2.1 dX8_rowOf_8 rfl (lv_at hl 0 rfl) ?_
    obtain ⟨v4, e5, f⟩ := ob f
    refine o_gI S lf8_rowOf_32 I e5 dX8_rowOf_9 ?_
    have q6 : ¬ v4 = 0 := fun q => by rw [if_pos q] at f; cases f
    have f := (if_neg q6).symm.trans f
    refine lv_idiv S.1 S.2.1 dX8_rowOf_12 q6 ?_
    refine lv_goto (tgt := 17) S.1 S.2.1 dX8_rowOf_13 (by decide) ?_
    exact o_iret S hr hlo I f dX8_rowOf_17
def F8_rowOf (h : PH) (a0 : Nat) (x1 : Int32) : Option (Int32 × PH) := cond (okO h a0 8) (F8_rowOf_0 h a0 x1) none
theorem M8_rowOf (l : Launch) (D : va_G) (cy : Nat → ClassId) (b : Nat) (A : Nat → Prop) (fl : Bool) {h : PH} {a0 : Nat} {x1 : Int32} {out : Int32 × PH} (f : F8_rowOf h a0 x1 = some out) : Met l yX8_rowOf wsX8_rowOf ({ frames := 0, cells := 0, slots := 0, locals := 0 } : Room) (va_Pc [.ref (b + a0), .int x1] (ph_B D cy b A fl h)) (va_Qi (fun (r : Int32) (u : PH) => (r, u) = out) (ph_B D cy b A fl) A) 0 0 A :=
  o_met (by decide) rfl (Nat.le_of_ble_eq_true rfl) rfl (fun p e s m below meth c S hr hlo hnm ls hl I => T8_rowOf_0 S hr hlo ((gd f).2) I (lv_sub hl [0, 1] rfl))
theorem lf8_farFrom_32 : Fl wsX8_farFrom RX8 32 8 0 := ⟨RX8, TX8, 14, rfl, by decide, (fun w h9 => List.mem_cons_of_mem _ (List.mem_append_right _ h9)), (List.mem_cons_of_mem _ (List.mem_append_left _ (List.mem_of_getElem? (i := 0) rfl)))⟩
theorem lf8_farFrom_42 : Fl wsX8_farFrom RX8 42 8 3 := ⟨RX8, TX8, 14, rfl, by decide, (fun w h9 => List.mem_cons_of_mem _ (List.mem_append_right _ h9)), (List.mem_cons_of_mem _ (List.mem_append_left _ (List.mem_of_getElem? (i := 5) rfl)))⟩
theorem cd8_farFrom : Cd yX8_farFrom 2 := ⟨by decide, by decide, by decide +kernel⟩
def F8_farFrom_0  (h : PH) (a0 : Nat) (x1 : Int32) (x2 : Int32) : Option (Int32 × PH) := (gI h a0 8 0).bind fun v1 => if 1 ≤ v1 then ((gI h a0 8 0).bind fun v4 => if v4 = 0 then none else (gI h a0 8 0).bind fun v7 => if v7 = 0 then none else (gI h a0 8 3).bind fun v10 => some (((if 0 ≤ ((x1 - x1 / v4 * v4) - x2) then ((x1 - x1 / v4 * v4) - x2) else 0 - ((x1 - x1 / v4 * v4) - x2)) + (if 0 ≤ ((x1 / v7) - v10) then ((x1 / v7) - v10) else 0 - ((x1 / v7) - v10))), h)) else (some (0, h))
set_option maxHeartbeats 4000000 in
set_option maxRecDepth 100000 in
theorem T8_farFrom_0 (S : CallFix p m c cX8_farFrom 3 s args wsX8_farFrom RX8) (hr : meth.sig.returnType = (some .int)) (hlo : meth.locks = false) {out : Int32 × PH} {h : PH} {a0 : Nat} {x1 : Int32} {x2 : Int32} (f : F8_farFrom_0  h a0 x1 x2 = some out) {H : Heap} {locs : List Loc} (I : ph_I D cy b A fl h s H locs) {ls : Array Slot} (hl : lv_has ls 3 [(0, .ref (b + a0)), (1, .int x1), (2, .int x2)]) : W p l e ({ frames := 1, cells := 0, slots := 0, locals := 24 } : Room) s m args below meth c H locs 0 0 (MQ below (va_Qi (fun (r : Int32) (u : PH) => (r, u) = out) (ph_B D cy b A fl) A) args s 0 0 A) (F0 m 0 ls []) := by
  unfold F8_farFrom_0 at f
  refine lv_aload_n S.1 S.2.1 dX8_farFrom_0 rfl (lv_at hl 0 rfl) ?_
  obtain ⟨v1, e2, f⟩ := ob f
  refine o_gI S lf8_farFrom_32 I e2 dX8_farFrom_1 ?_
  refine lv_iconst (v := 1) S.1 S.2.1 dX8_farFrom_4 (by decide) ?_
  refine lv_icmp_ge (tgt := 10) S.1 S.2.1 dX8_farFrom_5 (by decide) (fun q3 => ?_) (fun q3 => ?_)
  · have f := (if_pos q3).symm.trans f
    refine lv_iload_n S.1 S.2.1 dX8_farFrom_10 rfl (lv_at hl 1 rfl) ?_
    refine lv_aload_n S.1 S.2.1 dX8_farFrom_11 rfl (lv_at hl 0 rfl) ?_
    obtain ⟨v4, e5, f⟩ := ob f
    refine o_gI S lf8_farFrom_32 I e5 dX8_farFrom_12 ?_
    have q6 : ¬ v4 = 0 := fun q => by rw [if_pos q] at f; cases f
    have f := (if_neg q6).symm.trans f
    refine lv_irem S.1 S.2.1 dX8_farFrom_15 q6 ?_
    refine lv_iload_n S.1 S.2.1 dX8_farFrom_16 rfl (lv_at hl 2 rfl) ?_
    refine lv_isub S.1 S.2.1 dX8_farFrom_17 ?_
    refine va_mabs S.1 S.2.1 (by rw [S.2.2.1, hl.1]) S.2.2.2.1 (S.2.2.2.2 _ (List.mem_cons_of_mem _ (List.mem_append_left _ (List.mem_of_getElem? (i := 1) rfl)))) (S.2.2.2.2 _ (List.mem_cons_of_mem _ (List.mem_append_left _ (List.mem_of_getElem? (i := 2) rfl)))) (S.2.2.2.2 _ (List.mem_cons_of_mem _ (List.mem_append_left _ (List.mem_of_getElem? (i := 3) rfl)))) (S.2.2.2.2 _ (List.mem_cons_of_mem _ (List.mem_append_left _ (List.mem_of_getElem? (i := 4) rfl)))) (Nat.le_of_ble_eq_true rfl) (Nat.le_of_ble_eq_true rfl) (Nat.zero_le _) (Nat.zero_le _) dX8_farFrom_18 ?_
    refine lv_iload_n S.1 S.2.1 dX8_farFrom_21 rfl (lv_at hl 1 rfl) ?_
    refine lv_aload_n S.1 S.2.1 dX8_farFrom_22 rfl (lv_at hl 0 rfl) ?_
    obtain ⟨v7, e8, f⟩ := ob f
    refine o_gI S lf8_farFrom_32 I e8 dX8_farFrom_23 ?_
    have q9 : ¬ v7 = 0 := fun q => by rw [if_pos q] at f; cases f
    have f := (if_neg q9).symm.trans f
    refine lv_idiv S.1 S.2.1 dX8_farFrom_26 q9 ?_
    refine lv_aload_n S.1 S.2.1 dX8_farFrom_27 rfl (lv_at hl 0 rfl) ?_
    obtain ⟨v10, e11, f⟩ := ob f
    refine o_gI S lf8_farFrom_42 I e11 dX8_farFrom_28 ?_
    refine lv_isub S.1 S.2.1 dX8_farFrom_31 ?_
    refine va_mabs S.1 S.2.1 (by rw [S.2.2.1, hl.1]) S.2.2.2.1 (S.2.2.2.2 _ (List.mem_cons_of_mem _ (List.mem_append_left _ (List.mem_of_getElem? (i := 1) rfl)))) (S.2.2.2.2 _ (List.mem_cons_of_mem _ (List.mem_append_left _ (List.mem_of_getElem? (i := 2) rfl)))) (S.2.2.2.2 _ (List.mem_cons_of_mem _ (List.mem_append_left _ (List.mem_of_getElem? (i := 3) rfl)))) (S.2.2.2.2 _ (List.mem_cons_of_mem _ (List.mem_append_left _ (List.mem_of_getElem? (i := 4) rfl)))) (Nat.le_of_ble_eq_true rfl) (Nat.le_of_ble_eq_true rfl) (Nat.zero_le _) (Nat.zero_le _) dX8_farFrom_32 ?_
    refine lv_iadd S.1 S.2.1 dX8_farFrom_35 ?_
    exact o_iret S hr hlo I f dX8_farFrom_36
  · have f := (if_neg q3).symm.trans f
    refine lv_iconst (v := 0) S.1 S.2.1 dX8_farFrom_8 (by decide) ?_
    exact o_iret S hr hlo I f dX8_farFrom_9
def F8_farFrom (h : PH) (a0 : Nat) (x1 : Int32) (x2 : Int32) : Option (Int32 × PH) := cond (okO h a0 8) (F8_farFrom_0 h a0 x1 x2) none
theorem M8_farFrom (l : Launch) (D : va_G) (cy : Nat → ClassId) (b : Nat) (A : Nat → Prop) (fl : Bool) {h : PH} {a0 : Nat} {x1 : Int32} {x2 : Int32} {out : Int32 × PH} (f : F8_farFrom h a0 x1 x2 = some out) : Met l yX8_farFrom wsX8_farFrom ({ frames := 1, cells := 0, slots := 0, locals := 24 } : Room) (va_Pc [.ref (b + a0), .int x1, .int x2] (ph_B D cy b A fl h)) (va_Qi (fun (r : Int32) (u : PH) => (r, u) = out) (ph_B D cy b A fl) A) 0 0 A :=
  o_met (by decide) rfl (Nat.le_of_ble_eq_true rfl) rfl (fun p e s m below meth c S hr hlo hnm ls hl I => T8_farFrom_0 S hr hlo ((gd f).2) I (lv_sub hl [0, 1, 2] rfl))
theorem lf8_cellBeside_32 : Fl wsX8_cellBeside RX8 32 8 0 := ⟨RX8, TX8, 14, rfl, by decide, (fun w h9 => List.mem_cons_of_mem _ (List.mem_append_right _ h9)), (List.mem_cons_of_mem _ (List.mem_append_left _ (List.mem_of_getElem? (i := 0) rfl)))⟩
theorem lf8_cellBeside_36 : Fl wsX8_cellBeside RX8 36 8 1 := ⟨RX8, TX8, 14, rfl, by decide, (fun w h9 => List.mem_cons_of_mem _ (List.mem_append_right _ h9)), (List.mem_cons_of_mem _ (List.mem_append_left _ (List.mem_of_getElem? (i := 1) rfl)))⟩
theorem cd8_cellBeside : Cd yX8_cellBeside 2 := ⟨by decide, by decide, by decide +kernel⟩
def F8_cellBeside_0  (h : PH) (a0 : Nat) (x1 : Int32) (x2 : Int32) : Option (Int32 × PH) := (F8_columnOf h a0 x1).bind fun o1 => (F8_rowOf o1.2 a0 x1).bind fun o3 => if x2 = 0 then (if o3.1 ≤ 0 then (some ((-1), o3.2)) else ((gI o3.2 a0 8 0).bind fun v7 => some ((x1 - v7), o3.2))) else if x2 = 1 then ((gI o3.2 a0 8 0).bind fun v10 => if (v10 - 1) ≤ o1.1 then (some ((-1), o3.2)) else (some ((x1 + 1), o3.2))) else if x2 = 2 then ((gI o3.2 a0 8 1).bind fun v14 => if (v14 - 1) ≤ o3.1 then (some ((-1), o3.2)) else ((gI o3.2 a0 8 0).bind fun v17 => some ((x1 + v17), o3.2))) else if x2 = 3 then (if o1.1 ≤ 0 then (some ((-1), o3.2)) else (some ((x1 - 1), o3.2))) else (some (x1, o3.2))
set_option maxHeartbeats 4000000 in
set_option maxRecDepth 100000 in
theorem T8_cellBeside_0 (S : CallFix p m c cX8_cellBeside 5 s args wsX8_cellBeside RX8) (hr : meth.sig.returnType = (some .int)) (hlo : meth.locks = false) {out : Int32 × PH} {h : PH} {a0 : Nat} {x1 : Int32} {x2 : Int32} (f : F8_cellBeside_0  h a0 x1 x2 = some out) {H : Heap} {locs : List Loc} (I : ph_I D cy b A fl h s H locs) {ls : Array Slot} (hl : lv_has ls 5 [(0, .ref (b + a0)), (1, .int x1), (2, .int x2)]) : W p l e ({ frames := 1, cells := 0, slots := 0, locals := 21 } : Room) s m args below meth c H locs 0 0 (MQ below (va_Qi (fun (r : Int32) (u : PH) => (r, u) = out) (ph_B D cy b A fl) A) args s 0 0 A) (F0 m 0 ls []) := by
  unfold F8_cellBeside_0 at f
  refine lv_aload_n S.1 S.2.1 dX8_cellBeside_0 rfl (lv_at hl 0 rfl) ?_
  refine lv_iload_n S.1 S.2.1 dX8_cellBeside_1 rfl (lv_at hl 1 rfl) ?_
  obtain ⟨o1, e2, f⟩ := ob f
  refine o_Vi S (As := [.int x1]) (rest := []) (ci := 8) (M8_columnOf l D cy b A fl e2) gX8_cellBeside_X8_columnOf rfl rfl rfl cd8_columnOf ⟨Nat.le_of_ble_eq_true rfl, Nat.le_of_ble_eq_true rfl⟩ I (gd e2).1 clX8 rfl rfl hl.1 rfl (Nat.le_of_ble_eq_true rfl) dX8_cellBeside_2 ⟨Nat.le_of_ble_eq_true rfl, Nat.le_of_ble_eq_true rfl⟩ (fun H locs I => ?_)
  refine lv_istore_n (lv' := [(3, .int o1.1), (0, .ref (b + a0)), (1, .int x1), (2, .int x2)]) S.1 S.2.1 dX8_cellBeside_5 rfl hl (by decide) rfl (fun ls hl => ?_)
  refine lv_aload_n S.1 S.2.1 dX8_cellBeside_6 rfl (lv_at hl 1 rfl) ?_
  refine lv_iload_n S.1 S.2.1 dX8_cellBeside_7 rfl (lv_at hl 2 rfl) ?_
  obtain ⟨o3, e4, f⟩ := ob f
  refine o_Vi S (As := [.int x1]) (rest := []) (ci := 8) (M8_rowOf l D cy b A fl e4) gX8_cellBeside_X8_rowOf rfl rfl rfl cd8_rowOf ⟨Nat.le_of_ble_eq_true rfl, Nat.le_of_ble_eq_true rfl⟩ I (gd e4).1 clX8 rfl rfl hl.1 rfl (Nat.le_of_ble_eq_true rfl) dX8_cellBeside_8 ⟨Nat.le_of_ble_eq_true rfl, Nat.le_of_ble_eq_true rfl⟩ (fun H locs I => ?_)
  refine lv_istore (lv' := [(4, .int o3.1), (3, .int o1.1), (0, .ref (b + a0)), (1, .int x1), (2, .int x2)]) S.1 S.2.1 dX8_cellBeside_11 hl (by decide) rfl (fun ls hl => ?_)
  refine lv_iload_n S.1 S.2.1 dX8_cellBeside_13 rfl (lv_at hl 4 rfl) ?_
  rcases Decidable.em (x2 = 0) with q5 | q5
  · have f := (if_pos q5).symm.trans f
    refine lv_tableIn (off := 30) (tgt := 44) S.1 S.2.1 dX8_cellBeside_14 (by rw [q5]; decide) (by rw [q5]; decide) (by rw [q5]; rfl) (by decide) ?_
    refine lv_iload S.1 S.2.1 dX8_cellBeside_44 (lv_at hl 0 rfl) ?_
    refine lv_if_le (tgt := 58) S.1 S.2.1 dX8_cellBeside_46 (by decide) (fun q6 => ?_) (fun q6 => ?_)
    · have f := (if_pos q6).symm.trans f
      refine lv_iconst (v := (-1)) S.1 S.2.1 dX8_cellBeside_58 (by decide) ?_
      exact o_iret S hr hlo I f dX8_cellBeside_59
    · have f := (if_neg q6).symm.trans f
      refine lv_iload_n S.1 S.2.1 dX8_cellBeside_49 rfl (lv_at hl 3 rfl) ?_
      refine lv_aload_n S.1 S.2.1 dX8_cellBeside_50 rfl (lv_at hl 2 rfl) ?_
      obtain ⟨v7, e8, f⟩ := ob f
      refine o_gI S lf8_cellBeside_32 I e8 dX8_cellBeside_51 ?_
      refine lv_isub S.1 S.2.1 dX8_cellBeside_54 ?_
      refine lv_goto (tgt := 59) S.1 S.2.1 dX8_cellBeside_55 (by decide) ?_
      exact o_iret S hr hlo I f dX8_cellBeside_59
  have f := (if_neg q5).symm.trans f
  rcases Decidable.em (x2 = 1) with q9 | q9
  · have f := (if_pos q9).symm.trans f
    refine lv_tableIn (off := 46) (tgt := 60) S.1 S.2.1 dX8_cellBeside_14 (by rw [q9]; decide) (by rw [q9]; decide) (by rw [q9]; rfl) (by decide) ?_
    refine lv_iload_n S.1 S.2.1 dX8_cellBeside_60 rfl (lv_at hl 1 rfl) ?_
    refine lv_aload_n S.1 S.2.1 dX8_cellBeside_61 rfl (lv_at hl 2 rfl) ?_
    obtain ⟨v10, e11, f⟩ := ob f
    refine o_gI S lf8_cellBeside_32 I e11 dX8_cellBeside_62 ?_
    refine lv_iconst (v := 1) S.1 S.2.1 dX8_cellBeside_65 (by decide) ?_
    refine lv_isub S.1 S.2.1 dX8_cellBeside_66 ?_
    refine lv_icmp_ge (tgt := 76) S.1 S.2.1 dX8_cellBeside_67 (by decide) (fun q12 => ?_) (fun q12 => ?_)
    · have f := (if_pos q12).symm.trans f
      refine lv_iconst (v := (-1)) S.1 S.2.1 dX8_cellBeside_76 (by decide) ?_
      exact o_iret S hr hlo I f dX8_cellBeside_77
    · have f := (if_neg q12).symm.trans f
      refine lv_iload_n S.1 S.2.1 dX8_cellBeside_70 rfl (lv_at hl 3 rfl) ?_
      refine lv_iconst (v := 1) S.1 S.2.1 dX8_cellBeside_71 (by decide) ?_
      refine lv_iadd S.1 S.2.1 dX8_cellBeside_72 ?_
      refine lv_goto (tgt := 77) S.1 S.2.1 dX8_cellBeside_73 (by decide) ?_
      exact o_iret S hr hlo I f dX8_cellBeside_77
  have f := (if_neg q9).symm.trans f
  rcases Decidable.em (x2 = 2) with q13 | q13
  · have f := (if_pos q13).symm.trans f
    refine lv_tableIn (off := 64) (tgt := 78) S.1 S.2.1 dX8_cellBeside_14 (by rw [q13]; decide) (by rw [q13]; decide) (by rw [q13]; rfl) (by decide) ?_
    refine lv_iload S.1 S.2.1 dX8_cellBeside_78 (lv_at hl 0 rfl) ?_
    refine lv_aload_n S.1 S.2.1 dX8_cellBeside_80 rfl (lv_at hl 2 rfl) ?_
    obtain ⟨v14, e15, f⟩ := ob f
    refine o_gI S lf8_cellBeside_36 I e15 dX8_cellBeside_81 ?_
    refine lv_iconst (v := 1) S.1 S.2.1 dX8_cellBeside_84 (by decide) ?_
    refine lv_isub S.1 S.2.1 dX8_cellBeside_85 ?_
    refine lv_icmp_ge (tgt := 98) S.1 S.2.1 dX8_cellBeside_86 (by decide) (fun q16 => ?_) (fun q16 => ?_)
    · have f := (if_pos q16).symm.trans f
      refine lv_iconst (v := (-1)) S.1 S.2.1 dX8_cellBeside_98 (by decide) ?_
      exact o_iret S hr hlo I f dX8_cellBeside_99
    · have f := (if_neg q16).symm.trans f
      refine lv_iload_n S.1 S.2.1 dX8_cellBeside_89 rfl (lv_at hl 3 rfl) ?_
      refine lv_aload_n S.1 S.2.1 dX8_cellBeside_90 rfl (lv_at hl 2 rfl) ?_
      obtain ⟨v17, e18, f⟩ := ob f
      refine o_gI S lf8_cellBeside_32 I e18 dX8_cellBeside_91 ?_
      refine lv_iadd S.1 S.2.1 dX8_cellBeside_94 ?_
      refine lv_goto (tgt := 99) S.1 S.2.1 dX8_cellBeside_95 (by decide) ?_
      exact o_iret S hr hlo I f dX8_cellBeside_99
  have f := (if_neg q13).symm.trans f
  rcases Decidable.em (x2 = 3) with q19 | q19
  · have f := (if_pos q19).symm.trans f
    refine lv_tableIn (off := 86) (tgt := 100) S.1 S.2.1 dX8_cellBeside_14 (by rw [q19]; decide) (by rw [q19]; decide) (by rw [q19]; rfl) (by decide) ?_
    refine lv_iload_n S.1 S.2.1 dX8_cellBeside_100 rfl (lv_at hl 1 rfl) ?_
    refine lv_if_le (tgt := 110) S.1 S.2.1 dX8_cellBeside_101 (by decide) (fun q20 => ?_) (fun q20 => ?_)
    · have f := (if_pos q20).symm.trans f
      refine lv_iconst (v := (-1)) S.1 S.2.1 dX8_cellBeside_110 (by decide) ?_
      exact o_iret S hr hlo I f dX8_cellBeside_111
    · have f := (if_neg q20).symm.trans f
      refine lv_iload_n S.1 S.2.1 dX8_cellBeside_104 rfl (lv_at hl 3 rfl) ?_
      refine lv_iconst (v := 1) S.1 S.2.1 dX8_cellBeside_105 (by decide) ?_
      refine lv_isub S.1 S.2.1 dX8_cellBeside_106 ?_
      refine lv_goto (tgt := 111) S.1 S.2.1 dX8_cellBeside_107 (by decide) ?_
      exact o_iret S hr hlo I f dX8_cellBeside_111
  have f := (if_neg q19).symm.trans f
  refine lv_tableOut (tgt := 112) S.1 S.2.1 dX8_cellBeside_14 (by have := lv_neT q5 (a := 0) (by decide); have := lv_neT q9 (a := 1) (by decide); have := lv_neT q13 (a := 2) (by decide); have := lv_neT q19 (a := 3) (by decide); omega) (by decide) ?_
  refine lv_iload_n S.1 S.2.1 dX8_cellBeside_112 rfl (lv_at hl 3 rfl) ?_
  exact o_iret S hr hlo I f dX8_cellBeside_113
def F8_cellBeside (h : PH) (a0 : Nat) (x1 : Int32) (x2 : Int32) : Option (Int32 × PH) := cond (okO h a0 8) (F8_cellBeside_0 h a0 x1 x2) none
theorem M8_cellBeside (l : Launch) (D : va_G) (cy : Nat → ClassId) (b : Nat) (A : Nat → Prop) (fl : Bool) {h : PH} {a0 : Nat} {x1 : Int32} {x2 : Int32} {out : Int32 × PH} (f : F8_cellBeside h a0 x1 x2 = some out) : Met l yX8_cellBeside wsX8_cellBeside ({ frames := 1, cells := 0, slots := 0, locals := 21 } : Room) (va_Pc [.ref (b + a0), .int x1, .int x2] (ph_B D cy b A fl h)) (va_Qi (fun (r : Int32) (u : PH) => (r, u) = out) (ph_B D cy b A fl) A) 0 0 A :=
  o_met (by decide) rfl (Nat.le_of_ble_eq_true rfl) rfl (fun p e s m below meth c S hr hlo hnm ls hl I => T8_cellBeside_0 S hr hlo ((gd f).2) I (lv_sub hl [0, 1, 2] rfl))
theorem lf8_bankWaves_51 : Fl wsX8_bankWaves RX8 51 8 6 := ⟨RX8, TX8, 14, rfl, by decide, (fun w h9 => List.mem_cons_of_mem _ (List.mem_append_right _ h9)), (List.mem_cons_of_mem _ (List.mem_append_left _ (List.mem_of_getElem? (i := 0) rfl)))⟩
theorem lf8_bankWaves_54 : Fl wsX8_bankWaves RX8 54 8 7 := ⟨RX8, TX8, 14, rfl, by decide, (fun w h9 => List.mem_cons_of_mem _ (List.mem_append_right _ h9)), (List.mem_cons_of_mem _ (List.mem_append_left _ (List.mem_of_getElem? (i := 1) rfl)))⟩
theorem cd8_bankWaves : Cd yX8_bankWaves 2 := ⟨by decide, by decide, by decide +kernel⟩
def F8_bankWaves_0  (h : PH) (a0 : Nat) (x1 : Int32) (x2 : Int32) : Option (Int32 × PH) := (gI h a0 8 6).bind fun v1 => if ((x2 - x1) - v1) < 0 then (some (0, h)) else ((gI h a0 8 7).bind fun v4 => if 1 ≤ v4 then ((gI h a0 8 7).bind fun v7 => if v7 = 0 then none else some (((((x2 - x1) - v1) / v7) + 1), h)) else (some (0, h)))
set_option maxHeartbeats 4000000 in
set_option maxRecDepth 100000 in
theorem T8_bankWaves_0 (S : CallFix p m c cX8_bankWaves 4 s args wsX8_bankWaves RX8) (hr : meth.sig.returnType = (some .int)) (hlo : meth.locks = false) {out : Int32 × PH} {h : PH} {a0 : Nat} {x1 : Int32} {x2 : Int32} (f : F8_bankWaves_0  h a0 x1 x2 = some out) {H : Heap} {locs : List Loc} (I : ph_I D cy b A fl h s H locs) {ls : Array Slot} (hl : lv_has ls 4 [(0, .ref (b + a0)), (1, .int x1), (2, .int x2)]) : W p l e ({ frames := 0, cells := 0, slots := 0, locals := 0 } : Room) s m args below meth c H locs 0 0 (MQ below (va_Qi (fun (r : Int32) (u : PH) => (r, u) = out) (ph_B D cy b A fl) A) args s 0 0 A) (F0 m 0 ls []) := by
  unfold F8_bankWaves_0 at f
  refine lv_iload_n S.1 S.2.1 dX8_bankWaves_0 rfl (lv_at hl 2 rfl) ?_
  refine lv_iload_n S.1 S.2.1 dX8_bankWaves_1 rfl (lv_at hl 1 rfl) ?_
  refine lv_isub S.1 S.2.1 dX8_bankWaves_2 ?_
  refine lv_aload_n S.1 S.2.1 dX8_bankWaves_3 rfl (lv_at hl 0 rfl) ?_
  obtain ⟨v1, e2, f⟩ := ob f
  refine o_gI S lf8_bankWaves_51 I e2 dX8_bankWaves_4 ?_
  refine lv_isub S.1 S.2.1 dX8_bankWaves_7 ?_
  refine lv_istore_n (lv' := [(3, .int ((x2 - x1) - v1)), (0, .ref (b + a0)), (1, .int x1), (2, .int x2)]) S.1 S.2.1 dX8_bankWaves_8 rfl hl (by decide) rfl (fun ls hl => ?_)
  refine lv_iload_n S.1 S.2.1 dX8_bankWaves_9 rfl (lv_at hl 0 rfl) ?_
  refine lv_if_lt (tgt := 21) S.1 S.2.1 dX8_bankWaves_10 (by decide) (fun q3 => ?_) (fun q3 => ?_)
  · have f := (if_pos q3).symm.trans f
    refine lv_iconst (v := 0) S.1 S.2.1 dX8_bankWaves_21 (by decide) ?_
    refine lv_goto (tgt := 33) S.1 S.2.1 dX8_bankWaves_22 (by decide) ?_
    exact o_iret S hr hlo I f dX8_bankWaves_33
  · have f := (if_neg q3).symm.trans f
    refine lv_aload_n S.1 S.2.1 dX8_bankWaves_13 rfl (lv_at hl 1 rfl) ?_
    obtain ⟨v4, e5, f⟩ := ob f
    refine o_gI S lf8_bankWaves_54 I e5 dX8_bankWaves_14 ?_
    refine lv_iconst (v := 1) S.1 S.2.1 dX8_bankWaves_17 (by decide) ?_
    refine lv_icmp_ge (tgt := 25) S.1 S.2.1 dX8_bankWaves_18 (by decide) (fun q6 => ?_) (fun q6 => ?_)
    · have f := (if_pos q6).symm.trans f
      refine lv_iload_n S.1 S.2.1 dX8_bankWaves_25 rfl (lv_at hl 0 rfl) ?_
      refine lv_aload_n S.1 S.2.1 dX8_bankWaves_26 rfl (lv_at hl 1 rfl) ?_
      obtain ⟨v7, e8, f⟩ := ob f
      refine o_gI S lf8_bankWaves_54 I e8 dX8_bankWaves_27 ?_
      have q9 : ¬ v7 = 0 := fun q => by rw [if_pos q] at f; cases f
      have f := (if_neg q9).symm.trans f
      refine lv_idiv S.1 S.2.1 dX8_bankWaves_30 q9 ?_
      refine lv_iconst (v := 1) S.1 S.2.1 dX8_bankWaves_31 (by decide) ?_
      refine lv_iadd S.1 S.2.1 dX8_bankWaves_32 ?_
      exact o_iret S hr hlo I f dX8_bankWaves_33
    · have f := (if_neg q6).symm.trans f
      refine lv_iconst (v := 0) S.1 S.2.1 dX8_bankWaves_21 (by decide) ?_
      refine lv_goto (tgt := 33) S.1 S.2.1 dX8_bankWaves_22 (by decide) ?_
      exact o_iret S hr hlo I f dX8_bankWaves_33
def F8_bankWaves (h : PH) (a0 : Nat) (x1 : Int32) (x2 : Int32) : Option (Int32 × PH) := cond (okO h a0 8) (F8_bankWaves_0 h a0 x1 x2) none
theorem M8_bankWaves (l : Launch) (D : va_G) (cy : Nat → ClassId) (b : Nat) (A : Nat → Prop) (fl : Bool) {h : PH} {a0 : Nat} {x1 : Int32} {x2 : Int32} {out : Int32 × PH} (f : F8_bankWaves h a0 x1 x2 = some out) : Met l yX8_bankWaves wsX8_bankWaves ({ frames := 0, cells := 0, slots := 0, locals := 0 } : Room) (va_Pc [.ref (b + a0), .int x1, .int x2] (ph_B D cy b A fl h)) (va_Qi (fun (r : Int32) (u : PH) => (r, u) = out) (ph_B D cy b A fl) A) 0 0 A :=
  o_met (by decide) rfl (Nat.le_of_ble_eq_true rfl) rfl (fun p e s m below meth c S hr hlo hnm ls hl I => T8_bankWaves_0 S hr hlo ((gd f).2) I (lv_sub hl [0, 1, 2] rfl))
theorem lf10_firstFrom_34 : Fl wsX10_firstFrom RX10 34 10 1 := ⟨RX10, TX10, 8, rfl, by decide, (fun w h9 => List.mem_cons_of_mem _ (List.mem_append_right _ h9)), (List.mem_cons_of_mem _ (List.mem_append_left _ (List.mem_of_getElem? (i := 0) rfl)))⟩
theorem lf10_firstFrom_18 : Fl wsX10_firstFrom RX10 18 10 4 := ⟨RX10, TX10, 8, rfl, by decide, (fun w h9 => List.mem_cons_of_mem _ (List.mem_append_right _ h9)), (List.mem_cons_of_mem _ (List.mem_append_left _ (List.mem_of_getElem? (i := 1) rfl)))⟩
theorem cd10_firstFrom : Cd yX10_firstFrom 1 := ⟨by decide, by decide, by decide +kernel⟩
def F10_firstFrom_2  : Nat → PH → Nat → Int32 → Int32 → Option (Int32 × PH)
  | 0, _, _, _, _ => none
  | n + 1, h, a0, x1, x2 => (gI h a0 10 1).bind fun v1 => if v1 ≤ x2 then ((gI h a0 10 1).bind fun v4 => some (v4, h)) else ((gR h a0 10 4).bind fun r6 => (aI h r6 0 x2).bind fun v9 => if v9 < x1 then (F10_firstFrom_2  n h a0 x1 (x2 + 1)) else (some (x2, h)))
set_option maxHeartbeats 4000000 in
set_option maxRecDepth 100000 in
theorem T10_firstFrom_2 (S : CallFix p m c cX10_firstFrom 3 s args wsX10_firstFrom RX10) (hr : meth.sig.returnType = (some .int)) (hlo : meth.locks = false) {out : Int32 × PH} : ∀ (n : Nat) {h : PH} {a0 : Nat} {x1 : Int32} {x2 : Int32} (f : F10_firstFrom_2  n h a0 x1 x2 = some out) {H : Heap} {locs : List Loc} (I : ph_I D cy b A fl h s H locs) {ls : Array Slot} (hl : lv_has ls 3 [(0, .ref (b + a0)), (1, .int x1), (2, .int x2)]), W p l e ({ frames := 0, cells := 0, slots := 0, locals := 0 } : Room) s m args below meth c H locs 0 0 (MQ below (va_Qi (fun (r : Int32) (u : PH) => (r, u) = out) (ph_B D cy b A fl) A) args s 0 0 A) (F0 m 2 ls []) := by
  intro n
  induction n with
  | zero => intro h a0 x1 x2 f; rw [F10_firstFrom_2] at f; cases f
  | succ n ih =>
    intro h a0 x1 x2 f H locs I ls hl
    rw [F10_firstFrom_2] at f
    refine lv_iload_n S.1 S.2.1 dX10_firstFrom_2 rfl (lv_at hl 2 rfl) ?_
    refine lv_aload_n S.1 S.2.1 dX10_firstFrom_3 rfl (lv_at hl 0 rfl) ?_
    obtain ⟨v1, e2, f⟩ := ob f
    refine o_gI S lf10_firstFrom_34 I e2 dX10_firstFrom_4 ?_
    refine lv_icmp_ge (tgt := 28) S.1 S.2.1 dX10_firstFrom_7 (by decide) (fun q3 => ?_) (fun q3 => ?_)
    · have f := (if_pos q3).symm.trans f
      refine lv_aload_n S.1 S.2.1 dX10_firstFrom_28 rfl (lv_at hl 0 rfl) ?_
      obtain ⟨v4, e5, f⟩ := ob f
      refine o_gI S lf10_firstFrom_34 I e5 dX10_firstFrom_29 ?_
      exact o_iret S hr hlo I f dX10_firstFrom_32
    · have f := (if_neg q3).symm.trans f
      refine lv_aload_n S.1 S.2.1 dX10_firstFrom_10 rfl (lv_at hl 0 rfl) ?_
      obtain ⟨r6, e7, f⟩ := ob f
      refine o_gR S lf10_firstFrom_18 I e7 dX10_firstFrom_11 ?_
      refine lv_iload_n S.1 S.2.1 dX10_firstFrom_14 rfl (lv_at hl 2 rfl) ?_
      obtain ⟨v9, e8, f⟩ := ob f
      refine o_iald S I e8 dX10_firstFrom_15 ?_
      refine lv_iload_n S.1 S.2.1 dX10_firstFrom_16 rfl (lv_at hl 1 rfl) ?_
      refine lv_icmp_lt (tgt := 22) S.1 S.2.1 dX10_firstFrom_17 (by decide) (fun q10 => ?_) (fun q10 => ?_)
      · have f := (if_pos q10).symm.trans f
        refine lv_iinc (v := (x2 + 1)) (lv' := [(2, .int (x2 + 1)), (0, .ref (b + a0)), (1, .int x1)]) S.1 S.2.1 dX10_firstFrom_22 hl (k := 2) rfl (congrArg (fun z => x2 + z) (by decide)) (by decide) rfl (fun ls hl => ?_)
        refine lv_goto (tgt := 2) S.1 S.2.1 dX10_firstFrom_25 (by decide) ?_
        exact ih f I (lv_sub hl [1, 2, 0] rfl)
      · have f := (if_neg q10).symm.trans f
        refine lv_iload_n S.1 S.2.1 dX10_firstFrom_20 rfl (lv_at hl 2 rfl) ?_
        exact o_iret S hr hlo I f dX10_firstFrom_21
def F10_firstFrom_0  (h : PH) (a0 : Nat) (x1 : Int32) : Option (Int32 × PH) := F10_firstFrom_2  1024 h a0 x1 0
set_option maxHeartbeats 4000000 in
set_option maxRecDepth 100000 in
theorem T10_firstFrom_0 (S : CallFix p m c cX10_firstFrom 3 s args wsX10_firstFrom RX10) (hr : meth.sig.returnType = (some .int)) (hlo : meth.locks = false) {out : Int32 × PH} {h : PH} {a0 : Nat} {x1 : Int32} (f : F10_firstFrom_0  h a0 x1 = some out) {H : Heap} {locs : List Loc} (I : ph_I D cy b A fl h s H locs) {ls : Array Slot} (hl : lv_has ls 3 [(0, .ref (b + a0)), (1, .int x1)]) : W p l e ({ frames := 0, cells := 0, slots := 0, locals := 0 } : Room) s m args below meth c H locs 0 0 (MQ below (va_Qi (fun (r : Int32) (u : PH) => (r, u) = out) (ph_B D cy b A fl) A) args s 0 0 A) (F0 m 0 ls []) := by
  unfold F10_firstFrom_0 at f
  refine lv_iconst (v := 0) S.1 S.2.1 dX10_firstFrom_0 (by decide) ?_
  refine lv_istore_n (lv' := [(2, .int 0), (0, .ref (b + a0)), (1, .int x1)]) S.1 S.2.1 dX10_firstFrom_1 rfl hl (by decide) rfl (fun ls hl => ?_)
  exact T10_firstFrom_2 S hr hlo  1024 f I (lv_sub hl [1, 2, 0] rfl)
def F10_firstFrom (h : PH) (a0 : Nat) (x1 : Int32) : Option (Int32 × PH) := cond (okO h a0 10) (F10_firstFrom_0 h a0 x1) none
theorem M10_firstFrom (l : Launch) (D : va_G) (cy : Nat → ClassId) (b : Nat) (A : Nat → Prop) (fl : Bool) {h : PH} {a0 : Nat} {x1 : Int32} {out : Int32 × PH} (f : F10_firstFrom h a0 x1 = some out) : Met l yX10_firstFrom wsX10_firstFrom ({ frames := 0, cells := 0, slots := 0, locals := 0 } : Room) (va_Pc [.ref (b + a0), .int x1] (ph_B D cy b A fl h)) (va_Qi (fun (r : Int32) (u : PH) => (r, u) = out) (ph_B D cy b A fl) A) 0 0 A :=
  o_met (by decide) rfl (Nat.le_of_ble_eq_true rfl) rfl (fun p e s m below meth c S hr hlo hnm ls hl I => T10_firstFrom_0 S hr hlo ((gd f).2) I (lv_sub hl [0, 1] rfl))
theorem lf10_firstMinute_18 : Fl wsX10_firstMinute RX10 18 10 4 := ⟨RX10, TX10, 8, rfl, by decide, (fun w h9 => List.mem_cons_of_mem _ (List.mem_append_right _ h9)), (List.mem_cons_of_mem _ (List.mem_append_left _ (List.mem_of_getElem? (i := 0) rfl)))⟩
theorem lf10_firstMinute_9 : Fl wsX10_firstMinute RX10 9 10 2 := ⟨RX10, TX10, 8, rfl, by decide, (fun w h9 => List.mem_cons_of_mem _ (List.mem_append_right _ h9)), (List.mem_cons_of_mem _ (List.mem_append_left _ (List.mem_of_getElem? (i := 1) rfl)))⟩
theorem cd10_firstMinute : Cd yX10_firstMinute 1 := ⟨by decide, by decide, by decide +kernel⟩
def F10_firstMinute_0  (h : PH) (a0 : Nat) (x1 : Int32) : Option (Int32 × PH) := (gR h a0 10 4).bind fun r1 => (gR h a0 10 2).bind fun r3 => (aI h r3 0 x1).bind fun v6 => (aI h r1 0 v6).bind fun v8 => some (v8, h)
set_option maxHeartbeats 4000000 in
set_option maxRecDepth 100000 in
theorem T10_firstMinute_0 (S : CallFix p m c cX10_firstMinute 2 s args wsX10_firstMinute RX10) (hr : meth.sig.returnType = (some .int)) (hlo : meth.locks = false) {out : Int32 × PH} {h : PH} {a0 : Nat} {x1 : Int32} (f : F10_firstMinute_0  h a0 x1 = some out) {H : Heap} {locs : List Loc} (I : ph_I D cy b A fl h s H locs) {ls : Array Slot} (hl : lv_has ls 2 [(0, .ref (b + a0)), (1, .int x1)]) : W p l e ({ frames := 0, cells := 0, slots := 0, locals := 0 } : Room) s m args below meth c H locs 0 0 (MQ below (va_Qi (fun (r : Int32) (u : PH) => (r, u) = out) (ph_B D cy b A fl) A) args s 0 0 A) (F0 m 0 ls []) := by
  unfold F10_firstMinute_0 at f
  refine lv_aload_n S.1 S.2.1 dX10_firstMinute_0 rfl (lv_at hl 0 rfl) ?_
  obtain ⟨r1, e2, f⟩ := ob f
  refine o_gR S lf10_firstMinute_18 I e2 dX10_firstMinute_1 ?_
  refine lv_aload_n S.1 S.2.1 dX10_firstMinute_4 rfl (lv_at hl 0 rfl) ?_
  obtain ⟨r3, e4, f⟩ := ob f
  refine o_gR S lf10_firstMinute_9 I e4 dX10_firstMinute_5 ?_
  refine lv_iload_n S.1 S.2.1 dX10_firstMinute_8 rfl (lv_at hl 1 rfl) ?_
  obtain ⟨v6, e5, f⟩ := ob f
  refine o_iald S I e5 dX10_firstMinute_9 ?_
  obtain ⟨v8, e7, f⟩ := ob f
  refine o_iald S I e7 dX10_firstMinute_10 ?_
  exact o_iret S hr hlo I f dX10_firstMinute_11
def F10_firstMinute (h : PH) (a0 : Nat) (x1 : Int32) : Option (Int32 × PH) := cond (okO h a0 10) (F10_firstMinute_0 h a0 x1) none
theorem M10_firstMinute (l : Launch) (D : va_G) (cy : Nat → ClassId) (b : Nat) (A : Nat → Prop) (fl : Bool) {h : PH} {a0 : Nat} {x1 : Int32} {out : Int32 × PH} (f : F10_firstMinute h a0 x1 = some out) : Met l yX10_firstMinute wsX10_firstMinute ({ frames := 0, cells := 0, slots := 0, locals := 0 } : Room) (va_Pc [.ref (b + a0), .int x1] (ph_B D cy b A fl h)) (va_Qi (fun (r : Int32) (u : PH) => (r, u) = out) (ph_B D cy b A fl) A) 0 0 A :=
  o_met (by decide) rfl (Nat.le_of_ble_eq_true rfl) rfl (fun p e s m below meth c S hr hlo hnm ls hl I => T10_firstMinute_0 S hr hlo ((gd f).2) I (lv_sub hl [0, 1] rfl))
theorem lf10_setFrom_30 : Fl wsX10_setFrom RX10 30 10 0 := ⟨RX10, TX10, 8, rfl, by decide, (fun w h9 => List.mem_cons_of_mem _ (List.mem_append_right _ h9)), (List.mem_cons_of_mem _ (List.mem_append_left _ (List.mem_of_getElem? (i := 0) rfl)))⟩
theorem cd10_setFrom : Cd yX10_setFrom 1 := ⟨by decide, by decide, by decide +kernel⟩
def F10_setFrom_2  : Nat → PH → Nat → Int32 → Int32 → Option (Int32 × PH)
  | 0, _, _, _, _ => none
  | n + 1, h, a0, x1, x2 => (gI h a0 10 0).bind fun v1 => if v1 ≤ x2 then (some ((-1), h)) else ((F10_firstMinute h a0 x2).bind fun o4 => if o4.1 < x1 then (F10_setFrom_2  n o4.2 a0 x1 (x2 + 1)) else (some (x2, o4.2)))
set_option maxHeartbeats 4000000 in
set_option maxRecDepth 100000 in
theorem T10_setFrom_2 (S : CallFix p m c cX10_setFrom 3 s args wsX10_setFrom RX10) (hr : meth.sig.returnType = (some .int)) (hlo : meth.locks = false) {out : Int32 × PH} : ∀ (n : Nat) {h : PH} {a0 : Nat} {x1 : Int32} {x2 : Int32} (f : F10_setFrom_2  n h a0 x1 x2 = some out) {H : Heap} {locs : List Loc} (I : ph_I D cy b A fl h s H locs) {ls : Array Slot} (hl : lv_has ls 3 [(0, .ref (b + a0)), (1, .int x1), (2, .int x2)]), W p l e ({ frames := 1, cells := 0, slots := 0, locals := 21 } : Room) s m args below meth c H locs 0 0 (MQ below (va_Qi (fun (r : Int32) (u : PH) => (r, u) = out) (ph_B D cy b A fl) A) args s 0 0 A) (F0 m 2 ls []) := by
  intro n
  induction n with
  | zero => intro h a0 x1 x2 f; rw [F10_setFrom_2] at f; cases f
  | succ n ih =>
    intro h a0 x1 x2 f H locs I ls hl
    rw [F10_setFrom_2] at f
    refine lv_iload_n S.1 S.2.1 dX10_setFrom_2 rfl (lv_at hl 2 rfl) ?_
    refine lv_aload_n S.1 S.2.1 dX10_setFrom_3 rfl (lv_at hl 0 rfl) ?_
    obtain ⟨v1, e2, f⟩ := ob f
    refine o_gI S lf10_setFrom_30 I e2 dX10_setFrom_4 ?_
    refine lv_icmp_ge (tgt := 27) S.1 S.2.1 dX10_setFrom_7 (by decide) (fun q3 => ?_) (fun q3 => ?_)
    · have f := (if_pos q3).symm.trans f
      refine lv_iconst (v := (-1)) S.1 S.2.1 dX10_setFrom_27 (by decide) ?_
      exact o_iret S hr hlo I f dX10_setFrom_28
    · have f := (if_neg q3).symm.trans f
      refine lv_aload_n S.1 S.2.1 dX10_setFrom_10 rfl (lv_at hl 0 rfl) ?_
      refine lv_iload_n S.1 S.2.1 dX10_setFrom_11 rfl (lv_at hl 2 rfl) ?_
      obtain ⟨o4, e5, f⟩ := ob f
      refine o_Vi S (As := [.int x2]) (rest := []) (ci := 10) (M10_firstMinute l D cy b A fl e5) gX10_setFrom_X10_firstMinute rfl rfl rfl cd10_firstMinute ⟨Nat.le_of_ble_eq_true rfl, Nat.le_of_ble_eq_true rfl⟩ I (gd e5).1 clX10 rfl rfl hl.1 rfl (Nat.le_of_ble_eq_true rfl) dX10_setFrom_12 ⟨Nat.le_of_ble_eq_true rfl, Nat.le_of_ble_eq_true rfl⟩ (fun H locs I => ?_)
      refine lv_iload_n S.1 S.2.1 dX10_setFrom_15 rfl (lv_at hl 1 rfl) ?_
      refine lv_icmp_lt (tgt := 21) S.1 S.2.1 dX10_setFrom_16 (by decide) (fun q6 => ?_) (fun q6 => ?_)
      · have f := (if_pos q6).symm.trans f
        refine lv_iinc (v := (x2 + 1)) (lv' := [(2, .int (x2 + 1)), (0, .ref (b + a0)), (1, .int x1)]) S.1 S.2.1 dX10_setFrom_21 hl (k := 2) rfl (congrArg (fun z => x2 + z) (by decide)) (by decide) rfl (fun ls hl => ?_)
        refine lv_goto (tgt := 2) S.1 S.2.1 dX10_setFrom_24 (by decide) ?_
        exact ih f I (lv_sub hl [1, 2, 0] rfl)
      · have f := (if_neg q6).symm.trans f
        refine lv_iload_n S.1 S.2.1 dX10_setFrom_19 rfl (lv_at hl 2 rfl) ?_
        exact o_iret S hr hlo I f dX10_setFrom_20
def F10_setFrom_0  (h : PH) (a0 : Nat) (x1 : Int32) : Option (Int32 × PH) := F10_setFrom_2  1024 h a0 x1 0
set_option maxHeartbeats 4000000 in
set_option maxRecDepth 100000 in
theorem T10_setFrom_0 (S : CallFix p m c cX10_setFrom 3 s args wsX10_setFrom RX10) (hr : meth.sig.returnType = (some .int)) (hlo : meth.locks = false) {out : Int32 × PH} {h : PH} {a0 : Nat} {x1 : Int32} (f : F10_setFrom_0  h a0 x1 = some out) {H : Heap} {locs : List Loc} (I : ph_I D cy b A fl h s H locs) {ls : Array Slot} (hl : lv_has ls 3 [(0, .ref (b + a0)), (1, .int x1)]) : W p l e ({ frames := 1, cells := 0, slots := 0, locals := 21 } : Room) s m args below meth c H locs 0 0 (MQ below (va_Qi (fun (r : Int32) (u : PH) => (r, u) = out) (ph_B D cy b A fl) A) args s 0 0 A) (F0 m 0 ls []) := by
  unfold F10_setFrom_0 at f
  refine lv_iconst (v := 0) S.1 S.2.1 dX10_setFrom_0 (by decide) ?_
  refine lv_istore_n (lv' := [(2, .int 0), (0, .ref (b + a0)), (1, .int x1)]) S.1 S.2.1 dX10_setFrom_1 rfl hl (by decide) rfl (fun ls hl => ?_)
  exact T10_setFrom_2 S hr hlo  1024 f I (lv_sub hl [1, 2, 0] rfl)
def F10_setFrom (h : PH) (a0 : Nat) (x1 : Int32) : Option (Int32 × PH) := cond (okO h a0 10) (F10_setFrom_0 h a0 x1) none
theorem M10_setFrom (l : Launch) (D : va_G) (cy : Nat → ClassId) (b : Nat) (A : Nat → Prop) (fl : Bool) {h : PH} {a0 : Nat} {x1 : Int32} {out : Int32 × PH} (f : F10_setFrom h a0 x1 = some out) : Met l yX10_setFrom wsX10_setFrom ({ frames := 1, cells := 0, slots := 0, locals := 21 } : Room) (va_Pc [.ref (b + a0), .int x1] (ph_B D cy b A fl h)) (va_Qi (fun (r : Int32) (u : PH) => (r, u) = out) (ph_B D cy b A fl) A) 0 0 A :=
  o_met (by decide) rfl (Nat.le_of_ble_eq_true rfl) rfl (fun p e s m below meth c S hr hlo hnm ls hl I => T10_setFrom_0 S hr hlo ((gd f).2) I (lv_sub hl [0, 1] rfl))
theorem lf4_isIn_21 : Fl wsX4_isIn RX4 21 4 8 := ⟨RX4, TX4, 11, rfl, by decide, (fun w h9 => List.mem_cons_of_mem _ (List.mem_append_right _ h9)), (List.mem_cons_of_mem _ (List.mem_append_left _ (List.mem_of_getElem? (i := 0) rfl)))⟩
theorem cd4_isIn : Cd yX4_isIn 2 := ⟨by decide, by decide, by decide +kernel⟩
def F4_isIn_0  (h : PH) (a0 : Nat) (x1 : Int32) (x2 : Int32) : Option (Int32 × PH) := (gR h a0 4 8).bind fun r1 => (aI h r1 0 x1).bind fun v4 => if x2 < v4 then (rz 0 h) else (rz 1 h)
set_option maxHeartbeats 4000000 in
set_option maxRecDepth 100000 in
theorem T4_isIn_0 (S : CallFix p m c cX4_isIn 3 s args wsX4_isIn RX4) (hr : meth.sig.returnType = (some .boolean)) (hlo : meth.locks = false) {out : Int32 × PH} {h : PH} {a0 : Nat} {x1 : Int32} {x2 : Int32} (f : F4_isIn_0  h a0 x1 x2 = some out) {H : Heap} {locs : List Loc} (I : ph_I D cy b A fl h s H locs) {ls : Array Slot} (hl : lv_has ls 3 [(0, .ref (b + a0)), (1, .int x1), (2, .int x2)]) : W p l e ({ frames := 0, cells := 0, slots := 0, locals := 0 } : Room) s m args below meth c H locs 0 0 (MQ below (va_Qi (fun (r : Int32) (u : PH) => (r, u) = out) (ph_B D cy b A fl) A) args s 0 0 A) (F0 m 0 ls []) := by
  unfold F4_isIn_0 at f
  refine lv_aload_n S.1 S.2.1 dX4_isIn_0 rfl (lv_at hl 0 rfl) ?_
  obtain ⟨r1, e2, f⟩ := ob f
  refine o_gR S lf4_isIn_21 I e2 dX4_isIn_1 ?_
  refine lv_iload_n S.1 S.2.1 dX4_isIn_4 rfl (lv_at hl 1 rfl) ?_
  obtain ⟨v4, e3, f⟩ := ob f
  refine o_iald S I e3 dX4_isIn_5 ?_
  refine lv_iload_n S.1 S.2.1 dX4_isIn_6 rfl (lv_at hl 2 rfl) ?_
  refine lv_icmp_gt (tgt := 14) S.1 S.2.1 dX4_isIn_7 (by decide) (fun q5 => ?_) (fun q5 => ?_)
  · have f := (if_pos q5).symm.trans f
    refine lv_iconst (v := 0) S.1 S.2.1 dX4_isIn_14 (by decide) ?_
    exact o_zret S hr hlo I f dX4_isIn_15
  · have f := (if_neg q5).symm.trans f
    refine lv_iconst (v := 1) S.1 S.2.1 dX4_isIn_10 (by decide) ?_
    refine lv_goto (tgt := 15) S.1 S.2.1 dX4_isIn_11 (by decide) ?_
    exact o_zret S hr hlo I f dX4_isIn_15
def F4_isIn (h : PH) (a0 : Nat) (x1 : Int32) (x2 : Int32) : Option (Int32 × PH) := cond (okO h a0 4) (F4_isIn_0 h a0 x1 x2) none
theorem M4_isIn (l : Launch) (D : va_G) (cy : Nat → ClassId) (b : Nat) (A : Nat → Prop) (fl : Bool) {h : PH} {a0 : Nat} {x1 : Int32} {x2 : Int32} {out : Int32 × PH} (f : F4_isIn h a0 x1 x2 = some out) : Met l yX4_isIn wsX4_isIn ({ frames := 0, cells := 0, slots := 0, locals := 0 } : Room) (va_Pc [.ref (b + a0), .int x1, .int x2] (ph_B D cy b A fl h)) (va_Qi (fun (r : Int32) (u : PH) => (r, u) = out) (ph_B D cy b A fl) A) 0 0 A :=
  o_met (by decide) rfl (Nat.le_of_ble_eq_true rfl) rfl (fun p e s m below meth c S hr hlo hnm ls hl I => T4_isIn_0 S hr hlo ((gd f).2) I (lv_sub hl [0, 1, 2] rfl))
theorem lf4_beginMinute_24 : Fl wsX4_beginMinute RX4 24 4 9 := ⟨RX4, TX4, 11, rfl, by decide, (fun w h9 => List.mem_cons_of_mem _ (List.mem_append_right _ h9)), (List.mem_cons_of_mem _ (List.mem_append_left _ (List.mem_of_getElem? (i := 2) rfl)))⟩
theorem lf4_beginMinute_30 : Fl wsX4_beginMinute RX4 30 4 0 := ⟨RX4, TX4, 11, rfl, by decide, (fun w h9 => List.mem_cons_of_mem _ (List.mem_append_right _ h9)), (List.mem_cons_of_mem _ (List.mem_append_left _ (List.mem_of_getElem? (i := 0) rfl)))⟩
theorem lf4_beginMinute_21 : Fl wsX4_beginMinute RX4 21 4 8 := ⟨RX4, TX4, 11, rfl, by decide, (fun w h9 => List.mem_cons_of_mem _ (List.mem_append_right _ h9)), (List.mem_cons_of_mem _ (List.mem_append_left _ (List.mem_of_getElem? (i := 1) rfl)))⟩
theorem lp4_beginMinute_30 : Pl wsX4_beginMinute RX4 30 4 0 .int := ⟨RX4, TX4, 11, tyX4, rfl, by decide, (fun w h9 => List.mem_cons_of_mem _ (List.mem_append_right _ h9)), (List.mem_cons_of_mem _ (List.mem_append_left _ (List.mem_of_getElem? (i := 0) rfl))), tyX4_ok, nmX4, rfl, rfl⟩
theorem cd4_beginMinute : Cd yX4_beginMinute 1 := ⟨by decide, by decide, by decide +kernel⟩
def F4_beginMinute_36 (k12 : PH → Nat → Int32 → Int32 → Option (PH)) (h : PH) (a0 : Nat) (x1 : Int32) (x2 : Int32) : Option (PH) := (gR h a0 4 9).bind fun r1 => (sI h r1 0 x2 0).bind fun h4 => k12 h4 a0 x1 (x2 + 1)
set_option maxHeartbeats 4000000 in
set_option maxRecDepth 100000 in
theorem T4_beginMinute_36 (S : CallFix p m c cX4_beginMinute 3 s args wsX4_beginMinute RX4) (hr : meth.sig.returnType = none) (hlo : meth.locks = false) {out : PH} {k12 : PH → Nat → Int32 → Int32 → Option (PH)} (hk12 : ∀ {h : PH} {a0 : Nat} {x1 : Int32} {x2 : Int32}, k12 h a0 x1 x2 = some out → ∀ (H : Heap) (locs : List Loc), ph_I D cy b A fl h s H locs → ∀ (ls : Array Slot), lv_has ls 3 [(0, .ref (b + a0)), (1, .int x1), (2, .int x2)] → W p l e ({ frames := 1, cells := 0, slots := 0, locals := 22 } : Room) s m args below meth c H locs 0 0 (MQ below (va_Qv (fun (u : PH) => u = out) (ph_B D cy b A fl) A) args s 0 0 A) (F0 m 12 ls [])) {h : PH} {a0 : Nat} {x1 : Int32} {x2 : Int32} (f : F4_beginMinute_36 k12 h a0 x1 x2 = some out) {H : Heap} {locs : List Loc} (I : ph_I D cy b A fl h s H locs) {ls : Array Slot} (hl : lv_has ls 3 [(0, .ref (b + a0)), (1, .int x1), (2, .int x2)]) : W p l e ({ frames := 1, cells := 0, slots := 0, locals := 22 } : Room) s m args below meth c H locs 0 0 (MQ below (va_Qv (fun (u : PH) => u = out) (ph_B D cy b A fl) A) args s 0 0 A) (F0 m 36 ls []) := by
  unfold F4_beginMinute_36 at f
  refine lv_aload_n S.1 S.2.1 dX4_beginMinute_36 rfl (lv_at hl 0 rfl) ?_
  obtain ⟨r1, e2, f⟩ := ob f
  refine o_gR S lf4_beginMinute_24 I e2 dX4_beginMinute_37 ?_
  refine lv_iload_n S.1 S.2.1 dX4_beginMinute_40 rfl (lv_at hl 2 rfl) ?_
  refine lv_iconst (v := 0) S.1 S.2.1 dX4_beginMinute_41 (by decide) ?_
  obtain ⟨h4, e3, f⟩ := ob f
  refine o_iast S I e3 dX4_beginMinute_42 (fun H locs I => ?_)
  refine lv_iinc (v := (x2 + 1)) (lv' := [(2, .int (x2 + 1)), (0, .ref (b + a0)), (1, .int x1)]) S.1 S.2.1 dX4_beginMinute_43 hl (k := 2) rfl (congrArg (fun z => x2 + z) (by decide)) (by decide) rfl (fun ls hl => ?_)
  refine lv_goto (tgt := 12) S.1 S.2.1 dX4_beginMinute_46 (by decide) ?_
  exact hk12 f _ _ I _ (lv_sub hl [1, 2, 0] rfl)
def F4_beginMinute_12  : Nat → PH → Nat → Int32 → Int32 → Option (PH)
  | 0, _, _, _, _ => none
  | n + 1, h, a0, x1, x2 => if x1 ≤ x2 then (some h) else ((gI h a0 4 0).bind fun v2 => (F4_isIn h a0 x2 v2).bind fun o4 => if o4.1 = 0 then (F4_beginMinute_36 (fun h a0 x1 x2 => F4_beginMinute_12  n h a0 x1 x2) o4.2 a0 x1 x2) else ((gR o4.2 a0 4 8).bind fun r7 => (sI o4.2 r7 0 x2 0).bind fun h10 => F4_beginMinute_36 (fun h a0 x1 x2 => F4_beginMinute_12  n h a0 x1 x2) h10 a0 x1 x2))
set_option maxHeartbeats 4000000 in
set_option maxRecDepth 100000 in
theorem T4_beginMinute_12 (S : CallFix p m c cX4_beginMinute 3 s args wsX4_beginMinute RX4) (hr : meth.sig.returnType = none) (hlo : meth.locks = false) {out : PH} : ∀ (n : Nat) {h : PH} {a0 : Nat} {x1 : Int32} {x2 : Int32} (f : F4_beginMinute_12  n h a0 x1 x2 = some out) {H : Heap} {locs : List Loc} (I : ph_I D cy b A fl h s H locs) {ls : Array Slot} (hl : lv_has ls 3 [(0, .ref (b + a0)), (1, .int x1), (2, .int x2)]), W p l e ({ frames := 1, cells := 0, slots := 0, locals := 22 } : Room) s m args below meth c H locs 0 0 (MQ below (va_Qv (fun (u : PH) => u = out) (ph_B D cy b A fl) A) args s 0 0 A) (F0 m 12 ls []) := by
  intro n
  induction n with
  | zero => intro h a0 x1 x2 f; rw [F4_beginMinute_12] at f; cases f
  | succ n ih =>
    intro h a0 x1 x2 f H locs I ls hl
    rw [F4_beginMinute_12] at f
    refine lv_iload_n S.1 S.2.1 dX4_beginMinute_12 rfl (lv_at hl 2 rfl) ?_
    refine lv_iload_n S.1 S.2.1 dX4_beginMinute_13 rfl (lv_at hl 1 rfl) ?_
    refine lv_icmp_ge (tgt := 49) S.1 S.2.1 dX4_beginMinute_14 (by decide) (fun q1 => ?_) (fun q1 => ?_)
    · have f := (if_pos q1).symm.trans f
      exact o_vret S hr hlo I f dX4_beginMinute_49
    · have f := (if_neg q1).symm.trans f
      refine lv_aload_n S.1 S.2.1 dX4_beginMinute_17 rfl (lv_at hl 0 rfl) ?_
      refine lv_iload_n S.1 S.2.1 dX4_beginMinute_18 rfl (lv_at hl 2 rfl) ?_
      refine lv_aload_n S.1 S.2.1 dX4_beginMinute_19 rfl (lv_at hl 0 rfl) ?_
      obtain ⟨v2, e3, f⟩ := ob f
      refine o_gI S lf4_beginMinute_30 I e3 dX4_beginMinute_20 ?_
      obtain ⟨o4, e5, f⟩ := ob f
      refine o_Vi S (As := [.int x2, .int v2]) (rest := []) (ci := 4) (M4_isIn l D cy b A fl e5) gX4_beginMinute_X4_isIn rfl rfl rfl cd4_isIn ⟨Nat.le_of_ble_eq_true rfl, Nat.le_of_ble_eq_true rfl⟩ I (gd e5).1 clX4 rfl rfl hl.1 rfl (Nat.le_of_ble_eq_true rfl) dX4_beginMinute_23 ⟨Nat.le_of_ble_eq_true rfl, Nat.le_of_ble_eq_true rfl⟩ (fun H locs I => ?_)
      refine lv_if_eq (tgt := 36) S.1 S.2.1 dX4_beginMinute_26 (by decide) (fun q6 => ?_) (fun q6 => ?_)
      · have f := (if_pos q6).symm.trans f
        exact T4_beginMinute_36 S hr hlo (fun f _ _ I _ hl => ih f I hl) f I (lv_sub hl [0, 1, 2] rfl)
      · have f := (if_neg q6).symm.trans f
        refine lv_aload_n S.1 S.2.1 dX4_beginMinute_29 rfl (lv_at hl 0 rfl) ?_
        obtain ⟨r7, e8, f⟩ := ob f
        refine o_gR S lf4_beginMinute_21 I e8 dX4_beginMinute_30 ?_
        refine lv_iload_n S.1 S.2.1 dX4_beginMinute_33 rfl (lv_at hl 2 rfl) ?_
        refine lv_iconst (v := 0) S.1 S.2.1 dX4_beginMinute_34 (by decide) ?_
        obtain ⟨h10, e9, f⟩ := ob f
        refine o_iast S I e9 dX4_beginMinute_35 (fun H locs I => ?_)
        exact T4_beginMinute_36 S hr hlo (fun f _ _ I _ hl => ih f I hl) f I (lv_sub hl [0, 1, 2] rfl)
def F4_beginMinute_0  (h : PH) (a0 : Nat) (x1 : Int32) : Option (PH) := (gI h a0 4 0).bind fun v1 => (pI h a0 4 0 (v1 + 1)).bind fun h3 => F4_beginMinute_12  1024 h3 a0 x1 0
set_option maxHeartbeats 4000000 in
set_option maxRecDepth 100000 in
theorem T4_beginMinute_0 (S : CallFix p m c cX4_beginMinute 3 s args wsX4_beginMinute RX4) (hr : meth.sig.returnType = none) (hlo : meth.locks = false) {out : PH} {h : PH} {a0 : Nat} {x1 : Int32} (f : F4_beginMinute_0  h a0 x1 = some out) {H : Heap} {locs : List Loc} (I : ph_I D cy b A fl h s H locs) {ls : Array Slot} (hl : lv_has ls 3 [(0, .ref (b + a0)), (1, .int x1)]) : W p l e ({ frames := 1, cells := 0, slots := 0, locals := 22 } : Room) s m args below meth c H locs 0 0 (MQ below (va_Qv (fun (u : PH) => u = out) (ph_B D cy b A fl) A) args s 0 0 A) (F0 m 0 ls []) := by
  unfold F4_beginMinute_0 at f
  refine lv_aload_n S.1 S.2.1 dX4_beginMinute_0 rfl (lv_at hl 0 rfl) ?_
  refine lv_dup S.1 S.2.1 dX4_beginMinute_1 rfl ?_
  obtain ⟨v1, e2, f⟩ := ob f
  refine o_gI S lf4_beginMinute_30 I e2 dX4_beginMinute_2 ?_
  refine lv_iconst (v := 1) S.1 S.2.1 dX4_beginMinute_5 (by decide) ?_
  refine lv_iadd S.1 S.2.1 dX4_beginMinute_6 ?_
  obtain ⟨h3, e4, f⟩ := ob f
  refine o_pI S lp4_beginMinute_30 I e4 dX4_beginMinute_7 (fun H locs I => ?_)
  refine lv_iconst (v := 0) S.1 S.2.1 dX4_beginMinute_10 (by decide) ?_
  refine lv_istore_n (lv' := [(2, .int 0), (0, .ref (b + a0)), (1, .int x1)]) S.1 S.2.1 dX4_beginMinute_11 rfl hl (by decide) rfl (fun ls hl => ?_)
  exact T4_beginMinute_12 S hr hlo  1024 f I (lv_sub hl [1, 2, 0] rfl)
def F4_beginMinute (h : PH) (a0 : Nat) (x1 : Int32) : Option (PH) := cond (okO h a0 4) (F4_beginMinute_0 h a0 x1) none
theorem M4_beginMinute (l : Launch) (D : va_G) (cy : Nat → ClassId) (b : Nat) (A : Nat → Prop) (fl : Bool) {h : PH} {a0 : Nat} {x1 : Int32} {out : PH} (f : F4_beginMinute h a0 x1 = some out) : Met l yX4_beginMinute wsX4_beginMinute ({ frames := 1, cells := 0, slots := 0, locals := 22 } : Room) (va_Pc [.ref (b + a0), .int x1] (ph_B D cy b A fl h)) (va_Qv (fun (u : PH) => u = out) (ph_B D cy b A fl) A) 0 0 A :=
  o_met (by decide) rfl (Nat.le_of_ble_eq_true rfl) rfl (fun p e s m below meth c S hr hlo hnm ls hl I => T4_beginMinute_0 S hr hlo ((gd f).2) I (lv_sub hl [0, 1] rfl))
theorem lf4_takeAll_30 : Fl wsX4_takeAll RX4 30 4 0 := ⟨RX4, TX4, 11, rfl, by decide, (fun w h9 => List.mem_cons_of_mem _ (List.mem_append_right _ h9)), (List.mem_cons_of_mem _ (List.mem_append_left _ (List.mem_of_getElem? (i := 0) rfl)))⟩
theorem lp4_takeAll_30 : Pl wsX4_takeAll RX4 30 4 0 .int := ⟨RX4, TX4, 11, tyX4, rfl, by decide, (fun w h9 => List.mem_cons_of_mem _ (List.mem_append_right _ h9)), (List.mem_cons_of_mem _ (List.mem_append_left _ (List.mem_of_getElem? (i := 0) rfl))), tyX4_ok, nmX4, rfl, rfl⟩
theorem lf4_takeAll_39 : Fl wsX4_takeAll RX4 39 4 1 := ⟨RX4, TX4, 11, rfl, by decide, (fun w h9 => List.mem_cons_of_mem _ (List.mem_append_right _ h9)), (List.mem_cons_of_mem _ (List.mem_append_left _ (List.mem_of_getElem? (i := 1) rfl)))⟩
theorem lp4_takeAll_39 : Pl wsX4_takeAll RX4 39 4 1 .int := ⟨RX4, TX4, 11, tyX4, rfl, by decide, (fun w h9 => List.mem_cons_of_mem _ (List.mem_append_right _ h9)), (List.mem_cons_of_mem _ (List.mem_append_left _ (List.mem_of_getElem? (i := 1) rfl))), tyX4_ok, nmX4, rfl, rfl⟩
theorem lf4_takeAll_43 : Fl wsX4_takeAll RX4 43 4 2 := ⟨RX4, TX4, 11, rfl, by decide, (fun w h9 => List.mem_cons_of_mem _ (List.mem_append_right _ h9)), (List.mem_cons_of_mem _ (List.mem_append_left _ (List.mem_of_getElem? (i := 2) rfl)))⟩
theorem lp4_takeAll_43 : Pl wsX4_takeAll RX4 43 4 2 .int := ⟨RX4, TX4, 11, tyX4, rfl, by decide, (fun w h9 => List.mem_cons_of_mem _ (List.mem_append_right _ h9)), (List.mem_cons_of_mem _ (List.mem_append_left _ (List.mem_of_getElem? (i := 2) rfl))), tyX4_ok, nmX4, rfl, rfl⟩
theorem lf4_takeAll_46 : Fl wsX4_takeAll RX4 46 4 3 := ⟨RX4, TX4, 11, rfl, by decide, (fun w h9 => List.mem_cons_of_mem _ (List.mem_append_right _ h9)), (List.mem_cons_of_mem _ (List.mem_append_left _ (List.mem_of_getElem? (i := 3) rfl)))⟩
theorem lp4_takeAll_46 : Pl wsX4_takeAll RX4 46 4 3 .int := ⟨RX4, TX4, 11, tyX4, rfl, by decide, (fun w h9 => List.mem_cons_of_mem _ (List.mem_append_right _ h9)), (List.mem_cons_of_mem _ (List.mem_append_left _ (List.mem_of_getElem? (i := 3) rfl))), tyX4_ok, nmX4, rfl, rfl⟩
theorem lf4_takeAll_49 : Fl wsX4_takeAll RX4 49 4 4 := ⟨RX4, TX4, 11, rfl, by decide, (fun w h9 => List.mem_cons_of_mem _ (List.mem_append_right _ h9)), (List.mem_cons_of_mem _ (List.mem_append_left _ (List.mem_of_getElem? (i := 4) rfl)))⟩
theorem lp4_takeAll_49 : Pl wsX4_takeAll RX4 49 4 4 .int := ⟨RX4, TX4, 11, tyX4, rfl, by decide, (fun w h9 => List.mem_cons_of_mem _ (List.mem_append_right _ h9)), (List.mem_cons_of_mem _ (List.mem_append_left _ (List.mem_of_getElem? (i := 4) rfl))), tyX4_ok, nmX4, rfl, rfl⟩
theorem lf4_takeAll_9 : Fl wsX4_takeAll RX4 9 4 5 := ⟨RX4, TX4, 11, rfl, by decide, (fun w h9 => List.mem_cons_of_mem _ (List.mem_append_right _ h9)), (List.mem_cons_of_mem _ (List.mem_append_left _ (List.mem_of_getElem? (i := 5) rfl)))⟩
theorem la4_takeAll_59 : Al wsX4_takeAll RX4 59 := ⟨(List.mem_cons_of_mem _ (List.mem_append_left _ (List.mem_of_getElem? (i := 6) rfl))), (List.mem_cons_of_mem _ (List.mem_append_left _ (List.mem_of_getElem? (i := 7) rfl))), (List.mem_cons_of_mem _ (List.mem_append_left _ (List.mem_of_getElem? (i := 8) rfl))), (List.mem_cons_of_mem _ (List.mem_append_left _ (List.mem_of_getElem? (i := 9) rfl)))⟩
theorem lf4_takeAll_15 : Fl wsX4_takeAll RX4 15 4 6 := ⟨RX4, TX4, 11, rfl, by decide, (fun w h9 => List.mem_cons_of_mem _ (List.mem_append_right _ h9)), (List.mem_cons_of_mem _ (List.mem_append_left _ (List.mem_of_getElem? (i := 10) rfl)))⟩
theorem lf4_takeAll_18 : Fl wsX4_takeAll RX4 18 4 7 := ⟨RX4, TX4, 11, rfl, by decide, (fun w h9 => List.mem_cons_of_mem _ (List.mem_append_right _ h9)), (List.mem_cons_of_mem _ (List.mem_append_left _ (List.mem_of_getElem? (i := 11) rfl)))⟩
theorem lf4_takeAll_21 : Fl wsX4_takeAll RX4 21 4 8 := ⟨RX4, TX4, 11, rfl, by decide, (fun w h9 => List.mem_cons_of_mem _ (List.mem_append_right _ h9)), (List.mem_cons_of_mem _ (List.mem_append_left _ (List.mem_of_getElem? (i := 12) rfl)))⟩
theorem lf4_takeAll_24 : Fl wsX4_takeAll RX4 24 4 9 := ⟨RX4, TX4, 11, rfl, by decide, (fun w h9 => List.mem_cons_of_mem _ (List.mem_append_right _ h9)), (List.mem_cons_of_mem _ (List.mem_append_left _ (List.mem_of_getElem? (i := 13) rfl)))⟩
theorem lf4_takeAll_27 : Fl wsX4_takeAll RX4 27 4 10 := ⟨RX4, TX4, 11, rfl, by decide, (fun w h9 => List.mem_cons_of_mem _ (List.mem_append_right _ h9)), (List.mem_cons_of_mem _ (List.mem_append_left _ (List.mem_of_getElem? (i := 14) rfl)))⟩
theorem cd4_takeAll : Cd yX4_takeAll 1 := ⟨by decide, by decide, by decide +kernel⟩
def F4_takeAll_0  (h : PH) (a0 : Nat) (a1 : Nat) : Option (PH) := (gI h a1 4 0).bind fun v1 => (pI h a0 4 0 v1).bind fun h3 => (gI h3 a1 4 1).bind fun v5 => (pI h3 a0 4 1 v5).bind fun h7 => (gI h7 a1 4 2).bind fun v9 => (pI h7 a0 4 2 v9).bind fun h11 => (gI h11 a1 4 3).bind fun v13 => (pI h11 a0 4 3 v13).bind fun h15 => (gI h15 a1 4 4).bind fun v17 => (pI h15 a0 4 4 v17).bind fun h19 => (gR h19 a1 4 5).bind fun r21 => (gR h19 a0 4 5).bind fun r23 => (cpI h19 r21 0 r23 0 5).bind fun h25 => (gR h25 a1 4 6).bind fun r27 => (gR h25 a0 4 6).bind fun r29 => (cpI h25 r27 0 r29 0 5).bind fun h31 => (gR h31 a1 4 7).bind fun r33 => (gR h31 a0 4 7).bind fun r35 => (cpI h31 r33 0 r35 0 5).bind fun h37 => (gR h37 a1 4 8).bind fun r39 => (gR h37 a0 4 8).bind fun r41 => (cpI h37 r39 0 r41 0 5).bind fun h43 => (gR h43 a1 4 9).bind fun r45 => (gR h43 a0 4 9).bind fun r47 => (cpI h43 r45 0 r47 0 5).bind fun h49 => (gR h49 a1 4 10).bind fun r51 => (gR h49 a0 4 10).bind fun r53 => (cpI h49 r51 0 r53 0 28).bind fun h55 => some h55
set_option maxHeartbeats 4000000 in
set_option maxRecDepth 100000 in
theorem T4_takeAll_0 (S : CallFix p m c cX4_takeAll 2 s args wsX4_takeAll RX4) (hr : meth.sig.returnType = none) (hlo : meth.locks = false) {out : PH} {h : PH} {a0 : Nat} {a1 : Nat} (f : F4_takeAll_0  h a0 a1 = some out) {H : Heap} {locs : List Loc} (I : ph_I D cy b A false h s H locs) {ls : Array Slot} (hl : lv_has ls 2 [(0, .ref (b + a0)), (1, .ref (b + a1))]) : W p l e ({ frames := 1, cells := 0, slots := 0, locals := 40 } : Room) s m args below meth c H locs 0 0 (MQ below (va_Qv (fun (u : PH) => u = out) (ph_B D cy b A false) A) args s 0 0 A) (F0 m 0 ls []) := by
  unfold F4_takeAll_0 at f
  refine lv_aload_n S.1 S.2.1 dX4_takeAll_0 rfl (lv_at hl 0 rfl) ?_
  refine lv_aload_n S.1 S.2.1 dX4_takeAll_1 rfl (lv_at hl 1 rfl) ?_
  obtain ⟨v1, e2, f⟩ := ob f
  refine o_gI S lf4_takeAll_30 I e2 dX4_takeAll_2 ?_
  obtain ⟨h3, e4, f⟩ := ob f
  refine o_pI S lp4_takeAll_30 I e4 dX4_takeAll_5 (fun H locs I => ?_)
  refine lv_aload_n S.1 S.2.1 dX4_takeAll_8 rfl (lv_at hl 0 rfl) ?_
  refine lv_aload_n S.1 S.2.1 dX4_takeAll_9 rfl (lv_at hl 1 rfl) ?_
  obtain ⟨v5, e6, f⟩ := ob f
  refine o_gI S lf4_takeAll_39 I e6 dX4_takeAll_10 ?_
  obtain ⟨h7, e8, f⟩ := ob f
  refine o_pI S lp4_takeAll_39 I e8 dX4_takeAll_13 (fun H locs I => ?_)
  refine lv_aload_n S.1 S.2.1 dX4_takeAll_16 rfl (lv_at hl 0 rfl) ?_
  refine lv_aload_n S.1 S.2.1 dX4_takeAll_17 rfl (lv_at hl 1 rfl) ?_
  obtain ⟨v9, e10, f⟩ := ob f
  refine o_gI S lf4_takeAll_43 I e10 dX4_takeAll_18 ?_
  obtain ⟨h11, e12, f⟩ := ob f
  refine o_pI S lp4_takeAll_43 I e12 dX4_takeAll_21 (fun H locs I => ?_)
  refine lv_aload_n S.1 S.2.1 dX4_takeAll_24 rfl (lv_at hl 0 rfl) ?_
  refine lv_aload_n S.1 S.2.1 dX4_takeAll_25 rfl (lv_at hl 1 rfl) ?_
  obtain ⟨v13, e14, f⟩ := ob f
  refine o_gI S lf4_takeAll_46 I e14 dX4_takeAll_26 ?_
  obtain ⟨h15, e16, f⟩ := ob f
  refine o_pI S lp4_takeAll_46 I e16 dX4_takeAll_29 (fun H locs I => ?_)
  refine lv_aload_n S.1 S.2.1 dX4_takeAll_32 rfl (lv_at hl 0 rfl) ?_
  refine lv_aload_n S.1 S.2.1 dX4_takeAll_33 rfl (lv_at hl 1 rfl) ?_
  obtain ⟨v17, e18, f⟩ := ob f
  refine o_gI S lf4_takeAll_49 I e18 dX4_takeAll_34 ?_
  obtain ⟨h19, e20, f⟩ := ob f
  refine o_pI S lp4_takeAll_49 I e20 dX4_takeAll_37 (fun H locs I => ?_)
  refine lv_aload_n S.1 S.2.1 dX4_takeAll_40 rfl (lv_at hl 1 rfl) ?_
  obtain ⟨r21, e22, f⟩ := ob f
  refine o_gR S lf4_takeAll_9 I e22 dX4_takeAll_41 ?_
  refine lv_iconst (v := 0) S.1 S.2.1 dX4_takeAll_44 (by decide) ?_
  refine lv_aload_n S.1 S.2.1 dX4_takeAll_45 rfl (lv_at hl 0 rfl) ?_
  obtain ⟨r23, e24, f⟩ := ob f
  refine o_gR S lf4_takeAll_9 I e24 dX4_takeAll_46 ?_
  refine lv_iconst (v := 0) S.1 S.2.1 dX4_takeAll_49 (by decide) ?_
  refine lv_iconst (v := 5) S.1 S.2.1 dX4_takeAll_50 (by decide) ?_
  obtain ⟨h25, e26, f⟩ := ob f
  refine o_copy S la4_takeAll_59 hl.1 I e26 (Nat.le_of_ble_eq_true rfl) (Nat.le_of_ble_eq_true rfl) dX4_takeAll_51 (fun H locs I => ?_)
  refine lv_aload_n S.1 S.2.1 dX4_takeAll_54 rfl (lv_at hl 1 rfl) ?_
  obtain ⟨r27, e28, f⟩ := ob f
  refine o_gR S lf4_takeAll_15 I e28 dX4_takeAll_55 ?_
  refine lv_iconst (v := 0) S.1 S.2.1 dX4_takeAll_58 (by decide) ?_
  refine lv_aload_n S.1 S.2.1 dX4_takeAll_59 rfl (lv_at hl 0 rfl) ?_
  obtain ⟨r29, e30, f⟩ := ob f
  refine o_gR S lf4_takeAll_15 I e30 dX4_takeAll_60 ?_
  refine lv_iconst (v := 0) S.1 S.2.1 dX4_takeAll_63 (by decide) ?_
  refine lv_iconst (v := 5) S.1 S.2.1 dX4_takeAll_64 (by decide) ?_
  obtain ⟨h31, e32, f⟩ := ob f
  refine o_copy S la4_takeAll_59 hl.1 I e32 (Nat.le_of_ble_eq_true rfl) (Nat.le_of_ble_eq_true rfl) dX4_takeAll_65 (fun H locs I => ?_)
  refine lv_aload_n S.1 S.2.1 dX4_takeAll_68 rfl (lv_at hl 1 rfl) ?_
  obtain ⟨r33, e34, f⟩ := ob f
  refine o_gR S lf4_takeAll_18 I e34 dX4_takeAll_69 ?_
  refine lv_iconst (v := 0) S.1 S.2.1 dX4_takeAll_72 (by decide) ?_
  refine lv_aload_n S.1 S.2.1 dX4_takeAll_73 rfl (lv_at hl 0 rfl) ?_
  obtain ⟨r35, e36, f⟩ := ob f
  refine o_gR S lf4_takeAll_18 I e36 dX4_takeAll_74 ?_
  refine lv_iconst (v := 0) S.1 S.2.1 dX4_takeAll_77 (by decide) ?_
  refine lv_iconst (v := 5) S.1 S.2.1 dX4_takeAll_78 (by decide) ?_
  obtain ⟨h37, e38, f⟩ := ob f
  refine o_copy S la4_takeAll_59 hl.1 I e38 (Nat.le_of_ble_eq_true rfl) (Nat.le_of_ble_eq_true rfl) dX4_takeAll_79 (fun H locs I => ?_)
  refine lv_aload_n S.1 S.2.1 dX4_takeAll_82 rfl (lv_at hl 1 rfl) ?_
  obtain ⟨r39, e40, f⟩ := ob f
  refine o_gR S lf4_takeAll_21 I e40 dX4_takeAll_83 ?_
  refine lv_iconst (v := 0) S.1 S.2.1 dX4_takeAll_86 (by decide) ?_
  refine lv_aload_n S.1 S.2.1 dX4_takeAll_87 rfl (lv_at hl 0 rfl) ?_
  obtain ⟨r41, e42, f⟩ := ob f
  refine o_gR S lf4_takeAll_21 I e42 dX4_takeAll_88 ?_
  refine lv_iconst (v := 0) S.1 S.2.1 dX4_takeAll_91 (by decide) ?_
  refine lv_iconst (v := 5) S.1 S.2.1 dX4_takeAll_92 (by decide) ?_
  obtain ⟨h43, e44, f⟩ := ob f
  refine o_copy S la4_takeAll_59 hl.1 I e44 (Nat.le_of_ble_eq_true rfl) (Nat.le_of_ble_eq_true rfl) dX4_takeAll_93 (fun H locs I => ?_)
  refine lv_aload_n S.1 S.2.1 dX4_takeAll_96 rfl (lv_at hl 1 rfl) ?_
  obtain ⟨r45, e46, f⟩ := ob f
  refine o_gR S lf4_takeAll_24 I e46 dX4_takeAll_97 ?_
  refine lv_iconst (v := 0) S.1 S.2.1 dX4_takeAll_100 (by decide) ?_
  refine lv_aload_n S.1 S.2.1 dX4_takeAll_101 rfl (lv_at hl 0 rfl) ?_
  obtain ⟨r47, e48, f⟩ := ob f
  refine o_gR S lf4_takeAll_24 I e48 dX4_takeAll_102 ?_
  refine lv_iconst (v := 0) S.1 S.2.1 dX4_takeAll_105 (by decide) ?_
  refine lv_iconst (v := 5) S.1 S.2.1 dX4_takeAll_106 (by decide) ?_
  obtain ⟨h49, e50, f⟩ := ob f
  refine o_copy S la4_takeAll_59 hl.1 I e50 (Nat.le_of_ble_eq_true rfl) (Nat.le_of_ble_eq_true rfl) dX4_takeAll_107 (fun H locs I => ?_)
  refine lv_aload_n S.1 S.2.1 dX4_takeAll_110 rfl (lv_at hl 1 rfl) ?_
  obtain ⟨r51, e52, f⟩ := ob f
  refine o_gR S lf4_takeAll_27 I e52 dX4_takeAll_111 ?_
  refine lv_iconst (v := 0) S.1 S.2.1 dX4_takeAll_114 (by decide) ?_
  refine lv_aload_n S.1 S.2.1 dX4_takeAll_115 rfl (lv_at hl 0 rfl) ?_
  obtain ⟨r53, e54, f⟩ := ob f
  refine o_gR S lf4_takeAll_27 I e54 dX4_takeAll_116 ?_
  refine lv_iconst (v := 0) S.1 S.2.1 dX4_takeAll_119 (by decide) ?_
  refine lv_bipush (v := 28) S.1 S.2.1 dX4_takeAll_120 (by decide) ?_
  obtain ⟨h55, e56, f⟩ := ob f
  refine o_copy S la4_takeAll_59 hl.1 I e56 (Nat.le_of_ble_eq_true rfl) (Nat.le_of_ble_eq_true rfl) dX4_takeAll_122 (fun H locs I => ?_)
  exact o_vret S hr hlo I f dX4_takeAll_125
def F4_takeAll (h : PH) (a0 : Nat) (a1 : Nat) : Option (PH) := cond (okO h a0 4) (F4_takeAll_0 h a0 a1) none
theorem M4_takeAll (l : Launch) (D : va_G) (cy : Nat → ClassId) (b : Nat) (A : Nat → Prop) {h : PH} {a0 : Nat} {a1 : Nat} {out : PH} (f : F4_takeAll h a0 a1 = some out) : Met l yX4_takeAll wsX4_takeAll ({ frames := 1, cells := 0, slots := 0, locals := 40 } : Room) (va_Pc [.ref (b + a0), .ref (b + a1)] (ph_B D cy b A false h)) (va_Qv (fun (u : PH) => u = out) (ph_B D cy b A false) A) 0 0 A :=
  o_met (by decide) rfl (Nat.le_of_ble_eq_true rfl) rfl (fun p e s m below meth c S hr hlo hnm ls hl I => T4_takeAll_0 S hr hlo ((gd f).2) I (lv_sub hl [0, 1] rfl))
theorem lf11_isSurfer_18 : Fl wsX11_isSurfer RX11 18 11 3 := ⟨RX11, TX11, 14, rfl, by decide, (fun w h9 => List.mem_cons_of_mem _ (List.mem_append_left _ (List.mem_append_left _ (List.mem_append_right _ h9)))), (List.mem_cons_of_mem _ (List.mem_append_left _ (List.mem_append_left _ (List.mem_append_left _ (List.mem_of_getElem? (i := 0) rfl)))))⟩
theorem lf11_isSurfer_102 : Fl wsX11_isSurfer RX11 102 8 4 := ⟨RX8, TX8, 14, rfl, by decide, (fun w h9 => List.mem_cons_of_mem _ (List.mem_append_left _ (List.mem_append_right _ h9))), (List.mem_cons_of_mem _ (List.mem_append_left _ (List.mem_append_left _ (List.mem_append_left _ (List.mem_of_getElem? (i := 1) rfl)))))⟩
theorem lf11_isSurfer_106 : Fl wsX11_isSurfer RX11 106 1 0 := ⟨RX1, TX1, 7, rfl, by decide, (fun w h9 => List.mem_cons_of_mem _ (List.mem_append_right _ h9)), (List.mem_cons_of_mem _ (List.mem_append_left _ (List.mem_append_left _ (List.mem_append_left _ (List.mem_of_getElem? (i := 2) rfl)))))⟩
theorem cd11_isSurfer : Cd yX11_isSurfer 1 := ⟨by decide, by decide, by decide +kernel⟩
def F11_isSurfer_0  (h : PH) (a0 : Nat) (x1 : Int32) : Option (Int32 × PH) := if x1 < 0 then (rz 0 h) else ((gR h a0 11 3).bind fun r2 => (gR h r2 8 4).bind fun r4 => (gI h r4 1 0).bind fun v6 => if v6 ≤ x1 then (rz 0 h) else (rz 1 h))
set_option maxHeartbeats 4000000 in
set_option maxRecDepth 100000 in
theorem T11_isSurfer_0 (S : CallFix p m c cX11_isSurfer 2 s args wsX11_isSurfer RX11) (hr : meth.sig.returnType = (some .boolean)) (hlo : meth.locks = false) {out : Int32 × PH} {h : PH} {a0 : Nat} {x1 : Int32} (f : F11_isSurfer_0  h a0 x1 = some out) {H : Heap} {locs : List Loc} (I : ph_I D cy b A fl h s H locs) {ls : Array Slot} (hl : lv_has ls 2 [(0, .ref (b + a0)), (1, .int x1)]) : W p l e ({ frames := 0, cells := 0, slots := 0, locals := 0 } : Room) s m args below meth c H locs 0 0 (MQ below (va_Qi (fun (r : Int32) (u : PH) => (r, u) = out) (ph_B D cy b A fl) A) args s 0 0 A) (F0 m 0 ls []) := by
  unfold F11_isSurfer_0 at f
  refine lv_iload_n S.1 S.2.1 dX11_isSurfer_0 rfl (lv_at hl 1 rfl) ?_
  refine lv_if_lt (tgt := 22) S.1 S.2.1 dX11_isSurfer_1 (by decide) (fun q1 => ?_) (fun q1 => ?_)
  · have f := (if_pos q1).symm.trans f
    refine lv_iconst (v := 0) S.1 S.2.1 dX11_isSurfer_22 (by decide) ?_
    exact o_zret S hr hlo I f dX11_isSurfer_23
  · have f := (if_neg q1).symm.trans f
    refine lv_iload_n S.1 S.2.1 dX11_isSurfer_4 rfl (lv_at hl 1 rfl) ?_
    refine lv_aload_n S.1 S.2.1 dX11_isSurfer_5 rfl (lv_at hl 0 rfl) ?_
    obtain ⟨r2, e3, f⟩ := ob f
    refine o_gR S lf11_isSurfer_18 I e3 dX11_isSurfer_6 ?_
    obtain ⟨r4, e5, f⟩ := ob f
    refine o_gR S lf11_isSurfer_102 I e5 dX11_isSurfer_9 ?_
    obtain ⟨v6, e7, f⟩ := ob f
    refine o_gI S lf11_isSurfer_106 I e7 dX11_isSurfer_12 ?_
    refine lv_icmp_ge (tgt := 22) S.1 S.2.1 dX11_isSurfer_15 (by decide) (fun q8 => ?_) (fun q8 => ?_)
    · have f := (if_pos q8).symm.trans f
      refine lv_iconst (v := 0) S.1 S.2.1 dX11_isSurfer_22 (by decide) ?_
      exact o_zret S hr hlo I f dX11_isSurfer_23
    · have f := (if_neg q8).symm.trans f
      refine lv_iconst (v := 1) S.1 S.2.1 dX11_isSurfer_18 (by decide) ?_
      refine lv_goto (tgt := 23) S.1 S.2.1 dX11_isSurfer_19 (by decide) ?_
      exact o_zret S hr hlo I f dX11_isSurfer_23
def F11_isSurfer (h : PH) (a0 : Nat) (x1 : Int32) : Option (Int32 × PH) := cond (okO h a0 11) (F11_isSurfer_0 h a0 x1) none
theorem M11_isSurfer (l : Launch) (D : va_G) (cy : Nat → ClassId) (b : Nat) (A : Nat → Prop) (fl : Bool) {h : PH} {a0 : Nat} {x1 : Int32} {out : Int32 × PH} (f : F11_isSurfer h a0 x1 = some out) : Met l yX11_isSurfer wsX11_isSurfer ({ frames := 0, cells := 0, slots := 0, locals := 0 } : Room) (va_Pc [.ref (b + a0), .int x1] (ph_B D cy b A fl h)) (va_Qi (fun (r : Int32) (u : PH) => (r, u) = out) (ph_B D cy b A fl) A) 0 0 A :=
  o_met (by decide) rfl (Nat.le_of_ble_eq_true rfl) rfl (fun p e s m below meth c S hr hlo hnm ls hl I => T11_isSurfer_0 S hr hlo ((gd f).2) I (lv_sub hl [0, 1] rfl))
theorem lf11_count_18 : Fl wsX11_count RX11 18 11 3 := ⟨RX11, TX11, 14, rfl, by decide, (fun w h9 => List.mem_cons_of_mem _ (List.mem_append_left _ (List.mem_append_left _ (List.mem_append_left _ (List.mem_append_left _ (List.mem_append_left _ (List.mem_append_left _ (List.mem_append_right _ h9)))))))), (List.mem_cons_of_mem _ (List.mem_append_left _ (List.mem_append_left _ (List.mem_append_left _ (List.mem_append_left _ (List.mem_append_left _ (List.mem_append_left _ (List.mem_append_left _ (List.mem_append_left _ (List.mem_of_getElem? (i := 0) rfl))))))))))⟩
theorem lf11_count_173 : Fl wsX11_count RX11 173 8 0 := ⟨RX8, TX8, 14, rfl, by decide, (fun w h9 => List.mem_cons_of_mem _ (List.mem_append_left _ (List.mem_append_left _ (List.mem_append_left _ (List.mem_append_left _ (List.mem_append_left _ (List.mem_append_right _ h9))))))), (List.mem_cons_of_mem _ (List.mem_append_left _ (List.mem_append_left _ (List.mem_append_left _ (List.mem_append_left _ (List.mem_append_left _ (List.mem_append_left _ (List.mem_append_left _ (List.mem_append_left _ (List.mem_of_getElem? (i := 1) rfl))))))))))⟩
theorem lf11_count_381 : Fl wsX11_count RX11 381 8 1 := ⟨RX8, TX8, 14, rfl, by decide, (fun w h9 => List.mem_cons_of_mem _ (List.mem_append_left _ (List.mem_append_left _ (List.mem_append_left _ (List.mem_append_left _ (List.mem_append_left _ (List.mem_append_right _ h9))))))), (List.mem_cons_of_mem _ (List.mem_append_left _ (List.mem_append_left _ (List.mem_append_left _ (List.mem_append_left _ (List.mem_append_left _ (List.mem_append_left _ (List.mem_append_left _ (List.mem_append_left _ (List.mem_of_getElem? (i := 2) rfl))))))))))⟩
theorem lf11_count_102 : Fl wsX11_count RX11 102 8 4 := ⟨RX8, TX8, 14, rfl, by decide, (fun w h9 => List.mem_cons_of_mem _ (List.mem_append_left _ (List.mem_append_left _ (List.mem_append_left _ (List.mem_append_left _ (List.mem_append_left _ (List.mem_append_right _ h9))))))), (List.mem_cons_of_mem _ (List.mem_append_left _ (List.mem_append_left _ (List.mem_append_left _ (List.mem_append_left _ (List.mem_append_left _ (List.mem_append_left _ (List.mem_append_left _ (List.mem_append_left _ (List.mem_of_getElem? (i := 3) rfl))))))))))⟩
theorem lf11_count_106 : Fl wsX11_count RX11 106 1 0 := ⟨RX1, TX1, 7, rfl, by decide, (fun w h9 => List.mem_cons_of_mem _ (List.mem_append_left _ (List.mem_append_left _ (List.mem_append_left _ (List.mem_append_left _ (List.mem_append_right _ h9)))))), (List.mem_cons_of_mem _ (List.mem_append_left _ (List.mem_append_left _ (List.mem_append_left _ (List.mem_append_left _ (List.mem_append_left _ (List.mem_append_left _ (List.mem_append_left _ (List.mem_append_left _ (List.mem_of_getElem? (i := 4) rfl))))))))))⟩
theorem lf11_count_150 : Fl wsX11_count RX11 150 8 5 := ⟨RX8, TX8, 14, rfl, by decide, (fun w h9 => List.mem_cons_of_mem _ (List.mem_append_left _ (List.mem_append_left _ (List.mem_append_left _ (List.mem_append_left _ (List.mem_append_left _ (List.mem_append_right _ h9))))))), (List.mem_cons_of_mem _ (List.mem_append_left _ (List.mem_append_left _ (List.mem_append_left _ (List.mem_append_left _ (List.mem_append_left _ (List.mem_append_left _ (List.mem_append_left _ (List.mem_append_left _ (List.mem_of_getElem? (i := 5) rfl))))))))))⟩
theorem lf11_count_253 : Fl wsX11_count RX11 253 10 0 := ⟨RX10, TX10, 8, rfl, by decide, (fun w h9 => List.mem_cons_of_mem _ (List.mem_append_left _ (List.mem_append_left _ (List.mem_append_left _ (List.mem_append_right _ h9))))), (List.mem_cons_of_mem _ (List.mem_append_left _ (List.mem_append_left _ (List.mem_append_left _ (List.mem_append_left _ (List.mem_append_left _ (List.mem_append_left _ (List.mem_append_left _ (List.mem_append_left _ (List.mem_of_getElem? (i := 6) rfl))))))))))⟩
theorem lf11_count_299 : Fl wsX11_count RX11 299 10 1 := ⟨RX10, TX10, 8, rfl, by decide, (fun w h9 => List.mem_cons_of_mem _ (List.mem_append_left _ (List.mem_append_left _ (List.mem_append_left _ (List.mem_append_right _ h9))))), (List.mem_cons_of_mem _ (List.mem_append_left _ (List.mem_append_left _ (List.mem_append_left _ (List.mem_append_left _ (List.mem_append_left _ (List.mem_append_left _ (List.mem_append_left _ (List.mem_append_left _ (List.mem_of_getElem? (i := 7) rfl))))))))))⟩
theorem lf11_count_384 : Fl wsX11_count RX11 384 8 13 := ⟨RX8, TX8, 14, rfl, by decide, (fun w h9 => List.mem_cons_of_mem _ (List.mem_append_left _ (List.mem_append_left _ (List.mem_append_left _ (List.mem_append_left _ (List.mem_append_left _ (List.mem_append_right _ h9))))))), (List.mem_cons_of_mem _ (List.mem_append_left _ (List.mem_append_left _ (List.mem_append_left _ (List.mem_append_left _ (List.mem_append_left _ (List.mem_append_left _ (List.mem_append_left _ (List.mem_append_left _ (List.mem_of_getElem? (i := 8) rfl))))))))))⟩
theorem lf11_count_47 : Fl wsX11_count RX11 47 11 7 := ⟨RX11, TX11, 14, rfl, by decide, (fun w h9 => List.mem_cons_of_mem _ (List.mem_append_left _ (List.mem_append_left _ (List.mem_append_left _ (List.mem_append_left _ (List.mem_append_left _ (List.mem_append_left _ (List.mem_append_right _ h9)))))))), (List.mem_cons_of_mem _ (List.mem_append_left _ (List.mem_append_left _ (List.mem_append_left _ (List.mem_append_left _ (List.mem_append_left _ (List.mem_append_left _ (List.mem_append_left _ (List.mem_append_left _ (List.mem_of_getElem? (i := 9) rfl))))))))))⟩
theorem lf11_count_186 : Fl wsX11_count RX11 186 4 0 := ⟨RX4, TX4, 11, rfl, by decide, (fun w h9 => List.mem_cons_of_mem _ (List.mem_append_left _ (List.mem_append_left _ (List.mem_append_right _ h9)))), (List.mem_cons_of_mem _ (List.mem_append_left _ (List.mem_append_left _ (List.mem_append_left _ (List.mem_append_left _ (List.mem_append_left _ (List.mem_append_left _ (List.mem_append_left _ (List.mem_append_left _ (List.mem_of_getElem? (i := 10) rfl))))))))))⟩
theorem lf11_count_217 : Fl wsX11_count RX11 217 4 1 := ⟨RX4, TX4, 11, rfl, by decide, (fun w h9 => List.mem_cons_of_mem _ (List.mem_append_left _ (List.mem_append_left _ (List.mem_append_right _ h9)))), (List.mem_cons_of_mem _ (List.mem_append_left _ (List.mem_append_left _ (List.mem_append_left _ (List.mem_append_left _ (List.mem_append_left _ (List.mem_append_left _ (List.mem_append_left _ (List.mem_append_left _ (List.mem_of_getElem? (i := 11) rfl))))))))))⟩
theorem lf11_count_287 : Fl wsX11_count RX11 287 4 3 := ⟨RX4, TX4, 11, rfl, by decide, (fun w h9 => List.mem_cons_of_mem _ (List.mem_append_left _ (List.mem_append_left _ (List.mem_append_right _ h9)))), (List.mem_cons_of_mem _ (List.mem_append_left _ (List.mem_append_left _ (List.mem_append_left _ (List.mem_append_left _ (List.mem_append_left _ (List.mem_append_left _ (List.mem_append_left _ (List.mem_append_left _ (List.mem_of_getElem? (i := 12) rfl))))))))))⟩
theorem lf11_count_290 : Fl wsX11_count RX11 290 4 4 := ⟨RX4, TX4, 11, rfl, by decide, (fun w h9 => List.mem_cons_of_mem _ (List.mem_append_left _ (List.mem_append_left _ (List.mem_append_right _ h9)))), (List.mem_cons_of_mem _ (List.mem_append_left _ (List.mem_append_left _ (List.mem_append_left _ (List.mem_append_left _ (List.mem_append_left _ (List.mem_append_left _ (List.mem_append_left _ (List.mem_append_left _ (List.mem_of_getElem? (i := 13) rfl))))))))))⟩
theorem lf11_count_60 : Fl wsX11_count RX11 60 11 11 := ⟨RX11, TX11, 14, rfl, by decide, (fun w h9 => List.mem_cons_of_mem _ (List.mem_append_left _ (List.mem_append_left _ (List.mem_append_left _ (List.mem_append_left _ (List.mem_append_left _ (List.mem_append_left _ (List.mem_append_right _ h9)))))))), (List.mem_cons_of_mem _ (List.mem_append_left _ (List.mem_append_left _ (List.mem_append_left _ (List.mem_append_left _ (List.mem_append_left _ (List.mem_append_left _ (List.mem_append_left _ (List.mem_append_left _ (List.mem_of_getElem? (i := 14) rfl))))))))))⟩
theorem lf11_count_323 : Fl wsX11_count RX11 323 3 0 := ⟨RX3, TX3, 7, rfl, by decide, (fun w h9 => List.mem_cons_of_mem _ (List.mem_append_left _ (List.mem_append_right _ h9))), (List.mem_cons_of_mem _ (List.mem_append_left _ (List.mem_append_left _ (List.mem_append_left _ (List.mem_append_left _ (List.mem_append_left _ (List.mem_append_left _ (List.mem_append_left _ (List.mem_append_left _ (List.mem_of_getElem? (i := 15) rfl))))))))))⟩
theorem lf11_count_67 : Fl wsX11_count RX11 67 11 12 := ⟨RX11, TX11, 14, rfl, by decide, (fun w h9 => List.mem_cons_of_mem _ (List.mem_append_left _ (List.mem_append_left _ (List.mem_append_left _ (List.mem_append_left _ (List.mem_append_left _ (List.mem_append_left _ (List.mem_append_right _ h9)))))))), (List.mem_cons_of_mem _ (List.mem_append_left _ (List.mem_append_left _ (List.mem_append_left _ (List.mem_append_left _ (List.mem_append_left _ (List.mem_append_left _ (List.mem_append_left _ (List.mem_append_left _ (List.mem_of_getElem? (i := 16) rfl))))))))))⟩
theorem lf11_count_368 : Fl wsX11_count RX11 368 9 0 := ⟨RX9, TX9, 3, rfl, by decide, (fun w h9 => List.mem_cons_of_mem _ (List.mem_append_right _ h9)), (List.mem_cons_of_mem _ (List.mem_append_left _ (List.mem_append_left _ (List.mem_append_left _ (List.mem_append_left _ (List.mem_append_left _ (List.mem_append_left _ (List.mem_append_left _ (List.mem_append_left _ (List.mem_of_getElem? (i := 17) rfl))))))))))⟩
theorem cd11_count : Cd yX11_count 1 := ⟨by decide, by decide, by decide +kernel⟩
def F11_count_0  (h : PH) (a0 : Nat) (x1 : Int32) : Option (Int32 × PH) := if x1 = 0 then ((gR h a0 11 3).bind fun r2 => (gI h r2 8 0).bind fun v4 => some (v4, h)) else if x1 = 1 then ((gR h a0 11 3).bind fun r7 => (gI h r7 8 1).bind fun v9 => some (v9, h)) else if x1 = 2 then ((gR h a0 11 3).bind fun r12 => (gR h r12 8 4).bind fun r14 => (gI h r14 1 0).bind fun v16 => some (v16, h)) else if x1 = 3 then ((gR h a0 11 3).bind fun r19 => (gR h r19 8 5).bind fun r21 => (gI h r21 10 0).bind fun v23 => some (v23, h)) else if x1 = 4 then ((gR h a0 11 3).bind fun r26 => (gR h r26 8 5).bind fun r28 => (gI h r28 10 1).bind fun v30 => some (v30, h)) else if x1 = 5 then ((gR h a0 11 3).bind fun r33 => (gI h r33 8 13).bind fun v35 => some (v35, h)) else if x1 = 6 then ((gR h a0 11 7).bind fun r38 => (gI h r38 4 0).bind fun v40 => some (v40, h)) else if x1 = 7 then ((gR h a0 11 7).bind fun r43 => (gI h r43 4 1).bind fun v45 => some (v45, h)) else if x1 = 8 then ((gR h a0 11 7).bind fun r48 => (gI h r48 4 3).bind fun v50 => some (v50, h)) else if x1 = 9 then ((gR h a0 11 7).bind fun r53 => (gI h r53 4 4).bind fun v55 => some (v55, h)) else if x1 = 10 then ((gR h a0 11 3).bind fun r58 => (gR h r58 8 5).bind fun r60 => (gI h r60 10 1).bind fun v62 => none) else if x1 = 11 then ((gR h a0 11 11).bind fun r65 => (gI h r65 3 0).bind fun v67 => some (v67, h)) else if x1 = 12 then ((gR h a0 11 11).bind fun r70 => none) else if x1 = 13 then ((gR h a0 11 12).bind fun r73 => (gI h r73 9 0).bind fun v75 => some (v75, h)) else (some ((-1), h))
set_option maxHeartbeats 4000000 in
set_option maxRecDepth 100000 in
theorem T11_count_0 (S : CallFix p m c cX11_count 2 s args wsX11_count RX11) (hr : meth.sig.returnType = (some .int)) (hlo : meth.locks = false) {out : Int32 × PH} {h : PH} {a0 : Nat} {x1 : Int32} (f : F11_count_0  h a0 x1 = some out) {H : Heap} {locs : List Loc} (I : ph_I D cy b A fl h s H locs) {ls : Array Slot} (hl : lv_has ls 2 [(0, .ref (b + a0)), (1, .int x1)]) : W p l e ({ frames := 0, cells := 0, slots := 0, locals := 0 } : Room) s m args below meth c H locs 0 0 (MQ below (va_Qi (fun (r : Int32) (u : PH) => (r, u) = out) (ph_B D cy b A fl) A) args s 0 0 A) (F0 m 0 ls []) := by
  unfold F11_count_0 at f
  refine lv_iload_n S.1 S.2.1 dX11_count_0 rfl (lv_at hl 1 rfl) ?_
  rcases Decidable.em (x1 = 0) with q1 | q1
  · have f := (if_pos q1).symm.trans f
    refine lv_tableIn (off := 71) (tgt := 72) S.1 S.2.1 dX11_count_1 (by rw [q1]; decide) (by rw [q1]; decide) (by rw [q1]; rfl) (by decide) ?_
    refine lv_aload_n S.1 S.2.1 dX11_count_72 rfl (lv_at hl 0 rfl) ?_
    obtain ⟨r2, e3, f⟩ := ob f
    refine o_gR S lf11_count_18 I e3 dX11_count_73 ?_
    obtain ⟨v4, e5, f⟩ := ob f
    refine o_gI S lf11_count_173 I e5 dX11_count_76 ?_
    exact o_iret S hr hlo I f dX11_count_79
  have f := (if_neg q1).symm.trans f
  rcases Decidable.em (x1 = 1) with q6 | q6
  · have f := (if_pos q6).symm.trans f
    refine lv_tableIn (off := 79) (tgt := 80) S.1 S.2.1 dX11_count_1 (by rw [q6]; decide) (by rw [q6]; decide) (by rw [q6]; rfl) (by decide) ?_
    refine lv_aload_n S.1 S.2.1 dX11_count_80 rfl (lv_at hl 0 rfl) ?_
    obtain ⟨r7, e8, f⟩ := ob f
    refine o_gR S lf11_count_18 I e8 dX11_count_81 ?_
    obtain ⟨v9, e10, f⟩ := ob f
    refine o_gI S lf11_count_381 I e10 dX11_count_84 ?_
    exact o_iret S hr hlo I f dX11_count_87
  have f := (if_neg q6).symm.trans f
  rcases Decidable.em (x1 = 2) with q11 | q11
  · have f := (if_pos q11).symm.trans f
    refine lv_tableIn (off := 87) (tgt := 88) S.1 S.2.1 dX11_count_1 (by rw [q11]; decide) (by rw [q11]; decide) (by rw [q11]; rfl) (by decide) ?_
    refine lv_aload_n S.1 S.2.1 dX11_count_88 rfl (lv_at hl 0 rfl) ?_
    obtain ⟨r12, e13, f⟩ := ob f
    refine o_gR S lf11_count_18 I e13 dX11_count_89 ?_
    obtain ⟨r14, e15, f⟩ := ob f
    refine o_gR S lf11_count_102 I e15 dX11_count_92 ?_
    obtain ⟨v16, e17, f⟩ := ob f
    refine o_gI S lf11_count_106 I e17 dX11_count_95 ?_
    exact o_iret S hr hlo I f dX11_count_98
  have f := (if_neg q11).symm.trans f
  rcases Decidable.em (x1 = 3) with q18 | q18
  · have f := (if_pos q18).symm.trans f
    refine lv_tableIn (off := 98) (tgt := 99) S.1 S.2.1 dX11_count_1 (by rw [q18]; decide) (by rw [q18]; decide) (by rw [q18]; rfl) (by decide) ?_
    refine lv_aload_n S.1 S.2.1 dX11_count_99 rfl (lv_at hl 0 rfl) ?_
    obtain ⟨r19, e20, f⟩ := ob f
    refine o_gR S lf11_count_18 I e20 dX11_count_100 ?_
    obtain ⟨r21, e22, f⟩ := ob f
    refine o_gR S lf11_count_150 I e22 dX11_count_103 ?_
    obtain ⟨v23, e24, f⟩ := ob f
    refine o_gI S lf11_count_253 I e24 dX11_count_106 ?_
    exact o_iret S hr hlo I f dX11_count_109
  have f := (if_neg q18).symm.trans f
  rcases Decidable.em (x1 = 4) with q25 | q25
  · have f := (if_pos q25).symm.trans f
    refine lv_tableIn (off := 109) (tgt := 110) S.1 S.2.1 dX11_count_1 (by rw [q25]; decide) (by rw [q25]; decide) (by rw [q25]; rfl) (by decide) ?_
    refine lv_aload_n S.1 S.2.1 dX11_count_110 rfl (lv_at hl 0 rfl) ?_
    obtain ⟨r26, e27, f⟩ := ob f
    refine o_gR S lf11_count_18 I e27 dX11_count_111 ?_
    obtain ⟨r28, e29, f⟩ := ob f
    refine o_gR S lf11_count_150 I e29 dX11_count_114 ?_
    obtain ⟨v30, e31, f⟩ := ob f
    refine o_gI S lf11_count_299 I e31 dX11_count_117 ?_
    exact o_iret S hr hlo I f dX11_count_120
  have f := (if_neg q25).symm.trans f
  rcases Decidable.em (x1 = 5) with q32 | q32
  · have f := (if_pos q32).symm.trans f
    refine lv_tableIn (off := 120) (tgt := 121) S.1 S.2.1 dX11_count_1 (by rw [q32]; decide) (by rw [q32]; decide) (by rw [q32]; rfl) (by decide) ?_
    refine lv_aload_n S.1 S.2.1 dX11_count_121 rfl (lv_at hl 0 rfl) ?_
    obtain ⟨r33, e34, f⟩ := ob f
    refine o_gR S lf11_count_18 I e34 dX11_count_122 ?_
    obtain ⟨v35, e36, f⟩ := ob f
    refine o_gI S lf11_count_384 I e36 dX11_count_125 ?_
    exact o_iret S hr hlo I f dX11_count_128
  have f := (if_neg q32).symm.trans f
  rcases Decidable.em (x1 = 6) with q37 | q37
  · have f := (if_pos q37).symm.trans f
    refine lv_tableIn (off := 128) (tgt := 129) S.1 S.2.1 dX11_count_1 (by rw [q37]; decide) (by rw [q37]; decide) (by rw [q37]; rfl) (by decide) ?_
    refine lv_aload_n S.1 S.2.1 dX11_count_129 rfl (lv_at hl 0 rfl) ?_
    obtain ⟨r38, e39, f⟩ := ob f
    refine o_gR S lf11_count_47 I e39 dX11_count_130 ?_
    obtain ⟨v40, e41, f⟩ := ob f
    refine o_gI S lf11_count_186 I e41 dX11_count_133 ?_
    exact o_iret S hr hlo I f dX11_count_136
  have f := (if_neg q37).symm.trans f
  rcases Decidable.em (x1 = 7) with q42 | q42
  · have f := (if_pos q42).symm.trans f
    refine lv_tableIn (off := 136) (tgt := 137) S.1 S.2.1 dX11_count_1 (by rw [q42]; decide) (by rw [q42]; decide) (by rw [q42]; rfl) (by decide) ?_
    refine lv_aload_n S.1 S.2.1 dX11_count_137 rfl (lv_at hl 0 rfl) ?_
    obtain ⟨r43, e44, f⟩ := ob f
    refine o_gR S lf11_count_47 I e44 dX11_count_138 ?_
    obtain ⟨v45, e46, f⟩ := ob f
    refine o_gI S lf11_count_217 I e46 dX11_count_141 ?_
    exact o_iret S hr hlo I f dX11_count_144
  have f := (if_neg q42).symm.trans f
  rcases Decidable.em (x1 = 8) with q47 | q47
  · have f := (if_pos q47).symm.trans f
    refine lv_tableIn (off := 144) (tgt := 145) S.1 S.2.1 dX11_count_1 (by rw [q47]; decide) (by rw [q47]; decide) (by rw [q47]; rfl) (by decide) ?_
    refine lv_aload_n S.1 S.2.1 dX11_count_145 rfl (lv_at hl 0 rfl) ?_
    obtain ⟨r48, e49, f⟩ := ob f
    refine o_gR S lf11_count_47 I e49 dX11_count_146 ?_
    obtain ⟨v50, e51, f⟩ := ob f
    refine o_gI S lf11_count_287 I e51 dX11_count_149 ?_
    exact o_iret S hr hlo I f dX11_count_152
  have f := (if_neg q47).symm.trans f
  rcases Decidable.em (x1 = 9) with q52 | q52
  · have f := (if_pos q52).symm.trans f
    refine lv_tableIn (off := 152) (tgt := 153) S.1 S.2.1 dX11_count_1 (by rw [q52]; decide) (by rw [q52]; decide) (by rw [q52]; rfl) (by decide) ?_
    refine lv_aload_n S.1 S.2.1 dX11_count_153 rfl (lv_at hl 0 rfl) ?_
    obtain ⟨r53, e54, f⟩ := ob f
    refine o_gR S lf11_count_47 I e54 dX11_count_154 ?_
    obtain ⟨v55, e56, f⟩ := ob f
    refine o_gI S lf11_count_290 I e56 dX11_count_157 ?_
    exact o_iret S hr hlo I f dX11_count_160
  have f := (if_neg q52).symm.trans f
  rcases Decidable.em (x1 = 10) with q57 | q57
  · have f := (if_pos q57).symm.trans f
    refine lv_tableIn (off := 160) (tgt := 161) S.1 S.2.1 dX11_count_1 (by rw [q57]; decide) (by rw [q57]; decide) (by rw [q57]; rfl) (by decide) ?_
    refine lv_aload_n S.1 S.2.1 dX11_count_161 rfl (lv_at hl 0 rfl) ?_
    obtain ⟨r58, e59, f⟩ := ob f
    refine o_gR S lf11_count_18 I e59 dX11_count_162 ?_
    obtain ⟨r60, e61, f⟩ := ob f
    refine o_gR S lf11_count_150 I e61 dX11_count_165 ?_
    obtain ⟨v62, e63, f⟩ := ob f
    refine o_gI S lf11_count_299 I e63 dX11_count_168 ?_
    refine lv_aload_n S.1 S.2.1 dX11_count_171 rfl (lv_at hl 0 rfl) ?_
    cases f
  have f := (if_neg q57).symm.trans f
  rcases Decidable.em (x1 = 11) with q64 | q64
  · have f := (if_pos q64).symm.trans f
    refine lv_tableIn (off := 176) (tgt := 177) S.1 S.2.1 dX11_count_1 (by rw [q64]; decide) (by rw [q64]; decide) (by rw [q64]; rfl) (by decide) ?_
    refine lv_aload_n S.1 S.2.1 dX11_count_177 rfl (lv_at hl 0 rfl) ?_
    obtain ⟨r65, e66, f⟩ := ob f
    refine o_gR S lf11_count_60 I e66 dX11_count_178 ?_
    obtain ⟨v67, e68, f⟩ := ob f
    refine o_gI S lf11_count_323 I e68 dX11_count_181 ?_
    exact o_iret S hr hlo I f dX11_count_184
  have f := (if_neg q64).symm.trans f
  rcases Decidable.em (x1 = 12) with q69 | q69
  · have f := (if_pos q69).symm.trans f
    refine lv_tableIn (off := 184) (tgt := 185) S.1 S.2.1 dX11_count_1 (by rw [q69]; decide) (by rw [q69]; decide) (by rw [q69]; rfl) (by decide) ?_
    refine lv_aload_n S.1 S.2.1 dX11_count_185 rfl (lv_at hl 0 rfl) ?_
    obtain ⟨r70, e71, f⟩ := ob f
    refine o_gR S lf11_count_60 I e71 dX11_count_186 ?_
    cases f
  have f := (if_neg q69).symm.trans f
  rcases Decidable.em (x1 = 13) with q72 | q72
  · have f := (if_pos q72).symm.trans f
    refine lv_tableIn (off := 192) (tgt := 193) S.1 S.2.1 dX11_count_1 (by rw [q72]; decide) (by rw [q72]; decide) (by rw [q72]; rfl) (by decide) ?_
    refine lv_aload_n S.1 S.2.1 dX11_count_193 rfl (lv_at hl 0 rfl) ?_
    obtain ⟨r73, e74, f⟩ := ob f
    refine o_gR S lf11_count_67 I e74 dX11_count_194 ?_
    obtain ⟨v75, e76, f⟩ := ob f
    refine o_gI S lf11_count_368 I e76 dX11_count_197 ?_
    exact o_iret S hr hlo I f dX11_count_200
  have f := (if_neg q72).symm.trans f
  refine lv_tableOut (tgt := 201) S.1 S.2.1 dX11_count_1 (by have := lv_neT q1 (a := 0) (by decide); have := lv_neT q6 (a := 1) (by decide); have := lv_neT q11 (a := 2) (by decide); have := lv_neT q18 (a := 3) (by decide); have := lv_neT q25 (a := 4) (by decide); have := lv_neT q32 (a := 5) (by decide); have := lv_neT q37 (a := 6) (by decide); have := lv_neT q42 (a := 7) (by decide); have := lv_neT q47 (a := 8) (by decide); have := lv_neT q52 (a := 9) (by decide); have := lv_neT q57 (a := 10) (by decide); have := lv_neT q64 (a := 11) (by decide); have := lv_neT q69 (a := 12) (by decide); have := lv_neT q72 (a := 13) (by decide); omega) (by decide) ?_
  refine lv_iconst (v := (-1)) S.1 S.2.1 dX11_count_201 (by decide) ?_
  exact o_iret S hr hlo I f dX11_count_202
def F11_count (h : PH) (a0 : Nat) (x1 : Int32) : Option (Int32 × PH) := cond (okO h a0 11) (F11_count_0 h a0 x1) none
theorem M11_count (l : Launch) (D : va_G) (cy : Nat → ClassId) (b : Nat) (A : Nat → Prop) (fl : Bool) {h : PH} {a0 : Nat} {x1 : Int32} {out : Int32 × PH} (f : F11_count h a0 x1 = some out) : Met l yX11_count wsX11_count ({ frames := 0, cells := 0, slots := 0, locals := 0 } : Room) (va_Pc [.ref (b + a0), .int x1] (ph_B D cy b A fl h)) (va_Qi (fun (r : Int32) (u : PH) => (r, u) = out) (ph_B D cy b A fl) A) 0 0 A :=
  o_met (by decide) rfl (Nat.le_of_ble_eq_true rfl) rfl (fun p e s m below meth c S hr hlo hnm ls hl I => T11_count_0 S hr hlo ((gd f).2) I (lv_sub hl [0, 1] rfl))
theorem lf4_begin_27 : Fl wsX4_begin RX4 27 4 10 := ⟨RX4, TX4, 11, rfl, by decide, (fun w h9 => List.mem_cons_of_mem _ (List.mem_append_left _ (List.mem_append_left _ (List.mem_append_right _ h9)))), (List.mem_cons_of_mem _ (List.mem_append_left _ (List.mem_append_left _ (List.mem_append_left _ (List.mem_of_getElem? (i := 14) rfl)))))⟩
theorem lf4_begin_9 : Fl wsX4_begin RX4 9 4 5 := ⟨RX4, TX4, 11, rfl, by decide, (fun w h9 => List.mem_cons_of_mem _ (List.mem_append_left _ (List.mem_append_left _ (List.mem_append_right _ h9)))), (List.mem_cons_of_mem _ (List.mem_append_left _ (List.mem_append_left _ (List.mem_append_left _ (List.mem_of_getElem? (i := 7) rfl)))))⟩
theorem lf4_begin_52 : Fl wsX4_begin RX4 52 8 4 := ⟨RX8, TX8, 14, rfl, by decide, (fun w h9 => List.mem_cons_of_mem _ (List.mem_append_left _ (List.mem_append_right _ h9))), (List.mem_cons_of_mem _ (List.mem_append_left _ (List.mem_append_left _ (List.mem_append_left _ (List.mem_of_getElem? (i := 8) rfl)))))⟩
theorem lf4_begin_56 : Fl wsX4_begin RX4 56 1 2 := ⟨RX1, TX1, 7, rfl, by decide, (fun w h9 => List.mem_cons_of_mem _ (List.mem_append_right _ h9)), (List.mem_cons_of_mem _ (List.mem_append_left _ (List.mem_append_left _ (List.mem_append_left _ (List.mem_of_getElem? (i := 9) rfl)))))⟩
theorem lf4_begin_15 : Fl wsX4_begin RX4 15 4 6 := ⟨RX4, TX4, 11, rfl, by decide, (fun w h9 => List.mem_cons_of_mem _ (List.mem_append_left _ (List.mem_append_left _ (List.mem_append_right _ h9)))), (List.mem_cons_of_mem _ (List.mem_append_left _ (List.mem_append_left _ (List.mem_append_left _ (List.mem_of_getElem? (i := 10) rfl)))))⟩
theorem lf4_begin_18 : Fl wsX4_begin RX4 18 4 7 := ⟨RX4, TX4, 11, rfl, by decide, (fun w h9 => List.mem_cons_of_mem _ (List.mem_append_left _ (List.mem_append_left _ (List.mem_append_right _ h9)))), (List.mem_cons_of_mem _ (List.mem_append_left _ (List.mem_append_left _ (List.mem_append_left _ (List.mem_of_getElem? (i := 11) rfl)))))⟩
theorem lf4_begin_21 : Fl wsX4_begin RX4 21 4 8 := ⟨RX4, TX4, 11, rfl, by decide, (fun w h9 => List.mem_cons_of_mem _ (List.mem_append_left _ (List.mem_append_left _ (List.mem_append_right _ h9)))), (List.mem_cons_of_mem _ (List.mem_append_left _ (List.mem_append_left _ (List.mem_append_left _ (List.mem_of_getElem? (i := 12) rfl)))))⟩
theorem lf4_begin_24 : Fl wsX4_begin RX4 24 4 9 := ⟨RX4, TX4, 11, rfl, by decide, (fun w h9 => List.mem_cons_of_mem _ (List.mem_append_left _ (List.mem_append_left _ (List.mem_append_right _ h9)))), (List.mem_cons_of_mem _ (List.mem_append_left _ (List.mem_append_left _ (List.mem_append_left _ (List.mem_of_getElem? (i := 13) rfl)))))⟩
theorem lp4_begin_30 : Pl wsX4_begin RX4 30 4 0 .int := ⟨RX4, TX4, 11, tyX4, rfl, by decide, (fun w h9 => List.mem_cons_of_mem _ (List.mem_append_left _ (List.mem_append_left _ (List.mem_append_right _ h9)))), (List.mem_cons_of_mem _ (List.mem_append_left _ (List.mem_append_left _ (List.mem_append_left _ (List.mem_of_getElem? (i := 0) rfl))))), tyX4_ok, nmX4, rfl, rfl⟩
theorem lf4_begin_34 : Fl wsX4_begin RX4 34 8 9 := ⟨RX8, TX8, 14, rfl, by decide, (fun w h9 => List.mem_cons_of_mem _ (List.mem_append_left _ (List.mem_append_right _ h9))), (List.mem_cons_of_mem _ (List.mem_append_left _ (List.mem_append_left _ (List.mem_append_left _ (List.mem_of_getElem? (i := 1) rfl)))))⟩
theorem lp4_begin_39 : Pl wsX4_begin RX4 39 4 1 .int := ⟨RX4, TX4, 11, tyX4, rfl, by decide, (fun w h9 => List.mem_cons_of_mem _ (List.mem_append_left _ (List.mem_append_left _ (List.mem_append_right _ h9)))), (List.mem_cons_of_mem _ (List.mem_append_left _ (List.mem_append_left _ (List.mem_append_left _ (List.mem_of_getElem? (i := 2) rfl))))), tyX4_ok, nmX4, rfl, rfl⟩
theorem lf4_begin_40 : Fl wsX4_begin RX4 40 8 10 := ⟨RX8, TX8, 14, rfl, by decide, (fun w h9 => List.mem_cons_of_mem _ (List.mem_append_left _ (List.mem_append_right _ h9))), (List.mem_cons_of_mem _ (List.mem_append_left _ (List.mem_append_left _ (List.mem_append_left _ (List.mem_of_getElem? (i := 3) rfl)))))⟩
theorem lp4_begin_43 : Pl wsX4_begin RX4 43 4 2 .int := ⟨RX4, TX4, 11, tyX4, rfl, by decide, (fun w h9 => List.mem_cons_of_mem _ (List.mem_append_left _ (List.mem_append_left _ (List.mem_append_right _ h9)))), (List.mem_cons_of_mem _ (List.mem_append_left _ (List.mem_append_left _ (List.mem_append_left _ (List.mem_of_getElem? (i := 4) rfl))))), tyX4_ok, nmX4, rfl, rfl⟩
theorem lp4_begin_46 : Pl wsX4_begin RX4 46 4 3 .int := ⟨RX4, TX4, 11, tyX4, rfl, by decide, (fun w h9 => List.mem_cons_of_mem _ (List.mem_append_left _ (List.mem_append_left _ (List.mem_append_right _ h9)))), (List.mem_cons_of_mem _ (List.mem_append_left _ (List.mem_append_left _ (List.mem_append_left _ (List.mem_of_getElem? (i := 5) rfl))))), tyX4_ok, nmX4, rfl, rfl⟩
theorem lp4_begin_49 : Pl wsX4_begin RX4 49 4 4 .int := ⟨RX4, TX4, 11, tyX4, rfl, by decide, (fun w h9 => List.mem_cons_of_mem _ (List.mem_append_left _ (List.mem_append_left _ (List.mem_append_right _ h9)))), (List.mem_cons_of_mem _ (List.mem_append_left _ (List.mem_append_left _ (List.mem_append_left _ (List.mem_of_getElem? (i := 6) rfl))))), tyX4_ok, nmX4, rfl, rfl⟩
theorem cd4_begin : Cd yX4_begin 1 := ⟨by decide, by decide, by decide +kernel⟩
def F4_begin_89  : Nat → PH → Nat → Int32 → Option (PH)
  | 0, _, _, _ => none
  | n + 1, h, a0, x2 => if 28 ≤ x2 then (some h) else ((gR h a0 4 10).bind fun r2 => (sI h r2 0 x2 (-2)).bind fun h5 => F4_begin_89  n h5 a0 (x2 + 1))
set_option maxHeartbeats 4000000 in
set_option maxRecDepth 100000 in
theorem T4_begin_89 (S : CallFix p m c cX4_begin 3 s args wsX4_begin RX4) (hr : meth.sig.returnType = none) (hlo : meth.locks = false) {out : PH} : ∀ (n : Nat) {h : PH} {a0 : Nat} {x2 : Int32} (f : F4_begin_89  n h a0 x2 = some out) {H : Heap} {locs : List Loc} (I : ph_I D cy b A fl h s H locs) {ls : Array Slot} (hl : lv_has ls 3 [(0, .ref (b + a0)), (2, .int x2)]), W p l e ({ frames := 0, cells := 0, slots := 0, locals := 0 } : Room) s m args below meth c H locs 0 0 (MQ below (va_Qv (fun (u : PH) => u = out) (ph_B D cy b A fl) A) args s 0 0 A) (F0 m 89 ls []) := by
  intro n
  induction n with
  | zero => intro h a0 x2 f; rw [F4_begin_89] at f; cases f
  | succ n ih =>
    intro h a0 x2 f H locs I ls hl
    rw [F4_begin_89] at f
    refine lv_iload_n S.1 S.2.1 dX4_begin_89 rfl (lv_at hl 1 rfl) ?_
    refine lv_bipush (v := 28) S.1 S.2.1 dX4_begin_90 (by decide) ?_
    refine lv_icmp_ge (tgt := 109) S.1 S.2.1 dX4_begin_92 (by decide) (fun q1 => ?_) (fun q1 => ?_)
    · have f := (if_pos q1).symm.trans f
      exact o_vret S hr hlo I f dX4_begin_109
    · have f := (if_neg q1).symm.trans f
      refine lv_aload_n S.1 S.2.1 dX4_begin_95 rfl (lv_at hl 0 rfl) ?_
      obtain ⟨r2, e3, f⟩ := ob f
      refine o_gR S lf4_begin_27 I e3 dX4_begin_96 ?_
      refine lv_iload_n S.1 S.2.1 dX4_begin_99 rfl (lv_at hl 1 rfl) ?_
      refine lv_bipush (v := (-2)) S.1 S.2.1 dX4_begin_100 (by decide) ?_
      obtain ⟨h5, e4, f⟩ := ob f
      refine o_iast S I e4 dX4_begin_102 (fun H locs I => ?_)
      refine lv_iinc (v := (x2 + 1)) (lv' := [(2, .int (x2 + 1)), (0, .ref (b + a0))]) S.1 S.2.1 dX4_begin_103 hl (k := 1) rfl (congrArg (fun z => x2 + z) (by decide)) (by decide) rfl (fun ls hl => ?_)
      refine lv_goto (tgt := 89) S.1 S.2.1 dX4_begin_106 (by decide) ?_
      exact ih f I (lv_sub hl [1, 0] rfl)
def F4_begin_33  : Nat → PH → Nat → Nat → Int32 → Option (PH)
  | 0, _, _, _, _ => none
  | n + 1, h, a0, a1, x2 => if 5 ≤ x2 then (F4_begin_89  1024 h a0 0) else ((gR h a0 4 5).bind fun r2 => (gR h a1 8 4).bind fun r4 => (gR h r4 1 2).bind fun r6 => (aI h r6 0 x2).bind fun v9 => (sI h r2 0 x2 v9).bind fun h11 => (gR h11 a0 4 6).bind fun r12 => (sI h11 r12 0 x2 0).bind fun h15 => (gR h15 a0 4 7).bind fun r16 => (sI h15 r16 0 x2 0).bind fun h19 => (gR h19 a0 4 8).bind fun r20 => (sI h19 r20 0 x2 0).bind fun h23 => (gR h23 a0 4 9).bind fun r24 => (sI h23 r24 0 x2 0).bind fun h27 => F4_begin_33  n h27 a0 a1 (x2 + 1))
set_option maxHeartbeats 4000000 in
set_option maxRecDepth 100000 in
theorem T4_begin_33 (S : CallFix p m c cX4_begin 3 s args wsX4_begin RX4) (hr : meth.sig.returnType = none) (hlo : meth.locks = false) {out : PH} : ∀ (n : Nat) {h : PH} {a0 : Nat} {a1 : Nat} {x2 : Int32} (f : F4_begin_33  n h a0 a1 x2 = some out) {H : Heap} {locs : List Loc} (I : ph_I D cy b A fl h s H locs) {ls : Array Slot} (hl : lv_has ls 3 [(0, .ref (b + a0)), (1, .ref (b + a1)), (2, .int x2)]), W p l e ({ frames := 0, cells := 0, slots := 0, locals := 0 } : Room) s m args below meth c H locs 0 0 (MQ below (va_Qv (fun (u : PH) => u = out) (ph_B D cy b A fl) A) args s 0 0 A) (F0 m 33 ls []) := by
  intro n
  induction n with
  | zero => intro h a0 a1 x2 f; rw [F4_begin_33] at f; cases f
  | succ n ih =>
    intro h a0 a1 x2 f H locs I ls hl
    rw [F4_begin_33] at f
    refine lv_iload_n S.1 S.2.1 dX4_begin_33 rfl (lv_at hl 2 rfl) ?_
    refine lv_iconst (v := 5) S.1 S.2.1 dX4_begin_34 (by decide) ?_
    refine lv_icmp_ge (tgt := 87) S.1 S.2.1 dX4_begin_35 (by decide) (fun q1 => ?_) (fun q1 => ?_)
    · have f := (if_pos q1).symm.trans f
      refine lv_iconst (v := 0) S.1 S.2.1 dX4_begin_87 (by decide) ?_
      refine lv_istore_n (lv' := [(2, .int 0), (0, .ref (b + a0)), (1, .ref (b + a1))]) S.1 S.2.1 dX4_begin_88 rfl hl (by decide) rfl (fun ls hl => ?_)
      exact T4_begin_89 S hr hlo  1024 f I (lv_sub hl [1, 0] rfl)
    · have f := (if_neg q1).symm.trans f
      refine lv_aload_n S.1 S.2.1 dX4_begin_38 rfl (lv_at hl 0 rfl) ?_
      obtain ⟨r2, e3, f⟩ := ob f
      refine o_gR S lf4_begin_9 I e3 dX4_begin_39 ?_
      refine lv_iload_n S.1 S.2.1 dX4_begin_42 rfl (lv_at hl 2 rfl) ?_
      refine lv_aload_n S.1 S.2.1 dX4_begin_43 rfl (lv_at hl 1 rfl) ?_
      obtain ⟨r4, e5, f⟩ := ob f
      refine o_gR S lf4_begin_52 I e5 dX4_begin_44 ?_
      obtain ⟨r6, e7, f⟩ := ob f
      refine o_gR S lf4_begin_56 I e7 dX4_begin_47 ?_
      refine lv_iload_n S.1 S.2.1 dX4_begin_50 rfl (lv_at hl 2 rfl) ?_
      obtain ⟨v9, e8, f⟩ := ob f
      refine o_iald S I e8 dX4_begin_51 ?_
      obtain ⟨h11, e10, f⟩ := ob f
      refine o_iast S I e10 dX4_begin_52 (fun H locs I => ?_)
      refine lv_aload_n S.1 S.2.1 dX4_begin_53 rfl (lv_at hl 0 rfl) ?_
      obtain ⟨r12, e13, f⟩ := ob f
      refine o_gR S lf4_begin_15 I e13 dX4_begin_54 ?_
      refine lv_iload_n S.1 S.2.1 dX4_begin_57 rfl (lv_at hl 2 rfl) ?_
      refine lv_iconst (v := 0) S.1 S.2.1 dX4_begin_58 (by decide) ?_
      obtain ⟨h15, e14, f⟩ := ob f
      refine o_iast S I e14 dX4_begin_59 (fun H locs I => ?_)
      refine lv_aload_n S.1 S.2.1 dX4_begin_60 rfl (lv_at hl 0 rfl) ?_
      obtain ⟨r16, e17, f⟩ := ob f
      refine o_gR S lf4_begin_18 I e17 dX4_begin_61 ?_
      refine lv_iload_n S.1 S.2.1 dX4_begin_64 rfl (lv_at hl 2 rfl) ?_
      refine lv_iconst (v := 0) S.1 S.2.1 dX4_begin_65 (by decide) ?_
      obtain ⟨h19, e18, f⟩ := ob f
      refine o_iast S I e18 dX4_begin_66 (fun H locs I => ?_)
      refine lv_aload_n S.1 S.2.1 dX4_begin_67 rfl (lv_at hl 0 rfl) ?_
      obtain ⟨r20, e21, f⟩ := ob f
      refine o_gR S lf4_begin_21 I e21 dX4_begin_68 ?_
      refine lv_iload_n S.1 S.2.1 dX4_begin_71 rfl (lv_at hl 2 rfl) ?_
      refine lv_iconst (v := 0) S.1 S.2.1 dX4_begin_72 (by decide) ?_
      obtain ⟨h23, e22, f⟩ := ob f
      refine o_iast S I e22 dX4_begin_73 (fun H locs I => ?_)
      refine lv_aload_n S.1 S.2.1 dX4_begin_74 rfl (lv_at hl 0 rfl) ?_
      obtain ⟨r24, e25, f⟩ := ob f
      refine o_gR S lf4_begin_24 I e25 dX4_begin_75 ?_
      refine lv_iload_n S.1 S.2.1 dX4_begin_78 rfl (lv_at hl 2 rfl) ?_
      refine lv_iconst (v := 0) S.1 S.2.1 dX4_begin_79 (by decide) ?_
      obtain ⟨h27, e26, f⟩ := ob f
      refine o_iast S I e26 dX4_begin_80 (fun H locs I => ?_)
      refine lv_iinc (v := (x2 + 1)) (lv' := [(2, .int (x2 + 1)), (0, .ref (b + a0)), (1, .ref (b + a1))]) S.1 S.2.1 dX4_begin_81 hl (k := 2) rfl (congrArg (fun z => x2 + z) (by decide)) (by decide) rfl (fun ls hl => ?_)
      refine lv_goto (tgt := 33) S.1 S.2.1 dX4_begin_84 (by decide) ?_
      exact ih f I (lv_sub hl [1, 2, 0] rfl)
def F4_begin_0  (h : PH) (a0 : Nat) (a1 : Nat) : Option (PH) := (pI h a0 4 0 0).bind fun h1 => (gI h1 a1 8 9).bind fun v3 => (pI h1 a0 4 1 v3).bind fun h5 => (gI h5 a1 8 10).bind fun v7 => (pI h5 a0 4 2 v7).bind fun h9 => (pI h9 a0 4 3 0).bind fun h11 => (pI h11 a0 4 4 0).bind fun h13 => F4_begin_33  1024 h13 a0 a1 0
set_option maxHeartbeats 4000000 in
set_option maxRecDepth 100000 in
theorem T4_begin_0 (S : CallFix p m c cX4_begin 3 s args wsX4_begin RX4) (hr : meth.sig.returnType = none) (hlo : meth.locks = false) {out : PH} {h : PH} {a0 : Nat} {a1 : Nat} (f : F4_begin_0  h a0 a1 = some out) {H : Heap} {locs : List Loc} (I : ph_I D cy b A fl h s H locs) {ls : Array Slot} (hl : lv_has ls 3 [(0, .ref (b + a0)), (1, .ref (b + a1))]) : W p l e ({ frames := 0, cells := 0, slots := 0, locals := 0 } : Room) s m args below meth c H locs 0 0 (MQ below (va_Qv (fun (u : PH) => u = out) (ph_B D cy b A fl) A) args s 0 0 A) (F0 m 0 ls []) := by
  unfold F4_begin_0 at f
  refine lv_aload_n S.1 S.2.1 dX4_begin_0 rfl (lv_at hl 0 rfl) ?_
  refine lv_iconst (v := 0) S.1 S.2.1 dX4_begin_1 (by decide) ?_
  obtain ⟨h1, e2, f⟩ := ob f
  refine o_pI S lp4_begin_30 I e2 dX4_begin_2 (fun H locs I => ?_)
  refine lv_aload_n S.1 S.2.1 dX4_begin_5 rfl (lv_at hl 0 rfl) ?_
  refine lv_aload_n S.1 S.2.1 dX4_begin_6 rfl (lv_at hl 1 rfl) ?_
  obtain ⟨v3, e4, f⟩ := ob f
  refine o_gI S lf4_begin_34 I e4 dX4_begin_7 ?_
  obtain ⟨h5, e6, f⟩ := ob f
  refine o_pI S lp4_begin_39 I e6 dX4_begin_10 (fun H locs I => ?_)
  refine lv_aload_n S.1 S.2.1 dX4_begin_13 rfl (lv_at hl 0 rfl) ?_
  refine lv_aload_n S.1 S.2.1 dX4_begin_14 rfl (lv_at hl 1 rfl) ?_
  obtain ⟨v7, e8, f⟩ := ob f
  refine o_gI S lf4_begin_40 I e8 dX4_begin_15 ?_
  obtain ⟨h9, e10, f⟩ := ob f
  refine o_pI S lp4_begin_43 I e10 dX4_begin_18 (fun H locs I => ?_)
  refine lv_aload_n S.1 S.2.1 dX4_begin_21 rfl (lv_at hl 0 rfl) ?_
  refine lv_iconst (v := 0) S.1 S.2.1 dX4_begin_22 (by decide) ?_
  obtain ⟨h11, e12, f⟩ := ob f
  refine o_pI S lp4_begin_46 I e12 dX4_begin_23 (fun H locs I => ?_)
  refine lv_aload_n S.1 S.2.1 dX4_begin_26 rfl (lv_at hl 0 rfl) ?_
  refine lv_iconst (v := 0) S.1 S.2.1 dX4_begin_27 (by decide) ?_
  obtain ⟨h13, e14, f⟩ := ob f
  refine o_pI S lp4_begin_49 I e14 dX4_begin_28 (fun H locs I => ?_)
  refine lv_iconst (v := 0) S.1 S.2.1 dX4_begin_31 (by decide) ?_
  refine lv_istore_n (lv' := [(2, .int 0), (0, .ref (b + a0)), (1, .ref (b + a1))]) S.1 S.2.1 dX4_begin_32 rfl hl (by decide) rfl (fun ls hl => ?_)
  exact T4_begin_33 S hr hlo  1024 f I (lv_sub hl [1, 2, 0] rfl)
def F4_begin (h : PH) (a0 : Nat) (a1 : Nat) : Option (PH) := cond (okO h a0 4) (F4_begin_0 h a0 a1) none
theorem M4_begin (l : Launch) (D : va_G) (cy : Nat → ClassId) (b : Nat) (A : Nat → Prop) (fl : Bool) {h : PH} {a0 : Nat} {a1 : Nat} {out : PH} (f : F4_begin h a0 a1 = some out) : Met l yX4_begin wsX4_begin ({ frames := 0, cells := 0, slots := 0, locals := 0 } : Room) (va_Pc [.ref (b + a0), .ref (b + a1)] (ph_B D cy b A fl h)) (va_Qv (fun (u : PH) => u = out) (ph_B D cy b A fl) A) 0 0 A :=
  o_met (by decide) rfl (Nat.le_of_ble_eq_true rfl) rfl (fun p e s m below meth c S hr hlo hnm ls hl I => T4_begin_0 S hr hlo ((gd f).2) I (lv_sub hl [0, 1] rfl))
theorem lf10_isLargest_15 : Fl wsX10_isLargest RX10 15 10 3 := ⟨RX10, TX10, 8, rfl, by decide, (fun w h9 => List.mem_cons_of_mem _ (List.mem_append_right _ h9)), (List.mem_cons_of_mem _ (List.mem_append_left _ (List.mem_of_getElem? (i := 1) rfl)))⟩
theorem lf10_isLargest_21 : Fl wsX10_isLargest RX10 21 10 5 := ⟨RX10, TX10, 8, rfl, by decide, (fun w h9 => List.mem_cons_of_mem _ (List.mem_append_right _ h9)), (List.mem_cons_of_mem _ (List.mem_append_left _ (List.mem_of_getElem? (i := 2) rfl)))⟩
theorem lf10_isLargest_9 : Fl wsX10_isLargest RX10 9 10 2 := ⟨RX10, TX10, 8, rfl, by decide, (fun w h9 => List.mem_cons_of_mem _ (List.mem_append_right _ h9)), (List.mem_cons_of_mem _ (List.mem_append_left _ (List.mem_of_getElem? (i := 0) rfl)))⟩
theorem cd10_isLargest : Cd yX10_isLargest 2 := ⟨by decide, by decide, by decide +kernel⟩
def F10_isLargest_14  : Nat → PH → Nat → Int32 → Int32 → Int32 → Option (Int32 × PH)
  | 0, _, _, _, _, _ => none
  | n + 1, h, a0, x1, x3, x4 => (gR h a0 10 3).bind fun r1 => (aI h r1 0 x1).bind fun v4 => if v4 ≤ x4 then (rz 1 h) else ((gR h a0 10 5).bind fun r6 => (gR h a0 10 2).bind fun r8 => (aI h r8 0 x1).bind fun v11 => (aI h r6 0 (v11 + x4)).bind fun v13 => (gR h a0 10 5).bind fun r14 => (aI h r14 0 x3).bind fun v17 => if v13 ≤ v17 then (F10_isLargest_14  n h a0 x1 x3 (x4 + 1)) else (rz 0 h))
set_option maxHeartbeats 4000000 in
set_option maxRecDepth 100000 in
theorem T10_isLargest_14 (S : CallFix p m c cX10_isLargest 5 s args wsX10_isLargest RX10) (hr : meth.sig.returnType = (some .boolean)) (hlo : meth.locks = false) {out : Int32 × PH} : ∀ (n : Nat) {h : PH} {a0 : Nat} {x1 : Int32} {x3 : Int32} {x4 : Int32} (f : F10_isLargest_14  n h a0 x1 x3 x4 = some out) {H : Heap} {locs : List Loc} (I : ph_I D cy b A fl h s H locs) {ls : Array Slot} (hl : lv_has ls 5 [(0, .ref (b + a0)), (1, .int x1), (3, .int x3), (4, .int x4)]), W p l e ({ frames := 0, cells := 0, slots := 0, locals := 0 } : Room) s m args below meth c H locs 0 0 (MQ below (va_Qi (fun (r : Int32) (u : PH) => (r, u) = out) (ph_B D cy b A fl) A) args s 0 0 A) (F0 m 14 ls []) := by
  intro n
  induction n with
  | zero => intro h a0 x1 x3 x4 f; rw [F10_isLargest_14] at f; cases f
  | succ n ih =>
    intro h a0 x1 x3 x4 f H locs I ls hl
    rw [F10_isLargest_14] at f
    refine lv_iload S.1 S.2.1 dX10_isLargest_14 (lv_at hl 3 rfl) ?_
    refine lv_aload_n S.1 S.2.1 dX10_isLargest_16 rfl (lv_at hl 0 rfl) ?_
    obtain ⟨r1, e2, f⟩ := ob f
    refine o_gR S lf10_isLargest_15 I e2 dX10_isLargest_17 ?_
    refine lv_iload_n S.1 S.2.1 dX10_isLargest_20 rfl (lv_at hl 1 rfl) ?_
    obtain ⟨v4, e3, f⟩ := ob f
    refine o_iald S I e3 dX10_isLargest_21 ?_
    refine lv_icmp_ge (tgt := 56) S.1 S.2.1 dX10_isLargest_22 (by decide) (fun q5 => ?_) (fun q5 => ?_)
    · have f := (if_pos q5).symm.trans f
      refine lv_iconst (v := 1) S.1 S.2.1 dX10_isLargest_56 (by decide) ?_
      exact o_zret S hr hlo I f dX10_isLargest_57
    · have f := (if_neg q5).symm.trans f
      refine lv_aload_n S.1 S.2.1 dX10_isLargest_25 rfl (lv_at hl 0 rfl) ?_
      obtain ⟨r6, e7, f⟩ := ob f
      refine o_gR S lf10_isLargest_21 I e7 dX10_isLargest_26 ?_
      refine lv_aload_n S.1 S.2.1 dX10_isLargest_29 rfl (lv_at hl 0 rfl) ?_
      obtain ⟨r8, e9, f⟩ := ob f
      refine o_gR S lf10_isLargest_9 I e9 dX10_isLargest_30 ?_
      refine lv_iload_n S.1 S.2.1 dX10_isLargest_33 rfl (lv_at hl 1 rfl) ?_
      obtain ⟨v11, e10, f⟩ := ob f
      refine o_iald S I e10 dX10_isLargest_34 ?_
      refine lv_iload S.1 S.2.1 dX10_isLargest_35 (lv_at hl 3 rfl) ?_
      refine lv_iadd S.1 S.2.1 dX10_isLargest_37 ?_
      obtain ⟨v13, e12, f⟩ := ob f
      refine o_iald S I e12 dX10_isLargest_38 ?_
      refine lv_aload_n S.1 S.2.1 dX10_isLargest_39 rfl (lv_at hl 0 rfl) ?_
      obtain ⟨r14, e15, f⟩ := ob f
      refine o_gR S lf10_isLargest_21 I e15 dX10_isLargest_40 ?_
      refine lv_iload_n S.1 S.2.1 dX10_isLargest_43 rfl (lv_at hl 2 rfl) ?_
      obtain ⟨v17, e16, f⟩ := ob f
      refine o_iald S I e16 dX10_isLargest_44 ?_
      refine lv_icmp_le (tgt := 50) S.1 S.2.1 dX10_isLargest_45 (by decide) (fun q18 => ?_) (fun q18 => ?_)
      · have f := (if_pos q18).symm.trans f
        refine lv_iinc (v := (x4 + 1)) (lv' := [(4, .int (x4 + 1)), (0, .ref (b + a0)), (1, .int x1), (3, .int x3)]) S.1 S.2.1 dX10_isLargest_50 hl (k := 3) rfl (congrArg (fun z => x4 + z) (by decide)) (by decide) rfl (fun ls hl => ?_)
        refine lv_goto (tgt := 14) S.1 S.2.1 dX10_isLargest_53 (by decide) ?_
        exact ih f I (lv_sub hl [1, 2, 3, 0] rfl)
      · have f := (if_neg q18).symm.trans f
        refine lv_iconst (v := 0) S.1 S.2.1 dX10_isLargest_48 (by decide) ?_
        exact o_zret S hr hlo I f dX10_isLargest_49
def F10_isLargest_0  (h : PH) (a0 : Nat) (x1 : Int32) (x2 : Int32) : Option (Int32 × PH) := (gR h a0 10 2).bind fun r1 => (aI h r1 0 x1).bind fun v4 => F10_isLargest_14  1024 h a0 x1 ((v4 + x2) - 1) 0
set_option maxHeartbeats 4000000 in
set_option maxRecDepth 100000 in
theorem T10_isLargest_0 (S : CallFix p m c cX10_isLargest 5 s args wsX10_isLargest RX10) (hr : meth.sig.returnType = (some .boolean)) (hlo : meth.locks = false) {out : Int32 × PH} {h : PH} {a0 : Nat} {x1 : Int32} {x2 : Int32} (f : F10_isLargest_0  h a0 x1 x2 = some out) {H : Heap} {locs : List Loc} (I : ph_I D cy b A fl h s H locs) {ls : Array Slot} (hl : lv_has ls 5 [(0, .ref (b + a0)), (1, .int x1), (2, .int x2)]) : W p l e ({ frames := 0, cells := 0, slots := 0, locals := 0 } : Room) s m args below meth c H locs 0 0 (MQ below (va_Qi (fun (r : Int32) (u : PH) => (r, u) = out) (ph_B D cy b A fl) A) args s 0 0 A) (F0 m 0 ls []) := by
  unfold F10_isLargest_0 at f
  refine lv_aload_n S.1 S.2.1 dX10_isLargest_0 rfl (lv_at hl 0 rfl) ?_
  obtain ⟨r1, e2, f⟩ := ob f
  refine o_gR S lf10_isLargest_9 I e2 dX10_isLargest_1 ?_
  refine lv_iload_n S.1 S.2.1 dX10_isLargest_4 rfl (lv_at hl 1 rfl) ?_
  obtain ⟨v4, e3, f⟩ := ob f
  refine o_iald S I e3 dX10_isLargest_5 ?_
  refine lv_iload_n S.1 S.2.1 dX10_isLargest_6 rfl (lv_at hl 2 rfl) ?_
  refine lv_iadd S.1 S.2.1 dX10_isLargest_7 ?_
  refine lv_iconst (v := 1) S.1 S.2.1 dX10_isLargest_8 (by decide) ?_
  refine lv_isub S.1 S.2.1 dX10_isLargest_9 ?_
  refine lv_istore_n (lv' := [(3, .int ((v4 + x2) - 1)), (0, .ref (b + a0)), (1, .int x1), (2, .int x2)]) S.1 S.2.1 dX10_isLargest_10 rfl hl (by decide) rfl (fun ls hl => ?_)
  refine lv_iconst (v := 0) S.1 S.2.1 dX10_isLargest_11 (by decide) ?_
  refine lv_istore (lv' := [(4, .int 0), (3, .int ((v4 + x2) - 1)), (0, .ref (b + a0)), (1, .int x1), (2, .int x2)]) S.1 S.2.1 dX10_isLargest_12 hl (by decide) rfl (fun ls hl => ?_)
  exact T10_isLargest_14 S hr hlo  1024 f I (lv_sub hl [2, 3, 1, 0] rfl)
def F10_isLargest (h : PH) (a0 : Nat) (x1 : Int32) (x2 : Int32) : Option (Int32 × PH) := cond (okO h a0 10) (F10_isLargest_0 h a0 x1 x2) none
theorem M10_isLargest (l : Launch) (D : va_G) (cy : Nat → ClassId) (b : Nat) (A : Nat → Prop) (fl : Bool) {h : PH} {a0 : Nat} {x1 : Int32} {x2 : Int32} {out : Int32 × PH} (f : F10_isLargest h a0 x1 x2 = some out) : Met l yX10_isLargest wsX10_isLargest ({ frames := 0, cells := 0, slots := 0, locals := 0 } : Room) (va_Pc [.ref (b + a0), .int x1, .int x2] (ph_B D cy b A fl h)) (va_Qi (fun (r : Int32) (u : PH) => (r, u) = out) (ph_B D cy b A fl) A) 0 0 A :=
  o_met (by decide) rfl (Nat.le_of_ble_eq_true rfl) rfl (fun p e s m below meth c S hr hlo hnm ls hl I => T10_isLargest_0 S hr hlo ((gd f).2) I (lv_sub hl [0, 1, 2] rfl))
theorem lp0_findRests_98 : Pl wsX0_findRests RX0 98 0 6 .int := ⟨RX0, TX0, 13, tyX0, rfl, by decide, (fun w h9 => List.mem_cons_of_mem _ (List.mem_append_right _ h9)), (List.mem_cons_of_mem _ (List.mem_append_left _ (List.mem_of_getElem? (i := 0) rfl))), tyX0_ok, nmX0, rfl, rfl⟩
theorem cd0_findRests : Cd yX0_findRests 0 := ⟨by decide, by decide, by decide +kernel⟩
def F0_findRests_14 (k7 : PH → Nat → Int32 → Option (PH)) : Nat → PH → Nat → Int32 → Int32 → Option (PH)
  | 0, _, _, _, _ => none
  | n + 1, h, a0, x1, x2 => if 5 ≤ x2 then (k7 h a0 (x1 + 1)) else (none)
set_option maxHeartbeats 4000000 in
set_option maxRecDepth 100000 in
theorem T0_findRests_14 (S : CallFix p m c cX0_findRests 3 s args wsX0_findRests RX0) (hr : meth.sig.returnType = none) (hlo : meth.locks = false) {out : PH} {k7 : PH → Nat → Int32 → Option (PH)} (hk7 : ∀ {h : PH} {a0 : Nat} {x1 : Int32}, k7 h a0 x1 = some out → ∀ (H : Heap) (locs : List Loc), ph_I D cy b A fl h s H locs → ∀ (ls : Array Slot), lv_has ls 3 [(0, .ref (b + a0)), (1, .int x1)] → W p l e ({ frames := 0, cells := 0, slots := 0, locals := 0 } : Room) s m args below meth c H locs 0 0 (MQ below (va_Qv (fun (u : PH) => u = out) (ph_B D cy b A fl) A) args s 0 0 A) (F0 m 7 ls [])) : ∀ (n : Nat) {h : PH} {a0 : Nat} {x1 : Int32} {x2 : Int32} (f : F0_findRests_14 k7 n h a0 x1 x2 = some out) {H : Heap} {locs : List Loc} (I : ph_I D cy b A fl h s H locs) {ls : Array Slot} (hl : lv_has ls 3 [(0, .ref (b + a0)), (1, .int x1), (2, .int x2)]), W p l e ({ frames := 0, cells := 0, slots := 0, locals := 0 } : Room) s m args below meth c H locs 0 0 (MQ below (va_Qv (fun (u : PH) => u = out) (ph_B D cy b A fl) A) args s 0 0 A) (F0 m 14 ls []) := by
  intro n
  induction n with
  | zero => intro h a0 x1 x2 f; rw [F0_findRests_14] at f; cases f
  | succ n ih =>
    intro h a0 x1 x2 f H locs I ls hl
    rw [F0_findRests_14] at f
    refine lv_iload_n S.1 S.2.1 dX0_findRests_14 rfl (lv_at hl 2 rfl) ?_
    refine lv_iconst (v := 5) S.1 S.2.1 dX0_findRests_15 (by decide) ?_
    refine lv_icmp_ge (tgt := 67) S.1 S.2.1 dX0_findRests_16 (by decide) (fun q1 => ?_) (fun q1 => ?_)
    · have f := (if_pos q1).symm.trans f
      refine lv_iinc (v := (x1 + 1)) (lv' := [(1, .int (x1 + 1)), (0, .ref (b + a0)), (2, .int x2)]) S.1 S.2.1 dX0_findRests_67 hl (k := 1) rfl (congrArg (fun z => x1 + z) (by decide)) (by decide) rfl (fun ls hl => ?_)
      refine lv_goto (tgt := 7) S.1 S.2.1 dX0_findRests_70 (by decide) ?_
      exact hk7 f _ _ I _ (lv_sub hl [1, 0] rfl)
    · have f := (if_neg q1).symm.trans f
      refine lv_aload_n S.1 S.2.1 dX0_findRests_19 rfl (lv_at hl 0 rfl) ?_
      refine lv_iload_n S.1 S.2.1 dX0_findRests_20 rfl (lv_at hl 1 rfl) ?_
      refine lv_iload_n S.1 S.2.1 dX0_findRests_21 rfl (lv_at hl 2 rfl) ?_
      cases f
def F0_findRests_7  : Nat → PH → Nat → Int32 → Option (PH)
  | 0, _, _, _ => none
  | n + 1, h, a0, x1 => if 5 ≤ x1 then (some h) else (F0_findRests_14 (fun h a0 x1 => F0_findRests_7  n h a0 x1) 1024 h a0 x1 0)
set_option maxHeartbeats 4000000 in
set_option maxRecDepth 100000 in
theorem T0_findRests_7 (S : CallFix p m c cX0_findRests 3 s args wsX0_findRests RX0) (hr : meth.sig.returnType = none) (hlo : meth.locks = false) {out : PH} : ∀ (n : Nat) {h : PH} {a0 : Nat} {x1 : Int32} (f : F0_findRests_7  n h a0 x1 = some out) {H : Heap} {locs : List Loc} (I : ph_I D cy b A fl h s H locs) {ls : Array Slot} (hl : lv_has ls 3 [(0, .ref (b + a0)), (1, .int x1)]), W p l e ({ frames := 0, cells := 0, slots := 0, locals := 0 } : Room) s m args below meth c H locs 0 0 (MQ below (va_Qv (fun (u : PH) => u = out) (ph_B D cy b A fl) A) args s 0 0 A) (F0 m 7 ls []) := by
  intro n
  induction n with
  | zero => intro h a0 x1 f; rw [F0_findRests_7] at f; cases f
  | succ n ih =>
    intro h a0 x1 f H locs I ls hl
    rw [F0_findRests_7] at f
    refine lv_iload_n S.1 S.2.1 dX0_findRests_7 rfl (lv_at hl 1 rfl) ?_
    refine lv_iconst (v := 5) S.1 S.2.1 dX0_findRests_8 (by decide) ?_
    refine lv_icmp_ge (tgt := 73) S.1 S.2.1 dX0_findRests_9 (by decide) (fun q1 => ?_) (fun q1 => ?_)
    · have f := (if_pos q1).symm.trans f
      exact o_vret S hr hlo I f dX0_findRests_73
    · have f := (if_neg q1).symm.trans f
      refine lv_iconst (v := 0) S.1 S.2.1 dX0_findRests_12 (by decide) ?_
      refine lv_istore_n (lv' := [(2, .int 0), (0, .ref (b + a0)), (1, .int x1)]) S.1 S.2.1 dX0_findRests_13 rfl hl (by decide) rfl (fun ls hl => ?_)
      exact T0_findRests_14 S hr hlo (fun f _ _ I _ hl => ih f I hl) 1024 f I (lv_sub hl [1, 2, 0] rfl)
def F0_findRests_0  (h : PH) (a0 : Nat) : Option (PH) := (pI h a0 0 6 0).bind fun h1 => F0_findRests_7  1024 h1 a0 0
set_option maxHeartbeats 4000000 in
set_option maxRecDepth 100000 in
theorem T0_findRests_0 (S : CallFix p m c cX0_findRests 3 s args wsX0_findRests RX0) (hr : meth.sig.returnType = none) (hlo : meth.locks = false) {out : PH} {h : PH} {a0 : Nat} (f : F0_findRests_0  h a0 = some out) {H : Heap} {locs : List Loc} (I : ph_I D cy b A fl h s H locs) {ls : Array Slot} (hl : lv_has ls 3 [(0, .ref (b + a0))]) : W p l e ({ frames := 0, cells := 0, slots := 0, locals := 0 } : Room) s m args below meth c H locs 0 0 (MQ below (va_Qv (fun (u : PH) => u = out) (ph_B D cy b A fl) A) args s 0 0 A) (F0 m 0 ls []) := by
  unfold F0_findRests_0 at f
  refine lv_aload_n S.1 S.2.1 dX0_findRests_0 rfl (lv_at hl 0 rfl) ?_
  refine lv_iconst (v := 0) S.1 S.2.1 dX0_findRests_1 (by decide) ?_
  obtain ⟨h1, e2, f⟩ := ob f
  refine o_pI S lp0_findRests_98 I e2 dX0_findRests_2 (fun H locs I => ?_)
  refine lv_iconst (v := 0) S.1 S.2.1 dX0_findRests_5 (by decide) ?_
  refine lv_istore_n (lv' := [(1, .int 0), (0, .ref (b + a0))]) S.1 S.2.1 dX0_findRests_6 rfl hl (by decide) rfl (fun ls hl => ?_)
  exact T0_findRests_7 S hr hlo  1024 f I (lv_sub hl [1, 0] rfl)
def F0_findRests (h : PH) (a0 : Nat) : Option (PH) := cond (okO h a0 0) (F0_findRests_0 h a0) none
theorem M0_findRests (l : Launch) (D : va_G) (cy : Nat → ClassId) (b : Nat) (A : Nat → Prop) (fl : Bool) {h : PH} {a0 : Nat} {out : PH} (f : F0_findRests h a0 = some out) : Met l yX0_findRests wsX0_findRests ({ frames := 0, cells := 0, slots := 0, locals := 0 } : Room) (va_Pc [.ref (b + a0)] (ph_B D cy b A fl h)) (va_Qv (fun (u : PH) => u = out) (ph_B D cy b A fl) A) 0 0 A :=
  o_met (by decide) rfl (Nat.le_of_ble_eq_true rfl) rfl (fun p e s m below meth c S hr hlo hnm ls hl I => T0_findRests_0 S hr hlo ((gd f).2) I (lv_sub hl [0] rfl))
end
