section
variable {p : Program} {l : Launch} {e : Env} {s : State} {m : MethodId} {args : Array Value} {below : List Frame} {meth : Method} {c : Code} {D : va_G} {cy : Nat → ClassId} {b : Nat} {A : Nat → Prop} {fl : Bool}
set_option maxHeartbeats 4000000 in
set_option maxRecDepth 100000 in
theorem T4_hadInSum_0 (S : CallFix p m c cX4_hadInSum 4 s args vX4_hadInSum RX4) (hr : meth.sig.returnType = (some .int)) (hlo : meth.locks = false) {out : Int32 × PH} {h : PH} {a0 : Nat} {x1 : Int32} (f : F4_hadInSum_0  h a0 x1 = some out) {H : Heap} {locs : List Loc} (I : ph_I D cy b A fl h s H locs) {ls : Array Slot} (hl : lv_has ls 4 [(0, .ref (b + a0)), (1, .int x1)]) : W p l e ({ frames := 0, cells := 0, slots := 0, locals := 0 } : Room) s m args below meth c H locs 0 0 (MQ below (va_Qi (fun (r : Int32) (u : PH) => (r, u) = out) (ph_B D cy b A fl) A) args s 0 0 A) (F0 m 0 ls []) := by
  unfold F4_hadInSum_0 at f
  refine lv_iconst (v := 0) S.1 S.2.1 dX4_hadInSum_0 (by decide) ?_
  refine lv_istore_n (lv' := [(2, .int 0), (0, .ref (b + a0)), (1, .int x1)]) S.1 S.2.1 dX4_hadInSum_1 rfl hl (by decide) rfl (fun ls hl => ?_)
  refine lv_iconst (v := 0) S.1 S.2.1 dX4_hadInSum_2 (by decide) ?_
  refine lv_istore_n (lv' := [(3, .int 0), (2, .int 0), (0, .ref (b + a0)), (1, .int x1)]) S.1 S.2.1 dX4_hadInSum_3 rfl hl (by decide) rfl (fun ls hl => ?_)
  exact T4_hadInSum_4 S hr hlo  1024 f I (lv_sub hl [2, 3, 1, 0] rfl)
theorem M4_hadInSum (l : Launch) (D : va_G) (cy : Nat → ClassId) (b : Nat) (A : Nat → Prop) (fl : Bool) {h : PH} {a0 : Nat} {x1 : Int32} {out : Int32 × PH} (f : F4_hadInSum h a0 x1 = some out) : Met l yX4_hadInSum vX4_hadInSum ({ frames := 0, cells := 0, slots := 0, locals := 0 } : Room) (va_Pc [.ref (b + a0), .int x1] (ph_B D cy b A fl h)) (va_Qi (fun (r : Int32) (u : PH) => (r, u) = out) (ph_B D cy b A fl) A) 0 0 A :=
  o_met (by decide) rfl (Nat.le_of_ble_eq_true rfl) rfl (fun p e s m below meth c S hr hlo hnm ls hl I => T4_hadInSum_0 S hr hlo ((gd f).2) I (lv_sub hl [0, 1] rfl))
def vX4_leaveOut : List Cond := .code yX4_leaveOut cX4_leaveOut 2 none :: TB
theorem lf4_leaveOut_21 : Fl vX4_leaveOut RX4 21 4 8 := ⟨RX4, TX4, 11, rfl, by decide, (fun w h9 => List.mem_cons_of_mem _ (wC_wsX40 w h9)), (List.mem_cons_of_mem _ wT_8_7)⟩
theorem cd4_leaveOut : Cd yX4_leaveOut 1 := ⟨by decide, by decide, by decide +kernel⟩
set_option maxHeartbeats 4000000 in
set_option maxRecDepth 100000 in
theorem T4_leaveOut_0 (S : CallFix p m c cX4_leaveOut 2 s args vX4_leaveOut RX4) (hr : meth.sig.returnType = none) (hlo : meth.locks = false) {out : PH} {h : PH} {a0 : Nat} {x1 : Int32} (f : F4_leaveOut_0  h a0 x1 = some out) {H : Heap} {locs : List Loc} (I : ph_I D cy b A fl h s H locs) {ls : Array Slot} (hl : lv_has ls 2 [(0, .ref (b + a0)), (1, .int x1)]) : W p l e ({ frames := 0, cells := 0, slots := 0, locals := 0 } : Room) s m args below meth c H locs 0 0 (MQ below (va_Qv (fun (u : PH) => u = out) (ph_B D cy b A fl) A) args s 0 0 A) (F0 m 0 ls []) := by
  unfold F4_leaveOut_0 at f
  refine lv_aload_n S.1 S.2.1 dX4_leaveOut_0 rfl (lv_at hl 0 rfl) ?_
  obtain ⟨r1, e2, f⟩ := ob f
  refine o_gR S lf4_leaveOut_21 I e2 dX4_leaveOut_1 ?_
  refine lv_iload_n S.1 S.2.1 dX4_leaveOut_4 rfl (lv_at hl 1 rfl) ?_
  refine lv_ldc (v := 2147483647) S.1 S.2.1 S.2.2.2.1 (S.2.2.2.2 _ (List.mem_cons_of_mem _ wT_65_13)) dX4_leaveOut_5 ?_
  obtain ⟨h4, e3, f⟩ := ob f
  refine o_iast S I e3 dX4_leaveOut_7 (fun H locs I => ?_)
  exact o_vret S hr hlo I f dX4_leaveOut_8
theorem M4_leaveOut (l : Launch) (D : va_G) (cy : Nat → ClassId) (b : Nat) (A : Nat → Prop) (fl : Bool) {h : PH} {a0 : Nat} {x1 : Int32} {out : PH} (f : F4_leaveOut h a0 x1 = some out) : Met l yX4_leaveOut vX4_leaveOut ({ frames := 0, cells := 0, slots := 0, locals := 0 } : Room) (va_Pc [.ref (b + a0), .int x1] (ph_B D cy b A fl h)) (va_Qv (fun (u : PH) => u = out) (ph_B D cy b A fl) A) 0 0 A :=
  o_met (by decide) rfl (Nat.le_of_ble_eq_true rfl) rfl (fun p e s m below meth c S hr hlo hnm ls hl I => T4_leaveOut_0 S hr hlo ((gd f).2) I (lv_sub hl [0, 1] rfl))
def vX4_seatAll : List Cond := .code yX4_seatAll cX4_seatAll 3 none :: TB
theorem lf4_seatAll_9 : Fl vX4_seatAll RX4 9 4 5 := ⟨RX4, TX4, 11, rfl, by decide, (fun w h9 => List.mem_cons_of_mem _ (wC_wsX40 w h9)), (List.mem_cons_of_mem _ wT_8_4)⟩
theorem cd4_seatAll : Cd yX4_seatAll 1 := ⟨by decide, by decide, by decide +kernel⟩
set_option maxHeartbeats 4000000 in
set_option maxRecDepth 100000 in
theorem T4_seatAll_2 (S : CallFix p m c cX4_seatAll 3 s args vX4_seatAll RX4) (hr : meth.sig.returnType = none) (hlo : meth.locks = false) {out : PH} : ∀ (n : Nat) {h : PH} {a0 : Nat} {x1 : Int32} {x2 : Int32} (f : F4_seatAll_2  n h a0 x1 x2 = some out) {H : Heap} {locs : List Loc} (I : ph_I D cy b A fl h s H locs) {ls : Array Slot} (hl : lv_has ls 3 [(0, .ref (b + a0)), (1, .int x1), (2, .int x2)]), W p l e ({ frames := 0, cells := 0, slots := 0, locals := 0 } : Room) s m args below meth c H locs 0 0 (MQ below (va_Qv (fun (u : PH) => u = out) (ph_B D cy b A fl) A) args s 0 0 A) (F0 m 2 ls []) := by
  intro n
  induction n with
  | zero => intro h a0 x1 x2 f; rw [F4_seatAll_2] at f; cases f
  | succ n ih =>
    intro h a0 x1 x2 f H locs I ls hl
    rw [F4_seatAll_2] at f
    refine lv_iload_n S.1 S.2.1 dX4_seatAll_2 rfl (lv_at hl 2 rfl) ?_
    refine lv_iconst (v := 5) S.1 S.2.1 dX4_seatAll_3 (by decide) ?_
    refine lv_icmp_ge (tgt := 20) S.1 S.2.1 dX4_seatAll_4 (by decide) (fun q1 => ?_) (fun q1 => ?_)
    · have f := (if_pos q1).symm.trans f
      exact o_vret S hr hlo I f dX4_seatAll_20
    · have f := (if_neg q1).symm.trans f
      refine lv_aload_n S.1 S.2.1 dX4_seatAll_7 rfl (lv_at hl 0 rfl) ?_
      obtain ⟨r2, e3, f⟩ := ob f
      refine o_gR S lf4_seatAll_9 I e3 dX4_seatAll_8 ?_
      refine lv_iload_n S.1 S.2.1 dX4_seatAll_11 rfl (lv_at hl 2 rfl) ?_
      refine lv_iload_n S.1 S.2.1 dX4_seatAll_12 rfl (lv_at hl 1 rfl) ?_
      obtain ⟨h5, e4, f⟩ := ob f
      refine o_iast S I e4 dX4_seatAll_13 (fun H locs I => ?_)
      refine lv_iinc (v := (x2 + 1)) (lv' := [(2, .int (x2 + 1)), (0, .ref (b + a0)), (1, .int x1)]) S.1 S.2.1 dX4_seatAll_14 hl (k := 2) rfl (congrArg (fun z => x2 + z) (by decide)) (by decide) rfl (fun ls hl => ?_)
      refine lv_goto (tgt := 2) S.1 S.2.1 dX4_seatAll_17 (by decide) ?_
      exact ih f I (lv_sub hl [1, 2, 0] rfl)
set_option maxHeartbeats 4000000 in
set_option maxRecDepth 100000 in
theorem T4_seatAll_0 (S : CallFix p m c cX4_seatAll 3 s args vX4_seatAll RX4) (hr : meth.sig.returnType = none) (hlo : meth.locks = false) {out : PH} {h : PH} {a0 : Nat} {x1 : Int32} (f : F4_seatAll_0  h a0 x1 = some out) {H : Heap} {locs : List Loc} (I : ph_I D cy b A fl h s H locs) {ls : Array Slot} (hl : lv_has ls 3 [(0, .ref (b + a0)), (1, .int x1)]) : W p l e ({ frames := 0, cells := 0, slots := 0, locals := 0 } : Room) s m args below meth c H locs 0 0 (MQ below (va_Qv (fun (u : PH) => u = out) (ph_B D cy b A fl) A) args s 0 0 A) (F0 m 0 ls []) := by
  unfold F4_seatAll_0 at f
  refine lv_iconst (v := 0) S.1 S.2.1 dX4_seatAll_0 (by decide) ?_
  refine lv_istore_n (lv' := [(2, .int 0), (0, .ref (b + a0)), (1, .int x1)]) S.1 S.2.1 dX4_seatAll_1 rfl hl (by decide) rfl (fun ls hl => ?_)
  exact T4_seatAll_2 S hr hlo  1024 f I (lv_sub hl [1, 2, 0] rfl)
theorem M4_seatAll (l : Launch) (D : va_G) (cy : Nat → ClassId) (b : Nat) (A : Nat → Prop) (fl : Bool) {h : PH} {a0 : Nat} {x1 : Int32} {out : PH} (f : F4_seatAll h a0 x1 = some out) : Met l yX4_seatAll vX4_seatAll ({ frames := 0, cells := 0, slots := 0, locals := 0 } : Room) (va_Pc [.ref (b + a0), .int x1] (ph_B D cy b A fl h)) (va_Qv (fun (u : PH) => u = out) (ph_B D cy b A fl) A) 0 0 A :=
  o_met (by decide) rfl (Nat.le_of_ble_eq_true rfl) rfl (fun p e s m below meth c S hr hlo hnm ls hl I => T4_seatAll_0 S hr hlo ((gd f).2) I (lv_sub hl [0, 1] rfl))
def vX4_takeAll : List Cond := .code yX4_takeAll cX4_takeAll 2 none :: TB
theorem lf4_takeAll_30 : Fl vX4_takeAll RX4 30 4 0 := ⟨RX4, TX4, 11, rfl, by decide, (fun w h9 => List.mem_cons_of_mem _ (wC_wsX40 w h9)), (List.mem_cons_of_mem _ wT_26_4)⟩
theorem lp4_takeAll_30 : Pl vX4_takeAll RX4 30 4 0 .int := ⟨RX4, TX4, 11, tyX4, rfl, by decide, (fun w h9 => List.mem_cons_of_mem _ (wC_wsX40 w h9)), (List.mem_cons_of_mem _ wT_26_4), tyX4_ok, nmX4, rfl, rfl⟩
theorem lf4_takeAll_39 : Fl vX4_takeAll RX4 39 4 1 := ⟨RX4, TX4, 11, rfl, by decide, (fun w h9 => List.mem_cons_of_mem _ (wC_wsX40 w h9)), (List.mem_cons_of_mem _ wT_26_6)⟩
theorem lp4_takeAll_39 : Pl vX4_takeAll RX4 39 4 1 .int := ⟨RX4, TX4, 11, tyX4, rfl, by decide, (fun w h9 => List.mem_cons_of_mem _ (wC_wsX40 w h9)), (List.mem_cons_of_mem _ wT_26_6), tyX4_ok, nmX4, rfl, rfl⟩
theorem lf4_takeAll_43 : Fl vX4_takeAll RX4 43 4 2 := ⟨RX4, TX4, 11, rfl, by decide, (fun w h9 => List.mem_cons_of_mem _ (wC_wsX40 w h9)), (List.mem_cons_of_mem _ wT_26_8)⟩
theorem lp4_takeAll_43 : Pl vX4_takeAll RX4 43 4 2 .int := ⟨RX4, TX4, 11, tyX4, rfl, by decide, (fun w h9 => List.mem_cons_of_mem _ (wC_wsX40 w h9)), (List.mem_cons_of_mem _ wT_26_8), tyX4_ok, nmX4, rfl, rfl⟩
theorem lf4_takeAll_46 : Fl vX4_takeAll RX4 46 4 3 := ⟨RX4, TX4, 11, rfl, by decide, (fun w h9 => List.mem_cons_of_mem _ (wC_wsX40 w h9)), (List.mem_cons_of_mem _ wT_26_9)⟩
theorem lp4_takeAll_46 : Pl vX4_takeAll RX4 46 4 3 .int := ⟨RX4, TX4, 11, tyX4, rfl, by decide, (fun w h9 => List.mem_cons_of_mem _ (wC_wsX40 w h9)), (List.mem_cons_of_mem _ wT_26_9), tyX4_ok, nmX4, rfl, rfl⟩
theorem lf4_takeAll_49 : Fl vX4_takeAll RX4 49 4 4 := ⟨RX4, TX4, 11, rfl, by decide, (fun w h9 => List.mem_cons_of_mem _ (wC_wsX40 w h9)), (List.mem_cons_of_mem _ wT_26_10)⟩
theorem lp4_takeAll_49 : Pl vX4_takeAll RX4 49 4 4 .int := ⟨RX4, TX4, 11, tyX4, rfl, by decide, (fun w h9 => List.mem_cons_of_mem _ (wC_wsX40 w h9)), (List.mem_cons_of_mem _ wT_26_10), tyX4_ok, nmX4, rfl, rfl⟩
theorem lf4_takeAll_9 : Fl vX4_takeAll RX4 9 4 5 := ⟨RX4, TX4, 11, rfl, by decide, (fun w h9 => List.mem_cons_of_mem _ (wC_wsX40 w h9)), (List.mem_cons_of_mem _ wT_8_4)⟩
theorem la4_takeAll_59 : Al vX4_takeAll RX4 59 := ⟨(List.mem_cons_of_mem _ wT_57_18), (List.mem_cons_of_mem _ wT_24_5), (List.mem_cons_of_mem _ wT_24_6), (List.mem_cons_of_mem _ wT_24_7)⟩
theorem lf4_takeAll_15 : Fl vX4_takeAll RX4 15 4 6 := ⟨RX4, TX4, 11, rfl, by decide, (fun w h9 => List.mem_cons_of_mem _ (wC_wsX40 w h9)), (List.mem_cons_of_mem _ wT_8_5)⟩
theorem lf4_takeAll_18 : Fl vX4_takeAll RX4 18 4 7 := ⟨RX4, TX4, 11, rfl, by decide, (fun w h9 => List.mem_cons_of_mem _ (wC_wsX40 w h9)), (List.mem_cons_of_mem _ wT_8_6)⟩
theorem lf4_takeAll_21 : Fl vX4_takeAll RX4 21 4 8 := ⟨RX4, TX4, 11, rfl, by decide, (fun w h9 => List.mem_cons_of_mem _ (wC_wsX40 w h9)), (List.mem_cons_of_mem _ wT_8_7)⟩
theorem lf4_takeAll_24 : Fl vX4_takeAll RX4 24 4 9 := ⟨RX4, TX4, 11, rfl, by decide, (fun w h9 => List.mem_cons_of_mem _ (wC_wsX40 w h9)), (List.mem_cons_of_mem _ wT_8_8)⟩
theorem lf4_takeAll_27 : Fl vX4_takeAll RX4 27 4 10 := ⟨RX4, TX4, 11, rfl, by decide, (fun w h9 => List.mem_cons_of_mem _ (wC_wsX40 w h9)), (List.mem_cons_of_mem _ wT_8_9)⟩
theorem cd4_takeAll : Cd yX4_takeAll 1 := ⟨by decide, by decide, by decide +kernel⟩
set_option maxHeartbeats 4000000 in
set_option maxRecDepth 100000 in
theorem T4_takeAll_0 (S : CallFix p m c cX4_takeAll 2 s args vX4_takeAll RX4) (hr : meth.sig.returnType = none) (hlo : meth.locks = false) {out : PH} {h : PH} {a0 : Nat} {a1 : Nat} (f : F4_takeAll_0  h a0 a1 = some out) {H : Heap} {locs : List Loc} (I : ph_I D cy b A false h s H locs) {ls : Array Slot} (hl : lv_has ls 2 [(0, .ref (b + a0)), (1, .ref (b + a1))]) : W p l e ({ frames := 1, cells := 0, slots := 0, locals := 40 } : Room) s m args below meth c H locs 0 0 (MQ below (va_Qv (fun (u : PH) => u = out) (ph_B D cy b A false) A) args s 0 0 A) (F0 m 0 ls []) := by
  unfold F4_takeAll_0 at f
  refine lv_aload_n S.1 S.2.1 dX4_takeAll_0 rfl (lv_at hl 0 rfl) ?_
  refine lv_aload_n S.1 S.2.1 dX4_takeAll_1 rfl (lv_at hl 1 rfl) ?_
  obtain ⟨v1, e2, f⟩ := ob f
  refine o_gI S lf4_takeAll_30 I e2 dX4_takeAll_2 ?_
  obtain ⟨h3, e4, f⟩ := ob f
  refine o_pI S lp4_takeAll_30 I e4 dX4_takeAll_5 (fun H locs I => ?_)
  refine lv_aload_n S.1 S.2.1 dX4_takeAll_8 rfl (lv_at hl 0 rfl) ?_
  refine lv_aload_n S.1 S.2.1 dX4_takeAll_9 rfl (lv_at hl 1 rfl) ?_
  obtain ⟨v5, e6, f⟩ := ob f
  refine o_gI S lf4_takeAll_39 I e6 dX4_takeAll_10 ?_
  obtain ⟨h7, e8, f⟩ := ob f
  refine o_pI S lp4_takeAll_39 I e8 dX4_takeAll_13 (fun H locs I => ?_)
  refine lv_aload_n S.1 S.2.1 dX4_takeAll_16 rfl (lv_at hl 0 rfl) ?_
  refine lv_aload_n S.1 S.2.1 dX4_takeAll_17 rfl (lv_at hl 1 rfl) ?_
  obtain ⟨v9, e10, f⟩ := ob f
  refine o_gI S lf4_takeAll_43 I e10 dX4_takeAll_18 ?_
  obtain ⟨h11, e12, f⟩ := ob f
  refine o_pI S lp4_takeAll_43 I e12 dX4_takeAll_21 (fun H locs I => ?_)
  refine lv_aload_n S.1 S.2.1 dX4_takeAll_24 rfl (lv_at hl 0 rfl) ?_
  refine lv_aload_n S.1 S.2.1 dX4_takeAll_25 rfl (lv_at hl 1 rfl) ?_
  obtain ⟨v13, e14, f⟩ := ob f
  refine o_gI S lf4_takeAll_46 I e14 dX4_takeAll_26 ?_
  obtain ⟨h15, e16, f⟩ := ob f
  refine o_pI S lp4_takeAll_46 I e16 dX4_takeAll_29 (fun H locs I => ?_)
  refine lv_aload_n S.1 S.2.1 dX4_takeAll_32 rfl (lv_at hl 0 rfl) ?_
  refine lv_aload_n S.1 S.2.1 dX4_takeAll_33 rfl (lv_at hl 1 rfl) ?_
  obtain ⟨v17, e18, f⟩ := ob f
  refine o_gI S lf4_takeAll_49 I e18 dX4_takeAll_34 ?_
  obtain ⟨h19, e20, f⟩ := ob f
  refine o_pI S lp4_takeAll_49 I e20 dX4_takeAll_37 (fun H locs I => ?_)
  refine lv_aload_n S.1 S.2.1 dX4_takeAll_40 rfl (lv_at hl 1 rfl) ?_
  obtain ⟨r21, e22, f⟩ := ob f
  refine o_gR S lf4_takeAll_9 I e22 dX4_takeAll_41 ?_
  refine lv_iconst (v := 0) S.1 S.2.1 dX4_takeAll_44 (by decide) ?_
  refine lv_aload_n S.1 S.2.1 dX4_takeAll_45 rfl (lv_at hl 0 rfl) ?_
  obtain ⟨r23, e24, f⟩ := ob f
  refine o_gR S lf4_takeAll_9 I e24 dX4_takeAll_46 ?_
  refine lv_iconst (v := 0) S.1 S.2.1 dX4_takeAll_49 (by decide) ?_
  refine lv_iconst (v := 5) S.1 S.2.1 dX4_takeAll_50 (by decide) ?_
  obtain ⟨h25, e26, f⟩ := ob f
  refine o_copy S la4_takeAll_59 hl.1 I e26 (Nat.le_of_ble_eq_true rfl) (Nat.le_of_ble_eq_true rfl) dX4_takeAll_51 (fun H locs I => ?_)
  refine lv_aload_n S.1 S.2.1 dX4_takeAll_54 rfl (lv_at hl 1 rfl) ?_
  obtain ⟨r27, e28, f⟩ := ob f
  refine o_gR S lf4_takeAll_15 I e28 dX4_takeAll_55 ?_
  refine lv_iconst (v := 0) S.1 S.2.1 dX4_takeAll_58 (by decide) ?_
  refine lv_aload_n S.1 S.2.1 dX4_takeAll_59 rfl (lv_at hl 0 rfl) ?_
  obtain ⟨r29, e30, f⟩ := ob f
  refine o_gR S lf4_takeAll_15 I e30 dX4_takeAll_60 ?_
  refine lv_iconst (v := 0) S.1 S.2.1 dX4_takeAll_63 (by decide) ?_
  refine lv_iconst (v := 5) S.1 S.2.1 dX4_takeAll_64 (by decide) ?_
  obtain ⟨h31, e32, f⟩ := ob f
  refine o_copy S la4_takeAll_59 hl.1 I e32 (Nat.le_of_ble_eq_true rfl) (Nat.le_of_ble_eq_true rfl) dX4_takeAll_65 (fun H locs I => ?_)
  refine lv_aload_n S.1 S.2.1 dX4_takeAll_68 rfl (lv_at hl 1 rfl) ?_
  obtain ⟨r33, e34, f⟩ := ob f
  refine o_gR S lf4_takeAll_18 I e34 dX4_takeAll_69 ?_
  refine lv_iconst (v := 0) S.1 S.2.1 dX4_takeAll_72 (by decide) ?_
  refine lv_aload_n S.1 S.2.1 dX4_takeAll_73 rfl (lv_at hl 0 rfl) ?_
  obtain ⟨r35, e36, f⟩ := ob f
  refine o_gR S lf4_takeAll_18 I e36 dX4_takeAll_74 ?_
  refine lv_iconst (v := 0) S.1 S.2.1 dX4_takeAll_77 (by decide) ?_
  refine lv_iconst (v := 5) S.1 S.2.1 dX4_takeAll_78 (by decide) ?_
  obtain ⟨h37, e38, f⟩ := ob f
  refine o_copy S la4_takeAll_59 hl.1 I e38 (Nat.le_of_ble_eq_true rfl) (Nat.le_of_ble_eq_true rfl) dX4_takeAll_79 (fun H locs I => ?_)
  refine lv_aload_n S.1 S.2.1 dX4_takeAll_82 rfl (lv_at hl 1 rfl) ?_
  obtain ⟨r39, e40, f⟩ := ob f
  refine o_gR S lf4_takeAll_21 I e40 dX4_takeAll_83 ?_
  refine lv_iconst (v := 0) S.1 S.2.1 dX4_takeAll_86 (by decide) ?_
  refine lv_aload_n S.1 S.2.1 dX4_takeAll_87 rfl (lv_at hl 0 rfl) ?_
  obtain ⟨r41, e42, f⟩ := ob f
  refine o_gR S lf4_takeAll_21 I e42 dX4_takeAll_88 ?_
  refine lv_iconst (v := 0) S.1 S.2.1 dX4_takeAll_91 (by decide) ?_
  refine lv_iconst (v := 5) S.1 S.2.1 dX4_takeAll_92 (by decide) ?_
  obtain ⟨h43, e44, f⟩ := ob f
  refine o_copy S la4_takeAll_59 hl.1 I e44 (Nat.le_of_ble_eq_true rfl) (Nat.le_of_ble_eq_true rfl) dX4_takeAll_93 (fun H locs I => ?_)
  refine lv_aload_n S.1 S.2.1 dX4_takeAll_96 rfl (lv_at hl 1 rfl) ?_
  obtain ⟨r45, e46, f⟩ := ob f
  refine o_gR S lf4_takeAll_24 I e46 dX4_takeAll_97 ?_
  refine lv_iconst (v := 0) S.1 S.2.1 dX4_takeAll_100 (by decide) ?_
  refine lv_aload_n S.1 S.2.1 dX4_takeAll_101 rfl (lv_at hl 0 rfl) ?_
  obtain ⟨r47, e48, f⟩ := ob f
  refine o_gR S lf4_takeAll_24 I e48 dX4_takeAll_102 ?_
  refine lv_iconst (v := 0) S.1 S.2.1 dX4_takeAll_105 (by decide) ?_
  refine lv_iconst (v := 5) S.1 S.2.1 dX4_takeAll_106 (by decide) ?_
  obtain ⟨h49, e50, f⟩ := ob f
  refine o_copy S la4_takeAll_59 hl.1 I e50 (Nat.le_of_ble_eq_true rfl) (Nat.le_of_ble_eq_true rfl) dX4_takeAll_107 (fun H locs I => ?_)
  refine lv_aload_n S.1 S.2.1 dX4_takeAll_110 rfl (lv_at hl 1 rfl) ?_
  obtain ⟨r51, e52, f⟩ := ob f
  refine o_gR S lf4_takeAll_27 I e52 dX4_takeAll_111 ?_
  refine lv_iconst (v := 0) S.1 S.2.1 dX4_takeAll_114 (by decide) ?_
  refine lv_aload_n S.1 S.2.1 dX4_takeAll_115 rfl (lv_at hl 0 rfl) ?_
  obtain ⟨r53, e54, f⟩ := ob f
  refine o_gR S lf4_takeAll_27 I e54 dX4_takeAll_116 ?_
  refine lv_iconst (v := 0) S.1 S.2.1 dX4_takeAll_119 (by decide) ?_
  refine lv_bipush (v := 28) S.1 S.2.1 dX4_takeAll_120 (by decide) ?_
  obtain ⟨h55, e56, f⟩ := ob f
  refine o_copy S la4_takeAll_59 hl.1 I e56 (Nat.le_of_ble_eq_true rfl) (Nat.le_of_ble_eq_true rfl) dX4_takeAll_122 (fun H locs I => ?_)
  exact o_vret S hr hlo I f dX4_takeAll_125
theorem M4_takeAll (l : Launch) (D : va_G) (cy : Nat → ClassId) (b : Nat) (A : Nat → Prop) {h : PH} {a0 : Nat} {a1 : Nat} {out : PH} (f : F4_takeAll h a0 a1 = some out) : Met l yX4_takeAll vX4_takeAll ({ frames := 1, cells := 0, slots := 0, locals := 40 } : Room) (va_Pc [.ref (b + a0), .ref (b + a1)] (ph_B D cy b A false h)) (va_Qv (fun (u : PH) => u = out) (ph_B D cy b A false) A) 0 0 A :=
  o_met (by decide) rfl (Nat.le_of_ble_eq_true rfl) rfl (fun p e s m below meth c S hr hlo hnm ls hl I => T4_takeAll_0 S hr hlo ((gd f).2) I (lv_sub hl [0, 1] rfl))
def vX4_takeForRun : List Cond := .code yX4_takeForRun cX4_takeForRun 4 none :: TB
theorem gX4_takeForRun_X4_takeAll : GoodIn vX4_takeForRun (wsV RX4 65 RX4 yX4_takeAll vX4_takeAll) := gV_of wT_57_14 wT_57_15 wT_57_16 wT_2_7 wT_57_17
theorem lp4_takeForRun_39 : Pl vX4_takeForRun RX4 39 4 1 .int := ⟨RX4, TX4, 11, tyX4, rfl, by decide, (fun w h9 => List.mem_cons_of_mem _ (wC_wsX40 w h9)), (List.mem_cons_of_mem _ wT_26_6), tyX4_ok, nmX4, rfl, rfl⟩
theorem lp4_takeForRun_43 : Pl vX4_takeForRun RX4 43 4 2 .int := ⟨RX4, TX4, 11, tyX4, rfl, by decide, (fun w h9 => List.mem_cons_of_mem _ (wC_wsX40 w h9)), (List.mem_cons_of_mem _ wT_26_8), tyX4_ok, nmX4, rfl, rfl⟩
theorem lp4_takeForRun_46 : Pl vX4_takeForRun RX4 46 4 3 .int := ⟨RX4, TX4, 11, tyX4, rfl, by decide, (fun w h9 => List.mem_cons_of_mem _ (wC_wsX40 w h9)), (List.mem_cons_of_mem _ wT_26_9), tyX4_ok, nmX4, rfl, rfl⟩
theorem lp4_takeForRun_49 : Pl vX4_takeForRun RX4 49 4 4 .int := ⟨RX4, TX4, 11, tyX4, rfl, by decide, (fun w h9 => List.mem_cons_of_mem _ (wC_wsX40 w h9)), (List.mem_cons_of_mem _ wT_26_10), tyX4_ok, nmX4, rfl, rfl⟩
theorem cd4_takeForRun : Cd yX4_takeForRun 3 := ⟨by decide, by decide, by decide +kernel⟩
set_option maxHeartbeats 4000000 in
set_option maxRecDepth 100000 in
theorem T4_takeForRun_0 (S : CallFix p m c cX4_takeForRun 4 s args vX4_takeForRun RX4) (hr : meth.sig.returnType = none) (hlo : meth.locks = false) {out : PH} {h : PH} {a0 : Nat} {a1 : Nat} {x2 : Int32} {x3 : Int32} (f : F4_takeForRun_0  h a0 a1 x2 x3 = some out) {H : Heap} {locs : List Loc} (I : ph_I D cy b A false h s H locs) {ls : Array Slot} (hl : lv_has ls 4 [(0, .ref (b + a0)), (1, .ref (b + a1)), (2, .int x2), (3, .int x3)]) : W p l e ({ frames := 2, cells := 0, slots := 0, locals := 61 } : Room) s m args below meth c H locs 0 0 (MQ below (va_Qv (fun (u : PH) => u = out) (ph_B D cy b A false) A) args s 0 0 A) (F0 m 0 ls []) := by
  unfold F4_takeForRun_0 at f
  refine lv_aload_n S.1 S.2.1 dX4_takeForRun_0 rfl (lv_at hl 0 rfl) ?_
  refine lv_aload_n S.1 S.2.1 dX4_takeForRun_1 rfl (lv_at hl 1 rfl) ?_
  obtain ⟨o1, e2, f⟩ := ob f
  refine o_Vv S (As := [.ref (b + a1)]) (rest := []) (ci := 4) (M4_takeAll l D cy b A e2) gX4_takeForRun_X4_takeAll rfl rfl rfl cd4_takeAll ⟨Nat.le_of_ble_eq_true rfl, Nat.le_of_ble_eq_true rfl⟩ I (gd e2).1 clX4 rfl rfl hl.1 rfl (Nat.le_of_ble_eq_true rfl) dX4_takeForRun_2 ⟨Nat.le_of_ble_eq_true rfl, Nat.le_of_ble_eq_true rfl⟩ (fun H locs I => ?_)
  refine lv_aload_n S.1 S.2.1 dX4_takeForRun_5 rfl (lv_at hl 0 rfl) ?_
  refine lv_iload_n S.1 S.2.1 dX4_takeForRun_6 rfl (lv_at hl 2 rfl) ?_
  obtain ⟨h3, e4, f⟩ := ob f
  refine o_pI S lp4_takeForRun_39 I e4 dX4_takeForRun_7 (fun H locs I => ?_)
  refine lv_aload_n S.1 S.2.1 dX4_takeForRun_10 rfl (lv_at hl 0 rfl) ?_
  refine lv_iload_n S.1 S.2.1 dX4_takeForRun_11 rfl (lv_at hl 3 rfl) ?_
  obtain ⟨h5, e6, f⟩ := ob f
  refine o_pI S lp4_takeForRun_43 I e6 dX4_takeForRun_12 (fun H locs I => ?_)
  refine lv_aload_n S.1 S.2.1 dX4_takeForRun_15 rfl (lv_at hl 0 rfl) ?_
  refine lv_iconst (v := 0) S.1 S.2.1 dX4_takeForRun_16 (by decide) ?_
  obtain ⟨h7, e8, f⟩ := ob f
  refine o_pI S lp4_takeForRun_46 I e8 dX4_takeForRun_17 (fun H locs I => ?_)
  refine lv_aload_n S.1 S.2.1 dX4_takeForRun_20 rfl (lv_at hl 0 rfl) ?_
  refine lv_iconst (v := 0) S.1 S.2.1 dX4_takeForRun_21 (by decide) ?_
  obtain ⟨h9, e10, f⟩ := ob f
  refine o_pI S lp4_takeForRun_49 I e10 dX4_takeForRun_22 (fun H locs I => ?_)
  exact o_vret S hr hlo I f dX4_takeForRun_25
theorem M4_takeForRun (l : Launch) (D : va_G) (cy : Nat → ClassId) (b : Nat) (A : Nat → Prop) {h : PH} {a0 : Nat} {a1 : Nat} {x2 : Int32} {x3 : Int32} {out : PH} (f : F4_takeForRun h a0 a1 x2 x3 = some out) : Met l yX4_takeForRun vX4_takeForRun ({ frames := 2, cells := 0, slots := 0, locals := 61 } : Room) (va_Pc [.ref (b + a0), .ref (b + a1), .int x2, .int x3] (ph_B D cy b A false h)) (va_Qv (fun (u : PH) => u = out) (ph_B D cy b A false) A) 0 0 A :=
  o_met (by decide) rfl (Nat.le_of_ble_eq_true rfl) rfl (fun p e s m below meth c S hr hlo hnm ls hl I => T4_takeForRun_0 S hr hlo ((gd f).2) I (lv_sub hl [0, 1, 2, 3] rfl))
def vX4_unlike : List Cond := .code yX4_unlike cX4_unlike 5 (some .int) :: TB
theorem lf4_unlike_15 : Fl vX4_unlike RX4 15 4 6 := ⟨RX4, TX4, 11, rfl, by decide, (fun w h9 => List.mem_cons_of_mem _ (wC_wsX40 w h9)), (List.mem_cons_of_mem _ wT_8_5)⟩
theorem cd4_unlike : Cd yX4_unlike 1 := ⟨by decide, by decide, by decide +kernel⟩
set_option maxHeartbeats 4000000 in
set_option maxRecDepth 100000 in
theorem T4_unlike_24 (S : CallFix p m c cX4_unlike 5 s args vX4_unlike RX4) (hr : meth.sig.returnType = (some .int)) (hlo : meth.locks = false) {out : Int32 × PH} : ∀ (n : Nat) {h : PH} {a0 : Nat} {x1 : Int32} {x2 : Int32} {x3 : Int32} {x4 : Int32} (f : F4_unlike_24  n h a0 x1 x2 x3 x4 = some out) {H : Heap} {locs : List Loc} (I : ph_I D cy b A fl h s H locs) {ls : Array Slot} (hl : lv_has ls 5 [(0, .ref (b + a0)), (1, .int x1), (2, .int x2), (3, .int x3), (4, .int x4)]), W p l e ({ frames := 1, cells := 0, slots := 0, locals := 24 } : Room) s m args below meth c H locs 0 0 (MQ below (va_Qi (fun (r : Int32) (u : PH) => (r, u) = out) (ph_B D cy b A fl) A) args s 0 0 A) (F0 m 24 ls []) := by
  intro n
  induction n with
  | zero => intro h a0 x1 x2 x3 x4 f; rw [F4_unlike_24] at f; cases f
  | succ n ih =>
    intro h a0 x1 x2 x3 x4 f H locs I ls hl
    rw [F4_unlike_24] at f
    refine lv_iload S.1 S.2.1 dX4_unlike_24 (lv_at hl 4 rfl) ?_
    refine lv_iload_n S.1 S.2.1 dX4_unlike_26 rfl (lv_at hl 1 rfl) ?_
    refine lv_icmp_ge (tgt := 60) S.1 S.2.1 dX4_unlike_27 (by decide) (fun q1 => ?_) (fun q1 => ?_)
    · have f := (if_pos q1).symm.trans f
      refine lv_iload_n S.1 S.2.1 dX4_unlike_60 rfl (lv_at hl 2 rfl) ?_
      refine lv_iload_n S.1 S.2.1 dX4_unlike_61 rfl (lv_at hl 3 rfl) ?_
      refine lv_isub S.1 S.2.1 dX4_unlike_62 ?_
      exact o_iret S hr hlo I f dX4_unlike_63
    · have f := (if_neg q1).symm.trans f
      refine lv_iload_n S.1 S.2.1 dX4_unlike_30 rfl (lv_at hl 2 rfl) ?_
      refine lv_aload_n S.1 S.2.1 dX4_unlike_31 rfl (lv_at hl 0 rfl) ?_
      obtain ⟨r2, e3, f⟩ := ob f
      refine o_gR S lf4_unlike_15 I e3 dX4_unlike_32 ?_
      refine lv_iload S.1 S.2.1 dX4_unlike_35 (lv_at hl 4 rfl) ?_
      obtain ⟨v5, e4, f⟩ := ob f
      refine o_iald S I e4 dX4_unlike_37 ?_
      refine va_mmax S.1 S.2.1 (by rw [S.2.2.1, hl.1]) S.2.2.2.1 (S.2.2.2.2 _ (List.mem_cons_of_mem _ wT_57_23)) (S.2.2.2.2 _ (List.mem_cons_of_mem _ wT_38_14)) (S.2.2.2.2 _ (List.mem_cons_of_mem _ wT_15_17)) (S.2.2.2.2 _ (List.mem_cons_of_mem _ wT_38_15)) (Nat.le_of_ble_eq_true rfl) (Nat.le_of_ble_eq_true rfl) (Nat.zero_le _) (Nat.zero_le _) dX4_unlike_38 ?_
      refine lv_istore_n (lv' := [(2, .int (if x2 < v5 then v5 else x2)), (0, .ref (b + a0)), (1, .int x1), (3, .int x3), (4, .int x4)]) S.1 S.2.1 dX4_unlike_41 rfl hl (by decide) rfl (fun ls hl => ?_)
      refine lv_iload_n S.1 S.2.1 dX4_unlike_42 rfl (lv_at hl 3 rfl) ?_
      refine lv_aload_n S.1 S.2.1 dX4_unlike_43 rfl (lv_at hl 1 rfl) ?_
      obtain ⟨r6, e7, f⟩ := ob f
      refine o_gR S lf4_unlike_15 I e7 dX4_unlike_44 ?_
      refine lv_iload S.1 S.2.1 dX4_unlike_47 (lv_at hl 4 rfl) ?_
      obtain ⟨v9, e8, f⟩ := ob f
      refine o_iald S I e8 dX4_unlike_49 ?_
      refine va_mmin S.1 S.2.1 (by rw [S.2.2.1, hl.1]) S.2.2.2.1 (S.2.2.2.2 _ (List.mem_cons_of_mem _ wT_58_0)) (S.2.2.2.2 _ (List.mem_cons_of_mem _ wT_15_16)) (S.2.2.2.2 _ (List.mem_cons_of_mem _ wT_15_17)) (S.2.2.2.2 _ (List.mem_cons_of_mem _ wT_15_18)) (Nat.le_of_ble_eq_true rfl) (Nat.le_of_ble_eq_true rfl) (Nat.zero_le _) (Nat.zero_le _) dX4_unlike_50 ?_
      refine lv_istore_n (lv' := [(3, .int (if v9 < x3 then v9 else x3)), (2, .int (if x2 < v5 then v5 else x2)), (0, .ref (b + a0)), (1, .int x1), (4, .int x4)]) S.1 S.2.1 dX4_unlike_53 rfl hl (by decide) rfl (fun ls hl => ?_)
      refine lv_iinc (v := (x4 + 1)) (lv' := [(4, .int (x4 + 1)), (3, .int (if v9 < x3 then v9 else x3)), (2, .int (if x2 < v5 then v5 else x2)), (0, .ref (b + a0)), (1, .int x1)]) S.1 S.2.1 dX4_unlike_54 hl (k := 4) rfl (congrArg (fun z => x4 + z) (by decide)) (by decide) rfl (fun ls hl => ?_)
      refine lv_goto (tgt := 24) S.1 S.2.1 dX4_unlike_57 (by decide) ?_
      exact ih f I (lv_sub hl [3, 4, 2, 1, 0] rfl)
set_option maxHeartbeats 4000000 in
set_option maxRecDepth 100000 in
theorem T4_unlike_0 (S : CallFix p m c cX4_unlike 5 s args vX4_unlike RX4) (hr : meth.sig.returnType = (some .int)) (hlo : meth.locks = false) {out : Int32 × PH} {h : PH} {a0 : Nat} {x1 : Int32} (f : F4_unlike_0  h a0 x1 = some out) {H : Heap} {locs : List Loc} (I : ph_I D cy b A fl h s H locs) {ls : Array Slot} (hl : lv_has ls 5 [(0, .ref (b + a0)), (1, .int x1)]) : W p l e ({ frames := 1, cells := 0, slots := 0, locals := 24 } : Room) s m args below meth c H locs 0 0 (MQ below (va_Qi (fun (r : Int32) (u : PH) => (r, u) = out) (ph_B D cy b A fl) A) args s 0 0 A) (F0 m 0 ls []) := by
  unfold F4_unlike_0 at f
  refine lv_iload_n S.1 S.2.1 dX4_unlike_0 rfl (lv_at hl 1 rfl) ?_
  refine lv_iconst (v := 1) S.1 S.2.1 dX4_unlike_1 (by decide) ?_
  refine lv_icmp_ge (tgt := 7) S.1 S.2.1 dX4_unlike_2 (by decide) (fun q1 => ?_) (fun q1 => ?_)
  · have f := (if_pos q1).symm.trans f
    refine lv_aload_n S.1 S.2.1 dX4_unlike_7 rfl (lv_at hl 0 rfl) ?_
    obtain ⟨r2, e3, f⟩ := ob f
    refine o_gR S lf4_unlike_15 I e3 dX4_unlike_8 ?_
    refine lv_iconst (v := 0) S.1 S.2.1 dX4_unlike_11 (by decide) ?_
    obtain ⟨v5, e4, f⟩ := ob f
    refine o_iald S I e4 dX4_unlike_12 ?_
    refine lv_istore_n (lv' := [(2, .int v5), (0, .ref (b + a0)), (1, .int x1)]) S.1 S.2.1 dX4_unlike_13 rfl hl (by decide) rfl (fun ls hl => ?_)
    refine lv_aload_n S.1 S.2.1 dX4_unlike_14 rfl (lv_at hl 1 rfl) ?_
    obtain ⟨r6, e7, f⟩ := ob f
    refine o_gR S lf4_unlike_15 I e7 dX4_unlike_15 ?_
    refine lv_iconst (v := 0) S.1 S.2.1 dX4_unlike_18 (by decide) ?_
    obtain ⟨v9, e8, f⟩ := ob f
    refine o_iald S I e8 dX4_unlike_19 ?_
    refine lv_istore_n (lv' := [(3, .int v9), (2, .int v5), (0, .ref (b + a0)), (1, .int x1)]) S.1 S.2.1 dX4_unlike_20 rfl hl (by decide) rfl (fun ls hl => ?_)
    refine lv_iconst (v := 1) S.1 S.2.1 dX4_unlike_21 (by decide) ?_
    refine lv_istore (lv' := [(4, .int 1), (3, .int v9), (2, .int v5), (0, .ref (b + a0)), (1, .int x1)]) S.1 S.2.1 dX4_unlike_22 hl (by decide) rfl (fun ls hl => ?_)
    exact T4_unlike_24 S hr hlo  1024 f I (lv_sub hl [3, 4, 2, 1, 0] rfl)
  · have f := (if_neg q1).symm.trans f
    refine lv_iconst (v := 0) S.1 S.2.1 dX4_unlike_5 (by decide) ?_
    exact o_iret S hr hlo I f dX4_unlike_6
theorem M4_unlike (l : Launch) (D : va_G) (cy : Nat → ClassId) (b : Nat) (A : Nat → Prop) (fl : Bool) {h : PH} {a0 : Nat} {x1 : Int32} {out : Int32 × PH} (f : F4_unlike h a0 x1 = some out) : Met l yX4_unlike vX4_unlike ({ frames := 1, cells := 0, slots := 0, locals := 24 } : Room) (va_Pc [.ref (b + a0), .int x1] (ph_B D cy b A fl h)) (va_Qi (fun (r : Int32) (u : PH) => (r, u) = out) (ph_B D cy b A fl) A) 0 0 A :=
  o_met (by decide) rfl (Nat.le_of_ble_eq_true rfl) rfl (fun p e s m below meth c S hr hlo hnm ls hl I => T4_unlike_0 S hr hlo ((gd f).2) I (lv_sub hl [0, 1] rfl))
def vX5_refuse : List Cond := .code yX5_refuse cX5_refuse 2 (some .boolean) :: TB
theorem lp5_refuse_35 : Pl vX5_refuse RX5 35 5 8 .int := ⟨RX5, TX5, 11, tyX5, rfl, by decide, (fun w h9 => List.mem_cons_of_mem _ (wC_wsX50 w h9)), (List.mem_cons_of_mem _ wT_14_4), tyX5_ok, nmX5, rfl, rfl⟩
theorem lf5_refuse_18 : Fl vX5_refuse RX5 18 5 0 := ⟨RX5, TX5, 11, rfl, by decide, (fun w h9 => List.mem_cons_of_mem _ (wC_wsX50 w h9)), (List.mem_cons_of_mem _ wT_5_3)⟩
theorem lf5_refuse_62 : Fl vX5_refuse RX5 62 7 5 := ⟨RX7, TX7, 7, rfl, by decide, (fun w h9 => List.mem_cons_of_mem _ (wC_wsX70 w h9)), (List.mem_cons_of_mem _ wT_18_5)⟩
theorem lp5_refuse_26 : Pl vX5_refuse RX5 26 5 9 .int := ⟨RX5, TX5, 11, tyX5, rfl, by decide, (fun w h9 => List.mem_cons_of_mem _ (wC_wsX50 w h9)), (List.mem_cons_of_mem _ wT_5_5), tyX5_ok, nmX5, rfl, rfl⟩
theorem cd5_refuse : Cd yX5_refuse 1 := ⟨by decide, by decide, by decide +kernel⟩
set_option maxHeartbeats 4000000 in
set_option maxRecDepth 100000 in
theorem T5_refuse_0 (S : CallFix p m c cX5_refuse 2 s args vX5_refuse RX5) (hr : meth.sig.returnType = (some .boolean)) (hlo : meth.locks = false) {out : Int32 × PH} {h : PH} {a0 : Nat} {x1 : Int32} (f : F5_refuse_0  h a0 x1 = some out) {H : Heap} {locs : List Loc} (I : ph_I D cy b A fl h s H locs) {ls : Array Slot} (hl : lv_has ls 2 [(0, .ref (b + a0)), (1, .int x1)]) : W p l e ({ frames := 0, cells := 0, slots := 0, locals := 0 } : Room) s m args below meth c H locs 0 0 (MQ below (va_Qi (fun (r : Int32) (u : PH) => (r, u) = out) (ph_B D cy b A fl) A) args s 0 0 A) (F0 m 0 ls []) := by
  unfold F5_refuse_0 at f
  refine lv_aload_n S.1 S.2.1 dX5_refuse_0 rfl (lv_at hl 0 rfl) ?_
  refine lv_iload_n S.1 S.2.1 dX5_refuse_1 rfl (lv_at hl 1 rfl) ?_
  obtain ⟨h1, e2, f⟩ := ob f
  refine o_pI S lp5_refuse_35 I e2 dX5_refuse_2 (fun H locs I => ?_)
  refine lv_aload_n S.1 S.2.1 dX5_refuse_5 rfl (lv_at hl 0 rfl) ?_
  refine lv_aload_n S.1 S.2.1 dX5_refuse_6 rfl (lv_at hl 0 rfl) ?_
  obtain ⟨r3, e4, f⟩ := ob f
  refine o_gR S lf5_refuse_18 I e4 dX5_refuse_7 ?_
  obtain ⟨v5, e6, f⟩ := ob f
  refine o_gI S lf5_refuse_62 I e6 dX5_refuse_10 ?_
  obtain ⟨h7, e8, f⟩ := ob f
  refine o_pI S lp5_refuse_26 I e8 dX5_refuse_13 (fun H locs I => ?_)
  refine lv_iconst (v := 0) S.1 S.2.1 dX5_refuse_16 (by decide) ?_
  exact o_zret S hr hlo I f dX5_refuse_17
theorem M5_refuse (l : Launch) (D : va_G) (cy : Nat → ClassId) (b : Nat) (A : Nat → Prop) (fl : Bool) {h : PH} {a0 : Nat} {x1 : Int32} {out : Int32 × PH} (f : F5_refuse h a0 x1 = some out) : Met l yX5_refuse vX5_refuse ({ frames := 0, cells := 0, slots := 0, locals := 0 } : Room) (va_Pc [.ref (b + a0), .int x1] (ph_B D cy b A fl h)) (va_Qi (fun (r : Int32) (u : PH) => (r, u) = out) (ph_B D cy b A fl) A) 0 0 A :=
  o_met (by decide) rfl (Nat.le_of_ble_eq_true rfl) rfl (fun p e s m below meth c S hr hlo hnm ls hl I => T5_refuse_0 S hr hlo ((gd f).2) I (lv_sub hl [0, 1] rfl))
def vX5_countKnot : List Cond := .code yX5_countKnot cX5_countKnot 1 (some .boolean) :: TB
theorem lf5_countKnot_9 : Fl vX5_countKnot RX5 9 5 10 := ⟨RX5, TX5, 11, rfl, by decide, (fun w h9 => List.mem_cons_of_mem _ (wC_wsX50 w h9)), (List.mem_cons_of_mem _ wT_4_23)⟩
theorem lf5_countKnot_229 : Fl vX5_countKnot RX5 229 8 13 := ⟨RX8, TX8, 14, rfl, by decide, (fun w h9 => List.mem_cons_of_mem _ (wC_wsX80 w h9)), (List.mem_cons_of_mem _ wT_23_1)⟩
theorem lp5_countKnot_229 : Pl vX5_countKnot RX5 229 8 13 .int := ⟨RX8, TX8, 14, tyX8, rfl, by decide, (fun w h9 => List.mem_cons_of_mem _ (wC_wsX80 w h9)), (List.mem_cons_of_mem _ wT_23_1), tyX8_ok, nmX8, rfl, rfl⟩
theorem gX5_countKnot_X5_refuse : GoodIn vX5_countKnot (wsV RX5 89 RX5 yX5_refuse vX5_refuse) := gV_of wT_18_1 wT_18_2 wT_18_3 wT_1_22 wT_18_4
theorem cd5_countKnot : Cd yX5_countKnot 0 := ⟨by decide, by decide, by decide +kernel⟩
set_option maxHeartbeats 4000000 in
set_option maxRecDepth 100000 in
theorem T5_countKnot_0 (S : CallFix p m c cX5_countKnot 1 s args vX5_countKnot RX5) (hr : meth.sig.returnType = (some .boolean)) (hlo : meth.locks = false) {out : Int32 × PH} {h : PH} {a0 : Nat} (f : F5_countKnot_0  h a0 = some out) {H : Heap} {locs : List Loc} (I : ph_I D cy b A fl h s H locs) {ls : Array Slot} (hl : lv_has ls 1 [(0, .ref (b + a0))]) : W p l e ({ frames := 1, cells := 0, slots := 0, locals := 21 } : Room) s m args below meth c H locs 0 0 (MQ below (va_Qi (fun (r : Int32) (u : PH) => (r, u) = out) (ph_B D cy b A fl) A) args s 0 0 A) (F0 m 0 ls []) := by
  unfold F5_countKnot_0 at f
  refine lv_aload_n S.1 S.2.1 dX5_countKnot_0 rfl (lv_at hl 0 rfl) ?_
  obtain ⟨r1, e2, f⟩ := ob f
  refine o_gR S lf5_countKnot_9 I e2 dX5_countKnot_1 ?_
  obtain ⟨v3, e4, f⟩ := ob f
  refine o_gI S lf5_countKnot_229 I e4 dX5_countKnot_4 ?_
  refine lv_bipush (v := 64) S.1 S.2.1 dX5_countKnot_7 (by decide) ?_
  refine lv_icmp_lt (tgt := 18) S.1 S.2.1 dX5_countKnot_9 (by decide) (fun q5 => ?_) (fun q5 => ?_)
  · have f := (if_pos q5).symm.trans f
    refine lv_aload_n S.1 S.2.1 dX5_countKnot_18 rfl (lv_at hl 0 rfl) ?_
    obtain ⟨r6, e7, f⟩ := ob f
    refine o_gR S lf5_countKnot_9 I e7 dX5_countKnot_19 ?_
    refine lv_dup S.1 S.2.1 dX5_countKnot_22 rfl ?_
    obtain ⟨v8, e9, f⟩ := ob f
    refine o_gI S lf5_countKnot_229 I e9 dX5_countKnot_23 ?_
    refine lv_iconst (v := 1) S.1 S.2.1 dX5_countKnot_26 (by decide) ?_
    refine lv_iadd S.1 S.2.1 dX5_countKnot_27 ?_
    obtain ⟨h10, e11, f⟩ := ob f
    refine o_pI S lp5_countKnot_229 I e11 dX5_countKnot_28 (fun H locs I => ?_)
    refine lv_iconst (v := 1) S.1 S.2.1 dX5_countKnot_31 (by decide) ?_
    exact o_zret S hr hlo I f dX5_countKnot_32
  · have f := (if_neg q5).symm.trans f
    refine lv_aload_n S.1 S.2.1 dX5_countKnot_12 rfl (lv_at hl 0 rfl) ?_
    refine lv_iconst (v := 2) S.1 S.2.1 dX5_countKnot_13 (by decide) ?_
    obtain ⟨o12, e13, f⟩ := ob f
    refine o_Vi S (As := [.int 2]) (rest := []) (ci := 5) (M5_refuse l D cy b A fl e13) gX5_countKnot_X5_refuse rfl rfl rfl cd5_refuse ⟨Nat.le_of_ble_eq_true rfl, Nat.le_of_ble_eq_true rfl⟩ I (gd e13).1 clX5 rfl rfl hl.1 rfl (Nat.le_of_ble_eq_true rfl) dX5_countKnot_14 ⟨Nat.le_of_ble_eq_true rfl, Nat.le_of_ble_eq_true rfl⟩ (fun H locs I => ?_)
    exact o_zret S hr hlo I f dX5_countKnot_17
theorem M5_countKnot (l : Launch) (D : va_G) (cy : Nat → ClassId) (b : Nat) (A : Nat → Prop) (fl : Bool) {h : PH} {a0 : Nat} {out : Int32 × PH} (f : F5_countKnot h a0 = some out) : Met l yX5_countKnot vX5_countKnot ({ frames := 1, cells := 0, slots := 0, locals := 21 } : Room) (va_Pc [.ref (b + a0)] (ph_B D cy b A fl h)) (va_Qi (fun (r : Int32) (u : PH) => (r, u) = out) (ph_B D cy b A fl) A) 0 0 A :=
  o_met (by decide) rfl (Nat.le_of_ble_eq_true rfl) rfl (fun p e s m below meth c S hr hlo hnm ls hl I => T5_countKnot_0 S hr hlo ((gd f).2) I (lv_sub hl [0] rfl))
def vX7_isLetter : List Cond := .code yX7_isLetter cX7_isLetter 1 (some .boolean) :: TB
theorem cd7_isLetter : Cd yX7_isLetter 1 := ⟨by decide, by decide, by decide +kernel⟩
set_option maxHeartbeats 4000000 in
set_option maxRecDepth 100000 in
theorem T7_isLetter_0 (S : CallFix p m c cX7_isLetter 1 s args vX7_isLetter RX7) (hr : meth.sig.returnType = (some .boolean)) (hlo : meth.locks = false) {out : Int32 × PH} {h : PH} {x0 : Int32} (f : F7_isLetter_0  h x0 = some out) {H : Heap} {locs : List Loc} (I : ph_I D cy b A fl h s H locs) {ls : Array Slot} (hl : lv_has ls 1 [(0, .int x0)]) : W p l e ({ frames := 0, cells := 0, slots := 0, locals := 0 } : Room) s m args below meth c H locs 0 0 (MQ below (va_Qi (fun (r : Int32) (u : PH) => (r, u) = out) (ph_B D cy b A fl) A) args s 0 0 A) (F0 m 0 ls []) := by
  unfold F7_isLetter_0 at f
  refine lv_iload_n S.1 S.2.1 dX7_isLetter_0 rfl (lv_at hl 0 rfl) ?_
  refine lv_bipush (v := 97) S.1 S.2.1 dX7_isLetter_1 (by decide) ?_
  refine lv_icmp_lt (tgt := 16) S.1 S.2.1 dX7_isLetter_3 (by decide) (fun q1 => ?_) (fun q1 => ?_)
  · have f := (if_pos q1).symm.trans f
    refine lv_iconst (v := 0) S.1 S.2.1 dX7_isLetter_16 (by decide) ?_
    exact o_zret S hr hlo I f dX7_isLetter_17
  · have f := (if_neg q1).symm.trans f
    refine lv_iload_n S.1 S.2.1 dX7_isLetter_6 rfl (lv_at hl 0 rfl) ?_
    refine lv_bipush (v := 122) S.1 S.2.1 dX7_isLetter_7 (by decide) ?_
    refine lv_icmp_gt (tgt := 16) S.1 S.2.1 dX7_isLetter_9 (by decide) (fun q2 => ?_) (fun q2 => ?_)
    · have f := (if_pos q2).symm.trans f
      refine lv_iconst (v := 0) S.1 S.2.1 dX7_isLetter_16 (by decide) ?_
      exact o_zret S hr hlo I f dX7_isLetter_17
    · have f := (if_neg q2).symm.trans f
      refine lv_iconst (v := 1) S.1 S.2.1 dX7_isLetter_12 (by decide) ?_
      refine lv_goto (tgt := 17) S.1 S.2.1 dX7_isLetter_13 (by decide) ?_
      exact o_zret S hr hlo I f dX7_isLetter_17
theorem M7_isLetter (l : Launch) (D : va_G) (cy : Nat → ClassId) (b : Nat) (A : Nat → Prop) (fl : Bool) {h : PH} {x0 : Int32} {out : Int32 × PH} (f : F7_isLetter h x0 = some out) : Met l yX7_isLetter vX7_isLetter ({ frames := 0, cells := 0, slots := 0, locals := 0 } : Room) (va_Pc [.int x0] (ph_B D cy b A fl h)) (va_Qi (fun (r : Int32) (u : PH) => (r, u) = out) (ph_B D cy b A fl) A) 0 0 A :=
  o_met (by decide) rfl (Nat.le_of_ble_eq_true rfl) rfl (fun p e s m below meth c S hr hlo hnm ls hl I => T7_isLetter_0 S hr hlo (f) I (lv_sub hl [0] rfl))
def vX7_letterBits : List Cond := .code yX7_letterBits cX7_letterBits 2 (some .int) :: TB
theorem cd7_letterBits : Cd yX7_letterBits 2 := ⟨by decide, by decide, by decide +kernel⟩
set_option maxHeartbeats 4000000 in
set_option maxRecDepth 100000 in
theorem T7_letterBits_0 (S : CallFix p m c cX7_letterBits 2 s args vX7_letterBits RX7) (hr : meth.sig.returnType = (some .int)) (hlo : meth.locks = false) {out : Int32 × PH} {h : PH} {x0 : Int32} {x1 : Int32} (f : F7_letterBits_0  h x0 x1 = some out) {H : Heap} {locs : List Loc} (I : ph_I D cy b A fl h s H locs) {ls : Array Slot} (hl : lv_has ls 2 [(0, .int x0), (1, .int x1)]) : W p l e ({ frames := 0, cells := 0, slots := 0, locals := 0 } : Room) s m args below meth c H locs 0 0 (MQ below (va_Qi (fun (r : Int32) (u : PH) => (r, u) = out) (ph_B D cy b A fl) A) args s 0 0 A) (F0 m 0 ls []) := by
  unfold F7_letterBits_0 at f
  refine lv_iload_n S.1 S.2.1 dX7_letterBits_0 rfl (lv_at hl 0 rfl) ?_
  refine lv_bipush (v := 97) S.1 S.2.1 dX7_letterBits_1 (by decide) ?_
  refine lv_isub S.1 S.2.1 dX7_letterBits_3 ?_
  refine lv_iconst (v := 1) S.1 S.2.1 dX7_letterBits_4 (by decide) ?_
  refine lv_iadd S.1 S.2.1 dX7_letterBits_5 ?_
  refine lv_bipush (v := 25) S.1 S.2.1 dX7_letterBits_6 (by decide) ?_
  refine lv_iconst (v := 5) S.1 S.2.1 dX7_letterBits_8 (by decide) ?_
  refine lv_iload_n S.1 S.2.1 dX7_letterBits_9 rfl (lv_at hl 1 rfl) ?_
  refine lv_imul S.1 S.2.1 dX7_letterBits_10 ?_
  refine lv_isub S.1 S.2.1 dX7_letterBits_11 ?_
  refine lv_ishl S.1 S.2.1 dX7_letterBits_12 ?_
  exact o_iret S hr hlo I f dX7_letterBits_13
theorem M7_letterBits (l : Launch) (D : va_G) (cy : Nat → ClassId) (b : Nat) (A : Nat → Prop) (fl : Bool) {h : PH} {x0 : Int32} {x1 : Int32} {out : Int32 × PH} (f : F7_letterBits h x0 x1 = some out) : Met l yX7_letterBits vX7_letterBits ({ frames := 0, cells := 0, slots := 0, locals := 0 } : Room) (va_Pc [.int x0, .int x1] (ph_B D cy b A fl h)) (va_Qi (fun (r : Int32) (u : PH) => (r, u) = out) (ph_B D cy b A fl) A) 0 0 A :=
  o_met (by decide) rfl (Nat.le_of_ble_eq_true rfl) rfl (fun p e s m below meth c S hr hlo hnm ls hl I => T7_letterBits_0 S hr hlo (f) I (lv_sub hl [0, 1] rfl))
def vX5_isFirst : List Cond := .code yX5_isFirst cX5_isFirst 3 (some .boolean) :: TB
theorem lf5_isFirst_38 : Fl vX5_isFirst RX5 38 5 6 := ⟨RX5, TX5, 11, rfl, by decide, (fun w h9 => List.mem_cons_of_mem _ (wC_wsX50 w h9)), (List.mem_cons_of_mem _ wT_14_5)⟩
theorem lp5_isFirst_38 : Pl vX5_isFirst RX5 38 5 6 .int := ⟨RX5, TX5, 11, tyX5, rfl, by decide, (fun w h9 => List.mem_cons_of_mem _ (wC_wsX50 w h9)), (List.mem_cons_of_mem _ wT_14_5), tyX5_ok, nmX5, rfl, rfl⟩
theorem gX5_isFirst_X5_refuse : GoodIn vX5_isFirst (wsV RX5 89 RX5 yX5_refuse vX5_refuse) := gV_of wT_18_1 wT_18_2 wT_18_3 wT_1_22 wT_18_4
theorem cd5_isFirst : Cd yX5_isFirst 1 := ⟨by decide, by decide, by decide +kernel⟩
set_option maxHeartbeats 4000000 in
set_option maxRecDepth 100000 in
theorem T5_isFirst_0 (S : CallFix p m c cX5_isFirst 3 s args vX5_isFirst RX5) (hr : meth.sig.returnType = (some .boolean)) (hlo : meth.locks = false) {out : Int32 × PH} {h : PH} {a0 : Nat} {x1 : Int32} (f : F5_isFirst_0  h a0 x1 = some out) {H : Heap} {locs : List Loc} (I : ph_I D cy b A fl h s H locs) {ls : Array Slot} (hl : lv_has ls 3 [(0, .ref (b + a0)), (1, .int x1)]) : W p l e ({ frames := 1, cells := 0, slots := 0, locals := 21 } : Room) s m args below meth c H locs 0 0 (MQ below (va_Qi (fun (r : Int32) (u : PH) => (r, u) = out) (ph_B D cy b A fl) A) args s 0 0 A) (F0 m 0 ls []) := by
  unfold F5_isFirst_0 at f
  refine lv_iconst (v := 1) S.1 S.2.1 dX5_isFirst_0 (by decide) ?_
  refine lv_iload_n S.1 S.2.1 dX5_isFirst_1 rfl (lv_at hl 1 rfl) ?_
  refine lv_ishl S.1 S.2.1 dX5_isFirst_2 ?_
  refine lv_istore_n (lv' := [(2, .int (1 <<< (x1 &&& 31))), (0, .ref (b + a0)), (1, .int x1)]) S.1 S.2.1 dX5_isFirst_3 rfl hl (by decide) rfl (fun ls hl => ?_)
  refine lv_aload_n S.1 S.2.1 dX5_isFirst_4 rfl (lv_at hl 1 rfl) ?_
  obtain ⟨v1, e2, f⟩ := ob f
  refine o_gI S lf5_isFirst_38 I e2 dX5_isFirst_5 ?_
  refine lv_iload_n S.1 S.2.1 dX5_isFirst_8 rfl (lv_at hl 0 rfl) ?_
  refine lv_iand S.1 S.2.1 dX5_isFirst_9 ?_
  refine lv_if_eq (tgt := 19) S.1 S.2.1 dX5_isFirst_10 (by decide) (fun q3 => ?_) (fun q3 => ?_)
  · have f := (if_pos q3).symm.trans f
    refine lv_aload_n S.1 S.2.1 dX5_isFirst_19 rfl (lv_at hl 1 rfl) ?_
    refine lv_dup S.1 S.2.1 dX5_isFirst_20 rfl ?_
    obtain ⟨v4, e5, f⟩ := ob f
    refine o_gI S lf5_isFirst_38 I e5 dX5_isFirst_21 ?_
    refine lv_iload_n S.1 S.2.1 dX5_isFirst_24 rfl (lv_at hl 0 rfl) ?_
    refine lv_ior S.1 S.2.1 dX5_isFirst_25 ?_
    obtain ⟨h6, e7, f⟩ := ob f
    refine o_pI S lp5_isFirst_38 I e7 dX5_isFirst_26 (fun H locs I => ?_)
    refine lv_iconst (v := 1) S.1 S.2.1 dX5_isFirst_29 (by decide) ?_
    exact o_zret S hr hlo I f dX5_isFirst_30
  · have f := (if_neg q3).symm.trans f
    refine lv_aload_n S.1 S.2.1 dX5_isFirst_13 rfl (lv_at hl 1 rfl) ?_
    refine lv_iconst (v := 3) S.1 S.2.1 dX5_isFirst_14 (by decide) ?_
    obtain ⟨o8, e9, f⟩ := ob f
    refine o_Vi S (As := [.int 3]) (rest := []) (ci := 5) (M5_refuse l D cy b A fl e9) gX5_isFirst_X5_refuse rfl rfl rfl cd5_refuse ⟨Nat.le_of_ble_eq_true rfl, Nat.le_of_ble_eq_true rfl⟩ I (gd e9).1 clX5 rfl rfl hl.1 rfl (Nat.le_of_ble_eq_true rfl) dX5_isFirst_15 ⟨Nat.le_of_ble_eq_true rfl, Nat.le_of_ble_eq_true rfl⟩ (fun H locs I => ?_)
    exact o_zret S hr hlo I f dX5_isFirst_18
theorem M5_isFirst (l : Launch) (D : va_G) (cy : Nat → ClassId) (b : Nat) (A : Nat → Prop) (fl : Bool) {h : PH} {a0 : Nat} {x1 : Int32} {out : Int32 × PH} (f : F5_isFirst h a0 x1 = some out) : Met l yX5_isFirst vX5_isFirst ({ frames := 1, cells := 0, slots := 0, locals := 21 } : Room) (va_Pc [.ref (b + a0), .int x1] (ph_B D cy b A fl h)) (va_Qi (fun (r : Int32) (u : PH) => (r, u) = out) (ph_B D cy b A fl) A) 0 0 A :=
  o_met (by decide) rfl (Nat.le_of_ble_eq_true rfl) rfl (fun p e s m below meth c S hr hlo hnm ls hl I => T5_isFirst_0 S hr hlo ((gd f).2) I (lv_sub hl [0, 1] rfl))
def vX5_letWait : List Cond := .code yX5_letWait cX5_letWait 2 (some .boolean) :: TB
theorem lf5_letWait_185 : Fl vX5_letWait RX5 185 5 2 := ⟨RX5, TX5, 11, rfl, by decide, (fun w h9 => List.mem_cons_of_mem _ (wC_wsX50 w h9)), (List.mem_cons_of_mem _ wT_21_12)⟩
theorem lf5_letWait_22 : Fl vX5_letWait RX5 22 5 1 := ⟨RX5, TX5, 11, rfl, by decide, (fun w h9 => List.mem_cons_of_mem _ (wC_wsX50 w h9)), (List.mem_cons_of_mem _ wT_5_4)⟩
theorem lp5_letWait_185 : Pl vX5_letWait RX5 185 5 2 .int := ⟨RX5, TX5, 11, tyX5, rfl, by decide, (fun w h9 => List.mem_cons_of_mem _ (wC_wsX50 w h9)), (List.mem_cons_of_mem _ wT_21_12), tyX5_ok, nmX5, rfl, rfl⟩
theorem gX5_letWait_X5_refuse : GoodIn vX5_letWait (wsV RX5 89 RX5 yX5_refuse vX5_refuse) := gV_of wT_18_1 wT_18_2 wT_18_3 wT_1_22 wT_18_4
theorem cd5_letWait : Cd yX5_letWait 1 := ⟨by decide, by decide, by decide +kernel⟩
set_option maxHeartbeats 4000000 in
set_option maxRecDepth 100000 in
theorem T5_letWait_0 (S : CallFix p m c cX5_letWait 2 s args vX5_letWait RX5) (hr : meth.sig.returnType = (some .boolean)) (hlo : meth.locks = false) {out : Int32 × PH} {h : PH} {a0 : Nat} {x1 : Int32} (f : F5_letWait_0  h a0 x1 = some out) {H : Heap} {locs : List Loc} (I : ph_I D cy b A fl h s H locs) {ls : Array Slot} (hl : lv_has ls 2 [(0, .ref (b + a0)), (1, .int x1)]) : W p l e ({ frames := 1, cells := 0, slots := 0, locals := 21 } : Room) s m args below meth c H locs 0 0 (MQ below (va_Qi (fun (r : Int32) (u : PH) => (r, u) = out) (ph_B D cy b A fl) A) args s 0 0 A) (F0 m 0 ls []) := by
  unfold F5_letWait_0 at f
  refine lv_aload_n S.1 S.2.1 dX5_letWait_0 rfl (lv_at hl 0 rfl) ?_
  obtain ⟨v1, e2, f⟩ := ob f
  refine o_gI S lf5_letWait_185 I e2 dX5_letWait_1 ?_
  refine lv_aload_n S.1 S.2.1 dX5_letWait_4 rfl (lv_at hl 0 rfl) ?_
  obtain ⟨r3, e4, f⟩ := ob f
  refine o_gR S lf5_letWait_22 I e4 dX5_letWait_5 ?_
  obtain ⟨v5, e6, f⟩ := ob f
  refine o_alen S I e6 dX5_letWait_8 ?_
  refine lv_icmp_lt (tgt := 18) S.1 S.2.1 dX5_letWait_9 (by decide) (fun q7 => ?_) (fun q7 => ?_)
  · have f := (if_pos q7).symm.trans f
    refine lv_aload_n S.1 S.2.1 dX5_letWait_18 rfl (lv_at hl 0 rfl) ?_
    obtain ⟨r8, e9, f⟩ := ob f
    refine o_gR S lf5_letWait_22 I e9 dX5_letWait_19 ?_
    refine lv_aload_n S.1 S.2.1 dX5_letWait_22 rfl (lv_at hl 0 rfl) ?_
    obtain ⟨v10, e11, f⟩ := ob f
    refine o_gI S lf5_letWait_185 I e11 dX5_letWait_23 ?_
    refine lv_iload_n S.1 S.2.1 dX5_letWait_26 rfl (lv_at hl 1 rfl) ?_
    obtain ⟨h13, e12, f⟩ := ob f
    refine o_iast S I e12 dX5_letWait_27 (fun H locs I => ?_)
    refine lv_aload_n S.1 S.2.1 dX5_letWait_28 rfl (lv_at hl 0 rfl) ?_
    refine lv_dup S.1 S.2.1 dX5_letWait_29 rfl ?_
    obtain ⟨v14, e15, f⟩ := ob f
    refine o_gI S lf5_letWait_185 I e15 dX5_letWait_30 ?_
    refine lv_iconst (v := 1) S.1 S.2.1 dX5_letWait_33 (by decide) ?_
    refine lv_iadd S.1 S.2.1 dX5_letWait_34 ?_
    obtain ⟨h16, e17, f⟩ := ob f
    refine o_pI S lp5_letWait_185 I e17 dX5_letWait_35 (fun H locs I => ?_)
    refine lv_iconst (v := 1) S.1 S.2.1 dX5_letWait_38 (by decide) ?_
    exact o_zret S hr hlo I f dX5_letWait_39
  · have f := (if_neg q7).symm.trans f
    refine lv_aload_n S.1 S.2.1 dX5_letWait_12 rfl (lv_at hl 0 rfl) ?_
    refine lv_iconst (v := 2) S.1 S.2.1 dX5_letWait_13 (by decide) ?_
    obtain ⟨o18, e19, f⟩ := ob f
    refine o_Vi S (As := [.int 2]) (rest := []) (ci := 5) (M5_refuse l D cy b A fl e19) gX5_letWait_X5_refuse rfl rfl rfl cd5_refuse ⟨Nat.le_of_ble_eq_true rfl, Nat.le_of_ble_eq_true rfl⟩ I (gd e19).1 clX5 rfl rfl hl.1 rfl (Nat.le_of_ble_eq_true rfl) dX5_letWait_14 ⟨Nat.le_of_ble_eq_true rfl, Nat.le_of_ble_eq_true rfl⟩ (fun H locs I => ?_)
    exact o_zret S hr hlo I f dX5_letWait_17
theorem M5_letWait (l : Launch) (D : va_G) (cy : Nat → ClassId) (b : Nat) (A : Nat → Prop) (fl : Bool) {h : PH} {a0 : Nat} {x1 : Int32} {out : Int32 × PH} (f : F5_letWait h a0 x1 = some out) : Met l yX5_letWait vX5_letWait ({ frames := 1, cells := 0, slots := 0, locals := 21 } : Room) (va_Pc [.ref (b + a0), .int x1] (ph_B D cy b A fl h)) (va_Qi (fun (r : Int32) (u : PH) => (r, u) = out) (ph_B D cy b A fl) A) 0 0 A :=
  o_met (by decide) rfl (Nat.le_of_ble_eq_true rfl) rfl (fun p e s m below meth c S hr hlo hnm ls hl I => T5_letWait_0 S hr hlo ((gd f).2) I (lv_sub hl [0, 1] rfl))
def vX7_skipBlanks : List Cond := .code yX7_skipBlanks cX7_skipBlanks 1 none :: TB
theorem lf7_skipBlanks_44 : Fl vX7_skipBlanks RX7 44 7 3 := ⟨RX7, TX7, 7, rfl, by decide, (fun w h9 => List.mem_cons_of_mem _ (wC_wsX70 w h9)), (List.mem_cons_of_mem _ wT_15_20)⟩
theorem lp7_skipBlanks_44 : Pl vX7_skipBlanks RX7 44 7 3 .int := ⟨RX7, TX7, 7, tyX7, rfl, by decide, (fun w h9 => List.mem_cons_of_mem _ (wC_wsX70 w h9)), (List.mem_cons_of_mem _ wT_15_20), tyX7_ok, nmX7, rfl, rfl⟩
theorem lf7_skipBlanks_40 : Fl vX7_skipBlanks RX7 40 7 2 := ⟨RX7, TX7, 7, rfl, by decide, (fun w h9 => List.mem_cons_of_mem _ (wC_wsX70 w h9)), (List.mem_cons_of_mem _ wT_15_19)⟩
theorem lf7_skipBlanks_15 : Fl vX7_skipBlanks RX7 15 7 1 := ⟨RX7, TX7, 7, rfl, by decide, (fun w h9 => List.mem_cons_of_mem _ (wC_wsX70 w h9)), (List.mem_cons_of_mem _ wT_5_11)⟩
theorem cd7_skipBlanks : Cd yX7_skipBlanks 0 := ⟨by decide, by decide, by decide +kernel⟩
set_option maxHeartbeats 4000000 in
set_option maxRecDepth 100000 in
theorem T7_skipBlanks_40 (S : CallFix p m c cX7_skipBlanks 1 s args vX7_skipBlanks RX7) (hr : meth.sig.returnType = none) (hlo : meth.locks = false) {out : PH} {k0 : PH → Nat → Option (PH)} (hk0 : ∀ {h : PH} {a0 : Nat}, k0 h a0 = some out → ∀ (H : Heap) (locs : List Loc), ph_I D cy b A fl h s H locs → ∀ (ls : Array Slot), lv_has ls 1 [(0, .ref (b + a0))] → W p l e ({ frames := 0, cells := 0, slots := 0, locals := 0 } : Room) s m args below meth c H locs 0 0 (MQ below (va_Qv (fun (u : PH) => u = out) (ph_B D cy b A fl) A) args s 0 0 A) (F0 m 0 ls [])) {h : PH} {a0 : Nat} (f : F7_skipBlanks_40 k0 h a0 = some out) {H : Heap} {locs : List Loc} (I : ph_I D cy b A fl h s H locs) {ls : Array Slot} (hl : lv_has ls 1 [(0, .ref (b + a0))]) : W p l e ({ frames := 0, cells := 0, slots := 0, locals := 0 } : Room) s m args below meth c H locs 0 0 (MQ below (va_Qv (fun (u : PH) => u = out) (ph_B D cy b A fl) A) args s 0 0 A) (F0 m 40 ls []) := by
  unfold F7_skipBlanks_40 at f
  refine lv_aload_n S.1 S.2.1 dX7_skipBlanks_40 rfl (lv_at hl 0 rfl) ?_
  refine lv_dup S.1 S.2.1 dX7_skipBlanks_41 rfl ?_
  obtain ⟨v1, e2, f⟩ := ob f
  refine o_gI S lf7_skipBlanks_44 I e2 dX7_skipBlanks_42 ?_
  refine lv_iconst (v := 1) S.1 S.2.1 dX7_skipBlanks_45 (by decide) ?_
  refine lv_iadd S.1 S.2.1 dX7_skipBlanks_46 ?_
  obtain ⟨h3, e4, f⟩ := ob f
  refine o_pI S lp7_skipBlanks_44 I e4 dX7_skipBlanks_47 (fun H locs I => ?_)
  refine lv_goto (tgt := 0) S.1 S.2.1 dX7_skipBlanks_50 (by decide) ?_
  exact hk0 f _ _ I _ (lv_sub hl [0] rfl)
set_option maxHeartbeats 4000000 in
set_option maxRecDepth 100000 in
theorem T7_skipBlanks_0 (S : CallFix p m c cX7_skipBlanks 1 s args vX7_skipBlanks RX7) (hr : meth.sig.returnType = none) (hlo : meth.locks = false) {out : PH} : ∀ (n : Nat) {h : PH} {a0 : Nat} (f : F7_skipBlanks_0  n h a0 = some out) {H : Heap} {locs : List Loc} (I : ph_I D cy b A fl h s H locs) {ls : Array Slot} (hl : lv_has ls 1 [(0, .ref (b + a0))]), W p l e ({ frames := 0, cells := 0, slots := 0, locals := 0 } : Room) s m args below meth c H locs 0 0 (MQ below (va_Qv (fun (u : PH) => u = out) (ph_B D cy b A fl) A) args s 0 0 A) (F0 m 0 ls []) := by
  intro n
  induction n with
  | zero => intro h a0 f; rw [F7_skipBlanks_0] at f; cases f
  | succ n ih =>
    intro h a0 f H locs I ls hl
    rw [F7_skipBlanks_0] at f
    refine lv_aload_n S.1 S.2.1 dX7_skipBlanks_0 rfl (lv_at hl 0 rfl) ?_
    obtain ⟨v1, e2, f⟩ := ob f
    refine o_gI S lf7_skipBlanks_44 I e2 dX7_skipBlanks_1 ?_
    refine lv_aload_n S.1 S.2.1 dX7_skipBlanks_4 rfl (lv_at hl 0 rfl) ?_
    obtain ⟨v3, e4, f⟩ := ob f
    refine o_gI S lf7_skipBlanks_40 I e4 dX7_skipBlanks_5 ?_
    refine lv_icmp_ge (tgt := 53) S.1 S.2.1 dX7_skipBlanks_8 (by decide) (fun q5 => ?_) (fun q5 => ?_)
    · have f := (if_pos q5).symm.trans f
      exact o_vret S hr hlo I f dX7_skipBlanks_53
    · have f := (if_neg q5).symm.trans f
      refine lv_aload_n S.1 S.2.1 dX7_skipBlanks_11 rfl (lv_at hl 0 rfl) ?_
      obtain ⟨r6, e7, f⟩ := ob f
      refine o_gR S lf7_skipBlanks_15 I e7 dX7_skipBlanks_12 ?_
      refine lv_aload_n S.1 S.2.1 dX7_skipBlanks_15 rfl (lv_at hl 0 rfl) ?_
      obtain ⟨v8, e9, f⟩ := ob f
      refine o_gI S lf7_skipBlanks_44 I e9 dX7_skipBlanks_16 ?_
      obtain ⟨v11, e10, f⟩ := ob f
      refine o_bald S I e10 dX7_skipBlanks_19 ?_
      refine lv_bipush (v := 10) S.1 S.2.1 dX7_skipBlanks_20 (by decide) ?_
      refine lv_icmp_eq (tgt := 40) S.1 S.2.1 dX7_skipBlanks_22 (by decide) (fun q12 => ?_) (fun q12 => ?_)
      · have f := (if_pos q12).symm.trans f
        exact T7_skipBlanks_40 S hr hlo (fun f _ _ I _ hl => ih f I hl) f I (lv_sub hl [0] rfl)
      · have f := (if_neg q12).symm.trans f
        refine lv_aload_n S.1 S.2.1 dX7_skipBlanks_25 rfl (lv_at hl 0 rfl) ?_
        obtain ⟨r13, e14, f⟩ := ob f
        refine o_gR S lf7_skipBlanks_15 I e14 dX7_skipBlanks_26 ?_
        refine lv_aload_n S.1 S.2.1 dX7_skipBlanks_29 rfl (lv_at hl 0 rfl) ?_
        obtain ⟨v15, e16, f⟩ := ob f
        refine o_gI S lf7_skipBlanks_44 I e16 dX7_skipBlanks_30 ?_
        obtain ⟨v18, e17, f⟩ := ob f
        refine o_bald S I e17 dX7_skipBlanks_33 ?_
        refine lv_bipush (v := 32) S.1 S.2.1 dX7_skipBlanks_34 (by decide) ?_
        refine lv_icmp_eq (tgt := 40) S.1 S.2.1 dX7_skipBlanks_36 (by decide) (fun q19 => ?_) (fun q19 => ?_)
        · have f := (if_pos q19).symm.trans f
          exact T7_skipBlanks_40 S hr hlo (fun f _ _ I _ hl => ih f I hl) f I (lv_sub hl [0] rfl)
        · have f := (if_neg q19).symm.trans f
          exact o_vret S hr hlo I f dX7_skipBlanks_39
theorem M7_skipBlanks (l : Launch) (D : va_G) (cy : Nat → ClassId) (b : Nat) (A : Nat → Prop) (fl : Bool) {h : PH} {a0 : Nat} {out : PH} (f : F7_skipBlanks h a0 = some out) : Met l yX7_skipBlanks vX7_skipBlanks ({ frames := 0, cells := 0, slots := 0, locals := 0 } : Room) (va_Pc [.ref (b + a0)] (ph_B D cy b A fl h)) (va_Qv (fun (u : PH) => u = out) (ph_B D cy b A fl) A) 0 0 A :=
  o_met (by decide) rfl (Nat.le_of_ble_eq_true rfl) rfl (fun p e s m below meth c S hr hlo hnm ls hl I => T7_skipBlanks_0 S hr hlo 1024 ((gd f).2) I (lv_sub hl [0] rfl))
end
