section
variable {p : Program} {l : Launch} {e : Env} {s : State} {m : MethodId} {args : Array Value} {below : List Frame} {meth : Method} {c : Code} {D : va_G} {cy : Nat → ClassId} {b : Nat} {A : Nat → Prop} {fl : Bool}
def vX6_giveBoards : List Cond := .code yX6_giveBoards cX6_giveBoards 3 none :: TB
theorem lf6_giveBoards_15 : Fl vX6_giveBoards RX6 15 6 1 := ⟨RX6, TX6, 9, rfl, by decide, (fun w h9 => List.mem_cons_of_mem _ (wC_wsX60 w h9)), (List.mem_cons_of_mem _ wT_7_16)⟩
theorem cd6_giveBoards : Cd yX6_giveBoards 1 := ⟨by decide, by decide, by decide +kernel⟩
set_option maxHeartbeats 4000000 in
set_option maxRecDepth 100000 in
theorem T6_giveBoards_2 (S : CallFix p m c cX6_giveBoards 3 s args vX6_giveBoards RX6) (hr : meth.sig.returnType = none) (hlo : meth.locks = false) {out : PH} : ∀ (n : Nat) {h : PH} {a0 : Nat} {x1 : Int32} {x2 : Int32} (f : F6_giveBoards_2  n h a0 x1 x2 = some out) {H : Heap} {locs : List Loc} (I : ph_I D cy b A fl h s H locs) {ls : Array Slot} (hl : lv_has ls 3 [(0, .ref (b + a0)), (1, .int x1), (2, .int x2)]), W p l e ({ frames := 0, cells := 0, slots := 0, locals := 0 } : Room) s m args below meth c H locs 0 0 (MQ below (va_Qv (fun (u : PH) => u = out) (ph_B D cy b A fl) A) args s 0 0 A) (F0 m 2 ls []) := by
  intro n
  induction n with
  | zero => intro h a0 x1 x2 f; rw [F6_giveBoards_2] at f; cases f
  | succ n ih =>
    intro h a0 x1 x2 f H locs I ls hl
    rw [F6_giveBoards_2] at f
    refine lv_iload_n S.1 S.2.1 dX6_giveBoards_2 rfl (lv_at hl 2 rfl) ?_
    refine lv_iconst (v := 5) S.1 S.2.1 dX6_giveBoards_3 (by decide) ?_
    refine lv_icmp_ge (tgt := 20) S.1 S.2.1 dX6_giveBoards_4 (by decide) (fun q1 => ?_) (fun q1 => ?_)
    · have f := (if_pos q1).symm.trans f
      exact o_vret S hr hlo I f dX6_giveBoards_20
    · have f := (if_neg q1).symm.trans f
      refine lv_aload_n S.1 S.2.1 dX6_giveBoards_7 rfl (lv_at hl 0 rfl) ?_
      obtain ⟨r2, e3, f⟩ := ob f
      refine o_gR S lf6_giveBoards_15 I e3 dX6_giveBoards_8 ?_
      refine lv_iload_n S.1 S.2.1 dX6_giveBoards_11 rfl (lv_at hl 2 rfl) ?_
      refine lv_iload_n S.1 S.2.1 dX6_giveBoards_12 rfl (lv_at hl 1 rfl) ?_
      obtain ⟨h5, e4, f⟩ := ob f
      refine o_iast S I e4 dX6_giveBoards_13 (fun H locs I => ?_)
      refine lv_iinc (v := (x2 + 1)) (lv' := [(2, .int (x2 + 1)), (0, .ref (b + a0)), (1, .int x1)]) S.1 S.2.1 dX6_giveBoards_14 hl (k := 2) rfl (congrArg (fun z => x2 + z) (by decide)) (by decide) rfl (fun ls hl => ?_)
      refine lv_goto (tgt := 2) S.1 S.2.1 dX6_giveBoards_17 (by decide) ?_
      exact ih f I (lv_sub hl [1, 2, 0] rfl)
set_option maxHeartbeats 4000000 in
set_option maxRecDepth 100000 in
theorem T6_giveBoards_0 (S : CallFix p m c cX6_giveBoards 3 s args vX6_giveBoards RX6) (hr : meth.sig.returnType = none) (hlo : meth.locks = false) {out : PH} {h : PH} {a0 : Nat} {x1 : Int32} (f : F6_giveBoards_0  h a0 x1 = some out) {H : Heap} {locs : List Loc} (I : ph_I D cy b A fl h s H locs) {ls : Array Slot} (hl : lv_has ls 3 [(0, .ref (b + a0)), (1, .int x1)]) : W p l e ({ frames := 0, cells := 0, slots := 0, locals := 0 } : Room) s m args below meth c H locs 0 0 (MQ below (va_Qv (fun (u : PH) => u = out) (ph_B D cy b A fl) A) args s 0 0 A) (F0 m 0 ls []) := by
  unfold F6_giveBoards_0 at f
  refine lv_iconst (v := 0) S.1 S.2.1 dX6_giveBoards_0 (by decide) ?_
  refine lv_istore_n (lv' := [(2, .int 0), (0, .ref (b + a0)), (1, .int x1)]) S.1 S.2.1 dX6_giveBoards_1 rfl hl (by decide) rfl (fun ls hl => ?_)
  exact T6_giveBoards_2 S hr hlo  1024 f I (lv_sub hl [1, 2, 0] rfl)
theorem M6_giveBoards (l : Launch) (D : va_G) (cy : Nat → ClassId) (b : Nat) (A : Nat → Prop) (fl : Bool) {h : PH} {a0 : Nat} {x1 : Int32} {out : PH} (f : F6_giveBoards h a0 x1 = some out) : Met l yX6_giveBoards vX6_giveBoards ({ frames := 0, cells := 0, slots := 0, locals := 0 } : Room) (va_Pc [.ref (b + a0), .int x1] (ph_B D cy b A fl h)) (va_Qv (fun (u : PH) => u = out) (ph_B D cy b A fl) A) 0 0 A :=
  o_met (by decide) rfl (Nat.le_of_ble_eq_true rfl) rfl (fun p e s m below meth c S hr hlo hnm ls hl I => T6_giveBoards_0 S hr hlo ((gd f).2) I (lv_sub hl [0, 1] rfl))
def vX6_holdPeak : List Cond := .code yX6_holdPeak cX6_holdPeak 2 none :: TB
theorem lf6_holdPeak_22 : Fl vX6_holdPeak RX6 22 6 3 := ⟨RX6, TX6, 9, rfl, by decide, (fun w h9 => List.mem_cons_of_mem _ (wC_wsX60 w h9)), (List.mem_cons_of_mem _ wT_7_18)⟩
theorem lf6_holdPeak_9 : Fl vX6_holdPeak RX6 9 6 0 := ⟨RX6, TX6, 9, rfl, by decide, (fun w h9 => List.mem_cons_of_mem _ (wC_wsX60 w h9)), (List.mem_cons_of_mem _ wT_7_15)⟩
theorem lf6_holdPeak_74 : Fl vX6_holdPeak RX6 74 8 2 := ⟨RX8, TX8, 14, rfl, by decide, (fun w h9 => List.mem_cons_of_mem _ (wC_wsX80 w h9)), (List.mem_cons_of_mem _ wT_24_16)⟩
theorem cd6_holdPeak : Cd yX6_holdPeak 0 := ⟨by decide, by decide, by decide +kernel⟩
set_option maxHeartbeats 4000000 in
set_option maxRecDepth 100000 in
theorem T6_holdPeak_2 (S : CallFix p m c cX6_holdPeak 2 s args vX6_holdPeak RX6) (hr : meth.sig.returnType = none) (hlo : meth.locks = false) {out : PH} : ∀ (n : Nat) {h : PH} {a0 : Nat} {x1 : Int32} (f : F6_holdPeak_2  n h a0 x1 = some out) {H : Heap} {locs : List Loc} (I : ph_I D cy b A fl h s H locs) {ls : Array Slot} (hl : lv_has ls 2 [(0, .ref (b + a0)), (1, .int x1)]), W p l e ({ frames := 0, cells := 0, slots := 0, locals := 0 } : Room) s m args below meth c H locs 0 0 (MQ below (va_Qv (fun (u : PH) => u = out) (ph_B D cy b A fl) A) args s 0 0 A) (F0 m 2 ls []) := by
  intro n
  induction n with
  | zero => intro h a0 x1 f; rw [F6_holdPeak_2] at f; cases f
  | succ n ih =>
    intro h a0 x1 f H locs I ls hl
    rw [F6_holdPeak_2] at f
    refine lv_iload_n S.1 S.2.1 dX6_holdPeak_2 rfl (lv_at hl 1 rfl) ?_
    refine lv_bipush (v := 28) S.1 S.2.1 dX6_holdPeak_3 (by decide) ?_
    refine lv_icmp_ge (tgt := 27) S.1 S.2.1 dX6_holdPeak_5 (by decide) (fun q1 => ?_) (fun q1 => ?_)
    · have f := (if_pos q1).symm.trans f
      exact o_vret S hr hlo I f dX6_holdPeak_27
    · have f := (if_neg q1).symm.trans f
      refine lv_aload_n S.1 S.2.1 dX6_holdPeak_8 rfl (lv_at hl 0 rfl) ?_
      obtain ⟨r2, e3, f⟩ := ob f
      refine o_gR S lf6_holdPeak_22 I e3 dX6_holdPeak_9 ?_
      refine lv_iload_n S.1 S.2.1 dX6_holdPeak_12 rfl (lv_at hl 1 rfl) ?_
      refine lv_aload_n S.1 S.2.1 dX6_holdPeak_13 rfl (lv_at hl 0 rfl) ?_
      obtain ⟨r4, e5, f⟩ := ob f
      refine o_gR S lf6_holdPeak_9 I e5 dX6_holdPeak_14 ?_
      obtain ⟨v6, e7, f⟩ := ob f
      refine o_gI S lf6_holdPeak_74 I e7 dX6_holdPeak_17 ?_
      obtain ⟨h9, e8, f⟩ := ob f
      refine o_iast S I e8 dX6_holdPeak_20 (fun H locs I => ?_)
      refine lv_iinc (v := (x1 + 1)) (lv' := [(1, .int (x1 + 1)), (0, .ref (b + a0))]) S.1 S.2.1 dX6_holdPeak_21 hl (k := 1) rfl (congrArg (fun z => x1 + z) (by decide)) (by decide) rfl (fun ls hl => ?_)
      refine lv_goto (tgt := 2) S.1 S.2.1 dX6_holdPeak_24 (by decide) ?_
      exact ih f I (lv_sub hl [1, 0] rfl)
set_option maxHeartbeats 4000000 in
set_option maxRecDepth 100000 in
theorem T6_holdPeak_0 (S : CallFix p m c cX6_holdPeak 2 s args vX6_holdPeak RX6) (hr : meth.sig.returnType = none) (hlo : meth.locks = false) {out : PH} {h : PH} {a0 : Nat} (f : F6_holdPeak_0  h a0 = some out) {H : Heap} {locs : List Loc} (I : ph_I D cy b A fl h s H locs) {ls : Array Slot} (hl : lv_has ls 2 [(0, .ref (b + a0))]) : W p l e ({ frames := 0, cells := 0, slots := 0, locals := 0 } : Room) s m args below meth c H locs 0 0 (MQ below (va_Qv (fun (u : PH) => u = out) (ph_B D cy b A fl) A) args s 0 0 A) (F0 m 0 ls []) := by
  unfold F6_holdPeak_0 at f
  refine lv_iconst (v := 0) S.1 S.2.1 dX6_holdPeak_0 (by decide) ?_
  refine lv_istore_n (lv' := [(1, .int 0), (0, .ref (b + a0))]) S.1 S.2.1 dX6_holdPeak_1 rfl hl (by decide) rfl (fun ls hl => ?_)
  exact T6_holdPeak_2 S hr hlo  1024 f I (lv_sub hl [1, 0] rfl)
theorem M6_holdPeak (l : Launch) (D : va_G) (cy : Nat → ClassId) (b : Nat) (A : Nat → Prop) (fl : Bool) {h : PH} {a0 : Nat} {out : PH} (f : F6_holdPeak h a0 = some out) : Met l yX6_holdPeak vX6_holdPeak ({ frames := 0, cells := 0, slots := 0, locals := 0 } : Room) (va_Pc [.ref (b + a0)] (ph_B D cy b A fl h)) (va_Qv (fun (u : PH) => u = out) (ph_B D cy b A fl) A) 0 0 A :=
  o_met (by decide) rfl (Nat.le_of_ble_eq_true rfl) rfl (fun p e s m below meth c S hr hlo hnm ls hl I => T6_holdPeak_0 S hr hlo ((gd f).2) I (lv_sub hl [0] rfl))
def vX6_makeNobodyBold : List Cond := .code yX6_makeNobodyBold cX6_makeNobodyBold 2 none :: TB
theorem lf6_makeNobodyBold_19 : Fl vX6_makeNobodyBold RX6 19 6 2 := ⟨RX6, TX6, 9, rfl, by decide, (fun w h9 => List.mem_cons_of_mem _ (wC_wsX60 w h9)), (List.mem_cons_of_mem _ wT_7_17)⟩
theorem cd6_makeNobodyBold : Cd yX6_makeNobodyBold 0 := ⟨by decide, by decide, by decide +kernel⟩
set_option maxHeartbeats 4000000 in
set_option maxRecDepth 100000 in
theorem T6_makeNobodyBold_2 (S : CallFix p m c cX6_makeNobodyBold 2 s args vX6_makeNobodyBold RX6) (hr : meth.sig.returnType = none) (hlo : meth.locks = false) {out : PH} : ∀ (n : Nat) {h : PH} {a0 : Nat} {x1 : Int32} (f : F6_makeNobodyBold_2  n h a0 x1 = some out) {H : Heap} {locs : List Loc} (I : ph_I D cy b A fl h s H locs) {ls : Array Slot} (hl : lv_has ls 2 [(0, .ref (b + a0)), (1, .int x1)]), W p l e ({ frames := 0, cells := 0, slots := 0, locals := 0 } : Room) s m args below meth c H locs 0 0 (MQ below (va_Qv (fun (u : PH) => u = out) (ph_B D cy b A fl) A) args s 0 0 A) (F0 m 2 ls []) := by
  intro n
  induction n with
  | zero => intro h a0 x1 f; rw [F6_makeNobodyBold_2] at f; cases f
  | succ n ih =>
    intro h a0 x1 f H locs I ls hl
    rw [F6_makeNobodyBold_2] at f
    refine lv_iload_n S.1 S.2.1 dX6_makeNobodyBold_2 rfl (lv_at hl 1 rfl) ?_
    refine lv_iconst (v := 5) S.1 S.2.1 dX6_makeNobodyBold_3 (by decide) ?_
    refine lv_icmp_ge (tgt := 20) S.1 S.2.1 dX6_makeNobodyBold_4 (by decide) (fun q1 => ?_) (fun q1 => ?_)
    · have f := (if_pos q1).symm.trans f
      exact o_vret S hr hlo I f dX6_makeNobodyBold_20
    · have f := (if_neg q1).symm.trans f
      refine lv_aload_n S.1 S.2.1 dX6_makeNobodyBold_7 rfl (lv_at hl 0 rfl) ?_
      obtain ⟨r2, e3, f⟩ := ob f
      refine o_gR S lf6_makeNobodyBold_19 I e3 dX6_makeNobodyBold_8 ?_
      refine lv_iload_n S.1 S.2.1 dX6_makeNobodyBold_11 rfl (lv_at hl 1 rfl) ?_
      refine lv_iconst (v := 0) S.1 S.2.1 dX6_makeNobodyBold_12 (by decide) ?_
      obtain ⟨h5, e4, f⟩ := ob f
      refine o_iast S I e4 dX6_makeNobodyBold_13 (fun H locs I => ?_)
      refine lv_iinc (v := (x1 + 1)) (lv' := [(1, .int (x1 + 1)), (0, .ref (b + a0))]) S.1 S.2.1 dX6_makeNobodyBold_14 hl (k := 1) rfl (congrArg (fun z => x1 + z) (by decide)) (by decide) rfl (fun ls hl => ?_)
      refine lv_goto (tgt := 2) S.1 S.2.1 dX6_makeNobodyBold_17 (by decide) ?_
      exact ih f I (lv_sub hl [1, 0] rfl)
set_option maxHeartbeats 4000000 in
set_option maxRecDepth 100000 in
theorem T6_makeNobodyBold_0 (S : CallFix p m c cX6_makeNobodyBold 2 s args vX6_makeNobodyBold RX6) (hr : meth.sig.returnType = none) (hlo : meth.locks = false) {out : PH} {h : PH} {a0 : Nat} (f : F6_makeNobodyBold_0  h a0 = some out) {H : Heap} {locs : List Loc} (I : ph_I D cy b A fl h s H locs) {ls : Array Slot} (hl : lv_has ls 2 [(0, .ref (b + a0))]) : W p l e ({ frames := 0, cells := 0, slots := 0, locals := 0 } : Room) s m args below meth c H locs 0 0 (MQ below (va_Qv (fun (u : PH) => u = out) (ph_B D cy b A fl) A) args s 0 0 A) (F0 m 0 ls []) := by
  unfold F6_makeNobodyBold_0 at f
  refine lv_iconst (v := 0) S.1 S.2.1 dX6_makeNobodyBold_0 (by decide) ?_
  refine lv_istore_n (lv' := [(1, .int 0), (0, .ref (b + a0))]) S.1 S.2.1 dX6_makeNobodyBold_1 rfl hl (by decide) rfl (fun ls hl => ?_)
  exact T6_makeNobodyBold_2 S hr hlo  1024 f I (lv_sub hl [1, 0] rfl)
theorem M6_makeNobodyBold (l : Launch) (D : va_G) (cy : Nat → ClassId) (b : Nat) (A : Nat → Prop) (fl : Bool) {h : PH} {a0 : Nat} {out : PH} (f : F6_makeNobodyBold h a0 = some out) : Met l yX6_makeNobodyBold vX6_makeNobodyBold ({ frames := 0, cells := 0, slots := 0, locals := 0 } : Room) (va_Pc [.ref (b + a0)] (ph_B D cy b A fl h)) (va_Qv (fun (u : PH) => u = out) (ph_B D cy b A fl) A) 0 0 A :=
  o_met (by decide) rfl (Nat.le_of_ble_eq_true rfl) rfl (fun p e s m below meth c S hr hlo hnm ls hl I => T6_makeNobodyBold_0 S hr hlo ((gd f).2) I (lv_sub hl [0] rfl))
def vX6_peakXAt : List Cond := .code yX6_peakXAt cX6_peakXAt 6 (some .int) :: TB
theorem lf6_peakXAt_9 : Fl vX6_peakXAt RX6 9 6 0 := ⟨RX6, TX6, 9, rfl, by decide, (fun w h9 => List.mem_cons_of_mem _ (wC_wsX60 w h9)), (List.mem_cons_of_mem _ wT_7_15)⟩
theorem lf6_peakXAt_105 : Fl vX6_peakXAt RX6 105 8 0 := ⟨RX8, TX8, 14, rfl, by decide, (fun w h9 => List.mem_cons_of_mem _ (wC_wsX80 w h9)), (List.mem_cons_of_mem _ wT_25_2)⟩
theorem gX6_peakXAt_X6_driftValue : GoodIn vX6_peakXAt (wsV RX6 86 RX6 yX6_driftValue vX6_driftValue) := gV_of wT_25_3 wT_25_4 wT_25_5 wT_2_2 wT_25_6
theorem lf6_peakXAt_74 : Fl vX6_peakXAt RX6 74 8 2 := ⟨RX8, TX8, 14, rfl, by decide, (fun w h9 => List.mem_cons_of_mem _ (wC_wsX80 w h9)), (List.mem_cons_of_mem _ wT_24_16)⟩
theorem cd6_peakXAt : Cd yX6_peakXAt 1 := ⟨by decide, by decide, by decide +kernel⟩
set_option maxHeartbeats 4000000 in
set_option maxRecDepth 100000 in
theorem T6_peakXAt_39 (S : CallFix p m c cX6_peakXAt 6 s args vX6_peakXAt RX6) (hr : meth.sig.returnType = (some .int)) (hlo : meth.locks = false) {out : Int32 × PH} {h : PH} {a0 : Nat} {t0 : Int64} {t1 : Int64} (f : F6_peakXAt_39  h a0 t0 t1 = some out) {H : Heap} {locs : List Loc} (I : ph_I D cy b A fl h s H locs) {ls : Array Slot} (hl : lv_has ls 6 [(0, .ref (b + a0))]) : W p l e ({ frames := 4, cells := 0, slots := 0, locals := 100 } : Room) s m args below meth c H locs 0 0 (MQ below (va_Qi (fun (r : Int32) (u : PH) => (r, u) = out) (ph_B D cy b A fl) A) args s 0 0 A) (F0 m 39 ls [.long t0, .long t1]) := by
  unfold F6_peakXAt_39 at f
  refine lv_ladd S.1 S.2.1 dX6_peakXAt_39 ?_
  refine lv_lstore (lv' := [(4, .long (t1 + t0)), (0, .ref (b + a0))]) S.1 S.2.1 dX6_peakXAt_40 hl (by decide) rfl (fun ls hl => ?_)
  refine lv_lconst (v := 0) S.1 S.2.1 dX6_peakXAt_42 (by decide) ?_
  refine lv_aload_n S.1 S.2.1 dX6_peakXAt_43 rfl (lv_at hl 1 rfl) ?_
  obtain ⟨r1, e2, f⟩ := ob f
  refine o_gR S lf6_peakXAt_9 I e2 dX6_peakXAt_44 ?_
  obtain ⟨v3, e4, f⟩ := ob f
  refine o_gI S lf6_peakXAt_105 I e4 dX6_peakXAt_47 ?_
  refine lv_iconst (v := 1) S.1 S.2.1 dX6_peakXAt_50 (by decide) ?_
  refine lv_isub S.1 S.2.1 dX6_peakXAt_51 ?_
  refine lv_i2l (v := Int32.toInt64 (v3 - 1)) S.1 S.2.1 dX6_peakXAt_52 rfl ?_
  refine lv_lload S.1 S.2.1 dX6_peakXAt_53 (lv_at hl 0 rfl) ?_
  refine va_mmin_long S.1 S.2.1 (by rw [S.2.2.1, hl.1]) S.2.2.2.1 (S.2.2.2.2 _ (List.mem_cons_of_mem _ wT_24_20)) (S.2.2.2.2 _ (List.mem_cons_of_mem _ wT_24_21)) (S.2.2.2.2 _ (List.mem_cons_of_mem _ wT_15_17)) (S.2.2.2.2 _ (List.mem_cons_of_mem _ wT_24_22)) (Nat.le_of_ble_eq_true rfl) (Nat.le_of_ble_eq_true rfl) (Nat.zero_le _) (Nat.zero_le _) dX6_peakXAt_55 ?_
  refine va_mmax_long S.1 S.2.1 (by rw [S.2.2.1, hl.1]) S.2.2.2.1 (S.2.2.2.2 _ (List.mem_cons_of_mem _ wT_24_23)) (S.2.2.2.2 _ (List.mem_cons_of_mem _ wT_25_0)) (S.2.2.2.2 _ (List.mem_cons_of_mem _ wT_15_17)) (S.2.2.2.2 _ (List.mem_cons_of_mem _ wT_25_1)) (Nat.le_of_ble_eq_true rfl) (Nat.le_of_ble_eq_true rfl) (Nat.zero_le _) (Nat.zero_le _) dX6_peakXAt_58 ?_
  refine lv_l2i (v := Int64.toInt32 (if (if (t1 + t0) < (Int32.toInt64 (v3 - 1)) then (t1 + t0) else (Int32.toInt64 (v3 - 1))) < (0 : Int64) then (0 : Int64) else (if (t1 + t0) < (Int32.toInt64 (v3 - 1)) then (t1 + t0) else (Int32.toInt64 (v3 - 1))))) S.1 S.2.1 dX6_peakXAt_61 rfl ?_
  exact o_iret S hr hlo I f dX6_peakXAt_62
set_option maxHeartbeats 4000000 in
set_option maxRecDepth 100000 in
theorem T6_peakXAt_0 (S : CallFix p m c cX6_peakXAt 6 s args vX6_peakXAt RX6) (hr : meth.sig.returnType = (some .int)) (hlo : meth.locks = false) {out : Int32 × PH} {h : PH} {a0 : Nat} {x1 : Int32} (f : F6_peakXAt_0  h a0 x1 = some out) {H : Heap} {locs : List Loc} (I : ph_I D cy b A fl h s H locs) {ls : Array Slot} (hl : lv_has ls 6 [(0, .ref (b + a0)), (1, .int x1)]) : W p l e ({ frames := 4, cells := 0, slots := 0, locals := 100 } : Room) s m args below meth c H locs 0 0 (MQ below (va_Qi (fun (r : Int32) (u : PH) => (r, u) = out) (ph_B D cy b A fl) A) args s 0 0 A) (F0 m 0 ls []) := by
  unfold F6_peakXAt_0 at f
  refine lv_aload_n S.1 S.2.1 dX6_peakXAt_0 rfl (lv_at hl 0 rfl) ?_
  refine lv_iload_n S.1 S.2.1 dX6_peakXAt_1 rfl (lv_at hl 1 rfl) ?_
  obtain ⟨o1, e2, f⟩ := ob f
  refine o_Vl S (As := [.int x1]) (rest := []) (ci := 6) (M6_driftValue l D cy b A fl e2) gX6_peakXAt_X6_driftValue rfl rfl rfl cd6_driftValue ⟨Nat.le_of_ble_eq_true rfl, Nat.le_of_ble_eq_true rfl⟩ I (gd e2).1 clX6 rfl rfl hl.1 rfl (Nat.le_of_ble_eq_true rfl) dX6_peakXAt_2 ⟨Nat.le_of_ble_eq_true rfl, Nat.le_of_ble_eq_true rfl⟩ (fun H locs I => ?_)
  refine lv_lstore_n (lv' := [(2, .long o1.1), (0, .ref (b + a0)), (1, .int x1)]) S.1 S.2.1 dX6_peakXAt_5 rfl hl (by decide) rfl (fun ls hl => ?_)
  refine lv_aload_n S.1 S.2.1 dX6_peakXAt_6 rfl (lv_at hl 1 rfl) ?_
  obtain ⟨r3, e4, f⟩ := ob f
  refine o_gR S lf6_peakXAt_9 I e4 dX6_peakXAt_7 ?_
  obtain ⟨v5, e6, f⟩ := ob f
  refine o_gI S lf6_peakXAt_74 I e6 dX6_peakXAt_10 ?_
  refine lv_i2l (v := Int32.toInt64 v5) S.1 S.2.1 dX6_peakXAt_13 rfl ?_
  refine lv_lload_n S.1 S.2.1 dX6_peakXAt_14 rfl (lv_at hl 0 rfl) ?_
  refine lv_ldc2 (v := (-9223372036854775808)) S.1 S.2.1 S.2.2.2.1 (S.2.2.2.2 _ (List.mem_cons_of_mem _ wT_24_17)) dX6_peakXAt_15 ?_
  refine W.lcmp S.1 S.2.1 dX6_peakXAt_18 ?_
  refine lv_if_ne (tgt := 26) S.1 S.2.1 dX6_peakXAt_19 (by decide) (fun q7 => ?_) (fun q7 => ?_)
  · have f := (if_neg q7).symm.trans f
    refine lv_ldc2 (v := (-8)) S.1 S.2.1 S.2.2.2.1 (S.2.2.2.2 _ (List.mem_cons_of_mem _ wT_24_18)) dX6_peakXAt_26 ?_
    refine lv_ldc2 (v := 8) S.1 S.2.1 S.2.2.2.1 (S.2.2.2.2 _ (List.mem_cons_of_mem _ wT_24_19)) dX6_peakXAt_29 ?_
    refine lv_lload_n S.1 S.2.1 dX6_peakXAt_32 rfl (lv_at hl 0 rfl) ?_
    refine va_mmin_long S.1 S.2.1 (by rw [S.2.2.1, hl.1]) S.2.2.2.1 (S.2.2.2.2 _ (List.mem_cons_of_mem _ wT_24_20)) (S.2.2.2.2 _ (List.mem_cons_of_mem _ wT_24_21)) (S.2.2.2.2 _ (List.mem_cons_of_mem _ wT_15_17)) (S.2.2.2.2 _ (List.mem_cons_of_mem _ wT_24_22)) (Nat.le_of_ble_eq_true rfl) (Nat.le_of_ble_eq_true rfl) (Nat.zero_le _) (Nat.zero_le _) dX6_peakXAt_33 ?_
    refine va_mmax_long S.1 S.2.1 (by rw [S.2.2.1, hl.1]) S.2.2.2.1 (S.2.2.2.2 _ (List.mem_cons_of_mem _ wT_24_23)) (S.2.2.2.2 _ (List.mem_cons_of_mem _ wT_25_0)) (S.2.2.2.2 _ (List.mem_cons_of_mem _ wT_15_17)) (S.2.2.2.2 _ (List.mem_cons_of_mem _ wT_25_1)) (Nat.le_of_ble_eq_true rfl) (Nat.le_of_ble_eq_true rfl) (Nat.zero_le _) (Nat.zero_le _) dX6_peakXAt_36 ?_
    exact T6_peakXAt_39 S hr hlo  f I (lv_sub hl [1] rfl)
  · have f := (if_pos q7).symm.trans f
    refine lv_lconst (v := 0) S.1 S.2.1 dX6_peakXAt_22 (by decide) ?_
    refine lv_goto (tgt := 39) S.1 S.2.1 dX6_peakXAt_23 (by decide) ?_
    exact T6_peakXAt_39 S hr hlo  f I (lv_sub hl [1] rfl)
theorem M6_peakXAt (l : Launch) (D : va_G) (cy : Nat → ClassId) (b : Nat) (A : Nat → Prop) (fl : Bool) {h : PH} {a0 : Nat} {x1 : Int32} {out : Int32 × PH} (f : F6_peakXAt h a0 x1 = some out) : Met l yX6_peakXAt vX6_peakXAt ({ frames := 4, cells := 0, slots := 0, locals := 100 } : Room) (va_Pc [.ref (b + a0), .int x1] (ph_B D cy b A fl h)) (va_Qi (fun (r : Int32) (u : PH) => (r, u) = out) (ph_B D cy b A fl) A) 0 0 A :=
  o_met (by decide) rfl (Nat.le_of_ble_eq_true rfl) rfl (fun p e s m below meth c S hr hlo hnm ls hl I => T6_peakXAt_0 S hr hlo ((gd f).2) I (lv_sub hl [0, 1] rfl))
def vX6_seatFrom : List Cond := .code yX6_seatFrom cX6_seatFrom 6 (some .int) :: TB
theorem lf6_seatFrom_9 : Fl vX6_seatFrom RX6 9 6 0 := ⟨RX6, TX6, 9, rfl, by decide, (fun w h9 => List.mem_cons_of_mem _ (wC_wsX60 w h9)), (List.mem_cons_of_mem _ wT_7_15)⟩
theorem lf6_seatFrom_57 : Fl vX6_seatFrom RX6 57 8 5 := ⟨RX8, TX8, 14, rfl, by decide, (fun w h9 => List.mem_cons_of_mem _ (wC_wsX80 w h9)), (List.mem_cons_of_mem _ wT_24_9)⟩
theorem lf6_seatFrom_61 : Fl vX6_seatFrom RX6 61 10 1 := ⟨RX10, TX10, 8, rfl, by decide, (fun w h9 => List.mem_cons_of_mem _ (wC_wsX100 w h9)), (List.mem_cons_of_mem _ wT_24_10)⟩
theorem gX6_seatFrom_X6_worthAt : GoodIn vX6_seatFrom (wsV RX6 145 RX6 yX6_worthAt vX6_worthAt) := gV_of wT_49_17 wT_49_18 wT_49_19 wT_2_2 wT_49_20
theorem cd6_seatFrom : Cd yX6_seatFrom 3 := ⟨by decide, by decide, by decide +kernel⟩
set_option maxHeartbeats 4000000 in
set_option maxRecDepth 100000 in
theorem T6_seatFrom_6 (S : CallFix p m c cX6_seatFrom 6 s args vX6_seatFrom RX6) (hr : meth.sig.returnType = (some .int)) (hlo : meth.locks = false) {out : Int32 × PH} : ∀ (n : Nat) {h : PH} {a0 : Nat} {x1 : Int32} {x2 : Int32} {x4 : Int32} {x5 : Int32} (f : F6_seatFrom_6  n h a0 x1 x2 x4 x5 = some out) {H : Heap} {locs : List Loc} (I : ph_I D cy b A fl h s H locs) {ls : Array Slot} (hl : lv_has ls 6 [(0, .ref (b + a0)), (1, .int x1), (2, .int x2), (4, .int x4), (5, .int x5)]), W p l e ({ frames := 5, cells := 0, slots := 0, locals := 126 } : Room) s m args below meth c H locs 0 0 (MQ below (va_Qi (fun (r : Int32) (u : PH) => (r, u) = out) (ph_B D cy b A fl) A) args s 0 0 A) (F0 m 6 ls []) := by
  intro n
  induction n with
  | zero => intro h a0 x1 x2 x4 x5 f; rw [F6_seatFrom_6] at f; cases f
  | succ n ih =>
    intro h a0 x1 x2 x4 x5 f H locs I ls hl
    rw [F6_seatFrom_6] at f
    refine lv_iload S.1 S.2.1 dX6_seatFrom_6 (lv_at hl 4 rfl) ?_
    refine lv_aload_n S.1 S.2.1 dX6_seatFrom_8 rfl (lv_at hl 0 rfl) ?_
    obtain ⟨r1, e2, f⟩ := ob f
    refine o_gR S lf6_seatFrom_9 I e2 dX6_seatFrom_9 ?_
    obtain ⟨r3, e4, f⟩ := ob f
    refine o_gR S lf6_seatFrom_57 I e4 dX6_seatFrom_12 ?_
    obtain ⟨v5, e6, f⟩ := ob f
    refine o_gI S lf6_seatFrom_61 I e6 dX6_seatFrom_15 ?_
    refine lv_icmp_ge (tgt := 40) S.1 S.2.1 dX6_seatFrom_18 (by decide) (fun q7 => ?_) (fun q7 => ?_)
    · have f := (if_pos q7).symm.trans f
      refine lv_iload S.1 S.2.1 dX6_seatFrom_40 (lv_at hl 3 rfl) ?_
      exact o_iret S hr hlo I f dX6_seatFrom_42
    · have f := (if_neg q7).symm.trans f
      refine lv_iload S.1 S.2.1 dX6_seatFrom_21 (lv_at hl 3 rfl) ?_
      refine lv_aload_n S.1 S.2.1 dX6_seatFrom_23 rfl (lv_at hl 0 rfl) ?_
      refine lv_iload_n S.1 S.2.1 dX6_seatFrom_24 rfl (lv_at hl 1 rfl) ?_
      refine lv_iload S.1 S.2.1 dX6_seatFrom_25 (lv_at hl 4 rfl) ?_
      refine lv_iload_n S.1 S.2.1 dX6_seatFrom_27 rfl (lv_at hl 2 rfl) ?_
      obtain ⟨o8, e9, f⟩ := ob f
      refine o_Vi S (As := [.int x1, .int x5, .int x2]) (rest := [.int x4]) (ci := 6) (M6_worthAt l D cy b A fl e9) gX6_seatFrom_X6_worthAt rfl rfl rfl cd6_worthAt ⟨Nat.le_of_ble_eq_true rfl, Nat.le_of_ble_eq_true rfl⟩ I (gd e9).1 clX6 rfl rfl hl.1 rfl (Nat.le_of_ble_eq_true rfl) dX6_seatFrom_28 ⟨Nat.le_of_ble_eq_true rfl, Nat.le_of_ble_eq_true rfl⟩ (fun H locs I => ?_)
      refine lv_iadd S.1 S.2.1 dX6_seatFrom_31 ?_
      refine lv_istore (lv' := [(4, .int (x4 + o8.1)), (0, .ref (b + a0)), (1, .int x1), (2, .int x2), (5, .int x5)]) S.1 S.2.1 dX6_seatFrom_32 hl (by decide) rfl (fun ls hl => ?_)
      refine lv_iinc (v := (x5 + 1)) (lv' := [(5, .int (x5 + 1)), (4, .int (x4 + o8.1)), (0, .ref (b + a0)), (1, .int x1), (2, .int x2)]) S.1 S.2.1 dX6_seatFrom_34 hl (k := 4) rfl (congrArg (fun z => x5 + z) (by decide)) (by decide) rfl (fun ls hl => ?_)
      refine lv_goto (tgt := 6) S.1 S.2.1 dX6_seatFrom_37 (by decide) ?_
      exact ih f I (lv_sub hl [2, 3, 4, 1, 0] rfl)
set_option maxHeartbeats 4000000 in
set_option maxRecDepth 100000 in
theorem T6_seatFrom_0 (S : CallFix p m c cX6_seatFrom 6 s args vX6_seatFrom RX6) (hr : meth.sig.returnType = (some .int)) (hlo : meth.locks = false) {out : Int32 × PH} {h : PH} {a0 : Nat} {x1 : Int32} {x2 : Int32} {x3 : Int32} (f : F6_seatFrom_0  h a0 x1 x2 x3 = some out) {H : Heap} {locs : List Loc} (I : ph_I D cy b A fl h s H locs) {ls : Array Slot} (hl : lv_has ls 6 [(0, .ref (b + a0)), (1, .int x1), (2, .int x2), (3, .int x3)]) : W p l e ({ frames := 5, cells := 0, slots := 0, locals := 126 } : Room) s m args below meth c H locs 0 0 (MQ below (va_Qi (fun (r : Int32) (u : PH) => (r, u) = out) (ph_B D cy b A fl) A) args s 0 0 A) (F0 m 0 ls []) := by
  unfold F6_seatFrom_0 at f
  refine lv_iconst (v := 0) S.1 S.2.1 dX6_seatFrom_0 (by decide) ?_
  refine lv_istore (lv' := [(4, .int 0), (0, .ref (b + a0)), (1, .int x1), (2, .int x2), (3, .int x3)]) S.1 S.2.1 dX6_seatFrom_1 hl (by decide) rfl (fun ls hl => ?_)
  refine lv_iload_n S.1 S.2.1 dX6_seatFrom_3 rfl (lv_at hl 4 rfl) ?_
  refine lv_istore (lv' := [(5, .int x3), (4, .int 0), (0, .ref (b + a0)), (1, .int x1), (2, .int x2), (3, .int x3)]) S.1 S.2.1 dX6_seatFrom_4 hl (by decide) rfl (fun ls hl => ?_)
  exact T6_seatFrom_6 S hr hlo  1024 f I (lv_sub hl [2, 3, 4, 1, 0] rfl)
theorem M6_seatFrom (l : Launch) (D : va_G) (cy : Nat → ClassId) (b : Nat) (A : Nat → Prop) (fl : Bool) {h : PH} {a0 : Nat} {x1 : Int32} {x2 : Int32} {x3 : Int32} {out : Int32 × PH} (f : F6_seatFrom h a0 x1 x2 x3 = some out) : Met l yX6_seatFrom vX6_seatFrom ({ frames := 5, cells := 0, slots := 0, locals := 126 } : Room) (va_Pc [.ref (b + a0), .int x1, .int x2, .int x3] (ph_B D cy b A fl h)) (va_Qi (fun (r : Int32) (u : PH) => (r, u) = out) (ph_B D cy b A fl) A) 0 0 A :=
  o_met (by decide) rfl (Nat.le_of_ble_eq_true rfl) rfl (fun p e s m below meth c S hr hlo hnm ls hl I => T6_seatFrom_0 S hr hlo ((gd f).2) I (lv_sub hl [0, 1, 2, 3] rfl))
def vX6_takeAsTold : List Cond := .code yX6_takeAsTold cX6_takeAsTold 3 none :: TB
theorem lf6_takeAsTold_9 : Fl vX6_takeAsTold RX6 9 6 0 := ⟨RX6, TX6, 9, rfl, by decide, (fun w h9 => List.mem_cons_of_mem _ (wC_wsX60 w h9)), (List.mem_cons_of_mem _ wT_7_15)⟩
theorem lf6_takeAsTold_57 : Fl vX6_takeAsTold RX6 57 8 5 := ⟨RX8, TX8, 14, rfl, by decide, (fun w h9 => List.mem_cons_of_mem _ (wC_wsX80 w h9)), (List.mem_cons_of_mem _ wT_24_9)⟩
theorem lf6_takeAsTold_61 : Fl vX6_takeAsTold RX6 61 10 1 := ⟨RX10, TX10, 8, rfl, by decide, (fun w h9 => List.mem_cons_of_mem _ (wC_wsX100 w h9)), (List.mem_cons_of_mem _ wT_24_10)⟩
theorem lf6_takeAsTold_22 : Fl vX6_takeAsTold RX6 22 6 3 := ⟨RX6, TX6, 9, rfl, by decide, (fun w h9 => List.mem_cons_of_mem _ (wC_wsX60 w h9)), (List.mem_cons_of_mem _ wT_7_18)⟩
theorem lf6_takeAsTold_67 : Fl vX6_takeAsTold RX6 67 10 4 := ⟨RX10, TX10, 8, rfl, by decide, (fun w h9 => List.mem_cons_of_mem _ (wC_wsX100 w h9)), (List.mem_cons_of_mem _ wT_24_11)⟩
theorem gX6_takeAsTold_X6_peakXAt : GoodIn vX6_takeAsTold (wsV RX6 70 RX6 yX6_peakXAt vX6_peakXAt) := gV_of wT_24_12 wT_24_13 wT_24_14 wT_2_2 wT_24_15
theorem lp6_takeAsTold_9 : Pl vX6_takeAsTold RX6 9 6 0 (.object "WhoseWave$Told") := ⟨RX6, TX6, 9, tyX6, rfl, by decide, (fun w h9 => List.mem_cons_of_mem _ (wC_wsX60 w h9)), (List.mem_cons_of_mem _ wT_7_15), tyX6_ok, nmX6, rfl, rfl⟩
theorem lf6_takeAsTold_41 : Fl vX6_takeAsTold RX6 41 8 4 := ⟨RX8, TX8, 14, rfl, by decide, (fun w h9 => List.mem_cons_of_mem _ (wC_wsX80 w h9)), (List.mem_cons_of_mem _ wT_24_2)⟩
theorem lf6_takeAsTold_47 : Fl vX6_takeAsTold RX6 47 1 3 := ⟨RX1, TX1, 7, rfl, by decide, (fun w h9 => List.mem_cons_of_mem _ (wC_wsX10 w h9)), (List.mem_cons_of_mem _ wT_24_3)⟩
theorem lf6_takeAsTold_15 : Fl vX6_takeAsTold RX6 15 6 1 := ⟨RX6, TX6, 9, rfl, by decide, (fun w h9 => List.mem_cons_of_mem _ (wC_wsX60 w h9)), (List.mem_cons_of_mem _ wT_7_16)⟩
theorem la6_takeAsTold_50 : Al vX6_takeAsTold RX6 50 := ⟨(List.mem_cons_of_mem _ wT_24_4), (List.mem_cons_of_mem _ wT_24_5), (List.mem_cons_of_mem _ wT_24_6), (List.mem_cons_of_mem _ wT_24_7)⟩
theorem lf6_takeAsTold_56 : Fl vX6_takeAsTold RX6 56 1 5 := ⟨RX1, TX1, 7, rfl, by decide, (fun w h9 => List.mem_cons_of_mem _ (wC_wsX10 w h9)), (List.mem_cons_of_mem _ wT_24_8)⟩
theorem lf6_takeAsTold_19 : Fl vX6_takeAsTold RX6 19 6 2 := ⟨RX6, TX6, 9, rfl, by decide, (fun w h9 => List.mem_cons_of_mem _ (wC_wsX60 w h9)), (List.mem_cons_of_mem _ wT_7_17)⟩
theorem cd6_takeAsTold : Cd yX6_takeAsTold 1 := ⟨by decide, by decide, by decide +kernel⟩
set_option maxHeartbeats 4000000 in
set_option maxRecDepth 100000 in
theorem T6_takeAsTold_47 (S : CallFix p m c cX6_takeAsTold 3 s args vX6_takeAsTold RX6) (hr : meth.sig.returnType = none) (hlo : meth.locks = false) {out : PH} : ∀ (n : Nat) {h : PH} {a0 : Nat} {x2 : Int32} (f : F6_takeAsTold_47  n h a0 x2 = some out) {H : Heap} {locs : List Loc} (I : ph_I D cy b A false h s H locs) {ls : Array Slot} (hl : lv_has ls 3 [(0, .ref (b + a0)), (2, .int x2)]), W p l e ({ frames := 5, cells := 0, slots := 0, locals := 125 } : Room) s m args below meth c H locs 0 0 (MQ below (va_Qv (fun (u : PH) => u = out) (ph_B D cy b A false) A) args s 0 0 A) (F0 m 47 ls []) := by
  intro n
  induction n with
  | zero => intro h a0 x2 f; rw [F6_takeAsTold_47] at f; cases f
  | succ n ih =>
    intro h a0 x2 f H locs I ls hl
    rw [F6_takeAsTold_47] at f
    refine lv_iload_n S.1 S.2.1 dX6_takeAsTold_47 rfl (lv_at hl 1 rfl) ?_
    refine lv_aload_n S.1 S.2.1 dX6_takeAsTold_48 rfl (lv_at hl 0 rfl) ?_
    obtain ⟨r1, e2, f⟩ := ob f
    refine o_gR S lf6_takeAsTold_9 I e2 dX6_takeAsTold_49 ?_
    obtain ⟨r3, e4, f⟩ := ob f
    refine o_gR S lf6_takeAsTold_57 I e4 dX6_takeAsTold_52 ?_
    obtain ⟨v5, e6, f⟩ := ob f
    refine o_gI S lf6_takeAsTold_61 I e6 dX6_takeAsTold_55 ?_
    refine lv_icmp_ge (tgt := 89) S.1 S.2.1 dX6_takeAsTold_58 (by decide) (fun q7 => ?_) (fun q7 => ?_)
    · have f := (if_pos q7).symm.trans f
      exact o_vret S hr hlo I f dX6_takeAsTold_89
    · have f := (if_neg q7).symm.trans f
      refine lv_aload_n S.1 S.2.1 dX6_takeAsTold_61 rfl (lv_at hl 0 rfl) ?_
      obtain ⟨r8, e9, f⟩ := ob f
      refine o_gR S lf6_takeAsTold_22 I e9 dX6_takeAsTold_62 ?_
      refine lv_iload_n S.1 S.2.1 dX6_takeAsTold_65 rfl (lv_at hl 1 rfl) ?_
      refine lv_aload_n S.1 S.2.1 dX6_takeAsTold_66 rfl (lv_at hl 0 rfl) ?_
      refine lv_aload_n S.1 S.2.1 dX6_takeAsTold_67 rfl (lv_at hl 0 rfl) ?_
      obtain ⟨r10, e11, f⟩ := ob f
      refine o_gR S lf6_takeAsTold_9 I e11 dX6_takeAsTold_68 ?_
      obtain ⟨r12, e13, f⟩ := ob f
      refine o_gR S lf6_takeAsTold_57 I e13 dX6_takeAsTold_71 ?_
      obtain ⟨r14, e15, f⟩ := ob f
      refine o_gR S lf6_takeAsTold_67 I e15 dX6_takeAsTold_74 ?_
      refine lv_iload_n S.1 S.2.1 dX6_takeAsTold_77 rfl (lv_at hl 1 rfl) ?_
      obtain ⟨v17, e16, f⟩ := ob f
      refine o_iald S I e16 dX6_takeAsTold_78 ?_
      obtain ⟨o18, e19, f⟩ := ob f
      refine o_Vi S (As := [.int v17]) (rest := [.int x2, .ref (b + r8)]) (ci := 6) (M6_peakXAt l D cy b A false e19) gX6_takeAsTold_X6_peakXAt rfl rfl rfl cd6_peakXAt ⟨Nat.le_of_ble_eq_true rfl, Nat.le_of_ble_eq_true rfl⟩ I (gd e19).1 clX6 rfl rfl hl.1 rfl (Nat.le_of_ble_eq_true rfl) dX6_takeAsTold_79 ⟨Nat.le_of_ble_eq_true rfl, Nat.le_of_ble_eq_true rfl⟩ (fun H locs I => ?_)
      obtain ⟨h21, e20, f⟩ := ob f
      refine o_iast S I e20 dX6_takeAsTold_82 (fun H locs I => ?_)
      refine lv_iinc (v := (x2 + 1)) (lv' := [(2, .int (x2 + 1)), (0, .ref (b + a0))]) S.1 S.2.1 dX6_takeAsTold_83 hl (k := 1) rfl (congrArg (fun z => x2 + z) (by decide)) (by decide) rfl (fun ls hl => ?_)
      refine lv_goto (tgt := 47) S.1 S.2.1 dX6_takeAsTold_86 (by decide) ?_
      exact ih f I (lv_sub hl [1, 0] rfl)
set_option maxHeartbeats 4000000 in
set_option maxRecDepth 100000 in
theorem T6_takeAsTold_0 (S : CallFix p m c cX6_takeAsTold 3 s args vX6_takeAsTold RX6) (hr : meth.sig.returnType = none) (hlo : meth.locks = false) {out : PH} {h : PH} {a0 : Nat} {a1 : Nat} (f : F6_takeAsTold_0  h a0 a1 = some out) {H : Heap} {locs : List Loc} (I : ph_I D cy b A false h s H locs) {ls : Array Slot} (hl : lv_has ls 3 [(0, .ref (b + a0)), (1, .ref (b + a1))]) : W p l e ({ frames := 5, cells := 0, slots := 0, locals := 125 } : Room) s m args below meth c H locs 0 0 (MQ below (va_Qv (fun (u : PH) => u = out) (ph_B D cy b A false) A) args s 0 0 A) (F0 m 0 ls []) := by
  unfold F6_takeAsTold_0 at f
  refine lv_aload_n S.1 S.2.1 dX6_takeAsTold_0 rfl (lv_at hl 0 rfl) ?_
  refine lv_aload_n S.1 S.2.1 dX6_takeAsTold_1 rfl (lv_at hl 1 rfl) ?_
  obtain ⟨h1, e2, f⟩ := ob f
  refine o_pR S lp6_takeAsTold_9 (Or.inl ⟨_, rfl⟩) I e2 dX6_takeAsTold_2 (fun H locs I => ?_)
  refine lv_aload_n S.1 S.2.1 dX6_takeAsTold_5 rfl (lv_at hl 0 rfl) ?_
  obtain ⟨r3, e4, f⟩ := ob f
  refine o_gR S lf6_takeAsTold_9 I e4 dX6_takeAsTold_6 ?_
  obtain ⟨r5, e6, f⟩ := ob f
  refine o_gR S lf6_takeAsTold_41 I e6 dX6_takeAsTold_9 ?_
  obtain ⟨r7, e8, f⟩ := ob f
  refine o_gR S lf6_takeAsTold_47 I e8 dX6_takeAsTold_12 ?_
  refine lv_iconst (v := 0) S.1 S.2.1 dX6_takeAsTold_15 (by decide) ?_
  refine lv_aload_n S.1 S.2.1 dX6_takeAsTold_16 rfl (lv_at hl 0 rfl) ?_
  obtain ⟨r9, e10, f⟩ := ob f
  refine o_gR S lf6_takeAsTold_15 I e10 dX6_takeAsTold_17 ?_
  refine lv_iconst (v := 0) S.1 S.2.1 dX6_takeAsTold_20 (by decide) ?_
  refine lv_iconst (v := 5) S.1 S.2.1 dX6_takeAsTold_21 (by decide) ?_
  obtain ⟨h11, e12, f⟩ := ob f
  refine o_copy S la6_takeAsTold_50 hl.1 I e12 (Nat.le_of_ble_eq_true rfl) (Nat.le_of_ble_eq_true rfl) dX6_takeAsTold_22 (fun H locs I => ?_)
  refine lv_aload_n S.1 S.2.1 dX6_takeAsTold_25 rfl (lv_at hl 0 rfl) ?_
  obtain ⟨r13, e14, f⟩ := ob f
  refine o_gR S lf6_takeAsTold_9 I e14 dX6_takeAsTold_26 ?_
  obtain ⟨r15, e16, f⟩ := ob f
  refine o_gR S lf6_takeAsTold_41 I e16 dX6_takeAsTold_29 ?_
  obtain ⟨r17, e18, f⟩ := ob f
  refine o_gR S lf6_takeAsTold_56 I e18 dX6_takeAsTold_32 ?_
  refine lv_iconst (v := 0) S.1 S.2.1 dX6_takeAsTold_35 (by decide) ?_
  refine lv_aload_n S.1 S.2.1 dX6_takeAsTold_36 rfl (lv_at hl 0 rfl) ?_
  obtain ⟨r19, e20, f⟩ := ob f
  refine o_gR S lf6_takeAsTold_19 I e20 dX6_takeAsTold_37 ?_
  refine lv_iconst (v := 0) S.1 S.2.1 dX6_takeAsTold_40 (by decide) ?_
  refine lv_iconst (v := 5) S.1 S.2.1 dX6_takeAsTold_41 (by decide) ?_
  obtain ⟨h21, e22, f⟩ := ob f
  refine o_copy S la6_takeAsTold_50 hl.1 I e22 (Nat.le_of_ble_eq_true rfl) (Nat.le_of_ble_eq_true rfl) dX6_takeAsTold_42 (fun H locs I => ?_)
  refine lv_iconst (v := 0) S.1 S.2.1 dX6_takeAsTold_45 (by decide) ?_
  refine lv_istore_n (lv' := [(2, .int 0), (0, .ref (b + a0)), (1, .ref (b + a1))]) S.1 S.2.1 dX6_takeAsTold_46 rfl hl (by decide) rfl (fun ls hl => ?_)
  exact T6_takeAsTold_47 S hr hlo  1024 f I (lv_sub hl [1, 0] rfl)
theorem M6_takeAsTold (l : Launch) (D : va_G) (cy : Nat → ClassId) (b : Nat) (A : Nat → Prop) {h : PH} {a0 : Nat} {a1 : Nat} {out : PH} (f : F6_takeAsTold h a0 a1 = some out) : Met l yX6_takeAsTold vX6_takeAsTold ({ frames := 5, cells := 0, slots := 0, locals := 125 } : Room) (va_Pc [.ref (b + a0), .ref (b + a1)] (ph_B D cy b A false h)) (va_Qv (fun (u : PH) => u = out) (ph_B D cy b A false) A) 0 0 A :=
  o_met (by decide) rfl (Nat.le_of_ble_eq_true rfl) rfl (fun p e s m below meth c S hr hlo hnm ls hl I => T6_takeAsTold_0 S hr hlo ((gd f).2) I (lv_sub hl [0, 1] rfl))
def vX6_takeOver : List Cond := .code yX6_takeOver cX6_takeOver 2 none :: TB
theorem lf6_takeOver_9 : Fl vX6_takeOver RX6 9 6 0 := ⟨RX6, TX6, 9, rfl, by decide, (fun w h9 => List.mem_cons_of_mem _ (wC_wsX60 w h9)), (List.mem_cons_of_mem _ wT_7_15)⟩
theorem lp6_takeOver_9 : Pl vX6_takeOver RX6 9 6 0 (.object "WhoseWave$Told") := ⟨RX6, TX6, 9, tyX6, rfl, by decide, (fun w h9 => List.mem_cons_of_mem _ (wC_wsX60 w h9)), (List.mem_cons_of_mem _ wT_7_15), tyX6_ok, nmX6, rfl, rfl⟩
theorem lf6_takeOver_15 : Fl vX6_takeOver RX6 15 6 1 := ⟨RX6, TX6, 9, rfl, by decide, (fun w h9 => List.mem_cons_of_mem _ (wC_wsX60 w h9)), (List.mem_cons_of_mem _ wT_7_16)⟩
theorem la6_takeOver_50 : Al vX6_takeOver RX6 50 := ⟨(List.mem_cons_of_mem _ wT_24_4), (List.mem_cons_of_mem _ wT_24_5), (List.mem_cons_of_mem _ wT_24_6), (List.mem_cons_of_mem _ wT_24_7)⟩
theorem lf6_takeOver_19 : Fl vX6_takeOver RX6 19 6 2 := ⟨RX6, TX6, 9, rfl, by decide, (fun w h9 => List.mem_cons_of_mem _ (wC_wsX60 w h9)), (List.mem_cons_of_mem _ wT_7_17)⟩
theorem lf6_takeOver_22 : Fl vX6_takeOver RX6 22 6 3 := ⟨RX6, TX6, 9, rfl, by decide, (fun w h9 => List.mem_cons_of_mem _ (wC_wsX60 w h9)), (List.mem_cons_of_mem _ wT_7_18)⟩
theorem cd6_takeOver : Cd yX6_takeOver 1 := ⟨by decide, by decide, by decide +kernel⟩
set_option maxHeartbeats 4000000 in
set_option maxRecDepth 100000 in
theorem T6_takeOver_0 (S : CallFix p m c cX6_takeOver 2 s args vX6_takeOver RX6) (hr : meth.sig.returnType = none) (hlo : meth.locks = false) {out : PH} {h : PH} {a0 : Nat} {a1 : Nat} (f : F6_takeOver_0  h a0 a1 = some out) {H : Heap} {locs : List Loc} (I : ph_I D cy b A false h s H locs) {ls : Array Slot} (hl : lv_has ls 2 [(0, .ref (b + a0)), (1, .ref (b + a1))]) : W p l e ({ frames := 1, cells := 0, slots := 0, locals := 40 } : Room) s m args below meth c H locs 0 0 (MQ below (va_Qv (fun (u : PH) => u = out) (ph_B D cy b A false) A) args s 0 0 A) (F0 m 0 ls []) := by
  unfold F6_takeOver_0 at f
  refine lv_aload_n S.1 S.2.1 dX6_takeOver_0 rfl (lv_at hl 0 rfl) ?_
  refine lv_aload_n S.1 S.2.1 dX6_takeOver_1 rfl (lv_at hl 1 rfl) ?_
  obtain ⟨r1, e2, f⟩ := ob f
  refine o_gR S lf6_takeOver_9 I e2 dX6_takeOver_2 ?_
  obtain ⟨h3, e4, f⟩ := ob f
  refine o_pR S lp6_takeOver_9 (Or.inl ⟨_, rfl⟩) I e4 dX6_takeOver_5 (fun H locs I => ?_)
  refine lv_aload_n S.1 S.2.1 dX6_takeOver_8 rfl (lv_at hl 1 rfl) ?_
  obtain ⟨r5, e6, f⟩ := ob f
  refine o_gR S lf6_takeOver_15 I e6 dX6_takeOver_9 ?_
  refine lv_iconst (v := 0) S.1 S.2.1 dX6_takeOver_12 (by decide) ?_
  refine lv_aload_n S.1 S.2.1 dX6_takeOver_13 rfl (lv_at hl 0 rfl) ?_
  obtain ⟨r7, e8, f⟩ := ob f
  refine o_gR S lf6_takeOver_15 I e8 dX6_takeOver_14 ?_
  refine lv_iconst (v := 0) S.1 S.2.1 dX6_takeOver_17 (by decide) ?_
  refine lv_iconst (v := 5) S.1 S.2.1 dX6_takeOver_18 (by decide) ?_
  obtain ⟨h9, e10, f⟩ := ob f
  refine o_copy S la6_takeOver_50 hl.1 I e10 (Nat.le_of_ble_eq_true rfl) (Nat.le_of_ble_eq_true rfl) dX6_takeOver_19 (fun H locs I => ?_)
  refine lv_aload_n S.1 S.2.1 dX6_takeOver_22 rfl (lv_at hl 1 rfl) ?_
  obtain ⟨r11, e12, f⟩ := ob f
  refine o_gR S lf6_takeOver_19 I e12 dX6_takeOver_23 ?_
  refine lv_iconst (v := 0) S.1 S.2.1 dX6_takeOver_26 (by decide) ?_
  refine lv_aload_n S.1 S.2.1 dX6_takeOver_27 rfl (lv_at hl 0 rfl) ?_
  obtain ⟨r13, e14, f⟩ := ob f
  refine o_gR S lf6_takeOver_19 I e14 dX6_takeOver_28 ?_
  refine lv_iconst (v := 0) S.1 S.2.1 dX6_takeOver_31 (by decide) ?_
  refine lv_iconst (v := 5) S.1 S.2.1 dX6_takeOver_32 (by decide) ?_
  obtain ⟨h15, e16, f⟩ := ob f
  refine o_copy S la6_takeOver_50 hl.1 I e16 (Nat.le_of_ble_eq_true rfl) (Nat.le_of_ble_eq_true rfl) dX6_takeOver_33 (fun H locs I => ?_)
  refine lv_aload_n S.1 S.2.1 dX6_takeOver_36 rfl (lv_at hl 1 rfl) ?_
  obtain ⟨r17, e18, f⟩ := ob f
  refine o_gR S lf6_takeOver_22 I e18 dX6_takeOver_37 ?_
  refine lv_iconst (v := 0) S.1 S.2.1 dX6_takeOver_40 (by decide) ?_
  refine lv_aload_n S.1 S.2.1 dX6_takeOver_41 rfl (lv_at hl 0 rfl) ?_
  obtain ⟨r19, e20, f⟩ := ob f
  refine o_gR S lf6_takeOver_22 I e20 dX6_takeOver_42 ?_
  refine lv_iconst (v := 0) S.1 S.2.1 dX6_takeOver_45 (by decide) ?_
  refine lv_bipush (v := 28) S.1 S.2.1 dX6_takeOver_46 (by decide) ?_
  obtain ⟨h21, e22, f⟩ := ob f
  refine o_copy S la6_takeOver_50 hl.1 I e22 (Nat.le_of_ble_eq_true rfl) (Nat.le_of_ble_eq_true rfl) dX6_takeOver_48 (fun H locs I => ?_)
  exact o_vret S hr hlo I f dX6_takeOver_51
theorem M6_takeOver (l : Launch) (D : va_G) (cy : Nat → ClassId) (b : Nat) (A : Nat → Prop) {h : PH} {a0 : Nat} {a1 : Nat} {out : PH} (f : F6_takeOver h a0 a1 = some out) : Met l yX6_takeOver vX6_takeOver ({ frames := 1, cells := 0, slots := 0, locals := 40 } : Room) (va_Pc [.ref (b + a0), .ref (b + a1)] (ph_B D cy b A false h)) (va_Qv (fun (u : PH) => u = out) (ph_B D cy b A false) A) 0 0 A :=
  o_met (by decide) rfl (Nat.le_of_ble_eq_true rfl) rfl (fun p e s m below meth c S hr hlo hnm ls hl I => T6_takeOver_0 S hr hlo ((gd f).2) I (lv_sub hl [0, 1] rfl))
def vX8_bankWaves : List Cond := .code yX8_bankWaves cX8_bankWaves 4 (some .int) :: TB
theorem lf8_bankWaves_51 : Fl vX8_bankWaves RX8 51 8 6 := ⟨RX8, TX8, 14, rfl, by decide, (fun w h9 => List.mem_cons_of_mem _ (wC_wsX80 w h9)), (List.mem_cons_of_mem _ wT_14_16)⟩
theorem lf8_bankWaves_54 : Fl vX8_bankWaves RX8 54 8 7 := ⟨RX8, TX8, 14, rfl, by decide, (fun w h9 => List.mem_cons_of_mem _ (wC_wsX80 w h9)), (List.mem_cons_of_mem _ wT_14_17)⟩
theorem cd8_bankWaves : Cd yX8_bankWaves 2 := ⟨by decide, by decide, by decide +kernel⟩
set_option maxHeartbeats 4000000 in
set_option maxRecDepth 100000 in
theorem T8_bankWaves_0 (S : CallFix p m c cX8_bankWaves 4 s args vX8_bankWaves RX8) (hr : meth.sig.returnType = (some .int)) (hlo : meth.locks = false) {out : Int32 × PH} {h : PH} {a0 : Nat} {x1 : Int32} {x2 : Int32} (f : F8_bankWaves_0  h a0 x1 x2 = some out) {H : Heap} {locs : List Loc} (I : ph_I D cy b A fl h s H locs) {ls : Array Slot} (hl : lv_has ls 4 [(0, .ref (b + a0)), (1, .int x1), (2, .int x2)]) : W p l e ({ frames := 0, cells := 0, slots := 0, locals := 0 } : Room) s m args below meth c H locs 0 0 (MQ below (va_Qi (fun (r : Int32) (u : PH) => (r, u) = out) (ph_B D cy b A fl) A) args s 0 0 A) (F0 m 0 ls []) := by
  unfold F8_bankWaves_0 at f
  refine lv_iload_n S.1 S.2.1 dX8_bankWaves_0 rfl (lv_at hl 2 rfl) ?_
  refine lv_iload_n S.1 S.2.1 dX8_bankWaves_1 rfl (lv_at hl 1 rfl) ?_
  refine lv_isub S.1 S.2.1 dX8_bankWaves_2 ?_
  refine lv_aload_n S.1 S.2.1 dX8_bankWaves_3 rfl (lv_at hl 0 rfl) ?_
  obtain ⟨v1, e2, f⟩ := ob f
  refine o_gI S lf8_bankWaves_51 I e2 dX8_bankWaves_4 ?_
  refine lv_isub S.1 S.2.1 dX8_bankWaves_7 ?_
  refine lv_istore_n (lv' := [(3, .int ((x2 - x1) - v1)), (0, .ref (b + a0)), (1, .int x1), (2, .int x2)]) S.1 S.2.1 dX8_bankWaves_8 rfl hl (by decide) rfl (fun ls hl => ?_)
  refine lv_iload_n S.1 S.2.1 dX8_bankWaves_9 rfl (lv_at hl 0 rfl) ?_
  refine lv_if_lt (tgt := 21) S.1 S.2.1 dX8_bankWaves_10 (by decide) (fun q3 => ?_) (fun q3 => ?_)
  · have f := (if_pos q3).symm.trans f
    refine lv_iconst (v := 0) S.1 S.2.1 dX8_bankWaves_21 (by decide) ?_
    refine lv_goto (tgt := 33) S.1 S.2.1 dX8_bankWaves_22 (by decide) ?_
    exact o_iret S hr hlo I f dX8_bankWaves_33
  · have f := (if_neg q3).symm.trans f
    refine lv_aload_n S.1 S.2.1 dX8_bankWaves_13 rfl (lv_at hl 1 rfl) ?_
    obtain ⟨v4, e5, f⟩ := ob f
    refine o_gI S lf8_bankWaves_54 I e5 dX8_bankWaves_14 ?_
    refine lv_iconst (v := 1) S.1 S.2.1 dX8_bankWaves_17 (by decide) ?_
    refine lv_icmp_ge (tgt := 25) S.1 S.2.1 dX8_bankWaves_18 (by decide) (fun q6 => ?_) (fun q6 => ?_)
    · have f := (if_pos q6).symm.trans f
      refine lv_iload_n S.1 S.2.1 dX8_bankWaves_25 rfl (lv_at hl 0 rfl) ?_
      refine lv_aload_n S.1 S.2.1 dX8_bankWaves_26 rfl (lv_at hl 1 rfl) ?_
      obtain ⟨v7, e8, f⟩ := ob f
      refine o_gI S lf8_bankWaves_54 I e8 dX8_bankWaves_27 ?_
      have q9 : ¬ v7 = 0 := fun q => by rw [if_pos q] at f; cases f
      have f := (if_neg q9).symm.trans f
      refine lv_idiv S.1 S.2.1 dX8_bankWaves_30 q9 ?_
      refine lv_iconst (v := 1) S.1 S.2.1 dX8_bankWaves_31 (by decide) ?_
      refine lv_iadd S.1 S.2.1 dX8_bankWaves_32 ?_
      exact o_iret S hr hlo I f dX8_bankWaves_33
    · have f := (if_neg q6).symm.trans f
      refine lv_iconst (v := 0) S.1 S.2.1 dX8_bankWaves_21 (by decide) ?_
      refine lv_goto (tgt := 33) S.1 S.2.1 dX8_bankWaves_22 (by decide) ?_
      exact o_iret S hr hlo I f dX8_bankWaves_33
theorem M8_bankWaves (l : Launch) (D : va_G) (cy : Nat → ClassId) (b : Nat) (A : Nat → Prop) (fl : Bool) {h : PH} {a0 : Nat} {x1 : Int32} {x2 : Int32} {out : Int32 × PH} (f : F8_bankWaves h a0 x1 x2 = some out) : Met l yX8_bankWaves vX8_bankWaves ({ frames := 0, cells := 0, slots := 0, locals := 0 } : Room) (va_Pc [.ref (b + a0), .int x1, .int x2] (ph_B D cy b A fl h)) (va_Qi (fun (r : Int32) (u : PH) => (r, u) = out) (ph_B D cy b A fl) A) 0 0 A :=
  o_met (by decide) rfl (Nat.le_of_ble_eq_true rfl) rfl (fun p e s m below meth c S hr hlo hnm ls hl I => T8_bankWaves_0 S hr hlo ((gd f).2) I (lv_sub hl [0, 1, 2] rfl))
def vX8_cells : List Cond := .code yX8_cells cX8_cells 1 (some .int) :: TB
theorem lf8_cells_32 : Fl vX8_cells RX8 32 8 0 := ⟨RX8, TX8, 14, rfl, by decide, (fun w h9 => List.mem_cons_of_mem _ (wC_wsX80 w h9)), (List.mem_cons_of_mem _ wT_3_15)⟩
theorem lf8_cells_36 : Fl vX8_cells RX8 36 8 1 := ⟨RX8, TX8, 14, rfl, by decide, (fun w h9 => List.mem_cons_of_mem _ (wC_wsX80 w h9)), (List.mem_cons_of_mem _ wT_3_16)⟩
theorem cd8_cells : Cd yX8_cells 0 := ⟨by decide, by decide, by decide +kernel⟩
set_option maxHeartbeats 4000000 in
set_option maxRecDepth 100000 in
theorem T8_cells_0 (S : CallFix p m c cX8_cells 1 s args vX8_cells RX8) (hr : meth.sig.returnType = (some .int)) (hlo : meth.locks = false) {out : Int32 × PH} {h : PH} {a0 : Nat} (f : F8_cells_0  h a0 = some out) {H : Heap} {locs : List Loc} (I : ph_I D cy b A fl h s H locs) {ls : Array Slot} (hl : lv_has ls 1 [(0, .ref (b + a0))]) : W p l e ({ frames := 0, cells := 0, slots := 0, locals := 0 } : Room) s m args below meth c H locs 0 0 (MQ below (va_Qi (fun (r : Int32) (u : PH) => (r, u) = out) (ph_B D cy b A fl) A) args s 0 0 A) (F0 m 0 ls []) := by
  unfold F8_cells_0 at f
  refine lv_aload_n S.1 S.2.1 dX8_cells_0 rfl (lv_at hl 0 rfl) ?_
  obtain ⟨v1, e2, f⟩ := ob f
  refine o_gI S lf8_cells_32 I e2 dX8_cells_1 ?_
  refine lv_aload_n S.1 S.2.1 dX8_cells_4 rfl (lv_at hl 0 rfl) ?_
  obtain ⟨v3, e4, f⟩ := ob f
  refine o_gI S lf8_cells_36 I e4 dX8_cells_5 ?_
  refine lv_imul S.1 S.2.1 dX8_cells_8 ?_
  exact o_iret S hr hlo I f dX8_cells_9
theorem M8_cells (l : Launch) (D : va_G) (cy : Nat → ClassId) (b : Nat) (A : Nat → Prop) (fl : Bool) {h : PH} {a0 : Nat} {out : Int32 × PH} (f : F8_cells h a0 = some out) : Met l yX8_cells vX8_cells ({ frames := 0, cells := 0, slots := 0, locals := 0 } : Room) (va_Pc [.ref (b + a0)] (ph_B D cy b A fl h)) (va_Qi (fun (r : Int32) (u : PH) => (r, u) = out) (ph_B D cy b A fl) A) 0 0 A :=
  o_met (by decide) rfl (Nat.le_of_ble_eq_true rfl) rfl (fun p e s m below meth c S hr hlo hnm ls hl I => T8_cells_0 S hr hlo ((gd f).2) I (lv_sub hl [0] rfl))
def vX9_add : List Cond := .code yX9_add cX9_add 3 none :: TB
theorem lf9_add_9 : Fl vX9_add RX9 9 9 1 := ⟨RX9, TX9, 3, rfl, by decide, (fun w h9 => List.mem_cons_of_mem _ (wC_wsX90 w h9)), (List.mem_cons_of_mem _ wT_9_1)⟩
theorem lf9_add_18 : Fl vX9_add RX9 18 9 0 := ⟨RX9, TX9, 3, rfl, by decide, (fun w h9 => List.mem_cons_of_mem _ (wC_wsX90 w h9)), (List.mem_cons_of_mem _ wT_42_5)⟩
theorem lf9_add_15 : Fl vX9_add RX9 15 9 2 := ⟨RX9, TX9, 3, rfl, by decide, (fun w h9 => List.mem_cons_of_mem _ (wC_wsX90 w h9)), (List.mem_cons_of_mem _ wT_9_2)⟩
theorem lp9_add_18 : Pl vX9_add RX9 18 9 0 .int := ⟨RX9, TX9, 3, tyX9, rfl, by decide, (fun w h9 => List.mem_cons_of_mem _ (wC_wsX90 w h9)), (List.mem_cons_of_mem _ wT_42_5), tyX9_ok, nmX9, rfl, rfl⟩
theorem la9_add_22 : Al vX9_add RX9 22 := ⟨(List.mem_cons_of_mem _ wT_42_6), (List.mem_cons_of_mem _ wT_24_5), (List.mem_cons_of_mem _ wT_24_6), (List.mem_cons_of_mem _ wT_24_7)⟩
theorem cd9_add : Cd yX9_add 2 := ⟨by decide, by decide, by decide +kernel⟩
set_option maxHeartbeats 4000000 in
set_option maxRecDepth 100000 in
theorem T9_add_45 (S : CallFix p m c cX9_add 3 s args vX9_add RX9) (hr : meth.sig.returnType = none) (hlo : meth.locks = false) {out : PH} {h : PH} {a0 : Nat} {x1 : Int32} {x2 : Int32} (f : F9_add_45  h a0 x1 x2 = some out) {H : Heap} {locs : List Loc} (I : ph_I D cy b A false h s H locs) {ls : Array Slot} (hl : lv_has ls 3 [(0, .ref (b + a0)), (1, .int x1), (2, .int x2)]) : W p l e ({ frames := 1, cells := 0, slots := 0, locals := 40 } : Room) s m args below meth c H locs 0 0 (MQ below (va_Qv (fun (u : PH) => u = out) (ph_B D cy b A false) A) args s 0 0 A) (F0 m 45 ls []) := by
  unfold F9_add_45 at f
  refine lv_aload_n S.1 S.2.1 dX9_add_45 rfl (lv_at hl 0 rfl) ?_
  obtain ⟨r1, e2, f⟩ := ob f
  refine o_gR S lf9_add_9 I e2 dX9_add_46 ?_
  refine lv_aload_n S.1 S.2.1 dX9_add_49 rfl (lv_at hl 0 rfl) ?_
  obtain ⟨v3, e4, f⟩ := ob f
  refine o_gI S lf9_add_18 I e4 dX9_add_50 ?_
  refine lv_iload_n S.1 S.2.1 dX9_add_53 rfl (lv_at hl 1 rfl) ?_
  obtain ⟨h6, e5, f⟩ := ob f
  refine o_iast S I e5 dX9_add_54 (fun H locs I => ?_)
  refine lv_aload_n S.1 S.2.1 dX9_add_55 rfl (lv_at hl 0 rfl) ?_
  obtain ⟨r7, e8, f⟩ := ob f
  refine o_gR S lf9_add_15 I e8 dX9_add_56 ?_
  refine lv_aload_n S.1 S.2.1 dX9_add_59 rfl (lv_at hl 0 rfl) ?_
  obtain ⟨v9, e10, f⟩ := ob f
  refine o_gI S lf9_add_18 I e10 dX9_add_60 ?_
  refine lv_iload_n S.1 S.2.1 dX9_add_63 rfl (lv_at hl 2 rfl) ?_
  obtain ⟨h12, e11, f⟩ := ob f
  refine o_iast S I e11 dX9_add_64 (fun H locs I => ?_)
  refine lv_aload_n S.1 S.2.1 dX9_add_65 rfl (lv_at hl 0 rfl) ?_
  refine lv_dup S.1 S.2.1 dX9_add_66 rfl ?_
  obtain ⟨v13, e14, f⟩ := ob f
  refine o_gI S lf9_add_18 I e14 dX9_add_67 ?_
  refine lv_iconst (v := 1) S.1 S.2.1 dX9_add_70 (by decide) ?_
  refine lv_iadd S.1 S.2.1 dX9_add_71 ?_
  obtain ⟨h15, e16, f⟩ := ob f
  refine o_pI S lp9_add_18 I e16 dX9_add_72 (fun H locs I => ?_)
  exact o_vret S hr hlo I f dX9_add_75
set_option maxHeartbeats 4000000 in
set_option maxRecDepth 100000 in
theorem T9_add_0 (S : CallFix p m c cX9_add 3 s args vX9_add RX9) (hr : meth.sig.returnType = none) (hlo : meth.locks = false) {out : PH} {h : PH} {a0 : Nat} {x1 : Int32} {x2 : Int32} (f : F9_add_0  h a0 x1 x2 = some out) {H : Heap} {locs : List Loc} (I : ph_I D cy b A false h s H locs) {ls : Array Slot} (hl : lv_has ls 3 [(0, .ref (b + a0)), (1, .int x1), (2, .int x2)]) : W p l e ({ frames := 1, cells := 0, slots := 0, locals := 40 } : Room) s m args below meth c H locs 0 0 (MQ below (va_Qv (fun (u : PH) => u = out) (ph_B D cy b A false) A) args s 0 0 A) (F0 m 0 ls []) := by
  unfold F9_add_0 at f
  refine lv_aload_n S.1 S.2.1 dX9_add_0 rfl (lv_at hl 0 rfl) ?_
  obtain ⟨v1, e2, f⟩ := ob f
  refine o_gI S lf9_add_18 I e2 dX9_add_1 ?_
  refine lv_bipush (v := 20) S.1 S.2.1 dX9_add_4 (by decide) ?_
  refine lv_icmp_lt (tgt := 45) S.1 S.2.1 dX9_add_6 (by decide) (fun q3 => ?_) (fun q3 => ?_)
  · have f := (if_pos q3).symm.trans f
    exact T9_add_45 S hr hlo  f I (lv_sub hl [0, 1, 2] rfl)
  · have f := (if_neg q3).symm.trans f
    refine lv_aload_n S.1 S.2.1 dX9_add_9 rfl (lv_at hl 0 rfl) ?_
    obtain ⟨r4, e5, f⟩ := ob f
    refine o_gR S lf9_add_9 I e5 dX9_add_10 ?_
    refine lv_iconst (v := 1) S.1 S.2.1 dX9_add_13 (by decide) ?_
    refine lv_aload_n S.1 S.2.1 dX9_add_14 rfl (lv_at hl 0 rfl) ?_
    obtain ⟨r6, e7, f⟩ := ob f
    refine o_gR S lf9_add_9 I e7 dX9_add_15 ?_
    refine lv_iconst (v := 0) S.1 S.2.1 dX9_add_18 (by decide) ?_
    refine lv_bipush (v := 19) S.1 S.2.1 dX9_add_19 (by decide) ?_
    obtain ⟨h8, e9, f⟩ := ob f
    refine o_copy S la9_add_22 hl.1 I e9 (Nat.le_of_ble_eq_true rfl) (Nat.le_of_ble_eq_true rfl) dX9_add_21 (fun H locs I => ?_)
    refine lv_aload_n S.1 S.2.1 dX9_add_24 rfl (lv_at hl 0 rfl) ?_
    obtain ⟨r10, e11, f⟩ := ob f
    refine o_gR S lf9_add_15 I e11 dX9_add_25 ?_
    refine lv_iconst (v := 1) S.1 S.2.1 dX9_add_28 (by decide) ?_
    refine lv_aload_n S.1 S.2.1 dX9_add_29 rfl (lv_at hl 0 rfl) ?_
    obtain ⟨r12, e13, f⟩ := ob f
    refine o_gR S lf9_add_15 I e13 dX9_add_30 ?_
    refine lv_iconst (v := 0) S.1 S.2.1 dX9_add_33 (by decide) ?_
    refine lv_bipush (v := 19) S.1 S.2.1 dX9_add_34 (by decide) ?_
    obtain ⟨h14, e15, f⟩ := ob f
    refine o_copy S la9_add_22 hl.1 I e15 (Nat.le_of_ble_eq_true rfl) (Nat.le_of_ble_eq_true rfl) dX9_add_36 (fun H locs I => ?_)
    refine lv_aload_n S.1 S.2.1 dX9_add_39 rfl (lv_at hl 0 rfl) ?_
    refine lv_bipush (v := 19) S.1 S.2.1 dX9_add_40 (by decide) ?_
    obtain ⟨h16, e17, f⟩ := ob f
    refine o_pI S lp9_add_18 I e17 dX9_add_42 (fun H locs I => ?_)
    exact T9_add_45 S hr hlo  f I (lv_sub hl [0, 1, 2] rfl)
theorem M9_add (l : Launch) (D : va_G) (cy : Nat → ClassId) (b : Nat) (A : Nat → Prop) {h : PH} {a0 : Nat} {x1 : Int32} {x2 : Int32} {out : PH} (f : F9_add h a0 x1 x2 = some out) : Met l yX9_add vX9_add ({ frames := 1, cells := 0, slots := 0, locals := 40 } : Room) (va_Pc [.ref (b + a0), .int x1, .int x2] (ph_B D cy b A false h)) (va_Qv (fun (u : PH) => u = out) (ph_B D cy b A false) A) 0 0 A :=
  o_met (by decide) rfl (Nat.le_of_ble_eq_true rfl) rfl (fun p e s m below meth c S hr hlo hnm ls hl I => T9_add_0 S hr hlo ((gd f).2) I (lv_sub hl [0, 1, 2] rfl))
def vX10_isLargest : List Cond := .code yX10_isLargest cX10_isLargest 5 (some .boolean) :: TB
theorem lf10_isLargest_15 : Fl vX10_isLargest RX10 15 10 3 := ⟨RX10, TX10, 8, rfl, by decide, (fun w h9 => List.mem_cons_of_mem _ (wC_wsX100 w h9)), (List.mem_cons_of_mem _ wT_4_9)⟩
theorem lf10_isLargest_21 : Fl vX10_isLargest RX10 21 10 5 := ⟨RX10, TX10, 8, rfl, by decide, (fun w h9 => List.mem_cons_of_mem _ (wC_wsX100 w h9)), (List.mem_cons_of_mem _ wT_4_11)⟩
theorem lf10_isLargest_9 : Fl vX10_isLargest RX10 9 10 2 := ⟨RX10, TX10, 8, rfl, by decide, (fun w h9 => List.mem_cons_of_mem _ (wC_wsX100 w h9)), (List.mem_cons_of_mem _ wT_4_8)⟩
theorem cd10_isLargest : Cd yX10_isLargest 2 := ⟨by decide, by decide, by decide +kernel⟩
set_option maxHeartbeats 4000000 in
set_option maxRecDepth 100000 in
theorem T10_isLargest_14 (S : CallFix p m c cX10_isLargest 5 s args vX10_isLargest RX10) (hr : meth.sig.returnType = (some .boolean)) (hlo : meth.locks = false) {out : Int32 × PH} : ∀ (n : Nat) {h : PH} {a0 : Nat} {x1 : Int32} {x3 : Int32} {x4 : Int32} (f : F10_isLargest_14  n h a0 x1 x3 x4 = some out) {H : Heap} {locs : List Loc} (I : ph_I D cy b A fl h s H locs) {ls : Array Slot} (hl : lv_has ls 5 [(0, .ref (b + a0)), (1, .int x1), (3, .int x3), (4, .int x4)]), W p l e ({ frames := 0, cells := 0, slots := 0, locals := 0 } : Room) s m args below meth c H locs 0 0 (MQ below (va_Qi (fun (r : Int32) (u : PH) => (r, u) = out) (ph_B D cy b A fl) A) args s 0 0 A) (F0 m 14 ls []) := by
  intro n
  induction n with
  | zero => intro h a0 x1 x3 x4 f; rw [F10_isLargest_14] at f; cases f
  | succ n ih =>
    intro h a0 x1 x3 x4 f H locs I ls hl
    rw [F10_isLargest_14] at f
    refine lv_iload S.1 S.2.1 dX10_isLargest_14 (lv_at hl 3 rfl) ?_
    refine lv_aload_n S.1 S.2.1 dX10_isLargest_16 rfl (lv_at hl 0 rfl) ?_
    obtain ⟨r1, e2, f⟩ := ob f
    refine o_gR S lf10_isLargest_15 I e2 dX10_isLargest_17 ?_
    refine lv_iload_n S.1 S.2.1 dX10_isLargest_20 rfl (lv_at hl 1 rfl) ?_
    obtain ⟨v4, e3, f⟩ := ob f
    refine o_iald S I e3 dX10_isLargest_21 ?_
    refine lv_icmp_ge (tgt := 56) S.1 S.2.1 dX10_isLargest_22 (by decide) (fun q5 => ?_) (fun q5 => ?_)
    · have f := (if_pos q5).symm.trans f
      refine lv_iconst (v := 1) S.1 S.2.1 dX10_isLargest_56 (by decide) ?_
      exact o_zret S hr hlo I f dX10_isLargest_57
    · have f := (if_neg q5).symm.trans f
      refine lv_aload_n S.1 S.2.1 dX10_isLargest_25 rfl (lv_at hl 0 rfl) ?_
      obtain ⟨r6, e7, f⟩ := ob f
      refine o_gR S lf10_isLargest_21 I e7 dX10_isLargest_26 ?_
      refine lv_aload_n S.1 S.2.1 dX10_isLargest_29 rfl (lv_at hl 0 rfl) ?_
      obtain ⟨r8, e9, f⟩ := ob f
      refine o_gR S lf10_isLargest_9 I e9 dX10_isLargest_30 ?_
      refine lv_iload_n S.1 S.2.1 dX10_isLargest_33 rfl (lv_at hl 1 rfl) ?_
      obtain ⟨v11, e10, f⟩ := ob f
      refine o_iald S I e10 dX10_isLargest_34 ?_
      refine lv_iload S.1 S.2.1 dX10_isLargest_35 (lv_at hl 3 rfl) ?_
      refine lv_iadd S.1 S.2.1 dX10_isLargest_37 ?_
      obtain ⟨v13, e12, f⟩ := ob f
      refine o_iald S I e12 dX10_isLargest_38 ?_
      refine lv_aload_n S.1 S.2.1 dX10_isLargest_39 rfl (lv_at hl 0 rfl) ?_
      obtain ⟨r14, e15, f⟩ := ob f
      refine o_gR S lf10_isLargest_21 I e15 dX10_isLargest_40 ?_
      refine lv_iload_n S.1 S.2.1 dX10_isLargest_43 rfl (lv_at hl 2 rfl) ?_
      obtain ⟨v17, e16, f⟩ := ob f
      refine o_iald S I e16 dX10_isLargest_44 ?_
      refine lv_icmp_le (tgt := 50) S.1 S.2.1 dX10_isLargest_45 (by decide) (fun q18 => ?_) (fun q18 => ?_)
      · have f := (if_pos q18).symm.trans f
        refine lv_iinc (v := (x4 + 1)) (lv' := [(4, .int (x4 + 1)), (0, .ref (b + a0)), (1, .int x1), (3, .int x3)]) S.1 S.2.1 dX10_isLargest_50 hl (k := 3) rfl (congrArg (fun z => x4 + z) (by decide)) (by decide) rfl (fun ls hl => ?_)
        refine lv_goto (tgt := 14) S.1 S.2.1 dX10_isLargest_53 (by decide) ?_
        exact ih f I (lv_sub hl [1, 2, 3, 0] rfl)
      · have f := (if_neg q18).symm.trans f
        refine lv_iconst (v := 0) S.1 S.2.1 dX10_isLargest_48 (by decide) ?_
        exact o_zret S hr hlo I f dX10_isLargest_49
set_option maxHeartbeats 4000000 in
set_option maxRecDepth 100000 in
theorem T10_isLargest_0 (S : CallFix p m c cX10_isLargest 5 s args vX10_isLargest RX10) (hr : meth.sig.returnType = (some .boolean)) (hlo : meth.locks = false) {out : Int32 × PH} {h : PH} {a0 : Nat} {x1 : Int32} {x2 : Int32} (f : F10_isLargest_0  h a0 x1 x2 = some out) {H : Heap} {locs : List Loc} (I : ph_I D cy b A fl h s H locs) {ls : Array Slot} (hl : lv_has ls 5 [(0, .ref (b + a0)), (1, .int x1), (2, .int x2)]) : W p l e ({ frames := 0, cells := 0, slots := 0, locals := 0 } : Room) s m args below meth c H locs 0 0 (MQ below (va_Qi (fun (r : Int32) (u : PH) => (r, u) = out) (ph_B D cy b A fl) A) args s 0 0 A) (F0 m 0 ls []) := by
  unfold F10_isLargest_0 at f
  refine lv_aload_n S.1 S.2.1 dX10_isLargest_0 rfl (lv_at hl 0 rfl) ?_
  obtain ⟨r1, e2, f⟩ := ob f
  refine o_gR S lf10_isLargest_9 I e2 dX10_isLargest_1 ?_
  refine lv_iload_n S.1 S.2.1 dX10_isLargest_4 rfl (lv_at hl 1 rfl) ?_
  obtain ⟨v4, e3, f⟩ := ob f
  refine o_iald S I e3 dX10_isLargest_5 ?_
  refine lv_iload_n S.1 S.2.1 dX10_isLargest_6 rfl (lv_at hl 2 rfl) ?_
  refine lv_iadd S.1 S.2.1 dX10_isLargest_7 ?_
  refine lv_iconst (v := 1) S.1 S.2.1 dX10_isLargest_8 (by decide) ?_
  refine lv_isub S.1 S.2.1 dX10_isLargest_9 ?_
  refine lv_istore_n (lv' := [(3, .int ((v4 + x2) - 1)), (0, .ref (b + a0)), (1, .int x1), (2, .int x2)]) S.1 S.2.1 dX10_isLargest_10 rfl hl (by decide) rfl (fun ls hl => ?_)
  refine lv_iconst (v := 0) S.1 S.2.1 dX10_isLargest_11 (by decide) ?_
  refine lv_istore (lv' := [(4, .int 0), (3, .int ((v4 + x2) - 1)), (0, .ref (b + a0)), (1, .int x1), (2, .int x2)]) S.1 S.2.1 dX10_isLargest_12 hl (by decide) rfl (fun ls hl => ?_)
  exact T10_isLargest_14 S hr hlo  1024 f I (lv_sub hl [2, 3, 1, 0] rfl)
theorem M10_isLargest (l : Launch) (D : va_G) (cy : Nat → ClassId) (b : Nat) (A : Nat → Prop) (fl : Bool) {h : PH} {a0 : Nat} {x1 : Int32} {x2 : Int32} {out : Int32 × PH} (f : F10_isLargest h a0 x1 x2 = some out) : Met l yX10_isLargest vX10_isLargest ({ frames := 0, cells := 0, slots := 0, locals := 0 } : Room) (va_Pc [.ref (b + a0), .int x1, .int x2] (ph_B D cy b A fl h)) (va_Qi (fun (r : Int32) (u : PH) => (r, u) = out) (ph_B D cy b A fl) A) 0 0 A :=
  o_met (by decide) rfl (Nat.le_of_ble_eq_true rfl) rfl (fun p e s m below meth c S hr hlo hnm ls hl I => T10_isLargest_0 S hr hlo ((gd f).2) I (lv_sub hl [0, 1, 2] rfl))
def vX10_lengthOf : List Cond := .code yX10_lengthOf cX10_lengthOf 2 (some .int) :: TB
theorem lf10_lengthOf_15 : Fl vX10_lengthOf RX10 15 10 3 := ⟨RX10, TX10, 8, rfl, by decide, (fun w h9 => List.mem_cons_of_mem _ (wC_wsX100 w h9)), (List.mem_cons_of_mem _ wT_4_9)⟩
theorem cd10_lengthOf : Cd yX10_lengthOf 1 := ⟨by decide, by decide, by decide +kernel⟩
set_option maxHeartbeats 4000000 in
set_option maxRecDepth 100000 in
theorem T10_lengthOf_0 (S : CallFix p m c cX10_lengthOf 2 s args vX10_lengthOf RX10) (hr : meth.sig.returnType = (some .int)) (hlo : meth.locks = false) {out : Int32 × PH} {h : PH} {a0 : Nat} {x1 : Int32} (f : F10_lengthOf_0  h a0 x1 = some out) {H : Heap} {locs : List Loc} (I : ph_I D cy b A fl h s H locs) {ls : Array Slot} (hl : lv_has ls 2 [(0, .ref (b + a0)), (1, .int x1)]) : W p l e ({ frames := 0, cells := 0, slots := 0, locals := 0 } : Room) s m args below meth c H locs 0 0 (MQ below (va_Qi (fun (r : Int32) (u : PH) => (r, u) = out) (ph_B D cy b A fl) A) args s 0 0 A) (F0 m 0 ls []) := by
  unfold F10_lengthOf_0 at f
  refine lv_aload_n S.1 S.2.1 dX10_lengthOf_0 rfl (lv_at hl 0 rfl) ?_
  obtain ⟨r1, e2, f⟩ := ob f
  refine o_gR S lf10_lengthOf_15 I e2 dX10_lengthOf_1 ?_
  refine lv_iload_n S.1 S.2.1 dX10_lengthOf_4 rfl (lv_at hl 1 rfl) ?_
  obtain ⟨v4, e3, f⟩ := ob f
  refine o_iald S I e3 dX10_lengthOf_5 ?_
  exact o_iret S hr hlo I f dX10_lengthOf_6
theorem M10_lengthOf (l : Launch) (D : va_G) (cy : Nat → ClassId) (b : Nat) (A : Nat → Prop) (fl : Bool) {h : PH} {a0 : Nat} {x1 : Int32} {out : Int32 × PH} (f : F10_lengthOf h a0 x1 = some out) : Met l yX10_lengthOf vX10_lengthOf ({ frames := 0, cells := 0, slots := 0, locals := 0 } : Room) (va_Pc [.ref (b + a0), .int x1] (ph_B D cy b A fl h)) (va_Qi (fun (r : Int32) (u : PH) => (r, u) = out) (ph_B D cy b A fl) A) 0 0 A :=
  o_met (by decide) rfl (Nat.le_of_ble_eq_true rfl) rfl (fun p e s m below meth c S hr hlo hnm ls hl I => T10_lengthOf_0 S hr hlo ((gd f).2) I (lv_sub hl [0, 1] rfl))
def vX10_setFrom : List Cond := .code yX10_setFrom cX10_setFrom 3 (some .int) :: TB
theorem lf10_setFrom_30 : Fl vX10_setFrom RX10 30 10 0 := ⟨RX10, TX10, 8, rfl, by decide, (fun w h9 => List.mem_cons_of_mem _ (wC_wsX100 w h9)), (List.mem_cons_of_mem _ wT_15_3)⟩
theorem gX10_setFrom_X10_firstMinute : GoodIn vX10_setFrom (wsV RX10 37 RX10 yX10_firstMinute vX10_firstMinute) := gV_of wT_20_2 wT_20_3 wT_20_4 wT_3_9 wT_20_5
theorem cd10_setFrom : Cd yX10_setFrom 1 := ⟨by decide, by decide, by decide +kernel⟩
set_option maxHeartbeats 4000000 in
set_option maxRecDepth 100000 in
theorem T10_setFrom_2 (S : CallFix p m c cX10_setFrom 3 s args vX10_setFrom RX10) (hr : meth.sig.returnType = (some .int)) (hlo : meth.locks = false) {out : Int32 × PH} : ∀ (n : Nat) {h : PH} {a0 : Nat} {x1 : Int32} {x2 : Int32} (f : F10_setFrom_2  n h a0 x1 x2 = some out) {H : Heap} {locs : List Loc} (I : ph_I D cy b A fl h s H locs) {ls : Array Slot} (hl : lv_has ls 3 [(0, .ref (b + a0)), (1, .int x1), (2, .int x2)]), W p l e ({ frames := 1, cells := 0, slots := 0, locals := 21 } : Room) s m args below meth c H locs 0 0 (MQ below (va_Qi (fun (r : Int32) (u : PH) => (r, u) = out) (ph_B D cy b A fl) A) args s 0 0 A) (F0 m 2 ls []) := by
  intro n
  induction n with
  | zero => intro h a0 x1 x2 f; rw [F10_setFrom_2] at f; cases f
  | succ n ih =>
    intro h a0 x1 x2 f H locs I ls hl
    rw [F10_setFrom_2] at f
    refine lv_iload_n S.1 S.2.1 dX10_setFrom_2 rfl (lv_at hl 2 rfl) ?_
    refine lv_aload_n S.1 S.2.1 dX10_setFrom_3 rfl (lv_at hl 0 rfl) ?_
    obtain ⟨v1, e2, f⟩ := ob f
    refine o_gI S lf10_setFrom_30 I e2 dX10_setFrom_4 ?_
    refine lv_icmp_ge (tgt := 27) S.1 S.2.1 dX10_setFrom_7 (by decide) (fun q3 => ?_) (fun q3 => ?_)
    · have f := (if_pos q3).symm.trans f
      refine lv_iconst (v := (-1)) S.1 S.2.1 dX10_setFrom_27 (by decide) ?_
      exact o_iret S hr hlo I f dX10_setFrom_28
    · have f := (if_neg q3).symm.trans f
      refine lv_aload_n S.1 S.2.1 dX10_setFrom_10 rfl (lv_at hl 0 rfl) ?_
      refine lv_iload_n S.1 S.2.1 dX10_setFrom_11 rfl (lv_at hl 2 rfl) ?_
      obtain ⟨o4, e5, f⟩ := ob f
      refine o_Vi S (As := [.int x2]) (rest := []) (ci := 10) (M10_firstMinute l D cy b A fl e5) gX10_setFrom_X10_firstMinute rfl rfl rfl cd10_firstMinute ⟨Nat.le_of_ble_eq_true rfl, Nat.le_of_ble_eq_true rfl⟩ I (gd e5).1 clX10 rfl rfl hl.1 rfl (Nat.le_of_ble_eq_true rfl) dX10_setFrom_12 ⟨Nat.le_of_ble_eq_true rfl, Nat.le_of_ble_eq_true rfl⟩ (fun H locs I => ?_)
      refine lv_iload_n S.1 S.2.1 dX10_setFrom_15 rfl (lv_at hl 1 rfl) ?_
      refine lv_icmp_lt (tgt := 21) S.1 S.2.1 dX10_setFrom_16 (by decide) (fun q6 => ?_) (fun q6 => ?_)
      · have f := (if_pos q6).symm.trans f
        refine lv_iinc (v := (x2 + 1)) (lv' := [(2, .int (x2 + 1)), (0, .ref (b + a0)), (1, .int x1)]) S.1 S.2.1 dX10_setFrom_21 hl (k := 2) rfl (congrArg (fun z => x2 + z) (by decide)) (by decide) rfl (fun ls hl => ?_)
        refine lv_goto (tgt := 2) S.1 S.2.1 dX10_setFrom_24 (by decide) ?_
        exact ih f I (lv_sub hl [1, 2, 0] rfl)
      · have f := (if_neg q6).symm.trans f
        refine lv_iload_n S.1 S.2.1 dX10_setFrom_19 rfl (lv_at hl 2 rfl) ?_
        exact o_iret S hr hlo I f dX10_setFrom_20
set_option maxHeartbeats 4000000 in
set_option maxRecDepth 100000 in
theorem T10_setFrom_0 (S : CallFix p m c cX10_setFrom 3 s args vX10_setFrom RX10) (hr : meth.sig.returnType = (some .int)) (hlo : meth.locks = false) {out : Int32 × PH} {h : PH} {a0 : Nat} {x1 : Int32} (f : F10_setFrom_0  h a0 x1 = some out) {H : Heap} {locs : List Loc} (I : ph_I D cy b A fl h s H locs) {ls : Array Slot} (hl : lv_has ls 3 [(0, .ref (b + a0)), (1, .int x1)]) : W p l e ({ frames := 1, cells := 0, slots := 0, locals := 21 } : Room) s m args below meth c H locs 0 0 (MQ below (va_Qi (fun (r : Int32) (u : PH) => (r, u) = out) (ph_B D cy b A fl) A) args s 0 0 A) (F0 m 0 ls []) := by
  unfold F10_setFrom_0 at f
  refine lv_iconst (v := 0) S.1 S.2.1 dX10_setFrom_0 (by decide) ?_
  refine lv_istore_n (lv' := [(2, .int 0), (0, .ref (b + a0)), (1, .int x1)]) S.1 S.2.1 dX10_setFrom_1 rfl hl (by decide) rfl (fun ls hl => ?_)
  exact T10_setFrom_2 S hr hlo  1024 f I (lv_sub hl [1, 2, 0] rfl)
theorem M10_setFrom (l : Launch) (D : va_G) (cy : Nat → ClassId) (b : Nat) (A : Nat → Prop) (fl : Bool) {h : PH} {a0 : Nat} {x1 : Int32} {out : Int32 × PH} (f : F10_setFrom h a0 x1 = some out) : Met l yX10_setFrom vX10_setFrom ({ frames := 1, cells := 0, slots := 0, locals := 21 } : Room) (va_Pc [.ref (b + a0), .int x1] (ph_B D cy b A fl h)) (va_Qi (fun (r : Int32) (u : PH) => (r, u) = out) (ph_B D cy b A fl) A) 0 0 A :=
  o_met (by decide) rfl (Nat.le_of_ble_eq_true rfl) rfl (fun p e s m below meth c S hr hlo hnm ls hl I => T10_setFrom_0 S hr hlo ((gd f).2) I (lv_sub hl [0, 1] rfl))
def vX11_back : List Cond := .code yX11_back cX11_back 1 (some .int) :: TB
theorem lf11_back_377 : Fl vX11_back RX11 377 11 10 := ⟨RX11, TX11, 14, rfl, by decide, (fun w h9 => List.mem_cons_of_mem _ (wC_wsX110 w h9)), (List.mem_cons_of_mem _ wT_23_21)⟩
theorem lf11_back_47 : Fl vX11_back RX11 47 11 7 := ⟨RX11, TX11, 14, rfl, by decide, (fun w h9 => List.mem_cons_of_mem _ (wC_wsX110 w h9)), (List.mem_cons_of_mem _ wT_2_8)⟩
theorem lf11_back_54 : Fl vX11_back RX11 54 11 9 := ⟨RX11, TX11, 14, rfl, by decide, (fun w h9 => List.mem_cons_of_mem _ (wC_wsX110 w h9)), (List.mem_cons_of_mem _ wT_2_10)⟩
theorem gX11_back_X4_takeAll : GoodIn vX11_back (wsV RX11 373 RX4 yX4_takeAll vX4_takeAll) := gV_of wT_66_20 wT_57_15 wT_57_16 wT_2_7 wT_57_17
theorem lf11_back_67 : Fl vX11_back RX11 67 11 12 := ⟨RX11, TX11, 14, rfl, by decide, (fun w h9 => List.mem_cons_of_mem _ (wC_wsX110 w h9)), (List.mem_cons_of_mem _ wT_2_18)⟩
theorem lp11_back_368 : Pl vX11_back RX11 368 9 0 .int := ⟨RX9, TX9, 3, tyX9, rfl, by decide, (fun w h9 => List.mem_cons_of_mem _ (wC_wsX90 w h9)), (List.mem_cons_of_mem _ wT_23_20), tyX9_ok, nmX9, rfl, rfl⟩
theorem lf11_back_186 : Fl vX11_back RX11 186 4 0 := ⟨RX4, TX4, 11, rfl, by decide, (fun w h9 => List.mem_cons_of_mem _ (wC_wsX40 w h9)), (List.mem_cons_of_mem _ wT_34_1)⟩
theorem cd11_back : Cd yX11_back 0 := ⟨by decide, by decide, by decide +kernel⟩
set_option maxHeartbeats 4000000 in
set_option maxRecDepth 100000 in
theorem T11_back_0 (S : CallFix p m c cX11_back 1 s args vX11_back RX11) (hr : meth.sig.returnType = (some .int)) (hlo : meth.locks = false) {out : Int32 × PH} {h : PH} {a0 : Nat} (f : F11_back_0  h a0 = some out) {H : Heap} {locs : List Loc} (I : ph_I D cy b A false h s H locs) {ls : Array Slot} (hl : lv_has ls 1 [(0, .ref (b + a0))]) : W p l e ({ frames := 2, cells := 0, slots := 0, locals := 61 } : Room) s m args below meth c H locs 0 0 (MQ below (va_Qi (fun (r : Int32) (u : PH) => (r, u) = out) (ph_B D cy b A false) A) args s 0 0 A) (F0 m 0 ls []) := by
  unfold F11_back_0 at f
  refine lv_aload_n S.1 S.2.1 dX11_back_0 rfl (lv_at hl 0 rfl) ?_
  obtain ⟨v1, e2, f⟩ := ob f
  refine o_gI S lf11_back_377 I e2 dX11_back_1 ?_
  refine lv_if_ne (tgt := 9) S.1 S.2.1 dX11_back_4 (by decide) (fun q3 => ?_) (fun q3 => ?_)
  · have f := (if_neg q3).symm.trans f
    refine lv_aload_n S.1 S.2.1 dX11_back_9 rfl (lv_at hl 0 rfl) ?_
    obtain ⟨r4, e5, f⟩ := ob f
    refine o_gR S lf11_back_47 I e5 dX11_back_10 ?_
    refine lv_aload_n S.1 S.2.1 dX11_back_13 rfl (lv_at hl 0 rfl) ?_
    obtain ⟨r6, e7, f⟩ := ob f
    refine o_gR S lf11_back_54 I e7 dX11_back_14 ?_
    obtain ⟨o8, e9, f⟩ := ob f
    refine o_Vv S (As := [.ref (b + r6)]) (rest := []) (ci := 4) (M4_takeAll l D cy b A e9) gX11_back_X4_takeAll rfl rfl rfl cd4_takeAll ⟨Nat.le_of_ble_eq_true rfl, Nat.le_of_ble_eq_true rfl⟩ I (gd e9).1 clX4 rfl rfl hl.1 rfl (Nat.le_of_ble_eq_true rfl) dX11_back_17 ⟨Nat.le_of_ble_eq_true rfl, Nat.le_of_ble_eq_true rfl⟩ (fun H locs I => ?_)
    refine lv_aload_n S.1 S.2.1 dX11_back_20 rfl (lv_at hl 0 rfl) ?_
    obtain ⟨r10, e11, f⟩ := ob f
    refine o_gR S lf11_back_67 I e11 dX11_back_21 ?_
    refine lv_iconst (v := 0) S.1 S.2.1 dX11_back_24 (by decide) ?_
    obtain ⟨h12, e13, f⟩ := ob f
    refine o_pI S lp11_back_368 I e13 dX11_back_25 (fun H locs I => ?_)
    refine lv_aload_n S.1 S.2.1 dX11_back_28 rfl (lv_at hl 0 rfl) ?_
    obtain ⟨r14, e15, f⟩ := ob f
    refine o_gR S lf11_back_47 I e15 dX11_back_29 ?_
    obtain ⟨v16, e17, f⟩ := ob f
    refine o_gI S lf11_back_186 I e17 dX11_back_32 ?_
    exact o_iret S hr hlo I f dX11_back_35
  · have f := (if_pos q3).symm.trans f
    refine lv_iconst (v := (-1)) S.1 S.2.1 dX11_back_7 (by decide) ?_
    exact o_iret S hr hlo I f dX11_back_8
theorem M11_back (l : Launch) (D : va_G) (cy : Nat → ClassId) (b : Nat) (A : Nat → Prop) {h : PH} {a0 : Nat} {out : Int32 × PH} (f : F11_back h a0 = some out) : Met l yX11_back vX11_back ({ frames := 2, cells := 0, slots := 0, locals := 61 } : Room) (va_Pc [.ref (b + a0)] (ph_B D cy b A false h)) (va_Qi (fun (r : Int32) (u : PH) => (r, u) = out) (ph_B D cy b A false) A) 0 0 A :=
  o_met (by decide) rfl (Nat.le_of_ble_eq_true rfl) rfl (fun p e s m below meth c S hr hlo hnm ls hl I => T11_back_0 S hr hlo ((gd f).2) I (lv_sub hl [0] rfl))
def vX11_beginAnew : List Cond := .code yX11_beginAnew cX11_beginAnew 1 none :: TB
theorem lf11_beginAnew_37 : Fl vX11_beginAnew RX11 37 11 5 := ⟨RX11, TX11, 14, rfl, by decide, (fun w h9 => List.mem_cons_of_mem _ (wC_wsX110 w h9)), (List.mem_cons_of_mem _ wT_2_3)⟩
theorem lf11_beginAnew_18 : Fl vX11_beginAnew RX11 18 11 3 := ⟨RX11, TX11, 14, rfl, by decide, (fun w h9 => List.mem_cons_of_mem _ (wC_wsX110 w h9)), (List.mem_cons_of_mem _ wT_1_18)⟩
theorem gX11_beginAnew_X6_takeAsTold : GoodIn vX11_beginAnew (wsV RX11 393 RX6 yX6_takeAsTold vX6_takeAsTold) := gV_of wT_23_22 wT_23_23 wT_24_0 wT_2_2 wT_24_1
theorem lf11_beginAnew_47 : Fl vX11_beginAnew RX11 47 11 7 := ⟨RX11, TX11, 14, rfl, by decide, (fun w h9 => List.mem_cons_of_mem _ (wC_wsX110 w h9)), (List.mem_cons_of_mem _ wT_2_8)⟩
theorem gX11_beginAnew_X4_begin : GoodIn vX11_beginAnew (wsV RX11 396 RX4 yX4_begin vX4_begin) := gV_of wT_26_0 wT_26_1 wT_26_2 wT_2_7 wT_26_3
theorem lf11_beginAnew_60 : Fl vX11_beginAnew RX11 60 11 11 := ⟨RX11, TX11, 14, rfl, by decide, (fun w h9 => List.mem_cons_of_mem _ (wC_wsX110 w h9)), (List.mem_cons_of_mem _ wT_2_14)⟩
theorem lp11_beginAnew_323 : Pl vX11_beginAnew RX11 323 3 0 .int := ⟨RX3, TX3, 7, tyX3, rfl, by decide, (fun w h9 => List.mem_cons_of_mem _ (wC_wsX30 w h9)), (List.mem_cons_of_mem _ wT_23_18), tyX3_ok, nmX3, rfl, rfl⟩
theorem lp11_beginAnew_327 : Pl vX11_beginAnew RX11 327 3 1 .int := ⟨RX3, TX3, 7, tyX3, rfl, by decide, (fun w h9 => List.mem_cons_of_mem _ (wC_wsX30 w h9)), (List.mem_cons_of_mem _ wT_23_19), tyX3_ok, nmX3, rfl, rfl⟩
theorem lf11_beginAnew_67 : Fl vX11_beginAnew RX11 67 11 12 := ⟨RX11, TX11, 14, rfl, by decide, (fun w h9 => List.mem_cons_of_mem _ (wC_wsX110 w h9)), (List.mem_cons_of_mem _ wT_2_18)⟩
theorem lp11_beginAnew_368 : Pl vX11_beginAnew RX11 368 9 0 .int := ⟨RX9, TX9, 3, tyX9, rfl, by decide, (fun w h9 => List.mem_cons_of_mem _ (wC_wsX90 w h9)), (List.mem_cons_of_mem _ wT_23_20), tyX9_ok, nmX9, rfl, rfl⟩
theorem lp11_beginAnew_377 : Pl vX11_beginAnew RX11 377 11 10 .boolean := ⟨RX11, TX11, 14, tyX11, rfl, by decide, (fun w h9 => List.mem_cons_of_mem _ (wC_wsX110 w h9)), (List.mem_cons_of_mem _ wT_23_21), tyX11_ok, nmX11, rfl, rfl⟩
theorem cd11_beginAnew : Cd yX11_beginAnew 0 := ⟨by decide, by decide, by decide +kernel⟩
set_option maxHeartbeats 4000000 in
set_option maxRecDepth 100000 in
theorem T11_beginAnew_0 (S : CallFix p m c cX11_beginAnew 1 s args vX11_beginAnew RX11) (hr : meth.sig.returnType = none) (hlo : meth.locks = false) {out : PH} {h : PH} {a0 : Nat} (f : F11_beginAnew_0  h a0 = some out) {H : Heap} {locs : List Loc} (I : ph_I D cy b A false h s H locs) {ls : Array Slot} (hl : lv_has ls 1 [(0, .ref (b + a0))]) : W p l e ({ frames := 6, cells := 0, slots := 0, locals := 147 } : Room) s m args below meth c H locs 0 0 (MQ below (va_Qv (fun (u : PH) => u = out) (ph_B D cy b A false) A) args s 0 0 A) (F0 m 0 ls []) := by
  unfold F11_beginAnew_0 at f
  refine lv_aload_n S.1 S.2.1 dX11_beginAnew_0 rfl (lv_at hl 0 rfl) ?_
  obtain ⟨r1, e2, f⟩ := ob f
  refine o_gR S lf11_beginAnew_37 I e2 dX11_beginAnew_1 ?_
  refine lv_aload_n S.1 S.2.1 dX11_beginAnew_4 rfl (lv_at hl 0 rfl) ?_
  obtain ⟨r3, e4, f⟩ := ob f
  refine o_gR S lf11_beginAnew_18 I e4 dX11_beginAnew_5 ?_
  obtain ⟨o5, e6, f⟩ := ob f
  refine o_Vv S (As := [.ref (b + r3)]) (rest := []) (ci := 6) (M6_takeAsTold l D cy b A e6) gX11_beginAnew_X6_takeAsTold rfl rfl rfl cd6_takeAsTold ⟨Nat.le_of_ble_eq_true rfl, Nat.le_of_ble_eq_true rfl⟩ I (gd e6).1 clX6 rfl rfl hl.1 rfl (Nat.le_of_ble_eq_true rfl) dX11_beginAnew_8 ⟨Nat.le_of_ble_eq_true rfl, Nat.le_of_ble_eq_true rfl⟩ (fun H locs I => ?_)
  refine lv_aload_n S.1 S.2.1 dX11_beginAnew_11 rfl (lv_at hl 0 rfl) ?_
  obtain ⟨r7, e8, f⟩ := ob f
  refine o_gR S lf11_beginAnew_47 I e8 dX11_beginAnew_12 ?_
  refine lv_aload_n S.1 S.2.1 dX11_beginAnew_15 rfl (lv_at hl 0 rfl) ?_
  obtain ⟨r9, e10, f⟩ := ob f
  refine o_gR S lf11_beginAnew_18 I e10 dX11_beginAnew_16 ?_
  obtain ⟨o11, e12, f⟩ := ob f
  refine o_Vv S (As := [.ref (b + r9)]) (rest := []) (ci := 4) (M4_begin l D cy b A false e12) gX11_beginAnew_X4_begin rfl rfl rfl cd4_begin ⟨Nat.le_of_ble_eq_true rfl, Nat.le_of_ble_eq_true rfl⟩ I (gd e12).1 clX4 rfl rfl hl.1 rfl (Nat.le_of_ble_eq_true rfl) dX11_beginAnew_19 ⟨Nat.le_of_ble_eq_true rfl, Nat.le_of_ble_eq_true rfl⟩ (fun H locs I => ?_)
  refine lv_aload_n S.1 S.2.1 dX11_beginAnew_22 rfl (lv_at hl 0 rfl) ?_
  obtain ⟨r13, e14, f⟩ := ob f
  refine o_gR S lf11_beginAnew_60 I e14 dX11_beginAnew_23 ?_
  refine lv_iconst (v := 0) S.1 S.2.1 dX11_beginAnew_26 (by decide) ?_
  obtain ⟨h15, e16, f⟩ := ob f
  refine o_pI S lp11_beginAnew_323 I e16 dX11_beginAnew_27 (fun H locs I => ?_)
  refine lv_aload_n S.1 S.2.1 dX11_beginAnew_30 rfl (lv_at hl 0 rfl) ?_
  obtain ⟨r17, e18, f⟩ := ob f
  refine o_gR S lf11_beginAnew_60 I e18 dX11_beginAnew_31 ?_
  refine lv_iconst (v := (-1)) S.1 S.2.1 dX11_beginAnew_34 (by decide) ?_
  obtain ⟨h19, e20, f⟩ := ob f
  refine o_pI S lp11_beginAnew_327 I e20 dX11_beginAnew_35 (fun H locs I => ?_)
  refine lv_aload_n S.1 S.2.1 dX11_beginAnew_38 rfl (lv_at hl 0 rfl) ?_
  obtain ⟨r21, e22, f⟩ := ob f
  refine o_gR S lf11_beginAnew_67 I e22 dX11_beginAnew_39 ?_
  refine lv_iconst (v := 0) S.1 S.2.1 dX11_beginAnew_42 (by decide) ?_
  obtain ⟨h23, e24, f⟩ := ob f
  refine o_pI S lp11_beginAnew_368 I e24 dX11_beginAnew_43 (fun H locs I => ?_)
  refine lv_aload_n S.1 S.2.1 dX11_beginAnew_46 rfl (lv_at hl 0 rfl) ?_
  refine lv_iconst (v := 0) S.1 S.2.1 dX11_beginAnew_47 (by decide) ?_
  obtain ⟨h25, e26, f⟩ := ob f
  refine o_pZ S lp11_beginAnew_377 I e26 dX11_beginAnew_48 (fun H locs I => ?_)
  exact o_vret S hr hlo I f dX11_beginAnew_51
theorem M11_beginAnew (l : Launch) (D : va_G) (cy : Nat → ClassId) (b : Nat) (A : Nat → Prop) {h : PH} {a0 : Nat} {out : PH} (f : F11_beginAnew h a0 = some out) : Met l yX11_beginAnew vX11_beginAnew ({ frames := 6, cells := 0, slots := 0, locals := 147 } : Room) (va_Pc [.ref (b + a0)] (ph_B D cy b A false h)) (va_Qv (fun (u : PH) => u = out) (ph_B D cy b A false) A) 0 0 A :=
  o_met (by decide) rfl (Nat.le_of_ble_eq_true rfl) rfl (fun p e s m below meth c S hr hlo hnm ls hl I => T11_beginAnew_0 S hr hlo ((gd f).2) I (lv_sub hl [0] rfl))
def vX11_isSurfer : List Cond := .code yX11_isSurfer cX11_isSurfer 2 (some .boolean) :: TB
theorem lf11_isSurfer_18 : Fl vX11_isSurfer RX11 18 11 3 := ⟨RX11, TX11, 14, rfl, by decide, (fun w h9 => List.mem_cons_of_mem _ (wC_wsX110 w h9)), (List.mem_cons_of_mem _ wT_1_18)⟩
theorem lf11_isSurfer_102 : Fl vX11_isSurfer RX11 102 8 4 := ⟨RX8, TX8, 14, rfl, by decide, (fun w h9 => List.mem_cons_of_mem _ (wC_wsX80 w h9)), (List.mem_cons_of_mem _ wT_32_14)⟩
theorem lf11_isSurfer_106 : Fl vX11_isSurfer RX11 106 1 0 := ⟨RX1, TX1, 7, rfl, by decide, (fun w h9 => List.mem_cons_of_mem _ (wC_wsX10 w h9)), (List.mem_cons_of_mem _ wT_32_15)⟩
theorem cd11_isSurfer : Cd yX11_isSurfer 1 := ⟨by decide, by decide, by decide +kernel⟩
set_option maxHeartbeats 4000000 in
set_option maxRecDepth 100000 in
theorem T11_isSurfer_0 (S : CallFix p m c cX11_isSurfer 2 s args vX11_isSurfer RX11) (hr : meth.sig.returnType = (some .boolean)) (hlo : meth.locks = false) {out : Int32 × PH} {h : PH} {a0 : Nat} {x1 : Int32} (f : F11_isSurfer_0  h a0 x1 = some out) {H : Heap} {locs : List Loc} (I : ph_I D cy b A fl h s H locs) {ls : Array Slot} (hl : lv_has ls 2 [(0, .ref (b + a0)), (1, .int x1)]) : W p l e ({ frames := 0, cells := 0, slots := 0, locals := 0 } : Room) s m args below meth c H locs 0 0 (MQ below (va_Qi (fun (r : Int32) (u : PH) => (r, u) = out) (ph_B D cy b A fl) A) args s 0 0 A) (F0 m 0 ls []) := by
  unfold F11_isSurfer_0 at f
  refine lv_iload_n S.1 S.2.1 dX11_isSurfer_0 rfl (lv_at hl 1 rfl) ?_
  refine lv_if_lt (tgt := 22) S.1 S.2.1 dX11_isSurfer_1 (by decide) (fun q1 => ?_) (fun q1 => ?_)
  · have f := (if_pos q1).symm.trans f
    refine lv_iconst (v := 0) S.1 S.2.1 dX11_isSurfer_22 (by decide) ?_
    exact o_zret S hr hlo I f dX11_isSurfer_23
  · have f := (if_neg q1).symm.trans f
    refine lv_iload_n S.1 S.2.1 dX11_isSurfer_4 rfl (lv_at hl 1 rfl) ?_
    refine lv_aload_n S.1 S.2.1 dX11_isSurfer_5 rfl (lv_at hl 0 rfl) ?_
    obtain ⟨r2, e3, f⟩ := ob f
    refine o_gR S lf11_isSurfer_18 I e3 dX11_isSurfer_6 ?_
    obtain ⟨r4, e5, f⟩ := ob f
    refine o_gR S lf11_isSurfer_102 I e5 dX11_isSurfer_9 ?_
    obtain ⟨v6, e7, f⟩ := ob f
    refine o_gI S lf11_isSurfer_106 I e7 dX11_isSurfer_12 ?_
    refine lv_icmp_ge (tgt := 22) S.1 S.2.1 dX11_isSurfer_15 (by decide) (fun q8 => ?_) (fun q8 => ?_)
    · have f := (if_pos q8).symm.trans f
      refine lv_iconst (v := 0) S.1 S.2.1 dX11_isSurfer_22 (by decide) ?_
      exact o_zret S hr hlo I f dX11_isSurfer_23
    · have f := (if_neg q8).symm.trans f
      refine lv_iconst (v := 1) S.1 S.2.1 dX11_isSurfer_18 (by decide) ?_
      refine lv_goto (tgt := 23) S.1 S.2.1 dX11_isSurfer_19 (by decide) ?_
      exact o_zret S hr hlo I f dX11_isSurfer_23
theorem M11_isSurfer (l : Launch) (D : va_G) (cy : Nat → ClassId) (b : Nat) (A : Nat → Prop) (fl : Bool) {h : PH} {a0 : Nat} {x1 : Int32} {out : Int32 × PH} (f : F11_isSurfer h a0 x1 = some out) : Met l yX11_isSurfer vX11_isSurfer ({ frames := 0, cells := 0, slots := 0, locals := 0 } : Room) (va_Pc [.ref (b + a0), .int x1] (ph_B D cy b A fl h)) (va_Qi (fun (r : Int32) (u : PH) => (r, u) = out) (ph_B D cy b A fl) A) 0 0 A :=
  o_met (by decide) rfl (Nat.le_of_ble_eq_true rfl) rfl (fun p e s m below meth c S hr hlo hnm ls hl I => T11_isSurfer_0 S hr hlo ((gd f).2) I (lv_sub hl [0, 1] rfl))
def vX11_firstToCome : List Cond := .code yX11_firstToCome cX11_firstToCome 1 (some .int) :: TB
theorem lf11_firstToCome_18 : Fl vX11_firstToCome RX11 18 11 3 := ⟨RX11, TX11, 14, rfl, by decide, (fun w h9 => List.mem_cons_of_mem _ (wC_wsX110 w h9)), (List.mem_cons_of_mem _ wT_1_18)⟩
theorem lf11_firstToCome_150 : Fl vX11_firstToCome RX11 150 8 5 := ⟨RX8, TX8, 14, rfl, by decide, (fun w h9 => List.mem_cons_of_mem _ (wC_wsX80 w h9)), (List.mem_cons_of_mem _ wT_36_16)⟩
theorem lf11_firstToCome_47 : Fl vX11_firstToCome RX11 47 11 7 := ⟨RX11, TX11, 14, rfl, by decide, (fun w h9 => List.mem_cons_of_mem _ (wC_wsX110 w h9)), (List.mem_cons_of_mem _ wT_2_8)⟩
theorem lf11_firstToCome_186 : Fl vX11_firstToCome RX11 186 4 0 := ⟨RX4, TX4, 11, rfl, by decide, (fun w h9 => List.mem_cons_of_mem _ (wC_wsX40 w h9)), (List.mem_cons_of_mem _ wT_34_1)⟩
theorem gX11_firstToCome_X10_firstFrom : GoodIn vX11_firstToCome (wsV RX11 387 RX10 yX10_firstFrom vX10_firstFrom) := gV_of wT_43_16 wT_43_17 wT_43_18 wT_3_9 wT_43_19
theorem cd11_firstToCome : Cd yX11_firstToCome 0 := ⟨by decide, by decide, by decide +kernel⟩
set_option maxHeartbeats 4000000 in
set_option maxRecDepth 100000 in
theorem T11_firstToCome_0 (S : CallFix p m c cX11_firstToCome 1 s args vX11_firstToCome RX11) (hr : meth.sig.returnType = (some .int)) (hlo : meth.locks = false) {out : Int32 × PH} {h : PH} {a0 : Nat} (f : F11_firstToCome_0  h a0 = some out) {H : Heap} {locs : List Loc} (I : ph_I D cy b A fl h s H locs) {ls : Array Slot} (hl : lv_has ls 1 [(0, .ref (b + a0))]) : W p l e ({ frames := 1, cells := 0, slots := 0, locals := 22 } : Room) s m args below meth c H locs 0 0 (MQ below (va_Qi (fun (r : Int32) (u : PH) => (r, u) = out) (ph_B D cy b A fl) A) args s 0 0 A) (F0 m 0 ls []) := by
  unfold F11_firstToCome_0 at f
  refine lv_aload_n S.1 S.2.1 dX11_firstToCome_0 rfl (lv_at hl 0 rfl) ?_
  obtain ⟨r1, e2, f⟩ := ob f
  refine o_gR S lf11_firstToCome_18 I e2 dX11_firstToCome_1 ?_
  obtain ⟨r3, e4, f⟩ := ob f
  refine o_gR S lf11_firstToCome_150 I e4 dX11_firstToCome_4 ?_
  refine lv_aload_n S.1 S.2.1 dX11_firstToCome_7 rfl (lv_at hl 0 rfl) ?_
  obtain ⟨r5, e6, f⟩ := ob f
  refine o_gR S lf11_firstToCome_47 I e6 dX11_firstToCome_8 ?_
  obtain ⟨v7, e8, f⟩ := ob f
  refine o_gI S lf11_firstToCome_186 I e8 dX11_firstToCome_11 ?_
  obtain ⟨o9, e10, f⟩ := ob f
  refine o_Vi S (As := [.int v7]) (rest := []) (ci := 10) (M10_firstFrom l D cy b A fl e10) gX11_firstToCome_X10_firstFrom rfl rfl rfl cd10_firstFrom ⟨Nat.le_of_ble_eq_true rfl, Nat.le_of_ble_eq_true rfl⟩ I (gd e10).1 clX10 rfl rfl hl.1 rfl (Nat.le_of_ble_eq_true rfl) dX11_firstToCome_14 ⟨Nat.le_of_ble_eq_true rfl, Nat.le_of_ble_eq_true rfl⟩ (fun H locs I => ?_)
  exact o_iret S hr hlo I f dX11_firstToCome_17
theorem M11_firstToCome (l : Launch) (D : va_G) (cy : Nat → ClassId) (b : Nat) (A : Nat → Prop) (fl : Bool) {h : PH} {a0 : Nat} {out : Int32 × PH} (f : F11_firstToCome h a0 = some out) : Met l yX11_firstToCome vX11_firstToCome ({ frames := 1, cells := 0, slots := 0, locals := 22 } : Room) (va_Pc [.ref (b + a0)] (ph_B D cy b A fl h)) (va_Qi (fun (r : Int32) (u : PH) => (r, u) = out) (ph_B D cy b A fl) A) 0 0 A :=
  o_met (by decide) rfl (Nat.le_of_ble_eq_true rfl) rfl (fun p e s m below meth c S hr hlo hnm ls hl I => T11_firstToCome_0 S hr hlo ((gd f).2) I (lv_sub hl [0] rfl))
def vX11_best : List Cond := .code yX11_best cX11_best 6 (some .int) :: TB
theorem lf11_best_18 : Fl vX11_best RX11 18 11 3 := ⟨RX11, TX11, 14, rfl, by decide, (fun w h9 => List.mem_cons_of_mem _ (wC_wsX110 w h9)), (List.mem_cons_of_mem _ wT_1_18)⟩
theorem gX11_best_X8_cells : GoodIn vX11_best (wsV RX11 240 RX8 yX8_cells vX8_cells) := gV_of wT_38_5 wT_38_6 wT_38_7 wT_1_17 wT_38_8
theorem lf11_best_37 : Fl vX11_best RX11 37 11 5 := ⟨RX11, TX11, 14, rfl, by decide, (fun w h9 => List.mem_cons_of_mem _ (wC_wsX110 w h9)), (List.mem_cons_of_mem _ wT_2_3)⟩
theorem gX11_best_X11_firstToCome : GoodIn vX11_best (wsV RX11 233 RX11 yX11_firstToCome vX11_firstToCome) := gV_of wT_49_9 wT_49_10 wT_49_11 wT_1_2 wT_49_12
theorem gX11_best_X6_seatFrom : GoodIn vX11_best (wsV RX11 237 RX6 yX6_seatFrom vX6_seatFrom) := gV_of wT_49_13 wT_49_14 wT_49_15 wT_2_2 wT_49_16
theorem gX11_best_X11_isSurfer : GoodIn vX11_best (wsV RX11 115 RX11 yX11_isSurfer vX11_isSurfer) := gV_of wT_33_17 wT_33_18 wT_33_19 wT_1_2 wT_33_20
theorem cd11_best : Cd yX11_best 1 := ⟨by decide, by decide, by decide +kernel⟩
set_option maxHeartbeats 4000000 in
set_option maxRecDepth 100000 in
theorem T11_best_17 (S : CallFix p m c cX11_best 6 s args vX11_best RX11) (hr : meth.sig.returnType = (some .int)) (hlo : meth.locks = false) {out : Int32 × PH} : ∀ (n : Nat) {h : PH} {a0 : Nat} {x1 : Int32} {x2 : Int32} {x3 : Int32} {x4 : Int32} (f : F11_best_17  n h a0 x1 x2 x3 x4 = some out) {H : Heap} {locs : List Loc} (I : ph_I D cy b A fl h s H locs) {ls : Array Slot} (hl : lv_has ls 6 [(0, .ref (b + a0)), (1, .int x1), (2, .int x2), (3, .int x3), (4, .int x4)]), W p l e ({ frames := 6, cells := 0, slots := 0, locals := 151 } : Room) s m args below meth c H locs 0 0 (MQ below (va_Qi (fun (r : Int32) (u : PH) => (r, u) = out) (ph_B D cy b A fl) A) args s 0 0 A) (F0 m 17 ls []) := by
  intro n
  induction n with
  | zero => intro h a0 x1 x2 x3 x4 f; rw [F11_best_17] at f; cases f
  | succ n ih =>
    intro h a0 x1 x2 x3 x4 f H locs I ls hl
    rw [F11_best_17] at f
    refine lv_iload S.1 S.2.1 dX11_best_17 (lv_at hl 4 rfl) ?_
    refine lv_aload_n S.1 S.2.1 dX11_best_19 rfl (lv_at hl 0 rfl) ?_
    obtain ⟨r1, e2, f⟩ := ob f
    refine o_gR S lf11_best_18 I e2 dX11_best_20 ?_
    obtain ⟨o3, e4, f⟩ := ob f
    refine o_Vi S (As := []) (rest := [.int x4]) (ci := 8) (M8_cells l D cy b A fl e4) gX11_best_X8_cells rfl rfl rfl cd8_cells ⟨Nat.le_of_ble_eq_true rfl, Nat.le_of_ble_eq_true rfl⟩ I (gd e4).1 clX8 rfl rfl hl.1 rfl (Nat.le_of_ble_eq_true rfl) dX11_best_23 ⟨Nat.le_of_ble_eq_true rfl, Nat.le_of_ble_eq_true rfl⟩ (fun H locs I => ?_)
    refine lv_icmp_ge (tgt := 63) S.1 S.2.1 dX11_best_26 (by decide) (fun q5 => ?_) (fun q5 => ?_)
    · have f := (if_pos q5).symm.trans f
      refine lv_iload_n S.1 S.2.1 dX11_best_63 rfl (lv_at hl 2 rfl) ?_
      exact o_iret S hr hlo I f dX11_best_64
    · have f := (if_neg q5).symm.trans f
      refine lv_aload_n S.1 S.2.1 dX11_best_29 rfl (lv_at hl 0 rfl) ?_
      obtain ⟨r6, e7, f⟩ := ob f
      refine o_gR S lf11_best_37 I e7 dX11_best_30 ?_
      refine lv_iload_n S.1 S.2.1 dX11_best_33 rfl (lv_at hl 1 rfl) ?_
      refine lv_iload S.1 S.2.1 dX11_best_34 (lv_at hl 4 rfl) ?_
      refine lv_aload_n S.1 S.2.1 dX11_best_36 rfl (lv_at hl 0 rfl) ?_
      obtain ⟨o8, e9, f⟩ := ob f
      refine o_Vi S (As := []) (rest := [.int x4, .int x1, .ref (b + r6)]) (ci := 11) (M11_firstToCome l D cy b A fl e9) gX11_best_X11_firstToCome rfl rfl rfl cd11_firstToCome ⟨Nat.le_of_ble_eq_true rfl, Nat.le_of_ble_eq_true rfl⟩ I (gd e9).1 clX11 rfl rfl hl.1 rfl (Nat.le_of_ble_eq_true rfl) dX11_best_37 ⟨Nat.le_of_ble_eq_true rfl, Nat.le_of_ble_eq_true rfl⟩ (fun H locs I => ?_)
      obtain ⟨o10, e11, f⟩ := ob f
      refine o_Vi S (As := [.int x1, .int x4, .int o8.1]) (rest := []) (ci := 6) (M6_seatFrom l D cy b A fl e11) gX11_best_X6_seatFrom rfl rfl rfl cd6_seatFrom ⟨Nat.le_of_ble_eq_true rfl, Nat.le_of_ble_eq_true rfl⟩ I (gd e11).1 clX6 rfl rfl hl.1 rfl (Nat.le_of_ble_eq_true rfl) dX11_best_40 ⟨Nat.le_of_ble_eq_true rfl, Nat.le_of_ble_eq_true rfl⟩ (fun H locs I => ?_)
      refine lv_istore (lv' := [(5, .int o10.1), (0, .ref (b + a0)), (1, .int x1), (2, .int x2), (3, .int x3), (4, .int x4)]) S.1 S.2.1 dX11_best_43 hl (by decide) rfl (fun ls hl => ?_)
      refine lv_iload S.1 S.2.1 dX11_best_45 (lv_at hl 0 rfl) ?_
      refine lv_iload_n S.1 S.2.1 dX11_best_47 rfl (lv_at hl 4 rfl) ?_
      refine lv_icmp_le (tgt := 57) S.1 S.2.1 dX11_best_48 (by decide) (fun q12 => ?_) (fun q12 => ?_)
      · have f := (if_pos q12).symm.trans f
        refine lv_iinc (v := (x4 + 1)) (lv' := [(4, .int (x4 + 1)), (5, .int o10.1), (0, .ref (b + a0)), (1, .int x1), (2, .int x2), (3, .int x3)]) S.1 S.2.1 dX11_best_57 hl (k := 5) rfl (congrArg (fun z => x4 + z) (by decide)) (by decide) rfl (fun ls hl => ?_)
        refine lv_goto (tgt := 17) S.1 S.2.1 dX11_best_60 (by decide) ?_
        exact ih f I (lv_sub hl [2, 3, 4, 5, 0] rfl)
      · have f := (if_neg q12).symm.trans f
        refine lv_iload S.1 S.2.1 dX11_best_51 (lv_at hl 0 rfl) ?_
        refine lv_istore_n (lv' := [(3, .int o10.1), (5, .int o10.1), (0, .ref (b + a0)), (1, .int x1), (2, .int x2), (4, .int x4)]) S.1 S.2.1 dX11_best_53 rfl hl (by decide) rfl (fun ls hl => ?_)
        refine lv_iload S.1 S.2.1 dX11_best_54 (lv_at hl 5 rfl) ?_
        refine lv_istore_n (lv' := [(2, .int x4), (3, .int o10.1), (5, .int o10.1), (0, .ref (b + a0)), (1, .int x1), (4, .int x4)]) S.1 S.2.1 dX11_best_56 rfl hl (by decide) rfl (fun ls hl => ?_)
        refine lv_iinc (v := (x4 + 1)) (lv' := [(4, .int (x4 + 1)), (2, .int x4), (3, .int o10.1), (5, .int o10.1), (0, .ref (b + a0)), (1, .int x1)]) S.1 S.2.1 dX11_best_57 hl (k := 5) rfl (congrArg (fun z => x4 + z) (by decide)) (by decide) rfl (fun ls hl => ?_)
        refine lv_goto (tgt := 17) S.1 S.2.1 dX11_best_60 (by decide) ?_
        exact ih f I (lv_sub hl [4, 5, 1, 2, 0] rfl)
set_option maxHeartbeats 4000000 in
set_option maxRecDepth 100000 in
theorem T11_best_0 (S : CallFix p m c cX11_best 6 s args vX11_best RX11) (hr : meth.sig.returnType = (some .int)) (hlo : meth.locks = false) {out : Int32 × PH} {h : PH} {a0 : Nat} {x1 : Int32} (f : F11_best_0  h a0 x1 = some out) {H : Heap} {locs : List Loc} (I : ph_I D cy b A fl h s H locs) {ls : Array Slot} (hl : lv_has ls 6 [(0, .ref (b + a0)), (1, .int x1)]) : W p l e ({ frames := 6, cells := 0, slots := 0, locals := 151 } : Room) s m args below meth c H locs 0 0 (MQ below (va_Qi (fun (r : Int32) (u : PH) => (r, u) = out) (ph_B D cy b A fl) A) args s 0 0 A) (F0 m 0 ls []) := by
  unfold F11_best_0 at f
  refine lv_aload_n S.1 S.2.1 dX11_best_0 rfl (lv_at hl 0 rfl) ?_
  refine lv_iload_n S.1 S.2.1 dX11_best_1 rfl (lv_at hl 1 rfl) ?_
  obtain ⟨o1, e2, f⟩ := ob f
  refine o_Vi S (As := [.int x1]) (rest := []) (ci := 11) (M11_isSurfer l D cy b A fl e2) gX11_best_X11_isSurfer rfl rfl rfl cd11_isSurfer ⟨Nat.le_of_ble_eq_true rfl, Nat.le_of_ble_eq_true rfl⟩ I (gd e2).1 clX11 rfl rfl hl.1 rfl (Nat.le_of_ble_eq_true rfl) dX11_best_2 ⟨Nat.le_of_ble_eq_true rfl, Nat.le_of_ble_eq_true rfl⟩ (fun H locs I => ?_)
  refine lv_if_ne (tgt := 10) S.1 S.2.1 dX11_best_5 (by decide) (fun q3 => ?_) (fun q3 => ?_)
  · have f := (if_neg q3).symm.trans f
    refine lv_iconst (v := 0) S.1 S.2.1 dX11_best_10 (by decide) ?_
    refine lv_istore_n (lv' := [(2, .int 0), (0, .ref (b + a0)), (1, .int x1)]) S.1 S.2.1 dX11_best_11 rfl hl (by decide) rfl (fun ls hl => ?_)
    refine lv_iconst (v := (-1)) S.1 S.2.1 dX11_best_12 (by decide) ?_
    refine lv_istore_n (lv' := [(3, .int (-1)), (2, .int 0), (0, .ref (b + a0)), (1, .int x1)]) S.1 S.2.1 dX11_best_13 rfl hl (by decide) rfl (fun ls hl => ?_)
    refine lv_iconst (v := 0) S.1 S.2.1 dX11_best_14 (by decide) ?_
    refine lv_istore (lv' := [(4, .int 0), (3, .int (-1)), (2, .int 0), (0, .ref (b + a0)), (1, .int x1)]) S.1 S.2.1 dX11_best_15 hl (by decide) rfl (fun ls hl => ?_)
    exact T11_best_17 S hr hlo  1024 f I (lv_sub hl [3, 4, 2, 1, 0] rfl)
  · have f := (if_pos q3).symm.trans f
    refine lv_iconst (v := (-1)) S.1 S.2.1 dX11_best_8 (by decide) ?_
    exact o_iret S hr hlo I f dX11_best_9
theorem M11_best (l : Launch) (D : va_G) (cy : Nat → ClassId) (b : Nat) (A : Nat → Prop) (fl : Bool) {h : PH} {a0 : Nat} {x1 : Int32} {out : Int32 × PH} (f : F11_best h a0 x1 = some out) : Met l yX11_best vX11_best ({ frames := 6, cells := 0, slots := 0, locals := 151 } : Room) (va_Pc [.ref (b + a0), .int x1] (ph_B D cy b A fl h)) (va_Qi (fun (r : Int32) (u : PH) => (r, u) = out) (ph_B D cy b A fl) A) 0 0 A :=
  o_met (by decide) rfl (Nat.le_of_ble_eq_true rfl) rfl (fun p e s m below meth c S hr hlo hnm ls hl I => T11_best_0 S hr hlo ((gd f).2) I (lv_sub hl [0, 1] rfl))
def vX11_runBy : List Cond := .code yX11_runBy cX11_runBy 4 none :: TB
theorem lf11_runBy_18 : Fl vX11_runBy RX11 18 11 3 := ⟨RX11, TX11, 14, rfl, by decide, (fun w h9 => List.mem_cons_of_mem _ (wC_wsX110 w h9)), (List.mem_cons_of_mem _ wT_1_18)⟩
theorem lf11_runBy_150 : Fl vX11_runBy RX11 150 8 5 := ⟨RX8, TX8, 14, rfl, by decide, (fun w h9 => List.mem_cons_of_mem _ (wC_wsX80 w h9)), (List.mem_cons_of_mem _ wT_36_16)⟩
theorem lf11_runBy_299 : Fl vX11_runBy RX11 299 10 1 := ⟨RX10, TX10, 8, rfl, by decide, (fun w h9 => List.mem_cons_of_mem _ (wC_wsX100 w h9)), (List.mem_cons_of_mem _ wT_37_2)⟩
theorem lf11_runBy_37 : Fl vX11_runBy RX11 37 11 5 := ⟨RX11, TX11, 14, rfl, by decide, (fun w h9 => List.mem_cons_of_mem _ (wC_wsX110 w h9)), (List.mem_cons_of_mem _ wT_2_3)⟩
theorem lf11_runBy_51 : Fl vX11_runBy RX11 51 11 8 := ⟨RX11, TX11, 14, rfl, by decide, (fun w h9 => List.mem_cons_of_mem _ (wC_wsX110 w h9)), (List.mem_cons_of_mem _ wT_2_9)⟩
theorem gX11_runBy_X6_bringWave : GoodIn vX11_runBy (wsV RX11 364 RX6 yX6_bringWave vX6_bringWave) := gV_of wT_43_20 wT_43_21 wT_43_22 wT_2_2 wT_43_23
theorem lf11_runBy_47 : Fl vX11_runBy RX11 47 11 7 := ⟨RX11, TX11, 14, rfl, by decide, (fun w h9 => List.mem_cons_of_mem _ (wC_wsX110 w h9)), (List.mem_cons_of_mem _ wT_2_8)⟩
theorem gX11_runBy_X4_takeForRun : GoodIn vX11_runBy (wsV RX11 353 RX4 yX4_takeForRun vX4_takeForRun) := gV_of wT_57_10 wT_57_11 wT_57_12 wT_2_7 wT_57_13
theorem gX11_runBy_X11_firstToCome : GoodIn vX11_runBy (wsV RX11 233 RX11 yX11_firstToCome vX11_firstToCome) := gV_of wT_49_9 wT_49_10 wT_49_11 wT_1_2 wT_49_12
theorem cd11_runBy : Cd yX11_runBy 2 := ⟨by decide, by decide, by decide +kernel⟩
set_option maxHeartbeats 4000000 in
set_option maxRecDepth 100000 in
theorem T11_runBy_18 (S : CallFix p m c cX11_runBy 4 s args vX11_runBy RX11) (hr : meth.sig.returnType = none) (hlo : meth.locks = false) {out : PH} : ∀ (n : Nat) {h : PH} {a0 : Nat} {x3 : Int32} (f : F11_runBy_18  n h a0 x3 = some out) {H : Heap} {locs : List Loc} (I : ph_I D cy b A false h s H locs) {ls : Array Slot} (hl : lv_has ls 4 [(0, .ref (b + a0)), (3, .int x3)]), W p l e ({ frames := 6, cells := 0, slots := 0, locals := 154 } : Room) s m args below meth c H locs 0 0 (MQ below (va_Qv (fun (u : PH) => u = out) (ph_B D cy b A false) A) args s 0 0 A) (F0 m 18 ls []) := by
  intro n
  induction n with
  | zero => intro h a0 x3 f; rw [F11_runBy_18] at f; cases f
  | succ n ih =>
    intro h a0 x3 f H locs I ls hl
    rw [F11_runBy_18] at f
    refine lv_iload_n S.1 S.2.1 dX11_runBy_18 rfl (lv_at hl 1 rfl) ?_
    refine lv_aload_n S.1 S.2.1 dX11_runBy_19 rfl (lv_at hl 0 rfl) ?_
    obtain ⟨r1, e2, f⟩ := ob f
    refine o_gR S lf11_runBy_18 I e2 dX11_runBy_20 ?_
    obtain ⟨r3, e4, f⟩ := ob f
    refine o_gR S lf11_runBy_150 I e4 dX11_runBy_23 ?_
    obtain ⟨v5, e6, f⟩ := ob f
    refine o_gI S lf11_runBy_299 I e6 dX11_runBy_26 ?_
    refine lv_icmp_ge (tgt := 50) S.1 S.2.1 dX11_runBy_29 (by decide) (fun q7 => ?_) (fun q7 => ?_)
    · have f := (if_pos q7).symm.trans f
      exact o_vret S hr hlo I f dX11_runBy_50
    · have f := (if_neg q7).symm.trans f
      refine lv_aload_n S.1 S.2.1 dX11_runBy_32 rfl (lv_at hl 0 rfl) ?_
      obtain ⟨r8, e9, f⟩ := ob f
      refine o_gR S lf11_runBy_37 I e9 dX11_runBy_33 ?_
      refine lv_aload_n S.1 S.2.1 dX11_runBy_36 rfl (lv_at hl 0 rfl) ?_
      obtain ⟨r10, e11, f⟩ := ob f
      refine o_gR S lf11_runBy_51 I e11 dX11_runBy_37 ?_
      refine lv_iload_n S.1 S.2.1 dX11_runBy_40 rfl (lv_at hl 1 rfl) ?_
      obtain ⟨o12, e13, f⟩ := ob f
      refine o_Vv S (As := [.ref (b + r10), .int x3]) (rest := []) (ci := 6) (M6_bringWave l D cy b A false e13) gX11_runBy_X6_bringWave rfl rfl rfl cd6_bringWave ⟨Nat.le_of_ble_eq_true rfl, Nat.le_of_ble_eq_true rfl⟩ I (gd e13).1 clX6 rfl rfl hl.1 rfl (Nat.le_of_ble_eq_true rfl) dX11_runBy_41 ⟨Nat.le_of_ble_eq_true rfl, Nat.le_of_ble_eq_true rfl⟩ (fun H locs I => ?_)
      refine lv_iinc (v := (x3 + 1)) (lv' := [(3, .int (x3 + 1)), (0, .ref (b + a0))]) S.1 S.2.1 dX11_runBy_44 hl (k := 1) rfl (congrArg (fun z => x3 + z) (by decide)) (by decide) rfl (fun ls hl => ?_)
      refine lv_goto (tgt := 18) S.1 S.2.1 dX11_runBy_47 (by decide) ?_
      exact ih f I (lv_sub hl [1, 0] rfl)
set_option maxHeartbeats 4000000 in
set_option maxRecDepth 100000 in
theorem T11_runBy_0 (S : CallFix p m c cX11_runBy 4 s args vX11_runBy RX11) (hr : meth.sig.returnType = none) (hlo : meth.locks = false) {out : PH} {h : PH} {a0 : Nat} {x1 : Int32} {x2 : Int32} (f : F11_runBy_0  h a0 x1 x2 = some out) {H : Heap} {locs : List Loc} (I : ph_I D cy b A false h s H locs) {ls : Array Slot} (hl : lv_has ls 4 [(0, .ref (b + a0)), (1, .int x1), (2, .int x2)]) : W p l e ({ frames := 6, cells := 0, slots := 0, locals := 154 } : Room) s m args below meth c H locs 0 0 (MQ below (va_Qv (fun (u : PH) => u = out) (ph_B D cy b A false) A) args s 0 0 A) (F0 m 0 ls []) := by
  unfold F11_runBy_0 at f
  refine lv_aload_n S.1 S.2.1 dX11_runBy_0 rfl (lv_at hl 0 rfl) ?_
  obtain ⟨r1, e2, f⟩ := ob f
  refine o_gR S lf11_runBy_51 I e2 dX11_runBy_1 ?_
  refine lv_aload_n S.1 S.2.1 dX11_runBy_4 rfl (lv_at hl 0 rfl) ?_
  obtain ⟨r3, e4, f⟩ := ob f
  refine o_gR S lf11_runBy_47 I e4 dX11_runBy_5 ?_
  refine lv_iload_n S.1 S.2.1 dX11_runBy_8 rfl (lv_at hl 1 rfl) ?_
  refine lv_iload_n S.1 S.2.1 dX11_runBy_9 rfl (lv_at hl 2 rfl) ?_
  obtain ⟨o5, e6, f⟩ := ob f
  refine o_Vv S (As := [.ref (b + r3), .int x1, .int x2]) (rest := []) (ci := 4) (M4_takeForRun l D cy b A e6) gX11_runBy_X4_takeForRun rfl rfl rfl cd4_takeForRun ⟨Nat.le_of_ble_eq_true rfl, Nat.le_of_ble_eq_true rfl⟩ I (gd e6).1 clX4 rfl rfl hl.1 rfl (Nat.le_of_ble_eq_true rfl) dX11_runBy_10 ⟨Nat.le_of_ble_eq_true rfl, Nat.le_of_ble_eq_true rfl⟩ (fun H locs I => ?_)
  refine lv_aload_n S.1 S.2.1 dX11_runBy_13 rfl (lv_at hl 0 rfl) ?_
  obtain ⟨o7, e8, f⟩ := ob f
  refine o_Vi S (As := []) (rest := []) (ci := 11) (M11_firstToCome l D cy b A false e8) gX11_runBy_X11_firstToCome rfl rfl rfl cd11_firstToCome ⟨Nat.le_of_ble_eq_true rfl, Nat.le_of_ble_eq_true rfl⟩ I (gd e8).1 clX11 rfl rfl hl.1 rfl (Nat.le_of_ble_eq_true rfl) dX11_runBy_14 ⟨Nat.le_of_ble_eq_true rfl, Nat.le_of_ble_eq_true rfl⟩ (fun H locs I => ?_)
  refine lv_istore_n (lv' := [(3, .int o7.1), (0, .ref (b + a0)), (1, .int x1), (2, .int x2)]) S.1 S.2.1 dX11_runBy_17 rfl hl (by decide) rfl (fun ls hl => ?_)
  exact T11_runBy_18 S hr hlo  1024 f I (lv_sub hl [1, 0] rfl)
theorem M11_runBy (l : Launch) (D : va_G) (cy : Nat → ClassId) (b : Nat) (A : Nat → Prop) {h : PH} {a0 : Nat} {x1 : Int32} {x2 : Int32} {out : PH} (f : F11_runBy h a0 x1 x2 = some out) : Met l yX11_runBy vX11_runBy ({ frames := 6, cells := 0, slots := 0, locals := 154 } : Room) (va_Pc [.ref (b + a0), .int x1, .int x2] (ph_B D cy b A false h)) (va_Qv (fun (u : PH) => u = out) (ph_B D cy b A false) A) 0 0 A :=
  o_met (by decide) rfl (Nat.le_of_ble_eq_true rfl) rfl (fun p e s m below meth c S hr hlo hnm ls hl I => T11_runBy_0 S hr hlo ((gd f).2) I (lv_sub hl [0, 1, 2] rfl))
def vX11_chance : List Cond := .code yX11_chance cX11_chance 7 (some .int) :: TB
theorem lf11_chance_47 : Fl vX11_chance RX11 47 11 7 := ⟨RX11, TX11, 14, rfl, by decide, (fun w h9 => List.mem_cons_of_mem _ (wC_wsX110 w h9)), (List.mem_cons_of_mem _ wT_2_8)⟩
theorem lf11_chance_217 : Fl vX11_chance RX11 217 4 1 := ⟨RX4, TX4, 11, rfl, by decide, (fun w h9 => List.mem_cons_of_mem _ (wC_wsX40 w h9)), (List.mem_cons_of_mem _ wT_42_23)⟩
theorem gX11_chance_X11_runBy : GoodIn vX11_chance (wsV RX11 284 RX11 yX11_runBy vX11_runBy) := gV_of wT_57_6 wT_57_7 wT_57_8 wT_1_2 wT_57_9
theorem lf11_chance_51 : Fl vX11_chance RX11 51 11 8 := ⟨RX11, TX11, 14, rfl, by decide, (fun w h9 => List.mem_cons_of_mem _ (wC_wsX110 w h9)), (List.mem_cons_of_mem _ wT_2_9)⟩
theorem lf11_chance_350 : Fl vX11_chance RX11 350 4 2 := ⟨RX4, TX4, 11, rfl, by decide, (fun w h9 => List.mem_cons_of_mem _ (wC_wsX40 w h9)), (List.mem_cons_of_mem _ wT_64_12)⟩
theorem lf11_chance_125 : Fl vX11_chance RX11 125 4 6 := ⟨RX4, TX4, 11, rfl, by decide, (fun w h9 => List.mem_cons_of_mem _ (wC_wsX40 w h9)), (List.mem_cons_of_mem _ wT_33_12)⟩
theorem gX11_chance_X11_isSurfer : GoodIn vX11_chance (wsV RX11 115 RX11 yX11_isSurfer vX11_isSurfer) := gV_of wT_33_17 wT_33_18 wT_33_19 wT_1_2 wT_33_20
theorem cd11_chance : Cd yX11_chance 3 := ⟨by decide, by decide, by decide +kernel⟩
set_option maxHeartbeats 4000000 in
set_option maxRecDepth 100000 in
theorem T11_chance_33 (S : CallFix p m c cX11_chance 7 s args vX11_chance RX11) (hr : meth.sig.returnType = (some .int)) (hlo : meth.locks = false) {out : Int32 × PH} : ∀ (n : Nat) {h : PH} {a0 : Nat} {x2 : Int32} {x3 : Int32} {x4 : Int32} {x5 : Int32} {x6 : Int32} (f : F11_chance_33  n h a0 x2 x3 x4 x5 x6 = some out) {H : Heap} {locs : List Loc} (I : ph_I D cy b A false h s H locs) {ls : Array Slot} (hl : lv_has ls 7 [(0, .ref (b + a0)), (2, .int x2), (3, .int x3), (4, .int x4), (5, .int x5), (6, .int x6)]), W p l e ({ frames := 7, cells := 0, slots := 0, locals := 177 } : Room) s m args below meth c H locs 0 0 (MQ below (va_Qi (fun (r : Int32) (u : PH) => (r, u) = out) (ph_B D cy b A false) A) args s 0 0 A) (F0 m 33 ls []) := by
  intro n
  induction n with
  | zero => intro h a0 x2 x3 x4 x5 x6 f; rw [F11_chance_33] at f; cases f
  | succ n ih =>
    intro h a0 x2 x3 x4 x5 x6 f H locs I ls hl
    rw [F11_chance_33] at f
    refine lv_iload S.1 S.2.1 dX11_chance_33 (lv_at hl 5 rfl) ?_
    refine lv_bipush (v := 10) S.1 S.2.1 dX11_chance_35 (by decide) ?_
    refine lv_icmp_ge (tgt := 84) S.1 S.2.1 dX11_chance_37 (by decide) (fun q1 => ?_) (fun q1 => ?_)
    · have f := (if_pos q1).symm.trans f
      refine lv_iload S.1 S.2.1 dX11_chance_84 (lv_at hl 3 rfl) ?_
      exact o_iret S hr hlo I f dX11_chance_86
    · have f := (if_neg q1).symm.trans f
      refine lv_aload_n S.1 S.2.1 dX11_chance_40 rfl (lv_at hl 0 rfl) ?_
      refine lv_aload_n S.1 S.2.1 dX11_chance_41 rfl (lv_at hl 0 rfl) ?_
      obtain ⟨r2, e3, f⟩ := ob f
      refine o_gR S lf11_chance_47 I e3 dX11_chance_42 ?_
      obtain ⟨v4, e5, f⟩ := ob f
      refine o_gI S lf11_chance_217 I e5 dX11_chance_45 ?_
      refine lv_iload S.1 S.2.1 dX11_chance_48 (lv_at hl 4 rfl) ?_
      obtain ⟨o6, e7, f⟩ := ob f
      refine o_Vv S (As := [.int v4, .int x5]) (rest := []) (ci := 11) (M11_runBy l D cy b A e7) gX11_chance_X11_runBy rfl rfl rfl cd11_runBy ⟨Nat.le_of_ble_eq_true rfl, Nat.le_of_ble_eq_true rfl⟩ I (gd e7).1 clX11 rfl rfl hl.1 rfl (Nat.le_of_ble_eq_true rfl) dX11_chance_50 ⟨Nat.le_of_ble_eq_true rfl, Nat.le_of_ble_eq_true rfl⟩ (fun H locs I => ?_)
      refine lv_aload_n S.1 S.2.1 dX11_chance_53 rfl (lv_at hl 0 rfl) ?_
      obtain ⟨r8, e9, f⟩ := ob f
      refine o_gR S lf11_chance_51 I e9 dX11_chance_54 ?_
      obtain ⟨v10, e11, f⟩ := ob f
      refine o_gI S lf11_chance_350 I e11 dX11_chance_57 ?_
      refine lv_istore (lv' := [(5, .int v10), (0, .ref (b + a0)), (2, .int x2), (3, .int x3), (4, .int x4), (6, .int x6)]) S.1 S.2.1 dX11_chance_60 hl (by decide) rfl (fun ls hl => ?_)
      refine lv_aload_n S.1 S.2.1 dX11_chance_62 rfl (lv_at hl 1 rfl) ?_
      obtain ⟨r12, e13, f⟩ := ob f
      refine o_gR S lf11_chance_51 I e13 dX11_chance_63 ?_
      obtain ⟨r14, e15, f⟩ := ob f
      refine o_gR S lf11_chance_125 I e15 dX11_chance_66 ?_
      refine lv_iload_n S.1 S.2.1 dX11_chance_69 rfl (lv_at hl 2 rfl) ?_
      obtain ⟨v17, e16, f⟩ := ob f
      refine o_iald S I e16 dX11_chance_70 ?_
      refine lv_iload_n S.1 S.2.1 dX11_chance_71 rfl (lv_at hl 3 rfl) ?_
      refine lv_icmp_lt (tgt := 78) S.1 S.2.1 dX11_chance_72 (by decide) (fun q18 => ?_) (fun q18 => ?_)
      · have f := (if_pos q18).symm.trans f
        refine lv_iinc (v := (x6 + 1)) (lv' := [(6, .int (x6 + 1)), (5, .int v10), (0, .ref (b + a0)), (2, .int x2), (3, .int x3), (4, .int x4)]) S.1 S.2.1 dX11_chance_78 hl (k := 5) rfl (congrArg (fun z => x6 + z) (by decide)) (by decide) rfl (fun ls hl => ?_)
        refine lv_goto (tgt := 33) S.1 S.2.1 dX11_chance_81 (by decide) ?_
        exact ih f I (lv_sub hl [2, 3, 4, 5, 1, 0] rfl)
      · have f := (if_neg q18).symm.trans f
        refine lv_iinc (v := (x4 + 1)) (lv' := [(4, .int (x4 + 1)), (5, .int v10), (0, .ref (b + a0)), (2, .int x2), (3, .int x3), (6, .int x6)]) S.1 S.2.1 dX11_chance_75 hl (k := 4) rfl (congrArg (fun z => x4 + z) (by decide)) (by decide) rfl (fun ls hl => ?_)
        refine lv_iinc (v := (x6 + 1)) (lv' := [(6, .int (x6 + 1)), (4, .int (x4 + 1)), (5, .int v10), (0, .ref (b + a0)), (2, .int x2), (3, .int x3)]) S.1 S.2.1 dX11_chance_78 hl (k := 5) rfl (congrArg (fun z => x6 + z) (by decide)) (by decide) rfl (fun ls hl => ?_)
        refine lv_goto (tgt := 33) S.1 S.2.1 dX11_chance_81 (by decide) ?_
        exact ih f I (lv_sub hl [3, 4, 5, 1, 2, 0] rfl)
set_option maxHeartbeats 4000000 in
set_option maxRecDepth 100000 in
theorem T11_chance_0 (S : CallFix p m c cX11_chance 7 s args vX11_chance RX11) (hr : meth.sig.returnType = (some .int)) (hlo : meth.locks = false) {out : Int32 × PH} {h : PH} {a0 : Nat} {x1 : Int32} {x2 : Int32} {x3 : Int32} (f : F11_chance_0  h a0 x1 x2 x3 = some out) {H : Heap} {locs : List Loc} (I : ph_I D cy b A false h s H locs) {ls : Array Slot} (hl : lv_has ls 7 [(0, .ref (b + a0)), (1, .int x1), (2, .int x2), (3, .int x3)]) : W p l e ({ frames := 7, cells := 0, slots := 0, locals := 177 } : Room) s m args below meth c H locs 0 0 (MQ below (va_Qi (fun (r : Int32) (u : PH) => (r, u) = out) (ph_B D cy b A false) A) args s 0 0 A) (F0 m 0 ls []) := by
  unfold F11_chance_0 at f
  refine lv_iload_n S.1 S.2.1 dX11_chance_0 rfl (lv_at hl 1 rfl) ?_
  refine lv_if_lt (tgt := 22) S.1 S.2.1 dX11_chance_1 (by decide) (fun q1 => ?_) (fun q1 => ?_)
  · have f := (if_pos q1).symm.trans f
    refine lv_iconst (v := (-1)) S.1 S.2.1 dX11_chance_22 (by decide) ?_
    exact o_iret S hr hlo I f dX11_chance_23
  · have f := (if_neg q1).symm.trans f
    refine lv_aload_n S.1 S.2.1 dX11_chance_4 rfl (lv_at hl 0 rfl) ?_
    refine lv_iload_n S.1 S.2.1 dX11_chance_5 rfl (lv_at hl 2 rfl) ?_
    obtain ⟨o2, e3, f⟩ := ob f
    refine o_Vi S (As := [.int x2]) (rest := []) (ci := 11) (M11_isSurfer l D cy b A false e3) gX11_chance_X11_isSurfer rfl rfl rfl cd11_isSurfer ⟨Nat.le_of_ble_eq_true rfl, Nat.le_of_ble_eq_true rfl⟩ I (gd e3).1 clX11 rfl rfl hl.1 rfl (Nat.le_of_ble_eq_true rfl) dX11_chance_6 ⟨Nat.le_of_ble_eq_true rfl, Nat.le_of_ble_eq_true rfl⟩ (fun H locs I => ?_)
    refine lv_if_eq (tgt := 22) S.1 S.2.1 dX11_chance_9 (by decide) (fun q4 => ?_) (fun q4 => ?_)
    · have f := (if_pos q4).symm.trans f
      refine lv_iconst (v := (-1)) S.1 S.2.1 dX11_chance_22 (by decide) ?_
      exact o_iret S hr hlo I f dX11_chance_23
    · have f := (if_neg q4).symm.trans f
      refine lv_iload_n S.1 S.2.1 dX11_chance_12 rfl (lv_at hl 3 rfl) ?_
      refine lv_if_lt (tgt := 22) S.1 S.2.1 dX11_chance_13 (by decide) (fun q5 => ?_) (fun q5 => ?_)
      · have f := (if_pos q5).symm.trans f
        refine lv_iconst (v := (-1)) S.1 S.2.1 dX11_chance_22 (by decide) ?_
        exact o_iret S hr hlo I f dX11_chance_23
      · have f := (if_neg q5).symm.trans f
        refine lv_iload_n S.1 S.2.1 dX11_chance_16 rfl (lv_at hl 3 rfl) ?_
        refine lv_bipush (v := 28) S.1 S.2.1 dX11_chance_17 (by decide) ?_
        refine lv_icmp_le (tgt := 24) S.1 S.2.1 dX11_chance_19 (by decide) (fun q6 => ?_) (fun q6 => ?_)
        · have f := (if_pos q6).symm.trans f
          refine lv_iconst (v := 0) S.1 S.2.1 dX11_chance_24 (by decide) ?_
          refine lv_istore (lv' := [(4, .int 0), (0, .ref (b + a0)), (1, .int x1), (2, .int x2), (3, .int x3)]) S.1 S.2.1 dX11_chance_25 hl (by decide) rfl (fun ls hl => ?_)
          refine lv_iload_n S.1 S.2.1 dX11_chance_27 rfl (lv_at hl 2 rfl) ?_
          refine lv_istore (lv' := [(5, .int x1), (4, .int 0), (0, .ref (b + a0)), (1, .int x1), (2, .int x2), (3, .int x3)]) S.1 S.2.1 dX11_chance_28 hl (by decide) rfl (fun ls hl => ?_)
          refine lv_iconst (v := 0) S.1 S.2.1 dX11_chance_30 (by decide) ?_
          refine lv_istore (lv' := [(6, .int 0), (5, .int x1), (4, .int 0), (0, .ref (b + a0)), (1, .int x1), (2, .int x2), (3, .int x3)]) S.1 S.2.1 dX11_chance_31 hl (by decide) rfl (fun ls hl => ?_)
          exact T11_chance_33 S hr hlo  1024 f I (lv_sub hl [3, 5, 6, 2, 1, 0] rfl)
        · have f := (if_neg q6).symm.trans f
          refine lv_iconst (v := (-1)) S.1 S.2.1 dX11_chance_22 (by decide) ?_
          exact o_iret S hr hlo I f dX11_chance_23
theorem M11_chance (l : Launch) (D : va_G) (cy : Nat → ClassId) (b : Nat) (A : Nat → Prop) {h : PH} {a0 : Nat} {x1 : Int32} {x2 : Int32} {x3 : Int32} {out : Int32 × PH} (f : F11_chance h a0 x1 x2 x3 = some out) : Met l yX11_chance vX11_chance ({ frames := 7, cells := 0, slots := 0, locals := 177 } : Room) (va_Pc [.ref (b + a0), .int x1, .int x2, .int x3] (ph_B D cy b A false h)) (va_Qi (fun (r : Int32) (u : PH) => (r, u) = out) (ph_B D cy b A false) A) 0 0 A :=
  o_met (by decide) rfl (Nat.le_of_ble_eq_true rfl) rfl (fun p e s m below meth c S hr hlo hnm ls hl I => T11_chance_0 S hr hlo ((gd f).2) I (lv_sub hl [0, 1, 2, 3] rfl))
def vX11_changeTrial : List Cond := .code yX11_changeTrial cX11_changeTrial 3 none :: TB
theorem lf11_changeTrial_41 : Fl vX11_changeTrial RX11 41 11 6 := ⟨RX11, TX11, 14, rfl, by decide, (fun w h9 => List.mem_cons_of_mem _ (wC_wsX110 w h9)), (List.mem_cons_of_mem _ wT_2_4)⟩
theorem gX11_changeTrial_X6_makeNobodyBold : GoodIn vX11_changeTrial (wsV RX11 402 RX6 yX6_makeNobodyBold vX6_makeNobodyBold) := gV_of wT_65_5 wT_65_6 wT_65_7 wT_2_2 wT_65_8
theorem lf11_changeTrial_51 : Fl vX11_changeTrial RX11 51 11 8 := ⟨RX11, TX11, 14, rfl, by decide, (fun w h9 => List.mem_cons_of_mem _ (wC_wsX110 w h9)), (List.mem_cons_of_mem _ wT_2_9)⟩
theorem gX11_changeTrial_X4_leaveOut : GoodIn vX11_changeTrial (wsV RX11 405 RX4 yX4_leaveOut vX4_leaveOut) := gV_of wT_65_9 wT_65_10 wT_65_11 wT_2_7 wT_65_12
theorem gX11_changeTrial_X6_holdPeak : GoodIn vX11_changeTrial (wsV RX11 408 RX6 yX6_holdPeak vX6_holdPeak) := gV_of wT_65_14 wT_65_15 wT_65_16 wT_2_2 wT_65_17
theorem gX11_changeTrial_X6_giveBoards : GoodIn vX11_changeTrial (wsV RX11 411 RX6 yX6_giveBoards vX6_giveBoards) := gV_of wT_65_18 wT_65_19 wT_65_20 wT_2_2 wT_65_21
theorem lf11_changeTrial_122 : Fl vX11_changeTrial RX11 122 4 5 := ⟨RX4, TX4, 11, rfl, by decide, (fun w h9 => List.mem_cons_of_mem _ (wC_wsX40 w h9)), (List.mem_cons_of_mem _ wT_33_11)⟩
theorem gX11_changeTrial_X4_seatAll : GoodIn vX11_changeTrial (wsV RX11 414 RX4 yX4_seatAll vX4_seatAll) := gV_of wT_65_22 wT_65_23 wT_66_0 wT_2_7 wT_66_1
theorem cd11_changeTrial : Cd yX11_changeTrial 2 := ⟨by decide, by decide, by decide +kernel⟩
set_option maxHeartbeats 4000000 in
set_option maxRecDepth 100000 in
theorem T11_changeTrial_0 (S : CallFix p m c cX11_changeTrial 3 s args vX11_changeTrial RX11) (hr : meth.sig.returnType = none) (hlo : meth.locks = false) {out : PH} {h : PH} {a0 : Nat} {x1 : Int32} {x2 : Int32} (f : F11_changeTrial_0  h a0 x1 x2 = some out) {H : Heap} {locs : List Loc} (I : ph_I D cy b A fl h s H locs) {ls : Array Slot} (hl : lv_has ls 3 [(0, .ref (b + a0)), (1, .int x1), (2, .int x2)]) : W p l e ({ frames := 1, cells := 0, slots := 0, locals := 22 } : Room) s m args below meth c H locs 0 0 (MQ below (va_Qv (fun (u : PH) => u = out) (ph_B D cy b A fl) A) args s 0 0 A) (F0 m 0 ls []) := by
  unfold F11_changeTrial_0 at f
  refine lv_iload_n S.1 S.2.1 dX11_changeTrial_0 rfl (lv_at hl 1 rfl) ?_
  rcases Decidable.em (x1 = 0) with q1 | q1
  · have f := (if_pos q1).symm.trans f
    refine lv_tableIn (off := 31) (tgt := 32) S.1 S.2.1 dX11_changeTrial_1 (by rw [q1]; decide) (by rw [q1]; decide) (by rw [q1]; rfl) (by decide) ?_
    refine lv_aload_n S.1 S.2.1 dX11_changeTrial_32 rfl (lv_at hl 0 rfl) ?_
    obtain ⟨r2, e3, f⟩ := ob f
    refine o_gR S lf11_changeTrial_41 I e3 dX11_changeTrial_33 ?_
    obtain ⟨o4, e5, f⟩ := ob f
    refine o_Vv S (As := []) (rest := []) (ci := 6) (M6_makeNobodyBold l D cy b A fl e5) gX11_changeTrial_X6_makeNobodyBold rfl rfl rfl cd6_makeNobodyBold ⟨Nat.le_of_ble_eq_true rfl, Nat.le_of_ble_eq_true rfl⟩ I (gd e5).1 clX6 rfl rfl hl.1 rfl (Nat.le_of_ble_eq_true rfl) dX11_changeTrial_36 ⟨Nat.le_of_ble_eq_true rfl, Nat.le_of_ble_eq_true rfl⟩ (fun H locs I => ?_)
    refine lv_goto (tgt := 91) S.1 S.2.1 dX11_changeTrial_39 (by decide) ?_
    exact o_vret S hr hlo I f dX11_changeTrial_91
  have f := (if_neg q1).symm.trans f
  rcases Decidable.em (x1 = 1) with q6 | q6
  · have f := (if_pos q6).symm.trans f
    refine lv_tableIn (off := 41) (tgt := 42) S.1 S.2.1 dX11_changeTrial_1 (by rw [q6]; decide) (by rw [q6]; decide) (by rw [q6]; rfl) (by decide) ?_
    refine lv_aload_n S.1 S.2.1 dX11_changeTrial_42 rfl (lv_at hl 0 rfl) ?_
    obtain ⟨r7, e8, f⟩ := ob f
    refine o_gR S lf11_changeTrial_51 I e8 dX11_changeTrial_43 ?_
    refine lv_iload_n S.1 S.2.1 dX11_changeTrial_46 rfl (lv_at hl 2 rfl) ?_
    obtain ⟨o9, e10, f⟩ := ob f
    refine o_Vv S (As := [.int x2]) (rest := []) (ci := 4) (M4_leaveOut l D cy b A fl e10) gX11_changeTrial_X4_leaveOut rfl rfl rfl cd4_leaveOut ⟨Nat.le_of_ble_eq_true rfl, Nat.le_of_ble_eq_true rfl⟩ I (gd e10).1 clX4 rfl rfl hl.1 rfl (Nat.le_of_ble_eq_true rfl) dX11_changeTrial_47 ⟨Nat.le_of_ble_eq_true rfl, Nat.le_of_ble_eq_true rfl⟩ (fun H locs I => ?_)
    refine lv_goto (tgt := 91) S.1 S.2.1 dX11_changeTrial_50 (by decide) ?_
    exact o_vret S hr hlo I f dX11_changeTrial_91
  have f := (if_neg q6).symm.trans f
  rcases Decidable.em (x1 = 2) with q11 | q11
  · have f := (if_pos q11).symm.trans f
    refine lv_tableIn (off := 52) (tgt := 53) S.1 S.2.1 dX11_changeTrial_1 (by rw [q11]; decide) (by rw [q11]; decide) (by rw [q11]; rfl) (by decide) ?_
    refine lv_aload_n S.1 S.2.1 dX11_changeTrial_53 rfl (lv_at hl 0 rfl) ?_
    obtain ⟨r12, e13, f⟩ := ob f
    refine o_gR S lf11_changeTrial_41 I e13 dX11_changeTrial_54 ?_
    obtain ⟨o14, e15, f⟩ := ob f
    refine o_Vv S (As := []) (rest := []) (ci := 6) (M6_holdPeak l D cy b A fl e15) gX11_changeTrial_X6_holdPeak rfl rfl rfl cd6_holdPeak ⟨Nat.le_of_ble_eq_true rfl, Nat.le_of_ble_eq_true rfl⟩ I (gd e15).1 clX6 rfl rfl hl.1 rfl (Nat.le_of_ble_eq_true rfl) dX11_changeTrial_57 ⟨Nat.le_of_ble_eq_true rfl, Nat.le_of_ble_eq_true rfl⟩ (fun H locs I => ?_)
    refine lv_goto (tgt := 91) S.1 S.2.1 dX11_changeTrial_60 (by decide) ?_
    exact o_vret S hr hlo I f dX11_changeTrial_91
  have f := (if_neg q11).symm.trans f
  rcases Decidable.em (x1 = 3) with q16 | q16
  · have f := (if_pos q16).symm.trans f
    refine lv_tableIn (off := 62) (tgt := 63) S.1 S.2.1 dX11_changeTrial_1 (by rw [q16]; decide) (by rw [q16]; decide) (by rw [q16]; rfl) (by decide) ?_
    refine lv_aload_n S.1 S.2.1 dX11_changeTrial_63 rfl (lv_at hl 0 rfl) ?_
    obtain ⟨r17, e18, f⟩ := ob f
    refine o_gR S lf11_changeTrial_41 I e18 dX11_changeTrial_64 ?_
    refine lv_bipush (v := 9) S.1 S.2.1 dX11_changeTrial_67 (by decide) ?_
    obtain ⟨o19, e20, f⟩ := ob f
    refine o_Vv S (As := [.int 9]) (rest := []) (ci := 6) (M6_giveBoards l D cy b A fl e20) gX11_changeTrial_X6_giveBoards rfl rfl rfl cd6_giveBoards ⟨Nat.le_of_ble_eq_true rfl, Nat.le_of_ble_eq_true rfl⟩ I (gd e20).1 clX6 rfl rfl hl.1 rfl (Nat.le_of_ble_eq_true rfl) dX11_changeTrial_69 ⟨Nat.le_of_ble_eq_true rfl, Nat.le_of_ble_eq_true rfl⟩ (fun H locs I => ?_)
    refine lv_goto (tgt := 91) S.1 S.2.1 dX11_changeTrial_72 (by decide) ?_
    exact o_vret S hr hlo I f dX11_changeTrial_91
  have f := (if_neg q16).symm.trans f
  refine lv_tableOut (tgt := 75) S.1 S.2.1 dX11_changeTrial_1 (by have := lv_neT q1 (a := 0) (by decide); have := lv_neT q6 (a := 1) (by decide); have := lv_neT q11 (a := 2) (by decide); have := lv_neT q16 (a := 3) (by decide); omega) (by decide) ?_
  refine lv_aload_n S.1 S.2.1 dX11_changeTrial_75 rfl (lv_at hl 0 rfl) ?_
  obtain ⟨r21, e22, f⟩ := ob f
  refine o_gR S lf11_changeTrial_51 I e22 dX11_changeTrial_76 ?_
  refine lv_aload_n S.1 S.2.1 dX11_changeTrial_79 rfl (lv_at hl 0 rfl) ?_
  obtain ⟨r23, e24, f⟩ := ob f
  refine o_gR S lf11_changeTrial_51 I e24 dX11_changeTrial_80 ?_
  obtain ⟨r25, e26, f⟩ := ob f
  refine o_gR S lf11_changeTrial_122 I e26 dX11_changeTrial_83 ?_
  refine lv_iload_n S.1 S.2.1 dX11_changeTrial_86 rfl (lv_at hl 2 rfl) ?_
  obtain ⟨v28, e27, f⟩ := ob f
  refine o_iald S I e27 dX11_changeTrial_87 ?_
  obtain ⟨o29, e30, f⟩ := ob f
  refine o_Vv S (As := [.int v28]) (rest := []) (ci := 4) (M4_seatAll l D cy b A fl e30) gX11_changeTrial_X4_seatAll rfl rfl rfl cd4_seatAll ⟨Nat.le_of_ble_eq_true rfl, Nat.le_of_ble_eq_true rfl⟩ I (gd e30).1 clX4 rfl rfl hl.1 rfl (Nat.le_of_ble_eq_true rfl) dX11_changeTrial_88 ⟨Nat.le_of_ble_eq_true rfl, Nat.le_of_ble_eq_true rfl⟩ (fun H locs I => ?_)
  exact o_vret S hr hlo I f dX11_changeTrial_91
theorem M11_changeTrial (l : Launch) (D : va_G) (cy : Nat → ClassId) (b : Nat) (A : Nat → Prop) (fl : Bool) {h : PH} {a0 : Nat} {x1 : Int32} {x2 : Int32} {out : PH} (f : F11_changeTrial h a0 x1 x2 = some out) : Met l yX11_changeTrial vX11_changeTrial ({ frames := 1, cells := 0, slots := 0, locals := 22 } : Room) (va_Pc [.ref (b + a0), .int x1, .int x2] (ph_B D cy b A fl h)) (va_Qv (fun (u : PH) => u = out) (ph_B D cy b A fl) A) 0 0 A :=
  o_met (by decide) rfl (Nat.le_of_ble_eq_true rfl) rfl (fun p e s m below meth c S hr hlo hnm ls hl I => T11_changeTrial_0 S hr hlo ((gd f).2) I (lv_sub hl [0, 1, 2] rfl))
def vX11_count : List Cond := .code yX11_count cX11_count 2 (some .int) :: TB
theorem lf11_count_18 : Fl vX11_count RX11 18 11 3 := ⟨RX11, TX11, 14, rfl, by decide, (fun w h9 => List.mem_cons_of_mem _ (wC_wsX110 w h9)), (List.mem_cons_of_mem _ wT_1_18)⟩
theorem lf11_count_173 : Fl vX11_count RX11 173 8 0 := ⟨RX8, TX8, 14, rfl, by decide, (fun w h9 => List.mem_cons_of_mem _ (wC_wsX80 w h9)), (List.mem_cons_of_mem _ wT_37_16)⟩
theorem lf11_count_381 : Fl vX11_count RX11 381 8 1 := ⟨RX8, TX8, 14, rfl, by decide, (fun w h9 => List.mem_cons_of_mem _ (wC_wsX80 w h9)), (List.mem_cons_of_mem _ wT_67_18)⟩
theorem lf11_count_102 : Fl vX11_count RX11 102 8 4 := ⟨RX8, TX8, 14, rfl, by decide, (fun w h9 => List.mem_cons_of_mem _ (wC_wsX80 w h9)), (List.mem_cons_of_mem _ wT_32_14)⟩
theorem lf11_count_106 : Fl vX11_count RX11 106 1 0 := ⟨RX1, TX1, 7, rfl, by decide, (fun w h9 => List.mem_cons_of_mem _ (wC_wsX10 w h9)), (List.mem_cons_of_mem _ wT_32_15)⟩
theorem lf11_count_150 : Fl vX11_count RX11 150 8 5 := ⟨RX8, TX8, 14, rfl, by decide, (fun w h9 => List.mem_cons_of_mem _ (wC_wsX80 w h9)), (List.mem_cons_of_mem _ wT_36_16)⟩
theorem lf11_count_253 : Fl vX11_count RX11 253 10 0 := ⟨RX10, TX10, 8, rfl, by decide, (fun w h9 => List.mem_cons_of_mem _ (wC_wsX100 w h9)), (List.mem_cons_of_mem _ wT_53_16)⟩
theorem lf11_count_299 : Fl vX11_count RX11 299 10 1 := ⟨RX10, TX10, 8, rfl, by decide, (fun w h9 => List.mem_cons_of_mem _ (wC_wsX100 w h9)), (List.mem_cons_of_mem _ wT_37_2)⟩
theorem lf11_count_384 : Fl vX11_count RX11 384 8 13 := ⟨RX8, TX8, 14, rfl, by decide, (fun w h9 => List.mem_cons_of_mem _ (wC_wsX80 w h9)), (List.mem_cons_of_mem _ wT_67_19)⟩
theorem lf11_count_47 : Fl vX11_count RX11 47 11 7 := ⟨RX11, TX11, 14, rfl, by decide, (fun w h9 => List.mem_cons_of_mem _ (wC_wsX110 w h9)), (List.mem_cons_of_mem _ wT_2_8)⟩
theorem lf11_count_186 : Fl vX11_count RX11 186 4 0 := ⟨RX4, TX4, 11, rfl, by decide, (fun w h9 => List.mem_cons_of_mem _ (wC_wsX40 w h9)), (List.mem_cons_of_mem _ wT_34_1)⟩
theorem lf11_count_217 : Fl vX11_count RX11 217 4 1 := ⟨RX4, TX4, 11, rfl, by decide, (fun w h9 => List.mem_cons_of_mem _ (wC_wsX40 w h9)), (List.mem_cons_of_mem _ wT_42_23)⟩
theorem lf11_count_287 : Fl vX11_count RX11 287 4 3 := ⟨RX4, TX4, 11, rfl, by decide, (fun w h9 => List.mem_cons_of_mem _ (wC_wsX40 w h9)), (List.mem_cons_of_mem _ wT_57_4)⟩
theorem lf11_count_290 : Fl vX11_count RX11 290 4 4 := ⟨RX4, TX4, 11, rfl, by decide, (fun w h9 => List.mem_cons_of_mem _ (wC_wsX40 w h9)), (List.mem_cons_of_mem _ wT_57_5)⟩
theorem gX11_count_X11_firstToCome : GoodIn vX11_count (wsV RX11 233 RX11 yX11_firstToCome vX11_firstToCome) := gV_of wT_49_9 wT_49_10 wT_49_11 wT_1_2 wT_49_12
theorem lf11_count_60 : Fl vX11_count RX11 60 11 11 := ⟨RX11, TX11, 14, rfl, by decide, (fun w h9 => List.mem_cons_of_mem _ (wC_wsX110 w h9)), (List.mem_cons_of_mem _ wT_2_14)⟩
theorem lf11_count_323 : Fl vX11_count RX11 323 3 0 := ⟨RX3, TX3, 7, rfl, by decide, (fun w h9 => List.mem_cons_of_mem _ (wC_wsX30 w h9)), (List.mem_cons_of_mem _ wT_23_18)⟩
theorem gX11_count_X3_howManyKnown : GoodIn vX11_count (wsV RX11 333 RX3 yX3_howManyKnown vX3_howManyKnown) := gV_of wT_63_14 wT_63_11 wT_63_12 wT_2_13 wT_63_13
theorem lf11_count_67 : Fl vX11_count RX11 67 11 12 := ⟨RX11, TX11, 14, rfl, by decide, (fun w h9 => List.mem_cons_of_mem _ (wC_wsX110 w h9)), (List.mem_cons_of_mem _ wT_2_18)⟩
theorem lf11_count_368 : Fl vX11_count RX11 368 9 0 := ⟨RX9, TX9, 3, rfl, by decide, (fun w h9 => List.mem_cons_of_mem _ (wC_wsX90 w h9)), (List.mem_cons_of_mem _ wT_23_20)⟩
theorem cd11_count : Cd yX11_count 1 := ⟨by decide, by decide, by decide +kernel⟩
set_option maxHeartbeats 4000000 in
set_option maxRecDepth 100000 in
theorem T11_count_0 (S : CallFix p m c cX11_count 2 s args vX11_count RX11) (hr : meth.sig.returnType = (some .int)) (hlo : meth.locks = false) {out : Int32 × PH} {h : PH} {a0 : Nat} {x1 : Int32} (f : F11_count_0  h a0 x1 = some out) {H : Heap} {locs : List Loc} (I : ph_I D cy b A fl h s H locs) {ls : Array Slot} (hl : lv_has ls 2 [(0, .ref (b + a0)), (1, .int x1)]) : W p l e ({ frames := 2, cells := 0, slots := 0, locals := 42 } : Room) s m args below meth c H locs 0 0 (MQ below (va_Qi (fun (r : Int32) (u : PH) => (r, u) = out) (ph_B D cy b A fl) A) args s 0 0 A) (F0 m 0 ls []) := by
  unfold F11_count_0 at f
  refine lv_iload_n S.1 S.2.1 dX11_count_0 rfl (lv_at hl 1 rfl) ?_
  rcases Decidable.em (x1 = 0) with q1 | q1
  · have f := (if_pos q1).symm.trans f
    refine lv_tableIn (off := 71) (tgt := 72) S.1 S.2.1 dX11_count_1 (by rw [q1]; decide) (by rw [q1]; decide) (by rw [q1]; rfl) (by decide) ?_
    refine lv_aload_n S.1 S.2.1 dX11_count_72 rfl (lv_at hl 0 rfl) ?_
    obtain ⟨r2, e3, f⟩ := ob f
    refine o_gR S lf11_count_18 I e3 dX11_count_73 ?_
    obtain ⟨v4, e5, f⟩ := ob f
    refine o_gI S lf11_count_173 I e5 dX11_count_76 ?_
    exact o_iret S hr hlo I f dX11_count_79
  have f := (if_neg q1).symm.trans f
  rcases Decidable.em (x1 = 1) with q6 | q6
  · have f := (if_pos q6).symm.trans f
    refine lv_tableIn (off := 79) (tgt := 80) S.1 S.2.1 dX11_count_1 (by rw [q6]; decide) (by rw [q6]; decide) (by rw [q6]; rfl) (by decide) ?_
    refine lv_aload_n S.1 S.2.1 dX11_count_80 rfl (lv_at hl 0 rfl) ?_
    obtain ⟨r7, e8, f⟩ := ob f
    refine o_gR S lf11_count_18 I e8 dX11_count_81 ?_
    obtain ⟨v9, e10, f⟩ := ob f
    refine o_gI S lf11_count_381 I e10 dX11_count_84 ?_
    exact o_iret S hr hlo I f dX11_count_87
  have f := (if_neg q6).symm.trans f
  rcases Decidable.em (x1 = 2) with q11 | q11
  · have f := (if_pos q11).symm.trans f
    refine lv_tableIn (off := 87) (tgt := 88) S.1 S.2.1 dX11_count_1 (by rw [q11]; decide) (by rw [q11]; decide) (by rw [q11]; rfl) (by decide) ?_
    refine lv_aload_n S.1 S.2.1 dX11_count_88 rfl (lv_at hl 0 rfl) ?_
    obtain ⟨r12, e13, f⟩ := ob f
    refine o_gR S lf11_count_18 I e13 dX11_count_89 ?_
    obtain ⟨r14, e15, f⟩ := ob f
    refine o_gR S lf11_count_102 I e15 dX11_count_92 ?_
    obtain ⟨v16, e17, f⟩ := ob f
    refine o_gI S lf11_count_106 I e17 dX11_count_95 ?_
    exact o_iret S hr hlo I f dX11_count_98
  have f := (if_neg q11).symm.trans f
  rcases Decidable.em (x1 = 3) with q18 | q18
  · have f := (if_pos q18).symm.trans f
    refine lv_tableIn (off := 98) (tgt := 99) S.1 S.2.1 dX11_count_1 (by rw [q18]; decide) (by rw [q18]; decide) (by rw [q18]; rfl) (by decide) ?_
    refine lv_aload_n S.1 S.2.1 dX11_count_99 rfl (lv_at hl 0 rfl) ?_
    obtain ⟨r19, e20, f⟩ := ob f
    refine o_gR S lf11_count_18 I e20 dX11_count_100 ?_
    obtain ⟨r21, e22, f⟩ := ob f
    refine o_gR S lf11_count_150 I e22 dX11_count_103 ?_
    obtain ⟨v23, e24, f⟩ := ob f
    refine o_gI S lf11_count_253 I e24 dX11_count_106 ?_
    exact o_iret S hr hlo I f dX11_count_109
  have f := (if_neg q18).symm.trans f
  rcases Decidable.em (x1 = 4) with q25 | q25
  · have f := (if_pos q25).symm.trans f
    refine lv_tableIn (off := 109) (tgt := 110) S.1 S.2.1 dX11_count_1 (by rw [q25]; decide) (by rw [q25]; decide) (by rw [q25]; rfl) (by decide) ?_
    refine lv_aload_n S.1 S.2.1 dX11_count_110 rfl (lv_at hl 0 rfl) ?_
    obtain ⟨r26, e27, f⟩ := ob f
    refine o_gR S lf11_count_18 I e27 dX11_count_111 ?_
    obtain ⟨r28, e29, f⟩ := ob f
    refine o_gR S lf11_count_150 I e29 dX11_count_114 ?_
    obtain ⟨v30, e31, f⟩ := ob f
    refine o_gI S lf11_count_299 I e31 dX11_count_117 ?_
    exact o_iret S hr hlo I f dX11_count_120
  have f := (if_neg q25).symm.trans f
  rcases Decidable.em (x1 = 5) with q32 | q32
  · have f := (if_pos q32).symm.trans f
    refine lv_tableIn (off := 120) (tgt := 121) S.1 S.2.1 dX11_count_1 (by rw [q32]; decide) (by rw [q32]; decide) (by rw [q32]; rfl) (by decide) ?_
    refine lv_aload_n S.1 S.2.1 dX11_count_121 rfl (lv_at hl 0 rfl) ?_
    obtain ⟨r33, e34, f⟩ := ob f
    refine o_gR S lf11_count_18 I e34 dX11_count_122 ?_
    obtain ⟨v35, e36, f⟩ := ob f
    refine o_gI S lf11_count_384 I e36 dX11_count_125 ?_
    exact o_iret S hr hlo I f dX11_count_128
  have f := (if_neg q32).symm.trans f
  rcases Decidable.em (x1 = 6) with q37 | q37
  · have f := (if_pos q37).symm.trans f
    refine lv_tableIn (off := 128) (tgt := 129) S.1 S.2.1 dX11_count_1 (by rw [q37]; decide) (by rw [q37]; decide) (by rw [q37]; rfl) (by decide) ?_
    refine lv_aload_n S.1 S.2.1 dX11_count_129 rfl (lv_at hl 0 rfl) ?_
    obtain ⟨r38, e39, f⟩ := ob f
    refine o_gR S lf11_count_47 I e39 dX11_count_130 ?_
    obtain ⟨v40, e41, f⟩ := ob f
    refine o_gI S lf11_count_186 I e41 dX11_count_133 ?_
    exact o_iret S hr hlo I f dX11_count_136
  have f := (if_neg q37).symm.trans f
  rcases Decidable.em (x1 = 7) with q42 | q42
  · have f := (if_pos q42).symm.trans f
    refine lv_tableIn (off := 136) (tgt := 137) S.1 S.2.1 dX11_count_1 (by rw [q42]; decide) (by rw [q42]; decide) (by rw [q42]; rfl) (by decide) ?_
    refine lv_aload_n S.1 S.2.1 dX11_count_137 rfl (lv_at hl 0 rfl) ?_
    obtain ⟨r43, e44, f⟩ := ob f
    refine o_gR S lf11_count_47 I e44 dX11_count_138 ?_
    obtain ⟨v45, e46, f⟩ := ob f
    refine o_gI S lf11_count_217 I e46 dX11_count_141 ?_
    exact o_iret S hr hlo I f dX11_count_144
  have f := (if_neg q42).symm.trans f
  rcases Decidable.em (x1 = 8) with q47 | q47
  · have f := (if_pos q47).symm.trans f
    refine lv_tableIn (off := 144) (tgt := 145) S.1 S.2.1 dX11_count_1 (by rw [q47]; decide) (by rw [q47]; decide) (by rw [q47]; rfl) (by decide) ?_
    refine lv_aload_n S.1 S.2.1 dX11_count_145 rfl (lv_at hl 0 rfl) ?_
    obtain ⟨r48, e49, f⟩ := ob f
    refine o_gR S lf11_count_47 I e49 dX11_count_146 ?_
    obtain ⟨v50, e51, f⟩ := ob f
    refine o_gI S lf11_count_287 I e51 dX11_count_149 ?_
    exact o_iret S hr hlo I f dX11_count_152
  have f := (if_neg q47).symm.trans f
  rcases Decidable.em (x1 = 9) with q52 | q52
  · have f := (if_pos q52).symm.trans f
    refine lv_tableIn (off := 152) (tgt := 153) S.1 S.2.1 dX11_count_1 (by rw [q52]; decide) (by rw [q52]; decide) (by rw [q52]; rfl) (by decide) ?_
    refine lv_aload_n S.1 S.2.1 dX11_count_153 rfl (lv_at hl 0 rfl) ?_
    obtain ⟨r53, e54, f⟩ := ob f
    refine o_gR S lf11_count_47 I e54 dX11_count_154 ?_
    obtain ⟨v55, e56, f⟩ := ob f
    refine o_gI S lf11_count_290 I e56 dX11_count_157 ?_
    exact o_iret S hr hlo I f dX11_count_160
  have f := (if_neg q52).symm.trans f
  rcases Decidable.em (x1 = 10) with q57 | q57
  · have f := (if_pos q57).symm.trans f
    refine lv_tableIn (off := 160) (tgt := 161) S.1 S.2.1 dX11_count_1 (by rw [q57]; decide) (by rw [q57]; decide) (by rw [q57]; rfl) (by decide) ?_
    refine lv_aload_n S.1 S.2.1 dX11_count_161 rfl (lv_at hl 0 rfl) ?_
    obtain ⟨r58, e59, f⟩ := ob f
    refine o_gR S lf11_count_18 I e59 dX11_count_162 ?_
    obtain ⟨r60, e61, f⟩ := ob f
    refine o_gR S lf11_count_150 I e61 dX11_count_165 ?_
    obtain ⟨v62, e63, f⟩ := ob f
    refine o_gI S lf11_count_299 I e63 dX11_count_168 ?_
    refine lv_aload_n S.1 S.2.1 dX11_count_171 rfl (lv_at hl 0 rfl) ?_
    obtain ⟨o64, e65, f⟩ := ob f
    refine o_Vi S (As := []) (rest := [.int v62]) (ci := 11) (M11_firstToCome l D cy b A fl e65) gX11_count_X11_firstToCome rfl rfl rfl cd11_firstToCome ⟨Nat.le_of_ble_eq_true rfl, Nat.le_of_ble_eq_true rfl⟩ I (gd e65).1 clX11 rfl rfl hl.1 rfl (Nat.le_of_ble_eq_true rfl) dX11_count_172 ⟨Nat.le_of_ble_eq_true rfl, Nat.le_of_ble_eq_true rfl⟩ (fun H locs I => ?_)
    refine lv_isub S.1 S.2.1 dX11_count_175 ?_
    exact o_iret S hr hlo I f dX11_count_176
  have f := (if_neg q57).symm.trans f
  rcases Decidable.em (x1 = 11) with q66 | q66
  · have f := (if_pos q66).symm.trans f
    refine lv_tableIn (off := 176) (tgt := 177) S.1 S.2.1 dX11_count_1 (by rw [q66]; decide) (by rw [q66]; decide) (by rw [q66]; rfl) (by decide) ?_
    refine lv_aload_n S.1 S.2.1 dX11_count_177 rfl (lv_at hl 0 rfl) ?_
    obtain ⟨r67, e68, f⟩ := ob f
    refine o_gR S lf11_count_60 I e68 dX11_count_178 ?_
    obtain ⟨v69, e70, f⟩ := ob f
    refine o_gI S lf11_count_323 I e70 dX11_count_181 ?_
    exact o_iret S hr hlo I f dX11_count_184
  have f := (if_neg q66).symm.trans f
  rcases Decidable.em (x1 = 12) with q71 | q71
  · have f := (if_pos q71).symm.trans f
    refine lv_tableIn (off := 184) (tgt := 185) S.1 S.2.1 dX11_count_1 (by rw [q71]; decide) (by rw [q71]; decide) (by rw [q71]; rfl) (by decide) ?_
    refine lv_aload_n S.1 S.2.1 dX11_count_185 rfl (lv_at hl 0 rfl) ?_
    obtain ⟨r72, e73, f⟩ := ob f
    refine o_gR S lf11_count_60 I e73 dX11_count_186 ?_
    obtain ⟨o74, e75, f⟩ := ob f
    refine o_Vi S (As := []) (rest := []) (ci := 3) (M3_howManyKnown l D cy b A fl e75) gX11_count_X3_howManyKnown rfl rfl rfl cd3_howManyKnown ⟨Nat.le_of_ble_eq_true rfl, Nat.le_of_ble_eq_true rfl⟩ I (gd e75).1 clX3 rfl rfl hl.1 rfl (Nat.le_of_ble_eq_true rfl) dX11_count_189 ⟨Nat.le_of_ble_eq_true rfl, Nat.le_of_ble_eq_true rfl⟩ (fun H locs I => ?_)
    exact o_iret S hr hlo I f dX11_count_192
  have f := (if_neg q71).symm.trans f
  rcases Decidable.em (x1 = 13) with q76 | q76
  · have f := (if_pos q76).symm.trans f
    refine lv_tableIn (off := 192) (tgt := 193) S.1 S.2.1 dX11_count_1 (by rw [q76]; decide) (by rw [q76]; decide) (by rw [q76]; rfl) (by decide) ?_
    refine lv_aload_n S.1 S.2.1 dX11_count_193 rfl (lv_at hl 0 rfl) ?_
    obtain ⟨r77, e78, f⟩ := ob f
    refine o_gR S lf11_count_67 I e78 dX11_count_194 ?_
    obtain ⟨v79, e80, f⟩ := ob f
    refine o_gI S lf11_count_368 I e80 dX11_count_197 ?_
    exact o_iret S hr hlo I f dX11_count_200
  have f := (if_neg q76).symm.trans f
  refine lv_tableOut (tgt := 201) S.1 S.2.1 dX11_count_1 (by have := lv_neT q1 (a := 0) (by decide); have := lv_neT q6 (a := 1) (by decide); have := lv_neT q11 (a := 2) (by decide); have := lv_neT q18 (a := 3) (by decide); have := lv_neT q25 (a := 4) (by decide); have := lv_neT q32 (a := 5) (by decide); have := lv_neT q37 (a := 6) (by decide); have := lv_neT q42 (a := 7) (by decide); have := lv_neT q47 (a := 8) (by decide); have := lv_neT q52 (a := 9) (by decide); have := lv_neT q57 (a := 10) (by decide); have := lv_neT q66 (a := 11) (by decide); have := lv_neT q71 (a := 12) (by decide); have := lv_neT q76 (a := 13) (by decide); omega) (by decide) ?_
  refine lv_iconst (v := (-1)) S.1 S.2.1 dX11_count_201 (by decide) ?_
  exact o_iret S hr hlo I f dX11_count_202
theorem M11_count (l : Launch) (D : va_G) (cy : Nat → ClassId) (b : Nat) (A : Nat → Prop) (fl : Bool) {h : PH} {a0 : Nat} {x1 : Int32} {out : Int32 × PH} (f : F11_count h a0 x1 = some out) : Met l yX11_count vX11_count ({ frames := 2, cells := 0, slots := 0, locals := 42 } : Room) (va_Pc [.ref (b + a0), .int x1] (ph_B D cy b A fl h)) (va_Qi (fun (r : Int32) (u : PH) => (r, u) = out) (ph_B D cy b A fl) A) 0 0 A :=
  o_met (by decide) rfl (Nat.le_of_ble_eq_true rfl) rfl (fun p e s m below meth c S hr hlo hnm ls hl I => T11_count_0 S hr hlo ((gd f).2) I (lv_sub hl [0, 1] rfl))
def vX11_farNow : List Cond := .code yX11_farNow cX11_farNow 2 (some .int) :: TB
theorem lf11_farNow_18 : Fl vX11_farNow RX11 18 11 3 := ⟨RX11, TX11, 14, rfl, by decide, (fun w h9 => List.mem_cons_of_mem _ (wC_wsX110 w h9)), (List.mem_cons_of_mem _ wT_1_18)⟩
theorem lf11_farNow_47 : Fl vX11_farNow RX11 47 11 7 := ⟨RX11, TX11, 14, rfl, by decide, (fun w h9 => List.mem_cons_of_mem _ (wC_wsX110 w h9)), (List.mem_cons_of_mem _ wT_2_8)⟩
theorem lf11_farNow_122 : Fl vX11_farNow RX11 122 4 5 := ⟨RX4, TX4, 11, rfl, by decide, (fun w h9 => List.mem_cons_of_mem _ (wC_wsX40 w h9)), (List.mem_cons_of_mem _ wT_33_11)⟩
theorem lf11_farNow_37 : Fl vX11_farNow RX11 37 11 5 := ⟨RX11, TX11, 14, rfl, by decide, (fun w h9 => List.mem_cons_of_mem _ (wC_wsX110 w h9)), (List.mem_cons_of_mem _ wT_2_3)⟩
theorem lf11_farNow_186 : Fl vX11_farNow RX11 186 4 0 := ⟨RX4, TX4, 11, rfl, by decide, (fun w h9 => List.mem_cons_of_mem _ (wC_wsX40 w h9)), (List.mem_cons_of_mem _ wT_34_1)⟩
theorem gX11_farNow_X6_peakXAt : GoodIn vX11_farNow (wsV RX11 176 RX6 yX6_peakXAt vX6_peakXAt) := gV_of wT_34_2 wT_24_13 wT_24_14 wT_2_2 wT_24_15
theorem gX11_farNow_X8_farFrom : GoodIn vX11_farNow (wsV RX11 390 RX8 yX8_farFrom vX8_farFrom) := gV_of wT_34_3 wT_34_4 wT_34_5 wT_1_17 wT_34_6
theorem cd11_farNow : Cd yX11_farNow 1 := ⟨by decide, by decide, by decide +kernel⟩
set_option maxHeartbeats 4000000 in
set_option maxRecDepth 100000 in
theorem T11_farNow_0 (S : CallFix p m c cX11_farNow 2 s args vX11_farNow RX11) (hr : meth.sig.returnType = (some .int)) (hlo : meth.locks = false) {out : Int32 × PH} {h : PH} {a0 : Nat} {x1 : Int32} (f : F11_farNow_0  h a0 x1 = some out) {H : Heap} {locs : List Loc} (I : ph_I D cy b A fl h s H locs) {ls : Array Slot} (hl : lv_has ls 2 [(0, .ref (b + a0)), (1, .int x1)]) : W p l e ({ frames := 5, cells := 0, slots := 0, locals := 125 } : Room) s m args below meth c H locs 0 0 (MQ below (va_Qi (fun (r : Int32) (u : PH) => (r, u) = out) (ph_B D cy b A fl) A) args s 0 0 A) (F0 m 0 ls []) := by
  unfold F11_farNow_0 at f
  refine lv_aload_n S.1 S.2.1 dX11_farNow_0 rfl (lv_at hl 0 rfl) ?_
  obtain ⟨r1, e2, f⟩ := ob f
  refine o_gR S lf11_farNow_18 I e2 dX11_farNow_1 ?_
  refine lv_aload_n S.1 S.2.1 dX11_farNow_4 rfl (lv_at hl 0 rfl) ?_
  obtain ⟨r3, e4, f⟩ := ob f
  refine o_gR S lf11_farNow_47 I e4 dX11_farNow_5 ?_
  obtain ⟨r5, e6, f⟩ := ob f
  refine o_gR S lf11_farNow_122 I e6 dX11_farNow_8 ?_
  refine lv_iload_n S.1 S.2.1 dX11_farNow_11 rfl (lv_at hl 1 rfl) ?_
  obtain ⟨v8, e7, f⟩ := ob f
  refine o_iald S I e7 dX11_farNow_12 ?_
  refine lv_aload_n S.1 S.2.1 dX11_farNow_13 rfl (lv_at hl 0 rfl) ?_
  obtain ⟨r9, e10, f⟩ := ob f
  refine o_gR S lf11_farNow_37 I e10 dX11_farNow_14 ?_
  refine lv_aload_n S.1 S.2.1 dX11_farNow_17 rfl (lv_at hl 0 rfl) ?_
  obtain ⟨r11, e12, f⟩ := ob f
  refine o_gR S lf11_farNow_47 I e12 dX11_farNow_18 ?_
  obtain ⟨v13, e14, f⟩ := ob f
  refine o_gI S lf11_farNow_186 I e14 dX11_farNow_21 ?_
  obtain ⟨o15, e16, f⟩ := ob f
  refine o_Vi S (As := [.int v13]) (rest := [.int v8, .ref (b + r1)]) (ci := 6) (M6_peakXAt l D cy b A fl e16) gX11_farNow_X6_peakXAt rfl rfl rfl cd6_peakXAt ⟨Nat.le_of_ble_eq_true rfl, Nat.le_of_ble_eq_true rfl⟩ I (gd e16).1 clX6 rfl rfl hl.1 rfl (Nat.le_of_ble_eq_true rfl) dX11_farNow_24 ⟨Nat.le_of_ble_eq_true rfl, Nat.le_of_ble_eq_true rfl⟩ (fun H locs I => ?_)
  obtain ⟨o17, e18, f⟩ := ob f
  refine o_Vi S (As := [.int v8, .int o15.1]) (rest := []) (ci := 8) (M8_farFrom l D cy b A fl e18) gX11_farNow_X8_farFrom rfl rfl rfl cd8_farFrom ⟨Nat.le_of_ble_eq_true rfl, Nat.le_of_ble_eq_true rfl⟩ I (gd e18).1 clX8 rfl rfl hl.1 rfl (Nat.le_of_ble_eq_true rfl) dX11_farNow_27 ⟨Nat.le_of_ble_eq_true rfl, Nat.le_of_ble_eq_true rfl⟩ (fun H locs I => ?_)
  exact o_iret S hr hlo I f dX11_farNow_30
theorem M11_farNow (l : Launch) (D : va_G) (cy : Nat → ClassId) (b : Nat) (A : Nat → Prop) (fl : Bool) {h : PH} {a0 : Nat} {x1 : Int32} {out : Int32 × PH} (f : F11_farNow h a0 x1 = some out) : Met l yX11_farNow vX11_farNow ({ frames := 5, cells := 0, slots := 0, locals := 125 } : Room) (va_Pc [.ref (b + a0), .int x1] (ph_B D cy b A fl h)) (va_Qi (fun (r : Int32) (u : PH) => (r, u) = out) (ph_B D cy b A fl) A) 0 0 A :=
  o_met (by decide) rfl (Nat.le_of_ble_eq_true rfl) rfl (fun p e s m below meth c S hr hlo hnm ls hl I => T11_farNow_0 S hr hlo ((gd f).2) I (lv_sub hl [0, 1] rfl))
def vX11_deeper : List Cond := .code yX11_deeper cX11_deeper 5 (some .int) :: TB
theorem gX11_deeper_X11_isSurfer : GoodIn vX11_deeper (wsV RX11 115 RX11 yX11_isSurfer vX11_isSurfer) := gV_of wT_33_17 wT_33_18 wT_33_19 wT_1_2 wT_33_20
theorem gX11_deeper_X11_farNow : GoodIn vX11_deeper (wsV RX11 140 RX11 yX11_farNow vX11_farNow) := gV_of wT_33_21 wT_33_22 wT_33_23 wT_1_2 wT_34_0
theorem cd11_deeper : Cd yX11_deeper 2 := ⟨by decide, by decide, by decide +kernel⟩
set_option maxHeartbeats 4000000 in
set_option maxRecDepth 100000 in
theorem T11_deeper_0 (S : CallFix p m c cX11_deeper 5 s args vX11_deeper RX11) (hr : meth.sig.returnType = (some .int)) (hlo : meth.locks = false) {out : Int32 × PH} {h : PH} {a0 : Nat} {x1 : Int32} {x2 : Int32} (f : F11_deeper_0  h a0 x1 x2 = some out) {H : Heap} {locs : List Loc} (I : ph_I D cy b A fl h s H locs) {ls : Array Slot} (hl : lv_has ls 5 [(0, .ref (b + a0)), (1, .int x1), (2, .int x2)]) : W p l e ({ frames := 6, cells := 0, slots := 0, locals := 146 } : Room) s m args below meth c H locs 0 0 (MQ below (va_Qi (fun (r : Int32) (u : PH) => (r, u) = out) (ph_B D cy b A fl) A) args s 0 0 A) (F0 m 0 ls []) := by
  unfold F11_deeper_0 at f
  refine lv_aload_n S.1 S.2.1 dX11_deeper_0 rfl (lv_at hl 0 rfl) ?_
  refine lv_iload_n S.1 S.2.1 dX11_deeper_1 rfl (lv_at hl 1 rfl) ?_
  obtain ⟨o1, e2, f⟩ := ob f
  refine o_Vi S (As := [.int x1]) (rest := []) (ci := 11) (M11_isSurfer l D cy b A fl e2) gX11_deeper_X11_isSurfer rfl rfl rfl cd11_isSurfer ⟨Nat.le_of_ble_eq_true rfl, Nat.le_of_ble_eq_true rfl⟩ I (gd e2).1 clX11 rfl rfl hl.1 rfl (Nat.le_of_ble_eq_true rfl) dX11_deeper_2 ⟨Nat.le_of_ble_eq_true rfl, Nat.le_of_ble_eq_true rfl⟩ (fun H locs I => ?_)
  refine lv_if_eq (tgt := 16) S.1 S.2.1 dX11_deeper_5 (by decide) (fun q3 => ?_) (fun q3 => ?_)
  · have f := (if_pos q3).symm.trans f
    refine lv_iconst (v := (-1)) S.1 S.2.1 dX11_deeper_16 (by decide) ?_
    exact o_iret S hr hlo I f dX11_deeper_17
  · have f := (if_neg q3).symm.trans f
    refine lv_aload_n S.1 S.2.1 dX11_deeper_8 rfl (lv_at hl 0 rfl) ?_
    refine lv_iload_n S.1 S.2.1 dX11_deeper_9 rfl (lv_at hl 2 rfl) ?_
    obtain ⟨o4, e5, f⟩ := ob f
    refine o_Vi S (As := [.int x2]) (rest := []) (ci := 11) (M11_isSurfer l D cy b A fl e5) gX11_deeper_X11_isSurfer rfl rfl rfl cd11_isSurfer ⟨Nat.le_of_ble_eq_true rfl, Nat.le_of_ble_eq_true rfl⟩ I (gd e5).1 clX11 rfl rfl hl.1 rfl (Nat.le_of_ble_eq_true rfl) dX11_deeper_10 ⟨Nat.le_of_ble_eq_true rfl, Nat.le_of_ble_eq_true rfl⟩ (fun H locs I => ?_)
    refine lv_if_ne (tgt := 18) S.1 S.2.1 dX11_deeper_13 (by decide) (fun q6 => ?_) (fun q6 => ?_)
    · have f := (if_neg q6).symm.trans f
      refine lv_aload_n S.1 S.2.1 dX11_deeper_18 rfl (lv_at hl 0 rfl) ?_
      refine lv_iload_n S.1 S.2.1 dX11_deeper_19 rfl (lv_at hl 1 rfl) ?_
      obtain ⟨o7, e8, f⟩ := ob f
      refine o_Vi S (As := [.int x1]) (rest := []) (ci := 11) (M11_farNow l D cy b A fl e8) gX11_deeper_X11_farNow rfl rfl rfl cd11_farNow ⟨Nat.le_of_ble_eq_true rfl, Nat.le_of_ble_eq_true rfl⟩ I (gd e8).1 clX11 rfl rfl hl.1 rfl (Nat.le_of_ble_eq_true rfl) dX11_deeper_20 ⟨Nat.le_of_ble_eq_true rfl, Nat.le_of_ble_eq_true rfl⟩ (fun H locs I => ?_)
      refine lv_istore_n (lv' := [(3, .int o7.1), (0, .ref (b + a0)), (1, .int x1), (2, .int x2)]) S.1 S.2.1 dX11_deeper_23 rfl hl (by decide) rfl (fun ls hl => ?_)
      refine lv_aload_n S.1 S.2.1 dX11_deeper_24 rfl (lv_at hl 1 rfl) ?_
      refine lv_iload_n S.1 S.2.1 dX11_deeper_25 rfl (lv_at hl 3 rfl) ?_
      obtain ⟨o9, e10, f⟩ := ob f
      refine o_Vi S (As := [.int x2]) (rest := []) (ci := 11) (M11_farNow l D cy b A fl e10) gX11_deeper_X11_farNow rfl rfl rfl cd11_farNow ⟨Nat.le_of_ble_eq_true rfl, Nat.le_of_ble_eq_true rfl⟩ I (gd e10).1 clX11 rfl rfl hl.1 rfl (Nat.le_of_ble_eq_true rfl) dX11_deeper_26 ⟨Nat.le_of_ble_eq_true rfl, Nat.le_of_ble_eq_true rfl⟩ (fun H locs I => ?_)
      refine lv_istore (lv' := [(4, .int o9.1), (3, .int o7.1), (0, .ref (b + a0)), (1, .int x1), (2, .int x2)]) S.1 S.2.1 dX11_deeper_29 hl (by decide) rfl (fun ls hl => ?_)
      refine lv_iload_n S.1 S.2.1 dX11_deeper_31 rfl (lv_at hl 1 rfl) ?_
      refine lv_iload S.1 S.2.1 dX11_deeper_32 (lv_at hl 0 rfl) ?_
      refine lv_icmp_ne (tgt := 39) S.1 S.2.1 dX11_deeper_34 (by decide) (fun q11 => ?_) (fun q11 => ?_)
      · have f := (if_neg q11).symm.trans f
        refine lv_iload_n S.1 S.2.1 dX11_deeper_39 rfl (lv_at hl 1 rfl) ?_
        refine lv_iload S.1 S.2.1 dX11_deeper_40 (lv_at hl 0 rfl) ?_
        refine lv_icmp_ge (tgt := 49) S.1 S.2.1 dX11_deeper_42 (by decide) (fun q12 => ?_) (fun q12 => ?_)
        · have f := (if_pos q12).symm.trans f
          refine lv_iconst (v := 2) S.1 S.2.1 dX11_deeper_49 (by decide) ?_
          exact o_iret S hr hlo I f dX11_deeper_50
        · have f := (if_neg q12).symm.trans f
          refine lv_iconst (v := 1) S.1 S.2.1 dX11_deeper_45 (by decide) ?_
          refine lv_goto (tgt := 50) S.1 S.2.1 dX11_deeper_46 (by decide) ?_
          exact o_iret S hr hlo I f dX11_deeper_50
      · have f := (if_pos q11).symm.trans f
        refine lv_iconst (v := 0) S.1 S.2.1 dX11_deeper_37 (by decide) ?_
        exact o_iret S hr hlo I f dX11_deeper_38
    · have f := (if_pos q6).symm.trans f
      refine lv_iconst (v := (-1)) S.1 S.2.1 dX11_deeper_16 (by decide) ?_
      exact o_iret S hr hlo I f dX11_deeper_17
theorem M11_deeper (l : Launch) (D : va_G) (cy : Nat → ClassId) (b : Nat) (A : Nat → Prop) (fl : Bool) {h : PH} {a0 : Nat} {x1 : Int32} {x2 : Int32} {out : Int32 × PH} (f : F11_deeper h a0 x1 x2 = some out) : Met l yX11_deeper vX11_deeper ({ frames := 6, cells := 0, slots := 0, locals := 146 } : Room) (va_Pc [.ref (b + a0), .int x1, .int x2] (ph_B D cy b A fl h)) (va_Qi (fun (r : Int32) (u : PH) => (r, u) = out) (ph_B D cy b A fl) A) 0 0 A :=
  o_met (by decide) rfl (Nat.le_of_ble_eq_true rfl) rfl (fun p e s m below meth c S hr hlo hnm ls hl I => T11_deeper_0 S hr hlo ((gd f).2) I (lv_sub hl [0, 1, 2] rfl))
end
