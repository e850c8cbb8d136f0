section
variable {p : Program} {l : Launch} {e : Env} {s : State} {m : MethodId} {args : Array Value} {below : List Frame} {meth : Method} {c : Code} {D : va_G} {cy : Nat → ClassId} {b : Nat} {A : Nat → Prop} {fl : Bool}
set_option maxHeartbeats 4000000 in
set_option maxRecDepth 100000 in
theorem T2_product_12 (S : CallFix p m c cX2_product 8 s args vX2_product RX2) (hr : meth.sig.returnType = (some .long)) (hlo : meth.locks = false) {out : Int64 × PH} {h : PH} {j0 : Int64} {j2 : Int64} {t0 : Int64} (f : F2_product_12  h j0 j2 t0 = some out) {H : Heap} {locs : List Loc} (I : ph_I D cy b A fl h s H locs) {ls : Array Slot} (hl : lv_has ls 8 [(0, .long j0), (2, .long j2)]) : W p l e ({ frames := 0, cells := 0, slots := 0, locals := 0 } : Room) s m args below meth c H locs 0 0 (MQ below (va_Ql (fun (r : Int64) (u : PH) => (r, u) = out) (ph_B D cy b A fl) A) args s 0 0 A) (F0 m 12 ls [.long t0]) := by
  unfold F2_product_12 at f
  refine lv_lstore (lv' := [(4, .long t0), (0, .long j0), (2, .long j2)]) S.1 S.2.1 dX2_product_12 hl (by decide) rfl (fun ls hl => ?_)
  refine lv_lload_n S.1 S.2.1 dX2_product_14 rfl (lv_at hl 2 rfl) ?_
  refine lv_lconst (v := 0) S.1 S.2.1 dX2_product_15 (by decide) ?_
  refine W.lcmp S.1 S.2.1 dX2_product_16 ?_
  refine lv_if_ge (tgt := 25) S.1 S.2.1 dX2_product_17 (by decide) (fun q1 => ?_) (fun q1 => ?_)
  · have f := (if_pos q1).symm.trans f
    refine lv_lload_n S.1 S.2.1 dX2_product_25 rfl (lv_at hl 2 rfl) ?_
    exact T2_product_26 S hr hlo  f I (lv_sub hl [1, 2, 0] rfl)
  · have f := (if_neg q1).symm.trans f
    refine lv_lload_n S.1 S.2.1 dX2_product_20 rfl (lv_at hl 2 rfl) ?_
    refine lv_lneg S.1 S.2.1 dX2_product_21 ?_
    refine lv_goto (tgt := 26) S.1 S.2.1 dX2_product_22 (by decide) ?_
    exact T2_product_26 S hr hlo  f I (lv_sub hl [1, 2, 0] rfl)
set_option maxHeartbeats 4000000 in
set_option maxRecDepth 100000 in
theorem T2_product_0 (S : CallFix p m c cX2_product 8 s args vX2_product RX2) (hr : meth.sig.returnType = (some .long)) (hlo : meth.locks = false) {out : Int64 × PH} {h : PH} {j0 : Int64} {j2 : Int64} (f : F2_product_0  h j0 j2 = some out) {H : Heap} {locs : List Loc} (I : ph_I D cy b A fl h s H locs) {ls : Array Slot} (hl : lv_has ls 8 [(0, .long j0), (2, .long j2)]) : W p l e ({ frames := 0, cells := 0, slots := 0, locals := 0 } : Room) s m args below meth c H locs 0 0 (MQ below (va_Ql (fun (r : Int64) (u : PH) => (r, u) = out) (ph_B D cy b A fl) A) args s 0 0 A) (F0 m 0 ls []) := by
  unfold F2_product_0 at f
  refine lv_lload_n S.1 S.2.1 dX2_product_0 rfl (lv_at hl 0 rfl) ?_
  refine lv_lconst (v := 0) S.1 S.2.1 dX2_product_1 (by decide) ?_
  refine W.lcmp S.1 S.2.1 dX2_product_2 ?_
  refine lv_if_ge (tgt := 11) S.1 S.2.1 dX2_product_3 (by decide) (fun q1 => ?_) (fun q1 => ?_)
  · have f := (if_pos q1).symm.trans f
    refine lv_lload_n S.1 S.2.1 dX2_product_11 rfl (lv_at hl 0 rfl) ?_
    exact T2_product_12 S hr hlo  f I (lv_sub hl [0, 1] rfl)
  · have f := (if_neg q1).symm.trans f
    refine lv_lload_n S.1 S.2.1 dX2_product_6 rfl (lv_at hl 0 rfl) ?_
    refine lv_lneg S.1 S.2.1 dX2_product_7 ?_
    refine lv_goto (tgt := 12) S.1 S.2.1 dX2_product_8 (by decide) ?_
    exact T2_product_12 S hr hlo  f I (lv_sub hl [0, 1] rfl)
theorem M2_product (l : Launch) (D : va_G) (cy : Nat → ClassId) (b : Nat) (A : Nat → Prop) (fl : Bool) {h : PH} {j0 : Int64} {j2 : Int64} {out : Int64 × PH} (f : F2_product h j0 j2 = some out) : Met l yX2_product vX2_product ({ frames := 0, cells := 0, slots := 0, locals := 0 } : Room) (va_Pc [.long j0, .long j2] (ph_B D cy b A fl h)) (va_Ql (fun (r : Int64) (u : PH) => (r, u) = out) (ph_B D cy b A fl) A) 0 0 A :=
  o_met (by decide) rfl (Nat.le_of_ble_eq_true rfl) rfl (fun p e s m below meth c S hr hlo hnm ls hl I => T2_product_0 S hr hlo (f) I (lv_sub hl [0, 1] rfl))
def vX2_join : List Cond := .code yX2_join cX2_join 5 (some .long) :: TB
theorem gX2_join_X2_oneIf : GoodIn vX2_join (va_wsS RX2 33 yX2_oneIf vX2_oneIf) := gS_of wT_25_18 wT_25_19 wT_3_14 wT_25_20
theorem gX2_join_X2_product : GoodIn vX2_join (va_wsS RX2 37 yX2_product vX2_product) := gS_of wT_25_21 wT_25_22 wT_3_14 wT_25_23
theorem cd2_join : Cd yX2_join 3 := ⟨by decide, by decide, by decide +kernel⟩
set_option maxHeartbeats 4000000 in
set_option maxRecDepth 100000 in
theorem T2_join_134 (S : CallFix p m c cX2_join 5 s args vX2_join RX2) (hr : meth.sig.returnType = (some .long)) (hlo : meth.locks = false) {out : Int64 × PH} {h : PH} {s0 : Int32} (f : F2_join_134  h s0 = some out) {H : Heap} {locs : List Loc} (I : ph_I D cy b A fl h s H locs) {ls : Array Slot} (hl : lv_has ls 5 []) : W p l e ({ frames := 1, cells := 0, slots := 0, locals := 27 } : Room) s m args below meth c H locs 0 0 (MQ below (va_Ql (fun (r : Int64) (u : PH) => (r, u) = out) (ph_B D cy b A fl) A) args s 0 0 A) (F0 m 134 ls [.int s0]) := by
  unfold F2_join_134 at f
  obtain ⟨o1, e2, f⟩ := ob f
  refine o_Sl S (As := [.int s0]) (rest := []) (M2_oneIf l D cy b A fl e2) gX2_join_X2_oneIf rfl rfl rfl cd2_oneIf ⟨Nat.le_of_ble_eq_true rfl, Nat.le_of_ble_eq_true rfl⟩ I rfl hl.1 rfl (Nat.le_of_ble_eq_true rfl) dX2_join_134 ⟨Nat.le_of_ble_eq_true rfl, Nat.le_of_ble_eq_true rfl⟩ (fun H locs I => ?_)
  exact o_lret S hr hlo I f dX2_join_137
set_option maxHeartbeats 4000000 in
set_option maxRecDepth 100000 in
theorem T2_join_133 (S : CallFix p m c cX2_join 5 s args vX2_join RX2) (hr : meth.sig.returnType = (some .long)) (hlo : meth.locks = false) {out : Int64 × PH} {h : PH}  (f : F2_join_133  h  = some out) {H : Heap} {locs : List Loc} (I : ph_I D cy b A fl h s H locs) {ls : Array Slot} (hl : lv_has ls 5 []) : W p l e ({ frames := 1, cells := 0, slots := 0, locals := 27 } : Room) s m args below meth c H locs 0 0 (MQ below (va_Ql (fun (r : Int64) (u : PH) => (r, u) = out) (ph_B D cy b A fl) A) args s 0 0 A) (F0 m 133 ls []) := by
  unfold F2_join_133 at f
  refine lv_iconst (v := 0) S.1 S.2.1 dX2_join_133 (by decide) ?_
  exact T2_join_134 S hr hlo  f I (lv_sub hl [] rfl)
set_option maxHeartbeats 4000000 in
set_option maxRecDepth 100000 in
theorem T2_join_113 (S : CallFix p m c cX2_join 5 s args vX2_join RX2) (hr : meth.sig.returnType = (some .long)) (hlo : meth.locks = false) {out : Int64 × PH} {h : PH} {s0 : Int32} (f : F2_join_113  h s0 = some out) {H : Heap} {locs : List Loc} (I : ph_I D cy b A fl h s H locs) {ls : Array Slot} (hl : lv_has ls 5 []) : W p l e ({ frames := 1, cells := 0, slots := 0, locals := 27 } : Room) s m args below meth c H locs 0 0 (MQ below (va_Ql (fun (r : Int64) (u : PH) => (r, u) = out) (ph_B D cy b A fl) A) args s 0 0 A) (F0 m 113 ls [.int s0]) := by
  unfold F2_join_113 at f
  obtain ⟨o1, e2, f⟩ := ob f
  refine o_Sl S (As := [.int s0]) (rest := []) (M2_oneIf l D cy b A fl e2) gX2_join_X2_oneIf rfl rfl rfl cd2_oneIf ⟨Nat.le_of_ble_eq_true rfl, Nat.le_of_ble_eq_true rfl⟩ I rfl hl.1 rfl (Nat.le_of_ble_eq_true rfl) dX2_join_113 ⟨Nat.le_of_ble_eq_true rfl, Nat.le_of_ble_eq_true rfl⟩ (fun H locs I => ?_)
  exact o_lret S hr hlo I f dX2_join_116
set_option maxHeartbeats 4000000 in
set_option maxRecDepth 100000 in
theorem T2_join_108 (S : CallFix p m c cX2_join 5 s args vX2_join RX2) (hr : meth.sig.returnType = (some .long)) (hlo : meth.locks = false) {out : Int64 × PH} {h : PH}  (f : F2_join_108  h  = some out) {H : Heap} {locs : List Loc} (I : ph_I D cy b A fl h s H locs) {ls : Array Slot} (hl : lv_has ls 5 []) : W p l e ({ frames := 1, cells := 0, slots := 0, locals := 27 } : Room) s m args below meth c H locs 0 0 (MQ below (va_Ql (fun (r : Int64) (u : PH) => (r, u) = out) (ph_B D cy b A fl) A) args s 0 0 A) (F0 m 108 ls []) := by
  unfold F2_join_108 at f
  refine lv_iconst (v := 1) S.1 S.2.1 dX2_join_108 (by decide) ?_
  refine lv_goto (tgt := 113) S.1 S.2.1 dX2_join_109 (by decide) ?_
  exact T2_join_113 S hr hlo  f I (lv_sub hl [] rfl)
set_option maxHeartbeats 4000000 in
set_option maxRecDepth 100000 in
theorem T2_join_149 (S : CallFix p m c cX2_join 5 s args vX2_join RX2) (hr : meth.sig.returnType = (some .long)) (hlo : meth.locks = false) {out : Int64 × PH} {h : PH} {s0 : Int32} (f : F2_join_149  h s0 = some out) {H : Heap} {locs : List Loc} (I : ph_I D cy b A fl h s H locs) {ls : Array Slot} (hl : lv_has ls 5 []) : W p l e ({ frames := 1, cells := 0, slots := 0, locals := 27 } : Room) s m args below meth c H locs 0 0 (MQ below (va_Ql (fun (r : Int64) (u : PH) => (r, u) = out) (ph_B D cy b A fl) A) args s 0 0 A) (F0 m 149 ls [.int s0]) := by
  unfold F2_join_149 at f
  obtain ⟨o1, e2, f⟩ := ob f
  refine o_Sl S (As := [.int s0]) (rest := []) (M2_oneIf l D cy b A fl e2) gX2_join_X2_oneIf rfl rfl rfl cd2_oneIf ⟨Nat.le_of_ble_eq_true rfl, Nat.le_of_ble_eq_true rfl⟩ I rfl hl.1 rfl (Nat.le_of_ble_eq_true rfl) dX2_join_149 ⟨Nat.le_of_ble_eq_true rfl, Nat.le_of_ble_eq_true rfl⟩ (fun H locs I => ?_)
  exact o_lret S hr hlo I f dX2_join_152
set_option maxHeartbeats 4000000 in
set_option maxRecDepth 100000 in
theorem T2_join_164 (S : CallFix p m c cX2_join 5 s args vX2_join RX2) (hr : meth.sig.returnType = (some .long)) (hlo : meth.locks = false) {out : Int64 × PH} {h : PH} {s0 : Int32} (f : F2_join_164  h s0 = some out) {H : Heap} {locs : List Loc} (I : ph_I D cy b A fl h s H locs) {ls : Array Slot} (hl : lv_has ls 5 []) : W p l e ({ frames := 1, cells := 0, slots := 0, locals := 27 } : Room) s m args below meth c H locs 0 0 (MQ below (va_Ql (fun (r : Int64) (u : PH) => (r, u) = out) (ph_B D cy b A fl) A) args s 0 0 A) (F0 m 164 ls [.int s0]) := by
  unfold F2_join_164 at f
  obtain ⟨o1, e2, f⟩ := ob f
  refine o_Sl S (As := [.int s0]) (rest := []) (M2_oneIf l D cy b A fl e2) gX2_join_X2_oneIf rfl rfl rfl cd2_oneIf ⟨Nat.le_of_ble_eq_true rfl, Nat.le_of_ble_eq_true rfl⟩ I rfl hl.1 rfl (Nat.le_of_ble_eq_true rfl) dX2_join_164 ⟨Nat.le_of_ble_eq_true rfl, Nat.le_of_ble_eq_true rfl⟩ (fun H locs I => ?_)
  exact o_lret S hr hlo I f dX2_join_167
set_option maxHeartbeats 4000000 in
set_option maxRecDepth 100000 in
theorem T2_join_179 (S : CallFix p m c cX2_join 5 s args vX2_join RX2) (hr : meth.sig.returnType = (some .long)) (hlo : meth.locks = false) {out : Int64 × PH} {h : PH} {s0 : Int32} (f : F2_join_179  h s0 = some out) {H : Heap} {locs : List Loc} (I : ph_I D cy b A fl h s H locs) {ls : Array Slot} (hl : lv_has ls 5 []) : W p l e ({ frames := 1, cells := 0, slots := 0, locals := 27 } : Room) s m args below meth c H locs 0 0 (MQ below (va_Ql (fun (r : Int64) (u : PH) => (r, u) = out) (ph_B D cy b A fl) A) args s 0 0 A) (F0 m 179 ls [.int s0]) := by
  unfold F2_join_179 at f
  obtain ⟨o1, e2, f⟩ := ob f
  refine o_Sl S (As := [.int s0]) (rest := []) (M2_oneIf l D cy b A fl e2) gX2_join_X2_oneIf rfl rfl rfl cd2_oneIf ⟨Nat.le_of_ble_eq_true rfl, Nat.le_of_ble_eq_true rfl⟩ I rfl hl.1 rfl (Nat.le_of_ble_eq_true rfl) dX2_join_179 ⟨Nat.le_of_ble_eq_true rfl, Nat.le_of_ble_eq_true rfl⟩ (fun H locs I => ?_)
  exact o_lret S hr hlo I f dX2_join_182
set_option maxHeartbeats 4000000 in
set_option maxRecDepth 100000 in
theorem T2_join_194 (S : CallFix p m c cX2_join 5 s args vX2_join RX2) (hr : meth.sig.returnType = (some .long)) (hlo : meth.locks = false) {out : Int64 × PH} {h : PH} {s0 : Int32} (f : F2_join_194  h s0 = some out) {H : Heap} {locs : List Loc} (I : ph_I D cy b A fl h s H locs) {ls : Array Slot} (hl : lv_has ls 5 []) : W p l e ({ frames := 1, cells := 0, slots := 0, locals := 27 } : Room) s m args below meth c H locs 0 0 (MQ below (va_Ql (fun (r : Int64) (u : PH) => (r, u) = out) (ph_B D cy b A fl) A) args s 0 0 A) (F0 m 194 ls [.int s0]) := by
  unfold F2_join_194 at f
  obtain ⟨o1, e2, f⟩ := ob f
  refine o_Sl S (As := [.int s0]) (rest := []) (M2_oneIf l D cy b A fl e2) gX2_join_X2_oneIf rfl rfl rfl cd2_oneIf ⟨Nat.le_of_ble_eq_true rfl, Nat.le_of_ble_eq_true rfl⟩ I rfl hl.1 rfl (Nat.le_of_ble_eq_true rfl) dX2_join_194 ⟨Nat.le_of_ble_eq_true rfl, Nat.le_of_ble_eq_true rfl⟩ (fun H locs I => ?_)
  exact o_lret S hr hlo I f dX2_join_197
set_option maxHeartbeats 4000000 in
set_option maxRecDepth 100000 in
theorem T2_join_209 (S : CallFix p m c cX2_join 5 s args vX2_join RX2) (hr : meth.sig.returnType = (some .long)) (hlo : meth.locks = false) {out : Int64 × PH} {h : PH} {s0 : Int32} (f : F2_join_209  h s0 = some out) {H : Heap} {locs : List Loc} (I : ph_I D cy b A fl h s H locs) {ls : Array Slot} (hl : lv_has ls 5 []) : W p l e ({ frames := 1, cells := 0, slots := 0, locals := 27 } : Room) s m args below meth c H locs 0 0 (MQ below (va_Ql (fun (r : Int64) (u : PH) => (r, u) = out) (ph_B D cy b A fl) A) args s 0 0 A) (F0 m 209 ls [.int s0]) := by
  unfold F2_join_209 at f
  obtain ⟨o1, e2, f⟩ := ob f
  refine o_Sl S (As := [.int s0]) (rest := []) (M2_oneIf l D cy b A fl e2) gX2_join_X2_oneIf rfl rfl rfl cd2_oneIf ⟨Nat.le_of_ble_eq_true rfl, Nat.le_of_ble_eq_true rfl⟩ I rfl hl.1 rfl (Nat.le_of_ble_eq_true rfl) dX2_join_209 ⟨Nat.le_of_ble_eq_true rfl, Nat.le_of_ble_eq_true rfl⟩ (fun H locs I => ?_)
  exact o_lret S hr hlo I f dX2_join_212
set_option maxHeartbeats 4000000 in
set_option maxRecDepth 100000 in
theorem T2_join_224 (S : CallFix p m c cX2_join 5 s args vX2_join RX2) (hr : meth.sig.returnType = (some .long)) (hlo : meth.locks = false) {out : Int64 × PH} {h : PH} {s0 : Int32} (f : F2_join_224  h s0 = some out) {H : Heap} {locs : List Loc} (I : ph_I D cy b A fl h s H locs) {ls : Array Slot} (hl : lv_has ls 5 []) : W p l e ({ frames := 1, cells := 0, slots := 0, locals := 27 } : Room) s m args below meth c H locs 0 0 (MQ below (va_Ql (fun (r : Int64) (u : PH) => (r, u) = out) (ph_B D cy b A fl) A) args s 0 0 A) (F0 m 224 ls [.int s0]) := by
  unfold F2_join_224 at f
  obtain ⟨o1, e2, f⟩ := ob f
  refine o_Sl S (As := [.int s0]) (rest := []) (M2_oneIf l D cy b A fl e2) gX2_join_X2_oneIf rfl rfl rfl cd2_oneIf ⟨Nat.le_of_ble_eq_true rfl, Nat.le_of_ble_eq_true rfl⟩ I rfl hl.1 rfl (Nat.le_of_ble_eq_true rfl) dX2_join_224 ⟨Nat.le_of_ble_eq_true rfl, Nat.le_of_ble_eq_true rfl⟩ (fun H locs I => ?_)
  exact o_lret S hr hlo I f dX2_join_227
set_option maxHeartbeats 4000000 in
set_option maxRecDepth 100000 in
theorem T2_join_0 (S : CallFix p m c cX2_join 5 s args vX2_join RX2) (hr : meth.sig.returnType = (some .long)) (hlo : meth.locks = false) {out : Int64 × PH} {h : PH} {x0 : Int32} {j1 : Int64} {j3 : Int64} (f : F2_join_0  h x0 j1 j3 = some out) {H : Heap} {locs : List Loc} (I : ph_I D cy b A fl h s H locs) {ls : Array Slot} (hl : lv_has ls 5 [(0, .int x0), (1, .long j1), (3, .long j3)]) : W p l e ({ frames := 1, cells := 0, slots := 0, locals := 27 } : Room) s m args below meth c H locs 0 0 (MQ below (va_Ql (fun (r : Int64) (u : PH) => (r, u) = out) (ph_B D cy b A fl) A) args s 0 0 A) (F0 m 0 ls []) := by
  unfold F2_join_0 at f
  refine lv_iload_n S.1 S.2.1 dX2_join_0 rfl (lv_at hl 0 rfl) ?_
  rcases Decidable.em (x0 = 16) with q1 | q1
  · have f := (if_pos q1).symm.trans f
    refine lv_tableIn (off := 116) (tgt := 117) S.1 S.2.1 dX2_join_1 (by rw [q1]; decide) (by rw [q1]; decide) (by rw [q1]; rfl) (by decide) ?_
    refine lv_lload_n S.1 S.2.1 dX2_join_117 rfl (lv_at hl 1 rfl) ?_
    refine lv_lconst (v := 0) S.1 S.2.1 dX2_join_118 (by decide) ?_
    refine W.lcmp S.1 S.2.1 dX2_join_119 ?_
    refine lv_if_eq (tgt := 133) S.1 S.2.1 dX2_join_120 (by decide) (fun q2 => ?_) (fun q2 => ?_)
    · have f := (if_pos q2).symm.trans f
      exact T2_join_133 S hr hlo  f I (lv_sub hl [] rfl)
    · have f := (if_neg q2).symm.trans f
      refine lv_lload_n S.1 S.2.1 dX2_join_123 rfl (lv_at hl 2 rfl) ?_
      refine lv_lconst (v := 0) S.1 S.2.1 dX2_join_124 (by decide) ?_
      refine W.lcmp S.1 S.2.1 dX2_join_125 ?_
      refine lv_if_eq (tgt := 133) S.1 S.2.1 dX2_join_126 (by decide) (fun q3 => ?_) (fun q3 => ?_)
      · have f := (if_pos q3).symm.trans f
        exact T2_join_133 S hr hlo  f I (lv_sub hl [] rfl)
      · have f := (if_neg q3).symm.trans f
        refine lv_iconst (v := 1) S.1 S.2.1 dX2_join_129 (by decide) ?_
        refine lv_goto (tgt := 134) S.1 S.2.1 dX2_join_130 (by decide) ?_
        exact T2_join_134 S hr hlo  f I (lv_sub hl [] rfl)
  have f := (if_neg q1).symm.trans f
  rcases Decidable.em (x0 = 17) with q4 | q4
  · have f := (if_pos q4).symm.trans f
    refine lv_tableIn (off := 95) (tgt := 96) S.1 S.2.1 dX2_join_1 (by rw [q4]; decide) (by rw [q4]; decide) (by rw [q4]; rfl) (by decide) ?_
    refine lv_lload_n S.1 S.2.1 dX2_join_96 rfl (lv_at hl 1 rfl) ?_
    refine lv_lconst (v := 0) S.1 S.2.1 dX2_join_97 (by decide) ?_
    refine W.lcmp S.1 S.2.1 dX2_join_98 ?_
    refine lv_if_ne (tgt := 108) S.1 S.2.1 dX2_join_99 (by decide) (fun q5 => ?_) (fun q5 => ?_)
    · have f := (if_neg q5).symm.trans f
      exact T2_join_108 S hr hlo  f I (lv_sub hl [] rfl)
    · have f := (if_pos q5).symm.trans f
      refine lv_lload_n S.1 S.2.1 dX2_join_102 rfl (lv_at hl 2 rfl) ?_
      refine lv_lconst (v := 0) S.1 S.2.1 dX2_join_103 (by decide) ?_
      refine W.lcmp S.1 S.2.1 dX2_join_104 ?_
      refine lv_if_eq (tgt := 112) S.1 S.2.1 dX2_join_105 (by decide) (fun q6 => ?_) (fun q6 => ?_)
      · have f := (if_pos q6).symm.trans f
        refine lv_iconst (v := 0) S.1 S.2.1 dX2_join_112 (by decide) ?_
        exact T2_join_113 S hr hlo  f I (lv_sub hl [] rfl)
      · have f := (if_neg q6).symm.trans f
        exact T2_join_108 S hr hlo  f I (lv_sub hl [] rfl)
  have f := (if_neg q4).symm.trans f
  rcases Decidable.em (x0 = 26) with q7 | q7
  · have f := (if_pos q7).symm.trans f
    refine lv_tableIn (off := 137) (tgt := 138) S.1 S.2.1 dX2_join_1 (by rw [q7]; decide) (by rw [q7]; decide) (by rw [q7]; rfl) (by decide) ?_
    refine lv_lload_n S.1 S.2.1 dX2_join_138 rfl (lv_at hl 1 rfl) ?_
    refine lv_lload_n S.1 S.2.1 dX2_join_139 rfl (lv_at hl 2 rfl) ?_
    refine W.lcmp S.1 S.2.1 dX2_join_140 ?_
    refine lv_if_ge (tgt := 148) S.1 S.2.1 dX2_join_141 (by decide) (fun q8 => ?_) (fun q8 => ?_)
    · have f := (if_pos q8).symm.trans f
      refine lv_iconst (v := 0) S.1 S.2.1 dX2_join_148 (by decide) ?_
      exact T2_join_149 S hr hlo  f I (lv_sub hl [] rfl)
    · have f := (if_neg q8).symm.trans f
      refine lv_iconst (v := 1) S.1 S.2.1 dX2_join_144 (by decide) ?_
      refine lv_goto (tgt := 149) S.1 S.2.1 dX2_join_145 (by decide) ?_
      exact T2_join_149 S hr hlo  f I (lv_sub hl [] rfl)
  have f := (if_neg q7).symm.trans f
  rcases Decidable.em (x0 = 27) with q9 | q9
  · have f := (if_pos q9).symm.trans f
    refine lv_tableIn (off := 152) (tgt := 153) S.1 S.2.1 dX2_join_1 (by rw [q9]; decide) (by rw [q9]; decide) (by rw [q9]; rfl) (by decide) ?_
    refine lv_lload_n S.1 S.2.1 dX2_join_153 rfl (lv_at hl 1 rfl) ?_
    refine lv_lload_n S.1 S.2.1 dX2_join_154 rfl (lv_at hl 2 rfl) ?_
    refine W.lcmp S.1 S.2.1 dX2_join_155 ?_
    refine lv_if_gt (tgt := 163) S.1 S.2.1 dX2_join_156 (by decide) (fun q10 => ?_) (fun q10 => ?_)
    · have f := (if_pos q10).symm.trans f
      refine lv_iconst (v := 0) S.1 S.2.1 dX2_join_163 (by decide) ?_
      exact T2_join_164 S hr hlo  f I (lv_sub hl [] rfl)
    · have f := (if_neg q10).symm.trans f
      refine lv_iconst (v := 1) S.1 S.2.1 dX2_join_159 (by decide) ?_
      refine lv_goto (tgt := 164) S.1 S.2.1 dX2_join_160 (by decide) ?_
      exact T2_join_164 S hr hlo  f I (lv_sub hl [] rfl)
  have f := (if_neg q9).symm.trans f
  rcases Decidable.em (x0 = 28) with q11 | q11
  · have f := (if_pos q11).symm.trans f
    refine lv_tableIn (off := 167) (tgt := 168) S.1 S.2.1 dX2_join_1 (by rw [q11]; decide) (by rw [q11]; decide) (by rw [q11]; rfl) (by decide) ?_
    refine lv_lload_n S.1 S.2.1 dX2_join_168 rfl (lv_at hl 1 rfl) ?_
    refine lv_lload_n S.1 S.2.1 dX2_join_169 rfl (lv_at hl 2 rfl) ?_
    refine W.lcmp S.1 S.2.1 dX2_join_170 ?_
    refine lv_if_ne (tgt := 178) S.1 S.2.1 dX2_join_171 (by decide) (fun q12 => ?_) (fun q12 => ?_)
    · have f := (if_neg q12).symm.trans f
      refine lv_iconst (v := 0) S.1 S.2.1 dX2_join_178 (by decide) ?_
      exact T2_join_179 S hr hlo  f I (lv_sub hl [] rfl)
    · have f := (if_pos q12).symm.trans f
      refine lv_iconst (v := 1) S.1 S.2.1 dX2_join_174 (by decide) ?_
      refine lv_goto (tgt := 179) S.1 S.2.1 dX2_join_175 (by decide) ?_
      exact T2_join_179 S hr hlo  f I (lv_sub hl [] rfl)
  have f := (if_neg q11).symm.trans f
  rcases Decidable.em (x0 = 29) with q13 | q13
  · have f := (if_pos q13).symm.trans f
    refine lv_tableIn (off := 182) (tgt := 183) S.1 S.2.1 dX2_join_1 (by rw [q13]; decide) (by rw [q13]; decide) (by rw [q13]; rfl) (by decide) ?_
    refine lv_lload_n S.1 S.2.1 dX2_join_183 rfl (lv_at hl 1 rfl) ?_
    refine lv_lload_n S.1 S.2.1 dX2_join_184 rfl (lv_at hl 2 rfl) ?_
    refine W.lcmp S.1 S.2.1 dX2_join_185 ?_
    refine lv_if_eq (tgt := 193) S.1 S.2.1 dX2_join_186 (by decide) (fun q14 => ?_) (fun q14 => ?_)
    · have f := (if_pos q14).symm.trans f
      refine lv_iconst (v := 0) S.1 S.2.1 dX2_join_193 (by decide) ?_
      exact T2_join_194 S hr hlo  f I (lv_sub hl [] rfl)
    · have f := (if_neg q14).symm.trans f
      refine lv_iconst (v := 1) S.1 S.2.1 dX2_join_189 (by decide) ?_
      refine lv_goto (tgt := 194) S.1 S.2.1 dX2_join_190 (by decide) ?_
      exact T2_join_194 S hr hlo  f I (lv_sub hl [] rfl)
  have f := (if_neg q13).symm.trans f
  rcases Decidable.em (x0 = 30) with q15 | q15
  · have f := (if_pos q15).symm.trans f
    refine lv_tableIn (off := 197) (tgt := 198) S.1 S.2.1 dX2_join_1 (by rw [q15]; decide) (by rw [q15]; decide) (by rw [q15]; rfl) (by decide) ?_
    refine lv_lload_n S.1 S.2.1 dX2_join_198 rfl (lv_at hl 1 rfl) ?_
    refine lv_lload_n S.1 S.2.1 dX2_join_199 rfl (lv_at hl 2 rfl) ?_
    refine W.lcmp S.1 S.2.1 dX2_join_200 ?_
    refine lv_if_lt (tgt := 208) S.1 S.2.1 dX2_join_201 (by decide) (fun q16 => ?_) (fun q16 => ?_)
    · have f := (if_pos q16).symm.trans f
      refine lv_iconst (v := 0) S.1 S.2.1 dX2_join_208 (by decide) ?_
      exact T2_join_209 S hr hlo  f I (lv_sub hl [] rfl)
    · have f := (if_neg q16).symm.trans f
      refine lv_iconst (v := 1) S.1 S.2.1 dX2_join_204 (by decide) ?_
      refine lv_goto (tgt := 209) S.1 S.2.1 dX2_join_205 (by decide) ?_
      exact T2_join_209 S hr hlo  f I (lv_sub hl [] rfl)
  have f := (if_neg q15).symm.trans f
  rcases Decidable.em (x0 = 31) with q17 | q17
  · have f := (if_pos q17).symm.trans f
    refine lv_tableIn (off := 212) (tgt := 213) S.1 S.2.1 dX2_join_1 (by rw [q17]; decide) (by rw [q17]; decide) (by rw [q17]; rfl) (by decide) ?_
    refine lv_lload_n S.1 S.2.1 dX2_join_213 rfl (lv_at hl 1 rfl) ?_
    refine lv_lload_n S.1 S.2.1 dX2_join_214 rfl (lv_at hl 2 rfl) ?_
    refine W.lcmp S.1 S.2.1 dX2_join_215 ?_
    refine lv_if_le (tgt := 223) S.1 S.2.1 dX2_join_216 (by decide) (fun q18 => ?_) (fun q18 => ?_)
    · have f := (if_pos q18).symm.trans f
      refine lv_iconst (v := 0) S.1 S.2.1 dX2_join_223 (by decide) ?_
      exact T2_join_224 S hr hlo  f I (lv_sub hl [] rfl)
    · have f := (if_neg q18).symm.trans f
      refine lv_iconst (v := 1) S.1 S.2.1 dX2_join_219 (by decide) ?_
      refine lv_goto (tgt := 224) S.1 S.2.1 dX2_join_220 (by decide) ?_
      exact T2_join_224 S hr hlo  f I (lv_sub hl [] rfl)
  have f := (if_neg q17).symm.trans f
  rcases Decidable.em (x0 = 32) with q19 | q19
  · have f := (if_pos q19).symm.trans f
    refine lv_tableIn (off := 227) (tgt := 228) S.1 S.2.1 dX2_join_1 (by rw [q19]; decide) (by rw [q19]; decide) (by rw [q19]; rfl) (by decide) ?_
    refine lv_lload_n S.1 S.2.1 dX2_join_228 rfl (lv_at hl 1 rfl) ?_
    refine lv_lload_n S.1 S.2.1 dX2_join_229 rfl (lv_at hl 2 rfl) ?_
    refine lv_ladd S.1 S.2.1 dX2_join_230 ?_
    exact o_lret S hr hlo I f dX2_join_231
  have f := (if_neg q19).symm.trans f
  rcases Decidable.em (x0 = 33) with q20 | q20
  · have f := (if_pos q20).symm.trans f
    refine lv_tableIn (off := 231) (tgt := 232) S.1 S.2.1 dX2_join_1 (by rw [q20]; decide) (by rw [q20]; decide) (by rw [q20]; rfl) (by decide) ?_
    refine lv_lload_n S.1 S.2.1 dX2_join_232 rfl (lv_at hl 1 rfl) ?_
    refine lv_lload_n S.1 S.2.1 dX2_join_233 rfl (lv_at hl 2 rfl) ?_
    refine lv_lsub S.1 S.2.1 dX2_join_234 ?_
    exact o_lret S hr hlo I f dX2_join_235
  have f := (if_neg q20).symm.trans f
  rcases Decidable.em (x0 = 34) with q21 | q21
  · have f := (if_pos q21).symm.trans f
    refine lv_tableIn (off := 235) (tgt := 236) S.1 S.2.1 dX2_join_1 (by rw [q21]; decide) (by rw [q21]; decide) (by rw [q21]; rfl) (by decide) ?_
    refine lv_lload_n S.1 S.2.1 dX2_join_236 rfl (lv_at hl 1 rfl) ?_
    refine lv_lload_n S.1 S.2.1 dX2_join_237 rfl (lv_at hl 2 rfl) ?_
    obtain ⟨o22, e23, f⟩ := ob f
    refine o_Sl S (As := [.long j1, .long j3]) (rest := []) (M2_product l D cy b A fl e23) gX2_join_X2_product rfl rfl rfl cd2_product ⟨Nat.le_of_ble_eq_true rfl, Nat.le_of_ble_eq_true rfl⟩ I rfl hl.1 rfl (Nat.le_of_ble_eq_true rfl) dX2_join_238 ⟨Nat.le_of_ble_eq_true rfl, Nat.le_of_ble_eq_true rfl⟩ (fun H locs I => ?_)
    exact o_lret S hr hlo I f dX2_join_241
  have f := (if_neg q21).symm.trans f
  rcases Decidable.em (x0 = 35) with q24 | q24
  · have f := (if_pos q24).symm.trans f
    refine lv_tableIn (off := 241) (tgt := 242) S.1 S.2.1 dX2_join_1 (by rw [q24]; decide) (by rw [q24]; decide) (by rw [q24]; rfl) (by decide) ?_
    refine lv_lload_n S.1 S.2.1 dX2_join_242 rfl (lv_at hl 2 rfl) ?_
    refine lv_lconst (v := 0) S.1 S.2.1 dX2_join_243 (by decide) ?_
    refine W.lcmp S.1 S.2.1 dX2_join_244 ?_
    refine lv_if_ne (tgt := 254) S.1 S.2.1 dX2_join_245 (by decide) (fun q25 => ?_) (fun q25 => ?_)
    · have f := (if_neg q25).symm.trans f
      refine lv_lload_n S.1 S.2.1 dX2_join_254 rfl (lv_at hl 1 rfl) ?_
      refine lv_lload_n S.1 S.2.1 dX2_join_255 rfl (lv_at hl 2 rfl) ?_
      have q26 : ¬ j3 = 0 := fun q => by rw [if_pos q] at f; cases f
      have f := (if_neg q26).symm.trans f
      refine lv_ldiv S.1 S.2.1 dX2_join_256 q26 ?_
      exact o_lret S hr hlo I f dX2_join_257
    · have f := (if_pos q25).symm.trans f
      refine lv_ldc2 (v := (-9223372036854775808)) S.1 S.2.1 S.2.2.2.1 (S.2.2.2.2 _ (List.mem_cons_of_mem _ wT_25_14)) dX2_join_248 ?_
      refine lv_goto (tgt := 257) S.1 S.2.1 dX2_join_251 (by decide) ?_
      exact o_lret S hr hlo I f dX2_join_257
  have f := (if_neg q24).symm.trans f
  suffices K : W p l e ({ frames := 1, cells := 0, slots := 0, locals := 27 } : Room) s m args below meth c H locs 0 0 (MQ below (va_Ql (fun (r : Int64) (u : PH) => (r, u) = out) (ph_B D cy b A fl) A) args s 0 0 A) (F0 m 258 ls []) by
    have := lv_neT q1 (a := 16) (by decide)
    have := lv_neT q4 (a := 17) (by decide)
    have := lv_neT q7 (a := 26) (by decide)
    have := lv_neT q9 (a := 27) (by decide)
    have := lv_neT q11 (a := 28) (by decide)
    have := lv_neT q13 (a := 29) (by decide)
    have := lv_neT q15 (a := 30) (by decide)
    have := lv_neT q17 (a := 31) (by decide)
    have := lv_neT q19 (a := 32) (by decide)
    have := lv_neT q20 (a := 33) (by decide)
    have := lv_neT q21 (a := 34) (by decide)
    have := lv_neT q24 (a := 35) (by decide)
    have g9 : (x0).toInt < 16 ∨ 35 < (x0).toInt ∨ (x0).toInt = 18 ∨ (x0).toInt = 19 ∨ (x0).toInt = 20 ∨ (x0).toInt = 21 ∨ (x0).toInt = 22 ∨ (x0).toInt = 23 ∨ (x0).toInt = 24 ∨ (x0).toInt = 25 := by omega
    rcases g9 with g9 | g9 | g9 | g9 | g9 | g9 | g9 | g9 | g9 | g9
    · exact lv_tableOut (tgt := 258) S.1 S.2.1 dX2_join_1 (Or.inl g9) (by decide) K
    · exact lv_tableOut (tgt := 258) S.1 S.2.1 dX2_join_1 (Or.inr g9) (by decide) K
    · exact lv_tableIn (off := 257) (tgt := 258) S.1 S.2.1 dX2_join_1 (by rw [g9]; decide) (by rw [g9]; decide) (by rw [g9]; rfl) (by decide) K
    · exact lv_tableIn (off := 257) (tgt := 258) S.1 S.2.1 dX2_join_1 (by rw [g9]; decide) (by rw [g9]; decide) (by rw [g9]; rfl) (by decide) K
    · exact lv_tableIn (off := 257) (tgt := 258) S.1 S.2.1 dX2_join_1 (by rw [g9]; decide) (by rw [g9]; decide) (by rw [g9]; rfl) (by decide) K
    · exact lv_tableIn (off := 257) (tgt := 258) S.1 S.2.1 dX2_join_1 (by rw [g9]; decide) (by rw [g9]; decide) (by rw [g9]; rfl) (by decide) K
    · exact lv_tableIn (off := 257) (tgt := 258) S.1 S.2.1 dX2_join_1 (by rw [g9]; decide) (by rw [g9]; decide) (by rw [g9]; rfl) (by decide) K
    · exact lv_tableIn (off := 257) (tgt := 258) S.1 S.2.1 dX2_join_1 (by rw [g9]; decide) (by rw [g9]; decide) (by rw [g9]; rfl) (by decide) K
    · exact lv_tableIn (off := 257) (tgt := 258) S.1 S.2.1 dX2_join_1 (by rw [g9]; decide) (by rw [g9]; decide) (by rw [g9]; rfl) (by decide) K
    · exact lv_tableIn (off := 257) (tgt := 258) S.1 S.2.1 dX2_join_1 (by rw [g9]; decide) (by rw [g9]; decide) (by rw [g9]; rfl) (by decide) K
  refine lv_ldc2 (v := (-9223372036854775808)) S.1 S.2.1 S.2.2.2.1 (S.2.2.2.2 _ (List.mem_cons_of_mem _ wT_25_14)) dX2_join_258 ?_
  exact o_lret S hr hlo I f dX2_join_261
theorem M2_join (l : Launch) (D : va_G) (cy : Nat → ClassId) (b : Nat) (A : Nat → Prop) (fl : Bool) {h : PH} {x0 : Int32} {j1 : Int64} {j3 : Int64} {out : Int64 × PH} (f : F2_join h x0 j1 j3 = some out) : Met l yX2_join vX2_join ({ frames := 1, cells := 0, slots := 0, locals := 27 } : Room) (va_Pc [.int x0, .long j1, .long j3] (ph_B D cy b A fl h)) (va_Ql (fun (r : Int64) (u : PH) => (r, u) = out) (ph_B D cy b A fl) A) 0 0 A :=
  o_met (by decide) rfl (Nat.le_of_ble_eq_true rfl) rfl (fun p e s m below meth c S hr hlo hnm ls hl I => T2_join_0 S hr hlo (f) I (lv_sub hl [0, 1, 2] rfl))
def vX2_valueFor : List Cond := .code yX2_valueFor cX2_valueFor 8 (some .long) :: TB
theorem gX2_valueFor_X2_join : GoodIn vX2_valueFor (va_wsS RX2 23 yX2_join vX2_join) := gS_of wT_25_15 wT_25_16 wT_3_14 wT_25_17
theorem lf2_valueFor_15 : Fl vX2_valueFor RX2 15 2 1 := ⟨RX2, TX2, 3, rfl, by decide, (fun w h9 => List.mem_cons_of_mem _ (wC_wsX20 w h9)), (List.mem_cons_of_mem _ wT_15_9)⟩
theorem lf2_valueFor_9 : Fl vX2_valueFor RX2 9 2 0 := ⟨RX2, TX2, 3, rfl, by decide, (fun w h9 => List.mem_cons_of_mem _ (wC_wsX20 w h9)), (List.mem_cons_of_mem _ wT_4_18)⟩
theorem cd2_valueFor : Cd yX2_valueFor 2 := ⟨by decide, by decide, by decide +kernel⟩
set_option maxHeartbeats 4000000 in
set_option maxRecDepth 100000 in
theorem T2_valueFor_177 (S : CallFix p m c cX2_valueFor 8 s args vX2_valueFor RX2) (hr : meth.sig.returnType = (some .long)) (hlo : meth.locks = false) {out : Int64 × PH} {h : PH} {a2 : Nat} {x3 : Int32} (f : F2_valueFor_177  h a2 x3 = some out) {H : Heap} {locs : List Loc} (I : ph_I D cy b A fl h s H locs) {ls : Array Slot} (hl : lv_has ls 8 [(2, .ref (b + a2)), (3, .int x3)]) : W p l e ({ frames := 2, cells := 0, slots := 0, locals := 51 } : Room) s m args below meth c H locs 0 0 (MQ below (va_Ql (fun (r : Int64) (u : PH) => (r, u) = out) (ph_B D cy b A fl) A) args s 0 0 A) (F0 m 177 ls []) := by
  unfold F2_valueFor_177 at f
  refine lv_iload_n S.1 S.2.1 dX2_valueFor_177 rfl (lv_at hl 1 rfl) ?_
  refine lv_iconst (v := 1) S.1 S.2.1 dX2_valueFor_178 (by decide) ?_
  refine lv_icmp_ne (tgt := 188) S.1 S.2.1 dX2_valueFor_179 (by decide) (fun q1 => ?_) (fun q1 => ?_)
  · have f := (if_neg q1).symm.trans f
    refine lv_ldc2 (v := (-9223372036854775808)) S.1 S.2.1 S.2.2.2.1 (S.2.2.2.2 _ (List.mem_cons_of_mem _ wT_25_14)) dX2_valueFor_188 ?_
    exact o_lret S hr hlo I f dX2_valueFor_191
  · have f := (if_pos q1).symm.trans f
    refine lv_aload_n S.1 S.2.1 dX2_valueFor_182 rfl (lv_at hl 0 rfl) ?_
    refine lv_iconst (v := 0) S.1 S.2.1 dX2_valueFor_183 (by decide) ?_
    obtain ⟨w3, e2, f⟩ := ob f
    refine o_lald S I e2 dX2_valueFor_184 ?_
    refine lv_goto (tgt := 191) S.1 S.2.1 dX2_valueFor_185 (by decide) ?_
    exact o_lret S hr hlo I f dX2_valueFor_191
set_option maxHeartbeats 4000000 in
set_option maxRecDepth 100000 in
theorem T2_valueFor_119 (S : CallFix p m c cX2_valueFor 8 s args vX2_valueFor RX2) (hr : meth.sig.returnType = (some .long)) (hlo : meth.locks = false) {out : Int64 × PH} {k5 : PH → Nat → Nat → Nat → Int32 → Int32 → Option (Int64 × PH)} (hk5 : ∀ {h : PH} {a0 : Nat} {a1 : Nat} {a2 : Nat} {x3 : Int32} {x4 : Int32}, k5 h a0 a1 a2 x3 x4 = some out → ∀ (H : Heap) (locs : List Loc), ph_I D cy b A fl h s H locs → ∀ (ls : Array Slot), lv_has ls 8 [(0, .ref (b + a0)), (1, .ref (b + a1)), (2, .ref (b + a2)), (3, .int x3), (4, .int x4)] → W p l e ({ frames := 2, cells := 0, slots := 0, locals := 51 } : Room) s m args below meth c H locs 0 0 (MQ below (va_Ql (fun (r : Int64) (u : PH) => (r, u) = out) (ph_B D cy b A fl) A) args s 0 0 A) (F0 m 5 ls [])) {h : PH} {a0 : Nat} {a1 : Nat} {a2 : Nat} {x3 : Int32} {x4 : Int32} {x5 : Int32} (f : F2_valueFor_119 k5 h a0 a1 a2 x3 x4 x5 = some out) {H : Heap} {locs : List Loc} (I : ph_I D cy b A fl h s H locs) {ls : Array Slot} (hl : lv_has ls 8 [(0, .ref (b + a0)), (1, .ref (b + a1)), (2, .ref (b + a2)), (3, .int x3), (4, .int x4), (5, .int x5)]) : W p l e ({ frames := 2, cells := 0, slots := 0, locals := 51 } : Room) s m args below meth c H locs 0 0 (MQ below (va_Ql (fun (r : Int64) (u : PH) => (r, u) = out) (ph_B D cy b A fl) A) args s 0 0 A) (F0 m 119 ls []) := by
  unfold F2_valueFor_119 at f
  refine lv_iload_n S.1 S.2.1 dX2_valueFor_119 rfl (lv_at hl 3 rfl) ?_
  refine lv_iconst (v := 1) S.1 S.2.1 dX2_valueFor_120 (by decide) ?_
  refine lv_icmp_le (tgt := 171) S.1 S.2.1 dX2_valueFor_121 (by decide) (fun q1 => ?_) (fun q1 => ?_)
  · have f := (if_pos q1).symm.trans f
    refine lv_iinc (v := (x4 + 1)) (lv' := [(4, .int (x4 + 1)), (0, .ref (b + a0)), (1, .ref (b + a1)), (2, .ref (b + a2)), (3, .int x3), (5, .int x5)]) S.1 S.2.1 dX2_valueFor_171 hl (k := 4) rfl (congrArg (fun z => x4 + z) (by decide)) (by decide) rfl (fun ls hl => ?_)
    refine lv_goto (tgt := 5) S.1 S.2.1 dX2_valueFor_174 (by decide) ?_
    exact hk5 f _ _ I _ (lv_sub hl [1, 2, 3, 4, 0] rfl)
  · have f := (if_neg q1).symm.trans f
    refine lv_iinc (v := (x3 + (-1))) (lv' := [(3, .int (x3 + (-1))), (0, .ref (b + a0)), (1, .ref (b + a1)), (2, .ref (b + a2)), (4, .int x4), (5, .int x5)]) S.1 S.2.1 dX2_valueFor_124 hl (k := 3) rfl (congrArg (fun z => x3 + z) (by decide)) (by decide) rfl (fun ls hl => ?_)
    refine lv_iload S.1 S.2.1 dX2_valueFor_127 (lv_at hl 5 rfl) ?_
    refine lv_aload_n S.1 S.2.1 dX2_valueFor_129 rfl (lv_at hl 3 rfl) ?_
    refine lv_iload_n S.1 S.2.1 dX2_valueFor_130 rfl (lv_at hl 0 rfl) ?_
    refine lv_iconst (v := 1) S.1 S.2.1 dX2_valueFor_131 (by decide) ?_
    refine lv_isub S.1 S.2.1 dX2_valueFor_132 ?_
    obtain ⟨w3, e2, f⟩ := ob f
    refine o_lald S I e2 dX2_valueFor_133 ?_
    refine lv_aload_n S.1 S.2.1 dX2_valueFor_134 rfl (lv_at hl 3 rfl) ?_
    refine lv_iload_n S.1 S.2.1 dX2_valueFor_135 rfl (lv_at hl 0 rfl) ?_
    obtain ⟨w5, e4, f⟩ := ob f
    refine o_lald S I e4 dX2_valueFor_136 ?_
    obtain ⟨o6, e7, f⟩ := ob f
    refine o_Sl S (As := [.int x5, .long w3, .long w5]) (rest := []) (M2_join l D cy b A fl e7) gX2_valueFor_X2_join rfl rfl rfl cd2_join ⟨Nat.le_of_ble_eq_true rfl, Nat.le_of_ble_eq_true rfl⟩ I rfl hl.1 rfl (Nat.le_of_ble_eq_true rfl) dX2_valueFor_137 ⟨Nat.le_of_ble_eq_true rfl, Nat.le_of_ble_eq_true rfl⟩ (fun H locs I => ?_)
    refine lv_lstore (lv' := [(6, .long o6.1), (3, .int (x3 + (-1))), (0, .ref (b + a0)), (1, .ref (b + a1)), (2, .ref (b + a2)), (4, .int x4), (5, .int x5)]) S.1 S.2.1 dX2_valueFor_140 hl (by decide) rfl (fun ls hl => ?_)
    refine lv_lload S.1 S.2.1 dX2_valueFor_142 (lv_at hl 0 rfl) ?_
    refine lv_ldc2 (v := 1000000000000) S.1 S.2.1 S.2.2.2.1 (S.2.2.2.2 _ (List.mem_cons_of_mem _ wT_25_12)) dX2_valueFor_144 ?_
    refine W.lcmp S.1 S.2.1 dX2_valueFor_147 ?_
    refine lv_if_gt (tgt := 160) S.1 S.2.1 dX2_valueFor_148 (by decide) (fun q8 => ?_) (fun q8 => ?_)
    · have f := (if_pos q8).symm.trans f
      refine lv_ldc2 (v := (-9223372036854775808)) S.1 S.2.1 S.2.2.2.1 (S.2.2.2.2 _ (List.mem_cons_of_mem _ wT_25_14)) dX2_valueFor_160 ?_
      exact o_lret S hr hlo I f dX2_valueFor_163
    · have f := (if_neg q8).symm.trans f
      refine lv_lload S.1 S.2.1 dX2_valueFor_151 (lv_at hl 0 rfl) ?_
      refine lv_ldc2 (v := (-1000000000000)) S.1 S.2.1 S.2.2.2.1 (S.2.2.2.2 _ (List.mem_cons_of_mem _ wT_25_13)) dX2_valueFor_153 ?_
      refine W.lcmp S.1 S.2.1 dX2_valueFor_156 ?_
      refine lv_if_ge (tgt := 164) S.1 S.2.1 dX2_valueFor_157 (by decide) (fun q9 => ?_) (fun q9 => ?_)
      · have f := (if_pos q9).symm.trans f
        refine lv_aload_n S.1 S.2.1 dX2_valueFor_164 rfl (lv_at hl 4 rfl) ?_
        refine lv_iload_n S.1 S.2.1 dX2_valueFor_165 rfl (lv_at hl 1 rfl) ?_
        refine lv_iconst (v := 1) S.1 S.2.1 dX2_valueFor_166 (by decide) ?_
        refine lv_isub S.1 S.2.1 dX2_valueFor_167 ?_
        refine lv_lload S.1 S.2.1 dX2_valueFor_168 (lv_at hl 0 rfl) ?_
        obtain ⟨h11, e10, f⟩ := ob f
        refine o_last S I e10 dX2_valueFor_170 (fun H locs I => ?_)
        refine lv_iinc (v := (x4 + 1)) (lv' := [(4, .int (x4 + 1)), (6, .long o6.1), (3, .int (x3 + (-1))), (0, .ref (b + a0)), (1, .ref (b + a1)), (2, .ref (b + a2)), (5, .int x5)]) S.1 S.2.1 dX2_valueFor_171 hl (k := 5) rfl (congrArg (fun z => x4 + z) (by decide)) (by decide) rfl (fun ls hl => ?_)
        refine lv_goto (tgt := 5) S.1 S.2.1 dX2_valueFor_174 (by decide) ?_
        exact hk5 f _ _ I _ (lv_sub hl [3, 4, 5, 2, 0] rfl)
      · have f := (if_neg q9).symm.trans f
        refine lv_ldc2 (v := (-9223372036854775808)) S.1 S.2.1 S.2.2.2.1 (S.2.2.2.2 _ (List.mem_cons_of_mem _ wT_25_14)) dX2_valueFor_160 ?_
        exact o_lret S hr hlo I f dX2_valueFor_163
set_option maxHeartbeats 4000000 in
set_option maxRecDepth 100000 in
theorem T2_valueFor_115 (S : CallFix p m c cX2_valueFor 8 s args vX2_valueFor RX2) (hr : meth.sig.returnType = (some .long)) (hlo : meth.locks = false) {out : Int64 × PH} {k5 : PH → Nat → Nat → Nat → Int32 → Int32 → Option (Int64 × PH)} (hk5 : ∀ {h : PH} {a0 : Nat} {a1 : Nat} {a2 : Nat} {x3 : Int32} {x4 : Int32}, k5 h a0 a1 a2 x3 x4 = some out → ∀ (H : Heap) (locs : List Loc), ph_I D cy b A fl h s H locs → ∀ (ls : Array Slot), lv_has ls 8 [(0, .ref (b + a0)), (1, .ref (b + a1)), (2, .ref (b + a2)), (3, .int x3), (4, .int x4)] → W p l e ({ frames := 2, cells := 0, slots := 0, locals := 51 } : Room) s m args below meth c H locs 0 0 (MQ below (va_Ql (fun (r : Int64) (u : PH) => (r, u) = out) (ph_B D cy b A fl) A) args s 0 0 A) (F0 m 5 ls [])) {h : PH} {a0 : Nat} {a1 : Nat} {a2 : Nat} {x3 : Int32} {x4 : Int32} {t0 : Int64} {s1 : Int32} {u2 : Nat} (f : F2_valueFor_115 k5 h a0 a1 a2 x3 x4 t0 s1 u2 = some out) {H : Heap} {locs : List Loc} (I : ph_I D cy b A fl h s H locs) {ls : Array Slot} (hl : lv_has ls 8 [(0, .ref (b + a0)), (1, .ref (b + a1)), (2, .ref (b + a2)), (3, .int x3), (4, .int x4)]) : W p l e ({ frames := 2, cells := 0, slots := 0, locals := 51 } : Room) s m args below meth c H locs 0 0 (MQ below (va_Ql (fun (r : Int64) (u : PH) => (r, u) = out) (ph_B D cy b A fl) A) args s 0 0 A) (F0 m 115 ls [.long t0, .int s1, .ref (b + u2)]) := by
  unfold F2_valueFor_115 at f
  obtain ⟨h2, e1, f⟩ := ob f
  refine o_last S I e1 dX2_valueFor_115 (fun H locs I => ?_)
  refine lv_goto (tgt := 171) S.1 S.2.1 dX2_valueFor_116 (by decide) ?_
  refine lv_iinc (v := (x4 + 1)) (lv' := [(4, .int (x4 + 1)), (0, .ref (b + a0)), (1, .ref (b + a1)), (2, .ref (b + a2)), (3, .int x3)]) S.1 S.2.1 dX2_valueFor_171 hl (k := 4) rfl (congrArg (fun z => x4 + z) (by decide)) (by decide) rfl (fun ls hl => ?_)
  refine lv_goto (tgt := 5) S.1 S.2.1 dX2_valueFor_174 (by decide) ?_
  exact hk5 f _ _ I _ (lv_sub hl [1, 2, 3, 4, 0] rfl)
set_option maxHeartbeats 4000000 in
set_option maxRecDepth 100000 in
theorem T2_valueFor_85 (S : CallFix p m c cX2_valueFor 8 s args vX2_valueFor RX2) (hr : meth.sig.returnType = (some .long)) (hlo : meth.locks = false) {out : Int64 × PH} {k5 : PH → Nat → Nat → Nat → Int32 → Int32 → Option (Int64 × PH)} (hk5 : ∀ {h : PH} {a0 : Nat} {a1 : Nat} {a2 : Nat} {x3 : Int32} {x4 : Int32}, k5 h a0 a1 a2 x3 x4 = some out → ∀ (H : Heap) (locs : List Loc), ph_I D cy b A fl h s H locs → ∀ (ls : Array Slot), lv_has ls 8 [(0, .ref (b + a0)), (1, .ref (b + a1)), (2, .ref (b + a2)), (3, .int x3), (4, .int x4)] → W p l e ({ frames := 2, cells := 0, slots := 0, locals := 51 } : Room) s m args below meth c H locs 0 0 (MQ below (va_Ql (fun (r : Int64) (u : PH) => (r, u) = out) (ph_B D cy b A fl) A) args s 0 0 A) (F0 m 5 ls [])) {h : PH} {a0 : Nat} {a1 : Nat} {a2 : Nat} {x3 : Int32} {x4 : Int32} {x5 : Int32} (f : F2_valueFor_85 k5 h a0 a1 a2 x3 x4 x5 = some out) {H : Heap} {locs : List Loc} (I : ph_I D cy b A fl h s H locs) {ls : Array Slot} (hl : lv_has ls 8 [(0, .ref (b + a0)), (1, .ref (b + a1)), (2, .ref (b + a2)), (3, .int x3), (4, .int x4), (5, .int x5)]) : W p l e ({ frames := 2, cells := 0, slots := 0, locals := 51 } : Room) s m args below meth c H locs 0 0 (MQ below (va_Ql (fun (r : Int64) (u : PH) => (r, u) = out) (ph_B D cy b A fl) A) args s 0 0 A) (F0 m 85 ls []) := by
  unfold F2_valueFor_85 at f
  refine lv_iload S.1 S.2.1 dX2_valueFor_85 (lv_at hl 5 rfl) ?_
  refine lv_bipush (v := 15) S.1 S.2.1 dX2_valueFor_87 (by decide) ?_
  refine lv_icmp_ne (tgt := 119) S.1 S.2.1 dX2_valueFor_89 (by decide) (fun q1 => ?_) (fun q1 => ?_)
  · have f := (if_neg q1).symm.trans f
    exact T2_valueFor_119 S hr hlo (fun f _ _ I _ hl => hk5 f _ _ I _ hl) f I (lv_sub hl [0, 1, 2, 3, 4, 5] rfl)
  · have f := (if_pos q1).symm.trans f
    refine lv_iload_n S.1 S.2.1 dX2_valueFor_92 rfl (lv_at hl 3 rfl) ?_
    refine lv_if_le (tgt := 119) S.1 S.2.1 dX2_valueFor_93 (by decide) (fun q2 => ?_) (fun q2 => ?_)
    · have f := (if_pos q2).symm.trans f
      exact T2_valueFor_119 S hr hlo (fun f _ _ I _ hl => hk5 f _ _ I _ hl) f I (lv_sub hl [0, 1, 2, 3, 4, 5] rfl)
    · have f := (if_neg q2).symm.trans f
      refine lv_aload_n S.1 S.2.1 dX2_valueFor_96 rfl (lv_at hl 2 rfl) ?_
      refine lv_iload_n S.1 S.2.1 dX2_valueFor_97 rfl (lv_at hl 3 rfl) ?_
      refine lv_iconst (v := 1) S.1 S.2.1 dX2_valueFor_98 (by decide) ?_
      refine lv_isub S.1 S.2.1 dX2_valueFor_99 ?_
      refine lv_aload_n S.1 S.2.1 dX2_valueFor_100 rfl (lv_at hl 2 rfl) ?_
      refine lv_iload_n S.1 S.2.1 dX2_valueFor_101 rfl (lv_at hl 3 rfl) ?_
      refine lv_iconst (v := 1) S.1 S.2.1 dX2_valueFor_102 (by decide) ?_
      refine lv_isub S.1 S.2.1 dX2_valueFor_103 ?_
      obtain ⟨w4, e3, f⟩ := ob f
      refine o_lald S I e3 dX2_valueFor_104 ?_
      refine lv_lconst (v := 0) S.1 S.2.1 dX2_valueFor_105 (by decide) ?_
      refine W.lcmp S.1 S.2.1 dX2_valueFor_106 ?_
      refine lv_if_ne (tgt := 114) S.1 S.2.1 dX2_valueFor_107 (by decide) (fun q5 => ?_) (fun q5 => ?_)
      · have f := (if_neg q5).symm.trans f
        refine lv_lconst (v := 0) S.1 S.2.1 dX2_valueFor_114 (by decide) ?_
        exact T2_valueFor_115 S hr hlo (fun f _ _ I _ hl => hk5 f _ _ I _ hl) f I (lv_sub hl [0, 1, 2, 3, 4] rfl)
      · have f := (if_pos q5).symm.trans f
        refine lv_lconst (v := 1) S.1 S.2.1 dX2_valueFor_110 (by decide) ?_
        refine lv_goto (tgt := 115) S.1 S.2.1 dX2_valueFor_111 (by decide) ?_
        exact T2_valueFor_115 S hr hlo (fun f _ _ I _ hl => hk5 f _ _ I _ hl) f I (lv_sub hl [0, 1, 2, 3, 4] rfl)
set_option maxHeartbeats 4000000 in
set_option maxRecDepth 100000 in
theorem T2_valueFor_5 (S : CallFix p m c cX2_valueFor 8 s args vX2_valueFor RX2) (hr : meth.sig.returnType = (some .long)) (hlo : meth.locks = false) {out : Int64 × PH} : ∀ (n : Nat) {h : PH} {a0 : Nat} {a1 : Nat} {a2 : Nat} {x3 : Int32} {x4 : Int32} (f : F2_valueFor_5  n h a0 a1 a2 x3 x4 = some out) {H : Heap} {locs : List Loc} (I : ph_I D cy b A fl h s H locs) {ls : Array Slot} (hl : lv_has ls 8 [(0, .ref (b + a0)), (1, .ref (b + a1)), (2, .ref (b + a2)), (3, .int x3), (4, .int x4)]), W p l e ({ frames := 2, cells := 0, slots := 0, locals := 51 } : Room) s m args below meth c H locs 0 0 (MQ below (va_Ql (fun (r : Int64) (u : PH) => (r, u) = out) (ph_B D cy b A fl) A) args s 0 0 A) (F0 m 5 ls []) := by
  intro n
  induction n with
  | zero => intro h a0 a1 a2 x3 x4 f; rw [F2_valueFor_5] at f; cases f
  | succ n ih =>
    intro h a0 a1 a2 x3 x4 f H locs I ls hl
    rw [F2_valueFor_5] at f
    refine lv_iload S.1 S.2.1 dX2_valueFor_5 (lv_at hl 4 rfl) ?_
    refine lv_aload_n S.1 S.2.1 dX2_valueFor_7 rfl (lv_at hl 0 rfl) ?_
    obtain ⟨v1, e2, f⟩ := ob f
    refine o_gI S lf2_valueFor_15 I e2 dX2_valueFor_8 ?_
    refine lv_icmp_ge (tgt := 177) S.1 S.2.1 dX2_valueFor_11 (by decide) (fun q3 => ?_) (fun q3 => ?_)
    · have f := (if_pos q3).symm.trans f
      exact T2_valueFor_177 S hr hlo  f I (lv_sub hl [2, 3] rfl)
    · have f := (if_neg q3).symm.trans f
      refine lv_iload_n S.1 S.2.1 dX2_valueFor_14 rfl (lv_at hl 3 rfl) ?_
      refine lv_aload_n S.1 S.2.1 dX2_valueFor_15 rfl (lv_at hl 2 rfl) ?_
      obtain ⟨v4, e5, f⟩ := ob f
      refine o_alen S I e5 dX2_valueFor_16 ?_
      refine lv_icmp_ge (tgt := 177) S.1 S.2.1 dX2_valueFor_17 (by decide) (fun q6 => ?_) (fun q6 => ?_)
      · have f := (if_pos q6).symm.trans f
        exact T2_valueFor_177 S hr hlo  f I (lv_sub hl [2, 3] rfl)
      · have f := (if_neg q6).symm.trans f
        refine lv_aload_n S.1 S.2.1 dX2_valueFor_20 rfl (lv_at hl 0 rfl) ?_
        obtain ⟨r7, e8, f⟩ := ob f
        refine o_gR S lf2_valueFor_9 I e8 dX2_valueFor_21 ?_
        refine lv_iload S.1 S.2.1 dX2_valueFor_24 (lv_at hl 4 rfl) ?_
        obtain ⟨v10, e9, f⟩ := ob f
        refine o_iald S I e9 dX2_valueFor_26 ?_
        refine lv_sipush (v := 10000) S.1 S.2.1 dX2_valueFor_27 (by decide) ?_
        refine lv_isub S.1 S.2.1 dX2_valueFor_30 ?_
        refine lv_istore (lv' := [(5, .int (v10 - 10000)), (0, .ref (b + a0)), (1, .ref (b + a1)), (2, .ref (b + a2)), (3, .int x3), (4, .int x4)]) S.1 S.2.1 dX2_valueFor_31 hl (by decide) rfl (fun ls hl => ?_)
        refine lv_iload S.1 S.2.1 dX2_valueFor_33 (lv_at hl 0 rfl) ?_
        refine lv_if_ge (tgt := 55) S.1 S.2.1 dX2_valueFor_35 (by decide) (fun q11 => ?_) (fun q11 => ?_)
        · have f := (if_pos q11).symm.trans f
          refine lv_iload S.1 S.2.1 dX2_valueFor_55 (lv_at hl 0 rfl) ?_
          refine lv_bipush (v := 18) S.1 S.2.1 dX2_valueFor_57 (by decide) ?_
          refine lv_icmp_lt (tgt := 85) S.1 S.2.1 dX2_valueFor_59 (by decide) (fun q12 => ?_) (fun q12 => ?_)
          · have f := (if_pos q12).symm.trans f
            exact T2_valueFor_85 S hr hlo (fun f _ _ I _ hl => ih f I hl) f I (lv_sub hl [1, 2, 3, 4, 5, 0] rfl)
          · have f := (if_neg q12).symm.trans f
            refine lv_iload S.1 S.2.1 dX2_valueFor_62 (lv_at hl 0 rfl) ?_
            refine lv_bipush (v := 24) S.1 S.2.1 dX2_valueFor_64 (by decide) ?_
            refine lv_icmp_ge (tgt := 85) S.1 S.2.1 dX2_valueFor_66 (by decide) (fun q13 => ?_) (fun q13 => ?_)
            · have f := (if_pos q13).symm.trans f
              exact T2_valueFor_85 S hr hlo (fun f _ _ I _ hl => ih f I hl) f I (lv_sub hl [1, 2, 3, 4, 5, 0] rfl)
            · have f := (if_neg q13).symm.trans f
              refine lv_aload_n S.1 S.2.1 dX2_valueFor_69 rfl (lv_at hl 3 rfl) ?_
              refine lv_iload_n S.1 S.2.1 dX2_valueFor_70 rfl (lv_at hl 4 rfl) ?_
              refine lv_aload_n S.1 S.2.1 dX2_valueFor_71 rfl (lv_at hl 2 rfl) ?_
              refine lv_iload S.1 S.2.1 dX2_valueFor_72 (lv_at hl 0 rfl) ?_
              refine lv_bipush (v := 18) S.1 S.2.1 dX2_valueFor_74 (by decide) ?_
              refine lv_isub S.1 S.2.1 dX2_valueFor_76 ?_
              obtain ⟨w15, e14, f⟩ := ob f
              refine o_lald S I e14 dX2_valueFor_77 ?_
              obtain ⟨h17, e16, f⟩ := ob f
              refine o_last S I e16 dX2_valueFor_78 (fun H locs I => ?_)
              refine lv_iinc (v := (x3 + 1)) (lv' := [(3, .int (x3 + 1)), (5, .int (v10 - 10000)), (0, .ref (b + a0)), (1, .ref (b + a1)), (2, .ref (b + a2)), (4, .int x4)]) S.1 S.2.1 dX2_valueFor_79 hl (k := 4) rfl (congrArg (fun z => x3 + z) (by decide)) (by decide) rfl (fun ls hl => ?_)
              refine lv_goto (tgt := 171) S.1 S.2.1 dX2_valueFor_82 (by decide) ?_
              refine lv_iinc (v := (x4 + 1)) (lv' := [(4, .int (x4 + 1)), (3, .int (x3 + 1)), (5, .int (v10 - 10000)), (0, .ref (b + a0)), (1, .ref (b + a1)), (2, .ref (b + a2))]) S.1 S.2.1 dX2_valueFor_171 hl (k := 5) rfl (congrArg (fun z => x4 + z) (by decide)) (by decide) rfl (fun ls hl => ?_)
              refine lv_goto (tgt := 5) S.1 S.2.1 dX2_valueFor_174 (by decide) ?_
              exact ih f I (lv_sub hl [3, 4, 5, 1, 0] rfl)
        · have f := (if_neg q11).symm.trans f
          refine lv_aload_n S.1 S.2.1 dX2_valueFor_38 rfl (lv_at hl 3 rfl) ?_
          refine lv_iload_n S.1 S.2.1 dX2_valueFor_39 rfl (lv_at hl 4 rfl) ?_
          refine lv_aload_n S.1 S.2.1 dX2_valueFor_40 rfl (lv_at hl 1 rfl) ?_
          obtain ⟨r18, e19, f⟩ := ob f
          refine o_gR S lf2_valueFor_9 I e19 dX2_valueFor_41 ?_
          refine lv_iload S.1 S.2.1 dX2_valueFor_44 (lv_at hl 5 rfl) ?_
          obtain ⟨v21, e20, f⟩ := ob f
          refine o_iald S I e20 dX2_valueFor_46 ?_
          refine lv_i2l (v := Int32.toInt64 v21) S.1 S.2.1 dX2_valueFor_47 rfl ?_
          obtain ⟨h23, e22, f⟩ := ob f
          refine o_last S I e22 dX2_valueFor_48 (fun H locs I => ?_)
          refine lv_iinc (v := (x3 + 1)) (lv' := [(3, .int (x3 + 1)), (5, .int (v10 - 10000)), (0, .ref (b + a0)), (1, .ref (b + a1)), (2, .ref (b + a2)), (4, .int x4)]) S.1 S.2.1 dX2_valueFor_49 hl (k := 4) rfl (congrArg (fun z => x3 + z) (by decide)) (by decide) rfl (fun ls hl => ?_)
          refine lv_goto (tgt := 171) S.1 S.2.1 dX2_valueFor_52 (by decide) ?_
          refine lv_iinc (v := (x4 + 1)) (lv' := [(4, .int (x4 + 1)), (3, .int (x3 + 1)), (5, .int (v10 - 10000)), (0, .ref (b + a0)), (1, .ref (b + a1)), (2, .ref (b + a2))]) S.1 S.2.1 dX2_valueFor_171 hl (k := 5) rfl (congrArg (fun z => x4 + z) (by decide)) (by decide) rfl (fun ls hl => ?_)
          refine lv_goto (tgt := 5) S.1 S.2.1 dX2_valueFor_174 (by decide) ?_
          exact ih f I (lv_sub hl [3, 4, 5, 1, 0] rfl)
set_option maxHeartbeats 4000000 in
set_option maxRecDepth 100000 in
theorem T2_valueFor_0 (S : CallFix p m c cX2_valueFor 8 s args vX2_valueFor RX2) (hr : meth.sig.returnType = (some .long)) (hlo : meth.locks = false) {out : Int64 × PH} {h : PH} {a0 : Nat} {a1 : Nat} {a2 : Nat} (f : F2_valueFor_0  h a0 a1 a2 = some out) {H : Heap} {locs : List Loc} (I : ph_I D cy b A fl h s H locs) {ls : Array Slot} (hl : lv_has ls 8 [(0, .ref (b + a0)), (1, .ref (b + a1)), (2, .ref (b + a2))]) : W p l e ({ frames := 2, cells := 0, slots := 0, locals := 51 } : Room) s m args below meth c H locs 0 0 (MQ below (va_Ql (fun (r : Int64) (u : PH) => (r, u) = out) (ph_B D cy b A fl) A) args s 0 0 A) (F0 m 0 ls []) := by
  unfold F2_valueFor_0 at f
  refine lv_iconst (v := 0) S.1 S.2.1 dX2_valueFor_0 (by decide) ?_
  refine lv_istore_n (lv' := [(3, .int 0), (0, .ref (b + a0)), (1, .ref (b + a1)), (2, .ref (b + a2))]) S.1 S.2.1 dX2_valueFor_1 rfl hl (by decide) rfl (fun ls hl => ?_)
  refine lv_iconst (v := 0) S.1 S.2.1 dX2_valueFor_2 (by decide) ?_
  refine lv_istore (lv' := [(4, .int 0), (3, .int 0), (0, .ref (b + a0)), (1, .ref (b + a1)), (2, .ref (b + a2))]) S.1 S.2.1 dX2_valueFor_3 hl (by decide) rfl (fun ls hl => ?_)
  exact T2_valueFor_5 S hr hlo  1024 f I (lv_sub hl [2, 3, 4, 1, 0] rfl)
theorem M2_valueFor (l : Launch) (D : va_G) (cy : Nat → ClassId) (b : Nat) (A : Nat → Prop) (fl : Bool) {h : PH} {a0 : Nat} {a1 : Nat} {a2 : Nat} {out : Int64 × PH} (f : F2_valueFor h a0 a1 a2 = some out) : Met l yX2_valueFor vX2_valueFor ({ frames := 2, cells := 0, slots := 0, locals := 51 } : Room) (va_Pc [.ref (b + a0), .ref (b + a1), .ref (b + a2)] (ph_B D cy b A fl h)) (va_Ql (fun (r : Int64) (u : PH) => (r, u) = out) (ph_B D cy b A fl) A) 0 0 A :=
  o_met (by decide) rfl (Nat.le_of_ble_eq_true rfl) rfl (fun p e s m below meth c S hr hlo hnm ls hl I => T2_valueFor_0 S hr hlo ((gd f).2) I (lv_sub hl [0, 1, 2] rfl))
def vX6_awayFor : List Cond := .code yX6_awayFor cX6_awayFor 5 (some .int) :: TB
theorem gX6_awayFor_X6_nameAway : GoodIn vX6_awayFor (wsV RX6 118 RX6 yX6_nameAway vX6_nameAway) := gV_of wT_38_22 wT_38_23 wT_39_0 wT_2_2 wT_39_1
theorem lf6_awayFor_9 : Fl vX6_awayFor RX6 9 6 0 := ⟨RX6, TX6, 9, rfl, by decide, (fun w h9 => List.mem_cons_of_mem _ (wC_wsX60 w h9)), (List.mem_cons_of_mem _ wT_7_15)⟩
theorem lf6_awayFor_76 : Fl vX6_awayFor RX6 76 8 11 := ⟨RX8, TX8, 14, rfl, by decide, (fun w h9 => List.mem_cons_of_mem _ (wC_wsX80 w h9)), (List.mem_cons_of_mem _ wT_25_7)⟩
theorem lf6_awayFor_25 : Fl vX6_awayFor RX6 25 6 4 := ⟨RX6, TX6, 9, rfl, by decide, (fun w h9 => List.mem_cons_of_mem _ (wC_wsX60 w h9)), (List.mem_cons_of_mem _ wT_7_19)⟩
theorem lf6_awayFor_29 : Fl vX6_awayFor RX6 29 6 5 := ⟨RX6, TX6, 9, rfl, by decide, (fun w h9 => List.mem_cons_of_mem _ (wC_wsX60 w h9)), (List.mem_cons_of_mem _ wT_7_20)⟩
theorem gX6_awayFor_X2_valueFor : GoodIn vX6_awayFor (wsV RX6 80 RX2 yX2_valueFor vX2_valueFor) := gV_of wT_25_8 wT_25_9 wT_25_10 wT_3_14 wT_25_11
theorem cd6_awayFor : Cd yX6_awayFor 2 := ⟨by decide, by decide, by decide +kernel⟩
set_option maxHeartbeats 4000000 in
set_option maxRecDepth 100000 in
theorem T6_awayFor_0 (S : CallFix p m c cX6_awayFor 5 s args vX6_awayFor RX6) (hr : meth.sig.returnType = (some .int)) (hlo : meth.locks = false) {out : Int32 × PH} {h : PH} {a0 : Nat} {x1 : Int32} {x2 : Int32} (f : F6_awayFor_0  h a0 x1 x2 = some out) {H : Heap} {locs : List Loc} (I : ph_I D cy b A fl h s H locs) {ls : Array Slot} (hl : lv_has ls 5 [(0, .ref (b + a0)), (1, .int x1), (2, .int x2)]) : W p l e ({ frames := 3, cells := 0, slots := 0, locals := 78 } : Room) s m args below meth c H locs 0 0 (MQ below (va_Qi (fun (r : Int32) (u : PH) => (r, u) = out) (ph_B D cy b A fl) A) args s 0 0 A) (F0 m 0 ls []) := by
  unfold F6_awayFor_0 at f
  refine lv_aload_n S.1 S.2.1 dX6_awayFor_0 rfl (lv_at hl 0 rfl) ?_
  refine lv_iload_n S.1 S.2.1 dX6_awayFor_1 rfl (lv_at hl 1 rfl) ?_
  refine lv_iload_n S.1 S.2.1 dX6_awayFor_2 rfl (lv_at hl 2 rfl) ?_
  obtain ⟨o1, e2, f⟩ := ob f
  refine o_Vv S (As := [.int x1, .int x2]) (rest := []) (ci := 6) (M6_nameAway l D cy b A fl e2) gX6_awayFor_X6_nameAway rfl rfl rfl cd6_nameAway ⟨Nat.le_of_ble_eq_true rfl, Nat.le_of_ble_eq_true rfl⟩ I (gd e2).1 clX6 rfl rfl hl.1 rfl (Nat.le_of_ble_eq_true rfl) dX6_awayFor_3 ⟨Nat.le_of_ble_eq_true rfl, Nat.le_of_ble_eq_true rfl⟩ (fun H locs I => ?_)
  refine lv_aload_n S.1 S.2.1 dX6_awayFor_6 rfl (lv_at hl 0 rfl) ?_
  obtain ⟨r3, e4, f⟩ := ob f
  refine o_gR S lf6_awayFor_9 I e4 dX6_awayFor_7 ?_
  obtain ⟨r5, e6, f⟩ := ob f
  refine o_gR S lf6_awayFor_76 I e6 dX6_awayFor_10 ?_
  refine lv_iconst (v := 2) S.1 S.2.1 dX6_awayFor_13 (by decide) ?_
  obtain ⟨r8, e7, f⟩ := ob f
  refine o_aald S I e7 dX6_awayFor_14 ?_
  refine lv_aload_n S.1 S.2.1 dX6_awayFor_15 rfl (lv_at hl 0 rfl) ?_
  obtain ⟨r9, e10, f⟩ := ob f
  refine o_gR S lf6_awayFor_25 I e10 dX6_awayFor_16 ?_
  refine lv_aload_n S.1 S.2.1 dX6_awayFor_19 rfl (lv_at hl 0 rfl) ?_
  obtain ⟨r11, e12, f⟩ := ob f
  refine o_gR S lf6_awayFor_29 I e12 dX6_awayFor_20 ?_
  obtain ⟨o13, e14, f⟩ := ob f
  refine o_Vl S (As := [.ref (b + r9), .ref (b + r11)]) (rest := []) (ci := 2) (M2_valueFor l D cy b A fl e14) gX6_awayFor_X2_valueFor rfl rfl rfl cd2_valueFor ⟨Nat.le_of_ble_eq_true rfl, Nat.le_of_ble_eq_true rfl⟩ I (gd e14).1 clX2 rfl rfl hl.1 rfl (Nat.le_of_ble_eq_true rfl) dX6_awayFor_23 ⟨Nat.le_of_ble_eq_true rfl, Nat.le_of_ble_eq_true rfl⟩ (fun H locs I => ?_)
  refine lv_lstore_n (lv' := [(3, .long o13.1), (0, .ref (b + a0)), (1, .int x1), (2, .int x2)]) S.1 S.2.1 dX6_awayFor_26 rfl hl (by decide) rfl (fun ls hl => ?_)
  refine lv_lload_n S.1 S.2.1 dX6_awayFor_27 rfl (lv_at hl 0 rfl) ?_
  refine lv_ldc2 (v := (-9223372036854775808)) S.1 S.2.1 S.2.2.2.1 (S.2.2.2.2 _ (List.mem_cons_of_mem _ wT_24_17)) dX6_awayFor_28 ?_
  refine W.lcmp S.1 S.2.1 dX6_awayFor_31 ?_
  refine lv_if_ne (tgt := 39) S.1 S.2.1 dX6_awayFor_32 (by decide) (fun q15 => ?_) (fun q15 => ?_)
  · have f := (if_neg q15).symm.trans f
    refine lv_lconst (v := 1) S.1 S.2.1 dX6_awayFor_39 (by decide) ?_
    refine lv_ldc2 (v := 30) S.1 S.2.1 S.2.2.2.1 (S.2.2.2.2 _ (List.mem_cons_of_mem _ wT_46_3)) dX6_awayFor_40 ?_
    refine lv_lload_n S.1 S.2.1 dX6_awayFor_43 rfl (lv_at hl 0 rfl) ?_
    refine va_mmin_long S.1 S.2.1 (by rw [S.2.2.1, hl.1]) S.2.2.2.1 (S.2.2.2.2 _ (List.mem_cons_of_mem _ wT_24_20)) (S.2.2.2.2 _ (List.mem_cons_of_mem _ wT_24_21)) (S.2.2.2.2 _ (List.mem_cons_of_mem _ wT_15_17)) (S.2.2.2.2 _ (List.mem_cons_of_mem _ wT_24_22)) (Nat.le_of_ble_eq_true rfl) (Nat.le_of_ble_eq_true rfl) (Nat.zero_le _) (Nat.zero_le _) dX6_awayFor_44 ?_
    refine va_mmax_long S.1 S.2.1 (by rw [S.2.2.1, hl.1]) S.2.2.2.1 (S.2.2.2.2 _ (List.mem_cons_of_mem _ wT_24_23)) (S.2.2.2.2 _ (List.mem_cons_of_mem _ wT_25_0)) (S.2.2.2.2 _ (List.mem_cons_of_mem _ wT_15_17)) (S.2.2.2.2 _ (List.mem_cons_of_mem _ wT_25_1)) (Nat.le_of_ble_eq_true rfl) (Nat.le_of_ble_eq_true rfl) (Nat.zero_le _) (Nat.zero_le _) dX6_awayFor_47 ?_
    refine lv_l2i (v := Int64.toInt32 (if (if o13.1 < (30 : Int64) then o13.1 else (30 : Int64)) < (1 : Int64) then (1 : Int64) else (if o13.1 < (30 : Int64) then o13.1 else (30 : Int64)))) S.1 S.2.1 dX6_awayFor_50 rfl ?_
    exact o_iret S hr hlo I f dX6_awayFor_51
  · have f := (if_pos q15).symm.trans f
    refine lv_iconst (v := 5) S.1 S.2.1 dX6_awayFor_35 (by decide) ?_
    refine lv_goto (tgt := 51) S.1 S.2.1 dX6_awayFor_36 (by decide) ?_
    exact o_iret S hr hlo I f dX6_awayFor_51
theorem M6_awayFor (l : Launch) (D : va_G) (cy : Nat → ClassId) (b : Nat) (A : Nat → Prop) (fl : Bool) {h : PH} {a0 : Nat} {x1 : Int32} {x2 : Int32} {out : Int32 × PH} (f : F6_awayFor h a0 x1 x2 = some out) : Met l yX6_awayFor vX6_awayFor ({ frames := 3, cells := 0, slots := 0, locals := 78 } : Room) (va_Pc [.ref (b + a0), .int x1, .int x2] (ph_B D cy b A fl h)) (va_Qi (fun (r : Int32) (u : PH) => (r, u) = out) (ph_B D cy b A fl) A) 0 0 A :=
  o_met (by decide) rfl (Nat.le_of_ble_eq_true rfl) rfl (fun p e s m below meth c S hr hlo hnm ls hl I => T6_awayFor_0 S hr hlo ((gd f).2) I (lv_sub hl [0, 1, 2] rfl))
def vX8_farFrom : List Cond := .code yX8_farFrom cX8_farFrom 3 (some .int) :: TB
theorem lf8_farFrom_32 : Fl vX8_farFrom RX8 32 8 0 := ⟨RX8, TX8, 14, rfl, by decide, (fun w h9 => List.mem_cons_of_mem _ (wC_wsX80 w h9)), (List.mem_cons_of_mem _ wT_3_15)⟩
theorem lf8_farFrom_42 : Fl vX8_farFrom RX8 42 8 3 := ⟨RX8, TX8, 14, rfl, by decide, (fun w h9 => List.mem_cons_of_mem _ (wC_wsX80 w h9)), (List.mem_cons_of_mem _ wT_14_14)⟩
theorem cd8_farFrom : Cd yX8_farFrom 2 := ⟨by decide, by decide, by decide +kernel⟩
set_option maxHeartbeats 4000000 in
set_option maxRecDepth 100000 in
theorem T8_farFrom_0 (S : CallFix p m c cX8_farFrom 3 s args vX8_farFrom RX8) (hr : meth.sig.returnType = (some .int)) (hlo : meth.locks = false) {out : Int32 × PH} {h : PH} {a0 : Nat} {x1 : Int32} {x2 : Int32} (f : F8_farFrom_0  h a0 x1 x2 = some out) {H : Heap} {locs : List Loc} (I : ph_I D cy b A fl h s H locs) {ls : Array Slot} (hl : lv_has ls 3 [(0, .ref (b + a0)), (1, .int x1), (2, .int x2)]) : W p l e ({ frames := 1, cells := 0, slots := 0, locals := 24 } : Room) s m args below meth c H locs 0 0 (MQ below (va_Qi (fun (r : Int32) (u : PH) => (r, u) = out) (ph_B D cy b A fl) A) args s 0 0 A) (F0 m 0 ls []) := by
  unfold F8_farFrom_0 at f
  refine lv_aload_n S.1 S.2.1 dX8_farFrom_0 rfl (lv_at hl 0 rfl) ?_
  obtain ⟨v1, e2, f⟩ := ob f
  refine o_gI S lf8_farFrom_32 I e2 dX8_farFrom_1 ?_
  refine lv_iconst (v := 1) S.1 S.2.1 dX8_farFrom_4 (by decide) ?_
  refine lv_icmp_ge (tgt := 10) S.1 S.2.1 dX8_farFrom_5 (by decide) (fun q3 => ?_) (fun q3 => ?_)
  · have f := (if_pos q3).symm.trans f
    refine lv_iload_n S.1 S.2.1 dX8_farFrom_10 rfl (lv_at hl 1 rfl) ?_
    refine lv_aload_n S.1 S.2.1 dX8_farFrom_11 rfl (lv_at hl 0 rfl) ?_
    obtain ⟨v4, e5, f⟩ := ob f
    refine o_gI S lf8_farFrom_32 I e5 dX8_farFrom_12 ?_
    have q6 : ¬ v4 = 0 := fun q => by rw [if_pos q] at f; cases f
    have f := (if_neg q6).symm.trans f
    refine lv_irem S.1 S.2.1 dX8_farFrom_15 q6 ?_
    refine lv_iload_n S.1 S.2.1 dX8_farFrom_16 rfl (lv_at hl 2 rfl) ?_
    refine lv_isub S.1 S.2.1 dX8_farFrom_17 ?_
    refine va_mabs S.1 S.2.1 (by rw [S.2.2.1, hl.1]) S.2.2.2.1 (S.2.2.2.2 _ (List.mem_cons_of_mem _ wT_34_7)) (S.2.2.2.2 _ (List.mem_cons_of_mem _ wT_34_8)) (S.2.2.2.2 _ (List.mem_cons_of_mem _ wT_15_17)) (S.2.2.2.2 _ (List.mem_cons_of_mem _ wT_34_9)) (Nat.le_of_ble_eq_true rfl) (Nat.le_of_ble_eq_true rfl) (Nat.zero_le _) (Nat.zero_le _) dX8_farFrom_18 ?_
    refine lv_iload_n S.1 S.2.1 dX8_farFrom_21 rfl (lv_at hl 1 rfl) ?_
    refine lv_aload_n S.1 S.2.1 dX8_farFrom_22 rfl (lv_at hl 0 rfl) ?_
    obtain ⟨v7, e8, f⟩ := ob f
    refine o_gI S lf8_farFrom_32 I e8 dX8_farFrom_23 ?_
    have q9 : ¬ v7 = 0 := fun q => by rw [if_pos q] at f; cases f
    have f := (if_neg q9).symm.trans f
    refine lv_idiv S.1 S.2.1 dX8_farFrom_26 q9 ?_
    refine lv_aload_n S.1 S.2.1 dX8_farFrom_27 rfl (lv_at hl 0 rfl) ?_
    obtain ⟨v10, e11, f⟩ := ob f
    refine o_gI S lf8_farFrom_42 I e11 dX8_farFrom_28 ?_
    refine lv_isub S.1 S.2.1 dX8_farFrom_31 ?_
    refine va_mabs S.1 S.2.1 (by rw [S.2.2.1, hl.1]) S.2.2.2.1 (S.2.2.2.2 _ (List.mem_cons_of_mem _ wT_34_7)) (S.2.2.2.2 _ (List.mem_cons_of_mem _ wT_34_8)) (S.2.2.2.2 _ (List.mem_cons_of_mem _ wT_15_17)) (S.2.2.2.2 _ (List.mem_cons_of_mem _ wT_34_9)) (Nat.le_of_ble_eq_true rfl) (Nat.le_of_ble_eq_true rfl) (Nat.zero_le _) (Nat.zero_le _) dX8_farFrom_32 ?_
    refine lv_iadd S.1 S.2.1 dX8_farFrom_35 ?_
    exact o_iret S hr hlo I f dX8_farFrom_36
  · have f := (if_neg q3).symm.trans f
    refine lv_iconst (v := 0) S.1 S.2.1 dX8_farFrom_8 (by decide) ?_
    exact o_iret S hr hlo I f dX8_farFrom_9
theorem M8_farFrom (l : Launch) (D : va_G) (cy : Nat → ClassId) (b : Nat) (A : Nat → Prop) (fl : Bool) {h : PH} {a0 : Nat} {x1 : Int32} {x2 : Int32} {out : Int32 × PH} (f : F8_farFrom h a0 x1 x2 = some out) : Met l yX8_farFrom vX8_farFrom ({ frames := 1, cells := 0, slots := 0, locals := 24 } : Room) (va_Pc [.ref (b + a0), .int x1, .int x2] (ph_B D cy b A fl h)) (va_Qi (fun (r : Int32) (u : PH) => (r, u) = out) (ph_B D cy b A fl) A) 0 0 A :=
  o_met (by decide) rfl (Nat.le_of_ble_eq_true rfl) rfl (fun p e s m below meth c S hr hlo hnm ls hl I => T8_farFrom_0 S hr hlo ((gd f).2) I (lv_sub hl [0, 1, 2] rfl))
def vX8_rowOf : List Cond := .code yX8_rowOf cX8_rowOf 2 (some .int) :: TB
theorem lf8_rowOf_32 : Fl vX8_rowOf RX8 32 8 0 := ⟨RX8, TX8, 14, rfl, by decide, (fun w h9 => List.mem_cons_of_mem _ (wC_wsX80 w h9)), (List.mem_cons_of_mem _ wT_3_15)⟩
theorem cd8_rowOf : Cd yX8_rowOf 1 := ⟨by decide, by decide, by decide +kernel⟩
set_option maxHeartbeats 4000000 in
set_option maxRecDepth 100000 in
theorem T8_rowOf_0 (S : CallFix p m c cX8_rowOf 2 s args vX8_rowOf RX8) (hr : meth.sig.returnType = (some .int)) (hlo : meth.locks = false) {out : Int32 × PH} {h : PH} {a0 : Nat} {x1 : Int32} (f : F8_rowOf_0  h a0 x1 = some out) {H : Heap} {locs : List Loc} (I : ph_I D cy b A fl h s H locs) {ls : Array Slot} (hl : lv_has ls 2 [(0, .ref (b + a0)), (1, .int x1)]) : W p l e ({ frames := 0, cells := 0, slots := 0, locals := 0 } : Room) s m args below meth c H locs 0 0 (MQ below (va_Qi (fun (r : Int32) (u : PH) => (r, u) = out) (ph_B D cy b A fl) A) args s 0 0 A) (F0 m 0 ls []) := by
  unfold F8_rowOf_0 at f
  refine lv_aload_n S.1 S.2.1 dX8_rowOf_0 rfl (lv_at hl 0 rfl) ?_
  obtain ⟨v1, e2, f⟩ := ob f
  refine o_gI S lf8_rowOf_32 I e2 dX8_rowOf_1 ?_
  refine lv_if_le (tgt := 16) S.1 S.2.1 dX8_rowOf_4 (by decide) (fun q3 => ?_) (fun q3 => ?_)
  · have f := (if_pos q3).symm.trans f
    refine lv_iconst (v := 0) S.1 S.2.1 dX8_rowOf_16 (by decide) ?_
    exact o_iret S hr hlo I f dX8_rowOf_17
  · have f := (if_neg q3).symm.trans f
    refine lv_iload_n S.1 S.2.1 dX8_rowOf_7 rfl (lv_at hl 1 rfl) ?_
    refine lv_aload_n S.1 S.2.1 dX8_rowOf_8 rfl (lv_at hl 0 rfl) ?_
    obtain ⟨v4, e5, f⟩ := ob f
    refine o_gI S lf8_rowOf_32 I e5 dX8_rowOf_9 ?_
    have q6 : ¬ v4 = 0 := fun q => by rw [if_pos q] at f; cases f
    have f := (if_neg q6).symm.trans f
    refine lv_idiv S.1 S.2.1 dX8_rowOf_12 q6 ?_
    refine lv_goto (tgt := 17) S.1 S.2.1 dX8_rowOf_13 (by decide) ?_
    exact o_iret S hr hlo I f dX8_rowOf_17
theorem M8_rowOf (l : Launch) (D : va_G) (cy : Nat → ClassId) (b : Nat) (A : Nat → Prop) (fl : Bool) {h : PH} {a0 : Nat} {x1 : Int32} {out : Int32 × PH} (f : F8_rowOf h a0 x1 = some out) : Met l yX8_rowOf vX8_rowOf ({ frames := 0, cells := 0, slots := 0, locals := 0 } : Room) (va_Pc [.ref (b + a0), .int x1] (ph_B D cy b A fl h)) (va_Qi (fun (r : Int32) (u : PH) => (r, u) = out) (ph_B D cy b A fl) A) 0 0 A :=
  o_met (by decide) rfl (Nat.le_of_ble_eq_true rfl) rfl (fun p e s m below meth c S hr hlo hnm ls hl I => T8_rowOf_0 S hr hlo ((gd f).2) I (lv_sub hl [0, 1] rfl))
def vX6_nameCatch : List Cond := .code yX6_nameCatch cX6_nameCatch 4 none :: TB
theorem gX6_nameCatch_X6_nameAway : GoodIn vX6_nameCatch (wsV RX6 118 RX6 yX6_nameAway vX6_nameAway) := gV_of wT_38_22 wT_38_23 wT_39_0 wT_2_2 wT_39_1
theorem lf6_nameCatch_25 : Fl vX6_nameCatch RX6 25 6 4 := ⟨RX6, TX6, 9, rfl, by decide, (fun w h9 => List.mem_cons_of_mem _ (wC_wsX60 w h9)), (List.mem_cons_of_mem _ wT_7_19)⟩
theorem lf6_nameCatch_9 : Fl vX6_nameCatch RX6 9 6 0 := ⟨RX6, TX6, 9, rfl, by decide, (fun w h9 => List.mem_cons_of_mem _ (wC_wsX60 w h9)), (List.mem_cons_of_mem _ wT_7_15)⟩
theorem lf6_nameCatch_22 : Fl vX6_nameCatch RX6 22 6 3 := ⟨RX6, TX6, 9, rfl, by decide, (fun w h9 => List.mem_cons_of_mem _ (wC_wsX60 w h9)), (List.mem_cons_of_mem _ wT_7_18)⟩
theorem gX6_nameCatch_X8_farFrom : GoodIn vX6_nameCatch (wsV RX6 108 RX8 yX8_farFrom vX8_farFrom) := gV_of wT_39_4 wT_34_4 wT_34_5 wT_1_17 wT_34_6
theorem gX6_nameCatch_X8_rowOf : GoodIn vX6_nameCatch (wsV RX6 122 RX8 yX8_rowOf vX8_rowOf) := gV_of wT_39_5 wT_39_6 wT_39_7 wT_1_17 wT_39_8
theorem lf6_nameCatch_125 : Fl vX6_nameCatch RX6 125 8 3 := ⟨RX8, TX8, 14, rfl, by decide, (fun w h9 => List.mem_cons_of_mem _ (wC_wsX80 w h9)), (List.mem_cons_of_mem _ wT_38_21)⟩
theorem cd6_nameCatch : Cd yX6_nameCatch 3 := ⟨by decide, by decide, by decide +kernel⟩
set_option maxHeartbeats 4000000 in
set_option maxRecDepth 100000 in
theorem T6_nameCatch_0 (S : CallFix p m c cX6_nameCatch 4 s args vX6_nameCatch RX6) (hr : meth.sig.returnType = none) (hlo : meth.locks = false) {out : PH} {h : PH} {a0 : Nat} {x1 : Int32} {x2 : Int32} {x3 : Int32} (f : F6_nameCatch_0  h a0 x1 x2 x3 = some out) {H : Heap} {locs : List Loc} (I : ph_I D cy b A fl h s H locs) {ls : Array Slot} (hl : lv_has ls 4 [(0, .ref (b + a0)), (1, .int x1), (2, .int x2), (3, .int x3)]) : W p l e ({ frames := 2, cells := 0, slots := 0, locals := 46 } : Room) s m args below meth c H locs 0 0 (MQ below (va_Qv (fun (u : PH) => u = out) (ph_B D cy b A fl) A) args s 0 0 A) (F0 m 0 ls []) := by
  unfold F6_nameCatch_0 at f
  refine lv_aload_n S.1 S.2.1 dX6_nameCatch_0 rfl (lv_at hl 0 rfl) ?_
  refine lv_iload_n S.1 S.2.1 dX6_nameCatch_1 rfl (lv_at hl 1 rfl) ?_
  refine lv_iload_n S.1 S.2.1 dX6_nameCatch_2 rfl (lv_at hl 2 rfl) ?_
  obtain ⟨o1, e2, f⟩ := ob f
  refine o_Vv S (As := [.int x1, .int x2]) (rest := []) (ci := 6) (M6_nameAway l D cy b A fl e2) gX6_nameCatch_X6_nameAway rfl rfl rfl cd6_nameAway ⟨Nat.le_of_ble_eq_true rfl, Nat.le_of_ble_eq_true rfl⟩ I (gd e2).1 clX6 rfl rfl hl.1 rfl (Nat.le_of_ble_eq_true rfl) dX6_nameCatch_3 ⟨Nat.le_of_ble_eq_true rfl, Nat.le_of_ble_eq_true rfl⟩ (fun H locs I => ?_)
  refine lv_aload_n S.1 S.2.1 dX6_nameCatch_6 rfl (lv_at hl 0 rfl) ?_
  obtain ⟨r3, e4, f⟩ := ob f
  refine o_gR S lf6_nameCatch_25 I e4 dX6_nameCatch_7 ?_
  refine lv_iconst (v := 0) S.1 S.2.1 dX6_nameCatch_10 (by decide) ?_
  refine lv_aload_n S.1 S.2.1 dX6_nameCatch_11 rfl (lv_at hl 0 rfl) ?_
  obtain ⟨r5, e6, f⟩ := ob f
  refine o_gR S lf6_nameCatch_9 I e6 dX6_nameCatch_12 ?_
  refine lv_iload_n S.1 S.2.1 dX6_nameCatch_15 rfl (lv_at hl 3 rfl) ?_
  refine lv_aload_n S.1 S.2.1 dX6_nameCatch_16 rfl (lv_at hl 0 rfl) ?_
  obtain ⟨r7, e8, f⟩ := ob f
  refine o_gR S lf6_nameCatch_22 I e8 dX6_nameCatch_17 ?_
  refine lv_iload_n S.1 S.2.1 dX6_nameCatch_20 rfl (lv_at hl 2 rfl) ?_
  obtain ⟨v10, e9, f⟩ := ob f
  refine o_iald S I e9 dX6_nameCatch_21 ?_
  obtain ⟨o11, e12, f⟩ := ob f
  refine o_Vi S (As := [.int x3, .int v10]) (rest := [.int 0, .ref (b + r3)]) (ci := 8) (M8_farFrom l D cy b A fl e12) gX6_nameCatch_X8_farFrom rfl rfl rfl cd8_farFrom ⟨Nat.le_of_ble_eq_true rfl, Nat.le_of_ble_eq_true rfl⟩ I (gd e12).1 clX8 rfl rfl hl.1 rfl (Nat.le_of_ble_eq_true rfl) dX6_nameCatch_22 ⟨Nat.le_of_ble_eq_true rfl, Nat.le_of_ble_eq_true rfl⟩ (fun H locs I => ?_)
  refine lv_i2l (v := Int32.toInt64 o11.1) S.1 S.2.1 dX6_nameCatch_25 rfl ?_
  obtain ⟨h14, e13, f⟩ := ob f
  refine o_last S I e13 dX6_nameCatch_26 (fun H locs I => ?_)
  refine lv_aload_n S.1 S.2.1 dX6_nameCatch_27 rfl (lv_at hl 0 rfl) ?_
  obtain ⟨r15, e16, f⟩ := ob f
  refine o_gR S lf6_nameCatch_25 I e16 dX6_nameCatch_28 ?_
  refine lv_iconst (v := 1) S.1 S.2.1 dX6_nameCatch_31 (by decide) ?_
  refine lv_aload_n S.1 S.2.1 dX6_nameCatch_32 rfl (lv_at hl 0 rfl) ?_
  obtain ⟨r17, e18, f⟩ := ob f
  refine o_gR S lf6_nameCatch_9 I e18 dX6_nameCatch_33 ?_
  refine lv_iload_n S.1 S.2.1 dX6_nameCatch_36 rfl (lv_at hl 3 rfl) ?_
  obtain ⟨o19, e20, f⟩ := ob f
  refine o_Vi S (As := [.int x3]) (rest := [.int 1, .ref (b + r15)]) (ci := 8) (M8_rowOf l D cy b A fl e20) gX6_nameCatch_X8_rowOf rfl rfl rfl cd8_rowOf ⟨Nat.le_of_ble_eq_true rfl, Nat.le_of_ble_eq_true rfl⟩ I (gd e20).1 clX8 rfl rfl hl.1 rfl (Nat.le_of_ble_eq_true rfl) dX6_nameCatch_37 ⟨Nat.le_of_ble_eq_true rfl, Nat.le_of_ble_eq_true rfl⟩ (fun H locs I => ?_)
  refine lv_aload_n S.1 S.2.1 dX6_nameCatch_40 rfl (lv_at hl 0 rfl) ?_
  obtain ⟨r21, e22, f⟩ := ob f
  refine o_gR S lf6_nameCatch_9 I e22 dX6_nameCatch_41 ?_
  obtain ⟨v23, e24, f⟩ := ob f
  refine o_gI S lf6_nameCatch_125 I e24 dX6_nameCatch_44 ?_
  refine lv_isub S.1 S.2.1 dX6_nameCatch_47 ?_
  refine lv_i2l (v := Int32.toInt64 (o19.1 - v23)) S.1 S.2.1 dX6_nameCatch_48 rfl ?_
  obtain ⟨h26, e25, f⟩ := ob f
  refine o_last S I e25 dX6_nameCatch_49 (fun H locs I => ?_)
  exact o_vret S hr hlo I f dX6_nameCatch_50
end
