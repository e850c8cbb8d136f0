section
variable {p : Program} {l : Launch} {e : Env} {s : State} {m : MethodId} {args : Array Value} {below : List Frame} {meth : Method} {c : Code} {D : va_G} {cy : Nat → ClassId} {b : Nat} {A : Nat → Prop} {fl : Bool}
set_option maxHeartbeats 4000000 in
set_option maxRecDepth 100000 in
theorem T7_init_21 (S : CallFix p m c cX7_init 4 s args vX7_init RX7) (hr : meth.sig.returnType = none) (hlo : meth.locks = false) (hin2 : meth.name = "<init>") (hAn : ∀ q, b ≤ q → A q) {out : PH} : ∀ (n : Nat) {h : PH} {a0 : Nat} {x1 : Int32} (f : F7_init_21  n h a0 x1 = some out) {H : Heap} {locs : List Loc} (I : ph_I D cy b A true h s H locs) {ls : Array Slot} (hl : lv_has ls 4 [(0, .ref (b + a0)), (1, .int x1)]), W p l e ({ frames := 4, cells := 2, slots := 24, locals := 100 } : Room) s m args below meth c H locs 2 24 (MQ below (va_Qv (fun (u : PH) => u = out) (ph_B D cy b A true) A) args s 2 24 A) (F0 m 21 ls []) := by
  intro n
  induction n with
  | zero => intro h a0 x1 f; rw [F7_init_21] at f; cases f
  | succ n ih =>
    intro h a0 x1 f H locs I ls hl
    rw [F7_init_21] at f
    refine lv_iload_n S.1 S.2.1 dX7_init_21 rfl (lv_at hl 1 rfl) ?_
    refine lv_bipush (v := 24) S.1 S.2.1 dX7_init_22 (by decide) ?_
    refine lv_icmp_ge (tgt := 84) S.1 S.2.1 dX7_init_24 (by decide) (fun q1 => ?_) (fun q1 => ?_)
    · have f := (if_pos q1).symm.trans f
      exact o_vret S hr hlo I f dX7_init_84
    · have f := (if_neg q1).symm.trans f
      refine lv_iconst (v := 0) S.1 S.2.1 dX7_init_27 (by decide) ?_
      refine lv_istore_n (lv' := [(2, .int 0), (0, .ref (b + a0)), (1, .int x1)]) S.1 S.2.1 dX7_init_28 rfl hl (by decide) rfl (fun ls hl => ?_)
      exact T7_init_29 S hr hlo hin2 hAn (fun f _ _ I _ hl => ih f I hl) 1024 f I (lv_sub hl [1, 2, 0] rfl)
set_option maxHeartbeats 4000000 in
set_option maxRecDepth 100000 in
theorem T7_init_0 (S : CallFix p m c cX7_init 4 s args vX7_init RX7) (hr : meth.sig.returnType = none) (hlo : meth.locks = false) (hin2 : meth.name = "<init>") (hAn : ∀ q, b ≤ q → A q) {out : PH} {h : PH} {a0 : Nat} (f : F7_init_0  h a0 = some out) {H : Heap} {locs : List Loc} (I : ph_I D cy b A true h s H locs) {ls : Array Slot} (hl : lv_has ls 4 [(0, .ref (b + a0))]) : W p l e ({ frames := 4, cells := 2, slots := 24, locals := 100 } : Room) s m args below meth c H locs 0 0 (MQ below (va_Qv (fun (u : PH) => u = out) (ph_B D cy b A true) A) args s 2 24 A) (F0 m 0 ls []) := by
  unfold F7_init_0 at f
  refine lv_aload_n S.1 S.2.1 dX7_init_0 rfl (lv_at hl 0 rfl) ?_
  refine o_objI S (List.mem_cons_of_mem _ wT_5_9) (List.mem_cons_of_mem _ wT_1_11) (List.mem_cons_of_mem _ wT_1_12) hl.1 dX7_init_1 (Nat.le_of_ble_eq_true rfl) (Nat.le_of_ble_eq_true rfl) ?_
  refine lv_aload_n S.1 S.2.1 dX7_init_4 rfl (lv_at hl 0 rfl) ?_
  refine lv_bipush (v := 24) S.1 S.2.1 dX7_init_5 (by decide) ?_
  obtain ⟨h1, e2, f⟩ := ob f
  refine o_newI S (List.mem_cons_of_mem _ wT_3_21) I hAn (N := 24) e2 (by decide) (by decide) (Nat.le_of_ble_eq_true rfl) (Nat.le_of_ble_eq_true rfl) (Nat.le_of_ble_eq_true rfl) dX7_init_7 (fun H I => ?_)
  obtain ⟨h3, e4, f⟩ := ob f
  refine o_pRF S hin2 lp7_init_9 (Or.inr ⟨_, rfl⟩) I e4 dX7_init_9 (fun H locs I => ?_)
  refine lv_aload_n S.1 S.2.1 dX7_init_12 rfl (lv_at hl 0 rfl) ?_
  refine lv_iconst (v := 0) S.1 S.2.1 dX7_init_13 (by decide) ?_
  obtain ⟨h5, e6, f⟩ := ob f
  refine o_newB S (List.mem_cons_of_mem _ wT_1_13) I hAn (N := 0) e6 (by decide) (by decide) (Nat.le_of_ble_eq_true rfl) (Nat.le_of_ble_eq_true rfl) (Nat.le_of_ble_eq_true rfl) dX7_init_14 (fun H I => ?_)
  obtain ⟨h7, e8, f⟩ := ob f
  refine o_pR S lp7_init_15 (Or.inr ⟨_, rfl⟩) I e8 dX7_init_16 (fun H locs I => ?_)
  refine lv_iconst (v := 0) S.1 S.2.1 dX7_init_19 (by decide) ?_
  refine lv_istore_n (lv' := [(1, .int 0), (0, .ref (b + a0))]) S.1 S.2.1 dX7_init_20 rfl hl (by decide) rfl (fun ls hl => ?_)
  exact T7_init_21 S hr hlo hin2 hAn  1024 f I (lv_sub hl [1, 0] rfl)
theorem M7_init (l : Launch) (D : va_G) (cy : Nat → ClassId) (b : Nat) (A : Nat → Prop) (hAn : ∀ q, b ≤ q → A q) {h : PH} {a0 : Nat} {out : PH} (f : F7_init h a0 = some out) : Met l yX7_init vX7_init ({ frames := 4, cells := 2, slots := 24, locals := 100 } : Room) (va_Pc [.ref (b + a0)] (ph_B D cy b A true h)) (va_Qv (fun (u : PH) => u = out) (ph_B D cy b A true) A) 2 24 A :=
  o_met (by decide) rfl (Nat.le_of_ble_eq_true rfl) rfl (fun p e s m below meth c S hr hlo hnm ls hl I => T7_init_0 S hr hlo hnm hAn ((gd f).2) I (lv_sub hl [0] rfl))
def vX9_init : List Cond := .code yX9_init cX9_init 1 none :: TB
theorem lp9_init_9 : PlF vX9_init RX9 9 9 1 (.array .int) := ⟨RX9, TX9, 3, tyX9, rfl, by decide, (fun w h9 => List.mem_cons_of_mem _ (wC_wsX90 w h9)), (List.mem_cons_of_mem _ wT_9_1), tyX9_ok, nmX9, rfl, rfl, rfl⟩
theorem lp9_init_15 : PlF vX9_init RX9 15 9 2 (.array .int) := ⟨RX9, TX9, 3, tyX9, rfl, by decide, (fun w h9 => List.mem_cons_of_mem _ (wC_wsX90 w h9)), (List.mem_cons_of_mem _ wT_9_2), tyX9_ok, nmX9, rfl, rfl, rfl⟩
theorem cd9_init : Cd yX9_init 0 := ⟨by decide, by decide, by decide +kernel⟩
set_option maxHeartbeats 4000000 in
set_option maxRecDepth 100000 in
theorem T9_init_0 (S : CallFix p m c cX9_init 1 s args vX9_init RX9) (hr : meth.sig.returnType = none) (hlo : meth.locks = false) (hin2 : meth.name = "<init>") (hAn : ∀ q, b ≤ q → A q) {out : PH} {h : PH} {a0 : Nat} (f : F9_init_0  h a0 = some out) {H : Heap} {locs : List Loc} (I : ph_I D cy b A true h s H locs) {ls : Array Slot} (hl : lv_has ls 1 [(0, .ref (b + a0))]) : W p l e ({ frames := 1, cells := 2, slots := 40, locals := 20 } : Room) s m args below meth c H locs 0 0 (MQ below (va_Qv (fun (u : PH) => u = out) (ph_B D cy b A true) A) args s 2 40 A) (F0 m 0 ls []) := by
  unfold F9_init_0 at f
  refine lv_aload_n S.1 S.2.1 dX9_init_0 rfl (lv_at hl 0 rfl) ?_
  refine o_objI S (List.mem_cons_of_mem _ wT_9_0) (List.mem_cons_of_mem _ wT_1_11) (List.mem_cons_of_mem _ wT_1_12) hl.1 dX9_init_1 (Nat.le_of_ble_eq_true rfl) (Nat.le_of_ble_eq_true rfl) ?_
  refine lv_aload_n S.1 S.2.1 dX9_init_4 rfl (lv_at hl 0 rfl) ?_
  refine lv_bipush (v := 20) S.1 S.2.1 dX9_init_5 (by decide) ?_
  obtain ⟨h1, e2, f⟩ := ob f
  refine o_newI S (List.mem_cons_of_mem _ wT_3_21) I hAn (N := 20) e2 (by decide) (by decide) (Nat.le_of_ble_eq_true rfl) (Nat.le_of_ble_eq_true rfl) (Nat.le_of_ble_eq_true rfl) dX9_init_7 (fun H I => ?_)
  obtain ⟨h3, e4, f⟩ := ob f
  refine o_pRF S hin2 lp9_init_9 (Or.inr ⟨_, rfl⟩) I e4 dX9_init_9 (fun H locs I => ?_)
  refine lv_aload_n S.1 S.2.1 dX9_init_12 rfl (lv_at hl 0 rfl) ?_
  refine lv_bipush (v := 20) S.1 S.2.1 dX9_init_13 (by decide) ?_
  obtain ⟨h5, e6, f⟩ := ob f
  refine o_newI S (List.mem_cons_of_mem _ wT_3_21) I hAn (N := 20) e6 (by decide) (by decide) (Nat.le_of_ble_eq_true rfl) (Nat.le_of_ble_eq_true rfl) (Nat.le_of_ble_eq_true rfl) dX9_init_15 (fun H I => ?_)
  obtain ⟨h7, e8, f⟩ := ob f
  refine o_pRF S hin2 lp9_init_15 (Or.inr ⟨_, rfl⟩) I e8 dX9_init_17 (fun H locs I => ?_)
  exact o_vret S hr hlo I f dX9_init_20
theorem M9_init (l : Launch) (D : va_G) (cy : Nat → ClassId) (b : Nat) (A : Nat → Prop) (hAn : ∀ q, b ≤ q → A q) {h : PH} {a0 : Nat} {out : PH} (f : F9_init h a0 = some out) : Met l yX9_init vX9_init ({ frames := 1, cells := 2, slots := 40, locals := 20 } : Room) (va_Pc [.ref (b + a0)] (ph_B D cy b A true h)) (va_Qv (fun (u : PH) => u = out) (ph_B D cy b A true) A) 2 40 A :=
  o_met (by decide) rfl (Nat.le_of_ble_eq_true rfl) rfl (fun p e s m below meth c S hr hlo hnm ls hl I => T9_init_0 S hr hlo hnm hAn ((gd f).2) I (lv_sub hl [0] rfl))
def vX10_init : List Cond := .code yX10_init cX10_init 1 none :: TB
theorem lp10_init_9 : PlF vX10_init RX10 9 10 2 (.array .int) := ⟨RX10, TX10, 8, tyX10, rfl, by decide, (fun w h9 => List.mem_cons_of_mem _ (wC_wsX100 w h9)), (List.mem_cons_of_mem _ wT_4_8), tyX10_ok, nmX10, rfl, rfl, rfl⟩
theorem lp10_init_15 : PlF vX10_init RX10 15 10 3 (.array .int) := ⟨RX10, TX10, 8, tyX10, rfl, by decide, (fun w h9 => List.mem_cons_of_mem _ (wC_wsX100 w h9)), (List.mem_cons_of_mem _ wT_4_9), tyX10_ok, nmX10, rfl, rfl, rfl⟩
theorem lp10_init_18 : PlF vX10_init RX10 18 10 4 (.array .int) := ⟨RX10, TX10, 8, tyX10, rfl, by decide, (fun w h9 => List.mem_cons_of_mem _ (wC_wsX100 w h9)), (List.mem_cons_of_mem _ wT_4_10), tyX10_ok, nmX10, rfl, rfl, rfl⟩
theorem lp10_init_21 : PlF vX10_init RX10 21 10 5 (.array .int) := ⟨RX10, TX10, 8, tyX10, rfl, by decide, (fun w h9 => List.mem_cons_of_mem _ (wC_wsX100 w h9)), (List.mem_cons_of_mem _ wT_4_11), tyX10_ok, nmX10, rfl, rfl, rfl⟩
theorem lp10_init_24 : PlF vX10_init RX10 24 10 6 (.array .int) := ⟨RX10, TX10, 8, tyX10, rfl, by decide, (fun w h9 => List.mem_cons_of_mem _ (wC_wsX100 w h9)), (List.mem_cons_of_mem _ wT_4_12), tyX10_ok, nmX10, rfl, rfl, rfl⟩
theorem lp10_init_27 : PlF vX10_init RX10 27 10 7 (.array .int) := ⟨RX10, TX10, 8, tyX10, rfl, by decide, (fun w h9 => List.mem_cons_of_mem _ (wC_wsX100 w h9)), (List.mem_cons_of_mem _ wT_4_13), tyX10_ok, nmX10, rfl, rfl, rfl⟩
theorem cd10_init : Cd yX10_init 0 := ⟨by decide, by decide, by decide +kernel⟩
set_option maxHeartbeats 4000000 in
set_option maxRecDepth 100000 in
theorem T10_init_0 (S : CallFix p m c cX10_init 1 s args vX10_init RX10) (hr : meth.sig.returnType = none) (hlo : meth.locks = false) (hin2 : meth.name = "<init>") (hAn : ∀ q, b ≤ q → A q) {out : PH} {h : PH} {a0 : Nat} (f : F10_init_0  h a0 = some out) {H : Heap} {locs : List Loc} (I : ph_I D cy b A true h s H locs) {ls : Array Slot} (hl : lv_has ls 1 [(0, .ref (b + a0))]) : W p l e ({ frames := 1, cells := 6, slots := 120, locals := 20 } : Room) s m args below meth c H locs 0 0 (MQ below (va_Qv (fun (u : PH) => u = out) (ph_B D cy b A true) A) args s 6 120 A) (F0 m 0 ls []) := by
  unfold F10_init_0 at f
  refine lv_aload_n S.1 S.2.1 dX10_init_0 rfl (lv_at hl 0 rfl) ?_
  refine o_objI S (List.mem_cons_of_mem _ wT_4_7) (List.mem_cons_of_mem _ wT_1_11) (List.mem_cons_of_mem _ wT_1_12) hl.1 dX10_init_1 (Nat.le_of_ble_eq_true rfl) (Nat.le_of_ble_eq_true rfl) ?_
  refine lv_aload_n S.1 S.2.1 dX10_init_4 rfl (lv_at hl 0 rfl) ?_
  refine lv_iconst (v := 4) S.1 S.2.1 dX10_init_5 (by decide) ?_
  obtain ⟨h1, e2, f⟩ := ob f
  refine o_newI S (List.mem_cons_of_mem _ wT_3_21) I hAn (N := 4) e2 (by decide) (by decide) (Nat.le_of_ble_eq_true rfl) (Nat.le_of_ble_eq_true rfl) (Nat.le_of_ble_eq_true rfl) dX10_init_6 (fun H I => ?_)
  obtain ⟨h3, e4, f⟩ := ob f
  refine o_pRF S hin2 lp10_init_9 (Or.inr ⟨_, rfl⟩) I e4 dX10_init_8 (fun H locs I => ?_)
  refine lv_aload_n S.1 S.2.1 dX10_init_11 rfl (lv_at hl 0 rfl) ?_
  refine lv_iconst (v := 4) S.1 S.2.1 dX10_init_12 (by decide) ?_
  obtain ⟨h5, e6, f⟩ := ob f
  refine o_newI S (List.mem_cons_of_mem _ wT_3_21) I hAn (N := 4) e6 (by decide) (by decide) (Nat.le_of_ble_eq_true rfl) (Nat.le_of_ble_eq_true rfl) (Nat.le_of_ble_eq_true rfl) dX10_init_13 (fun H I => ?_)
  obtain ⟨h7, e8, f⟩ := ob f
  refine o_pRF S hin2 lp10_init_15 (Or.inr ⟨_, rfl⟩) I e8 dX10_init_15 (fun H locs I => ?_)
  refine lv_aload_n S.1 S.2.1 dX10_init_18 rfl (lv_at hl 0 rfl) ?_
  refine lv_bipush (v := 28) S.1 S.2.1 dX10_init_19 (by decide) ?_
  obtain ⟨h9, e10, f⟩ := ob f
  refine o_newI S (List.mem_cons_of_mem _ wT_3_21) I hAn (N := 28) e10 (by decide) (by decide) (Nat.le_of_ble_eq_true rfl) (Nat.le_of_ble_eq_true rfl) (Nat.le_of_ble_eq_true rfl) dX10_init_21 (fun H I => ?_)
  obtain ⟨h11, e12, f⟩ := ob f
  refine o_pRF S hin2 lp10_init_18 (Or.inr ⟨_, rfl⟩) I e12 dX10_init_23 (fun H locs I => ?_)
  refine lv_aload_n S.1 S.2.1 dX10_init_26 rfl (lv_at hl 0 rfl) ?_
  refine lv_bipush (v := 28) S.1 S.2.1 dX10_init_27 (by decide) ?_
  obtain ⟨h13, e14, f⟩ := ob f
  refine o_newI S (List.mem_cons_of_mem _ wT_3_21) I hAn (N := 28) e14 (by decide) (by decide) (Nat.le_of_ble_eq_true rfl) (Nat.le_of_ble_eq_true rfl) (Nat.le_of_ble_eq_true rfl) dX10_init_29 (fun H I => ?_)
  obtain ⟨h15, e16, f⟩ := ob f
  refine o_pRF S hin2 lp10_init_21 (Or.inr ⟨_, rfl⟩) I e16 dX10_init_31 (fun H locs I => ?_)
  refine lv_aload_n S.1 S.2.1 dX10_init_34 rfl (lv_at hl 0 rfl) ?_
  refine lv_bipush (v := 28) S.1 S.2.1 dX10_init_35 (by decide) ?_
  obtain ⟨h17, e18, f⟩ := ob f
  refine o_newI S (List.mem_cons_of_mem _ wT_3_21) I hAn (N := 28) e18 (by decide) (by decide) (Nat.le_of_ble_eq_true rfl) (Nat.le_of_ble_eq_true rfl) (Nat.le_of_ble_eq_true rfl) dX10_init_37 (fun H I => ?_)
  obtain ⟨h19, e20, f⟩ := ob f
  refine o_pRF S hin2 lp10_init_24 (Or.inr ⟨_, rfl⟩) I e20 dX10_init_39 (fun H locs I => ?_)
  refine lv_aload_n S.1 S.2.1 dX10_init_42 rfl (lv_at hl 0 rfl) ?_
  refine lv_bipush (v := 28) S.1 S.2.1 dX10_init_43 (by decide) ?_
  obtain ⟨h21, e22, f⟩ := ob f
  refine o_newI S (List.mem_cons_of_mem _ wT_3_21) I hAn (N := 28) e22 (by decide) (by decide) (Nat.le_of_ble_eq_true rfl) (Nat.le_of_ble_eq_true rfl) (Nat.le_of_ble_eq_true rfl) dX10_init_45 (fun H I => ?_)
  obtain ⟨h23, e24, f⟩ := ob f
  refine o_pRF S hin2 lp10_init_27 (Or.inr ⟨_, rfl⟩) I e24 dX10_init_47 (fun H locs I => ?_)
  exact o_vret S hr hlo I f dX10_init_50
theorem M10_init (l : Launch) (D : va_G) (cy : Nat → ClassId) (b : Nat) (A : Nat → Prop) (hAn : ∀ q, b ≤ q → A q) {h : PH} {a0 : Nat} {out : PH} (f : F10_init h a0 = some out) : Met l yX10_init vX10_init ({ frames := 1, cells := 6, slots := 120, locals := 20 } : Room) (va_Pc [.ref (b + a0)] (ph_B D cy b A true h)) (va_Qv (fun (u : PH) => u = out) (ph_B D cy b A true) A) 6 120 A :=
  o_met (by decide) rfl (Nat.le_of_ble_eq_true rfl) rfl (fun p e s m below meth c S hr hlo hnm ls hl I => T10_init_0 S hr hlo hnm hAn ((gd f).2) I (lv_sub hl [0] rfl))
def vX8_init : List Cond := .code yX8_init cX8_init 2 none :: TB
theorem ln8_init_9 : Nl vX8_init RX8 9 1 7 zF1 := ⟨RX1, TX1, tyX1, rfl, (fun w h9 => List.mem_cons_of_mem _ (wC_wsX10 w h9)), tyX1_ok, (List.mem_cons_of_mem _ wT_3_3), (List.mem_cons_of_mem _ wT_3_4), (List.mem_cons_of_mem _ wT_3_5), zF1_ok⟩
theorem gX8_init_X1_init : GoodIn vX8_init vX1_init := gI_of wT_3_19
theorem lp8_init_12 : PlF vX8_init RX8 12 8 4 (.object "WhoseWave$Crowd") := ⟨RX8, TX8, 14, tyX8, rfl, by decide, (fun w h9 => List.mem_cons_of_mem _ (wC_wsX80 w h9)), (List.mem_cons_of_mem _ wT_3_6), tyX8_ok, nmX8, rfl, rfl, rfl⟩
theorem ln8_init_18 : Nl vX8_init RX8 18 10 8 zF10 := ⟨RX10, TX10, tyX10, rfl, (fun w h9 => List.mem_cons_of_mem _ (wC_wsX100 w h9)), tyX10_ok, (List.mem_cons_of_mem _ wT_3_7), (List.mem_cons_of_mem _ wT_3_8), (List.mem_cons_of_mem _ wT_3_9), zF10_ok⟩
theorem gX8_init_X10_init : GoodIn vX8_init vX10_init := gI_of wT_4_6
theorem lp8_init_21 : PlF vX8_init RX8 21 8 5 (.object "WhoseWave$Waves") := ⟨RX8, TX8, 14, tyX8, rfl, by decide, (fun w h9 => List.mem_cons_of_mem _ (wC_wsX80 w h9)), (List.mem_cons_of_mem _ wT_3_10), tyX8_ok, nmX8, rfl, rfl, rfl⟩
theorem lp8_init_27 : PlF vX8_init RX8 27 8 11 (.array (.object "WhoseWave$Law")) := ⟨RX8, TX8, 14, tyX8, rfl, by decide, (fun w h9 => List.mem_cons_of_mem _ (wC_wsX80 w h9)), (List.mem_cons_of_mem _ wT_3_12), tyX8_ok, nmX8, rfl, rfl, rfl⟩
theorem lf8_init_27 : Fl vX8_init RX8 27 8 11 := ⟨RX8, TX8, 14, rfl, by decide, (fun w h9 => List.mem_cons_of_mem _ (wC_wsX80 w h9)), (List.mem_cons_of_mem _ wT_3_12)⟩
theorem ln8_init_25 : Nl vX8_init RX8 25 2 3 zF2 := ⟨RX2, TX2, tyX2, rfl, (fun w h9 => List.mem_cons_of_mem _ (wC_wsX20 w h9)), tyX2_ok, (List.mem_cons_of_mem _ wT_3_11), (List.mem_cons_of_mem _ wT_3_13), (List.mem_cons_of_mem _ wT_3_14), zF2_ok⟩
theorem gX8_init_X2_init : GoodIn vX8_init vX2_init := gI_of wT_4_16
theorem lp8_init_32 : Pl vX8_init RX8 32 8 0 .int := ⟨RX8, TX8, 14, tyX8, rfl, by decide, (fun w h9 => List.mem_cons_of_mem _ (wC_wsX80 w h9)), (List.mem_cons_of_mem _ wT_3_15), tyX8_ok, nmX8, rfl, rfl⟩
theorem lp8_init_36 : Pl vX8_init RX8 36 8 1 .int := ⟨RX8, TX8, 14, tyX8, rfl, by decide, (fun w h9 => List.mem_cons_of_mem _ (wC_wsX80 w h9)), (List.mem_cons_of_mem _ wT_3_16), tyX8_ok, nmX8, rfl, rfl⟩
theorem cd8_init : Cd yX8_init 0 := ⟨by decide, by decide, by decide +kernel⟩
end
