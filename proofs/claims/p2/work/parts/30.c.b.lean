section
variable {p : Program} {l : Launch} {e : Env} {s : State} {m : MethodId} {args : Array Value} {below : List Frame} {meth : Method} {c : Code} {D : va_G} {cy : Nat → ClassId} {b : Nat} {A : Nat → Prop} {fl : Bool}
def vX1_init : List Cond := .code yX1_init cX1_init 1 none :: TB
theorem lp1_init_9 : PlF vX1_init RX1 9 1 1 (.array .int) := ⟨RX1, TX1, 7, tyX1, rfl, by decide, (fun w h9 => List.mem_cons_of_mem _ (wC_wsX10 w h9)), (List.mem_cons_of_mem _ wT_3_22), tyX1_ok, nmX1, rfl, rfl, rfl⟩
theorem lp1_init_15 : PlF vX1_init RX1 15 1 2 (.array .int) := ⟨RX1, TX1, 7, tyX1, rfl, by decide, (fun w h9 => List.mem_cons_of_mem _ (wC_wsX10 w h9)), (List.mem_cons_of_mem _ wT_3_23), tyX1_ok, nmX1, rfl, rfl, rfl⟩
theorem lp1_init_18 : PlF vX1_init RX1 18 1 3 (.array .int) := ⟨RX1, TX1, 7, tyX1, rfl, by decide, (fun w h9 => List.mem_cons_of_mem _ (wC_wsX10 w h9)), (List.mem_cons_of_mem _ wT_4_0), tyX1_ok, nmX1, rfl, rfl, rfl⟩
theorem lp1_init_21 : PlF vX1_init RX1 21 1 4 (.array .int) := ⟨RX1, TX1, 7, tyX1, rfl, by decide, (fun w h9 => List.mem_cons_of_mem _ (wC_wsX10 w h9)), (List.mem_cons_of_mem _ wT_4_1), tyX1_ok, nmX1, rfl, rfl, rfl⟩
theorem lp1_init_24 : PlF vX1_init RX1 24 1 5 (.array .int) := ⟨RX1, TX1, 7, tyX1, rfl, by decide, (fun w h9 => List.mem_cons_of_mem _ (wC_wsX10 w h9)), (List.mem_cons_of_mem _ wT_4_2), tyX1_ok, nmX1, rfl, rfl, rfl⟩
theorem lp1_init_27 : PlF vX1_init RX1 27 1 6 (.array .int) := ⟨RX1, TX1, 7, tyX1, rfl, by decide, (fun w h9 => List.mem_cons_of_mem _ (wC_wsX10 w h9)), (List.mem_cons_of_mem _ wT_4_3), tyX1_ok, nmX1, rfl, rfl, rfl⟩
theorem cd1_init : Cd yX1_init 0 := ⟨by decide, by decide, by decide +kernel⟩
set_option maxHeartbeats 4000000 in
set_option maxRecDepth 100000 in
theorem T1_init_0 (S : CallFix p m c cX1_init 1 s args vX1_init RX1) (hr : meth.sig.returnType = none) (hlo : meth.locks = false) (hin2 : meth.name = "<init>") (hAn : ∀ q, b ≤ q → A q) {out : PH} {h : PH} {a0 : Nat} (f : F1_init_0  h a0 = some out) {H : Heap} {locs : List Loc} (I : ph_I D cy b A true h s H locs) {ls : Array Slot} (hl : lv_has ls 1 [(0, .ref (b + a0))]) : W p l e ({ frames := 1, cells := 6, slots := 30, locals := 20 } : Room) s m args below meth c H locs 0 0 (MQ below (va_Qv (fun (u : PH) => u = out) (ph_B D cy b A true) A) args s 6 30 A) (F0 m 0 ls []) := by
  unfold F1_init_0 at f
  refine lv_aload_n S.1 S.2.1 dX1_init_0 rfl (lv_at hl 0 rfl) ?_
  refine o_objI S (List.mem_cons_of_mem _ wT_3_20) (List.mem_cons_of_mem _ wT_1_11) (List.mem_cons_of_mem _ wT_1_12) hl.1 dX1_init_1 (Nat.le_of_ble_eq_true rfl) (Nat.le_of_ble_eq_true rfl) ?_
  refine lv_aload_n S.1 S.2.1 dX1_init_4 rfl (lv_at hl 0 rfl) ?_
  refine lv_iconst (v := 5) S.1 S.2.1 dX1_init_5 (by decide) ?_
  obtain ⟨h1, e2, f⟩ := ob f
  refine o_newI S (List.mem_cons_of_mem _ wT_3_21) I hAn (N := 5) e2 (by decide) (by decide) (Nat.le_of_ble_eq_true rfl) (Nat.le_of_ble_eq_true rfl) (Nat.le_of_ble_eq_true rfl) dX1_init_6 (fun H I => ?_)
  obtain ⟨h3, e4, f⟩ := ob f
  refine o_pRF S hin2 lp1_init_9 (Or.inr ⟨_, rfl⟩) I e4 dX1_init_8 (fun H locs I => ?_)
  refine lv_aload_n S.1 S.2.1 dX1_init_11 rfl (lv_at hl 0 rfl) ?_
  refine lv_iconst (v := 5) S.1 S.2.1 dX1_init_12 (by decide) ?_
  obtain ⟨h5, e6, f⟩ := ob f
  refine o_newI S (List.mem_cons_of_mem _ wT_3_21) I hAn (N := 5) e6 (by decide) (by decide) (Nat.le_of_ble_eq_true rfl) (Nat.le_of_ble_eq_true rfl) (Nat.le_of_ble_eq_true rfl) dX1_init_13 (fun H I => ?_)
  obtain ⟨h7, e8, f⟩ := ob f
  refine o_pRF S hin2 lp1_init_15 (Or.inr ⟨_, rfl⟩) I e8 dX1_init_15 (fun H locs I => ?_)
  refine lv_aload_n S.1 S.2.1 dX1_init_18 rfl (lv_at hl 0 rfl) ?_
  refine lv_iconst (v := 5) S.1 S.2.1 dX1_init_19 (by decide) ?_
  obtain ⟨h9, e10, f⟩ := ob f
  refine o_newI S (List.mem_cons_of_mem _ wT_3_21) I hAn (N := 5) e10 (by decide) (by decide) (Nat.le_of_ble_eq_true rfl) (Nat.le_of_ble_eq_true rfl) (Nat.le_of_ble_eq_true rfl) dX1_init_20 (fun H I => ?_)
  obtain ⟨h11, e12, f⟩ := ob f
  refine o_pRF S hin2 lp1_init_18 (Or.inr ⟨_, rfl⟩) I e12 dX1_init_22 (fun H locs I => ?_)
  refine lv_aload_n S.1 S.2.1 dX1_init_25 rfl (lv_at hl 0 rfl) ?_
  refine lv_iconst (v := 5) S.1 S.2.1 dX1_init_26 (by decide) ?_
  obtain ⟨h13, e14, f⟩ := ob f
  refine o_newI S (List.mem_cons_of_mem _ wT_3_21) I hAn (N := 5) e14 (by decide) (by decide) (Nat.le_of_ble_eq_true rfl) (Nat.le_of_ble_eq_true rfl) (Nat.le_of_ble_eq_true rfl) dX1_init_27 (fun H I => ?_)
  obtain ⟨h15, e16, f⟩ := ob f
  refine o_pRF S hin2 lp1_init_21 (Or.inr ⟨_, rfl⟩) I e16 dX1_init_29 (fun H locs I => ?_)
  refine lv_aload_n S.1 S.2.1 dX1_init_32 rfl (lv_at hl 0 rfl) ?_
  refine lv_iconst (v := 5) S.1 S.2.1 dX1_init_33 (by decide) ?_
  obtain ⟨h17, e18, f⟩ := ob f
  refine o_newI S (List.mem_cons_of_mem _ wT_3_21) I hAn (N := 5) e18 (by decide) (by decide) (Nat.le_of_ble_eq_true rfl) (Nat.le_of_ble_eq_true rfl) (Nat.le_of_ble_eq_true rfl) dX1_init_34 (fun H I => ?_)
  obtain ⟨h19, e20, f⟩ := ob f
  refine o_pRF S hin2 lp1_init_24 (Or.inr ⟨_, rfl⟩) I e20 dX1_init_36 (fun H locs I => ?_)
  refine lv_aload_n S.1 S.2.1 dX1_init_39 rfl (lv_at hl 0 rfl) ?_
  refine lv_iconst (v := 5) S.1 S.2.1 dX1_init_40 (by decide) ?_
  obtain ⟨h21, e22, f⟩ := ob f
  refine o_newI S (List.mem_cons_of_mem _ wT_3_21) I hAn (N := 5) e22 (by decide) (by decide) (Nat.le_of_ble_eq_true rfl) (Nat.le_of_ble_eq_true rfl) (Nat.le_of_ble_eq_true rfl) dX1_init_41 (fun H I => ?_)
  obtain ⟨h23, e24, f⟩ := ob f
  refine o_pRF S hin2 lp1_init_27 (Or.inr ⟨_, rfl⟩) I e24 dX1_init_43 (fun H locs I => ?_)
  exact o_vret S hr hlo I f dX1_init_46
theorem M1_init (l : Launch) (D : va_G) (cy : Nat → ClassId) (b : Nat) (A : Nat → Prop) (hAn : ∀ q, b ≤ q → A q) {h : PH} {a0 : Nat} {out : PH} (f : F1_init h a0 = some out) : Met l yX1_init vX1_init ({ frames := 1, cells := 6, slots := 30, locals := 20 } : Room) (va_Pc [.ref (b + a0)] (ph_B D cy b A true h)) (va_Qv (fun (u : PH) => u = out) (ph_B D cy b A true) A) 6 30 A :=
  o_met (by decide) rfl (Nat.le_of_ble_eq_true rfl) rfl (fun p e s m below meth c S hr hlo hnm ls hl I => T1_init_0 S hr hlo hnm hAn ((gd f).2) I (lv_sub hl [0] rfl))
def vX2_init : List Cond := .code yX2_init cX2_init 1 none :: TB
theorem lp2_init_9 : PlF vX2_init RX2 9 2 0 (.array .int) := ⟨RX2, TX2, 3, tyX2, rfl, by decide, (fun w h9 => List.mem_cons_of_mem _ (wC_wsX20 w h9)), (List.mem_cons_of_mem _ wT_4_18), tyX2_ok, nmX2, rfl, rfl, rfl⟩
theorem cd2_init : Cd yX2_init 0 := ⟨by decide, by decide, by decide +kernel⟩
set_option maxHeartbeats 4000000 in
set_option maxRecDepth 100000 in
theorem T2_init_0 (S : CallFix p m c cX2_init 1 s args vX2_init RX2) (hr : meth.sig.returnType = none) (hlo : meth.locks = false) (hin2 : meth.name = "<init>") (hAn : ∀ q, b ≤ q → A q) {out : PH} {h : PH} {a0 : Nat} (f : F2_init_0  h a0 = some out) {H : Heap} {locs : List Loc} (I : ph_I D cy b A true h s H locs) {ls : Array Slot} (hl : lv_has ls 1 [(0, .ref (b + a0))]) : W p l e ({ frames := 1, cells := 1, slots := 64, locals := 20 } : Room) s m args below meth c H locs 0 0 (MQ below (va_Qv (fun (u : PH) => u = out) (ph_B D cy b A true) A) args s 1 64 A) (F0 m 0 ls []) := by
  unfold F2_init_0 at f
  refine lv_aload_n S.1 S.2.1 dX2_init_0 rfl (lv_at hl 0 rfl) ?_
  refine o_objI S (List.mem_cons_of_mem _ wT_4_17) (List.mem_cons_of_mem _ wT_1_11) (List.mem_cons_of_mem _ wT_1_12) hl.1 dX2_init_1 (Nat.le_of_ble_eq_true rfl) (Nat.le_of_ble_eq_true rfl) ?_
  refine lv_aload_n S.1 S.2.1 dX2_init_4 rfl (lv_at hl 0 rfl) ?_
  refine lv_bipush (v := 64) S.1 S.2.1 dX2_init_5 (by decide) ?_
  obtain ⟨h1, e2, f⟩ := ob f
  refine o_newI S (List.mem_cons_of_mem _ wT_3_21) I hAn (N := 64) e2 (by decide) (by decide) (Nat.le_of_ble_eq_true rfl) (Nat.le_of_ble_eq_true rfl) (Nat.le_of_ble_eq_true rfl) dX2_init_7 (fun H I => ?_)
  obtain ⟨h3, e4, f⟩ := ob f
  refine o_pRF S hin2 lp2_init_9 (Or.inr ⟨_, rfl⟩) I e4 dX2_init_9 (fun H locs I => ?_)
  exact o_vret S hr hlo I f dX2_init_12
theorem M2_init (l : Launch) (D : va_G) (cy : Nat → ClassId) (b : Nat) (A : Nat → Prop) (hAn : ∀ q, b ≤ q → A q) {h : PH} {a0 : Nat} {out : PH} (f : F2_init h a0 = some out) : Met l yX2_init vX2_init ({ frames := 1, cells := 1, slots := 64, locals := 20 } : Room) (va_Pc [.ref (b + a0)] (ph_B D cy b A true h)) (va_Qv (fun (u : PH) => u = out) (ph_B D cy b A true) A) 1 64 A :=
  o_met (by decide) rfl (Nat.le_of_ble_eq_true rfl) rfl (fun p e s m below meth c S hr hlo hnm ls hl I => T2_init_0 S hr hlo hnm hAn ((gd f).2) I (lv_sub hl [0] rfl))
def vX3_init : List Cond := .code yX3_init cX3_init 1 none :: TB
theorem lp3_init_9 : Pl vX3_init RX3 9 3 1 .int := ⟨RX3, TX3, 7, tyX3, rfl, by decide, (fun w h9 => List.mem_cons_of_mem _ (wC_wsX30 w h9)), (List.mem_cons_of_mem _ wT_8_14), tyX3_ok, nmX3, rfl, rfl⟩
theorem lp3_init_15 : PlF vX3_init RX3 15 3 2 (.array .int) := ⟨RX3, TX3, 7, tyX3, rfl, by decide, (fun w h9 => List.mem_cons_of_mem _ (wC_wsX30 w h9)), (List.mem_cons_of_mem _ wT_8_15), tyX3_ok, nmX3, rfl, rfl, rfl⟩
theorem lp3_init_19 : PlF vX3_init RX3 19 3 3 (.array .int) := ⟨RX3, TX3, 7, tyX3, rfl, by decide, (fun w h9 => List.mem_cons_of_mem _ (wC_wsX30 w h9)), (List.mem_cons_of_mem _ wT_8_16), tyX3_ok, nmX3, rfl, rfl, rfl⟩
theorem lp3_init_22 : PlF vX3_init RX3 22 3 4 (.array .int) := ⟨RX3, TX3, 7, tyX3, rfl, by decide, (fun w h9 => List.mem_cons_of_mem _ (wC_wsX30 w h9)), (List.mem_cons_of_mem _ wT_8_17), tyX3_ok, nmX3, rfl, rfl, rfl⟩
theorem lp3_init_25 : PlF vX3_init RX3 25 3 5 (.array .int) := ⟨RX3, TX3, 7, tyX3, rfl, by decide, (fun w h9 => List.mem_cons_of_mem _ (wC_wsX30 w h9)), (List.mem_cons_of_mem _ wT_8_18), tyX3_ok, nmX3, rfl, rfl, rfl⟩
theorem lp3_init_28 : PlF vX3_init RX3 28 3 6 (.array .boolean) := ⟨RX3, TX3, 7, tyX3, rfl, by decide, (fun w h9 => List.mem_cons_of_mem _ (wC_wsX30 w h9)), (List.mem_cons_of_mem _ wT_8_20), tyX3_ok, nmX3, rfl, rfl, rfl⟩
theorem cd3_init : Cd yX3_init 0 := ⟨by decide, by decide, by decide +kernel⟩
set_option maxHeartbeats 4000000 in
set_option maxRecDepth 100000 in
theorem T3_init_0 (S : CallFix p m c cX3_init 1 s args vX3_init RX3) (hr : meth.sig.returnType = none) (hlo : meth.locks = false) (hin2 : meth.name = "<init>") (hAn : ∀ q, b ≤ q → A q) {out : PH} {h : PH} {a0 : Nat} (f : F3_init_0  h a0 = some out) {H : Heap} {locs : List Loc} (I : ph_I D cy b A true h s H locs) {ls : Array Slot} (hl : lv_has ls 1 [(0, .ref (b + a0))]) : W p l e ({ frames := 1, cells := 5, slots := 120, locals := 20 } : Room) s m args below meth c H locs 0 0 (MQ below (va_Qv (fun (u : PH) => u = out) (ph_B D cy b A true) A) args s 5 120 A) (F0 m 0 ls []) := by
  unfold F3_init_0 at f
  refine lv_aload_n S.1 S.2.1 dX3_init_0 rfl (lv_at hl 0 rfl) ?_
  refine o_objI S (List.mem_cons_of_mem _ wT_8_13) (List.mem_cons_of_mem _ wT_1_11) (List.mem_cons_of_mem _ wT_1_12) hl.1 dX3_init_1 (Nat.le_of_ble_eq_true rfl) (Nat.le_of_ble_eq_true rfl) ?_
  refine lv_aload_n S.1 S.2.1 dX3_init_4 rfl (lv_at hl 0 rfl) ?_
  refine lv_iconst (v := (-1)) S.1 S.2.1 dX3_init_5 (by decide) ?_
  obtain ⟨h1, e2, f⟩ := ob f
  refine o_pI S lp3_init_9 I e2 dX3_init_6 (fun H locs I => ?_)
  refine lv_aload_n S.1 S.2.1 dX3_init_9 rfl (lv_at hl 0 rfl) ?_
  refine lv_bipush (v := 24) S.1 S.2.1 dX3_init_10 (by decide) ?_
  obtain ⟨h3, e4, f⟩ := ob f
  refine o_newI S (List.mem_cons_of_mem _ wT_3_21) I hAn (N := 24) e4 (by decide) (by decide) (Nat.le_of_ble_eq_true rfl) (Nat.le_of_ble_eq_true rfl) (Nat.le_of_ble_eq_true rfl) dX3_init_12 (fun H I => ?_)
  obtain ⟨h5, e6, f⟩ := ob f
  refine o_pRF S hin2 lp3_init_15 (Or.inr ⟨_, rfl⟩) I e6 dX3_init_14 (fun H locs I => ?_)
  refine lv_aload_n S.1 S.2.1 dX3_init_17 rfl (lv_at hl 0 rfl) ?_
  refine lv_bipush (v := 24) S.1 S.2.1 dX3_init_18 (by decide) ?_
  obtain ⟨h7, e8, f⟩ := ob f
  refine o_newI S (List.mem_cons_of_mem _ wT_3_21) I hAn (N := 24) e8 (by decide) (by decide) (Nat.le_of_ble_eq_true rfl) (Nat.le_of_ble_eq_true rfl) (Nat.le_of_ble_eq_true rfl) dX3_init_20 (fun H I => ?_)
  obtain ⟨h9, e10, f⟩ := ob f
  refine o_pRF S hin2 lp3_init_19 (Or.inr ⟨_, rfl⟩) I e10 dX3_init_22 (fun H locs I => ?_)
  refine lv_aload_n S.1 S.2.1 dX3_init_25 rfl (lv_at hl 0 rfl) ?_
  refine lv_bipush (v := 24) S.1 S.2.1 dX3_init_26 (by decide) ?_
  obtain ⟨h11, e12, f⟩ := ob f
  refine o_newI S (List.mem_cons_of_mem _ wT_3_21) I hAn (N := 24) e12 (by decide) (by decide) (Nat.le_of_ble_eq_true rfl) (Nat.le_of_ble_eq_true rfl) (Nat.le_of_ble_eq_true rfl) dX3_init_28 (fun H I => ?_)
  obtain ⟨h13, e14, f⟩ := ob f
  refine o_pRF S hin2 lp3_init_22 (Or.inr ⟨_, rfl⟩) I e14 dX3_init_30 (fun H locs I => ?_)
  refine lv_aload_n S.1 S.2.1 dX3_init_33 rfl (lv_at hl 0 rfl) ?_
  refine lv_bipush (v := 24) S.1 S.2.1 dX3_init_34 (by decide) ?_
  obtain ⟨h15, e16, f⟩ := ob f
  refine o_newI S (List.mem_cons_of_mem _ wT_3_21) I hAn (N := 24) e16 (by decide) (by decide) (Nat.le_of_ble_eq_true rfl) (Nat.le_of_ble_eq_true rfl) (Nat.le_of_ble_eq_true rfl) dX3_init_36 (fun H I => ?_)
  obtain ⟨h17, e18, f⟩ := ob f
  refine o_pRF S hin2 lp3_init_25 (Or.inr ⟨_, rfl⟩) I e18 dX3_init_38 (fun H locs I => ?_)
  refine lv_aload_n S.1 S.2.1 dX3_init_41 rfl (lv_at hl 0 rfl) ?_
  refine lv_bipush (v := 24) S.1 S.2.1 dX3_init_42 (by decide) ?_
  obtain ⟨h19, e20, f⟩ := ob f
  refine o_newZ S (List.mem_cons_of_mem _ wT_8_19) I hAn (N := 24) e20 (by decide) (by decide) (Nat.le_of_ble_eq_true rfl) (Nat.le_of_ble_eq_true rfl) (Nat.le_of_ble_eq_true rfl) dX3_init_44 (fun H I => ?_)
  obtain ⟨h21, e22, f⟩ := ob f
  refine o_pRF S hin2 lp3_init_28 (Or.inr ⟨_, rfl⟩) I e22 dX3_init_46 (fun H locs I => ?_)
  exact o_vret S hr hlo I f dX3_init_49
theorem M3_init (l : Launch) (D : va_G) (cy : Nat → ClassId) (b : Nat) (A : Nat → Prop) (hAn : ∀ q, b ≤ q → A q) {h : PH} {a0 : Nat} {out : PH} (f : F3_init h a0 = some out) : Met l yX3_init vX3_init ({ frames := 1, cells := 5, slots := 120, locals := 20 } : Room) (va_Pc [.ref (b + a0)] (ph_B D cy b A true h)) (va_Qv (fun (u : PH) => u = out) (ph_B D cy b A true) A) 5 120 A :=
  o_met (by decide) rfl (Nat.le_of_ble_eq_true rfl) rfl (fun p e s m below meth c S hr hlo hnm ls hl I => T3_init_0 S hr hlo hnm hAn ((gd f).2) I (lv_sub hl [0] rfl))
def vX4_init : List Cond := .code yX4_init cX4_init 1 none :: TB
theorem lp4_init_9 : PlF vX4_init RX4 9 4 5 (.array .int) := ⟨RX4, TX4, 11, tyX4, rfl, by decide, (fun w h9 => List.mem_cons_of_mem _ (wC_wsX40 w h9)), (List.mem_cons_of_mem _ wT_8_4), tyX4_ok, nmX4, rfl, rfl, rfl⟩
theorem lp4_init_15 : PlF vX4_init RX4 15 4 6 (.array .int) := ⟨RX4, TX4, 11, tyX4, rfl, by decide, (fun w h9 => List.mem_cons_of_mem _ (wC_wsX40 w h9)), (List.mem_cons_of_mem _ wT_8_5), tyX4_ok, nmX4, rfl, rfl, rfl⟩
theorem lp4_init_18 : PlF vX4_init RX4 18 4 7 (.array .int) := ⟨RX4, TX4, 11, tyX4, rfl, by decide, (fun w h9 => List.mem_cons_of_mem _ (wC_wsX40 w h9)), (List.mem_cons_of_mem _ wT_8_6), tyX4_ok, nmX4, rfl, rfl, rfl⟩
theorem lp4_init_21 : PlF vX4_init RX4 21 4 8 (.array .int) := ⟨RX4, TX4, 11, tyX4, rfl, by decide, (fun w h9 => List.mem_cons_of_mem _ (wC_wsX40 w h9)), (List.mem_cons_of_mem _ wT_8_7), tyX4_ok, nmX4, rfl, rfl, rfl⟩
theorem lp4_init_24 : PlF vX4_init RX4 24 4 9 (.array .int) := ⟨RX4, TX4, 11, tyX4, rfl, by decide, (fun w h9 => List.mem_cons_of_mem _ (wC_wsX40 w h9)), (List.mem_cons_of_mem _ wT_8_8), tyX4_ok, nmX4, rfl, rfl, rfl⟩
theorem lp4_init_27 : PlF vX4_init RX4 27 4 10 (.array .int) := ⟨RX4, TX4, 11, tyX4, rfl, by decide, (fun w h9 => List.mem_cons_of_mem _ (wC_wsX40 w h9)), (List.mem_cons_of_mem _ wT_8_9), tyX4_ok, nmX4, rfl, rfl, rfl⟩
theorem cd4_init : Cd yX4_init 0 := ⟨by decide, by decide, by decide +kernel⟩
set_option maxHeartbeats 4000000 in
set_option maxRecDepth 100000 in
theorem T4_init_0 (S : CallFix p m c cX4_init 1 s args vX4_init RX4) (hr : meth.sig.returnType = none) (hlo : meth.locks = false) (hin2 : meth.name = "<init>") (hAn : ∀ q, b ≤ q → A q) {out : PH} {h : PH} {a0 : Nat} (f : F4_init_0  h a0 = some out) {H : Heap} {locs : List Loc} (I : ph_I D cy b A true h s H locs) {ls : Array Slot} (hl : lv_has ls 1 [(0, .ref (b + a0))]) : W p l e ({ frames := 1, cells := 6, slots := 53, locals := 20 } : Room) s m args below meth c H locs 0 0 (MQ below (va_Qv (fun (u : PH) => u = out) (ph_B D cy b A true) A) args s 6 53 A) (F0 m 0 ls []) := by
  unfold F4_init_0 at f
  refine lv_aload_n S.1 S.2.1 dX4_init_0 rfl (lv_at hl 0 rfl) ?_
  refine o_objI S (List.mem_cons_of_mem _ wT_8_3) (List.mem_cons_of_mem _ wT_1_11) (List.mem_cons_of_mem _ wT_1_12) hl.1 dX4_init_1 (Nat.le_of_ble_eq_true rfl) (Nat.le_of_ble_eq_true rfl) ?_
  refine lv_aload_n S.1 S.2.1 dX4_init_4 rfl (lv_at hl 0 rfl) ?_
  refine lv_iconst (v := 5) S.1 S.2.1 dX4_init_5 (by decide) ?_
  obtain ⟨h1, e2, f⟩ := ob f
  refine o_newI S (List.mem_cons_of_mem _ wT_3_21) I hAn (N := 5) e2 (by decide) (by decide) (Nat.le_of_ble_eq_true rfl) (Nat.le_of_ble_eq_true rfl) (Nat.le_of_ble_eq_true rfl) dX4_init_6 (fun H I => ?_)
  obtain ⟨h3, e4, f⟩ := ob f
  refine o_pRF S hin2 lp4_init_9 (Or.inr ⟨_, rfl⟩) I e4 dX4_init_8 (fun H locs I => ?_)
  refine lv_aload_n S.1 S.2.1 dX4_init_11 rfl (lv_at hl 0 rfl) ?_
  refine lv_iconst (v := 5) S.1 S.2.1 dX4_init_12 (by decide) ?_
  obtain ⟨h5, e6, f⟩ := ob f
  refine o_newI S (List.mem_cons_of_mem _ wT_3_21) I hAn (N := 5) e6 (by decide) (by decide) (Nat.le_of_ble_eq_true rfl) (Nat.le_of_ble_eq_true rfl) (Nat.le_of_ble_eq_true rfl) dX4_init_13 (fun H I => ?_)
  obtain ⟨h7, e8, f⟩ := ob f
  refine o_pRF S hin2 lp4_init_15 (Or.inr ⟨_, rfl⟩) I e8 dX4_init_15 (fun H locs I => ?_)
  refine lv_aload_n S.1 S.2.1 dX4_init_18 rfl (lv_at hl 0 rfl) ?_
  refine lv_iconst (v := 5) S.1 S.2.1 dX4_init_19 (by decide) ?_
  obtain ⟨h9, e10, f⟩ := ob f
  refine o_newI S (List.mem_cons_of_mem _ wT_3_21) I hAn (N := 5) e10 (by decide) (by decide) (Nat.le_of_ble_eq_true rfl) (Nat.le_of_ble_eq_true rfl) (Nat.le_of_ble_eq_true rfl) dX4_init_20 (fun H I => ?_)
  obtain ⟨h11, e12, f⟩ := ob f
  refine o_pRF S hin2 lp4_init_18 (Or.inr ⟨_, rfl⟩) I e12 dX4_init_22 (fun H locs I => ?_)
  refine lv_aload_n S.1 S.2.1 dX4_init_25 rfl (lv_at hl 0 rfl) ?_
  refine lv_iconst (v := 5) S.1 S.2.1 dX4_init_26 (by decide) ?_
  obtain ⟨h13, e14, f⟩ := ob f
  refine o_newI S (List.mem_cons_of_mem _ wT_3_21) I hAn (N := 5) e14 (by decide) (by decide) (Nat.le_of_ble_eq_true rfl) (Nat.le_of_ble_eq_true rfl) (Nat.le_of_ble_eq_true rfl) dX4_init_27 (fun H I => ?_)
  obtain ⟨h15, e16, f⟩ := ob f
  refine o_pRF S hin2 lp4_init_21 (Or.inr ⟨_, rfl⟩) I e16 dX4_init_29 (fun H locs I => ?_)
  refine lv_aload_n S.1 S.2.1 dX4_init_32 rfl (lv_at hl 0 rfl) ?_
  refine lv_iconst (v := 5) S.1 S.2.1 dX4_init_33 (by decide) ?_
  obtain ⟨h17, e18, f⟩ := ob f
  refine o_newI S (List.mem_cons_of_mem _ wT_3_21) I hAn (N := 5) e18 (by decide) (by decide) (Nat.le_of_ble_eq_true rfl) (Nat.le_of_ble_eq_true rfl) (Nat.le_of_ble_eq_true rfl) dX4_init_34 (fun H I => ?_)
  obtain ⟨h19, e20, f⟩ := ob f
  refine o_pRF S hin2 lp4_init_24 (Or.inr ⟨_, rfl⟩) I e20 dX4_init_36 (fun H locs I => ?_)
  refine lv_aload_n S.1 S.2.1 dX4_init_39 rfl (lv_at hl 0 rfl) ?_
  refine lv_bipush (v := 28) S.1 S.2.1 dX4_init_40 (by decide) ?_
  obtain ⟨h21, e22, f⟩ := ob f
  refine o_newI S (List.mem_cons_of_mem _ wT_3_21) I hAn (N := 28) e22 (by decide) (by decide) (Nat.le_of_ble_eq_true rfl) (Nat.le_of_ble_eq_true rfl) (Nat.le_of_ble_eq_true rfl) dX4_init_42 (fun H I => ?_)
  obtain ⟨h23, e24, f⟩ := ob f
  refine o_pRF S hin2 lp4_init_27 (Or.inr ⟨_, rfl⟩) I e24 dX4_init_44 (fun H locs I => ?_)
  exact o_vret S hr hlo I f dX4_init_47
theorem M4_init (l : Launch) (D : va_G) (cy : Nat → ClassId) (b : Nat) (A : Nat → Prop) (hAn : ∀ q, b ≤ q → A q) {h : PH} {a0 : Nat} {out : PH} (f : F4_init h a0 = some out) : Met l yX4_init vX4_init ({ frames := 1, cells := 6, slots := 53, locals := 20 } : Room) (va_Pc [.ref (b + a0)] (ph_B D cy b A true h)) (va_Qv (fun (u : PH) => u = out) (ph_B D cy b A true) A) 6 53 A :=
  o_met (by decide) rfl (Nat.le_of_ble_eq_true rfl) rfl (fun p e s m below meth c S hr hlo hnm ls hl I => T4_init_0 S hr hlo hnm hAn ((gd f).2) I (lv_sub hl [0] rfl))
def vX7_init : List Cond := .code yX7_init cX7_init 4 none :: TB
theorem lf7_init_9 : Fl vX7_init RX7 9 7 0 := ⟨RX7, TX7, 7, rfl, by decide, (fun w h9 => List.mem_cons_of_mem _ (wC_wsX70 w h9)), (List.mem_cons_of_mem _ wT_5_10)⟩
theorem gX7_init_X7_isLetter : GoodIn vX7_init (va_wsS RX7 27 yX7_isLetter vX7_isLetter) := gS_of wT_7_5 wT_7_6 wT_5_2 wT_7_7
theorem gX7_init_X7_letterBits : GoodIn vX7_init (va_wsS RX7 31 yX7_letterBits vX7_letterBits) := gS_of wT_7_8 wT_7_9 wT_5_2 wT_7_10
theorem lp7_init_9 : PlF vX7_init RX7 9 7 0 (.array .int) := ⟨RX7, TX7, 7, tyX7, rfl, by decide, (fun w h9 => List.mem_cons_of_mem _ (wC_wsX70 w h9)), (List.mem_cons_of_mem _ wT_5_10), tyX7_ok, nmX7, rfl, rfl, rfl⟩
theorem lp7_init_15 : Pl vX7_init RX7 15 7 1 (.array .byte) := ⟨RX7, TX7, 7, tyX7, rfl, by decide, (fun w h9 => List.mem_cons_of_mem _ (wC_wsX70 w h9)), (List.mem_cons_of_mem _ wT_5_11), tyX7_ok, nmX7, rfl, rfl⟩
theorem cd7_init : Cd yX7_init 0 := ⟨by decide, by decide, by decide +kernel⟩
set_option maxHeartbeats 4000000 in
set_option maxRecDepth 100000 in
theorem T7_init_70 (S : CallFix p m c cX7_init 4 s args vX7_init RX7) (hr : meth.sig.returnType = none) (hlo : meth.locks = false) (hin2 : meth.name = "<init>") (hAn : ∀ q, b ≤ q → A q) {out : PH} {k21 : PH → Nat → Int32 → Option (PH)} (hk21 : ∀ {h : PH} {a0 : Nat} {x1 : Int32}, k21 h a0 x1 = some out → ∀ (H : Heap) (locs : List Loc), ph_I D cy b A true h s H locs → ∀ (ls : Array Slot), lv_has ls 4 [(0, .ref (b + a0)), (1, .int x1)] → W p l e ({ frames := 4, cells := 2, slots := 24, locals := 100 } : Room) s m args below meth c H locs 2 24 (MQ below (va_Qv (fun (u : PH) => u = out) (ph_B D cy b A true) A) args s 2 24 A) (F0 m 21 ls [])) {k29 : PH → Nat → Int32 → Int32 → Option (PH)} (hk29 : ∀ {h : PH} {a0 : Nat} {x1 : Int32} {x2 : Int32}, k29 h a0 x1 x2 = some out → ∀ (H : Heap) (locs : List Loc), ph_I D cy b A true h s H locs → ∀ (ls : Array Slot), lv_has ls 4 [(0, .ref (b + a0)), (1, .int x1), (2, .int x2)] → W p l e ({ frames := 4, cells := 2, slots := 24, locals := 100 } : Room) s m args below meth c H locs 2 24 (MQ below (va_Qv (fun (u : PH) => u = out) (ph_B D cy b A true) A) args s 2 24 A) (F0 m 29 ls [])) {h : PH} {a0 : Nat} {x1 : Int32} {x2 : Int32} {s0 : Int32} {s1 : Int32} {s2 : Int32} {u3 : Nat} (f : F7_init_70 k21 k29 h a0 x1 x2 s0 s1 s2 u3 = some out) {H : Heap} {locs : List Loc} (I : ph_I D cy b A true h s H locs) {ls : Array Slot} (hl : lv_has ls 4 [(0, .ref (b + a0)), (1, .int x1), (2, .int x2)]) : W p l e ({ frames := 4, cells := 2, slots := 24, locals := 100 } : Room) s m args below meth c H locs 2 24 (MQ below (va_Qv (fun (u : PH) => u = out) (ph_B D cy b A true) A) args s 2 24 A) (F0 m 70 ls [.int s0, .int s1, .int s2, .ref (b + u3)]) := by
  unfold F7_init_70 at f
  refine lv_ior S.1 S.2.1 dX7_init_70 ?_
  obtain ⟨h2, e1, f⟩ := ob f
  refine o_iast S I e1 dX7_init_71 (fun H locs I => ?_)
  refine lv_iinc (v := (x2 + 1)) (lv' := [(2, .int (x2 + 1)), (0, .ref (b + a0)), (1, .int x1)]) S.1 S.2.1 dX7_init_72 hl (k := 2) rfl (congrArg (fun z => x2 + z) (by decide)) (by decide) rfl (fun ls hl => ?_)
  refine lv_goto (tgt := 29) S.1 S.2.1 dX7_init_75 (by decide) ?_
  exact hk29 f _ _ I _ (lv_sub hl [1, 2, 0] rfl)
set_option maxHeartbeats 4000000 in
set_option maxRecDepth 100000 in
theorem T7_init_29 (S : CallFix p m c cX7_init 4 s args vX7_init RX7) (hr : meth.sig.returnType = none) (hlo : meth.locks = false) (hin2 : meth.name = "<init>") (hAn : ∀ q, b ≤ q → A q) {out : PH} {k21 : PH → Nat → Int32 → Option (PH)} (hk21 : ∀ {h : PH} {a0 : Nat} {x1 : Int32}, k21 h a0 x1 = some out → ∀ (H : Heap) (locs : List Loc), ph_I D cy b A true h s H locs → ∀ (ls : Array Slot), lv_has ls 4 [(0, .ref (b + a0)), (1, .int x1)] → W p l e ({ frames := 4, cells := 2, slots := 24, locals := 100 } : Room) s m args below meth c H locs 2 24 (MQ below (va_Qv (fun (u : PH) => u = out) (ph_B D cy b A true) A) args s 2 24 A) (F0 m 21 ls [])) : ∀ (n : Nat) {h : PH} {a0 : Nat} {x1 : Int32} {x2 : Int32} (f : F7_init_29 k21 n h a0 x1 x2 = some out) {H : Heap} {locs : List Loc} (I : ph_I D cy b A true h s H locs) {ls : Array Slot} (hl : lv_has ls 4 [(0, .ref (b + a0)), (1, .int x1), (2, .int x2)]), W p l e ({ frames := 4, cells := 2, slots := 24, locals := 100 } : Room) s m args below meth c H locs 2 24 (MQ below (va_Qv (fun (u : PH) => u = out) (ph_B D cy b A true) A) args s 2 24 A) (F0 m 29 ls []) := by
  intro n
  induction n with
  | zero => intro h a0 x1 x2 f; rw [F7_init_29] at f; cases f
  | succ n ih =>
    intro h a0 x1 x2 f H locs I ls hl
    rw [F7_init_29] at f
    refine lv_iload_n S.1 S.2.1 dX7_init_29 rfl (lv_at hl 2 rfl) ?_
    refine lv_bipush (v := 6) S.1 S.2.1 dX7_init_30 (by decide) ?_
    refine lv_icmp_ge (tgt := 78) S.1 S.2.1 dX7_init_32 (by decide) (fun q1 => ?_) (fun q1 => ?_)
    · have f := (if_pos q1).symm.trans f
      refine lv_iinc (v := (x1 + 1)) (lv' := [(1, .int (x1 + 1)), (0, .ref (b + a0)), (2, .int x2)]) S.1 S.2.1 dX7_init_78 hl (k := 1) rfl (congrArg (fun z => x1 + z) (by decide)) (by decide) rfl (fun ls hl => ?_)
      refine lv_goto (tgt := 21) S.1 S.2.1 dX7_init_81 (by decide) ?_
      exact hk21 f _ _ I _ (lv_sub hl [1, 0] rfl)
    · have f := (if_neg q1).symm.trans f
      refine o_ldcL S I dX7_init_35 ?_
      refine lv_iload_n S.1 S.2.1 dX7_init_37 rfl (lv_at hl 1 rfl) ?_
      refine lv_bipush (v := 6) S.1 S.2.1 dX7_init_38 (by decide) ?_
      refine lv_imul S.1 S.2.1 dX7_init_40 ?_
      refine lv_iload_n S.1 S.2.1 dX7_init_41 rfl (lv_at hl 2 rfl) ?_
      refine lv_iadd S.1 S.2.1 dX7_init_42 ?_
      obtain ⟨v2, e3, f⟩ := ob f
      refine o_chA S I e3 hl.1 ⟨Nat.le_of_ble_eq_true rfl, Nat.le_of_ble_eq_true rfl⟩ (Nat.le_of_ble_eq_true rfl) ⟨Nat.le_of_ble_eq_true rfl, Nat.le_of_ble_eq_true rfl⟩ dX7_init_43 (fun H locs I => ?_)
      refine lv_istore_n (lv' := [(3, .int v2), (0, .ref (b + a0)), (1, .int x1), (2, .int x2)]) S.1 S.2.1 dX7_init_46 rfl hl (by decide) rfl (fun ls hl => ?_)
      refine lv_aload_n S.1 S.2.1 dX7_init_47 rfl (lv_at hl 1 rfl) ?_
      obtain ⟨r4, e5, f⟩ := ob f
      refine o_gR S lf7_init_9 I e5 dX7_init_48 ?_
      refine lv_iload_n S.1 S.2.1 dX7_init_51 rfl (lv_at hl 2 rfl) ?_
      refine lv_dup2_11 S.1 S.2.1 dX7_init_52 rfl rfl ?_
      obtain ⟨v7, e6, f⟩ := ob f
      refine o_iald S I e6 dX7_init_53 ?_
      refine lv_iload_n S.1 S.2.1 dX7_init_54 rfl (lv_at hl 0 rfl) ?_
      obtain ⟨o8, e9, f⟩ := ob f
      refine o_Si S (As := [.int v2]) (rest := [.int v7, .int x1, .ref (b + r4)]) (M7_isLetter l D cy b A true e9) gX7_init_X7_isLetter rfl rfl rfl cd7_isLetter ⟨Nat.le_of_ble_eq_true rfl, Nat.le_of_ble_eq_true rfl⟩ I rfl hl.1 rfl (Nat.le_of_ble_eq_true rfl) dX7_init_55 ⟨Nat.le_of_ble_eq_true rfl, Nat.le_of_ble_eq_true rfl⟩ (fun H locs I => ?_)
      refine lv_if_eq (tgt := 69) S.1 S.2.1 dX7_init_58 (by decide) (fun q10 => ?_) (fun q10 => ?_)
      · have f := (if_pos q10).symm.trans f
        refine lv_iconst (v := 0) S.1 S.2.1 dX7_init_69 (by decide) ?_
        exact T7_init_70 S hr hlo hin2 hAn (fun f _ _ I _ hl => hk21 f _ _ I _ hl) (fun f _ _ I _ hl => ih f I hl) f I (lv_sub hl [1, 2, 3] rfl)
      · have f := (if_neg q10).symm.trans f
        refine lv_iload_n S.1 S.2.1 dX7_init_61 rfl (lv_at hl 0 rfl) ?_
        refine lv_iload_n S.1 S.2.1 dX7_init_62 rfl (lv_at hl 3 rfl) ?_
        obtain ⟨o11, e12, f⟩ := ob f
        refine o_Si S (As := [.int v2, .int x2]) (rest := [.int v7, .int x1, .ref (b + r4)]) (M7_letterBits l D cy b A true e12) gX7_init_X7_letterBits rfl rfl rfl cd7_letterBits ⟨Nat.le_of_ble_eq_true rfl, Nat.le_of_ble_eq_true rfl⟩ I rfl hl.1 rfl (Nat.le_of_ble_eq_true rfl) dX7_init_63 ⟨Nat.le_of_ble_eq_true rfl, Nat.le_of_ble_eq_true rfl⟩ (fun H locs I => ?_)
        refine lv_goto (tgt := 70) S.1 S.2.1 dX7_init_66 (by decide) ?_
        exact T7_init_70 S hr hlo hin2 hAn (fun f _ _ I _ hl => hk21 f _ _ I _ hl) (fun f _ _ I _ hl => ih f I hl) f I (lv_sub hl [1, 2, 3] rfl)
set_option maxHeartbeats 4000000 in
set_option maxRecDepth 100000 in
theorem T7_init_21 (S : CallFix p m c cX7_init 4 s args vX7_init RX7) (hr : meth.sig.returnType = none) (hlo : meth.locks = false) (hin2 : meth.name = "<init>") (hAn : ∀ q, b ≤ q → A q) {out : PH} : ∀ (n : Nat) {h : PH} {a0 : Nat} {x1 : Int32} (f : F7_init_21  n h a0 x1 = some out) {H : Heap} {locs : List Loc} (I : ph_I D cy b A true h s H locs) {ls : Array Slot} (hl : lv_has ls 4 [(0, .ref (b + a0)), (1, .int x1)]), W p l e ({ frames := 4, cells := 2, slots := 24, locals := 100 } : Room) s m args below meth c H locs 2 24 (MQ below (va_Qv (fun (u : PH) => u = out) (ph_B D cy b A true) A) args s 2 24 A) (F0 m 21 ls []) := by
  intro n
  induction n with
  | zero => intro h a0 x1 f; rw [F7_init_21] at f; cases f
  | succ n ih =>
    intro h a0 x1 f H locs I ls hl
    rw [F7_init_21] at f
    refine lv_iload_n S.1 S.2.1 dX7_init_21 rfl (lv_at hl 1 rfl) ?_
    refine lv_bipush (v := 24) S.1 S.2.1 dX7_init_22 (by decide) ?_
    refine lv_icmp_ge (tgt := 84) S.1 S.2.1 dX7_init_24 (by decide) (fun q1 => ?_) (fun q1 => ?_)
    · have f := (if_pos q1).symm.trans f
      exact o_vret S hr hlo I f dX7_init_84
    · have f := (if_neg q1).symm.trans f
      refine lv_iconst (v := 0) S.1 S.2.1 dX7_init_27 (by decide) ?_
      refine lv_istore_n (lv' := [(2, .int 0), (0, .ref (b + a0)), (1, .int x1)]) S.1 S.2.1 dX7_init_28 rfl hl (by decide) rfl (fun ls hl => ?_)
      exact T7_init_29 S hr hlo hin2 hAn (fun f _ _ I _ hl => ih f I hl) 1024 f I (lv_sub hl [1, 2, 0] rfl)
set_option maxHeartbeats 4000000 in
set_option maxRecDepth 100000 in
theorem T7_init_0 (S : CallFix p m c cX7_init 4 s args vX7_init RX7) (hr : meth.sig.returnType = none) (hlo : meth.locks = false) (hin2 : meth.name = "<init>") (hAn : ∀ q, b ≤ q → A q) {out : PH} {h : PH} {a0 : Nat} (f : F7_init_0  h a0 = some out) {H : Heap} {locs : List Loc} (I : ph_I D cy b A true h s H locs) {ls : Array Slot} (hl : lv_has ls 4 [(0, .ref (b + a0))]) : W p l e ({ frames := 4, cells := 2, slots := 24, locals := 100 } : Room) s m args below meth c H locs 0 0 (MQ below (va_Qv (fun (u : PH) => u = out) (ph_B D cy b A true) A) args s 2 24 A) (F0 m 0 ls []) := by
  unfold F7_init_0 at f
  refine lv_aload_n S.1 S.2.1 dX7_init_0 rfl (lv_at hl 0 rfl) ?_
  refine o_objI S (List.mem_cons_of_mem _ wT_5_9) (List.mem_cons_of_mem _ wT_1_11) (List.mem_cons_of_mem _ wT_1_12) hl.1 dX7_init_1 (Nat.le_of_ble_eq_true rfl) (Nat.le_of_ble_eq_true rfl) ?_
  refine lv_aload_n S.1 S.2.1 dX7_init_4 rfl (lv_at hl 0 rfl) ?_
  refine lv_bipush (v := 24) S.1 S.2.1 dX7_init_5 (by decide) ?_
  obtain ⟨h1, e2, f⟩ := ob f
  refine o_newI S (List.mem_cons_of_mem _ wT_3_21) I hAn (N := 24) e2 (by decide) (by decide) (Nat.le_of_ble_eq_true rfl) (Nat.le_of_ble_eq_true rfl) (Nat.le_of_ble_eq_true rfl) dX7_init_7 (fun H I => ?_)
  obtain ⟨h3, e4, f⟩ := ob f
  refine o_pRF S hin2 lp7_init_9 (Or.inr ⟨_, rfl⟩) I e4 dX7_init_9 (fun H locs I => ?_)
  refine lv_aload_n S.1 S.2.1 dX7_init_12 rfl (lv_at hl 0 rfl) ?_
  refine lv_iconst (v := 0) S.1 S.2.1 dX7_init_13 (by decide) ?_
  obtain ⟨h5, e6, f⟩ := ob f
  refine o_newB S (List.mem_cons_of_mem _ wT_1_13) I hAn (N := 0) e6 (by decide) (by decide) (Nat.le_of_ble_eq_true rfl) (Nat.le_of_ble_eq_true rfl) (Nat.le_of_ble_eq_true rfl) dX7_init_14 (fun H I => ?_)
  obtain ⟨h7, e8, f⟩ := ob f
  refine o_pR S lp7_init_15 (Or.inr ⟨_, rfl⟩) I e8 dX7_init_16 (fun H locs I => ?_)
  refine lv_iconst (v := 0) S.1 S.2.1 dX7_init_19 (by decide) ?_
  refine lv_istore_n (lv' := [(1, .int 0), (0, .ref (b + a0))]) S.1 S.2.1 dX7_init_20 rfl hl (by decide) rfl (fun ls hl => ?_)
  exact T7_init_21 S hr hlo hin2 hAn  1024 f I (lv_sub hl [1, 0] rfl)
theorem M7_init (l : Launch) (D : va_G) (cy : Nat → ClassId) (b : Nat) (A : Nat → Prop) (hAn : ∀ q, b ≤ q → A q) {h : PH} {a0 : Nat} {out : PH} (f : F7_init h a0 = some out) : Met l yX7_init vX7_init ({ frames := 4, cells := 2, slots := 24, locals := 100 } : Room) (va_Pc [.ref (b + a0)] (ph_B D cy b A true h)) (va_Qv (fun (u : PH) => u = out) (ph_B D cy b A true) A) 2 24 A :=
  o_met (by decide) rfl (Nat.le_of_ble_eq_true rfl) rfl (fun p e s m below meth c S hr hlo hnm ls hl I => T7_init_0 S hr hlo hnm hAn ((gd f).2) I (lv_sub hl [0] rfl))
def vX9_init : List Cond := .code yX9_init cX9_init 1 none :: TB
theorem lp9_init_9 : PlF vX9_init RX9 9 9 1 (.array .int) := ⟨RX9, TX9, 3, tyX9, rfl, by decide, (fun w h9 => List.mem_cons_of_mem _ (wC_wsX90 w h9)), (List.mem_cons_of_mem _ wT_9_1), tyX9_ok, nmX9, rfl, rfl, rfl⟩
theorem lp9_init_15 : PlF vX9_init RX9 15 9 2 (.array .int) := ⟨RX9, TX9, 3, tyX9, rfl, by decide, (fun w h9 => List.mem_cons_of_mem _ (wC_wsX90 w h9)), (List.mem_cons_of_mem _ wT_9_2), tyX9_ok, nmX9, rfl, rfl, rfl⟩
theorem cd9_init : Cd yX9_init 0 := ⟨by decide, by decide, by decide +kernel⟩
set_option maxHeartbeats 4000000 in
set_option maxRecDepth 100000 in
theorem T9_init_0 (S : CallFix p m c cX9_init 1 s args vX9_init RX9) (hr : meth.sig.returnType = none) (hlo : meth.locks = false) (hin2 : meth.name = "<init>") (hAn : ∀ q, b ≤ q → A q) {out : PH} {h : PH} {a0 : Nat} (f : F9_init_0  h a0 = some out) {H : Heap} {locs : List Loc} (I : ph_I D cy b A true h s H locs) {ls : Array Slot} (hl : lv_has ls 1 [(0, .ref (b + a0))]) : W p l e ({ frames := 1, cells := 2, slots := 40, locals := 20 } : Room) s m args below meth c H locs 0 0 (MQ below (va_Qv (fun (u : PH) => u = out) (ph_B D cy b A true) A) args s 2 40 A) (F0 m 0 ls []) := by
  unfold F9_init_0 at f
  refine lv_aload_n S.1 S.2.1 dX9_init_0 rfl (lv_at hl 0 rfl) ?_
  refine o_objI S (List.mem_cons_of_mem _ wT_9_0) (List.mem_cons_of_mem _ wT_1_11) (List.mem_cons_of_mem _ wT_1_12) hl.1 dX9_init_1 (Nat.le_of_ble_eq_true rfl) (Nat.le_of_ble_eq_true rfl) ?_
  refine lv_aload_n S.1 S.2.1 dX9_init_4 rfl (lv_at hl 0 rfl) ?_
  refine lv_bipush (v := 20) S.1 S.2.1 dX9_init_5 (by decide) ?_
  obtain ⟨h1, e2, f⟩ := ob f
  refine o_newI S (List.mem_cons_of_mem _ wT_3_21) I hAn (N := 20) e2 (by decide) (by decide) (Nat.le_of_ble_eq_true rfl) (Nat.le_of_ble_eq_true rfl) (Nat.le_of_ble_eq_true rfl) dX9_init_7 (fun H I => ?_)
  obtain ⟨h3, e4, f⟩ := ob f
  refine o_pRF S hin2 lp9_init_9 (Or.inr ⟨_, rfl⟩) I e4 dX9_init_9 (fun H locs I => ?_)
  refine lv_aload_n S.1 S.2.1 dX9_init_12 rfl (lv_at hl 0 rfl) ?_
  refine lv_bipush (v := 20) S.1 S.2.1 dX9_init_13 (by decide) ?_
  obtain ⟨h5, e6, f⟩ := ob f
  refine o_newI S (List.mem_cons_of_mem _ wT_3_21) I hAn (N := 20) e6 (by decide) (by decide) (Nat.le_of_ble_eq_true rfl) (Nat.le_of_ble_eq_true rfl) (Nat.le_of_ble_eq_true rfl) dX9_init_15 (fun H I => ?_)
  obtain ⟨h7, e8, f⟩ := ob f
  refine o_pRF S hin2 lp9_init_15 (Or.inr ⟨_, rfl⟩) I e8 dX9_init_17 (fun H locs I => ?_)
  exact o_vret S hr hlo I f dX9_init_20
theorem M9_init (l : Launch) (D : va_G) (cy : Nat → ClassId) (b : Nat) (A : Nat → Prop) (hAn : ∀ q, b ≤ q → A q) {h : PH} {a0 : Nat} {out : PH} (f : F9_init h a0 = some out) : Met l yX9_init vX9_init ({ frames := 1, cells := 2, slots := 40, locals := 20 } : Room) (va_Pc [.ref (b + a0)] (ph_B D cy b A true h)) (va_Qv (fun (u : PH) => u = out) (ph_B D cy b A true) A) 2 40 A :=
  o_met (by decide) rfl (Nat.le_of_ble_eq_true rfl) rfl (fun p e s m below meth c S hr hlo hnm ls hl I => T9_init_0 S hr hlo hnm hAn ((gd f).2) I (lv_sub hl [0] rfl))
def vX10_init : List Cond := .code yX10_init cX10_init 1 none :: TB
theorem lp10_init_9 : PlF vX10_init RX10 9 10 2 (.array .int) := ⟨RX10, TX10, 8, tyX10, rfl, by decide, (fun w h9 => List.mem_cons_of_mem _ (wC_wsX100 w h9)), (List.mem_cons_of_mem _ wT_4_8), tyX10_ok, nmX10, rfl, rfl, rfl⟩
theorem lp10_init_15 : PlF vX10_init RX10 15 10 3 (.array .int) := ⟨RX10, TX10, 8, tyX10, rfl, by decide, (fun w h9 => List.mem_cons_of_mem _ (wC_wsX100 w h9)), (List.mem_cons_of_mem _ wT_4_9), tyX10_ok, nmX10, rfl, rfl, rfl⟩
theorem lp10_init_18 : PlF vX10_init RX10 18 10 4 (.array .int) := ⟨RX10, TX10, 8, tyX10, rfl, by decide, (fun w h9 => List.mem_cons_of_mem _ (wC_wsX100 w h9)), (List.mem_cons_of_mem _ wT_4_10), tyX10_ok, nmX10, rfl, rfl, rfl⟩
theorem lp10_init_21 : PlF vX10_init RX10 21 10 5 (.array .int) := ⟨RX10, TX10, 8, tyX10, rfl, by decide, (fun w h9 => List.mem_cons_of_mem _ (wC_wsX100 w h9)), (List.mem_cons_of_mem _ wT_4_11), tyX10_ok, nmX10, rfl, rfl, rfl⟩
theorem lp10_init_24 : PlF vX10_init RX10 24 10 6 (.array .int) := ⟨RX10, TX10, 8, tyX10, rfl, by decide, (fun w h9 => List.mem_cons_of_mem _ (wC_wsX100 w h9)), (List.mem_cons_of_mem _ wT_4_12), tyX10_ok, nmX10, rfl, rfl, rfl⟩
theorem lp10_init_27 : PlF vX10_init RX10 27 10 7 (.array .int) := ⟨RX10, TX10, 8, tyX10, rfl, by decide, (fun w h9 => List.mem_cons_of_mem _ (wC_wsX100 w h9)), (List.mem_cons_of_mem _ wT_4_13), tyX10_ok, nmX10, rfl, rfl, rfl⟩
theorem cd10_init : Cd yX10_init 0 := ⟨by decide, by decide, by decide +kernel⟩
set_option maxHeartbeats 4000000 in
set_option maxRecDepth 100000 in
theorem T10_init_0 (S : CallFix p m c cX10_init 1 s args vX10_init RX10) (hr : meth.sig.returnType = none) (hlo : meth.locks = false) (hin2 : meth.name = "<init>") (hAn : ∀ q, b ≤ q → A q) {out : PH} {h : PH} {a0 : Nat} (f : F10_init_0  h a0 = some out) {H : Heap} {locs : List Loc} (I : ph_I D cy b A true h s H locs) {ls : Array Slot} (hl : lv_has ls 1 [(0, .ref (b + a0))]) : W p l e ({ frames := 1, cells := 6, slots := 120, locals := 20 } : Room) s m args below meth c H locs 0 0 (MQ below (va_Qv (fun (u : PH) => u = out) (ph_B D cy b A true) A) args s 6 120 A) (F0 m 0 ls []) := by
  unfold F10_init_0 at f
  refine lv_aload_n S.1 S.2.1 dX10_init_0 rfl (lv_at hl 0 rfl) ?_
  refine o_objI S (List.mem_cons_of_mem _ wT_4_7) (List.mem_cons_of_mem _ wT_1_11) (List.mem_cons_of_mem _ wT_1_12) hl.1 dX10_init_1 (Nat.le_of_ble_eq_true rfl) (Nat.le_of_ble_eq_true rfl) ?_
  refine lv_aload_n S.1 S.2.1 dX10_init_4 rfl (lv_at hl 0 rfl) ?_
  refine lv_iconst (v := 4) S.1 S.2.1 dX10_init_5 (by decide) ?_
  obtain ⟨h1, e2, f⟩ := ob f
  refine o_newI S (List.mem_cons_of_mem _ wT_3_21) I hAn (N := 4) e2 (by decide) (by decide) (Nat.le_of_ble_eq_true rfl) (Nat.le_of_ble_eq_true rfl) (Nat.le_of_ble_eq_true rfl) dX10_init_6 (fun H I => ?_)
  obtain ⟨h3, e4, f⟩ := ob f
  refine o_pRF S hin2 lp10_init_9 (Or.inr ⟨_, rfl⟩) I e4 dX10_init_8 (fun H locs I => ?_)
  refine lv_aload_n S.1 S.2.1 dX10_init_11 rfl (lv_at hl 0 rfl) ?_
  refine lv_iconst (v := 4) S.1 S.2.1 dX10_init_12 (by decide) ?_
  obtain ⟨h5, e6, f⟩ := ob f
  refine o_newI S (List.mem_cons_of_mem _ wT_3_21) I hAn (N := 4) e6 (by decide) (by decide) (Nat.le_of_ble_eq_true rfl) (Nat.le_of_ble_eq_true rfl) (Nat.le_of_ble_eq_true rfl) dX10_init_13 (fun H I => ?_)
  obtain ⟨h7, e8, f⟩ := ob f
  refine o_pRF S hin2 lp10_init_15 (Or.inr ⟨_, rfl⟩) I e8 dX10_init_15 (fun H locs I => ?_)
  refine lv_aload_n S.1 S.2.1 dX10_init_18 rfl (lv_at hl 0 rfl) ?_
  refine lv_bipush (v := 28) S.1 S.2.1 dX10_init_19 (by decide) ?_
  obtain ⟨h9, e10, f⟩ := ob f
  refine o_newI S (List.mem_cons_of_mem _ wT_3_21) I hAn (N := 28) e10 (by decide) (by decide) (Nat.le_of_ble_eq_true rfl) (Nat.le_of_ble_eq_true rfl) (Nat.le_of_ble_eq_true rfl) dX10_init_21 (fun H I => ?_)
  obtain ⟨h11, e12, f⟩ := ob f
  refine o_pRF S hin2 lp10_init_18 (Or.inr ⟨_, rfl⟩) I e12 dX10_init_23 (fun H locs I => ?_)
  refine lv_aload_n S.1 S.2.1 dX10_init_26 rfl (lv_at hl 0 rfl) ?_
  refine lv_bipush (v := 28) S.1 S.2.1 dX10_init_27 (by decide) ?_
  obtain ⟨h13, e14, f⟩ := ob f
  refine o_newI S (List.mem_cons_of_mem _ wT_3_21) I hAn (N := 28) e14 (by decide) (by decide) (Nat.le_of_ble_eq_true rfl) (Nat.le_of_ble_eq_true rfl) (Nat.le_of_ble_eq_true rfl) dX10_init_29 (fun H I => ?_)
  obtain ⟨h15, e16, f⟩ := ob f
  refine o_pRF S hin2 lp10_init_21 (Or.inr ⟨_, rfl⟩) I e16 dX10_init_31 (fun H locs I => ?_)
  refine lv_aload_n S.1 S.2.1 dX10_init_34 rfl (lv_at hl 0 rfl) ?_
  refine lv_bipush (v := 28) S.1 S.2.1 dX10_init_35 (by decide) ?_
  obtain ⟨h17, e18, f⟩ := ob f
  refine o_newI S (List.mem_cons_of_mem _ wT_3_21) I hAn (N := 28) e18 (by decide) (by decide) (Nat.le_of_ble_eq_true rfl) (Nat.le_of_ble_eq_true rfl) (Nat.le_of_ble_eq_true rfl) dX10_init_37 (fun H I => ?_)
  obtain ⟨h19, e20, f⟩ := ob f
  refine o_pRF S hin2 lp10_init_24 (Or.inr ⟨_, rfl⟩) I e20 dX10_init_39 (fun H locs I => ?_)
  refine lv_aload_n S.1 S.2.1 dX10_init_42 rfl (lv_at hl 0 rfl) ?_
  refine lv_bipush (v := 28) S.1 S.2.1 dX10_init_43 (by decide) ?_
  obtain ⟨h21, e22, f⟩ := ob f
  refine o_newI S (List.mem_cons_of_mem _ wT_3_21) I hAn (N := 28) e22 (by decide) (by decide) (Nat.le_of_ble_eq_true rfl) (Nat.le_of_ble_eq_true rfl) (Nat.le_of_ble_eq_true rfl) dX10_init_45 (fun H I => ?_)
  obtain ⟨h23, e24, f⟩ := ob f
  refine o_pRF S hin2 lp10_init_27 (Or.inr ⟨_, rfl⟩) I e24 dX10_init_47 (fun H locs I => ?_)
  exact o_vret S hr hlo I f dX10_init_50
theorem M10_init (l : Launch) (D : va_G) (cy : Nat → ClassId) (b : Nat) (A : Nat → Prop) (hAn : ∀ q, b ≤ q → A q) {h : PH} {a0 : Nat} {out : PH} (f : F10_init h a0 = some out) : Met l yX10_init vX10_init ({ frames := 1, cells := 6, slots := 120, locals := 20 } : Room) (va_Pc [.ref (b + a0)] (ph_B D cy b A true h)) (va_Qv (fun (u : PH) => u = out) (ph_B D cy b A true) A) 6 120 A :=
  o_met (by decide) rfl (Nat.le_of_ble_eq_true rfl) rfl (fun p e s m below meth c S hr hlo hnm ls hl I => T10_init_0 S hr hlo hnm hAn ((gd f).2) I (lv_sub hl [0] rfl))
def vX8_init : List Cond := .code yX8_init cX8_init 2 none :: TB
theorem ln8_init_9 : Nl vX8_init RX8 9 1 7 zF1 := ⟨RX1, TX1, tyX1, rfl, (fun w h9 => List.mem_cons_of_mem _ (wC_wsX10 w h9)), tyX1_ok, (List.mem_cons_of_mem _ wT_3_3), (List.mem_cons_of_mem _ wT_3_4), (List.mem_cons_of_mem _ wT_3_5), zF1_ok⟩
theorem gX8_init_X1_init : GoodIn vX8_init vX1_init := gI_of wT_3_19
theorem lp8_init_12 : PlF vX8_init RX8 12 8 4 (.object "WhoseWave$Crowd") := ⟨RX8, TX8, 14, tyX8, rfl, by decide, (fun w h9 => List.mem_cons_of_mem _ (wC_wsX80 w h9)), (List.mem_cons_of_mem _ wT_3_6), tyX8_ok, nmX8, rfl, rfl, rfl⟩
theorem ln8_init_18 : Nl vX8_init RX8 18 10 8 zF10 := ⟨RX10, TX10, tyX10, rfl, (fun w h9 => List.mem_cons_of_mem _ (wC_wsX100 w h9)), tyX10_ok, (List.mem_cons_of_mem _ wT_3_7), (List.mem_cons_of_mem _ wT_3_8), (List.mem_cons_of_mem _ wT_3_9), zF10_ok⟩
theorem gX8_init_X10_init : GoodIn vX8_init vX10_init := gI_of wT_4_6
theorem lp8_init_21 : PlF vX8_init RX8 21 8 5 (.object "WhoseWave$Waves") := ⟨RX8, TX8, 14, tyX8, rfl, by decide, (fun w h9 => List.mem_cons_of_mem _ (wC_wsX80 w h9)), (List.mem_cons_of_mem _ wT_3_10), tyX8_ok, nmX8, rfl, rfl, rfl⟩
theorem lp8_init_27 : PlF vX8_init RX8 27 8 11 (.array (.object "WhoseWave$Law")) := ⟨RX8, TX8, 14, tyX8, rfl, by decide, (fun w h9 => List.mem_cons_of_mem _ (wC_wsX80 w h9)), (List.mem_cons_of_mem _ wT_3_12), tyX8_ok, nmX8, rfl, rfl, rfl⟩
theorem lf8_init_27 : Fl vX8_init RX8 27 8 11 := ⟨RX8, TX8, 14, rfl, by decide, (fun w h9 => List.mem_cons_of_mem _ (wC_wsX80 w h9)), (List.mem_cons_of_mem _ wT_3_12)⟩
theorem ln8_init_25 : Nl vX8_init RX8 25 2 3 zF2 := ⟨RX2, TX2, tyX2, rfl, (fun w h9 => List.mem_cons_of_mem _ (wC_wsX20 w h9)), tyX2_ok, (List.mem_cons_of_mem _ wT_3_11), (List.mem_cons_of_mem _ wT_3_13), (List.mem_cons_of_mem _ wT_3_14), zF2_ok⟩
theorem gX8_init_X2_init : GoodIn vX8_init vX2_init := gI_of wT_4_16
theorem lp8_init_32 : Pl vX8_init RX8 32 8 0 .int := ⟨RX8, TX8, 14, tyX8, rfl, by decide, (fun w h9 => List.mem_cons_of_mem _ (wC_wsX80 w h9)), (List.mem_cons_of_mem _ wT_3_15), tyX8_ok, nmX8, rfl, rfl⟩
theorem lp8_init_36 : Pl vX8_init RX8 36 8 1 .int := ⟨RX8, TX8, 14, tyX8, rfl, by decide, (fun w h9 => List.mem_cons_of_mem _ (wC_wsX80 w h9)), (List.mem_cons_of_mem _ wT_3_16), tyX8_ok, nmX8, rfl, rfl⟩
theorem cd8_init : Cd yX8_init 0 := ⟨by decide, by decide, by decide +kernel⟩
set_option maxHeartbeats 4000000 in
set_option maxRecDepth 100000 in
theorem T8_init_0 (S : CallFix p m c cX8_init 2 s args vX8_init RX8) (hr : meth.sig.returnType = none) (hlo : meth.locks = false) (hin2 : meth.name = "<init>") (hAn : ∀ q, b ≤ q → A q) {out : PH} {h : PH} {a0 : Nat} (f : F8_init_0  h a0 = some out) {H : Heap} {locs : List Loc} (I : ph_I D cy b A true h s H locs) {ls : Array Slot} (hl : lv_has ls 2 [(0, .ref (b + a0))]) : W p l e ({ frames := 2, cells := 21, slots := 369, locals := 40 } : Room) s m args below meth c H locs 0 0 (MQ below (va_Qv (fun (u : PH) => u = out) (ph_B D cy b A true) A) args s 21 369 A) (F0 m 0 ls []) := by
  unfold F8_init_0 at f
  refine lv_aload_n S.1 S.2.1 dX8_init_0 rfl (lv_at hl 0 rfl) ?_
  refine o_objI S (List.mem_cons_of_mem _ wT_3_2) (List.mem_cons_of_mem _ wT_1_11) (List.mem_cons_of_mem _ wT_1_12) hl.1 dX8_init_1 (Nat.le_of_ble_eq_true rfl) (Nat.le_of_ble_eq_true rfl) ?_
  refine lv_aload_n S.1 S.2.1 dX8_init_4 rfl (lv_at hl 0 rfl) ?_
  obtain ⟨h1, e2, f⟩ := ob f
  refine o_new S ln8_init_9 I hAn e2 (Nat.le_of_ble_eq_true rfl) (Nat.le_of_ble_eq_true rfl) dX8_init_5 (fun H I => ?_)
  refine lv_dup S.1 S.2.1 dX8_init_8 rfl ?_
  obtain ⟨o3, e4, f⟩ := ob f
  refine o_Iv S (As := []) (rest := [.ref (b + h.length), .ref (b + a0)]) (M1_init l D cy b A hAn e4) gX8_init_X1_init ⟨(List.mem_cons_of_mem _ wT_3_5), (List.mem_cons_of_mem _ wT_3_17), (List.mem_cons_of_mem _ wT_3_18)⟩ rfl rfl rfl rfl cd1_init ⟨Nat.le_of_ble_eq_true rfl, Nat.le_of_ble_eq_true rfl⟩ I rfl hl.1 rfl (Nat.le_of_ble_eq_true rfl) dX8_init_9 ⟨Nat.le_of_ble_eq_true rfl, Nat.le_of_ble_eq_true rfl⟩ (fun H locs I => ?_)
  obtain ⟨h5, e6, f⟩ := ob f
  refine o_pRF S hin2 lp8_init_12 (Or.inl ⟨_, rfl⟩) I e6 dX8_init_12 (fun H locs I => ?_)
  refine lv_aload_n S.1 S.2.1 dX8_init_15 rfl (lv_at hl 0 rfl) ?_
  obtain ⟨h7, e8, f⟩ := ob f
  refine o_new S ln8_init_18 I hAn e8 (Nat.le_of_ble_eq_true rfl) (Nat.le_of_ble_eq_true rfl) dX8_init_16 (fun H I => ?_)
  refine lv_dup S.1 S.2.1 dX8_init_19 rfl ?_
  obtain ⟨o9, e10, f⟩ := ob f
  refine o_Iv S (As := []) (rest := [.ref (b + h5.length), .ref (b + a0)]) (M10_init l D cy b A hAn e10) gX8_init_X10_init ⟨(List.mem_cons_of_mem _ wT_3_9), (List.mem_cons_of_mem _ wT_4_4), (List.mem_cons_of_mem _ wT_4_5)⟩ rfl rfl rfl rfl cd10_init ⟨Nat.le_of_ble_eq_true rfl, Nat.le_of_ble_eq_true rfl⟩ I rfl hl.1 rfl (Nat.le_of_ble_eq_true rfl) dX8_init_20 ⟨Nat.le_of_ble_eq_true rfl, Nat.le_of_ble_eq_true rfl⟩ (fun H locs I => ?_)
  obtain ⟨h11, e12, f⟩ := ob f
  refine o_pRF S hin2 lp8_init_21 (Or.inl ⟨_, rfl⟩) I e12 dX8_init_23 (fun H locs I => ?_)
  refine lv_aload_n S.1 S.2.1 dX8_init_26 rfl (lv_at hl 0 rfl) ?_
  refine lv_iconst (v := 3) S.1 S.2.1 dX8_init_27 (by decide) ?_
  obtain ⟨h13, e14, f⟩ := ob f
  refine o_newR S (List.mem_cons_of_mem _ wT_3_11) I hAn (N := 3) e14 (by decide) (by decide) (Nat.le_of_ble_eq_true rfl) (Nat.le_of_ble_eq_true rfl) (Nat.le_of_ble_eq_true rfl) dX8_init_28 (fun H I => ?_)
  obtain ⟨h15, e16, f⟩ := ob f
  refine o_pRF S hin2 lp8_init_27 (Or.inr ⟨_, rfl⟩) I e16 dX8_init_31 (fun H locs I => ?_)
  refine lv_iconst (v := 0) S.1 S.2.1 dX8_init_34 (by decide) ?_
  refine lv_istore_n (lv' := [(1, .int 0), (0, .ref (b + a0))]) S.1 S.2.1 dX8_init_35 rfl hl (by decide) rfl (fun ls hl => ?_)
  refine lv_iload_n S.1 S.2.1 dX8_init_36 rfl (lv_at hl 0 rfl) ?_
  refine lv_iconst (v := 3) S.1 S.2.1 dX8_init_37 (by decide) ?_
  refine lv_icmp_ge (tgt := 60) S.1 S.2.1 dX8_init_38 (by decide) (fun q17 => ?_) (fun q17 => ?_)
  · exact absurd q17 (by decide)
  · refine lv_aload_n S.1 S.2.1 dX8_init_41 rfl (lv_at hl 1 rfl) ?_
    obtain ⟨r18, e19, f⟩ := ob f
    refine o_gR S lf8_init_27 I e19 dX8_init_42 ?_
    refine lv_iload_n S.1 S.2.1 dX8_init_45 rfl (lv_at hl 0 rfl) ?_
    obtain ⟨h20, e21, f⟩ := ob f
    refine o_new S ln8_init_25 I hAn e21 (Nat.le_of_ble_eq_true rfl) (Nat.le_of_ble_eq_true rfl) dX8_init_46 (fun H I => ?_)
    refine lv_dup S.1 S.2.1 dX8_init_49 rfl ?_
    obtain ⟨o22, e23, f⟩ := ob f
    refine o_Iv S (As := []) (rest := [.ref (b + h15.length), .int 0, .ref (b + r18)]) (M2_init l D cy b A hAn e23) gX8_init_X2_init ⟨(List.mem_cons_of_mem _ wT_3_14), (List.mem_cons_of_mem _ wT_4_14), (List.mem_cons_of_mem _ wT_4_15)⟩ rfl rfl rfl rfl cd2_init ⟨Nat.le_of_ble_eq_true rfl, Nat.le_of_ble_eq_true rfl⟩ I rfl hl.1 rfl (Nat.le_of_ble_eq_true rfl) dX8_init_50 ⟨Nat.le_of_ble_eq_true rfl, Nat.le_of_ble_eq_true rfl⟩ (fun H locs I => ?_)
    obtain ⟨h25, e24, f⟩ := ob f
    refine o_aast S I e24 dX8_init_53 (fun H locs I => ?_)
    refine lv_iinc (v := 1) (lv' := [(1, .int 1), (0, .ref (b + a0))]) S.1 S.2.1 dX8_init_54 hl (k := 0) rfl (by decide) (by decide) rfl (fun ls hl => ?_)
    refine lv_goto (tgt := 36) S.1 S.2.1 dX8_init_57 (by decide) ?_
    refine lv_iload_n S.1 S.2.1 dX8_init_36 rfl (lv_at hl 0 rfl) ?_
    refine lv_iconst (v := 3) S.1 S.2.1 dX8_init_37 (by decide) ?_
    refine lv_icmp_ge (tgt := 60) S.1 S.2.1 dX8_init_38 (by decide) (fun q26 => ?_) (fun q26 => ?_)
    · exact absurd q26 (by decide)
    · refine lv_aload_n S.1 S.2.1 dX8_init_41 rfl (lv_at hl 1 rfl) ?_
      obtain ⟨r27, e28, f⟩ := ob f
      refine o_gR S lf8_init_27 I e28 dX8_init_42 ?_
      refine lv_iload_n S.1 S.2.1 dX8_init_45 rfl (lv_at hl 0 rfl) ?_
      obtain ⟨h29, e30, f⟩ := ob f
      refine o_new S ln8_init_25 I hAn e30 (Nat.le_of_ble_eq_true rfl) (Nat.le_of_ble_eq_true rfl) dX8_init_46 (fun H I => ?_)
      refine lv_dup S.1 S.2.1 dX8_init_49 rfl ?_
      obtain ⟨o31, e32, f⟩ := ob f
      refine o_Iv S (As := []) (rest := [.ref (b + h25.length), .int 1, .ref (b + r27)]) (M2_init l D cy b A hAn e32) gX8_init_X2_init ⟨(List.mem_cons_of_mem _ wT_3_14), (List.mem_cons_of_mem _ wT_4_14), (List.mem_cons_of_mem _ wT_4_15)⟩ rfl rfl rfl rfl cd2_init ⟨Nat.le_of_ble_eq_true rfl, Nat.le_of_ble_eq_true rfl⟩ I rfl hl.1 rfl (Nat.le_of_ble_eq_true rfl) dX8_init_50 ⟨Nat.le_of_ble_eq_true rfl, Nat.le_of_ble_eq_true rfl⟩ (fun H locs I => ?_)
      obtain ⟨h34, e33, f⟩ := ob f
      refine o_aast S I e33 dX8_init_53 (fun H locs I => ?_)
      refine lv_iinc (v := 2) (lv' := [(1, .int 2), (0, .ref (b + a0))]) S.1 S.2.1 dX8_init_54 hl (k := 0) rfl (by decide) (by decide) rfl (fun ls hl => ?_)
      refine lv_goto (tgt := 36) S.1 S.2.1 dX8_init_57 (by decide) ?_
      refine lv_iload_n S.1 S.2.1 dX8_init_36 rfl (lv_at hl 0 rfl) ?_
      refine lv_iconst (v := 3) S.1 S.2.1 dX8_init_37 (by decide) ?_
      refine lv_icmp_ge (tgt := 60) S.1 S.2.1 dX8_init_38 (by decide) (fun q35 => ?_) (fun q35 => ?_)
      · exact absurd q35 (by decide)
      · refine lv_aload_n S.1 S.2.1 dX8_init_41 rfl (lv_at hl 1 rfl) ?_
        obtain ⟨r36, e37, f⟩ := ob f
        refine o_gR S lf8_init_27 I e37 dX8_init_42 ?_
        refine lv_iload_n S.1 S.2.1 dX8_init_45 rfl (lv_at hl 0 rfl) ?_
        obtain ⟨h38, e39, f⟩ := ob f
        refine o_new S ln8_init_25 I hAn e39 (Nat.le_of_ble_eq_true rfl) (Nat.le_of_ble_eq_true rfl) dX8_init_46 (fun H I => ?_)
        refine lv_dup S.1 S.2.1 dX8_init_49 rfl ?_
        obtain ⟨o40, e41, f⟩ := ob f
        refine o_Iv S (As := []) (rest := [.ref (b + h34.length), .int 2, .ref (b + r36)]) (M2_init l D cy b A hAn e41) gX8_init_X2_init ⟨(List.mem_cons_of_mem _ wT_3_14), (List.mem_cons_of_mem _ wT_4_14), (List.mem_cons_of_mem _ wT_4_15)⟩ rfl rfl rfl rfl cd2_init ⟨Nat.le_of_ble_eq_true rfl, Nat.le_of_ble_eq_true rfl⟩ I rfl hl.1 rfl (Nat.le_of_ble_eq_true rfl) dX8_init_50 ⟨Nat.le_of_ble_eq_true rfl, Nat.le_of_ble_eq_true rfl⟩ (fun H locs I => ?_)
        obtain ⟨h43, e42, f⟩ := ob f
        refine o_aast S I e42 dX8_init_53 (fun H locs I => ?_)
        refine lv_iinc (v := 3) (lv' := [(1, .int 3), (0, .ref (b + a0))]) S.1 S.2.1 dX8_init_54 hl (k := 0) rfl (by decide) (by decide) rfl (fun ls hl => ?_)
        refine lv_goto (tgt := 36) S.1 S.2.1 dX8_init_57 (by decide) ?_
        refine lv_iload_n S.1 S.2.1 dX8_init_36 rfl (lv_at hl 0 rfl) ?_
        refine lv_iconst (v := 3) S.1 S.2.1 dX8_init_37 (by decide) ?_
        refine lv_icmp_ge (tgt := 60) S.1 S.2.1 dX8_init_38 (by decide) (fun q44 => ?_) (fun q44 => ?_)
        · refine lv_aload_n S.1 S.2.1 dX8_init_60 rfl (lv_at hl 1 rfl) ?_
          refine lv_bipush (v := 6) S.1 S.2.1 dX8_init_61 (by decide) ?_
          obtain ⟨h45, e46, f⟩ := ob f
          refine o_pI S lp8_init_32 I e46 dX8_init_63 (fun H locs I => ?_)
          refine lv_aload_n S.1 S.2.1 dX8_init_66 rfl (lv_at hl 1 rfl) ?_
          refine lv_iconst (v := 4) S.1 S.2.1 dX8_init_67 (by decide) ?_
          obtain ⟨h47, e48, f⟩ := ob f
          refine o_pI S lp8_init_36 I e48 dX8_init_68 (fun H locs I => ?_)
          exact o_vret S hr hlo I f dX8_init_71
        · exact absurd q44 (by decide)
theorem M8_init (l : Launch) (D : va_G) (cy : Nat → ClassId) (b : Nat) (A : Nat → Prop) (hAn : ∀ q, b ≤ q → A q) {h : PH} {a0 : Nat} {out : PH} (f : F8_init h a0 = some out) : Met l yX8_init vX8_init ({ frames := 2, cells := 21, slots := 369, locals := 40 } : Room) (va_Pc [.ref (b + a0)] (ph_B D cy b A true h)) (va_Qv (fun (u : PH) => u = out) (ph_B D cy b A true) A) 21 369 A :=
  o_met (by decide) rfl (Nat.le_of_ble_eq_true rfl) rfl (fun p e s m below meth c S hr hlo hnm ls hl I => T8_init_0 S hr hlo hnm hAn ((gd f).2) I (lv_sub hl [0] rfl))
def vX5_init : List Cond := .code yX5_init cX5_init 2 none :: TB
theorem lp5_init_9 : Pl vX5_init RX5 9 5 10 (.object "WhoseWave$Told") := ⟨RX5, TX5, 11, tyX5, rfl, by decide, (fun w h9 => List.mem_cons_of_mem _ (wC_wsX50 w h9)), (List.mem_cons_of_mem _ wT_4_23), tyX5_ok, nmX5, rfl, rfl⟩
theorem ln5_init_15 : Nl vX5_init RX5 15 7 7 zF7 := ⟨RX7, TX7, tyX7, rfl, (fun w h9 => List.mem_cons_of_mem _ (wC_wsX70 w h9)), tyX7_ok, (List.mem_cons_of_mem _ wT_5_0), (List.mem_cons_of_mem _ wT_5_1), (List.mem_cons_of_mem _ wT_5_2), zF7_ok⟩
theorem gX5_init_X7_init : GoodIn vX5_init vX7_init := gI_of wT_5_8
theorem lp5_init_18 : PlF vX5_init RX5 18 5 0 (.object "WhoseWave$Tokens") := ⟨RX5, TX5, 11, tyX5, rfl, by decide, (fun w h9 => List.mem_cons_of_mem _ (wC_wsX50 w h9)), (List.mem_cons_of_mem _ wT_5_3), tyX5_ok, nmX5, rfl, rfl, rfl⟩
theorem lp5_init_22 : PlF vX5_init RX5 22 5 1 (.array .int) := ⟨RX5, TX5, 11, tyX5, rfl, by decide, (fun w h9 => List.mem_cons_of_mem _ (wC_wsX50 w h9)), (List.mem_cons_of_mem _ wT_5_4), tyX5_ok, nmX5, rfl, rfl, rfl⟩
theorem lp5_init_26 : Pl vX5_init RX5 26 5 9 .int := ⟨RX5, TX5, 11, tyX5, rfl, by decide, (fun w h9 => List.mem_cons_of_mem _ (wC_wsX50 w h9)), (List.mem_cons_of_mem _ wT_5_5), tyX5_ok, nmX5, rfl, rfl⟩
theorem cd5_init : Cd yX5_init 1 := ⟨by decide, by decide, by decide +kernel⟩
set_option maxHeartbeats 4000000 in
set_option maxRecDepth 100000 in
theorem T5_init_0 (S : CallFix p m c cX5_init 2 s args vX5_init RX5) (hr : meth.sig.returnType = none) (hlo : meth.locks = false) (hin2 : meth.name = "<init>") (hAn : ∀ q, b ≤ q → A q) {out : PH} {h : PH} {a0 : Nat} {a1 : Nat} (f : F5_init_0  h a0 a1 = some out) {H : Heap} {locs : List Loc} (I : ph_I D cy b A true h s H locs) {ls : Array Slot} (hl : lv_has ls 2 [(0, .ref (b + a0)), (1, .ref (b + a1))]) : W p l e ({ frames := 5, cells := 4, slots := 103, locals := 123 } : Room) s m args below meth c H locs 0 0 (MQ below (va_Qv (fun (u : PH) => u = out) (ph_B D cy b A true) A) args s 4 103 A) (F0 m 0 ls []) := by
  unfold F5_init_0 at f
  refine lv_aload_n S.1 S.2.1 dX5_init_0 rfl (lv_at hl 0 rfl) ?_
  refine o_objI S (List.mem_cons_of_mem _ wT_4_22) (List.mem_cons_of_mem _ wT_1_11) (List.mem_cons_of_mem _ wT_1_12) hl.1 dX5_init_1 (Nat.le_of_ble_eq_true rfl) (Nat.le_of_ble_eq_true rfl) ?_
  refine lv_aload_n S.1 S.2.1 dX5_init_4 rfl (lv_at hl 0 rfl) ?_
  refine lv_aload_n S.1 S.2.1 dX5_init_5 rfl (lv_at hl 1 rfl) ?_
  obtain ⟨h1, e2, f⟩ := ob f
  refine o_pR S lp5_init_9 (Or.inl ⟨_, rfl⟩) I e2 dX5_init_6 (fun H locs I => ?_)
  refine lv_aload_n S.1 S.2.1 dX5_init_9 rfl (lv_at hl 0 rfl) ?_
  obtain ⟨h3, e4, f⟩ := ob f
  refine o_new S ln5_init_15 I hAn e4 (Nat.le_of_ble_eq_true rfl) (Nat.le_of_ble_eq_true rfl) dX5_init_10 (fun H I => ?_)
  refine lv_dup S.1 S.2.1 dX5_init_13 rfl ?_
  obtain ⟨o5, e6, f⟩ := ob f
  refine o_Iv S (As := []) (rest := [.ref (b + h1.length), .ref (b + a0)]) (M7_init l D cy b A hAn e6) gX5_init_X7_init ⟨(List.mem_cons_of_mem _ wT_5_2), (List.mem_cons_of_mem _ wT_5_6), (List.mem_cons_of_mem _ wT_5_7)⟩ rfl rfl rfl rfl cd7_init ⟨Nat.le_of_ble_eq_true rfl, Nat.le_of_ble_eq_true rfl⟩ I rfl hl.1 rfl (Nat.le_of_ble_eq_true rfl) dX5_init_14 ⟨Nat.le_of_ble_eq_true rfl, Nat.le_of_ble_eq_true rfl⟩ (fun H locs I => ?_)
  obtain ⟨h7, e8, f⟩ := ob f
  refine o_pRF S hin2 lp5_init_18 (Or.inl ⟨_, rfl⟩) I e8 dX5_init_17 (fun H locs I => ?_)
  refine lv_aload_n S.1 S.2.1 dX5_init_20 rfl (lv_at hl 0 rfl) ?_
  refine lv_bipush (v := 72) S.1 S.2.1 dX5_init_21 (by decide) ?_
  obtain ⟨h9, e10, f⟩ := ob f
  refine o_newI S (List.mem_cons_of_mem _ wT_3_21) I hAn (N := 72) e10 (by decide) (by decide) (Nat.le_of_ble_eq_true rfl) (Nat.le_of_ble_eq_true rfl) (Nat.le_of_ble_eq_true rfl) dX5_init_23 (fun H I => ?_)
  obtain ⟨h11, e12, f⟩ := ob f
  refine o_pRF S hin2 lp5_init_22 (Or.inr ⟨_, rfl⟩) I e12 dX5_init_25 (fun H locs I => ?_)
  refine lv_aload_n S.1 S.2.1 dX5_init_28 rfl (lv_at hl 0 rfl) ?_
  refine lv_iconst (v := (-1)) S.1 S.2.1 dX5_init_29 (by decide) ?_
  obtain ⟨h13, e14, f⟩ := ob f
  refine o_pI S lp5_init_26 I e14 dX5_init_30 (fun H locs I => ?_)
  exact o_vret S hr hlo I f dX5_init_33
theorem M5_init (l : Launch) (D : va_G) (cy : Nat → ClassId) (b : Nat) (A : Nat → Prop) (hAn : ∀ q, b ≤ q → A q) {h : PH} {a0 : Nat} {a1 : Nat} {out : PH} (f : F5_init h a0 a1 = some out) : Met l yX5_init vX5_init ({ frames := 5, cells := 4, slots := 103, locals := 123 } : Room) (va_Pc [.ref (b + a0), .ref (b + a1)] (ph_B D cy b A true h)) (va_Qv (fun (u : PH) => u = out) (ph_B D cy b A true) A) 4 103 A :=
  o_met (by decide) rfl (Nat.le_of_ble_eq_true rfl) rfl (fun p e s m below meth c S hr hlo hnm ls hl I => T5_init_0 S hr hlo hnm hAn ((gd f).2) I (lv_sub hl [0, 1] rfl))
def vX6_init : List Cond := .code yX6_init cX6_init 2 none :: TB
theorem lp6_init_9 : Pl vX6_init RX6 9 6 0 (.object "WhoseWave$Told") := ⟨RX6, TX6, 9, tyX6, rfl, by decide, (fun w h9 => List.mem_cons_of_mem _ (wC_wsX60 w h9)), (List.mem_cons_of_mem _ wT_7_15), tyX6_ok, nmX6, rfl, rfl⟩
theorem lp6_init_15 : PlF vX6_init RX6 15 6 1 (.array .int) := ⟨RX6, TX6, 9, tyX6, rfl, by decide, (fun w h9 => List.mem_cons_of_mem _ (wC_wsX60 w h9)), (List.mem_cons_of_mem _ wT_7_16), tyX6_ok, nmX6, rfl, rfl, rfl⟩
theorem lp6_init_19 : PlF vX6_init RX6 19 6 2 (.array .int) := ⟨RX6, TX6, 9, tyX6, rfl, by decide, (fun w h9 => List.mem_cons_of_mem _ (wC_wsX60 w h9)), (List.mem_cons_of_mem _ wT_7_17), tyX6_ok, nmX6, rfl, rfl, rfl⟩
theorem lp6_init_22 : PlF vX6_init RX6 22 6 3 (.array .int) := ⟨RX6, TX6, 9, tyX6, rfl, by decide, (fun w h9 => List.mem_cons_of_mem _ (wC_wsX60 w h9)), (List.mem_cons_of_mem _ wT_7_18), tyX6_ok, nmX6, rfl, rfl, rfl⟩
theorem lp6_init_25 : PlF vX6_init RX6 25 6 4 (.array .long) := ⟨RX6, TX6, 9, tyX6, rfl, by decide, (fun w h9 => List.mem_cons_of_mem _ (wC_wsX60 w h9)), (List.mem_cons_of_mem _ wT_7_19), tyX6_ok, nmX6, rfl, rfl, rfl⟩
theorem lp6_init_29 : PlF vX6_init RX6 29 6 5 (.array .long) := ⟨RX6, TX6, 9, tyX6, rfl, by decide, (fun w h9 => List.mem_cons_of_mem _ (wC_wsX60 w h9)), (List.mem_cons_of_mem _ wT_7_20), tyX6_ok, nmX6, rfl, rfl, rfl⟩
theorem lp6_init_32 : PlF vX6_init RX6 32 6 6 (.array .int) := ⟨RX6, TX6, 9, tyX6, rfl, by decide, (fun w h9 => List.mem_cons_of_mem _ (wC_wsX60 w h9)), (List.mem_cons_of_mem _ wT_7_21), tyX6_ok, nmX6, rfl, rfl, rfl⟩
theorem lp6_init_35 : PlF vX6_init RX6 35 6 7 (.array .int) := ⟨RX6, TX6, 9, tyX6, rfl, by decide, (fun w h9 => List.mem_cons_of_mem _ (wC_wsX60 w h9)), (List.mem_cons_of_mem _ wT_7_22), tyX6_ok, nmX6, rfl, rfl, rfl⟩
theorem lp6_init_38 : PlF vX6_init RX6 38 6 8 (.array .int) := ⟨RX6, TX6, 9, tyX6, rfl, by decide, (fun w h9 => List.mem_cons_of_mem _ (wC_wsX60 w h9)), (List.mem_cons_of_mem _ wT_7_23), tyX6_ok, nmX6, rfl, rfl, rfl⟩
theorem cd6_init : Cd yX6_init 1 := ⟨by decide, by decide, by decide +kernel⟩
set_option maxHeartbeats 4000000 in
set_option maxRecDepth 100000 in
theorem T6_init_0 (S : CallFix p m c cX6_init 2 s args vX6_init RX6) (hr : meth.sig.returnType = none) (hlo : meth.locks = false) (hin2 : meth.name = "<init>") (hAn : ∀ q, b ≤ q → A q) {out : PH} {h : PH} {a0 : Nat} {a1 : Nat} (f : F6_init_0  h a0 a1 = some out) {H : Heap} {locs : List Loc} (I : ph_I D cy b A true h s H locs) {ls : Array Slot} (hl : lv_has ls 2 [(0, .ref (b + a0)), (1, .ref (b + a1))]) : W p l e ({ frames := 1, cells := 8, slots := 123, locals := 20 } : Room) s m args below meth c H locs 0 0 (MQ below (va_Qv (fun (u : PH) => u = out) (ph_B D cy b A true) A) args s 8 123 A) (F0 m 0 ls []) := by
  unfold F6_init_0 at f
  refine lv_aload_n S.1 S.2.1 dX6_init_0 rfl (lv_at hl 0 rfl) ?_
  refine o_objI S (List.mem_cons_of_mem _ wT_7_14) (List.mem_cons_of_mem _ wT_1_11) (List.mem_cons_of_mem _ wT_1_12) hl.1 dX6_init_1 (Nat.le_of_ble_eq_true rfl) (Nat.le_of_ble_eq_true rfl) ?_
  refine lv_aload_n S.1 S.2.1 dX6_init_4 rfl (lv_at hl 0 rfl) ?_
  refine lv_aload_n S.1 S.2.1 dX6_init_5 rfl (lv_at hl 1 rfl) ?_
  obtain ⟨h1, e2, f⟩ := ob f
  refine o_pR S lp6_init_9 (Or.inl ⟨_, rfl⟩) I e2 dX6_init_6 (fun H locs I => ?_)
  refine lv_aload_n S.1 S.2.1 dX6_init_9 rfl (lv_at hl 0 rfl) ?_
  refine lv_iconst (v := 5) S.1 S.2.1 dX6_init_10 (by decide) ?_
  obtain ⟨h3, e4, f⟩ := ob f
  refine o_newI S (List.mem_cons_of_mem _ wT_3_21) I hAn (N := 5) e4 (by decide) (by decide) (Nat.le_of_ble_eq_true rfl) (Nat.le_of_ble_eq_true rfl) (Nat.le_of_ble_eq_true rfl) dX6_init_11 (fun H I => ?_)
  obtain ⟨h5, e6, f⟩ := ob f
  refine o_pRF S hin2 lp6_init_15 (Or.inr ⟨_, rfl⟩) I e6 dX6_init_13 (fun H locs I => ?_)
  refine lv_aload_n S.1 S.2.1 dX6_init_16 rfl (lv_at hl 0 rfl) ?_
  refine lv_iconst (v := 5) S.1 S.2.1 dX6_init_17 (by decide) ?_
  obtain ⟨h7, e8, f⟩ := ob f
  refine o_newI S (List.mem_cons_of_mem _ wT_3_21) I hAn (N := 5) e8 (by decide) (by decide) (Nat.le_of_ble_eq_true rfl) (Nat.le_of_ble_eq_true rfl) (Nat.le_of_ble_eq_true rfl) dX6_init_18 (fun H I => ?_)
  obtain ⟨h9, e10, f⟩ := ob f
  refine o_pRF S hin2 lp6_init_19 (Or.inr ⟨_, rfl⟩) I e10 dX6_init_20 (fun H locs I => ?_)
  refine lv_aload_n S.1 S.2.1 dX6_init_23 rfl (lv_at hl 0 rfl) ?_
  refine lv_bipush (v := 28) S.1 S.2.1 dX6_init_24 (by decide) ?_
  obtain ⟨h11, e12, f⟩ := ob f
  refine o_newI S (List.mem_cons_of_mem _ wT_3_21) I hAn (N := 28) e12 (by decide) (by decide) (Nat.le_of_ble_eq_true rfl) (Nat.le_of_ble_eq_true rfl) (Nat.le_of_ble_eq_true rfl) dX6_init_26 (fun H I => ?_)
  obtain ⟨h13, e14, f⟩ := ob f
  refine o_pRF S hin2 lp6_init_22 (Or.inr ⟨_, rfl⟩) I e14 dX6_init_28 (fun H locs I => ?_)
  refine lv_aload_n S.1 S.2.1 dX6_init_31 rfl (lv_at hl 0 rfl) ?_
  refine lv_bipush (v := 6) S.1 S.2.1 dX6_init_32 (by decide) ?_
  obtain ⟨h15, e16, f⟩ := ob f
  refine o_newJ S (List.mem_cons_of_mem _ wT_1_6) I hAn (N := 6) e16 (by decide) (by decide) (Nat.le_of_ble_eq_true rfl) (Nat.le_of_ble_eq_true rfl) (Nat.le_of_ble_eq_true rfl) dX6_init_34 (fun H I => ?_)
  obtain ⟨h17, e18, f⟩ := ob f
  refine o_pRF S hin2 lp6_init_25 (Or.inr ⟨_, rfl⟩) I e18 dX6_init_36 (fun H locs I => ?_)
  refine lv_aload_n S.1 S.2.1 dX6_init_39 rfl (lv_at hl 0 rfl) ?_
  refine lv_bipush (v := 64) S.1 S.2.1 dX6_init_40 (by decide) ?_
  obtain ⟨h19, e20, f⟩ := ob f
  refine o_newJ S (List.mem_cons_of_mem _ wT_1_6) I hAn (N := 64) e20 (by decide) (by decide) (Nat.le_of_ble_eq_true rfl) (Nat.le_of_ble_eq_true rfl) (Nat.le_of_ble_eq_true rfl) dX6_init_42 (fun H I => ?_)
  obtain ⟨h21, e22, f⟩ := ob f
  refine o_pRF S hin2 lp6_init_29 (Or.inr ⟨_, rfl⟩) I e22 dX6_init_44 (fun H locs I => ?_)
  refine lv_aload_n S.1 S.2.1 dX6_init_47 rfl (lv_at hl 0 rfl) ?_
  refine lv_iconst (v := 5) S.1 S.2.1 dX6_init_48 (by decide) ?_
  obtain ⟨h23, e24, f⟩ := ob f
  refine o_newI S (List.mem_cons_of_mem _ wT_3_21) I hAn (N := 5) e24 (by decide) (by decide) (Nat.le_of_ble_eq_true rfl) (Nat.le_of_ble_eq_true rfl) (Nat.le_of_ble_eq_true rfl) dX6_init_49 (fun H I => ?_)
  obtain ⟨h25, e26, f⟩ := ob f
  refine o_pRF S hin2 lp6_init_32 (Or.inr ⟨_, rfl⟩) I e26 dX6_init_51 (fun H locs I => ?_)
  refine lv_aload_n S.1 S.2.1 dX6_init_54 rfl (lv_at hl 0 rfl) ?_
  refine lv_iconst (v := 5) S.1 S.2.1 dX6_init_55 (by decide) ?_
  obtain ⟨h27, e28, f⟩ := ob f
  refine o_newI S (List.mem_cons_of_mem _ wT_3_21) I hAn (N := 5) e28 (by decide) (by decide) (Nat.le_of_ble_eq_true rfl) (Nat.le_of_ble_eq_true rfl) (Nat.le_of_ble_eq_true rfl) dX6_init_56 (fun H I => ?_)
  obtain ⟨h29, e30, f⟩ := ob f
  refine o_pRF S hin2 lp6_init_35 (Or.inr ⟨_, rfl⟩) I e30 dX6_init_58 (fun H locs I => ?_)
  refine lv_aload_n S.1 S.2.1 dX6_init_61 rfl (lv_at hl 0 rfl) ?_
  refine lv_iconst (v := 5) S.1 S.2.1 dX6_init_62 (by decide) ?_
  obtain ⟨h31, e32, f⟩ := ob f
  refine o_newI S (List.mem_cons_of_mem _ wT_3_21) I hAn (N := 5) e32 (by decide) (by decide) (Nat.le_of_ble_eq_true rfl) (Nat.le_of_ble_eq_true rfl) (Nat.le_of_ble_eq_true rfl) dX6_init_63 (fun H I => ?_)
  obtain ⟨h33, e34, f⟩ := ob f
  refine o_pRF S hin2 lp6_init_38 (Or.inr ⟨_, rfl⟩) I e34 dX6_init_65 (fun H locs I => ?_)
  exact o_vret S hr hlo I f dX6_init_68
theorem M6_init (l : Launch) (D : va_G) (cy : Nat → ClassId) (b : Nat) (A : Nat → Prop) (hAn : ∀ q, b ≤ q → A q) {h : PH} {a0 : Nat} {a1 : Nat} {out : PH} (f : F6_init h a0 a1 = some out) : Met l yX6_init vX6_init ({ frames := 1, cells := 8, slots := 123, locals := 20 } : Room) (va_Pc [.ref (b + a0), .ref (b + a1)] (ph_B D cy b A true h)) (va_Qv (fun (u : PH) => u = out) (ph_B D cy b A true) A) 8 123 A :=
  o_met (by decide) rfl (Nat.le_of_ble_eq_true rfl) rfl (fun p e s m below meth c S hr hlo hnm ls hl I => T6_init_0 S hr hlo hnm hAn ((gd f).2) I (lv_sub hl [0, 1] rfl))
def vX0_init : List Cond := .code yX0_init cX0_init 1 none :: TB
theorem lp0_init_9 : PlF vX0_init RX0 9 0 0 (.array .int) := ⟨RX0, TX0, 13, tyX0, rfl, by decide, (fun w h9 => List.mem_cons_of_mem _ (wC_wsX00 w h9)), (List.mem_cons_of_mem _ wT_9_7), tyX0_ok, nmX0, rfl, rfl, rfl⟩
theorem lp0_init_15 : PlF vX0_init RX0 15 0 1 (.array .int) := ⟨RX0, TX0, 13, tyX0, rfl, by decide, (fun w h9 => List.mem_cons_of_mem _ (wC_wsX00 w h9)), (List.mem_cons_of_mem _ wT_9_8), tyX0_ok, nmX0, rfl, rfl, rfl⟩
theorem lp0_init_18 : PlF vX0_init RX0 18 0 2 (.array .int) := ⟨RX0, TX0, 13, tyX0, rfl, by decide, (fun w h9 => List.mem_cons_of_mem _ (wC_wsX00 w h9)), (List.mem_cons_of_mem _ wT_9_9), tyX0_ok, nmX0, rfl, rfl, rfl⟩
theorem lp0_init_21 : PlF vX0_init RX0 21 0 3 (.array .int) := ⟨RX0, TX0, 13, tyX0, rfl, by decide, (fun w h9 => List.mem_cons_of_mem _ (wC_wsX00 w h9)), (List.mem_cons_of_mem _ wT_9_10), tyX0_ok, nmX0, rfl, rfl, rfl⟩
theorem lp0_init_24 : PlF vX0_init RX0 24 0 4 (.array .int) := ⟨RX0, TX0, 13, tyX0, rfl, by decide, (fun w h9 => List.mem_cons_of_mem _ (wC_wsX00 w h9)), (List.mem_cons_of_mem _ wT_9_11), tyX0_ok, nmX0, rfl, rfl, rfl⟩
theorem lp0_init_27 : PlF vX0_init RX0 27 0 5 (.array .int) := ⟨RX0, TX0, 13, tyX0, rfl, by decide, (fun w h9 => List.mem_cons_of_mem _ (wC_wsX00 w h9)), (List.mem_cons_of_mem _ wT_9_12), tyX0_ok, nmX0, rfl, rfl, rfl⟩
theorem lp0_init_30 : PlF vX0_init RX0 30 0 7 (.array .int) := ⟨RX0, TX0, 13, tyX0, rfl, by decide, (fun w h9 => List.mem_cons_of_mem _ (wC_wsX00 w h9)), (List.mem_cons_of_mem _ wT_9_13), tyX0_ok, nmX0, rfl, rfl, rfl⟩
theorem lp0_init_33 : PlF vX0_init RX0 33 0 8 (.array .int) := ⟨RX0, TX0, 13, tyX0, rfl, by decide, (fun w h9 => List.mem_cons_of_mem _ (wC_wsX00 w h9)), (List.mem_cons_of_mem _ wT_9_14), tyX0_ok, nmX0, rfl, rfl, rfl⟩
theorem lp0_init_36 : PlF vX0_init RX0 36 0 9 (.array .boolean) := ⟨RX0, TX0, 13, tyX0, rfl, by decide, (fun w h9 => List.mem_cons_of_mem _ (wC_wsX00 w h9)), (List.mem_cons_of_mem _ wT_9_15), tyX0_ok, nmX0, rfl, rfl, rfl⟩
theorem lp0_init_40 : PlF vX0_init RX0 40 0 10 (.array .int) := ⟨RX0, TX0, 13, tyX0, rfl, by decide, (fun w h9 => List.mem_cons_of_mem _ (wC_wsX00 w h9)), (List.mem_cons_of_mem _ wT_9_16), tyX0_ok, nmX0, rfl, rfl, rfl⟩
theorem cd0_init : Cd yX0_init 0 := ⟨by decide, by decide, by decide +kernel⟩
set_option maxHeartbeats 4000000 in
set_option maxRecDepth 100000 in
theorem T0_init_0 (S : CallFix p m c cX0_init 1 s args vX0_init RX0) (hr : meth.sig.returnType = none) (hlo : meth.locks = false) (hin2 : meth.name = "<init>") (hAn : ∀ q, b ≤ q → A q) {out : PH} {h : PH} {a0 : Nat} (f : F0_init_0  h a0 = some out) {H : Heap} {locs : List Loc} (I : ph_I D cy b A true h s H locs) {ls : Array Slot} (hl : lv_has ls 1 [(0, .ref (b + a0))]) : W p l e ({ frames := 1, cells := 10, slots := 758, locals := 20 } : Room) s m args below meth c H locs 0 0 (MQ below (va_Qv (fun (u : PH) => u = out) (ph_B D cy b A true) A) args s 10 758 A) (F0 m 0 ls []) := by
  unfold F0_init_0 at f
  refine lv_aload_n S.1 S.2.1 dX0_init_0 rfl (lv_at hl 0 rfl) ?_
  refine o_objI S (List.mem_cons_of_mem _ wT_9_6) (List.mem_cons_of_mem _ wT_1_11) (List.mem_cons_of_mem _ wT_1_12) hl.1 dX0_init_1 (Nat.le_of_ble_eq_true rfl) (Nat.le_of_ble_eq_true rfl) ?_
  refine lv_aload_n S.1 S.2.1 dX0_init_4 rfl (lv_at hl 0 rfl) ?_
  refine lv_bipush (v := 10) S.1 S.2.1 dX0_init_5 (by decide) ?_
  obtain ⟨h1, e2, f⟩ := ob f
  refine o_newI S (List.mem_cons_of_mem _ wT_3_21) I hAn (N := 10) e2 (by decide) (by decide) (Nat.le_of_ble_eq_true rfl) (Nat.le_of_ble_eq_true rfl) (Nat.le_of_ble_eq_true rfl) dX0_init_7 (fun H I => ?_)
  obtain ⟨h3, e4, f⟩ := ob f
  refine o_pRF S hin2 lp0_init_9 (Or.inr ⟨_, rfl⟩) I e4 dX0_init_9 (fun H locs I => ?_)
  refine lv_aload_n S.1 S.2.1 dX0_init_12 rfl (lv_at hl 0 rfl) ?_
  refine lv_sipush (v := 280) S.1 S.2.1 dX0_init_13 (by decide) ?_
  obtain ⟨h5, e6, f⟩ := ob f
  refine o_newI S (List.mem_cons_of_mem _ wT_3_21) I hAn (N := 280) e6 (by decide) (by decide) (Nat.le_of_ble_eq_true rfl) (Nat.le_of_ble_eq_true rfl) (Nat.le_of_ble_eq_true rfl) dX0_init_16 (fun H I => ?_)
  obtain ⟨h7, e8, f⟩ := ob f
  refine o_pRF S hin2 lp0_init_15 (Or.inr ⟨_, rfl⟩) I e8 dX0_init_18 (fun H locs I => ?_)
  refine lv_aload_n S.1 S.2.1 dX0_init_21 rfl (lv_at hl 0 rfl) ?_
  refine lv_sipush (v := 280) S.1 S.2.1 dX0_init_22 (by decide) ?_
  obtain ⟨h9, e10, f⟩ := ob f
  refine o_newI S (List.mem_cons_of_mem _ wT_3_21) I hAn (N := 280) e10 (by decide) (by decide) (Nat.le_of_ble_eq_true rfl) (Nat.le_of_ble_eq_true rfl) (Nat.le_of_ble_eq_true rfl) dX0_init_25 (fun H I => ?_)
  obtain ⟨h11, e12, f⟩ := ob f
  refine o_pRF S hin2 lp0_init_18 (Or.inr ⟨_, rfl⟩) I e12 dX0_init_27 (fun H locs I => ?_)
  refine lv_aload_n S.1 S.2.1 dX0_init_30 rfl (lv_at hl 0 rfl) ?_
  refine lv_bipush (v := 25) S.1 S.2.1 dX0_init_31 (by decide) ?_
  obtain ⟨h13, e14, f⟩ := ob f
  refine o_newI S (List.mem_cons_of_mem _ wT_3_21) I hAn (N := 25) e14 (by decide) (by decide) (Nat.le_of_ble_eq_true rfl) (Nat.le_of_ble_eq_true rfl) (Nat.le_of_ble_eq_true rfl) dX0_init_33 (fun H I => ?_)
  obtain ⟨h15, e16, f⟩ := ob f
  refine o_pRF S hin2 lp0_init_21 (Or.inr ⟨_, rfl⟩) I e16 dX0_init_35 (fun H locs I => ?_)
  refine lv_aload_n S.1 S.2.1 dX0_init_38 rfl (lv_at hl 0 rfl) ?_
  refine lv_bipush (v := 25) S.1 S.2.1 dX0_init_39 (by decide) ?_
  obtain ⟨h17, e18, f⟩ := ob f
  refine o_newI S (List.mem_cons_of_mem _ wT_3_21) I hAn (N := 25) e18 (by decide) (by decide) (Nat.le_of_ble_eq_true rfl) (Nat.le_of_ble_eq_true rfl) (Nat.le_of_ble_eq_true rfl) dX0_init_41 (fun H I => ?_)
  obtain ⟨h19, e20, f⟩ := ob f
  refine o_pRF S hin2 lp0_init_24 (Or.inr ⟨_, rfl⟩) I e20 dX0_init_43 (fun H locs I => ?_)
  refine lv_aload_n S.1 S.2.1 dX0_init_46 rfl (lv_at hl 0 rfl) ?_
  refine lv_bipush (v := 25) S.1 S.2.1 dX0_init_47 (by decide) ?_
  obtain ⟨h21, e22, f⟩ := ob f
  refine o_newI S (List.mem_cons_of_mem _ wT_3_21) I hAn (N := 25) e22 (by decide) (by decide) (Nat.le_of_ble_eq_true rfl) (Nat.le_of_ble_eq_true rfl) (Nat.le_of_ble_eq_true rfl) dX0_init_49 (fun H I => ?_)
  obtain ⟨h23, e24, f⟩ := ob f
  refine o_pRF S hin2 lp0_init_27 (Or.inr ⟨_, rfl⟩) I e24 dX0_init_51 (fun H locs I => ?_)
  refine lv_aload_n S.1 S.2.1 dX0_init_54 rfl (lv_at hl 0 rfl) ?_
  refine lv_bipush (v := 29) S.1 S.2.1 dX0_init_55 (by decide) ?_
  obtain ⟨h25, e26, f⟩ := ob f
  refine o_newI S (List.mem_cons_of_mem _ wT_3_21) I hAn (N := 29) e26 (by decide) (by decide) (Nat.le_of_ble_eq_true rfl) (Nat.le_of_ble_eq_true rfl) (Nat.le_of_ble_eq_true rfl) dX0_init_57 (fun H I => ?_)
  obtain ⟨h27, e28, f⟩ := ob f
  refine o_pRF S hin2 lp0_init_30 (Or.inr ⟨_, rfl⟩) I e28 dX0_init_59 (fun H locs I => ?_)
  refine lv_aload_n S.1 S.2.1 dX0_init_62 rfl (lv_at hl 0 rfl) ?_
  refine lv_bipush (v := 28) S.1 S.2.1 dX0_init_63 (by decide) ?_
  obtain ⟨h29, e30, f⟩ := ob f
  refine o_newI S (List.mem_cons_of_mem _ wT_3_21) I hAn (N := 28) e30 (by decide) (by decide) (Nat.le_of_ble_eq_true rfl) (Nat.le_of_ble_eq_true rfl) (Nat.le_of_ble_eq_true rfl) dX0_init_65 (fun H I => ?_)
  obtain ⟨h31, e32, f⟩ := ob f
  refine o_pRF S hin2 lp0_init_33 (Or.inr ⟨_, rfl⟩) I e32 dX0_init_67 (fun H locs I => ?_)
  refine lv_aload_n S.1 S.2.1 dX0_init_70 rfl (lv_at hl 0 rfl) ?_
  refine lv_bipush (v := 28) S.1 S.2.1 dX0_init_71 (by decide) ?_
  obtain ⟨h33, e34, f⟩ := ob f
  refine o_newZ S (List.mem_cons_of_mem _ wT_8_19) I hAn (N := 28) e34 (by decide) (by decide) (Nat.le_of_ble_eq_true rfl) (Nat.le_of_ble_eq_true rfl) (Nat.le_of_ble_eq_true rfl) dX0_init_73 (fun H I => ?_)
  obtain ⟨h35, e36, f⟩ := ob f
  refine o_pRF S hin2 lp0_init_36 (Or.inr ⟨_, rfl⟩) I e36 dX0_init_75 (fun H locs I => ?_)
  refine lv_aload_n S.1 S.2.1 dX0_init_78 rfl (lv_at hl 0 rfl) ?_
  refine lv_bipush (v := 28) S.1 S.2.1 dX0_init_79 (by decide) ?_
  obtain ⟨h37, e38, f⟩ := ob f
  refine o_newI S (List.mem_cons_of_mem _ wT_3_21) I hAn (N := 28) e38 (by decide) (by decide) (Nat.le_of_ble_eq_true rfl) (Nat.le_of_ble_eq_true rfl) (Nat.le_of_ble_eq_true rfl) dX0_init_81 (fun H I => ?_)
  obtain ⟨h39, e40, f⟩ := ob f
  refine o_pRF S hin2 lp0_init_40 (Or.inr ⟨_, rfl⟩) I e40 dX0_init_83 (fun H locs I => ?_)
  exact o_vret S hr hlo I f dX0_init_86
theorem M0_init (l : Launch) (D : va_G) (cy : Nat → ClassId) (b : Nat) (A : Nat → Prop) (hAn : ∀ q, b ≤ q → A q) {h : PH} {a0 : Nat} {out : PH} (f : F0_init h a0 = some out) : Met l yX0_init vX0_init ({ frames := 1, cells := 10, slots := 758, locals := 20 } : Room) (va_Pc [.ref (b + a0)] (ph_B D cy b A true h)) (va_Qv (fun (u : PH) => u = out) (ph_B D cy b A true) A) 10 758 A :=
  o_met (by decide) rfl (Nat.le_of_ble_eq_true rfl) rfl (fun p e s m below meth c S hr hlo hnm ls hl I => T0_init_0 S hr hlo hnm hAn ((gd f).2) I (lv_sub hl [0] rfl))
def vX11_init : List Cond := .code yX11_init cX11_init 1 none :: TB
theorem lp11_init_11 : PlF vX11_init RX11 11 11 0 (.array .byte) := ⟨RX11, TX11, 14, tyX11, rfl, by decide, (fun w h9 => List.mem_cons_of_mem _ (wC_wsX110 w h9)), (List.mem_cons_of_mem _ wT_1_14), tyX11_ok, nmX11, rfl, rfl, rfl⟩
theorem ln11_init_15 : Nl vX11_init RX11 15 8 14 zF8 := ⟨RX8, TX8, tyX8, rfl, (fun w h9 => List.mem_cons_of_mem _ (wC_wsX80 w h9)), tyX8_ok, (List.mem_cons_of_mem _ wT_1_15), (List.mem_cons_of_mem _ wT_1_16), (List.mem_cons_of_mem _ wT_1_17), zF8_ok⟩
theorem gX11_init_X8_init : GoodIn vX11_init vX8_init := gI_of wT_3_1
theorem lp11_init_18 : Pl vX11_init RX11 18 11 3 (.object "WhoseWave$Told") := ⟨RX11, TX11, 14, tyX11, rfl, by decide, (fun w h9 => List.mem_cons_of_mem _ (wC_wsX110 w h9)), (List.mem_cons_of_mem _ wT_1_18), tyX11_ok, nmX11, rfl, rfl⟩
theorem lp11_init_22 : Pl vX11_init RX11 22 11 4 (.object "WhoseWave$Told") := ⟨RX11, TX11, 14, tyX11, rfl, by decide, (fun w h9 => List.mem_cons_of_mem _ (wC_wsX110 w h9)), (List.mem_cons_of_mem _ wT_1_19), tyX11_ok, nmX11, rfl, rfl⟩
theorem ln11_init_25 : Nl vX11_init RX11 25 5 11 zF5 := ⟨RX5, TX5, tyX5, rfl, (fun w h9 => List.mem_cons_of_mem _ (wC_wsX50 w h9)), tyX5_ok, (List.mem_cons_of_mem _ wT_1_20), (List.mem_cons_of_mem _ wT_1_21), (List.mem_cons_of_mem _ wT_1_22), zF5_ok⟩
theorem lf11_init_22 : Fl vX11_init RX11 22 11 4 := ⟨RX11, TX11, 14, rfl, by decide, (fun w h9 => List.mem_cons_of_mem _ (wC_wsX110 w h9)), (List.mem_cons_of_mem _ wT_1_19)⟩
theorem gX11_init_X5_init : GoodIn vX11_init vX5_init := gI_of wT_4_21
theorem lp11_init_30 : PlF vX11_init RX11 30 11 2 (.object "WhoseWave$Reader") := ⟨RX11, TX11, 14, tyX11, rfl, by decide, (fun w h9 => List.mem_cons_of_mem _ (wC_wsX110 w h9)), (List.mem_cons_of_mem _ wT_1_23), tyX11_ok, nmX11, rfl, rfl, rfl⟩
theorem ln11_init_34 : Nl vX11_init RX11 34 6 9 zF6 := ⟨RX6, TX6, tyX6, rfl, (fun w h9 => List.mem_cons_of_mem _ (wC_wsX60 w h9)), tyX6_ok, (List.mem_cons_of_mem _ wT_2_0), (List.mem_cons_of_mem _ wT_2_1), (List.mem_cons_of_mem _ wT_2_2), zF6_ok⟩
theorem lf11_init_18 : Fl vX11_init RX11 18 11 3 := ⟨RX11, TX11, 14, rfl, by decide, (fun w h9 => List.mem_cons_of_mem _ (wC_wsX110 w h9)), (List.mem_cons_of_mem _ wT_1_18)⟩
theorem gX11_init_X6_init : GoodIn vX11_init vX6_init := gI_of wT_7_13
theorem lp11_init_37 : PlF vX11_init RX11 37 11 5 (.object "WhoseWave$Surf") := ⟨RX11, TX11, 14, tyX11, rfl, by decide, (fun w h9 => List.mem_cons_of_mem _ (wC_wsX110 w h9)), (List.mem_cons_of_mem _ wT_2_3), tyX11_ok, nmX11, rfl, rfl, rfl⟩
theorem lp11_init_41 : PlF vX11_init RX11 41 11 6 (.object "WhoseWave$Surf") := ⟨RX11, TX11, 14, tyX11, rfl, by decide, (fun w h9 => List.mem_cons_of_mem _ (wC_wsX110 w h9)), (List.mem_cons_of_mem _ wT_2_4), tyX11_ok, nmX11, rfl, rfl, rfl⟩
theorem ln11_init_44 : Nl vX11_init RX11 44 4 11 zF4 := ⟨RX4, TX4, tyX4, rfl, (fun w h9 => List.mem_cons_of_mem _ (wC_wsX40 w h9)), tyX4_ok, (List.mem_cons_of_mem _ wT_2_5), (List.mem_cons_of_mem _ wT_2_6), (List.mem_cons_of_mem _ wT_2_7), zF4_ok⟩
theorem gX11_init_X4_init : GoodIn vX11_init vX4_init := gI_of wT_8_2
theorem lp11_init_47 : PlF vX11_init RX11 47 11 7 (.object "WhoseWave$Now") := ⟨RX11, TX11, 14, tyX11, rfl, by decide, (fun w h9 => List.mem_cons_of_mem _ (wC_wsX110 w h9)), (List.mem_cons_of_mem _ wT_2_8), tyX11_ok, nmX11, rfl, rfl, rfl⟩
theorem lp11_init_51 : PlF vX11_init RX11 51 11 8 (.object "WhoseWave$Now") := ⟨RX11, TX11, 14, tyX11, rfl, by decide, (fun w h9 => List.mem_cons_of_mem _ (wC_wsX110 w h9)), (List.mem_cons_of_mem _ wT_2_9), tyX11_ok, nmX11, rfl, rfl, rfl⟩
theorem lp11_init_54 : PlF vX11_init RX11 54 11 9 (.object "WhoseWave$Now") := ⟨RX11, TX11, 14, tyX11, rfl, by decide, (fun w h9 => List.mem_cons_of_mem _ (wC_wsX110 w h9)), (List.mem_cons_of_mem _ wT_2_10), tyX11_ok, nmX11, rfl, rfl, rfl⟩
theorem ln11_init_57 : Nl vX11_init RX11 57 3 7 zF3 := ⟨RX3, TX3, tyX3, rfl, (fun w h9 => List.mem_cons_of_mem _ (wC_wsX30 w h9)), tyX3_ok, (List.mem_cons_of_mem _ wT_2_11), (List.mem_cons_of_mem _ wT_2_12), (List.mem_cons_of_mem _ wT_2_13), zF3_ok⟩
theorem gX11_init_X3_init : GoodIn vX11_init vX3_init := gI_of wT_8_12
theorem lp11_init_60 : PlF vX11_init RX11 60 11 11 (.object "WhoseWave$Notes") := ⟨RX11, TX11, 14, tyX11, rfl, by decide, (fun w h9 => List.mem_cons_of_mem _ (wC_wsX110 w h9)), (List.mem_cons_of_mem _ wT_2_14), tyX11_ok, nmX11, rfl, rfl, rfl⟩
theorem ln11_init_64 : Nl vX11_init RX11 64 9 3 zF9 := ⟨RX9, TX9, tyX9, rfl, (fun w h9 => List.mem_cons_of_mem _ (wC_wsX90 w h9)), tyX9_ok, (List.mem_cons_of_mem _ wT_2_15), (List.mem_cons_of_mem _ wT_2_16), (List.mem_cons_of_mem _ wT_2_17), zF9_ok⟩
theorem gX11_init_X9_init : GoodIn vX11_init vX9_init := gI_of wT_8_23
theorem lp11_init_67 : PlF vX11_init RX11 67 11 12 (.object "WhoseWave$Undos") := ⟨RX11, TX11, 14, tyX11, rfl, by decide, (fun w h9 => List.mem_cons_of_mem _ (wC_wsX110 w h9)), (List.mem_cons_of_mem _ wT_2_18), tyX11_ok, nmX11, rfl, rfl, rfl⟩
theorem ln11_init_71 : Nl vX11_init RX11 71 0 13 zF0 := ⟨RX0, TX0, tyX0, rfl, (fun w h9 => List.mem_cons_of_mem _ (wC_wsX00 w h9)), tyX0_ok, (List.mem_cons_of_mem _ wT_2_19), (List.mem_cons_of_mem _ wT_2_20), (List.mem_cons_of_mem _ wT_2_21), zF0_ok⟩
theorem gX11_init_X0_init : GoodIn vX11_init vX0_init := gI_of wT_9_5
theorem lp11_init_74 : PlF vX11_init RX11 74 11 13 (.object "WhoseWave$Choices") := ⟨RX11, TX11, 14, tyX11, rfl, by decide, (fun w h9 => List.mem_cons_of_mem _ (wC_wsX110 w h9)), (List.mem_cons_of_mem _ wT_2_22), tyX11_ok, nmX11, rfl, rfl, rfl⟩
theorem cd11_init : Cd yX11_init 0 := ⟨by decide, by decide, by decide +kernel⟩
set_option maxHeartbeats 4000000 in
set_option maxRecDepth 100000 in
theorem T11_init_0 (S : CallFix p m c cX11_init 1 s args vX11_init RX11) (hr : meth.sig.returnType = none) (hlo : meth.locks = false) (hin2 : meth.name = "<init>") (hAn : ∀ q, b ≤ q → A q) {out : PH} {h : PH} {a0 : Nat} (f : F11_init_0  h a0 = some out) {H : Heap} {locs : List Loc} (I : ph_I D cy b A true h s H locs) {ls : Array Slot} (hl : lv_has ls 1 [(0, .ref (b + a0))]) : W p l e ({ frames := 6, cells := 109, slots := 2977, locals := 144 } : Room) s m args below meth c H locs 0 0 (MQ below (va_Qv (fun (u : PH) => u = out) (ph_B D cy b A true) A) args s 109 2977 A) (F0 m 0 ls []) := by
  unfold F11_init_0 at f
  refine lv_aload_n S.1 S.2.1 dX11_init_0 rfl (lv_at hl 0 rfl) ?_
  refine o_objI S (List.mem_cons_of_mem _ wT_1_10) (List.mem_cons_of_mem _ wT_1_11) (List.mem_cons_of_mem _ wT_1_12) hl.1 dX11_init_1 (Nat.le_of_ble_eq_true rfl) (Nat.le_of_ble_eq_true rfl) ?_
  refine lv_aload_n S.1 S.2.1 dX11_init_4 rfl (lv_at hl 0 rfl) ?_
  refine lv_sipush (v := 700) S.1 S.2.1 dX11_init_5 (by decide) ?_
  obtain ⟨h1, e2, f⟩ := ob f
  refine o_newB S (List.mem_cons_of_mem _ wT_1_13) I hAn (N := 700) e2 (by decide) (by decide) (Nat.le_of_ble_eq_true rfl) (Nat.le_of_ble_eq_true rfl) (Nat.le_of_ble_eq_true rfl) dX11_init_8 (fun H I => ?_)
  obtain ⟨h3, e4, f⟩ := ob f
  refine o_pRF S hin2 lp11_init_11 (Or.inr ⟨_, rfl⟩) I e4 dX11_init_10 (fun H locs I => ?_)
  refine lv_aload_n S.1 S.2.1 dX11_init_13 rfl (lv_at hl 0 rfl) ?_
  obtain ⟨h5, e6, f⟩ := ob f
  refine o_new S ln11_init_15 I hAn e6 (Nat.le_of_ble_eq_true rfl) (Nat.le_of_ble_eq_true rfl) dX11_init_14 (fun H I => ?_)
  refine lv_dup S.1 S.2.1 dX11_init_17 rfl ?_
  obtain ⟨o7, e8, f⟩ := ob f
  refine o_Iv S (As := []) (rest := [.ref (b + h3.length), .ref (b + a0)]) (M8_init l D cy b A hAn e8) gX11_init_X8_init ⟨(List.mem_cons_of_mem _ wT_1_17), (List.mem_cons_of_mem _ wT_2_23), (List.mem_cons_of_mem _ wT_3_0)⟩ rfl rfl rfl rfl cd8_init ⟨Nat.le_of_ble_eq_true rfl, Nat.le_of_ble_eq_true rfl⟩ I rfl hl.1 rfl (Nat.le_of_ble_eq_true rfl) dX11_init_18 ⟨Nat.le_of_ble_eq_true rfl, Nat.le_of_ble_eq_true rfl⟩ (fun H locs I => ?_)
  obtain ⟨h9, e10, f⟩ := ob f
  refine o_pR S lp11_init_18 (Or.inl ⟨_, rfl⟩) I e10 dX11_init_21 (fun H locs I => ?_)
  refine lv_aload_n S.1 S.2.1 dX11_init_24 rfl (lv_at hl 0 rfl) ?_
  obtain ⟨h11, e12, f⟩ := ob f
  refine o_new S ln11_init_15 I hAn e12 (Nat.le_of_ble_eq_true rfl) (Nat.le_of_ble_eq_true rfl) dX11_init_25 (fun H I => ?_)
  refine lv_dup S.1 S.2.1 dX11_init_28 rfl ?_
  obtain ⟨o13, e14, f⟩ := ob f
  refine o_Iv S (As := []) (rest := [.ref (b + h9.length), .ref (b + a0)]) (M8_init l D cy b A hAn e14) gX11_init_X8_init ⟨(List.mem_cons_of_mem _ wT_1_17), (List.mem_cons_of_mem _ wT_2_23), (List.mem_cons_of_mem _ wT_3_0)⟩ rfl rfl rfl rfl cd8_init ⟨Nat.le_of_ble_eq_true rfl, Nat.le_of_ble_eq_true rfl⟩ I rfl hl.1 rfl (Nat.le_of_ble_eq_true rfl) dX11_init_29 ⟨Nat.le_of_ble_eq_true rfl, Nat.le_of_ble_eq_true rfl⟩ (fun H locs I => ?_)
  obtain ⟨h15, e16, f⟩ := ob f
  refine o_pR S lp11_init_22 (Or.inl ⟨_, rfl⟩) I e16 dX11_init_32 (fun H locs I => ?_)
  refine lv_aload_n S.1 S.2.1 dX11_init_35 rfl (lv_at hl 0 rfl) ?_
  obtain ⟨h17, e18, f⟩ := ob f
  refine o_new S ln11_init_25 I hAn e18 (Nat.le_of_ble_eq_true rfl) (Nat.le_of_ble_eq_true rfl) dX11_init_36 (fun H I => ?_)
  refine lv_dup S.1 S.2.1 dX11_init_39 rfl ?_
  refine lv_aload_n S.1 S.2.1 dX11_init_40 rfl (lv_at hl 0 rfl) ?_
  obtain ⟨r19, e20, f⟩ := ob f
  refine o_gR S lf11_init_22 I e20 dX11_init_41 ?_
  obtain ⟨o21, e22, f⟩ := ob f
  refine o_Iv S (As := [.ref (b + r19)]) (rest := [.ref (b + h15.length), .ref (b + a0)]) (M5_init l D cy b A hAn e22) gX11_init_X5_init ⟨(List.mem_cons_of_mem _ wT_1_22), (List.mem_cons_of_mem _ wT_4_19), (List.mem_cons_of_mem _ wT_4_20)⟩ rfl rfl rfl rfl cd5_init ⟨Nat.le_of_ble_eq_true rfl, Nat.le_of_ble_eq_true rfl⟩ I rfl hl.1 rfl (Nat.le_of_ble_eq_true rfl) dX11_init_44 ⟨Nat.le_of_ble_eq_true rfl, Nat.le_of_ble_eq_true rfl⟩ (fun H locs I => ?_)
  obtain ⟨h23, e24, f⟩ := ob f
  refine o_pRF S hin2 lp11_init_30 (Or.inl ⟨_, rfl⟩) I e24 dX11_init_47 (fun H locs I => ?_)
  refine lv_aload_n S.1 S.2.1 dX11_init_50 rfl (lv_at hl 0 rfl) ?_
  obtain ⟨h25, e26, f⟩ := ob f
  refine o_new S ln11_init_34 I hAn e26 (Nat.le_of_ble_eq_true rfl) (Nat.le_of_ble_eq_true rfl) dX11_init_51 (fun H I => ?_)
  refine lv_dup S.1 S.2.1 dX11_init_54 rfl ?_
  refine lv_aload_n S.1 S.2.1 dX11_init_55 rfl (lv_at hl 0 rfl) ?_
  obtain ⟨r27, e28, f⟩ := ob f
  refine o_gR S lf11_init_18 I e28 dX11_init_56 ?_
  obtain ⟨o29, e30, f⟩ := ob f
  refine o_Iv S (As := [.ref (b + r27)]) (rest := [.ref (b + h23.length), .ref (b + a0)]) (M6_init l D cy b A hAn e30) gX11_init_X6_init ⟨(List.mem_cons_of_mem _ wT_2_2), (List.mem_cons_of_mem _ wT_7_11), (List.mem_cons_of_mem _ wT_7_12)⟩ rfl rfl rfl rfl cd6_init ⟨Nat.le_of_ble_eq_true rfl, Nat.le_of_ble_eq_true rfl⟩ I rfl hl.1 rfl (Nat.le_of_ble_eq_true rfl) dX11_init_59 ⟨Nat.le_of_ble_eq_true rfl, Nat.le_of_ble_eq_true rfl⟩ (fun H locs I => ?_)
  obtain ⟨h31, e32, f⟩ := ob f
  refine o_pRF S hin2 lp11_init_37 (Or.inl ⟨_, rfl⟩) I e32 dX11_init_62 (fun H locs I => ?_)
  refine lv_aload_n S.1 S.2.1 dX11_init_65 rfl (lv_at hl 0 rfl) ?_
  obtain ⟨h33, e34, f⟩ := ob f
  refine o_new S ln11_init_34 I hAn e34 (Nat.le_of_ble_eq_true rfl) (Nat.le_of_ble_eq_true rfl) dX11_init_66 (fun H I => ?_)
  refine lv_dup S.1 S.2.1 dX11_init_69 rfl ?_
  refine lv_aload_n S.1 S.2.1 dX11_init_70 rfl (lv_at hl 0 rfl) ?_
  obtain ⟨r35, e36, f⟩ := ob f
  refine o_gR S lf11_init_18 I e36 dX11_init_71 ?_
  obtain ⟨o37, e38, f⟩ := ob f
  refine o_Iv S (As := [.ref (b + r35)]) (rest := [.ref (b + h31.length), .ref (b + a0)]) (M6_init l D cy b A hAn e38) gX11_init_X6_init ⟨(List.mem_cons_of_mem _ wT_2_2), (List.mem_cons_of_mem _ wT_7_11), (List.mem_cons_of_mem _ wT_7_12)⟩ rfl rfl rfl rfl cd6_init ⟨Nat.le_of_ble_eq_true rfl, Nat.le_of_ble_eq_true rfl⟩ I rfl hl.1 rfl (Nat.le_of_ble_eq_true rfl) dX11_init_74 ⟨Nat.le_of_ble_eq_true rfl, Nat.le_of_ble_eq_true rfl⟩ (fun H locs I => ?_)
  obtain ⟨h39, e40, f⟩ := ob f
  refine o_pRF S hin2 lp11_init_41 (Or.inl ⟨_, rfl⟩) I e40 dX11_init_77 (fun H locs I => ?_)
  refine lv_aload_n S.1 S.2.1 dX11_init_80 rfl (lv_at hl 0 rfl) ?_
  obtain ⟨h41, e42, f⟩ := ob f
  refine o_new S ln11_init_44 I hAn e42 (Nat.le_of_ble_eq_true rfl) (Nat.le_of_ble_eq_true rfl) dX11_init_81 (fun H I => ?_)
  refine lv_dup S.1 S.2.1 dX11_init_84 rfl ?_
  obtain ⟨o43, e44, f⟩ := ob f
  refine o_Iv S (As := []) (rest := [.ref (b + h39.length), .ref (b + a0)]) (M4_init l D cy b A hAn e44) gX11_init_X4_init ⟨(List.mem_cons_of_mem _ wT_2_7), (List.mem_cons_of_mem _ wT_8_0), (List.mem_cons_of_mem _ wT_8_1)⟩ rfl rfl rfl rfl cd4_init ⟨Nat.le_of_ble_eq_true rfl, Nat.le_of_ble_eq_true rfl⟩ I rfl hl.1 rfl (Nat.le_of_ble_eq_true rfl) dX11_init_85 ⟨Nat.le_of_ble_eq_true rfl, Nat.le_of_ble_eq_true rfl⟩ (fun H locs I => ?_)
  obtain ⟨h45, e46, f⟩ := ob f
  refine o_pRF S hin2 lp11_init_47 (Or.inl ⟨_, rfl⟩) I e46 dX11_init_88 (fun H locs I => ?_)
  refine lv_aload_n S.1 S.2.1 dX11_init_91 rfl (lv_at hl 0 rfl) ?_
  obtain ⟨h47, e48, f⟩ := ob f
  refine o_new S ln11_init_44 I hAn e48 (Nat.le_of_ble_eq_true rfl) (Nat.le_of_ble_eq_true rfl) dX11_init_92 (fun H I => ?_)
  refine lv_dup S.1 S.2.1 dX11_init_95 rfl ?_
  obtain ⟨o49, e50, f⟩ := ob f
  refine o_Iv S (As := []) (rest := [.ref (b + h45.length), .ref (b + a0)]) (M4_init l D cy b A hAn e50) gX11_init_X4_init ⟨(List.mem_cons_of_mem _ wT_2_7), (List.mem_cons_of_mem _ wT_8_0), (List.mem_cons_of_mem _ wT_8_1)⟩ rfl rfl rfl rfl cd4_init ⟨Nat.le_of_ble_eq_true rfl, Nat.le_of_ble_eq_true rfl⟩ I rfl hl.1 rfl (Nat.le_of_ble_eq_true rfl) dX11_init_96 ⟨Nat.le_of_ble_eq_true rfl, Nat.le_of_ble_eq_true rfl⟩ (fun H locs I => ?_)
  obtain ⟨h51, e52, f⟩ := ob f
  refine o_pRF S hin2 lp11_init_51 (Or.inl ⟨_, rfl⟩) I e52 dX11_init_99 (fun H locs I => ?_)
  refine lv_aload_n S.1 S.2.1 dX11_init_102 rfl (lv_at hl 0 rfl) ?_
  obtain ⟨h53, e54, f⟩ := ob f
  refine o_new S ln11_init_44 I hAn e54 (Nat.le_of_ble_eq_true rfl) (Nat.le_of_ble_eq_true rfl) dX11_init_103 (fun H I => ?_)
  refine lv_dup S.1 S.2.1 dX11_init_106 rfl ?_
  obtain ⟨o55, e56, f⟩ := ob f
  refine o_Iv S (As := []) (rest := [.ref (b + h51.length), .ref (b + a0)]) (M4_init l D cy b A hAn e56) gX11_init_X4_init ⟨(List.mem_cons_of_mem _ wT_2_7), (List.mem_cons_of_mem _ wT_8_0), (List.mem_cons_of_mem _ wT_8_1)⟩ rfl rfl rfl rfl cd4_init ⟨Nat.le_of_ble_eq_true rfl, Nat.le_of_ble_eq_true rfl⟩ I rfl hl.1 rfl (Nat.le_of_ble_eq_true rfl) dX11_init_107 ⟨Nat.le_of_ble_eq_true rfl, Nat.le_of_ble_eq_true rfl⟩ (fun H locs I => ?_)
  obtain ⟨h57, e58, f⟩ := ob f
  refine o_pRF S hin2 lp11_init_54 (Or.inl ⟨_, rfl⟩) I e58 dX11_init_110 (fun H locs I => ?_)
  refine lv_aload_n S.1 S.2.1 dX11_init_113 rfl (lv_at hl 0 rfl) ?_
  obtain ⟨h59, e60, f⟩ := ob f
  refine o_new S ln11_init_57 I hAn e60 (Nat.le_of_ble_eq_true rfl) (Nat.le_of_ble_eq_true rfl) dX11_init_114 (fun H I => ?_)
  refine lv_dup S.1 S.2.1 dX11_init_117 rfl ?_
  obtain ⟨o61, e62, f⟩ := ob f
  refine o_Iv S (As := []) (rest := [.ref (b + h57.length), .ref (b + a0)]) (M3_init l D cy b A hAn e62) gX11_init_X3_init ⟨(List.mem_cons_of_mem _ wT_2_13), (List.mem_cons_of_mem _ wT_8_10), (List.mem_cons_of_mem _ wT_8_11)⟩ rfl rfl rfl rfl cd3_init ⟨Nat.le_of_ble_eq_true rfl, Nat.le_of_ble_eq_true rfl⟩ I rfl hl.1 rfl (Nat.le_of_ble_eq_true rfl) dX11_init_118 ⟨Nat.le_of_ble_eq_true rfl, Nat.le_of_ble_eq_true rfl⟩ (fun H locs I => ?_)
  obtain ⟨h63, e64, f⟩ := ob f
  refine o_pRF S hin2 lp11_init_60 (Or.inl ⟨_, rfl⟩) I e64 dX11_init_121 (fun H locs I => ?_)
  refine lv_aload_n S.1 S.2.1 dX11_init_124 rfl (lv_at hl 0 rfl) ?_
  obtain ⟨h65, e66, f⟩ := ob f
  refine o_new S ln11_init_64 I hAn e66 (Nat.le_of_ble_eq_true rfl) (Nat.le_of_ble_eq_true rfl) dX11_init_125 (fun H I => ?_)
  refine lv_dup S.1 S.2.1 dX11_init_128 rfl ?_
  obtain ⟨o67, e68, f⟩ := ob f
  refine o_Iv S (As := []) (rest := [.ref (b + h63.length), .ref (b + a0)]) (M9_init l D cy b A hAn e68) gX11_init_X9_init ⟨(List.mem_cons_of_mem _ wT_2_17), (List.mem_cons_of_mem _ wT_8_21), (List.mem_cons_of_mem _ wT_8_22)⟩ rfl rfl rfl rfl cd9_init ⟨Nat.le_of_ble_eq_true rfl, Nat.le_of_ble_eq_true rfl⟩ I rfl hl.1 rfl (Nat.le_of_ble_eq_true rfl) dX11_init_129 ⟨Nat.le_of_ble_eq_true rfl, Nat.le_of_ble_eq_true rfl⟩ (fun H locs I => ?_)
  obtain ⟨h69, e70, f⟩ := ob f
  refine o_pRF S hin2 lp11_init_67 (Or.inl ⟨_, rfl⟩) I e70 dX11_init_132 (fun H locs I => ?_)
  refine lv_aload_n S.1 S.2.1 dX11_init_135 rfl (lv_at hl 0 rfl) ?_
  obtain ⟨h71, e72, f⟩ := ob f
  refine o_new S ln11_init_71 I hAn e72 (Nat.le_of_ble_eq_true rfl) (Nat.le_of_ble_eq_true rfl) dX11_init_136 (fun H I => ?_)
  refine lv_dup S.1 S.2.1 dX11_init_139 rfl ?_
  obtain ⟨o73, e74, f⟩ := ob f
  refine o_Iv S (As := []) (rest := [.ref (b + h69.length), .ref (b + a0)]) (M0_init l D cy b A hAn e74) gX11_init_X0_init ⟨(List.mem_cons_of_mem _ wT_2_21), (List.mem_cons_of_mem _ wT_9_3), (List.mem_cons_of_mem _ wT_9_4)⟩ rfl rfl rfl rfl cd0_init ⟨Nat.le_of_ble_eq_true rfl, Nat.le_of_ble_eq_true rfl⟩ I rfl hl.1 rfl (Nat.le_of_ble_eq_true rfl) dX11_init_140 ⟨Nat.le_of_ble_eq_true rfl, Nat.le_of_ble_eq_true rfl⟩ (fun H locs I => ?_)
  obtain ⟨h75, e76, f⟩ := ob f
  refine o_pRF S hin2 lp11_init_74 (Or.inl ⟨_, rfl⟩) I e76 dX11_init_143 (fun H locs I => ?_)
  exact o_vret S hr hlo I f dX11_init_146
theorem M11_init (l : Launch) (D : va_G) (cy : Nat → ClassId) (b : Nat) (A : Nat → Prop) (hAn : ∀ q, b ≤ q → A q) {h : PH} {a0 : Nat} {out : PH} (f : F11_init h a0 = some out) : Met l yX11_init vX11_init ({ frames := 6, cells := 109, slots := 2977, locals := 144 } : Room) (va_Pc [.ref (b + a0)] (ph_B D cy b A true h)) (va_Qv (fun (u : PH) => u = out) (ph_B D cy b A true) A) 109 2977 A :=
  o_met (by decide) rfl (Nat.le_of_ble_eq_true rfl) rfl (fun p e s m below meth c S hr hlo hnm ls hl I => T11_init_0 S hr hlo hnm hAn ((gd f).2) I (lv_sub hl [0] rfl))
end
