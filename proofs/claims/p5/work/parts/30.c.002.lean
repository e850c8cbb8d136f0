section
variable {p : Program} {l : Launch} {e : Env} {s : State} {m : MethodId} {args : Array Value} {below : List Frame} {meth : Method} {c : Code} {D : va_G} {cy : Nat → ClassId} {b : Nat} {A : Nat → Prop} {fl : Bool}
def vX3_init : List Cond := .code yX3_init cX3_init 1 none :: TB
theorem lp3_init_9 : Pl vX3_init RX3 9 3 1 .int := ⟨RX3, TX3, 7, tyX3, rfl, by decide, (fun w h9 => List.mem_cons_of_mem _ (wC_wsX30 w h9)), (List.mem_cons_of_mem _ wT_8_14), tyX3_ok, nmX3, rfl, rfl⟩
theorem lp3_init_15 : PlF vX3_init RX3 15 3 2 (.array .int) := ⟨RX3, TX3, 7, tyX3, rfl, by decide, (fun w h9 => List.mem_cons_of_mem _ (wC_wsX30 w h9)), (List.mem_cons_of_mem _ wT_8_15), tyX3_ok, nmX3, rfl, rfl, rfl⟩
theorem lp3_init_19 : PlF vX3_init RX3 19 3 3 (.array .int) := ⟨RX3, TX3, 7, tyX3, rfl, by decide, (fun w h9 => List.mem_cons_of_mem _ (wC_wsX30 w h9)), (List.mem_cons_of_mem _ wT_8_16), tyX3_ok, nmX3, rfl, rfl, rfl⟩
theorem lp3_init_22 : PlF vX3_init RX3 22 3 4 (.array .int) := ⟨RX3, TX3, 7, tyX3, rfl, by decide, (fun w h9 => List.mem_cons_of_mem _ (wC_wsX30 w h9)), (List.mem_cons_of_mem _ wT_8_17), tyX3_ok, nmX3, rfl, rfl, rfl⟩
theorem lp3_init_25 : PlF vX3_init RX3 25 3 5 (.array .int) := ⟨RX3, TX3, 7, tyX3, rfl, by decide, (fun w h9 => List.mem_cons_of_mem _ (wC_wsX30 w h9)), (List.mem_cons_of_mem _ wT_8_18), tyX3_ok, nmX3, rfl, rfl, rfl⟩
theorem lp3_init_28 : PlF vX3_init RX3 28 3 6 (.array .boolean) := ⟨RX3, TX3, 7, tyX3, rfl, by decide, (fun w h9 => List.mem_cons_of_mem _ (wC_wsX30 w h9)), (List.mem_cons_of_mem _ wT_8_20), tyX3_ok, nmX3, rfl, rfl, rfl⟩
theorem cd3_init : Cd yX3_init 0 := ⟨by decide, by decide, by decide +kernel⟩
set_option maxHeartbeats 4000000 in
set_option maxRecDepth 100000 in
theorem T3_init_0 (S : CallFix p m c cX3_init 1 s args vX3_init RX3) (hr : meth.sig.returnType = none) (hlo : meth.locks = false) (hin2 : meth.name = "<init>") (hAn : ∀ q, b ≤ q → A q) {out : PH} {h : PH} {a0 : Nat} (f : F3_init_0  h a0 = some out) {H : Heap} {locs : List Loc} (I : ph_I D cy b A true h s H locs) {ls : Array Slot} (hl : lv_has ls 1 [(0, .ref (b + a0))]) : W p l e ({ frames := 1, cells := 5, slots := 120, locals := 20 } : Room) s m args below meth c H locs 0 0 (MQ below (va_Qv (fun (u : PH) => u = out) (ph_B D cy b A true) A) args s 5 120 A) (F0 m 0 ls []) := by
  unfold F3_init_0 at f
  refine lv_aload_n S.1 S.2.1 dX3_init_0 rfl (lv_at hl 0 rfl) ?_
  refine o_objI S (List.mem_cons_of_mem _ wT_8_13) (List.mem_cons_of_mem _ wT_1_11) (List.mem_cons_of_mem _ wT_1_12) hl.1 dX3_init_1 (Nat.le_of_ble_eq_true rfl) (Nat.le_of_ble_eq_true rfl) ?_
  refine lv_aload_n S.1 S.2.1 dX3_init_4 rfl (lv_at hl 0 rfl) ?_
  refine lv_iconst (v := (-1)) S.1 S.2.1 dX3_init_5 (by decide) ?_
  obtain ⟨h1, e2, f⟩ := ob f
  refine o_pI S lp3_init_9 I e2 dX3_init_6 (fun H locs I => ?_)
  refine lv_aload_n S.1 S.2.1 dX3_init_9 rfl (lv_at hl 0 rfl) ?_
  refine lv_bipush (v := 24) S.1 S.2.1 dX3_init_10 (by decide) ?_
  obtain ⟨h3, e4, f⟩ := ob f
  refine o_newI S (List.mem_cons_of_mem _ wT_3_21) I hAn (N := 24) e4 (by decide) (by decide) (Nat.le_of_ble_eq_true rfl) (Nat.le_of_ble_eq_true rfl) (Nat.le_of_ble_eq_true rfl) dX3_init_12 (fun H I => ?_)
  obtain ⟨h5, e6, f⟩ := ob f
  refine o_pRF S hin2 lp3_init_15 (Or.inr ⟨_, rfl⟩) I e6 dX3_init_14 (fun H locs I => ?_)
  refine lv_aload_n S.1 S.2.1 dX3_init_17 rfl (lv_at hl 0 rfl) ?_
  refine lv_bipush (v := 24) S.1 S.2.1 dX3_init_18 (by decide) ?_
  obtain ⟨h7, e8, f⟩ := ob f
  refine o_newI S (List.mem_cons_of_mem _ wT_3_21) I hAn (N := 24) e8 (by decide) (by decide) (Nat.le_of_ble_eq_true rfl) (Nat.le_of_ble_eq_true rfl) (Nat.le_of_ble_eq_true rfl) dX3_init_20 (fun H I => ?_)
  obtain ⟨h9, e10, f⟩ := ob f
  refine o_pRF S hin2 lp3_init_19 (Or.inr ⟨_, rfl⟩) I e10 dX3_init_22 (fun H locs I => ?_)
  refine lv_aload_n S.1 S.2.1 dX3_init_25 rfl (lv_at hl 0 rfl) ?_
  refine lv_bipush (v := 24) S.1 S.2.1 dX3_init_26 (by decide) ?_
  obtain ⟨h11, e12, f⟩ := ob f
  refine o_newI S (List.mem_cons_of_mem _ wT_3_21) I hAn (N := 24) e12 (by decide) (by decide) (Nat.le_of_ble_eq_true rfl) (Nat.le_of_ble_eq_true rfl) (Nat.le_of_ble_eq_true rfl) dX3_init_28 (fun H I => ?_)
  obtain ⟨h13, e14, f⟩ := ob f
  refine o_pRF S hin2 lp3_init_22 (Or.inr ⟨_, rfl⟩) I e14 dX3_init_30 (fun H locs I => ?_)
  refine lv_aload_n S.1 S.2.1 dX3_init_33 rfl (lv_at hl 0 rfl) ?_
  refine lv_bipush (v := 24) S.1 S.2.1 dX3_init_34 (by decide) ?_
  obtain ⟨h15, e16, f⟩ := ob f
  refine o_newI S (List.mem_cons_of_mem _ wT_3_21) I hAn (N := 24) e16 (by decide) (by decide) (Nat.le_of_ble_eq_true rfl) (Nat.le_of_ble_eq_true rfl) (Nat.le_of_ble_eq_true rfl) dX3_init_36 (fun H I => ?_)
  obtain ⟨h17, e18, f⟩ := ob f
  refine o_pRF S hin2 lp3_init_25 (Or.inr ⟨_, rfl⟩) I e18 dX3_init_38 (fun H locs I => ?_)
  refine lv_aload_n S.1 S.2.1 dX3_init_41 rfl (lv_at hl 0 rfl) ?_
  refine lv_bipush (v := 24) S.1 S.2.1 dX3_init_42 (by decide) ?_
  obtain ⟨h19, e20, f⟩ := ob f
  refine o_newZ S (List.mem_cons_of_mem _ wT_8_19) I hAn (N := 24) e20 (by decide) (by decide) (Nat.le_of_ble_eq_true rfl) (Nat.le_of_ble_eq_true rfl) (Nat.le_of_ble_eq_true rfl) dX3_init_44 (fun H I => ?_)
  obtain ⟨h21, e22, f⟩ := ob f
  refine o_pRF S hin2 lp3_init_28 (Or.inr ⟨_, rfl⟩) I e22 dX3_init_46 (fun H locs I => ?_)
  exact o_vret S hr hlo I f dX3_init_49
theorem M3_init (l : Launch) (D : va_G) (cy : Nat → ClassId) (b : Nat) (A : Nat → Prop) (hAn : ∀ q, b ≤ q → A q) {h : PH} {a0 : Nat} {out : PH} (f : F3_init h a0 = some out) : Met l yX3_init vX3_init ({ frames := 1, cells := 5, slots := 120, locals := 20 } : Room) (va_Pc [.ref (b + a0)] (ph_B D cy b A true h)) (va_Qv (fun (u : PH) => u = out) (ph_B D cy b A true) A) 5 120 A :=
  o_met (by decide) rfl (Nat.le_of_ble_eq_true rfl) rfl (fun p e s m below meth c S hr hlo hnm ls hl I => T3_init_0 S hr hlo hnm hAn ((gd f).2) I (lv_sub hl [0] rfl))
def vX4_init : List Cond := .code yX4_init cX4_init 1 none :: TB
theorem lp4_init_9 : PlF vX4_init RX4 9 4 5 (.array .int) := ⟨RX4, TX4, 11, tyX4, rfl, by decide, (fun w h9 => List.mem_cons_of_mem _ (wC_wsX40 w h9)), (List.mem_cons_of_mem _ wT_8_4), tyX4_ok, nmX4, rfl, rfl, rfl⟩
theorem lp4_init_15 : PlF vX4_init RX4 15 4 6 (.array .int) := ⟨RX4, TX4, 11, tyX4, rfl, by decide, (fun w h9 => List.mem_cons_of_mem _ (wC_wsX40 w h9)), (List.mem_cons_of_mem _ wT_8_5), tyX4_ok, nmX4, rfl, rfl, rfl⟩
theorem lp4_init_18 : PlF vX4_init RX4 18 4 7 (.array .int) := ⟨RX4, TX4, 11, tyX4, rfl, by decide, (fun w h9 => List.mem_cons_of_mem _ (wC_wsX40 w h9)), (List.mem_cons_of_mem _ wT_8_6), tyX4_ok, nmX4, rfl, rfl, rfl⟩
theorem lp4_init_21 : PlF vX4_init RX4 21 4 8 (.array .int) := ⟨RX4, TX4, 11, tyX4, rfl, by decide, (fun w h9 => List.mem_cons_of_mem _ (wC_wsX40 w h9)), (List.mem_cons_of_mem _ wT_8_7), tyX4_ok, nmX4, rfl, rfl, rfl⟩
theorem lp4_init_24 : PlF vX4_init RX4 24 4 9 (.array .int) := ⟨RX4, TX4, 11, tyX4, rfl, by decide, (fun w h9 => List.mem_cons_of_mem _ (wC_wsX40 w h9)), (List.mem_cons_of_mem _ wT_8_8), tyX4_ok, nmX4, rfl, rfl, rfl⟩
theorem lp4_init_27 : PlF vX4_init RX4 27 4 10 (.array .int) := ⟨RX4, TX4, 11, tyX4, rfl, by decide, (fun w h9 => List.mem_cons_of_mem _ (wC_wsX40 w h9)), (List.mem_cons_of_mem _ wT_8_9), tyX4_ok, nmX4, rfl, rfl, rfl⟩
theorem cd4_init : Cd yX4_init 0 := ⟨by decide, by decide, by decide +kernel⟩
set_option maxHeartbeats 4000000 in
set_option maxRecDepth 100000 in
theorem T4_init_0 (S : CallFix p m c cX4_init 1 s args vX4_init RX4) (hr : meth.sig.returnType = none) (hlo : meth.locks = false) (hin2 : meth.name = "<init>") (hAn : ∀ q, b ≤ q → A q) {out : PH} {h : PH} {a0 : Nat} (f : F4_init_0  h a0 = some out) {H : Heap} {locs : List Loc} (I : ph_I D cy b A true h s H locs) {ls : Array Slot} (hl : lv_has ls 1 [(0, .ref (b + a0))]) : W p l e ({ frames := 1, cells := 6, slots := 53, locals := 20 } : Room) s m args below meth c H locs 0 0 (MQ below (va_Qv (fun (u : PH) => u = out) (ph_B D cy b A true) A) args s 6 53 A) (F0 m 0 ls []) := by
  unfold F4_init_0 at f
  refine lv_aload_n S.1 S.2.1 dX4_init_0 rfl (lv_at hl 0 rfl) ?_
  refine o_objI S (List.mem_cons_of_mem _ wT_8_3) (List.mem_cons_of_mem _ wT_1_11) (List.mem_cons_of_mem _ wT_1_12) hl.1 dX4_init_1 (Nat.le_of_ble_eq_true rfl) (Nat.le_of_ble_eq_true rfl) ?_
  refine lv_aload_n S.1 S.2.1 dX4_init_4 rfl (lv_at hl 0 rfl) ?_
  refine lv_iconst (v := 5) S.1 S.2.1 dX4_init_5 (by decide) ?_
  obtain ⟨h1, e2, f⟩ := ob f
  refine o_newI S (List.mem_cons_of_mem _ wT_3_21) I hAn (N := 5) e2 (by decide) (by decide) (Nat.le_of_ble_eq_true rfl) (Nat.le_of_ble_eq_true rfl) (Nat.le_of_ble_eq_true rfl) dX4_init_6 (fun H I => ?_)
  obtain ⟨h3, e4, f⟩ := ob f
  refine o_pRF S hin2 lp4_init_9 (Or.inr ⟨_, rfl⟩) I e4 dX4_init_8 (fun H locs I => ?_)
  refine lv_aload_n S.1 S.2.1 dX4_init_11 rfl (lv_at hl 0 rfl) ?_
  refine lv_iconst (v := 5) S.1 S.2.1 dX4_init_12 (by decide) ?_
  obtain ⟨h5, e6, f⟩ := ob f
  refine o_newI S (List.mem_cons_of_mem _ wT_3_21) I hAn (N := 5) e6 (by decide) (by decide) (Nat.le_of_ble_eq_true rfl) (Nat.le_of_ble_eq_true rfl) (Nat.le_of_ble_eq_true rfl) dX4_init_13 (fun H I => ?_)
  obtain ⟨h7, e8, f⟩ := ob f
  refine o_pRF S hin2 lp4_init_15 (Or.inr ⟨_, rfl⟩) I e8 dX4_init_15 (fun H locs I => ?_)
  refine lv_aload_n S.1 S.2.1 dX4_init_18 rfl (lv_at hl 0 rfl) ?_
  refine lv_iconst (v := 5) S.1 S.2.1 dX4_init_19 (by decide) ?_
  obtain ⟨h9, e10, f⟩ := ob f
  refine o_newI S (List.mem_cons_of_mem _ wT_3_21) I hAn (N := 5) e10 (by decide) (by decide) (Nat.le_of_ble_eq_true rfl) (Nat.le_of_ble_eq_true rfl) (Nat.le_of_ble_eq_true rfl) dX4_init_20 (fun H I => ?_)
  obtain ⟨h11, e12, f⟩ := ob f
  refine o_pRF S hin2 lp4_init_18 (Or.inr ⟨_, rfl⟩) I e12 dX4_init_22 (fun H locs I => ?_)
  refine lv_aload_n S.1 S.2.1 dX4_init_25 rfl (lv_at hl 0 rfl) ?_
  refine lv_iconst (v := 5) S.1 S.2.1 dX4_init_26 (by decide) ?_
  obtain ⟨h13, e14, f⟩ := ob f
  refine o_newI S (List.mem_cons_of_mem _ wT_3_21) I hAn (N := 5) e14 (by decide) (by decide) (Nat.le_of_ble_eq_true rfl) (Nat.le_of_ble_eq_true rfl) (Nat.le_of_ble_eq_true rfl) dX4_init_27 (fun H I => ?_)
  obtain ⟨h15, e16, f⟩ := ob f
  refine o_pRF S hin2 lp4_init_21 (Or.inr ⟨_, rfl⟩) I e16 dX4_init_29 (fun H locs I => ?_)
  refine lv_aload_n S.1 S.2.1 dX4_init_32 rfl (lv_at hl 0 rfl) ?_
  refine lv_iconst (v := 5) S.1 S.2.1 dX4_init_33 (by decide) ?_
  obtain ⟨h17, e18, f⟩ := ob f
  refine o_newI S (List.mem_cons_of_mem _ wT_3_21) I hAn (N := 5) e18 (by decide) (by decide) (Nat.le_of_ble_eq_true rfl) (Nat.le_of_ble_eq_true rfl) (Nat.le_of_ble_eq_true rfl) dX4_init_34 (fun H I => ?_)
  obtain ⟨h19, e20, f⟩ := ob f
  refine o_pRF S hin2 lp4_init_24 (Or.inr ⟨_, rfl⟩) I e20 dX4_init_36 (fun H locs I => ?_)
  refine lv_aload_n S.1 S.2.1 dX4_init_39 rfl (lv_at hl 0 rfl) ?_
  refine lv_bipush (v := 28) S.1 S.2.1 dX4_init_40 (by decide) ?_
  obtain ⟨h21, e22, f⟩ := ob f
  refine o_newI S (List.mem_cons_of_mem _ wT_3_21) I hAn (N := 28) e22 (by decide) (by decide) (Nat.le_of_ble_eq_true rfl) (Nat.le_of_ble_eq_true rfl) (Nat.le_of_ble_eq_true rfl) dX4_init_42 (fun H I => ?_)
  obtain ⟨h23, e24, f⟩ := ob f
  refine o_pRF S hin2 lp4_init_27 (Or.inr ⟨_, rfl⟩) I e24 dX4_init_44 (fun H locs I => ?_)
  exact o_vret S hr hlo I f dX4_init_47
theorem M4_init (l : Launch) (D : va_G) (cy : Nat → ClassId) (b : Nat) (A : Nat → Prop) (hAn : ∀ q, b ≤ q → A q) {h : PH} {a0 : Nat} {out : PH} (f : F4_init h a0 = some out) : Met l yX4_init vX4_init ({ frames := 1, cells := 6, slots := 53, locals := 20 } : Room) (va_Pc [.ref (b + a0)] (ph_B D cy b A true h)) (va_Qv (fun (u : PH) => u = out) (ph_B D cy b A true) A) 6 53 A :=
  o_met (by decide) rfl (Nat.le_of_ble_eq_true rfl) rfl (fun p e s m below meth c S hr hlo hnm ls hl I => T4_init_0 S hr hlo hnm hAn ((gd f).2) I (lv_sub hl [0] rfl))
def vX7_init : List Cond := .code yX7_init cX7_init 4 none :: TB
theorem lf7_init_9 : Fl vX7_init RX7 9 7 0 := ⟨RX7, TX7, 7, rfl, by decide, (fun w h9 => List.mem_cons_of_mem _ (wC_wsX70 w h9)), (List.mem_cons_of_mem _ wT_5_10)⟩
theorem gX7_init_X7_isLetter : GoodIn vX7_init (va_wsS RX7 27 yX7_isLetter vX7_isLetter) := gS_of wT_7_5 wT_7_6 wT_5_2 wT_7_7
theorem gX7_init_X7_letterBits : GoodIn vX7_init (va_wsS RX7 31 yX7_letterBits vX7_letterBits) := gS_of wT_7_8 wT_7_9 wT_5_2 wT_7_10
theorem lp7_init_9 : PlF vX7_init RX7 9 7 0 (.array .int) := ⟨RX7, TX7, 7, tyX7, rfl, by decide, (fun w h9 => List.mem_cons_of_mem _ (wC_wsX70 w h9)), (List.mem_cons_of_mem _ wT_5_10), tyX7_ok, nmX7, rfl, rfl, rfl⟩
theorem lp7_init_15 : Pl vX7_init RX7 15 7 1 (.array .byte) := ⟨RX7, TX7, 7, tyX7, rfl, by decide, (fun w h9 => List.mem_cons_of_mem _ (wC_wsX70 w h9)), (List.mem_cons_of_mem _ wT_5_11), tyX7_ok, nmX7, rfl, rfl⟩
theorem cd7_init : Cd yX7_init 0 := ⟨by decide, by decide, by decide +kernel⟩
set_option maxHeartbeats 4000000 in
set_option maxRecDepth 100000 in
theorem T7_init_70 (S : CallFix p m c cX7_init 4 s args vX7_init RX7) (hr : meth.sig.returnType = none) (hlo : meth.locks = false) (hin2 : meth.name = "<init>") (hAn : ∀ q, b ≤ q → A q) {out : PH} {k21 : PH → Nat → Int32 → Option (PH)} (hk21 : ∀ {h : PH} {a0 : Nat} {x1 : Int32}, k21 h a0 x1 = some out → ∀ (H : Heap) (locs : List Loc), ph_I D cy b A true h s H locs → ∀ (ls : Array Slot), lv_has ls 4 [(0, .ref (b + a0)), (1, .int x1)] → W p l e ({ frames := 4, cells := 2, slots := 24, locals := 100 } : Room) s m args below meth c H locs 2 24 (MQ below (va_Qv (fun (u : PH) => u = out) (ph_B D cy b A true) A) args s 2 24 A) (F0 m 21 ls [])) {k29 : PH → Nat → Int32 → Int32 → Option (PH)} (hk29 : ∀ {h : PH} {a0 : Nat} {x1 : Int32} {x2 : Int32}, k29 h a0 x1 x2 = some out → ∀ (H : Heap) (locs : List Loc), ph_I D cy b A true h s H locs → ∀ (ls : Array Slot), lv_has ls 4 [(0, .ref (b + a0)), (1, .int x1), (2, .int x2)] → W p l e ({ frames := 4, cells := 2, slots := 24, locals := 100 } : Room) s m args below meth c H locs 2 24 (MQ below (va_Qv (fun (u : PH) => u = out) (ph_B D cy b A true) A) args s 2 24 A) (F0 m 29 ls [])) {h : PH} {a0 : Nat} {x1 : Int32} {x2 : Int32} {s0 : Int32} {s1 : Int32} {s2 : Int32} {u3 : Nat} (f : F7_init_70 k21 k29 h a0 x1 x2 s0 s1 s2 u3 = some out) {H : Heap} {locs : List Loc} (I : ph_I D cy b A true h s H locs) {ls : Array Slot} (hl : lv_has ls 4 [(0, .ref (b + a0)), (1, .int x1), (2, .int x2)]) : W p l e ({ frames := 4, cells := 2, slots := 24, locals := 100 } : Room) s m args below meth c H locs 2 24 (MQ below (va_Qv (fun (u : PH) => u = out) (ph_B D cy b A true) A) args s 2 24 A) (F0 m 70 ls [.int s0, .int s1, .int s2, .ref (b + u3)]) := by
  unfold F7_init_70 at f
  refine lv_ior S.1 S.2.1 dX7_init_70 ?_
  obtain ⟨h2, e1, f⟩ := ob f
  refine o_iast S I e1 dX7_init_71 (fun H locs I => ?_)
  refine lv_iinc (v := (x2 + 1)) (lv' := [(2, .int (x2 + 1)), (0, .ref (b + a0)), (1, .int x1)]) S.1 S.2.1 dX7_init_72 hl (k := 2) rfl (congrArg (fun z => x2 + z) (by decide)) (by decide) rfl (fun ls hl => ?_)
  refine lv_goto (tgt := 29) S.1 S.2.1 dX7_init_75 (by decide) ?_
  exact hk29 f _ _ I _ (lv_sub hl [1, 2, 0] rfl)
set_option maxHeartbeats 4000000 in
set_option maxRecDepth 100000 in
theorem T7_init_29 (S : CallFix p m c cX7_init 4 s args vX7_init RX7) (hr : meth.sig.returnType = none) (hlo : meth.locks = false) (hin2 : meth.name = "<init>") (hAn : ∀ q, b ≤ q → A q) {out : PH} {k21 : PH → Nat → Int32 → Option (PH)} (hk21 : ∀ {h : PH} {a0 : Nat} {x1 : Int32}, k21 h a0 x1 = some out → ∀ (H : Heap) (locs : List Loc), ph_I D cy b A true h s H locs → ∀ (ls : Array Slot), lv_has ls 4 [(0, .ref (b + a0)), (1, .int x1)] → W p l e ({ frames := 4, cells := 2, slots := 24, locals := 100 } : Room) s m args below meth c H locs 2 24 (MQ below (va_Qv (fun (u : PH) => u = out) (ph_B D cy b A true) A) args s 2 24 A) (F0 m 21 ls [])) : ∀ (n : Nat) {h : PH} {a0 : Nat} {x1 : Int32} {x2 : Int32} (f : F7_init_29 k21 n h a0 x1 x2 = some out) {H : Heap} {locs : List Loc} (I : ph_I D cy b A true h s H locs) {ls : Array Slot} (hl : lv_has ls 4 [(0, .ref (b + a0)), (1, .int x1), (2, .int x2)]), W p l e ({ frames := 4, cells := 2, slots := 24, locals := 100 } : Room) s m args below meth c H locs 2 24 (MQ below (va_Qv (fun (u : PH) => u = out) (ph_B D cy b A true) A) args s 2 24 A) (F0 m 29 ls []) := by
  intro n
  induction n with
  | zero => intro h a0 x1 x2 f; rw [F7_init_29] at f; cases f
  | succ n ih =>
    intro h a0 x1 x2 f H locs I ls hl
    rw [F7_init_29] at f
    refine lv_iload_n S.1 S.2.1 dX7_init_29 rfl (lv_at hl 2 rfl) ?_
    refine lv_bipush (v := 6) S.1 S.2.1 dX7_init_30 (by decide) ?_
    refine lv_icmp_ge (tgt := 78) S.1 S.2.1 dX7_init_32 (by decide) (fun q1 => ?_) (fun q1 => ?_)
    · have f := (if_pos q1).symm.trans f
      refine lv_iinc (v := (x1 + 1)) (lv' := [(1, .int (x1 + 1)), (0, .ref (b + a0)), (2, .int x2)]) S.1 S.2.1 dX7_init_78 hl (k := 1) rfl (congrArg (fun z => x1 + z) (by decide)) (by decide) rfl (fun ls hl => ?_)
      refine lv_goto (tgt := 21) S.1 S.2.1 dX7_init_81 (by decide) ?_
      exact hk21 f _ _ I _ (lv_sub hl [1, 0] rfl)
    · have f := (if_neg q1).symm.trans f
      refine o_ldcL S I dX7_init_35 ?_
      refine lv_iload_n S.1 S.2.1 dX7_init_37 rfl (lv_at hl 1 rfl) ?_
      refine lv_bipush (v := 6) S.1 S.2.1 dX7_init_38 (by decide) ?_
      refine lv_imul S.1 S.2.1 dX7_init_40 ?_
      refine lv_iload_n S.1 S.2.1 dX7_init_41 rfl (lv_at hl 2 rfl) ?_
      refine lv_iadd S.1 S.2.1 dX7_init_42 ?_
      obtain ⟨v2, e3, f⟩ := ob f
      refine o_chA S I e3 hl.1 ⟨Nat.le_of_ble_eq_true rfl, Nat.le_of_ble_eq_true rfl⟩ (Nat.le_of_ble_eq_true rfl) ⟨Nat.le_of_ble_eq_true rfl, Nat.le_of_ble_eq_true rfl⟩ dX7_init_43 (fun H locs I => ?_)
      refine lv_istore_n (lv' := [(3, .int v2), (0, .ref (b + a0)), (1, .int x1), (2, .int x2)]) S.1 S.2.1 dX7_init_46 rfl hl (by decide) rfl (fun ls hl => ?_)
      refine lv_aload_n S.1 S.2.1 dX7_init_47 rfl (lv_at hl 1 rfl) ?_
      obtain ⟨r4, e5, f⟩ := ob f
      refine o_gR S lf7_init_9 I e5 dX7_init_48 ?_
      refine lv_iload_n S.1 S.2.1 dX7_init_51 rfl (lv_at hl 2 rfl) ?_
      refine lv_dup2_11 S.1 S.2.1 dX7_init_52 rfl rfl ?_
      obtain ⟨v7, e6, f⟩ := ob f
      refine o_iald S I e6 dX7_init_53 ?_
      refine lv_iload_n S.1 S.2.1 dX7_init_54 rfl (lv_at hl 0 rfl) ?_
      obtain ⟨o8, e9, f⟩ := ob f
      refine o_Si S (As := [.int v2]) (rest := [.int v7, .int x1, .ref (b + r4)]) (M7_isLetter l D cy b A true e9) gX7_init_X7_isLetter rfl rfl rfl cd7_isLetter ⟨Nat.le_of_ble_eq_true rfl, Nat.le_of_ble_eq_true rfl⟩ I rfl hl.1 rfl (Nat.le_of_ble_eq_true rfl) dX7_init_55 ⟨Nat.le_of_ble_eq_true rfl, Nat.le_of_ble_eq_true rfl⟩ (fun H locs I => ?_)
      refine lv_if_eq (tgt := 69) S.1 S.2.1 dX7_init_58 (by decide) (fun q10 => ?_) (fun q10 => ?_)
      · have f := (if_pos q10).symm.trans f
        refine lv_iconst (v := 0) S.1 S.2.1 dX7_init_69 (by decide) ?_
        exact T7_init_70 S hr hlo hin2 hAn (fun f _ _ I _ hl => hk21 f _ _ I _ hl) (fun f _ _ I _ hl => ih f I hl) f I (lv_sub hl [1, 2, 3] rfl)
      · have f := (if_neg q10).symm.trans f
        refine lv_iload_n S.1 S.2.1 dX7_init_61 rfl (lv_at hl 0 rfl) ?_
        refine lv_iload_n S.1 S.2.1 dX7_init_62 rfl (lv_at hl 3 rfl) ?_
        obtain ⟨o11, e12, f⟩ := ob f
        refine o_Si S (As := [.int v2, .int x2]) (rest := [.int v7, .int x1, .ref (b + r4)]) (M7_letterBits l D cy b A true e12) gX7_init_X7_letterBits rfl rfl rfl cd7_letterBits ⟨Nat.le_of_ble_eq_true rfl, Nat.le_of_ble_eq_true rfl⟩ I rfl hl.1 rfl (Nat.le_of_ble_eq_true rfl) dX7_init_63 ⟨Nat.le_of_ble_eq_true rfl, Nat.le_of_ble_eq_true rfl⟩ (fun H locs I => ?_)
        refine lv_goto (tgt := 70) S.1 S.2.1 dX7_init_66 (by decide) ?_
        exact T7_init_70 S hr hlo hin2 hAn (fun f _ _ I _ hl => hk21 f _ _ I _ hl) (fun f _ _ I _ hl => ih f I hl) f I (lv_sub hl [1, 2, 3] rfl)
end
