section
variable {p : Program} {l : Launch} {e : Env} {s : State} {m : MethodId} {args : Array Value} {below : List Frame} {meth : Method} {c : Code} {D : va_G} {cy : Nat → ClassId} {b : Nat} {A : Nat → Prop} {fl : Bool}
set_option maxHeartbeats 4000000 in
set_option maxRecDepth 100000 in
theorem T6_init_0 (S : CallFix p m c cX6_init 2 s args vX6_init RX6) (hr : meth.sig.returnType = none) (hlo : meth.locks = false) (hin2 : meth.name = "<init>") (hAn : ∀ q, b ≤ q → A q) {out : PH} {h : PH} {a0 : Nat} {a1 : Nat} (f : F6_init_0  h a0 a1 = some out) {H : Heap} {locs : List Loc} (I : ph_I D cy b A true h s H locs) {ls : Array Slot} (hl : lv_has ls 2 [(0, .ref (b + a0)), (1, .ref (b + a1))]) : W p l e ({ frames := 1, cells := 8, slots := 123, locals := 20 } : Room) s m args below meth c H locs 0 0 (MQ below (va_Qv (fun (u : PH) => u = out) (ph_B D cy b A true) A) args s 8 123 A) (F0 m 0 ls []) := by
  unfold F6_init_0 at f
  refine lv_aload_n S.1 S.2.1 dX6_init_0 rfl (lv_at hl 0 rfl) ?_
  refine o_objI S (List.mem_cons_of_mem _ wT_7_14) (List.mem_cons_of_mem _ wT_1_11) (List.mem_cons_of_mem _ wT_1_12) hl.1 dX6_init_1 (Nat.le_of_ble_eq_true rfl) (Nat.le_of_ble_eq_true rfl) ?_
  refine lv_aload_n S.1 S.2.1 dX6_init_4 rfl (lv_at hl 0 rfl) ?_
  refine lv_aload_n S.1 S.2.1 dX6_init_5 rfl (lv_at hl 1 rfl) ?_
  obtain ⟨h1, e2, f⟩ := ob f
  refine o_pR S lp6_init_9 (Or.inl ⟨_, rfl⟩) I e2 dX6_init_6 (fun H locs I => ?_)
  refine lv_aload_n S.1 S.2.1 dX6_init_9 rfl (lv_at hl 0 rfl) ?_
  refine lv_iconst (v := 5) S.1 S.2.1 dX6_init_10 (by decide) ?_
  obtain ⟨h3, e4, f⟩ := ob f
  refine o_newI S (List.mem_cons_of_mem _ wT_3_21) I hAn (N := 5) e4 (by decide) (by decide) (Nat.le_of_ble_eq_true rfl) (Nat.le_of_ble_eq_true rfl) (Nat.le_of_ble_eq_true rfl) dX6_init_11 (fun H I => ?_)
  obtain ⟨h5, e6, f⟩ := ob f
  refine o_pRF S hin2 lp6_init_15 (Or.inr ⟨_, rfl⟩) I e6 dX6_init_13 (fun H locs I => ?_)
  refine lv_aload_n S.1 S.2.1 dX6_init_16 rfl (lv_at hl 0 rfl) ?_
  refine lv_iconst (v := 5) S.1 S.2.1 dX6_init_17 (by decide) ?_
  obtain ⟨h7, e8, f⟩ := ob f
  refine o_newI S (List.mem_cons_of_mem _ wT_3_21) I hAn (N := 5) e8 (by decide) (by decide) (Nat.le_of_ble_eq_true rfl) (Nat.le_of_ble_eq_true rfl) (Nat.le_of_ble_eq_true rfl) dX6_init_18 (fun H I => ?_)
  obtain ⟨h9, e10, f⟩ := ob f
  refine o_pRF S hin2 lp6_init_19 (Or.inr ⟨_, rfl⟩) I e10 dX6_init_20 (fun H locs I => ?_)
  refine lv_aload_n S.1 S.2.1 dX6_init_23 rfl (lv_at hl 0 rfl) ?_
  refine lv_bipush (v := 28) S.1 S.2.1 dX6_init_24 (by decide) ?_
  obtain ⟨h11, e12, f⟩ := ob f
  refine o_newI S (List.mem_cons_of_mem _ wT_3_21) I hAn (N := 28) e12 (by decide) (by decide) (Nat.le_of_ble_eq_true rfl) (Nat.le_of_ble_eq_true rfl) (Nat.le_of_ble_eq_true rfl) dX6_init_26 (fun H I => ?_)
  obtain ⟨h13, e14, f⟩ := ob f
  refine o_pRF S hin2 lp6_init_22 (Or.inr ⟨_, rfl⟩) I e14 dX6_init_28 (fun H locs I => ?_)
  refine lv_aload_n S.1 S.2.1 dX6_init_31 rfl (lv_at hl 0 rfl) ?_
  refine lv_bipush (v := 6) S.1 S.2.1 dX6_init_32 (by decide) ?_
  obtain ⟨h15, e16, f⟩ := ob f
  refine o_newJ S (List.mem_cons_of_mem _ wT_1_6) I hAn (N := 6) e16 (by decide) (by decide) (Nat.le_of_ble_eq_true rfl) (Nat.le_of_ble_eq_true rfl) (Nat.le_of_ble_eq_true rfl) dX6_init_34 (fun H I => ?_)
  obtain ⟨h17, e18, f⟩ := ob f
  refine o_pRF S hin2 lp6_init_25 (Or.inr ⟨_, rfl⟩) I e18 dX6_init_36 (fun H locs I => ?_)
  refine lv_aload_n S.1 S.2.1 dX6_init_39 rfl (lv_at hl 0 rfl) ?_
  refine lv_bipush (v := 64) S.1 S.2.1 dX6_init_40 (by decide) ?_
  obtain ⟨h19, e20, f⟩ := ob f
  refine o_newJ S (List.mem_cons_of_mem _ wT_1_6) I hAn (N := 64) e20 (by decide) (by decide) (Nat.le_of_ble_eq_true rfl) (Nat.le_of_ble_eq_true rfl) (Nat.le_of_ble_eq_true rfl) dX6_init_42 (fun H I => ?_)
  obtain ⟨h21, e22, f⟩ := ob f
  refine o_pRF S hin2 lp6_init_29 (Or.inr ⟨_, rfl⟩) I e22 dX6_init_44 (fun H locs I => ?_)
  refine lv_aload_n S.1 S.2.1 dX6_init_47 rfl (lv_at hl 0 rfl) ?_
  refine lv_iconst (v := 5) S.1 S.2.1 dX6_init_48 (by decide) ?_
  obtain ⟨h23, e24, f⟩ := ob f
  refine o_newI S (List.mem_cons_of_mem _ wT_3_21) I hAn (N := 5) e24 (by decide) (by decide) (Nat.le_of_ble_eq_true rfl) (Nat.le_of_ble_eq_true rfl) (Nat.le_of_ble_eq_true rfl) dX6_init_49 (fun H I => ?_)
  obtain ⟨h25, e26, f⟩ := ob f
  refine o_pRF S hin2 lp6_init_32 (Or.inr ⟨_, rfl⟩) I e26 dX6_init_51 (fun H locs I => ?_)
  refine lv_aload_n S.1 S.2.1 dX6_init_54 rfl (lv_at hl 0 rfl) ?_
  refine lv_iconst (v := 5) S.1 S.2.1 dX6_init_55 (by decide) ?_
  obtain ⟨h27, e28, f⟩ := ob f
  refine o_newI S (List.mem_cons_of_mem _ wT_3_21) I hAn (N := 5) e28 (by decide) (by decide) (Nat.le_of_ble_eq_true rfl) (Nat.le_of_ble_eq_true rfl) (Nat.le_of_ble_eq_true rfl) dX6_init_56 (fun H I => ?_)
  obtain ⟨h29, e30, f⟩ := ob f
  refine o_pRF S hin2 lp6_init_35 (Or.inr ⟨_, rfl⟩) I e30 dX6_init_58 (fun H locs I => ?_)
  refine lv_aload_n S.1 S.2.1 dX6_init_61 rfl (lv_at hl 0 rfl) ?_
  refine lv_iconst (v := 5) S.1 S.2.1 dX6_init_62 (by decide) ?_
  obtain ⟨h31, e32, f⟩ := ob f
  refine o_newI S (List.mem_cons_of_mem _ wT_3_21) I hAn (N := 5) e32 (by decide) (by decide) (Nat.le_of_ble_eq_true rfl) (Nat.le_of_ble_eq_true rfl) (Nat.le_of_ble_eq_true rfl) dX6_init_63 (fun H I => ?_)
  obtain ⟨h33, e34, f⟩ := ob f
  refine o_pRF S hin2 lp6_init_38 (Or.inr ⟨_, rfl⟩) I e34 dX6_init_65 (fun H locs I => ?_)
  exact o_vret S hr hlo I f dX6_init_68
theorem M6_init (l : Launch) (D : va_G) (cy : Nat → ClassId) (b : Nat) (A : Nat → Prop) (hAn : ∀ q, b ≤ q → A q) {h : PH} {a0 : Nat} {a1 : Nat} {out : PH} (f : F6_init h a0 a1 = some out) : Met l yX6_init vX6_init ({ frames := 1, cells := 8, slots := 123, locals := 20 } : Room) (va_Pc [.ref (b + a0), .ref (b + a1)] (ph_B D cy b A true h)) (va_Qv (fun (u : PH) => u = out) (ph_B D cy b A true) A) 8 123 A :=
  o_met (by decide) rfl (Nat.le_of_ble_eq_true rfl) rfl (fun p e s m below meth c S hr hlo hnm ls hl I => T6_init_0 S hr hlo hnm hAn ((gd f).2) I (lv_sub hl [0, 1] rfl))
def vX0_init : List Cond := .code yX0_init cX0_init 1 none :: TB
theorem lp0_init_9 : PlF vX0_init RX0 9 0 0 (.array .int) := ⟨RX0, TX0, 13, tyX0, rfl, by decide, (fun w h9 => List.mem_cons_of_mem _ (wC_wsX00 w h9)), (List.mem_cons_of_mem _ wT_9_7), tyX0_ok, nmX0, rfl, rfl, rfl⟩
theorem lp0_init_15 : PlF vX0_init RX0 15 0 1 (.array .int) := ⟨RX0, TX0, 13, tyX0, rfl, by decide, (fun w h9 => List.mem_cons_of_mem _ (wC_wsX00 w h9)), (List.mem_cons_of_mem _ wT_9_8), tyX0_ok, nmX0, rfl, rfl, rfl⟩
theorem lp0_init_18 : PlF vX0_init RX0 18 0 2 (.array .int) := ⟨RX0, TX0, 13, tyX0, rfl, by decide, (fun w h9 => List.mem_cons_of_mem _ (wC_wsX00 w h9)), (List.mem_cons_of_mem _ wT_9_9), tyX0_ok, nmX0, rfl, rfl, rfl⟩
theorem lp0_init_21 : PlF vX0_init RX0 21 0 3 (.array .int) := ⟨RX0, TX0, 13, tyX0, rfl, by decide, (fun w h9 => List.mem_cons_of_mem _ (wC_wsX00 w h9)), (List.mem_cons_of_mem _ wT_9_10), tyX0_ok, nmX0, rfl, rfl, rfl⟩
theorem lp0_init_24 : PlF vX0_init RX0 24 0 4 (.array .int) := ⟨RX0, TX0, 13, tyX0, rfl, by decide, (fun w h9 => List.mem_cons_of_mem _ (wC_wsX00 w h9)), (List.mem_cons_of_mem _ wT_9_11), tyX0_ok, nmX0, rfl, rfl, rfl⟩
theorem lp0_init_27 : PlF vX0_init RX0 27 0 5 (.array .int) := ⟨RX0, TX0, 13, tyX0, rfl, by decide, (fun w h9 => List.mem_cons_of_mem _ (wC_wsX00 w h9)), (List.mem_cons_of_mem _ wT_9_12), tyX0_ok, nmX0, rfl, rfl, rfl⟩
theorem lp0_init_30 : PlF vX0_init RX0 30 0 7 (.array .int) := ⟨RX0, TX0, 13, tyX0, rfl, by decide, (fun w h9 => List.mem_cons_of_mem _ (wC_wsX00 w h9)), (List.mem_cons_of_mem _ wT_9_13), tyX0_ok, nmX0, rfl, rfl, rfl⟩
theorem lp0_init_33 : PlF vX0_init RX0 33 0 8 (.array .int) := ⟨RX0, TX0, 13, tyX0, rfl, by decide, (fun w h9 => List.mem_cons_of_mem _ (wC_wsX00 w h9)), (List.mem_cons_of_mem _ wT_9_14), tyX0_ok, nmX0, rfl, rfl, rfl⟩
theorem lp0_init_36 : PlF vX0_init RX0 36 0 9 (.array .boolean) := ⟨RX0, TX0, 13, tyX0, rfl, by decide, (fun w h9 => List.mem_cons_of_mem _ (wC_wsX00 w h9)), (List.mem_cons_of_mem _ wT_9_15), tyX0_ok, nmX0, rfl, rfl, rfl⟩
theorem lp0_init_40 : PlF vX0_init RX0 40 0 10 (.array .int) := ⟨RX0, TX0, 13, tyX0, rfl, by decide, (fun w h9 => List.mem_cons_of_mem _ (wC_wsX00 w h9)), (List.mem_cons_of_mem _ wT_9_16), tyX0_ok, nmX0, rfl, rfl, rfl⟩
theorem cd0_init : Cd yX0_init 0 := ⟨by decide, by decide, by decide +kernel⟩
set_option maxHeartbeats 4000000 in
set_option maxRecDepth 100000 in
theorem T0_init_0 (S : CallFix p m c cX0_init 1 s args vX0_init RX0) (hr : meth.sig.returnType = none) (hlo : meth.locks = false) (hin2 : meth.name = "<init>") (hAn : ∀ q, b ≤ q → A q) {out : PH} {h : PH} {a0 : Nat} (f : F0_init_0  h a0 = some out) {H : Heap} {locs : List Loc} (I : ph_I D cy b A true h s H locs) {ls : Array Slot} (hl : lv_has ls 1 [(0, .ref (b + a0))]) : W p l e ({ frames := 1, cells := 10, slots := 758, locals := 20 } : Room) s m args below meth c H locs 0 0 (MQ below (va_Qv (fun (u : PH) => u = out) (ph_B D cy b A true) A) args s 10 758 A) (F0 m 0 ls []) := by
  unfold F0_init_0 at f
  refine lv_aload_n S.1 S.2.1 dX0_init_0 rfl (lv_at hl 0 rfl) ?_
  refine o_objI S (List.mem_cons_of_mem _ wT_9_6) (List.mem_cons_of_mem _ wT_1_11) (List.mem_cons_of_mem _ wT_1_12) hl.1 dX0_init_1 (Nat.le_of_ble_eq_true rfl) (Nat.le_of_ble_eq_true rfl) ?_
  refine lv_aload_n S.1 S.2.1 dX0_init_4 rfl (lv_at hl 0 rfl) ?_
  refine lv_bipush (v := 10) S.1 S.2.1 dX0_init_5 (by decide) ?_
  obtain ⟨h1, e2, f⟩ := ob f
  refine o_newI S (List.mem_cons_of_mem _ wT_3_21) I hAn (N := 10) e2 (by decide) (by decide) (Nat.le_of_ble_eq_true rfl) (Nat.le_of_ble_eq_true rfl) (Nat.le_of_ble_eq_true rfl) dX0_init_7 (fun H I => ?_)
  obtain ⟨h3, e4, f⟩ := ob f
  refine o_pRF S hin2 lp0_init_9 (Or.inr ⟨_, rfl⟩) I e4 dX0_init_9 (fun H locs I => ?_)
  refine lv_aload_n S.1 S.2.1 dX0_init_12 rfl (lv_at hl 0 rfl) ?_
  refine lv_sipush (v := 280) S.1 S.2.1 dX0_init_13 (by decide) ?_
  obtain ⟨h5, e6, f⟩ := ob f
  refine o_newI S (List.mem_cons_of_mem _ wT_3_21) I hAn (N := 280) e6 (by decide) (by decide) (Nat.le_of_ble_eq_true rfl) (Nat.le_of_ble_eq_true rfl) (Nat.le_of_ble_eq_true rfl) dX0_init_16 (fun H I => ?_)
  obtain ⟨h7, e8, f⟩ := ob f
  refine o_pRF S hin2 lp0_init_15 (Or.inr ⟨_, rfl⟩) I e8 dX0_init_18 (fun H locs I => ?_)
  refine lv_aload_n S.1 S.2.1 dX0_init_21 rfl (lv_at hl 0 rfl) ?_
  refine lv_sipush (v := 280) S.1 S.2.1 dX0_init_22 (by decide) ?_
  obtain ⟨h9, e10, f⟩ := ob f
  refine o_newI S (List.mem_cons_of_mem _ wT_3_21) I hAn (N := 280) e10 (by decide) (by decide) (Nat.le_of_ble_eq_true rfl) (Nat.le_of_ble_eq_true rfl) (Nat.le_of_ble_eq_true rfl) dX0_init_25 (fun H I => ?_)
  obtain ⟨h11, e12, f⟩ := ob f
  refine o_pRF S hin2 lp0_init_18 (Or.inr ⟨_, rfl⟩) I e12 dX0_init_27 (fun H locs I => ?_)
  refine lv_aload_n S.1 S.2.1 dX0_init_30 rfl (lv_at hl 0 rfl) ?_
  refine lv_bipush (v := 25) S.1 S.2.1 dX0_init_31 (by decide) ?_
  obtain ⟨h13, e14, f⟩ := ob f
  refine o_newI S (List.mem_cons_of_mem _ wT_3_21) I hAn (N := 25) e14 (by decide) (by decide) (Nat.le_of_ble_eq_true rfl) (Nat.le_of_ble_eq_true rfl) (Nat.le_of_ble_eq_true rfl) dX0_init_33 (fun H I => ?_)
  obtain ⟨h15, e16, f⟩ := ob f
  refine o_pRF S hin2 lp0_init_21 (Or.inr ⟨_, rfl⟩) I e16 dX0_init_35 (fun H locs I => ?_)
  refine lv_aload_n S.1 S.2.1 dX0_init_38 rfl (lv_at hl 0 rfl) ?_
  refine lv_bipush (v := 25) S.1 S.2.1 dX0_init_39 (by decide) ?_
  obtain ⟨h17, e18, f⟩ := ob f
  refine o_newI S (List.mem_cons_of_mem _ wT_3_21) I hAn (N := 25) e18 (by decide) (by decide) (Nat.le_of_ble_eq_true rfl) (Nat.le_of_ble_eq_true rfl) (Nat.le_of_ble_eq_true rfl) dX0_init_41 (fun H I => ?_)
  obtain ⟨h19, e20, f⟩ := ob f
  refine o_pRF S hin2 lp0_init_24 (Or.inr ⟨_, rfl⟩) I e20 dX0_init_43 (fun H locs I => ?_)
  refine lv_aload_n S.1 S.2.1 dX0_init_46 rfl (lv_at hl 0 rfl) ?_
  refine lv_bipush (v := 25) S.1 S.2.1 dX0_init_47 (by decide) ?_
  obtain ⟨h21, e22, f⟩ := ob f
  refine o_newI S (List.mem_cons_of_mem _ wT_3_21) I hAn (N := 25) e22 (by decide) (by decide) (Nat.le_of_ble_eq_true rfl) (Nat.le_of_ble_eq_true rfl) (Nat.le_of_ble_eq_true rfl) dX0_init_49 (fun H I => ?_)
  obtain ⟨h23, e24, f⟩ := ob f
  refine o_pRF S hin2 lp0_init_27 (Or.inr ⟨_, rfl⟩) I e24 dX0_init_51 (fun H locs I => ?_)
  refine lv_aload_n S.1 S.2.1 dX0_init_54 rfl (lv_at hl 0 rfl) ?_
  refine lv_bipush (v := 29) S.1 S.2.1 dX0_init_55 (by decide) ?_
  obtain ⟨h25, e26, f⟩ := ob f
  refine o_newI S (List.mem_cons_of_mem _ wT_3_21) I hAn (N := 29) e26 (by decide) (by decide) (Nat.le_of_ble_eq_true rfl) (Nat.le_of_ble_eq_true rfl) (Nat.le_of_ble_eq_true rfl) dX0_init_57 (fun H I => ?_)
  obtain ⟨h27, e28, f⟩ := ob f
  refine o_pRF S hin2 lp0_init_30 (Or.inr ⟨_, rfl⟩) I e28 dX0_init_59 (fun H locs I => ?_)
  refine lv_aload_n S.1 S.2.1 dX0_init_62 rfl (lv_at hl 0 rfl) ?_
  refine lv_bipush (v := 28) S.1 S.2.1 dX0_init_63 (by decide) ?_
  obtain ⟨h29, e30, f⟩ := ob f
  refine o_newI S (List.mem_cons_of_mem _ wT_3_21) I hAn (N := 28) e30 (by decide) (by decide) (Nat.le_of_ble_eq_true rfl) (Nat.le_of_ble_eq_true rfl) (Nat.le_of_ble_eq_true rfl) dX0_init_65 (fun H I => ?_)
  obtain ⟨h31, e32, f⟩ := ob f
  refine o_pRF S hin2 lp0_init_33 (Or.inr ⟨_, rfl⟩) I e32 dX0_init_67 (fun H locs I => ?_)
  refine lv_aload_n S.1 S.2.1 dX0_init_70 rfl (lv_at hl 0 rfl) ?_
  refine lv_bipush (v := 28) S.1 S.2.1 dX0_init_71 (by decide) ?_
  obtain ⟨h33, e34, f⟩ := ob f
  refine o_newZ S (List.mem_cons_of_mem _ wT_8_19) I hAn (N := 28) e34 (by decide) (by decide) (Nat.le_of_ble_eq_true rfl) (Nat.le_of_ble_eq_true rfl) (Nat.le_of_ble_eq_true rfl) dX0_init_73 (fun H I => ?_)
  obtain ⟨h35, e36, f⟩ := ob f
  refine o_pRF S hin2 lp0_init_36 (Or.inr ⟨_, rfl⟩) I e36 dX0_init_75 (fun H locs I => ?_)
  refine lv_aload_n S.1 S.2.1 dX0_init_78 rfl (lv_at hl 0 rfl) ?_
  refine lv_bipush (v := 28) S.1 S.2.1 dX0_init_79 (by decide) ?_
  obtain ⟨h37, e38, f⟩ := ob f
  refine o_newI S (List.mem_cons_of_mem _ wT_3_21) I hAn (N := 28) e38 (by decide) (by decide) (Nat.le_of_ble_eq_true rfl) (Nat.le_of_ble_eq_true rfl) (Nat.le_of_ble_eq_true rfl) dX0_init_81 (fun H I => ?_)
  obtain ⟨h39, e40, f⟩ := ob f
  refine o_pRF S hin2 lp0_init_40 (Or.inr ⟨_, rfl⟩) I e40 dX0_init_83 (fun H locs I => ?_)
  exact o_vret S hr hlo I f dX0_init_86
theorem M0_init (l : Launch) (D : va_G) (cy : Nat → ClassId) (b : Nat) (A : Nat → Prop) (hAn : ∀ q, b ≤ q → A q) {h : PH} {a0 : Nat} {out : PH} (f : F0_init h a0 = some out) : Met l yX0_init vX0_init ({ frames := 1, cells := 10, slots := 758, locals := 20 } : Room) (va_Pc [.ref (b + a0)] (ph_B D cy b A true h)) (va_Qv (fun (u : PH) => u = out) (ph_B D cy b A true) A) 10 758 A :=
  o_met (by decide) rfl (Nat.le_of_ble_eq_true rfl) rfl (fun p e s m below meth c S hr hlo hnm ls hl I => T0_init_0 S hr hlo hnm hAn ((gd f).2) I (lv_sub hl [0] rfl))
def vX11_init : List Cond := .code yX11_init cX11_init 1 none :: TB
theorem lp11_init_11 : PlF vX11_init RX11 11 11 0 (.array .byte) := ⟨RX11, TX11, 14, tyX11, rfl, by decide, (fun w h9 => List.mem_cons_of_mem _ (wC_wsX110 w h9)), (List.mem_cons_of_mem _ wT_1_14), tyX11_ok, nmX11, rfl, rfl, rfl⟩
theorem ln11_init_15 : Nl vX11_init RX11 15 8 14 zF8 := ⟨RX8, TX8, tyX8, rfl, (fun w h9 => List.mem_cons_of_mem _ (wC_wsX80 w h9)), tyX8_ok, (List.mem_cons_of_mem _ wT_1_15), (List.mem_cons_of_mem _ wT_1_16), (List.mem_cons_of_mem _ wT_1_17), zF8_ok⟩
theorem gX11_init_X8_init : GoodIn vX11_init vX8_init := gI_of wT_3_1
theorem lp11_init_18 : Pl vX11_init RX11 18 11 3 (.object "WhoseWave$Told") := ⟨RX11, TX11, 14, tyX11, rfl, by decide, (fun w h9 => List.mem_cons_of_mem _ (wC_wsX110 w h9)), (List.mem_cons_of_mem _ wT_1_18), tyX11_ok, nmX11, rfl, rfl⟩
theorem lp11_init_22 : Pl vX11_init RX11 22 11 4 (.object "WhoseWave$Told") := ⟨RX11, TX11, 14, tyX11, rfl, by decide, (fun w h9 => List.mem_cons_of_mem _ (wC_wsX110 w h9)), (List.mem_cons_of_mem _ wT_1_19), tyX11_ok, nmX11, rfl, rfl⟩
theorem ln11_init_25 : Nl vX11_init RX11 25 5 11 zF5 := ⟨RX5, TX5, tyX5, rfl, (fun w h9 => List.mem_cons_of_mem _ (wC_wsX50 w h9)), tyX5_ok, (List.mem_cons_of_mem _ wT_1_20), (List.mem_cons_of_mem _ wT_1_21), (List.mem_cons_of_mem _ wT_1_22), zF5_ok⟩
theorem lf11_init_22 : Fl vX11_init RX11 22 11 4 := ⟨RX11, TX11, 14, rfl, by decide, (fun w h9 => List.mem_cons_of_mem _ (wC_wsX110 w h9)), (List.mem_cons_of_mem _ wT_1_19)⟩
theorem gX11_init_X5_init : GoodIn vX11_init vX5_init := gI_of wT_4_21
theorem lp11_init_30 : PlF vX11_init RX11 30 11 2 (.object "WhoseWave$Reader") := ⟨RX11, TX11, 14, tyX11, rfl, by decide, (fun w h9 => List.mem_cons_of_mem _ (wC_wsX110 w h9)), (List.mem_cons_of_mem _ wT_1_23), tyX11_ok, nmX11, rfl, rfl, rfl⟩
theorem ln11_init_34 : Nl vX11_init RX11 34 6 9 zF6 := ⟨RX6, TX6, tyX6, rfl, (fun w h9 => List.mem_cons_of_mem _ (wC_wsX60 w h9)), tyX6_ok, (List.mem_cons_of_mem _ wT_2_0), (List.mem_cons_of_mem _ wT_2_1), (List.mem_cons_of_mem _ wT_2_2), zF6_ok⟩
theorem lf11_init_18 : Fl vX11_init RX11 18 11 3 := ⟨RX11, TX11, 14, rfl, by decide, (fun w h9 => List.mem_cons_of_mem _ (wC_wsX110 w h9)), (List.mem_cons_of_mem _ wT_1_18)⟩
theorem gX11_init_X6_init : GoodIn vX11_init vX6_init := gI_of wT_7_13
theorem lp11_init_37 : PlF vX11_init RX11 37 11 5 (.object "WhoseWave$Surf") := ⟨RX11, TX11, 14, tyX11, rfl, by decide, (fun w h9 => List.mem_cons_of_mem _ (wC_wsX110 w h9)), (List.mem_cons_of_mem _ wT_2_3), tyX11_ok, nmX11, rfl, rfl, rfl⟩
theorem lp11_init_41 : PlF vX11_init RX11 41 11 6 (.object "WhoseWave$Surf") := ⟨RX11, TX11, 14, tyX11, rfl, by decide, (fun w h9 => List.mem_cons_of_mem _ (wC_wsX110 w h9)), (List.mem_cons_of_mem _ wT_2_4), tyX11_ok, nmX11, rfl, rfl, rfl⟩
theorem ln11_init_44 : Nl vX11_init RX11 44 4 11 zF4 := ⟨RX4, TX4, tyX4, rfl, (fun w h9 => List.mem_cons_of_mem _ (wC_wsX40 w h9)), tyX4_ok, (List.mem_cons_of_mem _ wT_2_5), (List.mem_cons_of_mem _ wT_2_6), (List.mem_cons_of_mem _ wT_2_7), zF4_ok⟩
theorem gX11_init_X4_init : GoodIn vX11_init vX4_init := gI_of wT_8_2
theorem lp11_init_47 : PlF vX11_init RX11 47 11 7 (.object "WhoseWave$Now") := ⟨RX11, TX11, 14, tyX11, rfl, by decide, (fun w h9 => List.mem_cons_of_mem _ (wC_wsX110 w h9)), (List.mem_cons_of_mem _ wT_2_8), tyX11_ok, nmX11, rfl, rfl, rfl⟩
theorem lp11_init_51 : PlF vX11_init RX11 51 11 8 (.object "WhoseWave$Now") := ⟨RX11, TX11, 14, tyX11, rfl, by decide, (fun w h9 => List.mem_cons_of_mem _ (wC_wsX110 w h9)), (List.mem_cons_of_mem _ wT_2_9), tyX11_ok, nmX11, rfl, rfl, rfl⟩
theorem lp11_init_54 : PlF vX11_init RX11 54 11 9 (.object "WhoseWave$Now") := ⟨RX11, TX11, 14, tyX11, rfl, by decide, (fun w h9 => List.mem_cons_of_mem _ (wC_wsX110 w h9)), (List.mem_cons_of_mem _ wT_2_10), tyX11_ok, nmX11, rfl, rfl, rfl⟩
theorem ln11_init_57 : Nl vX11_init RX11 57 3 7 zF3 := ⟨RX3, TX3, tyX3, rfl, (fun w h9 => List.mem_cons_of_mem _ (wC_wsX30 w h9)), tyX3_ok, (List.mem_cons_of_mem _ wT_2_11), (List.mem_cons_of_mem _ wT_2_12), (List.mem_cons_of_mem _ wT_2_13), zF3_ok⟩
theorem gX11_init_X3_init : GoodIn vX11_init vX3_init := gI_of wT_8_12
theorem lp11_init_60 : PlF vX11_init RX11 60 11 11 (.object "WhoseWave$Notes") := ⟨RX11, TX11, 14, tyX11, rfl, by decide, (fun w h9 => List.mem_cons_of_mem _ (wC_wsX110 w h9)), (List.mem_cons_of_mem _ wT_2_14), tyX11_ok, nmX11, rfl, rfl, rfl⟩
theorem ln11_init_64 : Nl vX11_init RX11 64 9 3 zF9 := ⟨RX9, TX9, tyX9, rfl, (fun w h9 => List.mem_cons_of_mem _ (wC_wsX90 w h9)), tyX9_ok, (List.mem_cons_of_mem _ wT_2_15), (List.mem_cons_of_mem _ wT_2_16), (List.mem_cons_of_mem _ wT_2_17), zF9_ok⟩
theorem gX11_init_X9_init : GoodIn vX11_init vX9_init := gI_of wT_8_23
theorem lp11_init_67 : PlF vX11_init RX11 67 11 12 (.object "WhoseWave$Undos") := ⟨RX11, TX11, 14, tyX11, rfl, by decide, (fun w h9 => List.mem_cons_of_mem _ (wC_wsX110 w h9)), (List.mem_cons_of_mem _ wT_2_18), tyX11_ok, nmX11, rfl, rfl, rfl⟩
theorem ln11_init_71 : Nl vX11_init RX11 71 0 13 zF0 := ⟨RX0, TX0, tyX0, rfl, (fun w h9 => List.mem_cons_of_mem _ (wC_wsX00 w h9)), tyX0_ok, (List.mem_cons_of_mem _ wT_2_19), (List.mem_cons_of_mem _ wT_2_20), (List.mem_cons_of_mem _ wT_2_21), zF0_ok⟩
theorem gX11_init_X0_init : GoodIn vX11_init vX0_init := gI_of wT_9_5
theorem lp11_init_74 : PlF vX11_init RX11 74 11 13 (.object "WhoseWave$Choices") := ⟨RX11, TX11, 14, tyX11, rfl, by decide, (fun w h9 => List.mem_cons_of_mem _ (wC_wsX110 w h9)), (List.mem_cons_of_mem _ wT_2_22), tyX11_ok, nmX11, rfl, rfl, rfl⟩
end
