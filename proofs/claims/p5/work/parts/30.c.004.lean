section
variable {p : Program} {l : Launch} {e : Env} {s : State} {m : MethodId} {args : Array Value} {below : List Frame} {meth : Method} {c : Code} {D : va_G} {cy : Nat → ClassId} {b : Nat} {A : Nat → Prop} {fl : Bool}
set_option maxHeartbeats 4000000 in
set_option maxRecDepth 100000 in
theorem T8_init_0 (S : CallFix p m c cX8_init 2 s args vX8_init RX8) (hr : meth.sig.returnType = none) (hlo : meth.locks = false) (hin2 : meth.name = "<init>") (hAn : ∀ q, b ≤ q → A q) {out : PH} {h : PH} {a0 : Nat} (f : F8_init_0  h a0 = some out) {H : Heap} {locs : List Loc} (I : ph_I D cy b A true h s H locs) {ls : Array Slot} (hl : lv_has ls 2 [(0, .ref (b + a0))]) : W p l e ({ frames := 2, cells := 21, slots := 369, locals := 40 } : Room) s m args below meth c H locs 0 0 (MQ below (va_Qv (fun (u : PH) => u = out) (ph_B D cy b A true) A) args s 21 369 A) (F0 m 0 ls []) := by
  unfold F8_init_0 at f
  refine lv_aload_n S.1 S.2.1 dX8_init_0 rfl (lv_at hl 0 rfl) ?_
  refine o_objI S (List.mem_cons_of_mem _ wT_3_2) (List.mem_cons_of_mem _ wT_1_11) (List.mem_cons_of_mem _ wT_1_12) hl.1 dX8_init_1 (Nat.le_of_ble_eq_true rfl) (Nat.le_of_ble_eq_true rfl) ?_
  refine lv_aload_n S.1 S.2.1 dX8_init_4 rfl (lv_at hl 0 rfl) ?_
  obtain ⟨h1, e2, f⟩ := ob f
  refine o_new S ln8_init_9 I hAn e2 (Nat.le_of_ble_eq_true rfl) (Nat.le_of_ble_eq_true rfl) dX8_init_5 (fun H I => ?_)
  refine lv_dup S.1 S.2.1 dX8_init_8 rfl ?_
  obtain ⟨o3, e4, f⟩ := ob f
  refine o_Iv S (As := []) (rest := [.ref (b + h.length), .ref (b + a0)]) (M1_init l D cy b A hAn e4) gX8_init_X1_init ⟨(List.mem_cons_of_mem _ wT_3_5), (List.mem_cons_of_mem _ wT_3_17), (List.mem_cons_of_mem _ wT_3_18)⟩ rfl rfl rfl rfl cd1_init ⟨Nat.le_of_ble_eq_true rfl, Nat.le_of_ble_eq_true rfl⟩ I rfl hl.1 rfl (Nat.le_of_ble_eq_true rfl) dX8_init_9 ⟨Nat.le_of_ble_eq_true rfl, Nat.le_of_ble_eq_true rfl⟩ (fun H locs I => ?_)
  obtain ⟨h5, e6, f⟩ := ob f
  refine o_pRF S hin2 lp8_init_12 (Or.inl ⟨_, rfl⟩) I e6 dX8_init_12 (fun H locs I => ?_)
  refine lv_aload_n S.1 S.2.1 dX8_init_15 rfl (lv_at hl 0 rfl) ?_
  obtain ⟨h7, e8, f⟩ := ob f
  refine o_new S ln8_init_18 I hAn e8 (Nat.le_of_ble_eq_true rfl) (Nat.le_of_ble_eq_true rfl) dX8_init_16 (fun H I => ?_)
  refine lv_dup S.1 S.2.1 dX8_init_19 rfl ?_
  obtain ⟨o9, e10, f⟩ := ob f
  refine o_Iv S (As := []) (rest := [.ref (b + h5.length), .ref (b + a0)]) (M10_init l D cy b A hAn e10) gX8_init_X10_init ⟨(List.mem_cons_of_mem _ wT_3_9), (List.mem_cons_of_mem _ wT_4_4), (List.mem_cons_of_mem _ wT_4_5)⟩ rfl rfl rfl rfl cd10_init ⟨Nat.le_of_ble_eq_true rfl, Nat.le_of_ble_eq_true rfl⟩ I rfl hl.1 rfl (Nat.le_of_ble_eq_true rfl) dX8_init_20 ⟨Nat.le_of_ble_eq_true rfl, Nat.le_of_ble_eq_true rfl⟩ (fun H locs I => ?_)
  obtain ⟨h11, e12, f⟩ := ob f
  refine o_pRF S hin2 lp8_init_21 (Or.inl ⟨_, rfl⟩) I e12 dX8_init_23 (fun H locs I => ?_)
  refine lv_aload_n S.1 S.2.1 dX8_init_26 rfl (lv_at hl 0 rfl) ?_
  refine lv_iconst (v := 3) S.1 S.2.1 dX8_init_27 (by decide) ?_
  obtain ⟨h13, e14, f⟩ := ob f
  refine o_newR S (List.mem_cons_of_mem _ wT_3_11) I hAn (N := 3) e14 (by decide) (by decide) (Nat.le_of_ble_eq_true rfl) (Nat.le_of_ble_eq_true rfl) (Nat.le_of_ble_eq_true rfl) dX8_init_28 (fun H I => ?_)
  obtain ⟨h15, e16, f⟩ := ob f
  refine o_pRF S hin2 lp8_init_27 (Or.inr ⟨_, rfl⟩) I e16 dX8_init_31 (fun H locs I => ?_)
  refine lv_iconst (v := 0) S.1 S.2.1 dX8_init_34 (by decide) ?_
  refine lv_istore_n (lv' := [(1, .int 0), (0, .ref (b + a0))]) S.1 S.2.1 dX8_init_35 rfl hl (by decide) rfl (fun ls hl => ?_)
  refine lv_iload_n S.1 S.2.1 dX8_init_36 rfl (lv_at hl 0 rfl) ?_
  refine lv_iconst (v := 3) S.1 S.2.1 dX8_init_37 (by decide) ?_
  refine lv_icmp_ge (tgt := 60) S.1 S.2.1 dX8_init_38 (by decide) (fun q17 => ?_) (fun q17 => ?_)
  · exact absurd q17 (by decide)
  · refine lv_aload_n S.1 S.2.1 dX8_init_41 rfl (lv_at hl 1 rfl) ?_
    obtain ⟨r18, e19, f⟩ := ob f
    refine o_gR S lf8_init_27 I e19 dX8_init_42 ?_
    refine lv_iload_n S.1 S.2.1 dX8_init_45 rfl (lv_at hl 0 rfl) ?_
    obtain ⟨h20, e21, f⟩ := ob f
    refine o_new S ln8_init_25 I hAn e21 (Nat.le_of_ble_eq_true rfl) (Nat.le_of_ble_eq_true rfl) dX8_init_46 (fun H I => ?_)
    refine lv_dup S.1 S.2.1 dX8_init_49 rfl ?_
    obtain ⟨o22, e23, f⟩ := ob f
    refine o_Iv S (As := []) (rest := [.ref (b + h15.length), .int 0, .ref (b + r18)]) (M2_init l D cy b A hAn e23) gX8_init_X2_init ⟨(List.mem_cons_of_mem _ wT_3_14), (List.mem_cons_of_mem _ wT_4_14), (List.mem_cons_of_mem _ wT_4_15)⟩ rfl rfl rfl rfl cd2_init ⟨Nat.le_of_ble_eq_true rfl, Nat.le_of_ble_eq_true rfl⟩ I rfl hl.1 rfl (Nat.le_of_ble_eq_true rfl) dX8_init_50 ⟨Nat.le_of_ble_eq_true rfl, Nat.le_of_ble_eq_true rfl⟩ (fun H locs I => ?_)
    obtain ⟨h25, e24, f⟩ := ob f
    refine o_aast S I e24 dX8_init_53 (fun H locs I => ?_)
    refine lv_iinc (v := 1) (lv' := [(1, .int 1), (0, .ref (b + a0))]) S.1 S.2.1 dX8_init_54 hl (k := 0) rfl (by decide) (by decide) rfl (fun ls hl => ?_)
    refine lv_goto (tgt := 36) S.1 S.2.1 dX8_init_57 (by decide) ?_
    refine lv_iload_n S.1 S.2.1 dX8_init_36 rfl (lv_at hl 0 rfl) ?_
    refine lv_iconst (v := 3) S.1 S.2.1 dX8_init_37 (by decide) ?_
    refine lv_icmp_ge (tgt := 60) S.1 S.2.1 dX8_init_38 (by decide) (fun q26 => ?_) (fun q26 => ?_)
    · exact absurd q26 (by decide)
    · refine lv_aload_n S.1 S.2.1 dX8_init_41 rfl (lv_at hl 1 rfl) ?_
      obtain ⟨r27, e28, f⟩ := ob f
      refine o_gR S lf8_init_27 I e28 dX8_init_42 ?_
      refine lv_iload_n S.1 S.2.1 dX8_init_45 rfl (lv_at hl 0 rfl) ?_
      obtain ⟨h29, e30, f⟩ := ob f
      refine o_new S ln8_init_25 I hAn e30 (Nat.le_of_ble_eq_true rfl) (Nat.le_of_ble_eq_true rfl) dX8_init_46 (fun H I => ?_)
      refine lv_dup S.1 S.2.1 dX8_init_49 rfl ?_
      obtain ⟨o31, e32, f⟩ := ob f
      refine o_Iv S (As := []) (rest := [.ref (b + h25.length), .int 1, .ref (b + r27)]) (M2_init l D cy b A hAn e32) gX8_init_X2_init ⟨(List.mem_cons_of_mem _ wT_3_14), (List.mem_cons_of_mem _ wT_4_14), (List.mem_cons_of_mem _ wT_4_15)⟩ rfl rfl rfl rfl cd2_init ⟨Nat.le_of_ble_eq_true rfl, Nat.le_of_ble_eq_true rfl⟩ I rfl hl.1 rfl (Nat.le_of_ble_eq_true rfl) dX8_init_50 ⟨Nat.le_of_ble_eq_true rfl, Nat.le_of_ble_eq_true rfl⟩ (fun H locs I => ?_)
      obtain ⟨h34, e33, f⟩ := ob f
      refine o_aast S I e33 dX8_init_53 (fun H locs I => ?_)
      refine lv_iinc (v := 2) (lv' := [(1, .int 2), (0, .ref (b + a0))]) S.1 S.2.1 dX8_init_54 hl (k := 0) rfl (by decide) (by decide) rfl (fun ls hl => ?_)
      refine lv_goto (tgt := 36) S.1 S.2.1 dX8_init_57 (by decide) ?_
      refine lv_iload_n S.1 S.2.1 dX8_init_36 rfl (lv_at hl 0 rfl) ?_
      refine lv_iconst (v := 3) S.1 S.2.1 dX8_init_37 (by decide) ?_
      refine lv_icmp_ge (tgt := 60) S.1 S.2.1 dX8_init_38 (by decide) (fun q35 => ?_) (fun q35 => ?_)
      · exact absurd q35 (by decide)
      · refine lv_aload_n S.1 S.2.1 dX8_init_41 rfl (lv_at hl 1 rfl) ?_
        obtain ⟨r36, e37, f⟩ := ob f
        refine o_gR S lf8_init_27 I e37 dX8_init_42 ?_
        refine lv_iload_n S.1 S.2.1 dX8_init_45 rfl (lv_at hl 0 rfl) ?_
        obtain ⟨h38, e39, f⟩ := ob f
        refine o_new S ln8_init_25 I hAn e39 (Nat.le_of_ble_eq_true rfl) (Nat.le_of_ble_eq_true rfl) dX8_init_46 (fun H I => ?_)
        refine lv_dup S.1 S.2.1 dX8_init_49 rfl ?_
        obtain ⟨o40, e41, f⟩ := ob f
        refine o_Iv S (As := []) (rest := [.ref (b + h34.length), .int 2, .ref (b + r36)]) (M2_init l D cy b A hAn e41) gX8_init_X2_init ⟨(List.mem_cons_of_mem _ wT_3_14), (List.mem_cons_of_mem _ wT_4_14), (List.mem_cons_of_mem _ wT_4_15)⟩ rfl rfl rfl rfl cd2_init ⟨Nat.le_of_ble_eq_true rfl, Nat.le_of_ble_eq_true rfl⟩ I rfl hl.1 rfl (Nat.le_of_ble_eq_true rfl) dX8_init_50 ⟨Nat.le_of_ble_eq_true rfl, Nat.le_of_ble_eq_true rfl⟩ (fun H locs I => ?_)
        obtain ⟨h43, e42, f⟩ := ob f
        refine o_aast S I e42 dX8_init_53 (fun H locs I => ?_)
        refine lv_iinc (v := 3) (lv' := [(1, .int 3), (0, .ref (b + a0))]) S.1 S.2.1 dX8_init_54 hl (k := 0) rfl (by decide) (by decide) rfl (fun ls hl => ?_)
        refine lv_goto (tgt := 36) S.1 S.2.1 dX8_init_57 (by decide) ?_
        refine lv_iload_n S.1 S.2.1 dX8_init_36 rfl (lv_at hl 0 rfl) ?_
        refine lv_iconst (v := 3) S.1 S.2.1 dX8_init_37 (by decide) ?_
        refine lv_icmp_ge (tgt := 60) S.1 S.2.1 dX8_init_38 (by decide) (fun q44 => ?_) (fun q44 => ?_)
        · refine lv_aload_n S.1 S.2.1 dX8_init_60 rfl (lv_at hl 1 rfl) ?_
          refine lv_bipush (v := 6) S.1 S.2.1 dX8_init_61 (by decide) ?_
          obtain ⟨h45, e46, f⟩ := ob f
          refine o_pI S lp8_init_32 I e46 dX8_init_63 (fun H locs I => ?_)
          refine lv_aload_n S.1 S.2.1 dX8_init_66 rfl (lv_at hl 1 rfl) ?_
          refine lv_iconst (v := 4) S.1 S.2.1 dX8_init_67 (by decide) ?_
          obtain ⟨h47, e48, f⟩ := ob f
          refine o_pI S lp8_init_36 I e48 dX8_init_68 (fun H locs I => ?_)
          exact o_vret S hr hlo I f dX8_init_71
        · exact absurd q44 (by decide)
theorem M8_init (l : Launch) (D : va_G) (cy : Nat → ClassId) (b : Nat) (A : Nat → Prop) (hAn : ∀ q, b ≤ q → A q) {h : PH} {a0 : Nat} {out : PH} (f : F8_init h a0 = some out) : Met l yX8_init vX8_init ({ frames := 2, cells := 21, slots := 369, locals := 40 } : Room) (va_Pc [.ref (b + a0)] (ph_B D cy b A true h)) (va_Qv (fun (u : PH) => u = out) (ph_B D cy b A true) A) 21 369 A :=
  o_met (by decide) rfl (Nat.le_of_ble_eq_true rfl) rfl (fun p e s m below meth c S hr hlo hnm ls hl I => T8_init_0 S hr hlo hnm hAn ((gd f).2) I (lv_sub hl [0] rfl))
def vX5_init : List Cond := .code yX5_init cX5_init 2 none :: TB
theorem lp5_init_9 : Pl vX5_init RX5 9 5 10 (.object "WhoseWave$Told") := ⟨RX5, TX5, 11, tyX5, rfl, by decide, (fun w h9 => List.mem_cons_of_mem _ (wC_wsX50 w h9)), (List.mem_cons_of_mem _ wT_4_23), tyX5_ok, nmX5, rfl, rfl⟩
theorem ln5_init_15 : Nl vX5_init RX5 15 7 7 zF7 := ⟨RX7, TX7, tyX7, rfl, (fun w h9 => List.mem_cons_of_mem _ (wC_wsX70 w h9)), tyX7_ok, (List.mem_cons_of_mem _ wT_5_0), (List.mem_cons_of_mem _ wT_5_1), (List.mem_cons_of_mem _ wT_5_2), zF7_ok⟩
theorem gX5_init_X7_init : GoodIn vX5_init vX7_init := gI_of wT_5_8
theorem lp5_init_18 : PlF vX5_init RX5 18 5 0 (.object "WhoseWave$Tokens") := ⟨RX5, TX5, 11, tyX5, rfl, by decide, (fun w h9 => List.mem_cons_of_mem _ (wC_wsX50 w h9)), (List.mem_cons_of_mem _ wT_5_3), tyX5_ok, nmX5, rfl, rfl, rfl⟩
theorem lp5_init_22 : PlF vX5_init RX5 22 5 1 (.array .int) := ⟨RX5, TX5, 11, tyX5, rfl, by decide, (fun w h9 => List.mem_cons_of_mem _ (wC_wsX50 w h9)), (List.mem_cons_of_mem _ wT_5_4), tyX5_ok, nmX5, rfl, rfl, rfl⟩
theorem lp5_init_26 : Pl vX5_init RX5 26 5 9 .int := ⟨RX5, TX5, 11, tyX5, rfl, by decide, (fun w h9 => List.mem_cons_of_mem _ (wC_wsX50 w h9)), (List.mem_cons_of_mem _ wT_5_5), tyX5_ok, nmX5, rfl, rfl⟩
theorem cd5_init : Cd yX5_init 1 := ⟨by decide, by decide, by decide +kernel⟩
set_option maxHeartbeats 4000000 in
set_option maxRecDepth 100000 in
theorem T5_init_0 (S : CallFix p m c cX5_init 2 s args vX5_init RX5) (hr : meth.sig.returnType = none) (hlo : meth.locks = false) (hin2 : meth.name = "<init>") (hAn : ∀ q, b ≤ q → A q) {out : PH} {h : PH} {a0 : Nat} {a1 : Nat} (f : F5_init_0  h a0 a1 = some out) {H : Heap} {locs : List Loc} (I : ph_I D cy b A true h s H locs) {ls : Array Slot} (hl : lv_has ls 2 [(0, .ref (b + a0)), (1, .ref (b + a1))]) : W p l e ({ frames := 5, cells := 4, slots := 103, locals := 123 } : Room) s m args below meth c H locs 0 0 (MQ below (va_Qv (fun (u : PH) => u = out) (ph_B D cy b A true) A) args s 4 103 A) (F0 m 0 ls []) := by
  unfold F5_init_0 at f
  refine lv_aload_n S.1 S.2.1 dX5_init_0 rfl (lv_at hl 0 rfl) ?_
  refine o_objI S (List.mem_cons_of_mem _ wT_4_22) (List.mem_cons_of_mem _ wT_1_11) (List.mem_cons_of_mem _ wT_1_12) hl.1 dX5_init_1 (Nat.le_of_ble_eq_true rfl) (Nat.le_of_ble_eq_true rfl) ?_
  refine lv_aload_n S.1 S.2.1 dX5_init_4 rfl (lv_at hl 0 rfl) ?_
  refine lv_aload_n S.1 S.2.1 dX5_init_5 rfl (lv_at hl 1 rfl) ?_
  obtain ⟨h1, e2, f⟩ := ob f
  refine o_pR S lp5_init_9 (Or.inl ⟨_, rfl⟩) I e2 dX5_init_6 (fun H locs I => ?_)
  refine lv_aload_n S.1 S.2.1 dX5_init_9 rfl (lv_at hl 0 rfl) ?_
  obtain ⟨h3, e4, f⟩ := ob f
  refine o_new S ln5_init_15 I hAn e4 (Nat.le_of_ble_eq_true rfl) (Nat.le_of_ble_eq_true rfl) dX5_init_10 (fun H I => ?_)
  refine lv_dup S.1 S.2.1 dX5_init_13 rfl ?_
  obtain ⟨o5, e6, f⟩ := ob f
  refine o_Iv S (As := []) (rest := [.ref (b + h1.length), .ref (b + a0)]) (M7_init l D cy b A hAn e6) gX5_init_X7_init ⟨(List.mem_cons_of_mem _ wT_5_2), (List.mem_cons_of_mem _ wT_5_6), (List.mem_cons_of_mem _ wT_5_7)⟩ rfl rfl rfl rfl cd7_init ⟨Nat.le_of_ble_eq_true rfl, Nat.le_of_ble_eq_true rfl⟩ I rfl hl.1 rfl (Nat.le_of_ble_eq_true rfl) dX5_init_14 ⟨Nat.le_of_ble_eq_true rfl, Nat.le_of_ble_eq_true rfl⟩ (fun H locs I => ?_)
  obtain ⟨h7, e8, f⟩ := ob f
  refine o_pRF S hin2 lp5_init_18 (Or.inl ⟨_, rfl⟩) I e8 dX5_init_17 (fun H locs I => ?_)
  refine lv_aload_n S.1 S.2.1 dX5_init_20 rfl (lv_at hl 0 rfl) ?_
  refine lv_bipush (v := 72) S.1 S.2.1 dX5_init_21 (by decide) ?_
  obtain ⟨h9, e10, f⟩ := ob f
  refine o_newI S (List.mem_cons_of_mem _ wT_3_21) I hAn (N := 72) e10 (by decide) (by decide) (Nat.le_of_ble_eq_true rfl) (Nat.le_of_ble_eq_true rfl) (Nat.le_of_ble_eq_true rfl) dX5_init_23 (fun H I => ?_)
  obtain ⟨h11, e12, f⟩ := ob f
  refine o_pRF S hin2 lp5_init_22 (Or.inr ⟨_, rfl⟩) I e12 dX5_init_25 (fun H locs I => ?_)
  refine lv_aload_n S.1 S.2.1 dX5_init_28 rfl (lv_at hl 0 rfl) ?_
  refine lv_iconst (v := (-1)) S.1 S.2.1 dX5_init_29 (by decide) ?_
  obtain ⟨h13, e14, f⟩ := ob f
  refine o_pI S lp5_init_26 I e14 dX5_init_30 (fun H locs I => ?_)
  exact o_vret S hr hlo I f dX5_init_33
theorem M5_init (l : Launch) (D : va_G) (cy : Nat → ClassId) (b : Nat) (A : Nat → Prop) (hAn : ∀ q, b ≤ q → A q) {h : PH} {a0 : Nat} {a1 : Nat} {out : PH} (f : F5_init h a0 a1 = some out) : Met l yX5_init vX5_init ({ frames := 5, cells := 4, slots := 103, locals := 123 } : Room) (va_Pc [.ref (b + a0), .ref (b + a1)] (ph_B D cy b A true h)) (va_Qv (fun (u : PH) => u = out) (ph_B D cy b A true) A) 4 103 A :=
  o_met (by decide) rfl (Nat.le_of_ble_eq_true rfl) rfl (fun p e s m below meth c S hr hlo hnm ls hl I => T5_init_0 S hr hlo hnm hAn ((gd f).2) I (lv_sub hl [0, 1] rfl))
def vX6_init : List Cond := .code yX6_init cX6_init 2 none :: TB
theorem lp6_init_9 : Pl vX6_init RX6 9 6 0 (.object "WhoseWave$Told") := ⟨RX6, TX6, 9, tyX6, rfl, by decide, (fun w h9 => List.mem_cons_of_mem _ (wC_wsX60 w h9)), (List.mem_cons_of_mem _ wT_7_15), tyX6_ok, nmX6, rfl, rfl⟩
theorem lp6_init_15 : PlF vX6_init RX6 15 6 1 (.array .int) := ⟨RX6, TX6, 9, tyX6, rfl, by decide, (fun w h9 => List.mem_cons_of_mem _ (wC_wsX60 w h9)), (List.mem_cons_of_mem _ wT_7_16), tyX6_ok, nmX6, rfl, rfl, rfl⟩
theorem lp6_init_19 : PlF vX6_init RX6 19 6 2 (.array .int) := ⟨RX6, TX6, 9, tyX6, rfl, by decide, (fun w h9 => List.mem_cons_of_mem _ (wC_wsX60 w h9)), (List.mem_cons_of_mem _ wT_7_17), tyX6_ok, nmX6, rfl, rfl, rfl⟩
theorem lp6_init_22 : PlF vX6_init RX6 22 6 3 (.array .int) := ⟨RX6, TX6, 9, tyX6, rfl, by decide, (fun w h9 => List.mem_cons_of_mem _ (wC_wsX60 w h9)), (List.mem_cons_of_mem _ wT_7_18), tyX6_ok, nmX6, rfl, rfl, rfl⟩
theorem lp6_init_25 : PlF vX6_init RX6 25 6 4 (.array .long) := ⟨RX6, TX6, 9, tyX6, rfl, by decide, (fun w h9 => List.mem_cons_of_mem _ (wC_wsX60 w h9)), (List.mem_cons_of_mem _ wT_7_19), tyX6_ok, nmX6, rfl, rfl, rfl⟩
theorem lp6_init_29 : PlF vX6_init RX6 29 6 5 (.array .long) := ⟨RX6, TX6, 9, tyX6, rfl, by decide, (fun w h9 => List.mem_cons_of_mem _ (wC_wsX60 w h9)), (List.mem_cons_of_mem _ wT_7_20), tyX6_ok, nmX6, rfl, rfl, rfl⟩
theorem lp6_init_32 : PlF vX6_init RX6 32 6 6 (.array .int) := ⟨RX6, TX6, 9, tyX6, rfl, by decide, (fun w h9 => List.mem_cons_of_mem _ (wC_wsX60 w h9)), (List.mem_cons_of_mem _ wT_7_21), tyX6_ok, nmX6, rfl, rfl, rfl⟩
theorem lp6_init_35 : PlF vX6_init RX6 35 6 7 (.array .int) := ⟨RX6, TX6, 9, tyX6, rfl, by decide, (fun w h9 => List.mem_cons_of_mem _ (wC_wsX60 w h9)), (List.mem_cons_of_mem _ wT_7_22), tyX6_ok, nmX6, rfl, rfl, rfl⟩
theorem lp6_init_38 : PlF vX6_init RX6 38 6 8 (.array .int) := ⟨RX6, TX6, 9, tyX6, rfl, by decide, (fun w h9 => List.mem_cons_of_mem _ (wC_wsX60 w h9)), (List.mem_cons_of_mem _ wT_7_23), tyX6_ok, nmX6, rfl, rfl, rfl⟩
theorem cd6_init : Cd yX6_init 1 := ⟨by decide, by decide, by decide +kernel⟩
end
