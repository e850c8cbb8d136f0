section
variable {p : Program} {l : Launch} {e : Env} {s : State} {m : MethodId} {args : Array Value} {below : List Frame} {meth : Method} {c : Code} {D : va_G} {cy : Nat → ClassId} {b : Nat} {A : Nat → Prop} {fl : Bool}
set_option maxHeartbeats 4000000 in
set_option maxRecDepth 100000 in
theorem T11_init_0 (S : CallFix p m c cX11_init 1 s args vX11_init RX11) (hr : meth.sig.returnType = none) (hlo : meth.locks = false) (hin2 : meth.name = "<init>") (hAn : ∀ q, b ≤ q → A q) {out : PH} {h : PH} {a0 : Nat} (f : F11_init_0  h a0 = some out) {H : Heap} {locs : List Loc} (I : ph_I D cy b A true h s H locs) {ls : Array Slot} (hl : lv_has ls 1 [(0, .ref (b + a0))]) : W p l e ({ frames := 6, cells := 109, slots := 2977, locals := 144 } : Room) s m args below meth c H locs 0 0 (MQ below (va_Qv (fun (u : PH) => u = out) (ph_B D cy b A true) A) args s 109 2977 A) (F0 m 0 ls []) := by
  unfold F11_init_0 at f
  refine lv_aload_n S.1 S.2.1 dX11_init_0 rfl (lv_at hl 0 rfl) ?_
  refine o_objI S (List.mem_cons_of_mem _ wT_1_10) (List.mem_cons_of_mem _ wT_1_11) (List.mem_cons_of_mem _ wT_1_12) hl.1 dX11_init_1 (Nat.le_of_ble_eq_true rfl) (Nat.le_of_ble_eq_true rfl) ?_
  refine lv_aload_n S.1 S.2.1 dX11_init_4 rfl (lv_at hl 0 rfl) ?_
  refine lv_sipush (v := 700) S.1 S.2.1 dX11_init_5 (by decide) ?_
  obtain ⟨h1, e2, f⟩ := ob f
  refine o_newB S (List.mem_cons_of_mem _ wT_1_13) I hAn (N := 700) e2 (by decide) (by decide) (Nat.le_of_ble_eq_true rfl) (Nat.le_of_ble_eq_true rfl) (Nat.le_of_ble_eq_true rfl) dX11_init_8 (fun H I => ?_)
  obtain ⟨h3, e4, f⟩ := ob f
  refine o_pRF S hin2 lp11_init_11 (Or.inr ⟨_, rfl⟩) I e4 dX11_init_10 (fun H locs I => ?_)
  refine lv_aload_n S.1 S.2.1 dX11_init_13 rfl (lv_at hl 0 rfl) ?_
  obtain ⟨h5, e6, f⟩ := ob f
  refine o_new S ln11_init_15 I hAn e6 (Nat.le_of_ble_eq_true rfl) (Nat.le_of_ble_eq_true rfl) dX11_init_14 (fun H I => ?_)
  refine lv_dup S.1 S.2.1 dX11_init_17 rfl ?_
  obtain ⟨o7, e8, f⟩ := ob f
  refine o_Iv S (As := []) (rest := [.ref (b + h3.length), .ref (b + a0)]) (M8_init l D cy b A hAn e8) gX11_init_X8_init ⟨(List.mem_cons_of_mem _ wT_1_17), (List.mem_cons_of_mem _ wT_2_23), (List.mem_cons_of_mem _ wT_3_0)⟩ rfl rfl rfl rfl cd8_init ⟨Nat.le_of_ble_eq_true rfl, Nat.le_of_ble_eq_true rfl⟩ I rfl hl.1 rfl (Nat.le_of_ble_eq_true rfl) dX11_init_18 ⟨Nat.le_of_ble_eq_true rfl, Nat.le_of_ble_eq_true rfl⟩ (fun H locs I => ?_)
  obtain ⟨h9, e10, f⟩ := ob f
  refine o_pR S lp11_init_18 (Or.inl ⟨_, rfl⟩) I e10 dX11_init_21 (fun H locs I => ?_)
  refine lv_aload_n S.1 S.2.1 dX11_init_24 rfl (lv_at hl 0 rfl) ?_
  obtain ⟨h11, e12, f⟩ := ob f
  refine o_new S ln11_init_15 I hAn e12 (Nat.le_of_ble_eq_true rfl) (Nat.le_of_ble_eq_true rfl) dX11_init_25 (fun H I => ?_)
  refine lv_dup S.1 S.2.1 dX11_init_28 rfl ?_
  obtain ⟨o13, e14, f⟩ := ob f
  refine o_Iv S (As := []) (rest := [.ref (b + h9.length), .ref (b + a0)]) (M8_init l D cy b A hAn e14) gX11_init_X8_init ⟨(List.mem_cons_of_mem _ wT_1_17), (List.mem_cons_of_mem _ wT_2_23), (List.mem_cons_of_mem _ wT_3_0)⟩ rfl rfl rfl rfl cd8_init ⟨Nat.le_of_ble_eq_true rfl, Nat.le_of_ble_eq_true rfl⟩ I rfl hl.1 rfl (Nat.le_of_ble_eq_true rfl) dX11_init_29 ⟨Nat.le_of_ble_eq_true rfl, Nat.le_of_ble_eq_true rfl⟩ (fun H locs I => ?_)
  obtain ⟨h15, e16, f⟩ := ob f
  refine o_pR S lp11_init_22 (Or.inl ⟨_, rfl⟩) I e16 dX11_init_32 (fun H locs I => ?_)
  refine lv_aload_n S.1 S.2.1 dX11_init_35 rfl (lv_at hl 0 rfl) ?_
  obtain ⟨h17, e18, f⟩ := ob f
  refine o_new S ln11_init_25 I hAn e18 (Nat.le_of_ble_eq_true rfl) (Nat.le_of_ble_eq_true rfl) dX11_init_36 (fun H I => ?_)
  refine lv_dup S.1 S.2.1 dX11_init_39 rfl ?_
  refine lv_aload_n S.1 S.2.1 dX11_init_40 rfl (lv_at hl 0 rfl) ?_
  obtain ⟨r19, e20, f⟩ := ob f
  refine o_gR S lf11_init_22 I e20 dX11_init_41 ?_
  obtain ⟨o21, e22, f⟩ := ob f
  refine o_Iv S (As := [.ref (b + r19)]) (rest := [.ref (b + h15.length), .ref (b + a0)]) (M5_init l D cy b A hAn e22) gX11_init_X5_init ⟨(List.mem_cons_of_mem _ wT_1_22), (List.mem_cons_of_mem _ wT_4_19), (List.mem_cons_of_mem _ wT_4_20)⟩ rfl rfl rfl rfl cd5_init ⟨Nat.le_of_ble_eq_true rfl, Nat.le_of_ble_eq_true rfl⟩ I rfl hl.1 rfl (Nat.le_of_ble_eq_true rfl) dX11_init_44 ⟨Nat.le_of_ble_eq_true rfl, Nat.le_of_ble_eq_true rfl⟩ (fun H locs I => ?_)
  obtain ⟨h23, e24, f⟩ := ob f
  refine o_pRF S hin2 lp11_init_30 (Or.inl ⟨_, rfl⟩) I e24 dX11_init_47 (fun H locs I => ?_)
  refine lv_aload_n S.1 S.2.1 dX11_init_50 rfl (lv_at hl 0 rfl) ?_
  obtain ⟨h25, e26, f⟩ := ob f
  refine o_new S ln11_init_34 I hAn e26 (Nat.le_of_ble_eq_true rfl) (Nat.le_of_ble_eq_true rfl) dX11_init_51 (fun H I => ?_)
  refine lv_dup S.1 S.2.1 dX11_init_54 rfl ?_
  refine lv_aload_n S.1 S.2.1 dX11_init_55 rfl (lv_at hl 0 rfl) ?_
  obtain ⟨r27, e28, f⟩ := ob f
  refine o_gR S lf11_init_18 I e28 dX11_init_56 ?_
  obtain ⟨o29, e30, f⟩ := ob f
  refine o_Iv S (As := [.ref (b + r27)]) (rest := [.ref (b + h23.length), .ref (b + a0)]) (M6_init l D cy b A hAn e30) gX11_init_X6_init ⟨(List.mem_cons_of_mem _ wT_2_2), (List.mem_cons_of_mem _ wT_7_11), (List.mem_cons_of_mem _ wT_7_12)⟩ rfl rfl rfl rfl cd6_init ⟨Nat.le_of_ble_eq_true rfl, Nat.le_of_ble_eq_true rfl⟩ I rfl hl.1 rfl (Nat.le_of_ble_eq_true rfl) dX11_init_59 ⟨Nat.le_of_ble_eq_true rfl, Nat.le_of_ble_eq_true rfl⟩ (fun H locs I => ?_)
  obtain ⟨h31, e32, f⟩ := ob f
  refine o_pRF S hin2 lp11_init_37 (Or.inl ⟨_, rfl⟩) I e32 dX11_init_62 (fun H locs I => ?_)
  refine lv_aload_n S.1 S.2.1 dX11_init_65 rfl (lv_at hl 0 rfl) ?_
  obtain ⟨h33, e34, f⟩ := ob f
  refine o_new S ln11_init_34 I hAn e34 (Nat.le_of_ble_eq_true rfl) (Nat.le_of_ble_eq_true rfl) dX11_init_66 (fun H I => ?_)
  refine lv_dup S.1 S.2.1 dX11_init_69 rfl ?_
  refine lv_aload_n S.1 S.2.1 dX11_init_70 rfl (lv_at hl 0 rfl) ?_
  obtain ⟨r35, e36, f⟩ := ob f
  refine o_gR S lf11_init_18 I e36 dX11_init_71 ?_
  obtain ⟨o37, e38, f⟩ := ob f
  refine o_Iv S (As := [.ref (b + r35)]) (rest := [.ref (b + h31.length), .ref (b + a0)]) (M6_init l D cy b A hAn e38) gX11_init_X6_init ⟨(List.mem_cons_of_mem _ wT_2_2), (List.mem_cons_of_mem _ wT_7_11), (List.mem_cons_of_mem _ wT_7_12)⟩ rfl rfl rfl rfl cd6_init ⟨Nat.le_of_ble_eq_true rfl, Nat.le_of_ble_eq_true rfl⟩ I rfl hl.1 rfl (Nat.le_of_ble_eq_true rfl) dX11_init_74 ⟨Nat.le_of_ble_eq_true rfl, Nat.le_of_ble_eq_true rfl⟩ (fun H locs I => ?_)
  obtain ⟨h39, e40, f⟩ := ob f
  refine o_pRF S hin2 lp11_init_41 (Or.inl ⟨_, rfl⟩) I e40 dX11_init_77 (fun H locs I => ?_)
  refine lv_aload_n S.1 S.2.1 dX11_init_80 rfl (lv_at hl 0 rfl) ?_
  obtain ⟨h41, e42, f⟩ := ob f
  refine o_new S ln11_init_44 I hAn e42 (Nat.le_of_ble_eq_true rfl) (Nat.le_of_ble_eq_true rfl) dX11_init_81 (fun H I => ?_)
  refine lv_dup S.1 S.2.1 dX11_init_84 rfl ?_
  obtain ⟨o43, e44, f⟩ := ob f
  refine o_Iv S (As := []) (rest := [.ref (b + h39.length), .ref (b + a0)]) (M4_init l D cy b A hAn e44) gX11_init_X4_init ⟨(List.mem_cons_of_mem _ wT_2_7), (List.mem_cons_of_mem _ wT_8_0), (List.mem_cons_of_mem _ wT_8_1)⟩ rfl rfl rfl rfl cd4_init ⟨Nat.le_of_ble_eq_true rfl, Nat.le_of_ble_eq_true rfl⟩ I rfl hl.1 rfl (Nat.le_of_ble_eq_true rfl) dX11_init_85 ⟨Nat.le_of_ble_eq_true rfl, Nat.le_of_ble_eq_true rfl⟩ (fun H locs I => ?_)
  obtain ⟨h45, e46, f⟩ := ob f
  refine o_pRF S hin2 lp11_init_47 (Or.inl ⟨_, rfl⟩) I e46 dX11_init_88 (fun H locs I => ?_)
  refine lv_aload_n S.1 S.2.1 dX11_init_91 rfl (lv_at hl 0 rfl) ?_
  obtain ⟨h47, e48, f⟩ := ob f
  refine o_new S ln11_init_44 I hAn e48 (Nat.le_of_ble_eq_true rfl) (Nat.le_of_ble_eq_true rfl) dX11_init_92 (fun H I => ?_)
  refine lv_dup S.1 S.2.1 dX11_init_95 rfl ?_
  obtain ⟨o49, e50, f⟩ := ob f
  refine o_Iv S (As := []) (rest := [.ref (b + h45.length), .ref (b + a0)]) (M4_init l D cy b A hAn e50) gX11_init_X4_init ⟨(List.mem_cons_of_mem _ wT_2_7), (List.mem_cons_of_mem _ wT_8_0), (List.mem_cons_of_mem _ wT_8_1)⟩ rfl rfl rfl rfl cd4_init ⟨Nat.le_of_ble_eq_true rfl, Nat.le_of_ble_eq_true rfl⟩ I rfl hl.1 rfl (Nat.le_of_ble_eq_true rfl) dX11_init_96 ⟨Nat.le_of_ble_eq_true rfl, Nat.le_of_ble_eq_true rfl⟩ (fun H locs I => ?_)
  obtain ⟨h51, e52, f⟩ := ob f
  refine o_pRF S hin2 lp11_init_51 (Or.inl ⟨_, rfl⟩) I e52 dX11_init_99 (fun H locs I => ?_)
  refine lv_aload_n S.1 S.2.1 dX11_init_102 rfl (lv_at hl 0 rfl) ?_
  obtain ⟨h53, e54, f⟩ := ob f
  refine o_new S ln11_init_44 I hAn e54 (Nat.le_of_ble_eq_true rfl) (Nat.le_of_ble_eq_true rfl) dX11_init_103 (fun H I => ?_)
  refine lv_dup S.1 S.2.1 dX11_init_106 rfl ?_
  obtain ⟨o55, e56, f⟩ := ob f
  refine o_Iv S (As := []) (rest := [.ref (b + h51.length), .ref (b + a0)]) (M4_init l D cy b A hAn e56) gX11_init_X4_init ⟨(List.mem_cons_of_mem _ wT_2_7), (List.mem_cons_of_mem _ wT_8_0), (List.mem_cons_of_mem _ wT_8_1)⟩ rfl rfl rfl rfl cd4_init ⟨Nat.le_of_ble_eq_true rfl, Nat.le_of_ble_eq_true rfl⟩ I rfl hl.1 rfl (Nat.le_of_ble_eq_true rfl) dX11_init_107 ⟨Nat.le_of_ble_eq_true rfl, Nat.le_of_ble_eq_true rfl⟩ (fun H locs I => ?_)
  obtain ⟨h57, e58, f⟩ := ob f
  refine o_pRF S hin2 lp11_init_54 (Or.inl ⟨_, rfl⟩) I e58 dX11_init_110 (fun H locs I => ?_)
  refine lv_aload_n S.1 S.2.1 dX11_init_113 rfl (lv_at hl 0 rfl) ?_
  obtain ⟨h59, e60, f⟩ := ob f
  refine o_new S ln11_init_57 I hAn e60 (Nat.le_of_ble_eq_true rfl) (Nat.le_of_ble_eq_true rfl) dX11_init_114 (fun H I => ?_)
  refine lv_dup S.1 S.2.1 dX11_init_117 rfl ?_
  obtain ⟨o61, e62, f⟩ := ob f
  refine o_Iv S (As := []) (rest := [.ref (b + h57.length), .ref (b + a0)]) (M3_init l D cy b A hAn e62) gX11_init_X3_init ⟨(List.mem_cons_of_mem _ wT_2_13), (List.mem_cons_of_mem _ wT_8_10), (List.mem_cons_of_mem _ wT_8_11)⟩ rfl rfl rfl rfl cd3_init ⟨Nat.le_of_ble_eq_true rfl, Nat.le_of_ble_eq_true rfl⟩ I rfl hl.1 rfl (Nat.le_of_ble_eq_true rfl) dX11_init_118 ⟨Nat.le_of_ble_eq_true rfl, Nat.le_of_ble_eq_true rfl⟩ (fun H locs I => ?_)
  obtain ⟨h63, e64, f⟩ := ob f
  refine o_pRF S hin2 lp11_init_60 (Or.inl ⟨_, rfl⟩) I e64 dX11_init_121 (fun H locs I => ?_)
  refine lv_aload_n S.1 S.2.1 dX11_init_124 rfl (lv_at hl 0 rfl) ?_
  obtain ⟨h65, e66, f⟩ := ob f
  refine o_new S ln11_init_64 I hAn e66 (Nat.le_of_ble_eq_true rfl) (Nat.le_of_ble_eq_true rfl) dX11_init_125 (fun H I => ?_)
  refine lv_dup S.1 S.2.1 dX11_init_128 rfl ?_
  obtain ⟨o67, e68, f⟩ := ob f
  refine o_Iv S (As := []) (rest := [.ref (b + h63.length), .ref (b + a0)]) (M9_init l D cy b A hAn e68) gX11_init_X9_init ⟨(List.mem_cons_of_mem _ wT_2_17), (List.mem_cons_of_mem _ wT_8_21), (List.mem_cons_of_mem _ wT_8_22)⟩ rfl rfl rfl rfl cd9_init ⟨Nat.le_of_ble_eq_true rfl, Nat.le_of_ble_eq_true rfl⟩ I rfl hl.1 rfl (Nat.le_of_ble_eq_true rfl) dX11_init_129 ⟨Nat.le_of_ble_eq_true rfl, Nat.le_of_ble_eq_true rfl⟩ (fun H locs I => ?_)
  obtain ⟨h69, e70, f⟩ := ob f
  refine o_pRF S hin2 lp11_init_67 (Or.inl ⟨_, rfl⟩) I e70 dX11_init_132 (fun H locs I => ?_)
  refine lv_aload_n S.1 S.2.1 dX11_init_135 rfl (lv_at hl 0 rfl) ?_
  obtain ⟨h71, e72, f⟩ := ob f
  refine o_new S ln11_init_71 I hAn e72 (Nat.le_of_ble_eq_true rfl) (Nat.le_of_ble_eq_true rfl) dX11_init_136 (fun H I => ?_)
  refine lv_dup S.1 S.2.1 dX11_init_139 rfl ?_
  obtain ⟨o73, e74, f⟩ := ob f
  refine o_Iv S (As := []) (rest := [.ref (b + h69.length), .ref (b + a0)]) (M0_init l D cy b A hAn e74) gX11_init_X0_init ⟨(List.mem_cons_of_mem _ wT_2_21), (List.mem_cons_of_mem _ wT_9_3), (List.mem_cons_of_mem _ wT_9_4)⟩ rfl rfl rfl rfl cd0_init ⟨Nat.le_of_ble_eq_true rfl, Nat.le_of_ble_eq_true rfl⟩ I rfl hl.1 rfl (Nat.le_of_ble_eq_true rfl) dX11_init_140 ⟨Nat.le_of_ble_eq_true rfl, Nat.le_of_ble_eq_true rfl⟩ (fun H locs I => ?_)
  obtain ⟨h75, e76, f⟩ := ob f
  refine o_pRF S hin2 lp11_init_74 (Or.inl ⟨_, rfl⟩) I e76 dX11_init_143 (fun H locs I => ?_)
  exact o_vret S hr hlo I f dX11_init_146
theorem M11_init (l : Launch) (D : va_G) (cy : Nat → ClassId) (b : Nat) (A : Nat → Prop) (hAn : ∀ q, b ≤ q → A q) {h : PH} {a0 : Nat} {out : PH} (f : F11_init h a0 = some out) : Met l yX11_init vX11_init ({ frames := 6, cells := 109, slots := 2977, locals := 144 } : Room) (va_Pc [.ref (b + a0)] (ph_B D cy b A true h)) (va_Qv (fun (u : PH) => u = out) (ph_B D cy b A true) A) 109 2977 A :=
  o_met (by decide) rfl (Nat.le_of_ble_eq_true rfl) rfl (fun p e s m below meth c S hr hlo hnm ls hl I => T11_init_0 S hr hlo hnm hAn ((gd f).2) I (lv_sub hl [0] rfl))
end
theorem zd_dX12_init_0 : dq cX12_init [(0, .aload_n 0, 1), (1, .invokespecial 1, 3), (4, .aload_n 0, 1), (5, .sipush 700, 3), (8, .newarray .int, 2), (10, .putfield 7, 3), (13, .aload_n 0, 1), (14, .bipush 120, 2), (16, .newarray .int, 2), (18, .dup, 1), (19, .iconst 0, 1), (20, .bipush 115, 2), (22, .iastore, 1), (23, .dup, 1), (24, .iconst 1, 1), (25, .bipush 101, 2), (27, .iastore, 1), (28, .dup, 1), (29, .iconst 2, 1), (30, .bipush 97, 2), (32, .iastore, 1), (33, .dup, 1), (34, .iconst 3, 1), (35, .bipush 32, 2)] = true := by decide +kernel
theorem dX12_init_0 : decode cX12_init 0 = .ok (.aload_n 0, 1) := dq_at zd_dX12_init_0 0 rfl
theorem dX12_init_1 : decode cX12_init 1 = .ok (.invokespecial 1, 3) := dq_at zd_dX12_init_0 1 rfl
theorem dX12_init_4 : decode cX12_init 4 = .ok (.aload_n 0, 1) := dq_at zd_dX12_init_0 2 rfl
theorem dX12_init_5 : decode cX12_init 5 = .ok (.sipush 700, 3) := dq_at zd_dX12_init_0 3 rfl
theorem dX12_init_8 : decode cX12_init 8 = .ok (.newarray .int, 2) := dq_at zd_dX12_init_0 4 rfl
theorem dX12_init_10 : decode cX12_init 10 = .ok (.putfield 7, 3) := dq_at zd_dX12_init_0 5 rfl
theorem dX12_init_13 : decode cX12_init 13 = .ok (.aload_n 0, 1) := dq_at zd_dX12_init_0 6 rfl
theorem dX12_init_14 : decode cX12_init 14 = .ok (.bipush 120, 2) := dq_at zd_dX12_init_0 7 rfl
theorem dX12_init_16 : decode cX12_init 16 = .ok (.newarray .int, 2) := dq_at zd_dX12_init_0 8 rfl
theorem dX12_init_18 : decode cX12_init 18 = .ok (.dup, 1) := dq_at zd_dX12_init_0 9 rfl
theorem dX12_init_19 : decode cX12_init 19 = .ok (.iconst 0, 1) := dq_at zd_dX12_init_0 10 rfl
theorem dX12_init_20 : decode cX12_init 20 = .ok (.bipush 115, 2) := dq_at zd_dX12_init_0 11 rfl
theorem dX12_init_22 : decode cX12_init 22 = .ok (.iastore, 1) := dq_at zd_dX12_init_0 12 rfl
theorem dX12_init_23 : decode cX12_init 23 = .ok (.dup, 1) := dq_at zd_dX12_init_0 13 rfl
theorem dX12_init_24 : decode cX12_init 24 = .ok (.iconst 1, 1) := dq_at zd_dX12_init_0 14 rfl
theorem dX12_init_25 : decode cX12_init 25 = .ok (.bipush 101, 2) := dq_at zd_dX12_init_0 15 rfl
theorem dX12_init_27 : decode cX12_init 27 = .ok (.iastore, 1) := dq_at zd_dX12_init_0 16 rfl
theorem dX12_init_28 : decode cX12_init 28 = .ok (.dup, 1) := dq_at zd_dX12_init_0 17 rfl
theorem dX12_init_29 : decode cX12_init 29 = .ok (.iconst 2, 1) := dq_at zd_dX12_init_0 18 rfl
theorem dX12_init_30 : decode cX12_init 30 = .ok (.bipush 97, 2) := dq_at zd_dX12_init_0 19 rfl
theorem dX12_init_32 : decode cX12_init 32 = .ok (.iastore, 1) := dq_at zd_dX12_init_0 20 rfl
theorem dX12_init_33 : decode cX12_init 33 = .ok (.dup, 1) := dq_at zd_dX12_init_0 21 rfl
theorem dX12_init_34 : decode cX12_init 34 = .ok (.iconst 3, 1) := dq_at zd_dX12_init_0 22 rfl
theorem dX12_init_35 : decode cX12_init 35 = .ok (.bipush 32, 2) := dq_at zd_dX12_init_0 23 rfl
theorem zd_dX12_init_37 : dq cX12_init [(37, .iastore, 1), (38, .dup, 1), (39, .iconst 4, 1), (40, .bipush 112, 2), (42, .iastore, 1), (43, .dup, 1), (44, .iconst 5, 1), (45, .bipush 101, 2), (47, .iastore, 1), (48, .dup, 1), (49, .bipush 6, 2), (51, .bipush 97, 2), (53, .iastore, 1), (54, .dup, 1), (55, .bipush 7, 2), (57, .bipush 107, 2), (59, .iastore, 1), (60, .dup, 1), (61, .bipush 8, 2), (63, .bipush 32, 2), (65, .iastore, 1), (66, .dup, 1), (67, .bipush 9, 2), (69, .bipush 115, 2)] = true := by decide +kernel
theorem dX12_init_37 : decode cX12_init 37 = .ok (.iastore, 1) := dq_at zd_dX12_init_37 0 rfl
theorem dX12_init_38 : decode cX12_init 38 = .ok (.dup, 1) := dq_at zd_dX12_init_37 1 rfl
theorem dX12_init_39 : decode cX12_init 39 = .ok (.iconst 4, 1) := dq_at zd_dX12_init_37 2 rfl
theorem dX12_init_40 : decode cX12_init 40 = .ok (.bipush 112, 2) := dq_at zd_dX12_init_37 3 rfl
theorem dX12_init_42 : decode cX12_init 42 = .ok (.iastore, 1) := dq_at zd_dX12_init_37 4 rfl
theorem dX12_init_43 : decode cX12_init 43 = .ok (.dup, 1) := dq_at zd_dX12_init_37 5 rfl
theorem dX12_init_44 : decode cX12_init 44 = .ok (.iconst 5, 1) := dq_at zd_dX12_init_37 6 rfl
theorem dX12_init_45 : decode cX12_init 45 = .ok (.bipush 101, 2) := dq_at zd_dX12_init_37 7 rfl
theorem dX12_init_47 : decode cX12_init 47 = .ok (.iastore, 1) := dq_at zd_dX12_init_37 8 rfl
theorem dX12_init_48 : decode cX12_init 48 = .ok (.dup, 1) := dq_at zd_dX12_init_37 9 rfl
theorem dX12_init_49 : decode cX12_init 49 = .ok (.bipush 6, 2) := dq_at zd_dX12_init_37 10 rfl
theorem dX12_init_51 : decode cX12_init 51 = .ok (.bipush 97, 2) := dq_at zd_dX12_init_37 11 rfl
theorem dX12_init_53 : decode cX12_init 53 = .ok (.iastore, 1) := dq_at zd_dX12_init_37 12 rfl
theorem dX12_init_54 : decode cX12_init 54 = .ok (.dup, 1) := dq_at zd_dX12_init_37 13 rfl
theorem dX12_init_55 : decode cX12_init 55 = .ok (.bipush 7, 2) := dq_at zd_dX12_init_37 14 rfl
theorem dX12_init_57 : decode cX12_init 57 = .ok (.bipush 107, 2) := dq_at zd_dX12_init_37 15 rfl
theorem dX12_init_59 : decode cX12_init 59 = .ok (.iastore, 1) := dq_at zd_dX12_init_37 16 rfl
theorem dX12_init_60 : decode cX12_init 60 = .ok (.dup, 1) := dq_at zd_dX12_init_37 17 rfl
theorem dX12_init_61 : decode cX12_init 61 = .ok (.bipush 8, 2) := dq_at zd_dX12_init_37 18 rfl
theorem dX12_init_63 : decode cX12_init 63 = .ok (.bipush 32, 2) := dq_at zd_dX12_init_37 19 rfl
theorem dX12_init_65 : decode cX12_init 65 = .ok (.iastore, 1) := dq_at zd_dX12_init_37 20 rfl
theorem dX12_init_66 : decode cX12_init 66 = .ok (.dup, 1) := dq_at zd_dX12_init_37 21 rfl
theorem dX12_init_67 : decode cX12_init 67 = .ok (.bipush 9, 2) := dq_at zd_dX12_init_37 22 rfl
theorem dX12_init_69 : decode cX12_init 69 = .ok (.bipush 115, 2) := dq_at zd_dX12_init_37 23 rfl
theorem zd_dX12_init_71 : dq cX12_init [(71, .iastore, 1), (72, .dup, 1), (73, .bipush 10, 2), (75, .bipush 117, 2), (77, .iastore, 1), (78, .dup, 1), (79, .bipush 11, 2), (81, .bipush 114, 2), (83, .iastore, 1), (84, .dup, 1), (85, .bipush 12, 2), (87, .bipush 102, 2), (89, .iastore, 1), (90, .dup, 1), (91, .bipush 13, 2), (93, .bipush 101, 2), (95, .iastore, 1), (96, .dup, 1), (97, .bipush 14, 2), (99, .bipush 114, 2), (101, .iastore, 1), (102, .dup, 1), (103, .bipush 15, 2), (105, .bipush 32, 2)] = true := by decide +kernel
theorem dX12_init_71 : decode cX12_init 71 = .ok (.iastore, 1) := dq_at zd_dX12_init_71 0 rfl
theorem dX12_init_72 : decode cX12_init 72 = .ok (.dup, 1) := dq_at zd_dX12_init_71 1 rfl
theorem dX12_init_73 : decode cX12_init 73 = .ok (.bipush 10, 2) := dq_at zd_dX12_init_71 2 rfl
theorem dX12_init_75 : decode cX12_init 75 = .ok (.bipush 117, 2) := dq_at zd_dX12_init_71 3 rfl
theorem dX12_init_77 : decode cX12_init 77 = .ok (.iastore, 1) := dq_at zd_dX12_init_71 4 rfl
theorem dX12_init_78 : decode cX12_init 78 = .ok (.dup, 1) := dq_at zd_dX12_init_71 5 rfl
theorem dX12_init_79 : decode cX12_init 79 = .ok (.bipush 11, 2) := dq_at zd_dX12_init_71 6 rfl
theorem dX12_init_81 : decode cX12_init 81 = .ok (.bipush 114, 2) := dq_at zd_dX12_init_71 7 rfl
theorem dX12_init_83 : decode cX12_init 83 = .ok (.iastore, 1) := dq_at zd_dX12_init_71 8 rfl
theorem dX12_init_84 : decode cX12_init 84 = .ok (.dup, 1) := dq_at zd_dX12_init_71 9 rfl
theorem dX12_init_85 : decode cX12_init 85 = .ok (.bipush 12, 2) := dq_at zd_dX12_init_71 10 rfl
theorem dX12_init_87 : decode cX12_init 87 = .ok (.bipush 102, 2) := dq_at zd_dX12_init_71 11 rfl
theorem dX12_init_89 : decode cX12_init 89 = .ok (.iastore, 1) := dq_at zd_dX12_init_71 12 rfl
theorem dX12_init_90 : decode cX12_init 90 = .ok (.dup, 1) := dq_at zd_dX12_init_71 13 rfl
theorem dX12_init_91 : decode cX12_init 91 = .ok (.bipush 13, 2) := dq_at zd_dX12_init_71 14 rfl
theorem dX12_init_93 : decode cX12_init 93 = .ok (.bipush 101, 2) := dq_at zd_dX12_init_71 15 rfl
theorem dX12_init_95 : decode cX12_init 95 = .ok (.iastore, 1) := dq_at zd_dX12_init_71 16 rfl
theorem dX12_init_96 : decode cX12_init 96 = .ok (.dup, 1) := dq_at zd_dX12_init_71 17 rfl
theorem dX12_init_97 : decode cX12_init 97 = .ok (.bipush 14, 2) := dq_at zd_dX12_init_71 18 rfl
theorem dX12_init_99 : decode cX12_init 99 = .ok (.bipush 114, 2) := dq_at zd_dX12_init_71 19 rfl
theorem dX12_init_101 : decode cX12_init 101 = .ok (.iastore, 1) := dq_at zd_dX12_init_71 20 rfl
theorem dX12_init_102 : decode cX12_init 102 = .ok (.dup, 1) := dq_at zd_dX12_init_71 21 rfl
theorem dX12_init_103 : decode cX12_init 103 = .ok (.bipush 15, 2) := dq_at zd_dX12_init_71 22 rfl
theorem dX12_init_105 : decode cX12_init 105 = .ok (.bipush 32, 2) := dq_at zd_dX12_init_71 23 rfl
theorem zd_dX12_init_107 : dq cX12_init [(107, .iastore, 1), (108, .dup, 1), (109, .bipush 16, 2), (111, .bipush 115, 2), (113, .iastore, 1), (114, .dup, 1), (115, .bipush 17, 2), (117, .bipush 101, 2), (119, .iastore, 1), (120, .dup, 1), (121, .bipush 18, 2), (123, .bipush 116, 2), (125, .iastore, 1), (126, .dup, 1), (127, .bipush 19, 2), (129, .bipush 32, 2), (131, .iastore, 1), (132, .dup, 1), (133, .bipush 20, 2), (135, .bipush 98, 2), (137, .iastore, 1), (138, .dup, 1), (139, .bipush 21, 2)] = true := by decide +kernel
theorem dX12_init_107 : decode cX12_init 107 = .ok (.iastore, 1) := dq_at zd_dX12_init_107 0 rfl
theorem dX12_init_108 : decode cX12_init 108 = .ok (.dup, 1) := dq_at zd_dX12_init_107 1 rfl
theorem dX12_init_109 : decode cX12_init 109 = .ok (.bipush 16, 2) := dq_at zd_dX12_init_107 2 rfl
theorem dX12_init_111 : decode cX12_init 111 = .ok (.bipush 115, 2) := dq_at zd_dX12_init_107 3 rfl
theorem dX12_init_113 : decode cX12_init 113 = .ok (.iastore, 1) := dq_at zd_dX12_init_107 4 rfl
theorem dX12_init_114 : decode cX12_init 114 = .ok (.dup, 1) := dq_at zd_dX12_init_107 5 rfl
theorem dX12_init_115 : decode cX12_init 115 = .ok (.bipush 17, 2) := dq_at zd_dX12_init_107 6 rfl
theorem dX12_init_117 : decode cX12_init 117 = .ok (.bipush 101, 2) := dq_at zd_dX12_init_107 7 rfl
theorem dX12_init_119 : decode cX12_init 119 = .ok (.iastore, 1) := dq_at zd_dX12_init_107 8 rfl
theorem dX12_init_120 : decode cX12_init 120 = .ok (.dup, 1) := dq_at zd_dX12_init_107 9 rfl
theorem dX12_init_121 : decode cX12_init 121 = .ok (.bipush 18, 2) := dq_at zd_dX12_init_107 10 rfl
theorem dX12_init_123 : decode cX12_init 123 = .ok (.bipush 116, 2) := dq_at zd_dX12_init_107 11 rfl
theorem dX12_init_125 : decode cX12_init 125 = .ok (.iastore, 1) := dq_at zd_dX12_init_107 12 rfl
theorem dX12_init_126 : decode cX12_init 126 = .ok (.dup, 1) := dq_at zd_dX12_init_107 13 rfl
theorem dX12_init_127 : decode cX12_init 127 = .ok (.bipush 19, 2) := dq_at zd_dX12_init_107 14 rfl
theorem dX12_init_129 : decode cX12_init 129 = .ok (.bipush 32, 2) := dq_at zd_dX12_init_107 15 rfl
theorem dX12_init_131 : decode cX12_init 131 = .ok (.iastore, 1) := dq_at zd_dX12_init_107 16 rfl
theorem dX12_init_132 : decode cX12_init 132 = .ok (.dup, 1) := dq_at zd_dX12_init_107 17 rfl
theorem dX12_init_133 : decode cX12_init 133 = .ok (.bipush 20, 2) := dq_at zd_dX12_init_107 18 rfl
theorem dX12_init_135 : decode cX12_init 135 = .ok (.bipush 98, 2) := dq_at zd_dX12_init_107 19 rfl
theorem dX12_init_137 : decode cX12_init 137 = .ok (.iastore, 1) := dq_at zd_dX12_init_107 20 rfl
theorem dX12_init_138 : decode cX12_init 138 = .ok (.dup, 1) := dq_at zd_dX12_init_107 21 rfl
theorem dX12_init_139 : decode cX12_init 139 = .ok (.bipush 21, 2) := dq_at zd_dX12_init_107 22 rfl
