section
variable {p : Program} {l : Launch} {e : Env} {s : State} {m : MethodId} {args : Array Value} {below : List Frame} {meth : Method} {c : Code} {D : va_G} {cy : Nat → ClassId} {b : Nat} {A : Nat → Prop} {fl : Bool}
def vX11_fairest : List Cond := .code yX11_fairest cX11_fairest 8 (some .int) :: TB
theorem gX11_fairest_X11_runBy : GoodIn vX11_fairest (wsV RX11 284 RX11 yX11_runBy vX11_runBy) := gV_of wT_57_6 wT_57_7 wT_57_8 wT_1_2 wT_57_9
theorem lf11_fairest_51 : Fl vX11_fairest RX11 51 11 8 := ⟨RX11, TX11, 14, rfl, by decide, (fun w h9 => List.mem_cons_of_mem _ (wC_wsX110 w h9)), (List.mem_cons_of_mem _ wT_2_9)⟩
theorem lf11_fairest_18 : Fl vX11_fairest RX11 18 11 3 := ⟨RX11, TX11, 14, rfl, by decide, (fun w h9 => List.mem_cons_of_mem _ (wC_wsX110 w h9)), (List.mem_cons_of_mem _ wT_1_18)⟩
theorem lf11_fairest_102 : Fl vX11_fairest RX11 102 8 4 := ⟨RX8, TX8, 14, rfl, by decide, (fun w h9 => List.mem_cons_of_mem _ (wC_wsX80 w h9)), (List.mem_cons_of_mem _ wT_32_14)⟩
theorem lf11_fairest_106 : Fl vX11_fairest RX11 106 1 0 := ⟨RX1, TX1, 7, rfl, by decide, (fun w h9 => List.mem_cons_of_mem _ (wC_wsX10 w h9)), (List.mem_cons_of_mem _ wT_32_15)⟩
theorem gX11_fairest_X4_unlike : GoodIn vX11_fairest (wsV RX11 293 RX4 yX4_unlike vX4_unlike) := gV_of wT_57_19 wT_57_20 wT_57_21 wT_2_7 wT_57_22
theorem lf11_fairest_287 : Fl vX11_fairest RX11 287 4 3 := ⟨RX4, TX4, 11, rfl, by decide, (fun w h9 => List.mem_cons_of_mem _ (wC_wsX40 w h9)), (List.mem_cons_of_mem _ wT_57_4)⟩
theorem lf11_fairest_290 : Fl vX11_fairest RX11 290 4 4 := ⟨RX4, TX4, 11, rfl, by decide, (fun w h9 => List.mem_cons_of_mem _ (wC_wsX40 w h9)), (List.mem_cons_of_mem _ wT_57_5)⟩
theorem cd11_fairest : Cd yX11_fairest 1 := ⟨by decide, by decide, by decide +kernel⟩
set_option maxHeartbeats 4000000 in
set_option maxRecDepth 100000 in
theorem T11_fairest_89 (S : CallFix p m c cX11_fairest 8 s args vX11_fairest RX11) (hr : meth.sig.returnType = (some .int)) (hlo : meth.locks = false) {out : Int32 × PH} {k16 : PH → Nat → Int32 → Int32 → Int32 → Int32 → Int32 → Option (Int32 × PH)} (hk16 : ∀ {h : PH} {a0 : Nat} {x1 : Int32} {x2 : Int32} {x3 : Int32} {x4 : Int32} {x5 : Int32}, k16 h a0 x1 x2 x3 x4 x5 = some out → ∀ (H : Heap) (locs : List Loc), ph_I D cy b A false h s H locs → ∀ (ls : Array Slot), lv_has ls 8 [(0, .ref (b + a0)), (1, .int x1), (2, .int x2), (3, .int x3), (4, .int x4), (5, .int x5)] → W p l e ({ frames := 7, cells := 0, slots := 0, locals := 177 } : Room) s m args below meth c H locs 0 0 (MQ below (va_Qi (fun (r : Int32) (u : PH) => (r, u) = out) (ph_B D cy b A false) A) args s 0 0 A) (F0 m 16 ls [])) {h : PH} {a0 : Nat} {x1 : Int32} {x5 : Int32} {x6 : Int32} {x7 : Int32} (f : F11_fairest_89 k16 h a0 x1 x5 x6 x7 = some out) {H : Heap} {locs : List Loc} (I : ph_I D cy b A false h s H locs) {ls : Array Slot} (hl : lv_has ls 8 [(0, .ref (b + a0)), (1, .int x1), (5, .int x5), (6, .int x6), (7, .int x7)]) : W p l e ({ frames := 7, cells := 0, slots := 0, locals := 177 } : Room) s m args below meth c H locs 0 0 (MQ below (va_Qi (fun (r : Int32) (u : PH) => (r, u) = out) (ph_B D cy b A false) A) args s 0 0 A) (F0 m 89 ls []) := by
  unfold F11_fairest_89 at f
  refine lv_iload S.1 S.2.1 dX11_fairest_89 (lv_at hl 2 rfl) ?_
  refine lv_istore_n (lv' := [(2, .int x5), (0, .ref (b + a0)), (1, .int x1), (5, .int x5), (6, .int x6), (7, .int x7)]) S.1 S.2.1 dX11_fairest_91 rfl hl (by decide) rfl (fun ls hl => ?_)
  refine lv_iload S.1 S.2.1 dX11_fairest_92 (lv_at hl 4 rfl) ?_
  refine lv_istore_n (lv' := [(3, .int x6), (2, .int x5), (0, .ref (b + a0)), (1, .int x1), (5, .int x5), (6, .int x6), (7, .int x7)]) S.1 S.2.1 dX11_fairest_94 rfl hl (by decide) rfl (fun ls hl => ?_)
  refine lv_iload S.1 S.2.1 dX11_fairest_95 (lv_at hl 6 rfl) ?_
  refine lv_istore (lv' := [(4, .int x7), (3, .int x6), (2, .int x5), (0, .ref (b + a0)), (1, .int x1), (5, .int x5), (6, .int x6), (7, .int x7)]) S.1 S.2.1 dX11_fairest_97 hl (by decide) rfl (fun ls hl => ?_)
  refine lv_iinc (v := (x5 + 1)) (lv' := [(5, .int (x5 + 1)), (4, .int x7), (3, .int x6), (2, .int x5), (0, .ref (b + a0)), (1, .int x1), (6, .int x6), (7, .int x7)]) S.1 S.2.1 dX11_fairest_99 hl (k := 5) rfl (congrArg (fun z => x5 + z) (by decide)) (by decide) rfl (fun ls hl => ?_)
  refine lv_goto (tgt := 16) S.1 S.2.1 dX11_fairest_102 (by decide) ?_
  exact hk16 f _ _ I _ (lv_sub hl [4, 5, 3, 2, 1, 0] rfl)
set_option maxHeartbeats 4000000 in
set_option maxRecDepth 100000 in
theorem T11_fairest_16 (S : CallFix p m c cX11_fairest 8 s args vX11_fairest RX11) (hr : meth.sig.returnType = (some .int)) (hlo : meth.locks = false) {out : Int32 × PH} : ∀ (n : Nat) {h : PH} {a0 : Nat} {x1 : Int32} {x2 : Int32} {x3 : Int32} {x4 : Int32} {x5 : Int32} (f : F11_fairest_16  n h a0 x1 x2 x3 x4 x5 = some out) {H : Heap} {locs : List Loc} (I : ph_I D cy b A false h s H locs) {ls : Array Slot} (hl : lv_has ls 8 [(0, .ref (b + a0)), (1, .int x1), (2, .int x2), (3, .int x3), (4, .int x4), (5, .int x5)]), W p l e ({ frames := 7, cells := 0, slots := 0, locals := 177 } : Room) s m args below meth c H locs 0 0 (MQ below (va_Qi (fun (r : Int32) (u : PH) => (r, u) = out) (ph_B D cy b A false) A) args s 0 0 A) (F0 m 16 ls []) := by
  intro n
  induction n with
  | zero => intro h a0 x1 x2 x3 x4 x5 f; rw [F11_fairest_16] at f; cases f
  | succ n ih =>
    intro h a0 x1 x2 x3 x4 x5 f H locs I ls hl
    rw [F11_fairest_16] at f
    refine lv_iload S.1 S.2.1 dX11_fairest_16 (lv_at hl 5 rfl) ?_
    refine lv_iconst (v := 4) S.1 S.2.1 dX11_fairest_18 (by decide) ?_
    refine lv_icmp_ge (tgt := 105) S.1 S.2.1 dX11_fairest_19 (by decide) (fun q1 => ?_) (fun q1 => ?_)
    · have f := (if_pos q1).symm.trans f
      refine lv_iload_n S.1 S.2.1 dX11_fairest_105 rfl (lv_at hl 2 rfl) ?_
      exact o_iret S hr hlo I f dX11_fairest_106
    · have f := (if_neg q1).symm.trans f
      refine lv_aload_n S.1 S.2.1 dX11_fairest_22 rfl (lv_at hl 0 rfl) ?_
      refine lv_iload S.1 S.2.1 dX11_fairest_23 (lv_at hl 5 rfl) ?_
      refine lv_iload_n S.1 S.2.1 dX11_fairest_25 rfl (lv_at hl 1 rfl) ?_
      obtain ⟨o2, e3, f⟩ := ob f
      refine o_Vv S (As := [.int x5, .int x1]) (rest := []) (ci := 11) (M11_runBy l D cy b A e3) gX11_fairest_X11_runBy rfl rfl rfl cd11_runBy ⟨Nat.le_of_ble_eq_true rfl, Nat.le_of_ble_eq_true rfl⟩ I (gd e3).1 clX11 rfl rfl hl.1 rfl (Nat.le_of_ble_eq_true rfl) dX11_fairest_26 ⟨Nat.le_of_ble_eq_true rfl, Nat.le_of_ble_eq_true rfl⟩ (fun H locs I => ?_)
      refine lv_aload_n S.1 S.2.1 dX11_fairest_29 rfl (lv_at hl 0 rfl) ?_
      obtain ⟨r4, e5, f⟩ := ob f
      refine o_gR S lf11_fairest_51 I e5 dX11_fairest_30 ?_
      refine lv_aload_n S.1 S.2.1 dX11_fairest_33 rfl (lv_at hl 0 rfl) ?_
      obtain ⟨r6, e7, f⟩ := ob f
      refine o_gR S lf11_fairest_18 I e7 dX11_fairest_34 ?_
      obtain ⟨r8, e9, f⟩ := ob f
      refine o_gR S lf11_fairest_102 I e9 dX11_fairest_37 ?_
      obtain ⟨v10, e11, f⟩ := ob f
      refine o_gI S lf11_fairest_106 I e11 dX11_fairest_40 ?_
      obtain ⟨o12, e13, f⟩ := ob f
      refine o_Vi S (As := [.int v10]) (rest := []) (ci := 4) (M4_unlike l D cy b A false e13) gX11_fairest_X4_unlike rfl rfl rfl cd4_unlike ⟨Nat.le_of_ble_eq_true rfl, Nat.le_of_ble_eq_true rfl⟩ I (gd e13).1 clX4 rfl rfl hl.1 rfl (Nat.le_of_ble_eq_true rfl) dX11_fairest_43 ⟨Nat.le_of_ble_eq_true rfl, Nat.le_of_ble_eq_true rfl⟩ (fun H locs I => ?_)
      refine lv_istore (lv' := [(6, .int o12.1), (0, .ref (b + a0)), (1, .int x1), (2, .int x2), (3, .int x3), (4, .int x4), (5, .int x5)]) S.1 S.2.1 dX11_fairest_46 hl (by decide) rfl (fun ls hl => ?_)
      refine lv_aload_n S.1 S.2.1 dX11_fairest_48 rfl (lv_at hl 1 rfl) ?_
      obtain ⟨r14, e15, f⟩ := ob f
      refine o_gR S lf11_fairest_51 I e15 dX11_fairest_49 ?_
      obtain ⟨v16, e17, f⟩ := ob f
      refine o_gI S lf11_fairest_287 I e17 dX11_fairest_52 ?_
      refine lv_aload_n S.1 S.2.1 dX11_fairest_55 rfl (lv_at hl 1 rfl) ?_
      obtain ⟨r18, e19, f⟩ := ob f
      refine o_gR S lf11_fairest_51 I e19 dX11_fairest_56 ?_
      obtain ⟨v20, e21, f⟩ := ob f
      refine o_gI S lf11_fairest_290 I e21 dX11_fairest_59 ?_
      refine lv_iadd S.1 S.2.1 dX11_fairest_62 ?_
      refine lv_istore (lv' := [(7, .int (v16 + v20)), (6, .int o12.1), (0, .ref (b + a0)), (1, .int x1), (2, .int x2), (3, .int x3), (4, .int x4), (5, .int x5)]) S.1 S.2.1 dX11_fairest_63 hl (by decide) rfl (fun ls hl => ?_)
      refine lv_iload_n S.1 S.2.1 dX11_fairest_65 rfl (lv_at hl 4 rfl) ?_
      refine lv_iconst (v := (-1)) S.1 S.2.1 dX11_fairest_66 (by decide) ?_
      refine lv_icmp_eq (tgt := 89) S.1 S.2.1 dX11_fairest_67 (by decide) (fun q22 => ?_) (fun q22 => ?_)
      · have f := (if_pos q22).symm.trans f
        exact T11_fairest_89 S hr hlo (fun f _ _ I _ hl => ih f I hl) f I (lv_sub hl [2, 3, 7, 1, 0] rfl)
      · have f := (if_neg q22).symm.trans f
        refine lv_iload S.1 S.2.1 dX11_fairest_70 (lv_at hl 1 rfl) ?_
        refine lv_iload_n S.1 S.2.1 dX11_fairest_72 rfl (lv_at hl 5 rfl) ?_
        refine lv_icmp_lt (tgt := 89) S.1 S.2.1 dX11_fairest_73 (by decide) (fun q23 => ?_) (fun q23 => ?_)
        · have f := (if_pos q23).symm.trans f
          exact T11_fairest_89 S hr hlo (fun f _ _ I _ hl => ih f I hl) f I (lv_sub hl [2, 3, 7, 1, 0] rfl)
        · have f := (if_neg q23).symm.trans f
          refine lv_iload S.1 S.2.1 dX11_fairest_76 (lv_at hl 1 rfl) ?_
          refine lv_iload_n S.1 S.2.1 dX11_fairest_78 rfl (lv_at hl 5 rfl) ?_
          refine lv_icmp_ne (tgt := 99) S.1 S.2.1 dX11_fairest_79 (by decide) (fun q24 => ?_) (fun q24 => ?_)
          · have f := (if_neg q24).symm.trans f
            refine lv_iinc (v := (x5 + 1)) (lv' := [(5, .int (x5 + 1)), (7, .int (v16 + v20)), (6, .int o12.1), (0, .ref (b + a0)), (1, .int x1), (2, .int x2), (3, .int x3), (4, .int x4)]) S.1 S.2.1 dX11_fairest_99 hl (k := 7) rfl (congrArg (fun z => x5 + z) (by decide)) (by decide) rfl (fun ls hl => ?_)
            refine lv_goto (tgt := 16) S.1 S.2.1 dX11_fairest_102 (by decide) ?_
            exact ih f I (lv_sub hl [3, 4, 5, 6, 7, 0] rfl)
          · have f := (if_pos q24).symm.trans f
            refine lv_iload S.1 S.2.1 dX11_fairest_82 (lv_at hl 0 rfl) ?_
            refine lv_iload S.1 S.2.1 dX11_fairest_84 (lv_at hl 6 rfl) ?_
            refine lv_icmp_ge (tgt := 99) S.1 S.2.1 dX11_fairest_86 (by decide) (fun q25 => ?_) (fun q25 => ?_)
            · have f := (if_pos q25).symm.trans f
              refine lv_iinc (v := (x5 + 1)) (lv' := [(5, .int (x5 + 1)), (7, .int (v16 + v20)), (6, .int o12.1), (0, .ref (b + a0)), (1, .int x1), (2, .int x2), (3, .int x3), (4, .int x4)]) S.1 S.2.1 dX11_fairest_99 hl (k := 7) rfl (congrArg (fun z => x5 + z) (by decide)) (by decide) rfl (fun ls hl => ?_)
              refine lv_goto (tgt := 16) S.1 S.2.1 dX11_fairest_102 (by decide) ?_
              exact ih f I (lv_sub hl [3, 4, 5, 6, 7, 0] rfl)
            · have f := (if_neg q25).symm.trans f
              exact T11_fairest_89 S hr hlo (fun f _ _ I _ hl => ih f I hl) f I (lv_sub hl [2, 3, 7, 1, 0] rfl)
set_option maxHeartbeats 4000000 in
set_option maxRecDepth 100000 in
theorem T11_fairest_0 (S : CallFix p m c cX11_fairest 8 s args vX11_fairest RX11) (hr : meth.sig.returnType = (some .int)) (hlo : meth.locks = false) {out : Int32 × PH} {h : PH} {a0 : Nat} {x1 : Int32} (f : F11_fairest_0  h a0 x1 = some out) {H : Heap} {locs : List Loc} (I : ph_I D cy b A false h s H locs) {ls : Array Slot} (hl : lv_has ls 8 [(0, .ref (b + a0)), (1, .int x1)]) : W p l e ({ frames := 7, cells := 0, slots := 0, locals := 177 } : Room) s m args below meth c H locs 0 0 (MQ below (va_Qi (fun (r : Int32) (u : PH) => (r, u) = out) (ph_B D cy b A false) A) args s 0 0 A) (F0 m 0 ls []) := by
  unfold F11_fairest_0 at f
  refine lv_iload_n S.1 S.2.1 dX11_fairest_0 rfl (lv_at hl 1 rfl) ?_
  refine lv_if_ge (tgt := 6) S.1 S.2.1 dX11_fairest_1 (by decide) (fun q1 => ?_) (fun q1 => ?_)
  · have f := (if_pos q1).symm.trans f
    refine lv_iconst (v := (-1)) S.1 S.2.1 dX11_fairest_6 (by decide) ?_
    refine lv_istore_n (lv' := [(2, .int (-1)), (0, .ref (b + a0)), (1, .int x1)]) S.1 S.2.1 dX11_fairest_7 rfl hl (by decide) rfl (fun ls hl => ?_)
    refine lv_iconst (v := 0) S.1 S.2.1 dX11_fairest_8 (by decide) ?_
    refine lv_istore_n (lv' := [(3, .int 0), (2, .int (-1)), (0, .ref (b + a0)), (1, .int x1)]) S.1 S.2.1 dX11_fairest_9 rfl hl (by decide) rfl (fun ls hl => ?_)
    refine lv_iconst (v := 0) S.1 S.2.1 dX11_fairest_10 (by decide) ?_
    refine lv_istore (lv' := [(4, .int 0), (3, .int 0), (2, .int (-1)), (0, .ref (b + a0)), (1, .int x1)]) S.1 S.2.1 dX11_fairest_11 hl (by decide) rfl (fun ls hl => ?_)
    refine lv_iconst (v := 0) S.1 S.2.1 dX11_fairest_13 (by decide) ?_
    refine lv_istore (lv' := [(5, .int 0), (4, .int 0), (3, .int 0), (2, .int (-1)), (0, .ref (b + a0)), (1, .int x1)]) S.1 S.2.1 dX11_fairest_14 hl (by decide) rfl (fun ls hl => ?_)
    exact T11_fairest_16 S hr hlo  1024 f I (lv_sub hl [4, 5, 3, 2, 1, 0] rfl)
  · have f := (if_neg q1).symm.trans f
    refine lv_iconst (v := (-1)) S.1 S.2.1 dX11_fairest_4 (by decide) ?_
    exact o_iret S hr hlo I f dX11_fairest_5
theorem M11_fairest (l : Launch) (D : va_G) (cy : Nat → ClassId) (b : Nat) (A : Nat → Prop) {h : PH} {a0 : Nat} {x1 : Int32} {out : Int32 × PH} (f : F11_fairest h a0 x1 = some out) : Met l yX11_fairest vX11_fairest ({ frames := 7, cells := 0, slots := 0, locals := 177 } : Room) (va_Pc [.ref (b + a0), .int x1] (ph_B D cy b A false h)) (va_Qi (fun (r : Int32) (u : PH) => (r, u) = out) (ph_B D cy b A false) A) 0 0 A :=
  o_met (by decide) rfl (Nat.le_of_ble_eq_true rfl) rfl (fun p e s m below meth c S hr hlo hnm ls hl I => T11_fairest_0 S hr hlo ((gd f).2) I (lv_sub hl [0, 1] rfl))
def vX11_fault : List Cond := .code yX11_fault cX11_fault 2 (some .int) :: TB
theorem lf11_fault_30 : Fl vX11_fault RX11 30 11 2 := ⟨RX11, TX11, 14, rfl, by decide, (fun w h9 => List.mem_cons_of_mem _ (wC_wsX110 w h9)), (List.mem_cons_of_mem _ wT_1_23)⟩
theorem lf11_fault_99 : Fl vX11_fault RX11 99 5 9 := ⟨RX5, TX5, 11, rfl, by decide, (fun w h9 => List.mem_cons_of_mem _ (wC_wsX50 w h9)), (List.mem_cons_of_mem _ wT_32_5)⟩
theorem lf11_fault_96 : Fl vX11_fault RX11 96 5 8 := ⟨RX5, TX5, 11, rfl, by decide, (fun w h9 => List.mem_cons_of_mem _ (wC_wsX50 w h9)), (List.mem_cons_of_mem _ wT_32_4)⟩
theorem cd11_fault : Cd yX11_fault 1 := ⟨by decide, by decide, by decide +kernel⟩
set_option maxHeartbeats 4000000 in
set_option maxRecDepth 100000 in
theorem T11_fault_0 (S : CallFix p m c cX11_fault 2 s args vX11_fault RX11) (hr : meth.sig.returnType = (some .int)) (hlo : meth.locks = false) {out : Int32 × PH} {h : PH} {a0 : Nat} {x1 : Int32} (f : F11_fault_0  h a0 x1 = some out) {H : Heap} {locs : List Loc} (I : ph_I D cy b A fl h s H locs) {ls : Array Slot} (hl : lv_has ls 2 [(0, .ref (b + a0)), (1, .int x1)]) : W p l e ({ frames := 0, cells := 0, slots := 0, locals := 0 } : Room) s m args below meth c H locs 0 0 (MQ below (va_Qi (fun (r : Int32) (u : PH) => (r, u) = out) (ph_B D cy b A fl) A) args s 0 0 A) (F0 m 0 ls []) := by
  unfold F11_fault_0 at f
  refine lv_iload_n S.1 S.2.1 dX11_fault_0 rfl (lv_at hl 1 rfl) ?_
  refine lv_if_ne (tgt := 12) S.1 S.2.1 dX11_fault_1 (by decide) (fun q1 => ?_) (fun q1 => ?_)
  · have f := (if_neg q1).symm.trans f
    refine lv_iload_n S.1 S.2.1 dX11_fault_12 rfl (lv_at hl 1 rfl) ?_
    refine lv_iconst (v := 1) S.1 S.2.1 dX11_fault_13 (by decide) ?_
    refine lv_icmp_ne (tgt := 27) S.1 S.2.1 dX11_fault_14 (by decide) (fun q2 => ?_) (fun q2 => ?_)
    · have f := (if_neg q2).symm.trans f
      refine lv_iconst (v := (-1)) S.1 S.2.1 dX11_fault_27 (by decide) ?_
      exact o_iret S hr hlo I f dX11_fault_28
    · have f := (if_pos q2).symm.trans f
      refine lv_aload_n S.1 S.2.1 dX11_fault_17 rfl (lv_at hl 0 rfl) ?_
      obtain ⟨r3, e4, f⟩ := ob f
      refine o_gR S lf11_fault_30 I e4 dX11_fault_18 ?_
      obtain ⟨v5, e6, f⟩ := ob f
      refine o_gI S lf11_fault_99 I e6 dX11_fault_21 ?_
      refine lv_goto (tgt := 28) S.1 S.2.1 dX11_fault_24 (by decide) ?_
      exact o_iret S hr hlo I f dX11_fault_28
  · have f := (if_pos q1).symm.trans f
    refine lv_aload_n S.1 S.2.1 dX11_fault_4 rfl (lv_at hl 0 rfl) ?_
    obtain ⟨r7, e8, f⟩ := ob f
    refine o_gR S lf11_fault_30 I e8 dX11_fault_5 ?_
    obtain ⟨v9, e10, f⟩ := ob f
    refine o_gI S lf11_fault_96 I e10 dX11_fault_8 ?_
    exact o_iret S hr hlo I f dX11_fault_11
theorem M11_fault (l : Launch) (D : va_G) (cy : Nat → ClassId) (b : Nat) (A : Nat → Prop) (fl : Bool) {h : PH} {a0 : Nat} {x1 : Int32} {out : Int32 × PH} (f : F11_fault h a0 x1 = some out) : Met l yX11_fault vX11_fault ({ frames := 0, cells := 0, slots := 0, locals := 0 } : Room) (va_Pc [.ref (b + a0), .int x1] (ph_B D cy b A fl h)) (va_Qi (fun (r : Int32) (u : PH) => (r, u) = out) (ph_B D cy b A fl) A) 0 0 A :=
  o_met (by decide) rfl (Nat.le_of_ble_eq_true rfl) rfl (fun p e s m below meth c S hr hlo hnm ls hl I => T11_fault_0 S hr hlo ((gd f).2) I (lv_sub hl [0, 1] rfl))
def vX11_putOnTape : List Cond := .code yX11_putOnTape cX11_putOnTape 3 none :: TB
theorem lf11_putOnTape_78 : Fl vX11_putOnTape RX11 78 11 1 := ⟨RX11, TX11, 14, rfl, by decide, (fun w h9 => List.mem_cons_of_mem _ (wC_wsX110 w h9)), (List.mem_cons_of_mem _ wT_13_8)⟩
theorem lf11_putOnTape_11 : Fl vX11_putOnTape RX11 11 11 0 := ⟨RX11, TX11, 14, rfl, by decide, (fun w h9 => List.mem_cons_of_mem _ (wC_wsX110 w h9)), (List.mem_cons_of_mem _ wT_1_14)⟩
theorem lp11_putOnTape_78 : Pl vX11_putOnTape RX11 78 11 1 .int := ⟨RX11, TX11, 14, tyX11, rfl, by decide, (fun w h9 => List.mem_cons_of_mem _ (wC_wsX110 w h9)), (List.mem_cons_of_mem _ wT_13_8), tyX11_ok, nmX11, rfl, rfl⟩
theorem cd11_putOnTape : Cd yX11_putOnTape 1 := ⟨by decide, by decide, by decide +kernel⟩
set_option maxHeartbeats 4000000 in
set_option maxRecDepth 100000 in
theorem T11_putOnTape_3 (S : CallFix p m c cX11_putOnTape 3 s args vX11_putOnTape RX11) (hr : meth.sig.returnType = none) (hlo : meth.locks = false) {out : PH} : ∀ (n : Nat) {h : PH} {a0 : Nat} {x1 : Int32} {x2 : Int32} (f : F11_putOnTape_3  n h a0 x1 x2 = some out) {H : Heap} {locs : List Loc} (I : ph_I D cy b A fl h s H locs) {ls : Array Slot} (hl : lv_has ls 3 [(0, .ref (b + a0)), (1, .int x1), (2, .int x2)]), W p l e ({ frames := 0, cells := 0, slots := 0, locals := 0 } : Room) s m args below meth c H locs 0 0 (MQ below (va_Qv (fun (u : PH) => u = out) (ph_B D cy b A fl) A) args s 0 0 A) (F0 m 3 ls []) := by
  intro n
  induction n with
  | zero => intro h a0 x1 x2 f; rw [F11_putOnTape_3] at f; cases f
  | succ n ih =>
    intro h a0 x1 x2 f H locs I ls hl
    rw [F11_putOnTape_3] at f
    refine lv_iload_n S.1 S.2.1 dX11_putOnTape_3 rfl (lv_at hl 2 rfl) ?_
    refine lv_if_lt (tgt := 46) S.1 S.2.1 dX11_putOnTape_4 (by decide) (fun q1 => ?_) (fun q1 => ?_)
    · have f := (if_pos q1).symm.trans f
      exact o_vret S hr hlo I f dX11_putOnTape_46
    · have f := (if_neg q1).symm.trans f
      refine lv_aload_n S.1 S.2.1 dX11_putOnTape_7 rfl (lv_at hl 0 rfl) ?_
      obtain ⟨v2, e3, f⟩ := ob f
      refine o_gI S lf11_putOnTape_78 I e3 dX11_putOnTape_8 ?_
      refine lv_sipush (v := 700) S.1 S.2.1 dX11_putOnTape_11 (by decide) ?_
      refine lv_icmp_ge (tgt := 46) S.1 S.2.1 dX11_putOnTape_14 (by decide) (fun q4 => ?_) (fun q4 => ?_)
      · have f := (if_pos q4).symm.trans f
        exact o_vret S hr hlo I f dX11_putOnTape_46
      · have f := (if_neg q4).symm.trans f
        refine lv_aload_n S.1 S.2.1 dX11_putOnTape_17 rfl (lv_at hl 0 rfl) ?_
        obtain ⟨r5, e6, f⟩ := ob f
        refine o_gR S lf11_putOnTape_11 I e6 dX11_putOnTape_18 ?_
        refine lv_aload_n S.1 S.2.1 dX11_putOnTape_21 rfl (lv_at hl 0 rfl) ?_
        obtain ⟨v7, e8, f⟩ := ob f
        refine o_gI S lf11_putOnTape_78 I e8 dX11_putOnTape_22 ?_
        refine lv_iload_n S.1 S.2.1 dX11_putOnTape_25 rfl (lv_at hl 1 rfl) ?_
        refine lv_iload_n S.1 S.2.1 dX11_putOnTape_26 rfl (lv_at hl 2 rfl) ?_
        refine lv_ishr S.1 S.2.1 dX11_putOnTape_27 ?_
        refine lv_i2b (v := (Int32.toInt8 (x1 >>> (x2 &&& 31))).toInt32) S.1 S.2.1 dX11_putOnTape_28 rfl ?_
        obtain ⟨h10, e9, f⟩ := ob f
        refine o_bast S I e9 dX11_putOnTape_29 (fun H locs I => ?_)
        refine lv_aload_n S.1 S.2.1 dX11_putOnTape_30 rfl (lv_at hl 0 rfl) ?_
        refine lv_dup S.1 S.2.1 dX11_putOnTape_31 rfl ?_
        obtain ⟨v11, e12, f⟩ := ob f
        refine o_gI S lf11_putOnTape_78 I e12 dX11_putOnTape_32 ?_
        refine lv_iconst (v := 1) S.1 S.2.1 dX11_putOnTape_35 (by decide) ?_
        refine lv_iadd S.1 S.2.1 dX11_putOnTape_36 ?_
        obtain ⟨h13, e14, f⟩ := ob f
        refine o_pI S lp11_putOnTape_78 I e14 dX11_putOnTape_37 (fun H locs I => ?_)
        refine lv_iinc (v := (x2 + (-8))) (lv' := [(2, .int (x2 + (-8))), (0, .ref (b + a0)), (1, .int x1)]) S.1 S.2.1 dX11_putOnTape_40 hl (k := 2) rfl (congrArg (fun z => x2 + z) (by decide)) (by decide) rfl (fun ls hl => ?_)
        refine lv_goto (tgt := 3) S.1 S.2.1 dX11_putOnTape_43 (by decide) ?_
        exact ih f I (lv_sub hl [1, 2, 0] rfl)
set_option maxHeartbeats 4000000 in
set_option maxRecDepth 100000 in
theorem T11_putOnTape_0 (S : CallFix p m c cX11_putOnTape 3 s args vX11_putOnTape RX11) (hr : meth.sig.returnType = none) (hlo : meth.locks = false) {out : PH} {h : PH} {a0 : Nat} {x1 : Int32} (f : F11_putOnTape_0  h a0 x1 = some out) {H : Heap} {locs : List Loc} (I : ph_I D cy b A fl h s H locs) {ls : Array Slot} (hl : lv_has ls 3 [(0, .ref (b + a0)), (1, .int x1)]) : W p l e ({ frames := 0, cells := 0, slots := 0, locals := 0 } : Room) s m args below meth c H locs 0 0 (MQ below (va_Qv (fun (u : PH) => u = out) (ph_B D cy b A fl) A) args s 0 0 A) (F0 m 0 ls []) := by
  unfold F11_putOnTape_0 at f
  refine lv_bipush (v := 24) S.1 S.2.1 dX11_putOnTape_0 (by decide) ?_
  refine lv_istore_n (lv' := [(2, .int 24), (0, .ref (b + a0)), (1, .int x1)]) S.1 S.2.1 dX11_putOnTape_2 rfl hl (by decide) rfl (fun ls hl => ?_)
  exact T11_putOnTape_3 S hr hlo  1024 f I (lv_sub hl [1, 2, 0] rfl)
theorem M11_putOnTape (l : Launch) (D : va_G) (cy : Nat → ClassId) (b : Nat) (A : Nat → Prop) (fl : Bool) {h : PH} {a0 : Nat} {x1 : Int32} {out : PH} (f : F11_putOnTape h a0 x1 = some out) : Met l yX11_putOnTape vX11_putOnTape ({ frames := 0, cells := 0, slots := 0, locals := 0 } : Room) (va_Pc [.ref (b + a0), .int x1] (ph_B D cy b A fl h)) (va_Qv (fun (u : PH) => u = out) (ph_B D cy b A fl) A) 0 0 A :=
  o_met (by decide) rfl (Nat.le_of_ble_eq_true rfl) rfl (fun p e s m below meth c S hr hlo hnm ls hl I => T11_putOnTape_0 S hr hlo ((gd f).2) I (lv_sub hl [0, 1] rfl))
def vX11_feed : List Cond := .code yX11_feed cX11_feed 6 (some .int) :: TB
theorem lf11_feed_78 : Fl vX11_feed RX11 78 11 1 := ⟨RX11, TX11, 14, rfl, by decide, (fun w h9 => List.mem_cons_of_mem _ (wC_wsX110 w h9)), (List.mem_cons_of_mem _ wT_13_8)⟩
theorem gX11_feed_X11_putOnTape : GoodIn vX11_feed (wsV RX11 82 RX11 yX11_putOnTape vX11_putOnTape) := gV_of wT_13_9 wT_13_10 wT_13_11 wT_1_2 wT_13_12
theorem cd11_feed : Cd yX11_feed 5 := ⟨by decide, by decide, by decide +kernel⟩
set_option maxHeartbeats 4000000 in
set_option maxRecDepth 100000 in
theorem T11_feed_0 (S : CallFix p m c cX11_feed 6 s args vX11_feed RX11) (hr : meth.sig.returnType = (some .int)) (hlo : meth.locks = false) {out : Int32 × PH} {h : PH} {a0 : Nat} {x1 : Int32} {x2 : Int32} {x3 : Int32} {x4 : Int32} {x5 : Int32} (f : F11_feed_0  h a0 x1 x2 x3 x4 x5 = some out) {H : Heap} {locs : List Loc} (I : ph_I D cy b A fl h s H locs) {ls : Array Slot} (hl : lv_has ls 6 [(0, .ref (b + a0)), (1, .int x1), (2, .int x2), (3, .int x3), (4, .int x4), (5, .int x5)]) : W p l e ({ frames := 1, cells := 0, slots := 0, locals := 22 } : Room) s m args below meth c H locs 0 0 (MQ below (va_Qi (fun (r : Int32) (u : PH) => (r, u) = out) (ph_B D cy b A fl) A) args s 0 0 A) (F0 m 0 ls []) := by
  unfold F11_feed_0 at f
  refine lv_aload_n S.1 S.2.1 dX11_feed_0 rfl (lv_at hl 0 rfl) ?_
  obtain ⟨v1, e2, f⟩ := ob f
  refine o_gI S lf11_feed_78 I e2 dX11_feed_1 ?_
  refine lv_bipush (v := 20) S.1 S.2.1 dX11_feed_4 (by decide) ?_
  refine lv_iadd S.1 S.2.1 dX11_feed_6 ?_
  refine lv_sipush (v := 700) S.1 S.2.1 dX11_feed_7 (by decide) ?_
  refine lv_icmp_le (tgt := 15) S.1 S.2.1 dX11_feed_10 (by decide) (fun q3 => ?_) (fun q3 => ?_)
  · have f := (if_pos q3).symm.trans f
    refine lv_aload_n S.1 S.2.1 dX11_feed_15 rfl (lv_at hl 0 rfl) ?_
    refine lv_iload_n S.1 S.2.1 dX11_feed_16 rfl (lv_at hl 1 rfl) ?_
    obtain ⟨o4, e5, f⟩ := ob f
    refine o_Vv S (As := [.int x1]) (rest := []) (ci := 11) (M11_putOnTape l D cy b A fl e5) gX11_feed_X11_putOnTape rfl rfl rfl cd11_putOnTape ⟨Nat.le_of_ble_eq_true rfl, Nat.le_of_ble_eq_true rfl⟩ I (gd e5).1 clX11 rfl rfl hl.1 rfl (Nat.le_of_ble_eq_true rfl) dX11_feed_17 ⟨Nat.le_of_ble_eq_true rfl, Nat.le_of_ble_eq_true rfl⟩ (fun H locs I => ?_)
    refine lv_aload_n S.1 S.2.1 dX11_feed_20 rfl (lv_at hl 0 rfl) ?_
    refine lv_iload_n S.1 S.2.1 dX11_feed_21 rfl (lv_at hl 2 rfl) ?_
    obtain ⟨o6, e7, f⟩ := ob f
    refine o_Vv S (As := [.int x2]) (rest := []) (ci := 11) (M11_putOnTape l D cy b A fl e7) gX11_feed_X11_putOnTape rfl rfl rfl cd11_putOnTape ⟨Nat.le_of_ble_eq_true rfl, Nat.le_of_ble_eq_true rfl⟩ I (gd e7).1 clX11 rfl rfl hl.1 rfl (Nat.le_of_ble_eq_true rfl) dX11_feed_22 ⟨Nat.le_of_ble_eq_true rfl, Nat.le_of_ble_eq_true rfl⟩ (fun H locs I => ?_)
    refine lv_aload_n S.1 S.2.1 dX11_feed_25 rfl (lv_at hl 0 rfl) ?_
    refine lv_iload_n S.1 S.2.1 dX11_feed_26 rfl (lv_at hl 3 rfl) ?_
    obtain ⟨o8, e9, f⟩ := ob f
    refine o_Vv S (As := [.int x3]) (rest := []) (ci := 11) (M11_putOnTape l D cy b A fl e9) gX11_feed_X11_putOnTape rfl rfl rfl cd11_putOnTape ⟨Nat.le_of_ble_eq_true rfl, Nat.le_of_ble_eq_true rfl⟩ I (gd e9).1 clX11 rfl rfl hl.1 rfl (Nat.le_of_ble_eq_true rfl) dX11_feed_27 ⟨Nat.le_of_ble_eq_true rfl, Nat.le_of_ble_eq_true rfl⟩ (fun H locs I => ?_)
    refine lv_aload_n S.1 S.2.1 dX11_feed_30 rfl (lv_at hl 0 rfl) ?_
    refine lv_iload S.1 S.2.1 dX11_feed_31 (lv_at hl 4 rfl) ?_
    obtain ⟨o10, e11, f⟩ := ob f
    refine o_Vv S (As := [.int x4]) (rest := []) (ci := 11) (M11_putOnTape l D cy b A fl e11) gX11_feed_X11_putOnTape rfl rfl rfl cd11_putOnTape ⟨Nat.le_of_ble_eq_true rfl, Nat.le_of_ble_eq_true rfl⟩ I (gd e11).1 clX11 rfl rfl hl.1 rfl (Nat.le_of_ble_eq_true rfl) dX11_feed_33 ⟨Nat.le_of_ble_eq_true rfl, Nat.le_of_ble_eq_true rfl⟩ (fun H locs I => ?_)
    refine lv_aload_n S.1 S.2.1 dX11_feed_36 rfl (lv_at hl 0 rfl) ?_
    refine lv_iload S.1 S.2.1 dX11_feed_37 (lv_at hl 5 rfl) ?_
    obtain ⟨o12, e13, f⟩ := ob f
    refine o_Vv S (As := [.int x5]) (rest := []) (ci := 11) (M11_putOnTape l D cy b A fl e13) gX11_feed_X11_putOnTape rfl rfl rfl cd11_putOnTape ⟨Nat.le_of_ble_eq_true rfl, Nat.le_of_ble_eq_true rfl⟩ I (gd e13).1 clX11 rfl rfl hl.1 rfl (Nat.le_of_ble_eq_true rfl) dX11_feed_39 ⟨Nat.le_of_ble_eq_true rfl, Nat.le_of_ble_eq_true rfl⟩ (fun H locs I => ?_)
    refine lv_aload_n S.1 S.2.1 dX11_feed_42 rfl (lv_at hl 0 rfl) ?_
    obtain ⟨v14, e15, f⟩ := ob f
    refine o_gI S lf11_feed_78 I e15 dX11_feed_43 ?_
    exact o_iret S hr hlo I f dX11_feed_46
  · have f := (if_neg q3).symm.trans f
    refine lv_iconst (v := (-1)) S.1 S.2.1 dX11_feed_13 (by decide) ?_
    exact o_iret S hr hlo I f dX11_feed_14
theorem M11_feed (l : Launch) (D : va_G) (cy : Nat → ClassId) (b : Nat) (A : Nat → Prop) (fl : Bool) {h : PH} {a0 : Nat} {x1 : Int32} {x2 : Int32} {x3 : Int32} {x4 : Int32} {x5 : Int32} {out : Int32 × PH} (f : F11_feed h a0 x1 x2 x3 x4 x5 = some out) : Met l yX11_feed vX11_feed ({ frames := 1, cells := 0, slots := 0, locals := 22 } : Room) (va_Pc [.ref (b + a0), .int x1, .int x2, .int x3, .int x4, .int x5] (ph_B D cy b A fl h)) (va_Qi (fun (r : Int32) (u : PH) => (r, u) = out) (ph_B D cy b A fl) A) 0 0 A :=
  o_met (by decide) rfl (Nat.le_of_ble_eq_true rfl) rfl (fun p e s m below meth c S hr hlo hnm ls hl I => T11_feed_0 S hr hlo ((gd f).2) I (lv_sub hl [0, 1, 2, 3, 4, 5] rfl))
def vX11_gaps : List Cond := .code yX11_gaps cX11_gaps 6 (some .int) :: TB
theorem lf11_gaps_18 : Fl vX11_gaps RX11 18 11 3 := ⟨RX11, TX11, 14, rfl, by decide, (fun w h9 => List.mem_cons_of_mem _ (wC_wsX110 w h9)), (List.mem_cons_of_mem _ wT_1_18)⟩
theorem lf11_gaps_150 : Fl vX11_gaps RX11 150 8 5 := ⟨RX8, TX8, 14, rfl, by decide, (fun w h9 => List.mem_cons_of_mem _ (wC_wsX80 w h9)), (List.mem_cons_of_mem _ wT_36_16)⟩
theorem lf11_gaps_253 : Fl vX11_gaps RX11 253 10 0 := ⟨RX10, TX10, 8, rfl, by decide, (fun w h9 => List.mem_cons_of_mem _ (wC_wsX100 w h9)), (List.mem_cons_of_mem _ wT_53_16)⟩
theorem gX11_gaps_X10_firstMinute : GoodIn vX11_gaps (wsV RX11 311 RX10 yX10_firstMinute vX10_firstMinute) := gV_of wT_60_3 wT_20_3 wT_20_4 wT_3_9 wT_20_5
theorem gX11_gaps_X10_lastMinute : GoodIn vX11_gaps (wsV RX11 314 RX10 yX10_lastMinute vX10_lastMinute) := gV_of wT_60_12 wT_19_23 wT_20_0 wT_3_9 wT_20_1
theorem cd11_gaps : Cd yX11_gaps 2 := ⟨by decide, by decide, by decide +kernel⟩
set_option maxHeartbeats 4000000 in
set_option maxRecDepth 100000 in
theorem T11_gaps_26 (S : CallFix p m c cX11_gaps 6 s args vX11_gaps RX11) (hr : meth.sig.returnType = (some .int)) (hlo : meth.locks = false) {out : Int32 × PH} : ∀ (n : Nat) {h : PH} {a0 : Nat} {x1 : Int32} {x2 : Int32} {x3 : Int32} {x4 : Int32} (f : F11_gaps_26  n h a0 x1 x2 x3 x4 = some out) {H : Heap} {locs : List Loc} (I : ph_I D cy b A fl h s H locs) {ls : Array Slot} (hl : lv_has ls 6 [(0, .ref (b + a0)), (1, .int x1), (2, .int x2), (3, .int x3), (4, .int x4)]), W p l e ({ frames := 2, cells := 0, slots := 0, locals := 42 } : Room) s m args below meth c H locs 0 0 (MQ below (va_Qi (fun (r : Int32) (u : PH) => (r, u) = out) (ph_B D cy b A fl) A) args s 0 0 A) (F0 m 26 ls []) := by
  intro n
  induction n with
  | zero => intro h a0 x1 x2 x3 x4 f; rw [F11_gaps_26] at f; cases f
  | succ n ih =>
    intro h a0 x1 x2 x3 x4 f H locs I ls hl
    rw [F11_gaps_26] at f
    refine lv_iload S.1 S.2.1 dX11_gaps_26 (lv_at hl 4 rfl) ?_
    refine lv_aload_n S.1 S.2.1 dX11_gaps_28 rfl (lv_at hl 0 rfl) ?_
    obtain ⟨r1, e2, f⟩ := ob f
    refine o_gR S lf11_gaps_18 I e2 dX11_gaps_29 ?_
    obtain ⟨r3, e4, f⟩ := ob f
    refine o_gR S lf11_gaps_150 I e4 dX11_gaps_32 ?_
    obtain ⟨v5, e6, f⟩ := ob f
    refine o_gI S lf11_gaps_253 I e6 dX11_gaps_35 ?_
    refine lv_icmp_ge (tgt := 90) S.1 S.2.1 dX11_gaps_38 (by decide) (fun q7 => ?_) (fun q7 => ?_)
    · have f := (if_pos q7).symm.trans f
      refine lv_iload_n S.1 S.2.1 dX11_gaps_90 rfl (lv_at hl 3 rfl) ?_
      exact o_iret S hr hlo I f dX11_gaps_91
    · have f := (if_neg q7).symm.trans f
      refine lv_aload_n S.1 S.2.1 dX11_gaps_41 rfl (lv_at hl 0 rfl) ?_
      obtain ⟨r8, e9, f⟩ := ob f
      refine o_gR S lf11_gaps_18 I e9 dX11_gaps_42 ?_
      obtain ⟨r10, e11, f⟩ := ob f
      refine o_gR S lf11_gaps_150 I e11 dX11_gaps_45 ?_
      refine lv_iload S.1 S.2.1 dX11_gaps_48 (lv_at hl 4 rfl) ?_
      obtain ⟨o12, e13, f⟩ := ob f
      refine o_Vi S (As := [.int x4]) (rest := []) (ci := 10) (M10_firstMinute l D cy b A fl e13) gX11_gaps_X10_firstMinute rfl rfl rfl cd10_firstMinute ⟨Nat.le_of_ble_eq_true rfl, Nat.le_of_ble_eq_true rfl⟩ I (gd e13).1 clX10 rfl rfl hl.1 rfl (Nat.le_of_ble_eq_true rfl) dX11_gaps_50 ⟨Nat.le_of_ble_eq_true rfl, Nat.le_of_ble_eq_true rfl⟩ (fun H locs I => ?_)
      refine lv_aload_n S.1 S.2.1 dX11_gaps_53 rfl (lv_at hl 0 rfl) ?_
      obtain ⟨r14, e15, f⟩ := ob f
      refine o_gR S lf11_gaps_18 I e15 dX11_gaps_54 ?_
      obtain ⟨r16, e17, f⟩ := ob f
      refine o_gR S lf11_gaps_150 I e17 dX11_gaps_57 ?_
      refine lv_iload S.1 S.2.1 dX11_gaps_60 (lv_at hl 4 rfl) ?_
      refine lv_iconst (v := 1) S.1 S.2.1 dX11_gaps_62 (by decide) ?_
      refine lv_isub S.1 S.2.1 dX11_gaps_63 ?_
      obtain ⟨o18, e19, f⟩ := ob f
      refine o_Vi S (As := [.int (x4 - 1)]) (rest := [.int o12.1]) (ci := 10) (M10_lastMinute l D cy b A fl e19) gX11_gaps_X10_lastMinute rfl rfl rfl cd10_lastMinute ⟨Nat.le_of_ble_eq_true rfl, Nat.le_of_ble_eq_true rfl⟩ I (gd e19).1 clX10 rfl rfl hl.1 rfl (Nat.le_of_ble_eq_true rfl) dX11_gaps_64 ⟨Nat.le_of_ble_eq_true rfl, Nat.le_of_ble_eq_true rfl⟩ (fun H locs I => ?_)
      refine lv_isub S.1 S.2.1 dX11_gaps_67 ?_
      refine lv_istore (lv' := [(5, .int (o12.1 - o18.1)), (0, .ref (b + a0)), (1, .int x1), (2, .int x2), (3, .int x3), (4, .int x4)]) S.1 S.2.1 dX11_gaps_68 hl (by decide) rfl (fun ls hl => ?_)
      refine lv_iload_n S.1 S.2.1 dX11_gaps_70 rfl (lv_at hl 3 rfl) ?_
      refine lv_iconst (v := 1) S.1 S.2.1 dX11_gaps_71 (by decide) ?_
      refine lv_icmp_eq (tgt := 81) S.1 S.2.1 dX11_gaps_72 (by decide) (fun q20 => ?_) (fun q20 => ?_)
      · have f := (if_pos q20).symm.trans f
        refine lv_iinc (v := (x3 + 1)) (lv' := [(3, .int (x3 + 1)), (5, .int (o12.1 - o18.1)), (0, .ref (b + a0)), (1, .int x1), (2, .int x2), (4, .int x4)]) S.1 S.2.1 dX11_gaps_81 hl (k := 4) rfl (congrArg (fun z => x3 + z) (by decide)) (by decide) rfl (fun ls hl => ?_)
        refine lv_iinc (v := (x4 + 1)) (lv' := [(4, .int (x4 + 1)), (3, .int (x3 + 1)), (5, .int (o12.1 - o18.1)), (0, .ref (b + a0)), (1, .int x1), (2, .int x2)]) S.1 S.2.1 dX11_gaps_84 hl (k := 5) rfl (congrArg (fun z => x4 + z) (by decide)) (by decide) rfl (fun ls hl => ?_)
        refine lv_goto (tgt := 26) S.1 S.2.1 dX11_gaps_87 (by decide) ?_
        exact ih f I (lv_sub hl [3, 4, 5, 1, 0] rfl)
      · have f := (if_neg q20).symm.trans f
        refine lv_iload S.1 S.2.1 dX11_gaps_75 (lv_at hl 0 rfl) ?_
        refine lv_iload_n S.1 S.2.1 dX11_gaps_77 rfl (lv_at hl 2 rfl) ?_
        refine lv_icmp_gt (tgt := 84) S.1 S.2.1 dX11_gaps_78 (by decide) (fun q21 => ?_) (fun q21 => ?_)
        · have f := (if_pos q21).symm.trans f
          refine lv_iinc (v := (x4 + 1)) (lv' := [(4, .int (x4 + 1)), (5, .int (o12.1 - o18.1)), (0, .ref (b + a0)), (1, .int x1), (2, .int x2), (3, .int x3)]) S.1 S.2.1 dX11_gaps_84 hl (k := 5) rfl (congrArg (fun z => x4 + z) (by decide)) (by decide) rfl (fun ls hl => ?_)
          refine lv_goto (tgt := 26) S.1 S.2.1 dX11_gaps_87 (by decide) ?_
          exact ih f I (lv_sub hl [2, 3, 4, 5, 0] rfl)
        · have f := (if_neg q21).symm.trans f
          refine lv_iinc (v := (x3 + 1)) (lv' := [(3, .int (x3 + 1)), (5, .int (o12.1 - o18.1)), (0, .ref (b + a0)), (1, .int x1), (2, .int x2), (4, .int x4)]) S.1 S.2.1 dX11_gaps_81 hl (k := 4) rfl (congrArg (fun z => x3 + z) (by decide)) (by decide) rfl (fun ls hl => ?_)
          refine lv_iinc (v := (x4 + 1)) (lv' := [(4, .int (x4 + 1)), (3, .int (x3 + 1)), (5, .int (o12.1 - o18.1)), (0, .ref (b + a0)), (1, .int x1), (2, .int x2)]) S.1 S.2.1 dX11_gaps_84 hl (k := 5) rfl (congrArg (fun z => x4 + z) (by decide)) (by decide) rfl (fun ls hl => ?_)
          refine lv_goto (tgt := 26) S.1 S.2.1 dX11_gaps_87 (by decide) ?_
          exact ih f I (lv_sub hl [3, 4, 5, 1, 0] rfl)
set_option maxHeartbeats 4000000 in
set_option maxRecDepth 100000 in
theorem T11_gaps_0 (S : CallFix p m c cX11_gaps 6 s args vX11_gaps RX11) (hr : meth.sig.returnType = (some .int)) (hlo : meth.locks = false) {out : Int32 × PH} {h : PH} {a0 : Nat} {x1 : Int32} {x2 : Int32} (f : F11_gaps_0  h a0 x1 x2 = some out) {H : Heap} {locs : List Loc} (I : ph_I D cy b A fl h s H locs) {ls : Array Slot} (hl : lv_has ls 6 [(0, .ref (b + a0)), (1, .int x1), (2, .int x2)]) : W p l e ({ frames := 2, cells := 0, slots := 0, locals := 42 } : Room) s m args below meth c H locs 0 0 (MQ below (va_Qi (fun (r : Int32) (u : PH) => (r, u) = out) (ph_B D cy b A fl) A) args s 0 0 A) (F0 m 0 ls []) := by
  unfold F11_gaps_0 at f
  refine lv_iload_n S.1 S.2.1 dX11_gaps_0 rfl (lv_at hl 1 rfl) ?_
  refine lv_if_lt (tgt := 19) S.1 S.2.1 dX11_gaps_1 (by decide) (fun q1 => ?_) (fun q1 => ?_)
  · have f := (if_pos q1).symm.trans f
    refine lv_iconst (v := (-1)) S.1 S.2.1 dX11_gaps_19 (by decide) ?_
    exact o_iret S hr hlo I f dX11_gaps_20
  · have f := (if_neg q1).symm.trans f
    refine lv_iload_n S.1 S.2.1 dX11_gaps_4 rfl (lv_at hl 1 rfl) ?_
    refine lv_bipush (v := 99) S.1 S.2.1 dX11_gaps_5 (by decide) ?_
    refine lv_icmp_gt (tgt := 19) S.1 S.2.1 dX11_gaps_7 (by decide) (fun q2 => ?_) (fun q2 => ?_)
    · have f := (if_pos q2).symm.trans f
      refine lv_iconst (v := (-1)) S.1 S.2.1 dX11_gaps_19 (by decide) ?_
      exact o_iret S hr hlo I f dX11_gaps_20
    · have f := (if_neg q2).symm.trans f
      refine lv_iload_n S.1 S.2.1 dX11_gaps_10 rfl (lv_at hl 2 rfl) ?_
      refine lv_if_lt (tgt := 19) S.1 S.2.1 dX11_gaps_11 (by decide) (fun q3 => ?_) (fun q3 => ?_)
      · have f := (if_pos q3).symm.trans f
        refine lv_iconst (v := (-1)) S.1 S.2.1 dX11_gaps_19 (by decide) ?_
        exact o_iret S hr hlo I f dX11_gaps_20
      · have f := (if_neg q3).symm.trans f
        refine lv_iload_n S.1 S.2.1 dX11_gaps_14 rfl (lv_at hl 2 rfl) ?_
        refine lv_iconst (v := 1) S.1 S.2.1 dX11_gaps_15 (by decide) ?_
        refine lv_icmp_le (tgt := 21) S.1 S.2.1 dX11_gaps_16 (by decide) (fun q4 => ?_) (fun q4 => ?_)
        · have f := (if_pos q4).symm.trans f
          refine lv_iconst (v := 0) S.1 S.2.1 dX11_gaps_21 (by decide) ?_
          refine lv_istore_n (lv' := [(3, .int 0), (0, .ref (b + a0)), (1, .int x1), (2, .int x2)]) S.1 S.2.1 dX11_gaps_22 rfl hl (by decide) rfl (fun ls hl => ?_)
          refine lv_iconst (v := 1) S.1 S.2.1 dX11_gaps_23 (by decide) ?_
          refine lv_istore (lv' := [(4, .int 1), (3, .int 0), (0, .ref (b + a0)), (1, .int x1), (2, .int x2)]) S.1 S.2.1 dX11_gaps_24 hl (by decide) rfl (fun ls hl => ?_)
          exact T11_gaps_26 S hr hlo  1024 f I (lv_sub hl [2, 3, 4, 1, 0] rfl)
        · have f := (if_neg q4).symm.trans f
          refine lv_iconst (v := (-1)) S.1 S.2.1 dX11_gaps_19 (by decide) ?_
          exact o_iret S hr hlo I f dX11_gaps_20
theorem M11_gaps (l : Launch) (D : va_G) (cy : Nat → ClassId) (b : Nat) (A : Nat → Prop) (fl : Bool) {h : PH} {a0 : Nat} {x1 : Int32} {x2 : Int32} {out : Int32 × PH} (f : F11_gaps h a0 x1 x2 = some out) : Met l yX11_gaps vX11_gaps ({ frames := 2, cells := 0, slots := 0, locals := 42 } : Room) (va_Pc [.ref (b + a0), .int x1, .int x2] (ph_B D cy b A fl h)) (va_Qi (fun (r : Int32) (u : PH) => (r, u) = out) (ph_B D cy b A fl) A) 0 0 A :=
  o_met (by decide) rfl (Nat.le_of_ble_eq_true rfl) rfl (fun p e s m below meth c S hr hlo hnm ls hl I => T11_gaps_0 S hr hlo ((gd f).2) I (lv_sub hl [0, 1, 2] rfl))
def vX11_give : List Cond := .code yX11_give cX11_give 4 (some .int) :: TB
theorem gX11_give_X11_isSurfer : GoodIn vX11_give (wsV RX11 115 RX11 yX11_isSurfer vX11_isSurfer) := gV_of wT_33_17 wT_33_18 wT_33_19 wT_1_2 wT_33_20
theorem lf11_give_18 : Fl vX11_give RX11 18 11 3 := ⟨RX11, TX11, 14, rfl, by decide, (fun w h9 => List.mem_cons_of_mem _ (wC_wsX110 w h9)), (List.mem_cons_of_mem _ wT_1_18)⟩
theorem lf11_give_102 : Fl vX11_give RX11 102 8 4 := ⟨RX8, TX8, 14, rfl, by decide, (fun w h9 => List.mem_cons_of_mem _ (wC_wsX80 w h9)), (List.mem_cons_of_mem _ wT_32_14)⟩
theorem lf11_give_281 : Fl vX11_give RX11 281 1 6 := ⟨RX1, TX1, 7, rfl, by decide, (fun w h9 => List.mem_cons_of_mem _ (wC_wsX10 w h9)), (List.mem_cons_of_mem _ wT_56_19)⟩
theorem cd11_give : Cd yX11_give 3 := ⟨by decide, by decide, by decide +kernel⟩
set_option maxHeartbeats 4000000 in
set_option maxRecDepth 100000 in
theorem T11_give_0 (S : CallFix p m c cX11_give 4 s args vX11_give RX11) (hr : meth.sig.returnType = (some .int)) (hlo : meth.locks = false) {out : Int32 × PH} {h : PH} {a0 : Nat} {x1 : Int32} {x2 : Int32} {x3 : Int32} (f : F11_give_0  h a0 x1 x2 x3 = some out) {H : Heap} {locs : List Loc} (I : ph_I D cy b A fl h s H locs) {ls : Array Slot} (hl : lv_has ls 4 [(0, .ref (b + a0)), (1, .int x1), (2, .int x2), (3, .int x3)]) : W p l e ({ frames := 1, cells := 0, slots := 0, locals := 21 } : Room) s m args below meth c H locs 0 0 (MQ below (va_Qi (fun (r : Int32) (u : PH) => (r, u) = out) (ph_B D cy b A fl) A) args s 0 0 A) (F0 m 0 ls []) := by
  unfold F11_give_0 at f
  refine lv_aload_n S.1 S.2.1 dX11_give_0 rfl (lv_at hl 0 rfl) ?_
  refine lv_iload_n S.1 S.2.1 dX11_give_1 rfl (lv_at hl 1 rfl) ?_
  obtain ⟨o1, e2, f⟩ := ob f
  refine o_Vi S (As := [.int x1]) (rest := []) (ci := 11) (M11_isSurfer l D cy b A fl e2) gX11_give_X11_isSurfer rfl rfl rfl cd11_isSurfer ⟨Nat.le_of_ble_eq_true rfl, Nat.le_of_ble_eq_true rfl⟩ I (gd e2).1 clX11 rfl rfl hl.1 rfl (Nat.le_of_ble_eq_true rfl) dX11_give_2 ⟨Nat.le_of_ble_eq_true rfl, Nat.le_of_ble_eq_true rfl⟩ (fun H locs I => ?_)
  refine lv_if_eq (tgt := 31) S.1 S.2.1 dX11_give_5 (by decide) (fun q3 => ?_) (fun q3 => ?_)
  · have f := (if_pos q3).symm.trans f
    refine lv_iconst (v := (-1)) S.1 S.2.1 dX11_give_31 (by decide) ?_
    exact o_iret S hr hlo I f dX11_give_32
  · have f := (if_neg q3).symm.trans f
    refine lv_aload_n S.1 S.2.1 dX11_give_8 rfl (lv_at hl 0 rfl) ?_
    refine lv_iload_n S.1 S.2.1 dX11_give_9 rfl (lv_at hl 2 rfl) ?_
    obtain ⟨o4, e5, f⟩ := ob f
    refine o_Vi S (As := [.int x2]) (rest := []) (ci := 11) (M11_isSurfer l D cy b A fl e5) gX11_give_X11_isSurfer rfl rfl rfl cd11_isSurfer ⟨Nat.le_of_ble_eq_true rfl, Nat.le_of_ble_eq_true rfl⟩ I (gd e5).1 clX11 rfl rfl hl.1 rfl (Nat.le_of_ble_eq_true rfl) dX11_give_10 ⟨Nat.le_of_ble_eq_true rfl, Nat.le_of_ble_eq_true rfl⟩ (fun H locs I => ?_)
    refine lv_if_eq (tgt := 31) S.1 S.2.1 dX11_give_13 (by decide) (fun q6 => ?_) (fun q6 => ?_)
    · have f := (if_pos q6).symm.trans f
      refine lv_iconst (v := (-1)) S.1 S.2.1 dX11_give_31 (by decide) ?_
      exact o_iret S hr hlo I f dX11_give_32
    · have f := (if_neg q6).symm.trans f
      refine lv_iload_n S.1 S.2.1 dX11_give_16 rfl (lv_at hl 1 rfl) ?_
      refine lv_iload_n S.1 S.2.1 dX11_give_17 rfl (lv_at hl 2 rfl) ?_
      refine lv_icmp_eq (tgt := 31) S.1 S.2.1 dX11_give_18 (by decide) (fun q7 => ?_) (fun q7 => ?_)
      · have f := (if_pos q7).symm.trans f
        refine lv_iconst (v := (-1)) S.1 S.2.1 dX11_give_31 (by decide) ?_
        exact o_iret S hr hlo I f dX11_give_32
      · have f := (if_neg q7).symm.trans f
        refine lv_iload_n S.1 S.2.1 dX11_give_21 rfl (lv_at hl 3 rfl) ?_
        refine lv_if_lt (tgt := 31) S.1 S.2.1 dX11_give_22 (by decide) (fun q8 => ?_) (fun q8 => ?_)
        · have f := (if_pos q8).symm.trans f
          refine lv_iconst (v := (-1)) S.1 S.2.1 dX11_give_31 (by decide) ?_
          exact o_iret S hr hlo I f dX11_give_32
        · have f := (if_neg q8).symm.trans f
          refine lv_iload_n S.1 S.2.1 dX11_give_25 rfl (lv_at hl 3 rfl) ?_
          refine lv_bipush (v := 99) S.1 S.2.1 dX11_give_26 (by decide) ?_
          refine lv_icmp_le (tgt := 33) S.1 S.2.1 dX11_give_28 (by decide) (fun q9 => ?_) (fun q9 => ?_)
          · have f := (if_pos q9).symm.trans f
            refine lv_aload_n S.1 S.2.1 dX11_give_33 rfl (lv_at hl 0 rfl) ?_
            obtain ⟨r10, e11, f⟩ := ob f
            refine o_gR S lf11_give_18 I e11 dX11_give_34 ?_
            obtain ⟨r12, e13, f⟩ := ob f
            refine o_gR S lf11_give_102 I e13 dX11_give_37 ?_
            obtain ⟨r14, e15, f⟩ := ob f
            refine o_gR S lf11_give_281 I e15 dX11_give_40 ?_
            refine lv_iload_n S.1 S.2.1 dX11_give_43 rfl (lv_at hl 2 rfl) ?_
            obtain ⟨v17, e16, f⟩ := ob f
            refine o_iald S I e16 dX11_give_44 ?_
            refine lv_iload_n S.1 S.2.1 dX11_give_45 rfl (lv_at hl 3 rfl) ?_
            refine lv_imul S.1 S.2.1 dX11_give_46 ?_
            refine lv_bipush (v := 100) S.1 S.2.1 dX11_give_47 (by decide) ?_
            refine lv_icmp_le (tgt := 56) S.1 S.2.1 dX11_give_49 (by decide) (fun q18 => ?_) (fun q18 => ?_)
            · have f := (if_pos q18).symm.trans f
              refine lv_iconst (v := 0) S.1 S.2.1 dX11_give_56 (by decide) ?_
              exact o_iret S hr hlo I f dX11_give_57
            · have f := (if_neg q18).symm.trans f
              refine lv_iconst (v := 1) S.1 S.2.1 dX11_give_52 (by decide) ?_
              refine lv_goto (tgt := 57) S.1 S.2.1 dX11_give_53 (by decide) ?_
              exact o_iret S hr hlo I f dX11_give_57
          · have f := (if_neg q9).symm.trans f
            refine lv_iconst (v := (-1)) S.1 S.2.1 dX11_give_31 (by decide) ?_
            exact o_iret S hr hlo I f dX11_give_32
theorem M11_give (l : Launch) (D : va_G) (cy : Nat → ClassId) (b : Nat) (A : Nat → Prop) (fl : Bool) {h : PH} {a0 : Nat} {x1 : Int32} {x2 : Int32} {x3 : Int32} {out : Int32 × PH} (f : F11_give h a0 x1 x2 x3 = some out) : Met l yX11_give vX11_give ({ frames := 1, cells := 0, slots := 0, locals := 21 } : Room) (va_Pc [.ref (b + a0), .int x1, .int x2, .int x3] (ph_B D cy b A fl h)) (va_Qi (fun (r : Int32) (u : PH) => (r, u) = out) (ph_B D cy b A fl) A) 0 0 A :=
  o_met (by decide) rfl (Nat.le_of_ble_eq_true rfl) rfl (fun p e s m below meth c S hr hlo hnm ls hl I => T11_give_0 S hr hlo ((gd f).2) I (lv_sub hl [0, 1, 2, 3] rfl))
def vX11_isWave : List Cond := .code yX11_isWave cX11_isWave 2 (some .boolean) :: TB
theorem lf11_isWave_18 : Fl vX11_isWave RX11 18 11 3 := ⟨RX11, TX11, 14, rfl, by decide, (fun w h9 => List.mem_cons_of_mem _ (wC_wsX110 w h9)), (List.mem_cons_of_mem _ wT_1_18)⟩
theorem lf11_isWave_150 : Fl vX11_isWave RX11 150 8 5 := ⟨RX8, TX8, 14, rfl, by decide, (fun w h9 => List.mem_cons_of_mem _ (wC_wsX80 w h9)), (List.mem_cons_of_mem _ wT_36_16)⟩
theorem lf11_isWave_299 : Fl vX11_isWave RX11 299 10 1 := ⟨RX10, TX10, 8, rfl, by decide, (fun w h9 => List.mem_cons_of_mem _ (wC_wsX100 w h9)), (List.mem_cons_of_mem _ wT_37_2)⟩
theorem cd11_isWave : Cd yX11_isWave 1 := ⟨by decide, by decide, by decide +kernel⟩
set_option maxHeartbeats 4000000 in
set_option maxRecDepth 100000 in
theorem T11_isWave_0 (S : CallFix p m c cX11_isWave 2 s args vX11_isWave RX11) (hr : meth.sig.returnType = (some .boolean)) (hlo : meth.locks = false) {out : Int32 × PH} {h : PH} {a0 : Nat} {x1 : Int32} (f : F11_isWave_0  h a0 x1 = some out) {H : Heap} {locs : List Loc} (I : ph_I D cy b A fl h s H locs) {ls : Array Slot} (hl : lv_has ls 2 [(0, .ref (b + a0)), (1, .int x1)]) : W p l e ({ frames := 0, cells := 0, slots := 0, locals := 0 } : Room) s m args below meth c H locs 0 0 (MQ below (va_Qi (fun (r : Int32) (u : PH) => (r, u) = out) (ph_B D cy b A fl) A) args s 0 0 A) (F0 m 0 ls []) := by
  unfold F11_isWave_0 at f
  refine lv_iload_n S.1 S.2.1 dX11_isWave_0 rfl (lv_at hl 1 rfl) ?_
  refine lv_if_lt (tgt := 22) S.1 S.2.1 dX11_isWave_1 (by decide) (fun q1 => ?_) (fun q1 => ?_)
  · have f := (if_pos q1).symm.trans f
    refine lv_iconst (v := 0) S.1 S.2.1 dX11_isWave_22 (by decide) ?_
    exact o_zret S hr hlo I f dX11_isWave_23
  · have f := (if_neg q1).symm.trans f
    refine lv_iload_n S.1 S.2.1 dX11_isWave_4 rfl (lv_at hl 1 rfl) ?_
    refine lv_aload_n S.1 S.2.1 dX11_isWave_5 rfl (lv_at hl 0 rfl) ?_
    obtain ⟨r2, e3, f⟩ := ob f
    refine o_gR S lf11_isWave_18 I e3 dX11_isWave_6 ?_
    obtain ⟨r4, e5, f⟩ := ob f
    refine o_gR S lf11_isWave_150 I e5 dX11_isWave_9 ?_
    obtain ⟨v6, e7, f⟩ := ob f
    refine o_gI S lf11_isWave_299 I e7 dX11_isWave_12 ?_
    refine lv_icmp_ge (tgt := 22) S.1 S.2.1 dX11_isWave_15 (by decide) (fun q8 => ?_) (fun q8 => ?_)
    · have f := (if_pos q8).symm.trans f
      refine lv_iconst (v := 0) S.1 S.2.1 dX11_isWave_22 (by decide) ?_
      exact o_zret S hr hlo I f dX11_isWave_23
    · have f := (if_neg q8).symm.trans f
      refine lv_iconst (v := 1) S.1 S.2.1 dX11_isWave_18 (by decide) ?_
      refine lv_goto (tgt := 23) S.1 S.2.1 dX11_isWave_19 (by decide) ?_
      exact o_zret S hr hlo I f dX11_isWave_23
theorem M11_isWave (l : Launch) (D : va_G) (cy : Nat → ClassId) (b : Nat) (A : Nat → Prop) (fl : Bool) {h : PH} {a0 : Nat} {x1 : Int32} {out : Int32 × PH} (f : F11_isWave h a0 x1 = some out) : Met l yX11_isWave vX11_isWave ({ frames := 0, cells := 0, slots := 0, locals := 0 } : Room) (va_Pc [.ref (b + a0), .int x1] (ph_B D cy b A fl h)) (va_Qi (fun (r : Int32) (u : PH) => (r, u) = out) (ph_B D cy b A fl) A) 0 0 A :=
  o_met (by decide) rfl (Nat.le_of_ble_eq_true rfl) rfl (fun p e s m below meth c S hr hlo hnm ls hl I => T11_isWave_0 S hr hlo ((gd f).2) I (lv_sub hl [0, 1] rfl))
def vX11_isToCome : List Cond := .code yX11_isToCome cX11_isToCome 2 (some .boolean) :: TB
theorem gX11_isToCome_X11_isWave : GoodIn vX11_isToCome (wsV RX11 147 RX11 yX11_isWave vX11_isWave) := gV_of wT_36_22 wT_36_23 wT_37_0 wT_1_2 wT_37_1
theorem lf11_isToCome_18 : Fl vX11_isToCome RX11 18 11 3 := ⟨RX11, TX11, 14, rfl, by decide, (fun w h9 => List.mem_cons_of_mem _ (wC_wsX110 w h9)), (List.mem_cons_of_mem _ wT_1_18)⟩
theorem lf11_isToCome_150 : Fl vX11_isToCome RX11 150 8 5 := ⟨RX8, TX8, 14, rfl, by decide, (fun w h9 => List.mem_cons_of_mem _ (wC_wsX80 w h9)), (List.mem_cons_of_mem _ wT_36_16)⟩
theorem lf11_isToCome_154 : Fl vX11_isToCome RX11 154 10 4 := ⟨RX10, TX10, 8, rfl, by decide, (fun w h9 => List.mem_cons_of_mem _ (wC_wsX100 w h9)), (List.mem_cons_of_mem _ wT_36_17)⟩
theorem lf11_isToCome_47 : Fl vX11_isToCome RX11 47 11 7 := ⟨RX11, TX11, 14, rfl, by decide, (fun w h9 => List.mem_cons_of_mem _ (wC_wsX110 w h9)), (List.mem_cons_of_mem _ wT_2_8)⟩
theorem lf11_isToCome_186 : Fl vX11_isToCome RX11 186 4 0 := ⟨RX4, TX4, 11, rfl, by decide, (fun w h9 => List.mem_cons_of_mem _ (wC_wsX40 w h9)), (List.mem_cons_of_mem _ wT_34_1)⟩
theorem cd11_isToCome : Cd yX11_isToCome 1 := ⟨by decide, by decide, by decide +kernel⟩
set_option maxHeartbeats 4000000 in
set_option maxRecDepth 100000 in
theorem T11_isToCome_0 (S : CallFix p m c cX11_isToCome 2 s args vX11_isToCome RX11) (hr : meth.sig.returnType = (some .boolean)) (hlo : meth.locks = false) {out : Int32 × PH} {h : PH} {a0 : Nat} {x1 : Int32} (f : F11_isToCome_0  h a0 x1 = some out) {H : Heap} {locs : List Loc} (I : ph_I D cy b A fl h s H locs) {ls : Array Slot} (hl : lv_has ls 2 [(0, .ref (b + a0)), (1, .int x1)]) : W p l e ({ frames := 1, cells := 0, slots := 0, locals := 21 } : Room) s m args below meth c H locs 0 0 (MQ below (va_Qi (fun (r : Int32) (u : PH) => (r, u) = out) (ph_B D cy b A fl) A) args s 0 0 A) (F0 m 0 ls []) := by
  unfold F11_isToCome_0 at f
  refine lv_aload_n S.1 S.2.1 dX11_isToCome_0 rfl (lv_at hl 0 rfl) ?_
  refine lv_iload_n S.1 S.2.1 dX11_isToCome_1 rfl (lv_at hl 1 rfl) ?_
  obtain ⟨o1, e2, f⟩ := ob f
  refine o_Vi S (As := [.int x1]) (rest := []) (ci := 11) (M11_isWave l D cy b A fl e2) gX11_isToCome_X11_isWave rfl rfl rfl cd11_isWave ⟨Nat.le_of_ble_eq_true rfl, Nat.le_of_ble_eq_true rfl⟩ I (gd e2).1 clX11 rfl rfl hl.1 rfl (Nat.le_of_ble_eq_true rfl) dX11_isToCome_2 ⟨Nat.le_of_ble_eq_true rfl, Nat.le_of_ble_eq_true rfl⟩ (fun H locs I => ?_)
  refine lv_if_eq (tgt := 34) S.1 S.2.1 dX11_isToCome_5 (by decide) (fun q3 => ?_) (fun q3 => ?_)
  · have f := (if_pos q3).symm.trans f
    refine lv_iconst (v := 0) S.1 S.2.1 dX11_isToCome_34 (by decide) ?_
    exact o_zret S hr hlo I f dX11_isToCome_35
  · have f := (if_neg q3).symm.trans f
    refine lv_aload_n S.1 S.2.1 dX11_isToCome_8 rfl (lv_at hl 0 rfl) ?_
    obtain ⟨r4, e5, f⟩ := ob f
    refine o_gR S lf11_isToCome_18 I e5 dX11_isToCome_9 ?_
    obtain ⟨r6, e7, f⟩ := ob f
    refine o_gR S lf11_isToCome_150 I e7 dX11_isToCome_12 ?_
    obtain ⟨r8, e9, f⟩ := ob f
    refine o_gR S lf11_isToCome_154 I e9 dX11_isToCome_15 ?_
    refine lv_iload_n S.1 S.2.1 dX11_isToCome_18 rfl (lv_at hl 1 rfl) ?_
    obtain ⟨v11, e10, f⟩ := ob f
    refine o_iald S I e10 dX11_isToCome_19 ?_
    refine lv_aload_n S.1 S.2.1 dX11_isToCome_20 rfl (lv_at hl 0 rfl) ?_
    obtain ⟨r12, e13, f⟩ := ob f
    refine o_gR S lf11_isToCome_47 I e13 dX11_isToCome_21 ?_
    obtain ⟨v14, e15, f⟩ := ob f
    refine o_gI S lf11_isToCome_186 I e15 dX11_isToCome_24 ?_
    refine lv_icmp_lt (tgt := 34) S.1 S.2.1 dX11_isToCome_27 (by decide) (fun q16 => ?_) (fun q16 => ?_)
    · have f := (if_pos q16).symm.trans f
      refine lv_iconst (v := 0) S.1 S.2.1 dX11_isToCome_34 (by decide) ?_
      exact o_zret S hr hlo I f dX11_isToCome_35
    · have f := (if_neg q16).symm.trans f
      refine lv_iconst (v := 1) S.1 S.2.1 dX11_isToCome_30 (by decide) ?_
      refine lv_goto (tgt := 35) S.1 S.2.1 dX11_isToCome_31 (by decide) ?_
      exact o_zret S hr hlo I f dX11_isToCome_35
theorem M11_isToCome (l : Launch) (D : va_G) (cy : Nat → ClassId) (b : Nat) (A : Nat → Prop) (fl : Bool) {h : PH} {a0 : Nat} {x1 : Int32} {out : Int32 × PH} (f : F11_isToCome h a0 x1 = some out) : Met l yX11_isToCome vX11_isToCome ({ frames := 1, cells := 0, slots := 0, locals := 21 } : Room) (va_Pc [.ref (b + a0), .int x1] (ph_B D cy b A fl h)) (va_Qi (fun (r : Int32) (u : PH) => (r, u) = out) (ph_B D cy b A fl) A) 0 0 A :=
  o_met (by decide) rfl (Nat.le_of_ble_eq_true rfl) rfl (fun p e s m below meth c S hr hlo hnm ls hl I => T11_isToCome_0 S hr hlo ((gd f).2) I (lv_sub hl [0, 1] rfl))
def vX11_go : List Cond := .code yX11_go cX11_go 5 (some .int) :: TB
theorem gX11_go_X11_isSurfer : GoodIn vX11_go (wsV RX11 115 RX11 yX11_isSurfer vX11_isSurfer) := gV_of wT_33_17 wT_33_18 wT_33_19 wT_1_2 wT_33_20
theorem gX11_go_X11_isToCome : GoodIn vX11_go (wsV RX11 223 RX11 yX11_isToCome vX11_isToCome) := gV_of wT_48_8 wT_48_9 wT_48_10 wT_1_2 wT_48_11
theorem lf11_go_37 : Fl vX11_go RX11 37 11 5 := ⟨RX11, TX11, 14, rfl, by decide, (fun w h9 => List.mem_cons_of_mem _ (wC_wsX110 w h9)), (List.mem_cons_of_mem _ wT_2_3)⟩
theorem lf11_go_47 : Fl vX11_go RX11 47 11 7 := ⟨RX11, TX11, 14, rfl, by decide, (fun w h9 => List.mem_cons_of_mem _ (wC_wsX110 w h9)), (List.mem_cons_of_mem _ wT_2_8)⟩
theorem lf11_go_122 : Fl vX11_go RX11 122 4 5 := ⟨RX4, TX4, 11, rfl, by decide, (fun w h9 => List.mem_cons_of_mem _ (wC_wsX40 w h9)), (List.mem_cons_of_mem _ wT_33_11)⟩
theorem gX11_go_X6_worthAt : GoodIn vX11_go (wsV RX11 275 RX6 yX6_worthAt vX6_worthAt) := gV_of wT_56_5 wT_49_18 wT_49_19 wT_2_2 wT_49_20
theorem gX11_go_X6_crossingOdds : GoodIn vX11_go (wsV RX11 278 RX6 yX6_crossingOdds vX6_crossingOdds) := gV_of wT_56_6 wT_56_7 wT_56_8 wT_2_2 wT_56_9
theorem cd11_go : Cd yX11_go 3 := ⟨by decide, by decide, by decide +kernel⟩
set_option maxHeartbeats 4000000 in
set_option maxRecDepth 100000 in
theorem T11_go_0 (S : CallFix p m c cX11_go 5 s args vX11_go RX11) (hr : meth.sig.returnType = (some .int)) (hlo : meth.locks = false) {out : Int32 × PH} {h : PH} {a0 : Nat} {x1 : Int32} {x2 : Int32} {x3 : Int32} (f : F11_go_0  h a0 x1 x2 x3 = some out) {H : Heap} {locs : List Loc} (I : ph_I D cy b A fl h s H locs) {ls : Array Slot} (hl : lv_has ls 5 [(0, .ref (b + a0)), (1, .int x1), (2, .int x2), (3, .int x3)]) : W p l e ({ frames := 6, cells := 0, slots := 0, locals := 156 } : Room) s m args below meth c H locs 0 0 (MQ below (va_Qi (fun (r : Int32) (u : PH) => (r, u) = out) (ph_B D cy b A fl) A) args s 0 0 A) (F0 m 0 ls []) := by
  unfold F11_go_0 at f
  refine lv_aload_n S.1 S.2.1 dX11_go_0 rfl (lv_at hl 0 rfl) ?_
  refine lv_iload_n S.1 S.2.1 dX11_go_1 rfl (lv_at hl 1 rfl) ?_
  obtain ⟨o1, e2, f⟩ := ob f
  refine o_Vi S (As := [.int x1]) (rest := []) (ci := 11) (M11_isSurfer l D cy b A fl e2) gX11_go_X11_isSurfer rfl rfl rfl cd11_isSurfer ⟨Nat.le_of_ble_eq_true rfl, Nat.le_of_ble_eq_true rfl⟩ I (gd e2).1 clX11 rfl rfl hl.1 rfl (Nat.le_of_ble_eq_true rfl) dX11_go_2 ⟨Nat.le_of_ble_eq_true rfl, Nat.le_of_ble_eq_true rfl⟩ (fun H locs I => ?_)
  refine lv_if_eq (tgt := 27) S.1 S.2.1 dX11_go_5 (by decide) (fun q3 => ?_) (fun q3 => ?_)
  · have f := (if_pos q3).symm.trans f
    refine lv_iconst (v := (-1)) S.1 S.2.1 dX11_go_27 (by decide) ?_
    exact o_iret S hr hlo I f dX11_go_28
  · have f := (if_neg q3).symm.trans f
    refine lv_aload_n S.1 S.2.1 dX11_go_8 rfl (lv_at hl 0 rfl) ?_
    refine lv_iload_n S.1 S.2.1 dX11_go_9 rfl (lv_at hl 2 rfl) ?_
    obtain ⟨o4, e5, f⟩ := ob f
    refine o_Vi S (As := [.int x2]) (rest := []) (ci := 11) (M11_isToCome l D cy b A fl e5) gX11_go_X11_isToCome rfl rfl rfl cd11_isToCome ⟨Nat.le_of_ble_eq_true rfl, Nat.le_of_ble_eq_true rfl⟩ I (gd e5).1 clX11 rfl rfl hl.1 rfl (Nat.le_of_ble_eq_true rfl) dX11_go_10 ⟨Nat.le_of_ble_eq_true rfl, Nat.le_of_ble_eq_true rfl⟩ (fun H locs I => ?_)
    refine lv_if_eq (tgt := 27) S.1 S.2.1 dX11_go_13 (by decide) (fun q6 => ?_) (fun q6 => ?_)
    · have f := (if_pos q6).symm.trans f
      refine lv_iconst (v := (-1)) S.1 S.2.1 dX11_go_27 (by decide) ?_
      exact o_iret S hr hlo I f dX11_go_28
    · have f := (if_neg q6).symm.trans f
      refine lv_iload_n S.1 S.2.1 dX11_go_16 rfl (lv_at hl 3 rfl) ?_
      refine lv_if_lt (tgt := 27) S.1 S.2.1 dX11_go_17 (by decide) (fun q7 => ?_) (fun q7 => ?_)
      · have f := (if_pos q7).symm.trans f
        refine lv_iconst (v := (-1)) S.1 S.2.1 dX11_go_27 (by decide) ?_
        exact o_iret S hr hlo I f dX11_go_28
      · have f := (if_neg q7).symm.trans f
        refine lv_iload_n S.1 S.2.1 dX11_go_20 rfl (lv_at hl 3 rfl) ?_
        refine lv_sipush (v := 999) S.1 S.2.1 dX11_go_21 (by decide) ?_
        refine lv_icmp_le (tgt := 29) S.1 S.2.1 dX11_go_24 (by decide) (fun q8 => ?_) (fun q8 => ?_)
        · have f := (if_pos q8).symm.trans f
          refine lv_aload_n S.1 S.2.1 dX11_go_29 rfl (lv_at hl 0 rfl) ?_
          obtain ⟨r9, e10, f⟩ := ob f
          refine o_gR S lf11_go_37 I e10 dX11_go_30 ?_
          refine lv_iload_n S.1 S.2.1 dX11_go_33 rfl (lv_at hl 1 rfl) ?_
          refine lv_iload_n S.1 S.2.1 dX11_go_34 rfl (lv_at hl 2 rfl) ?_
          refine lv_aload_n S.1 S.2.1 dX11_go_35 rfl (lv_at hl 0 rfl) ?_
          obtain ⟨r11, e12, f⟩ := ob f
          refine o_gR S lf11_go_47 I e12 dX11_go_36 ?_
          obtain ⟨r13, e14, f⟩ := ob f
          refine o_gR S lf11_go_122 I e14 dX11_go_39 ?_
          refine lv_iload_n S.1 S.2.1 dX11_go_42 rfl (lv_at hl 1 rfl) ?_
          obtain ⟨v16, e15, f⟩ := ob f
          refine o_iald S I e15 dX11_go_43 ?_
          obtain ⟨o17, e18, f⟩ := ob f
          refine o_Vi S (As := [.int x1, .int x2, .int v16]) (rest := []) (ci := 6) (M6_worthAt l D cy b A fl e18) gX11_go_X6_worthAt rfl rfl rfl cd6_worthAt ⟨Nat.le_of_ble_eq_true rfl, Nat.le_of_ble_eq_true rfl⟩ I (gd e18).1 clX6 rfl rfl hl.1 rfl (Nat.le_of_ble_eq_true rfl) dX11_go_44 ⟨Nat.le_of_ble_eq_true rfl, Nat.le_of_ble_eq_true rfl⟩ (fun H locs I => ?_)
          refine lv_istore (lv' := [(4, .int o17.1), (0, .ref (b + a0)), (1, .int x1), (2, .int x2), (3, .int x3)]) S.1 S.2.1 dX11_go_47 hl (by decide) rfl (fun ls hl => ?_)
          refine lv_iload S.1 S.2.1 dX11_go_49 (lv_at hl 0 rfl) ?_
          refine lv_iload_n S.1 S.2.1 dX11_go_51 rfl (lv_at hl 4 rfl) ?_
          refine lv_aload_n S.1 S.2.1 dX11_go_52 rfl (lv_at hl 1 rfl) ?_
          obtain ⟨r19, e20, f⟩ := ob f
          refine o_gR S lf11_go_37 I e20 dX11_go_53 ?_
          refine lv_aload_n S.1 S.2.1 dX11_go_56 rfl (lv_at hl 1 rfl) ?_
          obtain ⟨r21, e22, f⟩ := ob f
          refine o_gR S lf11_go_47 I e22 dX11_go_57 ?_
          refine lv_iload_n S.1 S.2.1 dX11_go_60 rfl (lv_at hl 2 rfl) ?_
          refine lv_iload_n S.1 S.2.1 dX11_go_61 rfl (lv_at hl 3 rfl) ?_
          obtain ⟨o23, e24, f⟩ := ob f
          refine o_Vi S (As := [.ref (b + r21), .int x1, .int x2]) (rest := [.int x3, .int o17.1]) (ci := 6) (M6_crossingOdds l D cy b A fl e24) gX11_go_X6_crossingOdds rfl rfl rfl cd6_crossingOdds ⟨Nat.le_of_ble_eq_true rfl, Nat.le_of_ble_eq_true rfl⟩ I (gd e24).1 clX6 rfl rfl hl.1 rfl (Nat.le_of_ble_eq_true rfl) dX11_go_62 ⟨Nat.le_of_ble_eq_true rfl, Nat.le_of_ble_eq_true rfl⟩ (fun H locs I => ?_)
          refine lv_imul S.1 S.2.1 dX11_go_65 ?_
          refine lv_icmp_le (tgt := 73) S.1 S.2.1 dX11_go_66 (by decide) (fun q25 => ?_) (fun q25 => ?_)
          · have f := (if_pos q25).symm.trans f
            refine lv_iconst (v := 0) S.1 S.2.1 dX11_go_73 (by decide) ?_
            exact o_iret S hr hlo I f dX11_go_74
          · have f := (if_neg q25).symm.trans f
            refine lv_iconst (v := 1) S.1 S.2.1 dX11_go_69 (by decide) ?_
            refine lv_goto (tgt := 74) S.1 S.2.1 dX11_go_70 (by decide) ?_
            exact o_iret S hr hlo I f dX11_go_74
        · have f := (if_neg q8).symm.trans f
          refine lv_iconst (v := (-1)) S.1 S.2.1 dX11_go_27 (by decide) ?_
          exact o_iret S hr hlo I f dX11_go_28
theorem M11_go (l : Launch) (D : va_G) (cy : Nat → ClassId) (b : Nat) (A : Nat → Prop) (fl : Bool) {h : PH} {a0 : Nat} {x1 : Int32} {x2 : Int32} {x3 : Int32} {out : Int32 × PH} (f : F11_go h a0 x1 x2 x3 = some out) : Met l yX11_go vX11_go ({ frames := 6, cells := 0, slots := 0, locals := 156 } : Room) (va_Pc [.ref (b + a0), .int x1, .int x2, .int x3] (ph_B D cy b A fl h)) (va_Qi (fun (r : Int32) (u : PH) => (r, u) = out) (ph_B D cy b A fl) A) 0 0 A :=
  o_met (by decide) rfl (Nat.le_of_ble_eq_true rfl) rfl (fun p e s m below meth c S hr hlo hnm ls hl I => T11_go_0 S hr hlo ((gd f).2) I (lv_sub hl [0, 1, 2, 3] rfl))
def vX11_isCell : List Cond := .code yX11_isCell cX11_isCell 2 (some .boolean) :: TB
theorem lf11_isCell_18 : Fl vX11_isCell RX11 18 11 3 := ⟨RX11, TX11, 14, rfl, by decide, (fun w h9 => List.mem_cons_of_mem _ (wC_wsX110 w h9)), (List.mem_cons_of_mem _ wT_1_18)⟩
theorem gX11_isCell_X8_cells : GoodIn vX11_isCell (wsV RX11 240 RX8 yX8_cells vX8_cells) := gV_of wT_38_5 wT_38_6 wT_38_7 wT_1_17 wT_38_8
theorem cd11_isCell : Cd yX11_isCell 1 := ⟨by decide, by decide, by decide +kernel⟩
set_option maxHeartbeats 4000000 in
set_option maxRecDepth 100000 in
theorem T11_isCell_0 (S : CallFix p m c cX11_isCell 2 s args vX11_isCell RX11) (hr : meth.sig.returnType = (some .boolean)) (hlo : meth.locks = false) {out : Int32 × PH} {h : PH} {a0 : Nat} {x1 : Int32} (f : F11_isCell_0  h a0 x1 = some out) {H : Heap} {locs : List Loc} (I : ph_I D cy b A fl h s H locs) {ls : Array Slot} (hl : lv_has ls 2 [(0, .ref (b + a0)), (1, .int x1)]) : W p l e ({ frames := 1, cells := 0, slots := 0, locals := 20 } : Room) s m args below meth c H locs 0 0 (MQ below (va_Qi (fun (r : Int32) (u : PH) => (r, u) = out) (ph_B D cy b A fl) A) args s 0 0 A) (F0 m 0 ls []) := by
  unfold F11_isCell_0 at f
  refine lv_iload_n S.1 S.2.1 dX11_isCell_0 rfl (lv_at hl 1 rfl) ?_
  refine lv_if_lt (tgt := 19) S.1 S.2.1 dX11_isCell_1 (by decide) (fun q1 => ?_) (fun q1 => ?_)
  · have f := (if_pos q1).symm.trans f
    refine lv_iconst (v := 0) S.1 S.2.1 dX11_isCell_19 (by decide) ?_
    exact o_zret S hr hlo I f dX11_isCell_20
  · have f := (if_neg q1).symm.trans f
    refine lv_iload_n S.1 S.2.1 dX11_isCell_4 rfl (lv_at hl 1 rfl) ?_
    refine lv_aload_n S.1 S.2.1 dX11_isCell_5 rfl (lv_at hl 0 rfl) ?_
    obtain ⟨r2, e3, f⟩ := ob f
    refine o_gR S lf11_isCell_18 I e3 dX11_isCell_6 ?_
    obtain ⟨o4, e5, f⟩ := ob f
    refine o_Vi S (As := []) (rest := [.int x1]) (ci := 8) (M8_cells l D cy b A fl e5) gX11_isCell_X8_cells rfl rfl rfl cd8_cells ⟨Nat.le_of_ble_eq_true rfl, Nat.le_of_ble_eq_true rfl⟩ I (gd e5).1 clX8 rfl rfl hl.1 rfl (Nat.le_of_ble_eq_true rfl) dX11_isCell_9 ⟨Nat.le_of_ble_eq_true rfl, Nat.le_of_ble_eq_true rfl⟩ (fun H locs I => ?_)
    refine lv_icmp_ge (tgt := 19) S.1 S.2.1 dX11_isCell_12 (by decide) (fun q6 => ?_) (fun q6 => ?_)
    · have f := (if_pos q6).symm.trans f
      refine lv_iconst (v := 0) S.1 S.2.1 dX11_isCell_19 (by decide) ?_
      exact o_zret S hr hlo I f dX11_isCell_20
    · have f := (if_neg q6).symm.trans f
      refine lv_iconst (v := 1) S.1 S.2.1 dX11_isCell_15 (by decide) ?_
      refine lv_goto (tgt := 20) S.1 S.2.1 dX11_isCell_16 (by decide) ?_
      exact o_zret S hr hlo I f dX11_isCell_20
theorem M11_isCell (l : Launch) (D : va_G) (cy : Nat → ClassId) (b : Nat) (A : Nat → Prop) (fl : Bool) {h : PH} {a0 : Nat} {x1 : Int32} {out : Int32 × PH} (f : F11_isCell h a0 x1 = some out) : Met l yX11_isCell vX11_isCell ({ frames := 1, cells := 0, slots := 0, locals := 20 } : Room) (va_Pc [.ref (b + a0), .int x1] (ph_B D cy b A fl h)) (va_Qi (fun (r : Int32) (u : PH) => (r, u) = out) (ph_B D cy b A fl) A) 0 0 A :=
  o_met (by decide) rfl (Nat.le_of_ble_eq_true rfl) rfl (fun p e s m below meth c S hr hlo hnm ls hl I => T11_isCell_0 S hr hlo ((gd f).2) I (lv_sub hl [0, 1] rfl))
def vX11_isRule : List Cond := .code yX11_isRule cX11_isRule 2 (some .boolean) :: TB
theorem cd11_isRule : Cd yX11_isRule 1 := ⟨by decide, by decide, by decide +kernel⟩
set_option maxHeartbeats 4000000 in
set_option maxRecDepth 100000 in
theorem T11_isRule_0 (S : CallFix p m c cX11_isRule 2 s args vX11_isRule RX11) (hr : meth.sig.returnType = (some .boolean)) (hlo : meth.locks = false) {out : Int32 × PH} {h : PH} {x1 : Int32} (f : F11_isRule_0  h x1 = some out) {H : Heap} {locs : List Loc} (I : ph_I D cy b A fl h s H locs) {ls : Array Slot} (hl : lv_has ls 2 [(1, .int x1)]) : W p l e ({ frames := 0, cells := 0, slots := 0, locals := 0 } : Room) s m args below meth c H locs 0 0 (MQ below (va_Qi (fun (r : Int32) (u : PH) => (r, u) = out) (ph_B D cy b A fl) A) args s 0 0 A) (F0 m 0 ls []) := by
  unfold F11_isRule_0 at f
  refine lv_iload_n S.1 S.2.1 dX11_isRule_0 rfl (lv_at hl 0 rfl) ?_
  refine lv_if_lt (tgt := 13) S.1 S.2.1 dX11_isRule_1 (by decide) (fun q1 => ?_) (fun q1 => ?_)
  · have f := (if_pos q1).symm.trans f
    refine lv_iconst (v := 0) S.1 S.2.1 dX11_isRule_13 (by decide) ?_
    exact o_zret S hr hlo I f dX11_isRule_14
  · have f := (if_neg q1).symm.trans f
    refine lv_iload_n S.1 S.2.1 dX11_isRule_4 rfl (lv_at hl 0 rfl) ?_
    refine lv_iconst (v := 4) S.1 S.2.1 dX11_isRule_5 (by decide) ?_
    refine lv_icmp_ge (tgt := 13) S.1 S.2.1 dX11_isRule_6 (by decide) (fun q2 => ?_) (fun q2 => ?_)
    · have f := (if_pos q2).symm.trans f
      refine lv_iconst (v := 0) S.1 S.2.1 dX11_isRule_13 (by decide) ?_
      exact o_zret S hr hlo I f dX11_isRule_14
    · have f := (if_neg q2).symm.trans f
      refine lv_iconst (v := 1) S.1 S.2.1 dX11_isRule_9 (by decide) ?_
      refine lv_goto (tgt := 14) S.1 S.2.1 dX11_isRule_10 (by decide) ?_
      exact o_zret S hr hlo I f dX11_isRule_14
theorem M11_isRule (l : Launch) (D : va_G) (cy : Nat → ClassId) (b : Nat) (A : Nat → Prop) (fl : Bool) {h : PH} {a0 : Nat} {x1 : Int32} {out : Int32 × PH} (f : F11_isRule h a0 x1 = some out) : Met l yX11_isRule vX11_isRule ({ frames := 0, cells := 0, slots := 0, locals := 0 } : Room) (va_Pc [.ref (b + a0), .int x1] (ph_B D cy b A fl h)) (va_Qi (fun (r : Int32) (u : PH) => (r, u) = out) (ph_B D cy b A fl) A) 0 0 A :=
  o_met (by decide) rfl (Nat.le_of_ble_eq_true rfl) rfl (fun p e s m below meth c S hr hlo hnm ls hl I => T11_isRule_0 S hr hlo ((gd f).2) I (lv_sub hl [1] rfl))
def vX11_keep : List Cond := .code yX11_keep cX11_keep 1 (some .int) :: TB
theorem lf11_keep_54 : Fl vX11_keep RX11 54 11 9 := ⟨RX11, TX11, 14, rfl, by decide, (fun w h9 => List.mem_cons_of_mem _ (wC_wsX110 w h9)), (List.mem_cons_of_mem _ wT_2_10)⟩
theorem lf11_keep_47 : Fl vX11_keep RX11 47 11 7 := ⟨RX11, TX11, 14, rfl, by decide, (fun w h9 => List.mem_cons_of_mem _ (wC_wsX110 w h9)), (List.mem_cons_of_mem _ wT_2_8)⟩
theorem gX11_keep_X4_takeAll : GoodIn vX11_keep (wsV RX11 373 RX4 yX4_takeAll vX4_takeAll) := gV_of wT_66_20 wT_57_15 wT_57_16 wT_2_7 wT_57_17
theorem lp11_keep_377 : Pl vX11_keep RX11 377 11 10 .boolean := ⟨RX11, TX11, 14, tyX11, rfl, by decide, (fun w h9 => List.mem_cons_of_mem _ (wC_wsX110 w h9)), (List.mem_cons_of_mem _ wT_23_21), tyX11_ok, nmX11, rfl, rfl⟩
theorem lf11_keep_186 : Fl vX11_keep RX11 186 4 0 := ⟨RX4, TX4, 11, rfl, by decide, (fun w h9 => List.mem_cons_of_mem _ (wC_wsX40 w h9)), (List.mem_cons_of_mem _ wT_34_1)⟩
theorem cd11_keep : Cd yX11_keep 0 := ⟨by decide, by decide, by decide +kernel⟩
set_option maxHeartbeats 4000000 in
set_option maxRecDepth 100000 in
theorem T11_keep_0 (S : CallFix p m c cX11_keep 1 s args vX11_keep RX11) (hr : meth.sig.returnType = (some .int)) (hlo : meth.locks = false) {out : Int32 × PH} {h : PH} {a0 : Nat} (f : F11_keep_0  h a0 = some out) {H : Heap} {locs : List Loc} (I : ph_I D cy b A false h s H locs) {ls : Array Slot} (hl : lv_has ls 1 [(0, .ref (b + a0))]) : W p l e ({ frames := 2, cells := 0, slots := 0, locals := 61 } : Room) s m args below meth c H locs 0 0 (MQ below (va_Qi (fun (r : Int32) (u : PH) => (r, u) = out) (ph_B D cy b A false) A) args s 0 0 A) (F0 m 0 ls []) := by
  unfold F11_keep_0 at f
  refine lv_aload_n S.1 S.2.1 dX11_keep_0 rfl (lv_at hl 0 rfl) ?_
  obtain ⟨r1, e2, f⟩ := ob f
  refine o_gR S lf11_keep_54 I e2 dX11_keep_1 ?_
  refine lv_aload_n S.1 S.2.1 dX11_keep_4 rfl (lv_at hl 0 rfl) ?_
  obtain ⟨r3, e4, f⟩ := ob f
  refine o_gR S lf11_keep_47 I e4 dX11_keep_5 ?_
  obtain ⟨o5, e6, f⟩ := ob f
  refine o_Vv S (As := [.ref (b + r3)]) (rest := []) (ci := 4) (M4_takeAll l D cy b A e6) gX11_keep_X4_takeAll rfl rfl rfl cd4_takeAll ⟨Nat.le_of_ble_eq_true rfl, Nat.le_of_ble_eq_true rfl⟩ I (gd e6).1 clX4 rfl rfl hl.1 rfl (Nat.le_of_ble_eq_true rfl) dX11_keep_8 ⟨Nat.le_of_ble_eq_true rfl, Nat.le_of_ble_eq_true rfl⟩ (fun H locs I => ?_)
  refine lv_aload_n S.1 S.2.1 dX11_keep_11 rfl (lv_at hl 0 rfl) ?_
  refine lv_iconst (v := 1) S.1 S.2.1 dX11_keep_12 (by decide) ?_
  obtain ⟨h7, e8, f⟩ := ob f
  refine o_pZ S lp11_keep_377 I e8 dX11_keep_13 (fun H locs I => ?_)
  refine lv_aload_n S.1 S.2.1 dX11_keep_16 rfl (lv_at hl 0 rfl) ?_
  obtain ⟨r9, e10, f⟩ := ob f
  refine o_gR S lf11_keep_47 I e10 dX11_keep_17 ?_
  obtain ⟨v11, e12, f⟩ := ob f
  refine o_gI S lf11_keep_186 I e12 dX11_keep_20 ?_
  exact o_iret S hr hlo I f dX11_keep_23
theorem M11_keep (l : Launch) (D : va_G) (cy : Nat → ClassId) (b : Nat) (A : Nat → Prop) {h : PH} {a0 : Nat} {out : Int32 × PH} (f : F11_keep h a0 = some out) : Met l yX11_keep vX11_keep ({ frames := 2, cells := 0, slots := 0, locals := 61 } : Room) (va_Pc [.ref (b + a0)] (ph_B D cy b A false h)) (va_Qi (fun (r : Int32) (u : PH) => (r, u) = out) (ph_B D cy b A false) A) 0 0 A :=
  o_met (by decide) rfl (Nat.le_of_ble_eq_true rfl) rfl (fun p e s m below meth c S hr hlo hnm ls hl I => T11_keep_0 S hr hlo ((gd f).2) I (lv_sub hl [0] rfl))
def vX11_known : List Cond := .code yX11_known cX11_known 2 (some .boolean) :: TB
theorem lf11_known_60 : Fl vX11_known RX11 60 11 11 := ⟨RX11, TX11, 14, rfl, by decide, (fun w h9 => List.mem_cons_of_mem _ (wC_wsX110 w h9)), (List.mem_cons_of_mem _ wT_2_14)⟩
theorem lf11_known_323 : Fl vX11_known RX11 323 3 0 := ⟨RX3, TX3, 7, rfl, by decide, (fun w h9 => List.mem_cons_of_mem _ (wC_wsX30 w h9)), (List.mem_cons_of_mem _ wT_23_18)⟩
theorem lp11_known_327 : Pl vX11_known RX11 327 3 1 .int := ⟨RX3, TX3, 7, tyX3, rfl, by decide, (fun w h9 => List.mem_cons_of_mem _ (wC_wsX30 w h9)), (List.mem_cons_of_mem _ wT_23_19), tyX3_ok, nmX3, rfl, rfl⟩
theorem cd11_known : Cd yX11_known 1 := ⟨by decide, by decide, by decide +kernel⟩
set_option maxHeartbeats 4000000 in
set_option maxRecDepth 100000 in
theorem T11_known_0 (S : CallFix p m c cX11_known 2 s args vX11_known RX11) (hr : meth.sig.returnType = (some .boolean)) (hlo : meth.locks = false) {out : Int32 × PH} {h : PH} {a0 : Nat} {x1 : Int32} (f : F11_known_0  h a0 x1 = some out) {H : Heap} {locs : List Loc} (I : ph_I D cy b A fl h s H locs) {ls : Array Slot} (hl : lv_has ls 2 [(0, .ref (b + a0)), (1, .int x1)]) : W p l e ({ frames := 0, cells := 0, slots := 0, locals := 0 } : Room) s m args below meth c H locs 0 0 (MQ below (va_Qi (fun (r : Int32) (u : PH) => (r, u) = out) (ph_B D cy b A fl) A) args s 0 0 A) (F0 m 0 ls []) := by
  unfold F11_known_0 at f
  refine lv_iload_n S.1 S.2.1 dX11_known_0 rfl (lv_at hl 1 rfl) ?_
  refine lv_iconst (v := (-1)) S.1 S.2.1 dX11_known_1 (by decide) ?_
  refine lv_icmp_lt (tgt := 16) S.1 S.2.1 dX11_known_2 (by decide) (fun q1 => ?_) (fun q1 => ?_)
  · have f := (if_pos q1).symm.trans f
    refine lv_iconst (v := 0) S.1 S.2.1 dX11_known_16 (by decide) ?_
    exact o_zret S hr hlo I f dX11_known_17
  · have f := (if_neg q1).symm.trans f
    refine lv_iload_n S.1 S.2.1 dX11_known_5 rfl (lv_at hl 1 rfl) ?_
    refine lv_aload_n S.1 S.2.1 dX11_known_6 rfl (lv_at hl 0 rfl) ?_
    obtain ⟨r2, e3, f⟩ := ob f
    refine o_gR S lf11_known_60 I e3 dX11_known_7 ?_
    obtain ⟨v4, e5, f⟩ := ob f
    refine o_gI S lf11_known_323 I e5 dX11_known_10 ?_
    refine lv_icmp_le (tgt := 18) S.1 S.2.1 dX11_known_13 (by decide) (fun q6 => ?_) (fun q6 => ?_)
    · have f := (if_pos q6).symm.trans f
      refine lv_aload_n S.1 S.2.1 dX11_known_18 rfl (lv_at hl 0 rfl) ?_
      obtain ⟨r7, e8, f⟩ := ob f
      refine o_gR S lf11_known_60 I e8 dX11_known_19 ?_
      refine lv_iload_n S.1 S.2.1 dX11_known_22 rfl (lv_at hl 1 rfl) ?_
      obtain ⟨h9, e10, f⟩ := ob f
      refine o_pI S lp11_known_327 I e10 dX11_known_23 (fun H locs I => ?_)
      refine lv_iconst (v := 1) S.1 S.2.1 dX11_known_26 (by decide) ?_
      exact o_zret S hr hlo I f dX11_known_27
    · have f := (if_neg q6).symm.trans f
      refine lv_iconst (v := 0) S.1 S.2.1 dX11_known_16 (by decide) ?_
      exact o_zret S hr hlo I f dX11_known_17
theorem M11_known (l : Launch) (D : va_G) (cy : Nat → ClassId) (b : Nat) (A : Nat → Prop) (fl : Bool) {h : PH} {a0 : Nat} {x1 : Int32} {out : Int32 × PH} (f : F11_known h a0 x1 = some out) : Met l yX11_known vX11_known ({ frames := 0, cells := 0, slots := 0, locals := 0 } : Room) (va_Pc [.ref (b + a0), .int x1] (ph_B D cy b A fl h)) (va_Qi (fun (r : Int32) (u : PH) => (r, u) = out) (ph_B D cy b A fl) A) 0 0 A :=
  o_met (by decide) rfl (Nat.le_of_ble_eq_true rfl) rfl (fun p e s m below meth c S hr hlo hnm ls hl I => T11_known_0 S hr hlo ((gd f).2) I (lv_sub hl [0, 1] rfl))
def vX11_law : List Cond := .code yX11_law cX11_law 4 (some .long) :: TB
theorem gX11_law_X11_isSurfer : GoodIn vX11_law (wsV RX11 115 RX11 yX11_isSurfer vX11_isSurfer) := gV_of wT_33_17 wT_33_18 wT_33_19 wT_1_2 wT_33_20
theorem gX11_law_X11_isWave : GoodIn vX11_law (wsV RX11 147 RX11 yX11_isWave vX11_isWave) := gV_of wT_36_22 wT_36_23 wT_37_0 wT_1_2 wT_37_1
theorem lf11_law_37 : Fl vX11_law RX11 37 11 5 := ⟨RX11, TX11, 14, rfl, by decide, (fun w h9 => List.mem_cons_of_mem _ (wC_wsX110 w h9)), (List.mem_cons_of_mem _ wT_2_3)⟩
theorem gX11_law_X6_awayValue : GoodIn vX11_law (wsV RX11 198 RX6 yX6_awayValue vX6_awayValue) := gV_of wT_40_23 wT_41_0 wT_41_1 wT_2_2 wT_41_2
theorem lf11_law_47 : Fl vX11_law RX11 47 11 7 := ⟨RX11, TX11, 14, rfl, by decide, (fun w h9 => List.mem_cons_of_mem _ (wC_wsX110 w h9)), (List.mem_cons_of_mem _ wT_2_8)⟩
theorem lf11_law_122 : Fl vX11_law RX11 122 4 5 := ⟨RX4, TX4, 11, rfl, by decide, (fun w h9 => List.mem_cons_of_mem _ (wC_wsX40 w h9)), (List.mem_cons_of_mem _ wT_33_11)⟩
theorem gX11_law_X6_catchValue : GoodIn vX11_law (wsV RX11 194 RX6 yX6_catchValue vX6_catchValue) := gV_of wT_40_19 wT_40_20 wT_40_21 wT_2_2 wT_40_22
theorem lf11_law_186 : Fl vX11_law RX11 186 4 0 := ⟨RX4, TX4, 11, rfl, by decide, (fun w h9 => List.mem_cons_of_mem _ (wC_wsX40 w h9)), (List.mem_cons_of_mem _ wT_34_1)⟩
theorem gX11_law_X6_driftValue : GoodIn vX11_law (wsV RX11 188 RX6 yX6_driftValue vX6_driftValue) := gV_of wT_40_18 wT_25_4 wT_25_5 wT_2_2 wT_25_6
theorem cd11_law : Cd yX11_law 3 := ⟨by decide, by decide, by decide +kernel⟩
set_option maxHeartbeats 4000000 in
set_option maxRecDepth 100000 in
theorem T11_law_0 (S : CallFix p m c cX11_law 4 s args vX11_law RX11) (hr : meth.sig.returnType = (some .long)) (hlo : meth.locks = false) {out : Int64 × PH} {h : PH} {a0 : Nat} {x1 : Int32} {x2 : Int32} {x3 : Int32} (f : F11_law_0  h a0 x1 x2 x3 = some out) {H : Heap} {locs : List Loc} (I : ph_I D cy b A fl h s H locs) {ls : Array Slot} (hl : lv_has ls 4 [(0, .ref (b + a0)), (1, .int x1), (2, .int x2), (3, .int x3)]) : W p l e ({ frames := 4, cells := 0, slots := 0, locals := 101 } : Room) s m args below meth c H locs 0 0 (MQ below (va_Ql (fun (r : Int64) (u : PH) => (r, u) = out) (ph_B D cy b A fl) A) args s 0 0 A) (F0 m 0 ls []) := by
  unfold F11_law_0 at f
  refine lv_iload_n S.1 S.2.1 dX11_law_0 rfl (lv_at hl 1 rfl) ?_
  refine lv_iconst (v := 2) S.1 S.2.1 dX11_law_1 (by decide) ?_
  refine lv_icmp_ne (tgt := 20) S.1 S.2.1 dX11_law_2 (by decide) (fun q1 => ?_) (fun q1 => ?_)
  · have f := (if_neg q1).symm.trans f
    refine lv_aload_n S.1 S.2.1 dX11_law_20 rfl (lv_at hl 0 rfl) ?_
    refine lv_iload_n S.1 S.2.1 dX11_law_21 rfl (lv_at hl 2 rfl) ?_
    obtain ⟨o2, e3, f⟩ := ob f
    refine o_Vi S (As := [.int x2]) (rest := []) (ci := 11) (M11_isSurfer l D cy b A fl e3) gX11_law_X11_isSurfer rfl rfl rfl cd11_isSurfer ⟨Nat.le_of_ble_eq_true rfl, Nat.le_of_ble_eq_true rfl⟩ I (gd e3).1 clX11 rfl rfl hl.1 rfl (Nat.le_of_ble_eq_true rfl) dX11_law_22 ⟨Nat.le_of_ble_eq_true rfl, Nat.le_of_ble_eq_true rfl⟩ (fun H locs I => ?_)
    refine lv_if_eq (tgt := 36) S.1 S.2.1 dX11_law_25 (by decide) (fun q4 => ?_) (fun q4 => ?_)
    · have f := (if_pos q4).symm.trans f
      refine lv_ldc2 (v := (-9223372036854775808)) S.1 S.2.1 S.2.2.2.1 (S.2.2.2.2 _ (List.mem_cons_of_mem _ wT_40_17)) dX11_law_36 ?_
      exact o_lret S hr hlo I f dX11_law_39
    · have f := (if_neg q4).symm.trans f
      refine lv_aload_n S.1 S.2.1 dX11_law_28 rfl (lv_at hl 0 rfl) ?_
      refine lv_iload_n S.1 S.2.1 dX11_law_29 rfl (lv_at hl 3 rfl) ?_
      obtain ⟨o5, e6, f⟩ := ob f
      refine o_Vi S (As := [.int x3]) (rest := []) (ci := 11) (M11_isWave l D cy b A fl e6) gX11_law_X11_isWave rfl rfl rfl cd11_isWave ⟨Nat.le_of_ble_eq_true rfl, Nat.le_of_ble_eq_true rfl⟩ I (gd e6).1 clX11 rfl rfl hl.1 rfl (Nat.le_of_ble_eq_true rfl) dX11_law_30 ⟨Nat.le_of_ble_eq_true rfl, Nat.le_of_ble_eq_true rfl⟩ (fun H locs I => ?_)
      refine lv_if_ne (tgt := 40) S.1 S.2.1 dX11_law_33 (by decide) (fun q7 => ?_) (fun q7 => ?_)
      · have f := (if_neg q7).symm.trans f
        refine lv_iload_n S.1 S.2.1 dX11_law_40 rfl (lv_at hl 1 rfl) ?_
        refine lv_if_ne (tgt := 63) S.1 S.2.1 dX11_law_41 (by decide) (fun q8 => ?_) (fun q8 => ?_)
        · have f := (if_neg q8).symm.trans f
          refine lv_iload_n S.1 S.2.1 dX11_law_63 rfl (lv_at hl 1 rfl) ?_
          refine lv_iconst (v := 1) S.1 S.2.1 dX11_law_64 (by decide) ?_
          refine lv_icmp_ne (tgt := 80) S.1 S.2.1 dX11_law_65 (by decide) (fun q9 => ?_) (fun q9 => ?_)
          · have f := (if_neg q9).symm.trans f
            refine lv_ldc2 (v := (-9223372036854775808)) S.1 S.2.1 S.2.2.2.1 (S.2.2.2.2 _ (List.mem_cons_of_mem _ wT_40_17)) dX11_law_80 ?_
            exact o_lret S hr hlo I f dX11_law_83
          · have f := (if_pos q9).symm.trans f
            refine lv_aload_n S.1 S.2.1 dX11_law_68 rfl (lv_at hl 0 rfl) ?_
            obtain ⟨r10, e11, f⟩ := ob f
            refine o_gR S lf11_law_37 I e11 dX11_law_69 ?_
            refine lv_iload_n S.1 S.2.1 dX11_law_72 rfl (lv_at hl 2 rfl) ?_
            refine lv_iload_n S.1 S.2.1 dX11_law_73 rfl (lv_at hl 3 rfl) ?_
            obtain ⟨o12, e13, f⟩ := ob f
            refine o_Vl S (As := [.int x2, .int x3]) (rest := []) (ci := 6) (M6_awayValue l D cy b A fl e13) gX11_law_X6_awayValue rfl rfl rfl cd6_awayValue ⟨Nat.le_of_ble_eq_true rfl, Nat.le_of_ble_eq_true rfl⟩ I (gd e13).1 clX6 rfl rfl hl.1 rfl (Nat.le_of_ble_eq_true rfl) dX11_law_74 ⟨Nat.le_of_ble_eq_true rfl, Nat.le_of_ble_eq_true rfl⟩ (fun H locs I => ?_)
            refine lv_goto (tgt := 83) S.1 S.2.1 dX11_law_77 (by decide) ?_
            exact o_lret S hr hlo I f dX11_law_83
        · have f := (if_pos q8).symm.trans f
          refine lv_aload_n S.1 S.2.1 dX11_law_44 rfl (lv_at hl 0 rfl) ?_
          obtain ⟨r14, e15, f⟩ := ob f
          refine o_gR S lf11_law_37 I e15 dX11_law_45 ?_
          refine lv_iload_n S.1 S.2.1 dX11_law_48 rfl (lv_at hl 2 rfl) ?_
          refine lv_iload_n S.1 S.2.1 dX11_law_49 rfl (lv_at hl 3 rfl) ?_
          refine lv_aload_n S.1 S.2.1 dX11_law_50 rfl (lv_at hl 0 rfl) ?_
          obtain ⟨r16, e17, f⟩ := ob f
          refine o_gR S lf11_law_47 I e17 dX11_law_51 ?_
          obtain ⟨r18, e19, f⟩ := ob f
          refine o_gR S lf11_law_122 I e19 dX11_law_54 ?_
          refine lv_iload_n S.1 S.2.1 dX11_law_57 rfl (lv_at hl 2 rfl) ?_
          obtain ⟨v21, e20, f⟩ := ob f
          refine o_iald S I e20 dX11_law_58 ?_
          obtain ⟨o22, e23, f⟩ := ob f
          refine o_Vl S (As := [.int x2, .int x3, .int v21]) (rest := []) (ci := 6) (M6_catchValue l D cy b A fl e23) gX11_law_X6_catchValue rfl rfl rfl cd6_catchValue ⟨Nat.le_of_ble_eq_true rfl, Nat.le_of_ble_eq_true rfl⟩ I (gd e23).1 clX6 rfl rfl hl.1 rfl (Nat.le_of_ble_eq_true rfl) dX11_law_59 ⟨Nat.le_of_ble_eq_true rfl, Nat.le_of_ble_eq_true rfl⟩ (fun H locs I => ?_)
          exact o_lret S hr hlo I f dX11_law_62
      · have f := (if_pos q7).symm.trans f
        refine lv_ldc2 (v := (-9223372036854775808)) S.1 S.2.1 S.2.2.2.1 (S.2.2.2.2 _ (List.mem_cons_of_mem _ wT_40_17)) dX11_law_36 ?_
        exact o_lret S hr hlo I f dX11_law_39
  · have f := (if_pos q1).symm.trans f
    refine lv_aload_n S.1 S.2.1 dX11_law_5 rfl (lv_at hl 0 rfl) ?_
    obtain ⟨r24, e25, f⟩ := ob f
    refine o_gR S lf11_law_37 I e25 dX11_law_6 ?_
    refine lv_aload_n S.1 S.2.1 dX11_law_9 rfl (lv_at hl 0 rfl) ?_
    obtain ⟨r26, e27, f⟩ := ob f
    refine o_gR S lf11_law_47 I e27 dX11_law_10 ?_
    obtain ⟨v28, e29, f⟩ := ob f
    refine o_gI S lf11_law_186 I e29 dX11_law_13 ?_
    obtain ⟨o30, e31, f⟩ := ob f
    refine o_Vl S (As := [.int v28]) (rest := []) (ci := 6) (M6_driftValue l D cy b A fl e31) gX11_law_X6_driftValue rfl rfl rfl cd6_driftValue ⟨Nat.le_of_ble_eq_true rfl, Nat.le_of_ble_eq_true rfl⟩ I (gd e31).1 clX6 rfl rfl hl.1 rfl (Nat.le_of_ble_eq_true rfl) dX11_law_16 ⟨Nat.le_of_ble_eq_true rfl, Nat.le_of_ble_eq_true rfl⟩ (fun H locs I => ?_)
    exact o_lret S hr hlo I f dX11_law_19
theorem M11_law (l : Launch) (D : va_G) (cy : Nat → ClassId) (b : Nat) (A : Nat → Prop) (fl : Bool) {h : PH} {a0 : Nat} {x1 : Int32} {x2 : Int32} {x3 : Int32} {out : Int64 × PH} (f : F11_law h a0 x1 x2 x3 = some out) : Met l yX11_law vX11_law ({ frames := 4, cells := 0, slots := 0, locals := 101 } : Room) (va_Pc [.ref (b + a0), .int x1, .int x2, .int x3] (ph_B D cy b A fl h)) (va_Ql (fun (r : Int64) (u : PH) => (r, u) = out) (ph_B D cy b A fl) A) 0 0 A :=
  o_met (by decide) rfl (Nat.le_of_ble_eq_true rfl) rfl (fun p e s m below meth c S hr hlo hnm ls hl I => T11_law_0 S hr hlo ((gd f).2) I (lv_sub hl [0, 1, 2, 3] rfl))
def vX11_locals : List Cond := .code yX11_locals cX11_locals 7 (some .int) :: TB
theorem lf11_locals_60 : Fl vX11_locals RX11 60 11 11 := ⟨RX11, TX11, 14, rfl, by decide, (fun w h9 => List.mem_cons_of_mem _ (wC_wsX110 w h9)), (List.mem_cons_of_mem _ wT_2_14)⟩
theorem lf11_locals_340 : Fl vX11_locals RX11 340 3 3 := ⟨RX3, TX3, 7, rfl, by decide, (fun w h9 => List.mem_cons_of_mem _ (wC_wsX30 w h9)), (List.mem_cons_of_mem _ wT_63_3)⟩
theorem lf11_locals_37 : Fl vX11_locals RX11 37 11 5 := ⟨RX11, TX11, 14, rfl, by decide, (fun w h9 => List.mem_cons_of_mem _ (wC_wsX110 w h9)), (List.mem_cons_of_mem _ wT_2_3)⟩
theorem lf11_locals_343 : Fl vX11_locals RX11 343 3 4 := ⟨RX3, TX3, 7, rfl, by decide, (fun w h9 => List.mem_cons_of_mem _ (wC_wsX30 w h9)), (List.mem_cons_of_mem _ wT_63_4)⟩
theorem lf11_locals_18 : Fl vX11_locals RX11 18 11 3 := ⟨RX11, TX11, 14, rfl, by decide, (fun w h9 => List.mem_cons_of_mem _ (wC_wsX110 w h9)), (List.mem_cons_of_mem _ wT_1_18)⟩
theorem lf11_locals_150 : Fl vX11_locals RX11 150 8 5 := ⟨RX8, TX8, 14, rfl, by decide, (fun w h9 => List.mem_cons_of_mem _ (wC_wsX80 w h9)), (List.mem_cons_of_mem _ wT_36_16)⟩
theorem lf11_locals_344 : Fl vX11_locals RX11 344 10 2 := ⟨RX10, TX10, 8, rfl, by decide, (fun w h9 => List.mem_cons_of_mem _ (wC_wsX100 w h9)), (List.mem_cons_of_mem _ wT_63_5)⟩
theorem gX11_locals_X6_farOf : GoodIn vX11_locals (wsV RX11 347 RX6 yX6_farOf vX6_farOf) := gV_of wT_63_19 wT_39_10 wT_39_11 wT_2_2 wT_39_12
theorem gX11_locals_X3_howManyKnown : GoodIn vX11_locals (wsV RX11 333 RX3 yX3_howManyKnown vX3_howManyKnown) := gV_of wT_63_14 wT_63_11 wT_63_12 wT_2_13 wT_63_13
theorem gX11_locals_X3_isKnownSeat : GoodIn vX11_locals (wsV RX11 336 RX3 yX3_isKnownSeat vX3_isKnownSeat) := gV_of wT_63_15 wT_63_16 wT_63_17 wT_2_13 wT_63_18
theorem lf11_locals_339 : Fl vX11_locals RX11 339 3 2 := ⟨RX3, TX3, 7, rfl, by decide, (fun w h9 => List.mem_cons_of_mem _ (wC_wsX30 w h9)), (List.mem_cons_of_mem _ wT_63_2)⟩
theorem gX11_locals_X10_setFrom : GoodIn vX11_locals (wsV RX11 308 RX10 yX10_setFrom vX10_setFrom) := gV_of wT_59_23 wT_60_0 wT_60_1 wT_3_9 wT_60_2
theorem gX11_locals_X3_findStruck : GoodIn vX11_locals (wsV RX11 330 RX3 yX3_findStruck vX3_findStruck) := gV_of wT_63_6 wT_63_7 wT_63_8 wT_2_13 wT_63_9
theorem cd11_locals : Cd yX11_locals 1 := ⟨by decide, by decide, by decide +kernel⟩
set_option maxHeartbeats 4000000 in
set_option maxRecDepth 100000 in
theorem T11_locals_74 (S : CallFix p m c cX11_locals 7 s args vX11_locals RX11) (hr : meth.sig.returnType = (some .int)) (hlo : meth.locks = false) {out : Int32 × PH} {k26 : PH → Nat → Int32 → Int32 → Int32 → Int32 → Option (Int32 × PH)} (hk26 : ∀ {h : PH} {a0 : Nat} {x1 : Int32} {x2 : Int32} {x3 : Int32} {x4 : Int32}, k26 h a0 x1 x2 x3 x4 = some out → ∀ (H : Heap) (locs : List Loc), ph_I D cy b A fl h s H locs → ∀ (ls : Array Slot), lv_has ls 7 [(0, .ref (b + a0)), (1, .int x1), (2, .int x2), (3, .int x3), (4, .int x4)] → W p l e ({ frames := 3, cells := 0, slots := 0, locals := 68 } : Room) s m args below meth c H locs 0 0 (MQ below (va_Qi (fun (r : Int32) (u : PH) => (r, u) = out) (ph_B D cy b A fl) A) args s 0 0 A) (F0 m 26 ls [])) {h : PH} {a0 : Nat} {x1 : Int32} {x2 : Int32} {x3 : Int32} {x4 : Int32} {s0 : Int32} (f : F11_locals_74 k26 h a0 x1 x2 x3 x4 s0 = some out) {H : Heap} {locs : List Loc} (I : ph_I D cy b A fl h s H locs) {ls : Array Slot} (hl : lv_has ls 7 [(0, .ref (b + a0)), (1, .int x1), (2, .int x2), (3, .int x3), (4, .int x4)]) : W p l e ({ frames := 3, cells := 0, slots := 0, locals := 68 } : Room) s m args below meth c H locs 0 0 (MQ below (va_Qi (fun (r : Int32) (u : PH) => (r, u) = out) (ph_B D cy b A fl) A) args s 0 0 A) (F0 m 74 ls [.int s0]) := by
  unfold F11_locals_74 at f
  refine lv_istore (lv' := [(5, .int s0), (0, .ref (b + a0)), (1, .int x1), (2, .int x2), (3, .int x3), (4, .int x4)]) S.1 S.2.1 dX11_locals_74 hl (by decide) rfl (fun ls hl => ?_)
  refine lv_iload S.1 S.2.1 dX11_locals_76 (lv_at hl 0 rfl) ?_
  refine lv_iconst (v := (-1)) S.1 S.2.1 dX11_locals_78 (by decide) ?_
  refine lv_icmp_eq (tgt := 143) S.1 S.2.1 dX11_locals_79 (by decide) (fun q1 => ?_) (fun q1 => ?_)
  · have f := (if_pos q1).symm.trans f
    refine lv_iinc (v := (x4 + 1)) (lv' := [(4, .int (x4 + 1)), (5, .int s0), (0, .ref (b + a0)), (1, .int x1), (2, .int x2), (3, .int x3)]) S.1 S.2.1 dX11_locals_143 hl (k := 5) rfl (congrArg (fun z => x4 + z) (by decide)) (by decide) rfl (fun ls hl => ?_)
    refine lv_goto (tgt := 26) S.1 S.2.1 dX11_locals_146 (by decide) ?_
    exact hk26 f _ _ I _ (lv_sub hl [2, 3, 4, 5, 0] rfl)
  · have f := (if_neg q1).symm.trans f
    refine lv_iconst (v := 1) S.1 S.2.1 dX11_locals_82 (by decide) ?_
    refine lv_aload_n S.1 S.2.1 dX11_locals_83 rfl (lv_at hl 1 rfl) ?_
    obtain ⟨r2, e3, f⟩ := ob f
    refine o_gR S lf11_locals_60 I e3 dX11_locals_84 ?_
    obtain ⟨r4, e5, f⟩ := ob f
    refine o_gR S lf11_locals_340 I e5 dX11_locals_87 ?_
    refine lv_iload S.1 S.2.1 dX11_locals_90 (lv_at hl 5 rfl) ?_
    obtain ⟨v7, e6, f⟩ := ob f
    refine o_iald S I e6 dX11_locals_92 ?_
    refine lv_ishl S.1 S.2.1 dX11_locals_93 ?_
    refine lv_istore (lv' := [(6, .int (1 <<< (v7 &&& 31))), (5, .int s0), (0, .ref (b + a0)), (1, .int x1), (2, .int x2), (3, .int x3), (4, .int x4)]) S.1 S.2.1 dX11_locals_94 hl (by decide) rfl (fun ls hl => ?_)
    refine lv_aload_n S.1 S.2.1 dX11_locals_96 rfl (lv_at hl 2 rfl) ?_
    obtain ⟨r8, e9, f⟩ := ob f
    refine o_gR S lf11_locals_37 I e9 dX11_locals_97 ?_
    refine lv_aload_n S.1 S.2.1 dX11_locals_100 rfl (lv_at hl 2 rfl) ?_
    obtain ⟨r10, e11, f⟩ := ob f
    refine o_gR S lf11_locals_60 I e11 dX11_locals_101 ?_
    obtain ⟨r12, e13, f⟩ := ob f
    refine o_gR S lf11_locals_343 I e13 dX11_locals_104 ?_
    refine lv_iload S.1 S.2.1 dX11_locals_107 (lv_at hl 6 rfl) ?_
    obtain ⟨v15, e14, f⟩ := ob f
    refine o_iald S I e14 dX11_locals_109 ?_
    refine lv_aload_n S.1 S.2.1 dX11_locals_110 rfl (lv_at hl 2 rfl) ?_
    obtain ⟨r16, e17, f⟩ := ob f
    refine o_gR S lf11_locals_18 I e17 dX11_locals_111 ?_
    obtain ⟨r18, e19, f⟩ := ob f
    refine o_gR S lf11_locals_150 I e19 dX11_locals_114 ?_
    obtain ⟨r20, e21, f⟩ := ob f
    refine o_gR S lf11_locals_344 I e21 dX11_locals_117 ?_
    refine lv_iload S.1 S.2.1 dX11_locals_120 (lv_at hl 1 rfl) ?_
    obtain ⟨v23, e22, f⟩ := ob f
    refine o_iald S I e22 dX11_locals_122 ?_
    obtain ⟨o24, e25, f⟩ := ob f
    refine o_Vi S (As := [.int v15, .int v23]) (rest := []) (ci := 6) (M6_farOf l D cy b A fl e25) gX11_locals_X6_farOf rfl rfl rfl cd6_farOf ⟨Nat.le_of_ble_eq_true rfl, Nat.le_of_ble_eq_true rfl⟩ I (gd e25).1 clX6 rfl rfl hl.1 rfl (Nat.le_of_ble_eq_true rfl) dX11_locals_123 ⟨Nat.le_of_ble_eq_true rfl, Nat.le_of_ble_eq_true rfl⟩ (fun H locs I => ?_)
    refine lv_iload_n S.1 S.2.1 dX11_locals_126 rfl (lv_at hl 3 rfl) ?_
    refine lv_icmp_gt (tgt := 138) S.1 S.2.1 dX11_locals_127 (by decide) (fun q26 => ?_) (fun q26 => ?_)
    · have f := (if_pos q26).symm.trans f
      refine lv_iload_n S.1 S.2.1 dX11_locals_138 rfl (lv_at hl 5 rfl) ?_
      refine lv_iload S.1 S.2.1 dX11_locals_139 (lv_at hl 0 rfl) ?_
      refine lv_ior S.1 S.2.1 dX11_locals_141 ?_
      refine lv_istore_n (lv' := [(3, .int (x3 ||| (1 <<< (v7 &&& 31)))), (6, .int (1 <<< (v7 &&& 31))), (5, .int s0), (0, .ref (b + a0)), (1, .int x1), (2, .int x2), (4, .int x4)]) S.1 S.2.1 dX11_locals_142 rfl hl (by decide) rfl (fun ls hl => ?_)
      refine lv_iinc (v := (x4 + 1)) (lv' := [(4, .int (x4 + 1)), (3, .int (x3 ||| (1 <<< (v7 &&& 31)))), (6, .int (1 <<< (v7 &&& 31))), (5, .int s0), (0, .ref (b + a0)), (1, .int x1), (2, .int x2)]) S.1 S.2.1 dX11_locals_143 hl (k := 6) rfl (congrArg (fun z => x4 + z) (by decide)) (by decide) rfl (fun ls hl => ?_)
      refine lv_goto (tgt := 26) S.1 S.2.1 dX11_locals_146 (by decide) ?_
      exact hk26 f _ _ I _ (lv_sub hl [4, 5, 6, 1, 0] rfl)
    · have f := (if_neg q26).symm.trans f
      refine lv_iload_n S.1 S.2.1 dX11_locals_130 rfl (lv_at hl 4 rfl) ?_
      refine lv_iload S.1 S.2.1 dX11_locals_131 (lv_at hl 0 rfl) ?_
      refine lv_ior S.1 S.2.1 dX11_locals_133 ?_
      refine lv_istore_n (lv' := [(2, .int (x2 ||| (1 <<< (v7 &&& 31)))), (6, .int (1 <<< (v7 &&& 31))), (5, .int s0), (0, .ref (b + a0)), (1, .int x1), (3, .int x3), (4, .int x4)]) S.1 S.2.1 dX11_locals_134 rfl hl (by decide) rfl (fun ls hl => ?_)
      refine lv_goto (tgt := 143) S.1 S.2.1 dX11_locals_135 (by decide) ?_
      refine lv_iinc (v := (x4 + 1)) (lv' := [(4, .int (x4 + 1)), (2, .int (x2 ||| (1 <<< (v7 &&& 31)))), (6, .int (1 <<< (v7 &&& 31))), (5, .int s0), (0, .ref (b + a0)), (1, .int x1), (3, .int x3)]) S.1 S.2.1 dX11_locals_143 hl (k := 6) rfl (congrArg (fun z => x4 + z) (by decide)) (by decide) rfl (fun ls hl => ?_)
      refine lv_goto (tgt := 26) S.1 S.2.1 dX11_locals_146 (by decide) ?_
      exact hk26 f _ _ I _ (lv_sub hl [4, 5, 1, 6, 0] rfl)
set_option maxHeartbeats 4000000 in
set_option maxRecDepth 100000 in
theorem T11_locals_26 (S : CallFix p m c cX11_locals 7 s args vX11_locals RX11) (hr : meth.sig.returnType = (some .int)) (hlo : meth.locks = false) {out : Int32 × PH} : ∀ (n : Nat) {h : PH} {a0 : Nat} {x1 : Int32} {x2 : Int32} {x3 : Int32} {x4 : Int32} (f : F11_locals_26  n h a0 x1 x2 x3 x4 = some out) {H : Heap} {locs : List Loc} (I : ph_I D cy b A fl h s H locs) {ls : Array Slot} (hl : lv_has ls 7 [(0, .ref (b + a0)), (1, .int x1), (2, .int x2), (3, .int x3), (4, .int x4)]), W p l e ({ frames := 3, cells := 0, slots := 0, locals := 68 } : Room) s m args below meth c H locs 0 0 (MQ below (va_Qi (fun (r : Int32) (u : PH) => (r, u) = out) (ph_B D cy b A fl) A) args s 0 0 A) (F0 m 26 ls []) := by
  intro n
  induction n with
  | zero => intro h a0 x1 x2 x3 x4 f; rw [F11_locals_26] at f; cases f
  | succ n ih =>
    intro h a0 x1 x2 x3 x4 f H locs I ls hl
    rw [F11_locals_26] at f
    refine lv_iload S.1 S.2.1 dX11_locals_26 (lv_at hl 4 rfl) ?_
    refine lv_aload_n S.1 S.2.1 dX11_locals_28 rfl (lv_at hl 0 rfl) ?_
    obtain ⟨r1, e2, f⟩ := ob f
    refine o_gR S lf11_locals_60 I e2 dX11_locals_29 ?_
    obtain ⟨o3, e4, f⟩ := ob f
    refine o_Vi S (As := []) (rest := [.int x4]) (ci := 3) (M3_howManyKnown l D cy b A fl e4) gX11_locals_X3_howManyKnown rfl rfl rfl cd3_howManyKnown ⟨Nat.le_of_ble_eq_true rfl, Nat.le_of_ble_eq_true rfl⟩ I (gd e4).1 clX3 rfl rfl hl.1 rfl (Nat.le_of_ble_eq_true rfl) dX11_locals_32 ⟨Nat.le_of_ble_eq_true rfl, Nat.le_of_ble_eq_true rfl⟩ (fun H locs I => ?_)
    refine lv_icmp_ge (tgt := 149) S.1 S.2.1 dX11_locals_35 (by decide) (fun q5 => ?_) (fun q5 => ?_)
    · have f := (if_pos q5).symm.trans f
      refine lv_iload_n S.1 S.2.1 dX11_locals_149 rfl (lv_at hl 2 rfl) ?_
      refine lv_iload_n S.1 S.2.1 dX11_locals_150 rfl (lv_at hl 3 rfl) ?_
      refine lv_iconst (v := (-1)) S.1 S.2.1 dX11_locals_151 (by decide) ?_
      refine lv_ixor S.1 S.2.1 dX11_locals_152 ?_
      refine lv_iand S.1 S.2.1 dX11_locals_153 ?_
      exact o_iret S hr hlo I f dX11_locals_154
    · have f := (if_neg q5).symm.trans f
      refine lv_aload_n S.1 S.2.1 dX11_locals_38 rfl (lv_at hl 0 rfl) ?_
      obtain ⟨r6, e7, f⟩ := ob f
      refine o_gR S lf11_locals_60 I e7 dX11_locals_39 ?_
      refine lv_iload S.1 S.2.1 dX11_locals_42 (lv_at hl 4 rfl) ?_
      obtain ⟨o8, e9, f⟩ := ob f
      refine o_Vi S (As := [.int x4]) (rest := []) (ci := 3) (M3_isKnownSeat l D cy b A fl e9) gX11_locals_X3_isKnownSeat rfl rfl rfl cd3_isKnownSeat ⟨Nat.le_of_ble_eq_true rfl, Nat.le_of_ble_eq_true rfl⟩ I (gd e9).1 clX3 rfl rfl hl.1 rfl (Nat.le_of_ble_eq_true rfl) dX11_locals_44 ⟨Nat.le_of_ble_eq_true rfl, Nat.le_of_ble_eq_true rfl⟩ (fun H locs I => ?_)
      refine lv_if_eq (tgt := 73) S.1 S.2.1 dX11_locals_47 (by decide) (fun q10 => ?_) (fun q10 => ?_)
      · have f := (if_pos q10).symm.trans f
        refine lv_iconst (v := (-1)) S.1 S.2.1 dX11_locals_73 (by decide) ?_
        exact T11_locals_74 S hr hlo (fun f _ _ I _ hl => ih f I hl) f I (lv_sub hl [0, 1, 2, 3, 4] rfl)
      · have f := (if_neg q10).symm.trans f
        refine lv_aload_n S.1 S.2.1 dX11_locals_50 rfl (lv_at hl 0 rfl) ?_
        obtain ⟨r11, e12, f⟩ := ob f
        refine o_gR S lf11_locals_18 I e12 dX11_locals_51 ?_
        obtain ⟨r13, e14, f⟩ := ob f
        refine o_gR S lf11_locals_150 I e14 dX11_locals_54 ?_
        refine lv_aload_n S.1 S.2.1 dX11_locals_57 rfl (lv_at hl 0 rfl) ?_
        obtain ⟨r15, e16, f⟩ := ob f
        refine o_gR S lf11_locals_60 I e16 dX11_locals_58 ?_
        obtain ⟨r17, e18, f⟩ := ob f
        refine o_gR S lf11_locals_339 I e18 dX11_locals_61 ?_
        refine lv_iload S.1 S.2.1 dX11_locals_64 (lv_at hl 4 rfl) ?_
        obtain ⟨v20, e19, f⟩ := ob f
        refine o_iald S I e19 dX11_locals_66 ?_
        obtain ⟨o21, e22, f⟩ := ob f
        refine o_Vi S (As := [.int v20]) (rest := []) (ci := 10) (M10_setFrom l D cy b A fl e22) gX11_locals_X10_setFrom rfl rfl rfl cd10_setFrom ⟨Nat.le_of_ble_eq_true rfl, Nat.le_of_ble_eq_true rfl⟩ I (gd e22).1 clX10 rfl rfl hl.1 rfl (Nat.le_of_ble_eq_true rfl) dX11_locals_67 ⟨Nat.le_of_ble_eq_true rfl, Nat.le_of_ble_eq_true rfl⟩ (fun H locs I => ?_)
        refine lv_goto (tgt := 74) S.1 S.2.1 dX11_locals_70 (by decide) ?_
        exact T11_locals_74 S hr hlo (fun f _ _ I _ hl => ih f I hl) f I (lv_sub hl [0, 1, 2, 3, 4] rfl)
set_option maxHeartbeats 4000000 in
set_option maxRecDepth 100000 in
theorem T11_locals_0 (S : CallFix p m c cX11_locals 7 s args vX11_locals RX11) (hr : meth.sig.returnType = (some .int)) (hlo : meth.locks = false) {out : Int32 × PH} {h : PH} {a0 : Nat} {x1 : Int32} (f : F11_locals_0  h a0 x1 = some out) {H : Heap} {locs : List Loc} (I : ph_I D cy b A fl h s H locs) {ls : Array Slot} (hl : lv_has ls 7 [(0, .ref (b + a0)), (1, .int x1)]) : W p l e ({ frames := 3, cells := 0, slots := 0, locals := 68 } : Room) s m args below meth c H locs 0 0 (MQ below (va_Qi (fun (r : Int32) (u : PH) => (r, u) = out) (ph_B D cy b A fl) A) args s 0 0 A) (F0 m 0 ls []) := by
  unfold F11_locals_0 at f
  refine lv_iload_n S.1 S.2.1 dX11_locals_0 rfl (lv_at hl 1 rfl) ?_
  refine lv_if_lt (tgt := 10) S.1 S.2.1 dX11_locals_1 (by decide) (fun q1 => ?_) (fun q1 => ?_)
  · have f := (if_pos q1).symm.trans f
    refine lv_iconst (v := (-1)) S.1 S.2.1 dX11_locals_10 (by decide) ?_
    exact o_iret S hr hlo I f dX11_locals_11
  · have f := (if_neg q1).symm.trans f
    refine lv_iload_n S.1 S.2.1 dX11_locals_4 rfl (lv_at hl 1 rfl) ?_
    refine lv_bipush (v := 12) S.1 S.2.1 dX11_locals_5 (by decide) ?_
    refine lv_icmp_le (tgt := 12) S.1 S.2.1 dX11_locals_7 (by decide) (fun q2 => ?_) (fun q2 => ?_)
    · have f := (if_pos q2).symm.trans f
      refine lv_aload_n S.1 S.2.1 dX11_locals_12 rfl (lv_at hl 0 rfl) ?_
      obtain ⟨r3, e4, f⟩ := ob f
      refine o_gR S lf11_locals_60 I e4 dX11_locals_13 ?_
      obtain ⟨o5, e6, f⟩ := ob f
      refine o_Vv S (As := []) (rest := []) (ci := 3) (M3_findStruck l D cy b A fl e6) gX11_locals_X3_findStruck rfl rfl rfl cd3_findStruck ⟨Nat.le_of_ble_eq_true rfl, Nat.le_of_ble_eq_true rfl⟩ I (gd e6).1 clX3 rfl rfl hl.1 rfl (Nat.le_of_ble_eq_true rfl) dX11_locals_16 ⟨Nat.le_of_ble_eq_true rfl, Nat.le_of_ble_eq_true rfl⟩ (fun H locs I => ?_)
      refine lv_iconst (v := 0) S.1 S.2.1 dX11_locals_19 (by decide) ?_
      refine lv_istore_n (lv' := [(2, .int 0), (0, .ref (b + a0)), (1, .int x1)]) S.1 S.2.1 dX11_locals_20 rfl hl (by decide) rfl (fun ls hl => ?_)
      refine lv_iconst (v := 0) S.1 S.2.1 dX11_locals_21 (by decide) ?_
      refine lv_istore_n (lv' := [(3, .int 0), (2, .int 0), (0, .ref (b + a0)), (1, .int x1)]) S.1 S.2.1 dX11_locals_22 rfl hl (by decide) rfl (fun ls hl => ?_)
      refine lv_iconst (v := 0) S.1 S.2.1 dX11_locals_23 (by decide) ?_
      refine lv_istore (lv' := [(4, .int 0), (3, .int 0), (2, .int 0), (0, .ref (b + a0)), (1, .int x1)]) S.1 S.2.1 dX11_locals_24 hl (by decide) rfl (fun ls hl => ?_)
      exact T11_locals_26 S hr hlo  1024 f I (lv_sub hl [3, 4, 2, 1, 0] rfl)
    · have f := (if_neg q2).symm.trans f
      refine lv_iconst (v := (-1)) S.1 S.2.1 dX11_locals_10 (by decide) ?_
      exact o_iret S hr hlo I f dX11_locals_11
theorem M11_locals (l : Launch) (D : va_G) (cy : Nat → ClassId) (b : Nat) (A : Nat → Prop) (fl : Bool) {h : PH} {a0 : Nat} {x1 : Int32} {out : Int32 × PH} (f : F11_locals h a0 x1 = some out) : Met l yX11_locals vX11_locals ({ frames := 3, cells := 0, slots := 0, locals := 68 } : Room) (va_Pc [.ref (b + a0), .int x1] (ph_B D cy b A fl h)) (va_Qi (fun (r : Int32) (u : PH) => (r, u) = out) (ph_B D cy b A fl) A) 0 0 A :=
  o_met (by decide) rfl (Nat.le_of_ble_eq_true rfl) rfl (fun p e s m below meth c S hr hlo hnm ls hl I => T11_locals_0 S hr hlo ((gd f).2) I (lv_sub hl [0, 1] rfl))
def vX11_passMinute : List Cond := .code yX11_passMinute cX11_passMinute 2 none :: TB
theorem lf11_passMinute_47 : Fl vX11_passMinute RX11 47 11 7 := ⟨RX11, TX11, 14, rfl, by decide, (fun w h9 => List.mem_cons_of_mem _ (wC_wsX110 w h9)), (List.mem_cons_of_mem _ wT_2_8)⟩
theorem lf11_passMinute_18 : Fl vX11_passMinute RX11 18 11 3 := ⟨RX11, TX11, 14, rfl, by decide, (fun w h9 => List.mem_cons_of_mem _ (wC_wsX110 w h9)), (List.mem_cons_of_mem _ wT_1_18)⟩
theorem lf11_passMinute_102 : Fl vX11_passMinute RX11 102 8 4 := ⟨RX8, TX8, 14, rfl, by decide, (fun w h9 => List.mem_cons_of_mem _ (wC_wsX80 w h9)), (List.mem_cons_of_mem _ wT_32_14)⟩
theorem lf11_passMinute_106 : Fl vX11_passMinute RX11 106 1 0 := ⟨RX1, TX1, 7, rfl, by decide, (fun w h9 => List.mem_cons_of_mem _ (wC_wsX10 w h9)), (List.mem_cons_of_mem _ wT_32_15)⟩
theorem gX11_passMinute_X4_beginMinute : GoodIn vX11_passMinute (wsV RX11 399 RX4 yX4_beginMinute vX4_beginMinute) := gV_of wT_46_4 wT_46_5 wT_46_6 wT_2_7 wT_46_7
theorem lf11_passMinute_67 : Fl vX11_passMinute RX11 67 11 12 := ⟨RX11, TX11, 14, rfl, by decide, (fun w h9 => List.mem_cons_of_mem _ (wC_wsX110 w h9)), (List.mem_cons_of_mem _ wT_2_18)⟩
theorem lp11_passMinute_368 : Pl vX11_passMinute RX11 368 9 0 .int := ⟨RX9, TX9, 3, tyX9, rfl, by decide, (fun w h9 => List.mem_cons_of_mem _ (wC_wsX90 w h9)), (List.mem_cons_of_mem _ wT_23_20), tyX9_ok, nmX9, rfl, rfl⟩
theorem lf11_passMinute_150 : Fl vX11_passMinute RX11 150 8 5 := ⟨RX8, TX8, 14, rfl, by decide, (fun w h9 => List.mem_cons_of_mem _ (wC_wsX80 w h9)), (List.mem_cons_of_mem _ wT_36_16)⟩
theorem lf11_passMinute_186 : Fl vX11_passMinute RX11 186 4 0 := ⟨RX4, TX4, 11, rfl, by decide, (fun w h9 => List.mem_cons_of_mem _ (wC_wsX40 w h9)), (List.mem_cons_of_mem _ wT_34_1)⟩
theorem gX11_passMinute_X10_firstFrom : GoodIn vX11_passMinute (wsV RX11 387 RX10 yX10_firstFrom vX10_firstFrom) := gV_of wT_43_16 wT_43_17 wT_43_18 wT_3_9 wT_43_19
theorem lf11_passMinute_299 : Fl vX11_passMinute RX11 299 10 1 := ⟨RX10, TX10, 8, rfl, by decide, (fun w h9 => List.mem_cons_of_mem _ (wC_wsX100 w h9)), (List.mem_cons_of_mem _ wT_37_2)⟩
theorem lf11_passMinute_154 : Fl vX11_passMinute RX11 154 10 4 := ⟨RX10, TX10, 8, rfl, by decide, (fun w h9 => List.mem_cons_of_mem _ (wC_wsX100 w h9)), (List.mem_cons_of_mem _ wT_36_17)⟩
theorem lf11_passMinute_37 : Fl vX11_passMinute RX11 37 11 5 := ⟨RX11, TX11, 14, rfl, by decide, (fun w h9 => List.mem_cons_of_mem _ (wC_wsX110 w h9)), (List.mem_cons_of_mem _ wT_2_3)⟩
theorem gX11_passMinute_X6_bringWave : GoodIn vX11_passMinute (wsV RX11 364 RX6 yX6_bringWave vX6_bringWave) := gV_of wT_43_20 wT_43_21 wT_43_22 wT_2_2 wT_43_23
theorem cd11_passMinute : Cd yX11_passMinute 0 := ⟨by decide, by decide, by decide +kernel⟩
set_option maxHeartbeats 4000000 in
set_option maxRecDepth 100000 in
theorem T11_passMinute_66 (S : CallFix p m c cX11_passMinute 2 s args vX11_passMinute RX11) (hr : meth.sig.returnType = none) (hlo : meth.locks = false) {out : PH} {h : PH} {a0 : Nat} (f : F11_passMinute_66  h a0 = some out) {H : Heap} {locs : List Loc} (I : ph_I D cy b A fl h s H locs) {ls : Array Slot} (hl : lv_has ls 2 [(0, .ref (b + a0))]) : W p l e ({ frames := 6, cells := 0, slots := 0, locals := 154 } : Room) s m args below meth c H locs 0 0 (MQ below (va_Qv (fun (u : PH) => u = out) (ph_B D cy b A fl) A) args s 0 0 A) (F0 m 66 ls []) := by
  unfold F11_passMinute_66 at f
  refine lv_aload_n S.1 S.2.1 dX11_passMinute_66 rfl (lv_at hl 0 rfl) ?_
  obtain ⟨r1, e2, f⟩ := ob f
  refine o_gR S lf11_passMinute_47 I e2 dX11_passMinute_67 ?_
  refine lv_aload_n S.1 S.2.1 dX11_passMinute_70 rfl (lv_at hl 0 rfl) ?_
  obtain ⟨r3, e4, f⟩ := ob f
  refine o_gR S lf11_passMinute_18 I e4 dX11_passMinute_71 ?_
  obtain ⟨r5, e6, f⟩ := ob f
  refine o_gR S lf11_passMinute_102 I e6 dX11_passMinute_74 ?_
  obtain ⟨v7, e8, f⟩ := ob f
  refine o_gI S lf11_passMinute_106 I e8 dX11_passMinute_77 ?_
  obtain ⟨o9, e10, f⟩ := ob f
  refine o_Vv S (As := [.int v7]) (rest := []) (ci := 4) (M4_beginMinute l D cy b A fl e10) gX11_passMinute_X4_beginMinute rfl rfl rfl cd4_beginMinute ⟨Nat.le_of_ble_eq_true rfl, Nat.le_of_ble_eq_true rfl⟩ I (gd e10).1 clX4 rfl rfl hl.1 rfl (Nat.le_of_ble_eq_true rfl) dX11_passMinute_80 ⟨Nat.le_of_ble_eq_true rfl, Nat.le_of_ble_eq_true rfl⟩ (fun H locs I => ?_)
  refine lv_aload_n S.1 S.2.1 dX11_passMinute_83 rfl (lv_at hl 0 rfl) ?_
  obtain ⟨r11, e12, f⟩ := ob f
  refine o_gR S lf11_passMinute_67 I e12 dX11_passMinute_84 ?_
  refine lv_iconst (v := 0) S.1 S.2.1 dX11_passMinute_87 (by decide) ?_
  obtain ⟨h13, e14, f⟩ := ob f
  refine o_pI S lp11_passMinute_368 I e14 dX11_passMinute_88 (fun H locs I => ?_)
  exact o_vret S hr hlo I f dX11_passMinute_91
set_option maxHeartbeats 4000000 in
set_option maxRecDepth 100000 in
theorem T11_passMinute_0 (S : CallFix p m c cX11_passMinute 2 s args vX11_passMinute RX11) (hr : meth.sig.returnType = none) (hlo : meth.locks = false) {out : PH} {h : PH} {a0 : Nat} (f : F11_passMinute_0  h a0 = some out) {H : Heap} {locs : List Loc} (I : ph_I D cy b A fl h s H locs) {ls : Array Slot} (hl : lv_has ls 2 [(0, .ref (b + a0))]) : W p l e ({ frames := 6, cells := 0, slots := 0, locals := 154 } : Room) s m args below meth c H locs 0 0 (MQ below (va_Qv (fun (u : PH) => u = out) (ph_B D cy b A fl) A) args s 0 0 A) (F0 m 0 ls []) := by
  unfold F11_passMinute_0 at f
  refine lv_aload_n S.1 S.2.1 dX11_passMinute_0 rfl (lv_at hl 0 rfl) ?_
  obtain ⟨r1, e2, f⟩ := ob f
  refine o_gR S lf11_passMinute_18 I e2 dX11_passMinute_1 ?_
  obtain ⟨r3, e4, f⟩ := ob f
  refine o_gR S lf11_passMinute_150 I e4 dX11_passMinute_4 ?_
  refine lv_aload_n S.1 S.2.1 dX11_passMinute_7 rfl (lv_at hl 0 rfl) ?_
  obtain ⟨r5, e6, f⟩ := ob f
  refine o_gR S lf11_passMinute_47 I e6 dX11_passMinute_8 ?_
  obtain ⟨v7, e8, f⟩ := ob f
  refine o_gI S lf11_passMinute_186 I e8 dX11_passMinute_11 ?_
  obtain ⟨o9, e10, f⟩ := ob f
  refine o_Vi S (As := [.int v7]) (rest := []) (ci := 10) (M10_firstFrom l D cy b A fl e10) gX11_passMinute_X10_firstFrom rfl rfl rfl cd10_firstFrom ⟨Nat.le_of_ble_eq_true rfl, Nat.le_of_ble_eq_true rfl⟩ I (gd e10).1 clX10 rfl rfl hl.1 rfl (Nat.le_of_ble_eq_true rfl) dX11_passMinute_14 ⟨Nat.le_of_ble_eq_true rfl, Nat.le_of_ble_eq_true rfl⟩ (fun H locs I => ?_)
  refine lv_istore_n (lv' := [(1, .int o9.1), (0, .ref (b + a0))]) S.1 S.2.1 dX11_passMinute_17 rfl hl (by decide) rfl (fun ls hl => ?_)
  refine lv_iload_n S.1 S.2.1 dX11_passMinute_18 rfl (lv_at hl 0 rfl) ?_
  refine lv_aload_n S.1 S.2.1 dX11_passMinute_19 rfl (lv_at hl 1 rfl) ?_
  obtain ⟨r11, e12, f⟩ := ob f
  refine o_gR S lf11_passMinute_18 I e12 dX11_passMinute_20 ?_
  obtain ⟨r13, e14, f⟩ := ob f
  refine o_gR S lf11_passMinute_150 I e14 dX11_passMinute_23 ?_
  obtain ⟨v15, e16, f⟩ := ob f
  refine o_gI S lf11_passMinute_299 I e16 dX11_passMinute_26 ?_
  refine lv_icmp_ge (tgt := 66) S.1 S.2.1 dX11_passMinute_29 (by decide) (fun q17 => ?_) (fun q17 => ?_)
  · have f := (if_pos q17).symm.trans f
    exact T11_passMinute_66 S hr hlo  f I (lv_sub hl [1] rfl)
  · have f := (if_neg q17).symm.trans f
    refine lv_aload_n S.1 S.2.1 dX11_passMinute_32 rfl (lv_at hl 1 rfl) ?_
    obtain ⟨r18, e19, f⟩ := ob f
    refine o_gR S lf11_passMinute_18 I e19 dX11_passMinute_33 ?_
    obtain ⟨r20, e21, f⟩ := ob f
    refine o_gR S lf11_passMinute_150 I e21 dX11_passMinute_36 ?_
    obtain ⟨r22, e23, f⟩ := ob f
    refine o_gR S lf11_passMinute_154 I e23 dX11_passMinute_39 ?_
    refine lv_iload_n S.1 S.2.1 dX11_passMinute_42 rfl (lv_at hl 0 rfl) ?_
    obtain ⟨v25, e24, f⟩ := ob f
    refine o_iald S I e24 dX11_passMinute_43 ?_
    refine lv_aload_n S.1 S.2.1 dX11_passMinute_44 rfl (lv_at hl 1 rfl) ?_
    obtain ⟨r26, e27, f⟩ := ob f
    refine o_gR S lf11_passMinute_47 I e27 dX11_passMinute_45 ?_
    obtain ⟨v28, e29, f⟩ := ob f
    refine o_gI S lf11_passMinute_186 I e29 dX11_passMinute_48 ?_
    refine lv_icmp_ne (tgt := 66) S.1 S.2.1 dX11_passMinute_51 (by decide) (fun q30 => ?_) (fun q30 => ?_)
    · have f := (if_neg q30).symm.trans f
      exact T11_passMinute_66 S hr hlo  f I (lv_sub hl [1] rfl)
    · have f := (if_pos q30).symm.trans f
      refine lv_aload_n S.1 S.2.1 dX11_passMinute_54 rfl (lv_at hl 1 rfl) ?_
      obtain ⟨r31, e32, f⟩ := ob f
      refine o_gR S lf11_passMinute_37 I e32 dX11_passMinute_55 ?_
      refine lv_aload_n S.1 S.2.1 dX11_passMinute_58 rfl (lv_at hl 1 rfl) ?_
      obtain ⟨r33, e34, f⟩ := ob f
      refine o_gR S lf11_passMinute_47 I e34 dX11_passMinute_59 ?_
      refine lv_iload_n S.1 S.2.1 dX11_passMinute_62 rfl (lv_at hl 0 rfl) ?_
      obtain ⟨o35, e36, f⟩ := ob f
      refine o_Vv S (As := [.ref (b + r33), .int o9.1]) (rest := []) (ci := 6) (M6_bringWave l D cy b A fl e36) gX11_passMinute_X6_bringWave rfl rfl rfl cd6_bringWave ⟨Nat.le_of_ble_eq_true rfl, Nat.le_of_ble_eq_true rfl⟩ I (gd e36).1 clX6 rfl rfl hl.1 rfl (Nat.le_of_ble_eq_true rfl) dX11_passMinute_63 ⟨Nat.le_of_ble_eq_true rfl, Nat.le_of_ble_eq_true rfl⟩ (fun H locs I => ?_)
      exact T11_passMinute_66 S hr hlo  f I (lv_sub hl [1] rfl)
theorem M11_passMinute (l : Launch) (D : va_G) (cy : Nat → ClassId) (b : Nat) (A : Nat → Prop) (fl : Bool) {h : PH} {a0 : Nat} {out : PH} (f : F11_passMinute h a0 = some out) : Met l yX11_passMinute vX11_passMinute ({ frames := 6, cells := 0, slots := 0, locals := 154 } : Room) (va_Pc [.ref (b + a0)] (ph_B D cy b A fl h)) (va_Qv (fun (u : PH) => u = out) (ph_B D cy b A fl) A) 0 0 A :=
  o_met (by decide) rfl (Nat.le_of_ble_eq_true rfl) rfl (fun p e s m below meth c S hr hlo hnm ls hl I => T11_passMinute_0 S hr hlo ((gd f).2) I (lv_sub hl [0] rfl))
def vX11_minutes : List Cond := .code yX11_minutes cX11_minutes 3 (some .int) :: TB
theorem lf11_minutes_47 : Fl vX11_minutes RX11 47 11 7 := ⟨RX11, TX11, 14, rfl, by decide, (fun w h9 => List.mem_cons_of_mem _ (wC_wsX110 w h9)), (List.mem_cons_of_mem _ wT_2_8)⟩
theorem lf11_minutes_186 : Fl vX11_minutes RX11 186 4 0 := ⟨RX4, TX4, 11, rfl, by decide, (fun w h9 => List.mem_cons_of_mem _ (wC_wsX40 w h9)), (List.mem_cons_of_mem _ wT_34_1)⟩
theorem gX11_minutes_X11_passMinute : GoodIn vX11_minutes (wsV RX11 220 RX11 yX11_passMinute vX11_passMinute) := gV_of wT_43_12 wT_43_13 wT_43_14 wT_1_2 wT_43_15
theorem cd11_minutes : Cd yX11_minutes 1 := ⟨by decide, by decide, by decide +kernel⟩
set_option maxHeartbeats 4000000 in
set_option maxRecDepth 100000 in
theorem T11_minutes_29 (S : CallFix p m c cX11_minutes 3 s args vX11_minutes RX11) (hr : meth.sig.returnType = (some .int)) (hlo : meth.locks = false) {out : Int32 × PH} : ∀ (n : Nat) {h : PH} {a0 : Nat} {x1 : Int32} {x2 : Int32} (f : F11_minutes_29  n h a0 x1 x2 = some out) {H : Heap} {locs : List Loc} (I : ph_I D cy b A fl h s H locs) {ls : Array Slot} (hl : lv_has ls 3 [(0, .ref (b + a0)), (1, .int x1), (2, .int x2)]), W p l e ({ frames := 7, cells := 0, slots := 0, locals := 175 } : Room) s m args below meth c H locs 0 0 (MQ below (va_Qi (fun (r : Int32) (u : PH) => (r, u) = out) (ph_B D cy b A fl) A) args s 0 0 A) (F0 m 29 ls []) := by
  intro n
  induction n with
  | zero => intro h a0 x1 x2 f; rw [F11_minutes_29] at f; cases f
  | succ n ih =>
    intro h a0 x1 x2 f H locs I ls hl
    rw [F11_minutes_29] at f
    refine lv_iload_n S.1 S.2.1 dX11_minutes_29 rfl (lv_at hl 2 rfl) ?_
    refine lv_iload_n S.1 S.2.1 dX11_minutes_30 rfl (lv_at hl 1 rfl) ?_
    refine lv_icmp_ge (tgt := 44) S.1 S.2.1 dX11_minutes_31 (by decide) (fun q1 => ?_) (fun q1 => ?_)
    · have f := (if_pos q1).symm.trans f
      refine lv_aload_n S.1 S.2.1 dX11_minutes_44 rfl (lv_at hl 0 rfl) ?_
      obtain ⟨r2, e3, f⟩ := ob f
      refine o_gR S lf11_minutes_47 I e3 dX11_minutes_45 ?_
      obtain ⟨v4, e5, f⟩ := ob f
      refine o_gI S lf11_minutes_186 I e5 dX11_minutes_48 ?_
      exact o_iret S hr hlo I f dX11_minutes_51
    · have f := (if_neg q1).symm.trans f
      refine lv_aload_n S.1 S.2.1 dX11_minutes_34 rfl (lv_at hl 0 rfl) ?_
      obtain ⟨o6, e7, f⟩ := ob f
      refine o_Vv S (As := []) (rest := []) (ci := 11) (M11_passMinute l D cy b A fl e7) gX11_minutes_X11_passMinute rfl rfl rfl cd11_passMinute ⟨Nat.le_of_ble_eq_true rfl, Nat.le_of_ble_eq_true rfl⟩ I (gd e7).1 clX11 rfl rfl hl.1 rfl (Nat.le_of_ble_eq_true rfl) dX11_minutes_35 ⟨Nat.le_of_ble_eq_true rfl, Nat.le_of_ble_eq_true rfl⟩ (fun H locs I => ?_)
      refine lv_iinc (v := (x2 + 1)) (lv' := [(2, .int (x2 + 1)), (0, .ref (b + a0)), (1, .int x1)]) S.1 S.2.1 dX11_minutes_38 hl (k := 2) rfl (congrArg (fun z => x2 + z) (by decide)) (by decide) rfl (fun ls hl => ?_)
      refine lv_goto (tgt := 29) S.1 S.2.1 dX11_minutes_41 (by decide) ?_
      exact ih f I (lv_sub hl [1, 2, 0] rfl)
set_option maxHeartbeats 4000000 in
set_option maxRecDepth 100000 in
theorem T11_minutes_0 (S : CallFix p m c cX11_minutes 3 s args vX11_minutes RX11) (hr : meth.sig.returnType = (some .int)) (hlo : meth.locks = false) {out : Int32 × PH} {h : PH} {a0 : Nat} {x1 : Int32} (f : F11_minutes_0  h a0 x1 = some out) {H : Heap} {locs : List Loc} (I : ph_I D cy b A fl h s H locs) {ls : Array Slot} (hl : lv_has ls 3 [(0, .ref (b + a0)), (1, .int x1)]) : W p l e ({ frames := 7, cells := 0, slots := 0, locals := 175 } : Room) s m args below meth c H locs 0 0 (MQ below (va_Qi (fun (r : Int32) (u : PH) => (r, u) = out) (ph_B D cy b A fl) A) args s 0 0 A) (F0 m 0 ls []) := by
  unfold F11_minutes_0 at f
  refine lv_iload_n S.1 S.2.1 dX11_minutes_0 rfl (lv_at hl 1 rfl) ?_
  refine lv_if_lt (tgt := 25) S.1 S.2.1 dX11_minutes_1 (by decide) (fun q1 => ?_) (fun q1 => ?_)
  · have f := (if_pos q1).symm.trans f
    refine lv_iconst (v := (-1)) S.1 S.2.1 dX11_minutes_25 (by decide) ?_
    exact o_iret S hr hlo I f dX11_minutes_26
  · have f := (if_neg q1).symm.trans f
    refine lv_iload_n S.1 S.2.1 dX11_minutes_4 rfl (lv_at hl 1 rfl) ?_
    refine lv_bipush (v := 99) S.1 S.2.1 dX11_minutes_5 (by decide) ?_
    refine lv_icmp_gt (tgt := 25) S.1 S.2.1 dX11_minutes_7 (by decide) (fun q2 => ?_) (fun q2 => ?_)
    · have f := (if_pos q2).symm.trans f
      refine lv_iconst (v := (-1)) S.1 S.2.1 dX11_minutes_25 (by decide) ?_
      exact o_iret S hr hlo I f dX11_minutes_26
    · have f := (if_neg q2).symm.trans f
      refine lv_aload_n S.1 S.2.1 dX11_minutes_10 rfl (lv_at hl 0 rfl) ?_
      obtain ⟨r3, e4, f⟩ := ob f
      refine o_gR S lf11_minutes_47 I e4 dX11_minutes_11 ?_
      obtain ⟨v5, e6, f⟩ := ob f
      refine o_gI S lf11_minutes_186 I e6 dX11_minutes_14 ?_
      refine lv_iload_n S.1 S.2.1 dX11_minutes_17 rfl (lv_at hl 1 rfl) ?_
      refine lv_iadd S.1 S.2.1 dX11_minutes_18 ?_
      refine lv_sipush (v := 199) S.1 S.2.1 dX11_minutes_19 (by decide) ?_
      refine lv_icmp_le (tgt := 27) S.1 S.2.1 dX11_minutes_22 (by decide) (fun q7 => ?_) (fun q7 => ?_)
      · have f := (if_pos q7).symm.trans f
        refine lv_iconst (v := 0) S.1 S.2.1 dX11_minutes_27 (by decide) ?_
        refine lv_istore_n (lv' := [(2, .int 0), (0, .ref (b + a0)), (1, .int x1)]) S.1 S.2.1 dX11_minutes_28 rfl hl (by decide) rfl (fun ls hl => ?_)
        exact T11_minutes_29 S hr hlo  1024 f I (lv_sub hl [1, 2, 0] rfl)
      · have f := (if_neg q7).symm.trans f
        refine lv_iconst (v := (-1)) S.1 S.2.1 dX11_minutes_25 (by decide) ?_
        exact o_iret S hr hlo I f dX11_minutes_26
theorem M11_minutes (l : Launch) (D : va_G) (cy : Nat → ClassId) (b : Nat) (A : Nat → Prop) (fl : Bool) {h : PH} {a0 : Nat} {x1 : Int32} {out : Int32 × PH} (f : F11_minutes h a0 x1 = some out) : Met l yX11_minutes vX11_minutes ({ frames := 7, cells := 0, slots := 0, locals := 175 } : Room) (va_Pc [.ref (b + a0), .int x1] (ph_B D cy b A fl h)) (va_Qi (fun (r : Int32) (u : PH) => (r, u) = out) (ph_B D cy b A fl) A) 0 0 A :=
  o_met (by decide) rfl (Nat.le_of_ble_eq_true rfl) rfl (fun p e s m below meth c S hr hlo hnm ls hl I => T11_minutes_0 S hr hlo ((gd f).2) I (lv_sub hl [0, 1] rfl))
def vX11_named : List Cond := .code yX11_named cX11_named 3 (some .int) :: TB
theorem lf11_named_18 : Fl vX11_named RX11 18 11 3 := ⟨RX11, TX11, 14, rfl, by decide, (fun w h9 => List.mem_cons_of_mem _ (wC_wsX110 w h9)), (List.mem_cons_of_mem _ wT_1_18)⟩
theorem lf11_named_102 : Fl vX11_named RX11 102 8 4 := ⟨RX8, TX8, 14, rfl, by decide, (fun w h9 => List.mem_cons_of_mem _ (wC_wsX80 w h9)), (List.mem_cons_of_mem _ wT_32_14)⟩
theorem lf11_named_106 : Fl vX11_named RX11 106 1 0 := ⟨RX1, TX1, 7, rfl, by decide, (fun w h9 => List.mem_cons_of_mem _ (wC_wsX10 w h9)), (List.mem_cons_of_mem _ wT_32_15)⟩
theorem lf11_named_111 : Fl vX11_named RX11 111 1 1 := ⟨RX1, TX1, 7, rfl, by decide, (fun w h9 => List.mem_cons_of_mem _ (wC_wsX10 w h9)), (List.mem_cons_of_mem _ wT_32_16)⟩
theorem cd11_named : Cd yX11_named 1 := ⟨by decide, by decide, by decide +kernel⟩
set_option maxHeartbeats 4000000 in
set_option maxRecDepth 100000 in
theorem T11_named_2 (S : CallFix p m c cX11_named 3 s args vX11_named RX11) (hr : meth.sig.returnType = (some .int)) (hlo : meth.locks = false) {out : Int32 × PH} : ∀ (n : Nat) {h : PH} {a0 : Nat} {x1 : Int32} {x2 : Int32} (f : F11_named_2  n h a0 x1 x2 = some out) {H : Heap} {locs : List Loc} (I : ph_I D cy b A fl h s H locs) {ls : Array Slot} (hl : lv_has ls 3 [(0, .ref (b + a0)), (1, .int x1), (2, .int x2)]), W p l e ({ frames := 0, cells := 0, slots := 0, locals := 0 } : Room) s m args below meth c H locs 0 0 (MQ below (va_Qi (fun (r : Int32) (u : PH) => (r, u) = out) (ph_B D cy b A fl) A) args s 0 0 A) (F0 m 2 ls []) := by
  intro n
  induction n with
  | zero => intro h a0 x1 x2 f; rw [F11_named_2] at f; cases f
  | succ n ih =>
    intro h a0 x1 x2 f H locs I ls hl
    rw [F11_named_2] at f
    refine lv_iload_n S.1 S.2.1 dX11_named_2 rfl (lv_at hl 2 rfl) ?_
    refine lv_aload_n S.1 S.2.1 dX11_named_3 rfl (lv_at hl 0 rfl) ?_
    obtain ⟨r1, e2, f⟩ := ob f
    refine o_gR S lf11_named_18 I e2 dX11_named_4 ?_
    obtain ⟨r3, e4, f⟩ := ob f
    refine o_gR S lf11_named_102 I e4 dX11_named_7 ?_
    obtain ⟨v5, e6, f⟩ := ob f
    refine o_gI S lf11_named_106 I e6 dX11_named_10 ?_
    refine lv_icmp_ge (tgt := 40) S.1 S.2.1 dX11_named_13 (by decide) (fun q7 => ?_) (fun q7 => ?_)
    · have f := (if_pos q7).symm.trans f
      refine lv_iconst (v := (-1)) S.1 S.2.1 dX11_named_40 (by decide) ?_
      exact o_iret S hr hlo I f dX11_named_41
    · have f := (if_neg q7).symm.trans f
      refine lv_aload_n S.1 S.2.1 dX11_named_16 rfl (lv_at hl 0 rfl) ?_
      obtain ⟨r8, e9, f⟩ := ob f
      refine o_gR S lf11_named_18 I e9 dX11_named_17 ?_
      obtain ⟨r10, e11, f⟩ := ob f
      refine o_gR S lf11_named_102 I e11 dX11_named_20 ?_
      obtain ⟨r12, e13, f⟩ := ob f
      refine o_gR S lf11_named_111 I e13 dX11_named_23 ?_
      refine lv_iload_n S.1 S.2.1 dX11_named_26 rfl (lv_at hl 2 rfl) ?_
      obtain ⟨v15, e14, f⟩ := ob f
      refine o_iald S I e14 dX11_named_27 ?_
      refine lv_iload_n S.1 S.2.1 dX11_named_28 rfl (lv_at hl 1 rfl) ?_
      refine lv_icmp_ne (tgt := 34) S.1 S.2.1 dX11_named_29 (by decide) (fun q16 => ?_) (fun q16 => ?_)
      · have f := (if_neg q16).symm.trans f
        refine lv_iinc (v := (x2 + 1)) (lv' := [(2, .int (x2 + 1)), (0, .ref (b + a0)), (1, .int x1)]) S.1 S.2.1 dX11_named_34 hl (k := 2) rfl (congrArg (fun z => x2 + z) (by decide)) (by decide) rfl (fun ls hl => ?_)
        refine lv_goto (tgt := 2) S.1 S.2.1 dX11_named_37 (by decide) ?_
        exact ih f I (lv_sub hl [1, 2, 0] rfl)
      · have f := (if_pos q16).symm.trans f
        refine lv_iload_n S.1 S.2.1 dX11_named_32 rfl (lv_at hl 2 rfl) ?_
        exact o_iret S hr hlo I f dX11_named_33
set_option maxHeartbeats 4000000 in
set_option maxRecDepth 100000 in
theorem T11_named_0 (S : CallFix p m c cX11_named 3 s args vX11_named RX11) (hr : meth.sig.returnType = (some .int)) (hlo : meth.locks = false) {out : Int32 × PH} {h : PH} {a0 : Nat} {x1 : Int32} (f : F11_named_0  h a0 x1 = some out) {H : Heap} {locs : List Loc} (I : ph_I D cy b A fl h s H locs) {ls : Array Slot} (hl : lv_has ls 3 [(0, .ref (b + a0)), (1, .int x1)]) : W p l e ({ frames := 0, cells := 0, slots := 0, locals := 0 } : Room) s m args below meth c H locs 0 0 (MQ below (va_Qi (fun (r : Int32) (u : PH) => (r, u) = out) (ph_B D cy b A fl) A) args s 0 0 A) (F0 m 0 ls []) := by
  unfold F11_named_0 at f
  refine lv_iconst (v := 0) S.1 S.2.1 dX11_named_0 (by decide) ?_
  refine lv_istore_n (lv' := [(2, .int 0), (0, .ref (b + a0)), (1, .int x1)]) S.1 S.2.1 dX11_named_1 rfl hl (by decide) rfl (fun ls hl => ?_)
  exact T11_named_2 S hr hlo  1024 f I (lv_sub hl [1, 2, 0] rfl)
theorem M11_named (l : Launch) (D : va_G) (cy : Nat → ClassId) (b : Nat) (A : Nat → Prop) (fl : Bool) {h : PH} {a0 : Nat} {x1 : Int32} {out : Int32 × PH} (f : F11_named h a0 x1 = some out) : Met l yX11_named vX11_named ({ frames := 0, cells := 0, slots := 0, locals := 0 } : Room) (va_Pc [.ref (b + a0), .int x1] (ph_B D cy b A fl h)) (va_Qi (fun (r : Int32) (u : PH) => (r, u) = out) (ph_B D cy b A fl) A) 0 0 A :=
  o_met (by decide) rfl (Nat.le_of_ble_eq_true rfl) rfl (fun p e s m below meth c S hr hlo hnm ls hl I => T11_named_0 S hr hlo ((gd f).2) I (lv_sub hl [0, 1] rfl))
def vX11_next : List Cond := .code yX11_next cX11_next 2 (some .int) :: TB
theorem lf11_next_18 : Fl vX11_next RX11 18 11 3 := ⟨RX11, TX11, 14, rfl, by decide, (fun w h9 => List.mem_cons_of_mem _ (wC_wsX110 w h9)), (List.mem_cons_of_mem _ wT_1_18)⟩
theorem lf11_next_150 : Fl vX11_next RX11 150 8 5 := ⟨RX8, TX8, 14, rfl, by decide, (fun w h9 => List.mem_cons_of_mem _ (wC_wsX80 w h9)), (List.mem_cons_of_mem _ wT_36_16)⟩
theorem lf11_next_47 : Fl vX11_next RX11 47 11 7 := ⟨RX11, TX11, 14, rfl, by decide, (fun w h9 => List.mem_cons_of_mem _ (wC_wsX110 w h9)), (List.mem_cons_of_mem _ wT_2_8)⟩
theorem lf11_next_186 : Fl vX11_next RX11 186 4 0 := ⟨RX4, TX4, 11, rfl, by decide, (fun w h9 => List.mem_cons_of_mem _ (wC_wsX40 w h9)), (List.mem_cons_of_mem _ wT_34_1)⟩
theorem gX11_next_X10_setFrom : GoodIn vX11_next (wsV RX11 308 RX10 yX10_setFrom vX10_setFrom) := gV_of wT_59_23 wT_60_0 wT_60_1 wT_3_9 wT_60_2
theorem gX11_next_X10_firstMinute : GoodIn vX11_next (wsV RX11 311 RX10 yX10_firstMinute vX10_firstMinute) := gV_of wT_60_3 wT_20_3 wT_20_4 wT_3_9 wT_20_5
theorem cd11_next : Cd yX11_next 0 := ⟨by decide, by decide, by decide +kernel⟩
set_option maxHeartbeats 4000000 in
set_option maxRecDepth 100000 in
theorem T11_next_0 (S : CallFix p m c cX11_next 2 s args vX11_next RX11) (hr : meth.sig.returnType = (some .int)) (hlo : meth.locks = false) {out : Int32 × PH} {h : PH} {a0 : Nat} (f : F11_next_0  h a0 = some out) {H : Heap} {locs : List Loc} (I : ph_I D cy b A fl h s H locs) {ls : Array Slot} (hl : lv_has ls 2 [(0, .ref (b + a0))]) : W p l e ({ frames := 2, cells := 0, slots := 0, locals := 43 } : Room) s m args below meth c H locs 0 0 (MQ below (va_Qi (fun (r : Int32) (u : PH) => (r, u) = out) (ph_B D cy b A fl) A) args s 0 0 A) (F0 m 0 ls []) := by
  unfold F11_next_0 at f
  refine lv_aload_n S.1 S.2.1 dX11_next_0 rfl (lv_at hl 0 rfl) ?_
  obtain ⟨r1, e2, f⟩ := ob f
  refine o_gR S lf11_next_18 I e2 dX11_next_1 ?_
  obtain ⟨r3, e4, f⟩ := ob f
  refine o_gR S lf11_next_150 I e4 dX11_next_4 ?_
  refine lv_aload_n S.1 S.2.1 dX11_next_7 rfl (lv_at hl 0 rfl) ?_
  obtain ⟨r5, e6, f⟩ := ob f
  refine o_gR S lf11_next_47 I e6 dX11_next_8 ?_
  obtain ⟨v7, e8, f⟩ := ob f
  refine o_gI S lf11_next_186 I e8 dX11_next_11 ?_
  obtain ⟨o9, e10, f⟩ := ob f
  refine o_Vi S (As := [.int v7]) (rest := []) (ci := 10) (M10_setFrom l D cy b A fl e10) gX11_next_X10_setFrom rfl rfl rfl cd10_setFrom ⟨Nat.le_of_ble_eq_true rfl, Nat.le_of_ble_eq_true rfl⟩ I (gd e10).1 clX10 rfl rfl hl.1 rfl (Nat.le_of_ble_eq_true rfl) dX11_next_14 ⟨Nat.le_of_ble_eq_true rfl, Nat.le_of_ble_eq_true rfl⟩ (fun H locs I => ?_)
  refine lv_istore_n (lv' := [(1, .int o9.1), (0, .ref (b + a0))]) S.1 S.2.1 dX11_next_17 rfl hl (by decide) rfl (fun ls hl => ?_)
  refine lv_iload_n S.1 S.2.1 dX11_next_18 rfl (lv_at hl 0 rfl) ?_
  refine lv_iconst (v := (-1)) S.1 S.2.1 dX11_next_19 (by decide) ?_
  refine lv_icmp_ne (tgt := 28) S.1 S.2.1 dX11_next_20 (by decide) (fun q11 => ?_) (fun q11 => ?_)
  · have f := (if_neg q11).symm.trans f
    refine lv_aload_n S.1 S.2.1 dX11_next_28 rfl (lv_at hl 1 rfl) ?_
    obtain ⟨r12, e13, f⟩ := ob f
    refine o_gR S lf11_next_18 I e13 dX11_next_29 ?_
    obtain ⟨r14, e15, f⟩ := ob f
    refine o_gR S lf11_next_150 I e15 dX11_next_32 ?_
    refine lv_iload_n S.1 S.2.1 dX11_next_35 rfl (lv_at hl 0 rfl) ?_
    obtain ⟨o16, e17, f⟩ := ob f
    refine o_Vi S (As := [.int o9.1]) (rest := []) (ci := 10) (M10_firstMinute l D cy b A fl e17) gX11_next_X10_firstMinute rfl rfl rfl cd10_firstMinute ⟨Nat.le_of_ble_eq_true rfl, Nat.le_of_ble_eq_true rfl⟩ I (gd e17).1 clX10 rfl rfl hl.1 rfl (Nat.le_of_ble_eq_true rfl) dX11_next_36 ⟨Nat.le_of_ble_eq_true rfl, Nat.le_of_ble_eq_true rfl⟩ (fun H locs I => ?_)
    refine lv_aload_n S.1 S.2.1 dX11_next_39 rfl (lv_at hl 1 rfl) ?_
    obtain ⟨r18, e19, f⟩ := ob f
    refine o_gR S lf11_next_47 I e19 dX11_next_40 ?_
    obtain ⟨v20, e21, f⟩ := ob f
    refine o_gI S lf11_next_186 I e21 dX11_next_43 ?_
    refine lv_isub S.1 S.2.1 dX11_next_46 ?_
    exact o_iret S hr hlo I f dX11_next_47
  · have f := (if_pos q11).symm.trans f
    refine lv_bipush (v := (-2)) S.1 S.2.1 dX11_next_23 (by decide) ?_
    refine lv_goto (tgt := 47) S.1 S.2.1 dX11_next_25 (by decide) ?_
    exact o_iret S hr hlo I f dX11_next_47
theorem M11_next (l : Launch) (D : va_G) (cy : Nat → ClassId) (b : Nat) (A : Nat → Prop) (fl : Bool) {h : PH} {a0 : Nat} {out : Int32 × PH} (f : F11_next h a0 = some out) : Met l yX11_next vX11_next ({ frames := 2, cells := 0, slots := 0, locals := 43 } : Room) (va_Pc [.ref (b + a0)] (ph_B D cy b A fl h)) (va_Qi (fun (r : Int32) (u : PH) => (r, u) = out) (ph_B D cy b A fl) A) 0 0 A :=
  o_met (by decide) rfl (Nat.le_of_ble_eq_true rfl) rfl (fun p e s m below meth c S hr hlo hnm ls hl I => T11_next_0 S hr hlo ((gd f).2) I (lv_sub hl [0] rfl))
def vX11_note : List Cond := .code yX11_note cX11_note 4 (some .int) :: TB
theorem gX11_note_X11_isSurfer : GoodIn vX11_note (wsV RX11 115 RX11 yX11_isSurfer vX11_isSurfer) := gV_of wT_33_17 wT_33_18 wT_33_19 wT_1_2 wT_33_20
theorem gX11_note_X11_isCell : GoodIn vX11_note (wsV RX11 179 RX11 yX11_isCell vX11_isCell) := gV_of wT_38_1 wT_38_2 wT_38_3 wT_1_2 wT_38_4
theorem lf11_note_60 : Fl vX11_note RX11 60 11 11 := ⟨RX11, TX11, 14, rfl, by decide, (fun w h9 => List.mem_cons_of_mem _ (wC_wsX110 w h9)), (List.mem_cons_of_mem _ wT_2_14)⟩
theorem gX11_note_X3_addSeat : GoodIn vX11_note (wsV RX11 320 RX3 yX3_addSeat vX3_addSeat) := gV_of wT_61_13 wT_61_14 wT_61_15 wT_2_13 wT_61_16
theorem cd11_note : Cd yX11_note 3 := ⟨by decide, by decide, by decide +kernel⟩
set_option maxHeartbeats 4000000 in
set_option maxRecDepth 100000 in
theorem T11_note_0 (S : CallFix p m c cX11_note 4 s args vX11_note RX11) (hr : meth.sig.returnType = (some .int)) (hlo : meth.locks = false) {out : Int32 × PH} {h : PH} {a0 : Nat} {x1 : Int32} {x2 : Int32} {x3 : Int32} (f : F11_note_0  h a0 x1 x2 x3 = some out) {H : Heap} {locs : List Loc} (I : ph_I D cy b A fl h s H locs) {ls : Array Slot} (hl : lv_has ls 4 [(0, .ref (b + a0)), (1, .int x1), (2, .int x2), (3, .int x3)]) : W p l e ({ frames := 2, cells := 0, slots := 0, locals := 41 } : Room) s m args below meth c H locs 0 0 (MQ below (va_Qi (fun (r : Int32) (u : PH) => (r, u) = out) (ph_B D cy b A fl) A) args s 0 0 A) (F0 m 0 ls []) := by
  unfold F11_note_0 at f
  refine lv_iload_n S.1 S.2.1 dX11_note_0 rfl (lv_at hl 1 rfl) ?_
  refine lv_if_lt (tgt := 27) S.1 S.2.1 dX11_note_1 (by decide) (fun q1 => ?_) (fun q1 => ?_)
  · have f := (if_pos q1).symm.trans f
    refine lv_iconst (v := (-1)) S.1 S.2.1 dX11_note_27 (by decide) ?_
    exact o_iret S hr hlo I f dX11_note_28
  · have f := (if_neg q1).symm.trans f
    refine lv_iload_n S.1 S.2.1 dX11_note_4 rfl (lv_at hl 1 rfl) ?_
    refine lv_sipush (v := 199) S.1 S.2.1 dX11_note_5 (by decide) ?_
    refine lv_icmp_gt (tgt := 27) S.1 S.2.1 dX11_note_8 (by decide) (fun q2 => ?_) (fun q2 => ?_)
    · have f := (if_pos q2).symm.trans f
      refine lv_iconst (v := (-1)) S.1 S.2.1 dX11_note_27 (by decide) ?_
      exact o_iret S hr hlo I f dX11_note_28
    · have f := (if_neg q2).symm.trans f
      refine lv_aload_n S.1 S.2.1 dX11_note_11 rfl (lv_at hl 0 rfl) ?_
      refine lv_iload_n S.1 S.2.1 dX11_note_12 rfl (lv_at hl 2 rfl) ?_
      obtain ⟨o3, e4, f⟩ := ob f
      refine o_Vi S (As := [.int x2]) (rest := []) (ci := 11) (M11_isSurfer l D cy b A fl e4) gX11_note_X11_isSurfer rfl rfl rfl cd11_isSurfer ⟨Nat.le_of_ble_eq_true rfl, Nat.le_of_ble_eq_true rfl⟩ I (gd e4).1 clX11 rfl rfl hl.1 rfl (Nat.le_of_ble_eq_true rfl) dX11_note_13 ⟨Nat.le_of_ble_eq_true rfl, Nat.le_of_ble_eq_true rfl⟩ (fun H locs I => ?_)
      refine lv_if_eq (tgt := 27) S.1 S.2.1 dX11_note_16 (by decide) (fun q5 => ?_) (fun q5 => ?_)
      · have f := (if_pos q5).symm.trans f
        refine lv_iconst (v := (-1)) S.1 S.2.1 dX11_note_27 (by decide) ?_
        exact o_iret S hr hlo I f dX11_note_28
      · have f := (if_neg q5).symm.trans f
        refine lv_aload_n S.1 S.2.1 dX11_note_19 rfl (lv_at hl 0 rfl) ?_
        refine lv_iload_n S.1 S.2.1 dX11_note_20 rfl (lv_at hl 3 rfl) ?_
        obtain ⟨o6, e7, f⟩ := ob f
        refine o_Vi S (As := [.int x3]) (rest := []) (ci := 11) (M11_isCell l D cy b A fl e7) gX11_note_X11_isCell rfl rfl rfl cd11_isCell ⟨Nat.le_of_ble_eq_true rfl, Nat.le_of_ble_eq_true rfl⟩ I (gd e7).1 clX11 rfl rfl hl.1 rfl (Nat.le_of_ble_eq_true rfl) dX11_note_21 ⟨Nat.le_of_ble_eq_true rfl, Nat.le_of_ble_eq_true rfl⟩ (fun H locs I => ?_)
        refine lv_if_ne (tgt := 29) S.1 S.2.1 dX11_note_24 (by decide) (fun q8 => ?_) (fun q8 => ?_)
        · have f := (if_neg q8).symm.trans f
          refine lv_aload_n S.1 S.2.1 dX11_note_29 rfl (lv_at hl 0 rfl) ?_
          obtain ⟨r9, e10, f⟩ := ob f
          refine o_gR S lf11_note_60 I e10 dX11_note_30 ?_
          refine lv_iload_n S.1 S.2.1 dX11_note_33 rfl (lv_at hl 1 rfl) ?_
          refine lv_iload_n S.1 S.2.1 dX11_note_34 rfl (lv_at hl 2 rfl) ?_
          refine lv_iload_n S.1 S.2.1 dX11_note_35 rfl (lv_at hl 3 rfl) ?_
          obtain ⟨o11, e12, f⟩ := ob f
          refine o_Vi S (As := [.int x1, .int x2, .int x3]) (rest := []) (ci := 3) (M3_addSeat l D cy b A fl e12) gX11_note_X3_addSeat rfl rfl rfl cd3_addSeat ⟨Nat.le_of_ble_eq_true rfl, Nat.le_of_ble_eq_true rfl⟩ I (gd e12).1 clX3 rfl rfl hl.1 rfl (Nat.le_of_ble_eq_true rfl) dX11_note_36 ⟨Nat.le_of_ble_eq_true rfl, Nat.le_of_ble_eq_true rfl⟩ (fun H locs I => ?_)
          exact o_iret S hr hlo I f dX11_note_39
        · have f := (if_pos q8).symm.trans f
          refine lv_iconst (v := (-1)) S.1 S.2.1 dX11_note_27 (by decide) ?_
          exact o_iret S hr hlo I f dX11_note_28
theorem M11_note (l : Launch) (D : va_G) (cy : Nat → ClassId) (b : Nat) (A : Nat → Prop) (fl : Bool) {h : PH} {a0 : Nat} {x1 : Int32} {x2 : Int32} {x3 : Int32} {out : Int32 × PH} (f : F11_note h a0 x1 x2 x3 = some out) : Met l yX11_note vX11_note ({ frames := 2, cells := 0, slots := 0, locals := 41 } : Room) (va_Pc [.ref (b + a0), .int x1, .int x2, .int x3] (ph_B D cy b A fl h)) (va_Qi (fun (r : Int32) (u : PH) => (r, u) = out) (ph_B D cy b A fl) A) 0 0 A :=
  o_met (by decide) rfl (Nat.le_of_ble_eq_true rfl) rfl (fun p e s m below meth c S hr hlo hnm ls hl I => T11_note_0 S hr hlo ((gd f).2) I (lv_sub hl [0, 1, 2, 3] rfl))
def vX11_odds : List Cond := .code yX11_odds cX11_odds 4 (some .int) :: TB
theorem gX11_odds_X11_isSurfer : GoodIn vX11_odds (wsV RX11 115 RX11 yX11_isSurfer vX11_isSurfer) := gV_of wT_33_17 wT_33_18 wT_33_19 wT_1_2 wT_33_20
theorem gX11_odds_X11_isWave : GoodIn vX11_odds (wsV RX11 147 RX11 yX11_isWave vX11_isWave) := gV_of wT_36_22 wT_36_23 wT_37_0 wT_1_2 wT_37_1
theorem gX11_odds_X11_isCell : GoodIn vX11_odds (wsV RX11 179 RX11 yX11_isCell vX11_isCell) := gV_of wT_38_1 wT_38_2 wT_38_3 wT_1_2 wT_38_4
theorem lf11_odds_37 : Fl vX11_odds RX11 37 11 5 := ⟨RX11, TX11, 14, rfl, by decide, (fun w h9 => List.mem_cons_of_mem _ (wC_wsX110 w h9)), (List.mem_cons_of_mem _ wT_2_3)⟩
theorem gX11_odds_X6_oddsAt : GoodIn vX11_odds (wsV RX11 182 RX6 yX6_oddsAt vX6_oddsAt) := gV_of wT_38_9 wT_38_10 wT_38_11 wT_2_2 wT_38_12
theorem cd11_odds : Cd yX11_odds 3 := ⟨by decide, by decide, by decide +kernel⟩
set_option maxHeartbeats 4000000 in
set_option maxRecDepth 100000 in
theorem T11_odds_0 (S : CallFix p m c cX11_odds 4 s args vX11_odds RX11) (hr : meth.sig.returnType = (some .int)) (hlo : meth.locks = false) {out : Int32 × PH} {h : PH} {a0 : Nat} {x1 : Int32} {x2 : Int32} {x3 : Int32} (f : F11_odds_0  h a0 x1 x2 x3 = some out) {H : Heap} {locs : List Loc} (I : ph_I D cy b A fl h s H locs) {ls : Array Slot} (hl : lv_has ls 4 [(0, .ref (b + a0)), (1, .int x1), (2, .int x2), (3, .int x3)]) : W p l e ({ frames := 4, cells := 0, slots := 0, locals := 103 } : Room) s m args below meth c H locs 0 0 (MQ below (va_Qi (fun (r : Int32) (u : PH) => (r, u) = out) (ph_B D cy b A fl) A) args s 0 0 A) (F0 m 0 ls []) := by
  unfold F11_odds_0 at f
  refine lv_aload_n S.1 S.2.1 dX11_odds_0 rfl (lv_at hl 0 rfl) ?_
  refine lv_iload_n S.1 S.2.1 dX11_odds_1 rfl (lv_at hl 1 rfl) ?_
  obtain ⟨o1, e2, f⟩ := ob f
  refine o_Vi S (As := [.int x1]) (rest := []) (ci := 11) (M11_isSurfer l D cy b A fl e2) gX11_odds_X11_isSurfer rfl rfl rfl cd11_isSurfer ⟨Nat.le_of_ble_eq_true rfl, Nat.le_of_ble_eq_true rfl⟩ I (gd e2).1 clX11 rfl rfl hl.1 rfl (Nat.le_of_ble_eq_true rfl) dX11_odds_2 ⟨Nat.le_of_ble_eq_true rfl, Nat.le_of_ble_eq_true rfl⟩ (fun H locs I => ?_)
  refine lv_if_eq (tgt := 24) S.1 S.2.1 dX11_odds_5 (by decide) (fun q3 => ?_) (fun q3 => ?_)
  · have f := (if_pos q3).symm.trans f
    refine lv_iconst (v := (-1)) S.1 S.2.1 dX11_odds_24 (by decide) ?_
    exact o_iret S hr hlo I f dX11_odds_25
  · have f := (if_neg q3).symm.trans f
    refine lv_aload_n S.1 S.2.1 dX11_odds_8 rfl (lv_at hl 0 rfl) ?_
    refine lv_iload_n S.1 S.2.1 dX11_odds_9 rfl (lv_at hl 2 rfl) ?_
    obtain ⟨o4, e5, f⟩ := ob f
    refine o_Vi S (As := [.int x2]) (rest := []) (ci := 11) (M11_isWave l D cy b A fl e5) gX11_odds_X11_isWave rfl rfl rfl cd11_isWave ⟨Nat.le_of_ble_eq_true rfl, Nat.le_of_ble_eq_true rfl⟩ I (gd e5).1 clX11 rfl rfl hl.1 rfl (Nat.le_of_ble_eq_true rfl) dX11_odds_10 ⟨Nat.le_of_ble_eq_true rfl, Nat.le_of_ble_eq_true rfl⟩ (fun H locs I => ?_)
    refine lv_if_eq (tgt := 24) S.1 S.2.1 dX11_odds_13 (by decide) (fun q6 => ?_) (fun q6 => ?_)
    · have f := (if_pos q6).symm.trans f
      refine lv_iconst (v := (-1)) S.1 S.2.1 dX11_odds_24 (by decide) ?_
      exact o_iret S hr hlo I f dX11_odds_25
    · have f := (if_neg q6).symm.trans f
      refine lv_aload_n S.1 S.2.1 dX11_odds_16 rfl (lv_at hl 0 rfl) ?_
      refine lv_iload_n S.1 S.2.1 dX11_odds_17 rfl (lv_at hl 3 rfl) ?_
      obtain ⟨o7, e8, f⟩ := ob f
      refine o_Vi S (As := [.int x3]) (rest := []) (ci := 11) (M11_isCell l D cy b A fl e8) gX11_odds_X11_isCell rfl rfl rfl cd11_isCell ⟨Nat.le_of_ble_eq_true rfl, Nat.le_of_ble_eq_true rfl⟩ I (gd e8).1 clX11 rfl rfl hl.1 rfl (Nat.le_of_ble_eq_true rfl) dX11_odds_18 ⟨Nat.le_of_ble_eq_true rfl, Nat.le_of_ble_eq_true rfl⟩ (fun H locs I => ?_)
      refine lv_if_ne (tgt := 26) S.1 S.2.1 dX11_odds_21 (by decide) (fun q9 => ?_) (fun q9 => ?_)
      · have f := (if_neg q9).symm.trans f
        refine lv_aload_n S.1 S.2.1 dX11_odds_26 rfl (lv_at hl 0 rfl) ?_
        obtain ⟨r10, e11, f⟩ := ob f
        refine o_gR S lf11_odds_37 I e11 dX11_odds_27 ?_
        refine lv_iload_n S.1 S.2.1 dX11_odds_30 rfl (lv_at hl 1 rfl) ?_
        refine lv_iload_n S.1 S.2.1 dX11_odds_31 rfl (lv_at hl 2 rfl) ?_
        refine lv_iload_n S.1 S.2.1 dX11_odds_32 rfl (lv_at hl 3 rfl) ?_
        obtain ⟨o12, e13, f⟩ := ob f
        refine o_Vi S (As := [.int x1, .int x2, .int x3]) (rest := []) (ci := 6) (M6_oddsAt l D cy b A fl e13) gX11_odds_X6_oddsAt rfl rfl rfl cd6_oddsAt ⟨Nat.le_of_ble_eq_true rfl, Nat.le_of_ble_eq_true rfl⟩ I (gd e13).1 clX6 rfl rfl hl.1 rfl (Nat.le_of_ble_eq_true rfl) dX11_odds_33 ⟨Nat.le_of_ble_eq_true rfl, Nat.le_of_ble_eq_true rfl⟩ (fun H locs I => ?_)
        exact o_iret S hr hlo I f dX11_odds_36
      · have f := (if_pos q9).symm.trans f
        refine lv_iconst (v := (-1)) S.1 S.2.1 dX11_odds_24 (by decide) ?_
        exact o_iret S hr hlo I f dX11_odds_25
theorem M11_odds (l : Launch) (D : va_G) (cy : Nat → ClassId) (b : Nat) (A : Nat → Prop) (fl : Bool) {h : PH} {a0 : Nat} {x1 : Int32} {x2 : Int32} {x3 : Int32} {out : Int32 × PH} (f : F11_odds h a0 x1 x2 x3 = some out) : Met l yX11_odds vX11_odds ({ frames := 4, cells := 0, slots := 0, locals := 103 } : Room) (va_Pc [.ref (b + a0), .int x1, .int x2, .int x3] (ph_B D cy b A fl h)) (va_Qi (fun (r : Int32) (u : PH) => (r, u) = out) (ph_B D cy b A fl) A) 0 0 A :=
  o_met (by decide) rfl (Nat.le_of_ble_eq_true rfl) rfl (fun p e s m below meth c S hr hlo hnm ls hl I => T11_odds_0 S hr hlo ((gd f).2) I (lv_sub hl [0, 1, 2, 3] rfl))
def vX11_order : List Cond := .code yX11_order cX11_order 4 (some .int) :: TB
theorem gX11_order_X11_isToCome : GoodIn vX11_order (wsV RX11 223 RX11 yX11_isToCome vX11_isToCome) := gV_of wT_48_8 wT_48_9 wT_48_10 wT_1_2 wT_48_11
theorem lf11_order_37 : Fl vX11_order RX11 37 11 5 := ⟨RX11, TX11, 14, rfl, by decide, (fun w h9 => List.mem_cons_of_mem _ (wC_wsX110 w h9)), (List.mem_cons_of_mem _ wT_2_3)⟩
theorem lf11_order_47 : Fl vX11_order RX11 47 11 7 := ⟨RX11, TX11, 14, rfl, by decide, (fun w h9 => List.mem_cons_of_mem _ (wC_wsX110 w h9)), (List.mem_cons_of_mem _ wT_2_8)⟩
theorem lf11_order_186 : Fl vX11_order RX11 186 4 0 := ⟨RX4, TX4, 11, rfl, by decide, (fun w h9 => List.mem_cons_of_mem _ (wC_wsX40 w h9)), (List.mem_cons_of_mem _ wT_34_1)⟩
theorem gX11_order_X6_lineUp : GoodIn vX11_order (wsV RX11 226 RX6 yX6_lineUp vX6_lineUp) := gV_of wT_48_12 wT_44_6 wT_44_7 wT_2_2 wT_44_8
theorem lf11_order_230 : Fl vX11_order RX11 230 6 6 := ⟨RX6, TX6, 9, rfl, by decide, (fun w h9 => List.mem_cons_of_mem _ (wC_wsX60 w h9)), (List.mem_cons_of_mem _ wT_48_7)⟩
theorem cd11_order : Cd yX11_order 2 := ⟨by decide, by decide, by decide +kernel⟩
set_option maxHeartbeats 4000000 in
set_option maxRecDepth 100000 in
theorem T11_order_0 (S : CallFix p m c cX11_order 4 s args vX11_order RX11) (hr : meth.sig.returnType = (some .int)) (hlo : meth.locks = false) {out : Int32 × PH} {h : PH} {a0 : Nat} {x1 : Int32} {x2 : Int32} (f : F11_order_0  h a0 x1 x2 = some out) {H : Heap} {locs : List Loc} (I : ph_I D cy b A fl h s H locs) {ls : Array Slot} (hl : lv_has ls 4 [(0, .ref (b + a0)), (1, .int x1), (2, .int x2)]) : W p l e ({ frames := 5, cells := 0, slots := 0, locals := 128 } : Room) s m args below meth c H locs 0 0 (MQ below (va_Qi (fun (r : Int32) (u : PH) => (r, u) = out) (ph_B D cy b A fl) A) args s 0 0 A) (F0 m 0 ls []) := by
  unfold F11_order_0 at f
  refine lv_aload_n S.1 S.2.1 dX11_order_0 rfl (lv_at hl 0 rfl) ?_
  refine lv_iload_n S.1 S.2.1 dX11_order_1 rfl (lv_at hl 1 rfl) ?_
  obtain ⟨o1, e2, f⟩ := ob f
  refine o_Vi S (As := [.int x1]) (rest := []) (ci := 11) (M11_isToCome l D cy b A fl e2) gX11_order_X11_isToCome rfl rfl rfl cd11_isToCome ⟨Nat.le_of_ble_eq_true rfl, Nat.le_of_ble_eq_true rfl⟩ I (gd e2).1 clX11 rfl rfl hl.1 rfl (Nat.le_of_ble_eq_true rfl) dX11_order_2 ⟨Nat.le_of_ble_eq_true rfl, Nat.le_of_ble_eq_true rfl⟩ (fun H locs I => ?_)
  refine lv_if_eq (tgt := 12) S.1 S.2.1 dX11_order_5 (by decide) (fun q3 => ?_) (fun q3 => ?_)
  · have f := (if_pos q3).symm.trans f
    refine lv_iconst (v := (-1)) S.1 S.2.1 dX11_order_12 (by decide) ?_
    exact o_iret S hr hlo I f dX11_order_13
  · have f := (if_neg q3).symm.trans f
    refine lv_iload_n S.1 S.2.1 dX11_order_8 rfl (lv_at hl 2 rfl) ?_
    refine lv_if_ge (tgt := 14) S.1 S.2.1 dX11_order_9 (by decide) (fun q4 => ?_) (fun q4 => ?_)
    · have f := (if_pos q4).symm.trans f
      refine lv_aload_n S.1 S.2.1 dX11_order_14 rfl (lv_at hl 0 rfl) ?_
      obtain ⟨r5, e6, f⟩ := ob f
      refine o_gR S lf11_order_37 I e6 dX11_order_15 ?_
      refine lv_aload_n S.1 S.2.1 dX11_order_18 rfl (lv_at hl 0 rfl) ?_
      obtain ⟨r7, e8, f⟩ := ob f
      refine o_gR S lf11_order_47 I e8 dX11_order_19 ?_
      refine lv_iload_n S.1 S.2.1 dX11_order_22 rfl (lv_at hl 1 rfl) ?_
      refine lv_aload_n S.1 S.2.1 dX11_order_23 rfl (lv_at hl 0 rfl) ?_
      obtain ⟨r9, e10, f⟩ := ob f
      refine o_gR S lf11_order_47 I e10 dX11_order_24 ?_
      obtain ⟨v11, e12, f⟩ := ob f
      refine o_gI S lf11_order_186 I e12 dX11_order_27 ?_
      obtain ⟨o13, e14, f⟩ := ob f
      refine o_Vi S (As := [.ref (b + r7), .int x1, .int v11]) (rest := []) (ci := 6) (M6_lineUp l D cy b A fl e14) gX11_order_X6_lineUp rfl rfl rfl cd6_lineUp ⟨Nat.le_of_ble_eq_true rfl, Nat.le_of_ble_eq_true rfl⟩ I (gd e14).1 clX6 rfl rfl hl.1 rfl (Nat.le_of_ble_eq_true rfl) dX11_order_30 ⟨Nat.le_of_ble_eq_true rfl, Nat.le_of_ble_eq_true rfl⟩ (fun H locs I => ?_)
      refine lv_istore_n (lv' := [(3, .int o13.1), (0, .ref (b + a0)), (1, .int x1), (2, .int x2)]) S.1 S.2.1 dX11_order_33 rfl hl (by decide) rfl (fun ls hl => ?_)
      refine lv_iload_n S.1 S.2.1 dX11_order_34 rfl (lv_at hl 3 rfl) ?_
      refine lv_iload_n S.1 S.2.1 dX11_order_35 rfl (lv_at hl 0 rfl) ?_
      refine lv_icmp_ge (tgt := 51) S.1 S.2.1 dX11_order_36 (by decide) (fun q15 => ?_) (fun q15 => ?_)
      · have f := (if_pos q15).symm.trans f
        refine lv_bipush (v := (-2)) S.1 S.2.1 dX11_order_51 (by decide) ?_
        exact o_iret S hr hlo I f dX11_order_53
      · have f := (if_neg q15).symm.trans f
        refine lv_aload_n S.1 S.2.1 dX11_order_39 rfl (lv_at hl 1 rfl) ?_
        obtain ⟨r16, e17, f⟩ := ob f
        refine o_gR S lf11_order_37 I e17 dX11_order_40 ?_
        obtain ⟨r18, e19, f⟩ := ob f
        refine o_gR S lf11_order_230 I e19 dX11_order_43 ?_
        refine lv_iload_n S.1 S.2.1 dX11_order_46 rfl (lv_at hl 3 rfl) ?_
        obtain ⟨v21, e20, f⟩ := ob f
        refine o_iald S I e20 dX11_order_47 ?_
        refine lv_goto (tgt := 53) S.1 S.2.1 dX11_order_48 (by decide) ?_
        exact o_iret S hr hlo I f dX11_order_53
    · have f := (if_neg q4).symm.trans f
      refine lv_iconst (v := (-1)) S.1 S.2.1 dX11_order_12 (by decide) ?_
      exact o_iret S hr hlo I f dX11_order_13
theorem M11_order (l : Launch) (D : va_G) (cy : Nat → ClassId) (b : Nat) (A : Nat → Prop) (fl : Bool) {h : PH} {a0 : Nat} {x1 : Int32} {x2 : Int32} {out : Int32 × PH} (f : F11_order h a0 x1 x2 = some out) : Met l yX11_order vX11_order ({ frames := 5, cells := 0, slots := 0, locals := 128 } : Room) (va_Pc [.ref (b + a0), .int x1, .int x2] (ph_B D cy b A fl h)) (va_Qi (fun (r : Int32) (u : PH) => (r, u) = out) (ph_B D cy b A fl) A) 0 0 A :=
  o_met (by decide) rfl (Nat.le_of_ble_eq_true rfl) rfl (fun p e s m below meth c S hr hlo hnm ls hl I => T11_order_0 S hr hlo ((gd f).2) I (lv_sub hl [0, 1, 2] rfl))
def vX11_over : List Cond := .code yX11_over cX11_over 6 (some .int) :: TB
theorem lf11_over_18 : Fl vX11_over RX11 18 11 3 := ⟨RX11, TX11, 14, rfl, by decide, (fun w h9 => List.mem_cons_of_mem _ (wC_wsX110 w h9)), (List.mem_cons_of_mem _ wT_1_18)⟩
theorem lf11_over_302 : Fl vX11_over RX11 302 8 8 := ⟨RX8, TX8, 14, rfl, by decide, (fun w h9 => List.mem_cons_of_mem _ (wC_wsX80 w h9)), (List.mem_cons_of_mem _ wT_59_10)⟩
theorem gX11_over_X8_bankWaves : GoodIn vX11_over (wsV RX11 305 RX8 yX8_bankWaves vX8_bankWaves) := gV_of wT_59_11 wT_59_12 wT_59_13 wT_1_17 wT_59_14
theorem lf11_over_150 : Fl vX11_over RX11 150 8 5 := ⟨RX8, TX8, 14, rfl, by decide, (fun w h9 => List.mem_cons_of_mem _ (wC_wsX80 w h9)), (List.mem_cons_of_mem _ wT_36_16)⟩
theorem lf11_over_299 : Fl vX11_over RX11 299 10 1 := ⟨RX10, TX10, 8, rfl, by decide, (fun w h9 => List.mem_cons_of_mem _ (wC_wsX100 w h9)), (List.mem_cons_of_mem _ wT_37_2)⟩
theorem lf11_over_154 : Fl vX11_over RX11 154 10 4 := ⟨RX10, TX10, 8, rfl, by decide, (fun w h9 => List.mem_cons_of_mem _ (wC_wsX100 w h9)), (List.mem_cons_of_mem _ wT_36_17)⟩
theorem lf11_over_37 : Fl vX11_over RX11 37 11 5 := ⟨RX11, TX11, 14, rfl, by decide, (fun w h9 => List.mem_cons_of_mem _ (wC_wsX110 w h9)), (List.mem_cons_of_mem _ wT_2_3)⟩
theorem lf11_over_47 : Fl vX11_over RX11 47 11 7 := ⟨RX11, TX11, 14, rfl, by decide, (fun w h9 => List.mem_cons_of_mem _ (wC_wsX110 w h9)), (List.mem_cons_of_mem _ wT_2_8)⟩
theorem lf11_over_122 : Fl vX11_over RX11 122 4 5 := ⟨RX4, TX4, 11, rfl, by decide, (fun w h9 => List.mem_cons_of_mem _ (wC_wsX40 w h9)), (List.mem_cons_of_mem _ wT_33_11)⟩
theorem gX11_over_X6_worthAt : GoodIn vX11_over (wsV RX11 275 RX6 yX6_worthAt vX6_worthAt) := gV_of wT_56_5 wT_49_18 wT_49_19 wT_2_2 wT_49_20
theorem gX11_over_X11_isSurfer : GoodIn vX11_over (wsV RX11 115 RX11 yX11_isSurfer vX11_isSurfer) := gV_of wT_33_17 wT_33_18 wT_33_19 wT_1_2 wT_33_20
theorem lf11_over_296 : Fl vX11_over RX11 296 8 7 := ⟨RX8, TX8, 14, rfl, by decide, (fun w h9 => List.mem_cons_of_mem _ (wC_wsX80 w h9)), (List.mem_cons_of_mem _ wT_59_9)⟩
theorem gX11_over_X11_firstToCome : GoodIn vX11_over (wsV RX11 233 RX11 yX11_firstToCome vX11_firstToCome) := gV_of wT_49_9 wT_49_10 wT_49_11 wT_1_2 wT_49_12
theorem gX11_over_X6_seatFrom : GoodIn vX11_over (wsV RX11 237 RX6 yX6_seatFrom vX6_seatFrom) := gV_of wT_49_13 wT_49_14 wT_49_15 wT_2_2 wT_49_16
theorem lf11_over_186 : Fl vX11_over RX11 186 4 0 := ⟨RX4, TX4, 11, rfl, by decide, (fun w h9 => List.mem_cons_of_mem _ (wC_wsX40 w h9)), (List.mem_cons_of_mem _ wT_34_1)⟩
theorem cd11_over : Cd yX11_over 1 := ⟨by decide, by decide, by decide +kernel⟩
set_option maxHeartbeats 4000000 in
set_option maxRecDepth 100000 in
theorem T11_over_93 (S : CallFix p m c cX11_over 6 s args vX11_over RX11) (hr : meth.sig.returnType = (some .int)) (hlo : meth.locks = false) {out : Int32 × PH} : ∀ (n : Nat) {h : PH} {a0 : Nat} {x1 : Int32} {x2 : Int32} {x3 : Int32} {x4 : Int32} {x5 : Int32} (f : F11_over_93  n h a0 x1 x2 x3 x4 x5 = some out) {H : Heap} {locs : List Loc} (I : ph_I D cy b A fl h s H locs) {ls : Array Slot} (hl : lv_has ls 6 [(0, .ref (b + a0)), (1, .int x1), (2, .int x2), (3, .int x3), (4, .int x4), (5, .int x5)]), W p l e ({ frames := 6, cells := 0, slots := 0, locals := 151 } : Room) s m args below meth c H locs 0 0 (MQ below (va_Qi (fun (r : Int32) (u : PH) => (r, u) = out) (ph_B D cy b A fl) A) args s 0 0 A) (F0 m 93 ls []) := by
  intro n
  induction n with
  | zero => intro h a0 x1 x2 x3 x4 x5 f; rw [F11_over_93] at f; cases f
  | succ n ih =>
    intro h a0 x1 x2 x3 x4 x5 f H locs I ls hl
    rw [F11_over_93] at f
    refine lv_iload S.1 S.2.1 dX11_over_93 (lv_at hl 5 rfl) ?_
    refine lv_iload_n S.1 S.2.1 dX11_over_95 rfl (lv_at hl 2 rfl) ?_
    refine lv_icmp_gt (tgt := 191) S.1 S.2.1 dX11_over_96 (by decide) (fun q1 => ?_) (fun q1 => ?_)
    · have f := (if_pos q1).symm.trans f
      refine lv_bipush (v := (-2)) S.1 S.2.1 dX11_over_191 (by decide) ?_
      exact o_iret S hr hlo I f dX11_over_193
    · have f := (if_neg q1).symm.trans f
      refine lv_bipush (v := 100) S.1 S.2.1 dX11_over_99 (by decide) ?_
      refine lv_aload_n S.1 S.2.1 dX11_over_101 rfl (lv_at hl 0 rfl) ?_
      obtain ⟨r2, e3, f⟩ := ob f
      refine o_gR S lf11_over_18 I e3 dX11_over_102 ?_
      obtain ⟨v4, e5, f⟩ := ob f
      refine o_gI S lf11_over_302 I e5 dX11_over_105 ?_
      refine lv_imul S.1 S.2.1 dX11_over_108 ?_
      refine lv_aload_n S.1 S.2.1 dX11_over_109 rfl (lv_at hl 0 rfl) ?_
      obtain ⟨r6, e7, f⟩ := ob f
      refine o_gR S lf11_over_18 I e7 dX11_over_110 ?_
      refine lv_iload S.1 S.2.1 dX11_over_113 (lv_at hl 5 rfl) ?_
      refine lv_iload_n S.1 S.2.1 dX11_over_115 rfl (lv_at hl 2 rfl) ?_
      obtain ⟨o8, e9, f⟩ := ob f
      refine o_Vi S (As := [.int x5, .int x2]) (rest := [.int (100 * v4)]) (ci := 8) (M8_bankWaves l D cy b A fl e9) gX11_over_X8_bankWaves rfl rfl rfl cd8_bankWaves ⟨Nat.le_of_ble_eq_true rfl, Nat.le_of_ble_eq_true rfl⟩ I (gd e9).1 clX8 rfl rfl hl.1 rfl (Nat.le_of_ble_eq_true rfl) dX11_over_116 ⟨Nat.le_of_ble_eq_true rfl, Nat.le_of_ble_eq_true rfl⟩ (fun H locs I => ?_)
      refine lv_imul S.1 S.2.1 dX11_over_119 ?_
      refine lv_iload S.1 S.2.1 dX11_over_120 (lv_at hl 4 rfl) ?_
      refine lv_icmp_le (tgt := 128) S.1 S.2.1 dX11_over_122 (by decide) (fun q10 => ?_) (fun q10 => ?_)
      · have f := (if_pos q10).symm.trans f
        refine lv_iload_n S.1 S.2.1 dX11_over_128 rfl (lv_at hl 3 rfl) ?_
        refine lv_aload_n S.1 S.2.1 dX11_over_129 rfl (lv_at hl 0 rfl) ?_
        obtain ⟨r11, e12, f⟩ := ob f
        refine o_gR S lf11_over_18 I e12 dX11_over_130 ?_
        obtain ⟨r13, e14, f⟩ := ob f
        refine o_gR S lf11_over_150 I e14 dX11_over_133 ?_
        obtain ⟨v15, e16, f⟩ := ob f
        refine o_gI S lf11_over_299 I e16 dX11_over_136 ?_
        refine lv_icmp_ge (tgt := 185) S.1 S.2.1 dX11_over_139 (by decide) (fun q17 => ?_) (fun q17 => ?_)
        · have f := (if_pos q17).symm.trans f
          refine lv_iinc (v := (x5 + 1)) (lv' := [(5, .int (x5 + 1)), (0, .ref (b + a0)), (1, .int x1), (2, .int x2), (3, .int x3), (4, .int x4)]) S.1 S.2.1 dX11_over_185 hl (k := 5) rfl (congrArg (fun z => x5 + z) (by decide)) (by decide) rfl (fun ls hl => ?_)
          refine lv_goto (tgt := 93) S.1 S.2.1 dX11_over_188 (by decide) ?_
          exact ih f I (lv_sub hl [1, 2, 3, 4, 5, 0] rfl)
        · have f := (if_neg q17).symm.trans f
          refine lv_aload_n S.1 S.2.1 dX11_over_142 rfl (lv_at hl 0 rfl) ?_
          obtain ⟨r18, e19, f⟩ := ob f
          refine o_gR S lf11_over_18 I e19 dX11_over_143 ?_
          obtain ⟨r20, e21, f⟩ := ob f
          refine o_gR S lf11_over_150 I e21 dX11_over_146 ?_
          obtain ⟨r22, e23, f⟩ := ob f
          refine o_gR S lf11_over_154 I e23 dX11_over_149 ?_
          refine lv_iload_n S.1 S.2.1 dX11_over_152 rfl (lv_at hl 3 rfl) ?_
          obtain ⟨v25, e24, f⟩ := ob f
          refine o_iald S I e24 dX11_over_153 ?_
          refine lv_iload S.1 S.2.1 dX11_over_154 (lv_at hl 5 rfl) ?_
          refine lv_icmp_ne (tgt := 185) S.1 S.2.1 dX11_over_156 (by decide) (fun q26 => ?_) (fun q26 => ?_)
          · have f := (if_neg q26).symm.trans f
            refine lv_iinc (v := (x5 + 1)) (lv' := [(5, .int (x5 + 1)), (0, .ref (b + a0)), (1, .int x1), (2, .int x2), (3, .int x3), (4, .int x4)]) S.1 S.2.1 dX11_over_185 hl (k := 5) rfl (congrArg (fun z => x5 + z) (by decide)) (by decide) rfl (fun ls hl => ?_)
            refine lv_goto (tgt := 93) S.1 S.2.1 dX11_over_188 (by decide) ?_
            exact ih f I (lv_sub hl [1, 2, 3, 4, 5, 0] rfl)
          · have f := (if_pos q26).symm.trans f
            refine lv_iload S.1 S.2.1 dX11_over_159 (lv_at hl 4 rfl) ?_
            refine lv_aload_n S.1 S.2.1 dX11_over_161 rfl (lv_at hl 0 rfl) ?_
            obtain ⟨r27, e28, f⟩ := ob f
            refine o_gR S lf11_over_37 I e28 dX11_over_162 ?_
            refine lv_iload_n S.1 S.2.1 dX11_over_165 rfl (lv_at hl 1 rfl) ?_
            refine lv_iload_n S.1 S.2.1 dX11_over_166 rfl (lv_at hl 3 rfl) ?_
            refine lv_aload_n S.1 S.2.1 dX11_over_167 rfl (lv_at hl 0 rfl) ?_
            obtain ⟨r29, e30, f⟩ := ob f
            refine o_gR S lf11_over_47 I e30 dX11_over_168 ?_
            obtain ⟨r31, e32, f⟩ := ob f
            refine o_gR S lf11_over_122 I e32 dX11_over_171 ?_
            refine lv_iload_n S.1 S.2.1 dX11_over_174 rfl (lv_at hl 1 rfl) ?_
            obtain ⟨v34, e33, f⟩ := ob f
            refine o_iald S I e33 dX11_over_175 ?_
            obtain ⟨o35, e36, f⟩ := ob f
            refine o_Vi S (As := [.int x1, .int x3, .int v34]) (rest := [.int x4]) (ci := 6) (M6_worthAt l D cy b A fl e36) gX11_over_X6_worthAt rfl rfl rfl cd6_worthAt ⟨Nat.le_of_ble_eq_true rfl, Nat.le_of_ble_eq_true rfl⟩ I (gd e36).1 clX6 rfl rfl hl.1 rfl (Nat.le_of_ble_eq_true rfl) dX11_over_176 ⟨Nat.le_of_ble_eq_true rfl, Nat.le_of_ble_eq_true rfl⟩ (fun H locs I => ?_)
            refine lv_isub S.1 S.2.1 dX11_over_179 ?_
            refine lv_istore (lv' := [(4, .int (x4 - o35.1)), (0, .ref (b + a0)), (1, .int x1), (2, .int x2), (3, .int x3), (5, .int x5)]) S.1 S.2.1 dX11_over_180 hl (by decide) rfl (fun ls hl => ?_)
            refine lv_iinc (v := (x3 + 1)) (lv' := [(3, .int (x3 + 1)), (4, .int (x4 - o35.1)), (0, .ref (b + a0)), (1, .int x1), (2, .int x2), (5, .int x5)]) S.1 S.2.1 dX11_over_182 hl (k := 4) rfl (congrArg (fun z => x3 + z) (by decide)) (by decide) rfl (fun ls hl => ?_)
            refine lv_iinc (v := (x5 + 1)) (lv' := [(5, .int (x5 + 1)), (3, .int (x3 + 1)), (4, .int (x4 - o35.1)), (0, .ref (b + a0)), (1, .int x1), (2, .int x2)]) S.1 S.2.1 dX11_over_185 hl (k := 5) rfl (congrArg (fun z => x5 + z) (by decide)) (by decide) rfl (fun ls hl => ?_)
            refine lv_goto (tgt := 93) S.1 S.2.1 dX11_over_188 (by decide) ?_
            exact ih f I (lv_sub hl [3, 4, 5, 1, 2, 0] rfl)
      · have f := (if_neg q10).symm.trans f
        refine lv_iload S.1 S.2.1 dX11_over_125 (lv_at hl 5 rfl) ?_
        exact o_iret S hr hlo I f dX11_over_127
set_option maxHeartbeats 4000000 in
set_option maxRecDepth 100000 in
theorem T11_over_0 (S : CallFix p m c cX11_over 6 s args vX11_over RX11) (hr : meth.sig.returnType = (some .int)) (hlo : meth.locks = false) {out : Int32 × PH} {h : PH} {a0 : Nat} {x1 : Int32} (f : F11_over_0  h a0 x1 = some out) {H : Heap} {locs : List Loc} (I : ph_I D cy b A fl h s H locs) {ls : Array Slot} (hl : lv_has ls 6 [(0, .ref (b + a0)), (1, .int x1)]) : W p l e ({ frames := 6, cells := 0, slots := 0, locals := 151 } : Room) s m args below meth c H locs 0 0 (MQ below (va_Qi (fun (r : Int32) (u : PH) => (r, u) = out) (ph_B D cy b A fl) A) args s 0 0 A) (F0 m 0 ls []) := by
  unfold F11_over_0 at f
  refine lv_aload_n S.1 S.2.1 dX11_over_0 rfl (lv_at hl 0 rfl) ?_
  refine lv_iload_n S.1 S.2.1 dX11_over_1 rfl (lv_at hl 1 rfl) ?_
  obtain ⟨o1, e2, f⟩ := ob f
  refine o_Vi S (As := [.int x1]) (rest := []) (ci := 11) (M11_isSurfer l D cy b A fl e2) gX11_over_X11_isSurfer rfl rfl rfl cd11_isSurfer ⟨Nat.le_of_ble_eq_true rfl, Nat.le_of_ble_eq_true rfl⟩ I (gd e2).1 clX11 rfl rfl hl.1 rfl (Nat.le_of_ble_eq_true rfl) dX11_over_2 ⟨Nat.le_of_ble_eq_true rfl, Nat.le_of_ble_eq_true rfl⟩ (fun H locs I => ?_)
  refine lv_if_eq (tgt := 33) S.1 S.2.1 dX11_over_5 (by decide) (fun q3 => ?_) (fun q3 => ?_)
  · have f := (if_pos q3).symm.trans f
    refine lv_iconst (v := (-1)) S.1 S.2.1 dX11_over_33 (by decide) ?_
    exact o_iret S hr hlo I f dX11_over_34
  · have f := (if_neg q3).symm.trans f
    refine lv_aload_n S.1 S.2.1 dX11_over_8 rfl (lv_at hl 0 rfl) ?_
    obtain ⟨r4, e5, f⟩ := ob f
    refine o_gR S lf11_over_18 I e5 dX11_over_9 ?_
    obtain ⟨v6, e7, f⟩ := ob f
    refine o_gI S lf11_over_296 I e7 dX11_over_12 ?_
    refine lv_iconst (v := 1) S.1 S.2.1 dX11_over_15 (by decide) ?_
    refine lv_icmp_lt (tgt := 33) S.1 S.2.1 dX11_over_16 (by decide) (fun q8 => ?_) (fun q8 => ?_)
    · have f := (if_pos q8).symm.trans f
      refine lv_iconst (v := (-1)) S.1 S.2.1 dX11_over_33 (by decide) ?_
      exact o_iret S hr hlo I f dX11_over_34
    · have f := (if_neg q8).symm.trans f
      refine lv_aload_n S.1 S.2.1 dX11_over_19 rfl (lv_at hl 0 rfl) ?_
      obtain ⟨r9, e10, f⟩ := ob f
      refine o_gR S lf11_over_18 I e10 dX11_over_20 ?_
      obtain ⟨r11, e12, f⟩ := ob f
      refine o_gR S lf11_over_150 I e12 dX11_over_23 ?_
      obtain ⟨v13, e14, f⟩ := ob f
      refine o_gI S lf11_over_299 I e14 dX11_over_26 ?_
      refine lv_iconst (v := 1) S.1 S.2.1 dX11_over_29 (by decide) ?_
      refine lv_icmp_ge (tgt := 35) S.1 S.2.1 dX11_over_30 (by decide) (fun q15 => ?_) (fun q15 => ?_)
      · have f := (if_pos q15).symm.trans f
        refine lv_aload_n S.1 S.2.1 dX11_over_35 rfl (lv_at hl 0 rfl) ?_
        obtain ⟨r16, e17, f⟩ := ob f
        refine o_gR S lf11_over_18 I e17 dX11_over_36 ?_
        obtain ⟨r18, e19, f⟩ := ob f
        refine o_gR S lf11_over_150 I e19 dX11_over_39 ?_
        obtain ⟨r20, e21, f⟩ := ob f
        refine o_gR S lf11_over_154 I e21 dX11_over_42 ?_
        refine lv_aload_n S.1 S.2.1 dX11_over_45 rfl (lv_at hl 0 rfl) ?_
        obtain ⟨r22, e23, f⟩ := ob f
        refine o_gR S lf11_over_18 I e23 dX11_over_46 ?_
        obtain ⟨r24, e25, f⟩ := ob f
        refine o_gR S lf11_over_150 I e25 dX11_over_49 ?_
        obtain ⟨v26, e27, f⟩ := ob f
        refine o_gI S lf11_over_299 I e27 dX11_over_52 ?_
        refine lv_iconst (v := 1) S.1 S.2.1 dX11_over_55 (by decide) ?_
        refine lv_isub S.1 S.2.1 dX11_over_56 ?_
        obtain ⟨v29, e28, f⟩ := ob f
        refine o_iald S I e28 dX11_over_57 ?_
        refine lv_istore_n (lv' := [(2, .int v29), (0, .ref (b + a0)), (1, .int x1)]) S.1 S.2.1 dX11_over_58 rfl hl (by decide) rfl (fun ls hl => ?_)
        refine lv_aload_n S.1 S.2.1 dX11_over_59 rfl (lv_at hl 1 rfl) ?_
        obtain ⟨o30, e31, f⟩ := ob f
        refine o_Vi S (As := []) (rest := []) (ci := 11) (M11_firstToCome l D cy b A fl e31) gX11_over_X11_firstToCome rfl rfl rfl cd11_firstToCome ⟨Nat.le_of_ble_eq_true rfl, Nat.le_of_ble_eq_true rfl⟩ I (gd e31).1 clX11 rfl rfl hl.1 rfl (Nat.le_of_ble_eq_true rfl) dX11_over_60 ⟨Nat.le_of_ble_eq_true rfl, Nat.le_of_ble_eq_true rfl⟩ (fun H locs I => ?_)
        refine lv_istore_n (lv' := [(3, .int o30.1), (2, .int v29), (0, .ref (b + a0)), (1, .int x1)]) S.1 S.2.1 dX11_over_63 rfl hl (by decide) rfl (fun ls hl => ?_)
        refine lv_aload_n S.1 S.2.1 dX11_over_64 rfl (lv_at hl 2 rfl) ?_
        obtain ⟨r32, e33, f⟩ := ob f
        refine o_gR S lf11_over_37 I e33 dX11_over_65 ?_
        refine lv_iload_n S.1 S.2.1 dX11_over_68 rfl (lv_at hl 3 rfl) ?_
        refine lv_aload_n S.1 S.2.1 dX11_over_69 rfl (lv_at hl 2 rfl) ?_
        obtain ⟨r34, e35, f⟩ := ob f
        refine o_gR S lf11_over_47 I e35 dX11_over_70 ?_
        obtain ⟨r36, e37, f⟩ := ob f
        refine o_gR S lf11_over_122 I e37 dX11_over_73 ?_
        refine lv_iload_n S.1 S.2.1 dX11_over_76 rfl (lv_at hl 3 rfl) ?_
        obtain ⟨v39, e38, f⟩ := ob f
        refine o_iald S I e38 dX11_over_77 ?_
        refine lv_iload_n S.1 S.2.1 dX11_over_78 rfl (lv_at hl 0 rfl) ?_
        obtain ⟨o40, e41, f⟩ := ob f
        refine o_Vi S (As := [.int x1, .int v39, .int o30.1]) (rest := []) (ci := 6) (M6_seatFrom l D cy b A fl e41) gX11_over_X6_seatFrom rfl rfl rfl cd6_seatFrom ⟨Nat.le_of_ble_eq_true rfl, Nat.le_of_ble_eq_true rfl⟩ I (gd e41).1 clX6 rfl rfl hl.1 rfl (Nat.le_of_ble_eq_true rfl) dX11_over_79 ⟨Nat.le_of_ble_eq_true rfl, Nat.le_of_ble_eq_true rfl⟩ (fun H locs I => ?_)
        refine lv_istore (lv' := [(4, .int o40.1), (3, .int o30.1), (2, .int v29), (0, .ref (b + a0)), (1, .int x1)]) S.1 S.2.1 dX11_over_82 hl (by decide) rfl (fun ls hl => ?_)
        refine lv_aload_n S.1 S.2.1 dX11_over_84 rfl (lv_at hl 3 rfl) ?_
        obtain ⟨r42, e43, f⟩ := ob f
        refine o_gR S lf11_over_47 I e43 dX11_over_85 ?_
        obtain ⟨v44, e45, f⟩ := ob f
        refine o_gI S lf11_over_186 I e45 dX11_over_88 ?_
        refine lv_istore (lv' := [(5, .int v44), (4, .int o40.1), (3, .int o30.1), (2, .int v29), (0, .ref (b + a0)), (1, .int x1)]) S.1 S.2.1 dX11_over_91 hl (by decide) rfl (fun ls hl => ?_)
        exact T11_over_93 S hr hlo  1024 f I (lv_sub hl [4, 5, 3, 2, 1, 0] rfl)
      · have f := (if_neg q15).symm.trans f
        refine lv_iconst (v := (-1)) S.1 S.2.1 dX11_over_33 (by decide) ?_
        exact o_iret S hr hlo I f dX11_over_34
theorem M11_over (l : Launch) (D : va_G) (cy : Nat → ClassId) (b : Nat) (A : Nat → Prop) (fl : Bool) {h : PH} {a0 : Nat} {x1 : Int32} {out : Int32 × PH} (f : F11_over h a0 x1 = some out) : Met l yX11_over vX11_over ({ frames := 6, cells := 0, slots := 0, locals := 151 } : Room) (va_Pc [.ref (b + a0), .int x1] (ph_B D cy b A fl h)) (va_Qi (fun (r : Int32) (u : PH) => (r, u) = out) (ph_B D cy b A fl) A) 0 0 A :=
  o_met (by decide) rfl (Nat.le_of_ble_eq_true rfl) rfl (fun p e s m below meth c S hr hlo hnm ls hl I => T11_over_0 S hr hlo ((gd f).2) I (lv_sub hl [0, 1] rfl))
def vX11_peak : List Cond := .code yX11_peak cX11_peak 2 (some .int) :: TB
theorem lf11_peak_18 : Fl vX11_peak RX11 18 11 3 := ⟨RX11, TX11, 14, rfl, by decide, (fun w h9 => List.mem_cons_of_mem _ (wC_wsX110 w h9)), (List.mem_cons_of_mem _ wT_1_18)⟩
theorem lf11_peak_170 : Fl vX11_peak RX11 170 8 3 := ⟨RX8, TX8, 14, rfl, by decide, (fun w h9 => List.mem_cons_of_mem _ (wC_wsX80 w h9)), (List.mem_cons_of_mem _ wT_37_15)⟩
theorem lf11_peak_173 : Fl vX11_peak RX11 173 8 0 := ⟨RX8, TX8, 14, rfl, by decide, (fun w h9 => List.mem_cons_of_mem _ (wC_wsX80 w h9)), (List.mem_cons_of_mem _ wT_37_16)⟩
theorem lf11_peak_37 : Fl vX11_peak RX11 37 11 5 := ⟨RX11, TX11, 14, rfl, by decide, (fun w h9 => List.mem_cons_of_mem _ (wC_wsX110 w h9)), (List.mem_cons_of_mem _ wT_2_3)⟩
theorem gX11_peak_X6_peakXAt : GoodIn vX11_peak (wsV RX11 176 RX6 yX6_peakXAt vX6_peakXAt) := gV_of wT_34_2 wT_24_13 wT_24_14 wT_2_2 wT_24_15
theorem cd11_peak : Cd yX11_peak 1 := ⟨by decide, by decide, by decide +kernel⟩
set_option maxHeartbeats 4000000 in
set_option maxRecDepth 100000 in
theorem T11_peak_0 (S : CallFix p m c cX11_peak 2 s args vX11_peak RX11) (hr : meth.sig.returnType = (some .int)) (hlo : meth.locks = false) {out : Int32 × PH} {h : PH} {a0 : Nat} {x1 : Int32} (f : F11_peak_0  h a0 x1 = some out) {H : Heap} {locs : List Loc} (I : ph_I D cy b A fl h s H locs) {ls : Array Slot} (hl : lv_has ls 2 [(0, .ref (b + a0)), (1, .int x1)]) : W p l e ({ frames := 5, cells := 0, slots := 0, locals := 125 } : Room) s m args below meth c H locs 0 0 (MQ below (va_Qi (fun (r : Int32) (u : PH) => (r, u) = out) (ph_B D cy b A fl) A) args s 0 0 A) (F0 m 0 ls []) := by
  unfold F11_peak_0 at f
  refine lv_iload_n S.1 S.2.1 dX11_peak_0 rfl (lv_at hl 1 rfl) ?_
  refine lv_if_lt (tgt := 11) S.1 S.2.1 dX11_peak_1 (by decide) (fun q1 => ?_) (fun q1 => ?_)
  · have f := (if_pos q1).symm.trans f
    refine lv_iconst (v := (-1)) S.1 S.2.1 dX11_peak_11 (by decide) ?_
    exact o_iret S hr hlo I f dX11_peak_12
  · have f := (if_neg q1).symm.trans f
    refine lv_iload_n S.1 S.2.1 dX11_peak_4 rfl (lv_at hl 1 rfl) ?_
    refine lv_sipush (v := 199) S.1 S.2.1 dX11_peak_5 (by decide) ?_
    refine lv_icmp_le (tgt := 13) S.1 S.2.1 dX11_peak_8 (by decide) (fun q2 => ?_) (fun q2 => ?_)
    · have f := (if_pos q2).symm.trans f
      refine lv_aload_n S.1 S.2.1 dX11_peak_13 rfl (lv_at hl 0 rfl) ?_
      obtain ⟨r3, e4, f⟩ := ob f
      refine o_gR S lf11_peak_18 I e4 dX11_peak_14 ?_
      obtain ⟨v5, e6, f⟩ := ob f
      refine o_gI S lf11_peak_170 I e6 dX11_peak_17 ?_
      refine lv_aload_n S.1 S.2.1 dX11_peak_20 rfl (lv_at hl 0 rfl) ?_
      obtain ⟨r7, e8, f⟩ := ob f
      refine o_gR S lf11_peak_18 I e8 dX11_peak_21 ?_
      obtain ⟨v9, e10, f⟩ := ob f
      refine o_gI S lf11_peak_173 I e10 dX11_peak_24 ?_
      refine lv_imul S.1 S.2.1 dX11_peak_27 ?_
      refine lv_aload_n S.1 S.2.1 dX11_peak_28 rfl (lv_at hl 0 rfl) ?_
      obtain ⟨r11, e12, f⟩ := ob f
      refine o_gR S lf11_peak_37 I e12 dX11_peak_29 ?_
      refine lv_iload_n S.1 S.2.1 dX11_peak_32 rfl (lv_at hl 1 rfl) ?_
      obtain ⟨o13, e14, f⟩ := ob f
      refine o_Vi S (As := [.int x1]) (rest := [.int (v5 * v9)]) (ci := 6) (M6_peakXAt l D cy b A fl e14) gX11_peak_X6_peakXAt rfl rfl rfl cd6_peakXAt ⟨Nat.le_of_ble_eq_true rfl, Nat.le_of_ble_eq_true rfl⟩ I (gd e14).1 clX6 rfl rfl hl.1 rfl (Nat.le_of_ble_eq_true rfl) dX11_peak_33 ⟨Nat.le_of_ble_eq_true rfl, Nat.le_of_ble_eq_true rfl⟩ (fun H locs I => ?_)
      refine lv_iadd S.1 S.2.1 dX11_peak_36 ?_
      exact o_iret S hr hlo I f dX11_peak_37
    · have f := (if_neg q2).symm.trans f
      refine lv_iconst (v := (-1)) S.1 S.2.1 dX11_peak_11 (by decide) ?_
      exact o_iret S hr hlo I f dX11_peak_12
theorem M11_peak (l : Launch) (D : va_G) (cy : Nat → ClassId) (b : Nat) (A : Nat → Prop) (fl : Bool) {h : PH} {a0 : Nat} {x1 : Int32} {out : Int32 × PH} (f : F11_peak h a0 x1 = some out) : Met l yX11_peak vX11_peak ({ frames := 5, cells := 0, slots := 0, locals := 125 } : Room) (va_Pc [.ref (b + a0), .int x1] (ph_B D cy b A fl h)) (va_Qi (fun (r : Int32) (u : PH) => (r, u) = out) (ph_B D cy b A fl) A) 0 0 A :=
  o_met (by decide) rfl (Nat.le_of_ble_eq_true rfl) rfl (fun p e s m below meth c S hr hlo hnm ls hl I => T11_peak_0 S hr hlo ((gd f).2) I (lv_sub hl [0, 1] rfl))
end
