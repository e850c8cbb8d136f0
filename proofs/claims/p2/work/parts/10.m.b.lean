section
variable {p : Program} {l : Launch} {e : Env} {s : State} {m : MethodId} {args : Array Value} {below : List Frame} {meth : Method} {c : Code} {D : va_G} {cy : Nat → ClassId} {b : Nat} {A : Nat → Prop} {fl : Bool}
def vX0_isRest : List Cond := .code yX0_isRest cX0_isRest 4 (some .boolean) :: TB
theorem lf0_isRest_9 : Fl vX0_isRest RX0 9 0 0 := ⟨RX0, TX0, 13, rfl, by decide, (fun w h9 => List.mem_cons_of_mem _ (wC_wsX00 w h9)), (List.mem_cons_of_mem _ wT_9_7)⟩
theorem lf0_isRest_24 : Fl vX0_isRest RX0 24 0 4 := ⟨RX0, TX0, 13, rfl, by decide, (fun w h9 => List.mem_cons_of_mem _ (wC_wsX00 w h9)), (List.mem_cons_of_mem _ wT_9_11)⟩
theorem lf0_isRest_21 : Fl vX0_isRest RX0 21 0 3 := ⟨RX0, TX0, 13, rfl, by decide, (fun w h9 => List.mem_cons_of_mem _ (wC_wsX00 w h9)), (List.mem_cons_of_mem _ wT_9_10)⟩
theorem cd0_isRest : Cd yX0_isRest 2 := ⟨by decide, by decide, by decide +kernel⟩
set_option maxHeartbeats 4000000 in
set_option maxRecDepth 100000 in
theorem T0_isRest_66 (S : CallFix p m c cX0_isRest 4 s args vX0_isRest RX0) (hr : meth.sig.returnType = (some .boolean)) (hlo : meth.locks = false) {out : Int32 × PH} {k26 : PH → Nat → Int32 → Int32 → Int32 → Option (Int32 × PH)} (hk26 : ∀ {h : PH} {a0 : Nat} {x1 : Int32} {x2 : Int32} {x3 : Int32}, k26 h a0 x1 x2 x3 = some out → ∀ (H : Heap) (locs : List Loc), ph_I D cy b A fl h s H locs → ∀ (ls : Array Slot), lv_has ls 4 [(0, .ref (b + a0)), (1, .int x1), (2, .int x2), (3, .int x3)] → W p l e ({ frames := 0, cells := 0, slots := 0, locals := 0 } : Room) s m args below meth c H locs 0 0 (MQ below (va_Qi (fun (r : Int32) (u : PH) => (r, u) = out) (ph_B D cy b A fl) A) args s 0 0 A) (F0 m 26 ls [])) {h : PH} {a0 : Nat} {x1 : Int32} {x2 : Int32} {x3 : Int32} (f : F0_isRest_66 k26 h a0 x1 x2 x3 = some out) {H : Heap} {locs : List Loc} (I : ph_I D cy b A fl h s H locs) {ls : Array Slot} (hl : lv_has ls 4 [(0, .ref (b + a0)), (1, .int x1), (2, .int x2), (3, .int x3)]) : W p l e ({ frames := 0, cells := 0, slots := 0, locals := 0 } : Room) s m args below meth c H locs 0 0 (MQ below (va_Qi (fun (r : Int32) (u : PH) => (r, u) = out) (ph_B D cy b A fl) A) args s 0 0 A) (F0 m 66 ls []) := by
  unfold F0_isRest_66 at f
  refine lv_aload_n S.1 S.2.1 dX0_isRest_66 rfl (lv_at hl 0 rfl) ?_
  obtain ⟨r1, e2, f⟩ := ob f
  refine o_gR S lf0_isRest_9 I e2 dX0_isRest_67 ?_
  refine lv_iconst (v := 5) S.1 S.2.1 dX0_isRest_70 (by decide) ?_
  refine lv_iload_n S.1 S.2.1 dX0_isRest_71 rfl (lv_at hl 3 rfl) ?_
  refine lv_iadd S.1 S.2.1 dX0_isRest_72 ?_
  obtain ⟨v4, e3, f⟩ := ob f
  refine o_iald S I e3 dX0_isRest_73 ?_
  refine lv_iconst (v := (-1)) S.1 S.2.1 dX0_isRest_74 (by decide) ?_
  refine lv_icmp_eq (tgt := 103) S.1 S.2.1 dX0_isRest_75 (by decide) (fun q5 => ?_) (fun q5 => ?_)
  · have f := (if_pos q5).symm.trans f
    refine lv_iinc (v := (x3 + 1)) (lv' := [(3, .int (x3 + 1)), (0, .ref (b + a0)), (1, .int x1), (2, .int x2)]) S.1 S.2.1 dX0_isRest_103 hl (k := 3) rfl (congrArg (fun z => x3 + z) (by decide)) (by decide) rfl (fun ls hl => ?_)
    refine lv_goto (tgt := 26) S.1 S.2.1 dX0_isRest_106 (by decide) ?_
    exact hk26 f _ _ I _ (lv_sub hl [1, 2, 3, 0] rfl)
  · have f := (if_neg q5).symm.trans f
    refine lv_aload_n S.1 S.2.1 dX0_isRest_78 rfl (lv_at hl 0 rfl) ?_
    obtain ⟨r6, e7, f⟩ := ob f
    refine o_gR S lf0_isRest_24 I e7 dX0_isRest_79 ?_
    refine lv_iload_n S.1 S.2.1 dX0_isRest_82 rfl (lv_at hl 1 rfl) ?_
    refine lv_iconst (v := 5) S.1 S.2.1 dX0_isRest_83 (by decide) ?_
    refine lv_imul S.1 S.2.1 dX0_isRest_84 ?_
    refine lv_iload_n S.1 S.2.1 dX0_isRest_85 rfl (lv_at hl 3 rfl) ?_
    refine lv_iadd S.1 S.2.1 dX0_isRest_86 ?_
    obtain ⟨v9, e8, f⟩ := ob f
    refine o_iald S I e8 dX0_isRest_87 ?_
    refine lv_aload_n S.1 S.2.1 dX0_isRest_88 rfl (lv_at hl 0 rfl) ?_
    obtain ⟨r10, e11, f⟩ := ob f
    refine o_gR S lf0_isRest_24 I e11 dX0_isRest_89 ?_
    refine lv_iload_n S.1 S.2.1 dX0_isRest_92 rfl (lv_at hl 1 rfl) ?_
    refine lv_iconst (v := 5) S.1 S.2.1 dX0_isRest_93 (by decide) ?_
    refine lv_imul S.1 S.2.1 dX0_isRest_94 ?_
    refine lv_iload_n S.1 S.2.1 dX0_isRest_95 rfl (lv_at hl 2 rfl) ?_
    refine lv_iadd S.1 S.2.1 dX0_isRest_96 ?_
    obtain ⟨v13, e12, f⟩ := ob f
    refine o_iald S I e12 dX0_isRest_97 ?_
    refine lv_icmp_le (tgt := 103) S.1 S.2.1 dX0_isRest_98 (by decide) (fun q14 => ?_) (fun q14 => ?_)
    · have f := (if_pos q14).symm.trans f
      refine lv_iinc (v := (x3 + 1)) (lv' := [(3, .int (x3 + 1)), (0, .ref (b + a0)), (1, .int x1), (2, .int x2)]) S.1 S.2.1 dX0_isRest_103 hl (k := 3) rfl (congrArg (fun z => x3 + z) (by decide)) (by decide) rfl (fun ls hl => ?_)
      refine lv_goto (tgt := 26) S.1 S.2.1 dX0_isRest_106 (by decide) ?_
      exact hk26 f _ _ I _ (lv_sub hl [1, 2, 3, 0] rfl)
    · have f := (if_neg q14).symm.trans f
      refine lv_iconst (v := 0) S.1 S.2.1 dX0_isRest_101 (by decide) ?_
      exact o_zret S hr hlo I f dX0_isRest_102
set_option maxHeartbeats 4000000 in
set_option maxRecDepth 100000 in
theorem T0_isRest_26 (S : CallFix p m c cX0_isRest 4 s args vX0_isRest RX0) (hr : meth.sig.returnType = (some .boolean)) (hlo : meth.locks = false) {out : Int32 × PH} : ∀ (n : Nat) {h : PH} {a0 : Nat} {x1 : Int32} {x2 : Int32} {x3 : Int32} (f : F0_isRest_26  n h a0 x1 x2 x3 = some out) {H : Heap} {locs : List Loc} (I : ph_I D cy b A fl h s H locs) {ls : Array Slot} (hl : lv_has ls 4 [(0, .ref (b + a0)), (1, .int x1), (2, .int x2), (3, .int x3)]), W p l e ({ frames := 0, cells := 0, slots := 0, locals := 0 } : Room) s m args below meth c H locs 0 0 (MQ below (va_Qi (fun (r : Int32) (u : PH) => (r, u) = out) (ph_B D cy b A fl) A) args s 0 0 A) (F0 m 26 ls []) := by
  intro n
  induction n with
  | zero => intro h a0 x1 x2 x3 f; rw [F0_isRest_26] at f; cases f
  | succ n ih =>
    intro h a0 x1 x2 x3 f H locs I ls hl
    rw [F0_isRest_26] at f
    refine lv_iload_n S.1 S.2.1 dX0_isRest_26 rfl (lv_at hl 3 rfl) ?_
    refine lv_iconst (v := 5) S.1 S.2.1 dX0_isRest_27 (by decide) ?_
    refine lv_icmp_ge (tgt := 109) S.1 S.2.1 dX0_isRest_28 (by decide) (fun q1 => ?_) (fun q1 => ?_)
    · have f := (if_pos q1).symm.trans f
      refine lv_iconst (v := 1) S.1 S.2.1 dX0_isRest_109 (by decide) ?_
      exact o_zret S hr hlo I f dX0_isRest_110
    · have f := (if_neg q1).symm.trans f
      refine lv_aload_n S.1 S.2.1 dX0_isRest_31 rfl (lv_at hl 0 rfl) ?_
      obtain ⟨r2, e3, f⟩ := ob f
      refine o_gR S lf0_isRest_9 I e3 dX0_isRest_32 ?_
      refine lv_iload_n S.1 S.2.1 dX0_isRest_35 rfl (lv_at hl 3 rfl) ?_
      obtain ⟨v5, e4, f⟩ := ob f
      refine o_iald S I e4 dX0_isRest_36 ?_
      refine lv_iconst (v := (-1)) S.1 S.2.1 dX0_isRest_37 (by decide) ?_
      refine lv_icmp_eq (tgt := 66) S.1 S.2.1 dX0_isRest_38 (by decide) (fun q6 => ?_) (fun q6 => ?_)
      · have f := (if_pos q6).symm.trans f
        exact T0_isRest_66 S hr hlo (fun f _ _ I _ hl => ih f I hl) f I (lv_sub hl [0, 1, 2, 3] rfl)
      · have f := (if_neg q6).symm.trans f
        refine lv_aload_n S.1 S.2.1 dX0_isRest_41 rfl (lv_at hl 0 rfl) ?_
        obtain ⟨r7, e8, f⟩ := ob f
        refine o_gR S lf0_isRest_21 I e8 dX0_isRest_42 ?_
        refine lv_iload_n S.1 S.2.1 dX0_isRest_45 rfl (lv_at hl 3 rfl) ?_
        refine lv_iconst (v := 5) S.1 S.2.1 dX0_isRest_46 (by decide) ?_
        refine lv_imul S.1 S.2.1 dX0_isRest_47 ?_
        refine lv_iload_n S.1 S.2.1 dX0_isRest_48 rfl (lv_at hl 2 rfl) ?_
        refine lv_iadd S.1 S.2.1 dX0_isRest_49 ?_
        obtain ⟨v10, e9, f⟩ := ob f
        refine o_iald S I e9 dX0_isRest_50 ?_
        refine lv_aload_n S.1 S.2.1 dX0_isRest_51 rfl (lv_at hl 0 rfl) ?_
        obtain ⟨r11, e12, f⟩ := ob f
        refine o_gR S lf0_isRest_21 I e12 dX0_isRest_52 ?_
        refine lv_iload_n S.1 S.2.1 dX0_isRest_55 rfl (lv_at hl 1 rfl) ?_
        refine lv_iconst (v := 5) S.1 S.2.1 dX0_isRest_56 (by decide) ?_
        refine lv_imul S.1 S.2.1 dX0_isRest_57 ?_
        refine lv_iload_n S.1 S.2.1 dX0_isRest_58 rfl (lv_at hl 2 rfl) ?_
        refine lv_iadd S.1 S.2.1 dX0_isRest_59 ?_
        obtain ⟨v14, e13, f⟩ := ob f
        refine o_iald S I e13 dX0_isRest_60 ?_
        refine lv_icmp_le (tgt := 66) S.1 S.2.1 dX0_isRest_61 (by decide) (fun q15 => ?_) (fun q15 => ?_)
        · have f := (if_pos q15).symm.trans f
          exact T0_isRest_66 S hr hlo (fun f _ _ I _ hl => ih f I hl) f I (lv_sub hl [0, 1, 2, 3] rfl)
        · have f := (if_neg q15).symm.trans f
          refine lv_iconst (v := 0) S.1 S.2.1 dX0_isRest_64 (by decide) ?_
          exact o_zret S hr hlo I f dX0_isRest_65
set_option maxHeartbeats 4000000 in
set_option maxRecDepth 100000 in
theorem T0_isRest_0 (S : CallFix p m c cX0_isRest 4 s args vX0_isRest RX0) (hr : meth.sig.returnType = (some .boolean)) (hlo : meth.locks = false) {out : Int32 × PH} {h : PH} {a0 : Nat} {x1 : Int32} {x2 : Int32} (f : F0_isRest_0  h a0 x1 x2 = some out) {H : Heap} {locs : List Loc} (I : ph_I D cy b A fl h s H locs) {ls : Array Slot} (hl : lv_has ls 4 [(0, .ref (b + a0)), (1, .int x1), (2, .int x2)]) : W p l e ({ frames := 0, cells := 0, slots := 0, locals := 0 } : Room) s m args below meth c H locs 0 0 (MQ below (va_Qi (fun (r : Int32) (u : PH) => (r, u) = out) (ph_B D cy b A fl) A) args s 0 0 A) (F0 m 0 ls []) := by
  unfold F0_isRest_0 at f
  refine lv_aload_n S.1 S.2.1 dX0_isRest_0 rfl (lv_at hl 0 rfl) ?_
  obtain ⟨r1, e2, f⟩ := ob f
  refine o_gR S lf0_isRest_9 I e2 dX0_isRest_1 ?_
  refine lv_iload_n S.1 S.2.1 dX0_isRest_4 rfl (lv_at hl 1 rfl) ?_
  obtain ⟨v4, e3, f⟩ := ob f
  refine o_iald S I e3 dX0_isRest_5 ?_
  refine lv_iconst (v := (-1)) S.1 S.2.1 dX0_isRest_6 (by decide) ?_
  refine lv_icmp_eq (tgt := 22) S.1 S.2.1 dX0_isRest_7 (by decide) (fun q5 => ?_) (fun q5 => ?_)
  · have f := (if_pos q5).symm.trans f
    refine lv_iconst (v := 0) S.1 S.2.1 dX0_isRest_22 (by decide) ?_
    exact o_zret S hr hlo I f dX0_isRest_23
  · have f := (if_neg q5).symm.trans f
    refine lv_aload_n S.1 S.2.1 dX0_isRest_10 rfl (lv_at hl 0 rfl) ?_
    obtain ⟨r6, e7, f⟩ := ob f
    refine o_gR S lf0_isRest_9 I e7 dX0_isRest_11 ?_
    refine lv_iconst (v := 5) S.1 S.2.1 dX0_isRest_14 (by decide) ?_
    refine lv_iload_n S.1 S.2.1 dX0_isRest_15 rfl (lv_at hl 2 rfl) ?_
    refine lv_iadd S.1 S.2.1 dX0_isRest_16 ?_
    obtain ⟨v9, e8, f⟩ := ob f
    refine o_iald S I e8 dX0_isRest_17 ?_
    refine lv_iconst (v := (-1)) S.1 S.2.1 dX0_isRest_18 (by decide) ?_
    refine lv_icmp_ne (tgt := 24) S.1 S.2.1 dX0_isRest_19 (by decide) (fun q10 => ?_) (fun q10 => ?_)
    · have f := (if_neg q10).symm.trans f
      refine lv_iconst (v := 0) S.1 S.2.1 dX0_isRest_24 (by decide) ?_
      refine lv_istore_n (lv' := [(3, .int 0), (0, .ref (b + a0)), (1, .int x1), (2, .int x2)]) S.1 S.2.1 dX0_isRest_25 rfl hl (by decide) rfl (fun ls hl => ?_)
      exact T0_isRest_26 S hr hlo  1024 f I (lv_sub hl [1, 2, 3, 0] rfl)
    · have f := (if_pos q10).symm.trans f
      refine lv_iconst (v := 0) S.1 S.2.1 dX0_isRest_22 (by decide) ?_
      exact o_zret S hr hlo I f dX0_isRest_23
theorem M0_isRest (l : Launch) (D : va_G) (cy : Nat → ClassId) (b : Nat) (A : Nat → Prop) (fl : Bool) {h : PH} {a0 : Nat} {x1 : Int32} {x2 : Int32} {out : Int32 × PH} (f : F0_isRest h a0 x1 x2 = some out) : Met l yX0_isRest vX0_isRest ({ frames := 0, cells := 0, slots := 0, locals := 0 } : Room) (va_Pc [.ref (b + a0), .int x1, .int x2] (ph_B D cy b A fl h)) (va_Qi (fun (r : Int32) (u : PH) => (r, u) = out) (ph_B D cy b A fl) A) 0 0 A :=
  o_met (by decide) rfl (Nat.le_of_ble_eq_true rfl) rfl (fun p e s m below meth c S hr hlo hnm ls hl I => T0_isRest_0 S hr hlo ((gd f).2) I (lv_sub hl [0, 1, 2] rfl))
def vX0_findRests : List Cond := .code yX0_findRests cX0_findRests 3 none :: TB
theorem gX0_findRests_X0_isRest : GoodIn vX0_findRests (wsV RX0 101 RX0 yX0_isRest vX0_isRest) := gV_of wT_52_0 wT_52_1 wT_52_2 wT_2_21 wT_52_3
theorem lf0_findRests_27 : Fl vX0_findRests RX0 27 0 5 := ⟨RX0, TX0, 13, rfl, by decide, (fun w h9 => List.mem_cons_of_mem _ (wC_wsX00 w h9)), (List.mem_cons_of_mem _ wT_9_12)⟩
theorem lf0_findRests_98 : Fl vX0_findRests RX0 98 0 6 := ⟨RX0, TX0, 13, rfl, by decide, (fun w h9 => List.mem_cons_of_mem _ (wC_wsX00 w h9)), (List.mem_cons_of_mem _ wT_51_23)⟩
theorem lp0_findRests_98 : Pl vX0_findRests RX0 98 0 6 .int := ⟨RX0, TX0, 13, tyX0, rfl, by decide, (fun w h9 => List.mem_cons_of_mem _ (wC_wsX00 w h9)), (List.mem_cons_of_mem _ wT_51_23), tyX0_ok, nmX0, rfl, rfl⟩
theorem cd0_findRests : Cd yX0_findRests 0 := ⟨by decide, by decide, by decide +kernel⟩
set_option maxHeartbeats 4000000 in
set_option maxRecDepth 100000 in
theorem T0_findRests_14 (S : CallFix p m c cX0_findRests 3 s args vX0_findRests RX0) (hr : meth.sig.returnType = none) (hlo : meth.locks = false) {out : PH} {k7 : PH → Nat → Int32 → Option (PH)} (hk7 : ∀ {h : PH} {a0 : Nat} {x1 : Int32}, k7 h a0 x1 = some out → ∀ (H : Heap) (locs : List Loc), ph_I D cy b A fl h s H locs → ∀ (ls : Array Slot), lv_has ls 3 [(0, .ref (b + a0)), (1, .int x1)] → W p l e ({ frames := 1, cells := 0, slots := 0, locals := 23 } : Room) s m args below meth c H locs 0 0 (MQ below (va_Qv (fun (u : PH) => u = out) (ph_B D cy b A fl) A) args s 0 0 A) (F0 m 7 ls [])) : ∀ (n : Nat) {h : PH} {a0 : Nat} {x1 : Int32} {x2 : Int32} (f : F0_findRests_14 k7 n h a0 x1 x2 = some out) {H : Heap} {locs : List Loc} (I : ph_I D cy b A fl h s H locs) {ls : Array Slot} (hl : lv_has ls 3 [(0, .ref (b + a0)), (1, .int x1), (2, .int x2)]), W p l e ({ frames := 1, cells := 0, slots := 0, locals := 23 } : Room) s m args below meth c H locs 0 0 (MQ below (va_Qv (fun (u : PH) => u = out) (ph_B D cy b A fl) A) args s 0 0 A) (F0 m 14 ls []) := by
  intro n
  induction n with
  | zero => intro h a0 x1 x2 f; rw [F0_findRests_14] at f; cases f
  | succ n ih =>
    intro h a0 x1 x2 f H locs I ls hl
    rw [F0_findRests_14] at f
    refine lv_iload_n S.1 S.2.1 dX0_findRests_14 rfl (lv_at hl 2 rfl) ?_
    refine lv_iconst (v := 5) S.1 S.2.1 dX0_findRests_15 (by decide) ?_
    refine lv_icmp_ge (tgt := 67) S.1 S.2.1 dX0_findRests_16 (by decide) (fun q1 => ?_) (fun q1 => ?_)
    · have f := (if_pos q1).symm.trans f
      refine lv_iinc (v := (x1 + 1)) (lv' := [(1, .int (x1 + 1)), (0, .ref (b + a0)), (2, .int x2)]) S.1 S.2.1 dX0_findRests_67 hl (k := 1) rfl (congrArg (fun z => x1 + z) (by decide)) (by decide) rfl (fun ls hl => ?_)
      refine lv_goto (tgt := 7) S.1 S.2.1 dX0_findRests_70 (by decide) ?_
      exact hk7 f _ _ I _ (lv_sub hl [1, 0] rfl)
    · have f := (if_neg q1).symm.trans f
      refine lv_aload_n S.1 S.2.1 dX0_findRests_19 rfl (lv_at hl 0 rfl) ?_
      refine lv_iload_n S.1 S.2.1 dX0_findRests_20 rfl (lv_at hl 1 rfl) ?_
      refine lv_iload_n S.1 S.2.1 dX0_findRests_21 rfl (lv_at hl 2 rfl) ?_
      obtain ⟨o2, e3, f⟩ := ob f
      refine o_Vi S (As := [.int x1, .int x2]) (rest := []) (ci := 0) (M0_isRest l D cy b A fl e3) gX0_findRests_X0_isRest rfl rfl rfl cd0_isRest ⟨Nat.le_of_ble_eq_true rfl, Nat.le_of_ble_eq_true rfl⟩ I (gd e3).1 clX0 rfl rfl hl.1 rfl (Nat.le_of_ble_eq_true rfl) dX0_findRests_22 ⟨Nat.le_of_ble_eq_true rfl, Nat.le_of_ble_eq_true rfl⟩ (fun H locs I => ?_)
      refine lv_if_eq (tgt := 61) S.1 S.2.1 dX0_findRests_25 (by decide) (fun q4 => ?_) (fun q4 => ?_)
      · have f := (if_pos q4).symm.trans f
        refine lv_iinc (v := (x2 + 1)) (lv' := [(2, .int (x2 + 1)), (0, .ref (b + a0)), (1, .int x1)]) S.1 S.2.1 dX0_findRests_61 hl (k := 2) rfl (congrArg (fun z => x2 + z) (by decide)) (by decide) rfl (fun ls hl => ?_)
        refine lv_goto (tgt := 14) S.1 S.2.1 dX0_findRests_64 (by decide) ?_
        exact ih f I (lv_sub hl [1, 2, 0] rfl)
      · have f := (if_neg q4).symm.trans f
        refine lv_aload_n S.1 S.2.1 dX0_findRests_28 rfl (lv_at hl 0 rfl) ?_
        obtain ⟨r5, e6, f⟩ := ob f
        refine o_gR S lf0_findRests_27 I e6 dX0_findRests_29 ?_
        refine lv_aload_n S.1 S.2.1 dX0_findRests_32 rfl (lv_at hl 0 rfl) ?_
        obtain ⟨v7, e8, f⟩ := ob f
        refine o_gI S lf0_findRests_98 I e8 dX0_findRests_33 ?_
        refine lv_bipush (v := 10) S.1 S.2.1 dX0_findRests_36 (by decide) ?_
        refine o_gws S I dX0_findRests_38 (fun g9 z10 => ?_)
        refine lv_iload_n S.1 S.2.1 dX0_findRests_41 rfl (lv_at hl 1 rfl) ?_
        obtain ⟨v12, e11, f⟩ := ob f
        refine o_gwald S I z10 e11 dX0_findRests_42 ?_
        refine lv_imul S.1 S.2.1 dX0_findRests_43 ?_
        refine o_gws S I dX0_findRests_44 (fun g13 z14 => ?_)
        refine lv_iload_n S.1 S.2.1 dX0_findRests_47 rfl (lv_at hl 2 rfl) ?_
        obtain ⟨v16, e15, f⟩ := ob f
        refine o_gwald S I z14 e15 dX0_findRests_48 ?_
        refine lv_iadd S.1 S.2.1 dX0_findRests_49 ?_
        obtain ⟨h18, e17, f⟩ := ob f
        refine o_iast S I e17 dX0_findRests_50 (fun H locs I => ?_)
        refine lv_aload_n S.1 S.2.1 dX0_findRests_51 rfl (lv_at hl 0 rfl) ?_
        refine lv_dup S.1 S.2.1 dX0_findRests_52 rfl ?_
        obtain ⟨v19, e20, f⟩ := ob f
        refine o_gI S lf0_findRests_98 I e20 dX0_findRests_53 ?_
        refine lv_iconst (v := 1) S.1 S.2.1 dX0_findRests_56 (by decide) ?_
        refine lv_iadd S.1 S.2.1 dX0_findRests_57 ?_
        obtain ⟨h21, e22, f⟩ := ob f
        refine o_pI S lp0_findRests_98 I e22 dX0_findRests_58 (fun H locs I => ?_)
        refine lv_iinc (v := (x2 + 1)) (lv' := [(2, .int (x2 + 1)), (0, .ref (b + a0)), (1, .int x1)]) S.1 S.2.1 dX0_findRests_61 hl (k := 2) rfl (congrArg (fun z => x2 + z) (by decide)) (by decide) rfl (fun ls hl => ?_)
        refine lv_goto (tgt := 14) S.1 S.2.1 dX0_findRests_64 (by decide) ?_
        exact ih f I (lv_sub hl [1, 2, 0] rfl)
set_option maxHeartbeats 4000000 in
set_option maxRecDepth 100000 in
theorem T0_findRests_7 (S : CallFix p m c cX0_findRests 3 s args vX0_findRests RX0) (hr : meth.sig.returnType = none) (hlo : meth.locks = false) {out : PH} : ∀ (n : Nat) {h : PH} {a0 : Nat} {x1 : Int32} (f : F0_findRests_7  n h a0 x1 = some out) {H : Heap} {locs : List Loc} (I : ph_I D cy b A fl h s H locs) {ls : Array Slot} (hl : lv_has ls 3 [(0, .ref (b + a0)), (1, .int x1)]), W p l e ({ frames := 1, cells := 0, slots := 0, locals := 23 } : Room) s m args below meth c H locs 0 0 (MQ below (va_Qv (fun (u : PH) => u = out) (ph_B D cy b A fl) A) args s 0 0 A) (F0 m 7 ls []) := by
  intro n
  induction n with
  | zero => intro h a0 x1 f; rw [F0_findRests_7] at f; cases f
  | succ n ih =>
    intro h a0 x1 f H locs I ls hl
    rw [F0_findRests_7] at f
    refine lv_iload_n S.1 S.2.1 dX0_findRests_7 rfl (lv_at hl 1 rfl) ?_
    refine lv_iconst (v := 5) S.1 S.2.1 dX0_findRests_8 (by decide) ?_
    refine lv_icmp_ge (tgt := 73) S.1 S.2.1 dX0_findRests_9 (by decide) (fun q1 => ?_) (fun q1 => ?_)
    · have f := (if_pos q1).symm.trans f
      exact o_vret S hr hlo I f dX0_findRests_73
    · have f := (if_neg q1).symm.trans f
      refine lv_iconst (v := 0) S.1 S.2.1 dX0_findRests_12 (by decide) ?_
      refine lv_istore_n (lv' := [(2, .int 0), (0, .ref (b + a0)), (1, .int x1)]) S.1 S.2.1 dX0_findRests_13 rfl hl (by decide) rfl (fun ls hl => ?_)
      exact T0_findRests_14 S hr hlo (fun f _ _ I _ hl => ih f I hl) 1024 f I (lv_sub hl [1, 2, 0] rfl)
set_option maxHeartbeats 4000000 in
set_option maxRecDepth 100000 in
theorem T0_findRests_0 (S : CallFix p m c cX0_findRests 3 s args vX0_findRests RX0) (hr : meth.sig.returnType = none) (hlo : meth.locks = false) {out : PH} {h : PH} {a0 : Nat} (f : F0_findRests_0  h a0 = some out) {H : Heap} {locs : List Loc} (I : ph_I D cy b A fl h s H locs) {ls : Array Slot} (hl : lv_has ls 3 [(0, .ref (b + a0))]) : W p l e ({ frames := 1, cells := 0, slots := 0, locals := 23 } : Room) s m args below meth c H locs 0 0 (MQ below (va_Qv (fun (u : PH) => u = out) (ph_B D cy b A fl) A) args s 0 0 A) (F0 m 0 ls []) := by
  unfold F0_findRests_0 at f
  refine lv_aload_n S.1 S.2.1 dX0_findRests_0 rfl (lv_at hl 0 rfl) ?_
  refine lv_iconst (v := 0) S.1 S.2.1 dX0_findRests_1 (by decide) ?_
  obtain ⟨h1, e2, f⟩ := ob f
  refine o_pI S lp0_findRests_98 I e2 dX0_findRests_2 (fun H locs I => ?_)
  refine lv_iconst (v := 0) S.1 S.2.1 dX0_findRests_5 (by decide) ?_
  refine lv_istore_n (lv' := [(1, .int 0), (0, .ref (b + a0))]) S.1 S.2.1 dX0_findRests_6 rfl hl (by decide) rfl (fun ls hl => ?_)
  exact T0_findRests_7 S hr hlo  1024 f I (lv_sub hl [1, 0] rfl)
theorem M0_findRests (l : Launch) (D : va_G) (cy : Nat → ClassId) (b : Nat) (A : Nat → Prop) (fl : Bool) {h : PH} {a0 : Nat} {out : PH} (f : F0_findRests h a0 = some out) : Met l yX0_findRests vX0_findRests ({ frames := 1, cells := 0, slots := 0, locals := 23 } : Room) (va_Pc [.ref (b + a0)] (ph_B D cy b A fl h)) (va_Qv (fun (u : PH) => u = out) (ph_B D cy b A fl) A) 0 0 A :=
  o_met (by decide) rfl (Nat.le_of_ble_eq_true rfl) rfl (fun p e s m below meth c S hr hlo hnm ls hl I => T0_findRests_0 S hr hlo ((gd f).2) I (lv_sub hl [0] rfl))
def vX0_listPlan : List Cond := .code yX0_listPlan cX0_listPlan 5 none :: TB
theorem lf0_listPlan_36 : Fl vX0_listPlan RX0 36 0 9 := ⟨RX0, TX0, 13, rfl, by decide, (fun w h9 => List.mem_cons_of_mem _ (wC_wsX00 w h9)), (List.mem_cons_of_mem _ wT_9_15)⟩
theorem lf0_listPlan_40 : Fl vX0_listPlan RX0 40 0 10 := ⟨RX0, TX0, 13, rfl, by decide, (fun w h9 => List.mem_cons_of_mem _ (wC_wsX00 w h9)), (List.mem_cons_of_mem _ wT_9_16)⟩
theorem lf0_listPlan_122 : Fl vX0_listPlan RX0 122 0 11 := ⟨RX0, TX0, 13, rfl, by decide, (fun w h9 => List.mem_cons_of_mem _ (wC_wsX00 w h9)), (List.mem_cons_of_mem _ wT_55_2)⟩
theorem lp0_listPlan_122 : Pl vX0_listPlan RX0 122 0 11 .int := ⟨RX0, TX0, 13, tyX0, rfl, by decide, (fun w h9 => List.mem_cons_of_mem _ (wC_wsX00 w h9)), (List.mem_cons_of_mem _ wT_55_2), tyX0_ok, nmX0, rfl, rfl⟩
theorem lf0_listPlan_33 : Fl vX0_listPlan RX0 33 0 8 := ⟨RX0, TX0, 13, rfl, by decide, (fun w h9 => List.mem_cons_of_mem _ (wC_wsX00 w h9)), (List.mem_cons_of_mem _ wT_9_14)⟩
theorem cd0_listPlan : Cd yX0_listPlan 2 := ⟨by decide, by decide, by decide +kernel⟩
set_option maxHeartbeats 4000000 in
set_option maxRecDepth 100000 in
theorem T0_listPlan_10 (S : CallFix p m c cX0_listPlan 5 s args vX0_listPlan RX0) (hr : meth.sig.returnType = none) (hlo : meth.locks = false) {out : PH} : ∀ (n : Nat) {h : PH} {a0 : Nat} {x2 : Int32} {x3 : Int32} {x4 : Int32} (f : F0_listPlan_10  n h a0 x2 x3 x4 = some out) {H : Heap} {locs : List Loc} (I : ph_I D cy b A fl h s H locs) {ls : Array Slot} (hl : lv_has ls 5 [(0, .ref (b + a0)), (2, .int x2), (3, .int x3), (4, .int x4)]), W p l e ({ frames := 0, cells := 0, slots := 0, locals := 0 } : Room) s m args below meth c H locs 0 0 (MQ below (va_Qv (fun (u : PH) => u = out) (ph_B D cy b A fl) A) args s 0 0 A) (F0 m 10 ls []) := by
  intro n
  induction n with
  | zero => intro h a0 x2 x3 x4 f; rw [F0_listPlan_10] at f; cases f
  | succ n ih =>
    intro h a0 x2 x3 x4 f H locs I ls hl
    rw [F0_listPlan_10] at f
    refine lv_iload S.1 S.2.1 dX0_listPlan_10 (lv_at hl 3 rfl) ?_
    refine lv_iload_n S.1 S.2.1 dX0_listPlan_12 rfl (lv_at hl 1 rfl) ?_
    refine lv_icmp_ge (tgt := 67) S.1 S.2.1 dX0_listPlan_13 (by decide) (fun q1 => ?_) (fun q1 => ?_)
    · have f := (if_pos q1).symm.trans f
      exact o_vret S hr hlo I f dX0_listPlan_67
    · have f := (if_neg q1).symm.trans f
      refine lv_iload S.1 S.2.1 dX0_listPlan_16 (lv_at hl 3 rfl) ?_
      refine lv_iload_n S.1 S.2.1 dX0_listPlan_18 rfl (lv_at hl 2 rfl) ?_
      refine lv_icmp_lt (tgt := 61) S.1 S.2.1 dX0_listPlan_19 (by decide) (fun q2 => ?_) (fun q2 => ?_)
      · have f := (if_pos q2).symm.trans f
        refine lv_iinc (v := (x4 + 1)) (lv' := [(4, .int (x4 + 1)), (0, .ref (b + a0)), (2, .int x2), (3, .int x3)]) S.1 S.2.1 dX0_listPlan_61 hl (k := 3) rfl (congrArg (fun z => x4 + z) (by decide)) (by decide) rfl (fun ls hl => ?_)
        refine lv_goto (tgt := 10) S.1 S.2.1 dX0_listPlan_64 (by decide) ?_
        exact ih f I (lv_sub hl [1, 2, 3, 0] rfl)
      · have f := (if_neg q2).symm.trans f
        refine lv_aload_n S.1 S.2.1 dX0_listPlan_22 rfl (lv_at hl 0 rfl) ?_
        obtain ⟨r3, e4, f⟩ := ob f
        refine o_gR S lf0_listPlan_36 I e4 dX0_listPlan_23 ?_
        refine lv_iload S.1 S.2.1 dX0_listPlan_26 (lv_at hl 3 rfl) ?_
        obtain ⟨v6, e5, f⟩ := ob f
        refine o_zald S I e5 dX0_listPlan_28 ?_
        refine lv_if_eq (tgt := 61) S.1 S.2.1 dX0_listPlan_29 (by decide) (fun q7 => ?_) (fun q7 => ?_)
        · have f := (if_pos q7).symm.trans f
          refine lv_iinc (v := (x4 + 1)) (lv' := [(4, .int (x4 + 1)), (0, .ref (b + a0)), (2, .int x2), (3, .int x3)]) S.1 S.2.1 dX0_listPlan_61 hl (k := 3) rfl (congrArg (fun z => x4 + z) (by decide)) (by decide) rfl (fun ls hl => ?_)
          refine lv_goto (tgt := 10) S.1 S.2.1 dX0_listPlan_64 (by decide) ?_
          exact ih f I (lv_sub hl [1, 2, 3, 0] rfl)
        · have f := (if_neg q7).symm.trans f
          refine lv_aload_n S.1 S.2.1 dX0_listPlan_32 rfl (lv_at hl 0 rfl) ?_
          obtain ⟨r8, e9, f⟩ := ob f
          refine o_gR S lf0_listPlan_40 I e9 dX0_listPlan_33 ?_
          refine lv_aload_n S.1 S.2.1 dX0_listPlan_36 rfl (lv_at hl 0 rfl) ?_
          obtain ⟨v10, e11, f⟩ := ob f
          refine o_gI S lf0_listPlan_122 I e11 dX0_listPlan_37 ?_
          refine lv_iload S.1 S.2.1 dX0_listPlan_40 (lv_at hl 3 rfl) ?_
          obtain ⟨h13, e12, f⟩ := ob f
          refine o_iast S I e12 dX0_listPlan_42 (fun H locs I => ?_)
          refine lv_aload_n S.1 S.2.1 dX0_listPlan_43 rfl (lv_at hl 0 rfl) ?_
          refine lv_dup S.1 S.2.1 dX0_listPlan_44 rfl ?_
          obtain ⟨v14, e15, f⟩ := ob f
          refine o_gI S lf0_listPlan_122 I e15 dX0_listPlan_45 ?_
          refine lv_iconst (v := 1) S.1 S.2.1 dX0_listPlan_48 (by decide) ?_
          refine lv_iadd S.1 S.2.1 dX0_listPlan_49 ?_
          obtain ⟨h16, e17, f⟩ := ob f
          refine o_pI S lp0_listPlan_122 I e17 dX0_listPlan_50 (fun H locs I => ?_)
          refine lv_aload_n S.1 S.2.1 dX0_listPlan_53 rfl (lv_at hl 0 rfl) ?_
          obtain ⟨r18, e19, f⟩ := ob f
          refine o_gR S lf0_listPlan_33 I e19 dX0_listPlan_54 ?_
          refine lv_iload S.1 S.2.1 dX0_listPlan_57 (lv_at hl 3 rfl) ?_
          obtain ⟨v21, e20, f⟩ := ob f
          refine o_iald S I e20 dX0_listPlan_59 ?_
          refine lv_istore_n (lv' := [(3, .int v21), (0, .ref (b + a0)), (2, .int x2), (4, .int x4)]) S.1 S.2.1 dX0_listPlan_60 rfl hl (by decide) rfl (fun ls hl => ?_)
          refine lv_iinc (v := (x4 + 1)) (lv' := [(4, .int (x4 + 1)), (3, .int v21), (0, .ref (b + a0)), (2, .int x2)]) S.1 S.2.1 dX0_listPlan_61 hl (k := 3) rfl (congrArg (fun z => x4 + z) (by decide)) (by decide) rfl (fun ls hl => ?_)
          refine lv_goto (tgt := 10) S.1 S.2.1 dX0_listPlan_64 (by decide) ?_
          exact ih f I (lv_sub hl [2, 3, 1, 0] rfl)
set_option maxHeartbeats 4000000 in
set_option maxRecDepth 100000 in
theorem T0_listPlan_0 (S : CallFix p m c cX0_listPlan 5 s args vX0_listPlan RX0) (hr : meth.sig.returnType = none) (hlo : meth.locks = false) {out : PH} {h : PH} {a0 : Nat} {x1 : Int32} {x2 : Int32} (f : F0_listPlan_0  h a0 x1 x2 = some out) {H : Heap} {locs : List Loc} (I : ph_I D cy b A fl h s H locs) {ls : Array Slot} (hl : lv_has ls 5 [(0, .ref (b + a0)), (1, .int x1), (2, .int x2)]) : W p l e ({ frames := 0, cells := 0, slots := 0, locals := 0 } : Room) s m args below meth c H locs 0 0 (MQ below (va_Qv (fun (u : PH) => u = out) (ph_B D cy b A fl) A) args s 0 0 A) (F0 m 0 ls []) := by
  unfold F0_listPlan_0 at f
  refine lv_aload_n S.1 S.2.1 dX0_listPlan_0 rfl (lv_at hl 0 rfl) ?_
  refine lv_iconst (v := 0) S.1 S.2.1 dX0_listPlan_1 (by decide) ?_
  obtain ⟨h1, e2, f⟩ := ob f
  refine o_pI S lp0_listPlan_122 I e2 dX0_listPlan_2 (fun H locs I => ?_)
  refine lv_iload_n S.1 S.2.1 dX0_listPlan_5 rfl (lv_at hl 1 rfl) ?_
  refine lv_istore_n (lv' := [(3, .int x1), (0, .ref (b + a0)), (1, .int x1), (2, .int x2)]) S.1 S.2.1 dX0_listPlan_6 rfl hl (by decide) rfl (fun ls hl => ?_)
  refine lv_iload_n S.1 S.2.1 dX0_listPlan_7 rfl (lv_at hl 2 rfl) ?_
  refine lv_istore (lv' := [(4, .int x1), (3, .int x1), (0, .ref (b + a0)), (1, .int x1), (2, .int x2)]) S.1 S.2.1 dX0_listPlan_8 hl (by decide) rfl (fun ls hl => ?_)
  exact T0_listPlan_10 S hr hlo  1024 f I (lv_sub hl [2, 4, 1, 0] rfl)
theorem M0_listPlan (l : Launch) (D : va_G) (cy : Nat → ClassId) (b : Nat) (A : Nat → Prop) (fl : Bool) {h : PH} {a0 : Nat} {x1 : Int32} {x2 : Int32} {out : PH} (f : F0_listPlan h a0 x1 x2 = some out) : Met l yX0_listPlan vX0_listPlan ({ frames := 0, cells := 0, slots := 0, locals := 0 } : Room) (va_Pc [.ref (b + a0), .int x1, .int x2] (ph_B D cy b A fl h)) (va_Qv (fun (u : PH) => u = out) (ph_B D cy b A fl) A) 0 0 A :=
  o_met (by decide) rfl (Nat.le_of_ble_eq_true rfl) rfl (fun p e s m below meth c S hr hlo hnm ls hl I => T0_listPlan_0 S hr hlo ((gd f).2) I (lv_sub hl [0, 1, 2] rfl))
def vX10_firstFrom : List Cond := .code yX10_firstFrom cX10_firstFrom 3 (some .int) :: TB
theorem lf10_firstFrom_34 : Fl vX10_firstFrom RX10 34 10 1 := ⟨RX10, TX10, 8, rfl, by decide, (fun w h9 => List.mem_cons_of_mem _ (wC_wsX100 w h9)), (List.mem_cons_of_mem _ wT_15_4)⟩
theorem lf10_firstFrom_18 : Fl vX10_firstFrom RX10 18 10 4 := ⟨RX10, TX10, 8, rfl, by decide, (fun w h9 => List.mem_cons_of_mem _ (wC_wsX100 w h9)), (List.mem_cons_of_mem _ wT_4_10)⟩
theorem cd10_firstFrom : Cd yX10_firstFrom 1 := ⟨by decide, by decide, by decide +kernel⟩
set_option maxHeartbeats 4000000 in
set_option maxRecDepth 100000 in
theorem T10_firstFrom_2 (S : CallFix p m c cX10_firstFrom 3 s args vX10_firstFrom RX10) (hr : meth.sig.returnType = (some .int)) (hlo : meth.locks = false) {out : Int32 × PH} : ∀ (n : Nat) {h : PH} {a0 : Nat} {x1 : Int32} {x2 : Int32} (f : F10_firstFrom_2  n h a0 x1 x2 = some out) {H : Heap} {locs : List Loc} (I : ph_I D cy b A fl h s H locs) {ls : Array Slot} (hl : lv_has ls 3 [(0, .ref (b + a0)), (1, .int x1), (2, .int x2)]), W p l e ({ frames := 0, cells := 0, slots := 0, locals := 0 } : Room) s m args below meth c H locs 0 0 (MQ below (va_Qi (fun (r : Int32) (u : PH) => (r, u) = out) (ph_B D cy b A fl) A) args s 0 0 A) (F0 m 2 ls []) := by
  intro n
  induction n with
  | zero => intro h a0 x1 x2 f; rw [F10_firstFrom_2] at f; cases f
  | succ n ih =>
    intro h a0 x1 x2 f H locs I ls hl
    rw [F10_firstFrom_2] at f
    refine lv_iload_n S.1 S.2.1 dX10_firstFrom_2 rfl (lv_at hl 2 rfl) ?_
    refine lv_aload_n S.1 S.2.1 dX10_firstFrom_3 rfl (lv_at hl 0 rfl) ?_
    obtain ⟨v1, e2, f⟩ := ob f
    refine o_gI S lf10_firstFrom_34 I e2 dX10_firstFrom_4 ?_
    refine lv_icmp_ge (tgt := 28) S.1 S.2.1 dX10_firstFrom_7 (by decide) (fun q3 => ?_) (fun q3 => ?_)
    · have f := (if_pos q3).symm.trans f
      refine lv_aload_n S.1 S.2.1 dX10_firstFrom_28 rfl (lv_at hl 0 rfl) ?_
      obtain ⟨v4, e5, f⟩ := ob f
      refine o_gI S lf10_firstFrom_34 I e5 dX10_firstFrom_29 ?_
      exact o_iret S hr hlo I f dX10_firstFrom_32
    · have f := (if_neg q3).symm.trans f
      refine lv_aload_n S.1 S.2.1 dX10_firstFrom_10 rfl (lv_at hl 0 rfl) ?_
      obtain ⟨r6, e7, f⟩ := ob f
      refine o_gR S lf10_firstFrom_18 I e7 dX10_firstFrom_11 ?_
      refine lv_iload_n S.1 S.2.1 dX10_firstFrom_14 rfl (lv_at hl 2 rfl) ?_
      obtain ⟨v9, e8, f⟩ := ob f
      refine o_iald S I e8 dX10_firstFrom_15 ?_
      refine lv_iload_n S.1 S.2.1 dX10_firstFrom_16 rfl (lv_at hl 1 rfl) ?_
      refine lv_icmp_lt (tgt := 22) S.1 S.2.1 dX10_firstFrom_17 (by decide) (fun q10 => ?_) (fun q10 => ?_)
      · have f := (if_pos q10).symm.trans f
        refine lv_iinc (v := (x2 + 1)) (lv' := [(2, .int (x2 + 1)), (0, .ref (b + a0)), (1, .int x1)]) S.1 S.2.1 dX10_firstFrom_22 hl (k := 2) rfl (congrArg (fun z => x2 + z) (by decide)) (by decide) rfl (fun ls hl => ?_)
        refine lv_goto (tgt := 2) S.1 S.2.1 dX10_firstFrom_25 (by decide) ?_
        exact ih f I (lv_sub hl [1, 2, 0] rfl)
      · have f := (if_neg q10).symm.trans f
        refine lv_iload_n S.1 S.2.1 dX10_firstFrom_20 rfl (lv_at hl 2 rfl) ?_
        exact o_iret S hr hlo I f dX10_firstFrom_21
set_option maxHeartbeats 4000000 in
set_option maxRecDepth 100000 in
theorem T10_firstFrom_0 (S : CallFix p m c cX10_firstFrom 3 s args vX10_firstFrom RX10) (hr : meth.sig.returnType = (some .int)) (hlo : meth.locks = false) {out : Int32 × PH} {h : PH} {a0 : Nat} {x1 : Int32} (f : F10_firstFrom_0  h a0 x1 = some out) {H : Heap} {locs : List Loc} (I : ph_I D cy b A fl h s H locs) {ls : Array Slot} (hl : lv_has ls 3 [(0, .ref (b + a0)), (1, .int x1)]) : W p l e ({ frames := 0, cells := 0, slots := 0, locals := 0 } : Room) s m args below meth c H locs 0 0 (MQ below (va_Qi (fun (r : Int32) (u : PH) => (r, u) = out) (ph_B D cy b A fl) A) args s 0 0 A) (F0 m 0 ls []) := by
  unfold F10_firstFrom_0 at f
  refine lv_iconst (v := 0) S.1 S.2.1 dX10_firstFrom_0 (by decide) ?_
  refine lv_istore_n (lv' := [(2, .int 0), (0, .ref (b + a0)), (1, .int x1)]) S.1 S.2.1 dX10_firstFrom_1 rfl hl (by decide) rfl (fun ls hl => ?_)
  exact T10_firstFrom_2 S hr hlo  1024 f I (lv_sub hl [1, 2, 0] rfl)
theorem M10_firstFrom (l : Launch) (D : va_G) (cy : Nat → ClassId) (b : Nat) (A : Nat → Prop) (fl : Bool) {h : PH} {a0 : Nat} {x1 : Int32} {out : Int32 × PH} (f : F10_firstFrom h a0 x1 = some out) : Met l yX10_firstFrom vX10_firstFrom ({ frames := 0, cells := 0, slots := 0, locals := 0 } : Room) (va_Pc [.ref (b + a0), .int x1] (ph_B D cy b A fl h)) (va_Qi (fun (r : Int32) (u : PH) => (r, u) = out) (ph_B D cy b A fl) A) 0 0 A :=
  o_met (by decide) rfl (Nat.le_of_ble_eq_true rfl) rfl (fun p e s m below meth c S hr hlo hnm ls hl I => T10_firstFrom_0 S hr hlo ((gd f).2) I (lv_sub hl [0, 1] rfl))
def vX6_nameAway : List Cond := .code yX6_nameAway cX6_nameAway 3 none :: TB
theorem lf6_nameAway_25 : Fl vX6_nameAway RX6 25 6 4 := ⟨RX6, TX6, 9, rfl, by decide, (fun w h9 => List.mem_cons_of_mem _ (wC_wsX60 w h9)), (List.mem_cons_of_mem _ wT_7_19)⟩
theorem lf6_nameAway_15 : Fl vX6_nameAway RX6 15 6 1 := ⟨RX6, TX6, 9, rfl, by decide, (fun w h9 => List.mem_cons_of_mem _ (wC_wsX60 w h9)), (List.mem_cons_of_mem _ wT_7_16)⟩
theorem lf6_nameAway_9 : Fl vX6_nameAway RX6 9 6 0 := ⟨RX6, TX6, 9, rfl, by decide, (fun w h9 => List.mem_cons_of_mem _ (wC_wsX60 w h9)), (List.mem_cons_of_mem _ wT_7_15)⟩
theorem lf6_nameAway_57 : Fl vX6_nameAway RX6 57 8 5 := ⟨RX8, TX8, 14, rfl, by decide, (fun w h9 => List.mem_cons_of_mem _ (wC_wsX80 w h9)), (List.mem_cons_of_mem _ wT_24_9)⟩
theorem lf6_nameAway_112 : Fl vX6_nameAway RX6 112 10 5 := ⟨RX10, TX10, 8, rfl, by decide, (fun w h9 => List.mem_cons_of_mem _ (wC_wsX100 w h9)), (List.mem_cons_of_mem _ wT_39_2)⟩
theorem lf6_nameAway_67 : Fl vX6_nameAway RX6 67 10 4 := ⟨RX10, TX10, 8, rfl, by decide, (fun w h9 => List.mem_cons_of_mem _ (wC_wsX100 w h9)), (List.mem_cons_of_mem _ wT_24_11)⟩
theorem lf6_nameAway_115 : Fl vX6_nameAway RX6 115 10 7 := ⟨RX10, TX10, 8, rfl, by decide, (fun w h9 => List.mem_cons_of_mem _ (wC_wsX100 w h9)), (List.mem_cons_of_mem _ wT_39_3)⟩
theorem cd6_nameAway : Cd yX6_nameAway 2 := ⟨by decide, by decide, by decide +kernel⟩
set_option maxHeartbeats 4000000 in
set_option maxRecDepth 100000 in
theorem T6_nameAway_0 (S : CallFix p m c cX6_nameAway 3 s args vX6_nameAway RX6) (hr : meth.sig.returnType = none) (hlo : meth.locks = false) {out : PH} {h : PH} {a0 : Nat} {x1 : Int32} {x2 : Int32} (f : F6_nameAway_0  h a0 x1 x2 = some out) {H : Heap} {locs : List Loc} (I : ph_I D cy b A fl h s H locs) {ls : Array Slot} (hl : lv_has ls 3 [(0, .ref (b + a0)), (1, .int x1), (2, .int x2)]) : W p l e ({ frames := 0, cells := 0, slots := 0, locals := 0 } : Room) s m args below meth c H locs 0 0 (MQ below (va_Qv (fun (u : PH) => u = out) (ph_B D cy b A fl) A) args s 0 0 A) (F0 m 0 ls []) := by
  unfold F6_nameAway_0 at f
  refine lv_aload_n S.1 S.2.1 dX6_nameAway_0 rfl (lv_at hl 0 rfl) ?_
  obtain ⟨r1, e2, f⟩ := ob f
  refine o_gR S lf6_nameAway_25 I e2 dX6_nameAway_1 ?_
  refine lv_iconst (v := 0) S.1 S.2.1 dX6_nameAway_4 (by decide) ?_
  refine lv_lconst (v := 0) S.1 S.2.1 dX6_nameAway_5 (by decide) ?_
  obtain ⟨h4, e3, f⟩ := ob f
  refine o_last S I e3 dX6_nameAway_6 (fun H locs I => ?_)
  refine lv_aload_n S.1 S.2.1 dX6_nameAway_7 rfl (lv_at hl 0 rfl) ?_
  obtain ⟨r5, e6, f⟩ := ob f
  refine o_gR S lf6_nameAway_25 I e6 dX6_nameAway_8 ?_
  refine lv_iconst (v := 1) S.1 S.2.1 dX6_nameAway_11 (by decide) ?_
  refine lv_lconst (v := 0) S.1 S.2.1 dX6_nameAway_12 (by decide) ?_
  obtain ⟨h8, e7, f⟩ := ob f
  refine o_last S I e7 dX6_nameAway_13 (fun H locs I => ?_)
  refine lv_aload_n S.1 S.2.1 dX6_nameAway_14 rfl (lv_at hl 0 rfl) ?_
  obtain ⟨r9, e10, f⟩ := ob f
  refine o_gR S lf6_nameAway_25 I e10 dX6_nameAway_15 ?_
  refine lv_iconst (v := 2) S.1 S.2.1 dX6_nameAway_18 (by decide) ?_
  refine lv_aload_n S.1 S.2.1 dX6_nameAway_19 rfl (lv_at hl 0 rfl) ?_
  obtain ⟨r11, e12, f⟩ := ob f
  refine o_gR S lf6_nameAway_15 I e12 dX6_nameAway_20 ?_
  refine lv_iload_n S.1 S.2.1 dX6_nameAway_23 rfl (lv_at hl 1 rfl) ?_
  obtain ⟨v14, e13, f⟩ := ob f
  refine o_iald S I e13 dX6_nameAway_24 ?_
  refine lv_i2l (v := Int32.toInt64 v14) S.1 S.2.1 dX6_nameAway_25 rfl ?_
  obtain ⟨h16, e15, f⟩ := ob f
  refine o_last S I e15 dX6_nameAway_26 (fun H locs I => ?_)
  refine lv_aload_n S.1 S.2.1 dX6_nameAway_27 rfl (lv_at hl 0 rfl) ?_
  obtain ⟨r17, e18, f⟩ := ob f
  refine o_gR S lf6_nameAway_25 I e18 dX6_nameAway_28 ?_
  refine lv_iconst (v := 3) S.1 S.2.1 dX6_nameAway_31 (by decide) ?_
  refine lv_aload_n S.1 S.2.1 dX6_nameAway_32 rfl (lv_at hl 0 rfl) ?_
  obtain ⟨r19, e20, f⟩ := ob f
  refine o_gR S lf6_nameAway_9 I e20 dX6_nameAway_33 ?_
  obtain ⟨r21, e22, f⟩ := ob f
  refine o_gR S lf6_nameAway_57 I e22 dX6_nameAway_36 ?_
  obtain ⟨r23, e24, f⟩ := ob f
  refine o_gR S lf6_nameAway_112 I e24 dX6_nameAway_39 ?_
  refine lv_iload_n S.1 S.2.1 dX6_nameAway_42 rfl (lv_at hl 2 rfl) ?_
  obtain ⟨v26, e25, f⟩ := ob f
  refine o_iald S I e25 dX6_nameAway_43 ?_
  refine lv_i2l (v := Int32.toInt64 v26) S.1 S.2.1 dX6_nameAway_44 rfl ?_
  obtain ⟨h28, e27, f⟩ := ob f
  refine o_last S I e27 dX6_nameAway_45 (fun H locs I => ?_)
  refine lv_aload_n S.1 S.2.1 dX6_nameAway_46 rfl (lv_at hl 0 rfl) ?_
  obtain ⟨r29, e30, f⟩ := ob f
  refine o_gR S lf6_nameAway_25 I e30 dX6_nameAway_47 ?_
  refine lv_iconst (v := 4) S.1 S.2.1 dX6_nameAway_50 (by decide) ?_
  refine lv_aload_n S.1 S.2.1 dX6_nameAway_51 rfl (lv_at hl 0 rfl) ?_
  obtain ⟨r31, e32, f⟩ := ob f
  refine o_gR S lf6_nameAway_9 I e32 dX6_nameAway_52 ?_
  obtain ⟨r33, e34, f⟩ := ob f
  refine o_gR S lf6_nameAway_57 I e34 dX6_nameAway_55 ?_
  obtain ⟨r35, e36, f⟩ := ob f
  refine o_gR S lf6_nameAway_67 I e36 dX6_nameAway_58 ?_
  refine lv_iload_n S.1 S.2.1 dX6_nameAway_61 rfl (lv_at hl 2 rfl) ?_
  obtain ⟨v38, e37, f⟩ := ob f
  refine o_iald S I e37 dX6_nameAway_62 ?_
  refine lv_i2l (v := Int32.toInt64 v38) S.1 S.2.1 dX6_nameAway_63 rfl ?_
  obtain ⟨h40, e39, f⟩ := ob f
  refine o_last S I e39 dX6_nameAway_64 (fun H locs I => ?_)
  refine lv_aload_n S.1 S.2.1 dX6_nameAway_65 rfl (lv_at hl 0 rfl) ?_
  obtain ⟨r41, e42, f⟩ := ob f
  refine o_gR S lf6_nameAway_25 I e42 dX6_nameAway_66 ?_
  refine lv_iconst (v := 5) S.1 S.2.1 dX6_nameAway_69 (by decide) ?_
  refine lv_aload_n S.1 S.2.1 dX6_nameAway_70 rfl (lv_at hl 0 rfl) ?_
  obtain ⟨r43, e44, f⟩ := ob f
  refine o_gR S lf6_nameAway_9 I e44 dX6_nameAway_71 ?_
  obtain ⟨r45, e46, f⟩ := ob f
  refine o_gR S lf6_nameAway_57 I e46 dX6_nameAway_74 ?_
  obtain ⟨r47, e48, f⟩ := ob f
  refine o_gR S lf6_nameAway_115 I e48 dX6_nameAway_77 ?_
  refine lv_iload_n S.1 S.2.1 dX6_nameAway_80 rfl (lv_at hl 2 rfl) ?_
  obtain ⟨v50, e49, f⟩ := ob f
  refine o_iald S I e49 dX6_nameAway_81 ?_
  refine lv_i2l (v := Int32.toInt64 v50) S.1 S.2.1 dX6_nameAway_82 rfl ?_
  obtain ⟨h52, e51, f⟩ := ob f
  refine o_last S I e51 dX6_nameAway_83 (fun H locs I => ?_)
  exact o_vret S hr hlo I f dX6_nameAway_84
theorem M6_nameAway (l : Launch) (D : va_G) (cy : Nat → ClassId) (b : Nat) (A : Nat → Prop) (fl : Bool) {h : PH} {a0 : Nat} {x1 : Int32} {x2 : Int32} {out : PH} (f : F6_nameAway h a0 x1 x2 = some out) : Met l yX6_nameAway vX6_nameAway ({ frames := 0, cells := 0, slots := 0, locals := 0 } : Room) (va_Pc [.ref (b + a0), .int x1, .int x2] (ph_B D cy b A fl h)) (va_Qv (fun (u : PH) => u = out) (ph_B D cy b A fl) A) 0 0 A :=
  o_met (by decide) rfl (Nat.le_of_ble_eq_true rfl) rfl (fun p e s m below meth c S hr hlo hnm ls hl I => T6_nameAway_0 S hr hlo ((gd f).2) I (lv_sub hl [0, 1, 2] rfl))
def vX2_oneIf : List Cond := .code yX2_oneIf cX2_oneIf 1 (some .long) :: TB
theorem cd2_oneIf : Cd yX2_oneIf 1 := ⟨by decide, by decide, by decide +kernel⟩
set_option maxHeartbeats 4000000 in
set_option maxRecDepth 100000 in
theorem T2_oneIf_0 (S : CallFix p m c cX2_oneIf 1 s args vX2_oneIf RX2) (hr : meth.sig.returnType = (some .long)) (hlo : meth.locks = false) {out : Int64 × PH} {h : PH} {x0 : Int32} (f : F2_oneIf_0  h x0 = some out) {H : Heap} {locs : List Loc} (I : ph_I D cy b A fl h s H locs) {ls : Array Slot} (hl : lv_has ls 1 [(0, .int x0)]) : W p l e ({ frames := 0, cells := 0, slots := 0, locals := 0 } : Room) s m args below meth c H locs 0 0 (MQ below (va_Ql (fun (r : Int64) (u : PH) => (r, u) = out) (ph_B D cy b A fl) A) args s 0 0 A) (F0 m 0 ls []) := by
  unfold F2_oneIf_0 at f
  refine lv_iload_n S.1 S.2.1 dX2_oneIf_0 rfl (lv_at hl 0 rfl) ?_
  refine lv_if_eq (tgt := 8) S.1 S.2.1 dX2_oneIf_1 (by decide) (fun q1 => ?_) (fun q1 => ?_)
  · have f := (if_pos q1).symm.trans f
    refine lv_lconst (v := 0) S.1 S.2.1 dX2_oneIf_8 (by decide) ?_
    exact o_lret S hr hlo I f dX2_oneIf_9
  · have f := (if_neg q1).symm.trans f
    refine lv_lconst (v := 1) S.1 S.2.1 dX2_oneIf_4 (by decide) ?_
    refine lv_goto (tgt := 9) S.1 S.2.1 dX2_oneIf_5 (by decide) ?_
    exact o_lret S hr hlo I f dX2_oneIf_9
theorem M2_oneIf (l : Launch) (D : va_G) (cy : Nat → ClassId) (b : Nat) (A : Nat → Prop) (fl : Bool) {h : PH} {x0 : Int32} {out : Int64 × PH} (f : F2_oneIf h x0 = some out) : Met l yX2_oneIf vX2_oneIf ({ frames := 0, cells := 0, slots := 0, locals := 0 } : Room) (va_Pc [.int x0] (ph_B D cy b A fl h)) (va_Ql (fun (r : Int64) (u : PH) => (r, u) = out) (ph_B D cy b A fl) A) 0 0 A :=
  o_met (by decide) rfl (Nat.le_of_ble_eq_true rfl) rfl (fun p e s m below meth c S hr hlo hnm ls hl I => T2_oneIf_0 S hr hlo (f) I (lv_sub hl [0] rfl))
def vX2_product : List Cond := .code yX2_product cX2_product 8 (some .long) :: TB
theorem cd2_product : Cd yX2_product 2 := ⟨by decide, by decide, by decide +kernel⟩
set_option maxHeartbeats 4000000 in
set_option maxRecDepth 100000 in
theorem T2_product_26 (S : CallFix p m c cX2_product 8 s args vX2_product RX2) (hr : meth.sig.returnType = (some .long)) (hlo : meth.locks = false) {out : Int64 × PH} {h : PH} {j0 : Int64} {j2 : Int64} {j4 : Int64} {t0 : Int64} (f : F2_product_26  h j0 j2 j4 t0 = some out) {H : Heap} {locs : List Loc} (I : ph_I D cy b A fl h s H locs) {ls : Array Slot} (hl : lv_has ls 8 [(0, .long j0), (2, .long j2), (4, .long j4)]) : W p l e ({ frames := 0, cells := 0, slots := 0, locals := 0 } : Room) s m args below meth c H locs 0 0 (MQ below (va_Ql (fun (r : Int64) (u : PH) => (r, u) = out) (ph_B D cy b A fl) A) args s 0 0 A) (F0 m 26 ls [.long t0]) := by
  unfold F2_product_26 at f
  refine lv_lstore (lv' := [(6, .long t0), (0, .long j0), (2, .long j2), (4, .long j4)]) S.1 S.2.1 dX2_product_26 hl (by decide) rfl (fun ls hl => ?_)
  refine lv_lload S.1 S.2.1 dX2_product_28 (lv_at hl 0 rfl) ?_
  refine lv_lconst (v := 0) S.1 S.2.1 dX2_product_30 (by decide) ?_
  refine W.lcmp S.1 S.2.1 dX2_product_31 ?_
  refine lv_if_le (tgt := 51) S.1 S.2.1 dX2_product_32 (by decide) (fun q1 => ?_) (fun q1 => ?_)
  · have f := (if_pos q1).symm.trans f
    refine lv_lload_n S.1 S.2.1 dX2_product_51 rfl (lv_at hl 1 rfl) ?_
    refine lv_lload_n S.1 S.2.1 dX2_product_52 rfl (lv_at hl 2 rfl) ?_
    refine lv_lmul S.1 S.2.1 dX2_product_53 ?_
    exact o_lret S hr hlo I f dX2_product_54
  · have f := (if_neg q1).symm.trans f
    refine lv_lload S.1 S.2.1 dX2_product_35 (lv_at hl 3 rfl) ?_
    refine lv_ldc2 (v := 1000000000000) S.1 S.2.1 S.2.2.2.1 (S.2.2.2.2 _ (List.mem_cons_of_mem _ wT_25_12)) dX2_product_37 ?_
    refine lv_lload S.1 S.2.1 dX2_product_40 (lv_at hl 0 rfl) ?_
    have q2 : ¬ t0 = 0 := fun q => by rw [if_pos q] at f; cases f
    have f := (if_neg q2).symm.trans f
    refine lv_ldiv S.1 S.2.1 dX2_product_42 q2 ?_
    refine W.lcmp S.1 S.2.1 dX2_product_43 ?_
    refine lv_if_le (tgt := 51) S.1 S.2.1 dX2_product_44 (by decide) (fun q3 => ?_) (fun q3 => ?_)
    · have f := (if_pos q3).symm.trans f
      refine lv_lload_n S.1 S.2.1 dX2_product_51 rfl (lv_at hl 1 rfl) ?_
      refine lv_lload_n S.1 S.2.1 dX2_product_52 rfl (lv_at hl 2 rfl) ?_
      refine lv_lmul S.1 S.2.1 dX2_product_53 ?_
      exact o_lret S hr hlo I f dX2_product_54
    · have f := (if_neg q3).symm.trans f
      refine lv_ldc2 (v := (-9223372036854775808)) S.1 S.2.1 S.2.2.2.1 (S.2.2.2.2 _ (List.mem_cons_of_mem _ wT_25_14)) dX2_product_47 ?_
      exact o_lret S hr hlo I f dX2_product_50
set_option maxHeartbeats 4000000 in
set_option maxRecDepth 100000 in
theorem T2_product_12 (S : CallFix p m c cX2_product 8 s args vX2_product RX2) (hr : meth.sig.returnType = (some .long)) (hlo : meth.locks = false) {out : Int64 × PH} {h : PH} {j0 : Int64} {j2 : Int64} {t0 : Int64} (f : F2_product_12  h j0 j2 t0 = some out) {H : Heap} {locs : List Loc} (I : ph_I D cy b A fl h s H locs) {ls : Array Slot} (hl : lv_has ls 8 [(0, .long j0), (2, .long j2)]) : W p l e ({ frames := 0, cells := 0, slots := 0, locals := 0 } : Room) s m args below meth c H locs 0 0 (MQ below (va_Ql (fun (r : Int64) (u : PH) => (r, u) = out) (ph_B D cy b A fl) A) args s 0 0 A) (F0 m 12 ls [.long t0]) := by
  unfold F2_product_12 at f
  refine lv_lstore (lv' := [(4, .long t0), (0, .long j0), (2, .long j2)]) S.1 S.2.1 dX2_product_12 hl (by decide) rfl (fun ls hl => ?_)
  refine lv_lload_n S.1 S.2.1 dX2_product_14 rfl (lv_at hl 2 rfl) ?_
  refine lv_lconst (v := 0) S.1 S.2.1 dX2_product_15 (by decide) ?_
  refine W.lcmp S.1 S.2.1 dX2_product_16 ?_
  refine lv_if_ge (tgt := 25) S.1 S.2.1 dX2_product_17 (by decide) (fun q1 => ?_) (fun q1 => ?_)
  · have f := (if_pos q1).symm.trans f
    refine lv_lload_n S.1 S.2.1 dX2_product_25 rfl (lv_at hl 2 rfl) ?_
    exact T2_product_26 S hr hlo  f I (lv_sub hl [1, 2, 0] rfl)
  · have f := (if_neg q1).symm.trans f
    refine lv_lload_n S.1 S.2.1 dX2_product_20 rfl (lv_at hl 2 rfl) ?_
    refine lv_lneg S.1 S.2.1 dX2_product_21 ?_
    refine lv_goto (tgt := 26) S.1 S.2.1 dX2_product_22 (by decide) ?_
    exact T2_product_26 S hr hlo  f I (lv_sub hl [1, 2, 0] rfl)
set_option maxHeartbeats 4000000 in
set_option maxRecDepth 100000 in
theorem T2_product_0 (S : CallFix p m c cX2_product 8 s args vX2_product RX2) (hr : meth.sig.returnType = (some .long)) (hlo : meth.locks = false) {out : Int64 × PH} {h : PH} {j0 : Int64} {j2 : Int64} (f : F2_product_0  h j0 j2 = some out) {H : Heap} {locs : List Loc} (I : ph_I D cy b A fl h s H locs) {ls : Array Slot} (hl : lv_has ls 8 [(0, .long j0), (2, .long j2)]) : W p l e ({ frames := 0, cells := 0, slots := 0, locals := 0 } : Room) s m args below meth c H locs 0 0 (MQ below (va_Ql (fun (r : Int64) (u : PH) => (r, u) = out) (ph_B D cy b A fl) A) args s 0 0 A) (F0 m 0 ls []) := by
  unfold F2_product_0 at f
  refine lv_lload_n S.1 S.2.1 dX2_product_0 rfl (lv_at hl 0 rfl) ?_
  refine lv_lconst (v := 0) S.1 S.2.1 dX2_product_1 (by decide) ?_
  refine W.lcmp S.1 S.2.1 dX2_product_2 ?_
  refine lv_if_ge (tgt := 11) S.1 S.2.1 dX2_product_3 (by decide) (fun q1 => ?_) (fun q1 => ?_)
  · have f := (if_pos q1).symm.trans f
    refine lv_lload_n S.1 S.2.1 dX2_product_11 rfl (lv_at hl 0 rfl) ?_
    exact T2_product_12 S hr hlo  f I (lv_sub hl [0, 1] rfl)
  · have f := (if_neg q1).symm.trans f
    refine lv_lload_n S.1 S.2.1 dX2_product_6 rfl (lv_at hl 0 rfl) ?_
    refine lv_lneg S.1 S.2.1 dX2_product_7 ?_
    refine lv_goto (tgt := 12) S.1 S.2.1 dX2_product_8 (by decide) ?_
    exact T2_product_12 S hr hlo  f I (lv_sub hl [0, 1] rfl)
theorem M2_product (l : Launch) (D : va_G) (cy : Nat → ClassId) (b : Nat) (A : Nat → Prop) (fl : Bool) {h : PH} {j0 : Int64} {j2 : Int64} {out : Int64 × PH} (f : F2_product h j0 j2 = some out) : Met l yX2_product vX2_product ({ frames := 0, cells := 0, slots := 0, locals := 0 } : Room) (va_Pc [.long j0, .long j2] (ph_B D cy b A fl h)) (va_Ql (fun (r : Int64) (u : PH) => (r, u) = out) (ph_B D cy b A fl) A) 0 0 A :=
  o_met (by decide) rfl (Nat.le_of_ble_eq_true rfl) rfl (fun p e s m below meth c S hr hlo hnm ls hl I => T2_product_0 S hr hlo (f) I (lv_sub hl [0, 1] rfl))
def vX2_join : List Cond := .code yX2_join cX2_join 5 (some .long) :: TB
theorem gX2_join_X2_oneIf : GoodIn vX2_join (va_wsS RX2 33 yX2_oneIf vX2_oneIf) := gS_of wT_25_18 wT_25_19 wT_3_14 wT_25_20
theorem gX2_join_X2_product : GoodIn vX2_join (va_wsS RX2 37 yX2_product vX2_product) := gS_of wT_25_21 wT_25_22 wT_3_14 wT_25_23
theorem cd2_join : Cd yX2_join 3 := ⟨by decide, by decide, by decide +kernel⟩
set_option maxHeartbeats 4000000 in
set_option maxRecDepth 100000 in
theorem T2_join_134 (S : CallFix p m c cX2_join 5 s args vX2_join RX2) (hr : meth.sig.returnType = (some .long)) (hlo : meth.locks = false) {out : Int64 × PH} {h : PH} {s0 : Int32} (f : F2_join_134  h s0 = some out) {H : Heap} {locs : List Loc} (I : ph_I D cy b A fl h s H locs) {ls : Array Slot} (hl : lv_has ls 5 []) : W p l e ({ frames := 1, cells := 0, slots := 0, locals := 27 } : Room) s m args below meth c H locs 0 0 (MQ below (va_Ql (fun (r : Int64) (u : PH) => (r, u) = out) (ph_B D cy b A fl) A) args s 0 0 A) (F0 m 134 ls [.int s0]) := by
  unfold F2_join_134 at f
  obtain ⟨o1, e2, f⟩ := ob f
  refine o_Sl S (As := [.int s0]) (rest := []) (M2_oneIf l D cy b A fl e2) gX2_join_X2_oneIf rfl rfl rfl cd2_oneIf ⟨Nat.le_of_ble_eq_true rfl, Nat.le_of_ble_eq_true rfl⟩ I rfl hl.1 rfl (Nat.le_of_ble_eq_true rfl) dX2_join_134 ⟨Nat.le_of_ble_eq_true rfl, Nat.le_of_ble_eq_true rfl⟩ (fun H locs I => ?_)
  exact o_lret S hr hlo I f dX2_join_137
set_option maxHeartbeats 4000000 in
set_option maxRecDepth 100000 in
theorem T2_join_133 (S : CallFix p m c cX2_join 5 s args vX2_join RX2) (hr : meth.sig.returnType = (some .long)) (hlo : meth.locks = false) {out : Int64 × PH} {h : PH}  (f : F2_join_133  h  = some out) {H : Heap} {locs : List Loc} (I : ph_I D cy b A fl h s H locs) {ls : Array Slot} (hl : lv_has ls 5 []) : W p l e ({ frames := 1, cells := 0, slots := 0, locals := 27 } : Room) s m args below meth c H locs 0 0 (MQ below (va_Ql (fun (r : Int64) (u : PH) => (r, u) = out) (ph_B D cy b A fl) A) args s 0 0 A) (F0 m 133 ls []) := by
  unfold F2_join_133 at f
  refine lv_iconst (v := 0) S.1 S.2.1 dX2_join_133 (by decide) ?_
  exact T2_join_134 S hr hlo  f I (lv_sub hl [] rfl)
set_option maxHeartbeats 4000000 in
set_option maxRecDepth 100000 in
theorem T2_join_113 (S : CallFix p m c cX2_join 5 s args vX2_join RX2) (hr : meth.sig.returnType = (some .long)) (hlo : meth.locks = false) {out : Int64 × PH} {h : PH} {s0 : Int32} (f : F2_join_113  h s0 = some out) {H : Heap} {locs : List Loc} (I : ph_I D cy b A fl h s H locs) {ls : Array Slot} (hl : lv_has ls 5 []) : W p l e ({ frames := 1, cells := 0, slots := 0, locals := 27 } : Room) s m args below meth c H locs 0 0 (MQ below (va_Ql (fun (r : Int64) (u : PH) => (r, u) = out) (ph_B D cy b A fl) A) args s 0 0 A) (F0 m 113 ls [.int s0]) := by
  unfold F2_join_113 at f
  obtain ⟨o1, e2, f⟩ := ob f
  refine o_Sl S (As := [.int s0]) (rest := []) (M2_oneIf l D cy b A fl e2) gX2_join_X2_oneIf rfl rfl rfl cd2_oneIf ⟨Nat.le_of_ble_eq_true rfl, Nat.le_of_ble_eq_true rfl⟩ I rfl hl.1 rfl (Nat.le_of_ble_eq_true rfl) dX2_join_113 ⟨Nat.le_of_ble_eq_true rfl, Nat.le_of_ble_eq_true rfl⟩ (fun H locs I => ?_)
  exact o_lret S hr hlo I f dX2_join_116
set_option maxHeartbeats 4000000 in
set_option maxRecDepth 100000 in
theorem T2_join_108 (S : CallFix p m c cX2_join 5 s args vX2_join RX2) (hr : meth.sig.returnType = (some .long)) (hlo : meth.locks = false) {out : Int64 × PH} {h : PH}  (f : F2_join_108  h  = some out) {H : Heap} {locs : List Loc} (I : ph_I D cy b A fl h s H locs) {ls : Array Slot} (hl : lv_has ls 5 []) : W p l e ({ frames := 1, cells := 0, slots := 0, locals := 27 } : Room) s m args below meth c H locs 0 0 (MQ below (va_Ql (fun (r : Int64) (u : PH) => (r, u) = out) (ph_B D cy b A fl) A) args s 0 0 A) (F0 m 108 ls []) := by
  unfold F2_join_108 at f
  refine lv_iconst (v := 1) S.1 S.2.1 dX2_join_108 (by decide) ?_
  refine lv_goto (tgt := 113) S.1 S.2.1 dX2_join_109 (by decide) ?_
  exact T2_join_113 S hr hlo  f I (lv_sub hl [] rfl)
set_option maxHeartbeats 4000000 in
set_option maxRecDepth 100000 in
theorem T2_join_149 (S : CallFix p m c cX2_join 5 s args vX2_join RX2) (hr : meth.sig.returnType = (some .long)) (hlo : meth.locks = false) {out : Int64 × PH} {h : PH} {s0 : Int32} (f : F2_join_149  h s0 = some out) {H : Heap} {locs : List Loc} (I : ph_I D cy b A fl h s H locs) {ls : Array Slot} (hl : lv_has ls 5 []) : W p l e ({ frames := 1, cells := 0, slots := 0, locals := 27 } : Room) s m args below meth c H locs 0 0 (MQ below (va_Ql (fun (r : Int64) (u : PH) => (r, u) = out) (ph_B D cy b A fl) A) args s 0 0 A) (F0 m 149 ls [.int s0]) := by
  unfold F2_join_149 at f
  obtain ⟨o1, e2, f⟩ := ob f
  refine o_Sl S (As := [.int s0]) (rest := []) (M2_oneIf l D cy b A fl e2) gX2_join_X2_oneIf rfl rfl rfl cd2_oneIf ⟨Nat.le_of_ble_eq_true rfl, Nat.le_of_ble_eq_true rfl⟩ I rfl hl.1 rfl (Nat.le_of_ble_eq_true rfl) dX2_join_149 ⟨Nat.le_of_ble_eq_true rfl, Nat.le_of_ble_eq_true rfl⟩ (fun H locs I => ?_)
  exact o_lret S hr hlo I f dX2_join_152
set_option maxHeartbeats 4000000 in
set_option maxRecDepth 100000 in
theorem T2_join_164 (S : CallFix p m c cX2_join 5 s args vX2_join RX2) (hr : meth.sig.returnType = (some .long)) (hlo : meth.locks = false) {out : Int64 × PH} {h : PH} {s0 : Int32} (f : F2_join_164  h s0 = some out) {H : Heap} {locs : List Loc} (I : ph_I D cy b A fl h s H locs) {ls : Array Slot} (hl : lv_has ls 5 []) : W p l e ({ frames := 1, cells := 0, slots := 0, locals := 27 } : Room) s m args below meth c H locs 0 0 (MQ below (va_Ql (fun (r : Int64) (u : PH) => (r, u) = out) (ph_B D cy b A fl) A) args s 0 0 A) (F0 m 164 ls [.int s0]) := by
  unfold F2_join_164 at f
  obtain ⟨o1, e2, f⟩ := ob f
  refine o_Sl S (As := [.int s0]) (rest := []) (M2_oneIf l D cy b A fl e2) gX2_join_X2_oneIf rfl rfl rfl cd2_oneIf ⟨Nat.le_of_ble_eq_true rfl, Nat.le_of_ble_eq_true rfl⟩ I rfl hl.1 rfl (Nat.le_of_ble_eq_true rfl) dX2_join_164 ⟨Nat.le_of_ble_eq_true rfl, Nat.le_of_ble_eq_true rfl⟩ (fun H locs I => ?_)
  exact o_lret S hr hlo I f dX2_join_167
set_option maxHeartbeats 4000000 in
set_option maxRecDepth 100000 in
theorem T2_join_179 (S : CallFix p m c cX2_join 5 s args vX2_join RX2) (hr : meth.sig.returnType = (some .long)) (hlo : meth.locks = false) {out : Int64 × PH} {h : PH} {s0 : Int32} (f : F2_join_179  h s0 = some out) {H : Heap} {locs : List Loc} (I : ph_I D cy b A fl h s H locs) {ls : Array Slot} (hl : lv_has ls 5 []) : W p l e ({ frames := 1, cells := 0, slots := 0, locals := 27 } : Room) s m args below meth c H locs 0 0 (MQ below (va_Ql (fun (r : Int64) (u : PH) => (r, u) = out) (ph_B D cy b A fl) A) args s 0 0 A) (F0 m 179 ls [.int s0]) := by
  unfold F2_join_179 at f
  obtain ⟨o1, e2, f⟩ := ob f
  refine o_Sl S (As := [.int s0]) (rest := []) (M2_oneIf l D cy b A fl e2) gX2_join_X2_oneIf rfl rfl rfl cd2_oneIf ⟨Nat.le_of_ble_eq_true rfl, Nat.le_of_ble_eq_true rfl⟩ I rfl hl.1 rfl (Nat.le_of_ble_eq_true rfl) dX2_join_179 ⟨Nat.le_of_ble_eq_true rfl, Nat.le_of_ble_eq_true rfl⟩ (fun H locs I => ?_)
  exact o_lret S hr hlo I f dX2_join_182
set_option maxHeartbeats 4000000 in
set_option maxRecDepth 100000 in
theorem T2_join_194 (S : CallFix p m c cX2_join 5 s args vX2_join RX2) (hr : meth.sig.returnType = (some .long)) (hlo : meth.locks = false) {out : Int64 × PH} {h : PH} {s0 : Int32} (f : F2_join_194  h s0 = some out) {H : Heap} {locs : List Loc} (I : ph_I D cy b A fl h s H locs) {ls : Array Slot} (hl : lv_has ls 5 []) : W p l e ({ frames := 1, cells := 0, slots := 0, locals := 27 } : Room) s m args below meth c H locs 0 0 (MQ below (va_Ql (fun (r : Int64) (u : PH) => (r, u) = out) (ph_B D cy b A fl) A) args s 0 0 A) (F0 m 194 ls [.int s0]) := by
  unfold F2_join_194 at f
  obtain ⟨o1, e2, f⟩ := ob f
  refine o_Sl S (As := [.int s0]) (rest := []) (M2_oneIf l D cy b A fl e2) gX2_join_X2_oneIf rfl rfl rfl cd2_oneIf ⟨Nat.le_of_ble_eq_true rfl, Nat.le_of_ble_eq_true rfl⟩ I rfl hl.1 rfl (Nat.le_of_ble_eq_true rfl) dX2_join_194 ⟨Nat.le_of_ble_eq_true rfl, Nat.le_of_ble_eq_true rfl⟩ (fun H locs I => ?_)
  exact o_lret S hr hlo I f dX2_join_197
set_option maxHeartbeats 4000000 in
set_option maxRecDepth 100000 in
theorem T2_join_209 (S : CallFix p m c cX2_join 5 s args vX2_join RX2) (hr : meth.sig.returnType = (some .long)) (hlo : meth.locks = false) {out : Int64 × PH} {h : PH} {s0 : Int32} (f : F2_join_209  h s0 = some out) {H : Heap} {locs : List Loc} (I : ph_I D cy b A fl h s H locs) {ls : Array Slot} (hl : lv_has ls 5 []) : W p l e ({ frames := 1, cells := 0, slots := 0, locals := 27 } : Room) s m args below meth c H locs 0 0 (MQ below (va_Ql (fun (r : Int64) (u : PH) => (r, u) = out) (ph_B D cy b A fl) A) args s 0 0 A) (F0 m 209 ls [.int s0]) := by
  unfold F2_join_209 at f
  obtain ⟨o1, e2, f⟩ := ob f
  refine o_Sl S (As := [.int s0]) (rest := []) (M2_oneIf l D cy b A fl e2) gX2_join_X2_oneIf rfl rfl rfl cd2_oneIf ⟨Nat.le_of_ble_eq_true rfl, Nat.le_of_ble_eq_true rfl⟩ I rfl hl.1 rfl (Nat.le_of_ble_eq_true rfl) dX2_join_209 ⟨Nat.le_of_ble_eq_true rfl, Nat.le_of_ble_eq_true rfl⟩ (fun H locs I => ?_)
  exact o_lret S hr hlo I f dX2_join_212
set_option maxHeartbeats 4000000 in
set_option maxRecDepth 100000 in
theorem T2_join_224 (S : CallFix p m c cX2_join 5 s args vX2_join RX2) (hr : meth.sig.returnType = (some .long)) (hlo : meth.locks = false) {out : Int64 × PH} {h : PH} {s0 : Int32} (f : F2_join_224  h s0 = some out) {H : Heap} {locs : List Loc} (I : ph_I D cy b A fl h s H locs) {ls : Array Slot} (hl : lv_has ls 5 []) : W p l e ({ frames := 1, cells := 0, slots := 0, locals := 27 } : Room) s m args below meth c H locs 0 0 (MQ below (va_Ql (fun (r : Int64) (u : PH) => (r, u) = out) (ph_B D cy b A fl) A) args s 0 0 A) (F0 m 224 ls [.int s0]) := by
  unfold F2_join_224 at f
  obtain ⟨o1, e2, f⟩ := ob f
  refine o_Sl S (As := [.int s0]) (rest := []) (M2_oneIf l D cy b A fl e2) gX2_join_X2_oneIf rfl rfl rfl cd2_oneIf ⟨Nat.le_of_ble_eq_true rfl, Nat.le_of_ble_eq_true rfl⟩ I rfl hl.1 rfl (Nat.le_of_ble_eq_true rfl) dX2_join_224 ⟨Nat.le_of_ble_eq_true rfl, Nat.le_of_ble_eq_true rfl⟩ (fun H locs I => ?_)
  exact o_lret S hr hlo I f dX2_join_227
set_option maxHeartbeats 4000000 in
set_option maxRecDepth 100000 in
theorem T2_join_0 (S : CallFix p m c cX2_join 5 s args vX2_join RX2) (hr : meth.sig.returnType = (some .long)) (hlo : meth.locks = false) {out : Int64 × PH} {h : PH} {x0 : Int32} {j1 : Int64} {j3 : Int64} (f : F2_join_0  h x0 j1 j3 = some out) {H : Heap} {locs : List Loc} (I : ph_I D cy b A fl h s H locs) {ls : Array Slot} (hl : lv_has ls 5 [(0, .int x0), (1, .long j1), (3, .long j3)]) : W p l e ({ frames := 1, cells := 0, slots := 0, locals := 27 } : Room) s m args below meth c H locs 0 0 (MQ below (va_Ql (fun (r : Int64) (u : PH) => (r, u) = out) (ph_B D cy b A fl) A) args s 0 0 A) (F0 m 0 ls []) := by
  unfold F2_join_0 at f
  refine lv_iload_n S.1 S.2.1 dX2_join_0 rfl (lv_at hl 0 rfl) ?_
  rcases Decidable.em (x0 = 16) with q1 | q1
  · have f := (if_pos q1).symm.trans f
    refine lv_tableIn (off := 116) (tgt := 117) S.1 S.2.1 dX2_join_1 (by rw [q1]; decide) (by rw [q1]; decide) (by rw [q1]; rfl) (by decide) ?_
    refine lv_lload_n S.1 S.2.1 dX2_join_117 rfl (lv_at hl 1 rfl) ?_
    refine lv_lconst (v := 0) S.1 S.2.1 dX2_join_118 (by decide) ?_
    refine W.lcmp S.1 S.2.1 dX2_join_119 ?_
    refine lv_if_eq (tgt := 133) S.1 S.2.1 dX2_join_120 (by decide) (fun q2 => ?_) (fun q2 => ?_)
    · have f := (if_pos q2).symm.trans f
      exact T2_join_133 S hr hlo  f I (lv_sub hl [] rfl)
    · have f := (if_neg q2).symm.trans f
      refine lv_lload_n S.1 S.2.1 dX2_join_123 rfl (lv_at hl 2 rfl) ?_
      refine lv_lconst (v := 0) S.1 S.2.1 dX2_join_124 (by decide) ?_
      refine W.lcmp S.1 S.2.1 dX2_join_125 ?_
      refine lv_if_eq (tgt := 133) S.1 S.2.1 dX2_join_126 (by decide) (fun q3 => ?_) (fun q3 => ?_)
      · have f := (if_pos q3).symm.trans f
        exact T2_join_133 S hr hlo  f I (lv_sub hl [] rfl)
      · have f := (if_neg q3).symm.trans f
        refine lv_iconst (v := 1) S.1 S.2.1 dX2_join_129 (by decide) ?_
        refine lv_goto (tgt := 134) S.1 S.2.1 dX2_join_130 (by decide) ?_
        exact T2_join_134 S hr hlo  f I (lv_sub hl [] rfl)
  have f := (if_neg q1).symm.trans f
  rcases Decidable.em (x0 = 17) with q4 | q4
  · have f := (if_pos q4).symm.trans f
    refine lv_tableIn (off := 95) (tgt := 96) S.1 S.2.1 dX2_join_1 (by rw [q4]; decide) (by rw [q4]; decide) (by rw [q4]; rfl) (by decide) ?_
    refine lv_lload_n S.1 S.2.1 dX2_join_96 rfl (lv_at hl 1 rfl) ?_
    refine lv_lconst (v := 0) S.1 S.2.1 dX2_join_97 (by decide) ?_
    refine W.lcmp S.1 S.2.1 dX2_join_98 ?_
    refine lv_if_ne (tgt := 108) S.1 S.2.1 dX2_join_99 (by decide) (fun q5 => ?_) (fun q5 => ?_)
    · have f := (if_neg q5).symm.trans f
      exact T2_join_108 S hr hlo  f I (lv_sub hl [] rfl)
    · have f := (if_pos q5).symm.trans f
      refine lv_lload_n S.1 S.2.1 dX2_join_102 rfl (lv_at hl 2 rfl) ?_
      refine lv_lconst (v := 0) S.1 S.2.1 dX2_join_103 (by decide) ?_
      refine W.lcmp S.1 S.2.1 dX2_join_104 ?_
      refine lv_if_eq (tgt := 112) S.1 S.2.1 dX2_join_105 (by decide) (fun q6 => ?_) (fun q6 => ?_)
      · have f := (if_pos q6).symm.trans f
        refine lv_iconst (v := 0) S.1 S.2.1 dX2_join_112 (by decide) ?_
        exact T2_join_113 S hr hlo  f I (lv_sub hl [] rfl)
      · have f := (if_neg q6).symm.trans f
        exact T2_join_108 S hr hlo  f I (lv_sub hl [] rfl)
  have f := (if_neg q4).symm.trans f
  rcases Decidable.em (x0 = 26) with q7 | q7
  · have f := (if_pos q7).symm.trans f
    refine lv_tableIn (off := 137) (tgt := 138) S.1 S.2.1 dX2_join_1 (by rw [q7]; decide) (by rw [q7]; decide) (by rw [q7]; rfl) (by decide) ?_
    refine lv_lload_n S.1 S.2.1 dX2_join_138 rfl (lv_at hl 1 rfl) ?_
    refine lv_lload_n S.1 S.2.1 dX2_join_139 rfl (lv_at hl 2 rfl) ?_
    refine W.lcmp S.1 S.2.1 dX2_join_140 ?_
    refine lv_if_ge (tgt := 148) S.1 S.2.1 dX2_join_141 (by decide) (fun q8 => ?_) (fun q8 => ?_)
    · have f := (if_pos q8).symm.trans f
      refine lv_iconst (v := 0) S.1 S.2.1 dX2_join_148 (by decide) ?_
      exact T2_join_149 S hr hlo  f I (lv_sub hl [] rfl)
    · have f := (if_neg q8).symm.trans f
      refine lv_iconst (v := 1) S.1 S.2.1 dX2_join_144 (by decide) ?_
      refine lv_goto (tgt := 149) S.1 S.2.1 dX2_join_145 (by decide) ?_
      exact T2_join_149 S hr hlo  f I (lv_sub hl [] rfl)
  have f := (if_neg q7).symm.trans f
  rcases Decidable.em (x0 = 27) with q9 | q9
  · have f := (if_pos q9).symm.trans f
    refine lv_tableIn (off := 152) (tgt := 153) S.1 S.2.1 dX2_join_1 (by rw [q9]; decide) (by rw [q9]; decide) (by rw [q9]; rfl) (by decide) ?_
    refine lv_lload_n S.1 S.2.1 dX2_join_153 rfl (lv_at hl 1 rfl) ?_
    refine lv_lload_n S.1 S.2.1 dX2_join_154 rfl (lv_at hl 2 rfl) ?_
    refine W.lcmp S.1 S.2.1 dX2_join_155 ?_
    refine lv_if_gt (tgt := 163) S.1 S.2.1 dX2_join_156 (by decide) (fun q10 => ?_) (fun q10 => ?_)
    · have f := (if_pos q10).symm.trans f
      refine lv_iconst (v := 0) S.1 S.2.1 dX2_join_163 (by decide) ?_
      exact T2_join_164 S hr hlo  f I (lv_sub hl [] rfl)
    · have f := (if_neg q10).symm.trans f
      refine lv_iconst (v := 1) S.1 S.2.1 dX2_join_159 (by decide) ?_
      refine lv_goto (tgt := 164) S.1 S.2.1 dX2_join_160 (by decide) ?_
      exact T2_join_164 S hr hlo  f I (lv_sub hl [] rfl)
  have f := (if_neg q9).symm.trans f
  rcases Decidable.em (x0 = 28) with q11 | q11
  · have f := (if_pos q11).symm.trans f
    refine lv_tableIn (off := 167) (tgt := 168) S.1 S.2.1 dX2_join_1 (by rw [q11]; decide) (by rw [q11]; decide) (by rw [q11]; rfl) (by decide) ?_
    refine lv_lload_n S.1 S.2.1 dX2_join_168 rfl (lv_at hl 1 rfl) ?_
    refine lv_lload_n S.1 S.2.1 dX2_join_169 rfl (lv_at hl 2 rfl) ?_
    refine W.lcmp S.1 S.2.1 dX2_join_170 ?_
    refine lv_if_ne (tgt := 178) S.1 S.2.1 dX2_join_171 (by decide) (fun q12 => ?_) (fun q12 => ?_)
    · have f := (if_neg q12).symm.trans f
      refine lv_iconst (v := 0) S.1 S.2.1 dX2_join_178 (by decide) ?_
      exact T2_join_179 S hr hlo  f I (lv_sub hl [] rfl)
    · have f := (if_pos q12).symm.trans f
      refine lv_iconst (v := 1) S.1 S.2.1 dX2_join_174 (by decide) ?_
      refine lv_goto (tgt := 179) S.1 S.2.1 dX2_join_175 (by decide) ?_
      exact T2_join_179 S hr hlo  f I (lv_sub hl [] rfl)
  have f := (if_neg q11).symm.trans f
  rcases Decidable.em (x0 = 29) with q13 | q13
  · have f := (if_pos q13).symm.trans f
    refine lv_tableIn (off := 182) (tgt := 183) S.1 S.2.1 dX2_join_1 (by rw [q13]; decide) (by rw [q13]; decide) (by rw [q13]; rfl) (by decide) ?_
    refine lv_lload_n S.1 S.2.1 dX2_join_183 rfl (lv_at hl 1 rfl) ?_
    refine lv_lload_n S.1 S.2.1 dX2_join_184 rfl (lv_at hl 2 rfl) ?_
    refine W.lcmp S.1 S.2.1 dX2_join_185 ?_
    refine lv_if_eq (tgt := 193) S.1 S.2.1 dX2_join_186 (by decide) (fun q14 => ?_) (fun q14 => ?_)
    · have f := (if_pos q14).symm.trans f
      refine lv_iconst (v := 0) S.1 S.2.1 dX2_join_193 (by decide) ?_
      exact T2_join_194 S hr hlo  f I (lv_sub hl [] rfl)
    · have f := (if_neg q14).symm.trans f
      refine lv_iconst (v := 1) S.1 S.2.1 dX2_join_189 (by decide) ?_
      refine lv_goto (tgt := 194) S.1 S.2.1 dX2_join_190 (by decide) ?_
      exact T2_join_194 S hr hlo  f I (lv_sub hl [] rfl)
  have f := (if_neg q13).symm.trans f
  rcases Decidable.em (x0 = 30) with q15 | q15
  · have f := (if_pos q15).symm.trans f
    refine lv_tableIn (off := 197) (tgt := 198) S.1 S.2.1 dX2_join_1 (by rw [q15]; decide) (by rw [q15]; decide) (by rw [q15]; rfl) (by decide) ?_
    refine lv_lload_n S.1 S.2.1 dX2_join_198 rfl (lv_at hl 1 rfl) ?_
    refine lv_lload_n S.1 S.2.1 dX2_join_199 rfl (lv_at hl 2 rfl) ?_
    refine W.lcmp S.1 S.2.1 dX2_join_200 ?_
    refine lv_if_lt (tgt := 208) S.1 S.2.1 dX2_join_201 (by decide) (fun q16 => ?_) (fun q16 => ?_)
    · have f := (if_pos q16).symm.trans f
      refine lv_iconst (v := 0) S.1 S.2.1 dX2_join_208 (by decide) ?_
      exact T2_join_209 S hr hlo  f I (lv_sub hl [] rfl)
    · have f := (if_neg q16).symm.trans f
      refine lv_iconst (v := 1) S.1 S.2.1 dX2_join_204 (by decide) ?_
      refine lv_goto (tgt := 209) S.1 S.2.1 dX2_join_205 (by decide) ?_
      exact T2_join_209 S hr hlo  f I (lv_sub hl [] rfl)
  have f := (if_neg q15).symm.trans f
  rcases Decidable.em (x0 = 31) with q17 | q17
  · have f := (if_pos q17).symm.trans f
    refine lv_tableIn (off := 212) (tgt := 213) S.1 S.2.1 dX2_join_1 (by rw [q17]; decide) (by rw [q17]; decide) (by rw [q17]; rfl) (by decide) ?_
    refine lv_lload_n S.1 S.2.1 dX2_join_213 rfl (lv_at hl 1 rfl) ?_
    refine lv_lload_n S.1 S.2.1 dX2_join_214 rfl (lv_at hl 2 rfl) ?_
    refine W.lcmp S.1 S.2.1 dX2_join_215 ?_
    refine lv_if_le (tgt := 223) S.1 S.2.1 dX2_join_216 (by decide) (fun q18 => ?_) (fun q18 => ?_)
    · have f := (if_pos q18).symm.trans f
      refine lv_iconst (v := 0) S.1 S.2.1 dX2_join_223 (by decide) ?_
      exact T2_join_224 S hr hlo  f I (lv_sub hl [] rfl)
    · have f := (if_neg q18).symm.trans f
      refine lv_iconst (v := 1) S.1 S.2.1 dX2_join_219 (by decide) ?_
      refine lv_goto (tgt := 224) S.1 S.2.1 dX2_join_220 (by decide) ?_
      exact T2_join_224 S hr hlo  f I (lv_sub hl [] rfl)
  have f := (if_neg q17).symm.trans f
  rcases Decidable.em (x0 = 32) with q19 | q19
  · have f := (if_pos q19).symm.trans f
    refine lv_tableIn (off := 227) (tgt := 228) S.1 S.2.1 dX2_join_1 (by rw [q19]; decide) (by rw [q19]; decide) (by rw [q19]; rfl) (by decide) ?_
    refine lv_lload_n S.1 S.2.1 dX2_join_228 rfl (lv_at hl 1 rfl) ?_
    refine lv_lload_n S.1 S.2.1 dX2_join_229 rfl (lv_at hl 2 rfl) ?_
    refine lv_ladd S.1 S.2.1 dX2_join_230 ?_
    exact o_lret S hr hlo I f dX2_join_231
  have f := (if_neg q19).symm.trans f
  rcases Decidable.em (x0 = 33) with q20 | q20
  · have f := (if_pos q20).symm.trans f
    refine lv_tableIn (off := 231) (tgt := 232) S.1 S.2.1 dX2_join_1 (by rw [q20]; decide) (by rw [q20]; decide) (by rw [q20]; rfl) (by decide) ?_
    refine lv_lload_n S.1 S.2.1 dX2_join_232 rfl (lv_at hl 1 rfl) ?_
    refine lv_lload_n S.1 S.2.1 dX2_join_233 rfl (lv_at hl 2 rfl) ?_
    refine lv_lsub S.1 S.2.1 dX2_join_234 ?_
    exact o_lret S hr hlo I f dX2_join_235
  have f := (if_neg q20).symm.trans f
  rcases Decidable.em (x0 = 34) with q21 | q21
  · have f := (if_pos q21).symm.trans f
    refine lv_tableIn (off := 235) (tgt := 236) S.1 S.2.1 dX2_join_1 (by rw [q21]; decide) (by rw [q21]; decide) (by rw [q21]; rfl) (by decide) ?_
    refine lv_lload_n S.1 S.2.1 dX2_join_236 rfl (lv_at hl 1 rfl) ?_
    refine lv_lload_n S.1 S.2.1 dX2_join_237 rfl (lv_at hl 2 rfl) ?_
    obtain ⟨o22, e23, f⟩ := ob f
    refine o_Sl S (As := [.long j1, .long j3]) (rest := []) (M2_product l D cy b A fl e23) gX2_join_X2_product rfl rfl rfl cd2_product ⟨Nat.le_of_ble_eq_true rfl, Nat.le_of_ble_eq_true rfl⟩ I rfl hl.1 rfl (Nat.le_of_ble_eq_true rfl) dX2_join_238 ⟨Nat.le_of_ble_eq_true rfl, Nat.le_of_ble_eq_true rfl⟩ (fun H locs I => ?_)
    exact o_lret S hr hlo I f dX2_join_241
  have f := (if_neg q21).symm.trans f
  rcases Decidable.em (x0 = 35) with q24 | q24
  · have f := (if_pos q24).symm.trans f
    refine lv_tableIn (off := 241) (tgt := 242) S.1 S.2.1 dX2_join_1 (by rw [q24]; decide) (by rw [q24]; decide) (by rw [q24]; rfl) (by decide) ?_
    refine lv_lload_n S.1 S.2.1 dX2_join_242 rfl (lv_at hl 2 rfl) ?_
    refine lv_lconst (v := 0) S.1 S.2.1 dX2_join_243 (by decide) ?_
    refine W.lcmp S.1 S.2.1 dX2_join_244 ?_
    refine lv_if_ne (tgt := 254) S.1 S.2.1 dX2_join_245 (by decide) (fun q25 => ?_) (fun q25 => ?_)
    · have f := (if_neg q25).symm.trans f
      refine lv_lload_n S.1 S.2.1 dX2_join_254 rfl (lv_at hl 1 rfl) ?_
      refine lv_lload_n S.1 S.2.1 dX2_join_255 rfl (lv_at hl 2 rfl) ?_
      have q26 : ¬ j3 = 0 := fun q => by rw [if_pos q] at f; cases f
      have f := (if_neg q26).symm.trans f
      refine lv_ldiv S.1 S.2.1 dX2_join_256 q26 ?_
      exact o_lret S hr hlo I f dX2_join_257
    · have f := (if_pos q25).symm.trans f
      refine lv_ldc2 (v := (-9223372036854775808)) S.1 S.2.1 S.2.2.2.1 (S.2.2.2.2 _ (List.mem_cons_of_mem _ wT_25_14)) dX2_join_248 ?_
      refine lv_goto (tgt := 257) S.1 S.2.1 dX2_join_251 (by decide) ?_
      exact o_lret S hr hlo I f dX2_join_257
  have f := (if_neg q24).symm.trans f
  suffices K : W p l e ({ frames := 1, cells := 0, slots := 0, locals := 27 } : Room) s m args below meth c H locs 0 0 (MQ below (va_Ql (fun (r : Int64) (u : PH) => (r, u) = out) (ph_B D cy b A fl) A) args s 0 0 A) (F0 m 258 ls []) by
    have := lv_neT q1 (a := 16) (by decide)
    have := lv_neT q4 (a := 17) (by decide)
    have := lv_neT q7 (a := 26) (by decide)
    have := lv_neT q9 (a := 27) (by decide)
    have := lv_neT q11 (a := 28) (by decide)
    have := lv_neT q13 (a := 29) (by decide)
    have := lv_neT q15 (a := 30) (by decide)
    have := lv_neT q17 (a := 31) (by decide)
    have := lv_neT q19 (a := 32) (by decide)
    have := lv_neT q20 (a := 33) (by decide)
    have := lv_neT q21 (a := 34) (by decide)
    have := lv_neT q24 (a := 35) (by decide)
    have g9 : (x0).toInt < 16 ∨ 35 < (x0).toInt ∨ (x0).toInt = 18 ∨ (x0).toInt = 19 ∨ (x0).toInt = 20 ∨ (x0).toInt = 21 ∨ (x0).toInt = 22 ∨ (x0).toInt = 23 ∨ (x0).toInt = 24 ∨ (x0).toInt = 25 := by omega
    rcases g9 with g9 | g9 | g9 | g9 | g9 | g9 | g9 | g9 | g9 | g9
    · exact lv_tableOut (tgt := 258) S.1 S.2.1 dX2_join_1 (Or.inl g9) (by decide) K
    · exact lv_tableOut (tgt := 258) S.1 S.2.1 dX2_join_1 (Or.inr g9) (by decide) K
    · exact lv_tableIn (off := 257) (tgt := 258) S.1 S.2.1 dX2_join_1 (by rw [g9]; decide) (by rw [g9]; decide) (by rw [g9]; rfl) (by decide) K
    · exact lv_tableIn (off := 257) (tgt := 258) S.1 S.2.1 dX2_join_1 (by rw [g9]; decide) (by rw [g9]; decide) (by rw [g9]; rfl) (by decide) K
    · exact lv_tableIn (off := 257) (tgt := 258) S.1 S.2.1 dX2_join_1 (by rw [g9]; decide) (by rw [g9]; decide) (by rw [g9]; rfl) (by decide) K
    · exact lv_tableIn (off := 257) (tgt := 258) S.1 S.2.1 dX2_join_1 (by rw [g9]; decide) (by rw [g9]; decide) (by rw [g9]; rfl) (by decide) K
    · exact lv_tableIn (off := 257) (tgt := 258) S.1 S.2.1 dX2_join_1 (by rw [g9]; decide) (by rw [g9]; decide) (by rw [g9]; rfl) (by decide) K
    · exact lv_tableIn (off := 257) (tgt := 258) S.1 S.2.1 dX2_join_1 (by rw [g9]; decide) (by rw [g9]; decide) (by rw [g9]; rfl) (by decide) K
    · exact lv_tableIn (off := 257) (tgt := 258) S.1 S.2.1 dX2_join_1 (by rw [g9]; decide) (by rw [g9]; decide) (by rw [g9]; rfl) (by decide) K
    · exact lv_tableIn (off := 257) (tgt := 258) S.1 S.2.1 dX2_join_1 (by rw [g9]; decide) (by rw [g9]; decide) (by rw [g9]; rfl) (by decide) K
  refine lv_ldc2 (v := (-9223372036854775808)) S.1 S.2.1 S.2.2.2.1 (S.2.2.2.2 _ (List.mem_cons_of_mem _ wT_25_14)) dX2_join_258 ?_
  exact o_lret S hr hlo I f dX2_join_261
theorem M2_join (l : Launch) (D : va_G) (cy : Nat → ClassId) (b : Nat) (A : Nat → Prop) (fl : Bool) {h : PH} {x0 : Int32} {j1 : Int64} {j3 : Int64} {out : Int64 × PH} (f : F2_join h x0 j1 j3 = some out) : Met l yX2_join vX2_join ({ frames := 1, cells := 0, slots := 0, locals := 27 } : Room) (va_Pc [.int x0, .long j1, .long j3] (ph_B D cy b A fl h)) (va_Ql (fun (r : Int64) (u : PH) => (r, u) = out) (ph_B D cy b A fl) A) 0 0 A :=
  o_met (by decide) rfl (Nat.le_of_ble_eq_true rfl) rfl (fun p e s m below meth c S hr hlo hnm ls hl I => T2_join_0 S hr hlo (f) I (lv_sub hl [0, 1, 2] rfl))
def vX2_valueFor : List Cond := .code yX2_valueFor cX2_valueFor 8 (some .long) :: TB
theorem gX2_valueFor_X2_join : GoodIn vX2_valueFor (va_wsS RX2 23 yX2_join vX2_join) := gS_of wT_25_15 wT_25_16 wT_3_14 wT_25_17
theorem lf2_valueFor_15 : Fl vX2_valueFor RX2 15 2 1 := ⟨RX2, TX2, 3, rfl, by decide, (fun w h9 => List.mem_cons_of_mem _ (wC_wsX20 w h9)), (List.mem_cons_of_mem _ wT_15_9)⟩
theorem lf2_valueFor_9 : Fl vX2_valueFor RX2 9 2 0 := ⟨RX2, TX2, 3, rfl, by decide, (fun w h9 => List.mem_cons_of_mem _ (wC_wsX20 w h9)), (List.mem_cons_of_mem _ wT_4_18)⟩
theorem cd2_valueFor : Cd yX2_valueFor 2 := ⟨by decide, by decide, by decide +kernel⟩
set_option maxHeartbeats 4000000 in
set_option maxRecDepth 100000 in
theorem T2_valueFor_177 (S : CallFix p m c cX2_valueFor 8 s args vX2_valueFor RX2) (hr : meth.sig.returnType = (some .long)) (hlo : meth.locks = false) {out : Int64 × PH} {h : PH} {a2 : Nat} {x3 : Int32} (f : F2_valueFor_177  h a2 x3 = some out) {H : Heap} {locs : List Loc} (I : ph_I D cy b A fl h s H locs) {ls : Array Slot} (hl : lv_has ls 8 [(2, .ref (b + a2)), (3, .int x3)]) : W p l e ({ frames := 2, cells := 0, slots := 0, locals := 51 } : Room) s m args below meth c H locs 0 0 (MQ below (va_Ql (fun (r : Int64) (u : PH) => (r, u) = out) (ph_B D cy b A fl) A) args s 0 0 A) (F0 m 177 ls []) := by
  unfold F2_valueFor_177 at f
  refine lv_iload_n S.1 S.2.1 dX2_valueFor_177 rfl (lv_at hl 1 rfl) ?_
  refine lv_iconst (v := 1) S.1 S.2.1 dX2_valueFor_178 (by decide) ?_
  refine lv_icmp_ne (tgt := 188) S.1 S.2.1 dX2_valueFor_179 (by decide) (fun q1 => ?_) (fun q1 => ?_)
  · have f := (if_neg q1).symm.trans f
    refine lv_ldc2 (v := (-9223372036854775808)) S.1 S.2.1 S.2.2.2.1 (S.2.2.2.2 _ (List.mem_cons_of_mem _ wT_25_14)) dX2_valueFor_188 ?_
    exact o_lret S hr hlo I f dX2_valueFor_191
  · have f := (if_pos q1).symm.trans f
    refine lv_aload_n S.1 S.2.1 dX2_valueFor_182 rfl (lv_at hl 0 rfl) ?_
    refine lv_iconst (v := 0) S.1 S.2.1 dX2_valueFor_183 (by decide) ?_
    obtain ⟨w3, e2, f⟩ := ob f
    refine o_lald S I e2 dX2_valueFor_184 ?_
    refine lv_goto (tgt := 191) S.1 S.2.1 dX2_valueFor_185 (by decide) ?_
    exact o_lret S hr hlo I f dX2_valueFor_191
set_option maxHeartbeats 4000000 in
set_option maxRecDepth 100000 in
theorem T2_valueFor_119 (S : CallFix p m c cX2_valueFor 8 s args vX2_valueFor RX2) (hr : meth.sig.returnType = (some .long)) (hlo : meth.locks = false) {out : Int64 × PH} {k5 : PH → Nat → Nat → Nat → Int32 → Int32 → Option (Int64 × PH)} (hk5 : ∀ {h : PH} {a0 : Nat} {a1 : Nat} {a2 : Nat} {x3 : Int32} {x4 : Int32}, k5 h a0 a1 a2 x3 x4 = some out → ∀ (H : Heap) (locs : List Loc), ph_I D cy b A fl h s H locs → ∀ (ls : Array Slot), lv_has ls 8 [(0, .ref (b + a0)), (1, .ref (b + a1)), (2, .ref (b + a2)), (3, .int x3), (4, .int x4)] → W p l e ({ frames := 2, cells := 0, slots := 0, locals := 51 } : Room) s m args below meth c H locs 0 0 (MQ below (va_Ql (fun (r : Int64) (u : PH) => (r, u) = out) (ph_B D cy b A fl) A) args s 0 0 A) (F0 m 5 ls [])) {h : PH} {a0 : Nat} {a1 : Nat} {a2 : Nat} {x3 : Int32} {x4 : Int32} {x5 : Int32} (f : F2_valueFor_119 k5 h a0 a1 a2 x3 x4 x5 = some out) {H : Heap} {locs : List Loc} (I : ph_I D cy b A fl h s H locs) {ls : Array Slot} (hl : lv_has ls 8 [(0, .ref (b + a0)), (1, .ref (b + a1)), (2, .ref (b + a2)), (3, .int x3), (4, .int x4), (5, .int x5)]) : W p l e ({ frames := 2, cells := 0, slots := 0, locals := 51 } : Room) s m args below meth c H locs 0 0 (MQ below (va_Ql (fun (r : Int64) (u : PH) => (r, u) = out) (ph_B D cy b A fl) A) args s 0 0 A) (F0 m 119 ls []) := by
  unfold F2_valueFor_119 at f
  refine lv_iload_n S.1 S.2.1 dX2_valueFor_119 rfl (lv_at hl 3 rfl) ?_
  refine lv_iconst (v := 1) S.1 S.2.1 dX2_valueFor_120 (by decide) ?_
  refine lv_icmp_le (tgt := 171) S.1 S.2.1 dX2_valueFor_121 (by decide) (fun q1 => ?_) (fun q1 => ?_)
  · have f := (if_pos q1).symm.trans f
    refine lv_iinc (v := (x4 + 1)) (lv' := [(4, .int (x4 + 1)), (0, .ref (b + a0)), (1, .ref (b + a1)), (2, .ref (b + a2)), (3, .int x3), (5, .int x5)]) S.1 S.2.1 dX2_valueFor_171 hl (k := 4) rfl (congrArg (fun z => x4 + z) (by decide)) (by decide) rfl (fun ls hl => ?_)
    refine lv_goto (tgt := 5) S.1 S.2.1 dX2_valueFor_174 (by decide) ?_
    exact hk5 f _ _ I _ (lv_sub hl [1, 2, 3, 4, 0] rfl)
  · have f := (if_neg q1).symm.trans f
    refine lv_iinc (v := (x3 + (-1))) (lv' := [(3, .int (x3 + (-1))), (0, .ref (b + a0)), (1, .ref (b + a1)), (2, .ref (b + a2)), (4, .int x4), (5, .int x5)]) S.1 S.2.1 dX2_valueFor_124 hl (k := 3) rfl (congrArg (fun z => x3 + z) (by decide)) (by decide) rfl (fun ls hl => ?_)
    refine lv_iload S.1 S.2.1 dX2_valueFor_127 (lv_at hl 5 rfl) ?_
    refine lv_aload_n S.1 S.2.1 dX2_valueFor_129 rfl (lv_at hl 3 rfl) ?_
    refine lv_iload_n S.1 S.2.1 dX2_valueFor_130 rfl (lv_at hl 0 rfl) ?_
    refine lv_iconst (v := 1) S.1 S.2.1 dX2_valueFor_131 (by decide) ?_
    refine lv_isub S.1 S.2.1 dX2_valueFor_132 ?_
    obtain ⟨w3, e2, f⟩ := ob f
    refine o_lald S I e2 dX2_valueFor_133 ?_
    refine lv_aload_n S.1 S.2.1 dX2_valueFor_134 rfl (lv_at hl 3 rfl) ?_
    refine lv_iload_n S.1 S.2.1 dX2_valueFor_135 rfl (lv_at hl 0 rfl) ?_
    obtain ⟨w5, e4, f⟩ := ob f
    refine o_lald S I e4 dX2_valueFor_136 ?_
    obtain ⟨o6, e7, f⟩ := ob f
    refine o_Sl S (As := [.int x5, .long w3, .long w5]) (rest := []) (M2_join l D cy b A fl e7) gX2_valueFor_X2_join rfl rfl rfl cd2_join ⟨Nat.le_of_ble_eq_true rfl, Nat.le_of_ble_eq_true rfl⟩ I rfl hl.1 rfl (Nat.le_of_ble_eq_true rfl) dX2_valueFor_137 ⟨Nat.le_of_ble_eq_true rfl, Nat.le_of_ble_eq_true rfl⟩ (fun H locs I => ?_)
    refine lv_lstore (lv' := [(6, .long o6.1), (3, .int (x3 + (-1))), (0, .ref (b + a0)), (1, .ref (b + a1)), (2, .ref (b + a2)), (4, .int x4), (5, .int x5)]) S.1 S.2.1 dX2_valueFor_140 hl (by decide) rfl (fun ls hl => ?_)
    refine lv_lload S.1 S.2.1 dX2_valueFor_142 (lv_at hl 0 rfl) ?_
    refine lv_ldc2 (v := 1000000000000) S.1 S.2.1 S.2.2.2.1 (S.2.2.2.2 _ (List.mem_cons_of_mem _ wT_25_12)) dX2_valueFor_144 ?_
    refine W.lcmp S.1 S.2.1 dX2_valueFor_147 ?_
    refine lv_if_gt (tgt := 160) S.1 S.2.1 dX2_valueFor_148 (by decide) (fun q8 => ?_) (fun q8 => ?_)
    · have f := (if_pos q8).symm.trans f
      refine lv_ldc2 (v := (-9223372036854775808)) S.1 S.2.1 S.2.2.2.1 (S.2.2.2.2 _ (List.mem_cons_of_mem _ wT_25_14)) dX2_valueFor_160 ?_
      exact o_lret S hr hlo I f dX2_valueFor_163
    · have f := (if_neg q8).symm.trans f
      refine lv_lload S.1 S.2.1 dX2_valueFor_151 (lv_at hl 0 rfl) ?_
      refine lv_ldc2 (v := (-1000000000000)) S.1 S.2.1 S.2.2.2.1 (S.2.2.2.2 _ (List.mem_cons_of_mem _ wT_25_13)) dX2_valueFor_153 ?_
      refine W.lcmp S.1 S.2.1 dX2_valueFor_156 ?_
      refine lv_if_ge (tgt := 164) S.1 S.2.1 dX2_valueFor_157 (by decide) (fun q9 => ?_) (fun q9 => ?_)
      · have f := (if_pos q9).symm.trans f
        refine lv_aload_n S.1 S.2.1 dX2_valueFor_164 rfl (lv_at hl 4 rfl) ?_
        refine lv_iload_n S.1 S.2.1 dX2_valueFor_165 rfl (lv_at hl 1 rfl) ?_
        refine lv_iconst (v := 1) S.1 S.2.1 dX2_valueFor_166 (by decide) ?_
        refine lv_isub S.1 S.2.1 dX2_valueFor_167 ?_
        refine lv_lload S.1 S.2.1 dX2_valueFor_168 (lv_at hl 0 rfl) ?_
        obtain ⟨h11, e10, f⟩ := ob f
        refine o_last S I e10 dX2_valueFor_170 (fun H locs I => ?_)
        refine lv_iinc (v := (x4 + 1)) (lv' := [(4, .int (x4 + 1)), (6, .long o6.1), (3, .int (x3 + (-1))), (0, .ref (b + a0)), (1, .ref (b + a1)), (2, .ref (b + a2)), (5, .int x5)]) S.1 S.2.1 dX2_valueFor_171 hl (k := 5) rfl (congrArg (fun z => x4 + z) (by decide)) (by decide) rfl (fun ls hl => ?_)
        refine lv_goto (tgt := 5) S.1 S.2.1 dX2_valueFor_174 (by decide) ?_
        exact hk5 f _ _ I _ (lv_sub hl [3, 4, 5, 2, 0] rfl)
      · have f := (if_neg q9).symm.trans f
        refine lv_ldc2 (v := (-9223372036854775808)) S.1 S.2.1 S.2.2.2.1 (S.2.2.2.2 _ (List.mem_cons_of_mem _ wT_25_14)) dX2_valueFor_160 ?_
        exact o_lret S hr hlo I f dX2_valueFor_163
set_option maxHeartbeats 4000000 in
set_option maxRecDepth 100000 in
theorem T2_valueFor_115 (S : CallFix p m c cX2_valueFor 8 s args vX2_valueFor RX2) (hr : meth.sig.returnType = (some .long)) (hlo : meth.locks = false) {out : Int64 × PH} {k5 : PH → Nat → Nat → Nat → Int32 → Int32 → Option (Int64 × PH)} (hk5 : ∀ {h : PH} {a0 : Nat} {a1 : Nat} {a2 : Nat} {x3 : Int32} {x4 : Int32}, k5 h a0 a1 a2 x3 x4 = some out → ∀ (H : Heap) (locs : List Loc), ph_I D cy b A fl h s H locs → ∀ (ls : Array Slot), lv_has ls 8 [(0, .ref (b + a0)), (1, .ref (b + a1)), (2, .ref (b + a2)), (3, .int x3), (4, .int x4)] → W p l e ({ frames := 2, cells := 0, slots := 0, locals := 51 } : Room) s m args below meth c H locs 0 0 (MQ below (va_Ql (fun (r : Int64) (u : PH) => (r, u) = out) (ph_B D cy b A fl) A) args s 0 0 A) (F0 m 5 ls [])) {h : PH} {a0 : Nat} {a1 : Nat} {a2 : Nat} {x3 : Int32} {x4 : Int32} {t0 : Int64} {s1 : Int32} {u2 : Nat} (f : F2_valueFor_115 k5 h a0 a1 a2 x3 x4 t0 s1 u2 = some out) {H : Heap} {locs : List Loc} (I : ph_I D cy b A fl h s H locs) {ls : Array Slot} (hl : lv_has ls 8 [(0, .ref (b + a0)), (1, .ref (b + a1)), (2, .ref (b + a2)), (3, .int x3), (4, .int x4)]) : W p l e ({ frames := 2, cells := 0, slots := 0, locals := 51 } : Room) s m args below meth c H locs 0 0 (MQ below (va_Ql (fun (r : Int64) (u : PH) => (r, u) = out) (ph_B D cy b A fl) A) args s 0 0 A) (F0 m 115 ls [.long t0, .int s1, .ref (b + u2)]) := by
  unfold F2_valueFor_115 at f
  obtain ⟨h2, e1, f⟩ := ob f
  refine o_last S I e1 dX2_valueFor_115 (fun H locs I => ?_)
  refine lv_goto (tgt := 171) S.1 S.2.1 dX2_valueFor_116 (by decide) ?_
  refine lv_iinc (v := (x4 + 1)) (lv' := [(4, .int (x4 + 1)), (0, .ref (b + a0)), (1, .ref (b + a1)), (2, .ref (b + a2)), (3, .int x3)]) S.1 S.2.1 dX2_valueFor_171 hl (k := 4) rfl (congrArg (fun z => x4 + z) (by decide)) (by decide) rfl (fun ls hl => ?_)
  refine lv_goto (tgt := 5) S.1 S.2.1 dX2_valueFor_174 (by decide) ?_
  exact hk5 f _ _ I _ (lv_sub hl [1, 2, 3, 4, 0] rfl)
set_option maxHeartbeats 4000000 in
set_option maxRecDepth 100000 in
theorem T2_valueFor_85 (S : CallFix p m c cX2_valueFor 8 s args vX2_valueFor RX2) (hr : meth.sig.returnType = (some .long)) (hlo : meth.locks = false) {out : Int64 × PH} {k5 : PH → Nat → Nat → Nat → Int32 → Int32 → Option (Int64 × PH)} (hk5 : ∀ {h : PH} {a0 : Nat} {a1 : Nat} {a2 : Nat} {x3 : Int32} {x4 : Int32}, k5 h a0 a1 a2 x3 x4 = some out → ∀ (H : Heap) (locs : List Loc), ph_I D cy b A fl h s H locs → ∀ (ls : Array Slot), lv_has ls 8 [(0, .ref (b + a0)), (1, .ref (b + a1)), (2, .ref (b + a2)), (3, .int x3), (4, .int x4)] → W p l e ({ frames := 2, cells := 0, slots := 0, locals := 51 } : Room) s m args below meth c H locs 0 0 (MQ below (va_Ql (fun (r : Int64) (u : PH) => (r, u) = out) (ph_B D cy b A fl) A) args s 0 0 A) (F0 m 5 ls [])) {h : PH} {a0 : Nat} {a1 : Nat} {a2 : Nat} {x3 : Int32} {x4 : Int32} {x5 : Int32} (f : F2_valueFor_85 k5 h a0 a1 a2 x3 x4 x5 = some out) {H : Heap} {locs : List Loc} (I : ph_I D cy b A fl h s H locs) {ls : Array Slot} (hl : lv_has ls 8 [(0, .ref (b + a0)), (1, .ref (b + a1)), (2, .ref (b + a2)), (3, .int x3), (4, .int x4), (5, .int x5)]) : W p l e ({ frames := 2, cells := 0, slots := 0, locals := 51 } : Room) s m args below meth c H locs 0 0 (MQ below (va_Ql (fun (r : Int64) (u : PH) => (r, u) = out) (ph_B D cy b A fl) A) args s 0 0 A) (F0 m 85 ls []) := by
  unfold F2_valueFor_85 at f
  refine lv_iload S.1 S.2.1 dX2_valueFor_85 (lv_at hl 5 rfl) ?_
  refine lv_bipush (v := 15) S.1 S.2.1 dX2_valueFor_87 (by decide) ?_
  refine lv_icmp_ne (tgt := 119) S.1 S.2.1 dX2_valueFor_89 (by decide) (fun q1 => ?_) (fun q1 => ?_)
  · have f := (if_neg q1).symm.trans f
    exact T2_valueFor_119 S hr hlo (fun f _ _ I _ hl => hk5 f _ _ I _ hl) f I (lv_sub hl [0, 1, 2, 3, 4, 5] rfl)
  · have f := (if_pos q1).symm.trans f
    refine lv_iload_n S.1 S.2.1 dX2_valueFor_92 rfl (lv_at hl 3 rfl) ?_
    refine lv_if_le (tgt := 119) S.1 S.2.1 dX2_valueFor_93 (by decide) (fun q2 => ?_) (fun q2 => ?_)
    · have f := (if_pos q2).symm.trans f
      exact T2_valueFor_119 S hr hlo (fun f _ _ I _ hl => hk5 f _ _ I _ hl) f I (lv_sub hl [0, 1, 2, 3, 4, 5] rfl)
    · have f := (if_neg q2).symm.trans f
      refine lv_aload_n S.1 S.2.1 dX2_valueFor_96 rfl (lv_at hl 2 rfl) ?_
      refine lv_iload_n S.1 S.2.1 dX2_valueFor_97 rfl (lv_at hl 3 rfl) ?_
      refine lv_iconst (v := 1) S.1 S.2.1 dX2_valueFor_98 (by decide) ?_
      refine lv_isub S.1 S.2.1 dX2_valueFor_99 ?_
      refine lv_aload_n S.1 S.2.1 dX2_valueFor_100 rfl (lv_at hl 2 rfl) ?_
      refine lv_iload_n S.1 S.2.1 dX2_valueFor_101 rfl (lv_at hl 3 rfl) ?_
      refine lv_iconst (v := 1) S.1 S.2.1 dX2_valueFor_102 (by decide) ?_
      refine lv_isub S.1 S.2.1 dX2_valueFor_103 ?_
      obtain ⟨w4, e3, f⟩ := ob f
      refine o_lald S I e3 dX2_valueFor_104 ?_
      refine lv_lconst (v := 0) S.1 S.2.1 dX2_valueFor_105 (by decide) ?_
      refine W.lcmp S.1 S.2.1 dX2_valueFor_106 ?_
      refine lv_if_ne (tgt := 114) S.1 S.2.1 dX2_valueFor_107 (by decide) (fun q5 => ?_) (fun q5 => ?_)
      · have f := (if_neg q5).symm.trans f
        refine lv_lconst (v := 0) S.1 S.2.1 dX2_valueFor_114 (by decide) ?_
        exact T2_valueFor_115 S hr hlo (fun f _ _ I _ hl => hk5 f _ _ I _ hl) f I (lv_sub hl [0, 1, 2, 3, 4] rfl)
      · have f := (if_pos q5).symm.trans f
        refine lv_lconst (v := 1) S.1 S.2.1 dX2_valueFor_110 (by decide) ?_
        refine lv_goto (tgt := 115) S.1 S.2.1 dX2_valueFor_111 (by decide) ?_
        exact T2_valueFor_115 S hr hlo (fun f _ _ I _ hl => hk5 f _ _ I _ hl) f I (lv_sub hl [0, 1, 2, 3, 4] rfl)
set_option maxHeartbeats 4000000 in
set_option maxRecDepth 100000 in
theorem T2_valueFor_5 (S : CallFix p m c cX2_valueFor 8 s args vX2_valueFor RX2) (hr : meth.sig.returnType = (some .long)) (hlo : meth.locks = false) {out : Int64 × PH} : ∀ (n : Nat) {h : PH} {a0 : Nat} {a1 : Nat} {a2 : Nat} {x3 : Int32} {x4 : Int32} (f : F2_valueFor_5  n h a0 a1 a2 x3 x4 = some out) {H : Heap} {locs : List Loc} (I : ph_I D cy b A fl h s H locs) {ls : Array Slot} (hl : lv_has ls 8 [(0, .ref (b + a0)), (1, .ref (b + a1)), (2, .ref (b + a2)), (3, .int x3), (4, .int x4)]), W p l e ({ frames := 2, cells := 0, slots := 0, locals := 51 } : Room) s m args below meth c H locs 0 0 (MQ below (va_Ql (fun (r : Int64) (u : PH) => (r, u) = out) (ph_B D cy b A fl) A) args s 0 0 A) (F0 m 5 ls []) := by
  intro n
  induction n with
  | zero => intro h a0 a1 a2 x3 x4 f; rw [F2_valueFor_5] at f; cases f
  | succ n ih =>
    intro h a0 a1 a2 x3 x4 f H locs I ls hl
    rw [F2_valueFor_5] at f
    refine lv_iload S.1 S.2.1 dX2_valueFor_5 (lv_at hl 4 rfl) ?_
    refine lv_aload_n S.1 S.2.1 dX2_valueFor_7 rfl (lv_at hl 0 rfl) ?_
    obtain ⟨v1, e2, f⟩ := ob f
    refine o_gI S lf2_valueFor_15 I e2 dX2_valueFor_8 ?_
    refine lv_icmp_ge (tgt := 177) S.1 S.2.1 dX2_valueFor_11 (by decide) (fun q3 => ?_) (fun q3 => ?_)
    · have f := (if_pos q3).symm.trans f
      exact T2_valueFor_177 S hr hlo  f I (lv_sub hl [2, 3] rfl)
    · have f := (if_neg q3).symm.trans f
      refine lv_iload_n S.1 S.2.1 dX2_valueFor_14 rfl (lv_at hl 3 rfl) ?_
      refine lv_aload_n S.1 S.2.1 dX2_valueFor_15 rfl (lv_at hl 2 rfl) ?_
      obtain ⟨v4, e5, f⟩ := ob f
      refine o_alen S I e5 dX2_valueFor_16 ?_
      refine lv_icmp_ge (tgt := 177) S.1 S.2.1 dX2_valueFor_17 (by decide) (fun q6 => ?_) (fun q6 => ?_)
      · have f := (if_pos q6).symm.trans f
        exact T2_valueFor_177 S hr hlo  f I (lv_sub hl [2, 3] rfl)
      · have f := (if_neg q6).symm.trans f
        refine lv_aload_n S.1 S.2.1 dX2_valueFor_20 rfl (lv_at hl 0 rfl) ?_
        obtain ⟨r7, e8, f⟩ := ob f
        refine o_gR S lf2_valueFor_9 I e8 dX2_valueFor_21 ?_
        refine lv_iload S.1 S.2.1 dX2_valueFor_24 (lv_at hl 4 rfl) ?_
        obtain ⟨v10, e9, f⟩ := ob f
        refine o_iald S I e9 dX2_valueFor_26 ?_
        refine lv_sipush (v := 10000) S.1 S.2.1 dX2_valueFor_27 (by decide) ?_
        refine lv_isub S.1 S.2.1 dX2_valueFor_30 ?_
        refine lv_istore (lv' := [(5, .int (v10 - 10000)), (0, .ref (b + a0)), (1, .ref (b + a1)), (2, .ref (b + a2)), (3, .int x3), (4, .int x4)]) S.1 S.2.1 dX2_valueFor_31 hl (by decide) rfl (fun ls hl => ?_)
        refine lv_iload S.1 S.2.1 dX2_valueFor_33 (lv_at hl 0 rfl) ?_
        refine lv_if_ge (tgt := 55) S.1 S.2.1 dX2_valueFor_35 (by decide) (fun q11 => ?_) (fun q11 => ?_)
        · have f := (if_pos q11).symm.trans f
          refine lv_iload S.1 S.2.1 dX2_valueFor_55 (lv_at hl 0 rfl) ?_
          refine lv_bipush (v := 18) S.1 S.2.1 dX2_valueFor_57 (by decide) ?_
          refine lv_icmp_lt (tgt := 85) S.1 S.2.1 dX2_valueFor_59 (by decide) (fun q12 => ?_) (fun q12 => ?_)
          · have f := (if_pos q12).symm.trans f
            exact T2_valueFor_85 S hr hlo (fun f _ _ I _ hl => ih f I hl) f I (lv_sub hl [1, 2, 3, 4, 5, 0] rfl)
          · have f := (if_neg q12).symm.trans f
            refine lv_iload S.1 S.2.1 dX2_valueFor_62 (lv_at hl 0 rfl) ?_
            refine lv_bipush (v := 24) S.1 S.2.1 dX2_valueFor_64 (by decide) ?_
            refine lv_icmp_ge (tgt := 85) S.1 S.2.1 dX2_valueFor_66 (by decide) (fun q13 => ?_) (fun q13 => ?_)
            · have f := (if_pos q13).symm.trans f
              exact T2_valueFor_85 S hr hlo (fun f _ _ I _ hl => ih f I hl) f I (lv_sub hl [1, 2, 3, 4, 5, 0] rfl)
            · have f := (if_neg q13).symm.trans f
              refine lv_aload_n S.1 S.2.1 dX2_valueFor_69 rfl (lv_at hl 3 rfl) ?_
              refine lv_iload_n S.1 S.2.1 dX2_valueFor_70 rfl (lv_at hl 4 rfl) ?_
              refine lv_aload_n S.1 S.2.1 dX2_valueFor_71 rfl (lv_at hl 2 rfl) ?_
              refine lv_iload S.1 S.2.1 dX2_valueFor_72 (lv_at hl 0 rfl) ?_
              refine lv_bipush (v := 18) S.1 S.2.1 dX2_valueFor_74 (by decide) ?_
              refine lv_isub S.1 S.2.1 dX2_valueFor_76 ?_
              obtain ⟨w15, e14, f⟩ := ob f
              refine o_lald S I e14 dX2_valueFor_77 ?_
              obtain ⟨h17, e16, f⟩ := ob f
              refine o_last S I e16 dX2_valueFor_78 (fun H locs I => ?_)
              refine lv_iinc (v := (x3 + 1)) (lv' := [(3, .int (x3 + 1)), (5, .int (v10 - 10000)), (0, .ref (b + a0)), (1, .ref (b + a1)), (2, .ref (b + a2)), (4, .int x4)]) S.1 S.2.1 dX2_valueFor_79 hl (k := 4) rfl (congrArg (fun z => x3 + z) (by decide)) (by decide) rfl (fun ls hl => ?_)
              refine lv_goto (tgt := 171) S.1 S.2.1 dX2_valueFor_82 (by decide) ?_
              refine lv_iinc (v := (x4 + 1)) (lv' := [(4, .int (x4 + 1)), (3, .int (x3 + 1)), (5, .int (v10 - 10000)), (0, .ref (b + a0)), (1, .ref (b + a1)), (2, .ref (b + a2))]) S.1 S.2.1 dX2_valueFor_171 hl (k := 5) rfl (congrArg (fun z => x4 + z) (by decide)) (by decide) rfl (fun ls hl => ?_)
              refine lv_goto (tgt := 5) S.1 S.2.1 dX2_valueFor_174 (by decide) ?_
              exact ih f I (lv_sub hl [3, 4, 5, 1, 0] rfl)
        · have f := (if_neg q11).symm.trans f
          refine lv_aload_n S.1 S.2.1 dX2_valueFor_38 rfl (lv_at hl 3 rfl) ?_
          refine lv_iload_n S.1 S.2.1 dX2_valueFor_39 rfl (lv_at hl 4 rfl) ?_
          refine lv_aload_n S.1 S.2.1 dX2_valueFor_40 rfl (lv_at hl 1 rfl) ?_
          obtain ⟨r18, e19, f⟩ := ob f
          refine o_gR S lf2_valueFor_9 I e19 dX2_valueFor_41 ?_
          refine lv_iload S.1 S.2.1 dX2_valueFor_44 (lv_at hl 5 rfl) ?_
          obtain ⟨v21, e20, f⟩ := ob f
          refine o_iald S I e20 dX2_valueFor_46 ?_
          refine lv_i2l (v := Int32.toInt64 v21) S.1 S.2.1 dX2_valueFor_47 rfl ?_
          obtain ⟨h23, e22, f⟩ := ob f
          refine o_last S I e22 dX2_valueFor_48 (fun H locs I => ?_)
          refine lv_iinc (v := (x3 + 1)) (lv' := [(3, .int (x3 + 1)), (5, .int (v10 - 10000)), (0, .ref (b + a0)), (1, .ref (b + a1)), (2, .ref (b + a2)), (4, .int x4)]) S.1 S.2.1 dX2_valueFor_49 hl (k := 4) rfl (congrArg (fun z => x3 + z) (by decide)) (by decide) rfl (fun ls hl => ?_)
          refine lv_goto (tgt := 171) S.1 S.2.1 dX2_valueFor_52 (by decide) ?_
          refine lv_iinc (v := (x4 + 1)) (lv' := [(4, .int (x4 + 1)), (3, .int (x3 + 1)), (5, .int (v10 - 10000)), (0, .ref (b + a0)), (1, .ref (b + a1)), (2, .ref (b + a2))]) S.1 S.2.1 dX2_valueFor_171 hl (k := 5) rfl (congrArg (fun z => x4 + z) (by decide)) (by decide) rfl (fun ls hl => ?_)
          refine lv_goto (tgt := 5) S.1 S.2.1 dX2_valueFor_174 (by decide) ?_
          exact ih f I (lv_sub hl [3, 4, 5, 1, 0] rfl)
set_option maxHeartbeats 4000000 in
set_option maxRecDepth 100000 in
theorem T2_valueFor_0 (S : CallFix p m c cX2_valueFor 8 s args vX2_valueFor RX2) (hr : meth.sig.returnType = (some .long)) (hlo : meth.locks = false) {out : Int64 × PH} {h : PH} {a0 : Nat} {a1 : Nat} {a2 : Nat} (f : F2_valueFor_0  h a0 a1 a2 = some out) {H : Heap} {locs : List Loc} (I : ph_I D cy b A fl h s H locs) {ls : Array Slot} (hl : lv_has ls 8 [(0, .ref (b + a0)), (1, .ref (b + a1)), (2, .ref (b + a2))]) : W p l e ({ frames := 2, cells := 0, slots := 0, locals := 51 } : Room) s m args below meth c H locs 0 0 (MQ below (va_Ql (fun (r : Int64) (u : PH) => (r, u) = out) (ph_B D cy b A fl) A) args s 0 0 A) (F0 m 0 ls []) := by
  unfold F2_valueFor_0 at f
  refine lv_iconst (v := 0) S.1 S.2.1 dX2_valueFor_0 (by decide) ?_
  refine lv_istore_n (lv' := [(3, .int 0), (0, .ref (b + a0)), (1, .ref (b + a1)), (2, .ref (b + a2))]) S.1 S.2.1 dX2_valueFor_1 rfl hl (by decide) rfl (fun ls hl => ?_)
  refine lv_iconst (v := 0) S.1 S.2.1 dX2_valueFor_2 (by decide) ?_
  refine lv_istore (lv' := [(4, .int 0), (3, .int 0), (0, .ref (b + a0)), (1, .ref (b + a1)), (2, .ref (b + a2))]) S.1 S.2.1 dX2_valueFor_3 hl (by decide) rfl (fun ls hl => ?_)
  exact T2_valueFor_5 S hr hlo  1024 f I (lv_sub hl [2, 3, 4, 1, 0] rfl)
theorem M2_valueFor (l : Launch) (D : va_G) (cy : Nat → ClassId) (b : Nat) (A : Nat → Prop) (fl : Bool) {h : PH} {a0 : Nat} {a1 : Nat} {a2 : Nat} {out : Int64 × PH} (f : F2_valueFor h a0 a1 a2 = some out) : Met l yX2_valueFor vX2_valueFor ({ frames := 2, cells := 0, slots := 0, locals := 51 } : Room) (va_Pc [.ref (b + a0), .ref (b + a1), .ref (b + a2)] (ph_B D cy b A fl h)) (va_Ql (fun (r : Int64) (u : PH) => (r, u) = out) (ph_B D cy b A fl) A) 0 0 A :=
  o_met (by decide) rfl (Nat.le_of_ble_eq_true rfl) rfl (fun p e s m below meth c S hr hlo hnm ls hl I => T2_valueFor_0 S hr hlo ((gd f).2) I (lv_sub hl [0, 1, 2] rfl))
def vX6_awayFor : List Cond := .code yX6_awayFor cX6_awayFor 5 (some .int) :: TB
theorem gX6_awayFor_X6_nameAway : GoodIn vX6_awayFor (wsV RX6 118 RX6 yX6_nameAway vX6_nameAway) := gV_of wT_38_22 wT_38_23 wT_39_0 wT_2_2 wT_39_1
theorem lf6_awayFor_9 : Fl vX6_awayFor RX6 9 6 0 := ⟨RX6, TX6, 9, rfl, by decide, (fun w h9 => List.mem_cons_of_mem _ (wC_wsX60 w h9)), (List.mem_cons_of_mem _ wT_7_15)⟩
theorem lf6_awayFor_76 : Fl vX6_awayFor RX6 76 8 11 := ⟨RX8, TX8, 14, rfl, by decide, (fun w h9 => List.mem_cons_of_mem _ (wC_wsX80 w h9)), (List.mem_cons_of_mem _ wT_25_7)⟩
theorem lf6_awayFor_25 : Fl vX6_awayFor RX6 25 6 4 := ⟨RX6, TX6, 9, rfl, by decide, (fun w h9 => List.mem_cons_of_mem _ (wC_wsX60 w h9)), (List.mem_cons_of_mem _ wT_7_19)⟩
theorem lf6_awayFor_29 : Fl vX6_awayFor RX6 29 6 5 := ⟨RX6, TX6, 9, rfl, by decide, (fun w h9 => List.mem_cons_of_mem _ (wC_wsX60 w h9)), (List.mem_cons_of_mem _ wT_7_20)⟩
theorem gX6_awayFor_X2_valueFor : GoodIn vX6_awayFor (wsV RX6 80 RX2 yX2_valueFor vX2_valueFor) := gV_of wT_25_8 wT_25_9 wT_25_10 wT_3_14 wT_25_11
theorem cd6_awayFor : Cd yX6_awayFor 2 := ⟨by decide, by decide, by decide +kernel⟩
set_option maxHeartbeats 4000000 in
set_option maxRecDepth 100000 in
theorem T6_awayFor_0 (S : CallFix p m c cX6_awayFor 5 s args vX6_awayFor RX6) (hr : meth.sig.returnType = (some .int)) (hlo : meth.locks = false) {out : Int32 × PH} {h : PH} {a0 : Nat} {x1 : Int32} {x2 : Int32} (f : F6_awayFor_0  h a0 x1 x2 = some out) {H : Heap} {locs : List Loc} (I : ph_I D cy b A fl h s H locs) {ls : Array Slot} (hl : lv_has ls 5 [(0, .ref (b + a0)), (1, .int x1), (2, .int x2)]) : W p l e ({ frames := 3, cells := 0, slots := 0, locals := 78 } : Room) s m args below meth c H locs 0 0 (MQ below (va_Qi (fun (r : Int32) (u : PH) => (r, u) = out) (ph_B D cy b A fl) A) args s 0 0 A) (F0 m 0 ls []) := by
  unfold F6_awayFor_0 at f
  refine lv_aload_n S.1 S.2.1 dX6_awayFor_0 rfl (lv_at hl 0 rfl) ?_
  refine lv_iload_n S.1 S.2.1 dX6_awayFor_1 rfl (lv_at hl 1 rfl) ?_
  refine lv_iload_n S.1 S.2.1 dX6_awayFor_2 rfl (lv_at hl 2 rfl) ?_
  obtain ⟨o1, e2, f⟩ := ob f
  refine o_Vv S (As := [.int x1, .int x2]) (rest := []) (ci := 6) (M6_nameAway l D cy b A fl e2) gX6_awayFor_X6_nameAway rfl rfl rfl cd6_nameAway ⟨Nat.le_of_ble_eq_true rfl, Nat.le_of_ble_eq_true rfl⟩ I (gd e2).1 clX6 rfl rfl hl.1 rfl (Nat.le_of_ble_eq_true rfl) dX6_awayFor_3 ⟨Nat.le_of_ble_eq_true rfl, Nat.le_of_ble_eq_true rfl⟩ (fun H locs I => ?_)
  refine lv_aload_n S.1 S.2.1 dX6_awayFor_6 rfl (lv_at hl 0 rfl) ?_
  obtain ⟨r3, e4, f⟩ := ob f
  refine o_gR S lf6_awayFor_9 I e4 dX6_awayFor_7 ?_
  obtain ⟨r5, e6, f⟩ := ob f
  refine o_gR S lf6_awayFor_76 I e6 dX6_awayFor_10 ?_
  refine lv_iconst (v := 2) S.1 S.2.1 dX6_awayFor_13 (by decide) ?_
  obtain ⟨r8, e7, f⟩ := ob f
  refine o_aald S I e7 dX6_awayFor_14 ?_
  refine lv_aload_n S.1 S.2.1 dX6_awayFor_15 rfl (lv_at hl 0 rfl) ?_
  obtain ⟨r9, e10, f⟩ := ob f
  refine o_gR S lf6_awayFor_25 I e10 dX6_awayFor_16 ?_
  refine lv_aload_n S.1 S.2.1 dX6_awayFor_19 rfl (lv_at hl 0 rfl) ?_
  obtain ⟨r11, e12, f⟩ := ob f
  refine o_gR S lf6_awayFor_29 I e12 dX6_awayFor_20 ?_
  obtain ⟨o13, e14, f⟩ := ob f
  refine o_Vl S (As := [.ref (b + r9), .ref (b + r11)]) (rest := []) (ci := 2) (M2_valueFor l D cy b A fl e14) gX6_awayFor_X2_valueFor rfl rfl rfl cd2_valueFor ⟨Nat.le_of_ble_eq_true rfl, Nat.le_of_ble_eq_true rfl⟩ I (gd e14).1 clX2 rfl rfl hl.1 rfl (Nat.le_of_ble_eq_true rfl) dX6_awayFor_23 ⟨Nat.le_of_ble_eq_true rfl, Nat.le_of_ble_eq_true rfl⟩ (fun H locs I => ?_)
  refine lv_lstore_n (lv' := [(3, .long o13.1), (0, .ref (b + a0)), (1, .int x1), (2, .int x2)]) S.1 S.2.1 dX6_awayFor_26 rfl hl (by decide) rfl (fun ls hl => ?_)
  refine lv_lload_n S.1 S.2.1 dX6_awayFor_27 rfl (lv_at hl 0 rfl) ?_
  refine lv_ldc2 (v := (-9223372036854775808)) S.1 S.2.1 S.2.2.2.1 (S.2.2.2.2 _ (List.mem_cons_of_mem _ wT_24_17)) dX6_awayFor_28 ?_
  refine W.lcmp S.1 S.2.1 dX6_awayFor_31 ?_
  refine lv_if_ne (tgt := 39) S.1 S.2.1 dX6_awayFor_32 (by decide) (fun q15 => ?_) (fun q15 => ?_)
  · have f := (if_neg q15).symm.trans f
    refine lv_lconst (v := 1) S.1 S.2.1 dX6_awayFor_39 (by decide) ?_
    refine lv_ldc2 (v := 30) S.1 S.2.1 S.2.2.2.1 (S.2.2.2.2 _ (List.mem_cons_of_mem _ wT_46_3)) dX6_awayFor_40 ?_
    refine lv_lload_n S.1 S.2.1 dX6_awayFor_43 rfl (lv_at hl 0 rfl) ?_
    refine va_mmin_long S.1 S.2.1 (by rw [S.2.2.1, hl.1]) S.2.2.2.1 (S.2.2.2.2 _ (List.mem_cons_of_mem _ wT_24_20)) (S.2.2.2.2 _ (List.mem_cons_of_mem _ wT_24_21)) (S.2.2.2.2 _ (List.mem_cons_of_mem _ wT_15_17)) (S.2.2.2.2 _ (List.mem_cons_of_mem _ wT_24_22)) (Nat.le_of_ble_eq_true rfl) (Nat.le_of_ble_eq_true rfl) (Nat.zero_le _) (Nat.zero_le _) dX6_awayFor_44 ?_
    refine va_mmax_long S.1 S.2.1 (by rw [S.2.2.1, hl.1]) S.2.2.2.1 (S.2.2.2.2 _ (List.mem_cons_of_mem _ wT_24_23)) (S.2.2.2.2 _ (List.mem_cons_of_mem _ wT_25_0)) (S.2.2.2.2 _ (List.mem_cons_of_mem _ wT_15_17)) (S.2.2.2.2 _ (List.mem_cons_of_mem _ wT_25_1)) (Nat.le_of_ble_eq_true rfl) (Nat.le_of_ble_eq_true rfl) (Nat.zero_le _) (Nat.zero_le _) dX6_awayFor_47 ?_
    refine lv_l2i (v := Int64.toInt32 (if (if o13.1 < (30 : Int64) then o13.1 else (30 : Int64)) < (1 : Int64) then (1 : Int64) else (if o13.1 < (30 : Int64) then o13.1 else (30 : Int64)))) S.1 S.2.1 dX6_awayFor_50 rfl ?_
    exact o_iret S hr hlo I f dX6_awayFor_51
  · have f := (if_pos q15).symm.trans f
    refine lv_iconst (v := 5) S.1 S.2.1 dX6_awayFor_35 (by decide) ?_
    refine lv_goto (tgt := 51) S.1 S.2.1 dX6_awayFor_36 (by decide) ?_
    exact o_iret S hr hlo I f dX6_awayFor_51
theorem M6_awayFor (l : Launch) (D : va_G) (cy : Nat → ClassId) (b : Nat) (A : Nat → Prop) (fl : Bool) {h : PH} {a0 : Nat} {x1 : Int32} {x2 : Int32} {out : Int32 × PH} (f : F6_awayFor h a0 x1 x2 = some out) : Met l yX6_awayFor vX6_awayFor ({ frames := 3, cells := 0, slots := 0, locals := 78 } : Room) (va_Pc [.ref (b + a0), .int x1, .int x2] (ph_B D cy b A fl h)) (va_Qi (fun (r : Int32) (u : PH) => (r, u) = out) (ph_B D cy b A fl) A) 0 0 A :=
  o_met (by decide) rfl (Nat.le_of_ble_eq_true rfl) rfl (fun p e s m below meth c S hr hlo hnm ls hl I => T6_awayFor_0 S hr hlo ((gd f).2) I (lv_sub hl [0, 1, 2] rfl))
def vX8_farFrom : List Cond := .code yX8_farFrom cX8_farFrom 3 (some .int) :: TB
theorem lf8_farFrom_32 : Fl vX8_farFrom RX8 32 8 0 := ⟨RX8, TX8, 14, rfl, by decide, (fun w h9 => List.mem_cons_of_mem _ (wC_wsX80 w h9)), (List.mem_cons_of_mem _ wT_3_15)⟩
theorem lf8_farFrom_42 : Fl vX8_farFrom RX8 42 8 3 := ⟨RX8, TX8, 14, rfl, by decide, (fun w h9 => List.mem_cons_of_mem _ (wC_wsX80 w h9)), (List.mem_cons_of_mem _ wT_14_14)⟩
theorem cd8_farFrom : Cd yX8_farFrom 2 := ⟨by decide, by decide, by decide +kernel⟩
set_option maxHeartbeats 4000000 in
set_option maxRecDepth 100000 in
theorem T8_farFrom_0 (S : CallFix p m c cX8_farFrom 3 s args vX8_farFrom RX8) (hr : meth.sig.returnType = (some .int)) (hlo : meth.locks = false) {out : Int32 × PH} {h : PH} {a0 : Nat} {x1 : Int32} {x2 : Int32} (f : F8_farFrom_0  h a0 x1 x2 = some out) {H : Heap} {locs : List Loc} (I : ph_I D cy b A fl h s H locs) {ls : Array Slot} (hl : lv_has ls 3 [(0, .ref (b + a0)), (1, .int x1), (2, .int x2)]) : W p l e ({ frames := 1, cells := 0, slots := 0, locals := 24 } : Room) s m args below meth c H locs 0 0 (MQ below (va_Qi (fun (r : Int32) (u : PH) => (r, u) = out) (ph_B D cy b A fl) A) args s 0 0 A) (F0 m 0 ls []) := by
  unfold F8_farFrom_0 at f
  refine lv_aload_n S.1 S.2.1 dX8_farFrom_0 rfl (lv_at hl 0 rfl) ?_
  obtain ⟨v1, e2, f⟩ := ob f
  refine o_gI S lf8_farFrom_32 I e2 dX8_farFrom_1 ?_
  refine lv_iconst (v := 1) S.1 S.2.1 dX8_farFrom_4 (by decide) ?_
  refine lv_icmp_ge (tgt := 10) S.1 S.2.1 dX8_farFrom_5 (by decide) (fun q3 => ?_) (fun q3 => ?_)
  · have f := (if_pos q3).symm.trans f
    refine lv_iload_n S.1 S.2.1 dX8_farFrom_10 rfl (lv_at hl 1 rfl) ?_
    refine lv_aload_n S.1 S.2.1 dX8_farFrom_11 rfl (lv_at hl 0 rfl) ?_
    obtain ⟨v4, e5, f⟩ := ob f
    refine o_gI S lf8_farFrom_32 I e5 dX8_farFrom_12 ?_
    have q6 : ¬ v4 = 0 := fun q => by rw [if_pos q] at f; cases f
    have f := (if_neg q6).symm.trans f
    refine lv_irem S.1 S.2.1 dX8_farFrom_15 q6 ?_
    refine lv_iload_n S.1 S.2.1 dX8_farFrom_16 rfl (lv_at hl 2 rfl) ?_
    refine lv_isub S.1 S.2.1 dX8_farFrom_17 ?_
    refine va_mabs S.1 S.2.1 (by rw [S.2.2.1, hl.1]) S.2.2.2.1 (S.2.2.2.2 _ (List.mem_cons_of_mem _ wT_34_7)) (S.2.2.2.2 _ (List.mem_cons_of_mem _ wT_34_8)) (S.2.2.2.2 _ (List.mem_cons_of_mem _ wT_15_17)) (S.2.2.2.2 _ (List.mem_cons_of_mem _ wT_34_9)) (Nat.le_of_ble_eq_true rfl) (Nat.le_of_ble_eq_true rfl) (Nat.zero_le _) (Nat.zero_le _) dX8_farFrom_18 ?_
    refine lv_iload_n S.1 S.2.1 dX8_farFrom_21 rfl (lv_at hl 1 rfl) ?_
    refine lv_aload_n S.1 S.2.1 dX8_farFrom_22 rfl (lv_at hl 0 rfl) ?_
    obtain ⟨v7, e8, f⟩ := ob f
    refine o_gI S lf8_farFrom_32 I e8 dX8_farFrom_23 ?_
    have q9 : ¬ v7 = 0 := fun q => by rw [if_pos q] at f; cases f
    have f := (if_neg q9).symm.trans f
    refine lv_idiv S.1 S.2.1 dX8_farFrom_26 q9 ?_
    refine lv_aload_n S.1 S.2.1 dX8_farFrom_27 rfl (lv_at hl 0 rfl) ?_
    obtain ⟨v10, e11, f⟩ := ob f
    refine o_gI S lf8_farFrom_42 I e11 dX8_farFrom_28 ?_
    refine lv_isub S.1 S.2.1 dX8_farFrom_31 ?_
    refine va_mabs S.1 S.2.1 (by rw [S.2.2.1, hl.1]) S.2.2.2.1 (S.2.2.2.2 _ (List.mem_cons_of_mem _ wT_34_7)) (S.2.2.2.2 _ (List.mem_cons_of_mem _ wT_34_8)) (S.2.2.2.2 _ (List.mem_cons_of_mem _ wT_15_17)) (S.2.2.2.2 _ (List.mem_cons_of_mem _ wT_34_9)) (Nat.le_of_ble_eq_true rfl) (Nat.le_of_ble_eq_true rfl) (Nat.zero_le _) (Nat.zero_le _) dX8_farFrom_32 ?_
    refine lv_iadd S.1 S.2.1 dX8_farFrom_35 ?_
    exact o_iret S hr hlo I f dX8_farFrom_36
  · have f := (if_neg q3).symm.trans f
    refine lv_iconst (v := 0) S.1 S.2.1 dX8_farFrom_8 (by decide) ?_
    exact o_iret S hr hlo I f dX8_farFrom_9
theorem M8_farFrom (l : Launch) (D : va_G) (cy : Nat → ClassId) (b : Nat) (A : Nat → Prop) (fl : Bool) {h : PH} {a0 : Nat} {x1 : Int32} {x2 : Int32} {out : Int32 × PH} (f : F8_farFrom h a0 x1 x2 = some out) : Met l yX8_farFrom vX8_farFrom ({ frames := 1, cells := 0, slots := 0, locals := 24 } : Room) (va_Pc [.ref (b + a0), .int x1, .int x2] (ph_B D cy b A fl h)) (va_Qi (fun (r : Int32) (u : PH) => (r, u) = out) (ph_B D cy b A fl) A) 0 0 A :=
  o_met (by decide) rfl (Nat.le_of_ble_eq_true rfl) rfl (fun p e s m below meth c S hr hlo hnm ls hl I => T8_farFrom_0 S hr hlo ((gd f).2) I (lv_sub hl [0, 1, 2] rfl))
def vX8_rowOf : List Cond := .code yX8_rowOf cX8_rowOf 2 (some .int) :: TB
theorem lf8_rowOf_32 : Fl vX8_rowOf RX8 32 8 0 := ⟨RX8, TX8, 14, rfl, by decide, (fun w h9 => List.mem_cons_of_mem _ (wC_wsX80 w h9)), (List.mem_cons_of_mem _ wT_3_15)⟩
theorem cd8_rowOf : Cd yX8_rowOf 1 := ⟨by decide, by decide, by decide +kernel⟩
set_option maxHeartbeats 4000000 in
set_option maxRecDepth 100000 in
theorem T8_rowOf_0 (S : CallFix p m c cX8_rowOf 2 s args vX8_rowOf RX8) (hr : meth.sig.returnType = (some .int)) (hlo : meth.locks = false) {out : Int32 × PH} {h : PH} {a0 : Nat} {x1 : Int32} (f : F8_rowOf_0  h a0 x1 = some out) {H : Heap} {locs : List Loc} (I : ph_I D cy b A fl h s H locs) {ls : Array Slot} (hl : lv_has ls 2 [(0, .ref (b + a0)), (1, .int x1)]) : W p l e ({ frames := 0, cells := 0, slots := 0, locals := 0 } : Room) s m args below meth c H locs 0 0 (MQ below (va_Qi (fun (r : Int32) (u : PH) => (r, u) = out) (ph_B D cy b A fl) A) args s 0 0 A) (F0 m 0 ls []) := by
  unfold F8_rowOf_0 at f
  refine lv_aload_n S.1 S.2.1 dX8_rowOf_0 rfl (lv_at hl 0 rfl) ?_
  obtain ⟨v1, e2, f⟩ := ob f
  refine o_gI S lf8_rowOf_32 I e2 dX8_rowOf_1 ?_
  refine lv_if_le (tgt := 16) S.1 S.2.1 dX8_rowOf_4 (by decide) (fun q3 => ?_) (fun q3 => ?_)
  · have f := (if_pos q3).symm.trans f
    refine lv_iconst (v := 0) S.1 S.2.1 dX8_rowOf_16 (by decide) ?_
    exact o_iret S hr hlo I f dX8_rowOf_17
  · have f := (if_neg q3).symm.trans f
    refine lv_iload_n S.1 S.2.1 dX8_rowOf_7 rfl (lv_at hl 1 rfl) ?_
    refine lv_aload_n S.1 S.2.1 dX8_rowOf_8 rfl (lv_at hl 0 rfl) ?_
    obtain ⟨v4, e5, f⟩ := ob f
    refine o_gI S lf8_rowOf_32 I e5 dX8_rowOf_9 ?_
    have q6 : ¬ v4 = 0 := fun q => by rw [if_pos q] at f; cases f
    have f := (if_neg q6).symm.trans f
    refine lv_idiv S.1 S.2.1 dX8_rowOf_12 q6 ?_
    refine lv_goto (tgt := 17) S.1 S.2.1 dX8_rowOf_13 (by decide) ?_
    exact o_iret S hr hlo I f dX8_rowOf_17
theorem M8_rowOf (l : Launch) (D : va_G) (cy : Nat → ClassId) (b : Nat) (A : Nat → Prop) (fl : Bool) {h : PH} {a0 : Nat} {x1 : Int32} {out : Int32 × PH} (f : F8_rowOf h a0 x1 = some out) : Met l yX8_rowOf vX8_rowOf ({ frames := 0, cells := 0, slots := 0, locals := 0 } : Room) (va_Pc [.ref (b + a0), .int x1] (ph_B D cy b A fl h)) (va_Qi (fun (r : Int32) (u : PH) => (r, u) = out) (ph_B D cy b A fl) A) 0 0 A :=
  o_met (by decide) rfl (Nat.le_of_ble_eq_true rfl) rfl (fun p e s m below meth c S hr hlo hnm ls hl I => T8_rowOf_0 S hr hlo ((gd f).2) I (lv_sub hl [0, 1] rfl))
def vX6_nameCatch : List Cond := .code yX6_nameCatch cX6_nameCatch 4 none :: TB
theorem gX6_nameCatch_X6_nameAway : GoodIn vX6_nameCatch (wsV RX6 118 RX6 yX6_nameAway vX6_nameAway) := gV_of wT_38_22 wT_38_23 wT_39_0 wT_2_2 wT_39_1
theorem lf6_nameCatch_25 : Fl vX6_nameCatch RX6 25 6 4 := ⟨RX6, TX6, 9, rfl, by decide, (fun w h9 => List.mem_cons_of_mem _ (wC_wsX60 w h9)), (List.mem_cons_of_mem _ wT_7_19)⟩
theorem lf6_nameCatch_9 : Fl vX6_nameCatch RX6 9 6 0 := ⟨RX6, TX6, 9, rfl, by decide, (fun w h9 => List.mem_cons_of_mem _ (wC_wsX60 w h9)), (List.mem_cons_of_mem _ wT_7_15)⟩
theorem lf6_nameCatch_22 : Fl vX6_nameCatch RX6 22 6 3 := ⟨RX6, TX6, 9, rfl, by decide, (fun w h9 => List.mem_cons_of_mem _ (wC_wsX60 w h9)), (List.mem_cons_of_mem _ wT_7_18)⟩
theorem gX6_nameCatch_X8_farFrom : GoodIn vX6_nameCatch (wsV RX6 108 RX8 yX8_farFrom vX8_farFrom) := gV_of wT_39_4 wT_34_4 wT_34_5 wT_1_17 wT_34_6
theorem gX6_nameCatch_X8_rowOf : GoodIn vX6_nameCatch (wsV RX6 122 RX8 yX8_rowOf vX8_rowOf) := gV_of wT_39_5 wT_39_6 wT_39_7 wT_1_17 wT_39_8
theorem lf6_nameCatch_125 : Fl vX6_nameCatch RX6 125 8 3 := ⟨RX8, TX8, 14, rfl, by decide, (fun w h9 => List.mem_cons_of_mem _ (wC_wsX80 w h9)), (List.mem_cons_of_mem _ wT_38_21)⟩
theorem cd6_nameCatch : Cd yX6_nameCatch 3 := ⟨by decide, by decide, by decide +kernel⟩
set_option maxHeartbeats 4000000 in
set_option maxRecDepth 100000 in
theorem T6_nameCatch_0 (S : CallFix p m c cX6_nameCatch 4 s args vX6_nameCatch RX6) (hr : meth.sig.returnType = none) (hlo : meth.locks = false) {out : PH} {h : PH} {a0 : Nat} {x1 : Int32} {x2 : Int32} {x3 : Int32} (f : F6_nameCatch_0  h a0 x1 x2 x3 = some out) {H : Heap} {locs : List Loc} (I : ph_I D cy b A fl h s H locs) {ls : Array Slot} (hl : lv_has ls 4 [(0, .ref (b + a0)), (1, .int x1), (2, .int x2), (3, .int x3)]) : W p l e ({ frames := 2, cells := 0, slots := 0, locals := 46 } : Room) s m args below meth c H locs 0 0 (MQ below (va_Qv (fun (u : PH) => u = out) (ph_B D cy b A fl) A) args s 0 0 A) (F0 m 0 ls []) := by
  unfold F6_nameCatch_0 at f
  refine lv_aload_n S.1 S.2.1 dX6_nameCatch_0 rfl (lv_at hl 0 rfl) ?_
  refine lv_iload_n S.1 S.2.1 dX6_nameCatch_1 rfl (lv_at hl 1 rfl) ?_
  refine lv_iload_n S.1 S.2.1 dX6_nameCatch_2 rfl (lv_at hl 2 rfl) ?_
  obtain ⟨o1, e2, f⟩ := ob f
  refine o_Vv S (As := [.int x1, .int x2]) (rest := []) (ci := 6) (M6_nameAway l D cy b A fl e2) gX6_nameCatch_X6_nameAway rfl rfl rfl cd6_nameAway ⟨Nat.le_of_ble_eq_true rfl, Nat.le_of_ble_eq_true rfl⟩ I (gd e2).1 clX6 rfl rfl hl.1 rfl (Nat.le_of_ble_eq_true rfl) dX6_nameCatch_3 ⟨Nat.le_of_ble_eq_true rfl, Nat.le_of_ble_eq_true rfl⟩ (fun H locs I => ?_)
  refine lv_aload_n S.1 S.2.1 dX6_nameCatch_6 rfl (lv_at hl 0 rfl) ?_
  obtain ⟨r3, e4, f⟩ := ob f
  refine o_gR S lf6_nameCatch_25 I e4 dX6_nameCatch_7 ?_
  refine lv_iconst (v := 0) S.1 S.2.1 dX6_nameCatch_10 (by decide) ?_
  refine lv_aload_n S.1 S.2.1 dX6_nameCatch_11 rfl (lv_at hl 0 rfl) ?_
  obtain ⟨r5, e6, f⟩ := ob f
  refine o_gR S lf6_nameCatch_9 I e6 dX6_nameCatch_12 ?_
  refine lv_iload_n S.1 S.2.1 dX6_nameCatch_15 rfl (lv_at hl 3 rfl) ?_
  refine lv_aload_n S.1 S.2.1 dX6_nameCatch_16 rfl (lv_at hl 0 rfl) ?_
  obtain ⟨r7, e8, f⟩ := ob f
  refine o_gR S lf6_nameCatch_22 I e8 dX6_nameCatch_17 ?_
  refine lv_iload_n S.1 S.2.1 dX6_nameCatch_20 rfl (lv_at hl 2 rfl) ?_
  obtain ⟨v10, e9, f⟩ := ob f
  refine o_iald S I e9 dX6_nameCatch_21 ?_
  obtain ⟨o11, e12, f⟩ := ob f
  refine o_Vi S (As := [.int x3, .int v10]) (rest := [.int 0, .ref (b + r3)]) (ci := 8) (M8_farFrom l D cy b A fl e12) gX6_nameCatch_X8_farFrom rfl rfl rfl cd8_farFrom ⟨Nat.le_of_ble_eq_true rfl, Nat.le_of_ble_eq_true rfl⟩ I (gd e12).1 clX8 rfl rfl hl.1 rfl (Nat.le_of_ble_eq_true rfl) dX6_nameCatch_22 ⟨Nat.le_of_ble_eq_true rfl, Nat.le_of_ble_eq_true rfl⟩ (fun H locs I => ?_)
  refine lv_i2l (v := Int32.toInt64 o11.1) S.1 S.2.1 dX6_nameCatch_25 rfl ?_
  obtain ⟨h14, e13, f⟩ := ob f
  refine o_last S I e13 dX6_nameCatch_26 (fun H locs I => ?_)
  refine lv_aload_n S.1 S.2.1 dX6_nameCatch_27 rfl (lv_at hl 0 rfl) ?_
  obtain ⟨r15, e16, f⟩ := ob f
  refine o_gR S lf6_nameCatch_25 I e16 dX6_nameCatch_28 ?_
  refine lv_iconst (v := 1) S.1 S.2.1 dX6_nameCatch_31 (by decide) ?_
  refine lv_aload_n S.1 S.2.1 dX6_nameCatch_32 rfl (lv_at hl 0 rfl) ?_
  obtain ⟨r17, e18, f⟩ := ob f
  refine o_gR S lf6_nameCatch_9 I e18 dX6_nameCatch_33 ?_
  refine lv_iload_n S.1 S.2.1 dX6_nameCatch_36 rfl (lv_at hl 3 rfl) ?_
  obtain ⟨o19, e20, f⟩ := ob f
  refine o_Vi S (As := [.int x3]) (rest := [.int 1, .ref (b + r15)]) (ci := 8) (M8_rowOf l D cy b A fl e20) gX6_nameCatch_X8_rowOf rfl rfl rfl cd8_rowOf ⟨Nat.le_of_ble_eq_true rfl, Nat.le_of_ble_eq_true rfl⟩ I (gd e20).1 clX8 rfl rfl hl.1 rfl (Nat.le_of_ble_eq_true rfl) dX6_nameCatch_37 ⟨Nat.le_of_ble_eq_true rfl, Nat.le_of_ble_eq_true rfl⟩ (fun H locs I => ?_)
  refine lv_aload_n S.1 S.2.1 dX6_nameCatch_40 rfl (lv_at hl 0 rfl) ?_
  obtain ⟨r21, e22, f⟩ := ob f
  refine o_gR S lf6_nameCatch_9 I e22 dX6_nameCatch_41 ?_
  obtain ⟨v23, e24, f⟩ := ob f
  refine o_gI S lf6_nameCatch_125 I e24 dX6_nameCatch_44 ?_
  refine lv_isub S.1 S.2.1 dX6_nameCatch_47 ?_
  refine lv_i2l (v := Int32.toInt64 (o19.1 - v23)) S.1 S.2.1 dX6_nameCatch_48 rfl ?_
  obtain ⟨h26, e25, f⟩ := ob f
  refine o_last S I e25 dX6_nameCatch_49 (fun H locs I => ?_)
  exact o_vret S hr hlo I f dX6_nameCatch_50
theorem M6_nameCatch (l : Launch) (D : va_G) (cy : Nat → ClassId) (b : Nat) (A : Nat → Prop) (fl : Bool) {h : PH} {a0 : Nat} {x1 : Int32} {x2 : Int32} {x3 : Int32} {out : PH} (f : F6_nameCatch h a0 x1 x2 x3 = some out) : Met l yX6_nameCatch vX6_nameCatch ({ frames := 2, cells := 0, slots := 0, locals := 46 } : Room) (va_Pc [.ref (b + a0), .int x1, .int x2, .int x3] (ph_B D cy b A fl h)) (va_Qv (fun (u : PH) => u = out) (ph_B D cy b A fl) A) 0 0 A :=
  o_met (by decide) rfl (Nat.le_of_ble_eq_true rfl) rfl (fun p e s m below meth c S hr hlo hnm ls hl I => T6_nameCatch_0 S hr hlo ((gd f).2) I (lv_sub hl [0, 1, 2, 3] rfl))
def vX6_farOf : List Cond := .code yX6_farOf cX6_farOf 3 (some .int) :: TB
theorem lf6_farOf_9 : Fl vX6_farOf RX6 9 6 0 := ⟨RX6, TX6, 9, rfl, by decide, (fun w h9 => List.mem_cons_of_mem _ (wC_wsX60 w h9)), (List.mem_cons_of_mem _ wT_7_15)⟩
theorem lf6_farOf_22 : Fl vX6_farOf RX6 22 6 3 := ⟨RX6, TX6, 9, rfl, by decide, (fun w h9 => List.mem_cons_of_mem _ (wC_wsX60 w h9)), (List.mem_cons_of_mem _ wT_7_18)⟩
theorem gX6_farOf_X8_farFrom : GoodIn vX6_farOf (wsV RX6 108 RX8 yX8_farFrom vX8_farFrom) := gV_of wT_39_4 wT_34_4 wT_34_5 wT_1_17 wT_34_6
theorem cd6_farOf : Cd yX6_farOf 2 := ⟨by decide, by decide, by decide +kernel⟩
set_option maxHeartbeats 4000000 in
set_option maxRecDepth 100000 in
theorem T6_farOf_0 (S : CallFix p m c cX6_farOf 3 s args vX6_farOf RX6) (hr : meth.sig.returnType = (some .int)) (hlo : meth.locks = false) {out : Int32 × PH} {h : PH} {a0 : Nat} {x1 : Int32} {x2 : Int32} (f : F6_farOf_0  h a0 x1 x2 = some out) {H : Heap} {locs : List Loc} (I : ph_I D cy b A fl h s H locs) {ls : Array Slot} (hl : lv_has ls 3 [(0, .ref (b + a0)), (1, .int x1), (2, .int x2)]) : W p l e ({ frames := 2, cells := 0, slots := 0, locals := 46 } : Room) s m args below meth c H locs 0 0 (MQ below (va_Qi (fun (r : Int32) (u : PH) => (r, u) = out) (ph_B D cy b A fl) A) args s 0 0 A) (F0 m 0 ls []) := by
  unfold F6_farOf_0 at f
  refine lv_aload_n S.1 S.2.1 dX6_farOf_0 rfl (lv_at hl 0 rfl) ?_
  obtain ⟨r1, e2, f⟩ := ob f
  refine o_gR S lf6_farOf_9 I e2 dX6_farOf_1 ?_
  refine lv_iload_n S.1 S.2.1 dX6_farOf_4 rfl (lv_at hl 1 rfl) ?_
  refine lv_aload_n S.1 S.2.1 dX6_farOf_5 rfl (lv_at hl 0 rfl) ?_
  obtain ⟨r3, e4, f⟩ := ob f
  refine o_gR S lf6_farOf_22 I e4 dX6_farOf_6 ?_
  refine lv_iload_n S.1 S.2.1 dX6_farOf_9 rfl (lv_at hl 2 rfl) ?_
  obtain ⟨v6, e5, f⟩ := ob f
  refine o_iald S I e5 dX6_farOf_10 ?_
  obtain ⟨o7, e8, f⟩ := ob f
  refine o_Vi S (As := [.int x1, .int v6]) (rest := []) (ci := 8) (M8_farFrom l D cy b A fl e8) gX6_farOf_X8_farFrom rfl rfl rfl cd8_farFrom ⟨Nat.le_of_ble_eq_true rfl, Nat.le_of_ble_eq_true rfl⟩ I (gd e8).1 clX8 rfl rfl hl.1 rfl (Nat.le_of_ble_eq_true rfl) dX6_farOf_11 ⟨Nat.le_of_ble_eq_true rfl, Nat.le_of_ble_eq_true rfl⟩ (fun H locs I => ?_)
  exact o_iret S hr hlo I f dX6_farOf_14
theorem M6_farOf (l : Launch) (D : va_G) (cy : Nat → ClassId) (b : Nat) (A : Nat → Prop) (fl : Bool) {h : PH} {a0 : Nat} {x1 : Int32} {x2 : Int32} {out : Int32 × PH} (f : F6_farOf h a0 x1 x2 = some out) : Met l yX6_farOf vX6_farOf ({ frames := 2, cells := 0, slots := 0, locals := 46 } : Room) (va_Pc [.ref (b + a0), .int x1, .int x2] (ph_B D cy b A fl h)) (va_Qi (fun (r : Int32) (u : PH) => (r, u) = out) (ph_B D cy b A fl) A) 0 0 A :=
  o_met (by decide) rfl (Nat.le_of_ble_eq_true rfl) rfl (fun p e s m below meth c S hr hlo hnm ls hl I => T6_farOf_0 S hr hlo ((gd f).2) I (lv_sub hl [0, 1, 2] rfl))
def vX6_oddsAt : List Cond := .code yX6_oddsAt cX6_oddsAt 6 (some .int) :: TB
theorem gX6_oddsAt_X6_nameCatch : GoodIn vX6_oddsAt (wsV RX6 128 RX6 yX6_nameCatch vX6_nameCatch) := gV_of wT_38_17 wT_38_18 wT_38_19 wT_2_2 wT_38_20
theorem lf6_oddsAt_9 : Fl vX6_oddsAt RX6 9 6 0 := ⟨RX6, TX6, 9, rfl, by decide, (fun w h9 => List.mem_cons_of_mem _ (wC_wsX60 w h9)), (List.mem_cons_of_mem _ wT_7_15)⟩
theorem lf6_oddsAt_76 : Fl vX6_oddsAt RX6 76 8 11 := ⟨RX8, TX8, 14, rfl, by decide, (fun w h9 => List.mem_cons_of_mem _ (wC_wsX80 w h9)), (List.mem_cons_of_mem _ wT_25_7)⟩
theorem lf6_oddsAt_25 : Fl vX6_oddsAt RX6 25 6 4 := ⟨RX6, TX6, 9, rfl, by decide, (fun w h9 => List.mem_cons_of_mem _ (wC_wsX60 w h9)), (List.mem_cons_of_mem _ wT_7_19)⟩
theorem lf6_oddsAt_29 : Fl vX6_oddsAt RX6 29 6 5 := ⟨RX6, TX6, 9, rfl, by decide, (fun w h9 => List.mem_cons_of_mem _ (wC_wsX60 w h9)), (List.mem_cons_of_mem _ wT_7_20)⟩
theorem gX6_oddsAt_X2_valueFor : GoodIn vX6_oddsAt (wsV RX6 80 RX2 yX2_valueFor vX2_valueFor) := gV_of wT_25_8 wT_25_9 wT_25_10 wT_3_14 wT_25_11
theorem gX6_oddsAt_X6_farOf : GoodIn vX6_oddsAt (wsV RX6 132 RX6 yX6_farOf vX6_farOf) := gV_of wT_39_9 wT_39_10 wT_39_11 wT_2_2 wT_39_12
theorem cd6_oddsAt : Cd yX6_oddsAt 3 := ⟨by decide, by decide, by decide +kernel⟩
set_option maxHeartbeats 4000000 in
set_option maxRecDepth 100000 in
theorem T6_oddsAt_0 (S : CallFix p m c cX6_oddsAt 6 s args vX6_oddsAt RX6) (hr : meth.sig.returnType = (some .int)) (hlo : meth.locks = false) {out : Int32 × PH} {h : PH} {a0 : Nat} {x1 : Int32} {x2 : Int32} {x3 : Int32} (f : F6_oddsAt_0  h a0 x1 x2 x3 = some out) {H : Heap} {locs : List Loc} (I : ph_I D cy b A fl h s H locs) {ls : Array Slot} (hl : lv_has ls 6 [(0, .ref (b + a0)), (1, .int x1), (2, .int x2), (3, .int x3)]) : W p l e ({ frames := 3, cells := 0, slots := 0, locals := 78 } : Room) s m args below meth c H locs 0 0 (MQ below (va_Qi (fun (r : Int32) (u : PH) => (r, u) = out) (ph_B D cy b A fl) A) args s 0 0 A) (F0 m 0 ls []) := by
  unfold F6_oddsAt_0 at f
  refine lv_aload_n S.1 S.2.1 dX6_oddsAt_0 rfl (lv_at hl 0 rfl) ?_
  refine lv_iload_n S.1 S.2.1 dX6_oddsAt_1 rfl (lv_at hl 1 rfl) ?_
  refine lv_iload_n S.1 S.2.1 dX6_oddsAt_2 rfl (lv_at hl 2 rfl) ?_
  refine lv_iload_n S.1 S.2.1 dX6_oddsAt_3 rfl (lv_at hl 3 rfl) ?_
  obtain ⟨o1, e2, f⟩ := ob f
  refine o_Vv S (As := [.int x1, .int x2, .int x3]) (rest := []) (ci := 6) (M6_nameCatch l D cy b A fl e2) gX6_oddsAt_X6_nameCatch rfl rfl rfl cd6_nameCatch ⟨Nat.le_of_ble_eq_true rfl, Nat.le_of_ble_eq_true rfl⟩ I (gd e2).1 clX6 rfl rfl hl.1 rfl (Nat.le_of_ble_eq_true rfl) dX6_oddsAt_4 ⟨Nat.le_of_ble_eq_true rfl, Nat.le_of_ble_eq_true rfl⟩ (fun H locs I => ?_)
  refine lv_aload_n S.1 S.2.1 dX6_oddsAt_7 rfl (lv_at hl 0 rfl) ?_
  obtain ⟨r3, e4, f⟩ := ob f
  refine o_gR S lf6_oddsAt_9 I e4 dX6_oddsAt_8 ?_
  obtain ⟨r5, e6, f⟩ := ob f
  refine o_gR S lf6_oddsAt_76 I e6 dX6_oddsAt_11 ?_
  refine lv_iconst (v := 0) S.1 S.2.1 dX6_oddsAt_14 (by decide) ?_
  obtain ⟨r8, e7, f⟩ := ob f
  refine o_aald S I e7 dX6_oddsAt_15 ?_
  refine lv_aload_n S.1 S.2.1 dX6_oddsAt_16 rfl (lv_at hl 0 rfl) ?_
  obtain ⟨r9, e10, f⟩ := ob f
  refine o_gR S lf6_oddsAt_25 I e10 dX6_oddsAt_17 ?_
  refine lv_aload_n S.1 S.2.1 dX6_oddsAt_20 rfl (lv_at hl 0 rfl) ?_
  obtain ⟨r11, e12, f⟩ := ob f
  refine o_gR S lf6_oddsAt_29 I e12 dX6_oddsAt_21 ?_
  obtain ⟨o13, e14, f⟩ := ob f
  refine o_Vl S (As := [.ref (b + r9), .ref (b + r11)]) (rest := []) (ci := 2) (M2_valueFor l D cy b A fl e14) gX6_oddsAt_X2_valueFor rfl rfl rfl cd2_valueFor ⟨Nat.le_of_ble_eq_true rfl, Nat.le_of_ble_eq_true rfl⟩ I (gd e14).1 clX2 rfl rfl hl.1 rfl (Nat.le_of_ble_eq_true rfl) dX6_oddsAt_24 ⟨Nat.le_of_ble_eq_true rfl, Nat.le_of_ble_eq_true rfl⟩ (fun H locs I => ?_)
  refine lv_lstore (lv' := [(4, .long o13.1), (0, .ref (b + a0)), (1, .int x1), (2, .int x2), (3, .int x3)]) S.1 S.2.1 dX6_oddsAt_27 hl (by decide) rfl (fun ls hl => ?_)
  refine lv_lload S.1 S.2.1 dX6_oddsAt_29 (lv_at hl 0 rfl) ?_
  refine lv_ldc2 (v := (-9223372036854775808)) S.1 S.2.1 S.2.2.2.1 (S.2.2.2.2 _ (List.mem_cons_of_mem _ wT_24_17)) dX6_oddsAt_31 ?_
  refine W.lcmp S.1 S.2.1 dX6_oddsAt_34 ?_
  refine lv_if_ne (tgt := 55) S.1 S.2.1 dX6_oddsAt_35 (by decide) (fun q15 => ?_) (fun q15 => ?_)
  · have f := (if_neg q15).symm.trans f
    refine lv_lconst (v := 0) S.1 S.2.1 dX6_oddsAt_55 (by decide) ?_
    refine lv_ldc2 (v := 100) S.1 S.2.1 S.2.2.2.1 (S.2.2.2.2 _ (List.mem_cons_of_mem _ wT_38_16)) dX6_oddsAt_56 ?_
    refine lv_lload S.1 S.2.1 dX6_oddsAt_59 (lv_at hl 0 rfl) ?_
    refine va_mmin_long S.1 S.2.1 (by rw [S.2.2.1, hl.1]) S.2.2.2.1 (S.2.2.2.2 _ (List.mem_cons_of_mem _ wT_24_20)) (S.2.2.2.2 _ (List.mem_cons_of_mem _ wT_24_21)) (S.2.2.2.2 _ (List.mem_cons_of_mem _ wT_15_17)) (S.2.2.2.2 _ (List.mem_cons_of_mem _ wT_24_22)) (Nat.le_of_ble_eq_true rfl) (Nat.le_of_ble_eq_true rfl) (Nat.zero_le _) (Nat.zero_le _) dX6_oddsAt_61 ?_
    refine va_mmax_long S.1 S.2.1 (by rw [S.2.2.1, hl.1]) S.2.2.2.1 (S.2.2.2.2 _ (List.mem_cons_of_mem _ wT_24_23)) (S.2.2.2.2 _ (List.mem_cons_of_mem _ wT_25_0)) (S.2.2.2.2 _ (List.mem_cons_of_mem _ wT_15_17)) (S.2.2.2.2 _ (List.mem_cons_of_mem _ wT_25_1)) (Nat.le_of_ble_eq_true rfl) (Nat.le_of_ble_eq_true rfl) (Nat.zero_le _) (Nat.zero_le _) dX6_oddsAt_64 ?_
    refine lv_l2i (v := Int64.toInt32 (if (if o13.1 < (100 : Int64) then o13.1 else (100 : Int64)) < (0 : Int64) then (0 : Int64) else (if o13.1 < (100 : Int64) then o13.1 else (100 : Int64)))) S.1 S.2.1 dX6_oddsAt_67 rfl ?_
    exact o_iret S hr hlo I f dX6_oddsAt_68
  · have f := (if_pos q15).symm.trans f
    refine lv_iconst (v := 0) S.1 S.2.1 dX6_oddsAt_38 (by decide) ?_
    refine lv_bipush (v := 100) S.1 S.2.1 dX6_oddsAt_39 (by decide) ?_
    refine lv_bipush (v := 20) S.1 S.2.1 dX6_oddsAt_41 (by decide) ?_
    refine lv_aload_n S.1 S.2.1 dX6_oddsAt_43 rfl (lv_at hl 1 rfl) ?_
    refine lv_iload_n S.1 S.2.1 dX6_oddsAt_44 rfl (lv_at hl 4 rfl) ?_
    refine lv_iload_n S.1 S.2.1 dX6_oddsAt_45 rfl (lv_at hl 3 rfl) ?_
    obtain ⟨o16, e17, f⟩ := ob f
    refine o_Vi S (As := [.int x3, .int x2]) (rest := [.int 20, .int 100, .int 0]) (ci := 6) (M6_farOf l D cy b A fl e17) gX6_oddsAt_X6_farOf rfl rfl rfl cd6_farOf ⟨Nat.le_of_ble_eq_true rfl, Nat.le_of_ble_eq_true rfl⟩ I (gd e17).1 clX6 rfl rfl hl.1 rfl (Nat.le_of_ble_eq_true rfl) dX6_oddsAt_46 ⟨Nat.le_of_ble_eq_true rfl, Nat.le_of_ble_eq_true rfl⟩ (fun H locs I => ?_)
    refine lv_imul S.1 S.2.1 dX6_oddsAt_49 ?_
    refine lv_isub S.1 S.2.1 dX6_oddsAt_50 ?_
    refine va_mmax S.1 S.2.1 (by rw [S.2.2.1, hl.1]) S.2.2.2.1 (S.2.2.2.2 _ (List.mem_cons_of_mem _ wT_38_13)) (S.2.2.2.2 _ (List.mem_cons_of_mem _ wT_38_14)) (S.2.2.2.2 _ (List.mem_cons_of_mem _ wT_15_17)) (S.2.2.2.2 _ (List.mem_cons_of_mem _ wT_38_15)) (Nat.le_of_ble_eq_true rfl) (Nat.le_of_ble_eq_true rfl) (Nat.zero_le _) (Nat.zero_le _) dX6_oddsAt_51 ?_
    exact o_iret S hr hlo I f dX6_oddsAt_54
theorem M6_oddsAt (l : Launch) (D : va_G) (cy : Nat → ClassId) (b : Nat) (A : Nat → Prop) (fl : Bool) {h : PH} {a0 : Nat} {x1 : Int32} {x2 : Int32} {x3 : Int32} {out : Int32 × PH} (f : F6_oddsAt h a0 x1 x2 x3 = some out) : Met l yX6_oddsAt vX6_oddsAt ({ frames := 3, cells := 0, slots := 0, locals := 78 } : Room) (va_Pc [.ref (b + a0), .int x1, .int x2, .int x3] (ph_B D cy b A fl h)) (va_Qi (fun (r : Int32) (u : PH) => (r, u) = out) (ph_B D cy b A fl) A) 0 0 A :=
  o_met (by decide) rfl (Nat.le_of_ble_eq_true rfl) rfl (fun p e s m below meth c S hr hlo hnm ls hl I => T6_oddsAt_0 S hr hlo ((gd f).2) I (lv_sub hl [0, 1, 2, 3] rfl))
def vX6_worthAt : List Cond := .code yX6_worthAt cX6_worthAt 4 (some .int) :: TB
theorem gX6_worthAt_X6_oddsAt : GoodIn vX6_worthAt (wsV RX6 141 RX6 yX6_oddsAt vX6_oddsAt) := gV_of wT_44_12 wT_38_10 wT_38_11 wT_2_2 wT_38_12
theorem lf6_worthAt_9 : Fl vX6_worthAt RX6 9 6 0 := ⟨RX6, TX6, 9, rfl, by decide, (fun w h9 => List.mem_cons_of_mem _ (wC_wsX60 w h9)), (List.mem_cons_of_mem _ wT_7_15)⟩
theorem lf6_worthAt_57 : Fl vX6_worthAt RX6 57 8 5 := ⟨RX8, TX8, 14, rfl, by decide, (fun w h9 => List.mem_cons_of_mem _ (wC_wsX80 w h9)), (List.mem_cons_of_mem _ wT_24_9)⟩
theorem lf6_worthAt_112 : Fl vX6_worthAt RX6 112 10 5 := ⟨RX10, TX10, 8, rfl, by decide, (fun w h9 => List.mem_cons_of_mem _ (wC_wsX100 w h9)), (List.mem_cons_of_mem _ wT_39_2)⟩
theorem cd6_worthAt : Cd yX6_worthAt 3 := ⟨by decide, by decide, by decide +kernel⟩
set_option maxHeartbeats 4000000 in
set_option maxRecDepth 100000 in
theorem T6_worthAt_0 (S : CallFix p m c cX6_worthAt 4 s args vX6_worthAt RX6) (hr : meth.sig.returnType = (some .int)) (hlo : meth.locks = false) {out : Int32 × PH} {h : PH} {a0 : Nat} {x1 : Int32} {x2 : Int32} {x3 : Int32} (f : F6_worthAt_0  h a0 x1 x2 x3 = some out) {H : Heap} {locs : List Loc} (I : ph_I D cy b A fl h s H locs) {ls : Array Slot} (hl : lv_has ls 4 [(0, .ref (b + a0)), (1, .int x1), (2, .int x2), (3, .int x3)]) : W p l e ({ frames := 4, cells := 0, slots := 0, locals := 103 } : Room) s m args below meth c H locs 0 0 (MQ below (va_Qi (fun (r : Int32) (u : PH) => (r, u) = out) (ph_B D cy b A fl) A) args s 0 0 A) (F0 m 0 ls []) := by
  unfold F6_worthAt_0 at f
  refine lv_aload_n S.1 S.2.1 dX6_worthAt_0 rfl (lv_at hl 0 rfl) ?_
  refine lv_iload_n S.1 S.2.1 dX6_worthAt_1 rfl (lv_at hl 1 rfl) ?_
  refine lv_iload_n S.1 S.2.1 dX6_worthAt_2 rfl (lv_at hl 2 rfl) ?_
  refine lv_iload_n S.1 S.2.1 dX6_worthAt_3 rfl (lv_at hl 3 rfl) ?_
  obtain ⟨o1, e2, f⟩ := ob f
  refine o_Vi S (As := [.int x1, .int x2, .int x3]) (rest := []) (ci := 6) (M6_oddsAt l D cy b A fl e2) gX6_worthAt_X6_oddsAt rfl rfl rfl cd6_oddsAt ⟨Nat.le_of_ble_eq_true rfl, Nat.le_of_ble_eq_true rfl⟩ I (gd e2).1 clX6 rfl rfl hl.1 rfl (Nat.le_of_ble_eq_true rfl) dX6_worthAt_4 ⟨Nat.le_of_ble_eq_true rfl, Nat.le_of_ble_eq_true rfl⟩ (fun H locs I => ?_)
  refine lv_aload_n S.1 S.2.1 dX6_worthAt_7 rfl (lv_at hl 0 rfl) ?_
  obtain ⟨r3, e4, f⟩ := ob f
  refine o_gR S lf6_worthAt_9 I e4 dX6_worthAt_8 ?_
  obtain ⟨r5, e6, f⟩ := ob f
  refine o_gR S lf6_worthAt_57 I e6 dX6_worthAt_11 ?_
  obtain ⟨r7, e8, f⟩ := ob f
  refine o_gR S lf6_worthAt_112 I e8 dX6_worthAt_14 ?_
  refine lv_iload_n S.1 S.2.1 dX6_worthAt_17 rfl (lv_at hl 2 rfl) ?_
  obtain ⟨v10, e9, f⟩ := ob f
  refine o_iald S I e9 dX6_worthAt_18 ?_
  refine lv_imul S.1 S.2.1 dX6_worthAt_19 ?_
  exact o_iret S hr hlo I f dX6_worthAt_20
theorem M6_worthAt (l : Launch) (D : va_G) (cy : Nat → ClassId) (b : Nat) (A : Nat → Prop) (fl : Bool) {h : PH} {a0 : Nat} {x1 : Int32} {x2 : Int32} {x3 : Int32} {out : Int32 × PH} (f : F6_worthAt h a0 x1 x2 x3 = some out) : Met l yX6_worthAt vX6_worthAt ({ frames := 4, cells := 0, slots := 0, locals := 103 } : Room) (va_Pc [.ref (b + a0), .int x1, .int x2, .int x3] (ph_B D cy b A fl h)) (va_Qi (fun (r : Int32) (u : PH) => (r, u) = out) (ph_B D cy b A fl) A) 0 0 A :=
  o_met (by decide) rfl (Nat.le_of_ble_eq_true rfl) rfl (fun p e s m below meth c S hr hlo hnm ls hl I => T6_worthAt_0 S hr hlo ((gd f).2) I (lv_sub hl [0, 1, 2, 3] rfl))
def vX0_makePlan : List Cond := .code yX0_makePlan cX0_makePlan 8 none :: TB
theorem lf0_makePlan_30 : Fl vX0_makePlan RX0 30 0 7 := ⟨RX0, TX0, 13, rfl, by decide, (fun w h9 => List.mem_cons_of_mem _ (wC_wsX00 w h9)), (List.mem_cons_of_mem _ wT_9_13)⟩
theorem lp0_makePlan_115 : Pl vX0_makePlan RX0 115 0 12 .int := ⟨RX0, TX0, 13, tyX0, rfl, by decide, (fun w h9 => List.mem_cons_of_mem _ (wC_wsX00 w h9)), (List.mem_cons_of_mem _ wT_54_20), tyX0_ok, nmX0, rfl, rfl⟩
theorem lf0_makePlan_71 : Fl vX0_makePlan RX0 71 10 1 := ⟨RX10, TX10, 8, rfl, by decide, (fun w h9 => List.mem_cons_of_mem _ (wC_wsX100 w h9)), (List.mem_cons_of_mem _ wT_51_5)⟩
theorem gX0_makePlan_X0_listPlan : GoodIn vX0_makePlan (wsV RX0 118 RX0 yX0_listPlan vX0_listPlan) := gV_of wT_54_22 wT_54_23 wT_55_0 wT_2_21 wT_55_1
theorem lf0_makePlan_33 : Fl vX0_makePlan RX0 33 0 8 := ⟨RX0, TX0, 13, rfl, by decide, (fun w h9 => List.mem_cons_of_mem _ (wC_wsX00 w h9)), (List.mem_cons_of_mem _ wT_9_14)⟩
theorem lf0_makePlan_105 : Fl vX0_makePlan RX0 105 10 4 := ⟨RX10, TX10, 8, rfl, by decide, (fun w h9 => List.mem_cons_of_mem _ (wC_wsX100 w h9)), (List.mem_cons_of_mem _ wT_54_18)⟩
theorem gX0_makePlan_X6_awayFor : GoodIn vX0_makePlan (wsV RX0 107 RX6 yX6_awayFor vX6_awayFor) := gV_of wT_54_21 wT_46_0 wT_46_1 wT_2_2 wT_46_2
theorem gX0_makePlan_X10_firstFrom : GoodIn vX0_makePlan (wsV RX0 61 RX10 yX10_firstFrom vX10_firstFrom) := gV_of wT_51_6 wT_43_17 wT_43_18 wT_3_9 wT_43_19
theorem lf0_makePlan_81 : Fl vX0_makePlan RX0 81 4 5 := ⟨RX4, TX4, 11, rfl, by decide, (fun w h9 => List.mem_cons_of_mem _ (wC_wsX40 w h9)), (List.mem_cons_of_mem _ wT_51_11)⟩
theorem gX0_makePlan_X6_worthAt : GoodIn vX0_makePlan (wsV RX0 94 RX6 yX6_worthAt vX6_worthAt) := gV_of wT_51_14 wT_49_18 wT_49_19 wT_2_2 wT_49_20
theorem lf0_makePlan_36 : Fl vX0_makePlan RX0 36 0 9 := ⟨RX0, TX0, 13, rfl, by decide, (fun w h9 => List.mem_cons_of_mem _ (wC_wsX00 w h9)), (List.mem_cons_of_mem _ wT_9_15)⟩
theorem lf0_makePlan_43 : Fl vX0_makePlan RX0 43 6 0 := ⟨RX6, TX6, 9, rfl, by decide, (fun w h9 => List.mem_cons_of_mem _ (wC_wsX60 w h9)), (List.mem_cons_of_mem _ wT_51_2)⟩
theorem lf0_makePlan_49 : Fl vX0_makePlan RX0 49 8 5 := ⟨RX8, TX8, 14, rfl, by decide, (fun w h9 => List.mem_cons_of_mem _ (wC_wsX80 w h9)), (List.mem_cons_of_mem _ wT_51_3)⟩
theorem lf0_makePlan_55 : Fl vX0_makePlan RX0 55 4 0 := ⟨RX4, TX4, 11, rfl, by decide, (fun w h9 => List.mem_cons_of_mem _ (wC_wsX40 w h9)), (List.mem_cons_of_mem _ wT_51_4)⟩
theorem cd0_makePlan : Cd yX0_makePlan 3 := ⟨by decide, by decide, by decide +kernel⟩
set_option maxHeartbeats 4000000 in
set_option maxRecDepth 100000 in
theorem T0_makePlan_128 (S : CallFix p m c cX0_makePlan 8 s args vX0_makePlan RX0) (hr : meth.sig.returnType = none) (hlo : meth.locks = false) {out : PH} {k40 : PH → Nat → Nat → Nat → Int32 → Nat → Int32 → Int32 → Option (PH)} (hk40 : ∀ {h : PH} {a0 : Nat} {a1 : Nat} {a2 : Nat} {x3 : Int32} {a4 : Nat} {x5 : Int32} {x6 : Int32}, k40 h a0 a1 a2 x3 a4 x5 x6 = some out → ∀ (H : Heap) (locs : List Loc), ph_I D cy b A fl h s H locs → ∀ (ls : Array Slot), lv_has ls 8 [(0, .ref (b + a0)), (1, .ref (b + a1)), (2, .ref (b + a2)), (3, .int x3), (4, .ref (b + a4)), (5, .int x5), (6, .int x6)] → W p l e ({ frames := 5, cells := 0, slots := 0, locals := 126 } : Room) s m args below meth c H locs 0 0 (MQ below (va_Qv (fun (u : PH) => u = out) (ph_B D cy b A fl) A) args s 0 0 A) (F0 m 40 ls [])) {h : PH} {a0 : Nat} {a1 : Nat} {a2 : Nat} {x3 : Int32} {a4 : Nat} {x5 : Int32} {x6 : Int32} {x7 : Int32} {s0 : Int32} {s1 : Int32} {u2 : Nat} (f : F0_makePlan_128 k40 h a0 a1 a2 x3 a4 x5 x6 x7 s0 s1 u2 = some out) {H : Heap} {locs : List Loc} (I : ph_I D cy b A fl h s H locs) {ls : Array Slot} (hl : lv_has ls 8 [(0, .ref (b + a0)), (1, .ref (b + a1)), (2, .ref (b + a2)), (3, .int x3), (4, .ref (b + a4)), (5, .int x5), (6, .int x6), (7, .int x7)]) : W p l e ({ frames := 5, cells := 0, slots := 0, locals := 126 } : Room) s m args below meth c H locs 0 0 (MQ below (va_Qv (fun (u : PH) => u = out) (ph_B D cy b A fl) A) args s 0 0 A) (F0 m 128 ls [.int s0, .int s1, .ref (b + u2)]) := by
  unfold F0_makePlan_128 at f
  obtain ⟨h2, e1, f⟩ := ob f
  refine o_zast S I e1 dX0_makePlan_128 (fun H locs I => ?_)
  refine lv_aload_n S.1 S.2.1 dX0_makePlan_129 rfl (lv_at hl 0 rfl) ?_
  obtain ⟨r3, e4, f⟩ := ob f
  refine o_gR S lf0_makePlan_30 I e4 dX0_makePlan_130 ?_
  refine lv_iload S.1 S.2.1 dX0_makePlan_133 (lv_at hl 6 rfl) ?_
  refine lv_iload S.1 S.2.1 dX0_makePlan_135 (lv_at hl 7 rfl) ?_
  refine lv_aload_n S.1 S.2.1 dX0_makePlan_137 rfl (lv_at hl 0 rfl) ?_
  obtain ⟨r5, e6, f⟩ := ob f
  refine o_gR S lf0_makePlan_30 I e6 dX0_makePlan_138 ?_
  refine lv_iload S.1 S.2.1 dX0_makePlan_141 (lv_at hl 6 rfl) ?_
  refine lv_iconst (v := 1) S.1 S.2.1 dX0_makePlan_143 (by decide) ?_
  refine lv_iadd S.1 S.2.1 dX0_makePlan_144 ?_
  obtain ⟨v8, e7, f⟩ := ob f
  refine o_iald S I e7 dX0_makePlan_145 ?_
  refine va_mmax S.1 S.2.1 (by rw [S.2.2.1, hl.1]) S.2.2.2.1 (S.2.2.2.2 _ (List.mem_cons_of_mem _ wT_54_19)) (S.2.2.2.2 _ (List.mem_cons_of_mem _ wT_38_14)) (S.2.2.2.2 _ (List.mem_cons_of_mem _ wT_15_17)) (S.2.2.2.2 _ (List.mem_cons_of_mem _ wT_38_15)) (Nat.le_of_ble_eq_true rfl) (Nat.le_of_ble_eq_true rfl) (Nat.zero_le _) (Nat.zero_le _) dX0_makePlan_146 ?_
  obtain ⟨h10, e9, f⟩ := ob f
  refine o_iast S I e9 dX0_makePlan_149 (fun H locs I => ?_)
  refine lv_iinc (v := (x6 + (-1))) (lv' := [(6, .int (x6 + (-1))), (0, .ref (b + a0)), (1, .ref (b + a1)), (2, .ref (b + a2)), (3, .int x3), (4, .ref (b + a4)), (5, .int x5), (7, .int x7)]) S.1 S.2.1 dX0_makePlan_150 hl (k := 6) rfl (congrArg (fun z => x6 + z) (by decide)) (by decide) rfl (fun ls hl => ?_)
  refine lv_goto (tgt := 40) S.1 S.2.1 dX0_makePlan_153 (by decide) ?_
  exact hk40 f _ _ I _ (lv_sub hl [1, 2, 3, 4, 5, 6, 0] rfl)
set_option maxHeartbeats 4000000 in
set_option maxRecDepth 100000 in
theorem T0_makePlan_40 (S : CallFix p m c cX0_makePlan 8 s args vX0_makePlan RX0) (hr : meth.sig.returnType = none) (hlo : meth.locks = false) {out : PH} : ∀ (n : Nat) {h : PH} {a0 : Nat} {a1 : Nat} {a2 : Nat} {x3 : Int32} {a4 : Nat} {x5 : Int32} {x6 : Int32} (f : F0_makePlan_40  n h a0 a1 a2 x3 a4 x5 x6 = some out) {H : Heap} {locs : List Loc} (I : ph_I D cy b A fl h s H locs) {ls : Array Slot} (hl : lv_has ls 8 [(0, .ref (b + a0)), (1, .ref (b + a1)), (2, .ref (b + a2)), (3, .int x3), (4, .ref (b + a4)), (5, .int x5), (6, .int x6)]), W p l e ({ frames := 5, cells := 0, slots := 0, locals := 126 } : Room) s m args below meth c H locs 0 0 (MQ below (va_Qv (fun (u : PH) => u = out) (ph_B D cy b A fl) A) args s 0 0 A) (F0 m 40 ls []) := by
  intro n
  induction n with
  | zero => intro h a0 a1 a2 x3 a4 x5 x6 f; rw [F0_makePlan_40] at f; cases f
  | succ n ih =>
    intro h a0 a1 a2 x3 a4 x5 x6 f H locs I ls hl
    rw [F0_makePlan_40] at f
    refine lv_iload S.1 S.2.1 dX0_makePlan_40 (lv_at hl 6 rfl) ?_
    refine lv_iload S.1 S.2.1 dX0_makePlan_42 (lv_at hl 5 rfl) ?_
    refine lv_icmp_lt (tgt := 156) S.1 S.2.1 dX0_makePlan_44 (by decide) (fun q1 => ?_) (fun q1 => ?_)
    · have f := (if_pos q1).symm.trans f
      refine lv_aload_n S.1 S.2.1 dX0_makePlan_156 rfl (lv_at hl 0 rfl) ?_
      refine lv_aload_n S.1 S.2.1 dX0_makePlan_157 rfl (lv_at hl 0 rfl) ?_
      obtain ⟨r2, e3, f⟩ := ob f
      refine o_gR S lf0_makePlan_30 I e3 dX0_makePlan_158 ?_
      refine lv_iload S.1 S.2.1 dX0_makePlan_161 (lv_at hl 5 rfl) ?_
      obtain ⟨v5, e4, f⟩ := ob f
      refine o_iald S I e4 dX0_makePlan_163 ?_
      obtain ⟨h6, e7, f⟩ := ob f
      refine o_pI S lp0_makePlan_115 I e7 dX0_makePlan_164 (fun H locs I => ?_)
      refine lv_aload_n S.1 S.2.1 dX0_makePlan_167 rfl (lv_at hl 0 rfl) ?_
      refine lv_iload S.1 S.2.1 dX0_makePlan_168 (lv_at hl 5 rfl) ?_
      refine lv_aload S.1 S.2.1 dX0_makePlan_170 (lv_at hl 4 rfl) ?_
      obtain ⟨v8, e9, f⟩ := ob f
      refine o_gI S lf0_makePlan_71 I e9 dX0_makePlan_172 ?_
      obtain ⟨o10, e11, f⟩ := ob f
      refine o_Vv S (As := [.int x5, .int v8]) (rest := []) (ci := 0) (M0_listPlan l D cy b A fl e11) gX0_makePlan_X0_listPlan rfl rfl rfl cd0_listPlan ⟨Nat.le_of_ble_eq_true rfl, Nat.le_of_ble_eq_true rfl⟩ I (gd e11).1 clX0 rfl rfl hl.1 rfl (Nat.le_of_ble_eq_true rfl) dX0_makePlan_175 ⟨Nat.le_of_ble_eq_true rfl, Nat.le_of_ble_eq_true rfl⟩ (fun H locs I => ?_)
      exact o_vret S hr hlo I f dX0_makePlan_178
    · have f := (if_neg q1).symm.trans f
      refine lv_aload_n S.1 S.2.1 dX0_makePlan_47 rfl (lv_at hl 0 rfl) ?_
      obtain ⟨r12, e13, f⟩ := ob f
      refine o_gR S lf0_makePlan_33 I e13 dX0_makePlan_48 ?_
      refine lv_iload S.1 S.2.1 dX0_makePlan_51 (lv_at hl 6 rfl) ?_
      refine lv_aload S.1 S.2.1 dX0_makePlan_53 (lv_at hl 4 rfl) ?_
      refine lv_aload S.1 S.2.1 dX0_makePlan_55 (lv_at hl 4 rfl) ?_
      obtain ⟨r14, e15, f⟩ := ob f
      refine o_gR S lf0_makePlan_105 I e15 dX0_makePlan_57 ?_
      refine lv_iload S.1 S.2.1 dX0_makePlan_60 (lv_at hl 6 rfl) ?_
      obtain ⟨v17, e16, f⟩ := ob f
      refine o_iald S I e16 dX0_makePlan_62 ?_
      refine lv_aload_n S.1 S.2.1 dX0_makePlan_63 rfl (lv_at hl 1 rfl) ?_
      refine lv_iload_n S.1 S.2.1 dX0_makePlan_64 rfl (lv_at hl 3 rfl) ?_
      refine lv_iload S.1 S.2.1 dX0_makePlan_65 (lv_at hl 6 rfl) ?_
      obtain ⟨o18, e19, f⟩ := ob f
      refine o_Vi S (As := [.int x3, .int x6]) (rest := [.int v17, .ref (b + a4), .int x6, .ref (b + r12)]) (ci := 6) (M6_awayFor l D cy b A fl e19) gX0_makePlan_X6_awayFor rfl rfl rfl cd6_awayFor ⟨Nat.le_of_ble_eq_true rfl, Nat.le_of_ble_eq_true rfl⟩ I (gd e19).1 clX6 rfl rfl hl.1 rfl (Nat.le_of_ble_eq_true rfl) dX0_makePlan_67 ⟨Nat.le_of_ble_eq_true rfl, Nat.le_of_ble_eq_true rfl⟩ (fun H locs I => ?_)
      refine lv_iadd S.1 S.2.1 dX0_makePlan_70 ?_
      obtain ⟨o20, e21, f⟩ := ob f
      refine o_Vi S (As := [.int (v17 + o18.1)]) (rest := [.int x6, .ref (b + r12)]) (ci := 10) (M10_firstFrom l D cy b A fl e21) gX0_makePlan_X10_firstFrom rfl rfl rfl cd10_firstFrom ⟨Nat.le_of_ble_eq_true rfl, Nat.le_of_ble_eq_true rfl⟩ I (gd e21).1 clX10 rfl rfl hl.1 rfl (Nat.le_of_ble_eq_true rfl) dX0_makePlan_71 ⟨Nat.le_of_ble_eq_true rfl, Nat.le_of_ble_eq_true rfl⟩ (fun H locs I => ?_)
      obtain ⟨h23, e22, f⟩ := ob f
      refine o_iast S I e22 dX0_makePlan_74 (fun H locs I => ?_)
      refine lv_aload_n S.1 S.2.1 dX0_makePlan_75 rfl (lv_at hl 1 rfl) ?_
      refine lv_iload_n S.1 S.2.1 dX0_makePlan_76 rfl (lv_at hl 3 rfl) ?_
      refine lv_iload S.1 S.2.1 dX0_makePlan_77 (lv_at hl 6 rfl) ?_
      refine lv_aload_n S.1 S.2.1 dX0_makePlan_79 rfl (lv_at hl 2 rfl) ?_
      obtain ⟨r24, e25, f⟩ := ob f
      refine o_gR S lf0_makePlan_81 I e25 dX0_makePlan_80 ?_
      refine lv_iload_n S.1 S.2.1 dX0_makePlan_83 rfl (lv_at hl 3 rfl) ?_
      obtain ⟨v27, e26, f⟩ := ob f
      refine o_iald S I e26 dX0_makePlan_84 ?_
      obtain ⟨o28, e29, f⟩ := ob f
      refine o_Vi S (As := [.int x3, .int x6, .int v27]) (rest := []) (ci := 6) (M6_worthAt l D cy b A fl e29) gX0_makePlan_X6_worthAt rfl rfl rfl cd6_worthAt ⟨Nat.le_of_ble_eq_true rfl, Nat.le_of_ble_eq_true rfl⟩ I (gd e29).1 clX6 rfl rfl hl.1 rfl (Nat.le_of_ble_eq_true rfl) dX0_makePlan_85 ⟨Nat.le_of_ble_eq_true rfl, Nat.le_of_ble_eq_true rfl⟩ (fun H locs I => ?_)
      refine lv_aload_n S.1 S.2.1 dX0_makePlan_88 rfl (lv_at hl 0 rfl) ?_
      obtain ⟨r30, e31, f⟩ := ob f
      refine o_gR S lf0_makePlan_30 I e31 dX0_makePlan_89 ?_
      refine lv_aload_n S.1 S.2.1 dX0_makePlan_92 rfl (lv_at hl 0 rfl) ?_
      obtain ⟨r32, e33, f⟩ := ob f
      refine o_gR S lf0_makePlan_33 I e33 dX0_makePlan_93 ?_
      refine lv_iload S.1 S.2.1 dX0_makePlan_96 (lv_at hl 6 rfl) ?_
      obtain ⟨v35, e34, f⟩ := ob f
      refine o_iald S I e34 dX0_makePlan_98 ?_
      obtain ⟨v37, e36, f⟩ := ob f
      refine o_iald S I e36 dX0_makePlan_99 ?_
      refine lv_iadd S.1 S.2.1 dX0_makePlan_100 ?_
      refine lv_istore (lv' := [(7, .int (o28.1 + v37)), (0, .ref (b + a0)), (1, .ref (b + a1)), (2, .ref (b + a2)), (3, .int x3), (4, .ref (b + a4)), (5, .int x5), (6, .int x6)]) S.1 S.2.1 dX0_makePlan_101 hl (by decide) rfl (fun ls hl => ?_)
      refine lv_aload_n S.1 S.2.1 dX0_makePlan_103 rfl (lv_at hl 1 rfl) ?_
      obtain ⟨r38, e39, f⟩ := ob f
      refine o_gR S lf0_makePlan_36 I e39 dX0_makePlan_104 ?_
      refine lv_iload S.1 S.2.1 dX0_makePlan_107 (lv_at hl 7 rfl) ?_
      refine lv_iload S.1 S.2.1 dX0_makePlan_109 (lv_at hl 0 rfl) ?_
      refine lv_aload_n S.1 S.2.1 dX0_makePlan_111 rfl (lv_at hl 1 rfl) ?_
      obtain ⟨r40, e41, f⟩ := ob f
      refine o_gR S lf0_makePlan_30 I e41 dX0_makePlan_112 ?_
      refine lv_iload S.1 S.2.1 dX0_makePlan_115 (lv_at hl 7 rfl) ?_
      refine lv_iconst (v := 1) S.1 S.2.1 dX0_makePlan_117 (by decide) ?_
      refine lv_iadd S.1 S.2.1 dX0_makePlan_118 ?_
      obtain ⟨v43, e42, f⟩ := ob f
      refine o_iald S I e42 dX0_makePlan_119 ?_
      refine lv_icmp_lt (tgt := 127) S.1 S.2.1 dX0_makePlan_120 (by decide) (fun q44 => ?_) (fun q44 => ?_)
      · have f := (if_pos q44).symm.trans f
        refine lv_iconst (v := 0) S.1 S.2.1 dX0_makePlan_127 (by decide) ?_
        exact T0_makePlan_128 S hr hlo (fun f _ _ I _ hl => ih f I hl) f I (lv_sub hl [1, 2, 3, 4, 5, 6, 7, 0] rfl)
      · have f := (if_neg q44).symm.trans f
        refine lv_iconst (v := 1) S.1 S.2.1 dX0_makePlan_123 (by decide) ?_
        refine lv_goto (tgt := 128) S.1 S.2.1 dX0_makePlan_124 (by decide) ?_
        exact T0_makePlan_128 S hr hlo (fun f _ _ I _ hl => ih f I hl) f I (lv_sub hl [1, 2, 3, 4, 5, 6, 7, 0] rfl)
set_option maxHeartbeats 4000000 in
set_option maxRecDepth 100000 in
theorem T0_makePlan_0 (S : CallFix p m c cX0_makePlan 8 s args vX0_makePlan RX0) (hr : meth.sig.returnType = none) (hlo : meth.locks = false) {out : PH} {h : PH} {a0 : Nat} {a1 : Nat} {a2 : Nat} {x3 : Int32} (f : F0_makePlan_0  h a0 a1 a2 x3 = some out) {H : Heap} {locs : List Loc} (I : ph_I D cy b A fl h s H locs) {ls : Array Slot} (hl : lv_has ls 8 [(0, .ref (b + a0)), (1, .ref (b + a1)), (2, .ref (b + a2)), (3, .int x3)]) : W p l e ({ frames := 5, cells := 0, slots := 0, locals := 126 } : Room) s m args below meth c H locs 0 0 (MQ below (va_Qv (fun (u : PH) => u = out) (ph_B D cy b A fl) A) args s 0 0 A) (F0 m 0 ls []) := by
  unfold F0_makePlan_0 at f
  refine lv_aload_n S.1 S.2.1 dX0_makePlan_0 rfl (lv_at hl 1 rfl) ?_
  obtain ⟨r1, e2, f⟩ := ob f
  refine o_gR S lf0_makePlan_43 I e2 dX0_makePlan_1 ?_
  obtain ⟨r3, e4, f⟩ := ob f
  refine o_gR S lf0_makePlan_49 I e4 dX0_makePlan_4 ?_
  refine lv_astore (lv' := [(4, .ref (b + r3)), (0, .ref (b + a0)), (1, .ref (b + a1)), (2, .ref (b + a2)), (3, .int x3)]) S.1 S.2.1 dX0_makePlan_7 hl (by decide) rfl (fun ls hl => ?_)
  refine lv_aload S.1 S.2.1 dX0_makePlan_9 (lv_at hl 0 rfl) ?_
  refine lv_aload_n S.1 S.2.1 dX0_makePlan_11 rfl (lv_at hl 3 rfl) ?_
  obtain ⟨v5, e6, f⟩ := ob f
  refine o_gI S lf0_makePlan_55 I e6 dX0_makePlan_12 ?_
  obtain ⟨o7, e8, f⟩ := ob f
  refine o_Vi S (As := [.int v5]) (rest := []) (ci := 10) (M10_firstFrom l D cy b A fl e8) gX0_makePlan_X10_firstFrom rfl rfl rfl cd10_firstFrom ⟨Nat.le_of_ble_eq_true rfl, Nat.le_of_ble_eq_true rfl⟩ I (gd e8).1 clX10 rfl rfl hl.1 rfl (Nat.le_of_ble_eq_true rfl) dX0_makePlan_15 ⟨Nat.le_of_ble_eq_true rfl, Nat.le_of_ble_eq_true rfl⟩ (fun H locs I => ?_)
  refine lv_istore (lv' := [(5, .int o7.1), (4, .ref (b + r3)), (0, .ref (b + a0)), (1, .ref (b + a1)), (2, .ref (b + a2)), (3, .int x3)]) S.1 S.2.1 dX0_makePlan_18 hl (by decide) rfl (fun ls hl => ?_)
  refine lv_aload_n S.1 S.2.1 dX0_makePlan_20 rfl (lv_at hl 2 rfl) ?_
  obtain ⟨r9, e10, f⟩ := ob f
  refine o_gR S lf0_makePlan_30 I e10 dX0_makePlan_21 ?_
  refine lv_aload S.1 S.2.1 dX0_makePlan_24 (lv_at hl 1 rfl) ?_
  obtain ⟨v11, e12, f⟩ := ob f
  refine o_gI S lf0_makePlan_71 I e12 dX0_makePlan_26 ?_
  refine lv_iconst (v := 0) S.1 S.2.1 dX0_makePlan_29 (by decide) ?_
  obtain ⟨h14, e13, f⟩ := ob f
  refine o_iast S I e13 dX0_makePlan_30 (fun H locs I => ?_)
  refine lv_aload S.1 S.2.1 dX0_makePlan_31 (lv_at hl 1 rfl) ?_
  obtain ⟨v15, e16, f⟩ := ob f
  refine o_gI S lf0_makePlan_71 I e16 dX0_makePlan_33 ?_
  refine lv_iconst (v := 1) S.1 S.2.1 dX0_makePlan_36 (by decide) ?_
  refine lv_isub S.1 S.2.1 dX0_makePlan_37 ?_
  refine lv_istore (lv' := [(6, .int (v15 - 1)), (5, .int o7.1), (4, .ref (b + r3)), (0, .ref (b + a0)), (1, .ref (b + a1)), (2, .ref (b + a2)), (3, .int x3)]) S.1 S.2.1 dX0_makePlan_38 hl (by decide) rfl (fun ls hl => ?_)
  exact T0_makePlan_40 S hr hlo  1024 f I (lv_sub hl [3, 4, 5, 6, 2, 1, 0] rfl)
theorem M0_makePlan (l : Launch) (D : va_G) (cy : Nat → ClassId) (b : Nat) (A : Nat → Prop) (fl : Bool) {h : PH} {a0 : Nat} {a1 : Nat} {a2 : Nat} {x3 : Int32} {out : PH} (f : F0_makePlan h a0 a1 a2 x3 = some out) : Met l yX0_makePlan vX0_makePlan ({ frames := 5, cells := 0, slots := 0, locals := 126 } : Room) (va_Pc [.ref (b + a0), .ref (b + a1), .ref (b + a2), .int x3] (ph_B D cy b A fl h)) (va_Qv (fun (u : PH) => u = out) (ph_B D cy b A fl) A) 0 0 A :=
  o_met (by decide) rfl (Nat.le_of_ble_eq_true rfl) rfl (fun p e s m below meth c S hr hlo hnm ls hl I => T0_makePlan_0 S hr hlo ((gd f).2) I (lv_sub hl [0, 1, 2, 3] rfl))
def vX8_columnOf : List Cond := .code yX8_columnOf cX8_columnOf 2 (some .int) :: TB
theorem lf8_columnOf_32 : Fl vX8_columnOf RX8 32 8 0 := ⟨RX8, TX8, 14, rfl, by decide, (fun w h9 => List.mem_cons_of_mem _ (wC_wsX80 w h9)), (List.mem_cons_of_mem _ wT_3_15)⟩
theorem cd8_columnOf : Cd yX8_columnOf 1 := ⟨by decide, by decide, by decide +kernel⟩
set_option maxHeartbeats 4000000 in
set_option maxRecDepth 100000 in
theorem T8_columnOf_0 (S : CallFix p m c cX8_columnOf 2 s args vX8_columnOf RX8) (hr : meth.sig.returnType = (some .int)) (hlo : meth.locks = false) {out : Int32 × PH} {h : PH} {a0 : Nat} {x1 : Int32} (f : F8_columnOf_0  h a0 x1 = some out) {H : Heap} {locs : List Loc} (I : ph_I D cy b A fl h s H locs) {ls : Array Slot} (hl : lv_has ls 2 [(0, .ref (b + a0)), (1, .int x1)]) : W p l e ({ frames := 0, cells := 0, slots := 0, locals := 0 } : Room) s m args below meth c H locs 0 0 (MQ below (va_Qi (fun (r : Int32) (u : PH) => (r, u) = out) (ph_B D cy b A fl) A) args s 0 0 A) (F0 m 0 ls []) := by
  unfold F8_columnOf_0 at f
  refine lv_aload_n S.1 S.2.1 dX8_columnOf_0 rfl (lv_at hl 0 rfl) ?_
  obtain ⟨v1, e2, f⟩ := ob f
  refine o_gI S lf8_columnOf_32 I e2 dX8_columnOf_1 ?_
  refine lv_if_le (tgt := 16) S.1 S.2.1 dX8_columnOf_4 (by decide) (fun q3 => ?_) (fun q3 => ?_)
  · have f := (if_pos q3).symm.trans f
    refine lv_iconst (v := 0) S.1 S.2.1 dX8_columnOf_16 (by decide) ?_
    exact o_iret S hr hlo I f dX8_columnOf_17
  · have f := (if_neg q3).symm.trans f
    refine lv_iload_n S.1 S.2.1 dX8_columnOf_7 rfl (lv_at hl 1 rfl) ?_
    refine lv_aload_n S.1 S.2.1 dX8_columnOf_8 rfl (lv_at hl 0 rfl) ?_
    obtain ⟨v4, e5, f⟩ := ob f
    refine o_gI S lf8_columnOf_32 I e5 dX8_columnOf_9 ?_
    have q6 : ¬ v4 = 0 := fun q => by rw [if_pos q] at f; cases f
    have f := (if_neg q6).symm.trans f
    refine lv_irem S.1 S.2.1 dX8_columnOf_12 q6 ?_
    refine lv_goto (tgt := 17) S.1 S.2.1 dX8_columnOf_13 (by decide) ?_
    exact o_iret S hr hlo I f dX8_columnOf_17
theorem M8_columnOf (l : Launch) (D : va_G) (cy : Nat → ClassId) (b : Nat) (A : Nat → Prop) (fl : Bool) {h : PH} {a0 : Nat} {x1 : Int32} {out : Int32 × PH} (f : F8_columnOf h a0 x1 = some out) : Met l yX8_columnOf vX8_columnOf ({ frames := 0, cells := 0, slots := 0, locals := 0 } : Room) (va_Pc [.ref (b + a0), .int x1] (ph_B D cy b A fl h)) (va_Qi (fun (r : Int32) (u : PH) => (r, u) = out) (ph_B D cy b A fl) A) 0 0 A :=
  o_met (by decide) rfl (Nat.le_of_ble_eq_true rfl) rfl (fun p e s m below meth c S hr hlo hnm ls hl I => T8_columnOf_0 S hr hlo ((gd f).2) I (lv_sub hl [0, 1] rfl))
def vX8_cellBeside : List Cond := .code yX8_cellBeside cX8_cellBeside 5 (some .int) :: TB
theorem gX8_cellBeside_X8_columnOf : GoodIn vX8_cellBeside (wsV RX8 79 RX8 yX8_columnOf vX8_columnOf) := gV_of wT_41_16 wT_41_17 wT_41_18 wT_1_17 wT_41_19
theorem gX8_cellBeside_X8_rowOf : GoodIn vX8_cellBeside (wsV RX8 82 RX8 yX8_rowOf vX8_rowOf) := gV_of wT_41_20 wT_39_6 wT_39_7 wT_1_17 wT_39_8
theorem lf8_cellBeside_32 : Fl vX8_cellBeside RX8 32 8 0 := ⟨RX8, TX8, 14, rfl, by decide, (fun w h9 => List.mem_cons_of_mem _ (wC_wsX80 w h9)), (List.mem_cons_of_mem _ wT_3_15)⟩
theorem lf8_cellBeside_36 : Fl vX8_cellBeside RX8 36 8 1 := ⟨RX8, TX8, 14, rfl, by decide, (fun w h9 => List.mem_cons_of_mem _ (wC_wsX80 w h9)), (List.mem_cons_of_mem _ wT_3_16)⟩
theorem cd8_cellBeside : Cd yX8_cellBeside 2 := ⟨by decide, by decide, by decide +kernel⟩
set_option maxHeartbeats 4000000 in
set_option maxRecDepth 100000 in
theorem T8_cellBeside_0 (S : CallFix p m c cX8_cellBeside 5 s args vX8_cellBeside RX8) (hr : meth.sig.returnType = (some .int)) (hlo : meth.locks = false) {out : Int32 × PH} {h : PH} {a0 : Nat} {x1 : Int32} {x2 : Int32} (f : F8_cellBeside_0  h a0 x1 x2 = some out) {H : Heap} {locs : List Loc} (I : ph_I D cy b A fl h s H locs) {ls : Array Slot} (hl : lv_has ls 5 [(0, .ref (b + a0)), (1, .int x1), (2, .int x2)]) : W p l e ({ frames := 1, cells := 0, slots := 0, locals := 21 } : Room) s m args below meth c H locs 0 0 (MQ below (va_Qi (fun (r : Int32) (u : PH) => (r, u) = out) (ph_B D cy b A fl) A) args s 0 0 A) (F0 m 0 ls []) := by
  unfold F8_cellBeside_0 at f
  refine lv_aload_n S.1 S.2.1 dX8_cellBeside_0 rfl (lv_at hl 0 rfl) ?_
  refine lv_iload_n S.1 S.2.1 dX8_cellBeside_1 rfl (lv_at hl 1 rfl) ?_
  obtain ⟨o1, e2, f⟩ := ob f
  refine o_Vi S (As := [.int x1]) (rest := []) (ci := 8) (M8_columnOf l D cy b A fl e2) gX8_cellBeside_X8_columnOf rfl rfl rfl cd8_columnOf ⟨Nat.le_of_ble_eq_true rfl, Nat.le_of_ble_eq_true rfl⟩ I (gd e2).1 clX8 rfl rfl hl.1 rfl (Nat.le_of_ble_eq_true rfl) dX8_cellBeside_2 ⟨Nat.le_of_ble_eq_true rfl, Nat.le_of_ble_eq_true rfl⟩ (fun H locs I => ?_)
  refine lv_istore_n (lv' := [(3, .int o1.1), (0, .ref (b + a0)), (1, .int x1), (2, .int x2)]) S.1 S.2.1 dX8_cellBeside_5 rfl hl (by decide) rfl (fun ls hl => ?_)
  refine lv_aload_n S.1 S.2.1 dX8_cellBeside_6 rfl (lv_at hl 1 rfl) ?_
  refine lv_iload_n S.1 S.2.1 dX8_cellBeside_7 rfl (lv_at hl 2 rfl) ?_
  obtain ⟨o3, e4, f⟩ := ob f
  refine o_Vi S (As := [.int x1]) (rest := []) (ci := 8) (M8_rowOf l D cy b A fl e4) gX8_cellBeside_X8_rowOf rfl rfl rfl cd8_rowOf ⟨Nat.le_of_ble_eq_true rfl, Nat.le_of_ble_eq_true rfl⟩ I (gd e4).1 clX8 rfl rfl hl.1 rfl (Nat.le_of_ble_eq_true rfl) dX8_cellBeside_8 ⟨Nat.le_of_ble_eq_true rfl, Nat.le_of_ble_eq_true rfl⟩ (fun H locs I => ?_)
  refine lv_istore (lv' := [(4, .int o3.1), (3, .int o1.1), (0, .ref (b + a0)), (1, .int x1), (2, .int x2)]) S.1 S.2.1 dX8_cellBeside_11 hl (by decide) rfl (fun ls hl => ?_)
  refine lv_iload_n S.1 S.2.1 dX8_cellBeside_13 rfl (lv_at hl 4 rfl) ?_
  rcases Decidable.em (x2 = 0) with q5 | q5
  · have f := (if_pos q5).symm.trans f
    refine lv_tableIn (off := 30) (tgt := 44) S.1 S.2.1 dX8_cellBeside_14 (by rw [q5]; decide) (by rw [q5]; decide) (by rw [q5]; rfl) (by decide) ?_
    refine lv_iload S.1 S.2.1 dX8_cellBeside_44 (lv_at hl 0 rfl) ?_
    refine lv_if_le (tgt := 58) S.1 S.2.1 dX8_cellBeside_46 (by decide) (fun q6 => ?_) (fun q6 => ?_)
    · have f := (if_pos q6).symm.trans f
      refine lv_iconst (v := (-1)) S.1 S.2.1 dX8_cellBeside_58 (by decide) ?_
      exact o_iret S hr hlo I f dX8_cellBeside_59
    · have f := (if_neg q6).symm.trans f
      refine lv_iload_n S.1 S.2.1 dX8_cellBeside_49 rfl (lv_at hl 3 rfl) ?_
      refine lv_aload_n S.1 S.2.1 dX8_cellBeside_50 rfl (lv_at hl 2 rfl) ?_
      obtain ⟨v7, e8, f⟩ := ob f
      refine o_gI S lf8_cellBeside_32 I e8 dX8_cellBeside_51 ?_
      refine lv_isub S.1 S.2.1 dX8_cellBeside_54 ?_
      refine lv_goto (tgt := 59) S.1 S.2.1 dX8_cellBeside_55 (by decide) ?_
      exact o_iret S hr hlo I f dX8_cellBeside_59
  have f := (if_neg q5).symm.trans f
  rcases Decidable.em (x2 = 1) with q9 | q9
  · have f := (if_pos q9).symm.trans f
    refine lv_tableIn (off := 46) (tgt := 60) S.1 S.2.1 dX8_cellBeside_14 (by rw [q9]; decide) (by rw [q9]; decide) (by rw [q9]; rfl) (by decide) ?_
    refine lv_iload_n S.1 S.2.1 dX8_cellBeside_60 rfl (lv_at hl 1 rfl) ?_
    refine lv_aload_n S.1 S.2.1 dX8_cellBeside_61 rfl (lv_at hl 2 rfl) ?_
    obtain ⟨v10, e11, f⟩ := ob f
    refine o_gI S lf8_cellBeside_32 I e11 dX8_cellBeside_62 ?_
    refine lv_iconst (v := 1) S.1 S.2.1 dX8_cellBeside_65 (by decide) ?_
    refine lv_isub S.1 S.2.1 dX8_cellBeside_66 ?_
    refine lv_icmp_ge (tgt := 76) S.1 S.2.1 dX8_cellBeside_67 (by decide) (fun q12 => ?_) (fun q12 => ?_)
    · have f := (if_pos q12).symm.trans f
      refine lv_iconst (v := (-1)) S.1 S.2.1 dX8_cellBeside_76 (by decide) ?_
      exact o_iret S hr hlo I f dX8_cellBeside_77
    · have f := (if_neg q12).symm.trans f
      refine lv_iload_n S.1 S.2.1 dX8_cellBeside_70 rfl (lv_at hl 3 rfl) ?_
      refine lv_iconst (v := 1) S.1 S.2.1 dX8_cellBeside_71 (by decide) ?_
      refine lv_iadd S.1 S.2.1 dX8_cellBeside_72 ?_
      refine lv_goto (tgt := 77) S.1 S.2.1 dX8_cellBeside_73 (by decide) ?_
      exact o_iret S hr hlo I f dX8_cellBeside_77
  have f := (if_neg q9).symm.trans f
  rcases Decidable.em (x2 = 2) with q13 | q13
  · have f := (if_pos q13).symm.trans f
    refine lv_tableIn (off := 64) (tgt := 78) S.1 S.2.1 dX8_cellBeside_14 (by rw [q13]; decide) (by rw [q13]; decide) (by rw [q13]; rfl) (by decide) ?_
    refine lv_iload S.1 S.2.1 dX8_cellBeside_78 (lv_at hl 0 rfl) ?_
    refine lv_aload_n S.1 S.2.1 dX8_cellBeside_80 rfl (lv_at hl 2 rfl) ?_
    obtain ⟨v14, e15, f⟩ := ob f
    refine o_gI S lf8_cellBeside_36 I e15 dX8_cellBeside_81 ?_
    refine lv_iconst (v := 1) S.1 S.2.1 dX8_cellBeside_84 (by decide) ?_
    refine lv_isub S.1 S.2.1 dX8_cellBeside_85 ?_
    refine lv_icmp_ge (tgt := 98) S.1 S.2.1 dX8_cellBeside_86 (by decide) (fun q16 => ?_) (fun q16 => ?_)
    · have f := (if_pos q16).symm.trans f
      refine lv_iconst (v := (-1)) S.1 S.2.1 dX8_cellBeside_98 (by decide) ?_
      exact o_iret S hr hlo I f dX8_cellBeside_99
    · have f := (if_neg q16).symm.trans f
      refine lv_iload_n S.1 S.2.1 dX8_cellBeside_89 rfl (lv_at hl 3 rfl) ?_
      refine lv_aload_n S.1 S.2.1 dX8_cellBeside_90 rfl (lv_at hl 2 rfl) ?_
      obtain ⟨v17, e18, f⟩ := ob f
      refine o_gI S lf8_cellBeside_32 I e18 dX8_cellBeside_91 ?_
      refine lv_iadd S.1 S.2.1 dX8_cellBeside_94 ?_
      refine lv_goto (tgt := 99) S.1 S.2.1 dX8_cellBeside_95 (by decide) ?_
      exact o_iret S hr hlo I f dX8_cellBeside_99
  have f := (if_neg q13).symm.trans f
  rcases Decidable.em (x2 = 3) with q19 | q19
  · have f := (if_pos q19).symm.trans f
    refine lv_tableIn (off := 86) (tgt := 100) S.1 S.2.1 dX8_cellBeside_14 (by rw [q19]; decide) (by rw [q19]; decide) (by rw [q19]; rfl) (by decide) ?_
    refine lv_iload_n S.1 S.2.1 dX8_cellBeside_100 rfl (lv_at hl 1 rfl) ?_
    refine lv_if_le (tgt := 110) S.1 S.2.1 dX8_cellBeside_101 (by decide) (fun q20 => ?_) (fun q20 => ?_)
    · have f := (if_pos q20).symm.trans f
      refine lv_iconst (v := (-1)) S.1 S.2.1 dX8_cellBeside_110 (by decide) ?_
      exact o_iret S hr hlo I f dX8_cellBeside_111
    · have f := (if_neg q20).symm.trans f
      refine lv_iload_n S.1 S.2.1 dX8_cellBeside_104 rfl (lv_at hl 3 rfl) ?_
      refine lv_iconst (v := 1) S.1 S.2.1 dX8_cellBeside_105 (by decide) ?_
      refine lv_isub S.1 S.2.1 dX8_cellBeside_106 ?_
      refine lv_goto (tgt := 111) S.1 S.2.1 dX8_cellBeside_107 (by decide) ?_
      exact o_iret S hr hlo I f dX8_cellBeside_111
  have f := (if_neg q19).symm.trans f
  refine lv_tableOut (tgt := 112) S.1 S.2.1 dX8_cellBeside_14 (by have := lv_neT q5 (a := 0) (by decide); have := lv_neT q9 (a := 1) (by decide); have := lv_neT q13 (a := 2) (by decide); have := lv_neT q19 (a := 3) (by decide); omega) (by decide) ?_
  refine lv_iload_n S.1 S.2.1 dX8_cellBeside_112 rfl (lv_at hl 3 rfl) ?_
  exact o_iret S hr hlo I f dX8_cellBeside_113
theorem M8_cellBeside (l : Launch) (D : va_G) (cy : Nat → ClassId) (b : Nat) (A : Nat → Prop) (fl : Bool) {h : PH} {a0 : Nat} {x1 : Int32} {x2 : Int32} {out : Int32 × PH} (f : F8_cellBeside h a0 x1 x2 = some out) : Met l yX8_cellBeside vX8_cellBeside ({ frames := 1, cells := 0, slots := 0, locals := 21 } : Room) (va_Pc [.ref (b + a0), .int x1, .int x2] (ph_B D cy b A fl h)) (va_Qi (fun (r : Int32) (u : PH) => (r, u) = out) (ph_B D cy b A fl) A) 0 0 A :=
  o_met (by decide) rfl (Nat.le_of_ble_eq_true rfl) rfl (fun p e s m below meth c S hr hlo hnm ls hl I => T8_cellBeside_0 S hr hlo ((gd f).2) I (lv_sub hl [0, 1, 2] rfl))
def vX0_weighWays : List Cond := .code yX0_weighWays cX0_weighWays 10 none :: TB
theorem lf0_weighWays_43 : Fl vX0_weighWays RX0 43 6 0 := ⟨RX6, TX6, 9, rfl, by decide, (fun w h9 => List.mem_cons_of_mem _ (wC_wsX60 w h9)), (List.mem_cons_of_mem _ wT_51_2)⟩
theorem lf0_weighWays_49 : Fl vX0_weighWays RX0 49 8 5 := ⟨RX8, TX8, 14, rfl, by decide, (fun w h9 => List.mem_cons_of_mem _ (wC_wsX80 w h9)), (List.mem_cons_of_mem _ wT_51_3)⟩
theorem lf0_weighWays_71 : Fl vX0_weighWays RX0 71 10 1 := ⟨RX10, TX10, 8, rfl, by decide, (fun w h9 => List.mem_cons_of_mem _ (wC_wsX100 w h9)), (List.mem_cons_of_mem _ wT_51_5)⟩
theorem lf0_weighWays_15 : Fl vX0_weighWays RX0 15 0 1 := ⟨RX0, TX0, 13, rfl, by decide, (fun w h9 => List.mem_cons_of_mem _ (wC_wsX00 w h9)), (List.mem_cons_of_mem _ wT_9_8)⟩
theorem gX0_weighWays_X6_farOf : GoodIn vX0_weighWays (wsV RX0 91 RX6 yX6_farOf vX6_farOf) := gV_of wT_51_13 wT_39_10 wT_39_11 wT_2_2 wT_39_12
theorem lf0_weighWays_18 : Fl vX0_weighWays RX0 18 0 2 := ⟨RX0, TX0, 13, rfl, by decide, (fun w h9 => List.mem_cons_of_mem _ (wC_wsX00 w h9)), (List.mem_cons_of_mem _ wT_9_9)⟩
theorem gX0_weighWays_X6_worthAt : GoodIn vX0_weighWays (wsV RX0 94 RX6 yX6_worthAt vX6_worthAt) := gV_of wT_51_14 wT_49_18 wT_49_19 wT_2_2 wT_49_20
theorem lf0_weighWays_81 : Fl vX0_weighWays RX0 81 4 5 := ⟨RX4, TX4, 11, rfl, by decide, (fun w h9 => List.mem_cons_of_mem _ (wC_wsX40 w h9)), (List.mem_cons_of_mem _ wT_51_11)⟩
theorem gX0_weighWays_X8_cellBeside : GoodIn vX0_weighWays (wsV RX0 87 RX8 yX8_cellBeside vX8_cellBeside) := gV_of wT_51_12 wT_41_13 wT_41_14 wT_1_17 wT_41_15
theorem lf0_weighWays_9 : Fl vX0_weighWays RX0 9 0 0 := ⟨RX0, TX0, 13, rfl, by decide, (fun w h9 => List.mem_cons_of_mem _ (wC_wsX00 w h9)), (List.mem_cons_of_mem _ wT_9_7)⟩
theorem cd0_weighWays : Cd yX0_weighWays 5 := ⟨by decide, by decide, by decide +kernel⟩
set_option maxHeartbeats 4000000 in
set_option maxRecDepth 100000 in
theorem T0_weighWays_46 (S : CallFix p m c cX0_weighWays 10 s args vX0_weighWays RX0) (hr : meth.sig.returnType = none) (hlo : meth.locks = false) {out : PH} {k3 : PH → Nat → Nat → Nat → Int32 → Int32 → Int32 → Int32 → Option (PH)} (hk3 : ∀ {h : PH} {a0 : Nat} {a1 : Nat} {a2 : Nat} {x3 : Int32} {x4 : Int32} {x5 : Int32} {x6 : Int32}, k3 h a0 a1 a2 x3 x4 x5 x6 = some out → ∀ (H : Heap) (locs : List Loc), ph_I D cy b A fl h s H locs → ∀ (ls : Array Slot), lv_has ls 10 [(0, .ref (b + a0)), (1, .ref (b + a1)), (2, .ref (b + a2)), (3, .int x3), (4, .int x4), (5, .int x5), (6, .int x6)] → W p l e ({ frames := 5, cells := 0, slots := 0, locals := 126 } : Room) s m args below meth c H locs 0 0 (MQ below (va_Qv (fun (u : PH) => u = out) (ph_B D cy b A fl) A) args s 0 0 A) (F0 m 3 ls [])) : ∀ (n : Nat) {h : PH} {a0 : Nat} {a1 : Nat} {a2 : Nat} {x3 : Int32} {x4 : Int32} {x5 : Int32} {x6 : Int32} {x7 : Int32} {x8 : Int32} (f : F0_weighWays_46 k3 n h a0 a1 a2 x3 x4 x5 x6 x7 x8 = some out) {H : Heap} {locs : List Loc} (I : ph_I D cy b A fl h s H locs) {ls : Array Slot} (hl : lv_has ls 10 [(0, .ref (b + a0)), (1, .ref (b + a1)), (2, .ref (b + a2)), (3, .int x3), (4, .int x4), (5, .int x5), (6, .int x6), (7, .int x7), (8, .int x8)]), W p l e ({ frames := 5, cells := 0, slots := 0, locals := 126 } : Room) s m args below meth c H locs 0 0 (MQ below (va_Qv (fun (u : PH) => u = out) (ph_B D cy b A fl) A) args s 0 0 A) (F0 m 46 ls []) := by
  intro n
  induction n with
  | zero => intro h a0 a1 a2 x3 x4 x5 x6 x7 x8 f; rw [F0_weighWays_46] at f; cases f
  | succ n ih =>
    intro h a0 a1 a2 x3 x4 x5 x6 x7 x8 f H locs I ls hl
    rw [F0_weighWays_46] at f
    refine lv_iload S.1 S.2.1 dX0_weighWays_46 (lv_at hl 7 rfl) ?_
    refine lv_iconst (v := (-1)) S.1 S.2.1 dX0_weighWays_48 (by decide) ?_
    refine lv_icmp_eq (tgt := 117) S.1 S.2.1 dX0_weighWays_49 (by decide) (fun q1 => ?_) (fun q1 => ?_)
    · have f := (if_pos q1).symm.trans f
      refine lv_iinc (v := (x6 + 1)) (lv' := [(6, .int (x6 + 1)), (0, .ref (b + a0)), (1, .ref (b + a1)), (2, .ref (b + a2)), (3, .int x3), (4, .int x4), (5, .int x5), (7, .int x7), (8, .int x8)]) S.1 S.2.1 dX0_weighWays_117 hl (k := 6) rfl (congrArg (fun z => x6 + z) (by decide)) (by decide) rfl (fun ls hl => ?_)
      refine lv_goto (tgt := 3) S.1 S.2.1 dX0_weighWays_120 (by decide) ?_
      exact hk3 f _ _ I _ (lv_sub hl [1, 2, 3, 4, 5, 6, 0] rfl)
    · have f := (if_neg q1).symm.trans f
      refine lv_iload S.1 S.2.1 dX0_weighWays_52 (lv_at hl 8 rfl) ?_
      refine lv_aload_n S.1 S.2.1 dX0_weighWays_54 rfl (lv_at hl 1 rfl) ?_
      obtain ⟨r2, e3, f⟩ := ob f
      refine o_gR S lf0_weighWays_43 I e3 dX0_weighWays_55 ?_
      obtain ⟨r4, e5, f⟩ := ob f
      refine o_gR S lf0_weighWays_49 I e5 dX0_weighWays_58 ?_
      obtain ⟨v6, e7, f⟩ := ob f
      refine o_gI S lf0_weighWays_71 I e7 dX0_weighWays_61 ?_
      refine lv_icmp_ge (tgt := 117) S.1 S.2.1 dX0_weighWays_64 (by decide) (fun q8 => ?_) (fun q8 => ?_)
      · have f := (if_pos q8).symm.trans f
        refine lv_iinc (v := (x6 + 1)) (lv' := [(6, .int (x6 + 1)), (0, .ref (b + a0)), (1, .ref (b + a1)), (2, .ref (b + a2)), (3, .int x3), (4, .int x4), (5, .int x5), (7, .int x7), (8, .int x8)]) S.1 S.2.1 dX0_weighWays_117 hl (k := 6) rfl (congrArg (fun z => x6 + z) (by decide)) (by decide) rfl (fun ls hl => ?_)
        refine lv_goto (tgt := 3) S.1 S.2.1 dX0_weighWays_120 (by decide) ?_
        exact hk3 f _ _ I _ (lv_sub hl [1, 2, 3, 4, 5, 6, 0] rfl)
      · have f := (if_neg q8).symm.trans f
        refine lv_iload S.1 S.2.1 dX0_weighWays_67 (lv_at hl 4 rfl) ?_
        refine lv_iload S.1 S.2.1 dX0_weighWays_69 (lv_at hl 6 rfl) ?_
        refine lv_iadd S.1 S.2.1 dX0_weighWays_71 ?_
        refine lv_bipush (v := 28) S.1 S.2.1 dX0_weighWays_72 (by decide) ?_
        refine lv_imul S.1 S.2.1 dX0_weighWays_74 ?_
        refine lv_iload S.1 S.2.1 dX0_weighWays_75 (lv_at hl 8 rfl) ?_
        refine lv_iadd S.1 S.2.1 dX0_weighWays_77 ?_
        refine lv_istore (lv' := [(9, .int (((x4 + x6) * 28) + x8)), (0, .ref (b + a0)), (1, .ref (b + a1)), (2, .ref (b + a2)), (3, .int x3), (4, .int x4), (5, .int x5), (6, .int x6), (7, .int x7), (8, .int x8)]) S.1 S.2.1 dX0_weighWays_78 hl (by decide) rfl (fun ls hl => ?_)
        refine lv_aload_n S.1 S.2.1 dX0_weighWays_80 rfl (lv_at hl 1 rfl) ?_
        obtain ⟨r9, e10, f⟩ := ob f
        refine o_gR S lf0_weighWays_15 I e10 dX0_weighWays_81 ?_
        refine lv_iload S.1 S.2.1 dX0_weighWays_84 (lv_at hl 0 rfl) ?_
        refine lv_aload_n S.1 S.2.1 dX0_weighWays_86 rfl (lv_at hl 2 rfl) ?_
        refine lv_iload S.1 S.2.1 dX0_weighWays_87 (lv_at hl 8 rfl) ?_
        refine lv_iload S.1 S.2.1 dX0_weighWays_89 (lv_at hl 9 rfl) ?_
        obtain ⟨o11, e12, f⟩ := ob f
        refine o_Vi S (As := [.int x7, .int x8]) (rest := [.int (((x4 + x6) * 28) + x8), .ref (b + r9)]) (ci := 6) (M6_farOf l D cy b A fl e12) gX0_weighWays_X6_farOf rfl rfl rfl cd6_farOf ⟨Nat.le_of_ble_eq_true rfl, Nat.le_of_ble_eq_true rfl⟩ I (gd e12).1 clX6 rfl rfl hl.1 rfl (Nat.le_of_ble_eq_true rfl) dX0_weighWays_91 ⟨Nat.le_of_ble_eq_true rfl, Nat.le_of_ble_eq_true rfl⟩ (fun H locs I => ?_)
        obtain ⟨h14, e13, f⟩ := ob f
        refine o_iast S I e13 dX0_weighWays_94 (fun H locs I => ?_)
        refine lv_aload_n S.1 S.2.1 dX0_weighWays_95 rfl (lv_at hl 1 rfl) ?_
        obtain ⟨r15, e16, f⟩ := ob f
        refine o_gR S lf0_weighWays_18 I e16 dX0_weighWays_96 ?_
        refine lv_iload S.1 S.2.1 dX0_weighWays_99 (lv_at hl 0 rfl) ?_
        refine lv_aload_n S.1 S.2.1 dX0_weighWays_101 rfl (lv_at hl 2 rfl) ?_
        refine lv_iload_n S.1 S.2.1 dX0_weighWays_102 rfl (lv_at hl 4 rfl) ?_
        refine lv_iload S.1 S.2.1 dX0_weighWays_103 (lv_at hl 9 rfl) ?_
        refine lv_iload S.1 S.2.1 dX0_weighWays_105 (lv_at hl 8 rfl) ?_
        obtain ⟨o17, e18, f⟩ := ob f
        refine o_Vi S (As := [.int x3, .int x8, .int x7]) (rest := [.int (((x4 + x6) * 28) + x8), .ref (b + r15)]) (ci := 6) (M6_worthAt l D cy b A fl e18) gX0_weighWays_X6_worthAt rfl rfl rfl cd6_worthAt ⟨Nat.le_of_ble_eq_true rfl, Nat.le_of_ble_eq_true rfl⟩ I (gd e18).1 clX6 rfl rfl hl.1 rfl (Nat.le_of_ble_eq_true rfl) dX0_weighWays_107 ⟨Nat.le_of_ble_eq_true rfl, Nat.le_of_ble_eq_true rfl⟩ (fun H locs I => ?_)
        obtain ⟨h20, e19, f⟩ := ob f
        refine o_iast S I e19 dX0_weighWays_110 (fun H locs I => ?_)
        refine lv_iinc (v := (x8 + 1)) (lv' := [(8, .int (x8 + 1)), (9, .int (((x4 + x6) * 28) + x8)), (0, .ref (b + a0)), (1, .ref (b + a1)), (2, .ref (b + a2)), (3, .int x3), (4, .int x4), (5, .int x5), (6, .int x6), (7, .int x7)]) S.1 S.2.1 dX0_weighWays_111 hl (k := 9) rfl (congrArg (fun z => x8 + z) (by decide)) (by decide) rfl (fun ls hl => ?_)
        refine lv_goto (tgt := 46) S.1 S.2.1 dX0_weighWays_114 (by decide) ?_
        exact ih f I (lv_sub hl [2, 3, 4, 5, 6, 7, 8, 9, 0] rfl)
set_option maxHeartbeats 4000000 in
set_option maxRecDepth 100000 in
theorem T0_weighWays_3 (S : CallFix p m c cX0_weighWays 10 s args vX0_weighWays RX0) (hr : meth.sig.returnType = none) (hlo : meth.locks = false) {out : PH} : ∀ (n : Nat) {h : PH} {a0 : Nat} {a1 : Nat} {a2 : Nat} {x3 : Int32} {x4 : Int32} {x5 : Int32} {x6 : Int32} (f : F0_weighWays_3  n h a0 a1 a2 x3 x4 x5 x6 = some out) {H : Heap} {locs : List Loc} (I : ph_I D cy b A fl h s H locs) {ls : Array Slot} (hl : lv_has ls 10 [(0, .ref (b + a0)), (1, .ref (b + a1)), (2, .ref (b + a2)), (3, .int x3), (4, .int x4), (5, .int x5), (6, .int x6)]), W p l e ({ frames := 5, cells := 0, slots := 0, locals := 126 } : Room) s m args below meth c H locs 0 0 (MQ below (va_Qv (fun (u : PH) => u = out) (ph_B D cy b A fl) A) args s 0 0 A) (F0 m 3 ls []) := by
  intro n
  induction n with
  | zero => intro h a0 a1 a2 x3 x4 x5 x6 f; rw [F0_weighWays_3] at f; cases f
  | succ n ih =>
    intro h a0 a1 a2 x3 x4 x5 x6 f H locs I ls hl
    rw [F0_weighWays_3] at f
    refine lv_iload S.1 S.2.1 dX0_weighWays_3 (lv_at hl 6 rfl) ?_
    refine lv_iconst (v := 5) S.1 S.2.1 dX0_weighWays_5 (by decide) ?_
    refine lv_icmp_ge (tgt := 123) S.1 S.2.1 dX0_weighWays_6 (by decide) (fun q1 => ?_) (fun q1 => ?_)
    · have f := (if_pos q1).symm.trans f
      exact o_vret S hr hlo I f dX0_weighWays_123
    · have f := (if_neg q1).symm.trans f
      refine lv_aload_n S.1 S.2.1 dX0_weighWays_9 rfl (lv_at hl 1 rfl) ?_
      obtain ⟨r2, e3, f⟩ := ob f
      refine o_gR S lf0_weighWays_43 I e3 dX0_weighWays_10 ?_
      refine lv_aload_n S.1 S.2.1 dX0_weighWays_13 rfl (lv_at hl 2 rfl) ?_
      obtain ⟨r4, e5, f⟩ := ob f
      refine o_gR S lf0_weighWays_81 I e5 dX0_weighWays_14 ?_
      refine lv_iload_n S.1 S.2.1 dX0_weighWays_17 rfl (lv_at hl 3 rfl) ?_
      obtain ⟨v7, e6, f⟩ := ob f
      refine o_iald S I e6 dX0_weighWays_18 ?_
      refine o_gws S I dX0_weighWays_19 (fun g8 z9 => ?_)
      refine lv_iload S.1 S.2.1 dX0_weighWays_22 (lv_at hl 6 rfl) ?_
      obtain ⟨v11, e10, f⟩ := ob f
      refine o_gwald S I z9 e10 dX0_weighWays_24 ?_
      obtain ⟨o12, e13, f⟩ := ob f
      refine o_Vi S (As := [.int v7, .int v11]) (rest := []) (ci := 8) (M8_cellBeside l D cy b A fl e13) gX0_weighWays_X8_cellBeside rfl rfl rfl cd8_cellBeside ⟨Nat.le_of_ble_eq_true rfl, Nat.le_of_ble_eq_true rfl⟩ I (gd e13).1 clX8 rfl rfl hl.1 rfl (Nat.le_of_ble_eq_true rfl) dX0_weighWays_25 ⟨Nat.le_of_ble_eq_true rfl, Nat.le_of_ble_eq_true rfl⟩ (fun H locs I => ?_)
      refine lv_istore (lv' := [(7, .int o12.1), (0, .ref (b + a0)), (1, .ref (b + a1)), (2, .ref (b + a2)), (3, .int x3), (4, .int x4), (5, .int x5), (6, .int x6)]) S.1 S.2.1 dX0_weighWays_28 hl (by decide) rfl (fun ls hl => ?_)
      refine lv_aload_n S.1 S.2.1 dX0_weighWays_30 rfl (lv_at hl 1 rfl) ?_
      obtain ⟨r14, e15, f⟩ := ob f
      refine o_gR S lf0_weighWays_9 I e15 dX0_weighWays_31 ?_
      refine lv_iload S.1 S.2.1 dX0_weighWays_34 (lv_at hl 5 rfl) ?_
      refine lv_iload S.1 S.2.1 dX0_weighWays_36 (lv_at hl 7 rfl) ?_
      refine lv_iadd S.1 S.2.1 dX0_weighWays_38 ?_
      refine lv_iload S.1 S.2.1 dX0_weighWays_39 (lv_at hl 0 rfl) ?_
      obtain ⟨h17, e16, f⟩ := ob f
      refine o_iast S I e16 dX0_weighWays_41 (fun H locs I => ?_)
      refine lv_iload S.1 S.2.1 dX0_weighWays_42 (lv_at hl 6 rfl) ?_
      refine lv_istore (lv' := [(8, .int x5), (7, .int o12.1), (0, .ref (b + a0)), (1, .ref (b + a1)), (2, .ref (b + a2)), (3, .int x3), (4, .int x4), (5, .int x5), (6, .int x6)]) S.1 S.2.1 dX0_weighWays_44 hl (by decide) rfl (fun ls hl => ?_)
      exact T0_weighWays_46 S hr hlo (fun f _ _ I _ hl => ih f I hl) 1024 f I (lv_sub hl [2, 3, 4, 5, 6, 7, 8, 1, 0] rfl)
set_option maxHeartbeats 4000000 in
set_option maxRecDepth 100000 in
theorem T0_weighWays_0 (S : CallFix p m c cX0_weighWays 10 s args vX0_weighWays RX0) (hr : meth.sig.returnType = none) (hlo : meth.locks = false) {out : PH} {h : PH} {a0 : Nat} {a1 : Nat} {a2 : Nat} {x3 : Int32} {x4 : Int32} {x5 : Int32} (f : F0_weighWays_0  h a0 a1 a2 x3 x4 x5 = some out) {H : Heap} {locs : List Loc} (I : ph_I D cy b A fl h s H locs) {ls : Array Slot} (hl : lv_has ls 10 [(0, .ref (b + a0)), (1, .ref (b + a1)), (2, .ref (b + a2)), (3, .int x3), (4, .int x4), (5, .int x5)]) : W p l e ({ frames := 5, cells := 0, slots := 0, locals := 126 } : Room) s m args below meth c H locs 0 0 (MQ below (va_Qv (fun (u : PH) => u = out) (ph_B D cy b A fl) A) args s 0 0 A) (F0 m 0 ls []) := by
  unfold F0_weighWays_0 at f
  refine lv_iconst (v := 0) S.1 S.2.1 dX0_weighWays_0 (by decide) ?_
  refine lv_istore (lv' := [(6, .int 0), (0, .ref (b + a0)), (1, .ref (b + a1)), (2, .ref (b + a2)), (3, .int x3), (4, .int x4), (5, .int x5)]) S.1 S.2.1 dX0_weighWays_1 hl (by decide) rfl (fun ls hl => ?_)
  exact T0_weighWays_3 S hr hlo  1024 f I (lv_sub hl [1, 2, 3, 4, 5, 6, 0] rfl)
theorem M0_weighWays (l : Launch) (D : va_G) (cy : Nat → ClassId) (b : Nat) (A : Nat → Prop) (fl : Bool) {h : PH} {a0 : Nat} {a1 : Nat} {a2 : Nat} {x3 : Int32} {x4 : Int32} {x5 : Int32} {out : PH} (f : F0_weighWays h a0 a1 a2 x3 x4 x5 = some out) : Met l yX0_weighWays vX0_weighWays ({ frames := 5, cells := 0, slots := 0, locals := 126 } : Room) (va_Pc [.ref (b + a0), .ref (b + a1), .ref (b + a2), .int x3, .int x4, .int x5] (ph_B D cy b A fl h)) (va_Qv (fun (u : PH) => u = out) (ph_B D cy b A fl) A) 0 0 A :=
  o_met (by decide) rfl (Nat.le_of_ble_eq_true rfl) rfl (fun p e s m below meth c S hr hlo hnm ls hl I => T0_weighWays_0 S hr hlo ((gd f).2) I (lv_sub hl [0, 1, 2, 3, 4, 5] rfl))
def vX0_sharePair : List Cond := .code yX0_sharePair cX0_sharePair 11 none :: TB
theorem lf0_sharePair_18 : Fl vX0_sharePair RX0 18 0 2 := ⟨RX0, TX0, 13, rfl, by decide, (fun w h9 => List.mem_cons_of_mem _ (wC_wsX00 w h9)), (List.mem_cons_of_mem _ wT_9_9)⟩
theorem lf0_sharePair_21 : Fl vX0_sharePair RX0 21 0 3 := ⟨RX0, TX0, 13, rfl, by decide, (fun w h9 => List.mem_cons_of_mem _ (wC_wsX00 w h9)), (List.mem_cons_of_mem _ wT_9_10)⟩
theorem lf0_sharePair_24 : Fl vX0_sharePair RX0 24 0 4 := ⟨RX0, TX0, 13, rfl, by decide, (fun w h9 => List.mem_cons_of_mem _ (wC_wsX00 w h9)), (List.mem_cons_of_mem _ wT_9_11)⟩
theorem lf0_sharePair_15 : Fl vX0_sharePair RX0 15 0 1 := ⟨RX0, TX0, 13, rfl, by decide, (fun w h9 => List.mem_cons_of_mem _ (wC_wsX00 w h9)), (List.mem_cons_of_mem _ wT_9_8)⟩
theorem cd0_sharePair : Cd yX0_sharePair 5 := ⟨by decide, by decide, by decide +kernel⟩
set_option maxHeartbeats 4000000 in
set_option maxRecDepth 100000 in
theorem T0_sharePair_75 (S : CallFix p m c cX0_sharePair 11 s args vX0_sharePair RX0) (hr : meth.sig.returnType = none) (hlo : meth.locks = false) {out : PH} {k9 : PH → Nat → Int32 → Int32 → Int32 → Int32 → Int32 → Int32 → Int32 → Option (PH)} (hk9 : ∀ {h : PH} {a0 : Nat} {x1 : Int32} {x2 : Int32} {x4 : Int32} {x5 : Int32} {x6 : Int32} {x7 : Int32} {x8 : Int32}, k9 h a0 x1 x2 x4 x5 x6 x7 x8 = some out → ∀ (H : Heap) (locs : List Loc), ph_I D cy b A fl h s H locs → ∀ (ls : Array Slot), lv_has ls 11 [(0, .ref (b + a0)), (1, .int x1), (2, .int x2), (4, .int x4), (5, .int x5), (6, .int x6), (7, .int x7), (8, .int x8)] → W p l e ({ frames := 0, cells := 0, slots := 0, locals := 0 } : Room) s m args below meth c H locs 0 0 (MQ below (va_Qv (fun (u : PH) => u = out) (ph_B D cy b A fl) A) args s 0 0 A) (F0 m 9 ls [])) {h : PH} {a0 : Nat} {x1 : Int32} {x2 : Int32} {x4 : Int32} {x5 : Int32} {x6 : Int32} {x7 : Int32} {x8 : Int32} {x9 : Int32} (f : F0_sharePair_75 k9 h a0 x1 x2 x4 x5 x6 x7 x8 x9 = some out) {H : Heap} {locs : List Loc} (I : ph_I D cy b A fl h s H locs) {ls : Array Slot} (hl : lv_has ls 11 [(0, .ref (b + a0)), (1, .int x1), (2, .int x2), (4, .int x4), (5, .int x5), (6, .int x6), (7, .int x7), (8, .int x8), (9, .int x9)]) : W p l e ({ frames := 0, cells := 0, slots := 0, locals := 0 } : Room) s m args below meth c H locs 0 0 (MQ below (va_Qv (fun (u : PH) => u = out) (ph_B D cy b A fl) A) args s 0 0 A) (F0 m 75 ls []) := by
  unfold F0_sharePair_75 at f
  refine lv_iload S.1 S.2.1 dX0_sharePair_75 (lv_at hl 5 rfl) ?_
  refine lv_aload_n S.1 S.2.1 dX0_sharePair_77 rfl (lv_at hl 0 rfl) ?_
  obtain ⟨r1, e2, f⟩ := ob f
  refine o_gR S lf0_sharePair_18 I e2 dX0_sharePair_78 ?_
  refine lv_iload S.1 S.2.1 dX0_sharePair_81 (lv_at hl 8 rfl) ?_
  obtain ⟨v4, e3, f⟩ := ob f
  refine o_iald S I e3 dX0_sharePair_83 ?_
  refine lv_iadd S.1 S.2.1 dX0_sharePair_84 ?_
  refine lv_istore (lv' := [(6, .int (x6 + v4)), (0, .ref (b + a0)), (1, .int x1), (2, .int x2), (4, .int x4), (5, .int x5), (7, .int x7), (8, .int x8), (9, .int x9)]) S.1 S.2.1 dX0_sharePair_85 hl (by decide) rfl (fun ls hl => ?_)
  refine lv_goto (tgt := 102) S.1 S.2.1 dX0_sharePair_87 (by decide) ?_
  refine lv_iinc (v := (x8 + 1)) (lv' := [(8, .int (x8 + 1)), (6, .int (x6 + v4)), (0, .ref (b + a0)), (1, .int x1), (2, .int x2), (4, .int x4), (5, .int x5), (7, .int x7), (9, .int x9)]) S.1 S.2.1 dX0_sharePair_102 hl (k := 7) rfl (congrArg (fun z => x8 + z) (by decide)) (by decide) rfl (fun ls hl => ?_)
  refine lv_goto (tgt := 9) S.1 S.2.1 dX0_sharePair_105 (by decide) ?_
  exact hk9 f _ _ I _ (lv_sub hl [2, 3, 4, 5, 6, 1, 7, 0] rfl)
set_option maxHeartbeats 4000000 in
set_option maxRecDepth 100000 in
theorem T0_sharePair_90 (S : CallFix p m c cX0_sharePair 11 s args vX0_sharePair RX0) (hr : meth.sig.returnType = none) (hlo : meth.locks = false) {out : PH} {k9 : PH → Nat → Int32 → Int32 → Int32 → Int32 → Int32 → Int32 → Int32 → Option (PH)} (hk9 : ∀ {h : PH} {a0 : Nat} {x1 : Int32} {x2 : Int32} {x4 : Int32} {x5 : Int32} {x6 : Int32} {x7 : Int32} {x8 : Int32}, k9 h a0 x1 x2 x4 x5 x6 x7 x8 = some out → ∀ (H : Heap) (locs : List Loc), ph_I D cy b A fl h s H locs → ∀ (ls : Array Slot), lv_has ls 11 [(0, .ref (b + a0)), (1, .int x1), (2, .int x2), (4, .int x4), (5, .int x5), (6, .int x6), (7, .int x7), (8, .int x8)] → W p l e ({ frames := 0, cells := 0, slots := 0, locals := 0 } : Room) s m args below meth c H locs 0 0 (MQ below (va_Qv (fun (u : PH) => u = out) (ph_B D cy b A fl) A) args s 0 0 A) (F0 m 9 ls [])) {h : PH} {a0 : Nat} {x1 : Int32} {x2 : Int32} {x4 : Int32} {x5 : Int32} {x6 : Int32} {x7 : Int32} {x8 : Int32} {x10 : Int32} (f : F0_sharePair_90 k9 h a0 x1 x2 x4 x5 x6 x7 x8 x10 = some out) {H : Heap} {locs : List Loc} (I : ph_I D cy b A fl h s H locs) {ls : Array Slot} (hl : lv_has ls 11 [(0, .ref (b + a0)), (1, .int x1), (2, .int x2), (4, .int x4), (5, .int x5), (6, .int x6), (7, .int x7), (8, .int x8), (10, .int x10)]) : W p l e ({ frames := 0, cells := 0, slots := 0, locals := 0 } : Room) s m args below meth c H locs 0 0 (MQ below (va_Qv (fun (u : PH) => u = out) (ph_B D cy b A fl) A) args s 0 0 A) (F0 m 90 ls []) := by
  unfold F0_sharePair_90 at f
  refine lv_iload S.1 S.2.1 dX0_sharePair_90 (lv_at hl 6 rfl) ?_
  refine lv_aload_n S.1 S.2.1 dX0_sharePair_92 rfl (lv_at hl 0 rfl) ?_
  obtain ⟨r1, e2, f⟩ := ob f
  refine o_gR S lf0_sharePair_18 I e2 dX0_sharePair_93 ?_
  refine lv_iload S.1 S.2.1 dX0_sharePair_96 (lv_at hl 8 rfl) ?_
  obtain ⟨v4, e3, f⟩ := ob f
  refine o_iald S I e3 dX0_sharePair_98 ?_
  refine lv_iadd S.1 S.2.1 dX0_sharePair_99 ?_
  refine lv_istore (lv' := [(7, .int (x7 + v4)), (0, .ref (b + a0)), (1, .int x1), (2, .int x2), (4, .int x4), (5, .int x5), (6, .int x6), (8, .int x8), (10, .int x10)]) S.1 S.2.1 dX0_sharePair_100 hl (by decide) rfl (fun ls hl => ?_)
  refine lv_iinc (v := (x8 + 1)) (lv' := [(8, .int (x8 + 1)), (7, .int (x7 + v4)), (0, .ref (b + a0)), (1, .int x1), (2, .int x2), (4, .int x4), (5, .int x5), (6, .int x6), (10, .int x10)]) S.1 S.2.1 dX0_sharePair_102 hl (k := 7) rfl (congrArg (fun z => x8 + z) (by decide)) (by decide) rfl (fun ls hl => ?_)
  refine lv_goto (tgt := 9) S.1 S.2.1 dX0_sharePair_105 (by decide) ?_
  exact hk9 f _ _ I _ (lv_sub hl [2, 3, 4, 5, 6, 7, 1, 0] rfl)
set_option maxHeartbeats 4000000 in
set_option maxRecDepth 100000 in
theorem T0_sharePair_9 (S : CallFix p m c cX0_sharePair 11 s args vX0_sharePair RX0) (hr : meth.sig.returnType = none) (hlo : meth.locks = false) {out : PH} : ∀ (n : Nat) {h : PH} {a0 : Nat} {x1 : Int32} {x2 : Int32} {x4 : Int32} {x5 : Int32} {x6 : Int32} {x7 : Int32} {x8 : Int32} (f : F0_sharePair_9  n h a0 x1 x2 x4 x5 x6 x7 x8 = some out) {H : Heap} {locs : List Loc} (I : ph_I D cy b A fl h s H locs) {ls : Array Slot} (hl : lv_has ls 11 [(0, .ref (b + a0)), (1, .int x1), (2, .int x2), (4, .int x4), (5, .int x5), (6, .int x6), (7, .int x7), (8, .int x8)]), W p l e ({ frames := 0, cells := 0, slots := 0, locals := 0 } : Room) s m args below meth c H locs 0 0 (MQ below (va_Qv (fun (u : PH) => u = out) (ph_B D cy b A fl) A) args s 0 0 A) (F0 m 9 ls []) := by
  intro n
  induction n with
  | zero => intro h a0 x1 x2 x4 x5 x6 x7 x8 f; rw [F0_sharePair_9] at f; cases f
  | succ n ih =>
    intro h a0 x1 x2 x4 x5 x6 x7 x8 f H locs I ls hl
    rw [F0_sharePair_9] at f
    refine lv_iload S.1 S.2.1 dX0_sharePair_9 (lv_at hl 7 rfl) ?_
    refine lv_iload S.1 S.2.1 dX0_sharePair_11 (lv_at hl 3 rfl) ?_
    refine lv_icmp_ge (tgt := 108) S.1 S.2.1 dX0_sharePair_13 (by decide) (fun q1 => ?_) (fun q1 => ?_)
    · have f := (if_pos q1).symm.trans f
      refine lv_aload_n S.1 S.2.1 dX0_sharePair_108 rfl (lv_at hl 0 rfl) ?_
      obtain ⟨r2, e3, f⟩ := ob f
      refine o_gR S lf0_sharePair_21 I e3 dX0_sharePair_109 ?_
      refine lv_iload_n S.1 S.2.1 dX0_sharePair_112 rfl (lv_at hl 1 rfl) ?_
      refine lv_iconst (v := 5) S.1 S.2.1 dX0_sharePair_113 (by decide) ?_
      refine lv_imul S.1 S.2.1 dX0_sharePair_114 ?_
      refine lv_iload_n S.1 S.2.1 dX0_sharePair_115 rfl (lv_at hl 2 rfl) ?_
      refine lv_iadd S.1 S.2.1 dX0_sharePair_116 ?_
      refine lv_iload S.1 S.2.1 dX0_sharePair_117 (lv_at hl 5 rfl) ?_
      obtain ⟨h5, e4, f⟩ := ob f
      refine o_iast S I e4 dX0_sharePair_119 (fun H locs I => ?_)
      refine lv_aload_n S.1 S.2.1 dX0_sharePair_120 rfl (lv_at hl 0 rfl) ?_
      obtain ⟨r6, e7, f⟩ := ob f
      refine o_gR S lf0_sharePair_24 I e7 dX0_sharePair_121 ?_
      refine lv_iload_n S.1 S.2.1 dX0_sharePair_124 rfl (lv_at hl 1 rfl) ?_
      refine lv_iconst (v := 5) S.1 S.2.1 dX0_sharePair_125 (by decide) ?_
      refine lv_imul S.1 S.2.1 dX0_sharePair_126 ?_
      refine lv_iload_n S.1 S.2.1 dX0_sharePair_127 rfl (lv_at hl 2 rfl) ?_
      refine lv_iadd S.1 S.2.1 dX0_sharePair_128 ?_
      refine lv_iload S.1 S.2.1 dX0_sharePair_129 (lv_at hl 6 rfl) ?_
      obtain ⟨h9, e8, f⟩ := ob f
      refine o_iast S I e8 dX0_sharePair_131 (fun H locs I => ?_)
      exact o_vret S hr hlo I f dX0_sharePair_132
    · have f := (if_neg q1).symm.trans f
      refine lv_iload_n S.1 S.2.1 dX0_sharePair_16 rfl (lv_at hl 1 rfl) ?_
      refine lv_bipush (v := 28) S.1 S.2.1 dX0_sharePair_17 (by decide) ?_
      refine lv_imul S.1 S.2.1 dX0_sharePair_19 ?_
      refine lv_iload S.1 S.2.1 dX0_sharePair_20 (lv_at hl 7 rfl) ?_
      refine lv_iadd S.1 S.2.1 dX0_sharePair_22 ?_
      refine lv_istore (lv' := [(9, .int ((x1 * 28) + x8)), (0, .ref (b + a0)), (1, .int x1), (2, .int x2), (4, .int x4), (5, .int x5), (6, .int x6), (7, .int x7), (8, .int x8)]) S.1 S.2.1 dX0_sharePair_23 hl (by decide) rfl (fun ls hl => ?_)
      refine lv_iconst (v := 5) S.1 S.2.1 dX0_sharePair_25 (by decide) ?_
      refine lv_iload_n S.1 S.2.1 dX0_sharePair_26 rfl (lv_at hl 3 rfl) ?_
      refine lv_iadd S.1 S.2.1 dX0_sharePair_27 ?_
      refine lv_bipush (v := 28) S.1 S.2.1 dX0_sharePair_28 (by decide) ?_
      refine lv_imul S.1 S.2.1 dX0_sharePair_30 ?_
      refine lv_iload S.1 S.2.1 dX0_sharePair_31 (lv_at hl 8 rfl) ?_
      refine lv_iadd S.1 S.2.1 dX0_sharePair_33 ?_
      refine lv_istore (lv' := [(10, .int (((5 + x2) * 28) + x8)), (9, .int ((x1 * 28) + x8)), (0, .ref (b + a0)), (1, .int x1), (2, .int x2), (4, .int x4), (5, .int x5), (6, .int x6), (7, .int x7), (8, .int x8)]) S.1 S.2.1 dX0_sharePair_34 hl (by decide) rfl (fun ls hl => ?_)
      refine lv_aload_n S.1 S.2.1 dX0_sharePair_36 rfl (lv_at hl 2 rfl) ?_
      obtain ⟨r10, e11, f⟩ := ob f
      refine o_gR S lf0_sharePair_15 I e11 dX0_sharePair_37 ?_
      refine lv_iload S.1 S.2.1 dX0_sharePair_40 (lv_at hl 1 rfl) ?_
      obtain ⟨v13, e12, f⟩ := ob f
      refine o_iald S I e12 dX0_sharePair_42 ?_
      refine lv_aload_n S.1 S.2.1 dX0_sharePair_43 rfl (lv_at hl 2 rfl) ?_
      obtain ⟨r14, e15, f⟩ := ob f
      refine o_gR S lf0_sharePair_15 I e15 dX0_sharePair_44 ?_
      refine lv_iload S.1 S.2.1 dX0_sharePair_47 (lv_at hl 0 rfl) ?_
      obtain ⟨v17, e16, f⟩ := ob f
      refine o_iald S I e16 dX0_sharePair_49 ?_
      refine lv_icmp_lt (tgt := 75) S.1 S.2.1 dX0_sharePair_50 (by decide) (fun q18 => ?_) (fun q18 => ?_)
      · have f := (if_pos q18).symm.trans f
        exact T0_sharePair_75 S hr hlo (fun f _ _ I _ hl => ih f I hl) f I (lv_sub hl [2, 3, 4, 5, 6, 7, 8, 9, 1] rfl)
      · have f := (if_neg q18).symm.trans f
        refine lv_aload_n S.1 S.2.1 dX0_sharePair_53 rfl (lv_at hl 2 rfl) ?_
        obtain ⟨r19, e20, f⟩ := ob f
        refine o_gR S lf0_sharePair_15 I e20 dX0_sharePair_54 ?_
        refine lv_iload S.1 S.2.1 dX0_sharePair_57 (lv_at hl 1 rfl) ?_
        obtain ⟨v22, e21, f⟩ := ob f
        refine o_iald S I e21 dX0_sharePair_59 ?_
        refine lv_aload_n S.1 S.2.1 dX0_sharePair_60 rfl (lv_at hl 2 rfl) ?_
        obtain ⟨r23, e24, f⟩ := ob f
        refine o_gR S lf0_sharePair_15 I e24 dX0_sharePair_61 ?_
        refine lv_iload S.1 S.2.1 dX0_sharePair_64 (lv_at hl 0 rfl) ?_
        obtain ⟨v26, e25, f⟩ := ob f
        refine o_iald S I e25 dX0_sharePair_66 ?_
        refine lv_icmp_ne (tgt := 90) S.1 S.2.1 dX0_sharePair_67 (by decide) (fun q27 => ?_) (fun q27 => ?_)
        · have f := (if_neg q27).symm.trans f
          exact T0_sharePair_90 S hr hlo (fun f _ _ I _ hl => ih f I hl) f I (lv_sub hl [2, 3, 4, 5, 6, 7, 8, 9, 0] rfl)
        · have f := (if_pos q27).symm.trans f
          refine lv_iload S.1 S.2.1 dX0_sharePair_70 (lv_at hl 6 rfl) ?_
          refine lv_if_eq (tgt := 90) S.1 S.2.1 dX0_sharePair_72 (by decide) (fun q28 => ?_) (fun q28 => ?_)
          · have f := (if_pos q28).symm.trans f
            exact T0_sharePair_90 S hr hlo (fun f _ _ I _ hl => ih f I hl) f I (lv_sub hl [2, 3, 4, 5, 6, 7, 8, 9, 0] rfl)
          · have f := (if_neg q28).symm.trans f
            exact T0_sharePair_75 S hr hlo (fun f _ _ I _ hl => ih f I hl) f I (lv_sub hl [2, 3, 4, 5, 6, 7, 8, 9, 1] rfl)
set_option maxHeartbeats 4000000 in
set_option maxRecDepth 100000 in
theorem T0_sharePair_0 (S : CallFix p m c cX0_sharePair 11 s args vX0_sharePair RX0) (hr : meth.sig.returnType = none) (hlo : meth.locks = false) {out : PH} {h : PH} {a0 : Nat} {x1 : Int32} {x2 : Int32} {x3 : Int32} {x4 : Int32} {x5 : Int32} (f : F0_sharePair_0  h a0 x1 x2 x3 x4 x5 = some out) {H : Heap} {locs : List Loc} (I : ph_I D cy b A fl h s H locs) {ls : Array Slot} (hl : lv_has ls 11 [(0, .ref (b + a0)), (1, .int x1), (2, .int x2), (3, .int x3), (4, .int x4), (5, .int x5)]) : W p l e ({ frames := 0, cells := 0, slots := 0, locals := 0 } : Room) s m args below meth c H locs 0 0 (MQ below (va_Qv (fun (u : PH) => u = out) (ph_B D cy b A fl) A) args s 0 0 A) (F0 m 0 ls []) := by
  unfold F0_sharePair_0 at f
  refine lv_iconst (v := 0) S.1 S.2.1 dX0_sharePair_0 (by decide) ?_
  refine lv_istore (lv' := [(6, .int 0), (0, .ref (b + a0)), (1, .int x1), (2, .int x2), (3, .int x3), (4, .int x4), (5, .int x5)]) S.1 S.2.1 dX0_sharePair_1 hl (by decide) rfl (fun ls hl => ?_)
  refine lv_iconst (v := 0) S.1 S.2.1 dX0_sharePair_3 (by decide) ?_
  refine lv_istore (lv' := [(7, .int 0), (6, .int 0), (0, .ref (b + a0)), (1, .int x1), (2, .int x2), (3, .int x3), (4, .int x4), (5, .int x5)]) S.1 S.2.1 dX0_sharePair_4 hl (by decide) rfl (fun ls hl => ?_)
  refine lv_iload_n S.1 S.2.1 dX0_sharePair_6 rfl (lv_at hl 5 rfl) ?_
  refine lv_istore (lv' := [(8, .int x3), (7, .int 0), (6, .int 0), (0, .ref (b + a0)), (1, .int x1), (2, .int x2), (3, .int x3), (4, .int x4), (5, .int x5)]) S.1 S.2.1 dX0_sharePair_7 hl (by decide) rfl (fun ls hl => ?_)
  exact T0_sharePair_9 S hr hlo  1024 f I (lv_sub hl [3, 4, 5, 7, 8, 2, 1, 0] rfl)
theorem M0_sharePair (l : Launch) (D : va_G) (cy : Nat → ClassId) (b : Nat) (A : Nat → Prop) (fl : Bool) {h : PH} {a0 : Nat} {x1 : Int32} {x2 : Int32} {x3 : Int32} {x4 : Int32} {x5 : Int32} {out : PH} (f : F0_sharePair h a0 x1 x2 x3 x4 x5 = some out) : Met l yX0_sharePair vX0_sharePair ({ frames := 0, cells := 0, slots := 0, locals := 0 } : Room) (va_Pc [.ref (b + a0), .int x1, .int x2, .int x3, .int x4, .int x5] (ph_B D cy b A fl h)) (va_Qv (fun (u : PH) => u = out) (ph_B D cy b A fl) A) 0 0 A :=
  o_met (by decide) rfl (Nat.le_of_ble_eq_true rfl) rfl (fun p e s m below meth c S hr hlo hnm ls hl I => T0_sharePair_0 S hr hlo ((gd f).2) I (lv_sub hl [0, 1, 2, 3, 4, 5] rfl))
def vX0_playGame : List Cond := .code yX0_playGame cX0_playGame 8 none :: TB
theorem gX0_playGame_X0_sharePair : GoodIn vX0_playGame (wsV RX0 74 RX0 yX0_sharePair vX0_sharePair) := gV_of wT_51_15 wT_51_16 wT_51_17 wT_2_21 wT_51_18
theorem lf0_playGame_43 : Fl vX0_playGame RX0 43 6 0 := ⟨RX6, TX6, 9, rfl, by decide, (fun w h9 => List.mem_cons_of_mem _ (wC_wsX60 w h9)), (List.mem_cons_of_mem _ wT_51_2)⟩
theorem lf0_playGame_49 : Fl vX0_playGame RX0 49 8 5 := ⟨RX8, TX8, 14, rfl, by decide, (fun w h9 => List.mem_cons_of_mem _ (wC_wsX80 w h9)), (List.mem_cons_of_mem _ wT_51_3)⟩
theorem lf0_playGame_71 : Fl vX0_playGame RX0 71 10 1 := ⟨RX10, TX10, 8, rfl, by decide, (fun w h9 => List.mem_cons_of_mem _ (wC_wsX100 w h9)), (List.mem_cons_of_mem _ wT_51_5)⟩
theorem gX0_playGame_X0_findRests : GoodIn vX0_playGame (wsV RX0 78 RX0 yX0_findRests vX0_findRests) := gV_of wT_51_19 wT_51_20 wT_51_21 wT_2_21 wT_51_22
theorem lf0_playGame_55 : Fl vX0_playGame RX0 55 4 0 := ⟨RX4, TX4, 11, rfl, by decide, (fun w h9 => List.mem_cons_of_mem _ (wC_wsX40 w h9)), (List.mem_cons_of_mem _ wT_51_4)⟩
theorem gX0_playGame_X10_firstFrom : GoodIn vX0_playGame (wsV RX0 61 RX10 yX10_firstFrom vX10_firstFrom) := gV_of wT_51_6 wT_43_17 wT_43_18 wT_3_9 wT_43_19
theorem gX0_playGame_X0_weighWays : GoodIn vX0_playGame (wsV RX0 67 RX0 yX0_weighWays vX0_weighWays) := gV_of wT_51_7 wT_51_8 wT_51_9 wT_2_21 wT_51_10
theorem cd0_playGame : Cd yX0_playGame 4 := ⟨by decide, by decide, by decide +kernel⟩
set_option maxHeartbeats 4000000 in
set_option maxRecDepth 100000 in
theorem T0_playGame_83 (S : CallFix p m c cX0_playGame 8 s args vX0_playGame RX0) (hr : meth.sig.returnType = none) (hlo : meth.locks = false) {out : PH} {k40 : PH → Nat → Nat → Int32 → Int32 → Int32 → Int32 → Option (PH)} (hk40 : ∀ {h : PH} {a0 : Nat} {a1 : Nat} {x3 : Int32} {x4 : Int32} {x5 : Int32} {x6 : Int32}, k40 h a0 a1 x3 x4 x5 x6 = some out → ∀ (H : Heap) (locs : List Loc), ph_I D cy b A fl h s H locs → ∀ (ls : Array Slot), lv_has ls 8 [(0, .ref (b + a0)), (1, .ref (b + a1)), (3, .int x3), (4, .int x4), (5, .int x5), (6, .int x6)] → W p l e ({ frames := 6, cells := 0, slots := 0, locals := 155 } : Room) s m args below meth c H locs 0 0 (MQ below (va_Qv (fun (u : PH) => u = out) (ph_B D cy b A fl) A) args s 0 0 A) (F0 m 40 ls [])) {k49 : PH → Nat → Nat → Int32 → Int32 → Int32 → Int32 → Int32 → Option (PH)} (hk49 : ∀ {h : PH} {a0 : Nat} {a1 : Nat} {x3 : Int32} {x4 : Int32} {x5 : Int32} {x6 : Int32} {x7 : Int32}, k49 h a0 a1 x3 x4 x5 x6 x7 = some out → ∀ (H : Heap) (locs : List Loc), ph_I D cy b A fl h s H locs → ∀ (ls : Array Slot), lv_has ls 8 [(0, .ref (b + a0)), (1, .ref (b + a1)), (3, .int x3), (4, .int x4), (5, .int x5), (6, .int x6), (7, .int x7)] → W p l e ({ frames := 6, cells := 0, slots := 0, locals := 155 } : Room) s m args below meth c H locs 0 0 (MQ below (va_Qv (fun (u : PH) => u = out) (ph_B D cy b A fl) A) args s 0 0 A) (F0 m 49 ls [])) {h : PH} {a0 : Nat} {a1 : Nat} {x3 : Int32} {x4 : Int32} {x5 : Int32} {x6 : Int32} {x7 : Int32} {s0 : Int32} {s1 : Int32} {s2 : Int32} {s3 : Int32} {s4 : Int32} {u5 : Nat} (f : F0_playGame_83 k40 k49 h a0 a1 x3 x4 x5 x6 x7 s0 s1 s2 s3 s4 u5 = some out) {H : Heap} {locs : List Loc} (I : ph_I D cy b A fl h s H locs) {ls : Array Slot} (hl : lv_has ls 8 [(0, .ref (b + a0)), (1, .ref (b + a1)), (3, .int x3), (4, .int x4), (5, .int x5), (6, .int x6), (7, .int x7)]) : W p l e ({ frames := 6, cells := 0, slots := 0, locals := 155 } : Room) s m args below meth c H locs 0 0 (MQ below (va_Qv (fun (u : PH) => u = out) (ph_B D cy b A fl) A) args s 0 0 A) (F0 m 83 ls [.int s0, .int s1, .int s2, .int s3, .int s4, .ref (b + u5)]) := by
  unfold F0_playGame_83 at f
  obtain ⟨o1, e2, f⟩ := ob f
  refine o_Vv S (As := [.int s4, .int s3, .int s2, .int s1, .int s0]) (rest := []) (ci := 0) (M0_sharePair l D cy b A fl e2) gX0_playGame_X0_sharePair rfl rfl rfl cd0_sharePair ⟨Nat.le_of_ble_eq_true rfl, Nat.le_of_ble_eq_true rfl⟩ I (gd e2).1 clX0 rfl rfl hl.1 rfl (Nat.le_of_ble_eq_true rfl) dX0_playGame_83 ⟨Nat.le_of_ble_eq_true rfl, Nat.le_of_ble_eq_true rfl⟩ (fun H locs I => ?_)
  refine lv_iinc (v := (x7 + 1)) (lv' := [(7, .int (x7 + 1)), (0, .ref (b + a0)), (1, .ref (b + a1)), (3, .int x3), (4, .int x4), (5, .int x5), (6, .int x6)]) S.1 S.2.1 dX0_playGame_86 hl (k := 6) rfl (congrArg (fun z => x7 + z) (by decide)) (by decide) rfl (fun ls hl => ?_)
  refine lv_goto (tgt := 49) S.1 S.2.1 dX0_playGame_89 (by decide) ?_
  exact hk49 f _ _ I _ (lv_sub hl [1, 2, 3, 4, 5, 6, 0] rfl)
set_option maxHeartbeats 4000000 in
set_option maxRecDepth 100000 in
theorem T0_playGame_49 (S : CallFix p m c cX0_playGame 8 s args vX0_playGame RX0) (hr : meth.sig.returnType = none) (hlo : meth.locks = false) {out : PH} {k40 : PH → Nat → Nat → Int32 → Int32 → Int32 → Int32 → Option (PH)} (hk40 : ∀ {h : PH} {a0 : Nat} {a1 : Nat} {x3 : Int32} {x4 : Int32} {x5 : Int32} {x6 : Int32}, k40 h a0 a1 x3 x4 x5 x6 = some out → ∀ (H : Heap) (locs : List Loc), ph_I D cy b A fl h s H locs → ∀ (ls : Array Slot), lv_has ls 8 [(0, .ref (b + a0)), (1, .ref (b + a1)), (3, .int x3), (4, .int x4), (5, .int x5), (6, .int x6)] → W p l e ({ frames := 6, cells := 0, slots := 0, locals := 155 } : Room) s m args below meth c H locs 0 0 (MQ below (va_Qv (fun (u : PH) => u = out) (ph_B D cy b A fl) A) args s 0 0 A) (F0 m 40 ls [])) : ∀ (n : Nat) {h : PH} {a0 : Nat} {a1 : Nat} {x3 : Int32} {x4 : Int32} {x5 : Int32} {x6 : Int32} {x7 : Int32} (f : F0_playGame_49 k40 n h a0 a1 x3 x4 x5 x6 x7 = some out) {H : Heap} {locs : List Loc} (I : ph_I D cy b A fl h s H locs) {ls : Array Slot} (hl : lv_has ls 8 [(0, .ref (b + a0)), (1, .ref (b + a1)), (3, .int x3), (4, .int x4), (5, .int x5), (6, .int x6), (7, .int x7)]), W p l e ({ frames := 6, cells := 0, slots := 0, locals := 155 } : Room) s m args below meth c H locs 0 0 (MQ below (va_Qv (fun (u : PH) => u = out) (ph_B D cy b A fl) A) args s 0 0 A) (F0 m 49 ls []) := by
  intro n
  induction n with
  | zero => intro h a0 a1 x3 x4 x5 x6 x7 f; rw [F0_playGame_49] at f; cases f
  | succ n ih =>
    intro h a0 a1 x3 x4 x5 x6 x7 f H locs I ls hl
    rw [F0_playGame_49] at f
    refine lv_iload S.1 S.2.1 dX0_playGame_49 (lv_at hl 6 rfl) ?_
    refine lv_iconst (v := 5) S.1 S.2.1 dX0_playGame_51 (by decide) ?_
    refine lv_icmp_ge (tgt := 92) S.1 S.2.1 dX0_playGame_52 (by decide) (fun q1 => ?_) (fun q1 => ?_)
    · have f := (if_pos q1).symm.trans f
      refine lv_iinc (v := (x6 + 1)) (lv' := [(6, .int (x6 + 1)), (0, .ref (b + a0)), (1, .ref (b + a1)), (3, .int x3), (4, .int x4), (5, .int x5), (7, .int x7)]) S.1 S.2.1 dX0_playGame_92 hl (k := 5) rfl (congrArg (fun z => x6 + z) (by decide)) (by decide) rfl (fun ls hl => ?_)
      refine lv_goto (tgt := 40) S.1 S.2.1 dX0_playGame_95 (by decide) ?_
      exact hk40 f _ _ I _ (lv_sub hl [1, 2, 3, 4, 5, 0] rfl)
    · have f := (if_neg q1).symm.trans f
      refine lv_aload_n S.1 S.2.1 dX0_playGame_55 rfl (lv_at hl 0 rfl) ?_
      refine lv_iload S.1 S.2.1 dX0_playGame_56 (lv_at hl 5 rfl) ?_
      refine lv_iload S.1 S.2.1 dX0_playGame_58 (lv_at hl 6 rfl) ?_
      refine lv_iload S.1 S.2.1 dX0_playGame_60 (lv_at hl 4 rfl) ?_
      refine lv_aload_n S.1 S.2.1 dX0_playGame_62 rfl (lv_at hl 1 rfl) ?_
      obtain ⟨r2, e3, f⟩ := ob f
      refine o_gR S lf0_playGame_43 I e3 dX0_playGame_63 ?_
      obtain ⟨r4, e5, f⟩ := ob f
      refine o_gR S lf0_playGame_49 I e5 dX0_playGame_66 ?_
      obtain ⟨v6, e7, f⟩ := ob f
      refine o_gI S lf0_playGame_71 I e7 dX0_playGame_69 ?_
      refine lv_iload_n S.1 S.2.1 dX0_playGame_72 rfl (lv_at hl 2 rfl) ?_
      refine lv_iload S.1 S.2.1 dX0_playGame_73 (lv_at hl 3 rfl) ?_
      refine lv_icmp_ge (tgt := 82) S.1 S.2.1 dX0_playGame_75 (by decide) (fun q8 => ?_) (fun q8 => ?_)
      · have f := (if_pos q8).symm.trans f
        refine lv_iconst (v := 0) S.1 S.2.1 dX0_playGame_82 (by decide) ?_
        exact T0_playGame_83 S hr hlo (fun f _ _ I _ hl => hk40 f _ _ I _ hl) (fun f _ _ I _ hl => ih f I hl) f I (lv_sub hl [0, 1, 2, 3, 4, 5, 6] rfl)
      · have f := (if_neg q8).symm.trans f
        refine lv_iconst (v := 1) S.1 S.2.1 dX0_playGame_78 (by decide) ?_
        refine lv_goto (tgt := 83) S.1 S.2.1 dX0_playGame_79 (by decide) ?_
        exact T0_playGame_83 S hr hlo (fun f _ _ I _ hl => hk40 f _ _ I _ hl) (fun f _ _ I _ hl => ih f I hl) f I (lv_sub hl [0, 1, 2, 3, 4, 5, 6] rfl)
set_option maxHeartbeats 4000000 in
set_option maxRecDepth 100000 in
theorem T0_playGame_40 (S : CallFix p m c cX0_playGame 8 s args vX0_playGame RX0) (hr : meth.sig.returnType = none) (hlo : meth.locks = false) {out : PH} : ∀ (n : Nat) {h : PH} {a0 : Nat} {a1 : Nat} {x3 : Int32} {x4 : Int32} {x5 : Int32} {x6 : Int32} (f : F0_playGame_40  n h a0 a1 x3 x4 x5 x6 = some out) {H : Heap} {locs : List Loc} (I : ph_I D cy b A fl h s H locs) {ls : Array Slot} (hl : lv_has ls 8 [(0, .ref (b + a0)), (1, .ref (b + a1)), (3, .int x3), (4, .int x4), (5, .int x5), (6, .int x6)]), W p l e ({ frames := 6, cells := 0, slots := 0, locals := 155 } : Room) s m args below meth c H locs 0 0 (MQ below (va_Qv (fun (u : PH) => u = out) (ph_B D cy b A fl) A) args s 0 0 A) (F0 m 40 ls []) := by
  intro n
  induction n with
  | zero => intro h a0 a1 x3 x4 x5 x6 f; rw [F0_playGame_40] at f; cases f
  | succ n ih =>
    intro h a0 a1 x3 x4 x5 x6 f H locs I ls hl
    rw [F0_playGame_40] at f
    refine lv_iload S.1 S.2.1 dX0_playGame_40 (lv_at hl 5 rfl) ?_
    refine lv_iconst (v := 5) S.1 S.2.1 dX0_playGame_42 (by decide) ?_
    refine lv_icmp_ge (tgt := 98) S.1 S.2.1 dX0_playGame_43 (by decide) (fun q1 => ?_) (fun q1 => ?_)
    · have f := (if_pos q1).symm.trans f
      refine lv_aload_n S.1 S.2.1 dX0_playGame_98 rfl (lv_at hl 0 rfl) ?_
      obtain ⟨o2, e3, f⟩ := ob f
      refine o_Vv S (As := []) (rest := []) (ci := 0) (M0_findRests l D cy b A fl e3) gX0_playGame_X0_findRests rfl rfl rfl cd0_findRests ⟨Nat.le_of_ble_eq_true rfl, Nat.le_of_ble_eq_true rfl⟩ I (gd e3).1 clX0 rfl rfl hl.1 rfl (Nat.le_of_ble_eq_true rfl) dX0_playGame_99 ⟨Nat.le_of_ble_eq_true rfl, Nat.le_of_ble_eq_true rfl⟩ (fun H locs I => ?_)
      exact o_vret S hr hlo I f dX0_playGame_102
    · have f := (if_neg q1).symm.trans f
      refine lv_iconst (v := 0) S.1 S.2.1 dX0_playGame_46 (by decide) ?_
      refine lv_istore (lv' := [(7, .int 0), (0, .ref (b + a0)), (1, .ref (b + a1)), (3, .int x3), (4, .int x4), (5, .int x5), (6, .int x6)]) S.1 S.2.1 dX0_playGame_47 hl (by decide) rfl (fun ls hl => ?_)
      exact T0_playGame_49 S hr hlo (fun f _ _ I _ hl => ih f I hl) 1024 f I (lv_sub hl [1, 2, 3, 4, 5, 6, 0] rfl)
set_option maxHeartbeats 4000000 in
set_option maxRecDepth 100000 in
theorem T0_playGame_0 (S : CallFix p m c cX0_playGame 8 s args vX0_playGame RX0) (hr : meth.sig.returnType = none) (hlo : meth.locks = false) {out : PH} {h : PH} {a0 : Nat} {a1 : Nat} {a2 : Nat} {x3 : Int32} {x4 : Int32} (f : F0_playGame_0  h a0 a1 a2 x3 x4 = some out) {H : Heap} {locs : List Loc} (I : ph_I D cy b A fl h s H locs) {ls : Array Slot} (hl : lv_has ls 8 [(0, .ref (b + a0)), (1, .ref (b + a1)), (2, .ref (b + a2)), (3, .int x3), (4, .int x4)]) : W p l e ({ frames := 6, cells := 0, slots := 0, locals := 155 } : Room) s m args below meth c H locs 0 0 (MQ below (va_Qv (fun (u : PH) => u = out) (ph_B D cy b A fl) A) args s 0 0 A) (F0 m 0 ls []) := by
  unfold F0_playGame_0 at f
  refine lv_aload_n S.1 S.2.1 dX0_playGame_0 rfl (lv_at hl 1 rfl) ?_
  obtain ⟨r1, e2, f⟩ := ob f
  refine o_gR S lf0_playGame_43 I e2 dX0_playGame_1 ?_
  obtain ⟨r3, e4, f⟩ := ob f
  refine o_gR S lf0_playGame_49 I e4 dX0_playGame_4 ?_
  refine lv_aload_n S.1 S.2.1 dX0_playGame_7 rfl (lv_at hl 2 rfl) ?_
  obtain ⟨v5, e6, f⟩ := ob f
  refine o_gI S lf0_playGame_55 I e6 dX0_playGame_8 ?_
  obtain ⟨o7, e8, f⟩ := ob f
  refine o_Vi S (As := [.int v5]) (rest := []) (ci := 10) (M10_firstFrom l D cy b A fl e8) gX0_playGame_X10_firstFrom rfl rfl rfl cd10_firstFrom ⟨Nat.le_of_ble_eq_true rfl, Nat.le_of_ble_eq_true rfl⟩ I (gd e8).1 clX10 rfl rfl hl.1 rfl (Nat.le_of_ble_eq_true rfl) dX0_playGame_11 ⟨Nat.le_of_ble_eq_true rfl, Nat.le_of_ble_eq_true rfl⟩ (fun H locs I => ?_)
  refine lv_istore (lv' := [(5, .int o7.1), (0, .ref (b + a0)), (1, .ref (b + a1)), (2, .ref (b + a2)), (3, .int x3), (4, .int x4)]) S.1 S.2.1 dX0_playGame_14 hl (by decide) rfl (fun ls hl => ?_)
  refine lv_aload_n S.1 S.2.1 dX0_playGame_16 rfl (lv_at hl 1 rfl) ?_
  refine lv_aload_n S.1 S.2.1 dX0_playGame_17 rfl (lv_at hl 2 rfl) ?_
  refine lv_aload_n S.1 S.2.1 dX0_playGame_18 rfl (lv_at hl 3 rfl) ?_
  refine lv_iload_n S.1 S.2.1 dX0_playGame_19 rfl (lv_at hl 4 rfl) ?_
  refine lv_iconst (v := 0) S.1 S.2.1 dX0_playGame_20 (by decide) ?_
  refine lv_iload S.1 S.2.1 dX0_playGame_21 (lv_at hl 0 rfl) ?_
  obtain ⟨o9, e10, f⟩ := ob f
  refine o_Vv S (As := [.ref (b + a1), .ref (b + a2), .int x3, .int 0, .int o7.1]) (rest := []) (ci := 0) (M0_weighWays l D cy b A fl e10) gX0_playGame_X0_weighWays rfl rfl rfl cd0_weighWays ⟨Nat.le_of_ble_eq_true rfl, Nat.le_of_ble_eq_true rfl⟩ I (gd e10).1 clX0 rfl rfl hl.1 rfl (Nat.le_of_ble_eq_true rfl) dX0_playGame_23 ⟨Nat.le_of_ble_eq_true rfl, Nat.le_of_ble_eq_true rfl⟩ (fun H locs I => ?_)
  refine lv_aload_n S.1 S.2.1 dX0_playGame_26 rfl (lv_at hl 1 rfl) ?_
  refine lv_aload_n S.1 S.2.1 dX0_playGame_27 rfl (lv_at hl 2 rfl) ?_
  refine lv_aload_n S.1 S.2.1 dX0_playGame_28 rfl (lv_at hl 3 rfl) ?_
  refine lv_iload S.1 S.2.1 dX0_playGame_29 (lv_at hl 5 rfl) ?_
  refine lv_iconst (v := 5) S.1 S.2.1 dX0_playGame_31 (by decide) ?_
  refine lv_iload S.1 S.2.1 dX0_playGame_32 (lv_at hl 0 rfl) ?_
  obtain ⟨o11, e12, f⟩ := ob f
  refine o_Vv S (As := [.ref (b + a1), .ref (b + a2), .int x4, .int 5, .int o7.1]) (rest := []) (ci := 0) (M0_weighWays l D cy b A fl e12) gX0_playGame_X0_weighWays rfl rfl rfl cd0_weighWays ⟨Nat.le_of_ble_eq_true rfl, Nat.le_of_ble_eq_true rfl⟩ I (gd e12).1 clX0 rfl rfl hl.1 rfl (Nat.le_of_ble_eq_true rfl) dX0_playGame_34 ⟨Nat.le_of_ble_eq_true rfl, Nat.le_of_ble_eq_true rfl⟩ (fun H locs I => ?_)
  refine lv_iconst (v := 0) S.1 S.2.1 dX0_playGame_37 (by decide) ?_
  refine lv_istore (lv' := [(6, .int 0), (5, .int o7.1), (0, .ref (b + a0)), (1, .ref (b + a1)), (2, .ref (b + a2)), (3, .int x3), (4, .int x4)]) S.1 S.2.1 dX0_playGame_38 hl (by decide) rfl (fun ls hl => ?_)
  exact T0_playGame_40 S hr hlo  1024 f I (lv_sub hl [2, 3, 5, 6, 1, 0] rfl)
theorem M0_playGame (l : Launch) (D : va_G) (cy : Nat → ClassId) (b : Nat) (A : Nat → Prop) (fl : Bool) {h : PH} {a0 : Nat} {a1 : Nat} {a2 : Nat} {x3 : Int32} {x4 : Int32} {out : PH} (f : F0_playGame h a0 a1 a2 x3 x4 = some out) : Met l yX0_playGame vX0_playGame ({ frames := 6, cells := 0, slots := 0, locals := 155 } : Room) (va_Pc [.ref (b + a0), .ref (b + a1), .ref (b + a2), .int x3, .int x4] (ph_B D cy b A fl h)) (va_Qv (fun (u : PH) => u = out) (ph_B D cy b A fl) A) 0 0 A :=
  o_met (by decide) rfl (Nat.le_of_ble_eq_true rfl) rfl (fun p e s m below meth c S hr hlo hnm ls hl I => T0_playGame_0 S hr hlo ((gd f).2) I (lv_sub hl [0, 1, 2, 3, 4] rfl))
def vX1_add : List Cond := .code yX1_add cX1_add 7 none :: TB
theorem lf1_add_30 : Fl vX1_add RX1 30 1 0 := ⟨RX1, TX1, 7, rfl, by decide, (fun w h9 => List.mem_cons_of_mem _ (wC_wsX10 w h9)), (List.mem_cons_of_mem _ wT_19_11)⟩
theorem lf1_add_9 : Fl vX1_add RX1 9 1 1 := ⟨RX1, TX1, 7, rfl, by decide, (fun w h9 => List.mem_cons_of_mem _ (wC_wsX10 w h9)), (List.mem_cons_of_mem _ wT_3_22)⟩
theorem lf1_add_15 : Fl vX1_add RX1 15 1 2 := ⟨RX1, TX1, 7, rfl, by decide, (fun w h9 => List.mem_cons_of_mem _ (wC_wsX10 w h9)), (List.mem_cons_of_mem _ wT_3_23)⟩
theorem lf1_add_18 : Fl vX1_add RX1 18 1 3 := ⟨RX1, TX1, 7, rfl, by decide, (fun w h9 => List.mem_cons_of_mem _ (wC_wsX10 w h9)), (List.mem_cons_of_mem _ wT_4_0)⟩
theorem lf1_add_21 : Fl vX1_add RX1 21 1 4 := ⟨RX1, TX1, 7, rfl, by decide, (fun w h9 => List.mem_cons_of_mem _ (wC_wsX10 w h9)), (List.mem_cons_of_mem _ wT_4_1)⟩
theorem lf1_add_24 : Fl vX1_add RX1 24 1 5 := ⟨RX1, TX1, 7, rfl, by decide, (fun w h9 => List.mem_cons_of_mem _ (wC_wsX10 w h9)), (List.mem_cons_of_mem _ wT_4_2)⟩
theorem lf1_add_27 : Fl vX1_add RX1 27 1 6 := ⟨RX1, TX1, 7, rfl, by decide, (fun w h9 => List.mem_cons_of_mem _ (wC_wsX10 w h9)), (List.mem_cons_of_mem _ wT_4_3)⟩
theorem lp1_add_30 : Pl vX1_add RX1 30 1 0 .int := ⟨RX1, TX1, 7, tyX1, rfl, by decide, (fun w h9 => List.mem_cons_of_mem _ (wC_wsX10 w h9)), (List.mem_cons_of_mem _ wT_19_11), tyX1_ok, nmX1, rfl, rfl⟩
theorem cd1_add : Cd yX1_add 6 := ⟨by decide, by decide, by decide +kernel⟩
set_option maxHeartbeats 4000000 in
set_option maxRecDepth 100000 in
theorem T1_add_0 (S : CallFix p m c cX1_add 7 s args vX1_add RX1) (hr : meth.sig.returnType = none) (hlo : meth.locks = false) {out : PH} {h : PH} {a0 : Nat} {x1 : Int32} {x2 : Int32} {x3 : Int32} {x4 : Int32} {x5 : Int32} {x6 : Int32} (f : F1_add_0  h a0 x1 x2 x3 x4 x5 x6 = some out) {H : Heap} {locs : List Loc} (I : ph_I D cy b A fl h s H locs) {ls : Array Slot} (hl : lv_has ls 7 [(0, .ref (b + a0)), (1, .int x1), (2, .int x2), (3, .int x3), (4, .int x4), (5, .int x5), (6, .int x6)]) : W p l e ({ frames := 0, cells := 0, slots := 0, locals := 0 } : Room) s m args below meth c H locs 0 0 (MQ below (va_Qv (fun (u : PH) => u = out) (ph_B D cy b A fl) A) args s 0 0 A) (F0 m 0 ls []) := by
  unfold F1_add_0 at f
  refine lv_aload_n S.1 S.2.1 dX1_add_0 rfl (lv_at hl 0 rfl) ?_
  obtain ⟨v1, e2, f⟩ := ob f
  refine o_gI S lf1_add_30 I e2 dX1_add_1 ?_
  refine lv_iconst (v := 5) S.1 S.2.1 dX1_add_4 (by decide) ?_
  refine lv_icmp_lt (tgt := 9) S.1 S.2.1 dX1_add_5 (by decide) (fun q3 => ?_) (fun q3 => ?_)
  · have f := (if_pos q3).symm.trans f
    refine lv_aload_n S.1 S.2.1 dX1_add_9 rfl (lv_at hl 0 rfl) ?_
    obtain ⟨r4, e5, f⟩ := ob f
    refine o_gR S lf1_add_9 I e5 dX1_add_10 ?_
    refine lv_aload_n S.1 S.2.1 dX1_add_13 rfl (lv_at hl 0 rfl) ?_
    obtain ⟨v6, e7, f⟩ := ob f
    refine o_gI S lf1_add_30 I e7 dX1_add_14 ?_
    refine lv_iload_n S.1 S.2.1 dX1_add_17 rfl (lv_at hl 1 rfl) ?_
    obtain ⟨h9, e8, f⟩ := ob f
    refine o_iast S I e8 dX1_add_18 (fun H locs I => ?_)
    refine lv_aload_n S.1 S.2.1 dX1_add_19 rfl (lv_at hl 0 rfl) ?_
    obtain ⟨r10, e11, f⟩ := ob f
    refine o_gR S lf1_add_15 I e11 dX1_add_20 ?_
    refine lv_aload_n S.1 S.2.1 dX1_add_23 rfl (lv_at hl 0 rfl) ?_
    obtain ⟨v12, e13, f⟩ := ob f
    refine o_gI S lf1_add_30 I e13 dX1_add_24 ?_
    refine lv_iload_n S.1 S.2.1 dX1_add_27 rfl (lv_at hl 2 rfl) ?_
    obtain ⟨h15, e14, f⟩ := ob f
    refine o_iast S I e14 dX1_add_28 (fun H locs I => ?_)
    refine lv_aload_n S.1 S.2.1 dX1_add_29 rfl (lv_at hl 0 rfl) ?_
    obtain ⟨r16, e17, f⟩ := ob f
    refine o_gR S lf1_add_18 I e17 dX1_add_30 ?_
    refine lv_aload_n S.1 S.2.1 dX1_add_33 rfl (lv_at hl 0 rfl) ?_
    obtain ⟨v18, e19, f⟩ := ob f
    refine o_gI S lf1_add_30 I e19 dX1_add_34 ?_
    refine lv_iload_n S.1 S.2.1 dX1_add_37 rfl (lv_at hl 3 rfl) ?_
    obtain ⟨h21, e20, f⟩ := ob f
    refine o_iast S I e20 dX1_add_38 (fun H locs I => ?_)
    refine lv_aload_n S.1 S.2.1 dX1_add_39 rfl (lv_at hl 0 rfl) ?_
    obtain ⟨r22, e23, f⟩ := ob f
    refine o_gR S lf1_add_21 I e23 dX1_add_40 ?_
    refine lv_aload_n S.1 S.2.1 dX1_add_43 rfl (lv_at hl 0 rfl) ?_
    obtain ⟨v24, e25, f⟩ := ob f
    refine o_gI S lf1_add_30 I e25 dX1_add_44 ?_
    refine lv_iload S.1 S.2.1 dX1_add_47 (lv_at hl 4 rfl) ?_
    obtain ⟨h27, e26, f⟩ := ob f
    refine o_iast S I e26 dX1_add_49 (fun H locs I => ?_)
    refine lv_aload_n S.1 S.2.1 dX1_add_50 rfl (lv_at hl 0 rfl) ?_
    obtain ⟨r28, e29, f⟩ := ob f
    refine o_gR S lf1_add_24 I e29 dX1_add_51 ?_
    refine lv_aload_n S.1 S.2.1 dX1_add_54 rfl (lv_at hl 0 rfl) ?_
    obtain ⟨v30, e31, f⟩ := ob f
    refine o_gI S lf1_add_30 I e31 dX1_add_55 ?_
    refine lv_iload S.1 S.2.1 dX1_add_58 (lv_at hl 5 rfl) ?_
    obtain ⟨h33, e32, f⟩ := ob f
    refine o_iast S I e32 dX1_add_60 (fun H locs I => ?_)
    refine lv_aload_n S.1 S.2.1 dX1_add_61 rfl (lv_at hl 0 rfl) ?_
    obtain ⟨r34, e35, f⟩ := ob f
    refine o_gR S lf1_add_27 I e35 dX1_add_62 ?_
    refine lv_aload_n S.1 S.2.1 dX1_add_65 rfl (lv_at hl 0 rfl) ?_
    obtain ⟨v36, e37, f⟩ := ob f
    refine o_gI S lf1_add_30 I e37 dX1_add_66 ?_
    refine lv_iload S.1 S.2.1 dX1_add_69 (lv_at hl 6 rfl) ?_
    obtain ⟨h39, e38, f⟩ := ob f
    refine o_iast S I e38 dX1_add_71 (fun H locs I => ?_)
    refine lv_aload_n S.1 S.2.1 dX1_add_72 rfl (lv_at hl 0 rfl) ?_
    refine lv_dup S.1 S.2.1 dX1_add_73 rfl ?_
    obtain ⟨v40, e41, f⟩ := ob f
    refine o_gI S lf1_add_30 I e41 dX1_add_74 ?_
    refine lv_iconst (v := 1) S.1 S.2.1 dX1_add_77 (by decide) ?_
    refine lv_iadd S.1 S.2.1 dX1_add_78 ?_
    obtain ⟨h42, e43, f⟩ := ob f
    refine o_pI S lp1_add_30 I e43 dX1_add_79 (fun H locs I => ?_)
    exact o_vret S hr hlo I f dX1_add_82
  · have f := (if_neg q3).symm.trans f
    exact o_vret S hr hlo I f dX1_add_8
theorem M1_add (l : Launch) (D : va_G) (cy : Nat → ClassId) (b : Nat) (A : Nat → Prop) (fl : Bool) {h : PH} {a0 : Nat} {x1 : Int32} {x2 : Int32} {x3 : Int32} {x4 : Int32} {x5 : Int32} {x6 : Int32} {out : PH} (f : F1_add h a0 x1 x2 x3 x4 x5 x6 = some out) : Met l yX1_add vX1_add ({ frames := 0, cells := 0, slots := 0, locals := 0 } : Room) (va_Pc [.ref (b + a0), .int x1, .int x2, .int x3, .int x4, .int x5, .int x6] (ph_B D cy b A fl h)) (va_Qv (fun (u : PH) => u = out) (ph_B D cy b A fl) A) 0 0 A :=
  o_met (by decide) rfl (Nat.le_of_ble_eq_true rfl) rfl (fun p e s m below meth c S hr hlo hnm ls hl I => T1_add_0 S hr hlo ((gd f).2) I (lv_sub hl [0, 1, 2, 3, 4, 5, 6] rfl))
def vX1_hasName : List Cond := .code yX1_hasName cX1_hasName 3 (some .boolean) :: TB
theorem lf1_hasName_30 : Fl vX1_hasName RX1 30 1 0 := ⟨RX1, TX1, 7, rfl, by decide, (fun w h9 => List.mem_cons_of_mem _ (wC_wsX10 w h9)), (List.mem_cons_of_mem _ wT_19_11)⟩
theorem lf1_hasName_9 : Fl vX1_hasName RX1 9 1 1 := ⟨RX1, TX1, 7, rfl, by decide, (fun w h9 => List.mem_cons_of_mem _ (wC_wsX10 w h9)), (List.mem_cons_of_mem _ wT_3_22)⟩
theorem cd1_hasName : Cd yX1_hasName 1 := ⟨by decide, by decide, by decide +kernel⟩
set_option maxHeartbeats 4000000 in
set_option maxRecDepth 100000 in
theorem T1_hasName_2 (S : CallFix p m c cX1_hasName 3 s args vX1_hasName RX1) (hr : meth.sig.returnType = (some .boolean)) (hlo : meth.locks = false) {out : Int32 × PH} : ∀ (n : Nat) {h : PH} {a0 : Nat} {x1 : Int32} {x2 : Int32} (f : F1_hasName_2  n h a0 x1 x2 = some out) {H : Heap} {locs : List Loc} (I : ph_I D cy b A fl h s H locs) {ls : Array Slot} (hl : lv_has ls 3 [(0, .ref (b + a0)), (1, .int x1), (2, .int x2)]), W p l e ({ frames := 0, cells := 0, slots := 0, locals := 0 } : Room) s m args below meth c H locs 0 0 (MQ below (va_Qi (fun (r : Int32) (u : PH) => (r, u) = out) (ph_B D cy b A fl) A) args s 0 0 A) (F0 m 2 ls []) := by
  intro n
  induction n with
  | zero => intro h a0 x1 x2 f; rw [F1_hasName_2] at f; cases f
  | succ n ih =>
    intro h a0 x1 x2 f H locs I ls hl
    rw [F1_hasName_2] at f
    refine lv_iload_n S.1 S.2.1 dX1_hasName_2 rfl (lv_at hl 2 rfl) ?_
    refine lv_aload_n S.1 S.2.1 dX1_hasName_3 rfl (lv_at hl 0 rfl) ?_
    obtain ⟨v1, e2, f⟩ := ob f
    refine o_gI S lf1_hasName_30 I e2 dX1_hasName_4 ?_
    refine lv_icmp_ge (tgt := 28) S.1 S.2.1 dX1_hasName_7 (by decide) (fun q3 => ?_) (fun q3 => ?_)
    · have f := (if_pos q3).symm.trans f
      refine lv_iconst (v := 0) S.1 S.2.1 dX1_hasName_28 (by decide) ?_
      exact o_zret S hr hlo I f dX1_hasName_29
    · have f := (if_neg q3).symm.trans f
      refine lv_aload_n S.1 S.2.1 dX1_hasName_10 rfl (lv_at hl 0 rfl) ?_
      obtain ⟨r4, e5, f⟩ := ob f
      refine o_gR S lf1_hasName_9 I e5 dX1_hasName_11 ?_
      refine lv_iload_n S.1 S.2.1 dX1_hasName_14 rfl (lv_at hl 2 rfl) ?_
      obtain ⟨v7, e6, f⟩ := ob f
      refine o_iald S I e6 dX1_hasName_15 ?_
      refine lv_iload_n S.1 S.2.1 dX1_hasName_16 rfl (lv_at hl 1 rfl) ?_
      refine lv_icmp_ne (tgt := 22) S.1 S.2.1 dX1_hasName_17 (by decide) (fun q8 => ?_) (fun q8 => ?_)
      · have f := (if_neg q8).symm.trans f
        refine lv_iinc (v := (x2 + 1)) (lv' := [(2, .int (x2 + 1)), (0, .ref (b + a0)), (1, .int x1)]) S.1 S.2.1 dX1_hasName_22 hl (k := 2) rfl (congrArg (fun z => x2 + z) (by decide)) (by decide) rfl (fun ls hl => ?_)
        refine lv_goto (tgt := 2) S.1 S.2.1 dX1_hasName_25 (by decide) ?_
        exact ih f I (lv_sub hl [1, 2, 0] rfl)
      · have f := (if_pos q8).symm.trans f
        refine lv_iconst (v := 1) S.1 S.2.1 dX1_hasName_20 (by decide) ?_
        exact o_zret S hr hlo I f dX1_hasName_21
set_option maxHeartbeats 4000000 in
set_option maxRecDepth 100000 in
theorem T1_hasName_0 (S : CallFix p m c cX1_hasName 3 s args vX1_hasName RX1) (hr : meth.sig.returnType = (some .boolean)) (hlo : meth.locks = false) {out : Int32 × PH} {h : PH} {a0 : Nat} {x1 : Int32} (f : F1_hasName_0  h a0 x1 = some out) {H : Heap} {locs : List Loc} (I : ph_I D cy b A fl h s H locs) {ls : Array Slot} (hl : lv_has ls 3 [(0, .ref (b + a0)), (1, .int x1)]) : W p l e ({ frames := 0, cells := 0, slots := 0, locals := 0 } : Room) s m args below meth c H locs 0 0 (MQ below (va_Qi (fun (r : Int32) (u : PH) => (r, u) = out) (ph_B D cy b A fl) A) args s 0 0 A) (F0 m 0 ls []) := by
  unfold F1_hasName_0 at f
  refine lv_iconst (v := 0) S.1 S.2.1 dX1_hasName_0 (by decide) ?_
  refine lv_istore_n (lv' := [(2, .int 0), (0, .ref (b + a0)), (1, .int x1)]) S.1 S.2.1 dX1_hasName_1 rfl hl (by decide) rfl (fun ls hl => ?_)
  exact T1_hasName_2 S hr hlo  1024 f I (lv_sub hl [1, 2, 0] rfl)
theorem M1_hasName (l : Launch) (D : va_G) (cy : Nat → ClassId) (b : Nat) (A : Nat → Prop) (fl : Bool) {h : PH} {a0 : Nat} {x1 : Int32} {out : Int32 × PH} (f : F1_hasName h a0 x1 = some out) : Met l yX1_hasName vX1_hasName ({ frames := 0, cells := 0, slots := 0, locals := 0 } : Room) (va_Pc [.ref (b + a0), .int x1] (ph_B D cy b A fl h)) (va_Qi (fun (r : Int32) (u : PH) => (r, u) = out) (ph_B D cy b A fl) A) 0 0 A :=
  o_met (by decide) rfl (Nat.le_of_ble_eq_true rfl) rfl (fun p e s m below meth c S hr hlo hnm ls hl I => T1_hasName_0 S hr hlo ((gd f).2) I (lv_sub hl [0, 1] rfl))
end
