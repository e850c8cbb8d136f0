section
variable {p : Program} {l : Launch} {e : Env} {s : State} {m : MethodId} {args : Array Value} {below : List Frame} {meth : Method} {c : Code} {D : va_G} {cy : Nat → ClassId} {b : Nat} {A : Nat → Prop} {fl : Bool}
def vX12_beginsFrom : List Cond := .code yX12_beginsFrom cX12_beginsFrom 3 (some .int) :: TB
theorem lf12_beginsFrom_250 : Fl vX12_beginsFrom RX12 250 12 15 := ⟨RX12, TX12, 87, rfl, by decide, (fun w h9 => List.mem_cons_of_mem _ (wC_wsX120 w h9)), (List.mem_cons_of_mem _ wT_12_13)⟩
theorem lf12_beginsFrom_48 : Fl vX12_beginsFrom RX12 48 12 34 := ⟨RX12, TX12, 87, rfl, by decide, (fun w h9 => List.mem_cons_of_mem _ (wC_wsX120 w h9)), (List.mem_cons_of_mem _ wT_10_9)⟩
theorem lf12_beginsFrom_45 : Fl vX12_beginsFrom RX12 45 12 33 := ⟨RX12, TX12, 87, rfl, by decide, (fun w h9 => List.mem_cons_of_mem _ (wC_wsX120 w h9)), (List.mem_cons_of_mem _ wT_10_8)⟩
theorem cd12_beginsFrom : Cd yX12_beginsFrom 1 := ⟨by decide, by decide, by decide +kernel⟩
set_option maxHeartbeats 4000000 in
set_option maxRecDepth 100000 in
theorem T12_beginsFrom_2 (S : CallFix p m c cX12_beginsFrom 3 s args vX12_beginsFrom RX12) (hr : meth.sig.returnType = (some .int)) (hlo : meth.locks = false) {out : Int32 × PH} : ∀ (n : Nat) {h : PH} {a0 : Nat} {x1 : Int32} {x2 : Int32} (f : F12_beginsFrom_2  n h a0 x1 x2 = some out) {H : Heap} {locs : List Loc} (I : ph_I D cy b A fl h s H locs) {ls : Array Slot} (hl : lv_has ls 3 [(0, .ref (b + a0)), (1, .int x1), (2, .int x2)]), W p l e ({ frames := 0, cells := 0, slots := 0, locals := 0 } : Room) s m args below meth c H locs 0 0 (MQ below (va_Qi (fun (r : Int32) (u : PH) => (r, u) = out) (ph_B D cy b A fl) A) args s 0 0 A) (F0 m 2 ls []) := by
  intro n
  induction n with
  | zero => intro h a0 x1 x2 f; rw [F12_beginsFrom_2] at f; cases f
  | succ n ih =>
    intro h a0 x1 x2 f H locs I ls hl
    rw [F12_beginsFrom_2] at f
    refine lv_iload_n S.1 S.2.1 dX12_beginsFrom_2 rfl (lv_at hl 2 rfl) ?_
    refine lv_aload_n S.1 S.2.1 dX12_beginsFrom_3 rfl (lv_at hl 0 rfl) ?_
    obtain ⟨v1, e2, f⟩ := ob f
    refine o_gI S lf12_beginsFrom_250 I e2 dX12_beginsFrom_4 ?_
    refine lv_icmp_ge (tgt := 43) S.1 S.2.1 dX12_beginsFrom_7 (by decide) (fun q3 => ?_) (fun q3 => ?_)
    · have f := (if_pos q3).symm.trans f
      refine lv_iconst (v := (-1)) S.1 S.2.1 dX12_beginsFrom_43 (by decide) ?_
      exact o_iret S hr hlo I f dX12_beginsFrom_44
    · have f := (if_neg q3).symm.trans f
      refine lv_aload_n S.1 S.2.1 dX12_beginsFrom_10 rfl (lv_at hl 0 rfl) ?_
      obtain ⟨r4, e5, f⟩ := ob f
      refine o_gR S lf12_beginsFrom_48 I e5 dX12_beginsFrom_11 ?_
      refine lv_aload_n S.1 S.2.1 dX12_beginsFrom_14 rfl (lv_at hl 0 rfl) ?_
      obtain ⟨r6, e7, f⟩ := ob f
      refine o_gR S lf12_beginsFrom_45 I e7 dX12_beginsFrom_15 ?_
      refine lv_iload_n S.1 S.2.1 dX12_beginsFrom_18 rfl (lv_at hl 2 rfl) ?_
      obtain ⟨v9, e8, f⟩ := ob f
      refine o_iald S I e8 dX12_beginsFrom_19 ?_
      obtain ⟨v11, e10, f⟩ := ob f
      refine o_iald S I e10 dX12_beginsFrom_20 ?_
      refine lv_iload_n S.1 S.2.1 dX12_beginsFrom_21 rfl (lv_at hl 1 rfl) ?_
      refine lv_icmp_lt (tgt := 37) S.1 S.2.1 dX12_beginsFrom_22 (by decide) (fun q12 => ?_) (fun q12 => ?_)
      · have f := (if_pos q12).symm.trans f
        refine lv_iinc (v := (x2 + 1)) (lv' := [(2, .int (x2 + 1)), (0, .ref (b + a0)), (1, .int x1)]) S.1 S.2.1 dX12_beginsFrom_37 hl (k := 2) rfl (congrArg (fun z => x2 + z) (by decide)) (by decide) rfl (fun ls hl => ?_)
        refine lv_goto (tgt := 2) S.1 S.2.1 dX12_beginsFrom_40 (by decide) ?_
        exact ih f I (lv_sub hl [1, 2, 0] rfl)
      · have f := (if_neg q12).symm.trans f
        refine lv_aload_n S.1 S.2.1 dX12_beginsFrom_25 rfl (lv_at hl 0 rfl) ?_
        obtain ⟨r13, e14, f⟩ := ob f
        refine o_gR S lf12_beginsFrom_48 I e14 dX12_beginsFrom_26 ?_
        refine lv_aload_n S.1 S.2.1 dX12_beginsFrom_29 rfl (lv_at hl 0 rfl) ?_
        obtain ⟨r15, e16, f⟩ := ob f
        refine o_gR S lf12_beginsFrom_45 I e16 dX12_beginsFrom_30 ?_
        refine lv_iload_n S.1 S.2.1 dX12_beginsFrom_33 rfl (lv_at hl 2 rfl) ?_
        obtain ⟨v18, e17, f⟩ := ob f
        refine o_iald S I e17 dX12_beginsFrom_34 ?_
        obtain ⟨v20, e19, f⟩ := ob f
        refine o_iald S I e19 dX12_beginsFrom_35 ?_
        exact o_iret S hr hlo I f dX12_beginsFrom_36
set_option maxHeartbeats 4000000 in
set_option maxRecDepth 100000 in
theorem T12_beginsFrom_0 (S : CallFix p m c cX12_beginsFrom 3 s args vX12_beginsFrom RX12) (hr : meth.sig.returnType = (some .int)) (hlo : meth.locks = false) {out : Int32 × PH} {h : PH} {a0 : Nat} {x1 : Int32} (f : F12_beginsFrom_0  h a0 x1 = some out) {H : Heap} {locs : List Loc} (I : ph_I D cy b A fl h s H locs) {ls : Array Slot} (hl : lv_has ls 3 [(0, .ref (b + a0)), (1, .int x1)]) : W p l e ({ frames := 0, cells := 0, slots := 0, locals := 0 } : Room) s m args below meth c H locs 0 0 (MQ below (va_Qi (fun (r : Int32) (u : PH) => (r, u) = out) (ph_B D cy b A fl) A) args s 0 0 A) (F0 m 0 ls []) := by
  unfold F12_beginsFrom_0 at f
  refine lv_iconst (v := 0) S.1 S.2.1 dX12_beginsFrom_0 (by decide) ?_
  refine lv_istore_n (lv' := [(2, .int 0), (0, .ref (b + a0)), (1, .int x1)]) S.1 S.2.1 dX12_beginsFrom_1 rfl hl (by decide) rfl (fun ls hl => ?_)
  exact T12_beginsFrom_2 S hr hlo  1024 f I (lv_sub hl [1, 2, 0] rfl)
theorem M12_beginsFrom (l : Launch) (D : va_G) (cy : Nat → ClassId) (b : Nat) (A : Nat → Prop) (fl : Bool) {h : PH} {a0 : Nat} {x1 : Int32} {out : Int32 × PH} (f : F12_beginsFrom h a0 x1 = some out) : Met l yX12_beginsFrom vX12_beginsFrom ({ frames := 0, cells := 0, slots := 0, locals := 0 } : Room) (va_Pc [.ref (b + a0), .int x1] (ph_B D cy b A fl h)) (va_Qi (fun (r : Int32) (u : PH) => (r, u) = out) (ph_B D cy b A fl) A) 0 0 A :=
  o_met (by decide) rfl (Nat.le_of_ble_eq_true rfl) rfl (fun p e s m below meth c S hr hlo hnm ls hl I => T12_beginsFrom_0 S hr hlo ((gd f).2) I (lv_sub hl [0, 1] rfl))
def vX12_beside : List Cond := .code yX12_beside cX12_beside 5 (some .int) :: TB
theorem lf12_beside_241 : Fl vX12_beside RX12 241 12 12 := ⟨RX12, TX12, 87, rfl, by decide, (fun w h9 => List.mem_cons_of_mem _ (wC_wsX120 w h9)), (List.mem_cons_of_mem _ wT_12_10)⟩
theorem gX12_beside_X12_isIn : GoodIn vX12_beside (va_wsS RX12 199 yX12_isIn vX12_isIn) := gS_of wT_28_17 wT_28_18 wT_1_5 wT_28_19
theorem lf12_beside_244 : Fl vX12_beside RX12 244 12 13 := ⟨RX12, TX12, 87, rfl, by decide, (fun w h9 => List.mem_cons_of_mem _ (wC_wsX120 w h9)), (List.mem_cons_of_mem _ wT_12_11)⟩
theorem cd12_beside : Cd yX12_beside 2 := ⟨by decide, by decide, by decide +kernel⟩
set_option maxHeartbeats 4000000 in
set_option maxRecDepth 100000 in
theorem T12_beside_51 (S : CallFix p m c cX12_beside 5 s args vX12_beside RX12) (hr : meth.sig.returnType = (some .int)) (hlo : meth.locks = false) {out : Int32 × PH} {h : PH} {a0 : Nat} {x3 : Int32} {s0 : Int32} {s1 : Int32} (f : F12_beside_51  h a0 x3 s0 s1 = some out) {H : Heap} {locs : List Loc} (I : ph_I D cy b A fl h s H locs) {ls : Array Slot} (hl : lv_has ls 5 [(0, .ref (b + a0)), (3, .int x3)]) : W p l e ({ frames := 1, cells := 0, slots := 0, locals := 22 } : Room) s m args below meth c H locs 0 0 (MQ below (va_Qi (fun (r : Int32) (u : PH) => (r, u) = out) (ph_B D cy b A fl) A) args s 0 0 A) (F0 m 51 ls [.int s0, .int s1]) := by
  unfold F12_beside_51 at f
  refine lv_iadd S.1 S.2.1 dX12_beside_51 ?_
  refine lv_istore (lv' := [(4, .int (s1 + s0)), (0, .ref (b + a0)), (3, .int x3)]) S.1 S.2.1 dX12_beside_52 hl (by decide) rfl (fun ls hl => ?_)
  refine lv_iload_n S.1 S.2.1 dX12_beside_54 rfl (lv_at hl 2 rfl) ?_
  refine lv_iconst (v := 0) S.1 S.2.1 dX12_beside_55 (by decide) ?_
  refine lv_aload_n S.1 S.2.1 dX12_beside_56 rfl (lv_at hl 1 rfl) ?_
  obtain ⟨v1, e2, f⟩ := ob f
  refine o_gI S lf12_beside_241 I e2 dX12_beside_57 ?_
  refine lv_iconst (v := 1) S.1 S.2.1 dX12_beside_60 (by decide) ?_
  refine lv_isub S.1 S.2.1 dX12_beside_61 ?_
  obtain ⟨o3, e4, f⟩ := ob f
  refine o_Si S (As := [.int x3, .int 0, .int (v1 - 1)]) (rest := []) (M12_isIn l D cy b A fl e4) gX12_beside_X12_isIn rfl rfl rfl cd12_isIn ⟨Nat.le_of_ble_eq_true rfl, Nat.le_of_ble_eq_true rfl⟩ I rfl hl.1 rfl (Nat.le_of_ble_eq_true rfl) dX12_beside_62 ⟨Nat.le_of_ble_eq_true rfl, Nat.le_of_ble_eq_true rfl⟩ (fun H locs I => ?_)
  refine lv_if_eq (tgt := 95) S.1 S.2.1 dX12_beside_65 (by decide) (fun q5 => ?_) (fun q5 => ?_)
  · have f := (if_pos q5).symm.trans f
    refine lv_iconst (v := (-1)) S.1 S.2.1 dX12_beside_95 (by decide) ?_
    exact o_iret S hr hlo I f dX12_beside_96
  · have f := (if_neg q5).symm.trans f
    refine lv_iload S.1 S.2.1 dX12_beside_68 (lv_at hl 0 rfl) ?_
    refine lv_iconst (v := 0) S.1 S.2.1 dX12_beside_70 (by decide) ?_
    refine lv_aload_n S.1 S.2.1 dX12_beside_71 rfl (lv_at hl 1 rfl) ?_
    obtain ⟨v6, e7, f⟩ := ob f
    refine o_gI S lf12_beside_244 I e7 dX12_beside_72 ?_
    refine lv_iconst (v := 1) S.1 S.2.1 dX12_beside_75 (by decide) ?_
    refine lv_isub S.1 S.2.1 dX12_beside_76 ?_
    obtain ⟨o8, e9, f⟩ := ob f
    refine o_Si S (As := [.int (s1 + s0), .int 0, .int (v6 - 1)]) (rest := []) (M12_isIn l D cy b A fl e9) gX12_beside_X12_isIn rfl rfl rfl cd12_isIn ⟨Nat.le_of_ble_eq_true rfl, Nat.le_of_ble_eq_true rfl⟩ I rfl hl.1 rfl (Nat.le_of_ble_eq_true rfl) dX12_beside_77 ⟨Nat.le_of_ble_eq_true rfl, Nat.le_of_ble_eq_true rfl⟩ (fun H locs I => ?_)
    refine lv_if_eq (tgt := 95) S.1 S.2.1 dX12_beside_80 (by decide) (fun q10 => ?_) (fun q10 => ?_)
    · have f := (if_pos q10).symm.trans f
      refine lv_iconst (v := (-1)) S.1 S.2.1 dX12_beside_95 (by decide) ?_
      exact o_iret S hr hlo I f dX12_beside_96
    · have f := (if_neg q10).symm.trans f
      refine lv_aload_n S.1 S.2.1 dX12_beside_83 rfl (lv_at hl 1 rfl) ?_
      obtain ⟨v11, e12, f⟩ := ob f
      refine o_gI S lf12_beside_241 I e12 dX12_beside_84 ?_
      refine lv_iload S.1 S.2.1 dX12_beside_87 (lv_at hl 0 rfl) ?_
      refine lv_imul S.1 S.2.1 dX12_beside_89 ?_
      refine lv_iload_n S.1 S.2.1 dX12_beside_90 rfl (lv_at hl 2 rfl) ?_
      refine lv_iadd S.1 S.2.1 dX12_beside_91 ?_
      refine lv_goto (tgt := 96) S.1 S.2.1 dX12_beside_92 (by decide) ?_
      exact o_iret S hr hlo I f dX12_beside_96
set_option maxHeartbeats 4000000 in
set_option maxRecDepth 100000 in
theorem T12_beside_25 (S : CallFix p m c cX12_beside 5 s args vX12_beside RX12) (hr : meth.sig.returnType = (some .int)) (hlo : meth.locks = false) {out : Int32 × PH} {h : PH} {a0 : Nat} {x1 : Int32} {x2 : Int32} {s0 : Int32} {s1 : Int32} (f : F12_beside_25  h a0 x1 x2 s0 s1 = some out) {H : Heap} {locs : List Loc} (I : ph_I D cy b A fl h s H locs) {ls : Array Slot} (hl : lv_has ls 5 [(0, .ref (b + a0)), (1, .int x1), (2, .int x2)]) : W p l e ({ frames := 1, cells := 0, slots := 0, locals := 22 } : Room) s m args below meth c H locs 0 0 (MQ below (va_Qi (fun (r : Int32) (u : PH) => (r, u) = out) (ph_B D cy b A fl) A) args s 0 0 A) (F0 m 25 ls [.int s0, .int s1]) := by
  unfold F12_beside_25 at f
  refine lv_iadd S.1 S.2.1 dX12_beside_25 ?_
  refine lv_istore_n (lv' := [(3, .int (s1 + s0)), (0, .ref (b + a0)), (1, .int x1), (2, .int x2)]) S.1 S.2.1 dX12_beside_26 rfl hl (by decide) rfl (fun ls hl => ?_)
  refine lv_iload_n S.1 S.2.1 dX12_beside_27 rfl (lv_at hl 2 rfl) ?_
  refine lv_aload_n S.1 S.2.1 dX12_beside_28 rfl (lv_at hl 1 rfl) ?_
  obtain ⟨v1, e2, f⟩ := ob f
  refine o_gI S lf12_beside_241 I e2 dX12_beside_29 ?_
  have q3 : ¬ v1 = 0 := fun q => by rw [if_pos q] at f; cases f
  have f := (if_neg q3).symm.trans f
  refine lv_idiv S.1 S.2.1 dX12_beside_32 q3 ?_
  refine lv_iload_n S.1 S.2.1 dX12_beside_33 rfl (lv_at hl 3 rfl) ?_
  refine lv_iconst (v := 2) S.1 S.2.1 dX12_beside_34 (by decide) ?_
  refine lv_icmp_ne (tgt := 42) S.1 S.2.1 dX12_beside_35 (by decide) (fun q4 => ?_) (fun q4 => ?_)
  · have f := (if_neg q4).symm.trans f
    refine lv_iload_n S.1 S.2.1 dX12_beside_42 rfl (lv_at hl 3 rfl) ?_
    refine lv_if_ne (tgt := 50) S.1 S.2.1 dX12_beside_43 (by decide) (fun q5 => ?_) (fun q5 => ?_)
    · have f := (if_neg q5).symm.trans f
      refine lv_iconst (v := 0) S.1 S.2.1 dX12_beside_50 (by decide) ?_
      exact T12_beside_51 S hr hlo  f I (lv_sub hl [1, 0] rfl)
    · have f := (if_pos q5).symm.trans f
      refine lv_iconst (v := (-1)) S.1 S.2.1 dX12_beside_46 (by decide) ?_
      refine lv_goto (tgt := 51) S.1 S.2.1 dX12_beside_47 (by decide) ?_
      exact T12_beside_51 S hr hlo  f I (lv_sub hl [1, 0] rfl)
  · have f := (if_pos q4).symm.trans f
    refine lv_iconst (v := 1) S.1 S.2.1 dX12_beside_38 (by decide) ?_
    refine lv_goto (tgt := 51) S.1 S.2.1 dX12_beside_39 (by decide) ?_
    exact T12_beside_51 S hr hlo  f I (lv_sub hl [1, 0] rfl)
set_option maxHeartbeats 4000000 in
set_option maxRecDepth 100000 in
theorem T12_beside_0 (S : CallFix p m c cX12_beside 5 s args vX12_beside RX12) (hr : meth.sig.returnType = (some .int)) (hlo : meth.locks = false) {out : Int32 × PH} {h : PH} {a0 : Nat} {x1 : Int32} {x2 : Int32} (f : F12_beside_0  h a0 x1 x2 = some out) {H : Heap} {locs : List Loc} (I : ph_I D cy b A fl h s H locs) {ls : Array Slot} (hl : lv_has ls 5 [(0, .ref (b + a0)), (1, .int x1), (2, .int x2)]) : W p l e ({ frames := 1, cells := 0, slots := 0, locals := 22 } : Room) s m args below meth c H locs 0 0 (MQ below (va_Qi (fun (r : Int32) (u : PH) => (r, u) = out) (ph_B D cy b A fl) A) args s 0 0 A) (F0 m 0 ls []) := by
  unfold F12_beside_0 at f
  refine lv_iload_n S.1 S.2.1 dX12_beside_0 rfl (lv_at hl 1 rfl) ?_
  refine lv_aload_n S.1 S.2.1 dX12_beside_1 rfl (lv_at hl 0 rfl) ?_
  obtain ⟨v1, e2, f⟩ := ob f
  refine o_gI S lf12_beside_241 I e2 dX12_beside_2 ?_
  have q3 : ¬ v1 = 0 := fun q => by rw [if_pos q] at f; cases f
  have f := (if_neg q3).symm.trans f
  refine lv_irem S.1 S.2.1 dX12_beside_5 q3 ?_
  refine lv_iload_n S.1 S.2.1 dX12_beside_6 rfl (lv_at hl 2 rfl) ?_
  refine lv_iconst (v := 1) S.1 S.2.1 dX12_beside_7 (by decide) ?_
  refine lv_icmp_ne (tgt := 15) S.1 S.2.1 dX12_beside_8 (by decide) (fun q4 => ?_) (fun q4 => ?_)
  · have f := (if_neg q4).symm.trans f
    refine lv_iload_n S.1 S.2.1 dX12_beside_15 rfl (lv_at hl 2 rfl) ?_
    refine lv_iconst (v := 3) S.1 S.2.1 dX12_beside_16 (by decide) ?_
    refine lv_icmp_ne (tgt := 24) S.1 S.2.1 dX12_beside_17 (by decide) (fun q5 => ?_) (fun q5 => ?_)
    · have f := (if_neg q5).symm.trans f
      refine lv_iconst (v := 0) S.1 S.2.1 dX12_beside_24 (by decide) ?_
      exact T12_beside_25 S hr hlo  f I (lv_sub hl [0, 1, 2] rfl)
    · have f := (if_pos q5).symm.trans f
      refine lv_iconst (v := (-1)) S.1 S.2.1 dX12_beside_20 (by decide) ?_
      refine lv_goto (tgt := 25) S.1 S.2.1 dX12_beside_21 (by decide) ?_
      exact T12_beside_25 S hr hlo  f I (lv_sub hl [0, 1, 2] rfl)
  · have f := (if_pos q4).symm.trans f
    refine lv_iconst (v := 1) S.1 S.2.1 dX12_beside_11 (by decide) ?_
    refine lv_goto (tgt := 25) S.1 S.2.1 dX12_beside_12 (by decide) ?_
    exact T12_beside_25 S hr hlo  f I (lv_sub hl [0, 1, 2] rfl)
theorem M12_beside (l : Launch) (D : va_G) (cy : Nat → ClassId) (b : Nat) (A : Nat → Prop) (fl : Bool) {h : PH} {a0 : Nat} {x1 : Int32} {x2 : Int32} {out : Int32 × PH} (f : F12_beside h a0 x1 x2 = some out) : Met l yX12_beside vX12_beside ({ frames := 1, cells := 0, slots := 0, locals := 22 } : Room) (va_Pc [.ref (b + a0), .int x1, .int x2] (ph_B D cy b A fl h)) (va_Qi (fun (r : Int32) (u : PH) => (r, u) = out) (ph_B D cy b A fl) A) 0 0 A :=
  o_met (by decide) rfl (Nat.le_of_ble_eq_true rfl) rfl (fun p e s m below meth c S hr hlo hnm ls hl I => T12_beside_0 S hr hlo ((gd f).2) I (lv_sub hl [0, 1, 2] rfl))
def vX12_isSurfer : List Cond := .code yX12_isSurfer cX12_isSurfer 2 (some .boolean) :: TB
theorem lf12_isSurfer_247 : Fl vX12_isSurfer RX12 247 12 14 := ⟨RX12, TX12, 87, rfl, by decide, (fun w h9 => List.mem_cons_of_mem _ (wC_wsX120 w h9)), (List.mem_cons_of_mem _ wT_12_12)⟩
theorem cd12_isSurfer : Cd yX12_isSurfer 1 := ⟨by decide, by decide, by decide +kernel⟩
set_option maxHeartbeats 4000000 in
set_option maxRecDepth 100000 in
theorem T12_isSurfer_0 (S : CallFix p m c cX12_isSurfer 2 s args vX12_isSurfer RX12) (hr : meth.sig.returnType = (some .boolean)) (hlo : meth.locks = false) {out : Int32 × PH} {h : PH} {a0 : Nat} {x1 : Int32} (f : F12_isSurfer_0  h a0 x1 = some out) {H : Heap} {locs : List Loc} (I : ph_I D cy b A fl h s H locs) {ls : Array Slot} (hl : lv_has ls 2 [(0, .ref (b + a0)), (1, .int x1)]) : W p l e ({ frames := 0, cells := 0, slots := 0, locals := 0 } : Room) s m args below meth c H locs 0 0 (MQ below (va_Qi (fun (r : Int32) (u : PH) => (r, u) = out) (ph_B D cy b A fl) A) args s 0 0 A) (F0 m 0 ls []) := by
  unfold F12_isSurfer_0 at f
  refine lv_iload_n S.1 S.2.1 dX12_isSurfer_0 rfl (lv_at hl 1 rfl) ?_
  refine lv_if_lt (tgt := 16) S.1 S.2.1 dX12_isSurfer_1 (by decide) (fun q1 => ?_) (fun q1 => ?_)
  · have f := (if_pos q1).symm.trans f
    refine lv_iconst (v := 0) S.1 S.2.1 dX12_isSurfer_16 (by decide) ?_
    exact o_zret S hr hlo I f dX12_isSurfer_17
  · have f := (if_neg q1).symm.trans f
    refine lv_iload_n S.1 S.2.1 dX12_isSurfer_4 rfl (lv_at hl 1 rfl) ?_
    refine lv_aload_n S.1 S.2.1 dX12_isSurfer_5 rfl (lv_at hl 0 rfl) ?_
    obtain ⟨v2, e3, f⟩ := ob f
    refine o_gI S lf12_isSurfer_247 I e3 dX12_isSurfer_6 ?_
    refine lv_icmp_ge (tgt := 16) S.1 S.2.1 dX12_isSurfer_9 (by decide) (fun q4 => ?_) (fun q4 => ?_)
    · have f := (if_pos q4).symm.trans f
      refine lv_iconst (v := 0) S.1 S.2.1 dX12_isSurfer_16 (by decide) ?_
      exact o_zret S hr hlo I f dX12_isSurfer_17
    · have f := (if_neg q4).symm.trans f
      refine lv_iconst (v := 1) S.1 S.2.1 dX12_isSurfer_12 (by decide) ?_
      refine lv_goto (tgt := 17) S.1 S.2.1 dX12_isSurfer_13 (by decide) ?_
      exact o_zret S hr hlo I f dX12_isSurfer_17
theorem M12_isSurfer (l : Launch) (D : va_G) (cy : Nat → ClassId) (b : Nat) (A : Nat → Prop) (fl : Bool) {h : PH} {a0 : Nat} {x1 : Int32} {out : Int32 × PH} (f : F12_isSurfer h a0 x1 = some out) : Met l yX12_isSurfer vX12_isSurfer ({ frames := 0, cells := 0, slots := 0, locals := 0 } : Room) (va_Pc [.ref (b + a0), .int x1] (ph_B D cy b A fl h)) (va_Qi (fun (r : Int32) (u : PH) => (r, u) = out) (ph_B D cy b A fl) A) 0 0 A :=
  o_met (by decide) rfl (Nat.le_of_ble_eq_true rfl) rfl (fun p e s m below meth c S hr hlo hnm ls hl I => T12_isSurfer_0 S hr hlo ((gd f).2) I (lv_sub hl [0, 1] rfl))
def vX12_cells : List Cond := .code yX12_cells cX12_cells 1 (some .int) :: TB
theorem lf12_cells_241 : Fl vX12_cells RX12 241 12 12 := ⟨RX12, TX12, 87, rfl, by decide, (fun w h9 => List.mem_cons_of_mem _ (wC_wsX120 w h9)), (List.mem_cons_of_mem _ wT_12_10)⟩
theorem lf12_cells_244 : Fl vX12_cells RX12 244 12 13 := ⟨RX12, TX12, 87, rfl, by decide, (fun w h9 => List.mem_cons_of_mem _ (wC_wsX120 w h9)), (List.mem_cons_of_mem _ wT_12_11)⟩
theorem cd12_cells : Cd yX12_cells 0 := ⟨by decide, by decide, by decide +kernel⟩
set_option maxHeartbeats 4000000 in
set_option maxRecDepth 100000 in
theorem T12_cells_0 (S : CallFix p m c cX12_cells 1 s args vX12_cells RX12) (hr : meth.sig.returnType = (some .int)) (hlo : meth.locks = false) {out : Int32 × PH} {h : PH} {a0 : Nat} (f : F12_cells_0  h a0 = some out) {H : Heap} {locs : List Loc} (I : ph_I D cy b A fl h s H locs) {ls : Array Slot} (hl : lv_has ls 1 [(0, .ref (b + a0))]) : W p l e ({ frames := 0, cells := 0, slots := 0, locals := 0 } : Room) s m args below meth c H locs 0 0 (MQ below (va_Qi (fun (r : Int32) (u : PH) => (r, u) = out) (ph_B D cy b A fl) A) args s 0 0 A) (F0 m 0 ls []) := by
  unfold F12_cells_0 at f
  refine lv_aload_n S.1 S.2.1 dX12_cells_0 rfl (lv_at hl 0 rfl) ?_
  obtain ⟨v1, e2, f⟩ := ob f
  refine o_gI S lf12_cells_241 I e2 dX12_cells_1 ?_
  refine lv_aload_n S.1 S.2.1 dX12_cells_4 rfl (lv_at hl 0 rfl) ?_
  obtain ⟨v3, e4, f⟩ := ob f
  refine o_gI S lf12_cells_244 I e4 dX12_cells_5 ?_
  refine lv_imul S.1 S.2.1 dX12_cells_8 ?_
  exact o_iret S hr hlo I f dX12_cells_9
theorem M12_cells (l : Launch) (D : va_G) (cy : Nat → ClassId) (b : Nat) (A : Nat → Prop) (fl : Bool) {h : PH} {a0 : Nat} {out : Int32 × PH} (f : F12_cells h a0 = some out) : Met l yX12_cells vX12_cells ({ frames := 0, cells := 0, slots := 0, locals := 0 } : Room) (va_Pc [.ref (b + a0)] (ph_B D cy b A fl h)) (va_Qi (fun (r : Int32) (u : PH) => (r, u) = out) (ph_B D cy b A fl) A) 0 0 A :=
  o_met (by decide) rfl (Nat.le_of_ble_eq_true rfl) rfl (fun p e s m below meth c S hr hlo hnm ls hl I => T12_cells_0 S hr hlo ((gd f).2) I (lv_sub hl [0] rfl))
def vX12_gainOf : List Cond := .code yX12_gainOf cX12_gainOf 4 (some .int) :: TB
theorem gX12_gainOf_X12_oddsOf : GoodIn vX12_gainOf (wsV RX12 425 RX12 yX12_oddsOf vX12_oddsOf) := gV_of wT_40_1 wT_40_2 wT_40_3 wT_1_5 wT_40_4
theorem lf12_gainOf_51 : Fl vX12_gainOf RX12 51 12 35 := ⟨RX12, TX12, 87, rfl, by decide, (fun w h9 => List.mem_cons_of_mem _ (wC_wsX120 w h9)), (List.mem_cons_of_mem _ wT_10_10)⟩
theorem cd12_gainOf : Cd yX12_gainOf 3 := ⟨by decide, by decide, by decide +kernel⟩
set_option maxHeartbeats 4000000 in
set_option maxRecDepth 100000 in
theorem T12_gainOf_0 (S : CallFix p m c cX12_gainOf 4 s args vX12_gainOf RX12) (hr : meth.sig.returnType = (some .int)) (hlo : meth.locks = false) {out : Int32 × PH} {h : PH} {a0 : Nat} {x1 : Int32} {x2 : Int32} {x3 : Int32} (f : F12_gainOf_0  h a0 x1 x2 x3 = some out) {H : Heap} {locs : List Loc} (I : ph_I D cy b A fl h s H locs) {ls : Array Slot} (hl : lv_has ls 4 [(0, .ref (b + a0)), (1, .int x1), (2, .int x2), (3, .int x3)]) : W p l e ({ frames := 7, cells := 0, slots := 0, locals := 169 } : Room) s m args below meth c H locs 0 0 (MQ below (va_Qi (fun (r : Int32) (u : PH) => (r, u) = out) (ph_B D cy b A fl) A) args s 0 0 A) (F0 m 0 ls []) := by
  unfold F12_gainOf_0 at f
  refine lv_aload_n S.1 S.2.1 dX12_gainOf_0 rfl (lv_at hl 0 rfl) ?_
  refine lv_iload_n S.1 S.2.1 dX12_gainOf_1 rfl (lv_at hl 1 rfl) ?_
  refine lv_iload_n S.1 S.2.1 dX12_gainOf_2 rfl (lv_at hl 2 rfl) ?_
  refine lv_iload_n S.1 S.2.1 dX12_gainOf_3 rfl (lv_at hl 3 rfl) ?_
  obtain ⟨o1, e2, f⟩ := ob f
  refine o_Vi S (As := [.int x1, .int x2, .int x3]) (rest := []) (ci := 12) (M12_oddsOf l D cy b A fl e2) gX12_gainOf_X12_oddsOf rfl rfl rfl cd12_oddsOf ⟨Nat.le_of_ble_eq_true rfl, Nat.le_of_ble_eq_true rfl⟩ I (gd e2).1 clX12 rfl rfl hl.1 rfl (Nat.le_of_ble_eq_true rfl) dX12_gainOf_4 ⟨Nat.le_of_ble_eq_true rfl, Nat.le_of_ble_eq_true rfl⟩ (fun H locs I => ?_)
  refine lv_aload_n S.1 S.2.1 dX12_gainOf_7 rfl (lv_at hl 0 rfl) ?_
  obtain ⟨r3, e4, f⟩ := ob f
  refine o_gR S lf12_gainOf_51 I e4 dX12_gainOf_8 ?_
  refine lv_iload_n S.1 S.2.1 dX12_gainOf_11 rfl (lv_at hl 2 rfl) ?_
  obtain ⟨v6, e5, f⟩ := ob f
  refine o_iald S I e5 dX12_gainOf_12 ?_
  refine lv_imul S.1 S.2.1 dX12_gainOf_13 ?_
  exact o_iret S hr hlo I f dX12_gainOf_14
theorem M12_gainOf (l : Launch) (D : va_G) (cy : Nat → ClassId) (b : Nat) (A : Nat → Prop) (fl : Bool) {h : PH} {a0 : Nat} {x1 : Int32} {x2 : Int32} {x3 : Int32} {out : Int32 × PH} (f : F12_gainOf h a0 x1 x2 x3 = some out) : Met l yX12_gainOf vX12_gainOf ({ frames := 7, cells := 0, slots := 0, locals := 169 } : Room) (va_Pc [.ref (b + a0), .int x1, .int x2, .int x3] (ph_B D cy b A fl h)) (va_Qi (fun (r : Int32) (u : PH) => (r, u) = out) (ph_B D cy b A fl) A) 0 0 A :=
  o_met (by decide) rfl (Nat.le_of_ble_eq_true rfl) rfl (fun p e s m below meth c S hr hlo hnm ls hl I => T12_gainOf_0 S hr hlo ((gd f).2) I (lv_sub hl [0, 1, 2, 3] rfl))
def vX12_seatFrom : List Cond := .code yX12_seatFrom cX12_seatFrom 6 (some .int) :: TB
theorem lf12_seatFrom_253 : Fl vX12_seatFrom RX12 253 12 16 := ⟨RX12, TX12, 87, rfl, by decide, (fun w h9 => List.mem_cons_of_mem _ (wC_wsX120 w h9)), (List.mem_cons_of_mem _ wT_12_14)⟩
theorem lf12_seatFrom_48 : Fl vX12_seatFrom RX12 48 12 34 := ⟨RX12, TX12, 87, rfl, by decide, (fun w h9 => List.mem_cons_of_mem _ (wC_wsX120 w h9)), (List.mem_cons_of_mem _ wT_10_9)⟩
theorem gX12_seatFrom_X12_gainOf : GoodIn vX12_seatFrom (wsV RX12 479 RX12 yX12_gainOf vX12_gainOf) := gV_of wT_50_5 wT_50_6 wT_50_7 wT_1_5 wT_50_8
theorem cd12_seatFrom : Cd yX12_seatFrom 3 := ⟨by decide, by decide, by decide +kernel⟩
set_option maxHeartbeats 4000000 in
set_option maxRecDepth 100000 in
theorem T12_seatFrom_6 (S : CallFix p m c cX12_seatFrom 6 s args vX12_seatFrom RX12) (hr : meth.sig.returnType = (some .int)) (hlo : meth.locks = false) {out : Int32 × PH} : ∀ (n : Nat) {h : PH} {a0 : Nat} {x1 : Int32} {x2 : Int32} {x3 : Int32} {x4 : Int32} {x5 : Int32} (f : F12_seatFrom_6  n h a0 x1 x2 x3 x4 x5 = some out) {H : Heap} {locs : List Loc} (I : ph_I D cy b A fl h s H locs) {ls : Array Slot} (hl : lv_has ls 6 [(0, .ref (b + a0)), (1, .int x1), (2, .int x2), (3, .int x3), (4, .int x4), (5, .int x5)]), W p l e ({ frames := 8, cells := 0, slots := 0, locals := 192 } : Room) s m args below meth c H locs 0 0 (MQ below (va_Qi (fun (r : Int32) (u : PH) => (r, u) = out) (ph_B D cy b A fl) A) args s 0 0 A) (F0 m 6 ls []) := by
  intro n
  induction n with
  | zero => intro h a0 x1 x2 x3 x4 x5 f; rw [F12_seatFrom_6] at f; cases f
  | succ n ih =>
    intro h a0 x1 x2 x3 x4 x5 f H locs I ls hl
    rw [F12_seatFrom_6] at f
    refine lv_iload S.1 S.2.1 dX12_seatFrom_6 (lv_at hl 5 rfl) ?_
    refine lv_aload_n S.1 S.2.1 dX12_seatFrom_8 rfl (lv_at hl 0 rfl) ?_
    obtain ⟨v1, e2, f⟩ := ob f
    refine o_gI S lf12_seatFrom_253 I e2 dX12_seatFrom_9 ?_
    refine lv_icmp_ge (tgt := 49) S.1 S.2.1 dX12_seatFrom_12 (by decide) (fun q3 => ?_) (fun q3 => ?_)
    · have f := (if_pos q3).symm.trans f
      refine lv_iload S.1 S.2.1 dX12_seatFrom_49 (lv_at hl 4 rfl) ?_
      exact o_iret S hr hlo I f dX12_seatFrom_51
    · have f := (if_neg q3).symm.trans f
      refine lv_iload S.1 S.2.1 dX12_seatFrom_15 (lv_at hl 4 rfl) ?_
      refine lv_aload_n S.1 S.2.1 dX12_seatFrom_17 rfl (lv_at hl 0 rfl) ?_
      obtain ⟨r4, e5, f⟩ := ob f
      refine o_gR S lf12_seatFrom_48 I e5 dX12_seatFrom_18 ?_
      refine lv_iload S.1 S.2.1 dX12_seatFrom_21 (lv_at hl 5 rfl) ?_
      obtain ⟨v7, e6, f⟩ := ob f
      refine o_iald S I e6 dX12_seatFrom_23 ?_
      refine lv_iload_n S.1 S.2.1 dX12_seatFrom_24 rfl (lv_at hl 3 rfl) ?_
      refine lv_icmp_lt (tgt := 39) S.1 S.2.1 dX12_seatFrom_25 (by decide) (fun q8 => ?_) (fun q8 => ?_)
      · have f := (if_pos q8).symm.trans f
        refine lv_iconst (v := 0) S.1 S.2.1 dX12_seatFrom_39 (by decide) ?_
        refine lv_iadd S.1 S.2.1 dX12_seatFrom_40 ?_
        refine lv_istore (lv' := [(4, .int (x4 + 0)), (0, .ref (b + a0)), (1, .int x1), (2, .int x2), (3, .int x3), (5, .int x5)]) S.1 S.2.1 dX12_seatFrom_41 hl (by decide) rfl (fun ls hl => ?_)
        refine lv_iinc (v := (x5 + 1)) (lv' := [(5, .int (x5 + 1)), (4, .int (x4 + 0)), (0, .ref (b + a0)), (1, .int x1), (2, .int x2), (3, .int x3)]) S.1 S.2.1 dX12_seatFrom_43 hl (k := 5) rfl (congrArg (fun z => x5 + z) (by decide)) (by decide) rfl (fun ls hl => ?_)
        refine lv_goto (tgt := 6) S.1 S.2.1 dX12_seatFrom_46 (by decide) ?_
        exact ih f I (lv_sub hl [2, 3, 4, 5, 1, 0] rfl)
      · have f := (if_neg q8).symm.trans f
        refine lv_aload_n S.1 S.2.1 dX12_seatFrom_28 rfl (lv_at hl 0 rfl) ?_
        refine lv_iload_n S.1 S.2.1 dX12_seatFrom_29 rfl (lv_at hl 1 rfl) ?_
        refine lv_iload S.1 S.2.1 dX12_seatFrom_30 (lv_at hl 5 rfl) ?_
        refine lv_iload_n S.1 S.2.1 dX12_seatFrom_32 rfl (lv_at hl 2 rfl) ?_
        obtain ⟨o9, e10, f⟩ := ob f
        refine o_Vi S (As := [.int x1, .int x5, .int x2]) (rest := [.int x4]) (ci := 12) (M12_gainOf l D cy b A fl e10) gX12_seatFrom_X12_gainOf rfl rfl rfl cd12_gainOf ⟨Nat.le_of_ble_eq_true rfl, Nat.le_of_ble_eq_true rfl⟩ I (gd e10).1 clX12 rfl rfl hl.1 rfl (Nat.le_of_ble_eq_true rfl) dX12_seatFrom_33 ⟨Nat.le_of_ble_eq_true rfl, Nat.le_of_ble_eq_true rfl⟩ (fun H locs I => ?_)
        refine lv_goto (tgt := 40) S.1 S.2.1 dX12_seatFrom_36 (by decide) ?_
        refine lv_iadd S.1 S.2.1 dX12_seatFrom_40 ?_
        refine lv_istore (lv' := [(4, .int (x4 + o9.1)), (0, .ref (b + a0)), (1, .int x1), (2, .int x2), (3, .int x3), (5, .int x5)]) S.1 S.2.1 dX12_seatFrom_41 hl (by decide) rfl (fun ls hl => ?_)
        refine lv_iinc (v := (x5 + 1)) (lv' := [(5, .int (x5 + 1)), (4, .int (x4 + o9.1)), (0, .ref (b + a0)), (1, .int x1), (2, .int x2), (3, .int x3)]) S.1 S.2.1 dX12_seatFrom_43 hl (k := 5) rfl (congrArg (fun z => x5 + z) (by decide)) (by decide) rfl (fun ls hl => ?_)
        refine lv_goto (tgt := 6) S.1 S.2.1 dX12_seatFrom_46 (by decide) ?_
        exact ih f I (lv_sub hl [2, 3, 4, 5, 1, 0] rfl)
set_option maxHeartbeats 4000000 in
set_option maxRecDepth 100000 in
theorem T12_seatFrom_0 (S : CallFix p m c cX12_seatFrom 6 s args vX12_seatFrom RX12) (hr : meth.sig.returnType = (some .int)) (hlo : meth.locks = false) {out : Int32 × PH} {h : PH} {a0 : Nat} {x1 : Int32} {x2 : Int32} {x3 : Int32} (f : F12_seatFrom_0  h a0 x1 x2 x3 = some out) {H : Heap} {locs : List Loc} (I : ph_I D cy b A fl h s H locs) {ls : Array Slot} (hl : lv_has ls 6 [(0, .ref (b + a0)), (1, .int x1), (2, .int x2), (3, .int x3)]) : W p l e ({ frames := 8, cells := 0, slots := 0, locals := 192 } : Room) s m args below meth c H locs 0 0 (MQ below (va_Qi (fun (r : Int32) (u : PH) => (r, u) = out) (ph_B D cy b A fl) A) args s 0 0 A) (F0 m 0 ls []) := by
  unfold F12_seatFrom_0 at f
  refine lv_iconst (v := 0) S.1 S.2.1 dX12_seatFrom_0 (by decide) ?_
  refine lv_istore (lv' := [(4, .int 0), (0, .ref (b + a0)), (1, .int x1), (2, .int x2), (3, .int x3)]) S.1 S.2.1 dX12_seatFrom_1 hl (by decide) rfl (fun ls hl => ?_)
  refine lv_iconst (v := 0) S.1 S.2.1 dX12_seatFrom_3 (by decide) ?_
  refine lv_istore (lv' := [(5, .int 0), (4, .int 0), (0, .ref (b + a0)), (1, .int x1), (2, .int x2), (3, .int x3)]) S.1 S.2.1 dX12_seatFrom_4 hl (by decide) rfl (fun ls hl => ?_)
  exact T12_seatFrom_6 S hr hlo  1024 f I (lv_sub hl [2, 3, 4, 5, 1, 0] rfl)
theorem M12_seatFrom (l : Launch) (D : va_G) (cy : Nat → ClassId) (b : Nat) (A : Nat → Prop) (fl : Bool) {h : PH} {a0 : Nat} {x1 : Int32} {x2 : Int32} {x3 : Int32} {out : Int32 × PH} (f : F12_seatFrom h a0 x1 x2 x3 = some out) : Met l yX12_seatFrom vX12_seatFrom ({ frames := 8, cells := 0, slots := 0, locals := 192 } : Room) (va_Pc [.ref (b + a0), .int x1, .int x2, .int x3] (ph_B D cy b A fl h)) (va_Qi (fun (r : Int32) (u : PH) => (r, u) = out) (ph_B D cy b A fl) A) 0 0 A :=
  o_met (by decide) rfl (Nat.le_of_ble_eq_true rfl) rfl (fun p e s m below meth c S hr hlo hnm ls hl I => T12_seatFrom_0 S hr hlo ((gd f).2) I (lv_sub hl [0, 1, 2, 3] rfl))
def vX12_best : List Cond := .code yX12_best cX12_best 6 (some .int) :: TB
theorem gX12_best_X12_cells : GoodIn vX12_best (wsV RX12 366 RX12 yX12_cells vX12_cells) := gV_of wT_39_21 wT_39_22 wT_39_23 wT_1_5 wT_40_0
theorem lf12_best_106 : Fl vX12_best RX12 106 12 61 := ⟨RX12, TX12, 87, rfl, by decide, (fun w h9 => List.mem_cons_of_mem _ (wC_wsX120 w h9)), (List.mem_cons_of_mem _ wT_11_4)⟩
theorem gX12_best_X12_seatFrom : GoodIn vX12_best (wsV RX12 482 RX12 yX12_seatFrom vX12_seatFrom) := gV_of wT_50_1 wT_50_2 wT_50_3 wT_1_5 wT_50_4
theorem lp12_best_154 : Pl vX12_best RX12 154 12 2 .int := ⟨RX12, TX12, 87, tyX12, rfl, by decide, (fun w h9 => List.mem_cons_of_mem _ (wC_wsX120 w h9)), (List.mem_cons_of_mem _ wT_13_17), tyX12_ok, nmX12, rfl, rfl⟩
theorem gX12_best_X12_isSurfer : GoodIn vX12_best (wsV RX12 413 RX12 yX12_isSurfer vX12_isSurfer) := gV_of wT_34_14 wT_34_15 wT_34_16 wT_1_5 wT_34_17
theorem cd12_best : Cd yX12_best 1 := ⟨by decide, by decide, by decide +kernel⟩
set_option maxHeartbeats 4000000 in
set_option maxRecDepth 100000 in
theorem T12_best_22 (S : CallFix p m c cX12_best 6 s args vX12_best RX12) (hr : meth.sig.returnType = (some .int)) (hlo : meth.locks = false) {out : Int32 × PH} : ∀ (n : Nat) {h : PH} {a0 : Nat} {x1 : Int32} {x2 : Int32} {x3 : Int32} {x4 : Int32} (f : F12_best_22  n h a0 x1 x2 x3 x4 = some out) {H : Heap} {locs : List Loc} (I : ph_I D cy b A fl h s H locs) {ls : Array Slot} (hl : lv_has ls 6 [(0, .ref (b + a0)), (1, .int x1), (2, .int x2), (3, .int x3), (4, .int x4)]), W p l e ({ frames := 9, cells := 0, slots := 0, locals := 217 } : Room) s m args below meth c H locs 0 0 (MQ below (va_Qi (fun (r : Int32) (u : PH) => (r, u) = out) (ph_B D cy b A fl) A) args s 0 0 A) (F0 m 22 ls []) := by
  intro n
  induction n with
  | zero => intro h a0 x1 x2 x3 x4 f; rw [F12_best_22] at f; cases f
  | succ n ih =>
    intro h a0 x1 x2 x3 x4 f H locs I ls hl
    rw [F12_best_22] at f
    refine lv_iload S.1 S.2.1 dX12_best_22 (lv_at hl 4 rfl) ?_
    refine lv_aload_n S.1 S.2.1 dX12_best_24 rfl (lv_at hl 0 rfl) ?_
    obtain ⟨o1, e2, f⟩ := ob f
    refine o_Vi S (As := []) (rest := [.int x4]) (ci := 12) (M12_cells l D cy b A fl e2) gX12_best_X12_cells rfl rfl rfl cd12_cells ⟨Nat.le_of_ble_eq_true rfl, Nat.le_of_ble_eq_true rfl⟩ I (gd e2).1 clX12 rfl rfl hl.1 rfl (Nat.le_of_ble_eq_true rfl) dX12_best_25 ⟨Nat.le_of_ble_eq_true rfl, Nat.le_of_ble_eq_true rfl⟩ (fun H locs I => ?_)
    refine lv_icmp_ge (tgt := 67) S.1 S.2.1 dX12_best_28 (by decide) (fun q3 => ?_) (fun q3 => ?_)
    · have f := (if_pos q3).symm.trans f
      refine lv_iload_n S.1 S.2.1 dX12_best_67 rfl (lv_at hl 2 rfl) ?_
      exact o_iret S hr hlo I f dX12_best_68
    · have f := (if_neg q3).symm.trans f
      refine lv_aload_n S.1 S.2.1 dX12_best_31 rfl (lv_at hl 0 rfl) ?_
      refine lv_iload_n S.1 S.2.1 dX12_best_32 rfl (lv_at hl 1 rfl) ?_
      refine lv_iload S.1 S.2.1 dX12_best_33 (lv_at hl 4 rfl) ?_
      refine lv_aload_n S.1 S.2.1 dX12_best_35 rfl (lv_at hl 0 rfl) ?_
      obtain ⟨r4, e5, f⟩ := ob f
      refine o_gR S lf12_best_106 I e5 dX12_best_36 ?_
      refine lv_iconst (v := 0) S.1 S.2.1 dX12_best_39 (by decide) ?_
      obtain ⟨v7, e6, f⟩ := ob f
      refine o_iald S I e6 dX12_best_40 ?_
      obtain ⟨o8, e9, f⟩ := ob f
      refine o_Vi S (As := [.int x1, .int x4, .int v7]) (rest := []) (ci := 12) (M12_seatFrom l D cy b A fl e9) gX12_best_X12_seatFrom rfl rfl rfl cd12_seatFrom ⟨Nat.le_of_ble_eq_true rfl, Nat.le_of_ble_eq_true rfl⟩ I (gd e9).1 clX12 rfl rfl hl.1 rfl (Nat.le_of_ble_eq_true rfl) dX12_best_41 ⟨Nat.le_of_ble_eq_true rfl, Nat.le_of_ble_eq_true rfl⟩ (fun H locs I => ?_)
      refine lv_istore (lv' := [(5, .int o8.1), (0, .ref (b + a0)), (1, .int x1), (2, .int x2), (3, .int x3), (4, .int x4)]) S.1 S.2.1 dX12_best_44 hl (by decide) rfl (fun ls hl => ?_)
      refine lv_iload S.1 S.2.1 dX12_best_46 (lv_at hl 0 rfl) ?_
      refine lv_iload_n S.1 S.2.1 dX12_best_48 rfl (lv_at hl 4 rfl) ?_
      refine lv_icmp_gt (tgt := 55) S.1 S.2.1 dX12_best_49 (by decide) (fun q10 => ?_) (fun q10 => ?_)
      · have f := (if_pos q10).symm.trans f
        refine lv_iload S.1 S.2.1 dX12_best_55 (lv_at hl 5 rfl) ?_
        refine lv_istore_n (lv' := [(2, .int x4), (5, .int o8.1), (0, .ref (b + a0)), (1, .int x1), (3, .int x3), (4, .int x4)]) S.1 S.2.1 dX12_best_57 rfl hl (by decide) rfl (fun ls hl => ?_)
        refine lv_iload S.1 S.2.1 dX12_best_58 (lv_at hl 1 rfl) ?_
        refine lv_istore_n (lv' := [(3, .int o8.1), (2, .int x4), (5, .int o8.1), (0, .ref (b + a0)), (1, .int x1), (4, .int x4)]) S.1 S.2.1 dX12_best_60 rfl hl (by decide) rfl (fun ls hl => ?_)
        refine lv_iinc (v := (x4 + 1)) (lv' := [(4, .int (x4 + 1)), (3, .int o8.1), (2, .int x4), (5, .int o8.1), (0, .ref (b + a0)), (1, .int x1)]) S.1 S.2.1 dX12_best_61 hl (k := 5) rfl (congrArg (fun z => x4 + z) (by decide)) (by decide) rfl (fun ls hl => ?_)
        refine lv_goto (tgt := 22) S.1 S.2.1 dX12_best_64 (by decide) ?_
        exact ih f I (lv_sub hl [4, 5, 2, 1, 0] rfl)
      · have f := (if_neg q10).symm.trans f
        refine lv_goto (tgt := 61) S.1 S.2.1 dX12_best_52 (by decide) ?_
        refine lv_iinc (v := (x4 + 1)) (lv' := [(4, .int (x4 + 1)), (5, .int o8.1), (0, .ref (b + a0)), (1, .int x1), (2, .int x2), (3, .int x3)]) S.1 S.2.1 dX12_best_61 hl (k := 5) rfl (congrArg (fun z => x4 + z) (by decide)) (by decide) rfl (fun ls hl => ?_)
        refine lv_goto (tgt := 22) S.1 S.2.1 dX12_best_64 (by decide) ?_
        exact ih f I (lv_sub hl [2, 3, 4, 5, 0] rfl)
set_option maxHeartbeats 4000000 in
set_option maxRecDepth 100000 in
theorem T12_best_0 (S : CallFix p m c cX12_best 6 s args vX12_best RX12) (hr : meth.sig.returnType = (some .int)) (hlo : meth.locks = false) {out : Int32 × PH} {h : PH} {a0 : Nat} {x1 : Int32} (f : F12_best_0  h a0 x1 = some out) {H : Heap} {locs : List Loc} (I : ph_I D cy b A fl h s H locs) {ls : Array Slot} (hl : lv_has ls 6 [(0, .ref (b + a0)), (1, .int x1)]) : W p l e ({ frames := 9, cells := 0, slots := 0, locals := 217 } : Room) s m args below meth c H locs 0 0 (MQ below (va_Qi (fun (r : Int32) (u : PH) => (r, u) = out) (ph_B D cy b A fl) A) args s 0 0 A) (F0 m 0 ls []) := by
  unfold F12_best_0 at f
  refine lv_aload_n S.1 S.2.1 dX12_best_0 rfl (lv_at hl 0 rfl) ?_
  refine lv_iconst (v := 0) S.1 S.2.1 dX12_best_1 (by decide) ?_
  obtain ⟨h1, e2, f⟩ := ob f
  refine o_pI S lp12_best_154 I e2 dX12_best_2 (fun H locs I => ?_)
  refine lv_aload_n S.1 S.2.1 dX12_best_5 rfl (lv_at hl 0 rfl) ?_
  refine lv_iload_n S.1 S.2.1 dX12_best_6 rfl (lv_at hl 1 rfl) ?_
  obtain ⟨o3, e4, f⟩ := ob f
  refine o_Vi S (As := [.int x1]) (rest := []) (ci := 12) (M12_isSurfer l D cy b A fl e4) gX12_best_X12_isSurfer rfl rfl rfl cd12_isSurfer ⟨Nat.le_of_ble_eq_true rfl, Nat.le_of_ble_eq_true rfl⟩ I (gd e4).1 clX12 rfl rfl hl.1 rfl (Nat.le_of_ble_eq_true rfl) dX12_best_7 ⟨Nat.le_of_ble_eq_true rfl, Nat.le_of_ble_eq_true rfl⟩ (fun H locs I => ?_)
  refine lv_if_ne (tgt := 15) S.1 S.2.1 dX12_best_10 (by decide) (fun q5 => ?_) (fun q5 => ?_)
  · have f := (if_neg q5).symm.trans f
    refine lv_iconst (v := 0) S.1 S.2.1 dX12_best_15 (by decide) ?_
    refine lv_istore_n (lv' := [(2, .int 0), (0, .ref (b + a0)), (1, .int x1)]) S.1 S.2.1 dX12_best_16 rfl hl (by decide) rfl (fun ls hl => ?_)
    refine lv_iconst (v := (-1)) S.1 S.2.1 dX12_best_17 (by decide) ?_
    refine lv_istore_n (lv' := [(3, .int (-1)), (2, .int 0), (0, .ref (b + a0)), (1, .int x1)]) S.1 S.2.1 dX12_best_18 rfl hl (by decide) rfl (fun ls hl => ?_)
    refine lv_iconst (v := 0) S.1 S.2.1 dX12_best_19 (by decide) ?_
    refine lv_istore (lv' := [(4, .int 0), (3, .int (-1)), (2, .int 0), (0, .ref (b + a0)), (1, .int x1)]) S.1 S.2.1 dX12_best_20 hl (by decide) rfl (fun ls hl => ?_)
    exact T12_best_22 S hr hlo  1024 f I (lv_sub hl [3, 4, 2, 1, 0] rfl)
  · have f := (if_pos q5).symm.trans f
    refine lv_iconst (v := (-1)) S.1 S.2.1 dX12_best_13 (by decide) ?_
    exact o_iret S hr hlo I f dX12_best_14
theorem M12_best (l : Launch) (D : va_G) (cy : Nat → ClassId) (b : Nat) (A : Nat → Prop) (fl : Bool) {h : PH} {a0 : Nat} {x1 : Int32} {out : Int32 × PH} (f : F12_best h a0 x1 = some out) : Met l yX12_best vX12_best ({ frames := 9, cells := 0, slots := 0, locals := 217 } : Room) (va_Pc [.ref (b + a0), .int x1] (ph_B D cy b A fl h)) (va_Qi (fun (r : Int32) (u : PH) => (r, u) = out) (ph_B D cy b A fl) A) 0 0 A :=
  o_met (by decide) rfl (Nat.le_of_ble_eq_true rfl) rfl (fun p e s m below meth c S hr hlo hnm ls hl I => T12_best_0 S hr hlo ((gd f).2) I (lv_sub hl [0, 1] rfl))
def vX12_rank : List Cond := .code yX12_rank cX12_rank 1 (some .int) :: TB
theorem cd12_rank : Cd yX12_rank 1 := ⟨by decide, by decide, by decide +kernel⟩
set_option maxHeartbeats 4000000 in
set_option maxRecDepth 100000 in
theorem T12_rank_0 (S : CallFix p m c cX12_rank 1 s args vX12_rank RX12) (hr : meth.sig.returnType = (some .int)) (hlo : meth.locks = false) {out : Int32 × PH} {h : PH} {x0 : Int32} (f : F12_rank_0  h x0 = some out) {H : Heap} {locs : List Loc} (I : ph_I D cy b A fl h s H locs) {ls : Array Slot} (hl : lv_has ls 1 [(0, .int x0)]) : W p l e ({ frames := 0, cells := 0, slots := 0, locals := 0 } : Room) s m args below meth c H locs 0 0 (MQ below (va_Qi (fun (r : Int32) (u : PH) => (r, u) = out) (ph_B D cy b A fl) A) args s 0 0 A) (F0 m 0 ls []) := by
  unfold F12_rank_0 at f
  refine lv_iload_n S.1 S.2.1 dX12_rank_0 rfl (lv_at hl 0 rfl) ?_
  refine lv_bipush (v := 13) S.1 S.2.1 dX12_rank_1 (by decide) ?_
  refine lv_icmp_lt (tgt := 11) S.1 S.2.1 dX12_rank_3 (by decide) (fun q1 => ?_) (fun q1 => ?_)
  · have f := (if_pos q1).symm.trans f
    refine lv_iload_n S.1 S.2.1 dX12_rank_11 rfl (lv_at hl 0 rfl) ?_
    refine lv_bipush (v := 11) S.1 S.2.1 dX12_rank_12 (by decide) ?_
    refine lv_icmp_lt (tgt := 21) S.1 S.2.1 dX12_rank_14 (by decide) (fun q2 => ?_) (fun q2 => ?_)
    · have f := (if_pos q2).symm.trans f
      refine lv_iload_n S.1 S.2.1 dX12_rank_21 rfl (lv_at hl 0 rfl) ?_
      refine lv_iconst (v := 5) S.1 S.2.1 dX12_rank_22 (by decide) ?_
      refine lv_icmp_lt (tgt := 30) S.1 S.2.1 dX12_rank_23 (by decide) (fun q3 => ?_) (fun q3 => ?_)
      · have f := (if_pos q3).symm.trans f
        refine lv_iload_n S.1 S.2.1 dX12_rank_30 rfl (lv_at hl 0 rfl) ?_
        refine lv_iconst (v := 2) S.1 S.2.1 dX12_rank_31 (by decide) ?_
        refine lv_icmp_ne (tgt := 39) S.1 S.2.1 dX12_rank_32 (by decide) (fun q4 => ?_) (fun q4 => ?_)
        · have f := (if_neg q4).symm.trans f
          refine lv_iload_n S.1 S.2.1 dX12_rank_39 rfl (lv_at hl 0 rfl) ?_
          refine lv_iconst (v := 3) S.1 S.2.1 dX12_rank_40 (by decide) ?_
          refine lv_icmp_ne (tgt := 48) S.1 S.2.1 dX12_rank_41 (by decide) (fun q5 => ?_) (fun q5 => ?_)
          · have f := (if_neg q5).symm.trans f
            refine lv_iload_n S.1 S.2.1 dX12_rank_48 rfl (lv_at hl 0 rfl) ?_
            refine lv_iconst (v := 4) S.1 S.2.1 dX12_rank_49 (by decide) ?_
            refine lv_icmp_ne (tgt := 57) S.1 S.2.1 dX12_rank_50 (by decide) (fun q6 => ?_) (fun q6 => ?_)
            · have f := (if_neg q6).symm.trans f
              refine lv_iconst (v := 0) S.1 S.2.1 dX12_rank_57 (by decide) ?_
              exact o_iret S hr hlo I f dX12_rank_58
            · have f := (if_pos q6).symm.trans f
              refine lv_iconst (v := 1) S.1 S.2.1 dX12_rank_53 (by decide) ?_
              refine lv_goto (tgt := 58) S.1 S.2.1 dX12_rank_54 (by decide) ?_
              exact o_iret S hr hlo I f dX12_rank_58
          · have f := (if_pos q5).symm.trans f
            refine lv_iconst (v := 2) S.1 S.2.1 dX12_rank_44 (by decide) ?_
            refine lv_goto (tgt := 58) S.1 S.2.1 dX12_rank_45 (by decide) ?_
            exact o_iret S hr hlo I f dX12_rank_58
        · have f := (if_pos q4).symm.trans f
          refine lv_iconst (v := 3) S.1 S.2.1 dX12_rank_35 (by decide) ?_
          refine lv_goto (tgt := 58) S.1 S.2.1 dX12_rank_36 (by decide) ?_
          exact o_iret S hr hlo I f dX12_rank_58
      · have f := (if_neg q3).symm.trans f
        refine lv_iconst (v := 4) S.1 S.2.1 dX12_rank_26 (by decide) ?_
        refine lv_goto (tgt := 58) S.1 S.2.1 dX12_rank_27 (by decide) ?_
        exact o_iret S hr hlo I f dX12_rank_58
    · have f := (if_neg q2).symm.trans f
      refine lv_iconst (v := 5) S.1 S.2.1 dX12_rank_17 (by decide) ?_
      refine lv_goto (tgt := 58) S.1 S.2.1 dX12_rank_18 (by decide) ?_
      exact o_iret S hr hlo I f dX12_rank_58
  · have f := (if_neg q1).symm.trans f
    refine lv_bipush (v := 6) S.1 S.2.1 dX12_rank_6 (by decide) ?_
    refine lv_goto (tgt := 58) S.1 S.2.1 dX12_rank_8 (by decide) ?_
    exact o_iret S hr hlo I f dX12_rank_58
theorem M12_rank (l : Launch) (D : va_G) (cy : Nat → ClassId) (b : Nat) (A : Nat → Prop) (fl : Bool) {h : PH} {x0 : Int32} {out : Int32 × PH} (f : F12_rank h x0 = some out) : Met l yX12_rank vX12_rank ({ frames := 0, cells := 0, slots := 0, locals := 0 } : Room) (va_Pc [.int x0] (ph_B D cy b A fl h)) (va_Qi (fun (r : Int32) (u : PH) => (r, u) = out) (ph_B D cy b A fl) A) 0 0 A :=
  o_met (by decide) rfl (Nat.le_of_ble_eq_true rfl) rfl (fun p e s m below meth c S hr hlo hnm ls hl I => T12_rank_0 S hr hlo (f) I (lv_sub hl [0] rfl))
def vX12_dropHeld : List Cond := .code yX12_dropHeld cX12_dropHeld 1 (some .int) :: TB
theorem lf12_dropHeld_298 : Fl vX12_dropHeld RX12 298 12 47 := ⟨RX12, TX12, 87, rfl, by decide, (fun w h9 => List.mem_cons_of_mem _ (wC_wsX120 w h9)), (List.mem_cons_of_mem _ wT_30_1)⟩
theorem lp12_dropHeld_298 : Pl vX12_dropHeld RX12 298 12 47 .int := ⟨RX12, TX12, 87, tyX12, rfl, by decide, (fun w h9 => List.mem_cons_of_mem _ (wC_wsX120 w h9)), (List.mem_cons_of_mem _ wT_30_1), tyX12_ok, nmX12, rfl, rfl⟩
theorem lf12_dropHeld_78 : Fl vX12_dropHeld RX12 78 12 45 := ⟨RX12, TX12, 87, rfl, by decide, (fun w h9 => List.mem_cons_of_mem _ (wC_wsX120 w h9)), (List.mem_cons_of_mem _ wT_10_19)⟩
theorem cd12_dropHeld : Cd yX12_dropHeld 0 := ⟨by decide, by decide, by decide +kernel⟩
set_option maxHeartbeats 4000000 in
set_option maxRecDepth 100000 in
theorem T12_dropHeld_0 (S : CallFix p m c cX12_dropHeld 1 s args vX12_dropHeld RX12) (hr : meth.sig.returnType = (some .int)) (hlo : meth.locks = false) {out : Int32 × PH} {h : PH} {a0 : Nat} (f : F12_dropHeld_0  h a0 = some out) {H : Heap} {locs : List Loc} (I : ph_I D cy b A fl h s H locs) {ls : Array Slot} (hl : lv_has ls 1 [(0, .ref (b + a0))]) : W p l e ({ frames := 0, cells := 0, slots := 0, locals := 0 } : Room) s m args below meth c H locs 0 0 (MQ below (va_Qi (fun (r : Int32) (u : PH) => (r, u) = out) (ph_B D cy b A fl) A) args s 0 0 A) (F0 m 0 ls []) := by
  unfold F12_dropHeld_0 at f
  refine lv_aload_n S.1 S.2.1 dX12_dropHeld_0 rfl (lv_at hl 0 rfl) ?_
  refine lv_dup S.1 S.2.1 dX12_dropHeld_1 rfl ?_
  obtain ⟨v1, e2, f⟩ := ob f
  refine o_gI S lf12_dropHeld_298 I e2 dX12_dropHeld_2 ?_
  refine lv_iconst (v := 1) S.1 S.2.1 dX12_dropHeld_5 (by decide) ?_
  refine lv_isub S.1 S.2.1 dX12_dropHeld_6 ?_
  obtain ⟨h3, e4, f⟩ := ob f
  refine o_pI S lp12_dropHeld_298 I e4 dX12_dropHeld_7 (fun H locs I => ?_)
  refine lv_aload_n S.1 S.2.1 dX12_dropHeld_10 rfl (lv_at hl 0 rfl) ?_
  obtain ⟨r5, e6, f⟩ := ob f
  refine o_gR S lf12_dropHeld_78 I e6 dX12_dropHeld_11 ?_
  refine lv_aload_n S.1 S.2.1 dX12_dropHeld_14 rfl (lv_at hl 0 rfl) ?_
  obtain ⟨v7, e8, f⟩ := ob f
  refine o_gI S lf12_dropHeld_298 I e8 dX12_dropHeld_15 ?_
  obtain ⟨v10, e9, f⟩ := ob f
  refine o_iald S I e9 dX12_dropHeld_18 ?_
  exact o_iret S hr hlo I f dX12_dropHeld_19
theorem M12_dropHeld (l : Launch) (D : va_G) (cy : Nat → ClassId) (b : Nat) (A : Nat → Prop) (fl : Bool) {h : PH} {a0 : Nat} {out : Int32 × PH} (f : F12_dropHeld h a0 = some out) : Met l yX12_dropHeld vX12_dropHeld ({ frames := 0, cells := 0, slots := 0, locals := 0 } : Room) (va_Pc [.ref (b + a0)] (ph_B D cy b A fl h)) (va_Qi (fun (r : Int32) (u : PH) => (r, u) = out) (ph_B D cy b A fl) A) 0 0 A :=
  o_met (by decide) rfl (Nat.le_of_ble_eq_true rfl) rfl (fun p e s m below meth c S hr hlo hnm ls hl I => T12_dropHeld_0 S hr hlo ((gd f).2) I (lv_sub hl [0] rfl))
def vX12_grown : List Cond := .code yX12_grown cX12_grown 4 none :: TB
theorem lf12_grown_66 : Fl vX12_grown RX12 66 12 40 := ⟨RX12, TX12, 87, rfl, by decide, (fun w h9 => List.mem_cons_of_mem _ (wC_wsX120 w h9)), (List.mem_cons_of_mem _ wT_10_15)⟩
theorem lf12_grown_231 : Fl vX12_grown RX12 231 12 23 := ⟨RX12, TX12, 87, rfl, by decide, (fun w h9 => List.mem_cons_of_mem _ (wC_wsX120 w h9)), (List.mem_cons_of_mem _ wT_12_3)⟩
theorem lf12_grown_69 : Fl vX12_grown RX12 69 12 41 := ⟨RX12, TX12, 87, rfl, by decide, (fun w h9 => List.mem_cons_of_mem _ (wC_wsX120 w h9)), (List.mem_cons_of_mem _ wT_10_16)⟩
theorem lf12_grown_72 : Fl vX12_grown RX12 72 12 42 := ⟨RX12, TX12, 87, rfl, by decide, (fun w h9 => List.mem_cons_of_mem _ (wC_wsX120 w h9)), (List.mem_cons_of_mem _ wT_10_17)⟩
theorem lf12_grown_78 : Fl vX12_grown RX12 78 12 45 := ⟨RX12, TX12, 87, rfl, by decide, (fun w h9 => List.mem_cons_of_mem _ (wC_wsX120 w h9)), (List.mem_cons_of_mem _ wT_10_19)⟩
theorem lf12_grown_298 : Fl vX12_grown RX12 298 12 47 := ⟨RX12, TX12, 87, rfl, by decide, (fun w h9 => List.mem_cons_of_mem _ (wC_wsX120 w h9)), (List.mem_cons_of_mem _ wT_30_1)⟩
theorem lp12_grown_298 : Pl vX12_grown RX12 298 12 47 .int := ⟨RX12, TX12, 87, tyX12, rfl, by decide, (fun w h9 => List.mem_cons_of_mem _ (wC_wsX120 w h9)), (List.mem_cons_of_mem _ wT_30_1), tyX12_ok, nmX12, rfl, rfl⟩
theorem lp12_grown_231 : Pl vX12_grown RX12 231 12 23 .int := ⟨RX12, TX12, 87, tyX12, rfl, by decide, (fun w h9 => List.mem_cons_of_mem _ (wC_wsX120 w h9)), (List.mem_cons_of_mem _ wT_12_3), tyX12_ok, nmX12, rfl, rfl⟩
theorem cd12_grown : Cd yX12_grown 3 := ⟨by decide, by decide, by decide +kernel⟩
set_option maxHeartbeats 4000000 in
set_option maxRecDepth 100000 in
theorem T12_grown_0 (S : CallFix p m c cX12_grown 4 s args vX12_grown RX12) (hr : meth.sig.returnType = none) (hlo : meth.locks = false) {out : PH} {h : PH} {a0 : Nat} {x1 : Int32} {x2 : Int32} {x3 : Int32} (f : F12_grown_0  h a0 x1 x2 x3 = some out) {H : Heap} {locs : List Loc} (I : ph_I D cy b A fl h s H locs) {ls : Array Slot} (hl : lv_has ls 4 [(0, .ref (b + a0)), (1, .int x1), (2, .int x2), (3, .int x3)]) : W p l e ({ frames := 0, cells := 0, slots := 0, locals := 0 } : Room) s m args below meth c H locs 0 0 (MQ below (va_Qv (fun (u : PH) => u = out) (ph_B D cy b A fl) A) args s 0 0 A) (F0 m 0 ls []) := by
  unfold F12_grown_0 at f
  refine lv_aload_n S.1 S.2.1 dX12_grown_0 rfl (lv_at hl 0 rfl) ?_
  obtain ⟨r1, e2, f⟩ := ob f
  refine o_gR S lf12_grown_66 I e2 dX12_grown_1 ?_
  refine lv_bipush (v := 64) S.1 S.2.1 dX12_grown_4 (by decide) ?_
  refine lv_aload_n S.1 S.2.1 dX12_grown_6 rfl (lv_at hl 0 rfl) ?_
  obtain ⟨v3, e4, f⟩ := ob f
  refine o_gI S lf12_grown_231 I e4 dX12_grown_7 ?_
  refine lv_iadd S.1 S.2.1 dX12_grown_10 ?_
  refine lv_iload_n S.1 S.2.1 dX12_grown_11 rfl (lv_at hl 1 rfl) ?_
  obtain ⟨h6, e5, f⟩ := ob f
  refine o_iast S I e5 dX12_grown_12 (fun H locs I => ?_)
  refine lv_aload_n S.1 S.2.1 dX12_grown_13 rfl (lv_at hl 0 rfl) ?_
  obtain ⟨r7, e8, f⟩ := ob f
  refine o_gR S lf12_grown_69 I e8 dX12_grown_14 ?_
  refine lv_bipush (v := 64) S.1 S.2.1 dX12_grown_17 (by decide) ?_
  refine lv_aload_n S.1 S.2.1 dX12_grown_19 rfl (lv_at hl 0 rfl) ?_
  obtain ⟨v9, e10, f⟩ := ob f
  refine o_gI S lf12_grown_231 I e10 dX12_grown_20 ?_
  refine lv_iadd S.1 S.2.1 dX12_grown_23 ?_
  refine lv_iload_n S.1 S.2.1 dX12_grown_24 rfl (lv_at hl 2 rfl) ?_
  obtain ⟨h12, e11, f⟩ := ob f
  refine o_iast S I e11 dX12_grown_25 (fun H locs I => ?_)
  refine lv_aload_n S.1 S.2.1 dX12_grown_26 rfl (lv_at hl 0 rfl) ?_
  obtain ⟨r13, e14, f⟩ := ob f
  refine o_gR S lf12_grown_72 I e14 dX12_grown_27 ?_
  refine lv_bipush (v := 64) S.1 S.2.1 dX12_grown_30 (by decide) ?_
  refine lv_aload_n S.1 S.2.1 dX12_grown_32 rfl (lv_at hl 0 rfl) ?_
  obtain ⟨v15, e16, f⟩ := ob f
  refine o_gI S lf12_grown_231 I e16 dX12_grown_33 ?_
  refine lv_iadd S.1 S.2.1 dX12_grown_36 ?_
  refine lv_iload_n S.1 S.2.1 dX12_grown_37 rfl (lv_at hl 3 rfl) ?_
  obtain ⟨h18, e17, f⟩ := ob f
  refine o_iast S I e17 dX12_grown_38 (fun H locs I => ?_)
  refine lv_aload_n S.1 S.2.1 dX12_grown_39 rfl (lv_at hl 0 rfl) ?_
  obtain ⟨r19, e20, f⟩ := ob f
  refine o_gR S lf12_grown_78 I e20 dX12_grown_40 ?_
  refine lv_aload_n S.1 S.2.1 dX12_grown_43 rfl (lv_at hl 0 rfl) ?_
  obtain ⟨v21, e22, f⟩ := ob f
  refine o_gI S lf12_grown_298 I e22 dX12_grown_44 ?_
  refine lv_aload_n S.1 S.2.1 dX12_grown_47 rfl (lv_at hl 0 rfl) ?_
  obtain ⟨v23, e24, f⟩ := ob f
  refine o_gI S lf12_grown_231 I e24 dX12_grown_48 ?_
  obtain ⟨h26, e25, f⟩ := ob f
  refine o_iast S I e25 dX12_grown_51 (fun H locs I => ?_)
  refine lv_aload_n S.1 S.2.1 dX12_grown_52 rfl (lv_at hl 0 rfl) ?_
  refine lv_dup S.1 S.2.1 dX12_grown_53 rfl ?_
  obtain ⟨v27, e28, f⟩ := ob f
  refine o_gI S lf12_grown_298 I e28 dX12_grown_54 ?_
  refine lv_iconst (v := 1) S.1 S.2.1 dX12_grown_57 (by decide) ?_
  refine lv_iadd S.1 S.2.1 dX12_grown_58 ?_
  obtain ⟨h29, e30, f⟩ := ob f
  refine o_pI S lp12_grown_298 I e30 dX12_grown_59 (fun H locs I => ?_)
  refine lv_aload_n S.1 S.2.1 dX12_grown_62 rfl (lv_at hl 0 rfl) ?_
  refine lv_dup S.1 S.2.1 dX12_grown_63 rfl ?_
  obtain ⟨v31, e32, f⟩ := ob f
  refine o_gI S lf12_grown_231 I e32 dX12_grown_64 ?_
  refine lv_iconst (v := 1) S.1 S.2.1 dX12_grown_67 (by decide) ?_
  refine lv_iadd S.1 S.2.1 dX12_grown_68 ?_
  obtain ⟨h33, e34, f⟩ := ob f
  refine o_pI S lp12_grown_231 I e34 dX12_grown_69 (fun H locs I => ?_)
  exact o_vret S hr hlo I f dX12_grown_72
theorem M12_grown (l : Launch) (D : va_G) (cy : Nat → ClassId) (b : Nat) (A : Nat → Prop) (fl : Bool) {h : PH} {a0 : Nat} {x1 : Int32} {x2 : Int32} {x3 : Int32} {out : PH} (f : F12_grown h a0 x1 x2 x3 = some out) : Met l yX12_grown vX12_grown ({ frames := 0, cells := 0, slots := 0, locals := 0 } : Room) (va_Pc [.ref (b + a0), .int x1, .int x2, .int x3] (ph_B D cy b A fl h)) (va_Qv (fun (u : PH) => u = out) (ph_B D cy b A fl) A) 0 0 A :=
  o_met (by decide) rfl (Nat.le_of_ble_eq_true rfl) rfl (fun p e s m below meth c S hr hlo hnm ls hl I => T12_grown_0 S hr hlo ((gd f).2) I (lv_sub hl [0, 1, 2, 3] rfl))
def vX12_bind : List Cond := .code yX12_bind cX12_bind 5 none :: TB
theorem gX12_bind_X12_dropHeld : GoodIn vX12_bind (wsV RX12 308 RX12 yX12_dropHeld vX12_dropHeld) := gV_of wT_31_20 wT_31_21 wT_31_22 wT_1_5 wT_31_23
theorem gX12_bind_X12_grown : GoodIn vX12_bind (wsV RX12 312 RX12 yX12_grown vX12_grown) := gV_of wT_31_5 wT_31_6 wT_31_7 wT_1_5 wT_31_8
theorem lf12_bind_301 : Fl vX12_bind RX12 301 12 46 := ⟨RX12, TX12, 87, rfl, by decide, (fun w h9 => List.mem_cons_of_mem _ (wC_wsX120 w h9)), (List.mem_cons_of_mem _ wT_30_0)⟩
theorem lf12_bind_75 : Fl vX12_bind RX12 75 12 44 := ⟨RX12, TX12, 87, rfl, by decide, (fun w h9 => List.mem_cons_of_mem _ (wC_wsX120 w h9)), (List.mem_cons_of_mem _ wT_10_18)⟩
theorem gX12_bind_X12_rank : GoodIn vX12_bind (va_wsS RX12 304 yX12_rank vX12_rank) := gS_of wT_31_17 wT_31_18 wT_1_5 wT_31_19
theorem lp12_bind_301 : Pl vX12_bind RX12 301 12 46 .int := ⟨RX12, TX12, 87, tyX12, rfl, by decide, (fun w h9 => List.mem_cons_of_mem _ (wC_wsX120 w h9)), (List.mem_cons_of_mem _ wT_30_0), tyX12_ok, nmX12, rfl, rfl⟩
theorem cd12_bind : Cd yX12_bind 1 := ⟨by decide, by decide, by decide +kernel⟩
set_option maxHeartbeats 4000000 in
set_option maxRecDepth 100000 in
theorem T12_bind_58 (S : CallFix p m c cX12_bind 5 s args vX12_bind RX12) (hr : meth.sig.returnType = none) (hlo : meth.locks = false) {out : PH} {k0 : PH → Nat → Int32 → Option (PH)} (hk0 : ∀ {h : PH} {a0 : Nat} {x1 : Int32}, k0 h a0 x1 = some out → ∀ (H : Heap) (locs : List Loc), ph_I D cy b A fl h s H locs → ∀ (ls : Array Slot), lv_has ls 5 [(0, .ref (b + a0)), (1, .int x1)] → W p l e ({ frames := 1, cells := 0, slots := 0, locals := 23 } : Room) s m args below meth c H locs 0 0 (MQ below (va_Qv (fun (u : PH) => u = out) (ph_B D cy b A fl) A) args s 0 0 A) (F0 m 0 ls [])) {h : PH} {a0 : Nat} {x1 : Int32} {x2 : Int32} {s0 : Int32} (f : F12_bind_58 k0 h a0 x1 x2 s0 = some out) {H : Heap} {locs : List Loc} (I : ph_I D cy b A fl h s H locs) {ls : Array Slot} (hl : lv_has ls 5 [(0, .ref (b + a0)), (1, .int x1), (2, .int x2)]) : W p l e ({ frames := 1, cells := 0, slots := 0, locals := 23 } : Room) s m args below meth c H locs 0 0 (MQ below (va_Qv (fun (u : PH) => u = out) (ph_B D cy b A fl) A) args s 0 0 A) (F0 m 58 ls [.int s0]) := by
  unfold F12_bind_58 at f
  refine lv_istore_n (lv' := [(3, .int s0), (0, .ref (b + a0)), (1, .int x1), (2, .int x2)]) S.1 S.2.1 dX12_bind_58 rfl hl (by decide) rfl (fun ls hl => ?_)
  refine lv_aload_n S.1 S.2.1 dX12_bind_59 rfl (lv_at hl 1 rfl) ?_
  obtain ⟨o1, e2, f⟩ := ob f
  refine o_Vi S (As := []) (rest := []) (ci := 12) (M12_dropHeld l D cy b A fl e2) gX12_bind_X12_dropHeld rfl rfl rfl cd12_dropHeld ⟨Nat.le_of_ble_eq_true rfl, Nat.le_of_ble_eq_true rfl⟩ I (gd e2).1 clX12 rfl rfl hl.1 rfl (Nat.le_of_ble_eq_true rfl) dX12_bind_60 ⟨Nat.le_of_ble_eq_true rfl, Nat.le_of_ble_eq_true rfl⟩ (fun H locs I => ?_)
  refine lv_istore (lv' := [(4, .int o1.1), (3, .int s0), (0, .ref (b + a0)), (1, .int x1), (2, .int x2)]) S.1 S.2.1 dX12_bind_63 hl (by decide) rfl (fun ls hl => ?_)
  refine lv_aload_n S.1 S.2.1 dX12_bind_65 rfl (lv_at hl 2 rfl) ?_
  refine lv_iload_n S.1 S.2.1 dX12_bind_66 rfl (lv_at hl 4 rfl) ?_
  refine lv_iload S.1 S.2.1 dX12_bind_67 (lv_at hl 0 rfl) ?_
  refine lv_iload_n S.1 S.2.1 dX12_bind_69 rfl (lv_at hl 1 rfl) ?_
  obtain ⟨o3, e4, f⟩ := ob f
  refine o_Vv S (As := [.int x2, .int o1.1, .int s0]) (rest := []) (ci := 12) (M12_grown l D cy b A fl e4) gX12_bind_X12_grown rfl rfl rfl cd12_grown ⟨Nat.le_of_ble_eq_true rfl, Nat.le_of_ble_eq_true rfl⟩ I (gd e4).1 clX12 rfl rfl hl.1 rfl (Nat.le_of_ble_eq_true rfl) dX12_bind_70 ⟨Nat.le_of_ble_eq_true rfl, Nat.le_of_ble_eq_true rfl⟩ (fun H locs I => ?_)
  refine lv_goto (tgt := 0) S.1 S.2.1 dX12_bind_73 (by decide) ?_
  exact hk0 f _ _ I _ (lv_sub hl [2, 3] rfl)
set_option maxHeartbeats 4000000 in
set_option maxRecDepth 100000 in
theorem T12_bind_0 (S : CallFix p m c cX12_bind 5 s args vX12_bind RX12) (hr : meth.sig.returnType = none) (hlo : meth.locks = false) {out : PH} : ∀ (n : Nat) {h : PH} {a0 : Nat} {x1 : Int32} (f : F12_bind_0  n h a0 x1 = some out) {H : Heap} {locs : List Loc} (I : ph_I D cy b A fl h s H locs) {ls : Array Slot} (hl : lv_has ls 5 [(0, .ref (b + a0)), (1, .int x1)]), W p l e ({ frames := 1, cells := 0, slots := 0, locals := 23 } : Room) s m args below meth c H locs 0 0 (MQ below (va_Qv (fun (u : PH) => u = out) (ph_B D cy b A fl) A) args s 0 0 A) (F0 m 0 ls []) := by
  intro n
  induction n with
  | zero => intro h a0 x1 f; rw [F12_bind_0] at f; cases f
  | succ n ih =>
    intro h a0 x1 f H locs I ls hl
    rw [F12_bind_0] at f
    refine lv_aload_n S.1 S.2.1 dX12_bind_0 rfl (lv_at hl 0 rfl) ?_
    obtain ⟨v1, e2, f⟩ := ob f
    refine o_gI S lf12_bind_301 I e2 dX12_bind_1 ?_
    refine lv_if_le (tgt := 76) S.1 S.2.1 dX12_bind_4 (by decide) (fun q3 => ?_) (fun q3 => ?_)
    · have f := (if_pos q3).symm.trans f
      exact o_vret S hr hlo I f dX12_bind_76
    · have f := (if_neg q3).symm.trans f
      refine lv_aload_n S.1 S.2.1 dX12_bind_7 rfl (lv_at hl 0 rfl) ?_
      obtain ⟨r4, e5, f⟩ := ob f
      refine o_gR S lf12_bind_75 I e5 dX12_bind_8 ?_
      refine lv_aload_n S.1 S.2.1 dX12_bind_11 rfl (lv_at hl 0 rfl) ?_
      obtain ⟨v6, e7, f⟩ := ob f
      refine o_gI S lf12_bind_301 I e7 dX12_bind_12 ?_
      refine lv_iconst (v := 1) S.1 S.2.1 dX12_bind_15 (by decide) ?_
      refine lv_isub S.1 S.2.1 dX12_bind_16 ?_
      obtain ⟨v9, e8, f⟩ := ob f
      refine o_iald S I e8 dX12_bind_17 ?_
      obtain ⟨o10, e11, f⟩ := ob f
      refine o_Si S (As := [.int v9]) (rest := []) (M12_rank l D cy b A fl e11) gX12_bind_X12_rank rfl rfl rfl cd12_rank ⟨Nat.le_of_ble_eq_true rfl, Nat.le_of_ble_eq_true rfl⟩ I rfl hl.1 rfl (Nat.le_of_ble_eq_true rfl) dX12_bind_18 ⟨Nat.le_of_ble_eq_true rfl, Nat.le_of_ble_eq_true rfl⟩ (fun H locs I => ?_)
      refine lv_iload_n S.1 S.2.1 dX12_bind_21 rfl (lv_at hl 1 rfl) ?_
      refine lv_icmp_lt (tgt := 76) S.1 S.2.1 dX12_bind_22 (by decide) (fun q12 => ?_) (fun q12 => ?_)
      · have f := (if_pos q12).symm.trans f
        exact o_vret S hr hlo I f dX12_bind_76
      · have f := (if_neg q12).symm.trans f
        refine lv_aload_n S.1 S.2.1 dX12_bind_25 rfl (lv_at hl 0 rfl) ?_
        refine lv_dup S.1 S.2.1 dX12_bind_26 rfl ?_
        obtain ⟨v13, e14, f⟩ := ob f
        refine o_gI S lf12_bind_301 I e14 dX12_bind_27 ?_
        refine lv_iconst (v := 1) S.1 S.2.1 dX12_bind_30 (by decide) ?_
        refine lv_isub S.1 S.2.1 dX12_bind_31 ?_
        obtain ⟨h15, e16, f⟩ := ob f
        refine o_pI S lp12_bind_301 I e16 dX12_bind_32 (fun H locs I => ?_)
        refine lv_aload_n S.1 S.2.1 dX12_bind_35 rfl (lv_at hl 0 rfl) ?_
        obtain ⟨r17, e18, f⟩ := ob f
        refine o_gR S lf12_bind_75 I e18 dX12_bind_36 ?_
        refine lv_aload_n S.1 S.2.1 dX12_bind_39 rfl (lv_at hl 0 rfl) ?_
        obtain ⟨v19, e20, f⟩ := ob f
        refine o_gI S lf12_bind_301 I e20 dX12_bind_40 ?_
        obtain ⟨v22, e21, f⟩ := ob f
        refine o_iald S I e21 dX12_bind_43 ?_
        refine lv_istore_n (lv' := [(2, .int v22), (0, .ref (b + a0)), (1, .int x1)]) S.1 S.2.1 dX12_bind_44 rfl hl (by decide) rfl (fun ls hl => ?_)
        refine lv_iload_n S.1 S.2.1 dX12_bind_45 rfl (lv_at hl 0 rfl) ?_
        refine lv_iconst (v := 2) S.1 S.2.1 dX12_bind_46 (by decide) ?_
        refine lv_icmp_ne (tgt := 54) S.1 S.2.1 dX12_bind_47 (by decide) (fun q23 => ?_) (fun q23 => ?_)
        · have f := (if_neg q23).symm.trans f
          refine lv_aload_n S.1 S.2.1 dX12_bind_54 rfl (lv_at hl 1 rfl) ?_
          obtain ⟨o24, e25, f⟩ := ob f
          refine o_Vi S (As := []) (rest := []) (ci := 12) (M12_dropHeld l D cy b A fl e25) gX12_bind_X12_dropHeld rfl rfl rfl cd12_dropHeld ⟨Nat.le_of_ble_eq_true rfl, Nat.le_of_ble_eq_true rfl⟩ I (gd e25).1 clX12 rfl rfl hl.1 rfl (Nat.le_of_ble_eq_true rfl) dX12_bind_55 ⟨Nat.le_of_ble_eq_true rfl, Nat.le_of_ble_eq_true rfl⟩ (fun H locs I => ?_)
          exact T12_bind_58 S hr hlo (fun f _ _ I _ hl => ih f I hl) f I (lv_sub hl [1, 2, 0] rfl)
        · have f := (if_pos q23).symm.trans f
          refine lv_iconst (v := (-1)) S.1 S.2.1 dX12_bind_50 (by decide) ?_
          refine lv_goto (tgt := 58) S.1 S.2.1 dX12_bind_51 (by decide) ?_
          exact T12_bind_58 S hr hlo (fun f _ _ I _ hl => ih f I hl) f I (lv_sub hl [1, 2, 0] rfl)
theorem M12_bind (l : Launch) (D : va_G) (cy : Nat → ClassId) (b : Nat) (A : Nat → Prop) (fl : Bool) {h : PH} {a0 : Nat} {x1 : Int32} {out : PH} (f : F12_bind h a0 x1 = some out) : Met l yX12_bind vX12_bind ({ frames := 1, cells := 0, slots := 0, locals := 23 } : Room) (va_Pc [.ref (b + a0), .int x1] (ph_B D cy b A fl h)) (va_Qv (fun (u : PH) => u = out) (ph_B D cy b A fl) A) 0 0 A :=
  o_met (by decide) rfl (Nat.le_of_ble_eq_true rfl) rfl (fun p e s m below meth c S hr hlo hnm ls hl I => T12_bind_0 S hr hlo 1024 ((gd f).2) I (lv_sub hl [0, 1] rfl))
def vX12_cellRead : List Cond := .code yX12_cellRead cX12_cellRead 1 (some .boolean) :: TB
theorem lp12_cellRead_237 : Pl vX12_cellRead RX12 237 12 24 .boolean := ⟨RX12, TX12, 87, tyX12, rfl, by decide, (fun w h9 => List.mem_cons_of_mem _ (wC_wsX120 w h9)), (List.mem_cons_of_mem _ wT_12_5), tyX12_ok, nmX12, rfl, rfl⟩
theorem lf12_cellRead_216 : Fl vX12_cellRead RX12 216 12 18 := ⟨RX12, TX12, 87, rfl, by decide, (fun w h9 => List.mem_cons_of_mem _ (wC_wsX120 w h9)), (List.mem_cons_of_mem _ wT_11_22)⟩
theorem gX12_cellRead_X12_number : GoodIn vX12_cellRead (wsV RX12 212 RX12 yX12_number vX12_number) := gV_of wT_28_13 wT_28_14 wT_28_15 wT_1_5 wT_28_16
theorem lf12_cellRead_203 : Fl vX12_cellRead RX12 203 12 11 := ⟨RX12, TX12, 87, rfl, by decide, (fun w h9 => List.mem_cons_of_mem _ (wC_wsX120 w h9)), (List.mem_cons_of_mem _ wT_28_12)⟩
theorem lp12_cellRead_266 : Pl vX12_cellRead RX12 266 12 43 .int := ⟨RX12, TX12, 87, tyX12, rfl, by decide, (fun w h9 => List.mem_cons_of_mem _ (wC_wsX120 w h9)), (List.mem_cons_of_mem _ wT_29_0), tyX12_ok, nmX12, rfl, rfl⟩
theorem lf12_cellRead_219 : Fl vX12_cellRead RX12 219 12 19 := ⟨RX12, TX12, 87, rfl, by decide, (fun w h9 => List.mem_cons_of_mem _ (wC_wsX120 w h9)), (List.mem_cons_of_mem _ wT_11_23)⟩
theorem cd12_cellRead : Cd yX12_cellRead 0 := ⟨by decide, by decide, by decide +kernel⟩
set_option maxHeartbeats 4000000 in
set_option maxRecDepth 100000 in
theorem T12_cellRead_0 (S : CallFix p m c cX12_cellRead 1 s args vX12_cellRead RX12) (hr : meth.sig.returnType = (some .boolean)) (hlo : meth.locks = false) {out : Int32 × PH} {h : PH} {a0 : Nat} (f : F12_cellRead_0  h a0 = some out) {H : Heap} {locs : List Loc} (I : ph_I D cy b A fl h s H locs) {ls : Array Slot} (hl : lv_has ls 1 [(0, .ref (b + a0))]) : W p l e ({ frames := 3, cells := 0, slots := 0, locals := 69 } : Room) s m args below meth c H locs 0 0 (MQ below (va_Qi (fun (r : Int32) (u : PH) => (r, u) = out) (ph_B D cy b A fl) A) args s 0 0 A) (F0 m 0 ls []) := by
  unfold F12_cellRead_0 at f
  refine lv_aload_n S.1 S.2.1 dX12_cellRead_0 rfl (lv_at hl 0 rfl) ?_
  refine lv_iconst (v := 1) S.1 S.2.1 dX12_cellRead_1 (by decide) ?_
  obtain ⟨h1, e2, f⟩ := ob f
  refine o_pZ S lp12_cellRead_237 I e2 dX12_cellRead_2 (fun H locs I => ?_)
  refine lv_aload_n S.1 S.2.1 dX12_cellRead_5 rfl (lv_at hl 0 rfl) ?_
  refine lv_iconst (v := 0) S.1 S.2.1 dX12_cellRead_6 (by decide) ?_
  refine lv_aload_n S.1 S.2.1 dX12_cellRead_7 rfl (lv_at hl 0 rfl) ?_
  obtain ⟨v3, e4, f⟩ := ob f
  refine o_gI S lf12_cellRead_216 I e4 dX12_cellRead_8 ?_
  refine lv_iconst (v := 1) S.1 S.2.1 dX12_cellRead_11 (by decide) ?_
  refine lv_isub S.1 S.2.1 dX12_cellRead_12 ?_
  obtain ⟨o5, e6, f⟩ := ob f
  refine o_Vi S (As := [.int 0, .int (v3 - 1)]) (rest := []) (ci := 12) (M12_number l D cy b A fl e6) gX12_cellRead_X12_number rfl rfl rfl cd12_number ⟨Nat.le_of_ble_eq_true rfl, Nat.le_of_ble_eq_true rfl⟩ I (gd e6).1 clX12 rfl rfl hl.1 rfl (Nat.le_of_ble_eq_true rfl) dX12_cellRead_13 ⟨Nat.le_of_ble_eq_true rfl, Nat.le_of_ble_eq_true rfl⟩ (fun H locs I => ?_)
  refine lv_if_ne (tgt := 21) S.1 S.2.1 dX12_cellRead_16 (by decide) (fun q7 => ?_) (fun q7 => ?_)
  · have f := (if_neg q7).symm.trans f
    refine lv_aload_n S.1 S.2.1 dX12_cellRead_21 rfl (lv_at hl 0 rfl) ?_
    refine lv_aload_n S.1 S.2.1 dX12_cellRead_22 rfl (lv_at hl 0 rfl) ?_
    obtain ⟨v8, e9, f⟩ := ob f
    refine o_gI S lf12_cellRead_203 I e9 dX12_cellRead_23 ?_
    obtain ⟨h10, e11, f⟩ := ob f
    refine o_pI S lp12_cellRead_266 I e11 dX12_cellRead_26 (fun H locs I => ?_)
    refine lv_aload_n S.1 S.2.1 dX12_cellRead_29 rfl (lv_at hl 0 rfl) ?_
    refine lv_iconst (v := 0) S.1 S.2.1 dX12_cellRead_30 (by decide) ?_
    refine lv_aload_n S.1 S.2.1 dX12_cellRead_31 rfl (lv_at hl 0 rfl) ?_
    obtain ⟨v12, e13, f⟩ := ob f
    refine o_gI S lf12_cellRead_219 I e13 dX12_cellRead_32 ?_
    refine lv_iconst (v := 1) S.1 S.2.1 dX12_cellRead_35 (by decide) ?_
    refine lv_isub S.1 S.2.1 dX12_cellRead_36 ?_
    obtain ⟨o14, e15, f⟩ := ob f
    refine o_Vi S (As := [.int 0, .int (v12 - 1)]) (rest := []) (ci := 12) (M12_number l D cy b A fl e15) gX12_cellRead_X12_number rfl rfl rfl cd12_number ⟨Nat.le_of_ble_eq_true rfl, Nat.le_of_ble_eq_true rfl⟩ I (gd e15).1 clX12 rfl rfl hl.1 rfl (Nat.le_of_ble_eq_true rfl) dX12_cellRead_37 ⟨Nat.le_of_ble_eq_true rfl, Nat.le_of_ble_eq_true rfl⟩ (fun H locs I => ?_)
    refine lv_if_ne (tgt := 45) S.1 S.2.1 dX12_cellRead_40 (by decide) (fun q16 => ?_) (fun q16 => ?_)
    · have f := (if_neg q16).symm.trans f
      refine lv_iconst (v := 1) S.1 S.2.1 dX12_cellRead_45 (by decide) ?_
      exact o_zret S hr hlo I f dX12_cellRead_46
    · have f := (if_pos q16).symm.trans f
      refine lv_iconst (v := 0) S.1 S.2.1 dX12_cellRead_43 (by decide) ?_
      exact o_zret S hr hlo I f dX12_cellRead_44
  · have f := (if_pos q7).symm.trans f
    refine lv_iconst (v := 0) S.1 S.2.1 dX12_cellRead_19 (by decide) ?_
    exact o_zret S hr hlo I f dX12_cellRead_20
theorem M12_cellRead (l : Launch) (D : va_G) (cy : Nat → ClassId) (b : Nat) (A : Nat → Prop) (fl : Bool) {h : PH} {a0 : Nat} {out : Int32 × PH} (f : F12_cellRead h a0 = some out) : Met l yX12_cellRead vX12_cellRead ({ frames := 3, cells := 0, slots := 0, locals := 69 } : Room) (va_Pc [.ref (b + a0)] (ph_B D cy b A fl h)) (va_Qi (fun (r : Int32) (u : PH) => (r, u) = out) (ph_B D cy b A fl) A) 0 0 A :=
  o_met (by decide) rfl (Nat.le_of_ble_eq_true rfl) rfl (fun p e s m below meth c S hr hlo hnm ls hl I => T12_cellRead_0 S hr hlo ((gd f).2) I (lv_sub hl [0] rfl))
def vX12_layTried : List Cond := .code yX12_layTried cX12_layTried 2 none :: TB
theorem lf12_layTried_106 : Fl vX12_layTried RX12 106 12 61 := ⟨RX12, TX12, 87, rfl, by decide, (fun w h9 => List.mem_cons_of_mem _ (wC_wsX120 w h9)), (List.mem_cons_of_mem _ wT_11_4)⟩
theorem lf12_layTried_109 : Fl vX12_layTried RX12 109 12 62 := ⟨RX12, TX12, 87, rfl, by decide, (fun w h9 => List.mem_cons_of_mem _ (wC_wsX120 w h9)), (List.mem_cons_of_mem _ wT_11_5)⟩
theorem lf12_layTried_112 : Fl vX12_layTried RX12 112 12 63 := ⟨RX12, TX12, 87, rfl, by decide, (fun w h9 => List.mem_cons_of_mem _ (wC_wsX120 w h9)), (List.mem_cons_of_mem _ wT_11_6)⟩
theorem lf12_layTried_103 : Fl vX12_layTried RX12 103 12 60 := ⟨RX12, TX12, 87, rfl, by decide, (fun w h9 => List.mem_cons_of_mem _ (wC_wsX120 w h9)), (List.mem_cons_of_mem _ wT_11_3)⟩
theorem lf12_layTried_88 : Fl vX12_layTried RX12 88 12 55 := ⟨RX12, TX12, 87, rfl, by decide, (fun w h9 => List.mem_cons_of_mem _ (wC_wsX120 w h9)), (List.mem_cons_of_mem _ wT_10_22)⟩
theorem lf12_layTried_91 : Fl vX12_layTried RX12 91 12 56 := ⟨RX12, TX12, 87, rfl, by decide, (fun w h9 => List.mem_cons_of_mem _ (wC_wsX120 w h9)), (List.mem_cons_of_mem _ wT_10_23)⟩
theorem lf12_layTried_94 : Fl vX12_layTried RX12 94 12 57 := ⟨RX12, TX12, 87, rfl, by decide, (fun w h9 => List.mem_cons_of_mem _ (wC_wsX120 w h9)), (List.mem_cons_of_mem _ wT_11_0)⟩
theorem lf12_layTried_97 : Fl vX12_layTried RX12 97 12 58 := ⟨RX12, TX12, 87, rfl, by decide, (fun w h9 => List.mem_cons_of_mem _ (wC_wsX120 w h9)), (List.mem_cons_of_mem _ wT_11_1)⟩
theorem cd12_layTried : Cd yX12_layTried 0 := ⟨by decide, by decide, by decide +kernel⟩
set_option maxHeartbeats 4000000 in
set_option maxRecDepth 100000 in
theorem T12_layTried_71 (S : CallFix p m c cX12_layTried 2 s args vX12_layTried RX12) (hr : meth.sig.returnType = none) (hlo : meth.locks = false) {out : PH} : ∀ (n : Nat) {h : PH} {a0 : Nat} {x1 : Int32} (f : F12_layTried_71  n h a0 x1 = some out) {H : Heap} {locs : List Loc} (I : ph_I D cy b A fl h s H locs) {ls : Array Slot} (hl : lv_has ls 2 [(0, .ref (b + a0)), (1, .int x1)]), W p l e ({ frames := 0, cells := 0, slots := 0, locals := 0 } : Room) s m args below meth c H locs 0 0 (MQ below (va_Qv (fun (u : PH) => u = out) (ph_B D cy b A fl) A) args s 0 0 A) (F0 m 71 ls []) := by
  intro n
  induction n with
  | zero => intro h a0 x1 f; rw [F12_layTried_71] at f; cases f
  | succ n ih =>
    intro h a0 x1 f H locs I ls hl
    rw [F12_layTried_71] at f
    refine lv_iload_n S.1 S.2.1 dX12_layTried_71 rfl (lv_at hl 1 rfl) ?_
    refine lv_bipush (v := 28) S.1 S.2.1 dX12_layTried_72 (by decide) ?_
    refine lv_icmp_ge (tgt := 98) S.1 S.2.1 dX12_layTried_74 (by decide) (fun q1 => ?_) (fun q1 => ?_)
    · have f := (if_pos q1).symm.trans f
      refine lv_aload_n S.1 S.2.1 dX12_layTried_98 rfl (lv_at hl 0 rfl) ?_
      obtain ⟨r2, e3, f⟩ := ob f
      refine o_gR S lf12_layTried_106 I e3 dX12_layTried_99 ?_
      refine lv_iconst (v := 1) S.1 S.2.1 dX12_layTried_102 (by decide) ?_
      refine lv_aload_n S.1 S.2.1 dX12_layTried_103 rfl (lv_at hl 0 rfl) ?_
      obtain ⟨r4, e5, f⟩ := ob f
      refine o_gR S lf12_layTried_106 I e5 dX12_layTried_104 ?_
      refine lv_iconst (v := 0) S.1 S.2.1 dX12_layTried_107 (by decide) ?_
      obtain ⟨v7, e6, f⟩ := ob f
      refine o_iald S I e6 dX12_layTried_108 ?_
      obtain ⟨h9, e8, f⟩ := ob f
      refine o_iast S I e8 dX12_layTried_109 (fun H locs I => ?_)
      refine lv_aload_n S.1 S.2.1 dX12_layTried_110 rfl (lv_at hl 0 rfl) ?_
      obtain ⟨r10, e11, f⟩ := ob f
      refine o_gR S lf12_layTried_109 I e11 dX12_layTried_111 ?_
      refine lv_iconst (v := 1) S.1 S.2.1 dX12_layTried_114 (by decide) ?_
      refine lv_iconst (v := 0) S.1 S.2.1 dX12_layTried_115 (by decide) ?_
      obtain ⟨h13, e12, f⟩ := ob f
      refine o_iast S I e12 dX12_layTried_116 (fun H locs I => ?_)
      refine lv_aload_n S.1 S.2.1 dX12_layTried_117 rfl (lv_at hl 0 rfl) ?_
      obtain ⟨r14, e15, f⟩ := ob f
      refine o_gR S lf12_layTried_112 I e15 dX12_layTried_118 ?_
      refine lv_iconst (v := 1) S.1 S.2.1 dX12_layTried_121 (by decide) ?_
      refine lv_iconst (v := 0) S.1 S.2.1 dX12_layTried_122 (by decide) ?_
      obtain ⟨h17, e16, f⟩ := ob f
      refine o_iast S I e16 dX12_layTried_123 (fun H locs I => ?_)
      exact o_vret S hr hlo I f dX12_layTried_124
    · have f := (if_neg q1).symm.trans f
      refine lv_aload_n S.1 S.2.1 dX12_layTried_77 rfl (lv_at hl 0 rfl) ?_
      obtain ⟨r18, e19, f⟩ := ob f
      refine o_gR S lf12_layTried_103 I e19 dX12_layTried_78 ?_
      refine lv_bipush (v := 28) S.1 S.2.1 dX12_layTried_81 (by decide) ?_
      refine lv_iload_n S.1 S.2.1 dX12_layTried_83 rfl (lv_at hl 1 rfl) ?_
      refine lv_iadd S.1 S.2.1 dX12_layTried_84 ?_
      refine lv_aload_n S.1 S.2.1 dX12_layTried_85 rfl (lv_at hl 0 rfl) ?_
      obtain ⟨r20, e21, f⟩ := ob f
      refine o_gR S lf12_layTried_103 I e21 dX12_layTried_86 ?_
      refine lv_iload_n S.1 S.2.1 dX12_layTried_89 rfl (lv_at hl 1 rfl) ?_
      obtain ⟨v23, e22, f⟩ := ob f
      refine o_iald S I e22 dX12_layTried_90 ?_
      obtain ⟨h25, e24, f⟩ := ob f
      refine o_iast S I e24 dX12_layTried_91 (fun H locs I => ?_)
      refine lv_iinc (v := (x1 + 1)) (lv' := [(1, .int (x1 + 1)), (0, .ref (b + a0))]) S.1 S.2.1 dX12_layTried_92 hl (k := 1) rfl (congrArg (fun z => x1 + z) (by decide)) (by decide) rfl (fun ls hl => ?_)
      refine lv_goto (tgt := 71) S.1 S.2.1 dX12_layTried_95 (by decide) ?_
      exact ih f I (lv_sub hl [1, 0] rfl)
set_option maxHeartbeats 4000000 in
set_option maxRecDepth 100000 in
theorem T12_layTried_2 (S : CallFix p m c cX12_layTried 2 s args vX12_layTried RX12) (hr : meth.sig.returnType = none) (hlo : meth.locks = false) {out : PH} : ∀ (n : Nat) {h : PH} {a0 : Nat} {x1 : Int32} (f : F12_layTried_2  n h a0 x1 = some out) {H : Heap} {locs : List Loc} (I : ph_I D cy b A fl h s H locs) {ls : Array Slot} (hl : lv_has ls 2 [(0, .ref (b + a0)), (1, .int x1)]), W p l e ({ frames := 0, cells := 0, slots := 0, locals := 0 } : Room) s m args below meth c H locs 0 0 (MQ below (va_Qv (fun (u : PH) => u = out) (ph_B D cy b A fl) A) args s 0 0 A) (F0 m 2 ls []) := by
  intro n
  induction n with
  | zero => intro h a0 x1 f; rw [F12_layTried_2] at f; cases f
  | succ n ih =>
    intro h a0 x1 f H locs I ls hl
    rw [F12_layTried_2] at f
    refine lv_iload_n S.1 S.2.1 dX12_layTried_2 rfl (lv_at hl 1 rfl) ?_
    refine lv_iconst (v := 5) S.1 S.2.1 dX12_layTried_3 (by decide) ?_
    refine lv_icmp_ge (tgt := 69) S.1 S.2.1 dX12_layTried_4 (by decide) (fun q1 => ?_) (fun q1 => ?_)
    · have f := (if_pos q1).symm.trans f
      refine lv_iconst (v := 0) S.1 S.2.1 dX12_layTried_69 (by decide) ?_
      refine lv_istore_n (lv' := [(1, .int 0), (0, .ref (b + a0))]) S.1 S.2.1 dX12_layTried_70 rfl hl (by decide) rfl (fun ls hl => ?_)
      exact T12_layTried_71 S hr hlo  1024 f I (lv_sub hl [1, 0] rfl)
    · have f := (if_neg q1).symm.trans f
      refine lv_aload_n S.1 S.2.1 dX12_layTried_7 rfl (lv_at hl 0 rfl) ?_
      obtain ⟨r2, e3, f⟩ := ob f
      refine o_gR S lf12_layTried_88 I e3 dX12_layTried_8 ?_
      refine lv_iconst (v := 5) S.1 S.2.1 dX12_layTried_11 (by decide) ?_
      refine lv_iload_n S.1 S.2.1 dX12_layTried_12 rfl (lv_at hl 1 rfl) ?_
      refine lv_iadd S.1 S.2.1 dX12_layTried_13 ?_
      refine lv_aload_n S.1 S.2.1 dX12_layTried_14 rfl (lv_at hl 0 rfl) ?_
      obtain ⟨r4, e5, f⟩ := ob f
      refine o_gR S lf12_layTried_88 I e5 dX12_layTried_15 ?_
      refine lv_iload_n S.1 S.2.1 dX12_layTried_18 rfl (lv_at hl 1 rfl) ?_
      obtain ⟨v7, e6, f⟩ := ob f
      refine o_iald S I e6 dX12_layTried_19 ?_
      obtain ⟨h9, e8, f⟩ := ob f
      refine o_iast S I e8 dX12_layTried_20 (fun H locs I => ?_)
      refine lv_aload_n S.1 S.2.1 dX12_layTried_21 rfl (lv_at hl 0 rfl) ?_
      obtain ⟨r10, e11, f⟩ := ob f
      refine o_gR S lf12_layTried_91 I e11 dX12_layTried_22 ?_
      refine lv_iconst (v := 5) S.1 S.2.1 dX12_layTried_25 (by decide) ?_
      refine lv_iload_n S.1 S.2.1 dX12_layTried_26 rfl (lv_at hl 1 rfl) ?_
      refine lv_iadd S.1 S.2.1 dX12_layTried_27 ?_
      refine lv_aload_n S.1 S.2.1 dX12_layTried_28 rfl (lv_at hl 0 rfl) ?_
      obtain ⟨r12, e13, f⟩ := ob f
      refine o_gR S lf12_layTried_91 I e13 dX12_layTried_29 ?_
      refine lv_iload_n S.1 S.2.1 dX12_layTried_32 rfl (lv_at hl 1 rfl) ?_
      obtain ⟨v15, e14, f⟩ := ob f
      refine o_iald S I e14 dX12_layTried_33 ?_
      obtain ⟨h17, e16, f⟩ := ob f
      refine o_iast S I e16 dX12_layTried_34 (fun H locs I => ?_)
      refine lv_aload_n S.1 S.2.1 dX12_layTried_35 rfl (lv_at hl 0 rfl) ?_
      obtain ⟨r18, e19, f⟩ := ob f
      refine o_gR S lf12_layTried_94 I e19 dX12_layTried_36 ?_
      refine lv_iconst (v := 5) S.1 S.2.1 dX12_layTried_39 (by decide) ?_
      refine lv_iload_n S.1 S.2.1 dX12_layTried_40 rfl (lv_at hl 1 rfl) ?_
      refine lv_iadd S.1 S.2.1 dX12_layTried_41 ?_
      refine lv_aload_n S.1 S.2.1 dX12_layTried_42 rfl (lv_at hl 0 rfl) ?_
      obtain ⟨r20, e21, f⟩ := ob f
      refine o_gR S lf12_layTried_94 I e21 dX12_layTried_43 ?_
      refine lv_iload_n S.1 S.2.1 dX12_layTried_46 rfl (lv_at hl 1 rfl) ?_
      obtain ⟨v23, e22, f⟩ := ob f
      refine o_iald S I e22 dX12_layTried_47 ?_
      obtain ⟨h25, e24, f⟩ := ob f
      refine o_iast S I e24 dX12_layTried_48 (fun H locs I => ?_)
      refine lv_aload_n S.1 S.2.1 dX12_layTried_49 rfl (lv_at hl 0 rfl) ?_
      obtain ⟨r26, e27, f⟩ := ob f
      refine o_gR S lf12_layTried_97 I e27 dX12_layTried_50 ?_
      refine lv_iconst (v := 5) S.1 S.2.1 dX12_layTried_53 (by decide) ?_
      refine lv_iload_n S.1 S.2.1 dX12_layTried_54 rfl (lv_at hl 1 rfl) ?_
      refine lv_iadd S.1 S.2.1 dX12_layTried_55 ?_
      refine lv_aload_n S.1 S.2.1 dX12_layTried_56 rfl (lv_at hl 0 rfl) ?_
      obtain ⟨r28, e29, f⟩ := ob f
      refine o_gR S lf12_layTried_97 I e29 dX12_layTried_57 ?_
      refine lv_iload_n S.1 S.2.1 dX12_layTried_60 rfl (lv_at hl 1 rfl) ?_
      obtain ⟨v31, e30, f⟩ := ob f
      refine o_iald S I e30 dX12_layTried_61 ?_
      obtain ⟨h33, e32, f⟩ := ob f
      refine o_iast S I e32 dX12_layTried_62 (fun H locs I => ?_)
      refine lv_iinc (v := (x1 + 1)) (lv' := [(1, .int (x1 + 1)), (0, .ref (b + a0))]) S.1 S.2.1 dX12_layTried_63 hl (k := 1) rfl (congrArg (fun z => x1 + z) (by decide)) (by decide) rfl (fun ls hl => ?_)
      refine lv_goto (tgt := 2) S.1 S.2.1 dX12_layTried_66 (by decide) ?_
      exact ih f I (lv_sub hl [1, 0] rfl)
set_option maxHeartbeats 4000000 in
set_option maxRecDepth 100000 in
theorem T12_layTried_0 (S : CallFix p m c cX12_layTried 2 s args vX12_layTried RX12) (hr : meth.sig.returnType = none) (hlo : meth.locks = false) {out : PH} {h : PH} {a0 : Nat} (f : F12_layTried_0  h a0 = some out) {H : Heap} {locs : List Loc} (I : ph_I D cy b A fl h s H locs) {ls : Array Slot} (hl : lv_has ls 2 [(0, .ref (b + a0))]) : W p l e ({ frames := 0, cells := 0, slots := 0, locals := 0 } : Room) s m args below meth c H locs 0 0 (MQ below (va_Qv (fun (u : PH) => u = out) (ph_B D cy b A fl) A) args s 0 0 A) (F0 m 0 ls []) := by
  unfold F12_layTried_0 at f
  refine lv_iconst (v := 0) S.1 S.2.1 dX12_layTried_0 (by decide) ?_
  refine lv_istore_n (lv' := [(1, .int 0), (0, .ref (b + a0))]) S.1 S.2.1 dX12_layTried_1 rfl hl (by decide) rfl (fun ls hl => ?_)
  exact T12_layTried_2 S hr hlo  1024 f I (lv_sub hl [1, 0] rfl)
theorem M12_layTried (l : Launch) (D : va_G) (cy : Nat → ClassId) (b : Nat) (A : Nat → Prop) (fl : Bool) {h : PH} {a0 : Nat} {out : PH} (f : F12_layTried h a0 = some out) : Met l yX12_layTried vX12_layTried ({ frames := 0, cells := 0, slots := 0, locals := 0 } : Room) (va_Pc [.ref (b + a0)] (ph_B D cy b A fl h)) (va_Qv (fun (u : PH) => u = out) (ph_B D cy b A fl) A) 0 0 A :=
  o_met (by decide) rfl (Nat.le_of_ble_eq_true rfl) rfl (fun p e s m below meth c S hr hlo hnm ls hl I => T12_layTried_0 S hr hlo ((gd f).2) I (lv_sub hl [0] rfl))
def vX12_goesOn : List Cond := .code yX12_goesOn cX12_goesOn 2 none :: TB
theorem lf12_goesOn_253 : Fl vX12_goesOn RX12 253 12 16 := ⟨RX12, TX12, 87, rfl, by decide, (fun w h9 => List.mem_cons_of_mem _ (wC_wsX120 w h9)), (List.mem_cons_of_mem _ wT_12_14)⟩
theorem lf12_goesOn_106 : Fl vX12_goesOn RX12 106 12 61 := ⟨RX12, TX12, 87, rfl, by decide, (fun w h9 => List.mem_cons_of_mem _ (wC_wsX120 w h9)), (List.mem_cons_of_mem _ wT_11_4)⟩
theorem lf12_goesOn_48 : Fl vX12_goesOn RX12 48 12 34 := ⟨RX12, TX12, 87, rfl, by decide, (fun w h9 => List.mem_cons_of_mem _ (wC_wsX120 w h9)), (List.mem_cons_of_mem _ wT_10_9)⟩
theorem gX12_goesOn_X12_aMinute : GoodIn vX12_goesOn (wsV RX12 472 RX12 yX12_aMinute vX12_aMinute) := gV_of wT_46_13 wT_46_14 wT_46_15 wT_1_5 wT_46_16
theorem cd12_goesOn : Cd yX12_goesOn 1 := ⟨by decide, by decide, by decide +kernel⟩
set_option maxHeartbeats 4000000 in
set_option maxRecDepth 100000 in
theorem T12_goesOn_0 (S : CallFix p m c cX12_goesOn 2 s args vX12_goesOn RX12) (hr : meth.sig.returnType = none) (hlo : meth.locks = false) {out : PH} : ∀ (n : Nat) {h : PH} {a0 : Nat} {x1 : Int32} (f : F12_goesOn_0  n h a0 x1 = some out) {H : Heap} {locs : List Loc} (I : ph_I D cy b A fl h s H locs) {ls : Array Slot} (hl : lv_has ls 2 [(0, .ref (b + a0)), (1, .int x1)]), W p l e ({ frames := 11, cells := 0, slots := 0, locals := 268 } : Room) s m args below meth c H locs 0 0 (MQ below (va_Qv (fun (u : PH) => u = out) (ph_B D cy b A fl) A) args s 0 0 A) (F0 m 0 ls []) := by
  intro n
  induction n with
  | zero => intro h a0 x1 f; rw [F12_goesOn_0] at f; cases f
  | succ n ih =>
    intro h a0 x1 f H locs I ls hl
    rw [F12_goesOn_0] at f
    refine lv_aload_n S.1 S.2.1 dX12_goesOn_0 rfl (lv_at hl 0 rfl) ?_
    obtain ⟨v1, e2, f⟩ := ob f
    refine o_gI S lf12_goesOn_253 I e2 dX12_goesOn_1 ?_
    refine lv_if_le (tgt := 36) S.1 S.2.1 dX12_goesOn_4 (by decide) (fun q3 => ?_) (fun q3 => ?_)
    · have f := (if_pos q3).symm.trans f
      exact o_vret S hr hlo I f dX12_goesOn_36
    · have f := (if_neg q3).symm.trans f
      refine lv_aload_n S.1 S.2.1 dX12_goesOn_7 rfl (lv_at hl 0 rfl) ?_
      obtain ⟨r4, e5, f⟩ := ob f
      refine o_gR S lf12_goesOn_106 I e5 dX12_goesOn_8 ?_
      refine lv_iconst (v := 1) S.1 S.2.1 dX12_goesOn_11 (by decide) ?_
      obtain ⟨v7, e6, f⟩ := ob f
      refine o_iald S I e6 dX12_goesOn_12 ?_
      refine lv_aload_n S.1 S.2.1 dX12_goesOn_13 rfl (lv_at hl 0 rfl) ?_
      obtain ⟨r8, e9, f⟩ := ob f
      refine o_gR S lf12_goesOn_48 I e9 dX12_goesOn_14 ?_
      refine lv_aload_n S.1 S.2.1 dX12_goesOn_17 rfl (lv_at hl 0 rfl) ?_
      obtain ⟨v10, e11, f⟩ := ob f
      refine o_gI S lf12_goesOn_253 I e11 dX12_goesOn_18 ?_
      refine lv_iconst (v := 1) S.1 S.2.1 dX12_goesOn_21 (by decide) ?_
      refine lv_isub S.1 S.2.1 dX12_goesOn_22 ?_
      obtain ⟨v13, e12, f⟩ := ob f
      refine o_iald S I e12 dX12_goesOn_23 ?_
      refine lv_icmp_gt (tgt := 36) S.1 S.2.1 dX12_goesOn_24 (by decide) (fun q14 => ?_) (fun q14 => ?_)
      · have f := (if_pos q14).symm.trans f
        exact o_vret S hr hlo I f dX12_goesOn_36
      · have f := (if_neg q14).symm.trans f
        refine lv_aload_n S.1 S.2.1 dX12_goesOn_27 rfl (lv_at hl 0 rfl) ?_
        refine lv_iconst (v := 1) S.1 S.2.1 dX12_goesOn_28 (by decide) ?_
        refine lv_iload_n S.1 S.2.1 dX12_goesOn_29 rfl (lv_at hl 1 rfl) ?_
        obtain ⟨o15, e16, f⟩ := ob f
        refine o_Vv S (As := [.int 1, .int x1]) (rest := []) (ci := 12) (M12_aMinute l D cy b A fl e16) gX12_goesOn_X12_aMinute rfl rfl rfl cd12_aMinute ⟨Nat.le_of_ble_eq_true rfl, Nat.le_of_ble_eq_true rfl⟩ I (gd e16).1 clX12 rfl rfl hl.1 rfl (Nat.le_of_ble_eq_true rfl) dX12_goesOn_30 ⟨Nat.le_of_ble_eq_true rfl, Nat.le_of_ble_eq_true rfl⟩ (fun H locs I => ?_)
        refine lv_goto (tgt := 0) S.1 S.2.1 dX12_goesOn_33 (by decide) ?_
        exact ih f I (lv_sub hl [0, 1] rfl)
theorem M12_goesOn (l : Launch) (D : va_G) (cy : Nat → ClassId) (b : Nat) (A : Nat → Prop) (fl : Bool) {h : PH} {a0 : Nat} {x1 : Int32} {out : PH} (f : F12_goesOn h a0 x1 = some out) : Met l yX12_goesOn vX12_goesOn ({ frames := 11, cells := 0, slots := 0, locals := 268 } : Room) (va_Pc [.ref (b + a0), .int x1] (ph_B D cy b A fl h)) (va_Qv (fun (u : PH) => u = out) (ph_B D cy b A fl) A) 0 0 A :=
  o_met (by decide) rfl (Nat.le_of_ble_eq_true rfl) rfl (fun p e s m below meth c S hr hlo hnm ls hl I => T12_goesOn_0 S hr hlo 1024 ((gd f).2) I (lv_sub hl [0, 1] rfl))
def vX12_chance : List Cond := .code yX12_chance cX12_chance 8 (some .int) :: TB
theorem lp12_chance_372 : Pl vX12_chance RX12 372 12 65 .long := ⟨RX12, TX12, 87, tyX12, rfl, by decide, (fun w h9 => List.mem_cons_of_mem _ (wC_wsX120 w h9)), (List.mem_cons_of_mem _ wT_13_0), tyX12_ok, nmX12, rfl, rfl⟩
theorem gX12_chance_X12_layTried : GoodIn vX12_chance (wsV RX12 509 RX12 yX12_layTried vX12_layTried) := gV_of wT_58_9 wT_58_10 wT_58_11 wT_1_5 wT_58_12
theorem lf12_chance_369 : Fl vX12_chance RX12 369 12 64 := ⟨RX12, TX12, 87, rfl, by decide, (fun w h9 => List.mem_cons_of_mem _ (wC_wsX120 w h9)), (List.mem_cons_of_mem _ wT_12_23)⟩
theorem gX12_chance_X12_goesOn : GoodIn vX12_chance (wsV RX12 512 RX12 yX12_goesOn vX12_goesOn) := gV_of wT_58_13 wT_58_14 wT_58_15 wT_1_5 wT_58_16
theorem lf12_chance_91 : Fl vX12_chance RX12 91 12 56 := ⟨RX12, TX12, 87, rfl, by decide, (fun w h9 => List.mem_cons_of_mem _ (wC_wsX120 w h9)), (List.mem_cons_of_mem _ wT_10_23)⟩
theorem lp12_chance_154 : Pl vX12_chance RX12 154 12 2 .int := ⟨RX12, TX12, 87, tyX12, rfl, by decide, (fun w h9 => List.mem_cons_of_mem _ (wC_wsX120 w h9)), (List.mem_cons_of_mem _ wT_13_17), tyX12_ok, nmX12, rfl, rfl⟩
theorem gX12_chance_X12_isSurfer : GoodIn vX12_chance (wsV RX12 413 RX12 yX12_isSurfer vX12_isSurfer) := gV_of wT_34_14 wT_34_15 wT_34_16 wT_1_5 wT_34_17
theorem gX12_chance_X12_isIn : GoodIn vX12_chance (va_wsS RX12 199 yX12_isIn vX12_isIn) := gS_of wT_28_17 wT_28_18 wT_1_5 wT_28_19
theorem lf12_chance_372 : Fl vX12_chance RX12 372 12 65 := ⟨RX12, TX12, 87, rfl, by decide, (fun w h9 => List.mem_cons_of_mem _ (wC_wsX120 w h9)), (List.mem_cons_of_mem _ wT_13_0)⟩
theorem cd12_chance : Cd yX12_chance 3 := ⟨by decide, by decide, by decide +kernel⟩
set_option maxHeartbeats 4000000 in
set_option maxRecDepth 100000 in
theorem T12_chance_47 (S : CallFix p m c cX12_chance 8 s args vX12_chance RX12) (hr : meth.sig.returnType = (some .int)) (hlo : meth.locks = false) {out : Int32 × PH} : ∀ (n : Nat) {h : PH} {a0 : Nat} {x2 : Int32} {x3 : Int32} {j4 : Int64} {x6 : Int32} {x7 : Int32} (f : F12_chance_47  n h a0 x2 x3 j4 x6 x7 = some out) {H : Heap} {locs : List Loc} (I : ph_I D cy b A fl h s H locs) {ls : Array Slot} (hl : lv_has ls 8 [(0, .ref (b + a0)), (2, .int x2), (3, .int x3), (4, .long j4), (6, .int x6), (7, .int x7)]), W p l e ({ frames := 12, cells := 0, slots := 0, locals := 289 } : Room) s m args below meth c H locs 0 0 (MQ below (va_Qi (fun (r : Int32) (u : PH) => (r, u) = out) (ph_B D cy b A fl) A) args s 0 0 A) (F0 m 47 ls []) := by
  intro n
  induction n with
  | zero => intro h a0 x2 x3 j4 x6 x7 f; rw [F12_chance_47] at f; cases f
  | succ n ih =>
    intro h a0 x2 x3 j4 x6 x7 f H locs I ls hl
    rw [F12_chance_47] at f
    refine lv_iload S.1 S.2.1 dX12_chance_47 (lv_at hl 5 rfl) ?_
    refine lv_bipush (v := 10) S.1 S.2.1 dX12_chance_49 (by decide) ?_
    refine lv_icmp_ge (tgt := 94) S.1 S.2.1 dX12_chance_51 (by decide) (fun q1 => ?_) (fun q1 => ?_)
    · have f := (if_pos q1).symm.trans f
      refine lv_aload_n S.1 S.2.1 dX12_chance_94 rfl (lv_at hl 0 rfl) ?_
      refine lv_lload S.1 S.2.1 dX12_chance_95 (lv_at hl 3 rfl) ?_
      obtain ⟨h2, e3, f⟩ := ob f
      refine o_pJ S lp12_chance_372 I e3 dX12_chance_97 (fun H locs I => ?_)
      refine lv_iload S.1 S.2.1 dX12_chance_100 (lv_at hl 4 rfl) ?_
      exact o_iret S hr hlo I f dX12_chance_102
    · have f := (if_neg q1).symm.trans f
      refine lv_aload_n S.1 S.2.1 dX12_chance_54 rfl (lv_at hl 0 rfl) ?_
      obtain ⟨o4, e5, f⟩ := ob f
      refine o_Vv S (As := []) (rest := []) (ci := 12) (M12_layTried l D cy b A fl e5) gX12_chance_X12_layTried rfl rfl rfl cd12_layTried ⟨Nat.le_of_ble_eq_true rfl, Nat.le_of_ble_eq_true rfl⟩ I (gd e5).1 clX12 rfl rfl hl.1 rfl (Nat.le_of_ble_eq_true rfl) dX12_chance_55 ⟨Nat.le_of_ble_eq_true rfl, Nat.le_of_ble_eq_true rfl⟩ (fun H locs I => ?_)
      refine lv_aload_n S.1 S.2.1 dX12_chance_58 rfl (lv_at hl 0 rfl) ?_
      refine lv_aload_n S.1 S.2.1 dX12_chance_59 rfl (lv_at hl 0 rfl) ?_
      obtain ⟨v6, e7, f⟩ := ob f
      refine o_gI S lf12_chance_369 I e7 dX12_chance_60 ?_
      obtain ⟨o8, e9, f⟩ := ob f
      refine o_Vv S (As := [.int v6]) (rest := []) (ci := 12) (M12_goesOn l D cy b A fl e9) gX12_chance_X12_goesOn rfl rfl rfl cd12_goesOn ⟨Nat.le_of_ble_eq_true rfl, Nat.le_of_ble_eq_true rfl⟩ I (gd e9).1 clX12 rfl rfl hl.1 rfl (Nat.le_of_ble_eq_true rfl) dX12_chance_63 ⟨Nat.le_of_ble_eq_true rfl, Nat.le_of_ble_eq_true rfl⟩ (fun H locs I => ?_)
      refine lv_iload S.1 S.2.1 dX12_chance_66 (lv_at hl 4 rfl) ?_
      refine lv_aload_n S.1 S.2.1 dX12_chance_68 rfl (lv_at hl 0 rfl) ?_
      obtain ⟨r10, e11, f⟩ := ob f
      refine o_gR S lf12_chance_91 I e11 dX12_chance_69 ?_
      refine lv_iconst (v := 5) S.1 S.2.1 dX12_chance_72 (by decide) ?_
      refine lv_iload_n S.1 S.2.1 dX12_chance_73 rfl (lv_at hl 1 rfl) ?_
      refine lv_iadd S.1 S.2.1 dX12_chance_74 ?_
      obtain ⟨v13, e12, f⟩ := ob f
      refine o_iald S I e12 dX12_chance_75 ?_
      refine lv_iload_n S.1 S.2.1 dX12_chance_76 rfl (lv_at hl 2 rfl) ?_
      refine lv_icmp_lt (tgt := 84) S.1 S.2.1 dX12_chance_77 (by decide) (fun q14 => ?_) (fun q14 => ?_)
      · have f := (if_pos q14).symm.trans f
        refine lv_iconst (v := 0) S.1 S.2.1 dX12_chance_84 (by decide) ?_
        refine lv_iadd S.1 S.2.1 dX12_chance_85 ?_
        refine lv_istore (lv' := [(6, .int (x6 + 0)), (0, .ref (b + a0)), (2, .int x2), (3, .int x3), (4, .long j4), (7, .int x7)]) S.1 S.2.1 dX12_chance_86 hl (by decide) rfl (fun ls hl => ?_)
        refine lv_iinc (v := (x7 + 1)) (lv' := [(7, .int (x7 + 1)), (6, .int (x6 + 0)), (0, .ref (b + a0)), (2, .int x2), (3, .int x3), (4, .long j4)]) S.1 S.2.1 dX12_chance_88 hl (k := 5) rfl (congrArg (fun z => x7 + z) (by decide)) (by decide) rfl (fun ls hl => ?_)
        refine lv_goto (tgt := 47) S.1 S.2.1 dX12_chance_91 (by decide) ?_
        exact ih f I (lv_sub hl [2, 3, 4, 5, 1, 0] rfl)
      · have f := (if_neg q14).symm.trans f
        refine lv_iconst (v := 1) S.1 S.2.1 dX12_chance_80 (by decide) ?_
        refine lv_goto (tgt := 85) S.1 S.2.1 dX12_chance_81 (by decide) ?_
        refine lv_iadd S.1 S.2.1 dX12_chance_85 ?_
        refine lv_istore (lv' := [(6, .int (x6 + 1)), (0, .ref (b + a0)), (2, .int x2), (3, .int x3), (4, .long j4), (7, .int x7)]) S.1 S.2.1 dX12_chance_86 hl (by decide) rfl (fun ls hl => ?_)
        refine lv_iinc (v := (x7 + 1)) (lv' := [(7, .int (x7 + 1)), (6, .int (x6 + 1)), (0, .ref (b + a0)), (2, .int x2), (3, .int x3), (4, .long j4)]) S.1 S.2.1 dX12_chance_88 hl (k := 5) rfl (congrArg (fun z => x7 + z) (by decide)) (by decide) rfl (fun ls hl => ?_)
        refine lv_goto (tgt := 47) S.1 S.2.1 dX12_chance_91 (by decide) ?_
        exact ih f I (lv_sub hl [2, 3, 4, 5, 1, 0] rfl)
set_option maxHeartbeats 4000000 in
set_option maxRecDepth 100000 in
theorem T12_chance_0 (S : CallFix p m c cX12_chance 8 s args vX12_chance RX12) (hr : meth.sig.returnType = (some .int)) (hlo : meth.locks = false) {out : Int32 × PH} {h : PH} {a0 : Nat} {x1 : Int32} {x2 : Int32} {x3 : Int32} (f : F12_chance_0  h a0 x1 x2 x3 = some out) {H : Heap} {locs : List Loc} (I : ph_I D cy b A fl h s H locs) {ls : Array Slot} (hl : lv_has ls 8 [(0, .ref (b + a0)), (1, .int x1), (2, .int x2), (3, .int x3)]) : W p l e ({ frames := 12, cells := 0, slots := 0, locals := 289 } : Room) s m args below meth c H locs 0 0 (MQ below (va_Qi (fun (r : Int32) (u : PH) => (r, u) = out) (ph_B D cy b A fl) A) args s 0 0 A) (F0 m 0 ls []) := by
  unfold F12_chance_0 at f
  refine lv_aload_n S.1 S.2.1 dX12_chance_0 rfl (lv_at hl 0 rfl) ?_
  refine lv_iconst (v := 0) S.1 S.2.1 dX12_chance_1 (by decide) ?_
  obtain ⟨h1, e2, f⟩ := ob f
  refine o_pI S lp12_chance_154 I e2 dX12_chance_2 (fun H locs I => ?_)
  refine lv_iload_n S.1 S.2.1 dX12_chance_5 rfl (lv_at hl 1 rfl) ?_
  refine lv_if_lt (tgt := 27) S.1 S.2.1 dX12_chance_6 (by decide) (fun q3 => ?_) (fun q3 => ?_)
  · have f := (if_pos q3).symm.trans f
    refine lv_iconst (v := (-1)) S.1 S.2.1 dX12_chance_27 (by decide) ?_
    exact o_iret S hr hlo I f dX12_chance_28
  · have f := (if_neg q3).symm.trans f
    refine lv_aload_n S.1 S.2.1 dX12_chance_9 rfl (lv_at hl 0 rfl) ?_
    refine lv_iload_n S.1 S.2.1 dX12_chance_10 rfl (lv_at hl 2 rfl) ?_
    obtain ⟨o4, e5, f⟩ := ob f
    refine o_Vi S (As := [.int x2]) (rest := []) (ci := 12) (M12_isSurfer l D cy b A fl e5) gX12_chance_X12_isSurfer rfl rfl rfl cd12_isSurfer ⟨Nat.le_of_ble_eq_true rfl, Nat.le_of_ble_eq_true rfl⟩ I (gd e5).1 clX12 rfl rfl hl.1 rfl (Nat.le_of_ble_eq_true rfl) dX12_chance_11 ⟨Nat.le_of_ble_eq_true rfl, Nat.le_of_ble_eq_true rfl⟩ (fun H locs I => ?_)
    refine lv_if_eq (tgt := 27) S.1 S.2.1 dX12_chance_14 (by decide) (fun q6 => ?_) (fun q6 => ?_)
    · have f := (if_pos q6).symm.trans f
      refine lv_iconst (v := (-1)) S.1 S.2.1 dX12_chance_27 (by decide) ?_
      exact o_iret S hr hlo I f dX12_chance_28
    · have f := (if_neg q6).symm.trans f
      refine lv_iload_n S.1 S.2.1 dX12_chance_17 rfl (lv_at hl 3 rfl) ?_
      refine lv_iconst (v := 0) S.1 S.2.1 dX12_chance_18 (by decide) ?_
      refine lv_bipush (v := 28) S.1 S.2.1 dX12_chance_19 (by decide) ?_
      obtain ⟨o7, e8, f⟩ := ob f
      refine o_Si S (As := [.int x3, .int 0, .int 28]) (rest := []) (M12_isIn l D cy b A fl e8) gX12_chance_X12_isIn rfl rfl rfl cd12_isIn ⟨Nat.le_of_ble_eq_true rfl, Nat.le_of_ble_eq_true rfl⟩ I rfl hl.1 rfl (Nat.le_of_ble_eq_true rfl) dX12_chance_21 ⟨Nat.le_of_ble_eq_true rfl, Nat.le_of_ble_eq_true rfl⟩ (fun H locs I => ?_)
      refine lv_if_ne (tgt := 29) S.1 S.2.1 dX12_chance_24 (by decide) (fun q9 => ?_) (fun q9 => ?_)
      · have f := (if_neg q9).symm.trans f
        refine lv_aload_n S.1 S.2.1 dX12_chance_29 rfl (lv_at hl 0 rfl) ?_
        obtain ⟨w10, e11, f⟩ := ob f
        refine o_gJ S lf12_chance_372 I e11 dX12_chance_30 ?_
        refine lv_lstore (lv' := [(4, .long w10), (0, .ref (b + a0)), (1, .int x1), (2, .int x2), (3, .int x3)]) S.1 S.2.1 dX12_chance_33 hl (by decide) rfl (fun ls hl => ?_)
        refine lv_aload_n S.1 S.2.1 dX12_chance_35 rfl (lv_at hl 1 rfl) ?_
        refine lv_iload_n S.1 S.2.1 dX12_chance_36 rfl (lv_at hl 2 rfl) ?_
        refine lv_i2l (v := Int32.toInt64 x1) S.1 S.2.1 dX12_chance_37 rfl ?_
        obtain ⟨h12, e13, f⟩ := ob f
        refine o_pJ S lp12_chance_372 I e13 dX12_chance_38 (fun H locs I => ?_)
        refine lv_iconst (v := 0) S.1 S.2.1 dX12_chance_41 (by decide) ?_
        refine lv_istore (lv' := [(6, .int 0), (4, .long w10), (0, .ref (b + a0)), (1, .int x1), (2, .int x2), (3, .int x3)]) S.1 S.2.1 dX12_chance_42 hl (by decide) rfl (fun ls hl => ?_)
        refine lv_iconst (v := 0) S.1 S.2.1 dX12_chance_44 (by decide) ?_
        refine lv_istore (lv' := [(7, .int 0), (6, .int 0), (4, .long w10), (0, .ref (b + a0)), (1, .int x1), (2, .int x2), (3, .int x3)]) S.1 S.2.1 dX12_chance_45 hl (by decide) rfl (fun ls hl => ?_)
        exact T12_chance_47 S hr hlo  1024 f I (lv_sub hl [3, 5, 6, 2, 1, 0] rfl)
      · have f := (if_pos q9).symm.trans f
        refine lv_iconst (v := (-1)) S.1 S.2.1 dX12_chance_27 (by decide) ?_
        exact o_iret S hr hlo I f dX12_chance_28
theorem M12_chance (l : Launch) (D : va_G) (cy : Nat → ClassId) (b : Nat) (A : Nat → Prop) (fl : Bool) {h : PH} {a0 : Nat} {x1 : Int32} {x2 : Int32} {x3 : Int32} {out : Int32 × PH} (f : F12_chance h a0 x1 x2 x3 = some out) : Met l yX12_chance vX12_chance ({ frames := 12, cells := 0, slots := 0, locals := 289 } : Room) (va_Pc [.ref (b + a0), .int x1, .int x2, .int x3] (ph_B D cy b A fl h)) (va_Qi (fun (r : Int32) (u : PH) => (r, u) = out) (ph_B D cy b A fl) A) 0 0 A :=
  o_met (by decide) rfl (Nat.le_of_ble_eq_true rfl) rfl (fun p e s m below meth c S hr hlo hnm ls hl I => T12_chance_0 S hr hlo ((gd f).2) I (lv_sub hl [0, 1, 2, 3] rfl))
def vX12_comesTo : List Cond := .code yX12_comesTo cX12_comesTo 3 (some .int) :: TB
theorem lf12_comesTo_88 : Fl vX12_comesTo RX12 88 12 55 := ⟨RX12, TX12, 87, rfl, by decide, (fun w h9 => List.mem_cons_of_mem _ (wC_wsX120 w h9)), (List.mem_cons_of_mem _ wT_10_22)⟩
theorem gX12_comesTo_X12_beside : GoodIn vX12_comesTo (wsV RX12 466 RX12 yX12_beside vX12_beside) := gV_of wT_42_11 wT_42_12 wT_42_13 wT_1_5 wT_42_14
theorem cd12_comesTo : Cd yX12_comesTo 2 := ⟨by decide, by decide, by decide +kernel⟩
set_option maxHeartbeats 4000000 in
set_option maxRecDepth 100000 in
theorem T12_comesTo_0 (S : CallFix p m c cX12_comesTo 3 s args vX12_comesTo RX12) (hr : meth.sig.returnType = (some .int)) (hlo : meth.locks = false) {out : Int32 × PH} {h : PH} {a0 : Nat} {x1 : Int32} {x2 : Int32} (f : F12_comesTo_0  h a0 x1 x2 = some out) {H : Heap} {locs : List Loc} (I : ph_I D cy b A fl h s H locs) {ls : Array Slot} (hl : lv_has ls 3 [(0, .ref (b + a0)), (1, .int x1), (2, .int x2)]) : W p l e ({ frames := 2, cells := 0, slots := 0, locals := 46 } : Room) s m args below meth c H locs 0 0 (MQ below (va_Qi (fun (r : Int32) (u : PH) => (r, u) = out) (ph_B D cy b A fl) A) args s 0 0 A) (F0 m 0 ls []) := by
  unfold F12_comesTo_0 at f
  refine lv_iload_n S.1 S.2.1 dX12_comesTo_0 rfl (lv_at hl 2 rfl) ?_
  refine lv_iconst (v := 4) S.1 S.2.1 dX12_comesTo_1 (by decide) ?_
  refine lv_icmp_ne (tgt := 14) S.1 S.2.1 dX12_comesTo_2 (by decide) (fun q1 => ?_) (fun q1 => ?_)
  · have f := (if_neg q1).symm.trans f
    refine lv_aload_n S.1 S.2.1 dX12_comesTo_14 rfl (lv_at hl 0 rfl) ?_
    refine lv_aload_n S.1 S.2.1 dX12_comesTo_15 rfl (lv_at hl 0 rfl) ?_
    obtain ⟨r2, e3, f⟩ := ob f
    refine o_gR S lf12_comesTo_88 I e3 dX12_comesTo_16 ?_
    refine lv_iload_n S.1 S.2.1 dX12_comesTo_19 rfl (lv_at hl 1 rfl) ?_
    obtain ⟨v5, e4, f⟩ := ob f
    refine o_iald S I e4 dX12_comesTo_20 ?_
    refine lv_iload_n S.1 S.2.1 dX12_comesTo_21 rfl (lv_at hl 2 rfl) ?_
    obtain ⟨o6, e7, f⟩ := ob f
    refine o_Vi S (As := [.int v5, .int x2]) (rest := []) (ci := 12) (M12_beside l D cy b A fl e7) gX12_comesTo_X12_beside rfl rfl rfl cd12_beside ⟨Nat.le_of_ble_eq_true rfl, Nat.le_of_ble_eq_true rfl⟩ I (gd e7).1 clX12 rfl rfl hl.1 rfl (Nat.le_of_ble_eq_true rfl) dX12_comesTo_22 ⟨Nat.le_of_ble_eq_true rfl, Nat.le_of_ble_eq_true rfl⟩ (fun H locs I => ?_)
    exact o_iret S hr hlo I f dX12_comesTo_25
  · have f := (if_pos q1).symm.trans f
    refine lv_aload_n S.1 S.2.1 dX12_comesTo_5 rfl (lv_at hl 0 rfl) ?_
    obtain ⟨r8, e9, f⟩ := ob f
    refine o_gR S lf12_comesTo_88 I e9 dX12_comesTo_6 ?_
    refine lv_iload_n S.1 S.2.1 dX12_comesTo_9 rfl (lv_at hl 1 rfl) ?_
    obtain ⟨v11, e10, f⟩ := ob f
    refine o_iald S I e10 dX12_comesTo_10 ?_
    refine lv_goto (tgt := 25) S.1 S.2.1 dX12_comesTo_11 (by decide) ?_
    exact o_iret S hr hlo I f dX12_comesTo_25
theorem M12_comesTo (l : Launch) (D : va_G) (cy : Nat → ClassId) (b : Nat) (A : Nat → Prop) (fl : Bool) {h : PH} {a0 : Nat} {x1 : Int32} {x2 : Int32} {out : Int32 × PH} (f : F12_comesTo h a0 x1 x2 = some out) : Met l yX12_comesTo vX12_comesTo ({ frames := 2, cells := 0, slots := 0, locals := 46 } : Room) (va_Pc [.ref (b + a0), .int x1, .int x2] (ph_B D cy b A fl h)) (va_Qi (fun (r : Int32) (u : PH) => (r, u) = out) (ph_B D cy b A fl) A) 0 0 A :=
  o_met (by decide) rfl (Nat.le_of_ble_eq_true rfl) rfl (fun p e s m below meth c S hr hlo hnm ls hl I => T12_comesTo_0 S hr hlo ((gd f).2) I (lv_sub hl [0, 1, 2] rfl))
def vX12_copies : List Cond := .code yX12_copies cX12_copies 3 none :: TB
theorem cd12_copies : Cd yX12_copies 2 := ⟨by decide, by decide, by decide +kernel⟩
set_option maxHeartbeats 4000000 in
set_option maxRecDepth 100000 in
theorem T12_copies_2 (S : CallFix p m c cX12_copies 3 s args vX12_copies RX12) (hr : meth.sig.returnType = none) (hlo : meth.locks = false) {out : PH} : ∀ (n : Nat) {h : PH} {a0 : Nat} {x1 : Int32} {x2 : Int32} (f : F12_copies_2  n h a0 x1 x2 = some out) {H : Heap} {locs : List Loc} (I : ph_I D cy b A fl h s H locs) {ls : Array Slot} (hl : lv_has ls 3 [(0, .ref (b + a0)), (1, .int x1), (2, .int x2)]), W p l e ({ frames := 0, cells := 0, slots := 0, locals := 0 } : Room) s m args below meth c H locs 0 0 (MQ below (va_Qv (fun (u : PH) => u = out) (ph_B D cy b A fl) A) args s 0 0 A) (F0 m 2 ls []) := by
  intro n
  induction n with
  | zero => intro h a0 x1 x2 f; rw [F12_copies_2] at f; cases f
  | succ n ih =>
    intro h a0 x1 x2 f H locs I ls hl
    rw [F12_copies_2] at f
    refine lv_iload_n S.1 S.2.1 dX12_copies_2 rfl (lv_at hl 2 rfl) ?_
    refine lv_iload_n S.1 S.2.1 dX12_copies_3 rfl (lv_at hl 1 rfl) ?_
    refine lv_icmp_ge (tgt := 21) S.1 S.2.1 dX12_copies_4 (by decide) (fun q1 => ?_) (fun q1 => ?_)
    · have f := (if_pos q1).symm.trans f
      exact o_vret S hr hlo I f dX12_copies_21
    · have f := (if_neg q1).symm.trans f
      refine lv_aload_n S.1 S.2.1 dX12_copies_7 rfl (lv_at hl 0 rfl) ?_
      refine lv_iload_n S.1 S.2.1 dX12_copies_8 rfl (lv_at hl 2 rfl) ?_
      refine lv_aload_n S.1 S.2.1 dX12_copies_9 rfl (lv_at hl 0 rfl) ?_
      refine lv_iload_n S.1 S.2.1 dX12_copies_10 rfl (lv_at hl 1 rfl) ?_
      refine lv_iload_n S.1 S.2.1 dX12_copies_11 rfl (lv_at hl 2 rfl) ?_
      refine lv_iadd S.1 S.2.1 dX12_copies_12 ?_
      obtain ⟨v3, e2, f⟩ := ob f
      refine o_iald S I e2 dX12_copies_13 ?_
      obtain ⟨h5, e4, f⟩ := ob f
      refine o_iast S I e4 dX12_copies_14 (fun H locs I => ?_)
      refine lv_iinc (v := (x2 + 1)) (lv' := [(2, .int (x2 + 1)), (0, .ref (b + a0)), (1, .int x1)]) S.1 S.2.1 dX12_copies_15 hl (k := 2) rfl (congrArg (fun z => x2 + z) (by decide)) (by decide) rfl (fun ls hl => ?_)
      refine lv_goto (tgt := 2) S.1 S.2.1 dX12_copies_18 (by decide) ?_
      exact ih f I (lv_sub hl [1, 2, 0] rfl)
set_option maxHeartbeats 4000000 in
set_option maxRecDepth 100000 in
theorem T12_copies_0 (S : CallFix p m c cX12_copies 3 s args vX12_copies RX12) (hr : meth.sig.returnType = none) (hlo : meth.locks = false) {out : PH} {h : PH} {a0 : Nat} {x1 : Int32} (f : F12_copies_0  h a0 x1 = some out) {H : Heap} {locs : List Loc} (I : ph_I D cy b A fl h s H locs) {ls : Array Slot} (hl : lv_has ls 3 [(0, .ref (b + a0)), (1, .int x1)]) : W p l e ({ frames := 0, cells := 0, slots := 0, locals := 0 } : Room) s m args below meth c H locs 0 0 (MQ below (va_Qv (fun (u : PH) => u = out) (ph_B D cy b A fl) A) args s 0 0 A) (F0 m 0 ls []) := by
  unfold F12_copies_0 at f
  refine lv_iconst (v := 0) S.1 S.2.1 dX12_copies_0 (by decide) ?_
  refine lv_istore_n (lv' := [(2, .int 0), (0, .ref (b + a0)), (1, .int x1)]) S.1 S.2.1 dX12_copies_1 rfl hl (by decide) rfl (fun ls hl => ?_)
  exact T12_copies_2 S hr hlo  1024 f I (lv_sub hl [1, 2, 0] rfl)
theorem M12_copies (l : Launch) (D : va_G) (cy : Nat → ClassId) (b : Nat) (A : Nat → Prop) (fl : Bool) {h : PH} {a0 : Nat} {x1 : Int32} {out : PH} (f : F12_copies h a0 x1 = some out) : Met l yX12_copies vX12_copies ({ frames := 0, cells := 0, slots := 0, locals := 0 } : Room) (va_Pc [.ref (b + a0), .int x1] (ph_B D cy b A fl h)) (va_Qv (fun (u : PH) => u = out) (ph_B D cy b A fl) A) 0 0 A :=
  o_met (by decide) rfl (Nat.le_of_ble_eq_true rfl) rfl (fun p e s m below meth c S hr hlo hnm ls hl I => T12_copies_0 S hr hlo (f) I (lv_sub hl [0, 1] rfl))
def vX12_firstToCome : List Cond := .code yX12_firstToCome cX12_firstToCome 2 (some .int) :: TB
theorem lf12_firstToCome_253 : Fl vX12_firstToCome RX12 253 12 16 := ⟨RX12, TX12, 87, rfl, by decide, (fun w h9 => List.mem_cons_of_mem _ (wC_wsX120 w h9)), (List.mem_cons_of_mem _ wT_12_14)⟩
theorem lf12_firstToCome_103 : Fl vX12_firstToCome RX12 103 12 60 := ⟨RX12, TX12, 87, rfl, by decide, (fun w h9 => List.mem_cons_of_mem _ (wC_wsX120 w h9)), (List.mem_cons_of_mem _ wT_11_3)⟩
theorem cd12_firstToCome : Cd yX12_firstToCome 0 := ⟨by decide, by decide, by decide +kernel⟩
set_option maxHeartbeats 4000000 in
set_option maxRecDepth 100000 in
theorem T12_firstToCome_2 (S : CallFix p m c cX12_firstToCome 2 s args vX12_firstToCome RX12) (hr : meth.sig.returnType = (some .int)) (hlo : meth.locks = false) {out : Int32 × PH} : ∀ (n : Nat) {h : PH} {a0 : Nat} {x1 : Int32} (f : F12_firstToCome_2  n h a0 x1 = some out) {H : Heap} {locs : List Loc} (I : ph_I D cy b A fl h s H locs) {ls : Array Slot} (hl : lv_has ls 2 [(0, .ref (b + a0)), (1, .int x1)]), W p l e ({ frames := 0, cells := 0, slots := 0, locals := 0 } : Room) s m args below meth c H locs 0 0 (MQ below (va_Qi (fun (r : Int32) (u : PH) => (r, u) = out) (ph_B D cy b A fl) A) args s 0 0 A) (F0 m 2 ls []) := by
  intro n
  induction n with
  | zero => intro h a0 x1 f; rw [F12_firstToCome_2] at f; cases f
  | succ n ih =>
    intro h a0 x1 f H locs I ls hl
    rw [F12_firstToCome_2] at f
    refine lv_iload_n S.1 S.2.1 dX12_firstToCome_2 rfl (lv_at hl 1 rfl) ?_
    refine lv_aload_n S.1 S.2.1 dX12_firstToCome_3 rfl (lv_at hl 0 rfl) ?_
    obtain ⟨v1, e2, f⟩ := ob f
    refine o_gI S lf12_firstToCome_253 I e2 dX12_firstToCome_4 ?_
    refine lv_icmp_ge (tgt := 27) S.1 S.2.1 dX12_firstToCome_7 (by decide) (fun q3 => ?_) (fun q3 => ?_)
    · have f := (if_pos q3).symm.trans f
      refine lv_iload_n S.1 S.2.1 dX12_firstToCome_27 rfl (lv_at hl 1 rfl) ?_
      exact o_iret S hr hlo I f dX12_firstToCome_28
    · have f := (if_neg q3).symm.trans f
      refine lv_aload_n S.1 S.2.1 dX12_firstToCome_10 rfl (lv_at hl 0 rfl) ?_
      obtain ⟨r4, e5, f⟩ := ob f
      refine o_gR S lf12_firstToCome_103 I e5 dX12_firstToCome_11 ?_
      refine lv_iload_n S.1 S.2.1 dX12_firstToCome_14 rfl (lv_at hl 1 rfl) ?_
      obtain ⟨v7, e6, f⟩ := ob f
      refine o_iald S I e6 dX12_firstToCome_15 ?_
      refine lv_bipush (v := (-2)) S.1 S.2.1 dX12_firstToCome_16 (by decide) ?_
      refine lv_icmp_eq (tgt := 27) S.1 S.2.1 dX12_firstToCome_18 (by decide) (fun q8 => ?_) (fun q8 => ?_)
      · have f := (if_pos q8).symm.trans f
        refine lv_iload_n S.1 S.2.1 dX12_firstToCome_27 rfl (lv_at hl 1 rfl) ?_
        exact o_iret S hr hlo I f dX12_firstToCome_28
      · have f := (if_neg q8).symm.trans f
        refine lv_iinc (v := (x1 + 1)) (lv' := [(1, .int (x1 + 1)), (0, .ref (b + a0))]) S.1 S.2.1 dX12_firstToCome_21 hl (k := 1) rfl (congrArg (fun z => x1 + z) (by decide)) (by decide) rfl (fun ls hl => ?_)
        refine lv_goto (tgt := 2) S.1 S.2.1 dX12_firstToCome_24 (by decide) ?_
        exact ih f I (lv_sub hl [1, 0] rfl)
set_option maxHeartbeats 4000000 in
set_option maxRecDepth 100000 in
theorem T12_firstToCome_0 (S : CallFix p m c cX12_firstToCome 2 s args vX12_firstToCome RX12) (hr : meth.sig.returnType = (some .int)) (hlo : meth.locks = false) {out : Int32 × PH} {h : PH} {a0 : Nat} (f : F12_firstToCome_0  h a0 = some out) {H : Heap} {locs : List Loc} (I : ph_I D cy b A fl h s H locs) {ls : Array Slot} (hl : lv_has ls 2 [(0, .ref (b + a0))]) : W p l e ({ frames := 0, cells := 0, slots := 0, locals := 0 } : Room) s m args below meth c H locs 0 0 (MQ below (va_Qi (fun (r : Int32) (u : PH) => (r, u) = out) (ph_B D cy b A fl) A) args s 0 0 A) (F0 m 0 ls []) := by
  unfold F12_firstToCome_0 at f
  refine lv_iconst (v := 0) S.1 S.2.1 dX12_firstToCome_0 (by decide) ?_
  refine lv_istore_n (lv' := [(1, .int 0), (0, .ref (b + a0))]) S.1 S.2.1 dX12_firstToCome_1 rfl hl (by decide) rfl (fun ls hl => ?_)
  exact T12_firstToCome_2 S hr hlo  1024 f I (lv_sub hl [1, 0] rfl)
theorem M12_firstToCome (l : Launch) (D : va_G) (cy : Nat → ClassId) (b : Nat) (A : Nat → Prop) (fl : Bool) {h : PH} {a0 : Nat} {out : Int32 × PH} (f : F12_firstToCome h a0 = some out) : Met l yX12_firstToCome vX12_firstToCome ({ frames := 0, cells := 0, slots := 0, locals := 0 } : Room) (va_Pc [.ref (b + a0)] (ph_B D cy b A fl h)) (va_Qi (fun (r : Int32) (u : PH) => (r, u) = out) (ph_B D cy b A fl) A) 0 0 A :=
  o_met (by decide) rfl (Nat.le_of_ble_eq_true rfl) rfl (fun p e s m below meth c S hr hlo hnm ls hl I => T12_firstToCome_0 S hr hlo ((gd f).2) I (lv_sub hl [0] rfl))
def vX12_knownBy : List Cond := .code yX12_knownBy cX12_knownBy 1 (some .int) :: TB
theorem lf12_knownBy_133 : Fl vX12_knownBy RX12 133 12 75 := ⟨RX12, TX12, 87, rfl, by decide, (fun w h9 => List.mem_cons_of_mem _ (wC_wsX120 w h9)), (List.mem_cons_of_mem _ wT_11_13)⟩
theorem lf12_knownBy_376 : Fl vX12_knownBy RX12 376 12 74 := ⟨RX12, TX12, 87, rfl, by decide, (fun w h9 => List.mem_cons_of_mem _ (wC_wsX120 w h9)), (List.mem_cons_of_mem _ wT_13_1)⟩
theorem cd12_knownBy : Cd yX12_knownBy 0 := ⟨by decide, by decide, by decide +kernel⟩
set_option maxHeartbeats 4000000 in
set_option maxRecDepth 100000 in
theorem T12_knownBy_0 (S : CallFix p m c cX12_knownBy 1 s args vX12_knownBy RX12) (hr : meth.sig.returnType = (some .int)) (hlo : meth.locks = false) {out : Int32 × PH} {h : PH} {a0 : Nat} (f : F12_knownBy_0  h a0 = some out) {H : Heap} {locs : List Loc} (I : ph_I D cy b A fl h s H locs) {ls : Array Slot} (hl : lv_has ls 1 [(0, .ref (b + a0))]) : W p l e ({ frames := 0, cells := 0, slots := 0, locals := 0 } : Room) s m args below meth c H locs 0 0 (MQ below (va_Qi (fun (r : Int32) (u : PH) => (r, u) = out) (ph_B D cy b A fl) A) args s 0 0 A) (F0 m 0 ls []) := by
  unfold F12_knownBy_0 at f
  refine lv_aload_n S.1 S.2.1 dX12_knownBy_0 rfl (lv_at hl 0 rfl) ?_
  obtain ⟨v1, e2, f⟩ := ob f
  refine o_gI S lf12_knownBy_133 I e2 dX12_knownBy_1 ?_
  refine lv_if_ge (tgt := 14) S.1 S.2.1 dX12_knownBy_4 (by decide) (fun q3 => ?_) (fun q3 => ?_)
  · have f := (if_pos q3).symm.trans f
    refine lv_aload_n S.1 S.2.1 dX12_knownBy_14 rfl (lv_at hl 0 rfl) ?_
    obtain ⟨v4, e5, f⟩ := ob f
    refine o_gI S lf12_knownBy_133 I e5 dX12_knownBy_15 ?_
    exact o_iret S hr hlo I f dX12_knownBy_18
  · have f := (if_neg q3).symm.trans f
    refine lv_aload_n S.1 S.2.1 dX12_knownBy_7 rfl (lv_at hl 0 rfl) ?_
    obtain ⟨v6, e7, f⟩ := ob f
    refine o_gI S lf12_knownBy_376 I e7 dX12_knownBy_8 ?_
    refine lv_goto (tgt := 18) S.1 S.2.1 dX12_knownBy_11 (by decide) ?_
    exact o_iret S hr hlo I f dX12_knownBy_18
theorem M12_knownBy (l : Launch) (D : va_G) (cy : Nat → ClassId) (b : Nat) (A : Nat → Prop) (fl : Bool) {h : PH} {a0 : Nat} {out : Int32 × PH} (f : F12_knownBy h a0 = some out) : Met l yX12_knownBy vX12_knownBy ({ frames := 0, cells := 0, slots := 0, locals := 0 } : Room) (va_Pc [.ref (b + a0)] (ph_B D cy b A fl h)) (va_Qi (fun (r : Int32) (u : PH) => (r, u) = out) (ph_B D cy b A fl) A) 0 0 A :=
  o_met (by decide) rfl (Nat.le_of_ble_eq_true rfl) rfl (fun p e s m below meth c S hr hlo hnm ls hl I => T12_knownBy_0 S hr hlo ((gd f).2) I (lv_sub hl [0] rfl))
def vX12_count : List Cond := .code yX12_count cX12_count 2 (some .int) :: TB
theorem lp12_count_154 : Pl vX12_count RX12 154 12 2 .int := ⟨RX12, TX12, 87, tyX12, rfl, by decide, (fun w h9 => List.mem_cons_of_mem _ (wC_wsX120 w h9)), (List.mem_cons_of_mem _ wT_13_17), tyX12_ok, nmX12, rfl, rfl⟩
theorem lf12_count_241 : Fl vX12_count RX12 241 12 12 := ⟨RX12, TX12, 87, rfl, by decide, (fun w h9 => List.mem_cons_of_mem _ (wC_wsX120 w h9)), (List.mem_cons_of_mem _ wT_12_10)⟩
theorem lf12_count_244 : Fl vX12_count RX12 244 12 13 := ⟨RX12, TX12, 87, rfl, by decide, (fun w h9 => List.mem_cons_of_mem _ (wC_wsX120 w h9)), (List.mem_cons_of_mem _ wT_12_11)⟩
theorem lf12_count_247 : Fl vX12_count RX12 247 12 14 := ⟨RX12, TX12, 87, rfl, by decide, (fun w h9 => List.mem_cons_of_mem _ (wC_wsX120 w h9)), (List.mem_cons_of_mem _ wT_12_12)⟩
theorem lf12_count_250 : Fl vX12_count RX12 250 12 15 := ⟨RX12, TX12, 87, rfl, by decide, (fun w h9 => List.mem_cons_of_mem _ (wC_wsX120 w h9)), (List.mem_cons_of_mem _ wT_12_13)⟩
theorem lf12_count_253 : Fl vX12_count RX12 253 12 16 := ⟨RX12, TX12, 87, rfl, by decide, (fun w h9 => List.mem_cons_of_mem _ (wC_wsX120 w h9)), (List.mem_cons_of_mem _ wT_12_14)⟩
theorem lf12_count_256 : Fl vX12_count RX12 256 12 17 := ⟨RX12, TX12, 87, rfl, by decide, (fun w h9 => List.mem_cons_of_mem _ (wC_wsX120 w h9)), (List.mem_cons_of_mem _ wT_12_15)⟩
theorem lf12_count_106 : Fl vX12_count RX12 106 12 61 := ⟨RX12, TX12, 87, rfl, by decide, (fun w h9 => List.mem_cons_of_mem _ (wC_wsX120 w h9)), (List.mem_cons_of_mem _ wT_11_4)⟩
theorem lf12_count_369 : Fl vX12_count RX12 369 12 64 := ⟨RX12, TX12, 87, rfl, by decide, (fun w h9 => List.mem_cons_of_mem _ (wC_wsX120 w h9)), (List.mem_cons_of_mem _ wT_12_23)⟩
theorem lf12_count_109 : Fl vX12_count RX12 109 12 62 := ⟨RX12, TX12, 87, rfl, by decide, (fun w h9 => List.mem_cons_of_mem _ (wC_wsX120 w h9)), (List.mem_cons_of_mem _ wT_11_5)⟩
theorem lf12_count_112 : Fl vX12_count RX12 112 12 63 := ⟨RX12, TX12, 87, rfl, by decide, (fun w h9 => List.mem_cons_of_mem _ (wC_wsX120 w h9)), (List.mem_cons_of_mem _ wT_11_6)⟩
theorem gX12_count_X12_firstToCome : GoodIn vX12_count (wsV RX12 506 RX12 yX12_firstToCome vX12_firstToCome) := gV_of wT_55_11 wT_55_12 wT_55_13 wT_1_5 wT_55_14
theorem lf12_count_376 : Fl vX12_count RX12 376 12 74 := ⟨RX12, TX12, 87, rfl, by decide, (fun w h9 => List.mem_cons_of_mem _ (wC_wsX120 w h9)), (List.mem_cons_of_mem _ wT_13_1)⟩
theorem gX12_count_X12_knownBy : GoodIn vX12_count (wsV RX12 527 RX12 yX12_knownBy vX12_knownBy) := gV_of wT_64_0 wT_64_1 wT_64_2 wT_1_5 wT_64_3
theorem lf12_count_379 : Fl vX12_count RX12 379 12 78 := ⟨RX12, TX12, 87, rfl, by decide, (fun w h9 => List.mem_cons_of_mem _ (wC_wsX120 w h9)), (List.mem_cons_of_mem _ wT_13_2)⟩
theorem cd12_count : Cd yX12_count 1 := ⟨by decide, by decide, by decide +kernel⟩
set_option maxHeartbeats 4000000 in
set_option maxRecDepth 100000 in
theorem T12_count_0 (S : CallFix p m c cX12_count 2 s args vX12_count RX12) (hr : meth.sig.returnType = (some .int)) (hlo : meth.locks = false) {out : Int32 × PH} {h : PH} {a0 : Nat} {x1 : Int32} (f : F12_count_0  h a0 x1 = some out) {H : Heap} {locs : List Loc} (I : ph_I D cy b A fl h s H locs) {ls : Array Slot} (hl : lv_has ls 2 [(0, .ref (b + a0)), (1, .int x1)]) : W p l e ({ frames := 1, cells := 0, slots := 0, locals := 21 } : Room) s m args below meth c H locs 0 0 (MQ below (va_Qi (fun (r : Int32) (u : PH) => (r, u) = out) (ph_B D cy b A fl) A) args s 0 0 A) (F0 m 0 ls []) := by
  unfold F12_count_0 at f
  refine lv_aload_n S.1 S.2.1 dX12_count_0 rfl (lv_at hl 0 rfl) ?_
  refine lv_iconst (v := 0) S.1 S.2.1 dX12_count_1 (by decide) ?_
  obtain ⟨h1, e2, f⟩ := ob f
  refine o_pI S lp12_count_154 I e2 dX12_count_2 (fun H locs I => ?_)
  refine lv_iload_n S.1 S.2.1 dX12_count_5 rfl (lv_at hl 1 rfl) ?_
  rcases Decidable.em (x1 = 0) with q3 | q3
  · have f := (if_pos q3).symm.trans f
    refine lv_tableIn (off := 70) (tgt := 76) S.1 S.2.1 dX12_count_6 (by rw [q3]; decide) (by rw [q3]; decide) (by rw [q3]; rfl) (by decide) ?_
    refine lv_aload_n S.1 S.2.1 dX12_count_76 rfl (lv_at hl 0 rfl) ?_
    obtain ⟨v4, e5, f⟩ := ob f
    refine o_gI S lf12_count_241 I e5 dX12_count_77 ?_
    exact o_iret S hr hlo I f dX12_count_80
  have f := (if_neg q3).symm.trans f
  rcases Decidable.em (x1 = 1) with q6 | q6
  · have f := (if_pos q6).symm.trans f
    refine lv_tableIn (off := 75) (tgt := 81) S.1 S.2.1 dX12_count_6 (by rw [q6]; decide) (by rw [q6]; decide) (by rw [q6]; rfl) (by decide) ?_
    refine lv_aload_n S.1 S.2.1 dX12_count_81 rfl (lv_at hl 0 rfl) ?_
    obtain ⟨v7, e8, f⟩ := ob f
    refine o_gI S lf12_count_244 I e8 dX12_count_82 ?_
    exact o_iret S hr hlo I f dX12_count_85
  have f := (if_neg q6).symm.trans f
  rcases Decidable.em (x1 = 2) with q9 | q9
  · have f := (if_pos q9).symm.trans f
    refine lv_tableIn (off := 80) (tgt := 86) S.1 S.2.1 dX12_count_6 (by rw [q9]; decide) (by rw [q9]; decide) (by rw [q9]; rfl) (by decide) ?_
    refine lv_aload_n S.1 S.2.1 dX12_count_86 rfl (lv_at hl 0 rfl) ?_
    obtain ⟨v10, e11, f⟩ := ob f
    refine o_gI S lf12_count_247 I e11 dX12_count_87 ?_
    exact o_iret S hr hlo I f dX12_count_90
  have f := (if_neg q9).symm.trans f
  rcases Decidable.em (x1 = 3) with q12 | q12
  · have f := (if_pos q12).symm.trans f
    refine lv_tableIn (off := 85) (tgt := 91) S.1 S.2.1 dX12_count_6 (by rw [q12]; decide) (by rw [q12]; decide) (by rw [q12]; rfl) (by decide) ?_
    refine lv_aload_n S.1 S.2.1 dX12_count_91 rfl (lv_at hl 0 rfl) ?_
    obtain ⟨v13, e14, f⟩ := ob f
    refine o_gI S lf12_count_250 I e14 dX12_count_92 ?_
    exact o_iret S hr hlo I f dX12_count_95
  have f := (if_neg q12).symm.trans f
  rcases Decidable.em (x1 = 4) with q15 | q15
  · have f := (if_pos q15).symm.trans f
    refine lv_tableIn (off := 90) (tgt := 96) S.1 S.2.1 dX12_count_6 (by rw [q15]; decide) (by rw [q15]; decide) (by rw [q15]; rfl) (by decide) ?_
    refine lv_aload_n S.1 S.2.1 dX12_count_96 rfl (lv_at hl 0 rfl) ?_
    obtain ⟨v16, e17, f⟩ := ob f
    refine o_gI S lf12_count_253 I e17 dX12_count_97 ?_
    exact o_iret S hr hlo I f dX12_count_100
  have f := (if_neg q15).symm.trans f
  rcases Decidable.em (x1 = 5) with q18 | q18
  · have f := (if_pos q18).symm.trans f
    refine lv_tableIn (off := 95) (tgt := 101) S.1 S.2.1 dX12_count_6 (by rw [q18]; decide) (by rw [q18]; decide) (by rw [q18]; rfl) (by decide) ?_
    refine lv_aload_n S.1 S.2.1 dX12_count_101 rfl (lv_at hl 0 rfl) ?_
    obtain ⟨v19, e20, f⟩ := ob f
    refine o_gI S lf12_count_256 I e20 dX12_count_102 ?_
    exact o_iret S hr hlo I f dX12_count_105
  have f := (if_neg q18).symm.trans f
  rcases Decidable.em (x1 = 6) with q21 | q21
  · have f := (if_pos q21).symm.trans f
    refine lv_tableIn (off := 100) (tgt := 106) S.1 S.2.1 dX12_count_6 (by rw [q21]; decide) (by rw [q21]; decide) (by rw [q21]; rfl) (by decide) ?_
    refine lv_aload_n S.1 S.2.1 dX12_count_106 rfl (lv_at hl 0 rfl) ?_
    obtain ⟨r22, e23, f⟩ := ob f
    refine o_gR S lf12_count_106 I e23 dX12_count_107 ?_
    refine lv_iconst (v := 0) S.1 S.2.1 dX12_count_110 (by decide) ?_
    obtain ⟨v25, e24, f⟩ := ob f
    refine o_iald S I e24 dX12_count_111 ?_
    exact o_iret S hr hlo I f dX12_count_112
  have f := (if_neg q21).symm.trans f
  rcases Decidable.em (x1 = 7) with q26 | q26
  · have f := (if_pos q26).symm.trans f
    refine lv_tableIn (off := 107) (tgt := 113) S.1 S.2.1 dX12_count_6 (by rw [q26]; decide) (by rw [q26]; decide) (by rw [q26]; rfl) (by decide) ?_
    refine lv_aload_n S.1 S.2.1 dX12_count_113 rfl (lv_at hl 0 rfl) ?_
    obtain ⟨v27, e28, f⟩ := ob f
    refine o_gI S lf12_count_369 I e28 dX12_count_114 ?_
    exact o_iret S hr hlo I f dX12_count_117
  have f := (if_neg q26).symm.trans f
  rcases Decidable.em (x1 = 8) with q29 | q29
  · have f := (if_pos q29).symm.trans f
    refine lv_tableIn (off := 112) (tgt := 118) S.1 S.2.1 dX12_count_6 (by rw [q29]; decide) (by rw [q29]; decide) (by rw [q29]; rfl) (by decide) ?_
    refine lv_aload_n S.1 S.2.1 dX12_count_118 rfl (lv_at hl 0 rfl) ?_
    obtain ⟨r30, e31, f⟩ := ob f
    refine o_gR S lf12_count_109 I e31 dX12_count_119 ?_
    refine lv_iconst (v := 0) S.1 S.2.1 dX12_count_122 (by decide) ?_
    obtain ⟨v33, e32, f⟩ := ob f
    refine o_iald S I e32 dX12_count_123 ?_
    exact o_iret S hr hlo I f dX12_count_124
  have f := (if_neg q29).symm.trans f
  rcases Decidable.em (x1 = 9) with q34 | q34
  · have f := (if_pos q34).symm.trans f
    refine lv_tableIn (off := 119) (tgt := 125) S.1 S.2.1 dX12_count_6 (by rw [q34]; decide) (by rw [q34]; decide) (by rw [q34]; rfl) (by decide) ?_
    refine lv_aload_n S.1 S.2.1 dX12_count_125 rfl (lv_at hl 0 rfl) ?_
    obtain ⟨r35, e36, f⟩ := ob f
    refine o_gR S lf12_count_112 I e36 dX12_count_126 ?_
    refine lv_iconst (v := 0) S.1 S.2.1 dX12_count_129 (by decide) ?_
    obtain ⟨v38, e37, f⟩ := ob f
    refine o_iald S I e37 dX12_count_130 ?_
    exact o_iret S hr hlo I f dX12_count_131
  have f := (if_neg q34).symm.trans f
  rcases Decidable.em (x1 = 10) with q39 | q39
  · have f := (if_pos q39).symm.trans f
    refine lv_tableIn (off := 126) (tgt := 132) S.1 S.2.1 dX12_count_6 (by rw [q39]; decide) (by rw [q39]; decide) (by rw [q39]; rfl) (by decide) ?_
    refine lv_aload_n S.1 S.2.1 dX12_count_132 rfl (lv_at hl 0 rfl) ?_
    obtain ⟨v40, e41, f⟩ := ob f
    refine o_gI S lf12_count_253 I e41 dX12_count_133 ?_
    refine lv_aload_n S.1 S.2.1 dX12_count_136 rfl (lv_at hl 0 rfl) ?_
    obtain ⟨o42, e43, f⟩ := ob f
    refine o_Vi S (As := []) (rest := [.int v40]) (ci := 12) (M12_firstToCome l D cy b A fl e43) gX12_count_X12_firstToCome rfl rfl rfl cd12_firstToCome ⟨Nat.le_of_ble_eq_true rfl, Nat.le_of_ble_eq_true rfl⟩ I (gd e43).1 clX12 rfl rfl hl.1 rfl (Nat.le_of_ble_eq_true rfl) dX12_count_137 ⟨Nat.le_of_ble_eq_true rfl, Nat.le_of_ble_eq_true rfl⟩ (fun H locs I => ?_)
    refine lv_isub S.1 S.2.1 dX12_count_140 ?_
    exact o_iret S hr hlo I f dX12_count_141
  have f := (if_neg q39).symm.trans f
  rcases Decidable.em (x1 = 11) with q44 | q44
  · have f := (if_pos q44).symm.trans f
    refine lv_tableIn (off := 136) (tgt := 142) S.1 S.2.1 dX12_count_6 (by rw [q44]; decide) (by rw [q44]; decide) (by rw [q44]; rfl) (by decide) ?_
    refine lv_aload_n S.1 S.2.1 dX12_count_142 rfl (lv_at hl 0 rfl) ?_
    obtain ⟨v45, e46, f⟩ := ob f
    refine o_gI S lf12_count_376 I e46 dX12_count_143 ?_
    exact o_iret S hr hlo I f dX12_count_146
  have f := (if_neg q44).symm.trans f
  rcases Decidable.em (x1 = 12) with q47 | q47
  · have f := (if_pos q47).symm.trans f
    refine lv_tableIn (off := 141) (tgt := 147) S.1 S.2.1 dX12_count_6 (by rw [q47]; decide) (by rw [q47]; decide) (by rw [q47]; rfl) (by decide) ?_
    refine lv_aload_n S.1 S.2.1 dX12_count_147 rfl (lv_at hl 0 rfl) ?_
    obtain ⟨o48, e49, f⟩ := ob f
    refine o_Vi S (As := []) (rest := []) (ci := 12) (M12_knownBy l D cy b A fl e49) gX12_count_X12_knownBy rfl rfl rfl cd12_knownBy ⟨Nat.le_of_ble_eq_true rfl, Nat.le_of_ble_eq_true rfl⟩ I (gd e49).1 clX12 rfl rfl hl.1 rfl (Nat.le_of_ble_eq_true rfl) dX12_count_148 ⟨Nat.le_of_ble_eq_true rfl, Nat.le_of_ble_eq_true rfl⟩ (fun H locs I => ?_)
    exact o_iret S hr hlo I f dX12_count_151
  have f := (if_neg q47).symm.trans f
  rcases Decidable.em (x1 = 13) with q50 | q50
  · have f := (if_pos q50).symm.trans f
    refine lv_tableIn (off := 146) (tgt := 152) S.1 S.2.1 dX12_count_6 (by rw [q50]; decide) (by rw [q50]; decide) (by rw [q50]; rfl) (by decide) ?_
    refine lv_aload_n S.1 S.2.1 dX12_count_152 rfl (lv_at hl 0 rfl) ?_
    obtain ⟨v51, e52, f⟩ := ob f
    refine o_gI S lf12_count_379 I e52 dX12_count_153 ?_
    exact o_iret S hr hlo I f dX12_count_156
  have f := (if_neg q50).symm.trans f
  refine lv_tableOut (tgt := 157) S.1 S.2.1 dX12_count_6 (by have := lv_neT q3 (a := 0) (by decide); have := lv_neT q6 (a := 1) (by decide); have := lv_neT q9 (a := 2) (by decide); have := lv_neT q12 (a := 3) (by decide); have := lv_neT q15 (a := 4) (by decide); have := lv_neT q18 (a := 5) (by decide); have := lv_neT q21 (a := 6) (by decide); have := lv_neT q26 (a := 7) (by decide); have := lv_neT q29 (a := 8) (by decide); have := lv_neT q34 (a := 9) (by decide); have := lv_neT q39 (a := 10) (by decide); have := lv_neT q44 (a := 11) (by decide); have := lv_neT q47 (a := 12) (by decide); have := lv_neT q50 (a := 13) (by decide); omega) (by decide) ?_
  refine lv_iconst (v := (-1)) S.1 S.2.1 dX12_count_157 (by decide) ?_
  exact o_iret S hr hlo I f dX12_count_158
theorem M12_count (l : Launch) (D : va_G) (cy : Nat → ClassId) (b : Nat) (A : Nat → Prop) (fl : Bool) {h : PH} {a0 : Nat} {x1 : Int32} {out : Int32 × PH} (f : F12_count h a0 x1 = some out) : Met l yX12_count vX12_count ({ frames := 1, cells := 0, slots := 0, locals := 21 } : Room) (va_Pc [.ref (b + a0), .int x1] (ph_B D cy b A fl h)) (va_Qi (fun (r : Int32) (u : PH) => (r, u) = out) (ph_B D cy b A fl) A) 0 0 A :=
  o_met (by decide) rfl (Nat.le_of_ble_eq_true rfl) rfl (fun p e s m below meth c S hr hlo hnm ls hl I => T12_count_0 S hr hlo ((gd f).2) I (lv_sub hl [0, 1] rfl))
def vX12_deeper : List Cond := .code yX12_deeper cX12_deeper 6 (some .int) :: TB
theorem lp12_deeper_154 : Pl vX12_deeper RX12 154 12 2 .int := ⟨RX12, TX12, 87, tyX12, rfl, by decide, (fun w h9 => List.mem_cons_of_mem _ (wC_wsX120 w h9)), (List.mem_cons_of_mem _ wT_13_17), tyX12_ok, nmX12, rfl, rfl⟩
theorem gX12_deeper_X12_isSurfer : GoodIn vX12_deeper (wsV RX12 413 RX12 yX12_isSurfer vX12_isSurfer) := gV_of wT_34_14 wT_34_15 wT_34_16 wT_1_5 wT_34_17
theorem lf12_deeper_106 : Fl vX12_deeper RX12 106 12 61 := ⟨RX12, TX12, 87, rfl, by decide, (fun w h9 => List.mem_cons_of_mem _ (wC_wsX120 w h9)), (List.mem_cons_of_mem _ wT_11_4)⟩
theorem gX12_deeper_X12_peakAt : GoodIn vX12_deeper (wsV RX12 400 RX12 yX12_peakAt vX12_peakAt) := gV_of wT_34_22 wT_34_23 wT_35_0 wT_1_5 wT_35_1
theorem lf12_deeper_88 : Fl vX12_deeper RX12 88 12 55 := ⟨RX12, TX12, 87, rfl, by decide, (fun w h9 => List.mem_cons_of_mem _ (wC_wsX120 w h9)), (List.mem_cons_of_mem _ wT_10_22)⟩
theorem gX12_deeper_X12_far : GoodIn vX12_deeper (wsV RX12 403 RX12 yX12_far vX12_far) := gV_of wT_36_8 wT_36_9 wT_36_10 wT_1_5 wT_36_11
theorem cd12_deeper : Cd yX12_deeper 2 := ⟨by decide, by decide, by decide +kernel⟩
set_option maxHeartbeats 4000000 in
set_option maxRecDepth 100000 in
theorem T12_deeper_0 (S : CallFix p m c cX12_deeper 6 s args vX12_deeper RX12) (hr : meth.sig.returnType = (some .int)) (hlo : meth.locks = false) {out : Int32 × PH} {h : PH} {a0 : Nat} {x1 : Int32} {x2 : Int32} (f : F12_deeper_0  h a0 x1 x2 = some out) {H : Heap} {locs : List Loc} (I : ph_I D cy b A fl h s H locs) {ls : Array Slot} (hl : lv_has ls 6 [(0, .ref (b + a0)), (1, .int x1), (2, .int x2)]) : W p l e ({ frames := 5, cells := 0, slots := 0, locals := 120 } : Room) s m args below meth c H locs 0 0 (MQ below (va_Qi (fun (r : Int32) (u : PH) => (r, u) = out) (ph_B D cy b A fl) A) args s 0 0 A) (F0 m 0 ls []) := by
  unfold F12_deeper_0 at f
  refine lv_aload_n S.1 S.2.1 dX12_deeper_0 rfl (lv_at hl 0 rfl) ?_
  refine lv_iconst (v := 0) S.1 S.2.1 dX12_deeper_1 (by decide) ?_
  obtain ⟨h1, e2, f⟩ := ob f
  refine o_pI S lp12_deeper_154 I e2 dX12_deeper_2 (fun H locs I => ?_)
  refine lv_aload_n S.1 S.2.1 dX12_deeper_5 rfl (lv_at hl 0 rfl) ?_
  refine lv_iload_n S.1 S.2.1 dX12_deeper_6 rfl (lv_at hl 1 rfl) ?_
  obtain ⟨o3, e4, f⟩ := ob f
  refine o_Vi S (As := [.int x1]) (rest := []) (ci := 12) (M12_isSurfer l D cy b A fl e4) gX12_deeper_X12_isSurfer rfl rfl rfl cd12_isSurfer ⟨Nat.le_of_ble_eq_true rfl, Nat.le_of_ble_eq_true rfl⟩ I (gd e4).1 clX12 rfl rfl hl.1 rfl (Nat.le_of_ble_eq_true rfl) dX12_deeper_7 ⟨Nat.le_of_ble_eq_true rfl, Nat.le_of_ble_eq_true rfl⟩ (fun H locs I => ?_)
  refine lv_if_eq (tgt := 21) S.1 S.2.1 dX12_deeper_10 (by decide) (fun q5 => ?_) (fun q5 => ?_)
  · have f := (if_pos q5).symm.trans f
    refine lv_iconst (v := (-1)) S.1 S.2.1 dX12_deeper_21 (by decide) ?_
    exact o_iret S hr hlo I f dX12_deeper_22
  · have f := (if_neg q5).symm.trans f
    refine lv_aload_n S.1 S.2.1 dX12_deeper_13 rfl (lv_at hl 0 rfl) ?_
    refine lv_iload_n S.1 S.2.1 dX12_deeper_14 rfl (lv_at hl 2 rfl) ?_
    obtain ⟨o6, e7, f⟩ := ob f
    refine o_Vi S (As := [.int x2]) (rest := []) (ci := 12) (M12_isSurfer l D cy b A fl e7) gX12_deeper_X12_isSurfer rfl rfl rfl cd12_isSurfer ⟨Nat.le_of_ble_eq_true rfl, Nat.le_of_ble_eq_true rfl⟩ I (gd e7).1 clX12 rfl rfl hl.1 rfl (Nat.le_of_ble_eq_true rfl) dX12_deeper_15 ⟨Nat.le_of_ble_eq_true rfl, Nat.le_of_ble_eq_true rfl⟩ (fun H locs I => ?_)
    refine lv_if_ne (tgt := 23) S.1 S.2.1 dX12_deeper_18 (by decide) (fun q8 => ?_) (fun q8 => ?_)
    · have f := (if_neg q8).symm.trans f
      refine lv_aload_n S.1 S.2.1 dX12_deeper_23 rfl (lv_at hl 0 rfl) ?_
      refine lv_aload_n S.1 S.2.1 dX12_deeper_24 rfl (lv_at hl 0 rfl) ?_
      obtain ⟨r9, e10, f⟩ := ob f
      refine o_gR S lf12_deeper_106 I e10 dX12_deeper_25 ?_
      refine lv_iconst (v := 0) S.1 S.2.1 dX12_deeper_28 (by decide) ?_
      obtain ⟨v12, e11, f⟩ := ob f
      refine o_iald S I e11 dX12_deeper_29 ?_
      obtain ⟨o13, e14, f⟩ := ob f
      refine o_Vi S (As := [.int v12]) (rest := []) (ci := 12) (M12_peakAt l D cy b A fl e14) gX12_deeper_X12_peakAt rfl rfl rfl cd12_peakAt ⟨Nat.le_of_ble_eq_true rfl, Nat.le_of_ble_eq_true rfl⟩ I (gd e14).1 clX12 rfl rfl hl.1 rfl (Nat.le_of_ble_eq_true rfl) dX12_deeper_30 ⟨Nat.le_of_ble_eq_true rfl, Nat.le_of_ble_eq_true rfl⟩ (fun H locs I => ?_)
      refine lv_istore_n (lv' := [(3, .int o13.1), (0, .ref (b + a0)), (1, .int x1), (2, .int x2)]) S.1 S.2.1 dX12_deeper_33 rfl hl (by decide) rfl (fun ls hl => ?_)
      refine lv_aload_n S.1 S.2.1 dX12_deeper_34 rfl (lv_at hl 1 rfl) ?_
      refine lv_aload_n S.1 S.2.1 dX12_deeper_35 rfl (lv_at hl 1 rfl) ?_
      obtain ⟨r15, e16, f⟩ := ob f
      refine o_gR S lf12_deeper_88 I e16 dX12_deeper_36 ?_
      refine lv_iload_n S.1 S.2.1 dX12_deeper_39 rfl (lv_at hl 2 rfl) ?_
      obtain ⟨v18, e17, f⟩ := ob f
      refine o_iald S I e17 dX12_deeper_40 ?_
      refine lv_iload_n S.1 S.2.1 dX12_deeper_41 rfl (lv_at hl 0 rfl) ?_
      obtain ⟨o19, e20, f⟩ := ob f
      refine o_Vi S (As := [.int v18, .int o13.1]) (rest := []) (ci := 12) (M12_far l D cy b A fl e20) gX12_deeper_X12_far rfl rfl rfl cd12_far ⟨Nat.le_of_ble_eq_true rfl, Nat.le_of_ble_eq_true rfl⟩ I (gd e20).1 clX12 rfl rfl hl.1 rfl (Nat.le_of_ble_eq_true rfl) dX12_deeper_42 ⟨Nat.le_of_ble_eq_true rfl, Nat.le_of_ble_eq_true rfl⟩ (fun H locs I => ?_)
      refine lv_istore (lv' := [(4, .int o19.1), (3, .int o13.1), (0, .ref (b + a0)), (1, .int x1), (2, .int x2)]) S.1 S.2.1 dX12_deeper_45 hl (by decide) rfl (fun ls hl => ?_)
      refine lv_aload_n S.1 S.2.1 dX12_deeper_47 rfl (lv_at hl 2 rfl) ?_
      refine lv_aload_n S.1 S.2.1 dX12_deeper_48 rfl (lv_at hl 2 rfl) ?_
      obtain ⟨r21, e22, f⟩ := ob f
      refine o_gR S lf12_deeper_88 I e22 dX12_deeper_49 ?_
      refine lv_iload_n S.1 S.2.1 dX12_deeper_52 rfl (lv_at hl 4 rfl) ?_
      obtain ⟨v24, e23, f⟩ := ob f
      refine o_iald S I e23 dX12_deeper_53 ?_
      refine lv_iload_n S.1 S.2.1 dX12_deeper_54 rfl (lv_at hl 1 rfl) ?_
      obtain ⟨o25, e26, f⟩ := ob f
      refine o_Vi S (As := [.int v24, .int o13.1]) (rest := []) (ci := 12) (M12_far l D cy b A fl e26) gX12_deeper_X12_far rfl rfl rfl cd12_far ⟨Nat.le_of_ble_eq_true rfl, Nat.le_of_ble_eq_true rfl⟩ I (gd e26).1 clX12 rfl rfl hl.1 rfl (Nat.le_of_ble_eq_true rfl) dX12_deeper_55 ⟨Nat.le_of_ble_eq_true rfl, Nat.le_of_ble_eq_true rfl⟩ (fun H locs I => ?_)
      refine lv_istore (lv' := [(5, .int o25.1), (4, .int o19.1), (3, .int o13.1), (0, .ref (b + a0)), (1, .int x1), (2, .int x2)]) S.1 S.2.1 dX12_deeper_58 hl (by decide) rfl (fun ls hl => ?_)
      refine lv_iload S.1 S.2.1 dX12_deeper_60 (lv_at hl 1 rfl) ?_
      refine lv_iload S.1 S.2.1 dX12_deeper_62 (lv_at hl 0 rfl) ?_
      refine lv_icmp_ge (tgt := 71) S.1 S.2.1 dX12_deeper_64 (by decide) (fun q27 => ?_) (fun q27 => ?_)
      · have f := (if_pos q27).symm.trans f
        refine lv_iload S.1 S.2.1 dX12_deeper_71 (lv_at hl 0 rfl) ?_
        refine lv_iload S.1 S.2.1 dX12_deeper_73 (lv_at hl 1 rfl) ?_
        refine lv_icmp_ge (tgt := 82) S.1 S.2.1 dX12_deeper_75 (by decide) (fun q28 => ?_) (fun q28 => ?_)
        · have f := (if_pos q28).symm.trans f
          refine lv_iconst (v := 0) S.1 S.2.1 dX12_deeper_82 (by decide) ?_
          exact o_iret S hr hlo I f dX12_deeper_83
        · have f := (if_neg q28).symm.trans f
          refine lv_iconst (v := 2) S.1 S.2.1 dX12_deeper_78 (by decide) ?_
          refine lv_goto (tgt := 83) S.1 S.2.1 dX12_deeper_79 (by decide) ?_
          exact o_iret S hr hlo I f dX12_deeper_83
      · have f := (if_neg q27).symm.trans f
        refine lv_iconst (v := 1) S.1 S.2.1 dX12_deeper_67 (by decide) ?_
        refine lv_goto (tgt := 83) S.1 S.2.1 dX12_deeper_68 (by decide) ?_
        exact o_iret S hr hlo I f dX12_deeper_83
    · have f := (if_pos q8).symm.trans f
      refine lv_iconst (v := (-1)) S.1 S.2.1 dX12_deeper_21 (by decide) ?_
      exact o_iret S hr hlo I f dX12_deeper_22
theorem M12_deeper (l : Launch) (D : va_G) (cy : Nat → ClassId) (b : Nat) (A : Nat → Prop) (fl : Bool) {h : PH} {a0 : Nat} {x1 : Int32} {x2 : Int32} {out : Int32 × PH} (f : F12_deeper h a0 x1 x2 = some out) : Met l yX12_deeper vX12_deeper ({ frames := 5, cells := 0, slots := 0, locals := 120 } : Room) (va_Pc [.ref (b + a0), .int x1, .int x2] (ph_B D cy b A fl h)) (va_Qi (fun (r : Int32) (u : PH) => (r, u) = out) (ph_B D cy b A fl) A) 0 0 A :=
  o_met (by decide) rfl (Nat.le_of_ble_eq_true rfl) rfl (fun p e s m below meth c S hr hlo hnm ls hl I => T12_deeper_0 S hr hlo ((gd f).2) I (lv_sub hl [0, 1, 2] rfl))
def vX12_fails : List Cond := .code yX12_fails cX12_fails 2 (some .int) :: TB
theorem lp12_fails_154 : Pl vX12_fails RX12 154 12 2 .int := ⟨RX12, TX12, 87, tyX12, rfl, by decide, (fun w h9 => List.mem_cons_of_mem _ (wC_wsX120 w h9)), (List.mem_cons_of_mem _ wT_13_17), tyX12_ok, nmX12, rfl, rfl⟩
theorem cd12_fails : Cd yX12_fails 1 := ⟨by decide, by decide, by decide +kernel⟩
set_option maxHeartbeats 4000000 in
set_option maxRecDepth 100000 in
theorem T12_fails_0 (S : CallFix p m c cX12_fails 2 s args vX12_fails RX12) (hr : meth.sig.returnType = (some .int)) (hlo : meth.locks = false) {out : Int32 × PH} {h : PH} {a0 : Nat} {x1 : Int32} (f : F12_fails_0  h a0 x1 = some out) {H : Heap} {locs : List Loc} (I : ph_I D cy b A fl h s H locs) {ls : Array Slot} (hl : lv_has ls 2 [(0, .ref (b + a0)), (1, .int x1)]) : W p l e ({ frames := 0, cells := 0, slots := 0, locals := 0 } : Room) s m args below meth c H locs 0 0 (MQ below (va_Qi (fun (r : Int32) (u : PH) => (r, u) = out) (ph_B D cy b A fl) A) args s 0 0 A) (F0 m 0 ls []) := by
  unfold F12_fails_0 at f
  refine lv_aload_n S.1 S.2.1 dX12_fails_0 rfl (lv_at hl 0 rfl) ?_
  refine lv_iload_n S.1 S.2.1 dX12_fails_1 rfl (lv_at hl 1 rfl) ?_
  obtain ⟨h1, e2, f⟩ := ob f
  refine o_pI S lp12_fails_154 I e2 dX12_fails_2 (fun H locs I => ?_)
  refine lv_iconst (v := 0) S.1 S.2.1 dX12_fails_5 (by decide) ?_
  exact o_iret S hr hlo I f dX12_fails_6
theorem M12_fails (l : Launch) (D : va_G) (cy : Nat → ClassId) (b : Nat) (A : Nat → Prop) (fl : Bool) {h : PH} {a0 : Nat} {x1 : Int32} {out : Int32 × PH} (f : F12_fails h a0 x1 = some out) : Met l yX12_fails vX12_fails ({ frames := 0, cells := 0, slots := 0, locals := 0 } : Room) (va_Pc [.ref (b + a0), .int x1] (ph_B D cy b A fl h)) (va_Qi (fun (r : Int32) (u : PH) => (r, u) = out) (ph_B D cy b A fl) A) 0 0 A :=
  o_met (by decide) rfl (Nat.le_of_ble_eq_true rfl) rfl (fun p e s m below meth c S hr hlo hnm ls hl I => T12_fails_0 S hr hlo ((gd f).2) I (lv_sub hl [0, 1] rfl))
def vX12_run : List Cond := .code yX12_run cX12_run 5 none :: TB
theorem lf12_run_372 : Fl vX12_run RX12 372 12 65 := ⟨RX12, TX12, 87, rfl, by decide, (fun w h9 => List.mem_cons_of_mem _ (wC_wsX120 w h9)), (List.mem_cons_of_mem _ wT_13_0)⟩
theorem lp12_run_372 : Pl vX12_run RX12 372 12 65 .long := ⟨RX12, TX12, 87, tyX12, rfl, by decide, (fun w h9 => List.mem_cons_of_mem _ (wC_wsX120 w h9)), (List.mem_cons_of_mem _ wT_13_0), tyX12_ok, nmX12, rfl, rfl⟩
theorem gX12_run_X12_layTried : GoodIn vX12_run (wsV RX12 509 RX12 yX12_layTried vX12_layTried) := gV_of wT_58_9 wT_58_10 wT_58_11 wT_1_5 wT_58_12
theorem gX12_run_X12_goesOn : GoodIn vX12_run (wsV RX12 512 RX12 yX12_goesOn vX12_goesOn) := gV_of wT_58_13 wT_58_14 wT_58_15 wT_1_5 wT_58_16
theorem cd12_run : Cd yX12_run 2 := ⟨by decide, by decide, by decide +kernel⟩
set_option maxHeartbeats 4000000 in
set_option maxRecDepth 100000 in
theorem T12_run_0 (S : CallFix p m c cX12_run 5 s args vX12_run RX12) (hr : meth.sig.returnType = none) (hlo : meth.locks = false) {out : PH} {h : PH} {a0 : Nat} {x1 : Int32} {x2 : Int32} (f : F12_run_0  h a0 x1 x2 = some out) {H : Heap} {locs : List Loc} (I : ph_I D cy b A fl h s H locs) {ls : Array Slot} (hl : lv_has ls 5 [(0, .ref (b + a0)), (1, .int x1), (2, .int x2)]) : W p l e ({ frames := 12, cells := 0, slots := 0, locals := 289 } : Room) s m args below meth c H locs 0 0 (MQ below (va_Qv (fun (u : PH) => u = out) (ph_B D cy b A fl) A) args s 0 0 A) (F0 m 0 ls []) := by
  unfold F12_run_0 at f
  refine lv_aload_n S.1 S.2.1 dX12_run_0 rfl (lv_at hl 0 rfl) ?_
  obtain ⟨w1, e2, f⟩ := ob f
  refine o_gJ S lf12_run_372 I e2 dX12_run_1 ?_
  refine lv_lstore_n (lv' := [(3, .long w1), (0, .ref (b + a0)), (1, .int x1), (2, .int x2)]) S.1 S.2.1 dX12_run_4 rfl hl (by decide) rfl (fun ls hl => ?_)
  refine lv_aload_n S.1 S.2.1 dX12_run_5 rfl (lv_at hl 1 rfl) ?_
  refine lv_iload_n S.1 S.2.1 dX12_run_6 rfl (lv_at hl 3 rfl) ?_
  refine lv_i2l (v := Int32.toInt64 x2) S.1 S.2.1 dX12_run_7 rfl ?_
  obtain ⟨h3, e4, f⟩ := ob f
  refine o_pJ S lp12_run_372 I e4 dX12_run_8 (fun H locs I => ?_)
  refine lv_aload_n S.1 S.2.1 dX12_run_11 rfl (lv_at hl 1 rfl) ?_
  obtain ⟨o5, e6, f⟩ := ob f
  refine o_Vv S (As := []) (rest := []) (ci := 12) (M12_layTried l D cy b A fl e6) gX12_run_X12_layTried rfl rfl rfl cd12_layTried ⟨Nat.le_of_ble_eq_true rfl, Nat.le_of_ble_eq_true rfl⟩ I (gd e6).1 clX12 rfl rfl hl.1 rfl (Nat.le_of_ble_eq_true rfl) dX12_run_12 ⟨Nat.le_of_ble_eq_true rfl, Nat.le_of_ble_eq_true rfl⟩ (fun H locs I => ?_)
  refine lv_aload_n S.1 S.2.1 dX12_run_15 rfl (lv_at hl 1 rfl) ?_
  refine lv_iload_n S.1 S.2.1 dX12_run_16 rfl (lv_at hl 2 rfl) ?_
  obtain ⟨o7, e8, f⟩ := ob f
  refine o_Vv S (As := [.int x1]) (rest := []) (ci := 12) (M12_goesOn l D cy b A fl e8) gX12_run_X12_goesOn rfl rfl rfl cd12_goesOn ⟨Nat.le_of_ble_eq_true rfl, Nat.le_of_ble_eq_true rfl⟩ I (gd e8).1 clX12 rfl rfl hl.1 rfl (Nat.le_of_ble_eq_true rfl) dX12_run_17 ⟨Nat.le_of_ble_eq_true rfl, Nat.le_of_ble_eq_true rfl⟩ (fun H locs I => ?_)
  refine lv_aload_n S.1 S.2.1 dX12_run_20 rfl (lv_at hl 1 rfl) ?_
  refine lv_lload_n S.1 S.2.1 dX12_run_21 rfl (lv_at hl 0 rfl) ?_
  obtain ⟨h9, e10, f⟩ := ob f
  refine o_pJ S lp12_run_372 I e10 dX12_run_22 (fun H locs I => ?_)
  exact o_vret S hr hlo I f dX12_run_25
theorem M12_run (l : Launch) (D : va_G) (cy : Nat → ClassId) (b : Nat) (A : Nat → Prop) (fl : Bool) {h : PH} {a0 : Nat} {x1 : Int32} {x2 : Int32} {out : PH} (f : F12_run h a0 x1 x2 = some out) : Met l yX12_run vX12_run ({ frames := 12, cells := 0, slots := 0, locals := 289 } : Room) (va_Pc [.ref (b + a0), .int x1, .int x2] (ph_B D cy b A fl h)) (va_Qv (fun (u : PH) => u = out) (ph_B D cy b A fl) A) 0 0 A :=
  o_met (by decide) rfl (Nat.le_of_ble_eq_true rfl) rfl (fun p e s m below meth c S hr hlo hnm ls hl I => T12_run_0 S hr hlo ((gd f).2) I (lv_sub hl [0, 1, 2] rfl))
def vX12_unlike : List Cond := .code yX12_unlike cX12_unlike 5 (some .int) :: TB
theorem lf12_unlike_91 : Fl vX12_unlike RX12 91 12 56 := ⟨RX12, TX12, 87, rfl, by decide, (fun w h9 => List.mem_cons_of_mem _ (wC_wsX120 w h9)), (List.mem_cons_of_mem _ wT_10_23)⟩
theorem lf12_unlike_247 : Fl vX12_unlike RX12 247 12 14 := ⟨RX12, TX12, 87, rfl, by decide, (fun w h9 => List.mem_cons_of_mem _ (wC_wsX120 w h9)), (List.mem_cons_of_mem _ wT_12_12)⟩
theorem cd12_unlike : Cd yX12_unlike 1 := ⟨by decide, by decide, by decide +kernel⟩
set_option maxHeartbeats 4000000 in
set_option maxRecDepth 100000 in
theorem T12_unlike_47 (S : CallFix p m c cX12_unlike 5 s args vX12_unlike RX12) (hr : meth.sig.returnType = (some .int)) (hlo : meth.locks = false) {out : Int32 × PH} {k8 : PH → Nat → Int32 → Int32 → Int32 → Int32 → Option (Int32 × PH)} (hk8 : ∀ {h : PH} {a0 : Nat} {x1 : Int32} {x2 : Int32} {x3 : Int32} {x4 : Int32}, k8 h a0 x1 x2 x3 x4 = some out → ∀ (H : Heap) (locs : List Loc), ph_I D cy b A fl h s H locs → ∀ (ls : Array Slot), lv_has ls 5 [(0, .ref (b + a0)), (1, .int x1), (2, .int x2), (3, .int x3), (4, .int x4)] → W p l e ({ frames := 0, cells := 0, slots := 0, locals := 0 } : Room) s m args below meth c H locs 0 0 (MQ below (va_Qi (fun (r : Int32) (u : PH) => (r, u) = out) (ph_B D cy b A fl) A) args s 0 0 A) (F0 m 8 ls [])) {h : PH} {a0 : Nat} {x1 : Int32} {x3 : Int32} {x4 : Int32} {s0 : Int32} (f : F12_unlike_47 k8 h a0 x1 x3 x4 s0 = some out) {H : Heap} {locs : List Loc} (I : ph_I D cy b A fl h s H locs) {ls : Array Slot} (hl : lv_has ls 5 [(0, .ref (b + a0)), (1, .int x1), (3, .int x3), (4, .int x4)]) : W p l e ({ frames := 0, cells := 0, slots := 0, locals := 0 } : Room) s m args below meth c H locs 0 0 (MQ below (va_Qi (fun (r : Int32) (u : PH) => (r, u) = out) (ph_B D cy b A fl) A) args s 0 0 A) (F0 m 47 ls [.int s0]) := by
  unfold F12_unlike_47 at f
  refine lv_istore_n (lv' := [(2, .int s0), (0, .ref (b + a0)), (1, .int x1), (3, .int x3), (4, .int x4)]) S.1 S.2.1 dX12_unlike_47 rfl hl (by decide) rfl (fun ls hl => ?_)
  refine lv_aload_n S.1 S.2.1 dX12_unlike_48 rfl (lv_at hl 1 rfl) ?_
  obtain ⟨r1, e2, f⟩ := ob f
  refine o_gR S lf12_unlike_91 I e2 dX12_unlike_49 ?_
  refine lv_iconst (v := 5) S.1 S.2.1 dX12_unlike_52 (by decide) ?_
  refine lv_iload_n S.1 S.2.1 dX12_unlike_53 rfl (lv_at hl 2 rfl) ?_
  refine lv_imul S.1 S.2.1 dX12_unlike_54 ?_
  refine lv_iload S.1 S.2.1 dX12_unlike_55 (lv_at hl 4 rfl) ?_
  refine lv_iadd S.1 S.2.1 dX12_unlike_57 ?_
  obtain ⟨v4, e3, f⟩ := ob f
  refine o_iald S I e3 dX12_unlike_58 ?_
  refine lv_iload_n S.1 S.2.1 dX12_unlike_59 rfl (lv_at hl 3 rfl) ?_
  refine lv_icmp_ge (tgt := 77) S.1 S.2.1 dX12_unlike_60 (by decide) (fun q5 => ?_) (fun q5 => ?_)
  · have f := (if_pos q5).symm.trans f
    refine lv_iload_n S.1 S.2.1 dX12_unlike_77 rfl (lv_at hl 3 rfl) ?_
    refine lv_istore_n (lv' := [(3, .int x3), (2, .int s0), (0, .ref (b + a0)), (1, .int x1), (4, .int x4)]) S.1 S.2.1 dX12_unlike_78 rfl hl (by decide) rfl (fun ls hl => ?_)
    refine lv_iinc (v := (x4 + 1)) (lv' := [(4, .int (x4 + 1)), (3, .int x3), (2, .int s0), (0, .ref (b + a0)), (1, .int x1)]) S.1 S.2.1 dX12_unlike_79 hl (k := 4) rfl (congrArg (fun z => x4 + z) (by decide)) (by decide) rfl (fun ls hl => ?_)
    refine lv_goto (tgt := 8) S.1 S.2.1 dX12_unlike_82 (by decide) ?_
    exact hk8 f _ _ I _ (lv_sub hl [3, 4, 2, 1, 0] rfl)
  · have f := (if_neg q5).symm.trans f
    refine lv_aload_n S.1 S.2.1 dX12_unlike_63 rfl (lv_at hl 1 rfl) ?_
    obtain ⟨r6, e7, f⟩ := ob f
    refine o_gR S lf12_unlike_91 I e7 dX12_unlike_64 ?_
    refine lv_iconst (v := 5) S.1 S.2.1 dX12_unlike_67 (by decide) ?_
    refine lv_iload_n S.1 S.2.1 dX12_unlike_68 rfl (lv_at hl 2 rfl) ?_
    refine lv_imul S.1 S.2.1 dX12_unlike_69 ?_
    refine lv_iload S.1 S.2.1 dX12_unlike_70 (lv_at hl 4 rfl) ?_
    refine lv_iadd S.1 S.2.1 dX12_unlike_72 ?_
    obtain ⟨v9, e8, f⟩ := ob f
    refine o_iald S I e8 dX12_unlike_73 ?_
    refine lv_goto (tgt := 78) S.1 S.2.1 dX12_unlike_74 (by decide) ?_
    refine lv_istore_n (lv' := [(3, .int v9), (2, .int s0), (0, .ref (b + a0)), (1, .int x1), (4, .int x4)]) S.1 S.2.1 dX12_unlike_78 rfl hl (by decide) rfl (fun ls hl => ?_)
    refine lv_iinc (v := (x4 + 1)) (lv' := [(4, .int (x4 + 1)), (3, .int v9), (2, .int s0), (0, .ref (b + a0)), (1, .int x1)]) S.1 S.2.1 dX12_unlike_79 hl (k := 4) rfl (congrArg (fun z => x4 + z) (by decide)) (by decide) rfl (fun ls hl => ?_)
    refine lv_goto (tgt := 8) S.1 S.2.1 dX12_unlike_82 (by decide) ?_
    exact hk8 f _ _ I _ (lv_sub hl [3, 4, 2, 1, 0] rfl)
set_option maxHeartbeats 4000000 in
set_option maxRecDepth 100000 in
theorem T12_unlike_8 (S : CallFix p m c cX12_unlike 5 s args vX12_unlike RX12) (hr : meth.sig.returnType = (some .int)) (hlo : meth.locks = false) {out : Int32 × PH} : ∀ (n : Nat) {h : PH} {a0 : Nat} {x1 : Int32} {x2 : Int32} {x3 : Int32} {x4 : Int32} (f : F12_unlike_8  n h a0 x1 x2 x3 x4 = some out) {H : Heap} {locs : List Loc} (I : ph_I D cy b A fl h s H locs) {ls : Array Slot} (hl : lv_has ls 5 [(0, .ref (b + a0)), (1, .int x1), (2, .int x2), (3, .int x3), (4, .int x4)]), W p l e ({ frames := 0, cells := 0, slots := 0, locals := 0 } : Room) s m args below meth c H locs 0 0 (MQ below (va_Qi (fun (r : Int32) (u : PH) => (r, u) = out) (ph_B D cy b A fl) A) args s 0 0 A) (F0 m 8 ls []) := by
  intro n
  induction n with
  | zero => intro h a0 x1 x2 x3 x4 f; rw [F12_unlike_8] at f; cases f
  | succ n ih =>
    intro h a0 x1 x2 x3 x4 f H locs I ls hl
    rw [F12_unlike_8] at f
    refine lv_iload S.1 S.2.1 dX12_unlike_8 (lv_at hl 4 rfl) ?_
    refine lv_aload_n S.1 S.2.1 dX12_unlike_10 rfl (lv_at hl 0 rfl) ?_
    obtain ⟨v1, e2, f⟩ := ob f
    refine o_gI S lf12_unlike_247 I e2 dX12_unlike_11 ?_
    refine lv_icmp_ge (tgt := 85) S.1 S.2.1 dX12_unlike_14 (by decide) (fun q3 => ?_) (fun q3 => ?_)
    · have f := (if_pos q3).symm.trans f
      refine lv_aload_n S.1 S.2.1 dX12_unlike_85 rfl (lv_at hl 0 rfl) ?_
      obtain ⟨v4, e5, f⟩ := ob f
      refine o_gI S lf12_unlike_247 I e5 dX12_unlike_86 ?_
      refine lv_if_ne (tgt := 96) S.1 S.2.1 dX12_unlike_89 (by decide) (fun q6 => ?_) (fun q6 => ?_)
      · have f := (if_neg q6).symm.trans f
        refine lv_iload_n S.1 S.2.1 dX12_unlike_96 rfl (lv_at hl 2 rfl) ?_
        refine lv_iload_n S.1 S.2.1 dX12_unlike_97 rfl (lv_at hl 3 rfl) ?_
        refine lv_isub S.1 S.2.1 dX12_unlike_98 ?_
        exact o_iret S hr hlo I f dX12_unlike_99
      · have f := (if_pos q6).symm.trans f
        refine lv_iconst (v := 0) S.1 S.2.1 dX12_unlike_92 (by decide) ?_
        refine lv_goto (tgt := 99) S.1 S.2.1 dX12_unlike_93 (by decide) ?_
        exact o_iret S hr hlo I f dX12_unlike_99
    · have f := (if_neg q3).symm.trans f
      refine lv_aload_n S.1 S.2.1 dX12_unlike_17 rfl (lv_at hl 0 rfl) ?_
      obtain ⟨r7, e8, f⟩ := ob f
      refine o_gR S lf12_unlike_91 I e8 dX12_unlike_18 ?_
      refine lv_iconst (v := 5) S.1 S.2.1 dX12_unlike_21 (by decide) ?_
      refine lv_iload_n S.1 S.2.1 dX12_unlike_22 rfl (lv_at hl 1 rfl) ?_
      refine lv_imul S.1 S.2.1 dX12_unlike_23 ?_
      refine lv_iload S.1 S.2.1 dX12_unlike_24 (lv_at hl 4 rfl) ?_
      refine lv_iadd S.1 S.2.1 dX12_unlike_26 ?_
      obtain ⟨v10, e9, f⟩ := ob f
      refine o_iald S I e9 dX12_unlike_27 ?_
      refine lv_iload_n S.1 S.2.1 dX12_unlike_28 rfl (lv_at hl 2 rfl) ?_
      refine lv_icmp_le (tgt := 46) S.1 S.2.1 dX12_unlike_29 (by decide) (fun q11 => ?_) (fun q11 => ?_)
      · have f := (if_pos q11).symm.trans f
        refine lv_iload_n S.1 S.2.1 dX12_unlike_46 rfl (lv_at hl 2 rfl) ?_
        exact T12_unlike_47 S hr hlo (fun f _ _ I _ hl => ih f I hl) f I (lv_sub hl [0, 1, 3, 4] rfl)
      · have f := (if_neg q11).symm.trans f
        refine lv_aload_n S.1 S.2.1 dX12_unlike_32 rfl (lv_at hl 0 rfl) ?_
        obtain ⟨r12, e13, f⟩ := ob f
        refine o_gR S lf12_unlike_91 I e13 dX12_unlike_33 ?_
        refine lv_iconst (v := 5) S.1 S.2.1 dX12_unlike_36 (by decide) ?_
        refine lv_iload_n S.1 S.2.1 dX12_unlike_37 rfl (lv_at hl 1 rfl) ?_
        refine lv_imul S.1 S.2.1 dX12_unlike_38 ?_
        refine lv_iload S.1 S.2.1 dX12_unlike_39 (lv_at hl 4 rfl) ?_
        refine lv_iadd S.1 S.2.1 dX12_unlike_41 ?_
        obtain ⟨v15, e14, f⟩ := ob f
        refine o_iald S I e14 dX12_unlike_42 ?_
        refine lv_goto (tgt := 47) S.1 S.2.1 dX12_unlike_43 (by decide) ?_
        exact T12_unlike_47 S hr hlo (fun f _ _ I _ hl => ih f I hl) f I (lv_sub hl [0, 1, 3, 4] rfl)
set_option maxHeartbeats 4000000 in
set_option maxRecDepth 100000 in
theorem T12_unlike_0 (S : CallFix p m c cX12_unlike 5 s args vX12_unlike RX12) (hr : meth.sig.returnType = (some .int)) (hlo : meth.locks = false) {out : Int32 × PH} {h : PH} {a0 : Nat} {x1 : Int32} (f : F12_unlike_0  h a0 x1 = some out) {H : Heap} {locs : List Loc} (I : ph_I D cy b A fl h s H locs) {ls : Array Slot} (hl : lv_has ls 5 [(0, .ref (b + a0)), (1, .int x1)]) : W p l e ({ frames := 0, cells := 0, slots := 0, locals := 0 } : Room) s m args below meth c H locs 0 0 (MQ below (va_Qi (fun (r : Int32) (u : PH) => (r, u) = out) (ph_B D cy b A fl) A) args s 0 0 A) (F0 m 0 ls []) := by
  unfold F12_unlike_0 at f
  refine lv_iconst (v := 0) S.1 S.2.1 dX12_unlike_0 (by decide) ?_
  refine lv_istore_n (lv' := [(2, .int 0), (0, .ref (b + a0)), (1, .int x1)]) S.1 S.2.1 dX12_unlike_1 rfl hl (by decide) rfl (fun ls hl => ?_)
  refine lv_bipush (v := 99) S.1 S.2.1 dX12_unlike_2 (by decide) ?_
  refine lv_istore_n (lv' := [(3, .int 99), (2, .int 0), (0, .ref (b + a0)), (1, .int x1)]) S.1 S.2.1 dX12_unlike_4 rfl hl (by decide) rfl (fun ls hl => ?_)
  refine lv_iconst (v := 0) S.1 S.2.1 dX12_unlike_5 (by decide) ?_
  refine lv_istore (lv' := [(4, .int 0), (3, .int 99), (2, .int 0), (0, .ref (b + a0)), (1, .int x1)]) S.1 S.2.1 dX12_unlike_6 hl (by decide) rfl (fun ls hl => ?_)
  exact T12_unlike_8 S hr hlo  1024 f I (lv_sub hl [3, 4, 2, 1, 0] rfl)
theorem M12_unlike (l : Launch) (D : va_G) (cy : Nat → ClassId) (b : Nat) (A : Nat → Prop) (fl : Bool) {h : PH} {a0 : Nat} {x1 : Int32} {out : Int32 × PH} (f : F12_unlike h a0 x1 = some out) : Met l yX12_unlike vX12_unlike ({ frames := 0, cells := 0, slots := 0, locals := 0 } : Room) (va_Pc [.ref (b + a0), .int x1] (ph_B D cy b A fl h)) (va_Qi (fun (r : Int32) (u : PH) => (r, u) = out) (ph_B D cy b A fl) A) 0 0 A :=
  o_met (by decide) rfl (Nat.le_of_ble_eq_true rfl) rfl (fun p e s m below meth c S hr hlo hnm ls hl I => T12_unlike_0 S hr hlo ((gd f).2) I (lv_sub hl [0, 1] rfl))
end
