section
variable {p : Program} {l : Launch} {e : Env} {s : State} {m : MethodId} {args : Array Value} {below : List Frame} {meth : Method} {c : Code} {D : va_G} {cy : Nat → ClassId} {b : Nat} {A : Nat → Prop} {fl : Bool}
def vX12_fairest : List Cond := .code yX12_fairest cX12_fairest 6 (some .int) :: TB
theorem gX12_fairest_X12_run : GoodIn vX12_fairest (wsV RX12 515 RX12 yX12_run vX12_run) := gV_of wT_58_5 wT_58_6 wT_58_7 wT_1_5 wT_58_8
theorem gX12_fairest_X12_unlike : GoodIn vX12_fairest (wsV RX12 518 RX12 yX12_unlike vX12_unlike) := gV_of wT_58_17 wT_58_18 wT_58_19 wT_1_5 wT_58_20
theorem lf12_fairest_109 : Fl vX12_fairest RX12 109 12 62 := ⟨RX12, TX12, 87, rfl, by decide, (fun w h9 => List.mem_cons_of_mem _ (wC_wsX120 w h9)), (List.mem_cons_of_mem _ wT_11_5)⟩
theorem lf12_fairest_112 : Fl vX12_fairest RX12 112 12 63 := ⟨RX12, TX12, 87, rfl, by decide, (fun w h9 => List.mem_cons_of_mem _ (wC_wsX120 w h9)), (List.mem_cons_of_mem _ wT_11_6)⟩
theorem lp12_fairest_154 : Pl vX12_fairest RX12 154 12 2 .int := ⟨RX12, TX12, 87, tyX12, rfl, by decide, (fun w h9 => List.mem_cons_of_mem _ (wC_wsX120 w h9)), (List.mem_cons_of_mem _ wT_13_17), tyX12_ok, nmX12, rfl, rfl⟩
theorem cd12_fairest : Cd yX12_fairest 1 := ⟨by decide, by decide, by decide +kernel⟩
set_option maxHeartbeats 4000000 in
set_option maxRecDepth 100000 in
theorem T12_fairest_69 (S : CallFix p m c cX12_fairest 6 s args vX12_fairest RX12) (hr : meth.sig.returnType = (some .int)) (hlo : meth.locks = false) {out : Int32 × PH} {k18 : PH → Nat → Int32 → Int32 → Int32 → Int32 → Option (Int32 × PH)} (hk18 : ∀ {h : PH} {a0 : Nat} {x1 : Int32} {x2 : Int32} {x3 : Int32} {x4 : Int32}, k18 h a0 x1 x2 x3 x4 = some out → ∀ (H : Heap) (locs : List Loc), ph_I D cy b A fl h s H locs → ∀ (ls : Array Slot), lv_has ls 6 [(0, .ref (b + a0)), (1, .int x1), (2, .int x2), (3, .int x3), (4, .int x4)] → W p l e ({ frames := 13, cells := 0, slots := 0, locals := 313 } : Room) s m args below meth c H locs 0 0 (MQ below (va_Qi (fun (r : Int32) (u : PH) => (r, u) = out) (ph_B D cy b A fl) A) args s 0 0 A) (F0 m 18 ls [])) {h : PH} {a0 : Nat} {x1 : Int32} {x4 : Int32} {x5 : Int32} (f : F12_fairest_69 k18 h a0 x1 x4 x5 = some out) {H : Heap} {locs : List Loc} (I : ph_I D cy b A fl h s H locs) {ls : Array Slot} (hl : lv_has ls 6 [(0, .ref (b + a0)), (1, .int x1), (4, .int x4), (5, .int x5)]) : W p l e ({ frames := 13, cells := 0, slots := 0, locals := 313 } : Room) s m args below meth c H locs 0 0 (MQ below (va_Qi (fun (r : Int32) (u : PH) => (r, u) = out) (ph_B D cy b A fl) A) args s 0 0 A) (F0 m 69 ls []) := by
  unfold F12_fairest_69 at f
  refine lv_iload S.1 S.2.1 dX12_fairest_69 (lv_at hl 2 rfl) ?_
  refine lv_istore_n (lv' := [(2, .int x4), (0, .ref (b + a0)), (1, .int x1), (4, .int x4), (5, .int x5)]) S.1 S.2.1 dX12_fairest_71 rfl hl (by decide) rfl (fun ls hl => ?_)
  refine lv_iload S.1 S.2.1 dX12_fairest_72 (lv_at hl 4 rfl) ?_
  refine lv_istore_n (lv' := [(3, .int x5), (2, .int x4), (0, .ref (b + a0)), (1, .int x1), (4, .int x4), (5, .int x5)]) S.1 S.2.1 dX12_fairest_74 rfl hl (by decide) rfl (fun ls hl => ?_)
  refine lv_iinc (v := (x4 + 1)) (lv' := [(4, .int (x4 + 1)), (3, .int x5), (2, .int x4), (0, .ref (b + a0)), (1, .int x1), (5, .int x5)]) S.1 S.2.1 dX12_fairest_75 hl (k := 4) rfl (congrArg (fun z => x4 + z) (by decide)) (by decide) rfl (fun ls hl => ?_)
  refine lv_goto (tgt := 18) S.1 S.2.1 dX12_fairest_78 (by decide) ?_
  exact hk18 f _ _ I _ (lv_sub hl [3, 4, 2, 1, 0] rfl)
set_option maxHeartbeats 4000000 in
set_option maxRecDepth 100000 in
theorem T12_fairest_18 (S : CallFix p m c cX12_fairest 6 s args vX12_fairest RX12) (hr : meth.sig.returnType = (some .int)) (hlo : meth.locks = false) {out : Int32 × PH} : ∀ (n : Nat) {h : PH} {a0 : Nat} {x1 : Int32} {x2 : Int32} {x3 : Int32} {x4 : Int32} (f : F12_fairest_18  n h a0 x1 x2 x3 x4 = some out) {H : Heap} {locs : List Loc} (I : ph_I D cy b A fl h s H locs) {ls : Array Slot} (hl : lv_has ls 6 [(0, .ref (b + a0)), (1, .int x1), (2, .int x2), (3, .int x3), (4, .int x4)]), W p l e ({ frames := 13, cells := 0, slots := 0, locals := 313 } : Room) s m args below meth c H locs 0 0 (MQ below (va_Qi (fun (r : Int32) (u : PH) => (r, u) = out) (ph_B D cy b A fl) A) args s 0 0 A) (F0 m 18 ls []) := by
  intro n
  induction n with
  | zero => intro h a0 x1 x2 x3 x4 f; rw [F12_fairest_18] at f; cases f
  | succ n ih =>
    intro h a0 x1 x2 x3 x4 f H locs I ls hl
    rw [F12_fairest_18] at f
    refine lv_iload S.1 S.2.1 dX12_fairest_18 (lv_at hl 4 rfl) ?_
    refine lv_iconst (v := 4) S.1 S.2.1 dX12_fairest_20 (by decide) ?_
    refine lv_icmp_ge (tgt := 81) S.1 S.2.1 dX12_fairest_21 (by decide) (fun q1 => ?_) (fun q1 => ?_)
    · have f := (if_pos q1).symm.trans f
      refine lv_iload_n S.1 S.2.1 dX12_fairest_81 rfl (lv_at hl 2 rfl) ?_
      exact o_iret S hr hlo I f dX12_fairest_82
    · have f := (if_neg q1).symm.trans f
      refine lv_aload_n S.1 S.2.1 dX12_fairest_24 rfl (lv_at hl 0 rfl) ?_
      refine lv_iload S.1 S.2.1 dX12_fairest_25 (lv_at hl 4 rfl) ?_
      refine lv_iload_n S.1 S.2.1 dX12_fairest_27 rfl (lv_at hl 1 rfl) ?_
      obtain ⟨o2, e3, f⟩ := ob f
      refine o_Vv S (As := [.int x4, .int x1]) (rest := []) (ci := 12) (M12_run l D cy b A fl e3) gX12_fairest_X12_run rfl rfl rfl cd12_run ⟨Nat.le_of_ble_eq_true rfl, Nat.le_of_ble_eq_true rfl⟩ I (gd e3).1 clX12 rfl rfl hl.1 rfl (Nat.le_of_ble_eq_true rfl) dX12_fairest_28 ⟨Nat.le_of_ble_eq_true rfl, Nat.le_of_ble_eq_true rfl⟩ (fun H locs I => ?_)
      refine lv_sipush (v := 1000) S.1 S.2.1 dX12_fairest_31 (by decide) ?_
      refine lv_aload_n S.1 S.2.1 dX12_fairest_34 rfl (lv_at hl 0 rfl) ?_
      refine lv_iconst (v := 1) S.1 S.2.1 dX12_fairest_35 (by decide) ?_
      obtain ⟨o4, e5, f⟩ := ob f
      refine o_Vi S (As := [.int 1]) (rest := [.int 1000]) (ci := 12) (M12_unlike l D cy b A fl e5) gX12_fairest_X12_unlike rfl rfl rfl cd12_unlike ⟨Nat.le_of_ble_eq_true rfl, Nat.le_of_ble_eq_true rfl⟩ I (gd e5).1 clX12 rfl rfl hl.1 rfl (Nat.le_of_ble_eq_true rfl) dX12_fairest_36 ⟨Nat.le_of_ble_eq_true rfl, Nat.le_of_ble_eq_true rfl⟩ (fun H locs I => ?_)
      refine lv_imul S.1 S.2.1 dX12_fairest_39 ?_
      refine lv_aload_n S.1 S.2.1 dX12_fairest_40 rfl (lv_at hl 0 rfl) ?_
      obtain ⟨r6, e7, f⟩ := ob f
      refine o_gR S lf12_fairest_109 I e7 dX12_fairest_41 ?_
      refine lv_iconst (v := 1) S.1 S.2.1 dX12_fairest_44 (by decide) ?_
      obtain ⟨v9, e8, f⟩ := ob f
      refine o_iald S I e8 dX12_fairest_45 ?_
      refine lv_iadd S.1 S.2.1 dX12_fairest_46 ?_
      refine lv_aload_n S.1 S.2.1 dX12_fairest_47 rfl (lv_at hl 0 rfl) ?_
      obtain ⟨r10, e11, f⟩ := ob f
      refine o_gR S lf12_fairest_112 I e11 dX12_fairest_48 ?_
      refine lv_iconst (v := 1) S.1 S.2.1 dX12_fairest_51 (by decide) ?_
      obtain ⟨v13, e12, f⟩ := ob f
      refine o_iald S I e12 dX12_fairest_52 ?_
      refine lv_iadd S.1 S.2.1 dX12_fairest_53 ?_
      refine lv_istore (lv' := [(5, .int (((1000 * o4.1) + v9) + v13)), (0, .ref (b + a0)), (1, .int x1), (2, .int x2), (3, .int x3), (4, .int x4)]) S.1 S.2.1 dX12_fairest_54 hl (by decide) rfl (fun ls hl => ?_)
      refine lv_iload_n S.1 S.2.1 dX12_fairest_56 rfl (lv_at hl 3 rfl) ?_
      refine lv_if_lt (tgt := 69) S.1 S.2.1 dX12_fairest_57 (by decide) (fun q14 => ?_) (fun q14 => ?_)
      · have f := (if_pos q14).symm.trans f
        exact T12_fairest_69 S hr hlo (fun f _ _ I _ hl => ih f I hl) f I (lv_sub hl [1, 2, 5, 0] rfl)
      · have f := (if_neg q14).symm.trans f
        refine lv_iload S.1 S.2.1 dX12_fairest_60 (lv_at hl 0 rfl) ?_
        refine lv_iload_n S.1 S.2.1 dX12_fairest_62 rfl (lv_at hl 4 rfl) ?_
        refine lv_icmp_lt (tgt := 69) S.1 S.2.1 dX12_fairest_63 (by decide) (fun q15 => ?_) (fun q15 => ?_)
        · have f := (if_pos q15).symm.trans f
          exact T12_fairest_69 S hr hlo (fun f _ _ I _ hl => ih f I hl) f I (lv_sub hl [1, 2, 5, 0] rfl)
        · have f := (if_neg q15).symm.trans f
          refine lv_goto (tgt := 75) S.1 S.2.1 dX12_fairest_66 (by decide) ?_
          refine lv_iinc (v := (x4 + 1)) (lv' := [(4, .int (x4 + 1)), (5, .int (((1000 * o4.1) + v9) + v13)), (0, .ref (b + a0)), (1, .int x1), (2, .int x2), (3, .int x3)]) S.1 S.2.1 dX12_fairest_75 hl (k := 5) rfl (congrArg (fun z => x4 + z) (by decide)) (by decide) rfl (fun ls hl => ?_)
          refine lv_goto (tgt := 18) S.1 S.2.1 dX12_fairest_78 (by decide) ?_
          exact ih f I (lv_sub hl [2, 3, 4, 5, 0] rfl)
set_option maxHeartbeats 4000000 in
set_option maxRecDepth 100000 in
theorem T12_fairest_0 (S : CallFix p m c cX12_fairest 6 s args vX12_fairest RX12) (hr : meth.sig.returnType = (some .int)) (hlo : meth.locks = false) {out : Int32 × PH} {h : PH} {a0 : Nat} {x1 : Int32} (f : F12_fairest_0  h a0 x1 = some out) {H : Heap} {locs : List Loc} (I : ph_I D cy b A fl h s H locs) {ls : Array Slot} (hl : lv_has ls 6 [(0, .ref (b + a0)), (1, .int x1)]) : W p l e ({ frames := 13, cells := 0, slots := 0, locals := 313 } : Room) s m args below meth c H locs 0 0 (MQ below (va_Qi (fun (r : Int32) (u : PH) => (r, u) = out) (ph_B D cy b A fl) A) args s 0 0 A) (F0 m 0 ls []) := by
  unfold F12_fairest_0 at f
  refine lv_aload_n S.1 S.2.1 dX12_fairest_0 rfl (lv_at hl 0 rfl) ?_
  refine lv_iconst (v := 0) S.1 S.2.1 dX12_fairest_1 (by decide) ?_
  obtain ⟨h1, e2, f⟩ := ob f
  refine o_pI S lp12_fairest_154 I e2 dX12_fairest_2 (fun H locs I => ?_)
  refine lv_iload_n S.1 S.2.1 dX12_fairest_5 rfl (lv_at hl 1 rfl) ?_
  refine lv_if_ge (tgt := 11) S.1 S.2.1 dX12_fairest_6 (by decide) (fun q3 => ?_) (fun q3 => ?_)
  · have f := (if_pos q3).symm.trans f
    refine lv_iconst (v := (-1)) S.1 S.2.1 dX12_fairest_11 (by decide) ?_
    refine lv_istore_n (lv' := [(2, .int (-1)), (0, .ref (b + a0)), (1, .int x1)]) S.1 S.2.1 dX12_fairest_12 rfl hl (by decide) rfl (fun ls hl => ?_)
    refine lv_iconst (v := 0) S.1 S.2.1 dX12_fairest_13 (by decide) ?_
    refine lv_istore_n (lv' := [(3, .int 0), (2, .int (-1)), (0, .ref (b + a0)), (1, .int x1)]) S.1 S.2.1 dX12_fairest_14 rfl hl (by decide) rfl (fun ls hl => ?_)
    refine lv_iconst (v := 0) S.1 S.2.1 dX12_fairest_15 (by decide) ?_
    refine lv_istore (lv' := [(4, .int 0), (3, .int 0), (2, .int (-1)), (0, .ref (b + a0)), (1, .int x1)]) S.1 S.2.1 dX12_fairest_16 hl (by decide) rfl (fun ls hl => ?_)
    exact T12_fairest_18 S hr hlo  1024 f I (lv_sub hl [3, 4, 2, 1, 0] rfl)
  · have f := (if_neg q3).symm.trans f
    refine lv_iconst (v := (-1)) S.1 S.2.1 dX12_fairest_9 (by decide) ?_
    exact o_iret S hr hlo I f dX12_fairest_10
theorem M12_fairest (l : Launch) (D : va_G) (cy : Nat → ClassId) (b : Nat) (A : Nat → Prop) (fl : Bool) {h : PH} {a0 : Nat} {x1 : Int32} {out : Int32 × PH} (f : F12_fairest h a0 x1 = some out) : Met l yX12_fairest vX12_fairest ({ frames := 13, cells := 0, slots := 0, locals := 313 } : Room) (va_Pc [.ref (b + a0), .int x1] (ph_B D cy b A fl h)) (va_Qi (fun (r : Int32) (u : PH) => (r, u) = out) (ph_B D cy b A fl) A) 0 0 A :=
  o_met (by decide) rfl (Nat.le_of_ble_eq_true rfl) rfl (fun p e s m below meth c S hr hlo hnm ls hl I => T12_fairest_0 S hr hlo ((gd f).2) I (lv_sub hl [0, 1] rfl))
def vX12_fault : List Cond := .code yX12_fault cX12_fault 2 (some .int) :: TB
theorem lp12_fault_154 : Pl vX12_fault RX12 154 12 2 .int := ⟨RX12, TX12, 87, tyX12, rfl, by decide, (fun w h9 => List.mem_cons_of_mem _ (wC_wsX120 w h9)), (List.mem_cons_of_mem _ wT_13_17), tyX12_ok, nmX12, rfl, rfl⟩
theorem lf12_fault_16 : Fl vX12_fault RX12 16 12 5 := ⟨RX12, TX12, 87, rfl, by decide, (fun w h9 => List.mem_cons_of_mem _ (wC_wsX120 w h9)), (List.mem_cons_of_mem _ wT_9_23)⟩
theorem lf12_fault_160 : Fl vX12_fault RX12 160 12 4 := ⟨RX12, TX12, 87, rfl, by decide, (fun w h9 => List.mem_cons_of_mem _ (wC_wsX120 w h9)), (List.mem_cons_of_mem _ wT_26_18)⟩
theorem cd12_fault : Cd yX12_fault 1 := ⟨by decide, by decide, by decide +kernel⟩
set_option maxHeartbeats 4000000 in
set_option maxRecDepth 100000 in
theorem T12_fault_0 (S : CallFix p m c cX12_fault 2 s args vX12_fault RX12) (hr : meth.sig.returnType = (some .int)) (hlo : meth.locks = false) {out : Int32 × PH} {h : PH} {a0 : Nat} {x1 : Int32} (f : F12_fault_0  h a0 x1 = some out) {H : Heap} {locs : List Loc} (I : ph_I D cy b A fl h s H locs) {ls : Array Slot} (hl : lv_has ls 2 [(0, .ref (b + a0)), (1, .int x1)]) : W p l e ({ frames := 0, cells := 0, slots := 0, locals := 0 } : Room) s m args below meth c H locs 0 0 (MQ below (va_Qi (fun (r : Int32) (u : PH) => (r, u) = out) (ph_B D cy b A fl) A) args s 0 0 A) (F0 m 0 ls []) := by
  unfold F12_fault_0 at f
  refine lv_aload_n S.1 S.2.1 dX12_fault_0 rfl (lv_at hl 0 rfl) ?_
  refine lv_iconst (v := 0) S.1 S.2.1 dX12_fault_1 (by decide) ?_
  obtain ⟨h1, e2, f⟩ := ob f
  refine o_pI S lp12_fault_154 I e2 dX12_fault_2 (fun H locs I => ?_)
  refine lv_iload_n S.1 S.2.1 dX12_fault_5 rfl (lv_at hl 1 rfl) ?_
  refine lv_if_ne (tgt := 16) S.1 S.2.1 dX12_fault_6 (by decide) (fun q3 => ?_) (fun q3 => ?_)
  · have f := (if_neg q3).symm.trans f
    refine lv_iload_n S.1 S.2.1 dX12_fault_16 rfl (lv_at hl 1 rfl) ?_
    refine lv_iconst (v := 1) S.1 S.2.1 dX12_fault_17 (by decide) ?_
    refine lv_icmp_ne (tgt := 28) S.1 S.2.1 dX12_fault_18 (by decide) (fun q4 => ?_) (fun q4 => ?_)
    · have f := (if_neg q4).symm.trans f
      refine lv_iconst (v := (-1)) S.1 S.2.1 dX12_fault_28 (by decide) ?_
      exact o_iret S hr hlo I f dX12_fault_29
    · have f := (if_pos q4).symm.trans f
      refine lv_aload_n S.1 S.2.1 dX12_fault_21 rfl (lv_at hl 0 rfl) ?_
      obtain ⟨v5, e6, f⟩ := ob f
      refine o_gI S lf12_fault_16 I e6 dX12_fault_22 ?_
      refine lv_goto (tgt := 29) S.1 S.2.1 dX12_fault_25 (by decide) ?_
      exact o_iret S hr hlo I f dX12_fault_29
  · have f := (if_pos q3).symm.trans f
    refine lv_aload_n S.1 S.2.1 dX12_fault_9 rfl (lv_at hl 0 rfl) ?_
    obtain ⟨v7, e8, f⟩ := ob f
    refine o_gI S lf12_fault_160 I e8 dX12_fault_10 ?_
    refine lv_goto (tgt := 29) S.1 S.2.1 dX12_fault_13 (by decide) ?_
    exact o_iret S hr hlo I f dX12_fault_29
theorem M12_fault (l : Launch) (D : va_G) (cy : Nat → ClassId) (b : Nat) (A : Nat → Prop) (fl : Bool) {h : PH} {a0 : Nat} {x1 : Int32} {out : Int32 × PH} (f : F12_fault h a0 x1 = some out) : Met l yX12_fault vX12_fault ({ frames := 0, cells := 0, slots := 0, locals := 0 } : Room) (va_Pc [.ref (b + a0), .int x1] (ph_B D cy b A fl h)) (va_Qi (fun (r : Int32) (u : PH) => (r, u) = out) (ph_B D cy b A fl) A) 0 0 A :=
  o_met (by decide) rfl (Nat.le_of_ble_eq_true rfl) rfl (fun p e s m below meth c S hr hlo hnm ls hl I => T12_fault_0 S hr hlo ((gd f).2) I (lv_sub hl [0, 1] rfl))
def vX12_feed : List Cond := .code yX12_feed cX12_feed 8 (some .int) :: TB
theorem lf12_feed_7 : Fl vX12_feed RX12 7 12 0 := ⟨RX12, TX12, 87, rfl, by decide, (fun w h9 => List.mem_cons_of_mem _ (wC_wsX120 w h9)), (List.mem_cons_of_mem _ wT_9_21)⟩
theorem lf12_feed_157 : Fl vX12_feed RX12 157 12 1 := ⟨RX12, TX12, 87, rfl, by decide, (fun w h9 => List.mem_cons_of_mem _ (wC_wsX120 w h9)), (List.mem_cons_of_mem _ wT_13_18)⟩
theorem lp12_feed_157 : Pl vX12_feed RX12 157 12 1 .int := ⟨RX12, TX12, 87, tyX12, rfl, by decide, (fun w h9 => List.mem_cons_of_mem _ (wC_wsX120 w h9)), (List.mem_cons_of_mem _ wT_13_18), tyX12_ok, nmX12, rfl, rfl⟩
theorem lp12_feed_154 : Pl vX12_feed RX12 154 12 2 .int := ⟨RX12, TX12, 87, tyX12, rfl, by decide, (fun w h9 => List.mem_cons_of_mem _ (wC_wsX120 w h9)), (List.mem_cons_of_mem _ wT_13_17), tyX12_ok, nmX12, rfl, rfl⟩
theorem cd12_feed : Cd yX12_feed 5 := ⟨by decide, by decide, by decide +kernel⟩
set_option maxHeartbeats 4000000 in
set_option maxRecDepth 100000 in
theorem T12_feed_76 (S : CallFix p m c cX12_feed 8 s args vX12_feed RX12) (hr : meth.sig.returnType = (some .int)) (hlo : meth.locks = false) {out : Int32 × PH} {k23 : PH → Nat → Int32 → Int32 → Int32 → Int32 → Int32 → Int32 → Option (Int32 × PH)} (hk23 : ∀ {h : PH} {a0 : Nat} {x1 : Int32} {x2 : Int32} {x3 : Int32} {x4 : Int32} {x5 : Int32} {x6 : Int32}, k23 h a0 x1 x2 x3 x4 x5 x6 = some out → ∀ (H : Heap) (locs : List Loc), ph_I D cy b A fl h s H locs → ∀ (ls : Array Slot), lv_has ls 8 [(0, .ref (b + a0)), (1, .int x1), (2, .int x2), (3, .int x3), (4, .int x4), (5, .int x5), (6, .int x6)] → W p l e ({ frames := 0, cells := 0, slots := 0, locals := 0 } : Room) s m args below meth c H locs 0 0 (MQ below (va_Qi (fun (r : Int32) (u : PH) => (r, u) = out) (ph_B D cy b A fl) A) args s 0 0 A) (F0 m 23 ls [])) {h : PH} {a0 : Nat} {x1 : Int32} {x2 : Int32} {x3 : Int32} {x4 : Int32} {x5 : Int32} {x6 : Int32} {s0 : Int32} (f : F12_feed_76 k23 h a0 x1 x2 x3 x4 x5 x6 s0 = some out) {H : Heap} {locs : List Loc} (I : ph_I D cy b A fl h s H locs) {ls : Array Slot} (hl : lv_has ls 8 [(0, .ref (b + a0)), (1, .int x1), (2, .int x2), (3, .int x3), (4, .int x4), (5, .int x5), (6, .int x6)]) : W p l e ({ frames := 0, cells := 0, slots := 0, locals := 0 } : Room) s m args below meth c H locs 0 0 (MQ below (va_Qi (fun (r : Int32) (u : PH) => (r, u) = out) (ph_B D cy b A fl) A) args s 0 0 A) (F0 m 76 ls [.int s0]) := by
  unfold F12_feed_76 at f
  refine lv_istore (lv' := [(7, .int s0), (0, .ref (b + a0)), (1, .int x1), (2, .int x2), (3, .int x3), (4, .int x4), (5, .int x5), (6, .int x6)]) S.1 S.2.1 dX12_feed_76 hl (by decide) rfl (fun ls hl => ?_)
  refine lv_aload_n S.1 S.2.1 dX12_feed_78 rfl (lv_at hl 1 rfl) ?_
  obtain ⟨r1, e2, f⟩ := ob f
  refine o_gR S lf12_feed_7 I e2 dX12_feed_79 ?_
  refine lv_aload_n S.1 S.2.1 dX12_feed_82 rfl (lv_at hl 1 rfl) ?_
  obtain ⟨v3, e4, f⟩ := ob f
  refine o_gI S lf12_feed_157 I e4 dX12_feed_83 ?_
  refine lv_iload S.1 S.2.1 dX12_feed_86 (lv_at hl 7 rfl) ?_
  refine lv_iadd S.1 S.2.1 dX12_feed_88 ?_
  refine lv_iload S.1 S.2.1 dX12_feed_89 (lv_at hl 0 rfl) ?_
  refine lv_bipush (v := 24) S.1 S.2.1 dX12_feed_91 (by decide) ?_
  refine lv_bipush (v := 8) S.1 S.2.1 dX12_feed_93 (by decide) ?_
  refine lv_iload S.1 S.2.1 dX12_feed_95 (lv_at hl 7 rfl) ?_
  refine lv_iconst (v := 4) S.1 S.2.1 dX12_feed_97 (by decide) ?_
  refine lv_irem S.1 S.2.1 dX12_feed_98 (by decide) ?_
  refine lv_imul S.1 S.2.1 dX12_feed_99 ?_
  refine lv_isub S.1 S.2.1 dX12_feed_100 ?_
  refine lv_ishr S.1 S.2.1 dX12_feed_101 ?_
  refine lv_sipush (v := 255) S.1 S.2.1 dX12_feed_102 (by decide) ?_
  refine lv_iand S.1 S.2.1 dX12_feed_105 ?_
  obtain ⟨h6, e5, f⟩ := ob f
  refine o_iast S I e5 dX12_feed_106 (fun H locs I => ?_)
  refine lv_iinc (v := (x6 + 1)) (lv' := [(6, .int (x6 + 1)), (7, .int s0), (0, .ref (b + a0)), (1, .int x1), (2, .int x2), (3, .int x3), (4, .int x4), (5, .int x5)]) S.1 S.2.1 dX12_feed_107 hl (k := 7) rfl (congrArg (fun z => x6 + z) (by decide)) (by decide) rfl (fun ls hl => ?_)
  refine lv_goto (tgt := 23) S.1 S.2.1 dX12_feed_110 (by decide) ?_
  exact hk23 f _ _ I _ (lv_sub hl [2, 3, 4, 5, 6, 7, 0] rfl)
set_option maxHeartbeats 4000000 in
set_option maxRecDepth 100000 in
theorem T12_feed_23 (S : CallFix p m c cX12_feed 8 s args vX12_feed RX12) (hr : meth.sig.returnType = (some .int)) (hlo : meth.locks = false) {out : Int32 × PH} : ∀ (n : Nat) {h : PH} {a0 : Nat} {x1 : Int32} {x2 : Int32} {x3 : Int32} {x4 : Int32} {x5 : Int32} {x6 : Int32} (f : F12_feed_23  n h a0 x1 x2 x3 x4 x5 x6 = some out) {H : Heap} {locs : List Loc} (I : ph_I D cy b A fl h s H locs) {ls : Array Slot} (hl : lv_has ls 8 [(0, .ref (b + a0)), (1, .int x1), (2, .int x2), (3, .int x3), (4, .int x4), (5, .int x5), (6, .int x6)]), W p l e ({ frames := 0, cells := 0, slots := 0, locals := 0 } : Room) s m args below meth c H locs 0 0 (MQ below (va_Qi (fun (r : Int32) (u : PH) => (r, u) = out) (ph_B D cy b A fl) A) args s 0 0 A) (F0 m 23 ls []) := by
  intro n
  induction n with
  | zero => intro h a0 x1 x2 x3 x4 x5 x6 f; rw [F12_feed_23] at f; cases f
  | succ n ih =>
    intro h a0 x1 x2 x3 x4 x5 x6 f H locs I ls hl
    rw [F12_feed_23] at f
    refine lv_iload S.1 S.2.1 dX12_feed_23 (lv_at hl 6 rfl) ?_
    refine lv_bipush (v := 20) S.1 S.2.1 dX12_feed_25 (by decide) ?_
    refine lv_icmp_ge (tgt := 113) S.1 S.2.1 dX12_feed_27 (by decide) (fun q1 => ?_) (fun q1 => ?_)
    · have f := (if_pos q1).symm.trans f
      refine lv_aload_n S.1 S.2.1 dX12_feed_113 rfl (lv_at hl 0 rfl) ?_
      refine lv_dup S.1 S.2.1 dX12_feed_114 rfl ?_
      obtain ⟨v2, e3, f⟩ := ob f
      refine o_gI S lf12_feed_157 I e3 dX12_feed_115 ?_
      refine lv_bipush (v := 20) S.1 S.2.1 dX12_feed_118 (by decide) ?_
      refine lv_iadd S.1 S.2.1 dX12_feed_120 ?_
      obtain ⟨h4, e5, f⟩ := ob f
      refine o_pI S lp12_feed_157 I e5 dX12_feed_121 (fun H locs I => ?_)
      refine lv_aload_n S.1 S.2.1 dX12_feed_124 rfl (lv_at hl 0 rfl) ?_
      obtain ⟨v6, e7, f⟩ := ob f
      refine o_gI S lf12_feed_157 I e7 dX12_feed_125 ?_
      exact o_iret S hr hlo I f dX12_feed_128
    · have f := (if_neg q1).symm.trans f
      refine lv_iload S.1 S.2.1 dX12_feed_30 (lv_at hl 6 rfl) ?_
      refine lv_iconst (v := 4) S.1 S.2.1 dX12_feed_32 (by decide) ?_
      refine lv_icmp_ge (tgt := 40) S.1 S.2.1 dX12_feed_33 (by decide) (fun q8 => ?_) (fun q8 => ?_)
      · have f := (if_pos q8).symm.trans f
        refine lv_iload S.1 S.2.1 dX12_feed_40 (lv_at hl 6 rfl) ?_
        refine lv_bipush (v := 8) S.1 S.2.1 dX12_feed_42 (by decide) ?_
        refine lv_icmp_ge (tgt := 51) S.1 S.2.1 dX12_feed_44 (by decide) (fun q9 => ?_) (fun q9 => ?_)
        · have f := (if_pos q9).symm.trans f
          refine lv_iload S.1 S.2.1 dX12_feed_51 (lv_at hl 6 rfl) ?_
          refine lv_bipush (v := 12) S.1 S.2.1 dX12_feed_53 (by decide) ?_
          refine lv_icmp_ge (tgt := 62) S.1 S.2.1 dX12_feed_55 (by decide) (fun q10 => ?_) (fun q10 => ?_)
          · have f := (if_pos q10).symm.trans f
            refine lv_iload S.1 S.2.1 dX12_feed_62 (lv_at hl 6 rfl) ?_
            refine lv_bipush (v := 16) S.1 S.2.1 dX12_feed_64 (by decide) ?_
            refine lv_icmp_ge (tgt := 74) S.1 S.2.1 dX12_feed_66 (by decide) (fun q11 => ?_) (fun q11 => ?_)
            · have f := (if_pos q11).symm.trans f
              refine lv_iload S.1 S.2.1 dX12_feed_74 (lv_at hl 5 rfl) ?_
              exact T12_feed_76 S hr hlo (fun f _ _ I _ hl => ih f I hl) f I (lv_sub hl [0, 1, 2, 3, 4, 5, 6] rfl)
            · have f := (if_neg q11).symm.trans f
              refine lv_iload S.1 S.2.1 dX12_feed_69 (lv_at hl 4 rfl) ?_
              refine lv_goto (tgt := 76) S.1 S.2.1 dX12_feed_71 (by decide) ?_
              exact T12_feed_76 S hr hlo (fun f _ _ I _ hl => ih f I hl) f I (lv_sub hl [0, 1, 2, 3, 4, 5, 6] rfl)
          · have f := (if_neg q10).symm.trans f
            refine lv_iload_n S.1 S.2.1 dX12_feed_58 rfl (lv_at hl 3 rfl) ?_
            refine lv_goto (tgt := 76) S.1 S.2.1 dX12_feed_59 (by decide) ?_
            exact T12_feed_76 S hr hlo (fun f _ _ I _ hl => ih f I hl) f I (lv_sub hl [0, 1, 2, 3, 4, 5, 6] rfl)
        · have f := (if_neg q9).symm.trans f
          refine lv_iload_n S.1 S.2.1 dX12_feed_47 rfl (lv_at hl 2 rfl) ?_
          refine lv_goto (tgt := 76) S.1 S.2.1 dX12_feed_48 (by decide) ?_
          exact T12_feed_76 S hr hlo (fun f _ _ I _ hl => ih f I hl) f I (lv_sub hl [0, 1, 2, 3, 4, 5, 6] rfl)
      · have f := (if_neg q8).symm.trans f
        refine lv_iload_n S.1 S.2.1 dX12_feed_36 rfl (lv_at hl 1 rfl) ?_
        refine lv_goto (tgt := 76) S.1 S.2.1 dX12_feed_37 (by decide) ?_
        exact T12_feed_76 S hr hlo (fun f _ _ I _ hl => ih f I hl) f I (lv_sub hl [0, 1, 2, 3, 4, 5, 6] rfl)
set_option maxHeartbeats 4000000 in
set_option maxRecDepth 100000 in
theorem T12_feed_0 (S : CallFix p m c cX12_feed 8 s args vX12_feed RX12) (hr : meth.sig.returnType = (some .int)) (hlo : meth.locks = false) {out : Int32 × PH} {h : PH} {a0 : Nat} {x1 : Int32} {x2 : Int32} {x3 : Int32} {x4 : Int32} {x5 : Int32} (f : F12_feed_0  h a0 x1 x2 x3 x4 x5 = some out) {H : Heap} {locs : List Loc} (I : ph_I D cy b A fl h s H locs) {ls : Array Slot} (hl : lv_has ls 8 [(0, .ref (b + a0)), (1, .int x1), (2, .int x2), (3, .int x3), (4, .int x4), (5, .int x5)]) : W p l e ({ frames := 0, cells := 0, slots := 0, locals := 0 } : Room) s m args below meth c H locs 0 0 (MQ below (va_Qi (fun (r : Int32) (u : PH) => (r, u) = out) (ph_B D cy b A fl) A) args s 0 0 A) (F0 m 0 ls []) := by
  unfold F12_feed_0 at f
  refine lv_aload_n S.1 S.2.1 dX12_feed_0 rfl (lv_at hl 0 rfl) ?_
  refine lv_iconst (v := 0) S.1 S.2.1 dX12_feed_1 (by decide) ?_
  obtain ⟨h1, e2, f⟩ := ob f
  refine o_pI S lp12_feed_154 I e2 dX12_feed_2 (fun H locs I => ?_)
  refine lv_aload_n S.1 S.2.1 dX12_feed_5 rfl (lv_at hl 0 rfl) ?_
  obtain ⟨v3, e4, f⟩ := ob f
  refine o_gI S lf12_feed_157 I e4 dX12_feed_6 ?_
  refine lv_bipush (v := 20) S.1 S.2.1 dX12_feed_9 (by decide) ?_
  refine lv_iadd S.1 S.2.1 dX12_feed_11 ?_
  refine lv_sipush (v := 700) S.1 S.2.1 dX12_feed_12 (by decide) ?_
  refine lv_icmp_le (tgt := 20) S.1 S.2.1 dX12_feed_15 (by decide) (fun q5 => ?_) (fun q5 => ?_)
  · have f := (if_pos q5).symm.trans f
    refine lv_iconst (v := 0) S.1 S.2.1 dX12_feed_20 (by decide) ?_
    refine lv_istore (lv' := [(6, .int 0), (0, .ref (b + a0)), (1, .int x1), (2, .int x2), (3, .int x3), (4, .int x4), (5, .int x5)]) S.1 S.2.1 dX12_feed_21 hl (by decide) rfl (fun ls hl => ?_)
    exact T12_feed_23 S hr hlo  1024 f I (lv_sub hl [1, 2, 3, 4, 5, 6, 0] rfl)
  · have f := (if_neg q5).symm.trans f
    refine lv_iconst (v := (-1)) S.1 S.2.1 dX12_feed_18 (by decide) ?_
    exact o_iret S hr hlo I f dX12_feed_19
theorem M12_feed (l : Launch) (D : va_G) (cy : Nat → ClassId) (b : Nat) (A : Nat → Prop) (fl : Bool) {h : PH} {a0 : Nat} {x1 : Int32} {x2 : Int32} {x3 : Int32} {x4 : Int32} {x5 : Int32} {out : Int32 × PH} (f : F12_feed h a0 x1 x2 x3 x4 x5 = some out) : Met l yX12_feed vX12_feed ({ frames := 0, cells := 0, slots := 0, locals := 0 } : Room) (va_Pc [.ref (b + a0), .int x1, .int x2, .int x3, .int x4, .int x5] (ph_B D cy b A fl h)) (va_Qi (fun (r : Int32) (u : PH) => (r, u) = out) (ph_B D cy b A fl) A) 0 0 A :=
  o_met (by decide) rfl (Nat.le_of_ble_eq_true rfl) rfl (fun p e s m below meth c S hr hlo hnm ls hl I => T12_feed_0 S hr hlo ((gd f).2) I (lv_sub hl [0, 1, 2, 3, 4, 5] rfl))
def vX12_find : List Cond := .code yX12_find cX12_find 5 (some .int) :: TB
theorem cd12_find : Cd yX12_find 4 := ⟨by decide, by decide, by decide +kernel⟩
set_option maxHeartbeats 4000000 in
set_option maxRecDepth 100000 in
theorem T12_find_3 (S : CallFix p m c cX12_find 5 s args vX12_find RX12) (hr : meth.sig.returnType = (some .int)) (hlo : meth.locks = false) {out : Int32 × PH} : ∀ (n : Nat) {h : PH} {a0 : Nat} {x1 : Int32} {x2 : Int32} {x3 : Int32} {x4 : Int32} (f : F12_find_3  n h a0 x1 x2 x3 x4 = some out) {H : Heap} {locs : List Loc} (I : ph_I D cy b A fl h s H locs) {ls : Array Slot} (hl : lv_has ls 5 [(0, .ref (b + a0)), (1, .int x1), (2, .int x2), (3, .int x3), (4, .int x4)]), W p l e ({ frames := 0, cells := 0, slots := 0, locals := 0 } : Room) s m args below meth c H locs 0 0 (MQ below (va_Qi (fun (r : Int32) (u : PH) => (r, u) = out) (ph_B D cy b A fl) A) args s 0 0 A) (F0 m 3 ls []) := by
  intro n
  induction n with
  | zero => intro h a0 x1 x2 x3 x4 f; rw [F12_find_3] at f; cases f
  | succ n ih =>
    intro h a0 x1 x2 x3 x4 f H locs I ls hl
    rw [F12_find_3] at f
    refine lv_iload S.1 S.2.1 dX12_find_3 (lv_at hl 4 rfl) ?_
    refine lv_iload_n S.1 S.2.1 dX12_find_5 rfl (lv_at hl 2 rfl) ?_
    refine lv_icmp_ge (tgt := 28) S.1 S.2.1 dX12_find_6 (by decide) (fun q1 => ?_) (fun q1 => ?_)
    · have f := (if_pos q1).symm.trans f
      refine lv_iconst (v := (-1)) S.1 S.2.1 dX12_find_28 (by decide) ?_
      exact o_iret S hr hlo I f dX12_find_29
    · have f := (if_neg q1).symm.trans f
      refine lv_aload_n S.1 S.2.1 dX12_find_9 rfl (lv_at hl 0 rfl) ?_
      refine lv_iload_n S.1 S.2.1 dX12_find_10 rfl (lv_at hl 1 rfl) ?_
      refine lv_iload S.1 S.2.1 dX12_find_11 (lv_at hl 4 rfl) ?_
      refine lv_iadd S.1 S.2.1 dX12_find_13 ?_
      obtain ⟨v3, e2, f⟩ := ob f
      refine o_iald S I e2 dX12_find_14 ?_
      refine lv_iload_n S.1 S.2.1 dX12_find_15 rfl (lv_at hl 3 rfl) ?_
      refine lv_icmp_ne (tgt := 22) S.1 S.2.1 dX12_find_16 (by decide) (fun q4 => ?_) (fun q4 => ?_)
      · have f := (if_neg q4).symm.trans f
        refine lv_iinc (v := (x4 + 1)) (lv' := [(4, .int (x4 + 1)), (0, .ref (b + a0)), (1, .int x1), (2, .int x2), (3, .int x3)]) S.1 S.2.1 dX12_find_22 hl (k := 4) rfl (congrArg (fun z => x4 + z) (by decide)) (by decide) rfl (fun ls hl => ?_)
        refine lv_goto (tgt := 3) S.1 S.2.1 dX12_find_25 (by decide) ?_
        exact ih f I (lv_sub hl [1, 2, 3, 4, 0] rfl)
      · have f := (if_pos q4).symm.trans f
        refine lv_iload S.1 S.2.1 dX12_find_19 (lv_at hl 4 rfl) ?_
        exact o_iret S hr hlo I f dX12_find_21
set_option maxHeartbeats 4000000 in
set_option maxRecDepth 100000 in
theorem T12_find_0 (S : CallFix p m c cX12_find 5 s args vX12_find RX12) (hr : meth.sig.returnType = (some .int)) (hlo : meth.locks = false) {out : Int32 × PH} {h : PH} {a0 : Nat} {x1 : Int32} {x2 : Int32} {x3 : Int32} (f : F12_find_0  h a0 x1 x2 x3 = some out) {H : Heap} {locs : List Loc} (I : ph_I D cy b A fl h s H locs) {ls : Array Slot} (hl : lv_has ls 5 [(0, .ref (b + a0)), (1, .int x1), (2, .int x2), (3, .int x3)]) : W p l e ({ frames := 0, cells := 0, slots := 0, locals := 0 } : Room) s m args below meth c H locs 0 0 (MQ below (va_Qi (fun (r : Int32) (u : PH) => (r, u) = out) (ph_B D cy b A fl) A) args s 0 0 A) (F0 m 0 ls []) := by
  unfold F12_find_0 at f
  refine lv_iconst (v := 0) S.1 S.2.1 dX12_find_0 (by decide) ?_
  refine lv_istore (lv' := [(4, .int 0), (0, .ref (b + a0)), (1, .int x1), (2, .int x2), (3, .int x3)]) S.1 S.2.1 dX12_find_1 hl (by decide) rfl (fun ls hl => ?_)
  exact T12_find_3 S hr hlo  1024 f I (lv_sub hl [1, 2, 3, 4, 0] rfl)
theorem M12_find (l : Launch) (D : va_G) (cy : Nat → ClassId) (b : Nat) (A : Nat → Prop) (fl : Bool) {h : PH} {a0 : Nat} {x1 : Int32} {x2 : Int32} {x3 : Int32} {out : Int32 × PH} (f : F12_find h a0 x1 x2 x3 = some out) : Met l yX12_find vX12_find ({ frames := 0, cells := 0, slots := 0, locals := 0 } : Room) (va_Pc [.ref (b + a0), .int x1, .int x2, .int x3] (ph_B D cy b A fl h)) (va_Qi (fun (r : Int32) (u : PH) => (r, u) = out) (ph_B D cy b A fl) A) 0 0 A :=
  o_met (by decide) rfl (Nat.le_of_ble_eq_true rfl) rfl (fun p e s m below meth c S hr hlo hnm ls hl I => T12_find_0 S hr hlo (f) I (lv_sub hl [0, 1, 2, 3] rfl))
def vX12_gaps : List Cond := .code yX12_gaps cX12_gaps 5 (some .int) :: TB
theorem lf12_gaps_250 : Fl vX12_gaps RX12 250 12 15 := ⟨RX12, TX12, 87, rfl, by decide, (fun w h9 => List.mem_cons_of_mem _ (wC_wsX120 w h9)), (List.mem_cons_of_mem _ wT_12_13)⟩
theorem lf12_gaps_48 : Fl vX12_gaps RX12 48 12 34 := ⟨RX12, TX12, 87, rfl, by decide, (fun w h9 => List.mem_cons_of_mem _ (wC_wsX120 w h9)), (List.mem_cons_of_mem _ wT_10_9)⟩
theorem lf12_gaps_45 : Fl vX12_gaps RX12 45 12 33 := ⟨RX12, TX12, 87, rfl, by decide, (fun w h9 => List.mem_cons_of_mem _ (wC_wsX120 w h9)), (List.mem_cons_of_mem _ wT_10_8)⟩
theorem lp12_gaps_154 : Pl vX12_gaps RX12 154 12 2 .int := ⟨RX12, TX12, 87, tyX12, rfl, by decide, (fun w h9 => List.mem_cons_of_mem _ (wC_wsX120 w h9)), (List.mem_cons_of_mem _ wT_13_17), tyX12_ok, nmX12, rfl, rfl⟩
theorem gX12_gaps_X12_isIn : GoodIn vX12_gaps (va_wsS RX12 199 yX12_isIn vX12_isIn) := gS_of wT_28_17 wT_28_18 wT_1_5 wT_28_19
theorem cd12_gaps : Cd yX12_gaps 2 := ⟨by decide, by decide, by decide +kernel⟩
set_option maxHeartbeats 4000000 in
set_option maxRecDepth 100000 in
theorem T12_gaps_31 (S : CallFix p m c cX12_gaps 5 s args vX12_gaps RX12) (hr : meth.sig.returnType = (some .int)) (hlo : meth.locks = false) {out : Int32 × PH} : ∀ (n : Nat) {h : PH} {a0 : Nat} {x1 : Int32} {x2 : Int32} {x3 : Int32} {x4 : Int32} (f : F12_gaps_31  n h a0 x1 x2 x3 x4 = some out) {H : Heap} {locs : List Loc} (I : ph_I D cy b A fl h s H locs) {ls : Array Slot} (hl : lv_has ls 5 [(0, .ref (b + a0)), (1, .int x1), (2, .int x2), (3, .int x3), (4, .int x4)]), W p l e ({ frames := 1, cells := 0, slots := 0, locals := 22 } : Room) s m args below meth c H locs 0 0 (MQ below (va_Qi (fun (r : Int32) (u : PH) => (r, u) = out) (ph_B D cy b A fl) A) args s 0 0 A) (F0 m 31 ls []) := by
  intro n
  induction n with
  | zero => intro h a0 x1 x2 x3 x4 f; rw [F12_gaps_31] at f; cases f
  | succ n ih =>
    intro h a0 x1 x2 x3 x4 f H locs I ls hl
    rw [F12_gaps_31] at f
    refine lv_iload S.1 S.2.1 dX12_gaps_31 (lv_at hl 4 rfl) ?_
    refine lv_aload_n S.1 S.2.1 dX12_gaps_33 rfl (lv_at hl 0 rfl) ?_
    obtain ⟨v1, e2, f⟩ := ob f
    refine o_gI S lf12_gaps_250 I e2 dX12_gaps_34 ?_
    refine lv_icmp_ge (tgt := 85) S.1 S.2.1 dX12_gaps_37 (by decide) (fun q3 => ?_) (fun q3 => ?_)
    · have f := (if_pos q3).symm.trans f
      refine lv_iload_n S.1 S.2.1 dX12_gaps_85 rfl (lv_at hl 2 rfl) ?_
      refine lv_if_ne (tgt := 93) S.1 S.2.1 dX12_gaps_86 (by decide) (fun q4 => ?_) (fun q4 => ?_)
      · have f := (if_neg q4).symm.trans f
        refine lv_aload_n S.1 S.2.1 dX12_gaps_93 rfl (lv_at hl 0 rfl) ?_
        obtain ⟨v5, e6, f⟩ := ob f
        refine o_gI S lf12_gaps_250 I e6 dX12_gaps_94 ?_
        refine lv_iconst (v := 2) S.1 S.2.1 dX12_gaps_97 (by decide) ?_
        refine lv_icmp_ge (tgt := 105) S.1 S.2.1 dX12_gaps_98 (by decide) (fun q7 => ?_) (fun q7 => ?_)
        · have f := (if_pos q7).symm.trans f
          refine lv_aload_n S.1 S.2.1 dX12_gaps_105 rfl (lv_at hl 0 rfl) ?_
          obtain ⟨v8, e9, f⟩ := ob f
          refine o_gI S lf12_gaps_250 I e9 dX12_gaps_106 ?_
          refine lv_iconst (v := 1) S.1 S.2.1 dX12_gaps_109 (by decide) ?_
          refine lv_isub S.1 S.2.1 dX12_gaps_110 ?_
          exact o_iret S hr hlo I f dX12_gaps_111
        · have f := (if_neg q7).symm.trans f
          refine lv_iconst (v := 0) S.1 S.2.1 dX12_gaps_101 (by decide) ?_
          refine lv_goto (tgt := 111) S.1 S.2.1 dX12_gaps_102 (by decide) ?_
          exact o_iret S hr hlo I f dX12_gaps_111
      · have f := (if_pos q4).symm.trans f
        refine lv_iload_n S.1 S.2.1 dX12_gaps_89 rfl (lv_at hl 3 rfl) ?_
        refine lv_goto (tgt := 111) S.1 S.2.1 dX12_gaps_90 (by decide) ?_
        exact o_iret S hr hlo I f dX12_gaps_111
    · have f := (if_neg q3).symm.trans f
      refine lv_iload_n S.1 S.2.1 dX12_gaps_40 rfl (lv_at hl 3 rfl) ?_
      refine lv_aload_n S.1 S.2.1 dX12_gaps_41 rfl (lv_at hl 0 rfl) ?_
      obtain ⟨r10, e11, f⟩ := ob f
      refine o_gR S lf12_gaps_48 I e11 dX12_gaps_42 ?_
      refine lv_aload_n S.1 S.2.1 dX12_gaps_45 rfl (lv_at hl 0 rfl) ?_
      obtain ⟨r12, e13, f⟩ := ob f
      refine o_gR S lf12_gaps_45 I e13 dX12_gaps_46 ?_
      refine lv_iload S.1 S.2.1 dX12_gaps_49 (lv_at hl 4 rfl) ?_
      obtain ⟨v15, e14, f⟩ := ob f
      refine o_iald S I e14 dX12_gaps_51 ?_
      obtain ⟨v17, e16, f⟩ := ob f
      refine o_iald S I e16 dX12_gaps_52 ?_
      refine lv_aload_n S.1 S.2.1 dX12_gaps_53 rfl (lv_at hl 0 rfl) ?_
      obtain ⟨r18, e19, f⟩ := ob f
      refine o_gR S lf12_gaps_48 I e19 dX12_gaps_54 ?_
      refine lv_aload_n S.1 S.2.1 dX12_gaps_57 rfl (lv_at hl 0 rfl) ?_
      obtain ⟨r20, e21, f⟩ := ob f
      refine o_gR S lf12_gaps_45 I e21 dX12_gaps_58 ?_
      refine lv_iload S.1 S.2.1 dX12_gaps_61 (lv_at hl 4 rfl) ?_
      obtain ⟨v23, e22, f⟩ := ob f
      refine o_iald S I e22 dX12_gaps_63 ?_
      refine lv_iconst (v := 1) S.1 S.2.1 dX12_gaps_64 (by decide) ?_
      refine lv_isub S.1 S.2.1 dX12_gaps_65 ?_
      obtain ⟨v25, e24, f⟩ := ob f
      refine o_iald S I e24 dX12_gaps_66 ?_
      refine lv_isub S.1 S.2.1 dX12_gaps_67 ?_
      refine lv_iload_n S.1 S.2.1 dX12_gaps_68 rfl (lv_at hl 1 rfl) ?_
      refine lv_icmp_gt (tgt := 76) S.1 S.2.1 dX12_gaps_69 (by decide) (fun q26 => ?_) (fun q26 => ?_)
      · have f := (if_pos q26).symm.trans f
        refine lv_iconst (v := 0) S.1 S.2.1 dX12_gaps_76 (by decide) ?_
        refine lv_iadd S.1 S.2.1 dX12_gaps_77 ?_
        refine lv_istore_n (lv' := [(3, .int (x3 + 0)), (0, .ref (b + a0)), (1, .int x1), (2, .int x2), (4, .int x4)]) S.1 S.2.1 dX12_gaps_78 rfl hl (by decide) rfl (fun ls hl => ?_)
        refine lv_iinc (v := (x4 + 1)) (lv' := [(4, .int (x4 + 1)), (3, .int (x3 + 0)), (0, .ref (b + a0)), (1, .int x1), (2, .int x2)]) S.1 S.2.1 dX12_gaps_79 hl (k := 4) rfl (congrArg (fun z => x4 + z) (by decide)) (by decide) rfl (fun ls hl => ?_)
        refine lv_goto (tgt := 31) S.1 S.2.1 dX12_gaps_82 (by decide) ?_
        exact ih f I (lv_sub hl [2, 3, 4, 1, 0] rfl)
      · have f := (if_neg q26).symm.trans f
        refine lv_iconst (v := 1) S.1 S.2.1 dX12_gaps_72 (by decide) ?_
        refine lv_goto (tgt := 77) S.1 S.2.1 dX12_gaps_73 (by decide) ?_
        refine lv_iadd S.1 S.2.1 dX12_gaps_77 ?_
        refine lv_istore_n (lv' := [(3, .int (x3 + 1)), (0, .ref (b + a0)), (1, .int x1), (2, .int x2), (4, .int x4)]) S.1 S.2.1 dX12_gaps_78 rfl hl (by decide) rfl (fun ls hl => ?_)
        refine lv_iinc (v := (x4 + 1)) (lv' := [(4, .int (x4 + 1)), (3, .int (x3 + 1)), (0, .ref (b + a0)), (1, .int x1), (2, .int x2)]) S.1 S.2.1 dX12_gaps_79 hl (k := 4) rfl (congrArg (fun z => x4 + z) (by decide)) (by decide) rfl (fun ls hl => ?_)
        refine lv_goto (tgt := 31) S.1 S.2.1 dX12_gaps_82 (by decide) ?_
        exact ih f I (lv_sub hl [2, 3, 4, 1, 0] rfl)
set_option maxHeartbeats 4000000 in
set_option maxRecDepth 100000 in
theorem T12_gaps_0 (S : CallFix p m c cX12_gaps 5 s args vX12_gaps RX12) (hr : meth.sig.returnType = (some .int)) (hlo : meth.locks = false) {out : Int32 × PH} {h : PH} {a0 : Nat} {x1 : Int32} {x2 : Int32} (f : F12_gaps_0  h a0 x1 x2 = some out) {H : Heap} {locs : List Loc} (I : ph_I D cy b A fl h s H locs) {ls : Array Slot} (hl : lv_has ls 5 [(0, .ref (b + a0)), (1, .int x1), (2, .int x2)]) : W p l e ({ frames := 1, cells := 0, slots := 0, locals := 22 } : Room) s m args below meth c H locs 0 0 (MQ below (va_Qi (fun (r : Int32) (u : PH) => (r, u) = out) (ph_B D cy b A fl) A) args s 0 0 A) (F0 m 0 ls []) := by
  unfold F12_gaps_0 at f
  refine lv_aload_n S.1 S.2.1 dX12_gaps_0 rfl (lv_at hl 0 rfl) ?_
  refine lv_iconst (v := 0) S.1 S.2.1 dX12_gaps_1 (by decide) ?_
  obtain ⟨h1, e2, f⟩ := ob f
  refine o_pI S lp12_gaps_154 I e2 dX12_gaps_2 (fun H locs I => ?_)
  refine lv_iload_n S.1 S.2.1 dX12_gaps_5 rfl (lv_at hl 1 rfl) ?_
  refine lv_iconst (v := 0) S.1 S.2.1 dX12_gaps_6 (by decide) ?_
  refine lv_bipush (v := 99) S.1 S.2.1 dX12_gaps_7 (by decide) ?_
  obtain ⟨o3, e4, f⟩ := ob f
  refine o_Si S (As := [.int x1, .int 0, .int 99]) (rest := []) (M12_isIn l D cy b A fl e4) gX12_gaps_X12_isIn rfl rfl rfl cd12_isIn ⟨Nat.le_of_ble_eq_true rfl, Nat.le_of_ble_eq_true rfl⟩ I rfl hl.1 rfl (Nat.le_of_ble_eq_true rfl) dX12_gaps_9 ⟨Nat.le_of_ble_eq_true rfl, Nat.le_of_ble_eq_true rfl⟩ (fun H locs I => ?_)
  refine lv_if_eq (tgt := 24) S.1 S.2.1 dX12_gaps_12 (by decide) (fun q5 => ?_) (fun q5 => ?_)
  · have f := (if_pos q5).symm.trans f
    refine lv_iconst (v := (-1)) S.1 S.2.1 dX12_gaps_24 (by decide) ?_
    exact o_iret S hr hlo I f dX12_gaps_25
  · have f := (if_neg q5).symm.trans f
    refine lv_iload_n S.1 S.2.1 dX12_gaps_15 rfl (lv_at hl 2 rfl) ?_
    refine lv_iconst (v := 0) S.1 S.2.1 dX12_gaps_16 (by decide) ?_
    refine lv_iconst (v := 1) S.1 S.2.1 dX12_gaps_17 (by decide) ?_
    obtain ⟨o6, e7, f⟩ := ob f
    refine o_Si S (As := [.int x2, .int 0, .int 1]) (rest := []) (M12_isIn l D cy b A fl e7) gX12_gaps_X12_isIn rfl rfl rfl cd12_isIn ⟨Nat.le_of_ble_eq_true rfl, Nat.le_of_ble_eq_true rfl⟩ I rfl hl.1 rfl (Nat.le_of_ble_eq_true rfl) dX12_gaps_18 ⟨Nat.le_of_ble_eq_true rfl, Nat.le_of_ble_eq_true rfl⟩ (fun H locs I => ?_)
    refine lv_if_ne (tgt := 26) S.1 S.2.1 dX12_gaps_21 (by decide) (fun q8 => ?_) (fun q8 => ?_)
    · have f := (if_neg q8).symm.trans f
      refine lv_iconst (v := 0) S.1 S.2.1 dX12_gaps_26 (by decide) ?_
      refine lv_istore_n (lv' := [(3, .int 0), (0, .ref (b + a0)), (1, .int x1), (2, .int x2)]) S.1 S.2.1 dX12_gaps_27 rfl hl (by decide) rfl (fun ls hl => ?_)
      refine lv_iconst (v := 1) S.1 S.2.1 dX12_gaps_28 (by decide) ?_
      refine lv_istore (lv' := [(4, .int 1), (3, .int 0), (0, .ref (b + a0)), (1, .int x1), (2, .int x2)]) S.1 S.2.1 dX12_gaps_29 hl (by decide) rfl (fun ls hl => ?_)
      exact T12_gaps_31 S hr hlo  1024 f I (lv_sub hl [2, 3, 4, 1, 0] rfl)
    · have f := (if_pos q8).symm.trans f
      refine lv_iconst (v := (-1)) S.1 S.2.1 dX12_gaps_24 (by decide) ?_
      exact o_iret S hr hlo I f dX12_gaps_25
theorem M12_gaps (l : Launch) (D : va_G) (cy : Nat → ClassId) (b : Nat) (A : Nat → Prop) (fl : Bool) {h : PH} {a0 : Nat} {x1 : Int32} {x2 : Int32} {out : Int32 × PH} (f : F12_gaps h a0 x1 x2 = some out) : Met l yX12_gaps vX12_gaps ({ frames := 1, cells := 0, slots := 0, locals := 22 } : Room) (va_Pc [.ref (b + a0), .int x1, .int x2] (ph_B D cy b A fl h)) (va_Qi (fun (r : Int32) (u : PH) => (r, u) = out) (ph_B D cy b A fl) A) 0 0 A :=
  o_met (by decide) rfl (Nat.le_of_ble_eq_true rfl) rfl (fun p e s m below meth c S hr hlo hnm ls hl I => T12_gaps_0 S hr hlo ((gd f).2) I (lv_sub hl [0, 1, 2] rfl))
def vX12_give : List Cond := .code yX12_give cX12_give 4 (some .int) :: TB
theorem lp12_give_154 : Pl vX12_give RX12 154 12 2 .int := ⟨RX12, TX12, 87, tyX12, rfl, by decide, (fun w h9 => List.mem_cons_of_mem _ (wC_wsX120 w h9)), (List.mem_cons_of_mem _ wT_13_17), tyX12_ok, nmX12, rfl, rfl⟩
theorem gX12_give_X12_isSurfer : GoodIn vX12_give (wsV RX12 413 RX12 yX12_isSurfer vX12_isSurfer) := gV_of wT_34_14 wT_34_15 wT_34_16 wT_1_5 wT_34_17
theorem gX12_give_X12_isIn : GoodIn vX12_give (va_wsS RX12 199 yX12_isIn vX12_isIn) := gS_of wT_28_17 wT_28_18 wT_1_5 wT_28_19
theorem lf12_give_42 : Fl vX12_give RX12 42 12 32 := ⟨RX12, TX12, 87, rfl, by decide, (fun w h9 => List.mem_cons_of_mem _ (wC_wsX120 w h9)), (List.mem_cons_of_mem _ wT_10_7)⟩
theorem cd12_give : Cd yX12_give 3 := ⟨by decide, by decide, by decide +kernel⟩
set_option maxHeartbeats 4000000 in
set_option maxRecDepth 100000 in
theorem T12_give_0 (S : CallFix p m c cX12_give 4 s args vX12_give RX12) (hr : meth.sig.returnType = (some .int)) (hlo : meth.locks = false) {out : Int32 × PH} {h : PH} {a0 : Nat} {x1 : Int32} {x2 : Int32} {x3 : Int32} (f : F12_give_0  h a0 x1 x2 x3 = some out) {H : Heap} {locs : List Loc} (I : ph_I D cy b A fl h s H locs) {ls : Array Slot} (hl : lv_has ls 4 [(0, .ref (b + a0)), (1, .int x1), (2, .int x2), (3, .int x3)]) : W p l e ({ frames := 1, cells := 0, slots := 0, locals := 22 } : Room) s m args below meth c H locs 0 0 (MQ below (va_Qi (fun (r : Int32) (u : PH) => (r, u) = out) (ph_B D cy b A fl) A) args s 0 0 A) (F0 m 0 ls []) := by
  unfold F12_give_0 at f
  refine lv_aload_n S.1 S.2.1 dX12_give_0 rfl (lv_at hl 0 rfl) ?_
  refine lv_iconst (v := 0) S.1 S.2.1 dX12_give_1 (by decide) ?_
  obtain ⟨h1, e2, f⟩ := ob f
  refine o_pI S lp12_give_154 I e2 dX12_give_2 (fun H locs I => ?_)
  refine lv_aload_n S.1 S.2.1 dX12_give_5 rfl (lv_at hl 0 rfl) ?_
  refine lv_iload_n S.1 S.2.1 dX12_give_6 rfl (lv_at hl 1 rfl) ?_
  obtain ⟨o3, e4, f⟩ := ob f
  refine o_Vi S (As := [.int x1]) (rest := []) (ci := 12) (M12_isSurfer l D cy b A fl e4) gX12_give_X12_isSurfer rfl rfl rfl cd12_isSurfer ⟨Nat.le_of_ble_eq_true rfl, Nat.le_of_ble_eq_true rfl⟩ I (gd e4).1 clX12 rfl rfl hl.1 rfl (Nat.le_of_ble_eq_true rfl) dX12_give_7 ⟨Nat.le_of_ble_eq_true rfl, Nat.le_of_ble_eq_true rfl⟩ (fun H locs I => ?_)
  refine lv_if_eq (tgt := 36) S.1 S.2.1 dX12_give_10 (by decide) (fun q5 => ?_) (fun q5 => ?_)
  · have f := (if_pos q5).symm.trans f
    refine lv_iconst (v := (-1)) S.1 S.2.1 dX12_give_36 (by decide) ?_
    exact o_iret S hr hlo I f dX12_give_37
  · have f := (if_neg q5).symm.trans f
    refine lv_aload_n S.1 S.2.1 dX12_give_13 rfl (lv_at hl 0 rfl) ?_
    refine lv_iload_n S.1 S.2.1 dX12_give_14 rfl (lv_at hl 2 rfl) ?_
    obtain ⟨o6, e7, f⟩ := ob f
    refine o_Vi S (As := [.int x2]) (rest := []) (ci := 12) (M12_isSurfer l D cy b A fl e7) gX12_give_X12_isSurfer rfl rfl rfl cd12_isSurfer ⟨Nat.le_of_ble_eq_true rfl, Nat.le_of_ble_eq_true rfl⟩ I (gd e7).1 clX12 rfl rfl hl.1 rfl (Nat.le_of_ble_eq_true rfl) dX12_give_15 ⟨Nat.le_of_ble_eq_true rfl, Nat.le_of_ble_eq_true rfl⟩ (fun H locs I => ?_)
    refine lv_if_eq (tgt := 36) S.1 S.2.1 dX12_give_18 (by decide) (fun q8 => ?_) (fun q8 => ?_)
    · have f := (if_pos q8).symm.trans f
      refine lv_iconst (v := (-1)) S.1 S.2.1 dX12_give_36 (by decide) ?_
      exact o_iret S hr hlo I f dX12_give_37
    · have f := (if_neg q8).symm.trans f
      refine lv_iload_n S.1 S.2.1 dX12_give_21 rfl (lv_at hl 1 rfl) ?_
      refine lv_iload_n S.1 S.2.1 dX12_give_22 rfl (lv_at hl 2 rfl) ?_
      refine lv_icmp_eq (tgt := 36) S.1 S.2.1 dX12_give_23 (by decide) (fun q9 => ?_) (fun q9 => ?_)
      · have f := (if_pos q9).symm.trans f
        refine lv_iconst (v := (-1)) S.1 S.2.1 dX12_give_36 (by decide) ?_
        exact o_iret S hr hlo I f dX12_give_37
      · have f := (if_neg q9).symm.trans f
        refine lv_iload_n S.1 S.2.1 dX12_give_26 rfl (lv_at hl 3 rfl) ?_
        refine lv_iconst (v := 0) S.1 S.2.1 dX12_give_27 (by decide) ?_
        refine lv_bipush (v := 99) S.1 S.2.1 dX12_give_28 (by decide) ?_
        obtain ⟨o10, e11, f⟩ := ob f
        refine o_Si S (As := [.int x3, .int 0, .int 99]) (rest := []) (M12_isIn l D cy b A fl e11) gX12_give_X12_isIn rfl rfl rfl cd12_isIn ⟨Nat.le_of_ble_eq_true rfl, Nat.le_of_ble_eq_true rfl⟩ I rfl hl.1 rfl (Nat.le_of_ble_eq_true rfl) dX12_give_30 ⟨Nat.le_of_ble_eq_true rfl, Nat.le_of_ble_eq_true rfl⟩ (fun H locs I => ?_)
        refine lv_if_ne (tgt := 38) S.1 S.2.1 dX12_give_33 (by decide) (fun q12 => ?_) (fun q12 => ?_)
        · have f := (if_neg q12).symm.trans f
          refine lv_aload_n S.1 S.2.1 dX12_give_38 rfl (lv_at hl 0 rfl) ?_
          obtain ⟨r13, e14, f⟩ := ob f
          refine o_gR S lf12_give_42 I e14 dX12_give_39 ?_
          refine lv_iload_n S.1 S.2.1 dX12_give_42 rfl (lv_at hl 2 rfl) ?_
          obtain ⟨v16, e15, f⟩ := ob f
          refine o_iald S I e15 dX12_give_43 ?_
          refine lv_iload_n S.1 S.2.1 dX12_give_44 rfl (lv_at hl 3 rfl) ?_
          refine lv_imul S.1 S.2.1 dX12_give_45 ?_
          refine lv_bipush (v := 100) S.1 S.2.1 dX12_give_46 (by decide) ?_
          refine lv_icmp_le (tgt := 55) S.1 S.2.1 dX12_give_48 (by decide) (fun q17 => ?_) (fun q17 => ?_)
          · have f := (if_pos q17).symm.trans f
            refine lv_iconst (v := 0) S.1 S.2.1 dX12_give_55 (by decide) ?_
            exact o_iret S hr hlo I f dX12_give_56
          · have f := (if_neg q17).symm.trans f
            refine lv_iconst (v := 1) S.1 S.2.1 dX12_give_51 (by decide) ?_
            refine lv_goto (tgt := 56) S.1 S.2.1 dX12_give_52 (by decide) ?_
            exact o_iret S hr hlo I f dX12_give_56
        · have f := (if_pos q12).symm.trans f
          refine lv_iconst (v := (-1)) S.1 S.2.1 dX12_give_36 (by decide) ?_
          exact o_iret S hr hlo I f dX12_give_37
theorem M12_give (l : Launch) (D : va_G) (cy : Nat → ClassId) (b : Nat) (A : Nat → Prop) (fl : Bool) {h : PH} {a0 : Nat} {x1 : Int32} {x2 : Int32} {x3 : Int32} {out : Int32 × PH} (f : F12_give h a0 x1 x2 x3 = some out) : Met l yX12_give vX12_give ({ frames := 1, cells := 0, slots := 0, locals := 22 } : Room) (va_Pc [.ref (b + a0), .int x1, .int x2, .int x3] (ph_B D cy b A fl h)) (va_Qi (fun (r : Int32) (u : PH) => (r, u) = out) (ph_B D cy b A fl) A) 0 0 A :=
  o_met (by decide) rfl (Nat.le_of_ble_eq_true rfl) rfl (fun p e s m below meth c S hr hlo hnm ls hl I => T12_give_0 S hr hlo ((gd f).2) I (lv_sub hl [0, 1, 2, 3] rfl))
def vX12_isWave : List Cond := .code yX12_isWave cX12_isWave 2 (some .boolean) :: TB
theorem lf12_isWave_253 : Fl vX12_isWave RX12 253 12 16 := ⟨RX12, TX12, 87, rfl, by decide, (fun w h9 => List.mem_cons_of_mem _ (wC_wsX120 w h9)), (List.mem_cons_of_mem _ wT_12_14)⟩
theorem cd12_isWave : Cd yX12_isWave 1 := ⟨by decide, by decide, by decide +kernel⟩
set_option maxHeartbeats 4000000 in
set_option maxRecDepth 100000 in
theorem T12_isWave_0 (S : CallFix p m c cX12_isWave 2 s args vX12_isWave RX12) (hr : meth.sig.returnType = (some .boolean)) (hlo : meth.locks = false) {out : Int32 × PH} {h : PH} {a0 : Nat} {x1 : Int32} (f : F12_isWave_0  h a0 x1 = some out) {H : Heap} {locs : List Loc} (I : ph_I D cy b A fl h s H locs) {ls : Array Slot} (hl : lv_has ls 2 [(0, .ref (b + a0)), (1, .int x1)]) : W p l e ({ frames := 0, cells := 0, slots := 0, locals := 0 } : Room) s m args below meth c H locs 0 0 (MQ below (va_Qi (fun (r : Int32) (u : PH) => (r, u) = out) (ph_B D cy b A fl) A) args s 0 0 A) (F0 m 0 ls []) := by
  unfold F12_isWave_0 at f
  refine lv_iload_n S.1 S.2.1 dX12_isWave_0 rfl (lv_at hl 1 rfl) ?_
  refine lv_if_lt (tgt := 16) S.1 S.2.1 dX12_isWave_1 (by decide) (fun q1 => ?_) (fun q1 => ?_)
  · have f := (if_pos q1).symm.trans f
    refine lv_iconst (v := 0) S.1 S.2.1 dX12_isWave_16 (by decide) ?_
    exact o_zret S hr hlo I f dX12_isWave_17
  · have f := (if_neg q1).symm.trans f
    refine lv_iload_n S.1 S.2.1 dX12_isWave_4 rfl (lv_at hl 1 rfl) ?_
    refine lv_aload_n S.1 S.2.1 dX12_isWave_5 rfl (lv_at hl 0 rfl) ?_
    obtain ⟨v2, e3, f⟩ := ob f
    refine o_gI S lf12_isWave_253 I e3 dX12_isWave_6 ?_
    refine lv_icmp_ge (tgt := 16) S.1 S.2.1 dX12_isWave_9 (by decide) (fun q4 => ?_) (fun q4 => ?_)
    · have f := (if_pos q4).symm.trans f
      refine lv_iconst (v := 0) S.1 S.2.1 dX12_isWave_16 (by decide) ?_
      exact o_zret S hr hlo I f dX12_isWave_17
    · have f := (if_neg q4).symm.trans f
      refine lv_iconst (v := 1) S.1 S.2.1 dX12_isWave_12 (by decide) ?_
      refine lv_goto (tgt := 17) S.1 S.2.1 dX12_isWave_13 (by decide) ?_
      exact o_zret S hr hlo I f dX12_isWave_17
theorem M12_isWave (l : Launch) (D : va_G) (cy : Nat → ClassId) (b : Nat) (A : Nat → Prop) (fl : Bool) {h : PH} {a0 : Nat} {x1 : Int32} {out : Int32 × PH} (f : F12_isWave h a0 x1 = some out) : Met l yX12_isWave vX12_isWave ({ frames := 0, cells := 0, slots := 0, locals := 0 } : Room) (va_Pc [.ref (b + a0), .int x1] (ph_B D cy b A fl h)) (va_Qi (fun (r : Int32) (u : PH) => (r, u) = out) (ph_B D cy b A fl) A) 0 0 A :=
  o_met (by decide) rfl (Nat.le_of_ble_eq_true rfl) rfl (fun p e s m below meth c S hr hlo hnm ls hl I => T12_isWave_0 S hr hlo ((gd f).2) I (lv_sub hl [0, 1] rfl))
def vX12_isToCome : List Cond := .code yX12_isToCome cX12_isToCome 2 (some .boolean) :: TB
theorem gX12_isToCome_X12_isWave : GoodIn vX12_isToCome (wsV RX12 419 RX12 yX12_isWave vX12_isWave) := gV_of wT_37_7 wT_37_8 wT_37_9 wT_1_5 wT_37_10
theorem lf12_isToCome_103 : Fl vX12_isToCome RX12 103 12 60 := ⟨RX12, TX12, 87, rfl, by decide, (fun w h9 => List.mem_cons_of_mem _ (wC_wsX120 w h9)), (List.mem_cons_of_mem _ wT_11_3)⟩
theorem cd12_isToCome : Cd yX12_isToCome 1 := ⟨by decide, by decide, by decide +kernel⟩
set_option maxHeartbeats 4000000 in
set_option maxRecDepth 100000 in
theorem T12_isToCome_0 (S : CallFix p m c cX12_isToCome 2 s args vX12_isToCome RX12) (hr : meth.sig.returnType = (some .boolean)) (hlo : meth.locks = false) {out : Int32 × PH} {h : PH} {a0 : Nat} {x1 : Int32} (f : F12_isToCome_0  h a0 x1 = some out) {H : Heap} {locs : List Loc} (I : ph_I D cy b A fl h s H locs) {ls : Array Slot} (hl : lv_has ls 2 [(0, .ref (b + a0)), (1, .int x1)]) : W p l e ({ frames := 1, cells := 0, slots := 0, locals := 21 } : Room) s m args below meth c H locs 0 0 (MQ below (va_Qi (fun (r : Int32) (u : PH) => (r, u) = out) (ph_B D cy b A fl) A) args s 0 0 A) (F0 m 0 ls []) := by
  unfold F12_isToCome_0 at f
  refine lv_aload_n S.1 S.2.1 dX12_isToCome_0 rfl (lv_at hl 0 rfl) ?_
  refine lv_iload_n S.1 S.2.1 dX12_isToCome_1 rfl (lv_at hl 1 rfl) ?_
  obtain ⟨o1, e2, f⟩ := ob f
  refine o_Vi S (As := [.int x1]) (rest := []) (ci := 12) (M12_isWave l D cy b A fl e2) gX12_isToCome_X12_isWave rfl rfl rfl cd12_isWave ⟨Nat.le_of_ble_eq_true rfl, Nat.le_of_ble_eq_true rfl⟩ I (gd e2).1 clX12 rfl rfl hl.1 rfl (Nat.le_of_ble_eq_true rfl) dX12_isToCome_2 ⟨Nat.le_of_ble_eq_true rfl, Nat.le_of_ble_eq_true rfl⟩ (fun H locs I => ?_)
  refine lv_if_eq (tgt := 23) S.1 S.2.1 dX12_isToCome_5 (by decide) (fun q3 => ?_) (fun q3 => ?_)
  · have f := (if_pos q3).symm.trans f
    refine lv_iconst (v := 0) S.1 S.2.1 dX12_isToCome_23 (by decide) ?_
    exact o_zret S hr hlo I f dX12_isToCome_24
  · have f := (if_neg q3).symm.trans f
    refine lv_aload_n S.1 S.2.1 dX12_isToCome_8 rfl (lv_at hl 0 rfl) ?_
    obtain ⟨r4, e5, f⟩ := ob f
    refine o_gR S lf12_isToCome_103 I e5 dX12_isToCome_9 ?_
    refine lv_iload_n S.1 S.2.1 dX12_isToCome_12 rfl (lv_at hl 1 rfl) ?_
    obtain ⟨v7, e6, f⟩ := ob f
    refine o_iald S I e6 dX12_isToCome_13 ?_
    refine lv_bipush (v := (-2)) S.1 S.2.1 dX12_isToCome_14 (by decide) ?_
    refine lv_icmp_ne (tgt := 23) S.1 S.2.1 dX12_isToCome_16 (by decide) (fun q8 => ?_) (fun q8 => ?_)
    · have f := (if_neg q8).symm.trans f
      refine lv_iconst (v := 0) S.1 S.2.1 dX12_isToCome_23 (by decide) ?_
      exact o_zret S hr hlo I f dX12_isToCome_24
    · have f := (if_pos q8).symm.trans f
      refine lv_iconst (v := 1) S.1 S.2.1 dX12_isToCome_19 (by decide) ?_
      refine lv_goto (tgt := 24) S.1 S.2.1 dX12_isToCome_20 (by decide) ?_
      exact o_zret S hr hlo I f dX12_isToCome_24
theorem M12_isToCome (l : Launch) (D : va_G) (cy : Nat → ClassId) (b : Nat) (A : Nat → Prop) (fl : Bool) {h : PH} {a0 : Nat} {x1 : Int32} {out : Int32 × PH} (f : F12_isToCome h a0 x1 = some out) : Met l yX12_isToCome vX12_isToCome ({ frames := 1, cells := 0, slots := 0, locals := 21 } : Room) (va_Pc [.ref (b + a0), .int x1] (ph_B D cy b A fl h)) (va_Qi (fun (r : Int32) (u : PH) => (r, u) = out) (ph_B D cy b A fl) A) 0 0 A :=
  o_met (by decide) rfl (Nat.le_of_ble_eq_true rfl) rfl (fun p e s m below meth c S hr hlo hnm ls hl I => T12_isToCome_0 S hr hlo ((gd f).2) I (lv_sub hl [0, 1] rfl))
def vX12_go : List Cond := .code yX12_go cX12_go 7 (some .int) :: TB
theorem lf12_go_118 : Fl vX12_go RX12 118 12 68 := ⟨RX12, TX12, 87, rfl, by decide, (fun w h9 => List.mem_cons_of_mem _ (wC_wsX120 w h9)), (List.mem_cons_of_mem _ wT_11_8)⟩
theorem lf12_go_433 : Fl vX12_go RX12 433 12 69 := ⟨RX12, TX12, 87, rfl, by decide, (fun w h9 => List.mem_cons_of_mem _ (wC_wsX120 w h9)), (List.mem_cons_of_mem _ wT_46_21)⟩
theorem lf12_go_88 : Fl vX12_go RX12 88 12 55 := ⟨RX12, TX12, 87, rfl, by decide, (fun w h9 => List.mem_cons_of_mem _ (wC_wsX120 w h9)), (List.mem_cons_of_mem _ wT_10_22)⟩
theorem gX12_go_X12_gainOf : GoodIn vX12_go (wsV RX12 479 RX12 yX12_gainOf vX12_gainOf) := gV_of wT_50_5 wT_50_6 wT_50_7 wT_1_5 wT_50_8
theorem lf12_go_39 : Fl vX12_go RX12 39 12 31 := ⟨RX12, TX12, 87, rfl, by decide, (fun w h9 => List.mem_cons_of_mem _ (wC_wsX120 w h9)), (List.mem_cons_of_mem _ wT_10_6)⟩
theorem lp12_go_154 : Pl vX12_go RX12 154 12 2 .int := ⟨RX12, TX12, 87, tyX12, rfl, by decide, (fun w h9 => List.mem_cons_of_mem _ (wC_wsX120 w h9)), (List.mem_cons_of_mem _ wT_13_17), tyX12_ok, nmX12, rfl, rfl⟩
theorem gX12_go_X12_isSurfer : GoodIn vX12_go (wsV RX12 413 RX12 yX12_isSurfer vX12_isSurfer) := gV_of wT_34_14 wT_34_15 wT_34_16 wT_1_5 wT_34_17
theorem gX12_go_X12_isToCome : GoodIn vX12_go (wsV RX12 476 RX12 yX12_isToCome vX12_isToCome) := gV_of wT_48_17 wT_48_18 wT_48_19 wT_1_5 wT_48_20
theorem gX12_go_X12_isIn : GoodIn vX12_go (va_wsS RX12 199 yX12_isIn vX12_isIn) := gS_of wT_28_17 wT_28_18 wT_1_5 wT_28_19
theorem lf12_go_369 : Fl vX12_go RX12 369 12 64 := ⟨RX12, TX12, 87, rfl, by decide, (fun w h9 => List.mem_cons_of_mem _ (wC_wsX120 w h9)), (List.mem_cons_of_mem _ wT_12_23)⟩
theorem gX12_go_X12_layOrder : GoodIn vX12_go (wsV RX12 453 RX12 yX12_layOrder vX12_layOrder) := gV_of wT_46_22 wT_46_23 wT_47_0 wT_1_5 wT_47_1
theorem cd12_go : Cd yX12_go 3 := ⟨by decide, by decide, by decide +kernel⟩
set_option maxHeartbeats 4000000 in
set_option maxRecDepth 100000 in
theorem T12_go_107 (S : CallFix p m c cX12_go 7 s args vX12_go RX12) (hr : meth.sig.returnType = (some .int)) (hlo : meth.locks = false) {out : Int32 × PH} {k54 : PH → Nat → Int32 → Int32 → Int32 → Int32 → Int32 → Int32 → Option (Int32 × PH)} (hk54 : ∀ {h : PH} {a0 : Nat} {x1 : Int32} {x2 : Int32} {x3 : Int32} {x4 : Int32} {x5 : Int32} {x6 : Int32}, k54 h a0 x1 x2 x3 x4 x5 x6 = some out → ∀ (H : Heap) (locs : List Loc), ph_I D cy b A fl h s H locs → ∀ (ls : Array Slot), lv_has ls 7 [(0, .ref (b + a0)), (1, .int x1), (2, .int x2), (3, .int x3), (4, .int x4), (5, .int x5), (6, .int x6)] → W p l e ({ frames := 9, cells := 0, slots := 0, locals := 218 } : Room) s m args below meth c H locs 0 0 (MQ below (va_Qi (fun (r : Int32) (u : PH) => (r, u) = out) (ph_B D cy b A fl) A) args s 0 0 A) (F0 m 54 ls [])) {h : PH} {a0 : Nat} {x1 : Int32} {x2 : Int32} {x3 : Int32} {x4 : Int32} {x6 : Int32} (f : F12_go_107 k54 h a0 x1 x2 x3 x4 x6 = some out) {H : Heap} {locs : List Loc} (I : ph_I D cy b A fl h s H locs) {ls : Array Slot} (hl : lv_has ls 7 [(0, .ref (b + a0)), (1, .int x1), (2, .int x2), (3, .int x3), (4, .int x4), (6, .int x6)]) : W p l e ({ frames := 9, cells := 0, slots := 0, locals := 218 } : Room) s m args below meth c H locs 0 0 (MQ below (va_Qi (fun (r : Int32) (u : PH) => (r, u) = out) (ph_B D cy b A fl) A) args s 0 0 A) (F0 m 107 ls []) := by
  unfold F12_go_107 at f
  refine lv_iconst (v := 1) S.1 S.2.1 dX12_go_107 (by decide) ?_
  refine lv_goto (tgt := 112) S.1 S.2.1 dX12_go_108 (by decide) ?_
  refine lv_istore (lv' := [(5, .int 1), (0, .ref (b + a0)), (1, .int x1), (2, .int x2), (3, .int x3), (4, .int x4), (6, .int x6)]) S.1 S.2.1 dX12_go_112 hl (by decide) rfl (fun ls hl => ?_)
  refine lv_iinc (v := (x6 + 1)) (lv' := [(6, .int (x6 + 1)), (5, .int 1), (0, .ref (b + a0)), (1, .int x1), (2, .int x2), (3, .int x3), (4, .int x4)]) S.1 S.2.1 dX12_go_114 hl (k := 6) rfl (congrArg (fun z => x6 + z) (by decide)) (by decide) rfl (fun ls hl => ?_)
  refine lv_goto (tgt := 54) S.1 S.2.1 dX12_go_117 (by decide) ?_
  exact hk54 f _ _ I _ (lv_sub hl [2, 3, 4, 5, 6, 1, 0] rfl)
set_option maxHeartbeats 4000000 in
set_option maxRecDepth 100000 in
theorem T12_go_91 (S : CallFix p m c cX12_go 7 s args vX12_go RX12) (hr : meth.sig.returnType = (some .int)) (hlo : meth.locks = false) {out : Int32 × PH} {k54 : PH → Nat → Int32 → Int32 → Int32 → Int32 → Int32 → Int32 → Option (Int32 × PH)} (hk54 : ∀ {h : PH} {a0 : Nat} {x1 : Int32} {x2 : Int32} {x3 : Int32} {x4 : Int32} {x5 : Int32} {x6 : Int32}, k54 h a0 x1 x2 x3 x4 x5 x6 = some out → ∀ (H : Heap) (locs : List Loc), ph_I D cy b A fl h s H locs → ∀ (ls : Array Slot), lv_has ls 7 [(0, .ref (b + a0)), (1, .int x1), (2, .int x2), (3, .int x3), (4, .int x4), (5, .int x5), (6, .int x6)] → W p l e ({ frames := 9, cells := 0, slots := 0, locals := 218 } : Room) s m args below meth c H locs 0 0 (MQ below (va_Qi (fun (r : Int32) (u : PH) => (r, u) = out) (ph_B D cy b A fl) A) args s 0 0 A) (F0 m 54 ls [])) {h : PH} {a0 : Nat} {x1 : Int32} {x2 : Int32} {x3 : Int32} {x4 : Int32} {x5 : Int32} {x6 : Int32} (f : F12_go_91 k54 h a0 x1 x2 x3 x4 x5 x6 = some out) {H : Heap} {locs : List Loc} (I : ph_I D cy b A fl h s H locs) {ls : Array Slot} (hl : lv_has ls 7 [(0, .ref (b + a0)), (1, .int x1), (2, .int x2), (3, .int x3), (4, .int x4), (5, .int x5), (6, .int x6)]) : W p l e ({ frames := 9, cells := 0, slots := 0, locals := 218 } : Room) s m args below meth c H locs 0 0 (MQ below (va_Qi (fun (r : Int32) (u : PH) => (r, u) = out) (ph_B D cy b A fl) A) args s 0 0 A) (F0 m 91 ls []) := by
  unfold F12_go_91 at f
  refine lv_iload S.1 S.2.1 dX12_go_91 (lv_at hl 5 rfl) ?_
  refine lv_if_ne (tgt := 107) S.1 S.2.1 dX12_go_93 (by decide) (fun q1 => ?_) (fun q1 => ?_)
  · have f := (if_neg q1).symm.trans f
    exact T12_go_107 S hr hlo (fun f _ _ I _ hl => hk54 f _ _ I _ hl) f I (lv_sub hl [0, 1, 2, 3, 4, 6] rfl)
  · have f := (if_pos q1).symm.trans f
    refine lv_aload_n S.1 S.2.1 dX12_go_96 rfl (lv_at hl 0 rfl) ?_
    obtain ⟨r2, e3, f⟩ := ob f
    refine o_gR S lf12_go_118 I e3 dX12_go_97 ?_
    refine lv_iload S.1 S.2.1 dX12_go_100 (lv_at hl 6 rfl) ?_
    obtain ⟨v5, e4, f⟩ := ob f
    refine o_iald S I e4 dX12_go_102 ?_
    refine lv_iload_n S.1 S.2.1 dX12_go_103 rfl (lv_at hl 1 rfl) ?_
    refine lv_icmp_ne (tgt := 111) S.1 S.2.1 dX12_go_104 (by decide) (fun q6 => ?_) (fun q6 => ?_)
    · have f := (if_neg q6).symm.trans f
      refine lv_iconst (v := 0) S.1 S.2.1 dX12_go_111 (by decide) ?_
      refine lv_istore (lv' := [(5, .int 0), (0, .ref (b + a0)), (1, .int x1), (2, .int x2), (3, .int x3), (4, .int x4), (6, .int x6)]) S.1 S.2.1 dX12_go_112 hl (by decide) rfl (fun ls hl => ?_)
      refine lv_iinc (v := (x6 + 1)) (lv' := [(6, .int (x6 + 1)), (5, .int 0), (0, .ref (b + a0)), (1, .int x1), (2, .int x2), (3, .int x3), (4, .int x4)]) S.1 S.2.1 dX12_go_114 hl (k := 6) rfl (congrArg (fun z => x6 + z) (by decide)) (by decide) rfl (fun ls hl => ?_)
      refine lv_goto (tgt := 54) S.1 S.2.1 dX12_go_117 (by decide) ?_
      exact hk54 f _ _ I _ (lv_sub hl [2, 3, 4, 5, 6, 1, 0] rfl)
    · have f := (if_pos q6).symm.trans f
      exact T12_go_107 S hr hlo (fun f _ _ I _ hl => hk54 f _ _ I _ hl) f I (lv_sub hl [0, 1, 2, 3, 4, 6] rfl)
set_option maxHeartbeats 4000000 in
set_option maxRecDepth 100000 in
theorem T12_go_54 (S : CallFix p m c cX12_go 7 s args vX12_go RX12) (hr : meth.sig.returnType = (some .int)) (hlo : meth.locks = false) {out : Int32 × PH} : ∀ (n : Nat) {h : PH} {a0 : Nat} {x1 : Int32} {x2 : Int32} {x3 : Int32} {x4 : Int32} {x5 : Int32} {x6 : Int32} (f : F12_go_54  n h a0 x1 x2 x3 x4 x5 x6 = some out) {H : Heap} {locs : List Loc} (I : ph_I D cy b A fl h s H locs) {ls : Array Slot} (hl : lv_has ls 7 [(0, .ref (b + a0)), (1, .int x1), (2, .int x2), (3, .int x3), (4, .int x4), (5, .int x5), (6, .int x6)]), W p l e ({ frames := 9, cells := 0, slots := 0, locals := 218 } : Room) s m args below meth c H locs 0 0 (MQ below (va_Qi (fun (r : Int32) (u : PH) => (r, u) = out) (ph_B D cy b A fl) A) args s 0 0 A) (F0 m 54 ls []) := by
  intro n
  induction n with
  | zero => intro h a0 x1 x2 x3 x4 x5 x6 f; rw [F12_go_54] at f; cases f
  | succ n ih =>
    intro h a0 x1 x2 x3 x4 x5 x6 f H locs I ls hl
    rw [F12_go_54] at f
    refine lv_iload S.1 S.2.1 dX12_go_54 (lv_at hl 6 rfl) ?_
    refine lv_aload_n S.1 S.2.1 dX12_go_56 rfl (lv_at hl 0 rfl) ?_
    obtain ⟨v1, e2, f⟩ := ob f
    refine o_gI S lf12_go_433 I e2 dX12_go_57 ?_
    refine lv_icmp_ge (tgt := 120) S.1 S.2.1 dX12_go_60 (by decide) (fun q3 => ?_) (fun q3 => ?_)
    · have f := (if_pos q3).symm.trans f
      refine lv_aload_n S.1 S.2.1 dX12_go_120 rfl (lv_at hl 0 rfl) ?_
      refine lv_iload_n S.1 S.2.1 dX12_go_121 rfl (lv_at hl 1 rfl) ?_
      refine lv_iload_n S.1 S.2.1 dX12_go_122 rfl (lv_at hl 2 rfl) ?_
      refine lv_aload_n S.1 S.2.1 dX12_go_123 rfl (lv_at hl 0 rfl) ?_
      obtain ⟨r4, e5, f⟩ := ob f
      refine o_gR S lf12_go_88 I e5 dX12_go_124 ?_
      refine lv_iload_n S.1 S.2.1 dX12_go_127 rfl (lv_at hl 1 rfl) ?_
      obtain ⟨v7, e6, f⟩ := ob f
      refine o_iald S I e6 dX12_go_128 ?_
      obtain ⟨o8, e9, f⟩ := ob f
      refine o_Vi S (As := [.int x1, .int x2, .int v7]) (rest := []) (ci := 12) (M12_gainOf l D cy b A fl e9) gX12_go_X12_gainOf rfl rfl rfl cd12_gainOf ⟨Nat.le_of_ble_eq_true rfl, Nat.le_of_ble_eq_true rfl⟩ I (gd e9).1 clX12 rfl rfl hl.1 rfl (Nat.le_of_ble_eq_true rfl) dX12_go_129 ⟨Nat.le_of_ble_eq_true rfl, Nat.le_of_ble_eq_true rfl⟩ (fun H locs I => ?_)
      refine lv_iload_n S.1 S.2.1 dX12_go_132 rfl (lv_at hl 3 rfl) ?_
      refine lv_bipush (v := 100) S.1 S.2.1 dX12_go_133 (by decide) ?_
      refine lv_iload S.1 S.2.1 dX12_go_135 (lv_at hl 4 rfl) ?_
      refine lv_isub S.1 S.2.1 dX12_go_137 ?_
      refine lv_imul S.1 S.2.1 dX12_go_138 ?_
      refine lv_icmp_le (tgt := 146) S.1 S.2.1 dX12_go_139 (by decide) (fun q10 => ?_) (fun q10 => ?_)
      · have f := (if_pos q10).symm.trans f
        refine lv_iconst (v := 0) S.1 S.2.1 dX12_go_146 (by decide) ?_
        exact o_iret S hr hlo I f dX12_go_147
      · have f := (if_neg q10).symm.trans f
        refine lv_iconst (v := 1) S.1 S.2.1 dX12_go_142 (by decide) ?_
        refine lv_goto (tgt := 147) S.1 S.2.1 dX12_go_143 (by decide) ?_
        exact o_iret S hr hlo I f dX12_go_147
    · have f := (if_neg q3).symm.trans f
      refine lv_iload S.1 S.2.1 dX12_go_63 (lv_at hl 5 rfl) ?_
      refine lv_if_eq (tgt := 91) S.1 S.2.1 dX12_go_65 (by decide) (fun q11 => ?_) (fun q11 => ?_)
      · have f := (if_pos q11).symm.trans f
        exact T12_go_91 S hr hlo (fun f _ _ I _ hl => ih f I hl) f I (lv_sub hl [0, 1, 2, 3, 4, 5, 6] rfl)
      · have f := (if_neg q11).symm.trans f
        refine lv_iload S.1 S.2.1 dX12_go_68 (lv_at hl 4 rfl) ?_
        refine lv_bipush (v := 100) S.1 S.2.1 dX12_go_70 (by decide) ?_
        refine lv_aload_n S.1 S.2.1 dX12_go_72 rfl (lv_at hl 0 rfl) ?_
        obtain ⟨r12, e13, f⟩ := ob f
        refine o_gR S lf12_go_39 I e13 dX12_go_73 ?_
        refine lv_aload_n S.1 S.2.1 dX12_go_76 rfl (lv_at hl 0 rfl) ?_
        obtain ⟨r14, e15, f⟩ := ob f
        refine o_gR S lf12_go_118 I e15 dX12_go_77 ?_
        refine lv_iload S.1 S.2.1 dX12_go_80 (lv_at hl 6 rfl) ?_
        obtain ⟨v17, e16, f⟩ := ob f
        refine o_iald S I e16 dX12_go_82 ?_
        obtain ⟨v19, e18, f⟩ := ob f
        refine o_iald S I e18 dX12_go_83 ?_
        refine lv_isub S.1 S.2.1 dX12_go_84 ?_
        refine lv_imul S.1 S.2.1 dX12_go_85 ?_
        refine lv_bipush (v := 100) S.1 S.2.1 dX12_go_86 (by decide) ?_
        refine lv_idiv S.1 S.2.1 dX12_go_88 (by decide) ?_
        refine lv_istore (lv' := [(4, .int ((x4 * (100 - v19)) / 100)), (0, .ref (b + a0)), (1, .int x1), (2, .int x2), (3, .int x3), (5, .int x5), (6, .int x6)]) S.1 S.2.1 dX12_go_89 hl (by decide) rfl (fun ls hl => ?_)
        exact T12_go_91 S hr hlo (fun f _ _ I _ hl => ih f I hl) f I (lv_sub hl [1, 2, 3, 4, 0, 5, 6] rfl)
set_option maxHeartbeats 4000000 in
set_option maxRecDepth 100000 in
theorem T12_go_0 (S : CallFix p m c cX12_go 7 s args vX12_go RX12) (hr : meth.sig.returnType = (some .int)) (hlo : meth.locks = false) {out : Int32 × PH} {h : PH} {a0 : Nat} {x1 : Int32} {x2 : Int32} {x3 : Int32} (f : F12_go_0  h a0 x1 x2 x3 = some out) {H : Heap} {locs : List Loc} (I : ph_I D cy b A fl h s H locs) {ls : Array Slot} (hl : lv_has ls 7 [(0, .ref (b + a0)), (1, .int x1), (2, .int x2), (3, .int x3)]) : W p l e ({ frames := 9, cells := 0, slots := 0, locals := 218 } : Room) s m args below meth c H locs 0 0 (MQ below (va_Qi (fun (r : Int32) (u : PH) => (r, u) = out) (ph_B D cy b A fl) A) args s 0 0 A) (F0 m 0 ls []) := by
  unfold F12_go_0 at f
  refine lv_aload_n S.1 S.2.1 dX12_go_0 rfl (lv_at hl 0 rfl) ?_
  refine lv_iconst (v := 0) S.1 S.2.1 dX12_go_1 (by decide) ?_
  obtain ⟨h1, e2, f⟩ := ob f
  refine o_pI S lp12_go_154 I e2 dX12_go_2 (fun H locs I => ?_)
  refine lv_aload_n S.1 S.2.1 dX12_go_5 rfl (lv_at hl 0 rfl) ?_
  refine lv_iload_n S.1 S.2.1 dX12_go_6 rfl (lv_at hl 1 rfl) ?_
  obtain ⟨o3, e4, f⟩ := ob f
  refine o_Vi S (As := [.int x1]) (rest := []) (ci := 12) (M12_isSurfer l D cy b A fl e4) gX12_go_X12_isSurfer rfl rfl rfl cd12_isSurfer ⟨Nat.le_of_ble_eq_true rfl, Nat.le_of_ble_eq_true rfl⟩ I (gd e4).1 clX12 rfl rfl hl.1 rfl (Nat.le_of_ble_eq_true rfl) dX12_go_7 ⟨Nat.le_of_ble_eq_true rfl, Nat.le_of_ble_eq_true rfl⟩ (fun H locs I => ?_)
  refine lv_if_eq (tgt := 32) S.1 S.2.1 dX12_go_10 (by decide) (fun q5 => ?_) (fun q5 => ?_)
  · have f := (if_pos q5).symm.trans f
    refine lv_iconst (v := (-1)) S.1 S.2.1 dX12_go_32 (by decide) ?_
    exact o_iret S hr hlo I f dX12_go_33
  · have f := (if_neg q5).symm.trans f
    refine lv_aload_n S.1 S.2.1 dX12_go_13 rfl (lv_at hl 0 rfl) ?_
    refine lv_iload_n S.1 S.2.1 dX12_go_14 rfl (lv_at hl 2 rfl) ?_
    obtain ⟨o6, e7, f⟩ := ob f
    refine o_Vi S (As := [.int x2]) (rest := []) (ci := 12) (M12_isToCome l D cy b A fl e7) gX12_go_X12_isToCome rfl rfl rfl cd12_isToCome ⟨Nat.le_of_ble_eq_true rfl, Nat.le_of_ble_eq_true rfl⟩ I (gd e7).1 clX12 rfl rfl hl.1 rfl (Nat.le_of_ble_eq_true rfl) dX12_go_15 ⟨Nat.le_of_ble_eq_true rfl, Nat.le_of_ble_eq_true rfl⟩ (fun H locs I => ?_)
    refine lv_if_eq (tgt := 32) S.1 S.2.1 dX12_go_18 (by decide) (fun q8 => ?_) (fun q8 => ?_)
    · have f := (if_pos q8).symm.trans f
      refine lv_iconst (v := (-1)) S.1 S.2.1 dX12_go_32 (by decide) ?_
      exact o_iret S hr hlo I f dX12_go_33
    · have f := (if_neg q8).symm.trans f
      refine lv_iload_n S.1 S.2.1 dX12_go_21 rfl (lv_at hl 3 rfl) ?_
      refine lv_iconst (v := 0) S.1 S.2.1 dX12_go_22 (by decide) ?_
      refine lv_sipush (v := 999) S.1 S.2.1 dX12_go_23 (by decide) ?_
      obtain ⟨o9, e10, f⟩ := ob f
      refine o_Si S (As := [.int x3, .int 0, .int 999]) (rest := []) (M12_isIn l D cy b A fl e10) gX12_go_X12_isIn rfl rfl rfl cd12_isIn ⟨Nat.le_of_ble_eq_true rfl, Nat.le_of_ble_eq_true rfl⟩ I rfl hl.1 rfl (Nat.le_of_ble_eq_true rfl) dX12_go_26 ⟨Nat.le_of_ble_eq_true rfl, Nat.le_of_ble_eq_true rfl⟩ (fun H locs I => ?_)
      refine lv_if_ne (tgt := 34) S.1 S.2.1 dX12_go_29 (by decide) (fun q11 => ?_) (fun q11 => ?_)
      · have f := (if_neg q11).symm.trans f
        refine lv_aload_n S.1 S.2.1 dX12_go_34 rfl (lv_at hl 0 rfl) ?_
        refine lv_iconst (v := 0) S.1 S.2.1 dX12_go_35 (by decide) ?_
        refine lv_iload_n S.1 S.2.1 dX12_go_36 rfl (lv_at hl 2 rfl) ?_
        refine lv_aload_n S.1 S.2.1 dX12_go_37 rfl (lv_at hl 0 rfl) ?_
        obtain ⟨v12, e13, f⟩ := ob f
        refine o_gI S lf12_go_369 I e13 dX12_go_38 ?_
        obtain ⟨o14, e15, f⟩ := ob f
        refine o_Vv S (As := [.int 0, .int x2, .int v12]) (rest := []) (ci := 12) (M12_layOrder l D cy b A fl e15) gX12_go_X12_layOrder rfl rfl rfl cd12_layOrder ⟨Nat.le_of_ble_eq_true rfl, Nat.le_of_ble_eq_true rfl⟩ I (gd e15).1 clX12 rfl rfl hl.1 rfl (Nat.le_of_ble_eq_true rfl) dX12_go_41 ⟨Nat.le_of_ble_eq_true rfl, Nat.le_of_ble_eq_true rfl⟩ (fun H locs I => ?_)
        refine lv_bipush (v := 100) S.1 S.2.1 dX12_go_44 (by decide) ?_
        refine lv_istore (lv' := [(4, .int 100), (0, .ref (b + a0)), (1, .int x1), (2, .int x2), (3, .int x3)]) S.1 S.2.1 dX12_go_46 hl (by decide) rfl (fun ls hl => ?_)
        refine lv_iconst (v := 0) S.1 S.2.1 dX12_go_48 (by decide) ?_
        refine lv_istore (lv' := [(5, .int 0), (4, .int 100), (0, .ref (b + a0)), (1, .int x1), (2, .int x2), (3, .int x3)]) S.1 S.2.1 dX12_go_49 hl (by decide) rfl (fun ls hl => ?_)
        refine lv_iconst (v := 0) S.1 S.2.1 dX12_go_51 (by decide) ?_
        refine lv_istore (lv' := [(6, .int 0), (5, .int 0), (4, .int 100), (0, .ref (b + a0)), (1, .int x1), (2, .int x2), (3, .int x3)]) S.1 S.2.1 dX12_go_52 hl (by decide) rfl (fun ls hl => ?_)
        exact T12_go_54 S hr hlo  1024 f I (lv_sub hl [3, 4, 5, 6, 2, 1, 0] rfl)
      · have f := (if_pos q11).symm.trans f
        refine lv_iconst (v := (-1)) S.1 S.2.1 dX12_go_32 (by decide) ?_
        exact o_iret S hr hlo I f dX12_go_33
theorem M12_go (l : Launch) (D : va_G) (cy : Nat → ClassId) (b : Nat) (A : Nat → Prop) (fl : Bool) {h : PH} {a0 : Nat} {x1 : Int32} {x2 : Int32} {x3 : Int32} {out : Int32 × PH} (f : F12_go h a0 x1 x2 x3 = some out) : Met l yX12_go vX12_go ({ frames := 9, cells := 0, slots := 0, locals := 218 } : Room) (va_Pc [.ref (b + a0), .int x1, .int x2, .int x3] (ph_B D cy b A fl h)) (va_Qi (fun (r : Int32) (u : PH) => (r, u) = out) (ph_B D cy b A fl) A) 0 0 A :=
  o_met (by decide) rfl (Nat.le_of_ble_eq_true rfl) rfl (fun p e s m below meth c S hr hlo hnm ls hl I => T12_go_0 S hr hlo ((gd f).2) I (lv_sub hl [0, 1, 2, 3] rfl))
def vX12_plain : List Cond := .code yX12_plain cX12_plain 2 none :: TB
theorem lf12_plain_57 : Fl vX12_plain RX12 57 12 37 := ⟨RX12, TX12, 87, rfl, by decide, (fun w h9 => List.mem_cons_of_mem _ (wC_wsX120 w h9)), (List.mem_cons_of_mem _ wT_10_12)⟩
theorem lf12_plain_24 : Fl vX12_plain RX12 24 12 26 := ⟨RX12, TX12, 87, rfl, by decide, (fun w h9 => List.mem_cons_of_mem _ (wC_wsX120 w h9)), (List.mem_cons_of_mem _ wT_10_1)⟩
theorem lf12_plain_20 : Fl vX12_plain RX12 20 12 25 := ⟨RX12, TX12, 87, rfl, by decide, (fun w h9 => List.mem_cons_of_mem _ (wC_wsX120 w h9)), (List.mem_cons_of_mem _ wT_10_0)⟩
theorem lp12_plain_216 : Pl vX12_plain RX12 216 12 18 .int := ⟨RX12, TX12, 87, tyX12, rfl, by decide, (fun w h9 => List.mem_cons_of_mem _ (wC_wsX120 w h9)), (List.mem_cons_of_mem _ wT_11_22), tyX12_ok, nmX12, rfl, rfl⟩
theorem lp12_plain_219 : Pl vX12_plain RX12 219 12 19 .int := ⟨RX12, TX12, 87, tyX12, rfl, by decide, (fun w h9 => List.mem_cons_of_mem _ (wC_wsX120 w h9)), (List.mem_cons_of_mem _ wT_11_23), tyX12_ok, nmX12, rfl, rfl⟩
theorem lp12_plain_222 : Pl vX12_plain RX12 222 12 20 .int := ⟨RX12, TX12, 87, tyX12, rfl, by decide, (fun w h9 => List.mem_cons_of_mem _ (wC_wsX120 w h9)), (List.mem_cons_of_mem _ wT_12_0), tyX12_ok, nmX12, rfl, rfl⟩
theorem lp12_plain_225 : Pl vX12_plain RX12 225 12 21 .int := ⟨RX12, TX12, 87, tyX12, rfl, by decide, (fun w h9 => List.mem_cons_of_mem _ (wC_wsX120 w h9)), (List.mem_cons_of_mem _ wT_12_1), tyX12_ok, nmX12, rfl, rfl⟩
theorem lp12_plain_228 : Pl vX12_plain RX12 228 12 22 .int := ⟨RX12, TX12, 87, tyX12, rfl, by decide, (fun w h9 => List.mem_cons_of_mem _ (wC_wsX120 w h9)), (List.mem_cons_of_mem _ wT_12_2), tyX12_ok, nmX12, rfl, rfl⟩
theorem lp12_plain_231 : Pl vX12_plain RX12 231 12 23 .int := ⟨RX12, TX12, 87, tyX12, rfl, by decide, (fun w h9 => List.mem_cons_of_mem _ (wC_wsX120 w h9)), (List.mem_cons_of_mem _ wT_12_3), tyX12_ok, nmX12, rfl, rfl⟩
theorem lp12_plain_234 : Pl vX12_plain RX12 234 12 49 .int := ⟨RX12, TX12, 87, tyX12, rfl, by decide, (fun w h9 => List.mem_cons_of_mem _ (wC_wsX120 w h9)), (List.mem_cons_of_mem _ wT_12_4), tyX12_ok, nmX12, rfl, rfl⟩
theorem lp12_plain_237 : Pl vX12_plain RX12 237 12 24 .boolean := ⟨RX12, TX12, 87, tyX12, rfl, by decide, (fun w h9 => List.mem_cons_of_mem _ (wC_wsX120 w h9)), (List.mem_cons_of_mem _ wT_12_5), tyX12_ok, nmX12, rfl, rfl⟩
theorem cd12_plain : Cd yX12_plain 0 := ⟨by decide, by decide, by decide +kernel⟩
set_option maxHeartbeats 4000000 in
set_option maxRecDepth 100000 in
theorem T12_plain_85 (S : CallFix p m c cX12_plain 2 s args vX12_plain RX12) (hr : meth.sig.returnType = none) (hlo : meth.locks = false) {out : PH} : ∀ (n : Nat) {h : PH} {a0 : Nat} {x1 : Int32} (f : F12_plain_85  n h a0 x1 = some out) {H : Heap} {locs : List Loc} (I : ph_I D cy b A fl h s H locs) {ls : Array Slot} (hl : lv_has ls 2 [(0, .ref (b + a0)), (1, .int x1)]), W p l e ({ frames := 0, cells := 0, slots := 0, locals := 0 } : Room) s m args below meth c H locs 0 0 (MQ below (va_Qv (fun (u : PH) => u = out) (ph_B D cy b A fl) A) args s 0 0 A) (F0 m 85 ls []) := by
  intro n
  induction n with
  | zero => intro h a0 x1 f; rw [F12_plain_85] at f; cases f
  | succ n ih =>
    intro h a0 x1 f H locs I ls hl
    rw [F12_plain_85] at f
    refine lv_iload_n S.1 S.2.1 dX12_plain_85 rfl (lv_at hl 1 rfl) ?_
    refine lv_bipush (v := 6) S.1 S.2.1 dX12_plain_86 (by decide) ?_
    refine lv_icmp_ge (tgt := 104) S.1 S.2.1 dX12_plain_88 (by decide) (fun q1 => ?_) (fun q1 => ?_)
    · have f := (if_pos q1).symm.trans f
      exact o_vret S hr hlo I f dX12_plain_104
    · have f := (if_neg q1).symm.trans f
      refine lv_aload_n S.1 S.2.1 dX12_plain_91 rfl (lv_at hl 0 rfl) ?_
      obtain ⟨r2, e3, f⟩ := ob f
      refine o_gR S lf12_plain_57 I e3 dX12_plain_92 ?_
      refine lv_iload_n S.1 S.2.1 dX12_plain_95 rfl (lv_at hl 1 rfl) ?_
      refine lv_iconst (v := 0) S.1 S.2.1 dX12_plain_96 (by decide) ?_
      obtain ⟨h5, e4, f⟩ := ob f
      refine o_zast S I e4 dX12_plain_97 (fun H locs I => ?_)
      refine lv_iinc (v := (x1 + 1)) (lv' := [(1, .int (x1 + 1)), (0, .ref (b + a0))]) S.1 S.2.1 dX12_plain_98 hl (k := 1) rfl (congrArg (fun z => x1 + z) (by decide)) (by decide) rfl (fun ls hl => ?_)
      refine lv_goto (tgt := 85) S.1 S.2.1 dX12_plain_101 (by decide) ?_
      exact ih f I (lv_sub hl [1, 0] rfl)
set_option maxHeartbeats 4000000 in
set_option maxRecDepth 100000 in
theorem T12_plain_64 (S : CallFix p m c cX12_plain 2 s args vX12_plain RX12) (hr : meth.sig.returnType = none) (hlo : meth.locks = false) {out : PH} : ∀ (n : Nat) {h : PH} {a0 : Nat} {x1 : Int32} (f : F12_plain_64  n h a0 x1 = some out) {H : Heap} {locs : List Loc} (I : ph_I D cy b A fl h s H locs) {ls : Array Slot} (hl : lv_has ls 2 [(0, .ref (b + a0)), (1, .int x1)]), W p l e ({ frames := 0, cells := 0, slots := 0, locals := 0 } : Room) s m args below meth c H locs 0 0 (MQ below (va_Qv (fun (u : PH) => u = out) (ph_B D cy b A fl) A) args s 0 0 A) (F0 m 64 ls []) := by
  intro n
  induction n with
  | zero => intro h a0 x1 f; rw [F12_plain_64] at f; cases f
  | succ n ih =>
    intro h a0 x1 f H locs I ls hl
    rw [F12_plain_64] at f
    refine lv_iload_n S.1 S.2.1 dX12_plain_64 rfl (lv_at hl 1 rfl) ?_
    refine lv_bipush (v := 14) S.1 S.2.1 dX12_plain_65 (by decide) ?_
    refine lv_icmp_ge (tgt := 83) S.1 S.2.1 dX12_plain_67 (by decide) (fun q1 => ?_) (fun q1 => ?_)
    · have f := (if_pos q1).symm.trans f
      refine lv_iconst (v := 3) S.1 S.2.1 dX12_plain_83 (by decide) ?_
      refine lv_istore_n (lv' := [(1, .int 3), (0, .ref (b + a0))]) S.1 S.2.1 dX12_plain_84 rfl hl (by decide) rfl (fun ls hl => ?_)
      exact T12_plain_85 S hr hlo  1024 f I (lv_sub hl [1, 0] rfl)
    · have f := (if_neg q1).symm.trans f
      refine lv_aload_n S.1 S.2.1 dX12_plain_70 rfl (lv_at hl 0 rfl) ?_
      obtain ⟨r2, e3, f⟩ := ob f
      refine o_gR S lf12_plain_24 I e3 dX12_plain_71 ?_
      refine lv_iload_n S.1 S.2.1 dX12_plain_74 rfl (lv_at hl 1 rfl) ?_
      refine lv_iconst (v := 0) S.1 S.2.1 dX12_plain_75 (by decide) ?_
      obtain ⟨h5, e4, f⟩ := ob f
      refine o_iast S I e4 dX12_plain_76 (fun H locs I => ?_)
      refine lv_iinc (v := (x1 + 1)) (lv' := [(1, .int (x1 + 1)), (0, .ref (b + a0))]) S.1 S.2.1 dX12_plain_77 hl (k := 1) rfl (congrArg (fun z => x1 + z) (by decide)) (by decide) rfl (fun ls hl => ?_)
      refine lv_goto (tgt := 64) S.1 S.2.1 dX12_plain_80 (by decide) ?_
      exact ih f I (lv_sub hl [1, 0] rfl)
set_option maxHeartbeats 4000000 in
set_option maxRecDepth 100000 in
theorem T12_plain_43 (S : CallFix p m c cX12_plain 2 s args vX12_plain RX12) (hr : meth.sig.returnType = none) (hlo : meth.locks = false) {out : PH} : ∀ (n : Nat) {h : PH} {a0 : Nat} {x1 : Int32} (f : F12_plain_43  n h a0 x1 = some out) {H : Heap} {locs : List Loc} (I : ph_I D cy b A fl h s H locs) {ls : Array Slot} (hl : lv_has ls 2 [(0, .ref (b + a0)), (1, .int x1)]), W p l e ({ frames := 0, cells := 0, slots := 0, locals := 0 } : Room) s m args below meth c H locs 0 0 (MQ below (va_Qv (fun (u : PH) => u = out) (ph_B D cy b A fl) A) args s 0 0 A) (F0 m 43 ls []) := by
  intro n
  induction n with
  | zero => intro h a0 x1 f; rw [F12_plain_43] at f; cases f
  | succ n ih =>
    intro h a0 x1 f H locs I ls hl
    rw [F12_plain_43] at f
    refine lv_iload_n S.1 S.2.1 dX12_plain_43 rfl (lv_at hl 1 rfl) ?_
    refine lv_iconst (v := 5) S.1 S.2.1 dX12_plain_44 (by decide) ?_
    refine lv_icmp_ge (tgt := 61) S.1 S.2.1 dX12_plain_45 (by decide) (fun q1 => ?_) (fun q1 => ?_)
    · have f := (if_pos q1).symm.trans f
      refine lv_bipush (v := 7) S.1 S.2.1 dX12_plain_61 (by decide) ?_
      refine lv_istore_n (lv' := [(1, .int 7), (0, .ref (b + a0))]) S.1 S.2.1 dX12_plain_63 rfl hl (by decide) rfl (fun ls hl => ?_)
      exact T12_plain_64 S hr hlo  1024 f I (lv_sub hl [1, 0] rfl)
    · have f := (if_neg q1).symm.trans f
      refine lv_aload_n S.1 S.2.1 dX12_plain_48 rfl (lv_at hl 0 rfl) ?_
      obtain ⟨r2, e3, f⟩ := ob f
      refine o_gR S lf12_plain_20 I e3 dX12_plain_49 ?_
      refine lv_iload_n S.1 S.2.1 dX12_plain_52 rfl (lv_at hl 1 rfl) ?_
      refine lv_iconst (v := 0) S.1 S.2.1 dX12_plain_53 (by decide) ?_
      obtain ⟨h5, e4, f⟩ := ob f
      refine o_zast S I e4 dX12_plain_54 (fun H locs I => ?_)
      refine lv_iinc (v := (x1 + 1)) (lv' := [(1, .int (x1 + 1)), (0, .ref (b + a0))]) S.1 S.2.1 dX12_plain_55 hl (k := 1) rfl (congrArg (fun z => x1 + z) (by decide)) (by decide) rfl (fun ls hl => ?_)
      refine lv_goto (tgt := 43) S.1 S.2.1 dX12_plain_58 (by decide) ?_
      exact ih f I (lv_sub hl [1, 0] rfl)
set_option maxHeartbeats 4000000 in
set_option maxRecDepth 100000 in
theorem T12_plain_0 (S : CallFix p m c cX12_plain 2 s args vX12_plain RX12) (hr : meth.sig.returnType = none) (hlo : meth.locks = false) {out : PH} {h : PH} {a0 : Nat} (f : F12_plain_0  h a0 = some out) {H : Heap} {locs : List Loc} (I : ph_I D cy b A fl h s H locs) {ls : Array Slot} (hl : lv_has ls 2 [(0, .ref (b + a0))]) : W p l e ({ frames := 0, cells := 0, slots := 0, locals := 0 } : Room) s m args below meth c H locs 0 0 (MQ below (va_Qv (fun (u : PH) => u = out) (ph_B D cy b A fl) A) args s 0 0 A) (F0 m 0 ls []) := by
  unfold F12_plain_0 at f
  refine lv_aload_n S.1 S.2.1 dX12_plain_0 rfl (lv_at hl 0 rfl) ?_
  refine lv_bipush (v := 6) S.1 S.2.1 dX12_plain_1 (by decide) ?_
  obtain ⟨h1, e2, f⟩ := ob f
  refine o_pI S lp12_plain_216 I e2 dX12_plain_3 (fun H locs I => ?_)
  refine lv_aload_n S.1 S.2.1 dX12_plain_6 rfl (lv_at hl 0 rfl) ?_
  refine lv_iconst (v := 4) S.1 S.2.1 dX12_plain_7 (by decide) ?_
  obtain ⟨h3, e4, f⟩ := ob f
  refine o_pI S lp12_plain_219 I e4 dX12_plain_8 (fun H locs I => ?_)
  refine lv_aload_n S.1 S.2.1 dX12_plain_11 rfl (lv_at hl 0 rfl) ?_
  refine lv_iconst (v := 0) S.1 S.2.1 dX12_plain_12 (by decide) ?_
  obtain ⟨h5, e6, f⟩ := ob f
  refine o_pI S lp12_plain_222 I e6 dX12_plain_13 (fun H locs I => ?_)
  refine lv_aload_n S.1 S.2.1 dX12_plain_16 rfl (lv_at hl 0 rfl) ?_
  refine lv_iconst (v := 0) S.1 S.2.1 dX12_plain_17 (by decide) ?_
  obtain ⟨h7, e8, f⟩ := ob f
  refine o_pI S lp12_plain_225 I e8 dX12_plain_18 (fun H locs I => ?_)
  refine lv_aload_n S.1 S.2.1 dX12_plain_21 rfl (lv_at hl 0 rfl) ?_
  refine lv_iconst (v := 0) S.1 S.2.1 dX12_plain_22 (by decide) ?_
  obtain ⟨h9, e10, f⟩ := ob f
  refine o_pI S lp12_plain_228 I e10 dX12_plain_23 (fun H locs I => ?_)
  refine lv_aload_n S.1 S.2.1 dX12_plain_26 rfl (lv_at hl 0 rfl) ?_
  refine lv_iconst (v := 0) S.1 S.2.1 dX12_plain_27 (by decide) ?_
  obtain ⟨h11, e12, f⟩ := ob f
  refine o_pI S lp12_plain_231 I e12 dX12_plain_28 (fun H locs I => ?_)
  refine lv_aload_n S.1 S.2.1 dX12_plain_31 rfl (lv_at hl 0 rfl) ?_
  refine lv_iconst (v := 0) S.1 S.2.1 dX12_plain_32 (by decide) ?_
  obtain ⟨h13, e14, f⟩ := ob f
  refine o_pI S lp12_plain_234 I e14 dX12_plain_33 (fun H locs I => ?_)
  refine lv_aload_n S.1 S.2.1 dX12_plain_36 rfl (lv_at hl 0 rfl) ?_
  refine lv_iconst (v := 0) S.1 S.2.1 dX12_plain_37 (by decide) ?_
  obtain ⟨h15, e16, f⟩ := ob f
  refine o_pZ S lp12_plain_237 I e16 dX12_plain_38 (fun H locs I => ?_)
  refine lv_iconst (v := 0) S.1 S.2.1 dX12_plain_41 (by decide) ?_
  refine lv_istore_n (lv' := [(1, .int 0), (0, .ref (b + a0))]) S.1 S.2.1 dX12_plain_42 rfl hl (by decide) rfl (fun ls hl => ?_)
  exact T12_plain_43 S hr hlo  1024 f I (lv_sub hl [1, 0] rfl)
theorem M12_plain (l : Launch) (D : va_G) (cy : Nat → ClassId) (b : Nat) (A : Nat → Prop) (fl : Bool) {h : PH} {a0 : Nat} {out : PH} (f : F12_plain h a0 = some out) : Met l yX12_plain vX12_plain ({ frames := 0, cells := 0, slots := 0, locals := 0 } : Room) (va_Pc [.ref (b + a0)] (ph_B D cy b A fl h)) (va_Qv (fun (u : PH) => u = out) (ph_B D cy b A fl) A) 0 0 A :=
  o_met (by decide) rfl (Nat.le_of_ble_eq_true rfl) rfl (fun p e s m below meth c S hr hlo hnm ls hl I => T12_plain_0 S hr hlo ((gd f).2) I (lv_sub hl [0] rfl))
def vX12_keepText : List Cond := .code yX12_keepText cX12_keepText 2 none :: TB
theorem lf12_keepText_60 : Fl vX12_keepText RX12 60 12 38 := ⟨RX12, TX12, 87, rfl, by decide, (fun w h9 => List.mem_cons_of_mem _ (wC_wsX120 w h9)), (List.mem_cons_of_mem _ wT_10_13)⟩
theorem gX12_keepText_X12_copies : GoodIn vX12_keepText (va_wsS RX12 259 yX12_copies vX12_copies) := gS_of wT_12_16 wT_12_17 wT_1_5 wT_12_18
theorem lf12_keepText_63 : Fl vX12_keepText RX12 63 12 39 := ⟨RX12, TX12, 87, rfl, by decide, (fun w h9 => List.mem_cons_of_mem _ (wC_wsX120 w h9)), (List.mem_cons_of_mem _ wT_10_14)⟩
theorem lf12_keepText_66 : Fl vX12_keepText RX12 66 12 40 := ⟨RX12, TX12, 87, rfl, by decide, (fun w h9 => List.mem_cons_of_mem _ (wC_wsX120 w h9)), (List.mem_cons_of_mem _ wT_10_15)⟩
theorem lf12_keepText_69 : Fl vX12_keepText RX12 69 12 41 := ⟨RX12, TX12, 87, rfl, by decide, (fun w h9 => List.mem_cons_of_mem _ (wC_wsX120 w h9)), (List.mem_cons_of_mem _ wT_10_16)⟩
theorem lf12_keepText_72 : Fl vX12_keepText RX12 72 12 42 := ⟨RX12, TX12, 87, rfl, by decide, (fun w h9 => List.mem_cons_of_mem _ (wC_wsX120 w h9)), (List.mem_cons_of_mem _ wT_10_17)⟩
theorem gX12_keepText_X12_begin : GoodIn vX12_keepText (wsV RX12 263 RX12 yX12_begin vX12_begin) := gV_of wT_12_19 wT_12_20 wT_12_21 wT_1_5 wT_12_22
theorem lf12_keepText_57 : Fl vX12_keepText RX12 57 12 37 := ⟨RX12, TX12, 87, rfl, by decide, (fun w h9 => List.mem_cons_of_mem _ (wC_wsX120 w h9)), (List.mem_cons_of_mem _ wT_10_12)⟩
theorem lf12_keepText_216 : Fl vX12_keepText RX12 216 12 18 := ⟨RX12, TX12, 87, rfl, by decide, (fun w h9 => List.mem_cons_of_mem _ (wC_wsX120 w h9)), (List.mem_cons_of_mem _ wT_11_22)⟩
theorem lp12_keepText_241 : Pl vX12_keepText RX12 241 12 12 .int := ⟨RX12, TX12, 87, tyX12, rfl, by decide, (fun w h9 => List.mem_cons_of_mem _ (wC_wsX120 w h9)), (List.mem_cons_of_mem _ wT_12_10), tyX12_ok, nmX12, rfl, rfl⟩
theorem lf12_keepText_219 : Fl vX12_keepText RX12 219 12 19 := ⟨RX12, TX12, 87, rfl, by decide, (fun w h9 => List.mem_cons_of_mem _ (wC_wsX120 w h9)), (List.mem_cons_of_mem _ wT_11_23)⟩
theorem lp12_keepText_244 : Pl vX12_keepText RX12 244 12 13 .int := ⟨RX12, TX12, 87, tyX12, rfl, by decide, (fun w h9 => List.mem_cons_of_mem _ (wC_wsX120 w h9)), (List.mem_cons_of_mem _ wT_12_11), tyX12_ok, nmX12, rfl, rfl⟩
theorem lf12_keepText_222 : Fl vX12_keepText RX12 222 12 20 := ⟨RX12, TX12, 87, rfl, by decide, (fun w h9 => List.mem_cons_of_mem _ (wC_wsX120 w h9)), (List.mem_cons_of_mem _ wT_12_0)⟩
theorem lp12_keepText_247 : Pl vX12_keepText RX12 247 12 14 .int := ⟨RX12, TX12, 87, tyX12, rfl, by decide, (fun w h9 => List.mem_cons_of_mem _ (wC_wsX120 w h9)), (List.mem_cons_of_mem _ wT_12_12), tyX12_ok, nmX12, rfl, rfl⟩
theorem lf12_keepText_225 : Fl vX12_keepText RX12 225 12 21 := ⟨RX12, TX12, 87, rfl, by decide, (fun w h9 => List.mem_cons_of_mem _ (wC_wsX120 w h9)), (List.mem_cons_of_mem _ wT_12_1)⟩
theorem lp12_keepText_250 : Pl vX12_keepText RX12 250 12 15 .int := ⟨RX12, TX12, 87, tyX12, rfl, by decide, (fun w h9 => List.mem_cons_of_mem _ (wC_wsX120 w h9)), (List.mem_cons_of_mem _ wT_12_13), tyX12_ok, nmX12, rfl, rfl⟩
theorem lf12_keepText_228 : Fl vX12_keepText RX12 228 12 22 := ⟨RX12, TX12, 87, rfl, by decide, (fun w h9 => List.mem_cons_of_mem _ (wC_wsX120 w h9)), (List.mem_cons_of_mem _ wT_12_2)⟩
theorem lp12_keepText_253 : Pl vX12_keepText RX12 253 12 16 .int := ⟨RX12, TX12, 87, tyX12, rfl, by decide, (fun w h9 => List.mem_cons_of_mem _ (wC_wsX120 w h9)), (List.mem_cons_of_mem _ wT_12_14), tyX12_ok, nmX12, rfl, rfl⟩
theorem lf12_keepText_231 : Fl vX12_keepText RX12 231 12 23 := ⟨RX12, TX12, 87, rfl, by decide, (fun w h9 => List.mem_cons_of_mem _ (wC_wsX120 w h9)), (List.mem_cons_of_mem _ wT_12_3)⟩
theorem lp12_keepText_256 : Pl vX12_keepText RX12 256 12 17 .int := ⟨RX12, TX12, 87, tyX12, rfl, by decide, (fun w h9 => List.mem_cons_of_mem _ (wC_wsX120 w h9)), (List.mem_cons_of_mem _ wT_12_15), tyX12_ok, nmX12, rfl, rfl⟩
theorem lf12_keepText_24 : Fl vX12_keepText RX12 24 12 26 := ⟨RX12, TX12, 87, rfl, by decide, (fun w h9 => List.mem_cons_of_mem _ (wC_wsX120 w h9)), (List.mem_cons_of_mem _ wT_10_1)⟩
theorem lf12_keepText_27 : Fl vX12_keepText RX12 27 12 27 := ⟨RX12, TX12, 87, rfl, by decide, (fun w h9 => List.mem_cons_of_mem _ (wC_wsX120 w h9)), (List.mem_cons_of_mem _ wT_10_2)⟩
theorem lf12_keepText_30 : Fl vX12_keepText RX12 30 12 28 := ⟨RX12, TX12, 87, rfl, by decide, (fun w h9 => List.mem_cons_of_mem _ (wC_wsX120 w h9)), (List.mem_cons_of_mem _ wT_10_3)⟩
theorem lf12_keepText_33 : Fl vX12_keepText RX12 33 12 29 := ⟨RX12, TX12, 87, rfl, by decide, (fun w h9 => List.mem_cons_of_mem _ (wC_wsX120 w h9)), (List.mem_cons_of_mem _ wT_10_4)⟩
theorem lf12_keepText_36 : Fl vX12_keepText RX12 36 12 30 := ⟨RX12, TX12, 87, rfl, by decide, (fun w h9 => List.mem_cons_of_mem _ (wC_wsX120 w h9)), (List.mem_cons_of_mem _ wT_10_5)⟩
theorem lf12_keepText_39 : Fl vX12_keepText RX12 39 12 31 := ⟨RX12, TX12, 87, rfl, by decide, (fun w h9 => List.mem_cons_of_mem _ (wC_wsX120 w h9)), (List.mem_cons_of_mem _ wT_10_6)⟩
theorem lf12_keepText_42 : Fl vX12_keepText RX12 42 12 32 := ⟨RX12, TX12, 87, rfl, by decide, (fun w h9 => List.mem_cons_of_mem _ (wC_wsX120 w h9)), (List.mem_cons_of_mem _ wT_10_7)⟩
theorem lf12_keepText_45 : Fl vX12_keepText RX12 45 12 33 := ⟨RX12, TX12, 87, rfl, by decide, (fun w h9 => List.mem_cons_of_mem _ (wC_wsX120 w h9)), (List.mem_cons_of_mem _ wT_10_8)⟩
theorem lf12_keepText_48 : Fl vX12_keepText RX12 48 12 34 := ⟨RX12, TX12, 87, rfl, by decide, (fun w h9 => List.mem_cons_of_mem _ (wC_wsX120 w h9)), (List.mem_cons_of_mem _ wT_10_9)⟩
theorem lf12_keepText_51 : Fl vX12_keepText RX12 51 12 35 := ⟨RX12, TX12, 87, rfl, by decide, (fun w h9 => List.mem_cons_of_mem _ (wC_wsX120 w h9)), (List.mem_cons_of_mem _ wT_10_10)⟩
theorem lf12_keepText_54 : Fl vX12_keepText RX12 54 12 36 := ⟨RX12, TX12, 87, rfl, by decide, (fun w h9 => List.mem_cons_of_mem _ (wC_wsX120 w h9)), (List.mem_cons_of_mem _ wT_10_11)⟩
theorem cd12_keepText : Cd yX12_keepText 0 := ⟨by decide, by decide, by decide +kernel⟩
set_option maxHeartbeats 4000000 in
set_option maxRecDepth 100000 in
theorem T12_keepText_142 (S : CallFix p m c cX12_keepText 2 s args vX12_keepText RX12) (hr : meth.sig.returnType = none) (hlo : meth.locks = false) {out : PH} : ∀ (n : Nat) {h : PH} {a0 : Nat} {x1 : Int32} (f : F12_keepText_142  n h a0 x1 = some out) {H : Heap} {locs : List Loc} (I : ph_I D cy b A fl h s H locs) {ls : Array Slot} (hl : lv_has ls 2 [(0, .ref (b + a0)), (1, .int x1)]), W p l e ({ frames := 1, cells := 0, slots := 0, locals := 22 } : Room) s m args below meth c H locs 0 0 (MQ below (va_Qv (fun (u : PH) => u = out) (ph_B D cy b A fl) A) args s 0 0 A) (F0 m 142 ls []) := by
  intro n
  induction n with
  | zero => intro h a0 x1 f; rw [F12_keepText_142] at f; cases f
  | succ n ih =>
    intro h a0 x1 f H locs I ls hl
    rw [F12_keepText_142] at f
    refine lv_iload_n S.1 S.2.1 dX12_keepText_142 rfl (lv_at hl 1 rfl) ?_
    refine lv_iconst (v := 3) S.1 S.2.1 dX12_keepText_143 (by decide) ?_
    refine lv_icmp_ge (tgt := 167) S.1 S.2.1 dX12_keepText_144 (by decide) (fun q1 => ?_) (fun q1 => ?_)
    · have f := (if_pos q1).symm.trans f
      refine lv_aload_n S.1 S.2.1 dX12_keepText_167 rfl (lv_at hl 0 rfl) ?_
      obtain ⟨r2, e3, f⟩ := ob f
      refine o_gR S lf12_keepText_60 I e3 dX12_keepText_168 ?_
      refine lv_iconst (v := 3) S.1 S.2.1 dX12_keepText_171 (by decide) ?_
      obtain ⟨o4, e5, f⟩ := ob f
      refine o_Sv S (As := [.ref (b + r2), .int 3]) (rest := []) (M12_copies l D cy b A fl e5) gX12_keepText_X12_copies rfl rfl rfl cd12_copies ⟨Nat.le_of_ble_eq_true rfl, Nat.le_of_ble_eq_true rfl⟩ I rfl hl.1 rfl (Nat.le_of_ble_eq_true rfl) dX12_keepText_172 ⟨Nat.le_of_ble_eq_true rfl, Nat.le_of_ble_eq_true rfl⟩ (fun H locs I => ?_)
      refine lv_aload_n S.1 S.2.1 dX12_keepText_175 rfl (lv_at hl 0 rfl) ?_
      obtain ⟨r6, e7, f⟩ := ob f
      refine o_gR S lf12_keepText_63 I e7 dX12_keepText_176 ?_
      refine lv_iconst (v := 3) S.1 S.2.1 dX12_keepText_179 (by decide) ?_
      obtain ⟨o8, e9, f⟩ := ob f
      refine o_Sv S (As := [.ref (b + r6), .int 3]) (rest := []) (M12_copies l D cy b A fl e9) gX12_keepText_X12_copies rfl rfl rfl cd12_copies ⟨Nat.le_of_ble_eq_true rfl, Nat.le_of_ble_eq_true rfl⟩ I rfl hl.1 rfl (Nat.le_of_ble_eq_true rfl) dX12_keepText_180 ⟨Nat.le_of_ble_eq_true rfl, Nat.le_of_ble_eq_true rfl⟩ (fun H locs I => ?_)
      refine lv_aload_n S.1 S.2.1 dX12_keepText_183 rfl (lv_at hl 0 rfl) ?_
      obtain ⟨r10, e11, f⟩ := ob f
      refine o_gR S lf12_keepText_66 I e11 dX12_keepText_184 ?_
      refine lv_bipush (v := 64) S.1 S.2.1 dX12_keepText_187 (by decide) ?_
      obtain ⟨o12, e13, f⟩ := ob f
      refine o_Sv S (As := [.ref (b + r10), .int 64]) (rest := []) (M12_copies l D cy b A fl e13) gX12_keepText_X12_copies rfl rfl rfl cd12_copies ⟨Nat.le_of_ble_eq_true rfl, Nat.le_of_ble_eq_true rfl⟩ I rfl hl.1 rfl (Nat.le_of_ble_eq_true rfl) dX12_keepText_189 ⟨Nat.le_of_ble_eq_true rfl, Nat.le_of_ble_eq_true rfl⟩ (fun H locs I => ?_)
      refine lv_aload_n S.1 S.2.1 dX12_keepText_192 rfl (lv_at hl 0 rfl) ?_
      obtain ⟨r14, e15, f⟩ := ob f
      refine o_gR S lf12_keepText_69 I e15 dX12_keepText_193 ?_
      refine lv_bipush (v := 64) S.1 S.2.1 dX12_keepText_196 (by decide) ?_
      obtain ⟨o16, e17, f⟩ := ob f
      refine o_Sv S (As := [.ref (b + r14), .int 64]) (rest := []) (M12_copies l D cy b A fl e17) gX12_keepText_X12_copies rfl rfl rfl cd12_copies ⟨Nat.le_of_ble_eq_true rfl, Nat.le_of_ble_eq_true rfl⟩ I rfl hl.1 rfl (Nat.le_of_ble_eq_true rfl) dX12_keepText_198 ⟨Nat.le_of_ble_eq_true rfl, Nat.le_of_ble_eq_true rfl⟩ (fun H locs I => ?_)
      refine lv_aload_n S.1 S.2.1 dX12_keepText_201 rfl (lv_at hl 0 rfl) ?_
      obtain ⟨r18, e19, f⟩ := ob f
      refine o_gR S lf12_keepText_72 I e19 dX12_keepText_202 ?_
      refine lv_bipush (v := 64) S.1 S.2.1 dX12_keepText_205 (by decide) ?_
      obtain ⟨o20, e21, f⟩ := ob f
      refine o_Sv S (As := [.ref (b + r18), .int 64]) (rest := []) (M12_copies l D cy b A fl e21) gX12_keepText_X12_copies rfl rfl rfl cd12_copies ⟨Nat.le_of_ble_eq_true rfl, Nat.le_of_ble_eq_true rfl⟩ I rfl hl.1 rfl (Nat.le_of_ble_eq_true rfl) dX12_keepText_207 ⟨Nat.le_of_ble_eq_true rfl, Nat.le_of_ble_eq_true rfl⟩ (fun H locs I => ?_)
      refine lv_aload_n S.1 S.2.1 dX12_keepText_210 rfl (lv_at hl 0 rfl) ?_
      obtain ⟨o22, e23, f⟩ := ob f
      refine o_Vv S (As := []) (rest := []) (ci := 12) (M12_begin l D cy b A fl e23) gX12_keepText_X12_begin rfl rfl rfl cd12_begin ⟨Nat.le_of_ble_eq_true rfl, Nat.le_of_ble_eq_true rfl⟩ I (gd e23).1 clX12 rfl rfl hl.1 rfl (Nat.le_of_ble_eq_true rfl) dX12_keepText_211 ⟨Nat.le_of_ble_eq_true rfl, Nat.le_of_ble_eq_true rfl⟩ (fun H locs I => ?_)
      exact o_vret S hr hlo I f dX12_keepText_214
    · have f := (if_neg q1).symm.trans f
      refine lv_aload_n S.1 S.2.1 dX12_keepText_147 rfl (lv_at hl 0 rfl) ?_
      obtain ⟨r24, e25, f⟩ := ob f
      refine o_gR S lf12_keepText_57 I e25 dX12_keepText_148 ?_
      refine lv_iload_n S.1 S.2.1 dX12_keepText_151 rfl (lv_at hl 1 rfl) ?_
      refine lv_aload_n S.1 S.2.1 dX12_keepText_152 rfl (lv_at hl 0 rfl) ?_
      obtain ⟨r26, e27, f⟩ := ob f
      refine o_gR S lf12_keepText_57 I e27 dX12_keepText_153 ?_
      refine lv_iconst (v := 3) S.1 S.2.1 dX12_keepText_156 (by decide) ?_
      refine lv_iload_n S.1 S.2.1 dX12_keepText_157 rfl (lv_at hl 1 rfl) ?_
      refine lv_iadd S.1 S.2.1 dX12_keepText_158 ?_
      obtain ⟨v29, e28, f⟩ := ob f
      refine o_zald S I e28 dX12_keepText_159 ?_
      obtain ⟨h31, e30, f⟩ := ob f
      refine o_zast S I e30 dX12_keepText_160 (fun H locs I => ?_)
      refine lv_iinc (v := (x1 + 1)) (lv' := [(1, .int (x1 + 1)), (0, .ref (b + a0))]) S.1 S.2.1 dX12_keepText_161 hl (k := 1) rfl (congrArg (fun z => x1 + z) (by decide)) (by decide) rfl (fun ls hl => ?_)
      refine lv_goto (tgt := 142) S.1 S.2.1 dX12_keepText_164 (by decide) ?_
      exact ih f I (lv_sub hl [1, 0] rfl)
set_option maxHeartbeats 4000000 in
set_option maxRecDepth 100000 in
theorem T12_keepText_0 (S : CallFix p m c cX12_keepText 2 s args vX12_keepText RX12) (hr : meth.sig.returnType = none) (hlo : meth.locks = false) {out : PH} {h : PH} {a0 : Nat} (f : F12_keepText_0  h a0 = some out) {H : Heap} {locs : List Loc} (I : ph_I D cy b A fl h s H locs) {ls : Array Slot} (hl : lv_has ls 2 [(0, .ref (b + a0))]) : W p l e ({ frames := 1, cells := 0, slots := 0, locals := 22 } : Room) s m args below meth c H locs 0 0 (MQ below (va_Qv (fun (u : PH) => u = out) (ph_B D cy b A fl) A) args s 0 0 A) (F0 m 0 ls []) := by
  unfold F12_keepText_0 at f
  refine lv_aload_n S.1 S.2.1 dX12_keepText_0 rfl (lv_at hl 0 rfl) ?_
  refine lv_aload_n S.1 S.2.1 dX12_keepText_1 rfl (lv_at hl 0 rfl) ?_
  obtain ⟨v1, e2, f⟩ := ob f
  refine o_gI S lf12_keepText_216 I e2 dX12_keepText_2 ?_
  obtain ⟨h3, e4, f⟩ := ob f
  refine o_pI S lp12_keepText_241 I e4 dX12_keepText_5 (fun H locs I => ?_)
  refine lv_aload_n S.1 S.2.1 dX12_keepText_8 rfl (lv_at hl 0 rfl) ?_
  refine lv_aload_n S.1 S.2.1 dX12_keepText_9 rfl (lv_at hl 0 rfl) ?_
  obtain ⟨v5, e6, f⟩ := ob f
  refine o_gI S lf12_keepText_219 I e6 dX12_keepText_10 ?_
  obtain ⟨h7, e8, f⟩ := ob f
  refine o_pI S lp12_keepText_244 I e8 dX12_keepText_13 (fun H locs I => ?_)
  refine lv_aload_n S.1 S.2.1 dX12_keepText_16 rfl (lv_at hl 0 rfl) ?_
  refine lv_aload_n S.1 S.2.1 dX12_keepText_17 rfl (lv_at hl 0 rfl) ?_
  obtain ⟨v9, e10, f⟩ := ob f
  refine o_gI S lf12_keepText_222 I e10 dX12_keepText_18 ?_
  obtain ⟨h11, e12, f⟩ := ob f
  refine o_pI S lp12_keepText_247 I e12 dX12_keepText_21 (fun H locs I => ?_)
  refine lv_aload_n S.1 S.2.1 dX12_keepText_24 rfl (lv_at hl 0 rfl) ?_
  refine lv_aload_n S.1 S.2.1 dX12_keepText_25 rfl (lv_at hl 0 rfl) ?_
  obtain ⟨v13, e14, f⟩ := ob f
  refine o_gI S lf12_keepText_225 I e14 dX12_keepText_26 ?_
  obtain ⟨h15, e16, f⟩ := ob f
  refine o_pI S lp12_keepText_250 I e16 dX12_keepText_29 (fun H locs I => ?_)
  refine lv_aload_n S.1 S.2.1 dX12_keepText_32 rfl (lv_at hl 0 rfl) ?_
  refine lv_aload_n S.1 S.2.1 dX12_keepText_33 rfl (lv_at hl 0 rfl) ?_
  obtain ⟨v17, e18, f⟩ := ob f
  refine o_gI S lf12_keepText_228 I e18 dX12_keepText_34 ?_
  obtain ⟨h19, e20, f⟩ := ob f
  refine o_pI S lp12_keepText_253 I e20 dX12_keepText_37 (fun H locs I => ?_)
  refine lv_aload_n S.1 S.2.1 dX12_keepText_40 rfl (lv_at hl 0 rfl) ?_
  refine lv_aload_n S.1 S.2.1 dX12_keepText_41 rfl (lv_at hl 0 rfl) ?_
  obtain ⟨v21, e22, f⟩ := ob f
  refine o_gI S lf12_keepText_231 I e22 dX12_keepText_42 ?_
  obtain ⟨h23, e24, f⟩ := ob f
  refine o_pI S lp12_keepText_256 I e24 dX12_keepText_45 (fun H locs I => ?_)
  refine lv_aload_n S.1 S.2.1 dX12_keepText_48 rfl (lv_at hl 0 rfl) ?_
  obtain ⟨r25, e26, f⟩ := ob f
  refine o_gR S lf12_keepText_24 I e26 dX12_keepText_49 ?_
  refine lv_bipush (v := 7) S.1 S.2.1 dX12_keepText_52 (by decide) ?_
  obtain ⟨o27, e28, f⟩ := ob f
  refine o_Sv S (As := [.ref (b + r25), .int 7]) (rest := []) (M12_copies l D cy b A fl e28) gX12_keepText_X12_copies rfl rfl rfl cd12_copies ⟨Nat.le_of_ble_eq_true rfl, Nat.le_of_ble_eq_true rfl⟩ I rfl hl.1 rfl (Nat.le_of_ble_eq_true rfl) dX12_keepText_54 ⟨Nat.le_of_ble_eq_true rfl, Nat.le_of_ble_eq_true rfl⟩ (fun H locs I => ?_)
  refine lv_aload_n S.1 S.2.1 dX12_keepText_57 rfl (lv_at hl 0 rfl) ?_
  obtain ⟨r29, e30, f⟩ := ob f
  refine o_gR S lf12_keepText_27 I e30 dX12_keepText_58 ?_
  refine lv_iconst (v := 5) S.1 S.2.1 dX12_keepText_61 (by decide) ?_
  obtain ⟨o31, e32, f⟩ := ob f
  refine o_Sv S (As := [.ref (b + r29), .int 5]) (rest := []) (M12_copies l D cy b A fl e32) gX12_keepText_X12_copies rfl rfl rfl cd12_copies ⟨Nat.le_of_ble_eq_true rfl, Nat.le_of_ble_eq_true rfl⟩ I rfl hl.1 rfl (Nat.le_of_ble_eq_true rfl) dX12_keepText_62 ⟨Nat.le_of_ble_eq_true rfl, Nat.le_of_ble_eq_true rfl⟩ (fun H locs I => ?_)
  refine lv_aload_n S.1 S.2.1 dX12_keepText_65 rfl (lv_at hl 0 rfl) ?_
  obtain ⟨r33, e34, f⟩ := ob f
  refine o_gR S lf12_keepText_30 I e34 dX12_keepText_66 ?_
  refine lv_iconst (v := 5) S.1 S.2.1 dX12_keepText_69 (by decide) ?_
  obtain ⟨o35, e36, f⟩ := ob f
  refine o_Sv S (As := [.ref (b + r33), .int 5]) (rest := []) (M12_copies l D cy b A fl e36) gX12_keepText_X12_copies rfl rfl rfl cd12_copies ⟨Nat.le_of_ble_eq_true rfl, Nat.le_of_ble_eq_true rfl⟩ I rfl hl.1 rfl (Nat.le_of_ble_eq_true rfl) dX12_keepText_70 ⟨Nat.le_of_ble_eq_true rfl, Nat.le_of_ble_eq_true rfl⟩ (fun H locs I => ?_)
  refine lv_aload_n S.1 S.2.1 dX12_keepText_73 rfl (lv_at hl 0 rfl) ?_
  obtain ⟨r37, e38, f⟩ := ob f
  refine o_gR S lf12_keepText_33 I e38 dX12_keepText_74 ?_
  refine lv_iconst (v := 5) S.1 S.2.1 dX12_keepText_77 (by decide) ?_
  obtain ⟨o39, e40, f⟩ := ob f
  refine o_Sv S (As := [.ref (b + r37), .int 5]) (rest := []) (M12_copies l D cy b A fl e40) gX12_keepText_X12_copies rfl rfl rfl cd12_copies ⟨Nat.le_of_ble_eq_true rfl, Nat.le_of_ble_eq_true rfl⟩ I rfl hl.1 rfl (Nat.le_of_ble_eq_true rfl) dX12_keepText_78 ⟨Nat.le_of_ble_eq_true rfl, Nat.le_of_ble_eq_true rfl⟩ (fun H locs I => ?_)
  refine lv_aload_n S.1 S.2.1 dX12_keepText_81 rfl (lv_at hl 0 rfl) ?_
  obtain ⟨r41, e42, f⟩ := ob f
  refine o_gR S lf12_keepText_36 I e42 dX12_keepText_82 ?_
  refine lv_iconst (v := 5) S.1 S.2.1 dX12_keepText_85 (by decide) ?_
  obtain ⟨o43, e44, f⟩ := ob f
  refine o_Sv S (As := [.ref (b + r41), .int 5]) (rest := []) (M12_copies l D cy b A fl e44) gX12_keepText_X12_copies rfl rfl rfl cd12_copies ⟨Nat.le_of_ble_eq_true rfl, Nat.le_of_ble_eq_true rfl⟩ I rfl hl.1 rfl (Nat.le_of_ble_eq_true rfl) dX12_keepText_86 ⟨Nat.le_of_ble_eq_true rfl, Nat.le_of_ble_eq_true rfl⟩ (fun H locs I => ?_)
  refine lv_aload_n S.1 S.2.1 dX12_keepText_89 rfl (lv_at hl 0 rfl) ?_
  obtain ⟨r45, e46, f⟩ := ob f
  refine o_gR S lf12_keepText_39 I e46 dX12_keepText_90 ?_
  refine lv_iconst (v := 5) S.1 S.2.1 dX12_keepText_93 (by decide) ?_
  obtain ⟨o47, e48, f⟩ := ob f
  refine o_Sv S (As := [.ref (b + r45), .int 5]) (rest := []) (M12_copies l D cy b A fl e48) gX12_keepText_X12_copies rfl rfl rfl cd12_copies ⟨Nat.le_of_ble_eq_true rfl, Nat.le_of_ble_eq_true rfl⟩ I rfl hl.1 rfl (Nat.le_of_ble_eq_true rfl) dX12_keepText_94 ⟨Nat.le_of_ble_eq_true rfl, Nat.le_of_ble_eq_true rfl⟩ (fun H locs I => ?_)
  refine lv_aload_n S.1 S.2.1 dX12_keepText_97 rfl (lv_at hl 0 rfl) ?_
  obtain ⟨r49, e50, f⟩ := ob f
  refine o_gR S lf12_keepText_42 I e50 dX12_keepText_98 ?_
  refine lv_iconst (v := 5) S.1 S.2.1 dX12_keepText_101 (by decide) ?_
  obtain ⟨o51, e52, f⟩ := ob f
  refine o_Sv S (As := [.ref (b + r49), .int 5]) (rest := []) (M12_copies l D cy b A fl e52) gX12_keepText_X12_copies rfl rfl rfl cd12_copies ⟨Nat.le_of_ble_eq_true rfl, Nat.le_of_ble_eq_true rfl⟩ I rfl hl.1 rfl (Nat.le_of_ble_eq_true rfl) dX12_keepText_102 ⟨Nat.le_of_ble_eq_true rfl, Nat.le_of_ble_eq_true rfl⟩ (fun H locs I => ?_)
  refine lv_aload_n S.1 S.2.1 dX12_keepText_105 rfl (lv_at hl 0 rfl) ?_
  obtain ⟨r53, e54, f⟩ := ob f
  refine o_gR S lf12_keepText_45 I e54 dX12_keepText_106 ?_
  refine lv_iconst (v := 4) S.1 S.2.1 dX12_keepText_109 (by decide) ?_
  obtain ⟨o55, e56, f⟩ := ob f
  refine o_Sv S (As := [.ref (b + r53), .int 4]) (rest := []) (M12_copies l D cy b A fl e56) gX12_keepText_X12_copies rfl rfl rfl cd12_copies ⟨Nat.le_of_ble_eq_true rfl, Nat.le_of_ble_eq_true rfl⟩ I rfl hl.1 rfl (Nat.le_of_ble_eq_true rfl) dX12_keepText_110 ⟨Nat.le_of_ble_eq_true rfl, Nat.le_of_ble_eq_true rfl⟩ (fun H locs I => ?_)
  refine lv_aload_n S.1 S.2.1 dX12_keepText_113 rfl (lv_at hl 0 rfl) ?_
  obtain ⟨r57, e58, f⟩ := ob f
  refine o_gR S lf12_keepText_48 I e58 dX12_keepText_114 ?_
  refine lv_bipush (v := 28) S.1 S.2.1 dX12_keepText_117 (by decide) ?_
  obtain ⟨o59, e60, f⟩ := ob f
  refine o_Sv S (As := [.ref (b + r57), .int 28]) (rest := []) (M12_copies l D cy b A fl e60) gX12_keepText_X12_copies rfl rfl rfl cd12_copies ⟨Nat.le_of_ble_eq_true rfl, Nat.le_of_ble_eq_true rfl⟩ I rfl hl.1 rfl (Nat.le_of_ble_eq_true rfl) dX12_keepText_119 ⟨Nat.le_of_ble_eq_true rfl, Nat.le_of_ble_eq_true rfl⟩ (fun H locs I => ?_)
  refine lv_aload_n S.1 S.2.1 dX12_keepText_122 rfl (lv_at hl 0 rfl) ?_
  obtain ⟨r61, e62, f⟩ := ob f
  refine o_gR S lf12_keepText_51 I e62 dX12_keepText_123 ?_
  refine lv_bipush (v := 28) S.1 S.2.1 dX12_keepText_126 (by decide) ?_
  obtain ⟨o63, e64, f⟩ := ob f
  refine o_Sv S (As := [.ref (b + r61), .int 28]) (rest := []) (M12_copies l D cy b A fl e64) gX12_keepText_X12_copies rfl rfl rfl cd12_copies ⟨Nat.le_of_ble_eq_true rfl, Nat.le_of_ble_eq_true rfl⟩ I rfl hl.1 rfl (Nat.le_of_ble_eq_true rfl) dX12_keepText_128 ⟨Nat.le_of_ble_eq_true rfl, Nat.le_of_ble_eq_true rfl⟩ (fun H locs I => ?_)
  refine lv_aload_n S.1 S.2.1 dX12_keepText_131 rfl (lv_at hl 0 rfl) ?_
  obtain ⟨r65, e66, f⟩ := ob f
  refine o_gR S lf12_keepText_54 I e66 dX12_keepText_132 ?_
  refine lv_bipush (v := 28) S.1 S.2.1 dX12_keepText_135 (by decide) ?_
  obtain ⟨o67, e68, f⟩ := ob f
  refine o_Sv S (As := [.ref (b + r65), .int 28]) (rest := []) (M12_copies l D cy b A fl e68) gX12_keepText_X12_copies rfl rfl rfl cd12_copies ⟨Nat.le_of_ble_eq_true rfl, Nat.le_of_ble_eq_true rfl⟩ I rfl hl.1 rfl (Nat.le_of_ble_eq_true rfl) dX12_keepText_137 ⟨Nat.le_of_ble_eq_true rfl, Nat.le_of_ble_eq_true rfl⟩ (fun H locs I => ?_)
  refine lv_iconst (v := 0) S.1 S.2.1 dX12_keepText_140 (by decide) ?_
  refine lv_istore_n (lv' := [(1, .int 0), (0, .ref (b + a0))]) S.1 S.2.1 dX12_keepText_141 rfl hl (by decide) rfl (fun ls hl => ?_)
  exact T12_keepText_142 S hr hlo  1024 f I (lv_sub hl [1, 0] rfl)
theorem M12_keepText (l : Launch) (D : va_G) (cy : Nat → ClassId) (b : Nat) (A : Nat → Prop) (fl : Bool) {h : PH} {a0 : Nat} {out : PH} (f : F12_keepText h a0 = some out) : Met l yX12_keepText vX12_keepText ({ frames := 1, cells := 0, slots := 0, locals := 22 } : Room) (va_Pc [.ref (b + a0)] (ph_B D cy b A fl h)) (va_Qv (fun (u : PH) => u = out) (ph_B D cy b A fl) A) 0 0 A :=
  o_met (by decide) rfl (Nat.le_of_ble_eq_true rfl) rfl (fun p e s m below meth c S hr hlo hnm ls hl I => T12_keepText_0 S hr hlo ((gd f).2) I (lv_sub hl [0] rfl))
def vX12_isCell : List Cond := .code yX12_isCell cX12_isCell 2 (some .boolean) :: TB
theorem gX12_isCell_X12_cells : GoodIn vX12_isCell (wsV RX12 366 RX12 yX12_cells vX12_cells) := gV_of wT_39_21 wT_39_22 wT_39_23 wT_1_5 wT_40_0
theorem cd12_isCell : Cd yX12_isCell 1 := ⟨by decide, by decide, by decide +kernel⟩
set_option maxHeartbeats 4000000 in
set_option maxRecDepth 100000 in
theorem T12_isCell_0 (S : CallFix p m c cX12_isCell 2 s args vX12_isCell RX12) (hr : meth.sig.returnType = (some .boolean)) (hlo : meth.locks = false) {out : Int32 × PH} {h : PH} {a0 : Nat} {x1 : Int32} (f : F12_isCell_0  h a0 x1 = some out) {H : Heap} {locs : List Loc} (I : ph_I D cy b A fl h s H locs) {ls : Array Slot} (hl : lv_has ls 2 [(0, .ref (b + a0)), (1, .int x1)]) : W p l e ({ frames := 1, cells := 0, slots := 0, locals := 20 } : Room) s m args below meth c H locs 0 0 (MQ below (va_Qi (fun (r : Int32) (u : PH) => (r, u) = out) (ph_B D cy b A fl) A) args s 0 0 A) (F0 m 0 ls []) := by
  unfold F12_isCell_0 at f
  refine lv_iload_n S.1 S.2.1 dX12_isCell_0 rfl (lv_at hl 1 rfl) ?_
  refine lv_if_lt (tgt := 16) S.1 S.2.1 dX12_isCell_1 (by decide) (fun q1 => ?_) (fun q1 => ?_)
  · have f := (if_pos q1).symm.trans f
    refine lv_iconst (v := 0) S.1 S.2.1 dX12_isCell_16 (by decide) ?_
    exact o_zret S hr hlo I f dX12_isCell_17
  · have f := (if_neg q1).symm.trans f
    refine lv_iload_n S.1 S.2.1 dX12_isCell_4 rfl (lv_at hl 1 rfl) ?_
    refine lv_aload_n S.1 S.2.1 dX12_isCell_5 rfl (lv_at hl 0 rfl) ?_
    obtain ⟨o2, e3, f⟩ := ob f
    refine o_Vi S (As := []) (rest := [.int x1]) (ci := 12) (M12_cells l D cy b A fl e3) gX12_isCell_X12_cells rfl rfl rfl cd12_cells ⟨Nat.le_of_ble_eq_true rfl, Nat.le_of_ble_eq_true rfl⟩ I (gd e3).1 clX12 rfl rfl hl.1 rfl (Nat.le_of_ble_eq_true rfl) dX12_isCell_6 ⟨Nat.le_of_ble_eq_true rfl, Nat.le_of_ble_eq_true rfl⟩ (fun H locs I => ?_)
    refine lv_icmp_ge (tgt := 16) S.1 S.2.1 dX12_isCell_9 (by decide) (fun q4 => ?_) (fun q4 => ?_)
    · have f := (if_pos q4).symm.trans f
      refine lv_iconst (v := 0) S.1 S.2.1 dX12_isCell_16 (by decide) ?_
      exact o_zret S hr hlo I f dX12_isCell_17
    · have f := (if_neg q4).symm.trans f
      refine lv_iconst (v := 1) S.1 S.2.1 dX12_isCell_12 (by decide) ?_
      refine lv_goto (tgt := 17) S.1 S.2.1 dX12_isCell_13 (by decide) ?_
      exact o_zret S hr hlo I f dX12_isCell_17
theorem M12_isCell (l : Launch) (D : va_G) (cy : Nat → ClassId) (b : Nat) (A : Nat → Prop) (fl : Bool) {h : PH} {a0 : Nat} {x1 : Int32} {out : Int32 × PH} (f : F12_isCell h a0 x1 = some out) : Met l yX12_isCell vX12_isCell ({ frames := 1, cells := 0, slots := 0, locals := 20 } : Room) (va_Pc [.ref (b + a0), .int x1] (ph_B D cy b A fl h)) (va_Qi (fun (r : Int32) (u : PH) => (r, u) = out) (ph_B D cy b A fl) A) 0 0 A :=
  o_met (by decide) rfl (Nat.le_of_ble_eq_true rfl) rfl (fun p e s m below meth c S hr hlo hnm ls hl I => T12_isCell_0 S hr hlo ((gd f).2) I (lv_sub hl [0, 1] rfl))
def vX12_isCounted : List Cond := .code yX12_isCounted cX12_isCounted 1 (some .boolean) :: TB
theorem lf12_isCounted_234 : Fl vX12_isCounted RX12 234 12 49 := ⟨RX12, TX12, 87, rfl, by decide, (fun w h9 => List.mem_cons_of_mem _ (wC_wsX120 w h9)), (List.mem_cons_of_mem _ wT_12_4)⟩
theorem lp12_isCounted_234 : Pl vX12_isCounted RX12 234 12 49 .int := ⟨RX12, TX12, 87, tyX12, rfl, by decide, (fun w h9 => List.mem_cons_of_mem _ (wC_wsX120 w h9)), (List.mem_cons_of_mem _ wT_12_4), tyX12_ok, nmX12, rfl, rfl⟩
theorem gX12_isCounted_X12_wrong : GoodIn vX12_isCounted (wsV RX12 196 RX12 yX12_wrong vX12_wrong) := gV_of wT_28_4 wT_28_5 wT_28_6 wT_1_5 wT_28_7
theorem cd12_isCounted : Cd yX12_isCounted 0 := ⟨by decide, by decide, by decide +kernel⟩
set_option maxHeartbeats 4000000 in
set_option maxRecDepth 100000 in
theorem T12_isCounted_0 (S : CallFix p m c cX12_isCounted 1 s args vX12_isCounted RX12) (hr : meth.sig.returnType = (some .boolean)) (hlo : meth.locks = false) {out : Int32 × PH} {h : PH} {a0 : Nat} (f : F12_isCounted_0  h a0 = some out) {H : Heap} {locs : List Loc} (I : ph_I D cy b A fl h s H locs) {ls : Array Slot} (hl : lv_has ls 1 [(0, .ref (b + a0))]) : W p l e ({ frames := 1, cells := 0, slots := 0, locals := 21 } : Room) s m args below meth c H locs 0 0 (MQ below (va_Qi (fun (r : Int32) (u : PH) => (r, u) = out) (ph_B D cy b A fl) A) args s 0 0 A) (F0 m 0 ls []) := by
  unfold F12_isCounted_0 at f
  refine lv_aload_n S.1 S.2.1 dX12_isCounted_0 rfl (lv_at hl 0 rfl) ?_
  obtain ⟨v1, e2, f⟩ := ob f
  refine o_gI S lf12_isCounted_234 I e2 dX12_isCounted_1 ?_
  refine lv_bipush (v := 64) S.1 S.2.1 dX12_isCounted_4 (by decide) ?_
  refine lv_icmp_ne (tgt := 15) S.1 S.2.1 dX12_isCounted_6 (by decide) (fun q3 => ?_) (fun q3 => ?_)
  · have f := (if_neg q3).symm.trans f
    refine lv_aload_n S.1 S.2.1 dX12_isCounted_15 rfl (lv_at hl 0 rfl) ?_
    refine lv_dup S.1 S.2.1 dX12_isCounted_16 rfl ?_
    obtain ⟨v4, e5, f⟩ := ob f
    refine o_gI S lf12_isCounted_234 I e5 dX12_isCounted_17 ?_
    refine lv_iconst (v := 1) S.1 S.2.1 dX12_isCounted_20 (by decide) ?_
    refine lv_iadd S.1 S.2.1 dX12_isCounted_21 ?_
    obtain ⟨h6, e7, f⟩ := ob f
    refine o_pI S lp12_isCounted_234 I e7 dX12_isCounted_22 (fun H locs I => ?_)
    refine lv_iconst (v := 1) S.1 S.2.1 dX12_isCounted_25 (by decide) ?_
    exact o_zret S hr hlo I f dX12_isCounted_26
  · have f := (if_pos q3).symm.trans f
    refine lv_aload_n S.1 S.2.1 dX12_isCounted_9 rfl (lv_at hl 0 rfl) ?_
    refine lv_iconst (v := 2) S.1 S.2.1 dX12_isCounted_10 (by decide) ?_
    obtain ⟨o8, e9, f⟩ := ob f
    refine o_Vi S (As := [.int 2]) (rest := []) (ci := 12) (M12_wrong l D cy b A fl e9) gX12_isCounted_X12_wrong rfl rfl rfl cd12_wrong ⟨Nat.le_of_ble_eq_true rfl, Nat.le_of_ble_eq_true rfl⟩ I (gd e9).1 clX12 rfl rfl hl.1 rfl (Nat.le_of_ble_eq_true rfl) dX12_isCounted_11 ⟨Nat.le_of_ble_eq_true rfl, Nat.le_of_ble_eq_true rfl⟩ (fun H locs I => ?_)
    exact o_zret S hr hlo I f dX12_isCounted_14
theorem M12_isCounted (l : Launch) (D : va_G) (cy : Nat → ClassId) (b : Nat) (A : Nat → Prop) (fl : Bool) {h : PH} {a0 : Nat} {out : Int32 × PH} (f : F12_isCounted h a0 = some out) : Met l yX12_isCounted vX12_isCounted ({ frames := 1, cells := 0, slots := 0, locals := 21 } : Room) (va_Pc [.ref (b + a0)] (ph_B D cy b A fl h)) (va_Qi (fun (r : Int32) (u : PH) => (r, u) = out) (ph_B D cy b A fl) A) 0 0 A :=
  o_met (by decide) rfl (Nat.le_of_ble_eq_true rfl) rfl (fun p e s m below meth c S hr hlo hnm ls hl I => T12_isCounted_0 S hr hlo ((gd f).2) I (lv_sub hl [0] rfl))
def vX12_isKey : List Cond := .code yX12_isKey cX12_isKey 2 (some .boolean) :: TB
theorem lf12_isKey_172 : Fl vX12_isKey RX12 172 12 8 := ⟨RX12, TX12, 87, rfl, by decide, (fun w h9 => List.mem_cons_of_mem _ (wC_wsX120 w h9)), (List.mem_cons_of_mem _ wT_26_20)⟩
theorem lf12_isKey_183 : Fl vX12_isKey RX12 183 12 9 := ⟨RX12, TX12, 87, rfl, by decide, (fun w h9 => List.mem_cons_of_mem _ (wC_wsX120 w h9)), (List.mem_cons_of_mem _ wT_27_2)⟩
theorem cd12_isKey : Cd yX12_isKey 1 := ⟨by decide, by decide, by decide +kernel⟩
set_option maxHeartbeats 4000000 in
set_option maxRecDepth 100000 in
theorem T12_isKey_0 (S : CallFix p m c cX12_isKey 2 s args vX12_isKey RX12) (hr : meth.sig.returnType = (some .boolean)) (hlo : meth.locks = false) {out : Int32 × PH} {h : PH} {a0 : Nat} {x1 : Int32} (f : F12_isKey_0  h a0 x1 = some out) {H : Heap} {locs : List Loc} (I : ph_I D cy b A fl h s H locs) {ls : Array Slot} (hl : lv_has ls 2 [(0, .ref (b + a0)), (1, .int x1)]) : W p l e ({ frames := 0, cells := 0, slots := 0, locals := 0 } : Room) s m args below meth c H locs 0 0 (MQ below (va_Qi (fun (r : Int32) (u : PH) => (r, u) = out) (ph_B D cy b A fl) A) args s 0 0 A) (F0 m 0 ls []) := by
  unfold F12_isKey_0 at f
  refine lv_aload_n S.1 S.2.1 dX12_isKey_0 rfl (lv_at hl 0 rfl) ?_
  obtain ⟨v1, e2, f⟩ := ob f
  refine o_gI S lf12_isKey_172 I e2 dX12_isKey_1 ?_
  refine lv_iconst (v := 1) S.1 S.2.1 dX12_isKey_4 (by decide) ?_
  refine lv_icmp_ne (tgt := 20) S.1 S.2.1 dX12_isKey_5 (by decide) (fun q3 => ?_) (fun q3 => ?_)
  · have f := (if_neg q3).symm.trans f
    refine lv_iconst (v := 0) S.1 S.2.1 dX12_isKey_20 (by decide) ?_
    exact o_zret S hr hlo I f dX12_isKey_21
  · have f := (if_pos q3).symm.trans f
    refine lv_aload_n S.1 S.2.1 dX12_isKey_8 rfl (lv_at hl 0 rfl) ?_
    obtain ⟨v4, e5, f⟩ := ob f
    refine o_gI S lf12_isKey_183 I e5 dX12_isKey_9 ?_
    refine lv_iload_n S.1 S.2.1 dX12_isKey_12 rfl (lv_at hl 1 rfl) ?_
    refine lv_icmp_ne (tgt := 20) S.1 S.2.1 dX12_isKey_13 (by decide) (fun q6 => ?_) (fun q6 => ?_)
    · have f := (if_neg q6).symm.trans f
      refine lv_iconst (v := 0) S.1 S.2.1 dX12_isKey_20 (by decide) ?_
      exact o_zret S hr hlo I f dX12_isKey_21
    · have f := (if_pos q6).symm.trans f
      refine lv_iconst (v := 1) S.1 S.2.1 dX12_isKey_16 (by decide) ?_
      refine lv_goto (tgt := 21) S.1 S.2.1 dX12_isKey_17 (by decide) ?_
      exact o_zret S hr hlo I f dX12_isKey_21
theorem M12_isKey (l : Launch) (D : va_G) (cy : Nat → ClassId) (b : Nat) (A : Nat → Prop) (fl : Bool) {h : PH} {a0 : Nat} {x1 : Int32} {out : Int32 × PH} (f : F12_isKey h a0 x1 = some out) : Met l yX12_isKey vX12_isKey ({ frames := 0, cells := 0, slots := 0, locals := 0 } : Room) (va_Pc [.ref (b + a0), .int x1] (ph_B D cy b A fl h)) (va_Qi (fun (r : Int32) (u : PH) => (r, u) = out) (ph_B D cy b A fl) A) 0 0 A :=
  o_met (by decide) rfl (Nat.le_of_ble_eq_true rfl) rfl (fun p e s m below meth c S hr hlo hnm ls hl I => T12_isKey_0 S hr hlo ((gd f).2) I (lv_sub hl [0, 1] rfl))
def vX12_isRest : List Cond := .code yX12_isRest cX12_isRest 3 (some .boolean) :: TB
theorem lf12_isRest_121 : Fl vX12_isRest RX12 121 12 70 := ⟨RX12, TX12, 87, rfl, by decide, (fun w h9 => List.mem_cons_of_mem _ (wC_wsX120 w h9)), (List.mem_cons_of_mem _ wT_11_9)⟩
theorem lf12_isRest_124 : Fl vX12_isRest RX12 124 12 71 := ⟨RX12, TX12, 87, rfl, by decide, (fun w h9 => List.mem_cons_of_mem _ (wC_wsX120 w h9)), (List.mem_cons_of_mem _ wT_11_10)⟩
theorem cd12_isRest : Cd yX12_isRest 1 := ⟨by decide, by decide, by decide +kernel⟩
set_option maxHeartbeats 4000000 in
set_option maxRecDepth 100000 in
theorem T12_isRest_13 (S : CallFix p m c cX12_isRest 3 s args vX12_isRest RX12) (hr : meth.sig.returnType = (some .boolean)) (hlo : meth.locks = false) {out : Int32 × PH} : ∀ (n : Nat) {h : PH} {a0 : Nat} {x1 : Int32} {x2 : Int32} (f : F12_isRest_13  n h a0 x1 x2 = some out) {H : Heap} {locs : List Loc} (I : ph_I D cy b A fl h s H locs) {ls : Array Slot} (hl : lv_has ls 3 [(0, .ref (b + a0)), (1, .int x1), (2, .int x2)]), W p l e ({ frames := 0, cells := 0, slots := 0, locals := 0 } : Room) s m args below meth c H locs 0 0 (MQ below (va_Qi (fun (r : Int32) (u : PH) => (r, u) = out) (ph_B D cy b A fl) A) args s 0 0 A) (F0 m 13 ls []) := by
  intro n
  induction n with
  | zero => intro h a0 x1 x2 f; rw [F12_isRest_13] at f; cases f
  | succ n ih =>
    intro h a0 x1 x2 f H locs I ls hl
    rw [F12_isRest_13] at f
    refine lv_iload_n S.1 S.2.1 dX12_isRest_13 rfl (lv_at hl 2 rfl) ?_
    refine lv_iconst (v := 5) S.1 S.2.1 dX12_isRest_14 (by decide) ?_
    refine lv_icmp_ge (tgt := 68) S.1 S.2.1 dX12_isRest_15 (by decide) (fun q1 => ?_) (fun q1 => ?_)
    · have f := (if_pos q1).symm.trans f
      refine lv_iconst (v := 1) S.1 S.2.1 dX12_isRest_68 (by decide) ?_
      exact o_zret S hr hlo I f dX12_isRest_69
    · have f := (if_neg q1).symm.trans f
      refine lv_aload_n S.1 S.2.1 dX12_isRest_18 rfl (lv_at hl 0 rfl) ?_
      obtain ⟨r2, e3, f⟩ := ob f
      refine o_gR S lf12_isRest_121 I e3 dX12_isRest_19 ?_
      refine lv_iconst (v := 5) S.1 S.2.1 dX12_isRest_22 (by decide) ?_
      refine lv_iload_n S.1 S.2.1 dX12_isRest_23 rfl (lv_at hl 2 rfl) ?_
      refine lv_imul S.1 S.2.1 dX12_isRest_24 ?_
      refine lv_iload_n S.1 S.2.1 dX12_isRest_25 rfl (lv_at hl 1 rfl) ?_
      refine lv_iconst (v := 5) S.1 S.2.1 dX12_isRest_26 (by decide) ?_
      refine lv_irem S.1 S.2.1 dX12_isRest_27 (by decide) ?_
      refine lv_iadd S.1 S.2.1 dX12_isRest_28 ?_
      obtain ⟨v5, e4, f⟩ := ob f
      refine o_iald S I e4 dX12_isRest_29 ?_
      refine lv_aload_n S.1 S.2.1 dX12_isRest_30 rfl (lv_at hl 0 rfl) ?_
      obtain ⟨r6, e7, f⟩ := ob f
      refine o_gR S lf12_isRest_121 I e7 dX12_isRest_31 ?_
      refine lv_iload_n S.1 S.2.1 dX12_isRest_34 rfl (lv_at hl 1 rfl) ?_
      obtain ⟨v9, e8, f⟩ := ob f
      refine o_iald S I e8 dX12_isRest_35 ?_
      refine lv_icmp_gt (tgt := 60) S.1 S.2.1 dX12_isRest_36 (by decide) (fun q10 => ?_) (fun q10 => ?_)
      · have f := (if_pos q10).symm.trans f
        refine lv_iconst (v := 0) S.1 S.2.1 dX12_isRest_60 (by decide) ?_
        exact o_zret S hr hlo I f dX12_isRest_61
      · have f := (if_neg q10).symm.trans f
        refine lv_aload_n S.1 S.2.1 dX12_isRest_39 rfl (lv_at hl 0 rfl) ?_
        obtain ⟨r11, e12, f⟩ := ob f
        refine o_gR S lf12_isRest_124 I e12 dX12_isRest_40 ?_
        refine lv_iload_n S.1 S.2.1 dX12_isRest_43 rfl (lv_at hl 1 rfl) ?_
        refine lv_iconst (v := 5) S.1 S.2.1 dX12_isRest_44 (by decide) ?_
        refine lv_idiv S.1 S.2.1 dX12_isRest_45 (by decide) ?_
        refine lv_iconst (v := 5) S.1 S.2.1 dX12_isRest_46 (by decide) ?_
        refine lv_imul S.1 S.2.1 dX12_isRest_47 ?_
        refine lv_iload_n S.1 S.2.1 dX12_isRest_48 rfl (lv_at hl 2 rfl) ?_
        refine lv_iadd S.1 S.2.1 dX12_isRest_49 ?_
        obtain ⟨v14, e13, f⟩ := ob f
        refine o_iald S I e13 dX12_isRest_50 ?_
        refine lv_aload_n S.1 S.2.1 dX12_isRest_51 rfl (lv_at hl 0 rfl) ?_
        obtain ⟨r15, e16, f⟩ := ob f
        refine o_gR S lf12_isRest_124 I e16 dX12_isRest_52 ?_
        refine lv_iload_n S.1 S.2.1 dX12_isRest_55 rfl (lv_at hl 1 rfl) ?_
        obtain ⟨v18, e17, f⟩ := ob f
        refine o_iald S I e17 dX12_isRest_56 ?_
        refine lv_icmp_le (tgt := 62) S.1 S.2.1 dX12_isRest_57 (by decide) (fun q19 => ?_) (fun q19 => ?_)
        · have f := (if_pos q19).symm.trans f
          refine lv_iinc (v := (x2 + 1)) (lv' := [(2, .int (x2 + 1)), (0, .ref (b + a0)), (1, .int x1)]) S.1 S.2.1 dX12_isRest_62 hl (k := 2) rfl (congrArg (fun z => x2 + z) (by decide)) (by decide) rfl (fun ls hl => ?_)
          refine lv_goto (tgt := 13) S.1 S.2.1 dX12_isRest_65 (by decide) ?_
          exact ih f I (lv_sub hl [1, 2, 0] rfl)
        · have f := (if_neg q19).symm.trans f
          refine lv_iconst (v := 0) S.1 S.2.1 dX12_isRest_60 (by decide) ?_
          exact o_zret S hr hlo I f dX12_isRest_61
set_option maxHeartbeats 4000000 in
set_option maxRecDepth 100000 in
theorem T12_isRest_0 (S : CallFix p m c cX12_isRest 3 s args vX12_isRest RX12) (hr : meth.sig.returnType = (some .boolean)) (hlo : meth.locks = false) {out : Int32 × PH} {h : PH} {a0 : Nat} {x1 : Int32} (f : F12_isRest_0  h a0 x1 = some out) {H : Heap} {locs : List Loc} (I : ph_I D cy b A fl h s H locs) {ls : Array Slot} (hl : lv_has ls 3 [(0, .ref (b + a0)), (1, .int x1)]) : W p l e ({ frames := 0, cells := 0, slots := 0, locals := 0 } : Room) s m args below meth c H locs 0 0 (MQ below (va_Qi (fun (r : Int32) (u : PH) => (r, u) = out) (ph_B D cy b A fl) A) args s 0 0 A) (F0 m 0 ls []) := by
  unfold F12_isRest_0 at f
  refine lv_aload_n S.1 S.2.1 dX12_isRest_0 rfl (lv_at hl 0 rfl) ?_
  obtain ⟨r1, e2, f⟩ := ob f
  refine o_gR S lf12_isRest_121 I e2 dX12_isRest_1 ?_
  refine lv_iload_n S.1 S.2.1 dX12_isRest_4 rfl (lv_at hl 1 rfl) ?_
  obtain ⟨v4, e3, f⟩ := ob f
  refine o_iald S I e3 dX12_isRest_5 ?_
  refine lv_if_ge (tgt := 11) S.1 S.2.1 dX12_isRest_6 (by decide) (fun q5 => ?_) (fun q5 => ?_)
  · have f := (if_pos q5).symm.trans f
    refine lv_iconst (v := 0) S.1 S.2.1 dX12_isRest_11 (by decide) ?_
    refine lv_istore_n (lv' := [(2, .int 0), (0, .ref (b + a0)), (1, .int x1)]) S.1 S.2.1 dX12_isRest_12 rfl hl (by decide) rfl (fun ls hl => ?_)
    exact T12_isRest_13 S hr hlo  1024 f I (lv_sub hl [1, 2, 0] rfl)
  · have f := (if_neg q5).symm.trans f
    refine lv_iconst (v := 0) S.1 S.2.1 dX12_isRest_9 (by decide) ?_
    exact o_zret S hr hlo I f dX12_isRest_10
theorem M12_isRest (l : Launch) (D : va_G) (cy : Nat → ClassId) (b : Nat) (A : Nat → Prop) (fl : Bool) {h : PH} {a0 : Nat} {x1 : Int32} {out : Int32 × PH} (f : F12_isRest h a0 x1 = some out) : Met l yX12_isRest vX12_isRest ({ frames := 0, cells := 0, slots := 0, locals := 0 } : Room) (va_Pc [.ref (b + a0), .int x1] (ph_B D cy b A fl h)) (va_Qi (fun (r : Int32) (u : PH) => (r, u) = out) (ph_B D cy b A fl) A) 0 0 A :=
  o_met (by decide) rfl (Nat.le_of_ble_eq_true rfl) rfl (fun p e s m below meth c S hr hlo hnm ls hl I => T12_isRest_0 S hr hlo ((gd f).2) I (lv_sub hl [0, 1] rfl))
def vX12_isSign : List Cond := .code yX12_isSign cX12_isSign 2 (some .boolean) :: TB
theorem lf12_isSign_172 : Fl vX12_isSign RX12 172 12 8 := ⟨RX12, TX12, 87, rfl, by decide, (fun w h9 => List.mem_cons_of_mem _ (wC_wsX120 w h9)), (List.mem_cons_of_mem _ wT_26_20)⟩
theorem lf12_isSign_183 : Fl vX12_isSign RX12 183 12 9 := ⟨RX12, TX12, 87, rfl, by decide, (fun w h9 => List.mem_cons_of_mem _ (wC_wsX120 w h9)), (List.mem_cons_of_mem _ wT_27_2)⟩
theorem cd12_isSign : Cd yX12_isSign 1 := ⟨by decide, by decide, by decide +kernel⟩
set_option maxHeartbeats 4000000 in
set_option maxRecDepth 100000 in
theorem T12_isSign_0 (S : CallFix p m c cX12_isSign 2 s args vX12_isSign RX12) (hr : meth.sig.returnType = (some .boolean)) (hlo : meth.locks = false) {out : Int32 × PH} {h : PH} {a0 : Nat} {x1 : Int32} (f : F12_isSign_0  h a0 x1 = some out) {H : Heap} {locs : List Loc} (I : ph_I D cy b A fl h s H locs) {ls : Array Slot} (hl : lv_has ls 2 [(0, .ref (b + a0)), (1, .int x1)]) : W p l e ({ frames := 0, cells := 0, slots := 0, locals := 0 } : Room) s m args below meth c H locs 0 0 (MQ below (va_Qi (fun (r : Int32) (u : PH) => (r, u) = out) (ph_B D cy b A fl) A) args s 0 0 A) (F0 m 0 ls []) := by
  unfold F12_isSign_0 at f
  refine lv_aload_n S.1 S.2.1 dX12_isSign_0 rfl (lv_at hl 0 rfl) ?_
  obtain ⟨v1, e2, f⟩ := ob f
  refine o_gI S lf12_isSign_172 I e2 dX12_isSign_1 ?_
  refine lv_iconst (v := 4) S.1 S.2.1 dX12_isSign_4 (by decide) ?_
  refine lv_icmp_ne (tgt := 20) S.1 S.2.1 dX12_isSign_5 (by decide) (fun q3 => ?_) (fun q3 => ?_)
  · have f := (if_neg q3).symm.trans f
    refine lv_iconst (v := 0) S.1 S.2.1 dX12_isSign_20 (by decide) ?_
    exact o_zret S hr hlo I f dX12_isSign_21
  · have f := (if_pos q3).symm.trans f
    refine lv_aload_n S.1 S.2.1 dX12_isSign_8 rfl (lv_at hl 0 rfl) ?_
    obtain ⟨v4, e5, f⟩ := ob f
    refine o_gI S lf12_isSign_183 I e5 dX12_isSign_9 ?_
    refine lv_iload_n S.1 S.2.1 dX12_isSign_12 rfl (lv_at hl 1 rfl) ?_
    refine lv_icmp_ne (tgt := 20) S.1 S.2.1 dX12_isSign_13 (by decide) (fun q6 => ?_) (fun q6 => ?_)
    · have f := (if_neg q6).symm.trans f
      refine lv_iconst (v := 0) S.1 S.2.1 dX12_isSign_20 (by decide) ?_
      exact o_zret S hr hlo I f dX12_isSign_21
    · have f := (if_pos q6).symm.trans f
      refine lv_iconst (v := 1) S.1 S.2.1 dX12_isSign_16 (by decide) ?_
      refine lv_goto (tgt := 21) S.1 S.2.1 dX12_isSign_17 (by decide) ?_
      exact o_zret S hr hlo I f dX12_isSign_21
theorem M12_isSign (l : Launch) (D : va_G) (cy : Nat → ClassId) (b : Nat) (A : Nat → Prop) (fl : Bool) {h : PH} {a0 : Nat} {x1 : Int32} {out : Int32 × PH} (f : F12_isSign h a0 x1 = some out) : Met l yX12_isSign vX12_isSign ({ frames := 0, cells := 0, slots := 0, locals := 0 } : Room) (va_Pc [.ref (b + a0), .int x1] (ph_B D cy b A fl h)) (va_Qi (fun (r : Int32) (u : PH) => (r, u) = out) (ph_B D cy b A fl) A) 0 0 A :=
  o_met (by decide) rfl (Nat.le_of_ble_eq_true rfl) rfl (fun p e s m below meth c S hr hlo hnm ls hl I => T12_isSign_0 S hr hlo ((gd f).2) I (lv_sub hl [0, 1] rfl))
def vX12_keep : List Cond := .code yX12_keep cX12_keep 2 (some .int) :: TB
theorem lf12_keep_106 : Fl vX12_keep RX12 106 12 61 := ⟨RX12, TX12, 87, rfl, by decide, (fun w h9 => List.mem_cons_of_mem _ (wC_wsX120 w h9)), (List.mem_cons_of_mem _ wT_11_4)⟩
theorem lp12_keep_533 : Pl vX12_keep RX12 533 12 82 .int := ⟨RX12, TX12, 87, tyX12, rfl, by decide, (fun w h9 => List.mem_cons_of_mem _ (wC_wsX120 w h9)), (List.mem_cons_of_mem _ wT_67_1), tyX12_ok, nmX12, rfl, rfl⟩
theorem lf12_keep_369 : Fl vX12_keep RX12 369 12 64 := ⟨RX12, TX12, 87, rfl, by decide, (fun w h9 => List.mem_cons_of_mem _ (wC_wsX120 w h9)), (List.mem_cons_of_mem _ wT_12_23)⟩
theorem lp12_keep_536 : Pl vX12_keep RX12 536 12 83 .int := ⟨RX12, TX12, 87, tyX12, rfl, by decide, (fun w h9 => List.mem_cons_of_mem _ (wC_wsX120 w h9)), (List.mem_cons_of_mem _ wT_67_2), tyX12_ok, nmX12, rfl, rfl⟩
theorem lf12_keep_109 : Fl vX12_keep RX12 109 12 62 := ⟨RX12, TX12, 87, rfl, by decide, (fun w h9 => List.mem_cons_of_mem _ (wC_wsX120 w h9)), (List.mem_cons_of_mem _ wT_11_5)⟩
theorem lp12_keep_539 : Pl vX12_keep RX12 539 12 84 .int := ⟨RX12, TX12, 87, tyX12, rfl, by decide, (fun w h9 => List.mem_cons_of_mem _ (wC_wsX120 w h9)), (List.mem_cons_of_mem _ wT_67_3), tyX12_ok, nmX12, rfl, rfl⟩
theorem lf12_keep_112 : Fl vX12_keep RX12 112 12 63 := ⟨RX12, TX12, 87, rfl, by decide, (fun w h9 => List.mem_cons_of_mem _ (wC_wsX120 w h9)), (List.mem_cons_of_mem _ wT_11_6)⟩
theorem lp12_keep_542 : Pl vX12_keep RX12 542 12 85 .int := ⟨RX12, TX12, 87, tyX12, rfl, by decide, (fun w h9 => List.mem_cons_of_mem _ (wC_wsX120 w h9)), (List.mem_cons_of_mem _ wT_67_4), tyX12_ok, nmX12, rfl, rfl⟩
theorem lf12_keep_372 : Fl vX12_keep RX12 372 12 65 := ⟨RX12, TX12, 87, rfl, by decide, (fun w h9 => List.mem_cons_of_mem _ (wC_wsX120 w h9)), (List.mem_cons_of_mem _ wT_13_0)⟩
theorem lp12_keep_545 : Pl vX12_keep RX12 545 12 86 .long := ⟨RX12, TX12, 87, tyX12, rfl, by decide, (fun w h9 => List.mem_cons_of_mem _ (wC_wsX120 w h9)), (List.mem_cons_of_mem _ wT_67_5), tyX12_ok, nmX12, rfl, rfl⟩
theorem lf12_keep_145 : Fl vX12_keep RX12 145 12 81 := ⟨RX12, TX12, 87, rfl, by decide, (fun w h9 => List.mem_cons_of_mem _ (wC_wsX120 w h9)), (List.mem_cons_of_mem _ wT_11_17)⟩
theorem lf12_keep_103 : Fl vX12_keep RX12 103 12 60 := ⟨RX12, TX12, 87, rfl, by decide, (fun w h9 => List.mem_cons_of_mem _ (wC_wsX120 w h9)), (List.mem_cons_of_mem _ wT_11_3)⟩
theorem lf12_keep_88 : Fl vX12_keep RX12 88 12 55 := ⟨RX12, TX12, 87, rfl, by decide, (fun w h9 => List.mem_cons_of_mem _ (wC_wsX120 w h9)), (List.mem_cons_of_mem _ wT_10_22)⟩
theorem lf12_keep_91 : Fl vX12_keep RX12 91 12 56 := ⟨RX12, TX12, 87, rfl, by decide, (fun w h9 => List.mem_cons_of_mem _ (wC_wsX120 w h9)), (List.mem_cons_of_mem _ wT_10_23)⟩
theorem lf12_keep_94 : Fl vX12_keep RX12 94 12 57 := ⟨RX12, TX12, 87, rfl, by decide, (fun w h9 => List.mem_cons_of_mem _ (wC_wsX120 w h9)), (List.mem_cons_of_mem _ wT_11_0)⟩
theorem lf12_keep_97 : Fl vX12_keep RX12 97 12 58 := ⟨RX12, TX12, 87, rfl, by decide, (fun w h9 => List.mem_cons_of_mem _ (wC_wsX120 w h9)), (List.mem_cons_of_mem _ wT_11_1)⟩
theorem lf12_keep_100 : Fl vX12_keep RX12 100 12 59 := ⟨RX12, TX12, 87, rfl, by decide, (fun w h9 => List.mem_cons_of_mem _ (wC_wsX120 w h9)), (List.mem_cons_of_mem _ wT_11_2)⟩
theorem lp12_keep_154 : Pl vX12_keep RX12 154 12 2 .int := ⟨RX12, TX12, 87, tyX12, rfl, by decide, (fun w h9 => List.mem_cons_of_mem _ (wC_wsX120 w h9)), (List.mem_cons_of_mem _ wT_13_17), tyX12_ok, nmX12, rfl, rfl⟩
theorem lp12_keep_382 : Pl vX12_keep RX12 382 12 80 .boolean := ⟨RX12, TX12, 87, tyX12, rfl, by decide, (fun w h9 => List.mem_cons_of_mem _ (wC_wsX120 w h9)), (List.mem_cons_of_mem _ wT_13_3), tyX12_ok, nmX12, rfl, rfl⟩
theorem cd12_keep : Cd yX12_keep 0 := ⟨by decide, by decide, by decide +kernel⟩
set_option maxHeartbeats 4000000 in
set_option maxRecDepth 100000 in
theorem T12_keep_96 (S : CallFix p m c cX12_keep 2 s args vX12_keep RX12) (hr : meth.sig.returnType = (some .int)) (hlo : meth.locks = false) {out : Int32 × PH} : ∀ (n : Nat) {h : PH} {a0 : Nat} {x1 : Int32} (f : F12_keep_96  n h a0 x1 = some out) {H : Heap} {locs : List Loc} (I : ph_I D cy b A fl h s H locs) {ls : Array Slot} (hl : lv_has ls 2 [(0, .ref (b + a0)), (1, .int x1)]), W p l e ({ frames := 0, cells := 0, slots := 0, locals := 0 } : Room) s m args below meth c H locs 0 0 (MQ below (va_Qi (fun (r : Int32) (u : PH) => (r, u) = out) (ph_B D cy b A fl) A) args s 0 0 A) (F0 m 96 ls []) := by
  intro n
  induction n with
  | zero => intro h a0 x1 f; rw [F12_keep_96] at f; cases f
  | succ n ih =>
    intro h a0 x1 f H locs I ls hl
    rw [F12_keep_96] at f
    refine lv_iload_n S.1 S.2.1 dX12_keep_96 rfl (lv_at hl 1 rfl) ?_
    refine lv_bipush (v := 28) S.1 S.2.1 dX12_keep_97 (by decide) ?_
    refine lv_icmp_ge (tgt := 123) S.1 S.2.1 dX12_keep_99 (by decide) (fun q1 => ?_) (fun q1 => ?_)
    · have f := (if_pos q1).symm.trans f
      refine lv_aload_n S.1 S.2.1 dX12_keep_123 rfl (lv_at hl 0 rfl) ?_
      refine lv_aload_n S.1 S.2.1 dX12_keep_124 rfl (lv_at hl 0 rfl) ?_
      obtain ⟨r2, e3, f⟩ := ob f
      refine o_gR S lf12_keep_106 I e3 dX12_keep_125 ?_
      refine lv_iconst (v := 0) S.1 S.2.1 dX12_keep_128 (by decide) ?_
      obtain ⟨v5, e4, f⟩ := ob f
      refine o_iald S I e4 dX12_keep_129 ?_
      obtain ⟨h6, e7, f⟩ := ob f
      refine o_pI S lp12_keep_533 I e7 dX12_keep_130 (fun H locs I => ?_)
      refine lv_aload_n S.1 S.2.1 dX12_keep_133 rfl (lv_at hl 0 rfl) ?_
      refine lv_aload_n S.1 S.2.1 dX12_keep_134 rfl (lv_at hl 0 rfl) ?_
      obtain ⟨v8, e9, f⟩ := ob f
      refine o_gI S lf12_keep_369 I e9 dX12_keep_135 ?_
      obtain ⟨h10, e11, f⟩ := ob f
      refine o_pI S lp12_keep_536 I e11 dX12_keep_138 (fun H locs I => ?_)
      refine lv_aload_n S.1 S.2.1 dX12_keep_141 rfl (lv_at hl 0 rfl) ?_
      refine lv_aload_n S.1 S.2.1 dX12_keep_142 rfl (lv_at hl 0 rfl) ?_
      obtain ⟨r12, e13, f⟩ := ob f
      refine o_gR S lf12_keep_109 I e13 dX12_keep_143 ?_
      refine lv_iconst (v := 0) S.1 S.2.1 dX12_keep_146 (by decide) ?_
      obtain ⟨v15, e14, f⟩ := ob f
      refine o_iald S I e14 dX12_keep_147 ?_
      obtain ⟨h16, e17, f⟩ := ob f
      refine o_pI S lp12_keep_539 I e17 dX12_keep_148 (fun H locs I => ?_)
      refine lv_aload_n S.1 S.2.1 dX12_keep_151 rfl (lv_at hl 0 rfl) ?_
      refine lv_aload_n S.1 S.2.1 dX12_keep_152 rfl (lv_at hl 0 rfl) ?_
      obtain ⟨r18, e19, f⟩ := ob f
      refine o_gR S lf12_keep_112 I e19 dX12_keep_153 ?_
      refine lv_iconst (v := 0) S.1 S.2.1 dX12_keep_156 (by decide) ?_
      obtain ⟨v21, e20, f⟩ := ob f
      refine o_iald S I e20 dX12_keep_157 ?_
      obtain ⟨h22, e23, f⟩ := ob f
      refine o_pI S lp12_keep_542 I e23 dX12_keep_158 (fun H locs I => ?_)
      refine lv_aload_n S.1 S.2.1 dX12_keep_161 rfl (lv_at hl 0 rfl) ?_
      refine lv_aload_n S.1 S.2.1 dX12_keep_162 rfl (lv_at hl 0 rfl) ?_
      obtain ⟨w24, e25, f⟩ := ob f
      refine o_gJ S lf12_keep_372 I e25 dX12_keep_163 ?_
      obtain ⟨h26, e27, f⟩ := ob f
      refine o_pJ S lp12_keep_545 I e27 dX12_keep_166 (fun H locs I => ?_)
      refine lv_aload_n S.1 S.2.1 dX12_keep_169 rfl (lv_at hl 0 rfl) ?_
      obtain ⟨r28, e29, f⟩ := ob f
      refine o_gR S lf12_keep_106 I e29 dX12_keep_170 ?_
      refine lv_iconst (v := 0) S.1 S.2.1 dX12_keep_173 (by decide) ?_
      obtain ⟨v31, e30, f⟩ := ob f
      refine o_iald S I e30 dX12_keep_174 ?_
      exact o_iret S hr hlo I f dX12_keep_175
    · have f := (if_neg q1).symm.trans f
      refine lv_aload_n S.1 S.2.1 dX12_keep_102 rfl (lv_at hl 0 rfl) ?_
      obtain ⟨r32, e33, f⟩ := ob f
      refine o_gR S lf12_keep_145 I e33 dX12_keep_103 ?_
      refine lv_bipush (v := 25) S.1 S.2.1 dX12_keep_106 (by decide) ?_
      refine lv_iload_n S.1 S.2.1 dX12_keep_108 rfl (lv_at hl 1 rfl) ?_
      refine lv_iadd S.1 S.2.1 dX12_keep_109 ?_
      refine lv_aload_n S.1 S.2.1 dX12_keep_110 rfl (lv_at hl 0 rfl) ?_
      obtain ⟨r34, e35, f⟩ := ob f
      refine o_gR S lf12_keep_103 I e35 dX12_keep_111 ?_
      refine lv_iload_n S.1 S.2.1 dX12_keep_114 rfl (lv_at hl 1 rfl) ?_
      obtain ⟨v37, e36, f⟩ := ob f
      refine o_iald S I e36 dX12_keep_115 ?_
      obtain ⟨h39, e38, f⟩ := ob f
      refine o_iast S I e38 dX12_keep_116 (fun H locs I => ?_)
      refine lv_iinc (v := (x1 + 1)) (lv' := [(1, .int (x1 + 1)), (0, .ref (b + a0))]) S.1 S.2.1 dX12_keep_117 hl (k := 1) rfl (congrArg (fun z => x1 + z) (by decide)) (by decide) rfl (fun ls hl => ?_)
      refine lv_goto (tgt := 96) S.1 S.2.1 dX12_keep_120 (by decide) ?_
      exact ih f I (lv_sub hl [1, 0] rfl)
set_option maxHeartbeats 4000000 in
set_option maxRecDepth 100000 in
theorem T12_keep_12 (S : CallFix p m c cX12_keep 2 s args vX12_keep RX12) (hr : meth.sig.returnType = (some .int)) (hlo : meth.locks = false) {out : Int32 × PH} : ∀ (n : Nat) {h : PH} {a0 : Nat} {x1 : Int32} (f : F12_keep_12  n h a0 x1 = some out) {H : Heap} {locs : List Loc} (I : ph_I D cy b A fl h s H locs) {ls : Array Slot} (hl : lv_has ls 2 [(0, .ref (b + a0)), (1, .int x1)]), W p l e ({ frames := 0, cells := 0, slots := 0, locals := 0 } : Room) s m args below meth c H locs 0 0 (MQ below (va_Qi (fun (r : Int32) (u : PH) => (r, u) = out) (ph_B D cy b A fl) A) args s 0 0 A) (F0 m 12 ls []) := by
  intro n
  induction n with
  | zero => intro h a0 x1 f; rw [F12_keep_12] at f; cases f
  | succ n ih =>
    intro h a0 x1 f H locs I ls hl
    rw [F12_keep_12] at f
    refine lv_iload_n S.1 S.2.1 dX12_keep_12 rfl (lv_at hl 1 rfl) ?_
    refine lv_iconst (v := 5) S.1 S.2.1 dX12_keep_13 (by decide) ?_
    refine lv_icmp_ge (tgt := 94) S.1 S.2.1 dX12_keep_14 (by decide) (fun q1 => ?_) (fun q1 => ?_)
    · have f := (if_pos q1).symm.trans f
      refine lv_iconst (v := 0) S.1 S.2.1 dX12_keep_94 (by decide) ?_
      refine lv_istore_n (lv' := [(1, .int 0), (0, .ref (b + a0))]) S.1 S.2.1 dX12_keep_95 rfl hl (by decide) rfl (fun ls hl => ?_)
      exact T12_keep_96 S hr hlo  1024 f I (lv_sub hl [1, 0] rfl)
    · have f := (if_neg q1).symm.trans f
      refine lv_aload_n S.1 S.2.1 dX12_keep_17 rfl (lv_at hl 0 rfl) ?_
      obtain ⟨r2, e3, f⟩ := ob f
      refine o_gR S lf12_keep_145 I e3 dX12_keep_18 ?_
      refine lv_iload_n S.1 S.2.1 dX12_keep_21 rfl (lv_at hl 1 rfl) ?_
      refine lv_aload_n S.1 S.2.1 dX12_keep_22 rfl (lv_at hl 0 rfl) ?_
      obtain ⟨r4, e5, f⟩ := ob f
      refine o_gR S lf12_keep_88 I e5 dX12_keep_23 ?_
      refine lv_iload_n S.1 S.2.1 dX12_keep_26 rfl (lv_at hl 1 rfl) ?_
      obtain ⟨v7, e6, f⟩ := ob f
      refine o_iald S I e6 dX12_keep_27 ?_
      obtain ⟨h9, e8, f⟩ := ob f
      refine o_iast S I e8 dX12_keep_28 (fun H locs I => ?_)
      refine lv_aload_n S.1 S.2.1 dX12_keep_29 rfl (lv_at hl 0 rfl) ?_
      obtain ⟨r10, e11, f⟩ := ob f
      refine o_gR S lf12_keep_145 I e11 dX12_keep_30 ?_
      refine lv_iconst (v := 5) S.1 S.2.1 dX12_keep_33 (by decide) ?_
      refine lv_iload_n S.1 S.2.1 dX12_keep_34 rfl (lv_at hl 1 rfl) ?_
      refine lv_iadd S.1 S.2.1 dX12_keep_35 ?_
      refine lv_aload_n S.1 S.2.1 dX12_keep_36 rfl (lv_at hl 0 rfl) ?_
      obtain ⟨r12, e13, f⟩ := ob f
      refine o_gR S lf12_keep_91 I e13 dX12_keep_37 ?_
      refine lv_iload_n S.1 S.2.1 dX12_keep_40 rfl (lv_at hl 1 rfl) ?_
      obtain ⟨v15, e14, f⟩ := ob f
      refine o_iald S I e14 dX12_keep_41 ?_
      obtain ⟨h17, e16, f⟩ := ob f
      refine o_iast S I e16 dX12_keep_42 (fun H locs I => ?_)
      refine lv_aload_n S.1 S.2.1 dX12_keep_43 rfl (lv_at hl 0 rfl) ?_
      obtain ⟨r18, e19, f⟩ := ob f
      refine o_gR S lf12_keep_145 I e19 dX12_keep_44 ?_
      refine lv_bipush (v := 10) S.1 S.2.1 dX12_keep_47 (by decide) ?_
      refine lv_iload_n S.1 S.2.1 dX12_keep_49 rfl (lv_at hl 1 rfl) ?_
      refine lv_iadd S.1 S.2.1 dX12_keep_50 ?_
      refine lv_aload_n S.1 S.2.1 dX12_keep_51 rfl (lv_at hl 0 rfl) ?_
      obtain ⟨r20, e21, f⟩ := ob f
      refine o_gR S lf12_keep_94 I e21 dX12_keep_52 ?_
      refine lv_iload_n S.1 S.2.1 dX12_keep_55 rfl (lv_at hl 1 rfl) ?_
      obtain ⟨v23, e22, f⟩ := ob f
      refine o_iald S I e22 dX12_keep_56 ?_
      obtain ⟨h25, e24, f⟩ := ob f
      refine o_iast S I e24 dX12_keep_57 (fun H locs I => ?_)
      refine lv_aload_n S.1 S.2.1 dX12_keep_58 rfl (lv_at hl 0 rfl) ?_
      obtain ⟨r26, e27, f⟩ := ob f
      refine o_gR S lf12_keep_145 I e27 dX12_keep_59 ?_
      refine lv_bipush (v := 15) S.1 S.2.1 dX12_keep_62 (by decide) ?_
      refine lv_iload_n S.1 S.2.1 dX12_keep_64 rfl (lv_at hl 1 rfl) ?_
      refine lv_iadd S.1 S.2.1 dX12_keep_65 ?_
      refine lv_aload_n S.1 S.2.1 dX12_keep_66 rfl (lv_at hl 0 rfl) ?_
      obtain ⟨r28, e29, f⟩ := ob f
      refine o_gR S lf12_keep_97 I e29 dX12_keep_67 ?_
      refine lv_iload_n S.1 S.2.1 dX12_keep_70 rfl (lv_at hl 1 rfl) ?_
      obtain ⟨v31, e30, f⟩ := ob f
      refine o_iald S I e30 dX12_keep_71 ?_
      obtain ⟨h33, e32, f⟩ := ob f
      refine o_iast S I e32 dX12_keep_72 (fun H locs I => ?_)
      refine lv_aload_n S.1 S.2.1 dX12_keep_73 rfl (lv_at hl 0 rfl) ?_
      obtain ⟨r34, e35, f⟩ := ob f
      refine o_gR S lf12_keep_145 I e35 dX12_keep_74 ?_
      refine lv_bipush (v := 20) S.1 S.2.1 dX12_keep_77 (by decide) ?_
      refine lv_iload_n S.1 S.2.1 dX12_keep_79 rfl (lv_at hl 1 rfl) ?_
      refine lv_iadd S.1 S.2.1 dX12_keep_80 ?_
      refine lv_aload_n S.1 S.2.1 dX12_keep_81 rfl (lv_at hl 0 rfl) ?_
      obtain ⟨r36, e37, f⟩ := ob f
      refine o_gR S lf12_keep_100 I e37 dX12_keep_82 ?_
      refine lv_iload_n S.1 S.2.1 dX12_keep_85 rfl (lv_at hl 1 rfl) ?_
      obtain ⟨v39, e38, f⟩ := ob f
      refine o_iald S I e38 dX12_keep_86 ?_
      obtain ⟨h41, e40, f⟩ := ob f
      refine o_iast S I e40 dX12_keep_87 (fun H locs I => ?_)
      refine lv_iinc (v := (x1 + 1)) (lv' := [(1, .int (x1 + 1)), (0, .ref (b + a0))]) S.1 S.2.1 dX12_keep_88 hl (k := 1) rfl (congrArg (fun z => x1 + z) (by decide)) (by decide) rfl (fun ls hl => ?_)
      refine lv_goto (tgt := 12) S.1 S.2.1 dX12_keep_91 (by decide) ?_
      exact ih f I (lv_sub hl [1, 0] rfl)
set_option maxHeartbeats 4000000 in
set_option maxRecDepth 100000 in
theorem T12_keep_0 (S : CallFix p m c cX12_keep 2 s args vX12_keep RX12) (hr : meth.sig.returnType = (some .int)) (hlo : meth.locks = false) {out : Int32 × PH} {h : PH} {a0 : Nat} (f : F12_keep_0  h a0 = some out) {H : Heap} {locs : List Loc} (I : ph_I D cy b A fl h s H locs) {ls : Array Slot} (hl : lv_has ls 2 [(0, .ref (b + a0))]) : W p l e ({ frames := 0, cells := 0, slots := 0, locals := 0 } : Room) s m args below meth c H locs 0 0 (MQ below (va_Qi (fun (r : Int32) (u : PH) => (r, u) = out) (ph_B D cy b A fl) A) args s 0 0 A) (F0 m 0 ls []) := by
  unfold F12_keep_0 at f
  refine lv_aload_n S.1 S.2.1 dX12_keep_0 rfl (lv_at hl 0 rfl) ?_
  refine lv_iconst (v := 0) S.1 S.2.1 dX12_keep_1 (by decide) ?_
  obtain ⟨h1, e2, f⟩ := ob f
  refine o_pI S lp12_keep_154 I e2 dX12_keep_2 (fun H locs I => ?_)
  refine lv_aload_n S.1 S.2.1 dX12_keep_5 rfl (lv_at hl 0 rfl) ?_
  refine lv_iconst (v := 1) S.1 S.2.1 dX12_keep_6 (by decide) ?_
  obtain ⟨h3, e4, f⟩ := ob f
  refine o_pZ S lp12_keep_382 I e4 dX12_keep_7 (fun H locs I => ?_)
  refine lv_iconst (v := 0) S.1 S.2.1 dX12_keep_10 (by decide) ?_
  refine lv_istore_n (lv' := [(1, .int 0), (0, .ref (b + a0))]) S.1 S.2.1 dX12_keep_11 rfl hl (by decide) rfl (fun ls hl => ?_)
  exact T12_keep_12 S hr hlo  1024 f I (lv_sub hl [1, 0] rfl)
theorem M12_keep (l : Launch) (D : va_G) (cy : Nat → ClassId) (b : Nat) (A : Nat → Prop) (fl : Bool) {h : PH} {a0 : Nat} {out : Int32 × PH} (f : F12_keep h a0 = some out) : Met l yX12_keep vX12_keep ({ frames := 0, cells := 0, slots := 0, locals := 0 } : Room) (va_Pc [.ref (b + a0)] (ph_B D cy b A fl h)) (va_Qi (fun (r : Int32) (u : PH) => (r, u) = out) (ph_B D cy b A fl) A) 0 0 A :=
  o_met (by decide) rfl (Nat.le_of_ble_eq_true rfl) rfl (fun p e s m below meth c S hr hlo hnm ls hl I => T12_keep_0 S hr hlo ((gd f).2) I (lv_sub hl [0] rfl))
def vX12_known : List Cond := .code yX12_known cX12_known 2 (some .boolean) :: TB
theorem lp12_known_154 : Pl vX12_known RX12 154 12 2 .int := ⟨RX12, TX12, 87, tyX12, rfl, by decide, (fun w h9 => List.mem_cons_of_mem _ (wC_wsX120 w h9)), (List.mem_cons_of_mem _ wT_13_17), tyX12_ok, nmX12, rfl, rfl⟩
theorem lf12_known_376 : Fl vX12_known RX12 376 12 74 := ⟨RX12, TX12, 87, rfl, by decide, (fun w h9 => List.mem_cons_of_mem _ (wC_wsX120 w h9)), (List.mem_cons_of_mem _ wT_13_1)⟩
theorem gX12_known_X12_isIn : GoodIn vX12_known (va_wsS RX12 199 yX12_isIn vX12_isIn) := gS_of wT_28_17 wT_28_18 wT_1_5 wT_28_19
theorem lp12_known_133 : Pl vX12_known RX12 133 12 75 .int := ⟨RX12, TX12, 87, tyX12, rfl, by decide, (fun w h9 => List.mem_cons_of_mem _ (wC_wsX120 w h9)), (List.mem_cons_of_mem _ wT_11_13), tyX12_ok, nmX12, rfl, rfl⟩
theorem cd12_known : Cd yX12_known 1 := ⟨by decide, by decide, by decide +kernel⟩
set_option maxHeartbeats 4000000 in
set_option maxRecDepth 100000 in
theorem T12_known_0 (S : CallFix p m c cX12_known 2 s args vX12_known RX12) (hr : meth.sig.returnType = (some .boolean)) (hlo : meth.locks = false) {out : Int32 × PH} {h : PH} {a0 : Nat} {x1 : Int32} (f : F12_known_0  h a0 x1 = some out) {H : Heap} {locs : List Loc} (I : ph_I D cy b A fl h s H locs) {ls : Array Slot} (hl : lv_has ls 2 [(0, .ref (b + a0)), (1, .int x1)]) : W p l e ({ frames := 1, cells := 0, slots := 0, locals := 22 } : Room) s m args below meth c H locs 0 0 (MQ below (va_Qi (fun (r : Int32) (u : PH) => (r, u) = out) (ph_B D cy b A fl) A) args s 0 0 A) (F0 m 0 ls []) := by
  unfold F12_known_0 at f
  refine lv_aload_n S.1 S.2.1 dX12_known_0 rfl (lv_at hl 0 rfl) ?_
  refine lv_iconst (v := 0) S.1 S.2.1 dX12_known_1 (by decide) ?_
  obtain ⟨h1, e2, f⟩ := ob f
  refine o_pI S lp12_known_154 I e2 dX12_known_2 (fun H locs I => ?_)
  refine lv_iload_n S.1 S.2.1 dX12_known_5 rfl (lv_at hl 1 rfl) ?_
  refine lv_iconst (v := (-1)) S.1 S.2.1 dX12_known_6 (by decide) ?_
  refine lv_aload_n S.1 S.2.1 dX12_known_7 rfl (lv_at hl 0 rfl) ?_
  obtain ⟨v3, e4, f⟩ := ob f
  refine o_gI S lf12_known_376 I e4 dX12_known_8 ?_
  obtain ⟨o5, e6, f⟩ := ob f
  refine o_Si S (As := [.int x1, .int (-1), .int v3]) (rest := []) (M12_isIn l D cy b A fl e6) gX12_known_X12_isIn rfl rfl rfl cd12_isIn ⟨Nat.le_of_ble_eq_true rfl, Nat.le_of_ble_eq_true rfl⟩ I rfl hl.1 rfl (Nat.le_of_ble_eq_true rfl) dX12_known_11 ⟨Nat.le_of_ble_eq_true rfl, Nat.le_of_ble_eq_true rfl⟩ (fun H locs I => ?_)
  refine lv_if_ne (tgt := 19) S.1 S.2.1 dX12_known_14 (by decide) (fun q7 => ?_) (fun q7 => ?_)
  · have f := (if_neg q7).symm.trans f
    refine lv_aload_n S.1 S.2.1 dX12_known_19 rfl (lv_at hl 0 rfl) ?_
    refine lv_iload_n S.1 S.2.1 dX12_known_20 rfl (lv_at hl 1 rfl) ?_
    obtain ⟨h8, e9, f⟩ := ob f
    refine o_pI S lp12_known_133 I e9 dX12_known_21 (fun H locs I => ?_)
    refine lv_iconst (v := 1) S.1 S.2.1 dX12_known_24 (by decide) ?_
    exact o_zret S hr hlo I f dX12_known_25
  · have f := (if_pos q7).symm.trans f
    refine lv_iconst (v := 0) S.1 S.2.1 dX12_known_17 (by decide) ?_
    exact o_zret S hr hlo I f dX12_known_18
theorem M12_known (l : Launch) (D : va_G) (cy : Nat → ClassId) (b : Nat) (A : Nat → Prop) (fl : Bool) {h : PH} {a0 : Nat} {x1 : Int32} {out : Int32 × PH} (f : F12_known h a0 x1 = some out) : Met l yX12_known vX12_known ({ frames := 1, cells := 0, slots := 0, locals := 22 } : Room) (va_Pc [.ref (b + a0), .int x1] (ph_B D cy b A fl h)) (va_Qi (fun (r : Int32) (u : PH) => (r, u) = out) (ph_B D cy b A fl) A) 0 0 A :=
  o_met (by decide) rfl (Nat.le_of_ble_eq_true rfl) rfl (fun p e s m below meth c S hr hlo hnm ls hl I => T12_known_0 S hr hlo ((gd f).2) I (lv_sub hl [0, 1] rfl))
def vX12_law : List Cond := .code yX12_law cX12_law 7 (some .long) :: TB
theorem gX12_law_X12_lawOf : GoodIn vX12_law (wsV RX12 389 RX12 yX12_lawOf vX12_lawOf) := gV_of wT_35_11 wT_35_12 wT_35_13 wT_1_5 wT_35_14
theorem lf12_law_347 : Fl vX12_law RX12 347 12 54 := ⟨RX12, TX12, 87, rfl, by decide, (fun w h9 => List.mem_cons_of_mem _ (wC_wsX120 w h9)), (List.mem_cons_of_mem _ wT_35_10)⟩
theorem lf12_law_57 : Fl vX12_law RX12 57 12 37 := ⟨RX12, TX12, 87, rfl, by decide, (fun w h9 => List.mem_cons_of_mem _ (wC_wsX120 w h9)), (List.mem_cons_of_mem _ wT_10_12)⟩
theorem lf12_law_106 : Fl vX12_law RX12 106 12 61 := ⟨RX12, TX12, 87, rfl, by decide, (fun w h9 => List.mem_cons_of_mem _ (wC_wsX120 w h9)), (List.mem_cons_of_mem _ wT_11_4)⟩
theorem gX12_law_X12_layNames : GoodIn vX12_law (wsV RX12 392 RX12 yX12_layNames vX12_layNames) := gV_of wT_35_2 wT_35_3 wT_35_4 wT_1_5 wT_35_5
theorem lf12_law_33 : Fl vX12_law RX12 33 12 29 := ⟨RX12, TX12, 87, rfl, by decide, (fun w h9 => List.mem_cons_of_mem _ (wC_wsX120 w h9)), (List.mem_cons_of_mem _ wT_10_4)⟩
theorem lf12_law_48 : Fl vX12_law RX12 48 12 34 := ⟨RX12, TX12, 87, rfl, by decide, (fun w h9 => List.mem_cons_of_mem _ (wC_wsX120 w h9)), (List.mem_cons_of_mem _ wT_10_9)⟩
theorem lf12_law_88 : Fl vX12_law RX12 88 12 55 := ⟨RX12, TX12, 87, rfl, by decide, (fun w h9 => List.mem_cons_of_mem _ (wC_wsX120 w h9)), (List.mem_cons_of_mem _ wT_10_22)⟩
theorem gX12_law_X12_layCatch : GoodIn vX12_law (wsV RX12 409 RX12 yX12_layCatch vX12_layCatch) := gV_of wT_40_5 wT_40_6 wT_40_7 wT_1_5 wT_40_8
theorem lp12_law_154 : Pl vX12_law RX12 154 12 2 .int := ⟨RX12, TX12, 87, tyX12, rfl, by decide, (fun w h9 => List.mem_cons_of_mem _ (wC_wsX120 w h9)), (List.mem_cons_of_mem _ wT_13_17), tyX12_ok, nmX12, rfl, rfl⟩
theorem gX12_law_X12_isIn : GoodIn vX12_law (va_wsS RX12 199 yX12_isIn vX12_isIn) := gS_of wT_28_17 wT_28_18 wT_1_5 wT_28_19
theorem gX12_law_X12_isSurfer : GoodIn vX12_law (wsV RX12 413 RX12 yX12_isSurfer vX12_isSurfer) := gV_of wT_34_14 wT_34_15 wT_34_16 wT_1_5 wT_34_17
theorem gX12_law_X12_isWave : GoodIn vX12_law (wsV RX12 419 RX12 yX12_isWave vX12_isWave) := gV_of wT_37_7 wT_37_8 wT_37_9 wT_1_5 wT_37_10
theorem cd12_law : Cd yX12_law 3 := ⟨by decide, by decide, by decide +kernel⟩
set_option maxHeartbeats 4000000 in
set_option maxRecDepth 100000 in
theorem T12_law_134 (S : CallFix p m c cX12_law 7 s args vX12_law RX12) (hr : meth.sig.returnType = (some .long)) (hlo : meth.locks = false) {out : Int64 × PH} {h : PH} {a0 : Nat} {x4 : Int32} (f : F12_law_134  h a0 x4 = some out) {H : Heap} {locs : List Loc} (I : ph_I D cy b A fl h s H locs) {ls : Array Slot} (hl : lv_has ls 7 [(0, .ref (b + a0)), (4, .int x4)]) : W p l e ({ frames := 6, cells := 0, slots := 0, locals := 145 } : Room) s m args below meth c H locs 0 0 (MQ below (va_Ql (fun (r : Int64) (u : PH) => (r, u) = out) (ph_B D cy b A fl) A) args s 0 0 A) (F0 m 134 ls []) := by
  unfold F12_law_134 at f
  refine lv_aload_n S.1 S.2.1 dX12_law_134 rfl (lv_at hl 0 rfl) ?_
  refine lv_iload S.1 S.2.1 dX12_law_135 (lv_at hl 1 rfl) ?_
  obtain ⟨o1, e2, f⟩ := ob f
  refine o_Vl S (As := [.int x4]) (rest := []) (ci := 12) (M12_lawOf l D cy b A fl e2) gX12_law_X12_lawOf rfl rfl rfl cd12_lawOf ⟨Nat.le_of_ble_eq_true rfl, Nat.le_of_ble_eq_true rfl⟩ I (gd e2).1 clX12 rfl rfl hl.1 rfl (Nat.le_of_ble_eq_true rfl) dX12_law_137 ⟨Nat.le_of_ble_eq_true rfl, Nat.le_of_ble_eq_true rfl⟩ (fun H locs I => ?_)
  refine lv_lstore (lv' := [(5, .long o1.1), (0, .ref (b + a0)), (4, .int x4)]) S.1 S.2.1 dX12_law_140 hl (by decide) rfl (fun ls hl => ?_)
  refine lv_aload_n S.1 S.2.1 dX12_law_142 rfl (lv_at hl 1 rfl) ?_
  obtain ⟨v3, e4, f⟩ := ob f
  refine o_gI S lf12_law_347 I e4 dX12_law_143 ?_
  refine lv_if_eq (tgt := 155) S.1 S.2.1 dX12_law_146 (by decide) (fun q5 => ?_) (fun q5 => ?_)
  · have f := (if_pos q5).symm.trans f
    refine lv_lload S.1 S.2.1 dX12_law_155 (lv_at hl 0 rfl) ?_
    exact o_lret S hr hlo I f dX12_law_157
  · have f := (if_neg q5).symm.trans f
    refine lv_ldc2 (v := (-9223372036854775808)) S.1 S.2.1 S.2.2.2.1 (S.2.2.2.2 _ (List.mem_cons_of_mem _ wT_41_7)) dX12_law_149 ?_
    refine lv_goto (tgt := 157) S.1 S.2.1 dX12_law_152 (by decide) ?_
    exact o_lret S hr hlo I f dX12_law_157
set_option maxHeartbeats 4000000 in
set_option maxRecDepth 100000 in
theorem T12_law_57 (S : CallFix p m c cX12_law 7 s args vX12_law RX12) (hr : meth.sig.returnType = (some .long)) (hlo : meth.locks = false) {out : Int64 × PH} {h : PH} {a0 : Nat} {x1 : Int32} {x2 : Int32} {x3 : Int32} {s0 : Int32} (f : F12_law_57  h a0 x1 x2 x3 s0 = some out) {H : Heap} {locs : List Loc} (I : ph_I D cy b A fl h s H locs) {ls : Array Slot} (hl : lv_has ls 7 [(0, .ref (b + a0)), (1, .int x1), (2, .int x2), (3, .int x3)]) : W p l e ({ frames := 6, cells := 0, slots := 0, locals := 145 } : Room) s m args below meth c H locs 0 0 (MQ below (va_Ql (fun (r : Int64) (u : PH) => (r, u) = out) (ph_B D cy b A fl) A) args s 0 0 A) (F0 m 57 ls [.int s0]) := by
  unfold F12_law_57 at f
  refine lv_istore (lv' := [(4, .int s0), (0, .ref (b + a0)), (1, .int x1), (2, .int x2), (3, .int x3)]) S.1 S.2.1 dX12_law_57 hl (by decide) rfl (fun ls hl => ?_)
  refine lv_aload_n S.1 S.2.1 dX12_law_59 rfl (lv_at hl 1 rfl) ?_
  obtain ⟨r1, e2, f⟩ := ob f
  refine o_gR S lf12_law_57 I e2 dX12_law_60 ?_
  refine lv_iload S.1 S.2.1 dX12_law_63 (lv_at hl 0 rfl) ?_
  obtain ⟨v4, e3, f⟩ := ob f
  refine o_zald S I e3 dX12_law_65 ?_
  refine lv_if_ne (tgt := 73) S.1 S.2.1 dX12_law_66 (by decide) (fun q5 => ?_) (fun q5 => ?_)
  · have f := (if_neg q5).symm.trans f
    refine lv_iload_n S.1 S.2.1 dX12_law_73 rfl (lv_at hl 2 rfl) ?_
    refine lv_if_ne (tgt := 93) S.1 S.2.1 dX12_law_74 (by decide) (fun q6 => ?_) (fun q6 => ?_)
    · have f := (if_neg q6).symm.trans f
      refine lv_iload_n S.1 S.2.1 dX12_law_93 rfl (lv_at hl 2 rfl) ?_
      refine lv_iconst (v := 1) S.1 S.2.1 dX12_law_94 (by decide) ?_
      refine lv_icmp_ne (tgt := 120) S.1 S.2.1 dX12_law_95 (by decide) (fun q7 => ?_) (fun q7 => ?_)
      · have f := (if_neg q7).symm.trans f
        refine lv_aload_n S.1 S.2.1 dX12_law_120 rfl (lv_at hl 1 rfl) ?_
        refine lv_iconst (v := 0) S.1 S.2.1 dX12_law_121 (by decide) ?_
        refine lv_iconst (v := 0) S.1 S.2.1 dX12_law_122 (by decide) ?_
        refine lv_iconst (v := 0) S.1 S.2.1 dX12_law_123 (by decide) ?_
        refine lv_iconst (v := (-1)) S.1 S.2.1 dX12_law_124 (by decide) ?_
        refine lv_aload_n S.1 S.2.1 dX12_law_125 rfl (lv_at hl 1 rfl) ?_
        obtain ⟨r8, e9, f⟩ := ob f
        refine o_gR S lf12_law_106 I e9 dX12_law_126 ?_
        refine lv_iconst (v := 0) S.1 S.2.1 dX12_law_129 (by decide) ?_
        obtain ⟨v11, e10, f⟩ := ob f
        refine o_iald S I e10 dX12_law_130 ?_
        obtain ⟨o12, e13, f⟩ := ob f
        refine o_Vv S (As := [.int 0, .int 0, .int 0, .int (-1), .int v11]) (rest := []) (ci := 12) (M12_layNames l D cy b A fl e13) gX12_law_X12_layNames rfl rfl rfl cd12_layNames ⟨Nat.le_of_ble_eq_true rfl, Nat.le_of_ble_eq_true rfl⟩ I (gd e13).1 clX12 rfl rfl hl.1 rfl (Nat.le_of_ble_eq_true rfl) dX12_law_131 ⟨Nat.le_of_ble_eq_true rfl, Nat.le_of_ble_eq_true rfl⟩ (fun H locs I => ?_)
        exact T12_law_134 S hr hlo  f I (lv_sub hl [1, 0] rfl)
      · have f := (if_pos q7).symm.trans f
        refine lv_aload_n S.1 S.2.1 dX12_law_98 rfl (lv_at hl 1 rfl) ?_
        refine lv_iconst (v := 0) S.1 S.2.1 dX12_law_99 (by decide) ?_
        refine lv_iconst (v := 0) S.1 S.2.1 dX12_law_100 (by decide) ?_
        refine lv_aload_n S.1 S.2.1 dX12_law_101 rfl (lv_at hl 1 rfl) ?_
        obtain ⟨r14, e15, f⟩ := ob f
        refine o_gR S lf12_law_33 I e15 dX12_law_102 ?_
        refine lv_iload_n S.1 S.2.1 dX12_law_105 rfl (lv_at hl 3 rfl) ?_
        obtain ⟨v17, e16, f⟩ := ob f
        refine o_iald S I e16 dX12_law_106 ?_
        refine lv_iload_n S.1 S.2.1 dX12_law_107 rfl (lv_at hl 4 rfl) ?_
        refine lv_aload_n S.1 S.2.1 dX12_law_108 rfl (lv_at hl 1 rfl) ?_
        obtain ⟨r18, e19, f⟩ := ob f
        refine o_gR S lf12_law_48 I e19 dX12_law_109 ?_
        refine lv_iload_n S.1 S.2.1 dX12_law_112 rfl (lv_at hl 4 rfl) ?_
        obtain ⟨v21, e20, f⟩ := ob f
        refine o_iald S I e20 dX12_law_113 ?_
        obtain ⟨o22, e23, f⟩ := ob f
        refine o_Vv S (As := [.int 0, .int 0, .int v17, .int x3, .int v21]) (rest := []) (ci := 12) (M12_layNames l D cy b A fl e23) gX12_law_X12_layNames rfl rfl rfl cd12_layNames ⟨Nat.le_of_ble_eq_true rfl, Nat.le_of_ble_eq_true rfl⟩ I (gd e23).1 clX12 rfl rfl hl.1 rfl (Nat.le_of_ble_eq_true rfl) dX12_law_114 ⟨Nat.le_of_ble_eq_true rfl, Nat.le_of_ble_eq_true rfl⟩ (fun H locs I => ?_)
        refine lv_goto (tgt := 134) S.1 S.2.1 dX12_law_117 (by decide) ?_
        exact T12_law_134 S hr hlo  f I (lv_sub hl [1, 0] rfl)
    · have f := (if_pos q6).symm.trans f
      refine lv_aload_n S.1 S.2.1 dX12_law_77 rfl (lv_at hl 1 rfl) ?_
      refine lv_iload_n S.1 S.2.1 dX12_law_78 rfl (lv_at hl 3 rfl) ?_
      refine lv_iload_n S.1 S.2.1 dX12_law_79 rfl (lv_at hl 4 rfl) ?_
      refine lv_aload_n S.1 S.2.1 dX12_law_80 rfl (lv_at hl 1 rfl) ?_
      obtain ⟨r24, e25, f⟩ := ob f
      refine o_gR S lf12_law_88 I e25 dX12_law_81 ?_
      refine lv_iload_n S.1 S.2.1 dX12_law_84 rfl (lv_at hl 3 rfl) ?_
      obtain ⟨v27, e26, f⟩ := ob f
      refine o_iald S I e26 dX12_law_85 ?_
      obtain ⟨o28, e29, f⟩ := ob f
      refine o_Vi S (As := [.int x2, .int x3, .int v27]) (rest := []) (ci := 12) (M12_layCatch l D cy b A fl e29) gX12_law_X12_layCatch rfl rfl rfl cd12_layCatch ⟨Nat.le_of_ble_eq_true rfl, Nat.le_of_ble_eq_true rfl⟩ I (gd e29).1 clX12 rfl rfl hl.1 rfl (Nat.le_of_ble_eq_true rfl) dX12_law_86 ⟨Nat.le_of_ble_eq_true rfl, Nat.le_of_ble_eq_true rfl⟩ (fun H locs I => ?_)
      refine lv_pop S.1 S.2.1 dX12_law_89 rfl ?_
      refine lv_goto (tgt := 134) S.1 S.2.1 dX12_law_90 (by decide) ?_
      exact T12_law_134 S hr hlo  f I (lv_sub hl [1, 0] rfl)
  · have f := (if_pos q5).symm.trans f
    refine lv_ldc2 (v := (-9223372036854775808)) S.1 S.2.1 S.2.2.2.1 (S.2.2.2.2 _ (List.mem_cons_of_mem _ wT_41_7)) dX12_law_69 ?_
    exact o_lret S hr hlo I f dX12_law_72
set_option maxHeartbeats 4000000 in
set_option maxRecDepth 100000 in
theorem T12_law_39 (S : CallFix p m c cX12_law 7 s args vX12_law RX12) (hr : meth.sig.returnType = (some .long)) (hlo : meth.locks = false) {out : Int64 × PH} {h : PH} {a0 : Nat} {x1 : Int32} {x2 : Int32} {x3 : Int32} (f : F12_law_39  h a0 x1 x2 x3 = some out) {H : Heap} {locs : List Loc} (I : ph_I D cy b A fl h s H locs) {ls : Array Slot} (hl : lv_has ls 7 [(0, .ref (b + a0)), (1, .int x1), (2, .int x2), (3, .int x3)]) : W p l e ({ frames := 6, cells := 0, slots := 0, locals := 145 } : Room) s m args below meth c H locs 0 0 (MQ below (va_Ql (fun (r : Int64) (u : PH) => (r, u) = out) (ph_B D cy b A fl) A) args s 0 0 A) (F0 m 39 ls []) := by
  unfold F12_law_39 at f
  refine lv_iload_n S.1 S.2.1 dX12_law_39 rfl (lv_at hl 1 rfl) ?_
  refine lv_if_ne (tgt := 47) S.1 S.2.1 dX12_law_40 (by decide) (fun q1 => ?_) (fun q1 => ?_)
  · have f := (if_neg q1).symm.trans f
    refine lv_iload_n S.1 S.2.1 dX12_law_47 rfl (lv_at hl 1 rfl) ?_
    refine lv_iconst (v := 1) S.1 S.2.1 dX12_law_48 (by decide) ?_
    refine lv_icmp_ne (tgt := 56) S.1 S.2.1 dX12_law_49 (by decide) (fun q2 => ?_) (fun q2 => ?_)
    · have f := (if_neg q2).symm.trans f
      refine lv_iconst (v := 1) S.1 S.2.1 dX12_law_56 (by decide) ?_
      exact T12_law_57 S hr hlo  f I (lv_sub hl [0, 1, 2, 3] rfl)
    · have f := (if_pos q2).symm.trans f
      refine lv_iconst (v := 2) S.1 S.2.1 dX12_law_52 (by decide) ?_
      refine lv_goto (tgt := 57) S.1 S.2.1 dX12_law_53 (by decide) ?_
      exact T12_law_57 S hr hlo  f I (lv_sub hl [0, 1, 2, 3] rfl)
  · have f := (if_pos q1).symm.trans f
    refine lv_iconst (v := 0) S.1 S.2.1 dX12_law_43 (by decide) ?_
    refine lv_goto (tgt := 57) S.1 S.2.1 dX12_law_44 (by decide) ?_
    exact T12_law_57 S hr hlo  f I (lv_sub hl [0, 1, 2, 3] rfl)
set_option maxHeartbeats 4000000 in
set_option maxRecDepth 100000 in
theorem T12_law_0 (S : CallFix p m c cX12_law 7 s args vX12_law RX12) (hr : meth.sig.returnType = (some .long)) (hlo : meth.locks = false) {out : Int64 × PH} {h : PH} {a0 : Nat} {x1 : Int32} {x2 : Int32} {x3 : Int32} (f : F12_law_0  h a0 x1 x2 x3 = some out) {H : Heap} {locs : List Loc} (I : ph_I D cy b A fl h s H locs) {ls : Array Slot} (hl : lv_has ls 7 [(0, .ref (b + a0)), (1, .int x1), (2, .int x2), (3, .int x3)]) : W p l e ({ frames := 6, cells := 0, slots := 0, locals := 145 } : Room) s m args below meth c H locs 0 0 (MQ below (va_Ql (fun (r : Int64) (u : PH) => (r, u) = out) (ph_B D cy b A fl) A) args s 0 0 A) (F0 m 0 ls []) := by
  unfold F12_law_0 at f
  refine lv_aload_n S.1 S.2.1 dX12_law_0 rfl (lv_at hl 0 rfl) ?_
  refine lv_iconst (v := 0) S.1 S.2.1 dX12_law_1 (by decide) ?_
  obtain ⟨h1, e2, f⟩ := ob f
  refine o_pI S lp12_law_154 I e2 dX12_law_2 (fun H locs I => ?_)
  refine lv_iload_n S.1 S.2.1 dX12_law_5 rfl (lv_at hl 1 rfl) ?_
  refine lv_iconst (v := 0) S.1 S.2.1 dX12_law_6 (by decide) ?_
  refine lv_iconst (v := 2) S.1 S.2.1 dX12_law_7 (by decide) ?_
  obtain ⟨o3, e4, f⟩ := ob f
  refine o_Si S (As := [.int x1, .int 0, .int 2]) (rest := []) (M12_isIn l D cy b A fl e4) gX12_law_X12_isIn rfl rfl rfl cd12_isIn ⟨Nat.le_of_ble_eq_true rfl, Nat.le_of_ble_eq_true rfl⟩ I rfl hl.1 rfl (Nat.le_of_ble_eq_true rfl) dX12_law_8 ⟨Nat.le_of_ble_eq_true rfl, Nat.le_of_ble_eq_true rfl⟩ (fun H locs I => ?_)
  refine lv_if_eq (tgt := 35) S.1 S.2.1 dX12_law_11 (by decide) (fun q5 => ?_) (fun q5 => ?_)
  · have f := (if_pos q5).symm.trans f
    refine lv_ldc2 (v := (-9223372036854775808)) S.1 S.2.1 S.2.2.2.1 (S.2.2.2.2 _ (List.mem_cons_of_mem _ wT_41_7)) dX12_law_35 ?_
    exact o_lret S hr hlo I f dX12_law_38
  · have f := (if_neg q5).symm.trans f
    refine lv_iload_n S.1 S.2.1 dX12_law_14 rfl (lv_at hl 1 rfl) ?_
    refine lv_iconst (v := 2) S.1 S.2.1 dX12_law_15 (by decide) ?_
    refine lv_icmp_ge (tgt := 39) S.1 S.2.1 dX12_law_16 (by decide) (fun q6 => ?_) (fun q6 => ?_)
    · have f := (if_pos q6).symm.trans f
      exact T12_law_39 S hr hlo  f I (lv_sub hl [0, 1, 2, 3] rfl)
    · have f := (if_neg q6).symm.trans f
      refine lv_aload_n S.1 S.2.1 dX12_law_19 rfl (lv_at hl 0 rfl) ?_
      refine lv_iload_n S.1 S.2.1 dX12_law_20 rfl (lv_at hl 2 rfl) ?_
      obtain ⟨o7, e8, f⟩ := ob f
      refine o_Vi S (As := [.int x2]) (rest := []) (ci := 12) (M12_isSurfer l D cy b A fl e8) gX12_law_X12_isSurfer rfl rfl rfl cd12_isSurfer ⟨Nat.le_of_ble_eq_true rfl, Nat.le_of_ble_eq_true rfl⟩ I (gd e8).1 clX12 rfl rfl hl.1 rfl (Nat.le_of_ble_eq_true rfl) dX12_law_21 ⟨Nat.le_of_ble_eq_true rfl, Nat.le_of_ble_eq_true rfl⟩ (fun H locs I => ?_)
      refine lv_if_eq (tgt := 35) S.1 S.2.1 dX12_law_24 (by decide) (fun q9 => ?_) (fun q9 => ?_)
      · have f := (if_pos q9).symm.trans f
        refine lv_ldc2 (v := (-9223372036854775808)) S.1 S.2.1 S.2.2.2.1 (S.2.2.2.2 _ (List.mem_cons_of_mem _ wT_41_7)) dX12_law_35 ?_
        exact o_lret S hr hlo I f dX12_law_38
      · have f := (if_neg q9).symm.trans f
        refine lv_aload_n S.1 S.2.1 dX12_law_27 rfl (lv_at hl 0 rfl) ?_
        refine lv_iload_n S.1 S.2.1 dX12_law_28 rfl (lv_at hl 3 rfl) ?_
        obtain ⟨o10, e11, f⟩ := ob f
        refine o_Vi S (As := [.int x3]) (rest := []) (ci := 12) (M12_isWave l D cy b A fl e11) gX12_law_X12_isWave rfl rfl rfl cd12_isWave ⟨Nat.le_of_ble_eq_true rfl, Nat.le_of_ble_eq_true rfl⟩ I (gd e11).1 clX12 rfl rfl hl.1 rfl (Nat.le_of_ble_eq_true rfl) dX12_law_29 ⟨Nat.le_of_ble_eq_true rfl, Nat.le_of_ble_eq_true rfl⟩ (fun H locs I => ?_)
        refine lv_if_ne (tgt := 39) S.1 S.2.1 dX12_law_32 (by decide) (fun q12 => ?_) (fun q12 => ?_)
        · have f := (if_neg q12).symm.trans f
          exact T12_law_39 S hr hlo  f I (lv_sub hl [0, 1, 2, 3] rfl)
        · have f := (if_pos q12).symm.trans f
          refine lv_ldc2 (v := (-9223372036854775808)) S.1 S.2.1 S.2.2.2.1 (S.2.2.2.2 _ (List.mem_cons_of_mem _ wT_41_7)) dX12_law_35 ?_
          exact o_lret S hr hlo I f dX12_law_38
theorem M12_law (l : Launch) (D : va_G) (cy : Nat → ClassId) (b : Nat) (A : Nat → Prop) (fl : Bool) {h : PH} {a0 : Nat} {x1 : Int32} {x2 : Int32} {x3 : Int32} {out : Int64 × PH} (f : F12_law h a0 x1 x2 x3 = some out) : Met l yX12_law vX12_law ({ frames := 6, cells := 0, slots := 0, locals := 145 } : Room) (va_Pc [.ref (b + a0), .int x1, .int x2, .int x3] (ph_B D cy b A fl h)) (va_Ql (fun (r : Int64) (u : PH) => (r, u) = out) (ph_B D cy b A fl) A) 0 0 A :=
  o_met (by decide) rfl (Nat.le_of_ble_eq_true rfl) rfl (fun p e s m below meth c S hr hlo hnm ls hl I => T12_law_0 S hr hlo ((gd f).2) I (lv_sub hl [0, 1, 2, 3] rfl))
def vX12_wayAt : List Cond := .code yX12_wayAt cX12_wayAt 1 (some .int) :: TB
theorem cd12_wayAt : Cd yX12_wayAt 1 := ⟨by decide, by decide, by decide +kernel⟩
set_option maxHeartbeats 4000000 in
set_option maxRecDepth 100000 in
theorem T12_wayAt_0 (S : CallFix p m c cX12_wayAt 1 s args vX12_wayAt RX12) (hr : meth.sig.returnType = (some .int)) (hlo : meth.locks = false) {out : Int32 × PH} {h : PH} {x0 : Int32} (f : F12_wayAt_0  h x0 = some out) {H : Heap} {locs : List Loc} (I : ph_I D cy b A fl h s H locs) {ls : Array Slot} (hl : lv_has ls 1 [(0, .int x0)]) : W p l e ({ frames := 0, cells := 0, slots := 0, locals := 0 } : Room) s m args below meth c H locs 0 0 (MQ below (va_Qi (fun (r : Int32) (u : PH) => (r, u) = out) (ph_B D cy b A fl) A) args s 0 0 A) (F0 m 0 ls []) := by
  unfold F12_wayAt_0 at f
  refine lv_iload_n S.1 S.2.1 dX12_wayAt_0 rfl (lv_at hl 0 rfl) ?_
  refine lv_if_ne (tgt := 8) S.1 S.2.1 dX12_wayAt_1 (by decide) (fun q1 => ?_) (fun q1 => ?_)
  · have f := (if_neg q1).symm.trans f
    refine lv_iload_n S.1 S.2.1 dX12_wayAt_8 rfl (lv_at hl 0 rfl) ?_
    refine lv_iconst (v := 1) S.1 S.2.1 dX12_wayAt_9 (by decide) ?_
    refine lv_isub S.1 S.2.1 dX12_wayAt_10 ?_
    exact o_iret S hr hlo I f dX12_wayAt_11
  · have f := (if_pos q1).symm.trans f
    refine lv_iconst (v := 4) S.1 S.2.1 dX12_wayAt_4 (by decide) ?_
    refine lv_goto (tgt := 11) S.1 S.2.1 dX12_wayAt_5 (by decide) ?_
    exact o_iret S hr hlo I f dX12_wayAt_11
theorem M12_wayAt (l : Launch) (D : va_G) (cy : Nat → ClassId) (b : Nat) (A : Nat → Prop) (fl : Bool) {h : PH} {x0 : Int32} {out : Int32 × PH} (f : F12_wayAt h x0 = some out) : Met l yX12_wayAt vX12_wayAt ({ frames := 0, cells := 0, slots := 0, locals := 0 } : Room) (va_Pc [.int x0] (ph_B D cy b A fl h)) (va_Qi (fun (r : Int32) (u : PH) => (r, u) = out) (ph_B D cy b A fl) A) 0 0 A :=
  o_met (by decide) rfl (Nat.le_of_ble_eq_true rfl) rfl (fun p e s m below meth c S hr hlo hnm ls hl I => T12_wayAt_0 S hr hlo (f) I (lv_sub hl [0] rfl))
def vX12_layGame : List Cond := .code yX12_layGame cX12_layGame 10 none :: TB
theorem lf12_layGame_121 : Fl vX12_layGame RX12 121 12 70 := ⟨RX12, TX12, 87, rfl, by decide, (fun w h9 => List.mem_cons_of_mem _ (wC_wsX120 w h9)), (List.mem_cons_of_mem _ wT_11_9)⟩
theorem gX12_layGame_X12_gainOf : GoodIn vX12_layGame (wsV RX12 479 RX12 yX12_gainOf vX12_gainOf) := gV_of wT_50_5 wT_50_6 wT_50_7 wT_1_5 wT_50_8
theorem lf12_layGame_124 : Fl vX12_layGame RX12 124 12 71 := ⟨RX12, TX12, 87, rfl, by decide, (fun w h9 => List.mem_cons_of_mem _ (wC_wsX120 w h9)), (List.mem_cons_of_mem _ wT_11_10)⟩
theorem lf12_layGame_253 : Fl vX12_layGame RX12 253 12 16 := ⟨RX12, TX12, 87, rfl, by decide, (fun w h9 => List.mem_cons_of_mem _ (wC_wsX120 w h9)), (List.mem_cons_of_mem _ wT_12_14)⟩
theorem gX12_layGame_X12_isToCome : GoodIn vX12_layGame (wsV RX12 476 RX12 yX12_isToCome vX12_isToCome) := gV_of wT_48_17 wT_48_18 wT_48_19 wT_1_5 wT_48_20
theorem lf12_layGame_48 : Fl vX12_layGame RX12 48 12 34 := ⟨RX12, TX12, 87, rfl, by decide, (fun w h9 => List.mem_cons_of_mem _ (wC_wsX120 w h9)), (List.mem_cons_of_mem _ wT_10_9)⟩
theorem gX12_layGame_X12_peakAt : GoodIn vX12_layGame (wsV RX12 400 RX12 yX12_peakAt vX12_peakAt) := gV_of wT_34_22 wT_34_23 wT_35_0 wT_1_5 wT_35_1
theorem gX12_layGame_X12_far : GoodIn vX12_layGame (wsV RX12 403 RX12 yX12_far vX12_far) := gV_of wT_36_8 wT_36_9 wT_36_10 wT_1_5 wT_36_11
theorem gX12_layGame_X12_wayAt : GoodIn vX12_layGame (va_wsS RX12 485 yX12_wayAt vX12_wayAt) := gS_of wT_52_16 wT_52_17 wT_1_5 wT_52_18
theorem gX12_layGame_X12_comesTo : GoodIn vX12_layGame (wsV RX12 488 RX12 yX12_comesTo vX12_comesTo) := gV_of wT_52_19 wT_52_20 wT_52_21 wT_1_5 wT_52_22
theorem cd12_layGame : Cd yX12_layGame 2 := ⟨by decide, by decide, by decide +kernel⟩
set_option maxHeartbeats 4000000 in
set_option maxRecDepth 100000 in
theorem T12_layGame_151 (S : CallFix p m c cX12_layGame 10 s args vX12_layGame RX12) (hr : meth.sig.returnType = none) (hlo : meth.locks = false) {out : PH} {k2 : PH → Nat → Int32 → Int32 → Int32 → Option (PH)} (hk2 : ∀ {h : PH} {a0 : Nat} {x1 : Int32} {x2 : Int32} {x3 : Int32}, k2 h a0 x1 x2 x3 = some out → ∀ (H : Heap) (locs : List Loc), ph_I D cy b A fl h s H locs → ∀ (ls : Array Slot), lv_has ls 10 [(0, .ref (b + a0)), (1, .int x1), (2, .int x2), (3, .int x3)] → W p l e ({ frames := 8, cells := 0, slots := 0, locals := 192 } : Room) s m args below meth c H locs 0 0 (MQ below (va_Qv (fun (u : PH) => u = out) (ph_B D cy b A fl) A) args s 0 0 A) (F0 m 2 ls [])) {k78 : PH → Nat → Int32 → Int32 → Int32 → Int32 → Int32 → Int32 → Option (PH)} (hk78 : ∀ {h : PH} {a0 : Nat} {x1 : Int32} {x2 : Int32} {x3 : Int32} {x4 : Int32} {x5 : Int32} {x6 : Int32}, k78 h a0 x1 x2 x3 x4 x5 x6 = some out → ∀ (H : Heap) (locs : List Loc), ph_I D cy b A fl h s H locs → ∀ (ls : Array Slot), lv_has ls 10 [(0, .ref (b + a0)), (1, .int x1), (2, .int x2), (3, .int x3), (4, .int x4), (5, .int x5), (6, .int x6)] → W p l e ({ frames := 8, cells := 0, slots := 0, locals := 192 } : Room) s m args below meth c H locs 0 0 (MQ below (va_Qv (fun (u : PH) => u = out) (ph_B D cy b A fl) A) args s 0 0 A) (F0 m 78 ls [])) {h : PH} {a0 : Nat} {x1 : Int32} {x2 : Int32} {x3 : Int32} {x4 : Int32} {x5 : Int32} {x6 : Int32} (f : F12_layGame_151 k2 k78 h a0 x1 x2 x3 x4 x5 x6 = some out) {H : Heap} {locs : List Loc} (I : ph_I D cy b A fl h s H locs) {ls : Array Slot} (hl : lv_has ls 10 [(0, .ref (b + a0)), (1, .int x1), (2, .int x2), (3, .int x3), (4, .int x4), (5, .int x5), (6, .int x6)]) : W p l e ({ frames := 8, cells := 0, slots := 0, locals := 192 } : Room) s m args below meth c H locs 0 0 (MQ below (va_Qv (fun (u : PH) => u = out) (ph_B D cy b A fl) A) args s 0 0 A) (F0 m 151 ls []) := by
  unfold F12_layGame_151 at f
  refine lv_aload_n S.1 S.2.1 dX12_layGame_151 rfl (lv_at hl 0 rfl) ?_
  obtain ⟨r1, e2, f⟩ := ob f
  refine o_gR S lf12_layGame_121 I e2 dX12_layGame_152 ?_
  refine lv_iload_n S.1 S.2.1 dX12_layGame_155 rfl (lv_at hl 3 rfl) ?_
  refine lv_dup2_11 S.1 S.2.1 dX12_layGame_156 rfl rfl ?_
  obtain ⟨v4, e3, f⟩ := ob f
  refine o_iald S I e3 dX12_layGame_157 ?_
  refine lv_aload_n S.1 S.2.1 dX12_layGame_158 rfl (lv_at hl 0 rfl) ?_
  refine lv_iload_n S.1 S.2.1 dX12_layGame_159 rfl (lv_at hl 1 rfl) ?_
  refine lv_iload S.1 S.2.1 dX12_layGame_160 (lv_at hl 6 rfl) ?_
  refine lv_iload S.1 S.2.1 dX12_layGame_162 (lv_at hl 4 rfl) ?_
  obtain ⟨o5, e6, f⟩ := ob f
  refine o_Vi S (As := [.int x1, .int x6, .int x4]) (rest := [.int v4, .int x3, .ref (b + r1)]) (ci := 12) (M12_gainOf l D cy b A fl e6) gX12_layGame_X12_gainOf rfl rfl rfl cd12_gainOf ⟨Nat.le_of_ble_eq_true rfl, Nat.le_of_ble_eq_true rfl⟩ I (gd e6).1 clX12 rfl rfl hl.1 rfl (Nat.le_of_ble_eq_true rfl) dX12_layGame_164 ⟨Nat.le_of_ble_eq_true rfl, Nat.le_of_ble_eq_true rfl⟩ (fun H locs I => ?_)
  refine lv_iadd S.1 S.2.1 dX12_layGame_167 ?_
  obtain ⟨h8, e7, f⟩ := ob f
  refine o_iast S I e7 dX12_layGame_168 (fun H locs I => ?_)
  refine lv_goto (tgt := 190) S.1 S.2.1 dX12_layGame_169 (by decide) ?_
  refine lv_iinc (v := (x6 + 1)) (lv' := [(6, .int (x6 + 1)), (0, .ref (b + a0)), (1, .int x1), (2, .int x2), (3, .int x3), (4, .int x4), (5, .int x5)]) S.1 S.2.1 dX12_layGame_190 hl (k := 6) rfl (congrArg (fun z => x6 + z) (by decide)) (by decide) rfl (fun ls hl => ?_)
  refine lv_goto (tgt := 78) S.1 S.2.1 dX12_layGame_193 (by decide) ?_
  exact hk78 f _ _ I _ (lv_sub hl [1, 2, 3, 4, 5, 6, 0] rfl)
set_option maxHeartbeats 4000000 in
set_option maxRecDepth 100000 in
theorem T12_layGame_172 (S : CallFix p m c cX12_layGame 10 s args vX12_layGame RX12) (hr : meth.sig.returnType = none) (hlo : meth.locks = false) {out : PH} {k2 : PH → Nat → Int32 → Int32 → Int32 → Option (PH)} (hk2 : ∀ {h : PH} {a0 : Nat} {x1 : Int32} {x2 : Int32} {x3 : Int32}, k2 h a0 x1 x2 x3 = some out → ∀ (H : Heap) (locs : List Loc), ph_I D cy b A fl h s H locs → ∀ (ls : Array Slot), lv_has ls 10 [(0, .ref (b + a0)), (1, .int x1), (2, .int x2), (3, .int x3)] → W p l e ({ frames := 8, cells := 0, slots := 0, locals := 192 } : Room) s m args below meth c H locs 0 0 (MQ below (va_Qv (fun (u : PH) => u = out) (ph_B D cy b A fl) A) args s 0 0 A) (F0 m 2 ls [])) {k78 : PH → Nat → Int32 → Int32 → Int32 → Int32 → Int32 → Int32 → Option (PH)} (hk78 : ∀ {h : PH} {a0 : Nat} {x1 : Int32} {x2 : Int32} {x3 : Int32} {x4 : Int32} {x5 : Int32} {x6 : Int32}, k78 h a0 x1 x2 x3 x4 x5 x6 = some out → ∀ (H : Heap) (locs : List Loc), ph_I D cy b A fl h s H locs → ∀ (ls : Array Slot), lv_has ls 10 [(0, .ref (b + a0)), (1, .int x1), (2, .int x2), (3, .int x3), (4, .int x4), (5, .int x5), (6, .int x6)] → W p l e ({ frames := 8, cells := 0, slots := 0, locals := 192 } : Room) s m args below meth c H locs 0 0 (MQ below (va_Qv (fun (u : PH) => u = out) (ph_B D cy b A fl) A) args s 0 0 A) (F0 m 78 ls [])) {h : PH} {a0 : Nat} {x1 : Int32} {x2 : Int32} {x3 : Int32} {x4 : Int32} {x5 : Int32} {x6 : Int32} (f : F12_layGame_172 k2 k78 h a0 x1 x2 x3 x4 x5 x6 = some out) {H : Heap} {locs : List Loc} (I : ph_I D cy b A fl h s H locs) {ls : Array Slot} (hl : lv_has ls 10 [(0, .ref (b + a0)), (1, .int x1), (2, .int x2), (3, .int x3), (4, .int x4), (5, .int x5), (6, .int x6)]) : W p l e ({ frames := 8, cells := 0, slots := 0, locals := 192 } : Room) s m args below meth c H locs 0 0 (MQ below (va_Qv (fun (u : PH) => u = out) (ph_B D cy b A fl) A) args s 0 0 A) (F0 m 172 ls []) := by
  unfold F12_layGame_172 at f
  refine lv_aload_n S.1 S.2.1 dX12_layGame_172 rfl (lv_at hl 0 rfl) ?_
  obtain ⟨r1, e2, f⟩ := ob f
  refine o_gR S lf12_layGame_124 I e2 dX12_layGame_173 ?_
  refine lv_iload_n S.1 S.2.1 dX12_layGame_176 rfl (lv_at hl 3 rfl) ?_
  refine lv_dup2_11 S.1 S.2.1 dX12_layGame_177 rfl rfl ?_
  obtain ⟨v4, e3, f⟩ := ob f
  refine o_iald S I e3 dX12_layGame_178 ?_
  refine lv_aload_n S.1 S.2.1 dX12_layGame_179 rfl (lv_at hl 0 rfl) ?_
  refine lv_iload_n S.1 S.2.1 dX12_layGame_180 rfl (lv_at hl 2 rfl) ?_
  refine lv_iload S.1 S.2.1 dX12_layGame_181 (lv_at hl 6 rfl) ?_
  refine lv_iload S.1 S.2.1 dX12_layGame_183 (lv_at hl 5 rfl) ?_
  obtain ⟨o5, e6, f⟩ := ob f
  refine o_Vi S (As := [.int x2, .int x6, .int x5]) (rest := [.int v4, .int x3, .ref (b + r1)]) (ci := 12) (M12_gainOf l D cy b A fl e6) gX12_layGame_X12_gainOf rfl rfl rfl cd12_gainOf ⟨Nat.le_of_ble_eq_true rfl, Nat.le_of_ble_eq_true rfl⟩ I (gd e6).1 clX12 rfl rfl hl.1 rfl (Nat.le_of_ble_eq_true rfl) dX12_layGame_185 ⟨Nat.le_of_ble_eq_true rfl, Nat.le_of_ble_eq_true rfl⟩ (fun H locs I => ?_)
  refine lv_iadd S.1 S.2.1 dX12_layGame_188 ?_
  obtain ⟨h8, e7, f⟩ := ob f
  refine o_iast S I e7 dX12_layGame_189 (fun H locs I => ?_)
  refine lv_iinc (v := (x6 + 1)) (lv' := [(6, .int (x6 + 1)), (0, .ref (b + a0)), (1, .int x1), (2, .int x2), (3, .int x3), (4, .int x4), (5, .int x5)]) S.1 S.2.1 dX12_layGame_190 hl (k := 6) rfl (congrArg (fun z => x6 + z) (by decide)) (by decide) rfl (fun ls hl => ?_)
  refine lv_goto (tgt := 78) S.1 S.2.1 dX12_layGame_193 (by decide) ?_
  exact hk78 f _ _ I _ (lv_sub hl [1, 2, 3, 4, 5, 6, 0] rfl)
set_option maxHeartbeats 4000000 in
set_option maxRecDepth 100000 in
theorem T12_layGame_78 (S : CallFix p m c cX12_layGame 10 s args vX12_layGame RX12) (hr : meth.sig.returnType = none) (hlo : meth.locks = false) {out : PH} {k2 : PH → Nat → Int32 → Int32 → Int32 → Option (PH)} (hk2 : ∀ {h : PH} {a0 : Nat} {x1 : Int32} {x2 : Int32} {x3 : Int32}, k2 h a0 x1 x2 x3 = some out → ∀ (H : Heap) (locs : List Loc), ph_I D cy b A fl h s H locs → ∀ (ls : Array Slot), lv_has ls 10 [(0, .ref (b + a0)), (1, .int x1), (2, .int x2), (3, .int x3)] → W p l e ({ frames := 8, cells := 0, slots := 0, locals := 192 } : Room) s m args below meth c H locs 0 0 (MQ below (va_Qv (fun (u : PH) => u = out) (ph_B D cy b A fl) A) args s 0 0 A) (F0 m 2 ls [])) : ∀ (n : Nat) {h : PH} {a0 : Nat} {x1 : Int32} {x2 : Int32} {x3 : Int32} {x4 : Int32} {x5 : Int32} {x6 : Int32} (f : F12_layGame_78 k2 n h a0 x1 x2 x3 x4 x5 x6 = some out) {H : Heap} {locs : List Loc} (I : ph_I D cy b A fl h s H locs) {ls : Array Slot} (hl : lv_has ls 10 [(0, .ref (b + a0)), (1, .int x1), (2, .int x2), (3, .int x3), (4, .int x4), (5, .int x5), (6, .int x6)]), W p l e ({ frames := 8, cells := 0, slots := 0, locals := 192 } : Room) s m args below meth c H locs 0 0 (MQ below (va_Qv (fun (u : PH) => u = out) (ph_B D cy b A fl) A) args s 0 0 A) (F0 m 78 ls []) := by
  intro n
  induction n with
  | zero => intro h a0 x1 x2 x3 x4 x5 x6 f; rw [F12_layGame_78] at f; cases f
  | succ n ih =>
    intro h a0 x1 x2 x3 x4 x5 x6 f H locs I ls hl
    rw [F12_layGame_78] at f
    refine lv_iload S.1 S.2.1 dX12_layGame_78 (lv_at hl 6 rfl) ?_
    refine lv_aload_n S.1 S.2.1 dX12_layGame_80 rfl (lv_at hl 0 rfl) ?_
    obtain ⟨v1, e2, f⟩ := ob f
    refine o_gI S lf12_layGame_253 I e2 dX12_layGame_81 ?_
    refine lv_icmp_ge (tgt := 196) S.1 S.2.1 dX12_layGame_84 (by decide) (fun q3 => ?_) (fun q3 => ?_)
    · have f := (if_pos q3).symm.trans f
      refine lv_iinc (v := (x3 + 1)) (lv' := [(3, .int (x3 + 1)), (0, .ref (b + a0)), (1, .int x1), (2, .int x2), (4, .int x4), (5, .int x5), (6, .int x6)]) S.1 S.2.1 dX12_layGame_196 hl (k := 3) rfl (congrArg (fun z => x3 + z) (by decide)) (by decide) rfl (fun ls hl => ?_)
      refine lv_goto (tgt := 2) S.1 S.2.1 dX12_layGame_199 (by decide) ?_
      exact hk2 f _ _ I _ (lv_sub hl [1, 2, 3, 0] rfl)
    · have f := (if_neg q3).symm.trans f
      refine lv_aload_n S.1 S.2.1 dX12_layGame_87 rfl (lv_at hl 0 rfl) ?_
      refine lv_iload S.1 S.2.1 dX12_layGame_88 (lv_at hl 6 rfl) ?_
      obtain ⟨o4, e5, f⟩ := ob f
      refine o_Vi S (As := [.int x6]) (rest := []) (ci := 12) (M12_isToCome l D cy b A fl e5) gX12_layGame_X12_isToCome rfl rfl rfl cd12_isToCome ⟨Nat.le_of_ble_eq_true rfl, Nat.le_of_ble_eq_true rfl⟩ I (gd e5).1 clX12 rfl rfl hl.1 rfl (Nat.le_of_ble_eq_true rfl) dX12_layGame_90 ⟨Nat.le_of_ble_eq_true rfl, Nat.le_of_ble_eq_true rfl⟩ (fun H locs I => ?_)
      refine lv_if_ne (tgt := 99) S.1 S.2.1 dX12_layGame_93 (by decide) (fun q6 => ?_) (fun q6 => ?_)
      · have f := (if_neg q6).symm.trans f
        refine lv_aload_n S.1 S.2.1 dX12_layGame_99 rfl (lv_at hl 0 rfl) ?_
        refine lv_aload_n S.1 S.2.1 dX12_layGame_100 rfl (lv_at hl 0 rfl) ?_
        obtain ⟨r7, e8, f⟩ := ob f
        refine o_gR S lf12_layGame_48 I e8 dX12_layGame_101 ?_
        refine lv_iload S.1 S.2.1 dX12_layGame_104 (lv_at hl 6 rfl) ?_
        obtain ⟨v10, e9, f⟩ := ob f
        refine o_iald S I e9 dX12_layGame_106 ?_
        obtain ⟨o11, e12, f⟩ := ob f
        refine o_Vi S (As := [.int v10]) (rest := []) (ci := 12) (M12_peakAt l D cy b A fl e12) gX12_layGame_X12_peakAt rfl rfl rfl cd12_peakAt ⟨Nat.le_of_ble_eq_true rfl, Nat.le_of_ble_eq_true rfl⟩ I (gd e12).1 clX12 rfl rfl hl.1 rfl (Nat.le_of_ble_eq_true rfl) dX12_layGame_107 ⟨Nat.le_of_ble_eq_true rfl, Nat.le_of_ble_eq_true rfl⟩ (fun H locs I => ?_)
        refine lv_istore (lv' := [(7, .int o11.1), (0, .ref (b + a0)), (1, .int x1), (2, .int x2), (3, .int x3), (4, .int x4), (5, .int x5), (6, .int x6)]) S.1 S.2.1 dX12_layGame_110 hl (by decide) rfl (fun ls hl => ?_)
        refine lv_aload_n S.1 S.2.1 dX12_layGame_112 rfl (lv_at hl 1 rfl) ?_
        refine lv_iload S.1 S.2.1 dX12_layGame_113 (lv_at hl 5 rfl) ?_
        refine lv_iload S.1 S.2.1 dX12_layGame_115 (lv_at hl 0 rfl) ?_
        obtain ⟨o13, e14, f⟩ := ob f
        refine o_Vi S (As := [.int x4, .int o11.1]) (rest := []) (ci := 12) (M12_far l D cy b A fl e14) gX12_layGame_X12_far rfl rfl rfl cd12_far ⟨Nat.le_of_ble_eq_true rfl, Nat.le_of_ble_eq_true rfl⟩ I (gd e14).1 clX12 rfl rfl hl.1 rfl (Nat.le_of_ble_eq_true rfl) dX12_layGame_117 ⟨Nat.le_of_ble_eq_true rfl, Nat.le_of_ble_eq_true rfl⟩ (fun H locs I => ?_)
        refine lv_istore (lv' := [(8, .int o13.1), (7, .int o11.1), (0, .ref (b + a0)), (1, .int x1), (2, .int x2), (3, .int x3), (4, .int x4), (5, .int x5), (6, .int x6)]) S.1 S.2.1 dX12_layGame_120 hl (by decide) rfl (fun ls hl => ?_)
        refine lv_aload_n S.1 S.2.1 dX12_layGame_122 rfl (lv_at hl 2 rfl) ?_
        refine lv_iload S.1 S.2.1 dX12_layGame_123 (lv_at hl 7 rfl) ?_
        refine lv_iload S.1 S.2.1 dX12_layGame_125 (lv_at hl 1 rfl) ?_
        obtain ⟨o15, e16, f⟩ := ob f
        refine o_Vi S (As := [.int x5, .int o11.1]) (rest := []) (ci := 12) (M12_far l D cy b A fl e16) gX12_layGame_X12_far rfl rfl rfl cd12_far ⟨Nat.le_of_ble_eq_true rfl, Nat.le_of_ble_eq_true rfl⟩ I (gd e16).1 clX12 rfl rfl hl.1 rfl (Nat.le_of_ble_eq_true rfl) dX12_layGame_127 ⟨Nat.le_of_ble_eq_true rfl, Nat.le_of_ble_eq_true rfl⟩ (fun H locs I => ?_)
        refine lv_istore (lv' := [(9, .int o15.1), (8, .int o13.1), (7, .int o11.1), (0, .ref (b + a0)), (1, .int x1), (2, .int x2), (3, .int x3), (4, .int x4), (5, .int x5), (6, .int x6)]) S.1 S.2.1 dX12_layGame_130 hl (by decide) rfl (fun ls hl => ?_)
        refine lv_iload S.1 S.2.1 dX12_layGame_132 (lv_at hl 1 rfl) ?_
        refine lv_iload S.1 S.2.1 dX12_layGame_134 (lv_at hl 0 rfl) ?_
        refine lv_icmp_lt (tgt := 151) S.1 S.2.1 dX12_layGame_136 (by decide) (fun q17 => ?_) (fun q17 => ?_)
        · have f := (if_pos q17).symm.trans f
          exact T12_layGame_151 S hr hlo (fun f _ _ I _ hl => hk2 f _ _ I _ hl) (fun f _ _ I _ hl => ih f I hl) f I (lv_sub hl [3, 4, 5, 6, 7, 8, 9] rfl)
        · have f := (if_neg q17).symm.trans f
          refine lv_iload S.1 S.2.1 dX12_layGame_139 (lv_at hl 1 rfl) ?_
          refine lv_iload S.1 S.2.1 dX12_layGame_141 (lv_at hl 0 rfl) ?_
          refine lv_icmp_ne (tgt := 172) S.1 S.2.1 dX12_layGame_143 (by decide) (fun q18 => ?_) (fun q18 => ?_)
          · have f := (if_neg q18).symm.trans f
            exact T12_layGame_172 S hr hlo (fun f _ _ I _ hl => hk2 f _ _ I _ hl) (fun f _ _ I _ hl => ih f I hl) f I (lv_sub hl [3, 4, 5, 6, 7, 8, 9] rfl)
          · have f := (if_pos q18).symm.trans f
            refine lv_iload_n S.1 S.2.1 dX12_layGame_146 rfl (lv_at hl 4 rfl) ?_
            refine lv_iload_n S.1 S.2.1 dX12_layGame_147 rfl (lv_at hl 5 rfl) ?_
            refine lv_icmp_ge (tgt := 172) S.1 S.2.1 dX12_layGame_148 (by decide) (fun q19 => ?_) (fun q19 => ?_)
            · have f := (if_pos q19).symm.trans f
              exact T12_layGame_172 S hr hlo (fun f _ _ I _ hl => hk2 f _ _ I _ hl) (fun f _ _ I _ hl => ih f I hl) f I (lv_sub hl [3, 4, 5, 6, 7, 8, 9] rfl)
            · have f := (if_neg q19).symm.trans f
              exact T12_layGame_151 S hr hlo (fun f _ _ I _ hl => hk2 f _ _ I _ hl) (fun f _ _ I _ hl => ih f I hl) f I (lv_sub hl [3, 4, 5, 6, 7, 8, 9] rfl)
      · have f := (if_pos q6).symm.trans f
        refine lv_goto (tgt := 190) S.1 S.2.1 dX12_layGame_96 (by decide) ?_
        refine lv_iinc (v := (x6 + 1)) (lv' := [(6, .int (x6 + 1)), (0, .ref (b + a0)), (1, .int x1), (2, .int x2), (3, .int x3), (4, .int x4), (5, .int x5)]) S.1 S.2.1 dX12_layGame_190 hl (k := 6) rfl (congrArg (fun z => x6 + z) (by decide)) (by decide) rfl (fun ls hl => ?_)
        refine lv_goto (tgt := 78) S.1 S.2.1 dX12_layGame_193 (by decide) ?_
        exact ih f I (lv_sub hl [1, 2, 3, 4, 5, 6, 0] rfl)
set_option maxHeartbeats 4000000 in
set_option maxRecDepth 100000 in
theorem T12_layGame_2 (S : CallFix p m c cX12_layGame 10 s args vX12_layGame RX12) (hr : meth.sig.returnType = none) (hlo : meth.locks = false) {out : PH} : ∀ (n : Nat) {h : PH} {a0 : Nat} {x1 : Int32} {x2 : Int32} {x3 : Int32} (f : F12_layGame_2  n h a0 x1 x2 x3 = some out) {H : Heap} {locs : List Loc} (I : ph_I D cy b A fl h s H locs) {ls : Array Slot} (hl : lv_has ls 10 [(0, .ref (b + a0)), (1, .int x1), (2, .int x2), (3, .int x3)]), W p l e ({ frames := 8, cells := 0, slots := 0, locals := 192 } : Room) s m args below meth c H locs 0 0 (MQ below (va_Qv (fun (u : PH) => u = out) (ph_B D cy b A fl) A) args s 0 0 A) (F0 m 2 ls []) := by
  intro n
  induction n with
  | zero => intro h a0 x1 x2 x3 f; rw [F12_layGame_2] at f; cases f
  | succ n ih =>
    intro h a0 x1 x2 x3 f H locs I ls hl
    rw [F12_layGame_2] at f
    refine lv_iload_n S.1 S.2.1 dX12_layGame_2 rfl (lv_at hl 3 rfl) ?_
    refine lv_bipush (v := 25) S.1 S.2.1 dX12_layGame_3 (by decide) ?_
    refine lv_icmp_ge (tgt := 202) S.1 S.2.1 dX12_layGame_5 (by decide) (fun q1 => ?_) (fun q1 => ?_)
    · have f := (if_pos q1).symm.trans f
      exact o_vret S hr hlo I f dX12_layGame_202
    · have f := (if_neg q1).symm.trans f
      refine lv_aload_n S.1 S.2.1 dX12_layGame_8 rfl (lv_at hl 0 rfl) ?_
      refine lv_iload_n S.1 S.2.1 dX12_layGame_9 rfl (lv_at hl 1 rfl) ?_
      refine lv_iload_n S.1 S.2.1 dX12_layGame_10 rfl (lv_at hl 3 rfl) ?_
      refine lv_iconst (v := 5) S.1 S.2.1 dX12_layGame_11 (by decide) ?_
      refine lv_idiv S.1 S.2.1 dX12_layGame_12 (by decide) ?_
      obtain ⟨o2, e3, f⟩ := ob f
      refine o_Si S (As := [.int (x3 / 5)]) (rest := [.int x1, .ref (b + a0)]) (M12_wayAt l D cy b A fl e3) gX12_layGame_X12_wayAt rfl rfl rfl cd12_wayAt ⟨Nat.le_of_ble_eq_true rfl, Nat.le_of_ble_eq_true rfl⟩ I rfl hl.1 rfl (Nat.le_of_ble_eq_true rfl) dX12_layGame_13 ⟨Nat.le_of_ble_eq_true rfl, Nat.le_of_ble_eq_true rfl⟩ (fun H locs I => ?_)
      obtain ⟨o4, e5, f⟩ := ob f
      refine o_Vi S (As := [.int x1, .int o2.1]) (rest := []) (ci := 12) (M12_comesTo l D cy b A fl e5) gX12_layGame_X12_comesTo rfl rfl rfl cd12_comesTo ⟨Nat.le_of_ble_eq_true rfl, Nat.le_of_ble_eq_true rfl⟩ I (gd e5).1 clX12 rfl rfl hl.1 rfl (Nat.le_of_ble_eq_true rfl) dX12_layGame_16 ⟨Nat.le_of_ble_eq_true rfl, Nat.le_of_ble_eq_true rfl⟩ (fun H locs I => ?_)
      refine lv_istore (lv' := [(4, .int o4.1), (0, .ref (b + a0)), (1, .int x1), (2, .int x2), (3, .int x3)]) S.1 S.2.1 dX12_layGame_19 hl (by decide) rfl (fun ls hl => ?_)
      refine lv_aload_n S.1 S.2.1 dX12_layGame_21 rfl (lv_at hl 1 rfl) ?_
      refine lv_iload_n S.1 S.2.1 dX12_layGame_22 rfl (lv_at hl 3 rfl) ?_
      refine lv_iload_n S.1 S.2.1 dX12_layGame_23 rfl (lv_at hl 4 rfl) ?_
      refine lv_iconst (v := 5) S.1 S.2.1 dX12_layGame_24 (by decide) ?_
      refine lv_irem S.1 S.2.1 dX12_layGame_25 (by decide) ?_
      obtain ⟨o6, e7, f⟩ := ob f
      refine o_Si S (As := [.int (x3 - x3 / 5 * 5)]) (rest := [.int x2, .ref (b + a0)]) (M12_wayAt l D cy b A fl e7) gX12_layGame_X12_wayAt rfl rfl rfl cd12_wayAt ⟨Nat.le_of_ble_eq_true rfl, Nat.le_of_ble_eq_true rfl⟩ I rfl hl.1 rfl (Nat.le_of_ble_eq_true rfl) dX12_layGame_26 ⟨Nat.le_of_ble_eq_true rfl, Nat.le_of_ble_eq_true rfl⟩ (fun H locs I => ?_)
      obtain ⟨o8, e9, f⟩ := ob f
      refine o_Vi S (As := [.int x2, .int o6.1]) (rest := []) (ci := 12) (M12_comesTo l D cy b A fl e9) gX12_layGame_X12_comesTo rfl rfl rfl cd12_comesTo ⟨Nat.le_of_ble_eq_true rfl, Nat.le_of_ble_eq_true rfl⟩ I (gd e9).1 clX12 rfl rfl hl.1 rfl (Nat.le_of_ble_eq_true rfl) dX12_layGame_29 ⟨Nat.le_of_ble_eq_true rfl, Nat.le_of_ble_eq_true rfl⟩ (fun H locs I => ?_)
      refine lv_istore (lv' := [(5, .int o8.1), (4, .int o4.1), (0, .ref (b + a0)), (1, .int x1), (2, .int x2), (3, .int x3)]) S.1 S.2.1 dX12_layGame_32 hl (by decide) rfl (fun ls hl => ?_)
      refine lv_aload_n S.1 S.2.1 dX12_layGame_34 rfl (lv_at hl 2 rfl) ?_
      obtain ⟨r10, e11, f⟩ := ob f
      refine o_gR S lf12_layGame_121 I e11 dX12_layGame_35 ?_
      refine lv_iload_n S.1 S.2.1 dX12_layGame_38 rfl (lv_at hl 5 rfl) ?_
      refine lv_iconst (v := (-1)) S.1 S.2.1 dX12_layGame_39 (by decide) ?_
      obtain ⟨h13, e12, f⟩ := ob f
      refine o_iast S I e12 dX12_layGame_40 (fun H locs I => ?_)
      refine lv_aload_n S.1 S.2.1 dX12_layGame_41 rfl (lv_at hl 2 rfl) ?_
      obtain ⟨r14, e15, f⟩ := ob f
      refine o_gR S lf12_layGame_124 I e15 dX12_layGame_42 ?_
      refine lv_iload_n S.1 S.2.1 dX12_layGame_45 rfl (lv_at hl 5 rfl) ?_
      refine lv_iconst (v := (-1)) S.1 S.2.1 dX12_layGame_46 (by decide) ?_
      obtain ⟨h17, e16, f⟩ := ob f
      refine o_iast S I e16 dX12_layGame_47 (fun H locs I => ?_)
      refine lv_iload S.1 S.2.1 dX12_layGame_48 (lv_at hl 1 rfl) ?_
      refine lv_if_lt (tgt := 196) S.1 S.2.1 dX12_layGame_50 (by decide) (fun q18 => ?_) (fun q18 => ?_)
      · have f := (if_pos q18).symm.trans f
        refine lv_iinc (v := (x3 + 1)) (lv' := [(3, .int (x3 + 1)), (5, .int o8.1), (4, .int o4.1), (0, .ref (b + a0)), (1, .int x1), (2, .int x2)]) S.1 S.2.1 dX12_layGame_196 hl (k := 5) rfl (congrArg (fun z => x3 + z) (by decide)) (by decide) rfl (fun ls hl => ?_)
        refine lv_goto (tgt := 2) S.1 S.2.1 dX12_layGame_199 (by decide) ?_
        exact ih f I (lv_sub hl [3, 4, 5, 0] rfl)
      · have f := (if_neg q18).symm.trans f
        refine lv_iload S.1 S.2.1 dX12_layGame_53 (lv_at hl 0 rfl) ?_
        refine lv_if_ge (tgt := 61) S.1 S.2.1 dX12_layGame_55 (by decide) (fun q19 => ?_) (fun q19 => ?_)
        · have f := (if_pos q19).symm.trans f
          refine lv_aload_n S.1 S.2.1 dX12_layGame_61 rfl (lv_at hl 2 rfl) ?_
          obtain ⟨r20, e21, f⟩ := ob f
          refine o_gR S lf12_layGame_121 I e21 dX12_layGame_62 ?_
          refine lv_iload_n S.1 S.2.1 dX12_layGame_65 rfl (lv_at hl 5 rfl) ?_
          refine lv_iconst (v := 0) S.1 S.2.1 dX12_layGame_66 (by decide) ?_
          obtain ⟨h23, e22, f⟩ := ob f
          refine o_iast S I e22 dX12_layGame_67 (fun H locs I => ?_)
          refine lv_aload_n S.1 S.2.1 dX12_layGame_68 rfl (lv_at hl 2 rfl) ?_
          obtain ⟨r24, e25, f⟩ := ob f
          refine o_gR S lf12_layGame_124 I e25 dX12_layGame_69 ?_
          refine lv_iload_n S.1 S.2.1 dX12_layGame_72 rfl (lv_at hl 5 rfl) ?_
          refine lv_iconst (v := 0) S.1 S.2.1 dX12_layGame_73 (by decide) ?_
          obtain ⟨h27, e26, f⟩ := ob f
          refine o_iast S I e26 dX12_layGame_74 (fun H locs I => ?_)
          refine lv_iconst (v := 0) S.1 S.2.1 dX12_layGame_75 (by decide) ?_
          refine lv_istore (lv' := [(6, .int 0), (5, .int o8.1), (4, .int o4.1), (0, .ref (b + a0)), (1, .int x1), (2, .int x2), (3, .int x3)]) S.1 S.2.1 dX12_layGame_76 hl (by decide) rfl (fun ls hl => ?_)
          exact T12_layGame_78 S hr hlo (fun f _ _ I _ hl => ih f I hl) 1024 f I (lv_sub hl [3, 4, 5, 6, 2, 1, 0] rfl)
        · have f := (if_neg q19).symm.trans f
          refine lv_goto (tgt := 196) S.1 S.2.1 dX12_layGame_58 (by decide) ?_
          refine lv_iinc (v := (x3 + 1)) (lv' := [(3, .int (x3 + 1)), (5, .int o8.1), (4, .int o4.1), (0, .ref (b + a0)), (1, .int x1), (2, .int x2)]) S.1 S.2.1 dX12_layGame_196 hl (k := 5) rfl (congrArg (fun z => x3 + z) (by decide)) (by decide) rfl (fun ls hl => ?_)
          refine lv_goto (tgt := 2) S.1 S.2.1 dX12_layGame_199 (by decide) ?_
          exact ih f I (lv_sub hl [3, 4, 5, 0] rfl)
set_option maxHeartbeats 4000000 in
set_option maxRecDepth 100000 in
theorem T12_layGame_0 (S : CallFix p m c cX12_layGame 10 s args vX12_layGame RX12) (hr : meth.sig.returnType = none) (hlo : meth.locks = false) {out : PH} {h : PH} {a0 : Nat} {x1 : Int32} {x2 : Int32} (f : F12_layGame_0  h a0 x1 x2 = some out) {H : Heap} {locs : List Loc} (I : ph_I D cy b A fl h s H locs) {ls : Array Slot} (hl : lv_has ls 10 [(0, .ref (b + a0)), (1, .int x1), (2, .int x2)]) : W p l e ({ frames := 8, cells := 0, slots := 0, locals := 192 } : Room) s m args below meth c H locs 0 0 (MQ below (va_Qv (fun (u : PH) => u = out) (ph_B D cy b A fl) A) args s 0 0 A) (F0 m 0 ls []) := by
  unfold F12_layGame_0 at f
  refine lv_iconst (v := 0) S.1 S.2.1 dX12_layGame_0 (by decide) ?_
  refine lv_istore_n (lv' := [(3, .int 0), (0, .ref (b + a0)), (1, .int x1), (2, .int x2)]) S.1 S.2.1 dX12_layGame_1 rfl hl (by decide) rfl (fun ls hl => ?_)
  exact T12_layGame_2 S hr hlo  1024 f I (lv_sub hl [1, 2, 3, 0] rfl)
theorem M12_layGame (l : Launch) (D : va_G) (cy : Nat → ClassId) (b : Nat) (A : Nat → Prop) (fl : Bool) {h : PH} {a0 : Nat} {x1 : Int32} {x2 : Int32} {out : PH} (f : F12_layGame h a0 x1 x2 = some out) : Met l yX12_layGame vX12_layGame ({ frames := 8, cells := 0, slots := 0, locals := 192 } : Room) (va_Pc [.ref (b + a0), .int x1, .int x2] (ph_B D cy b A fl h)) (va_Qv (fun (u : PH) => u = out) (ph_B D cy b A fl) A) 0 0 A :=
  o_met (by decide) rfl (Nat.le_of_ble_eq_true rfl) rfl (fun p e s m below meth c S hr hlo hnm ls hl I => T12_layGame_0 S hr hlo ((gd f).2) I (lv_sub hl [0, 1, 2] rfl))
def vX12_layPlan : List Cond := .code yX12_layPlan cX12_layPlan 6 none :: TB
theorem lf12_layPlan_130 : Fl vX12_layPlan RX12 130 12 73 := ⟨RX12, TX12, 87, rfl, by decide, (fun w h9 => List.mem_cons_of_mem _ (wC_wsX120 w h9)), (List.mem_cons_of_mem _ wT_11_12)⟩
theorem lf12_layPlan_88 : Fl vX12_layPlan RX12 88 12 55 := ⟨RX12, TX12, 87, rfl, by decide, (fun w h9 => List.mem_cons_of_mem _ (wC_wsX120 w h9)), (List.mem_cons_of_mem _ wT_10_22)⟩
theorem gX12_layPlan_X12_gainOf : GoodIn vX12_layPlan (wsV RX12 479 RX12 yX12_gainOf vX12_gainOf) := gV_of wT_50_5 wT_50_6 wT_50_7 wT_1_5 wT_50_8
theorem lf12_layPlan_127 : Fl vX12_layPlan RX12 127 12 72 := ⟨RX12, TX12, 87, rfl, by decide, (fun w h9 => List.mem_cons_of_mem _ (wC_wsX120 w h9)), (List.mem_cons_of_mem _ wT_11_11)⟩
theorem lf12_layPlan_253 : Fl vX12_layPlan RX12 253 12 16 := ⟨RX12, TX12, 87, rfl, by decide, (fun w h9 => List.mem_cons_of_mem _ (wC_wsX120 w h9)), (List.mem_cons_of_mem _ wT_12_14)⟩
theorem lf12_layPlan_48 : Fl vX12_layPlan RX12 48 12 34 := ⟨RX12, TX12, 87, rfl, by decide, (fun w h9 => List.mem_cons_of_mem _ (wC_wsX120 w h9)), (List.mem_cons_of_mem _ wT_10_9)⟩
theorem gX12_layPlan_X12_awayOf : GoodIn vX12_layPlan (wsV RX12 450 RX12 yX12_awayOf vX12_awayOf) := gV_of wT_47_23 wT_48_0 wT_48_1 wT_1_5 wT_48_2
theorem cd12_layPlan : Cd yX12_layPlan 1 := ⟨by decide, by decide, by decide +kernel⟩
set_option maxHeartbeats 4000000 in
set_option maxRecDepth 100000 in
theorem T12_layPlan_124 (S : CallFix p m c cX12_layPlan 6 s args vX12_layPlan RX12) (hr : meth.sig.returnType = none) (hlo : meth.locks = false) {out : PH} {k17 : PH → Nat → Int32 → Int32 → Option (PH)} (hk17 : ∀ {h : PH} {a0 : Nat} {x1 : Int32} {x2 : Int32}, k17 h a0 x1 x2 = some out → ∀ (H : Heap) (locs : List Loc), ph_I D cy b A fl h s H locs → ∀ (ls : Array Slot), lv_has ls 6 [(0, .ref (b + a0)), (1, .int x1), (2, .int x2)] → W p l e ({ frames := 8, cells := 0, slots := 0, locals := 192 } : Room) s m args below meth c H locs 0 0 (MQ below (va_Qv (fun (u : PH) => u = out) (ph_B D cy b A fl) A) args s 0 0 A) (F0 m 17 ls [])) {h : PH} {a0 : Nat} {x1 : Int32} {x2 : Int32} {s0 : Int32} {s1 : Int32} {u2 : Nat} (f : F12_layPlan_124 k17 h a0 x1 x2 s0 s1 u2 = some out) {H : Heap} {locs : List Loc} (I : ph_I D cy b A fl h s H locs) {ls : Array Slot} (hl : lv_has ls 6 [(0, .ref (b + a0)), (1, .int x1), (2, .int x2)]) : W p l e ({ frames := 8, cells := 0, slots := 0, locals := 192 } : Room) s m args below meth c H locs 0 0 (MQ below (va_Qv (fun (u : PH) => u = out) (ph_B D cy b A fl) A) args s 0 0 A) (F0 m 124 ls [.int s0, .int s1, .ref (b + u2)]) := by
  unfold F12_layPlan_124 at f
  obtain ⟨h2, e1, f⟩ := ob f
  refine o_iast S I e1 dX12_layPlan_124 (fun H locs I => ?_)
  refine lv_iinc (v := (x2 + (-1))) (lv' := [(2, .int (x2 + (-1))), (0, .ref (b + a0)), (1, .int x1)]) S.1 S.2.1 dX12_layPlan_125 hl (k := 2) rfl (congrArg (fun z => x2 + z) (by decide)) (by decide) rfl (fun ls hl => ?_)
  refine lv_goto (tgt := 17) S.1 S.2.1 dX12_layPlan_128 (by decide) ?_
  exact hk17 f _ _ I _ (lv_sub hl [1, 2, 0] rfl)
set_option maxHeartbeats 4000000 in
set_option maxRecDepth 100000 in
theorem T12_layPlan_65 (S : CallFix p m c cX12_layPlan 6 s args vX12_layPlan RX12) (hr : meth.sig.returnType = none) (hlo : meth.locks = false) {out : PH} {k17 : PH → Nat → Int32 → Int32 → Option (PH)} (hk17 : ∀ {h : PH} {a0 : Nat} {x1 : Int32} {x2 : Int32}, k17 h a0 x1 x2 = some out → ∀ (H : Heap) (locs : List Loc), ph_I D cy b A fl h s H locs → ∀ (ls : Array Slot), lv_has ls 6 [(0, .ref (b + a0)), (1, .int x1), (2, .int x2)] → W p l e ({ frames := 8, cells := 0, slots := 0, locals := 192 } : Room) s m args below meth c H locs 0 0 (MQ below (va_Qv (fun (u : PH) => u = out) (ph_B D cy b A fl) A) args s 0 0 A) (F0 m 17 ls [])) {h : PH} {a0 : Nat} {x1 : Int32} {x2 : Int32} {x3 : Int32} (f : F12_layPlan_65 k17 h a0 x1 x2 x3 = some out) {H : Heap} {locs : List Loc} (I : ph_I D cy b A fl h s H locs) {ls : Array Slot} (hl : lv_has ls 6 [(0, .ref (b + a0)), (1, .int x1), (2, .int x2), (3, .int x3)]) : W p l e ({ frames := 8, cells := 0, slots := 0, locals := 192 } : Room) s m args below meth c H locs 0 0 (MQ below (va_Qv (fun (u : PH) => u = out) (ph_B D cy b A fl) A) args s 0 0 A) (F0 m 65 ls []) := by
  unfold F12_layPlan_65 at f
  refine lv_aload_n S.1 S.2.1 dX12_layPlan_65 rfl (lv_at hl 0 rfl) ?_
  obtain ⟨r1, e2, f⟩ := ob f
  refine o_gR S lf12_layPlan_130 I e2 dX12_layPlan_66 ?_
  refine lv_iload_n S.1 S.2.1 dX12_layPlan_69 rfl (lv_at hl 2 rfl) ?_
  refine lv_iload_n S.1 S.2.1 dX12_layPlan_70 rfl (lv_at hl 3 rfl) ?_
  obtain ⟨h4, e3, f⟩ := ob f
  refine o_iast S I e3 dX12_layPlan_71 (fun H locs I => ?_)
  refine lv_aload_n S.1 S.2.1 dX12_layPlan_72 rfl (lv_at hl 0 rfl) ?_
  refine lv_iload_n S.1 S.2.1 dX12_layPlan_73 rfl (lv_at hl 1 rfl) ?_
  refine lv_iload_n S.1 S.2.1 dX12_layPlan_74 rfl (lv_at hl 2 rfl) ?_
  refine lv_aload_n S.1 S.2.1 dX12_layPlan_75 rfl (lv_at hl 0 rfl) ?_
  obtain ⟨r5, e6, f⟩ := ob f
  refine o_gR S lf12_layPlan_88 I e6 dX12_layPlan_76 ?_
  refine lv_iload_n S.1 S.2.1 dX12_layPlan_79 rfl (lv_at hl 1 rfl) ?_
  obtain ⟨v8, e7, f⟩ := ob f
  refine o_iald S I e7 dX12_layPlan_80 ?_
  obtain ⟨o9, e10, f⟩ := ob f
  refine o_Vi S (As := [.int x1, .int x2, .int v8]) (rest := []) (ci := 12) (M12_gainOf l D cy b A fl e10) gX12_layPlan_X12_gainOf rfl rfl rfl cd12_gainOf ⟨Nat.le_of_ble_eq_true rfl, Nat.le_of_ble_eq_true rfl⟩ I (gd e10).1 clX12 rfl rfl hl.1 rfl (Nat.le_of_ble_eq_true rfl) dX12_layPlan_81 ⟨Nat.le_of_ble_eq_true rfl, Nat.le_of_ble_eq_true rfl⟩ (fun H locs I => ?_)
  refine lv_aload_n S.1 S.2.1 dX12_layPlan_84 rfl (lv_at hl 0 rfl) ?_
  obtain ⟨r11, e12, f⟩ := ob f
  refine o_gR S lf12_layPlan_127 I e12 dX12_layPlan_85 ?_
  refine lv_iload_n S.1 S.2.1 dX12_layPlan_88 rfl (lv_at hl 3 rfl) ?_
  obtain ⟨v14, e13, f⟩ := ob f
  refine o_iald S I e13 dX12_layPlan_89 ?_
  refine lv_iadd S.1 S.2.1 dX12_layPlan_90 ?_
  refine lv_istore (lv' := [(5, .int (o9.1 + v14)), (0, .ref (b + a0)), (1, .int x1), (2, .int x2), (3, .int x3)]) S.1 S.2.1 dX12_layPlan_91 hl (by decide) rfl (fun ls hl => ?_)
  refine lv_aload_n S.1 S.2.1 dX12_layPlan_93 rfl (lv_at hl 1 rfl) ?_
  obtain ⟨r15, e16, f⟩ := ob f
  refine o_gR S lf12_layPlan_127 I e16 dX12_layPlan_94 ?_
  refine lv_iload_n S.1 S.2.1 dX12_layPlan_97 rfl (lv_at hl 3 rfl) ?_
  refine lv_iload S.1 S.2.1 dX12_layPlan_98 (lv_at hl 0 rfl) ?_
  refine lv_aload_n S.1 S.2.1 dX12_layPlan_100 rfl (lv_at hl 1 rfl) ?_
  obtain ⟨r17, e18, f⟩ := ob f
  refine o_gR S lf12_layPlan_127 I e18 dX12_layPlan_101 ?_
  refine lv_iload_n S.1 S.2.1 dX12_layPlan_104 rfl (lv_at hl 3 rfl) ?_
  refine lv_iconst (v := 1) S.1 S.2.1 dX12_layPlan_105 (by decide) ?_
  refine lv_iadd S.1 S.2.1 dX12_layPlan_106 ?_
  obtain ⟨v20, e19, f⟩ := ob f
  refine o_iald S I e19 dX12_layPlan_107 ?_
  refine lv_icmp_lt (tgt := 116) S.1 S.2.1 dX12_layPlan_108 (by decide) (fun q21 => ?_) (fun q21 => ?_)
  · have f := (if_pos q21).symm.trans f
    refine lv_aload_n S.1 S.2.1 dX12_layPlan_116 rfl (lv_at hl 1 rfl) ?_
    obtain ⟨r22, e23, f⟩ := ob f
    refine o_gR S lf12_layPlan_127 I e23 dX12_layPlan_117 ?_
    refine lv_iload_n S.1 S.2.1 dX12_layPlan_120 rfl (lv_at hl 3 rfl) ?_
    refine lv_iconst (v := 1) S.1 S.2.1 dX12_layPlan_121 (by decide) ?_
    refine lv_iadd S.1 S.2.1 dX12_layPlan_122 ?_
    obtain ⟨v25, e24, f⟩ := ob f
    refine o_iald S I e24 dX12_layPlan_123 ?_
    exact T12_layPlan_124 S hr hlo (fun f _ _ I _ hl => hk17 f _ _ I _ hl) f I (lv_sub hl [1, 2, 3] rfl)
  · have f := (if_neg q21).symm.trans f
    refine lv_iload S.1 S.2.1 dX12_layPlan_111 (lv_at hl 0 rfl) ?_
    refine lv_goto (tgt := 124) S.1 S.2.1 dX12_layPlan_113 (by decide) ?_
    exact T12_layPlan_124 S hr hlo (fun f _ _ I _ hl => hk17 f _ _ I _ hl) f I (lv_sub hl [1, 2, 3] rfl)
set_option maxHeartbeats 4000000 in
set_option maxRecDepth 100000 in
theorem T12_layPlan_33 (S : CallFix p m c cX12_layPlan 6 s args vX12_layPlan RX12) (hr : meth.sig.returnType = none) (hlo : meth.locks = false) {out : PH} {k17 : PH → Nat → Int32 → Int32 → Option (PH)} (hk17 : ∀ {h : PH} {a0 : Nat} {x1 : Int32} {x2 : Int32}, k17 h a0 x1 x2 = some out → ∀ (H : Heap) (locs : List Loc), ph_I D cy b A fl h s H locs → ∀ (ls : Array Slot), lv_has ls 6 [(0, .ref (b + a0)), (1, .int x1), (2, .int x2)] → W p l e ({ frames := 8, cells := 0, slots := 0, locals := 192 } : Room) s m args below meth c H locs 0 0 (MQ below (va_Qv (fun (u : PH) => u = out) (ph_B D cy b A fl) A) args s 0 0 A) (F0 m 17 ls [])) : ∀ (n : Nat) {h : PH} {a0 : Nat} {x1 : Int32} {x2 : Int32} {x3 : Int32} {x4 : Int32} (f : F12_layPlan_33 k17 n h a0 x1 x2 x3 x4 = some out) {H : Heap} {locs : List Loc} (I : ph_I D cy b A fl h s H locs) {ls : Array Slot} (hl : lv_has ls 6 [(0, .ref (b + a0)), (1, .int x1), (2, .int x2), (3, .int x3), (4, .int x4)]), W p l e ({ frames := 8, cells := 0, slots := 0, locals := 192 } : Room) s m args below meth c H locs 0 0 (MQ below (va_Qv (fun (u : PH) => u = out) (ph_B D cy b A fl) A) args s 0 0 A) (F0 m 33 ls []) := by
  intro n
  induction n with
  | zero => intro h a0 x1 x2 x3 x4 f; rw [F12_layPlan_33] at f; cases f
  | succ n ih =>
    intro h a0 x1 x2 x3 x4 f H locs I ls hl
    rw [F12_layPlan_33] at f
    refine lv_iload_n S.1 S.2.1 dX12_layPlan_33 rfl (lv_at hl 3 rfl) ?_
    refine lv_aload_n S.1 S.2.1 dX12_layPlan_34 rfl (lv_at hl 0 rfl) ?_
    obtain ⟨v1, e2, f⟩ := ob f
    refine o_gI S lf12_layPlan_253 I e2 dX12_layPlan_35 ?_
    refine lv_icmp_ge (tgt := 65) S.1 S.2.1 dX12_layPlan_38 (by decide) (fun q3 => ?_) (fun q3 => ?_)
    · have f := (if_pos q3).symm.trans f
      exact T12_layPlan_65 S hr hlo (fun f _ _ I _ hl => hk17 f _ _ I _ hl) f I (lv_sub hl [0, 1, 2, 3] rfl)
    · have f := (if_neg q3).symm.trans f
      refine lv_aload_n S.1 S.2.1 dX12_layPlan_41 rfl (lv_at hl 0 rfl) ?_
      obtain ⟨r4, e5, f⟩ := ob f
      refine o_gR S lf12_layPlan_48 I e5 dX12_layPlan_42 ?_
      refine lv_iload_n S.1 S.2.1 dX12_layPlan_45 rfl (lv_at hl 3 rfl) ?_
      obtain ⟨v7, e6, f⟩ := ob f
      refine o_iald S I e6 dX12_layPlan_46 ?_
      refine lv_aload_n S.1 S.2.1 dX12_layPlan_47 rfl (lv_at hl 0 rfl) ?_
      obtain ⟨r8, e9, f⟩ := ob f
      refine o_gR S lf12_layPlan_48 I e9 dX12_layPlan_48 ?_
      refine lv_iload_n S.1 S.2.1 dX12_layPlan_51 rfl (lv_at hl 2 rfl) ?_
      obtain ⟨v11, e10, f⟩ := ob f
      refine o_iald S I e10 dX12_layPlan_52 ?_
      refine lv_iload S.1 S.2.1 dX12_layPlan_53 (lv_at hl 4 rfl) ?_
      refine lv_iadd S.1 S.2.1 dX12_layPlan_55 ?_
      refine lv_icmp_ge (tgt := 65) S.1 S.2.1 dX12_layPlan_56 (by decide) (fun q12 => ?_) (fun q12 => ?_)
      · have f := (if_pos q12).symm.trans f
        exact T12_layPlan_65 S hr hlo (fun f _ _ I _ hl => hk17 f _ _ I _ hl) f I (lv_sub hl [0, 1, 2, 3] rfl)
      · have f := (if_neg q12).symm.trans f
        refine lv_iinc (v := (x3 + 1)) (lv' := [(3, .int (x3 + 1)), (0, .ref (b + a0)), (1, .int x1), (2, .int x2), (4, .int x4)]) S.1 S.2.1 dX12_layPlan_59 hl (k := 3) rfl (congrArg (fun z => x3 + z) (by decide)) (by decide) rfl (fun ls hl => ?_)
        refine lv_goto (tgt := 33) S.1 S.2.1 dX12_layPlan_62 (by decide) ?_
        exact ih f I (lv_sub hl [1, 2, 3, 0, 4] rfl)
set_option maxHeartbeats 4000000 in
set_option maxRecDepth 100000 in
theorem T12_layPlan_17 (S : CallFix p m c cX12_layPlan 6 s args vX12_layPlan RX12) (hr : meth.sig.returnType = none) (hlo : meth.locks = false) {out : PH} : ∀ (n : Nat) {h : PH} {a0 : Nat} {x1 : Int32} {x2 : Int32} (f : F12_layPlan_17  n h a0 x1 x2 = some out) {H : Heap} {locs : List Loc} (I : ph_I D cy b A fl h s H locs) {ls : Array Slot} (hl : lv_has ls 6 [(0, .ref (b + a0)), (1, .int x1), (2, .int x2)]), W p l e ({ frames := 8, cells := 0, slots := 0, locals := 192 } : Room) s m args below meth c H locs 0 0 (MQ below (va_Qv (fun (u : PH) => u = out) (ph_B D cy b A fl) A) args s 0 0 A) (F0 m 17 ls []) := by
  intro n
  induction n with
  | zero => intro h a0 x1 x2 f; rw [F12_layPlan_17] at f; cases f
  | succ n ih =>
    intro h a0 x1 x2 f H locs I ls hl
    rw [F12_layPlan_17] at f
    refine lv_iload_n S.1 S.2.1 dX12_layPlan_17 rfl (lv_at hl 2 rfl) ?_
    refine lv_if_lt (tgt := 131) S.1 S.2.1 dX12_layPlan_18 (by decide) (fun q1 => ?_) (fun q1 => ?_)
    · have f := (if_pos q1).symm.trans f
      exact o_vret S hr hlo I f dX12_layPlan_131
    · have f := (if_neg q1).symm.trans f
      refine lv_iload_n S.1 S.2.1 dX12_layPlan_21 rfl (lv_at hl 2 rfl) ?_
      refine lv_iconst (v := 1) S.1 S.2.1 dX12_layPlan_22 (by decide) ?_
      refine lv_iadd S.1 S.2.1 dX12_layPlan_23 ?_
      refine lv_istore_n (lv' := [(3, .int (x2 + 1)), (0, .ref (b + a0)), (1, .int x1), (2, .int x2)]) S.1 S.2.1 dX12_layPlan_24 rfl hl (by decide) rfl (fun ls hl => ?_)
      refine lv_aload_n S.1 S.2.1 dX12_layPlan_25 rfl (lv_at hl 1 rfl) ?_
      refine lv_iload_n S.1 S.2.1 dX12_layPlan_26 rfl (lv_at hl 2 rfl) ?_
      refine lv_iload_n S.1 S.2.1 dX12_layPlan_27 rfl (lv_at hl 3 rfl) ?_
      obtain ⟨o2, e3, f⟩ := ob f
      refine o_Vi S (As := [.int x1, .int x2]) (rest := []) (ci := 12) (M12_awayOf l D cy b A fl e3) gX12_layPlan_X12_awayOf rfl rfl rfl cd12_awayOf ⟨Nat.le_of_ble_eq_true rfl, Nat.le_of_ble_eq_true rfl⟩ I (gd e3).1 clX12 rfl rfl hl.1 rfl (Nat.le_of_ble_eq_true rfl) dX12_layPlan_28 ⟨Nat.le_of_ble_eq_true rfl, Nat.le_of_ble_eq_true rfl⟩ (fun H locs I => ?_)
      refine lv_istore (lv' := [(4, .int o2.1), (3, .int (x2 + 1)), (0, .ref (b + a0)), (1, .int x1), (2, .int x2)]) S.1 S.2.1 dX12_layPlan_31 hl (by decide) rfl (fun ls hl => ?_)
      exact T12_layPlan_33 S hr hlo (fun f _ _ I _ hl => ih f I hl) 1024 f I (lv_sub hl [2, 3, 4, 1, 0] rfl)
set_option maxHeartbeats 4000000 in
set_option maxRecDepth 100000 in
theorem T12_layPlan_0 (S : CallFix p m c cX12_layPlan 6 s args vX12_layPlan RX12) (hr : meth.sig.returnType = none) (hlo : meth.locks = false) {out : PH} {h : PH} {a0 : Nat} {x1 : Int32} (f : F12_layPlan_0  h a0 x1 = some out) {H : Heap} {locs : List Loc} (I : ph_I D cy b A fl h s H locs) {ls : Array Slot} (hl : lv_has ls 6 [(0, .ref (b + a0)), (1, .int x1)]) : W p l e ({ frames := 8, cells := 0, slots := 0, locals := 192 } : Room) s m args below meth c H locs 0 0 (MQ below (va_Qv (fun (u : PH) => u = out) (ph_B D cy b A fl) A) args s 0 0 A) (F0 m 0 ls []) := by
  unfold F12_layPlan_0 at f
  refine lv_aload_n S.1 S.2.1 dX12_layPlan_0 rfl (lv_at hl 0 rfl) ?_
  obtain ⟨r1, e2, f⟩ := ob f
  refine o_gR S lf12_layPlan_127 I e2 dX12_layPlan_1 ?_
  refine lv_aload_n S.1 S.2.1 dX12_layPlan_4 rfl (lv_at hl 0 rfl) ?_
  obtain ⟨v3, e4, f⟩ := ob f
  refine o_gI S lf12_layPlan_253 I e4 dX12_layPlan_5 ?_
  refine lv_iconst (v := 0) S.1 S.2.1 dX12_layPlan_8 (by decide) ?_
  obtain ⟨h6, e5, f⟩ := ob f
  refine o_iast S I e5 dX12_layPlan_9 (fun H locs I => ?_)
  refine lv_aload_n S.1 S.2.1 dX12_layPlan_10 rfl (lv_at hl 0 rfl) ?_
  obtain ⟨v7, e8, f⟩ := ob f
  refine o_gI S lf12_layPlan_253 I e8 dX12_layPlan_11 ?_
  refine lv_iconst (v := 1) S.1 S.2.1 dX12_layPlan_14 (by decide) ?_
  refine lv_isub S.1 S.2.1 dX12_layPlan_15 ?_
  refine lv_istore_n (lv' := [(2, .int (v7 - 1)), (0, .ref (b + a0)), (1, .int x1)]) S.1 S.2.1 dX12_layPlan_16 rfl hl (by decide) rfl (fun ls hl => ?_)
  exact T12_layPlan_17 S hr hlo  1024 f I (lv_sub hl [1, 2, 0] rfl)
theorem M12_layPlan (l : Launch) (D : va_G) (cy : Nat → ClassId) (b : Nat) (A : Nat → Prop) (fl : Bool) {h : PH} {a0 : Nat} {x1 : Int32} {out : PH} (f : F12_layPlan h a0 x1 = some out) : Met l yX12_layPlan vX12_layPlan ({ frames := 8, cells := 0, slots := 0, locals := 192 } : Room) (va_Pc [.ref (b + a0), .int x1] (ph_B D cy b A fl h)) (va_Qv (fun (u : PH) => u = out) (ph_B D cy b A fl) A) 0 0 A :=
  o_met (by decide) rfl (Nat.le_of_ble_eq_true rfl) rfl (fun p e s m below meth c S hr hlo hnm ls hl I => T12_layPlan_0 S hr hlo ((gd f).2) I (lv_sub hl [0, 1] rfl))
def vX12_waitsFor : List Cond := .code yX12_waitsFor cX12_waitsFor 2 none :: TB
theorem lf12_waitsFor_75 : Fl vX12_waitsFor RX12 75 12 44 := ⟨RX12, TX12, 87, rfl, by decide, (fun w h9 => List.mem_cons_of_mem _ (wC_wsX120 w h9)), (List.mem_cons_of_mem _ wT_10_18)⟩
theorem lf12_waitsFor_301 : Fl vX12_waitsFor RX12 301 12 46 := ⟨RX12, TX12, 87, rfl, by decide, (fun w h9 => List.mem_cons_of_mem _ (wC_wsX120 w h9)), (List.mem_cons_of_mem _ wT_30_0)⟩
theorem lp12_waitsFor_301 : Pl vX12_waitsFor RX12 301 12 46 .int := ⟨RX12, TX12, 87, tyX12, rfl, by decide, (fun w h9 => List.mem_cons_of_mem _ (wC_wsX120 w h9)), (List.mem_cons_of_mem _ wT_30_0), tyX12_ok, nmX12, rfl, rfl⟩
theorem cd12_waitsFor : Cd yX12_waitsFor 1 := ⟨by decide, by decide, by decide +kernel⟩
set_option maxHeartbeats 4000000 in
set_option maxRecDepth 100000 in
theorem T12_waitsFor_0 (S : CallFix p m c cX12_waitsFor 2 s args vX12_waitsFor RX12) (hr : meth.sig.returnType = none) (hlo : meth.locks = false) {out : PH} {h : PH} {a0 : Nat} {x1 : Int32} (f : F12_waitsFor_0  h a0 x1 = some out) {H : Heap} {locs : List Loc} (I : ph_I D cy b A fl h s H locs) {ls : Array Slot} (hl : lv_has ls 2 [(0, .ref (b + a0)), (1, .int x1)]) : W p l e ({ frames := 0, cells := 0, slots := 0, locals := 0 } : Room) s m args below meth c H locs 0 0 (MQ below (va_Qv (fun (u : PH) => u = out) (ph_B D cy b A fl) A) args s 0 0 A) (F0 m 0 ls []) := by
  unfold F12_waitsFor_0 at f
  refine lv_aload_n S.1 S.2.1 dX12_waitsFor_0 rfl (lv_at hl 0 rfl) ?_
  obtain ⟨r1, e2, f⟩ := ob f
  refine o_gR S lf12_waitsFor_75 I e2 dX12_waitsFor_1 ?_
  refine lv_aload_n S.1 S.2.1 dX12_waitsFor_4 rfl (lv_at hl 0 rfl) ?_
  obtain ⟨v3, e4, f⟩ := ob f
  refine o_gI S lf12_waitsFor_301 I e4 dX12_waitsFor_5 ?_
  refine lv_iload_n S.1 S.2.1 dX12_waitsFor_8 rfl (lv_at hl 1 rfl) ?_
  obtain ⟨h6, e5, f⟩ := ob f
  refine o_iast S I e5 dX12_waitsFor_9 (fun H locs I => ?_)
  refine lv_aload_n S.1 S.2.1 dX12_waitsFor_10 rfl (lv_at hl 0 rfl) ?_
  refine lv_dup S.1 S.2.1 dX12_waitsFor_11 rfl ?_
  obtain ⟨v7, e8, f⟩ := ob f
  refine o_gI S lf12_waitsFor_301 I e8 dX12_waitsFor_12 ?_
  refine lv_iconst (v := 1) S.1 S.2.1 dX12_waitsFor_15 (by decide) ?_
  refine lv_iadd S.1 S.2.1 dX12_waitsFor_16 ?_
  obtain ⟨h9, e10, f⟩ := ob f
  refine o_pI S lp12_waitsFor_301 I e10 dX12_waitsFor_17 (fun H locs I => ?_)
  exact o_vret S hr hlo I f dX12_waitsFor_20
theorem M12_waitsFor (l : Launch) (D : va_G) (cy : Nat → ClassId) (b : Nat) (A : Nat → Prop) (fl : Bool) {h : PH} {a0 : Nat} {x1 : Int32} {out : PH} (f : F12_waitsFor h a0 x1 = some out) : Met l yX12_waitsFor vX12_waitsFor ({ frames := 0, cells := 0, slots := 0, locals := 0 } : Room) (va_Pc [.ref (b + a0), .int x1] (ph_B D cy b A fl h)) (va_Qv (fun (u : PH) => u = out) (ph_B D cy b A fl) A) 0 0 A :=
  o_met (by decide) rfl (Nat.le_of_ble_eq_true rfl) rfl (fun p e s m below meth c S hr hlo hnm ls hl I => T12_waitsFor_0 S hr hlo ((gd f).2) I (lv_sub hl [0, 1] rfl))
def vX12_nameMet : List Cond := .code yX12_nameMet cX12_nameMet 1 (some .int) :: TB
theorem lf12_nameMet_172 : Fl vX12_nameMet RX12 172 12 8 := ⟨RX12, TX12, 87, rfl, by decide, (fun w h9 => List.mem_cons_of_mem _ (wC_wsX120 w h9)), (List.mem_cons_of_mem _ wT_26_20)⟩
theorem lf12_nameMet_183 : Fl vX12_nameMet RX12 183 12 9 := ⟨RX12, TX12, 87, rfl, by decide, (fun w h9 => List.mem_cons_of_mem _ (wC_wsX120 w h9)), (List.mem_cons_of_mem _ wT_27_2)⟩
theorem cd12_nameMet : Cd yX12_nameMet 0 := ⟨by decide, by decide, by decide +kernel⟩
set_option maxHeartbeats 4000000 in
set_option maxRecDepth 100000 in
theorem T12_nameMet_0 (S : CallFix p m c cX12_nameMet 1 s args vX12_nameMet RX12) (hr : meth.sig.returnType = (some .int)) (hlo : meth.locks = false) {out : Int32 × PH} {h : PH} {a0 : Nat} (f : F12_nameMet_0  h a0 = some out) {H : Heap} {locs : List Loc} (I : ph_I D cy b A fl h s H locs) {ls : Array Slot} (hl : lv_has ls 1 [(0, .ref (b + a0))]) : W p l e ({ frames := 0, cells := 0, slots := 0, locals := 0 } : Room) s m args below meth c H locs 0 0 (MQ below (va_Qi (fun (r : Int32) (u : PH) => (r, u) = out) (ph_B D cy b A fl) A) args s 0 0 A) (F0 m 0 ls []) := by
  unfold F12_nameMet_0 at f
  refine lv_aload_n S.1 S.2.1 dX12_nameMet_0 rfl (lv_at hl 0 rfl) ?_
  obtain ⟨v1, e2, f⟩ := ob f
  refine o_gI S lf12_nameMet_172 I e2 dX12_nameMet_1 ?_
  refine lv_iconst (v := 1) S.1 S.2.1 dX12_nameMet_4 (by decide) ?_
  refine lv_icmp_ne (tgt := 27) S.1 S.2.1 dX12_nameMet_5 (by decide) (fun q3 => ?_) (fun q3 => ?_)
  · have f := (if_neg q3).symm.trans f
    refine lv_iconst (v := (-1)) S.1 S.2.1 dX12_nameMet_27 (by decide) ?_
    exact o_iret S hr hlo I f dX12_nameMet_28
  · have f := (if_pos q3).symm.trans f
    refine lv_aload_n S.1 S.2.1 dX12_nameMet_8 rfl (lv_at hl 0 rfl) ?_
    obtain ⟨v4, e5, f⟩ := ob f
    refine o_gI S lf12_nameMet_183 I e5 dX12_nameMet_9 ?_
    refine lv_bipush (v := 18) S.1 S.2.1 dX12_nameMet_12 (by decide) ?_
    refine lv_icmp_lt (tgt := 27) S.1 S.2.1 dX12_nameMet_14 (by decide) (fun q6 => ?_) (fun q6 => ?_)
    · have f := (if_pos q6).symm.trans f
      refine lv_iconst (v := (-1)) S.1 S.2.1 dX12_nameMet_27 (by decide) ?_
      exact o_iret S hr hlo I f dX12_nameMet_28
    · have f := (if_neg q6).symm.trans f
      refine lv_aload_n S.1 S.2.1 dX12_nameMet_17 rfl (lv_at hl 0 rfl) ?_
      obtain ⟨v7, e8, f⟩ := ob f
      refine o_gI S lf12_nameMet_183 I e8 dX12_nameMet_18 ?_
      refine lv_bipush (v := 18) S.1 S.2.1 dX12_nameMet_21 (by decide) ?_
      refine lv_isub S.1 S.2.1 dX12_nameMet_23 ?_
      refine lv_goto (tgt := 28) S.1 S.2.1 dX12_nameMet_24 (by decide) ?_
      exact o_iret S hr hlo I f dX12_nameMet_28
theorem M12_nameMet (l : Launch) (D : va_G) (cy : Nat → ClassId) (b : Nat) (A : Nat → Prop) (fl : Bool) {h : PH} {a0 : Nat} {out : Int32 × PH} (f : F12_nameMet h a0 = some out) : Met l yX12_nameMet vX12_nameMet ({ frames := 0, cells := 0, slots := 0, locals := 0 } : Room) (va_Pc [.ref (b + a0)] (ph_B D cy b A fl h)) (va_Qi (fun (r : Int32) (u : PH) => (r, u) = out) (ph_B D cy b A fl) A) 0 0 A :=
  o_met (by decide) rfl (Nat.le_of_ble_eq_true rfl) rfl (fun p e s m below meth c S hr hlo hnm ls hl I => T12_nameMet_0 S hr hlo ((gd f).2) I (lv_sub hl [0] rfl))
end
