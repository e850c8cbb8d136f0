section
variable {p : Program} {l : Launch} {e : Env} {s : State} {m : MethodId} {args : Array Value} {below : List Frame} {meth : Method} {c : Code} {D : va_G} {cy : Nat → ClassId} {b : Nat} {A : Nat → Prop} {fl : Bool}
set_option maxHeartbeats 4000000 in
set_option maxRecDepth 100000 in
theorem T0_sharePair_0 (S : CallFix p m c cX0_sharePair 11 s args vX0_sharePair RX0) (hr : meth.sig.returnType = none) (hlo : meth.locks = false) {out : PH} {h : PH} {a0 : Nat} {x1 : Int32} {x2 : Int32} {x3 : Int32} {x4 : Int32} {x5 : Int32} (f : F0_sharePair_0  h a0 x1 x2 x3 x4 x5 = some out) {H : Heap} {locs : List Loc} (I : ph_I D cy b A fl h s H locs) {ls : Array Slot} (hl : lv_has ls 11 [(0, .ref (b + a0)), (1, .int x1), (2, .int x2), (3, .int x3), (4, .int x4), (5, .int x5)]) : W p l e ({ frames := 0, cells := 0, slots := 0, locals := 0 } : Room) s m args below meth c H locs 0 0 (MQ below (va_Qv (fun (u : PH) => u = out) (ph_B D cy b A fl) A) args s 0 0 A) (F0 m 0 ls []) := by
  unfold F0_sharePair_0 at f
  refine lv_iconst (v := 0) S.1 S.2.1 dX0_sharePair_0 (by decide) ?_
  refine lv_istore (lv' := [(6, .int 0), (0, .ref (b + a0)), (1, .int x1), (2, .int x2), (3, .int x3), (4, .int x4), (5, .int x5)]) S.1 S.2.1 dX0_sharePair_1 hl (by decide) rfl (fun ls hl => ?_)
  refine lv_iconst (v := 0) S.1 S.2.1 dX0_sharePair_3 (by decide) ?_
  refine lv_istore (lv' := [(7, .int 0), (6, .int 0), (0, .ref (b + a0)), (1, .int x1), (2, .int x2), (3, .int x3), (4, .int x4), (5, .int x5)]) S.1 S.2.1 dX0_sharePair_4 hl (by decide) rfl (fun ls hl => ?_)
  refine lv_iload_n S.1 S.2.1 dX0_sharePair_6 rfl (lv_at hl 5 rfl) ?_
  refine lv_istore (lv' := [(8, .int x3), (7, .int 0), (6, .int 0), (0, .ref (b + a0)), (1, .int x1), (2, .int x2), (3, .int x3), (4, .int x4), (5, .int x5)]) S.1 S.2.1 dX0_sharePair_7 hl (by decide) rfl (fun ls hl => ?_)
  exact T0_sharePair_9 S hr hlo  1024 f I (lv_sub hl [3, 4, 5, 7, 8, 2, 1, 0] rfl)
theorem M0_sharePair (l : Launch) (D : va_G) (cy : Nat → ClassId) (b : Nat) (A : Nat → Prop) (fl : Bool) {h : PH} {a0 : Nat} {x1 : Int32} {x2 : Int32} {x3 : Int32} {x4 : Int32} {x5 : Int32} {out : PH} (f : F0_sharePair h a0 x1 x2 x3 x4 x5 = some out) : Met l yX0_sharePair vX0_sharePair ({ frames := 0, cells := 0, slots := 0, locals := 0 } : Room) (va_Pc [.ref (b + a0), .int x1, .int x2, .int x3, .int x4, .int x5] (ph_B D cy b A fl h)) (va_Qv (fun (u : PH) => u = out) (ph_B D cy b A fl) A) 0 0 A :=
  o_met (by decide) rfl (Nat.le_of_ble_eq_true rfl) rfl (fun p e s m below meth c S hr hlo hnm ls hl I => T0_sharePair_0 S hr hlo ((gd f).2) I (lv_sub hl [0, 1, 2, 3, 4, 5] rfl))
def vX0_playGame : List Cond := .code yX0_playGame cX0_playGame 8 none :: TB
theorem gX0_playGame_X0_sharePair : GoodIn vX0_playGame (wsV RX0 74 RX0 yX0_sharePair vX0_sharePair) := gV_of wT_51_15 wT_51_16 wT_51_17 wT_2_21 wT_51_18
theorem lf0_playGame_43 : Fl vX0_playGame RX0 43 6 0 := ⟨RX6, TX6, 9, rfl, by decide, (fun w h9 => List.mem_cons_of_mem _ (wC_wsX60 w h9)), (List.mem_cons_of_mem _ wT_51_2)⟩
theorem lf0_playGame_49 : Fl vX0_playGame RX0 49 8 5 := ⟨RX8, TX8, 14, rfl, by decide, (fun w h9 => List.mem_cons_of_mem _ (wC_wsX80 w h9)), (List.mem_cons_of_mem _ wT_51_3)⟩
theorem lf0_playGame_71 : Fl vX0_playGame RX0 71 10 1 := ⟨RX10, TX10, 8, rfl, by decide, (fun w h9 => List.mem_cons_of_mem _ (wC_wsX100 w h9)), (List.mem_cons_of_mem _ wT_51_5)⟩
theorem gX0_playGame_X0_findRests : GoodIn vX0_playGame (wsV RX0 78 RX0 yX0_findRests vX0_findRests) := gV_of wT_51_19 wT_51_20 wT_51_21 wT_2_21 wT_51_22
theorem lf0_playGame_55 : Fl vX0_playGame RX0 55 4 0 := ⟨RX4, TX4, 11, rfl, by decide, (fun w h9 => List.mem_cons_of_mem _ (wC_wsX40 w h9)), (List.mem_cons_of_mem _ wT_51_4)⟩
theorem gX0_playGame_X10_firstFrom : GoodIn vX0_playGame (wsV RX0 61 RX10 yX10_firstFrom vX10_firstFrom) := gV_of wT_51_6 wT_43_17 wT_43_18 wT_3_9 wT_43_19
theorem gX0_playGame_X0_weighWays : GoodIn vX0_playGame (wsV RX0 67 RX0 yX0_weighWays vX0_weighWays) := gV_of wT_51_7 wT_51_8 wT_51_9 wT_2_21 wT_51_10
theorem cd0_playGame : Cd yX0_playGame 4 := ⟨by decide, by decide, by decide +kernel⟩
set_option maxHeartbeats 4000000 in
set_option maxRecDepth 100000 in
theorem T0_playGame_83 (S : CallFix p m c cX0_playGame 8 s args vX0_playGame RX0) (hr : meth.sig.returnType = none) (hlo : meth.locks = false) {out : PH} {k40 : PH → Nat → Nat → Int32 → Int32 → Int32 → Int32 → Option (PH)} (hk40 : ∀ {h : PH} {a0 : Nat} {a1 : Nat} {x3 : Int32} {x4 : Int32} {x5 : Int32} {x6 : Int32}, k40 h a0 a1 x3 x4 x5 x6 = some out → ∀ (H : Heap) (locs : List Loc), ph_I D cy b A fl h s H locs → ∀ (ls : Array Slot), lv_has ls 8 [(0, .ref (b + a0)), (1, .ref (b + a1)), (3, .int x3), (4, .int x4), (5, .int x5), (6, .int x6)] → W p l e ({ frames := 6, cells := 0, slots := 0, locals := 155 } : Room) s m args below meth c H locs 0 0 (MQ below (va_Qv (fun (u : PH) => u = out) (ph_B D cy b A fl) A) args s 0 0 A) (F0 m 40 ls [])) {k49 : PH → Nat → Nat → Int32 → Int32 → Int32 → Int32 → Int32 → Option (PH)} (hk49 : ∀ {h : PH} {a0 : Nat} {a1 : Nat} {x3 : Int32} {x4 : Int32} {x5 : Int32} {x6 : Int32} {x7 : Int32}, k49 h a0 a1 x3 x4 x5 x6 x7 = some out → ∀ (H : Heap) (locs : List Loc), ph_I D cy b A fl h s H locs → ∀ (ls : Array Slot), lv_has ls 8 [(0, .ref (b + a0)), (1, .ref (b + a1)), (3, .int x3), (4, .int x4), (5, .int x5), (6, .int x6), (7, .int x7)] → W p l e ({ frames := 6, cells := 0, slots := 0, locals := 155 } : Room) s m args below meth c H locs 0 0 (MQ below (va_Qv (fun (u : PH) => u = out) (ph_B D cy b A fl) A) args s 0 0 A) (F0 m 49 ls [])) {h : PH} {a0 : Nat} {a1 : Nat} {x3 : Int32} {x4 : Int32} {x5 : Int32} {x6 : Int32} {x7 : Int32} {s0 : Int32} {s1 : Int32} {s2 : Int32} {s3 : Int32} {s4 : Int32} {u5 : Nat} (f : F0_playGame_83 k40 k49 h a0 a1 x3 x4 x5 x6 x7 s0 s1 s2 s3 s4 u5 = some out) {H : Heap} {locs : List Loc} (I : ph_I D cy b A fl h s H locs) {ls : Array Slot} (hl : lv_has ls 8 [(0, .ref (b + a0)), (1, .ref (b + a1)), (3, .int x3), (4, .int x4), (5, .int x5), (6, .int x6), (7, .int x7)]) : W p l e ({ frames := 6, cells := 0, slots := 0, locals := 155 } : Room) s m args below meth c H locs 0 0 (MQ below (va_Qv (fun (u : PH) => u = out) (ph_B D cy b A fl) A) args s 0 0 A) (F0 m 83 ls [.int s0, .int s1, .int s2, .int s3, .int s4, .ref (b + u5)]) := by
  unfold F0_playGame_83 at f
  obtain ⟨o1, e2, f⟩ := ob f
  refine o_Vv S (As := [.int s4, .int s3, .int s2, .int s1, .int s0]) (rest := []) (ci := 0) (M0_sharePair l D cy b A fl e2) gX0_playGame_X0_sharePair rfl rfl rfl cd0_sharePair ⟨Nat.le_of_ble_eq_true rfl, Nat.le_of_ble_eq_true rfl⟩ I (gd e2).1 clX0 rfl rfl hl.1 rfl (Nat.le_of_ble_eq_true rfl) dX0_playGame_83 ⟨Nat.le_of_ble_eq_true rfl, Nat.le_of_ble_eq_true rfl⟩ (fun H locs I => ?_)
  refine lv_iinc (v := (x7 + 1)) (lv' := [(7, .int (x7 + 1)), (0, .ref (b + a0)), (1, .ref (b + a1)), (3, .int x3), (4, .int x4), (5, .int x5), (6, .int x6)]) S.1 S.2.1 dX0_playGame_86 hl (k := 6) rfl (congrArg (fun z => x7 + z) (by decide)) (by decide) rfl (fun ls hl => ?_)
  refine lv_goto (tgt := 49) S.1 S.2.1 dX0_playGame_89 (by decide) ?_
  exact hk49 f _ _ I _ (lv_sub hl [1, 2, 3, 4, 5, 6, 0] rfl)
set_option maxHeartbeats 4000000 in
set_option maxRecDepth 100000 in
theorem T0_playGame_49 (S : CallFix p m c cX0_playGame 8 s args vX0_playGame RX0) (hr : meth.sig.returnType = none) (hlo : meth.locks = false) {out : PH} {k40 : PH → Nat → Nat → Int32 → Int32 → Int32 → Int32 → Option (PH)} (hk40 : ∀ {h : PH} {a0 : Nat} {a1 : Nat} {x3 : Int32} {x4 : Int32} {x5 : Int32} {x6 : Int32}, k40 h a0 a1 x3 x4 x5 x6 = some out → ∀ (H : Heap) (locs : List Loc), ph_I D cy b A fl h s H locs → ∀ (ls : Array Slot), lv_has ls 8 [(0, .ref (b + a0)), (1, .ref (b + a1)), (3, .int x3), (4, .int x4), (5, .int x5), (6, .int x6)] → W p l e ({ frames := 6, cells := 0, slots := 0, locals := 155 } : Room) s m args below meth c H locs 0 0 (MQ below (va_Qv (fun (u : PH) => u = out) (ph_B D cy b A fl) A) args s 0 0 A) (F0 m 40 ls [])) : ∀ (n : Nat) {h : PH} {a0 : Nat} {a1 : Nat} {x3 : Int32} {x4 : Int32} {x5 : Int32} {x6 : Int32} {x7 : Int32} (f : F0_playGame_49 k40 n h a0 a1 x3 x4 x5 x6 x7 = some out) {H : Heap} {locs : List Loc} (I : ph_I D cy b A fl h s H locs) {ls : Array Slot} (hl : lv_has ls 8 [(0, .ref (b + a0)), (1, .ref (b + a1)), (3, .int x3), (4, .int x4), (5, .int x5), (6, .int x6), (7, .int x7)]), W p l e ({ frames := 6, cells := 0, slots := 0, locals := 155 } : Room) s m args below meth c H locs 0 0 (MQ below (va_Qv (fun (u : PH) => u = out) (ph_B D cy b A fl) A) args s 0 0 A) (F0 m 49 ls []) := by
  intro n
  induction n with
  | zero => intro h a0 a1 x3 x4 x5 x6 x7 f; rw [F0_playGame_49] at f; cases f
  | succ n ih =>
    intro h a0 a1 x3 x4 x5 x6 x7 f H locs I ls hl
    rw [F0_playGame_49] at f
    refine lv_iload S.1 S.2.1 dX0_playGame_49 (lv_at hl 6 rfl) ?_
    refine lv_iconst (v := 5) S.1 S.2.1 dX0_playGame_51 (by decide) ?_
    refine lv_icmp_ge (tgt := 92) S.1 S.2.1 dX0_playGame_52 (by decide) (fun q1 => ?_) (fun q1 => ?_)
    · have f := (if_pos q1).symm.trans f
      refine lv_iinc (v := (x6 + 1)) (lv' := [(6, .int (x6 + 1)), (0, .ref (b + a0)), (1, .ref (b + a1)), (3, .int x3), (4, .int x4), (5, .int x5), (7, .int x7)]) S.1 S.2.1 dX0_playGame_92 hl (k := 5) rfl (congrArg (fun z => x6 + z) (by decide)) (by decide) rfl (fun ls hl => ?_)
      refine lv_goto (tgt := 40) S.1 S.2.1 dX0_playGame_95 (by decide) ?_
      exact hk40 f _ _ I _ (lv_sub hl [1, 2, 3, 4, 5, 0] rfl)
    · have f := (if_neg q1).symm.trans f
      refine lv_aload_n S.1 S.2.1 dX0_playGame_55 rfl (lv_at hl 0 rfl) ?_
      refine lv_iload S.1 S.2.1 dX0_playGame_56 (lv_at hl 5 rfl) ?_
      refine lv_iload S.1 S.2.1 dX0_playGame_58 (lv_at hl 6 rfl) ?_
      refine lv_iload S.1 S.2.1 dX0_playGame_60 (lv_at hl 4 rfl) ?_
      refine lv_aload_n S.1 S.2.1 dX0_playGame_62 rfl (lv_at hl 1 rfl) ?_
      obtain ⟨r2, e3, f⟩ := ob f
      refine o_gR S lf0_playGame_43 I e3 dX0_playGame_63 ?_
      obtain ⟨r4, e5, f⟩ := ob f
      refine o_gR S lf0_playGame_49 I e5 dX0_playGame_66 ?_
      obtain ⟨v6, e7, f⟩ := ob f
      refine o_gI S lf0_playGame_71 I e7 dX0_playGame_69 ?_
      refine lv_iload_n S.1 S.2.1 dX0_playGame_72 rfl (lv_at hl 2 rfl) ?_
      refine lv_iload S.1 S.2.1 dX0_playGame_73 (lv_at hl 3 rfl) ?_
      refine lv_icmp_ge (tgt := 82) S.1 S.2.1 dX0_playGame_75 (by decide) (fun q8 => ?_) (fun q8 => ?_)
      · have f := (if_pos q8).symm.trans f
        refine lv_iconst (v := 0) S.1 S.2.1 dX0_playGame_82 (by decide) ?_
        exact T0_playGame_83 S hr hlo (fun f _ _ I _ hl => hk40 f _ _ I _ hl) (fun f _ _ I _ hl => ih f I hl) f I (lv_sub hl [0, 1, 2, 3, 4, 5, 6] rfl)
      · have f := (if_neg q8).symm.trans f
        refine lv_iconst (v := 1) S.1 S.2.1 dX0_playGame_78 (by decide) ?_
        refine lv_goto (tgt := 83) S.1 S.2.1 dX0_playGame_79 (by decide) ?_
        exact T0_playGame_83 S hr hlo (fun f _ _ I _ hl => hk40 f _ _ I _ hl) (fun f _ _ I _ hl => ih f I hl) f I (lv_sub hl [0, 1, 2, 3, 4, 5, 6] rfl)
set_option maxHeartbeats 4000000 in
set_option maxRecDepth 100000 in
theorem T0_playGame_40 (S : CallFix p m c cX0_playGame 8 s args vX0_playGame RX0) (hr : meth.sig.returnType = none) (hlo : meth.locks = false) {out : PH} : ∀ (n : Nat) {h : PH} {a0 : Nat} {a1 : Nat} {x3 : Int32} {x4 : Int32} {x5 : Int32} {x6 : Int32} (f : F0_playGame_40  n h a0 a1 x3 x4 x5 x6 = some out) {H : Heap} {locs : List Loc} (I : ph_I D cy b A fl h s H locs) {ls : Array Slot} (hl : lv_has ls 8 [(0, .ref (b + a0)), (1, .ref (b + a1)), (3, .int x3), (4, .int x4), (5, .int x5), (6, .int x6)]), W p l e ({ frames := 6, cells := 0, slots := 0, locals := 155 } : Room) s m args below meth c H locs 0 0 (MQ below (va_Qv (fun (u : PH) => u = out) (ph_B D cy b A fl) A) args s 0 0 A) (F0 m 40 ls []) := by
  intro n
  induction n with
  | zero => intro h a0 a1 x3 x4 x5 x6 f; rw [F0_playGame_40] at f; cases f
  | succ n ih =>
    intro h a0 a1 x3 x4 x5 x6 f H locs I ls hl
    rw [F0_playGame_40] at f
    refine lv_iload S.1 S.2.1 dX0_playGame_40 (lv_at hl 5 rfl) ?_
    refine lv_iconst (v := 5) S.1 S.2.1 dX0_playGame_42 (by decide) ?_
    refine lv_icmp_ge (tgt := 98) S.1 S.2.1 dX0_playGame_43 (by decide) (fun q1 => ?_) (fun q1 => ?_)
    · have f := (if_pos q1).symm.trans f
      refine lv_aload_n S.1 S.2.1 dX0_playGame_98 rfl (lv_at hl 0 rfl) ?_
      obtain ⟨o2, e3, f⟩ := ob f
      refine o_Vv S (As := []) (rest := []) (ci := 0) (M0_findRests l D cy b A fl e3) gX0_playGame_X0_findRests rfl rfl rfl cd0_findRests ⟨Nat.le_of_ble_eq_true rfl, Nat.le_of_ble_eq_true rfl⟩ I (gd e3).1 clX0 rfl rfl hl.1 rfl (Nat.le_of_ble_eq_true rfl) dX0_playGame_99 ⟨Nat.le_of_ble_eq_true rfl, Nat.le_of_ble_eq_true rfl⟩ (fun H locs I => ?_)
      exact o_vret S hr hlo I f dX0_playGame_102
    · have f := (if_neg q1).symm.trans f
      refine lv_iconst (v := 0) S.1 S.2.1 dX0_playGame_46 (by decide) ?_
      refine lv_istore (lv' := [(7, .int 0), (0, .ref (b + a0)), (1, .ref (b + a1)), (3, .int x3), (4, .int x4), (5, .int x5), (6, .int x6)]) S.1 S.2.1 dX0_playGame_47 hl (by decide) rfl (fun ls hl => ?_)
      exact T0_playGame_49 S hr hlo (fun f _ _ I _ hl => ih f I hl) 1024 f I (lv_sub hl [1, 2, 3, 4, 5, 6, 0] rfl)
set_option maxHeartbeats 4000000 in
set_option maxRecDepth 100000 in
theorem T0_playGame_0 (S : CallFix p m c cX0_playGame 8 s args vX0_playGame RX0) (hr : meth.sig.returnType = none) (hlo : meth.locks = false) {out : PH} {h : PH} {a0 : Nat} {a1 : Nat} {a2 : Nat} {x3 : Int32} {x4 : Int32} (f : F0_playGame_0  h a0 a1 a2 x3 x4 = some out) {H : Heap} {locs : List Loc} (I : ph_I D cy b A fl h s H locs) {ls : Array Slot} (hl : lv_has ls 8 [(0, .ref (b + a0)), (1, .ref (b + a1)), (2, .ref (b + a2)), (3, .int x3), (4, .int x4)]) : W p l e ({ frames := 6, cells := 0, slots := 0, locals := 155 } : Room) s m args below meth c H locs 0 0 (MQ below (va_Qv (fun (u : PH) => u = out) (ph_B D cy b A fl) A) args s 0 0 A) (F0 m 0 ls []) := by
  unfold F0_playGame_0 at f
  refine lv_aload_n S.1 S.2.1 dX0_playGame_0 rfl (lv_at hl 1 rfl) ?_
  obtain ⟨r1, e2, f⟩ := ob f
  refine o_gR S lf0_playGame_43 I e2 dX0_playGame_1 ?_
  obtain ⟨r3, e4, f⟩ := ob f
  refine o_gR S lf0_playGame_49 I e4 dX0_playGame_4 ?_
  refine lv_aload_n S.1 S.2.1 dX0_playGame_7 rfl (lv_at hl 2 rfl) ?_
  obtain ⟨v5, e6, f⟩ := ob f
  refine o_gI S lf0_playGame_55 I e6 dX0_playGame_8 ?_
  obtain ⟨o7, e8, f⟩ := ob f
  refine o_Vi S (As := [.int v5]) (rest := []) (ci := 10) (M10_firstFrom l D cy b A fl e8) gX0_playGame_X10_firstFrom rfl rfl rfl cd10_firstFrom ⟨Nat.le_of_ble_eq_true rfl, Nat.le_of_ble_eq_true rfl⟩ I (gd e8).1 clX10 rfl rfl hl.1 rfl (Nat.le_of_ble_eq_true rfl) dX0_playGame_11 ⟨Nat.le_of_ble_eq_true rfl, Nat.le_of_ble_eq_true rfl⟩ (fun H locs I => ?_)
  refine lv_istore (lv' := [(5, .int o7.1), (0, .ref (b + a0)), (1, .ref (b + a1)), (2, .ref (b + a2)), (3, .int x3), (4, .int x4)]) S.1 S.2.1 dX0_playGame_14 hl (by decide) rfl (fun ls hl => ?_)
  refine lv_aload_n S.1 S.2.1 dX0_playGame_16 rfl (lv_at hl 1 rfl) ?_
  refine lv_aload_n S.1 S.2.1 dX0_playGame_17 rfl (lv_at hl 2 rfl) ?_
  refine lv_aload_n S.1 S.2.1 dX0_playGame_18 rfl (lv_at hl 3 rfl) ?_
  refine lv_iload_n S.1 S.2.1 dX0_playGame_19 rfl (lv_at hl 4 rfl) ?_
  refine lv_iconst (v := 0) S.1 S.2.1 dX0_playGame_20 (by decide) ?_
  refine lv_iload S.1 S.2.1 dX0_playGame_21 (lv_at hl 0 rfl) ?_
  obtain ⟨o9, e10, f⟩ := ob f
  refine o_Vv S (As := [.ref (b + a1), .ref (b + a2), .int x3, .int 0, .int o7.1]) (rest := []) (ci := 0) (M0_weighWays l D cy b A fl e10) gX0_playGame_X0_weighWays rfl rfl rfl cd0_weighWays ⟨Nat.le_of_ble_eq_true rfl, Nat.le_of_ble_eq_true rfl⟩ I (gd e10).1 clX0 rfl rfl hl.1 rfl (Nat.le_of_ble_eq_true rfl) dX0_playGame_23 ⟨Nat.le_of_ble_eq_true rfl, Nat.le_of_ble_eq_true rfl⟩ (fun H locs I => ?_)
  refine lv_aload_n S.1 S.2.1 dX0_playGame_26 rfl (lv_at hl 1 rfl) ?_
  refine lv_aload_n S.1 S.2.1 dX0_playGame_27 rfl (lv_at hl 2 rfl) ?_
  refine lv_aload_n S.1 S.2.1 dX0_playGame_28 rfl (lv_at hl 3 rfl) ?_
  refine lv_iload S.1 S.2.1 dX0_playGame_29 (lv_at hl 5 rfl) ?_
  refine lv_iconst (v := 5) S.1 S.2.1 dX0_playGame_31 (by decide) ?_
  refine lv_iload S.1 S.2.1 dX0_playGame_32 (lv_at hl 0 rfl) ?_
  obtain ⟨o11, e12, f⟩ := ob f
  refine o_Vv S (As := [.ref (b + a1), .ref (b + a2), .int x4, .int 5, .int o7.1]) (rest := []) (ci := 0) (M0_weighWays l D cy b A fl e12) gX0_playGame_X0_weighWays rfl rfl rfl cd0_weighWays ⟨Nat.le_of_ble_eq_true rfl, Nat.le_of_ble_eq_true rfl⟩ I (gd e12).1 clX0 rfl rfl hl.1 rfl (Nat.le_of_ble_eq_true rfl) dX0_playGame_34 ⟨Nat.le_of_ble_eq_true rfl, Nat.le_of_ble_eq_true rfl⟩ (fun H locs I => ?_)
  refine lv_iconst (v := 0) S.1 S.2.1 dX0_playGame_37 (by decide) ?_
  refine lv_istore (lv' := [(6, .int 0), (5, .int o7.1), (0, .ref (b + a0)), (1, .ref (b + a1)), (2, .ref (b + a2)), (3, .int x3), (4, .int x4)]) S.1 S.2.1 dX0_playGame_38 hl (by decide) rfl (fun ls hl => ?_)
  exact T0_playGame_40 S hr hlo  1024 f I (lv_sub hl [2, 3, 5, 6, 1, 0] rfl)
theorem M0_playGame (l : Launch) (D : va_G) (cy : Nat → ClassId) (b : Nat) (A : Nat → Prop) (fl : Bool) {h : PH} {a0 : Nat} {a1 : Nat} {a2 : Nat} {x3 : Int32} {x4 : Int32} {out : PH} (f : F0_playGame h a0 a1 a2 x3 x4 = some out) : Met l yX0_playGame vX0_playGame ({ frames := 6, cells := 0, slots := 0, locals := 155 } : Room) (va_Pc [.ref (b + a0), .ref (b + a1), .ref (b + a2), .int x3, .int x4] (ph_B D cy b A fl h)) (va_Qv (fun (u : PH) => u = out) (ph_B D cy b A fl) A) 0 0 A :=
  o_met (by decide) rfl (Nat.le_of_ble_eq_true rfl) rfl (fun p e s m below meth c S hr hlo hnm ls hl I => T0_playGame_0 S hr hlo ((gd f).2) I (lv_sub hl [0, 1, 2, 3, 4] rfl))
def vX1_add : List Cond := .code yX1_add cX1_add 7 none :: TB
theorem lf1_add_30 : Fl vX1_add RX1 30 1 0 := ⟨RX1, TX1, 7, rfl, by decide, (fun w h9 => List.mem_cons_of_mem _ (wC_wsX10 w h9)), (List.mem_cons_of_mem _ wT_19_11)⟩
theorem lf1_add_9 : Fl vX1_add RX1 9 1 1 := ⟨RX1, TX1, 7, rfl, by decide, (fun w h9 => List.mem_cons_of_mem _ (wC_wsX10 w h9)), (List.mem_cons_of_mem _ wT_3_22)⟩
theorem lf1_add_15 : Fl vX1_add RX1 15 1 2 := ⟨RX1, TX1, 7, rfl, by decide, (fun w h9 => List.mem_cons_of_mem _ (wC_wsX10 w h9)), (List.mem_cons_of_mem _ wT_3_23)⟩
theorem lf1_add_18 : Fl vX1_add RX1 18 1 3 := ⟨RX1, TX1, 7, rfl, by decide, (fun w h9 => List.mem_cons_of_mem _ (wC_wsX10 w h9)), (List.mem_cons_of_mem _ wT_4_0)⟩
theorem lf1_add_21 : Fl vX1_add RX1 21 1 4 := ⟨RX1, TX1, 7, rfl, by decide, (fun w h9 => List.mem_cons_of_mem _ (wC_wsX10 w h9)), (List.mem_cons_of_mem _ wT_4_1)⟩
theorem lf1_add_24 : Fl vX1_add RX1 24 1 5 := ⟨RX1, TX1, 7, rfl, by decide, (fun w h9 => List.mem_cons_of_mem _ (wC_wsX10 w h9)), (List.mem_cons_of_mem _ wT_4_2)⟩
theorem lf1_add_27 : Fl vX1_add RX1 27 1 6 := ⟨RX1, TX1, 7, rfl, by decide, (fun w h9 => List.mem_cons_of_mem _ (wC_wsX10 w h9)), (List.mem_cons_of_mem _ wT_4_3)⟩
theorem lp1_add_30 : Pl vX1_add RX1 30 1 0 .int := ⟨RX1, TX1, 7, tyX1, rfl, by decide, (fun w h9 => List.mem_cons_of_mem _ (wC_wsX10 w h9)), (List.mem_cons_of_mem _ wT_19_11), tyX1_ok, nmX1, rfl, rfl⟩
theorem cd1_add : Cd yX1_add 6 := ⟨by decide, by decide, by decide +kernel⟩
set_option maxHeartbeats 4000000 in
set_option maxRecDepth 100000 in
theorem T1_add_0 (S : CallFix p m c cX1_add 7 s args vX1_add RX1) (hr : meth.sig.returnType = none) (hlo : meth.locks = false) {out : PH} {h : PH} {a0 : Nat} {x1 : Int32} {x2 : Int32} {x3 : Int32} {x4 : Int32} {x5 : Int32} {x6 : Int32} (f : F1_add_0  h a0 x1 x2 x3 x4 x5 x6 = some out) {H : Heap} {locs : List Loc} (I : ph_I D cy b A fl h s H locs) {ls : Array Slot} (hl : lv_has ls 7 [(0, .ref (b + a0)), (1, .int x1), (2, .int x2), (3, .int x3), (4, .int x4), (5, .int x5), (6, .int x6)]) : W p l e ({ frames := 0, cells := 0, slots := 0, locals := 0 } : Room) s m args below meth c H locs 0 0 (MQ below (va_Qv (fun (u : PH) => u = out) (ph_B D cy b A fl) A) args s 0 0 A) (F0 m 0 ls []) := by
  unfold F1_add_0 at f
  refine lv_aload_n S.1 S.2.1 dX1_add_0 rfl (lv_at hl 0 rfl) ?_
  obtain ⟨v1, e2, f⟩ := ob f
  refine o_gI S lf1_add_30 I e2 dX1_add_1 ?_
  refine lv_iconst (v := 5) S.1 S.2.1 dX1_add_4 (by decide) ?_
  refine lv_icmp_lt (tgt := 9) S.1 S.2.1 dX1_add_5 (by decide) (fun q3 => ?_) (fun q3 => ?_)
  · have f := (if_pos q3).symm.trans f
    refine lv_aload_n S.1 S.2.1 dX1_add_9 rfl (lv_at hl 0 rfl) ?_
    obtain ⟨r4, e5, f⟩ := ob f
    refine o_gR S lf1_add_9 I e5 dX1_add_10 ?_
    refine lv_aload_n S.1 S.2.1 dX1_add_13 rfl (lv_at hl 0 rfl) ?_
    obtain ⟨v6, e7, f⟩ := ob f
    refine o_gI S lf1_add_30 I e7 dX1_add_14 ?_
    refine lv_iload_n S.1 S.2.1 dX1_add_17 rfl (lv_at hl 1 rfl) ?_
    obtain ⟨h9, e8, f⟩ := ob f
    refine o_iast S I e8 dX1_add_18 (fun H locs I => ?_)
    refine lv_aload_n S.1 S.2.1 dX1_add_19 rfl (lv_at hl 0 rfl) ?_
    obtain ⟨r10, e11, f⟩ := ob f
    refine o_gR S lf1_add_15 I e11 dX1_add_20 ?_
    refine lv_aload_n S.1 S.2.1 dX1_add_23 rfl (lv_at hl 0 rfl) ?_
    obtain ⟨v12, e13, f⟩ := ob f
    refine o_gI S lf1_add_30 I e13 dX1_add_24 ?_
    refine lv_iload_n S.1 S.2.1 dX1_add_27 rfl (lv_at hl 2 rfl) ?_
    obtain ⟨h15, e14, f⟩ := ob f
    refine o_iast S I e14 dX1_add_28 (fun H locs I => ?_)
    refine lv_aload_n S.1 S.2.1 dX1_add_29 rfl (lv_at hl 0 rfl) ?_
    obtain ⟨r16, e17, f⟩ := ob f
    refine o_gR S lf1_add_18 I e17 dX1_add_30 ?_
    refine lv_aload_n S.1 S.2.1 dX1_add_33 rfl (lv_at hl 0 rfl) ?_
    obtain ⟨v18, e19, f⟩ := ob f
    refine o_gI S lf1_add_30 I e19 dX1_add_34 ?_
    refine lv_iload_n S.1 S.2.1 dX1_add_37 rfl (lv_at hl 3 rfl) ?_
    obtain ⟨h21, e20, f⟩ := ob f
    refine o_iast S I e20 dX1_add_38 (fun H locs I => ?_)
    refine lv_aload_n S.1 S.2.1 dX1_add_39 rfl (lv_at hl 0 rfl) ?_
    obtain ⟨r22, e23, f⟩ := ob f
    refine o_gR S lf1_add_21 I e23 dX1_add_40 ?_
    refine lv_aload_n S.1 S.2.1 dX1_add_43 rfl (lv_at hl 0 rfl) ?_
    obtain ⟨v24, e25, f⟩ := ob f
    refine o_gI S lf1_add_30 I e25 dX1_add_44 ?_
    refine lv_iload S.1 S.2.1 dX1_add_47 (lv_at hl 4 rfl) ?_
    obtain ⟨h27, e26, f⟩ := ob f
    refine o_iast S I e26 dX1_add_49 (fun H locs I => ?_)
    refine lv_aload_n S.1 S.2.1 dX1_add_50 rfl (lv_at hl 0 rfl) ?_
    obtain ⟨r28, e29, f⟩ := ob f
    refine o_gR S lf1_add_24 I e29 dX1_add_51 ?_
    refine lv_aload_n S.1 S.2.1 dX1_add_54 rfl (lv_at hl 0 rfl) ?_
    obtain ⟨v30, e31, f⟩ := ob f
    refine o_gI S lf1_add_30 I e31 dX1_add_55 ?_
    refine lv_iload S.1 S.2.1 dX1_add_58 (lv_at hl 5 rfl) ?_
    obtain ⟨h33, e32, f⟩ := ob f
    refine o_iast S I e32 dX1_add_60 (fun H locs I => ?_)
    refine lv_aload_n S.1 S.2.1 dX1_add_61 rfl (lv_at hl 0 rfl) ?_
    obtain ⟨r34, e35, f⟩ := ob f
    refine o_gR S lf1_add_27 I e35 dX1_add_62 ?_
    refine lv_aload_n S.1 S.2.1 dX1_add_65 rfl (lv_at hl 0 rfl) ?_
    obtain ⟨v36, e37, f⟩ := ob f
    refine o_gI S lf1_add_30 I e37 dX1_add_66 ?_
    refine lv_iload S.1 S.2.1 dX1_add_69 (lv_at hl 6 rfl) ?_
    obtain ⟨h39, e38, f⟩ := ob f
    refine o_iast S I e38 dX1_add_71 (fun H locs I => ?_)
    refine lv_aload_n S.1 S.2.1 dX1_add_72 rfl (lv_at hl 0 rfl) ?_
    refine lv_dup S.1 S.2.1 dX1_add_73 rfl ?_
    obtain ⟨v40, e41, f⟩ := ob f
    refine o_gI S lf1_add_30 I e41 dX1_add_74 ?_
    refine lv_iconst (v := 1) S.1 S.2.1 dX1_add_77 (by decide) ?_
    refine lv_iadd S.1 S.2.1 dX1_add_78 ?_
    obtain ⟨h42, e43, f⟩ := ob f
    refine o_pI S lp1_add_30 I e43 dX1_add_79 (fun H locs I => ?_)
    exact o_vret S hr hlo I f dX1_add_82
  · have f := (if_neg q3).symm.trans f
    exact o_vret S hr hlo I f dX1_add_8
theorem M1_add (l : Launch) (D : va_G) (cy : Nat → ClassId) (b : Nat) (A : Nat → Prop) (fl : Bool) {h : PH} {a0 : Nat} {x1 : Int32} {x2 : Int32} {x3 : Int32} {x4 : Int32} {x5 : Int32} {x6 : Int32} {out : PH} (f : F1_add h a0 x1 x2 x3 x4 x5 x6 = some out) : Met l yX1_add vX1_add ({ frames := 0, cells := 0, slots := 0, locals := 0 } : Room) (va_Pc [.ref (b + a0), .int x1, .int x2, .int x3, .int x4, .int x5, .int x6] (ph_B D cy b A fl h)) (va_Qv (fun (u : PH) => u = out) (ph_B D cy b A fl) A) 0 0 A :=
  o_met (by decide) rfl (Nat.le_of_ble_eq_true rfl) rfl (fun p e s m below meth c S hr hlo hnm ls hl I => T1_add_0 S hr hlo ((gd f).2) I (lv_sub hl [0, 1, 2, 3, 4, 5, 6] rfl))
def vX1_hasName : List Cond := .code yX1_hasName cX1_hasName 3 (some .boolean) :: TB
theorem lf1_hasName_30 : Fl vX1_hasName RX1 30 1 0 := ⟨RX1, TX1, 7, rfl, by decide, (fun w h9 => List.mem_cons_of_mem _ (wC_wsX10 w h9)), (List.mem_cons_of_mem _ wT_19_11)⟩
theorem lf1_hasName_9 : Fl vX1_hasName RX1 9 1 1 := ⟨RX1, TX1, 7, rfl, by decide, (fun w h9 => List.mem_cons_of_mem _ (wC_wsX10 w h9)), (List.mem_cons_of_mem _ wT_3_22)⟩
theorem cd1_hasName : Cd yX1_hasName 1 := ⟨by decide, by decide, by decide +kernel⟩
set_option maxHeartbeats 4000000 in
set_option maxRecDepth 100000 in
theorem T1_hasName_2 (S : CallFix p m c cX1_hasName 3 s args vX1_hasName RX1) (hr : meth.sig.returnType = (some .boolean)) (hlo : meth.locks = false) {out : Int32 × PH} : ∀ (n : Nat) {h : PH} {a0 : Nat} {x1 : Int32} {x2 : Int32} (f : F1_hasName_2  n h a0 x1 x2 = some out) {H : Heap} {locs : List Loc} (I : ph_I D cy b A fl h s H locs) {ls : Array Slot} (hl : lv_has ls 3 [(0, .ref (b + a0)), (1, .int x1), (2, .int x2)]), W p l e ({ frames := 0, cells := 0, slots := 0, locals := 0 } : Room) s m args below meth c H locs 0 0 (MQ below (va_Qi (fun (r : Int32) (u : PH) => (r, u) = out) (ph_B D cy b A fl) A) args s 0 0 A) (F0 m 2 ls []) := by
  intro n
  induction n with
  | zero => intro h a0 x1 x2 f; rw [F1_hasName_2] at f; cases f
  | succ n ih =>
    intro h a0 x1 x2 f H locs I ls hl
    rw [F1_hasName_2] at f
    refine lv_iload_n S.1 S.2.1 dX1_hasName_2 rfl (lv_at hl 2 rfl) ?_
    refine lv_aload_n S.1 S.2.1 dX1_hasName_3 rfl (lv_at hl 0 rfl) ?_
    obtain ⟨v1, e2, f⟩ := ob f
    refine o_gI S lf1_hasName_30 I e2 dX1_hasName_4 ?_
    refine lv_icmp_ge (tgt := 28) S.1 S.2.1 dX1_hasName_7 (by decide) (fun q3 => ?_) (fun q3 => ?_)
    · have f := (if_pos q3).symm.trans f
      refine lv_iconst (v := 0) S.1 S.2.1 dX1_hasName_28 (by decide) ?_
      exact o_zret S hr hlo I f dX1_hasName_29
    · have f := (if_neg q3).symm.trans f
      refine lv_aload_n S.1 S.2.1 dX1_hasName_10 rfl (lv_at hl 0 rfl) ?_
      obtain ⟨r4, e5, f⟩ := ob f
      refine o_gR S lf1_hasName_9 I e5 dX1_hasName_11 ?_
      refine lv_iload_n S.1 S.2.1 dX1_hasName_14 rfl (lv_at hl 2 rfl) ?_
      obtain ⟨v7, e6, f⟩ := ob f
      refine o_iald S I e6 dX1_hasName_15 ?_
      refine lv_iload_n S.1 S.2.1 dX1_hasName_16 rfl (lv_at hl 1 rfl) ?_
      refine lv_icmp_ne (tgt := 22) S.1 S.2.1 dX1_hasName_17 (by decide) (fun q8 => ?_) (fun q8 => ?_)
      · have f := (if_neg q8).symm.trans f
        refine lv_iinc (v := (x2 + 1)) (lv' := [(2, .int (x2 + 1)), (0, .ref (b + a0)), (1, .int x1)]) S.1 S.2.1 dX1_hasName_22 hl (k := 2) rfl (congrArg (fun z => x2 + z) (by decide)) (by decide) rfl (fun ls hl => ?_)
        refine lv_goto (tgt := 2) S.1 S.2.1 dX1_hasName_25 (by decide) ?_
        exact ih f I (lv_sub hl [1, 2, 0] rfl)
      · have f := (if_pos q8).symm.trans f
        refine lv_iconst (v := 1) S.1 S.2.1 dX1_hasName_20 (by decide) ?_
        exact o_zret S hr hlo I f dX1_hasName_21
set_option maxHeartbeats 4000000 in
set_option maxRecDepth 100000 in
theorem T1_hasName_0 (S : CallFix p m c cX1_hasName 3 s args vX1_hasName RX1) (hr : meth.sig.returnType = (some .boolean)) (hlo : meth.locks = false) {out : Int32 × PH} {h : PH} {a0 : Nat} {x1 : Int32} (f : F1_hasName_0  h a0 x1 = some out) {H : Heap} {locs : List Loc} (I : ph_I D cy b A fl h s H locs) {ls : Array Slot} (hl : lv_has ls 3 [(0, .ref (b + a0)), (1, .int x1)]) : W p l e ({ frames := 0, cells := 0, slots := 0, locals := 0 } : Room) s m args below meth c H locs 0 0 (MQ below (va_Qi (fun (r : Int32) (u : PH) => (r, u) = out) (ph_B D cy b A fl) A) args s 0 0 A) (F0 m 0 ls []) := by
  unfold F1_hasName_0 at f
  refine lv_iconst (v := 0) S.1 S.2.1 dX1_hasName_0 (by decide) ?_
  refine lv_istore_n (lv' := [(2, .int 0), (0, .ref (b + a0)), (1, .int x1)]) S.1 S.2.1 dX1_hasName_1 rfl hl (by decide) rfl (fun ls hl => ?_)
  exact T1_hasName_2 S hr hlo  1024 f I (lv_sub hl [1, 2, 0] rfl)
theorem M1_hasName (l : Launch) (D : va_G) (cy : Nat → ClassId) (b : Nat) (A : Nat → Prop) (fl : Bool) {h : PH} {a0 : Nat} {x1 : Int32} {out : Int32 × PH} (f : F1_hasName h a0 x1 = some out) : Met l yX1_hasName vX1_hasName ({ frames := 0, cells := 0, slots := 0, locals := 0 } : Room) (va_Pc [.ref (b + a0), .int x1] (ph_B D cy b A fl h)) (va_Qi (fun (r : Int32) (u : PH) => (r, u) = out) (ph_B D cy b A fl) A) 0 0 A :=
  o_met (by decide) rfl (Nat.le_of_ble_eq_true rfl) rfl (fun p e s m below meth c S hr hlo hnm ls hl I => T1_hasName_0 S hr hlo ((gd f).2) I (lv_sub hl [0, 1] rfl))
end
theorem dX2_add_0 : decode cX2_add 0 = .ok (.aload_n 0, 1) := by decide +kernel
theorem dX2_add_1 : decode cX2_add 1 = .ok (.getfield 15, 3) := by decide +kernel
theorem dX2_add_4 : decode cX2_add 4 = .ok (.aload_n 0, 1) := by decide +kernel
theorem dX2_add_5 : decode cX2_add 5 = .ok (.getfield 9, 3) := by decide +kernel
theorem dX2_add_8 : decode cX2_add 8 = .ok (.arraylength, 1) := by decide +kernel
theorem dX2_add_9 : decode cX2_add 9 = .ok (.if_icmp .ge 23, 3) := by decide +kernel
theorem dX2_add_12 : decode cX2_add 12 = .ok (.aload_n 0, 1) := by decide +kernel
theorem dX2_add_13 : decode cX2_add 13 = .ok (.getfield 9, 3) := by decide +kernel
theorem dX2_add_16 : decode cX2_add 16 = .ok (.aload_n 0, 1) := by decide +kernel
theorem dX2_add_17 : decode cX2_add 17 = .ok (.getfield 15, 3) := by decide +kernel
theorem dX2_add_20 : decode cX2_add 20 = .ok (.iload_n 1, 1) := by decide +kernel
theorem dX2_add_21 : decode cX2_add 21 = .ok (.iastore, 1) := by decide +kernel
theorem dX2_add_22 : decode cX2_add 22 = .ok (.aload_n 0, 1) := by decide +kernel
theorem dX2_add_23 : decode cX2_add 23 = .ok (.dup, 1) := by decide +kernel
theorem dX2_add_24 : decode cX2_add 24 = .ok (.getfield 15, 3) := by decide +kernel
theorem dX2_add_27 : decode cX2_add 27 = .ok (.iconst 1, 1) := by decide +kernel
theorem dX2_add_28 : decode cX2_add 28 = .ok (.iadd, 1) := by decide +kernel
theorem dX2_add_29 : decode cX2_add 29 = .ok (.putfield 15, 3) := by decide +kernel
theorem dX2_add_32 : decode cX2_add 32 = .ok (.return_, 1) := by decide +kernel
theorem dX2_forget_0 : decode cX2_forget 0 = .ok (.aload_n 0, 1) := by decide +kernel
theorem dX2_forget_1 : decode cX2_forget 1 = .ok (.iconst 0, 1) := by decide +kernel
theorem dX2_forget_2 : decode cX2_forget 2 = .ok (.putfield 15, 3) := by decide +kernel
theorem dX2_forget_5 : decode cX2_forget 5 = .ok (.aload_n 0, 1) := by decide +kernel
theorem dX2_forget_6 : decode cX2_forget 6 = .ok (.iconst 0, 1) := by decide +kernel
theorem dX2_forget_7 : decode cX2_forget 7 = .ok (.putfield 19, 3) := by decide +kernel
theorem dX2_forget_10 : decode cX2_forget 10 = .ok (.return_, 1) := by decide +kernel
theorem dX3_addSeat_0 : decode cX3_addSeat 0 = .ok (.aload_n 0, 1) := by decide +kernel
theorem dX3_addSeat_1 : decode cX3_addSeat 1 = .ok (.getfield 32, 3) := by decide +kernel
theorem dX3_addSeat_4 : decode cX3_addSeat 4 = .ok (.bipush 24, 2) := by decide +kernel
theorem dX3_addSeat_6 : decode cX3_addSeat 6 = .ok (.if_icmp .lt 5, 3) := by decide +kernel
theorem dX3_addSeat_9 : decode cX3_addSeat 9 = .ok (.iconst (-1), 1) := by decide +kernel
theorem dX3_addSeat_10 : decode cX3_addSeat 10 = .ok (.ireturn, 1) := by decide +kernel
theorem dX3_addSeat_11 : decode cX3_addSeat 11 = .ok (.aload_n 0, 1) := by decide +kernel
theorem dX3_addSeat_12 : decode cX3_addSeat 12 = .ok (.getfield 15, 3) := by decide +kernel
theorem dX3_addSeat_15 : decode cX3_addSeat 15 = .ok (.aload_n 0, 1) := by decide +kernel
theorem dX3_addSeat_16 : decode cX3_addSeat 16 = .ok (.getfield 32, 3) := by decide +kernel
theorem dX3_addSeat_19 : decode cX3_addSeat 19 = .ok (.iload_n 1, 1) := by decide +kernel
theorem dX3_addSeat_20 : decode cX3_addSeat 20 = .ok (.iastore, 1) := by decide +kernel
theorem dX3_addSeat_21 : decode cX3_addSeat 21 = .ok (.aload_n 0, 1) := by decide +kernel
theorem dX3_addSeat_22 : decode cX3_addSeat 22 = .ok (.getfield 19, 3) := by decide +kernel
theorem dX3_addSeat_25 : decode cX3_addSeat 25 = .ok (.aload_n 0, 1) := by decide +kernel
theorem dX3_addSeat_26 : decode cX3_addSeat 26 = .ok (.getfield 32, 3) := by decide +kernel
theorem dX3_addSeat_29 : decode cX3_addSeat 29 = .ok (.iload_n 2, 1) := by decide +kernel
theorem dX3_addSeat_30 : decode cX3_addSeat 30 = .ok (.iastore, 1) := by decide +kernel
theorem dX3_addSeat_31 : decode cX3_addSeat 31 = .ok (.aload_n 0, 1) := by decide +kernel
theorem dX3_addSeat_32 : decode cX3_addSeat 32 = .ok (.getfield 22, 3) := by decide +kernel
theorem dX3_addSeat_35 : decode cX3_addSeat 35 = .ok (.aload_n 0, 1) := by decide +kernel
theorem dX3_addSeat_36 : decode cX3_addSeat 36 = .ok (.getfield 32, 3) := by decide +kernel
theorem dX3_addSeat_39 : decode cX3_addSeat 39 = .ok (.iload_n 3, 1) := by decide +kernel
theorem dX3_addSeat_40 : decode cX3_addSeat 40 = .ok (.iastore, 1) := by decide +kernel
theorem dX3_addSeat_41 : decode cX3_addSeat 41 = .ok (.aload_n 0, 1) := by decide +kernel
theorem dX3_addSeat_42 : decode cX3_addSeat 42 = .ok (.getfield 25, 3) := by decide +kernel
theorem dX3_addSeat_45 : decode cX3_addSeat 45 = .ok (.aload_n 0, 1) := by decide +kernel
theorem dX3_addSeat_46 : decode cX3_addSeat 46 = .ok (.getfield 32, 3) := by decide +kernel
theorem dX3_addSeat_49 : decode cX3_addSeat 49 = .ok (.iconst (-1), 1) := by decide +kernel
theorem dX3_addSeat_50 : decode cX3_addSeat 50 = .ok (.iastore, 1) := by decide +kernel
theorem dX3_addSeat_51 : decode cX3_addSeat 51 = .ok (.aload_n 0, 1) := by decide +kernel
theorem dX3_addSeat_52 : decode cX3_addSeat 52 = .ok (.dup, 1) := by decide +kernel
theorem dX3_addSeat_53 : decode cX3_addSeat 53 = .ok (.getfield 32, 3) := by decide +kernel
theorem dX3_addSeat_56 : decode cX3_addSeat 56 = .ok (.iconst 1, 1) := by decide +kernel
theorem dX3_addSeat_57 : decode cX3_addSeat 57 = .ok (.iadd, 1) := by decide +kernel
theorem dX3_addSeat_58 : decode cX3_addSeat 58 = .ok (.putfield 32, 3) := by decide +kernel
theorem dX3_addSeat_61 : decode cX3_addSeat 61 = .ok (.aload_n 0, 1) := by decide +kernel
theorem dX3_addSeat_62 : decode cX3_addSeat 62 = .ok (.getfield 32, 3) := by decide +kernel
theorem dX3_addSeat_65 : decode cX3_addSeat 65 = .ok (.iconst 1, 1) := by decide +kernel
theorem dX3_addSeat_66 : decode cX3_addSeat 66 = .ok (.isub, 1) := by decide +kernel
theorem dX3_addSeat_67 : decode cX3_addSeat 67 = .ok (.ireturn, 1) := by decide +kernel
theorem dX3_addStrike_0 : decode cX3_addStrike 0 = .ok (.aload_n 0, 1) := by decide +kernel
theorem dX3_addStrike_1 : decode cX3_addStrike 1 = .ok (.getfield 32, 3) := by decide +kernel
theorem dX3_addStrike_4 : decode cX3_addStrike 4 = .ok (.bipush 24, 2) := by decide +kernel
theorem dX3_addStrike_6 : decode cX3_addStrike 6 = .ok (.if_icmp .lt 5, 3) := by decide +kernel
theorem dX3_addStrike_9 : decode cX3_addStrike 9 = .ok (.iconst (-1), 1) := by decide +kernel
theorem dX3_addStrike_10 : decode cX3_addStrike 10 = .ok (.ireturn, 1) := by decide +kernel
theorem dX3_addStrike_11 : decode cX3_addStrike 11 = .ok (.aload_n 0, 1) := by decide +kernel
theorem dX3_addStrike_12 : decode cX3_addStrike 12 = .ok (.getfield 19, 3) := by decide +kernel
theorem dX3_addStrike_15 : decode cX3_addStrike 15 = .ok (.aload_n 0, 1) := by decide +kernel
theorem dX3_addStrike_16 : decode cX3_addStrike 16 = .ok (.getfield 32, 3) := by decide +kernel
theorem dX3_addStrike_19 : decode cX3_addStrike 19 = .ok (.iconst (-1), 1) := by decide +kernel
theorem dX3_addStrike_20 : decode cX3_addStrike 20 = .ok (.iastore, 1) := by decide +kernel
theorem dX3_addStrike_21 : decode cX3_addStrike 21 = .ok (.aload_n 0, 1) := by decide +kernel
theorem dX3_addStrike_22 : decode cX3_addStrike 22 = .ok (.getfield 25, 3) := by decide +kernel
theorem dX3_addStrike_25 : decode cX3_addStrike 25 = .ok (.aload_n 0, 1) := by decide +kernel
theorem dX3_addStrike_26 : decode cX3_addStrike 26 = .ok (.getfield 32, 3) := by decide +kernel
theorem dX3_addStrike_29 : decode cX3_addStrike 29 = .ok (.iload_n 1, 1) := by decide +kernel
theorem dX3_addStrike_30 : decode cX3_addStrike 30 = .ok (.iastore, 1) := by decide +kernel
theorem dX3_addStrike_31 : decode cX3_addStrike 31 = .ok (.aload_n 0, 1) := by decide +kernel
theorem dX3_addStrike_32 : decode cX3_addStrike 32 = .ok (.dup, 1) := by decide +kernel
theorem dX3_addStrike_33 : decode cX3_addStrike 33 = .ok (.getfield 32, 3) := by decide +kernel
theorem dX3_addStrike_36 : decode cX3_addStrike 36 = .ok (.iconst 1, 1) := by decide +kernel
theorem dX3_addStrike_37 : decode cX3_addStrike 37 = .ok (.iadd, 1) := by decide +kernel
theorem dX3_addStrike_38 : decode cX3_addStrike 38 = .ok (.putfield 32, 3) := by decide +kernel
theorem dX3_addStrike_41 : decode cX3_addStrike 41 = .ok (.aload_n 0, 1) := by decide +kernel
theorem dX3_addStrike_42 : decode cX3_addStrike 42 = .ok (.getfield 32, 3) := by decide +kernel
theorem dX3_addStrike_45 : decode cX3_addStrike 45 = .ok (.iconst 1, 1) := by decide +kernel
theorem dX3_addStrike_46 : decode cX3_addStrike 46 = .ok (.isub, 1) := by decide +kernel
theorem dX3_addStrike_47 : decode cX3_addStrike 47 = .ok (.ireturn, 1) := by decide +kernel
theorem dX3_howManyKnown_0 : decode cX3_howManyKnown 0 = .ok (.aload_n 0, 1) := by decide +kernel
theorem dX3_howManyKnown_1 : decode cX3_howManyKnown 1 = .ok (.getfield 9, 3) := by decide +kernel
theorem dX3_howManyKnown_4 : decode cX3_howManyKnown 4 = .ok (.iconst (-1), 1) := by decide +kernel
theorem dX3_howManyKnown_5 : decode cX3_howManyKnown 5 = .ok (.if_icmp .ne 10, 3) := by decide +kernel
theorem dX3_howManyKnown_8 : decode cX3_howManyKnown 8 = .ok (.aload_n 0, 1) := by decide +kernel
theorem dX3_howManyKnown_9 : decode cX3_howManyKnown 9 = .ok (.getfield 32, 3) := by decide +kernel
theorem dX3_howManyKnown_12 : decode cX3_howManyKnown 12 = .ok (.goto 7, 3) := by decide +kernel
theorem dX3_howManyKnown_15 : decode cX3_howManyKnown 15 = .ok (.aload_n 0, 1) := by decide +kernel
theorem dX3_howManyKnown_16 : decode cX3_howManyKnown 16 = .ok (.getfield 9, 3) := by decide +kernel
theorem dX3_howManyKnown_19 : decode cX3_howManyKnown 19 = .ok (.ireturn, 1) := by decide +kernel
theorem dX3_findStruck_0 : decode cX3_findStruck 0 = .ok (.aload_n 0, 1) := by decide +kernel
theorem dX3_findStruck_1 : decode cX3_findStruck 1 = .ok (.invokevirtual 35, 3) := by decide +kernel
theorem dX3_findStruck_4 : decode cX3_findStruck 4 = .ok (.istore_n 1, 1) := by decide +kernel
theorem dX3_findStruck_5 : decode cX3_findStruck 5 = .ok (.iconst 0, 1) := by decide +kernel
theorem dX3_findStruck_6 : decode cX3_findStruck 6 = .ok (.istore_n 2, 1) := by decide +kernel
theorem dX3_findStruck_7 : decode cX3_findStruck 7 = .ok (.iload_n 2, 1) := by decide +kernel
theorem dX3_findStruck_8 : decode cX3_findStruck 8 = .ok (.iload_n 1, 1) := by decide +kernel
theorem dX3_findStruck_9 : decode cX3_findStruck 9 = .ok (.if_icmp .ge 16, 3) := by decide +kernel
theorem dX3_findStruck_12 : decode cX3_findStruck 12 = .ok (.aload_n 0, 1) := by decide +kernel
theorem dX3_findStruck_13 : decode cX3_findStruck 13 = .ok (.getfield 28, 3) := by decide +kernel
theorem dX3_findStruck_16 : decode cX3_findStruck 16 = .ok (.iload_n 2, 1) := by decide +kernel
theorem dX3_findStruck_17 : decode cX3_findStruck 17 = .ok (.iconst 0, 1) := by decide +kernel
theorem dX3_findStruck_18 : decode cX3_findStruck 18 = .ok (.bastore, 1) := by decide +kernel
theorem dX3_findStruck_19 : decode cX3_findStruck 19 = .ok (.iinc 2 1, 3) := by decide +kernel
theorem dX3_findStruck_22 : decode cX3_findStruck 22 = .ok (.goto (-15), 3) := by decide +kernel
theorem dX3_findStruck_25 : decode cX3_findStruck 25 = .ok (.iload_n 1, 1) := by decide +kernel
theorem dX3_findStruck_26 : decode cX3_findStruck 26 = .ok (.iconst 1, 1) := by decide +kernel
theorem dX3_findStruck_27 : decode cX3_findStruck 27 = .ok (.isub, 1) := by decide +kernel
theorem dX3_findStruck_28 : decode cX3_findStruck 28 = .ok (.istore_n 2, 1) := by decide +kernel
theorem dX3_findStruck_29 : decode cX3_findStruck 29 = .ok (.iload_n 2, 1) := by decide +kernel
theorem dX3_findStruck_30 : decode cX3_findStruck 30 = .ok (.ifCond .lt 40, 3) := by decide +kernel
theorem dX3_findStruck_33 : decode cX3_findStruck 33 = .ok (.aload_n 0, 1) := by decide +kernel
theorem dX3_findStruck_34 : decode cX3_findStruck 34 = .ok (.getfield 28, 3) := by decide +kernel
theorem dX3_findStruck_37 : decode cX3_findStruck 37 = .ok (.iload_n 2, 1) := by decide +kernel
theorem dX3_findStruck_38 : decode cX3_findStruck 38 = .ok (.baload, 1) := by decide +kernel
theorem dX3_findStruck_39 : decode cX3_findStruck 39 = .ok (.ifCond .ne 25, 3) := by decide +kernel
theorem dX3_findStruck_42 : decode cX3_findStruck 42 = .ok (.aload_n 0, 1) := by decide +kernel
theorem dX3_findStruck_43 : decode cX3_findStruck 43 = .ok (.getfield 25, 3) := by decide +kernel
theorem dX3_findStruck_46 : decode cX3_findStruck 46 = .ok (.iload_n 2, 1) := by decide +kernel
theorem dX3_findStruck_47 : decode cX3_findStruck 47 = .ok (.iaload, 1) := by decide +kernel
theorem dX3_findStruck_48 : decode cX3_findStruck 48 = .ok (.iconst (-1), 1) := by decide +kernel
theorem dX3_findStruck_49 : decode cX3_findStruck 49 = .ok (.if_icmp .eq 15, 3) := by decide +kernel
theorem dX3_findStruck_52 : decode cX3_findStruck 52 = .ok (.aload_n 0, 1) := by decide +kernel
theorem dX3_findStruck_53 : decode cX3_findStruck 53 = .ok (.getfield 28, 3) := by decide +kernel
theorem dX3_findStruck_56 : decode cX3_findStruck 56 = .ok (.aload_n 0, 1) := by decide +kernel
theorem dX3_findStruck_57 : decode cX3_findStruck 57 = .ok (.getfield 25, 3) := by decide +kernel
theorem dX3_findStruck_60 : decode cX3_findStruck 60 = .ok (.iload_n 2, 1) := by decide +kernel
theorem dX3_findStruck_61 : decode cX3_findStruck 61 = .ok (.iaload, 1) := by decide +kernel
theorem dX3_findStruck_62 : decode cX3_findStruck 62 = .ok (.iconst 1, 1) := by decide +kernel
theorem dX3_findStruck_63 : decode cX3_findStruck 63 = .ok (.bastore, 1) := by decide +kernel
theorem dX3_findStruck_64 : decode cX3_findStruck 64 = .ok (.iinc 2 (-1), 3) := by decide +kernel
theorem dX3_findStruck_67 : decode cX3_findStruck 67 = .ok (.goto (-38), 3) := by decide +kernel
theorem dX3_findStruck_70 : decode cX3_findStruck 70 = .ok (.return_, 1) := by decide +kernel
theorem dX3_isKnownSeat_0 : decode cX3_isKnownSeat 0 = .ok (.aload_n 0, 1) := by decide +kernel
theorem dX3_isKnownSeat_1 : decode cX3_isKnownSeat 1 = .ok (.getfield 28, 3) := by decide +kernel
theorem dX3_isKnownSeat_4 : decode cX3_isKnownSeat 4 = .ok (.iload_n 1, 1) := by decide +kernel
theorem dX3_isKnownSeat_5 : decode cX3_isKnownSeat 5 = .ok (.baload, 1) := by decide +kernel
theorem dX3_isKnownSeat_6 : decode cX3_isKnownSeat 6 = .ok (.ifCond .ne 17, 3) := by decide +kernel
theorem dX3_isKnownSeat_9 : decode cX3_isKnownSeat 9 = .ok (.aload_n 0, 1) := by decide +kernel
theorem dX3_isKnownSeat_10 : decode cX3_isKnownSeat 10 = .ok (.getfield 25, 3) := by decide +kernel
theorem dX3_isKnownSeat_13 : decode cX3_isKnownSeat 13 = .ok (.iload_n 1, 1) := by decide +kernel
theorem dX3_isKnownSeat_14 : decode cX3_isKnownSeat 14 = .ok (.iaload, 1) := by decide +kernel
theorem dX3_isKnownSeat_15 : decode cX3_isKnownSeat 15 = .ok (.iconst (-1), 1) := by decide +kernel
theorem dX3_isKnownSeat_16 : decode cX3_isKnownSeat 16 = .ok (.if_icmp .ne 7, 3) := by decide +kernel
theorem dX3_isKnownSeat_19 : decode cX3_isKnownSeat 19 = .ok (.iconst 1, 1) := by decide +kernel
theorem dX3_isKnownSeat_20 : decode cX3_isKnownSeat 20 = .ok (.goto 4, 3) := by decide +kernel
theorem dX3_isKnownSeat_23 : decode cX3_isKnownSeat 23 = .ok (.iconst 0, 1) := by decide +kernel
theorem dX3_isKnownSeat_24 : decode cX3_isKnownSeat 24 = .ok (.ireturn, 1) := by decide +kernel
theorem dX4_begin_0 : decode cX4_begin 0 = .ok (.aload_n 0, 1) := by decide +kernel
theorem dX4_begin_1 : decode cX4_begin 1 = .ok (.iconst 0, 1) := by decide +kernel
theorem dX4_begin_2 : decode cX4_begin 2 = .ok (.putfield 30, 3) := by decide +kernel
theorem dX4_begin_5 : decode cX4_begin 5 = .ok (.aload_n 0, 1) := by decide +kernel
theorem dX4_begin_6 : decode cX4_begin 6 = .ok (.aload_n 1, 1) := by decide +kernel
theorem dX4_begin_7 : decode cX4_begin 7 = .ok (.getfield 34, 3) := by decide +kernel
theorem dX4_begin_10 : decode cX4_begin 10 = .ok (.putfield 39, 3) := by decide +kernel
theorem dX4_begin_13 : decode cX4_begin 13 = .ok (.aload_n 0, 1) := by decide +kernel
theorem dX4_begin_14 : decode cX4_begin 14 = .ok (.aload_n 1, 1) := by decide +kernel
theorem dX4_begin_15 : decode cX4_begin 15 = .ok (.getfield 40, 3) := by decide +kernel
theorem dX4_begin_18 : decode cX4_begin 18 = .ok (.putfield 43, 3) := by decide +kernel
theorem dX4_begin_21 : decode cX4_begin 21 = .ok (.aload_n 0, 1) := by decide +kernel
theorem dX4_begin_22 : decode cX4_begin 22 = .ok (.iconst 0, 1) := by decide +kernel
theorem dX4_begin_23 : decode cX4_begin 23 = .ok (.putfield 46, 3) := by decide +kernel
theorem dX4_begin_26 : decode cX4_begin 26 = .ok (.aload_n 0, 1) := by decide +kernel
theorem dX4_begin_27 : decode cX4_begin 27 = .ok (.iconst 0, 1) := by decide +kernel
theorem dX4_begin_28 : decode cX4_begin 28 = .ok (.putfield 49, 3) := by decide +kernel
theorem dX4_begin_31 : decode cX4_begin 31 = .ok (.iconst 0, 1) := by decide +kernel
theorem dX4_begin_32 : decode cX4_begin 32 = .ok (.istore_n 2, 1) := by decide +kernel
theorem dX4_begin_33 : decode cX4_begin 33 = .ok (.iload_n 2, 1) := by decide +kernel
theorem dX4_begin_34 : decode cX4_begin 34 = .ok (.iconst 5, 1) := by decide +kernel
theorem dX4_begin_35 : decode cX4_begin 35 = .ok (.if_icmp .ge 52, 3) := by decide +kernel
theorem dX4_begin_38 : decode cX4_begin 38 = .ok (.aload_n 0, 1) := by decide +kernel
theorem dX4_begin_39 : decode cX4_begin 39 = .ok (.getfield 9, 3) := by decide +kernel
theorem dX4_begin_42 : decode cX4_begin 42 = .ok (.iload_n 2, 1) := by decide +kernel
theorem dX4_begin_43 : decode cX4_begin 43 = .ok (.aload_n 1, 1) := by decide +kernel
theorem dX4_begin_44 : decode cX4_begin 44 = .ok (.getfield 52, 3) := by decide +kernel
theorem dX4_begin_47 : decode cX4_begin 47 = .ok (.getfield 56, 3) := by decide +kernel
theorem dX4_begin_50 : decode cX4_begin 50 = .ok (.iload_n 2, 1) := by decide +kernel
theorem dX4_begin_51 : decode cX4_begin 51 = .ok (.iaload, 1) := by decide +kernel
theorem dX4_begin_52 : decode cX4_begin 52 = .ok (.iastore, 1) := by decide +kernel
theorem dX4_begin_53 : decode cX4_begin 53 = .ok (.aload_n 0, 1) := by decide +kernel
theorem dX4_begin_54 : decode cX4_begin 54 = .ok (.getfield 15, 3) := by decide +kernel
theorem dX4_begin_57 : decode cX4_begin 57 = .ok (.iload_n 2, 1) := by decide +kernel
theorem dX4_begin_58 : decode cX4_begin 58 = .ok (.iconst 0, 1) := by decide +kernel
theorem dX4_begin_59 : decode cX4_begin 59 = .ok (.iastore, 1) := by decide +kernel
theorem dX4_begin_60 : decode cX4_begin 60 = .ok (.aload_n 0, 1) := by decide +kernel
theorem dX4_begin_61 : decode cX4_begin 61 = .ok (.getfield 18, 3) := by decide +kernel
theorem dX4_begin_64 : decode cX4_begin 64 = .ok (.iload_n 2, 1) := by decide +kernel
theorem dX4_begin_65 : decode cX4_begin 65 = .ok (.iconst 0, 1) := by decide +kernel
theorem dX4_begin_66 : decode cX4_begin 66 = .ok (.iastore, 1) := by decide +kernel
theorem dX4_begin_67 : decode cX4_begin 67 = .ok (.aload_n 0, 1) := by decide +kernel
theorem dX4_begin_68 : decode cX4_begin 68 = .ok (.getfield 21, 3) := by decide +kernel
theorem dX4_begin_71 : decode cX4_begin 71 = .ok (.iload_n 2, 1) := by decide +kernel
theorem dX4_begin_72 : decode cX4_begin 72 = .ok (.iconst 0, 1) := by decide +kernel
theorem dX4_begin_73 : decode cX4_begin 73 = .ok (.iastore, 1) := by decide +kernel
theorem dX4_begin_74 : decode cX4_begin 74 = .ok (.aload_n 0, 1) := by decide +kernel
theorem dX4_begin_75 : decode cX4_begin 75 = .ok (.getfield 24, 3) := by decide +kernel
theorem dX4_begin_78 : decode cX4_begin 78 = .ok (.iload_n 2, 1) := by decide +kernel
theorem dX4_begin_79 : decode cX4_begin 79 = .ok (.iconst 0, 1) := by decide +kernel
theorem dX4_begin_80 : decode cX4_begin 80 = .ok (.iastore, 1) := by decide +kernel
theorem dX4_begin_81 : decode cX4_begin 81 = .ok (.iinc 2 1, 3) := by decide +kernel
theorem dX4_begin_84 : decode cX4_begin 84 = .ok (.goto (-51), 3) := by decide +kernel
theorem dX4_begin_87 : decode cX4_begin 87 = .ok (.iconst 0, 1) := by decide +kernel
theorem dX4_begin_88 : decode cX4_begin 88 = .ok (.istore_n 2, 1) := by decide +kernel
theorem dX4_begin_89 : decode cX4_begin 89 = .ok (.iload_n 2, 1) := by decide +kernel
theorem dX4_begin_90 : decode cX4_begin 90 = .ok (.bipush 28, 2) := by decide +kernel
theorem dX4_begin_92 : decode cX4_begin 92 = .ok (.if_icmp .ge 17, 3) := by decide +kernel
theorem dX4_begin_95 : decode cX4_begin 95 = .ok (.aload_n 0, 1) := by decide +kernel
theorem dX4_begin_96 : decode cX4_begin 96 = .ok (.getfield 27, 3) := by decide +kernel
theorem dX4_begin_99 : decode cX4_begin 99 = .ok (.iload_n 2, 1) := by decide +kernel
theorem dX4_begin_100 : decode cX4_begin 100 = .ok (.bipush (-2), 2) := by decide +kernel
theorem dX4_begin_102 : decode cX4_begin 102 = .ok (.iastore, 1) := by decide +kernel
theorem dX4_begin_103 : decode cX4_begin 103 = .ok (.iinc 2 1, 3) := by decide +kernel
theorem dX4_begin_106 : decode cX4_begin 106 = .ok (.goto (-17), 3) := by decide +kernel
theorem dX4_begin_109 : decode cX4_begin 109 = .ok (.return_, 1) := by decide +kernel
theorem dX4_isIn_0 : decode cX4_isIn 0 = .ok (.aload_n 0, 1) := by decide +kernel
theorem dX4_isIn_1 : decode cX4_isIn 1 = .ok (.getfield 21, 3) := by decide +kernel
theorem dX4_isIn_4 : decode cX4_isIn 4 = .ok (.iload_n 1, 1) := by decide +kernel
theorem dX4_isIn_5 : decode cX4_isIn 5 = .ok (.iaload, 1) := by decide +kernel
theorem dX4_isIn_6 : decode cX4_isIn 6 = .ok (.iload_n 2, 1) := by decide +kernel
theorem dX4_isIn_7 : decode cX4_isIn 7 = .ok (.if_icmp .gt 7, 3) := by decide +kernel
theorem dX4_isIn_10 : decode cX4_isIn 10 = .ok (.iconst 1, 1) := by decide +kernel
theorem dX4_isIn_11 : decode cX4_isIn 11 = .ok (.goto 4, 3) := by decide +kernel
theorem dX4_isIn_14 : decode cX4_isIn 14 = .ok (.iconst 0, 1) := by decide +kernel
theorem dX4_isIn_15 : decode cX4_isIn 15 = .ok (.ireturn, 1) := by decide +kernel
theorem dX4_beginMinute_0 : decode cX4_beginMinute 0 = .ok (.aload_n 0, 1) := by decide +kernel
theorem dX4_beginMinute_1 : decode cX4_beginMinute 1 = .ok (.dup, 1) := by decide +kernel
theorem dX4_beginMinute_2 : decode cX4_beginMinute 2 = .ok (.getfield 30, 3) := by decide +kernel
theorem dX4_beginMinute_5 : decode cX4_beginMinute 5 = .ok (.iconst 1, 1) := by decide +kernel
theorem dX4_beginMinute_6 : decode cX4_beginMinute 6 = .ok (.iadd, 1) := by decide +kernel
theorem dX4_beginMinute_7 : decode cX4_beginMinute 7 = .ok (.putfield 30, 3) := by decide +kernel
theorem dX4_beginMinute_10 : decode cX4_beginMinute 10 = .ok (.iconst 0, 1) := by decide +kernel
theorem dX4_beginMinute_11 : decode cX4_beginMinute 11 = .ok (.istore_n 2, 1) := by decide +kernel
theorem dX4_beginMinute_12 : decode cX4_beginMinute 12 = .ok (.iload_n 2, 1) := by decide +kernel
theorem dX4_beginMinute_13 : decode cX4_beginMinute 13 = .ok (.iload_n 1, 1) := by decide +kernel
theorem dX4_beginMinute_14 : decode cX4_beginMinute 14 = .ok (.if_icmp .ge 35, 3) := by decide +kernel
theorem dX4_beginMinute_17 : decode cX4_beginMinute 17 = .ok (.aload_n 0, 1) := by decide +kernel
theorem dX4_beginMinute_18 : decode cX4_beginMinute 18 = .ok (.iload_n 2, 1) := by decide +kernel
theorem dX4_beginMinute_19 : decode cX4_beginMinute 19 = .ok (.aload_n 0, 1) := by decide +kernel
theorem dX4_beginMinute_20 : decode cX4_beginMinute 20 = .ok (.getfield 30, 3) := by decide +kernel
theorem dX4_beginMinute_23 : decode cX4_beginMinute 23 = .ok (.invokevirtual 72, 3) := by decide +kernel
theorem dX4_beginMinute_26 : decode cX4_beginMinute 26 = .ok (.ifCond .eq 10, 3) := by decide +kernel
theorem dX4_beginMinute_29 : decode cX4_beginMinute 29 = .ok (.aload_n 0, 1) := by decide +kernel
theorem dX4_beginMinute_30 : decode cX4_beginMinute 30 = .ok (.getfield 21, 3) := by decide +kernel
theorem dX4_beginMinute_33 : decode cX4_beginMinute 33 = .ok (.iload_n 2, 1) := by decide +kernel
theorem dX4_beginMinute_34 : decode cX4_beginMinute 34 = .ok (.iconst 0, 1) := by decide +kernel
theorem dX4_beginMinute_35 : decode cX4_beginMinute 35 = .ok (.iastore, 1) := by decide +kernel
theorem dX4_beginMinute_36 : decode cX4_beginMinute 36 = .ok (.aload_n 0, 1) := by decide +kernel
theorem dX4_beginMinute_37 : decode cX4_beginMinute 37 = .ok (.getfield 24, 3) := by decide +kernel
theorem dX4_beginMinute_40 : decode cX4_beginMinute 40 = .ok (.iload_n 2, 1) := by decide +kernel
theorem dX4_beginMinute_41 : decode cX4_beginMinute 41 = .ok (.iconst 0, 1) := by decide +kernel
theorem dX4_beginMinute_42 : decode cX4_beginMinute 42 = .ok (.iastore, 1) := by decide +kernel
theorem dX4_beginMinute_43 : decode cX4_beginMinute 43 = .ok (.iinc 2 1, 3) := by decide +kernel
theorem dX4_beginMinute_46 : decode cX4_beginMinute 46 = .ok (.goto (-34), 3) := by decide +kernel
theorem dX4_beginMinute_49 : decode cX4_beginMinute 49 = .ok (.return_, 1) := by decide +kernel
theorem dX4_drawHundredth_0 : decode cX4_drawHundredth 0 = .ok (.aload_n 0, 1) := by decide +kernel
theorem dX4_drawHundredth_1 : decode cX4_drawHundredth 1 = .ok (.aload_n 0, 1) := by decide +kernel
theorem dX4_drawHundredth_2 : decode cX4_drawHundredth 2 = .ok (.getfield 43, 3) := by decide +kernel
theorem dX4_drawHundredth_5 : decode cX4_drawHundredth 5 = .ok (.i2l, 1) := by decide +kernel
theorem dX4_drawHundredth_6 : decode cX4_drawHundredth 6 = .ok (.ldc2_w 76, 3) := by decide +kernel
theorem dX4_drawHundredth_9 : decode cX4_drawHundredth 9 = .ok (.lmul, 1) := by decide +kernel
theorem dX4_drawHundredth_10 : decode cX4_drawHundredth 10 = .ok (.ldc2_w 78, 3) := by decide +kernel
theorem dX4_drawHundredth_13 : decode cX4_drawHundredth 13 = .ok (.ladd, 1) := by decide +kernel
theorem dX4_drawHundredth_14 : decode cX4_drawHundredth 14 = .ok (.ldc2_w 80, 3) := by decide +kernel
theorem dX4_drawHundredth_17 : decode cX4_drawHundredth 17 = .ok (.land, 1) := by decide +kernel
theorem dX4_drawHundredth_18 : decode cX4_drawHundredth 18 = .ok (.l2i, 1) := by decide +kernel
theorem dX4_drawHundredth_19 : decode cX4_drawHundredth 19 = .ok (.putfield 43, 3) := by decide +kernel
theorem dX4_drawHundredth_22 : decode cX4_drawHundredth 22 = .ok (.aload_n 0, 1) := by decide +kernel
theorem dX4_drawHundredth_23 : decode cX4_drawHundredth 23 = .ok (.getfield 43, 3) := by decide +kernel
theorem dX4_drawHundredth_26 : decode cX4_drawHundredth 26 = .ok (.bipush 16, 2) := by decide +kernel
theorem dX4_drawHundredth_28 : decode cX4_drawHundredth 28 = .ok (.ishr, 1) := by decide +kernel
theorem dX4_drawHundredth_29 : decode cX4_drawHundredth 29 = .ok (.bipush 100, 2) := by decide +kernel
theorem dX4_drawHundredth_31 : decode cX4_drawHundredth 31 = .ok (.irem, 1) := by decide +kernel
theorem dX4_drawHundredth_32 : decode cX4_drawHundredth 32 = .ok (.ireturn, 1) := by decide +kernel
theorem dX4_hadInSum_0 : decode cX4_hadInSum 0 = .ok (.iconst 0, 1) := by decide +kernel
theorem dX4_hadInSum_1 : decode cX4_hadInSum 1 = .ok (.istore_n 2, 1) := by decide +kernel
theorem dX4_hadInSum_2 : decode cX4_hadInSum 2 = .ok (.iconst 0, 1) := by decide +kernel
theorem dX4_hadInSum_3 : decode cX4_hadInSum 3 = .ok (.istore_n 3, 1) := by decide +kernel
theorem dX4_hadInSum_4 : decode cX4_hadInSum 4 = .ok (.iload_n 3, 1) := by decide +kernel
theorem dX4_hadInSum_5 : decode cX4_hadInSum 5 = .ok (.iload_n 1, 1) := by decide +kernel
theorem dX4_hadInSum_6 : decode cX4_hadInSum 6 = .ok (.if_icmp .ge 18, 3) := by decide +kernel
theorem dX4_hadInSum_9 : decode cX4_hadInSum 9 = .ok (.iload_n 2, 1) := by decide +kernel
theorem dX4_hadInSum_10 : decode cX4_hadInSum 10 = .ok (.aload_n 0, 1) := by decide +kernel
theorem dX4_hadInSum_11 : decode cX4_hadInSum 11 = .ok (.getfield 15, 3) := by decide +kernel
theorem dX4_hadInSum_14 : decode cX4_hadInSum 14 = .ok (.iload_n 3, 1) := by decide +kernel
theorem dX4_hadInSum_15 : decode cX4_hadInSum 15 = .ok (.iaload, 1) := by decide +kernel
theorem dX4_hadInSum_16 : decode cX4_hadInSum 16 = .ok (.iadd, 1) := by decide +kernel
theorem dX4_hadInSum_17 : decode cX4_hadInSum 17 = .ok (.istore_n 2, 1) := by decide +kernel
theorem dX4_hadInSum_18 : decode cX4_hadInSum 18 = .ok (.iinc 3 1, 3) := by decide +kernel
theorem dX4_hadInSum_21 : decode cX4_hadInSum 21 = .ok (.goto (-17), 3) := by decide +kernel
theorem dX4_hadInSum_24 : decode cX4_hadInSum 24 = .ok (.iload_n 2, 1) := by decide +kernel
theorem dX4_hadInSum_25 : decode cX4_hadInSum 25 = .ok (.ireturn, 1) := by decide +kernel
theorem dX4_leaveOut_0 : decode cX4_leaveOut 0 = .ok (.aload_n 0, 1) := by decide +kernel
theorem dX4_leaveOut_1 : decode cX4_leaveOut 1 = .ok (.getfield 21, 3) := by decide +kernel
theorem dX4_leaveOut_4 : decode cX4_leaveOut 4 = .ok (.iload_n 1, 1) := by decide +kernel
theorem dX4_leaveOut_5 : decode cX4_leaveOut 5 = .ok (.ldc 71, 2) := by decide +kernel
theorem dX4_leaveOut_7 : decode cX4_leaveOut 7 = .ok (.iastore, 1) := by decide +kernel
theorem dX4_leaveOut_8 : decode cX4_leaveOut 8 = .ok (.return_, 1) := by decide +kernel
theorem dX4_seatAll_0 : decode cX4_seatAll 0 = .ok (.iconst 0, 1) := by decide +kernel
theorem dX4_seatAll_1 : decode cX4_seatAll 1 = .ok (.istore_n 2, 1) := by decide +kernel
theorem dX4_seatAll_2 : decode cX4_seatAll 2 = .ok (.iload_n 2, 1) := by decide +kernel
theorem dX4_seatAll_3 : decode cX4_seatAll 3 = .ok (.iconst 5, 1) := by decide +kernel
theorem dX4_seatAll_4 : decode cX4_seatAll 4 = .ok (.if_icmp .ge 16, 3) := by decide +kernel
theorem dX4_seatAll_7 : decode cX4_seatAll 7 = .ok (.aload_n 0, 1) := by decide +kernel
theorem dX4_seatAll_8 : decode cX4_seatAll 8 = .ok (.getfield 9, 3) := by decide +kernel
theorem dX4_seatAll_11 : decode cX4_seatAll 11 = .ok (.iload_n 2, 1) := by decide +kernel
theorem dX4_seatAll_12 : decode cX4_seatAll 12 = .ok (.iload_n 1, 1) := by decide +kernel
theorem dX4_seatAll_13 : decode cX4_seatAll 13 = .ok (.iastore, 1) := by decide +kernel
theorem dX4_seatAll_14 : decode cX4_seatAll 14 = .ok (.iinc 2 1, 3) := by decide +kernel
theorem dX4_seatAll_17 : decode cX4_seatAll 17 = .ok (.goto (-15), 3) := by decide +kernel
theorem dX4_seatAll_20 : decode cX4_seatAll 20 = .ok (.return_, 1) := by decide +kernel
theorem dX4_takeAll_0 : decode cX4_takeAll 0 = .ok (.aload_n 0, 1) := by decide +kernel
theorem dX4_takeAll_1 : decode cX4_takeAll 1 = .ok (.aload_n 1, 1) := by decide +kernel
theorem dX4_takeAll_2 : decode cX4_takeAll 2 = .ok (.getfield 30, 3) := by decide +kernel
theorem dX4_takeAll_5 : decode cX4_takeAll 5 = .ok (.putfield 30, 3) := by decide +kernel
theorem dX4_takeAll_8 : decode cX4_takeAll 8 = .ok (.aload_n 0, 1) := by decide +kernel
theorem dX4_takeAll_9 : decode cX4_takeAll 9 = .ok (.aload_n 1, 1) := by decide +kernel
theorem dX4_takeAll_10 : decode cX4_takeAll 10 = .ok (.getfield 39, 3) := by decide +kernel
theorem dX4_takeAll_13 : decode cX4_takeAll 13 = .ok (.putfield 39, 3) := by decide +kernel
theorem dX4_takeAll_16 : decode cX4_takeAll 16 = .ok (.aload_n 0, 1) := by decide +kernel
theorem dX4_takeAll_17 : decode cX4_takeAll 17 = .ok (.aload_n 1, 1) := by decide +kernel
theorem dX4_takeAll_18 : decode cX4_takeAll 18 = .ok (.getfield 43, 3) := by decide +kernel
theorem dX4_takeAll_21 : decode cX4_takeAll 21 = .ok (.putfield 43, 3) := by decide +kernel
theorem dX4_takeAll_24 : decode cX4_takeAll 24 = .ok (.aload_n 0, 1) := by decide +kernel
theorem dX4_takeAll_25 : decode cX4_takeAll 25 = .ok (.aload_n 1, 1) := by decide +kernel
theorem dX4_takeAll_26 : decode cX4_takeAll 26 = .ok (.getfield 46, 3) := by decide +kernel
theorem dX4_takeAll_29 : decode cX4_takeAll 29 = .ok (.putfield 46, 3) := by decide +kernel
theorem dX4_takeAll_32 : decode cX4_takeAll 32 = .ok (.aload_n 0, 1) := by decide +kernel
theorem dX4_takeAll_33 : decode cX4_takeAll 33 = .ok (.aload_n 1, 1) := by decide +kernel
theorem dX4_takeAll_34 : decode cX4_takeAll 34 = .ok (.getfield 49, 3) := by decide +kernel
theorem dX4_takeAll_37 : decode cX4_takeAll 37 = .ok (.putfield 49, 3) := by decide +kernel
theorem dX4_takeAll_40 : decode cX4_takeAll 40 = .ok (.aload_n 1, 1) := by decide +kernel
theorem dX4_takeAll_41 : decode cX4_takeAll 41 = .ok (.getfield 9, 3) := by decide +kernel
theorem dX4_takeAll_44 : decode cX4_takeAll 44 = .ok (.iconst 0, 1) := by decide +kernel
theorem dX4_takeAll_45 : decode cX4_takeAll 45 = .ok (.aload_n 0, 1) := by decide +kernel
theorem dX4_takeAll_46 : decode cX4_takeAll 46 = .ok (.getfield 9, 3) := by decide +kernel
theorem dX4_takeAll_49 : decode cX4_takeAll 49 = .ok (.iconst 0, 1) := by decide +kernel
theorem dX4_takeAll_50 : decode cX4_takeAll 50 = .ok (.iconst 5, 1) := by decide +kernel
theorem dX4_takeAll_51 : decode cX4_takeAll 51 = .ok (.invokestatic 59, 3) := by decide +kernel
theorem dX4_takeAll_54 : decode cX4_takeAll 54 = .ok (.aload_n 1, 1) := by decide +kernel
theorem dX4_takeAll_55 : decode cX4_takeAll 55 = .ok (.getfield 15, 3) := by decide +kernel
theorem dX4_takeAll_58 : decode cX4_takeAll 58 = .ok (.iconst 0, 1) := by decide +kernel
theorem dX4_takeAll_59 : decode cX4_takeAll 59 = .ok (.aload_n 0, 1) := by decide +kernel
theorem dX4_takeAll_60 : decode cX4_takeAll 60 = .ok (.getfield 15, 3) := by decide +kernel
theorem dX4_takeAll_63 : decode cX4_takeAll 63 = .ok (.iconst 0, 1) := by decide +kernel
theorem dX4_takeAll_64 : decode cX4_takeAll 64 = .ok (.iconst 5, 1) := by decide +kernel
theorem dX4_takeAll_65 : decode cX4_takeAll 65 = .ok (.invokestatic 59, 3) := by decide +kernel
theorem dX4_takeAll_68 : decode cX4_takeAll 68 = .ok (.aload_n 1, 1) := by decide +kernel
theorem dX4_takeAll_69 : decode cX4_takeAll 69 = .ok (.getfield 18, 3) := by decide +kernel
theorem dX4_takeAll_72 : decode cX4_takeAll 72 = .ok (.iconst 0, 1) := by decide +kernel
theorem dX4_takeAll_73 : decode cX4_takeAll 73 = .ok (.aload_n 0, 1) := by decide +kernel
theorem dX4_takeAll_74 : decode cX4_takeAll 74 = .ok (.getfield 18, 3) := by decide +kernel
theorem dX4_takeAll_77 : decode cX4_takeAll 77 = .ok (.iconst 0, 1) := by decide +kernel
theorem dX4_takeAll_78 : decode cX4_takeAll 78 = .ok (.iconst 5, 1) := by decide +kernel
theorem dX4_takeAll_79 : decode cX4_takeAll 79 = .ok (.invokestatic 59, 3) := by decide +kernel
theorem dX4_takeAll_82 : decode cX4_takeAll 82 = .ok (.aload_n 1, 1) := by decide +kernel
theorem dX4_takeAll_83 : decode cX4_takeAll 83 = .ok (.getfield 21, 3) := by decide +kernel
theorem dX4_takeAll_86 : decode cX4_takeAll 86 = .ok (.iconst 0, 1) := by decide +kernel
theorem dX4_takeAll_87 : decode cX4_takeAll 87 = .ok (.aload_n 0, 1) := by decide +kernel
theorem dX4_takeAll_88 : decode cX4_takeAll 88 = .ok (.getfield 21, 3) := by decide +kernel
theorem dX4_takeAll_91 : decode cX4_takeAll 91 = .ok (.iconst 0, 1) := by decide +kernel
theorem dX4_takeAll_92 : decode cX4_takeAll 92 = .ok (.iconst 5, 1) := by decide +kernel
theorem dX4_takeAll_93 : decode cX4_takeAll 93 = .ok (.invokestatic 59, 3) := by decide +kernel
theorem dX4_takeAll_96 : decode cX4_takeAll 96 = .ok (.aload_n 1, 1) := by decide +kernel
theorem dX4_takeAll_97 : decode cX4_takeAll 97 = .ok (.getfield 24, 3) := by decide +kernel
theorem dX4_takeAll_100 : decode cX4_takeAll 100 = .ok (.iconst 0, 1) := by decide +kernel
theorem dX4_takeAll_101 : decode cX4_takeAll 101 = .ok (.aload_n 0, 1) := by decide +kernel
theorem dX4_takeAll_102 : decode cX4_takeAll 102 = .ok (.getfield 24, 3) := by decide +kernel
theorem dX4_takeAll_105 : decode cX4_takeAll 105 = .ok (.iconst 0, 1) := by decide +kernel
theorem dX4_takeAll_106 : decode cX4_takeAll 106 = .ok (.iconst 5, 1) := by decide +kernel
theorem dX4_takeAll_107 : decode cX4_takeAll 107 = .ok (.invokestatic 59, 3) := by decide +kernel
theorem dX4_takeAll_110 : decode cX4_takeAll 110 = .ok (.aload_n 1, 1) := by decide +kernel
theorem dX4_takeAll_111 : decode cX4_takeAll 111 = .ok (.getfield 27, 3) := by decide +kernel
theorem dX4_takeAll_114 : decode cX4_takeAll 114 = .ok (.iconst 0, 1) := by decide +kernel
theorem dX4_takeAll_115 : decode cX4_takeAll 115 = .ok (.aload_n 0, 1) := by decide +kernel
theorem dX4_takeAll_116 : decode cX4_takeAll 116 = .ok (.getfield 27, 3) := by decide +kernel
theorem dX4_takeAll_119 : decode cX4_takeAll 119 = .ok (.iconst 0, 1) := by decide +kernel
theorem dX4_takeAll_120 : decode cX4_takeAll 120 = .ok (.bipush 28, 2) := by decide +kernel
theorem dX4_takeAll_122 : decode cX4_takeAll 122 = .ok (.invokestatic 59, 3) := by decide +kernel
theorem dX4_takeAll_125 : decode cX4_takeAll 125 = .ok (.return_, 1) := by decide +kernel
theorem dX4_takeForRun_0 : decode cX4_takeForRun 0 = .ok (.aload_n 0, 1) := by decide +kernel
theorem dX4_takeForRun_1 : decode cX4_takeForRun 1 = .ok (.aload_n 1, 1) := by decide +kernel
theorem dX4_takeForRun_2 : decode cX4_takeForRun 2 = .ok (.invokevirtual 65, 3) := by decide +kernel
theorem dX4_takeForRun_5 : decode cX4_takeForRun 5 = .ok (.aload_n 0, 1) := by decide +kernel
theorem dX4_takeForRun_6 : decode cX4_takeForRun 6 = .ok (.iload_n 2, 1) := by decide +kernel
theorem dX4_takeForRun_7 : decode cX4_takeForRun 7 = .ok (.putfield 39, 3) := by decide +kernel
theorem dX4_takeForRun_10 : decode cX4_takeForRun 10 = .ok (.aload_n 0, 1) := by decide +kernel
theorem dX4_takeForRun_11 : decode cX4_takeForRun 11 = .ok (.iload_n 3, 1) := by decide +kernel
theorem dX4_takeForRun_12 : decode cX4_takeForRun 12 = .ok (.putfield 43, 3) := by decide +kernel
theorem dX4_takeForRun_15 : decode cX4_takeForRun 15 = .ok (.aload_n 0, 1) := by decide +kernel
theorem dX4_takeForRun_16 : decode cX4_takeForRun 16 = .ok (.iconst 0, 1) := by decide +kernel
theorem dX4_takeForRun_17 : decode cX4_takeForRun 17 = .ok (.putfield 46, 3) := by decide +kernel
theorem dX4_takeForRun_20 : decode cX4_takeForRun 20 = .ok (.aload_n 0, 1) := by decide +kernel
theorem dX4_takeForRun_21 : decode cX4_takeForRun 21 = .ok (.iconst 0, 1) := by decide +kernel
theorem dX4_takeForRun_22 : decode cX4_takeForRun 22 = .ok (.putfield 49, 3) := by decide +kernel
theorem dX4_takeForRun_25 : decode cX4_takeForRun 25 = .ok (.return_, 1) := by decide +kernel
theorem dX4_unlike_0 : decode cX4_unlike 0 = .ok (.iload_n 1, 1) := by decide +kernel
theorem dX4_unlike_1 : decode cX4_unlike 1 = .ok (.iconst 1, 1) := by decide +kernel
theorem dX4_unlike_2 : decode cX4_unlike 2 = .ok (.if_icmp .ge 5, 3) := by decide +kernel
theorem dX4_unlike_5 : decode cX4_unlike 5 = .ok (.iconst 0, 1) := by decide +kernel
theorem dX4_unlike_6 : decode cX4_unlike 6 = .ok (.ireturn, 1) := by decide +kernel
theorem dX4_unlike_7 : decode cX4_unlike 7 = .ok (.aload_n 0, 1) := by decide +kernel
theorem dX4_unlike_8 : decode cX4_unlike 8 = .ok (.getfield 15, 3) := by decide +kernel
theorem dX4_unlike_11 : decode cX4_unlike 11 = .ok (.iconst 0, 1) := by decide +kernel
theorem dX4_unlike_12 : decode cX4_unlike 12 = .ok (.iaload, 1) := by decide +kernel
theorem dX4_unlike_13 : decode cX4_unlike 13 = .ok (.istore_n 2, 1) := by decide +kernel
theorem dX4_unlike_14 : decode cX4_unlike 14 = .ok (.aload_n 0, 1) := by decide +kernel
theorem dX4_unlike_15 : decode cX4_unlike 15 = .ok (.getfield 15, 3) := by decide +kernel
theorem dX4_unlike_18 : decode cX4_unlike 18 = .ok (.iconst 0, 1) := by decide +kernel
theorem dX4_unlike_19 : decode cX4_unlike 19 = .ok (.iaload, 1) := by decide +kernel
theorem dX4_unlike_20 : decode cX4_unlike 20 = .ok (.istore_n 3, 1) := by decide +kernel
theorem dX4_unlike_21 : decode cX4_unlike 21 = .ok (.iconst 1, 1) := by decide +kernel
theorem dX4_unlike_22 : decode cX4_unlike 22 = .ok (.istore 4, 2) := by decide +kernel
theorem dX4_unlike_24 : decode cX4_unlike 24 = .ok (.iload 4, 2) := by decide +kernel
theorem dX4_unlike_26 : decode cX4_unlike 26 = .ok (.iload_n 1, 1) := by decide +kernel
theorem dX4_unlike_27 : decode cX4_unlike 27 = .ok (.if_icmp .ge 33, 3) := by decide +kernel
theorem dX4_unlike_30 : decode cX4_unlike 30 = .ok (.iload_n 2, 1) := by decide +kernel
theorem dX4_unlike_31 : decode cX4_unlike 31 = .ok (.aload_n 0, 1) := by decide +kernel
theorem dX4_unlike_32 : decode cX4_unlike 32 = .ok (.getfield 15, 3) := by decide +kernel
theorem dX4_unlike_35 : decode cX4_unlike 35 = .ok (.iload 4, 2) := by decide +kernel
theorem dX4_unlike_37 : decode cX4_unlike 37 = .ok (.iaload, 1) := by decide +kernel
theorem dX4_unlike_38 : decode cX4_unlike 38 = .ok (.invokestatic 82, 3) := by decide +kernel
theorem dX4_unlike_41 : decode cX4_unlike 41 = .ok (.istore_n 2, 1) := by decide +kernel
theorem dX4_unlike_42 : decode cX4_unlike 42 = .ok (.iload_n 3, 1) := by decide +kernel
theorem dX4_unlike_43 : decode cX4_unlike 43 = .ok (.aload_n 0, 1) := by decide +kernel
theorem dX4_unlike_44 : decode cX4_unlike 44 = .ok (.getfield 15, 3) := by decide +kernel
theorem dX4_unlike_47 : decode cX4_unlike 47 = .ok (.iload 4, 2) := by decide +kernel
theorem dX4_unlike_49 : decode cX4_unlike 49 = .ok (.iaload, 1) := by decide +kernel
theorem dX4_unlike_50 : decode cX4_unlike 50 = .ok (.invokestatic 88, 3) := by decide +kernel
theorem dX4_unlike_53 : decode cX4_unlike 53 = .ok (.istore_n 3, 1) := by decide +kernel
theorem dX4_unlike_54 : decode cX4_unlike 54 = .ok (.iinc 4 1, 3) := by decide +kernel
theorem dX4_unlike_57 : decode cX4_unlike 57 = .ok (.goto (-33), 3) := by decide +kernel
theorem dX4_unlike_60 : decode cX4_unlike 60 = .ok (.iload_n 2, 1) := by decide +kernel
theorem dX4_unlike_61 : decode cX4_unlike 61 = .ok (.iload_n 3, 1) := by decide +kernel
theorem dX4_unlike_62 : decode cX4_unlike 62 = .ok (.isub, 1) := by decide +kernel
theorem dX4_unlike_63 : decode cX4_unlike 63 = .ok (.ireturn, 1) := by decide +kernel
theorem dX5_refuse_0 : decode cX5_refuse 0 = .ok (.aload_n 0, 1) := by decide +kernel
theorem dX5_refuse_1 : decode cX5_refuse 1 = .ok (.iload_n 1, 1) := by decide +kernel
theorem dX5_refuse_2 : decode cX5_refuse 2 = .ok (.putfield 35, 3) := by decide +kernel
theorem dX5_refuse_5 : decode cX5_refuse 5 = .ok (.aload_n 0, 1) := by decide +kernel
theorem dX5_refuse_6 : decode cX5_refuse 6 = .ok (.aload_n 0, 1) := by decide +kernel
theorem dX5_refuse_7 : decode cX5_refuse 7 = .ok (.getfield 18, 3) := by decide +kernel
theorem dX5_refuse_10 : decode cX5_refuse 10 = .ok (.getfield 62, 3) := by decide +kernel
theorem dX5_refuse_13 : decode cX5_refuse 13 = .ok (.putfield 26, 3) := by decide +kernel
theorem dX5_refuse_16 : decode cX5_refuse 16 = .ok (.iconst 0, 1) := by decide +kernel
theorem dX5_refuse_17 : decode cX5_refuse 17 = .ok (.ireturn, 1) := by decide +kernel
theorem dX5_countKnot_0 : decode cX5_countKnot 0 = .ok (.aload_n 0, 1) := by decide +kernel
