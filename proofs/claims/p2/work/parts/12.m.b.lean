section
variable {p : Program} {l : Launch} {e : Env} {s : State} {m : MethodId} {args : Array Value} {below : List Frame} {meth : Method} {c : Code} {D : va_G} {cy : Nat → ClassId} {b : Nat} {A : Nat → Prop} {fl : Bool}
def vX7_wordOf : List Cond := .code yX7_wordOf cX7_wordOf 3 (some .int) :: TB
theorem lf7_wordOf_9 : Fl vX7_wordOf RX7 9 7 0 := ⟨RX7, TX7, 7, rfl, by decide, (fun w h9 => List.mem_cons_of_mem _ (wC_wsX70 w h9)), (List.mem_cons_of_mem _ wT_5_10)⟩
theorem cd7_wordOf : Cd yX7_wordOf 1 := ⟨by decide, by decide, by decide +kernel⟩
set_option maxHeartbeats 4000000 in
set_option maxRecDepth 100000 in
theorem T7_wordOf_2 (S : CallFix p m c cX7_wordOf 3 s args vX7_wordOf RX7) (hr : meth.sig.returnType = (some .int)) (hlo : meth.locks = false) {out : Int32 × PH} : ∀ (n : Nat) {h : PH} {a0 : Nat} {x1 : Int32} {x2 : Int32} (f : F7_wordOf_2  n h a0 x1 x2 = some out) {H : Heap} {locs : List Loc} (I : ph_I D cy b A fl h s H locs) {ls : Array Slot} (hl : lv_has ls 3 [(0, .ref (b + a0)), (1, .int x1), (2, .int x2)]), W p l e ({ frames := 0, cells := 0, slots := 0, locals := 0 } : Room) s m args below meth c H locs 0 0 (MQ below (va_Qi (fun (r : Int32) (u : PH) => (r, u) = out) (ph_B D cy b A fl) A) args s 0 0 A) (F0 m 2 ls []) := by
  intro n
  induction n with
  | zero => intro h a0 x1 x2 f; rw [F7_wordOf_2] at f; cases f
  | succ n ih =>
    intro h a0 x1 x2 f H locs I ls hl
    rw [F7_wordOf_2] at f
    refine lv_iload_n S.1 S.2.1 dX7_wordOf_2 rfl (lv_at hl 2 rfl) ?_
    refine lv_bipush (v := 24) S.1 S.2.1 dX7_wordOf_3 (by decide) ?_
    refine lv_icmp_ge (tgt := 26) S.1 S.2.1 dX7_wordOf_5 (by decide) (fun q1 => ?_) (fun q1 => ?_)
    · have f := (if_pos q1).symm.trans f
      refine lv_bipush (v := 24) S.1 S.2.1 dX7_wordOf_26 (by decide) ?_
      exact o_iret S hr hlo I f dX7_wordOf_28
    · have f := (if_neg q1).symm.trans f
      refine lv_aload_n S.1 S.2.1 dX7_wordOf_8 rfl (lv_at hl 0 rfl) ?_
      obtain ⟨r2, e3, f⟩ := ob f
      refine o_gR S lf7_wordOf_9 I e3 dX7_wordOf_9 ?_
      refine lv_iload_n S.1 S.2.1 dX7_wordOf_12 rfl (lv_at hl 2 rfl) ?_
      obtain ⟨v5, e4, f⟩ := ob f
      refine o_iald S I e4 dX7_wordOf_13 ?_
      refine lv_iload_n S.1 S.2.1 dX7_wordOf_14 rfl (lv_at hl 1 rfl) ?_
      refine lv_icmp_ne (tgt := 20) S.1 S.2.1 dX7_wordOf_15 (by decide) (fun q6 => ?_) (fun q6 => ?_)
      · have f := (if_neg q6).symm.trans f
        refine lv_iinc (v := (x2 + 1)) (lv' := [(2, .int (x2 + 1)), (0, .ref (b + a0)), (1, .int x1)]) S.1 S.2.1 dX7_wordOf_20 hl (k := 2) rfl (congrArg (fun z => x2 + z) (by decide)) (by decide) rfl (fun ls hl => ?_)
        refine lv_goto (tgt := 2) S.1 S.2.1 dX7_wordOf_23 (by decide) ?_
        exact ih f I (lv_sub hl [1, 2, 0] rfl)
      · have f := (if_pos q6).symm.trans f
        refine lv_iload_n S.1 S.2.1 dX7_wordOf_18 rfl (lv_at hl 2 rfl) ?_
        exact o_iret S hr hlo I f dX7_wordOf_19
set_option maxHeartbeats 4000000 in
set_option maxRecDepth 100000 in
theorem T7_wordOf_0 (S : CallFix p m c cX7_wordOf 3 s args vX7_wordOf RX7) (hr : meth.sig.returnType = (some .int)) (hlo : meth.locks = false) {out : Int32 × PH} {h : PH} {a0 : Nat} {x1 : Int32} (f : F7_wordOf_0  h a0 x1 = some out) {H : Heap} {locs : List Loc} (I : ph_I D cy b A fl h s H locs) {ls : Array Slot} (hl : lv_has ls 3 [(0, .ref (b + a0)), (1, .int x1)]) : W p l e ({ frames := 0, cells := 0, slots := 0, locals := 0 } : Room) s m args below meth c H locs 0 0 (MQ below (va_Qi (fun (r : Int32) (u : PH) => (r, u) = out) (ph_B D cy b A fl) A) args s 0 0 A) (F0 m 0 ls []) := by
  unfold F7_wordOf_0 at f
  refine lv_iconst (v := 0) S.1 S.2.1 dX7_wordOf_0 (by decide) ?_
  refine lv_istore_n (lv' := [(2, .int 0), (0, .ref (b + a0)), (1, .int x1)]) S.1 S.2.1 dX7_wordOf_1 rfl hl (by decide) rfl (fun ls hl => ?_)
  exact T7_wordOf_2 S hr hlo  1024 f I (lv_sub hl [1, 2, 0] rfl)
theorem M7_wordOf (l : Launch) (D : va_G) (cy : Nat → ClassId) (b : Nat) (A : Nat → Prop) (fl : Bool) {h : PH} {a0 : Nat} {x1 : Int32} {out : Int32 × PH} (f : F7_wordOf h a0 x1 = some out) : Met l yX7_wordOf vX7_wordOf ({ frames := 0, cells := 0, slots := 0, locals := 0 } : Room) (va_Pc [.ref (b + a0), .int x1] (ph_B D cy b A fl h)) (va_Qi (fun (r : Int32) (u : PH) => (r, u) = out) (ph_B D cy b A fl) A) 0 0 A :=
  o_met (by decide) rfl (Nat.le_of_ble_eq_true rfl) rfl (fun p e s m below meth c S hr hlo hnm ls hl I => T7_wordOf_0 S hr hlo ((gd f).2) I (lv_sub hl [0, 1] rfl))
def vX7_takeWord : List Cond := .code yX7_takeWord cX7_takeWord 2 none :: TB
theorem lp7_takeWord_56 : Pl vX7_takeWord RX7 56 7 4 .int := ⟨RX7, TX7, 7, tyX7, rfl, by decide, (fun w h9 => List.mem_cons_of_mem _ (wC_wsX70 w h9)), (List.mem_cons_of_mem _ wT_16_3), tyX7_ok, nmX7, rfl, rfl⟩
theorem lf7_takeWord_53 : Fl vX7_takeWord RX7 53 7 6 := ⟨RX7, TX7, 7, rfl, by decide, (fun w h9 => List.mem_cons_of_mem _ (wC_wsX70 w h9)), (List.mem_cons_of_mem _ wT_16_2)⟩
theorem gX7_takeWord_X7_wordOf : GoodIn vX7_takeWord (wsV RX7 71 RX7 yX7_wordOf vX7_wordOf) := gV_of wT_16_12 wT_16_13 wT_16_14 wT_5_2 wT_16_15
theorem lf7_takeWord_44 : Fl vX7_takeWord RX7 44 7 3 := ⟨RX7, TX7, 7, rfl, by decide, (fun w h9 => List.mem_cons_of_mem _ (wC_wsX70 w h9)), (List.mem_cons_of_mem _ wT_15_20)⟩
theorem lp7_takeWord_44 : Pl vX7_takeWord RX7 44 7 3 .int := ⟨RX7, TX7, 7, tyX7, rfl, by decide, (fun w h9 => List.mem_cons_of_mem _ (wC_wsX70 w h9)), (List.mem_cons_of_mem _ wT_15_20), tyX7_ok, nmX7, rfl, rfl⟩
theorem lf7_takeWord_40 : Fl vX7_takeWord RX7 40 7 2 := ⟨RX7, TX7, 7, rfl, by decide, (fun w h9 => List.mem_cons_of_mem _ (wC_wsX70 w h9)), (List.mem_cons_of_mem _ wT_15_19)⟩
theorem lf7_takeWord_15 : Fl vX7_takeWord RX7 15 7 1 := ⟨RX7, TX7, 7, rfl, by decide, (fun w h9 => List.mem_cons_of_mem _ (wC_wsX70 w h9)), (List.mem_cons_of_mem _ wT_5_11)⟩
theorem gX7_takeWord_X7_isLetter : GoodIn vX7_takeWord (va_wsS RX7 27 yX7_isLetter vX7_isLetter) := gS_of wT_7_5 wT_7_6 wT_5_2 wT_7_7
theorem gX7_takeWord_X7_letterBits : GoodIn vX7_takeWord (va_wsS RX7 31 yX7_letterBits vX7_letterBits) := gS_of wT_7_8 wT_7_9 wT_5_2 wT_7_10
theorem lp7_takeWord_53 : Pl vX7_takeWord RX7 53 7 6 .int := ⟨RX7, TX7, 7, tyX7, rfl, by decide, (fun w h9 => List.mem_cons_of_mem _ (wC_wsX70 w h9)), (List.mem_cons_of_mem _ wT_16_2), tyX7_ok, nmX7, rfl, rfl⟩
theorem cd7_takeWord : Cd yX7_takeWord 0 := ⟨by decide, by decide, by decide +kernel⟩
set_option maxHeartbeats 4000000 in
set_option maxRecDepth 100000 in
theorem T7_takeWord_92 (S : CallFix p m c cX7_takeWord 2 s args vX7_takeWord RX7) (hr : meth.sig.returnType = none) (hlo : meth.locks = false) {out : PH} {h : PH} {s0 : Int32} {u1 : Nat} (f : F7_takeWord_92  h s0 u1 = some out) {H : Heap} {locs : List Loc} (I : ph_I D cy b A fl h s H locs) {ls : Array Slot} (hl : lv_has ls 2 []) : W p l e ({ frames := 1, cells := 0, slots := 0, locals := 22 } : Room) s m args below meth c H locs 0 0 (MQ below (va_Qv (fun (u : PH) => u = out) (ph_B D cy b A fl) A) args s 0 0 A) (F0 m 92 ls [.int s0, .ref (b + u1)]) := by
  unfold F7_takeWord_92 at f
  obtain ⟨h1, e2, f⟩ := ob f
  refine o_pI S lp7_takeWord_56 I e2 dX7_takeWord_92 (fun H locs I => ?_)
  exact o_vret S hr hlo I f dX7_takeWord_95
set_option maxHeartbeats 4000000 in
set_option maxRecDepth 100000 in
theorem T7_takeWord_72 (S : CallFix p m c cX7_takeWord 2 s args vX7_takeWord RX7) (hr : meth.sig.returnType = none) (hlo : meth.locks = false) {out : PH} {h : PH} {a0 : Nat} {x1 : Int32} (f : F7_takeWord_72  h a0 x1 = some out) {H : Heap} {locs : List Loc} (I : ph_I D cy b A fl h s H locs) {ls : Array Slot} (hl : lv_has ls 2 [(0, .ref (b + a0)), (1, .int x1)]) : W p l e ({ frames := 1, cells := 0, slots := 0, locals := 22 } : Room) s m args below meth c H locs 0 0 (MQ below (va_Qv (fun (u : PH) => u = out) (ph_B D cy b A fl) A) args s 0 0 A) (F0 m 72 ls []) := by
  unfold F7_takeWord_72 at f
  refine lv_aload_n S.1 S.2.1 dX7_takeWord_72 rfl (lv_at hl 0 rfl) ?_
  refine lv_iload_n S.1 S.2.1 dX7_takeWord_73 rfl (lv_at hl 1 rfl) ?_
  refine lv_bipush (v := 6) S.1 S.2.1 dX7_takeWord_74 (by decide) ?_
  refine lv_icmp_le (tgt := 84) S.1 S.2.1 dX7_takeWord_76 (by decide) (fun q1 => ?_) (fun q1 => ?_)
  · have f := (if_pos q1).symm.trans f
    refine lv_aload_n S.1 S.2.1 dX7_takeWord_84 rfl (lv_at hl 0 rfl) ?_
    refine lv_aload_n S.1 S.2.1 dX7_takeWord_85 rfl (lv_at hl 0 rfl) ?_
    obtain ⟨v2, e3, f⟩ := ob f
    refine o_gI S lf7_takeWord_53 I e3 dX7_takeWord_86 ?_
    obtain ⟨o4, e5, f⟩ := ob f
    refine o_Vi S (As := [.int v2]) (rest := [.ref (b + a0)]) (ci := 7) (M7_wordOf l D cy b A fl e5) gX7_takeWord_X7_wordOf rfl rfl rfl cd7_wordOf ⟨Nat.le_of_ble_eq_true rfl, Nat.le_of_ble_eq_true rfl⟩ I (gd e5).1 clX7 rfl rfl hl.1 rfl (Nat.le_of_ble_eq_true rfl) dX7_takeWord_89 ⟨Nat.le_of_ble_eq_true rfl, Nat.le_of_ble_eq_true rfl⟩ (fun H locs I => ?_)
    exact T7_takeWord_92 S hr hlo  f I (lv_sub hl [] rfl)
  · have f := (if_neg q1).symm.trans f
    refine lv_bipush (v := 40) S.1 S.2.1 dX7_takeWord_79 (by decide) ?_
    refine lv_goto (tgt := 92) S.1 S.2.1 dX7_takeWord_81 (by decide) ?_
    exact T7_takeWord_92 S hr hlo  f I (lv_sub hl [] rfl)
set_option maxHeartbeats 4000000 in
set_option maxRecDepth 100000 in
theorem T7_takeWord_56 (S : CallFix p m c cX7_takeWord 2 s args vX7_takeWord RX7) (hr : meth.sig.returnType = none) (hlo : meth.locks = false) {out : PH} {k2 : PH → Nat → Int32 → Option (PH)} (hk2 : ∀ {h : PH} {a0 : Nat} {x1 : Int32}, k2 h a0 x1 = some out → ∀ (H : Heap) (locs : List Loc), ph_I D cy b A fl h s H locs → ∀ (ls : Array Slot), lv_has ls 2 [(0, .ref (b + a0)), (1, .int x1)] → W p l e ({ frames := 1, cells := 0, slots := 0, locals := 22 } : Room) s m args below meth c H locs 0 0 (MQ below (va_Qv (fun (u : PH) => u = out) (ph_B D cy b A fl) A) args s 0 0 A) (F0 m 2 ls [])) {h : PH} {a0 : Nat} {x1 : Int32} (f : F7_takeWord_56 k2 h a0 x1 = some out) {H : Heap} {locs : List Loc} (I : ph_I D cy b A fl h s H locs) {ls : Array Slot} (hl : lv_has ls 2 [(0, .ref (b + a0)), (1, .int x1)]) : W p l e ({ frames := 1, cells := 0, slots := 0, locals := 22 } : Room) s m args below meth c H locs 0 0 (MQ below (va_Qv (fun (u : PH) => u = out) (ph_B D cy b A fl) A) args s 0 0 A) (F0 m 56 ls []) := by
  unfold F7_takeWord_56 at f
  refine lv_iinc (v := (x1 + 1)) (lv' := [(1, .int (x1 + 1)), (0, .ref (b + a0))]) S.1 S.2.1 dX7_takeWord_56 hl (k := 1) rfl (congrArg (fun z => x1 + z) (by decide)) (by decide) rfl (fun ls hl => ?_)
  refine lv_aload_n S.1 S.2.1 dX7_takeWord_59 rfl (lv_at hl 1 rfl) ?_
  refine lv_dup S.1 S.2.1 dX7_takeWord_60 rfl ?_
  obtain ⟨v1, e2, f⟩ := ob f
  refine o_gI S lf7_takeWord_44 I e2 dX7_takeWord_61 ?_
  refine lv_iconst (v := 1) S.1 S.2.1 dX7_takeWord_64 (by decide) ?_
  refine lv_iadd S.1 S.2.1 dX7_takeWord_65 ?_
  obtain ⟨h3, e4, f⟩ := ob f
  refine o_pI S lp7_takeWord_44 I e4 dX7_takeWord_66 (fun H locs I => ?_)
  refine lv_goto (tgt := 2) S.1 S.2.1 dX7_takeWord_69 (by decide) ?_
  exact hk2 f _ _ I _ (lv_sub hl [1, 0] rfl)
set_option maxHeartbeats 4000000 in
set_option maxRecDepth 100000 in
theorem T7_takeWord_2 (S : CallFix p m c cX7_takeWord 2 s args vX7_takeWord RX7) (hr : meth.sig.returnType = none) (hlo : meth.locks = false) {out : PH} : ∀ (n : Nat) {h : PH} {a0 : Nat} {x1 : Int32} (f : F7_takeWord_2  n h a0 x1 = some out) {H : Heap} {locs : List Loc} (I : ph_I D cy b A fl h s H locs) {ls : Array Slot} (hl : lv_has ls 2 [(0, .ref (b + a0)), (1, .int x1)]), W p l e ({ frames := 1, cells := 0, slots := 0, locals := 22 } : Room) s m args below meth c H locs 0 0 (MQ below (va_Qv (fun (u : PH) => u = out) (ph_B D cy b A fl) A) args s 0 0 A) (F0 m 2 ls []) := by
  intro n
  induction n with
  | zero => intro h a0 x1 f; rw [F7_takeWord_2] at f; cases f
  | succ n ih =>
    intro h a0 x1 f H locs I ls hl
    rw [F7_takeWord_2] at f
    refine lv_aload_n S.1 S.2.1 dX7_takeWord_2 rfl (lv_at hl 0 rfl) ?_
    obtain ⟨v1, e2, f⟩ := ob f
    refine o_gI S lf7_takeWord_44 I e2 dX7_takeWord_3 ?_
    refine lv_aload_n S.1 S.2.1 dX7_takeWord_6 rfl (lv_at hl 0 rfl) ?_
    obtain ⟨v3, e4, f⟩ := ob f
    refine o_gI S lf7_takeWord_40 I e4 dX7_takeWord_7 ?_
    refine lv_icmp_ge (tgt := 72) S.1 S.2.1 dX7_takeWord_10 (by decide) (fun q5 => ?_) (fun q5 => ?_)
    · have f := (if_pos q5).symm.trans f
      exact T7_takeWord_72 S hr hlo  f I (lv_sub hl [0, 1] rfl)
    · have f := (if_neg q5).symm.trans f
      refine lv_aload_n S.1 S.2.1 dX7_takeWord_13 rfl (lv_at hl 0 rfl) ?_
      obtain ⟨r6, e7, f⟩ := ob f
      refine o_gR S lf7_takeWord_15 I e7 dX7_takeWord_14 ?_
      refine lv_aload_n S.1 S.2.1 dX7_takeWord_17 rfl (lv_at hl 0 rfl) ?_
      obtain ⟨v8, e9, f⟩ := ob f
      refine o_gI S lf7_takeWord_44 I e9 dX7_takeWord_18 ?_
      obtain ⟨v11, e10, f⟩ := ob f
      refine o_bald S I e10 dX7_takeWord_21 ?_
      obtain ⟨o12, e13, f⟩ := ob f
      refine o_Si S (As := [.int v11]) (rest := []) (M7_isLetter l D cy b A fl e13) gX7_takeWord_X7_isLetter rfl rfl rfl cd7_isLetter ⟨Nat.le_of_ble_eq_true rfl, Nat.le_of_ble_eq_true rfl⟩ I rfl hl.1 rfl (Nat.le_of_ble_eq_true rfl) dX7_takeWord_22 ⟨Nat.le_of_ble_eq_true rfl, Nat.le_of_ble_eq_true rfl⟩ (fun H locs I => ?_)
      refine lv_if_eq (tgt := 72) S.1 S.2.1 dX7_takeWord_25 (by decide) (fun q14 => ?_) (fun q14 => ?_)
      · have f := (if_pos q14).symm.trans f
        exact T7_takeWord_72 S hr hlo  f I (lv_sub hl [0, 1] rfl)
      · have f := (if_neg q14).symm.trans f
        refine lv_iload_n S.1 S.2.1 dX7_takeWord_28 rfl (lv_at hl 1 rfl) ?_
        refine lv_bipush (v := 6) S.1 S.2.1 dX7_takeWord_29 (by decide) ?_
        refine lv_icmp_ge (tgt := 56) S.1 S.2.1 dX7_takeWord_31 (by decide) (fun q15 => ?_) (fun q15 => ?_)
        · have f := (if_pos q15).symm.trans f
          exact T7_takeWord_56 S hr hlo (fun f _ _ I _ hl => ih f I hl) f I (lv_sub hl [0, 1] rfl)
        · have f := (if_neg q15).symm.trans f
          refine lv_aload_n S.1 S.2.1 dX7_takeWord_34 rfl (lv_at hl 0 rfl) ?_
          refine lv_dup S.1 S.2.1 dX7_takeWord_35 rfl ?_
          obtain ⟨v16, e17, f⟩ := ob f
          refine o_gI S lf7_takeWord_53 I e17 dX7_takeWord_36 ?_
          refine lv_aload_n S.1 S.2.1 dX7_takeWord_39 rfl (lv_at hl 0 rfl) ?_
          obtain ⟨r18, e19, f⟩ := ob f
          refine o_gR S lf7_takeWord_15 I e19 dX7_takeWord_40 ?_
          refine lv_aload_n S.1 S.2.1 dX7_takeWord_43 rfl (lv_at hl 0 rfl) ?_
          obtain ⟨v20, e21, f⟩ := ob f
          refine o_gI S lf7_takeWord_44 I e21 dX7_takeWord_44 ?_
          obtain ⟨v23, e22, f⟩ := ob f
          refine o_bald S I e22 dX7_takeWord_47 ?_
          refine lv_iload_n S.1 S.2.1 dX7_takeWord_48 rfl (lv_at hl 1 rfl) ?_
          obtain ⟨o24, e25, f⟩ := ob f
          refine o_Si S (As := [.int v23, .int x1]) (rest := [.int v16, .ref (b + a0)]) (M7_letterBits l D cy b A fl e25) gX7_takeWord_X7_letterBits rfl rfl rfl cd7_letterBits ⟨Nat.le_of_ble_eq_true rfl, Nat.le_of_ble_eq_true rfl⟩ I rfl hl.1 rfl (Nat.le_of_ble_eq_true rfl) dX7_takeWord_49 ⟨Nat.le_of_ble_eq_true rfl, Nat.le_of_ble_eq_true rfl⟩ (fun H locs I => ?_)
          refine lv_ior S.1 S.2.1 dX7_takeWord_52 ?_
          obtain ⟨h26, e27, f⟩ := ob f
          refine o_pI S lp7_takeWord_53 I e27 dX7_takeWord_53 (fun H locs I => ?_)
          exact T7_takeWord_56 S hr hlo (fun f _ _ I _ hl => ih f I hl) f I (lv_sub hl [0, 1] rfl)
set_option maxHeartbeats 4000000 in
set_option maxRecDepth 100000 in
theorem T7_takeWord_0 (S : CallFix p m c cX7_takeWord 2 s args vX7_takeWord RX7) (hr : meth.sig.returnType = none) (hlo : meth.locks = false) {out : PH} {h : PH} {a0 : Nat} (f : F7_takeWord_0  h a0 = some out) {H : Heap} {locs : List Loc} (I : ph_I D cy b A fl h s H locs) {ls : Array Slot} (hl : lv_has ls 2 [(0, .ref (b + a0))]) : W p l e ({ frames := 1, cells := 0, slots := 0, locals := 22 } : Room) s m args below meth c H locs 0 0 (MQ below (va_Qv (fun (u : PH) => u = out) (ph_B D cy b A fl) A) args s 0 0 A) (F0 m 0 ls []) := by
  unfold F7_takeWord_0 at f
  refine lv_iconst (v := 0) S.1 S.2.1 dX7_takeWord_0 (by decide) ?_
  refine lv_istore_n (lv' := [(1, .int 0), (0, .ref (b + a0))]) S.1 S.2.1 dX7_takeWord_1 rfl hl (by decide) rfl (fun ls hl => ?_)
  exact T7_takeWord_2 S hr hlo  1024 f I (lv_sub hl [1, 0] rfl)
theorem M7_takeWord (l : Launch) (D : va_G) (cy : Nat → ClassId) (b : Nat) (A : Nat → Prop) (fl : Bool) {h : PH} {a0 : Nat} {out : PH} (f : F7_takeWord h a0 = some out) : Met l yX7_takeWord vX7_takeWord ({ frames := 1, cells := 0, slots := 0, locals := 22 } : Room) (va_Pc [.ref (b + a0)] (ph_B D cy b A fl h)) (va_Qv (fun (u : PH) => u = out) (ph_B D cy b A fl) A) 0 0 A :=
  o_met (by decide) rfl (Nat.le_of_ble_eq_true rfl) rfl (fun p e s m below meth c S hr hlo hnm ls hl I => T7_takeWord_0 S hr hlo ((gd f).2) I (lv_sub hl [0] rfl))
def vX7_isDigit : List Cond := .code yX7_isDigit cX7_isDigit 1 (some .boolean) :: TB
theorem cd7_isDigit : Cd yX7_isDigit 1 := ⟨by decide, by decide, by decide +kernel⟩
set_option maxHeartbeats 4000000 in
set_option maxRecDepth 100000 in
theorem T7_isDigit_0 (S : CallFix p m c cX7_isDigit 1 s args vX7_isDigit RX7) (hr : meth.sig.returnType = (some .boolean)) (hlo : meth.locks = false) {out : Int32 × PH} {h : PH} {x0 : Int32} (f : F7_isDigit_0  h x0 = some out) {H : Heap} {locs : List Loc} (I : ph_I D cy b A fl h s H locs) {ls : Array Slot} (hl : lv_has ls 1 [(0, .int x0)]) : W p l e ({ frames := 0, cells := 0, slots := 0, locals := 0 } : Room) s m args below meth c H locs 0 0 (MQ below (va_Qi (fun (r : Int32) (u : PH) => (r, u) = out) (ph_B D cy b A fl) A) args s 0 0 A) (F0 m 0 ls []) := by
  unfold F7_isDigit_0 at f
  refine lv_iload_n S.1 S.2.1 dX7_isDigit_0 rfl (lv_at hl 0 rfl) ?_
  refine lv_bipush (v := 48) S.1 S.2.1 dX7_isDigit_1 (by decide) ?_
  refine lv_icmp_lt (tgt := 16) S.1 S.2.1 dX7_isDigit_3 (by decide) (fun q1 => ?_) (fun q1 => ?_)
  · have f := (if_pos q1).symm.trans f
    refine lv_iconst (v := 0) S.1 S.2.1 dX7_isDigit_16 (by decide) ?_
    exact o_zret S hr hlo I f dX7_isDigit_17
  · have f := (if_neg q1).symm.trans f
    refine lv_iload_n S.1 S.2.1 dX7_isDigit_6 rfl (lv_at hl 0 rfl) ?_
    refine lv_bipush (v := 57) S.1 S.2.1 dX7_isDigit_7 (by decide) ?_
    refine lv_icmp_gt (tgt := 16) S.1 S.2.1 dX7_isDigit_9 (by decide) (fun q2 => ?_) (fun q2 => ?_)
    · have f := (if_pos q2).symm.trans f
      refine lv_iconst (v := 0) S.1 S.2.1 dX7_isDigit_16 (by decide) ?_
      exact o_zret S hr hlo I f dX7_isDigit_17
    · have f := (if_neg q2).symm.trans f
      refine lv_iconst (v := 1) S.1 S.2.1 dX7_isDigit_12 (by decide) ?_
      refine lv_goto (tgt := 17) S.1 S.2.1 dX7_isDigit_13 (by decide) ?_
      exact o_zret S hr hlo I f dX7_isDigit_17
theorem M7_isDigit (l : Launch) (D : va_G) (cy : Nat → ClassId) (b : Nat) (A : Nat → Prop) (fl : Bool) {h : PH} {x0 : Int32} {out : Int32 × PH} (f : F7_isDigit h x0 = some out) : Met l yX7_isDigit vX7_isDigit ({ frames := 0, cells := 0, slots := 0, locals := 0 } : Room) (va_Pc [.int x0] (ph_B D cy b A fl h)) (va_Qi (fun (r : Int32) (u : PH) => (r, u) = out) (ph_B D cy b A fl) A) 0 0 A :=
  o_met (by decide) rfl (Nat.le_of_ble_eq_true rfl) rfl (fun p e s m below meth c S hr hlo hnm ls hl I => T7_isDigit_0 S hr hlo (f) I (lv_sub hl [0] rfl))
def vX7_takeNumber : List Cond := .code yX7_takeNumber cX7_takeNumber 1 none :: TB
theorem lp7_takeNumber_56 : Pl vX7_takeNumber RX7 56 7 4 .int := ⟨RX7, TX7, 7, tyX7, rfl, by decide, (fun w h9 => List.mem_cons_of_mem _ (wC_wsX70 w h9)), (List.mem_cons_of_mem _ wT_16_3), tyX7_ok, nmX7, rfl, rfl⟩
theorem lf7_takeNumber_44 : Fl vX7_takeNumber RX7 44 7 3 := ⟨RX7, TX7, 7, rfl, by decide, (fun w h9 => List.mem_cons_of_mem _ (wC_wsX70 w h9)), (List.mem_cons_of_mem _ wT_15_20)⟩
theorem lf7_takeNumber_40 : Fl vX7_takeNumber RX7 40 7 2 := ⟨RX7, TX7, 7, rfl, by decide, (fun w h9 => List.mem_cons_of_mem _ (wC_wsX70 w h9)), (List.mem_cons_of_mem _ wT_15_19)⟩
theorem lf7_takeNumber_15 : Fl vX7_takeNumber RX7 15 7 1 := ⟨RX7, TX7, 7, rfl, by decide, (fun w h9 => List.mem_cons_of_mem _ (wC_wsX70 w h9)), (List.mem_cons_of_mem _ wT_5_11)⟩
theorem gX7_takeNumber_X7_isDigit : GoodIn vX7_takeNumber (va_wsS RX7 62 yX7_isDigit vX7_isDigit) := gS_of wT_16_16 wT_16_17 wT_5_2 wT_16_18
theorem lf7_takeNumber_53 : Fl vX7_takeNumber RX7 53 7 6 := ⟨RX7, TX7, 7, rfl, by decide, (fun w h9 => List.mem_cons_of_mem _ (wC_wsX70 w h9)), (List.mem_cons_of_mem _ wT_16_2)⟩
theorem lp7_takeNumber_53 : Pl vX7_takeNumber RX7 53 7 6 .int := ⟨RX7, TX7, 7, tyX7, rfl, by decide, (fun w h9 => List.mem_cons_of_mem _ (wC_wsX70 w h9)), (List.mem_cons_of_mem _ wT_16_2), tyX7_ok, nmX7, rfl, rfl⟩
theorem lp7_takeNumber_44 : Pl vX7_takeNumber RX7 44 7 3 .int := ⟨RX7, TX7, 7, tyX7, rfl, by decide, (fun w h9 => List.mem_cons_of_mem _ (wC_wsX70 w h9)), (List.mem_cons_of_mem _ wT_15_20), tyX7_ok, nmX7, rfl, rfl⟩
theorem cd7_takeNumber : Cd yX7_takeNumber 0 := ⟨by decide, by decide, by decide +kernel⟩
set_option maxHeartbeats 4000000 in
set_option maxRecDepth 100000 in
theorem T7_takeNumber_68 (S : CallFix p m c cX7_takeNumber 1 s args vX7_takeNumber RX7) (hr : meth.sig.returnType = none) (hlo : meth.locks = false) {out : PH} {h : PH} {a0 : Nat} (f : F7_takeNumber_68  h a0 = some out) {H : Heap} {locs : List Loc} (I : ph_I D cy b A fl h s H locs) {ls : Array Slot} (hl : lv_has ls 1 [(0, .ref (b + a0))]) : W p l e ({ frames := 1, cells := 0, slots := 0, locals := 24 } : Room) s m args below meth c H locs 0 0 (MQ below (va_Qv (fun (u : PH) => u = out) (ph_B D cy b A fl) A) args s 0 0 A) (F0 m 68 ls []) := by
  unfold F7_takeNumber_68 at f
  refine lv_aload_n S.1 S.2.1 dX7_takeNumber_68 rfl (lv_at hl 0 rfl) ?_
  refine lv_bipush (v := 25) S.1 S.2.1 dX7_takeNumber_69 (by decide) ?_
  obtain ⟨h1, e2, f⟩ := ob f
  refine o_pI S lp7_takeNumber_56 I e2 dX7_takeNumber_71 (fun H locs I => ?_)
  exact o_vret S hr hlo I f dX7_takeNumber_74
set_option maxHeartbeats 4000000 in
set_option maxRecDepth 100000 in
theorem T7_takeNumber_0 (S : CallFix p m c cX7_takeNumber 1 s args vX7_takeNumber RX7) (hr : meth.sig.returnType = none) (hlo : meth.locks = false) {out : PH} : ∀ (n : Nat) {h : PH} {a0 : Nat} (f : F7_takeNumber_0  n h a0 = some out) {H : Heap} {locs : List Loc} (I : ph_I D cy b A fl h s H locs) {ls : Array Slot} (hl : lv_has ls 1 [(0, .ref (b + a0))]), W p l e ({ frames := 1, cells := 0, slots := 0, locals := 24 } : Room) s m args below meth c H locs 0 0 (MQ below (va_Qv (fun (u : PH) => u = out) (ph_B D cy b A fl) A) args s 0 0 A) (F0 m 0 ls []) := by
  intro n
  induction n with
  | zero => intro h a0 f; rw [F7_takeNumber_0] at f; cases f
  | succ n ih =>
    intro h a0 f H locs I ls hl
    rw [F7_takeNumber_0] at f
    refine lv_aload_n S.1 S.2.1 dX7_takeNumber_0 rfl (lv_at hl 0 rfl) ?_
    obtain ⟨v1, e2, f⟩ := ob f
    refine o_gI S lf7_takeNumber_44 I e2 dX7_takeNumber_1 ?_
    refine lv_aload_n S.1 S.2.1 dX7_takeNumber_4 rfl (lv_at hl 0 rfl) ?_
    obtain ⟨v3, e4, f⟩ := ob f
    refine o_gI S lf7_takeNumber_40 I e4 dX7_takeNumber_5 ?_
    refine lv_icmp_ge (tgt := 68) S.1 S.2.1 dX7_takeNumber_8 (by decide) (fun q5 => ?_) (fun q5 => ?_)
    · have f := (if_pos q5).symm.trans f
      exact T7_takeNumber_68 S hr hlo  f I (lv_sub hl [0] rfl)
    · have f := (if_neg q5).symm.trans f
      refine lv_aload_n S.1 S.2.1 dX7_takeNumber_11 rfl (lv_at hl 0 rfl) ?_
      obtain ⟨r6, e7, f⟩ := ob f
      refine o_gR S lf7_takeNumber_15 I e7 dX7_takeNumber_12 ?_
      refine lv_aload_n S.1 S.2.1 dX7_takeNumber_15 rfl (lv_at hl 0 rfl) ?_
      obtain ⟨v8, e9, f⟩ := ob f
      refine o_gI S lf7_takeNumber_44 I e9 dX7_takeNumber_16 ?_
      obtain ⟨v11, e10, f⟩ := ob f
      refine o_bald S I e10 dX7_takeNumber_19 ?_
      obtain ⟨o12, e13, f⟩ := ob f
      refine o_Si S (As := [.int v11]) (rest := []) (M7_isDigit l D cy b A fl e13) gX7_takeNumber_X7_isDigit rfl rfl rfl cd7_isDigit ⟨Nat.le_of_ble_eq_true rfl, Nat.le_of_ble_eq_true rfl⟩ I rfl hl.1 rfl (Nat.le_of_ble_eq_true rfl) dX7_takeNumber_20 ⟨Nat.le_of_ble_eq_true rfl, Nat.le_of_ble_eq_true rfl⟩ (fun H locs I => ?_)
      refine lv_if_eq (tgt := 68) S.1 S.2.1 dX7_takeNumber_23 (by decide) (fun q14 => ?_) (fun q14 => ?_)
      · have f := (if_pos q14).symm.trans f
        exact T7_takeNumber_68 S hr hlo  f I (lv_sub hl [0] rfl)
      · have f := (if_neg q14).symm.trans f
        refine lv_aload_n S.1 S.2.1 dX7_takeNumber_26 rfl (lv_at hl 0 rfl) ?_
        refine lv_aload_n S.1 S.2.1 dX7_takeNumber_27 rfl (lv_at hl 0 rfl) ?_
        obtain ⟨v15, e16, f⟩ := ob f
        refine o_gI S lf7_takeNumber_53 I e16 dX7_takeNumber_28 ?_
        refine lv_bipush (v := 10) S.1 S.2.1 dX7_takeNumber_31 (by decide) ?_
        refine lv_imul S.1 S.2.1 dX7_takeNumber_33 ?_
        refine lv_aload_n S.1 S.2.1 dX7_takeNumber_34 rfl (lv_at hl 0 rfl) ?_
        obtain ⟨r17, e18, f⟩ := ob f
        refine o_gR S lf7_takeNumber_15 I e18 dX7_takeNumber_35 ?_
        refine lv_aload_n S.1 S.2.1 dX7_takeNumber_38 rfl (lv_at hl 0 rfl) ?_
        obtain ⟨v19, e20, f⟩ := ob f
        refine o_gI S lf7_takeNumber_44 I e20 dX7_takeNumber_39 ?_
        obtain ⟨v22, e21, f⟩ := ob f
        refine o_bald S I e21 dX7_takeNumber_42 ?_
        refine lv_iadd S.1 S.2.1 dX7_takeNumber_43 ?_
        refine lv_bipush (v := 48) S.1 S.2.1 dX7_takeNumber_44 (by decide) ?_
        refine lv_isub S.1 S.2.1 dX7_takeNumber_46 ?_
        refine lv_ldc (v := 1000000) S.1 S.2.1 S.2.2.2.1 (S.2.2.2.2 _ (List.mem_cons_of_mem _ wT_16_23)) dX7_takeNumber_47 ?_
        refine va_mmin S.1 S.2.1 (by rw [S.2.2.1, hl.1]) S.2.2.2.1 (S.2.2.2.2 _ (List.mem_cons_of_mem _ wT_15_15)) (S.2.2.2.2 _ (List.mem_cons_of_mem _ wT_15_16)) (S.2.2.2.2 _ (List.mem_cons_of_mem _ wT_15_17)) (S.2.2.2.2 _ (List.mem_cons_of_mem _ wT_15_18)) (Nat.le_of_ble_eq_true rfl) (Nat.le_of_ble_eq_true rfl) (Nat.zero_le _) (Nat.zero_le _) dX7_takeNumber_49 ?_
        obtain ⟨h23, e24, f⟩ := ob f
        refine o_pI S lp7_takeNumber_53 I e24 dX7_takeNumber_52 (fun H locs I => ?_)
        refine lv_aload_n S.1 S.2.1 dX7_takeNumber_55 rfl (lv_at hl 0 rfl) ?_
        refine lv_dup S.1 S.2.1 dX7_takeNumber_56 rfl ?_
        obtain ⟨v25, e26, f⟩ := ob f
        refine o_gI S lf7_takeNumber_44 I e26 dX7_takeNumber_57 ?_
        refine lv_iconst (v := 1) S.1 S.2.1 dX7_takeNumber_60 (by decide) ?_
        refine lv_iadd S.1 S.2.1 dX7_takeNumber_61 ?_
        obtain ⟨h27, e28, f⟩ := ob f
        refine o_pI S lp7_takeNumber_44 I e28 dX7_takeNumber_62 (fun H locs I => ?_)
        refine lv_goto (tgt := 0) S.1 S.2.1 dX7_takeNumber_65 (by decide) ?_
        exact ih f I (lv_sub hl [0] rfl)
theorem M7_takeNumber (l : Launch) (D : va_G) (cy : Nat → ClassId) (b : Nat) (A : Nat → Prop) (fl : Bool) {h : PH} {a0 : Nat} {out : PH} (f : F7_takeNumber h a0 = some out) : Met l yX7_takeNumber vX7_takeNumber ({ frames := 1, cells := 0, slots := 0, locals := 24 } : Room) (va_Pc [.ref (b + a0)] (ph_B D cy b A fl h)) (va_Qv (fun (u : PH) => u = out) (ph_B D cy b A fl) A) 0 0 A :=
  o_met (by decide) rfl (Nat.le_of_ble_eq_true rfl) rfl (fun p e s m below meth c S hr hlo hnm ls hl I => T7_takeNumber_0 S hr hlo 1024 ((gd f).2) I (lv_sub hl [0] rfl))
def vX7_signOf : List Cond := .code yX7_signOf cX7_signOf 1 (some .int) :: TB
theorem cd7_signOf : Cd yX7_signOf 1 := ⟨by decide, by decide, by decide +kernel⟩
set_option maxHeartbeats 4000000 in
set_option maxRecDepth 100000 in
theorem T7_signOf_0 (S : CallFix p m c cX7_signOf 1 s args vX7_signOf RX7) (hr : meth.sig.returnType = (some .int)) (hlo : meth.locks = false) {out : Int32 × PH} {h : PH} {x0 : Int32} (f : F7_signOf_0  h x0 = some out) {H : Heap} {locs : List Loc} (I : ph_I D cy b A fl h s H locs) {ls : Array Slot} (hl : lv_has ls 1 [(0, .int x0)]) : W p l e ({ frames := 0, cells := 0, slots := 0, locals := 0 } : Room) s m args below meth c H locs 0 0 (MQ below (va_Qi (fun (r : Int32) (u : PH) => (r, u) = out) (ph_B D cy b A fl) A) args s 0 0 A) (F0 m 0 ls []) := by
  unfold F7_signOf_0 at f
  refine lv_iload_n S.1 S.2.1 dX7_signOf_0 rfl (lv_at hl 0 rfl) ?_
  rcases Decidable.em (x0 = 40) with q1 | q1
  · have f := (if_pos q1).symm.trans f
    refine lv_tableIn (off := 110) (tgt := 111) S.1 S.2.1 dX7_signOf_1 (by rw [q1]; decide) (by rw [q1]; decide) (by rw [q1]; rfl) (by decide) ?_
    refine lv_bipush (v := 36) S.1 S.2.1 dX7_signOf_111 (by decide) ?_
    exact o_iret S hr hlo I f dX7_signOf_113
  have f := (if_neg q1).symm.trans f
  rcases Decidable.em (x0 = 41) with q2 | q2
  · have f := (if_pos q2).symm.trans f
    refine lv_tableIn (off := 113) (tgt := 114) S.1 S.2.1 dX7_signOf_1 (by rw [q2]; decide) (by rw [q2]; decide) (by rw [q2]; rfl) (by decide) ?_
    refine lv_bipush (v := 37) S.1 S.2.1 dX7_signOf_114 (by decide) ?_
    exact o_iret S hr hlo I f dX7_signOf_116
  have f := (if_neg q2).symm.trans f
  rcases Decidable.em (x0 = 42) with q3 | q3
  · have f := (if_pos q3).symm.trans f
    refine lv_tableIn (off := 131) (tgt := 132) S.1 S.2.1 dX7_signOf_1 (by rw [q3]; decide) (by rw [q3]; decide) (by rw [q3]; rfl) (by decide) ?_
    refine lv_bipush (v := 34) S.1 S.2.1 dX7_signOf_132 (by decide) ?_
    exact o_iret S hr hlo I f dX7_signOf_134
  have f := (if_neg q3).symm.trans f
  rcases Decidable.em (x0 = 43) with q4 | q4
  · have f := (if_pos q4).symm.trans f
    refine lv_tableIn (off := 125) (tgt := 126) S.1 S.2.1 dX7_signOf_1 (by rw [q4]; decide) (by rw [q4]; decide) (by rw [q4]; rfl) (by decide) ?_
    refine lv_bipush (v := 32) S.1 S.2.1 dX7_signOf_126 (by decide) ?_
    exact o_iret S hr hlo I f dX7_signOf_128
  have f := (if_neg q4).symm.trans f
  rcases Decidable.em (x0 = 45) with q5 | q5
  · have f := (if_pos q5).symm.trans f
    refine lv_tableIn (off := 128) (tgt := 129) S.1 S.2.1 dX7_signOf_1 (by rw [q5]; decide) (by rw [q5]; decide) (by rw [q5]; rfl) (by decide) ?_
    refine lv_bipush (v := 33) S.1 S.2.1 dX7_signOf_129 (by decide) ?_
    exact o_iret S hr hlo I f dX7_signOf_131
  have f := (if_neg q5).symm.trans f
  rcases Decidable.em (x0 = 47) with q6 | q6
  · have f := (if_pos q6).symm.trans f
    refine lv_tableIn (off := 134) (tgt := 135) S.1 S.2.1 dX7_signOf_1 (by rw [q6]; decide) (by rw [q6]; decide) (by rw [q6]; rfl) (by decide) ?_
    refine lv_bipush (v := 35) S.1 S.2.1 dX7_signOf_135 (by decide) ?_
    exact o_iret S hr hlo I f dX7_signOf_137
  have f := (if_neg q6).symm.trans f
  rcases Decidable.em (x0 = 59) with q7 | q7
  · have f := (if_pos q7).symm.trans f
    refine lv_tableIn (off := 107) (tgt := 108) S.1 S.2.1 dX7_signOf_1 (by rw [q7]; decide) (by rw [q7]; decide) (by rw [q7]; rfl) (by decide) ?_
    refine lv_bipush (v := 38) S.1 S.2.1 dX7_signOf_108 (by decide) ?_
    exact o_iret S hr hlo I f dX7_signOf_110
  have f := (if_neg q7).symm.trans f
  rcases Decidable.em (x0 = 60) with q8 | q8
  · have f := (if_pos q8).symm.trans f
    refine lv_tableIn (off := 116) (tgt := 117) S.1 S.2.1 dX7_signOf_1 (by rw [q8]; decide) (by rw [q8]; decide) (by rw [q8]; rfl) (by decide) ?_
    refine lv_bipush (v := 26) S.1 S.2.1 dX7_signOf_117 (by decide) ?_
    exact o_iret S hr hlo I f dX7_signOf_119
  have f := (if_neg q8).symm.trans f
  rcases Decidable.em (x0 = 61) with q9 | q9
  · have f := (if_pos q9).symm.trans f
    refine lv_tableIn (off := 119) (tgt := 120) S.1 S.2.1 dX7_signOf_1 (by rw [q9]; decide) (by rw [q9]; decide) (by rw [q9]; rfl) (by decide) ?_
    refine lv_bipush (v := 28) S.1 S.2.1 dX7_signOf_120 (by decide) ?_
    exact o_iret S hr hlo I f dX7_signOf_122
  have f := (if_neg q9).symm.trans f
  rcases Decidable.em (x0 = 62) with q10 | q10
  · have f := (if_pos q10).symm.trans f
    refine lv_tableIn (off := 122) (tgt := 123) S.1 S.2.1 dX7_signOf_1 (by rw [q10]; decide) (by rw [q10]; decide) (by rw [q10]; rfl) (by decide) ?_
    refine lv_bipush (v := 31) S.1 S.2.1 dX7_signOf_123 (by decide) ?_
    exact o_iret S hr hlo I f dX7_signOf_125
  have f := (if_neg q10).symm.trans f
  suffices K : W p l e ({ frames := 0, cells := 0, slots := 0, locals := 0 } : Room) s m args below meth c H locs 0 0 (MQ below (va_Qi (fun (r : Int32) (u : PH) => (r, u) = out) (ph_B D cy b A fl) A) args s 0 0 A) (F0 m 138 ls []) by
    have := lv_neT q1 (a := 40) (by decide)
    have := lv_neT q2 (a := 41) (by decide)
    have := lv_neT q3 (a := 42) (by decide)
    have := lv_neT q4 (a := 43) (by decide)
    have := lv_neT q5 (a := 45) (by decide)
    have := lv_neT q6 (a := 47) (by decide)
    have := lv_neT q7 (a := 59) (by decide)
    have := lv_neT q8 (a := 60) (by decide)
    have := lv_neT q9 (a := 61) (by decide)
    have := lv_neT q10 (a := 62) (by decide)
    have g9 : (x0).toInt < 40 ∨ 62 < (x0).toInt ∨ (x0).toInt = 44 ∨ (x0).toInt = 46 ∨ (x0).toInt = 48 ∨ (x0).toInt = 49 ∨ (x0).toInt = 50 ∨ (x0).toInt = 51 ∨ (x0).toInt = 52 ∨ (x0).toInt = 53 ∨ (x0).toInt = 54 ∨ (x0).toInt = 55 ∨ (x0).toInt = 56 ∨ (x0).toInt = 57 ∨ (x0).toInt = 58 := by omega
    rcases g9 with g9 | g9 | g9 | g9 | g9 | g9 | g9 | g9 | g9 | g9 | g9 | g9 | g9 | g9 | g9
    · exact lv_tableOut (tgt := 138) S.1 S.2.1 dX7_signOf_1 (Or.inl g9) (by decide) K
    · exact lv_tableOut (tgt := 138) S.1 S.2.1 dX7_signOf_1 (Or.inr g9) (by decide) K
    · exact lv_tableIn (off := 137) (tgt := 138) S.1 S.2.1 dX7_signOf_1 (by rw [g9]; decide) (by rw [g9]; decide) (by rw [g9]; rfl) (by decide) K
    · exact lv_tableIn (off := 137) (tgt := 138) S.1 S.2.1 dX7_signOf_1 (by rw [g9]; decide) (by rw [g9]; decide) (by rw [g9]; rfl) (by decide) K
    · exact lv_tableIn (off := 137) (tgt := 138) S.1 S.2.1 dX7_signOf_1 (by rw [g9]; decide) (by rw [g9]; decide) (by rw [g9]; rfl) (by decide) K
    · exact lv_tableIn (off := 137) (tgt := 138) S.1 S.2.1 dX7_signOf_1 (by rw [g9]; decide) (by rw [g9]; decide) (by rw [g9]; rfl) (by decide) K
    · exact lv_tableIn (off := 137) (tgt := 138) S.1 S.2.1 dX7_signOf_1 (by rw [g9]; decide) (by rw [g9]; decide) (by rw [g9]; rfl) (by decide) K
    · exact lv_tableIn (off := 137) (tgt := 138) S.1 S.2.1 dX7_signOf_1 (by rw [g9]; decide) (by rw [g9]; decide) (by rw [g9]; rfl) (by decide) K
    · exact lv_tableIn (off := 137) (tgt := 138) S.1 S.2.1 dX7_signOf_1 (by rw [g9]; decide) (by rw [g9]; decide) (by rw [g9]; rfl) (by decide) K
    · exact lv_tableIn (off := 137) (tgt := 138) S.1 S.2.1 dX7_signOf_1 (by rw [g9]; decide) (by rw [g9]; decide) (by rw [g9]; rfl) (by decide) K
    · exact lv_tableIn (off := 137) (tgt := 138) S.1 S.2.1 dX7_signOf_1 (by rw [g9]; decide) (by rw [g9]; decide) (by rw [g9]; rfl) (by decide) K
    · exact lv_tableIn (off := 137) (tgt := 138) S.1 S.2.1 dX7_signOf_1 (by rw [g9]; decide) (by rw [g9]; decide) (by rw [g9]; rfl) (by decide) K
    · exact lv_tableIn (off := 137) (tgt := 138) S.1 S.2.1 dX7_signOf_1 (by rw [g9]; decide) (by rw [g9]; decide) (by rw [g9]; rfl) (by decide) K
    · exact lv_tableIn (off := 137) (tgt := 138) S.1 S.2.1 dX7_signOf_1 (by rw [g9]; decide) (by rw [g9]; decide) (by rw [g9]; rfl) (by decide) K
    · exact lv_tableIn (off := 137) (tgt := 138) S.1 S.2.1 dX7_signOf_1 (by rw [g9]; decide) (by rw [g9]; decide) (by rw [g9]; rfl) (by decide) K
  refine lv_bipush (v := 40) S.1 S.2.1 dX7_signOf_138 (by decide) ?_
  exact o_iret S hr hlo I f dX7_signOf_140
theorem M7_signOf (l : Launch) (D : va_G) (cy : Nat → ClassId) (b : Nat) (A : Nat → Prop) (fl : Bool) {h : PH} {x0 : Int32} {out : Int32 × PH} (f : F7_signOf h x0 = some out) : Met l yX7_signOf vX7_signOf ({ frames := 0, cells := 0, slots := 0, locals := 0 } : Room) (va_Pc [.int x0] (ph_B D cy b A fl h)) (va_Qi (fun (r : Int32) (u : PH) => (r, u) = out) (ph_B D cy b A fl) A) 0 0 A :=
  o_met (by decide) rfl (Nat.le_of_ble_eq_true rfl) rfl (fun p e s m below meth c S hr hlo hnm ls hl I => T7_signOf_0 S hr hlo (f) I (lv_sub hl [0] rfl))
def vX7_isNext : List Cond := .code yX7_isNext cX7_isNext 2 (some .boolean) :: TB
theorem lf7_isNext_44 : Fl vX7_isNext RX7 44 7 3 := ⟨RX7, TX7, 7, rfl, by decide, (fun w h9 => List.mem_cons_of_mem _ (wC_wsX70 w h9)), (List.mem_cons_of_mem _ wT_15_20)⟩
theorem lf7_isNext_40 : Fl vX7_isNext RX7 40 7 2 := ⟨RX7, TX7, 7, rfl, by decide, (fun w h9 => List.mem_cons_of_mem _ (wC_wsX70 w h9)), (List.mem_cons_of_mem _ wT_15_19)⟩
theorem lf7_isNext_15 : Fl vX7_isNext RX7 15 7 1 := ⟨RX7, TX7, 7, rfl, by decide, (fun w h9 => List.mem_cons_of_mem _ (wC_wsX70 w h9)), (List.mem_cons_of_mem _ wT_5_11)⟩
theorem cd7_isNext : Cd yX7_isNext 1 := ⟨by decide, by decide, by decide +kernel⟩
set_option maxHeartbeats 4000000 in
set_option maxRecDepth 100000 in
theorem T7_isNext_0 (S : CallFix p m c cX7_isNext 2 s args vX7_isNext RX7) (hr : meth.sig.returnType = (some .boolean)) (hlo : meth.locks = false) {out : Int32 × PH} {h : PH} {a0 : Nat} {x1 : Int32} (f : F7_isNext_0  h a0 x1 = some out) {H : Heap} {locs : List Loc} (I : ph_I D cy b A fl h s H locs) {ls : Array Slot} (hl : lv_has ls 2 [(0, .ref (b + a0)), (1, .int x1)]) : W p l e ({ frames := 0, cells := 0, slots := 0, locals := 0 } : Room) s m args below meth c H locs 0 0 (MQ below (va_Qi (fun (r : Int32) (u : PH) => (r, u) = out) (ph_B D cy b A fl) A) args s 0 0 A) (F0 m 0 ls []) := by
  unfold F7_isNext_0 at f
  refine lv_aload_n S.1 S.2.1 dX7_isNext_0 rfl (lv_at hl 0 rfl) ?_
  obtain ⟨v1, e2, f⟩ := ob f
  refine o_gI S lf7_isNext_44 I e2 dX7_isNext_1 ?_
  refine lv_aload_n S.1 S.2.1 dX7_isNext_4 rfl (lv_at hl 0 rfl) ?_
  obtain ⟨v3, e4, f⟩ := ob f
  refine o_gI S lf7_isNext_40 I e4 dX7_isNext_5 ?_
  refine lv_icmp_ge (tgt := 28) S.1 S.2.1 dX7_isNext_8 (by decide) (fun q5 => ?_) (fun q5 => ?_)
  · have f := (if_pos q5).symm.trans f
    refine lv_iconst (v := 0) S.1 S.2.1 dX7_isNext_28 (by decide) ?_
    exact o_zret S hr hlo I f dX7_isNext_29
  · have f := (if_neg q5).symm.trans f
    refine lv_aload_n S.1 S.2.1 dX7_isNext_11 rfl (lv_at hl 0 rfl) ?_
    obtain ⟨r6, e7, f⟩ := ob f
    refine o_gR S lf7_isNext_15 I e7 dX7_isNext_12 ?_
    refine lv_aload_n S.1 S.2.1 dX7_isNext_15 rfl (lv_at hl 0 rfl) ?_
    obtain ⟨v8, e9, f⟩ := ob f
    refine o_gI S lf7_isNext_44 I e9 dX7_isNext_16 ?_
    obtain ⟨v11, e10, f⟩ := ob f
    refine o_bald S I e10 dX7_isNext_19 ?_
    refine lv_iload_n S.1 S.2.1 dX7_isNext_20 rfl (lv_at hl 1 rfl) ?_
    refine lv_icmp_ne (tgt := 28) S.1 S.2.1 dX7_isNext_21 (by decide) (fun q12 => ?_) (fun q12 => ?_)
    · have f := (if_neg q12).symm.trans f
      refine lv_iconst (v := 0) S.1 S.2.1 dX7_isNext_28 (by decide) ?_
      exact o_zret S hr hlo I f dX7_isNext_29
    · have f := (if_pos q12).symm.trans f
      refine lv_iconst (v := 1) S.1 S.2.1 dX7_isNext_24 (by decide) ?_
      refine lv_goto (tgt := 29) S.1 S.2.1 dX7_isNext_25 (by decide) ?_
      exact o_zret S hr hlo I f dX7_isNext_29
theorem M7_isNext (l : Launch) (D : va_G) (cy : Nat → ClassId) (b : Nat) (A : Nat → Prop) (fl : Bool) {h : PH} {a0 : Nat} {x1 : Int32} {out : Int32 × PH} (f : F7_isNext h a0 x1 = some out) : Met l yX7_isNext vX7_isNext ({ frames := 0, cells := 0, slots := 0, locals := 0 } : Room) (va_Pc [.ref (b + a0), .int x1] (ph_B D cy b A fl h)) (va_Qi (fun (r : Int32) (u : PH) => (r, u) = out) (ph_B D cy b A fl) A) 0 0 A :=
  o_met (by decide) rfl (Nat.le_of_ble_eq_true rfl) rfl (fun p e s m below meth c S hr hlo hnm ls hl I => T7_isNext_0 S hr hlo ((gd f).2) I (lv_sub hl [0, 1] rfl))
def vX7_takeSign : List Cond := .code yX7_takeSign cX7_takeSign 2 none :: TB
theorem lf7_takeSign_56 : Fl vX7_takeSign RX7 56 7 4 := ⟨RX7, TX7, 7, rfl, by decide, (fun w h9 => List.mem_cons_of_mem _ (wC_wsX70 w h9)), (List.mem_cons_of_mem _ wT_16_3)⟩
theorem gX7_takeSign_X7_isNext : GoodIn vX7_takeSign (wsV RX7 79 RX7 yX7_isNext vX7_isNext) := gV_of wT_17_7 wT_17_8 wT_17_9 wT_5_2 wT_17_10
theorem lp7_takeSign_56 : Pl vX7_takeSign RX7 56 7 4 .int := ⟨RX7, TX7, 7, tyX7, rfl, by decide, (fun w h9 => List.mem_cons_of_mem _ (wC_wsX70 w h9)), (List.mem_cons_of_mem _ wT_16_3), tyX7_ok, nmX7, rfl, rfl⟩
theorem lf7_takeSign_44 : Fl vX7_takeSign RX7 44 7 3 := ⟨RX7, TX7, 7, rfl, by decide, (fun w h9 => List.mem_cons_of_mem _ (wC_wsX70 w h9)), (List.mem_cons_of_mem _ wT_15_20)⟩
theorem lp7_takeSign_44 : Pl vX7_takeSign RX7 44 7 3 .int := ⟨RX7, TX7, 7, tyX7, rfl, by decide, (fun w h9 => List.mem_cons_of_mem _ (wC_wsX70 w h9)), (List.mem_cons_of_mem _ wT_15_20), tyX7_ok, nmX7, rfl, rfl⟩
theorem lf7_takeSign_15 : Fl vX7_takeSign RX7 15 7 1 := ⟨RX7, TX7, 7, rfl, by decide, (fun w h9 => List.mem_cons_of_mem _ (wC_wsX70 w h9)), (List.mem_cons_of_mem _ wT_5_11)⟩
theorem gX7_takeSign_X7_signOf : GoodIn vX7_takeSign (va_wsS RX7 76 yX7_signOf vX7_signOf) := gS_of wT_17_4 wT_17_5 wT_5_2 wT_17_6
theorem cd7_takeSign : Cd yX7_takeSign 0 := ⟨by decide, by decide, by decide +kernel⟩
set_option maxHeartbeats 4000000 in
set_option maxRecDepth 100000 in
theorem T7_takeSign_102 (S : CallFix p m c cX7_takeSign 2 s args vX7_takeSign RX7) (hr : meth.sig.returnType = none) (hlo : meth.locks = false) {out : PH} {h : PH} {a0 : Nat} (f : F7_takeSign_102  h a0 = some out) {H : Heap} {locs : List Loc} (I : ph_I D cy b A fl h s H locs) {ls : Array Slot} (hl : lv_has ls 2 [(0, .ref (b + a0))]) : W p l e ({ frames := 1, cells := 0, slots := 0, locals := 21 } : Room) s m args below meth c H locs 0 0 (MQ below (va_Qv (fun (u : PH) => u = out) (ph_B D cy b A fl) A) args s 0 0 A) (F0 m 102 ls []) := by
  unfold F7_takeSign_102 at f
  refine lv_aload_n S.1 S.2.1 dX7_takeSign_102 rfl (lv_at hl 0 rfl) ?_
  obtain ⟨v1, e2, f⟩ := ob f
  refine o_gI S lf7_takeSign_56 I e2 dX7_takeSign_103 ?_
  refine lv_bipush (v := 31) S.1 S.2.1 dX7_takeSign_106 (by decide) ?_
  refine lv_icmp_ne (tgt := 136) S.1 S.2.1 dX7_takeSign_108 (by decide) (fun q3 => ?_) (fun q3 => ?_)
  · have f := (if_neg q3).symm.trans f
    exact o_vret S hr hlo I f dX7_takeSign_136
  · have f := (if_pos q3).symm.trans f
    refine lv_aload_n S.1 S.2.1 dX7_takeSign_111 rfl (lv_at hl 0 rfl) ?_
    refine lv_bipush (v := 61) S.1 S.2.1 dX7_takeSign_112 (by decide) ?_
    obtain ⟨o4, e5, f⟩ := ob f
    refine o_Vi S (As := [.int 61]) (rest := []) (ci := 7) (M7_isNext l D cy b A fl e5) gX7_takeSign_X7_isNext rfl rfl rfl cd7_isNext ⟨Nat.le_of_ble_eq_true rfl, Nat.le_of_ble_eq_true rfl⟩ I (gd e5).1 clX7 rfl rfl hl.1 rfl (Nat.le_of_ble_eq_true rfl) dX7_takeSign_114 ⟨Nat.le_of_ble_eq_true rfl, Nat.le_of_ble_eq_true rfl⟩ (fun H locs I => ?_)
    refine lv_if_eq (tgt := 136) S.1 S.2.1 dX7_takeSign_117 (by decide) (fun q6 => ?_) (fun q6 => ?_)
    · have f := (if_pos q6).symm.trans f
      exact o_vret S hr hlo I f dX7_takeSign_136
    · have f := (if_neg q6).symm.trans f
      refine lv_aload_n S.1 S.2.1 dX7_takeSign_120 rfl (lv_at hl 0 rfl) ?_
      refine lv_bipush (v := 30) S.1 S.2.1 dX7_takeSign_121 (by decide) ?_
      obtain ⟨h7, e8, f⟩ := ob f
      refine o_pI S lp7_takeSign_56 I e8 dX7_takeSign_123 (fun H locs I => ?_)
      refine lv_aload_n S.1 S.2.1 dX7_takeSign_126 rfl (lv_at hl 0 rfl) ?_
      refine lv_dup S.1 S.2.1 dX7_takeSign_127 rfl ?_
      obtain ⟨v9, e10, f⟩ := ob f
      refine o_gI S lf7_takeSign_44 I e10 dX7_takeSign_128 ?_
      refine lv_iconst (v := 1) S.1 S.2.1 dX7_takeSign_131 (by decide) ?_
      refine lv_iadd S.1 S.2.1 dX7_takeSign_132 ?_
      obtain ⟨h11, e12, f⟩ := ob f
      refine o_pI S lp7_takeSign_44 I e12 dX7_takeSign_133 (fun H locs I => ?_)
      exact o_vret S hr hlo I f dX7_takeSign_136
set_option maxHeartbeats 4000000 in
set_option maxRecDepth 100000 in
theorem T7_takeSign_65 (S : CallFix p m c cX7_takeSign 2 s args vX7_takeSign RX7) (hr : meth.sig.returnType = none) (hlo : meth.locks = false) {out : PH} {h : PH} {a0 : Nat} (f : F7_takeSign_65  h a0 = some out) {H : Heap} {locs : List Loc} (I : ph_I D cy b A fl h s H locs) {ls : Array Slot} (hl : lv_has ls 2 [(0, .ref (b + a0))]) : W p l e ({ frames := 1, cells := 0, slots := 0, locals := 21 } : Room) s m args below meth c H locs 0 0 (MQ below (va_Qv (fun (u : PH) => u = out) (ph_B D cy b A fl) A) args s 0 0 A) (F0 m 65 ls []) := by
  unfold F7_takeSign_65 at f
  refine lv_aload_n S.1 S.2.1 dX7_takeSign_65 rfl (lv_at hl 0 rfl) ?_
  obtain ⟨v1, e2, f⟩ := ob f
  refine o_gI S lf7_takeSign_56 I e2 dX7_takeSign_66 ?_
  refine lv_bipush (v := 26) S.1 S.2.1 dX7_takeSign_69 (by decide) ?_
  refine lv_icmp_ne (tgt := 102) S.1 S.2.1 dX7_takeSign_71 (by decide) (fun q3 => ?_) (fun q3 => ?_)
  · have f := (if_neg q3).symm.trans f
    exact T7_takeSign_102 S hr hlo  f I (lv_sub hl [0] rfl)
  · have f := (if_pos q3).symm.trans f
    refine lv_aload_n S.1 S.2.1 dX7_takeSign_74 rfl (lv_at hl 0 rfl) ?_
    refine lv_bipush (v := 62) S.1 S.2.1 dX7_takeSign_75 (by decide) ?_
    obtain ⟨o4, e5, f⟩ := ob f
    refine o_Vi S (As := [.int 62]) (rest := []) (ci := 7) (M7_isNext l D cy b A fl e5) gX7_takeSign_X7_isNext rfl rfl rfl cd7_isNext ⟨Nat.le_of_ble_eq_true rfl, Nat.le_of_ble_eq_true rfl⟩ I (gd e5).1 clX7 rfl rfl hl.1 rfl (Nat.le_of_ble_eq_true rfl) dX7_takeSign_77 ⟨Nat.le_of_ble_eq_true rfl, Nat.le_of_ble_eq_true rfl⟩ (fun H locs I => ?_)
    refine lv_if_eq (tgt := 102) S.1 S.2.1 dX7_takeSign_80 (by decide) (fun q6 => ?_) (fun q6 => ?_)
    · have f := (if_pos q6).symm.trans f
      exact T7_takeSign_102 S hr hlo  f I (lv_sub hl [0] rfl)
    · have f := (if_neg q6).symm.trans f
      refine lv_aload_n S.1 S.2.1 dX7_takeSign_83 rfl (lv_at hl 0 rfl) ?_
      refine lv_bipush (v := 29) S.1 S.2.1 dX7_takeSign_84 (by decide) ?_
      obtain ⟨h7, e8, f⟩ := ob f
      refine o_pI S lp7_takeSign_56 I e8 dX7_takeSign_86 (fun H locs I => ?_)
      refine lv_aload_n S.1 S.2.1 dX7_takeSign_89 rfl (lv_at hl 0 rfl) ?_
      refine lv_dup S.1 S.2.1 dX7_takeSign_90 rfl ?_
      obtain ⟨v9, e10, f⟩ := ob f
      refine o_gI S lf7_takeSign_44 I e10 dX7_takeSign_91 ?_
      refine lv_iconst (v := 1) S.1 S.2.1 dX7_takeSign_94 (by decide) ?_
      refine lv_iadd S.1 S.2.1 dX7_takeSign_95 ?_
      obtain ⟨h11, e12, f⟩ := ob f
      refine o_pI S lp7_takeSign_44 I e12 dX7_takeSign_96 (fun H locs I => ?_)
      refine lv_goto (tgt := 136) S.1 S.2.1 dX7_takeSign_99 (by decide) ?_
      exact o_vret S hr hlo I f dX7_takeSign_136
set_option maxHeartbeats 4000000 in
set_option maxRecDepth 100000 in
theorem T7_takeSign_0 (S : CallFix p m c cX7_takeSign 2 s args vX7_takeSign RX7) (hr : meth.sig.returnType = none) (hlo : meth.locks = false) {out : PH} {h : PH} {a0 : Nat} (f : F7_takeSign_0  h a0 = some out) {H : Heap} {locs : List Loc} (I : ph_I D cy b A fl h s H locs) {ls : Array Slot} (hl : lv_has ls 2 [(0, .ref (b + a0))]) : W p l e ({ frames := 1, cells := 0, slots := 0, locals := 21 } : Room) s m args below meth c H locs 0 0 (MQ below (va_Qv (fun (u : PH) => u = out) (ph_B D cy b A fl) A) args s 0 0 A) (F0 m 0 ls []) := by
  unfold F7_takeSign_0 at f
  refine lv_aload_n S.1 S.2.1 dX7_takeSign_0 rfl (lv_at hl 0 rfl) ?_
  obtain ⟨r1, e2, f⟩ := ob f
  refine o_gR S lf7_takeSign_15 I e2 dX7_takeSign_1 ?_
  refine lv_aload_n S.1 S.2.1 dX7_takeSign_4 rfl (lv_at hl 0 rfl) ?_
  obtain ⟨v3, e4, f⟩ := ob f
  refine o_gI S lf7_takeSign_44 I e4 dX7_takeSign_5 ?_
  obtain ⟨v6, e5, f⟩ := ob f
  refine o_bald S I e5 dX7_takeSign_8 ?_
  refine lv_istore_n (lv' := [(1, .int v6), (0, .ref (b + a0))]) S.1 S.2.1 dX7_takeSign_9 rfl hl (by decide) rfl (fun ls hl => ?_)
  refine lv_aload_n S.1 S.2.1 dX7_takeSign_10 rfl (lv_at hl 1 rfl) ?_
  refine lv_dup S.1 S.2.1 dX7_takeSign_11 rfl ?_
  obtain ⟨v7, e8, f⟩ := ob f
  refine o_gI S lf7_takeSign_44 I e8 dX7_takeSign_12 ?_
  refine lv_iconst (v := 1) S.1 S.2.1 dX7_takeSign_15 (by decide) ?_
  refine lv_iadd S.1 S.2.1 dX7_takeSign_16 ?_
  obtain ⟨h9, e10, f⟩ := ob f
  refine o_pI S lp7_takeSign_44 I e10 dX7_takeSign_17 (fun H locs I => ?_)
  refine lv_aload_n S.1 S.2.1 dX7_takeSign_20 rfl (lv_at hl 1 rfl) ?_
  refine lv_iload_n S.1 S.2.1 dX7_takeSign_21 rfl (lv_at hl 0 rfl) ?_
  obtain ⟨o11, e12, f⟩ := ob f
  refine o_Si S (As := [.int v6]) (rest := [.ref (b + a0)]) (M7_signOf l D cy b A fl e12) gX7_takeSign_X7_signOf rfl rfl rfl cd7_signOf ⟨Nat.le_of_ble_eq_true rfl, Nat.le_of_ble_eq_true rfl⟩ I rfl hl.1 rfl (Nat.le_of_ble_eq_true rfl) dX7_takeSign_22 ⟨Nat.le_of_ble_eq_true rfl, Nat.le_of_ble_eq_true rfl⟩ (fun H locs I => ?_)
  obtain ⟨h13, e14, f⟩ := ob f
  refine o_pI S lp7_takeSign_56 I e14 dX7_takeSign_25 (fun H locs I => ?_)
  refine lv_aload_n S.1 S.2.1 dX7_takeSign_28 rfl (lv_at hl 1 rfl) ?_
  obtain ⟨v15, e16, f⟩ := ob f
  refine o_gI S lf7_takeSign_56 I e16 dX7_takeSign_29 ?_
  refine lv_bipush (v := 26) S.1 S.2.1 dX7_takeSign_32 (by decide) ?_
  refine lv_icmp_ne (tgt := 65) S.1 S.2.1 dX7_takeSign_34 (by decide) (fun q17 => ?_) (fun q17 => ?_)
  · have f := (if_neg q17).symm.trans f
    exact T7_takeSign_65 S hr hlo  f I (lv_sub hl [1] rfl)
  · have f := (if_pos q17).symm.trans f
    refine lv_aload_n S.1 S.2.1 dX7_takeSign_37 rfl (lv_at hl 1 rfl) ?_
    refine lv_bipush (v := 61) S.1 S.2.1 dX7_takeSign_38 (by decide) ?_
    obtain ⟨o18, e19, f⟩ := ob f
    refine o_Vi S (As := [.int 61]) (rest := []) (ci := 7) (M7_isNext l D cy b A fl e19) gX7_takeSign_X7_isNext rfl rfl rfl cd7_isNext ⟨Nat.le_of_ble_eq_true rfl, Nat.le_of_ble_eq_true rfl⟩ I (gd e19).1 clX7 rfl rfl hl.1 rfl (Nat.le_of_ble_eq_true rfl) dX7_takeSign_40 ⟨Nat.le_of_ble_eq_true rfl, Nat.le_of_ble_eq_true rfl⟩ (fun H locs I => ?_)
    refine lv_if_eq (tgt := 65) S.1 S.2.1 dX7_takeSign_43 (by decide) (fun q20 => ?_) (fun q20 => ?_)
    · have f := (if_pos q20).symm.trans f
      exact T7_takeSign_65 S hr hlo  f I (lv_sub hl [1] rfl)
    · have f := (if_neg q20).symm.trans f
      refine lv_aload_n S.1 S.2.1 dX7_takeSign_46 rfl (lv_at hl 1 rfl) ?_
      refine lv_bipush (v := 27) S.1 S.2.1 dX7_takeSign_47 (by decide) ?_
      obtain ⟨h21, e22, f⟩ := ob f
      refine o_pI S lp7_takeSign_56 I e22 dX7_takeSign_49 (fun H locs I => ?_)
      refine lv_aload_n S.1 S.2.1 dX7_takeSign_52 rfl (lv_at hl 1 rfl) ?_
      refine lv_dup S.1 S.2.1 dX7_takeSign_53 rfl ?_
      obtain ⟨v23, e24, f⟩ := ob f
      refine o_gI S lf7_takeSign_44 I e24 dX7_takeSign_54 ?_
      refine lv_iconst (v := 1) S.1 S.2.1 dX7_takeSign_57 (by decide) ?_
      refine lv_iadd S.1 S.2.1 dX7_takeSign_58 ?_
      obtain ⟨h25, e26, f⟩ := ob f
      refine o_pI S lp7_takeSign_44 I e26 dX7_takeSign_59 (fun H locs I => ?_)
      refine lv_goto (tgt := 136) S.1 S.2.1 dX7_takeSign_62 (by decide) ?_
      exact o_vret S hr hlo I f dX7_takeSign_136
theorem M7_takeSign (l : Launch) (D : va_G) (cy : Nat → ClassId) (b : Nat) (A : Nat → Prop) (fl : Bool) {h : PH} {a0 : Nat} {out : PH} (f : F7_takeSign h a0 = some out) : Met l yX7_takeSign vX7_takeSign ({ frames := 1, cells := 0, slots := 0, locals := 21 } : Room) (va_Pc [.ref (b + a0)] (ph_B D cy b A fl h)) (va_Qv (fun (u : PH) => u = out) (ph_B D cy b A fl) A) 0 0 A :=
  o_met (by decide) rfl (Nat.le_of_ble_eq_true rfl) rfl (fun p e s m below meth c S hr hlo hnm ls hl I => T7_takeSign_0 S hr hlo ((gd f).2) I (lv_sub hl [0] rfl))
def vX7_advance : List Cond := .code yX7_advance cX7_advance 1 none :: TB
theorem gX7_advance_X7_skipBlanks : GoodIn vX7_advance (wsV RX7 47 RX7 yX7_skipBlanks vX7_skipBlanks) := gV_of wT_16_4 wT_16_5 wT_16_6 wT_5_2 wT_16_7
theorem lf7_advance_44 : Fl vX7_advance RX7 44 7 3 := ⟨RX7, TX7, 7, rfl, by decide, (fun w h9 => List.mem_cons_of_mem _ (wC_wsX70 w h9)), (List.mem_cons_of_mem _ wT_15_20)⟩
theorem lp7_advance_50 : Pl vX7_advance RX7 50 7 5 .int := ⟨RX7, TX7, 7, tyX7, rfl, by decide, (fun w h9 => List.mem_cons_of_mem _ (wC_wsX70 w h9)), (List.mem_cons_of_mem _ wT_16_1), tyX7_ok, nmX7, rfl, rfl⟩
theorem lp7_advance_53 : Pl vX7_advance RX7 53 7 6 .int := ⟨RX7, TX7, 7, tyX7, rfl, by decide, (fun w h9 => List.mem_cons_of_mem _ (wC_wsX70 w h9)), (List.mem_cons_of_mem _ wT_16_2), tyX7_ok, nmX7, rfl, rfl⟩
theorem lf7_advance_40 : Fl vX7_advance RX7 40 7 2 := ⟨RX7, TX7, 7, rfl, by decide, (fun w h9 => List.mem_cons_of_mem _ (wC_wsX70 w h9)), (List.mem_cons_of_mem _ wT_15_19)⟩
theorem lf7_advance_15 : Fl vX7_advance RX7 15 7 1 := ⟨RX7, TX7, 7, rfl, by decide, (fun w h9 => List.mem_cons_of_mem _ (wC_wsX70 w h9)), (List.mem_cons_of_mem _ wT_5_11)⟩
theorem gX7_advance_X7_isLetter : GoodIn vX7_advance (va_wsS RX7 27 yX7_isLetter vX7_isLetter) := gS_of wT_7_5 wT_7_6 wT_5_2 wT_7_7
theorem gX7_advance_X7_isDigit : GoodIn vX7_advance (va_wsS RX7 62 yX7_isDigit vX7_isDigit) := gS_of wT_16_16 wT_16_17 wT_5_2 wT_16_18
theorem gX7_advance_X7_takeSign : GoodIn vX7_advance (wsV RX7 68 RX7 yX7_takeSign vX7_takeSign) := gV_of wT_17_0 wT_17_1 wT_17_2 wT_5_2 wT_17_3
theorem gX7_advance_X7_takeNumber : GoodIn vX7_advance (wsV RX7 65 RX7 yX7_takeNumber vX7_takeNumber) := gV_of wT_16_19 wT_16_20 wT_16_21 wT_5_2 wT_16_22
theorem gX7_advance_X7_takeWord : GoodIn vX7_advance (wsV RX7 59 RX7 yX7_takeWord vX7_takeWord) := gV_of wT_16_8 wT_16_9 wT_16_10 wT_5_2 wT_16_11
theorem lp7_advance_56 : Pl vX7_advance RX7 56 7 4 .int := ⟨RX7, TX7, 7, tyX7, rfl, by decide, (fun w h9 => List.mem_cons_of_mem _ (wC_wsX70 w h9)), (List.mem_cons_of_mem _ wT_16_3), tyX7_ok, nmX7, rfl, rfl⟩
theorem cd7_advance : Cd yX7_advance 0 := ⟨by decide, by decide, by decide +kernel⟩
set_option maxHeartbeats 4000000 in
set_option maxRecDepth 100000 in
theorem T7_advance_0 (S : CallFix p m c cX7_advance 1 s args vX7_advance RX7) (hr : meth.sig.returnType = none) (hlo : meth.locks = false) {out : PH} {h : PH} {a0 : Nat} (f : F7_advance_0  h a0 = some out) {H : Heap} {locs : List Loc} (I : ph_I D cy b A fl h s H locs) {ls : Array Slot} (hl : lv_has ls 1 [(0, .ref (b + a0))]) : W p l e ({ frames := 2, cells := 0, slots := 0, locals := 44 } : Room) s m args below meth c H locs 0 0 (MQ below (va_Qv (fun (u : PH) => u = out) (ph_B D cy b A fl) A) args s 0 0 A) (F0 m 0 ls []) := by
  unfold F7_advance_0 at f
  refine lv_aload_n S.1 S.2.1 dX7_advance_0 rfl (lv_at hl 0 rfl) ?_
  obtain ⟨o1, e2, f⟩ := ob f
  refine o_Vv S (As := []) (rest := []) (ci := 7) (M7_skipBlanks l D cy b A fl e2) gX7_advance_X7_skipBlanks rfl rfl rfl cd7_skipBlanks ⟨Nat.le_of_ble_eq_true rfl, Nat.le_of_ble_eq_true rfl⟩ I (gd e2).1 clX7 rfl rfl hl.1 rfl (Nat.le_of_ble_eq_true rfl) dX7_advance_1 ⟨Nat.le_of_ble_eq_true rfl, Nat.le_of_ble_eq_true rfl⟩ (fun H locs I => ?_)
  refine lv_aload_n S.1 S.2.1 dX7_advance_4 rfl (lv_at hl 0 rfl) ?_
  refine lv_aload_n S.1 S.2.1 dX7_advance_5 rfl (lv_at hl 0 rfl) ?_
  obtain ⟨v3, e4, f⟩ := ob f
  refine o_gI S lf7_advance_44 I e4 dX7_advance_6 ?_
  obtain ⟨h5, e6, f⟩ := ob f
  refine o_pI S lp7_advance_50 I e6 dX7_advance_9 (fun H locs I => ?_)
  refine lv_aload_n S.1 S.2.1 dX7_advance_12 rfl (lv_at hl 0 rfl) ?_
  refine lv_iconst (v := 0) S.1 S.2.1 dX7_advance_13 (by decide) ?_
  obtain ⟨h7, e8, f⟩ := ob f
  refine o_pI S lp7_advance_53 I e8 dX7_advance_14 (fun H locs I => ?_)
  refine lv_aload_n S.1 S.2.1 dX7_advance_17 rfl (lv_at hl 0 rfl) ?_
  obtain ⟨v9, e10, f⟩ := ob f
  refine o_gI S lf7_advance_44 I e10 dX7_advance_18 ?_
  refine lv_aload_n S.1 S.2.1 dX7_advance_21 rfl (lv_at hl 0 rfl) ?_
  obtain ⟨v11, e12, f⟩ := ob f
  refine o_gI S lf7_advance_40 I e12 dX7_advance_22 ?_
  refine lv_icmp_lt (tgt := 37) S.1 S.2.1 dX7_advance_25 (by decide) (fun q13 => ?_) (fun q13 => ?_)
  · have f := (if_pos q13).symm.trans f
    refine lv_aload_n S.1 S.2.1 dX7_advance_37 rfl (lv_at hl 0 rfl) ?_
    obtain ⟨r14, e15, f⟩ := ob f
    refine o_gR S lf7_advance_15 I e15 dX7_advance_38 ?_
    refine lv_aload_n S.1 S.2.1 dX7_advance_41 rfl (lv_at hl 0 rfl) ?_
    obtain ⟨v16, e17, f⟩ := ob f
    refine o_gI S lf7_advance_44 I e17 dX7_advance_42 ?_
    obtain ⟨v19, e18, f⟩ := ob f
    refine o_bald S I e18 dX7_advance_45 ?_
    obtain ⟨o20, e21, f⟩ := ob f
    refine o_Si S (As := [.int v19]) (rest := []) (M7_isLetter l D cy b A fl e21) gX7_advance_X7_isLetter rfl rfl rfl cd7_isLetter ⟨Nat.le_of_ble_eq_true rfl, Nat.le_of_ble_eq_true rfl⟩ I rfl hl.1 rfl (Nat.le_of_ble_eq_true rfl) dX7_advance_46 ⟨Nat.le_of_ble_eq_true rfl, Nat.le_of_ble_eq_true rfl⟩ (fun H locs I => ?_)
    refine lv_if_eq (tgt := 59) S.1 S.2.1 dX7_advance_49 (by decide) (fun q22 => ?_) (fun q22 => ?_)
    · have f := (if_pos q22).symm.trans f
      refine lv_aload_n S.1 S.2.1 dX7_advance_59 rfl (lv_at hl 0 rfl) ?_
      obtain ⟨r23, e24, f⟩ := ob f
      refine o_gR S lf7_advance_15 I e24 dX7_advance_60 ?_
      refine lv_aload_n S.1 S.2.1 dX7_advance_63 rfl (lv_at hl 0 rfl) ?_
      obtain ⟨v25, e26, f⟩ := ob f
      refine o_gI S lf7_advance_44 I e26 dX7_advance_64 ?_
      obtain ⟨v28, e27, f⟩ := ob f
      refine o_bald S I e27 dX7_advance_67 ?_
      obtain ⟨o29, e30, f⟩ := ob f
      refine o_Si S (As := [.int v28]) (rest := []) (M7_isDigit l D cy b A fl e30) gX7_advance_X7_isDigit rfl rfl rfl cd7_isDigit ⟨Nat.le_of_ble_eq_true rfl, Nat.le_of_ble_eq_true rfl⟩ I rfl hl.1 rfl (Nat.le_of_ble_eq_true rfl) dX7_advance_68 ⟨Nat.le_of_ble_eq_true rfl, Nat.le_of_ble_eq_true rfl⟩ (fun H locs I => ?_)
      refine lv_if_eq (tgt := 81) S.1 S.2.1 dX7_advance_71 (by decide) (fun q31 => ?_) (fun q31 => ?_)
      · have f := (if_pos q31).symm.trans f
        refine lv_aload_n S.1 S.2.1 dX7_advance_81 rfl (lv_at hl 0 rfl) ?_
        obtain ⟨o32, e33, f⟩ := ob f
        refine o_Vv S (As := []) (rest := []) (ci := 7) (M7_takeSign l D cy b A fl e33) gX7_advance_X7_takeSign rfl rfl rfl cd7_takeSign ⟨Nat.le_of_ble_eq_true rfl, Nat.le_of_ble_eq_true rfl⟩ I (gd e33).1 clX7 rfl rfl hl.1 rfl (Nat.le_of_ble_eq_true rfl) dX7_advance_82 ⟨Nat.le_of_ble_eq_true rfl, Nat.le_of_ble_eq_true rfl⟩ (fun H locs I => ?_)
        exact o_vret S hr hlo I f dX7_advance_85
      · have f := (if_neg q31).symm.trans f
        refine lv_aload_n S.1 S.2.1 dX7_advance_74 rfl (lv_at hl 0 rfl) ?_
        obtain ⟨o34, e35, f⟩ := ob f
        refine o_Vv S (As := []) (rest := []) (ci := 7) (M7_takeNumber l D cy b A fl e35) gX7_advance_X7_takeNumber rfl rfl rfl cd7_takeNumber ⟨Nat.le_of_ble_eq_true rfl, Nat.le_of_ble_eq_true rfl⟩ I (gd e35).1 clX7 rfl rfl hl.1 rfl (Nat.le_of_ble_eq_true rfl) dX7_advance_75 ⟨Nat.le_of_ble_eq_true rfl, Nat.le_of_ble_eq_true rfl⟩ (fun H locs I => ?_)
        refine lv_goto (tgt := 85) S.1 S.2.1 dX7_advance_78 (by decide) ?_
        exact o_vret S hr hlo I f dX7_advance_85
    · have f := (if_neg q22).symm.trans f
      refine lv_aload_n S.1 S.2.1 dX7_advance_52 rfl (lv_at hl 0 rfl) ?_
      obtain ⟨o36, e37, f⟩ := ob f
      refine o_Vv S (As := []) (rest := []) (ci := 7) (M7_takeWord l D cy b A fl e37) gX7_advance_X7_takeWord rfl rfl rfl cd7_takeWord ⟨Nat.le_of_ble_eq_true rfl, Nat.le_of_ble_eq_true rfl⟩ I (gd e37).1 clX7 rfl rfl hl.1 rfl (Nat.le_of_ble_eq_true rfl) dX7_advance_53 ⟨Nat.le_of_ble_eq_true rfl, Nat.le_of_ble_eq_true rfl⟩ (fun H locs I => ?_)
      refine lv_goto (tgt := 85) S.1 S.2.1 dX7_advance_56 (by decide) ?_
      exact o_vret S hr hlo I f dX7_advance_85
  · have f := (if_neg q13).symm.trans f
    refine lv_aload_n S.1 S.2.1 dX7_advance_28 rfl (lv_at hl 0 rfl) ?_
    refine lv_bipush (v := 39) S.1 S.2.1 dX7_advance_29 (by decide) ?_
    obtain ⟨h38, e39, f⟩ := ob f
    refine o_pI S lp7_advance_56 I e39 dX7_advance_31 (fun H locs I => ?_)
    refine lv_goto (tgt := 85) S.1 S.2.1 dX7_advance_34 (by decide) ?_
    exact o_vret S hr hlo I f dX7_advance_85
theorem M7_advance (l : Launch) (D : va_G) (cy : Nat → ClassId) (b : Nat) (A : Nat → Prop) (fl : Bool) {h : PH} {a0 : Nat} {out : PH} (f : F7_advance h a0 = some out) : Met l yX7_advance vX7_advance ({ frames := 2, cells := 0, slots := 0, locals := 44 } : Room) (va_Pc [.ref (b + a0)] (ph_B D cy b A fl h)) (va_Qv (fun (u : PH) => u = out) (ph_B D cy b A fl) A) 0 0 A :=
  o_met (by decide) rfl (Nat.le_of_ble_eq_true rfl) rfl (fun p e s m below meth c S hr hlo hnm ls hl I => T7_advance_0 S hr hlo ((gd f).2) I (lv_sub hl [0] rfl))
def vX5_takenNumber : List Cond := .code yX5_takenNumber cX5_takenNumber 3 (some .int) :: TB
theorem gX5_takenNumber_X5_refuse : GoodIn vX5_takenNumber (wsV RX5 89 RX5 yX5_refuse vX5_refuse) := gV_of wT_18_1 wT_18_2 wT_18_3 wT_1_22 wT_18_4
theorem lf5_takenNumber_18 : Fl vX5_takenNumber RX5 18 5 0 := ⟨RX5, TX5, 11, rfl, by decide, (fun w h9 => List.mem_cons_of_mem _ (wC_wsX50 w h9)), (List.mem_cons_of_mem _ wT_5_3)⟩
theorem lf5_takenNumber_52 : Fl vX5_takenNumber RX5 52 7 4 := ⟨RX7, TX7, 7, rfl, by decide, (fun w h9 => List.mem_cons_of_mem _ (wC_wsX70 w h9)), (List.mem_cons_of_mem _ wT_14_7)⟩
theorem lf5_takenNumber_97 : Fl vX5_takenNumber RX5 97 7 6 := ⟨RX7, TX7, 7, rfl, by decide, (fun w h9 => List.mem_cons_of_mem _ (wC_wsX70 w h9)), (List.mem_cons_of_mem _ wT_18_14)⟩
theorem cd5_takenNumber : Cd yX5_takenNumber 2 := ⟨by decide, by decide, by decide +kernel⟩
set_option maxHeartbeats 4000000 in
set_option maxRecDepth 100000 in
theorem T5_takenNumber_42 (S : CallFix p m c cX5_takenNumber 3 s args vX5_takenNumber RX5) (hr : meth.sig.returnType = (some .int)) (hlo : meth.locks = false) {out : Int32 × PH} {h : PH} {a0 : Nat} (f : F5_takenNumber_42  h a0 = some out) {H : Heap} {locs : List Loc} (I : ph_I D cy b A fl h s H locs) {ls : Array Slot} (hl : lv_has ls 3 [(0, .ref (b + a0))]) : W p l e ({ frames := 1, cells := 0, slots := 0, locals := 21 } : Room) s m args below meth c H locs 0 0 (MQ below (va_Qi (fun (r : Int32) (u : PH) => (r, u) = out) (ph_B D cy b A fl) A) args s 0 0 A) (F0 m 42 ls []) := by
  unfold F5_takenNumber_42 at f
  refine lv_aload_n S.1 S.2.1 dX5_takenNumber_42 rfl (lv_at hl 0 rfl) ?_
  refine lv_iconst (v := 2) S.1 S.2.1 dX5_takenNumber_43 (by decide) ?_
  obtain ⟨o1, e2, f⟩ := ob f
  refine o_Vi S (As := [.int 2]) (rest := []) (ci := 5) (M5_refuse l D cy b A fl e2) gX5_takenNumber_X5_refuse rfl rfl rfl cd5_refuse ⟨Nat.le_of_ble_eq_true rfl, Nat.le_of_ble_eq_true rfl⟩ I (gd e2).1 clX5 rfl rfl hl.1 rfl (Nat.le_of_ble_eq_true rfl) dX5_takenNumber_44 ⟨Nat.le_of_ble_eq_true rfl, Nat.le_of_ble_eq_true rfl⟩ (fun H locs I => ?_)
  refine lv_pop S.1 S.2.1 dX5_takenNumber_47 rfl ?_
  refine lv_iconst (v := (-1)) S.1 S.2.1 dX5_takenNumber_48 (by decide) ?_
  exact o_iret S hr hlo I f dX5_takenNumber_49
set_option maxHeartbeats 4000000 in
set_option maxRecDepth 100000 in
theorem T5_takenNumber_0 (S : CallFix p m c cX5_takenNumber 3 s args vX5_takenNumber RX5) (hr : meth.sig.returnType = (some .int)) (hlo : meth.locks = false) {out : Int32 × PH} {h : PH} {a0 : Nat} {x1 : Int32} {x2 : Int32} (f : F5_takenNumber_0  h a0 x1 x2 = some out) {H : Heap} {locs : List Loc} (I : ph_I D cy b A fl h s H locs) {ls : Array Slot} (hl : lv_has ls 3 [(0, .ref (b + a0)), (1, .int x1), (2, .int x2)]) : W p l e ({ frames := 1, cells := 0, slots := 0, locals := 21 } : Room) s m args below meth c H locs 0 0 (MQ below (va_Qi (fun (r : Int32) (u : PH) => (r, u) = out) (ph_B D cy b A fl) A) args s 0 0 A) (F0 m 0 ls []) := by
  unfold F5_takenNumber_0 at f
  refine lv_aload_n S.1 S.2.1 dX5_takenNumber_0 rfl (lv_at hl 0 rfl) ?_
  obtain ⟨r1, e2, f⟩ := ob f
  refine o_gR S lf5_takenNumber_18 I e2 dX5_takenNumber_1 ?_
  obtain ⟨v3, e4, f⟩ := ob f
  refine o_gI S lf5_takenNumber_52 I e4 dX5_takenNumber_4 ?_
  refine lv_bipush (v := 25) S.1 S.2.1 dX5_takenNumber_7 (by decide) ?_
  refine lv_icmp_eq (tgt := 20) S.1 S.2.1 dX5_takenNumber_9 (by decide) (fun q5 => ?_) (fun q5 => ?_)
  · have f := (if_pos q5).symm.trans f
    refine lv_aload_n S.1 S.2.1 dX5_takenNumber_20 rfl (lv_at hl 0 rfl) ?_
    obtain ⟨r6, e7, f⟩ := ob f
    refine o_gR S lf5_takenNumber_18 I e7 dX5_takenNumber_21 ?_
    obtain ⟨v8, e9, f⟩ := ob f
    refine o_gI S lf5_takenNumber_97 I e9 dX5_takenNumber_24 ?_
    refine lv_iload_n S.1 S.2.1 dX5_takenNumber_27 rfl (lv_at hl 1 rfl) ?_
    refine lv_icmp_lt (tgt := 42) S.1 S.2.1 dX5_takenNumber_28 (by decide) (fun q10 => ?_) (fun q10 => ?_)
    · have f := (if_pos q10).symm.trans f
      exact T5_takenNumber_42 S hr hlo  f I (lv_sub hl [0] rfl)
    · have f := (if_neg q10).symm.trans f
      refine lv_aload_n S.1 S.2.1 dX5_takenNumber_31 rfl (lv_at hl 0 rfl) ?_
      obtain ⟨r11, e12, f⟩ := ob f
      refine o_gR S lf5_takenNumber_18 I e12 dX5_takenNumber_32 ?_
      obtain ⟨v13, e14, f⟩ := ob f
      refine o_gI S lf5_takenNumber_97 I e14 dX5_takenNumber_35 ?_
      refine lv_iload_n S.1 S.2.1 dX5_takenNumber_38 rfl (lv_at hl 2 rfl) ?_
      refine lv_icmp_le (tgt := 50) S.1 S.2.1 dX5_takenNumber_39 (by decide) (fun q15 => ?_) (fun q15 => ?_)
      · have f := (if_pos q15).symm.trans f
        refine lv_aload_n S.1 S.2.1 dX5_takenNumber_50 rfl (lv_at hl 0 rfl) ?_
        obtain ⟨r16, e17, f⟩ := ob f
        refine o_gR S lf5_takenNumber_18 I e17 dX5_takenNumber_51 ?_
        obtain ⟨v18, e19, f⟩ := ob f
        refine o_gI S lf5_takenNumber_97 I e19 dX5_takenNumber_54 ?_
        exact o_iret S hr hlo I f dX5_takenNumber_57
      · have f := (if_neg q15).symm.trans f
        exact T5_takenNumber_42 S hr hlo  f I (lv_sub hl [0] rfl)
  · have f := (if_neg q5).symm.trans f
    refine lv_aload_n S.1 S.2.1 dX5_takenNumber_12 rfl (lv_at hl 0 rfl) ?_
    refine lv_iconst (v := 1) S.1 S.2.1 dX5_takenNumber_13 (by decide) ?_
    obtain ⟨o20, e21, f⟩ := ob f
    refine o_Vi S (As := [.int 1]) (rest := []) (ci := 5) (M5_refuse l D cy b A fl e21) gX5_takenNumber_X5_refuse rfl rfl rfl cd5_refuse ⟨Nat.le_of_ble_eq_true rfl, Nat.le_of_ble_eq_true rfl⟩ I (gd e21).1 clX5 rfl rfl hl.1 rfl (Nat.le_of_ble_eq_true rfl) dX5_takenNumber_14 ⟨Nat.le_of_ble_eq_true rfl, Nat.le_of_ble_eq_true rfl⟩ (fun H locs I => ?_)
    refine lv_pop S.1 S.2.1 dX5_takenNumber_17 rfl ?_
    refine lv_iconst (v := (-1)) S.1 S.2.1 dX5_takenNumber_18 (by decide) ?_
    exact o_iret S hr hlo I f dX5_takenNumber_19
theorem M5_takenNumber (l : Launch) (D : va_G) (cy : Nat → ClassId) (b : Nat) (A : Nat → Prop) (fl : Bool) {h : PH} {a0 : Nat} {x1 : Int32} {x2 : Int32} {out : Int32 × PH} (f : F5_takenNumber h a0 x1 x2 = some out) : Met l yX5_takenNumber vX5_takenNumber ({ frames := 1, cells := 0, slots := 0, locals := 21 } : Room) (va_Pc [.ref (b + a0), .int x1, .int x2] (ph_B D cy b A fl h)) (va_Qi (fun (r : Int32) (u : PH) => (r, u) = out) (ph_B D cy b A fl) A) 0 0 A :=
  o_met (by decide) rfl (Nat.le_of_ble_eq_true rfl) rfl (fun p e s m below meth c S hr hlo hnm ls hl I => T5_takenNumber_0 S hr hlo ((gd f).2) I (lv_sub hl [0, 1, 2] rfl))
def vX5_numberIn : List Cond := .code yX5_numberIn cX5_numberIn 3 (some .int) :: TB
theorem lf5_numberIn_18 : Fl vX5_numberIn RX5 18 5 0 := ⟨RX5, TX5, 11, rfl, by decide, (fun w h9 => List.mem_cons_of_mem _ (wC_wsX50 w h9)), (List.mem_cons_of_mem _ wT_5_3)⟩
theorem gX5_numberIn_X7_advance : GoodIn vX5_numberIn (wsV RX5 49 RX7 yX7_advance vX7_advance) := gV_of wT_15_21 wT_15_22 wT_15_23 wT_5_2 wT_16_0
theorem gX5_numberIn_X5_takenNumber : GoodIn vX5_numberIn (wsV RX5 93 RX5 yX5_takenNumber vX5_takenNumber) := gV_of wT_18_10 wT_18_11 wT_18_12 wT_1_22 wT_18_13
theorem cd5_numberIn : Cd yX5_numberIn 2 := ⟨by decide, by decide, by decide +kernel⟩
set_option maxHeartbeats 4000000 in
set_option maxRecDepth 100000 in
theorem T5_numberIn_0 (S : CallFix p m c cX5_numberIn 3 s args vX5_numberIn RX5) (hr : meth.sig.returnType = (some .int)) (hlo : meth.locks = false) {out : Int32 × PH} {h : PH} {a0 : Nat} {x1 : Int32} {x2 : Int32} (f : F5_numberIn_0  h a0 x1 x2 = some out) {H : Heap} {locs : List Loc} (I : ph_I D cy b A fl h s H locs) {ls : Array Slot} (hl : lv_has ls 3 [(0, .ref (b + a0)), (1, .int x1), (2, .int x2)]) : W p l e ({ frames := 3, cells := 0, slots := 0, locals := 64 } : Room) s m args below meth c H locs 0 0 (MQ below (va_Qi (fun (r : Int32) (u : PH) => (r, u) = out) (ph_B D cy b A fl) A) args s 0 0 A) (F0 m 0 ls []) := by
  unfold F5_numberIn_0 at f
  refine lv_aload_n S.1 S.2.1 dX5_numberIn_0 rfl (lv_at hl 0 rfl) ?_
  obtain ⟨r1, e2, f⟩ := ob f
  refine o_gR S lf5_numberIn_18 I e2 dX5_numberIn_1 ?_
  obtain ⟨o3, e4, f⟩ := ob f
  refine o_Vv S (As := []) (rest := []) (ci := 7) (M7_advance l D cy b A fl e4) gX5_numberIn_X7_advance rfl rfl rfl cd7_advance ⟨Nat.le_of_ble_eq_true rfl, Nat.le_of_ble_eq_true rfl⟩ I (gd e4).1 clX7 rfl rfl hl.1 rfl (Nat.le_of_ble_eq_true rfl) dX5_numberIn_4 ⟨Nat.le_of_ble_eq_true rfl, Nat.le_of_ble_eq_true rfl⟩ (fun H locs I => ?_)
  refine lv_aload_n S.1 S.2.1 dX5_numberIn_7 rfl (lv_at hl 0 rfl) ?_
  refine lv_iload_n S.1 S.2.1 dX5_numberIn_8 rfl (lv_at hl 1 rfl) ?_
  refine lv_iload_n S.1 S.2.1 dX5_numberIn_9 rfl (lv_at hl 2 rfl) ?_
  obtain ⟨o5, e6, f⟩ := ob f
  refine o_Vi S (As := [.int x1, .int x2]) (rest := []) (ci := 5) (M5_takenNumber l D cy b A fl e6) gX5_numberIn_X5_takenNumber rfl rfl rfl cd5_takenNumber ⟨Nat.le_of_ble_eq_true rfl, Nat.le_of_ble_eq_true rfl⟩ I (gd e6).1 clX5 rfl rfl hl.1 rfl (Nat.le_of_ble_eq_true rfl) dX5_numberIn_10 ⟨Nat.le_of_ble_eq_true rfl, Nat.le_of_ble_eq_true rfl⟩ (fun H locs I => ?_)
  exact o_iret S hr hlo I f dX5_numberIn_13
theorem M5_numberIn (l : Launch) (D : va_G) (cy : Nat → ClassId) (b : Nat) (A : Nat → Prop) (fl : Bool) {h : PH} {a0 : Nat} {x1 : Int32} {x2 : Int32} {out : Int32 × PH} (f : F5_numberIn h a0 x1 x2 = some out) : Met l yX5_numberIn vX5_numberIn ({ frames := 3, cells := 0, slots := 0, locals := 64 } : Room) (va_Pc [.ref (b + a0), .int x1, .int x2] (ph_B D cy b A fl h)) (va_Qi (fun (r : Int32) (u : PH) => (r, u) = out) (ph_B D cy b A fl) A) 0 0 A :=
  o_met (by decide) rfl (Nat.le_of_ble_eq_true rfl) rfl (fun p e s m below meth c S hr hlo hnm ls hl I => T5_numberIn_0 S hr hlo ((gd f).2) I (lv_sub hl [0, 1, 2] rfl))
def vX10_forget : List Cond := .code yX10_forget cX10_forget 1 none :: TB
theorem lp10_forget_30 : Pl vX10_forget RX10 30 10 0 .int := ⟨RX10, TX10, 8, tyX10, rfl, by decide, (fun w h9 => List.mem_cons_of_mem _ (wC_wsX100 w h9)), (List.mem_cons_of_mem _ wT_15_3), tyX10_ok, nmX10, rfl, rfl⟩
theorem lp10_forget_34 : Pl vX10_forget RX10 34 10 1 .int := ⟨RX10, TX10, 8, tyX10, rfl, by decide, (fun w h9 => List.mem_cons_of_mem _ (wC_wsX100 w h9)), (List.mem_cons_of_mem _ wT_15_4), tyX10_ok, nmX10, rfl, rfl⟩
theorem cd10_forget : Cd yX10_forget 0 := ⟨by decide, by decide, by decide +kernel⟩
set_option maxHeartbeats 4000000 in
set_option maxRecDepth 100000 in
theorem T10_forget_0 (S : CallFix p m c cX10_forget 1 s args vX10_forget RX10) (hr : meth.sig.returnType = none) (hlo : meth.locks = false) {out : PH} {h : PH} {a0 : Nat} (f : F10_forget_0  h a0 = some out) {H : Heap} {locs : List Loc} (I : ph_I D cy b A fl h s H locs) {ls : Array Slot} (hl : lv_has ls 1 [(0, .ref (b + a0))]) : W p l e ({ frames := 0, cells := 0, slots := 0, locals := 0 } : Room) s m args below meth c H locs 0 0 (MQ below (va_Qv (fun (u : PH) => u = out) (ph_B D cy b A fl) A) args s 0 0 A) (F0 m 0 ls []) := by
  unfold F10_forget_0 at f
  refine lv_aload_n S.1 S.2.1 dX10_forget_0 rfl (lv_at hl 0 rfl) ?_
  refine lv_iconst (v := 0) S.1 S.2.1 dX10_forget_1 (by decide) ?_
  obtain ⟨h1, e2, f⟩ := ob f
  refine o_pI S lp10_forget_30 I e2 dX10_forget_2 (fun H locs I => ?_)
  refine lv_aload_n S.1 S.2.1 dX10_forget_5 rfl (lv_at hl 0 rfl) ?_
  refine lv_iconst (v := 0) S.1 S.2.1 dX10_forget_6 (by decide) ?_
  obtain ⟨h3, e4, f⟩ := ob f
  refine o_pI S lp10_forget_34 I e4 dX10_forget_7 (fun H locs I => ?_)
  exact o_vret S hr hlo I f dX10_forget_10
theorem M10_forget (l : Launch) (D : va_G) (cy : Nat → ClassId) (b : Nat) (A : Nat → Prop) (fl : Bool) {h : PH} {a0 : Nat} {out : PH} (f : F10_forget h a0 = some out) : Met l yX10_forget vX10_forget ({ frames := 0, cells := 0, slots := 0, locals := 0 } : Room) (va_Pc [.ref (b + a0)] (ph_B D cy b A fl h)) (va_Qv (fun (u : PH) => u = out) (ph_B D cy b A fl) A) 0 0 A :=
  o_met (by decide) rfl (Nat.le_of_ble_eq_true rfl) rfl (fun p e s m below meth c S hr hlo hnm ls hl I => T10_forget_0 S hr hlo ((gd f).2) I (lv_sub hl [0] rfl))
def vX8_forget : List Cond := .code yX8_forget cX8_forget 2 none :: TB
theorem lp8_forget_67 : Pl vX8_forget RX8 67 8 12 .int := ⟨RX8, TX8, 14, tyX8, rfl, by decide, (fun w h9 => List.mem_cons_of_mem _ (wC_wsX80 w h9)), (List.mem_cons_of_mem _ wT_14_21), tyX8_ok, nmX8, rfl, rfl⟩
theorem lp8_forget_70 : Pl vX8_forget RX8 70 8 13 .int := ⟨RX8, TX8, 14, tyX8, rfl, by decide, (fun w h9 => List.mem_cons_of_mem _ (wC_wsX80 w h9)), (List.mem_cons_of_mem _ wT_14_22), tyX8_ok, nmX8, rfl, rfl⟩
theorem lf8_forget_27 : Fl vX8_forget RX8 27 8 11 := ⟨RX8, TX8, 14, rfl, by decide, (fun w h9 => List.mem_cons_of_mem _ (wC_wsX80 w h9)), (List.mem_cons_of_mem _ wT_3_12)⟩
theorem gX8_forget_X2_forget : GoodIn vX8_forget (wsV RX8 66 RX2 yX2_forget vX2_forget) := gV_of wT_15_5 wT_15_6 wT_15_7 wT_3_14 wT_15_8
theorem lp8_forget_32 : Pl vX8_forget RX8 32 8 0 .int := ⟨RX8, TX8, 14, tyX8, rfl, by decide, (fun w h9 => List.mem_cons_of_mem _ (wC_wsX80 w h9)), (List.mem_cons_of_mem _ wT_3_15), tyX8_ok, nmX8, rfl, rfl⟩
theorem lp8_forget_36 : Pl vX8_forget RX8 36 8 1 .int := ⟨RX8, TX8, 14, tyX8, rfl, by decide, (fun w h9 => List.mem_cons_of_mem _ (wC_wsX80 w h9)), (List.mem_cons_of_mem _ wT_3_16), tyX8_ok, nmX8, rfl, rfl⟩
theorem lp8_forget_39 : Pl vX8_forget RX8 39 8 2 .int := ⟨RX8, TX8, 14, tyX8, rfl, by decide, (fun w h9 => List.mem_cons_of_mem _ (wC_wsX80 w h9)), (List.mem_cons_of_mem _ wT_14_13), tyX8_ok, nmX8, rfl, rfl⟩
theorem lp8_forget_42 : Pl vX8_forget RX8 42 8 3 .int := ⟨RX8, TX8, 14, tyX8, rfl, by decide, (fun w h9 => List.mem_cons_of_mem _ (wC_wsX80 w h9)), (List.mem_cons_of_mem _ wT_14_14), tyX8_ok, nmX8, rfl, rfl⟩
theorem lf8_forget_12 : Fl vX8_forget RX8 12 8 4 := ⟨RX8, TX8, 14, rfl, by decide, (fun w h9 => List.mem_cons_of_mem _ (wC_wsX80 w h9)), (List.mem_cons_of_mem _ wT_3_6)⟩
theorem lp8_forget_45 : Pl vX8_forget RX8 45 1 0 .int := ⟨RX1, TX1, 7, tyX1, rfl, by decide, (fun w h9 => List.mem_cons_of_mem _ (wC_wsX10 w h9)), (List.mem_cons_of_mem _ wT_14_15), tyX1_ok, nmX1, rfl, rfl⟩
theorem lf8_forget_21 : Fl vX8_forget RX8 21 8 5 := ⟨RX8, TX8, 14, rfl, by decide, (fun w h9 => List.mem_cons_of_mem _ (wC_wsX80 w h9)), (List.mem_cons_of_mem _ wT_3_10)⟩
theorem gX8_forget_X10_forget : GoodIn vX8_forget (wsV RX8 48 RX10 yX10_forget vX10_forget) := gV_of wT_14_23 wT_15_0 wT_15_1 wT_3_9 wT_15_2
theorem lp8_forget_51 : Pl vX8_forget RX8 51 8 6 .int := ⟨RX8, TX8, 14, tyX8, rfl, by decide, (fun w h9 => List.mem_cons_of_mem _ (wC_wsX80 w h9)), (List.mem_cons_of_mem _ wT_14_16), tyX8_ok, nmX8, rfl, rfl⟩
theorem lp8_forget_54 : Pl vX8_forget RX8 54 8 7 .int := ⟨RX8, TX8, 14, tyX8, rfl, by decide, (fun w h9 => List.mem_cons_of_mem _ (wC_wsX80 w h9)), (List.mem_cons_of_mem _ wT_14_17), tyX8_ok, nmX8, rfl, rfl⟩
theorem lp8_forget_57 : Pl vX8_forget RX8 57 8 8 .int := ⟨RX8, TX8, 14, tyX8, rfl, by decide, (fun w h9 => List.mem_cons_of_mem _ (wC_wsX80 w h9)), (List.mem_cons_of_mem _ wT_14_18), tyX8_ok, nmX8, rfl, rfl⟩
theorem lp8_forget_60 : Pl vX8_forget RX8 60 8 9 .int := ⟨RX8, TX8, 14, tyX8, rfl, by decide, (fun w h9 => List.mem_cons_of_mem _ (wC_wsX80 w h9)), (List.mem_cons_of_mem _ wT_14_19), tyX8_ok, nmX8, rfl, rfl⟩
theorem lp8_forget_63 : Pl vX8_forget RX8 63 8 10 .int := ⟨RX8, TX8, 14, tyX8, rfl, by decide, (fun w h9 => List.mem_cons_of_mem _ (wC_wsX80 w h9)), (List.mem_cons_of_mem _ wT_14_20), tyX8_ok, nmX8, rfl, rfl⟩
theorem cd8_forget : Cd yX8_forget 0 := ⟨by decide, by decide, by decide +kernel⟩
set_option maxHeartbeats 4000000 in
set_option maxRecDepth 100000 in
theorem T8_forget_63 (S : CallFix p m c cX8_forget 2 s args vX8_forget RX8) (hr : meth.sig.returnType = none) (hlo : meth.locks = false) {out : PH} : ∀ (n : Nat) {h : PH} {a0 : Nat} {x1 : Int32} (f : F8_forget_63  n h a0 x1 = some out) {H : Heap} {locs : List Loc} (I : ph_I D cy b A fl h s H locs) {ls : Array Slot} (hl : lv_has ls 2 [(0, .ref (b + a0)), (1, .int x1)]), W p l e ({ frames := 1, cells := 0, slots := 0, locals := 20 } : Room) s m args below meth c H locs 0 0 (MQ below (va_Qv (fun (u : PH) => u = out) (ph_B D cy b A fl) A) args s 0 0 A) (F0 m 63 ls []) := by
  intro n
  induction n with
  | zero => intro h a0 x1 f; rw [F8_forget_63] at f; cases f
  | succ n ih =>
    intro h a0 x1 f H locs I ls hl
    rw [F8_forget_63] at f
    refine lv_iload_n S.1 S.2.1 dX8_forget_63 rfl (lv_at hl 1 rfl) ?_
    refine lv_iconst (v := 3) S.1 S.2.1 dX8_forget_64 (by decide) ?_
    refine lv_icmp_ge (tgt := 83) S.1 S.2.1 dX8_forget_65 (by decide) (fun q1 => ?_) (fun q1 => ?_)
    · have f := (if_pos q1).symm.trans f
      refine lv_aload_n S.1 S.2.1 dX8_forget_83 rfl (lv_at hl 0 rfl) ?_
      refine lv_iconst (v := 0) S.1 S.2.1 dX8_forget_84 (by decide) ?_
      obtain ⟨h2, e3, f⟩ := ob f
      refine o_pI S lp8_forget_67 I e3 dX8_forget_85 (fun H locs I => ?_)
      refine lv_aload_n S.1 S.2.1 dX8_forget_88 rfl (lv_at hl 0 rfl) ?_
      refine lv_iconst (v := 0) S.1 S.2.1 dX8_forget_89 (by decide) ?_
      obtain ⟨h4, e5, f⟩ := ob f
      refine o_pI S lp8_forget_70 I e5 dX8_forget_90 (fun H locs I => ?_)
      exact o_vret S hr hlo I f dX8_forget_93
    · have f := (if_neg q1).symm.trans f
      refine lv_aload_n S.1 S.2.1 dX8_forget_68 rfl (lv_at hl 0 rfl) ?_
      obtain ⟨r6, e7, f⟩ := ob f
      refine o_gR S lf8_forget_27 I e7 dX8_forget_69 ?_
      refine lv_iload_n S.1 S.2.1 dX8_forget_72 rfl (lv_at hl 1 rfl) ?_
      obtain ⟨r9, e8, f⟩ := ob f
      refine o_aald S I e8 dX8_forget_73 ?_
      obtain ⟨o10, e11, f⟩ := ob f
      refine o_Vv S (As := []) (rest := []) (ci := 2) (M2_forget l D cy b A fl e11) gX8_forget_X2_forget rfl rfl rfl cd2_forget ⟨Nat.le_of_ble_eq_true rfl, Nat.le_of_ble_eq_true rfl⟩ I (gd e11).1 clX2 rfl rfl hl.1 rfl (Nat.le_of_ble_eq_true rfl) dX8_forget_74 ⟨Nat.le_of_ble_eq_true rfl, Nat.le_of_ble_eq_true rfl⟩ (fun H locs I => ?_)
      refine lv_iinc (v := (x1 + 1)) (lv' := [(1, .int (x1 + 1)), (0, .ref (b + a0))]) S.1 S.2.1 dX8_forget_77 hl (k := 1) rfl (congrArg (fun z => x1 + z) (by decide)) (by decide) rfl (fun ls hl => ?_)
      refine lv_goto (tgt := 63) S.1 S.2.1 dX8_forget_80 (by decide) ?_
      exact ih f I (lv_sub hl [1, 0] rfl)
set_option maxHeartbeats 4000000 in
set_option maxRecDepth 100000 in
theorem T8_forget_0 (S : CallFix p m c cX8_forget 2 s args vX8_forget RX8) (hr : meth.sig.returnType = none) (hlo : meth.locks = false) {out : PH} {h : PH} {a0 : Nat} (f : F8_forget_0  h a0 = some out) {H : Heap} {locs : List Loc} (I : ph_I D cy b A fl h s H locs) {ls : Array Slot} (hl : lv_has ls 2 [(0, .ref (b + a0))]) : W p l e ({ frames := 1, cells := 0, slots := 0, locals := 20 } : Room) s m args below meth c H locs 0 0 (MQ below (va_Qv (fun (u : PH) => u = out) (ph_B D cy b A fl) A) args s 0 0 A) (F0 m 0 ls []) := by
  unfold F8_forget_0 at f
  refine lv_aload_n S.1 S.2.1 dX8_forget_0 rfl (lv_at hl 0 rfl) ?_
  refine lv_bipush (v := 6) S.1 S.2.1 dX8_forget_1 (by decide) ?_
  obtain ⟨h1, e2, f⟩ := ob f
  refine o_pI S lp8_forget_32 I e2 dX8_forget_3 (fun H locs I => ?_)
  refine lv_aload_n S.1 S.2.1 dX8_forget_6 rfl (lv_at hl 0 rfl) ?_
  refine lv_iconst (v := 4) S.1 S.2.1 dX8_forget_7 (by decide) ?_
  obtain ⟨h3, e4, f⟩ := ob f
  refine o_pI S lp8_forget_36 I e4 dX8_forget_8 (fun H locs I => ?_)
  refine lv_aload_n S.1 S.2.1 dX8_forget_11 rfl (lv_at hl 0 rfl) ?_
  refine lv_iconst (v := 0) S.1 S.2.1 dX8_forget_12 (by decide) ?_
  obtain ⟨h5, e6, f⟩ := ob f
  refine o_pI S lp8_forget_39 I e6 dX8_forget_13 (fun H locs I => ?_)
  refine lv_aload_n S.1 S.2.1 dX8_forget_16 rfl (lv_at hl 0 rfl) ?_
  refine lv_iconst (v := 0) S.1 S.2.1 dX8_forget_17 (by decide) ?_
  obtain ⟨h7, e8, f⟩ := ob f
  refine o_pI S lp8_forget_42 I e8 dX8_forget_18 (fun H locs I => ?_)
  refine lv_aload_n S.1 S.2.1 dX8_forget_21 rfl (lv_at hl 0 rfl) ?_
  obtain ⟨r9, e10, f⟩ := ob f
  refine o_gR S lf8_forget_12 I e10 dX8_forget_22 ?_
  refine lv_iconst (v := 0) S.1 S.2.1 dX8_forget_25 (by decide) ?_
  obtain ⟨h11, e12, f⟩ := ob f
  refine o_pI S lp8_forget_45 I e12 dX8_forget_26 (fun H locs I => ?_)
  refine lv_aload_n S.1 S.2.1 dX8_forget_29 rfl (lv_at hl 0 rfl) ?_
  obtain ⟨r13, e14, f⟩ := ob f
  refine o_gR S lf8_forget_21 I e14 dX8_forget_30 ?_
  obtain ⟨o15, e16, f⟩ := ob f
  refine o_Vv S (As := []) (rest := []) (ci := 10) (M10_forget l D cy b A fl e16) gX8_forget_X10_forget rfl rfl rfl cd10_forget ⟨Nat.le_of_ble_eq_true rfl, Nat.le_of_ble_eq_true rfl⟩ I (gd e16).1 clX10 rfl rfl hl.1 rfl (Nat.le_of_ble_eq_true rfl) dX8_forget_33 ⟨Nat.le_of_ble_eq_true rfl, Nat.le_of_ble_eq_true rfl⟩ (fun H locs I => ?_)
  refine lv_aload_n S.1 S.2.1 dX8_forget_36 rfl (lv_at hl 0 rfl) ?_
  refine lv_iconst (v := 0) S.1 S.2.1 dX8_forget_37 (by decide) ?_
  obtain ⟨h17, e18, f⟩ := ob f
  refine o_pI S lp8_forget_51 I e18 dX8_forget_38 (fun H locs I => ?_)
  refine lv_aload_n S.1 S.2.1 dX8_forget_41 rfl (lv_at hl 0 rfl) ?_
  refine lv_iconst (v := 0) S.1 S.2.1 dX8_forget_42 (by decide) ?_
  obtain ⟨h19, e20, f⟩ := ob f
  refine o_pI S lp8_forget_54 I e20 dX8_forget_43 (fun H locs I => ?_)
  refine lv_aload_n S.1 S.2.1 dX8_forget_46 rfl (lv_at hl 0 rfl) ?_
  refine lv_iconst (v := 0) S.1 S.2.1 dX8_forget_47 (by decide) ?_
  obtain ⟨h21, e22, f⟩ := ob f
  refine o_pI S lp8_forget_57 I e22 dX8_forget_48 (fun H locs I => ?_)
  refine lv_aload_n S.1 S.2.1 dX8_forget_51 rfl (lv_at hl 0 rfl) ?_
  refine lv_iconst (v := 0) S.1 S.2.1 dX8_forget_52 (by decide) ?_
  obtain ⟨h23, e24, f⟩ := ob f
  refine o_pI S lp8_forget_60 I e24 dX8_forget_53 (fun H locs I => ?_)
  refine lv_aload_n S.1 S.2.1 dX8_forget_56 rfl (lv_at hl 0 rfl) ?_
  refine lv_iconst (v := 0) S.1 S.2.1 dX8_forget_57 (by decide) ?_
  obtain ⟨h25, e26, f⟩ := ob f
  refine o_pI S lp8_forget_63 I e26 dX8_forget_58 (fun H locs I => ?_)
  refine lv_iconst (v := 0) S.1 S.2.1 dX8_forget_61 (by decide) ?_
  refine lv_istore_n (lv' := [(1, .int 0), (0, .ref (b + a0))]) S.1 S.2.1 dX8_forget_62 rfl hl (by decide) rfl (fun ls hl => ?_)
  exact T8_forget_63 S hr hlo  1024 f I (lv_sub hl [1, 0] rfl)
theorem M8_forget (l : Launch) (D : va_G) (cy : Nat → ClassId) (b : Nat) (A : Nat → Prop) (fl : Bool) {h : PH} {a0 : Nat} {out : PH} (f : F8_forget h a0 = some out) : Met l yX8_forget vX8_forget ({ frames := 1, cells := 0, slots := 0, locals := 20 } : Room) (va_Pc [.ref (b + a0)] (ph_B D cy b A fl h)) (va_Qv (fun (u : PH) => u = out) (ph_B D cy b A fl) A) 0 0 A :=
  o_met (by decide) rfl (Nat.le_of_ble_eq_true rfl) rfl (fun p e s m below meth c S hr hlo hnm ls hl I => T8_forget_0 S hr hlo ((gd f).2) I (lv_sub hl [0] rfl))
def vX7_begin : List Cond := .code yX7_begin cX7_begin 3 none :: TB
theorem lp7_begin_15 : Pl vX7_begin RX7 15 7 1 (.array .byte) := ⟨RX7, TX7, 7, tyX7, rfl, by decide, (fun w h9 => List.mem_cons_of_mem _ (wC_wsX70 w h9)), (List.mem_cons_of_mem _ wT_5_11), tyX7_ok, nmX7, rfl, rfl⟩
theorem lp7_begin_40 : Pl vX7_begin RX7 40 7 2 .int := ⟨RX7, TX7, 7, tyX7, rfl, by decide, (fun w h9 => List.mem_cons_of_mem _ (wC_wsX70 w h9)), (List.mem_cons_of_mem _ wT_15_19), tyX7_ok, nmX7, rfl, rfl⟩
theorem lp7_begin_44 : Pl vX7_begin RX7 44 7 3 .int := ⟨RX7, TX7, 7, tyX7, rfl, by decide, (fun w h9 => List.mem_cons_of_mem _ (wC_wsX70 w h9)), (List.mem_cons_of_mem _ wT_15_20), tyX7_ok, nmX7, rfl, rfl⟩
theorem cd7_begin : Cd yX7_begin 2 := ⟨by decide, by decide, by decide +kernel⟩
set_option maxHeartbeats 4000000 in
set_option maxRecDepth 100000 in
theorem T7_begin_0 (S : CallFix p m c cX7_begin 3 s args vX7_begin RX7) (hr : meth.sig.returnType = none) (hlo : meth.locks = false) {out : PH} {h : PH} {a0 : Nat} {a1 : Nat} {x2 : Int32} (f : F7_begin_0  h a0 a1 x2 = some out) {H : Heap} {locs : List Loc} (I : ph_I D cy b A fl h s H locs) {ls : Array Slot} (hl : lv_has ls 3 [(0, .ref (b + a0)), (1, .ref (b + a1)), (2, .int x2)]) : W p l e ({ frames := 1, cells := 0, slots := 0, locals := 24 } : Room) s m args below meth c H locs 0 0 (MQ below (va_Qv (fun (u : PH) => u = out) (ph_B D cy b A fl) A) args s 0 0 A) (F0 m 0 ls []) := by
  unfold F7_begin_0 at f
  refine lv_aload_n S.1 S.2.1 dX7_begin_0 rfl (lv_at hl 0 rfl) ?_
  refine lv_aload_n S.1 S.2.1 dX7_begin_1 rfl (lv_at hl 1 rfl) ?_
  obtain ⟨h1, e2, f⟩ := ob f
  refine o_pR S lp7_begin_15 (Or.inr ⟨_, rfl⟩) I e2 dX7_begin_2 (fun H locs I => ?_)
  refine lv_aload_n S.1 S.2.1 dX7_begin_5 rfl (lv_at hl 0 rfl) ?_
  refine lv_iload_n S.1 S.2.1 dX7_begin_6 rfl (lv_at hl 2 rfl) ?_
  refine lv_aload_n S.1 S.2.1 dX7_begin_7 rfl (lv_at hl 1 rfl) ?_
  obtain ⟨v3, e4, f⟩ := ob f
  refine o_alen S I e4 dX7_begin_8 ?_
  refine va_mmin S.1 S.2.1 (by rw [S.2.2.1, hl.1]) S.2.2.2.1 (S.2.2.2.2 _ (List.mem_cons_of_mem _ wT_15_15)) (S.2.2.2.2 _ (List.mem_cons_of_mem _ wT_15_16)) (S.2.2.2.2 _ (List.mem_cons_of_mem _ wT_15_17)) (S.2.2.2.2 _ (List.mem_cons_of_mem _ wT_15_18)) (Nat.le_of_ble_eq_true rfl) (Nat.le_of_ble_eq_true rfl) (Nat.zero_le _) (Nat.zero_le _) dX7_begin_9 ?_
  obtain ⟨h5, e6, f⟩ := ob f
  refine o_pI S lp7_begin_40 I e6 dX7_begin_12 (fun H locs I => ?_)
  refine lv_aload_n S.1 S.2.1 dX7_begin_15 rfl (lv_at hl 0 rfl) ?_
  refine lv_iconst (v := 0) S.1 S.2.1 dX7_begin_16 (by decide) ?_
  obtain ⟨h7, e8, f⟩ := ob f
  refine o_pI S lp7_begin_44 I e8 dX7_begin_17 (fun H locs I => ?_)
  exact o_vret S hr hlo I f dX7_begin_20
theorem M7_begin (l : Launch) (D : va_G) (cy : Nat → ClassId) (b : Nat) (A : Nat → Prop) (fl : Bool) {h : PH} {a0 : Nat} {a1 : Nat} {x2 : Int32} {out : PH} (f : F7_begin h a0 a1 x2 = some out) : Met l yX7_begin vX7_begin ({ frames := 1, cells := 0, slots := 0, locals := 24 } : Room) (va_Pc [.ref (b + a0), .ref (b + a1), .int x2] (ph_B D cy b A fl h)) (va_Qv (fun (u : PH) => u = out) (ph_B D cy b A fl) A) 0 0 A :=
  o_met (by decide) rfl (Nat.le_of_ble_eq_true rfl) rfl (fun p e s m below meth c S hr hlo hnm ls hl I => T7_begin_0 S hr hlo ((gd f).2) I (lv_sub hl [0, 1, 2] rfl))
def vX5_readStop : List Cond := .code yX5_readStop cX5_readStop 1 (some .boolean) :: TB
theorem lf5_readStop_18 : Fl vX5_readStop RX5 18 5 0 := ⟨RX5, TX5, 11, rfl, by decide, (fun w h9 => List.mem_cons_of_mem _ (wC_wsX50 w h9)), (List.mem_cons_of_mem _ wT_5_3)⟩
theorem gX5_readStop_X7_advance : GoodIn vX5_readStop (wsV RX5 49 RX7 yX7_advance vX7_advance) := gV_of wT_15_21 wT_15_22 wT_15_23 wT_5_2 wT_16_0
theorem lf5_readStop_52 : Fl vX5_readStop RX5 52 7 4 := ⟨RX7, TX7, 7, rfl, by decide, (fun w h9 => List.mem_cons_of_mem _ (wC_wsX70 w h9)), (List.mem_cons_of_mem _ wT_14_7)⟩
theorem gX5_readStop_X5_refuse : GoodIn vX5_readStop (wsV RX5 89 RX5 yX5_refuse vX5_refuse) := gV_of wT_18_1 wT_18_2 wT_18_3 wT_1_22 wT_18_4
theorem cd5_readStop : Cd yX5_readStop 0 := ⟨by decide, by decide, by decide +kernel⟩
set_option maxHeartbeats 4000000 in
set_option maxRecDepth 100000 in
theorem T5_readStop_0 (S : CallFix p m c cX5_readStop 1 s args vX5_readStop RX5) (hr : meth.sig.returnType = (some .boolean)) (hlo : meth.locks = false) {out : Int32 × PH} {h : PH} {a0 : Nat} (f : F5_readStop_0  h a0 = some out) {H : Heap} {locs : List Loc} (I : ph_I D cy b A fl h s H locs) {ls : Array Slot} (hl : lv_has ls 1 [(0, .ref (b + a0))]) : W p l e ({ frames := 3, cells := 0, slots := 0, locals := 64 } : Room) s m args below meth c H locs 0 0 (MQ below (va_Qi (fun (r : Int32) (u : PH) => (r, u) = out) (ph_B D cy b A fl) A) args s 0 0 A) (F0 m 0 ls []) := by
  unfold F5_readStop_0 at f
  refine lv_aload_n S.1 S.2.1 dX5_readStop_0 rfl (lv_at hl 0 rfl) ?_
  obtain ⟨r1, e2, f⟩ := ob f
  refine o_gR S lf5_readStop_18 I e2 dX5_readStop_1 ?_
  obtain ⟨o3, e4, f⟩ := ob f
  refine o_Vv S (As := []) (rest := []) (ci := 7) (M7_advance l D cy b A fl e4) gX5_readStop_X7_advance rfl rfl rfl cd7_advance ⟨Nat.le_of_ble_eq_true rfl, Nat.le_of_ble_eq_true rfl⟩ I (gd e4).1 clX7 rfl rfl hl.1 rfl (Nat.le_of_ble_eq_true rfl) dX5_readStop_4 ⟨Nat.le_of_ble_eq_true rfl, Nat.le_of_ble_eq_true rfl⟩ (fun H locs I => ?_)
  refine lv_aload_n S.1 S.2.1 dX5_readStop_7 rfl (lv_at hl 0 rfl) ?_
  obtain ⟨r5, e6, f⟩ := ob f
  refine o_gR S lf5_readStop_18 I e6 dX5_readStop_8 ?_
  obtain ⟨v7, e8, f⟩ := ob f
  refine o_gI S lf5_readStop_52 I e8 dX5_readStop_11 ?_
  refine lv_bipush (v := 38) S.1 S.2.1 dX5_readStop_14 (by decide) ?_
  refine lv_icmp_eq (tgt := 27) S.1 S.2.1 dX5_readStop_16 (by decide) (fun q9 => ?_) (fun q9 => ?_)
  · have f := (if_pos q9).symm.trans f
    refine lv_iconst (v := 1) S.1 S.2.1 dX5_readStop_27 (by decide) ?_
    refine lv_goto (tgt := 32) S.1 S.2.1 dX5_readStop_28 (by decide) ?_
    exact o_zret S hr hlo I f dX5_readStop_32
  · have f := (if_neg q9).symm.trans f
    refine lv_aload_n S.1 S.2.1 dX5_readStop_19 rfl (lv_at hl 0 rfl) ?_
    refine lv_iconst (v := 1) S.1 S.2.1 dX5_readStop_20 (by decide) ?_
    obtain ⟨o10, e11, f⟩ := ob f
    refine o_Vi S (As := [.int 1]) (rest := []) (ci := 5) (M5_refuse l D cy b A fl e11) gX5_readStop_X5_refuse rfl rfl rfl cd5_refuse ⟨Nat.le_of_ble_eq_true rfl, Nat.le_of_ble_eq_true rfl⟩ I (gd e11).1 clX5 rfl rfl hl.1 rfl (Nat.le_of_ble_eq_true rfl) dX5_readStop_21 ⟨Nat.le_of_ble_eq_true rfl, Nat.le_of_ble_eq_true rfl⟩ (fun H locs I => ?_)
    refine lv_if_eq (tgt := 31) S.1 S.2.1 dX5_readStop_24 (by decide) (fun q12 => ?_) (fun q12 => ?_)
    · have f := (if_pos q12).symm.trans f
      refine lv_iconst (v := 0) S.1 S.2.1 dX5_readStop_31 (by decide) ?_
      exact o_zret S hr hlo I f dX5_readStop_32
    · have f := (if_neg q12).symm.trans f
      refine lv_iconst (v := 1) S.1 S.2.1 dX5_readStop_27 (by decide) ?_
      refine lv_goto (tgt := 32) S.1 S.2.1 dX5_readStop_28 (by decide) ?_
      exact o_zret S hr hlo I f dX5_readStop_32
theorem M5_readStop (l : Launch) (D : va_G) (cy : Nat → ClassId) (b : Nat) (A : Nat → Prop) (fl : Bool) {h : PH} {a0 : Nat} {out : Int32 × PH} (f : F5_readStop h a0 = some out) : Met l yX5_readStop vX5_readStop ({ frames := 3, cells := 0, slots := 0, locals := 64 } : Room) (va_Pc [.ref (b + a0)] (ph_B D cy b A fl h)) (va_Qi (fun (r : Int32) (u : PH) => (r, u) = out) (ph_B D cy b A fl) A) 0 0 A :=
  o_met (by decide) rfl (Nat.le_of_ble_eq_true rfl) rfl (fun p e s m below meth c S hr hlo hnm ls hl I => T5_readStop_0 S hr hlo ((gd f).2) I (lv_sub hl [0] rfl))
def vX5_readSea : List Cond := .code yX5_readSea cX5_readSea 3 (some .boolean) :: TB
theorem lf5_readSea_9 : Fl vX5_readSea RX5 9 5 10 := ⟨RX5, TX5, 11, rfl, by decide, (fun w h9 => List.mem_cons_of_mem _ (wC_wsX50 w h9)), (List.mem_cons_of_mem _ wT_4_23)⟩
theorem lp5_readSea_106 : Pl vX5_readSea RX5 106 8 0 .int := ⟨RX8, TX8, 14, tyX8, rfl, by decide, (fun w h9 => List.mem_cons_of_mem _ (wC_wsX80 w h9)), (List.mem_cons_of_mem _ wT_17_19), tyX8_ok, nmX8, rfl, rfl⟩
theorem lp5_readSea_109 : Pl vX5_readSea RX5 109 8 1 .int := ⟨RX8, TX8, 14, tyX8, rfl, by decide, (fun w h9 => List.mem_cons_of_mem _ (wC_wsX80 w h9)), (List.mem_cons_of_mem _ wT_17_20), tyX8_ok, nmX8, rfl, rfl⟩
theorem gX5_readSea_X5_readStop : GoodIn vX5_readSea (wsV RX5 112 RX5 yX5_readStop vX5_readStop) := gV_of wT_18_15 wT_18_16 wT_18_17 wT_1_22 wT_18_18
theorem gX5_readSea_X5_isFirst : GoodIn vX5_readSea (wsV RX5 100 RX5 yX5_isFirst vX5_isFirst) := gV_of wT_17_21 wT_17_22 wT_17_23 wT_1_22 wT_18_0
theorem lf5_readSea_41 : Fl vX5_readSea RX5 41 5 7 := ⟨RX5, TX5, 11, rfl, by decide, (fun w h9 => List.mem_cons_of_mem _ (wC_wsX50 w h9)), (List.mem_cons_of_mem _ wT_14_6)⟩
theorem gX5_readSea_X5_numberIn : GoodIn vX5_readSea (wsV RX5 103 RX5 yX5_numberIn vX5_numberIn) := gV_of wT_18_6 wT_18_7 wT_18_8 wT_1_22 wT_18_9
theorem gX5_readSea_X5_refuse : GoodIn vX5_readSea (wsV RX5 89 RX5 yX5_refuse vX5_refuse) := gV_of wT_18_1 wT_18_2 wT_18_3 wT_1_22 wT_18_4
theorem cd5_readSea : Cd yX5_readSea 0 := ⟨by decide, by decide, by decide +kernel⟩
set_option maxHeartbeats 4000000 in
set_option maxRecDepth 100000 in
theorem T5_readSea_47 (S : CallFix p m c cX5_readSea 3 s args vX5_readSea RX5) (hr : meth.sig.returnType = (some .boolean)) (hlo : meth.locks = false) {out : Int32 × PH} {h : PH} {a0 : Nat} {x1 : Int32} {s0 : Int32} (f : F5_readSea_47  h a0 x1 s0 = some out) {H : Heap} {locs : List Loc} (I : ph_I D cy b A fl h s H locs) {ls : Array Slot} (hl : lv_has ls 3 [(0, .ref (b + a0)), (1, .int x1)]) : W p l e ({ frames := 4, cells := 0, slots := 0, locals := 86 } : Room) s m args below meth c H locs 0 0 (MQ below (va_Qi (fun (r : Int32) (u : PH) => (r, u) = out) (ph_B D cy b A fl) A) args s 0 0 A) (F0 m 47 ls [.int s0]) := by
  unfold F5_readSea_47 at f
  refine lv_istore_n (lv' := [(2, .int s0), (0, .ref (b + a0)), (1, .int x1)]) S.1 S.2.1 dX5_readSea_47 rfl hl (by decide) rfl (fun ls hl => ?_)
  refine lv_iload_n S.1 S.2.1 dX5_readSea_48 rfl (lv_at hl 0 rfl) ?_
  refine lv_iconst (v := (-1)) S.1 S.2.1 dX5_readSea_49 (by decide) ?_
  refine lv_icmp_ne (tgt := 55) S.1 S.2.1 dX5_readSea_50 (by decide) (fun q1 => ?_) (fun q1 => ?_)
  · have f := (if_neg q1).symm.trans f
    refine lv_aload_n S.1 S.2.1 dX5_readSea_55 rfl (lv_at hl 1 rfl) ?_
    obtain ⟨r2, e3, f⟩ := ob f
    refine o_gR S lf5_readSea_9 I e3 dX5_readSea_56 ?_
    refine lv_iload_n S.1 S.2.1 dX5_readSea_59 rfl (lv_at hl 2 rfl) ?_
    obtain ⟨h4, e5, f⟩ := ob f
    refine o_pI S lp5_readSea_106 I e5 dX5_readSea_60 (fun H locs I => ?_)
    refine lv_aload_n S.1 S.2.1 dX5_readSea_63 rfl (lv_at hl 1 rfl) ?_
    obtain ⟨r6, e7, f⟩ := ob f
    refine o_gR S lf5_readSea_9 I e7 dX5_readSea_64 ?_
    refine lv_iload_n S.1 S.2.1 dX5_readSea_67 rfl (lv_at hl 0 rfl) ?_
    obtain ⟨h8, e9, f⟩ := ob f
    refine o_pI S lp5_readSea_109 I e9 dX5_readSea_68 (fun H locs I => ?_)
    refine lv_aload_n S.1 S.2.1 dX5_readSea_71 rfl (lv_at hl 1 rfl) ?_
    obtain ⟨o10, e11, f⟩ := ob f
    refine o_Vi S (As := []) (rest := []) (ci := 5) (M5_readStop l D cy b A fl e11) gX5_readSea_X5_readStop rfl rfl rfl cd5_readStop ⟨Nat.le_of_ble_eq_true rfl, Nat.le_of_ble_eq_true rfl⟩ I (gd e11).1 clX5 rfl rfl hl.1 rfl (Nat.le_of_ble_eq_true rfl) dX5_readSea_72 ⟨Nat.le_of_ble_eq_true rfl, Nat.le_of_ble_eq_true rfl⟩ (fun H locs I => ?_)
    exact o_zret S hr hlo I f dX5_readSea_75
  · have f := (if_pos q1).symm.trans f
    refine lv_iconst (v := 0) S.1 S.2.1 dX5_readSea_53 (by decide) ?_
    exact o_zret S hr hlo I f dX5_readSea_54
set_option maxHeartbeats 4000000 in
set_option maxRecDepth 100000 in
theorem T5_readSea_0 (S : CallFix p m c cX5_readSea 3 s args vX5_readSea RX5) (hr : meth.sig.returnType = (some .boolean)) (hlo : meth.locks = false) {out : Int32 × PH} {h : PH} {a0 : Nat} (f : F5_readSea_0  h a0 = some out) {H : Heap} {locs : List Loc} (I : ph_I D cy b A fl h s H locs) {ls : Array Slot} (hl : lv_has ls 3 [(0, .ref (b + a0))]) : W p l e ({ frames := 4, cells := 0, slots := 0, locals := 86 } : Room) s m args below meth c H locs 0 0 (MQ below (va_Qi (fun (r : Int32) (u : PH) => (r, u) = out) (ph_B D cy b A fl) A) args s 0 0 A) (F0 m 0 ls []) := by
  unfold F5_readSea_0 at f
  refine lv_aload_n S.1 S.2.1 dX5_readSea_0 rfl (lv_at hl 0 rfl) ?_
  refine lv_iconst (v := 0) S.1 S.2.1 dX5_readSea_1 (by decide) ?_
  obtain ⟨o1, e2, f⟩ := ob f
  refine o_Vi S (As := [.int 0]) (rest := []) (ci := 5) (M5_isFirst l D cy b A fl e2) gX5_readSea_X5_isFirst rfl rfl rfl cd5_isFirst ⟨Nat.le_of_ble_eq_true rfl, Nat.le_of_ble_eq_true rfl⟩ I (gd e2).1 clX5 rfl rfl hl.1 rfl (Nat.le_of_ble_eq_true rfl) dX5_readSea_2 ⟨Nat.le_of_ble_eq_true rfl, Nat.le_of_ble_eq_true rfl⟩ (fun H locs I => ?_)
  refine lv_if_ne (tgt := 10) S.1 S.2.1 dX5_readSea_5 (by decide) (fun q3 => ?_) (fun q3 => ?_)
  · have f := (if_neg q3).symm.trans f
    refine lv_aload_n S.1 S.2.1 dX5_readSea_10 rfl (lv_at hl 0 rfl) ?_
    obtain ⟨v4, e5, f⟩ := ob f
    refine o_gI S lf5_readSea_41 I e5 dX5_readSea_11 ?_
    refine lv_if_eq (tgt := 23) S.1 S.2.1 dX5_readSea_14 (by decide) (fun q6 => ?_) (fun q6 => ?_)
    · have f := (if_pos q6).symm.trans f
      refine lv_aload_n S.1 S.2.1 dX5_readSea_23 rfl (lv_at hl 0 rfl) ?_
      refine lv_iconst (v := 1) S.1 S.2.1 dX5_readSea_24 (by decide) ?_
      refine lv_bipush (v := 8) S.1 S.2.1 dX5_readSea_25 (by decide) ?_
      obtain ⟨o7, e8, f⟩ := ob f
      refine o_Vi S (As := [.int 1, .int 8]) (rest := []) (ci := 5) (M5_numberIn l D cy b A fl e8) gX5_readSea_X5_numberIn rfl rfl rfl cd5_numberIn ⟨Nat.le_of_ble_eq_true rfl, Nat.le_of_ble_eq_true rfl⟩ I (gd e8).1 clX5 rfl rfl hl.1 rfl (Nat.le_of_ble_eq_true rfl) dX5_readSea_27 ⟨Nat.le_of_ble_eq_true rfl, Nat.le_of_ble_eq_true rfl⟩ (fun H locs I => ?_)
      refine lv_istore_n (lv' := [(1, .int o7.1), (0, .ref (b + a0))]) S.1 S.2.1 dX5_readSea_30 rfl hl (by decide) rfl (fun ls hl => ?_)
      refine lv_iload_n S.1 S.2.1 dX5_readSea_31 rfl (lv_at hl 0 rfl) ?_
      refine lv_iconst (v := (-1)) S.1 S.2.1 dX5_readSea_32 (by decide) ?_
      refine lv_icmp_ne (tgt := 40) S.1 S.2.1 dX5_readSea_33 (by decide) (fun q9 => ?_) (fun q9 => ?_)
      · have f := (if_neg q9).symm.trans f
        refine lv_aload_n S.1 S.2.1 dX5_readSea_40 rfl (lv_at hl 1 rfl) ?_
        refine lv_iconst (v := 1) S.1 S.2.1 dX5_readSea_41 (by decide) ?_
        refine lv_bipush (v := 6) S.1 S.2.1 dX5_readSea_42 (by decide) ?_
        obtain ⟨o10, e11, f⟩ := ob f
        refine o_Vi S (As := [.int 1, .int 6]) (rest := []) (ci := 5) (M5_numberIn l D cy b A fl e11) gX5_readSea_X5_numberIn rfl rfl rfl cd5_numberIn ⟨Nat.le_of_ble_eq_true rfl, Nat.le_of_ble_eq_true rfl⟩ I (gd e11).1 clX5 rfl rfl hl.1 rfl (Nat.le_of_ble_eq_true rfl) dX5_readSea_44 ⟨Nat.le_of_ble_eq_true rfl, Nat.le_of_ble_eq_true rfl⟩ (fun H locs I => ?_)
        exact T5_readSea_47 S hr hlo  f I (lv_sub hl [1, 0] rfl)
      · have f := (if_pos q9).symm.trans f
        refine lv_iconst (v := (-1)) S.1 S.2.1 dX5_readSea_36 (by decide) ?_
        refine lv_goto (tgt := 47) S.1 S.2.1 dX5_readSea_37 (by decide) ?_
        exact T5_readSea_47 S hr hlo  f I (lv_sub hl [1, 0] rfl)
    · have f := (if_neg q6).symm.trans f
      refine lv_aload_n S.1 S.2.1 dX5_readSea_17 rfl (lv_at hl 0 rfl) ?_
      refine lv_iconst (v := 4) S.1 S.2.1 dX5_readSea_18 (by decide) ?_
      obtain ⟨o12, e13, f⟩ := ob f
      refine o_Vi S (As := [.int 4]) (rest := []) (ci := 5) (M5_refuse l D cy b A fl e13) gX5_readSea_X5_refuse rfl rfl rfl cd5_refuse ⟨Nat.le_of_ble_eq_true rfl, Nat.le_of_ble_eq_true rfl⟩ I (gd e13).1 clX5 rfl rfl hl.1 rfl (Nat.le_of_ble_eq_true rfl) dX5_readSea_19 ⟨Nat.le_of_ble_eq_true rfl, Nat.le_of_ble_eq_true rfl⟩ (fun H locs I => ?_)
      exact o_zret S hr hlo I f dX5_readSea_22
  · have f := (if_pos q3).symm.trans f
    refine lv_iconst (v := 0) S.1 S.2.1 dX5_readSea_8 (by decide) ?_
    exact o_zret S hr hlo I f dX5_readSea_9
theorem M5_readSea (l : Launch) (D : va_G) (cy : Nat → ClassId) (b : Nat) (A : Nat → Prop) (fl : Bool) {h : PH} {a0 : Nat} {out : Int32 × PH} (f : F5_readSea h a0 = some out) : Met l yX5_readSea vX5_readSea ({ frames := 4, cells := 0, slots := 0, locals := 86 } : Room) (va_Pc [.ref (b + a0)] (ph_B D cy b A fl h)) (va_Qi (fun (r : Int32) (u : PH) => (r, u) = out) (ph_B D cy b A fl) A) 0 0 A :=
  o_met (by decide) rfl (Nat.le_of_ble_eq_true rfl) rfl (fun p e s m below meth c S hr hlo hnm ls hl I => T5_readSea_0 S hr hlo ((gd f).2) I (lv_sub hl [0] rfl))
def vX5_readPeak : List Cond := .code yX5_readPeak cX5_readPeak 3 (some .boolean) :: TB
theorem lf5_readPeak_9 : Fl vX5_readPeak RX5 9 5 10 := ⟨RX5, TX5, 11, rfl, by decide, (fun w h9 => List.mem_cons_of_mem _ (wC_wsX50 w h9)), (List.mem_cons_of_mem _ wT_4_23)⟩
theorem lp5_readPeak_115 : Pl vX5_readPeak RX5 115 8 2 .int := ⟨RX8, TX8, 14, tyX8, rfl, by decide, (fun w h9 => List.mem_cons_of_mem _ (wC_wsX80 w h9)), (List.mem_cons_of_mem _ wT_18_23), tyX8_ok, nmX8, rfl, rfl⟩
theorem lp5_readPeak_118 : Pl vX5_readPeak RX5 118 8 3 .int := ⟨RX8, TX8, 14, tyX8, rfl, by decide, (fun w h9 => List.mem_cons_of_mem _ (wC_wsX80 w h9)), (List.mem_cons_of_mem _ wT_19_0), tyX8_ok, nmX8, rfl, rfl⟩
theorem gX5_readPeak_X5_readStop : GoodIn vX5_readPeak (wsV RX5 112 RX5 yX5_readStop vX5_readStop) := gV_of wT_18_15 wT_18_16 wT_18_17 wT_1_22 wT_18_18
theorem gX5_readPeak_X5_isFirst : GoodIn vX5_readPeak (wsV RX5 100 RX5 yX5_isFirst vX5_isFirst) := gV_of wT_17_21 wT_17_22 wT_17_23 wT_1_22 wT_18_0
theorem lp5_readPeak_41 : Pl vX5_readPeak RX5 41 5 7 .boolean := ⟨RX5, TX5, 11, tyX5, rfl, by decide, (fun w h9 => List.mem_cons_of_mem _ (wC_wsX50 w h9)), (List.mem_cons_of_mem _ wT_14_6), tyX5_ok, nmX5, rfl, rfl⟩
theorem lf5_readPeak_106 : Fl vX5_readPeak RX5 106 8 0 := ⟨RX8, TX8, 14, rfl, by decide, (fun w h9 => List.mem_cons_of_mem _ (wC_wsX80 w h9)), (List.mem_cons_of_mem _ wT_17_19)⟩
theorem gX5_readPeak_X5_numberIn : GoodIn vX5_readPeak (wsV RX5 103 RX5 yX5_numberIn vX5_numberIn) := gV_of wT_18_6 wT_18_7 wT_18_8 wT_1_22 wT_18_9
theorem lf5_readPeak_109 : Fl vX5_readPeak RX5 109 8 1 := ⟨RX8, TX8, 14, rfl, by decide, (fun w h9 => List.mem_cons_of_mem _ (wC_wsX80 w h9)), (List.mem_cons_of_mem _ wT_17_20)⟩
theorem cd5_readPeak : Cd yX5_readPeak 0 := ⟨by decide, by decide, by decide +kernel⟩
set_option maxHeartbeats 4000000 in
set_option maxRecDepth 100000 in
theorem T5_readPeak_53 (S : CallFix p m c cX5_readPeak 3 s args vX5_readPeak RX5) (hr : meth.sig.returnType = (some .boolean)) (hlo : meth.locks = false) {out : Int32 × PH} {h : PH} {a0 : Nat} {x1 : Int32} {s0 : Int32} (f : F5_readPeak_53  h a0 x1 s0 = some out) {H : Heap} {locs : List Loc} (I : ph_I D cy b A fl h s H locs) {ls : Array Slot} (hl : lv_has ls 3 [(0, .ref (b + a0)), (1, .int x1)]) : W p l e ({ frames := 4, cells := 0, slots := 0, locals := 86 } : Room) s m args below meth c H locs 0 0 (MQ below (va_Qi (fun (r : Int32) (u : PH) => (r, u) = out) (ph_B D cy b A fl) A) args s 0 0 A) (F0 m 53 ls [.int s0]) := by
  unfold F5_readPeak_53 at f
  refine lv_istore_n (lv' := [(2, .int s0), (0, .ref (b + a0)), (1, .int x1)]) S.1 S.2.1 dX5_readPeak_53 rfl hl (by decide) rfl (fun ls hl => ?_)
  refine lv_iload_n S.1 S.2.1 dX5_readPeak_54 rfl (lv_at hl 0 rfl) ?_
  refine lv_iconst (v := (-1)) S.1 S.2.1 dX5_readPeak_55 (by decide) ?_
  refine lv_icmp_ne (tgt := 61) S.1 S.2.1 dX5_readPeak_56 (by decide) (fun q1 => ?_) (fun q1 => ?_)
  · have f := (if_neg q1).symm.trans f
    refine lv_aload_n S.1 S.2.1 dX5_readPeak_61 rfl (lv_at hl 1 rfl) ?_
    obtain ⟨r2, e3, f⟩ := ob f
    refine o_gR S lf5_readPeak_9 I e3 dX5_readPeak_62 ?_
    refine lv_iload_n S.1 S.2.1 dX5_readPeak_65 rfl (lv_at hl 2 rfl) ?_
    obtain ⟨h4, e5, f⟩ := ob f
    refine o_pI S lp5_readPeak_115 I e5 dX5_readPeak_66 (fun H locs I => ?_)
    refine lv_aload_n S.1 S.2.1 dX5_readPeak_69 rfl (lv_at hl 1 rfl) ?_
    obtain ⟨r6, e7, f⟩ := ob f
    refine o_gR S lf5_readPeak_9 I e7 dX5_readPeak_70 ?_
    refine lv_iload_n S.1 S.2.1 dX5_readPeak_73 rfl (lv_at hl 0 rfl) ?_
    obtain ⟨h8, e9, f⟩ := ob f
    refine o_pI S lp5_readPeak_118 I e9 dX5_readPeak_74 (fun H locs I => ?_)
    refine lv_aload_n S.1 S.2.1 dX5_readPeak_77 rfl (lv_at hl 1 rfl) ?_
    obtain ⟨o10, e11, f⟩ := ob f
    refine o_Vi S (As := []) (rest := []) (ci := 5) (M5_readStop l D cy b A fl e11) gX5_readPeak_X5_readStop rfl rfl rfl cd5_readStop ⟨Nat.le_of_ble_eq_true rfl, Nat.le_of_ble_eq_true rfl⟩ I (gd e11).1 clX5 rfl rfl hl.1 rfl (Nat.le_of_ble_eq_true rfl) dX5_readPeak_78 ⟨Nat.le_of_ble_eq_true rfl, Nat.le_of_ble_eq_true rfl⟩ (fun H locs I => ?_)
    exact o_zret S hr hlo I f dX5_readPeak_81
  · have f := (if_pos q1).symm.trans f
    refine lv_iconst (v := 0) S.1 S.2.1 dX5_readPeak_59 (by decide) ?_
    exact o_zret S hr hlo I f dX5_readPeak_60
set_option maxHeartbeats 4000000 in
set_option maxRecDepth 100000 in
theorem T5_readPeak_0 (S : CallFix p m c cX5_readPeak 3 s args vX5_readPeak RX5) (hr : meth.sig.returnType = (some .boolean)) (hlo : meth.locks = false) {out : Int32 × PH} {h : PH} {a0 : Nat} (f : F5_readPeak_0  h a0 = some out) {H : Heap} {locs : List Loc} (I : ph_I D cy b A fl h s H locs) {ls : Array Slot} (hl : lv_has ls 3 [(0, .ref (b + a0))]) : W p l e ({ frames := 4, cells := 0, slots := 0, locals := 86 } : Room) s m args below meth c H locs 0 0 (MQ below (va_Qi (fun (r : Int32) (u : PH) => (r, u) = out) (ph_B D cy b A fl) A) args s 0 0 A) (F0 m 0 ls []) := by
  unfold F5_readPeak_0 at f
  refine lv_aload_n S.1 S.2.1 dX5_readPeak_0 rfl (lv_at hl 0 rfl) ?_
  refine lv_iconst (v := 1) S.1 S.2.1 dX5_readPeak_1 (by decide) ?_
  obtain ⟨o1, e2, f⟩ := ob f
  refine o_Vi S (As := [.int 1]) (rest := []) (ci := 5) (M5_isFirst l D cy b A fl e2) gX5_readPeak_X5_isFirst rfl rfl rfl cd5_isFirst ⟨Nat.le_of_ble_eq_true rfl, Nat.le_of_ble_eq_true rfl⟩ I (gd e2).1 clX5 rfl rfl hl.1 rfl (Nat.le_of_ble_eq_true rfl) dX5_readPeak_2 ⟨Nat.le_of_ble_eq_true rfl, Nat.le_of_ble_eq_true rfl⟩ (fun H locs I => ?_)
  refine lv_if_ne (tgt := 10) S.1 S.2.1 dX5_readPeak_5 (by decide) (fun q3 => ?_) (fun q3 => ?_)
  · have f := (if_neg q3).symm.trans f
    refine lv_aload_n S.1 S.2.1 dX5_readPeak_10 rfl (lv_at hl 0 rfl) ?_
    refine lv_iconst (v := 1) S.1 S.2.1 dX5_readPeak_11 (by decide) ?_
    obtain ⟨h4, e5, f⟩ := ob f
    refine o_pZ S lp5_readPeak_41 I e5 dX5_readPeak_12 (fun H locs I => ?_)
    refine lv_aload_n S.1 S.2.1 dX5_readPeak_15 rfl (lv_at hl 0 rfl) ?_
    refine lv_iconst (v := 0) S.1 S.2.1 dX5_readPeak_16 (by decide) ?_
    refine lv_aload_n S.1 S.2.1 dX5_readPeak_17 rfl (lv_at hl 0 rfl) ?_
    obtain ⟨r6, e7, f⟩ := ob f
    refine o_gR S lf5_readPeak_9 I e7 dX5_readPeak_18 ?_
    obtain ⟨v8, e9, f⟩ := ob f
    refine o_gI S lf5_readPeak_106 I e9 dX5_readPeak_21 ?_
    refine lv_iconst (v := 1) S.1 S.2.1 dX5_readPeak_24 (by decide) ?_
    refine lv_isub S.1 S.2.1 dX5_readPeak_25 ?_
    obtain ⟨o10, e11, f⟩ := ob f
    refine o_Vi S (As := [.int 0, .int (v8 - 1)]) (rest := []) (ci := 5) (M5_numberIn l D cy b A fl e11) gX5_readPeak_X5_numberIn rfl rfl rfl cd5_numberIn ⟨Nat.le_of_ble_eq_true rfl, Nat.le_of_ble_eq_true rfl⟩ I (gd e11).1 clX5 rfl rfl hl.1 rfl (Nat.le_of_ble_eq_true rfl) dX5_readPeak_26 ⟨Nat.le_of_ble_eq_true rfl, Nat.le_of_ble_eq_true rfl⟩ (fun H locs I => ?_)
    refine lv_istore_n (lv' := [(1, .int o10.1), (0, .ref (b + a0))]) S.1 S.2.1 dX5_readPeak_29 rfl hl (by decide) rfl (fun ls hl => ?_)
    refine lv_iload_n S.1 S.2.1 dX5_readPeak_30 rfl (lv_at hl 0 rfl) ?_
    refine lv_iconst (v := (-1)) S.1 S.2.1 dX5_readPeak_31 (by decide) ?_
    refine lv_icmp_ne (tgt := 39) S.1 S.2.1 dX5_readPeak_32 (by decide) (fun q12 => ?_) (fun q12 => ?_)
    · have f := (if_neg q12).symm.trans f
      refine lv_aload_n S.1 S.2.1 dX5_readPeak_39 rfl (lv_at hl 1 rfl) ?_
      refine lv_iconst (v := 0) S.1 S.2.1 dX5_readPeak_40 (by decide) ?_
      refine lv_aload_n S.1 S.2.1 dX5_readPeak_41 rfl (lv_at hl 1 rfl) ?_
      obtain ⟨r13, e14, f⟩ := ob f
      refine o_gR S lf5_readPeak_9 I e14 dX5_readPeak_42 ?_
      obtain ⟨v15, e16, f⟩ := ob f
      refine o_gI S lf5_readPeak_109 I e16 dX5_readPeak_45 ?_
      refine lv_iconst (v := 1) S.1 S.2.1 dX5_readPeak_48 (by decide) ?_
      refine lv_isub S.1 S.2.1 dX5_readPeak_49 ?_
      obtain ⟨o17, e18, f⟩ := ob f
      refine o_Vi S (As := [.int 0, .int (v15 - 1)]) (rest := []) (ci := 5) (M5_numberIn l D cy b A fl e18) gX5_readPeak_X5_numberIn rfl rfl rfl cd5_numberIn ⟨Nat.le_of_ble_eq_true rfl, Nat.le_of_ble_eq_true rfl⟩ I (gd e18).1 clX5 rfl rfl hl.1 rfl (Nat.le_of_ble_eq_true rfl) dX5_readPeak_50 ⟨Nat.le_of_ble_eq_true rfl, Nat.le_of_ble_eq_true rfl⟩ (fun H locs I => ?_)
      exact T5_readPeak_53 S hr hlo  f I (lv_sub hl [1, 0] rfl)
    · have f := (if_pos q12).symm.trans f
      refine lv_iconst (v := (-1)) S.1 S.2.1 dX5_readPeak_35 (by decide) ?_
      refine lv_goto (tgt := 53) S.1 S.2.1 dX5_readPeak_36 (by decide) ?_
      exact T5_readPeak_53 S hr hlo  f I (lv_sub hl [1, 0] rfl)
  · have f := (if_pos q3).symm.trans f
    refine lv_iconst (v := 0) S.1 S.2.1 dX5_readPeak_8 (by decide) ?_
    exact o_zret S hr hlo I f dX5_readPeak_9
theorem M5_readPeak (l : Launch) (D : va_G) (cy : Nat → ClassId) (b : Nat) (A : Nat → Prop) (fl : Bool) {h : PH} {a0 : Nat} {out : Int32 × PH} (f : F5_readPeak h a0 = some out) : Met l yX5_readPeak vX5_readPeak ({ frames := 4, cells := 0, slots := 0, locals := 86 } : Room) (va_Pc [.ref (b + a0)] (ph_B D cy b A fl h)) (va_Qi (fun (r : Int32) (u : PH) => (r, u) = out) (ph_B D cy b A fl) A) 0 0 A :=
  o_met (by decide) rfl (Nat.le_of_ble_eq_true rfl) rfl (fun p e s m below meth c S hr hlo hnm ls hl I => T5_readPeak_0 S hr hlo ((gd f).2) I (lv_sub hl [0] rfl))
def vX5_readSurfer : List Cond := .code yX5_readSurfer cX5_readSurfer 8 (some .boolean) :: TB
theorem lf5_readSurfer_9 : Fl vX5_readSurfer RX5 9 5 10 := ⟨RX5, TX5, 11, rfl, by decide, (fun w h9 => List.mem_cons_of_mem _ (wC_wsX50 w h9)), (List.mem_cons_of_mem _ wT_4_23)⟩
theorem lf5_readSurfer_121 : Fl vX5_readSurfer RX5 121 8 4 := ⟨RX8, TX8, 14, rfl, by decide, (fun w h9 => List.mem_cons_of_mem _ (wC_wsX80 w h9)), (List.mem_cons_of_mem _ wT_19_5)⟩
theorem lf5_readSurfer_106 : Fl vX5_readSurfer RX5 106 8 0 := ⟨RX8, TX8, 14, rfl, by decide, (fun w h9 => List.mem_cons_of_mem _ (wC_wsX80 w h9)), (List.mem_cons_of_mem _ wT_17_19)⟩
theorem gX5_readSurfer_X1_add : GoodIn vX5_readSurfer (wsV RX5 133 RX1 yX1_add vX1_add) := gV_of wT_19_12 wT_19_13 wT_19_14 wT_3_5 wT_19_15
theorem gX5_readSurfer_X5_readStop : GoodIn vX5_readSurfer (wsV RX5 112 RX5 yX5_readStop vX5_readStop) := gV_of wT_18_15 wT_18_16 wT_18_17 wT_1_22 wT_18_18
theorem gX5_readSurfer_X5_numberIn : GoodIn vX5_readSurfer (wsV RX5 103 RX5 yX5_numberIn vX5_numberIn) := gV_of wT_18_6 wT_18_7 wT_18_8 wT_1_22 wT_18_9
theorem lf5_readSurfer_125 : Fl vX5_readSurfer RX5 125 1 0 := ⟨RX1, TX1, 7, rfl, by decide, (fun w h9 => List.mem_cons_of_mem _ (wC_wsX10 w h9)), (List.mem_cons_of_mem _ wT_19_6)⟩
theorem lp5_readSurfer_41 : Pl vX5_readSurfer RX5 41 5 7 .boolean := ⟨RX5, TX5, 11, tyX5, rfl, by decide, (fun w h9 => List.mem_cons_of_mem _ (wC_wsX50 w h9)), (List.mem_cons_of_mem _ wT_14_6), tyX5_ok, nmX5, rfl, rfl⟩
theorem lf5_readSurfer_18 : Fl vX5_readSurfer RX5 18 5 0 := ⟨RX5, TX5, 11, rfl, by decide, (fun w h9 => List.mem_cons_of_mem _ (wC_wsX50 w h9)), (List.mem_cons_of_mem _ wT_5_3)⟩
theorem gX5_readSurfer_X7_advance : GoodIn vX5_readSurfer (wsV RX5 49 RX7 yX7_advance vX7_advance) := gV_of wT_15_21 wT_15_22 wT_15_23 wT_5_2 wT_16_0
theorem lf5_readSurfer_52 : Fl vX5_readSurfer RX5 52 7 4 := ⟨RX7, TX7, 7, rfl, by decide, (fun w h9 => List.mem_cons_of_mem _ (wC_wsX70 w h9)), (List.mem_cons_of_mem _ wT_14_7)⟩
theorem lf5_readSurfer_97 : Fl vX5_readSurfer RX5 97 7 6 := ⟨RX7, TX7, 7, rfl, by decide, (fun w h9 => List.mem_cons_of_mem _ (wC_wsX70 w h9)), (List.mem_cons_of_mem _ wT_18_14)⟩
theorem gX5_readSurfer_X1_hasName : GoodIn vX5_readSurfer (wsV RX5 130 RX1 yX1_hasName vX1_hasName) := gV_of wT_19_7 wT_19_8 wT_19_9 wT_3_5 wT_19_10
theorem lf5_readSurfer_109 : Fl vX5_readSurfer RX5 109 8 1 := ⟨RX8, TX8, 14, rfl, by decide, (fun w h9 => List.mem_cons_of_mem _ (wC_wsX80 w h9)), (List.mem_cons_of_mem _ wT_17_20)⟩
theorem gX5_readSurfer_X5_refuse : GoodIn vX5_readSurfer (wsV RX5 89 RX5 yX5_refuse vX5_refuse) := gV_of wT_18_1 wT_18_2 wT_18_3 wT_1_22 wT_18_4
theorem cd5_readSurfer : Cd yX5_readSurfer 0 := ⟨by decide, by decide, by decide +kernel⟩
set_option maxHeartbeats 4000000 in
set_option maxRecDepth 100000 in
theorem T5_readSurfer_195 (S : CallFix p m c cX5_readSurfer 8 s args vX5_readSurfer RX5) (hr : meth.sig.returnType = (some .boolean)) (hlo : meth.locks = false) {out : Int32 × PH} {h : PH} {a0 : Nat} {x1 : Int32} {x2 : Int32} {x3 : Int32} {x4 : Int32} {x5 : Int32} {x6 : Int32} {s0 : Int32} (f : F5_readSurfer_195  h a0 x1 x2 x3 x4 x5 x6 s0 = some out) {H : Heap} {locs : List Loc} (I : ph_I D cy b A fl h s H locs) {ls : Array Slot} (hl : lv_has ls 8 [(0, .ref (b + a0)), (1, .int x1), (2, .int x2), (3, .int x3), (4, .int x4), (5, .int x5), (6, .int x6)]) : W p l e ({ frames := 4, cells := 0, slots := 0, locals := 86 } : Room) s m args below meth c H locs 0 0 (MQ below (va_Qi (fun (r : Int32) (u : PH) => (r, u) = out) (ph_B D cy b A fl) A) args s 0 0 A) (F0 m 195 ls [.int s0]) := by
  unfold F5_readSurfer_195 at f
  refine lv_istore (lv' := [(7, .int s0), (0, .ref (b + a0)), (1, .int x1), (2, .int x2), (3, .int x3), (4, .int x4), (5, .int x5), (6, .int x6)]) S.1 S.2.1 dX5_readSurfer_195 hl (by decide) rfl (fun ls hl => ?_)
  refine lv_iload S.1 S.2.1 dX5_readSurfer_197 (lv_at hl 0 rfl) ?_
  refine lv_iconst (v := (-1)) S.1 S.2.1 dX5_readSurfer_199 (by decide) ?_
  refine lv_icmp_ne (tgt := 205) S.1 S.2.1 dX5_readSurfer_200 (by decide) (fun q1 => ?_) (fun q1 => ?_)
  · have f := (if_neg q1).symm.trans f
    refine lv_aload_n S.1 S.2.1 dX5_readSurfer_205 rfl (lv_at hl 1 rfl) ?_
    obtain ⟨r2, e3, f⟩ := ob f
    refine o_gR S lf5_readSurfer_9 I e3 dX5_readSurfer_206 ?_
    obtain ⟨r4, e5, f⟩ := ob f
    refine o_gR S lf5_readSurfer_121 I e5 dX5_readSurfer_209 ?_
    refine lv_iload_n S.1 S.2.1 dX5_readSurfer_212 rfl (lv_at hl 2 rfl) ?_
    refine lv_iload_n S.1 S.2.1 dX5_readSurfer_213 rfl (lv_at hl 4 rfl) ?_
    refine lv_aload_n S.1 S.2.1 dX5_readSurfer_214 rfl (lv_at hl 1 rfl) ?_
    obtain ⟨r6, e7, f⟩ := ob f
    refine o_gR S lf5_readSurfer_9 I e7 dX5_readSurfer_215 ?_
    obtain ⟨v8, e9, f⟩ := ob f
    refine o_gI S lf5_readSurfer_106 I e9 dX5_readSurfer_218 ?_
    refine lv_imul S.1 S.2.1 dX5_readSurfer_221 ?_
    refine lv_iload_n S.1 S.2.1 dX5_readSurfer_222 rfl (lv_at hl 3 rfl) ?_
    refine lv_iadd S.1 S.2.1 dX5_readSurfer_223 ?_
    refine lv_iload S.1 S.2.1 dX5_readSurfer_224 (lv_at hl 5 rfl) ?_
    refine lv_iload S.1 S.2.1 dX5_readSurfer_226 (lv_at hl 6 rfl) ?_
    refine lv_iload S.1 S.2.1 dX5_readSurfer_228 (lv_at hl 7 rfl) ?_
    refine lv_iload S.1 S.2.1 dX5_readSurfer_230 (lv_at hl 0 rfl) ?_
    obtain ⟨o10, e11, f⟩ := ob f
    refine o_Vv S (As := [.int x1, .int ((x3 * v8) + x2), .int x4, .int x5, .int x6, .int s0]) (rest := []) (ci := 1) (M1_add l D cy b A fl e11) gX5_readSurfer_X1_add rfl rfl rfl cd1_add ⟨Nat.le_of_ble_eq_true rfl, Nat.le_of_ble_eq_true rfl⟩ I (gd e11).1 clX1 rfl rfl hl.1 rfl (Nat.le_of_ble_eq_true rfl) dX5_readSurfer_232 ⟨Nat.le_of_ble_eq_true rfl, Nat.le_of_ble_eq_true rfl⟩ (fun H locs I => ?_)
    refine lv_aload_n S.1 S.2.1 dX5_readSurfer_235 rfl (lv_at hl 1 rfl) ?_
    obtain ⟨o12, e13, f⟩ := ob f
    refine o_Vi S (As := []) (rest := []) (ci := 5) (M5_readStop l D cy b A fl e13) gX5_readSurfer_X5_readStop rfl rfl rfl cd5_readStop ⟨Nat.le_of_ble_eq_true rfl, Nat.le_of_ble_eq_true rfl⟩ I (gd e13).1 clX5 rfl rfl hl.1 rfl (Nat.le_of_ble_eq_true rfl) dX5_readSurfer_236 ⟨Nat.le_of_ble_eq_true rfl, Nat.le_of_ble_eq_true rfl⟩ (fun H locs I => ?_)
    exact o_zret S hr hlo I f dX5_readSurfer_239
  · have f := (if_pos q1).symm.trans f
    refine lv_iconst (v := 0) S.1 S.2.1 dX5_readSurfer_203 (by decide) ?_
    exact o_zret S hr hlo I f dX5_readSurfer_204
set_option maxHeartbeats 4000000 in
set_option maxRecDepth 100000 in
theorem T5_readSurfer_176 (S : CallFix p m c cX5_readSurfer 8 s args vX5_readSurfer RX5) (hr : meth.sig.returnType = (some .boolean)) (hlo : meth.locks = false) {out : Int32 × PH} {h : PH} {a0 : Nat} {x1 : Int32} {x2 : Int32} {x3 : Int32} {x4 : Int32} {x5 : Int32} {s0 : Int32} (f : F5_readSurfer_176  h a0 x1 x2 x3 x4 x5 s0 = some out) {H : Heap} {locs : List Loc} (I : ph_I D cy b A fl h s H locs) {ls : Array Slot} (hl : lv_has ls 8 [(0, .ref (b + a0)), (1, .int x1), (2, .int x2), (3, .int x3), (4, .int x4), (5, .int x5)]) : W p l e ({ frames := 4, cells := 0, slots := 0, locals := 86 } : Room) s m args below meth c H locs 0 0 (MQ below (va_Qi (fun (r : Int32) (u : PH) => (r, u) = out) (ph_B D cy b A fl) A) args s 0 0 A) (F0 m 176 ls [.int s0]) := by
  unfold F5_readSurfer_176 at f
  refine lv_istore (lv' := [(6, .int s0), (0, .ref (b + a0)), (1, .int x1), (2, .int x2), (3, .int x3), (4, .int x4), (5, .int x5)]) S.1 S.2.1 dX5_readSurfer_176 hl (by decide) rfl (fun ls hl => ?_)
  refine lv_iload S.1 S.2.1 dX5_readSurfer_178 (lv_at hl 0 rfl) ?_
  refine lv_iconst (v := (-1)) S.1 S.2.1 dX5_readSurfer_180 (by decide) ?_
  refine lv_icmp_ne (tgt := 188) S.1 S.2.1 dX5_readSurfer_181 (by decide) (fun q1 => ?_) (fun q1 => ?_)
  · have f := (if_neg q1).symm.trans f
    refine lv_aload_n S.1 S.2.1 dX5_readSurfer_188 rfl (lv_at hl 1 rfl) ?_
    refine lv_iconst (v := 0) S.1 S.2.1 dX5_readSurfer_189 (by decide) ?_
    refine lv_bipush (v := 100) S.1 S.2.1 dX5_readSurfer_190 (by decide) ?_
    obtain ⟨o2, e3, f⟩ := ob f
    refine o_Vi S (As := [.int 0, .int 100]) (rest := []) (ci := 5) (M5_numberIn l D cy b A fl e3) gX5_readSurfer_X5_numberIn rfl rfl rfl cd5_numberIn ⟨Nat.le_of_ble_eq_true rfl, Nat.le_of_ble_eq_true rfl⟩ I (gd e3).1 clX5 rfl rfl hl.1 rfl (Nat.le_of_ble_eq_true rfl) dX5_readSurfer_192 ⟨Nat.le_of_ble_eq_true rfl, Nat.le_of_ble_eq_true rfl⟩ (fun H locs I => ?_)
    exact T5_readSurfer_195 S hr hlo  f I (lv_sub hl [1, 2, 3, 4, 5, 6, 0] rfl)
  · have f := (if_pos q1).symm.trans f
    refine lv_iconst (v := (-1)) S.1 S.2.1 dX5_readSurfer_184 (by decide) ?_
    refine lv_goto (tgt := 195) S.1 S.2.1 dX5_readSurfer_185 (by decide) ?_
    exact T5_readSurfer_195 S hr hlo  f I (lv_sub hl [1, 2, 3, 4, 5, 6, 0] rfl)
set_option maxHeartbeats 4000000 in
set_option maxRecDepth 100000 in
theorem T5_readSurfer_157 (S : CallFix p m c cX5_readSurfer 8 s args vX5_readSurfer RX5) (hr : meth.sig.returnType = (some .boolean)) (hlo : meth.locks = false) {out : Int32 × PH} {h : PH} {a0 : Nat} {x1 : Int32} {x2 : Int32} {x3 : Int32} {x4 : Int32} {s0 : Int32} (f : F5_readSurfer_157  h a0 x1 x2 x3 x4 s0 = some out) {H : Heap} {locs : List Loc} (I : ph_I D cy b A fl h s H locs) {ls : Array Slot} (hl : lv_has ls 8 [(0, .ref (b + a0)), (1, .int x1), (2, .int x2), (3, .int x3), (4, .int x4)]) : W p l e ({ frames := 4, cells := 0, slots := 0, locals := 86 } : Room) s m args below meth c H locs 0 0 (MQ below (va_Qi (fun (r : Int32) (u : PH) => (r, u) = out) (ph_B D cy b A fl) A) args s 0 0 A) (F0 m 157 ls [.int s0]) := by
  unfold F5_readSurfer_157 at f
  refine lv_istore (lv' := [(5, .int s0), (0, .ref (b + a0)), (1, .int x1), (2, .int x2), (3, .int x3), (4, .int x4)]) S.1 S.2.1 dX5_readSurfer_157 hl (by decide) rfl (fun ls hl => ?_)
  refine lv_iload S.1 S.2.1 dX5_readSurfer_159 (lv_at hl 0 rfl) ?_
  refine lv_iconst (v := (-1)) S.1 S.2.1 dX5_readSurfer_161 (by decide) ?_
  refine lv_icmp_ne (tgt := 169) S.1 S.2.1 dX5_readSurfer_162 (by decide) (fun q1 => ?_) (fun q1 => ?_)
  · have f := (if_neg q1).symm.trans f
    refine lv_aload_n S.1 S.2.1 dX5_readSurfer_169 rfl (lv_at hl 1 rfl) ?_
    refine lv_iconst (v := 0) S.1 S.2.1 dX5_readSurfer_170 (by decide) ?_
    refine lv_bipush (v := 100) S.1 S.2.1 dX5_readSurfer_171 (by decide) ?_
    obtain ⟨o2, e3, f⟩ := ob f
    refine o_Vi S (As := [.int 0, .int 100]) (rest := []) (ci := 5) (M5_numberIn l D cy b A fl e3) gX5_readSurfer_X5_numberIn rfl rfl rfl cd5_numberIn ⟨Nat.le_of_ble_eq_true rfl, Nat.le_of_ble_eq_true rfl⟩ I (gd e3).1 clX5 rfl rfl hl.1 rfl (Nat.le_of_ble_eq_true rfl) dX5_readSurfer_173 ⟨Nat.le_of_ble_eq_true rfl, Nat.le_of_ble_eq_true rfl⟩ (fun H locs I => ?_)
    exact T5_readSurfer_176 S hr hlo  f I (lv_sub hl [1, 2, 3, 4, 5, 0] rfl)
  · have f := (if_pos q1).symm.trans f
    refine lv_iconst (v := (-1)) S.1 S.2.1 dX5_readSurfer_165 (by decide) ?_
    refine lv_goto (tgt := 176) S.1 S.2.1 dX5_readSurfer_166 (by decide) ?_
    exact T5_readSurfer_176 S hr hlo  f I (lv_sub hl [1, 2, 3, 4, 5, 0] rfl)
set_option maxHeartbeats 4000000 in
set_option maxRecDepth 100000 in
theorem T5_readSurfer_139 (S : CallFix p m c cX5_readSurfer 8 s args vX5_readSurfer RX5) (hr : meth.sig.returnType = (some .boolean)) (hlo : meth.locks = false) {out : Int32 × PH} {h : PH} {a0 : Nat} {x1 : Int32} {x2 : Int32} {x3 : Int32} {s0 : Int32} (f : F5_readSurfer_139  h a0 x1 x2 x3 s0 = some out) {H : Heap} {locs : List Loc} (I : ph_I D cy b A fl h s H locs) {ls : Array Slot} (hl : lv_has ls 8 [(0, .ref (b + a0)), (1, .int x1), (2, .int x2), (3, .int x3)]) : W p l e ({ frames := 4, cells := 0, slots := 0, locals := 86 } : Room) s m args below meth c H locs 0 0 (MQ below (va_Qi (fun (r : Int32) (u : PH) => (r, u) = out) (ph_B D cy b A fl) A) args s 0 0 A) (F0 m 139 ls [.int s0]) := by
  unfold F5_readSurfer_139 at f
  refine lv_istore (lv' := [(4, .int s0), (0, .ref (b + a0)), (1, .int x1), (2, .int x2), (3, .int x3)]) S.1 S.2.1 dX5_readSurfer_139 hl (by decide) rfl (fun ls hl => ?_)
  refine lv_iload S.1 S.2.1 dX5_readSurfer_141 (lv_at hl 0 rfl) ?_
  refine lv_iconst (v := (-1)) S.1 S.2.1 dX5_readSurfer_143 (by decide) ?_
  refine lv_icmp_ne (tgt := 151) S.1 S.2.1 dX5_readSurfer_144 (by decide) (fun q1 => ?_) (fun q1 => ?_)
  · have f := (if_neg q1).symm.trans f
    refine lv_aload_n S.1 S.2.1 dX5_readSurfer_151 rfl (lv_at hl 1 rfl) ?_
    refine lv_iconst (v := 1) S.1 S.2.1 dX5_readSurfer_152 (by decide) ?_
    refine lv_iconst (v := 3) S.1 S.2.1 dX5_readSurfer_153 (by decide) ?_
    obtain ⟨o2, e3, f⟩ := ob f
    refine o_Vi S (As := [.int 1, .int 3]) (rest := []) (ci := 5) (M5_numberIn l D cy b A fl e3) gX5_readSurfer_X5_numberIn rfl rfl rfl cd5_numberIn ⟨Nat.le_of_ble_eq_true rfl, Nat.le_of_ble_eq_true rfl⟩ I (gd e3).1 clX5 rfl rfl hl.1 rfl (Nat.le_of_ble_eq_true rfl) dX5_readSurfer_154 ⟨Nat.le_of_ble_eq_true rfl, Nat.le_of_ble_eq_true rfl⟩ (fun H locs I => ?_)
    exact T5_readSurfer_157 S hr hlo  f I (lv_sub hl [1, 2, 3, 4, 0] rfl)
  · have f := (if_pos q1).symm.trans f
    refine lv_iconst (v := (-1)) S.1 S.2.1 dX5_readSurfer_147 (by decide) ?_
    refine lv_goto (tgt := 157) S.1 S.2.1 dX5_readSurfer_148 (by decide) ?_
    exact T5_readSurfer_157 S hr hlo  f I (lv_sub hl [1, 2, 3, 4, 0] rfl)
set_option maxHeartbeats 4000000 in
set_option maxRecDepth 100000 in
theorem T5_readSurfer_122 (S : CallFix p m c cX5_readSurfer 8 s args vX5_readSurfer RX5) (hr : meth.sig.returnType = (some .boolean)) (hlo : meth.locks = false) {out : Int32 × PH} {h : PH} {a0 : Nat} {x1 : Int32} {x2 : Int32} {s0 : Int32} (f : F5_readSurfer_122  h a0 x1 x2 s0 = some out) {H : Heap} {locs : List Loc} (I : ph_I D cy b A fl h s H locs) {ls : Array Slot} (hl : lv_has ls 8 [(0, .ref (b + a0)), (1, .int x1), (2, .int x2)]) : W p l e ({ frames := 4, cells := 0, slots := 0, locals := 86 } : Room) s m args below meth c H locs 0 0 (MQ below (va_Qi (fun (r : Int32) (u : PH) => (r, u) = out) (ph_B D cy b A fl) A) args s 0 0 A) (F0 m 122 ls [.int s0]) := by
  unfold F5_readSurfer_122 at f
  refine lv_istore_n (lv' := [(3, .int s0), (0, .ref (b + a0)), (1, .int x1), (2, .int x2)]) S.1 S.2.1 dX5_readSurfer_122 rfl hl (by decide) rfl (fun ls hl => ?_)
  refine lv_iload_n S.1 S.2.1 dX5_readSurfer_123 rfl (lv_at hl 0 rfl) ?_
  refine lv_iconst (v := (-1)) S.1 S.2.1 dX5_readSurfer_124 (by decide) ?_
  refine lv_icmp_ne (tgt := 132) S.1 S.2.1 dX5_readSurfer_125 (by decide) (fun q1 => ?_) (fun q1 => ?_)
  · have f := (if_neg q1).symm.trans f
    refine lv_aload_n S.1 S.2.1 dX5_readSurfer_132 rfl (lv_at hl 1 rfl) ?_
    refine lv_iconst (v := 1) S.1 S.2.1 dX5_readSurfer_133 (by decide) ?_
    refine lv_bipush (v := 9) S.1 S.2.1 dX5_readSurfer_134 (by decide) ?_
    obtain ⟨o2, e3, f⟩ := ob f
    refine o_Vi S (As := [.int 1, .int 9]) (rest := []) (ci := 5) (M5_numberIn l D cy b A fl e3) gX5_readSurfer_X5_numberIn rfl rfl rfl cd5_numberIn ⟨Nat.le_of_ble_eq_true rfl, Nat.le_of_ble_eq_true rfl⟩ I (gd e3).1 clX5 rfl rfl hl.1 rfl (Nat.le_of_ble_eq_true rfl) dX5_readSurfer_136 ⟨Nat.le_of_ble_eq_true rfl, Nat.le_of_ble_eq_true rfl⟩ (fun H locs I => ?_)
    exact T5_readSurfer_139 S hr hlo  f I (lv_sub hl [1, 2, 3, 0] rfl)
  · have f := (if_pos q1).symm.trans f
    refine lv_iconst (v := (-1)) S.1 S.2.1 dX5_readSurfer_128 (by decide) ?_
    refine lv_goto (tgt := 139) S.1 S.2.1 dX5_readSurfer_129 (by decide) ?_
    exact T5_readSurfer_139 S hr hlo  f I (lv_sub hl [1, 2, 3, 0] rfl)
set_option maxHeartbeats 4000000 in
set_option maxRecDepth 100000 in
theorem T5_readSurfer_0 (S : CallFix p m c cX5_readSurfer 8 s args vX5_readSurfer RX5) (hr : meth.sig.returnType = (some .boolean)) (hlo : meth.locks = false) {out : Int32 × PH} {h : PH} {a0 : Nat} (f : F5_readSurfer_0  h a0 = some out) {H : Heap} {locs : List Loc} (I : ph_I D cy b A fl h s H locs) {ls : Array Slot} (hl : lv_has ls 8 [(0, .ref (b + a0))]) : W p l e ({ frames := 4, cells := 0, slots := 0, locals := 86 } : Room) s m args below meth c H locs 0 0 (MQ below (va_Qi (fun (r : Int32) (u : PH) => (r, u) = out) (ph_B D cy b A fl) A) args s 0 0 A) (F0 m 0 ls []) := by
  unfold F5_readSurfer_0 at f
  refine lv_aload_n S.1 S.2.1 dX5_readSurfer_0 rfl (lv_at hl 0 rfl) ?_
  obtain ⟨r1, e2, f⟩ := ob f
  refine o_gR S lf5_readSurfer_9 I e2 dX5_readSurfer_1 ?_
  obtain ⟨r3, e4, f⟩ := ob f
  refine o_gR S lf5_readSurfer_121 I e4 dX5_readSurfer_4 ?_
  obtain ⟨v5, e6, f⟩ := ob f
  refine o_gI S lf5_readSurfer_125 I e6 dX5_readSurfer_7 ?_
  refine lv_iconst (v := 5) S.1 S.2.1 dX5_readSurfer_10 (by decide) ?_
  refine lv_icmp_lt (tgt := 20) S.1 S.2.1 dX5_readSurfer_11 (by decide) (fun q7 => ?_) (fun q7 => ?_)
  · have f := (if_pos q7).symm.trans f
    refine lv_aload_n S.1 S.2.1 dX5_readSurfer_20 rfl (lv_at hl 0 rfl) ?_
    refine lv_iconst (v := 1) S.1 S.2.1 dX5_readSurfer_21 (by decide) ?_
    obtain ⟨h8, e9, f⟩ := ob f
    refine o_pZ S lp5_readSurfer_41 I e9 dX5_readSurfer_22 (fun H locs I => ?_)
    refine lv_aload_n S.1 S.2.1 dX5_readSurfer_25 rfl (lv_at hl 0 rfl) ?_
    obtain ⟨r10, e11, f⟩ := ob f
    refine o_gR S lf5_readSurfer_18 I e11 dX5_readSurfer_26 ?_
    obtain ⟨o12, e13, f⟩ := ob f
    refine o_Vv S (As := []) (rest := []) (ci := 7) (M7_advance l D cy b A fl e13) gX5_readSurfer_X7_advance rfl rfl rfl cd7_advance ⟨Nat.le_of_ble_eq_true rfl, Nat.le_of_ble_eq_true rfl⟩ I (gd e13).1 clX7 rfl rfl hl.1 rfl (Nat.le_of_ble_eq_true rfl) dX5_readSurfer_29 ⟨Nat.le_of_ble_eq_true rfl, Nat.le_of_ble_eq_true rfl⟩ (fun H locs I => ?_)
    refine lv_aload_n S.1 S.2.1 dX5_readSurfer_32 rfl (lv_at hl 0 rfl) ?_
    obtain ⟨r14, e15, f⟩ := ob f
    refine o_gR S lf5_readSurfer_18 I e15 dX5_readSurfer_33 ?_
    obtain ⟨v16, e17, f⟩ := ob f
    refine o_gI S lf5_readSurfer_52 I e17 dX5_readSurfer_36 ?_
    refine lv_bipush (v := 24) S.1 S.2.1 dX5_readSurfer_39 (by decide) ?_
    refine lv_icmp_eq (tgt := 50) S.1 S.2.1 dX5_readSurfer_41 (by decide) (fun q18 => ?_) (fun q18 => ?_)
    · have f := (if_pos q18).symm.trans f
      refine lv_aload_n S.1 S.2.1 dX5_readSurfer_50 rfl (lv_at hl 0 rfl) ?_
      obtain ⟨r19, e20, f⟩ := ob f
      refine o_gR S lf5_readSurfer_9 I e20 dX5_readSurfer_51 ?_
      obtain ⟨r21, e22, f⟩ := ob f
      refine o_gR S lf5_readSurfer_121 I e22 dX5_readSurfer_54 ?_
      refine lv_aload_n S.1 S.2.1 dX5_readSurfer_57 rfl (lv_at hl 0 rfl) ?_
      obtain ⟨r23, e24, f⟩ := ob f
      refine o_gR S lf5_readSurfer_18 I e24 dX5_readSurfer_58 ?_
      obtain ⟨v25, e26, f⟩ := ob f
      refine o_gI S lf5_readSurfer_97 I e26 dX5_readSurfer_61 ?_
      obtain ⟨o27, e28, f⟩ := ob f
      refine o_Vi S (As := [.int v25]) (rest := []) (ci := 1) (M1_hasName l D cy b A fl e28) gX5_readSurfer_X1_hasName rfl rfl rfl cd1_hasName ⟨Nat.le_of_ble_eq_true rfl, Nat.le_of_ble_eq_true rfl⟩ I (gd e28).1 clX1 rfl rfl hl.1 rfl (Nat.le_of_ble_eq_true rfl) dX5_readSurfer_64 ⟨Nat.le_of_ble_eq_true rfl, Nat.le_of_ble_eq_true rfl⟩ (fun H locs I => ?_)
      refine lv_if_eq (tgt := 76) S.1 S.2.1 dX5_readSurfer_67 (by decide) (fun q29 => ?_) (fun q29 => ?_)
      · have f := (if_pos q29).symm.trans f
        refine lv_aload_n S.1 S.2.1 dX5_readSurfer_76 rfl (lv_at hl 0 rfl) ?_
        obtain ⟨r30, e31, f⟩ := ob f
        refine o_gR S lf5_readSurfer_18 I e31 dX5_readSurfer_77 ?_
        obtain ⟨v32, e33, f⟩ := ob f
        refine o_gI S lf5_readSurfer_97 I e33 dX5_readSurfer_80 ?_
        refine lv_istore_n (lv' := [(1, .int v32), (0, .ref (b + a0))]) S.1 S.2.1 dX5_readSurfer_83 rfl hl (by decide) rfl (fun ls hl => ?_)
        refine lv_aload_n S.1 S.2.1 dX5_readSurfer_84 rfl (lv_at hl 1 rfl) ?_
        refine lv_iconst (v := 0) S.1 S.2.1 dX5_readSurfer_85 (by decide) ?_
        refine lv_aload_n S.1 S.2.1 dX5_readSurfer_86 rfl (lv_at hl 1 rfl) ?_
        obtain ⟨r34, e35, f⟩ := ob f
        refine o_gR S lf5_readSurfer_9 I e35 dX5_readSurfer_87 ?_
        obtain ⟨v36, e37, f⟩ := ob f
        refine o_gI S lf5_readSurfer_106 I e37 dX5_readSurfer_90 ?_
        refine lv_iconst (v := 1) S.1 S.2.1 dX5_readSurfer_93 (by decide) ?_
        refine lv_isub S.1 S.2.1 dX5_readSurfer_94 ?_
        obtain ⟨o38, e39, f⟩ := ob f
        refine o_Vi S (As := [.int 0, .int (v36 - 1)]) (rest := []) (ci := 5) (M5_numberIn l D cy b A fl e39) gX5_readSurfer_X5_numberIn rfl rfl rfl cd5_numberIn ⟨Nat.le_of_ble_eq_true rfl, Nat.le_of_ble_eq_true rfl⟩ I (gd e39).1 clX5 rfl rfl hl.1 rfl (Nat.le_of_ble_eq_true rfl) dX5_readSurfer_95 ⟨Nat.le_of_ble_eq_true rfl, Nat.le_of_ble_eq_true rfl⟩ (fun H locs I => ?_)
        refine lv_istore_n (lv' := [(2, .int o38.1), (1, .int v32), (0, .ref (b + a0))]) S.1 S.2.1 dX5_readSurfer_98 rfl hl (by decide) rfl (fun ls hl => ?_)
        refine lv_iload_n S.1 S.2.1 dX5_readSurfer_99 rfl (lv_at hl 0 rfl) ?_
        refine lv_iconst (v := (-1)) S.1 S.2.1 dX5_readSurfer_100 (by decide) ?_
        refine lv_icmp_ne (tgt := 108) S.1 S.2.1 dX5_readSurfer_101 (by decide) (fun q40 => ?_) (fun q40 => ?_)
        · have f := (if_neg q40).symm.trans f
          refine lv_aload_n S.1 S.2.1 dX5_readSurfer_108 rfl (lv_at hl 2 rfl) ?_
          refine lv_iconst (v := 0) S.1 S.2.1 dX5_readSurfer_109 (by decide) ?_
          refine lv_aload_n S.1 S.2.1 dX5_readSurfer_110 rfl (lv_at hl 2 rfl) ?_
          obtain ⟨r41, e42, f⟩ := ob f
          refine o_gR S lf5_readSurfer_9 I e42 dX5_readSurfer_111 ?_
          obtain ⟨v43, e44, f⟩ := ob f
          refine o_gI S lf5_readSurfer_109 I e44 dX5_readSurfer_114 ?_
          refine lv_iconst (v := 1) S.1 S.2.1 dX5_readSurfer_117 (by decide) ?_
          refine lv_isub S.1 S.2.1 dX5_readSurfer_118 ?_
          obtain ⟨o45, e46, f⟩ := ob f
          refine o_Vi S (As := [.int 0, .int (v43 - 1)]) (rest := []) (ci := 5) (M5_numberIn l D cy b A fl e46) gX5_readSurfer_X5_numberIn rfl rfl rfl cd5_numberIn ⟨Nat.le_of_ble_eq_true rfl, Nat.le_of_ble_eq_true rfl⟩ I (gd e46).1 clX5 rfl rfl hl.1 rfl (Nat.le_of_ble_eq_true rfl) dX5_readSurfer_119 ⟨Nat.le_of_ble_eq_true rfl, Nat.le_of_ble_eq_true rfl⟩ (fun H locs I => ?_)
          exact T5_readSurfer_122 S hr hlo  f I (lv_sub hl [2, 1, 0] rfl)
        · have f := (if_pos q40).symm.trans f
          refine lv_iconst (v := (-1)) S.1 S.2.1 dX5_readSurfer_104 (by decide) ?_
          refine lv_goto (tgt := 122) S.1 S.2.1 dX5_readSurfer_105 (by decide) ?_
          exact T5_readSurfer_122 S hr hlo  f I (lv_sub hl [2, 1, 0] rfl)
      · have f := (if_neg q29).symm.trans f
        refine lv_aload_n S.1 S.2.1 dX5_readSurfer_70 rfl (lv_at hl 0 rfl) ?_
        refine lv_iconst (v := 3) S.1 S.2.1 dX5_readSurfer_71 (by decide) ?_
        obtain ⟨o47, e48, f⟩ := ob f
        refine o_Vi S (As := [.int 3]) (rest := []) (ci := 5) (M5_refuse l D cy b A fl e48) gX5_readSurfer_X5_refuse rfl rfl rfl cd5_refuse ⟨Nat.le_of_ble_eq_true rfl, Nat.le_of_ble_eq_true rfl⟩ I (gd e48).1 clX5 rfl rfl hl.1 rfl (Nat.le_of_ble_eq_true rfl) dX5_readSurfer_72 ⟨Nat.le_of_ble_eq_true rfl, Nat.le_of_ble_eq_true rfl⟩ (fun H locs I => ?_)
        exact o_zret S hr hlo I f dX5_readSurfer_75
    · have f := (if_neg q18).symm.trans f
      refine lv_aload_n S.1 S.2.1 dX5_readSurfer_44 rfl (lv_at hl 0 rfl) ?_
      refine lv_iconst (v := 1) S.1 S.2.1 dX5_readSurfer_45 (by decide) ?_
      obtain ⟨o49, e50, f⟩ := ob f
      refine o_Vi S (As := [.int 1]) (rest := []) (ci := 5) (M5_refuse l D cy b A fl e50) gX5_readSurfer_X5_refuse rfl rfl rfl cd5_refuse ⟨Nat.le_of_ble_eq_true rfl, Nat.le_of_ble_eq_true rfl⟩ I (gd e50).1 clX5 rfl rfl hl.1 rfl (Nat.le_of_ble_eq_true rfl) dX5_readSurfer_46 ⟨Nat.le_of_ble_eq_true rfl, Nat.le_of_ble_eq_true rfl⟩ (fun H locs I => ?_)
      exact o_zret S hr hlo I f dX5_readSurfer_49
  · have f := (if_neg q7).symm.trans f
    refine lv_aload_n S.1 S.2.1 dX5_readSurfer_14 rfl (lv_at hl 0 rfl) ?_
    refine lv_iconst (v := 2) S.1 S.2.1 dX5_readSurfer_15 (by decide) ?_
    obtain ⟨o51, e52, f⟩ := ob f
    refine o_Vi S (As := [.int 2]) (rest := []) (ci := 5) (M5_refuse l D cy b A fl e52) gX5_readSurfer_X5_refuse rfl rfl rfl cd5_refuse ⟨Nat.le_of_ble_eq_true rfl, Nat.le_of_ble_eq_true rfl⟩ I (gd e52).1 clX5 rfl rfl hl.1 rfl (Nat.le_of_ble_eq_true rfl) dX5_readSurfer_16 ⟨Nat.le_of_ble_eq_true rfl, Nat.le_of_ble_eq_true rfl⟩ (fun H locs I => ?_)
    exact o_zret S hr hlo I f dX5_readSurfer_19
theorem M5_readSurfer (l : Launch) (D : va_G) (cy : Nat → ClassId) (b : Nat) (A : Nat → Prop) (fl : Bool) {h : PH} {a0 : Nat} {out : Int32 × PH} (f : F5_readSurfer h a0 = some out) : Met l yX5_readSurfer vX5_readSurfer ({ frames := 4, cells := 0, slots := 0, locals := 86 } : Room) (va_Pc [.ref (b + a0)] (ph_B D cy b A fl h)) (va_Qi (fun (r : Int32) (u : PH) => (r, u) = out) (ph_B D cy b A fl) A) 0 0 A :=
  o_met (by decide) rfl (Nat.le_of_ble_eq_true rfl) rfl (fun p e s m below meth c S hr hlo hnm ls hl I => T5_readSurfer_0 S hr hlo ((gd f).2) I (lv_sub hl [0] rfl))
def vX10_firstMinute : List Cond := .code yX10_firstMinute cX10_firstMinute 2 (some .int) :: TB
theorem lf10_firstMinute_18 : Fl vX10_firstMinute RX10 18 10 4 := ⟨RX10, TX10, 8, rfl, by decide, (fun w h9 => List.mem_cons_of_mem _ (wC_wsX100 w h9)), (List.mem_cons_of_mem _ wT_4_10)⟩
theorem lf10_firstMinute_9 : Fl vX10_firstMinute RX10 9 10 2 := ⟨RX10, TX10, 8, rfl, by decide, (fun w h9 => List.mem_cons_of_mem _ (wC_wsX100 w h9)), (List.mem_cons_of_mem _ wT_4_8)⟩
theorem cd10_firstMinute : Cd yX10_firstMinute 1 := ⟨by decide, by decide, by decide +kernel⟩
set_option maxHeartbeats 4000000 in
set_option maxRecDepth 100000 in
theorem T10_firstMinute_0 (S : CallFix p m c cX10_firstMinute 2 s args vX10_firstMinute RX10) (hr : meth.sig.returnType = (some .int)) (hlo : meth.locks = false) {out : Int32 × PH} {h : PH} {a0 : Nat} {x1 : Int32} (f : F10_firstMinute_0  h a0 x1 = some out) {H : Heap} {locs : List Loc} (I : ph_I D cy b A fl h s H locs) {ls : Array Slot} (hl : lv_has ls 2 [(0, .ref (b + a0)), (1, .int x1)]) : W p l e ({ frames := 0, cells := 0, slots := 0, locals := 0 } : Room) s m args below meth c H locs 0 0 (MQ below (va_Qi (fun (r : Int32) (u : PH) => (r, u) = out) (ph_B D cy b A fl) A) args s 0 0 A) (F0 m 0 ls []) := by
  unfold F10_firstMinute_0 at f
  refine lv_aload_n S.1 S.2.1 dX10_firstMinute_0 rfl (lv_at hl 0 rfl) ?_
  obtain ⟨r1, e2, f⟩ := ob f
  refine o_gR S lf10_firstMinute_18 I e2 dX10_firstMinute_1 ?_
  refine lv_aload_n S.1 S.2.1 dX10_firstMinute_4 rfl (lv_at hl 0 rfl) ?_
  obtain ⟨r3, e4, f⟩ := ob f
  refine o_gR S lf10_firstMinute_9 I e4 dX10_firstMinute_5 ?_
  refine lv_iload_n S.1 S.2.1 dX10_firstMinute_8 rfl (lv_at hl 1 rfl) ?_
  obtain ⟨v6, e5, f⟩ := ob f
  refine o_iald S I e5 dX10_firstMinute_9 ?_
  obtain ⟨v8, e7, f⟩ := ob f
  refine o_iald S I e7 dX10_firstMinute_10 ?_
  exact o_iret S hr hlo I f dX10_firstMinute_11
theorem M10_firstMinute (l : Launch) (D : va_G) (cy : Nat → ClassId) (b : Nat) (A : Nat → Prop) (fl : Bool) {h : PH} {a0 : Nat} {x1 : Int32} {out : Int32 × PH} (f : F10_firstMinute h a0 x1 = some out) : Met l yX10_firstMinute vX10_firstMinute ({ frames := 0, cells := 0, slots := 0, locals := 0 } : Room) (va_Pc [.ref (b + a0), .int x1] (ph_B D cy b A fl h)) (va_Qi (fun (r : Int32) (u : PH) => (r, u) = out) (ph_B D cy b A fl) A) 0 0 A :=
  o_met (by decide) rfl (Nat.le_of_ble_eq_true rfl) rfl (fun p e s m below meth c S hr hlo hnm ls hl I => T10_firstMinute_0 S hr hlo ((gd f).2) I (lv_sub hl [0, 1] rfl))
def vX10_lastMinute : List Cond := .code yX10_lastMinute cX10_lastMinute 2 (some .int) :: TB
theorem gX10_lastMinute_X10_firstMinute : GoodIn vX10_lastMinute (wsV RX10 37 RX10 yX10_firstMinute vX10_firstMinute) := gV_of wT_20_2 wT_20_3 wT_20_4 wT_3_9 wT_20_5
theorem lf10_lastMinute_15 : Fl vX10_lastMinute RX10 15 10 3 := ⟨RX10, TX10, 8, rfl, by decide, (fun w h9 => List.mem_cons_of_mem _ (wC_wsX100 w h9)), (List.mem_cons_of_mem _ wT_4_9)⟩
theorem cd10_lastMinute : Cd yX10_lastMinute 1 := ⟨by decide, by decide, by decide +kernel⟩
set_option maxHeartbeats 4000000 in
set_option maxRecDepth 100000 in
theorem T10_lastMinute_0 (S : CallFix p m c cX10_lastMinute 2 s args vX10_lastMinute RX10) (hr : meth.sig.returnType = (some .int)) (hlo : meth.locks = false) {out : Int32 × PH} {h : PH} {a0 : Nat} {x1 : Int32} (f : F10_lastMinute_0  h a0 x1 = some out) {H : Heap} {locs : List Loc} (I : ph_I D cy b A fl h s H locs) {ls : Array Slot} (hl : lv_has ls 2 [(0, .ref (b + a0)), (1, .int x1)]) : W p l e ({ frames := 1, cells := 0, slots := 0, locals := 21 } : Room) s m args below meth c H locs 0 0 (MQ below (va_Qi (fun (r : Int32) (u : PH) => (r, u) = out) (ph_B D cy b A fl) A) args s 0 0 A) (F0 m 0 ls []) := by
  unfold F10_lastMinute_0 at f
  refine lv_aload_n S.1 S.2.1 dX10_lastMinute_0 rfl (lv_at hl 0 rfl) ?_
  refine lv_iload_n S.1 S.2.1 dX10_lastMinute_1 rfl (lv_at hl 1 rfl) ?_
  obtain ⟨o1, e2, f⟩ := ob f
  refine o_Vi S (As := [.int x1]) (rest := []) (ci := 10) (M10_firstMinute l D cy b A fl e2) gX10_lastMinute_X10_firstMinute rfl rfl rfl cd10_firstMinute ⟨Nat.le_of_ble_eq_true rfl, Nat.le_of_ble_eq_true rfl⟩ I (gd e2).1 clX10 rfl rfl hl.1 rfl (Nat.le_of_ble_eq_true rfl) dX10_lastMinute_2 ⟨Nat.le_of_ble_eq_true rfl, Nat.le_of_ble_eq_true rfl⟩ (fun H locs I => ?_)
  refine lv_aload_n S.1 S.2.1 dX10_lastMinute_5 rfl (lv_at hl 0 rfl) ?_
  obtain ⟨r3, e4, f⟩ := ob f
  refine o_gR S lf10_lastMinute_15 I e4 dX10_lastMinute_6 ?_
  refine lv_iload_n S.1 S.2.1 dX10_lastMinute_9 rfl (lv_at hl 1 rfl) ?_
  obtain ⟨v6, e5, f⟩ := ob f
  refine o_iald S I e5 dX10_lastMinute_10 ?_
  refine lv_iadd S.1 S.2.1 dX10_lastMinute_11 ?_
  refine lv_iconst (v := 1) S.1 S.2.1 dX10_lastMinute_12 (by decide) ?_
  refine lv_isub S.1 S.2.1 dX10_lastMinute_13 ?_
  exact o_iret S hr hlo I f dX10_lastMinute_14
theorem M10_lastMinute (l : Launch) (D : va_G) (cy : Nat → ClassId) (b : Nat) (A : Nat → Prop) (fl : Bool) {h : PH} {a0 : Nat} {x1 : Int32} {out : Int32 × PH} (f : F10_lastMinute h a0 x1 = some out) : Met l yX10_lastMinute vX10_lastMinute ({ frames := 1, cells := 0, slots := 0, locals := 21 } : Room) (va_Pc [.ref (b + a0), .int x1] (ph_B D cy b A fl h)) (va_Qi (fun (r : Int32) (u : PH) => (r, u) = out) (ph_B D cy b A fl) A) 0 0 A :=
  o_met (by decide) rfl (Nat.le_of_ble_eq_true rfl) rfl (fun p e s m below meth c S hr hlo hnm ls hl I => T10_lastMinute_0 S hr hlo ((gd f).2) I (lv_sub hl [0, 1] rfl))
def vX10_beginSet : List Cond := .code yX10_beginSet cX10_beginSet 1 none :: TB
theorem lf10_beginSet_30 : Fl vX10_beginSet RX10 30 10 0 := ⟨RX10, TX10, 8, rfl, by decide, (fun w h9 => List.mem_cons_of_mem _ (wC_wsX100 w h9)), (List.mem_cons_of_mem _ wT_15_3)⟩
theorem lf10_beginSet_9 : Fl vX10_beginSet RX10 9 10 2 := ⟨RX10, TX10, 8, rfl, by decide, (fun w h9 => List.mem_cons_of_mem _ (wC_wsX100 w h9)), (List.mem_cons_of_mem _ wT_4_8)⟩
theorem lf10_beginSet_34 : Fl vX10_beginSet RX10 34 10 1 := ⟨RX10, TX10, 8, rfl, by decide, (fun w h9 => List.mem_cons_of_mem _ (wC_wsX100 w h9)), (List.mem_cons_of_mem _ wT_15_4)⟩
theorem lf10_beginSet_15 : Fl vX10_beginSet RX10 15 10 3 := ⟨RX10, TX10, 8, rfl, by decide, (fun w h9 => List.mem_cons_of_mem _ (wC_wsX100 w h9)), (List.mem_cons_of_mem _ wT_4_9)⟩
theorem lp10_beginSet_30 : Pl vX10_beginSet RX10 30 10 0 .int := ⟨RX10, TX10, 8, tyX10, rfl, by decide, (fun w h9 => List.mem_cons_of_mem _ (wC_wsX100 w h9)), (List.mem_cons_of_mem _ wT_15_3), tyX10_ok, nmX10, rfl, rfl⟩
theorem cd10_beginSet : Cd yX10_beginSet 0 := ⟨by decide, by decide, by decide +kernel⟩
set_option maxHeartbeats 4000000 in
set_option maxRecDepth 100000 in
theorem T10_beginSet_0 (S : CallFix p m c cX10_beginSet 1 s args vX10_beginSet RX10) (hr : meth.sig.returnType = none) (hlo : meth.locks = false) {out : PH} {h : PH} {a0 : Nat} (f : F10_beginSet_0  h a0 = some out) {H : Heap} {locs : List Loc} (I : ph_I D cy b A fl h s H locs) {ls : Array Slot} (hl : lv_has ls 1 [(0, .ref (b + a0))]) : W p l e ({ frames := 0, cells := 0, slots := 0, locals := 0 } : Room) s m args below meth c H locs 0 0 (MQ below (va_Qv (fun (u : PH) => u = out) (ph_B D cy b A fl) A) args s 0 0 A) (F0 m 0 ls []) := by
  unfold F10_beginSet_0 at f
  refine lv_aload_n S.1 S.2.1 dX10_beginSet_0 rfl (lv_at hl 0 rfl) ?_
  obtain ⟨v1, e2, f⟩ := ob f
  refine o_gI S lf10_beginSet_30 I e2 dX10_beginSet_1 ?_
  refine lv_iconst (v := 4) S.1 S.2.1 dX10_beginSet_4 (by decide) ?_
  refine lv_icmp_ge (tgt := 41) S.1 S.2.1 dX10_beginSet_5 (by decide) (fun q3 => ?_) (fun q3 => ?_)
  · have f := (if_pos q3).symm.trans f
    exact o_vret S hr hlo I f dX10_beginSet_41
  · have f := (if_neg q3).symm.trans f
    refine lv_aload_n S.1 S.2.1 dX10_beginSet_8 rfl (lv_at hl 0 rfl) ?_
    obtain ⟨r4, e5, f⟩ := ob f
    refine o_gR S lf10_beginSet_9 I e5 dX10_beginSet_9 ?_
    refine lv_aload_n S.1 S.2.1 dX10_beginSet_12 rfl (lv_at hl 0 rfl) ?_
    obtain ⟨v6, e7, f⟩ := ob f
    refine o_gI S lf10_beginSet_30 I e7 dX10_beginSet_13 ?_
    refine lv_aload_n S.1 S.2.1 dX10_beginSet_16 rfl (lv_at hl 0 rfl) ?_
    obtain ⟨v8, e9, f⟩ := ob f
    refine o_gI S lf10_beginSet_34 I e9 dX10_beginSet_17 ?_
    obtain ⟨h11, e10, f⟩ := ob f
    refine o_iast S I e10 dX10_beginSet_20 (fun H locs I => ?_)
    refine lv_aload_n S.1 S.2.1 dX10_beginSet_21 rfl (lv_at hl 0 rfl) ?_
    obtain ⟨r12, e13, f⟩ := ob f
    refine o_gR S lf10_beginSet_15 I e13 dX10_beginSet_22 ?_
    refine lv_aload_n S.1 S.2.1 dX10_beginSet_25 rfl (lv_at hl 0 rfl) ?_
    obtain ⟨v14, e15, f⟩ := ob f
    refine o_gI S lf10_beginSet_30 I e15 dX10_beginSet_26 ?_
    refine lv_iconst (v := 0) S.1 S.2.1 dX10_beginSet_29 (by decide) ?_
    obtain ⟨h17, e16, f⟩ := ob f
    refine o_iast S I e16 dX10_beginSet_30 (fun H locs I => ?_)
    refine lv_aload_n S.1 S.2.1 dX10_beginSet_31 rfl (lv_at hl 0 rfl) ?_
    refine lv_dup S.1 S.2.1 dX10_beginSet_32 rfl ?_
    obtain ⟨v18, e19, f⟩ := ob f
    refine o_gI S lf10_beginSet_30 I e19 dX10_beginSet_33 ?_
    refine lv_iconst (v := 1) S.1 S.2.1 dX10_beginSet_36 (by decide) ?_
    refine lv_iadd S.1 S.2.1 dX10_beginSet_37 ?_
    obtain ⟨h20, e21, f⟩ := ob f
    refine o_pI S lp10_beginSet_30 I e21 dX10_beginSet_38 (fun H locs I => ?_)
    exact o_vret S hr hlo I f dX10_beginSet_41
theorem M10_beginSet (l : Launch) (D : va_G) (cy : Nat → ClassId) (b : Nat) (A : Nat → Prop) (fl : Bool) {h : PH} {a0 : Nat} {out : PH} (f : F10_beginSet h a0 = some out) : Met l yX10_beginSet vX10_beginSet ({ frames := 0, cells := 0, slots := 0, locals := 0 } : Room) (va_Pc [.ref (b + a0)] (ph_B D cy b A fl h)) (va_Qv (fun (u : PH) => u = out) (ph_B D cy b A fl) A) 0 0 A :=
  o_met (by decide) rfl (Nat.le_of_ble_eq_true rfl) rfl (fun p e s m below meth c S hr hlo hnm ls hl I => T10_beginSet_0 S hr hlo ((gd f).2) I (lv_sub hl [0] rfl))
def vX10_add : List Cond := .code yX10_add cX10_add 3 none :: TB
theorem lf10_add_34 : Fl vX10_add RX10 34 10 1 := ⟨RX10, TX10, 8, rfl, by decide, (fun w h9 => List.mem_cons_of_mem _ (wC_wsX100 w h9)), (List.mem_cons_of_mem _ wT_15_4)⟩
theorem lf10_add_30 : Fl vX10_add RX10 30 10 0 := ⟨RX10, TX10, 8, rfl, by decide, (fun w h9 => List.mem_cons_of_mem _ (wC_wsX100 w h9)), (List.mem_cons_of_mem _ wT_15_3)⟩
theorem lf10_add_15 : Fl vX10_add RX10 15 10 3 := ⟨RX10, TX10, 8, rfl, by decide, (fun w h9 => List.mem_cons_of_mem _ (wC_wsX100 w h9)), (List.mem_cons_of_mem _ wT_4_9)⟩
theorem lf10_add_18 : Fl vX10_add RX10 18 10 4 := ⟨RX10, TX10, 8, rfl, by decide, (fun w h9 => List.mem_cons_of_mem _ (wC_wsX100 w h9)), (List.mem_cons_of_mem _ wT_4_10)⟩
theorem lf10_add_21 : Fl vX10_add RX10 21 10 5 := ⟨RX10, TX10, 8, rfl, by decide, (fun w h9 => List.mem_cons_of_mem _ (wC_wsX100 w h9)), (List.mem_cons_of_mem _ wT_4_11)⟩
theorem lf10_add_24 : Fl vX10_add RX10 24 10 6 := ⟨RX10, TX10, 8, rfl, by decide, (fun w h9 => List.mem_cons_of_mem _ (wC_wsX100 w h9)), (List.mem_cons_of_mem _ wT_4_12)⟩
theorem lf10_add_27 : Fl vX10_add RX10 27 10 7 := ⟨RX10, TX10, 8, rfl, by decide, (fun w h9 => List.mem_cons_of_mem _ (wC_wsX100 w h9)), (List.mem_cons_of_mem _ wT_4_13)⟩
theorem lp10_add_34 : Pl vX10_add RX10 34 10 1 .int := ⟨RX10, TX10, 8, tyX10, rfl, by decide, (fun w h9 => List.mem_cons_of_mem _ (wC_wsX100 w h9)), (List.mem_cons_of_mem _ wT_15_4), tyX10_ok, nmX10, rfl, rfl⟩
theorem cd10_add : Cd yX10_add 2 := ⟨by decide, by decide, by decide +kernel⟩
set_option maxHeartbeats 4000000 in
set_option maxRecDepth 100000 in
theorem T10_add_0 (S : CallFix p m c cX10_add 3 s args vX10_add RX10) (hr : meth.sig.returnType = none) (hlo : meth.locks = false) {out : PH} {h : PH} {a0 : Nat} {x1 : Int32} {x2 : Int32} (f : F10_add_0  h a0 x1 x2 = some out) {H : Heap} {locs : List Loc} (I : ph_I D cy b A fl h s H locs) {ls : Array Slot} (hl : lv_has ls 3 [(0, .ref (b + a0)), (1, .int x1), (2, .int x2)]) : W p l e ({ frames := 0, cells := 0, slots := 0, locals := 0 } : Room) s m args below meth c H locs 0 0 (MQ below (va_Qv (fun (u : PH) => u = out) (ph_B D cy b A fl) A) args s 0 0 A) (F0 m 0 ls []) := by
  unfold F10_add_0 at f
  refine lv_aload_n S.1 S.2.1 dX10_add_0 rfl (lv_at hl 0 rfl) ?_
  obtain ⟨v1, e2, f⟩ := ob f
  refine o_gI S lf10_add_34 I e2 dX10_add_1 ?_
  refine lv_bipush (v := 28) S.1 S.2.1 dX10_add_4 (by decide) ?_
  refine lv_icmp_ge (tgt := 17) S.1 S.2.1 dX10_add_6 (by decide) (fun q3 => ?_) (fun q3 => ?_)
  · have f := (if_pos q3).symm.trans f
    exact o_vret S hr hlo I f dX10_add_17
  · have f := (if_neg q3).symm.trans f
    refine lv_aload_n S.1 S.2.1 dX10_add_9 rfl (lv_at hl 0 rfl) ?_
    obtain ⟨v4, e5, f⟩ := ob f
    refine o_gI S lf10_add_30 I e5 dX10_add_10 ?_
    refine lv_iconst (v := 1) S.1 S.2.1 dX10_add_13 (by decide) ?_
    refine lv_icmp_ge (tgt := 18) S.1 S.2.1 dX10_add_14 (by decide) (fun q6 => ?_) (fun q6 => ?_)
    · have f := (if_pos q6).symm.trans f
      refine lv_aload_n S.1 S.2.1 dX10_add_18 rfl (lv_at hl 0 rfl) ?_
      obtain ⟨r7, e8, f⟩ := ob f
      refine o_gR S lf10_add_15 I e8 dX10_add_19 ?_
      refine lv_aload_n S.1 S.2.1 dX10_add_22 rfl (lv_at hl 0 rfl) ?_
      obtain ⟨v9, e10, f⟩ := ob f
      refine o_gI S lf10_add_30 I e10 dX10_add_23 ?_
      refine lv_iconst (v := 1) S.1 S.2.1 dX10_add_26 (by decide) ?_
      refine lv_isub S.1 S.2.1 dX10_add_27 ?_
      refine lv_dup2_11 S.1 S.2.1 dX10_add_28 rfl rfl ?_
      obtain ⟨v12, e11, f⟩ := ob f
      refine o_iald S I e11 dX10_add_29 ?_
      refine lv_iconst (v := 1) S.1 S.2.1 dX10_add_30 (by decide) ?_
      refine lv_iadd S.1 S.2.1 dX10_add_31 ?_
      obtain ⟨h14, e13, f⟩ := ob f
      refine o_iast S I e13 dX10_add_32 (fun H locs I => ?_)
      refine lv_aload_n S.1 S.2.1 dX10_add_33 rfl (lv_at hl 0 rfl) ?_
      obtain ⟨r15, e16, f⟩ := ob f
      refine o_gR S lf10_add_18 I e16 dX10_add_34 ?_
      refine lv_aload_n S.1 S.2.1 dX10_add_37 rfl (lv_at hl 0 rfl) ?_
      obtain ⟨v17, e18, f⟩ := ob f
      refine o_gI S lf10_add_34 I e18 dX10_add_38 ?_
      refine lv_iload_n S.1 S.2.1 dX10_add_41 rfl (lv_at hl 1 rfl) ?_
      obtain ⟨h20, e19, f⟩ := ob f
      refine o_iast S I e19 dX10_add_42 (fun H locs I => ?_)
      refine lv_aload_n S.1 S.2.1 dX10_add_43 rfl (lv_at hl 0 rfl) ?_
      obtain ⟨r21, e22, f⟩ := ob f
      refine o_gR S lf10_add_21 I e22 dX10_add_44 ?_
      refine lv_aload_n S.1 S.2.1 dX10_add_47 rfl (lv_at hl 0 rfl) ?_
      obtain ⟨v23, e24, f⟩ := ob f
      refine o_gI S lf10_add_34 I e24 dX10_add_48 ?_
      refine lv_iload_n S.1 S.2.1 dX10_add_51 rfl (lv_at hl 2 rfl) ?_
      obtain ⟨h26, e25, f⟩ := ob f
      refine o_iast S I e25 dX10_add_52 (fun H locs I => ?_)
      refine lv_aload_n S.1 S.2.1 dX10_add_53 rfl (lv_at hl 0 rfl) ?_
      obtain ⟨r27, e28, f⟩ := ob f
      refine o_gR S lf10_add_24 I e28 dX10_add_54 ?_
      refine lv_aload_n S.1 S.2.1 dX10_add_57 rfl (lv_at hl 0 rfl) ?_
      obtain ⟨v29, e30, f⟩ := ob f
      refine o_gI S lf10_add_34 I e30 dX10_add_58 ?_
      refine lv_aload_n S.1 S.2.1 dX10_add_61 rfl (lv_at hl 0 rfl) ?_
      obtain ⟨v31, e32, f⟩ := ob f
      refine o_gI S lf10_add_30 I e32 dX10_add_62 ?_
      refine lv_iconst (v := 1) S.1 S.2.1 dX10_add_65 (by decide) ?_
      refine lv_isub S.1 S.2.1 dX10_add_66 ?_
      obtain ⟨h34, e33, f⟩ := ob f
      refine o_iast S I e33 dX10_add_67 (fun H locs I => ?_)
      refine lv_aload_n S.1 S.2.1 dX10_add_68 rfl (lv_at hl 0 rfl) ?_
      obtain ⟨r35, e36, f⟩ := ob f
      refine o_gR S lf10_add_27 I e36 dX10_add_69 ?_
      refine lv_aload_n S.1 S.2.1 dX10_add_72 rfl (lv_at hl 0 rfl) ?_
      obtain ⟨v37, e38, f⟩ := ob f
      refine o_gI S lf10_add_34 I e38 dX10_add_73 ?_
      refine lv_aload_n S.1 S.2.1 dX10_add_76 rfl (lv_at hl 0 rfl) ?_
      obtain ⟨r39, e40, f⟩ := ob f
      refine o_gR S lf10_add_15 I e40 dX10_add_77 ?_
      refine lv_aload_n S.1 S.2.1 dX10_add_80 rfl (lv_at hl 0 rfl) ?_
      obtain ⟨v41, e42, f⟩ := ob f
      refine o_gI S lf10_add_30 I e42 dX10_add_81 ?_
      refine lv_iconst (v := 1) S.1 S.2.1 dX10_add_84 (by decide) ?_
      refine lv_isub S.1 S.2.1 dX10_add_85 ?_
      obtain ⟨v44, e43, f⟩ := ob f
      refine o_iald S I e43 dX10_add_86 ?_
      obtain ⟨h46, e45, f⟩ := ob f
      refine o_iast S I e45 dX10_add_87 (fun H locs I => ?_)
      refine lv_aload_n S.1 S.2.1 dX10_add_88 rfl (lv_at hl 0 rfl) ?_
      refine lv_dup S.1 S.2.1 dX10_add_89 rfl ?_
      obtain ⟨v47, e48, f⟩ := ob f
      refine o_gI S lf10_add_34 I e48 dX10_add_90 ?_
      refine lv_iconst (v := 1) S.1 S.2.1 dX10_add_93 (by decide) ?_
      refine lv_iadd S.1 S.2.1 dX10_add_94 ?_
      obtain ⟨h49, e50, f⟩ := ob f
      refine o_pI S lp10_add_34 I e50 dX10_add_95 (fun H locs I => ?_)
      exact o_vret S hr hlo I f dX10_add_98
    · have f := (if_neg q6).symm.trans f
      exact o_vret S hr hlo I f dX10_add_17
theorem M10_add (l : Launch) (D : va_G) (cy : Nat → ClassId) (b : Nat) (A : Nat → Prop) (fl : Bool) {h : PH} {a0 : Nat} {x1 : Int32} {x2 : Int32} {out : PH} (f : F10_add h a0 x1 x2 = some out) : Met l yX10_add vX10_add ({ frames := 0, cells := 0, slots := 0, locals := 0 } : Room) (va_Pc [.ref (b + a0), .int x1, .int x2] (ph_B D cy b A fl h)) (va_Qv (fun (u : PH) => u = out) (ph_B D cy b A fl) A) 0 0 A :=
  o_met (by decide) rfl (Nat.le_of_ble_eq_true rfl) rfl (fun p e s m below meth c S hr hlo hnm ls hl I => T10_add_0 S hr hlo ((gd f).2) I (lv_sub hl [0, 1, 2] rfl))
def vX5_readSet : List Cond := .code yX5_readSet cX5_readSet 5 (some .boolean) :: TB
theorem gX5_readSet_X5_takenNumber : GoodIn vX5_readSet (wsV RX5 93 RX5 yX5_takenNumber vX5_takenNumber) := gV_of wT_18_10 wT_18_11 wT_18_12 wT_1_22 wT_18_13
theorem gX5_readSet_X10_add : GoodIn vX5_readSet (wsV RX5 153 RX10 yX10_add vX10_add) := gV_of wT_20_10 wT_20_11 wT_20_12 wT_3_9 wT_20_13
theorem gX5_readSet_X5_refuse : GoodIn vX5_readSet (wsV RX5 89 RX5 yX5_refuse vX5_refuse) := gV_of wT_18_1 wT_18_2 wT_18_3 wT_1_22 wT_18_4
theorem lf5_readSet_18 : Fl vX5_readSet RX5 18 5 0 := ⟨RX5, TX5, 11, rfl, by decide, (fun w h9 => List.mem_cons_of_mem _ (wC_wsX50 w h9)), (List.mem_cons_of_mem _ wT_5_3)⟩
theorem gX5_readSet_X7_advance : GoodIn vX5_readSet (wsV RX5 49 RX7 yX7_advance vX7_advance) := gV_of wT_15_21 wT_15_22 wT_15_23 wT_5_2 wT_16_0
theorem lf5_readSet_52 : Fl vX5_readSet RX5 52 7 4 := ⟨RX7, TX7, 7, rfl, by decide, (fun w h9 => List.mem_cons_of_mem _ (wC_wsX70 w h9)), (List.mem_cons_of_mem _ wT_14_7)⟩
theorem gX5_readSet_X10_beginSet : GoodIn vX5_readSet (wsV RX5 150 RX10 yX10_beginSet vX10_beginSet) := gV_of wT_20_6 wT_20_7 wT_20_8 wT_3_9 wT_20_9
theorem lf5_readSet_9 : Fl vX5_readSet RX5 9 5 10 := ⟨RX5, TX5, 11, rfl, by decide, (fun w h9 => List.mem_cons_of_mem _ (wC_wsX50 w h9)), (List.mem_cons_of_mem _ wT_4_23)⟩
theorem lf5_readSet_137 : Fl vX5_readSet RX5 137 8 5 := ⟨RX8, TX8, 14, rfl, by decide, (fun w h9 => List.mem_cons_of_mem _ (wC_wsX80 w h9)), (List.mem_cons_of_mem _ wT_19_20)⟩
theorem lf5_readSet_141 : Fl vX5_readSet RX5 141 10 0 := ⟨RX10, TX10, 8, rfl, by decide, (fun w h9 => List.mem_cons_of_mem _ (wC_wsX100 w h9)), (List.mem_cons_of_mem _ wT_19_21)⟩
theorem gX5_readSet_X5_numberIn : GoodIn vX5_readSet (wsV RX5 103 RX5 yX5_numberIn vX5_numberIn) := gV_of wT_18_6 wT_18_7 wT_18_8 wT_1_22 wT_18_9
theorem gX5_readSet_X10_lastMinute : GoodIn vX5_readSet (wsV RX5 146 RX10 yX10_lastMinute vX10_lastMinute) := gV_of wT_19_22 wT_19_23 wT_20_0 wT_3_9 wT_20_1
theorem cd5_readSet : Cd yX5_readSet 0 := ⟨by decide, by decide, by decide +kernel⟩
set_option maxHeartbeats 4000000 in
set_option maxRecDepth 100000 in
theorem T5_readSet_101 (S : CallFix p m c cX5_readSet 5 s args vX5_readSet RX5) (hr : meth.sig.returnType = (some .boolean)) (hlo : meth.locks = false) {out : Int32 × PH} {k70 : PH → Nat → Nat → Int32 → Int32 → Option (Int32 × PH)} (hk70 : ∀ {h : PH} {a0 : Nat} {a1 : Nat} {x2 : Int32} {x3 : Int32}, k70 h a0 a1 x2 x3 = some out → ∀ (H : Heap) (locs : List Loc), ph_I D cy b A fl h s H locs → ∀ (ls : Array Slot), lv_has ls 5 [(0, .ref (b + a0)), (1, .ref (b + a1)), (2, .int x2), (3, .int x3)] → W p l e ({ frames := 4, cells := 0, slots := 0, locals := 86 } : Room) s m args below meth c H locs 0 0 (MQ below (va_Qi (fun (r : Int32) (u : PH) => (r, u) = out) (ph_B D cy b A fl) A) args s 0 0 A) (F0 m 70 ls [])) {h : PH} {a0 : Nat} {a1 : Nat} {x2 : Int32} {x3 : Int32} (f : F5_readSet_101 k70 h a0 a1 x2 x3 = some out) {H : Heap} {locs : List Loc} (I : ph_I D cy b A fl h s H locs) {ls : Array Slot} (hl : lv_has ls 5 [(0, .ref (b + a0)), (1, .ref (b + a1)), (2, .int x2), (3, .int x3)]) : W p l e ({ frames := 4, cells := 0, slots := 0, locals := 86 } : Room) s m args below meth c H locs 0 0 (MQ below (va_Qi (fun (r : Int32) (u : PH) => (r, u) = out) (ph_B D cy b A fl) A) args s 0 0 A) (F0 m 101 ls []) := by
  unfold F5_readSet_101 at f
  refine lv_aload_n S.1 S.2.1 dX5_readSet_101 rfl (lv_at hl 0 rfl) ?_
  refine lv_iconst (v := 1) S.1 S.2.1 dX5_readSet_102 (by decide) ?_
  refine lv_bipush (v := 9) S.1 S.2.1 dX5_readSet_103 (by decide) ?_
  obtain ⟨o1, e2, f⟩ := ob f
  refine o_Vi S (As := [.int 1, .int 9]) (rest := []) (ci := 5) (M5_takenNumber l D cy b A fl e2) gX5_readSet_X5_takenNumber rfl rfl rfl cd5_takenNumber ⟨Nat.le_of_ble_eq_true rfl, Nat.le_of_ble_eq_true rfl⟩ I (gd e2).1 clX5 rfl rfl hl.1 rfl (Nat.le_of_ble_eq_true rfl) dX5_readSet_105 ⟨Nat.le_of_ble_eq_true rfl, Nat.le_of_ble_eq_true rfl⟩ (fun H locs I => ?_)
  refine lv_istore (lv' := [(4, .int o1.1), (0, .ref (b + a0)), (1, .ref (b + a1)), (2, .int x2), (3, .int x3)]) S.1 S.2.1 dX5_readSet_108 hl (by decide) rfl (fun ls hl => ?_)
  refine lv_iload S.1 S.2.1 dX5_readSet_110 (lv_at hl 0 rfl) ?_
  refine lv_iconst (v := (-1)) S.1 S.2.1 dX5_readSet_112 (by decide) ?_
  refine lv_icmp_ne (tgt := 118) S.1 S.2.1 dX5_readSet_113 (by decide) (fun q3 => ?_) (fun q3 => ?_)
  · have f := (if_neg q3).symm.trans f
    refine lv_iload_n S.1 S.2.1 dX5_readSet_118 rfl (lv_at hl 4 rfl) ?_
    refine lv_bipush (v := 7) S.1 S.2.1 dX5_readSet_119 (by decide) ?_
    refine lv_icmp_ne (tgt := 130) S.1 S.2.1 dX5_readSet_121 (by decide) (fun q4 => ?_) (fun q4 => ?_)
    · have f := (if_neg q4).symm.trans f
      refine lv_aload_n S.1 S.2.1 dX5_readSet_130 rfl (lv_at hl 2 rfl) ?_
      refine lv_iload_n S.1 S.2.1 dX5_readSet_131 rfl (lv_at hl 3 rfl) ?_
      refine lv_iload_n S.1 S.2.1 dX5_readSet_132 rfl (lv_at hl 4 rfl) ?_
      refine lv_iadd S.1 S.2.1 dX5_readSet_133 ?_
      refine lv_iload S.1 S.2.1 dX5_readSet_134 (lv_at hl 0 rfl) ?_
      obtain ⟨o5, e6, f⟩ := ob f
      refine o_Vv S (As := [.int (x2 + x3), .int o1.1]) (rest := []) (ci := 10) (M10_add l D cy b A fl e6) gX5_readSet_X10_add rfl rfl rfl cd10_add ⟨Nat.le_of_ble_eq_true rfl, Nat.le_of_ble_eq_true rfl⟩ I (gd e6).1 clX10 rfl rfl hl.1 rfl (Nat.le_of_ble_eq_true rfl) dX5_readSet_136 ⟨Nat.le_of_ble_eq_true rfl, Nat.le_of_ble_eq_true rfl⟩ (fun H locs I => ?_)
      refine lv_iinc (v := (x3 + 1)) (lv' := [(3, .int (x3 + 1)), (4, .int o1.1), (0, .ref (b + a0)), (1, .ref (b + a1)), (2, .int x2)]) S.1 S.2.1 dX5_readSet_139 hl (k := 4) rfl (congrArg (fun z => x3 + z) (by decide)) (by decide) rfl (fun ls hl => ?_)
      refine lv_goto (tgt := 70) S.1 S.2.1 dX5_readSet_142 (by decide) ?_
      exact hk70 f _ _ I _ (lv_sub hl [2, 3, 4, 0] rfl)
    · have f := (if_pos q4).symm.trans f
      refine lv_aload_n S.1 S.2.1 dX5_readSet_124 rfl (lv_at hl 1 rfl) ?_
      refine lv_iconst (v := 2) S.1 S.2.1 dX5_readSet_125 (by decide) ?_
      obtain ⟨o7, e8, f⟩ := ob f
      refine o_Vi S (As := [.int 2]) (rest := []) (ci := 5) (M5_refuse l D cy b A fl e8) gX5_readSet_X5_refuse rfl rfl rfl cd5_refuse ⟨Nat.le_of_ble_eq_true rfl, Nat.le_of_ble_eq_true rfl⟩ I (gd e8).1 clX5 rfl rfl hl.1 rfl (Nat.le_of_ble_eq_true rfl) dX5_readSet_126 ⟨Nat.le_of_ble_eq_true rfl, Nat.le_of_ble_eq_true rfl⟩ (fun H locs I => ?_)
      exact o_zret S hr hlo I f dX5_readSet_129
  · have f := (if_pos q3).symm.trans f
    refine lv_iconst (v := 0) S.1 S.2.1 dX5_readSet_116 (by decide) ?_
    exact o_zret S hr hlo I f dX5_readSet_117
set_option maxHeartbeats 4000000 in
set_option maxRecDepth 100000 in
theorem T5_readSet_70 (S : CallFix p m c cX5_readSet 5 s args vX5_readSet RX5) (hr : meth.sig.returnType = (some .boolean)) (hlo : meth.locks = false) {out : Int32 × PH} : ∀ (n : Nat) {h : PH} {a0 : Nat} {a1 : Nat} {x2 : Int32} {x3 : Int32} (f : F5_readSet_70  n h a0 a1 x2 x3 = some out) {H : Heap} {locs : List Loc} (I : ph_I D cy b A fl h s H locs) {ls : Array Slot} (hl : lv_has ls 5 [(0, .ref (b + a0)), (1, .ref (b + a1)), (2, .int x2), (3, .int x3)]), W p l e ({ frames := 4, cells := 0, slots := 0, locals := 86 } : Room) s m args below meth c H locs 0 0 (MQ below (va_Qi (fun (r : Int32) (u : PH) => (r, u) = out) (ph_B D cy b A fl) A) args s 0 0 A) (F0 m 70 ls []) := by
  intro n
  induction n with
  | zero => intro h a0 a1 x2 x3 f; rw [F5_readSet_70] at f; cases f
  | succ n ih =>
    intro h a0 a1 x2 x3 f H locs I ls hl
    rw [F5_readSet_70] at f
    refine lv_iload_n S.1 S.2.1 dX5_readSet_70 rfl (lv_at hl 3 rfl) ?_
    refine lv_bipush (v := 7) S.1 S.2.1 dX5_readSet_71 (by decide) ?_
    refine lv_icmp_gt (tgt := 145) S.1 S.2.1 dX5_readSet_73 (by decide) (fun q1 => ?_) (fun q1 => ?_)
    · have f := (if_pos q1).symm.trans f
      refine lv_iconst (v := 0) S.1 S.2.1 dX5_readSet_145 (by decide) ?_
      exact o_zret S hr hlo I f dX5_readSet_146
    · have f := (if_neg q1).symm.trans f
      refine lv_aload_n S.1 S.2.1 dX5_readSet_76 rfl (lv_at hl 0 rfl) ?_
      obtain ⟨r2, e3, f⟩ := ob f
      refine o_gR S lf5_readSet_18 I e3 dX5_readSet_77 ?_
      obtain ⟨o4, e5, f⟩ := ob f
      refine o_Vv S (As := []) (rest := []) (ci := 7) (M7_advance l D cy b A fl e5) gX5_readSet_X7_advance rfl rfl rfl cd7_advance ⟨Nat.le_of_ble_eq_true rfl, Nat.le_of_ble_eq_true rfl⟩ I (gd e5).1 clX7 rfl rfl hl.1 rfl (Nat.le_of_ble_eq_true rfl) dX5_readSet_80 ⟨Nat.le_of_ble_eq_true rfl, Nat.le_of_ble_eq_true rfl⟩ (fun H locs I => ?_)
      refine lv_iload_n S.1 S.2.1 dX5_readSet_83 rfl (lv_at hl 3 rfl) ?_
      refine lv_if_le (tgt := 101) S.1 S.2.1 dX5_readSet_84 (by decide) (fun q6 => ?_) (fun q6 => ?_)
      · have f := (if_pos q6).symm.trans f
        exact T5_readSet_101 S hr hlo (fun f _ _ I _ hl => ih f I hl) f I (lv_sub hl [0, 1, 2, 3] rfl)
      · have f := (if_neg q6).symm.trans f
        refine lv_aload_n S.1 S.2.1 dX5_readSet_87 rfl (lv_at hl 0 rfl) ?_
        obtain ⟨r7, e8, f⟩ := ob f
        refine o_gR S lf5_readSet_18 I e8 dX5_readSet_88 ?_
        obtain ⟨v9, e10, f⟩ := ob f
        refine o_gI S lf5_readSet_52 I e10 dX5_readSet_91 ?_
        refine lv_bipush (v := 38) S.1 S.2.1 dX5_readSet_94 (by decide) ?_
        refine lv_icmp_ne (tgt := 101) S.1 S.2.1 dX5_readSet_96 (by decide) (fun q11 => ?_) (fun q11 => ?_)
        · have f := (if_neg q11).symm.trans f
          exact T5_readSet_101 S hr hlo (fun f _ _ I _ hl => ih f I hl) f I (lv_sub hl [0, 1, 2, 3] rfl)
        · have f := (if_pos q11).symm.trans f
          refine lv_iconst (v := 1) S.1 S.2.1 dX5_readSet_99 (by decide) ?_
          exact o_zret S hr hlo I f dX5_readSet_100
set_option maxHeartbeats 4000000 in
set_option maxRecDepth 100000 in
theorem T5_readSet_64 (S : CallFix p m c cX5_readSet 5 s args vX5_readSet RX5) (hr : meth.sig.returnType = (some .boolean)) (hlo : meth.locks = false) {out : Int32 × PH} {h : PH} {a0 : Nat} {a1 : Nat} {x2 : Int32} (f : F5_readSet_64  h a0 a1 x2 = some out) {H : Heap} {locs : List Loc} (I : ph_I D cy b A fl h s H locs) {ls : Array Slot} (hl : lv_has ls 5 [(0, .ref (b + a0)), (1, .ref (b + a1)), (2, .int x2)]) : W p l e ({ frames := 4, cells := 0, slots := 0, locals := 86 } : Room) s m args below meth c H locs 0 0 (MQ below (va_Qi (fun (r : Int32) (u : PH) => (r, u) = out) (ph_B D cy b A fl) A) args s 0 0 A) (F0 m 64 ls []) := by
  unfold F5_readSet_64 at f
  refine lv_aload_n S.1 S.2.1 dX5_readSet_64 rfl (lv_at hl 1 rfl) ?_
  obtain ⟨o1, e2, f⟩ := ob f
  refine o_Vv S (As := []) (rest := []) (ci := 10) (M10_beginSet l D cy b A fl e2) gX5_readSet_X10_beginSet rfl rfl rfl cd10_beginSet ⟨Nat.le_of_ble_eq_true rfl, Nat.le_of_ble_eq_true rfl⟩ I (gd e2).1 clX10 rfl rfl hl.1 rfl (Nat.le_of_ble_eq_true rfl) dX5_readSet_65 ⟨Nat.le_of_ble_eq_true rfl, Nat.le_of_ble_eq_true rfl⟩ (fun H locs I => ?_)
  refine lv_iconst (v := 0) S.1 S.2.1 dX5_readSet_68 (by decide) ?_
  refine lv_istore_n (lv' := [(3, .int 0), (0, .ref (b + a0)), (1, .ref (b + a1)), (2, .int x2)]) S.1 S.2.1 dX5_readSet_69 rfl hl (by decide) rfl (fun ls hl => ?_)
  exact T5_readSet_70 S hr hlo  1024 f I (lv_sub hl [1, 2, 3, 0] rfl)
set_option maxHeartbeats 4000000 in
set_option maxRecDepth 100000 in
theorem T5_readSet_0 (S : CallFix p m c cX5_readSet 5 s args vX5_readSet RX5) (hr : meth.sig.returnType = (some .boolean)) (hlo : meth.locks = false) {out : Int32 × PH} {h : PH} {a0 : Nat} (f : F5_readSet_0  h a0 = some out) {H : Heap} {locs : List Loc} (I : ph_I D cy b A fl h s H locs) {ls : Array Slot} (hl : lv_has ls 5 [(0, .ref (b + a0))]) : W p l e ({ frames := 4, cells := 0, slots := 0, locals := 86 } : Room) s m args below meth c H locs 0 0 (MQ below (va_Qi (fun (r : Int32) (u : PH) => (r, u) = out) (ph_B D cy b A fl) A) args s 0 0 A) (F0 m 0 ls []) := by
  unfold F5_readSet_0 at f
  refine lv_aload_n S.1 S.2.1 dX5_readSet_0 rfl (lv_at hl 0 rfl) ?_
  obtain ⟨r1, e2, f⟩ := ob f
  refine o_gR S lf5_readSet_9 I e2 dX5_readSet_1 ?_
  obtain ⟨r3, e4, f⟩ := ob f
  refine o_gR S lf5_readSet_137 I e4 dX5_readSet_4 ?_
  refine lv_astore_n (lv' := [(1, .ref (b + r3)), (0, .ref (b + a0))]) S.1 S.2.1 dX5_readSet_7 rfl hl (by decide) rfl (fun ls hl => ?_)
  refine lv_aload_n S.1 S.2.1 dX5_readSet_8 rfl (lv_at hl 0 rfl) ?_
  obtain ⟨v5, e6, f⟩ := ob f
  refine o_gI S lf5_readSet_141 I e6 dX5_readSet_9 ?_
  refine lv_iconst (v := 4) S.1 S.2.1 dX5_readSet_12 (by decide) ?_
  refine lv_icmp_lt (tgt := 22) S.1 S.2.1 dX5_readSet_13 (by decide) (fun q7 => ?_) (fun q7 => ?_)
  · have f := (if_pos q7).symm.trans f
    refine lv_aload_n S.1 S.2.1 dX5_readSet_22 rfl (lv_at hl 1 rfl) ?_
    refine lv_iconst (v := 0) S.1 S.2.1 dX5_readSet_23 (by decide) ?_
    refine lv_bipush (v := 99) S.1 S.2.1 dX5_readSet_24 (by decide) ?_
    obtain ⟨o8, e9, f⟩ := ob f
    refine o_Vi S (As := [.int 0, .int 99]) (rest := []) (ci := 5) (M5_numberIn l D cy b A fl e9) gX5_readSet_X5_numberIn rfl rfl rfl cd5_numberIn ⟨Nat.le_of_ble_eq_true rfl, Nat.le_of_ble_eq_true rfl⟩ I (gd e9).1 clX5 rfl rfl hl.1 rfl (Nat.le_of_ble_eq_true rfl) dX5_readSet_26 ⟨Nat.le_of_ble_eq_true rfl, Nat.le_of_ble_eq_true rfl⟩ (fun H locs I => ?_)
    refine lv_istore_n (lv' := [(2, .int o8.1), (1, .ref (b + r3)), (0, .ref (b + a0))]) S.1 S.2.1 dX5_readSet_29 rfl hl (by decide) rfl (fun ls hl => ?_)
    refine lv_iload_n S.1 S.2.1 dX5_readSet_30 rfl (lv_at hl 0 rfl) ?_
    refine lv_iconst (v := (-1)) S.1 S.2.1 dX5_readSet_31 (by decide) ?_
    refine lv_icmp_ne (tgt := 37) S.1 S.2.1 dX5_readSet_32 (by decide) (fun q10 => ?_) (fun q10 => ?_)
    · have f := (if_neg q10).symm.trans f
      refine lv_aload_n S.1 S.2.1 dX5_readSet_37 rfl (lv_at hl 1 rfl) ?_
      obtain ⟨v11, e12, f⟩ := ob f
      refine o_gI S lf5_readSet_141 I e12 dX5_readSet_38 ?_
      refine lv_if_le (tgt := 64) S.1 S.2.1 dX5_readSet_41 (by decide) (fun q13 => ?_) (fun q13 => ?_)
      · have f := (if_pos q13).symm.trans f
        exact T5_readSet_64 S hr hlo  f I (lv_sub hl [2, 1, 0] rfl)
      · have f := (if_neg q13).symm.trans f
        refine lv_iload_n S.1 S.2.1 dX5_readSet_44 rfl (lv_at hl 0 rfl) ?_
        refine lv_aload_n S.1 S.2.1 dX5_readSet_45 rfl (lv_at hl 1 rfl) ?_
        refine lv_aload_n S.1 S.2.1 dX5_readSet_46 rfl (lv_at hl 1 rfl) ?_
        obtain ⟨v14, e15, f⟩ := ob f
        refine o_gI S lf5_readSet_141 I e15 dX5_readSet_47 ?_
        refine lv_iconst (v := 1) S.1 S.2.1 dX5_readSet_50 (by decide) ?_
        refine lv_isub S.1 S.2.1 dX5_readSet_51 ?_
        obtain ⟨o16, e17, f⟩ := ob f
        refine o_Vi S (As := [.int (v14 - 1)]) (rest := [.int o8.1]) (ci := 10) (M10_lastMinute l D cy b A fl e17) gX5_readSet_X10_lastMinute rfl rfl rfl cd10_lastMinute ⟨Nat.le_of_ble_eq_true rfl, Nat.le_of_ble_eq_true rfl⟩ I (gd e17).1 clX10 rfl rfl hl.1 rfl (Nat.le_of_ble_eq_true rfl) dX5_readSet_52 ⟨Nat.le_of_ble_eq_true rfl, Nat.le_of_ble_eq_true rfl⟩ (fun H locs I => ?_)
        refine lv_icmp_gt (tgt := 64) S.1 S.2.1 dX5_readSet_55 (by decide) (fun q18 => ?_) (fun q18 => ?_)
        · have f := (if_pos q18).symm.trans f
          exact T5_readSet_64 S hr hlo  f I (lv_sub hl [2, 1, 0] rfl)
        · have f := (if_neg q18).symm.trans f
          refine lv_aload_n S.1 S.2.1 dX5_readSet_58 rfl (lv_at hl 2 rfl) ?_
          refine lv_iconst (v := 5) S.1 S.2.1 dX5_readSet_59 (by decide) ?_
          obtain ⟨o19, e20, f⟩ := ob f
          refine o_Vi S (As := [.int 5]) (rest := []) (ci := 5) (M5_refuse l D cy b A fl e20) gX5_readSet_X5_refuse rfl rfl rfl cd5_refuse ⟨Nat.le_of_ble_eq_true rfl, Nat.le_of_ble_eq_true rfl⟩ I (gd e20).1 clX5 rfl rfl hl.1 rfl (Nat.le_of_ble_eq_true rfl) dX5_readSet_60 ⟨Nat.le_of_ble_eq_true rfl, Nat.le_of_ble_eq_true rfl⟩ (fun H locs I => ?_)
          exact o_zret S hr hlo I f dX5_readSet_63
    · have f := (if_pos q10).symm.trans f
      refine lv_iconst (v := 0) S.1 S.2.1 dX5_readSet_35 (by decide) ?_
      exact o_zret S hr hlo I f dX5_readSet_36
  · have f := (if_neg q7).symm.trans f
    refine lv_aload_n S.1 S.2.1 dX5_readSet_16 rfl (lv_at hl 1 rfl) ?_
    refine lv_iconst (v := 2) S.1 S.2.1 dX5_readSet_17 (by decide) ?_
    obtain ⟨o21, e22, f⟩ := ob f
    refine o_Vi S (As := [.int 2]) (rest := []) (ci := 5) (M5_refuse l D cy b A fl e22) gX5_readSet_X5_refuse rfl rfl rfl cd5_refuse ⟨Nat.le_of_ble_eq_true rfl, Nat.le_of_ble_eq_true rfl⟩ I (gd e22).1 clX5 rfl rfl hl.1 rfl (Nat.le_of_ble_eq_true rfl) dX5_readSet_18 ⟨Nat.le_of_ble_eq_true rfl, Nat.le_of_ble_eq_true rfl⟩ (fun H locs I => ?_)
    exact o_zret S hr hlo I f dX5_readSet_21
theorem M5_readSet (l : Launch) (D : va_G) (cy : Nat → ClassId) (b : Nat) (A : Nat → Prop) (fl : Bool) {h : PH} {a0 : Nat} {out : Int32 × PH} (f : F5_readSet h a0 = some out) : Met l yX5_readSet vX5_readSet ({ frames := 4, cells := 0, slots := 0, locals := 86 } : Room) (va_Pc [.ref (b + a0)] (ph_B D cy b A fl h)) (va_Qi (fun (r : Int32) (u : PH) => (r, u) = out) (ph_B D cy b A fl) A) 0 0 A :=
  o_met (by decide) rfl (Nat.le_of_ble_eq_true rfl) rfl (fun p e s m below meth c S hr hlo hnm ls hl I => T5_readSet_0 S hr hlo ((gd f).2) I (lv_sub hl [0] rfl))
def vX5_readBank : List Cond := .code yX5_readBank cX5_readBank 4 (some .boolean) :: TB
theorem lf5_readBank_9 : Fl vX5_readBank RX5 9 5 10 := ⟨RX5, TX5, 11, rfl, by decide, (fun w h9 => List.mem_cons_of_mem _ (wC_wsX50 w h9)), (List.mem_cons_of_mem _ wT_4_23)⟩
theorem lp5_readBank_156 : Pl vX5_readBank RX5 156 8 6 .int := ⟨RX8, TX8, 14, tyX8, rfl, by decide, (fun w h9 => List.mem_cons_of_mem _ (wC_wsX80 w h9)), (List.mem_cons_of_mem _ wT_20_18), tyX8_ok, nmX8, rfl, rfl⟩
theorem lp5_readBank_159 : Pl vX5_readBank RX5 159 8 7 .int := ⟨RX8, TX8, 14, tyX8, rfl, by decide, (fun w h9 => List.mem_cons_of_mem _ (wC_wsX80 w h9)), (List.mem_cons_of_mem _ wT_20_19), tyX8_ok, nmX8, rfl, rfl⟩
theorem lp5_readBank_162 : Pl vX5_readBank RX5 162 8 8 .int := ⟨RX8, TX8, 14, tyX8, rfl, by decide, (fun w h9 => List.mem_cons_of_mem _ (wC_wsX80 w h9)), (List.mem_cons_of_mem _ wT_20_20), tyX8_ok, nmX8, rfl, rfl⟩
theorem gX5_readBank_X5_readStop : GoodIn vX5_readBank (wsV RX5 112 RX5 yX5_readStop vX5_readStop) := gV_of wT_18_15 wT_18_16 wT_18_17 wT_1_22 wT_18_18
theorem gX5_readBank_X5_numberIn : GoodIn vX5_readBank (wsV RX5 103 RX5 yX5_numberIn vX5_numberIn) := gV_of wT_18_6 wT_18_7 wT_18_8 wT_1_22 wT_18_9
theorem gX5_readBank_X5_isFirst : GoodIn vX5_readBank (wsV RX5 100 RX5 yX5_isFirst vX5_isFirst) := gV_of wT_17_21 wT_17_22 wT_17_23 wT_1_22 wT_18_0
theorem cd5_readBank : Cd yX5_readBank 0 := ⟨by decide, by decide, by decide +kernel⟩
set_option maxHeartbeats 4000000 in
set_option maxRecDepth 100000 in
theorem T5_readBank_51 (S : CallFix p m c cX5_readBank 4 s args vX5_readBank RX5) (hr : meth.sig.returnType = (some .boolean)) (hlo : meth.locks = false) {out : Int32 × PH} {h : PH} {a0 : Nat} {x1 : Int32} {x2 : Int32} {s0 : Int32} (f : F5_readBank_51  h a0 x1 x2 s0 = some out) {H : Heap} {locs : List Loc} (I : ph_I D cy b A fl h s H locs) {ls : Array Slot} (hl : lv_has ls 4 [(0, .ref (b + a0)), (1, .int x1), (2, .int x2)]) : W p l e ({ frames := 4, cells := 0, slots := 0, locals := 86 } : Room) s m args below meth c H locs 0 0 (MQ below (va_Qi (fun (r : Int32) (u : PH) => (r, u) = out) (ph_B D cy b A fl) A) args s 0 0 A) (F0 m 51 ls [.int s0]) := by
  unfold F5_readBank_51 at f
  refine lv_istore_n (lv' := [(3, .int s0), (0, .ref (b + a0)), (1, .int x1), (2, .int x2)]) S.1 S.2.1 dX5_readBank_51 rfl hl (by decide) rfl (fun ls hl => ?_)
  refine lv_iload_n S.1 S.2.1 dX5_readBank_52 rfl (lv_at hl 0 rfl) ?_
  refine lv_iconst (v := (-1)) S.1 S.2.1 dX5_readBank_53 (by decide) ?_
  refine lv_icmp_ne (tgt := 59) S.1 S.2.1 dX5_readBank_54 (by decide) (fun q1 => ?_) (fun q1 => ?_)
  · have f := (if_neg q1).symm.trans f
    refine lv_aload_n S.1 S.2.1 dX5_readBank_59 rfl (lv_at hl 1 rfl) ?_
    obtain ⟨r2, e3, f⟩ := ob f
    refine o_gR S lf5_readBank_9 I e3 dX5_readBank_60 ?_
    refine lv_iload_n S.1 S.2.1 dX5_readBank_63 rfl (lv_at hl 2 rfl) ?_
    obtain ⟨h4, e5, f⟩ := ob f
    refine o_pI S lp5_readBank_156 I e5 dX5_readBank_64 (fun H locs I => ?_)
    refine lv_aload_n S.1 S.2.1 dX5_readBank_67 rfl (lv_at hl 1 rfl) ?_
    obtain ⟨r6, e7, f⟩ := ob f
    refine o_gR S lf5_readBank_9 I e7 dX5_readBank_68 ?_
    refine lv_iload_n S.1 S.2.1 dX5_readBank_71 rfl (lv_at hl 3 rfl) ?_
    obtain ⟨h8, e9, f⟩ := ob f
    refine o_pI S lp5_readBank_159 I e9 dX5_readBank_72 (fun H locs I => ?_)
    refine lv_aload_n S.1 S.2.1 dX5_readBank_75 rfl (lv_at hl 1 rfl) ?_
    obtain ⟨r10, e11, f⟩ := ob f
    refine o_gR S lf5_readBank_9 I e11 dX5_readBank_76 ?_
    refine lv_iload_n S.1 S.2.1 dX5_readBank_79 rfl (lv_at hl 0 rfl) ?_
    obtain ⟨h12, e13, f⟩ := ob f
    refine o_pI S lp5_readBank_162 I e13 dX5_readBank_80 (fun H locs I => ?_)
    refine lv_aload_n S.1 S.2.1 dX5_readBank_83 rfl (lv_at hl 1 rfl) ?_
    obtain ⟨o14, e15, f⟩ := ob f
    refine o_Vi S (As := []) (rest := []) (ci := 5) (M5_readStop l D cy b A fl e15) gX5_readBank_X5_readStop rfl rfl rfl cd5_readStop ⟨Nat.le_of_ble_eq_true rfl, Nat.le_of_ble_eq_true rfl⟩ I (gd e15).1 clX5 rfl rfl hl.1 rfl (Nat.le_of_ble_eq_true rfl) dX5_readBank_84 ⟨Nat.le_of_ble_eq_true rfl, Nat.le_of_ble_eq_true rfl⟩ (fun H locs I => ?_)
    exact o_zret S hr hlo I f dX5_readBank_87
  · have f := (if_pos q1).symm.trans f
    refine lv_iconst (v := 0) S.1 S.2.1 dX5_readBank_57 (by decide) ?_
    exact o_zret S hr hlo I f dX5_readBank_58
set_option maxHeartbeats 4000000 in
set_option maxRecDepth 100000 in
theorem T5_readBank_34 (S : CallFix p m c cX5_readBank 4 s args vX5_readBank RX5) (hr : meth.sig.returnType = (some .boolean)) (hlo : meth.locks = false) {out : Int32 × PH} {h : PH} {a0 : Nat} {x1 : Int32} {s0 : Int32} (f : F5_readBank_34  h a0 x1 s0 = some out) {H : Heap} {locs : List Loc} (I : ph_I D cy b A fl h s H locs) {ls : Array Slot} (hl : lv_has ls 4 [(0, .ref (b + a0)), (1, .int x1)]) : W p l e ({ frames := 4, cells := 0, slots := 0, locals := 86 } : Room) s m args below meth c H locs 0 0 (MQ below (va_Qi (fun (r : Int32) (u : PH) => (r, u) = out) (ph_B D cy b A fl) A) args s 0 0 A) (F0 m 34 ls [.int s0]) := by
  unfold F5_readBank_34 at f
  refine lv_istore_n (lv' := [(2, .int s0), (0, .ref (b + a0)), (1, .int x1)]) S.1 S.2.1 dX5_readBank_34 rfl hl (by decide) rfl (fun ls hl => ?_)
  refine lv_iload_n S.1 S.2.1 dX5_readBank_35 rfl (lv_at hl 0 rfl) ?_
  refine lv_iconst (v := (-1)) S.1 S.2.1 dX5_readBank_36 (by decide) ?_
  refine lv_icmp_ne (tgt := 44) S.1 S.2.1 dX5_readBank_37 (by decide) (fun q1 => ?_) (fun q1 => ?_)
  · have f := (if_neg q1).symm.trans f
    refine lv_aload_n S.1 S.2.1 dX5_readBank_44 rfl (lv_at hl 1 rfl) ?_
    refine lv_iconst (v := 1) S.1 S.2.1 dX5_readBank_45 (by decide) ?_
    refine lv_bipush (v := 9) S.1 S.2.1 dX5_readBank_46 (by decide) ?_
    obtain ⟨o2, e3, f⟩ := ob f
    refine o_Vi S (As := [.int 1, .int 9]) (rest := []) (ci := 5) (M5_numberIn l D cy b A fl e3) gX5_readBank_X5_numberIn rfl rfl rfl cd5_numberIn ⟨Nat.le_of_ble_eq_true rfl, Nat.le_of_ble_eq_true rfl⟩ I (gd e3).1 clX5 rfl rfl hl.1 rfl (Nat.le_of_ble_eq_true rfl) dX5_readBank_48 ⟨Nat.le_of_ble_eq_true rfl, Nat.le_of_ble_eq_true rfl⟩ (fun H locs I => ?_)
    exact T5_readBank_51 S hr hlo  f I (lv_sub hl [1, 2, 0] rfl)
  · have f := (if_pos q1).symm.trans f
    refine lv_iconst (v := (-1)) S.1 S.2.1 dX5_readBank_40 (by decide) ?_
    refine lv_goto (tgt := 51) S.1 S.2.1 dX5_readBank_41 (by decide) ?_
    exact T5_readBank_51 S hr hlo  f I (lv_sub hl [1, 2, 0] rfl)
set_option maxHeartbeats 4000000 in
set_option maxRecDepth 100000 in
theorem T5_readBank_0 (S : CallFix p m c cX5_readBank 4 s args vX5_readBank RX5) (hr : meth.sig.returnType = (some .boolean)) (hlo : meth.locks = false) {out : Int32 × PH} {h : PH} {a0 : Nat} (f : F5_readBank_0  h a0 = some out) {H : Heap} {locs : List Loc} (I : ph_I D cy b A fl h s H locs) {ls : Array Slot} (hl : lv_has ls 4 [(0, .ref (b + a0))]) : W p l e ({ frames := 4, cells := 0, slots := 0, locals := 86 } : Room) s m args below meth c H locs 0 0 (MQ below (va_Qi (fun (r : Int32) (u : PH) => (r, u) = out) (ph_B D cy b A fl) A) args s 0 0 A) (F0 m 0 ls []) := by
  unfold F5_readBank_0 at f
  refine lv_aload_n S.1 S.2.1 dX5_readBank_0 rfl (lv_at hl 0 rfl) ?_
  refine lv_iconst (v := 4) S.1 S.2.1 dX5_readBank_1 (by decide) ?_
  obtain ⟨o1, e2, f⟩ := ob f
  refine o_Vi S (As := [.int 4]) (rest := []) (ci := 5) (M5_isFirst l D cy b A fl e2) gX5_readBank_X5_isFirst rfl rfl rfl cd5_isFirst ⟨Nat.le_of_ble_eq_true rfl, Nat.le_of_ble_eq_true rfl⟩ I (gd e2).1 clX5 rfl rfl hl.1 rfl (Nat.le_of_ble_eq_true rfl) dX5_readBank_2 ⟨Nat.le_of_ble_eq_true rfl, Nat.le_of_ble_eq_true rfl⟩ (fun H locs I => ?_)
  refine lv_if_ne (tgt := 10) S.1 S.2.1 dX5_readBank_5 (by decide) (fun q3 => ?_) (fun q3 => ?_)
  · have f := (if_neg q3).symm.trans f
    refine lv_aload_n S.1 S.2.1 dX5_readBank_10 rfl (lv_at hl 0 rfl) ?_
    refine lv_iconst (v := 1) S.1 S.2.1 dX5_readBank_11 (by decide) ?_
    refine lv_bipush (v := 20) S.1 S.2.1 dX5_readBank_12 (by decide) ?_
    obtain ⟨o4, e5, f⟩ := ob f
    refine o_Vi S (As := [.int 1, .int 20]) (rest := []) (ci := 5) (M5_numberIn l D cy b A fl e5) gX5_readBank_X5_numberIn rfl rfl rfl cd5_numberIn ⟨Nat.le_of_ble_eq_true rfl, Nat.le_of_ble_eq_true rfl⟩ I (gd e5).1 clX5 rfl rfl hl.1 rfl (Nat.le_of_ble_eq_true rfl) dX5_readBank_14 ⟨Nat.le_of_ble_eq_true rfl, Nat.le_of_ble_eq_true rfl⟩ (fun H locs I => ?_)
    refine lv_istore_n (lv' := [(1, .int o4.1), (0, .ref (b + a0))]) S.1 S.2.1 dX5_readBank_17 rfl hl (by decide) rfl (fun ls hl => ?_)
    refine lv_iload_n S.1 S.2.1 dX5_readBank_18 rfl (lv_at hl 0 rfl) ?_
    refine lv_iconst (v := (-1)) S.1 S.2.1 dX5_readBank_19 (by decide) ?_
    refine lv_icmp_ne (tgt := 27) S.1 S.2.1 dX5_readBank_20 (by decide) (fun q6 => ?_) (fun q6 => ?_)
    · have f := (if_neg q6).symm.trans f
      refine lv_aload_n S.1 S.2.1 dX5_readBank_27 rfl (lv_at hl 1 rfl) ?_
      refine lv_iconst (v := 1) S.1 S.2.1 dX5_readBank_28 (by decide) ?_
      refine lv_bipush (v := 20) S.1 S.2.1 dX5_readBank_29 (by decide) ?_
      obtain ⟨o7, e8, f⟩ := ob f
      refine o_Vi S (As := [.int 1, .int 20]) (rest := []) (ci := 5) (M5_numberIn l D cy b A fl e8) gX5_readBank_X5_numberIn rfl rfl rfl cd5_numberIn ⟨Nat.le_of_ble_eq_true rfl, Nat.le_of_ble_eq_true rfl⟩ I (gd e8).1 clX5 rfl rfl hl.1 rfl (Nat.le_of_ble_eq_true rfl) dX5_readBank_31 ⟨Nat.le_of_ble_eq_true rfl, Nat.le_of_ble_eq_true rfl⟩ (fun H locs I => ?_)
      exact T5_readBank_34 S hr hlo  f I (lv_sub hl [1, 0] rfl)
    · have f := (if_pos q6).symm.trans f
      refine lv_iconst (v := (-1)) S.1 S.2.1 dX5_readBank_23 (by decide) ?_
      refine lv_goto (tgt := 34) S.1 S.2.1 dX5_readBank_24 (by decide) ?_
      exact T5_readBank_34 S hr hlo  f I (lv_sub hl [1, 0] rfl)
  · have f := (if_pos q3).symm.trans f
    refine lv_iconst (v := 0) S.1 S.2.1 dX5_readBank_8 (by decide) ?_
    exact o_zret S hr hlo I f dX5_readBank_9
theorem M5_readBank (l : Launch) (D : va_G) (cy : Nat → ClassId) (b : Nat) (A : Nat → Prop) (fl : Bool) {h : PH} {a0 : Nat} {out : Int32 × PH} (f : F5_readBank h a0 = some out) : Met l yX5_readBank vX5_readBank ({ frames := 4, cells := 0, slots := 0, locals := 86 } : Room) (va_Pc [.ref (b + a0)] (ph_B D cy b A fl h)) (va_Qi (fun (r : Int32) (u : PH) => (r, u) = out) (ph_B D cy b A fl) A) 0 0 A :=
  o_met (by decide) rfl (Nat.le_of_ble_eq_true rfl) rfl (fun p e s m below meth c S hr hlo hnm ls hl I => T5_readBank_0 S hr hlo ((gd f).2) I (lv_sub hl [0] rfl))
def vX5_readRule : List Cond := .code yX5_readRule cX5_readRule 2 (some .boolean) :: TB
theorem gX5_readRule_X5_refuse : GoodIn vX5_readRule (wsV RX5 89 RX5 yX5_refuse vX5_refuse) := gV_of wT_18_1 wT_18_2 wT_18_3 wT_1_22 wT_18_4
theorem gX5_readRule_X5_isFirst : GoodIn vX5_readRule (wsV RX5 100 RX5 yX5_isFirst vX5_isFirst) := gV_of wT_17_21 wT_17_22 wT_17_23 wT_1_22 wT_18_0
theorem lf5_readRule_18 : Fl vX5_readRule RX5 18 5 0 := ⟨RX5, TX5, 11, rfl, by decide, (fun w h9 => List.mem_cons_of_mem _ (wC_wsX50 w h9)), (List.mem_cons_of_mem _ wT_5_3)⟩
theorem gX5_readRule_X7_advance : GoodIn vX5_readRule (wsV RX5 49 RX7 yX7_advance vX7_advance) := gV_of wT_15_21 wT_15_22 wT_15_23 wT_5_2 wT_16_0
theorem lf5_readRule_52 : Fl vX5_readRule RX5 52 7 4 := ⟨RX7, TX7, 7, rfl, by decide, (fun w h9 => List.mem_cons_of_mem _ (wC_wsX70 w h9)), (List.mem_cons_of_mem _ wT_14_7)⟩
theorem lf5_readRule_9 : Fl vX5_readRule RX5 9 5 10 := ⟨RX5, TX5, 11, rfl, by decide, (fun w h9 => List.mem_cons_of_mem _ (wC_wsX50 w h9)), (List.mem_cons_of_mem _ wT_4_23)⟩
theorem lp5_readRule_165 : Pl vX5_readRule RX5 165 8 9 .int := ⟨RX8, TX8, 14, tyX8, rfl, by decide, (fun w h9 => List.mem_cons_of_mem _ (wC_wsX80 w h9)), (List.mem_cons_of_mem _ wT_21_1), tyX8_ok, nmX8, rfl, rfl⟩
theorem gX5_readRule_X5_readStop : GoodIn vX5_readRule (wsV RX5 112 RX5 yX5_readStop vX5_readStop) := gV_of wT_18_15 wT_18_16 wT_18_17 wT_1_22 wT_18_18
theorem cd5_readRule : Cd yX5_readRule 0 := ⟨by decide, by decide, by decide +kernel⟩
set_option maxHeartbeats 4000000 in
set_option maxRecDepth 100000 in
theorem T5_readRule_37 (S : CallFix p m c cX5_readRule 2 s args vX5_readRule RX5) (hr : meth.sig.returnType = (some .boolean)) (hlo : meth.locks = false) {out : Int32 × PH} {h : PH} {a0 : Nat} (f : F5_readRule_37  h a0 = some out) {H : Heap} {locs : List Loc} (I : ph_I D cy b A fl h s H locs) {ls : Array Slot} (hl : lv_has ls 2 [(0, .ref (b + a0))]) : W p l e ({ frames := 4, cells := 0, slots := 0, locals := 84 } : Room) s m args below meth c H locs 0 0 (MQ below (va_Qi (fun (r : Int32) (u : PH) => (r, u) = out) (ph_B D cy b A fl) A) args s 0 0 A) (F0 m 37 ls []) := by
  unfold F5_readRule_37 at f
  refine lv_aload_n S.1 S.2.1 dX5_readRule_37 rfl (lv_at hl 0 rfl) ?_
  refine lv_iconst (v := 1) S.1 S.2.1 dX5_readRule_38 (by decide) ?_
  obtain ⟨o1, e2, f⟩ := ob f
  refine o_Vi S (As := [.int 1]) (rest := []) (ci := 5) (M5_refuse l D cy b A fl e2) gX5_readRule_X5_refuse rfl rfl rfl cd5_refuse ⟨Nat.le_of_ble_eq_true rfl, Nat.le_of_ble_eq_true rfl⟩ I (gd e2).1 clX5 rfl rfl hl.1 rfl (Nat.le_of_ble_eq_true rfl) dX5_readRule_39 ⟨Nat.le_of_ble_eq_true rfl, Nat.le_of_ble_eq_true rfl⟩ (fun H locs I => ?_)
  exact o_zret S hr hlo I f dX5_readRule_42
set_option maxHeartbeats 4000000 in
set_option maxRecDepth 100000 in
theorem T5_readRule_0 (S : CallFix p m c cX5_readRule 2 s args vX5_readRule RX5) (hr : meth.sig.returnType = (some .boolean)) (hlo : meth.locks = false) {out : Int32 × PH} {h : PH} {a0 : Nat} (f : F5_readRule_0  h a0 = some out) {H : Heap} {locs : List Loc} (I : ph_I D cy b A fl h s H locs) {ls : Array Slot} (hl : lv_has ls 2 [(0, .ref (b + a0))]) : W p l e ({ frames := 4, cells := 0, slots := 0, locals := 84 } : Room) s m args below meth c H locs 0 0 (MQ below (va_Qi (fun (r : Int32) (u : PH) => (r, u) = out) (ph_B D cy b A fl) A) args s 0 0 A) (F0 m 0 ls []) := by
  unfold F5_readRule_0 at f
  refine lv_aload_n S.1 S.2.1 dX5_readRule_0 rfl (lv_at hl 0 rfl) ?_
  refine lv_iconst (v := 5) S.1 S.2.1 dX5_readRule_1 (by decide) ?_
  obtain ⟨o1, e2, f⟩ := ob f
  refine o_Vi S (As := [.int 5]) (rest := []) (ci := 5) (M5_isFirst l D cy b A fl e2) gX5_readRule_X5_isFirst rfl rfl rfl cd5_isFirst ⟨Nat.le_of_ble_eq_true rfl, Nat.le_of_ble_eq_true rfl⟩ I (gd e2).1 clX5 rfl rfl hl.1 rfl (Nat.le_of_ble_eq_true rfl) dX5_readRule_2 ⟨Nat.le_of_ble_eq_true rfl, Nat.le_of_ble_eq_true rfl⟩ (fun H locs I => ?_)
  refine lv_if_ne (tgt := 10) S.1 S.2.1 dX5_readRule_5 (by decide) (fun q3 => ?_) (fun q3 => ?_)
  · have f := (if_neg q3).symm.trans f
    refine lv_aload_n S.1 S.2.1 dX5_readRule_10 rfl (lv_at hl 0 rfl) ?_
    obtain ⟨r4, e5, f⟩ := ob f
    refine o_gR S lf5_readRule_18 I e5 dX5_readRule_11 ?_
    obtain ⟨o6, e7, f⟩ := ob f
    refine o_Vv S (As := []) (rest := []) (ci := 7) (M7_advance l D cy b A fl e7) gX5_readRule_X7_advance rfl rfl rfl cd7_advance ⟨Nat.le_of_ble_eq_true rfl, Nat.le_of_ble_eq_true rfl⟩ I (gd e7).1 clX7 rfl rfl hl.1 rfl (Nat.le_of_ble_eq_true rfl) dX5_readRule_14 ⟨Nat.le_of_ble_eq_true rfl, Nat.le_of_ble_eq_true rfl⟩ (fun H locs I => ?_)
    refine lv_aload_n S.1 S.2.1 dX5_readRule_17 rfl (lv_at hl 0 rfl) ?_
    obtain ⟨r8, e9, f⟩ := ob f
    refine o_gR S lf5_readRule_18 I e9 dX5_readRule_18 ?_
    obtain ⟨v10, e11, f⟩ := ob f
    refine o_gI S lf5_readRule_52 I e11 dX5_readRule_21 ?_
    refine lv_bipush (v := 8) S.1 S.2.1 dX5_readRule_24 (by decide) ?_
    refine lv_isub S.1 S.2.1 dX5_readRule_26 ?_
    refine lv_istore_n (lv' := [(1, .int (v10 - 8)), (0, .ref (b + a0))]) S.1 S.2.1 dX5_readRule_27 rfl hl (by decide) rfl (fun ls hl => ?_)
    refine lv_iload_n S.1 S.2.1 dX5_readRule_28 rfl (lv_at hl 0 rfl) ?_
    refine lv_if_lt (tgt := 37) S.1 S.2.1 dX5_readRule_29 (by decide) (fun q12 => ?_) (fun q12 => ?_)
    · have f := (if_pos q12).symm.trans f
      exact T5_readRule_37 S hr hlo  f I (lv_sub hl [1] rfl)
    · have f := (if_neg q12).symm.trans f
      refine lv_iload_n S.1 S.2.1 dX5_readRule_32 rfl (lv_at hl 0 rfl) ?_
      refine lv_iconst (v := 4) S.1 S.2.1 dX5_readRule_33 (by decide) ?_
      refine lv_icmp_lt (tgt := 43) S.1 S.2.1 dX5_readRule_34 (by decide) (fun q13 => ?_) (fun q13 => ?_)
      · have f := (if_pos q13).symm.trans f
        refine lv_aload_n S.1 S.2.1 dX5_readRule_43 rfl (lv_at hl 1 rfl) ?_
        obtain ⟨r14, e15, f⟩ := ob f
        refine o_gR S lf5_readRule_9 I e15 dX5_readRule_44 ?_
        refine lv_iload_n S.1 S.2.1 dX5_readRule_47 rfl (lv_at hl 0 rfl) ?_
        obtain ⟨h16, e17, f⟩ := ob f
        refine o_pI S lp5_readRule_165 I e17 dX5_readRule_48 (fun H locs I => ?_)
        refine lv_aload_n S.1 S.2.1 dX5_readRule_51 rfl (lv_at hl 1 rfl) ?_
        obtain ⟨o18, e19, f⟩ := ob f
        refine o_Vi S (As := []) (rest := []) (ci := 5) (M5_readStop l D cy b A fl e19) gX5_readRule_X5_readStop rfl rfl rfl cd5_readStop ⟨Nat.le_of_ble_eq_true rfl, Nat.le_of_ble_eq_true rfl⟩ I (gd e19).1 clX5 rfl rfl hl.1 rfl (Nat.le_of_ble_eq_true rfl) dX5_readRule_52 ⟨Nat.le_of_ble_eq_true rfl, Nat.le_of_ble_eq_true rfl⟩ (fun H locs I => ?_)
        exact o_zret S hr hlo I f dX5_readRule_55
      · have f := (if_neg q13).symm.trans f
        exact T5_readRule_37 S hr hlo  f I (lv_sub hl [1] rfl)
  · have f := (if_pos q3).symm.trans f
    refine lv_iconst (v := 0) S.1 S.2.1 dX5_readRule_8 (by decide) ?_
    exact o_zret S hr hlo I f dX5_readRule_9
theorem M5_readRule (l : Launch) (D : va_G) (cy : Nat → ClassId) (b : Nat) (A : Nat → Prop) (fl : Bool) {h : PH} {a0 : Nat} {out : Int32 × PH} (f : F5_readRule h a0 = some out) : Met l yX5_readRule vX5_readRule ({ frames := 4, cells := 0, slots := 0, locals := 84 } : Room) (va_Pc [.ref (b + a0)] (ph_B D cy b A fl h)) (va_Qi (fun (r : Int32) (u : PH) => (r, u) = out) (ph_B D cy b A fl) A) 0 0 A :=
  o_met (by decide) rfl (Nat.le_of_ble_eq_true rfl) rfl (fun p e s m below meth c S hr hlo hnm ls hl I => T5_readRule_0 S hr hlo ((gd f).2) I (lv_sub hl [0] rfl))
end
