section
variable {p : Program} {l : Launch} {e : Env} {s : State} {m : MethodId} {args : Array Value} {below : List Frame} {meth : Method} {c : Code} {D : va_G} {cy : Nat → ClassId} {b : Nat} {A : Nat → Prop} {fl : Bool}
def vX12_leafRead : List Cond := .code yX12_leafRead cX12_leafRead 2 (some .boolean) :: TB
theorem gX12_leafRead_X12_grown : GoodIn vX12_leafRead (wsV RX12 312 RX12 yX12_grown vX12_grown) := gV_of wT_31_5 wT_31_6 wT_31_7 wT_1_5 wT_31_8
theorem lp12_leafRead_335 : Pl vX12_leafRead RX12 335 12 50 .boolean := ⟨RX12, TX12, 87, tyX12, rfl, by decide, (fun w h9 => List.mem_cons_of_mem _ (wC_wsX120 w h9)), (List.mem_cons_of_mem _ wT_30_3), tyX12_ok, nmX12, rfl, rfl⟩
theorem gX12_leafRead_X12_token : GoodIn vX12_leafRead (wsV RX12 206 RX12 yX12_token vX12_token) := gV_of wT_26_21 wT_26_22 wT_26_23 wT_1_5 wT_27_0
theorem lf12_leafRead_183 : Fl vX12_leafRead RX12 183 12 9 := ⟨RX12, TX12, 87, rfl, by decide, (fun w h9 => List.mem_cons_of_mem _ (wC_wsX120 w h9)), (List.mem_cons_of_mem _ wT_27_2)⟩
theorem gX12_leafRead_X12_isCounted : GoodIn vX12_leafRead (wsV RX12 329 RX12 yX12_isCounted vX12_isCounted) := gV_of wT_30_21 wT_30_22 wT_30_23 wT_1_5 wT_31_0
theorem gX12_leafRead_X12_wrong : GoodIn vX12_leafRead (wsV RX12 196 RX12 yX12_wrong vX12_wrong) := gV_of wT_28_4 wT_28_5 wT_28_6 wT_1_5 wT_28_7
theorem gX12_leafRead_X12_nameMet : GoodIn vX12_leafRead (wsV RX12 332 RX12 yX12_nameMet vX12_nameMet) := gV_of wT_31_1 wT_31_2 wT_31_3 wT_1_5 wT_31_4
theorem lf12_leafRead_172 : Fl vX12_leafRead RX12 172 12 8 := ⟨RX12, TX12, 87, rfl, by decide, (fun w h9 => List.mem_cons_of_mem _ (wC_wsX120 w h9)), (List.mem_cons_of_mem _ wT_26_20)⟩
theorem gX12_leafRead_X12_isSign : GoodIn vX12_leafRead (wsV RX12 209 RX12 yX12_isSign vX12_isSign) := gV_of wT_30_5 wT_30_6 wT_30_7 wT_1_5 wT_30_8
theorem gX12_leafRead_X12_isKey : GoodIn vX12_leafRead (wsV RX12 326 RX12 yX12_isKey vX12_isKey) := gV_of wT_30_17 wT_30_18 wT_30_19 wT_1_5 wT_30_20
theorem lf12_leafRead_323 : Fl vX12_leafRead RX12 323 12 51 := ⟨RX12, TX12, 87, rfl, by decide, (fun w h9 => List.mem_cons_of_mem _ (wC_wsX120 w h9)), (List.mem_cons_of_mem _ wT_30_4)⟩
theorem gX12_leafRead_X12_waitsFor : GoodIn vX12_leafRead (wsV RX12 319 RX12 yX12_waitsFor vX12_waitsFor) := gV_of wT_30_13 wT_30_14 wT_30_15 wT_1_5 wT_30_16
theorem lf12_leafRead_316 : Fl vX12_leafRead RX12 316 12 48 := ⟨RX12, TX12, 87, rfl, by decide, (fun w h9 => List.mem_cons_of_mem _ (wC_wsX120 w h9)), (List.mem_cons_of_mem _ wT_30_2)⟩
theorem lp12_leafRead_316 : Pl vX12_leafRead RX12 316 12 48 .int := ⟨RX12, TX12, 87, tyX12, rfl, by decide, (fun w h9 => List.mem_cons_of_mem _ (wC_wsX120 w h9)), (List.mem_cons_of_mem _ wT_30_2), tyX12_ok, nmX12, rfl, rfl⟩
theorem lp12_leafRead_323 : Pl vX12_leafRead RX12 323 12 51 .boolean := ⟨RX12, TX12, 87, tyX12, rfl, by decide, (fun w h9 => List.mem_cons_of_mem _ (wC_wsX120 w h9)), (List.mem_cons_of_mem _ wT_30_4), tyX12_ok, nmX12, rfl, rfl⟩
theorem cd12_leafRead : Cd yX12_leafRead 0 := ⟨by decide, by decide, by decide +kernel⟩
set_option maxHeartbeats 4000000 in
set_option maxRecDepth 100000 in
theorem T12_leafRead_160 (S : CallFix p m c cX12_leafRead 2 s args vX12_leafRead RX12) (hr : meth.sig.returnType = (some .boolean)) (hlo : meth.locks = false) {out : Int32 × PH} {h : PH} {a0 : Nat} {s0 : Int32} {s1 : Int32} {u2 : Nat} (f : F12_leafRead_160  h a0 s0 s1 u2 = some out) {H : Heap} {locs : List Loc} (I : ph_I D cy b A fl h s H locs) {ls : Array Slot} (hl : lv_has ls 2 [(0, .ref (b + a0))]) : W p l e ({ frames := 2, cells := 0, slots := 0, locals := 47 } : Room) s m args below meth c H locs 0 0 (MQ below (va_Qi (fun (r : Int32) (u : PH) => (r, u) = out) (ph_B D cy b A fl) A) args s 0 0 A) (F0 m 160 ls [.int s0, .int s1, .ref (b + u2)]) := by
  unfold F12_leafRead_160 at f
  refine lv_iconst (v := 0) S.1 S.2.1 dX12_leafRead_160 (by decide) ?_
  obtain ⟨o1, e2, f⟩ := ob f
  refine o_Vv S (As := [.int s1, .int s0, .int 0]) (rest := []) (ci := 12) (M12_grown l D cy b A fl e2) gX12_leafRead_X12_grown rfl rfl rfl cd12_grown ⟨Nat.le_of_ble_eq_true rfl, Nat.le_of_ble_eq_true rfl⟩ I (gd e2).1 clX12 rfl rfl hl.1 rfl (Nat.le_of_ble_eq_true rfl) dX12_leafRead_161 ⟨Nat.le_of_ble_eq_true rfl, Nat.le_of_ble_eq_true rfl⟩ (fun H locs I => ?_)
  refine lv_aload_n S.1 S.2.1 dX12_leafRead_164 rfl (lv_at hl 0 rfl) ?_
  refine lv_iconst (v := 0) S.1 S.2.1 dX12_leafRead_165 (by decide) ?_
  obtain ⟨h3, e4, f⟩ := ob f
  refine o_pZ S lp12_leafRead_335 I e4 dX12_leafRead_166 (fun H locs I => ?_)
  refine lv_aload_n S.1 S.2.1 dX12_leafRead_169 rfl (lv_at hl 0 rfl) ?_
  obtain ⟨o5, e6, f⟩ := ob f
  refine o_Vv S (As := []) (rest := []) (ci := 12) (M12_token l D cy b A fl e6) gX12_leafRead_X12_token rfl rfl rfl cd12_token ⟨Nat.le_of_ble_eq_true rfl, Nat.le_of_ble_eq_true rfl⟩ I (gd e6).1 clX12 rfl rfl hl.1 rfl (Nat.le_of_ble_eq_true rfl) dX12_leafRead_170 ⟨Nat.le_of_ble_eq_true rfl, Nat.le_of_ble_eq_true rfl⟩ (fun H locs I => ?_)
  refine lv_iconst (v := 1) S.1 S.2.1 dX12_leafRead_173 (by decide) ?_
  exact o_zret S hr hlo I f dX12_leafRead_174
set_option maxHeartbeats 4000000 in
set_option maxRecDepth 100000 in
theorem T12_leafRead_148 (S : CallFix p m c cX12_leafRead 2 s args vX12_leafRead RX12) (hr : meth.sig.returnType = (some .boolean)) (hlo : meth.locks = false) {out : Int32 × PH} {h : PH} {a0 : Nat} {x1 : Int32} {s0 : Int32} {u1 : Nat} (f : F12_leafRead_148  h a0 x1 s0 u1 = some out) {H : Heap} {locs : List Loc} (I : ph_I D cy b A fl h s H locs) {ls : Array Slot} (hl : lv_has ls 2 [(0, .ref (b + a0)), (1, .int x1)]) : W p l e ({ frames := 2, cells := 0, slots := 0, locals := 47 } : Room) s m args below meth c H locs 0 0 (MQ below (va_Qi (fun (r : Int32) (u : PH) => (r, u) = out) (ph_B D cy b A fl) A) args s 0 0 A) (F0 m 148 ls [.int s0, .ref (b + u1)]) := by
  unfold F12_leafRead_148 at f
  refine lv_iload_n S.1 S.2.1 dX12_leafRead_148 rfl (lv_at hl 1 rfl) ?_
  refine lv_if_lt (tgt := 156) S.1 S.2.1 dX12_leafRead_149 (by decide) (fun q1 => ?_) (fun q1 => ?_)
  · have f := (if_pos q1).symm.trans f
    refine lv_aload_n S.1 S.2.1 dX12_leafRead_156 rfl (lv_at hl 0 rfl) ?_
    obtain ⟨v2, e3, f⟩ := ob f
    refine o_gI S lf12_leafRead_183 I e3 dX12_leafRead_157 ?_
    exact T12_leafRead_160 S hr hlo  f I (lv_sub hl [0] rfl)
  · have f := (if_neg q1).symm.trans f
    refine lv_iload_n S.1 S.2.1 dX12_leafRead_152 rfl (lv_at hl 1 rfl) ?_
    refine lv_goto (tgt := 160) S.1 S.2.1 dX12_leafRead_153 (by decide) ?_
    exact T12_leafRead_160 S hr hlo  f I (lv_sub hl [0] rfl)
set_option maxHeartbeats 4000000 in
set_option maxRecDepth 100000 in
theorem T12_leafRead_129 (S : CallFix p m c cX12_leafRead 2 s args vX12_leafRead RX12) (hr : meth.sig.returnType = (some .boolean)) (hlo : meth.locks = false) {out : Int32 × PH} {h : PH} {a0 : Nat} {x1 : Int32} (f : F12_leafRead_129  h a0 x1 = some out) {H : Heap} {locs : List Loc} (I : ph_I D cy b A fl h s H locs) {ls : Array Slot} (hl : lv_has ls 2 [(0, .ref (b + a0)), (1, .int x1)]) : W p l e ({ frames := 2, cells := 0, slots := 0, locals := 47 } : Room) s m args below meth c H locs 0 0 (MQ below (va_Qi (fun (r : Int32) (u : PH) => (r, u) = out) (ph_B D cy b A fl) A) args s 0 0 A) (F0 m 129 ls []) := by
  unfold F12_leafRead_129 at f
  refine lv_aload_n S.1 S.2.1 dX12_leafRead_129 rfl (lv_at hl 0 rfl) ?_
  obtain ⟨o1, e2, f⟩ := ob f
  refine o_Vi S (As := []) (rest := []) (ci := 12) (M12_isCounted l D cy b A fl e2) gX12_leafRead_X12_isCounted rfl rfl rfl cd12_isCounted ⟨Nat.le_of_ble_eq_true rfl, Nat.le_of_ble_eq_true rfl⟩ I (gd e2).1 clX12 rfl rfl hl.1 rfl (Nat.le_of_ble_eq_true rfl) dX12_leafRead_130 ⟨Nat.le_of_ble_eq_true rfl, Nat.le_of_ble_eq_true rfl⟩ (fun H locs I => ?_)
  refine lv_if_ne (tgt := 138) S.1 S.2.1 dX12_leafRead_133 (by decide) (fun q3 => ?_) (fun q3 => ?_)
  · have f := (if_neg q3).symm.trans f
    refine lv_aload_n S.1 S.2.1 dX12_leafRead_138 rfl (lv_at hl 0 rfl) ?_
    refine lv_iload_n S.1 S.2.1 dX12_leafRead_139 rfl (lv_at hl 1 rfl) ?_
    refine lv_if_lt (tgt := 147) S.1 S.2.1 dX12_leafRead_140 (by decide) (fun q4 => ?_) (fun q4 => ?_)
    · have f := (if_pos q4).symm.trans f
      refine lv_iconst (v := 0) S.1 S.2.1 dX12_leafRead_147 (by decide) ?_
      exact T12_leafRead_148 S hr hlo  f I (lv_sub hl [0, 1] rfl)
    · have f := (if_neg q4).symm.trans f
      refine lv_iconst (v := 1) S.1 S.2.1 dX12_leafRead_143 (by decide) ?_
      refine lv_goto (tgt := 148) S.1 S.2.1 dX12_leafRead_144 (by decide) ?_
      exact T12_leafRead_148 S hr hlo  f I (lv_sub hl [0, 1] rfl)
  · have f := (if_pos q3).symm.trans f
    refine lv_iconst (v := 0) S.1 S.2.1 dX12_leafRead_136 (by decide) ?_
    exact o_zret S hr hlo I f dX12_leafRead_137
set_option maxHeartbeats 4000000 in
set_option maxRecDepth 100000 in
theorem T12_leafRead_109 (S : CallFix p m c cX12_leafRead 2 s args vX12_leafRead RX12) (hr : meth.sig.returnType = (some .boolean)) (hlo : meth.locks = false) {out : Int32 × PH} {h : PH} {a0 : Nat} {x1 : Int32} (f : F12_leafRead_109  h a0 x1 = some out) {H : Heap} {locs : List Loc} (I : ph_I D cy b A fl h s H locs) {ls : Array Slot} (hl : lv_has ls 2 [(0, .ref (b + a0)), (1, .int x1)]) : W p l e ({ frames := 2, cells := 0, slots := 0, locals := 47 } : Room) s m args below meth c H locs 0 0 (MQ below (va_Qi (fun (r : Int32) (u : PH) => (r, u) = out) (ph_B D cy b A fl) A) args s 0 0 A) (F0 m 109 ls []) := by
  unfold F12_leafRead_109 at f
  refine lv_iload_n S.1 S.2.1 dX12_leafRead_109 rfl (lv_at hl 1 rfl) ?_
  refine lv_if_ge (tgt := 129) S.1 S.2.1 dX12_leafRead_110 (by decide) (fun q1 => ?_) (fun q1 => ?_)
  · have f := (if_pos q1).symm.trans f
    exact T12_leafRead_129 S hr hlo  f I (lv_sub hl [0, 1] rfl)
  · have f := (if_neg q1).symm.trans f
    refine lv_aload_n S.1 S.2.1 dX12_leafRead_113 rfl (lv_at hl 0 rfl) ?_
    obtain ⟨v2, e3, f⟩ := ob f
    refine o_gI S lf12_leafRead_183 I e3 dX12_leafRead_114 ?_
    refine lv_sipush (v := 9999) S.1 S.2.1 dX12_leafRead_117 (by decide) ?_
    refine lv_icmp_le (tgt := 129) S.1 S.2.1 dX12_leafRead_120 (by decide) (fun q4 => ?_) (fun q4 => ?_)
    · have f := (if_pos q4).symm.trans f
      exact T12_leafRead_129 S hr hlo  f I (lv_sub hl [0, 1] rfl)
    · have f := (if_neg q4).symm.trans f
      refine lv_aload_n S.1 S.2.1 dX12_leafRead_123 rfl (lv_at hl 0 rfl) ?_
      refine lv_iconst (v := 2) S.1 S.2.1 dX12_leafRead_124 (by decide) ?_
      obtain ⟨o5, e6, f⟩ := ob f
      refine o_Vi S (As := [.int 2]) (rest := []) (ci := 12) (M12_wrong l D cy b A fl e6) gX12_leafRead_X12_wrong rfl rfl rfl cd12_wrong ⟨Nat.le_of_ble_eq_true rfl, Nat.le_of_ble_eq_true rfl⟩ I (gd e6).1 clX12 rfl rfl hl.1 rfl (Nat.le_of_ble_eq_true rfl) dX12_leafRead_125 ⟨Nat.le_of_ble_eq_true rfl, Nat.le_of_ble_eq_true rfl⟩ (fun H locs I => ?_)
      exact o_zret S hr hlo I f dX12_leafRead_128
set_option maxHeartbeats 4000000 in
set_option maxRecDepth 100000 in
theorem T12_leafRead_86 (S : CallFix p m c cX12_leafRead 2 s args vX12_leafRead RX12) (hr : meth.sig.returnType = (some .boolean)) (hlo : meth.locks = false) {out : Int32 × PH} {h : PH} {a0 : Nat} (f : F12_leafRead_86  h a0 = some out) {H : Heap} {locs : List Loc} (I : ph_I D cy b A fl h s H locs) {ls : Array Slot} (hl : lv_has ls 2 [(0, .ref (b + a0))]) : W p l e ({ frames := 2, cells := 0, slots := 0, locals := 47 } : Room) s m args below meth c H locs 0 0 (MQ below (va_Qi (fun (r : Int32) (u : PH) => (r, u) = out) (ph_B D cy b A fl) A) args s 0 0 A) (F0 m 86 ls []) := by
  unfold F12_leafRead_86 at f
  refine lv_aload_n S.1 S.2.1 dX12_leafRead_86 rfl (lv_at hl 0 rfl) ?_
  obtain ⟨o1, e2, f⟩ := ob f
  refine o_Vi S (As := []) (rest := []) (ci := 12) (M12_nameMet l D cy b A fl e2) gX12_leafRead_X12_nameMet rfl rfl rfl cd12_nameMet ⟨Nat.le_of_ble_eq_true rfl, Nat.le_of_ble_eq_true rfl⟩ I (gd e2).1 clX12 rfl rfl hl.1 rfl (Nat.le_of_ble_eq_true rfl) dX12_leafRead_87 ⟨Nat.le_of_ble_eq_true rfl, Nat.le_of_ble_eq_true rfl⟩ (fun H locs I => ?_)
  refine lv_istore_n (lv' := [(1, .int o1.1), (0, .ref (b + a0))]) S.1 S.2.1 dX12_leafRead_90 rfl hl (by decide) rfl (fun ls hl => ?_)
  refine lv_iload_n S.1 S.2.1 dX12_leafRead_91 rfl (lv_at hl 0 rfl) ?_
  refine lv_if_ge (tgt := 109) S.1 S.2.1 dX12_leafRead_92 (by decide) (fun q3 => ?_) (fun q3 => ?_)
  · have f := (if_pos q3).symm.trans f
    exact T12_leafRead_109 S hr hlo  f I (lv_sub hl [1, 0] rfl)
  · have f := (if_neg q3).symm.trans f
    refine lv_aload_n S.1 S.2.1 dX12_leafRead_95 rfl (lv_at hl 1 rfl) ?_
    obtain ⟨v4, e5, f⟩ := ob f
    refine o_gI S lf12_leafRead_172 I e5 dX12_leafRead_96 ?_
    refine lv_iconst (v := 3) S.1 S.2.1 dX12_leafRead_99 (by decide) ?_
    refine lv_icmp_eq (tgt := 109) S.1 S.2.1 dX12_leafRead_100 (by decide) (fun q6 => ?_) (fun q6 => ?_)
    · have f := (if_pos q6).symm.trans f
      exact T12_leafRead_109 S hr hlo  f I (lv_sub hl [1, 0] rfl)
    · have f := (if_neg q6).symm.trans f
      refine lv_aload_n S.1 S.2.1 dX12_leafRead_103 rfl (lv_at hl 1 rfl) ?_
      refine lv_iconst (v := 1) S.1 S.2.1 dX12_leafRead_104 (by decide) ?_
      obtain ⟨o7, e8, f⟩ := ob f
      refine o_Vi S (As := [.int 1]) (rest := []) (ci := 12) (M12_wrong l D cy b A fl e8) gX12_leafRead_X12_wrong rfl rfl rfl cd12_wrong ⟨Nat.le_of_ble_eq_true rfl, Nat.le_of_ble_eq_true rfl⟩ I (gd e8).1 clX12 rfl rfl hl.1 rfl (Nat.le_of_ble_eq_true rfl) dX12_leafRead_105 ⟨Nat.le_of_ble_eq_true rfl, Nat.le_of_ble_eq_true rfl⟩ (fun H locs I => ?_)
      exact o_zret S hr hlo I f dX12_leafRead_108
set_option maxHeartbeats 4000000 in
set_option maxRecDepth 100000 in
theorem T12_leafRead_0 (S : CallFix p m c cX12_leafRead 2 s args vX12_leafRead RX12) (hr : meth.sig.returnType = (some .boolean)) (hlo : meth.locks = false) {out : Int32 × PH} {h : PH} {a0 : Nat} (f : F12_leafRead_0  h a0 = some out) {H : Heap} {locs : List Loc} (I : ph_I D cy b A fl h s H locs) {ls : Array Slot} (hl : lv_has ls 2 [(0, .ref (b + a0))]) : W p l e ({ frames := 2, cells := 0, slots := 0, locals := 47 } : Room) s m args below meth c H locs 0 0 (MQ below (va_Qi (fun (r : Int32) (u : PH) => (r, u) = out) (ph_B D cy b A fl) A) args s 0 0 A) (F0 m 0 ls []) := by
  unfold F12_leafRead_0 at f
  refine lv_aload_n S.1 S.2.1 dX12_leafRead_0 rfl (lv_at hl 0 rfl) ?_
  refine lv_bipush (v := 40) S.1 S.2.1 dX12_leafRead_1 (by decide) ?_
  obtain ⟨o1, e2, f⟩ := ob f
  refine o_Vi S (As := [.int 40]) (rest := []) (ci := 12) (M12_isSign l D cy b A fl e2) gX12_leafRead_X12_isSign rfl rfl rfl cd12_isSign ⟨Nat.le_of_ble_eq_true rfl, Nat.le_of_ble_eq_true rfl⟩ I (gd e2).1 clX12 rfl rfl hl.1 rfl (Nat.le_of_ble_eq_true rfl) dX12_leafRead_3 ⟨Nat.le_of_ble_eq_true rfl, Nat.le_of_ble_eq_true rfl⟩ (fun H locs I => ?_)
  refine lv_if_eq (tgt := 50) S.1 S.2.1 dX12_leafRead_6 (by decide) (fun q3 => ?_) (fun q3 => ?_)
  · have f := (if_pos q3).symm.trans f
    refine lv_aload_n S.1 S.2.1 dX12_leafRead_50 rfl (lv_at hl 0 rfl) ?_
    refine lv_bipush (v := 17) S.1 S.2.1 dX12_leafRead_51 (by decide) ?_
    obtain ⟨o4, e5, f⟩ := ob f
    refine o_Vi S (As := [.int 17]) (rest := []) (ci := 12) (M12_isKey l D cy b A fl e5) gX12_leafRead_X12_isKey rfl rfl rfl cd12_isKey ⟨Nat.le_of_ble_eq_true rfl, Nat.le_of_ble_eq_true rfl⟩ I (gd e5).1 clX12 rfl rfl hl.1 rfl (Nat.le_of_ble_eq_true rfl) dX12_leafRead_53 ⟨Nat.le_of_ble_eq_true rfl, Nat.le_of_ble_eq_true rfl⟩ (fun H locs I => ?_)
    refine lv_if_eq (tgt := 86) S.1 S.2.1 dX12_leafRead_56 (by decide) (fun q6 => ?_) (fun q6 => ?_)
    · have f := (if_pos q6).symm.trans f
      exact T12_leafRead_86 S hr hlo  f I (lv_sub hl [0] rfl)
    · have f := (if_neg q6).symm.trans f
      refine lv_aload_n S.1 S.2.1 dX12_leafRead_59 rfl (lv_at hl 0 rfl) ?_
      obtain ⟨v7, e8, f⟩ := ob f
      refine o_gI S lf12_leafRead_323 I e8 dX12_leafRead_60 ?_
      refine lv_if_eq (tgt := 86) S.1 S.2.1 dX12_leafRead_63 (by decide) (fun q9 => ?_) (fun q9 => ?_)
      · have f := (if_pos q9).symm.trans f
        exact T12_leafRead_86 S hr hlo  f I (lv_sub hl [0] rfl)
      · have f := (if_neg q9).symm.trans f
        refine lv_aload_n S.1 S.2.1 dX12_leafRead_66 rfl (lv_at hl 0 rfl) ?_
        obtain ⟨o10, e11, f⟩ := ob f
        refine o_Vi S (As := []) (rest := []) (ci := 12) (M12_isCounted l D cy b A fl e11) gX12_leafRead_X12_isCounted rfl rfl rfl cd12_isCounted ⟨Nat.le_of_ble_eq_true rfl, Nat.le_of_ble_eq_true rfl⟩ I (gd e11).1 clX12 rfl rfl hl.1 rfl (Nat.le_of_ble_eq_true rfl) dX12_leafRead_67 ⟨Nat.le_of_ble_eq_true rfl, Nat.le_of_ble_eq_true rfl⟩ (fun H locs I => ?_)
        refine lv_if_ne (tgt := 75) S.1 S.2.1 dX12_leafRead_70 (by decide) (fun q12 => ?_) (fun q12 => ?_)
        · have f := (if_neg q12).symm.trans f
          refine lv_aload_n S.1 S.2.1 dX12_leafRead_75 rfl (lv_at hl 0 rfl) ?_
          refine lv_iconst (v := 2) S.1 S.2.1 dX12_leafRead_76 (by decide) ?_
          obtain ⟨o13, e14, f⟩ := ob f
          refine o_Vv S (As := [.int 2]) (rest := []) (ci := 12) (M12_waitsFor l D cy b A fl e14) gX12_leafRead_X12_waitsFor rfl rfl rfl cd12_waitsFor ⟨Nat.le_of_ble_eq_true rfl, Nat.le_of_ble_eq_true rfl⟩ I (gd e14).1 clX12 rfl rfl hl.1 rfl (Nat.le_of_ble_eq_true rfl) dX12_leafRead_77 ⟨Nat.le_of_ble_eq_true rfl, Nat.le_of_ble_eq_true rfl⟩ (fun H locs I => ?_)
          refine lv_aload_n S.1 S.2.1 dX12_leafRead_80 rfl (lv_at hl 0 rfl) ?_
          obtain ⟨o15, e16, f⟩ := ob f
          refine o_Vv S (As := []) (rest := []) (ci := 12) (M12_token l D cy b A fl e16) gX12_leafRead_X12_token rfl rfl rfl cd12_token ⟨Nat.le_of_ble_eq_true rfl, Nat.le_of_ble_eq_true rfl⟩ I (gd e16).1 clX12 rfl rfl hl.1 rfl (Nat.le_of_ble_eq_true rfl) dX12_leafRead_81 ⟨Nat.le_of_ble_eq_true rfl, Nat.le_of_ble_eq_true rfl⟩ (fun H locs I => ?_)
          refine lv_iconst (v := 1) S.1 S.2.1 dX12_leafRead_84 (by decide) ?_
          exact o_zret S hr hlo I f dX12_leafRead_85
        · have f := (if_pos q12).symm.trans f
          refine lv_iconst (v := 0) S.1 S.2.1 dX12_leafRead_73 (by decide) ?_
          exact o_zret S hr hlo I f dX12_leafRead_74
  · have f := (if_neg q3).symm.trans f
    refine lv_aload_n S.1 S.2.1 dX12_leafRead_9 rfl (lv_at hl 0 rfl) ?_
    obtain ⟨v17, e18, f⟩ := ob f
    refine o_gI S lf12_leafRead_316 I e18 dX12_leafRead_10 ?_
    refine lv_bipush (v := 8) S.1 S.2.1 dX12_leafRead_13 (by decide) ?_
    refine lv_icmp_ne (tgt := 24) S.1 S.2.1 dX12_leafRead_15 (by decide) (fun q19 => ?_) (fun q19 => ?_)
    · have f := (if_neg q19).symm.trans f
      refine lv_aload_n S.1 S.2.1 dX12_leafRead_24 rfl (lv_at hl 0 rfl) ?_
      refine lv_dup S.1 S.2.1 dX12_leafRead_25 rfl ?_
      obtain ⟨v20, e21, f⟩ := ob f
      refine o_gI S lf12_leafRead_316 I e21 dX12_leafRead_26 ?_
      refine lv_iconst (v := 1) S.1 S.2.1 dX12_leafRead_29 (by decide) ?_
      refine lv_iadd S.1 S.2.1 dX12_leafRead_30 ?_
      obtain ⟨h22, e23, f⟩ := ob f
      refine o_pI S lp12_leafRead_316 I e23 dX12_leafRead_31 (fun H locs I => ?_)
      refine lv_aload_n S.1 S.2.1 dX12_leafRead_34 rfl (lv_at hl 0 rfl) ?_
      refine lv_iconst (v := 0) S.1 S.2.1 dX12_leafRead_35 (by decide) ?_
      obtain ⟨o24, e25, f⟩ := ob f
      refine o_Vv S (As := [.int 0]) (rest := []) (ci := 12) (M12_waitsFor l D cy b A fl e25) gX12_leafRead_X12_waitsFor rfl rfl rfl cd12_waitsFor ⟨Nat.le_of_ble_eq_true rfl, Nat.le_of_ble_eq_true rfl⟩ I (gd e25).1 clX12 rfl rfl hl.1 rfl (Nat.le_of_ble_eq_true rfl) dX12_leafRead_36 ⟨Nat.le_of_ble_eq_true rfl, Nat.le_of_ble_eq_true rfl⟩ (fun H locs I => ?_)
      refine lv_aload_n S.1 S.2.1 dX12_leafRead_39 rfl (lv_at hl 0 rfl) ?_
      refine lv_iconst (v := 1) S.1 S.2.1 dX12_leafRead_40 (by decide) ?_
      obtain ⟨h26, e27, f⟩ := ob f
      refine o_pZ S lp12_leafRead_323 I e27 dX12_leafRead_41 (fun H locs I => ?_)
      refine lv_aload_n S.1 S.2.1 dX12_leafRead_44 rfl (lv_at hl 0 rfl) ?_
      obtain ⟨o28, e29, f⟩ := ob f
      refine o_Vv S (As := []) (rest := []) (ci := 12) (M12_token l D cy b A fl e29) gX12_leafRead_X12_token rfl rfl rfl cd12_token ⟨Nat.le_of_ble_eq_true rfl, Nat.le_of_ble_eq_true rfl⟩ I (gd e29).1 clX12 rfl rfl hl.1 rfl (Nat.le_of_ble_eq_true rfl) dX12_leafRead_45 ⟨Nat.le_of_ble_eq_true rfl, Nat.le_of_ble_eq_true rfl⟩ (fun H locs I => ?_)
      refine lv_iconst (v := 1) S.1 S.2.1 dX12_leafRead_48 (by decide) ?_
      exact o_zret S hr hlo I f dX12_leafRead_49
    · have f := (if_pos q19).symm.trans f
      refine lv_aload_n S.1 S.2.1 dX12_leafRead_18 rfl (lv_at hl 0 rfl) ?_
      refine lv_iconst (v := 2) S.1 S.2.1 dX12_leafRead_19 (by decide) ?_
      obtain ⟨o30, e31, f⟩ := ob f
      refine o_Vi S (As := [.int 2]) (rest := []) (ci := 12) (M12_wrong l D cy b A fl e31) gX12_leafRead_X12_wrong rfl rfl rfl cd12_wrong ⟨Nat.le_of_ble_eq_true rfl, Nat.le_of_ble_eq_true rfl⟩ I (gd e31).1 clX12 rfl rfl hl.1 rfl (Nat.le_of_ble_eq_true rfl) dX12_leafRead_20 ⟨Nat.le_of_ble_eq_true rfl, Nat.le_of_ble_eq_true rfl⟩ (fun H locs I => ?_)
      exact o_zret S hr hlo I f dX12_leafRead_23
theorem M12_leafRead (l : Launch) (D : va_G) (cy : Nat → ClassId) (b : Nat) (A : Nat → Prop) (fl : Bool) {h : PH} {a0 : Nat} {out : Int32 × PH} (f : F12_leafRead h a0 = some out) : Met l yX12_leafRead vX12_leafRead ({ frames := 2, cells := 0, slots := 0, locals := 47 } : Room) (va_Pc [.ref (b + a0)] (ph_B D cy b A fl h)) (va_Qi (fun (r : Int32) (u : PH) => (r, u) = out) (ph_B D cy b A fl) A) 0 0 A :=
  o_met (by decide) rfl (Nat.le_of_ble_eq_true rfl) rfl (fun p e s m below meth c S hr hlo hnm ls hl I => T12_leafRead_0 S hr hlo ((gd f).2) I (lv_sub hl [0] rfl))
def vX12_seaLine : List Cond := .code yX12_seaLine cX12_seaLine 1 (some .boolean) :: TB
theorem lf12_seaLine_20 : Fl vX12_seaLine RX12 20 12 25 := ⟨RX12, TX12, 87, rfl, by decide, (fun w h9 => List.mem_cons_of_mem _ (wC_wsX120 w h9)), (List.mem_cons_of_mem _ wT_10_0)⟩
theorem lf12_seaLine_237 : Fl vX12_seaLine RX12 237 12 24 := ⟨RX12, TX12, 87, rfl, by decide, (fun w h9 => List.mem_cons_of_mem _ (wC_wsX120 w h9)), (List.mem_cons_of_mem _ wT_12_5)⟩
theorem gX12_seaLine_X12_token : GoodIn vX12_seaLine (wsV RX12 206 RX12 yX12_token vX12_token) := gV_of wT_26_21 wT_26_22 wT_26_23 wT_1_5 wT_27_0
theorem gX12_seaLine_X12_number : GoodIn vX12_seaLine (wsV RX12 212 RX12 yX12_number vX12_number) := gV_of wT_28_13 wT_28_14 wT_28_15 wT_1_5 wT_28_16
theorem lf12_seaLine_203 : Fl vX12_seaLine RX12 203 12 11 := ⟨RX12, TX12, 87, rfl, by decide, (fun w h9 => List.mem_cons_of_mem _ (wC_wsX120 w h9)), (List.mem_cons_of_mem _ wT_28_12)⟩
theorem lp12_seaLine_216 : Pl vX12_seaLine RX12 216 12 18 .int := ⟨RX12, TX12, 87, tyX12, rfl, by decide, (fun w h9 => List.mem_cons_of_mem _ (wC_wsX120 w h9)), (List.mem_cons_of_mem _ wT_11_22), tyX12_ok, nmX12, rfl, rfl⟩
theorem lp12_seaLine_219 : Pl vX12_seaLine RX12 219 12 19 .int := ⟨RX12, TX12, 87, tyX12, rfl, by decide, (fun w h9 => List.mem_cons_of_mem _ (wC_wsX120 w h9)), (List.mem_cons_of_mem _ wT_11_23), tyX12_ok, nmX12, rfl, rfl⟩
theorem gX12_seaLine_X12_wrong : GoodIn vX12_seaLine (wsV RX12 196 RX12 yX12_wrong vX12_wrong) := gV_of wT_28_4 wT_28_5 wT_28_6 wT_1_5 wT_28_7
theorem cd12_seaLine : Cd yX12_seaLine 0 := ⟨by decide, by decide, by decide +kernel⟩
set_option maxHeartbeats 4000000 in
set_option maxRecDepth 100000 in
theorem T12_seaLine_0 (S : CallFix p m c cX12_seaLine 1 s args vX12_seaLine RX12) (hr : meth.sig.returnType = (some .boolean)) (hlo : meth.locks = false) {out : Int32 × PH} {h : PH} {a0 : Nat} (f : F12_seaLine_0  h a0 = some out) {H : Heap} {locs : List Loc} (I : ph_I D cy b A fl h s H locs) {ls : Array Slot} (hl : lv_has ls 1 [(0, .ref (b + a0))]) : W p l e ({ frames := 3, cells := 0, slots := 0, locals := 69 } : Room) s m args below meth c H locs 0 0 (MQ below (va_Qi (fun (r : Int32) (u : PH) => (r, u) = out) (ph_B D cy b A fl) A) args s 0 0 A) (F0 m 0 ls []) := by
  unfold F12_seaLine_0 at f
  refine lv_aload_n S.1 S.2.1 dX12_seaLine_0 rfl (lv_at hl 0 rfl) ?_
  obtain ⟨r1, e2, f⟩ := ob f
  refine o_gR S lf12_seaLine_20 I e2 dX12_seaLine_1 ?_
  refine lv_iconst (v := 0) S.1 S.2.1 dX12_seaLine_4 (by decide) ?_
  obtain ⟨v4, e3, f⟩ := ob f
  refine o_zald S I e3 dX12_seaLine_5 ?_
  refine lv_if_eq (tgt := 15) S.1 S.2.1 dX12_seaLine_6 (by decide) (fun q5 => ?_) (fun q5 => ?_)
  · have f := (if_pos q5).symm.trans f
    refine lv_aload_n S.1 S.2.1 dX12_seaLine_15 rfl (lv_at hl 0 rfl) ?_
    obtain ⟨v6, e7, f⟩ := ob f
    refine o_gI S lf12_seaLine_237 I e7 dX12_seaLine_16 ?_
    refine lv_if_eq (tgt := 28) S.1 S.2.1 dX12_seaLine_19 (by decide) (fun q8 => ?_) (fun q8 => ?_)
    · have f := (if_pos q8).symm.trans f
      refine lv_aload_n S.1 S.2.1 dX12_seaLine_28 rfl (lv_at hl 0 rfl) ?_
      obtain ⟨r9, e10, f⟩ := ob f
      refine o_gR S lf12_seaLine_20 I e10 dX12_seaLine_29 ?_
      refine lv_iconst (v := 0) S.1 S.2.1 dX12_seaLine_32 (by decide) ?_
      refine lv_iconst (v := 1) S.1 S.2.1 dX12_seaLine_33 (by decide) ?_
      obtain ⟨h12, e11, f⟩ := ob f
      refine o_zast S I e11 dX12_seaLine_34 (fun H locs I => ?_)
      refine lv_aload_n S.1 S.2.1 dX12_seaLine_35 rfl (lv_at hl 0 rfl) ?_
      obtain ⟨o13, e14, f⟩ := ob f
      refine o_Vv S (As := []) (rest := []) (ci := 12) (M12_token l D cy b A fl e14) gX12_seaLine_X12_token rfl rfl rfl cd12_token ⟨Nat.le_of_ble_eq_true rfl, Nat.le_of_ble_eq_true rfl⟩ I (gd e14).1 clX12 rfl rfl hl.1 rfl (Nat.le_of_ble_eq_true rfl) dX12_seaLine_36 ⟨Nat.le_of_ble_eq_true rfl, Nat.le_of_ble_eq_true rfl⟩ (fun H locs I => ?_)
      refine lv_aload_n S.1 S.2.1 dX12_seaLine_39 rfl (lv_at hl 0 rfl) ?_
      refine lv_iconst (v := 1) S.1 S.2.1 dX12_seaLine_40 (by decide) ?_
      refine lv_bipush (v := 8) S.1 S.2.1 dX12_seaLine_41 (by decide) ?_
      obtain ⟨o15, e16, f⟩ := ob f
      refine o_Vi S (As := [.int 1, .int 8]) (rest := []) (ci := 12) (M12_number l D cy b A fl e16) gX12_seaLine_X12_number rfl rfl rfl cd12_number ⟨Nat.le_of_ble_eq_true rfl, Nat.le_of_ble_eq_true rfl⟩ I (gd e16).1 clX12 rfl rfl hl.1 rfl (Nat.le_of_ble_eq_true rfl) dX12_seaLine_43 ⟨Nat.le_of_ble_eq_true rfl, Nat.le_of_ble_eq_true rfl⟩ (fun H locs I => ?_)
      refine lv_if_ne (tgt := 51) S.1 S.2.1 dX12_seaLine_46 (by decide) (fun q17 => ?_) (fun q17 => ?_)
      · have f := (if_neg q17).symm.trans f
        refine lv_aload_n S.1 S.2.1 dX12_seaLine_51 rfl (lv_at hl 0 rfl) ?_
        refine lv_aload_n S.1 S.2.1 dX12_seaLine_52 rfl (lv_at hl 0 rfl) ?_
        obtain ⟨v18, e19, f⟩ := ob f
        refine o_gI S lf12_seaLine_203 I e19 dX12_seaLine_53 ?_
        obtain ⟨h20, e21, f⟩ := ob f
        refine o_pI S lp12_seaLine_216 I e21 dX12_seaLine_56 (fun H locs I => ?_)
        refine lv_aload_n S.1 S.2.1 dX12_seaLine_59 rfl (lv_at hl 0 rfl) ?_
        refine lv_iconst (v := 1) S.1 S.2.1 dX12_seaLine_60 (by decide) ?_
        refine lv_bipush (v := 6) S.1 S.2.1 dX12_seaLine_61 (by decide) ?_
        obtain ⟨o22, e23, f⟩ := ob f
        refine o_Vi S (As := [.int 1, .int 6]) (rest := []) (ci := 12) (M12_number l D cy b A fl e23) gX12_seaLine_X12_number rfl rfl rfl cd12_number ⟨Nat.le_of_ble_eq_true rfl, Nat.le_of_ble_eq_true rfl⟩ I (gd e23).1 clX12 rfl rfl hl.1 rfl (Nat.le_of_ble_eq_true rfl) dX12_seaLine_63 ⟨Nat.le_of_ble_eq_true rfl, Nat.le_of_ble_eq_true rfl⟩ (fun H locs I => ?_)
        refine lv_if_ne (tgt := 71) S.1 S.2.1 dX12_seaLine_66 (by decide) (fun q24 => ?_) (fun q24 => ?_)
        · have f := (if_neg q24).symm.trans f
          refine lv_aload_n S.1 S.2.1 dX12_seaLine_71 rfl (lv_at hl 0 rfl) ?_
          refine lv_aload_n S.1 S.2.1 dX12_seaLine_72 rfl (lv_at hl 0 rfl) ?_
          obtain ⟨v25, e26, f⟩ := ob f
          refine o_gI S lf12_seaLine_203 I e26 dX12_seaLine_73 ?_
          obtain ⟨h27, e28, f⟩ := ob f
          refine o_pI S lp12_seaLine_219 I e28 dX12_seaLine_76 (fun H locs I => ?_)
          refine lv_iconst (v := 1) S.1 S.2.1 dX12_seaLine_79 (by decide) ?_
          exact o_zret S hr hlo I f dX12_seaLine_80
        · have f := (if_pos q24).symm.trans f
          refine lv_iconst (v := 0) S.1 S.2.1 dX12_seaLine_69 (by decide) ?_
          exact o_zret S hr hlo I f dX12_seaLine_70
      · have f := (if_pos q17).symm.trans f
        refine lv_iconst (v := 0) S.1 S.2.1 dX12_seaLine_49 (by decide) ?_
        exact o_zret S hr hlo I f dX12_seaLine_50
    · have f := (if_neg q8).symm.trans f
      refine lv_aload_n S.1 S.2.1 dX12_seaLine_22 rfl (lv_at hl 0 rfl) ?_
      refine lv_iconst (v := 4) S.1 S.2.1 dX12_seaLine_23 (by decide) ?_
      obtain ⟨o29, e30, f⟩ := ob f
      refine o_Vi S (As := [.int 4]) (rest := []) (ci := 12) (M12_wrong l D cy b A fl e30) gX12_seaLine_X12_wrong rfl rfl rfl cd12_wrong ⟨Nat.le_of_ble_eq_true rfl, Nat.le_of_ble_eq_true rfl⟩ I (gd e30).1 clX12 rfl rfl hl.1 rfl (Nat.le_of_ble_eq_true rfl) dX12_seaLine_24 ⟨Nat.le_of_ble_eq_true rfl, Nat.le_of_ble_eq_true rfl⟩ (fun H locs I => ?_)
      exact o_zret S hr hlo I f dX12_seaLine_27
  · have f := (if_neg q5).symm.trans f
    refine lv_aload_n S.1 S.2.1 dX12_seaLine_9 rfl (lv_at hl 0 rfl) ?_
    refine lv_iconst (v := 3) S.1 S.2.1 dX12_seaLine_10 (by decide) ?_
    obtain ⟨o31, e32, f⟩ := ob f
    refine o_Vi S (As := [.int 3]) (rest := []) (ci := 12) (M12_wrong l D cy b A fl e32) gX12_seaLine_X12_wrong rfl rfl rfl cd12_wrong ⟨Nat.le_of_ble_eq_true rfl, Nat.le_of_ble_eq_true rfl⟩ I (gd e32).1 clX12 rfl rfl hl.1 rfl (Nat.le_of_ble_eq_true rfl) dX12_seaLine_11 ⟨Nat.le_of_ble_eq_true rfl, Nat.le_of_ble_eq_true rfl⟩ (fun H locs I => ?_)
    exact o_zret S hr hlo I f dX12_seaLine_14
theorem M12_seaLine (l : Launch) (D : va_G) (cy : Nat → ClassId) (b : Nat) (A : Nat → Prop) (fl : Bool) {h : PH} {a0 : Nat} {out : Int32 × PH} (f : F12_seaLine h a0 = some out) : Met l yX12_seaLine vX12_seaLine ({ frames := 3, cells := 0, slots := 0, locals := 69 } : Room) (va_Pc [.ref (b + a0)] (ph_B D cy b A fl h)) (va_Qi (fun (r : Int32) (u : PH) => (r, u) = out) (ph_B D cy b A fl) A) 0 0 A :=
  o_met (by decide) rfl (Nat.le_of_ble_eq_true rfl) rfl (fun p e s m below meth c S hr hlo hnm ls hl I => T12_seaLine_0 S hr hlo ((gd f).2) I (lv_sub hl [0] rfl))
def vX12_surferLine : List Cond := .code yX12_surferLine cX12_surferLine 2 (some .boolean) :: TB
theorem lf12_surferLine_222 : Fl vX12_surferLine RX12 222 12 20 := ⟨RX12, TX12, 87, rfl, by decide, (fun w h9 => List.mem_cons_of_mem _ (wC_wsX120 w h9)), (List.mem_cons_of_mem _ wT_12_0)⟩
theorem gX12_surferLine_X12_token : GoodIn vX12_surferLine (wsV RX12 206 RX12 yX12_token vX12_token) := gV_of wT_26_21 wT_26_22 wT_26_23 wT_1_5 wT_27_0
theorem lf12_surferLine_172 : Fl vX12_surferLine RX12 172 12 8 := ⟨RX12, TX12, 87, rfl, by decide, (fun w h9 => List.mem_cons_of_mem _ (wC_wsX120 w h9)), (List.mem_cons_of_mem _ wT_26_20)⟩
theorem lf12_surferLine_27 : Fl vX12_surferLine RX12 27 12 27 := ⟨RX12, TX12, 87, rfl, by decide, (fun w h9 => List.mem_cons_of_mem _ (wC_wsX120 w h9)), (List.mem_cons_of_mem _ wT_10_2)⟩
theorem lf12_surferLine_183 : Fl vX12_surferLine RX12 183 12 9 := ⟨RX12, TX12, 87, rfl, by decide, (fun w h9 => List.mem_cons_of_mem _ (wC_wsX120 w h9)), (List.mem_cons_of_mem _ wT_27_2)⟩
theorem gX12_surferLine_X12_find : GoodIn vX12_surferLine (va_wsS RX12 269 yX12_find vX12_find) := gS_of wT_29_1 wT_29_2 wT_1_5 wT_29_3
theorem gX12_surferLine_X12_cellRead : GoodIn vX12_surferLine (wsV RX12 273 RX12 yX12_cellRead vX12_cellRead) := gV_of wT_29_4 wT_29_5 wT_29_6 wT_1_5 wT_29_7
theorem lf12_surferLine_30 : Fl vX12_surferLine RX12 30 12 28 := ⟨RX12, TX12, 87, rfl, by decide, (fun w h9 => List.mem_cons_of_mem _ (wC_wsX120 w h9)), (List.mem_cons_of_mem _ wT_10_3)⟩
theorem lf12_surferLine_216 : Fl vX12_surferLine RX12 216 12 18 := ⟨RX12, TX12, 87, rfl, by decide, (fun w h9 => List.mem_cons_of_mem _ (wC_wsX120 w h9)), (List.mem_cons_of_mem _ wT_11_22)⟩
theorem lf12_surferLine_203 : Fl vX12_surferLine RX12 203 12 11 := ⟨RX12, TX12, 87, rfl, by decide, (fun w h9 => List.mem_cons_of_mem _ (wC_wsX120 w h9)), (List.mem_cons_of_mem _ wT_28_12)⟩
theorem lf12_surferLine_266 : Fl vX12_surferLine RX12 266 12 43 := ⟨RX12, TX12, 87, rfl, by decide, (fun w h9 => List.mem_cons_of_mem _ (wC_wsX120 w h9)), (List.mem_cons_of_mem _ wT_29_0)⟩
theorem gX12_surferLine_X12_number : GoodIn vX12_surferLine (wsV RX12 212 RX12 yX12_number vX12_number) := gV_of wT_28_13 wT_28_14 wT_28_15 wT_1_5 wT_28_16
theorem lf12_surferLine_33 : Fl vX12_surferLine RX12 33 12 29 := ⟨RX12, TX12, 87, rfl, by decide, (fun w h9 => List.mem_cons_of_mem _ (wC_wsX120 w h9)), (List.mem_cons_of_mem _ wT_10_4)⟩
theorem lf12_surferLine_36 : Fl vX12_surferLine RX12 36 12 30 := ⟨RX12, TX12, 87, rfl, by decide, (fun w h9 => List.mem_cons_of_mem _ (wC_wsX120 w h9)), (List.mem_cons_of_mem _ wT_10_5)⟩
theorem lf12_surferLine_39 : Fl vX12_surferLine RX12 39 12 31 := ⟨RX12, TX12, 87, rfl, by decide, (fun w h9 => List.mem_cons_of_mem _ (wC_wsX120 w h9)), (List.mem_cons_of_mem _ wT_10_6)⟩
theorem lf12_surferLine_42 : Fl vX12_surferLine RX12 42 12 32 := ⟨RX12, TX12, 87, rfl, by decide, (fun w h9 => List.mem_cons_of_mem _ (wC_wsX120 w h9)), (List.mem_cons_of_mem _ wT_10_7)⟩
theorem lp12_surferLine_222 : Pl vX12_surferLine RX12 222 12 20 .int := ⟨RX12, TX12, 87, tyX12, rfl, by decide, (fun w h9 => List.mem_cons_of_mem _ (wC_wsX120 w h9)), (List.mem_cons_of_mem _ wT_12_0), tyX12_ok, nmX12, rfl, rfl⟩
theorem gX12_surferLine_X12_wrong : GoodIn vX12_surferLine (wsV RX12 196 RX12 yX12_wrong vX12_wrong) := gV_of wT_28_4 wT_28_5 wT_28_6 wT_1_5 wT_28_7
theorem cd12_surferLine : Cd yX12_surferLine 0 := ⟨by decide, by decide, by decide +kernel⟩
set_option maxHeartbeats 4000000 in
set_option maxRecDepth 100000 in
theorem T12_surferLine_0 (S : CallFix p m c cX12_surferLine 2 s args vX12_surferLine RX12) (hr : meth.sig.returnType = (some .boolean)) (hlo : meth.locks = false) {out : Int32 × PH} {h : PH} {a0 : Nat} (f : F12_surferLine_0  h a0 = some out) {H : Heap} {locs : List Loc} (I : ph_I D cy b A fl h s H locs) {ls : Array Slot} (hl : lv_has ls 2 [(0, .ref (b + a0))]) : W p l e ({ frames := 4, cells := 0, slots := 0, locals := 89 } : Room) s m args below meth c H locs 0 0 (MQ below (va_Qi (fun (r : Int32) (u : PH) => (r, u) = out) (ph_B D cy b A fl) A) args s 0 0 A) (F0 m 0 ls []) := by
  unfold F12_surferLine_0 at f
  refine lv_aload_n S.1 S.2.1 dX12_surferLine_0 rfl (lv_at hl 0 rfl) ?_
  obtain ⟨v1, e2, f⟩ := ob f
  refine o_gI S lf12_surferLine_222 I e2 dX12_surferLine_1 ?_
  refine lv_iconst (v := 5) S.1 S.2.1 dX12_surferLine_4 (by decide) ?_
  refine lv_icmp_ne (tgt := 14) S.1 S.2.1 dX12_surferLine_5 (by decide) (fun q3 => ?_) (fun q3 => ?_)
  · have f := (if_neg q3).symm.trans f
    refine lv_aload_n S.1 S.2.1 dX12_surferLine_14 rfl (lv_at hl 0 rfl) ?_
    obtain ⟨o4, e5, f⟩ := ob f
    refine o_Vv S (As := []) (rest := []) (ci := 12) (M12_token l D cy b A fl e5) gX12_surferLine_X12_token rfl rfl rfl cd12_token ⟨Nat.le_of_ble_eq_true rfl, Nat.le_of_ble_eq_true rfl⟩ I (gd e5).1 clX12 rfl rfl hl.1 rfl (Nat.le_of_ble_eq_true rfl) dX12_surferLine_15 ⟨Nat.le_of_ble_eq_true rfl, Nat.le_of_ble_eq_true rfl⟩ (fun H locs I => ?_)
    refine lv_aload_n S.1 S.2.1 dX12_surferLine_18 rfl (lv_at hl 0 rfl) ?_
    obtain ⟨v6, e7, f⟩ := ob f
    refine o_gI S lf12_surferLine_172 I e7 dX12_surferLine_19 ?_
    refine lv_iconst (v := 2) S.1 S.2.1 dX12_surferLine_22 (by decide) ?_
    refine lv_icmp_eq (tgt := 32) S.1 S.2.1 dX12_surferLine_23 (by decide) (fun q8 => ?_) (fun q8 => ?_)
    · have f := (if_pos q8).symm.trans f
      refine lv_aload_n S.1 S.2.1 dX12_surferLine_32 rfl (lv_at hl 0 rfl) ?_
      obtain ⟨r9, e10, f⟩ := ob f
      refine o_gR S lf12_surferLine_27 I e10 dX12_surferLine_33 ?_
      refine lv_iconst (v := 5) S.1 S.2.1 dX12_surferLine_36 (by decide) ?_
      refine lv_aload_n S.1 S.2.1 dX12_surferLine_37 rfl (lv_at hl 0 rfl) ?_
      obtain ⟨v11, e12, f⟩ := ob f
      refine o_gI S lf12_surferLine_222 I e12 dX12_surferLine_38 ?_
      refine lv_aload_n S.1 S.2.1 dX12_surferLine_41 rfl (lv_at hl 0 rfl) ?_
      obtain ⟨v13, e14, f⟩ := ob f
      refine o_gI S lf12_surferLine_183 I e14 dX12_surferLine_42 ?_
      obtain ⟨o15, e16, f⟩ := ob f
      refine o_Si S (As := [.ref (b + r9), .int 5, .int v11, .int v13]) (rest := []) (M12_find l D cy b A fl e16) gX12_surferLine_X12_find rfl rfl rfl cd12_find ⟨Nat.le_of_ble_eq_true rfl, Nat.le_of_ble_eq_true rfl⟩ I rfl hl.1 rfl (Nat.le_of_ble_eq_true rfl) dX12_surferLine_45 ⟨Nat.le_of_ble_eq_true rfl, Nat.le_of_ble_eq_true rfl⟩ (fun H locs I => ?_)
      refine lv_if_lt (tgt := 57) S.1 S.2.1 dX12_surferLine_48 (by decide) (fun q17 => ?_) (fun q17 => ?_)
      · have f := (if_pos q17).symm.trans f
        refine lv_iconst (v := 5) S.1 S.2.1 dX12_surferLine_57 (by decide) ?_
        refine lv_aload_n S.1 S.2.1 dX12_surferLine_58 rfl (lv_at hl 0 rfl) ?_
        obtain ⟨v18, e19, f⟩ := ob f
        refine o_gI S lf12_surferLine_222 I e19 dX12_surferLine_59 ?_
        refine lv_iadd S.1 S.2.1 dX12_surferLine_62 ?_
        refine lv_istore_n (lv' := [(1, .int (5 + v18)), (0, .ref (b + a0))]) S.1 S.2.1 dX12_surferLine_63 rfl hl (by decide) rfl (fun ls hl => ?_)
        refine lv_aload_n S.1 S.2.1 dX12_surferLine_64 rfl (lv_at hl 1 rfl) ?_
        obtain ⟨r20, e21, f⟩ := ob f
        refine o_gR S lf12_surferLine_27 I e21 dX12_surferLine_65 ?_
        refine lv_iload_n S.1 S.2.1 dX12_surferLine_68 rfl (lv_at hl 0 rfl) ?_
        refine lv_aload_n S.1 S.2.1 dX12_surferLine_69 rfl (lv_at hl 1 rfl) ?_
        obtain ⟨v22, e23, f⟩ := ob f
        refine o_gI S lf12_surferLine_183 I e23 dX12_surferLine_70 ?_
        obtain ⟨h25, e24, f⟩ := ob f
        refine o_iast S I e24 dX12_surferLine_73 (fun H locs I => ?_)
        refine lv_aload_n S.1 S.2.1 dX12_surferLine_74 rfl (lv_at hl 1 rfl) ?_
        obtain ⟨o26, e27, f⟩ := ob f
        refine o_Vv S (As := []) (rest := []) (ci := 12) (M12_token l D cy b A fl e27) gX12_surferLine_X12_token rfl rfl rfl cd12_token ⟨Nat.le_of_ble_eq_true rfl, Nat.le_of_ble_eq_true rfl⟩ I (gd e27).1 clX12 rfl rfl hl.1 rfl (Nat.le_of_ble_eq_true rfl) dX12_surferLine_75 ⟨Nat.le_of_ble_eq_true rfl, Nat.le_of_ble_eq_true rfl⟩ (fun H locs I => ?_)
        refine lv_aload_n S.1 S.2.1 dX12_surferLine_78 rfl (lv_at hl 1 rfl) ?_
        obtain ⟨o28, e29, f⟩ := ob f
        refine o_Vi S (As := []) (rest := []) (ci := 12) (M12_cellRead l D cy b A fl e29) gX12_surferLine_X12_cellRead rfl rfl rfl cd12_cellRead ⟨Nat.le_of_ble_eq_true rfl, Nat.le_of_ble_eq_true rfl⟩ I (gd e29).1 clX12 rfl rfl hl.1 rfl (Nat.le_of_ble_eq_true rfl) dX12_surferLine_79 ⟨Nat.le_of_ble_eq_true rfl, Nat.le_of_ble_eq_true rfl⟩ (fun H locs I => ?_)
        refine lv_if_ne (tgt := 87) S.1 S.2.1 dX12_surferLine_82 (by decide) (fun q30 => ?_) (fun q30 => ?_)
        · have f := (if_neg q30).symm.trans f
          refine lv_aload_n S.1 S.2.1 dX12_surferLine_87 rfl (lv_at hl 1 rfl) ?_
          obtain ⟨r31, e32, f⟩ := ob f
          refine o_gR S lf12_surferLine_30 I e32 dX12_surferLine_88 ?_
          refine lv_iload_n S.1 S.2.1 dX12_surferLine_91 rfl (lv_at hl 0 rfl) ?_
          refine lv_aload_n S.1 S.2.1 dX12_surferLine_92 rfl (lv_at hl 1 rfl) ?_
          obtain ⟨v33, e34, f⟩ := ob f
          refine o_gI S lf12_surferLine_216 I e34 dX12_surferLine_93 ?_
          refine lv_aload_n S.1 S.2.1 dX12_surferLine_96 rfl (lv_at hl 1 rfl) ?_
          obtain ⟨v35, e36, f⟩ := ob f
          refine o_gI S lf12_surferLine_203 I e36 dX12_surferLine_97 ?_
          refine lv_imul S.1 S.2.1 dX12_surferLine_100 ?_
          refine lv_aload_n S.1 S.2.1 dX12_surferLine_101 rfl (lv_at hl 1 rfl) ?_
          obtain ⟨v37, e38, f⟩ := ob f
          refine o_gI S lf12_surferLine_266 I e38 dX12_surferLine_102 ?_
          refine lv_iadd S.1 S.2.1 dX12_surferLine_105 ?_
          obtain ⟨h40, e39, f⟩ := ob f
          refine o_iast S I e39 dX12_surferLine_106 (fun H locs I => ?_)
          refine lv_aload_n S.1 S.2.1 dX12_surferLine_107 rfl (lv_at hl 1 rfl) ?_
          refine lv_iconst (v := 1) S.1 S.2.1 dX12_surferLine_108 (by decide) ?_
          refine lv_bipush (v := 9) S.1 S.2.1 dX12_surferLine_109 (by decide) ?_
          obtain ⟨o41, e42, f⟩ := ob f
          refine o_Vi S (As := [.int 1, .int 9]) (rest := []) (ci := 12) (M12_number l D cy b A fl e42) gX12_surferLine_X12_number rfl rfl rfl cd12_number ⟨Nat.le_of_ble_eq_true rfl, Nat.le_of_ble_eq_true rfl⟩ I (gd e42).1 clX12 rfl rfl hl.1 rfl (Nat.le_of_ble_eq_true rfl) dX12_surferLine_111 ⟨Nat.le_of_ble_eq_true rfl, Nat.le_of_ble_eq_true rfl⟩ (fun H locs I => ?_)
          refine lv_if_ne (tgt := 119) S.1 S.2.1 dX12_surferLine_114 (by decide) (fun q43 => ?_) (fun q43 => ?_)
          · have f := (if_neg q43).symm.trans f
            refine lv_aload_n S.1 S.2.1 dX12_surferLine_119 rfl (lv_at hl 1 rfl) ?_
            obtain ⟨r44, e45, f⟩ := ob f
            refine o_gR S lf12_surferLine_33 I e45 dX12_surferLine_120 ?_
            refine lv_iload_n S.1 S.2.1 dX12_surferLine_123 rfl (lv_at hl 0 rfl) ?_
            refine lv_aload_n S.1 S.2.1 dX12_surferLine_124 rfl (lv_at hl 1 rfl) ?_
            obtain ⟨v46, e47, f⟩ := ob f
            refine o_gI S lf12_surferLine_203 I e47 dX12_surferLine_125 ?_
            obtain ⟨h49, e48, f⟩ := ob f
            refine o_iast S I e48 dX12_surferLine_128 (fun H locs I => ?_)
            refine lv_aload_n S.1 S.2.1 dX12_surferLine_129 rfl (lv_at hl 1 rfl) ?_
            refine lv_iconst (v := 1) S.1 S.2.1 dX12_surferLine_130 (by decide) ?_
            refine lv_iconst (v := 3) S.1 S.2.1 dX12_surferLine_131 (by decide) ?_
            obtain ⟨o50, e51, f⟩ := ob f
            refine o_Vi S (As := [.int 1, .int 3]) (rest := []) (ci := 12) (M12_number l D cy b A fl e51) gX12_surferLine_X12_number rfl rfl rfl cd12_number ⟨Nat.le_of_ble_eq_true rfl, Nat.le_of_ble_eq_true rfl⟩ I (gd e51).1 clX12 rfl rfl hl.1 rfl (Nat.le_of_ble_eq_true rfl) dX12_surferLine_132 ⟨Nat.le_of_ble_eq_true rfl, Nat.le_of_ble_eq_true rfl⟩ (fun H locs I => ?_)
            refine lv_if_ne (tgt := 140) S.1 S.2.1 dX12_surferLine_135 (by decide) (fun q52 => ?_) (fun q52 => ?_)
            · have f := (if_neg q52).symm.trans f
              refine lv_aload_n S.1 S.2.1 dX12_surferLine_140 rfl (lv_at hl 1 rfl) ?_
              obtain ⟨r53, e54, f⟩ := ob f
              refine o_gR S lf12_surferLine_36 I e54 dX12_surferLine_141 ?_
              refine lv_iload_n S.1 S.2.1 dX12_surferLine_144 rfl (lv_at hl 0 rfl) ?_
              refine lv_aload_n S.1 S.2.1 dX12_surferLine_145 rfl (lv_at hl 1 rfl) ?_
              obtain ⟨v55, e56, f⟩ := ob f
              refine o_gI S lf12_surferLine_203 I e56 dX12_surferLine_146 ?_
              obtain ⟨h58, e57, f⟩ := ob f
              refine o_iast S I e57 dX12_surferLine_149 (fun H locs I => ?_)
              refine lv_aload_n S.1 S.2.1 dX12_surferLine_150 rfl (lv_at hl 1 rfl) ?_
              refine lv_iconst (v := 0) S.1 S.2.1 dX12_surferLine_151 (by decide) ?_
              refine lv_bipush (v := 100) S.1 S.2.1 dX12_surferLine_152 (by decide) ?_
              obtain ⟨o59, e60, f⟩ := ob f
              refine o_Vi S (As := [.int 0, .int 100]) (rest := []) (ci := 12) (M12_number l D cy b A fl e60) gX12_surferLine_X12_number rfl rfl rfl cd12_number ⟨Nat.le_of_ble_eq_true rfl, Nat.le_of_ble_eq_true rfl⟩ I (gd e60).1 clX12 rfl rfl hl.1 rfl (Nat.le_of_ble_eq_true rfl) dX12_surferLine_154 ⟨Nat.le_of_ble_eq_true rfl, Nat.le_of_ble_eq_true rfl⟩ (fun H locs I => ?_)
              refine lv_if_ne (tgt := 162) S.1 S.2.1 dX12_surferLine_157 (by decide) (fun q61 => ?_) (fun q61 => ?_)
              · have f := (if_neg q61).symm.trans f
                refine lv_aload_n S.1 S.2.1 dX12_surferLine_162 rfl (lv_at hl 1 rfl) ?_
                obtain ⟨r62, e63, f⟩ := ob f
                refine o_gR S lf12_surferLine_39 I e63 dX12_surferLine_163 ?_
                refine lv_iload_n S.1 S.2.1 dX12_surferLine_166 rfl (lv_at hl 0 rfl) ?_
                refine lv_aload_n S.1 S.2.1 dX12_surferLine_167 rfl (lv_at hl 1 rfl) ?_
                obtain ⟨v64, e65, f⟩ := ob f
                refine o_gI S lf12_surferLine_203 I e65 dX12_surferLine_168 ?_
                obtain ⟨h67, e66, f⟩ := ob f
                refine o_iast S I e66 dX12_surferLine_171 (fun H locs I => ?_)
                refine lv_aload_n S.1 S.2.1 dX12_surferLine_172 rfl (lv_at hl 1 rfl) ?_
                refine lv_iconst (v := 0) S.1 S.2.1 dX12_surferLine_173 (by decide) ?_
                refine lv_bipush (v := 100) S.1 S.2.1 dX12_surferLine_174 (by decide) ?_
                obtain ⟨o68, e69, f⟩ := ob f
                refine o_Vi S (As := [.int 0, .int 100]) (rest := []) (ci := 12) (M12_number l D cy b A fl e69) gX12_surferLine_X12_number rfl rfl rfl cd12_number ⟨Nat.le_of_ble_eq_true rfl, Nat.le_of_ble_eq_true rfl⟩ I (gd e69).1 clX12 rfl rfl hl.1 rfl (Nat.le_of_ble_eq_true rfl) dX12_surferLine_176 ⟨Nat.le_of_ble_eq_true rfl, Nat.le_of_ble_eq_true rfl⟩ (fun H locs I => ?_)
                refine lv_if_ne (tgt := 184) S.1 S.2.1 dX12_surferLine_179 (by decide) (fun q70 => ?_) (fun q70 => ?_)
                · have f := (if_neg q70).symm.trans f
                  refine lv_aload_n S.1 S.2.1 dX12_surferLine_184 rfl (lv_at hl 1 rfl) ?_
                  obtain ⟨r71, e72, f⟩ := ob f
                  refine o_gR S lf12_surferLine_42 I e72 dX12_surferLine_185 ?_
                  refine lv_iload_n S.1 S.2.1 dX12_surferLine_188 rfl (lv_at hl 0 rfl) ?_
                  refine lv_aload_n S.1 S.2.1 dX12_surferLine_189 rfl (lv_at hl 1 rfl) ?_
                  obtain ⟨v73, e74, f⟩ := ob f
                  refine o_gI S lf12_surferLine_203 I e74 dX12_surferLine_190 ?_
                  obtain ⟨h76, e75, f⟩ := ob f
                  refine o_iast S I e75 dX12_surferLine_193 (fun H locs I => ?_)
                  refine lv_aload_n S.1 S.2.1 dX12_surferLine_194 rfl (lv_at hl 1 rfl) ?_
                  refine lv_dup S.1 S.2.1 dX12_surferLine_195 rfl ?_
                  obtain ⟨v77, e78, f⟩ := ob f
                  refine o_gI S lf12_surferLine_222 I e78 dX12_surferLine_196 ?_
                  refine lv_iconst (v := 1) S.1 S.2.1 dX12_surferLine_199 (by decide) ?_
                  refine lv_iadd S.1 S.2.1 dX12_surferLine_200 ?_
                  obtain ⟨h79, e80, f⟩ := ob f
                  refine o_pI S lp12_surferLine_222 I e80 dX12_surferLine_201 (fun H locs I => ?_)
                  refine lv_iconst (v := 1) S.1 S.2.1 dX12_surferLine_204 (by decide) ?_
                  exact o_zret S hr hlo I f dX12_surferLine_205
                · have f := (if_pos q70).symm.trans f
                  refine lv_iconst (v := 0) S.1 S.2.1 dX12_surferLine_182 (by decide) ?_
                  exact o_zret S hr hlo I f dX12_surferLine_183
              · have f := (if_pos q61).symm.trans f
                refine lv_iconst (v := 0) S.1 S.2.1 dX12_surferLine_160 (by decide) ?_
                exact o_zret S hr hlo I f dX12_surferLine_161
            · have f := (if_pos q52).symm.trans f
              refine lv_iconst (v := 0) S.1 S.2.1 dX12_surferLine_138 (by decide) ?_
              exact o_zret S hr hlo I f dX12_surferLine_139
          · have f := (if_pos q43).symm.trans f
            refine lv_iconst (v := 0) S.1 S.2.1 dX12_surferLine_117 (by decide) ?_
            exact o_zret S hr hlo I f dX12_surferLine_118
        · have f := (if_pos q30).symm.trans f
          refine lv_iconst (v := 0) S.1 S.2.1 dX12_surferLine_85 (by decide) ?_
          exact o_zret S hr hlo I f dX12_surferLine_86
      · have f := (if_neg q17).symm.trans f
        refine lv_aload_n S.1 S.2.1 dX12_surferLine_51 rfl (lv_at hl 0 rfl) ?_
        refine lv_iconst (v := 3) S.1 S.2.1 dX12_surferLine_52 (by decide) ?_
        obtain ⟨o81, e82, f⟩ := ob f
        refine o_Vi S (As := [.int 3]) (rest := []) (ci := 12) (M12_wrong l D cy b A fl e82) gX12_surferLine_X12_wrong rfl rfl rfl cd12_wrong ⟨Nat.le_of_ble_eq_true rfl, Nat.le_of_ble_eq_true rfl⟩ I (gd e82).1 clX12 rfl rfl hl.1 rfl (Nat.le_of_ble_eq_true rfl) dX12_surferLine_53 ⟨Nat.le_of_ble_eq_true rfl, Nat.le_of_ble_eq_true rfl⟩ (fun H locs I => ?_)
        exact o_zret S hr hlo I f dX12_surferLine_56
    · have f := (if_neg q8).symm.trans f
      refine lv_aload_n S.1 S.2.1 dX12_surferLine_26 rfl (lv_at hl 0 rfl) ?_
      refine lv_iconst (v := 1) S.1 S.2.1 dX12_surferLine_27 (by decide) ?_
      obtain ⟨o83, e84, f⟩ := ob f
      refine o_Vi S (As := [.int 1]) (rest := []) (ci := 12) (M12_wrong l D cy b A fl e84) gX12_surferLine_X12_wrong rfl rfl rfl cd12_wrong ⟨Nat.le_of_ble_eq_true rfl, Nat.le_of_ble_eq_true rfl⟩ I (gd e84).1 clX12 rfl rfl hl.1 rfl (Nat.le_of_ble_eq_true rfl) dX12_surferLine_28 ⟨Nat.le_of_ble_eq_true rfl, Nat.le_of_ble_eq_true rfl⟩ (fun H locs I => ?_)
      exact o_zret S hr hlo I f dX12_surferLine_31
  · have f := (if_pos q3).symm.trans f
    refine lv_aload_n S.1 S.2.1 dX12_surferLine_8 rfl (lv_at hl 0 rfl) ?_
    refine lv_iconst (v := 2) S.1 S.2.1 dX12_surferLine_9 (by decide) ?_
    obtain ⟨o85, e86, f⟩ := ob f
    refine o_Vi S (As := [.int 2]) (rest := []) (ci := 12) (M12_wrong l D cy b A fl e86) gX12_surferLine_X12_wrong rfl rfl rfl cd12_wrong ⟨Nat.le_of_ble_eq_true rfl, Nat.le_of_ble_eq_true rfl⟩ I (gd e86).1 clX12 rfl rfl hl.1 rfl (Nat.le_of_ble_eq_true rfl) dX12_surferLine_10 ⟨Nat.le_of_ble_eq_true rfl, Nat.le_of_ble_eq_true rfl⟩ (fun H locs I => ?_)
    exact o_zret S hr hlo I f dX12_surferLine_13
theorem M12_surferLine (l : Launch) (D : va_G) (cy : Nat → ClassId) (b : Nat) (A : Nat → Prop) (fl : Bool) {h : PH} {a0 : Nat} {out : Int32 × PH} (f : F12_surferLine h a0 = some out) : Met l yX12_surferLine vX12_surferLine ({ frames := 4, cells := 0, slots := 0, locals := 89 } : Room) (va_Pc [.ref (b + a0)] (ph_B D cy b A fl h)) (va_Qi (fun (r : Int32) (u : PH) => (r, u) = out) (ph_B D cy b A fl) A) 0 0 A :=
  o_met (by decide) rfl (Nat.le_of_ble_eq_true rfl) rfl (fun p e s m below meth c S hr hlo hnm ls hl I => T12_surferLine_0 S hr hlo ((gd f).2) I (lv_sub hl [0] rfl))
def vX12_setLine : List Cond := .code yX12_setLine cX12_setLine 4 (some .boolean) :: TB
theorem lf12_setLine_172 : Fl vX12_setLine RX12 172 12 8 := ⟨RX12, TX12, 87, rfl, by decide, (fun w h9 => List.mem_cons_of_mem _ (wC_wsX120 w h9)), (List.mem_cons_of_mem _ wT_26_20)⟩
theorem lf12_setLine_225 : Fl vX12_setLine RX12 225 12 21 := ⟨RX12, TX12, 87, rfl, by decide, (fun w h9 => List.mem_cons_of_mem _ (wC_wsX120 w h9)), (List.mem_cons_of_mem _ wT_12_1)⟩
theorem lp12_setLine_225 : Pl vX12_setLine RX12 225 12 21 .int := ⟨RX12, TX12, 87, tyX12, rfl, by decide, (fun w h9 => List.mem_cons_of_mem _ (wC_wsX120 w h9)), (List.mem_cons_of_mem _ wT_12_1), tyX12_ok, nmX12, rfl, rfl⟩
theorem gX12_setLine_X12_number : GoodIn vX12_setLine (wsV RX12 212 RX12 yX12_number vX12_number) := gV_of wT_28_13 wT_28_14 wT_28_15 wT_1_5 wT_28_16
theorem lf12_setLine_48 : Fl vX12_setLine RX12 48 12 34 := ⟨RX12, TX12, 87, rfl, by decide, (fun w h9 => List.mem_cons_of_mem _ (wC_wsX120 w h9)), (List.mem_cons_of_mem _ wT_10_9)⟩
theorem lf12_setLine_228 : Fl vX12_setLine RX12 228 12 22 := ⟨RX12, TX12, 87, rfl, by decide, (fun w h9 => List.mem_cons_of_mem _ (wC_wsX120 w h9)), (List.mem_cons_of_mem _ wT_12_2)⟩
theorem lf12_setLine_51 : Fl vX12_setLine RX12 51 12 35 := ⟨RX12, TX12, 87, rfl, by decide, (fun w h9 => List.mem_cons_of_mem _ (wC_wsX120 w h9)), (List.mem_cons_of_mem _ wT_10_10)⟩
theorem lf12_setLine_203 : Fl vX12_setLine RX12 203 12 11 := ⟨RX12, TX12, 87, rfl, by decide, (fun w h9 => List.mem_cons_of_mem _ (wC_wsX120 w h9)), (List.mem_cons_of_mem _ wT_28_12)⟩
theorem lf12_setLine_54 : Fl vX12_setLine RX12 54 12 36 := ⟨RX12, TX12, 87, rfl, by decide, (fun w h9 => List.mem_cons_of_mem _ (wC_wsX120 w h9)), (List.mem_cons_of_mem _ wT_10_11)⟩
theorem lp12_setLine_228 : Pl vX12_setLine RX12 228 12 22 .int := ⟨RX12, TX12, 87, tyX12, rfl, by decide, (fun w h9 => List.mem_cons_of_mem _ (wC_wsX120 w h9)), (List.mem_cons_of_mem _ wT_12_2), tyX12_ok, nmX12, rfl, rfl⟩
theorem gX12_setLine_X12_wrong : GoodIn vX12_setLine (wsV RX12 196 RX12 yX12_wrong vX12_wrong) := gV_of wT_28_4 wT_28_5 wT_28_6 wT_1_5 wT_28_7
theorem lf12_setLine_45 : Fl vX12_setLine RX12 45 12 33 := ⟨RX12, TX12, 87, rfl, by decide, (fun w h9 => List.mem_cons_of_mem _ (wC_wsX120 w h9)), (List.mem_cons_of_mem _ wT_10_8)⟩
theorem gX12_setLine_X12_token : GoodIn vX12_setLine (wsV RX12 206 RX12 yX12_token vX12_token) := gV_of wT_26_21 wT_26_22 wT_26_23 wT_1_5 wT_27_0
theorem lf12_setLine_163 : Fl vX12_setLine RX12 163 12 10 := ⟨RX12, TX12, 87, rfl, by decide, (fun w h9 => List.mem_cons_of_mem _ (wC_wsX120 w h9)), (List.mem_cons_of_mem _ wT_27_1)⟩
theorem lp12_setLine_163 : Pl vX12_setLine RX12 163 12 10 .int := ⟨RX12, TX12, 87, tyX12, rfl, by decide, (fun w h9 => List.mem_cons_of_mem _ (wC_wsX120 w h9)), (List.mem_cons_of_mem _ wT_27_1), tyX12_ok, nmX12, rfl, rfl⟩
theorem cd12_setLine : Cd yX12_setLine 0 := ⟨by decide, by decide, by decide +kernel⟩
set_option maxHeartbeats 4000000 in
set_option maxRecDepth 100000 in
theorem T12_setLine_110 (S : CallFix p m c cX12_setLine 4 s args vX12_setLine RX12) (hr : meth.sig.returnType = (some .boolean)) (hlo : meth.locks = false) {out : Int32 × PH} : ∀ (n : Nat) {h : PH} {a0 : Nat} {x2 : Int32} {x3 : Int32} (f : F12_setLine_110  n h a0 x2 x3 = some out) {H : Heap} {locs : List Loc} (I : ph_I D cy b A fl h s H locs) {ls : Array Slot} (hl : lv_has ls 4 [(0, .ref (b + a0)), (2, .int x2), (3, .int x3)]), W p l e ({ frames := 3, cells := 0, slots := 0, locals := 69 } : Room) s m args below meth c H locs 0 0 (MQ below (va_Qi (fun (r : Int32) (u : PH) => (r, u) = out) (ph_B D cy b A fl) A) args s 0 0 A) (F0 m 110 ls []) := by
  intro n
  induction n with
  | zero => intro h a0 x2 x3 f; rw [F12_setLine_110] at f; cases f
  | succ n ih =>
    intro h a0 x2 x3 f H locs I ls hl
    rw [F12_setLine_110] at f
    refine lv_aload_n S.1 S.2.1 dX12_setLine_110 rfl (lv_at hl 0 rfl) ?_
    obtain ⟨v1, e2, f⟩ := ob f
    refine o_gI S lf12_setLine_172 I e2 dX12_setLine_111 ?_
    refine lv_iconst (v := 3) S.1 S.2.1 dX12_setLine_114 (by decide) ?_
    refine lv_icmp_ne (tgt := 205) S.1 S.2.1 dX12_setLine_115 (by decide) (fun q3 => ?_) (fun q3 => ?_)
    · have f := (if_neg q3).symm.trans f
      refine lv_aload_n S.1 S.2.1 dX12_setLine_205 rfl (lv_at hl 0 rfl) ?_
      refine lv_dup S.1 S.2.1 dX12_setLine_206 rfl ?_
      obtain ⟨v4, e5, f⟩ := ob f
      refine o_gI S lf12_setLine_225 I e5 dX12_setLine_207 ?_
      refine lv_iconst (v := 1) S.1 S.2.1 dX12_setLine_210 (by decide) ?_
      refine lv_iadd S.1 S.2.1 dX12_setLine_211 ?_
      obtain ⟨h6, e7, f⟩ := ob f
      refine o_pI S lp12_setLine_225 I e7 dX12_setLine_212 (fun H locs I => ?_)
      refine lv_iconst (v := 1) S.1 S.2.1 dX12_setLine_215 (by decide) ?_
      exact o_zret S hr hlo I f dX12_setLine_216
    · have f := (if_pos q3).symm.trans f
      refine lv_iload_n S.1 S.2.1 dX12_setLine_118 rfl (lv_at hl 2 rfl) ?_
      refine lv_bipush (v := 7) S.1 S.2.1 dX12_setLine_119 (by decide) ?_
      refine lv_icmp_ne (tgt := 130) S.1 S.2.1 dX12_setLine_121 (by decide) (fun q8 => ?_) (fun q8 => ?_)
      · have f := (if_neg q8).symm.trans f
        refine lv_aload_n S.1 S.2.1 dX12_setLine_130 rfl (lv_at hl 0 rfl) ?_
        refine lv_iconst (v := 1) S.1 S.2.1 dX12_setLine_131 (by decide) ?_
        refine lv_bipush (v := 9) S.1 S.2.1 dX12_setLine_132 (by decide) ?_
        obtain ⟨o9, e10, f⟩ := ob f
        refine o_Vi S (As := [.int 1, .int 9]) (rest := []) (ci := 12) (M12_number l D cy b A fl e10) gX12_setLine_X12_number rfl rfl rfl cd12_number ⟨Nat.le_of_ble_eq_true rfl, Nat.le_of_ble_eq_true rfl⟩ I (gd e10).1 clX12 rfl rfl hl.1 rfl (Nat.le_of_ble_eq_true rfl) dX12_setLine_134 ⟨Nat.le_of_ble_eq_true rfl, Nat.le_of_ble_eq_true rfl⟩ (fun H locs I => ?_)
        refine lv_if_ne (tgt := 142) S.1 S.2.1 dX12_setLine_137 (by decide) (fun q11 => ?_) (fun q11 => ?_)
        · have f := (if_neg q11).symm.trans f
          refine lv_aload_n S.1 S.2.1 dX12_setLine_142 rfl (lv_at hl 0 rfl) ?_
          obtain ⟨r12, e13, f⟩ := ob f
          refine o_gR S lf12_setLine_48 I e13 dX12_setLine_143 ?_
          refine lv_bipush (v := 28) S.1 S.2.1 dX12_setLine_146 (by decide) ?_
          refine lv_aload_n S.1 S.2.1 dX12_setLine_148 rfl (lv_at hl 0 rfl) ?_
          obtain ⟨v14, e15, f⟩ := ob f
          refine o_gI S lf12_setLine_228 I e15 dX12_setLine_149 ?_
          refine lv_iadd S.1 S.2.1 dX12_setLine_152 ?_
          refine lv_iload_n S.1 S.2.1 dX12_setLine_153 rfl (lv_at hl 1 rfl) ?_
          refine lv_iload_n S.1 S.2.1 dX12_setLine_154 rfl (lv_at hl 2 rfl) ?_
          refine lv_iadd S.1 S.2.1 dX12_setLine_155 ?_
          obtain ⟨h17, e16, f⟩ := ob f
          refine o_iast S I e16 dX12_setLine_156 (fun H locs I => ?_)
          refine lv_aload_n S.1 S.2.1 dX12_setLine_157 rfl (lv_at hl 0 rfl) ?_
          obtain ⟨r18, e19, f⟩ := ob f
          refine o_gR S lf12_setLine_51 I e19 dX12_setLine_158 ?_
          refine lv_bipush (v := 28) S.1 S.2.1 dX12_setLine_161 (by decide) ?_
          refine lv_aload_n S.1 S.2.1 dX12_setLine_163 rfl (lv_at hl 0 rfl) ?_
          obtain ⟨v20, e21, f⟩ := ob f
          refine o_gI S lf12_setLine_228 I e21 dX12_setLine_164 ?_
          refine lv_iadd S.1 S.2.1 dX12_setLine_167 ?_
          refine lv_aload_n S.1 S.2.1 dX12_setLine_168 rfl (lv_at hl 0 rfl) ?_
          obtain ⟨v22, e23, f⟩ := ob f
          refine o_gI S lf12_setLine_203 I e23 dX12_setLine_169 ?_
          obtain ⟨h25, e24, f⟩ := ob f
          refine o_iast S I e24 dX12_setLine_172 (fun H locs I => ?_)
          refine lv_aload_n S.1 S.2.1 dX12_setLine_173 rfl (lv_at hl 0 rfl) ?_
          obtain ⟨r26, e27, f⟩ := ob f
          refine o_gR S lf12_setLine_54 I e27 dX12_setLine_174 ?_
          refine lv_bipush (v := 28) S.1 S.2.1 dX12_setLine_177 (by decide) ?_
          refine lv_aload_n S.1 S.2.1 dX12_setLine_179 rfl (lv_at hl 0 rfl) ?_
          obtain ⟨v28, e29, f⟩ := ob f
          refine o_gI S lf12_setLine_228 I e29 dX12_setLine_180 ?_
          refine lv_iadd S.1 S.2.1 dX12_setLine_183 ?_
          refine lv_aload_n S.1 S.2.1 dX12_setLine_184 rfl (lv_at hl 0 rfl) ?_
          obtain ⟨v30, e31, f⟩ := ob f
          refine o_gI S lf12_setLine_225 I e31 dX12_setLine_185 ?_
          obtain ⟨h33, e32, f⟩ := ob f
          refine o_iast S I e32 dX12_setLine_188 (fun H locs I => ?_)
          refine lv_aload_n S.1 S.2.1 dX12_setLine_189 rfl (lv_at hl 0 rfl) ?_
          refine lv_dup S.1 S.2.1 dX12_setLine_190 rfl ?_
          obtain ⟨v34, e35, f⟩ := ob f
          refine o_gI S lf12_setLine_228 I e35 dX12_setLine_191 ?_
          refine lv_iconst (v := 1) S.1 S.2.1 dX12_setLine_194 (by decide) ?_
          refine lv_iadd S.1 S.2.1 dX12_setLine_195 ?_
          obtain ⟨h36, e37, f⟩ := ob f
          refine o_pI S lp12_setLine_228 I e37 dX12_setLine_196 (fun H locs I => ?_)
          refine lv_iinc (v := (x3 + 1)) (lv' := [(3, .int (x3 + 1)), (0, .ref (b + a0)), (2, .int x2)]) S.1 S.2.1 dX12_setLine_199 hl (k := 2) rfl (congrArg (fun z => x3 + z) (by decide)) (by decide) rfl (fun ls hl => ?_)
          refine lv_goto (tgt := 110) S.1 S.2.1 dX12_setLine_202 (by decide) ?_
          exact ih f I (lv_sub hl [1, 2, 0] rfl)
        · have f := (if_pos q11).symm.trans f
          refine lv_iconst (v := 0) S.1 S.2.1 dX12_setLine_140 (by decide) ?_
          exact o_zret S hr hlo I f dX12_setLine_141
      · have f := (if_pos q8).symm.trans f
        refine lv_aload_n S.1 S.2.1 dX12_setLine_124 rfl (lv_at hl 0 rfl) ?_
        refine lv_iconst (v := 2) S.1 S.2.1 dX12_setLine_125 (by decide) ?_
        obtain ⟨o38, e39, f⟩ := ob f
        refine o_Vi S (As := [.int 2]) (rest := []) (ci := 12) (M12_wrong l D cy b A fl e39) gX12_setLine_X12_wrong rfl rfl rfl cd12_wrong ⟨Nat.le_of_ble_eq_true rfl, Nat.le_of_ble_eq_true rfl⟩ I (gd e39).1 clX12 rfl rfl hl.1 rfl (Nat.le_of_ble_eq_true rfl) dX12_setLine_126 ⟨Nat.le_of_ble_eq_true rfl, Nat.le_of_ble_eq_true rfl⟩ (fun H locs I => ?_)
        exact o_zret S hr hlo I f dX12_setLine_129
set_option maxHeartbeats 4000000 in
set_option maxRecDepth 100000 in
theorem T12_setLine_74 (S : CallFix p m c cX12_setLine 4 s args vX12_setLine RX12) (hr : meth.sig.returnType = (some .boolean)) (hlo : meth.locks = false) {out : Int32 × PH} {h : PH} {a0 : Nat} (f : F12_setLine_74  h a0 = some out) {H : Heap} {locs : List Loc} (I : ph_I D cy b A fl h s H locs) {ls : Array Slot} (hl : lv_has ls 4 [(0, .ref (b + a0))]) : W p l e ({ frames := 3, cells := 0, slots := 0, locals := 69 } : Room) s m args below meth c H locs 0 0 (MQ below (va_Qi (fun (r : Int32) (u : PH) => (r, u) = out) (ph_B D cy b A fl) A) args s 0 0 A) (F0 m 74 ls []) := by
  unfold F12_setLine_74 at f
  refine lv_aload_n S.1 S.2.1 dX12_setLine_74 rfl (lv_at hl 0 rfl) ?_
  obtain ⟨v1, e2, f⟩ := ob f
  refine o_gI S lf12_setLine_203 I e2 dX12_setLine_75 ?_
  refine lv_istore_n (lv' := [(2, .int v1), (0, .ref (b + a0))]) S.1 S.2.1 dX12_setLine_78 rfl hl (by decide) rfl (fun ls hl => ?_)
  refine lv_aload_n S.1 S.2.1 dX12_setLine_79 rfl (lv_at hl 1 rfl) ?_
  obtain ⟨v3, e4, f⟩ := ob f
  refine o_gI S lf12_setLine_172 I e4 dX12_setLine_80 ?_
  refine lv_iconst (v := 3) S.1 S.2.1 dX12_setLine_83 (by decide) ?_
  refine lv_icmp_eq (tgt := 93) S.1 S.2.1 dX12_setLine_84 (by decide) (fun q5 => ?_) (fun q5 => ?_)
  · have f := (if_pos q5).symm.trans f
    refine lv_aload_n S.1 S.2.1 dX12_setLine_93 rfl (lv_at hl 1 rfl) ?_
    obtain ⟨r6, e7, f⟩ := ob f
    refine o_gR S lf12_setLine_45 I e7 dX12_setLine_94 ?_
    refine lv_iconst (v := 4) S.1 S.2.1 dX12_setLine_97 (by decide) ?_
    refine lv_aload_n S.1 S.2.1 dX12_setLine_98 rfl (lv_at hl 1 rfl) ?_
    obtain ⟨v8, e9, f⟩ := ob f
    refine o_gI S lf12_setLine_225 I e9 dX12_setLine_99 ?_
    refine lv_iadd S.1 S.2.1 dX12_setLine_102 ?_
    refine lv_aload_n S.1 S.2.1 dX12_setLine_103 rfl (lv_at hl 1 rfl) ?_
    obtain ⟨v10, e11, f⟩ := ob f
    refine o_gI S lf12_setLine_228 I e11 dX12_setLine_104 ?_
    obtain ⟨h13, e12, f⟩ := ob f
    refine o_iast S I e12 dX12_setLine_107 (fun H locs I => ?_)
    refine lv_iconst (v := 0) S.1 S.2.1 dX12_setLine_108 (by decide) ?_
    refine lv_istore_n (lv' := [(3, .int 0), (2, .int v1), (0, .ref (b + a0))]) S.1 S.2.1 dX12_setLine_109 rfl hl (by decide) rfl (fun ls hl => ?_)
    exact T12_setLine_110 S hr hlo  1024 f I (lv_sub hl [2, 1, 0] rfl)
  · have f := (if_neg q5).symm.trans f
    refine lv_aload_n S.1 S.2.1 dX12_setLine_87 rfl (lv_at hl 1 rfl) ?_
    refine lv_iconst (v := 1) S.1 S.2.1 dX12_setLine_88 (by decide) ?_
    obtain ⟨o14, e15, f⟩ := ob f
    refine o_Vi S (As := [.int 1]) (rest := []) (ci := 12) (M12_wrong l D cy b A fl e15) gX12_setLine_X12_wrong rfl rfl rfl cd12_wrong ⟨Nat.le_of_ble_eq_true rfl, Nat.le_of_ble_eq_true rfl⟩ I (gd e15).1 clX12 rfl rfl hl.1 rfl (Nat.le_of_ble_eq_true rfl) dX12_setLine_89 ⟨Nat.le_of_ble_eq_true rfl, Nat.le_of_ble_eq_true rfl⟩ (fun H locs I => ?_)
    exact o_zret S hr hlo I f dX12_setLine_92
set_option maxHeartbeats 4000000 in
set_option maxRecDepth 100000 in
theorem T12_setLine_0 (S : CallFix p m c cX12_setLine 4 s args vX12_setLine RX12) (hr : meth.sig.returnType = (some .boolean)) (hlo : meth.locks = false) {out : Int32 × PH} {h : PH} {a0 : Nat} (f : F12_setLine_0  h a0 = some out) {H : Heap} {locs : List Loc} (I : ph_I D cy b A fl h s H locs) {ls : Array Slot} (hl : lv_has ls 4 [(0, .ref (b + a0))]) : W p l e ({ frames := 3, cells := 0, slots := 0, locals := 69 } : Room) s m args below meth c H locs 0 0 (MQ below (va_Qi (fun (r : Int32) (u : PH) => (r, u) = out) (ph_B D cy b A fl) A) args s 0 0 A) (F0 m 0 ls []) := by
  unfold F12_setLine_0 at f
  refine lv_aload_n S.1 S.2.1 dX12_setLine_0 rfl (lv_at hl 0 rfl) ?_
  obtain ⟨v1, e2, f⟩ := ob f
  refine o_gI S lf12_setLine_225 I e2 dX12_setLine_1 ?_
  refine lv_iconst (v := 4) S.1 S.2.1 dX12_setLine_4 (by decide) ?_
  refine lv_icmp_ne (tgt := 14) S.1 S.2.1 dX12_setLine_5 (by decide) (fun q3 => ?_) (fun q3 => ?_)
  · have f := (if_neg q3).symm.trans f
    refine lv_aload_n S.1 S.2.1 dX12_setLine_14 rfl (lv_at hl 0 rfl) ?_
    obtain ⟨o4, e5, f⟩ := ob f
    refine o_Vv S (As := []) (rest := []) (ci := 12) (M12_token l D cy b A fl e5) gX12_setLine_X12_token rfl rfl rfl cd12_token ⟨Nat.le_of_ble_eq_true rfl, Nat.le_of_ble_eq_true rfl⟩ I (gd e5).1 clX12 rfl rfl hl.1 rfl (Nat.le_of_ble_eq_true rfl) dX12_setLine_15 ⟨Nat.le_of_ble_eq_true rfl, Nat.le_of_ble_eq_true rfl⟩ (fun H locs I => ?_)
    refine lv_aload_n S.1 S.2.1 dX12_setLine_18 rfl (lv_at hl 0 rfl) ?_
    obtain ⟨v6, e7, f⟩ := ob f
    refine o_gI S lf12_setLine_163 I e7 dX12_setLine_19 ?_
    refine lv_istore_n (lv' := [(1, .int v6), (0, .ref (b + a0))]) S.1 S.2.1 dX12_setLine_22 rfl hl (by decide) rfl (fun ls hl => ?_)
    refine lv_aload_n S.1 S.2.1 dX12_setLine_23 rfl (lv_at hl 1 rfl) ?_
    refine lv_iconst (v := 0) S.1 S.2.1 dX12_setLine_24 (by decide) ?_
    refine lv_bipush (v := 99) S.1 S.2.1 dX12_setLine_25 (by decide) ?_
    obtain ⟨o8, e9, f⟩ := ob f
    refine o_Vi S (As := [.int 0, .int 99]) (rest := []) (ci := 12) (M12_number l D cy b A fl e9) gX12_setLine_X12_number rfl rfl rfl cd12_number ⟨Nat.le_of_ble_eq_true rfl, Nat.le_of_ble_eq_true rfl⟩ I (gd e9).1 clX12 rfl rfl hl.1 rfl (Nat.le_of_ble_eq_true rfl) dX12_setLine_27 ⟨Nat.le_of_ble_eq_true rfl, Nat.le_of_ble_eq_true rfl⟩ (fun H locs I => ?_)
    refine lv_if_ne (tgt := 35) S.1 S.2.1 dX12_setLine_30 (by decide) (fun q10 => ?_) (fun q10 => ?_)
    · have f := (if_neg q10).symm.trans f
      refine lv_aload_n S.1 S.2.1 dX12_setLine_35 rfl (lv_at hl 1 rfl) ?_
      obtain ⟨v11, e12, f⟩ := ob f
      refine o_gI S lf12_setLine_228 I e12 dX12_setLine_36 ?_
      refine lv_if_le (tgt := 74) S.1 S.2.1 dX12_setLine_39 (by decide) (fun q13 => ?_) (fun q13 => ?_)
      · have f := (if_pos q13).symm.trans f
        exact T12_setLine_74 S hr hlo  f I (lv_sub hl [1] rfl)
      · have f := (if_neg q13).symm.trans f
        refine lv_aload_n S.1 S.2.1 dX12_setLine_42 rfl (lv_at hl 1 rfl) ?_
        obtain ⟨v14, e15, f⟩ := ob f
        refine o_gI S lf12_setLine_203 I e15 dX12_setLine_43 ?_
        refine lv_aload_n S.1 S.2.1 dX12_setLine_46 rfl (lv_at hl 1 rfl) ?_
        obtain ⟨r16, e17, f⟩ := ob f
        refine o_gR S lf12_setLine_48 I e17 dX12_setLine_47 ?_
        refine lv_bipush (v := 28) S.1 S.2.1 dX12_setLine_50 (by decide) ?_
        refine lv_aload_n S.1 S.2.1 dX12_setLine_52 rfl (lv_at hl 1 rfl) ?_
        obtain ⟨v18, e19, f⟩ := ob f
        refine o_gI S lf12_setLine_228 I e19 dX12_setLine_53 ?_
        refine lv_iadd S.1 S.2.1 dX12_setLine_56 ?_
        refine lv_iconst (v := 1) S.1 S.2.1 dX12_setLine_57 (by decide) ?_
        refine lv_isub S.1 S.2.1 dX12_setLine_58 ?_
        obtain ⟨v21, e20, f⟩ := ob f
        refine o_iald S I e20 dX12_setLine_59 ?_
        refine lv_icmp_gt (tgt := 74) S.1 S.2.1 dX12_setLine_60 (by decide) (fun q22 => ?_) (fun q22 => ?_)
        · have f := (if_pos q22).symm.trans f
          exact T12_setLine_74 S hr hlo  f I (lv_sub hl [1] rfl)
        · have f := (if_neg q22).symm.trans f
          refine lv_aload_n S.1 S.2.1 dX12_setLine_63 rfl (lv_at hl 1 rfl) ?_
          refine lv_iload_n S.1 S.2.1 dX12_setLine_64 rfl (lv_at hl 0 rfl) ?_
          obtain ⟨h23, e24, f⟩ := ob f
          refine o_pI S lp12_setLine_163 I e24 dX12_setLine_65 (fun H locs I => ?_)
          refine lv_aload_n S.1 S.2.1 dX12_setLine_68 rfl (lv_at hl 1 rfl) ?_
          refine lv_iconst (v := 5) S.1 S.2.1 dX12_setLine_69 (by decide) ?_
          obtain ⟨o25, e26, f⟩ := ob f
          refine o_Vi S (As := [.int 5]) (rest := []) (ci := 12) (M12_wrong l D cy b A fl e26) gX12_setLine_X12_wrong rfl rfl rfl cd12_wrong ⟨Nat.le_of_ble_eq_true rfl, Nat.le_of_ble_eq_true rfl⟩ I (gd e26).1 clX12 rfl rfl hl.1 rfl (Nat.le_of_ble_eq_true rfl) dX12_setLine_70 ⟨Nat.le_of_ble_eq_true rfl, Nat.le_of_ble_eq_true rfl⟩ (fun H locs I => ?_)
          exact o_zret S hr hlo I f dX12_setLine_73
    · have f := (if_pos q10).symm.trans f
      refine lv_iconst (v := 0) S.1 S.2.1 dX12_setLine_33 (by decide) ?_
      exact o_zret S hr hlo I f dX12_setLine_34
  · have f := (if_pos q3).symm.trans f
    refine lv_aload_n S.1 S.2.1 dX12_setLine_8 rfl (lv_at hl 0 rfl) ?_
    refine lv_iconst (v := 2) S.1 S.2.1 dX12_setLine_9 (by decide) ?_
    obtain ⟨o27, e28, f⟩ := ob f
    refine o_Vi S (As := [.int 2]) (rest := []) (ci := 12) (M12_wrong l D cy b A fl e28) gX12_setLine_X12_wrong rfl rfl rfl cd12_wrong ⟨Nat.le_of_ble_eq_true rfl, Nat.le_of_ble_eq_true rfl⟩ I (gd e28).1 clX12 rfl rfl hl.1 rfl (Nat.le_of_ble_eq_true rfl) dX12_setLine_10 ⟨Nat.le_of_ble_eq_true rfl, Nat.le_of_ble_eq_true rfl⟩ (fun H locs I => ?_)
    exact o_zret S hr hlo I f dX12_setLine_13
theorem M12_setLine (l : Launch) (D : va_G) (cy : Nat → ClassId) (b : Nat) (A : Nat → Prop) (fl : Bool) {h : PH} {a0 : Nat} {out : Int32 × PH} (f : F12_setLine h a0 = some out) : Met l yX12_setLine vX12_setLine ({ frames := 3, cells := 0, slots := 0, locals := 69 } : Room) (va_Pc [.ref (b + a0)] (ph_B D cy b A fl h)) (va_Qi (fun (r : Int32) (u : PH) => (r, u) = out) (ph_B D cy b A fl) A) 0 0 A :=
  o_met (by decide) rfl (Nat.le_of_ble_eq_true rfl) rfl (fun p e s m below meth c S hr hlo hnm ls hl I => T12_setLine_0 S hr hlo ((gd f).2) I (lv_sub hl [0] rfl))
def vX12_onceLine : List Cond := .code yX12_onceLine cX12_onceLine 2 (some .boolean) :: TB
theorem gX12_onceLine_X12_wrong : GoodIn vX12_onceLine (wsV RX12 196 RX12 yX12_wrong vX12_wrong) := gV_of wT_28_4 wT_28_5 wT_28_6 wT_1_5 wT_28_7
theorem lf12_onceLine_20 : Fl vX12_onceLine RX12 20 12 25 := ⟨RX12, TX12, 87, rfl, by decide, (fun w h9 => List.mem_cons_of_mem _ (wC_wsX120 w h9)), (List.mem_cons_of_mem _ wT_10_0)⟩
theorem gX12_onceLine_X12_token : GoodIn vX12_onceLine (wsV RX12 206 RX12 yX12_token vX12_token) := gV_of wT_26_21 wT_26_22 wT_26_23 wT_1_5 wT_27_0
theorem lf12_onceLine_172 : Fl vX12_onceLine RX12 172 12 8 := ⟨RX12, TX12, 87, rfl, by decide, (fun w h9 => List.mem_cons_of_mem _ (wC_wsX120 w h9)), (List.mem_cons_of_mem _ wT_26_20)⟩
theorem lf12_onceLine_183 : Fl vX12_onceLine RX12 183 12 9 := ⟨RX12, TX12, 87, rfl, by decide, (fun w h9 => List.mem_cons_of_mem _ (wC_wsX120 w h9)), (List.mem_cons_of_mem _ wT_27_2)⟩
theorem lf12_onceLine_24 : Fl vX12_onceLine RX12 24 12 26 := ⟨RX12, TX12, 87, rfl, by decide, (fun w h9 => List.mem_cons_of_mem _ (wC_wsX120 w h9)), (List.mem_cons_of_mem _ wT_10_1)⟩
theorem gX12_onceLine_X12_number : GoodIn vX12_onceLine (wsV RX12 212 RX12 yX12_number vX12_number) := gV_of wT_28_13 wT_28_14 wT_28_15 wT_1_5 wT_28_16
theorem lf12_onceLine_203 : Fl vX12_onceLine RX12 203 12 11 := ⟨RX12, TX12, 87, rfl, by decide, (fun w h9 => List.mem_cons_of_mem _ (wC_wsX120 w h9)), (List.mem_cons_of_mem _ wT_28_12)⟩
theorem gX12_onceLine_X12_cellRead : GoodIn vX12_onceLine (wsV RX12 273 RX12 yX12_cellRead vX12_cellRead) := gV_of wT_29_4 wT_29_5 wT_29_6 wT_1_5 wT_29_7
theorem lf12_onceLine_266 : Fl vX12_onceLine RX12 266 12 43 := ⟨RX12, TX12, 87, rfl, by decide, (fun w h9 => List.mem_cons_of_mem _ (wC_wsX120 w h9)), (List.mem_cons_of_mem _ wT_29_0)⟩
theorem gX12_onceLine_X12_bankLine : GoodIn vX12_onceLine (wsV RX12 277 RX12 yX12_bankLine vX12_bankLine) := gV_of wT_29_16 wT_29_17 wT_29_18 wT_1_5 wT_29_19
theorem cd12_onceLine : Cd yX12_onceLine 0 := ⟨by decide, by decide, by decide +kernel⟩
set_option maxHeartbeats 4000000 in
set_option maxRecDepth 100000 in
theorem T12_onceLine_168 (S : CallFix p m c cX12_onceLine 2 s args vX12_onceLine RX12) (hr : meth.sig.returnType = (some .boolean)) (hlo : meth.locks = false) {out : Int32 × PH} {h : PH} {a0 : Nat} (f : F12_onceLine_168  h a0 = some out) {H : Heap} {locs : List Loc} (I : ph_I D cy b A fl h s H locs) {ls : Array Slot} (hl : lv_has ls 2 [(0, .ref (b + a0))]) : W p l e ({ frames := 4, cells := 0, slots := 0, locals := 89 } : Room) s m args below meth c H locs 0 0 (MQ below (va_Qi (fun (r : Int32) (u : PH) => (r, u) = out) (ph_B D cy b A fl) A) args s 0 0 A) (F0 m 168 ls []) := by
  unfold F12_onceLine_168 at f
  refine lv_aload_n S.1 S.2.1 dX12_onceLine_168 rfl (lv_at hl 0 rfl) ?_
  refine lv_iconst (v := 1) S.1 S.2.1 dX12_onceLine_169 (by decide) ?_
  obtain ⟨o1, e2, f⟩ := ob f
  refine o_Vi S (As := [.int 1]) (rest := []) (ci := 12) (M12_wrong l D cy b A fl e2) gX12_onceLine_X12_wrong rfl rfl rfl cd12_wrong ⟨Nat.le_of_ble_eq_true rfl, Nat.le_of_ble_eq_true rfl⟩ I (gd e2).1 clX12 rfl rfl hl.1 rfl (Nat.le_of_ble_eq_true rfl) dX12_onceLine_170 ⟨Nat.le_of_ble_eq_true rfl, Nat.le_of_ble_eq_true rfl⟩ (fun H locs I => ?_)
  exact o_zret S hr hlo I f dX12_onceLine_173
set_option maxHeartbeats 4000000 in
set_option maxRecDepth 100000 in
theorem T12_onceLine_37 (S : CallFix p m c cX12_onceLine 2 s args vX12_onceLine RX12) (hr : meth.sig.returnType = (some .boolean)) (hlo : meth.locks = false) {out : Int32 × PH} {h : PH} {a0 : Nat} {s0 : Int32} (f : F12_onceLine_37  h a0 s0 = some out) {H : Heap} {locs : List Loc} (I : ph_I D cy b A fl h s H locs) {ls : Array Slot} (hl : lv_has ls 2 [(0, .ref (b + a0))]) : W p l e ({ frames := 4, cells := 0, slots := 0, locals := 89 } : Room) s m args below meth c H locs 0 0 (MQ below (va_Qi (fun (r : Int32) (u : PH) => (r, u) = out) (ph_B D cy b A fl) A) args s 0 0 A) (F0 m 37 ls [.int s0]) := by
  unfold F12_onceLine_37 at f
  refine lv_istore_n (lv' := [(1, .int s0), (0, .ref (b + a0))]) S.1 S.2.1 dX12_onceLine_37 rfl hl (by decide) rfl (fun ls hl => ?_)
  refine lv_aload_n S.1 S.2.1 dX12_onceLine_38 rfl (lv_at hl 1 rfl) ?_
  obtain ⟨r1, e2, f⟩ := ob f
  refine o_gR S lf12_onceLine_20 I e2 dX12_onceLine_39 ?_
  refine lv_iload_n S.1 S.2.1 dX12_onceLine_42 rfl (lv_at hl 0 rfl) ?_
  obtain ⟨v4, e3, f⟩ := ob f
  refine o_zald S I e3 dX12_onceLine_43 ?_
  refine lv_if_eq (tgt := 53) S.1 S.2.1 dX12_onceLine_44 (by decide) (fun q5 => ?_) (fun q5 => ?_)
  · have f := (if_pos q5).symm.trans f
    refine lv_aload_n S.1 S.2.1 dX12_onceLine_53 rfl (lv_at hl 1 rfl) ?_
    obtain ⟨r6, e7, f⟩ := ob f
    refine o_gR S lf12_onceLine_20 I e7 dX12_onceLine_54 ?_
    refine lv_iload_n S.1 S.2.1 dX12_onceLine_57 rfl (lv_at hl 0 rfl) ?_
    refine lv_iconst (v := 1) S.1 S.2.1 dX12_onceLine_58 (by decide) ?_
    obtain ⟨h9, e8, f⟩ := ob f
    refine o_zast S I e8 dX12_onceLine_59 (fun H locs I => ?_)
    refine lv_iload_n S.1 S.2.1 dX12_onceLine_60 rfl (lv_at hl 0 rfl) ?_
    refine lv_iconst (v := 2) S.1 S.2.1 dX12_onceLine_61 (by decide) ?_
    refine lv_icmp_ne (tgt := 70) S.1 S.2.1 dX12_onceLine_62 (by decide) (fun q10 => ?_) (fun q10 => ?_)
    · have f := (if_neg q10).symm.trans f
      refine lv_aload_n S.1 S.2.1 dX12_onceLine_70 rfl (lv_at hl 1 rfl) ?_
      obtain ⟨o11, e12, f⟩ := ob f
      refine o_Vv S (As := []) (rest := []) (ci := 12) (M12_token l D cy b A fl e12) gX12_onceLine_X12_token rfl rfl rfl cd12_token ⟨Nat.le_of_ble_eq_true rfl, Nat.le_of_ble_eq_true rfl⟩ I (gd e12).1 clX12 rfl rfl hl.1 rfl (Nat.le_of_ble_eq_true rfl) dX12_onceLine_71 ⟨Nat.le_of_ble_eq_true rfl, Nat.le_of_ble_eq_true rfl⟩ (fun H locs I => ?_)
      refine lv_iload_n S.1 S.2.1 dX12_onceLine_74 rfl (lv_at hl 0 rfl) ?_
      refine lv_iconst (v := 1) S.1 S.2.1 dX12_onceLine_75 (by decide) ?_
      refine lv_icmp_ne (tgt := 112) S.1 S.2.1 dX12_onceLine_76 (by decide) (fun q13 => ?_) (fun q13 => ?_)
      · have f := (if_neg q13).symm.trans f
        refine lv_iload_n S.1 S.2.1 dX12_onceLine_112 rfl (lv_at hl 0 rfl) ?_
        refine lv_iconst (v := 4) S.1 S.2.1 dX12_onceLine_113 (by decide) ?_
        refine lv_icmp_ne (tgt := 142) S.1 S.2.1 dX12_onceLine_114 (by decide) (fun q14 => ?_) (fun q14 => ?_)
        · have f := (if_neg q14).symm.trans f
          refine lv_aload_n S.1 S.2.1 dX12_onceLine_142 rfl (lv_at hl 1 rfl) ?_
          obtain ⟨v15, e16, f⟩ := ob f
          refine o_gI S lf12_onceLine_172 I e16 dX12_onceLine_143 ?_
          refine lv_iconst (v := 1) S.1 S.2.1 dX12_onceLine_146 (by decide) ?_
          refine lv_icmp_ne (tgt := 168) S.1 S.2.1 dX12_onceLine_147 (by decide) (fun q17 => ?_) (fun q17 => ?_)
          · have f := (if_neg q17).symm.trans f
            exact T12_onceLine_168 S hr hlo  f I (lv_sub hl [1] rfl)
          · have f := (if_pos q17).symm.trans f
            refine lv_aload_n S.1 S.2.1 dX12_onceLine_150 rfl (lv_at hl 1 rfl) ?_
            obtain ⟨v18, e19, f⟩ := ob f
            refine o_gI S lf12_onceLine_183 I e19 dX12_onceLine_151 ?_
            refine lv_bipush (v := 8) S.1 S.2.1 dX12_onceLine_154 (by decide) ?_
            refine lv_icmp_lt (tgt := 168) S.1 S.2.1 dX12_onceLine_156 (by decide) (fun q20 => ?_) (fun q20 => ?_)
            · have f := (if_pos q20).symm.trans f
              exact T12_onceLine_168 S hr hlo  f I (lv_sub hl [1] rfl)
            · have f := (if_neg q20).symm.trans f
              refine lv_aload_n S.1 S.2.1 dX12_onceLine_159 rfl (lv_at hl 1 rfl) ?_
              obtain ⟨v21, e22, f⟩ := ob f
              refine o_gI S lf12_onceLine_183 I e22 dX12_onceLine_160 ?_
              refine lv_bipush (v := 11) S.1 S.2.1 dX12_onceLine_163 (by decide) ?_
              refine lv_icmp_le (tgt := 174) S.1 S.2.1 dX12_onceLine_165 (by decide) (fun q23 => ?_) (fun q23 => ?_)
              · have f := (if_pos q23).symm.trans f
                refine lv_aload_n S.1 S.2.1 dX12_onceLine_174 rfl (lv_at hl 1 rfl) ?_
                obtain ⟨r24, e25, f⟩ := ob f
                refine o_gR S lf12_onceLine_24 I e25 dX12_onceLine_175 ?_
                refine lv_bipush (v := 12) S.1 S.2.1 dX12_onceLine_178 (by decide) ?_
                refine lv_aload_n S.1 S.2.1 dX12_onceLine_180 rfl (lv_at hl 1 rfl) ?_
                obtain ⟨v26, e27, f⟩ := ob f
                refine o_gI S lf12_onceLine_183 I e27 dX12_onceLine_181 ?_
                refine lv_bipush (v := 8) S.1 S.2.1 dX12_onceLine_184 (by decide) ?_
                refine lv_isub S.1 S.2.1 dX12_onceLine_186 ?_
                obtain ⟨h29, e28, f⟩ := ob f
                refine o_iast S I e28 dX12_onceLine_187 (fun H locs I => ?_)
                refine lv_aload_n S.1 S.2.1 dX12_onceLine_188 rfl (lv_at hl 1 rfl) ?_
                obtain ⟨o30, e31, f⟩ := ob f
                refine o_Vv S (As := []) (rest := []) (ci := 12) (M12_token l D cy b A fl e31) gX12_onceLine_X12_token rfl rfl rfl cd12_token ⟨Nat.le_of_ble_eq_true rfl, Nat.le_of_ble_eq_true rfl⟩ I (gd e31).1 clX12 rfl rfl hl.1 rfl (Nat.le_of_ble_eq_true rfl) dX12_onceLine_189 ⟨Nat.le_of_ble_eq_true rfl, Nat.le_of_ble_eq_true rfl⟩ (fun H locs I => ?_)
                refine lv_iconst (v := 1) S.1 S.2.1 dX12_onceLine_192 (by decide) ?_
                exact o_zret S hr hlo I f dX12_onceLine_193
              · have f := (if_neg q23).symm.trans f
                exact T12_onceLine_168 S hr hlo  f I (lv_sub hl [1] rfl)
        · have f := (if_pos q14).symm.trans f
          refine lv_aload_n S.1 S.2.1 dX12_onceLine_117 rfl (lv_at hl 1 rfl) ?_
          refine lv_iconst (v := 0) S.1 S.2.1 dX12_onceLine_118 (by decide) ?_
          refine lv_ldc (v := 99999) S.1 S.2.1 S.2.2.2.1 (S.2.2.2.2 _ (List.mem_cons_of_mem _ wT_27_3)) dX12_onceLine_119 ?_
          obtain ⟨o32, e33, f⟩ := ob f
          refine o_Vi S (As := [.int 0, .int 99999]) (rest := []) (ci := 12) (M12_number l D cy b A fl e33) gX12_onceLine_X12_number rfl rfl rfl cd12_number ⟨Nat.le_of_ble_eq_true rfl, Nat.le_of_ble_eq_true rfl⟩ I (gd e33).1 clX12 rfl rfl hl.1 rfl (Nat.le_of_ble_eq_true rfl) dX12_onceLine_121 ⟨Nat.le_of_ble_eq_true rfl, Nat.le_of_ble_eq_true rfl⟩ (fun H locs I => ?_)
          refine lv_if_ne (tgt := 129) S.1 S.2.1 dX12_onceLine_124 (by decide) (fun q34 => ?_) (fun q34 => ?_)
          · have f := (if_neg q34).symm.trans f
            refine lv_aload_n S.1 S.2.1 dX12_onceLine_129 rfl (lv_at hl 1 rfl) ?_
            obtain ⟨r35, e36, f⟩ := ob f
            refine o_gR S lf12_onceLine_24 I e36 dX12_onceLine_130 ?_
            refine lv_bipush (v := 13) S.1 S.2.1 dX12_onceLine_133 (by decide) ?_
            refine lv_aload_n S.1 S.2.1 dX12_onceLine_135 rfl (lv_at hl 1 rfl) ?_
            obtain ⟨v37, e38, f⟩ := ob f
            refine o_gI S lf12_onceLine_203 I e38 dX12_onceLine_136 ?_
            obtain ⟨h40, e39, f⟩ := ob f
            refine o_iast S I e39 dX12_onceLine_139 (fun H locs I => ?_)
            refine lv_iconst (v := 1) S.1 S.2.1 dX12_onceLine_140 (by decide) ?_
            exact o_zret S hr hlo I f dX12_onceLine_141
          · have f := (if_pos q34).symm.trans f
            refine lv_iconst (v := 0) S.1 S.2.1 dX12_onceLine_127 (by decide) ?_
            exact o_zret S hr hlo I f dX12_onceLine_128
      · have f := (if_pos q13).symm.trans f
        refine lv_aload_n S.1 S.2.1 dX12_onceLine_79 rfl (lv_at hl 1 rfl) ?_
        obtain ⟨o41, e42, f⟩ := ob f
        refine o_Vi S (As := []) (rest := []) (ci := 12) (M12_cellRead l D cy b A fl e42) gX12_onceLine_X12_cellRead rfl rfl rfl cd12_cellRead ⟨Nat.le_of_ble_eq_true rfl, Nat.le_of_ble_eq_true rfl⟩ I (gd e42).1 clX12 rfl rfl hl.1 rfl (Nat.le_of_ble_eq_true rfl) dX12_onceLine_80 ⟨Nat.le_of_ble_eq_true rfl, Nat.le_of_ble_eq_true rfl⟩ (fun H locs I => ?_)
        refine lv_if_ne (tgt := 88) S.1 S.2.1 dX12_onceLine_83 (by decide) (fun q43 => ?_) (fun q43 => ?_)
        · have f := (if_neg q43).symm.trans f
          refine lv_aload_n S.1 S.2.1 dX12_onceLine_88 rfl (lv_at hl 1 rfl) ?_
          obtain ⟨r44, e45, f⟩ := ob f
          refine o_gR S lf12_onceLine_24 I e45 dX12_onceLine_89 ?_
          refine lv_bipush (v := 7) S.1 S.2.1 dX12_onceLine_92 (by decide) ?_
          refine lv_aload_n S.1 S.2.1 dX12_onceLine_94 rfl (lv_at hl 1 rfl) ?_
          obtain ⟨v46, e47, f⟩ := ob f
          refine o_gI S lf12_onceLine_266 I e47 dX12_onceLine_95 ?_
          obtain ⟨h49, e48, f⟩ := ob f
          refine o_iast S I e48 dX12_onceLine_98 (fun H locs I => ?_)
          refine lv_aload_n S.1 S.2.1 dX12_onceLine_99 rfl (lv_at hl 1 rfl) ?_
          obtain ⟨r50, e51, f⟩ := ob f
          refine o_gR S lf12_onceLine_24 I e51 dX12_onceLine_100 ?_
          refine lv_bipush (v := 8) S.1 S.2.1 dX12_onceLine_103 (by decide) ?_
          refine lv_aload_n S.1 S.2.1 dX12_onceLine_105 rfl (lv_at hl 1 rfl) ?_
          obtain ⟨v52, e53, f⟩ := ob f
          refine o_gI S lf12_onceLine_203 I e53 dX12_onceLine_106 ?_
          obtain ⟨h55, e54, f⟩ := ob f
          refine o_iast S I e54 dX12_onceLine_109 (fun H locs I => ?_)
          refine lv_iconst (v := 1) S.1 S.2.1 dX12_onceLine_110 (by decide) ?_
          exact o_zret S hr hlo I f dX12_onceLine_111
        · have f := (if_pos q43).symm.trans f
          refine lv_iconst (v := 0) S.1 S.2.1 dX12_onceLine_86 (by decide) ?_
          exact o_zret S hr hlo I f dX12_onceLine_87
    · have f := (if_pos q10).symm.trans f
      refine lv_aload_n S.1 S.2.1 dX12_onceLine_65 rfl (lv_at hl 1 rfl) ?_
      obtain ⟨o56, e57, f⟩ := ob f
      refine o_Vi S (As := []) (rest := []) (ci := 12) (M12_bankLine l D cy b A fl e57) gX12_onceLine_X12_bankLine rfl rfl rfl cd12_bankLine ⟨Nat.le_of_ble_eq_true rfl, Nat.le_of_ble_eq_true rfl⟩ I (gd e57).1 clX12 rfl rfl hl.1 rfl (Nat.le_of_ble_eq_true rfl) dX12_onceLine_66 ⟨Nat.le_of_ble_eq_true rfl, Nat.le_of_ble_eq_true rfl⟩ (fun H locs I => ?_)
      exact o_zret S hr hlo I f dX12_onceLine_69
  · have f := (if_neg q5).symm.trans f
    refine lv_aload_n S.1 S.2.1 dX12_onceLine_47 rfl (lv_at hl 1 rfl) ?_
    refine lv_iconst (v := 3) S.1 S.2.1 dX12_onceLine_48 (by decide) ?_
    obtain ⟨o58, e59, f⟩ := ob f
    refine o_Vi S (As := [.int 3]) (rest := []) (ci := 12) (M12_wrong l D cy b A fl e59) gX12_onceLine_X12_wrong rfl rfl rfl cd12_wrong ⟨Nat.le_of_ble_eq_true rfl, Nat.le_of_ble_eq_true rfl⟩ I (gd e59).1 clX12 rfl rfl hl.1 rfl (Nat.le_of_ble_eq_true rfl) dX12_onceLine_49 ⟨Nat.le_of_ble_eq_true rfl, Nat.le_of_ble_eq_true rfl⟩ (fun H locs I => ?_)
    exact o_zret S hr hlo I f dX12_onceLine_52
set_option maxHeartbeats 4000000 in
set_option maxRecDepth 100000 in
theorem T12_onceLine_0 (S : CallFix p m c cX12_onceLine 2 s args vX12_onceLine RX12) (hr : meth.sig.returnType = (some .boolean)) (hlo : meth.locks = false) {out : Int32 × PH} {h : PH} {a0 : Nat} (f : F12_onceLine_0  h a0 = some out) {H : Heap} {locs : List Loc} (I : ph_I D cy b A fl h s H locs) {ls : Array Slot} (hl : lv_has ls 2 [(0, .ref (b + a0))]) : W p l e ({ frames := 4, cells := 0, slots := 0, locals := 89 } : Room) s m args below meth c H locs 0 0 (MQ below (va_Qi (fun (r : Int32) (u : PH) => (r, u) = out) (ph_B D cy b A fl) A) args s 0 0 A) (F0 m 0 ls []) := by
  unfold F12_onceLine_0 at f
  refine lv_aload_n S.1 S.2.1 dX12_onceLine_0 rfl (lv_at hl 0 rfl) ?_
  obtain ⟨v1, e2, f⟩ := ob f
  refine o_gI S lf12_onceLine_183 I e2 dX12_onceLine_1 ?_
  refine lv_iconst (v := 1) S.1 S.2.1 dX12_onceLine_4 (by decide) ?_
  refine lv_icmp_ne (tgt := 12) S.1 S.2.1 dX12_onceLine_5 (by decide) (fun q3 => ?_) (fun q3 => ?_)
  · have f := (if_neg q3).symm.trans f
    refine lv_aload_n S.1 S.2.1 dX12_onceLine_12 rfl (lv_at hl 0 rfl) ?_
    obtain ⟨v4, e5, f⟩ := ob f
    refine o_gI S lf12_onceLine_183 I e5 dX12_onceLine_13 ?_
    refine lv_iconst (v := 4) S.1 S.2.1 dX12_onceLine_16 (by decide) ?_
    refine lv_icmp_ne (tgt := 24) S.1 S.2.1 dX12_onceLine_17 (by decide) (fun q6 => ?_) (fun q6 => ?_)
    · have f := (if_neg q6).symm.trans f
      refine lv_aload_n S.1 S.2.1 dX12_onceLine_24 rfl (lv_at hl 0 rfl) ?_
      obtain ⟨v7, e8, f⟩ := ob f
      refine o_gI S lf12_onceLine_183 I e8 dX12_onceLine_25 ?_
      refine lv_iconst (v := 5) S.1 S.2.1 dX12_onceLine_28 (by decide) ?_
      refine lv_icmp_ne (tgt := 36) S.1 S.2.1 dX12_onceLine_29 (by decide) (fun q9 => ?_) (fun q9 => ?_)
      · have f := (if_neg q9).symm.trans f
        refine lv_iconst (v := 4) S.1 S.2.1 dX12_onceLine_36 (by decide) ?_
        exact T12_onceLine_37 S hr hlo  f I (lv_sub hl [0] rfl)
      · have f := (if_pos q9).symm.trans f
        refine lv_iconst (v := 3) S.1 S.2.1 dX12_onceLine_32 (by decide) ?_
        refine lv_goto (tgt := 37) S.1 S.2.1 dX12_onceLine_33 (by decide) ?_
        exact T12_onceLine_37 S hr hlo  f I (lv_sub hl [0] rfl)
    · have f := (if_pos q6).symm.trans f
      refine lv_iconst (v := 2) S.1 S.2.1 dX12_onceLine_20 (by decide) ?_
      refine lv_goto (tgt := 37) S.1 S.2.1 dX12_onceLine_21 (by decide) ?_
      exact T12_onceLine_37 S hr hlo  f I (lv_sub hl [0] rfl)
  · have f := (if_pos q3).symm.trans f
    refine lv_iconst (v := 1) S.1 S.2.1 dX12_onceLine_8 (by decide) ?_
    refine lv_goto (tgt := 37) S.1 S.2.1 dX12_onceLine_9 (by decide) ?_
    exact T12_onceLine_37 S hr hlo  f I (lv_sub hl [0] rfl)
theorem M12_onceLine (l : Launch) (D : va_G) (cy : Nat → ClassId) (b : Nat) (A : Nat → Prop) (fl : Bool) {h : PH} {a0 : Nat} {out : Int32 × PH} (f : F12_onceLine h a0 = some out) : Met l yX12_onceLine vX12_onceLine ({ frames := 4, cells := 0, slots := 0, locals := 89 } : Room) (va_Pc [.ref (b + a0)] (ph_B D cy b A fl h)) (va_Qi (fun (r : Int32) (u : PH) => (r, u) = out) (ph_B D cy b A fl) A) 0 0 A :=
  o_met (by decide) rfl (Nat.le_of_ble_eq_true rfl) rfl (fun p e s m below meth c S hr hlo hnm ls hl I => T12_onceLine_0 S hr hlo ((gd f).2) I (lv_sub hl [0] rfl))
def vX12_signs : List Cond := .code yX12_signs cX12_signs 2 (some .boolean) :: TB
theorem lp12_signs_323 : Pl vX12_signs RX12 323 12 51 .boolean := ⟨RX12, TX12, 87, tyX12, rfl, by decide, (fun w h9 => List.mem_cons_of_mem _ (wC_wsX120 w h9)), (List.mem_cons_of_mem _ wT_30_4), tyX12_ok, nmX12, rfl, rfl⟩
theorem gX12_signs_X12_token : GoodIn vX12_signs (wsV RX12 206 RX12 yX12_token vX12_token) := gV_of wT_26_21 wT_26_22 wT_26_23 wT_1_5 wT_27_0
theorem gX12_signs_X12_isCounted : GoodIn vX12_signs (wsV RX12 329 RX12 yX12_isCounted vX12_isCounted) := gV_of wT_30_21 wT_30_22 wT_30_23 wT_1_5 wT_31_0
theorem gX12_signs_X12_waitsFor : GoodIn vX12_signs (wsV RX12 319 RX12 yX12_waitsFor vX12_waitsFor) := gV_of wT_30_13 wT_30_14 wT_30_15 wT_1_5 wT_30_16
theorem lp12_signs_335 : Pl vX12_signs RX12 335 12 50 .boolean := ⟨RX12, TX12, 87, tyX12, rfl, by decide, (fun w h9 => List.mem_cons_of_mem _ (wC_wsX120 w h9)), (List.mem_cons_of_mem _ wT_30_3), tyX12_ok, nmX12, rfl, rfl⟩
theorem gX12_signs_X12_rank : GoodIn vX12_signs (va_wsS RX12 304 yX12_rank vX12_rank) := gS_of wT_31_17 wT_31_18 wT_1_5 wT_31_19
theorem gX12_signs_X12_bind : GoodIn vX12_signs (wsV RX12 338 RX12 yX12_bind vX12_bind) := gV_of wT_31_13 wT_31_14 wT_31_15 wT_1_5 wT_31_16
theorem lf12_signs_301 : Fl vX12_signs RX12 301 12 46 := ⟨RX12, TX12, 87, rfl, by decide, (fun w h9 => List.mem_cons_of_mem _ (wC_wsX120 w h9)), (List.mem_cons_of_mem _ wT_30_0)⟩
theorem lf12_signs_75 : Fl vX12_signs RX12 75 12 44 := ⟨RX12, TX12, 87, rfl, by decide, (fun w h9 => List.mem_cons_of_mem _ (wC_wsX120 w h9)), (List.mem_cons_of_mem _ wT_10_18)⟩
theorem gX12_signs_X12_wrong : GoodIn vX12_signs (wsV RX12 196 RX12 yX12_wrong vX12_wrong) := gV_of wT_28_4 wT_28_5 wT_28_6 wT_1_5 wT_28_7
theorem gX12_signs_X12_isKey : GoodIn vX12_signs (wsV RX12 326 RX12 yX12_isKey vX12_isKey) := gV_of wT_30_17 wT_30_18 wT_30_19 wT_1_5 wT_30_20
theorem lf12_signs_172 : Fl vX12_signs RX12 172 12 8 := ⟨RX12, TX12, 87, rfl, by decide, (fun w h9 => List.mem_cons_of_mem _ (wC_wsX120 w h9)), (List.mem_cons_of_mem _ wT_26_20)⟩
theorem gX12_signs_X12_isSign : GoodIn vX12_signs (wsV RX12 209 RX12 yX12_isSign vX12_isSign) := gV_of wT_30_5 wT_30_6 wT_30_7 wT_1_5 wT_30_8
theorem lf12_signs_183 : Fl vX12_signs RX12 183 12 9 := ⟨RX12, TX12, 87, rfl, by decide, (fun w h9 => List.mem_cons_of_mem _ (wC_wsX120 w h9)), (List.mem_cons_of_mem _ wT_27_2)⟩
theorem lf12_signs_316 : Fl vX12_signs RX12 316 12 48 := ⟨RX12, TX12, 87, rfl, by decide, (fun w h9 => List.mem_cons_of_mem _ (wC_wsX120 w h9)), (List.mem_cons_of_mem _ wT_30_2)⟩
theorem lp12_signs_301 : Pl vX12_signs RX12 301 12 46 .int := ⟨RX12, TX12, 87, tyX12, rfl, by decide, (fun w h9 => List.mem_cons_of_mem _ (wC_wsX120 w h9)), (List.mem_cons_of_mem _ wT_30_0), tyX12_ok, nmX12, rfl, rfl⟩
theorem lp12_signs_316 : Pl vX12_signs RX12 316 12 48 .int := ⟨RX12, TX12, 87, tyX12, rfl, by decide, (fun w h9 => List.mem_cons_of_mem _ (wC_wsX120 w h9)), (List.mem_cons_of_mem _ wT_30_2), tyX12_ok, nmX12, rfl, rfl⟩
theorem cd12_signs : Cd yX12_signs 0 := ⟨by decide, by decide, by decide +kernel⟩
set_option maxHeartbeats 4000000 in
set_option maxRecDepth 100000 in
theorem T12_signs_250 (S : CallFix p m c cX12_signs 2 s args vX12_signs RX12) (hr : meth.sig.returnType = (some .boolean)) (hlo : meth.locks = false) {out : Int32 × PH} {h : PH} {a0 : Nat} {s0 : Int32} {u1 : Nat} (f : F12_signs_250  h a0 s0 u1 = some out) {H : Heap} {locs : List Loc} (I : ph_I D cy b A fl h s H locs) {ls : Array Slot} (hl : lv_has ls 2 [(0, .ref (b + a0))]) : W p l e ({ frames := 2, cells := 0, slots := 0, locals := 47 } : Room) s m args below meth c H locs 0 0 (MQ below (va_Qi (fun (r : Int32) (u : PH) => (r, u) = out) (ph_B D cy b A fl) A) args s 0 0 A) (F0 m 250 ls [.int s0, .ref (b + u1)]) := by
  unfold F12_signs_250 at f
  obtain ⟨h1, e2, f⟩ := ob f
  refine o_pZ S lp12_signs_323 I e2 dX12_signs_250 (fun H locs I => ?_)
  refine lv_aload_n S.1 S.2.1 dX12_signs_253 rfl (lv_at hl 0 rfl) ?_
  obtain ⟨o3, e4, f⟩ := ob f
  refine o_Vv S (As := []) (rest := []) (ci := 12) (M12_token l D cy b A fl e4) gX12_signs_X12_token rfl rfl rfl cd12_token ⟨Nat.le_of_ble_eq_true rfl, Nat.le_of_ble_eq_true rfl⟩ I (gd e4).1 clX12 rfl rfl hl.1 rfl (Nat.le_of_ble_eq_true rfl) dX12_signs_254 ⟨Nat.le_of_ble_eq_true rfl, Nat.le_of_ble_eq_true rfl⟩ (fun H locs I => ?_)
  refine lv_iconst (v := 1) S.1 S.2.1 dX12_signs_257 (by decide) ?_
  exact o_zret S hr hlo I f dX12_signs_258
set_option maxHeartbeats 4000000 in
set_option maxRecDepth 100000 in
theorem T12_signs_217 (S : CallFix p m c cX12_signs 2 s args vX12_signs RX12) (hr : meth.sig.returnType = (some .boolean)) (hlo : meth.locks = false) {out : Int32 × PH} {h : PH} {a0 : Nat} {x1 : Int32} (f : F12_signs_217  h a0 x1 = some out) {H : Heap} {locs : List Loc} (I : ph_I D cy b A fl h s H locs) {ls : Array Slot} (hl : lv_has ls 2 [(0, .ref (b + a0)), (1, .int x1)]) : W p l e ({ frames := 2, cells := 0, slots := 0, locals := 47 } : Room) s m args below meth c H locs 0 0 (MQ below (va_Qi (fun (r : Int32) (u : PH) => (r, u) = out) (ph_B D cy b A fl) A) args s 0 0 A) (F0 m 217 ls []) := by
  unfold F12_signs_217 at f
  refine lv_aload_n S.1 S.2.1 dX12_signs_217 rfl (lv_at hl 0 rfl) ?_
  obtain ⟨o1, e2, f⟩ := ob f
  refine o_Vi S (As := []) (rest := []) (ci := 12) (M12_isCounted l D cy b A fl e2) gX12_signs_X12_isCounted rfl rfl rfl cd12_isCounted ⟨Nat.le_of_ble_eq_true rfl, Nat.le_of_ble_eq_true rfl⟩ I (gd e2).1 clX12 rfl rfl hl.1 rfl (Nat.le_of_ble_eq_true rfl) dX12_signs_218 ⟨Nat.le_of_ble_eq_true rfl, Nat.le_of_ble_eq_true rfl⟩ (fun H locs I => ?_)
  refine lv_if_ne (tgt := 226) S.1 S.2.1 dX12_signs_221 (by decide) (fun q3 => ?_) (fun q3 => ?_)
  · have f := (if_neg q3).symm.trans f
    refine lv_aload_n S.1 S.2.1 dX12_signs_226 rfl (lv_at hl 0 rfl) ?_
    refine lv_iload_n S.1 S.2.1 dX12_signs_227 rfl (lv_at hl 1 rfl) ?_
    obtain ⟨o4, e5, f⟩ := ob f
    refine o_Vv S (As := [.int x1]) (rest := []) (ci := 12) (M12_waitsFor l D cy b A fl e5) gX12_signs_X12_waitsFor rfl rfl rfl cd12_waitsFor ⟨Nat.le_of_ble_eq_true rfl, Nat.le_of_ble_eq_true rfl⟩ I (gd e5).1 clX12 rfl rfl hl.1 rfl (Nat.le_of_ble_eq_true rfl) dX12_signs_228 ⟨Nat.le_of_ble_eq_true rfl, Nat.le_of_ble_eq_true rfl⟩ (fun H locs I => ?_)
    refine lv_aload_n S.1 S.2.1 dX12_signs_231 rfl (lv_at hl 0 rfl) ?_
    refine lv_iconst (v := 1) S.1 S.2.1 dX12_signs_232 (by decide) ?_
    obtain ⟨h6, e7, f⟩ := ob f
    refine o_pZ S lp12_signs_335 I e7 dX12_signs_233 (fun H locs I => ?_)
    refine lv_aload_n S.1 S.2.1 dX12_signs_236 rfl (lv_at hl 0 rfl) ?_
    refine lv_iload_n S.1 S.2.1 dX12_signs_237 rfl (lv_at hl 1 rfl) ?_
    obtain ⟨o8, e9, f⟩ := ob f
    refine o_Si S (As := [.int x1]) (rest := [.ref (b + a0)]) (M12_rank l D cy b A fl e9) gX12_signs_X12_rank rfl rfl rfl cd12_rank ⟨Nat.le_of_ble_eq_true rfl, Nat.le_of_ble_eq_true rfl⟩ I rfl hl.1 rfl (Nat.le_of_ble_eq_true rfl) dX12_signs_238 ⟨Nat.le_of_ble_eq_true rfl, Nat.le_of_ble_eq_true rfl⟩ (fun H locs I => ?_)
    refine lv_iconst (v := 3) S.1 S.2.1 dX12_signs_241 (by decide) ?_
    refine lv_icmp_ge (tgt := 249) S.1 S.2.1 dX12_signs_242 (by decide) (fun q10 => ?_) (fun q10 => ?_)
    · have f := (if_pos q10).symm.trans f
      refine lv_iconst (v := 0) S.1 S.2.1 dX12_signs_249 (by decide) ?_
      exact T12_signs_250 S hr hlo  f I (lv_sub hl [0] rfl)
    · have f := (if_neg q10).symm.trans f
      refine lv_iconst (v := 1) S.1 S.2.1 dX12_signs_245 (by decide) ?_
      refine lv_goto (tgt := 250) S.1 S.2.1 dX12_signs_246 (by decide) ?_
      exact T12_signs_250 S hr hlo  f I (lv_sub hl [0] rfl)
  · have f := (if_pos q3).symm.trans f
    refine lv_iconst (v := 0) S.1 S.2.1 dX12_signs_224 (by decide) ?_
    exact o_zret S hr hlo I f dX12_signs_225
set_option maxHeartbeats 4000000 in
set_option maxRecDepth 100000 in
theorem T12_signs_175 (S : CallFix p m c cX12_signs 2 s args vX12_signs RX12) (hr : meth.sig.returnType = (some .boolean)) (hlo : meth.locks = false) {out : Int32 × PH} {h : PH} {a0 : Nat} {x1 : Int32} {s0 : Int32} {u1 : Nat} (f : F12_signs_175  h a0 x1 s0 u1 = some out) {H : Heap} {locs : List Loc} (I : ph_I D cy b A fl h s H locs) {ls : Array Slot} (hl : lv_has ls 2 [(0, .ref (b + a0)), (1, .int x1)]) : W p l e ({ frames := 2, cells := 0, slots := 0, locals := 47 } : Room) s m args below meth c H locs 0 0 (MQ below (va_Qi (fun (r : Int32) (u : PH) => (r, u) = out) (ph_B D cy b A fl) A) args s 0 0 A) (F0 m 175 ls [.int s0, .ref (b + u1)]) := by
  unfold F12_signs_175 at f
  obtain ⟨o1, e2, f⟩ := ob f
  refine o_Vv S (As := [.int s0]) (rest := []) (ci := 12) (M12_bind l D cy b A fl e2) gX12_signs_X12_bind rfl rfl rfl cd12_bind ⟨Nat.le_of_ble_eq_true rfl, Nat.le_of_ble_eq_true rfl⟩ I (gd e2).1 clX12 rfl rfl hl.1 rfl (Nat.le_of_ble_eq_true rfl) dX12_signs_175 ⟨Nat.le_of_ble_eq_true rfl, Nat.le_of_ble_eq_true rfl⟩ (fun H locs I => ?_)
  refine lv_iload_n S.1 S.2.1 dX12_signs_178 rfl (lv_at hl 1 rfl) ?_
  obtain ⟨o3, e4, f⟩ := ob f
  refine o_Si S (As := [.int x1]) (rest := []) (M12_rank l D cy b A fl e4) gX12_signs_X12_rank rfl rfl rfl cd12_rank ⟨Nat.le_of_ble_eq_true rfl, Nat.le_of_ble_eq_true rfl⟩ I rfl hl.1 rfl (Nat.le_of_ble_eq_true rfl) dX12_signs_179 ⟨Nat.le_of_ble_eq_true rfl, Nat.le_of_ble_eq_true rfl⟩ (fun H locs I => ?_)
  refine lv_iconst (v := 4) S.1 S.2.1 dX12_signs_182 (by decide) ?_
  refine lv_icmp_ne (tgt := 217) S.1 S.2.1 dX12_signs_183 (by decide) (fun q5 => ?_) (fun q5 => ?_)
  · have f := (if_neg q5).symm.trans f
    exact T12_signs_217 S hr hlo  f I (lv_sub hl [0, 1] rfl)
  · have f := (if_pos q5).symm.trans f
    refine lv_aload_n S.1 S.2.1 dX12_signs_186 rfl (lv_at hl 0 rfl) ?_
    obtain ⟨v6, e7, f⟩ := ob f
    refine o_gI S lf12_signs_301 I e7 dX12_signs_187 ?_
    refine lv_if_le (tgt := 217) S.1 S.2.1 dX12_signs_190 (by decide) (fun q8 => ?_) (fun q8 => ?_)
    · have f := (if_pos q8).symm.trans f
      exact T12_signs_217 S hr hlo  f I (lv_sub hl [0, 1] rfl)
    · have f := (if_neg q8).symm.trans f
      refine lv_aload_n S.1 S.2.1 dX12_signs_193 rfl (lv_at hl 0 rfl) ?_
      obtain ⟨r9, e10, f⟩ := ob f
      refine o_gR S lf12_signs_75 I e10 dX12_signs_194 ?_
      refine lv_aload_n S.1 S.2.1 dX12_signs_197 rfl (lv_at hl 0 rfl) ?_
      obtain ⟨v11, e12, f⟩ := ob f
      refine o_gI S lf12_signs_301 I e12 dX12_signs_198 ?_
      refine lv_iconst (v := 1) S.1 S.2.1 dX12_signs_201 (by decide) ?_
      refine lv_isub S.1 S.2.1 dX12_signs_202 ?_
      obtain ⟨v14, e13, f⟩ := ob f
      refine o_iald S I e13 dX12_signs_203 ?_
      obtain ⟨o15, e16, f⟩ := ob f
      refine o_Si S (As := [.int v14]) (rest := []) (M12_rank l D cy b A fl e16) gX12_signs_X12_rank rfl rfl rfl cd12_rank ⟨Nat.le_of_ble_eq_true rfl, Nat.le_of_ble_eq_true rfl⟩ I rfl hl.1 rfl (Nat.le_of_ble_eq_true rfl) dX12_signs_204 ⟨Nat.le_of_ble_eq_true rfl, Nat.le_of_ble_eq_true rfl⟩ (fun H locs I => ?_)
      refine lv_iconst (v := 4) S.1 S.2.1 dX12_signs_207 (by decide) ?_
      refine lv_icmp_ne (tgt := 217) S.1 S.2.1 dX12_signs_208 (by decide) (fun q17 => ?_) (fun q17 => ?_)
      · have f := (if_neg q17).symm.trans f
        exact T12_signs_217 S hr hlo  f I (lv_sub hl [0, 1] rfl)
      · have f := (if_pos q17).symm.trans f
        refine lv_aload_n S.1 S.2.1 dX12_signs_211 rfl (lv_at hl 0 rfl) ?_
        refine lv_iconst (v := 1) S.1 S.2.1 dX12_signs_212 (by decide) ?_
        obtain ⟨o18, e19, f⟩ := ob f
        refine o_Vi S (As := [.int 1]) (rest := []) (ci := 12) (M12_wrong l D cy b A fl e19) gX12_signs_X12_wrong rfl rfl rfl cd12_wrong ⟨Nat.le_of_ble_eq_true rfl, Nat.le_of_ble_eq_true rfl⟩ I (gd e19).1 clX12 rfl rfl hl.1 rfl (Nat.le_of_ble_eq_true rfl) dX12_signs_213 ⟨Nat.le_of_ble_eq_true rfl, Nat.le_of_ble_eq_true rfl⟩ (fun H locs I => ?_)
        exact o_zret S hr hlo I f dX12_signs_216
set_option maxHeartbeats 4000000 in
set_option maxRecDepth 100000 in
theorem T12_signs_147 (S : CallFix p m c cX12_signs 2 s args vX12_signs RX12) (hr : meth.sig.returnType = (some .boolean)) (hlo : meth.locks = false) {out : Int32 × PH} {h : PH} {a0 : Nat} {s0 : Int32} (f : F12_signs_147  h a0 s0 = some out) {H : Heap} {locs : List Loc} (I : ph_I D cy b A fl h s H locs) {ls : Array Slot} (hl : lv_has ls 2 [(0, .ref (b + a0))]) : W p l e ({ frames := 2, cells := 0, slots := 0, locals := 47 } : Room) s m args below meth c H locs 0 0 (MQ below (va_Qi (fun (r : Int32) (u : PH) => (r, u) = out) (ph_B D cy b A fl) A) args s 0 0 A) (F0 m 147 ls [.int s0]) := by
  unfold F12_signs_147 at f
  refine lv_istore_n (lv' := [(1, .int s0), (0, .ref (b + a0))]) S.1 S.2.1 dX12_signs_147 rfl hl (by decide) rfl (fun ls hl => ?_)
  refine lv_iload_n S.1 S.2.1 dX12_signs_148 rfl (lv_at hl 0 rfl) ?_
  refine lv_if_ne (tgt := 158) S.1 S.2.1 dX12_signs_149 (by decide) (fun q1 => ?_) (fun q1 => ?_)
  · have f := (if_neg q1).symm.trans f
    refine lv_aload_n S.1 S.2.1 dX12_signs_158 rfl (lv_at hl 1 rfl) ?_
    refine lv_iload_n S.1 S.2.1 dX12_signs_159 rfl (lv_at hl 0 rfl) ?_
    obtain ⟨o2, e3, f⟩ := ob f
    refine o_Si S (As := [.int s0]) (rest := [.ref (b + a0)]) (M12_rank l D cy b A fl e3) gX12_signs_X12_rank rfl rfl rfl cd12_rank ⟨Nat.le_of_ble_eq_true rfl, Nat.le_of_ble_eq_true rfl⟩ I rfl hl.1 rfl (Nat.le_of_ble_eq_true rfl) dX12_signs_160 ⟨Nat.le_of_ble_eq_true rfl, Nat.le_of_ble_eq_true rfl⟩ (fun H locs I => ?_)
    refine lv_iconst (v := 4) S.1 S.2.1 dX12_signs_163 (by decide) ?_
    refine lv_icmp_ne (tgt := 171) S.1 S.2.1 dX12_signs_164 (by decide) (fun q4 => ?_) (fun q4 => ?_)
    · have f := (if_neg q4).symm.trans f
      refine lv_iload_n S.1 S.2.1 dX12_signs_171 rfl (lv_at hl 0 rfl) ?_
      obtain ⟨o5, e6, f⟩ := ob f
      refine o_Si S (As := [.int s0]) (rest := [.ref (b + a0)]) (M12_rank l D cy b A fl e6) gX12_signs_X12_rank rfl rfl rfl cd12_rank ⟨Nat.le_of_ble_eq_true rfl, Nat.le_of_ble_eq_true rfl⟩ I rfl hl.1 rfl (Nat.le_of_ble_eq_true rfl) dX12_signs_172 ⟨Nat.le_of_ble_eq_true rfl, Nat.le_of_ble_eq_true rfl⟩ (fun H locs I => ?_)
      exact T12_signs_175 S hr hlo  f I (lv_sub hl [1, 0] rfl)
    · have f := (if_pos q4).symm.trans f
      refine lv_iconst (v := 5) S.1 S.2.1 dX12_signs_167 (by decide) ?_
      refine lv_goto (tgt := 175) S.1 S.2.1 dX12_signs_168 (by decide) ?_
      exact T12_signs_175 S hr hlo  f I (lv_sub hl [1, 0] rfl)
  · have f := (if_pos q1).symm.trans f
    refine lv_aload_n S.1 S.2.1 dX12_signs_152 rfl (lv_at hl 1 rfl) ?_
    refine lv_iconst (v := 1) S.1 S.2.1 dX12_signs_153 (by decide) ?_
    obtain ⟨o7, e8, f⟩ := ob f
    refine o_Vi S (As := [.int 1]) (rest := []) (ci := 12) (M12_wrong l D cy b A fl e8) gX12_signs_X12_wrong rfl rfl rfl cd12_wrong ⟨Nat.le_of_ble_eq_true rfl, Nat.le_of_ble_eq_true rfl⟩ I (gd e8).1 clX12 rfl rfl hl.1 rfl (Nat.le_of_ble_eq_true rfl) dX12_signs_154 ⟨Nat.le_of_ble_eq_true rfl, Nat.le_of_ble_eq_true rfl⟩ (fun H locs I => ?_)
    exact o_zret S hr hlo I f dX12_signs_157
set_option maxHeartbeats 4000000 in
set_option maxRecDepth 100000 in
theorem T12_signs_47 (S : CallFix p m c cX12_signs 2 s args vX12_signs RX12) (hr : meth.sig.returnType = (some .boolean)) (hlo : meth.locks = false) {out : Int32 × PH} {h : PH} {a0 : Nat} (f : F12_signs_47  h a0 = some out) {H : Heap} {locs : List Loc} (I : ph_I D cy b A fl h s H locs) {ls : Array Slot} (hl : lv_has ls 2 [(0, .ref (b + a0))]) : W p l e ({ frames := 2, cells := 0, slots := 0, locals := 47 } : Room) s m args below meth c H locs 0 0 (MQ below (va_Qi (fun (r : Int32) (u : PH) => (r, u) = out) (ph_B D cy b A fl) A) args s 0 0 A) (F0 m 47 ls []) := by
  unfold F12_signs_47 at f
  refine lv_aload_n S.1 S.2.1 dX12_signs_47 rfl (lv_at hl 0 rfl) ?_
  refine lv_bipush (v := 15) S.1 S.2.1 dX12_signs_48 (by decide) ?_
  obtain ⟨o1, e2, f⟩ := ob f
  refine o_Vi S (As := [.int 15]) (rest := []) (ci := 12) (M12_isKey l D cy b A fl e2) gX12_signs_X12_isKey rfl rfl rfl cd12_isKey ⟨Nat.le_of_ble_eq_true rfl, Nat.le_of_ble_eq_true rfl⟩ I (gd e2).1 clX12 rfl rfl hl.1 rfl (Nat.le_of_ble_eq_true rfl) dX12_signs_50 ⟨Nat.le_of_ble_eq_true rfl, Nat.le_of_ble_eq_true rfl⟩ (fun H locs I => ?_)
  refine lv_if_eq (tgt := 60) S.1 S.2.1 dX12_signs_53 (by decide) (fun q3 => ?_) (fun q3 => ?_)
  · have f := (if_pos q3).symm.trans f
    refine lv_aload_n S.1 S.2.1 dX12_signs_60 rfl (lv_at hl 0 rfl) ?_
    refine lv_bipush (v := 16) S.1 S.2.1 dX12_signs_61 (by decide) ?_
    obtain ⟨o4, e5, f⟩ := ob f
    refine o_Vi S (As := [.int 16]) (rest := []) (ci := 12) (M12_isKey l D cy b A fl e5) gX12_signs_X12_isKey rfl rfl rfl cd12_isKey ⟨Nat.le_of_ble_eq_true rfl, Nat.le_of_ble_eq_true rfl⟩ I (gd e5).1 clX12 rfl rfl hl.1 rfl (Nat.le_of_ble_eq_true rfl) dX12_signs_63 ⟨Nat.le_of_ble_eq_true rfl, Nat.le_of_ble_eq_true rfl⟩ (fun H locs I => ?_)
    refine lv_if_eq (tgt := 73) S.1 S.2.1 dX12_signs_66 (by decide) (fun q6 => ?_) (fun q6 => ?_)
    · have f := (if_pos q6).symm.trans f
      refine lv_aload_n S.1 S.2.1 dX12_signs_73 rfl (lv_at hl 0 rfl) ?_
      obtain ⟨v7, e8, f⟩ := ob f
      refine o_gI S lf12_signs_172 I e8 dX12_signs_74 ?_
      refine lv_iconst (v := 5) S.1 S.2.1 dX12_signs_77 (by decide) ?_
      refine lv_icmp_ne (tgt := 90) S.1 S.2.1 dX12_signs_78 (by decide) (fun q9 => ?_) (fun q9 => ?_)
      · have f := (if_neg q9).symm.trans f
        refine lv_aload_n S.1 S.2.1 dX12_signs_90 rfl (lv_at hl 0 rfl) ?_
        refine lv_bipush (v := 43) S.1 S.2.1 dX12_signs_91 (by decide) ?_
        obtain ⟨o10, e11, f⟩ := ob f
        refine o_Vi S (As := [.int 43]) (rest := []) (ci := 12) (M12_isSign l D cy b A fl e11) gX12_signs_X12_isSign rfl rfl rfl cd12_isSign ⟨Nat.le_of_ble_eq_true rfl, Nat.le_of_ble_eq_true rfl⟩ I (gd e11).1 clX12 rfl rfl hl.1 rfl (Nat.le_of_ble_eq_true rfl) dX12_signs_93 ⟨Nat.le_of_ble_eq_true rfl, Nat.le_of_ble_eq_true rfl⟩ (fun H locs I => ?_)
        refine lv_if_eq (tgt := 104) S.1 S.2.1 dX12_signs_96 (by decide) (fun q12 => ?_) (fun q12 => ?_)
        · have f := (if_pos q12).symm.trans f
          refine lv_aload_n S.1 S.2.1 dX12_signs_104 rfl (lv_at hl 0 rfl) ?_
          refine lv_bipush (v := 45) S.1 S.2.1 dX12_signs_105 (by decide) ?_
          obtain ⟨o13, e14, f⟩ := ob f
          refine o_Vi S (As := [.int 45]) (rest := []) (ci := 12) (M12_isSign l D cy b A fl e14) gX12_signs_X12_isSign rfl rfl rfl cd12_isSign ⟨Nat.le_of_ble_eq_true rfl, Nat.le_of_ble_eq_true rfl⟩ I (gd e14).1 clX12 rfl rfl hl.1 rfl (Nat.le_of_ble_eq_true rfl) dX12_signs_107 ⟨Nat.le_of_ble_eq_true rfl, Nat.le_of_ble_eq_true rfl⟩ (fun H locs I => ?_)
          refine lv_if_eq (tgt := 118) S.1 S.2.1 dX12_signs_110 (by decide) (fun q15 => ?_) (fun q15 => ?_)
          · have f := (if_pos q15).symm.trans f
            refine lv_aload_n S.1 S.2.1 dX12_signs_118 rfl (lv_at hl 0 rfl) ?_
            refine lv_bipush (v := 42) S.1 S.2.1 dX12_signs_119 (by decide) ?_
            obtain ⟨o16, e17, f⟩ := ob f
            refine o_Vi S (As := [.int 42]) (rest := []) (ci := 12) (M12_isSign l D cy b A fl e17) gX12_signs_X12_isSign rfl rfl rfl cd12_isSign ⟨Nat.le_of_ble_eq_true rfl, Nat.le_of_ble_eq_true rfl⟩ I (gd e17).1 clX12 rfl rfl hl.1 rfl (Nat.le_of_ble_eq_true rfl) dX12_signs_121 ⟨Nat.le_of_ble_eq_true rfl, Nat.le_of_ble_eq_true rfl⟩ (fun H locs I => ?_)
            refine lv_if_eq (tgt := 132) S.1 S.2.1 dX12_signs_124 (by decide) (fun q18 => ?_) (fun q18 => ?_)
            · have f := (if_pos q18).symm.trans f
              refine lv_aload_n S.1 S.2.1 dX12_signs_132 rfl (lv_at hl 0 rfl) ?_
              refine lv_bipush (v := 47) S.1 S.2.1 dX12_signs_133 (by decide) ?_
              obtain ⟨o19, e20, f⟩ := ob f
              refine o_Vi S (As := [.int 47]) (rest := []) (ci := 12) (M12_isSign l D cy b A fl e20) gX12_signs_X12_isSign rfl rfl rfl cd12_isSign ⟨Nat.le_of_ble_eq_true rfl, Nat.le_of_ble_eq_true rfl⟩ I (gd e20).1 clX12 rfl rfl hl.1 rfl (Nat.le_of_ble_eq_true rfl) dX12_signs_135 ⟨Nat.le_of_ble_eq_true rfl, Nat.le_of_ble_eq_true rfl⟩ (fun H locs I => ?_)
              refine lv_if_eq (tgt := 146) S.1 S.2.1 dX12_signs_138 (by decide) (fun q21 => ?_) (fun q21 => ?_)
              · have f := (if_pos q21).symm.trans f
                refine lv_iconst (v := 0) S.1 S.2.1 dX12_signs_146 (by decide) ?_
                exact T12_signs_147 S hr hlo  f I (lv_sub hl [0] rfl)
              · have f := (if_neg q21).symm.trans f
                refine lv_bipush (v := 14) S.1 S.2.1 dX12_signs_141 (by decide) ?_
                refine lv_goto (tgt := 147) S.1 S.2.1 dX12_signs_143 (by decide) ?_
                exact T12_signs_147 S hr hlo  f I (lv_sub hl [0] rfl)
            · have f := (if_neg q18).symm.trans f
              refine lv_bipush (v := 13) S.1 S.2.1 dX12_signs_127 (by decide) ?_
              refine lv_goto (tgt := 147) S.1 S.2.1 dX12_signs_129 (by decide) ?_
              exact T12_signs_147 S hr hlo  f I (lv_sub hl [0] rfl)
          · have f := (if_neg q15).symm.trans f
            refine lv_bipush (v := 12) S.1 S.2.1 dX12_signs_113 (by decide) ?_
            refine lv_goto (tgt := 147) S.1 S.2.1 dX12_signs_115 (by decide) ?_
            exact T12_signs_147 S hr hlo  f I (lv_sub hl [0] rfl)
        · have f := (if_neg q12).symm.trans f
          refine lv_bipush (v := 11) S.1 S.2.1 dX12_signs_99 (by decide) ?_
          refine lv_goto (tgt := 147) S.1 S.2.1 dX12_signs_101 (by decide) ?_
          exact T12_signs_147 S hr hlo  f I (lv_sub hl [0] rfl)
      · have f := (if_pos q9).symm.trans f
        refine lv_iconst (v := 5) S.1 S.2.1 dX12_signs_81 (by decide) ?_
        refine lv_aload_n S.1 S.2.1 dX12_signs_82 rfl (lv_at hl 0 rfl) ?_
        obtain ⟨v22, e23, f⟩ := ob f
        refine o_gI S lf12_signs_183 I e23 dX12_signs_83 ?_
        refine lv_iadd S.1 S.2.1 dX12_signs_86 ?_
        refine lv_goto (tgt := 147) S.1 S.2.1 dX12_signs_87 (by decide) ?_
        exact T12_signs_147 S hr hlo  f I (lv_sub hl [0] rfl)
    · have f := (if_neg q6).symm.trans f
      refine lv_iconst (v := 4) S.1 S.2.1 dX12_signs_69 (by decide) ?_
      refine lv_goto (tgt := 147) S.1 S.2.1 dX12_signs_70 (by decide) ?_
      exact T12_signs_147 S hr hlo  f I (lv_sub hl [0] rfl)
  · have f := (if_neg q3).symm.trans f
    refine lv_iconst (v := 3) S.1 S.2.1 dX12_signs_56 (by decide) ?_
    refine lv_goto (tgt := 147) S.1 S.2.1 dX12_signs_57 (by decide) ?_
    exact T12_signs_147 S hr hlo  f I (lv_sub hl [0] rfl)
set_option maxHeartbeats 4000000 in
set_option maxRecDepth 100000 in
theorem T12_signs_0 (S : CallFix p m c cX12_signs 2 s args vX12_signs RX12) (hr : meth.sig.returnType = (some .boolean)) (hlo : meth.locks = false) {out : Int32 × PH} {h : PH} {a0 : Nat} (f : F12_signs_0  h a0 = some out) {H : Heap} {locs : List Loc} (I : ph_I D cy b A fl h s H locs) {ls : Array Slot} (hl : lv_has ls 2 [(0, .ref (b + a0))]) : W p l e ({ frames := 2, cells := 0, slots := 0, locals := 47 } : Room) s m args below meth c H locs 0 0 (MQ below (va_Qi (fun (r : Int32) (u : PH) => (r, u) = out) (ph_B D cy b A fl) A) args s 0 0 A) (F0 m 0 ls []) := by
  unfold F12_signs_0 at f
  refine lv_aload_n S.1 S.2.1 dX12_signs_0 rfl (lv_at hl 0 rfl) ?_
  refine lv_bipush (v := 41) S.1 S.2.1 dX12_signs_1 (by decide) ?_
  obtain ⟨o1, e2, f⟩ := ob f
  refine o_Vi S (As := [.int 41]) (rest := []) (ci := 12) (M12_isSign l D cy b A fl e2) gX12_signs_X12_isSign rfl rfl rfl cd12_isSign ⟨Nat.le_of_ble_eq_true rfl, Nat.le_of_ble_eq_true rfl⟩ I (gd e2).1 clX12 rfl rfl hl.1 rfl (Nat.le_of_ble_eq_true rfl) dX12_signs_3 ⟨Nat.le_of_ble_eq_true rfl, Nat.le_of_ble_eq_true rfl⟩ (fun H locs I => ?_)
  refine lv_if_eq (tgt := 47) S.1 S.2.1 dX12_signs_6 (by decide) (fun q3 => ?_) (fun q3 => ?_)
  · have f := (if_pos q3).symm.trans f
    exact T12_signs_47 S hr hlo  f I (lv_sub hl [0] rfl)
  · have f := (if_neg q3).symm.trans f
    refine lv_aload_n S.1 S.2.1 dX12_signs_9 rfl (lv_at hl 0 rfl) ?_
    obtain ⟨v4, e5, f⟩ := ob f
    refine o_gI S lf12_signs_316 I e5 dX12_signs_10 ?_
    refine lv_if_le (tgt := 47) S.1 S.2.1 dX12_signs_13 (by decide) (fun q6 => ?_) (fun q6 => ?_)
    · have f := (if_pos q6).symm.trans f
      exact T12_signs_47 S hr hlo  f I (lv_sub hl [0] rfl)
    · have f := (if_neg q6).symm.trans f
      refine lv_aload_n S.1 S.2.1 dX12_signs_16 rfl (lv_at hl 0 rfl) ?_
      refine lv_iconst (v := 1) S.1 S.2.1 dX12_signs_17 (by decide) ?_
      obtain ⟨o7, e8, f⟩ := ob f
      refine o_Vv S (As := [.int 1]) (rest := []) (ci := 12) (M12_bind l D cy b A fl e8) gX12_signs_X12_bind rfl rfl rfl cd12_bind ⟨Nat.le_of_ble_eq_true rfl, Nat.le_of_ble_eq_true rfl⟩ I (gd e8).1 clX12 rfl rfl hl.1 rfl (Nat.le_of_ble_eq_true rfl) dX12_signs_18 ⟨Nat.le_of_ble_eq_true rfl, Nat.le_of_ble_eq_true rfl⟩ (fun H locs I => ?_)
      refine lv_aload_n S.1 S.2.1 dX12_signs_21 rfl (lv_at hl 0 rfl) ?_
      refine lv_dup S.1 S.2.1 dX12_signs_22 rfl ?_
      obtain ⟨v9, e10, f⟩ := ob f
      refine o_gI S lf12_signs_301 I e10 dX12_signs_23 ?_
      refine lv_iconst (v := 1) S.1 S.2.1 dX12_signs_26 (by decide) ?_
      refine lv_isub S.1 S.2.1 dX12_signs_27 ?_
      obtain ⟨h11, e12, f⟩ := ob f
      refine o_pI S lp12_signs_301 I e12 dX12_signs_28 (fun H locs I => ?_)
      refine lv_aload_n S.1 S.2.1 dX12_signs_31 rfl (lv_at hl 0 rfl) ?_
      refine lv_dup S.1 S.2.1 dX12_signs_32 rfl ?_
      obtain ⟨v13, e14, f⟩ := ob f
      refine o_gI S lf12_signs_316 I e14 dX12_signs_33 ?_
      refine lv_iconst (v := 1) S.1 S.2.1 dX12_signs_36 (by decide) ?_
      refine lv_isub S.1 S.2.1 dX12_signs_37 ?_
      obtain ⟨h15, e16, f⟩ := ob f
      refine o_pI S lp12_signs_316 I e16 dX12_signs_38 (fun H locs I => ?_)
      refine lv_aload_n S.1 S.2.1 dX12_signs_41 rfl (lv_at hl 0 rfl) ?_
      obtain ⟨o17, e18, f⟩ := ob f
      refine o_Vv S (As := []) (rest := []) (ci := 12) (M12_token l D cy b A fl e18) gX12_signs_X12_token rfl rfl rfl cd12_token ⟨Nat.le_of_ble_eq_true rfl, Nat.le_of_ble_eq_true rfl⟩ I (gd e18).1 clX12 rfl rfl hl.1 rfl (Nat.le_of_ble_eq_true rfl) dX12_signs_42 ⟨Nat.le_of_ble_eq_true rfl, Nat.le_of_ble_eq_true rfl⟩ (fun H locs I => ?_)
      refine lv_iconst (v := 1) S.1 S.2.1 dX12_signs_45 (by decide) ?_
      exact o_zret S hr hlo I f dX12_signs_46
theorem M12_signs (l : Launch) (D : va_G) (cy : Nat → ClassId) (b : Nat) (A : Nat → Prop) (fl : Bool) {h : PH} {a0 : Nat} {out : Int32 × PH} (f : F12_signs h a0 = some out) : Met l yX12_signs vX12_signs ({ frames := 2, cells := 0, slots := 0, locals := 47 } : Room) (va_Pc [.ref (b + a0)] (ph_B D cy b A fl h)) (va_Qi (fun (r : Int32) (u : PH) => (r, u) = out) (ph_B D cy b A fl) A) 0 0 A :=
  o_met (by decide) rfl (Nat.le_of_ble_eq_true rfl) rfl (fun p e s m below meth c S hr hlo hnm ls hl I => T12_signs_0 S hr hlo ((gd f).2) I (lv_sub hl [0] rfl))
def vX12_sumRead : List Cond := .code yX12_sumRead cX12_sumRead 1 (some .boolean) :: TB
theorem lf12_sumRead_335 : Fl vX12_sumRead RX12 335 12 50 := ⟨RX12, TX12, 87, rfl, by decide, (fun w h9 => List.mem_cons_of_mem _ (wC_wsX120 w h9)), (List.mem_cons_of_mem _ wT_30_3)⟩
theorem gX12_sumRead_X12_signs : GoodIn vX12_sumRead (wsV RX12 344 RX12 yX12_signs vX12_signs) := gV_of wT_31_9 wT_31_10 wT_31_11 wT_1_5 wT_31_12
theorem gX12_sumRead_X12_leafRead : GoodIn vX12_sumRead (wsV RX12 341 RX12 yX12_leafRead vX12_leafRead) := gV_of wT_30_9 wT_30_10 wT_30_11 wT_1_5 wT_30_12
theorem gX12_sumRead_X12_isSign : GoodIn vX12_sumRead (wsV RX12 209 RX12 yX12_isSign vX12_isSign) := gV_of wT_30_5 wT_30_6 wT_30_7 wT_1_5 wT_30_8
theorem lf12_sumRead_316 : Fl vX12_sumRead RX12 316 12 48 := ⟨RX12, TX12, 87, rfl, by decide, (fun w h9 => List.mem_cons_of_mem _ (wC_wsX120 w h9)), (List.mem_cons_of_mem _ wT_30_2)⟩
theorem gX12_sumRead_X12_bind : GoodIn vX12_sumRead (wsV RX12 338 RX12 yX12_bind vX12_bind) := gV_of wT_31_13 wT_31_14 wT_31_15 wT_1_5 wT_31_16
theorem lp12_sumRead_301 : Pl vX12_sumRead RX12 301 12 46 .int := ⟨RX12, TX12, 87, tyX12, rfl, by decide, (fun w h9 => List.mem_cons_of_mem _ (wC_wsX120 w h9)), (List.mem_cons_of_mem _ wT_30_0), tyX12_ok, nmX12, rfl, rfl⟩
theorem lp12_sumRead_298 : Pl vX12_sumRead RX12 298 12 47 .int := ⟨RX12, TX12, 87, tyX12, rfl, by decide, (fun w h9 => List.mem_cons_of_mem _ (wC_wsX120 w h9)), (List.mem_cons_of_mem _ wT_30_1), tyX12_ok, nmX12, rfl, rfl⟩
theorem lp12_sumRead_316 : Pl vX12_sumRead RX12 316 12 48 .int := ⟨RX12, TX12, 87, tyX12, rfl, by decide, (fun w h9 => List.mem_cons_of_mem _ (wC_wsX120 w h9)), (List.mem_cons_of_mem _ wT_30_2), tyX12_ok, nmX12, rfl, rfl⟩
theorem lp12_sumRead_335 : Pl vX12_sumRead RX12 335 12 50 .boolean := ⟨RX12, TX12, 87, tyX12, rfl, by decide, (fun w h9 => List.mem_cons_of_mem _ (wC_wsX120 w h9)), (List.mem_cons_of_mem _ wT_30_3), tyX12_ok, nmX12, rfl, rfl⟩
theorem lp12_sumRead_323 : Pl vX12_sumRead RX12 323 12 51 .boolean := ⟨RX12, TX12, 87, tyX12, rfl, by decide, (fun w h9 => List.mem_cons_of_mem _ (wC_wsX120 w h9)), (List.mem_cons_of_mem _ wT_30_4), tyX12_ok, nmX12, rfl, rfl⟩
theorem cd12_sumRead : Cd yX12_sumRead 0 := ⟨by decide, by decide, by decide +kernel⟩
set_option maxHeartbeats 4000000 in
set_option maxRecDepth 100000 in
theorem T12_sumRead_48 (S : CallFix p m c cX12_sumRead 1 s args vX12_sumRead RX12) (hr : meth.sig.returnType = (some .boolean)) (hlo : meth.locks = false) {out : Int32 × PH} {k25 : PH → Nat → Option (Int32 × PH)} (hk25 : ∀ {h : PH} {a0 : Nat}, k25 h a0 = some out → ∀ (H : Heap) (locs : List Loc), ph_I D cy b A fl h s H locs → ∀ (ls : Array Slot), lv_has ls 1 [(0, .ref (b + a0))] → W p l e ({ frames := 3, cells := 0, slots := 0, locals := 68 } : Room) s m args below meth c H locs 0 0 (MQ below (va_Qi (fun (r : Int32) (u : PH) => (r, u) = out) (ph_B D cy b A fl) A) args s 0 0 A) (F0 m 25 ls [])) {h : PH} {a0 : Nat} (f : F12_sumRead_48 k25 h a0 = some out) {H : Heap} {locs : List Loc} (I : ph_I D cy b A fl h s H locs) {ls : Array Slot} (hl : lv_has ls 1 [(0, .ref (b + a0))]) : W p l e ({ frames := 3, cells := 0, slots := 0, locals := 68 } : Room) s m args below meth c H locs 0 0 (MQ below (va_Qi (fun (r : Int32) (u : PH) => (r, u) = out) (ph_B D cy b A fl) A) args s 0 0 A) (F0 m 48 ls []) := by
  unfold F12_sumRead_48 at f
  refine lv_aload_n S.1 S.2.1 dX12_sumRead_48 rfl (lv_at hl 0 rfl) ?_
  obtain ⟨v1, e2, f⟩ := ob f
  refine o_gI S lf12_sumRead_335 I e2 dX12_sumRead_49 ?_
  refine lv_if_eq (tgt := 65) S.1 S.2.1 dX12_sumRead_52 (by decide) (fun q3 => ?_) (fun q3 => ?_)
  · have f := (if_pos q3).symm.trans f
    refine lv_aload_n S.1 S.2.1 dX12_sumRead_65 rfl (lv_at hl 0 rfl) ?_
    obtain ⟨o4, e5, f⟩ := ob f
    refine o_Vi S (As := []) (rest := []) (ci := 12) (M12_signs l D cy b A fl e5) gX12_sumRead_X12_signs rfl rfl rfl cd12_signs ⟨Nat.le_of_ble_eq_true rfl, Nat.le_of_ble_eq_true rfl⟩ I (gd e5).1 clX12 rfl rfl hl.1 rfl (Nat.le_of_ble_eq_true rfl) dX12_sumRead_66 ⟨Nat.le_of_ble_eq_true rfl, Nat.le_of_ble_eq_true rfl⟩ (fun H locs I => ?_)
    refine lv_if_ne (tgt := 25) S.1 S.2.1 dX12_sumRead_69 (by decide) (fun q6 => ?_) (fun q6 => ?_)
    · have f := (if_neg q6).symm.trans f
      exact hk25 f _ _ I _ (lv_sub hl [0] rfl)
    · have f := (if_pos q6).symm.trans f
      refine lv_iconst (v := 0) S.1 S.2.1 dX12_sumRead_72 (by decide) ?_
      exact o_zret S hr hlo I f dX12_sumRead_73
  · have f := (if_neg q3).symm.trans f
    refine lv_aload_n S.1 S.2.1 dX12_sumRead_55 rfl (lv_at hl 0 rfl) ?_
    obtain ⟨o7, e8, f⟩ := ob f
    refine o_Vi S (As := []) (rest := []) (ci := 12) (M12_leafRead l D cy b A fl e8) gX12_sumRead_X12_leafRead rfl rfl rfl cd12_leafRead ⟨Nat.le_of_ble_eq_true rfl, Nat.le_of_ble_eq_true rfl⟩ I (gd e8).1 clX12 rfl rfl hl.1 rfl (Nat.le_of_ble_eq_true rfl) dX12_sumRead_56 ⟨Nat.le_of_ble_eq_true rfl, Nat.le_of_ble_eq_true rfl⟩ (fun H locs I => ?_)
    refine lv_if_eq (tgt := 72) S.1 S.2.1 dX12_sumRead_59 (by decide) (fun q9 => ?_) (fun q9 => ?_)
    · have f := (if_pos q9).symm.trans f
      refine lv_iconst (v := 0) S.1 S.2.1 dX12_sumRead_72 (by decide) ?_
      exact o_zret S hr hlo I f dX12_sumRead_73
    · have f := (if_neg q9).symm.trans f
      refine lv_goto (tgt := 25) S.1 S.2.1 dX12_sumRead_62 (by decide) ?_
      exact hk25 f _ _ I _ (lv_sub hl [0] rfl)
set_option maxHeartbeats 4000000 in
set_option maxRecDepth 100000 in
theorem T12_sumRead_25 (S : CallFix p m c cX12_sumRead 1 s args vX12_sumRead RX12) (hr : meth.sig.returnType = (some .boolean)) (hlo : meth.locks = false) {out : Int32 × PH} : ∀ (n : Nat) {h : PH} {a0 : Nat} (f : F12_sumRead_25  n h a0 = some out) {H : Heap} {locs : List Loc} (I : ph_I D cy b A fl h s H locs) {ls : Array Slot} (hl : lv_has ls 1 [(0, .ref (b + a0))]), W p l e ({ frames := 3, cells := 0, slots := 0, locals := 68 } : Room) s m args below meth c H locs 0 0 (MQ below (va_Qi (fun (r : Int32) (u : PH) => (r, u) = out) (ph_B D cy b A fl) A) args s 0 0 A) (F0 m 25 ls []) := by
  intro n
  induction n with
  | zero => intro h a0 f; rw [F12_sumRead_25] at f; cases f
  | succ n ih =>
    intro h a0 f H locs I ls hl
    rw [F12_sumRead_25] at f
    refine lv_aload_n S.1 S.2.1 dX12_sumRead_25 rfl (lv_at hl 0 rfl) ?_
    refine lv_bipush (v := 59) S.1 S.2.1 dX12_sumRead_26 (by decide) ?_
    obtain ⟨o1, e2, f⟩ := ob f
    refine o_Vi S (As := [.int 59]) (rest := []) (ci := 12) (M12_isSign l D cy b A fl e2) gX12_sumRead_X12_isSign rfl rfl rfl cd12_isSign ⟨Nat.le_of_ble_eq_true rfl, Nat.le_of_ble_eq_true rfl⟩ I (gd e2).1 clX12 rfl rfl hl.1 rfl (Nat.le_of_ble_eq_true rfl) dX12_sumRead_28 ⟨Nat.le_of_ble_eq_true rfl, Nat.le_of_ble_eq_true rfl⟩ (fun H locs I => ?_)
    refine lv_if_eq (tgt := 48) S.1 S.2.1 dX12_sumRead_31 (by decide) (fun q3 => ?_) (fun q3 => ?_)
    · have f := (if_pos q3).symm.trans f
      exact T12_sumRead_48 S hr hlo (fun f _ _ I _ hl => ih f I hl) f I (lv_sub hl [0] rfl)
    · have f := (if_neg q3).symm.trans f
      refine lv_aload_n S.1 S.2.1 dX12_sumRead_34 rfl (lv_at hl 0 rfl) ?_
      obtain ⟨v4, e5, f⟩ := ob f
      refine o_gI S lf12_sumRead_335 I e5 dX12_sumRead_35 ?_
      refine lv_if_ne (tgt := 48) S.1 S.2.1 dX12_sumRead_38 (by decide) (fun q6 => ?_) (fun q6 => ?_)
      · have f := (if_neg q6).symm.trans f
        exact T12_sumRead_48 S hr hlo (fun f _ _ I _ hl => ih f I hl) f I (lv_sub hl [0] rfl)
      · have f := (if_pos q6).symm.trans f
        refine lv_aload_n S.1 S.2.1 dX12_sumRead_41 rfl (lv_at hl 0 rfl) ?_
        obtain ⟨v7, e8, f⟩ := ob f
        refine o_gI S lf12_sumRead_316 I e8 dX12_sumRead_42 ?_
        refine lv_if_le (tgt := 74) S.1 S.2.1 dX12_sumRead_45 (by decide) (fun q9 => ?_) (fun q9 => ?_)
        · have f := (if_pos q9).symm.trans f
          refine lv_aload_n S.1 S.2.1 dX12_sumRead_74 rfl (lv_at hl 0 rfl) ?_
          refine lv_iconst (v := 1) S.1 S.2.1 dX12_sumRead_75 (by decide) ?_
          obtain ⟨o10, e11, f⟩ := ob f
          refine o_Vv S (As := [.int 1]) (rest := []) (ci := 12) (M12_bind l D cy b A fl e11) gX12_sumRead_X12_bind rfl rfl rfl cd12_bind ⟨Nat.le_of_ble_eq_true rfl, Nat.le_of_ble_eq_true rfl⟩ I (gd e11).1 clX12 rfl rfl hl.1 rfl (Nat.le_of_ble_eq_true rfl) dX12_sumRead_76 ⟨Nat.le_of_ble_eq_true rfl, Nat.le_of_ble_eq_true rfl⟩ (fun H locs I => ?_)
          refine lv_iconst (v := 1) S.1 S.2.1 dX12_sumRead_79 (by decide) ?_
          exact o_zret S hr hlo I f dX12_sumRead_80
        · have f := (if_neg q9).symm.trans f
          exact T12_sumRead_48 S hr hlo (fun f _ _ I _ hl => ih f I hl) f I (lv_sub hl [0] rfl)
set_option maxHeartbeats 4000000 in
set_option maxRecDepth 100000 in
theorem T12_sumRead_0 (S : CallFix p m c cX12_sumRead 1 s args vX12_sumRead RX12) (hr : meth.sig.returnType = (some .boolean)) (hlo : meth.locks = false) {out : Int32 × PH} {h : PH} {a0 : Nat} (f : F12_sumRead_0  h a0 = some out) {H : Heap} {locs : List Loc} (I : ph_I D cy b A fl h s H locs) {ls : Array Slot} (hl : lv_has ls 1 [(0, .ref (b + a0))]) : W p l e ({ frames := 3, cells := 0, slots := 0, locals := 68 } : Room) s m args below meth c H locs 0 0 (MQ below (va_Qi (fun (r : Int32) (u : PH) => (r, u) = out) (ph_B D cy b A fl) A) args s 0 0 A) (F0 m 0 ls []) := by
  unfold F12_sumRead_0 at f
  refine lv_aload_n S.1 S.2.1 dX12_sumRead_0 rfl (lv_at hl 0 rfl) ?_
  refine lv_iconst (v := 0) S.1 S.2.1 dX12_sumRead_1 (by decide) ?_
  obtain ⟨h1, e2, f⟩ := ob f
  refine o_pI S lp12_sumRead_301 I e2 dX12_sumRead_2 (fun H locs I => ?_)
  refine lv_aload_n S.1 S.2.1 dX12_sumRead_5 rfl (lv_at hl 0 rfl) ?_
  refine lv_iconst (v := 0) S.1 S.2.1 dX12_sumRead_6 (by decide) ?_
  obtain ⟨h3, e4, f⟩ := ob f
  refine o_pI S lp12_sumRead_298 I e4 dX12_sumRead_7 (fun H locs I => ?_)
  refine lv_aload_n S.1 S.2.1 dX12_sumRead_10 rfl (lv_at hl 0 rfl) ?_
  refine lv_iconst (v := 0) S.1 S.2.1 dX12_sumRead_11 (by decide) ?_
  obtain ⟨h5, e6, f⟩ := ob f
  refine o_pI S lp12_sumRead_316 I e6 dX12_sumRead_12 (fun H locs I => ?_)
  refine lv_aload_n S.1 S.2.1 dX12_sumRead_15 rfl (lv_at hl 0 rfl) ?_
  refine lv_iconst (v := 1) S.1 S.2.1 dX12_sumRead_16 (by decide) ?_
  obtain ⟨h7, e8, f⟩ := ob f
  refine o_pZ S lp12_sumRead_335 I e8 dX12_sumRead_17 (fun H locs I => ?_)
  refine lv_aload_n S.1 S.2.1 dX12_sumRead_20 rfl (lv_at hl 0 rfl) ?_
  refine lv_iconst (v := 1) S.1 S.2.1 dX12_sumRead_21 (by decide) ?_
  obtain ⟨h9, e10, f⟩ := ob f
  refine o_pZ S lp12_sumRead_323 I e10 dX12_sumRead_22 (fun H locs I => ?_)
  exact T12_sumRead_25 S hr hlo  1024 f I (lv_sub hl [0] rfl)
theorem M12_sumRead (l : Launch) (D : va_G) (cy : Nat → ClassId) (b : Nat) (A : Nat → Prop) (fl : Bool) {h : PH} {a0 : Nat} {out : Int32 × PH} (f : F12_sumRead h a0 = some out) : Met l yX12_sumRead vX12_sumRead ({ frames := 3, cells := 0, slots := 0, locals := 68 } : Room) (va_Pc [.ref (b + a0)] (ph_B D cy b A fl h)) (va_Qi (fun (r : Int32) (u : PH) => (r, u) = out) (ph_B D cy b A fl) A) 0 0 A :=
  o_met (by decide) rfl (Nat.le_of_ble_eq_true rfl) rfl (fun p e s m below meth c S hr hlo hnm ls hl I => T12_sumRead_0 S hr hlo ((gd f).2) I (lv_sub hl [0] rfl))
def vX12_lineRead : List Cond := .code yX12_lineRead cX12_lineRead 3 (some .boolean) :: TB
theorem gX12_lineRead_X12_wrong : GoodIn vX12_lineRead (wsV RX12 196 RX12 yX12_wrong vX12_wrong) := gV_of wT_28_4 wT_28_5 wT_28_6 wT_1_5 wT_28_7
theorem gX12_lineRead_X12_isSign : GoodIn vX12_lineRead (wsV RX12 209 RX12 yX12_isSign vX12_isSign) := gV_of wT_30_5 wT_30_6 wT_30_7 wT_1_5 wT_30_8
theorem gX12_lineRead_X12_token : GoodIn vX12_lineRead (wsV RX12 206 RX12 yX12_token vX12_token) := gV_of wT_26_21 wT_26_22 wT_26_23 wT_1_5 wT_27_0
theorem lf12_lineRead_172 : Fl vX12_lineRead RX12 172 12 8 := ⟨RX12, TX12, 87, rfl, by decide, (fun w h9 => List.mem_cons_of_mem _ (wC_wsX120 w h9)), (List.mem_cons_of_mem _ wT_26_20)⟩
theorem lf12_lineRead_183 : Fl vX12_lineRead RX12 183 12 9 := ⟨RX12, TX12, 87, rfl, by decide, (fun w h9 => List.mem_cons_of_mem _ (wC_wsX120 w h9)), (List.mem_cons_of_mem _ wT_27_2)⟩
theorem gX12_lineRead_X12_seaLine : GoodIn vX12_lineRead (wsV RX12 280 RX12 yX12_seaLine vX12_seaLine) := gV_of wT_28_8 wT_28_9 wT_28_10 wT_1_5 wT_28_11
theorem gX12_lineRead_X12_onceLine : GoodIn vX12_lineRead (wsV RX12 289 RX12 yX12_onceLine vX12_onceLine) := gV_of wT_29_12 wT_29_13 wT_29_14 wT_1_5 wT_29_15
theorem gX12_lineRead_X12_surferLine : GoodIn vX12_lineRead (wsV RX12 283 RX12 yX12_surferLine vX12_surferLine) := gV_of wT_28_20 wT_28_21 wT_28_22 wT_1_5 wT_28_23
theorem gX12_lineRead_X12_setLine : GoodIn vX12_lineRead (wsV RX12 286 RX12 yX12_setLine vX12_setLine) := gV_of wT_29_8 wT_29_9 wT_29_10 wT_1_5 wT_29_11
theorem lf12_lineRead_57 : Fl vX12_lineRead RX12 57 12 37 := ⟨RX12, TX12, 87, rfl, by decide, (fun w h9 => List.mem_cons_of_mem _ (wC_wsX120 w h9)), (List.mem_cons_of_mem _ wT_10_12)⟩
theorem lf12_lineRead_60 : Fl vX12_lineRead RX12 60 12 38 := ⟨RX12, TX12, 87, rfl, by decide, (fun w h9 => List.mem_cons_of_mem _ (wC_wsX120 w h9)), (List.mem_cons_of_mem _ wT_10_13)⟩
theorem lf12_lineRead_231 : Fl vX12_lineRead RX12 231 12 23 := ⟨RX12, TX12, 87, rfl, by decide, (fun w h9 => List.mem_cons_of_mem _ (wC_wsX120 w h9)), (List.mem_cons_of_mem _ wT_12_3)⟩
theorem gX12_lineRead_X12_sumRead : GoodIn vX12_lineRead (wsV RX12 292 RX12 yX12_sumRead vX12_sumRead) := gV_of wT_29_20 wT_29_21 wT_29_22 wT_1_5 wT_29_23
theorem lf12_lineRead_63 : Fl vX12_lineRead RX12 63 12 39 := ⟨RX12, TX12, 87, rfl, by decide, (fun w h9 => List.mem_cons_of_mem _ (wC_wsX120 w h9)), (List.mem_cons_of_mem _ wT_10_14)⟩
theorem cd12_lineRead : Cd yX12_lineRead 0 := ⟨by decide, by decide, by decide +kernel⟩
set_option maxHeartbeats 4000000 in
set_option maxRecDepth 100000 in
theorem T12_lineRead_17 (S : CallFix p m c cX12_lineRead 3 s args vX12_lineRead RX12) (hr : meth.sig.returnType = (some .boolean)) (hlo : meth.locks = false) {out : Int32 × PH} {h : PH} {a0 : Nat} (f : F12_lineRead_17  h a0 = some out) {H : Heap} {locs : List Loc} (I : ph_I D cy b A fl h s H locs) {ls : Array Slot} (hl : lv_has ls 3 [(0, .ref (b + a0))]) : W p l e ({ frames := 5, cells := 0, slots := 0, locals := 110 } : Room) s m args below meth c H locs 0 0 (MQ below (va_Qi (fun (r : Int32) (u : PH) => (r, u) = out) (ph_B D cy b A fl) A) args s 0 0 A) (F0 m 17 ls []) := by
  unfold F12_lineRead_17 at f
  refine lv_aload_n S.1 S.2.1 dX12_lineRead_17 rfl (lv_at hl 0 rfl) ?_
  refine lv_iconst (v := 1) S.1 S.2.1 dX12_lineRead_18 (by decide) ?_
  obtain ⟨o1, e2, f⟩ := ob f
  refine o_Vi S (As := [.int 1]) (rest := []) (ci := 12) (M12_wrong l D cy b A fl e2) gX12_lineRead_X12_wrong rfl rfl rfl cd12_wrong ⟨Nat.le_of_ble_eq_true rfl, Nat.le_of_ble_eq_true rfl⟩ I (gd e2).1 clX12 rfl rfl hl.1 rfl (Nat.le_of_ble_eq_true rfl) dX12_lineRead_19 ⟨Nat.le_of_ble_eq_true rfl, Nat.le_of_ble_eq_true rfl⟩ (fun H locs I => ?_)
  exact o_zret S hr hlo I f dX12_lineRead_22
set_option maxHeartbeats 4000000 in
set_option maxRecDepth 100000 in
theorem T12_lineRead_197 (S : CallFix p m c cX12_lineRead 3 s args vX12_lineRead RX12) (hr : meth.sig.returnType = (some .boolean)) (hlo : meth.locks = false) {out : Int32 × PH} {h : PH} {a0 : Nat} {x1 : Int32} (f : F12_lineRead_197  h a0 x1 = some out) {H : Heap} {locs : List Loc} (I : ph_I D cy b A fl h s H locs) {ls : Array Slot} (hl : lv_has ls 3 [(0, .ref (b + a0)), (1, .int x1)]) : W p l e ({ frames := 5, cells := 0, slots := 0, locals := 110 } : Room) s m args below meth c H locs 0 0 (MQ below (va_Qi (fun (r : Int32) (u : PH) => (r, u) = out) (ph_B D cy b A fl) A) args s 0 0 A) (F0 m 197 ls []) := by
  unfold F12_lineRead_197 at f
  refine lv_iload_n S.1 S.2.1 dX12_lineRead_197 rfl (lv_at hl 1 rfl) ?_
  refine lv_if_ne (tgt := 203) S.1 S.2.1 dX12_lineRead_198 (by decide) (fun q1 => ?_) (fun q1 => ?_)
  · have f := (if_neg q1).symm.trans f
    refine lv_aload_n S.1 S.2.1 dX12_lineRead_203 rfl (lv_at hl 0 rfl) ?_
    refine lv_bipush (v := 59) S.1 S.2.1 dX12_lineRead_204 (by decide) ?_
    obtain ⟨o2, e3, f⟩ := ob f
    refine o_Vi S (As := [.int 59]) (rest := []) (ci := 12) (M12_isSign l D cy b A fl e3) gX12_lineRead_X12_isSign rfl rfl rfl cd12_isSign ⟨Nat.le_of_ble_eq_true rfl, Nat.le_of_ble_eq_true rfl⟩ I (gd e3).1 clX12 rfl rfl hl.1 rfl (Nat.le_of_ble_eq_true rfl) dX12_lineRead_206 ⟨Nat.le_of_ble_eq_true rfl, Nat.le_of_ble_eq_true rfl⟩ (fun H locs I => ?_)
    refine lv_if_ne (tgt := 218) S.1 S.2.1 dX12_lineRead_209 (by decide) (fun q4 => ?_) (fun q4 => ?_)
    · have f := (if_neg q4).symm.trans f
      refine lv_aload_n S.1 S.2.1 dX12_lineRead_218 rfl (lv_at hl 0 rfl) ?_
      obtain ⟨o5, e6, f⟩ := ob f
      refine o_Vv S (As := []) (rest := []) (ci := 12) (M12_token l D cy b A fl e6) gX12_lineRead_X12_token rfl rfl rfl cd12_token ⟨Nat.le_of_ble_eq_true rfl, Nat.le_of_ble_eq_true rfl⟩ I (gd e6).1 clX12 rfl rfl hl.1 rfl (Nat.le_of_ble_eq_true rfl) dX12_lineRead_219 ⟨Nat.le_of_ble_eq_true rfl, Nat.le_of_ble_eq_true rfl⟩ (fun H locs I => ?_)
      refine lv_iconst (v := 1) S.1 S.2.1 dX12_lineRead_222 (by decide) ?_
      exact o_zret S hr hlo I f dX12_lineRead_223
    · have f := (if_pos q4).symm.trans f
      refine lv_aload_n S.1 S.2.1 dX12_lineRead_212 rfl (lv_at hl 0 rfl) ?_
      refine lv_iconst (v := 1) S.1 S.2.1 dX12_lineRead_213 (by decide) ?_
      obtain ⟨o7, e8, f⟩ := ob f
      refine o_Vi S (As := [.int 1]) (rest := []) (ci := 12) (M12_wrong l D cy b A fl e8) gX12_lineRead_X12_wrong rfl rfl rfl cd12_wrong ⟨Nat.le_of_ble_eq_true rfl, Nat.le_of_ble_eq_true rfl⟩ I (gd e8).1 clX12 rfl rfl hl.1 rfl (Nat.le_of_ble_eq_true rfl) dX12_lineRead_214 ⟨Nat.le_of_ble_eq_true rfl, Nat.le_of_ble_eq_true rfl⟩ (fun H locs I => ?_)
      exact o_zret S hr hlo I f dX12_lineRead_217
  · have f := (if_pos q1).symm.trans f
    refine lv_iconst (v := 0) S.1 S.2.1 dX12_lineRead_201 (by decide) ?_
    exact o_zret S hr hlo I f dX12_lineRead_202
set_option maxHeartbeats 4000000 in
set_option maxRecDepth 100000 in
theorem T12_lineRead_130 (S : CallFix p m c cX12_lineRead 3 s args vX12_lineRead RX12) (hr : meth.sig.returnType = (some .boolean)) (hlo : meth.locks = false) {out : Int32 × PH} {h : PH} {a0 : Nat} (f : F12_lineRead_130  h a0 = some out) {H : Heap} {locs : List Loc} (I : ph_I D cy b A fl h s H locs) {ls : Array Slot} (hl : lv_has ls 3 [(0, .ref (b + a0))]) : W p l e ({ frames := 5, cells := 0, slots := 0, locals := 110 } : Room) s m args below meth c H locs 0 0 (MQ below (va_Qi (fun (r : Int32) (u : PH) => (r, u) = out) (ph_B D cy b A fl) A) args s 0 0 A) (F0 m 130 ls []) := by
  unfold F12_lineRead_130 at f
  refine lv_aload_n S.1 S.2.1 dX12_lineRead_130 rfl (lv_at hl 0 rfl) ?_
  refine lv_iconst (v := 1) S.1 S.2.1 dX12_lineRead_131 (by decide) ?_
  obtain ⟨o1, e2, f⟩ := ob f
  refine o_Vi S (As := [.int 1]) (rest := []) (ci := 12) (M12_wrong l D cy b A fl e2) gX12_lineRead_X12_wrong rfl rfl rfl cd12_wrong ⟨Nat.le_of_ble_eq_true rfl, Nat.le_of_ble_eq_true rfl⟩ I (gd e2).1 clX12 rfl rfl hl.1 rfl (Nat.le_of_ble_eq_true rfl) dX12_lineRead_132 ⟨Nat.le_of_ble_eq_true rfl, Nat.le_of_ble_eq_true rfl⟩ (fun H locs I => ?_)
  exact o_zret S hr hlo I f dX12_lineRead_135
set_option maxHeartbeats 4000000 in
set_option maxRecDepth 100000 in
theorem T12_lineRead_0 (S : CallFix p m c cX12_lineRead 3 s args vX12_lineRead RX12) (hr : meth.sig.returnType = (some .boolean)) (hlo : meth.locks = false) {out : Int32 × PH} {h : PH} {a0 : Nat} (f : F12_lineRead_0  h a0 = some out) {H : Heap} {locs : List Loc} (I : ph_I D cy b A fl h s H locs) {ls : Array Slot} (hl : lv_has ls 3 [(0, .ref (b + a0))]) : W p l e ({ frames := 5, cells := 0, slots := 0, locals := 110 } : Room) s m args below meth c H locs 0 0 (MQ below (va_Qi (fun (r : Int32) (u : PH) => (r, u) = out) (ph_B D cy b A fl) A) args s 0 0 A) (F0 m 0 ls []) := by
  unfold F12_lineRead_0 at f
  refine lv_aload_n S.1 S.2.1 dX12_lineRead_0 rfl (lv_at hl 0 rfl) ?_
  obtain ⟨v1, e2, f⟩ := ob f
  refine o_gI S lf12_lineRead_172 I e2 dX12_lineRead_1 ?_
  refine lv_iconst (v := 1) S.1 S.2.1 dX12_lineRead_4 (by decide) ?_
  refine lv_icmp_ne (tgt := 17) S.1 S.2.1 dX12_lineRead_5 (by decide) (fun q3 => ?_) (fun q3 => ?_)
  · have f := (if_neg q3).symm.trans f
    exact T12_lineRead_17 S hr hlo  f I (lv_sub hl [0] rfl)
  · have f := (if_pos q3).symm.trans f
    refine lv_aload_n S.1 S.2.1 dX12_lineRead_8 rfl (lv_at hl 0 rfl) ?_
    obtain ⟨v4, e5, f⟩ := ob f
    refine o_gI S lf12_lineRead_183 I e5 dX12_lineRead_9 ?_
    refine lv_bipush (v := 7) S.1 S.2.1 dX12_lineRead_12 (by decide) ?_
    refine lv_icmp_le (tgt := 23) S.1 S.2.1 dX12_lineRead_14 (by decide) (fun q6 => ?_) (fun q6 => ?_)
    · have f := (if_pos q6).symm.trans f
      refine lv_aload_n S.1 S.2.1 dX12_lineRead_23 rfl (lv_at hl 0 rfl) ?_
      obtain ⟨v7, e8, f⟩ := ob f
      refine o_gI S lf12_lineRead_183 I e8 dX12_lineRead_24 ?_
      rcases Decidable.em (v7 = 0) with q9 | q9
      · have f := (if_pos q9).symm.trans f
        refine lv_tableIn (off := 41) (tgt := 68) S.1 S.2.1 dX12_lineRead_27 (by rw [q9]; decide) (by rw [q9]; decide) (by rw [q9]; rfl) (by decide) ?_
        refine lv_aload_n S.1 S.2.1 dX12_lineRead_68 rfl (lv_at hl 0 rfl) ?_
        obtain ⟨o10, e11, f⟩ := ob f
        refine o_Vi S (As := []) (rest := []) (ci := 12) (M12_seaLine l D cy b A fl e11) gX12_lineRead_X12_seaLine rfl rfl rfl cd12_seaLine ⟨Nat.le_of_ble_eq_true rfl, Nat.le_of_ble_eq_true rfl⟩ I (gd e11).1 clX12 rfl rfl hl.1 rfl (Nat.le_of_ble_eq_true rfl) dX12_lineRead_69 ⟨Nat.le_of_ble_eq_true rfl, Nat.le_of_ble_eq_true rfl⟩ (fun H locs I => ?_)
        refine lv_istore_n (lv' := [(1, .int o10.1), (0, .ref (b + a0))]) S.1 S.2.1 dX12_lineRead_72 rfl hl (by decide) rfl (fun ls hl => ?_)
        refine lv_goto (tgt := 197) S.1 S.2.1 dX12_lineRead_73 (by decide) ?_
        exact T12_lineRead_197 S hr hlo  f I (lv_sub hl [1, 0] rfl)
      have f := (if_neg q9).symm.trans f
      rcases Decidable.em (v7 = 1) with q12 | q12
      · have f := (if_pos q12).symm.trans f
        refine lv_tableIn (off := 65) (tgt := 92) S.1 S.2.1 dX12_lineRead_27 (by rw [q12]; decide) (by rw [q12]; decide) (by rw [q12]; rfl) (by decide) ?_
        refine lv_aload_n S.1 S.2.1 dX12_lineRead_92 rfl (lv_at hl 0 rfl) ?_
        obtain ⟨o13, e14, f⟩ := ob f
        refine o_Vi S (As := []) (rest := []) (ci := 12) (M12_onceLine l D cy b A fl e14) gX12_lineRead_X12_onceLine rfl rfl rfl cd12_onceLine ⟨Nat.le_of_ble_eq_true rfl, Nat.le_of_ble_eq_true rfl⟩ I (gd e14).1 clX12 rfl rfl hl.1 rfl (Nat.le_of_ble_eq_true rfl) dX12_lineRead_93 ⟨Nat.le_of_ble_eq_true rfl, Nat.le_of_ble_eq_true rfl⟩ (fun H locs I => ?_)
        refine lv_istore_n (lv' := [(1, .int o13.1), (0, .ref (b + a0))]) S.1 S.2.1 dX12_lineRead_96 rfl hl (by decide) rfl (fun ls hl => ?_)
        refine lv_goto (tgt := 197) S.1 S.2.1 dX12_lineRead_97 (by decide) ?_
        exact T12_lineRead_197 S hr hlo  f I (lv_sub hl [1, 0] rfl)
      have f := (if_neg q12).symm.trans f
      rcases Decidable.em (v7 = 2) with q15 | q15
      · have f := (if_pos q15).symm.trans f
        refine lv_tableIn (off := 49) (tgt := 76) S.1 S.2.1 dX12_lineRead_27 (by rw [q15]; decide) (by rw [q15]; decide) (by rw [q15]; rfl) (by decide) ?_
        refine lv_aload_n S.1 S.2.1 dX12_lineRead_76 rfl (lv_at hl 0 rfl) ?_
        obtain ⟨o16, e17, f⟩ := ob f
        refine o_Vi S (As := []) (rest := []) (ci := 12) (M12_surferLine l D cy b A fl e17) gX12_lineRead_X12_surferLine rfl rfl rfl cd12_surferLine ⟨Nat.le_of_ble_eq_true rfl, Nat.le_of_ble_eq_true rfl⟩ I (gd e17).1 clX12 rfl rfl hl.1 rfl (Nat.le_of_ble_eq_true rfl) dX12_lineRead_77 ⟨Nat.le_of_ble_eq_true rfl, Nat.le_of_ble_eq_true rfl⟩ (fun H locs I => ?_)
        refine lv_istore_n (lv' := [(1, .int o16.1), (0, .ref (b + a0))]) S.1 S.2.1 dX12_lineRead_80 rfl hl (by decide) rfl (fun ls hl => ?_)
        refine lv_goto (tgt := 197) S.1 S.2.1 dX12_lineRead_81 (by decide) ?_
        exact T12_lineRead_197 S hr hlo  f I (lv_sub hl [1, 0] rfl)
      have f := (if_neg q15).symm.trans f
      rcases Decidable.em (v7 = 3) with q18 | q18
      · have f := (if_pos q18).symm.trans f
        refine lv_tableIn (off := 57) (tgt := 84) S.1 S.2.1 dX12_lineRead_27 (by rw [q18]; decide) (by rw [q18]; decide) (by rw [q18]; rfl) (by decide) ?_
        refine lv_aload_n S.1 S.2.1 dX12_lineRead_84 rfl (lv_at hl 0 rfl) ?_
        obtain ⟨o19, e20, f⟩ := ob f
        refine o_Vi S (As := []) (rest := []) (ci := 12) (M12_setLine l D cy b A fl e20) gX12_lineRead_X12_setLine rfl rfl rfl cd12_setLine ⟨Nat.le_of_ble_eq_true rfl, Nat.le_of_ble_eq_true rfl⟩ I (gd e20).1 clX12 rfl rfl hl.1 rfl (Nat.le_of_ble_eq_true rfl) dX12_lineRead_85 ⟨Nat.le_of_ble_eq_true rfl, Nat.le_of_ble_eq_true rfl⟩ (fun H locs I => ?_)
        refine lv_istore_n (lv' := [(1, .int o19.1), (0, .ref (b + a0))]) S.1 S.2.1 dX12_lineRead_88 rfl hl (by decide) rfl (fun ls hl => ?_)
        refine lv_goto (tgt := 197) S.1 S.2.1 dX12_lineRead_89 (by decide) ?_
        exact T12_lineRead_197 S hr hlo  f I (lv_sub hl [1, 0] rfl)
      have f := (if_neg q18).symm.trans f
      rcases Decidable.em (v7 = 4) with q21 | q21
      · have f := (if_pos q21).symm.trans f
        refine lv_tableIn (off := 65) (tgt := 92) S.1 S.2.1 dX12_lineRead_27 (by rw [q21]; decide) (by rw [q21]; decide) (by rw [q21]; rfl) (by decide) ?_
        refine lv_aload_n S.1 S.2.1 dX12_lineRead_92 rfl (lv_at hl 0 rfl) ?_
        obtain ⟨o22, e23, f⟩ := ob f
        refine o_Vi S (As := []) (rest := []) (ci := 12) (M12_onceLine l D cy b A fl e23) gX12_lineRead_X12_onceLine rfl rfl rfl cd12_onceLine ⟨Nat.le_of_ble_eq_true rfl, Nat.le_of_ble_eq_true rfl⟩ I (gd e23).1 clX12 rfl rfl hl.1 rfl (Nat.le_of_ble_eq_true rfl) dX12_lineRead_93 ⟨Nat.le_of_ble_eq_true rfl, Nat.le_of_ble_eq_true rfl⟩ (fun H locs I => ?_)
        refine lv_istore_n (lv' := [(1, .int o22.1), (0, .ref (b + a0))]) S.1 S.2.1 dX12_lineRead_96 rfl hl (by decide) rfl (fun ls hl => ?_)
        refine lv_goto (tgt := 197) S.1 S.2.1 dX12_lineRead_97 (by decide) ?_
        exact T12_lineRead_197 S hr hlo  f I (lv_sub hl [1, 0] rfl)
      have f := (if_neg q21).symm.trans f
      rcases Decidable.em (v7 = 5) with q24 | q24
      · have f := (if_pos q24).symm.trans f
        refine lv_tableIn (off := 65) (tgt := 92) S.1 S.2.1 dX12_lineRead_27 (by rw [q24]; decide) (by rw [q24]; decide) (by rw [q24]; rfl) (by decide) ?_
        refine lv_aload_n S.1 S.2.1 dX12_lineRead_92 rfl (lv_at hl 0 rfl) ?_
        obtain ⟨o25, e26, f⟩ := ob f
        refine o_Vi S (As := []) (rest := []) (ci := 12) (M12_onceLine l D cy b A fl e26) gX12_lineRead_X12_onceLine rfl rfl rfl cd12_onceLine ⟨Nat.le_of_ble_eq_true rfl, Nat.le_of_ble_eq_true rfl⟩ I (gd e26).1 clX12 rfl rfl hl.1 rfl (Nat.le_of_ble_eq_true rfl) dX12_lineRead_93 ⟨Nat.le_of_ble_eq_true rfl, Nat.le_of_ble_eq_true rfl⟩ (fun H locs I => ?_)
        refine lv_istore_n (lv' := [(1, .int o25.1), (0, .ref (b + a0))]) S.1 S.2.1 dX12_lineRead_96 rfl hl (by decide) rfl (fun ls hl => ?_)
        refine lv_goto (tgt := 197) S.1 S.2.1 dX12_lineRead_97 (by decide) ?_
        exact T12_lineRead_197 S hr hlo  f I (lv_sub hl [1, 0] rfl)
      have f := (if_neg q24).symm.trans f
      rcases Decidable.em (v7 = 6) with q27 | q27
      · have f := (if_pos q27).symm.trans f
        refine lv_tableIn (off := 65) (tgt := 92) S.1 S.2.1 dX12_lineRead_27 (by rw [q27]; decide) (by rw [q27]; decide) (by rw [q27]; rfl) (by decide) ?_
        refine lv_aload_n S.1 S.2.1 dX12_lineRead_92 rfl (lv_at hl 0 rfl) ?_
        obtain ⟨o28, e29, f⟩ := ob f
        refine o_Vi S (As := []) (rest := []) (ci := 12) (M12_onceLine l D cy b A fl e29) gX12_lineRead_X12_onceLine rfl rfl rfl cd12_onceLine ⟨Nat.le_of_ble_eq_true rfl, Nat.le_of_ble_eq_true rfl⟩ I (gd e29).1 clX12 rfl rfl hl.1 rfl (Nat.le_of_ble_eq_true rfl) dX12_lineRead_93 ⟨Nat.le_of_ble_eq_true rfl, Nat.le_of_ble_eq_true rfl⟩ (fun H locs I => ?_)
        refine lv_istore_n (lv' := [(1, .int o28.1), (0, .ref (b + a0))]) S.1 S.2.1 dX12_lineRead_96 rfl hl (by decide) rfl (fun ls hl => ?_)
        refine lv_goto (tgt := 197) S.1 S.2.1 dX12_lineRead_97 (by decide) ?_
        exact T12_lineRead_197 S hr hlo  f I (lv_sub hl [1, 0] rfl)
      have f := (if_neg q27).symm.trans f
      refine lv_tableOut (tgt := 100) S.1 S.2.1 dX12_lineRead_27 (by have := lv_neT q9 (a := 0) (by decide); have := lv_neT q12 (a := 1) (by decide); have := lv_neT q15 (a := 2) (by decide); have := lv_neT q18 (a := 3) (by decide); have := lv_neT q21 (a := 4) (by decide); have := lv_neT q24 (a := 5) (by decide); have := lv_neT q27 (a := 6) (by decide); omega) (by decide) ?_
      refine lv_aload_n S.1 S.2.1 dX12_lineRead_100 rfl (lv_at hl 0 rfl) ?_
      obtain ⟨o30, e31, f⟩ := ob f
      refine o_Vv S (As := []) (rest := []) (ci := 12) (M12_token l D cy b A fl e31) gX12_lineRead_X12_token rfl rfl rfl cd12_token ⟨Nat.le_of_ble_eq_true rfl, Nat.le_of_ble_eq_true rfl⟩ I (gd e31).1 clX12 rfl rfl hl.1 rfl (Nat.le_of_ble_eq_true rfl) dX12_lineRead_101 ⟨Nat.le_of_ble_eq_true rfl, Nat.le_of_ble_eq_true rfl⟩ (fun H locs I => ?_)
      refine lv_aload_n S.1 S.2.1 dX12_lineRead_104 rfl (lv_at hl 0 rfl) ?_
      obtain ⟨v32, e33, f⟩ := ob f
      refine o_gI S lf12_lineRead_172 I e33 dX12_lineRead_105 ?_
      refine lv_iconst (v := 1) S.1 S.2.1 dX12_lineRead_108 (by decide) ?_
      refine lv_icmp_ne (tgt := 130) S.1 S.2.1 dX12_lineRead_109 (by decide) (fun q34 => ?_) (fun q34 => ?_)
      · have f := (if_neg q34).symm.trans f
        exact T12_lineRead_130 S hr hlo  f I (lv_sub hl [0] rfl)
      · have f := (if_pos q34).symm.trans f
        refine lv_aload_n S.1 S.2.1 dX12_lineRead_112 rfl (lv_at hl 0 rfl) ?_
        obtain ⟨v35, e36, f⟩ := ob f
        refine o_gI S lf12_lineRead_183 I e36 dX12_lineRead_113 ?_
        refine lv_bipush (v := 12) S.1 S.2.1 dX12_lineRead_116 (by decide) ?_
        refine lv_icmp_lt (tgt := 130) S.1 S.2.1 dX12_lineRead_118 (by decide) (fun q37 => ?_) (fun q37 => ?_)
        · have f := (if_pos q37).symm.trans f
          exact T12_lineRead_130 S hr hlo  f I (lv_sub hl [0] rfl)
        · have f := (if_neg q37).symm.trans f
          refine lv_aload_n S.1 S.2.1 dX12_lineRead_121 rfl (lv_at hl 0 rfl) ?_
          obtain ⟨v38, e39, f⟩ := ob f
          refine o_gI S lf12_lineRead_183 I e39 dX12_lineRead_122 ?_
          refine lv_bipush (v := 14) S.1 S.2.1 dX12_lineRead_125 (by decide) ?_
          refine lv_icmp_le (tgt := 136) S.1 S.2.1 dX12_lineRead_127 (by decide) (fun q40 => ?_) (fun q40 => ?_)
          · have f := (if_pos q40).symm.trans f
            refine lv_iconst (v := 3) S.1 S.2.1 dX12_lineRead_136 (by decide) ?_
            refine lv_aload_n S.1 S.2.1 dX12_lineRead_137 rfl (lv_at hl 0 rfl) ?_
            obtain ⟨v41, e42, f⟩ := ob f
            refine o_gI S lf12_lineRead_183 I e42 dX12_lineRead_138 ?_
            refine lv_iadd S.1 S.2.1 dX12_lineRead_141 ?_
            refine lv_bipush (v := 12) S.1 S.2.1 dX12_lineRead_142 (by decide) ?_
            refine lv_isub S.1 S.2.1 dX12_lineRead_144 ?_
            refine lv_istore_n (lv' := [(2, .int ((3 + v41) - 12)), (0, .ref (b + a0))]) S.1 S.2.1 dX12_lineRead_145 rfl hl (by decide) rfl (fun ls hl => ?_)
            refine lv_aload_n S.1 S.2.1 dX12_lineRead_146 rfl (lv_at hl 1 rfl) ?_
            obtain ⟨r43, e44, f⟩ := ob f
            refine o_gR S lf12_lineRead_57 I e44 dX12_lineRead_147 ?_
            refine lv_iload_n S.1 S.2.1 dX12_lineRead_150 rfl (lv_at hl 0 rfl) ?_
            obtain ⟨v46, e45, f⟩ := ob f
            refine o_zald S I e45 dX12_lineRead_151 ?_
            refine lv_if_eq (tgt := 161) S.1 S.2.1 dX12_lineRead_152 (by decide) (fun q47 => ?_) (fun q47 => ?_)
            · have f := (if_pos q47).symm.trans f
              refine lv_aload_n S.1 S.2.1 dX12_lineRead_161 rfl (lv_at hl 1 rfl) ?_
              obtain ⟨r48, e49, f⟩ := ob f
              refine o_gR S lf12_lineRead_57 I e49 dX12_lineRead_162 ?_
              refine lv_iload_n S.1 S.2.1 dX12_lineRead_165 rfl (lv_at hl 0 rfl) ?_
              refine lv_iconst (v := 1) S.1 S.2.1 dX12_lineRead_166 (by decide) ?_
              obtain ⟨h51, e50, f⟩ := ob f
              refine o_zast S I e50 dX12_lineRead_167 (fun H locs I => ?_)
              refine lv_aload_n S.1 S.2.1 dX12_lineRead_168 rfl (lv_at hl 1 rfl) ?_
              obtain ⟨o52, e53, f⟩ := ob f
              refine o_Vv S (As := []) (rest := []) (ci := 12) (M12_token l D cy b A fl e53) gX12_lineRead_X12_token rfl rfl rfl cd12_token ⟨Nat.le_of_ble_eq_true rfl, Nat.le_of_ble_eq_true rfl⟩ I (gd e53).1 clX12 rfl rfl hl.1 rfl (Nat.le_of_ble_eq_true rfl) dX12_lineRead_169 ⟨Nat.le_of_ble_eq_true rfl, Nat.le_of_ble_eq_true rfl⟩ (fun H locs I => ?_)
              refine lv_aload_n S.1 S.2.1 dX12_lineRead_172 rfl (lv_at hl 1 rfl) ?_
              obtain ⟨r54, e55, f⟩ := ob f
              refine o_gR S lf12_lineRead_60 I e55 dX12_lineRead_173 ?_
              refine lv_iload_n S.1 S.2.1 dX12_lineRead_176 rfl (lv_at hl 0 rfl) ?_
              refine lv_aload_n S.1 S.2.1 dX12_lineRead_177 rfl (lv_at hl 1 rfl) ?_
              obtain ⟨v56, e57, f⟩ := ob f
              refine o_gI S lf12_lineRead_231 I e57 dX12_lineRead_178 ?_
              obtain ⟨h59, e58, f⟩ := ob f
              refine o_iast S I e58 dX12_lineRead_181 (fun H locs I => ?_)
              refine lv_aload_n S.1 S.2.1 dX12_lineRead_182 rfl (lv_at hl 1 rfl) ?_
              obtain ⟨o60, e61, f⟩ := ob f
              refine o_Vi S (As := []) (rest := []) (ci := 12) (M12_sumRead l D cy b A fl e61) gX12_lineRead_X12_sumRead rfl rfl rfl cd12_sumRead ⟨Nat.le_of_ble_eq_true rfl, Nat.le_of_ble_eq_true rfl⟩ I (gd e61).1 clX12 rfl rfl hl.1 rfl (Nat.le_of_ble_eq_true rfl) dX12_lineRead_183 ⟨Nat.le_of_ble_eq_true rfl, Nat.le_of_ble_eq_true rfl⟩ (fun H locs I => ?_)
              refine lv_istore_n (lv' := [(1, .int o60.1), (2, .int ((3 + v41) - 12)), (0, .ref (b + a0))]) S.1 S.2.1 dX12_lineRead_186 rfl hl (by decide) rfl (fun ls hl => ?_)
              refine lv_aload_n S.1 S.2.1 dX12_lineRead_187 rfl (lv_at hl 2 rfl) ?_
              obtain ⟨r62, e63, f⟩ := ob f
              refine o_gR S lf12_lineRead_63 I e63 dX12_lineRead_188 ?_
              refine lv_iload_n S.1 S.2.1 dX12_lineRead_191 rfl (lv_at hl 1 rfl) ?_
              refine lv_aload_n S.1 S.2.1 dX12_lineRead_192 rfl (lv_at hl 2 rfl) ?_
              obtain ⟨v64, e65, f⟩ := ob f
              refine o_gI S lf12_lineRead_231 I e65 dX12_lineRead_193 ?_
              obtain ⟨h67, e66, f⟩ := ob f
              refine o_iast S I e66 dX12_lineRead_196 (fun H locs I => ?_)
              exact T12_lineRead_197 S hr hlo  f I (lv_sub hl [2, 0] rfl)
            · have f := (if_neg q47).symm.trans f
              refine lv_aload_n S.1 S.2.1 dX12_lineRead_155 rfl (lv_at hl 1 rfl) ?_
              refine lv_iconst (v := 3) S.1 S.2.1 dX12_lineRead_156 (by decide) ?_
              obtain ⟨o68, e69, f⟩ := ob f
              refine o_Vi S (As := [.int 3]) (rest := []) (ci := 12) (M12_wrong l D cy b A fl e69) gX12_lineRead_X12_wrong rfl rfl rfl cd12_wrong ⟨Nat.le_of_ble_eq_true rfl, Nat.le_of_ble_eq_true rfl⟩ I (gd e69).1 clX12 rfl rfl hl.1 rfl (Nat.le_of_ble_eq_true rfl) dX12_lineRead_157 ⟨Nat.le_of_ble_eq_true rfl, Nat.le_of_ble_eq_true rfl⟩ (fun H locs I => ?_)
              exact o_zret S hr hlo I f dX12_lineRead_160
          · have f := (if_neg q40).symm.trans f
            exact T12_lineRead_130 S hr hlo  f I (lv_sub hl [0] rfl)
    · have f := (if_neg q6).symm.trans f
      exact T12_lineRead_17 S hr hlo  f I (lv_sub hl [0] rfl)
theorem M12_lineRead (l : Launch) (D : va_G) (cy : Nat → ClassId) (b : Nat) (A : Nat → Prop) (fl : Bool) {h : PH} {a0 : Nat} {out : Int32 × PH} (f : F12_lineRead h a0 = some out) : Met l yX12_lineRead vX12_lineRead ({ frames := 5, cells := 0, slots := 0, locals := 110 } : Room) (va_Pc [.ref (b + a0)] (ph_B D cy b A fl h)) (va_Qi (fun (r : Int32) (u : PH) => (r, u) = out) (ph_B D cy b A fl) A) 0 0 A :=
  o_met (by decide) rfl (Nat.le_of_ble_eq_true rfl) rfl (fun p e s m below meth c S hr hlo hnm ls hl I => T12_lineRead_0 S hr hlo ((gd f).2) I (lv_sub hl [0] rfl))
def vX12_locals : List Cond := .code yX12_locals cX12_locals 6 (some .int) :: TB
theorem gX12_locals_X12_knownBy : GoodIn vX12_locals (wsV RX12 527 RX12 yX12_knownBy vX12_knownBy) := gV_of wT_64_0 wT_64_1 wT_64_2 wT_1_5 wT_64_3
theorem lf12_locals_139 : Fl vX12_locals RX12 139 12 77 := ⟨RX12, TX12, 87, rfl, by decide, (fun w h9 => List.mem_cons_of_mem _ (wC_wsX120 w h9)), (List.mem_cons_of_mem _ wT_11_15)⟩
theorem lf12_locals_136 : Fl vX12_locals RX12 136 12 76 := ⟨RX12, TX12, 87, rfl, by decide, (fun w h9 => List.mem_cons_of_mem _ (wC_wsX120 w h9)), (List.mem_cons_of_mem _ wT_11_14)⟩
theorem gX12_locals_X12_beginsFrom : GoodIn vX12_locals (wsV RX12 530 RX12 yX12_beginsFrom vX12_beginsFrom) := gV_of wT_64_4 wT_64_5 wT_64_6 wT_1_5 wT_64_7
theorem gX12_locals_X12_peakAt : GoodIn vX12_locals (wsV RX12 400 RX12 yX12_peakAt vX12_peakAt) := gV_of wT_34_22 wT_34_23 wT_35_0 wT_1_5 wT_35_1
theorem gX12_locals_X12_far : GoodIn vX12_locals (wsV RX12 403 RX12 yX12_far vX12_far) := gV_of wT_36_8 wT_36_9 wT_36_10 wT_1_5 wT_36_11
theorem lp12_locals_154 : Pl vX12_locals RX12 154 12 2 .int := ⟨RX12, TX12, 87, tyX12, rfl, by decide, (fun w h9 => List.mem_cons_of_mem _ (wC_wsX120 w h9)), (List.mem_cons_of_mem _ wT_13_17), tyX12_ok, nmX12, rfl, rfl⟩
theorem gX12_locals_X12_isIn : GoodIn vX12_locals (va_wsS RX12 199 yX12_isIn vX12_isIn) := gS_of wT_28_17 wT_28_18 wT_1_5 wT_28_19
theorem cd12_locals : Cd yX12_locals 1 := ⟨by decide, by decide, by decide +kernel⟩
set_option maxHeartbeats 4000000 in
set_option maxRecDepth 100000 in
theorem T12_locals_100 (S : CallFix p m c cX12_locals 6 s args vX12_locals RX12) (hr : meth.sig.returnType = (some .int)) (hlo : meth.locks = false) {out : Int32 × PH} : ∀ (n : Nat) {h : PH} {a0 : Nat} {x1 : Int32} {x2 : Int32} {x3 : Int32} {x4 : Int32} (f : F12_locals_100  n h a0 x1 x2 x3 x4 = some out) {H : Heap} {locs : List Loc} (I : ph_I D cy b A fl h s H locs) {ls : Array Slot} (hl : lv_has ls 6 [(0, .ref (b + a0)), (1, .int x1), (2, .int x2), (3, .int x3), (4, .int x4)]), W p l e ({ frames := 5, cells := 0, slots := 0, locals := 120 } : Room) s m args below meth c H locs 0 0 (MQ below (va_Qi (fun (r : Int32) (u : PH) => (r, u) = out) (ph_B D cy b A fl) A) args s 0 0 A) (F0 m 100 ls []) := by
  intro n
  induction n with
  | zero => intro h a0 x1 x2 x3 x4 f; rw [F12_locals_100] at f; cases f
  | succ n ih =>
    intro h a0 x1 x2 x3 x4 f H locs I ls hl
    rw [F12_locals_100] at f
    refine lv_iload S.1 S.2.1 dX12_locals_100 (lv_at hl 4 rfl) ?_
    refine lv_aload_n S.1 S.2.1 dX12_locals_102 rfl (lv_at hl 0 rfl) ?_
    obtain ⟨o1, e2, f⟩ := ob f
    refine o_Vi S (As := []) (rest := [.int x4]) (ci := 12) (M12_knownBy l D cy b A fl e2) gX12_locals_X12_knownBy rfl rfl rfl cd12_knownBy ⟨Nat.le_of_ble_eq_true rfl, Nat.le_of_ble_eq_true rfl⟩ I (gd e2).1 clX12 rfl rfl hl.1 rfl (Nat.le_of_ble_eq_true rfl) dX12_locals_103 ⟨Nat.le_of_ble_eq_true rfl, Nat.le_of_ble_eq_true rfl⟩ (fun H locs I => ?_)
    refine lv_icmp_ge (tgt := 220) S.1 S.2.1 dX12_locals_106 (by decide) (fun q3 => ?_) (fun q3 => ?_)
    · have f := (if_pos q3).symm.trans f
      refine lv_iload_n S.1 S.2.1 dX12_locals_220 rfl (lv_at hl 2 rfl) ?_
      refine lv_iload_n S.1 S.2.1 dX12_locals_221 rfl (lv_at hl 3 rfl) ?_
      refine lv_iconst (v := (-1)) S.1 S.2.1 dX12_locals_222 (by decide) ?_
      refine lv_ixor S.1 S.2.1 dX12_locals_223 ?_
      refine lv_iand S.1 S.2.1 dX12_locals_224 ?_
      exact o_iret S hr hlo I f dX12_locals_225
    · have f := (if_neg q3).symm.trans f
      refine lv_aload_n S.1 S.2.1 dX12_locals_109 rfl (lv_at hl 0 rfl) ?_
      obtain ⟨r4, e5, f⟩ := ob f
      refine o_gR S lf12_locals_139 I e5 dX12_locals_110 ?_
      refine lv_iload S.1 S.2.1 dX12_locals_113 (lv_at hl 4 rfl) ?_
      obtain ⟨v7, e6, f⟩ := ob f
      refine o_zald S I e6 dX12_locals_115 ?_
      refine lv_if_eq (tgt := 214) S.1 S.2.1 dX12_locals_116 (by decide) (fun q8 => ?_) (fun q8 => ?_)
      · have f := (if_pos q8).symm.trans f
        refine lv_iinc (v := (x4 + 1)) (lv' := [(4, .int (x4 + 1)), (0, .ref (b + a0)), (1, .int x1), (2, .int x2), (3, .int x3)]) S.1 S.2.1 dX12_locals_214 hl (k := 4) rfl (congrArg (fun z => x4 + z) (by decide)) (by decide) rfl (fun ls hl => ?_)
        refine lv_goto (tgt := 100) S.1 S.2.1 dX12_locals_217 (by decide) ?_
        exact ih f I (lv_sub hl [1, 2, 3, 4, 0] rfl)
      · have f := (if_neg q8).symm.trans f
        refine lv_aload_n S.1 S.2.1 dX12_locals_119 rfl (lv_at hl 0 rfl) ?_
        obtain ⟨r9, e10, f⟩ := ob f
        refine o_gR S lf12_locals_136 I e10 dX12_locals_120 ?_
        refine lv_iconst (v := 3) S.1 S.2.1 dX12_locals_123 (by decide) ?_
        refine lv_iload S.1 S.2.1 dX12_locals_124 (lv_at hl 4 rfl) ?_
        refine lv_imul S.1 S.2.1 dX12_locals_126 ?_
        obtain ⟨v12, e11, f⟩ := ob f
        refine o_iald S I e11 dX12_locals_127 ?_
        refine lv_if_ge (tgt := 134) S.1 S.2.1 dX12_locals_128 (by decide) (fun q13 => ?_) (fun q13 => ?_)
        · have f := (if_pos q13).symm.trans f
          refine lv_aload_n S.1 S.2.1 dX12_locals_134 rfl (lv_at hl 0 rfl) ?_
          refine lv_aload_n S.1 S.2.1 dX12_locals_135 rfl (lv_at hl 0 rfl) ?_
          obtain ⟨r14, e15, f⟩ := ob f
          refine o_gR S lf12_locals_136 I e15 dX12_locals_136 ?_
          refine lv_iconst (v := 3) S.1 S.2.1 dX12_locals_139 (by decide) ?_
          refine lv_iload S.1 S.2.1 dX12_locals_140 (lv_at hl 4 rfl) ?_
          refine lv_imul S.1 S.2.1 dX12_locals_142 ?_
          obtain ⟨v17, e16, f⟩ := ob f
          refine o_iald S I e16 dX12_locals_143 ?_
          obtain ⟨o18, e19, f⟩ := ob f
          refine o_Vi S (As := [.int v17]) (rest := []) (ci := 12) (M12_beginsFrom l D cy b A fl e19) gX12_locals_X12_beginsFrom rfl rfl rfl cd12_beginsFrom ⟨Nat.le_of_ble_eq_true rfl, Nat.le_of_ble_eq_true rfl⟩ I (gd e19).1 clX12 rfl rfl hl.1 rfl (Nat.le_of_ble_eq_true rfl) dX12_locals_144 ⟨Nat.le_of_ble_eq_true rfl, Nat.le_of_ble_eq_true rfl⟩ (fun H locs I => ?_)
          refine lv_istore (lv' := [(5, .int o18.1), (0, .ref (b + a0)), (1, .int x1), (2, .int x2), (3, .int x3), (4, .int x4)]) S.1 S.2.1 dX12_locals_147 hl (by decide) rfl (fun ls hl => ?_)
          refine lv_iload S.1 S.2.1 dX12_locals_149 (lv_at hl 0 rfl) ?_
          refine lv_if_ge (tgt := 157) S.1 S.2.1 dX12_locals_151 (by decide) (fun q20 => ?_) (fun q20 => ?_)
          · have f := (if_pos q20).symm.trans f
            refine lv_iload_n S.1 S.2.1 dX12_locals_157 rfl (lv_at hl 3 rfl) ?_
            refine lv_iconst (v := 1) S.1 S.2.1 dX12_locals_158 (by decide) ?_
            refine lv_aload_n S.1 S.2.1 dX12_locals_159 rfl (lv_at hl 1 rfl) ?_
            obtain ⟨r21, e22, f⟩ := ob f
            refine o_gR S lf12_locals_136 I e22 dX12_locals_160 ?_
            refine lv_iconst (v := 3) S.1 S.2.1 dX12_locals_163 (by decide) ?_
            refine lv_iload S.1 S.2.1 dX12_locals_164 (lv_at hl 5 rfl) ?_
            refine lv_imul S.1 S.2.1 dX12_locals_166 ?_
            refine lv_iconst (v := 1) S.1 S.2.1 dX12_locals_167 (by decide) ?_
            refine lv_iadd S.1 S.2.1 dX12_locals_168 ?_
            obtain ⟨v24, e23, f⟩ := ob f
            refine o_iald S I e23 dX12_locals_169 ?_
            refine lv_ishl S.1 S.2.1 dX12_locals_170 ?_
            refine lv_ior S.1 S.2.1 dX12_locals_171 ?_
            refine lv_istore_n (lv' := [(2, .int (x2 ||| (1 <<< (v24 &&& 31)))), (5, .int o18.1), (0, .ref (b + a0)), (1, .int x1), (3, .int x3), (4, .int x4)]) S.1 S.2.1 dX12_locals_172 rfl hl (by decide) rfl (fun ls hl => ?_)
            refine lv_aload_n S.1 S.2.1 dX12_locals_173 rfl (lv_at hl 2 rfl) ?_
            refine lv_aload_n S.1 S.2.1 dX12_locals_174 rfl (lv_at hl 2 rfl) ?_
            obtain ⟨r25, e26, f⟩ := ob f
            refine o_gR S lf12_locals_136 I e26 dX12_locals_175 ?_
            refine lv_iconst (v := 3) S.1 S.2.1 dX12_locals_178 (by decide) ?_
            refine lv_iload S.1 S.2.1 dX12_locals_179 (lv_at hl 5 rfl) ?_
            refine lv_imul S.1 S.2.1 dX12_locals_181 ?_
            refine lv_iconst (v := 2) S.1 S.2.1 dX12_locals_182 (by decide) ?_
            refine lv_iadd S.1 S.2.1 dX12_locals_183 ?_
            obtain ⟨v28, e27, f⟩ := ob f
            refine o_iald S I e27 dX12_locals_184 ?_
            refine lv_aload_n S.1 S.2.1 dX12_locals_185 rfl (lv_at hl 2 rfl) ?_
            refine lv_iload S.1 S.2.1 dX12_locals_186 (lv_at hl 1 rfl) ?_
            obtain ⟨o29, e30, f⟩ := ob f
            refine o_Vi S (As := [.int o18.1]) (rest := [.int v28, .ref (b + a0)]) (ci := 12) (M12_peakAt l D cy b A fl e30) gX12_locals_X12_peakAt rfl rfl rfl cd12_peakAt ⟨Nat.le_of_ble_eq_true rfl, Nat.le_of_ble_eq_true rfl⟩ I (gd e30).1 clX12 rfl rfl hl.1 rfl (Nat.le_of_ble_eq_true rfl) dX12_locals_188 ⟨Nat.le_of_ble_eq_true rfl, Nat.le_of_ble_eq_true rfl⟩ (fun H locs I => ?_)
            obtain ⟨o31, e32, f⟩ := ob f
            refine o_Vi S (As := [.int v28, .int o29.1]) (rest := []) (ci := 12) (M12_far l D cy b A fl e32) gX12_locals_X12_far rfl rfl rfl cd12_far ⟨Nat.le_of_ble_eq_true rfl, Nat.le_of_ble_eq_true rfl⟩ I (gd e32).1 clX12 rfl rfl hl.1 rfl (Nat.le_of_ble_eq_true rfl) dX12_locals_191 ⟨Nat.le_of_ble_eq_true rfl, Nat.le_of_ble_eq_true rfl⟩ (fun H locs I => ?_)
            refine lv_iload_n S.1 S.2.1 dX12_locals_194 rfl (lv_at hl 3 rfl) ?_
            refine lv_icmp_le (tgt := 214) S.1 S.2.1 dX12_locals_195 (by decide) (fun q33 => ?_) (fun q33 => ?_)
            · have f := (if_pos q33).symm.trans f
              refine lv_iinc (v := (x4 + 1)) (lv' := [(4, .int (x4 + 1)), (2, .int (x2 ||| (1 <<< (v24 &&& 31)))), (5, .int o18.1), (0, .ref (b + a0)), (1, .int x1), (3, .int x3)]) S.1 S.2.1 dX12_locals_214 hl (k := 5) rfl (congrArg (fun z => x4 + z) (by decide)) (by decide) rfl (fun ls hl => ?_)
              refine lv_goto (tgt := 100) S.1 S.2.1 dX12_locals_217 (by decide) ?_
              exact ih f I (lv_sub hl [3, 4, 1, 5, 0] rfl)
            · have f := (if_neg q33).symm.trans f
              refine lv_iload_n S.1 S.2.1 dX12_locals_198 rfl (lv_at hl 4 rfl) ?_
              refine lv_iconst (v := 1) S.1 S.2.1 dX12_locals_199 (by decide) ?_
              refine lv_aload_n S.1 S.2.1 dX12_locals_200 rfl (lv_at hl 2 rfl) ?_
              obtain ⟨r34, e35, f⟩ := ob f
              refine o_gR S lf12_locals_136 I e35 dX12_locals_201 ?_
              refine lv_iconst (v := 3) S.1 S.2.1 dX12_locals_204 (by decide) ?_
              refine lv_iload S.1 S.2.1 dX12_locals_205 (lv_at hl 5 rfl) ?_
              refine lv_imul S.1 S.2.1 dX12_locals_207 ?_
              refine lv_iconst (v := 1) S.1 S.2.1 dX12_locals_208 (by decide) ?_
              refine lv_iadd S.1 S.2.1 dX12_locals_209 ?_
              obtain ⟨v37, e36, f⟩ := ob f
              refine o_iald S I e36 dX12_locals_210 ?_
              refine lv_ishl S.1 S.2.1 dX12_locals_211 ?_
              refine lv_ior S.1 S.2.1 dX12_locals_212 ?_
              refine lv_istore_n (lv' := [(3, .int (x3 ||| (1 <<< (v37 &&& 31)))), (2, .int (x2 ||| (1 <<< (v24 &&& 31)))), (5, .int o18.1), (0, .ref (b + a0)), (1, .int x1), (4, .int x4)]) S.1 S.2.1 dX12_locals_213 rfl hl (by decide) rfl (fun ls hl => ?_)
              refine lv_iinc (v := (x4 + 1)) (lv' := [(4, .int (x4 + 1)), (3, .int (x3 ||| (1 <<< (v37 &&& 31)))), (2, .int (x2 ||| (1 <<< (v24 &&& 31)))), (5, .int o18.1), (0, .ref (b + a0)), (1, .int x1)]) S.1 S.2.1 dX12_locals_214 hl (k := 5) rfl (congrArg (fun z => x4 + z) (by decide)) (by decide) rfl (fun ls hl => ?_)
              refine lv_goto (tgt := 100) S.1 S.2.1 dX12_locals_217 (by decide) ?_
              exact ih f I (lv_sub hl [4, 5, 2, 1, 0] rfl)
          · have f := (if_neg q20).symm.trans f
            refine lv_goto (tgt := 214) S.1 S.2.1 dX12_locals_154 (by decide) ?_
            refine lv_iinc (v := (x4 + 1)) (lv' := [(4, .int (x4 + 1)), (5, .int o18.1), (0, .ref (b + a0)), (1, .int x1), (2, .int x2), (3, .int x3)]) S.1 S.2.1 dX12_locals_214 hl (k := 5) rfl (congrArg (fun z => x4 + z) (by decide)) (by decide) rfl (fun ls hl => ?_)
            refine lv_goto (tgt := 100) S.1 S.2.1 dX12_locals_217 (by decide) ?_
            exact ih f I (lv_sub hl [2, 3, 4, 5, 0] rfl)
        · have f := (if_neg q13).symm.trans f
          refine lv_goto (tgt := 214) S.1 S.2.1 dX12_locals_131 (by decide) ?_
          refine lv_iinc (v := (x4 + 1)) (lv' := [(4, .int (x4 + 1)), (0, .ref (b + a0)), (1, .int x1), (2, .int x2), (3, .int x3)]) S.1 S.2.1 dX12_locals_214 hl (k := 4) rfl (congrArg (fun z => x4 + z) (by decide)) (by decide) rfl (fun ls hl => ?_)
          refine lv_goto (tgt := 100) S.1 S.2.1 dX12_locals_217 (by decide) ?_
          exact ih f I (lv_sub hl [1, 2, 3, 4, 0] rfl)
set_option maxHeartbeats 4000000 in
set_option maxRecDepth 100000 in
theorem T12_locals_47 (S : CallFix p m c cX12_locals 6 s args vX12_locals RX12) (hr : meth.sig.returnType = (some .int)) (hlo : meth.locks = false) {out : Int32 × PH} : ∀ (n : Nat) {h : PH} {a0 : Nat} {x1 : Int32} {x2 : Int32} (f : F12_locals_47  n h a0 x1 x2 = some out) {H : Heap} {locs : List Loc} (I : ph_I D cy b A fl h s H locs) {ls : Array Slot} (hl : lv_has ls 6 [(0, .ref (b + a0)), (1, .int x1), (2, .int x2)]), W p l e ({ frames := 5, cells := 0, slots := 0, locals := 120 } : Room) s m args below meth c H locs 0 0 (MQ below (va_Qi (fun (r : Int32) (u : PH) => (r, u) = out) (ph_B D cy b A fl) A) args s 0 0 A) (F0 m 47 ls []) := by
  intro n
  induction n with
  | zero => intro h a0 x1 x2 f; rw [F12_locals_47] at f; cases f
  | succ n ih =>
    intro h a0 x1 x2 f H locs I ls hl
    rw [F12_locals_47] at f
    refine lv_iload_n S.1 S.2.1 dX12_locals_47 rfl (lv_at hl 2 rfl) ?_
    refine lv_if_lt (tgt := 93) S.1 S.2.1 dX12_locals_48 (by decide) (fun q1 => ?_) (fun q1 => ?_)
    · have f := (if_pos q1).symm.trans f
      refine lv_iconst (v := 0) S.1 S.2.1 dX12_locals_93 (by decide) ?_
      refine lv_istore_n (lv' := [(2, .int 0), (0, .ref (b + a0)), (1, .int x1)]) S.1 S.2.1 dX12_locals_94 rfl hl (by decide) rfl (fun ls hl => ?_)
      refine lv_iconst (v := 0) S.1 S.2.1 dX12_locals_95 (by decide) ?_
      refine lv_istore_n (lv' := [(3, .int 0), (2, .int 0), (0, .ref (b + a0)), (1, .int x1)]) S.1 S.2.1 dX12_locals_96 rfl hl (by decide) rfl (fun ls hl => ?_)
      refine lv_iconst (v := 0) S.1 S.2.1 dX12_locals_97 (by decide) ?_
      refine lv_istore (lv' := [(4, .int 0), (3, .int 0), (2, .int 0), (0, .ref (b + a0)), (1, .int x1)]) S.1 S.2.1 dX12_locals_98 hl (by decide) rfl (fun ls hl => ?_)
      exact T12_locals_100 S hr hlo  1024 f I (lv_sub hl [3, 4, 2, 1, 0] rfl)
    · have f := (if_neg q1).symm.trans f
      refine lv_aload_n S.1 S.2.1 dX12_locals_51 rfl (lv_at hl 0 rfl) ?_
      obtain ⟨r2, e3, f⟩ := ob f
      refine o_gR S lf12_locals_139 I e3 dX12_locals_52 ?_
      refine lv_iload_n S.1 S.2.1 dX12_locals_55 rfl (lv_at hl 2 rfl) ?_
      obtain ⟨v5, e4, f⟩ := ob f
      refine o_zald S I e4 dX12_locals_56 ?_
      refine lv_if_eq (tgt := 87) S.1 S.2.1 dX12_locals_57 (by decide) (fun q6 => ?_) (fun q6 => ?_)
      · have f := (if_pos q6).symm.trans f
        refine lv_iinc (v := (x2 + (-1))) (lv' := [(2, .int (x2 + (-1))), (0, .ref (b + a0)), (1, .int x1)]) S.1 S.2.1 dX12_locals_87 hl (k := 2) rfl (congrArg (fun z => x2 + z) (by decide)) (by decide) rfl (fun ls hl => ?_)
        refine lv_goto (tgt := 47) S.1 S.2.1 dX12_locals_90 (by decide) ?_
        exact ih f I (lv_sub hl [1, 2, 0] rfl)
      · have f := (if_neg q6).symm.trans f
        refine lv_aload_n S.1 S.2.1 dX12_locals_60 rfl (lv_at hl 0 rfl) ?_
        obtain ⟨r7, e8, f⟩ := ob f
        refine o_gR S lf12_locals_136 I e8 dX12_locals_61 ?_
        refine lv_iconst (v := 3) S.1 S.2.1 dX12_locals_64 (by decide) ?_
        refine lv_iload_n S.1 S.2.1 dX12_locals_65 rfl (lv_at hl 2 rfl) ?_
        refine lv_imul S.1 S.2.1 dX12_locals_66 ?_
        obtain ⟨v10, e9, f⟩ := ob f
        refine o_iald S I e9 dX12_locals_67 ?_
        refine lv_if_ge (tgt := 87) S.1 S.2.1 dX12_locals_68 (by decide) (fun q11 => ?_) (fun q11 => ?_)
        · have f := (if_pos q11).symm.trans f
          refine lv_iinc (v := (x2 + (-1))) (lv' := [(2, .int (x2 + (-1))), (0, .ref (b + a0)), (1, .int x1)]) S.1 S.2.1 dX12_locals_87 hl (k := 2) rfl (congrArg (fun z => x2 + z) (by decide)) (by decide) rfl (fun ls hl => ?_)
          refine lv_goto (tgt := 47) S.1 S.2.1 dX12_locals_90 (by decide) ?_
          exact ih f I (lv_sub hl [1, 2, 0] rfl)
        · have f := (if_neg q11).symm.trans f
          refine lv_aload_n S.1 S.2.1 dX12_locals_71 rfl (lv_at hl 0 rfl) ?_
          obtain ⟨r12, e13, f⟩ := ob f
          refine o_gR S lf12_locals_139 I e13 dX12_locals_72 ?_
          refine lv_aload_n S.1 S.2.1 dX12_locals_75 rfl (lv_at hl 0 rfl) ?_
          obtain ⟨r14, e15, f⟩ := ob f
          refine o_gR S lf12_locals_136 I e15 dX12_locals_76 ?_
          refine lv_iconst (v := 3) S.1 S.2.1 dX12_locals_79 (by decide) ?_
          refine lv_iload_n S.1 S.2.1 dX12_locals_80 rfl (lv_at hl 2 rfl) ?_
          refine lv_imul S.1 S.2.1 dX12_locals_81 ?_
          refine lv_iconst (v := 1) S.1 S.2.1 dX12_locals_82 (by decide) ?_
          refine lv_iadd S.1 S.2.1 dX12_locals_83 ?_
          obtain ⟨v17, e16, f⟩ := ob f
          refine o_iald S I e16 dX12_locals_84 ?_
          refine lv_iconst (v := 0) S.1 S.2.1 dX12_locals_85 (by decide) ?_
          obtain ⟨h19, e18, f⟩ := ob f
          refine o_zast S I e18 dX12_locals_86 (fun H locs I => ?_)
          refine lv_iinc (v := (x2 + (-1))) (lv' := [(2, .int (x2 + (-1))), (0, .ref (b + a0)), (1, .int x1)]) S.1 S.2.1 dX12_locals_87 hl (k := 2) rfl (congrArg (fun z => x2 + z) (by decide)) (by decide) rfl (fun ls hl => ?_)
          refine lv_goto (tgt := 47) S.1 S.2.1 dX12_locals_90 (by decide) ?_
          exact ih f I (lv_sub hl [1, 2, 0] rfl)
set_option maxHeartbeats 4000000 in
set_option maxRecDepth 100000 in
theorem T12_locals_19 (S : CallFix p m c cX12_locals 6 s args vX12_locals RX12) (hr : meth.sig.returnType = (some .int)) (hlo : meth.locks = false) {out : Int32 × PH} : ∀ (n : Nat) {h : PH} {a0 : Nat} {x1 : Int32} {x2 : Int32} (f : F12_locals_19  n h a0 x1 x2 = some out) {H : Heap} {locs : List Loc} (I : ph_I D cy b A fl h s H locs) {ls : Array Slot} (hl : lv_has ls 6 [(0, .ref (b + a0)), (1, .int x1), (2, .int x2)]), W p l e ({ frames := 5, cells := 0, slots := 0, locals := 120 } : Room) s m args below meth c H locs 0 0 (MQ below (va_Qi (fun (r : Int32) (u : PH) => (r, u) = out) (ph_B D cy b A fl) A) args s 0 0 A) (F0 m 19 ls []) := by
  intro n
  induction n with
  | zero => intro h a0 x1 x2 f; rw [F12_locals_19] at f; cases f
  | succ n ih =>
    intro h a0 x1 x2 f H locs I ls hl
    rw [F12_locals_19] at f
    refine lv_iload_n S.1 S.2.1 dX12_locals_19 rfl (lv_at hl 2 rfl) ?_
    refine lv_aload_n S.1 S.2.1 dX12_locals_20 rfl (lv_at hl 0 rfl) ?_
    obtain ⟨o1, e2, f⟩ := ob f
    refine o_Vi S (As := []) (rest := [.int x2]) (ci := 12) (M12_knownBy l D cy b A fl e2) gX12_locals_X12_knownBy rfl rfl rfl cd12_knownBy ⟨Nat.le_of_ble_eq_true rfl, Nat.le_of_ble_eq_true rfl⟩ I (gd e2).1 clX12 rfl rfl hl.1 rfl (Nat.le_of_ble_eq_true rfl) dX12_locals_21 ⟨Nat.le_of_ble_eq_true rfl, Nat.le_of_ble_eq_true rfl⟩ (fun H locs I => ?_)
    refine lv_icmp_ge (tgt := 40) S.1 S.2.1 dX12_locals_24 (by decide) (fun q3 => ?_) (fun q3 => ?_)
    · have f := (if_pos q3).symm.trans f
      refine lv_aload_n S.1 S.2.1 dX12_locals_40 rfl (lv_at hl 0 rfl) ?_
      obtain ⟨o4, e5, f⟩ := ob f
      refine o_Vi S (As := []) (rest := []) (ci := 12) (M12_knownBy l D cy b A fl e5) gX12_locals_X12_knownBy rfl rfl rfl cd12_knownBy ⟨Nat.le_of_ble_eq_true rfl, Nat.le_of_ble_eq_true rfl⟩ I (gd e5).1 clX12 rfl rfl hl.1 rfl (Nat.le_of_ble_eq_true rfl) dX12_locals_41 ⟨Nat.le_of_ble_eq_true rfl, Nat.le_of_ble_eq_true rfl⟩ (fun H locs I => ?_)
      refine lv_iconst (v := 1) S.1 S.2.1 dX12_locals_44 (by decide) ?_
      refine lv_isub S.1 S.2.1 dX12_locals_45 ?_
      refine lv_istore_n (lv' := [(2, .int (o4.1 - 1)), (0, .ref (b + a0)), (1, .int x1)]) S.1 S.2.1 dX12_locals_46 rfl hl (by decide) rfl (fun ls hl => ?_)
      exact T12_locals_47 S hr hlo  1024 f I (lv_sub hl [1, 2, 0] rfl)
    · have f := (if_neg q3).symm.trans f
      refine lv_aload_n S.1 S.2.1 dX12_locals_27 rfl (lv_at hl 0 rfl) ?_
      obtain ⟨r6, e7, f⟩ := ob f
      refine o_gR S lf12_locals_139 I e7 dX12_locals_28 ?_
      refine lv_iload_n S.1 S.2.1 dX12_locals_31 rfl (lv_at hl 2 rfl) ?_
      refine lv_iconst (v := 1) S.1 S.2.1 dX12_locals_32 (by decide) ?_
      obtain ⟨h9, e8, f⟩ := ob f
      refine o_zast S I e8 dX12_locals_33 (fun H locs I => ?_)
      refine lv_iinc (v := (x2 + 1)) (lv' := [(2, .int (x2 + 1)), (0, .ref (b + a0)), (1, .int x1)]) S.1 S.2.1 dX12_locals_34 hl (k := 2) rfl (congrArg (fun z => x2 + z) (by decide)) (by decide) rfl (fun ls hl => ?_)
      refine lv_goto (tgt := 19) S.1 S.2.1 dX12_locals_37 (by decide) ?_
      exact ih f I (lv_sub hl [1, 2, 0] rfl)
set_option maxHeartbeats 4000000 in
set_option maxRecDepth 100000 in
theorem T12_locals_0 (S : CallFix p m c cX12_locals 6 s args vX12_locals RX12) (hr : meth.sig.returnType = (some .int)) (hlo : meth.locks = false) {out : Int32 × PH} {h : PH} {a0 : Nat} {x1 : Int32} (f : F12_locals_0  h a0 x1 = some out) {H : Heap} {locs : List Loc} (I : ph_I D cy b A fl h s H locs) {ls : Array Slot} (hl : lv_has ls 6 [(0, .ref (b + a0)), (1, .int x1)]) : W p l e ({ frames := 5, cells := 0, slots := 0, locals := 120 } : Room) s m args below meth c H locs 0 0 (MQ below (va_Qi (fun (r : Int32) (u : PH) => (r, u) = out) (ph_B D cy b A fl) A) args s 0 0 A) (F0 m 0 ls []) := by
  unfold F12_locals_0 at f
  refine lv_aload_n S.1 S.2.1 dX12_locals_0 rfl (lv_at hl 0 rfl) ?_
  refine lv_iconst (v := 0) S.1 S.2.1 dX12_locals_1 (by decide) ?_
  obtain ⟨h1, e2, f⟩ := ob f
  refine o_pI S lp12_locals_154 I e2 dX12_locals_2 (fun H locs I => ?_)
  refine lv_iload_n S.1 S.2.1 dX12_locals_5 rfl (lv_at hl 1 rfl) ?_
  refine lv_iconst (v := 0) S.1 S.2.1 dX12_locals_6 (by decide) ?_
  refine lv_bipush (v := 12) S.1 S.2.1 dX12_locals_7 (by decide) ?_
  obtain ⟨o3, e4, f⟩ := ob f
  refine o_Si S (As := [.int x1, .int 0, .int 12]) (rest := []) (M12_isIn l D cy b A fl e4) gX12_locals_X12_isIn rfl rfl rfl cd12_isIn ⟨Nat.le_of_ble_eq_true rfl, Nat.le_of_ble_eq_true rfl⟩ I rfl hl.1 rfl (Nat.le_of_ble_eq_true rfl) dX12_locals_9 ⟨Nat.le_of_ble_eq_true rfl, Nat.le_of_ble_eq_true rfl⟩ (fun H locs I => ?_)
  refine lv_if_ne (tgt := 17) S.1 S.2.1 dX12_locals_12 (by decide) (fun q5 => ?_) (fun q5 => ?_)
  · have f := (if_neg q5).symm.trans f
    refine lv_iconst (v := 0) S.1 S.2.1 dX12_locals_17 (by decide) ?_
    refine lv_istore_n (lv' := [(2, .int 0), (0, .ref (b + a0)), (1, .int x1)]) S.1 S.2.1 dX12_locals_18 rfl hl (by decide) rfl (fun ls hl => ?_)
    exact T12_locals_19 S hr hlo  1024 f I (lv_sub hl [1, 2, 0] rfl)
  · have f := (if_pos q5).symm.trans f
    refine lv_iconst (v := (-1)) S.1 S.2.1 dX12_locals_15 (by decide) ?_
    exact o_iret S hr hlo I f dX12_locals_16
theorem M12_locals (l : Launch) (D : va_G) (cy : Nat → ClassId) (b : Nat) (A : Nat → Prop) (fl : Bool) {h : PH} {a0 : Nat} {x1 : Int32} {out : Int32 × PH} (f : F12_locals h a0 x1 = some out) : Met l yX12_locals vX12_locals ({ frames := 5, cells := 0, slots := 0, locals := 120 } : Room) (va_Pc [.ref (b + a0), .int x1] (ph_B D cy b A fl h)) (va_Qi (fun (r : Int32) (u : PH) => (r, u) = out) (ph_B D cy b A fl) A) 0 0 A :=
  o_met (by decide) rfl (Nat.le_of_ble_eq_true rfl) rfl (fun p e s m below meth c S hr hlo hnm ls hl I => T12_locals_0 S hr hlo ((gd f).2) I (lv_sub hl [0, 1] rfl))
def vX12_look : List Cond := .code yX12_look cX12_look 3 (some .int) :: TB
theorem lp12_look_154 : Pl vX12_look RX12 154 12 2 .int := ⟨RX12, TX12, 87, tyX12, rfl, by decide, (fun w h9 => List.mem_cons_of_mem _ (wC_wsX120 w h9)), (List.mem_cons_of_mem _ wT_13_17), tyX12_ok, nmX12, rfl, rfl⟩
theorem gX12_look_X12_isSurfer : GoodIn vX12_look (wsV RX12 413 RX12 yX12_isSurfer vX12_isSurfer) := gV_of wT_34_14 wT_34_15 wT_34_16 wT_1_5 wT_34_17
theorem lf12_look_88 : Fl vX12_look RX12 88 12 55 := ⟨RX12, TX12, 87, rfl, by decide, (fun w h9 => List.mem_cons_of_mem _ (wC_wsX120 w h9)), (List.mem_cons_of_mem _ wT_10_22)⟩
theorem lf12_look_91 : Fl vX12_look RX12 91 12 56 := ⟨RX12, TX12, 87, rfl, by decide, (fun w h9 => List.mem_cons_of_mem _ (wC_wsX120 w h9)), (List.mem_cons_of_mem _ wT_10_23)⟩
theorem lf12_look_94 : Fl vX12_look RX12 94 12 57 := ⟨RX12, TX12, 87, rfl, by decide, (fun w h9 => List.mem_cons_of_mem _ (wC_wsX120 w h9)), (List.mem_cons_of_mem _ wT_11_0)⟩
theorem lf12_look_97 : Fl vX12_look RX12 97 12 58 := ⟨RX12, TX12, 87, rfl, by decide, (fun w h9 => List.mem_cons_of_mem _ (wC_wsX120 w h9)), (List.mem_cons_of_mem _ wT_11_1)⟩
theorem lf12_look_100 : Fl vX12_look RX12 100 12 59 := ⟨RX12, TX12, 87, rfl, by decide, (fun w h9 => List.mem_cons_of_mem _ (wC_wsX120 w h9)), (List.mem_cons_of_mem _ wT_11_2)⟩
theorem lf12_look_106 : Fl vX12_look RX12 106 12 61 := ⟨RX12, TX12, 87, rfl, by decide, (fun w h9 => List.mem_cons_of_mem _ (wC_wsX120 w h9)), (List.mem_cons_of_mem _ wT_11_4)⟩
theorem gX12_look_X12_peakAt : GoodIn vX12_look (wsV RX12 400 RX12 yX12_peakAt vX12_peakAt) := gV_of wT_34_22 wT_34_23 wT_35_0 wT_1_5 wT_35_1
theorem gX12_look_X12_far : GoodIn vX12_look (wsV RX12 403 RX12 yX12_far vX12_far) := gV_of wT_36_8 wT_36_9 wT_36_10 wT_1_5 wT_36_11
theorem gX12_look_X12_fails : GoodIn vX12_look (wsV RX12 416 RX12 yX12_fails vX12_fails) := gV_of wT_34_18 wT_34_19 wT_34_20 wT_1_5 wT_34_21
theorem cd12_look : Cd yX12_look 2 := ⟨by decide, by decide, by decide +kernel⟩
set_option maxHeartbeats 4000000 in
set_option maxRecDepth 100000 in
theorem T12_look_0 (S : CallFix p m c cX12_look 3 s args vX12_look RX12) (hr : meth.sig.returnType = (some .int)) (hlo : meth.locks = false) {out : Int32 × PH} {h : PH} {a0 : Nat} {x1 : Int32} {x2 : Int32} (f : F12_look_0  h a0 x1 x2 = some out) {H : Heap} {locs : List Loc} (I : ph_I D cy b A fl h s H locs) {ls : Array Slot} (hl : lv_has ls 3 [(0, .ref (b + a0)), (1, .int x1), (2, .int x2)]) : W p l e ({ frames := 5, cells := 0, slots := 0, locals := 120 } : Room) s m args below meth c H locs 0 0 (MQ below (va_Qi (fun (r : Int32) (u : PH) => (r, u) = out) (ph_B D cy b A fl) A) args s 0 0 A) (F0 m 0 ls []) := by
  unfold F12_look_0 at f
  refine lv_aload_n S.1 S.2.1 dX12_look_0 rfl (lv_at hl 0 rfl) ?_
  refine lv_iconst (v := 0) S.1 S.2.1 dX12_look_1 (by decide) ?_
  obtain ⟨h1, e2, f⟩ := ob f
  refine o_pI S lp12_look_154 I e2 dX12_look_2 (fun H locs I => ?_)
  refine lv_aload_n S.1 S.2.1 dX12_look_5 rfl (lv_at hl 0 rfl) ?_
  refine lv_iload_n S.1 S.2.1 dX12_look_6 rfl (lv_at hl 1 rfl) ?_
  obtain ⟨o3, e4, f⟩ := ob f
  refine o_Vi S (As := [.int x1]) (rest := []) (ci := 12) (M12_isSurfer l D cy b A fl e4) gX12_look_X12_isSurfer rfl rfl rfl cd12_isSurfer ⟨Nat.le_of_ble_eq_true rfl, Nat.le_of_ble_eq_true rfl⟩ I (gd e4).1 clX12 rfl rfl hl.1 rfl (Nat.le_of_ble_eq_true rfl) dX12_look_7 ⟨Nat.le_of_ble_eq_true rfl, Nat.le_of_ble_eq_true rfl⟩ (fun H locs I => ?_)
  refine lv_if_ne (tgt := 19) S.1 S.2.1 dX12_look_10 (by decide) (fun q5 => ?_) (fun q5 => ?_)
  · have f := (if_neg q5).symm.trans f
    refine lv_iload_n S.1 S.2.1 dX12_look_19 rfl (lv_at hl 2 rfl) ?_
    rcases Decidable.em (x2 = 0) with q6 | q6
    · have f := (if_pos q6).symm.trans f
      refine lv_tableIn (off := 40) (tgt := 60) S.1 S.2.1 dX12_look_20 (by rw [q6]; decide) (by rw [q6]; decide) (by rw [q6]; rfl) (by decide) ?_
      refine lv_aload_n S.1 S.2.1 dX12_look_60 rfl (lv_at hl 0 rfl) ?_
      obtain ⟨r7, e8, f⟩ := ob f
      refine o_gR S lf12_look_88 I e8 dX12_look_61 ?_
      refine lv_iload_n S.1 S.2.1 dX12_look_64 rfl (lv_at hl 1 rfl) ?_
      obtain ⟨v10, e9, f⟩ := ob f
      refine o_iald S I e9 dX12_look_65 ?_
      exact o_iret S hr hlo I f dX12_look_66
    have f := (if_neg q6).symm.trans f
    rcases Decidable.em (x2 = 1) with q11 | q11
    · have f := (if_pos q11).symm.trans f
      refine lv_tableIn (off := 47) (tgt := 67) S.1 S.2.1 dX12_look_20 (by rw [q11]; decide) (by rw [q11]; decide) (by rw [q11]; rfl) (by decide) ?_
      refine lv_aload_n S.1 S.2.1 dX12_look_67 rfl (lv_at hl 0 rfl) ?_
      obtain ⟨r12, e13, f⟩ := ob f
      refine o_gR S lf12_look_91 I e13 dX12_look_68 ?_
      refine lv_iload_n S.1 S.2.1 dX12_look_71 rfl (lv_at hl 1 rfl) ?_
      obtain ⟨v15, e14, f⟩ := ob f
      refine o_iald S I e14 dX12_look_72 ?_
      exact o_iret S hr hlo I f dX12_look_73
    have f := (if_neg q11).symm.trans f
    rcases Decidable.em (x2 = 2) with q16 | q16
    · have f := (if_pos q16).symm.trans f
      refine lv_tableIn (off := 54) (tgt := 74) S.1 S.2.1 dX12_look_20 (by rw [q16]; decide) (by rw [q16]; decide) (by rw [q16]; rfl) (by decide) ?_
      refine lv_aload_n S.1 S.2.1 dX12_look_74 rfl (lv_at hl 0 rfl) ?_
      obtain ⟨r17, e18, f⟩ := ob f
      refine o_gR S lf12_look_94 I e18 dX12_look_75 ?_
      refine lv_iload_n S.1 S.2.1 dX12_look_78 rfl (lv_at hl 1 rfl) ?_
      obtain ⟨v20, e19, f⟩ := ob f
      refine o_iald S I e19 dX12_look_79 ?_
      exact o_iret S hr hlo I f dX12_look_80
    have f := (if_neg q16).symm.trans f
    rcases Decidable.em (x2 = 3) with q21 | q21
    · have f := (if_pos q21).symm.trans f
      refine lv_tableIn (off := 61) (tgt := 81) S.1 S.2.1 dX12_look_20 (by rw [q21]; decide) (by rw [q21]; decide) (by rw [q21]; rfl) (by decide) ?_
      refine lv_aload_n S.1 S.2.1 dX12_look_81 rfl (lv_at hl 0 rfl) ?_
      obtain ⟨r22, e23, f⟩ := ob f
      refine o_gR S lf12_look_97 I e23 dX12_look_82 ?_
      refine lv_iload_n S.1 S.2.1 dX12_look_85 rfl (lv_at hl 1 rfl) ?_
      obtain ⟨v25, e24, f⟩ := ob f
      refine o_iald S I e24 dX12_look_86 ?_
      exact o_iret S hr hlo I f dX12_look_87
    have f := (if_neg q21).symm.trans f
    rcases Decidable.em (x2 = 4) with q26 | q26
    · have f := (if_pos q26).symm.trans f
      refine lv_tableIn (off := 68) (tgt := 88) S.1 S.2.1 dX12_look_20 (by rw [q26]; decide) (by rw [q26]; decide) (by rw [q26]; rfl) (by decide) ?_
      refine lv_aload_n S.1 S.2.1 dX12_look_88 rfl (lv_at hl 0 rfl) ?_
      obtain ⟨r27, e28, f⟩ := ob f
      refine o_gR S lf12_look_100 I e28 dX12_look_89 ?_
      refine lv_iload_n S.1 S.2.1 dX12_look_92 rfl (lv_at hl 1 rfl) ?_
      obtain ⟨v30, e29, f⟩ := ob f
      refine o_iald S I e29 dX12_look_93 ?_
      exact o_iret S hr hlo I f dX12_look_94
    have f := (if_neg q26).symm.trans f
    rcases Decidable.em (x2 = 5) with q31 | q31
    · have f := (if_pos q31).symm.trans f
      refine lv_tableIn (off := 75) (tgt := 95) S.1 S.2.1 dX12_look_20 (by rw [q31]; decide) (by rw [q31]; decide) (by rw [q31]; rfl) (by decide) ?_
      refine lv_aload_n S.1 S.2.1 dX12_look_95 rfl (lv_at hl 0 rfl) ?_
      refine lv_aload_n S.1 S.2.1 dX12_look_96 rfl (lv_at hl 0 rfl) ?_
      obtain ⟨r32, e33, f⟩ := ob f
      refine o_gR S lf12_look_88 I e33 dX12_look_97 ?_
      refine lv_iload_n S.1 S.2.1 dX12_look_100 rfl (lv_at hl 1 rfl) ?_
      obtain ⟨v35, e34, f⟩ := ob f
      refine o_iald S I e34 dX12_look_101 ?_
      refine lv_aload_n S.1 S.2.1 dX12_look_102 rfl (lv_at hl 0 rfl) ?_
      refine lv_aload_n S.1 S.2.1 dX12_look_103 rfl (lv_at hl 0 rfl) ?_
      obtain ⟨r36, e37, f⟩ := ob f
      refine o_gR S lf12_look_106 I e37 dX12_look_104 ?_
      refine lv_iconst (v := 0) S.1 S.2.1 dX12_look_107 (by decide) ?_
      obtain ⟨v39, e38, f⟩ := ob f
      refine o_iald S I e38 dX12_look_108 ?_
      obtain ⟨o40, e41, f⟩ := ob f
      refine o_Vi S (As := [.int v39]) (rest := [.int v35, .ref (b + a0)]) (ci := 12) (M12_peakAt l D cy b A fl e41) gX12_look_X12_peakAt rfl rfl rfl cd12_peakAt ⟨Nat.le_of_ble_eq_true rfl, Nat.le_of_ble_eq_true rfl⟩ I (gd e41).1 clX12 rfl rfl hl.1 rfl (Nat.le_of_ble_eq_true rfl) dX12_look_109 ⟨Nat.le_of_ble_eq_true rfl, Nat.le_of_ble_eq_true rfl⟩ (fun H locs I => ?_)
      obtain ⟨o42, e43, f⟩ := ob f
      refine o_Vi S (As := [.int v35, .int o40.1]) (rest := []) (ci := 12) (M12_far l D cy b A fl e43) gX12_look_X12_far rfl rfl rfl cd12_far ⟨Nat.le_of_ble_eq_true rfl, Nat.le_of_ble_eq_true rfl⟩ I (gd e43).1 clX12 rfl rfl hl.1 rfl (Nat.le_of_ble_eq_true rfl) dX12_look_112 ⟨Nat.le_of_ble_eq_true rfl, Nat.le_of_ble_eq_true rfl⟩ (fun H locs I => ?_)
      exact o_iret S hr hlo I f dX12_look_115
    have f := (if_neg q31).symm.trans f
    refine lv_tableOut (tgt := 116) S.1 S.2.1 dX12_look_20 (by have := lv_neT q6 (a := 0) (by decide); have := lv_neT q11 (a := 1) (by decide); have := lv_neT q16 (a := 2) (by decide); have := lv_neT q21 (a := 3) (by decide); have := lv_neT q26 (a := 4) (by decide); have := lv_neT q31 (a := 5) (by decide); omega) (by decide) ?_
    refine lv_aload_n S.1 S.2.1 dX12_look_116 rfl (lv_at hl 0 rfl) ?_
    refine lv_iconst (v := 2) S.1 S.2.1 dX12_look_117 (by decide) ?_
    obtain ⟨o44, e45, f⟩ := ob f
    refine o_Vi S (As := [.int 2]) (rest := []) (ci := 12) (M12_fails l D cy b A fl e45) gX12_look_X12_fails rfl rfl rfl cd12_fails ⟨Nat.le_of_ble_eq_true rfl, Nat.le_of_ble_eq_true rfl⟩ I (gd e45).1 clX12 rfl rfl hl.1 rfl (Nat.le_of_ble_eq_true rfl) dX12_look_118 ⟨Nat.le_of_ble_eq_true rfl, Nat.le_of_ble_eq_true rfl⟩ (fun H locs I => ?_)
    exact o_iret S hr hlo I f dX12_look_121
  · have f := (if_pos q5).symm.trans f
    refine lv_aload_n S.1 S.2.1 dX12_look_13 rfl (lv_at hl 0 rfl) ?_
    refine lv_iconst (v := 1) S.1 S.2.1 dX12_look_14 (by decide) ?_
    obtain ⟨o46, e47, f⟩ := ob f
    refine o_Vi S (As := [.int 1]) (rest := []) (ci := 12) (M12_fails l D cy b A fl e47) gX12_look_X12_fails rfl rfl rfl cd12_fails ⟨Nat.le_of_ble_eq_true rfl, Nat.le_of_ble_eq_true rfl⟩ I (gd e47).1 clX12 rfl rfl hl.1 rfl (Nat.le_of_ble_eq_true rfl) dX12_look_15 ⟨Nat.le_of_ble_eq_true rfl, Nat.le_of_ble_eq_true rfl⟩ (fun H locs I => ?_)
    exact o_iret S hr hlo I f dX12_look_18
theorem M12_look (l : Launch) (D : va_G) (cy : Nat → ClassId) (b : Nat) (A : Nat → Prop) (fl : Bool) {h : PH} {a0 : Nat} {x1 : Int32} {x2 : Int32} {out : Int32 × PH} (f : F12_look h a0 x1 x2 = some out) : Met l yX12_look vX12_look ({ frames := 5, cells := 0, slots := 0, locals := 120 } : Room) (va_Pc [.ref (b + a0), .int x1, .int x2] (ph_B D cy b A fl h)) (va_Qi (fun (r : Int32) (u : PH) => (r, u) = out) (ph_B D cy b A fl) A) 0 0 A :=
  o_met (by decide) rfl (Nat.le_of_ble_eq_true rfl) rfl (fun p e s m below meth c S hr hlo hnm ls hl I => T12_look_0 S hr hlo ((gd f).2) I (lv_sub hl [0, 1, 2] rfl))
def vX12_minutes : List Cond := .code yX12_minutes cX12_minutes 4 (some .int) :: TB
theorem lp12_minutes_379 : Pl vX12_minutes RX12 379 12 78 .int := ⟨RX12, TX12, 87, tyX12, rfl, by decide, (fun w h9 => List.mem_cons_of_mem _ (wC_wsX120 w h9)), (List.mem_cons_of_mem _ wT_13_2), tyX12_ok, nmX12, rfl, rfl⟩
theorem lf12_minutes_106 : Fl vX12_minutes RX12 106 12 61 := ⟨RX12, TX12, 87, rfl, by decide, (fun w h9 => List.mem_cons_of_mem _ (wC_wsX120 w h9)), (List.mem_cons_of_mem _ wT_11_4)⟩
theorem lf12_minutes_247 : Fl vX12_minutes RX12 247 12 14 := ⟨RX12, TX12, 87, rfl, by decide, (fun w h9 => List.mem_cons_of_mem _ (wC_wsX120 w h9)), (List.mem_cons_of_mem _ wT_12_12)⟩
theorem lf12_minutes_100 : Fl vX12_minutes RX12 100 12 59 := ⟨RX12, TX12, 87, rfl, by decide, (fun w h9 => List.mem_cons_of_mem _ (wC_wsX120 w h9)), (List.mem_cons_of_mem _ wT_11_2)⟩
theorem lf12_minutes_36 : Fl vX12_minutes RX12 36 12 30 := ⟨RX12, TX12, 87, rfl, by decide, (fun w h9 => List.mem_cons_of_mem _ (wC_wsX120 w h9)), (List.mem_cons_of_mem _ wT_10_5)⟩
theorem lf12_minutes_379 : Fl vX12_minutes RX12 379 12 78 := ⟨RX12, TX12, 87, rfl, by decide, (fun w h9 => List.mem_cons_of_mem _ (wC_wsX120 w h9)), (List.mem_cons_of_mem _ wT_13_2)⟩
theorem lf12_minutes_369 : Fl vX12_minutes RX12 369 12 64 := ⟨RX12, TX12, 87, rfl, by decide, (fun w h9 => List.mem_cons_of_mem _ (wC_wsX120 w h9)), (List.mem_cons_of_mem _ wT_12_23)⟩
theorem gX12_minutes_X12_aMinute : GoodIn vX12_minutes (wsV RX12 472 RX12 yX12_aMinute vX12_aMinute) := gV_of wT_46_13 wT_46_14 wT_46_15 wT_1_5 wT_46_16
theorem lp12_minutes_154 : Pl vX12_minutes RX12 154 12 2 .int := ⟨RX12, TX12, 87, tyX12, rfl, by decide, (fun w h9 => List.mem_cons_of_mem _ (wC_wsX120 w h9)), (List.mem_cons_of_mem _ wT_13_17), tyX12_ok, nmX12, rfl, rfl⟩
theorem gX12_minutes_X12_isIn : GoodIn vX12_minutes (va_wsS RX12 199 yX12_isIn vX12_isIn) := gS_of wT_28_17 wT_28_18 wT_1_5 wT_28_19
theorem cd12_minutes : Cd yX12_minutes 1 := ⟨by decide, by decide, by decide +kernel⟩
set_option maxHeartbeats 4000000 in
set_option maxRecDepth 100000 in
theorem T12_minutes_94 (S : CallFix p m c cX12_minutes 4 s args vX12_minutes RX12) (hr : meth.sig.returnType = (some .int)) (hlo : meth.locks = false) {out : Int32 × PH} {h : PH} {a0 : Nat} {s0 : Int32} {u1 : Nat} (f : F12_minutes_94  h a0 s0 u1 = some out) {H : Heap} {locs : List Loc} (I : ph_I D cy b A fl h s H locs) {ls : Array Slot} (hl : lv_has ls 4 [(0, .ref (b + a0))]) : W p l e ({ frames := 11, cells := 0, slots := 0, locals := 268 } : Room) s m args below meth c H locs 0 0 (MQ below (va_Qi (fun (r : Int32) (u : PH) => (r, u) = out) (ph_B D cy b A fl) A) args s 0 0 A) (F0 m 94 ls [.int s0, .ref (b + u1)]) := by
  unfold F12_minutes_94 at f
  obtain ⟨h1, e2, f⟩ := ob f
  refine o_pI S lp12_minutes_379 I e2 dX12_minutes_94 (fun H locs I => ?_)
  refine lv_aload_n S.1 S.2.1 dX12_minutes_97 rfl (lv_at hl 0 rfl) ?_
  obtain ⟨r3, e4, f⟩ := ob f
  refine o_gR S lf12_minutes_106 I e4 dX12_minutes_98 ?_
  refine lv_iconst (v := 0) S.1 S.2.1 dX12_minutes_101 (by decide) ?_
  obtain ⟨v6, e5, f⟩ := ob f
  refine o_iald S I e5 dX12_minutes_102 ?_
  exact o_iret S hr hlo I f dX12_minutes_103
set_option maxHeartbeats 4000000 in
set_option maxRecDepth 100000 in
theorem T12_minutes_49 (S : CallFix p m c cX12_minutes 4 s args vX12_minutes RX12) (hr : meth.sig.returnType = (some .int)) (hlo : meth.locks = false) {out : Int32 × PH} {k33 : PH → Nat → Int32 → Int32 → Option (Int32 × PH)} (hk33 : ∀ {h : PH} {a0 : Nat} {x1 : Int32} {x2 : Int32}, k33 h a0 x1 x2 = some out → ∀ (H : Heap) (locs : List Loc), ph_I D cy b A fl h s H locs → ∀ (ls : Array Slot), lv_has ls 4 [(0, .ref (b + a0)), (1, .int x1), (2, .int x2)] → W p l e ({ frames := 11, cells := 0, slots := 0, locals := 268 } : Room) s m args below meth c H locs 0 0 (MQ below (va_Qi (fun (r : Int32) (u : PH) => (r, u) = out) (ph_B D cy b A fl) A) args s 0 0 A) (F0 m 33 ls [])) : ∀ (n : Nat) {h : PH} {a0 : Nat} {x1 : Int32} {x2 : Int32} {x3 : Int32} (f : F12_minutes_49 k33 n h a0 x1 x2 x3 = some out) {H : Heap} {locs : List Loc} (I : ph_I D cy b A fl h s H locs) {ls : Array Slot} (hl : lv_has ls 4 [(0, .ref (b + a0)), (1, .int x1), (2, .int x2), (3, .int x3)]), W p l e ({ frames := 11, cells := 0, slots := 0, locals := 268 } : Room) s m args below meth c H locs 0 0 (MQ below (va_Qi (fun (r : Int32) (u : PH) => (r, u) = out) (ph_B D cy b A fl) A) args s 0 0 A) (F0 m 49 ls []) := by
  intro n
  induction n with
  | zero => intro h a0 x1 x2 x3 f; rw [F12_minutes_49] at f; cases f
  | succ n ih =>
    intro h a0 x1 x2 x3 f H locs I ls hl
    rw [F12_minutes_49] at f
    refine lv_iload_n S.1 S.2.1 dX12_minutes_49 rfl (lv_at hl 3 rfl) ?_
    refine lv_aload_n S.1 S.2.1 dX12_minutes_50 rfl (lv_at hl 0 rfl) ?_
    obtain ⟨v1, e2, f⟩ := ob f
    refine o_gI S lf12_minutes_247 I e2 dX12_minutes_51 ?_
    refine lv_icmp_ge (tgt := 75) S.1 S.2.1 dX12_minutes_54 (by decide) (fun q3 => ?_) (fun q3 => ?_)
    · have f := (if_pos q3).symm.trans f
      refine lv_iinc (v := (x2 + 1)) (lv' := [(2, .int (x2 + 1)), (0, .ref (b + a0)), (1, .int x1), (3, .int x3)]) S.1 S.2.1 dX12_minutes_75 hl (k := 2) rfl (congrArg (fun z => x2 + z) (by decide)) (by decide) rfl (fun ls hl => ?_)
      refine lv_goto (tgt := 33) S.1 S.2.1 dX12_minutes_78 (by decide) ?_
      exact hk33 f _ _ I _ (lv_sub hl [1, 2, 0] rfl)
    · have f := (if_neg q3).symm.trans f
      refine lv_aload_n S.1 S.2.1 dX12_minutes_57 rfl (lv_at hl 0 rfl) ?_
      obtain ⟨r4, e5, f⟩ := ob f
      refine o_gR S lf12_minutes_100 I e5 dX12_minutes_58 ?_
      refine lv_iload_n S.1 S.2.1 dX12_minutes_61 rfl (lv_at hl 3 rfl) ?_
      refine lv_aload_n S.1 S.2.1 dX12_minutes_62 rfl (lv_at hl 0 rfl) ?_
      obtain ⟨r6, e7, f⟩ := ob f
      refine o_gR S lf12_minutes_36 I e7 dX12_minutes_63 ?_
      refine lv_iload_n S.1 S.2.1 dX12_minutes_66 rfl (lv_at hl 3 rfl) ?_
      obtain ⟨v9, e8, f⟩ := ob f
      refine o_iald S I e8 dX12_minutes_67 ?_
      obtain ⟨h11, e10, f⟩ := ob f
      refine o_iast S I e10 dX12_minutes_68 (fun H locs I => ?_)
      refine lv_iinc (v := (x3 + 1)) (lv' := [(3, .int (x3 + 1)), (0, .ref (b + a0)), (1, .int x1), (2, .int x2)]) S.1 S.2.1 dX12_minutes_69 hl (k := 3) rfl (congrArg (fun z => x3 + z) (by decide)) (by decide) rfl (fun ls hl => ?_)
      refine lv_goto (tgt := 49) S.1 S.2.1 dX12_minutes_72 (by decide) ?_
      exact ih f I (lv_sub hl [1, 2, 3, 0] rfl)
set_option maxHeartbeats 4000000 in
set_option maxRecDepth 100000 in
theorem T12_minutes_33 (S : CallFix p m c cX12_minutes 4 s args vX12_minutes RX12) (hr : meth.sig.returnType = (some .int)) (hlo : meth.locks = false) {out : Int32 × PH} : ∀ (n : Nat) {h : PH} {a0 : Nat} {x1 : Int32} {x2 : Int32} (f : F12_minutes_33  n h a0 x1 x2 = some out) {H : Heap} {locs : List Loc} (I : ph_I D cy b A fl h s H locs) {ls : Array Slot} (hl : lv_has ls 4 [(0, .ref (b + a0)), (1, .int x1), (2, .int x2)]), W p l e ({ frames := 11, cells := 0, slots := 0, locals := 268 } : Room) s m args below meth c H locs 0 0 (MQ below (va_Qi (fun (r : Int32) (u : PH) => (r, u) = out) (ph_B D cy b A fl) A) args s 0 0 A) (F0 m 33 ls []) := by
  intro n
  induction n with
  | zero => intro h a0 x1 x2 f; rw [F12_minutes_33] at f; cases f
  | succ n ih =>
    intro h a0 x1 x2 f H locs I ls hl
    rw [F12_minutes_33] at f
    refine lv_iload_n S.1 S.2.1 dX12_minutes_33 rfl (lv_at hl 2 rfl) ?_
    refine lv_iload_n S.1 S.2.1 dX12_minutes_34 rfl (lv_at hl 1 rfl) ?_
    refine lv_icmp_ge (tgt := 81) S.1 S.2.1 dX12_minutes_35 (by decide) (fun q1 => ?_) (fun q1 => ?_)
    · have f := (if_pos q1).symm.trans f
      refine lv_aload_n S.1 S.2.1 dX12_minutes_81 rfl (lv_at hl 0 rfl) ?_
      refine lv_iload_n S.1 S.2.1 dX12_minutes_82 rfl (lv_at hl 1 rfl) ?_
      refine lv_if_le (tgt := 90) S.1 S.2.1 dX12_minutes_83 (by decide) (fun q2 => ?_) (fun q2 => ?_)
      · have f := (if_pos q2).symm.trans f
        refine lv_aload_n S.1 S.2.1 dX12_minutes_90 rfl (lv_at hl 0 rfl) ?_
        obtain ⟨v3, e4, f⟩ := ob f
        refine o_gI S lf12_minutes_379 I e4 dX12_minutes_91 ?_
        exact T12_minutes_94 S hr hlo  f I (lv_sub hl [0] rfl)
      · have f := (if_neg q2).symm.trans f
        refine lv_iconst (v := 0) S.1 S.2.1 dX12_minutes_86 (by decide) ?_
        refine lv_goto (tgt := 94) S.1 S.2.1 dX12_minutes_87 (by decide) ?_
        exact T12_minutes_94 S hr hlo  f I (lv_sub hl [0] rfl)
    · have f := (if_neg q1).symm.trans f
      refine lv_aload_n S.1 S.2.1 dX12_minutes_38 rfl (lv_at hl 0 rfl) ?_
      refine lv_iconst (v := 0) S.1 S.2.1 dX12_minutes_39 (by decide) ?_
      refine lv_aload_n S.1 S.2.1 dX12_minutes_40 rfl (lv_at hl 0 rfl) ?_
      obtain ⟨v5, e6, f⟩ := ob f
      refine o_gI S lf12_minutes_369 I e6 dX12_minutes_41 ?_
      obtain ⟨o7, e8, f⟩ := ob f
      refine o_Vv S (As := [.int 0, .int v5]) (rest := []) (ci := 12) (M12_aMinute l D cy b A fl e8) gX12_minutes_X12_aMinute rfl rfl rfl cd12_aMinute ⟨Nat.le_of_ble_eq_true rfl, Nat.le_of_ble_eq_true rfl⟩ I (gd e8).1 clX12 rfl rfl hl.1 rfl (Nat.le_of_ble_eq_true rfl) dX12_minutes_44 ⟨Nat.le_of_ble_eq_true rfl, Nat.le_of_ble_eq_true rfl⟩ (fun H locs I => ?_)
      refine lv_iconst (v := 0) S.1 S.2.1 dX12_minutes_47 (by decide) ?_
      refine lv_istore_n (lv' := [(3, .int 0), (0, .ref (b + a0)), (1, .int x1), (2, .int x2)]) S.1 S.2.1 dX12_minutes_48 rfl hl (by decide) rfl (fun ls hl => ?_)
      exact T12_minutes_49 S hr hlo (fun f _ _ I _ hl => ih f I hl) 1024 f I (lv_sub hl [1, 2, 3, 0] rfl)
set_option maxHeartbeats 4000000 in
set_option maxRecDepth 100000 in
theorem T12_minutes_0 (S : CallFix p m c cX12_minutes 4 s args vX12_minutes RX12) (hr : meth.sig.returnType = (some .int)) (hlo : meth.locks = false) {out : Int32 × PH} {h : PH} {a0 : Nat} {x1 : Int32} (f : F12_minutes_0  h a0 x1 = some out) {H : Heap} {locs : List Loc} (I : ph_I D cy b A fl h s H locs) {ls : Array Slot} (hl : lv_has ls 4 [(0, .ref (b + a0)), (1, .int x1)]) : W p l e ({ frames := 11, cells := 0, slots := 0, locals := 268 } : Room) s m args below meth c H locs 0 0 (MQ below (va_Qi (fun (r : Int32) (u : PH) => (r, u) = out) (ph_B D cy b A fl) A) args s 0 0 A) (F0 m 0 ls []) := by
  unfold F12_minutes_0 at f
  refine lv_aload_n S.1 S.2.1 dX12_minutes_0 rfl (lv_at hl 0 rfl) ?_
  refine lv_iconst (v := 0) S.1 S.2.1 dX12_minutes_1 (by decide) ?_
  obtain ⟨h1, e2, f⟩ := ob f
  refine o_pI S lp12_minutes_154 I e2 dX12_minutes_2 (fun H locs I => ?_)
  refine lv_iload_n S.1 S.2.1 dX12_minutes_5 rfl (lv_at hl 1 rfl) ?_
  refine lv_iconst (v := 0) S.1 S.2.1 dX12_minutes_6 (by decide) ?_
  refine lv_bipush (v := 99) S.1 S.2.1 dX12_minutes_7 (by decide) ?_
  obtain ⟨o3, e4, f⟩ := ob f
  refine o_Si S (As := [.int x1, .int 0, .int 99]) (rest := []) (M12_isIn l D cy b A fl e4) gX12_minutes_X12_isIn rfl rfl rfl cd12_isIn ⟨Nat.le_of_ble_eq_true rfl, Nat.le_of_ble_eq_true rfl⟩ I rfl hl.1 rfl (Nat.le_of_ble_eq_true rfl) dX12_minutes_9 ⟨Nat.le_of_ble_eq_true rfl, Nat.le_of_ble_eq_true rfl⟩ (fun H locs I => ?_)
  refine lv_if_eq (tgt := 29) S.1 S.2.1 dX12_minutes_12 (by decide) (fun q5 => ?_) (fun q5 => ?_)
  · have f := (if_pos q5).symm.trans f
    refine lv_iconst (v := (-1)) S.1 S.2.1 dX12_minutes_29 (by decide) ?_
    exact o_iret S hr hlo I f dX12_minutes_30
  · have f := (if_neg q5).symm.trans f
    refine lv_aload_n S.1 S.2.1 dX12_minutes_15 rfl (lv_at hl 0 rfl) ?_
    obtain ⟨r6, e7, f⟩ := ob f
    refine o_gR S lf12_minutes_106 I e7 dX12_minutes_16 ?_
    refine lv_iconst (v := 0) S.1 S.2.1 dX12_minutes_19 (by decide) ?_
    obtain ⟨v9, e8, f⟩ := ob f
    refine o_iald S I e8 dX12_minutes_20 ?_
    refine lv_iload_n S.1 S.2.1 dX12_minutes_21 rfl (lv_at hl 1 rfl) ?_
    refine lv_iadd S.1 S.2.1 dX12_minutes_22 ?_
    refine lv_sipush (v := 199) S.1 S.2.1 dX12_minutes_23 (by decide) ?_
    refine lv_icmp_le (tgt := 31) S.1 S.2.1 dX12_minutes_26 (by decide) (fun q10 => ?_) (fun q10 => ?_)
    · have f := (if_pos q10).symm.trans f
      refine lv_iconst (v := 0) S.1 S.2.1 dX12_minutes_31 (by decide) ?_
      refine lv_istore_n (lv' := [(2, .int 0), (0, .ref (b + a0)), (1, .int x1)]) S.1 S.2.1 dX12_minutes_32 rfl hl (by decide) rfl (fun ls hl => ?_)
      exact T12_minutes_33 S hr hlo  1024 f I (lv_sub hl [1, 2, 0] rfl)
    · have f := (if_neg q10).symm.trans f
      refine lv_iconst (v := (-1)) S.1 S.2.1 dX12_minutes_29 (by decide) ?_
      exact o_iret S hr hlo I f dX12_minutes_30
theorem M12_minutes (l : Launch) (D : va_G) (cy : Nat → ClassId) (b : Nat) (A : Nat → Prop) (fl : Bool) {h : PH} {a0 : Nat} {x1 : Int32} {out : Int32 × PH} (f : F12_minutes h a0 x1 = some out) : Met l yX12_minutes vX12_minutes ({ frames := 11, cells := 0, slots := 0, locals := 268 } : Room) (va_Pc [.ref (b + a0), .int x1] (ph_B D cy b A fl h)) (va_Qi (fun (r : Int32) (u : PH) => (r, u) = out) (ph_B D cy b A fl) A) 0 0 A :=
  o_met (by decide) rfl (Nat.le_of_ble_eq_true rfl) rfl (fun p e s m below meth c S hr hlo hnm ls hl I => T12_minutes_0 S hr hlo ((gd f).2) I (lv_sub hl [0, 1] rfl))
def vX12_named : List Cond := .code yX12_named cX12_named 2 (some .int) :: TB
theorem lp12_named_154 : Pl vX12_named RX12 154 12 2 .int := ⟨RX12, TX12, 87, tyX12, rfl, by decide, (fun w h9 => List.mem_cons_of_mem _ (wC_wsX120 w h9)), (List.mem_cons_of_mem _ wT_13_17), tyX12_ok, nmX12, rfl, rfl⟩
theorem lf12_named_27 : Fl vX12_named RX12 27 12 27 := ⟨RX12, TX12, 87, rfl, by decide, (fun w h9 => List.mem_cons_of_mem _ (wC_wsX120 w h9)), (List.mem_cons_of_mem _ wT_10_2)⟩
theorem lf12_named_247 : Fl vX12_named RX12 247 12 14 := ⟨RX12, TX12, 87, rfl, by decide, (fun w h9 => List.mem_cons_of_mem _ (wC_wsX120 w h9)), (List.mem_cons_of_mem _ wT_12_12)⟩
theorem gX12_named_X12_find : GoodIn vX12_named (va_wsS RX12 269 yX12_find vX12_find) := gS_of wT_29_1 wT_29_2 wT_1_5 wT_29_3
theorem cd12_named : Cd yX12_named 1 := ⟨by decide, by decide, by decide +kernel⟩
set_option maxHeartbeats 4000000 in
set_option maxRecDepth 100000 in
theorem T12_named_0 (S : CallFix p m c cX12_named 2 s args vX12_named RX12) (hr : meth.sig.returnType = (some .int)) (hlo : meth.locks = false) {out : Int32 × PH} {h : PH} {a0 : Nat} {x1 : Int32} (f : F12_named_0  h a0 x1 = some out) {H : Heap} {locs : List Loc} (I : ph_I D cy b A fl h s H locs) {ls : Array Slot} (hl : lv_has ls 2 [(0, .ref (b + a0)), (1, .int x1)]) : W p l e ({ frames := 1, cells := 0, slots := 0, locals := 24 } : Room) s m args below meth c H locs 0 0 (MQ below (va_Qi (fun (r : Int32) (u : PH) => (r, u) = out) (ph_B D cy b A fl) A) args s 0 0 A) (F0 m 0 ls []) := by
  unfold F12_named_0 at f
  refine lv_aload_n S.1 S.2.1 dX12_named_0 rfl (lv_at hl 0 rfl) ?_
  refine lv_iconst (v := 0) S.1 S.2.1 dX12_named_1 (by decide) ?_
  obtain ⟨h1, e2, f⟩ := ob f
  refine o_pI S lp12_named_154 I e2 dX12_named_2 (fun H locs I => ?_)
  refine lv_aload_n S.1 S.2.1 dX12_named_5 rfl (lv_at hl 0 rfl) ?_
  obtain ⟨r3, e4, f⟩ := ob f
  refine o_gR S lf12_named_27 I e4 dX12_named_6 ?_
  refine lv_iconst (v := 0) S.1 S.2.1 dX12_named_9 (by decide) ?_
  refine lv_aload_n S.1 S.2.1 dX12_named_10 rfl (lv_at hl 0 rfl) ?_
  obtain ⟨v5, e6, f⟩ := ob f
  refine o_gI S lf12_named_247 I e6 dX12_named_11 ?_
  refine lv_iload_n S.1 S.2.1 dX12_named_14 rfl (lv_at hl 1 rfl) ?_
  obtain ⟨o7, e8, f⟩ := ob f
  refine o_Si S (As := [.ref (b + r3), .int 0, .int v5, .int x1]) (rest := []) (M12_find l D cy b A fl e8) gX12_named_X12_find rfl rfl rfl cd12_find ⟨Nat.le_of_ble_eq_true rfl, Nat.le_of_ble_eq_true rfl⟩ I rfl hl.1 rfl (Nat.le_of_ble_eq_true rfl) dX12_named_15 ⟨Nat.le_of_ble_eq_true rfl, Nat.le_of_ble_eq_true rfl⟩ (fun H locs I => ?_)
  exact o_iret S hr hlo I f dX12_named_18
theorem M12_named (l : Launch) (D : va_G) (cy : Nat → ClassId) (b : Nat) (A : Nat → Prop) (fl : Bool) {h : PH} {a0 : Nat} {x1 : Int32} {out : Int32 × PH} (f : F12_named h a0 x1 = some out) : Met l yX12_named vX12_named ({ frames := 1, cells := 0, slots := 0, locals := 24 } : Room) (va_Pc [.ref (b + a0), .int x1] (ph_B D cy b A fl h)) (va_Qi (fun (r : Int32) (u : PH) => (r, u) = out) (ph_B D cy b A fl) A) 0 0 A :=
  o_met (by decide) rfl (Nat.le_of_ble_eq_true rfl) rfl (fun p e s m below meth c S hr hlo hnm ls hl I => T12_named_0 S hr hlo ((gd f).2) I (lv_sub hl [0, 1] rfl))
def vX12_next : List Cond := .code yX12_next cX12_next 2 (some .int) :: TB
theorem lf12_next_250 : Fl vX12_next RX12 250 12 15 := ⟨RX12, TX12, 87, rfl, by decide, (fun w h9 => List.mem_cons_of_mem _ (wC_wsX120 w h9)), (List.mem_cons_of_mem _ wT_12_13)⟩
theorem lf12_next_48 : Fl vX12_next RX12 48 12 34 := ⟨RX12, TX12, 87, rfl, by decide, (fun w h9 => List.mem_cons_of_mem _ (wC_wsX120 w h9)), (List.mem_cons_of_mem _ wT_10_9)⟩
theorem lf12_next_45 : Fl vX12_next RX12 45 12 33 := ⟨RX12, TX12, 87, rfl, by decide, (fun w h9 => List.mem_cons_of_mem _ (wC_wsX120 w h9)), (List.mem_cons_of_mem _ wT_10_8)⟩
theorem lf12_next_106 : Fl vX12_next RX12 106 12 61 := ⟨RX12, TX12, 87, rfl, by decide, (fun w h9 => List.mem_cons_of_mem _ (wC_wsX120 w h9)), (List.mem_cons_of_mem _ wT_11_4)⟩
theorem lp12_next_154 : Pl vX12_next RX12 154 12 2 .int := ⟨RX12, TX12, 87, tyX12, rfl, by decide, (fun w h9 => List.mem_cons_of_mem _ (wC_wsX120 w h9)), (List.mem_cons_of_mem _ wT_13_17), tyX12_ok, nmX12, rfl, rfl⟩
theorem cd12_next : Cd yX12_next 0 := ⟨by decide, by decide, by decide +kernel⟩
set_option maxHeartbeats 4000000 in
set_option maxRecDepth 100000 in
theorem T12_next_7 (S : CallFix p m c cX12_next 2 s args vX12_next RX12) (hr : meth.sig.returnType = (some .int)) (hlo : meth.locks = false) {out : Int32 × PH} : ∀ (n : Nat) {h : PH} {a0 : Nat} {x1 : Int32} (f : F12_next_7  n h a0 x1 = some out) {H : Heap} {locs : List Loc} (I : ph_I D cy b A fl h s H locs) {ls : Array Slot} (hl : lv_has ls 2 [(0, .ref (b + a0)), (1, .int x1)]), W p l e ({ frames := 0, cells := 0, slots := 0, locals := 0 } : Room) s m args below meth c H locs 0 0 (MQ below (va_Qi (fun (r : Int32) (u : PH) => (r, u) = out) (ph_B D cy b A fl) A) args s 0 0 A) (F0 m 7 ls []) := by
  intro n
  induction n with
  | zero => intro h a0 x1 f; rw [F12_next_7] at f; cases f
  | succ n ih =>
    intro h a0 x1 f H locs I ls hl
    rw [F12_next_7] at f
    refine lv_iload_n S.1 S.2.1 dX12_next_7 rfl (lv_at hl 1 rfl) ?_
    refine lv_aload_n S.1 S.2.1 dX12_next_8 rfl (lv_at hl 0 rfl) ?_
    obtain ⟨v1, e2, f⟩ := ob f
    refine o_gI S lf12_next_250 I e2 dX12_next_9 ?_
    refine lv_icmp_ge (tgt := 60) S.1 S.2.1 dX12_next_12 (by decide) (fun q3 => ?_) (fun q3 => ?_)
    · have f := (if_pos q3).symm.trans f
      refine lv_bipush (v := (-2)) S.1 S.2.1 dX12_next_60 (by decide) ?_
      exact o_iret S hr hlo I f dX12_next_62
    · have f := (if_neg q3).symm.trans f
      refine lv_aload_n S.1 S.2.1 dX12_next_15 rfl (lv_at hl 0 rfl) ?_
      obtain ⟨r4, e5, f⟩ := ob f
      refine o_gR S lf12_next_48 I e5 dX12_next_16 ?_
      refine lv_aload_n S.1 S.2.1 dX12_next_19 rfl (lv_at hl 0 rfl) ?_
      obtain ⟨r6, e7, f⟩ := ob f
      refine o_gR S lf12_next_45 I e7 dX12_next_20 ?_
      refine lv_iload_n S.1 S.2.1 dX12_next_23 rfl (lv_at hl 1 rfl) ?_
      obtain ⟨v9, e8, f⟩ := ob f
      refine o_iald S I e8 dX12_next_24 ?_
      obtain ⟨v11, e10, f⟩ := ob f
      refine o_iald S I e10 dX12_next_25 ?_
      refine lv_aload_n S.1 S.2.1 dX12_next_26 rfl (lv_at hl 0 rfl) ?_
      obtain ⟨r12, e13, f⟩ := ob f
      refine o_gR S lf12_next_106 I e13 dX12_next_27 ?_
      refine lv_iconst (v := 0) S.1 S.2.1 dX12_next_30 (by decide) ?_
      obtain ⟨v15, e14, f⟩ := ob f
      refine o_iald S I e14 dX12_next_31 ?_
      refine lv_icmp_lt (tgt := 54) S.1 S.2.1 dX12_next_32 (by decide) (fun q16 => ?_) (fun q16 => ?_)
      · have f := (if_pos q16).symm.trans f
        refine lv_iinc (v := (x1 + 1)) (lv' := [(1, .int (x1 + 1)), (0, .ref (b + a0))]) S.1 S.2.1 dX12_next_54 hl (k := 1) rfl (congrArg (fun z => x1 + z) (by decide)) (by decide) rfl (fun ls hl => ?_)
        refine lv_goto (tgt := 7) S.1 S.2.1 dX12_next_57 (by decide) ?_
        exact ih f I (lv_sub hl [1, 0] rfl)
      · have f := (if_neg q16).symm.trans f
        refine lv_aload_n S.1 S.2.1 dX12_next_35 rfl (lv_at hl 0 rfl) ?_
        obtain ⟨r17, e18, f⟩ := ob f
        refine o_gR S lf12_next_48 I e18 dX12_next_36 ?_
        refine lv_aload_n S.1 S.2.1 dX12_next_39 rfl (lv_at hl 0 rfl) ?_
        obtain ⟨r19, e20, f⟩ := ob f
        refine o_gR S lf12_next_45 I e20 dX12_next_40 ?_
        refine lv_iload_n S.1 S.2.1 dX12_next_43 rfl (lv_at hl 1 rfl) ?_
        obtain ⟨v22, e21, f⟩ := ob f
        refine o_iald S I e21 dX12_next_44 ?_
        obtain ⟨v24, e23, f⟩ := ob f
        refine o_iald S I e23 dX12_next_45 ?_
        refine lv_aload_n S.1 S.2.1 dX12_next_46 rfl (lv_at hl 0 rfl) ?_
        obtain ⟨r25, e26, f⟩ := ob f
        refine o_gR S lf12_next_106 I e26 dX12_next_47 ?_
        refine lv_iconst (v := 0) S.1 S.2.1 dX12_next_50 (by decide) ?_
        obtain ⟨v28, e27, f⟩ := ob f
        refine o_iald S I e27 dX12_next_51 ?_
        refine lv_isub S.1 S.2.1 dX12_next_52 ?_
        exact o_iret S hr hlo I f dX12_next_53
set_option maxHeartbeats 4000000 in
set_option maxRecDepth 100000 in
theorem T12_next_0 (S : CallFix p m c cX12_next 2 s args vX12_next RX12) (hr : meth.sig.returnType = (some .int)) (hlo : meth.locks = false) {out : Int32 × PH} {h : PH} {a0 : Nat} (f : F12_next_0  h a0 = some out) {H : Heap} {locs : List Loc} (I : ph_I D cy b A fl h s H locs) {ls : Array Slot} (hl : lv_has ls 2 [(0, .ref (b + a0))]) : W p l e ({ frames := 0, cells := 0, slots := 0, locals := 0 } : Room) s m args below meth c H locs 0 0 (MQ below (va_Qi (fun (r : Int32) (u : PH) => (r, u) = out) (ph_B D cy b A fl) A) args s 0 0 A) (F0 m 0 ls []) := by
  unfold F12_next_0 at f
  refine lv_aload_n S.1 S.2.1 dX12_next_0 rfl (lv_at hl 0 rfl) ?_
  refine lv_iconst (v := 0) S.1 S.2.1 dX12_next_1 (by decide) ?_
  obtain ⟨h1, e2, f⟩ := ob f
  refine o_pI S lp12_next_154 I e2 dX12_next_2 (fun H locs I => ?_)
  refine lv_iconst (v := 0) S.1 S.2.1 dX12_next_5 (by decide) ?_
  refine lv_istore_n (lv' := [(1, .int 0), (0, .ref (b + a0))]) S.1 S.2.1 dX12_next_6 rfl hl (by decide) rfl (fun ls hl => ?_)
  exact T12_next_7 S hr hlo  1024 f I (lv_sub hl [1, 0] rfl)
theorem M12_next (l : Launch) (D : va_G) (cy : Nat → ClassId) (b : Nat) (A : Nat → Prop) (fl : Bool) {h : PH} {a0 : Nat} {out : Int32 × PH} (f : F12_next h a0 = some out) : Met l yX12_next vX12_next ({ frames := 0, cells := 0, slots := 0, locals := 0 } : Room) (va_Pc [.ref (b + a0)] (ph_B D cy b A fl h)) (va_Qi (fun (r : Int32) (u : PH) => (r, u) = out) (ph_B D cy b A fl) A) 0 0 A :=
  o_met (by decide) rfl (Nat.le_of_ble_eq_true rfl) rfl (fun p e s m below meth c S hr hlo hnm ls hl I => T12_next_0 S hr hlo ((gd f).2) I (lv_sub hl [0] rfl))
def vX12_noted : List Cond := .code yX12_noted cX12_noted 4 (some .int) :: TB
theorem lf12_noted_136 : Fl vX12_noted RX12 136 12 76 := ⟨RX12, TX12, 87, rfl, by decide, (fun w h9 => List.mem_cons_of_mem _ (wC_wsX120 w h9)), (List.mem_cons_of_mem _ wT_11_14)⟩
theorem lf12_noted_376 : Fl vX12_noted RX12 376 12 74 := ⟨RX12, TX12, 87, rfl, by decide, (fun w h9 => List.mem_cons_of_mem _ (wC_wsX120 w h9)), (List.mem_cons_of_mem _ wT_13_1)⟩
theorem lp12_noted_376 : Pl vX12_noted RX12 376 12 74 .int := ⟨RX12, TX12, 87, tyX12, rfl, by decide, (fun w h9 => List.mem_cons_of_mem _ (wC_wsX120 w h9)), (List.mem_cons_of_mem _ wT_13_1), tyX12_ok, nmX12, rfl, rfl⟩
theorem cd12_noted : Cd yX12_noted 3 := ⟨by decide, by decide, by decide +kernel⟩
set_option maxHeartbeats 4000000 in
set_option maxRecDepth 100000 in
theorem T12_noted_0 (S : CallFix p m c cX12_noted 4 s args vX12_noted RX12) (hr : meth.sig.returnType = (some .int)) (hlo : meth.locks = false) {out : Int32 × PH} {h : PH} {a0 : Nat} {x1 : Int32} {x2 : Int32} {x3 : Int32} (f : F12_noted_0  h a0 x1 x2 x3 = some out) {H : Heap} {locs : List Loc} (I : ph_I D cy b A fl h s H locs) {ls : Array Slot} (hl : lv_has ls 4 [(0, .ref (b + a0)), (1, .int x1), (2, .int x2), (3, .int x3)]) : W p l e ({ frames := 0, cells := 0, slots := 0, locals := 0 } : Room) s m args below meth c H locs 0 0 (MQ below (va_Qi (fun (r : Int32) (u : PH) => (r, u) = out) (ph_B D cy b A fl) A) args s 0 0 A) (F0 m 0 ls []) := by
  unfold F12_noted_0 at f
  refine lv_aload_n S.1 S.2.1 dX12_noted_0 rfl (lv_at hl 0 rfl) ?_
  obtain ⟨r1, e2, f⟩ := ob f
  refine o_gR S lf12_noted_136 I e2 dX12_noted_1 ?_
  refine lv_iconst (v := 3) S.1 S.2.1 dX12_noted_4 (by decide) ?_
  refine lv_aload_n S.1 S.2.1 dX12_noted_5 rfl (lv_at hl 0 rfl) ?_
  obtain ⟨v3, e4, f⟩ := ob f
  refine o_gI S lf12_noted_376 I e4 dX12_noted_6 ?_
  refine lv_imul S.1 S.2.1 dX12_noted_9 ?_
  refine lv_iload_n S.1 S.2.1 dX12_noted_10 rfl (lv_at hl 1 rfl) ?_
  obtain ⟨h6, e5, f⟩ := ob f
  refine o_iast S I e5 dX12_noted_11 (fun H locs I => ?_)
  refine lv_aload_n S.1 S.2.1 dX12_noted_12 rfl (lv_at hl 0 rfl) ?_
  obtain ⟨r7, e8, f⟩ := ob f
  refine o_gR S lf12_noted_136 I e8 dX12_noted_13 ?_
  refine lv_iconst (v := 3) S.1 S.2.1 dX12_noted_16 (by decide) ?_
  refine lv_aload_n S.1 S.2.1 dX12_noted_17 rfl (lv_at hl 0 rfl) ?_
  obtain ⟨v9, e10, f⟩ := ob f
  refine o_gI S lf12_noted_376 I e10 dX12_noted_18 ?_
  refine lv_imul S.1 S.2.1 dX12_noted_21 ?_
  refine lv_iconst (v := 1) S.1 S.2.1 dX12_noted_22 (by decide) ?_
  refine lv_iadd S.1 S.2.1 dX12_noted_23 ?_
  refine lv_iload_n S.1 S.2.1 dX12_noted_24 rfl (lv_at hl 2 rfl) ?_
  obtain ⟨h12, e11, f⟩ := ob f
  refine o_iast S I e11 dX12_noted_25 (fun H locs I => ?_)
  refine lv_aload_n S.1 S.2.1 dX12_noted_26 rfl (lv_at hl 0 rfl) ?_
  obtain ⟨r13, e14, f⟩ := ob f
  refine o_gR S lf12_noted_136 I e14 dX12_noted_27 ?_
  refine lv_iconst (v := 3) S.1 S.2.1 dX12_noted_30 (by decide) ?_
  refine lv_aload_n S.1 S.2.1 dX12_noted_31 rfl (lv_at hl 0 rfl) ?_
  obtain ⟨v15, e16, f⟩ := ob f
  refine o_gI S lf12_noted_376 I e16 dX12_noted_32 ?_
  refine lv_imul S.1 S.2.1 dX12_noted_35 ?_
  refine lv_iconst (v := 2) S.1 S.2.1 dX12_noted_36 (by decide) ?_
  refine lv_iadd S.1 S.2.1 dX12_noted_37 ?_
  refine lv_iload_n S.1 S.2.1 dX12_noted_38 rfl (lv_at hl 3 rfl) ?_
  obtain ⟨h18, e17, f⟩ := ob f
  refine o_iast S I e17 dX12_noted_39 (fun H locs I => ?_)
  refine lv_aload_n S.1 S.2.1 dX12_noted_40 rfl (lv_at hl 0 rfl) ?_
  refine lv_dup S.1 S.2.1 dX12_noted_41 rfl ?_
  obtain ⟨v19, e20, f⟩ := ob f
  refine o_gI S lf12_noted_376 I e20 dX12_noted_42 ?_
  refine lv_iconst (v := 1) S.1 S.2.1 dX12_noted_45 (by decide) ?_
  refine lv_iadd S.1 S.2.1 dX12_noted_46 ?_
  obtain ⟨h21, e22, f⟩ := ob f
  refine o_pI S lp12_noted_376 I e22 dX12_noted_47 (fun H locs I => ?_)
  refine lv_aload_n S.1 S.2.1 dX12_noted_50 rfl (lv_at hl 0 rfl) ?_
  obtain ⟨v23, e24, f⟩ := ob f
  refine o_gI S lf12_noted_376 I e24 dX12_noted_51 ?_
  refine lv_iconst (v := 1) S.1 S.2.1 dX12_noted_54 (by decide) ?_
  refine lv_isub S.1 S.2.1 dX12_noted_55 ?_
  exact o_iret S hr hlo I f dX12_noted_56
theorem M12_noted (l : Launch) (D : va_G) (cy : Nat → ClassId) (b : Nat) (A : Nat → Prop) (fl : Bool) {h : PH} {a0 : Nat} {x1 : Int32} {x2 : Int32} {x3 : Int32} {out : Int32 × PH} (f : F12_noted h a0 x1 x2 x3 = some out) : Met l yX12_noted vX12_noted ({ frames := 0, cells := 0, slots := 0, locals := 0 } : Room) (va_Pc [.ref (b + a0), .int x1, .int x2, .int x3] (ph_B D cy b A fl h)) (va_Qi (fun (r : Int32) (u : PH) => (r, u) = out) (ph_B D cy b A fl) A) 0 0 A :=
  o_met (by decide) rfl (Nat.le_of_ble_eq_true rfl) rfl (fun p e s m below meth c S hr hlo hnm ls hl I => T12_noted_0 S hr hlo ((gd f).2) I (lv_sub hl [0, 1, 2, 3] rfl))
def vX12_note : List Cond := .code yX12_note cX12_note 4 (some .int) :: TB
theorem lp12_note_154 : Pl vX12_note RX12 154 12 2 .int := ⟨RX12, TX12, 87, tyX12, rfl, by decide, (fun w h9 => List.mem_cons_of_mem _ (wC_wsX120 w h9)), (List.mem_cons_of_mem _ wT_13_17), tyX12_ok, nmX12, rfl, rfl⟩
theorem lf12_note_376 : Fl vX12_note RX12 376 12 74 := ⟨RX12, TX12, 87, rfl, by decide, (fun w h9 => List.mem_cons_of_mem _ (wC_wsX120 w h9)), (List.mem_cons_of_mem _ wT_13_1)⟩
theorem gX12_note_X12_isIn : GoodIn vX12_note (va_wsS RX12 199 yX12_isIn vX12_isIn) := gS_of wT_28_17 wT_28_18 wT_1_5 wT_28_19
theorem gX12_note_X12_isSurfer : GoodIn vX12_note (wsV RX12 413 RX12 yX12_isSurfer vX12_isSurfer) := gV_of wT_34_14 wT_34_15 wT_34_16 wT_1_5 wT_34_17
theorem gX12_note_X12_isCell : GoodIn vX12_note (wsV RX12 422 RX12 yX12_isCell vX12_isCell) := gV_of wT_39_17 wT_39_18 wT_39_19 wT_1_5 wT_39_20
theorem gX12_note_X12_noted : GoodIn vX12_note (wsV RX12 524 RX12 yX12_noted vX12_noted) := gV_of wT_61_22 wT_61_23 wT_62_0 wT_1_5 wT_62_1
theorem cd12_note : Cd yX12_note 3 := ⟨by decide, by decide, by decide +kernel⟩
set_option maxHeartbeats 4000000 in
set_option maxRecDepth 100000 in
theorem T12_note_0 (S : CallFix p m c cX12_note 4 s args vX12_note RX12) (hr : meth.sig.returnType = (some .int)) (hlo : meth.locks = false) {out : Int32 × PH} {h : PH} {a0 : Nat} {x1 : Int32} {x2 : Int32} {x3 : Int32} (f : F12_note_0  h a0 x1 x2 x3 = some out) {H : Heap} {locs : List Loc} (I : ph_I D cy b A fl h s H locs) {ls : Array Slot} (hl : lv_has ls 4 [(0, .ref (b + a0)), (1, .int x1), (2, .int x2), (3, .int x3)]) : W p l e ({ frames := 2, cells := 0, slots := 0, locals := 41 } : Room) s m args below meth c H locs 0 0 (MQ below (va_Qi (fun (r : Int32) (u : PH) => (r, u) = out) (ph_B D cy b A fl) A) args s 0 0 A) (F0 m 0 ls []) := by
  unfold F12_note_0 at f
  refine lv_aload_n S.1 S.2.1 dX12_note_0 rfl (lv_at hl 0 rfl) ?_
  refine lv_iconst (v := 0) S.1 S.2.1 dX12_note_1 (by decide) ?_
  obtain ⟨h1, e2, f⟩ := ob f
  refine o_pI S lp12_note_154 I e2 dX12_note_2 (fun H locs I => ?_)
  refine lv_aload_n S.1 S.2.1 dX12_note_5 rfl (lv_at hl 0 rfl) ?_
  obtain ⟨v3, e4, f⟩ := ob f
  refine o_gI S lf12_note_376 I e4 dX12_note_6 ?_
  refine lv_bipush (v := 24) S.1 S.2.1 dX12_note_9 (by decide) ?_
  refine lv_icmp_eq (tgt := 41) S.1 S.2.1 dX12_note_11 (by decide) (fun q5 => ?_) (fun q5 => ?_)
  · have f := (if_pos q5).symm.trans f
    refine lv_iconst (v := (-1)) S.1 S.2.1 dX12_note_41 (by decide) ?_
    refine lv_goto (tgt := 52) S.1 S.2.1 dX12_note_42 (by decide) ?_
    exact o_iret S hr hlo I f dX12_note_52
  · have f := (if_neg q5).symm.trans f
    refine lv_iload_n S.1 S.2.1 dX12_note_14 rfl (lv_at hl 1 rfl) ?_
    refine lv_iconst (v := 0) S.1 S.2.1 dX12_note_15 (by decide) ?_
    refine lv_sipush (v := 199) S.1 S.2.1 dX12_note_16 (by decide) ?_
    obtain ⟨o6, e7, f⟩ := ob f
    refine o_Si S (As := [.int x1, .int 0, .int 199]) (rest := []) (M12_isIn l D cy b A fl e7) gX12_note_X12_isIn rfl rfl rfl cd12_isIn ⟨Nat.le_of_ble_eq_true rfl, Nat.le_of_ble_eq_true rfl⟩ I rfl hl.1 rfl (Nat.le_of_ble_eq_true rfl) dX12_note_19 ⟨Nat.le_of_ble_eq_true rfl, Nat.le_of_ble_eq_true rfl⟩ (fun H locs I => ?_)
    refine lv_if_eq (tgt := 41) S.1 S.2.1 dX12_note_22 (by decide) (fun q8 => ?_) (fun q8 => ?_)
    · have f := (if_pos q8).symm.trans f
      refine lv_iconst (v := (-1)) S.1 S.2.1 dX12_note_41 (by decide) ?_
      refine lv_goto (tgt := 52) S.1 S.2.1 dX12_note_42 (by decide) ?_
      exact o_iret S hr hlo I f dX12_note_52
    · have f := (if_neg q8).symm.trans f
      refine lv_aload_n S.1 S.2.1 dX12_note_25 rfl (lv_at hl 0 rfl) ?_
      refine lv_iload_n S.1 S.2.1 dX12_note_26 rfl (lv_at hl 2 rfl) ?_
      obtain ⟨o9, e10, f⟩ := ob f
      refine o_Vi S (As := [.int x2]) (rest := []) (ci := 12) (M12_isSurfer l D cy b A fl e10) gX12_note_X12_isSurfer rfl rfl rfl cd12_isSurfer ⟨Nat.le_of_ble_eq_true rfl, Nat.le_of_ble_eq_true rfl⟩ I (gd e10).1 clX12 rfl rfl hl.1 rfl (Nat.le_of_ble_eq_true rfl) dX12_note_27 ⟨Nat.le_of_ble_eq_true rfl, Nat.le_of_ble_eq_true rfl⟩ (fun H locs I => ?_)
      refine lv_if_eq (tgt := 41) S.1 S.2.1 dX12_note_30 (by decide) (fun q11 => ?_) (fun q11 => ?_)
      · have f := (if_pos q11).symm.trans f
        refine lv_iconst (v := (-1)) S.1 S.2.1 dX12_note_41 (by decide) ?_
        refine lv_goto (tgt := 52) S.1 S.2.1 dX12_note_42 (by decide) ?_
        exact o_iret S hr hlo I f dX12_note_52
      · have f := (if_neg q11).symm.trans f
        refine lv_aload_n S.1 S.2.1 dX12_note_33 rfl (lv_at hl 0 rfl) ?_
        refine lv_iload_n S.1 S.2.1 dX12_note_34 rfl (lv_at hl 3 rfl) ?_
        obtain ⟨o12, e13, f⟩ := ob f
        refine o_Vi S (As := [.int x3]) (rest := []) (ci := 12) (M12_isCell l D cy b A fl e13) gX12_note_X12_isCell rfl rfl rfl cd12_isCell ⟨Nat.le_of_ble_eq_true rfl, Nat.le_of_ble_eq_true rfl⟩ I (gd e13).1 clX12 rfl rfl hl.1 rfl (Nat.le_of_ble_eq_true rfl) dX12_note_35 ⟨Nat.le_of_ble_eq_true rfl, Nat.le_of_ble_eq_true rfl⟩ (fun H locs I => ?_)
        refine lv_if_ne (tgt := 45) S.1 S.2.1 dX12_note_38 (by decide) (fun q14 => ?_) (fun q14 => ?_)
        · have f := (if_neg q14).symm.trans f
          refine lv_aload_n S.1 S.2.1 dX12_note_45 rfl (lv_at hl 0 rfl) ?_
          refine lv_iload_n S.1 S.2.1 dX12_note_46 rfl (lv_at hl 1 rfl) ?_
          refine lv_iload_n S.1 S.2.1 dX12_note_47 rfl (lv_at hl 2 rfl) ?_
          refine lv_iload_n S.1 S.2.1 dX12_note_48 rfl (lv_at hl 3 rfl) ?_
          obtain ⟨o15, e16, f⟩ := ob f
          refine o_Vi S (As := [.int x1, .int x2, .int x3]) (rest := []) (ci := 12) (M12_noted l D cy b A fl e16) gX12_note_X12_noted rfl rfl rfl cd12_noted ⟨Nat.le_of_ble_eq_true rfl, Nat.le_of_ble_eq_true rfl⟩ I (gd e16).1 clX12 rfl rfl hl.1 rfl (Nat.le_of_ble_eq_true rfl) dX12_note_49 ⟨Nat.le_of_ble_eq_true rfl, Nat.le_of_ble_eq_true rfl⟩ (fun H locs I => ?_)
          exact o_iret S hr hlo I f dX12_note_52
        · have f := (if_pos q14).symm.trans f
          refine lv_iconst (v := (-1)) S.1 S.2.1 dX12_note_41 (by decide) ?_
          refine lv_goto (tgt := 52) S.1 S.2.1 dX12_note_42 (by decide) ?_
          exact o_iret S hr hlo I f dX12_note_52
theorem M12_note (l : Launch) (D : va_G) (cy : Nat → ClassId) (b : Nat) (A : Nat → Prop) (fl : Bool) {h : PH} {a0 : Nat} {x1 : Int32} {x2 : Int32} {x3 : Int32} {out : Int32 × PH} (f : F12_note h a0 x1 x2 x3 = some out) : Met l yX12_note vX12_note ({ frames := 2, cells := 0, slots := 0, locals := 41 } : Room) (va_Pc [.ref (b + a0), .int x1, .int x2, .int x3] (ph_B D cy b A fl h)) (va_Qi (fun (r : Int32) (u : PH) => (r, u) = out) (ph_B D cy b A fl) A) 0 0 A :=
  o_met (by decide) rfl (Nat.le_of_ble_eq_true rfl) rfl (fun p e s m below meth c S hr hlo hnm ls hl I => T12_note_0 S hr hlo ((gd f).2) I (lv_sub hl [0, 1, 2, 3] rfl))
def vX12_odds : List Cond := .code yX12_odds cX12_odds 4 (some .int) :: TB
theorem lp12_odds_154 : Pl vX12_odds RX12 154 12 2 .int := ⟨RX12, TX12, 87, tyX12, rfl, by decide, (fun w h9 => List.mem_cons_of_mem _ (wC_wsX120 w h9)), (List.mem_cons_of_mem _ wT_13_17), tyX12_ok, nmX12, rfl, rfl⟩
theorem gX12_odds_X12_isSurfer : GoodIn vX12_odds (wsV RX12 413 RX12 yX12_isSurfer vX12_isSurfer) := gV_of wT_34_14 wT_34_15 wT_34_16 wT_1_5 wT_34_17
theorem gX12_odds_X12_isWave : GoodIn vX12_odds (wsV RX12 419 RX12 yX12_isWave vX12_isWave) := gV_of wT_37_7 wT_37_8 wT_37_9 wT_1_5 wT_37_10
theorem gX12_odds_X12_isCell : GoodIn vX12_odds (wsV RX12 422 RX12 yX12_isCell vX12_isCell) := gV_of wT_39_17 wT_39_18 wT_39_19 wT_1_5 wT_39_20
theorem gX12_odds_X12_oddsOf : GoodIn vX12_odds (wsV RX12 425 RX12 yX12_oddsOf vX12_oddsOf) := gV_of wT_40_1 wT_40_2 wT_40_3 wT_1_5 wT_40_4
theorem cd12_odds : Cd yX12_odds 3 := ⟨by decide, by decide, by decide +kernel⟩
set_option maxHeartbeats 4000000 in
set_option maxRecDepth 100000 in
theorem T12_odds_0 (S : CallFix p m c cX12_odds 4 s args vX12_odds RX12) (hr : meth.sig.returnType = (some .int)) (hlo : meth.locks = false) {out : Int32 × PH} {h : PH} {a0 : Nat} {x1 : Int32} {x2 : Int32} {x3 : Int32} (f : F12_odds_0  h a0 x1 x2 x3 = some out) {H : Heap} {locs : List Loc} (I : ph_I D cy b A fl h s H locs) {ls : Array Slot} (hl : lv_has ls 4 [(0, .ref (b + a0)), (1, .int x1), (2, .int x2), (3, .int x3)]) : W p l e ({ frames := 7, cells := 0, slots := 0, locals := 169 } : Room) s m args below meth c H locs 0 0 (MQ below (va_Qi (fun (r : Int32) (u : PH) => (r, u) = out) (ph_B D cy b A fl) A) args s 0 0 A) (F0 m 0 ls []) := by
  unfold F12_odds_0 at f
  refine lv_aload_n S.1 S.2.1 dX12_odds_0 rfl (lv_at hl 0 rfl) ?_
  refine lv_iconst (v := 0) S.1 S.2.1 dX12_odds_1 (by decide) ?_
  obtain ⟨h1, e2, f⟩ := ob f
  refine o_pI S lp12_odds_154 I e2 dX12_odds_2 (fun H locs I => ?_)
  refine lv_aload_n S.1 S.2.1 dX12_odds_5 rfl (lv_at hl 0 rfl) ?_
  refine lv_iload_n S.1 S.2.1 dX12_odds_6 rfl (lv_at hl 1 rfl) ?_
  obtain ⟨o3, e4, f⟩ := ob f
  refine o_Vi S (As := [.int x1]) (rest := []) (ci := 12) (M12_isSurfer l D cy b A fl e4) gX12_odds_X12_isSurfer rfl rfl rfl cd12_isSurfer ⟨Nat.le_of_ble_eq_true rfl, Nat.le_of_ble_eq_true rfl⟩ I (gd e4).1 clX12 rfl rfl hl.1 rfl (Nat.le_of_ble_eq_true rfl) dX12_odds_7 ⟨Nat.le_of_ble_eq_true rfl, Nat.le_of_ble_eq_true rfl⟩ (fun H locs I => ?_)
  refine lv_if_eq (tgt := 39) S.1 S.2.1 dX12_odds_10 (by decide) (fun q5 => ?_) (fun q5 => ?_)
  · have f := (if_pos q5).symm.trans f
    refine lv_iconst (v := (-1)) S.1 S.2.1 dX12_odds_39 (by decide) ?_
    exact o_iret S hr hlo I f dX12_odds_40
  · have f := (if_neg q5).symm.trans f
    refine lv_aload_n S.1 S.2.1 dX12_odds_13 rfl (lv_at hl 0 rfl) ?_
    refine lv_iload_n S.1 S.2.1 dX12_odds_14 rfl (lv_at hl 2 rfl) ?_
    obtain ⟨o6, e7, f⟩ := ob f
    refine o_Vi S (As := [.int x2]) (rest := []) (ci := 12) (M12_isWave l D cy b A fl e7) gX12_odds_X12_isWave rfl rfl rfl cd12_isWave ⟨Nat.le_of_ble_eq_true rfl, Nat.le_of_ble_eq_true rfl⟩ I (gd e7).1 clX12 rfl rfl hl.1 rfl (Nat.le_of_ble_eq_true rfl) dX12_odds_15 ⟨Nat.le_of_ble_eq_true rfl, Nat.le_of_ble_eq_true rfl⟩ (fun H locs I => ?_)
    refine lv_if_eq (tgt := 39) S.1 S.2.1 dX12_odds_18 (by decide) (fun q8 => ?_) (fun q8 => ?_)
    · have f := (if_pos q8).symm.trans f
      refine lv_iconst (v := (-1)) S.1 S.2.1 dX12_odds_39 (by decide) ?_
      exact o_iret S hr hlo I f dX12_odds_40
    · have f := (if_neg q8).symm.trans f
      refine lv_aload_n S.1 S.2.1 dX12_odds_21 rfl (lv_at hl 0 rfl) ?_
      refine lv_iload_n S.1 S.2.1 dX12_odds_22 rfl (lv_at hl 3 rfl) ?_
      obtain ⟨o9, e10, f⟩ := ob f
      refine o_Vi S (As := [.int x3]) (rest := []) (ci := 12) (M12_isCell l D cy b A fl e10) gX12_odds_X12_isCell rfl rfl rfl cd12_isCell ⟨Nat.le_of_ble_eq_true rfl, Nat.le_of_ble_eq_true rfl⟩ I (gd e10).1 clX12 rfl rfl hl.1 rfl (Nat.le_of_ble_eq_true rfl) dX12_odds_23 ⟨Nat.le_of_ble_eq_true rfl, Nat.le_of_ble_eq_true rfl⟩ (fun H locs I => ?_)
      refine lv_if_eq (tgt := 39) S.1 S.2.1 dX12_odds_26 (by decide) (fun q11 => ?_) (fun q11 => ?_)
      · have f := (if_pos q11).symm.trans f
        refine lv_iconst (v := (-1)) S.1 S.2.1 dX12_odds_39 (by decide) ?_
        exact o_iret S hr hlo I f dX12_odds_40
      · have f := (if_neg q11).symm.trans f
        refine lv_aload_n S.1 S.2.1 dX12_odds_29 rfl (lv_at hl 0 rfl) ?_
        refine lv_iload_n S.1 S.2.1 dX12_odds_30 rfl (lv_at hl 1 rfl) ?_
        refine lv_iload_n S.1 S.2.1 dX12_odds_31 rfl (lv_at hl 2 rfl) ?_
        refine lv_iload_n S.1 S.2.1 dX12_odds_32 rfl (lv_at hl 3 rfl) ?_
        obtain ⟨o12, e13, f⟩ := ob f
        refine o_Vi S (As := [.int x1, .int x2, .int x3]) (rest := []) (ci := 12) (M12_oddsOf l D cy b A fl e13) gX12_odds_X12_oddsOf rfl rfl rfl cd12_oddsOf ⟨Nat.le_of_ble_eq_true rfl, Nat.le_of_ble_eq_true rfl⟩ I (gd e13).1 clX12 rfl rfl hl.1 rfl (Nat.le_of_ble_eq_true rfl) dX12_odds_33 ⟨Nat.le_of_ble_eq_true rfl, Nat.le_of_ble_eq_true rfl⟩ (fun H locs I => ?_)
        refine lv_goto (tgt := 40) S.1 S.2.1 dX12_odds_36 (by decide) ?_
        exact o_iret S hr hlo I f dX12_odds_40
theorem M12_odds (l : Launch) (D : va_G) (cy : Nat → ClassId) (b : Nat) (A : Nat → Prop) (fl : Bool) {h : PH} {a0 : Nat} {x1 : Int32} {x2 : Int32} {x3 : Int32} {out : Int32 × PH} (f : F12_odds h a0 x1 x2 x3 = some out) : Met l yX12_odds vX12_odds ({ frames := 7, cells := 0, slots := 0, locals := 169 } : Room) (va_Pc [.ref (b + a0), .int x1, .int x2, .int x3] (ph_B D cy b A fl h)) (va_Qi (fun (r : Int32) (u : PH) => (r, u) = out) (ph_B D cy b A fl) A) 0 0 A :=
  o_met (by decide) rfl (Nat.le_of_ble_eq_true rfl) rfl (fun p e s m below meth c S hr hlo hnm ls hl I => T12_odds_0 S hr hlo ((gd f).2) I (lv_sub hl [0, 1, 2, 3] rfl))
def vX12_order : List Cond := .code yX12_order cX12_order 3 (some .int) :: TB
theorem lp12_order_154 : Pl vX12_order RX12 154 12 2 .int := ⟨RX12, TX12, 87, tyX12, rfl, by decide, (fun w h9 => List.mem_cons_of_mem _ (wC_wsX120 w h9)), (List.mem_cons_of_mem _ wT_13_17), tyX12_ok, nmX12, rfl, rfl⟩
theorem gX12_order_X12_isToCome : GoodIn vX12_order (wsV RX12 476 RX12 yX12_isToCome vX12_isToCome) := gV_of wT_48_17 wT_48_18 wT_48_19 wT_1_5 wT_48_20
theorem lf12_order_369 : Fl vX12_order RX12 369 12 64 := ⟨RX12, TX12, 87, rfl, by decide, (fun w h9 => List.mem_cons_of_mem _ (wC_wsX120 w h9)), (List.mem_cons_of_mem _ wT_12_23)⟩
theorem gX12_order_X12_layOrder : GoodIn vX12_order (wsV RX12 453 RX12 yX12_layOrder vX12_layOrder) := gV_of wT_46_22 wT_46_23 wT_47_0 wT_1_5 wT_47_1
theorem lf12_order_433 : Fl vX12_order RX12 433 12 69 := ⟨RX12, TX12, 87, rfl, by decide, (fun w h9 => List.mem_cons_of_mem _ (wC_wsX120 w h9)), (List.mem_cons_of_mem _ wT_46_21)⟩
theorem lf12_order_118 : Fl vX12_order RX12 118 12 68 := ⟨RX12, TX12, 87, rfl, by decide, (fun w h9 => List.mem_cons_of_mem _ (wC_wsX120 w h9)), (List.mem_cons_of_mem _ wT_11_8)⟩
theorem cd12_order : Cd yX12_order 2 := ⟨by decide, by decide, by decide +kernel⟩
set_option maxHeartbeats 4000000 in
set_option maxRecDepth 100000 in
theorem T12_order_0 (S : CallFix p m c cX12_order 3 s args vX12_order RX12) (hr : meth.sig.returnType = (some .int)) (hlo : meth.locks = false) {out : Int32 × PH} {h : PH} {a0 : Nat} {x1 : Int32} {x2 : Int32} (f : F12_order_0  h a0 x1 x2 = some out) {H : Heap} {locs : List Loc} (I : ph_I D cy b A fl h s H locs) {ls : Array Slot} (hl : lv_has ls 3 [(0, .ref (b + a0)), (1, .int x1), (2, .int x2)]) : W p l e ({ frames := 9, cells := 0, slots := 0, locals := 218 } : Room) s m args below meth c H locs 0 0 (MQ below (va_Qi (fun (r : Int32) (u : PH) => (r, u) = out) (ph_B D cy b A fl) A) args s 0 0 A) (F0 m 0 ls []) := by
  unfold F12_order_0 at f
  refine lv_aload_n S.1 S.2.1 dX12_order_0 rfl (lv_at hl 0 rfl) ?_
  refine lv_iconst (v := 0) S.1 S.2.1 dX12_order_1 (by decide) ?_
  obtain ⟨h1, e2, f⟩ := ob f
  refine o_pI S lp12_order_154 I e2 dX12_order_2 (fun H locs I => ?_)
  refine lv_aload_n S.1 S.2.1 dX12_order_5 rfl (lv_at hl 0 rfl) ?_
  refine lv_iload_n S.1 S.2.1 dX12_order_6 rfl (lv_at hl 1 rfl) ?_
  obtain ⟨o3, e4, f⟩ := ob f
  refine o_Vi S (As := [.int x1]) (rest := []) (ci := 12) (M12_isToCome l D cy b A fl e4) gX12_order_X12_isToCome rfl rfl rfl cd12_isToCome ⟨Nat.le_of_ble_eq_true rfl, Nat.le_of_ble_eq_true rfl⟩ I (gd e4).1 clX12 rfl rfl hl.1 rfl (Nat.le_of_ble_eq_true rfl) dX12_order_7 ⟨Nat.le_of_ble_eq_true rfl, Nat.le_of_ble_eq_true rfl⟩ (fun H locs I => ?_)
  refine lv_if_eq (tgt := 17) S.1 S.2.1 dX12_order_10 (by decide) (fun q5 => ?_) (fun q5 => ?_)
  · have f := (if_pos q5).symm.trans f
    refine lv_iconst (v := (-1)) S.1 S.2.1 dX12_order_17 (by decide) ?_
    exact o_iret S hr hlo I f dX12_order_18
  · have f := (if_neg q5).symm.trans f
    refine lv_iload_n S.1 S.2.1 dX12_order_13 rfl (lv_at hl 2 rfl) ?_
    refine lv_if_ge (tgt := 19) S.1 S.2.1 dX12_order_14 (by decide) (fun q6 => ?_) (fun q6 => ?_)
    · have f := (if_pos q6).symm.trans f
      refine lv_aload_n S.1 S.2.1 dX12_order_19 rfl (lv_at hl 0 rfl) ?_
      refine lv_iconst (v := 0) S.1 S.2.1 dX12_order_20 (by decide) ?_
      refine lv_iload_n S.1 S.2.1 dX12_order_21 rfl (lv_at hl 1 rfl) ?_
      refine lv_aload_n S.1 S.2.1 dX12_order_22 rfl (lv_at hl 0 rfl) ?_
      obtain ⟨v7, e8, f⟩ := ob f
      refine o_gI S lf12_order_369 I e8 dX12_order_23 ?_
      obtain ⟨o9, e10, f⟩ := ob f
      refine o_Vv S (As := [.int 0, .int x1, .int v7]) (rest := []) (ci := 12) (M12_layOrder l D cy b A fl e10) gX12_order_X12_layOrder rfl rfl rfl cd12_layOrder ⟨Nat.le_of_ble_eq_true rfl, Nat.le_of_ble_eq_true rfl⟩ I (gd e10).1 clX12 rfl rfl hl.1 rfl (Nat.le_of_ble_eq_true rfl) dX12_order_26 ⟨Nat.le_of_ble_eq_true rfl, Nat.le_of_ble_eq_true rfl⟩ (fun H locs I => ?_)
      refine lv_iload_n S.1 S.2.1 dX12_order_29 rfl (lv_at hl 2 rfl) ?_
      refine lv_aload_n S.1 S.2.1 dX12_order_30 rfl (lv_at hl 0 rfl) ?_
      obtain ⟨v11, e12, f⟩ := ob f
      refine o_gI S lf12_order_433 I e12 dX12_order_31 ?_
      refine lv_icmp_lt (tgt := 42) S.1 S.2.1 dX12_order_34 (by decide) (fun q13 => ?_) (fun q13 => ?_)
      · have f := (if_pos q13).symm.trans f
        refine lv_aload_n S.1 S.2.1 dX12_order_42 rfl (lv_at hl 0 rfl) ?_
        obtain ⟨r14, e15, f⟩ := ob f
        refine o_gR S lf12_order_118 I e15 dX12_order_43 ?_
        refine lv_iload_n S.1 S.2.1 dX12_order_46 rfl (lv_at hl 2 rfl) ?_
        obtain ⟨v17, e16, f⟩ := ob f
        refine o_iald S I e16 dX12_order_47 ?_
        exact o_iret S hr hlo I f dX12_order_48
      · have f := (if_neg q13).symm.trans f
        refine lv_bipush (v := (-2)) S.1 S.2.1 dX12_order_37 (by decide) ?_
        refine lv_goto (tgt := 48) S.1 S.2.1 dX12_order_39 (by decide) ?_
        exact o_iret S hr hlo I f dX12_order_48
    · have f := (if_neg q6).symm.trans f
      refine lv_iconst (v := (-1)) S.1 S.2.1 dX12_order_17 (by decide) ?_
      exact o_iret S hr hlo I f dX12_order_18
theorem M12_order (l : Launch) (D : va_G) (cy : Nat → ClassId) (b : Nat) (A : Nat → Prop) (fl : Bool) {h : PH} {a0 : Nat} {x1 : Int32} {x2 : Int32} {out : Int32 × PH} (f : F12_order h a0 x1 x2 = some out) : Met l yX12_order vX12_order ({ frames := 9, cells := 0, slots := 0, locals := 218 } : Room) (va_Pc [.ref (b + a0), .int x1, .int x2] (ph_B D cy b A fl h)) (va_Qi (fun (r : Int32) (u : PH) => (r, u) = out) (ph_B D cy b A fl) A) 0 0 A :=
  o_met (by decide) rfl (Nat.le_of_ble_eq_true rfl) rfl (fun p e s m below meth c S hr hlo hnm ls hl I => T12_order_0 S hr hlo ((gd f).2) I (lv_sub hl [0, 1, 2] rfl))
def vX12_over : List Cond := .code yX12_over cX12_over 6 (some .int) :: TB
theorem lf12_over_24 : Fl vX12_over RX12 24 12 26 := ⟨RX12, TX12, 87, rfl, by decide, (fun w h9 => List.mem_cons_of_mem _ (wC_wsX120 w h9)), (List.mem_cons_of_mem _ wT_10_1)⟩
theorem lf12_over_88 : Fl vX12_over RX12 88 12 55 := ⟨RX12, TX12, 87, rfl, by decide, (fun w h9 => List.mem_cons_of_mem _ (wC_wsX120 w h9)), (List.mem_cons_of_mem _ wT_10_22)⟩
theorem gX12_over_X12_seatFrom : GoodIn vX12_over (wsV RX12 482 RX12 yX12_seatFrom vX12_seatFrom) := gV_of wT_50_1 wT_50_2 wT_50_3 wT_1_5 wT_50_4
theorem lp12_over_154 : Pl vX12_over RX12 154 12 2 .int := ⟨RX12, TX12, 87, tyX12, rfl, by decide, (fun w h9 => List.mem_cons_of_mem _ (wC_wsX120 w h9)), (List.mem_cons_of_mem _ wT_13_17), tyX12_ok, nmX12, rfl, rfl⟩
theorem gX12_over_X12_isSurfer : GoodIn vX12_over (wsV RX12 413 RX12 yX12_isSurfer vX12_isSurfer) := gV_of wT_34_14 wT_34_15 wT_34_16 wT_1_5 wT_34_17
theorem lf12_over_253 : Fl vX12_over RX12 253 12 16 := ⟨RX12, TX12, 87, rfl, by decide, (fun w h9 => List.mem_cons_of_mem _ (wC_wsX120 w h9)), (List.mem_cons_of_mem _ wT_12_14)⟩
theorem lf12_over_48 : Fl vX12_over RX12 48 12 34 := ⟨RX12, TX12, 87, rfl, by decide, (fun w h9 => List.mem_cons_of_mem _ (wC_wsX120 w h9)), (List.mem_cons_of_mem _ wT_10_9)⟩
theorem lf12_over_106 : Fl vX12_over RX12 106 12 61 := ⟨RX12, TX12, 87, rfl, by decide, (fun w h9 => List.mem_cons_of_mem _ (wC_wsX120 w h9)), (List.mem_cons_of_mem _ wT_11_4)⟩
theorem cd12_over : Cd yX12_over 1 := ⟨by decide, by decide, by decide +kernel⟩
set_option maxHeartbeats 4000000 in
set_option maxRecDepth 100000 in
theorem T12_over_87 (S : CallFix p m c cX12_over 6 s args vX12_over RX12) (hr : meth.sig.returnType = (some .int)) (hlo : meth.locks = false) {out : Int32 × PH} {k50 : PH → Nat → Int32 → Int32 → Int32 → Option (Int32 × PH)} (hk50 : ∀ {h : PH} {a0 : Nat} {x1 : Int32} {x2 : Int32} {x3 : Int32}, k50 h a0 x1 x2 x3 = some out → ∀ (H : Heap) (locs : List Loc), ph_I D cy b A fl h s H locs → ∀ (ls : Array Slot), lv_has ls 6 [(0, .ref (b + a0)), (1, .int x1), (2, .int x2), (3, .int x3)] → W p l e ({ frames := 9, cells := 0, slots := 0, locals := 217 } : Room) s m args below meth c H locs 0 0 (MQ below (va_Qi (fun (r : Int32) (u : PH) => (r, u) = out) (ph_B D cy b A fl) A) args s 0 0 A) (F0 m 50 ls [])) {h : PH} {a0 : Nat} {x1 : Int32} {x2 : Int32} {x3 : Int32} {s0 : Int32} (f : F12_over_87 k50 h a0 x1 x2 x3 s0 = some out) {H : Heap} {locs : List Loc} (I : ph_I D cy b A fl h s H locs) {ls : Array Slot} (hl : lv_has ls 6 [(0, .ref (b + a0)), (1, .int x1), (2, .int x2), (3, .int x3)]) : W p l e ({ frames := 9, cells := 0, slots := 0, locals := 217 } : Room) s m args below meth c H locs 0 0 (MQ below (va_Qi (fun (r : Int32) (u : PH) => (r, u) = out) (ph_B D cy b A fl) A) args s 0 0 A) (F0 m 87 ls [.int s0]) := by
  unfold F12_over_87 at f
  refine lv_istore (lv' := [(5, .int s0), (0, .ref (b + a0)), (1, .int x1), (2, .int x2), (3, .int x3)]) S.1 S.2.1 dX12_over_87 hl (by decide) rfl (fun ls hl => ?_)
  refine lv_bipush (v := 100) S.1 S.2.1 dX12_over_89 (by decide) ?_
  refine lv_aload_n S.1 S.2.1 dX12_over_91 rfl (lv_at hl 1 rfl) ?_
  obtain ⟨r1, e2, f⟩ := ob f
  refine o_gR S lf12_over_24 I e2 dX12_over_92 ?_
  refine lv_iconst (v := 4) S.1 S.2.1 dX12_over_95 (by decide) ?_
  obtain ⟨v4, e3, f⟩ := ob f
  refine o_iald S I e3 dX12_over_96 ?_
  refine lv_imul S.1 S.2.1 dX12_over_97 ?_
  refine lv_iload S.1 S.2.1 dX12_over_98 (lv_at hl 0 rfl) ?_
  refine lv_imul S.1 S.2.1 dX12_over_100 ?_
  refine lv_aload_n S.1 S.2.1 dX12_over_101 rfl (lv_at hl 1 rfl) ?_
  refine lv_iload_n S.1 S.2.1 dX12_over_102 rfl (lv_at hl 2 rfl) ?_
  refine lv_aload_n S.1 S.2.1 dX12_over_103 rfl (lv_at hl 1 rfl) ?_
  obtain ⟨r5, e6, f⟩ := ob f
  refine o_gR S lf12_over_88 I e6 dX12_over_104 ?_
  refine lv_iload_n S.1 S.2.1 dX12_over_107 rfl (lv_at hl 2 rfl) ?_
  obtain ⟨v8, e7, f⟩ := ob f
  refine o_iald S I e7 dX12_over_108 ?_
  refine lv_iload_n S.1 S.2.1 dX12_over_109 rfl (lv_at hl 4 rfl) ?_
  obtain ⟨o9, e10, f⟩ := ob f
  refine o_Vi S (As := [.int x1, .int v8, .int x3]) (rest := [.int ((100 * v4) * s0)]) (ci := 12) (M12_seatFrom l D cy b A fl e10) gX12_over_X12_seatFrom rfl rfl rfl cd12_seatFrom ⟨Nat.le_of_ble_eq_true rfl, Nat.le_of_ble_eq_true rfl⟩ I (gd e10).1 clX12 rfl rfl hl.1 rfl (Nat.le_of_ble_eq_true rfl) dX12_over_110 ⟨Nat.le_of_ble_eq_true rfl, Nat.le_of_ble_eq_true rfl⟩ (fun H locs I => ?_)
  refine lv_icmp_le (tgt := 118) S.1 S.2.1 dX12_over_113 (by decide) (fun q11 => ?_) (fun q11 => ?_)
  · have f := (if_pos q11).symm.trans f
    refine lv_iinc (v := (x3 + 1)) (lv' := [(3, .int (x3 + 1)), (5, .int s0), (0, .ref (b + a0)), (1, .int x1), (2, .int x2)]) S.1 S.2.1 dX12_over_118 hl (k := 4) rfl (congrArg (fun z => x3 + z) (by decide)) (by decide) rfl (fun ls hl => ?_)
    refine lv_goto (tgt := 50) S.1 S.2.1 dX12_over_121 (by decide) ?_
    exact hk50 f _ _ I _ (lv_sub hl [2, 3, 4, 0] rfl)
  · have f := (if_neg q11).symm.trans f
    refine lv_iload_n S.1 S.2.1 dX12_over_116 rfl (lv_at hl 4 rfl) ?_
    exact o_iret S hr hlo I f dX12_over_117
set_option maxHeartbeats 4000000 in
set_option maxRecDepth 100000 in
theorem T12_over_50 (S : CallFix p m c cX12_over 6 s args vX12_over RX12) (hr : meth.sig.returnType = (some .int)) (hlo : meth.locks = false) {out : Int32 × PH} : ∀ (n : Nat) {h : PH} {a0 : Nat} {x1 : Int32} {x2 : Int32} {x3 : Int32} (f : F12_over_50  n h a0 x1 x2 x3 = some out) {H : Heap} {locs : List Loc} (I : ph_I D cy b A fl h s H locs) {ls : Array Slot} (hl : lv_has ls 6 [(0, .ref (b + a0)), (1, .int x1), (2, .int x2), (3, .int x3)]), W p l e ({ frames := 9, cells := 0, slots := 0, locals := 217 } : Room) s m args below meth c H locs 0 0 (MQ below (va_Qi (fun (r : Int32) (u : PH) => (r, u) = out) (ph_B D cy b A fl) A) args s 0 0 A) (F0 m 50 ls []) := by
  intro n
  induction n with
  | zero => intro h a0 x1 x2 x3 f; rw [F12_over_50] at f; cases f
  | succ n ih =>
    intro h a0 x1 x2 x3 f H locs I ls hl
    rw [F12_over_50] at f
    refine lv_iload_n S.1 S.2.1 dX12_over_50 rfl (lv_at hl 3 rfl) ?_
    refine lv_iload_n S.1 S.2.1 dX12_over_51 rfl (lv_at hl 2 rfl) ?_
    refine lv_icmp_gt (tgt := 124) S.1 S.2.1 dX12_over_52 (by decide) (fun q1 => ?_) (fun q1 => ?_)
    · have f := (if_pos q1).symm.trans f
      refine lv_bipush (v := (-2)) S.1 S.2.1 dX12_over_124 (by decide) ?_
      exact o_iret S hr hlo I f dX12_over_126
    · have f := (if_neg q1).symm.trans f
      refine lv_iload_n S.1 S.2.1 dX12_over_55 rfl (lv_at hl 2 rfl) ?_
      refine lv_iload_n S.1 S.2.1 dX12_over_56 rfl (lv_at hl 3 rfl) ?_
      refine lv_isub S.1 S.2.1 dX12_over_57 ?_
      refine lv_aload_n S.1 S.2.1 dX12_over_58 rfl (lv_at hl 0 rfl) ?_
      obtain ⟨r2, e3, f⟩ := ob f
      refine o_gR S lf12_over_24 I e3 dX12_over_59 ?_
      refine lv_iconst (v := 2) S.1 S.2.1 dX12_over_62 (by decide) ?_
      obtain ⟨v5, e4, f⟩ := ob f
      refine o_iald S I e4 dX12_over_63 ?_
      refine lv_isub S.1 S.2.1 dX12_over_64 ?_
      refine lv_istore (lv' := [(4, .int ((x2 - x3) - v5)), (0, .ref (b + a0)), (1, .int x1), (2, .int x2), (3, .int x3)]) S.1 S.2.1 dX12_over_65 hl (by decide) rfl (fun ls hl => ?_)
      refine lv_iload S.1 S.2.1 dX12_over_67 (lv_at hl 0 rfl) ?_
      refine lv_if_ge (tgt := 76) S.1 S.2.1 dX12_over_69 (by decide) (fun q6 => ?_) (fun q6 => ?_)
      · have f := (if_pos q6).symm.trans f
        refine lv_iload S.1 S.2.1 dX12_over_76 (lv_at hl 0 rfl) ?_
        refine lv_aload_n S.1 S.2.1 dX12_over_78 rfl (lv_at hl 1 rfl) ?_
        obtain ⟨r7, e8, f⟩ := ob f
        refine o_gR S lf12_over_24 I e8 dX12_over_79 ?_
        refine lv_iconst (v := 3) S.1 S.2.1 dX12_over_82 (by decide) ?_
        obtain ⟨v10, e9, f⟩ := ob f
        refine o_iald S I e9 dX12_over_83 ?_
        have q11 : ¬ v10 = 0 := fun q => by rw [if_pos q] at f; cases f
        have f := (if_neg q11).symm.trans f
        refine lv_idiv S.1 S.2.1 dX12_over_84 q11 ?_
        refine lv_iconst (v := 1) S.1 S.2.1 dX12_over_85 (by decide) ?_
        refine lv_iadd S.1 S.2.1 dX12_over_86 ?_
        exact T12_over_87 S hr hlo (fun f _ _ I _ hl => ih f I hl) f I (lv_sub hl [1, 2, 3, 4] rfl)
      · have f := (if_neg q6).symm.trans f
        refine lv_iconst (v := 0) S.1 S.2.1 dX12_over_72 (by decide) ?_
        refine lv_goto (tgt := 87) S.1 S.2.1 dX12_over_73 (by decide) ?_
        exact T12_over_87 S hr hlo (fun f _ _ I _ hl => ih f I hl) f I (lv_sub hl [1, 2, 3, 4] rfl)
set_option maxHeartbeats 4000000 in
set_option maxRecDepth 100000 in
theorem T12_over_0 (S : CallFix p m c cX12_over 6 s args vX12_over RX12) (hr : meth.sig.returnType = (some .int)) (hlo : meth.locks = false) {out : Int32 × PH} {h : PH} {a0 : Nat} {x1 : Int32} (f : F12_over_0  h a0 x1 = some out) {H : Heap} {locs : List Loc} (I : ph_I D cy b A fl h s H locs) {ls : Array Slot} (hl : lv_has ls 6 [(0, .ref (b + a0)), (1, .int x1)]) : W p l e ({ frames := 9, cells := 0, slots := 0, locals := 217 } : Room) s m args below meth c H locs 0 0 (MQ below (va_Qi (fun (r : Int32) (u : PH) => (r, u) = out) (ph_B D cy b A fl) A) args s 0 0 A) (F0 m 0 ls []) := by
  unfold F12_over_0 at f
  refine lv_aload_n S.1 S.2.1 dX12_over_0 rfl (lv_at hl 0 rfl) ?_
  refine lv_iconst (v := 0) S.1 S.2.1 dX12_over_1 (by decide) ?_
  obtain ⟨h1, e2, f⟩ := ob f
  refine o_pI S lp12_over_154 I e2 dX12_over_2 (fun H locs I => ?_)
  refine lv_aload_n S.1 S.2.1 dX12_over_5 rfl (lv_at hl 0 rfl) ?_
  refine lv_iload_n S.1 S.2.1 dX12_over_6 rfl (lv_at hl 1 rfl) ?_
  obtain ⟨o3, e4, f⟩ := ob f
  refine o_Vi S (As := [.int x1]) (rest := []) (ci := 12) (M12_isSurfer l D cy b A fl e4) gX12_over_X12_isSurfer rfl rfl rfl cd12_isSurfer ⟨Nat.le_of_ble_eq_true rfl, Nat.le_of_ble_eq_true rfl⟩ I (gd e4).1 clX12 rfl rfl hl.1 rfl (Nat.le_of_ble_eq_true rfl) dX12_over_7 ⟨Nat.le_of_ble_eq_true rfl, Nat.le_of_ble_eq_true rfl⟩ (fun H locs I => ?_)
  refine lv_if_eq (tgt := 29) S.1 S.2.1 dX12_over_10 (by decide) (fun q5 => ?_) (fun q5 => ?_)
  · have f := (if_pos q5).symm.trans f
    refine lv_iconst (v := (-1)) S.1 S.2.1 dX12_over_29 (by decide) ?_
    exact o_iret S hr hlo I f dX12_over_30
  · have f := (if_neg q5).symm.trans f
    refine lv_aload_n S.1 S.2.1 dX12_over_13 rfl (lv_at hl 0 rfl) ?_
    obtain ⟨r6, e7, f⟩ := ob f
    refine o_gR S lf12_over_24 I e7 dX12_over_14 ?_
    refine lv_iconst (v := 2) S.1 S.2.1 dX12_over_17 (by decide) ?_
    obtain ⟨v9, e8, f⟩ := ob f
    refine o_iald S I e8 dX12_over_18 ?_
    refine lv_if_eq (tgt := 29) S.1 S.2.1 dX12_over_19 (by decide) (fun q10 => ?_) (fun q10 => ?_)
    · have f := (if_pos q10).symm.trans f
      refine lv_iconst (v := (-1)) S.1 S.2.1 dX12_over_29 (by decide) ?_
      exact o_iret S hr hlo I f dX12_over_30
    · have f := (if_neg q10).symm.trans f
      refine lv_aload_n S.1 S.2.1 dX12_over_22 rfl (lv_at hl 0 rfl) ?_
      obtain ⟨v11, e12, f⟩ := ob f
      refine o_gI S lf12_over_253 I e12 dX12_over_23 ?_
      refine lv_if_ne (tgt := 31) S.1 S.2.1 dX12_over_26 (by decide) (fun q13 => ?_) (fun q13 => ?_)
      · have f := (if_neg q13).symm.trans f
        refine lv_aload_n S.1 S.2.1 dX12_over_31 rfl (lv_at hl 0 rfl) ?_
        obtain ⟨r14, e15, f⟩ := ob f
        refine o_gR S lf12_over_48 I e15 dX12_over_32 ?_
        refine lv_aload_n S.1 S.2.1 dX12_over_35 rfl (lv_at hl 0 rfl) ?_
        obtain ⟨v16, e17, f⟩ := ob f
        refine o_gI S lf12_over_253 I e17 dX12_over_36 ?_
        refine lv_iconst (v := 1) S.1 S.2.1 dX12_over_39 (by decide) ?_
        refine lv_isub S.1 S.2.1 dX12_over_40 ?_
        obtain ⟨v19, e18, f⟩ := ob f
        refine o_iald S I e18 dX12_over_41 ?_
        refine lv_istore_n (lv' := [(2, .int v19), (0, .ref (b + a0)), (1, .int x1)]) S.1 S.2.1 dX12_over_42 rfl hl (by decide) rfl (fun ls hl => ?_)
        refine lv_aload_n S.1 S.2.1 dX12_over_43 rfl (lv_at hl 1 rfl) ?_
        obtain ⟨r20, e21, f⟩ := ob f
        refine o_gR S lf12_over_106 I e21 dX12_over_44 ?_
        refine lv_iconst (v := 0) S.1 S.2.1 dX12_over_47 (by decide) ?_
        obtain ⟨v23, e22, f⟩ := ob f
        refine o_iald S I e22 dX12_over_48 ?_
        refine lv_istore_n (lv' := [(3, .int v23), (2, .int v19), (0, .ref (b + a0)), (1, .int x1)]) S.1 S.2.1 dX12_over_49 rfl hl (by decide) rfl (fun ls hl => ?_)
        exact T12_over_50 S hr hlo  1024 f I (lv_sub hl [2, 3, 1, 0] rfl)
      · have f := (if_pos q13).symm.trans f
        refine lv_iconst (v := (-1)) S.1 S.2.1 dX12_over_29 (by decide) ?_
        exact o_iret S hr hlo I f dX12_over_30
theorem M12_over (l : Launch) (D : va_G) (cy : Nat → ClassId) (b : Nat) (A : Nat → Prop) (fl : Bool) {h : PH} {a0 : Nat} {x1 : Int32} {out : Int32 × PH} (f : F12_over h a0 x1 = some out) : Met l yX12_over vX12_over ({ frames := 9, cells := 0, slots := 0, locals := 217 } : Room) (va_Pc [.ref (b + a0), .int x1] (ph_B D cy b A fl h)) (va_Qi (fun (r : Int32) (u : PH) => (r, u) = out) (ph_B D cy b A fl) A) 0 0 A :=
  o_met (by decide) rfl (Nat.le_of_ble_eq_true rfl) rfl (fun p e s m below meth c S hr hlo hnm ls hl I => T12_over_0 S hr hlo ((gd f).2) I (lv_sub hl [0, 1] rfl))
def vX12_peak : List Cond := .code yX12_peak cX12_peak 2 (some .int) :: TB
theorem lp12_peak_154 : Pl vX12_peak RX12 154 12 2 .int := ⟨RX12, TX12, 87, tyX12, rfl, by decide, (fun w h9 => List.mem_cons_of_mem _ (wC_wsX120 w h9)), (List.mem_cons_of_mem _ wT_13_17), tyX12_ok, nmX12, rfl, rfl⟩
theorem gX12_peak_X12_isIn : GoodIn vX12_peak (va_wsS RX12 199 yX12_isIn vX12_isIn) := gS_of wT_28_17 wT_28_18 wT_1_5 wT_28_19
theorem gX12_peak_X12_peakAt : GoodIn vX12_peak (wsV RX12 400 RX12 yX12_peakAt vX12_peakAt) := gV_of wT_34_22 wT_34_23 wT_35_0 wT_1_5 wT_35_1
theorem cd12_peak : Cd yX12_peak 1 := ⟨by decide, by decide, by decide +kernel⟩
set_option maxHeartbeats 4000000 in
set_option maxRecDepth 100000 in
theorem T12_peak_0 (S : CallFix p m c cX12_peak 2 s args vX12_peak RX12) (hr : meth.sig.returnType = (some .int)) (hlo : meth.locks = false) {out : Int32 × PH} {h : PH} {a0 : Nat} {x1 : Int32} (f : F12_peak_0  h a0 x1 = some out) {H : Heap} {locs : List Loc} (I : ph_I D cy b A fl h s H locs) {ls : Array Slot} (hl : lv_has ls 2 [(0, .ref (b + a0)), (1, .int x1)]) : W p l e ({ frames := 5, cells := 0, slots := 0, locals := 120 } : Room) s m args below meth c H locs 0 0 (MQ below (va_Qi (fun (r : Int32) (u : PH) => (r, u) = out) (ph_B D cy b A fl) A) args s 0 0 A) (F0 m 0 ls []) := by
  unfold F12_peak_0 at f
  refine lv_aload_n S.1 S.2.1 dX12_peak_0 rfl (lv_at hl 0 rfl) ?_
  refine lv_iconst (v := 0) S.1 S.2.1 dX12_peak_1 (by decide) ?_
  obtain ⟨h1, e2, f⟩ := ob f
  refine o_pI S lp12_peak_154 I e2 dX12_peak_2 (fun H locs I => ?_)
  refine lv_iload_n S.1 S.2.1 dX12_peak_5 rfl (lv_at hl 1 rfl) ?_
  refine lv_iconst (v := 0) S.1 S.2.1 dX12_peak_6 (by decide) ?_
  refine lv_sipush (v := 199) S.1 S.2.1 dX12_peak_7 (by decide) ?_
  obtain ⟨o3, e4, f⟩ := ob f
  refine o_Si S (As := [.int x1, .int 0, .int 199]) (rest := []) (M12_isIn l D cy b A fl e4) gX12_peak_X12_isIn rfl rfl rfl cd12_isIn ⟨Nat.le_of_ble_eq_true rfl, Nat.le_of_ble_eq_true rfl⟩ I rfl hl.1 rfl (Nat.le_of_ble_eq_true rfl) dX12_peak_10 ⟨Nat.le_of_ble_eq_true rfl, Nat.le_of_ble_eq_true rfl⟩ (fun H locs I => ?_)
  refine lv_if_eq (tgt := 24) S.1 S.2.1 dX12_peak_13 (by decide) (fun q5 => ?_) (fun q5 => ?_)
  · have f := (if_pos q5).symm.trans f
    refine lv_iconst (v := (-1)) S.1 S.2.1 dX12_peak_24 (by decide) ?_
    exact o_iret S hr hlo I f dX12_peak_25
  · have f := (if_neg q5).symm.trans f
    refine lv_aload_n S.1 S.2.1 dX12_peak_16 rfl (lv_at hl 0 rfl) ?_
    refine lv_iload_n S.1 S.2.1 dX12_peak_17 rfl (lv_at hl 1 rfl) ?_
    obtain ⟨o6, e7, f⟩ := ob f
    refine o_Vi S (As := [.int x1]) (rest := []) (ci := 12) (M12_peakAt l D cy b A fl e7) gX12_peak_X12_peakAt rfl rfl rfl cd12_peakAt ⟨Nat.le_of_ble_eq_true rfl, Nat.le_of_ble_eq_true rfl⟩ I (gd e7).1 clX12 rfl rfl hl.1 rfl (Nat.le_of_ble_eq_true rfl) dX12_peak_18 ⟨Nat.le_of_ble_eq_true rfl, Nat.le_of_ble_eq_true rfl⟩ (fun H locs I => ?_)
    refine lv_goto (tgt := 25) S.1 S.2.1 dX12_peak_21 (by decide) ?_
    exact o_iret S hr hlo I f dX12_peak_25
theorem M12_peak (l : Launch) (D : va_G) (cy : Nat → ClassId) (b : Nat) (A : Nat → Prop) (fl : Bool) {h : PH} {a0 : Nat} {x1 : Int32} {out : Int32 × PH} (f : F12_peak h a0 x1 = some out) : Met l yX12_peak vX12_peak ({ frames := 5, cells := 0, slots := 0, locals := 120 } : Room) (va_Pc [.ref (b + a0), .int x1] (ph_B D cy b A fl h)) (va_Qi (fun (r : Int32) (u : PH) => (r, u) = out) (ph_B D cy b A fl) A) 0 0 A :=
  o_met (by decide) rfl (Nat.le_of_ble_eq_true rfl) rfl (fun p e s m below meth c S hr hlo hnm ls hl I => T12_peak_0 S hr hlo ((gd f).2) I (lv_sub hl [0, 1] rfl))
def vX12_plan : List Cond := .code yX12_plan cX12_plan 2 (some .int) :: TB
theorem lp12_plan_154 : Pl vX12_plan RX12 154 12 2 .int := ⟨RX12, TX12, 87, tyX12, rfl, by decide, (fun w h9 => List.mem_cons_of_mem _ (wC_wsX120 w h9)), (List.mem_cons_of_mem _ wT_13_17), tyX12_ok, nmX12, rfl, rfl⟩
theorem gX12_plan_X12_isSurfer : GoodIn vX12_plan (wsV RX12 413 RX12 yX12_isSurfer vX12_isSurfer) := gV_of wT_34_14 wT_34_15 wT_34_16 wT_1_5 wT_34_17
theorem gX12_plan_X12_layPlan : GoodIn vX12_plan (wsV RX12 503 RX12 yX12_layPlan vX12_layPlan) := gV_of wT_55_7 wT_55_8 wT_55_9 wT_1_5 wT_55_10
theorem lf12_plan_127 : Fl vX12_plan RX12 127 12 72 := ⟨RX12, TX12, 87, rfl, by decide, (fun w h9 => List.mem_cons_of_mem _ (wC_wsX120 w h9)), (List.mem_cons_of_mem _ wT_11_11)⟩
theorem gX12_plan_X12_firstToCome : GoodIn vX12_plan (wsV RX12 506 RX12 yX12_firstToCome vX12_firstToCome) := gV_of wT_55_11 wT_55_12 wT_55_13 wT_1_5 wT_55_14
theorem cd12_plan : Cd yX12_plan 1 := ⟨by decide, by decide, by decide +kernel⟩
set_option maxHeartbeats 4000000 in
set_option maxRecDepth 100000 in
theorem T12_plan_0 (S : CallFix p m c cX12_plan 2 s args vX12_plan RX12) (hr : meth.sig.returnType = (some .int)) (hlo : meth.locks = false) {out : Int32 × PH} {h : PH} {a0 : Nat} {x1 : Int32} (f : F12_plan_0  h a0 x1 = some out) {H : Heap} {locs : List Loc} (I : ph_I D cy b A fl h s H locs) {ls : Array Slot} (hl : lv_has ls 2 [(0, .ref (b + a0)), (1, .int x1)]) : W p l e ({ frames := 9, cells := 0, slots := 0, locals := 217 } : Room) s m args below meth c H locs 0 0 (MQ below (va_Qi (fun (r : Int32) (u : PH) => (r, u) = out) (ph_B D cy b A fl) A) args s 0 0 A) (F0 m 0 ls []) := by
  unfold F12_plan_0 at f
  refine lv_aload_n S.1 S.2.1 dX12_plan_0 rfl (lv_at hl 0 rfl) ?_
  refine lv_iconst (v := 0) S.1 S.2.1 dX12_plan_1 (by decide) ?_
  obtain ⟨h1, e2, f⟩ := ob f
  refine o_pI S lp12_plan_154 I e2 dX12_plan_2 (fun H locs I => ?_)
  refine lv_aload_n S.1 S.2.1 dX12_plan_5 rfl (lv_at hl 0 rfl) ?_
  refine lv_iload_n S.1 S.2.1 dX12_plan_6 rfl (lv_at hl 1 rfl) ?_
  obtain ⟨o3, e4, f⟩ := ob f
  refine o_Vi S (As := [.int x1]) (rest := []) (ci := 12) (M12_isSurfer l D cy b A fl e4) gX12_plan_X12_isSurfer rfl rfl rfl cd12_isSurfer ⟨Nat.le_of_ble_eq_true rfl, Nat.le_of_ble_eq_true rfl⟩ I (gd e4).1 clX12 rfl rfl hl.1 rfl (Nat.le_of_ble_eq_true rfl) dX12_plan_7 ⟨Nat.le_of_ble_eq_true rfl, Nat.le_of_ble_eq_true rfl⟩ (fun H locs I => ?_)
  refine lv_if_ne (tgt := 15) S.1 S.2.1 dX12_plan_10 (by decide) (fun q5 => ?_) (fun q5 => ?_)
  · have f := (if_neg q5).symm.trans f
    refine lv_aload_n S.1 S.2.1 dX12_plan_15 rfl (lv_at hl 0 rfl) ?_
    refine lv_iload_n S.1 S.2.1 dX12_plan_16 rfl (lv_at hl 1 rfl) ?_
    obtain ⟨o6, e7, f⟩ := ob f
    refine o_Vv S (As := [.int x1]) (rest := []) (ci := 12) (M12_layPlan l D cy b A fl e7) gX12_plan_X12_layPlan rfl rfl rfl cd12_layPlan ⟨Nat.le_of_ble_eq_true rfl, Nat.le_of_ble_eq_true rfl⟩ I (gd e7).1 clX12 rfl rfl hl.1 rfl (Nat.le_of_ble_eq_true rfl) dX12_plan_17 ⟨Nat.le_of_ble_eq_true rfl, Nat.le_of_ble_eq_true rfl⟩ (fun H locs I => ?_)
    refine lv_aload_n S.1 S.2.1 dX12_plan_20 rfl (lv_at hl 0 rfl) ?_
    obtain ⟨r8, e9, f⟩ := ob f
    refine o_gR S lf12_plan_127 I e9 dX12_plan_21 ?_
    refine lv_aload_n S.1 S.2.1 dX12_plan_24 rfl (lv_at hl 0 rfl) ?_
    obtain ⟨o10, e11, f⟩ := ob f
    refine o_Vi S (As := []) (rest := [.ref (b + r8)]) (ci := 12) (M12_firstToCome l D cy b A fl e11) gX12_plan_X12_firstToCome rfl rfl rfl cd12_firstToCome ⟨Nat.le_of_ble_eq_true rfl, Nat.le_of_ble_eq_true rfl⟩ I (gd e11).1 clX12 rfl rfl hl.1 rfl (Nat.le_of_ble_eq_true rfl) dX12_plan_25 ⟨Nat.le_of_ble_eq_true rfl, Nat.le_of_ble_eq_true rfl⟩ (fun H locs I => ?_)
    obtain ⟨v13, e12, f⟩ := ob f
    refine o_iald S I e12 dX12_plan_28 ?_
    exact o_iret S hr hlo I f dX12_plan_29
  · have f := (if_pos q5).symm.trans f
    refine lv_iconst (v := (-1)) S.1 S.2.1 dX12_plan_13 (by decide) ?_
    exact o_iret S hr hlo I f dX12_plan_14
theorem M12_plan (l : Launch) (D : va_G) (cy : Nat → ClassId) (b : Nat) (A : Nat → Prop) (fl : Bool) {h : PH} {a0 : Nat} {x1 : Int32} {out : Int32 × PH} (f : F12_plan h a0 x1 = some out) : Met l yX12_plan vX12_plan ({ frames := 9, cells := 0, slots := 0, locals := 217 } : Room) (va_Pc [.ref (b + a0), .int x1] (ph_B D cy b A fl h)) (va_Qi (fun (r : Int32) (u : PH) => (r, u) = out) (ph_B D cy b A fl) A) 0 0 A :=
  o_met (by decide) rfl (Nat.le_of_ble_eq_true rfl) rfl (fun p e s m below meth c S hr hlo hnm ls hl I => T12_plan_0 S hr hlo ((gd f).2) I (lv_sub hl [0, 1] rfl))
def vX12_planned : List Cond := .code yX12_planned cX12_planned 6 (some .int) :: TB
theorem lf12_planned_130 : Fl vX12_planned RX12 130 12 73 := ⟨RX12, TX12, 87, rfl, by decide, (fun w h9 => List.mem_cons_of_mem _ (wC_wsX120 w h9)), (List.mem_cons_of_mem _ wT_11_12)⟩
theorem lf12_planned_253 : Fl vX12_planned RX12 253 12 16 := ⟨RX12, TX12, 87, rfl, by decide, (fun w h9 => List.mem_cons_of_mem _ (wC_wsX120 w h9)), (List.mem_cons_of_mem _ wT_12_14)⟩
theorem lf12_planned_88 : Fl vX12_planned RX12 88 12 55 := ⟨RX12, TX12, 87, rfl, by decide, (fun w h9 => List.mem_cons_of_mem _ (wC_wsX120 w h9)), (List.mem_cons_of_mem _ wT_10_22)⟩
theorem gX12_planned_X12_gainOf : GoodIn vX12_planned (wsV RX12 479 RX12 yX12_gainOf vX12_gainOf) := gV_of wT_50_5 wT_50_6 wT_50_7 wT_1_5 wT_50_8
theorem lf12_planned_127 : Fl vX12_planned RX12 127 12 72 := ⟨RX12, TX12, 87, rfl, by decide, (fun w h9 => List.mem_cons_of_mem _ (wC_wsX120 w h9)), (List.mem_cons_of_mem _ wT_11_11)⟩
theorem lp12_planned_154 : Pl vX12_planned RX12 154 12 2 .int := ⟨RX12, TX12, 87, tyX12, rfl, by decide, (fun w h9 => List.mem_cons_of_mem _ (wC_wsX120 w h9)), (List.mem_cons_of_mem _ wT_13_17), tyX12_ok, nmX12, rfl, rfl⟩
theorem gX12_planned_X12_isSurfer : GoodIn vX12_planned (wsV RX12 413 RX12 yX12_isSurfer vX12_isSurfer) := gV_of wT_34_14 wT_34_15 wT_34_16 wT_1_5 wT_34_17
theorem gX12_planned_X12_layPlan : GoodIn vX12_planned (wsV RX12 503 RX12 yX12_layPlan vX12_layPlan) := gV_of wT_55_7 wT_55_8 wT_55_9 wT_1_5 wT_55_10
theorem gX12_planned_X12_firstToCome : GoodIn vX12_planned (wsV RX12 506 RX12 yX12_firstToCome vX12_firstToCome) := gV_of wT_55_11 wT_55_12 wT_55_13 wT_1_5 wT_55_14
theorem cd12_planned : Cd yX12_planned 2 := ⟨by decide, by decide, by decide +kernel⟩
set_option maxHeartbeats 4000000 in
set_option maxRecDepth 100000 in
theorem T12_planned_109 (S : CallFix p m c cX12_planned 6 s args vX12_planned RX12) (hr : meth.sig.returnType = (some .int)) (hlo : meth.locks = false) {out : Int32 × PH} {k32 : PH → Nat → Int32 → Int32 → Int32 → Option (Int32 × PH)} (hk32 : ∀ {h : PH} {a0 : Nat} {x1 : Int32} {x3 : Int32} {x4 : Int32}, k32 h a0 x1 x3 x4 = some out → ∀ (H : Heap) (locs : List Loc), ph_I D cy b A fl h s H locs → ∀ (ls : Array Slot), lv_has ls 6 [(0, .ref (b + a0)), (1, .int x1), (3, .int x3), (4, .int x4)] → W p l e ({ frames := 9, cells := 0, slots := 0, locals := 217 } : Room) s m args below meth c H locs 0 0 (MQ below (va_Qi (fun (r : Int32) (u : PH) => (r, u) = out) (ph_B D cy b A fl) A) args s 0 0 A) (F0 m 32 ls [])) {h : PH} {a0 : Nat} {x1 : Int32} {x4 : Int32} {x5 : Int32} {s0 : Int32} {s1 : Int32} (f : F12_planned_109 k32 h a0 x1 x4 x5 s0 s1 = some out) {H : Heap} {locs : List Loc} (I : ph_I D cy b A fl h s H locs) {ls : Array Slot} (hl : lv_has ls 6 [(0, .ref (b + a0)), (1, .int x1), (4, .int x4), (5, .int x5)]) : W p l e ({ frames := 9, cells := 0, slots := 0, locals := 217 } : Room) s m args below meth c H locs 0 0 (MQ below (va_Qi (fun (r : Int32) (u : PH) => (r, u) = out) (ph_B D cy b A fl) A) args s 0 0 A) (F0 m 109 ls [.int s0, .int s1]) := by
  unfold F12_planned_109 at f
  refine lv_isub S.1 S.2.1 dX12_planned_109 ?_
  refine lv_istore_n (lv' := [(3, .int (s1 - s0)), (0, .ref (b + a0)), (1, .int x1), (4, .int x4), (5, .int x5)]) S.1 S.2.1 dX12_planned_110 rfl hl (by decide) rfl (fun ls hl => ?_)
  refine lv_iload S.1 S.2.1 dX12_planned_111 (lv_at hl 4 rfl) ?_
  refine lv_if_eq (tgt := 126) S.1 S.2.1 dX12_planned_113 (by decide) (fun q1 => ?_) (fun q1 => ?_)
  · have f := (if_pos q1).symm.trans f
    refine lv_iload S.1 S.2.1 dX12_planned_126 (lv_at hl 3 rfl) ?_
    refine lv_iconst (v := 1) S.1 S.2.1 dX12_planned_128 (by decide) ?_
    refine lv_iadd S.1 S.2.1 dX12_planned_129 ?_
    refine lv_istore (lv' := [(4, .int (x4 + 1)), (3, .int (s1 - s0)), (0, .ref (b + a0)), (1, .int x1), (5, .int x5)]) S.1 S.2.1 dX12_planned_130 hl (by decide) rfl (fun ls hl => ?_)
    refine lv_goto (tgt := 32) S.1 S.2.1 dX12_planned_132 (by decide) ?_
    exact hk32 f _ _ I _ (lv_sub hl [2, 3, 1, 0] rfl)
  · have f := (if_neg q1).symm.trans f
    refine lv_aload_n S.1 S.2.1 dX12_planned_116 rfl (lv_at hl 1 rfl) ?_
    obtain ⟨r2, e3, f⟩ := ob f
    refine o_gR S lf12_planned_130 I e3 dX12_planned_117 ?_
    refine lv_iload S.1 S.2.1 dX12_planned_120 (lv_at hl 3 rfl) ?_
    obtain ⟨v5, e4, f⟩ := ob f
    refine o_iald S I e4 dX12_planned_122 ?_
    refine lv_goto (tgt := 130) S.1 S.2.1 dX12_planned_123 (by decide) ?_
    refine lv_istore (lv' := [(4, .int v5), (3, .int (s1 - s0)), (0, .ref (b + a0)), (1, .int x1), (5, .int x5)]) S.1 S.2.1 dX12_planned_130 hl (by decide) rfl (fun ls hl => ?_)
    refine lv_goto (tgt := 32) S.1 S.2.1 dX12_planned_132 (by decide) ?_
    exact hk32 f _ _ I _ (lv_sub hl [2, 3, 1, 0] rfl)
set_option maxHeartbeats 4000000 in
set_option maxRecDepth 100000 in
theorem T12_planned_98 (S : CallFix p m c cX12_planned 6 s args vX12_planned RX12) (hr : meth.sig.returnType = (some .int)) (hlo : meth.locks = false) {out : Int32 × PH} {k32 : PH → Nat → Int32 → Int32 → Int32 → Option (Int32 × PH)} (hk32 : ∀ {h : PH} {a0 : Nat} {x1 : Int32} {x3 : Int32} {x4 : Int32}, k32 h a0 x1 x3 x4 = some out → ∀ (H : Heap) (locs : List Loc), ph_I D cy b A fl h s H locs → ∀ (ls : Array Slot), lv_has ls 6 [(0, .ref (b + a0)), (1, .int x1), (3, .int x3), (4, .int x4)] → W p l e ({ frames := 9, cells := 0, slots := 0, locals := 217 } : Room) s m args below meth c H locs 0 0 (MQ below (va_Qi (fun (r : Int32) (u : PH) => (r, u) = out) (ph_B D cy b A fl) A) args s 0 0 A) (F0 m 32 ls [])) {h : PH} {a0 : Nat} {x1 : Int32} {x3 : Int32} {x4 : Int32} {x5 : Int32} (f : F12_planned_98 k32 h a0 x1 x3 x4 x5 = some out) {H : Heap} {locs : List Loc} (I : ph_I D cy b A fl h s H locs) {ls : Array Slot} (hl : lv_has ls 6 [(0, .ref (b + a0)), (1, .int x1), (3, .int x3), (4, .int x4), (5, .int x5)]) : W p l e ({ frames := 9, cells := 0, slots := 0, locals := 217 } : Room) s m args below meth c H locs 0 0 (MQ below (va_Qi (fun (r : Int32) (u : PH) => (r, u) = out) (ph_B D cy b A fl) A) args s 0 0 A) (F0 m 98 ls []) := by
  unfold F12_planned_98 at f
  refine lv_iload_n S.1 S.2.1 dX12_planned_98 rfl (lv_at hl 2 rfl) ?_
  refine lv_iload S.1 S.2.1 dX12_planned_99 (lv_at hl 4 rfl) ?_
  refine lv_if_eq (tgt := 108) S.1 S.2.1 dX12_planned_101 (by decide) (fun q1 => ?_) (fun q1 => ?_)
  · have f := (if_pos q1).symm.trans f
    refine lv_iconst (v := 0) S.1 S.2.1 dX12_planned_108 (by decide) ?_
    exact T12_planned_109 S hr hlo (fun f _ _ I _ hl => hk32 f _ _ I _ hl) f I (lv_sub hl [0, 1, 3, 4] rfl)
  · have f := (if_neg q1).symm.trans f
    refine lv_iconst (v := 1) S.1 S.2.1 dX12_planned_104 (by decide) ?_
    refine lv_goto (tgt := 109) S.1 S.2.1 dX12_planned_105 (by decide) ?_
    exact T12_planned_109 S hr hlo (fun f _ _ I _ hl => hk32 f _ _ I _ hl) f I (lv_sub hl [0, 1, 3, 4] rfl)
set_option maxHeartbeats 4000000 in
set_option maxRecDepth 100000 in
theorem T12_planned_84 (S : CallFix p m c cX12_planned 6 s args vX12_planned RX12) (hr : meth.sig.returnType = (some .int)) (hlo : meth.locks = false) {out : Int32 × PH} {k32 : PH → Nat → Int32 → Int32 → Int32 → Option (Int32 × PH)} (hk32 : ∀ {h : PH} {a0 : Nat} {x1 : Int32} {x3 : Int32} {x4 : Int32}, k32 h a0 x1 x3 x4 = some out → ∀ (H : Heap) (locs : List Loc), ph_I D cy b A fl h s H locs → ∀ (ls : Array Slot), lv_has ls 6 [(0, .ref (b + a0)), (1, .int x1), (3, .int x3), (4, .int x4)] → W p l e ({ frames := 9, cells := 0, slots := 0, locals := 217 } : Room) s m args below meth c H locs 0 0 (MQ below (va_Qi (fun (r : Int32) (u : PH) => (r, u) = out) (ph_B D cy b A fl) A) args s 0 0 A) (F0 m 32 ls [])) {h : PH} {a0 : Nat} {x1 : Int32} {x3 : Int32} {x4 : Int32} {s0 : Int32} (f : F12_planned_84 k32 h a0 x1 x3 x4 s0 = some out) {H : Heap} {locs : List Loc} (I : ph_I D cy b A fl h s H locs) {ls : Array Slot} (hl : lv_has ls 6 [(0, .ref (b + a0)), (1, .int x1), (3, .int x3), (4, .int x4)]) : W p l e ({ frames := 9, cells := 0, slots := 0, locals := 217 } : Room) s m args below meth c H locs 0 0 (MQ below (va_Qi (fun (r : Int32) (u : PH) => (r, u) = out) (ph_B D cy b A fl) A) args s 0 0 A) (F0 m 84 ls [.int s0]) := by
  unfold F12_planned_84 at f
  refine lv_istore (lv' := [(5, .int s0), (0, .ref (b + a0)), (1, .int x1), (3, .int x3), (4, .int x4)]) S.1 S.2.1 dX12_planned_84 hl (by decide) rfl (fun ls hl => ?_)
  refine lv_iload S.1 S.2.1 dX12_planned_86 (lv_at hl 0 rfl) ?_
  refine lv_if_eq (tgt := 98) S.1 S.2.1 dX12_planned_88 (by decide) (fun q1 => ?_) (fun q1 => ?_)
  · have f := (if_pos q1).symm.trans f
    exact T12_planned_98 S hr hlo (fun f _ _ I _ hl => hk32 f _ _ I _ hl) f I (lv_sub hl [1, 2, 3, 4, 0] rfl)
  · have f := (if_neg q1).symm.trans f
    refine lv_iload_n S.1 S.2.1 dX12_planned_91 rfl (lv_at hl 3 rfl) ?_
    refine lv_if_ne (tgt := 98) S.1 S.2.1 dX12_planned_92 (by decide) (fun q2 => ?_) (fun q2 => ?_)
    · have f := (if_neg q2).symm.trans f
      exact T12_planned_98 S hr hlo (fun f _ _ I _ hl => hk32 f _ _ I _ hl) f I (lv_sub hl [1, 2, 3, 4, 0] rfl)
    · have f := (if_pos q2).symm.trans f
      refine lv_iload S.1 S.2.1 dX12_planned_95 (lv_at hl 4 rfl) ?_
      exact o_iret S hr hlo I f dX12_planned_97
set_option maxHeartbeats 4000000 in
set_option maxRecDepth 100000 in
theorem T12_planned_32 (S : CallFix p m c cX12_planned 6 s args vX12_planned RX12) (hr : meth.sig.returnType = (some .int)) (hlo : meth.locks = false) {out : Int32 × PH} : ∀ (n : Nat) {h : PH} {a0 : Nat} {x1 : Int32} {x3 : Int32} {x4 : Int32} (f : F12_planned_32  n h a0 x1 x3 x4 = some out) {H : Heap} {locs : List Loc} (I : ph_I D cy b A fl h s H locs) {ls : Array Slot} (hl : lv_has ls 6 [(0, .ref (b + a0)), (1, .int x1), (3, .int x3), (4, .int x4)]), W p l e ({ frames := 9, cells := 0, slots := 0, locals := 217 } : Room) s m args below meth c H locs 0 0 (MQ below (va_Qi (fun (r : Int32) (u : PH) => (r, u) = out) (ph_B D cy b A fl) A) args s 0 0 A) (F0 m 32 ls []) := by
  intro n
  induction n with
  | zero => intro h a0 x1 x3 x4 f; rw [F12_planned_32] at f; cases f
  | succ n ih =>
    intro h a0 x1 x3 x4 f H locs I ls hl
    rw [F12_planned_32] at f
    refine lv_iload S.1 S.2.1 dX12_planned_32 (lv_at hl 3 rfl) ?_
    refine lv_aload_n S.1 S.2.1 dX12_planned_34 rfl (lv_at hl 0 rfl) ?_
    obtain ⟨v1, e2, f⟩ := ob f
    refine o_gI S lf12_planned_253 I e2 dX12_planned_35 ?_
    refine lv_icmp_ge (tgt := 135) S.1 S.2.1 dX12_planned_38 (by decide) (fun q3 => ?_) (fun q3 => ?_)
    · have f := (if_pos q3).symm.trans f
      refine lv_bipush (v := (-2)) S.1 S.2.1 dX12_planned_135 (by decide) ?_
      exact o_iret S hr hlo I f dX12_planned_137
    · have f := (if_neg q3).symm.trans f
      refine lv_aload_n S.1 S.2.1 dX12_planned_41 rfl (lv_at hl 0 rfl) ?_
      refine lv_iload_n S.1 S.2.1 dX12_planned_42 rfl (lv_at hl 1 rfl) ?_
      refine lv_iload S.1 S.2.1 dX12_planned_43 (lv_at hl 3 rfl) ?_
      refine lv_aload_n S.1 S.2.1 dX12_planned_45 rfl (lv_at hl 0 rfl) ?_
      obtain ⟨r4, e5, f⟩ := ob f
      refine o_gR S lf12_planned_88 I e5 dX12_planned_46 ?_
      refine lv_iload_n S.1 S.2.1 dX12_planned_49 rfl (lv_at hl 1 rfl) ?_
      obtain ⟨v7, e6, f⟩ := ob f
      refine o_iald S I e6 dX12_planned_50 ?_
      obtain ⟨o8, e9, f⟩ := ob f
      refine o_Vi S (As := [.int x1, .int x4, .int v7]) (rest := []) (ci := 12) (M12_gainOf l D cy b A fl e9) gX12_planned_X12_gainOf rfl rfl rfl cd12_gainOf ⟨Nat.le_of_ble_eq_true rfl, Nat.le_of_ble_eq_true rfl⟩ I (gd e9).1 clX12 rfl rfl hl.1 rfl (Nat.le_of_ble_eq_true rfl) dX12_planned_51 ⟨Nat.le_of_ble_eq_true rfl, Nat.le_of_ble_eq_true rfl⟩ (fun H locs I => ?_)
      refine lv_aload_n S.1 S.2.1 dX12_planned_54 rfl (lv_at hl 0 rfl) ?_
      obtain ⟨r10, e11, f⟩ := ob f
      refine o_gR S lf12_planned_127 I e11 dX12_planned_55 ?_
      refine lv_aload_n S.1 S.2.1 dX12_planned_58 rfl (lv_at hl 0 rfl) ?_
      obtain ⟨r12, e13, f⟩ := ob f
      refine o_gR S lf12_planned_130 I e13 dX12_planned_59 ?_
      refine lv_iload S.1 S.2.1 dX12_planned_62 (lv_at hl 3 rfl) ?_
      obtain ⟨v15, e14, f⟩ := ob f
      refine o_iald S I e14 dX12_planned_64 ?_
      obtain ⟨v17, e16, f⟩ := ob f
      refine o_iald S I e16 dX12_planned_65 ?_
      refine lv_iadd S.1 S.2.1 dX12_planned_66 ?_
      refine lv_aload_n S.1 S.2.1 dX12_planned_67 rfl (lv_at hl 0 rfl) ?_
      obtain ⟨r18, e19, f⟩ := ob f
      refine o_gR S lf12_planned_127 I e19 dX12_planned_68 ?_
      refine lv_iload S.1 S.2.1 dX12_planned_71 (lv_at hl 3 rfl) ?_
      refine lv_iconst (v := 1) S.1 S.2.1 dX12_planned_73 (by decide) ?_
      refine lv_iadd S.1 S.2.1 dX12_planned_74 ?_
      obtain ⟨v21, e20, f⟩ := ob f
      refine o_iald S I e20 dX12_planned_75 ?_
      refine lv_icmp_lt (tgt := 83) S.1 S.2.1 dX12_planned_76 (by decide) (fun q22 => ?_) (fun q22 => ?_)
      · have f := (if_pos q22).symm.trans f
        refine lv_iconst (v := 0) S.1 S.2.1 dX12_planned_83 (by decide) ?_
        exact T12_planned_84 S hr hlo (fun f _ _ I _ hl => ih f I hl) f I (lv_sub hl [0, 1, 2, 3] rfl)
      · have f := (if_neg q22).symm.trans f
        refine lv_iconst (v := 1) S.1 S.2.1 dX12_planned_79 (by decide) ?_
        refine lv_goto (tgt := 84) S.1 S.2.1 dX12_planned_80 (by decide) ?_
        exact T12_planned_84 S hr hlo (fun f _ _ I _ hl => ih f I hl) f I (lv_sub hl [0, 1, 2, 3] rfl)
set_option maxHeartbeats 4000000 in
set_option maxRecDepth 100000 in
theorem T12_planned_0 (S : CallFix p m c cX12_planned 6 s args vX12_planned RX12) (hr : meth.sig.returnType = (some .int)) (hlo : meth.locks = false) {out : Int32 × PH} {h : PH} {a0 : Nat} {x1 : Int32} {x2 : Int32} (f : F12_planned_0  h a0 x1 x2 = some out) {H : Heap} {locs : List Loc} (I : ph_I D cy b A fl h s H locs) {ls : Array Slot} (hl : lv_has ls 6 [(0, .ref (b + a0)), (1, .int x1), (2, .int x2)]) : W p l e ({ frames := 9, cells := 0, slots := 0, locals := 217 } : Room) s m args below meth c H locs 0 0 (MQ below (va_Qi (fun (r : Int32) (u : PH) => (r, u) = out) (ph_B D cy b A fl) A) args s 0 0 A) (F0 m 0 ls []) := by
  unfold F12_planned_0 at f
  refine lv_aload_n S.1 S.2.1 dX12_planned_0 rfl (lv_at hl 0 rfl) ?_
  refine lv_iconst (v := 0) S.1 S.2.1 dX12_planned_1 (by decide) ?_
  obtain ⟨h1, e2, f⟩ := ob f
  refine o_pI S lp12_planned_154 I e2 dX12_planned_2 (fun H locs I => ?_)
  refine lv_aload_n S.1 S.2.1 dX12_planned_5 rfl (lv_at hl 0 rfl) ?_
  refine lv_iload_n S.1 S.2.1 dX12_planned_6 rfl (lv_at hl 1 rfl) ?_
  obtain ⟨o3, e4, f⟩ := ob f
  refine o_Vi S (As := [.int x1]) (rest := []) (ci := 12) (M12_isSurfer l D cy b A fl e4) gX12_planned_X12_isSurfer rfl rfl rfl cd12_isSurfer ⟨Nat.le_of_ble_eq_true rfl, Nat.le_of_ble_eq_true rfl⟩ I (gd e4).1 clX12 rfl rfl hl.1 rfl (Nat.le_of_ble_eq_true rfl) dX12_planned_7 ⟨Nat.le_of_ble_eq_true rfl, Nat.le_of_ble_eq_true rfl⟩ (fun H locs I => ?_)
  refine lv_if_eq (tgt := 17) S.1 S.2.1 dX12_planned_10 (by decide) (fun q5 => ?_) (fun q5 => ?_)
  · have f := (if_pos q5).symm.trans f
    refine lv_iconst (v := (-1)) S.1 S.2.1 dX12_planned_17 (by decide) ?_
    exact o_iret S hr hlo I f dX12_planned_18
  · have f := (if_neg q5).symm.trans f
    refine lv_iload_n S.1 S.2.1 dX12_planned_13 rfl (lv_at hl 2 rfl) ?_
    refine lv_if_ge (tgt := 19) S.1 S.2.1 dX12_planned_14 (by decide) (fun q6 => ?_) (fun q6 => ?_)
    · have f := (if_pos q6).symm.trans f
      refine lv_aload_n S.1 S.2.1 dX12_planned_19 rfl (lv_at hl 0 rfl) ?_
      refine lv_iload_n S.1 S.2.1 dX12_planned_20 rfl (lv_at hl 1 rfl) ?_
      obtain ⟨o7, e8, f⟩ := ob f
      refine o_Vv S (As := [.int x1]) (rest := []) (ci := 12) (M12_layPlan l D cy b A fl e8) gX12_planned_X12_layPlan rfl rfl rfl cd12_layPlan ⟨Nat.le_of_ble_eq_true rfl, Nat.le_of_ble_eq_true rfl⟩ I (gd e8).1 clX12 rfl rfl hl.1 rfl (Nat.le_of_ble_eq_true rfl) dX12_planned_21 ⟨Nat.le_of_ble_eq_true rfl, Nat.le_of_ble_eq_true rfl⟩ (fun H locs I => ?_)
      refine lv_iload_n S.1 S.2.1 dX12_planned_24 rfl (lv_at hl 2 rfl) ?_
      refine lv_istore_n (lv' := [(3, .int x2), (0, .ref (b + a0)), (1, .int x1), (2, .int x2)]) S.1 S.2.1 dX12_planned_25 rfl hl (by decide) rfl (fun ls hl => ?_)
      refine lv_aload_n S.1 S.2.1 dX12_planned_26 rfl (lv_at hl 1 rfl) ?_
      obtain ⟨o9, e10, f⟩ := ob f
      refine o_Vi S (As := []) (rest := []) (ci := 12) (M12_firstToCome l D cy b A fl e10) gX12_planned_X12_firstToCome rfl rfl rfl cd12_firstToCome ⟨Nat.le_of_ble_eq_true rfl, Nat.le_of_ble_eq_true rfl⟩ I (gd e10).1 clX12 rfl rfl hl.1 rfl (Nat.le_of_ble_eq_true rfl) dX12_planned_27 ⟨Nat.le_of_ble_eq_true rfl, Nat.le_of_ble_eq_true rfl⟩ (fun H locs I => ?_)
      refine lv_istore (lv' := [(4, .int o9.1), (3, .int x2), (0, .ref (b + a0)), (1, .int x1), (2, .int x2)]) S.1 S.2.1 dX12_planned_30 hl (by decide) rfl (fun ls hl => ?_)
      exact T12_planned_32 S hr hlo  1024 f I (lv_sub hl [2, 3, 1, 0] rfl)
    · have f := (if_neg q6).symm.trans f
      refine lv_iconst (v := (-1)) S.1 S.2.1 dX12_planned_17 (by decide) ?_
      exact o_iret S hr hlo I f dX12_planned_18
theorem M12_planned (l : Launch) (D : va_G) (cy : Nat → ClassId) (b : Nat) (A : Nat → Prop) (fl : Bool) {h : PH} {a0 : Nat} {x1 : Int32} {x2 : Int32} {out : Int32 × PH} (f : F12_planned h a0 x1 x2 = some out) : Met l yX12_planned vX12_planned ({ frames := 9, cells := 0, slots := 0, locals := 217 } : Room) (va_Pc [.ref (b + a0), .int x1, .int x2] (ph_B D cy b A fl h)) (va_Qi (fun (r : Int32) (u : PH) => (r, u) = out) (ph_B D cy b A fl) A) 0 0 A :=
  o_met (by decide) rfl (Nat.le_of_ble_eq_true rfl) rfl (fun p e s m below meth c S hr hlo hnm ls hl I => T12_planned_0 S hr hlo ((gd f).2) I (lv_sub hl [0, 1, 2] rfl))
def vX12_setEnd : List Cond := .code yX12_setEnd cX12_setEnd 2 (some .int) :: TB
theorem lf12_setEnd_250 : Fl vX12_setEnd RX12 250 12 15 := ⟨RX12, TX12, 87, rfl, by decide, (fun w h9 => List.mem_cons_of_mem _ (wC_wsX120 w h9)), (List.mem_cons_of_mem _ wT_12_13)⟩
theorem lf12_setEnd_253 : Fl vX12_setEnd RX12 253 12 16 := ⟨RX12, TX12, 87, rfl, by decide, (fun w h9 => List.mem_cons_of_mem _ (wC_wsX120 w h9)), (List.mem_cons_of_mem _ wT_12_14)⟩
theorem lf12_setEnd_45 : Fl vX12_setEnd RX12 45 12 33 := ⟨RX12, TX12, 87, rfl, by decide, (fun w h9 => List.mem_cons_of_mem _ (wC_wsX120 w h9)), (List.mem_cons_of_mem _ wT_10_8)⟩
theorem cd12_setEnd : Cd yX12_setEnd 1 := ⟨by decide, by decide, by decide +kernel⟩
set_option maxHeartbeats 4000000 in
set_option maxRecDepth 100000 in
theorem T12_setEnd_0 (S : CallFix p m c cX12_setEnd 2 s args vX12_setEnd RX12) (hr : meth.sig.returnType = (some .int)) (hlo : meth.locks = false) {out : Int32 × PH} {h : PH} {a0 : Nat} {x1 : Int32} (f : F12_setEnd_0  h a0 x1 = some out) {H : Heap} {locs : List Loc} (I : ph_I D cy b A fl h s H locs) {ls : Array Slot} (hl : lv_has ls 2 [(0, .ref (b + a0)), (1, .int x1)]) : W p l e ({ frames := 0, cells := 0, slots := 0, locals := 0 } : Room) s m args below meth c H locs 0 0 (MQ below (va_Qi (fun (r : Int32) (u : PH) => (r, u) = out) (ph_B D cy b A fl) A) args s 0 0 A) (F0 m 0 ls []) := by
  unfold F12_setEnd_0 at f
  refine lv_iload_n S.1 S.2.1 dX12_setEnd_0 rfl (lv_at hl 1 rfl) ?_
  refine lv_iconst (v := 1) S.1 S.2.1 dX12_setEnd_1 (by decide) ?_
  refine lv_iadd S.1 S.2.1 dX12_setEnd_2 ?_
  refine lv_aload_n S.1 S.2.1 dX12_setEnd_3 rfl (lv_at hl 0 rfl) ?_
  obtain ⟨v1, e2, f⟩ := ob f
  refine o_gI S lf12_setEnd_250 I e2 dX12_setEnd_4 ?_
  refine lv_icmp_ge (tgt := 21) S.1 S.2.1 dX12_setEnd_7 (by decide) (fun q3 => ?_) (fun q3 => ?_)
  · have f := (if_pos q3).symm.trans f
    refine lv_aload_n S.1 S.2.1 dX12_setEnd_21 rfl (lv_at hl 0 rfl) ?_
    obtain ⟨v4, e5, f⟩ := ob f
    refine o_gI S lf12_setEnd_253 I e5 dX12_setEnd_22 ?_
    exact o_iret S hr hlo I f dX12_setEnd_25
  · have f := (if_neg q3).symm.trans f
    refine lv_aload_n S.1 S.2.1 dX12_setEnd_10 rfl (lv_at hl 0 rfl) ?_
    obtain ⟨r6, e7, f⟩ := ob f
    refine o_gR S lf12_setEnd_45 I e7 dX12_setEnd_11 ?_
    refine lv_iload_n S.1 S.2.1 dX12_setEnd_14 rfl (lv_at hl 1 rfl) ?_
    refine lv_iconst (v := 1) S.1 S.2.1 dX12_setEnd_15 (by decide) ?_
    refine lv_iadd S.1 S.2.1 dX12_setEnd_16 ?_
    obtain ⟨v9, e8, f⟩ := ob f
    refine o_iald S I e8 dX12_setEnd_17 ?_
    refine lv_goto (tgt := 25) S.1 S.2.1 dX12_setEnd_18 (by decide) ?_
    exact o_iret S hr hlo I f dX12_setEnd_25
theorem M12_setEnd (l : Launch) (D : va_G) (cy : Nat → ClassId) (b : Nat) (A : Nat → Prop) (fl : Bool) {h : PH} {a0 : Nat} {x1 : Int32} {out : Int32 × PH} (f : F12_setEnd h a0 x1 = some out) : Met l yX12_setEnd vX12_setEnd ({ frames := 0, cells := 0, slots := 0, locals := 0 } : Room) (va_Pc [.ref (b + a0), .int x1] (ph_B D cy b A fl h)) (va_Qi (fun (r : Int32) (u : PH) => (r, u) = out) (ph_B D cy b A fl) A) 0 0 A :=
  o_met (by decide) rfl (Nat.le_of_ble_eq_true rfl) rfl (fun p e s m below meth c S hr hlo hnm ls hl I => T12_setEnd_0 S hr hlo ((gd f).2) I (lv_sub hl [0, 1] rfl))
def vX12_rank_ : List Cond := .code yX12_rank_ cX12_rank_ 8 (some .int) :: TB
theorem gX12_rank__X12_setEnd : GoodIn vX12_rank_ (wsV RX12 500 RX12 yX12_setEnd vX12_setEnd) := gV_of wT_54_5 wT_54_6 wT_54_7 wT_1_5 wT_54_8
theorem lf12_rank__51 : Fl vX12_rank_ RX12 51 12 35 := ⟨RX12, TX12, 87, rfl, by decide, (fun w h9 => List.mem_cons_of_mem _ (wC_wsX120 w h9)), (List.mem_cons_of_mem _ wT_10_10)⟩
theorem lf12_rank__45 : Fl vX12_rank_ RX12 45 12 33 := ⟨RX12, TX12, 87, rfl, by decide, (fun w h9 => List.mem_cons_of_mem _ (wC_wsX120 w h9)), (List.mem_cons_of_mem _ wT_10_8)⟩
theorem lf12_rank__250 : Fl vX12_rank_ RX12 250 12 15 := ⟨RX12, TX12, 87, rfl, by decide, (fun w h9 => List.mem_cons_of_mem _ (wC_wsX120 w h9)), (List.mem_cons_of_mem _ wT_12_13)⟩
theorem lp12_rank__154 : Pl vX12_rank_ RX12 154 12 2 .int := ⟨RX12, TX12, 87, tyX12, rfl, by decide, (fun w h9 => List.mem_cons_of_mem _ (wC_wsX120 w h9)), (List.mem_cons_of_mem _ wT_13_17), tyX12_ok, nmX12, rfl, rfl⟩
theorem gX12_rank__X12_isIn : GoodIn vX12_rank_ (va_wsS RX12 199 yX12_isIn vX12_isIn) := gS_of wT_28_17 wT_28_18 wT_1_5 wT_28_19
theorem cd12_rank_ : Cd yX12_rank_ 2 := ⟨by decide, by decide, by decide +kernel⟩
set_option maxHeartbeats 4000000 in
set_option maxRecDepth 100000 in
theorem T12_rank__79 (S : CallFix p m c cX12_rank_ 8 s args vX12_rank_ RX12) (hr : meth.sig.returnType = (some .int)) (hlo : meth.locks = false) {out : Int32 × PH} {k34 : PH → Nat → Int32 → Int32 → Int32 → Int32 → Int32 → Option (Int32 × PH)} (hk34 : ∀ {h : PH} {a0 : Nat} {x1 : Int32} {x2 : Int32} {x3 : Int32} {x4 : Int32} {x5 : Int32}, k34 h a0 x1 x2 x3 x4 x5 = some out → ∀ (H : Heap) (locs : List Loc), ph_I D cy b A fl h s H locs → ∀ (ls : Array Slot), lv_has ls 8 [(0, .ref (b + a0)), (1, .int x1), (2, .int x2), (3, .int x3), (4, .int x4), (5, .int x5)] → W p l e ({ frames := 1, cells := 0, slots := 0, locals := 22 } : Room) s m args below meth c H locs 0 0 (MQ below (va_Qi (fun (r : Int32) (u : PH) => (r, u) = out) (ph_B D cy b A fl) A) args s 0 0 A) (F0 m 34 ls [])) : ∀ (n : Nat) {h : PH} {a0 : Nat} {x1 : Int32} {x2 : Int32} {x3 : Int32} {x4 : Int32} {x5 : Int32} {x6 : Int32} {x7 : Int32} (f : F12_rank__79 k34 n h a0 x1 x2 x3 x4 x5 x6 x7 = some out) {H : Heap} {locs : List Loc} (I : ph_I D cy b A fl h s H locs) {ls : Array Slot} (hl : lv_has ls 8 [(0, .ref (b + a0)), (1, .int x1), (2, .int x2), (3, .int x3), (4, .int x4), (5, .int x5), (6, .int x6), (7, .int x7)]), W p l e ({ frames := 1, cells := 0, slots := 0, locals := 22 } : Room) s m args below meth c H locs 0 0 (MQ below (va_Qi (fun (r : Int32) (u : PH) => (r, u) = out) (ph_B D cy b A fl) A) args s 0 0 A) (F0 m 79 ls []) := by
  intro n
  induction n with
  | zero => intro h a0 x1 x2 x3 x4 x5 x6 x7 f; rw [F12_rank__79] at f; cases f
  | succ n ih =>
    intro h a0 x1 x2 x3 x4 x5 x6 x7 f H locs I ls hl
    rw [F12_rank__79] at f
    refine lv_iload S.1 S.2.1 dX12_rank__79 (lv_at hl 7 rfl) ?_
    refine lv_aload_n S.1 S.2.1 dX12_rank__81 rfl (lv_at hl 0 rfl) ?_
    refine lv_iload S.1 S.2.1 dX12_rank__82 (lv_at hl 5 rfl) ?_
    obtain ⟨o1, e2, f⟩ := ob f
    refine o_Vi S (As := [.int x5]) (rest := [.int x7]) (ci := 12) (M12_setEnd l D cy b A fl e2) gX12_rank__X12_setEnd rfl rfl rfl cd12_setEnd ⟨Nat.le_of_ble_eq_true rfl, Nat.le_of_ble_eq_true rfl⟩ I (gd e2).1 clX12 rfl rfl hl.1 rfl (Nat.le_of_ble_eq_true rfl) dX12_rank__84 ⟨Nat.le_of_ble_eq_true rfl, Nat.le_of_ble_eq_true rfl⟩ (fun H locs I => ?_)
    refine lv_icmp_ge (tgt := 122) S.1 S.2.1 dX12_rank__87 (by decide) (fun q3 => ?_) (fun q3 => ?_)
    · have f := (if_pos q3).symm.trans f
      refine lv_iload S.1 S.2.1 dX12_rank__122 (lv_at hl 4 rfl) ?_
      refine lv_aload_n S.1 S.2.1 dX12_rank__124 rfl (lv_at hl 0 rfl) ?_
      obtain ⟨r4, e5, f⟩ := ob f
      refine o_gR S lf12_rank__51 I e5 dX12_rank__125 ?_
      refine lv_aload_n S.1 S.2.1 dX12_rank__128 rfl (lv_at hl 0 rfl) ?_
      obtain ⟨r6, e7, f⟩ := ob f
      refine o_gR S lf12_rank__45 I e7 dX12_rank__129 ?_
      refine lv_iload S.1 S.2.1 dX12_rank__132 (lv_at hl 5 rfl) ?_
      obtain ⟨v9, e8, f⟩ := ob f
      refine o_iald S I e8 dX12_rank__134 ?_
      refine lv_iload_n S.1 S.2.1 dX12_rank__135 rfl (lv_at hl 1 rfl) ?_
      refine lv_iadd S.1 S.2.1 dX12_rank__136 ?_
      refine lv_iconst (v := 1) S.1 S.2.1 dX12_rank__137 (by decide) ?_
      refine lv_isub S.1 S.2.1 dX12_rank__138 ?_
      obtain ⟨v11, e10, f⟩ := ob f
      refine o_iald S I e10 dX12_rank__139 ?_
      refine lv_iload S.1 S.2.1 dX12_rank__140 (lv_at hl 6 rfl) ?_
      refine lv_icmp_ne (tgt := 149) S.1 S.2.1 dX12_rank__142 (by decide) (fun q12 => ?_) (fun q12 => ?_)
      · have f := (if_neg q12).symm.trans f
        refine lv_iconst (v := 0) S.1 S.2.1 dX12_rank__149 (by decide) ?_
        refine lv_iadd S.1 S.2.1 dX12_rank__150 ?_
        refine lv_istore (lv' := [(4, .int (x4 + 0)), (0, .ref (b + a0)), (1, .int x1), (2, .int x2), (3, .int x3), (5, .int x5), (6, .int x6), (7, .int x7)]) S.1 S.2.1 dX12_rank__151 hl (by decide) rfl (fun ls hl => ?_)
        refine lv_iinc (v := (x5 + 1)) (lv' := [(5, .int (x5 + 1)), (4, .int (x4 + 0)), (0, .ref (b + a0)), (1, .int x1), (2, .int x2), (3, .int x3), (6, .int x6), (7, .int x7)]) S.1 S.2.1 dX12_rank__153 hl (k := 5) rfl (congrArg (fun z => x5 + z) (by decide)) (by decide) rfl (fun ls hl => ?_)
        refine lv_goto (tgt := 34) S.1 S.2.1 dX12_rank__156 (by decide) ?_
        exact hk34 f _ _ I _ (lv_sub hl [2, 3, 4, 5, 1, 0] rfl)
      · have f := (if_pos q12).symm.trans f
        refine lv_iconst (v := 1) S.1 S.2.1 dX12_rank__145 (by decide) ?_
        refine lv_goto (tgt := 150) S.1 S.2.1 dX12_rank__146 (by decide) ?_
        refine lv_iadd S.1 S.2.1 dX12_rank__150 ?_
        refine lv_istore (lv' := [(4, .int (x4 + 1)), (0, .ref (b + a0)), (1, .int x1), (2, .int x2), (3, .int x3), (5, .int x5), (6, .int x6), (7, .int x7)]) S.1 S.2.1 dX12_rank__151 hl (by decide) rfl (fun ls hl => ?_)
        refine lv_iinc (v := (x5 + 1)) (lv' := [(5, .int (x5 + 1)), (4, .int (x4 + 1)), (0, .ref (b + a0)), (1, .int x1), (2, .int x2), (3, .int x3), (6, .int x6), (7, .int x7)]) S.1 S.2.1 dX12_rank__153 hl (k := 5) rfl (congrArg (fun z => x5 + z) (by decide)) (by decide) rfl (fun ls hl => ?_)
        refine lv_goto (tgt := 34) S.1 S.2.1 dX12_rank__156 (by decide) ?_
        exact hk34 f _ _ I _ (lv_sub hl [2, 3, 4, 5, 1, 0] rfl)
    · have f := (if_neg q3).symm.trans f
      refine lv_aload_n S.1 S.2.1 dX12_rank__90 rfl (lv_at hl 0 rfl) ?_
      obtain ⟨r13, e14, f⟩ := ob f
      refine o_gR S lf12_rank__51 I e14 dX12_rank__91 ?_
      refine lv_iload S.1 S.2.1 dX12_rank__94 (lv_at hl 7 rfl) ?_
      obtain ⟨v16, e15, f⟩ := ob f
      refine o_iald S I e15 dX12_rank__96 ?_
      refine lv_iload S.1 S.2.1 dX12_rank__97 (lv_at hl 6 rfl) ?_
      refine lv_icmp_le (tgt := 112) S.1 S.2.1 dX12_rank__99 (by decide) (fun q17 => ?_) (fun q17 => ?_)
      · have f := (if_pos q17).symm.trans f
        refine lv_iload S.1 S.2.1 dX12_rank__112 (lv_at hl 6 rfl) ?_
        refine lv_istore (lv' := [(6, .int x6), (0, .ref (b + a0)), (1, .int x1), (2, .int x2), (3, .int x3), (4, .int x4), (5, .int x5), (7, .int x7)]) S.1 S.2.1 dX12_rank__114 hl (by decide) rfl (fun ls hl => ?_)
        refine lv_iinc (v := (x7 + 1)) (lv' := [(7, .int (x7 + 1)), (6, .int x6), (0, .ref (b + a0)), (1, .int x1), (2, .int x2), (3, .int x3), (4, .int x4), (5, .int x5)]) S.1 S.2.1 dX12_rank__116 hl (k := 7) rfl (congrArg (fun z => x7 + z) (by decide)) (by decide) rfl (fun ls hl => ?_)
        refine lv_goto (tgt := 79) S.1 S.2.1 dX12_rank__119 (by decide) ?_
        exact ih f I (lv_sub hl [2, 3, 4, 5, 6, 7, 1, 0] rfl)
      · have f := (if_neg q17).symm.trans f
        refine lv_aload_n S.1 S.2.1 dX12_rank__102 rfl (lv_at hl 0 rfl) ?_
        obtain ⟨r18, e19, f⟩ := ob f
        refine o_gR S lf12_rank__51 I e19 dX12_rank__103 ?_
        refine lv_iload S.1 S.2.1 dX12_rank__106 (lv_at hl 7 rfl) ?_
        obtain ⟨v21, e20, f⟩ := ob f
        refine o_iald S I e20 dX12_rank__108 ?_
        refine lv_goto (tgt := 114) S.1 S.2.1 dX12_rank__109 (by decide) ?_
        refine lv_istore (lv' := [(6, .int v21), (0, .ref (b + a0)), (1, .int x1), (2, .int x2), (3, .int x3), (4, .int x4), (5, .int x5), (7, .int x7)]) S.1 S.2.1 dX12_rank__114 hl (by decide) rfl (fun ls hl => ?_)
        refine lv_iinc (v := (x7 + 1)) (lv' := [(7, .int (x7 + 1)), (6, .int v21), (0, .ref (b + a0)), (1, .int x1), (2, .int x2), (3, .int x3), (4, .int x4), (5, .int x5)]) S.1 S.2.1 dX12_rank__116 hl (k := 7) rfl (congrArg (fun z => x7 + z) (by decide)) (by decide) rfl (fun ls hl => ?_)
        refine lv_goto (tgt := 79) S.1 S.2.1 dX12_rank__119 (by decide) ?_
        exact ih f I (lv_sub hl [2, 3, 4, 5, 6, 7, 1, 0] rfl)
set_option maxHeartbeats 4000000 in
set_option maxRecDepth 100000 in
theorem T12_rank__34 (S : CallFix p m c cX12_rank_ 8 s args vX12_rank_ RX12) (hr : meth.sig.returnType = (some .int)) (hlo : meth.locks = false) {out : Int32 × PH} : ∀ (n : Nat) {h : PH} {a0 : Nat} {x1 : Int32} {x2 : Int32} {x3 : Int32} {x4 : Int32} {x5 : Int32} (f : F12_rank__34  n h a0 x1 x2 x3 x4 x5 = some out) {H : Heap} {locs : List Loc} (I : ph_I D cy b A fl h s H locs) {ls : Array Slot} (hl : lv_has ls 8 [(0, .ref (b + a0)), (1, .int x1), (2, .int x2), (3, .int x3), (4, .int x4), (5, .int x5)]), W p l e ({ frames := 1, cells := 0, slots := 0, locals := 22 } : Room) s m args below meth c H locs 0 0 (MQ below (va_Qi (fun (r : Int32) (u : PH) => (r, u) = out) (ph_B D cy b A fl) A) args s 0 0 A) (F0 m 34 ls []) := by
  intro n
  induction n with
  | zero => intro h a0 x1 x2 x3 x4 x5 f; rw [F12_rank__34] at f; cases f
  | succ n ih =>
    intro h a0 x1 x2 x3 x4 x5 f H locs I ls hl
    rw [F12_rank__34] at f
    refine lv_iload S.1 S.2.1 dX12_rank__34 (lv_at hl 5 rfl) ?_
    refine lv_aload_n S.1 S.2.1 dX12_rank__36 rfl (lv_at hl 0 rfl) ?_
    obtain ⟨v1, e2, f⟩ := ob f
    refine o_gI S lf12_rank__250 I e2 dX12_rank__37 ?_
    refine lv_icmp_ge (tgt := 159) S.1 S.2.1 dX12_rank__40 (by decide) (fun q3 => ?_) (fun q3 => ?_)
    · have f := (if_pos q3).symm.trans f
      refine lv_iload_n S.1 S.2.1 dX12_rank__159 rfl (lv_at hl 2 rfl) ?_
      refine lv_if_ne (tgt := 168) S.1 S.2.1 dX12_rank__160 (by decide) (fun q4 => ?_) (fun q4 => ?_)
      · have f := (if_neg q4).symm.trans f
        refine lv_iload_n S.1 S.2.1 dX12_rank__168 rfl (lv_at hl 3 rfl) ?_
        exact o_iret S hr hlo I f dX12_rank__169
      · have f := (if_pos q4).symm.trans f
        refine lv_iload S.1 S.2.1 dX12_rank__163 (lv_at hl 4 rfl) ?_
        refine lv_goto (tgt := 169) S.1 S.2.1 dX12_rank__165 (by decide) ?_
        exact o_iret S hr hlo I f dX12_rank__169
    · have f := (if_neg q3).symm.trans f
      refine lv_aload_n S.1 S.2.1 dX12_rank__43 rfl (lv_at hl 0 rfl) ?_
      refine lv_iload S.1 S.2.1 dX12_rank__44 (lv_at hl 5 rfl) ?_
      obtain ⟨o5, e6, f⟩ := ob f
      refine o_Vi S (As := [.int x5]) (rest := []) (ci := 12) (M12_setEnd l D cy b A fl e6) gX12_rank__X12_setEnd rfl rfl rfl cd12_setEnd ⟨Nat.le_of_ble_eq_true rfl, Nat.le_of_ble_eq_true rfl⟩ I (gd e6).1 clX12 rfl rfl hl.1 rfl (Nat.le_of_ble_eq_true rfl) dX12_rank__46 ⟨Nat.le_of_ble_eq_true rfl, Nat.le_of_ble_eq_true rfl⟩ (fun H locs I => ?_)
      refine lv_aload_n S.1 S.2.1 dX12_rank__49 rfl (lv_at hl 0 rfl) ?_
      obtain ⟨r7, e8, f⟩ := ob f
      refine o_gR S lf12_rank__45 I e8 dX12_rank__50 ?_
      refine lv_iload S.1 S.2.1 dX12_rank__53 (lv_at hl 5 rfl) ?_
      obtain ⟨v10, e9, f⟩ := ob f
      refine o_iald S I e9 dX12_rank__55 ?_
      refine lv_isub S.1 S.2.1 dX12_rank__56 ?_
      refine lv_iload_n S.1 S.2.1 dX12_rank__57 rfl (lv_at hl 1 rfl) ?_
      refine lv_icmp_ge (tgt := 64) S.1 S.2.1 dX12_rank__58 (by decide) (fun q11 => ?_) (fun q11 => ?_)
      · have f := (if_pos q11).symm.trans f
        refine lv_iinc (v := (x3 + 1)) (lv' := [(3, .int (x3 + 1)), (0, .ref (b + a0)), (1, .int x1), (2, .int x2), (4, .int x4), (5, .int x5)]) S.1 S.2.1 dX12_rank__64 hl (k := 3) rfl (congrArg (fun z => x3 + z) (by decide)) (by decide) rfl (fun ls hl => ?_)
        refine lv_iconst (v := 0) S.1 S.2.1 dX12_rank__67 (by decide) ?_
        refine lv_istore (lv' := [(6, .int 0), (3, .int (x3 + 1)), (0, .ref (b + a0)), (1, .int x1), (2, .int x2), (4, .int x4), (5, .int x5)]) S.1 S.2.1 dX12_rank__68 hl (by decide) rfl (fun ls hl => ?_)
        refine lv_aload_n S.1 S.2.1 dX12_rank__70 rfl (lv_at hl 2 rfl) ?_
        obtain ⟨r12, e13, f⟩ := ob f
        refine o_gR S lf12_rank__45 I e13 dX12_rank__71 ?_
        refine lv_iload S.1 S.2.1 dX12_rank__74 (lv_at hl 6 rfl) ?_
        obtain ⟨v15, e14, f⟩ := ob f
        refine o_iald S I e14 dX12_rank__76 ?_
        refine lv_istore (lv' := [(7, .int v15), (6, .int 0), (3, .int (x3 + 1)), (0, .ref (b + a0)), (1, .int x1), (2, .int x2), (4, .int x4), (5, .int x5)]) S.1 S.2.1 dX12_rank__77 hl (by decide) rfl (fun ls hl => ?_)
        exact T12_rank__79 S hr hlo (fun f _ _ I _ hl => ih f I hl) 1024 f I (lv_sub hl [3, 4, 5, 2, 6, 7, 1, 0] rfl)
      · have f := (if_neg q11).symm.trans f
        refine lv_goto (tgt := 153) S.1 S.2.1 dX12_rank__61 (by decide) ?_
        refine lv_iinc (v := (x5 + 1)) (lv' := [(5, .int (x5 + 1)), (0, .ref (b + a0)), (1, .int x1), (2, .int x2), (3, .int x3), (4, .int x4)]) S.1 S.2.1 dX12_rank__153 hl (k := 5) rfl (congrArg (fun z => x5 + z) (by decide)) (by decide) rfl (fun ls hl => ?_)
        refine lv_goto (tgt := 34) S.1 S.2.1 dX12_rank__156 (by decide) ?_
        exact ih f I (lv_sub hl [1, 2, 3, 4, 5, 0] rfl)
set_option maxHeartbeats 4000000 in
set_option maxRecDepth 100000 in
theorem T12_rank__0 (S : CallFix p m c cX12_rank_ 8 s args vX12_rank_ RX12) (hr : meth.sig.returnType = (some .int)) (hlo : meth.locks = false) {out : Int32 × PH} {h : PH} {a0 : Nat} {x1 : Int32} {x2 : Int32} (f : F12_rank__0  h a0 x1 x2 = some out) {H : Heap} {locs : List Loc} (I : ph_I D cy b A fl h s H locs) {ls : Array Slot} (hl : lv_has ls 8 [(0, .ref (b + a0)), (1, .int x1), (2, .int x2)]) : W p l e ({ frames := 1, cells := 0, slots := 0, locals := 22 } : Room) s m args below meth c H locs 0 0 (MQ below (va_Qi (fun (r : Int32) (u : PH) => (r, u) = out) (ph_B D cy b A fl) A) args s 0 0 A) (F0 m 0 ls []) := by
  unfold F12_rank__0 at f
  refine lv_aload_n S.1 S.2.1 dX12_rank__0 rfl (lv_at hl 0 rfl) ?_
  refine lv_iconst (v := 0) S.1 S.2.1 dX12_rank__1 (by decide) ?_
  obtain ⟨h1, e2, f⟩ := ob f
  refine o_pI S lp12_rank__154 I e2 dX12_rank__2 (fun H locs I => ?_)
  refine lv_iload_n S.1 S.2.1 dX12_rank__5 rfl (lv_at hl 1 rfl) ?_
  refine lv_iconst (v := 1) S.1 S.2.1 dX12_rank__6 (by decide) ?_
  refine lv_bipush (v := 7) S.1 S.2.1 dX12_rank__7 (by decide) ?_
  obtain ⟨o3, e4, f⟩ := ob f
  refine o_Si S (As := [.int x1, .int 1, .int 7]) (rest := []) (M12_isIn l D cy b A fl e4) gX12_rank__X12_isIn rfl rfl rfl cd12_isIn ⟨Nat.le_of_ble_eq_true rfl, Nat.le_of_ble_eq_true rfl⟩ I rfl hl.1 rfl (Nat.le_of_ble_eq_true rfl) dX12_rank__9 ⟨Nat.le_of_ble_eq_true rfl, Nat.le_of_ble_eq_true rfl⟩ (fun H locs I => ?_)
  refine lv_if_eq (tgt := 24) S.1 S.2.1 dX12_rank__12 (by decide) (fun q5 => ?_) (fun q5 => ?_)
  · have f := (if_pos q5).symm.trans f
    refine lv_iconst (v := (-1)) S.1 S.2.1 dX12_rank__24 (by decide) ?_
    exact o_iret S hr hlo I f dX12_rank__25
  · have f := (if_neg q5).symm.trans f
    refine lv_iload_n S.1 S.2.1 dX12_rank__15 rfl (lv_at hl 2 rfl) ?_
    refine lv_iconst (v := 0) S.1 S.2.1 dX12_rank__16 (by decide) ?_
    refine lv_iconst (v := 1) S.1 S.2.1 dX12_rank__17 (by decide) ?_
    obtain ⟨o6, e7, f⟩ := ob f
    refine o_Si S (As := [.int x2, .int 0, .int 1]) (rest := []) (M12_isIn l D cy b A fl e7) gX12_rank__X12_isIn rfl rfl rfl cd12_isIn ⟨Nat.le_of_ble_eq_true rfl, Nat.le_of_ble_eq_true rfl⟩ I rfl hl.1 rfl (Nat.le_of_ble_eq_true rfl) dX12_rank__18 ⟨Nat.le_of_ble_eq_true rfl, Nat.le_of_ble_eq_true rfl⟩ (fun H locs I => ?_)
    refine lv_if_ne (tgt := 26) S.1 S.2.1 dX12_rank__21 (by decide) (fun q8 => ?_) (fun q8 => ?_)
    · have f := (if_neg q8).symm.trans f
      refine lv_iconst (v := 0) S.1 S.2.1 dX12_rank__26 (by decide) ?_
      refine lv_istore_n (lv' := [(3, .int 0), (0, .ref (b + a0)), (1, .int x1), (2, .int x2)]) S.1 S.2.1 dX12_rank__27 rfl hl (by decide) rfl (fun ls hl => ?_)
      refine lv_iconst (v := 0) S.1 S.2.1 dX12_rank__28 (by decide) ?_
      refine lv_istore (lv' := [(4, .int 0), (3, .int 0), (0, .ref (b + a0)), (1, .int x1), (2, .int x2)]) S.1 S.2.1 dX12_rank__29 hl (by decide) rfl (fun ls hl => ?_)
      refine lv_iconst (v := 0) S.1 S.2.1 dX12_rank__31 (by decide) ?_
      refine lv_istore (lv' := [(5, .int 0), (4, .int 0), (3, .int 0), (0, .ref (b + a0)), (1, .int x1), (2, .int x2)]) S.1 S.2.1 dX12_rank__32 hl (by decide) rfl (fun ls hl => ?_)
      exact T12_rank__34 S hr hlo  1024 f I (lv_sub hl [3, 4, 5, 2, 1, 0] rfl)
    · have f := (if_pos q8).symm.trans f
      refine lv_iconst (v := (-1)) S.1 S.2.1 dX12_rank__24 (by decide) ?_
      exact o_iret S hr hlo I f dX12_rank__25
theorem M12_rank_ (l : Launch) (D : va_G) (cy : Nat → ClassId) (b : Nat) (A : Nat → Prop) (fl : Bool) {h : PH} {a0 : Nat} {x1 : Int32} {x2 : Int32} {out : Int32 × PH} (f : F12_rank_ h a0 x1 x2 = some out) : Met l yX12_rank_ vX12_rank_ ({ frames := 1, cells := 0, slots := 0, locals := 22 } : Room) (va_Pc [.ref (b + a0), .int x1, .int x2] (ph_B D cy b A fl h)) (va_Qi (fun (r : Int32) (u : PH) => (r, u) = out) (ph_B D cy b A fl) A) 0 0 A :=
  o_met (by decide) rfl (Nat.le_of_ble_eq_true rfl) rfl (fun p e s m below meth c S hr hlo hnm ls hl I => T12_rank__0 S hr hlo ((gd f).2) I (lv_sub hl [0, 1, 2] rfl))
def vX12_remember : List Cond := .code yX12_remember cX12_remember 2 none :: TB
theorem lf12_remember_142 : Fl vX12_remember RX12 142 12 79 := ⟨RX12, TX12, 87, rfl, by decide, (fun w h9 => List.mem_cons_of_mem _ (wC_wsX120 w h9)), (List.mem_cons_of_mem _ wT_11_16)⟩
theorem lf12_remember_379 : Fl vX12_remember RX12 379 12 78 := ⟨RX12, TX12, 87, rfl, by decide, (fun w h9 => List.mem_cons_of_mem _ (wC_wsX120 w h9)), (List.mem_cons_of_mem _ wT_13_2)⟩
theorem lf12_remember_369 : Fl vX12_remember RX12 369 12 64 := ⟨RX12, TX12, 87, rfl, by decide, (fun w h9 => List.mem_cons_of_mem _ (wC_wsX120 w h9)), (List.mem_cons_of_mem _ wT_12_23)⟩
theorem lp12_remember_379 : Pl vX12_remember RX12 379 12 78 .int := ⟨RX12, TX12, 87, tyX12, rfl, by decide, (fun w h9 => List.mem_cons_of_mem _ (wC_wsX120 w h9)), (List.mem_cons_of_mem _ wT_13_2), tyX12_ok, nmX12, rfl, rfl⟩
theorem lf12_remember_88 : Fl vX12_remember RX12 88 12 55 := ⟨RX12, TX12, 87, rfl, by decide, (fun w h9 => List.mem_cons_of_mem _ (wC_wsX120 w h9)), (List.mem_cons_of_mem _ wT_10_22)⟩
theorem lf12_remember_100 : Fl vX12_remember RX12 100 12 59 := ⟨RX12, TX12, 87, rfl, by decide, (fun w h9 => List.mem_cons_of_mem _ (wC_wsX120 w h9)), (List.mem_cons_of_mem _ wT_11_2)⟩
theorem cd12_remember : Cd yX12_remember 0 := ⟨by decide, by decide, by decide +kernel⟩
set_option maxHeartbeats 4000000 in
set_option maxRecDepth 100000 in
theorem T12_remember_51 (S : CallFix p m c cX12_remember 2 s args vX12_remember RX12) (hr : meth.sig.returnType = none) (hlo : meth.locks = false) {out : PH} : ∀ (n : Nat) {h : PH} {a0 : Nat} {x1 : Int32} (f : F12_remember_51  n h a0 x1 = some out) {H : Heap} {locs : List Loc} (I : ph_I D cy b A fl h s H locs) {ls : Array Slot} (hl : lv_has ls 2 [(0, .ref (b + a0)), (1, .int x1)]), W p l e ({ frames := 0, cells := 0, slots := 0, locals := 0 } : Room) s m args below meth c H locs 0 0 (MQ below (va_Qv (fun (u : PH) => u = out) (ph_B D cy b A fl) A) args s 0 0 A) (F0 m 51 ls []) := by
  intro n
  induction n with
  | zero => intro h a0 x1 f; rw [F12_remember_51] at f; cases f
  | succ n ih =>
    intro h a0 x1 f H locs I ls hl
    rw [F12_remember_51] at f
    refine lv_iload_n S.1 S.2.1 dX12_remember_51 rfl (lv_at hl 1 rfl) ?_
    refine lv_iconst (v := 5) S.1 S.2.1 dX12_remember_52 (by decide) ?_
    refine lv_icmp_ge (tgt := 104) S.1 S.2.1 dX12_remember_53 (by decide) (fun q1 => ?_) (fun q1 => ?_)
    · have f := (if_pos q1).symm.trans f
      refine lv_aload_n S.1 S.2.1 dX12_remember_104 rfl (lv_at hl 0 rfl) ?_
      obtain ⟨r2, e3, f⟩ := ob f
      refine o_gR S lf12_remember_142 I e3 dX12_remember_105 ?_
      refine lv_bipush (v := 11) S.1 S.2.1 dX12_remember_108 (by decide) ?_
      refine lv_aload_n S.1 S.2.1 dX12_remember_110 rfl (lv_at hl 0 rfl) ?_
      obtain ⟨v4, e5, f⟩ := ob f
      refine o_gI S lf12_remember_379 I e5 dX12_remember_111 ?_
      refine lv_imul S.1 S.2.1 dX12_remember_114 ?_
      refine lv_bipush (v := 10) S.1 S.2.1 dX12_remember_115 (by decide) ?_
      refine lv_iadd S.1 S.2.1 dX12_remember_117 ?_
      refine lv_aload_n S.1 S.2.1 dX12_remember_118 rfl (lv_at hl 0 rfl) ?_
      obtain ⟨v6, e7, f⟩ := ob f
      refine o_gI S lf12_remember_369 I e7 dX12_remember_119 ?_
      obtain ⟨h9, e8, f⟩ := ob f
      refine o_iast S I e8 dX12_remember_122 (fun H locs I => ?_)
      refine lv_aload_n S.1 S.2.1 dX12_remember_123 rfl (lv_at hl 0 rfl) ?_
      refine lv_dup S.1 S.2.1 dX12_remember_124 rfl ?_
      obtain ⟨v10, e11, f⟩ := ob f
      refine o_gI S lf12_remember_379 I e11 dX12_remember_125 ?_
      refine lv_iconst (v := 1) S.1 S.2.1 dX12_remember_128 (by decide) ?_
      refine lv_iadd S.1 S.2.1 dX12_remember_129 ?_
      obtain ⟨h12, e13, f⟩ := ob f
      refine o_pI S lp12_remember_379 I e13 dX12_remember_130 (fun H locs I => ?_)
      exact o_vret S hr hlo I f dX12_remember_133
    · have f := (if_neg q1).symm.trans f
      refine lv_aload_n S.1 S.2.1 dX12_remember_56 rfl (lv_at hl 0 rfl) ?_
      obtain ⟨r14, e15, f⟩ := ob f
      refine o_gR S lf12_remember_142 I e15 dX12_remember_57 ?_
      refine lv_bipush (v := 11) S.1 S.2.1 dX12_remember_60 (by decide) ?_
      refine lv_aload_n S.1 S.2.1 dX12_remember_62 rfl (lv_at hl 0 rfl) ?_
      obtain ⟨v16, e17, f⟩ := ob f
      refine o_gI S lf12_remember_379 I e17 dX12_remember_63 ?_
      refine lv_imul S.1 S.2.1 dX12_remember_66 ?_
      refine lv_iload_n S.1 S.2.1 dX12_remember_67 rfl (lv_at hl 1 rfl) ?_
      refine lv_iadd S.1 S.2.1 dX12_remember_68 ?_
      refine lv_aload_n S.1 S.2.1 dX12_remember_69 rfl (lv_at hl 0 rfl) ?_
      obtain ⟨r18, e19, f⟩ := ob f
      refine o_gR S lf12_remember_88 I e19 dX12_remember_70 ?_
      refine lv_iload_n S.1 S.2.1 dX12_remember_73 rfl (lv_at hl 1 rfl) ?_
      obtain ⟨v21, e20, f⟩ := ob f
      refine o_iald S I e20 dX12_remember_74 ?_
      obtain ⟨h23, e22, f⟩ := ob f
      refine o_iast S I e22 dX12_remember_75 (fun H locs I => ?_)
      refine lv_aload_n S.1 S.2.1 dX12_remember_76 rfl (lv_at hl 0 rfl) ?_
      obtain ⟨r24, e25, f⟩ := ob f
      refine o_gR S lf12_remember_142 I e25 dX12_remember_77 ?_
      refine lv_bipush (v := 11) S.1 S.2.1 dX12_remember_80 (by decide) ?_
      refine lv_aload_n S.1 S.2.1 dX12_remember_82 rfl (lv_at hl 0 rfl) ?_
      obtain ⟨v26, e27, f⟩ := ob f
      refine o_gI S lf12_remember_379 I e27 dX12_remember_83 ?_
      refine lv_imul S.1 S.2.1 dX12_remember_86 ?_
      refine lv_iconst (v := 5) S.1 S.2.1 dX12_remember_87 (by decide) ?_
      refine lv_iadd S.1 S.2.1 dX12_remember_88 ?_
      refine lv_iload_n S.1 S.2.1 dX12_remember_89 rfl (lv_at hl 1 rfl) ?_
      refine lv_iadd S.1 S.2.1 dX12_remember_90 ?_
      refine lv_aload_n S.1 S.2.1 dX12_remember_91 rfl (lv_at hl 0 rfl) ?_
      obtain ⟨r28, e29, f⟩ := ob f
      refine o_gR S lf12_remember_100 I e29 dX12_remember_92 ?_
      refine lv_iload_n S.1 S.2.1 dX12_remember_95 rfl (lv_at hl 1 rfl) ?_
      obtain ⟨v31, e30, f⟩ := ob f
      refine o_iald S I e30 dX12_remember_96 ?_
      obtain ⟨h33, e32, f⟩ := ob f
      refine o_iast S I e32 dX12_remember_97 (fun H locs I => ?_)
      refine lv_iinc (v := (x1 + 1)) (lv' := [(1, .int (x1 + 1)), (0, .ref (b + a0))]) S.1 S.2.1 dX12_remember_98 hl (k := 1) rfl (congrArg (fun z => x1 + z) (by decide)) (by decide) rfl (fun ls hl => ?_)
      refine lv_goto (tgt := 51) S.1 S.2.1 dX12_remember_101 (by decide) ?_
      exact ih f I (lv_sub hl [1, 0] rfl)
set_option maxHeartbeats 4000000 in
set_option maxRecDepth 100000 in
theorem T12_remember_11 (S : CallFix p m c cX12_remember 2 s args vX12_remember RX12) (hr : meth.sig.returnType = none) (hlo : meth.locks = false) {out : PH} : ∀ (n : Nat) {h : PH} {a0 : Nat} {x1 : Int32} (f : F12_remember_11  n h a0 x1 = some out) {H : Heap} {locs : List Loc} (I : ph_I D cy b A fl h s H locs) {ls : Array Slot} (hl : lv_has ls 2 [(0, .ref (b + a0)), (1, .int x1)]), W p l e ({ frames := 0, cells := 0, slots := 0, locals := 0 } : Room) s m args below meth c H locs 0 0 (MQ below (va_Qv (fun (u : PH) => u = out) (ph_B D cy b A fl) A) args s 0 0 A) (F0 m 11 ls []) := by
  intro n
  induction n with
  | zero => intro h a0 x1 f; rw [F12_remember_11] at f; cases f
  | succ n ih =>
    intro h a0 x1 f H locs I ls hl
    rw [F12_remember_11] at f
    refine lv_iload_n S.1 S.2.1 dX12_remember_11 rfl (lv_at hl 1 rfl) ?_
    refine lv_sipush (v := 209) S.1 S.2.1 dX12_remember_12 (by decide) ?_
    refine lv_icmp_ge (tgt := 39) S.1 S.2.1 dX12_remember_15 (by decide) (fun q1 => ?_) (fun q1 => ?_)
    · have f := (if_pos q1).symm.trans f
      refine lv_aload_n S.1 S.2.1 dX12_remember_39 rfl (lv_at hl 0 rfl) ?_
      refine lv_dup S.1 S.2.1 dX12_remember_40 rfl ?_
      obtain ⟨v2, e3, f⟩ := ob f
      refine o_gI S lf12_remember_379 I e3 dX12_remember_41 ?_
      refine lv_iconst (v := 1) S.1 S.2.1 dX12_remember_44 (by decide) ?_
      refine lv_isub S.1 S.2.1 dX12_remember_45 ?_
      obtain ⟨h4, e5, f⟩ := ob f
      refine o_pI S lp12_remember_379 I e5 dX12_remember_46 (fun H locs I => ?_)
      refine lv_iconst (v := 0) S.1 S.2.1 dX12_remember_49 (by decide) ?_
      refine lv_istore_n (lv' := [(1, .int 0), (0, .ref (b + a0))]) S.1 S.2.1 dX12_remember_50 rfl hl (by decide) rfl (fun ls hl => ?_)
      exact T12_remember_51 S hr hlo  1024 f I (lv_sub hl [1, 0] rfl)
    · have f := (if_neg q1).symm.trans f
      refine lv_aload_n S.1 S.2.1 dX12_remember_18 rfl (lv_at hl 0 rfl) ?_
      obtain ⟨r6, e7, f⟩ := ob f
      refine o_gR S lf12_remember_142 I e7 dX12_remember_19 ?_
      refine lv_iload_n S.1 S.2.1 dX12_remember_22 rfl (lv_at hl 1 rfl) ?_
      refine lv_aload_n S.1 S.2.1 dX12_remember_23 rfl (lv_at hl 0 rfl) ?_
      obtain ⟨r8, e9, f⟩ := ob f
      refine o_gR S lf12_remember_142 I e9 dX12_remember_24 ?_
      refine lv_iload_n S.1 S.2.1 dX12_remember_27 rfl (lv_at hl 1 rfl) ?_
      refine lv_bipush (v := 11) S.1 S.2.1 dX12_remember_28 (by decide) ?_
      refine lv_iadd S.1 S.2.1 dX12_remember_30 ?_
      obtain ⟨v11, e10, f⟩ := ob f
      refine o_iald S I e10 dX12_remember_31 ?_
      obtain ⟨h13, e12, f⟩ := ob f
      refine o_iast S I e12 dX12_remember_32 (fun H locs I => ?_)
      refine lv_iinc (v := (x1 + 1)) (lv' := [(1, .int (x1 + 1)), (0, .ref (b + a0))]) S.1 S.2.1 dX12_remember_33 hl (k := 1) rfl (congrArg (fun z => x1 + z) (by decide)) (by decide) rfl (fun ls hl => ?_)
      refine lv_goto (tgt := 11) S.1 S.2.1 dX12_remember_36 (by decide) ?_
      exact ih f I (lv_sub hl [1, 0] rfl)
set_option maxHeartbeats 4000000 in
set_option maxRecDepth 100000 in
theorem T12_remember_0 (S : CallFix p m c cX12_remember 2 s args vX12_remember RX12) (hr : meth.sig.returnType = none) (hlo : meth.locks = false) {out : PH} {h : PH} {a0 : Nat} (f : F12_remember_0  h a0 = some out) {H : Heap} {locs : List Loc} (I : ph_I D cy b A fl h s H locs) {ls : Array Slot} (hl : lv_has ls 2 [(0, .ref (b + a0))]) : W p l e ({ frames := 0, cells := 0, slots := 0, locals := 0 } : Room) s m args below meth c H locs 0 0 (MQ below (va_Qv (fun (u : PH) => u = out) (ph_B D cy b A fl) A) args s 0 0 A) (F0 m 0 ls []) := by
  unfold F12_remember_0 at f
  refine lv_aload_n S.1 S.2.1 dX12_remember_0 rfl (lv_at hl 0 rfl) ?_
  obtain ⟨v1, e2, f⟩ := ob f
  refine o_gI S lf12_remember_379 I e2 dX12_remember_1 ?_
  refine lv_bipush (v := 20) S.1 S.2.1 dX12_remember_4 (by decide) ?_
  refine lv_icmp_ne (tgt := 49) S.1 S.2.1 dX12_remember_6 (by decide) (fun q3 => ?_) (fun q3 => ?_)
  · have f := (if_neg q3).symm.trans f
    refine lv_iconst (v := 0) S.1 S.2.1 dX12_remember_49 (by decide) ?_
    refine lv_istore_n (lv' := [(1, .int 0), (0, .ref (b + a0))]) S.1 S.2.1 dX12_remember_50 rfl hl (by decide) rfl (fun ls hl => ?_)
    exact T12_remember_51 S hr hlo  1024 f I (lv_sub hl [1, 0] rfl)
  · have f := (if_pos q3).symm.trans f
    refine lv_iconst (v := 0) S.1 S.2.1 dX12_remember_9 (by decide) ?_
    refine lv_istore_n (lv' := [(1, .int 0), (0, .ref (b + a0))]) S.1 S.2.1 dX12_remember_10 rfl hl (by decide) rfl (fun ls hl => ?_)
    exact T12_remember_11 S hr hlo  1024 f I (lv_sub hl [1, 0] rfl)
theorem M12_remember (l : Launch) (D : va_G) (cy : Nat → ClassId) (b : Nat) (A : Nat → Prop) (fl : Bool) {h : PH} {a0 : Nat} {out : PH} (f : F12_remember h a0 = some out) : Met l yX12_remember vX12_remember ({ frames := 0, cells := 0, slots := 0, locals := 0 } : Room) (va_Pc [.ref (b + a0)] (ph_B D cy b A fl h)) (va_Qv (fun (u : PH) => u = out) (ph_B D cy b A fl) A) 0 0 A :=
  o_met (by decide) rfl (Nat.le_of_ble_eq_true rfl) rfl (fun p e s m below meth c S hr hlo hnm ls hl I => T12_remember_0 S hr hlo ((gd f).2) I (lv_sub hl [0] rfl))
end
