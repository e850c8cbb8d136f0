/-! look: on a new object the class throws, the law's own look catches it. -/
theorem wC_wsx0 : ∀ w ∈ wsx0, w ∈ TB := fun w h => (List.mem_append_right _ (List.mem_append_right _ (List.mem_append_right _ (List.mem_append_right _ (List.mem_append_right _ (List.mem_append_right _ (List.mem_append_left _ h)))))))
def xnames : List String := ["java/lang/RuntimeException", "java/lang/Exception"]
theorem dX11_look_0 : decode cX11_look 0 = .ok (.aload_n 0, 1) := by decide +kernel
theorem dX11_look_1 : decode cX11_look 1 = .ok (.iload_n 1, 1) := by decide +kernel
theorem dX11_look_2 : decode cX11_look 2 = .ok (.invokevirtual 115, 3) := by decide +kernel
theorem dX11_look_5 : decode cX11_look 5 = .ok (.ifCond .ne 11, 3) := by decide +kernel
theorem dX11_look_8 : decode cX11_look 8 = .ok (.new 119, 3) := by decide +kernel
theorem dX11_look_11 : decode cX11_look 11 = .ok (.dup, 1) := by decide +kernel
theorem dX11_look_12 : decode cX11_look 12 = .ok (.invokespecial 121, 3) := by decide +kernel
theorem dX11_look_15 : decode cX11_look 15 = .ok (.athrow, 1) := by decide +kernel
def vX11_look : List Cond := .code yX11_look cX11_look 3 (some .int) :: TB
theorem gX11_look_isSurfer : GoodIn vX11_look (wsV RX11 115 RX11 yX11_isSurfer vX11_isSurfer) := gV_of wT_33_17 wT_33_18 wT_33_19 wT_1_2 wT_33_20
theorem cdX11_isSurfer : Cd yX11_isSurfer 1 := ⟨by decide, by decide, by decide +kernel⟩
def xd1 : MethodName := Bundle.init0 "java/lang/RuntimeException"
def xd2 : MethodName := Bundle.init0 "java/lang/Exception"
def xd3 : MethodName := Bundle.init0 Bundle.tN
def DW (U : State) : Prop := va_Nw (.declares xd1) U ∧ va_Nw (.declares xd2) U ∧ va_Nw (.declares xd3) U
theorem DW_move {s U : State} (h : DW s) (hW : s.WarmedH U.vm) : DW U := ⟨va_Nw.warmD hW h.1, va_Nw.warmD hW h.2.1, va_Nw.warmD hW h.2.2⟩
def PB (D : va_G) (cy : Nat → ClassId) (b : Nat) (A : Nat → Prop) (h : PH) (U : State) : Prop := ph_B D cy b A false h U ∧ DW U
theorem PB_blind (D : va_G) (cy : Nat → ClassId) (b : Nat) (A : Nat → Prop) (h : PH) (av : List Value) : FrameBlind (va_Pc av (PB D cy b A h)) := by
  intro a U g mk q
  obtain ⟨q0, q1, q2⟩ := q
  have k := ph_B_blind D cy b A false h av a U g mk ⟨q0, q1⟩
  exact ⟨q0, k.2, DW_move (U := U.calling g mk a) q2 (State.WarmedH.refl U)⟩
theorem xot : ∀ w ∈ Cond.classLink RX11 119 ph_E1 :: Cond.initialized ph_E1 :: vx_at0 RX11 121 ph_E1 xnames, vx_ot w = true := by decide +kernel
theorem xcst : ∀ w ∈ (vx_at0 RX11 121 ph_E1 xnames).filter (fun w => !goodWord w), w ∈ [Cond.castable ph_E1 ph_E1, .declares xd1, .declares xd2, .declares xd3] := by decide +kernel
set_option maxHeartbeats 4000000 in
theorem M11_lookT (l : Launch) (hl0 : l.stackTraces = false) (D : va_G) (cy : Nat → ClassId) (b : Nat) (A : Nat → Prop) {h : PH} {x1 x2 : Int32} (ho : okO h 0 11 = true) (f : F11_isSurfer h 0 x1 = some (0, h)) : vx_Met l yX11_look vX11_look ({ frames := 6, cells := 1, slots := 6, locals := 120 } : Room) (va_Pc [.ref (b + 0), .int x1, .int x2] (PB D cy b A h)) (va_Qi (fun (_ : Int32) (_ : PH) => False) (ph_B D cy b A false) A) (vx_X (fun _ : PH => True) (fun E _ _ => E = ph_E1) A) 1 6 A := by
  refine vx_ofW (cc := cX11_look) (maxL := 3) (ret := some .int) (by decide) rfl ?_
  intro p e s m args below meth c s₁ B hml hno hv
  obtain ⟨rfl, ⟨hP, hK, hA, hz, hX⟩, hD⟩ := hv
  have hts := atoms_spec (ws := vX11_look) B.pre
  have hown : s.vm.findClass RX11 = some m.cls := findClass_of_methodNamed B.named
  have S : CallFix p m c cX11_look 3 s [Value.ref (b + 0), .int x1, .int x2].toArray vX11_look RX11 := ⟨B.exec, B.bytes, hml, hown, hts⟩
  have I : ph_I D cy b A false h s s.heap [] := ⟨hP, hK, va_S.rf, hA, hz, hX⟩
  have hl := lv_entry ([.ref (b + 0), .int x1, .int x2]) (n := 3) (Nat.le_of_ble_eq_true rfl)
  rw [lg_entry_eq]
  generalize (lg_sl ([.ref (b + 0), .int x1, .int x2]) ++ List.replicate (3 - (lg_sl ([.ref (b + 0), .int x1, .int x2])).length) Slot.unset).toArray = ls at hl ⊢
  have hl : lv_has ls 3 [(0, .ref (b + 0)), (1, .int x1), (2, .int x2)] := hl
  refine lv_aload_n S.1 S.2.1 dX11_look_0 rfl (lv_at hl 0 rfl) ?_
  refine lv_iload_n S.1 S.2.1 dX11_look_1 rfl (lv_at hl 1 rfl) ?_
  refine o_Vi (As := [.int x1]) S (M11_isSurfer l D cy b A false f) gX11_look_isSurfer rfl rfl rfl cdX11_isSurfer ⟨Nat.le_of_ble_eq_true rfl, Nat.le_of_ble_eq_true rfl⟩ I ho clX11 rfl rfl hl.1 rfl (Nat.le_of_ble_eq_true rfl) dX11_look_2 ⟨Nat.le_of_ble_eq_true rfl, Nat.le_of_ble_eq_true rfl⟩ (fun H1 locs1 I => ?_)
  refine lv_if_ne (tgt := 16) S.1 S.2.1 dX11_look_5 (by decide) (fun z => absurd rfl z) (fun _ => ?_)
  have hc : (Cond.castable ph_E1 ph_E1).before [Value.ref (b + 0), .int x1, .int x2].toArray s = true := va_tabs rfl rfl hX.2.2.2.2.2.2.2.1
  refine vx_throw0 (A := A) (cls := ph_E1) (names := xnames) S.1 S.2.1 hl0 hown (by decide) (by decide) (hts _ (List.mem_cons_of_mem _ wT_33_7)) (hts _ (List.mem_cons_of_mem _ wT_33_8)) (vx_hat (fun w hw => hts w (List.mem_cons_of_mem _ (wC_wsx0 w hw))) xcst (vx_c hc (vx_c (va_tabs rfl rfl hD.1) (vx_c (va_tabs rfl rfl hD.2.1) (vx_c (va_tabs rfl rfl hD.2.2) vx_n))))) xot hX.2.2.2.2.2.1 hX.2.2.2.2.2.2.1 I.2.2.1 (by rw [hml]; exact hl.1) dX11_look_8 dX11_look_11 dX11_look_12 dX11_look_15 (fun x hx => (hno x hx).elim) (Nat.le_of_ble_eq_true rfl) (Nat.le_of_ble_eq_true rfl) (Nat.le_of_ble_eq_true rfl) (Nat.le_of_ble_eq_true rfl) B.notSynchronized (fun t hvm hsz hsm => ⟨h, trivial, rfl, ⟨Nat.le_trans I.2.2.1.1 hsz, fun q h1 h2 => (hsm q (Nat.lt_of_lt_of_le h1 I.2.2.1.1)).trans (I.2.2.1.2.1 q h1 h2)⟩⟩) (fun z hz => I.2.2.1.2.2 z hz) (Nat.le_of_ble_eq_true rfl) (Nat.le_of_ble_eq_true rfl)
def vL_look : List Cond := .codeWith yL_look cL_look 5 (some .int) [(0, 10, 13, 13), (0, 10, 17, 15)] :: TB
theorem gL_look_X11 : GoodIn vL_look (wsV RL 7 RX11 yX11_look vX11_look) := gV_of wT_33_3 wT_33_4 wT_33_5 wT_1_2 wT_33_6
theorem cdX11_look : Cd yX11_look 2 := ⟨by decide, by decide, by decide +kernel⟩
set_option maxHeartbeats 4000000 in
theorem ML_look (l : Launch) (hl0 : l.stackTraces = false) (D : va_G) (cy : Nat → ClassId) (b : Nat) (A : Nat → Prop) {h : PH} {x1 x2 : Int32} {q3 : Nat} (ho : okO h 0 11 = true) (f : F11_isSurfer h 0 x1 = some (0, h)) : vx_Met l yL_look vL_look ({ frames := 7, cells := 1, slots := 6, locals := 160 } : Room) (va_Pc [.ref (b + 0), .int x1, .int x2, .ref q3] (PB D cy b A h)) (va_Qi (fun (r : Int32) (_ : PH) => r = 1) (fun _ _ => True) A) (vx_X (fun _ : PH => False) (fun _ _ _ => True) A) 1 6 A := by
  refine vx_ofWH (cc := cL_look) (maxL := 5) (ret := some .int) (by decide) rfl ?_
  intro p e s m args below meth c s₁ B hml hv
  obtain ⟨rfl, ⟨hP, hK, hA, hz, hX⟩, hD⟩ := hv
  have hts := atoms_spec (ws := vL_look) B.pre
  have htab := vx_table (x := yL_look) B (hts _ List.mem_cons_self)
  have hown : s.vm.findClass RL = some m.cls := findClass_of_methodNamed B.named
  have S : CallFix p m c cL_look 5 s [Value.ref (b + 0), .int x1, .int x2, .ref q3].toArray vL_look RL := ⟨B.exec, B.bytes, hml, hown, hts⟩
  have I : ph_I D cy b A false h s s.heap [] := ⟨hP, hK, va_S.rf, hA, hz, hX⟩
  have hl := lv_entry ([.ref (b + 0), .int x1, .int x2, .ref q3]) (n := 5) (Nat.le_of_ble_eq_true rfl)
  rw [lg_entry_eq]
  generalize (lg_sl ([.ref (b + 0), .int x1, .int x2, .ref q3]) ++ List.replicate (5 - (lg_sl ([.ref (b + 0), .int x1, .int x2, .ref q3])).length) Slot.unset).toArray = ls at hl ⊢
  have hl : lv_has ls 5 [(0, .ref (b + 0)), (1, .int x1), (2, .int x2), (3, .ref q3)] := hl
  obtain ⟨fs, e1⟩ := okO_spec ho
  refine lv_aload_n S.1 S.2.1 dL_look_0 rfl (lv_at hl 3 rfl) ?_
  refine lv_iconst (v := 0) S.1 S.2.1 dL_look_1 (by decide) ?_
  refine lv_aload_n S.1 S.2.1 dL_look_2 rfl (lv_at hl 0 rfl) ?_
  refine lv_iload_n S.1 S.2.1 dL_look_3 rfl (lv_at hl 1 rfl) ?_
  refine lv_iload_n S.1 S.2.1 dL_look_4 rfl (lv_at hl 2 rfl) ?_
  refine vx_calli (A0 := A) (H0 := s.heap) (vx_runV (As := [.int x1, .int x2]) (rest := [.int 0, .ref q3]) (b := b + 0) (C := RX11) S (M11_lookT l hl0 D cy b A ho f) (cwV 2 hts gL_look_X11 rfl rfl rfl ⟨rfl, cdX11_look⟩ ⟨Nat.le_of_ble_eq_true rfl, Nat.le_of_ble_eq_true rfl⟩) ⟨PB_blind D cy b A h _, va_recv I.2.1 I.1 clX11 (ph_w_get e1), fun U hU hW => ⟨rfl, (ph_pre (av := []) I U hU hW).2, DW_move hD hW⟩⟩ rfl rfl hl.1 rfl (lv_room (Nat.le_of_ble_eq_true rfl)) dL_look_5 ⟨Nat.le_of_ble_eq_true rfl, Nat.le_of_ble_eq_true rfl⟩) I.2.2.1 (fun q _ h => h) (fun q h => h) (fun q _ h => h) (fun E ce q9 u t H1 locs1 ht hvm hp hB hz hk hS hcell hcv hcl => ?_) (fun r u t H1 locs1 ht hvm hw => hw.elim)
  have hB : E = ph_E1 := hB
  subst hB
  have hc : (Cond.castable ph_E1 ph_E1).before [Value.ref (b + 0), .int x1, .int x2, .ref q3].toArray s = true := va_tabs rfl rfl hX.2.2.2.2.2.2.2.1
  refine vx_catch (own := RL) (name := ph_E1) hown [] { startPc := 0, endPc := 10, handlerPc := 13, catchType := 13 } [{ startPc := 0, endPc := 10, handlerPc := 17, catchType := 15 }] (by rw [htab]; rfl) (fun z hz => nomatch hz) (by decide) (by decide) (hts _ (List.mem_cons_of_mem _ wT_33_1)) hc hcell hcv hcl ?_
  refine lv_astore (lv' := [(4, .ref q9), (0, .ref (b + 0)), (1, .int x1), (2, .int x2), (3, .ref q3)]) S.1 S.2.1 dL_look_13 hl (by decide) rfl (fun ls hl => ?_)
  refine lv_iconst (v := 1) S.1 S.2.1 dL_look_15 (by decide) ?_
  exact vx_ret (W.iret S.1 S.2.1 B.returns (fun t ht hW => ⟨⟨1, h, rfl, rfl, trivial⟩, hS.F ht⟩) hS.2.2 dL_look_16 B.notSynchronized)
theorem gS_law : GoodIn lw_tbl (va_wsS RL 39 yL_look vL_look) := by
  have k : ∀ w ∈ va_wsS RL 39 yL_look vL_look, w ∈ TB := by
    intro w hw
    unfold va_wsS at hw
    rcases List.mem_append.mp hw with h | h
    · rcases List.mem_cons.mp h with e | h
      · rw [e]; exact wT_32_21
      · rcases List.mem_cons.mp h with e | h
        · rw [e]; exact wT_32_22
        · rcases List.mem_cons.mp h with e | h
          · rw [e]; exact wT_32_23
          · cases h
    · rcases List.mem_cons.mp h with e | h
      · rw [e]; exact wT_33_0
      · exact h
  exact fun w hw => ⟨TB_in w (k w hw), TB_good w (k w hw)⟩
theorem cdL_look : Cd yL_look 4 := ⟨by decide, by decide, by decide +kernel⟩
theorem gL_12_look : GoodIn lw_tbl (wsV RL 44 RX12 yX12_look vX12_look) := gV_law wT_34_10 wT_34_11 wT_34_12 wT_1_5 wT_34_13
theorem cdL_12_look : Cd yX12_look 2 := ⟨by decide, by decide, by decide +kernel⟩
theorem gL_12_thrown : GoodIn lw_tbl (wsV RL 45 RX12 yX12_thrown vX12_thrown) := gV_law wT_36_12 wT_36_13 wT_36_14 wT_1_5 wT_36_15
theorem cdL_12_thrown : Cd yX12_thrown 0 := ⟨by decide, by decide, by decide +kernel⟩
section LK
variable {p : Program} {l : Launch} {e : Env} {s : State} {m : MethodId} {below : List Frame} {meth : Method} {c : Code} {b : Nat} {xs : Nat → Int32} {D : va_G} {cy : Nat → ClassId} {H : Heap} {locs : List Loc} {ls : Array Slot}
set_option maxHeartbeats 4000000 in
theorem lc_360 (hl0 : l.stackTraces = false) (hD : DW s) (S : CallFix p m c cL_law 7 s #[Value.ref b] lw_tbl RL) (hr : meth.sig.returnType = ret) (hlo : meth.locks = false) (hX : va_X b 6 xs s s.heap) (hbl : b < s.heap.size) (I1 : LM D cy s.heap.size 110 hxF s H locs) (I2 : LM D cy (s.heap.size + 110) 43 hmF s H locs) {q3 : Nat} (hl : lv_has ls 7 [(0, .ref b), (1, .ref (s.heap.size + 0)), (2, .ref (s.heap.size + 110 + 0)), (3, .ref q3), (4, .int 0)]) : W p l e room_1 s m #[Value.ref b] below meth c H locs 154 5406 (lw_Z below #[Value.ref b] s) (F0 m 360 ls []) := by
  have hbA : ¬ A0 s b := Nat.not_le.mpr hbl
  have hx := S.1
  have hb := S.2.1
  have hS := I1.2.2.1
  have hA1 : ∀ q, Aw s.heap.size 110 q → s.heap.size ≤ q := fun q z => z.1
  refine lv_aload_n hx hb dL_law_360 rfl (lv_at hl 1 rfl) ?_
  refine lv_aload_n hx hb dL_law_361 rfl (lv_at hl 0 rfl) ?_
  refine lv_iload hx hb dL_law_362 (lv_at hl 4 rfl) ?_
  refine lv_iconst (v := 1) hx hb dL_law_364 (by decide) ?_
  refine lv_iadd hx hb dL_law_365 ?_
  refine va_sld (A := A0 s) hx hb hX hbl hbA hS (vI (by decide)) dL_law_366 ?_
  refine lv_aload_n hx hb dL_law_367 rfl (lv_at hl 0 rfl) ?_
  refine lv_iload hx hb dL_law_368 (lv_at hl 4 rfl) ?_
  refine lv_iconst (v := 2) hx hb dL_law_370 (by decide) ?_
  refine lv_iadd hx hb dL_law_371 ?_
  refine va_sld (A := A0 s) hx hb hX hbl hbA hS (vI (by decide)) dL_law_372 ?_
  refine lv_aload_n hx hb dL_law_373 rfl (lv_at hl 3 rfl) ?_
  refine vx_calli (A0 := A0 s) (H0 := s.heap) (vx_runSX (As := [.ref (s.heap.size + 0), .int (xs (0 + 1 : Int32).toNatClampNeg), .int (xs (0 + 2 : Int32).toNatClampNeg), .ref q3]) (rest := []) S (ML_look l hl0 D cy s.heap.size (Aw s.heap.size 110) (q3 := q3) hox (x_surf xF _)) (vx_cwSW 4 S.2.2.2.2 gS_law rfl rfl rfl cdL_look ⟨Nat.le_of_ble_eq_true rfl, Nat.le_of_ble_eq_true rfl⟩) ⟨PB_blind D cy s.heap.size (Aw s.heap.size 110) hxF _, fun U hU hW => ⟨rfl, (lm_pre (av := []) (fl := false) I1 (Nat.le_refl _) (fun z => by cases z) hA1 (fun i hi => ⟨Nat.le_add_right _ _, by omega⟩) U hU hW).2, DW_move hD hW⟩⟩ rfl rfl hl.1 rfl (lv_room (Nat.le_of_ble_eq_true rfl)) dL_law_374 ⟨Nat.le_of_ble_eq_true rfl, Nat.le_of_ble_eq_true rfl⟩) hS (fun q _ h => hA1 q h) (fun q h => hA1 q h) (fun q _ h => hA1 q h) (fun E ce q9 u t H1 locs1 ht hvm hp => hp.elim) (fun r u t H1 locs1 ht hvm hw hB hz1 hk1 hS => ?_)
  have hw : r = 1 := hw
  subst hw
  have I2 := LM_kept I2 (A := Aw s.heap.size 110) (fun i hi z => by have := z.2; omega) hk1 hS
  refine lv_istore (lv' := [(5, .int 1), (0, .ref b), (1, .ref (s.heap.size + 0)), (2, .ref (s.heap.size + 110 + 0)), (3, .ref q3), (4, .int 0)]) hx hb dL_law_377 hl (by decide) rfl (fun ls hl => ?_)
  obtain ⟨om, em, et⟩ := m_look (xs (0 + 1 : Int32).toNatClampNeg) (xs (0 + 2 : Int32).toNatClampNeg)
  refine lv_aload_n hx hb dL_law_379 rfl (lv_at hl 3 rfl) ?_
  refine lv_aload_n hx hb dL_law_380 rfl (lv_at hl 1 rfl) ?_
  refine lv_iload hx hb dL_law_381 (lv_at hl 5 rfl) ?_
  refine lv_iconst (v := 1) hx hb dL_law_383 (by decide) ?_
  refine lv_iadd hx hb dL_law_384 ?_
  refine va_sld (A := A0 s) hx hb hX hbl hbA hS (vI (by decide)) dL_law_385 ?_
  refine lv_aload_n hx hb dL_law_386 rfl (lv_at hl 1 rfl) ?_
  refine lv_iload hx hb dL_law_387 (lv_at hl 5 rfl) ?_
  refine lv_iconst (v := 2) hx hb dL_law_389 (by decide) ?_
  refine lv_iadd hx hb dL_law_390 ?_
  refine va_sld (A := A0 s) hx hb hX hbl hbA hS (vI (by decide)) dL_law_391 ?_
  refine l_Vi (As := [.int (xs (0 + 1 : Int32).toNatClampNeg), .int (xs (0 + 2 : Int32).toNatClampNeg)]) S (M12_look l D cy (s.heap.size + 110) (Aw (s.heap.size + 110) 43) false em) gL_12_look rfl rfl rfl cdL_12_look ⟨Nat.le_of_ble_eq_true rfl, Nat.le_of_ble_eq_true rfl⟩ I2 (Nat.le_add_right _ _) hom clX12 rfl rfl hl.1 rfl (Nat.le_of_ble_eq_true rfl) dL_law_392 ⟨Nat.le_of_ble_eq_true rfl, Nat.le_of_ble_eq_true rfl⟩ (fun H2 locs2 J2 hk2 => ?_)
  refine lv_istore (lv' := [(6, .int om.1), (5, .int 1), (0, .ref b), (1, .ref (s.heap.size + 0)), (2, .ref (s.heap.size + 110 + 0)), (3, .ref q3), (4, .int 0)]) hx hb dL_law_395 hl (by decide) rfl (fun ls hl => ?_)
  refine lv_aload_n hx hb dL_law_397 rfl (lv_at hl 4 rfl) ?_
  refine l_Vi (As := []) S (M12_thrown l D cy (s.heap.size + 110) (Aw (s.heap.size + 110) 43) false et) gL_12_thrown rfl rfl rfl cdL_12_thrown ⟨Nat.le_of_ble_eq_true rfl, Nat.le_of_ble_eq_true rfl⟩ J2 (Nat.le_add_right _ _) (gd et).1 clX12 rfl rfl hl.1 rfl (Nat.le_of_ble_eq_true rfl) dL_law_398 ⟨Nat.le_of_ble_eq_true rfl, Nat.le_of_ble_eq_true rfl⟩ (fun H3 locs3 J3 hk3 => ?_)
  refine lv_iload hx hb dL_law_401 (lv_at hl 1 rfl) ?_
  refine lv_icmp_eq (tgt := 408) hx hb dL_law_403 (by decide) (fun _ => ?_) (fun z => absurd rfl z)
  refine lv_iload hx hb dL_law_408 (lv_at hl 1 rfl) ?_
  refine lv_if_ne (tgt := 425) hx hb dL_law_410 (by decide) (fun _ => ?_) (fun z => absurd z one_ne)
  refine lv_goto (tgt := 1555) hx hb dL_law_425 (by decide) ?_
  exact law_tail S hr hlo hX hbl J3.2.2.1 (Nat.le_of_ble_eq_true rfl) (Nat.le_of_ble_eq_true rfl) (lv_sub hl [2, 6] rfl)
end LK
