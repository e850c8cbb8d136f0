/-! look: the class answers or throws, the law's own look catches both. -/
theorem wC_wsx0 : ∀ w ∈ wsx0, w ∈ TB := fun w h => (List.mem_append_right _ (List.mem_append_right _ (List.mem_append_right _ (List.mem_append_right _ (List.mem_append_right _ (List.mem_append_right _ (List.mem_append_left _ h)))))))
theorem wC_wsx1 : ∀ w ∈ wsx1, w ∈ TB := fun w h => (List.mem_append_right _ (List.mem_append_right _ (List.mem_append_right _ (List.mem_append_right _ (List.mem_append_right _ (List.mem_append_right _ (List.mem_append_right _ h)))))))
def xnames : List String := ["java/lang/RuntimeException", "java/lang/Exception"]
theorem dX11_look_0 : decode cX11_look 0 = .ok (.aload_n 0, 1) := by decide +kernel
theorem dX11_look_1 : decode cX11_look 1 = .ok (.iload_n 1, 1) := by decide +kernel
theorem dX11_look_2 : decode cX11_look 2 = .ok (.invokevirtual 115, 3) := by decide +kernel
theorem dX11_look_5 : decode cX11_look 5 = .ok (.ifCond .ne 11, 3) := by decide +kernel
theorem dX11_look_8 : decode cX11_look 8 = .ok (.new 119, 3) := by decide +kernel
theorem dX11_look_11 : decode cX11_look 11 = .ok (.dup, 1) := by decide +kernel
theorem dX11_look_12 : decode cX11_look 12 = .ok (.invokespecial 121, 3) := by decide +kernel
theorem dX11_look_15 : decode cX11_look 15 = .ok (.athrow, 1) := by decide +kernel
theorem dX11_look_16 : decode cX11_look 16 = .ok (.iload_n 2, 1) := by decide +kernel
theorem dX11_look_17 : decode cX11_look 17 = .ok (.tableswitch 108 0 5 #[39, 49, 59, 69, 79, 102], 39) := by decide +kernel
theorem dX11_look_56 : decode cX11_look 56 = .ok (.aload_n 0, 1) := by decide +kernel
theorem dX11_look_57 : decode cX11_look 57 = .ok (.getfield 47, 3) := by decide +kernel
theorem dX11_look_60 : decode cX11_look 60 = .ok (.getfield 122, 3) := by decide +kernel
theorem dX11_look_63 : decode cX11_look 63 = .ok (.iload_n 1, 1) := by decide +kernel
theorem dX11_look_64 : decode cX11_look 64 = .ok (.iaload, 1) := by decide +kernel
theorem dX11_look_65 : decode cX11_look 65 = .ok (.ireturn, 1) := by decide +kernel
theorem dX11_look_66 : decode cX11_look 66 = .ok (.aload_n 0, 1) := by decide +kernel
theorem dX11_look_67 : decode cX11_look 67 = .ok (.getfield 47, 3) := by decide +kernel
theorem dX11_look_70 : decode cX11_look 70 = .ok (.getfield 125, 3) := by decide +kernel
theorem dX11_look_73 : decode cX11_look 73 = .ok (.iload_n 1, 1) := by decide +kernel
theorem dX11_look_74 : decode cX11_look 74 = .ok (.iaload, 1) := by decide +kernel
theorem dX11_look_75 : decode cX11_look 75 = .ok (.ireturn, 1) := by decide +kernel
theorem dX11_look_76 : decode cX11_look 76 = .ok (.aload_n 0, 1) := by decide +kernel
theorem dX11_look_77 : decode cX11_look 77 = .ok (.getfield 47, 3) := by decide +kernel
theorem dX11_look_80 : decode cX11_look 80 = .ok (.getfield 128, 3) := by decide +kernel
theorem dX11_look_83 : decode cX11_look 83 = .ok (.iload_n 1, 1) := by decide +kernel
theorem dX11_look_84 : decode cX11_look 84 = .ok (.iaload, 1) := by decide +kernel
theorem dX11_look_85 : decode cX11_look 85 = .ok (.ireturn, 1) := by decide +kernel
theorem dX11_look_86 : decode cX11_look 86 = .ok (.aload_n 0, 1) := by decide +kernel
theorem dX11_look_87 : decode cX11_look 87 = .ok (.getfield 47, 3) := by decide +kernel
theorem dX11_look_90 : decode cX11_look 90 = .ok (.getfield 131, 3) := by decide +kernel
theorem dX11_look_93 : decode cX11_look 93 = .ok (.iload_n 1, 1) := by decide +kernel
theorem dX11_look_94 : decode cX11_look 94 = .ok (.iaload, 1) := by decide +kernel
theorem dX11_look_95 : decode cX11_look 95 = .ok (.ireturn, 1) := by decide +kernel
theorem dX11_look_96 : decode cX11_look 96 = .ok (.aload_n 0, 1) := by decide +kernel
theorem dX11_look_97 : decode cX11_look 97 = .ok (.getfield 18, 3) := by decide +kernel
theorem dX11_look_100 : decode cX11_look 100 = .ok (.getfield 102, 3) := by decide +kernel
theorem dX11_look_103 : decode cX11_look 103 = .ok (.getfield 134, 3) := by decide +kernel
theorem dX11_look_106 : decode cX11_look 106 = .ok (.iload_n 1, 1) := by decide +kernel
theorem dX11_look_107 : decode cX11_look 107 = .ok (.iaload, 1) := by decide +kernel
theorem dX11_look_108 : decode cX11_look 108 = .ok (.aload_n 0, 1) := by decide +kernel
theorem dX11_look_109 : decode cX11_look 109 = .ok (.getfield 47, 3) := by decide +kernel
theorem dX11_look_112 : decode cX11_look 112 = .ok (.getfield 137, 3) := by decide +kernel
theorem dX11_look_115 : decode cX11_look 115 = .ok (.iload_n 1, 1) := by decide +kernel
theorem dX11_look_116 : decode cX11_look 116 = .ok (.iaload, 1) := by decide +kernel
theorem dX11_look_117 : decode cX11_look 117 = .ok (.isub, 1) := by decide +kernel
theorem dX11_look_118 : decode cX11_look 118 = .ok (.ireturn, 1) := by decide +kernel
theorem dX11_look_119 : decode cX11_look 119 = .ok (.aload_n 0, 1) := by decide +kernel
theorem dX11_look_120 : decode cX11_look 120 = .ok (.iload_n 1, 1) := by decide +kernel
theorem dX11_look_121 : decode cX11_look 121 = .ok (.invokevirtual 140, 3) := by decide +kernel
theorem dX11_look_124 : decode cX11_look 124 = .ok (.ireturn, 1) := by decide +kernel
theorem dX11_look_125 : decode cX11_look 125 = .ok (.new 144, 3) := by decide +kernel
theorem dX11_look_128 : decode cX11_look 128 = .ok (.dup, 1) := by decide +kernel
theorem dX11_look_129 : decode cX11_look 129 = .ok (.invokespecial 146, 3) := by decide +kernel
theorem dX11_look_132 : decode cX11_look 132 = .ok (.athrow, 1) := by decide +kernel
def vX11_look : List Cond := .code yX11_look cX11_look 3 (some .int) :: TB
theorem lf11_look_47 : Fl vX11_look RX11 47 11 7 := ⟨RX11, TX11, 14, rfl, by decide, (fun w h9 => List.mem_cons_of_mem _ (wC_wsX110 w h9)), (List.mem_cons_of_mem _ wT_2_8)⟩
theorem lf11_look_122 : Fl vX11_look RX11 122 4 5 := ⟨RX4, TX4, 11, rfl, by decide, (fun w h9 => List.mem_cons_of_mem _ (wC_wsX40 w h9)), (List.mem_cons_of_mem _ wT_33_11)⟩
theorem lf11_look_125 : Fl vX11_look RX11 125 4 6 := ⟨RX4, TX4, 11, rfl, by decide, (fun w h9 => List.mem_cons_of_mem _ (wC_wsX40 w h9)), (List.mem_cons_of_mem _ wT_33_12)⟩
theorem lf11_look_128 : Fl vX11_look RX11 128 4 7 := ⟨RX4, TX4, 11, rfl, by decide, (fun w h9 => List.mem_cons_of_mem _ (wC_wsX40 w h9)), (List.mem_cons_of_mem _ wT_33_13)⟩
theorem lf11_look_131 : Fl vX11_look RX11 131 4 8 := ⟨RX4, TX4, 11, rfl, by decide, (fun w h9 => List.mem_cons_of_mem _ (wC_wsX40 w h9)), (List.mem_cons_of_mem _ wT_33_14)⟩
theorem lf11_look_137 : Fl vX11_look RX11 137 4 9 := ⟨RX4, TX4, 11, rfl, by decide, (fun w h9 => List.mem_cons_of_mem _ (wC_wsX40 w h9)), (List.mem_cons_of_mem _ wT_33_16)⟩
theorem lf11_look_18 : Fl vX11_look RX11 18 11 3 := ⟨RX11, TX11, 14, rfl, by decide, (fun w h9 => List.mem_cons_of_mem _ (wC_wsX110 w h9)), (List.mem_cons_of_mem _ wT_1_18)⟩
theorem lf11_look_102 : Fl vX11_look RX11 102 8 4 := ⟨RX8, TX8, 14, rfl, by decide, (fun w h9 => List.mem_cons_of_mem _ (wC_wsX80 w h9)), (List.mem_cons_of_mem _ wT_32_14)⟩
theorem lf11_look_134 : Fl vX11_look RX11 134 1 4 := ⟨RX1, TX1, 7, rfl, by decide, (fun w h9 => List.mem_cons_of_mem _ (wC_wsX10 w h9)), (List.mem_cons_of_mem _ wT_33_15)⟩
theorem gX11_look_isSurfer : GoodIn vX11_look (wsV RX11 115 RX11 yX11_isSurfer vX11_isSurfer) := gV_of wT_33_17 wT_33_18 wT_33_19 wT_1_2 wT_33_20
theorem gX11_look_farNow : GoodIn vX11_look (wsV RX11 140 RX11 yX11_farNow vX11_farNow) := gV_of wT_33_21 wT_33_22 wT_33_23 wT_1_2 wT_34_0
theorem cdX11_isSurfer : Cd yX11_isSurfer 1 := ⟨by decide, by decide, by decide +kernel⟩
theorem cdX11_farNow9 : Cd yX11_farNow 1 := ⟨by decide, by decide, by decide +kernel⟩
def xd1 : MethodName := Bundle.init0 "java/lang/RuntimeException"
def xd2 : MethodName := Bundle.init0 "java/lang/Exception"
def xd3 : MethodName := Bundle.init0 Bundle.tN
def DW (U : State) : Prop := (va_Nw (.declares xd1) U ∧ va_Nw (.declares xd2) U ∧ va_Nw (.declares xd3) U) ∧ va_Nc ph_E2 ph_E1 U
theorem DW_move {s U : State} (h : DW s) (hW : s.WarmedH U.vm) : DW U := ⟨⟨va_Nw.warmD hW h.1.1, va_Nw.warmD hW h.1.2.1, va_Nw.warmD hW h.1.2.2⟩, h.2.moved hW.alike⟩
def PB (D : va_G) (cy : Nat → ClassId) (b : Nat) (A : Nat → Prop) (h : PH) (U : State) : Prop := ph_B D cy b A false h U ∧ DW U
theorem PB_blind (D : va_G) (cy : Nat → ClassId) (b : Nat) (A : Nat → Prop) (h : PH) (av : List Value) : FrameBlind (va_Pc av (PB D cy b A h)) := by
  intro a U g mk q
  obtain ⟨q0, q1, q2⟩ := q
  have k := ph_B_blind D cy b A false h av a U g mk ⟨q0, q1⟩
  exact ⟨q0, k.2, DW_move (U := U.calling g mk a) q2 (State.WarmedH.refl U)⟩
theorem xot1 : ∀ w ∈ Cond.classLink RX11 119 ph_E1 :: Cond.initialized ph_E1 :: vx_at0 RX11 121 ph_E1 xnames, vx_ot w = true := by decide +kernel
theorem xot2 : ∀ w ∈ Cond.classLink RX11 144 ph_E2 :: Cond.initialized ph_E2 :: vx_at0 RX11 146 ph_E2 xnames, vx_ot w = true := by decide +kernel
theorem xcst1 : ∀ w ∈ (vx_at0 RX11 121 ph_E1 xnames).filter (fun w => !goodWord w), w ∈ [Cond.castable ph_E1 ph_E1, .declares xd1, .declares xd2, .declares xd3] := by decide +kernel
theorem xcst2 : ∀ w ∈ (vx_at0 RX11 146 ph_E2 xnames).filter (fun w => !goodWord w), w ∈ [Cond.castable ph_E2 ph_E2, .declares xd1, .declares xd2, .declares xd3] := by decide +kernel
theorem vaP_keep {D : va_G} {cy : Nat → ClassId} {b : Nat} {h : PH} {H H1 : Heap} (hP : va_P D ph_cl (ph_w b cy h) H) (hk : ∀ q : Nat, q < H.size → (∃ i, i < h.length ∧ q = b + i) → H1[q]? = H[q]?) : va_P D ph_cl (ph_w b cy h) H1 := by
  refine hP.kept (fun k q hq => hk q.1 (hP k q hq).lt ?_)
  rw [ph_w_at] at hq
  cases hc : h[k]? with
  | none => rw [hc] at hq; cases hq
  | some c =>
    rw [hc] at hq
    have e := Option.some.inj hq
    subst e
    exact ⟨k, (List.getElem?_eq_some_iff.mp hc).1, rfl⟩
set_option maxHeartbeats 4000000 in
theorem M11_lookA (l : Launch) (hl0 : l.stackTraces = false) (D : va_G) (cy : Nat → ClassId) (b : Nat) (A : Nat → Prop) {h h1 : PH} {x1 x2 sf : Int32} (ho : okO h 0 11 = true) (ho1 : okO h1 0 11 = true) (f : F11_isSurfer h 0 x1 = some (sf, h1)) (PE : String → Prop) (PN : Int32 → PH → Prop) (K : (sf = 0 ∧ PE ph_E1) ∨ (sf = 1 ∧ ¬ (0 ≤ x2.toInt ∧ x2.toInt ≤ 5) ∧ PE ph_E2) ∨ (sf = 1 ∧ ∃ r h', LN h1 x1 x2 r h' ∧ PN r h')) : vx_Met l yX11_look vX11_look ({ frames := 6, cells := 1, slots := 6, locals := 160 } : Room) (va_Pc [.ref (b + 0), .int x1, .int x2] (PB D cy b A h)) (va_Qi PN (ph_B D cy b A false) A) (vx_X (fun _ : PH => True) (fun E _ t => PE E ∧ va_P D ph_cl (ph_w b cy h1) t.heap) A) 1 6 A := by
  refine vx_ofW (cc := cX11_look) (maxL := 3) (ret := some .int) (by decide) rfl ?_
  intro p e s m args below meth c s₁ B hml hno hv
  obtain ⟨rfl, ⟨hP, hK, hA, hz, hX⟩, hD⟩ := hv
  have hts := atoms_spec (ws := vX11_look) B.pre
  have hown : s.vm.findClass RX11 = some m.cls := findClass_of_methodNamed B.named
  have S : CallFix p m c cX11_look 3 s [Value.ref (b + 0), .int x1, .int x2].toArray vX11_look RX11 := ⟨B.exec, B.bytes, hml, hown, hts⟩
  have I : ph_I D cy b A false h s s.heap [] := ⟨hP, hK, va_S.rf, hA, hz, hX⟩
  have hr := B.returns
  have hlo := B.notSynchronized
  have hl := lv_entry ([.ref (b + 0), .int x1, .int x2]) (n := 3) (Nat.le_of_ble_eq_true rfl)
  rw [lg_entry_eq]
  generalize (lg_sl ([.ref (b + 0), .int x1, .int x2]) ++ List.replicate (3 - (lg_sl ([.ref (b + 0), .int x1, .int x2])).length) Slot.unset).toArray = ls at hl ⊢
  have hl : lv_has ls 3 [(0, .ref (b + 0)), (1, .int x1), (2, .int x2)] := hl
  refine lv_aload_n S.1 S.2.1 dX11_look_0 rfl (lv_at hl 0 rfl) ?_
  refine lv_iload_n S.1 S.2.1 dX11_look_1 rfl (lv_at hl 1 rfl) ?_
  refine o_Vi (As := [.int x1]) S (M11_isSurfer l D cy b A false f) gX11_look_isSurfer rfl rfl rfl cdX11_isSurfer ⟨Nat.le_of_ble_eq_true rfl, Nat.le_of_ble_eq_true rfl⟩ I ho clX11 rfl rfl hl.1 rfl (Nat.le_of_ble_eq_true rfl) dX11_look_2 ⟨Nat.le_of_ble_eq_true rfl, Nat.le_of_ble_eq_true rfl⟩ (fun H1 locs1 I => ?_)
  have I : ph_I D cy b A false h1 s H1 locs1 := I
  have keep : ∀ t : State, H1.size ≤ t.heap.size → (∀ q : Nat, q < H1.size → t.heap[q]? = H1[q]?) → va_P D ph_cl (ph_w b cy h1) t.heap := fun t _ hsm => vaP_keep I.1 (fun q hq _ => hsm q hq)
  rcases K with ⟨rfl, k⟩ | ⟨rfl, hr2, k⟩ | ⟨rfl, r, h', hN, k⟩
  · refine lv_if_ne (tgt := 16) S.1 S.2.1 dX11_look_5 (by decide) (fun z => absurd rfl z) (fun _ => ?_)
    have hc : (Cond.castable ph_E1 ph_E1).before [Value.ref (b + 0), .int x1, .int x2].toArray s = true := va_tabs rfl rfl hX.2.2.2.2.2.2.2.1
    exact vx_throw0 (A := A) (cls := ph_E1) (names := xnames) S.1 S.2.1 hl0 hown (by decide) (by decide) (hts _ (List.mem_cons_of_mem _ wT_33_7)) (hts _ (List.mem_cons_of_mem _ wT_33_8)) (vx_hat (fun w hw => hts w (List.mem_cons_of_mem _ (wC_wsx0 w hw))) xcst1 (vx_c hc (vx_c (va_tabs rfl rfl hD.1.1) (vx_c (va_tabs rfl rfl hD.1.2.1) (vx_c (va_tabs rfl rfl hD.1.2.2) vx_n))))) xot1 hX.2.2.2.2.2.1 hX.2.2.2.2.2.2.1 I.2.2.1 (by rw [hml]; exact hl.1) dX11_look_8 dX11_look_11 dX11_look_12 dX11_look_15 (fun x hx => (hno x hx).elim) (Nat.le_of_ble_eq_true rfl) (Nat.le_of_ble_eq_true rfl) (Nat.le_of_ble_eq_true rfl) (Nat.le_of_ble_eq_true rfl) B.notSynchronized (fun t hvm hsz hsm => ⟨h1, trivial, ⟨k, keep t hsz hsm⟩, ⟨Nat.le_trans I.2.2.1.1 hsz, fun q h1 h2 => (hsm q (Nat.lt_of_lt_of_le h1 I.2.2.1.1)).trans (I.2.2.1.2.1 q h1 h2)⟩⟩) (fun z hz => I.2.2.1.2.2 z hz) (Nat.le_of_ble_eq_true rfl) (Nat.le_of_ble_eq_true rfl)
  · refine lv_if_ne (tgt := 16) S.1 S.2.1 dX11_look_5 (by decide) (fun _ => ?_) (fun z => absurd z (show ¬ (1 : Int32) = 0 by decide))
    refine lv_iload_n S.1 S.2.1 dX11_look_16 rfl (lv_at hl 2 rfl) ?_
    refine lv_tableOut (tgt := 125) S.1 S.2.1 dX11_look_17 (by omega) (by decide) ?_
    have hc : (Cond.castable ph_E2 ph_E2).before [Value.ref (b + 0), .int x1, .int x2].toArray s = true := va_tabs rfl rfl hX.2.2.2.2.2.2.2.2.1
    exact vx_throw0 (A := A) (cls := ph_E2) (names := xnames) S.1 S.2.1 hl0 hown (by decide) (by decide) (hts _ (List.mem_cons_of_mem _ wT_33_9)) (hts _ (List.mem_cons_of_mem _ wT_33_10)) (vx_hat (fun w hw => hts w (List.mem_cons_of_mem _ (wC_wsx1 w hw))) xcst2 (vx_c hc (vx_c (va_tabs rfl rfl hD.1.1) (vx_c (va_tabs rfl rfl hD.1.2.1) (vx_c (va_tabs rfl rfl hD.1.2.2) vx_n))))) xot2 hX.2.2.2.2.2.1 hX.2.2.2.2.2.2.1 I.2.2.1 (by rw [hml]; exact hl.1) dX11_look_125 dX11_look_128 dX11_look_129 dX11_look_132 (fun x hx => (hno x hx).elim) (Nat.le_of_ble_eq_true rfl) (Nat.le_of_ble_eq_true rfl) (Nat.le_of_ble_eq_true rfl) (Nat.le_of_ble_eq_true rfl) B.notSynchronized (fun t hvm hsz hsm => ⟨h1, trivial, ⟨k, keep t hsz hsm⟩, ⟨Nat.le_trans I.2.2.1.1 hsz, fun q h1 h2 => (hsm q (Nat.lt_of_lt_of_le h1 I.2.2.1.1)).trans (I.2.2.1.2.1 q h1 h2)⟩⟩) (fun z hz => I.2.2.1.2.2 z hz) (Nat.le_of_ble_eq_true rfl) (Nat.le_of_ble_eq_true rfl)
  · refine lv_if_ne (tgt := 16) S.1 S.2.1 dX11_look_5 (by decide) (fun _ => ?_) (fun z => absurd z (show ¬ (1 : Int32) = 0 by decide))
    refine lv_iload_n S.1 S.2.1 dX11_look_16 rfl (lv_at hl 2 rfl) ?_
    refine W.widen (k := 1) (n := 6) (Nat.le_of_ble_eq_true rfl) (Nat.le_of_ble_eq_true rfl) ?_
    refine vx_ret ?_
    rcases hN with ⟨rfl, g, n, q, e1, e2, e3⟩ | ⟨rfl, g, n, q, e1, e2, e3⟩ | ⟨rfl, g, n, q, e1, e2, e3⟩ | ⟨rfl, g, n, q, e1, e2, e3⟩ | ⟨rfl, g, t, cr, pc, n, st, v1, v2, e1, e2, e3, e4, e5, e6, e7, e8⟩ | ⟨g, e1⟩
    · refine lv_tableIn (off := 39) (tgt := 56) S.1 S.2.1 dX11_look_17 (by rw [g]; decide) (by rw [g]; decide) (by rw [g]; rfl) (by decide) ?_
      refine lv_aload_n S.1 S.2.1 dX11_look_56 rfl (lv_at hl 0 rfl) ?_
      refine o_gR S lf11_look_47 I e1 dX11_look_57 ?_
      refine o_gR S lf11_look_122 I e2 dX11_look_60 ?_
      refine lv_iload_n S.1 S.2.1 dX11_look_63 rfl (lv_at hl 1 rfl) ?_
      refine o_iald S I e3 dX11_look_64 ?_
      exact W.iret S.1 S.2.1 hr (fun t ht hW => ⟨⟨_, _, rfl, k, ph_end I ht hW⟩, I.2.2.1.F ht⟩) I.2.2.1.2.2 dX11_look_65 hlo
    · refine lv_tableIn (off := 49) (tgt := 66) S.1 S.2.1 dX11_look_17 (by rw [g]; decide) (by rw [g]; decide) (by rw [g]; rfl) (by decide) ?_
      refine lv_aload_n S.1 S.2.1 dX11_look_66 rfl (lv_at hl 0 rfl) ?_
      refine o_gR S lf11_look_47 I e1 dX11_look_67 ?_
      refine o_gR S lf11_look_125 I e2 dX11_look_70 ?_
      refine lv_iload_n S.1 S.2.1 dX11_look_73 rfl (lv_at hl 1 rfl) ?_
      refine o_iald S I e3 dX11_look_74 ?_
      exact W.iret S.1 S.2.1 hr (fun t ht hW => ⟨⟨_, _, rfl, k, ph_end I ht hW⟩, I.2.2.1.F ht⟩) I.2.2.1.2.2 dX11_look_75 hlo
    · refine lv_tableIn (off := 59) (tgt := 76) S.1 S.2.1 dX11_look_17 (by rw [g]; decide) (by rw [g]; decide) (by rw [g]; rfl) (by decide) ?_
      refine lv_aload_n S.1 S.2.1 dX11_look_76 rfl (lv_at hl 0 rfl) ?_
      refine o_gR S lf11_look_47 I e1 dX11_look_77 ?_
      refine o_gR S lf11_look_128 I e2 dX11_look_80 ?_
      refine lv_iload_n S.1 S.2.1 dX11_look_83 rfl (lv_at hl 1 rfl) ?_
      refine o_iald S I e3 dX11_look_84 ?_
      exact W.iret S.1 S.2.1 hr (fun t ht hW => ⟨⟨_, _, rfl, k, ph_end I ht hW⟩, I.2.2.1.F ht⟩) I.2.2.1.2.2 dX11_look_85 hlo
    · refine lv_tableIn (off := 69) (tgt := 86) S.1 S.2.1 dX11_look_17 (by rw [g]; decide) (by rw [g]; decide) (by rw [g]; rfl) (by decide) ?_
      refine lv_aload_n S.1 S.2.1 dX11_look_86 rfl (lv_at hl 0 rfl) ?_
      refine o_gR S lf11_look_47 I e1 dX11_look_87 ?_
      refine o_gR S lf11_look_131 I e2 dX11_look_90 ?_
      refine lv_iload_n S.1 S.2.1 dX11_look_93 rfl (lv_at hl 1 rfl) ?_
      refine o_iald S I e3 dX11_look_94 ?_
      exact W.iret S.1 S.2.1 hr (fun t ht hW => ⟨⟨_, _, rfl, k, ph_end I ht hW⟩, I.2.2.1.F ht⟩) I.2.2.1.2.2 dX11_look_95 hlo
    · refine lv_tableIn (off := 79) (tgt := 96) S.1 S.2.1 dX11_look_17 (by rw [g]; decide) (by rw [g]; decide) (by rw [g]; rfl) (by decide) ?_
      refine lv_aload_n S.1 S.2.1 dX11_look_96 rfl (lv_at hl 0 rfl) ?_
      refine o_gR S lf11_look_18 I e1 dX11_look_97 ?_
      refine o_gR S lf11_look_102 I e2 dX11_look_100 ?_
      refine o_gR S lf11_look_134 I e3 dX11_look_103 ?_
      refine lv_iload_n S.1 S.2.1 dX11_look_106 rfl (lv_at hl 1 rfl) ?_
      refine o_iald S I e4 dX11_look_107 ?_
      refine lv_aload_n S.1 S.2.1 dX11_look_108 rfl (lv_at hl 0 rfl) ?_
      refine o_gR S lf11_look_47 I e5 dX11_look_109 ?_
      refine o_gR S lf11_look_137 I e6 dX11_look_112 ?_
      refine lv_iload_n S.1 S.2.1 dX11_look_115 rfl (lv_at hl 1 rfl) ?_
      refine o_iald S I e7 dX11_look_116 ?_
      refine lv_isub S.1 S.2.1 dX11_look_117 ?_
      subst e8
      exact W.iret S.1 S.2.1 hr (fun t ht hW => ⟨⟨_, _, rfl, k, ph_end I ht hW⟩, I.2.2.1.F ht⟩) I.2.2.1.2.2 dX11_look_118 hlo
    · refine lv_tableIn (off := 102) (tgt := 119) S.1 S.2.1 dX11_look_17 (by rw [g]; decide) (by rw [g]; decide) (by rw [g]; rfl) (by decide) ?_
      refine lv_aload_n S.1 S.2.1 dX11_look_119 rfl (lv_at hl 0 rfl) ?_
      refine lv_iload_n S.1 S.2.1 dX11_look_120 rfl (lv_at hl 1 rfl) ?_
      refine o_Vi (As := [.int x1]) S (M11_farNow l D cy b A false e1) gX11_look_farNow rfl rfl rfl cdX11_farNow9 ⟨Nat.le_of_ble_eq_true rfl, Nat.le_of_ble_eq_true rfl⟩ I ho1 clX11 rfl rfl hl.1 rfl (Nat.le_of_ble_eq_true rfl) dX11_look_121 ⟨Nat.le_of_ble_eq_true rfl, Nat.le_of_ble_eq_true rfl⟩ (fun H2 locs2 I => ?_)
      exact W.iret S.1 S.2.1 hr (fun t ht hW => ⟨⟨_, _, rfl, k, ph_end I ht hW⟩, I.2.2.1.F ht⟩) I.2.2.1.2.2 dX11_look_124 hlo
