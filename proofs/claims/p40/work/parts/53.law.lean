/-! look: the class answers or throws, the law's own look catches both. -/
theorem wC_wsx0 : ∀ w ∈ wsx0, w ∈ TB := fun w h => (List.mem_append_right _ (List.mem_append_right _ (List.mem_append_right _ (List.mem_append_right _ (List.mem_append_right _ (List.mem_append_right _ (List.mem_append_left _ h)))))))
theorem wC_wsx1 : ∀ w ∈ wsx1, w ∈ TB := fun w h => (List.mem_append_right _ (List.mem_append_right _ (List.mem_append_right _ (List.mem_append_right _ (List.mem_append_right _ (List.mem_append_right _ (List.mem_append_right _ h)))))))
def xnames : List String := ["java/lang/RuntimeException", "java/lang/Exception"]
theorem zd_dX11_look_0 : sg (cX11_look.data.toList.drop 0) [[42], [27], [182, 0, 115], [154, 0, 11], [187, 0, 119], [89], [183, 0, 121], [191], [28]] = true := by decide +kernel
theorem dX11_look_0 : decode cX11_look 0 = .ok (.aload_n 0, 1) := dc_42 (sg_at zd_dX11_look_0 0 rfl rfl)
theorem dX11_look_1 : decode cX11_look 1 = .ok (.iload_n 1, 1) := dc_27 (sg_at zd_dX11_look_0 1 rfl rfl)
theorem dX11_look_2 : decode cX11_look 2 = .ok (.invokevirtual 115, 3) := dc_182 (sg_at zd_dX11_look_0 2 rfl rfl) rfl
theorem dX11_look_5 : decode cX11_look 5 = .ok (.ifCond .ne 11, 3) := dc_154 (sg_at zd_dX11_look_0 3 rfl rfl) rfl
theorem dX11_look_8 : decode cX11_look 8 = .ok (.new 119, 3) := dc_187 (sg_at zd_dX11_look_0 4 rfl rfl) rfl
theorem dX11_look_11 : decode cX11_look 11 = .ok (.dup, 1) := dc_89 (sg_at zd_dX11_look_0 5 rfl rfl)
theorem dX11_look_12 : decode cX11_look 12 = .ok (.invokespecial 121, 3) := dc_183 (sg_at zd_dX11_look_0 6 rfl rfl) rfl
theorem dX11_look_15 : decode cX11_look 15 = .ok (.athrow, 1) := dc_191 (sg_at zd_dX11_look_0 7 rfl rfl)
theorem dX11_look_16 : decode cX11_look 16 = .ok (.iload_n 2, 1) := dc_28 (sg_at zd_dX11_look_0 8 rfl rfl)
theorem dX11_look_17 : decode cX11_look 17 = .ok (.tableswitch 108 0 5 #[39, 49, 59, 69, 79, 102], 39) := by decide +kernel
theorem zd_dX11_look_56 : sg (cX11_look.data.toList.drop 56) [[42], [180, 0, 47], [180, 0, 122], [27], [46], [172], [42], [180, 0, 47], [180, 0, 125], [27], [46], [172], [42], [180, 0, 47], [180, 0, 128], [27], [46], [172], [42], [180, 0, 47]] = true := by decide +kernel
theorem dX11_look_56 : decode cX11_look 56 = .ok (.aload_n 0, 1) := dc_42 (sg_at zd_dX11_look_56 0 rfl rfl)
theorem dX11_look_57 : decode cX11_look 57 = .ok (.getfield 47, 3) := dc_180 (sg_at zd_dX11_look_56 1 rfl rfl) rfl
theorem dX11_look_60 : decode cX11_look 60 = .ok (.getfield 122, 3) := dc_180 (sg_at zd_dX11_look_56 2 rfl rfl) rfl
theorem dX11_look_63 : decode cX11_look 63 = .ok (.iload_n 1, 1) := dc_27 (sg_at zd_dX11_look_56 3 rfl rfl)
theorem dX11_look_64 : decode cX11_look 64 = .ok (.iaload, 1) := dc_46 (sg_at zd_dX11_look_56 4 rfl rfl)
theorem dX11_look_65 : decode cX11_look 65 = .ok (.ireturn, 1) := dc_172 (sg_at zd_dX11_look_56 5 rfl rfl)
theorem dX11_look_66 : decode cX11_look 66 = .ok (.aload_n 0, 1) := dc_42 (sg_at zd_dX11_look_56 6 rfl rfl)
theorem dX11_look_67 : decode cX11_look 67 = .ok (.getfield 47, 3) := dc_180 (sg_at zd_dX11_look_56 7 rfl rfl) rfl
theorem dX11_look_70 : decode cX11_look 70 = .ok (.getfield 125, 3) := dc_180 (sg_at zd_dX11_look_56 8 rfl rfl) rfl
theorem dX11_look_73 : decode cX11_look 73 = .ok (.iload_n 1, 1) := dc_27 (sg_at zd_dX11_look_56 9 rfl rfl)
theorem dX11_look_74 : decode cX11_look 74 = .ok (.iaload, 1) := dc_46 (sg_at zd_dX11_look_56 10 rfl rfl)
theorem dX11_look_75 : decode cX11_look 75 = .ok (.ireturn, 1) := dc_172 (sg_at zd_dX11_look_56 11 rfl rfl)
theorem dX11_look_76 : decode cX11_look 76 = .ok (.aload_n 0, 1) := dc_42 (sg_at zd_dX11_look_56 12 rfl rfl)
theorem dX11_look_77 : decode cX11_look 77 = .ok (.getfield 47, 3) := dc_180 (sg_at zd_dX11_look_56 13 rfl rfl) rfl
theorem dX11_look_80 : decode cX11_look 80 = .ok (.getfield 128, 3) := dc_180 (sg_at zd_dX11_look_56 14 rfl rfl) rfl
theorem dX11_look_83 : decode cX11_look 83 = .ok (.iload_n 1, 1) := dc_27 (sg_at zd_dX11_look_56 15 rfl rfl)
theorem dX11_look_84 : decode cX11_look 84 = .ok (.iaload, 1) := dc_46 (sg_at zd_dX11_look_56 16 rfl rfl)
theorem dX11_look_85 : decode cX11_look 85 = .ok (.ireturn, 1) := dc_172 (sg_at zd_dX11_look_56 17 rfl rfl)
theorem dX11_look_86 : decode cX11_look 86 = .ok (.aload_n 0, 1) := dc_42 (sg_at zd_dX11_look_56 18 rfl rfl)
theorem dX11_look_87 : decode cX11_look 87 = .ok (.getfield 47, 3) := dc_180 (sg_at zd_dX11_look_56 19 rfl rfl) rfl
theorem zd_dX11_look_90 : sg (cX11_look.data.toList.drop 90) [[180, 0, 131], [27], [46], [172], [42], [180, 0, 18], [180, 0, 102], [180, 0, 134], [27], [46], [42], [180, 0, 47], [180, 0, 137], [27], [46], [100], [172], [42], [27], [182, 0, 140]] = true := by decide +kernel
theorem dX11_look_90 : decode cX11_look 90 = .ok (.getfield 131, 3) := dc_180 (sg_at zd_dX11_look_90 0 rfl rfl) rfl
theorem dX11_look_93 : decode cX11_look 93 = .ok (.iload_n 1, 1) := dc_27 (sg_at zd_dX11_look_90 1 rfl rfl)
theorem dX11_look_94 : decode cX11_look 94 = .ok (.iaload, 1) := dc_46 (sg_at zd_dX11_look_90 2 rfl rfl)
theorem dX11_look_95 : decode cX11_look 95 = .ok (.ireturn, 1) := dc_172 (sg_at zd_dX11_look_90 3 rfl rfl)
theorem dX11_look_96 : decode cX11_look 96 = .ok (.aload_n 0, 1) := dc_42 (sg_at zd_dX11_look_90 4 rfl rfl)
theorem dX11_look_97 : decode cX11_look 97 = .ok (.getfield 18, 3) := dc_180 (sg_at zd_dX11_look_90 5 rfl rfl) rfl
theorem dX11_look_100 : decode cX11_look 100 = .ok (.getfield 102, 3) := dc_180 (sg_at zd_dX11_look_90 6 rfl rfl) rfl
theorem dX11_look_103 : decode cX11_look 103 = .ok (.getfield 134, 3) := dc_180 (sg_at zd_dX11_look_90 7 rfl rfl) rfl
theorem dX11_look_106 : decode cX11_look 106 = .ok (.iload_n 1, 1) := dc_27 (sg_at zd_dX11_look_90 8 rfl rfl)
theorem dX11_look_107 : decode cX11_look 107 = .ok (.iaload, 1) := dc_46 (sg_at zd_dX11_look_90 9 rfl rfl)
theorem dX11_look_108 : decode cX11_look 108 = .ok (.aload_n 0, 1) := dc_42 (sg_at zd_dX11_look_90 10 rfl rfl)
theorem dX11_look_109 : decode cX11_look 109 = .ok (.getfield 47, 3) := dc_180 (sg_at zd_dX11_look_90 11 rfl rfl) rfl
theorem dX11_look_112 : decode cX11_look 112 = .ok (.getfield 137, 3) := dc_180 (sg_at zd_dX11_look_90 12 rfl rfl) rfl
theorem dX11_look_115 : decode cX11_look 115 = .ok (.iload_n 1, 1) := dc_27 (sg_at zd_dX11_look_90 13 rfl rfl)
theorem dX11_look_116 : decode cX11_look 116 = .ok (.iaload, 1) := dc_46 (sg_at zd_dX11_look_90 14 rfl rfl)
theorem dX11_look_117 : decode cX11_look 117 = .ok (.isub, 1) := dc_100 (sg_at zd_dX11_look_90 15 rfl rfl)
theorem dX11_look_118 : decode cX11_look 118 = .ok (.ireturn, 1) := dc_172 (sg_at zd_dX11_look_90 16 rfl rfl)
theorem dX11_look_119 : decode cX11_look 119 = .ok (.aload_n 0, 1) := dc_42 (sg_at zd_dX11_look_90 17 rfl rfl)
theorem dX11_look_120 : decode cX11_look 120 = .ok (.iload_n 1, 1) := dc_27 (sg_at zd_dX11_look_90 18 rfl rfl)
theorem dX11_look_121 : decode cX11_look 121 = .ok (.invokevirtual 140, 3) := dc_182 (sg_at zd_dX11_look_90 19 rfl rfl) rfl
theorem zd_dX11_look_124 : sg (cX11_look.data.toList.drop 124) [[172], [187, 0, 144], [89], [183, 0, 146], [191]] = true := by decide +kernel
theorem dX11_look_124 : decode cX11_look 124 = .ok (.ireturn, 1) := dc_172 (sg_at zd_dX11_look_124 0 rfl rfl)
theorem dX11_look_125 : decode cX11_look 125 = .ok (.new 144, 3) := dc_187 (sg_at zd_dX11_look_124 1 rfl rfl) rfl
theorem dX11_look_128 : decode cX11_look 128 = .ok (.dup, 1) := dc_89 (sg_at zd_dX11_look_124 2 rfl rfl)
theorem dX11_look_129 : decode cX11_look 129 = .ok (.invokespecial 146, 3) := dc_183 (sg_at zd_dX11_look_124 3 rfl rfl) rfl
theorem dX11_look_132 : decode cX11_look 132 = .ok (.athrow, 1) := dc_191 (sg_at zd_dX11_look_124 4 rfl rfl)
def vX11_look : List Cond := .code yX11_look cX11_look 3 (some .int) :: TB
theorem lf11_look_47 : Fl vX11_look RX11 47 11 7 := ⟨RX11, TX11, 14, rfl, by decide, (fun w h9 => List.mem_cons_of_mem _ (wC_wsX110 w h9)), (List.mem_cons_of_mem _ wT_2_8)⟩
theorem lf11_look_122 : Fl vX11_look RX11 122 4 5 := ⟨RX4, TX4, 11, rfl, by decide, (fun w h9 => List.mem_cons_of_mem _ (wC_wsX40 w h9)), (List.mem_cons_of_mem _ wT_33_11)⟩
theorem lf11_look_125 : Fl vX11_look RX11 125 4 6 := ⟨RX4, TX4, 11, rfl, by decide, (fun w h9 => List.mem_cons_of_mem _ (wC_wsX40 w h9)), (List.mem_cons_of_mem _ wT_33_12)⟩
theorem lf11_look_128 : Fl vX11_look RX11 128 4 7 := ⟨RX4, TX4, 11, rfl, by decide, (fun w h9 => List.mem_cons_of_mem _ (wC_wsX40 w h9)), (List.mem_cons_of_mem _ wT_33_13)⟩
theorem lf11_look_131 : Fl vX11_look RX11 131 4 8 := ⟨RX4, TX4, 11, rfl, by decide, (fun w h9 => List.mem_cons_of_mem _ (wC_wsX40 w h9)), (List.mem_cons_of_mem _ wT_33_14)⟩
theorem lf11_look_137 : Fl vX11_look RX11 137 4 9 := ⟨RX4, TX4, 11, rfl, by decide, (fun w h9 => List.mem_cons_of_mem _ (wC_wsX40 w h9)), (List.mem_cons_of_mem _ wT_33_16)⟩
theorem lf11_look_18 : Fl vX11_look RX11 18 11 3 := ⟨RX11, TX11, 14, rfl, by decide, (fun w h9 => List.mem_cons_of_mem _ (wC_wsX110 w h9)), (List.mem_cons_of_mem _ wT_1_18)⟩
theorem lf11_look_102 : Fl vX11_look RX11 102 8 4 := ⟨RX8, TX8, 14, rfl, by decide, (fun w h9 => List.mem_cons_of_mem _ (wC_wsX80 w h9)), (List.mem_cons_of_mem _ wT_32_14)⟩
theorem lf11_look_134 : Fl vX11_look RX11 134 1 4 := ⟨RX1, TX1, 7, rfl, by decide, (fun w h9 => List.mem_cons_of_mem _ (wC_wsX10 w h9)), (List.mem_cons_of_mem _ wT_33_15)⟩
theorem gX11_look_isSurfer : GoodIn vX11_look (wsV RX11 115 RX11 yX11_isSurfer vX11_isSurfer) := gV_of wT_33_17 wT_33_18 wT_33_19 wT_1_2 wT_33_20
theorem gX11_look_farNow : GoodIn vX11_look (wsV RX11 140 RX11 yX11_farNow vX11_farNow) := gV_of wT_33_21 wT_33_22 wT_33_23 wT_1_2 wT_34_0
theorem cdX11_isSurfer : Cd yX11_isSurfer 1 := ⟨by decide, by decide, by decide +kernel⟩
theorem cdX11_farNow9 : Cd yX11_farNow 1 := ⟨by decide, by decide, by decide +kernel⟩
def xd1 : MethodName := Bundle.init0 "java/lang/RuntimeException"
def xd2 : MethodName := Bundle.init0 "java/lang/Exception"
def xd3 : MethodName := Bundle.init0 Bundle.tN
def DW (U : State) : Prop := (va_Nw (.declares xd1) U ∧ va_Nw (.declares xd2) U ∧ va_Nw (.declares xd3) U) ∧ va_Nc ph_E2 ph_E1 U
theorem DW_move {s U : State} (h : DW s) (hW : s.WarmedH U.vm) : DW U := ⟨⟨va_Nw.warmD hW h.1.1, va_Nw.warmD hW h.1.2.1, va_Nw.warmD hW h.1.2.2⟩, h.2.moved hW.alike⟩
def PB (D : va_G) (cy : Nat → ClassId) (b : Nat) (A : Nat → Prop) (h : PH) (U : State) : Prop := ph_B D cy b A false h U ∧ DW U
theorem PB_blind (D : va_G) (cy : Nat → ClassId) (b : Nat) (A : Nat → Prop) (h : PH) (av : List Value) : FrameBlind (va_Pc av (PB D cy b A h)) := by
  intro a U g mk q
  obtain ⟨q0, q1, q2⟩ := q
  have k := ph_B_blind D cy b A false h av a U g mk ⟨q0, q1⟩
  exact ⟨q0, k.2, DW_move (U := U.calling g mk a) q2 (State.WarmedH.refl U)⟩
theorem xot1 : ∀ w ∈ Cond.classLink RX11 119 ph_E1 :: Cond.initialized ph_E1 :: vx_at0 RX11 121 ph_E1 xnames, vx_ot w = true := by decide +kernel
theorem xot2 : ∀ w ∈ Cond.classLink RX11 144 ph_E2 :: Cond.initialized ph_E2 :: vx_at0 RX11 146 ph_E2 xnames, vx_ot w = true := by decide +kernel
theorem xcst1 : ∀ w ∈ (vx_at0 RX11 121 ph_E1 xnames).filter (fun w => !goodWord w), w ∈ [Cond.castable ph_E1 ph_E1, .declares xd1, .declares xd2, .declares xd3] := by decide +kernel
theorem xcst2 : ∀ w ∈ (vx_at0 RX11 146 ph_E2 xnames).filter (fun w => !goodWord w), w ∈ [Cond.castable ph_E2 ph_E2, .declares xd1, .declares xd2, .declares xd3] := by decide +kernel
theorem vaP_keep {D : va_G} {cy : Nat → ClassId} {b : Nat} {h : PH} {H H1 : Heap} (hP : va_P D ph_cl (ph_w b cy h) H) (hk : ∀ q : Nat, q < H.size → (∃ i, i < h.length ∧ q = b + i) → H1[q]? = H[q]?) : va_P D ph_cl (ph_w b cy h) H1 := by
  refine hP.kept (fun k q hq => hk q.1 (hP k q hq).lt ?_)
  rw [ph_w_at] at hq
  cases hc : h[k]? with
  | none => rw [hc] at hq; cases hq
  | some c =>
    rw [hc] at hq
    have e := Option.some.inj hq
    subst e
    exact ⟨k, (List.getElem?_eq_some_iff.mp hc).1, rfl⟩
set_option maxHeartbeats 4000000 in
theorem M11_lookA (l : Launch) (hl0 : l.stackTraces = false) (D : va_G) (cy : Nat → ClassId) (b : Nat) (A : Nat → Prop) {h h1 : PH} {x1 x2 sf : Int32} (ho : okO h 0 11 = true) (ho1 : okO h1 0 11 = true) (f : F11_isSurfer h 0 x1 = some (sf, h1)) (PE : String → Prop) (PN : Int32 → PH → Prop) (K : (sf = 0 ∧ PE ph_E1) ∨ (sf = 1 ∧ ¬ (0 ≤ x2.toInt ∧ x2.toInt ≤ 5) ∧ PE ph_E2) ∨ (sf = 1 ∧ ∃ r h', LN h1 x1 x2 r h' ∧ PN r h')) : vx_Met l yX11_look vX11_look ({ frames := 6, cells := 1, slots := 6, locals := 160 } : Room) (va_Pc [.ref (b + 0), .int x1, .int x2] (PB D cy b A h)) (va_Qi PN (ph_B D cy b A false) A) (vx_X (fun _ : PH => True) (fun E _ t => PE E ∧ va_P D ph_cl (ph_w b cy h1) t.heap) A) 1 6 A := by
  refine vx_ofW (cc := cX11_look) (maxL := 3) (ret := some .int) (by decide) rfl ?_
  intro p e s m args below meth c s₁ B hml hno hv
  obtain ⟨rfl, ⟨hP, hK, hA, hz, hX⟩, hD⟩ := hv
  have hts := atoms_spec (ws := vX11_look) B.pre
  have hown : s.vm.findClass RX11 = some m.cls := findClass_of_methodNamed B.named
  have S : CallFix p m c cX11_look 3 s [Value.ref (b + 0), .int x1, .int x2].toArray vX11_look RX11 := ⟨B.exec, B.bytes, hml, hown, hts⟩
  have I : ph_I D cy b A false h s s.heap [] := ⟨hP, hK, va_S.rf, hA, hz, hX⟩
  have hr := B.returns
  have hlo := B.notSynchronized
  have hl := lv_entry ([.ref (b + 0), .int x1, .int x2]) (n := 3) (Nat.le_of_ble_eq_true rfl)
  rw [lg_entry_eq]
  generalize (lg_sl ([.ref (b + 0), .int x1, .int x2]) ++ List.replicate (3 - (lg_sl ([.ref (b + 0), .int x1, .int x2])).length) Slot.unset).toArray = ls at hl ⊢
  have hl : lv_has ls 3 [(0, .ref (b + 0)), (1, .int x1), (2, .int x2)] := hl
  refine lv_aload_n S.1 S.2.1 dX11_look_0 rfl (lv_at hl 0 rfl) ?_
  refine lv_iload_n S.1 S.2.1 dX11_look_1 rfl (lv_at hl 1 rfl) ?_
  refine o_Vi (As := [.int x1]) S (M11_isSurfer l D cy b A false f) gX11_look_isSurfer rfl rfl rfl cdX11_isSurfer ⟨Nat.le_of_ble_eq_true rfl, Nat.le_of_ble_eq_true rfl⟩ I ho clX11 rfl rfl hl.1 rfl (Nat.le_of_ble_eq_true rfl) dX11_look_2 ⟨Nat.le_of_ble_eq_true rfl, Nat.le_of_ble_eq_true rfl⟩ (fun H1 locs1 I => ?_)
  have I : ph_I D cy b A false h1 s H1 locs1 := I
  have keep : ∀ t : State, H1.size ≤ t.heap.size → (∀ q : Nat, q < H1.size → t.heap[q]? = H1[q]?) → va_P D ph_cl (ph_w b cy h1) t.heap := fun t _ hsm => vaP_keep I.1 (fun q hq _ => hsm q hq)
  rcases K with ⟨rfl, k⟩ | ⟨rfl, hr2, k⟩ | ⟨rfl, r, h', hN, k⟩
  · refine lv_if_ne (tgt := 16) S.1 S.2.1 dX11_look_5 (by decide) (fun z => absurd rfl z) (fun _ => ?_)
    have hc : (Cond.castable ph_E1 ph_E1).before [Value.ref (b + 0), .int x1, .int x2].toArray s = true := va_tabs rfl rfl hX.2.2.2.2.2.2.2.1
    exact vx_throw0 (A := A) (cls := ph_E1) (names := xnames) S.1 S.2.1 hl0 hown (by decide) (by decide) (hts _ (List.mem_cons_of_mem _ wT_33_7)) (hts _ (List.mem_cons_of_mem _ wT_33_8)) (vx_hat (fun w hw => hts w (List.mem_cons_of_mem _ (wC_wsx0 w hw))) xcst1 (vx_c hc (vx_c (va_tabs rfl rfl hD.1.1) (vx_c (va_tabs rfl rfl hD.1.2.1) (vx_c (va_tabs rfl rfl hD.1.2.2) vx_n))))) xot1 hX.2.2.2.2.2.1 hX.2.2.2.2.2.2.1 I.2.2.1 (by rw [hml]; exact hl.1) dX11_look_8 dX11_look_11 dX11_look_12 dX11_look_15 (fun x hx => (hno x hx).elim) (Nat.le_of_ble_eq_true rfl) (Nat.le_of_ble_eq_true rfl) (Nat.le_of_ble_eq_true rfl) (Nat.le_of_ble_eq_true rfl) B.notSynchronized (fun t hvm hsz hsm => ⟨h1, trivial, ⟨k, keep t hsz hsm⟩, ⟨Nat.le_trans I.2.2.1.1 hsz, fun q h1 h2 => (hsm q (Nat.lt_of_lt_of_le h1 I.2.2.1.1)).trans (I.2.2.1.2.1 q h1 h2)⟩⟩) (fun z hz => I.2.2.1.2.2 z hz) (Nat.le_of_ble_eq_true rfl) (Nat.le_of_ble_eq_true rfl)
  · refine lv_if_ne (tgt := 16) S.1 S.2.1 dX11_look_5 (by decide) (fun _ => ?_) (fun z => absurd z (show ¬ (1 : Int32) = 0 by decide))
    refine lv_iload_n S.1 S.2.1 dX11_look_16 rfl (lv_at hl 2 rfl) ?_
    refine lv_tableOut (tgt := 125) S.1 S.2.1 dX11_look_17 (by omega) (by decide) ?_
    have hc : (Cond.castable ph_E2 ph_E2).before [Value.ref (b + 0), .int x1, .int x2].toArray s = true := va_tabs rfl rfl hX.2.2.2.2.2.2.2.2.1
    exact vx_throw0 (A := A) (cls := ph_E2) (names := xnames) S.1 S.2.1 hl0 hown (by decide) (by decide) (hts _ (List.mem_cons_of_mem _ wT_33_9)) (hts _ (List.mem_cons_of_mem _ wT_33_10)) (vx_hat (fun w hw => hts w (List.mem_cons_of_mem _ (wC_wsx1 w hw))) xcst2 (vx_c hc (vx_c (va_tabs rfl rfl hD.1.1) (vx_c (va_tabs rfl rfl hD.1.2.1) (vx_c (va_tabs rfl rfl hD.1.2.2) vx_n))))) xot2 hX.2.2.2.2.2.1 hX.2.2.2.2.2.2.1 I.2.2.1 (by rw [hml]; exact hl.1) dX11_look_125 dX11_look_128 dX11_look_129 dX11_look_132 (fun x hx => (hno x hx).elim) (Nat.le_of_ble_eq_true rfl) (Nat.le_of_ble_eq_true rfl) (Nat.le_of_ble_eq_true rfl) (Nat.le_of_ble_eq_true rfl) B.notSynchronized (fun t hvm hsz hsm => ⟨h1, trivial, ⟨k, keep t hsz hsm⟩, ⟨Nat.le_trans I.2.2.1.1 hsz, fun q h1 h2 => (hsm q (Nat.lt_of_lt_of_le h1 I.2.2.1.1)).trans (I.2.2.1.2.1 q h1 h2)⟩⟩) (fun z hz => I.2.2.1.2.2 z hz) (Nat.le_of_ble_eq_true rfl) (Nat.le_of_ble_eq_true rfl)
  · refine lv_if_ne (tgt := 16) S.1 S.2.1 dX11_look_5 (by decide) (fun _ => ?_) (fun z => absurd z (show ¬ (1 : Int32) = 0 by decide))
    refine lv_iload_n S.1 S.2.1 dX11_look_16 rfl (lv_at hl 2 rfl) ?_
    refine W.widen (k := 1) (n := 6) (Nat.le_of_ble_eq_true rfl) (Nat.le_of_ble_eq_true rfl) ?_
    refine vx_ret ?_
    rcases hN with ⟨rfl, g, n, q, e1, e2, e3⟩ | ⟨rfl, g, n, q, e1, e2, e3⟩ | ⟨rfl, g, n, q, e1, e2, e3⟩ | ⟨rfl, g, n, q, e1, e2, e3⟩ | ⟨rfl, g, t, cr, pc, n, st, v1, v2, e1, e2, e3, e4, e5, e6, e7, e8⟩ | ⟨g, e1⟩
    · refine lv_tableIn (off := 39) (tgt := 56) S.1 S.2.1 dX11_look_17 (by rw [g]; decide) (by rw [g]; decide) (by rw [g]; rfl) (by decide) ?_
      refine lv_aload_n S.1 S.2.1 dX11_look_56 rfl (lv_at hl 0 rfl) ?_
      refine o_gR S lf11_look_47 I e1 dX11_look_57 ?_
      refine o_gR S lf11_look_122 I e2 dX11_look_60 ?_
      refine lv_iload_n S.1 S.2.1 dX11_look_63 rfl (lv_at hl 1 rfl) ?_
      refine o_iald S I e3 dX11_look_64 ?_
      exact W.iret S.1 S.2.1 hr (fun t ht hW => ⟨⟨_, _, rfl, k, ph_end I ht hW⟩, I.2.2.1.F ht⟩) I.2.2.1.2.2 dX11_look_65 hlo
    · refine lv_tableIn (off := 49) (tgt := 66) S.1 S.2.1 dX11_look_17 (by rw [g]; decide) (by rw [g]; decide) (by rw [g]; rfl) (by decide) ?_
      refine lv_aload_n S.1 S.2.1 dX11_look_66 rfl (lv_at hl 0 rfl) ?_
      refine o_gR S lf11_look_47 I e1 dX11_look_67 ?_
      refine o_gR S lf11_look_125 I e2 dX11_look_70 ?_
      refine lv_iload_n S.1 S.2.1 dX11_look_73 rfl (lv_at hl 1 rfl) ?_
      refine o_iald S I e3 dX11_look_74 ?_
      exact W.iret S.1 S.2.1 hr (fun t ht hW => ⟨⟨_, _, rfl, k, ph_end I ht hW⟩, I.2.2.1.F ht⟩) I.2.2.1.2.2 dX11_look_75 hlo
    · refine lv_tableIn (off := 59) (tgt := 76) S.1 S.2.1 dX11_look_17 (by rw [g]; decide) (by rw [g]; decide) (by rw [g]; rfl) (by decide) ?_
      refine lv_aload_n S.1 S.2.1 dX11_look_76 rfl (lv_at hl 0 rfl) ?_
      refine o_gR S lf11_look_47 I e1 dX11_look_77 ?_
      refine o_gR S lf11_look_128 I e2 dX11_look_80 ?_
      refine lv_iload_n S.1 S.2.1 dX11_look_83 rfl (lv_at hl 1 rfl) ?_
      refine o_iald S I e3 dX11_look_84 ?_
      exact W.iret S.1 S.2.1 hr (fun t ht hW => ⟨⟨_, _, rfl, k, ph_end I ht hW⟩, I.2.2.1.F ht⟩) I.2.2.1.2.2 dX11_look_85 hlo
    · refine lv_tableIn (off := 69) (tgt := 86) S.1 S.2.1 dX11_look_17 (by rw [g]; decide) (by rw [g]; decide) (by rw [g]; rfl) (by decide) ?_
      refine lv_aload_n S.1 S.2.1 dX11_look_86 rfl (lv_at hl 0 rfl) ?_
      refine o_gR S lf11_look_47 I e1 dX11_look_87 ?_
      refine o_gR S lf11_look_131 I e2 dX11_look_90 ?_
      refine lv_iload_n S.1 S.2.1 dX11_look_93 rfl (lv_at hl 1 rfl) ?_
      refine o_iald S I e3 dX11_look_94 ?_
      exact W.iret S.1 S.2.1 hr (fun t ht hW => ⟨⟨_, _, rfl, k, ph_end I ht hW⟩, I.2.2.1.F ht⟩) I.2.2.1.2.2 dX11_look_95 hlo
    · refine lv_tableIn (off := 79) (tgt := 96) S.1 S.2.1 dX11_look_17 (by rw [g]; decide) (by rw [g]; decide) (by rw [g]; rfl) (by decide) ?_
      refine lv_aload_n S.1 S.2.1 dX11_look_96 rfl (lv_at hl 0 rfl) ?_
      refine o_gR S lf11_look_18 I e1 dX11_look_97 ?_
      refine o_gR S lf11_look_102 I e2 dX11_look_100 ?_
      refine o_gR S lf11_look_134 I e3 dX11_look_103 ?_
      refine lv_iload_n S.1 S.2.1 dX11_look_106 rfl (lv_at hl 1 rfl) ?_
      refine o_iald S I e4 dX11_look_107 ?_
      refine lv_aload_n S.1 S.2.1 dX11_look_108 rfl (lv_at hl 0 rfl) ?_
      refine o_gR S lf11_look_47 I e5 dX11_look_109 ?_
      refine o_gR S lf11_look_137 I e6 dX11_look_112 ?_
      refine lv_iload_n S.1 S.2.1 dX11_look_115 rfl (lv_at hl 1 rfl) ?_
      refine o_iald S I e7 dX11_look_116 ?_
      refine lv_isub S.1 S.2.1 dX11_look_117 ?_
      subst e8
      exact W.iret S.1 S.2.1 hr (fun t ht hW => ⟨⟨_, _, rfl, k, ph_end I ht hW⟩, I.2.2.1.F ht⟩) I.2.2.1.2.2 dX11_look_118 hlo
    · refine lv_tableIn (off := 102) (tgt := 119) S.1 S.2.1 dX11_look_17 (by rw [g]; decide) (by rw [g]; decide) (by rw [g]; rfl) (by decide) ?_
      refine lv_aload_n S.1 S.2.1 dX11_look_119 rfl (lv_at hl 0 rfl) ?_
      refine lv_iload_n S.1 S.2.1 dX11_look_120 rfl (lv_at hl 1 rfl) ?_
      refine o_Vi (As := [.int x1]) S (M11_farNow l D cy b A false e1) gX11_look_farNow rfl rfl rfl cdX11_farNow9 ⟨Nat.le_of_ble_eq_true rfl, Nat.le_of_ble_eq_true rfl⟩ I ho1 clX11 rfl rfl hl.1 rfl (Nat.le_of_ble_eq_true rfl) dX11_look_121 ⟨Nat.le_of_ble_eq_true rfl, Nat.le_of_ble_eq_true rfl⟩ (fun H2 locs2 I => ?_)
      exact W.iret S.1 S.2.1 hr (fun t ht hW => ⟨⟨_, _, rfl, k, ph_end I ht hW⟩, I.2.2.1.F ht⟩) I.2.2.1.2.2 dX11_look_124 hlo
/-! The law's own look, and its case in the law. -/
def vL_look : List Cond := .codeWith yL_look cL_look 5 (some .int) [(0, 10, 13, 13), (0, 10, 17, 15)] :: TB
theorem gL_look_X11 : GoodIn vL_look (wsV RL 7 RX11 yX11_look vX11_look) := gV_of wT_33_3 wT_33_4 wT_33_5 wT_1_2 wT_33_6
theorem cdX11_look : Cd yX11_look 2 := ⟨by decide, by decide, by decide +kernel⟩
section OL2
variable {p : Program} {l : Launch} {e : Env} {R : Room} {s : State} {m : MethodId} {args : Array Value} {below : List Frame} {meth : Method} {c : Code} {H : Heap} {locs : List Loc} {cells slots : Nat} {Q : State → Prop}
variable {cc : ByteArray} {nL pc : Nat} {ls : Array Slot} {rest : List Value} {D : va_G} {cy : Nat → ClassId} {b : Nat} {A : Nat → Prop} {fl : Bool} {h h' : PH} {Ts : List Cond} {own : String}
theorem o_last2 (S : CallFix p m c cc nL s args Ts own) (I : ph_I D cy b A fl h s H locs) {a : Nat} {i : Int32} {x : Int64} (g : sJ h a i x = some h') (hdg : decode cc pc = .ok (.lastore, 1))
    (kk : ∀ (H1 : Heap) (locs1 : List Loc), ph_I D cy b A fl h' s H1 locs1 → (∀ q : Nat, q ≠ b + a → H1[q]? = H[q]?) → W p l e R s m args below meth c H1 locs1 cells slots Q (F0 m (pc + 1) ls rest)) : W p l e R s m args below meth c H locs cells slots Q (F0 m pc ls (.long x :: .int i :: .ref (b + a) :: rest)) := by
  obtain ⟨n, f, e1, hin, rfl⟩ := sJ_spec g
  refine W.last S.1 S.2.1 (I.1 a _ (ph_w_get e1)) ((I.2.1.2 3 _ rfl).1 n (fun j => .long (f j))) (fun q => by cases q) (by show ¬ (i < 0 ∨ (arrV _ _ _).slots.size ≤ _); rw [arrV_size]; exact hin) rfl rfl hdg fun H1 e9 z oq => ?_
  refine kk H1 _ (ph_I_set I e1 ?_ z oq) oq
  show H1[b + a]? = some (vp_cell (cy 3) (n, .inr (.inl (vp_updL f i.toNatClampNeg x))))
  rw [e9]
  show some ((vp_cell (cy 3) (n, .inr (.inl f))).setSlot _ _) = _
  rw [vp_cell_l, vp_cell_l, arrV_store]
  congr 2
  funext q
  by_cases hq : q = i.toNatClampNeg
  · subst hq
    simp [updV, vp_updL]
  · simp [updV, vp_updL, hq]
end OL2
theorem sJ_o (f : Nat → Int64) (x : Int64) : sJ (wO f) 0 0 x = some (wO (vp_updL f (0 : Int32).toNatClampNeg x)) := rfl
/-- what the law's look may change -/
def AL (b q3 : Nat) (q : Nat) : Prop := Aw b 110 q ∨ q = q3 + 0
/-- its worlds -/
def QB2 (D : va_G) (cy : Nat → ClassId) (b q3 : Nat) (h : PH) (f : Nat → Int64) (U : State) : Prop := (ph_B D cy b (Aw b 110) false h U ∧ DW U) ∧ va_P D ph_cl (ph_w q3 cy (wO f)) U.heap ∧ ph_X cy (AL b q3) U
theorem QB2_blind (D : va_G) (cy : Nat → ClassId) (b q3 : Nat) (h : PH) (f : Nat → Int64) (av : List Value) : FrameBlind (va_Pc av (QB2 D cy b q3 h f)) := by
  intro a U g mk q
  obtain ⟨q0, q1, q2, q3⟩ := q
  have k := PB_blind D cy b (Aw b 110) h av a U g mk ⟨q0, q1⟩
  exact ⟨q0, k.2, q2, ph_X_move (s := U) (U := U.calling g mk a) q3 va_S.rf rfl (State.WarmedH.refl U)⟩
set_option maxHeartbeats 4000000 in
theorem ML_look (l : Launch) (hl0 : l.stackTraces = false) (D : va_G) (cy : Nat → ClassId) (b q3 : Nat) (h3 : b + 110 ≤ q3) {h h1 : PH} (hn : h.length = 110) (hn1 : h1.length = 110) {f : Nat → Int64} {x1 x2 sf : Int32} (ho : okO h 0 11 = true) (ho1 : okO h1 0 11 = true) (g : F11_isSurfer h 0 x1 = some (sf, h1)) (PR : Int32 → PH × (Nat → Int64) → Prop) (K : (sf = 0 ∧ PR 1 (h1, f)) ∨ (sf = 1 ∧ ¬ (0 ≤ x2.toInt ∧ x2.toInt ≤ 5) ∧ PR 2 (h1, f)) ∨ (sf = 1 ∧ ∃ r h', LN h1 x1 x2 r h' ∧ h'.length = 110 ∧ PR 0 (h', vp_updL f (0 : Int32).toNatClampNeg r.toInt64))) : vx_Met l yL_look vL_look ({ frames := 7, cells := 1, slots := 6, locals := 200 } : Room) (va_Pc [.ref (b + 0), .int x1, .int x2, .ref (q3 + 0)] (QB2 D cy b q3 h f)) (va_Qi PR (fun u t => (va_P D ph_cl (ph_w b cy u.1) t.heap ∧ u.1.length = 110) ∧ va_P D ph_cl (ph_w q3 cy (wO u.2)) t.heap) (AL b q3)) (vx_X (fun _ : PH => False) (fun _ _ _ => True) (AL b q3)) 1 6 (AL b q3) := by
  refine vx_ofWH (cc := cL_look) (maxL := 5) (ret := some .int) (by decide) rfl ?_
  intro p e s m args below meth c s₁ B hml hv
  obtain ⟨rfl, ⟨⟨hP, hK, hA, hz, hX⟩, hD⟩, hP3, hX3⟩ := hv
  have hts := atoms_spec (ws := vL_look) B.pre
  have htab := vx_table (x := yL_look) B (hts _ List.mem_cons_self)
  have hown : s.vm.findClass RL = some m.cls := findClass_of_methodNamed B.named
  have S : CallFix p m c cL_look 5 s [Value.ref (b + 0), .int x1, .int x2, .ref (q3 + 0)].toArray vL_look RL := ⟨B.exec, B.bytes, hml, hown, hts⟩
  have I : ph_I D cy b (Aw b 110) false h s s.heap [] := ⟨hP, hK, va_S.rf, hA, hz, hX⟩
  have hr := B.returns
  have hlo := B.notSynchronized
  have hl := lv_entry ([.ref (b + 0), .int x1, .int x2, .ref (q3 + 0)]) (n := 5) (Nat.le_of_ble_eq_true rfl)
  rw [lg_entry_eq]
  generalize (lg_sl ([.ref (b + 0), .int x1, .int x2, .ref (q3 + 0)]) ++ List.replicate (5 - (lg_sl ([.ref (b + 0), .int x1, .int x2, .ref (q3 + 0)])).length) Slot.unset).toArray = ls at hl ⊢
  have hl : lv_has ls 5 [(0, .ref (b + 0)), (1, .int x1), (2, .int x2), (3, .ref (q3 + 0))] := hl
  obtain ⟨fs, e1⟩ := okO_spec ho
  have hAL : ∀ q, Aw b 110 q → AL b q3 q := fun q z => Or.inl z
  -- the place of out stands
  have out : ∀ H1 : Heap, (∀ q : Nat, q < s.heap.size → ¬ Aw b 110 q → H1[q]? = s.heap[q]?) → va_P D ph_cl (ph_w q3 cy (wO f)) H1 := fun H1 hk => vaP_keep hP3 (fun q hq z => hk q hq (by
    obtain ⟨i, _, e9⟩ := z
    intro z2
    have := z2.2
    omega))
  refine lv_aload_n S.1 S.2.1 dL_look_0 rfl (lv_at hl 3 rfl) ?_
  refine lv_iconst (v := 0) S.1 S.2.1 dL_look_1 (by decide) ?_
  refine lv_aload_n S.1 S.2.1 dL_look_2 rfl (lv_at hl 0 rfl) ?_
  refine lv_iload_n S.1 S.2.1 dL_look_3 rfl (lv_at hl 1 rfl) ?_
  refine lv_iload_n S.1 S.2.1 dL_look_4 rfl (lv_at hl 2 rfl) ?_
  refine vx_calli (A0 := AL b q3) (H0 := s.heap) (vx_runV (As := [.int x1, .int x2]) (rest := [.int 0, .ref (q3 + 0)]) (b := b + 0) (C := RX11) S (M11_lookA l hl0 D cy b (Aw b 110) ho ho1 g (fun E => (E = ph_E1 ∧ PR 1 (h1, f)) ∨ (E = ph_E2 ∧ PR 2 (h1, f))) (fun r u => u.length = 110 ∧ PR 0 (u, vp_updL f (0 : Int32).toNatClampNeg r.toInt64)) (by
    rcases K with ⟨k1, k2⟩ | ⟨k1, k2, k3⟩ | ⟨k1, r, h', k2, k3, k4⟩
    · exact Or.inl ⟨k1, Or.inl ⟨rfl, k2⟩⟩
    · exact Or.inr (Or.inl ⟨k1, k2, Or.inr ⟨rfl, k3⟩⟩)
    · exact Or.inr (Or.inr ⟨k1, r, h', k2, k3, k4⟩))) (cwV 2 hts gL_look_X11 rfl rfl rfl ⟨rfl, cdX11_look⟩ ⟨Nat.le_of_ble_eq_true rfl, Nat.le_of_ble_eq_true rfl⟩) ⟨PB_blind D cy b (Aw b 110) h _, va_recv I.2.1 I.1 clX11 (ph_w_get e1), fun U hU hW => ⟨rfl, (ph_pre (av := []) I U hU hW).2, DW_move hD hW⟩⟩ rfl rfl hl.1 rfl (lv_room (Nat.le_of_ble_eq_true rfl)) dL_look_5 ⟨Nat.le_of_ble_eq_true rfl, Nat.le_of_ble_eq_true rfl⟩) va_S.rf (fun q _ h => hAL q h) (fun q h => hAL q h) (fun q _ h => hAL q h) (fun E ce q9 u t H1 locs1 ht hvm hp hB hz hk hS hcell hcv hcl => ?_) (fun r u t H1 locs1 ht hvm hw hB hz hk hS => ?_)
  · obtain ⟨hE, hPx⟩ := hB
    rw [ht] at hPx
    have hPo := out H1 hk
    rcases hE with ⟨rfl, k⟩ | ⟨rfl, k⟩
    · have hc : (Cond.castable ph_E1 ph_E1).before [Value.ref (b + 0), .int x1, .int x2, .ref (q3 + 0)].toArray s = true := va_tabs rfl rfl hX.2.2.2.2.2.2.2.1
      refine vx_catch (own := RL) (name := ph_E1) hown [] { startPc := 0, endPc := 10, handlerPc := 13, catchType := 13 } [{ startPc := 0, endPc := 10, handlerPc := 17, catchType := 15 }] (by rw [htab]; rfl) (fun z hz => nomatch hz) (by decide) (by decide) (hts _ (List.mem_cons_of_mem _ wT_33_1)) hc hcell hcv hcl ?_
      refine lv_astore (lv' := [(4, .ref q9), (0, .ref (b + 0)), (1, .int x1), (2, .int x2), (3, .ref (q3 + 0))]) S.1 S.2.1 dL_look_13 hl (by decide) rfl (fun ls hl => ?_)
      refine lv_iconst (v := 1) S.1 S.2.1 dL_look_15 (by decide) ?_
      exact vx_ret (W.iret S.1 S.2.1 hr (fun t ht hW => ⟨⟨1, (h1, f), rfl, k, by dsimp only; rw [ht]; exact ⟨⟨hPx, hn1⟩, hPo⟩⟩, hS.F ht⟩) hS.2.2 dL_look_16 hlo)
    · have hc : (Cond.castable ph_E2 ph_E2).before [Value.ref (b + 0), .int x1, .int x2, .ref (q3 + 0)].toArray s = true := va_tabs rfl rfl hX.2.2.2.2.2.2.2.2.1
      refine vx_catch (own := RL) (name := ph_E2) hown [{ startPc := 0, endPc := 10, handlerPc := 13, catchType := 13 }] { startPc := 0, endPc := 10, handlerPc := 17, catchType := 15 } [] (by rw [htab]; rfl) (fun z hz => Or.inr (by
        rw [List.mem_singleton] at hz
        subst hz
        exact ⟨by decide, ph_E1, hts _ (List.mem_cons_of_mem _ wT_33_1), hD.2⟩)) (by decide) (by decide) (hts _ (List.mem_cons_of_mem _ wT_33_2)) hc hcell hcv hcl ?_
      refine lv_astore (lv' := [(4, .ref q9), (0, .ref (b + 0)), (1, .int x1), (2, .int x2), (3, .ref (q3 + 0))]) S.1 S.2.1 dL_look_17 hl (by decide) rfl (fun ls hl => ?_)
      refine lv_iconst (v := 2) S.1 S.2.1 dL_look_19 (by decide) ?_
      exact vx_ret (W.iret S.1 S.2.1 hr (fun t ht hW => ⟨⟨2, (h1, f), rfl, k, by dsimp only; rw [ht]; exact ⟨⟨hPx, hn1⟩, hPo⟩⟩, hS.F ht⟩) hS.2.2 dL_look_20 hlo)
  · obtain ⟨k1, k⟩ := hw
    have hPx : va_P D ph_cl (ph_w b cy u) H1 := by rw [← ht]; exact hB.1
    have hPo := out H1 hk
    have I3 : ph_I D cy q3 (AL b q3) false (wO f) s H1 locs1 := ⟨hPo, hK, hS, fun i hi => by
      have e9 : (wO f).length = 1 := rfl
      have : i = 0 := by omega
      subst this
      exact Or.inr rfl, (fun z => by cases z), hX3⟩
    refine lv_i2l S.1 S.2.1 dL_look_8 rfl ?_
    refine o_last2 S I3 (sJ_o f _) dL_look_9 (fun H2 locs2 I4 oq => ?_)
    refine lv_goto (tgt := 21) S.1 S.2.1 dL_look_10 (by decide) ?_
    refine lv_iconst (v := 0) S.1 S.2.1 dL_look_21 (by decide) ?_
    have hPx2 : va_P D ph_cl (ph_w b cy u) H2 := vaP_keep hPx (fun q hq z => oq q (by
      obtain ⟨i, hi, e9⟩ := z
      omega))
    exact vx_ret (W.iret S.1 S.2.1 hr (fun t ht hW => ⟨⟨0, (u, vp_updL f (0 : Int32).toNatClampNeg r.toInt64), rfl, k, by dsimp only; rw [ht]; exact ⟨⟨hPx2, k1⟩, I4.1⟩⟩, I4.2.2.1.F ht⟩) I4.2.2.1.2.2 dL_look_22 hlo)
theorem gS_law : GoodIn lw_tbl (va_wsS RL 39 yL_look vL_look) := by
  have k : ∀ w ∈ va_wsS RL 39 yL_look vL_look, w ∈ TB := by
    intro w hw
    unfold va_wsS at hw
    rcases List.mem_append.mp hw with h | h
    · rcases List.mem_cons.mp h with e | h
      · rw [e]; exact wT_32_21
      · rcases List.mem_cons.mp h with e | h
        · rw [e]; exact wT_32_22
        · rcases List.mem_cons.mp h with e | h
          · rw [e]; exact wT_32_23
          · cases h
    · rcases List.mem_cons.mp h with e | h
      · rw [e]; exact wT_33_0
      · exact h
  exact fun w hw => ⟨TB_in w (k w hw), TB_good w (k w hw)⟩
theorem cdL_look : Cd yL_look 4 := ⟨by decide, by decide, by decide +kernel⟩
theorem gL_12_look : GoodIn lw_tbl (wsV RL 44 RX12 yX12_look vX12_look) := gV_law wT_34_10 wT_34_11 wT_34_12 wT_1_5 wT_34_13
theorem cdL_12_look : Cd yX12_look 2 := ⟨by decide, by decide, by decide +kernel⟩
section LK
variable {p : Program} {l : Launch} {e : Env} {s : State} {m : MethodId} {below : List Frame} {meth : Method} {c : Code} {b L : Nat} {xs : Nat → Int32} {D : va_G} {cy : Nat → ClassId} {H : Heap} {locs : List Loc} {ls : Array Slot}
set_option maxHeartbeats 4000000 in
theorem lc_360 (hl0 : l.stackTraces = false) (hD : DW s) (S : CallFix p m c cL_law 7 s #[Value.ref b] lw_tbl RL) (hX : va_X b L xs s s.heap) (hbl : b < s.heap.size) {hx hm : PH} {f : Nat → Int64} (I : LW D cy hx hm f s H locs) {i : Int32} (hin : IN i L) {cl sl : Nat} (hc : cl ≤ 1000 ∧ sl ≤ 20000) (hl : lv_has ls 7 (LV b s i)) (K : ∀ (hx' hm' : PH) (f' : Nat → Int64) (H' : Heap) (locs' : List Loc) (ls' : Array Slot), LW D cy hx' hm' f' s H' locs' → lv_has ls' 7 (LV b s i) → W p l e room_1 s m #[Value.ref b] below meth c H' locs' (cl + 1) (sl + 6) (lw_Z below #[Value.ref b] s) (F0 m 1526 ls' [])) : W p l e room_1 s m #[Value.ref b] below meth c H locs cl sl (lw_Z below #[Value.ref b] s) (F0 m 360 ls []) := by
  have hbA : ¬ A0 s b := Nat.not_le.mpr hbl
  have hx9 := S.1
  have hb9 := S.2.1
  obtain ⟨I1, I2, I3, L0⟩ := I
  have hS := I1.2.2.1
  obtain ⟨_, v1, v2, v3, v4, v5⟩ := hin
  obtain ⟨om, hm', sf, h1, em, es, o1, kk⟩ := p_look L0 (xs (i + 1).toNatClampNeg) (xs (i + 2).toNatClampNeg)
  have hA1 : ∀ q, Aw s.heap.size 110 q → s.heap.size ≤ q := fun q z => z.1
  have hA2 : ∀ q, AL s.heap.size (s.heap.size + 153) q → A0 s q := fun q z => by
    rcases z with z | z
    · exact z.1
    · show s.heap.size ≤ q
      omega
  have hl : lv_has ls 7 [(0, .ref b), (1, .ref (s.heap.size + 0)), (2, .ref (s.heap.size + 110 + 0)), (3, .ref (s.heap.size + 153 + 0)), (4, .int i)] := hl
  refine lv_aload_n hx9 hb9 dL_law_360 rfl (lv_at hl 1 rfl) ?_
  refine lv_aload_n hx9 hb9 dL_law_361 rfl (lv_at hl 0 rfl) ?_
  refine lv_iload hx9 hb9 dL_law_362 (lv_at hl 4 rfl) ?_
  refine lv_iconst (v := 1) hx9 hb9 dL_law_364 (by decide) ?_
  refine lv_iadd hx9 hb9 dL_law_365 ?_
  refine va_sld (A := A0 s) hx9 hb9 hX hbl hbA hS v1 dL_law_366 ?_
  refine lv_aload_n hx9 hb9 dL_law_367 rfl (lv_at hl 0 rfl) ?_
  refine lv_iload hx9 hb9 dL_law_368 (lv_at hl 4 rfl) ?_
  refine lv_iconst (v := 2) hx9 hb9 dL_law_370 (by decide) ?_
  refine lv_iadd hx9 hb9 dL_law_371 ?_
  refine va_sld (A := A0 s) hx9 hb9 hX hbl hbA hS v2 dL_law_372 ?_
  refine lv_aload_n hx9 hb9 dL_law_373 rfl (lv_at hl 3 rfl) ?_
  refine vx_calli (A0 := A0 s) (H0 := s.heap) (vx_runSX (As := [.ref (s.heap.size + 0), .int (xs (i + 1).toNatClampNeg), .int (xs (i + 2).toNatClampNeg), .ref (s.heap.size + 153 + 0)]) (rest := []) S (ML_look l hl0 D cy s.heap.size (s.heap.size + 153) (by omega) (x_ok L0.1).2 (x_ok o1).2 (f := f) (x_ok L0.1).1 (x_ok o1).1 es (fun _ u => LRl u.1 hm') (by
    rcases kk with ⟨k1, k2, _⟩ | ⟨k1, k2, k3, _⟩ | ⟨k1, h', k2, k3, _⟩
    · exact Or.inl ⟨k1, k2⟩
    · exact Or.inr (Or.inl ⟨k1, k2, k3⟩)
    · exact Or.inr (Or.inr ⟨k1, om, h', k2, (x_ok k3.1).2, k3⟩))) (vx_cwSW 4 S.2.2.2.2 gS_law rfl rfl rfl cdL_look ⟨Nat.le_of_ble_eq_true rfl, Nat.le_of_ble_eq_true rfl⟩) ⟨QB2_blind D cy s.heap.size (s.heap.size + 153) hx f _, fun U hU hW => ⟨rfl, ⟨(lm_pre (av := []) (fl := false) I1 (Nat.le_refl _) (fun z => by cases z) hA1 (fun i hi => ⟨Nat.le_add_right _ _, by omega⟩) U hU hW).2, DW_move hD hW⟩, by rw [hU]; exact I3.1, ph_X_narrow (ph_X_move I1.2.2.2.2 I1.2.2.1 hU hW) hA2⟩⟩ rfl rfl hl.1 rfl (lv_room (Nat.le_of_ble_eq_true rfl)) dL_law_374 ⟨Nat.le_trans (Nat.add_le_add_right hc.1 _) (Nat.le_of_ble_eq_true rfl), Nat.le_trans (Nat.add_le_add_right hc.2 _) (Nat.le_of_ble_eq_true rfl)⟩) hS (fun q _ h => hA2 q h) (fun q h => hA2 q h) (fun q _ h => hA2 q h) (fun E ce q9 u t H1 locs1 ht hvm hp => hp.elim) (fun r u t H1 locs1 ht hvm hw hB hz1 hk1 hS => ?_)
  have J1 : LM D cy s.heap.size 110 u.1 s H1 locs1 := ⟨by rw [← ht]; exact hB.1.1, I1.2.1, hS, fun i hi => by have := hB.1.2; omega, I1.2.2.2.2⟩
  have J3 : LM D cy (s.heap.size + 153) 1 (wO u.2) s H1 locs1 := ⟨by rw [← ht]; exact hB.2, I1.2.1, hS, fun i hi => hi, I1.2.2.2.2⟩
  have I2 := LM_kept I2 (A := AL s.heap.size (s.heap.size + 153)) (fun i hi z => by
    rcases z with z | z
    · have := z.2; omega
    · omega) hk1 hS
  refine lv_istore (lv' := [(5, .int (r)), (0, .ref b), (1, .ref (s.heap.size + 0)), (2, .ref (s.heap.size + 110 + 0)), (3, .ref (s.heap.size + 153 + 0)), (4, .int i)]) hx9 hb9 dL_law_377 hl (by decide) rfl (fun ls hl => ?_)
  have hl := lv_sub hl [1, 2, 3, 4, 5] rfl
  refine lv_aload_n hx9 hb9 dL_law_379 rfl (lv_at hl 2 rfl) ?_
  refine lv_aload_n hx9 hb9 dL_law_380 rfl (lv_at hl 0 rfl) ?_
  refine lv_iload hx9 hb9 dL_law_381 (lv_at hl 4 rfl) ?_
  refine lv_iconst (v := 1) hx9 hb9 dL_law_383 (by decide) ?_
  refine lv_iadd hx9 hb9 dL_law_384 ?_
  refine va_sld (A := A0 s) hx9 hb9 hX hbl hbA hS v1 dL_law_385 ?_
  refine lv_aload_n hx9 hb9 dL_law_386 rfl (lv_at hl 0 rfl) ?_
  refine lv_iload hx9 hb9 dL_law_387 (lv_at hl 4 rfl) ?_
  refine lv_iconst (v := 2) hx9 hb9 dL_law_389 (by decide) ?_
  refine lv_iadd hx9 hb9 dL_law_390 ?_
  refine va_sld (A := A0 s) hx9 hb9 hX hbl hbA hS v2 dL_law_391 ?_
  refine l_Vi (As := [.int (xs (i + 1).toNatClampNeg), .int (xs (i + 2).toNatClampNeg)]) S (M12_look l D cy (s.heap.size + 110) (Aw (s.heap.size + 110) 43) false em) gL_12_look rfl rfl rfl cdL_12_look ⟨Nat.le_of_ble_eq_true rfl, Nat.le_of_ble_eq_true rfl⟩ I2 (Nat.le_add_right _ _) (m_ok L0.2.1).1 clX12 rfl rfl hl.1 rfl (Nat.le_of_ble_eq_true rfl) dL_law_392 ⟨Nat.le_trans (Nat.add_le_add_right (Nat.add_le_add_right hc.1 1) _) (Nat.le_of_ble_eq_true rfl), Nat.le_trans (Nat.add_le_add_right (Nat.add_le_add_right hc.2 6) _) (Nat.le_of_ble_eq_true rfl)⟩ (fun H2 locs2 J2 hk2 => ?_)
  have J1 := LM_kept J1 (A := Aw (s.heap.size + 110) 43) (fun i hi z => by have := z.1; omega) hk2 J2.2.2.1
  have J3 := LM_kept J3 (A := Aw (s.heap.size + 110) 43) (fun i hi z => by have := z.2; omega) hk2 J2.2.2.1
  refine lv_istore (lv' := [(6, .int om), (0, .ref b), (1, .ref (s.heap.size + 0)), (2, .ref (s.heap.size + 110 + 0)), (3, .ref (s.heap.size + 153 + 0)), (4, .int i)]) hx9 hb9 dL_law_395 hl (by decide) rfl (fun ls hl => ?_)
  refine lv_goto (tgt := 1526) hx9 hb9 dL_law_397 (by decide) ?_
  exact K _ _ _ _ _ _ ⟨J1, J2, J3, hw⟩ (lv_sub hl [1, 2, 3, 4, 5] rfl)
end LK
/-! What the law finds at its entry; the law from its entry. -/
theorem qA0 : Cond.arrayOver (.object "WhoseWave$Law") ∈ lw_tbl := by decide +kernel
theorem qS1 : Cond.laysStatic "WhoseWave" "GAME_WAYS" "[I" ∈ lw_tbl := by decide +kernel
theorem qS2 : Cond.laysStatic "java/lang/String" "COMPACT_STRINGS" "Z" ∈ lw_tbl := by decide +kernel
theorem qS3 : Cond.laysStatic "jdk/internal/util/Preconditions" "SIOOBE_FORMATTER" "Ljava/util/function/BiFunction;" ∈ lw_tbl := by decide +kernel
theorem qS4 : Cond.laysStatic Bundle.tN "UNASSIGNED_STACK" Bundle.steD ∈ lw_tbl := by decide +kernel
theorem qS5 : Cond.laysStatic Bundle.tN "SUPPRESSED_SENTINEL" Bundle.listD ∈ lw_tbl := by decide +kernel
theorem qI1 : Cond.initialized "WhoseWave" ∈ lw_tbl := by decide +kernel
theorem qI2 : Cond.initialized "java/lang/String" ∈ lw_tbl := by decide +kernel
theorem qI3 : Cond.initialized "jdk/internal/util/Preconditions" ∈ lw_tbl := by decide +kernel
theorem qI4 : Cond.initialized Bundle.tN ∈ lw_tbl := by decide +kernel
theorem qC1 : Cond.castable ph_E1 ph_E1 ∈ lw_tbl := by decide +kernel
theorem qC2 : Cond.castable ph_E2 ph_E2 ∈ lw_tbl := by decide +kernel
theorem qF1 : Cond.fieldLinkNest RX0 84 "WhoseWave" "GAME_WAYS" "[I" "WhoseWave" ∈ lw_tbl := by decide +kernel
theorem qD1 : Cond.declares xd1 ∈ lw_tbl := by decide +kernel
theorem qD2 : Cond.declares xd2 ∈ lw_tbl := by decide +kernel
theorem qD3 : Cond.declares xd3 ∈ lw_tbl := by decide +kernel
theorem qR1 : Cond.stringRef "WhoseWave$Tokens" 19 "sea   peak  surferset   bank  rule  seed  law   deep  turns each  out   catch drift away  not   and   or    far   side  board size  minutewhich " ∈ lw_tbl := by decide +kernel
def fl1 : List Cond := flatC (Jvm.Cond.and given_1 narrow_1)
def tGW : Term := .static "WhoseWave" "GAME_WAYS" "[I"
def tLG : Term := .string "WhoseWave$Tokens" 19
def tLV : Term := .field tLG "java/lang/String" "value" "[B"
theorem f1 : Cond.arrayOf tGW .int ∈ fl1 := by decide +kernel
theorem f2 : Cond.eq (.length tGW) (.int (Int32.ofNat 5)) ∈ fl1 := by decide +kernel
theorem f3 : Cond.eq (.static "java/lang/String" "COMPACT_STRINGS" "Z") (.int 1) ∈ fl1 := by decide +kernel
theorem f4 : Cond.isRef (.static "jdk/internal/util/Preconditions" "SIOOBE_FORMATTER" "Ljava/util/function/BiFunction;") ∈ fl1 := by decide +kernel
theorem f5 : Cond.isRef (.static Bundle.tN "UNASSIGNED_STACK" Bundle.steD) ∈ fl1 := by decide +kernel
theorem f6 : Cond.isRef (.static Bundle.tN "SUPPRESSED_SENTINEL" Bundle.listD) ∈ fl1 := by decide +kernel
theorem f7 : Cond.exactly tLG "java/lang/String" ∈ fl1 := by decide +kernel
theorem f8 : Cond.eq (.field tLG "java/lang/String" "coder" "B") (.int 0) ∈ fl1 := by decide +kernel
theorem f9 : Cond.arrayOf tLV .byte ∈ fl1 := by decide +kernel
theorem f10 : Cond.eq (.length tLV) (.int (Int32.ofNat 144)) ∈ fl1 := by decide +kernel
theorem f11 : (List.range 5).all (fun j => decide (Cond.eq (.elem tGW (.int (Int32.ofNat j))) (.int (ph_gw j)) ∈ fl1)) = true := by decide +kernel
theorem f12 : (List.range 144).all (fun j => decide (fl1[51 + j]? = some (Cond.eq (.elem tLV (.int (Int32.ofNat j))) (.int (ph_lang.getD j 0))))) = true := by decide +kernel
theorem arrc {s : State} {args : Array Value} {ty : FieldType} (hno : ∀ C, ty ≠ .object C) (h : (Cond.arrayClass ty).before args s = true) : ∃ cA : ClassId, ArrOfT s cA ty ∧ va_RA s cA ty := by
  obtain ⟨c, k, comp, h1, h2, h3⟩ := Cond.arrayClass_spec h
  refine ⟨c, fun n z => ⟨fun k h => (by cases h), k, h2, comp, h3⟩, ?_⟩
  cases ty <;> first | exact h1 | exact absurd rfl (hno _)
theorem arro {s : State} {args : Array Value} {C : String} (h : (Cond.arrayOver (.object C)).before args s = true) : ∃ cA : ClassId, ArrOfT s cA (.object C) ∧ va_RA s cA (.object C) := by
  obtain ⟨comp, c, k, h1, h2, h3, h4, h5⟩ := Cond.arrayOver_spec h
  exact ⟨c, fun n z => ⟨fun k h => (by cases h), k, h3, comp, h4⟩, k, comp, h3, h4, h1, h5⟩
def cyF (c0 c1 c2 c3 c4 aK aV : Nat) (t : Nat) : ClassId := if t = 0 then c0 else if t = 1 then c1 else if t = 2 then c2 else if t = 3 then c3 else if t = 4 then c4 else if t = 100 then aK else aV
set_option maxHeartbeats 4000000 in
/-- the machine's facts that the law hands on -/
theorem law_facts {s : State} {b : Nat} (hts : ∀ w ∈ lw_tbl, w.before #[Value.ref b] s = true) (hgv : (Jvm.Cond.and given_1 narrow_1).before #[Value.ref b] s = true) : ∃ (D : va_G) (cy : Nat → ClassId), va_K D ph_cl (ph_t cy) s ∧ ph_X cy (A0 s) s := by
  have hf := flat_of_before _ hgv
  have hA : ∀ a : Nat, a < s.heap.size → ¬ A0 s a := fun a h z => absurd z (Nat.not_le.mpr h)
  obtain ⟨c0, i0, hk0⟩ := u_known (C := RX0) (T := TX0) (N := 13) (n := 13) hts (fun w h => TB_in w (wC_wsX00 w h)) (hts _ (TB_in _ wT_2_20))
  obtain ⟨c1, i1, hk1⟩ := u_known (C := RX1) (T := TX1) (N := 7) (n := 7) hts (fun w h => TB_in w (wC_wsX10 w h)) (hts _ (TB_in _ wT_3_4))
  obtain ⟨c2, i2, hk2⟩ := u_known (C := RX2) (T := TX2) (N := 3) (n := 3) hts (fun w h => TB_in w (wC_wsX20 w h)) (hts _ (TB_in _ wT_3_13))
  obtain ⟨c3, i3, hk3⟩ := u_known (C := RX3) (T := TX3) (N := 7) (n := 7) hts (fun w h => TB_in w (wC_wsX30 w h)) (hts _ (TB_in _ wT_2_12))
  obtain ⟨c4, i4, hk4⟩ := u_known (C := RX4) (T := TX4) (N := 11) (n := 11) hts (fun w h => TB_in w (wC_wsX40 w h)) (hts _ (TB_in _ wT_2_6))
  obtain ⟨c5, i5, hk5⟩ := u_known (C := RX5) (T := TX5) (N := 11) (n := 11) hts (fun w h => TB_in w (wC_wsX50 w h)) (hts _ (TB_in _ wT_1_21))
  obtain ⟨c6, i6, hk6⟩ := u_known (C := RX6) (T := TX6) (N := 9) (n := 9) hts (fun w h => TB_in w (wC_wsX60 w h)) (hts _ (TB_in _ wT_2_1))
  obtain ⟨c7, i7, hk7⟩ := u_known (C := RX7) (T := TX7) (N := 7) (n := 7) hts (fun w h => TB_in w (wC_wsX70 w h)) (hts _ (TB_in _ wT_5_1))
  obtain ⟨c8, i8, hk8⟩ := u_known (C := RX8) (T := TX8) (N := 14) (n := 14) hts (fun w h => TB_in w (wC_wsX80 w h)) (hts _ (TB_in _ wT_1_16))
  obtain ⟨c9, i9, hk9⟩ := u_known (C := RX9) (T := TX9) (N := 3) (n := 3) hts (fun w h => TB_in w (wC_wsX90 w h)) (hts _ (TB_in _ wT_2_16))
  obtain ⟨c10, i10, hk10⟩ := u_known (C := RX10) (T := TX10) (N := 8) (n := 8) hts (fun w h => TB_in w (wC_wsX100 w h)) (hts _ (TB_in _ wT_3_8))
  obtain ⟨c11, i11, hk11⟩ := u_known (C := RX11) (T := TX11) (N := 14) (n := 14) hts (fun w h => TB_in w (wC_wsX110 w h)) (hts _ (TB_in _ wT_1_1))
  obtain ⟨c12, i12, hk12⟩ := u_known (C := RX12) (T := TX12) (N := 87) (n := 87) hts (fun w h => TB_in w (wC_wsX120 w h)) (hts _ (TB_in _ wT_1_4))
  obtain ⟨a0, r0⟩ := arrc (ty := .int) (fun _ q => by cases q) (hts _ (TB_in _ wT_3_21))
  obtain ⟨a1, r1⟩ := arrc (ty := .byte) (fun _ q => by cases q) (hts _ (TB_in _ wT_1_13))
  obtain ⟨a2, r2⟩ := arrc (ty := .boolean) (fun _ q => by cases q) (hts _ (TB_in _ wT_8_19))
  obtain ⟨a3, r3⟩ := arrc (ty := .long) (fun _ q => by cases q) (hts _ (TB_in _ wT_1_6))
  obtain ⟨a4, r4⟩ := arro (hts _ qA0)
  obtain ⟨adK, adV, hv, he⟩ := vk_Sof (A := A0 s) (args := #[Value.ref b]) (s := s) (N := 1) (tm := fun _ => tLG) (len := [144]) (byt := [ph_lang]) (fun i hi => by rw [show i = 0 by omega]; decide) (fun i hi => hf _ f7) (fun i hi => hf _ f8) (fun i hi => hf _ f9) (fun i hi => by rw [show i = 0 by omega]; exact hf _ f10) (fun i hi j hj => by
      rw [show i = 0 by omega] at hj ⊢
      exact hf _ (List.mem_of_getElem? (of_decide_eq_true (List.all_eq_true.mp f12 j (List.mem_range.mpr hj))))) (fun i j hi hj hij => absurd (by omega) hij) hA
  obtain ⟨t, ht, hT⟩ := va_Tof (A := A0 s) (args := #[Value.ref b]) (s := s) (tm := tGW) (N := 5) (f := fun j => .int (ph_gw j)) (by decide) (hf _ f1) (va_eqt (hf _ f2)) (fun j hj => va_eqt (hf _ (of_decide_eq_true (List.all_eq_true.mp f11 j (List.mem_range.mpr hj))))) hA
  refine ⟨(fun k => [c0, c1, c2, c3, c4, c5, c6, c7, c8, c9, c10, c11, c12].getD k 0, fun k => [i0, i1, i2, i3, i4, i5, i6, i7, i8, i9, i10, i11, i12].getD k (fun _ => 0)), cyF a0 a1 a2 a3 a4 (adK 0) (adV 0), ⟨fun k q hq => ?_, fun k q hq => ?_⟩, ?_⟩
  · match k, hq with
    | 0, hq => cases hq; exact hk0
    | 1, hq => cases hq; exact hk1
    | 2, hq => cases hq; exact hk2
    | 3, hq => cases hq; exact hk3
    | 4, hq => cases hq; exact hk4
    | 5, hq => cases hq; exact hk5
    | 6, hq => cases hq; exact hk6
    | 7, hq => cases hq; exact hk7
    | 8, hq => cases hq; exact hk8
    | 9, hq => cases hq; exact hk9
    | 10, hq => cases hq; exact hk10
    | 11, hq => cases hq; exact hk11
    | 12, hq => cases hq; exact hk12
    | k + 13, hq => simp [ph_cl] at hq
  · match k, hq with
    | 0, hq => cases hq; exact r0
    | 1, hq => cases hq; exact r1
    | 2, hq => cases hq; exact r2
    | 3, hq => cases hq; exact r3
    | 4, hq => cases hq; exact r4
    | k + 5, hq => simp [ph_t] at hq
  · exact ⟨va_AO.of (hts _ qA0), ⟨t, va_Zof (hts _ qS1) (hts _ qI1) ht hA, hT⟩, ⟨vk_R.of (hts _ qR1) (he 0 (by decide)), ⟨fun i hi => by rw [show i = 0 by omega]; exact hv.1 0 (by decide), fun i j hi hj _ => by omega⟩⟩, va_Zof (hts _ qS2) (hts _ qI2) (va_eqt (hf _ f3)) hA, va_Zqof (hts _ qS3) (hts _ qI3) (hf _ f4) hA, vx_Zqof (hts _ qS4) (hts _ qI4) (hf _ f5) hA, vx_Zqof (hts _ qS5) (hts _ qI4) (hf _ f6) hA, va_Nw.of rfl (hts _ qC1), va_Nw.of rfl (hts _ qC2), va_Nw.of rfl (hts _ qF1)⟩
theorem fNC : Cond.not (.castable ph_E2 ph_E1) ∈ fl1 := by decide +kernel
theorem law_DW {s : State} {b : Nat} (hts : ∀ w ∈ lw_tbl, w.before #[Value.ref b] s = true) (hgv : (Jvm.Cond.and given_1 narrow_1).before #[Value.ref b] s = true) : DW s := ⟨⟨va_Nw.of rfl (hts _ qD1), va_Nw.of rfl (hts _ qD2), va_Nw.of rfl (hts _ qD3)⟩, va_Nc.of (flat_of_before _ hgv _ fNC)⟩
/-! The law from its entry. -/
section OI
variable {p : Program} {l : Launch} {e : Env} {R : Room} {s : State} {m : MethodId} {args : Array Value} {below : List Frame} {meth : Method} {c : Code} {H : Heap} {locs : List Loc} {cells slots : Nat} {Q : State → Prop}
variable {cc : ByteArray} {nL pc : Nat} {ls : Array Slot} {rest st0 : List Value} {D : va_G} {cy : Nat → ClassId} {bw nw : Nat} {h : PH} {Ts ws ws' : List Cond} {own : String}
variable {y : MethodName} {bytes : ByteArray} {maxL mc ms index : Nat} {rm : Room}
theorem l_Iv (S : CallFix p m c cc nL s args Ts own) {A : Nat → Prop} {out : PH} (hM : Met l y ws rm (va_Pc [.ref (bw + 0)] (ph_B D cy bw A true h)) (va_Qv (fun (u : PH) => u = out) (ph_B D cy bw A true) A) mc ms A) (hT : GoodIn Ts ws) (hil : Il Ts own index y) (hyn : y.name = "<init>") (hw : ws = Cond.code y bytes maxL none :: ws') (hrc : rm.cells = mc) (hrs : rm.slots = ms) (hd : Cd y 0) (hR : rm.frames + 1 ≤ R.frames ∧ 8 + (maxL + 11) + rm.locals ≤ R.locals) (I : LM D cy bw nw h s H locs) (hb : s.heap.size ≤ bw) (hz : H.size = bw + h.length) (hAA : ∀ q, A q → bw ≤ q) (hAB : ∀ i, i < nw → A (bw + i)) (hlen : ∀ i, i < out.length → i < nw)
    (hsz : ls.size = nL) (hst : st0 = .ref (bw + 0) :: rest) (hW : (rest.map fun v => v.category).sum ≤ 8) (hdg : decode cc pc = .ok (.invokespecial index, 3)) (hf : cells + mc ≤ R.cells ∧ slots + ms ≤ R.slots)
    (kk : ∀ (H1 : Heap) (locs1 : List Loc), LM D cy bw nw out s H1 locs1 → H1.size = bw + out.length → (∀ q : Nat, q < H.size → ¬ A q → H1[q]? = H[q]?) → W p l e R s m args below meth c H1 locs1 (cells + mc) (slots + ms) Q (F0 m (pc + 3) ls rest)) : W p l e R s m args below meth c H locs cells slots Q (F0 m pc ls st0) := by
  have hA1 : ∀ q, A q → s.heap.size ≤ q := fun q z => Nat.le_trans hb (hAA q z)
  refine va_callv (A0 := A0 s) (va_runI (As := []) (rest := rest) (b := bw + 0) S hM (cwI 0 S.2.2.2.2 hT hw hrc hrs (S.2.2.2.2 _ hil.1) (S.2.2.2.2 _ hil.2.1) (S.2.2.2.2 _ hil.2.2) hyn hd hR) ⟨ph_B_blind D cy bw A true h _, lm_pre (fl := true) I hb (fun _ => hz) hA1 hAB⟩ rfl rfl hsz hst (lv_room hW) hdg hf) I.2.2.1 (fun q _ h => hA1 q h) (fun q h => hA1 q h) (fun u t H1 locs1 ht hvm hw hB hz1 hk1 hS => ?_)
  subst hw
  exact kk H1 locs1 ⟨by rw [← ht]; exact hB.1, I.2.1, hS, hlen, I.2.2.2.2⟩ (by rw [← ht]; exact hB.2.2.2.1 rfl) hk1
end OI
theorem lnL_8 : Nl lw_tbl RL 8 11 14 zF11 := ⟨RX11, TX11, tyX11, rfl, (fun w h9 => TB_in w (wC_wsX110 w h9)), tyX11_ok, TB_in _ wT_1_0, TB_in _ wT_1_1, TB_in _ wT_1_2, zF11_ok⟩
theorem lnL_18 : Nl lw_tbl RL 18 12 87 zF12 := ⟨RX12, TX12, tyX12, rfl, (fun w h9 => TB_in w (wC_wsX120 w h9)), tyX12_ok, TB_in _ wT_1_3, TB_in _ wT_1_4, TB_in _ wT_1_5, zF12_ok⟩
theorem cdL_11_init : Cd yX11_init 0 := ⟨by decide, by decide, by decide +kernel⟩
theorem cdL_12_init : Cd yX12_init 0 := ⟨by decide, by decide, by decide +kernel⟩
theorem nCx (h : PH) (c : PC) : nC h c = some (h ++ [c]) := rfl
theorem push_at (h : PH) (c : PC) {n : Nat} (hn : h.length = n) : (h ++ [c])[n]? = some c := by subst hn; simp
theorem sp1 {D : va_G} {cy : Nat → ClassId} {b : Nat} {h : PH} {c : PC} {H : Heap} (hP : va_P D ph_cl (ph_w b cy (h ++ [c])) H) : va_P D ph_cl (ph_w b cy h) H := fun k q hk => hP k q (by rw [ph_w_push, List.getElem?_append_left (List.getElem?_eq_some_iff.mp hk).1]; exact hk)
theorem sp2 {D : va_G} {cy : Nat → ClassId} {b n : Nat} {h : PH} {c : PC} {H : Heap} (hP : va_P D ph_cl (ph_w b cy (h ++ [c])) H) (hn : h.length = n) : va_at D ph_cl (b + n, ph_e b cy c) H := hP n _ (ph_w_get (push_at h c hn))
theorem sp3 {D : va_G} {cy : Nat → ClassId} {b : Nat} {c : PC} {H : Heap} (hP : va_at D ph_cl (b, ph_e b cy c) H) : va_P D ph_cl (ph_w b cy [c]) H := by
  intro k q hk
  have hk0 : k = 0 := by
    have := (List.getElem?_eq_some_iff.mp hk).1
    have hz : (ph_w b cy [c]).length = 1 := by simp [ph_w]
    omega
  subst hk0
  have h1 : (ph_w b cy [c])[0]? = some (b + 0, ph_e b cy c) := ph_w_get rfl
  have e9 := Option.some.inj (h1.symm.trans hk)
  rw [← e9]
  exact hP
theorem sp4 {n : Nat} {h : PH} {c : PC} (hn : h.length = n) : (h ++ [c]).length = n + 1 := by rw [List.length_append, hn]; rfl
theorem lgX : hxF.length = 110 := by decide +kernel
theorem lgM : hmF.length = 43 := by decide +kernel
theorem zfree (b b' : Nat) (cy : Nat → ClassId) : ph_e b cy (.inr (12, zF12)) = ph_e b' cy (.inr (12, zF12)) := rfl
theorem lenX : ∀ i, i < hxF.length → i < 110 := fun i hi => by rw [lgX] at hi; exact hi
theorem lenM : ∀ i, i < hmF.length → i < 43 := fun i hi => by rw [lgM] at hi; exact hi
section LS
variable {p : Program} {l : Launch} {e : Env} {s : State} {m : MethodId} {below : List Frame} {meth : Method} {c : Code} {b L : Nat} {xs : Nat → Int32} {D : va_G} {cy : Nat → ClassId}
theorem law_out {H : Heap} {locs : List Loc} {ls : Array Slot} (S : CallFix p m c cL_law 7 s #[Value.ref b] lw_tbl RL) (hr : meth.sig.returnType = ret) (hlo : meth.locks = false) (hS : va_S (A0 s) s.heap H locs) {cells slots : Nat} (h1 : cells ≤ 601024) (h2 : slots ≤ 7293034) : W p l e room_1 s m #[Value.ref b] below meth c H locs cells slots (lw_Z below #[Value.ref b] s) (F0 m 1532 ls []) := by
  refine lv_iconst (v := 1) S.1 S.2.1 dL_law_1532 (by decide) ?_
  refine va_forget (fun q hq => hS.2.2 q hq) ?_
  refine W.widen h1 h2 ?_
  exact lw_ret S.1 S.2.1 hr hlo dL_law_1533
set_option maxHeartbeats 4000000 in
/-- one call -/
theorem law_sw {H : Heap} {locs : List Loc} {ls : Array Slot} (hl0 : l.stackTraces = false) (hD : DW s) (S : CallFix p m c cL_law 7 s #[Value.ref b] lw_tbl RL) (hX : va_X b L xs s s.heap) (hbl : b < s.heap.size) {hx hm : PH} {f : Nat → Int64} (I : LW D cy hx hm f s H locs) {i : Int32} (hin : IN i L) {cl sl : Nat} (hc : cl ≤ 1000 ∧ sl ≤ 20000) (hl : lv_has ls 7 (LV b s i)) (K : ∀ (hx' hm' : PH) (f' : Nat → Int64) (H' : Heap) (locs' : List Loc) (ls' : Array Slot), LW D cy hx' hm' f' s H' locs' → lv_has ls' 7 (LV b s i) → W p l e room_1 s m #[Value.ref b] below meth c H' locs' (cl + 1) (sl + 6) (lw_Z below #[Value.ref b] s) (F0 m 1526 ls' [])) : W p l e room_1 s m #[Value.ref b] below meth c H locs cl sl (lw_Z below #[Value.ref b] s) (F0 m 33 ls []) := by
  have hbA : ¬ A0 s b := Nat.not_le.mpr hbl
  have hx9 := S.1
  have hb9 := S.2.1
  have hS := I.1.2.2.1
  refine lv_aload_n hx9 hb9 dL_law_33 rfl (lv_at hl 0 rfl) ?_
  refine lv_iload hx9 hb9 dL_law_34 (lv_at hl 4 rfl) ?_
  refine va_sld (A := A0 s) hx9 hb9 hX hbl hbA hS hin.1 dL_law_36 ?_
  refine lv_bipush (v := 63) hx9 hb9 dL_law_37 (by decide) ?_
  refine lv_iand hx9 hb9 dL_law_39 ?_
  refine lv_topi (fun v _ => ?_)
  by_cases g0 : v.toInt = 0
  · exact lv_tableIn (off := 172) (tgt := 212) hx9 hb9 dL_law_40 (by rw [g0]; decide) (by rw [g0]; decide) (by rw [g0]; rfl) (by decide) (lc_212 S hX hbl I hin hc hl K)
  by_cases g1 : v.toInt = 1
  · exact lv_tableIn (off := 245) (tgt := 285) hx9 hb9 dL_law_40 (by rw [g1]; decide) (by rw [g1]; decide) (by rw [g1]; rfl) (by decide) (lc_285 S hX hbl I hin hc hl K)
  by_cases g2 : v.toInt = 2
  · exact lv_tableIn (off := 270) (tgt := 310) hx9 hb9 dL_law_40 (by rw [g2]; decide) (by rw [g2]; decide) (by rw [g2]; rfl) (by decide) (lc_310 S hX hbl I hin hc hl K)
  by_cases g3 : v.toInt = 3
  · exact lv_tableIn (off := 295) (tgt := 335) hx9 hb9 dL_law_40 (by rw [g3]; decide) (by rw [g3]; decide) (by rw [g3]; rfl) (by decide) (lc_335 S hX hbl I hin hc hl K)
  by_cases g4 : v.toInt = 4
  · exact lv_tableIn (off := 320) (tgt := 360) hx9 hb9 dL_law_40 (by rw [g4]; decide) (by rw [g4]; decide) (by rw [g4]; rfl) (by decide) (lc_360 hl0 hD S hX hbl I hin hc hl K)
  by_cases g5 : v.toInt = 5
  · exact lv_tableIn (off := 360) (tgt := 400) hx9 hb9 dL_law_40 (by rw [g5]; decide) (by rw [g5]; decide) (by rw [g5]; rfl) (by decide) (lc_400 S hX hbl I hin hc hl K)
  by_cases g6 : v.toInt = 6
  · exact lv_tableIn (off := 397) (tgt := 437) hx9 hb9 dL_law_40 (by rw [g6]; decide) (by rw [g6]; decide) (by rw [g6]; rfl) (by decide) (lc_437 S hX hbl I hin hc hl K)
  by_cases g7 : v.toInt = 7
  · exact lv_tableIn (off := 422) (tgt := 462) hx9 hb9 dL_law_40 (by rw [g7]; decide) (by rw [g7]; decide) (by rw [g7]; rfl) (by decide) (lc_462 S hX hbl I hin hc hl K)
  by_cases g8 : v.toInt = 8
  · exact lv_tableIn (off := 471) (tgt := 511) hx9 hb9 dL_law_40 (by rw [g8]; decide) (by rw [g8]; decide) (by rw [g8]; rfl) (by decide) (lc_511 S hX hbl I hin hc hl K)
  by_cases g9 : v.toInt = 9
  · exact lv_tableIn (off := 520) (tgt := 560) hx9 hb9 dL_law_40 (by rw [g9]; decide) (by rw [g9]; decide) (by rw [g9]; rfl) (by decide) (lc_560 S hX hbl I hin hc hl K)
  by_cases g10 : v.toInt = 10
  · exact lv_tableIn (off := 557) (tgt := 597) hx9 hb9 dL_law_40 (by rw [g10]; decide) (by rw [g10]; decide) (by rw [g10]; rfl) (by decide) (lc_597 S hX hbl I hin hc hl K)
  by_cases g11 : v.toInt = 11
  · exact lv_tableIn (off := 582) (tgt := 622) hx9 hb9 dL_law_40 (by rw [g11]; decide) (by rw [g11]; decide) (by rw [g11]; rfl) (by decide) (lc_622 S hX hbl I hin hc hl K)
  by_cases g12 : v.toInt = 12
  · exact lv_tableIn (off := 607) (tgt := 647) hx9 hb9 dL_law_40 (by rw [g12]; decide) (by rw [g12]; decide) (by rw [g12]; rfl) (by decide) (lc_647 S hX hbl I hin hc hl K)
  by_cases g13 : v.toInt = 13
  · exact lv_tableIn (off := 644) (tgt := 684) hx9 hb9 dL_law_40 (by rw [g13]; decide) (by rw [g13]; decide) (by rw [g13]; rfl) (by decide) (lc_684 S hX hbl I hin hc hl K)
  by_cases g14 : v.toInt = 14
  · exact lv_tableIn (off := 681) (tgt := 721) hx9 hb9 dL_law_40 (by rw [g14]; decide) (by rw [g14]; decide) (by rw [g14]; rfl) (by decide) (lc_721 S hX hbl I hin hc hl K)
  by_cases g15 : v.toInt = 15
  · exact lv_tableIn (off := 718) (tgt := 758) hx9 hb9 dL_law_40 (by rw [g15]; decide) (by rw [g15]; decide) (by rw [g15]; rfl) (by decide) (lc_758 S hX hbl I hin hc hl K)
  by_cases g16 : v.toInt = 16
  · exact lv_tableIn (off := 743) (tgt := 783) hx9 hb9 dL_law_40 (by rw [g16]; decide) (by rw [g16]; decide) (by rw [g16]; rfl) (by decide) (lc_783 S hX hbl I hin hc hl K)
  by_cases g17 : v.toInt = 17
  · exact lv_tableIn (off := 780) (tgt := 820) hx9 hb9 dL_law_40 (by rw [g17]; decide) (by rw [g17]; decide) (by rw [g17]; rfl) (by decide) (lc_820 S hX hbl I hin hc hl K)
  by_cases g18 : v.toInt = 18
  · exact lv_tableIn (off := 829) (tgt := 869) hx9 hb9 dL_law_40 (by rw [g18]; decide) (by rw [g18]; decide) (by rw [g18]; rfl) (by decide) (lc_869 S hX hbl I hin hc hl K)
  by_cases g19 : v.toInt = 19
  · exact lv_tableIn (off := 866) (tgt := 906) hx9 hb9 dL_law_40 (by rw [g19]; decide) (by rw [g19]; decide) (by rw [g19]; rfl) (by decide) (lc_906 S hX hbl I hin hc hl K)
  by_cases g20 : v.toInt = 20
  · exact lv_tableIn (off := 891) (tgt := 931) hx9 hb9 dL_law_40 (by rw [g20]; decide) (by rw [g20]; decide) (by rw [g20]; rfl) (by decide) (lc_931 S hX hbl I hin hc hl K)
  by_cases g21 : v.toInt = 21
  · exact lv_tableIn (off := 928) (tgt := 968) hx9 hb9 dL_law_40 (by rw [g21]; decide) (by rw [g21]; decide) (by rw [g21]; rfl) (by decide) (lc_968 S hX hbl I hin hc hl K)
  by_cases g22 : v.toInt = 22
  · exact lv_tableIn (off := 977) (tgt := 1017) hx9 hb9 dL_law_40 (by rw [g22]; decide) (by rw [g22]; decide) (by rw [g22]; rfl) (by decide) (lc_1017 S hX hbl I hin hc hl K)
  by_cases g23 : v.toInt = 23
  · exact lv_tableIn (off := 1026) (tgt := 1066) hx9 hb9 dL_law_40 (by rw [g23]; decide) (by rw [g23]; decide) (by rw [g23]; rfl) (by decide) (lc_1066 S hX hbl I hin hc hl K)
  by_cases g24 : v.toInt = 24
  · exact lv_tableIn (off := 1075) (tgt := 1115) hx9 hb9 dL_law_40 (by rw [g24]; decide) (by rw [g24]; decide) (by rw [g24]; rfl) (by decide) (lc_1115 S hX hbl I hin hc hl K)
  by_cases g25 : v.toInt = 25
  · exact lv_tableIn (off := 1100) (tgt := 1140) hx9 hb9 dL_law_40 (by rw [g25]; decide) (by rw [g25]; decide) (by rw [g25]; rfl) (by decide) (lc_1140 S hX hbl I hin hc hl K)
  by_cases g26 : v.toInt = 26
  · exact lv_tableIn (off := 1125) (tgt := 1165) hx9 hb9 dL_law_40 (by rw [g26]; decide) (by rw [g26]; decide) (by rw [g26]; rfl) (by decide) (lc_1165 S hX hbl I hin hc hl K)
  by_cases g27 : v.toInt = 27
  · exact lv_tableIn (off := 1138) (tgt := 1178) hx9 hb9 dL_law_40 (by rw [g27]; decide) (by rw [g27]; decide) (by rw [g27]; rfl) (by decide) (lc_1178 S hX hbl I hin hc hl K)
  by_cases g28 : v.toInt = 28
  · exact lv_tableIn (off := 1175) (tgt := 1215) hx9 hb9 dL_law_40 (by rw [g28]; decide) (by rw [g28]; decide) (by rw [g28]; rfl) (by decide) (lc_1215 S hX hbl I hin hc hl K)
  by_cases g29 : v.toInt = 29
  · exact lv_tableIn (off := 1200) (tgt := 1240) hx9 hb9 dL_law_40 (by rw [g29]; decide) (by rw [g29]; decide) (by rw [g29]; rfl) (by decide) (lc_1240 S hX hbl I hin hc hl K)
  by_cases g30 : v.toInt = 30
  · exact lv_tableIn (off := 1249) (tgt := 1289) hx9 hb9 dL_law_40 (by rw [g30]; decide) (by rw [g30]; decide) (by rw [g30]; rfl) (by decide) (lc_1289 S hX hbl I hin hc hl K)
  by_cases g31 : v.toInt = 31
  · exact lv_tableIn (off := 1274) (tgt := 1314) hx9 hb9 dL_law_40 (by rw [g31]; decide) (by rw [g31]; decide) (by rw [g31]; rfl) (by decide) (lc_1314 S hX hbl I hin hc hl K)
  by_cases g32 : v.toInt = 32
  · exact lv_tableIn (off := 1299) (tgt := 1339) hx9 hb9 dL_law_40 (by rw [g32]; decide) (by rw [g32]; decide) (by rw [g32]; rfl) (by decide) (lc_1339 S hX hbl I hin hc hl K)
  by_cases g33 : v.toInt = 33
  · exact lv_tableIn (off := 1324) (tgt := 1364) hx9 hb9 dL_law_40 (by rw [g33]; decide) (by rw [g33]; decide) (by rw [g33]; rfl) (by decide) (lc_1364 S hX hbl I hin hc hl K)
  by_cases g34 : v.toInt = 34
  · exact lv_tableIn (off := 1373) (tgt := 1413) hx9 hb9 dL_law_40 (by rw [g34]; decide) (by rw [g34]; decide) (by rw [g34]; rfl) (by decide) (lc_1413 S hX hbl I hin hc hl K)
  by_cases g35 : v.toInt = 35
  · exact lv_tableIn (off := 1422) (tgt := 1462) hx9 hb9 dL_law_40 (by rw [g35]; decide) (by rw [g35]; decide) (by rw [g35]; rfl) (by decide) (lc_1462 S hX hbl I hin hc hl K)
  by_cases g36 : v.toInt = 36
  · exact lv_tableIn (off := 1435) (tgt := 1475) hx9 hb9 dL_law_40 (by rw [g36]; decide) (by rw [g36]; decide) (by rw [g36]; rfl) (by decide) (lc_1475 S hX hbl I hin hc hl K)
  by_cases g37 : v.toInt = 37
  · exact lv_tableIn (off := 1448) (tgt := 1488) hx9 hb9 dL_law_40 (by rw [g37]; decide) (by rw [g37]; decide) (by rw [g37]; rfl) (by decide) (lc_1488 S hX hbl I hin hc hl K)
  by_cases g38 : v.toInt = 38
  · exact lv_tableIn (off := 1461) (tgt := 1501) hx9 hb9 dL_law_40 (by rw [g38]; decide) (by rw [g38]; decide) (by rw [g38]; rfl) (by decide) (lc_1501 S hX hbl I hin hc hl K)
  refine lv_tableOut (tgt := 1526) hx9 hb9 dL_law_40 ?_ (by decide) (W.widen (k := cl + 1) (n := sl + 6) (Nat.le_succ _) (Nat.le_add_right _ _) (K _ _ _ _ _ _ I hl))
  omega
theorem in_of {k : Nat} (h : 6 * k + 6 ≤ L) (hL : L ≤ 3072) : IN (Z3 (6 * k : Nat)) L := by
  have one : ∀ n : Int, 0 ≤ n → n < 6 → vp_in (Z3 (6 * k : Nat) + Z3 n) L := fun n h1 h2 => (in_z3 (z3_add rfl rfl) (by omega) (by omega)).1
  exact ⟨(in_z3 (I := ((6 * k : Nat) : Int)) rfl (by omega) (by omega)).1, one 1 (by omega) (by omega), one 2 (by omega) (by omega), one 3 (by omega) (by omega), one 4 (by omega) (by omega), one 5 (by omega) (by omega)⟩
set_option maxHeartbeats 4000000 in
/-- call by call -/
theorem law_loop (hl0 : l.stackTraces = false) (hD : DW s) (S : CallFix p m c cL_law 7 s #[Value.ref b] lw_tbl RL) (hr : meth.sig.returnType = ret) (hlo : meth.locks = false) (hX : va_X b L xs s s.heap) (hbl : b < s.heap.size) (hL : L ≤ 3072) : ∀ (d k : Nat) (hx hm : PH) (f : Nat → Int64) (H : Heap) (locs : List Loc) (ls : Array Slot) (cl sl : Nat), L < 6 * (k + d) + 6 → k ≤ 512 → LW D cy hx hm f s H locs → lv_has ls 7 (LV b s (Z3 (6 * k : Nat))) → cl ≤ 154 + k → sl ≤ 5406 + 6 * k → W p l e room_1 s m #[Value.ref b] below meth c H locs cl sl (lw_Z below #[Value.ref b] s) (F0 m 23 ls []) := by
  have hbA : ¬ A0 s b := Nat.not_le.mpr hbl
  have hx9 := S.1
  have hb9 := S.2.1
  intro d
  induction d with
  | zero =>
    intro k hx hm f H locs ls cl sl h1 hk I hl h2 h3
    have hS := I.1.2.2.1
    refine lv_iload hx9 hb9 dL_law_23 (lv_at hl 4 rfl) ?_
    refine lv_aload_n hx9 hb9 dL_law_25 rfl (lv_at hl 0 rfl) ?_
    refine va_slen (A := A0 s) hx9 hb9 hX hbl hbA hS dL_law_26 ?_
    refine lv_bipush (v := 6) hx9 hb9 dL_law_27 (by decide) ?_
    refine lv_isub hx9 hb9 dL_law_29 ?_
    refine lv_icmp_gt (tgt := 1532) hx9 hb9 dL_law_30 (by decide) (fun _ => ?_) (fun z => ?_)
    · exact law_out S hr hlo hS (by omega) (by omega)
    · have q : ¬ ((L : Int) - 6 < ((6 * k : Nat) : Int)) := fun w9 => z ((z3_lt (z3_sub (show Int32.ofNat L = Z3 (L : Int) from rfl) (show (6 : Int32) = Z3 6 from rfl)) (rfl : Z3 ((6 * k : Nat) : Int) = Z3 ((6 * k : Nat) : Int)) ⟨by omega, by omega⟩ ⟨by omega, by omega⟩).mpr w9)
      omega
  | succ d ih =>
    intro k hx hm f H locs ls cl sl h1 hk I hl h2 h3
    have hS := I.1.2.2.1
    refine lv_iload hx9 hb9 dL_law_23 (lv_at hl 4 rfl) ?_
    refine lv_aload_n hx9 hb9 dL_law_25 rfl (lv_at hl 0 rfl) ?_
    refine va_slen (A := A0 s) hx9 hb9 hX hbl hbA hS dL_law_26 ?_
    refine lv_bipush (v := 6) hx9 hb9 dL_law_27 (by decide) ?_
    refine lv_isub hx9 hb9 dL_law_29 ?_
    refine lv_icmp_gt (tgt := 1532) hx9 hb9 dL_law_30 (by decide) (fun _ => ?_) (fun z => ?_)
    · exact law_out S hr hlo hS (by omega) (by omega)
    · have q : ¬ ((L : Int) - 6 < ((6 * k : Nat) : Int)) := fun w9 => z ((z3_lt (z3_sub (show Int32.ofNat L = Z3 (L : Int) from rfl) (show (6 : Int32) = Z3 6 from rfl)) (rfl : Z3 ((6 * k : Nat) : Int) = Z3 ((6 * k : Nat) : Int)) ⟨by omega, by omega⟩ ⟨by omega, by omega⟩).mpr w9)
      have hk6 : 6 * k + 6 ≤ L := by omega
      refine law_sw hl0 hD S hX hbl I (in_of hk6 hL) ⟨by omega, by omega⟩ hl (fun hx' hm' f' H' locs' ls' I' hl' => ?_)
      refine lv_iinc (v := Z3 (6 * (k + 1) : Nat)) (lv' := [(4, .int (Z3 (6 * (k + 1) : Nat))), (0, .ref b), (1, .ref (s.heap.size + 0)), (2, .ref (s.heap.size + 110 + 0)), (3, .ref (s.heap.size + 153 + 0))]) hx9 hb9 dL_law_1526 hl' (k := 4) rfl ?_ (by decide) rfl (fun ls hl => ?_)
      · rw [z3_add (rfl : Z3 ((6 * k : Nat) : Int) = Z3 ((6 * k : Nat) : Int)) (show Int32.ofInt 6 = Z3 6 from rfl)]
        congr 1
      refine lv_goto (tgt := 23) hx9 hb9 dL_law_1529 (by decide) ?_
      exact ih (k + 1) hx' hm' f' H' locs' ls (cl + 1) (sl + 6) (by omega) (by omega) I' (lv_sub hl [1, 2, 3, 4, 0] rfl) (by omega) (by omega)
end LS
set_option maxHeartbeats 4000000 in
theorem whole_start {p : Program} {e : Env} {s : State} {m : MethodId} {below : List Frame} {meth : Method} {c : Code} (l : Launch) (hflags : l.flags = flags0) {b L : Nat} {xs : Nat → Int32} (hL : L ≤ 3072) (C0 : lw_At p s m meth c b L xs) : W p l e room_1 s m #[Value.ref b] below meth c s.heap [] 0 0 (lw_Z below #[Value.ref b] s) (entryFrame m ([Value.ref b] : List Value).toArray 7) := by
  obtain ⟨hx, hb, hr, hml, hown, hts, hX, hbl, hlocks, hgv⟩ := C0
  have S : CallFix p m c cL_law 7 s #[Value.ref b] lw_tbl RL := ⟨hx, hb, hml, hown, hts⟩
  obtain ⟨D, cy, hK, hXX⟩ := law_facts hts hgv
  have hl0 : l.stackTraces = false := by unfold Launch.stackTraces; rw [hflags]; decide
  have hbA : ¬ A0 s b := Nat.not_le.mpr hbl
  have hl := lv_entry ([.ref b]) (n := 7) (Nat.le_of_ble_eq_true rfl)
  rw [lg_entry_eq]
  generalize (lg_sl ([.ref b]) ++ List.replicate (7 - (lg_sl ([.ref b])).length) Slot.unset).toArray = ls at hl ⊢
  have hl : lv_has ls 7 [(0, .ref b)] := hl
  have I : ph_I D cy s.heap.size (A0 s) true [] s s.heap [] := ⟨fun k q h => by simp [ph_w] at h, hK, va_S.rf, fun i hi => absurd hi (Nat.not_lt_zero _), fun _ => rfl, hXX⟩
  refine o_new (h' := hx0) S lnL_8 I (fun q h => h) rfl (Nat.le_of_ble_eq_true rfl) (Nat.le_of_ble_eq_true rfl) dL_law_0 (fun H1 I => ?_)
  have hl2 := hl
  show W p l e room_1 s m #[Value.ref b] below meth c H1 [] (0 + 1) (0 + 14) (lw_Z below #[Value.ref b] s) (F0 m 3 ls [.ref (s.heap.size + 0)])
  refine lv_dup hx hb dL_law_3 rfl ?_
  refine o_Iv S (As := []) (rest := [.ref (s.heap.size + 0)]) (M11_init l D cy s.heap.size (A0 s) (fun q h => h) hxF_eq) (gI_law wT_1_9) ⟨TB_in _ wT_1_2, TB_in _ wT_1_7, TB_in _ wT_1_8⟩ rfl rfl rfl rfl cdL_11_init ⟨Nat.le_of_ble_eq_true rfl, Nat.le_of_ble_eq_true rfl⟩ I rfl hl.1 rfl (Nat.le_of_ble_eq_true rfl) dL_law_4 ⟨Nat.le_of_ble_eq_true rfl, Nat.le_of_ble_eq_true rfl⟩ (fun H2 locs2 I => ?_)
  refine lv_astore_n (lv' := [(1, .ref (s.heap.size + 0)), (0, .ref b)]) hx hb dL_law_7 rfl hl (by decide) rfl (fun ls hl => ?_)
  refine o_new S lnL_18 I (fun q h => h) (nCx _ _) (Nat.le_of_ble_eq_true rfl) (Nat.le_of_ble_eq_true rfl) dL_law_8 (fun H3 I => ?_)
  rw [lgX]
  have I1 : LM D cy s.heap.size 110 hxF s H3 locs2 := ⟨sp1 I.1, hK, I.2.2.1, lenX, hXX⟩
  have I2 : LM D cy (s.heap.size + 110) 43 hm0 s H3 locs2 := by
    refine ⟨sp3 ?_, hK, I.2.2.1, fun i hi => Nat.lt_of_lt_of_le hi (by decide), hXX⟩
    rw [zfree (s.heap.size + 110) s.heap.size]
    exact sp2 I.1 lgX
  have hz3 : H3.size = s.heap.size + 110 + hm0.length := by
    have := I.2.2.2.2.1 rfl
    rw [sp4 lgX] at this
    exact this
  show W p l e room_1 s m #[Value.ref b] below meth c H3 locs2 (0 + 1 + 109 + 1) (0 + 14 + 2977 + 87) (lw_Z below #[Value.ref b] s) (F0 m 11 ls [.ref (s.heap.size + 110 + 0)])
  refine lv_dup hx hb dL_law_11 rfl ?_
  refine l_Iv (A := fun q => s.heap.size + 110 ≤ q) S (rest := [.ref (s.heap.size + 110 + 0)]) (M12_init l D cy (s.heap.size + 110) (fun q => s.heap.size + 110 ≤ q) (fun q h => h) hmF_eq) (gI_law wT_9_19) ⟨TB_in _ wT_1_5, TB_in _ wT_9_17, TB_in _ wT_9_18⟩ rfl rfl rfl rfl cdL_12_init ⟨Nat.le_of_ble_eq_true rfl, Nat.le_of_ble_eq_true rfl⟩ I2 (Nat.le_add_right _ _) hz3 (fun q h => h) (fun i hi => Nat.le_add_right _ _) lenM hl.1 rfl (Nat.le_of_ble_eq_true rfl) dL_law_12 ⟨Nat.le_of_ble_eq_true rfl, Nat.le_of_ble_eq_true rfl⟩ (fun H4 locs4 I2 hz4 hk4 => ?_)
  have I1 := LM_kept I1 (A := fun q => s.heap.size + 110 ≤ q) (fun i hi z => by have z : s.heap.size + 110 ≤ s.heap.size + i := z; omega) hk4 I2.2.2.1
  refine lv_astore_n (lv' := [(2, .ref (s.heap.size + 110 + 0)), (1, .ref (s.heap.size + 0)), (0, .ref b)]) hx hb dL_law_15 rfl hl (by decide) rfl (fun ls hl => ?_)
  refine lv_iconst (v := 1) hx hb dL_law_16 (by decide) ?_
  have Im : ph_I D cy (s.heap.size + 110) (A0 s) true hmF s H4 locs4 := ⟨I2.1, hK, I2.2.2.1, fun i hi => by show s.heap.size ≤ _; omega, fun _ => hz4, hXX⟩
  have hAn : ∀ q, s.heap.size + 110 ≤ q → A0 s q := fun q z => by show s.heap.size ≤ q; omega
  refine va_newaK hx hb (atype := .long) (hts _ (TB_in _ wT_1_6)) rfl dL_law_17 rfl (N := 1) (by decide) (by decide) (by decide) (Nat.le_of_ble_eq_true rfl) (Nat.le_of_ble_eq_true rfl) hz4 fun H5 cA e5 z5 o5 hAr hNm => ?_
  have hcA : cA = cy 3 := Option.some.inj (hNm.symm.trans (ph_cls Im (t := 3) (ty := .long) rfl (fun _ q => by cases q)))
  subst hcA
  have I5 : ph_I D cy (s.heap.size + 110) (A0 s) true (hmF ++ [zJ 1]) s H5 locs4 := ph_I_push Im hAn e5 (by rw [z5, hz4]) (fun q hq => o5 q (by rw [← hz4]; exact hq))
  have I1 := LM_kept I1 (A := fun _ => False) (fun i hi z => z) (fun q hq _ => o5 q (by rw [← hz4]; exact hq)) I5.2.2.1
  have I2 : LM D cy (s.heap.size + 110) 43 hmF s H5 locs4 := ⟨sp1 I5.1, hK, I5.2.2.1, lenM, hXX⟩
  have e153 : s.heap.size + 110 + 43 = s.heap.size + 153 := by omega
  have I3 : LM D cy (s.heap.size + 153) 1 (wO (fun _ => 0)) s H5 locs4 := by
    refine ⟨sp3 (c := zJ 1) ?_, hK, I5.2.2.1, fun i hi => hi, hXX⟩
    have z := sp2 I5.1 lgM
    rw [e153] at z
    exact z
  rw [lgM, e153]
  refine W.widen (k := 154) (n := 5406) (Nat.le_of_ble_eq_true rfl) (Nat.le_of_ble_eq_true rfl) ?_
  show W p l e room_1 s m #[Value.ref b] below meth c H5 locs4 154 5406 (lw_Z below #[Value.ref b] s) (F0 m 19 ls [.ref (s.heap.size + 153 + 0)])
  refine lv_astore_n (lv' := [(3, .ref (s.heap.size + 153 + 0)), (2, .ref (s.heap.size + 110 + 0)), (1, .ref (s.heap.size + 0)), (0, .ref b)]) hx hb dL_law_19 rfl hl (by decide) rfl (fun ls hl => ?_)
  refine lv_iconst (v := 0) hx hb dL_law_20 (by decide) ?_
  refine lv_istore (lv' := [(4, .int 0), (3, .ref (s.heap.size + 153 + 0)), (2, .ref (s.heap.size + 110 + 0)), (1, .ref (s.heap.size + 0)), (0, .ref b)]) hx hb dL_law_21 hl (by decide) rfl (fun ls hl => ?_)
  exact law_loop hl0 (law_DW hts hgv) S hr hlocks hX hbl hL 512 0 hxF hmF (fun _ => 0) H5 locs4 ls 154 5406 (by omega) (by omega) ⟨I1, I2, I3, lr0⟩ (lv_sub hl [4, 3, 2, 1, 0] rfl) (Nat.le_refl _) (Nat.le_refl _)
set_option maxHeartbeats 4000000 in
theorem lw_walk (l : Launch) (hflags : l.flags = flags0) (b : Addr) (xs : List Int32) : MetFree l x (headSpec (Jvm.Cond.code x code maxLocals ret :: tables_1) room_1) (lw_P b xs) (fun _ _ _ _ _ => True) lw_Q := by
  refine MetFree.of_bodyS (code := code) (maxLocals := maxLocals) (ret := ret) (by decide) ?_ ?_
  · intro args s m h hn
    obtain ⟨meth, c, h1, h2, h3, h4, h5, h6, -, -⟩ := Cond.code_spec hn (atoms_spec (ws := Jvm.Cond.code x code maxLocals ret :: tables_1) h _ List.mem_cons_self)
    exact ⟨meth, c, h1, h2, h3, h4, h5, h6⟩
  · intro p e s m args below meth c s₁ B hml0 hP _
    obtain ⟨rfl, hx, hbd, hgv⟩ := hP
    obtain ⟨scr, harrAt, hlist, hof, hsmall⟩ := hx
    obtain ⟨hcb, hkn, -, -⟩ := State.arrayAt?_spec harrAt
    have hown : s.vm.findClass R_law = some m.cls := findClass_of_methodNamed B.named
    have hts0 : ∀ c ∈ (Jvm.Cond.code x code maxLocals ret :: tables_1), c.before #[Value.ref b] s = true := atoms_spec (ws := Jvm.Cond.code x code maxLocals ret :: tables_1) B.pre
    have hts : ∀ w ∈ lw_tbl, w.before #[Value.ref b] s = true := k2_hts_sels lw_privs (fun w hw => hts0 w (List.mem_cons_of_mem _ hw)) lw_privs_ok
    have hml : c.maxLocals = 7 := B.maxLocals_eq (hts0 _ List.mem_cons_self)
    have X₀ : Stand p l e room_1 s m #[Value.ref b] below meth c s₁ [] 0 0 := Stand.of_body B
    have hh0 : s₁.heap = s.heap := by rw [B.state]; rfl
    have hsz : scr.slots.size = xs.length := by rw [← Array.length_toList, hlist, List.length_map]
    have hval : ∀ j : Nat, j < xs.length → scr.slots[j]? = some (.int (xs.getD j 0)) := fun j hj => by
      rw [← Array.getElem?_toList, hlist]
      simp [hj]
    have hbl : b < s.heap.size := (Array.getElem?_eq_some_iff.mp hcb).1
    have hX : va_X b xs.length (fun j => xs.getD j 0) s s.heap := ⟨scr, hcb, hof, hkn, hsz, hval⟩
    have K : W p l e room_1 s m #[Value.ref b] below meth c s₁.heap [] 0 0 (lw_Z below #[Value.ref b] s) (entryFrame m ([Value.ref b] : List Value).toArray 7) := by
      rw [hh0]
      exact whole_start l hflags hbd ⟨B.exec, B.bytes, B.returns, hml, hown, hts, hX, hbl, B.notSynchronized, hgv⟩
    obtain ⟨t, a1, o, b1, b2, b3⟩ := K s₁ rfl X₀
    exact ⟨t, o, a1, b1, b2, b3⟩
theorem lw_pre_spec {args : Array Value} {s : State} (h : (Jvm.Cond.and given_1 narrow_1).before args s = true) (hr : rest_1_c.before args s = true) : ∃ (b : Addr) (xs : List Int32), lw_P b xs args s := by
  have hs := flat_of_before _ h
  have hq := flat_of_before _ hr
  have hc : (Cond.count 1).before args s = true := hs _ (by decide +kernel)
  have harr : (Cond.arrayOf (.arg 0) .int).before args s = true := hs _ (by decide +kernel)
  have hle : (Cond.le (.length (.arg 0)) (.int 3072)).before args s = true := hs _ (by decide +kernel)
  have hlen : (Cond.isInt (.length (.arg 0))).before args s = true := hq _ (by decide +kernel)
  have hall : (Cond.all (.arg 0) (.isInt (.elem (.arg 0) (.index 0)))).before args s = true := hq _ (by decide +kernel)
  obtain ⟨b, xs, hb, hx⟩ := State.ints_of_pre rfl harr hlen hall
  have hsm : xs.length < 2 ^ 31 := hx.choose_spec.2.2.2
  have hev : (Term.length (.arg 0)).eval args s none [] s = some (.int xs.length.toInt32) := hx.length_eval hb
  have hv := Cond.le_ints hev (show (Term.int 3072).eval args s none [] s = some (.int 3072) from rfl)
  have hd : xs.length.toInt32 ≤ 3072 := by
    simpa [Cond.before, Cond.holds, hv] using hle
  have hN : xs.length ≤ 3072 := (Int32.ofNat_le_ofNat hsm (by decide)).mp (show Int32.ofNat xs.length ≤ Int32.ofNat 3072 from hd)
  exact ⟨b, xs, Cond.one_arg hc (show args[0]? = some (.ref b) from hb), hx, hN, h⟩
theorem lw_comes (l : Launch) (hflags : l.flags = flags0) : Comes l x (Jvm.Cond.code x code maxLocals ret :: tables_1) room_1 (fun tb e args s => Calls_1 tb e args s ∧ rest_1 tb e args s ∧ Pre_1 tb e args s)
    (fun _ _ args s o t => lw_Q args s o t) := by
  intro p e ha hc hk s m args below hf hfit hheap happ hpre
  obtain ⟨b, xs, hP⟩ := lw_pre_spec hpre.2.2 hpre.2.1
  obtain ⟨k, o, h1, h2, h3, hQ⟩ := lw_walk l hflags b xs p e ha hc hk s m args below hf ((Spec.applies_iff_loose hf).mp happ).1 hP trivial
  exact ⟨k, o, h1, h2, h3, hQ⟩
theorem lw_frame {s t : State} {o : Outcome} {args : Array Value} (h : Framed s o t [] 601024 7293034) :
    Framed s o t (fieldLocs frame_1_writes args s ++ arrayLocs frame_1_arrays args s ++ staticLocs frame_1_statics s) 601024 7293034 := h
theorem lw_limb (L : Cond) (hL : ∀ (args : Array Value) (s t : State), L.after args s (.returned (some (.int 1))) t = true) :
    ArmFor flags0 classFile x code maxLocals ret World_1 tables_1 room_1 Calls_1 rest_1 Pre_1
      (fun tb e a s o t => postC L tb e a s o t ∧ Framed s o t (fieldLocs frame_1_writes a s ++ arrayLocs frame_1_arrays a s ++ staticLocs frame_1_statics s) 601024 7293034) := by
  intro l hflags _ _ p e ha hc hk s m args below hf hfit hheap happ hpre
  obtain ⟨k, o, h1, h2, h3, rfl, hF⟩ := lw_comes l hflags p e ha hc hk s m args below hf hfit hheap happ hpre
  exact ⟨k, _, h1, h2, h3, hL args s _, lw_frame hF⟩
theorem i_vc : Claimed_1_1 ∧ Claimed_1_2 := ⟨lw_limb limb_1_1 (fun args s t => by simp [limb_1_1, Cond.after, Cond.holds, Cond.value]), lw_limb limb_1_2 (fun args s t => Cond.after_iff.mpr (by
  first | (rw [show limb_1_2 = Cond.eq .result (.int 1) from rfl, Cond.eq_ints (x := 1) (y := 1) rfl rfl]; simp; done) | (simp [limb_1_2, Cond.value, Term.eval]; done)))⟩
