/-! THE CLAIM OUT OF ONE WALK OF THE LAW'S BODY. Your part is whole_start (and what it stands on); all else here is the same for every law, but numbers. -/
def R_law : String := "WhoseWaveLaw"
def lw_P (b : Addr) (xs : List Int32) (args : Array Value) (s : State) : Prop := args = #[.ref b] ∧ s.IntsAt b xs ∧ xs.length ≤ 3072 ∧ (Jvm.Cond.and given_1 narrow_1).before args s = true
def lw_Q (_ : Array Value) (s : State) (o : Outcome) (t : State) : Prop := o = .returned (some (.int 1)) ∧ Framed s o t [] 601024 7293034
def lw_Z (below : List Frame) (a : Array Value) (s : State) : State → Prop := fun t => ∃ o, t.status = .running ∧ Ended t below o ∧ lw_Q a s o t
/-- the law's own end, with 1 on the stack, nothing written that was there before, its room as the claim has it -/
theorem lw_ret {p : Program} {l : Launch} {e : Env} {s : State} {m : MethodId} {below : List Frame} {meth : Method} {c : Code} {b : Nat} (hx : p.tables.exec = Jvm.exec) (hb : c.code = code) (hr : meth.sig.returnType = ret) (hlocks : meth.locks = false) {pc : Nat} {H : Heap} {ls : Array Slot} (hdg : decode code pc = .ok (.ireturn, 1)) : W p l e room_1 s m #[Value.ref b] below meth c H [] 601024 7293034 (lw_Z below #[Value.ref b] s) (F0 m pc ls [.int 1]) := by
  intro T hT X
  obtain ⟨fs, hret, hrun, hended, hW, hframe⟩ := X.leave (v := some (.int 1)) (hlocks := hlocks) (fun h => by rw [hr] at h; cases h)
  have hmeth' : T.vm.method? m = some meth := X.method'
  refine ⟨T.setFrames fs, ?_, .returned (some (.int 1)), hrun, hended, rfl, ⟨_, rfl⟩, hW, hframe⟩
  jvm_step X.here [X.here.top, hx, hb, hdg, hmeth', hr, ret, narrow_b1]
  (try refine ⟨rfl, ?_⟩); (try refine ⟨rfl, ?_⟩)
  first | (intro acts; rw [hret _ acts rfl rfl rfl]) | rw [hret _ _ rfl rfl rfl]
  exact Steps.refl _
/-- what holds at the law's entry: the machine, the code, the tables' words (any of lw_tbl by 'hts w (by decide +kernel)'), the script of L ints xs at the cell b, what the Statement gives of the start (any of its parts by flat_of_before) -/
def lw_At (p : Program) (s : State) (m : MethodId) (meth : Method) (c : Code) (b L : Nat) (xs : Nat → Int32) : Prop :=
  p.tables.exec = Jvm.exec ∧ c.code = code ∧ meth.sig.returnType = ret ∧ c.maxLocals = 7 ∧ s.vm.findClass R_law = some m.cls ∧ (∀ w ∈ lw_tbl, w.before #[Value.ref b] s = true) ∧ va_X b L xs s s.heap ∧ b < s.heap.size ∧ meth.locks = false ∧ (Jvm.Cond.and given_1 narrow_1).before #[Value.ref b] s = true
/-! The law's own rows: two worlds, the class's and the reference's, one behind the other. -/
theorem gV_law {own C : String} {idx n : Nat} {y : MethodName} {cc : ByteArray} {ret : Option FieldType} (h1 : Cond.methodLink own idx y ∈ TB) (h2 : Cond.instanceMethod y ∈ TB) (h3 : Cond.selects C y y ∈ TB) (h4 : Cond.initialized C ∈ TB) (h5 : Cond.code y cc n ret ∈ TB) : GoodIn lw_tbl (wsV own idx C y (.code y cc n ret :: TB)) := by
  intro w hw
  have h := gV_of (c0 := Cond.initialized C) h1 h2 h3 h4 h5 w hw
  refine ⟨?_, h.2⟩
  rcases List.mem_cons.mp h.1 with e | e
  · rw [e]; exact TB_in _ h4
  · exact TB_in w e
theorem gI_law {n : Nat} {y : MethodName} {cc : ByteArray} {ret : Option FieldType} (h5 : Cond.code y cc n ret ∈ TB) : GoodIn lw_tbl (.code y cc n ret :: TB) := by
  intro w hw
  rcases List.mem_cons.mp hw with e | e
  · rw [e]; exact ⟨TB_in _ h5, TB_good _ h5⟩
  · exact ⟨TB_in w e, TB_good w e⟩
theorem ph_X_narrow {cy : Nat → ClassId} {A B : Nat → Prop} {U : State} (h : ph_X cy A U) (hAB : ∀ q, B q → A q) : ph_X cy B U := by
  obtain ⟨h1, ⟨t, h2, h3⟩, ⟨h4, h5⟩, h6, h7, h8, h9, h10, h11, h12⟩ := h
  exact ⟨h1, ⟨t, h2.narrow hAB, h3.narrow hAB⟩, ⟨h4, h5.narrow hAB⟩, h6.narrow hAB, h7.narrow hAB, h8.narrow hAB, h9.narrow hAB, h10, h11, h12⟩
def Aw (b n : Nat) (q : Nat) : Prop := b ≤ q ∧ q < b + n
def A0 (s : State) (q : Nat) : Prop := s.heap.size ≤ q
/-- one world, as the law has it: the machine's facts, and the world's cells -/
def LM (D : va_G) (cy : Nat → ClassId) (bw nw : Nat) (h : PH) (s : State) (H : Heap) (locs : List Loc) : Prop :=
  va_P D ph_cl (ph_w bw cy h) H ∧ va_K D ph_cl (ph_t cy) s ∧ va_S (A0 s) s.heap H locs ∧ (∀ i, i < h.length → i < nw) ∧ ph_X cy (A0 s) s
theorem LM_kept {D : va_G} {cy : Nat → ClassId} {bw nw : Nat} {h : PH} {s : State} {H H1 : Heap} {locs locs1 : List Loc} {A : Nat → Prop} (I : LM D cy bw nw h s H locs) (hA : ∀ i, i < nw → ¬ A (bw + i)) (hk : ∀ q : Nat, q < H.size → ¬ A q → H1[q]? = H[q]?) (hS : va_S (A0 s) s.heap H1 locs1) : LM D cy bw nw h s H1 locs1 := by
  obtain ⟨hP, hK, -, hn, hX⟩ := I
  refine ⟨hP.kept (fun k q hq => ?_), hK, hS, hn, hX⟩
  refine hk q.1 (hP k q hq).lt ?_
  rw [ph_w_at] at hq
  cases hc : h[k]? with
  | none => rw [hc] at hq; cases hq
  | some c =>
    rw [hc] at hq
    have e := Option.some.inj hq
    subst e
    exact hA k (hn k (List.getElem?_eq_some_iff.mp hc).1)
section OL
variable {p : Program} {l : Launch} {e : Env} {R : Room} {s : State} {m : MethodId} {args : Array Value} {below : List Frame} {meth : Method} {c : Code} {H : Heap} {locs : List Loc} {cells slots : Nat} {Q : State → Prop}
variable {cc : ByteArray} {nL pc : Nat} {ls : Array Slot} {rest st0 As : List Value} {D : va_G} {cy : Nat → ClassId} {bw nw : Nat} {fl : Bool} {h h' : PH} {Ts ws ws' : List Cond} {own : String}
variable {y : MethodName} {bytes : ByteArray} {maxL mc ms n index : Nat} {ret : Option FieldType} {rm : Room}
theorem lm_pre {av : List Value} (I : LM D cy bw nw h s H locs) (hb : s.heap.size ≤ bw) (hz : fl = true → H.size = bw + h.length) {A : Nat → Prop} (hA1 : ∀ q, A q → s.heap.size ≤ q) (hA2 : ∀ i, i < nw → A (bw + i)) : ∀ U : State, U.heap = H → s.WarmedH U.vm → va_Pc av (ph_B D cy bw A fl h) av.toArray U := fun U hU hW => ⟨rfl, by rw [hU]; exact I.1, va_K.moved hW.alike I.2.1, fun i hi => hA2 i (I.2.2.2.1 i hi), (fun q => by rw [hU]; exact hz q), ph_X_narrow (ph_X_move I.2.2.2.2 I.2.2.1 hU hW) hA1⟩
theorem l_Vi (S : CallFix p m c cc nL s args Ts own) {ci : Nat} {q : vw_C} {out : Int32 × PH} (hM : Met l y ws rm (va_Pc (.ref (bw + 0) :: As) (ph_B D cy bw (Aw bw nw) false h)) (va_Qi (fun (r : Int32) (u : PH) => (r, u) = out) (ph_B D cy bw (Aw bw nw) false) (Aw bw nw)) mc ms (Aw bw nw)) (hT : GoodIn Ts (wsV own index y.cls y ws)) (hw : ws = Cond.code y bytes maxL ret :: ws') (hrc : rm.cells = mc) (hrs : rm.slots = ms) (hd : Cd y n) (hR : rm.frames + 1 ≤ R.frames ∧ 8 + (maxL + 11) + rm.locals ≤ R.locals) (I : LM D cy bw nw h s H locs) (hb : s.heap.size ≤ bw) (ho : okO h 0 ci = true) (hc : ph_cl[ci]? = some q) (hq : q.1 = y.cls)
    (hn : As.length = n) (hsz : ls.size = nL) (hst : st0 = As.reverse ++ .ref (bw + 0) :: rest) (hW : (rest.map fun v => v.category).sum ≤ 8) (hdg : decode cc pc = .ok (.invokevirtual index, 3)) (hf : cells + mc ≤ R.cells ∧ slots + ms ≤ R.slots)
    (kk : ∀ (H1 : Heap) (locs1 : List Loc), LM D cy bw nw out.2 s H1 locs1 → (∀ q : Nat, q < H.size → ¬ Aw bw nw q → H1[q]? = H[q]?) → W p l e R s m args below meth c H1 locs1 (cells + mc) (slots + ms) Q (F0 m (pc + 3) ls (.int out.1 :: rest))) : W p l e R s m args below meth c H locs cells slots Q (F0 m pc ls st0) := by
  obtain ⟨fs, e1⟩ := okO_spec ho
  have hA1 : ∀ q, Aw bw nw q → s.heap.size ≤ q := fun q z => Nat.le_trans hb z.1
  refine va_calli (A0 := A0 s) (va_runV (As := As) (rest := rest) (b := bw + 0) (C := y.cls) S hM (cwV n S.2.2.2.2 hT hw hrc hrs ⟨rfl, hd⟩ hR) ⟨ph_B_blind D cy bw (Aw bw nw) false h _, by rw [← hq]; exact va_recv I.2.1 I.1 hc (ph_w_get e1), lm_pre (fl := false) I hb (fun z => by cases z) hA1 (fun i hi => ⟨Nat.le_add_right _ _, by omega⟩)⟩ rfl hn hsz hst (lv_room hW) hdg hf) I.2.2.1 (fun q _ h => hA1 q h) (fun q h => hA1 q h) (fun r u t H1 locs1 ht hvm hw hB hz1 hk1 hS => ?_)
  subst hw
  exact kk H1 locs1 ⟨by rw [← ht]; exact hB.1, I.2.1, hS, fun i hi => by have := (hB.2.2.1 i hi).2; omega, I.2.2.2.2⟩ hk1
theorem l_Vl (S : CallFix p m c cc nL s args Ts own) {ci : Nat} {q : vw_C} {out : Int64 × PH} (hM : Met l y ws rm (va_Pc (.ref (bw + 0) :: As) (ph_B D cy bw (Aw bw nw) false h)) (va_Ql (fun (r : Int64) (u : PH) => (r, u) = out) (ph_B D cy bw (Aw bw nw) false) (Aw bw nw)) mc ms (Aw bw nw)) (hT : GoodIn Ts (wsV own index y.cls y ws)) (hw : ws = Cond.code y bytes maxL ret :: ws') (hrc : rm.cells = mc) (hrs : rm.slots = ms) (hd : Cd y n) (hR : rm.frames + 1 ≤ R.frames ∧ 8 + (maxL + 11) + rm.locals ≤ R.locals) (I : LM D cy bw nw h s H locs) (hb : s.heap.size ≤ bw) (ho : okO h 0 ci = true) (hc : ph_cl[ci]? = some q) (hq : q.1 = y.cls)
    (hn : As.length = n) (hsz : ls.size = nL) (hst : st0 = As.reverse ++ .ref (bw + 0) :: rest) (hW : (rest.map fun v => v.category).sum ≤ 8) (hdg : decode cc pc = .ok (.invokevirtual index, 3)) (hf : cells + mc ≤ R.cells ∧ slots + ms ≤ R.slots)
    (kk : ∀ (H1 : Heap) (locs1 : List Loc), LM D cy bw nw out.2 s H1 locs1 → (∀ q : Nat, q < H.size → ¬ Aw bw nw q → H1[q]? = H[q]?) → W p l e R s m args below meth c H1 locs1 (cells + mc) (slots + ms) Q (F0 m (pc + 3) ls (.long out.1 :: rest))) : W p l e R s m args below meth c H locs cells slots Q (F0 m pc ls st0) := by
  obtain ⟨fs, e1⟩ := okO_spec ho
  have hA1 : ∀ q, Aw bw nw q → s.heap.size ≤ q := fun q z => Nat.le_trans hb z.1
  refine va_calll (A0 := A0 s) (va_runV (As := As) (rest := rest) (b := bw + 0) (C := y.cls) S hM (cwV n S.2.2.2.2 hT hw hrc hrs ⟨rfl, hd⟩ hR) ⟨ph_B_blind D cy bw (Aw bw nw) false h _, by rw [← hq]; exact va_recv I.2.1 I.1 hc (ph_w_get e1), lm_pre (fl := false) I hb (fun z => by cases z) hA1 (fun i hi => ⟨Nat.le_add_right _ _, by omega⟩)⟩ rfl hn hsz hst (lv_room hW) hdg hf) I.2.2.1 (fun q _ h => hA1 q h) (fun q h => hA1 q h) (fun r u t H1 locs1 ht hvm hw hB hz1 hk1 hS => ?_)
  subst hw
  exact kk H1 locs1 ⟨by rw [← ht]; exact hB.1, I.2.1, hS, fun i hi => by have := (hB.2.2.1 i hi).2; omega, I.2.2.2.2⟩ hk1
end OL
/-! The instructions of the law. -/
theorem zd_dL_look_0 : sg (cL_look.data.toList.drop 0) [[45], [3], [42], [27], [28], [182, 0, 7], [133], [80]] = true := by decide +kernel
theorem dL_look_0 : decode cL_look 0 = .ok (.aload_n 3, 1) := dc_45 (sg_at zd_dL_look_0 0 rfl rfl)
theorem dL_look_1 : decode cL_look 1 = .ok (.iconst 0, 1) := dc_3 (sg_at zd_dL_look_0 1 rfl rfl)
theorem dL_look_2 : decode cL_look 2 = .ok (.aload_n 0, 1) := dc_42 (sg_at zd_dL_look_0 2 rfl rfl)
theorem dL_look_3 : decode cL_look 3 = .ok (.iload_n 1, 1) := dc_27 (sg_at zd_dL_look_0 3 rfl rfl)
theorem dL_look_4 : decode cL_look 4 = .ok (.iload_n 2, 1) := dc_28 (sg_at zd_dL_look_0 4 rfl rfl)
theorem dL_look_5 : decode cL_look 5 = .ok (.invokevirtual 7, 3) := dc_182 (sg_at zd_dL_look_0 5 rfl rfl) rfl
theorem dL_look_8 : decode cL_look 8 = .ok (.i2l, 1) := dc_133 (sg_at zd_dL_look_0 6 rfl rfl)
theorem dL_look_9 : decode cL_look 9 = .ok (.lastore, 1) := dc_80 (sg_at zd_dL_look_0 7 rfl rfl)
theorem zd_dL_look_10 : sg (cL_look.data.toList.drop 10) [[167, 0, 11], [58, 4], [4], [172], [58, 4], [5], [172], [3]] = true := by decide +kernel
theorem dL_look_10 : decode cL_look 10 = .ok (.goto 11, 3) := dc_167 (sg_at zd_dL_look_10 0 rfl rfl) rfl
theorem dL_look_13 : decode cL_look 13 = .ok (.astore 4, 2) := dc_58 (sg_at zd_dL_look_10 1 rfl rfl)
theorem dL_look_15 : decode cL_look 15 = .ok (.iconst 1, 1) := dc_4 (sg_at zd_dL_look_10 2 rfl rfl)
theorem dL_look_16 : decode cL_look 16 = .ok (.ireturn, 1) := dc_172 (sg_at zd_dL_look_10 3 rfl rfl)
theorem dL_look_17 : decode cL_look 17 = .ok (.astore 4, 2) := dc_58 (sg_at zd_dL_look_10 4 rfl rfl)
theorem dL_look_19 : decode cL_look 19 = .ok (.iconst 2, 1) := dc_5 (sg_at zd_dL_look_10 5 rfl rfl)
theorem dL_look_20 : decode cL_look 20 = .ok (.ireturn, 1) := dc_172 (sg_at zd_dL_look_10 6 rfl rfl)
theorem dL_look_21 : decode cL_look 21 = .ok (.iconst 0, 1) := dc_3 (sg_at zd_dL_look_10 7 rfl rfl)
theorem zd_dL_look_22 : sg (cL_look.data.toList.drop 22) [[172]] = true := by decide +kernel
theorem dL_look_22 : decode cL_look 22 = .ok (.ireturn, 1) := dc_172 (sg_at zd_dL_look_22 0 rfl rfl)
theorem zd_dL_law_0 : sg (cL_law.data.toList.drop 0) [[187, 0, 8], [89], [183, 0, 17], [76], [187, 0, 18], [89], [183, 0, 20], [77]] = true := by decide +kernel
theorem dL_law_0 : decode cL_law 0 = .ok (.new 8, 3) := dc_187 (sg_at zd_dL_law_0 0 rfl rfl) rfl
theorem dL_law_3 : decode cL_law 3 = .ok (.dup, 1) := dc_89 (sg_at zd_dL_law_0 1 rfl rfl)
theorem dL_law_4 : decode cL_law 4 = .ok (.invokespecial 17, 3) := dc_183 (sg_at zd_dL_law_0 2 rfl rfl) rfl
theorem dL_law_7 : decode cL_law 7 = .ok (.astore_n 1, 1) := dc_76 (sg_at zd_dL_law_0 3 rfl rfl)
theorem dL_law_8 : decode cL_law 8 = .ok (.new 18, 3) := dc_187 (sg_at zd_dL_law_0 4 rfl rfl) rfl
theorem dL_law_11 : decode cL_law 11 = .ok (.dup, 1) := dc_89 (sg_at zd_dL_law_0 5 rfl rfl)
theorem dL_law_12 : decode cL_law 12 = .ok (.invokespecial 20, 3) := dc_183 (sg_at zd_dL_law_0 6 rfl rfl) rfl
theorem dL_law_15 : decode cL_law 15 = .ok (.astore_n 2, 1) := dc_77 (sg_at zd_dL_law_0 7 rfl rfl)
theorem zd_dL_law_16 : sg (cL_law.data.toList.drop 16) [[4], [188, 11], [78], [3], [54, 4], [21, 4], [42], [190]] = true := by decide +kernel
theorem dL_law_16 : decode cL_law 16 = .ok (.iconst 1, 1) := dc_4 (sg_at zd_dL_law_16 0 rfl rfl)
theorem dL_law_17 : decode cL_law 17 = .ok (.newarray .long, 2) := dc_188_11 (sg_at zd_dL_law_16 1 rfl rfl)
theorem dL_law_19 : decode cL_law 19 = .ok (.astore_n 3, 1) := dc_78 (sg_at zd_dL_law_16 2 rfl rfl)
theorem dL_law_20 : decode cL_law 20 = .ok (.iconst 0, 1) := dc_3 (sg_at zd_dL_law_16 3 rfl rfl)
theorem dL_law_21 : decode cL_law 21 = .ok (.istore 4, 2) := dc_54 (sg_at zd_dL_law_16 4 rfl rfl)
theorem dL_law_23 : decode cL_law 23 = .ok (.iload 4, 2) := dc_21 (sg_at zd_dL_law_16 5 rfl rfl)
theorem dL_law_25 : decode cL_law 25 = .ok (.aload_n 0, 1) := dc_42 (sg_at zd_dL_law_16 6 rfl rfl)
theorem dL_law_26 : decode cL_law 26 = .ok (.arraylength, 1) := dc_190 (sg_at zd_dL_law_16 7 rfl rfl)
theorem zd_dL_law_27 : sg (cL_law.data.toList.drop 27) [[16, 6], [100], [163, 5, 250], [42], [21, 4], [46], [16, 63], [126]] = true := by decide +kernel
theorem dL_law_27 : decode cL_law 27 = .ok (.bipush 6, 2) := dc_16 (sg_at zd_dL_law_27 0 rfl rfl) rfl
theorem dL_law_29 : decode cL_law 29 = .ok (.isub, 1) := dc_100 (sg_at zd_dL_law_27 1 rfl rfl)
theorem dL_law_30 : decode cL_law 30 = .ok (.if_icmp .gt 1530, 3) := dc_163 (sg_at zd_dL_law_27 2 rfl rfl) rfl
theorem dL_law_33 : decode cL_law 33 = .ok (.aload_n 0, 1) := dc_42 (sg_at zd_dL_law_27 3 rfl rfl)
theorem dL_law_34 : decode cL_law 34 = .ok (.iload 4, 2) := dc_21 (sg_at zd_dL_law_27 4 rfl rfl)
theorem dL_law_36 : decode cL_law 36 = .ok (.iaload, 1) := dc_46 (sg_at zd_dL_law_27 5 rfl rfl)
theorem dL_law_37 : decode cL_law 37 = .ok (.bipush 63, 2) := dc_16 (sg_at zd_dL_law_27 6 rfl rfl) rfl
theorem dL_law_39 : decode cL_law 39 = .ok (.iand, 1) := dc_126 (sg_at zd_dL_law_27 7 rfl rfl)
theorem dL_law_40 : decode cL_law 40 = .ok (.tableswitch 1514 0 38 #[172, 245, 270, 295, 320, 388, 425, 450, 499, 548, 585, 610, 635, 672, 709, 746, 771, 808, 857, 894, 919, 956, 1005, 1054, 1103, 1128, 1153, 1166, 1203, 1228, 1277, 1302, 1327, 1352, 1401, 1450, 1463, 1476, 1489], 172) := by decide +kernel
theorem zd_dL_law_212 : sg (cL_law.data.toList.drop 212) [[43], [42], [21, 4], [4], [96], [46], [42], [21, 4]] = true := by decide +kernel
theorem dL_law_212 : decode cL_law 212 = .ok (.aload_n 1, 1) := dc_43 (sg_at zd_dL_law_212 0 rfl rfl)
theorem dL_law_213 : decode cL_law 213 = .ok (.aload_n 0, 1) := dc_42 (sg_at zd_dL_law_212 1 rfl rfl)
theorem dL_law_214 : decode cL_law 214 = .ok (.iload 4, 2) := dc_21 (sg_at zd_dL_law_212 2 rfl rfl)
theorem dL_law_216 : decode cL_law 216 = .ok (.iconst 1, 1) := dc_4 (sg_at zd_dL_law_212 3 rfl rfl)
theorem dL_law_217 : decode cL_law 217 = .ok (.iadd, 1) := dc_96 (sg_at zd_dL_law_212 4 rfl rfl)
theorem dL_law_218 : decode cL_law 218 = .ok (.iaload, 1) := dc_46 (sg_at zd_dL_law_212 5 rfl rfl)
theorem dL_law_219 : decode cL_law 219 = .ok (.aload_n 0, 1) := dc_42 (sg_at zd_dL_law_212 6 rfl rfl)
theorem dL_law_220 : decode cL_law 220 = .ok (.iload 4, 2) := dc_21 (sg_at zd_dL_law_212 7 rfl rfl)
theorem zd_dL_law_222 : sg (cL_law.data.toList.drop 222) [[5], [96], [46], [42], [21, 4], [6], [96], [46]] = true := by decide +kernel
theorem dL_law_222 : decode cL_law 222 = .ok (.iconst 2, 1) := dc_5 (sg_at zd_dL_law_222 0 rfl rfl)
theorem dL_law_223 : decode cL_law 223 = .ok (.iadd, 1) := dc_96 (sg_at zd_dL_law_222 1 rfl rfl)
theorem dL_law_224 : decode cL_law 224 = .ok (.iaload, 1) := dc_46 (sg_at zd_dL_law_222 2 rfl rfl)
theorem dL_law_225 : decode cL_law 225 = .ok (.aload_n 0, 1) := dc_42 (sg_at zd_dL_law_222 3 rfl rfl)
theorem dL_law_226 : decode cL_law 226 = .ok (.iload 4, 2) := dc_21 (sg_at zd_dL_law_222 4 rfl rfl)
theorem dL_law_228 : decode cL_law 228 = .ok (.iconst 3, 1) := dc_6 (sg_at zd_dL_law_222 5 rfl rfl)
theorem dL_law_229 : decode cL_law 229 = .ok (.iadd, 1) := dc_96 (sg_at zd_dL_law_222 6 rfl rfl)
theorem dL_law_230 : decode cL_law 230 = .ok (.iaload, 1) := dc_46 (sg_at zd_dL_law_222 7 rfl rfl)
theorem zd_dL_law_231 : sg (cL_law.data.toList.drop 231) [[42], [21, 4], [7], [96], [46], [42], [21, 4], [8]] = true := by decide +kernel
theorem dL_law_231 : decode cL_law 231 = .ok (.aload_n 0, 1) := dc_42 (sg_at zd_dL_law_231 0 rfl rfl)
theorem dL_law_232 : decode cL_law 232 = .ok (.iload 4, 2) := dc_21 (sg_at zd_dL_law_231 1 rfl rfl)
theorem dL_law_234 : decode cL_law 234 = .ok (.iconst 4, 1) := dc_7 (sg_at zd_dL_law_231 2 rfl rfl)
theorem dL_law_235 : decode cL_law 235 = .ok (.iadd, 1) := dc_96 (sg_at zd_dL_law_231 3 rfl rfl)
theorem dL_law_236 : decode cL_law 236 = .ok (.iaload, 1) := dc_46 (sg_at zd_dL_law_231 4 rfl rfl)
theorem dL_law_237 : decode cL_law 237 = .ok (.aload_n 0, 1) := dc_42 (sg_at zd_dL_law_231 5 rfl rfl)
theorem dL_law_238 : decode cL_law 238 = .ok (.iload 4, 2) := dc_21 (sg_at zd_dL_law_231 6 rfl rfl)
theorem dL_law_240 : decode cL_law 240 = .ok (.iconst 5, 1) := dc_8 (sg_at zd_dL_law_231 7 rfl rfl)
theorem zd_dL_law_241 : sg (cL_law.data.toList.drop 241) [[96], [46], [182, 0, 21], [87], [44], [42], [21, 4], [4]] = true := by decide +kernel
theorem dL_law_241 : decode cL_law 241 = .ok (.iadd, 1) := dc_96 (sg_at zd_dL_law_241 0 rfl rfl)
theorem dL_law_242 : decode cL_law 242 = .ok (.iaload, 1) := dc_46 (sg_at zd_dL_law_241 1 rfl rfl)
theorem dL_law_243 : decode cL_law 243 = .ok (.invokevirtual 21, 3) := dc_182 (sg_at zd_dL_law_241 2 rfl rfl) rfl
theorem dL_law_246 : decode cL_law 246 = .ok (.pop, 1) := dc_87 (sg_at zd_dL_law_241 3 rfl rfl)
theorem dL_law_247 : decode cL_law 247 = .ok (.aload_n 2, 1) := dc_44 (sg_at zd_dL_law_241 4 rfl rfl)
theorem dL_law_248 : decode cL_law 248 = .ok (.aload_n 0, 1) := dc_42 (sg_at zd_dL_law_241 5 rfl rfl)
theorem dL_law_249 : decode cL_law 249 = .ok (.iload 4, 2) := dc_21 (sg_at zd_dL_law_241 6 rfl rfl)
theorem dL_law_251 : decode cL_law 251 = .ok (.iconst 1, 1) := dc_4 (sg_at zd_dL_law_241 7 rfl rfl)
theorem zd_dL_law_252 : sg (cL_law.data.toList.drop 252) [[96], [46], [42], [21, 4], [5], [96], [46], [42]] = true := by decide +kernel
theorem dL_law_252 : decode cL_law 252 = .ok (.iadd, 1) := dc_96 (sg_at zd_dL_law_252 0 rfl rfl)
theorem dL_law_253 : decode cL_law 253 = .ok (.iaload, 1) := dc_46 (sg_at zd_dL_law_252 1 rfl rfl)
theorem dL_law_254 : decode cL_law 254 = .ok (.aload_n 0, 1) := dc_42 (sg_at zd_dL_law_252 2 rfl rfl)
theorem dL_law_255 : decode cL_law 255 = .ok (.iload 4, 2) := dc_21 (sg_at zd_dL_law_252 3 rfl rfl)
theorem dL_law_257 : decode cL_law 257 = .ok (.iconst 2, 1) := dc_5 (sg_at zd_dL_law_252 4 rfl rfl)
theorem dL_law_258 : decode cL_law 258 = .ok (.iadd, 1) := dc_96 (sg_at zd_dL_law_252 5 rfl rfl)
theorem dL_law_259 : decode cL_law 259 = .ok (.iaload, 1) := dc_46 (sg_at zd_dL_law_252 6 rfl rfl)
theorem dL_law_260 : decode cL_law 260 = .ok (.aload_n 0, 1) := dc_42 (sg_at zd_dL_law_252 7 rfl rfl)
theorem zd_dL_law_261 : sg (cL_law.data.toList.drop 261) [[21, 4], [6], [96], [46], [42], [21, 4], [7], [96]] = true := by decide +kernel
theorem dL_law_261 : decode cL_law 261 = .ok (.iload 4, 2) := dc_21 (sg_at zd_dL_law_261 0 rfl rfl)
theorem dL_law_263 : decode cL_law 263 = .ok (.iconst 3, 1) := dc_6 (sg_at zd_dL_law_261 1 rfl rfl)
theorem dL_law_264 : decode cL_law 264 = .ok (.iadd, 1) := dc_96 (sg_at zd_dL_law_261 2 rfl rfl)
theorem dL_law_265 : decode cL_law 265 = .ok (.iaload, 1) := dc_46 (sg_at zd_dL_law_261 3 rfl rfl)
theorem dL_law_266 : decode cL_law 266 = .ok (.aload_n 0, 1) := dc_42 (sg_at zd_dL_law_261 4 rfl rfl)
theorem dL_law_267 : decode cL_law 267 = .ok (.iload 4, 2) := dc_21 (sg_at zd_dL_law_261 5 rfl rfl)
theorem dL_law_269 : decode cL_law 269 = .ok (.iconst 4, 1) := dc_7 (sg_at zd_dL_law_261 6 rfl rfl)
theorem dL_law_270 : decode cL_law 270 = .ok (.iadd, 1) := dc_96 (sg_at zd_dL_law_261 7 rfl rfl)
theorem zd_dL_law_271 : sg (cL_law.data.toList.drop 271) [[46], [42], [21, 4], [8], [96], [46], [182, 0, 25], [87]] = true := by decide +kernel
theorem dL_law_271 : decode cL_law 271 = .ok (.iaload, 1) := dc_46 (sg_at zd_dL_law_271 0 rfl rfl)
theorem dL_law_272 : decode cL_law 272 = .ok (.aload_n 0, 1) := dc_42 (sg_at zd_dL_law_271 1 rfl rfl)
theorem dL_law_273 : decode cL_law 273 = .ok (.iload 4, 2) := dc_21 (sg_at zd_dL_law_271 2 rfl rfl)
theorem dL_law_275 : decode cL_law 275 = .ok (.iconst 5, 1) := dc_8 (sg_at zd_dL_law_271 3 rfl rfl)
theorem dL_law_276 : decode cL_law 276 = .ok (.iadd, 1) := dc_96 (sg_at zd_dL_law_271 4 rfl rfl)
theorem dL_law_277 : decode cL_law 277 = .ok (.iaload, 1) := dc_46 (sg_at zd_dL_law_271 5 rfl rfl)
theorem dL_law_278 : decode cL_law 278 = .ok (.invokevirtual 25, 3) := dc_182 (sg_at zd_dL_law_271 6 rfl rfl) rfl
theorem dL_law_281 : decode cL_law 281 = .ok (.pop, 1) := dc_87 (sg_at zd_dL_law_271 7 rfl rfl)
theorem zd_dL_law_282 : sg (cL_law.data.toList.drop 282) [[167, 4, 248], [43], [42], [21, 4], [4], [96], [46], [182, 0, 26]] = true := by decide +kernel
theorem dL_law_282 : decode cL_law 282 = .ok (.goto 1272, 3) := dc_167 (sg_at zd_dL_law_282 0 rfl rfl) rfl
theorem dL_law_285 : decode cL_law 285 = .ok (.aload_n 1, 1) := dc_43 (sg_at zd_dL_law_282 1 rfl rfl)
theorem dL_law_286 : decode cL_law 286 = .ok (.aload_n 0, 1) := dc_42 (sg_at zd_dL_law_282 2 rfl rfl)
theorem dL_law_287 : decode cL_law 287 = .ok (.iload 4, 2) := dc_21 (sg_at zd_dL_law_282 3 rfl rfl)
theorem dL_law_289 : decode cL_law 289 = .ok (.iconst 1, 1) := dc_4 (sg_at zd_dL_law_282 4 rfl rfl)
theorem dL_law_290 : decode cL_law 290 = .ok (.iadd, 1) := dc_96 (sg_at zd_dL_law_282 5 rfl rfl)
theorem dL_law_291 : decode cL_law 291 = .ok (.iaload, 1) := dc_46 (sg_at zd_dL_law_282 6 rfl rfl)
theorem dL_law_292 : decode cL_law 292 = .ok (.invokevirtual 26, 3) := dc_182 (sg_at zd_dL_law_282 7 rfl rfl) rfl
theorem zd_dL_law_295 : sg (cL_law.data.toList.drop 295) [[87], [44], [42], [21, 4], [4], [96], [46], [182, 0, 30]] = true := by decide +kernel
theorem dL_law_295 : decode cL_law 295 = .ok (.pop, 1) := dc_87 (sg_at zd_dL_law_295 0 rfl rfl)
theorem dL_law_296 : decode cL_law 296 = .ok (.aload_n 2, 1) := dc_44 (sg_at zd_dL_law_295 1 rfl rfl)
theorem dL_law_297 : decode cL_law 297 = .ok (.aload_n 0, 1) := dc_42 (sg_at zd_dL_law_295 2 rfl rfl)
theorem dL_law_298 : decode cL_law 298 = .ok (.iload 4, 2) := dc_21 (sg_at zd_dL_law_295 3 rfl rfl)
theorem dL_law_300 : decode cL_law 300 = .ok (.iconst 1, 1) := dc_4 (sg_at zd_dL_law_295 4 rfl rfl)
theorem dL_law_301 : decode cL_law 301 = .ok (.iadd, 1) := dc_96 (sg_at zd_dL_law_295 5 rfl rfl)
theorem dL_law_302 : decode cL_law 302 = .ok (.iaload, 1) := dc_46 (sg_at zd_dL_law_295 6 rfl rfl)
theorem dL_law_303 : decode cL_law 303 = .ok (.invokevirtual 30, 3) := dc_182 (sg_at zd_dL_law_295 7 rfl rfl) rfl
theorem zd_dL_law_306 : sg (cL_law.data.toList.drop 306) [[87], [167, 4, 223], [43], [42], [21, 4], [4], [96], [46]] = true := by decide +kernel
theorem dL_law_306 : decode cL_law 306 = .ok (.pop, 1) := dc_87 (sg_at zd_dL_law_306 0 rfl rfl)
theorem dL_law_307 : decode cL_law 307 = .ok (.goto 1247, 3) := dc_167 (sg_at zd_dL_law_306 1 rfl rfl) rfl
theorem dL_law_310 : decode cL_law 310 = .ok (.aload_n 1, 1) := dc_43 (sg_at zd_dL_law_306 2 rfl rfl)
theorem dL_law_311 : decode cL_law 311 = .ok (.aload_n 0, 1) := dc_42 (sg_at zd_dL_law_306 3 rfl rfl)
theorem dL_law_312 : decode cL_law 312 = .ok (.iload 4, 2) := dc_21 (sg_at zd_dL_law_306 4 rfl rfl)
theorem dL_law_314 : decode cL_law 314 = .ok (.iconst 1, 1) := dc_4 (sg_at zd_dL_law_306 5 rfl rfl)
theorem dL_law_315 : decode cL_law 315 = .ok (.iadd, 1) := dc_96 (sg_at zd_dL_law_306 6 rfl rfl)
theorem dL_law_316 : decode cL_law 316 = .ok (.iaload, 1) := dc_46 (sg_at zd_dL_law_306 7 rfl rfl)
theorem zd_dL_law_317 : sg (cL_law.data.toList.drop 317) [[182, 0, 31], [87], [44], [42], [21, 4], [4], [96], [46]] = true := by decide +kernel
theorem dL_law_317 : decode cL_law 317 = .ok (.invokevirtual 31, 3) := dc_182 (sg_at zd_dL_law_317 0 rfl rfl) rfl
theorem dL_law_320 : decode cL_law 320 = .ok (.pop, 1) := dc_87 (sg_at zd_dL_law_317 1 rfl rfl)
theorem dL_law_321 : decode cL_law 321 = .ok (.aload_n 2, 1) := dc_44 (sg_at zd_dL_law_317 2 rfl rfl)
theorem dL_law_322 : decode cL_law 322 = .ok (.aload_n 0, 1) := dc_42 (sg_at zd_dL_law_317 3 rfl rfl)
theorem dL_law_323 : decode cL_law 323 = .ok (.iload 4, 2) := dc_21 (sg_at zd_dL_law_317 4 rfl rfl)
theorem dL_law_325 : decode cL_law 325 = .ok (.iconst 1, 1) := dc_4 (sg_at zd_dL_law_317 5 rfl rfl)
theorem dL_law_326 : decode cL_law 326 = .ok (.iadd, 1) := dc_96 (sg_at zd_dL_law_317 6 rfl rfl)
theorem dL_law_327 : decode cL_law 327 = .ok (.iaload, 1) := dc_46 (sg_at zd_dL_law_317 7 rfl rfl)
theorem zd_dL_law_328 : sg (cL_law.data.toList.drop 328) [[182, 0, 34], [87], [167, 4, 198], [43], [42], [21, 4], [4], [96]] = true := by decide +kernel
theorem dL_law_328 : decode cL_law 328 = .ok (.invokevirtual 34, 3) := dc_182 (sg_at zd_dL_law_328 0 rfl rfl) rfl
theorem dL_law_331 : decode cL_law 331 = .ok (.pop, 1) := dc_87 (sg_at zd_dL_law_328 1 rfl rfl)
theorem dL_law_332 : decode cL_law 332 = .ok (.goto 1222, 3) := dc_167 (sg_at zd_dL_law_328 2 rfl rfl) rfl
theorem dL_law_335 : decode cL_law 335 = .ok (.aload_n 1, 1) := dc_43 (sg_at zd_dL_law_328 3 rfl rfl)
theorem dL_law_336 : decode cL_law 336 = .ok (.aload_n 0, 1) := dc_42 (sg_at zd_dL_law_328 4 rfl rfl)
theorem dL_law_337 : decode cL_law 337 = .ok (.iload 4, 2) := dc_21 (sg_at zd_dL_law_328 5 rfl rfl)
theorem dL_law_339 : decode cL_law 339 = .ok (.iconst 1, 1) := dc_4 (sg_at zd_dL_law_328 6 rfl rfl)
theorem dL_law_340 : decode cL_law 340 = .ok (.iadd, 1) := dc_96 (sg_at zd_dL_law_328 7 rfl rfl)
theorem zd_dL_law_341 : sg (cL_law.data.toList.drop 341) [[46], [182, 0, 35], [87], [44], [42], [21, 4], [4], [96]] = true := by decide +kernel
theorem dL_law_341 : decode cL_law 341 = .ok (.iaload, 1) := dc_46 (sg_at zd_dL_law_341 0 rfl rfl)
theorem dL_law_342 : decode cL_law 342 = .ok (.invokevirtual 35, 3) := dc_182 (sg_at zd_dL_law_341 1 rfl rfl) rfl
theorem dL_law_345 : decode cL_law 345 = .ok (.pop, 1) := dc_87 (sg_at zd_dL_law_341 2 rfl rfl)
theorem dL_law_346 : decode cL_law 346 = .ok (.aload_n 2, 1) := dc_44 (sg_at zd_dL_law_341 3 rfl rfl)
theorem dL_law_347 : decode cL_law 347 = .ok (.aload_n 0, 1) := dc_42 (sg_at zd_dL_law_341 4 rfl rfl)
theorem dL_law_348 : decode cL_law 348 = .ok (.iload 4, 2) := dc_21 (sg_at zd_dL_law_341 5 rfl rfl)
theorem dL_law_350 : decode cL_law 350 = .ok (.iconst 1, 1) := dc_4 (sg_at zd_dL_law_341 6 rfl rfl)
theorem dL_law_351 : decode cL_law 351 = .ok (.iadd, 1) := dc_96 (sg_at zd_dL_law_341 7 rfl rfl)
theorem zd_dL_law_352 : sg (cL_law.data.toList.drop 352) [[46], [182, 0, 38], [87], [167, 4, 173], [43], [42], [21, 4], [4]] = true := by decide +kernel
theorem dL_law_352 : decode cL_law 352 = .ok (.iaload, 1) := dc_46 (sg_at zd_dL_law_352 0 rfl rfl)
theorem dL_law_353 : decode cL_law 353 = .ok (.invokevirtual 38, 3) := dc_182 (sg_at zd_dL_law_352 1 rfl rfl) rfl
theorem dL_law_356 : decode cL_law 356 = .ok (.pop, 1) := dc_87 (sg_at zd_dL_law_352 2 rfl rfl)
theorem dL_law_357 : decode cL_law 357 = .ok (.goto 1197, 3) := dc_167 (sg_at zd_dL_law_352 3 rfl rfl) rfl
theorem dL_law_360 : decode cL_law 360 = .ok (.aload_n 1, 1) := dc_43 (sg_at zd_dL_law_352 4 rfl rfl)
theorem dL_law_361 : decode cL_law 361 = .ok (.aload_n 0, 1) := dc_42 (sg_at zd_dL_law_352 5 rfl rfl)
theorem dL_law_362 : decode cL_law 362 = .ok (.iload 4, 2) := dc_21 (sg_at zd_dL_law_352 6 rfl rfl)
theorem dL_law_364 : decode cL_law 364 = .ok (.iconst 1, 1) := dc_4 (sg_at zd_dL_law_352 7 rfl rfl)
theorem zd_dL_law_365 : sg (cL_law.data.toList.drop 365) [[96], [46], [42], [21, 4], [5], [96], [46], [45]] = true := by decide +kernel
theorem dL_law_365 : decode cL_law 365 = .ok (.iadd, 1) := dc_96 (sg_at zd_dL_law_365 0 rfl rfl)
theorem dL_law_366 : decode cL_law 366 = .ok (.iaload, 1) := dc_46 (sg_at zd_dL_law_365 1 rfl rfl)
theorem dL_law_367 : decode cL_law 367 = .ok (.aload_n 0, 1) := dc_42 (sg_at zd_dL_law_365 2 rfl rfl)
theorem dL_law_368 : decode cL_law 368 = .ok (.iload 4, 2) := dc_21 (sg_at zd_dL_law_365 3 rfl rfl)
theorem dL_law_370 : decode cL_law 370 = .ok (.iconst 2, 1) := dc_5 (sg_at zd_dL_law_365 4 rfl rfl)
theorem dL_law_371 : decode cL_law 371 = .ok (.iadd, 1) := dc_96 (sg_at zd_dL_law_365 5 rfl rfl)
theorem dL_law_372 : decode cL_law 372 = .ok (.iaload, 1) := dc_46 (sg_at zd_dL_law_365 6 rfl rfl)
theorem dL_law_373 : decode cL_law 373 = .ok (.aload_n 3, 1) := dc_45 (sg_at zd_dL_law_365 7 rfl rfl)
theorem zd_dL_law_374 : sg (cL_law.data.toList.drop 374) [[184, 0, 39], [54, 5], [44], [42], [21, 4], [4], [96], [46]] = true := by decide +kernel
theorem dL_law_374 : decode cL_law 374 = .ok (.invokestatic 39, 3) := dc_184 (sg_at zd_dL_law_374 0 rfl rfl) rfl
theorem dL_law_377 : decode cL_law 377 = .ok (.istore 5, 2) := dc_54 (sg_at zd_dL_law_374 1 rfl rfl)
theorem dL_law_379 : decode cL_law 379 = .ok (.aload_n 2, 1) := dc_44 (sg_at zd_dL_law_374 2 rfl rfl)
theorem dL_law_380 : decode cL_law 380 = .ok (.aload_n 0, 1) := dc_42 (sg_at zd_dL_law_374 3 rfl rfl)
theorem dL_law_381 : decode cL_law 381 = .ok (.iload 4, 2) := dc_21 (sg_at zd_dL_law_374 4 rfl rfl)
theorem dL_law_383 : decode cL_law 383 = .ok (.iconst 1, 1) := dc_4 (sg_at zd_dL_law_374 5 rfl rfl)
theorem dL_law_384 : decode cL_law 384 = .ok (.iadd, 1) := dc_96 (sg_at zd_dL_law_374 6 rfl rfl)
theorem dL_law_385 : decode cL_law 385 = .ok (.iaload, 1) := dc_46 (sg_at zd_dL_law_374 7 rfl rfl)
theorem zd_dL_law_386 : sg (cL_law.data.toList.drop 386) [[42], [21, 4], [5], [96], [46], [182, 0, 44], [54, 6], [44]] = true := by decide +kernel
theorem dL_law_386 : decode cL_law 386 = .ok (.aload_n 0, 1) := dc_42 (sg_at zd_dL_law_386 0 rfl rfl)
theorem dL_law_387 : decode cL_law 387 = .ok (.iload 4, 2) := dc_21 (sg_at zd_dL_law_386 1 rfl rfl)
theorem dL_law_389 : decode cL_law 389 = .ok (.iconst 2, 1) := dc_5 (sg_at zd_dL_law_386 2 rfl rfl)
theorem dL_law_390 : decode cL_law 390 = .ok (.iadd, 1) := dc_96 (sg_at zd_dL_law_386 3 rfl rfl)
theorem dL_law_391 : decode cL_law 391 = .ok (.iaload, 1) := dc_46 (sg_at zd_dL_law_386 4 rfl rfl)
theorem dL_law_392 : decode cL_law 392 = .ok (.invokevirtual 44, 3) := dc_182 (sg_at zd_dL_law_386 5 rfl rfl) rfl
theorem dL_law_395 : decode cL_law 395 = .ok (.istore 6, 2) := dc_54 (sg_at zd_dL_law_386 6 rfl rfl)
theorem dL_law_397 : decode cL_law 397 = .ok (.aload_n 2, 1) := dc_44 (sg_at zd_dL_law_386 7 rfl rfl)
theorem zd_dL_law_398 : sg (cL_law.data.toList.drop 398) [[182, 0, 45], [21, 5], [159, 0, 5]] = true := by decide +kernel
theorem dL_law_398 : decode cL_law 398 = .ok (.invokevirtual 45, 3) := dc_182 (sg_at zd_dL_law_398 0 rfl rfl) rfl
theorem dL_law_401 : decode cL_law 401 = .ok (.iload 5, 2) := dc_21 (sg_at zd_dL_law_398 1 rfl rfl)
theorem dL_law_403 : decode cL_law 403 = .ok (.if_icmp .eq 5, 3) := dc_159 (sg_at zd_dL_law_398 2 rfl rfl) rfl
theorem zd_dL_law_408 : sg (cL_law.data.toList.drop 408) [[21, 5], [154, 0, 15], [45], [3], [47], [21, 6], [133], [148]] = true := by decide +kernel
theorem dL_law_408 : decode cL_law 408 = .ok (.iload 5, 2) := dc_21 (sg_at zd_dL_law_408 0 rfl rfl)
theorem dL_law_410 : decode cL_law 410 = .ok (.ifCond .ne 15, 3) := dc_154 (sg_at zd_dL_law_408 1 rfl rfl) rfl
theorem dL_law_413 : decode cL_law 413 = .ok (.aload_n 3, 1) := dc_45 (sg_at zd_dL_law_408 2 rfl rfl)
theorem dL_law_414 : decode cL_law 414 = .ok (.iconst 0, 1) := dc_3 (sg_at zd_dL_law_408 3 rfl rfl)
theorem dL_law_415 : decode cL_law 415 = .ok (.laload, 1) := dc_47 (sg_at zd_dL_law_408 4 rfl rfl)
theorem dL_law_416 : decode cL_law 416 = .ok (.iload 6, 2) := dc_21 (sg_at zd_dL_law_408 5 rfl rfl)
theorem dL_law_418 : decode cL_law 418 = .ok (.i2l, 1) := dc_133 (sg_at zd_dL_law_408 6 rfl rfl)
theorem dL_law_419 : decode cL_law 419 = .ok (.lcmp, 1) := dc_148 (sg_at zd_dL_law_408 7 rfl rfl)
theorem zd_dL_law_420 : sg (cL_law.data.toList.drop 420) [[153, 0, 5]] = true := by decide +kernel
theorem dL_law_420 : decode cL_law 420 = .ok (.ifCond .eq 5, 3) := dc_153 (sg_at zd_dL_law_420 0 rfl rfl) rfl
theorem zd_dL_law_425 : sg (cL_law.data.toList.drop 425) [[167, 4, 105], [43], [42], [21, 4], [4], [96], [46], [42]] = true := by decide +kernel
theorem dL_law_425 : decode cL_law 425 = .ok (.goto 1129, 3) := dc_167 (sg_at zd_dL_law_425 0 rfl rfl) rfl
theorem dL_law_428 : decode cL_law 428 = .ok (.aload_n 1, 1) := dc_43 (sg_at zd_dL_law_425 1 rfl rfl)
theorem dL_law_429 : decode cL_law 429 = .ok (.aload_n 0, 1) := dc_42 (sg_at zd_dL_law_425 2 rfl rfl)
theorem dL_law_430 : decode cL_law 430 = .ok (.iload 4, 2) := dc_21 (sg_at zd_dL_law_425 3 rfl rfl)
theorem dL_law_432 : decode cL_law 432 = .ok (.iconst 1, 1) := dc_4 (sg_at zd_dL_law_425 4 rfl rfl)
theorem dL_law_433 : decode cL_law 433 = .ok (.iadd, 1) := dc_96 (sg_at zd_dL_law_425 5 rfl rfl)
theorem dL_law_434 : decode cL_law 434 = .ok (.iaload, 1) := dc_46 (sg_at zd_dL_law_425 6 rfl rfl)
theorem dL_law_435 : decode cL_law 435 = .ok (.aload_n 0, 1) := dc_42 (sg_at zd_dL_law_425 7 rfl rfl)
theorem zd_dL_law_436 : sg (cL_law.data.toList.drop 436) [[21, 4], [5], [96], [46], [182, 0, 49], [87], [44], [42]] = true := by decide +kernel
theorem dL_law_436 : decode cL_law 436 = .ok (.iload 4, 2) := dc_21 (sg_at zd_dL_law_436 0 rfl rfl)
theorem dL_law_438 : decode cL_law 438 = .ok (.iconst 2, 1) := dc_5 (sg_at zd_dL_law_436 1 rfl rfl)
theorem dL_law_439 : decode cL_law 439 = .ok (.iadd, 1) := dc_96 (sg_at zd_dL_law_436 2 rfl rfl)
theorem dL_law_440 : decode cL_law 440 = .ok (.iaload, 1) := dc_46 (sg_at zd_dL_law_436 3 rfl rfl)
theorem dL_law_441 : decode cL_law 441 = .ok (.invokevirtual 49, 3) := dc_182 (sg_at zd_dL_law_436 4 rfl rfl) rfl
theorem dL_law_444 : decode cL_law 444 = .ok (.pop, 1) := dc_87 (sg_at zd_dL_law_436 5 rfl rfl)
theorem dL_law_445 : decode cL_law 445 = .ok (.aload_n 2, 1) := dc_44 (sg_at zd_dL_law_436 6 rfl rfl)
theorem dL_law_446 : decode cL_law 446 = .ok (.aload_n 0, 1) := dc_42 (sg_at zd_dL_law_436 7 rfl rfl)
theorem zd_dL_law_447 : sg (cL_law.data.toList.drop 447) [[21, 4], [4], [96], [46], [42], [21, 4], [5], [96]] = true := by decide +kernel
theorem dL_law_447 : decode cL_law 447 = .ok (.iload 4, 2) := dc_21 (sg_at zd_dL_law_447 0 rfl rfl)
theorem dL_law_449 : decode cL_law 449 = .ok (.iconst 1, 1) := dc_4 (sg_at zd_dL_law_447 1 rfl rfl)
theorem dL_law_450 : decode cL_law 450 = .ok (.iadd, 1) := dc_96 (sg_at zd_dL_law_447 2 rfl rfl)
theorem dL_law_451 : decode cL_law 451 = .ok (.iaload, 1) := dc_46 (sg_at zd_dL_law_447 3 rfl rfl)
theorem dL_law_452 : decode cL_law 452 = .ok (.aload_n 0, 1) := dc_42 (sg_at zd_dL_law_447 4 rfl rfl)
theorem dL_law_453 : decode cL_law 453 = .ok (.iload 4, 2) := dc_21 (sg_at zd_dL_law_447 5 rfl rfl)
theorem dL_law_455 : decode cL_law 455 = .ok (.iconst 2, 1) := dc_5 (sg_at zd_dL_law_447 6 rfl rfl)
theorem dL_law_456 : decode cL_law 456 = .ok (.iadd, 1) := dc_96 (sg_at zd_dL_law_447 7 rfl rfl)
theorem zd_dL_law_457 : sg (cL_law.data.toList.drop 457) [[46], [182, 0, 52], [87], [167, 4, 68], [43], [42], [21, 4], [4]] = true := by decide +kernel
theorem dL_law_457 : decode cL_law 457 = .ok (.iaload, 1) := dc_46 (sg_at zd_dL_law_457 0 rfl rfl)
theorem dL_law_458 : decode cL_law 458 = .ok (.invokevirtual 52, 3) := dc_182 (sg_at zd_dL_law_457 1 rfl rfl) rfl
theorem dL_law_461 : decode cL_law 461 = .ok (.pop, 1) := dc_87 (sg_at zd_dL_law_457 2 rfl rfl)
theorem dL_law_462 : decode cL_law 462 = .ok (.goto 1092, 3) := dc_167 (sg_at zd_dL_law_457 3 rfl rfl) rfl
theorem dL_law_465 : decode cL_law 465 = .ok (.aload_n 1, 1) := dc_43 (sg_at zd_dL_law_457 4 rfl rfl)
theorem dL_law_466 : decode cL_law 466 = .ok (.aload_n 0, 1) := dc_42 (sg_at zd_dL_law_457 5 rfl rfl)
theorem dL_law_467 : decode cL_law 467 = .ok (.iload 4, 2) := dc_21 (sg_at zd_dL_law_457 6 rfl rfl)
theorem dL_law_469 : decode cL_law 469 = .ok (.iconst 1, 1) := dc_4 (sg_at zd_dL_law_457 7 rfl rfl)
theorem zd_dL_law_470 : sg (cL_law.data.toList.drop 470) [[96], [46], [182, 0, 53], [87], [44], [42], [21, 4], [4]] = true := by decide +kernel
theorem dL_law_470 : decode cL_law 470 = .ok (.iadd, 1) := dc_96 (sg_at zd_dL_law_470 0 rfl rfl)
theorem dL_law_471 : decode cL_law 471 = .ok (.iaload, 1) := dc_46 (sg_at zd_dL_law_470 1 rfl rfl)
theorem dL_law_472 : decode cL_law 472 = .ok (.invokevirtual 53, 3) := dc_182 (sg_at zd_dL_law_470 2 rfl rfl) rfl
theorem dL_law_475 : decode cL_law 475 = .ok (.pop, 1) := dc_87 (sg_at zd_dL_law_470 3 rfl rfl)
theorem dL_law_476 : decode cL_law 476 = .ok (.aload_n 2, 1) := dc_44 (sg_at zd_dL_law_470 4 rfl rfl)
theorem dL_law_477 : decode cL_law 477 = .ok (.aload_n 0, 1) := dc_42 (sg_at zd_dL_law_470 5 rfl rfl)
theorem dL_law_478 : decode cL_law 478 = .ok (.iload 4, 2) := dc_21 (sg_at zd_dL_law_470 6 rfl rfl)
theorem dL_law_480 : decode cL_law 480 = .ok (.iconst 1, 1) := dc_4 (sg_at zd_dL_law_470 7 rfl rfl)
theorem zd_dL_law_481 : sg (cL_law.data.toList.drop 481) [[96], [46], [182, 0, 56], [87], [167, 4, 43], [43], [42], [21, 4]] = true := by decide +kernel
theorem dL_law_481 : decode cL_law 481 = .ok (.iadd, 1) := dc_96 (sg_at zd_dL_law_481 0 rfl rfl)
theorem dL_law_482 : decode cL_law 482 = .ok (.iaload, 1) := dc_46 (sg_at zd_dL_law_481 1 rfl rfl)
theorem dL_law_483 : decode cL_law 483 = .ok (.invokevirtual 56, 3) := dc_182 (sg_at zd_dL_law_481 2 rfl rfl) rfl
theorem dL_law_486 : decode cL_law 486 = .ok (.pop, 1) := dc_87 (sg_at zd_dL_law_481 3 rfl rfl)
theorem dL_law_487 : decode cL_law 487 = .ok (.goto 1067, 3) := dc_167 (sg_at zd_dL_law_481 4 rfl rfl) rfl
theorem dL_law_490 : decode cL_law 490 = .ok (.aload_n 1, 1) := dc_43 (sg_at zd_dL_law_481 5 rfl rfl)
theorem dL_law_491 : decode cL_law 491 = .ok (.aload_n 0, 1) := dc_42 (sg_at zd_dL_law_481 6 rfl rfl)
theorem dL_law_492 : decode cL_law 492 = .ok (.iload 4, 2) := dc_21 (sg_at zd_dL_law_481 7 rfl rfl)
theorem zd_dL_law_494 : sg (cL_law.data.toList.drop 494) [[4], [96], [46], [42], [21, 4], [5], [96], [46]] = true := by decide +kernel
theorem dL_law_494 : decode cL_law 494 = .ok (.iconst 1, 1) := dc_4 (sg_at zd_dL_law_494 0 rfl rfl)
theorem dL_law_495 : decode cL_law 495 = .ok (.iadd, 1) := dc_96 (sg_at zd_dL_law_494 1 rfl rfl)
theorem dL_law_496 : decode cL_law 496 = .ok (.iaload, 1) := dc_46 (sg_at zd_dL_law_494 2 rfl rfl)
theorem dL_law_497 : decode cL_law 497 = .ok (.aload_n 0, 1) := dc_42 (sg_at zd_dL_law_494 3 rfl rfl)
theorem dL_law_498 : decode cL_law 498 = .ok (.iload 4, 2) := dc_21 (sg_at zd_dL_law_494 4 rfl rfl)
theorem dL_law_500 : decode cL_law 500 = .ok (.iconst 2, 1) := dc_5 (sg_at zd_dL_law_494 5 rfl rfl)
theorem dL_law_501 : decode cL_law 501 = .ok (.iadd, 1) := dc_96 (sg_at zd_dL_law_494 6 rfl rfl)
theorem dL_law_502 : decode cL_law 502 = .ok (.iaload, 1) := dc_46 (sg_at zd_dL_law_494 7 rfl rfl)
theorem zd_dL_law_503 : sg (cL_law.data.toList.drop 503) [[42], [21, 4], [6], [96], [46], [182, 0, 57], [87], [44]] = true := by decide +kernel
theorem dL_law_503 : decode cL_law 503 = .ok (.aload_n 0, 1) := dc_42 (sg_at zd_dL_law_503 0 rfl rfl)
theorem dL_law_504 : decode cL_law 504 = .ok (.iload 4, 2) := dc_21 (sg_at zd_dL_law_503 1 rfl rfl)
theorem dL_law_506 : decode cL_law 506 = .ok (.iconst 3, 1) := dc_6 (sg_at zd_dL_law_503 2 rfl rfl)
theorem dL_law_507 : decode cL_law 507 = .ok (.iadd, 1) := dc_96 (sg_at zd_dL_law_503 3 rfl rfl)
theorem dL_law_508 : decode cL_law 508 = .ok (.iaload, 1) := dc_46 (sg_at zd_dL_law_503 4 rfl rfl)
theorem dL_law_509 : decode cL_law 509 = .ok (.invokevirtual 57, 3) := dc_182 (sg_at zd_dL_law_503 5 rfl rfl) rfl
theorem dL_law_512 : decode cL_law 512 = .ok (.pop, 1) := dc_87 (sg_at zd_dL_law_503 6 rfl rfl)
theorem dL_law_513 : decode cL_law 513 = .ok (.aload_n 2, 1) := dc_44 (sg_at zd_dL_law_503 7 rfl rfl)
theorem zd_dL_law_514 : sg (cL_law.data.toList.drop 514) [[42], [21, 4], [4], [96], [46], [42], [21, 4], [5]] = true := by decide +kernel
theorem dL_law_514 : decode cL_law 514 = .ok (.aload_n 0, 1) := dc_42 (sg_at zd_dL_law_514 0 rfl rfl)
theorem dL_law_515 : decode cL_law 515 = .ok (.iload 4, 2) := dc_21 (sg_at zd_dL_law_514 1 rfl rfl)
theorem dL_law_517 : decode cL_law 517 = .ok (.iconst 1, 1) := dc_4 (sg_at zd_dL_law_514 2 rfl rfl)
theorem dL_law_518 : decode cL_law 518 = .ok (.iadd, 1) := dc_96 (sg_at zd_dL_law_514 3 rfl rfl)
theorem dL_law_519 : decode cL_law 519 = .ok (.iaload, 1) := dc_46 (sg_at zd_dL_law_514 4 rfl rfl)
theorem dL_law_520 : decode cL_law 520 = .ok (.aload_n 0, 1) := dc_42 (sg_at zd_dL_law_514 5 rfl rfl)
theorem dL_law_521 : decode cL_law 521 = .ok (.iload 4, 2) := dc_21 (sg_at zd_dL_law_514 6 rfl rfl)
theorem dL_law_523 : decode cL_law 523 = .ok (.iconst 2, 1) := dc_5 (sg_at zd_dL_law_514 7 rfl rfl)
theorem zd_dL_law_524 : sg (cL_law.data.toList.drop 524) [[96], [46], [42], [21, 4], [6], [96], [46], [182, 0, 61]] = true := by decide +kernel
theorem dL_law_524 : decode cL_law 524 = .ok (.iadd, 1) := dc_96 (sg_at zd_dL_law_524 0 rfl rfl)
theorem dL_law_525 : decode cL_law 525 = .ok (.iaload, 1) := dc_46 (sg_at zd_dL_law_524 1 rfl rfl)
theorem dL_law_526 : decode cL_law 526 = .ok (.aload_n 0, 1) := dc_42 (sg_at zd_dL_law_524 2 rfl rfl)
theorem dL_law_527 : decode cL_law 527 = .ok (.iload 4, 2) := dc_21 (sg_at zd_dL_law_524 3 rfl rfl)
theorem dL_law_529 : decode cL_law 529 = .ok (.iconst 3, 1) := dc_6 (sg_at zd_dL_law_524 4 rfl rfl)
theorem dL_law_530 : decode cL_law 530 = .ok (.iadd, 1) := dc_96 (sg_at zd_dL_law_524 5 rfl rfl)
theorem dL_law_531 : decode cL_law 531 = .ok (.iaload, 1) := dc_46 (sg_at zd_dL_law_524 6 rfl rfl)
theorem dL_law_532 : decode cL_law 532 = .ok (.invokevirtual 61, 3) := dc_182 (sg_at zd_dL_law_524 7 rfl rfl) rfl
theorem zd_dL_law_535 : sg (cL_law.data.toList.drop 535) [[87], [167, 3, 250], [43], [42], [21, 4], [4], [96], [46]] = true := by decide +kernel
theorem dL_law_535 : decode cL_law 535 = .ok (.pop, 1) := dc_87 (sg_at zd_dL_law_535 0 rfl rfl)
theorem dL_law_536 : decode cL_law 536 = .ok (.goto 1018, 3) := dc_167 (sg_at zd_dL_law_535 1 rfl rfl) rfl
theorem dL_law_539 : decode cL_law 539 = .ok (.aload_n 1, 1) := dc_43 (sg_at zd_dL_law_535 2 rfl rfl)
theorem dL_law_540 : decode cL_law 540 = .ok (.aload_n 0, 1) := dc_42 (sg_at zd_dL_law_535 3 rfl rfl)
theorem dL_law_541 : decode cL_law 541 = .ok (.iload 4, 2) := dc_21 (sg_at zd_dL_law_535 4 rfl rfl)
theorem dL_law_543 : decode cL_law 543 = .ok (.iconst 1, 1) := dc_4 (sg_at zd_dL_law_535 5 rfl rfl)
theorem dL_law_544 : decode cL_law 544 = .ok (.iadd, 1) := dc_96 (sg_at zd_dL_law_535 6 rfl rfl)
theorem dL_law_545 : decode cL_law 545 = .ok (.iaload, 1) := dc_46 (sg_at zd_dL_law_535 7 rfl rfl)
theorem zd_dL_law_546 : sg (cL_law.data.toList.drop 546) [[42], [21, 4], [5], [96], [46], [42], [21, 4], [6]] = true := by decide +kernel
theorem dL_law_546 : decode cL_law 546 = .ok (.aload_n 0, 1) := dc_42 (sg_at zd_dL_law_546 0 rfl rfl)
theorem dL_law_547 : decode cL_law 547 = .ok (.iload 4, 2) := dc_21 (sg_at zd_dL_law_546 1 rfl rfl)
theorem dL_law_549 : decode cL_law 549 = .ok (.iconst 2, 1) := dc_5 (sg_at zd_dL_law_546 2 rfl rfl)
theorem dL_law_550 : decode cL_law 550 = .ok (.iadd, 1) := dc_96 (sg_at zd_dL_law_546 3 rfl rfl)
theorem dL_law_551 : decode cL_law 551 = .ok (.iaload, 1) := dc_46 (sg_at zd_dL_law_546 4 rfl rfl)
theorem dL_law_552 : decode cL_law 552 = .ok (.aload_n 0, 1) := dc_42 (sg_at zd_dL_law_546 5 rfl rfl)
theorem dL_law_553 : decode cL_law 553 = .ok (.iload 4, 2) := dc_21 (sg_at zd_dL_law_546 6 rfl rfl)
theorem dL_law_555 : decode cL_law 555 = .ok (.iconst 3, 1) := dc_6 (sg_at zd_dL_law_546 7 rfl rfl)
theorem zd_dL_law_556 : sg (cL_law.data.toList.drop 556) [[96], [46], [182, 0, 62], [88], [44], [42], [21, 4], [4]] = true := by decide +kernel
theorem dL_law_556 : decode cL_law 556 = .ok (.iadd, 1) := dc_96 (sg_at zd_dL_law_556 0 rfl rfl)
theorem dL_law_557 : decode cL_law 557 = .ok (.iaload, 1) := dc_46 (sg_at zd_dL_law_556 1 rfl rfl)
theorem dL_law_558 : decode cL_law 558 = .ok (.invokevirtual 62, 3) := dc_182 (sg_at zd_dL_law_556 2 rfl rfl) rfl
theorem dL_law_561 : decode cL_law 561 = .ok (.pop2, 1) := dc_88 (sg_at zd_dL_law_556 3 rfl rfl)
theorem dL_law_562 : decode cL_law 562 = .ok (.aload_n 2, 1) := dc_44 (sg_at zd_dL_law_556 4 rfl rfl)
theorem dL_law_563 : decode cL_law 563 = .ok (.aload_n 0, 1) := dc_42 (sg_at zd_dL_law_556 5 rfl rfl)
theorem dL_law_564 : decode cL_law 564 = .ok (.iload 4, 2) := dc_21 (sg_at zd_dL_law_556 6 rfl rfl)
theorem dL_law_566 : decode cL_law 566 = .ok (.iconst 1, 1) := dc_4 (sg_at zd_dL_law_556 7 rfl rfl)
theorem zd_dL_law_567 : sg (cL_law.data.toList.drop 567) [[96], [46], [42], [21, 4], [5], [96], [46], [42]] = true := by decide +kernel
theorem dL_law_567 : decode cL_law 567 = .ok (.iadd, 1) := dc_96 (sg_at zd_dL_law_567 0 rfl rfl)
theorem dL_law_568 : decode cL_law 568 = .ok (.iaload, 1) := dc_46 (sg_at zd_dL_law_567 1 rfl rfl)
theorem dL_law_569 : decode cL_law 569 = .ok (.aload_n 0, 1) := dc_42 (sg_at zd_dL_law_567 2 rfl rfl)
theorem dL_law_570 : decode cL_law 570 = .ok (.iload 4, 2) := dc_21 (sg_at zd_dL_law_567 3 rfl rfl)
theorem dL_law_572 : decode cL_law 572 = .ok (.iconst 2, 1) := dc_5 (sg_at zd_dL_law_567 4 rfl rfl)
theorem dL_law_573 : decode cL_law 573 = .ok (.iadd, 1) := dc_96 (sg_at zd_dL_law_567 5 rfl rfl)
theorem dL_law_574 : decode cL_law 574 = .ok (.iaload, 1) := dc_46 (sg_at zd_dL_law_567 6 rfl rfl)
theorem dL_law_575 : decode cL_law 575 = .ok (.aload_n 0, 1) := dc_42 (sg_at zd_dL_law_567 7 rfl rfl)
theorem zd_dL_law_576 : sg (cL_law.data.toList.drop 576) [[21, 4], [6], [96], [46], [182, 0, 66], [88], [167, 3, 201], [43]] = true := by decide +kernel
theorem dL_law_576 : decode cL_law 576 = .ok (.iload 4, 2) := dc_21 (sg_at zd_dL_law_576 0 rfl rfl)
theorem dL_law_578 : decode cL_law 578 = .ok (.iconst 3, 1) := dc_6 (sg_at zd_dL_law_576 1 rfl rfl)
theorem dL_law_579 : decode cL_law 579 = .ok (.iadd, 1) := dc_96 (sg_at zd_dL_law_576 2 rfl rfl)
theorem dL_law_580 : decode cL_law 580 = .ok (.iaload, 1) := dc_46 (sg_at zd_dL_law_576 3 rfl rfl)
theorem dL_law_581 : decode cL_law 581 = .ok (.invokevirtual 66, 3) := dc_182 (sg_at zd_dL_law_576 4 rfl rfl) rfl
theorem dL_law_584 : decode cL_law 584 = .ok (.pop2, 1) := dc_88 (sg_at zd_dL_law_576 5 rfl rfl)
theorem dL_law_585 : decode cL_law 585 = .ok (.goto 969, 3) := dc_167 (sg_at zd_dL_law_576 6 rfl rfl) rfl
theorem dL_law_588 : decode cL_law 588 = .ok (.aload_n 1, 1) := dc_43 (sg_at zd_dL_law_576 7 rfl rfl)
theorem zd_dL_law_589 : sg (cL_law.data.toList.drop 589) [[42], [21, 4], [4], [96], [46], [42], [21, 4], [5]] = true := by decide +kernel
theorem dL_law_589 : decode cL_law 589 = .ok (.aload_n 0, 1) := dc_42 (sg_at zd_dL_law_589 0 rfl rfl)
theorem dL_law_590 : decode cL_law 590 = .ok (.iload 4, 2) := dc_21 (sg_at zd_dL_law_589 1 rfl rfl)
theorem dL_law_592 : decode cL_law 592 = .ok (.iconst 1, 1) := dc_4 (sg_at zd_dL_law_589 2 rfl rfl)
theorem dL_law_593 : decode cL_law 593 = .ok (.iadd, 1) := dc_96 (sg_at zd_dL_law_589 3 rfl rfl)
theorem dL_law_594 : decode cL_law 594 = .ok (.iaload, 1) := dc_46 (sg_at zd_dL_law_589 4 rfl rfl)
theorem dL_law_595 : decode cL_law 595 = .ok (.aload_n 0, 1) := dc_42 (sg_at zd_dL_law_589 5 rfl rfl)
theorem dL_law_596 : decode cL_law 596 = .ok (.iload 4, 2) := dc_21 (sg_at zd_dL_law_589 6 rfl rfl)
theorem dL_law_598 : decode cL_law 598 = .ok (.iconst 2, 1) := dc_5 (sg_at zd_dL_law_589 7 rfl rfl)
theorem zd_dL_law_599 : sg (cL_law.data.toList.drop 599) [[96], [46], [182, 0, 67], [87], [44], [42], [21, 4], [4]] = true := by decide +kernel
theorem dL_law_599 : decode cL_law 599 = .ok (.iadd, 1) := dc_96 (sg_at zd_dL_law_599 0 rfl rfl)
theorem dL_law_600 : decode cL_law 600 = .ok (.iaload, 1) := dc_46 (sg_at zd_dL_law_599 1 rfl rfl)
theorem dL_law_601 : decode cL_law 601 = .ok (.invokevirtual 67, 3) := dc_182 (sg_at zd_dL_law_599 2 rfl rfl) rfl
theorem dL_law_604 : decode cL_law 604 = .ok (.pop, 1) := dc_87 (sg_at zd_dL_law_599 3 rfl rfl)
theorem dL_law_605 : decode cL_law 605 = .ok (.aload_n 2, 1) := dc_44 (sg_at zd_dL_law_599 4 rfl rfl)
theorem dL_law_606 : decode cL_law 606 = .ok (.aload_n 0, 1) := dc_42 (sg_at zd_dL_law_599 5 rfl rfl)
theorem dL_law_607 : decode cL_law 607 = .ok (.iload 4, 2) := dc_21 (sg_at zd_dL_law_599 6 rfl rfl)
theorem dL_law_609 : decode cL_law 609 = .ok (.iconst 1, 1) := dc_4 (sg_at zd_dL_law_599 7 rfl rfl)
theorem zd_dL_law_610 : sg (cL_law.data.toList.drop 610) [[96], [46], [42], [21, 4], [5], [96], [46], [182, 0, 70]] = true := by decide +kernel
theorem dL_law_610 : decode cL_law 610 = .ok (.iadd, 1) := dc_96 (sg_at zd_dL_law_610 0 rfl rfl)
theorem dL_law_611 : decode cL_law 611 = .ok (.iaload, 1) := dc_46 (sg_at zd_dL_law_610 1 rfl rfl)
theorem dL_law_612 : decode cL_law 612 = .ok (.aload_n 0, 1) := dc_42 (sg_at zd_dL_law_610 2 rfl rfl)
theorem dL_law_613 : decode cL_law 613 = .ok (.iload 4, 2) := dc_21 (sg_at zd_dL_law_610 3 rfl rfl)
theorem dL_law_615 : decode cL_law 615 = .ok (.iconst 2, 1) := dc_5 (sg_at zd_dL_law_610 4 rfl rfl)
theorem dL_law_616 : decode cL_law 616 = .ok (.iadd, 1) := dc_96 (sg_at zd_dL_law_610 5 rfl rfl)
theorem dL_law_617 : decode cL_law 617 = .ok (.iaload, 1) := dc_46 (sg_at zd_dL_law_610 6 rfl rfl)
theorem dL_law_618 : decode cL_law 618 = .ok (.invokevirtual 70, 3) := dc_182 (sg_at zd_dL_law_610 7 rfl rfl) rfl
theorem zd_dL_law_621 : sg (cL_law.data.toList.drop 621) [[87], [167, 3, 164], [43], [42], [21, 4], [4], [96], [46]] = true := by decide +kernel
theorem dL_law_621 : decode cL_law 621 = .ok (.pop, 1) := dc_87 (sg_at zd_dL_law_621 0 rfl rfl)
theorem dL_law_622 : decode cL_law 622 = .ok (.goto 932, 3) := dc_167 (sg_at zd_dL_law_621 1 rfl rfl) rfl
theorem dL_law_625 : decode cL_law 625 = .ok (.aload_n 1, 1) := dc_43 (sg_at zd_dL_law_621 2 rfl rfl)
theorem dL_law_626 : decode cL_law 626 = .ok (.aload_n 0, 1) := dc_42 (sg_at zd_dL_law_621 3 rfl rfl)
theorem dL_law_627 : decode cL_law 627 = .ok (.iload 4, 2) := dc_21 (sg_at zd_dL_law_621 4 rfl rfl)
theorem dL_law_629 : decode cL_law 629 = .ok (.iconst 1, 1) := dc_4 (sg_at zd_dL_law_621 5 rfl rfl)
theorem dL_law_630 : decode cL_law 630 = .ok (.iadd, 1) := dc_96 (sg_at zd_dL_law_621 6 rfl rfl)
theorem dL_law_631 : decode cL_law 631 = .ok (.iaload, 1) := dc_46 (sg_at zd_dL_law_621 7 rfl rfl)
theorem zd_dL_law_632 : sg (cL_law.data.toList.drop 632) [[182, 0, 71], [87], [44], [42], [21, 4], [4], [96], [46]] = true := by decide +kernel
theorem dL_law_632 : decode cL_law 632 = .ok (.invokevirtual 71, 3) := dc_182 (sg_at zd_dL_law_632 0 rfl rfl) rfl
theorem dL_law_635 : decode cL_law 635 = .ok (.pop, 1) := dc_87 (sg_at zd_dL_law_632 1 rfl rfl)
theorem dL_law_636 : decode cL_law 636 = .ok (.aload_n 2, 1) := dc_44 (sg_at zd_dL_law_632 2 rfl rfl)
theorem dL_law_637 : decode cL_law 637 = .ok (.aload_n 0, 1) := dc_42 (sg_at zd_dL_law_632 3 rfl rfl)
theorem dL_law_638 : decode cL_law 638 = .ok (.iload 4, 2) := dc_21 (sg_at zd_dL_law_632 4 rfl rfl)
theorem dL_law_640 : decode cL_law 640 = .ok (.iconst 1, 1) := dc_4 (sg_at zd_dL_law_632 5 rfl rfl)
theorem dL_law_641 : decode cL_law 641 = .ok (.iadd, 1) := dc_96 (sg_at zd_dL_law_632 6 rfl rfl)
theorem dL_law_642 : decode cL_law 642 = .ok (.iaload, 1) := dc_46 (sg_at zd_dL_law_632 7 rfl rfl)
theorem zd_dL_law_643 : sg (cL_law.data.toList.drop 643) [[182, 0, 75], [87], [167, 3, 139], [43], [42], [21, 4], [4], [96]] = true := by decide +kernel
theorem dL_law_643 : decode cL_law 643 = .ok (.invokevirtual 75, 3) := dc_182 (sg_at zd_dL_law_643 0 rfl rfl) rfl
theorem dL_law_646 : decode cL_law 646 = .ok (.pop, 1) := dc_87 (sg_at zd_dL_law_643 1 rfl rfl)
theorem dL_law_647 : decode cL_law 647 = .ok (.goto 907, 3) := dc_167 (sg_at zd_dL_law_643 2 rfl rfl) rfl
theorem dL_law_650 : decode cL_law 650 = .ok (.aload_n 1, 1) := dc_43 (sg_at zd_dL_law_643 3 rfl rfl)
theorem dL_law_651 : decode cL_law 651 = .ok (.aload_n 0, 1) := dc_42 (sg_at zd_dL_law_643 4 rfl rfl)
theorem dL_law_652 : decode cL_law 652 = .ok (.iload 4, 2) := dc_21 (sg_at zd_dL_law_643 5 rfl rfl)
theorem dL_law_654 : decode cL_law 654 = .ok (.iconst 1, 1) := dc_4 (sg_at zd_dL_law_643 6 rfl rfl)
theorem dL_law_655 : decode cL_law 655 = .ok (.iadd, 1) := dc_96 (sg_at zd_dL_law_643 7 rfl rfl)
theorem zd_dL_law_656 : sg (cL_law.data.toList.drop 656) [[46], [182, 0, 76], [87], [44], [42], [21, 4], [4], [96]] = true := by decide +kernel
theorem dL_law_656 : decode cL_law 656 = .ok (.iaload, 1) := dc_46 (sg_at zd_dL_law_656 0 rfl rfl)
theorem dL_law_657 : decode cL_law 657 = .ok (.invokevirtual 76, 3) := dc_182 (sg_at zd_dL_law_656 1 rfl rfl) rfl
theorem dL_law_660 : decode cL_law 660 = .ok (.pop, 1) := dc_87 (sg_at zd_dL_law_656 2 rfl rfl)
theorem dL_law_661 : decode cL_law 661 = .ok (.aload_n 2, 1) := dc_44 (sg_at zd_dL_law_656 3 rfl rfl)
theorem dL_law_662 : decode cL_law 662 = .ok (.aload_n 0, 1) := dc_42 (sg_at zd_dL_law_656 4 rfl rfl)
theorem dL_law_663 : decode cL_law 663 = .ok (.iload 4, 2) := dc_21 (sg_at zd_dL_law_656 5 rfl rfl)
theorem dL_law_665 : decode cL_law 665 = .ok (.iconst 1, 1) := dc_4 (sg_at zd_dL_law_656 6 rfl rfl)
theorem dL_law_666 : decode cL_law 666 = .ok (.iadd, 1) := dc_96 (sg_at zd_dL_law_656 7 rfl rfl)
theorem zd_dL_law_667 : sg (cL_law.data.toList.drop 667) [[46], [182, 0, 79], [87], [167, 3, 114], [43], [42], [21, 4], [4]] = true := by decide +kernel
theorem dL_law_667 : decode cL_law 667 = .ok (.iaload, 1) := dc_46 (sg_at zd_dL_law_667 0 rfl rfl)
theorem dL_law_668 : decode cL_law 668 = .ok (.invokevirtual 79, 3) := dc_182 (sg_at zd_dL_law_667 1 rfl rfl) rfl
theorem dL_law_671 : decode cL_law 671 = .ok (.pop, 1) := dc_87 (sg_at zd_dL_law_667 2 rfl rfl)
theorem dL_law_672 : decode cL_law 672 = .ok (.goto 882, 3) := dc_167 (sg_at zd_dL_law_667 3 rfl rfl) rfl
theorem dL_law_675 : decode cL_law 675 = .ok (.aload_n 1, 1) := dc_43 (sg_at zd_dL_law_667 4 rfl rfl)
theorem dL_law_676 : decode cL_law 676 = .ok (.aload_n 0, 1) := dc_42 (sg_at zd_dL_law_667 5 rfl rfl)
theorem dL_law_677 : decode cL_law 677 = .ok (.iload 4, 2) := dc_21 (sg_at zd_dL_law_667 6 rfl rfl)
theorem dL_law_679 : decode cL_law 679 = .ok (.iconst 1, 1) := dc_4 (sg_at zd_dL_law_667 7 rfl rfl)
theorem zd_dL_law_680 : sg (cL_law.data.toList.drop 680) [[96], [46], [42], [21, 4], [5], [96], [46], [182, 0, 80]] = true := by decide +kernel
theorem dL_law_680 : decode cL_law 680 = .ok (.iadd, 1) := dc_96 (sg_at zd_dL_law_680 0 rfl rfl)
theorem dL_law_681 : decode cL_law 681 = .ok (.iaload, 1) := dc_46 (sg_at zd_dL_law_680 1 rfl rfl)
theorem dL_law_682 : decode cL_law 682 = .ok (.aload_n 0, 1) := dc_42 (sg_at zd_dL_law_680 2 rfl rfl)
theorem dL_law_683 : decode cL_law 683 = .ok (.iload 4, 2) := dc_21 (sg_at zd_dL_law_680 3 rfl rfl)
theorem dL_law_685 : decode cL_law 685 = .ok (.iconst 2, 1) := dc_5 (sg_at zd_dL_law_680 4 rfl rfl)
theorem dL_law_686 : decode cL_law 686 = .ok (.iadd, 1) := dc_96 (sg_at zd_dL_law_680 5 rfl rfl)
theorem dL_law_687 : decode cL_law 687 = .ok (.iaload, 1) := dc_46 (sg_at zd_dL_law_680 6 rfl rfl)
theorem dL_law_688 : decode cL_law 688 = .ok (.invokevirtual 80, 3) := dc_182 (sg_at zd_dL_law_680 7 rfl rfl) rfl
theorem zd_dL_law_691 : sg (cL_law.data.toList.drop 691) [[87], [44], [42], [21, 4], [4], [96], [46], [42]] = true := by decide +kernel
theorem dL_law_691 : decode cL_law 691 = .ok (.pop, 1) := dc_87 (sg_at zd_dL_law_691 0 rfl rfl)
theorem dL_law_692 : decode cL_law 692 = .ok (.aload_n 2, 1) := dc_44 (sg_at zd_dL_law_691 1 rfl rfl)
theorem dL_law_693 : decode cL_law 693 = .ok (.aload_n 0, 1) := dc_42 (sg_at zd_dL_law_691 2 rfl rfl)
theorem dL_law_694 : decode cL_law 694 = .ok (.iload 4, 2) := dc_21 (sg_at zd_dL_law_691 3 rfl rfl)
theorem dL_law_696 : decode cL_law 696 = .ok (.iconst 1, 1) := dc_4 (sg_at zd_dL_law_691 4 rfl rfl)
theorem dL_law_697 : decode cL_law 697 = .ok (.iadd, 1) := dc_96 (sg_at zd_dL_law_691 5 rfl rfl)
theorem dL_law_698 : decode cL_law 698 = .ok (.iaload, 1) := dc_46 (sg_at zd_dL_law_691 6 rfl rfl)
theorem dL_law_699 : decode cL_law 699 = .ok (.aload_n 0, 1) := dc_42 (sg_at zd_dL_law_691 7 rfl rfl)
theorem zd_dL_law_700 : sg (cL_law.data.toList.drop 700) [[21, 4], [5], [96], [46], [182, 0, 83], [87], [167, 3, 77], [43]] = true := by decide +kernel
theorem dL_law_700 : decode cL_law 700 = .ok (.iload 4, 2) := dc_21 (sg_at zd_dL_law_700 0 rfl rfl)
theorem dL_law_702 : decode cL_law 702 = .ok (.iconst 2, 1) := dc_5 (sg_at zd_dL_law_700 1 rfl rfl)
theorem dL_law_703 : decode cL_law 703 = .ok (.iadd, 1) := dc_96 (sg_at zd_dL_law_700 2 rfl rfl)
theorem dL_law_704 : decode cL_law 704 = .ok (.iaload, 1) := dc_46 (sg_at zd_dL_law_700 3 rfl rfl)
theorem dL_law_705 : decode cL_law 705 = .ok (.invokevirtual 83, 3) := dc_182 (sg_at zd_dL_law_700 4 rfl rfl) rfl
theorem dL_law_708 : decode cL_law 708 = .ok (.pop, 1) := dc_87 (sg_at zd_dL_law_700 5 rfl rfl)
theorem dL_law_709 : decode cL_law 709 = .ok (.goto 845, 3) := dc_167 (sg_at zd_dL_law_700 6 rfl rfl) rfl
theorem dL_law_712 : decode cL_law 712 = .ok (.aload_n 1, 1) := dc_43 (sg_at zd_dL_law_700 7 rfl rfl)
theorem zd_dL_law_713 : sg (cL_law.data.toList.drop 713) [[42], [21, 4], [4], [96], [46], [42], [21, 4], [5]] = true := by decide +kernel
theorem dL_law_713 : decode cL_law 713 = .ok (.aload_n 0, 1) := dc_42 (sg_at zd_dL_law_713 0 rfl rfl)
theorem dL_law_714 : decode cL_law 714 = .ok (.iload 4, 2) := dc_21 (sg_at zd_dL_law_713 1 rfl rfl)
theorem dL_law_716 : decode cL_law 716 = .ok (.iconst 1, 1) := dc_4 (sg_at zd_dL_law_713 2 rfl rfl)
theorem dL_law_717 : decode cL_law 717 = .ok (.iadd, 1) := dc_96 (sg_at zd_dL_law_713 3 rfl rfl)
theorem dL_law_718 : decode cL_law 718 = .ok (.iaload, 1) := dc_46 (sg_at zd_dL_law_713 4 rfl rfl)
theorem dL_law_719 : decode cL_law 719 = .ok (.aload_n 0, 1) := dc_42 (sg_at zd_dL_law_713 5 rfl rfl)
theorem dL_law_720 : decode cL_law 720 = .ok (.iload 4, 2) := dc_21 (sg_at zd_dL_law_713 6 rfl rfl)
theorem dL_law_722 : decode cL_law 722 = .ok (.iconst 2, 1) := dc_5 (sg_at zd_dL_law_713 7 rfl rfl)
theorem zd_dL_law_723 : sg (cL_law.data.toList.drop 723) [[96], [46], [182, 0, 84], [87], [44], [42], [21, 4], [4]] = true := by decide +kernel
theorem dL_law_723 : decode cL_law 723 = .ok (.iadd, 1) := dc_96 (sg_at zd_dL_law_723 0 rfl rfl)
theorem dL_law_724 : decode cL_law 724 = .ok (.iaload, 1) := dc_46 (sg_at zd_dL_law_723 1 rfl rfl)
theorem dL_law_725 : decode cL_law 725 = .ok (.invokevirtual 84, 3) := dc_182 (sg_at zd_dL_law_723 2 rfl rfl) rfl
theorem dL_law_728 : decode cL_law 728 = .ok (.pop, 1) := dc_87 (sg_at zd_dL_law_723 3 rfl rfl)
theorem dL_law_729 : decode cL_law 729 = .ok (.aload_n 2, 1) := dc_44 (sg_at zd_dL_law_723 4 rfl rfl)
theorem dL_law_730 : decode cL_law 730 = .ok (.aload_n 0, 1) := dc_42 (sg_at zd_dL_law_723 5 rfl rfl)
theorem dL_law_731 : decode cL_law 731 = .ok (.iload 4, 2) := dc_21 (sg_at zd_dL_law_723 6 rfl rfl)
theorem dL_law_733 : decode cL_law 733 = .ok (.iconst 1, 1) := dc_4 (sg_at zd_dL_law_723 7 rfl rfl)
theorem zd_dL_law_734 : sg (cL_law.data.toList.drop 734) [[96], [46], [42], [21, 4], [5], [96], [46], [182, 0, 87]] = true := by decide +kernel
theorem dL_law_734 : decode cL_law 734 = .ok (.iadd, 1) := dc_96 (sg_at zd_dL_law_734 0 rfl rfl)
theorem dL_law_735 : decode cL_law 735 = .ok (.iaload, 1) := dc_46 (sg_at zd_dL_law_734 1 rfl rfl)
theorem dL_law_736 : decode cL_law 736 = .ok (.aload_n 0, 1) := dc_42 (sg_at zd_dL_law_734 2 rfl rfl)
theorem dL_law_737 : decode cL_law 737 = .ok (.iload 4, 2) := dc_21 (sg_at zd_dL_law_734 3 rfl rfl)
theorem dL_law_739 : decode cL_law 739 = .ok (.iconst 2, 1) := dc_5 (sg_at zd_dL_law_734 4 rfl rfl)
theorem dL_law_740 : decode cL_law 740 = .ok (.iadd, 1) := dc_96 (sg_at zd_dL_law_734 5 rfl rfl)
theorem dL_law_741 : decode cL_law 741 = .ok (.iaload, 1) := dc_46 (sg_at zd_dL_law_734 6 rfl rfl)
theorem dL_law_742 : decode cL_law 742 = .ok (.invokevirtual 87, 3) := dc_182 (sg_at zd_dL_law_734 7 rfl rfl) rfl
theorem zd_dL_law_745 : sg (cL_law.data.toList.drop 745) [[87], [167, 3, 40], [43], [42], [21, 4], [4], [96], [46]] = true := by decide +kernel
theorem dL_law_745 : decode cL_law 745 = .ok (.pop, 1) := dc_87 (sg_at zd_dL_law_745 0 rfl rfl)
theorem dL_law_746 : decode cL_law 746 = .ok (.goto 808, 3) := dc_167 (sg_at zd_dL_law_745 1 rfl rfl) rfl
theorem dL_law_749 : decode cL_law 749 = .ok (.aload_n 1, 1) := dc_43 (sg_at zd_dL_law_745 2 rfl rfl)
theorem dL_law_750 : decode cL_law 750 = .ok (.aload_n 0, 1) := dc_42 (sg_at zd_dL_law_745 3 rfl rfl)
theorem dL_law_751 : decode cL_law 751 = .ok (.iload 4, 2) := dc_21 (sg_at zd_dL_law_745 4 rfl rfl)
theorem dL_law_753 : decode cL_law 753 = .ok (.iconst 1, 1) := dc_4 (sg_at zd_dL_law_745 5 rfl rfl)
theorem dL_law_754 : decode cL_law 754 = .ok (.iadd, 1) := dc_96 (sg_at zd_dL_law_745 6 rfl rfl)
theorem dL_law_755 : decode cL_law 755 = .ok (.iaload, 1) := dc_46 (sg_at zd_dL_law_745 7 rfl rfl)
theorem zd_dL_law_756 : sg (cL_law.data.toList.drop 756) [[42], [21, 4], [5], [96], [46], [182, 0, 88], [87], [44]] = true := by decide +kernel
theorem dL_law_756 : decode cL_law 756 = .ok (.aload_n 0, 1) := dc_42 (sg_at zd_dL_law_756 0 rfl rfl)
theorem dL_law_757 : decode cL_law 757 = .ok (.iload 4, 2) := dc_21 (sg_at zd_dL_law_756 1 rfl rfl)
theorem dL_law_759 : decode cL_law 759 = .ok (.iconst 2, 1) := dc_5 (sg_at zd_dL_law_756 2 rfl rfl)
theorem dL_law_760 : decode cL_law 760 = .ok (.iadd, 1) := dc_96 (sg_at zd_dL_law_756 3 rfl rfl)
theorem dL_law_761 : decode cL_law 761 = .ok (.iaload, 1) := dc_46 (sg_at zd_dL_law_756 4 rfl rfl)
theorem dL_law_762 : decode cL_law 762 = .ok (.invokevirtual 88, 3) := dc_182 (sg_at zd_dL_law_756 5 rfl rfl) rfl
theorem dL_law_765 : decode cL_law 765 = .ok (.pop, 1) := dc_87 (sg_at zd_dL_law_756 6 rfl rfl)
theorem dL_law_766 : decode cL_law 766 = .ok (.aload_n 2, 1) := dc_44 (sg_at zd_dL_law_756 7 rfl rfl)
theorem zd_dL_law_767 : sg (cL_law.data.toList.drop 767) [[42], [21, 4], [4], [96], [46], [42], [21, 4], [5]] = true := by decide +kernel
theorem dL_law_767 : decode cL_law 767 = .ok (.aload_n 0, 1) := dc_42 (sg_at zd_dL_law_767 0 rfl rfl)
theorem dL_law_768 : decode cL_law 768 = .ok (.iload 4, 2) := dc_21 (sg_at zd_dL_law_767 1 rfl rfl)
theorem dL_law_770 : decode cL_law 770 = .ok (.iconst 1, 1) := dc_4 (sg_at zd_dL_law_767 2 rfl rfl)
theorem dL_law_771 : decode cL_law 771 = .ok (.iadd, 1) := dc_96 (sg_at zd_dL_law_767 3 rfl rfl)
theorem dL_law_772 : decode cL_law 772 = .ok (.iaload, 1) := dc_46 (sg_at zd_dL_law_767 4 rfl rfl)
theorem dL_law_773 : decode cL_law 773 = .ok (.aload_n 0, 1) := dc_42 (sg_at zd_dL_law_767 5 rfl rfl)
theorem dL_law_774 : decode cL_law 774 = .ok (.iload 4, 2) := dc_21 (sg_at zd_dL_law_767 6 rfl rfl)
theorem dL_law_776 : decode cL_law 776 = .ok (.iconst 2, 1) := dc_5 (sg_at zd_dL_law_767 7 rfl rfl)
theorem zd_dL_law_777 : sg (cL_law.data.toList.drop 777) [[96], [46], [182, 0, 91], [87], [167, 3, 3], [43], [42], [21, 4]] = true := by decide +kernel
theorem dL_law_777 : decode cL_law 777 = .ok (.iadd, 1) := dc_96 (sg_at zd_dL_law_777 0 rfl rfl)
theorem dL_law_778 : decode cL_law 778 = .ok (.iaload, 1) := dc_46 (sg_at zd_dL_law_777 1 rfl rfl)
theorem dL_law_779 : decode cL_law 779 = .ok (.invokevirtual 91, 3) := dc_182 (sg_at zd_dL_law_777 2 rfl rfl) rfl
theorem dL_law_782 : decode cL_law 782 = .ok (.pop, 1) := dc_87 (sg_at zd_dL_law_777 3 rfl rfl)
theorem dL_law_783 : decode cL_law 783 = .ok (.goto 771, 3) := dc_167 (sg_at zd_dL_law_777 4 rfl rfl) rfl
theorem dL_law_786 : decode cL_law 786 = .ok (.aload_n 1, 1) := dc_43 (sg_at zd_dL_law_777 5 rfl rfl)
theorem dL_law_787 : decode cL_law 787 = .ok (.aload_n 0, 1) := dc_42 (sg_at zd_dL_law_777 6 rfl rfl)
theorem dL_law_788 : decode cL_law 788 = .ok (.iload 4, 2) := dc_21 (sg_at zd_dL_law_777 7 rfl rfl)
theorem zd_dL_law_790 : sg (cL_law.data.toList.drop 790) [[4], [96], [46], [182, 0, 92], [87], [44], [42], [21, 4]] = true := by decide +kernel
theorem dL_law_790 : decode cL_law 790 = .ok (.iconst 1, 1) := dc_4 (sg_at zd_dL_law_790 0 rfl rfl)
theorem dL_law_791 : decode cL_law 791 = .ok (.iadd, 1) := dc_96 (sg_at zd_dL_law_790 1 rfl rfl)
theorem dL_law_792 : decode cL_law 792 = .ok (.iaload, 1) := dc_46 (sg_at zd_dL_law_790 2 rfl rfl)
theorem dL_law_793 : decode cL_law 793 = .ok (.invokevirtual 92, 3) := dc_182 (sg_at zd_dL_law_790 3 rfl rfl) rfl
theorem dL_law_796 : decode cL_law 796 = .ok (.pop, 1) := dc_87 (sg_at zd_dL_law_790 4 rfl rfl)
theorem dL_law_797 : decode cL_law 797 = .ok (.aload_n 2, 1) := dc_44 (sg_at zd_dL_law_790 5 rfl rfl)
theorem dL_law_798 : decode cL_law 798 = .ok (.aload_n 0, 1) := dc_42 (sg_at zd_dL_law_790 6 rfl rfl)
theorem dL_law_799 : decode cL_law 799 = .ok (.iload 4, 2) := dc_21 (sg_at zd_dL_law_790 7 rfl rfl)
theorem zd_dL_law_801 : sg (cL_law.data.toList.drop 801) [[4], [96], [46], [182, 0, 95], [87], [167, 2, 234], [43], [42]] = true := by decide +kernel
theorem dL_law_801 : decode cL_law 801 = .ok (.iconst 1, 1) := dc_4 (sg_at zd_dL_law_801 0 rfl rfl)
theorem dL_law_802 : decode cL_law 802 = .ok (.iadd, 1) := dc_96 (sg_at zd_dL_law_801 1 rfl rfl)
theorem dL_law_803 : decode cL_law 803 = .ok (.iaload, 1) := dc_46 (sg_at zd_dL_law_801 2 rfl rfl)
theorem dL_law_804 : decode cL_law 804 = .ok (.invokevirtual 95, 3) := dc_182 (sg_at zd_dL_law_801 3 rfl rfl) rfl
theorem dL_law_807 : decode cL_law 807 = .ok (.pop, 1) := dc_87 (sg_at zd_dL_law_801 4 rfl rfl)
theorem dL_law_808 : decode cL_law 808 = .ok (.goto 746, 3) := dc_167 (sg_at zd_dL_law_801 5 rfl rfl) rfl
theorem dL_law_811 : decode cL_law 811 = .ok (.aload_n 1, 1) := dc_43 (sg_at zd_dL_law_801 6 rfl rfl)
theorem dL_law_812 : decode cL_law 812 = .ok (.aload_n 0, 1) := dc_42 (sg_at zd_dL_law_801 7 rfl rfl)
theorem zd_dL_law_813 : sg (cL_law.data.toList.drop 813) [[21, 4], [4], [96], [46], [42], [21, 4], [5], [96]] = true := by decide +kernel
theorem dL_law_813 : decode cL_law 813 = .ok (.iload 4, 2) := dc_21 (sg_at zd_dL_law_813 0 rfl rfl)
theorem dL_law_815 : decode cL_law 815 = .ok (.iconst 1, 1) := dc_4 (sg_at zd_dL_law_813 1 rfl rfl)
theorem dL_law_816 : decode cL_law 816 = .ok (.iadd, 1) := dc_96 (sg_at zd_dL_law_813 2 rfl rfl)
theorem dL_law_817 : decode cL_law 817 = .ok (.iaload, 1) := dc_46 (sg_at zd_dL_law_813 3 rfl rfl)
theorem dL_law_818 : decode cL_law 818 = .ok (.aload_n 0, 1) := dc_42 (sg_at zd_dL_law_813 4 rfl rfl)
theorem dL_law_819 : decode cL_law 819 = .ok (.iload 4, 2) := dc_21 (sg_at zd_dL_law_813 5 rfl rfl)
theorem dL_law_821 : decode cL_law 821 = .ok (.iconst 2, 1) := dc_5 (sg_at zd_dL_law_813 6 rfl rfl)
theorem dL_law_822 : decode cL_law 822 = .ok (.iadd, 1) := dc_96 (sg_at zd_dL_law_813 7 rfl rfl)
theorem zd_dL_law_823 : sg (cL_law.data.toList.drop 823) [[46], [182, 0, 96], [87], [44], [42], [21, 4], [4], [96]] = true := by decide +kernel
theorem dL_law_823 : decode cL_law 823 = .ok (.iaload, 1) := dc_46 (sg_at zd_dL_law_823 0 rfl rfl)
theorem dL_law_824 : decode cL_law 824 = .ok (.invokevirtual 96, 3) := dc_182 (sg_at zd_dL_law_823 1 rfl rfl) rfl
theorem dL_law_827 : decode cL_law 827 = .ok (.pop, 1) := dc_87 (sg_at zd_dL_law_823 2 rfl rfl)
theorem dL_law_828 : decode cL_law 828 = .ok (.aload_n 2, 1) := dc_44 (sg_at zd_dL_law_823 3 rfl rfl)
theorem dL_law_829 : decode cL_law 829 = .ok (.aload_n 0, 1) := dc_42 (sg_at zd_dL_law_823 4 rfl rfl)
theorem dL_law_830 : decode cL_law 830 = .ok (.iload 4, 2) := dc_21 (sg_at zd_dL_law_823 5 rfl rfl)
theorem dL_law_832 : decode cL_law 832 = .ok (.iconst 1, 1) := dc_4 (sg_at zd_dL_law_823 6 rfl rfl)
theorem dL_law_833 : decode cL_law 833 = .ok (.iadd, 1) := dc_96 (sg_at zd_dL_law_823 7 rfl rfl)
theorem zd_dL_law_834 : sg (cL_law.data.toList.drop 834) [[46], [42], [21, 4], [5], [96], [46], [182, 0, 99], [87]] = true := by decide +kernel
theorem dL_law_834 : decode cL_law 834 = .ok (.iaload, 1) := dc_46 (sg_at zd_dL_law_834 0 rfl rfl)
theorem dL_law_835 : decode cL_law 835 = .ok (.aload_n 0, 1) := dc_42 (sg_at zd_dL_law_834 1 rfl rfl)
theorem dL_law_836 : decode cL_law 836 = .ok (.iload 4, 2) := dc_21 (sg_at zd_dL_law_834 2 rfl rfl)
theorem dL_law_838 : decode cL_law 838 = .ok (.iconst 2, 1) := dc_5 (sg_at zd_dL_law_834 3 rfl rfl)
theorem dL_law_839 : decode cL_law 839 = .ok (.iadd, 1) := dc_96 (sg_at zd_dL_law_834 4 rfl rfl)
theorem dL_law_840 : decode cL_law 840 = .ok (.iaload, 1) := dc_46 (sg_at zd_dL_law_834 5 rfl rfl)
theorem dL_law_841 : decode cL_law 841 = .ok (.invokevirtual 99, 3) := dc_182 (sg_at zd_dL_law_834 6 rfl rfl) rfl
theorem dL_law_844 : decode cL_law 844 = .ok (.pop, 1) := dc_87 (sg_at zd_dL_law_834 7 rfl rfl)
theorem zd_dL_law_845 : sg (cL_law.data.toList.drop 845) [[167, 2, 197], [43], [42], [21, 4], [4], [96], [46], [42]] = true := by decide +kernel
theorem dL_law_845 : decode cL_law 845 = .ok (.goto 709, 3) := dc_167 (sg_at zd_dL_law_845 0 rfl rfl) rfl
theorem dL_law_848 : decode cL_law 848 = .ok (.aload_n 1, 1) := dc_43 (sg_at zd_dL_law_845 1 rfl rfl)
theorem dL_law_849 : decode cL_law 849 = .ok (.aload_n 0, 1) := dc_42 (sg_at zd_dL_law_845 2 rfl rfl)
theorem dL_law_850 : decode cL_law 850 = .ok (.iload 4, 2) := dc_21 (sg_at zd_dL_law_845 3 rfl rfl)
theorem dL_law_852 : decode cL_law 852 = .ok (.iconst 1, 1) := dc_4 (sg_at zd_dL_law_845 4 rfl rfl)
theorem dL_law_853 : decode cL_law 853 = .ok (.iadd, 1) := dc_96 (sg_at zd_dL_law_845 5 rfl rfl)
theorem dL_law_854 : decode cL_law 854 = .ok (.iaload, 1) := dc_46 (sg_at zd_dL_law_845 6 rfl rfl)
theorem dL_law_855 : decode cL_law 855 = .ok (.aload_n 0, 1) := dc_42 (sg_at zd_dL_law_845 7 rfl rfl)
theorem zd_dL_law_856 : sg (cL_law.data.toList.drop 856) [[21, 4], [5], [96], [46], [42], [21, 4], [6], [96]] = true := by decide +kernel
theorem dL_law_856 : decode cL_law 856 = .ok (.iload 4, 2) := dc_21 (sg_at zd_dL_law_856 0 rfl rfl)
theorem dL_law_858 : decode cL_law 858 = .ok (.iconst 2, 1) := dc_5 (sg_at zd_dL_law_856 1 rfl rfl)
theorem dL_law_859 : decode cL_law 859 = .ok (.iadd, 1) := dc_96 (sg_at zd_dL_law_856 2 rfl rfl)
theorem dL_law_860 : decode cL_law 860 = .ok (.iaload, 1) := dc_46 (sg_at zd_dL_law_856 3 rfl rfl)
theorem dL_law_861 : decode cL_law 861 = .ok (.aload_n 0, 1) := dc_42 (sg_at zd_dL_law_856 4 rfl rfl)
theorem dL_law_862 : decode cL_law 862 = .ok (.iload 4, 2) := dc_21 (sg_at zd_dL_law_856 5 rfl rfl)
theorem dL_law_864 : decode cL_law 864 = .ok (.iconst 3, 1) := dc_6 (sg_at zd_dL_law_856 6 rfl rfl)
theorem dL_law_865 : decode cL_law 865 = .ok (.iadd, 1) := dc_96 (sg_at zd_dL_law_856 7 rfl rfl)
theorem zd_dL_law_866 : sg (cL_law.data.toList.drop 866) [[46], [182, 0, 100], [87], [44], [42], [21, 4], [4], [96]] = true := by decide +kernel
theorem dL_law_866 : decode cL_law 866 = .ok (.iaload, 1) := dc_46 (sg_at zd_dL_law_866 0 rfl rfl)
theorem dL_law_867 : decode cL_law 867 = .ok (.invokevirtual 100, 3) := dc_182 (sg_at zd_dL_law_866 1 rfl rfl) rfl
theorem dL_law_870 : decode cL_law 870 = .ok (.pop, 1) := dc_87 (sg_at zd_dL_law_866 2 rfl rfl)
theorem dL_law_871 : decode cL_law 871 = .ok (.aload_n 2, 1) := dc_44 (sg_at zd_dL_law_866 3 rfl rfl)
theorem dL_law_872 : decode cL_law 872 = .ok (.aload_n 0, 1) := dc_42 (sg_at zd_dL_law_866 4 rfl rfl)
theorem dL_law_873 : decode cL_law 873 = .ok (.iload 4, 2) := dc_21 (sg_at zd_dL_law_866 5 rfl rfl)
theorem dL_law_875 : decode cL_law 875 = .ok (.iconst 1, 1) := dc_4 (sg_at zd_dL_law_866 6 rfl rfl)
theorem dL_law_876 : decode cL_law 876 = .ok (.iadd, 1) := dc_96 (sg_at zd_dL_law_866 7 rfl rfl)
theorem zd_dL_law_877 : sg (cL_law.data.toList.drop 877) [[46], [42], [21, 4], [5], [96], [46], [42], [21, 4]] = true := by decide +kernel
theorem dL_law_877 : decode cL_law 877 = .ok (.iaload, 1) := dc_46 (sg_at zd_dL_law_877 0 rfl rfl)
theorem dL_law_878 : decode cL_law 878 = .ok (.aload_n 0, 1) := dc_42 (sg_at zd_dL_law_877 1 rfl rfl)
theorem dL_law_879 : decode cL_law 879 = .ok (.iload 4, 2) := dc_21 (sg_at zd_dL_law_877 2 rfl rfl)
theorem dL_law_881 : decode cL_law 881 = .ok (.iconst 2, 1) := dc_5 (sg_at zd_dL_law_877 3 rfl rfl)
theorem dL_law_882 : decode cL_law 882 = .ok (.iadd, 1) := dc_96 (sg_at zd_dL_law_877 4 rfl rfl)
theorem dL_law_883 : decode cL_law 883 = .ok (.iaload, 1) := dc_46 (sg_at zd_dL_law_877 5 rfl rfl)
theorem dL_law_884 : decode cL_law 884 = .ok (.aload_n 0, 1) := dc_42 (sg_at zd_dL_law_877 6 rfl rfl)
theorem dL_law_885 : decode cL_law 885 = .ok (.iload 4, 2) := dc_21 (sg_at zd_dL_law_877 7 rfl rfl)
theorem zd_dL_law_887 : sg (cL_law.data.toList.drop 887) [[6], [96], [46], [182, 0, 103], [87], [167, 2, 148], [43], [42]] = true := by decide +kernel
theorem dL_law_887 : decode cL_law 887 = .ok (.iconst 3, 1) := dc_6 (sg_at zd_dL_law_887 0 rfl rfl)
theorem dL_law_888 : decode cL_law 888 = .ok (.iadd, 1) := dc_96 (sg_at zd_dL_law_887 1 rfl rfl)
theorem dL_law_889 : decode cL_law 889 = .ok (.iaload, 1) := dc_46 (sg_at zd_dL_law_887 2 rfl rfl)
theorem dL_law_890 : decode cL_law 890 = .ok (.invokevirtual 103, 3) := dc_182 (sg_at zd_dL_law_887 3 rfl rfl) rfl
theorem dL_law_893 : decode cL_law 893 = .ok (.pop, 1) := dc_87 (sg_at zd_dL_law_887 4 rfl rfl)
theorem dL_law_894 : decode cL_law 894 = .ok (.goto 660, 3) := dc_167 (sg_at zd_dL_law_887 5 rfl rfl) rfl
theorem dL_law_897 : decode cL_law 897 = .ok (.aload_n 1, 1) := dc_43 (sg_at zd_dL_law_887 6 rfl rfl)
theorem dL_law_898 : decode cL_law 898 = .ok (.aload_n 0, 1) := dc_42 (sg_at zd_dL_law_887 7 rfl rfl)
theorem zd_dL_law_899 : sg (cL_law.data.toList.drop 899) [[21, 4], [4], [96], [46], [42], [21, 4], [5], [96]] = true := by decide +kernel
theorem dL_law_899 : decode cL_law 899 = .ok (.iload 4, 2) := dc_21 (sg_at zd_dL_law_899 0 rfl rfl)
theorem dL_law_901 : decode cL_law 901 = .ok (.iconst 1, 1) := dc_4 (sg_at zd_dL_law_899 1 rfl rfl)
theorem dL_law_902 : decode cL_law 902 = .ok (.iadd, 1) := dc_96 (sg_at zd_dL_law_899 2 rfl rfl)
theorem dL_law_903 : decode cL_law 903 = .ok (.iaload, 1) := dc_46 (sg_at zd_dL_law_899 3 rfl rfl)
theorem dL_law_904 : decode cL_law 904 = .ok (.aload_n 0, 1) := dc_42 (sg_at zd_dL_law_899 4 rfl rfl)
theorem dL_law_905 : decode cL_law 905 = .ok (.iload 4, 2) := dc_21 (sg_at zd_dL_law_899 5 rfl rfl)
theorem dL_law_907 : decode cL_law 907 = .ok (.iconst 2, 1) := dc_5 (sg_at zd_dL_law_899 6 rfl rfl)
theorem dL_law_908 : decode cL_law 908 = .ok (.iadd, 1) := dc_96 (sg_at zd_dL_law_899 7 rfl rfl)
theorem zd_dL_law_909 : sg (cL_law.data.toList.drop 909) [[46], [182, 0, 104], [87], [44], [42], [21, 4], [4], [96]] = true := by decide +kernel
theorem dL_law_909 : decode cL_law 909 = .ok (.iaload, 1) := dc_46 (sg_at zd_dL_law_909 0 rfl rfl)
theorem dL_law_910 : decode cL_law 910 = .ok (.invokevirtual 104, 3) := dc_182 (sg_at zd_dL_law_909 1 rfl rfl) rfl
theorem dL_law_913 : decode cL_law 913 = .ok (.pop, 1) := dc_87 (sg_at zd_dL_law_909 2 rfl rfl)
theorem dL_law_914 : decode cL_law 914 = .ok (.aload_n 2, 1) := dc_44 (sg_at zd_dL_law_909 3 rfl rfl)
theorem dL_law_915 : decode cL_law 915 = .ok (.aload_n 0, 1) := dc_42 (sg_at zd_dL_law_909 4 rfl rfl)
theorem dL_law_916 : decode cL_law 916 = .ok (.iload 4, 2) := dc_21 (sg_at zd_dL_law_909 5 rfl rfl)
theorem dL_law_918 : decode cL_law 918 = .ok (.iconst 1, 1) := dc_4 (sg_at zd_dL_law_909 6 rfl rfl)
theorem dL_law_919 : decode cL_law 919 = .ok (.iadd, 1) := dc_96 (sg_at zd_dL_law_909 7 rfl rfl)
theorem zd_dL_law_920 : sg (cL_law.data.toList.drop 920) [[46], [42], [21, 4], [5], [96], [46], [182, 0, 107], [87]] = true := by decide +kernel
theorem dL_law_920 : decode cL_law 920 = .ok (.iaload, 1) := dc_46 (sg_at zd_dL_law_920 0 rfl rfl)
theorem dL_law_921 : decode cL_law 921 = .ok (.aload_n 0, 1) := dc_42 (sg_at zd_dL_law_920 1 rfl rfl)
theorem dL_law_922 : decode cL_law 922 = .ok (.iload 4, 2) := dc_21 (sg_at zd_dL_law_920 2 rfl rfl)
theorem dL_law_924 : decode cL_law 924 = .ok (.iconst 2, 1) := dc_5 (sg_at zd_dL_law_920 3 rfl rfl)
theorem dL_law_925 : decode cL_law 925 = .ok (.iadd, 1) := dc_96 (sg_at zd_dL_law_920 4 rfl rfl)
theorem dL_law_926 : decode cL_law 926 = .ok (.iaload, 1) := dc_46 (sg_at zd_dL_law_920 5 rfl rfl)
theorem dL_law_927 : decode cL_law 927 = .ok (.invokevirtual 107, 3) := dc_182 (sg_at zd_dL_law_920 6 rfl rfl) rfl
theorem dL_law_930 : decode cL_law 930 = .ok (.pop, 1) := dc_87 (sg_at zd_dL_law_920 7 rfl rfl)
theorem zd_dL_law_931 : sg (cL_law.data.toList.drop 931) [[167, 2, 111], [43], [42], [21, 4], [4], [96], [46], [182, 0, 108]] = true := by decide +kernel
theorem dL_law_931 : decode cL_law 931 = .ok (.goto 623, 3) := dc_167 (sg_at zd_dL_law_931 0 rfl rfl) rfl
theorem dL_law_934 : decode cL_law 934 = .ok (.aload_n 1, 1) := dc_43 (sg_at zd_dL_law_931 1 rfl rfl)
theorem dL_law_935 : decode cL_law 935 = .ok (.aload_n 0, 1) := dc_42 (sg_at zd_dL_law_931 2 rfl rfl)
theorem dL_law_936 : decode cL_law 936 = .ok (.iload 4, 2) := dc_21 (sg_at zd_dL_law_931 3 rfl rfl)
theorem dL_law_938 : decode cL_law 938 = .ok (.iconst 1, 1) := dc_4 (sg_at zd_dL_law_931 4 rfl rfl)
theorem dL_law_939 : decode cL_law 939 = .ok (.iadd, 1) := dc_96 (sg_at zd_dL_law_931 5 rfl rfl)
theorem dL_law_940 : decode cL_law 940 = .ok (.iaload, 1) := dc_46 (sg_at zd_dL_law_931 6 rfl rfl)
theorem dL_law_941 : decode cL_law 941 = .ok (.invokevirtual 108, 3) := dc_182 (sg_at zd_dL_law_931 7 rfl rfl) rfl
theorem zd_dL_law_944 : sg (cL_law.data.toList.drop 944) [[87], [44], [42], [21, 4], [4], [96], [46], [182, 0, 111]] = true := by decide +kernel
theorem dL_law_944 : decode cL_law 944 = .ok (.pop, 1) := dc_87 (sg_at zd_dL_law_944 0 rfl rfl)
theorem dL_law_945 : decode cL_law 945 = .ok (.aload_n 2, 1) := dc_44 (sg_at zd_dL_law_944 1 rfl rfl)
theorem dL_law_946 : decode cL_law 946 = .ok (.aload_n 0, 1) := dc_42 (sg_at zd_dL_law_944 2 rfl rfl)
theorem dL_law_947 : decode cL_law 947 = .ok (.iload 4, 2) := dc_21 (sg_at zd_dL_law_944 3 rfl rfl)
theorem dL_law_949 : decode cL_law 949 = .ok (.iconst 1, 1) := dc_4 (sg_at zd_dL_law_944 4 rfl rfl)
theorem dL_law_950 : decode cL_law 950 = .ok (.iadd, 1) := dc_96 (sg_at zd_dL_law_944 5 rfl rfl)
theorem dL_law_951 : decode cL_law 951 = .ok (.iaload, 1) := dc_46 (sg_at zd_dL_law_944 6 rfl rfl)
theorem dL_law_952 : decode cL_law 952 = .ok (.invokevirtual 111, 3) := dc_182 (sg_at zd_dL_law_944 7 rfl rfl) rfl
theorem zd_dL_law_955 : sg (cL_law.data.toList.drop 955) [[87], [167, 2, 86], [43], [42], [21, 4], [4], [96], [46]] = true := by decide +kernel
theorem dL_law_955 : decode cL_law 955 = .ok (.pop, 1) := dc_87 (sg_at zd_dL_law_955 0 rfl rfl)
theorem dL_law_956 : decode cL_law 956 = .ok (.goto 598, 3) := dc_167 (sg_at zd_dL_law_955 1 rfl rfl) rfl
theorem dL_law_959 : decode cL_law 959 = .ok (.aload_n 1, 1) := dc_43 (sg_at zd_dL_law_955 2 rfl rfl)
theorem dL_law_960 : decode cL_law 960 = .ok (.aload_n 0, 1) := dc_42 (sg_at zd_dL_law_955 3 rfl rfl)
theorem dL_law_961 : decode cL_law 961 = .ok (.iload 4, 2) := dc_21 (sg_at zd_dL_law_955 4 rfl rfl)
theorem dL_law_963 : decode cL_law 963 = .ok (.iconst 1, 1) := dc_4 (sg_at zd_dL_law_955 5 rfl rfl)
theorem dL_law_964 : decode cL_law 964 = .ok (.iadd, 1) := dc_96 (sg_at zd_dL_law_955 6 rfl rfl)
theorem dL_law_965 : decode cL_law 965 = .ok (.iaload, 1) := dc_46 (sg_at zd_dL_law_955 7 rfl rfl)
theorem zd_dL_law_966 : sg (cL_law.data.toList.drop 966) [[42], [21, 4], [5], [96], [46], [182, 0, 112], [87], [44]] = true := by decide +kernel
theorem dL_law_966 : decode cL_law 966 = .ok (.aload_n 0, 1) := dc_42 (sg_at zd_dL_law_966 0 rfl rfl)
theorem dL_law_967 : decode cL_law 967 = .ok (.iload 4, 2) := dc_21 (sg_at zd_dL_law_966 1 rfl rfl)
theorem dL_law_969 : decode cL_law 969 = .ok (.iconst 2, 1) := dc_5 (sg_at zd_dL_law_966 2 rfl rfl)
theorem dL_law_970 : decode cL_law 970 = .ok (.iadd, 1) := dc_96 (sg_at zd_dL_law_966 3 rfl rfl)
theorem dL_law_971 : decode cL_law 971 = .ok (.iaload, 1) := dc_46 (sg_at zd_dL_law_966 4 rfl rfl)
theorem dL_law_972 : decode cL_law 972 = .ok (.invokevirtual 112, 3) := dc_182 (sg_at zd_dL_law_966 5 rfl rfl) rfl
theorem dL_law_975 : decode cL_law 975 = .ok (.pop, 1) := dc_87 (sg_at zd_dL_law_966 6 rfl rfl)
theorem dL_law_976 : decode cL_law 976 = .ok (.aload_n 2, 1) := dc_44 (sg_at zd_dL_law_966 7 rfl rfl)
theorem zd_dL_law_977 : sg (cL_law.data.toList.drop 977) [[42], [21, 4], [4], [96], [46], [42], [21, 4], [5]] = true := by decide +kernel
theorem dL_law_977 : decode cL_law 977 = .ok (.aload_n 0, 1) := dc_42 (sg_at zd_dL_law_977 0 rfl rfl)
theorem dL_law_978 : decode cL_law 978 = .ok (.iload 4, 2) := dc_21 (sg_at zd_dL_law_977 1 rfl rfl)
theorem dL_law_980 : decode cL_law 980 = .ok (.iconst 1, 1) := dc_4 (sg_at zd_dL_law_977 2 rfl rfl)
theorem dL_law_981 : decode cL_law 981 = .ok (.iadd, 1) := dc_96 (sg_at zd_dL_law_977 3 rfl rfl)
theorem dL_law_982 : decode cL_law 982 = .ok (.iaload, 1) := dc_46 (sg_at zd_dL_law_977 4 rfl rfl)
theorem dL_law_983 : decode cL_law 983 = .ok (.aload_n 0, 1) := dc_42 (sg_at zd_dL_law_977 5 rfl rfl)
theorem dL_law_984 : decode cL_law 984 = .ok (.iload 4, 2) := dc_21 (sg_at zd_dL_law_977 6 rfl rfl)
theorem dL_law_986 : decode cL_law 986 = .ok (.iconst 2, 1) := dc_5 (sg_at zd_dL_law_977 7 rfl rfl)
theorem zd_dL_law_987 : sg (cL_law.data.toList.drop 987) [[96], [46], [182, 0, 115], [87], [167, 2, 49], [43], [42], [21, 4]] = true := by decide +kernel
theorem dL_law_987 : decode cL_law 987 = .ok (.iadd, 1) := dc_96 (sg_at zd_dL_law_987 0 rfl rfl)
theorem dL_law_988 : decode cL_law 988 = .ok (.iaload, 1) := dc_46 (sg_at zd_dL_law_987 1 rfl rfl)
theorem dL_law_989 : decode cL_law 989 = .ok (.invokevirtual 115, 3) := dc_182 (sg_at zd_dL_law_987 2 rfl rfl) rfl
theorem dL_law_992 : decode cL_law 992 = .ok (.pop, 1) := dc_87 (sg_at zd_dL_law_987 3 rfl rfl)
theorem dL_law_993 : decode cL_law 993 = .ok (.goto 561, 3) := dc_167 (sg_at zd_dL_law_987 4 rfl rfl) rfl
theorem dL_law_996 : decode cL_law 996 = .ok (.aload_n 1, 1) := dc_43 (sg_at zd_dL_law_987 5 rfl rfl)
theorem dL_law_997 : decode cL_law 997 = .ok (.aload_n 0, 1) := dc_42 (sg_at zd_dL_law_987 6 rfl rfl)
theorem dL_law_998 : decode cL_law 998 = .ok (.iload 4, 2) := dc_21 (sg_at zd_dL_law_987 7 rfl rfl)
theorem zd_dL_law_1000 : sg (cL_law.data.toList.drop 1000) [[4], [96], [46], [42], [21, 4], [5], [96], [46]] = true := by decide +kernel
theorem dL_law_1000 : decode cL_law 1000 = .ok (.iconst 1, 1) := dc_4 (sg_at zd_dL_law_1000 0 rfl rfl)
theorem dL_law_1001 : decode cL_law 1001 = .ok (.iadd, 1) := dc_96 (sg_at zd_dL_law_1000 1 rfl rfl)
theorem dL_law_1002 : decode cL_law 1002 = .ok (.iaload, 1) := dc_46 (sg_at zd_dL_law_1000 2 rfl rfl)
theorem dL_law_1003 : decode cL_law 1003 = .ok (.aload_n 0, 1) := dc_42 (sg_at zd_dL_law_1000 3 rfl rfl)
theorem dL_law_1004 : decode cL_law 1004 = .ok (.iload 4, 2) := dc_21 (sg_at zd_dL_law_1000 4 rfl rfl)
theorem dL_law_1006 : decode cL_law 1006 = .ok (.iconst 2, 1) := dc_5 (sg_at zd_dL_law_1000 5 rfl rfl)
theorem dL_law_1007 : decode cL_law 1007 = .ok (.iadd, 1) := dc_96 (sg_at zd_dL_law_1000 6 rfl rfl)
theorem dL_law_1008 : decode cL_law 1008 = .ok (.iaload, 1) := dc_46 (sg_at zd_dL_law_1000 7 rfl rfl)
theorem zd_dL_law_1009 : sg (cL_law.data.toList.drop 1009) [[42], [21, 4], [6], [96], [46], [182, 0, 116], [87], [44]] = true := by decide +kernel
theorem dL_law_1009 : decode cL_law 1009 = .ok (.aload_n 0, 1) := dc_42 (sg_at zd_dL_law_1009 0 rfl rfl)
theorem dL_law_1010 : decode cL_law 1010 = .ok (.iload 4, 2) := dc_21 (sg_at zd_dL_law_1009 1 rfl rfl)
theorem dL_law_1012 : decode cL_law 1012 = .ok (.iconst 3, 1) := dc_6 (sg_at zd_dL_law_1009 2 rfl rfl)
theorem dL_law_1013 : decode cL_law 1013 = .ok (.iadd, 1) := dc_96 (sg_at zd_dL_law_1009 3 rfl rfl)
theorem dL_law_1014 : decode cL_law 1014 = .ok (.iaload, 1) := dc_46 (sg_at zd_dL_law_1009 4 rfl rfl)
theorem dL_law_1015 : decode cL_law 1015 = .ok (.invokevirtual 116, 3) := dc_182 (sg_at zd_dL_law_1009 5 rfl rfl) rfl
theorem dL_law_1018 : decode cL_law 1018 = .ok (.pop, 1) := dc_87 (sg_at zd_dL_law_1009 6 rfl rfl)
theorem dL_law_1019 : decode cL_law 1019 = .ok (.aload_n 2, 1) := dc_44 (sg_at zd_dL_law_1009 7 rfl rfl)
theorem zd_dL_law_1020 : sg (cL_law.data.toList.drop 1020) [[42], [21, 4], [4], [96], [46], [42], [21, 4], [5]] = true := by decide +kernel
theorem dL_law_1020 : decode cL_law 1020 = .ok (.aload_n 0, 1) := dc_42 (sg_at zd_dL_law_1020 0 rfl rfl)
theorem dL_law_1021 : decode cL_law 1021 = .ok (.iload 4, 2) := dc_21 (sg_at zd_dL_law_1020 1 rfl rfl)
theorem dL_law_1023 : decode cL_law 1023 = .ok (.iconst 1, 1) := dc_4 (sg_at zd_dL_law_1020 2 rfl rfl)
theorem dL_law_1024 : decode cL_law 1024 = .ok (.iadd, 1) := dc_96 (sg_at zd_dL_law_1020 3 rfl rfl)
theorem dL_law_1025 : decode cL_law 1025 = .ok (.iaload, 1) := dc_46 (sg_at zd_dL_law_1020 4 rfl rfl)
theorem dL_law_1026 : decode cL_law 1026 = .ok (.aload_n 0, 1) := dc_42 (sg_at zd_dL_law_1020 5 rfl rfl)
theorem dL_law_1027 : decode cL_law 1027 = .ok (.iload 4, 2) := dc_21 (sg_at zd_dL_law_1020 6 rfl rfl)
theorem dL_law_1029 : decode cL_law 1029 = .ok (.iconst 2, 1) := dc_5 (sg_at zd_dL_law_1020 7 rfl rfl)
theorem zd_dL_law_1030 : sg (cL_law.data.toList.drop 1030) [[96], [46], [42], [21, 4], [6], [96], [46], [182, 0, 119]] = true := by decide +kernel
theorem dL_law_1030 : decode cL_law 1030 = .ok (.iadd, 1) := dc_96 (sg_at zd_dL_law_1030 0 rfl rfl)
theorem dL_law_1031 : decode cL_law 1031 = .ok (.iaload, 1) := dc_46 (sg_at zd_dL_law_1030 1 rfl rfl)
theorem dL_law_1032 : decode cL_law 1032 = .ok (.aload_n 0, 1) := dc_42 (sg_at zd_dL_law_1030 2 rfl rfl)
theorem dL_law_1033 : decode cL_law 1033 = .ok (.iload 4, 2) := dc_21 (sg_at zd_dL_law_1030 3 rfl rfl)
theorem dL_law_1035 : decode cL_law 1035 = .ok (.iconst 3, 1) := dc_6 (sg_at zd_dL_law_1030 4 rfl rfl)
theorem dL_law_1036 : decode cL_law 1036 = .ok (.iadd, 1) := dc_96 (sg_at zd_dL_law_1030 5 rfl rfl)
theorem dL_law_1037 : decode cL_law 1037 = .ok (.iaload, 1) := dc_46 (sg_at zd_dL_law_1030 6 rfl rfl)
theorem dL_law_1038 : decode cL_law 1038 = .ok (.invokevirtual 119, 3) := dc_182 (sg_at zd_dL_law_1030 7 rfl rfl) rfl
theorem zd_dL_law_1041 : sg (cL_law.data.toList.drop 1041) [[87], [167, 2, 0], [43], [42], [21, 4], [4], [96], [46]] = true := by decide +kernel
theorem dL_law_1041 : decode cL_law 1041 = .ok (.pop, 1) := dc_87 (sg_at zd_dL_law_1041 0 rfl rfl)
theorem dL_law_1042 : decode cL_law 1042 = .ok (.goto 512, 3) := dc_167 (sg_at zd_dL_law_1041 1 rfl rfl) rfl
theorem dL_law_1045 : decode cL_law 1045 = .ok (.aload_n 1, 1) := dc_43 (sg_at zd_dL_law_1041 2 rfl rfl)
theorem dL_law_1046 : decode cL_law 1046 = .ok (.aload_n 0, 1) := dc_42 (sg_at zd_dL_law_1041 3 rfl rfl)
theorem dL_law_1047 : decode cL_law 1047 = .ok (.iload 4, 2) := dc_21 (sg_at zd_dL_law_1041 4 rfl rfl)
theorem dL_law_1049 : decode cL_law 1049 = .ok (.iconst 1, 1) := dc_4 (sg_at zd_dL_law_1041 5 rfl rfl)
theorem dL_law_1050 : decode cL_law 1050 = .ok (.iadd, 1) := dc_96 (sg_at zd_dL_law_1041 6 rfl rfl)
theorem dL_law_1051 : decode cL_law 1051 = .ok (.iaload, 1) := dc_46 (sg_at zd_dL_law_1041 7 rfl rfl)
theorem zd_dL_law_1052 : sg (cL_law.data.toList.drop 1052) [[42], [21, 4], [5], [96], [46], [42], [21, 4], [6]] = true := by decide +kernel
theorem dL_law_1052 : decode cL_law 1052 = .ok (.aload_n 0, 1) := dc_42 (sg_at zd_dL_law_1052 0 rfl rfl)
theorem dL_law_1053 : decode cL_law 1053 = .ok (.iload 4, 2) := dc_21 (sg_at zd_dL_law_1052 1 rfl rfl)
theorem dL_law_1055 : decode cL_law 1055 = .ok (.iconst 2, 1) := dc_5 (sg_at zd_dL_law_1052 2 rfl rfl)
theorem dL_law_1056 : decode cL_law 1056 = .ok (.iadd, 1) := dc_96 (sg_at zd_dL_law_1052 3 rfl rfl)
theorem dL_law_1057 : decode cL_law 1057 = .ok (.iaload, 1) := dc_46 (sg_at zd_dL_law_1052 4 rfl rfl)
theorem dL_law_1058 : decode cL_law 1058 = .ok (.aload_n 0, 1) := dc_42 (sg_at zd_dL_law_1052 5 rfl rfl)
theorem dL_law_1059 : decode cL_law 1059 = .ok (.iload 4, 2) := dc_21 (sg_at zd_dL_law_1052 6 rfl rfl)
theorem dL_law_1061 : decode cL_law 1061 = .ok (.iconst 3, 1) := dc_6 (sg_at zd_dL_law_1052 7 rfl rfl)
theorem zd_dL_law_1062 : sg (cL_law.data.toList.drop 1062) [[96], [46], [182, 0, 120], [87], [44], [42], [21, 4], [4]] = true := by decide +kernel
theorem dL_law_1062 : decode cL_law 1062 = .ok (.iadd, 1) := dc_96 (sg_at zd_dL_law_1062 0 rfl rfl)
theorem dL_law_1063 : decode cL_law 1063 = .ok (.iaload, 1) := dc_46 (sg_at zd_dL_law_1062 1 rfl rfl)
theorem dL_law_1064 : decode cL_law 1064 = .ok (.invokevirtual 120, 3) := dc_182 (sg_at zd_dL_law_1062 2 rfl rfl) rfl
theorem dL_law_1067 : decode cL_law 1067 = .ok (.pop, 1) := dc_87 (sg_at zd_dL_law_1062 3 rfl rfl)
theorem dL_law_1068 : decode cL_law 1068 = .ok (.aload_n 2, 1) := dc_44 (sg_at zd_dL_law_1062 4 rfl rfl)
theorem dL_law_1069 : decode cL_law 1069 = .ok (.aload_n 0, 1) := dc_42 (sg_at zd_dL_law_1062 5 rfl rfl)
theorem dL_law_1070 : decode cL_law 1070 = .ok (.iload 4, 2) := dc_21 (sg_at zd_dL_law_1062 6 rfl rfl)
theorem dL_law_1072 : decode cL_law 1072 = .ok (.iconst 1, 1) := dc_4 (sg_at zd_dL_law_1062 7 rfl rfl)
theorem zd_dL_law_1073 : sg (cL_law.data.toList.drop 1073) [[96], [46], [42], [21, 4], [5], [96], [46], [42]] = true := by decide +kernel
theorem dL_law_1073 : decode cL_law 1073 = .ok (.iadd, 1) := dc_96 (sg_at zd_dL_law_1073 0 rfl rfl)
theorem dL_law_1074 : decode cL_law 1074 = .ok (.iaload, 1) := dc_46 (sg_at zd_dL_law_1073 1 rfl rfl)
theorem dL_law_1075 : decode cL_law 1075 = .ok (.aload_n 0, 1) := dc_42 (sg_at zd_dL_law_1073 2 rfl rfl)
theorem dL_law_1076 : decode cL_law 1076 = .ok (.iload 4, 2) := dc_21 (sg_at zd_dL_law_1073 3 rfl rfl)
theorem dL_law_1078 : decode cL_law 1078 = .ok (.iconst 2, 1) := dc_5 (sg_at zd_dL_law_1073 4 rfl rfl)
theorem dL_law_1079 : decode cL_law 1079 = .ok (.iadd, 1) := dc_96 (sg_at zd_dL_law_1073 5 rfl rfl)
theorem dL_law_1080 : decode cL_law 1080 = .ok (.iaload, 1) := dc_46 (sg_at zd_dL_law_1073 6 rfl rfl)
theorem dL_law_1081 : decode cL_law 1081 = .ok (.aload_n 0, 1) := dc_42 (sg_at zd_dL_law_1073 7 rfl rfl)
theorem zd_dL_law_1082 : sg (cL_law.data.toList.drop 1082) [[21, 4], [6], [96], [46], [182, 0, 123], [87], [167, 1, 207], [43]] = true := by decide +kernel
theorem dL_law_1082 : decode cL_law 1082 = .ok (.iload 4, 2) := dc_21 (sg_at zd_dL_law_1082 0 rfl rfl)
theorem dL_law_1084 : decode cL_law 1084 = .ok (.iconst 3, 1) := dc_6 (sg_at zd_dL_law_1082 1 rfl rfl)
theorem dL_law_1085 : decode cL_law 1085 = .ok (.iadd, 1) := dc_96 (sg_at zd_dL_law_1082 2 rfl rfl)
theorem dL_law_1086 : decode cL_law 1086 = .ok (.iaload, 1) := dc_46 (sg_at zd_dL_law_1082 3 rfl rfl)
theorem dL_law_1087 : decode cL_law 1087 = .ok (.invokevirtual 123, 3) := dc_182 (sg_at zd_dL_law_1082 4 rfl rfl) rfl
theorem dL_law_1090 : decode cL_law 1090 = .ok (.pop, 1) := dc_87 (sg_at zd_dL_law_1082 5 rfl rfl)
theorem dL_law_1091 : decode cL_law 1091 = .ok (.goto 463, 3) := dc_167 (sg_at zd_dL_law_1082 6 rfl rfl) rfl
theorem dL_law_1094 : decode cL_law 1094 = .ok (.aload_n 1, 1) := dc_43 (sg_at zd_dL_law_1082 7 rfl rfl)
theorem zd_dL_law_1095 : sg (cL_law.data.toList.drop 1095) [[42], [21, 4], [4], [96], [46], [42], [21, 4], [5]] = true := by decide +kernel
theorem dL_law_1095 : decode cL_law 1095 = .ok (.aload_n 0, 1) := dc_42 (sg_at zd_dL_law_1095 0 rfl rfl)
theorem dL_law_1096 : decode cL_law 1096 = .ok (.iload 4, 2) := dc_21 (sg_at zd_dL_law_1095 1 rfl rfl)
theorem dL_law_1098 : decode cL_law 1098 = .ok (.iconst 1, 1) := dc_4 (sg_at zd_dL_law_1095 2 rfl rfl)
theorem dL_law_1099 : decode cL_law 1099 = .ok (.iadd, 1) := dc_96 (sg_at zd_dL_law_1095 3 rfl rfl)
theorem dL_law_1100 : decode cL_law 1100 = .ok (.iaload, 1) := dc_46 (sg_at zd_dL_law_1095 4 rfl rfl)
theorem dL_law_1101 : decode cL_law 1101 = .ok (.aload_n 0, 1) := dc_42 (sg_at zd_dL_law_1095 5 rfl rfl)
theorem dL_law_1102 : decode cL_law 1102 = .ok (.iload 4, 2) := dc_21 (sg_at zd_dL_law_1095 6 rfl rfl)
theorem dL_law_1104 : decode cL_law 1104 = .ok (.iconst 2, 1) := dc_5 (sg_at zd_dL_law_1095 7 rfl rfl)
theorem zd_dL_law_1105 : sg (cL_law.data.toList.drop 1105) [[96], [46], [42], [21, 4], [6], [96], [46], [182, 0, 124]] = true := by decide +kernel
theorem dL_law_1105 : decode cL_law 1105 = .ok (.iadd, 1) := dc_96 (sg_at zd_dL_law_1105 0 rfl rfl)
theorem dL_law_1106 : decode cL_law 1106 = .ok (.iaload, 1) := dc_46 (sg_at zd_dL_law_1105 1 rfl rfl)
theorem dL_law_1107 : decode cL_law 1107 = .ok (.aload_n 0, 1) := dc_42 (sg_at zd_dL_law_1105 2 rfl rfl)
theorem dL_law_1108 : decode cL_law 1108 = .ok (.iload 4, 2) := dc_21 (sg_at zd_dL_law_1105 3 rfl rfl)
theorem dL_law_1110 : decode cL_law 1110 = .ok (.iconst 3, 1) := dc_6 (sg_at zd_dL_law_1105 4 rfl rfl)
theorem dL_law_1111 : decode cL_law 1111 = .ok (.iadd, 1) := dc_96 (sg_at zd_dL_law_1105 5 rfl rfl)
theorem dL_law_1112 : decode cL_law 1112 = .ok (.iaload, 1) := dc_46 (sg_at zd_dL_law_1105 6 rfl rfl)
theorem dL_law_1113 : decode cL_law 1113 = .ok (.invokevirtual 124, 3) := dc_182 (sg_at zd_dL_law_1105 7 rfl rfl) rfl
theorem zd_dL_law_1116 : sg (cL_law.data.toList.drop 1116) [[87], [44], [42], [21, 4], [4], [96], [46], [42]] = true := by decide +kernel
theorem dL_law_1116 : decode cL_law 1116 = .ok (.pop, 1) := dc_87 (sg_at zd_dL_law_1116 0 rfl rfl)
theorem dL_law_1117 : decode cL_law 1117 = .ok (.aload_n 2, 1) := dc_44 (sg_at zd_dL_law_1116 1 rfl rfl)
theorem dL_law_1118 : decode cL_law 1118 = .ok (.aload_n 0, 1) := dc_42 (sg_at zd_dL_law_1116 2 rfl rfl)
theorem dL_law_1119 : decode cL_law 1119 = .ok (.iload 4, 2) := dc_21 (sg_at zd_dL_law_1116 3 rfl rfl)
theorem dL_law_1121 : decode cL_law 1121 = .ok (.iconst 1, 1) := dc_4 (sg_at zd_dL_law_1116 4 rfl rfl)
theorem dL_law_1122 : decode cL_law 1122 = .ok (.iadd, 1) := dc_96 (sg_at zd_dL_law_1116 5 rfl rfl)
theorem dL_law_1123 : decode cL_law 1123 = .ok (.iaload, 1) := dc_46 (sg_at zd_dL_law_1116 6 rfl rfl)
theorem dL_law_1124 : decode cL_law 1124 = .ok (.aload_n 0, 1) := dc_42 (sg_at zd_dL_law_1116 7 rfl rfl)
theorem zd_dL_law_1125 : sg (cL_law.data.toList.drop 1125) [[21, 4], [5], [96], [46], [42], [21, 4], [6], [96]] = true := by decide +kernel
theorem dL_law_1125 : decode cL_law 1125 = .ok (.iload 4, 2) := dc_21 (sg_at zd_dL_law_1125 0 rfl rfl)
theorem dL_law_1127 : decode cL_law 1127 = .ok (.iconst 2, 1) := dc_5 (sg_at zd_dL_law_1125 1 rfl rfl)
theorem dL_law_1128 : decode cL_law 1128 = .ok (.iadd, 1) := dc_96 (sg_at zd_dL_law_1125 2 rfl rfl)
theorem dL_law_1129 : decode cL_law 1129 = .ok (.iaload, 1) := dc_46 (sg_at zd_dL_law_1125 3 rfl rfl)
theorem dL_law_1130 : decode cL_law 1130 = .ok (.aload_n 0, 1) := dc_42 (sg_at zd_dL_law_1125 4 rfl rfl)
theorem dL_law_1131 : decode cL_law 1131 = .ok (.iload 4, 2) := dc_21 (sg_at zd_dL_law_1125 5 rfl rfl)
theorem dL_law_1133 : decode cL_law 1133 = .ok (.iconst 3, 1) := dc_6 (sg_at zd_dL_law_1125 6 rfl rfl)
theorem dL_law_1134 : decode cL_law 1134 = .ok (.iadd, 1) := dc_96 (sg_at zd_dL_law_1125 7 rfl rfl)
theorem zd_dL_law_1135 : sg (cL_law.data.toList.drop 1135) [[46], [182, 0, 127], [87], [167, 1, 158], [43], [42], [21, 4], [4]] = true := by decide +kernel
theorem dL_law_1135 : decode cL_law 1135 = .ok (.iaload, 1) := dc_46 (sg_at zd_dL_law_1135 0 rfl rfl)
theorem dL_law_1136 : decode cL_law 1136 = .ok (.invokevirtual 127, 3) := dc_182 (sg_at zd_dL_law_1135 1 rfl rfl) rfl
theorem dL_law_1139 : decode cL_law 1139 = .ok (.pop, 1) := dc_87 (sg_at zd_dL_law_1135 2 rfl rfl)
theorem dL_law_1140 : decode cL_law 1140 = .ok (.goto 414, 3) := dc_167 (sg_at zd_dL_law_1135 3 rfl rfl) rfl
theorem dL_law_1143 : decode cL_law 1143 = .ok (.aload_n 1, 1) := dc_43 (sg_at zd_dL_law_1135 4 rfl rfl)
theorem dL_law_1144 : decode cL_law 1144 = .ok (.aload_n 0, 1) := dc_42 (sg_at zd_dL_law_1135 5 rfl rfl)
theorem dL_law_1145 : decode cL_law 1145 = .ok (.iload 4, 2) := dc_21 (sg_at zd_dL_law_1135 6 rfl rfl)
theorem dL_law_1147 : decode cL_law 1147 = .ok (.iconst 1, 1) := dc_4 (sg_at zd_dL_law_1135 7 rfl rfl)
theorem zd_dL_law_1148 : sg (cL_law.data.toList.drop 1148) [[96], [46], [182, 0, 128], [87], [44], [42], [21, 4], [4]] = true := by decide +kernel
theorem dL_law_1148 : decode cL_law 1148 = .ok (.iadd, 1) := dc_96 (sg_at zd_dL_law_1148 0 rfl rfl)
theorem dL_law_1149 : decode cL_law 1149 = .ok (.iaload, 1) := dc_46 (sg_at zd_dL_law_1148 1 rfl rfl)
theorem dL_law_1150 : decode cL_law 1150 = .ok (.invokevirtual 128, 3) := dc_182 (sg_at zd_dL_law_1148 2 rfl rfl) rfl
theorem dL_law_1153 : decode cL_law 1153 = .ok (.pop, 1) := dc_87 (sg_at zd_dL_law_1148 3 rfl rfl)
theorem dL_law_1154 : decode cL_law 1154 = .ok (.aload_n 2, 1) := dc_44 (sg_at zd_dL_law_1148 4 rfl rfl)
theorem dL_law_1155 : decode cL_law 1155 = .ok (.aload_n 0, 1) := dc_42 (sg_at zd_dL_law_1148 5 rfl rfl)
theorem dL_law_1156 : decode cL_law 1156 = .ok (.iload 4, 2) := dc_21 (sg_at zd_dL_law_1148 6 rfl rfl)
theorem dL_law_1158 : decode cL_law 1158 = .ok (.iconst 1, 1) := dc_4 (sg_at zd_dL_law_1148 7 rfl rfl)
theorem zd_dL_law_1159 : sg (cL_law.data.toList.drop 1159) [[96], [46], [182, 0, 131], [87], [167, 1, 133], [43], [42], [21, 4]] = true := by decide +kernel
theorem dL_law_1159 : decode cL_law 1159 = .ok (.iadd, 1) := dc_96 (sg_at zd_dL_law_1159 0 rfl rfl)
theorem dL_law_1160 : decode cL_law 1160 = .ok (.iaload, 1) := dc_46 (sg_at zd_dL_law_1159 1 rfl rfl)
theorem dL_law_1161 : decode cL_law 1161 = .ok (.invokevirtual 131, 3) := dc_182 (sg_at zd_dL_law_1159 2 rfl rfl) rfl
theorem dL_law_1164 : decode cL_law 1164 = .ok (.pop, 1) := dc_87 (sg_at zd_dL_law_1159 3 rfl rfl)
theorem dL_law_1165 : decode cL_law 1165 = .ok (.goto 389, 3) := dc_167 (sg_at zd_dL_law_1159 4 rfl rfl) rfl
theorem dL_law_1168 : decode cL_law 1168 = .ok (.aload_n 1, 1) := dc_43 (sg_at zd_dL_law_1159 5 rfl rfl)
theorem dL_law_1169 : decode cL_law 1169 = .ok (.aload_n 0, 1) := dc_42 (sg_at zd_dL_law_1159 6 rfl rfl)
theorem dL_law_1170 : decode cL_law 1170 = .ok (.iload 4, 2) := dc_21 (sg_at zd_dL_law_1159 7 rfl rfl)
theorem zd_dL_law_1172 : sg (cL_law.data.toList.drop 1172) [[4], [96], [46], [182, 0, 132], [87], [44], [42], [21, 4]] = true := by decide +kernel
theorem dL_law_1172 : decode cL_law 1172 = .ok (.iconst 1, 1) := dc_4 (sg_at zd_dL_law_1172 0 rfl rfl)
theorem dL_law_1173 : decode cL_law 1173 = .ok (.iadd, 1) := dc_96 (sg_at zd_dL_law_1172 1 rfl rfl)
theorem dL_law_1174 : decode cL_law 1174 = .ok (.iaload, 1) := dc_46 (sg_at zd_dL_law_1172 2 rfl rfl)
theorem dL_law_1175 : decode cL_law 1175 = .ok (.invokevirtual 132, 3) := dc_182 (sg_at zd_dL_law_1172 3 rfl rfl) rfl
theorem dL_law_1178 : decode cL_law 1178 = .ok (.pop, 1) := dc_87 (sg_at zd_dL_law_1172 4 rfl rfl)
theorem dL_law_1179 : decode cL_law 1179 = .ok (.aload_n 2, 1) := dc_44 (sg_at zd_dL_law_1172 5 rfl rfl)
theorem dL_law_1180 : decode cL_law 1180 = .ok (.aload_n 0, 1) := dc_42 (sg_at zd_dL_law_1172 6 rfl rfl)
theorem dL_law_1181 : decode cL_law 1181 = .ok (.iload 4, 2) := dc_21 (sg_at zd_dL_law_1172 7 rfl rfl)
theorem zd_dL_law_1183 : sg (cL_law.data.toList.drop 1183) [[4], [96], [46], [182, 0, 135], [87], [167, 1, 108], [43], [182, 0, 136]] = true := by decide +kernel
theorem dL_law_1183 : decode cL_law 1183 = .ok (.iconst 1, 1) := dc_4 (sg_at zd_dL_law_1183 0 rfl rfl)
theorem dL_law_1184 : decode cL_law 1184 = .ok (.iadd, 1) := dc_96 (sg_at zd_dL_law_1183 1 rfl rfl)
theorem dL_law_1185 : decode cL_law 1185 = .ok (.iaload, 1) := dc_46 (sg_at zd_dL_law_1183 2 rfl rfl)
theorem dL_law_1186 : decode cL_law 1186 = .ok (.invokevirtual 135, 3) := dc_182 (sg_at zd_dL_law_1183 3 rfl rfl) rfl
theorem dL_law_1189 : decode cL_law 1189 = .ok (.pop, 1) := dc_87 (sg_at zd_dL_law_1183 4 rfl rfl)
theorem dL_law_1190 : decode cL_law 1190 = .ok (.goto 364, 3) := dc_167 (sg_at zd_dL_law_1183 5 rfl rfl) rfl
theorem dL_law_1193 : decode cL_law 1193 = .ok (.aload_n 1, 1) := dc_43 (sg_at zd_dL_law_1183 6 rfl rfl)
theorem dL_law_1194 : decode cL_law 1194 = .ok (.invokevirtual 136, 3) := dc_182 (sg_at zd_dL_law_1183 7 rfl rfl) rfl
theorem zd_dL_law_1197 : sg (cL_law.data.toList.drop 1197) [[87], [44], [182, 0, 139], [87], [167, 1, 95], [43], [42], [21, 4]] = true := by decide +kernel
theorem dL_law_1197 : decode cL_law 1197 = .ok (.pop, 1) := dc_87 (sg_at zd_dL_law_1197 0 rfl rfl)
theorem dL_law_1198 : decode cL_law 1198 = .ok (.aload_n 2, 1) := dc_44 (sg_at zd_dL_law_1197 1 rfl rfl)
theorem dL_law_1199 : decode cL_law 1199 = .ok (.invokevirtual 139, 3) := dc_182 (sg_at zd_dL_law_1197 2 rfl rfl) rfl
theorem dL_law_1202 : decode cL_law 1202 = .ok (.pop, 1) := dc_87 (sg_at zd_dL_law_1197 3 rfl rfl)
theorem dL_law_1203 : decode cL_law 1203 = .ok (.goto 351, 3) := dc_167 (sg_at zd_dL_law_1197 4 rfl rfl) rfl
theorem dL_law_1206 : decode cL_law 1206 = .ok (.aload_n 1, 1) := dc_43 (sg_at zd_dL_law_1197 5 rfl rfl)
theorem dL_law_1207 : decode cL_law 1207 = .ok (.aload_n 0, 1) := dc_42 (sg_at zd_dL_law_1197 6 rfl rfl)
theorem dL_law_1208 : decode cL_law 1208 = .ok (.iload 4, 2) := dc_21 (sg_at zd_dL_law_1197 7 rfl rfl)
theorem zd_dL_law_1210 : sg (cL_law.data.toList.drop 1210) [[4], [96], [46], [42], [21, 4], [5], [96], [46]] = true := by decide +kernel
theorem dL_law_1210 : decode cL_law 1210 = .ok (.iconst 1, 1) := dc_4 (sg_at zd_dL_law_1210 0 rfl rfl)
theorem dL_law_1211 : decode cL_law 1211 = .ok (.iadd, 1) := dc_96 (sg_at zd_dL_law_1210 1 rfl rfl)
theorem dL_law_1212 : decode cL_law 1212 = .ok (.iaload, 1) := dc_46 (sg_at zd_dL_law_1210 2 rfl rfl)
theorem dL_law_1213 : decode cL_law 1213 = .ok (.aload_n 0, 1) := dc_42 (sg_at zd_dL_law_1210 3 rfl rfl)
theorem dL_law_1214 : decode cL_law 1214 = .ok (.iload 4, 2) := dc_21 (sg_at zd_dL_law_1210 4 rfl rfl)
theorem dL_law_1216 : decode cL_law 1216 = .ok (.iconst 2, 1) := dc_5 (sg_at zd_dL_law_1210 5 rfl rfl)
theorem dL_law_1217 : decode cL_law 1217 = .ok (.iadd, 1) := dc_96 (sg_at zd_dL_law_1210 6 rfl rfl)
theorem dL_law_1218 : decode cL_law 1218 = .ok (.iaload, 1) := dc_46 (sg_at zd_dL_law_1210 7 rfl rfl)
theorem zd_dL_law_1219 : sg (cL_law.data.toList.drop 1219) [[182, 0, 140], [87], [44], [42], [21, 4], [4], [96], [46]] = true := by decide +kernel
theorem dL_law_1219 : decode cL_law 1219 = .ok (.invokevirtual 140, 3) := dc_182 (sg_at zd_dL_law_1219 0 rfl rfl) rfl
theorem dL_law_1222 : decode cL_law 1222 = .ok (.pop, 1) := dc_87 (sg_at zd_dL_law_1219 1 rfl rfl)
theorem dL_law_1223 : decode cL_law 1223 = .ok (.aload_n 2, 1) := dc_44 (sg_at zd_dL_law_1219 2 rfl rfl)
theorem dL_law_1224 : decode cL_law 1224 = .ok (.aload_n 0, 1) := dc_42 (sg_at zd_dL_law_1219 3 rfl rfl)
theorem dL_law_1225 : decode cL_law 1225 = .ok (.iload 4, 2) := dc_21 (sg_at zd_dL_law_1219 4 rfl rfl)
theorem dL_law_1227 : decode cL_law 1227 = .ok (.iconst 1, 1) := dc_4 (sg_at zd_dL_law_1219 5 rfl rfl)
theorem dL_law_1228 : decode cL_law 1228 = .ok (.iadd, 1) := dc_96 (sg_at zd_dL_law_1219 6 rfl rfl)
theorem dL_law_1229 : decode cL_law 1229 = .ok (.iaload, 1) := dc_46 (sg_at zd_dL_law_1219 7 rfl rfl)
theorem zd_dL_law_1230 : sg (cL_law.data.toList.drop 1230) [[42], [21, 4], [5], [96], [46], [182, 0, 143], [87], [167, 1, 58]] = true := by decide +kernel
theorem dL_law_1230 : decode cL_law 1230 = .ok (.aload_n 0, 1) := dc_42 (sg_at zd_dL_law_1230 0 rfl rfl)
theorem dL_law_1231 : decode cL_law 1231 = .ok (.iload 4, 2) := dc_21 (sg_at zd_dL_law_1230 1 rfl rfl)
theorem dL_law_1233 : decode cL_law 1233 = .ok (.iconst 2, 1) := dc_5 (sg_at zd_dL_law_1230 2 rfl rfl)
theorem dL_law_1234 : decode cL_law 1234 = .ok (.iadd, 1) := dc_96 (sg_at zd_dL_law_1230 3 rfl rfl)
theorem dL_law_1235 : decode cL_law 1235 = .ok (.iaload, 1) := dc_46 (sg_at zd_dL_law_1230 4 rfl rfl)
theorem dL_law_1236 : decode cL_law 1236 = .ok (.invokevirtual 143, 3) := dc_182 (sg_at zd_dL_law_1230 5 rfl rfl) rfl
theorem dL_law_1239 : decode cL_law 1239 = .ok (.pop, 1) := dc_87 (sg_at zd_dL_law_1230 6 rfl rfl)
theorem dL_law_1240 : decode cL_law 1240 = .ok (.goto 314, 3) := dc_167 (sg_at zd_dL_law_1230 7 rfl rfl) rfl
theorem zd_dL_law_1243 : sg (cL_law.data.toList.drop 1243) [[43], [42], [21, 4], [4], [96], [46], [182, 0, 144], [87]] = true := by decide +kernel
theorem dL_law_1243 : decode cL_law 1243 = .ok (.aload_n 1, 1) := dc_43 (sg_at zd_dL_law_1243 0 rfl rfl)
theorem dL_law_1244 : decode cL_law 1244 = .ok (.aload_n 0, 1) := dc_42 (sg_at zd_dL_law_1243 1 rfl rfl)
theorem dL_law_1245 : decode cL_law 1245 = .ok (.iload 4, 2) := dc_21 (sg_at zd_dL_law_1243 2 rfl rfl)
theorem dL_law_1247 : decode cL_law 1247 = .ok (.iconst 1, 1) := dc_4 (sg_at zd_dL_law_1243 3 rfl rfl)
theorem dL_law_1248 : decode cL_law 1248 = .ok (.iadd, 1) := dc_96 (sg_at zd_dL_law_1243 4 rfl rfl)
theorem dL_law_1249 : decode cL_law 1249 = .ok (.iaload, 1) := dc_46 (sg_at zd_dL_law_1243 5 rfl rfl)
theorem dL_law_1250 : decode cL_law 1250 = .ok (.invokevirtual 144, 3) := dc_182 (sg_at zd_dL_law_1243 6 rfl rfl) rfl
theorem dL_law_1253 : decode cL_law 1253 = .ok (.pop, 1) := dc_87 (sg_at zd_dL_law_1243 7 rfl rfl)
theorem zd_dL_law_1254 : sg (cL_law.data.toList.drop 1254) [[44], [42], [21, 4], [4], [96], [46], [182, 0, 147], [87]] = true := by decide +kernel
theorem dL_law_1254 : decode cL_law 1254 = .ok (.aload_n 2, 1) := dc_44 (sg_at zd_dL_law_1254 0 rfl rfl)
theorem dL_law_1255 : decode cL_law 1255 = .ok (.aload_n 0, 1) := dc_42 (sg_at zd_dL_law_1254 1 rfl rfl)
theorem dL_law_1256 : decode cL_law 1256 = .ok (.iload 4, 2) := dc_21 (sg_at zd_dL_law_1254 2 rfl rfl)
theorem dL_law_1258 : decode cL_law 1258 = .ok (.iconst 1, 1) := dc_4 (sg_at zd_dL_law_1254 3 rfl rfl)
theorem dL_law_1259 : decode cL_law 1259 = .ok (.iadd, 1) := dc_96 (sg_at zd_dL_law_1254 4 rfl rfl)
theorem dL_law_1260 : decode cL_law 1260 = .ok (.iaload, 1) := dc_46 (sg_at zd_dL_law_1254 5 rfl rfl)
theorem dL_law_1261 : decode cL_law 1261 = .ok (.invokevirtual 147, 3) := dc_182 (sg_at zd_dL_law_1254 6 rfl rfl) rfl
theorem dL_law_1264 : decode cL_law 1264 = .ok (.pop, 1) := dc_87 (sg_at zd_dL_law_1254 7 rfl rfl)
theorem zd_dL_law_1265 : sg (cL_law.data.toList.drop 1265) [[167, 1, 33], [43], [42], [21, 4], [4], [96], [46], [42]] = true := by decide +kernel
theorem dL_law_1265 : decode cL_law 1265 = .ok (.goto 289, 3) := dc_167 (sg_at zd_dL_law_1265 0 rfl rfl) rfl
theorem dL_law_1268 : decode cL_law 1268 = .ok (.aload_n 1, 1) := dc_43 (sg_at zd_dL_law_1265 1 rfl rfl)
theorem dL_law_1269 : decode cL_law 1269 = .ok (.aload_n 0, 1) := dc_42 (sg_at zd_dL_law_1265 2 rfl rfl)
theorem dL_law_1270 : decode cL_law 1270 = .ok (.iload 4, 2) := dc_21 (sg_at zd_dL_law_1265 3 rfl rfl)
theorem dL_law_1272 : decode cL_law 1272 = .ok (.iconst 1, 1) := dc_4 (sg_at zd_dL_law_1265 4 rfl rfl)
theorem dL_law_1273 : decode cL_law 1273 = .ok (.iadd, 1) := dc_96 (sg_at zd_dL_law_1265 5 rfl rfl)
theorem dL_law_1274 : decode cL_law 1274 = .ok (.iaload, 1) := dc_46 (sg_at zd_dL_law_1265 6 rfl rfl)
theorem dL_law_1275 : decode cL_law 1275 = .ok (.aload_n 0, 1) := dc_42 (sg_at zd_dL_law_1265 7 rfl rfl)
theorem zd_dL_law_1276 : sg (cL_law.data.toList.drop 1276) [[21, 4], [5], [96], [46], [42], [21, 4], [6], [96]] = true := by decide +kernel
theorem dL_law_1276 : decode cL_law 1276 = .ok (.iload 4, 2) := dc_21 (sg_at zd_dL_law_1276 0 rfl rfl)
theorem dL_law_1278 : decode cL_law 1278 = .ok (.iconst 2, 1) := dc_5 (sg_at zd_dL_law_1276 1 rfl rfl)
theorem dL_law_1279 : decode cL_law 1279 = .ok (.iadd, 1) := dc_96 (sg_at zd_dL_law_1276 2 rfl rfl)
theorem dL_law_1280 : decode cL_law 1280 = .ok (.iaload, 1) := dc_46 (sg_at zd_dL_law_1276 3 rfl rfl)
theorem dL_law_1281 : decode cL_law 1281 = .ok (.aload_n 0, 1) := dc_42 (sg_at zd_dL_law_1276 4 rfl rfl)
theorem dL_law_1282 : decode cL_law 1282 = .ok (.iload 4, 2) := dc_21 (sg_at zd_dL_law_1276 5 rfl rfl)
theorem dL_law_1284 : decode cL_law 1284 = .ok (.iconst 3, 1) := dc_6 (sg_at zd_dL_law_1276 6 rfl rfl)
theorem dL_law_1285 : decode cL_law 1285 = .ok (.iadd, 1) := dc_96 (sg_at zd_dL_law_1276 7 rfl rfl)
theorem zd_dL_law_1286 : sg (cL_law.data.toList.drop 1286) [[46], [182, 0, 148], [87], [44], [42], [21, 4], [4], [96]] = true := by decide +kernel
theorem dL_law_1286 : decode cL_law 1286 = .ok (.iaload, 1) := dc_46 (sg_at zd_dL_law_1286 0 rfl rfl)
theorem dL_law_1287 : decode cL_law 1287 = .ok (.invokevirtual 148, 3) := dc_182 (sg_at zd_dL_law_1286 1 rfl rfl) rfl
theorem dL_law_1290 : decode cL_law 1290 = .ok (.pop, 1) := dc_87 (sg_at zd_dL_law_1286 2 rfl rfl)
theorem dL_law_1291 : decode cL_law 1291 = .ok (.aload_n 2, 1) := dc_44 (sg_at zd_dL_law_1286 3 rfl rfl)
theorem dL_law_1292 : decode cL_law 1292 = .ok (.aload_n 0, 1) := dc_42 (sg_at zd_dL_law_1286 4 rfl rfl)
theorem dL_law_1293 : decode cL_law 1293 = .ok (.iload 4, 2) := dc_21 (sg_at zd_dL_law_1286 5 rfl rfl)
theorem dL_law_1295 : decode cL_law 1295 = .ok (.iconst 1, 1) := dc_4 (sg_at zd_dL_law_1286 6 rfl rfl)
theorem dL_law_1296 : decode cL_law 1296 = .ok (.iadd, 1) := dc_96 (sg_at zd_dL_law_1286 7 rfl rfl)
theorem zd_dL_law_1297 : sg (cL_law.data.toList.drop 1297) [[46], [42], [21, 4], [5], [96], [46], [42], [21, 4]] = true := by decide +kernel
theorem dL_law_1297 : decode cL_law 1297 = .ok (.iaload, 1) := dc_46 (sg_at zd_dL_law_1297 0 rfl rfl)
theorem dL_law_1298 : decode cL_law 1298 = .ok (.aload_n 0, 1) := dc_42 (sg_at zd_dL_law_1297 1 rfl rfl)
theorem dL_law_1299 : decode cL_law 1299 = .ok (.iload 4, 2) := dc_21 (sg_at zd_dL_law_1297 2 rfl rfl)
theorem dL_law_1301 : decode cL_law 1301 = .ok (.iconst 2, 1) := dc_5 (sg_at zd_dL_law_1297 3 rfl rfl)
theorem dL_law_1302 : decode cL_law 1302 = .ok (.iadd, 1) := dc_96 (sg_at zd_dL_law_1297 4 rfl rfl)
theorem dL_law_1303 : decode cL_law 1303 = .ok (.iaload, 1) := dc_46 (sg_at zd_dL_law_1297 5 rfl rfl)
theorem dL_law_1304 : decode cL_law 1304 = .ok (.aload_n 0, 1) := dc_42 (sg_at zd_dL_law_1297 6 rfl rfl)
theorem dL_law_1305 : decode cL_law 1305 = .ok (.iload 4, 2) := dc_21 (sg_at zd_dL_law_1297 7 rfl rfl)
theorem zd_dL_law_1307 : sg (cL_law.data.toList.drop 1307) [[6], [96], [46], [182, 0, 151], [87], [167, 0, 240], [43], [42]] = true := by decide +kernel
theorem dL_law_1307 : decode cL_law 1307 = .ok (.iconst 3, 1) := dc_6 (sg_at zd_dL_law_1307 0 rfl rfl)
theorem dL_law_1308 : decode cL_law 1308 = .ok (.iadd, 1) := dc_96 (sg_at zd_dL_law_1307 1 rfl rfl)
theorem dL_law_1309 : decode cL_law 1309 = .ok (.iaload, 1) := dc_46 (sg_at zd_dL_law_1307 2 rfl rfl)
theorem dL_law_1310 : decode cL_law 1310 = .ok (.invokevirtual 151, 3) := dc_182 (sg_at zd_dL_law_1307 3 rfl rfl) rfl
theorem dL_law_1313 : decode cL_law 1313 = .ok (.pop, 1) := dc_87 (sg_at zd_dL_law_1307 4 rfl rfl)
theorem dL_law_1314 : decode cL_law 1314 = .ok (.goto 240, 3) := dc_167 (sg_at zd_dL_law_1307 5 rfl rfl) rfl
theorem dL_law_1317 : decode cL_law 1317 = .ok (.aload_n 1, 1) := dc_43 (sg_at zd_dL_law_1307 6 rfl rfl)
theorem dL_law_1318 : decode cL_law 1318 = .ok (.aload_n 0, 1) := dc_42 (sg_at zd_dL_law_1307 7 rfl rfl)
theorem zd_dL_law_1319 : sg (cL_law.data.toList.drop 1319) [[21, 4], [4], [96], [46], [182, 0, 152], [87], [44], [42]] = true := by decide +kernel
theorem dL_law_1319 : decode cL_law 1319 = .ok (.iload 4, 2) := dc_21 (sg_at zd_dL_law_1319 0 rfl rfl)
theorem dL_law_1321 : decode cL_law 1321 = .ok (.iconst 1, 1) := dc_4 (sg_at zd_dL_law_1319 1 rfl rfl)
theorem dL_law_1322 : decode cL_law 1322 = .ok (.iadd, 1) := dc_96 (sg_at zd_dL_law_1319 2 rfl rfl)
theorem dL_law_1323 : decode cL_law 1323 = .ok (.iaload, 1) := dc_46 (sg_at zd_dL_law_1319 3 rfl rfl)
theorem dL_law_1324 : decode cL_law 1324 = .ok (.invokevirtual 152, 3) := dc_182 (sg_at zd_dL_law_1319 4 rfl rfl) rfl
theorem dL_law_1327 : decode cL_law 1327 = .ok (.pop, 1) := dc_87 (sg_at zd_dL_law_1319 5 rfl rfl)
theorem dL_law_1328 : decode cL_law 1328 = .ok (.aload_n 2, 1) := dc_44 (sg_at zd_dL_law_1319 6 rfl rfl)
theorem dL_law_1329 : decode cL_law 1329 = .ok (.aload_n 0, 1) := dc_42 (sg_at zd_dL_law_1319 7 rfl rfl)
theorem zd_dL_law_1330 : sg (cL_law.data.toList.drop 1330) [[21, 4], [4], [96], [46], [182, 0, 155], [87], [167, 0, 215], [43]] = true := by decide +kernel
theorem dL_law_1330 : decode cL_law 1330 = .ok (.iload 4, 2) := dc_21 (sg_at zd_dL_law_1330 0 rfl rfl)
theorem dL_law_1332 : decode cL_law 1332 = .ok (.iconst 1, 1) := dc_4 (sg_at zd_dL_law_1330 1 rfl rfl)
theorem dL_law_1333 : decode cL_law 1333 = .ok (.iadd, 1) := dc_96 (sg_at zd_dL_law_1330 2 rfl rfl)
theorem dL_law_1334 : decode cL_law 1334 = .ok (.iaload, 1) := dc_46 (sg_at zd_dL_law_1330 3 rfl rfl)
theorem dL_law_1335 : decode cL_law 1335 = .ok (.invokevirtual 155, 3) := dc_182 (sg_at zd_dL_law_1330 4 rfl rfl) rfl
theorem dL_law_1338 : decode cL_law 1338 = .ok (.pop, 1) := dc_87 (sg_at zd_dL_law_1330 5 rfl rfl)
theorem dL_law_1339 : decode cL_law 1339 = .ok (.goto 215, 3) := dc_167 (sg_at zd_dL_law_1330 6 rfl rfl) rfl
theorem dL_law_1342 : decode cL_law 1342 = .ok (.aload_n 1, 1) := dc_43 (sg_at zd_dL_law_1330 7 rfl rfl)
theorem zd_dL_law_1343 : sg (cL_law.data.toList.drop 1343) [[42], [21, 4], [4], [96], [46], [182, 0, 156], [87], [44]] = true := by decide +kernel
theorem dL_law_1343 : decode cL_law 1343 = .ok (.aload_n 0, 1) := dc_42 (sg_at zd_dL_law_1343 0 rfl rfl)
theorem dL_law_1344 : decode cL_law 1344 = .ok (.iload 4, 2) := dc_21 (sg_at zd_dL_law_1343 1 rfl rfl)
theorem dL_law_1346 : decode cL_law 1346 = .ok (.iconst 1, 1) := dc_4 (sg_at zd_dL_law_1343 2 rfl rfl)
theorem dL_law_1347 : decode cL_law 1347 = .ok (.iadd, 1) := dc_96 (sg_at zd_dL_law_1343 3 rfl rfl)
theorem dL_law_1348 : decode cL_law 1348 = .ok (.iaload, 1) := dc_46 (sg_at zd_dL_law_1343 4 rfl rfl)
theorem dL_law_1349 : decode cL_law 1349 = .ok (.invokevirtual 156, 3) := dc_182 (sg_at zd_dL_law_1343 5 rfl rfl) rfl
theorem dL_law_1352 : decode cL_law 1352 = .ok (.pop, 1) := dc_87 (sg_at zd_dL_law_1343 6 rfl rfl)
theorem dL_law_1353 : decode cL_law 1353 = .ok (.aload_n 2, 1) := dc_44 (sg_at zd_dL_law_1343 7 rfl rfl)
theorem zd_dL_law_1354 : sg (cL_law.data.toList.drop 1354) [[42], [21, 4], [4], [96], [46], [182, 0, 159], [87], [167, 0, 190]] = true := by decide +kernel
theorem dL_law_1354 : decode cL_law 1354 = .ok (.aload_n 0, 1) := dc_42 (sg_at zd_dL_law_1354 0 rfl rfl)
theorem dL_law_1355 : decode cL_law 1355 = .ok (.iload 4, 2) := dc_21 (sg_at zd_dL_law_1354 1 rfl rfl)
theorem dL_law_1357 : decode cL_law 1357 = .ok (.iconst 1, 1) := dc_4 (sg_at zd_dL_law_1354 2 rfl rfl)
theorem dL_law_1358 : decode cL_law 1358 = .ok (.iadd, 1) := dc_96 (sg_at zd_dL_law_1354 3 rfl rfl)
theorem dL_law_1359 : decode cL_law 1359 = .ok (.iaload, 1) := dc_46 (sg_at zd_dL_law_1354 4 rfl rfl)
theorem dL_law_1360 : decode cL_law 1360 = .ok (.invokevirtual 159, 3) := dc_182 (sg_at zd_dL_law_1354 5 rfl rfl) rfl
theorem dL_law_1363 : decode cL_law 1363 = .ok (.pop, 1) := dc_87 (sg_at zd_dL_law_1354 6 rfl rfl)
theorem dL_law_1364 : decode cL_law 1364 = .ok (.goto 190, 3) := dc_167 (sg_at zd_dL_law_1354 7 rfl rfl) rfl
theorem zd_dL_law_1367 : sg (cL_law.data.toList.drop 1367) [[43], [42], [21, 4], [4], [96], [46], [182, 0, 160], [87]] = true := by decide +kernel
theorem dL_law_1367 : decode cL_law 1367 = .ok (.aload_n 1, 1) := dc_43 (sg_at zd_dL_law_1367 0 rfl rfl)
theorem dL_law_1368 : decode cL_law 1368 = .ok (.aload_n 0, 1) := dc_42 (sg_at zd_dL_law_1367 1 rfl rfl)
theorem dL_law_1369 : decode cL_law 1369 = .ok (.iload 4, 2) := dc_21 (sg_at zd_dL_law_1367 2 rfl rfl)
theorem dL_law_1371 : decode cL_law 1371 = .ok (.iconst 1, 1) := dc_4 (sg_at zd_dL_law_1367 3 rfl rfl)
theorem dL_law_1372 : decode cL_law 1372 = .ok (.iadd, 1) := dc_96 (sg_at zd_dL_law_1367 4 rfl rfl)
theorem dL_law_1373 : decode cL_law 1373 = .ok (.iaload, 1) := dc_46 (sg_at zd_dL_law_1367 5 rfl rfl)
theorem dL_law_1374 : decode cL_law 1374 = .ok (.invokevirtual 160, 3) := dc_182 (sg_at zd_dL_law_1367 6 rfl rfl) rfl
theorem dL_law_1377 : decode cL_law 1377 = .ok (.pop, 1) := dc_87 (sg_at zd_dL_law_1367 7 rfl rfl)
theorem zd_dL_law_1378 : sg (cL_law.data.toList.drop 1378) [[44], [42], [21, 4], [4], [96], [46], [182, 0, 163], [87]] = true := by decide +kernel
theorem dL_law_1378 : decode cL_law 1378 = .ok (.aload_n 2, 1) := dc_44 (sg_at zd_dL_law_1378 0 rfl rfl)
theorem dL_law_1379 : decode cL_law 1379 = .ok (.aload_n 0, 1) := dc_42 (sg_at zd_dL_law_1378 1 rfl rfl)
theorem dL_law_1380 : decode cL_law 1380 = .ok (.iload 4, 2) := dc_21 (sg_at zd_dL_law_1378 2 rfl rfl)
theorem dL_law_1382 : decode cL_law 1382 = .ok (.iconst 1, 1) := dc_4 (sg_at zd_dL_law_1378 3 rfl rfl)
theorem dL_law_1383 : decode cL_law 1383 = .ok (.iadd, 1) := dc_96 (sg_at zd_dL_law_1378 4 rfl rfl)
theorem dL_law_1384 : decode cL_law 1384 = .ok (.iaload, 1) := dc_46 (sg_at zd_dL_law_1378 5 rfl rfl)
theorem dL_law_1385 : decode cL_law 1385 = .ok (.invokevirtual 163, 3) := dc_182 (sg_at zd_dL_law_1378 6 rfl rfl) rfl
theorem dL_law_1388 : decode cL_law 1388 = .ok (.pop, 1) := dc_87 (sg_at zd_dL_law_1378 7 rfl rfl)
theorem zd_dL_law_1389 : sg (cL_law.data.toList.drop 1389) [[167, 0, 165], [43], [42], [21, 4], [4], [96], [46], [42]] = true := by decide +kernel
theorem dL_law_1389 : decode cL_law 1389 = .ok (.goto 165, 3) := dc_167 (sg_at zd_dL_law_1389 0 rfl rfl) rfl
theorem dL_law_1392 : decode cL_law 1392 = .ok (.aload_n 1, 1) := dc_43 (sg_at zd_dL_law_1389 1 rfl rfl)
theorem dL_law_1393 : decode cL_law 1393 = .ok (.aload_n 0, 1) := dc_42 (sg_at zd_dL_law_1389 2 rfl rfl)
theorem dL_law_1394 : decode cL_law 1394 = .ok (.iload 4, 2) := dc_21 (sg_at zd_dL_law_1389 3 rfl rfl)
theorem dL_law_1396 : decode cL_law 1396 = .ok (.iconst 1, 1) := dc_4 (sg_at zd_dL_law_1389 4 rfl rfl)
theorem dL_law_1397 : decode cL_law 1397 = .ok (.iadd, 1) := dc_96 (sg_at zd_dL_law_1389 5 rfl rfl)
theorem dL_law_1398 : decode cL_law 1398 = .ok (.iaload, 1) := dc_46 (sg_at zd_dL_law_1389 6 rfl rfl)
theorem dL_law_1399 : decode cL_law 1399 = .ok (.aload_n 0, 1) := dc_42 (sg_at zd_dL_law_1389 7 rfl rfl)
theorem zd_dL_law_1400 : sg (cL_law.data.toList.drop 1400) [[21, 4], [5], [96], [46], [42], [21, 4], [6], [96]] = true := by decide +kernel
theorem dL_law_1400 : decode cL_law 1400 = .ok (.iload 4, 2) := dc_21 (sg_at zd_dL_law_1400 0 rfl rfl)
theorem dL_law_1402 : decode cL_law 1402 = .ok (.iconst 2, 1) := dc_5 (sg_at zd_dL_law_1400 1 rfl rfl)
theorem dL_law_1403 : decode cL_law 1403 = .ok (.iadd, 1) := dc_96 (sg_at zd_dL_law_1400 2 rfl rfl)
theorem dL_law_1404 : decode cL_law 1404 = .ok (.iaload, 1) := dc_46 (sg_at zd_dL_law_1400 3 rfl rfl)
theorem dL_law_1405 : decode cL_law 1405 = .ok (.aload_n 0, 1) := dc_42 (sg_at zd_dL_law_1400 4 rfl rfl)
theorem dL_law_1406 : decode cL_law 1406 = .ok (.iload 4, 2) := dc_21 (sg_at zd_dL_law_1400 5 rfl rfl)
theorem dL_law_1408 : decode cL_law 1408 = .ok (.iconst 3, 1) := dc_6 (sg_at zd_dL_law_1400 6 rfl rfl)
theorem dL_law_1409 : decode cL_law 1409 = .ok (.iadd, 1) := dc_96 (sg_at zd_dL_law_1400 7 rfl rfl)
theorem zd_dL_law_1410 : sg (cL_law.data.toList.drop 1410) [[46], [182, 0, 164], [87], [44], [42], [21, 4], [4], [96]] = true := by decide +kernel
theorem dL_law_1410 : decode cL_law 1410 = .ok (.iaload, 1) := dc_46 (sg_at zd_dL_law_1410 0 rfl rfl)
theorem dL_law_1411 : decode cL_law 1411 = .ok (.invokevirtual 164, 3) := dc_182 (sg_at zd_dL_law_1410 1 rfl rfl) rfl
theorem dL_law_1414 : decode cL_law 1414 = .ok (.pop, 1) := dc_87 (sg_at zd_dL_law_1410 2 rfl rfl)
theorem dL_law_1415 : decode cL_law 1415 = .ok (.aload_n 2, 1) := dc_44 (sg_at zd_dL_law_1410 3 rfl rfl)
theorem dL_law_1416 : decode cL_law 1416 = .ok (.aload_n 0, 1) := dc_42 (sg_at zd_dL_law_1410 4 rfl rfl)
theorem dL_law_1417 : decode cL_law 1417 = .ok (.iload 4, 2) := dc_21 (sg_at zd_dL_law_1410 5 rfl rfl)
theorem dL_law_1419 : decode cL_law 1419 = .ok (.iconst 1, 1) := dc_4 (sg_at zd_dL_law_1410 6 rfl rfl)
theorem dL_law_1420 : decode cL_law 1420 = .ok (.iadd, 1) := dc_96 (sg_at zd_dL_law_1410 7 rfl rfl)
theorem zd_dL_law_1421 : sg (cL_law.data.toList.drop 1421) [[46], [42], [21, 4], [5], [96], [46], [42], [21, 4]] = true := by decide +kernel
theorem dL_law_1421 : decode cL_law 1421 = .ok (.iaload, 1) := dc_46 (sg_at zd_dL_law_1421 0 rfl rfl)
theorem dL_law_1422 : decode cL_law 1422 = .ok (.aload_n 0, 1) := dc_42 (sg_at zd_dL_law_1421 1 rfl rfl)
theorem dL_law_1423 : decode cL_law 1423 = .ok (.iload 4, 2) := dc_21 (sg_at zd_dL_law_1421 2 rfl rfl)
theorem dL_law_1425 : decode cL_law 1425 = .ok (.iconst 2, 1) := dc_5 (sg_at zd_dL_law_1421 3 rfl rfl)
theorem dL_law_1426 : decode cL_law 1426 = .ok (.iadd, 1) := dc_96 (sg_at zd_dL_law_1421 4 rfl rfl)
theorem dL_law_1427 : decode cL_law 1427 = .ok (.iaload, 1) := dc_46 (sg_at zd_dL_law_1421 5 rfl rfl)
theorem dL_law_1428 : decode cL_law 1428 = .ok (.aload_n 0, 1) := dc_42 (sg_at zd_dL_law_1421 6 rfl rfl)
theorem dL_law_1429 : decode cL_law 1429 = .ok (.iload 4, 2) := dc_21 (sg_at zd_dL_law_1421 7 rfl rfl)
theorem zd_dL_law_1431 : sg (cL_law.data.toList.drop 1431) [[6], [96], [46], [182, 0, 167], [87], [167, 0, 116], [43], [42]] = true := by decide +kernel
theorem dL_law_1431 : decode cL_law 1431 = .ok (.iconst 3, 1) := dc_6 (sg_at zd_dL_law_1431 0 rfl rfl)
theorem dL_law_1432 : decode cL_law 1432 = .ok (.iadd, 1) := dc_96 (sg_at zd_dL_law_1431 1 rfl rfl)
theorem dL_law_1433 : decode cL_law 1433 = .ok (.iaload, 1) := dc_46 (sg_at zd_dL_law_1431 2 rfl rfl)
theorem dL_law_1434 : decode cL_law 1434 = .ok (.invokevirtual 167, 3) := dc_182 (sg_at zd_dL_law_1431 3 rfl rfl) rfl
theorem dL_law_1437 : decode cL_law 1437 = .ok (.pop, 1) := dc_87 (sg_at zd_dL_law_1431 4 rfl rfl)
theorem dL_law_1438 : decode cL_law 1438 = .ok (.goto 116, 3) := dc_167 (sg_at zd_dL_law_1431 5 rfl rfl) rfl
theorem dL_law_1441 : decode cL_law 1441 = .ok (.aload_n 1, 1) := dc_43 (sg_at zd_dL_law_1431 6 rfl rfl)
theorem dL_law_1442 : decode cL_law 1442 = .ok (.aload_n 0, 1) := dc_42 (sg_at zd_dL_law_1431 7 rfl rfl)
theorem zd_dL_law_1443 : sg (cL_law.data.toList.drop 1443) [[21, 4], [4], [96], [46], [42], [21, 4], [5], [96]] = true := by decide +kernel
theorem dL_law_1443 : decode cL_law 1443 = .ok (.iload 4, 2) := dc_21 (sg_at zd_dL_law_1443 0 rfl rfl)
theorem dL_law_1445 : decode cL_law 1445 = .ok (.iconst 1, 1) := dc_4 (sg_at zd_dL_law_1443 1 rfl rfl)
theorem dL_law_1446 : decode cL_law 1446 = .ok (.iadd, 1) := dc_96 (sg_at zd_dL_law_1443 2 rfl rfl)
theorem dL_law_1447 : decode cL_law 1447 = .ok (.iaload, 1) := dc_46 (sg_at zd_dL_law_1443 3 rfl rfl)
theorem dL_law_1448 : decode cL_law 1448 = .ok (.aload_n 0, 1) := dc_42 (sg_at zd_dL_law_1443 4 rfl rfl)
theorem dL_law_1449 : decode cL_law 1449 = .ok (.iload 4, 2) := dc_21 (sg_at zd_dL_law_1443 5 rfl rfl)
theorem dL_law_1451 : decode cL_law 1451 = .ok (.iconst 2, 1) := dc_5 (sg_at zd_dL_law_1443 6 rfl rfl)
theorem dL_law_1452 : decode cL_law 1452 = .ok (.iadd, 1) := dc_96 (sg_at zd_dL_law_1443 7 rfl rfl)
theorem zd_dL_law_1453 : sg (cL_law.data.toList.drop 1453) [[46], [42], [21, 4], [6], [96], [46], [182, 0, 168], [87]] = true := by decide +kernel
theorem dL_law_1453 : decode cL_law 1453 = .ok (.iaload, 1) := dc_46 (sg_at zd_dL_law_1453 0 rfl rfl)
theorem dL_law_1454 : decode cL_law 1454 = .ok (.aload_n 0, 1) := dc_42 (sg_at zd_dL_law_1453 1 rfl rfl)
theorem dL_law_1455 : decode cL_law 1455 = .ok (.iload 4, 2) := dc_21 (sg_at zd_dL_law_1453 2 rfl rfl)
theorem dL_law_1457 : decode cL_law 1457 = .ok (.iconst 3, 1) := dc_6 (sg_at zd_dL_law_1453 3 rfl rfl)
theorem dL_law_1458 : decode cL_law 1458 = .ok (.iadd, 1) := dc_96 (sg_at zd_dL_law_1453 4 rfl rfl)
theorem dL_law_1459 : decode cL_law 1459 = .ok (.iaload, 1) := dc_46 (sg_at zd_dL_law_1453 5 rfl rfl)
theorem dL_law_1460 : decode cL_law 1460 = .ok (.invokevirtual 168, 3) := dc_182 (sg_at zd_dL_law_1453 6 rfl rfl) rfl
theorem dL_law_1463 : decode cL_law 1463 = .ok (.pop, 1) := dc_87 (sg_at zd_dL_law_1453 7 rfl rfl)
theorem zd_dL_law_1464 : sg (cL_law.data.toList.drop 1464) [[44], [42], [21, 4], [4], [96], [46], [42], [21, 4]] = true := by decide +kernel
theorem dL_law_1464 : decode cL_law 1464 = .ok (.aload_n 2, 1) := dc_44 (sg_at zd_dL_law_1464 0 rfl rfl)
theorem dL_law_1465 : decode cL_law 1465 = .ok (.aload_n 0, 1) := dc_42 (sg_at zd_dL_law_1464 1 rfl rfl)
theorem dL_law_1466 : decode cL_law 1466 = .ok (.iload 4, 2) := dc_21 (sg_at zd_dL_law_1464 2 rfl rfl)
theorem dL_law_1468 : decode cL_law 1468 = .ok (.iconst 1, 1) := dc_4 (sg_at zd_dL_law_1464 3 rfl rfl)
theorem dL_law_1469 : decode cL_law 1469 = .ok (.iadd, 1) := dc_96 (sg_at zd_dL_law_1464 4 rfl rfl)
theorem dL_law_1470 : decode cL_law 1470 = .ok (.iaload, 1) := dc_46 (sg_at zd_dL_law_1464 5 rfl rfl)
theorem dL_law_1471 : decode cL_law 1471 = .ok (.aload_n 0, 1) := dc_42 (sg_at zd_dL_law_1464 6 rfl rfl)
theorem dL_law_1472 : decode cL_law 1472 = .ok (.iload 4, 2) := dc_21 (sg_at zd_dL_law_1464 7 rfl rfl)
theorem zd_dL_law_1474 : sg (cL_law.data.toList.drop 1474) [[5], [96], [46], [42], [21, 4], [6], [96], [46]] = true := by decide +kernel
theorem dL_law_1474 : decode cL_law 1474 = .ok (.iconst 2, 1) := dc_5 (sg_at zd_dL_law_1474 0 rfl rfl)
theorem dL_law_1475 : decode cL_law 1475 = .ok (.iadd, 1) := dc_96 (sg_at zd_dL_law_1474 1 rfl rfl)
theorem dL_law_1476 : decode cL_law 1476 = .ok (.iaload, 1) := dc_46 (sg_at zd_dL_law_1474 2 rfl rfl)
theorem dL_law_1477 : decode cL_law 1477 = .ok (.aload_n 0, 1) := dc_42 (sg_at zd_dL_law_1474 3 rfl rfl)
theorem dL_law_1478 : decode cL_law 1478 = .ok (.iload 4, 2) := dc_21 (sg_at zd_dL_law_1474 4 rfl rfl)
theorem dL_law_1480 : decode cL_law 1480 = .ok (.iconst 3, 1) := dc_6 (sg_at zd_dL_law_1474 5 rfl rfl)
theorem dL_law_1481 : decode cL_law 1481 = .ok (.iadd, 1) := dc_96 (sg_at zd_dL_law_1474 6 rfl rfl)
theorem dL_law_1482 : decode cL_law 1482 = .ok (.iaload, 1) := dc_46 (sg_at zd_dL_law_1474 7 rfl rfl)
theorem zd_dL_law_1483 : sg (cL_law.data.toList.drop 1483) [[182, 0, 171], [87], [167, 0, 67], [43], [182, 0, 172], [87], [44], [182, 0, 175]] = true := by decide +kernel
theorem dL_law_1483 : decode cL_law 1483 = .ok (.invokevirtual 171, 3) := dc_182 (sg_at zd_dL_law_1483 0 rfl rfl) rfl
theorem dL_law_1486 : decode cL_law 1486 = .ok (.pop, 1) := dc_87 (sg_at zd_dL_law_1483 1 rfl rfl)
theorem dL_law_1487 : decode cL_law 1487 = .ok (.goto 67, 3) := dc_167 (sg_at zd_dL_law_1483 2 rfl rfl) rfl
theorem dL_law_1490 : decode cL_law 1490 = .ok (.aload_n 1, 1) := dc_43 (sg_at zd_dL_law_1483 3 rfl rfl)
theorem dL_law_1491 : decode cL_law 1491 = .ok (.invokevirtual 172, 3) := dc_182 (sg_at zd_dL_law_1483 4 rfl rfl) rfl
theorem dL_law_1494 : decode cL_law 1494 = .ok (.pop, 1) := dc_87 (sg_at zd_dL_law_1483 5 rfl rfl)
theorem dL_law_1495 : decode cL_law 1495 = .ok (.aload_n 2, 1) := dc_44 (sg_at zd_dL_law_1483 6 rfl rfl)
theorem dL_law_1496 : decode cL_law 1496 = .ok (.invokevirtual 175, 3) := dc_182 (sg_at zd_dL_law_1483 7 rfl rfl) rfl
theorem zd_dL_law_1499 : sg (cL_law.data.toList.drop 1499) [[87], [167, 0, 54], [43], [182, 0, 176], [87], [44], [182, 0, 179], [87]] = true := by decide +kernel
theorem dL_law_1499 : decode cL_law 1499 = .ok (.pop, 1) := dc_87 (sg_at zd_dL_law_1499 0 rfl rfl)
theorem dL_law_1500 : decode cL_law 1500 = .ok (.goto 54, 3) := dc_167 (sg_at zd_dL_law_1499 1 rfl rfl) rfl
theorem dL_law_1503 : decode cL_law 1503 = .ok (.aload_n 1, 1) := dc_43 (sg_at zd_dL_law_1499 2 rfl rfl)
theorem dL_law_1504 : decode cL_law 1504 = .ok (.invokevirtual 176, 3) := dc_182 (sg_at zd_dL_law_1499 3 rfl rfl) rfl
theorem dL_law_1507 : decode cL_law 1507 = .ok (.pop, 1) := dc_87 (sg_at zd_dL_law_1499 4 rfl rfl)
theorem dL_law_1508 : decode cL_law 1508 = .ok (.aload_n 2, 1) := dc_44 (sg_at zd_dL_law_1499 5 rfl rfl)
theorem dL_law_1509 : decode cL_law 1509 = .ok (.invokevirtual 179, 3) := dc_182 (sg_at zd_dL_law_1499 6 rfl rfl) rfl
theorem dL_law_1512 : decode cL_law 1512 = .ok (.pop, 1) := dc_87 (sg_at zd_dL_law_1499 7 rfl rfl)
theorem zd_dL_law_1513 : sg (cL_law.data.toList.drop 1513) [[167, 0, 41], [43], [182, 0, 180], [87], [44], [182, 0, 183], [87], [167, 0, 28]] = true := by decide +kernel
theorem dL_law_1513 : decode cL_law 1513 = .ok (.goto 41, 3) := dc_167 (sg_at zd_dL_law_1513 0 rfl rfl) rfl
theorem dL_law_1516 : decode cL_law 1516 = .ok (.aload_n 1, 1) := dc_43 (sg_at zd_dL_law_1513 1 rfl rfl)
theorem dL_law_1517 : decode cL_law 1517 = .ok (.invokevirtual 180, 3) := dc_182 (sg_at zd_dL_law_1513 2 rfl rfl) rfl
theorem dL_law_1520 : decode cL_law 1520 = .ok (.pop, 1) := dc_87 (sg_at zd_dL_law_1513 3 rfl rfl)
theorem dL_law_1521 : decode cL_law 1521 = .ok (.aload_n 2, 1) := dc_44 (sg_at zd_dL_law_1513 4 rfl rfl)
theorem dL_law_1522 : decode cL_law 1522 = .ok (.invokevirtual 183, 3) := dc_182 (sg_at zd_dL_law_1513 5 rfl rfl) rfl
theorem dL_law_1525 : decode cL_law 1525 = .ok (.pop, 1) := dc_87 (sg_at zd_dL_law_1513 6 rfl rfl)
theorem dL_law_1526 : decode cL_law 1526 = .ok (.goto 28, 3) := dc_167 (sg_at zd_dL_law_1513 7 rfl rfl) rfl
theorem zd_dL_law_1529 : sg (cL_law.data.toList.drop 1529) [[43], [42], [21, 4], [4], [96], [46], [182, 0, 184], [87]] = true := by decide +kernel
theorem dL_law_1529 : decode cL_law 1529 = .ok (.aload_n 1, 1) := dc_43 (sg_at zd_dL_law_1529 0 rfl rfl)
theorem dL_law_1530 : decode cL_law 1530 = .ok (.aload_n 0, 1) := dc_42 (sg_at zd_dL_law_1529 1 rfl rfl)
theorem dL_law_1531 : decode cL_law 1531 = .ok (.iload 4, 2) := dc_21 (sg_at zd_dL_law_1529 2 rfl rfl)
theorem dL_law_1533 : decode cL_law 1533 = .ok (.iconst 1, 1) := dc_4 (sg_at zd_dL_law_1529 3 rfl rfl)
theorem dL_law_1534 : decode cL_law 1534 = .ok (.iadd, 1) := dc_96 (sg_at zd_dL_law_1529 4 rfl rfl)
theorem dL_law_1535 : decode cL_law 1535 = .ok (.iaload, 1) := dc_46 (sg_at zd_dL_law_1529 5 rfl rfl)
theorem dL_law_1536 : decode cL_law 1536 = .ok (.invokevirtual 184, 3) := dc_182 (sg_at zd_dL_law_1529 6 rfl rfl) rfl
theorem dL_law_1539 : decode cL_law 1539 = .ok (.pop, 1) := dc_87 (sg_at zd_dL_law_1529 7 rfl rfl)
theorem zd_dL_law_1540 : sg (cL_law.data.toList.drop 1540) [[44], [42], [21, 4], [4], [96], [46], [182, 0, 187], [87]] = true := by decide +kernel
theorem dL_law_1540 : decode cL_law 1540 = .ok (.aload_n 2, 1) := dc_44 (sg_at zd_dL_law_1540 0 rfl rfl)
theorem dL_law_1541 : decode cL_law 1541 = .ok (.aload_n 0, 1) := dc_42 (sg_at zd_dL_law_1540 1 rfl rfl)
theorem dL_law_1542 : decode cL_law 1542 = .ok (.iload 4, 2) := dc_21 (sg_at zd_dL_law_1540 2 rfl rfl)
theorem dL_law_1544 : decode cL_law 1544 = .ok (.iconst 1, 1) := dc_4 (sg_at zd_dL_law_1540 3 rfl rfl)
theorem dL_law_1545 : decode cL_law 1545 = .ok (.iadd, 1) := dc_96 (sg_at zd_dL_law_1540 4 rfl rfl)
theorem dL_law_1546 : decode cL_law 1546 = .ok (.iaload, 1) := dc_46 (sg_at zd_dL_law_1540 5 rfl rfl)
theorem dL_law_1547 : decode cL_law 1547 = .ok (.invokevirtual 187, 3) := dc_182 (sg_at zd_dL_law_1540 6 rfl rfl) rfl
theorem dL_law_1550 : decode cL_law 1550 = .ok (.pop, 1) := dc_87 (sg_at zd_dL_law_1540 7 rfl rfl)
theorem zd_dL_law_1551 : sg (cL_law.data.toList.drop 1551) [[167, 0, 3], [132, 4, 6], [167, 250, 2], [4], [172]] = true := by decide +kernel
theorem dL_law_1551 : decode cL_law 1551 = .ok (.goto 3, 3) := dc_167 (sg_at zd_dL_law_1551 0 rfl rfl) rfl
theorem dL_law_1554 : decode cL_law 1554 = .ok (.iinc 4 6, 3) := dc_132 (sg_at zd_dL_law_1551 1 rfl rfl) rfl
theorem dL_law_1557 : decode cL_law 1557 = .ok (.goto (-1534), 3) := dc_167 (sg_at zd_dL_law_1551 2 rfl rfl) rfl
theorem dL_law_1560 : decode cL_law 1560 = .ok (.iconst 1, 1) := dc_4 (sg_at zd_dL_law_1551 3 rfl rfl)
theorem dL_law_1561 : decode cL_law 1561 = .ok (.ireturn, 1) := dc_172 (sg_at zd_dL_law_1551 4 rfl rfl)
/-! The cases of the law, but look. -/
theorem cmp_self (a : Int64) : lg_cmp a a = 0 := by unfold lg_cmp; simp
/-- the place of out -/
def wO (f : Nat → Int64) : PH := [.inl (3, 1, .inr (.inl f))]
/-- the three worlds between two calls -/
def LW (D : va_G) (cy : Nat → ClassId) (hx hm : PH) (f : Nat → Int64) (s : State) (H : Heap) (locs : List Loc) : Prop := LM D cy s.heap.size 110 hx s H locs ∧ LM D cy (s.heap.size + 110) 43 hm s H locs ∧ LM D cy (s.heap.size + 153) 1 (wO f) s H locs ∧ LRl hx hm
/-- the locals between two calls -/
def LV (b : Nat) (s : State) (i : Int32) : List (Nat × Value) := [(0, .ref b), (1, .ref (s.heap.size + 0)), (2, .ref (s.heap.size + 110 + 0)), (3, .ref (s.heap.size + 153 + 0)), (4, .int i)]
def IN (i : Int32) (L : Nat) : Prop := vp_in i L ∧ vp_in (i + 1) L ∧ vp_in (i + 2) L ∧ vp_in (i + 3) L ∧ vp_in (i + 4) L ∧ vp_in (i + 5) L
theorem gL_11_feed : GoodIn lw_tbl (wsV RL 21 RX11 yX11_feed vX11_feed) := gV_law wT_13_4 wT_13_5 wT_13_6 wT_1_2 wT_13_7
theorem cdL_11_feed : Cd yX11_feed 5 := ⟨by decide, by decide, by decide +kernel⟩
theorem gL_12_feed : GoodIn lw_tbl (wsV RL 25 RX12 yX12_feed vX12_feed) := gV_law wT_13_13 wT_13_14 wT_13_15 wT_1_5 wT_13_16
theorem cdL_12_feed : Cd yX12_feed 5 := ⟨by decide, by decide, by decide +kernel⟩
theorem gL_11_text : GoodIn lw_tbl (wsV RL 26 RX11 yX11_text vX11_text) := gV_law wT_13_19 wT_13_20 wT_13_21 wT_1_2 wT_13_22
theorem cdL_11_text : Cd yX11_text 1 := ⟨by decide, by decide, by decide +kernel⟩
theorem gL_12_text : GoodIn lw_tbl (wsV RL 30 RX12 yX12_text vX12_text) := gV_law wT_26_13 wT_26_14 wT_26_15 wT_1_5 wT_26_16
theorem cdL_12_text : Cd yX12_text 1 := ⟨by decide, by decide, by decide +kernel⟩
theorem gL_11_fault : GoodIn lw_tbl (wsV RL 31 RX11 yX11_fault vX11_fault) := gV_law wT_32_0 wT_32_1 wT_32_2 wT_1_2 wT_32_3
theorem cdL_11_fault : Cd yX11_fault 1 := ⟨by decide, by decide, by decide +kernel⟩
theorem gL_12_fault : GoodIn lw_tbl (wsV RL 34 RX12 yX12_fault vX12_fault) := gV_law wT_32_6 wT_32_7 wT_32_8 wT_1_5 wT_32_9
theorem cdL_12_fault : Cd yX12_fault 1 := ⟨by decide, by decide, by decide +kernel⟩
theorem gL_11_named : GoodIn lw_tbl (wsV RL 35 RX11 yX11_named vX11_named) := gV_law wT_32_10 wT_32_11 wT_32_12 wT_1_2 wT_32_13
theorem cdL_11_named : Cd yX11_named 1 := ⟨by decide, by decide, by decide +kernel⟩
theorem gL_12_named : GoodIn lw_tbl (wsV RL 38 RX12 yX12_named vX12_named) := gV_law wT_32_17 wT_32_18 wT_32_19 wT_1_5 wT_32_20
theorem cdL_12_named : Cd yX12_named 1 := ⟨by decide, by decide, by decide +kernel⟩
theorem gL_11_wave : GoodIn lw_tbl (wsV RL 49 RX11 yX11_wave vX11_wave) := gV_law wT_36_16 wT_36_17 wT_36_18 wT_1_2 wT_36_19
theorem cdL_11_wave : Cd yX11_wave 2 := ⟨by decide, by decide, by decide +kernel⟩
theorem gL_12_wave : GoodIn lw_tbl (wsV RL 52 RX12 yX12_wave vX12_wave) := gV_law wT_37_7 wT_37_8 wT_37_9 wT_1_5 wT_37_10
theorem cdL_12_wave : Cd yX12_wave 2 := ⟨by decide, by decide, by decide +kernel⟩
theorem gL_11_peak : GoodIn lw_tbl (wsV RL 53 RX11 yX11_peak vX11_peak) := gV_law wT_37_15 wT_37_16 wT_37_17 wT_1_2 wT_37_18
theorem cdL_11_peak : Cd yX11_peak 1 := ⟨by decide, by decide, by decide +kernel⟩
theorem gL_12_peak : GoodIn lw_tbl (wsV RL 56 RX12 yX12_peak vX12_peak) := gV_law wT_37_21 wT_37_22 wT_37_23 wT_1_5 wT_38_0
theorem cdL_12_peak : Cd yX12_peak 1 := ⟨by decide, by decide, by decide +kernel⟩
theorem gL_11_odds : GoodIn lw_tbl (wsV RL 57 RX11 yX11_odds vX11_odds) := gV_law wT_38_1 wT_38_2 wT_38_3 wT_1_2 wT_38_4
theorem cdL_11_odds : Cd yX11_odds 3 := ⟨by decide, by decide, by decide +kernel⟩
theorem gL_12_odds : GoodIn lw_tbl (wsV RL 61 RX12 yX12_odds vX12_odds) := gV_law wT_39_17 wT_39_18 wT_39_19 wT_1_5 wT_39_20
theorem cdL_12_odds : Cd yX12_odds 3 := ⟨by decide, by decide, by decide +kernel⟩
theorem gL_11_law : GoodIn lw_tbl (wsV RL 62 RX11 yX11_law vX11_law) := gV_law wT_40_17 wT_40_18 wT_40_19 wT_1_2 wT_40_20
theorem cdL_11_law : Cd yX11_law 3 := ⟨by decide, by decide, by decide +kernel⟩
theorem gL_12_law : GoodIn lw_tbl (wsV RL 66 RX12 yX12_law vX12_law) := gV_law wT_41_7 wT_41_8 wT_41_9 wT_1_5 wT_41_10
theorem cdL_12_law : Cd yX12_law 3 := ⟨by decide, by decide, by decide +kernel⟩
theorem gL_11_stroke : GoodIn lw_tbl (wsV RL 67 RX11 yX11_stroke vX11_stroke) := gV_law wT_41_12 wT_41_13 wT_41_14 wT_1_2 wT_41_15
theorem cdL_11_stroke : Cd yX11_stroke 2 := ⟨by decide, by decide, by decide +kernel⟩
theorem gL_12_stroke : GoodIn lw_tbl (wsV RL 70 RX12 yX12_stroke vX12_stroke) := gV_law wT_42_11 wT_42_12 wT_42_13 wT_1_5 wT_42_14
theorem cdL_12_stroke : Cd yX12_stroke 2 := ⟨by decide, by decide, by decide +kernel⟩
theorem gL_11_rule : GoodIn lw_tbl (wsV RL 71 RX11 yX11_rule vX11_rule) := gV_law wT_42_23 wT_43_0 wT_43_1 wT_1_2 wT_43_2
theorem cdL_11_rule : Cd yX11_rule 1 := ⟨by decide, by decide, by decide +kernel⟩
theorem gL_12_rule : GoodIn lw_tbl (wsV RL 75 RX12 yX12_rule vX12_rule) := gV_law wT_43_8 wT_43_9 wT_43_10 wT_1_5 wT_43_11
theorem cdL_12_rule : Cd yX12_rule 1 := ⟨by decide, by decide, by decide +kernel⟩
theorem gL_11_minutes : GoodIn lw_tbl (wsV RL 76 RX11 yX11_minutes vX11_minutes) := gV_law wT_43_12 wT_43_13 wT_43_14 wT_1_2 wT_43_15
theorem cdL_11_minutes : Cd yX11_minutes 1 := ⟨by decide, by decide, by decide +kernel⟩
theorem gL_12_minutes : GoodIn lw_tbl (wsV RL 79 RX12 yX12_minutes vX12_minutes) := gV_law wT_46_13 wT_46_14 wT_46_15 wT_1_5 wT_46_16
theorem cdL_12_minutes : Cd yX12_minutes 1 := ⟨by decide, by decide, by decide +kernel⟩
theorem gL_11_order : GoodIn lw_tbl (wsV RL 80 RX11 yX11_order vX11_order) := gV_law wT_48_7 wT_48_8 wT_48_9 wT_1_2 wT_48_10
theorem cdL_11_order : Cd yX11_order 2 := ⟨by decide, by decide, by decide +kernel⟩
theorem gL_12_order : GoodIn lw_tbl (wsV RL 83 RX12 yX12_order vX12_order) := gV_law wT_48_17 wT_48_18 wT_48_19 wT_1_5 wT_48_20
theorem cdL_12_order : Cd yX12_order 2 := ⟨by decide, by decide, by decide +kernel⟩
theorem gL_11_deeper : GoodIn lw_tbl (wsV RL 84 RX11 yX11_deeper vX11_deeper) := gV_law wT_49_1 wT_49_2 wT_49_3 wT_1_2 wT_49_4
theorem cdL_11_deeper : Cd yX11_deeper 2 := ⟨by decide, by decide, by decide +kernel⟩
theorem gL_12_deeper : GoodIn lw_tbl (wsV RL 87 RX12 yX12_deeper vX12_deeper) := gV_law wT_49_5 wT_49_6 wT_49_7 wT_1_5 wT_49_8
theorem cdL_12_deeper : Cd yX12_deeper 2 := ⟨by decide, by decide, by decide +kernel⟩
theorem gL_11_seat : GoodIn lw_tbl (wsV RL 88 RX11 yX11_seat vX11_seat) := gV_law wT_49_9 wT_49_10 wT_49_11 wT_1_2 wT_49_12
theorem cdL_11_seat : Cd yX11_seat 2 := ⟨by decide, by decide, by decide +kernel⟩
theorem gL_12_seat : GoodIn lw_tbl (wsV RL 91 RX12 yX12_seat vX12_seat) := gV_law wT_50_1 wT_50_2 wT_50_3 wT_1_5 wT_50_4
theorem cdL_12_seat : Cd yX12_seat 2 := ⟨by decide, by decide, by decide +kernel⟩
theorem gL_11_best : GoodIn lw_tbl (wsV RL 92 RX11 yX11_best vX11_best) := gV_law wT_50_13 wT_50_14 wT_50_15 wT_1_2 wT_50_16
theorem cdL_11_best : Cd yX11_best 1 := ⟨by decide, by decide, by decide +kernel⟩
theorem gL_12_best : GoodIn lw_tbl (wsV RL 95 RX12 yX12_best vX12_best) := gV_law wT_50_17 wT_50_18 wT_50_19 wT_1_5 wT_50_20
theorem cdL_12_best : Cd yX12_best 1 := ⟨by decide, by decide, by decide +kernel⟩
theorem gL_11_rests : GoodIn lw_tbl (wsV RL 96 RX11 yX11_rests vX11_rests) := gV_law wT_50_21 wT_50_22 wT_50_23 wT_1_2 wT_51_0
theorem cdL_11_rests : Cd yX11_rests 2 := ⟨by decide, by decide, by decide +kernel⟩
theorem gL_12_rests : GoodIn lw_tbl (wsV RL 99 RX12 yX12_rests vX12_rests) := gV_law wT_52_8 wT_52_9 wT_52_10 wT_1_5 wT_52_11
theorem cdL_12_rests : Cd yX12_rests 2 := ⟨by decide, by decide, by decide +kernel⟩
theorem gL_11_rest : GoodIn lw_tbl (wsV RL 100 RX11 yX11_rest vX11_rest) := gV_law wT_53_7 wT_53_8 wT_53_9 wT_1_2 wT_53_10
theorem cdL_11_rest : Cd yX11_rest 3 := ⟨by decide, by decide, by decide +kernel⟩
theorem gL_12_rest : GoodIn lw_tbl (wsV RL 103 RX12 yX12_rest vX12_rest) := gV_law wT_53_12 wT_53_13 wT_53_14 wT_1_5 wT_53_15
theorem cdL_12_rest : Cd yX12_rest 3 := ⟨by decide, by decide, by decide +kernel⟩
theorem gL_11_rank : GoodIn lw_tbl (wsV RL 104 RX11 yX11_rank vX11_rank) := gV_law wT_53_16 wT_53_17 wT_53_18 wT_1_2 wT_53_19
theorem cdL_11_rank : Cd yX11_rank 2 := ⟨by decide, by decide, by decide +kernel⟩
theorem gL_12_rank_ : GoodIn lw_tbl (wsV RL 107 RX12 yX12_rank_ vX12_rank_) := gV_law wT_54_5 wT_54_6 wT_54_7 wT_1_5 wT_54_8
theorem cdL_12_rank_ : Cd yX12_rank_ 2 := ⟨by decide, by decide, by decide +kernel⟩
theorem gL_11_plan : GoodIn lw_tbl (wsV RL 108 RX11 yX11_plan vX11_plan) := gV_law wT_54_13 wT_54_14 wT_54_15 wT_1_2 wT_54_16
theorem cdL_11_plan : Cd yX11_plan 1 := ⟨by decide, by decide, by decide +kernel⟩
theorem gL_12_plan : GoodIn lw_tbl (wsV RL 111 RX12 yX12_plan vX12_plan) := gV_law wT_55_7 wT_55_8 wT_55_9 wT_1_5 wT_55_10
theorem cdL_12_plan : Cd yX12_plan 1 := ⟨by decide, by decide, by decide +kernel⟩
theorem gL_11_planned : GoodIn lw_tbl (wsV RL 112 RX11 yX11_planned vX11_planned) := gV_law wT_55_19 wT_55_20 wT_55_21 wT_1_2 wT_55_22
theorem cdL_11_planned : Cd yX11_planned 2 := ⟨by decide, by decide, by decide +kernel⟩
theorem gL_12_planned : GoodIn lw_tbl (wsV RL 115 RX12 yX12_planned vX12_planned) := gV_law wT_56_1 wT_56_2 wT_56_3 wT_1_5 wT_56_4
theorem cdL_12_planned : Cd yX12_planned 2 := ⟨by decide, by decide, by decide +kernel⟩
theorem gL_11_go : GoodIn lw_tbl (wsV RL 116 RX11 yX11_go vX11_go) := gV_law wT_56_5 wT_56_6 wT_56_7 wT_1_2 wT_56_8
theorem cdL_11_go : Cd yX11_go 3 := ⟨by decide, by decide, by decide +kernel⟩
theorem gL_12_go : GoodIn lw_tbl (wsV RL 119 RX12 yX12_go vX12_go) := gV_law wT_56_15 wT_56_16 wT_56_17 wT_1_5 wT_56_18
theorem cdL_12_go : Cd yX12_go 3 := ⟨by decide, by decide, by decide +kernel⟩
theorem gL_11_give : GoodIn lw_tbl (wsV RL 120 RX11 yX11_give vX11_give) := gV_law wT_56_19 wT_56_20 wT_56_21 wT_1_2 wT_56_22
theorem cdL_11_give : Cd yX11_give 3 := ⟨by decide, by decide, by decide +kernel⟩
theorem gL_12_give : GoodIn lw_tbl (wsV RL 123 RX12 yX12_give vX12_give) := gV_law wT_57_0 wT_57_1 wT_57_2 wT_1_5 wT_57_3
theorem cdL_12_give : Cd yX12_give 3 := ⟨by decide, by decide, by decide +kernel⟩
theorem gL_11_table : GoodIn lw_tbl (wsV RL 124 RX11 yX11_table vX11_table) := gV_law wT_57_4 wT_57_5 wT_57_6 wT_1_2 wT_57_7
theorem cdL_11_table : Cd yX11_table 3 := ⟨by decide, by decide, by decide +kernel⟩
theorem gL_12_table : GoodIn lw_tbl (wsV RL 127 RX12 yX12_table vX12_table) := gV_law wT_58_5 wT_58_6 wT_58_7 wT_1_5 wT_58_8
theorem cdL_12_table : Cd yX12_table 3 := ⟨by decide, by decide, by decide +kernel⟩
theorem gL_11_fairest : GoodIn lw_tbl (wsV RL 128 RX11 yX11_fairest vX11_fairest) := gV_law wT_59_1 wT_59_2 wT_59_3 wT_1_2 wT_59_4
theorem cdL_11_fairest : Cd yX11_fairest 1 := ⟨by decide, by decide, by decide +kernel⟩
theorem gL_12_fairest : GoodIn lw_tbl (wsV RL 131 RX12 yX12_fairest vX12_fairest) := gV_law wT_59_5 wT_59_6 wT_59_7 wT_1_5 wT_59_8
theorem cdL_12_fairest : Cd yX12_fairest 1 := ⟨by decide, by decide, by decide +kernel⟩
theorem gL_11_over : GoodIn lw_tbl (wsV RL 132 RX11 yX11_over vX11_over) := gV_law wT_59_9 wT_59_10 wT_59_11 wT_1_2 wT_59_12
theorem cdL_11_over : Cd yX11_over 1 := ⟨by decide, by decide, by decide +kernel⟩
theorem gL_12_over : GoodIn lw_tbl (wsV RL 135 RX12 yX12_over vX12_over) := gV_law wT_59_19 wT_59_20 wT_59_21 wT_1_5 wT_59_22
theorem cdL_12_over : Cd yX12_over 1 := ⟨by decide, by decide, by decide +kernel⟩
theorem gL_11_next : GoodIn lw_tbl (wsV RL 136 RX11 yX11_next vX11_next) := gV_law wT_59_23 wT_60_0 wT_60_1 wT_1_2 wT_60_2
theorem cdL_11_next : Cd yX11_next 0 := ⟨by decide, by decide, by decide +kernel⟩
theorem gL_12_next : GoodIn lw_tbl (wsV RL 139 RX12 yX12_next vX12_next) := gV_law wT_60_8 wT_60_9 wT_60_10 wT_1_5 wT_60_11
theorem cdL_12_next : Cd yX12_next 0 := ⟨by decide, by decide, by decide +kernel⟩
theorem gL_11_gaps : GoodIn lw_tbl (wsV RL 140 RX11 yX11_gaps vX11_gaps) := gV_law wT_60_12 wT_60_13 wT_60_14 wT_1_2 wT_60_15
theorem cdL_11_gaps : Cd yX11_gaps 2 := ⟨by decide, by decide, by decide +kernel⟩
theorem gL_12_gaps : GoodIn lw_tbl (wsV RL 143 RX12 yX12_gaps vX12_gaps) := gV_law wT_60_17 wT_60_18 wT_60_19 wT_1_5 wT_60_20
theorem cdL_12_gaps : Cd yX12_gaps 2 := ⟨by decide, by decide, by decide +kernel⟩
theorem gL_11_shares : GoodIn lw_tbl (wsV RL 144 RX11 yX11_shares vX11_shares) := gV_law wT_60_21 wT_60_22 wT_60_23 wT_1_2 wT_61_0
theorem cdL_11_shares : Cd yX11_shares 1 := ⟨by decide, by decide, by decide +kernel⟩
theorem gL_12_shares : GoodIn lw_tbl (wsV RL 147 RX12 yX12_shares vX12_shares) := gV_law wT_61_5 wT_61_6 wT_61_7 wT_1_5 wT_61_8
theorem cdL_12_shares : Cd yX12_shares 1 := ⟨by decide, by decide, by decide +kernel⟩
theorem gL_11_note : GoodIn lw_tbl (wsV RL 148 RX11 yX11_note vX11_note) := gV_law wT_61_13 wT_61_14 wT_61_15 wT_1_2 wT_61_16
theorem cdL_11_note : Cd yX11_note 3 := ⟨by decide, by decide, by decide +kernel⟩
theorem gL_12_note : GoodIn lw_tbl (wsV RL 151 RX12 yX12_note vX12_note) := gV_law wT_61_22 wT_61_23 wT_62_0 wT_1_5 wT_62_1
theorem cdL_12_note : Cd yX12_note 3 := ⟨by decide, by decide, by decide +kernel⟩
theorem gL_11_strike : GoodIn lw_tbl (wsV RL 152 RX11 yX11_strike vX11_strike) := gV_law wT_62_6 wT_62_7 wT_62_8 wT_1_2 wT_62_9
theorem cdL_11_strike : Cd yX11_strike 1 := ⟨by decide, by decide, by decide +kernel⟩
theorem gL_12_strike : GoodIn lw_tbl (wsV RL 155 RX12 yX12_strike vX12_strike) := gV_law wT_62_14 wT_62_15 wT_62_16 wT_1_5 wT_62_17
theorem cdL_12_strike : Cd yX12_strike 1 := ⟨by decide, by decide, by decide +kernel⟩
theorem gL_11_known : GoodIn lw_tbl (wsV RL 156 RX11 yX11_known vX11_known) := gV_law wT_62_18 wT_62_19 wT_62_20 wT_1_2 wT_62_21
theorem cdL_11_known : Cd yX11_known 1 := ⟨by decide, by decide, by decide +kernel⟩
theorem gL_12_known : GoodIn lw_tbl (wsV RL 159 RX12 yX12_known vX12_known) := gV_law wT_62_22 wT_62_23 wT_63_0 wT_1_5 wT_63_1
theorem cdL_12_known : Cd yX12_known 1 := ⟨by decide, by decide, by decide +kernel⟩
theorem gL_11_locals : GoodIn lw_tbl (wsV RL 160 RX11 yX11_locals vX11_locals) := gV_law wT_63_2 wT_63_3 wT_63_4 wT_1_2 wT_63_5
theorem cdL_11_locals : Cd yX11_locals 1 := ⟨by decide, by decide, by decide +kernel⟩
theorem gL_12_locals : GoodIn lw_tbl (wsV RL 163 RX12 yX12_locals vX12_locals) := gV_law wT_64_0 wT_64_1 wT_64_2 wT_1_5 wT_64_3
theorem cdL_12_locals : Cd yX12_locals 1 := ⟨by decide, by decide, by decide +kernel⟩
theorem gL_11_chance : GoodIn lw_tbl (wsV RL 164 RX11 yX11_chance vX11_chance) := gV_law wT_64_12 wT_64_13 wT_64_14 wT_1_2 wT_64_15
theorem cdL_11_chance : Cd yX11_chance 3 := ⟨by decide, by decide, by decide +kernel⟩
theorem gL_12_chance : GoodIn lw_tbl (wsV RL 167 RX12 yX12_chance vX12_chance) := gV_law wT_64_17 wT_64_18 wT_64_19 wT_1_5 wT_64_20
theorem cdL_12_chance : Cd yX12_chance 3 := ⟨by decide, by decide, by decide +kernel⟩
theorem gL_11_tried : GoodIn lw_tbl (wsV RL 168 RX11 yX11_tried vX11_tried) := gV_law wT_64_21 wT_64_22 wT_64_23 wT_1_2 wT_65_0
theorem cdL_11_tried : Cd yX11_tried 3 := ⟨by decide, by decide, by decide +kernel⟩
theorem gL_12_tried : GoodIn lw_tbl (wsV RL 171 RX12 yX12_tried vX12_tried) := gV_law wT_66_6 wT_66_7 wT_66_8 wT_1_5 wT_66_9
theorem cdL_12_tried : Cd yX12_tried 3 := ⟨by decide, by decide, by decide +kernel⟩
theorem gL_11_undo : GoodIn lw_tbl (wsV RL 172 RX11 yX11_undo vX11_undo) := gV_law wT_66_10 wT_66_11 wT_66_12 wT_1_2 wT_66_13
theorem cdL_11_undo : Cd yX11_undo 0 := ⟨by decide, by decide, by decide +kernel⟩
theorem gL_12_undo : GoodIn lw_tbl (wsV RL 175 RX12 yX12_undo vX12_undo) := gV_law wT_66_16 wT_66_17 wT_66_18 wT_1_5 wT_66_19
theorem cdL_12_undo : Cd yX12_undo 0 := ⟨by decide, by decide, by decide +kernel⟩
theorem gL_11_keep : GoodIn lw_tbl (wsV RL 176 RX11 yX11_keep vX11_keep) := gV_law wT_66_20 wT_66_21 wT_66_22 wT_1_2 wT_66_23
theorem cdL_11_keep : Cd yX11_keep 0 := ⟨by decide, by decide, by decide +kernel⟩
theorem gL_12_keep : GoodIn lw_tbl (wsV RL 179 RX12 yX12_keep vX12_keep) := gV_law wT_67_1 wT_67_2 wT_67_3 wT_1_5 wT_67_4
theorem cdL_12_keep : Cd yX12_keep 0 := ⟨by decide, by decide, by decide +kernel⟩
theorem gL_11_back : GoodIn lw_tbl (wsV RL 180 RX11 yX11_back vX11_back) := gV_law wT_67_10 wT_67_11 wT_67_12 wT_1_2 wT_67_13
theorem cdL_11_back : Cd yX11_back 0 := ⟨by decide, by decide, by decide +kernel⟩
theorem gL_12_back : GoodIn lw_tbl (wsV RL 183 RX12 yX12_back vX12_back) := gV_law wT_67_14 wT_67_15 wT_67_16 wT_1_5 wT_67_17
theorem cdL_12_back : Cd yX12_back 0 := ⟨by decide, by decide, by decide +kernel⟩
theorem gL_11_count : GoodIn lw_tbl (wsV RL 184 RX11 yX11_count vX11_count) := gV_law wT_67_18 wT_67_19 wT_67_20 wT_1_2 wT_67_21
theorem cdL_11_count : Cd yX11_count 1 := ⟨by decide, by decide, by decide +kernel⟩
theorem gL_12_count : GoodIn lw_tbl (wsV RL 187 RX12 yX12_count vX12_count) := gV_law wT_68_0 wT_68_1 wT_68_2 wT_1_5 wT_68_3
theorem cdL_12_count : Cd yX12_count 1 := ⟨by decide, by decide, by decide +kernel⟩
section LC
variable {p : Program} {l : Launch} {e : Env} {s : State} {m : MethodId} {below : List Frame} {meth : Method} {c : Code} {b L : Nat} {xs : Nat → Int32} {D : va_G} {cy : Nat → ClassId} {H : Heap} {locs : List Loc} {ls : Array Slot}
set_option maxHeartbeats 1000000 in
theorem lc_212 (S : CallFix p m c cL_law 7 s #[Value.ref b] lw_tbl RL) (hX : va_X b L xs s s.heap) (hbl : b < s.heap.size) {hx hm : PH} {f : Nat → Int64} (I : LW D cy hx hm f s H locs) {i : Int32} (hin : IN i L) {cl sl : Nat} (hc : cl ≤ 1000 ∧ sl ≤ 20000) (hl : lv_has ls 7 (LV b s i)) (K : ∀ (hx' hm' : PH) (f' : Nat → Int64) (H' : Heap) (locs' : List Loc) (ls' : Array Slot), LW D cy hx' hm' f' s H' locs' → lv_has ls' 7 (LV b s i) → W p l e room_1 s m #[Value.ref b] below meth c H' locs' (cl + 1) (sl + 6) (lw_Z below #[Value.ref b] s) (F0 m 1554 ls' [])) : W p l e room_1 s m #[Value.ref b] below meth c H locs cl sl (lw_Z below #[Value.ref b] s) (F0 m 212 ls []) := by
  have hbA : ¬ A0 s b := Nat.not_le.mpr hbl
  have hx9 := S.1
  have hb9 := S.2.1
  obtain ⟨I1, I2, I3, L0⟩ := I
  have hS := I1.2.2.1
  obtain ⟨_, v1, v2, v3, v4, v5⟩ := hin
  obtain ⟨a, hx', hm', ex, em, L1⟩ := p_feed L0 (xs (i + 1).toNatClampNeg) (xs (i + 2).toNatClampNeg) (xs (i + 3).toNatClampNeg) (xs (i + 4).toNatClampNeg) (xs (i + 5).toNatClampNeg)
  refine lv_aload_n hx9 hb9 dL_law_212 rfl (lv_at hl 1 rfl) ?_
  refine lv_aload_n hx9 hb9 dL_law_213 rfl (lv_at hl 0 rfl) ?_
  refine lv_iload hx9 hb9 dL_law_214 (lv_at hl 4 rfl) ?_
  refine lv_iconst (v := 1) hx9 hb9 dL_law_216 (by decide) ?_
  refine lv_iadd hx9 hb9 dL_law_217 ?_
  refine va_sld (A := A0 s) hx9 hb9 hX hbl hbA hS v1 dL_law_218 ?_
  refine lv_aload_n hx9 hb9 dL_law_219 rfl (lv_at hl 0 rfl) ?_
  refine lv_iload hx9 hb9 dL_law_220 (lv_at hl 4 rfl) ?_
  refine lv_iconst (v := 2) hx9 hb9 dL_law_222 (by decide) ?_
  refine lv_iadd hx9 hb9 dL_law_223 ?_
  refine va_sld (A := A0 s) hx9 hb9 hX hbl hbA hS v2 dL_law_224 ?_
  refine lv_aload_n hx9 hb9 dL_law_225 rfl (lv_at hl 0 rfl) ?_
  refine lv_iload hx9 hb9 dL_law_226 (lv_at hl 4 rfl) ?_
  refine lv_iconst (v := 3) hx9 hb9 dL_law_228 (by decide) ?_
  refine lv_iadd hx9 hb9 dL_law_229 ?_
  refine va_sld (A := A0 s) hx9 hb9 hX hbl hbA hS v3 dL_law_230 ?_
  refine lv_aload_n hx9 hb9 dL_law_231 rfl (lv_at hl 0 rfl) ?_
  refine lv_iload hx9 hb9 dL_law_232 (lv_at hl 4 rfl) ?_
  refine lv_iconst (v := 4) hx9 hb9 dL_law_234 (by decide) ?_
  refine lv_iadd hx9 hb9 dL_law_235 ?_
  refine va_sld (A := A0 s) hx9 hb9 hX hbl hbA hS v4 dL_law_236 ?_
  refine lv_aload_n hx9 hb9 dL_law_237 rfl (lv_at hl 0 rfl) ?_
  refine lv_iload hx9 hb9 dL_law_238 (lv_at hl 4 rfl) ?_
  refine lv_iconst (v := 5) hx9 hb9 dL_law_240 (by decide) ?_
  refine lv_iadd hx9 hb9 dL_law_241 ?_
  refine va_sld (A := A0 s) hx9 hb9 hX hbl hbA hS v5 dL_law_242 ?_
  refine l_Vi (As := [.int (xs (i + 1).toNatClampNeg), .int (xs (i + 2).toNatClampNeg), .int (xs (i + 3).toNatClampNeg), .int (xs (i + 4).toNatClampNeg), .int (xs (i + 5).toNatClampNeg)]) S (M11_feed l D cy s.heap.size (Aw s.heap.size 110) false ex) gL_11_feed rfl rfl rfl cdL_11_feed ⟨Nat.le_of_ble_eq_true rfl, Nat.le_of_ble_eq_true rfl⟩ I1 (Nat.le_refl _) (x_ok L0.1).1 clX11 rfl rfl hl.1 rfl (Nat.le_of_ble_eq_true rfl) dL_law_243 ⟨Nat.le_trans (Nat.add_le_add_right hc.1 _) (Nat.le_of_ble_eq_true rfl), Nat.le_trans (Nat.add_le_add_right hc.2 _) (Nat.le_of_ble_eq_true rfl)⟩ (fun H1 locs1 J1 hk1 => ?_)
  have I2 := LM_kept I2 (A := Aw s.heap.size 110) (fun i hi z => by have := z.2; omega) hk1 J1.2.2.1
  have I3 := LM_kept I3 (A := Aw s.heap.size 110) (fun i hi z => by have := z.2; omega) hk1 J1.2.2.1
  have hS := I2.2.2.1
  refine lv_pop hx9 hb9 dL_law_246 rfl ?_
  refine lv_aload_n hx9 hb9 dL_law_247 rfl (lv_at hl 2 rfl) ?_
  refine lv_aload_n hx9 hb9 dL_law_248 rfl (lv_at hl 0 rfl) ?_
  refine lv_iload hx9 hb9 dL_law_249 (lv_at hl 4 rfl) ?_
  refine lv_iconst (v := 1) hx9 hb9 dL_law_251 (by decide) ?_
  refine lv_iadd hx9 hb9 dL_law_252 ?_
  refine va_sld (A := A0 s) hx9 hb9 hX hbl hbA hS v1 dL_law_253 ?_
  refine lv_aload_n hx9 hb9 dL_law_254 rfl (lv_at hl 0 rfl) ?_
  refine lv_iload hx9 hb9 dL_law_255 (lv_at hl 4 rfl) ?_
  refine lv_iconst (v := 2) hx9 hb9 dL_law_257 (by decide) ?_
  refine lv_iadd hx9 hb9 dL_law_258 ?_
  refine va_sld (A := A0 s) hx9 hb9 hX hbl hbA hS v2 dL_law_259 ?_
  refine lv_aload_n hx9 hb9 dL_law_260 rfl (lv_at hl 0 rfl) ?_
  refine lv_iload hx9 hb9 dL_law_261 (lv_at hl 4 rfl) ?_
  refine lv_iconst (v := 3) hx9 hb9 dL_law_263 (by decide) ?_
  refine lv_iadd hx9 hb9 dL_law_264 ?_
  refine va_sld (A := A0 s) hx9 hb9 hX hbl hbA hS v3 dL_law_265 ?_
  refine lv_aload_n hx9 hb9 dL_law_266 rfl (lv_at hl 0 rfl) ?_
  refine lv_iload hx9 hb9 dL_law_267 (lv_at hl 4 rfl) ?_
  refine lv_iconst (v := 4) hx9 hb9 dL_law_269 (by decide) ?_
  refine lv_iadd hx9 hb9 dL_law_270 ?_
  refine va_sld (A := A0 s) hx9 hb9 hX hbl hbA hS v4 dL_law_271 ?_
  refine lv_aload_n hx9 hb9 dL_law_272 rfl (lv_at hl 0 rfl) ?_
  refine lv_iload hx9 hb9 dL_law_273 (lv_at hl 4 rfl) ?_
  refine lv_iconst (v := 5) hx9 hb9 dL_law_275 (by decide) ?_
  refine lv_iadd hx9 hb9 dL_law_276 ?_
  refine va_sld (A := A0 s) hx9 hb9 hX hbl hbA hS v5 dL_law_277 ?_
  refine l_Vi (As := [.int (xs (i + 1).toNatClampNeg), .int (xs (i + 2).toNatClampNeg), .int (xs (i + 3).toNatClampNeg), .int (xs (i + 4).toNatClampNeg), .int (xs (i + 5).toNatClampNeg)]) S (M12_feed l D cy (s.heap.size + 110) (Aw (s.heap.size + 110) 43) false em) gL_12_feed rfl rfl rfl cdL_12_feed ⟨Nat.le_of_ble_eq_true rfl, Nat.le_of_ble_eq_true rfl⟩ I2 (Nat.le_add_right _ _) (m_ok L0.2.1).1 clX12 rfl rfl hl.1 rfl (Nat.le_of_ble_eq_true rfl) dL_law_278 ⟨Nat.le_trans (Nat.add_le_add_right hc.1 _) (Nat.le_of_ble_eq_true rfl), Nat.le_trans (Nat.add_le_add_right hc.2 _) (Nat.le_of_ble_eq_true rfl)⟩ (fun H2 locs2 J2 hk2 => ?_)
  have J1 := LM_kept J1 (A := Aw (s.heap.size + 110) 43) (fun i hi z => by have := z.1; omega) hk2 J2.2.2.1
  have I3 := LM_kept I3 (A := Aw (s.heap.size + 110) 43) (fun i hi z => by have := z.2; omega) hk2 J2.2.2.1
  refine lv_pop hx9 hb9 dL_law_281 rfl ?_
  refine lv_goto (tgt := 1554) hx9 hb9 dL_law_282 (by decide) ?_
  refine W.widen (k := cl + 1) (n := sl + 6) (Nat.le_succ _) (Nat.le_add_right _ _) ?_
  exact K _ _ _ _ _ _ ⟨J1, J2, I3, L1⟩ hl
set_option maxHeartbeats 1000000 in
theorem lc_285 (S : CallFix p m c cL_law 7 s #[Value.ref b] lw_tbl RL) (hX : va_X b L xs s s.heap) (hbl : b < s.heap.size) {hx hm : PH} {f : Nat → Int64} (I : LW D cy hx hm f s H locs) {i : Int32} (hin : IN i L) {cl sl : Nat} (hc : cl ≤ 1000 ∧ sl ≤ 20000) (hl : lv_has ls 7 (LV b s i)) (K : ∀ (hx' hm' : PH) (f' : Nat → Int64) (H' : Heap) (locs' : List Loc) (ls' : Array Slot), LW D cy hx' hm' f' s H' locs' → lv_has ls' 7 (LV b s i) → W p l e room_1 s m #[Value.ref b] below meth c H' locs' (cl + 1) (sl + 6) (lw_Z below #[Value.ref b] s) (F0 m 1554 ls' [])) : W p l e room_1 s m #[Value.ref b] below meth c H locs cl sl (lw_Z below #[Value.ref b] s) (F0 m 285 ls []) := by
  have hbA : ¬ A0 s b := Nat.not_le.mpr hbl
  have hx9 := S.1
  have hb9 := S.2.1
  obtain ⟨I1, I2, I3, L0⟩ := I
  have hS := I1.2.2.1
  obtain ⟨_, v1, v2, v3, v4, v5⟩ := hin
  obtain ⟨a, hx', hm', ex, em, L1⟩ := p_text L0 (xs (i + 1).toNatClampNeg)
  refine lv_aload_n hx9 hb9 dL_law_285 rfl (lv_at hl 1 rfl) ?_
  refine lv_aload_n hx9 hb9 dL_law_286 rfl (lv_at hl 0 rfl) ?_
  refine lv_iload hx9 hb9 dL_law_287 (lv_at hl 4 rfl) ?_
  refine lv_iconst (v := 1) hx9 hb9 dL_law_289 (by decide) ?_
  refine lv_iadd hx9 hb9 dL_law_290 ?_
  refine va_sld (A := A0 s) hx9 hb9 hX hbl hbA hS v1 dL_law_291 ?_
  refine l_Vi (As := [.int (xs (i + 1).toNatClampNeg)]) S (M11_text l D cy s.heap.size (Aw s.heap.size 110) ex) gL_11_text rfl rfl rfl cdL_11_text ⟨Nat.le_of_ble_eq_true rfl, Nat.le_of_ble_eq_true rfl⟩ I1 (Nat.le_refl _) (x_ok L0.1).1 clX11 rfl rfl hl.1 rfl (Nat.le_of_ble_eq_true rfl) dL_law_292 ⟨Nat.le_trans (Nat.add_le_add_right hc.1 _) (Nat.le_of_ble_eq_true rfl), Nat.le_trans (Nat.add_le_add_right hc.2 _) (Nat.le_of_ble_eq_true rfl)⟩ (fun H1 locs1 J1 hk1 => ?_)
  have I2 := LM_kept I2 (A := Aw s.heap.size 110) (fun i hi z => by have := z.2; omega) hk1 J1.2.2.1
  have I3 := LM_kept I3 (A := Aw s.heap.size 110) (fun i hi z => by have := z.2; omega) hk1 J1.2.2.1
  have hS := I2.2.2.1
  refine lv_pop hx9 hb9 dL_law_295 rfl ?_
  refine lv_aload_n hx9 hb9 dL_law_296 rfl (lv_at hl 2 rfl) ?_
  refine lv_aload_n hx9 hb9 dL_law_297 rfl (lv_at hl 0 rfl) ?_
  refine lv_iload hx9 hb9 dL_law_298 (lv_at hl 4 rfl) ?_
  refine lv_iconst (v := 1) hx9 hb9 dL_law_300 (by decide) ?_
  refine lv_iadd hx9 hb9 dL_law_301 ?_
  refine va_sld (A := A0 s) hx9 hb9 hX hbl hbA hS v1 dL_law_302 ?_
  refine l_Vi (As := [.int (xs (i + 1).toNatClampNeg)]) S (M12_text l D cy (s.heap.size + 110) (Aw (s.heap.size + 110) 43) false em) gL_12_text rfl rfl rfl cdL_12_text ⟨Nat.le_of_ble_eq_true rfl, Nat.le_of_ble_eq_true rfl⟩ I2 (Nat.le_add_right _ _) (m_ok L0.2.1).1 clX12 rfl rfl hl.1 rfl (Nat.le_of_ble_eq_true rfl) dL_law_303 ⟨Nat.le_trans (Nat.add_le_add_right hc.1 _) (Nat.le_of_ble_eq_true rfl), Nat.le_trans (Nat.add_le_add_right hc.2 _) (Nat.le_of_ble_eq_true rfl)⟩ (fun H2 locs2 J2 hk2 => ?_)
  have J1 := LM_kept J1 (A := Aw (s.heap.size + 110) 43) (fun i hi z => by have := z.1; omega) hk2 J2.2.2.1
  have I3 := LM_kept I3 (A := Aw (s.heap.size + 110) 43) (fun i hi z => by have := z.2; omega) hk2 J2.2.2.1
  refine lv_pop hx9 hb9 dL_law_306 rfl ?_
  refine lv_goto (tgt := 1554) hx9 hb9 dL_law_307 (by decide) ?_
  refine W.widen (k := cl + 1) (n := sl + 6) (Nat.le_succ _) (Nat.le_add_right _ _) ?_
  exact K _ _ _ _ _ _ ⟨J1, J2, I3, L1⟩ hl
set_option maxHeartbeats 1000000 in
theorem lc_310 (S : CallFix p m c cL_law 7 s #[Value.ref b] lw_tbl RL) (hX : va_X b L xs s s.heap) (hbl : b < s.heap.size) {hx hm : PH} {f : Nat → Int64} (I : LW D cy hx hm f s H locs) {i : Int32} (hin : IN i L) {cl sl : Nat} (hc : cl ≤ 1000 ∧ sl ≤ 20000) (hl : lv_has ls 7 (LV b s i)) (K : ∀ (hx' hm' : PH) (f' : Nat → Int64) (H' : Heap) (locs' : List Loc) (ls' : Array Slot), LW D cy hx' hm' f' s H' locs' → lv_has ls' 7 (LV b s i) → W p l e room_1 s m #[Value.ref b] below meth c H' locs' (cl + 1) (sl + 6) (lw_Z below #[Value.ref b] s) (F0 m 1554 ls' [])) : W p l e room_1 s m #[Value.ref b] below meth c H locs cl sl (lw_Z below #[Value.ref b] s) (F0 m 310 ls []) := by
  have hbA : ¬ A0 s b := Nat.not_le.mpr hbl
  have hx9 := S.1
  have hb9 := S.2.1
  obtain ⟨I1, I2, I3, L0⟩ := I
  have hS := I1.2.2.1
  obtain ⟨_, v1, v2, v3, v4, v5⟩ := hin
  obtain ⟨a, hx', hm', ex, em, L1⟩ := p_fault L0 (xs (i + 1).toNatClampNeg)
  refine lv_aload_n hx9 hb9 dL_law_310 rfl (lv_at hl 1 rfl) ?_
  refine lv_aload_n hx9 hb9 dL_law_311 rfl (lv_at hl 0 rfl) ?_
  refine lv_iload hx9 hb9 dL_law_312 (lv_at hl 4 rfl) ?_
  refine lv_iconst (v := 1) hx9 hb9 dL_law_314 (by decide) ?_
  refine lv_iadd hx9 hb9 dL_law_315 ?_
  refine va_sld (A := A0 s) hx9 hb9 hX hbl hbA hS v1 dL_law_316 ?_
  refine l_Vi (As := [.int (xs (i + 1).toNatClampNeg)]) S (M11_fault l D cy s.heap.size (Aw s.heap.size 110) false ex) gL_11_fault rfl rfl rfl cdL_11_fault ⟨Nat.le_of_ble_eq_true rfl, Nat.le_of_ble_eq_true rfl⟩ I1 (Nat.le_refl _) (x_ok L0.1).1 clX11 rfl rfl hl.1 rfl (Nat.le_of_ble_eq_true rfl) dL_law_317 ⟨Nat.le_trans (Nat.add_le_add_right hc.1 _) (Nat.le_of_ble_eq_true rfl), Nat.le_trans (Nat.add_le_add_right hc.2 _) (Nat.le_of_ble_eq_true rfl)⟩ (fun H1 locs1 J1 hk1 => ?_)
  have I2 := LM_kept I2 (A := Aw s.heap.size 110) (fun i hi z => by have := z.2; omega) hk1 J1.2.2.1
  have I3 := LM_kept I3 (A := Aw s.heap.size 110) (fun i hi z => by have := z.2; omega) hk1 J1.2.2.1
  have hS := I2.2.2.1
  refine lv_pop hx9 hb9 dL_law_320 rfl ?_
  refine lv_aload_n hx9 hb9 dL_law_321 rfl (lv_at hl 2 rfl) ?_
  refine lv_aload_n hx9 hb9 dL_law_322 rfl (lv_at hl 0 rfl) ?_
  refine lv_iload hx9 hb9 dL_law_323 (lv_at hl 4 rfl) ?_
  refine lv_iconst (v := 1) hx9 hb9 dL_law_325 (by decide) ?_
  refine lv_iadd hx9 hb9 dL_law_326 ?_
  refine va_sld (A := A0 s) hx9 hb9 hX hbl hbA hS v1 dL_law_327 ?_
  refine l_Vi (As := [.int (xs (i + 1).toNatClampNeg)]) S (M12_fault l D cy (s.heap.size + 110) (Aw (s.heap.size + 110) 43) false em) gL_12_fault rfl rfl rfl cdL_12_fault ⟨Nat.le_of_ble_eq_true rfl, Nat.le_of_ble_eq_true rfl⟩ I2 (Nat.le_add_right _ _) (m_ok L0.2.1).1 clX12 rfl rfl hl.1 rfl (Nat.le_of_ble_eq_true rfl) dL_law_328 ⟨Nat.le_trans (Nat.add_le_add_right hc.1 _) (Nat.le_of_ble_eq_true rfl), Nat.le_trans (Nat.add_le_add_right hc.2 _) (Nat.le_of_ble_eq_true rfl)⟩ (fun H2 locs2 J2 hk2 => ?_)
  have J1 := LM_kept J1 (A := Aw (s.heap.size + 110) 43) (fun i hi z => by have := z.1; omega) hk2 J2.2.2.1
  have I3 := LM_kept I3 (A := Aw (s.heap.size + 110) 43) (fun i hi z => by have := z.2; omega) hk2 J2.2.2.1
  refine lv_pop hx9 hb9 dL_law_331 rfl ?_
  refine lv_goto (tgt := 1554) hx9 hb9 dL_law_332 (by decide) ?_
  refine W.widen (k := cl + 1) (n := sl + 6) (Nat.le_succ _) (Nat.le_add_right _ _) ?_
  exact K _ _ _ _ _ _ ⟨J1, J2, I3, L1⟩ hl
set_option maxHeartbeats 1000000 in
theorem lc_335 (S : CallFix p m c cL_law 7 s #[Value.ref b] lw_tbl RL) (hX : va_X b L xs s s.heap) (hbl : b < s.heap.size) {hx hm : PH} {f : Nat → Int64} (I : LW D cy hx hm f s H locs) {i : Int32} (hin : IN i L) {cl sl : Nat} (hc : cl ≤ 1000 ∧ sl ≤ 20000) (hl : lv_has ls 7 (LV b s i)) (K : ∀ (hx' hm' : PH) (f' : Nat → Int64) (H' : Heap) (locs' : List Loc) (ls' : Array Slot), LW D cy hx' hm' f' s H' locs' → lv_has ls' 7 (LV b s i) → W p l e room_1 s m #[Value.ref b] below meth c H' locs' (cl + 1) (sl + 6) (lw_Z below #[Value.ref b] s) (F0 m 1554 ls' [])) : W p l e room_1 s m #[Value.ref b] below meth c H locs cl sl (lw_Z below #[Value.ref b] s) (F0 m 335 ls []) := by
  have hbA : ¬ A0 s b := Nat.not_le.mpr hbl
  have hx9 := S.1
  have hb9 := S.2.1
  obtain ⟨I1, I2, I3, L0⟩ := I
  have hS := I1.2.2.1
  obtain ⟨_, v1, v2, v3, v4, v5⟩ := hin
  obtain ⟨a, hx', hm', ex, em, L1⟩ := p_named L0 (xs (i + 1).toNatClampNeg)
  refine lv_aload_n hx9 hb9 dL_law_335 rfl (lv_at hl 1 rfl) ?_
  refine lv_aload_n hx9 hb9 dL_law_336 rfl (lv_at hl 0 rfl) ?_
  refine lv_iload hx9 hb9 dL_law_337 (lv_at hl 4 rfl) ?_
  refine lv_iconst (v := 1) hx9 hb9 dL_law_339 (by decide) ?_
  refine lv_iadd hx9 hb9 dL_law_340 ?_
  refine va_sld (A := A0 s) hx9 hb9 hX hbl hbA hS v1 dL_law_341 ?_
  refine l_Vi (As := [.int (xs (i + 1).toNatClampNeg)]) S (M11_named l D cy s.heap.size (Aw s.heap.size 110) false ex) gL_11_named rfl rfl rfl cdL_11_named ⟨Nat.le_of_ble_eq_true rfl, Nat.le_of_ble_eq_true rfl⟩ I1 (Nat.le_refl _) (x_ok L0.1).1 clX11 rfl rfl hl.1 rfl (Nat.le_of_ble_eq_true rfl) dL_law_342 ⟨Nat.le_trans (Nat.add_le_add_right hc.1 _) (Nat.le_of_ble_eq_true rfl), Nat.le_trans (Nat.add_le_add_right hc.2 _) (Nat.le_of_ble_eq_true rfl)⟩ (fun H1 locs1 J1 hk1 => ?_)
  have I2 := LM_kept I2 (A := Aw s.heap.size 110) (fun i hi z => by have := z.2; omega) hk1 J1.2.2.1
  have I3 := LM_kept I3 (A := Aw s.heap.size 110) (fun i hi z => by have := z.2; omega) hk1 J1.2.2.1
  have hS := I2.2.2.1
  refine lv_pop hx9 hb9 dL_law_345 rfl ?_
  refine lv_aload_n hx9 hb9 dL_law_346 rfl (lv_at hl 2 rfl) ?_
  refine lv_aload_n hx9 hb9 dL_law_347 rfl (lv_at hl 0 rfl) ?_
  refine lv_iload hx9 hb9 dL_law_348 (lv_at hl 4 rfl) ?_
  refine lv_iconst (v := 1) hx9 hb9 dL_law_350 (by decide) ?_
  refine lv_iadd hx9 hb9 dL_law_351 ?_
  refine va_sld (A := A0 s) hx9 hb9 hX hbl hbA hS v1 dL_law_352 ?_
  refine l_Vi (As := [.int (xs (i + 1).toNatClampNeg)]) S (M12_named l D cy (s.heap.size + 110) (Aw (s.heap.size + 110) 43) false em) gL_12_named rfl rfl rfl cdL_12_named ⟨Nat.le_of_ble_eq_true rfl, Nat.le_of_ble_eq_true rfl⟩ I2 (Nat.le_add_right _ _) (m_ok L0.2.1).1 clX12 rfl rfl hl.1 rfl (Nat.le_of_ble_eq_true rfl) dL_law_353 ⟨Nat.le_trans (Nat.add_le_add_right hc.1 _) (Nat.le_of_ble_eq_true rfl), Nat.le_trans (Nat.add_le_add_right hc.2 _) (Nat.le_of_ble_eq_true rfl)⟩ (fun H2 locs2 J2 hk2 => ?_)
  have J1 := LM_kept J1 (A := Aw (s.heap.size + 110) 43) (fun i hi z => by have := z.1; omega) hk2 J2.2.2.1
  have I3 := LM_kept I3 (A := Aw (s.heap.size + 110) 43) (fun i hi z => by have := z.2; omega) hk2 J2.2.2.1
  refine lv_pop hx9 hb9 dL_law_356 rfl ?_
  refine lv_goto (tgt := 1554) hx9 hb9 dL_law_357 (by decide) ?_
  refine W.widen (k := cl + 1) (n := sl + 6) (Nat.le_succ _) (Nat.le_add_right _ _) ?_
  exact K _ _ _ _ _ _ ⟨J1, J2, I3, L1⟩ hl
set_option maxHeartbeats 1000000 in
theorem lc_428 (S : CallFix p m c cL_law 7 s #[Value.ref b] lw_tbl RL) (hX : va_X b L xs s s.heap) (hbl : b < s.heap.size) {hx hm : PH} {f : Nat → Int64} (I : LW D cy hx hm f s H locs) {i : Int32} (hin : IN i L) {cl sl : Nat} (hc : cl ≤ 1000 ∧ sl ≤ 20000) (hl : lv_has ls 7 (LV b s i)) (K : ∀ (hx' hm' : PH) (f' : Nat → Int64) (H' : Heap) (locs' : List Loc) (ls' : Array Slot), LW D cy hx' hm' f' s H' locs' → lv_has ls' 7 (LV b s i) → W p l e room_1 s m #[Value.ref b] below meth c H' locs' (cl + 1) (sl + 6) (lw_Z below #[Value.ref b] s) (F0 m 1554 ls' [])) : W p l e room_1 s m #[Value.ref b] below meth c H locs cl sl (lw_Z below #[Value.ref b] s) (F0 m 428 ls []) := by
  have hbA : ¬ A0 s b := Nat.not_le.mpr hbl
  have hx9 := S.1
  have hb9 := S.2.1
  obtain ⟨I1, I2, I3, L0⟩ := I
  have hS := I1.2.2.1
  obtain ⟨_, v1, v2, v3, v4, v5⟩ := hin
  obtain ⟨a, hx', hm', ex, em, L1⟩ := p_wave L0 (xs (i + 1).toNatClampNeg) (xs (i + 2).toNatClampNeg)
  refine lv_aload_n hx9 hb9 dL_law_428 rfl (lv_at hl 1 rfl) ?_
  refine lv_aload_n hx9 hb9 dL_law_429 rfl (lv_at hl 0 rfl) ?_
  refine lv_iload hx9 hb9 dL_law_430 (lv_at hl 4 rfl) ?_
  refine lv_iconst (v := 1) hx9 hb9 dL_law_432 (by decide) ?_
  refine lv_iadd hx9 hb9 dL_law_433 ?_
  refine va_sld (A := A0 s) hx9 hb9 hX hbl hbA hS v1 dL_law_434 ?_
  refine lv_aload_n hx9 hb9 dL_law_435 rfl (lv_at hl 0 rfl) ?_
  refine lv_iload hx9 hb9 dL_law_436 (lv_at hl 4 rfl) ?_
  refine lv_iconst (v := 2) hx9 hb9 dL_law_438 (by decide) ?_
  refine lv_iadd hx9 hb9 dL_law_439 ?_
  refine va_sld (A := A0 s) hx9 hb9 hX hbl hbA hS v2 dL_law_440 ?_
  refine l_Vi (As := [.int (xs (i + 1).toNatClampNeg), .int (xs (i + 2).toNatClampNeg)]) S (M11_wave l D cy s.heap.size (Aw s.heap.size 110) false ex) gL_11_wave rfl rfl rfl cdL_11_wave ⟨Nat.le_of_ble_eq_true rfl, Nat.le_of_ble_eq_true rfl⟩ I1 (Nat.le_refl _) (x_ok L0.1).1 clX11 rfl rfl hl.1 rfl (Nat.le_of_ble_eq_true rfl) dL_law_441 ⟨Nat.le_trans (Nat.add_le_add_right hc.1 _) (Nat.le_of_ble_eq_true rfl), Nat.le_trans (Nat.add_le_add_right hc.2 _) (Nat.le_of_ble_eq_true rfl)⟩ (fun H1 locs1 J1 hk1 => ?_)
  have I2 := LM_kept I2 (A := Aw s.heap.size 110) (fun i hi z => by have := z.2; omega) hk1 J1.2.2.1
  have I3 := LM_kept I3 (A := Aw s.heap.size 110) (fun i hi z => by have := z.2; omega) hk1 J1.2.2.1
  have hS := I2.2.2.1
  refine lv_pop hx9 hb9 dL_law_444 rfl ?_
  refine lv_aload_n hx9 hb9 dL_law_445 rfl (lv_at hl 2 rfl) ?_
  refine lv_aload_n hx9 hb9 dL_law_446 rfl (lv_at hl 0 rfl) ?_
  refine lv_iload hx9 hb9 dL_law_447 (lv_at hl 4 rfl) ?_
  refine lv_iconst (v := 1) hx9 hb9 dL_law_449 (by decide) ?_
  refine lv_iadd hx9 hb9 dL_law_450 ?_
  refine va_sld (A := A0 s) hx9 hb9 hX hbl hbA hS v1 dL_law_451 ?_
  refine lv_aload_n hx9 hb9 dL_law_452 rfl (lv_at hl 0 rfl) ?_
  refine lv_iload hx9 hb9 dL_law_453 (lv_at hl 4 rfl) ?_
  refine lv_iconst (v := 2) hx9 hb9 dL_law_455 (by decide) ?_
  refine lv_iadd hx9 hb9 dL_law_456 ?_
  refine va_sld (A := A0 s) hx9 hb9 hX hbl hbA hS v2 dL_law_457 ?_
  refine l_Vi (As := [.int (xs (i + 1).toNatClampNeg), .int (xs (i + 2).toNatClampNeg)]) S (M12_wave l D cy (s.heap.size + 110) (Aw (s.heap.size + 110) 43) false em) gL_12_wave rfl rfl rfl cdL_12_wave ⟨Nat.le_of_ble_eq_true rfl, Nat.le_of_ble_eq_true rfl⟩ I2 (Nat.le_add_right _ _) (m_ok L0.2.1).1 clX12 rfl rfl hl.1 rfl (Nat.le_of_ble_eq_true rfl) dL_law_458 ⟨Nat.le_trans (Nat.add_le_add_right hc.1 _) (Nat.le_of_ble_eq_true rfl), Nat.le_trans (Nat.add_le_add_right hc.2 _) (Nat.le_of_ble_eq_true rfl)⟩ (fun H2 locs2 J2 hk2 => ?_)
  have J1 := LM_kept J1 (A := Aw (s.heap.size + 110) 43) (fun i hi z => by have := z.1; omega) hk2 J2.2.2.1
  have I3 := LM_kept I3 (A := Aw (s.heap.size + 110) 43) (fun i hi z => by have := z.2; omega) hk2 J2.2.2.1
  refine lv_pop hx9 hb9 dL_law_461 rfl ?_
  refine lv_goto (tgt := 1554) hx9 hb9 dL_law_462 (by decide) ?_
  refine W.widen (k := cl + 1) (n := sl + 6) (Nat.le_succ _) (Nat.le_add_right _ _) ?_
  exact K _ _ _ _ _ _ ⟨J1, J2, I3, L1⟩ hl
set_option maxHeartbeats 1000000 in
theorem lc_465 (S : CallFix p m c cL_law 7 s #[Value.ref b] lw_tbl RL) (hX : va_X b L xs s s.heap) (hbl : b < s.heap.size) {hx hm : PH} {f : Nat → Int64} (I : LW D cy hx hm f s H locs) {i : Int32} (hin : IN i L) {cl sl : Nat} (hc : cl ≤ 1000 ∧ sl ≤ 20000) (hl : lv_has ls 7 (LV b s i)) (K : ∀ (hx' hm' : PH) (f' : Nat → Int64) (H' : Heap) (locs' : List Loc) (ls' : Array Slot), LW D cy hx' hm' f' s H' locs' → lv_has ls' 7 (LV b s i) → W p l e room_1 s m #[Value.ref b] below meth c H' locs' (cl + 1) (sl + 6) (lw_Z below #[Value.ref b] s) (F0 m 1554 ls' [])) : W p l e room_1 s m #[Value.ref b] below meth c H locs cl sl (lw_Z below #[Value.ref b] s) (F0 m 465 ls []) := by
  have hbA : ¬ A0 s b := Nat.not_le.mpr hbl
  have hx9 := S.1
  have hb9 := S.2.1
  obtain ⟨I1, I2, I3, L0⟩ := I
  have hS := I1.2.2.1
  obtain ⟨_, v1, v2, v3, v4, v5⟩ := hin
  obtain ⟨a, hx', hm', ex, em, L1⟩ := p_peak L0 (xs (i + 1).toNatClampNeg)
  refine lv_aload_n hx9 hb9 dL_law_465 rfl (lv_at hl 1 rfl) ?_
  refine lv_aload_n hx9 hb9 dL_law_466 rfl (lv_at hl 0 rfl) ?_
  refine lv_iload hx9 hb9 dL_law_467 (lv_at hl 4 rfl) ?_
  refine lv_iconst (v := 1) hx9 hb9 dL_law_469 (by decide) ?_
  refine lv_iadd hx9 hb9 dL_law_470 ?_
  refine va_sld (A := A0 s) hx9 hb9 hX hbl hbA hS v1 dL_law_471 ?_
  refine l_Vi (As := [.int (xs (i + 1).toNatClampNeg)]) S (M11_peak l D cy s.heap.size (Aw s.heap.size 110) false ex) gL_11_peak rfl rfl rfl cdL_11_peak ⟨Nat.le_of_ble_eq_true rfl, Nat.le_of_ble_eq_true rfl⟩ I1 (Nat.le_refl _) (x_ok L0.1).1 clX11 rfl rfl hl.1 rfl (Nat.le_of_ble_eq_true rfl) dL_law_472 ⟨Nat.le_trans (Nat.add_le_add_right hc.1 _) (Nat.le_of_ble_eq_true rfl), Nat.le_trans (Nat.add_le_add_right hc.2 _) (Nat.le_of_ble_eq_true rfl)⟩ (fun H1 locs1 J1 hk1 => ?_)
  have I2 := LM_kept I2 (A := Aw s.heap.size 110) (fun i hi z => by have := z.2; omega) hk1 J1.2.2.1
  have I3 := LM_kept I3 (A := Aw s.heap.size 110) (fun i hi z => by have := z.2; omega) hk1 J1.2.2.1
  have hS := I2.2.2.1
  refine lv_pop hx9 hb9 dL_law_475 rfl ?_
  refine lv_aload_n hx9 hb9 dL_law_476 rfl (lv_at hl 2 rfl) ?_
  refine lv_aload_n hx9 hb9 dL_law_477 rfl (lv_at hl 0 rfl) ?_
  refine lv_iload hx9 hb9 dL_law_478 (lv_at hl 4 rfl) ?_
  refine lv_iconst (v := 1) hx9 hb9 dL_law_480 (by decide) ?_
  refine lv_iadd hx9 hb9 dL_law_481 ?_
  refine va_sld (A := A0 s) hx9 hb9 hX hbl hbA hS v1 dL_law_482 ?_
  refine l_Vi (As := [.int (xs (i + 1).toNatClampNeg)]) S (M12_peak l D cy (s.heap.size + 110) (Aw (s.heap.size + 110) 43) false em) gL_12_peak rfl rfl rfl cdL_12_peak ⟨Nat.le_of_ble_eq_true rfl, Nat.le_of_ble_eq_true rfl⟩ I2 (Nat.le_add_right _ _) (m_ok L0.2.1).1 clX12 rfl rfl hl.1 rfl (Nat.le_of_ble_eq_true rfl) dL_law_483 ⟨Nat.le_trans (Nat.add_le_add_right hc.1 _) (Nat.le_of_ble_eq_true rfl), Nat.le_trans (Nat.add_le_add_right hc.2 _) (Nat.le_of_ble_eq_true rfl)⟩ (fun H2 locs2 J2 hk2 => ?_)
  have J1 := LM_kept J1 (A := Aw (s.heap.size + 110) 43) (fun i hi z => by have := z.1; omega) hk2 J2.2.2.1
  have I3 := LM_kept I3 (A := Aw (s.heap.size + 110) 43) (fun i hi z => by have := z.2; omega) hk2 J2.2.2.1
  refine lv_pop hx9 hb9 dL_law_486 rfl ?_
  refine lv_goto (tgt := 1554) hx9 hb9 dL_law_487 (by decide) ?_
  refine W.widen (k := cl + 1) (n := sl + 6) (Nat.le_succ _) (Nat.le_add_right _ _) ?_
  exact K _ _ _ _ _ _ ⟨J1, J2, I3, L1⟩ hl
set_option maxHeartbeats 1000000 in
theorem lc_490 (S : CallFix p m c cL_law 7 s #[Value.ref b] lw_tbl RL) (hX : va_X b L xs s s.heap) (hbl : b < s.heap.size) {hx hm : PH} {f : Nat → Int64} (I : LW D cy hx hm f s H locs) {i : Int32} (hin : IN i L) {cl sl : Nat} (hc : cl ≤ 1000 ∧ sl ≤ 20000) (hl : lv_has ls 7 (LV b s i)) (K : ∀ (hx' hm' : PH) (f' : Nat → Int64) (H' : Heap) (locs' : List Loc) (ls' : Array Slot), LW D cy hx' hm' f' s H' locs' → lv_has ls' 7 (LV b s i) → W p l e room_1 s m #[Value.ref b] below meth c H' locs' (cl + 1) (sl + 6) (lw_Z below #[Value.ref b] s) (F0 m 1554 ls' [])) : W p l e room_1 s m #[Value.ref b] below meth c H locs cl sl (lw_Z below #[Value.ref b] s) (F0 m 490 ls []) := by
  have hbA : ¬ A0 s b := Nat.not_le.mpr hbl
  have hx9 := S.1
  have hb9 := S.2.1
  obtain ⟨I1, I2, I3, L0⟩ := I
  have hS := I1.2.2.1
  obtain ⟨_, v1, v2, v3, v4, v5⟩ := hin
  obtain ⟨a, hx', hm', ex, em, L1⟩ := p_odds L0 (xs (i + 1).toNatClampNeg) (xs (i + 2).toNatClampNeg) (xs (i + 3).toNatClampNeg)
  refine lv_aload_n hx9 hb9 dL_law_490 rfl (lv_at hl 1 rfl) ?_
  refine lv_aload_n hx9 hb9 dL_law_491 rfl (lv_at hl 0 rfl) ?_
  refine lv_iload hx9 hb9 dL_law_492 (lv_at hl 4 rfl) ?_
  refine lv_iconst (v := 1) hx9 hb9 dL_law_494 (by decide) ?_
  refine lv_iadd hx9 hb9 dL_law_495 ?_
  refine va_sld (A := A0 s) hx9 hb9 hX hbl hbA hS v1 dL_law_496 ?_
  refine lv_aload_n hx9 hb9 dL_law_497 rfl (lv_at hl 0 rfl) ?_
  refine lv_iload hx9 hb9 dL_law_498 (lv_at hl 4 rfl) ?_
  refine lv_iconst (v := 2) hx9 hb9 dL_law_500 (by decide) ?_
  refine lv_iadd hx9 hb9 dL_law_501 ?_
  refine va_sld (A := A0 s) hx9 hb9 hX hbl hbA hS v2 dL_law_502 ?_
  refine lv_aload_n hx9 hb9 dL_law_503 rfl (lv_at hl 0 rfl) ?_
  refine lv_iload hx9 hb9 dL_law_504 (lv_at hl 4 rfl) ?_
  refine lv_iconst (v := 3) hx9 hb9 dL_law_506 (by decide) ?_
  refine lv_iadd hx9 hb9 dL_law_507 ?_
  refine va_sld (A := A0 s) hx9 hb9 hX hbl hbA hS v3 dL_law_508 ?_
  refine l_Vi (As := [.int (xs (i + 1).toNatClampNeg), .int (xs (i + 2).toNatClampNeg), .int (xs (i + 3).toNatClampNeg)]) S (M11_odds l D cy s.heap.size (Aw s.heap.size 110) false ex) gL_11_odds rfl rfl rfl cdL_11_odds ⟨Nat.le_of_ble_eq_true rfl, Nat.le_of_ble_eq_true rfl⟩ I1 (Nat.le_refl _) (x_ok L0.1).1 clX11 rfl rfl hl.1 rfl (Nat.le_of_ble_eq_true rfl) dL_law_509 ⟨Nat.le_trans (Nat.add_le_add_right hc.1 _) (Nat.le_of_ble_eq_true rfl), Nat.le_trans (Nat.add_le_add_right hc.2 _) (Nat.le_of_ble_eq_true rfl)⟩ (fun H1 locs1 J1 hk1 => ?_)
  have I2 := LM_kept I2 (A := Aw s.heap.size 110) (fun i hi z => by have := z.2; omega) hk1 J1.2.2.1
  have I3 := LM_kept I3 (A := Aw s.heap.size 110) (fun i hi z => by have := z.2; omega) hk1 J1.2.2.1
  have hS := I2.2.2.1
  refine lv_pop hx9 hb9 dL_law_512 rfl ?_
  refine lv_aload_n hx9 hb9 dL_law_513 rfl (lv_at hl 2 rfl) ?_
  refine lv_aload_n hx9 hb9 dL_law_514 rfl (lv_at hl 0 rfl) ?_
  refine lv_iload hx9 hb9 dL_law_515 (lv_at hl 4 rfl) ?_
  refine lv_iconst (v := 1) hx9 hb9 dL_law_517 (by decide) ?_
  refine lv_iadd hx9 hb9 dL_law_518 ?_
  refine va_sld (A := A0 s) hx9 hb9 hX hbl hbA hS v1 dL_law_519 ?_
  refine lv_aload_n hx9 hb9 dL_law_520 rfl (lv_at hl 0 rfl) ?_
  refine lv_iload hx9 hb9 dL_law_521 (lv_at hl 4 rfl) ?_
  refine lv_iconst (v := 2) hx9 hb9 dL_law_523 (by decide) ?_
  refine lv_iadd hx9 hb9 dL_law_524 ?_
  refine va_sld (A := A0 s) hx9 hb9 hX hbl hbA hS v2 dL_law_525 ?_
  refine lv_aload_n hx9 hb9 dL_law_526 rfl (lv_at hl 0 rfl) ?_
  refine lv_iload hx9 hb9 dL_law_527 (lv_at hl 4 rfl) ?_
  refine lv_iconst (v := 3) hx9 hb9 dL_law_529 (by decide) ?_
  refine lv_iadd hx9 hb9 dL_law_530 ?_
  refine va_sld (A := A0 s) hx9 hb9 hX hbl hbA hS v3 dL_law_531 ?_
  refine l_Vi (As := [.int (xs (i + 1).toNatClampNeg), .int (xs (i + 2).toNatClampNeg), .int (xs (i + 3).toNatClampNeg)]) S (M12_odds l D cy (s.heap.size + 110) (Aw (s.heap.size + 110) 43) false em) gL_12_odds rfl rfl rfl cdL_12_odds ⟨Nat.le_of_ble_eq_true rfl, Nat.le_of_ble_eq_true rfl⟩ I2 (Nat.le_add_right _ _) (m_ok L0.2.1).1 clX12 rfl rfl hl.1 rfl (Nat.le_of_ble_eq_true rfl) dL_law_532 ⟨Nat.le_trans (Nat.add_le_add_right hc.1 _) (Nat.le_of_ble_eq_true rfl), Nat.le_trans (Nat.add_le_add_right hc.2 _) (Nat.le_of_ble_eq_true rfl)⟩ (fun H2 locs2 J2 hk2 => ?_)
  have J1 := LM_kept J1 (A := Aw (s.heap.size + 110) 43) (fun i hi z => by have := z.1; omega) hk2 J2.2.2.1
  have I3 := LM_kept I3 (A := Aw (s.heap.size + 110) 43) (fun i hi z => by have := z.2; omega) hk2 J2.2.2.1
  refine lv_pop hx9 hb9 dL_law_535 rfl ?_
  refine lv_goto (tgt := 1554) hx9 hb9 dL_law_536 (by decide) ?_
  refine W.widen (k := cl + 1) (n := sl + 6) (Nat.le_succ _) (Nat.le_add_right _ _) ?_
  exact K _ _ _ _ _ _ ⟨J1, J2, I3, L1⟩ hl
set_option maxHeartbeats 1000000 in
theorem lc_539 (S : CallFix p m c cL_law 7 s #[Value.ref b] lw_tbl RL) (hX : va_X b L xs s s.heap) (hbl : b < s.heap.size) {hx hm : PH} {f : Nat → Int64} (I : LW D cy hx hm f s H locs) {i : Int32} (hin : IN i L) {cl sl : Nat} (hc : cl ≤ 1000 ∧ sl ≤ 20000) (hl : lv_has ls 7 (LV b s i)) (K : ∀ (hx' hm' : PH) (f' : Nat → Int64) (H' : Heap) (locs' : List Loc) (ls' : Array Slot), LW D cy hx' hm' f' s H' locs' → lv_has ls' 7 (LV b s i) → W p l e room_1 s m #[Value.ref b] below meth c H' locs' (cl + 1) (sl + 6) (lw_Z below #[Value.ref b] s) (F0 m 1554 ls' [])) : W p l e room_1 s m #[Value.ref b] below meth c H locs cl sl (lw_Z below #[Value.ref b] s) (F0 m 539 ls []) := by
  have hbA : ¬ A0 s b := Nat.not_le.mpr hbl
  have hx9 := S.1
  have hb9 := S.2.1
  obtain ⟨I1, I2, I3, L0⟩ := I
  have hS := I1.2.2.1
  obtain ⟨_, v1, v2, v3, v4, v5⟩ := hin
  obtain ⟨a, hx', hm', ex, em, L1⟩ := p_law L0 (xs (i + 1).toNatClampNeg) (xs (i + 2).toNatClampNeg) (xs (i + 3).toNatClampNeg)
  refine lv_aload_n hx9 hb9 dL_law_539 rfl (lv_at hl 1 rfl) ?_
  refine lv_aload_n hx9 hb9 dL_law_540 rfl (lv_at hl 0 rfl) ?_
  refine lv_iload hx9 hb9 dL_law_541 (lv_at hl 4 rfl) ?_
  refine lv_iconst (v := 1) hx9 hb9 dL_law_543 (by decide) ?_
  refine lv_iadd hx9 hb9 dL_law_544 ?_
  refine va_sld (A := A0 s) hx9 hb9 hX hbl hbA hS v1 dL_law_545 ?_
  refine lv_aload_n hx9 hb9 dL_law_546 rfl (lv_at hl 0 rfl) ?_
  refine lv_iload hx9 hb9 dL_law_547 (lv_at hl 4 rfl) ?_
  refine lv_iconst (v := 2) hx9 hb9 dL_law_549 (by decide) ?_
  refine lv_iadd hx9 hb9 dL_law_550 ?_
  refine va_sld (A := A0 s) hx9 hb9 hX hbl hbA hS v2 dL_law_551 ?_
  refine lv_aload_n hx9 hb9 dL_law_552 rfl (lv_at hl 0 rfl) ?_
  refine lv_iload hx9 hb9 dL_law_553 (lv_at hl 4 rfl) ?_
  refine lv_iconst (v := 3) hx9 hb9 dL_law_555 (by decide) ?_
  refine lv_iadd hx9 hb9 dL_law_556 ?_
  refine va_sld (A := A0 s) hx9 hb9 hX hbl hbA hS v3 dL_law_557 ?_
  refine l_Vl (As := [.int (xs (i + 1).toNatClampNeg), .int (xs (i + 2).toNatClampNeg), .int (xs (i + 3).toNatClampNeg)]) S (M11_law l D cy s.heap.size (Aw s.heap.size 110) false ex) gL_11_law rfl rfl rfl cdL_11_law ⟨Nat.le_of_ble_eq_true rfl, Nat.le_of_ble_eq_true rfl⟩ I1 (Nat.le_refl _) (x_ok L0.1).1 clX11 rfl rfl hl.1 rfl (Nat.le_of_ble_eq_true rfl) dL_law_558 ⟨Nat.le_trans (Nat.add_le_add_right hc.1 _) (Nat.le_of_ble_eq_true rfl), Nat.le_trans (Nat.add_le_add_right hc.2 _) (Nat.le_of_ble_eq_true rfl)⟩ (fun H1 locs1 J1 hk1 => ?_)
  have I2 := LM_kept I2 (A := Aw s.heap.size 110) (fun i hi z => by have := z.2; omega) hk1 J1.2.2.1
  have I3 := LM_kept I3 (A := Aw s.heap.size 110) (fun i hi z => by have := z.2; omega) hk1 J1.2.2.1
  have hS := I2.2.2.1
  refine lv_pop2_2 hx9 hb9 dL_law_561 rfl ?_
  refine lv_aload_n hx9 hb9 dL_law_562 rfl (lv_at hl 2 rfl) ?_
  refine lv_aload_n hx9 hb9 dL_law_563 rfl (lv_at hl 0 rfl) ?_
  refine lv_iload hx9 hb9 dL_law_564 (lv_at hl 4 rfl) ?_
  refine lv_iconst (v := 1) hx9 hb9 dL_law_566 (by decide) ?_
  refine lv_iadd hx9 hb9 dL_law_567 ?_
  refine va_sld (A := A0 s) hx9 hb9 hX hbl hbA hS v1 dL_law_568 ?_
  refine lv_aload_n hx9 hb9 dL_law_569 rfl (lv_at hl 0 rfl) ?_
  refine lv_iload hx9 hb9 dL_law_570 (lv_at hl 4 rfl) ?_
  refine lv_iconst (v := 2) hx9 hb9 dL_law_572 (by decide) ?_
  refine lv_iadd hx9 hb9 dL_law_573 ?_
  refine va_sld (A := A0 s) hx9 hb9 hX hbl hbA hS v2 dL_law_574 ?_
  refine lv_aload_n hx9 hb9 dL_law_575 rfl (lv_at hl 0 rfl) ?_
  refine lv_iload hx9 hb9 dL_law_576 (lv_at hl 4 rfl) ?_
  refine lv_iconst (v := 3) hx9 hb9 dL_law_578 (by decide) ?_
  refine lv_iadd hx9 hb9 dL_law_579 ?_
  refine va_sld (A := A0 s) hx9 hb9 hX hbl hbA hS v3 dL_law_580 ?_
  refine l_Vl (As := [.int (xs (i + 1).toNatClampNeg), .int (xs (i + 2).toNatClampNeg), .int (xs (i + 3).toNatClampNeg)]) S (M12_law l D cy (s.heap.size + 110) (Aw (s.heap.size + 110) 43) false em) gL_12_law rfl rfl rfl cdL_12_law ⟨Nat.le_of_ble_eq_true rfl, Nat.le_of_ble_eq_true rfl⟩ I2 (Nat.le_add_right _ _) (m_ok L0.2.1).1 clX12 rfl rfl hl.1 rfl (Nat.le_of_ble_eq_true rfl) dL_law_581 ⟨Nat.le_trans (Nat.add_le_add_right hc.1 _) (Nat.le_of_ble_eq_true rfl), Nat.le_trans (Nat.add_le_add_right hc.2 _) (Nat.le_of_ble_eq_true rfl)⟩ (fun H2 locs2 J2 hk2 => ?_)
  have J1 := LM_kept J1 (A := Aw (s.heap.size + 110) 43) (fun i hi z => by have := z.1; omega) hk2 J2.2.2.1
  have I3 := LM_kept I3 (A := Aw (s.heap.size + 110) 43) (fun i hi z => by have := z.2; omega) hk2 J2.2.2.1
  refine lv_pop2_2 hx9 hb9 dL_law_584 rfl ?_
  refine lv_goto (tgt := 1554) hx9 hb9 dL_law_585 (by decide) ?_
  refine W.widen (k := cl + 1) (n := sl + 6) (Nat.le_succ _) (Nat.le_add_right _ _) ?_
  exact K _ _ _ _ _ _ ⟨J1, J2, I3, L1⟩ hl
set_option maxHeartbeats 1000000 in
theorem lc_588 (S : CallFix p m c cL_law 7 s #[Value.ref b] lw_tbl RL) (hX : va_X b L xs s s.heap) (hbl : b < s.heap.size) {hx hm : PH} {f : Nat → Int64} (I : LW D cy hx hm f s H locs) {i : Int32} (hin : IN i L) {cl sl : Nat} (hc : cl ≤ 1000 ∧ sl ≤ 20000) (hl : lv_has ls 7 (LV b s i)) (K : ∀ (hx' hm' : PH) (f' : Nat → Int64) (H' : Heap) (locs' : List Loc) (ls' : Array Slot), LW D cy hx' hm' f' s H' locs' → lv_has ls' 7 (LV b s i) → W p l e room_1 s m #[Value.ref b] below meth c H' locs' (cl + 1) (sl + 6) (lw_Z below #[Value.ref b] s) (F0 m 1554 ls' [])) : W p l e room_1 s m #[Value.ref b] below meth c H locs cl sl (lw_Z below #[Value.ref b] s) (F0 m 588 ls []) := by
  have hbA : ¬ A0 s b := Nat.not_le.mpr hbl
  have hx9 := S.1
  have hb9 := S.2.1
  obtain ⟨I1, I2, I3, L0⟩ := I
  have hS := I1.2.2.1
  obtain ⟨_, v1, v2, v3, v4, v5⟩ := hin
  obtain ⟨a, hx', hm', ex, em, L1⟩ := p_stroke L0 (xs (i + 1).toNatClampNeg) (xs (i + 2).toNatClampNeg)
  refine lv_aload_n hx9 hb9 dL_law_588 rfl (lv_at hl 1 rfl) ?_
  refine lv_aload_n hx9 hb9 dL_law_589 rfl (lv_at hl 0 rfl) ?_
  refine lv_iload hx9 hb9 dL_law_590 (lv_at hl 4 rfl) ?_
  refine lv_iconst (v := 1) hx9 hb9 dL_law_592 (by decide) ?_
  refine lv_iadd hx9 hb9 dL_law_593 ?_
  refine va_sld (A := A0 s) hx9 hb9 hX hbl hbA hS v1 dL_law_594 ?_
  refine lv_aload_n hx9 hb9 dL_law_595 rfl (lv_at hl 0 rfl) ?_
  refine lv_iload hx9 hb9 dL_law_596 (lv_at hl 4 rfl) ?_
  refine lv_iconst (v := 2) hx9 hb9 dL_law_598 (by decide) ?_
  refine lv_iadd hx9 hb9 dL_law_599 ?_
  refine va_sld (A := A0 s) hx9 hb9 hX hbl hbA hS v2 dL_law_600 ?_
  refine l_Vi (As := [.int (xs (i + 1).toNatClampNeg), .int (xs (i + 2).toNatClampNeg)]) S (M11_stroke l D cy s.heap.size (Aw s.heap.size 110) ex) gL_11_stroke rfl rfl rfl cdL_11_stroke ⟨Nat.le_of_ble_eq_true rfl, Nat.le_of_ble_eq_true rfl⟩ I1 (Nat.le_refl _) (x_ok L0.1).1 clX11 rfl rfl hl.1 rfl (Nat.le_of_ble_eq_true rfl) dL_law_601 ⟨Nat.le_trans (Nat.add_le_add_right hc.1 _) (Nat.le_of_ble_eq_true rfl), Nat.le_trans (Nat.add_le_add_right hc.2 _) (Nat.le_of_ble_eq_true rfl)⟩ (fun H1 locs1 J1 hk1 => ?_)
  have I2 := LM_kept I2 (A := Aw s.heap.size 110) (fun i hi z => by have := z.2; omega) hk1 J1.2.2.1
  have I3 := LM_kept I3 (A := Aw s.heap.size 110) (fun i hi z => by have := z.2; omega) hk1 J1.2.2.1
  have hS := I2.2.2.1
  refine lv_pop hx9 hb9 dL_law_604 rfl ?_
  refine lv_aload_n hx9 hb9 dL_law_605 rfl (lv_at hl 2 rfl) ?_
  refine lv_aload_n hx9 hb9 dL_law_606 rfl (lv_at hl 0 rfl) ?_
  refine lv_iload hx9 hb9 dL_law_607 (lv_at hl 4 rfl) ?_
  refine lv_iconst (v := 1) hx9 hb9 dL_law_609 (by decide) ?_
  refine lv_iadd hx9 hb9 dL_law_610 ?_
  refine va_sld (A := A0 s) hx9 hb9 hX hbl hbA hS v1 dL_law_611 ?_
  refine lv_aload_n hx9 hb9 dL_law_612 rfl (lv_at hl 0 rfl) ?_
  refine lv_iload hx9 hb9 dL_law_613 (lv_at hl 4 rfl) ?_
  refine lv_iconst (v := 2) hx9 hb9 dL_law_615 (by decide) ?_
  refine lv_iadd hx9 hb9 dL_law_616 ?_
  refine va_sld (A := A0 s) hx9 hb9 hX hbl hbA hS v2 dL_law_617 ?_
  refine l_Vi (As := [.int (xs (i + 1).toNatClampNeg), .int (xs (i + 2).toNatClampNeg)]) S (M12_stroke l D cy (s.heap.size + 110) (Aw (s.heap.size + 110) 43) false em) gL_12_stroke rfl rfl rfl cdL_12_stroke ⟨Nat.le_of_ble_eq_true rfl, Nat.le_of_ble_eq_true rfl⟩ I2 (Nat.le_add_right _ _) (m_ok L0.2.1).1 clX12 rfl rfl hl.1 rfl (Nat.le_of_ble_eq_true rfl) dL_law_618 ⟨Nat.le_trans (Nat.add_le_add_right hc.1 _) (Nat.le_of_ble_eq_true rfl), Nat.le_trans (Nat.add_le_add_right hc.2 _) (Nat.le_of_ble_eq_true rfl)⟩ (fun H2 locs2 J2 hk2 => ?_)
  have J1 := LM_kept J1 (A := Aw (s.heap.size + 110) 43) (fun i hi z => by have := z.1; omega) hk2 J2.2.2.1
  have I3 := LM_kept I3 (A := Aw (s.heap.size + 110) 43) (fun i hi z => by have := z.2; omega) hk2 J2.2.2.1
  refine lv_pop hx9 hb9 dL_law_621 rfl ?_
  refine lv_goto (tgt := 1554) hx9 hb9 dL_law_622 (by decide) ?_
  refine W.widen (k := cl + 1) (n := sl + 6) (Nat.le_succ _) (Nat.le_add_right _ _) ?_
  exact K _ _ _ _ _ _ ⟨J1, J2, I3, L1⟩ hl
set_option maxHeartbeats 1000000 in
theorem lc_625 (S : CallFix p m c cL_law 7 s #[Value.ref b] lw_tbl RL) (hX : va_X b L xs s s.heap) (hbl : b < s.heap.size) {hx hm : PH} {f : Nat → Int64} (I : LW D cy hx hm f s H locs) {i : Int32} (hin : IN i L) {cl sl : Nat} (hc : cl ≤ 1000 ∧ sl ≤ 20000) (hl : lv_has ls 7 (LV b s i)) (K : ∀ (hx' hm' : PH) (f' : Nat → Int64) (H' : Heap) (locs' : List Loc) (ls' : Array Slot), LW D cy hx' hm' f' s H' locs' → lv_has ls' 7 (LV b s i) → W p l e room_1 s m #[Value.ref b] below meth c H' locs' (cl + 1) (sl + 6) (lw_Z below #[Value.ref b] s) (F0 m 1554 ls' [])) : W p l e room_1 s m #[Value.ref b] below meth c H locs cl sl (lw_Z below #[Value.ref b] s) (F0 m 625 ls []) := by
  have hbA : ¬ A0 s b := Nat.not_le.mpr hbl
  have hx9 := S.1
  have hb9 := S.2.1
  obtain ⟨I1, I2, I3, L0⟩ := I
  have hS := I1.2.2.1
  obtain ⟨_, v1, v2, v3, v4, v5⟩ := hin
  obtain ⟨a, hx', hm', ex, em, L1⟩ := p_rule L0 (xs (i + 1).toNatClampNeg)
  refine lv_aload_n hx9 hb9 dL_law_625 rfl (lv_at hl 1 rfl) ?_
  refine lv_aload_n hx9 hb9 dL_law_626 rfl (lv_at hl 0 rfl) ?_
  refine lv_iload hx9 hb9 dL_law_627 (lv_at hl 4 rfl) ?_
  refine lv_iconst (v := 1) hx9 hb9 dL_law_629 (by decide) ?_
  refine lv_iadd hx9 hb9 dL_law_630 ?_
  refine va_sld (A := A0 s) hx9 hb9 hX hbl hbA hS v1 dL_law_631 ?_
  refine l_Vi (As := [.int (xs (i + 1).toNatClampNeg)]) S (M11_rule l D cy s.heap.size (Aw s.heap.size 110) ex) gL_11_rule rfl rfl rfl cdL_11_rule ⟨Nat.le_of_ble_eq_true rfl, Nat.le_of_ble_eq_true rfl⟩ I1 (Nat.le_refl _) (x_ok L0.1).1 clX11 rfl rfl hl.1 rfl (Nat.le_of_ble_eq_true rfl) dL_law_632 ⟨Nat.le_trans (Nat.add_le_add_right hc.1 _) (Nat.le_of_ble_eq_true rfl), Nat.le_trans (Nat.add_le_add_right hc.2 _) (Nat.le_of_ble_eq_true rfl)⟩ (fun H1 locs1 J1 hk1 => ?_)
  have I2 := LM_kept I2 (A := Aw s.heap.size 110) (fun i hi z => by have := z.2; omega) hk1 J1.2.2.1
  have I3 := LM_kept I3 (A := Aw s.heap.size 110) (fun i hi z => by have := z.2; omega) hk1 J1.2.2.1
  have hS := I2.2.2.1
  refine lv_pop hx9 hb9 dL_law_635 rfl ?_
  refine lv_aload_n hx9 hb9 dL_law_636 rfl (lv_at hl 2 rfl) ?_
  refine lv_aload_n hx9 hb9 dL_law_637 rfl (lv_at hl 0 rfl) ?_
  refine lv_iload hx9 hb9 dL_law_638 (lv_at hl 4 rfl) ?_
  refine lv_iconst (v := 1) hx9 hb9 dL_law_640 (by decide) ?_
  refine lv_iadd hx9 hb9 dL_law_641 ?_
  refine va_sld (A := A0 s) hx9 hb9 hX hbl hbA hS v1 dL_law_642 ?_
  refine l_Vi (As := [.int (xs (i + 1).toNatClampNeg)]) S (M12_rule l D cy (s.heap.size + 110) (Aw (s.heap.size + 110) 43) false em) gL_12_rule rfl rfl rfl cdL_12_rule ⟨Nat.le_of_ble_eq_true rfl, Nat.le_of_ble_eq_true rfl⟩ I2 (Nat.le_add_right _ _) (m_ok L0.2.1).1 clX12 rfl rfl hl.1 rfl (Nat.le_of_ble_eq_true rfl) dL_law_643 ⟨Nat.le_trans (Nat.add_le_add_right hc.1 _) (Nat.le_of_ble_eq_true rfl), Nat.le_trans (Nat.add_le_add_right hc.2 _) (Nat.le_of_ble_eq_true rfl)⟩ (fun H2 locs2 J2 hk2 => ?_)
  have J1 := LM_kept J1 (A := Aw (s.heap.size + 110) 43) (fun i hi z => by have := z.1; omega) hk2 J2.2.2.1
  have I3 := LM_kept I3 (A := Aw (s.heap.size + 110) 43) (fun i hi z => by have := z.2; omega) hk2 J2.2.2.1
  refine lv_pop hx9 hb9 dL_law_646 rfl ?_
  refine lv_goto (tgt := 1554) hx9 hb9 dL_law_647 (by decide) ?_
  refine W.widen (k := cl + 1) (n := sl + 6) (Nat.le_succ _) (Nat.le_add_right _ _) ?_
  exact K _ _ _ _ _ _ ⟨J1, J2, I3, L1⟩ hl
set_option maxHeartbeats 1000000 in
theorem lc_650 (S : CallFix p m c cL_law 7 s #[Value.ref b] lw_tbl RL) (hX : va_X b L xs s s.heap) (hbl : b < s.heap.size) {hx hm : PH} {f : Nat → Int64} (I : LW D cy hx hm f s H locs) {i : Int32} (hin : IN i L) {cl sl : Nat} (hc : cl ≤ 1000 ∧ sl ≤ 20000) (hl : lv_has ls 7 (LV b s i)) (K : ∀ (hx' hm' : PH) (f' : Nat → Int64) (H' : Heap) (locs' : List Loc) (ls' : Array Slot), LW D cy hx' hm' f' s H' locs' → lv_has ls' 7 (LV b s i) → W p l e room_1 s m #[Value.ref b] below meth c H' locs' (cl + 1) (sl + 6) (lw_Z below #[Value.ref b] s) (F0 m 1554 ls' [])) : W p l e room_1 s m #[Value.ref b] below meth c H locs cl sl (lw_Z below #[Value.ref b] s) (F0 m 650 ls []) := by
  have hbA : ¬ A0 s b := Nat.not_le.mpr hbl
  have hx9 := S.1
  have hb9 := S.2.1
  obtain ⟨I1, I2, I3, L0⟩ := I
  have hS := I1.2.2.1
  obtain ⟨_, v1, v2, v3, v4, v5⟩ := hin
  obtain ⟨a, hx', hm', ex, em, L1⟩ := p_minutes L0 (xs (i + 1).toNatClampNeg)
  refine lv_aload_n hx9 hb9 dL_law_650 rfl (lv_at hl 1 rfl) ?_
  refine lv_aload_n hx9 hb9 dL_law_651 rfl (lv_at hl 0 rfl) ?_
  refine lv_iload hx9 hb9 dL_law_652 (lv_at hl 4 rfl) ?_
  refine lv_iconst (v := 1) hx9 hb9 dL_law_654 (by decide) ?_
  refine lv_iadd hx9 hb9 dL_law_655 ?_
  refine va_sld (A := A0 s) hx9 hb9 hX hbl hbA hS v1 dL_law_656 ?_
  refine l_Vi (As := [.int (xs (i + 1).toNatClampNeg)]) S (M11_minutes l D cy s.heap.size (Aw s.heap.size 110) false ex) gL_11_minutes rfl rfl rfl cdL_11_minutes ⟨Nat.le_of_ble_eq_true rfl, Nat.le_of_ble_eq_true rfl⟩ I1 (Nat.le_refl _) (x_ok L0.1).1 clX11 rfl rfl hl.1 rfl (Nat.le_of_ble_eq_true rfl) dL_law_657 ⟨Nat.le_trans (Nat.add_le_add_right hc.1 _) (Nat.le_of_ble_eq_true rfl), Nat.le_trans (Nat.add_le_add_right hc.2 _) (Nat.le_of_ble_eq_true rfl)⟩ (fun H1 locs1 J1 hk1 => ?_)
  have I2 := LM_kept I2 (A := Aw s.heap.size 110) (fun i hi z => by have := z.2; omega) hk1 J1.2.2.1
  have I3 := LM_kept I3 (A := Aw s.heap.size 110) (fun i hi z => by have := z.2; omega) hk1 J1.2.2.1
  have hS := I2.2.2.1
  refine lv_pop hx9 hb9 dL_law_660 rfl ?_
  refine lv_aload_n hx9 hb9 dL_law_661 rfl (lv_at hl 2 rfl) ?_
  refine lv_aload_n hx9 hb9 dL_law_662 rfl (lv_at hl 0 rfl) ?_
  refine lv_iload hx9 hb9 dL_law_663 (lv_at hl 4 rfl) ?_
  refine lv_iconst (v := 1) hx9 hb9 dL_law_665 (by decide) ?_
  refine lv_iadd hx9 hb9 dL_law_666 ?_
  refine va_sld (A := A0 s) hx9 hb9 hX hbl hbA hS v1 dL_law_667 ?_
  refine l_Vi (As := [.int (xs (i + 1).toNatClampNeg)]) S (M12_minutes l D cy (s.heap.size + 110) (Aw (s.heap.size + 110) 43) false em) gL_12_minutes rfl rfl rfl cdL_12_minutes ⟨Nat.le_of_ble_eq_true rfl, Nat.le_of_ble_eq_true rfl⟩ I2 (Nat.le_add_right _ _) (m_ok L0.2.1).1 clX12 rfl rfl hl.1 rfl (Nat.le_of_ble_eq_true rfl) dL_law_668 ⟨Nat.le_trans (Nat.add_le_add_right hc.1 _) (Nat.le_of_ble_eq_true rfl), Nat.le_trans (Nat.add_le_add_right hc.2 _) (Nat.le_of_ble_eq_true rfl)⟩ (fun H2 locs2 J2 hk2 => ?_)
  have J1 := LM_kept J1 (A := Aw (s.heap.size + 110) 43) (fun i hi z => by have := z.1; omega) hk2 J2.2.2.1
  have I3 := LM_kept I3 (A := Aw (s.heap.size + 110) 43) (fun i hi z => by have := z.2; omega) hk2 J2.2.2.1
  refine lv_pop hx9 hb9 dL_law_671 rfl ?_
  refine lv_goto (tgt := 1554) hx9 hb9 dL_law_672 (by decide) ?_
  refine W.widen (k := cl + 1) (n := sl + 6) (Nat.le_succ _) (Nat.le_add_right _ _) ?_
  exact K _ _ _ _ _ _ ⟨J1, J2, I3, L1⟩ hl
set_option maxHeartbeats 1000000 in
theorem lc_675 (S : CallFix p m c cL_law 7 s #[Value.ref b] lw_tbl RL) (hX : va_X b L xs s s.heap) (hbl : b < s.heap.size) {hx hm : PH} {f : Nat → Int64} (I : LW D cy hx hm f s H locs) {i : Int32} (hin : IN i L) {cl sl : Nat} (hc : cl ≤ 1000 ∧ sl ≤ 20000) (hl : lv_has ls 7 (LV b s i)) (K : ∀ (hx' hm' : PH) (f' : Nat → Int64) (H' : Heap) (locs' : List Loc) (ls' : Array Slot), LW D cy hx' hm' f' s H' locs' → lv_has ls' 7 (LV b s i) → W p l e room_1 s m #[Value.ref b] below meth c H' locs' (cl + 1) (sl + 6) (lw_Z below #[Value.ref b] s) (F0 m 1554 ls' [])) : W p l e room_1 s m #[Value.ref b] below meth c H locs cl sl (lw_Z below #[Value.ref b] s) (F0 m 675 ls []) := by
  have hbA : ¬ A0 s b := Nat.not_le.mpr hbl
  have hx9 := S.1
  have hb9 := S.2.1
  obtain ⟨I1, I2, I3, L0⟩ := I
  have hS := I1.2.2.1
  obtain ⟨_, v1, v2, v3, v4, v5⟩ := hin
  obtain ⟨a, hx', hm', ex, em, L1⟩ := p_order L0 (xs (i + 1).toNatClampNeg) (xs (i + 2).toNatClampNeg)
  refine lv_aload_n hx9 hb9 dL_law_675 rfl (lv_at hl 1 rfl) ?_
  refine lv_aload_n hx9 hb9 dL_law_676 rfl (lv_at hl 0 rfl) ?_
  refine lv_iload hx9 hb9 dL_law_677 (lv_at hl 4 rfl) ?_
  refine lv_iconst (v := 1) hx9 hb9 dL_law_679 (by decide) ?_
  refine lv_iadd hx9 hb9 dL_law_680 ?_
  refine va_sld (A := A0 s) hx9 hb9 hX hbl hbA hS v1 dL_law_681 ?_
  refine lv_aload_n hx9 hb9 dL_law_682 rfl (lv_at hl 0 rfl) ?_
  refine lv_iload hx9 hb9 dL_law_683 (lv_at hl 4 rfl) ?_
  refine lv_iconst (v := 2) hx9 hb9 dL_law_685 (by decide) ?_
  refine lv_iadd hx9 hb9 dL_law_686 ?_
  refine va_sld (A := A0 s) hx9 hb9 hX hbl hbA hS v2 dL_law_687 ?_
  refine l_Vi (As := [.int (xs (i + 1).toNatClampNeg), .int (xs (i + 2).toNatClampNeg)]) S (M11_order l D cy s.heap.size (Aw s.heap.size 110) false ex) gL_11_order rfl rfl rfl cdL_11_order ⟨Nat.le_of_ble_eq_true rfl, Nat.le_of_ble_eq_true rfl⟩ I1 (Nat.le_refl _) (x_ok L0.1).1 clX11 rfl rfl hl.1 rfl (Nat.le_of_ble_eq_true rfl) dL_law_688 ⟨Nat.le_trans (Nat.add_le_add_right hc.1 _) (Nat.le_of_ble_eq_true rfl), Nat.le_trans (Nat.add_le_add_right hc.2 _) (Nat.le_of_ble_eq_true rfl)⟩ (fun H1 locs1 J1 hk1 => ?_)
  have I2 := LM_kept I2 (A := Aw s.heap.size 110) (fun i hi z => by have := z.2; omega) hk1 J1.2.2.1
  have I3 := LM_kept I3 (A := Aw s.heap.size 110) (fun i hi z => by have := z.2; omega) hk1 J1.2.2.1
  have hS := I2.2.2.1
  refine lv_pop hx9 hb9 dL_law_691 rfl ?_
  refine lv_aload_n hx9 hb9 dL_law_692 rfl (lv_at hl 2 rfl) ?_
  refine lv_aload_n hx9 hb9 dL_law_693 rfl (lv_at hl 0 rfl) ?_
  refine lv_iload hx9 hb9 dL_law_694 (lv_at hl 4 rfl) ?_
  refine lv_iconst (v := 1) hx9 hb9 dL_law_696 (by decide) ?_
  refine lv_iadd hx9 hb9 dL_law_697 ?_
  refine va_sld (A := A0 s) hx9 hb9 hX hbl hbA hS v1 dL_law_698 ?_
  refine lv_aload_n hx9 hb9 dL_law_699 rfl (lv_at hl 0 rfl) ?_
  refine lv_iload hx9 hb9 dL_law_700 (lv_at hl 4 rfl) ?_
  refine lv_iconst (v := 2) hx9 hb9 dL_law_702 (by decide) ?_
  refine lv_iadd hx9 hb9 dL_law_703 ?_
  refine va_sld (A := A0 s) hx9 hb9 hX hbl hbA hS v2 dL_law_704 ?_
  refine l_Vi (As := [.int (xs (i + 1).toNatClampNeg), .int (xs (i + 2).toNatClampNeg)]) S (M12_order l D cy (s.heap.size + 110) (Aw (s.heap.size + 110) 43) false em) gL_12_order rfl rfl rfl cdL_12_order ⟨Nat.le_of_ble_eq_true rfl, Nat.le_of_ble_eq_true rfl⟩ I2 (Nat.le_add_right _ _) (m_ok L0.2.1).1 clX12 rfl rfl hl.1 rfl (Nat.le_of_ble_eq_true rfl) dL_law_705 ⟨Nat.le_trans (Nat.add_le_add_right hc.1 _) (Nat.le_of_ble_eq_true rfl), Nat.le_trans (Nat.add_le_add_right hc.2 _) (Nat.le_of_ble_eq_true rfl)⟩ (fun H2 locs2 J2 hk2 => ?_)
  have J1 := LM_kept J1 (A := Aw (s.heap.size + 110) 43) (fun i hi z => by have := z.1; omega) hk2 J2.2.2.1
  have I3 := LM_kept I3 (A := Aw (s.heap.size + 110) 43) (fun i hi z => by have := z.2; omega) hk2 J2.2.2.1
  refine lv_pop hx9 hb9 dL_law_708 rfl ?_
  refine lv_goto (tgt := 1554) hx9 hb9 dL_law_709 (by decide) ?_
  refine W.widen (k := cl + 1) (n := sl + 6) (Nat.le_succ _) (Nat.le_add_right _ _) ?_
  exact K _ _ _ _ _ _ ⟨J1, J2, I3, L1⟩ hl
set_option maxHeartbeats 1000000 in
theorem lc_712 (S : CallFix p m c cL_law 7 s #[Value.ref b] lw_tbl RL) (hX : va_X b L xs s s.heap) (hbl : b < s.heap.size) {hx hm : PH} {f : Nat → Int64} (I : LW D cy hx hm f s H locs) {i : Int32} (hin : IN i L) {cl sl : Nat} (hc : cl ≤ 1000 ∧ sl ≤ 20000) (hl : lv_has ls 7 (LV b s i)) (K : ∀ (hx' hm' : PH) (f' : Nat → Int64) (H' : Heap) (locs' : List Loc) (ls' : Array Slot), LW D cy hx' hm' f' s H' locs' → lv_has ls' 7 (LV b s i) → W p l e room_1 s m #[Value.ref b] below meth c H' locs' (cl + 1) (sl + 6) (lw_Z below #[Value.ref b] s) (F0 m 1554 ls' [])) : W p l e room_1 s m #[Value.ref b] below meth c H locs cl sl (lw_Z below #[Value.ref b] s) (F0 m 712 ls []) := by
  have hbA : ¬ A0 s b := Nat.not_le.mpr hbl
  have hx9 := S.1
  have hb9 := S.2.1
  obtain ⟨I1, I2, I3, L0⟩ := I
  have hS := I1.2.2.1
  obtain ⟨_, v1, v2, v3, v4, v5⟩ := hin
  obtain ⟨a, hx', hm', ex, em, L1⟩ := p_deeper L0 (xs (i + 1).toNatClampNeg) (xs (i + 2).toNatClampNeg)
  refine lv_aload_n hx9 hb9 dL_law_712 rfl (lv_at hl 1 rfl) ?_
  refine lv_aload_n hx9 hb9 dL_law_713 rfl (lv_at hl 0 rfl) ?_
  refine lv_iload hx9 hb9 dL_law_714 (lv_at hl 4 rfl) ?_
  refine lv_iconst (v := 1) hx9 hb9 dL_law_716 (by decide) ?_
  refine lv_iadd hx9 hb9 dL_law_717 ?_
  refine va_sld (A := A0 s) hx9 hb9 hX hbl hbA hS v1 dL_law_718 ?_
  refine lv_aload_n hx9 hb9 dL_law_719 rfl (lv_at hl 0 rfl) ?_
  refine lv_iload hx9 hb9 dL_law_720 (lv_at hl 4 rfl) ?_
  refine lv_iconst (v := 2) hx9 hb9 dL_law_722 (by decide) ?_
  refine lv_iadd hx9 hb9 dL_law_723 ?_
  refine va_sld (A := A0 s) hx9 hb9 hX hbl hbA hS v2 dL_law_724 ?_
  refine l_Vi (As := [.int (xs (i + 1).toNatClampNeg), .int (xs (i + 2).toNatClampNeg)]) S (M11_deeper l D cy s.heap.size (Aw s.heap.size 110) false ex) gL_11_deeper rfl rfl rfl cdL_11_deeper ⟨Nat.le_of_ble_eq_true rfl, Nat.le_of_ble_eq_true rfl⟩ I1 (Nat.le_refl _) (x_ok L0.1).1 clX11 rfl rfl hl.1 rfl (Nat.le_of_ble_eq_true rfl) dL_law_725 ⟨Nat.le_trans (Nat.add_le_add_right hc.1 _) (Nat.le_of_ble_eq_true rfl), Nat.le_trans (Nat.add_le_add_right hc.2 _) (Nat.le_of_ble_eq_true rfl)⟩ (fun H1 locs1 J1 hk1 => ?_)
  have I2 := LM_kept I2 (A := Aw s.heap.size 110) (fun i hi z => by have := z.2; omega) hk1 J1.2.2.1
  have I3 := LM_kept I3 (A := Aw s.heap.size 110) (fun i hi z => by have := z.2; omega) hk1 J1.2.2.1
  have hS := I2.2.2.1
  refine lv_pop hx9 hb9 dL_law_728 rfl ?_
  refine lv_aload_n hx9 hb9 dL_law_729 rfl (lv_at hl 2 rfl) ?_
  refine lv_aload_n hx9 hb9 dL_law_730 rfl (lv_at hl 0 rfl) ?_
  refine lv_iload hx9 hb9 dL_law_731 (lv_at hl 4 rfl) ?_
  refine lv_iconst (v := 1) hx9 hb9 dL_law_733 (by decide) ?_
  refine lv_iadd hx9 hb9 dL_law_734 ?_
  refine va_sld (A := A0 s) hx9 hb9 hX hbl hbA hS v1 dL_law_735 ?_
  refine lv_aload_n hx9 hb9 dL_law_736 rfl (lv_at hl 0 rfl) ?_
  refine lv_iload hx9 hb9 dL_law_737 (lv_at hl 4 rfl) ?_
  refine lv_iconst (v := 2) hx9 hb9 dL_law_739 (by decide) ?_
  refine lv_iadd hx9 hb9 dL_law_740 ?_
  refine va_sld (A := A0 s) hx9 hb9 hX hbl hbA hS v2 dL_law_741 ?_
  refine l_Vi (As := [.int (xs (i + 1).toNatClampNeg), .int (xs (i + 2).toNatClampNeg)]) S (M12_deeper l D cy (s.heap.size + 110) (Aw (s.heap.size + 110) 43) false em) gL_12_deeper rfl rfl rfl cdL_12_deeper ⟨Nat.le_of_ble_eq_true rfl, Nat.le_of_ble_eq_true rfl⟩ I2 (Nat.le_add_right _ _) (m_ok L0.2.1).1 clX12 rfl rfl hl.1 rfl (Nat.le_of_ble_eq_true rfl) dL_law_742 ⟨Nat.le_trans (Nat.add_le_add_right hc.1 _) (Nat.le_of_ble_eq_true rfl), Nat.le_trans (Nat.add_le_add_right hc.2 _) (Nat.le_of_ble_eq_true rfl)⟩ (fun H2 locs2 J2 hk2 => ?_)
  have J1 := LM_kept J1 (A := Aw (s.heap.size + 110) 43) (fun i hi z => by have := z.1; omega) hk2 J2.2.2.1
  have I3 := LM_kept I3 (A := Aw (s.heap.size + 110) 43) (fun i hi z => by have := z.2; omega) hk2 J2.2.2.1
  refine lv_pop hx9 hb9 dL_law_745 rfl ?_
  refine lv_goto (tgt := 1554) hx9 hb9 dL_law_746 (by decide) ?_
  refine W.widen (k := cl + 1) (n := sl + 6) (Nat.le_succ _) (Nat.le_add_right _ _) ?_
  exact K _ _ _ _ _ _ ⟨J1, J2, I3, L1⟩ hl
set_option maxHeartbeats 1000000 in
theorem lc_749 (S : CallFix p m c cL_law 7 s #[Value.ref b] lw_tbl RL) (hX : va_X b L xs s s.heap) (hbl : b < s.heap.size) {hx hm : PH} {f : Nat → Int64} (I : LW D cy hx hm f s H locs) {i : Int32} (hin : IN i L) {cl sl : Nat} (hc : cl ≤ 1000 ∧ sl ≤ 20000) (hl : lv_has ls 7 (LV b s i)) (K : ∀ (hx' hm' : PH) (f' : Nat → Int64) (H' : Heap) (locs' : List Loc) (ls' : Array Slot), LW D cy hx' hm' f' s H' locs' → lv_has ls' 7 (LV b s i) → W p l e room_1 s m #[Value.ref b] below meth c H' locs' (cl + 1) (sl + 6) (lw_Z below #[Value.ref b] s) (F0 m 1554 ls' [])) : W p l e room_1 s m #[Value.ref b] below meth c H locs cl sl (lw_Z below #[Value.ref b] s) (F0 m 749 ls []) := by
  have hbA : ¬ A0 s b := Nat.not_le.mpr hbl
  have hx9 := S.1
  have hb9 := S.2.1
  obtain ⟨I1, I2, I3, L0⟩ := I
  have hS := I1.2.2.1
  obtain ⟨_, v1, v2, v3, v4, v5⟩ := hin
  obtain ⟨a, hx', hm', ex, em, L1⟩ := p_seat L0 (xs (i + 1).toNatClampNeg) (xs (i + 2).toNatClampNeg)
  refine lv_aload_n hx9 hb9 dL_law_749 rfl (lv_at hl 1 rfl) ?_
  refine lv_aload_n hx9 hb9 dL_law_750 rfl (lv_at hl 0 rfl) ?_
  refine lv_iload hx9 hb9 dL_law_751 (lv_at hl 4 rfl) ?_
  refine lv_iconst (v := 1) hx9 hb9 dL_law_753 (by decide) ?_
  refine lv_iadd hx9 hb9 dL_law_754 ?_
  refine va_sld (A := A0 s) hx9 hb9 hX hbl hbA hS v1 dL_law_755 ?_
  refine lv_aload_n hx9 hb9 dL_law_756 rfl (lv_at hl 0 rfl) ?_
  refine lv_iload hx9 hb9 dL_law_757 (lv_at hl 4 rfl) ?_
  refine lv_iconst (v := 2) hx9 hb9 dL_law_759 (by decide) ?_
  refine lv_iadd hx9 hb9 dL_law_760 ?_
  refine va_sld (A := A0 s) hx9 hb9 hX hbl hbA hS v2 dL_law_761 ?_
  refine l_Vi (As := [.int (xs (i + 1).toNatClampNeg), .int (xs (i + 2).toNatClampNeg)]) S (M11_seat l D cy s.heap.size (Aw s.heap.size 110) false ex) gL_11_seat rfl rfl rfl cdL_11_seat ⟨Nat.le_of_ble_eq_true rfl, Nat.le_of_ble_eq_true rfl⟩ I1 (Nat.le_refl _) (x_ok L0.1).1 clX11 rfl rfl hl.1 rfl (Nat.le_of_ble_eq_true rfl) dL_law_762 ⟨Nat.le_trans (Nat.add_le_add_right hc.1 _) (Nat.le_of_ble_eq_true rfl), Nat.le_trans (Nat.add_le_add_right hc.2 _) (Nat.le_of_ble_eq_true rfl)⟩ (fun H1 locs1 J1 hk1 => ?_)
  have I2 := LM_kept I2 (A := Aw s.heap.size 110) (fun i hi z => by have := z.2; omega) hk1 J1.2.2.1
  have I3 := LM_kept I3 (A := Aw s.heap.size 110) (fun i hi z => by have := z.2; omega) hk1 J1.2.2.1
  have hS := I2.2.2.1
  refine lv_pop hx9 hb9 dL_law_765 rfl ?_
  refine lv_aload_n hx9 hb9 dL_law_766 rfl (lv_at hl 2 rfl) ?_
  refine lv_aload_n hx9 hb9 dL_law_767 rfl (lv_at hl 0 rfl) ?_
  refine lv_iload hx9 hb9 dL_law_768 (lv_at hl 4 rfl) ?_
  refine lv_iconst (v := 1) hx9 hb9 dL_law_770 (by decide) ?_
  refine lv_iadd hx9 hb9 dL_law_771 ?_
  refine va_sld (A := A0 s) hx9 hb9 hX hbl hbA hS v1 dL_law_772 ?_
  refine lv_aload_n hx9 hb9 dL_law_773 rfl (lv_at hl 0 rfl) ?_
  refine lv_iload hx9 hb9 dL_law_774 (lv_at hl 4 rfl) ?_
  refine lv_iconst (v := 2) hx9 hb9 dL_law_776 (by decide) ?_
  refine lv_iadd hx9 hb9 dL_law_777 ?_
  refine va_sld (A := A0 s) hx9 hb9 hX hbl hbA hS v2 dL_law_778 ?_
  refine l_Vi (As := [.int (xs (i + 1).toNatClampNeg), .int (xs (i + 2).toNatClampNeg)]) S (M12_seat l D cy (s.heap.size + 110) (Aw (s.heap.size + 110) 43) false em) gL_12_seat rfl rfl rfl cdL_12_seat ⟨Nat.le_of_ble_eq_true rfl, Nat.le_of_ble_eq_true rfl⟩ I2 (Nat.le_add_right _ _) (m_ok L0.2.1).1 clX12 rfl rfl hl.1 rfl (Nat.le_of_ble_eq_true rfl) dL_law_779 ⟨Nat.le_trans (Nat.add_le_add_right hc.1 _) (Nat.le_of_ble_eq_true rfl), Nat.le_trans (Nat.add_le_add_right hc.2 _) (Nat.le_of_ble_eq_true rfl)⟩ (fun H2 locs2 J2 hk2 => ?_)
  have J1 := LM_kept J1 (A := Aw (s.heap.size + 110) 43) (fun i hi z => by have := z.1; omega) hk2 J2.2.2.1
  have I3 := LM_kept I3 (A := Aw (s.heap.size + 110) 43) (fun i hi z => by have := z.2; omega) hk2 J2.2.2.1
  refine lv_pop hx9 hb9 dL_law_782 rfl ?_
  refine lv_goto (tgt := 1554) hx9 hb9 dL_law_783 (by decide) ?_
  refine W.widen (k := cl + 1) (n := sl + 6) (Nat.le_succ _) (Nat.le_add_right _ _) ?_
  exact K _ _ _ _ _ _ ⟨J1, J2, I3, L1⟩ hl
set_option maxHeartbeats 1000000 in
theorem lc_786 (S : CallFix p m c cL_law 7 s #[Value.ref b] lw_tbl RL) (hX : va_X b L xs s s.heap) (hbl : b < s.heap.size) {hx hm : PH} {f : Nat → Int64} (I : LW D cy hx hm f s H locs) {i : Int32} (hin : IN i L) {cl sl : Nat} (hc : cl ≤ 1000 ∧ sl ≤ 20000) (hl : lv_has ls 7 (LV b s i)) (K : ∀ (hx' hm' : PH) (f' : Nat → Int64) (H' : Heap) (locs' : List Loc) (ls' : Array Slot), LW D cy hx' hm' f' s H' locs' → lv_has ls' 7 (LV b s i) → W p l e room_1 s m #[Value.ref b] below meth c H' locs' (cl + 1) (sl + 6) (lw_Z below #[Value.ref b] s) (F0 m 1554 ls' [])) : W p l e room_1 s m #[Value.ref b] below meth c H locs cl sl (lw_Z below #[Value.ref b] s) (F0 m 786 ls []) := by
  have hbA : ¬ A0 s b := Nat.not_le.mpr hbl
  have hx9 := S.1
  have hb9 := S.2.1
  obtain ⟨I1, I2, I3, L0⟩ := I
  have hS := I1.2.2.1
  obtain ⟨_, v1, v2, v3, v4, v5⟩ := hin
  obtain ⟨a, hx', hm', ex, em, L1⟩ := p_best L0 (xs (i + 1).toNatClampNeg)
  refine lv_aload_n hx9 hb9 dL_law_786 rfl (lv_at hl 1 rfl) ?_
  refine lv_aload_n hx9 hb9 dL_law_787 rfl (lv_at hl 0 rfl) ?_
  refine lv_iload hx9 hb9 dL_law_788 (lv_at hl 4 rfl) ?_
  refine lv_iconst (v := 1) hx9 hb9 dL_law_790 (by decide) ?_
  refine lv_iadd hx9 hb9 dL_law_791 ?_
  refine va_sld (A := A0 s) hx9 hb9 hX hbl hbA hS v1 dL_law_792 ?_
  refine l_Vi (As := [.int (xs (i + 1).toNatClampNeg)]) S (M11_best l D cy s.heap.size (Aw s.heap.size 110) false ex) gL_11_best rfl rfl rfl cdL_11_best ⟨Nat.le_of_ble_eq_true rfl, Nat.le_of_ble_eq_true rfl⟩ I1 (Nat.le_refl _) (x_ok L0.1).1 clX11 rfl rfl hl.1 rfl (Nat.le_of_ble_eq_true rfl) dL_law_793 ⟨Nat.le_trans (Nat.add_le_add_right hc.1 _) (Nat.le_of_ble_eq_true rfl), Nat.le_trans (Nat.add_le_add_right hc.2 _) (Nat.le_of_ble_eq_true rfl)⟩ (fun H1 locs1 J1 hk1 => ?_)
  have I2 := LM_kept I2 (A := Aw s.heap.size 110) (fun i hi z => by have := z.2; omega) hk1 J1.2.2.1
  have I3 := LM_kept I3 (A := Aw s.heap.size 110) (fun i hi z => by have := z.2; omega) hk1 J1.2.2.1
  have hS := I2.2.2.1
  refine lv_pop hx9 hb9 dL_law_796 rfl ?_
  refine lv_aload_n hx9 hb9 dL_law_797 rfl (lv_at hl 2 rfl) ?_
  refine lv_aload_n hx9 hb9 dL_law_798 rfl (lv_at hl 0 rfl) ?_
  refine lv_iload hx9 hb9 dL_law_799 (lv_at hl 4 rfl) ?_
  refine lv_iconst (v := 1) hx9 hb9 dL_law_801 (by decide) ?_
  refine lv_iadd hx9 hb9 dL_law_802 ?_
  refine va_sld (A := A0 s) hx9 hb9 hX hbl hbA hS v1 dL_law_803 ?_
  refine l_Vi (As := [.int (xs (i + 1).toNatClampNeg)]) S (M12_best l D cy (s.heap.size + 110) (Aw (s.heap.size + 110) 43) false em) gL_12_best rfl rfl rfl cdL_12_best ⟨Nat.le_of_ble_eq_true rfl, Nat.le_of_ble_eq_true rfl⟩ I2 (Nat.le_add_right _ _) (m_ok L0.2.1).1 clX12 rfl rfl hl.1 rfl (Nat.le_of_ble_eq_true rfl) dL_law_804 ⟨Nat.le_trans (Nat.add_le_add_right hc.1 _) (Nat.le_of_ble_eq_true rfl), Nat.le_trans (Nat.add_le_add_right hc.2 _) (Nat.le_of_ble_eq_true rfl)⟩ (fun H2 locs2 J2 hk2 => ?_)
  have J1 := LM_kept J1 (A := Aw (s.heap.size + 110) 43) (fun i hi z => by have := z.1; omega) hk2 J2.2.2.1
  have I3 := LM_kept I3 (A := Aw (s.heap.size + 110) 43) (fun i hi z => by have := z.2; omega) hk2 J2.2.2.1
  refine lv_pop hx9 hb9 dL_law_807 rfl ?_
  refine lv_goto (tgt := 1554) hx9 hb9 dL_law_808 (by decide) ?_
  refine W.widen (k := cl + 1) (n := sl + 6) (Nat.le_succ _) (Nat.le_add_right _ _) ?_
  exact K _ _ _ _ _ _ ⟨J1, J2, I3, L1⟩ hl
set_option maxHeartbeats 1000000 in
theorem lc_811 (S : CallFix p m c cL_law 7 s #[Value.ref b] lw_tbl RL) (hX : va_X b L xs s s.heap) (hbl : b < s.heap.size) {hx hm : PH} {f : Nat → Int64} (I : LW D cy hx hm f s H locs) {i : Int32} (hin : IN i L) {cl sl : Nat} (hc : cl ≤ 1000 ∧ sl ≤ 20000) (hl : lv_has ls 7 (LV b s i)) (K : ∀ (hx' hm' : PH) (f' : Nat → Int64) (H' : Heap) (locs' : List Loc) (ls' : Array Slot), LW D cy hx' hm' f' s H' locs' → lv_has ls' 7 (LV b s i) → W p l e room_1 s m #[Value.ref b] below meth c H' locs' (cl + 1) (sl + 6) (lw_Z below #[Value.ref b] s) (F0 m 1554 ls' [])) : W p l e room_1 s m #[Value.ref b] below meth c H locs cl sl (lw_Z below #[Value.ref b] s) (F0 m 811 ls []) := by
  have hbA : ¬ A0 s b := Nat.not_le.mpr hbl
  have hx9 := S.1
  have hb9 := S.2.1
  obtain ⟨I1, I2, I3, L0⟩ := I
  have hS := I1.2.2.1
  obtain ⟨_, v1, v2, v3, v4, v5⟩ := hin
  obtain ⟨a, hx', hm', ex, em, L1⟩ := p_rests L0 (xs (i + 1).toNatClampNeg) (xs (i + 2).toNatClampNeg)
  refine lv_aload_n hx9 hb9 dL_law_811 rfl (lv_at hl 1 rfl) ?_
  refine lv_aload_n hx9 hb9 dL_law_812 rfl (lv_at hl 0 rfl) ?_
  refine lv_iload hx9 hb9 dL_law_813 (lv_at hl 4 rfl) ?_
  refine lv_iconst (v := 1) hx9 hb9 dL_law_815 (by decide) ?_
  refine lv_iadd hx9 hb9 dL_law_816 ?_
  refine va_sld (A := A0 s) hx9 hb9 hX hbl hbA hS v1 dL_law_817 ?_
  refine lv_aload_n hx9 hb9 dL_law_818 rfl (lv_at hl 0 rfl) ?_
  refine lv_iload hx9 hb9 dL_law_819 (lv_at hl 4 rfl) ?_
  refine lv_iconst (v := 2) hx9 hb9 dL_law_821 (by decide) ?_
  refine lv_iadd hx9 hb9 dL_law_822 ?_
  refine va_sld (A := A0 s) hx9 hb9 hX hbl hbA hS v2 dL_law_823 ?_
  refine l_Vi (As := [.int (xs (i + 1).toNatClampNeg), .int (xs (i + 2).toNatClampNeg)]) S (M11_rests l D cy s.heap.size (Aw s.heap.size 110) false ex) gL_11_rests rfl rfl rfl cdL_11_rests ⟨Nat.le_of_ble_eq_true rfl, Nat.le_of_ble_eq_true rfl⟩ I1 (Nat.le_refl _) (x_ok L0.1).1 clX11 rfl rfl hl.1 rfl (Nat.le_of_ble_eq_true rfl) dL_law_824 ⟨Nat.le_trans (Nat.add_le_add_right hc.1 _) (Nat.le_of_ble_eq_true rfl), Nat.le_trans (Nat.add_le_add_right hc.2 _) (Nat.le_of_ble_eq_true rfl)⟩ (fun H1 locs1 J1 hk1 => ?_)
  have I2 := LM_kept I2 (A := Aw s.heap.size 110) (fun i hi z => by have := z.2; omega) hk1 J1.2.2.1
  have I3 := LM_kept I3 (A := Aw s.heap.size 110) (fun i hi z => by have := z.2; omega) hk1 J1.2.2.1
  have hS := I2.2.2.1
  refine lv_pop hx9 hb9 dL_law_827 rfl ?_
  refine lv_aload_n hx9 hb9 dL_law_828 rfl (lv_at hl 2 rfl) ?_
  refine lv_aload_n hx9 hb9 dL_law_829 rfl (lv_at hl 0 rfl) ?_
  refine lv_iload hx9 hb9 dL_law_830 (lv_at hl 4 rfl) ?_
  refine lv_iconst (v := 1) hx9 hb9 dL_law_832 (by decide) ?_
  refine lv_iadd hx9 hb9 dL_law_833 ?_
  refine va_sld (A := A0 s) hx9 hb9 hX hbl hbA hS v1 dL_law_834 ?_
  refine lv_aload_n hx9 hb9 dL_law_835 rfl (lv_at hl 0 rfl) ?_
  refine lv_iload hx9 hb9 dL_law_836 (lv_at hl 4 rfl) ?_
  refine lv_iconst (v := 2) hx9 hb9 dL_law_838 (by decide) ?_
  refine lv_iadd hx9 hb9 dL_law_839 ?_
  refine va_sld (A := A0 s) hx9 hb9 hX hbl hbA hS v2 dL_law_840 ?_
  refine l_Vi (As := [.int (xs (i + 1).toNatClampNeg), .int (xs (i + 2).toNatClampNeg)]) S (M12_rests l D cy (s.heap.size + 110) (Aw (s.heap.size + 110) 43) false em) gL_12_rests rfl rfl rfl cdL_12_rests ⟨Nat.le_of_ble_eq_true rfl, Nat.le_of_ble_eq_true rfl⟩ I2 (Nat.le_add_right _ _) (m_ok L0.2.1).1 clX12 rfl rfl hl.1 rfl (Nat.le_of_ble_eq_true rfl) dL_law_841 ⟨Nat.le_trans (Nat.add_le_add_right hc.1 _) (Nat.le_of_ble_eq_true rfl), Nat.le_trans (Nat.add_le_add_right hc.2 _) (Nat.le_of_ble_eq_true rfl)⟩ (fun H2 locs2 J2 hk2 => ?_)
  have J1 := LM_kept J1 (A := Aw (s.heap.size + 110) 43) (fun i hi z => by have := z.1; omega) hk2 J2.2.2.1
  have I3 := LM_kept I3 (A := Aw (s.heap.size + 110) 43) (fun i hi z => by have := z.2; omega) hk2 J2.2.2.1
  refine lv_pop hx9 hb9 dL_law_844 rfl ?_
  refine lv_goto (tgt := 1554) hx9 hb9 dL_law_845 (by decide) ?_
  refine W.widen (k := cl + 1) (n := sl + 6) (Nat.le_succ _) (Nat.le_add_right _ _) ?_
  exact K _ _ _ _ _ _ ⟨J1, J2, I3, L1⟩ hl
set_option maxHeartbeats 1000000 in
theorem lc_848 (S : CallFix p m c cL_law 7 s #[Value.ref b] lw_tbl RL) (hX : va_X b L xs s s.heap) (hbl : b < s.heap.size) {hx hm : PH} {f : Nat → Int64} (I : LW D cy hx hm f s H locs) {i : Int32} (hin : IN i L) {cl sl : Nat} (hc : cl ≤ 1000 ∧ sl ≤ 20000) (hl : lv_has ls 7 (LV b s i)) (K : ∀ (hx' hm' : PH) (f' : Nat → Int64) (H' : Heap) (locs' : List Loc) (ls' : Array Slot), LW D cy hx' hm' f' s H' locs' → lv_has ls' 7 (LV b s i) → W p l e room_1 s m #[Value.ref b] below meth c H' locs' (cl + 1) (sl + 6) (lw_Z below #[Value.ref b] s) (F0 m 1554 ls' [])) : W p l e room_1 s m #[Value.ref b] below meth c H locs cl sl (lw_Z below #[Value.ref b] s) (F0 m 848 ls []) := by
  have hbA : ¬ A0 s b := Nat.not_le.mpr hbl
  have hx9 := S.1
  have hb9 := S.2.1
  obtain ⟨I1, I2, I3, L0⟩ := I
  have hS := I1.2.2.1
  obtain ⟨_, v1, v2, v3, v4, v5⟩ := hin
  obtain ⟨a, hx', hm', ex, em, L1⟩ := p_rest L0 (xs (i + 1).toNatClampNeg) (xs (i + 2).toNatClampNeg) (xs (i + 3).toNatClampNeg)
  refine lv_aload_n hx9 hb9 dL_law_848 rfl (lv_at hl 1 rfl) ?_
  refine lv_aload_n hx9 hb9 dL_law_849 rfl (lv_at hl 0 rfl) ?_
  refine lv_iload hx9 hb9 dL_law_850 (lv_at hl 4 rfl) ?_
  refine lv_iconst (v := 1) hx9 hb9 dL_law_852 (by decide) ?_
  refine lv_iadd hx9 hb9 dL_law_853 ?_
  refine va_sld (A := A0 s) hx9 hb9 hX hbl hbA hS v1 dL_law_854 ?_
  refine lv_aload_n hx9 hb9 dL_law_855 rfl (lv_at hl 0 rfl) ?_
  refine lv_iload hx9 hb9 dL_law_856 (lv_at hl 4 rfl) ?_
  refine lv_iconst (v := 2) hx9 hb9 dL_law_858 (by decide) ?_
  refine lv_iadd hx9 hb9 dL_law_859 ?_
  refine va_sld (A := A0 s) hx9 hb9 hX hbl hbA hS v2 dL_law_860 ?_
  refine lv_aload_n hx9 hb9 dL_law_861 rfl (lv_at hl 0 rfl) ?_
  refine lv_iload hx9 hb9 dL_law_862 (lv_at hl 4 rfl) ?_
  refine lv_iconst (v := 3) hx9 hb9 dL_law_864 (by decide) ?_
  refine lv_iadd hx9 hb9 dL_law_865 ?_
  refine va_sld (A := A0 s) hx9 hb9 hX hbl hbA hS v3 dL_law_866 ?_
  refine l_Vi (As := [.int (xs (i + 1).toNatClampNeg), .int (xs (i + 2).toNatClampNeg), .int (xs (i + 3).toNatClampNeg)]) S (M11_rest l D cy s.heap.size (Aw s.heap.size 110) false ex) gL_11_rest rfl rfl rfl cdL_11_rest ⟨Nat.le_of_ble_eq_true rfl, Nat.le_of_ble_eq_true rfl⟩ I1 (Nat.le_refl _) (x_ok L0.1).1 clX11 rfl rfl hl.1 rfl (Nat.le_of_ble_eq_true rfl) dL_law_867 ⟨Nat.le_trans (Nat.add_le_add_right hc.1 _) (Nat.le_of_ble_eq_true rfl), Nat.le_trans (Nat.add_le_add_right hc.2 _) (Nat.le_of_ble_eq_true rfl)⟩ (fun H1 locs1 J1 hk1 => ?_)
  have I2 := LM_kept I2 (A := Aw s.heap.size 110) (fun i hi z => by have := z.2; omega) hk1 J1.2.2.1
  have I3 := LM_kept I3 (A := Aw s.heap.size 110) (fun i hi z => by have := z.2; omega) hk1 J1.2.2.1
  have hS := I2.2.2.1
  refine lv_pop hx9 hb9 dL_law_870 rfl ?_
  refine lv_aload_n hx9 hb9 dL_law_871 rfl (lv_at hl 2 rfl) ?_
  refine lv_aload_n hx9 hb9 dL_law_872 rfl (lv_at hl 0 rfl) ?_
  refine lv_iload hx9 hb9 dL_law_873 (lv_at hl 4 rfl) ?_
  refine lv_iconst (v := 1) hx9 hb9 dL_law_875 (by decide) ?_
  refine lv_iadd hx9 hb9 dL_law_876 ?_
  refine va_sld (A := A0 s) hx9 hb9 hX hbl hbA hS v1 dL_law_877 ?_
  refine lv_aload_n hx9 hb9 dL_law_878 rfl (lv_at hl 0 rfl) ?_
  refine lv_iload hx9 hb9 dL_law_879 (lv_at hl 4 rfl) ?_
  refine lv_iconst (v := 2) hx9 hb9 dL_law_881 (by decide) ?_
  refine lv_iadd hx9 hb9 dL_law_882 ?_
  refine va_sld (A := A0 s) hx9 hb9 hX hbl hbA hS v2 dL_law_883 ?_
  refine lv_aload_n hx9 hb9 dL_law_884 rfl (lv_at hl 0 rfl) ?_
  refine lv_iload hx9 hb9 dL_law_885 (lv_at hl 4 rfl) ?_
  refine lv_iconst (v := 3) hx9 hb9 dL_law_887 (by decide) ?_
  refine lv_iadd hx9 hb9 dL_law_888 ?_
  refine va_sld (A := A0 s) hx9 hb9 hX hbl hbA hS v3 dL_law_889 ?_
  refine l_Vi (As := [.int (xs (i + 1).toNatClampNeg), .int (xs (i + 2).toNatClampNeg), .int (xs (i + 3).toNatClampNeg)]) S (M12_rest l D cy (s.heap.size + 110) (Aw (s.heap.size + 110) 43) false em) gL_12_rest rfl rfl rfl cdL_12_rest ⟨Nat.le_of_ble_eq_true rfl, Nat.le_of_ble_eq_true rfl⟩ I2 (Nat.le_add_right _ _) (m_ok L0.2.1).1 clX12 rfl rfl hl.1 rfl (Nat.le_of_ble_eq_true rfl) dL_law_890 ⟨Nat.le_trans (Nat.add_le_add_right hc.1 _) (Nat.le_of_ble_eq_true rfl), Nat.le_trans (Nat.add_le_add_right hc.2 _) (Nat.le_of_ble_eq_true rfl)⟩ (fun H2 locs2 J2 hk2 => ?_)
  have J1 := LM_kept J1 (A := Aw (s.heap.size + 110) 43) (fun i hi z => by have := z.1; omega) hk2 J2.2.2.1
  have I3 := LM_kept I3 (A := Aw (s.heap.size + 110) 43) (fun i hi z => by have := z.2; omega) hk2 J2.2.2.1
  refine lv_pop hx9 hb9 dL_law_893 rfl ?_
  refine lv_goto (tgt := 1554) hx9 hb9 dL_law_894 (by decide) ?_
  refine W.widen (k := cl + 1) (n := sl + 6) (Nat.le_succ _) (Nat.le_add_right _ _) ?_
  exact K _ _ _ _ _ _ ⟨J1, J2, I3, L1⟩ hl
set_option maxHeartbeats 1000000 in
theorem lc_897 (S : CallFix p m c cL_law 7 s #[Value.ref b] lw_tbl RL) (hX : va_X b L xs s s.heap) (hbl : b < s.heap.size) {hx hm : PH} {f : Nat → Int64} (I : LW D cy hx hm f s H locs) {i : Int32} (hin : IN i L) {cl sl : Nat} (hc : cl ≤ 1000 ∧ sl ≤ 20000) (hl : lv_has ls 7 (LV b s i)) (K : ∀ (hx' hm' : PH) (f' : Nat → Int64) (H' : Heap) (locs' : List Loc) (ls' : Array Slot), LW D cy hx' hm' f' s H' locs' → lv_has ls' 7 (LV b s i) → W p l e room_1 s m #[Value.ref b] below meth c H' locs' (cl + 1) (sl + 6) (lw_Z below #[Value.ref b] s) (F0 m 1554 ls' [])) : W p l e room_1 s m #[Value.ref b] below meth c H locs cl sl (lw_Z below #[Value.ref b] s) (F0 m 897 ls []) := by
  have hbA : ¬ A0 s b := Nat.not_le.mpr hbl
  have hx9 := S.1
  have hb9 := S.2.1
  obtain ⟨I1, I2, I3, L0⟩ := I
  have hS := I1.2.2.1
  obtain ⟨_, v1, v2, v3, v4, v5⟩ := hin
  obtain ⟨a, hx', hm', ex, em, L1⟩ := p_rank L0 (xs (i + 1).toNatClampNeg) (xs (i + 2).toNatClampNeg)
  refine lv_aload_n hx9 hb9 dL_law_897 rfl (lv_at hl 1 rfl) ?_
  refine lv_aload_n hx9 hb9 dL_law_898 rfl (lv_at hl 0 rfl) ?_
  refine lv_iload hx9 hb9 dL_law_899 (lv_at hl 4 rfl) ?_
  refine lv_iconst (v := 1) hx9 hb9 dL_law_901 (by decide) ?_
  refine lv_iadd hx9 hb9 dL_law_902 ?_
  refine va_sld (A := A0 s) hx9 hb9 hX hbl hbA hS v1 dL_law_903 ?_
  refine lv_aload_n hx9 hb9 dL_law_904 rfl (lv_at hl 0 rfl) ?_
  refine lv_iload hx9 hb9 dL_law_905 (lv_at hl 4 rfl) ?_
  refine lv_iconst (v := 2) hx9 hb9 dL_law_907 (by decide) ?_
  refine lv_iadd hx9 hb9 dL_law_908 ?_
  refine va_sld (A := A0 s) hx9 hb9 hX hbl hbA hS v2 dL_law_909 ?_
  refine l_Vi (As := [.int (xs (i + 1).toNatClampNeg), .int (xs (i + 2).toNatClampNeg)]) S (M11_rank l D cy s.heap.size (Aw s.heap.size 110) false ex) gL_11_rank rfl rfl rfl cdL_11_rank ⟨Nat.le_of_ble_eq_true rfl, Nat.le_of_ble_eq_true rfl⟩ I1 (Nat.le_refl _) (x_ok L0.1).1 clX11 rfl rfl hl.1 rfl (Nat.le_of_ble_eq_true rfl) dL_law_910 ⟨Nat.le_trans (Nat.add_le_add_right hc.1 _) (Nat.le_of_ble_eq_true rfl), Nat.le_trans (Nat.add_le_add_right hc.2 _) (Nat.le_of_ble_eq_true rfl)⟩ (fun H1 locs1 J1 hk1 => ?_)
  have I2 := LM_kept I2 (A := Aw s.heap.size 110) (fun i hi z => by have := z.2; omega) hk1 J1.2.2.1
  have I3 := LM_kept I3 (A := Aw s.heap.size 110) (fun i hi z => by have := z.2; omega) hk1 J1.2.2.1
  have hS := I2.2.2.1
  refine lv_pop hx9 hb9 dL_law_913 rfl ?_
  refine lv_aload_n hx9 hb9 dL_law_914 rfl (lv_at hl 2 rfl) ?_
  refine lv_aload_n hx9 hb9 dL_law_915 rfl (lv_at hl 0 rfl) ?_
  refine lv_iload hx9 hb9 dL_law_916 (lv_at hl 4 rfl) ?_
  refine lv_iconst (v := 1) hx9 hb9 dL_law_918 (by decide) ?_
  refine lv_iadd hx9 hb9 dL_law_919 ?_
  refine va_sld (A := A0 s) hx9 hb9 hX hbl hbA hS v1 dL_law_920 ?_
  refine lv_aload_n hx9 hb9 dL_law_921 rfl (lv_at hl 0 rfl) ?_
  refine lv_iload hx9 hb9 dL_law_922 (lv_at hl 4 rfl) ?_
  refine lv_iconst (v := 2) hx9 hb9 dL_law_924 (by decide) ?_
  refine lv_iadd hx9 hb9 dL_law_925 ?_
  refine va_sld (A := A0 s) hx9 hb9 hX hbl hbA hS v2 dL_law_926 ?_
  refine l_Vi (As := [.int (xs (i + 1).toNatClampNeg), .int (xs (i + 2).toNatClampNeg)]) S (M12_rank_ l D cy (s.heap.size + 110) (Aw (s.heap.size + 110) 43) false em) gL_12_rank_ rfl rfl rfl cdL_12_rank_ ⟨Nat.le_of_ble_eq_true rfl, Nat.le_of_ble_eq_true rfl⟩ I2 (Nat.le_add_right _ _) (m_ok L0.2.1).1 clX12 rfl rfl hl.1 rfl (Nat.le_of_ble_eq_true rfl) dL_law_927 ⟨Nat.le_trans (Nat.add_le_add_right hc.1 _) (Nat.le_of_ble_eq_true rfl), Nat.le_trans (Nat.add_le_add_right hc.2 _) (Nat.le_of_ble_eq_true rfl)⟩ (fun H2 locs2 J2 hk2 => ?_)
  have J1 := LM_kept J1 (A := Aw (s.heap.size + 110) 43) (fun i hi z => by have := z.1; omega) hk2 J2.2.2.1
  have I3 := LM_kept I3 (A := Aw (s.heap.size + 110) 43) (fun i hi z => by have := z.2; omega) hk2 J2.2.2.1
  refine lv_pop hx9 hb9 dL_law_930 rfl ?_
  refine lv_goto (tgt := 1554) hx9 hb9 dL_law_931 (by decide) ?_
  refine W.widen (k := cl + 1) (n := sl + 6) (Nat.le_succ _) (Nat.le_add_right _ _) ?_
  exact K _ _ _ _ _ _ ⟨J1, J2, I3, L1⟩ hl
set_option maxHeartbeats 1000000 in
theorem lc_934 (S : CallFix p m c cL_law 7 s #[Value.ref b] lw_tbl RL) (hX : va_X b L xs s s.heap) (hbl : b < s.heap.size) {hx hm : PH} {f : Nat → Int64} (I : LW D cy hx hm f s H locs) {i : Int32} (hin : IN i L) {cl sl : Nat} (hc : cl ≤ 1000 ∧ sl ≤ 20000) (hl : lv_has ls 7 (LV b s i)) (K : ∀ (hx' hm' : PH) (f' : Nat → Int64) (H' : Heap) (locs' : List Loc) (ls' : Array Slot), LW D cy hx' hm' f' s H' locs' → lv_has ls' 7 (LV b s i) → W p l e room_1 s m #[Value.ref b] below meth c H' locs' (cl + 1) (sl + 6) (lw_Z below #[Value.ref b] s) (F0 m 1554 ls' [])) : W p l e room_1 s m #[Value.ref b] below meth c H locs cl sl (lw_Z below #[Value.ref b] s) (F0 m 934 ls []) := by
  have hbA : ¬ A0 s b := Nat.not_le.mpr hbl
  have hx9 := S.1
  have hb9 := S.2.1
  obtain ⟨I1, I2, I3, L0⟩ := I
  have hS := I1.2.2.1
  obtain ⟨_, v1, v2, v3, v4, v5⟩ := hin
  obtain ⟨a, hx', hm', ex, em, L1⟩ := p_plan L0 (xs (i + 1).toNatClampNeg)
  refine lv_aload_n hx9 hb9 dL_law_934 rfl (lv_at hl 1 rfl) ?_
  refine lv_aload_n hx9 hb9 dL_law_935 rfl (lv_at hl 0 rfl) ?_
  refine lv_iload hx9 hb9 dL_law_936 (lv_at hl 4 rfl) ?_
  refine lv_iconst (v := 1) hx9 hb9 dL_law_938 (by decide) ?_
  refine lv_iadd hx9 hb9 dL_law_939 ?_
  refine va_sld (A := A0 s) hx9 hb9 hX hbl hbA hS v1 dL_law_940 ?_
  refine l_Vi (As := [.int (xs (i + 1).toNatClampNeg)]) S (M11_plan l D cy s.heap.size (Aw s.heap.size 110) false ex) gL_11_plan rfl rfl rfl cdL_11_plan ⟨Nat.le_of_ble_eq_true rfl, Nat.le_of_ble_eq_true rfl⟩ I1 (Nat.le_refl _) (x_ok L0.1).1 clX11 rfl rfl hl.1 rfl (Nat.le_of_ble_eq_true rfl) dL_law_941 ⟨Nat.le_trans (Nat.add_le_add_right hc.1 _) (Nat.le_of_ble_eq_true rfl), Nat.le_trans (Nat.add_le_add_right hc.2 _) (Nat.le_of_ble_eq_true rfl)⟩ (fun H1 locs1 J1 hk1 => ?_)
  have I2 := LM_kept I2 (A := Aw s.heap.size 110) (fun i hi z => by have := z.2; omega) hk1 J1.2.2.1
  have I3 := LM_kept I3 (A := Aw s.heap.size 110) (fun i hi z => by have := z.2; omega) hk1 J1.2.2.1
  have hS := I2.2.2.1
  refine lv_pop hx9 hb9 dL_law_944 rfl ?_
  refine lv_aload_n hx9 hb9 dL_law_945 rfl (lv_at hl 2 rfl) ?_
  refine lv_aload_n hx9 hb9 dL_law_946 rfl (lv_at hl 0 rfl) ?_
  refine lv_iload hx9 hb9 dL_law_947 (lv_at hl 4 rfl) ?_
  refine lv_iconst (v := 1) hx9 hb9 dL_law_949 (by decide) ?_
  refine lv_iadd hx9 hb9 dL_law_950 ?_
  refine va_sld (A := A0 s) hx9 hb9 hX hbl hbA hS v1 dL_law_951 ?_
  refine l_Vi (As := [.int (xs (i + 1).toNatClampNeg)]) S (M12_plan l D cy (s.heap.size + 110) (Aw (s.heap.size + 110) 43) false em) gL_12_plan rfl rfl rfl cdL_12_plan ⟨Nat.le_of_ble_eq_true rfl, Nat.le_of_ble_eq_true rfl⟩ I2 (Nat.le_add_right _ _) (m_ok L0.2.1).1 clX12 rfl rfl hl.1 rfl (Nat.le_of_ble_eq_true rfl) dL_law_952 ⟨Nat.le_trans (Nat.add_le_add_right hc.1 _) (Nat.le_of_ble_eq_true rfl), Nat.le_trans (Nat.add_le_add_right hc.2 _) (Nat.le_of_ble_eq_true rfl)⟩ (fun H2 locs2 J2 hk2 => ?_)
  have J1 := LM_kept J1 (A := Aw (s.heap.size + 110) 43) (fun i hi z => by have := z.1; omega) hk2 J2.2.2.1
  have I3 := LM_kept I3 (A := Aw (s.heap.size + 110) 43) (fun i hi z => by have := z.2; omega) hk2 J2.2.2.1
  refine lv_pop hx9 hb9 dL_law_955 rfl ?_
  refine lv_goto (tgt := 1554) hx9 hb9 dL_law_956 (by decide) ?_
  refine W.widen (k := cl + 1) (n := sl + 6) (Nat.le_succ _) (Nat.le_add_right _ _) ?_
  exact K _ _ _ _ _ _ ⟨J1, J2, I3, L1⟩ hl
set_option maxHeartbeats 1000000 in
theorem lc_959 (S : CallFix p m c cL_law 7 s #[Value.ref b] lw_tbl RL) (hX : va_X b L xs s s.heap) (hbl : b < s.heap.size) {hx hm : PH} {f : Nat → Int64} (I : LW D cy hx hm f s H locs) {i : Int32} (hin : IN i L) {cl sl : Nat} (hc : cl ≤ 1000 ∧ sl ≤ 20000) (hl : lv_has ls 7 (LV b s i)) (K : ∀ (hx' hm' : PH) (f' : Nat → Int64) (H' : Heap) (locs' : List Loc) (ls' : Array Slot), LW D cy hx' hm' f' s H' locs' → lv_has ls' 7 (LV b s i) → W p l e room_1 s m #[Value.ref b] below meth c H' locs' (cl + 1) (sl + 6) (lw_Z below #[Value.ref b] s) (F0 m 1554 ls' [])) : W p l e room_1 s m #[Value.ref b] below meth c H locs cl sl (lw_Z below #[Value.ref b] s) (F0 m 959 ls []) := by
  have hbA : ¬ A0 s b := Nat.not_le.mpr hbl
  have hx9 := S.1
  have hb9 := S.2.1
  obtain ⟨I1, I2, I3, L0⟩ := I
  have hS := I1.2.2.1
  obtain ⟨_, v1, v2, v3, v4, v5⟩ := hin
  obtain ⟨a, hx', hm', ex, em, L1⟩ := p_planned L0 (xs (i + 1).toNatClampNeg) (xs (i + 2).toNatClampNeg)
  refine lv_aload_n hx9 hb9 dL_law_959 rfl (lv_at hl 1 rfl) ?_
  refine lv_aload_n hx9 hb9 dL_law_960 rfl (lv_at hl 0 rfl) ?_
  refine lv_iload hx9 hb9 dL_law_961 (lv_at hl 4 rfl) ?_
  refine lv_iconst (v := 1) hx9 hb9 dL_law_963 (by decide) ?_
  refine lv_iadd hx9 hb9 dL_law_964 ?_
  refine va_sld (A := A0 s) hx9 hb9 hX hbl hbA hS v1 dL_law_965 ?_
  refine lv_aload_n hx9 hb9 dL_law_966 rfl (lv_at hl 0 rfl) ?_
  refine lv_iload hx9 hb9 dL_law_967 (lv_at hl 4 rfl) ?_
  refine lv_iconst (v := 2) hx9 hb9 dL_law_969 (by decide) ?_
  refine lv_iadd hx9 hb9 dL_law_970 ?_
  refine va_sld (A := A0 s) hx9 hb9 hX hbl hbA hS v2 dL_law_971 ?_
  refine l_Vi (As := [.int (xs (i + 1).toNatClampNeg), .int (xs (i + 2).toNatClampNeg)]) S (M11_planned l D cy s.heap.size (Aw s.heap.size 110) false ex) gL_11_planned rfl rfl rfl cdL_11_planned ⟨Nat.le_of_ble_eq_true rfl, Nat.le_of_ble_eq_true rfl⟩ I1 (Nat.le_refl _) (x_ok L0.1).1 clX11 rfl rfl hl.1 rfl (Nat.le_of_ble_eq_true rfl) dL_law_972 ⟨Nat.le_trans (Nat.add_le_add_right hc.1 _) (Nat.le_of_ble_eq_true rfl), Nat.le_trans (Nat.add_le_add_right hc.2 _) (Nat.le_of_ble_eq_true rfl)⟩ (fun H1 locs1 J1 hk1 => ?_)
  have I2 := LM_kept I2 (A := Aw s.heap.size 110) (fun i hi z => by have := z.2; omega) hk1 J1.2.2.1
  have I3 := LM_kept I3 (A := Aw s.heap.size 110) (fun i hi z => by have := z.2; omega) hk1 J1.2.2.1
  have hS := I2.2.2.1
  refine lv_pop hx9 hb9 dL_law_975 rfl ?_
  refine lv_aload_n hx9 hb9 dL_law_976 rfl (lv_at hl 2 rfl) ?_
  refine lv_aload_n hx9 hb9 dL_law_977 rfl (lv_at hl 0 rfl) ?_
  refine lv_iload hx9 hb9 dL_law_978 (lv_at hl 4 rfl) ?_
  refine lv_iconst (v := 1) hx9 hb9 dL_law_980 (by decide) ?_
  refine lv_iadd hx9 hb9 dL_law_981 ?_
  refine va_sld (A := A0 s) hx9 hb9 hX hbl hbA hS v1 dL_law_982 ?_
  refine lv_aload_n hx9 hb9 dL_law_983 rfl (lv_at hl 0 rfl) ?_
  refine lv_iload hx9 hb9 dL_law_984 (lv_at hl 4 rfl) ?_
  refine lv_iconst (v := 2) hx9 hb9 dL_law_986 (by decide) ?_
  refine lv_iadd hx9 hb9 dL_law_987 ?_
  refine va_sld (A := A0 s) hx9 hb9 hX hbl hbA hS v2 dL_law_988 ?_
  refine l_Vi (As := [.int (xs (i + 1).toNatClampNeg), .int (xs (i + 2).toNatClampNeg)]) S (M12_planned l D cy (s.heap.size + 110) (Aw (s.heap.size + 110) 43) false em) gL_12_planned rfl rfl rfl cdL_12_planned ⟨Nat.le_of_ble_eq_true rfl, Nat.le_of_ble_eq_true rfl⟩ I2 (Nat.le_add_right _ _) (m_ok L0.2.1).1 clX12 rfl rfl hl.1 rfl (Nat.le_of_ble_eq_true rfl) dL_law_989 ⟨Nat.le_trans (Nat.add_le_add_right hc.1 _) (Nat.le_of_ble_eq_true rfl), Nat.le_trans (Nat.add_le_add_right hc.2 _) (Nat.le_of_ble_eq_true rfl)⟩ (fun H2 locs2 J2 hk2 => ?_)
  have J1 := LM_kept J1 (A := Aw (s.heap.size + 110) 43) (fun i hi z => by have := z.1; omega) hk2 J2.2.2.1
  have I3 := LM_kept I3 (A := Aw (s.heap.size + 110) 43) (fun i hi z => by have := z.2; omega) hk2 J2.2.2.1
  refine lv_pop hx9 hb9 dL_law_992 rfl ?_
  refine lv_goto (tgt := 1554) hx9 hb9 dL_law_993 (by decide) ?_
  refine W.widen (k := cl + 1) (n := sl + 6) (Nat.le_succ _) (Nat.le_add_right _ _) ?_
  exact K _ _ _ _ _ _ ⟨J1, J2, I3, L1⟩ hl
set_option maxHeartbeats 1000000 in
theorem lc_996 (S : CallFix p m c cL_law 7 s #[Value.ref b] lw_tbl RL) (hX : va_X b L xs s s.heap) (hbl : b < s.heap.size) {hx hm : PH} {f : Nat → Int64} (I : LW D cy hx hm f s H locs) {i : Int32} (hin : IN i L) {cl sl : Nat} (hc : cl ≤ 1000 ∧ sl ≤ 20000) (hl : lv_has ls 7 (LV b s i)) (K : ∀ (hx' hm' : PH) (f' : Nat → Int64) (H' : Heap) (locs' : List Loc) (ls' : Array Slot), LW D cy hx' hm' f' s H' locs' → lv_has ls' 7 (LV b s i) → W p l e room_1 s m #[Value.ref b] below meth c H' locs' (cl + 1) (sl + 6) (lw_Z below #[Value.ref b] s) (F0 m 1554 ls' [])) : W p l e room_1 s m #[Value.ref b] below meth c H locs cl sl (lw_Z below #[Value.ref b] s) (F0 m 996 ls []) := by
  have hbA : ¬ A0 s b := Nat.not_le.mpr hbl
  have hx9 := S.1
  have hb9 := S.2.1
  obtain ⟨I1, I2, I3, L0⟩ := I
  have hS := I1.2.2.1
  obtain ⟨_, v1, v2, v3, v4, v5⟩ := hin
  obtain ⟨a, a2, hx', hm', ex, em, L1⟩ := p_go L0 (xs (i + 1).toNatClampNeg) (xs (i + 2).toNatClampNeg) (xs (i + 3).toNatClampNeg)
  refine lv_aload_n hx9 hb9 dL_law_996 rfl (lv_at hl 1 rfl) ?_
  refine lv_aload_n hx9 hb9 dL_law_997 rfl (lv_at hl 0 rfl) ?_
  refine lv_iload hx9 hb9 dL_law_998 (lv_at hl 4 rfl) ?_
  refine lv_iconst (v := 1) hx9 hb9 dL_law_1000 (by decide) ?_
  refine lv_iadd hx9 hb9 dL_law_1001 ?_
  refine va_sld (A := A0 s) hx9 hb9 hX hbl hbA hS v1 dL_law_1002 ?_
  refine lv_aload_n hx9 hb9 dL_law_1003 rfl (lv_at hl 0 rfl) ?_
  refine lv_iload hx9 hb9 dL_law_1004 (lv_at hl 4 rfl) ?_
  refine lv_iconst (v := 2) hx9 hb9 dL_law_1006 (by decide) ?_
  refine lv_iadd hx9 hb9 dL_law_1007 ?_
  refine va_sld (A := A0 s) hx9 hb9 hX hbl hbA hS v2 dL_law_1008 ?_
  refine lv_aload_n hx9 hb9 dL_law_1009 rfl (lv_at hl 0 rfl) ?_
  refine lv_iload hx9 hb9 dL_law_1010 (lv_at hl 4 rfl) ?_
  refine lv_iconst (v := 3) hx9 hb9 dL_law_1012 (by decide) ?_
  refine lv_iadd hx9 hb9 dL_law_1013 ?_
  refine va_sld (A := A0 s) hx9 hb9 hX hbl hbA hS v3 dL_law_1014 ?_
  refine l_Vi (As := [.int (xs (i + 1).toNatClampNeg), .int (xs (i + 2).toNatClampNeg), .int (xs (i + 3).toNatClampNeg)]) S (M11_go l D cy s.heap.size (Aw s.heap.size 110) false ex) gL_11_go rfl rfl rfl cdL_11_go ⟨Nat.le_of_ble_eq_true rfl, Nat.le_of_ble_eq_true rfl⟩ I1 (Nat.le_refl _) (x_ok L0.1).1 clX11 rfl rfl hl.1 rfl (Nat.le_of_ble_eq_true rfl) dL_law_1015 ⟨Nat.le_trans (Nat.add_le_add_right hc.1 _) (Nat.le_of_ble_eq_true rfl), Nat.le_trans (Nat.add_le_add_right hc.2 _) (Nat.le_of_ble_eq_true rfl)⟩ (fun H1 locs1 J1 hk1 => ?_)
  have I2 := LM_kept I2 (A := Aw s.heap.size 110) (fun i hi z => by have := z.2; omega) hk1 J1.2.2.1
  have I3 := LM_kept I3 (A := Aw s.heap.size 110) (fun i hi z => by have := z.2; omega) hk1 J1.2.2.1
  have hS := I2.2.2.1
  refine lv_pop hx9 hb9 dL_law_1018 rfl ?_
  refine lv_aload_n hx9 hb9 dL_law_1019 rfl (lv_at hl 2 rfl) ?_
  refine lv_aload_n hx9 hb9 dL_law_1020 rfl (lv_at hl 0 rfl) ?_
  refine lv_iload hx9 hb9 dL_law_1021 (lv_at hl 4 rfl) ?_
  refine lv_iconst (v := 1) hx9 hb9 dL_law_1023 (by decide) ?_
  refine lv_iadd hx9 hb9 dL_law_1024 ?_
  refine va_sld (A := A0 s) hx9 hb9 hX hbl hbA hS v1 dL_law_1025 ?_
  refine lv_aload_n hx9 hb9 dL_law_1026 rfl (lv_at hl 0 rfl) ?_
  refine lv_iload hx9 hb9 dL_law_1027 (lv_at hl 4 rfl) ?_
  refine lv_iconst (v := 2) hx9 hb9 dL_law_1029 (by decide) ?_
  refine lv_iadd hx9 hb9 dL_law_1030 ?_
  refine va_sld (A := A0 s) hx9 hb9 hX hbl hbA hS v2 dL_law_1031 ?_
  refine lv_aload_n hx9 hb9 dL_law_1032 rfl (lv_at hl 0 rfl) ?_
  refine lv_iload hx9 hb9 dL_law_1033 (lv_at hl 4 rfl) ?_
  refine lv_iconst (v := 3) hx9 hb9 dL_law_1035 (by decide) ?_
  refine lv_iadd hx9 hb9 dL_law_1036 ?_
  refine va_sld (A := A0 s) hx9 hb9 hX hbl hbA hS v3 dL_law_1037 ?_
  refine l_Vi (As := [.int (xs (i + 1).toNatClampNeg), .int (xs (i + 2).toNatClampNeg), .int (xs (i + 3).toNatClampNeg)]) S (M12_go l D cy (s.heap.size + 110) (Aw (s.heap.size + 110) 43) false em) gL_12_go rfl rfl rfl cdL_12_go ⟨Nat.le_of_ble_eq_true rfl, Nat.le_of_ble_eq_true rfl⟩ I2 (Nat.le_add_right _ _) (m_ok L0.2.1).1 clX12 rfl rfl hl.1 rfl (Nat.le_of_ble_eq_true rfl) dL_law_1038 ⟨Nat.le_trans (Nat.add_le_add_right hc.1 _) (Nat.le_of_ble_eq_true rfl), Nat.le_trans (Nat.add_le_add_right hc.2 _) (Nat.le_of_ble_eq_true rfl)⟩ (fun H2 locs2 J2 hk2 => ?_)
  have J1 := LM_kept J1 (A := Aw (s.heap.size + 110) 43) (fun i hi z => by have := z.1; omega) hk2 J2.2.2.1
  have I3 := LM_kept I3 (A := Aw (s.heap.size + 110) 43) (fun i hi z => by have := z.2; omega) hk2 J2.2.2.1
  refine lv_pop hx9 hb9 dL_law_1041 rfl ?_
  refine lv_goto (tgt := 1554) hx9 hb9 dL_law_1042 (by decide) ?_
  refine W.widen (k := cl + 1) (n := sl + 6) (Nat.le_succ _) (Nat.le_add_right _ _) ?_
  exact K _ _ _ _ _ _ ⟨J1, J2, I3, L1⟩ hl
set_option maxHeartbeats 1000000 in
theorem lc_1045 (S : CallFix p m c cL_law 7 s #[Value.ref b] lw_tbl RL) (hX : va_X b L xs s s.heap) (hbl : b < s.heap.size) {hx hm : PH} {f : Nat → Int64} (I : LW D cy hx hm f s H locs) {i : Int32} (hin : IN i L) {cl sl : Nat} (hc : cl ≤ 1000 ∧ sl ≤ 20000) (hl : lv_has ls 7 (LV b s i)) (K : ∀ (hx' hm' : PH) (f' : Nat → Int64) (H' : Heap) (locs' : List Loc) (ls' : Array Slot), LW D cy hx' hm' f' s H' locs' → lv_has ls' 7 (LV b s i) → W p l e room_1 s m #[Value.ref b] below meth c H' locs' (cl + 1) (sl + 6) (lw_Z below #[Value.ref b] s) (F0 m 1554 ls' [])) : W p l e room_1 s m #[Value.ref b] below meth c H locs cl sl (lw_Z below #[Value.ref b] s) (F0 m 1045 ls []) := by
  have hbA : ¬ A0 s b := Nat.not_le.mpr hbl
  have hx9 := S.1
  have hb9 := S.2.1
  obtain ⟨I1, I2, I3, L0⟩ := I
  have hS := I1.2.2.1
  obtain ⟨_, v1, v2, v3, v4, v5⟩ := hin
  obtain ⟨a, hx', hm', ex, em, L1⟩ := p_give L0 (xs (i + 1).toNatClampNeg) (xs (i + 2).toNatClampNeg) (xs (i + 3).toNatClampNeg)
  refine lv_aload_n hx9 hb9 dL_law_1045 rfl (lv_at hl 1 rfl) ?_
  refine lv_aload_n hx9 hb9 dL_law_1046 rfl (lv_at hl 0 rfl) ?_
  refine lv_iload hx9 hb9 dL_law_1047 (lv_at hl 4 rfl) ?_
  refine lv_iconst (v := 1) hx9 hb9 dL_law_1049 (by decide) ?_
  refine lv_iadd hx9 hb9 dL_law_1050 ?_
  refine va_sld (A := A0 s) hx9 hb9 hX hbl hbA hS v1 dL_law_1051 ?_
  refine lv_aload_n hx9 hb9 dL_law_1052 rfl (lv_at hl 0 rfl) ?_
  refine lv_iload hx9 hb9 dL_law_1053 (lv_at hl 4 rfl) ?_
  refine lv_iconst (v := 2) hx9 hb9 dL_law_1055 (by decide) ?_
  refine lv_iadd hx9 hb9 dL_law_1056 ?_
  refine va_sld (A := A0 s) hx9 hb9 hX hbl hbA hS v2 dL_law_1057 ?_
  refine lv_aload_n hx9 hb9 dL_law_1058 rfl (lv_at hl 0 rfl) ?_
  refine lv_iload hx9 hb9 dL_law_1059 (lv_at hl 4 rfl) ?_
  refine lv_iconst (v := 3) hx9 hb9 dL_law_1061 (by decide) ?_
  refine lv_iadd hx9 hb9 dL_law_1062 ?_
  refine va_sld (A := A0 s) hx9 hb9 hX hbl hbA hS v3 dL_law_1063 ?_
  refine l_Vi (As := [.int (xs (i + 1).toNatClampNeg), .int (xs (i + 2).toNatClampNeg), .int (xs (i + 3).toNatClampNeg)]) S (M11_give l D cy s.heap.size (Aw s.heap.size 110) false ex) gL_11_give rfl rfl rfl cdL_11_give ⟨Nat.le_of_ble_eq_true rfl, Nat.le_of_ble_eq_true rfl⟩ I1 (Nat.le_refl _) (x_ok L0.1).1 clX11 rfl rfl hl.1 rfl (Nat.le_of_ble_eq_true rfl) dL_law_1064 ⟨Nat.le_trans (Nat.add_le_add_right hc.1 _) (Nat.le_of_ble_eq_true rfl), Nat.le_trans (Nat.add_le_add_right hc.2 _) (Nat.le_of_ble_eq_true rfl)⟩ (fun H1 locs1 J1 hk1 => ?_)
  have I2 := LM_kept I2 (A := Aw s.heap.size 110) (fun i hi z => by have := z.2; omega) hk1 J1.2.2.1
  have I3 := LM_kept I3 (A := Aw s.heap.size 110) (fun i hi z => by have := z.2; omega) hk1 J1.2.2.1
  have hS := I2.2.2.1
  refine lv_pop hx9 hb9 dL_law_1067 rfl ?_
  refine lv_aload_n hx9 hb9 dL_law_1068 rfl (lv_at hl 2 rfl) ?_
  refine lv_aload_n hx9 hb9 dL_law_1069 rfl (lv_at hl 0 rfl) ?_
  refine lv_iload hx9 hb9 dL_law_1070 (lv_at hl 4 rfl) ?_
  refine lv_iconst (v := 1) hx9 hb9 dL_law_1072 (by decide) ?_
  refine lv_iadd hx9 hb9 dL_law_1073 ?_
  refine va_sld (A := A0 s) hx9 hb9 hX hbl hbA hS v1 dL_law_1074 ?_
  refine lv_aload_n hx9 hb9 dL_law_1075 rfl (lv_at hl 0 rfl) ?_
  refine lv_iload hx9 hb9 dL_law_1076 (lv_at hl 4 rfl) ?_
  refine lv_iconst (v := 2) hx9 hb9 dL_law_1078 (by decide) ?_
  refine lv_iadd hx9 hb9 dL_law_1079 ?_
  refine va_sld (A := A0 s) hx9 hb9 hX hbl hbA hS v2 dL_law_1080 ?_
  refine lv_aload_n hx9 hb9 dL_law_1081 rfl (lv_at hl 0 rfl) ?_
  refine lv_iload hx9 hb9 dL_law_1082 (lv_at hl 4 rfl) ?_
  refine lv_iconst (v := 3) hx9 hb9 dL_law_1084 (by decide) ?_
  refine lv_iadd hx9 hb9 dL_law_1085 ?_
  refine va_sld (A := A0 s) hx9 hb9 hX hbl hbA hS v3 dL_law_1086 ?_
  refine l_Vi (As := [.int (xs (i + 1).toNatClampNeg), .int (xs (i + 2).toNatClampNeg), .int (xs (i + 3).toNatClampNeg)]) S (M12_give l D cy (s.heap.size + 110) (Aw (s.heap.size + 110) 43) false em) gL_12_give rfl rfl rfl cdL_12_give ⟨Nat.le_of_ble_eq_true rfl, Nat.le_of_ble_eq_true rfl⟩ I2 (Nat.le_add_right _ _) (m_ok L0.2.1).1 clX12 rfl rfl hl.1 rfl (Nat.le_of_ble_eq_true rfl) dL_law_1087 ⟨Nat.le_trans (Nat.add_le_add_right hc.1 _) (Nat.le_of_ble_eq_true rfl), Nat.le_trans (Nat.add_le_add_right hc.2 _) (Nat.le_of_ble_eq_true rfl)⟩ (fun H2 locs2 J2 hk2 => ?_)
  have J1 := LM_kept J1 (A := Aw (s.heap.size + 110) 43) (fun i hi z => by have := z.1; omega) hk2 J2.2.2.1
  have I3 := LM_kept I3 (A := Aw (s.heap.size + 110) 43) (fun i hi z => by have := z.2; omega) hk2 J2.2.2.1
  refine lv_pop hx9 hb9 dL_law_1090 rfl ?_
  refine lv_goto (tgt := 1554) hx9 hb9 dL_law_1091 (by decide) ?_
  refine W.widen (k := cl + 1) (n := sl + 6) (Nat.le_succ _) (Nat.le_add_right _ _) ?_
  exact K _ _ _ _ _ _ ⟨J1, J2, I3, L1⟩ hl
set_option maxHeartbeats 1000000 in
theorem lc_1094 (S : CallFix p m c cL_law 7 s #[Value.ref b] lw_tbl RL) (hX : va_X b L xs s s.heap) (hbl : b < s.heap.size) {hx hm : PH} {f : Nat → Int64} (I : LW D cy hx hm f s H locs) {i : Int32} (hin : IN i L) {cl sl : Nat} (hc : cl ≤ 1000 ∧ sl ≤ 20000) (hl : lv_has ls 7 (LV b s i)) (K : ∀ (hx' hm' : PH) (f' : Nat → Int64) (H' : Heap) (locs' : List Loc) (ls' : Array Slot), LW D cy hx' hm' f' s H' locs' → lv_has ls' 7 (LV b s i) → W p l e room_1 s m #[Value.ref b] below meth c H' locs' (cl + 1) (sl + 6) (lw_Z below #[Value.ref b] s) (F0 m 1554 ls' [])) : W p l e room_1 s m #[Value.ref b] below meth c H locs cl sl (lw_Z below #[Value.ref b] s) (F0 m 1094 ls []) := by
  have hbA : ¬ A0 s b := Nat.not_le.mpr hbl
  have hx9 := S.1
  have hb9 := S.2.1
  obtain ⟨I1, I2, I3, L0⟩ := I
  have hS := I1.2.2.1
  obtain ⟨_, v1, v2, v3, v4, v5⟩ := hin
  obtain ⟨a, hx', hm', ex, em, L1⟩ := p_table L0 (xs (i + 1).toNatClampNeg) (xs (i + 2).toNatClampNeg) (xs (i + 3).toNatClampNeg)
  refine lv_aload_n hx9 hb9 dL_law_1094 rfl (lv_at hl 1 rfl) ?_
  refine lv_aload_n hx9 hb9 dL_law_1095 rfl (lv_at hl 0 rfl) ?_
  refine lv_iload hx9 hb9 dL_law_1096 (lv_at hl 4 rfl) ?_
  refine lv_iconst (v := 1) hx9 hb9 dL_law_1098 (by decide) ?_
  refine lv_iadd hx9 hb9 dL_law_1099 ?_
  refine va_sld (A := A0 s) hx9 hb9 hX hbl hbA hS v1 dL_law_1100 ?_
  refine lv_aload_n hx9 hb9 dL_law_1101 rfl (lv_at hl 0 rfl) ?_
  refine lv_iload hx9 hb9 dL_law_1102 (lv_at hl 4 rfl) ?_
  refine lv_iconst (v := 2) hx9 hb9 dL_law_1104 (by decide) ?_
  refine lv_iadd hx9 hb9 dL_law_1105 ?_
  refine va_sld (A := A0 s) hx9 hb9 hX hbl hbA hS v2 dL_law_1106 ?_
  refine lv_aload_n hx9 hb9 dL_law_1107 rfl (lv_at hl 0 rfl) ?_
  refine lv_iload hx9 hb9 dL_law_1108 (lv_at hl 4 rfl) ?_
  refine lv_iconst (v := 3) hx9 hb9 dL_law_1110 (by decide) ?_
  refine lv_iadd hx9 hb9 dL_law_1111 ?_
  refine va_sld (A := A0 s) hx9 hb9 hX hbl hbA hS v3 dL_law_1112 ?_
  refine l_Vi (As := [.int (xs (i + 1).toNatClampNeg), .int (xs (i + 2).toNatClampNeg), .int (xs (i + 3).toNatClampNeg)]) S (M11_table l D cy s.heap.size (Aw s.heap.size 110) ex) gL_11_table rfl rfl rfl cdL_11_table ⟨Nat.le_of_ble_eq_true rfl, Nat.le_of_ble_eq_true rfl⟩ I1 (Nat.le_refl _) (x_ok L0.1).1 clX11 rfl rfl hl.1 rfl (Nat.le_of_ble_eq_true rfl) dL_law_1113 ⟨Nat.le_trans (Nat.add_le_add_right hc.1 _) (Nat.le_of_ble_eq_true rfl), Nat.le_trans (Nat.add_le_add_right hc.2 _) (Nat.le_of_ble_eq_true rfl)⟩ (fun H1 locs1 J1 hk1 => ?_)
  have I2 := LM_kept I2 (A := Aw s.heap.size 110) (fun i hi z => by have := z.2; omega) hk1 J1.2.2.1
  have I3 := LM_kept I3 (A := Aw s.heap.size 110) (fun i hi z => by have := z.2; omega) hk1 J1.2.2.1
  have hS := I2.2.2.1
  refine lv_pop hx9 hb9 dL_law_1116 rfl ?_
  refine lv_aload_n hx9 hb9 dL_law_1117 rfl (lv_at hl 2 rfl) ?_
  refine lv_aload_n hx9 hb9 dL_law_1118 rfl (lv_at hl 0 rfl) ?_
  refine lv_iload hx9 hb9 dL_law_1119 (lv_at hl 4 rfl) ?_
  refine lv_iconst (v := 1) hx9 hb9 dL_law_1121 (by decide) ?_
  refine lv_iadd hx9 hb9 dL_law_1122 ?_
  refine va_sld (A := A0 s) hx9 hb9 hX hbl hbA hS v1 dL_law_1123 ?_
  refine lv_aload_n hx9 hb9 dL_law_1124 rfl (lv_at hl 0 rfl) ?_
  refine lv_iload hx9 hb9 dL_law_1125 (lv_at hl 4 rfl) ?_
  refine lv_iconst (v := 2) hx9 hb9 dL_law_1127 (by decide) ?_
  refine lv_iadd hx9 hb9 dL_law_1128 ?_
  refine va_sld (A := A0 s) hx9 hb9 hX hbl hbA hS v2 dL_law_1129 ?_
  refine lv_aload_n hx9 hb9 dL_law_1130 rfl (lv_at hl 0 rfl) ?_
  refine lv_iload hx9 hb9 dL_law_1131 (lv_at hl 4 rfl) ?_
  refine lv_iconst (v := 3) hx9 hb9 dL_law_1133 (by decide) ?_
  refine lv_iadd hx9 hb9 dL_law_1134 ?_
  refine va_sld (A := A0 s) hx9 hb9 hX hbl hbA hS v3 dL_law_1135 ?_
  refine l_Vi (As := [.int (xs (i + 1).toNatClampNeg), .int (xs (i + 2).toNatClampNeg), .int (xs (i + 3).toNatClampNeg)]) S (M12_table l D cy (s.heap.size + 110) (Aw (s.heap.size + 110) 43) false em) gL_12_table rfl rfl rfl cdL_12_table ⟨Nat.le_of_ble_eq_true rfl, Nat.le_of_ble_eq_true rfl⟩ I2 (Nat.le_add_right _ _) (m_ok L0.2.1).1 clX12 rfl rfl hl.1 rfl (Nat.le_of_ble_eq_true rfl) dL_law_1136 ⟨Nat.le_trans (Nat.add_le_add_right hc.1 _) (Nat.le_of_ble_eq_true rfl), Nat.le_trans (Nat.add_le_add_right hc.2 _) (Nat.le_of_ble_eq_true rfl)⟩ (fun H2 locs2 J2 hk2 => ?_)
  have J1 := LM_kept J1 (A := Aw (s.heap.size + 110) 43) (fun i hi z => by have := z.1; omega) hk2 J2.2.2.1
  have I3 := LM_kept I3 (A := Aw (s.heap.size + 110) 43) (fun i hi z => by have := z.2; omega) hk2 J2.2.2.1
  refine lv_pop hx9 hb9 dL_law_1139 rfl ?_
  refine lv_goto (tgt := 1554) hx9 hb9 dL_law_1140 (by decide) ?_
  refine W.widen (k := cl + 1) (n := sl + 6) (Nat.le_succ _) (Nat.le_add_right _ _) ?_
  exact K _ _ _ _ _ _ ⟨J1, J2, I3, L1⟩ hl
set_option maxHeartbeats 1000000 in
theorem lc_1143 (S : CallFix p m c cL_law 7 s #[Value.ref b] lw_tbl RL) (hX : va_X b L xs s s.heap) (hbl : b < s.heap.size) {hx hm : PH} {f : Nat → Int64} (I : LW D cy hx hm f s H locs) {i : Int32} (hin : IN i L) {cl sl : Nat} (hc : cl ≤ 1000 ∧ sl ≤ 20000) (hl : lv_has ls 7 (LV b s i)) (K : ∀ (hx' hm' : PH) (f' : Nat → Int64) (H' : Heap) (locs' : List Loc) (ls' : Array Slot), LW D cy hx' hm' f' s H' locs' → lv_has ls' 7 (LV b s i) → W p l e room_1 s m #[Value.ref b] below meth c H' locs' (cl + 1) (sl + 6) (lw_Z below #[Value.ref b] s) (F0 m 1554 ls' [])) : W p l e room_1 s m #[Value.ref b] below meth c H locs cl sl (lw_Z below #[Value.ref b] s) (F0 m 1143 ls []) := by
  have hbA : ¬ A0 s b := Nat.not_le.mpr hbl
  have hx9 := S.1
  have hb9 := S.2.1
  obtain ⟨I1, I2, I3, L0⟩ := I
  have hS := I1.2.2.1
  obtain ⟨_, v1, v2, v3, v4, v5⟩ := hin
  obtain ⟨a, hx', hm', ex, em, L1⟩ := p_fairest L0 (xs (i + 1).toNatClampNeg)
  refine lv_aload_n hx9 hb9 dL_law_1143 rfl (lv_at hl 1 rfl) ?_
  refine lv_aload_n hx9 hb9 dL_law_1144 rfl (lv_at hl 0 rfl) ?_
  refine lv_iload hx9 hb9 dL_law_1145 (lv_at hl 4 rfl) ?_
  refine lv_iconst (v := 1) hx9 hb9 dL_law_1147 (by decide) ?_
  refine lv_iadd hx9 hb9 dL_law_1148 ?_
  refine va_sld (A := A0 s) hx9 hb9 hX hbl hbA hS v1 dL_law_1149 ?_
  refine l_Vi (As := [.int (xs (i + 1).toNatClampNeg)]) S (M11_fairest l D cy s.heap.size (Aw s.heap.size 110) ex) gL_11_fairest rfl rfl rfl cdL_11_fairest ⟨Nat.le_of_ble_eq_true rfl, Nat.le_of_ble_eq_true rfl⟩ I1 (Nat.le_refl _) (x_ok L0.1).1 clX11 rfl rfl hl.1 rfl (Nat.le_of_ble_eq_true rfl) dL_law_1150 ⟨Nat.le_trans (Nat.add_le_add_right hc.1 _) (Nat.le_of_ble_eq_true rfl), Nat.le_trans (Nat.add_le_add_right hc.2 _) (Nat.le_of_ble_eq_true rfl)⟩ (fun H1 locs1 J1 hk1 => ?_)
  have I2 := LM_kept I2 (A := Aw s.heap.size 110) (fun i hi z => by have := z.2; omega) hk1 J1.2.2.1
  have I3 := LM_kept I3 (A := Aw s.heap.size 110) (fun i hi z => by have := z.2; omega) hk1 J1.2.2.1
  have hS := I2.2.2.1
  refine lv_pop hx9 hb9 dL_law_1153 rfl ?_
  refine lv_aload_n hx9 hb9 dL_law_1154 rfl (lv_at hl 2 rfl) ?_
  refine lv_aload_n hx9 hb9 dL_law_1155 rfl (lv_at hl 0 rfl) ?_
  refine lv_iload hx9 hb9 dL_law_1156 (lv_at hl 4 rfl) ?_
  refine lv_iconst (v := 1) hx9 hb9 dL_law_1158 (by decide) ?_
  refine lv_iadd hx9 hb9 dL_law_1159 ?_
  refine va_sld (A := A0 s) hx9 hb9 hX hbl hbA hS v1 dL_law_1160 ?_
  refine l_Vi (As := [.int (xs (i + 1).toNatClampNeg)]) S (M12_fairest l D cy (s.heap.size + 110) (Aw (s.heap.size + 110) 43) false em) gL_12_fairest rfl rfl rfl cdL_12_fairest ⟨Nat.le_of_ble_eq_true rfl, Nat.le_of_ble_eq_true rfl⟩ I2 (Nat.le_add_right _ _) (m_ok L0.2.1).1 clX12 rfl rfl hl.1 rfl (Nat.le_of_ble_eq_true rfl) dL_law_1161 ⟨Nat.le_trans (Nat.add_le_add_right hc.1 _) (Nat.le_of_ble_eq_true rfl), Nat.le_trans (Nat.add_le_add_right hc.2 _) (Nat.le_of_ble_eq_true rfl)⟩ (fun H2 locs2 J2 hk2 => ?_)
  have J1 := LM_kept J1 (A := Aw (s.heap.size + 110) 43) (fun i hi z => by have := z.1; omega) hk2 J2.2.2.1
  have I3 := LM_kept I3 (A := Aw (s.heap.size + 110) 43) (fun i hi z => by have := z.2; omega) hk2 J2.2.2.1
  refine lv_pop hx9 hb9 dL_law_1164 rfl ?_
  refine lv_goto (tgt := 1554) hx9 hb9 dL_law_1165 (by decide) ?_
  refine W.widen (k := cl + 1) (n := sl + 6) (Nat.le_succ _) (Nat.le_add_right _ _) ?_
  exact K _ _ _ _ _ _ ⟨J1, J2, I3, L1⟩ hl
set_option maxHeartbeats 1000000 in
theorem lc_1168 (S : CallFix p m c cL_law 7 s #[Value.ref b] lw_tbl RL) (hX : va_X b L xs s s.heap) (hbl : b < s.heap.size) {hx hm : PH} {f : Nat → Int64} (I : LW D cy hx hm f s H locs) {i : Int32} (hin : IN i L) {cl sl : Nat} (hc : cl ≤ 1000 ∧ sl ≤ 20000) (hl : lv_has ls 7 (LV b s i)) (K : ∀ (hx' hm' : PH) (f' : Nat → Int64) (H' : Heap) (locs' : List Loc) (ls' : Array Slot), LW D cy hx' hm' f' s H' locs' → lv_has ls' 7 (LV b s i) → W p l e room_1 s m #[Value.ref b] below meth c H' locs' (cl + 1) (sl + 6) (lw_Z below #[Value.ref b] s) (F0 m 1554 ls' [])) : W p l e room_1 s m #[Value.ref b] below meth c H locs cl sl (lw_Z below #[Value.ref b] s) (F0 m 1168 ls []) := by
  have hbA : ¬ A0 s b := Nat.not_le.mpr hbl
  have hx9 := S.1
  have hb9 := S.2.1
  obtain ⟨I1, I2, I3, L0⟩ := I
  have hS := I1.2.2.1
  obtain ⟨_, v1, v2, v3, v4, v5⟩ := hin
  obtain ⟨a, hx', hm', ex, em, L1⟩ := p_over L0 (xs (i + 1).toNatClampNeg)
  refine lv_aload_n hx9 hb9 dL_law_1168 rfl (lv_at hl 1 rfl) ?_
  refine lv_aload_n hx9 hb9 dL_law_1169 rfl (lv_at hl 0 rfl) ?_
  refine lv_iload hx9 hb9 dL_law_1170 (lv_at hl 4 rfl) ?_
  refine lv_iconst (v := 1) hx9 hb9 dL_law_1172 (by decide) ?_
  refine lv_iadd hx9 hb9 dL_law_1173 ?_
  refine va_sld (A := A0 s) hx9 hb9 hX hbl hbA hS v1 dL_law_1174 ?_
  refine l_Vi (As := [.int (xs (i + 1).toNatClampNeg)]) S (M11_over l D cy s.heap.size (Aw s.heap.size 110) false ex) gL_11_over rfl rfl rfl cdL_11_over ⟨Nat.le_of_ble_eq_true rfl, Nat.le_of_ble_eq_true rfl⟩ I1 (Nat.le_refl _) (x_ok L0.1).1 clX11 rfl rfl hl.1 rfl (Nat.le_of_ble_eq_true rfl) dL_law_1175 ⟨Nat.le_trans (Nat.add_le_add_right hc.1 _) (Nat.le_of_ble_eq_true rfl), Nat.le_trans (Nat.add_le_add_right hc.2 _) (Nat.le_of_ble_eq_true rfl)⟩ (fun H1 locs1 J1 hk1 => ?_)
  have I2 := LM_kept I2 (A := Aw s.heap.size 110) (fun i hi z => by have := z.2; omega) hk1 J1.2.2.1
  have I3 := LM_kept I3 (A := Aw s.heap.size 110) (fun i hi z => by have := z.2; omega) hk1 J1.2.2.1
  have hS := I2.2.2.1
  refine lv_pop hx9 hb9 dL_law_1178 rfl ?_
  refine lv_aload_n hx9 hb9 dL_law_1179 rfl (lv_at hl 2 rfl) ?_
  refine lv_aload_n hx9 hb9 dL_law_1180 rfl (lv_at hl 0 rfl) ?_
  refine lv_iload hx9 hb9 dL_law_1181 (lv_at hl 4 rfl) ?_
  refine lv_iconst (v := 1) hx9 hb9 dL_law_1183 (by decide) ?_
  refine lv_iadd hx9 hb9 dL_law_1184 ?_
  refine va_sld (A := A0 s) hx9 hb9 hX hbl hbA hS v1 dL_law_1185 ?_
  refine l_Vi (As := [.int (xs (i + 1).toNatClampNeg)]) S (M12_over l D cy (s.heap.size + 110) (Aw (s.heap.size + 110) 43) false em) gL_12_over rfl rfl rfl cdL_12_over ⟨Nat.le_of_ble_eq_true rfl, Nat.le_of_ble_eq_true rfl⟩ I2 (Nat.le_add_right _ _) (m_ok L0.2.1).1 clX12 rfl rfl hl.1 rfl (Nat.le_of_ble_eq_true rfl) dL_law_1186 ⟨Nat.le_trans (Nat.add_le_add_right hc.1 _) (Nat.le_of_ble_eq_true rfl), Nat.le_trans (Nat.add_le_add_right hc.2 _) (Nat.le_of_ble_eq_true rfl)⟩ (fun H2 locs2 J2 hk2 => ?_)
  have J1 := LM_kept J1 (A := Aw (s.heap.size + 110) 43) (fun i hi z => by have := z.1; omega) hk2 J2.2.2.1
  have I3 := LM_kept I3 (A := Aw (s.heap.size + 110) 43) (fun i hi z => by have := z.2; omega) hk2 J2.2.2.1
  refine lv_pop hx9 hb9 dL_law_1189 rfl ?_
  refine lv_goto (tgt := 1554) hx9 hb9 dL_law_1190 (by decide) ?_
  refine W.widen (k := cl + 1) (n := sl + 6) (Nat.le_succ _) (Nat.le_add_right _ _) ?_
  exact K _ _ _ _ _ _ ⟨J1, J2, I3, L1⟩ hl
set_option maxHeartbeats 1000000 in
theorem lc_1193 (S : CallFix p m c cL_law 7 s #[Value.ref b] lw_tbl RL) (hX : va_X b L xs s s.heap) (hbl : b < s.heap.size) {hx hm : PH} {f : Nat → Int64} (I : LW D cy hx hm f s H locs) {i : Int32} (hin : IN i L) {cl sl : Nat} (hc : cl ≤ 1000 ∧ sl ≤ 20000) (hl : lv_has ls 7 (LV b s i)) (K : ∀ (hx' hm' : PH) (f' : Nat → Int64) (H' : Heap) (locs' : List Loc) (ls' : Array Slot), LW D cy hx' hm' f' s H' locs' → lv_has ls' 7 (LV b s i) → W p l e room_1 s m #[Value.ref b] below meth c H' locs' (cl + 1) (sl + 6) (lw_Z below #[Value.ref b] s) (F0 m 1554 ls' [])) : W p l e room_1 s m #[Value.ref b] below meth c H locs cl sl (lw_Z below #[Value.ref b] s) (F0 m 1193 ls []) := by
  have hbA : ¬ A0 s b := Nat.not_le.mpr hbl
  have hx9 := S.1
  have hb9 := S.2.1
  obtain ⟨I1, I2, I3, L0⟩ := I
  have hS := I1.2.2.1
  obtain ⟨_, v1, v2, v3, v4, v5⟩ := hin
  obtain ⟨a, hx', hm', ex, em, L1⟩ := p_next L0 
  refine lv_aload_n hx9 hb9 dL_law_1193 rfl (lv_at hl 1 rfl) ?_
  refine l_Vi (As := []) S (M11_next l D cy s.heap.size (Aw s.heap.size 110) false ex) gL_11_next rfl rfl rfl cdL_11_next ⟨Nat.le_of_ble_eq_true rfl, Nat.le_of_ble_eq_true rfl⟩ I1 (Nat.le_refl _) (x_ok L0.1).1 clX11 rfl rfl hl.1 rfl (Nat.le_of_ble_eq_true rfl) dL_law_1194 ⟨Nat.le_trans (Nat.add_le_add_right hc.1 _) (Nat.le_of_ble_eq_true rfl), Nat.le_trans (Nat.add_le_add_right hc.2 _) (Nat.le_of_ble_eq_true rfl)⟩ (fun H1 locs1 J1 hk1 => ?_)
  have I2 := LM_kept I2 (A := Aw s.heap.size 110) (fun i hi z => by have := z.2; omega) hk1 J1.2.2.1
  have I3 := LM_kept I3 (A := Aw s.heap.size 110) (fun i hi z => by have := z.2; omega) hk1 J1.2.2.1
  have hS := I2.2.2.1
  refine lv_pop hx9 hb9 dL_law_1197 rfl ?_
  refine lv_aload_n hx9 hb9 dL_law_1198 rfl (lv_at hl 2 rfl) ?_
  refine l_Vi (As := []) S (M12_next l D cy (s.heap.size + 110) (Aw (s.heap.size + 110) 43) false em) gL_12_next rfl rfl rfl cdL_12_next ⟨Nat.le_of_ble_eq_true rfl, Nat.le_of_ble_eq_true rfl⟩ I2 (Nat.le_add_right _ _) (m_ok L0.2.1).1 clX12 rfl rfl hl.1 rfl (Nat.le_of_ble_eq_true rfl) dL_law_1199 ⟨Nat.le_trans (Nat.add_le_add_right hc.1 _) (Nat.le_of_ble_eq_true rfl), Nat.le_trans (Nat.add_le_add_right hc.2 _) (Nat.le_of_ble_eq_true rfl)⟩ (fun H2 locs2 J2 hk2 => ?_)
  have J1 := LM_kept J1 (A := Aw (s.heap.size + 110) 43) (fun i hi z => by have := z.1; omega) hk2 J2.2.2.1
  have I3 := LM_kept I3 (A := Aw (s.heap.size + 110) 43) (fun i hi z => by have := z.2; omega) hk2 J2.2.2.1
  refine lv_pop hx9 hb9 dL_law_1202 rfl ?_
  refine lv_goto (tgt := 1554) hx9 hb9 dL_law_1203 (by decide) ?_
  refine W.widen (k := cl + 1) (n := sl + 6) (Nat.le_succ _) (Nat.le_add_right _ _) ?_
  exact K _ _ _ _ _ _ ⟨J1, J2, I3, L1⟩ hl
set_option maxHeartbeats 1000000 in
theorem lc_1206 (S : CallFix p m c cL_law 7 s #[Value.ref b] lw_tbl RL) (hX : va_X b L xs s s.heap) (hbl : b < s.heap.size) {hx hm : PH} {f : Nat → Int64} (I : LW D cy hx hm f s H locs) {i : Int32} (hin : IN i L) {cl sl : Nat} (hc : cl ≤ 1000 ∧ sl ≤ 20000) (hl : lv_has ls 7 (LV b s i)) (K : ∀ (hx' hm' : PH) (f' : Nat → Int64) (H' : Heap) (locs' : List Loc) (ls' : Array Slot), LW D cy hx' hm' f' s H' locs' → lv_has ls' 7 (LV b s i) → W p l e room_1 s m #[Value.ref b] below meth c H' locs' (cl + 1) (sl + 6) (lw_Z below #[Value.ref b] s) (F0 m 1554 ls' [])) : W p l e room_1 s m #[Value.ref b] below meth c H locs cl sl (lw_Z below #[Value.ref b] s) (F0 m 1206 ls []) := by
  have hbA : ¬ A0 s b := Nat.not_le.mpr hbl
  have hx9 := S.1
  have hb9 := S.2.1
  obtain ⟨I1, I2, I3, L0⟩ := I
  have hS := I1.2.2.1
  obtain ⟨_, v1, v2, v3, v4, v5⟩ := hin
  obtain ⟨a, hx', hm', ex, em, L1⟩ := p_gaps L0 (xs (i + 1).toNatClampNeg) (xs (i + 2).toNatClampNeg)
  refine lv_aload_n hx9 hb9 dL_law_1206 rfl (lv_at hl 1 rfl) ?_
  refine lv_aload_n hx9 hb9 dL_law_1207 rfl (lv_at hl 0 rfl) ?_
  refine lv_iload hx9 hb9 dL_law_1208 (lv_at hl 4 rfl) ?_
  refine lv_iconst (v := 1) hx9 hb9 dL_law_1210 (by decide) ?_
  refine lv_iadd hx9 hb9 dL_law_1211 ?_
  refine va_sld (A := A0 s) hx9 hb9 hX hbl hbA hS v1 dL_law_1212 ?_
  refine lv_aload_n hx9 hb9 dL_law_1213 rfl (lv_at hl 0 rfl) ?_
  refine lv_iload hx9 hb9 dL_law_1214 (lv_at hl 4 rfl) ?_
  refine lv_iconst (v := 2) hx9 hb9 dL_law_1216 (by decide) ?_
  refine lv_iadd hx9 hb9 dL_law_1217 ?_
  refine va_sld (A := A0 s) hx9 hb9 hX hbl hbA hS v2 dL_law_1218 ?_
  refine l_Vi (As := [.int (xs (i + 1).toNatClampNeg), .int (xs (i + 2).toNatClampNeg)]) S (M11_gaps l D cy s.heap.size (Aw s.heap.size 110) false ex) gL_11_gaps rfl rfl rfl cdL_11_gaps ⟨Nat.le_of_ble_eq_true rfl, Nat.le_of_ble_eq_true rfl⟩ I1 (Nat.le_refl _) (x_ok L0.1).1 clX11 rfl rfl hl.1 rfl (Nat.le_of_ble_eq_true rfl) dL_law_1219 ⟨Nat.le_trans (Nat.add_le_add_right hc.1 _) (Nat.le_of_ble_eq_true rfl), Nat.le_trans (Nat.add_le_add_right hc.2 _) (Nat.le_of_ble_eq_true rfl)⟩ (fun H1 locs1 J1 hk1 => ?_)
  have I2 := LM_kept I2 (A := Aw s.heap.size 110) (fun i hi z => by have := z.2; omega) hk1 J1.2.2.1
  have I3 := LM_kept I3 (A := Aw s.heap.size 110) (fun i hi z => by have := z.2; omega) hk1 J1.2.2.1
  have hS := I2.2.2.1
  refine lv_pop hx9 hb9 dL_law_1222 rfl ?_
  refine lv_aload_n hx9 hb9 dL_law_1223 rfl (lv_at hl 2 rfl) ?_
  refine lv_aload_n hx9 hb9 dL_law_1224 rfl (lv_at hl 0 rfl) ?_
  refine lv_iload hx9 hb9 dL_law_1225 (lv_at hl 4 rfl) ?_
  refine lv_iconst (v := 1) hx9 hb9 dL_law_1227 (by decide) ?_
  refine lv_iadd hx9 hb9 dL_law_1228 ?_
  refine va_sld (A := A0 s) hx9 hb9 hX hbl hbA hS v1 dL_law_1229 ?_
  refine lv_aload_n hx9 hb9 dL_law_1230 rfl (lv_at hl 0 rfl) ?_
  refine lv_iload hx9 hb9 dL_law_1231 (lv_at hl 4 rfl) ?_
  refine lv_iconst (v := 2) hx9 hb9 dL_law_1233 (by decide) ?_
  refine lv_iadd hx9 hb9 dL_law_1234 ?_
  refine va_sld (A := A0 s) hx9 hb9 hX hbl hbA hS v2 dL_law_1235 ?_
  refine l_Vi (As := [.int (xs (i + 1).toNatClampNeg), .int (xs (i + 2).toNatClampNeg)]) S (M12_gaps l D cy (s.heap.size + 110) (Aw (s.heap.size + 110) 43) false em) gL_12_gaps rfl rfl rfl cdL_12_gaps ⟨Nat.le_of_ble_eq_true rfl, Nat.le_of_ble_eq_true rfl⟩ I2 (Nat.le_add_right _ _) (m_ok L0.2.1).1 clX12 rfl rfl hl.1 rfl (Nat.le_of_ble_eq_true rfl) dL_law_1236 ⟨Nat.le_trans (Nat.add_le_add_right hc.1 _) (Nat.le_of_ble_eq_true rfl), Nat.le_trans (Nat.add_le_add_right hc.2 _) (Nat.le_of_ble_eq_true rfl)⟩ (fun H2 locs2 J2 hk2 => ?_)
  have J1 := LM_kept J1 (A := Aw (s.heap.size + 110) 43) (fun i hi z => by have := z.1; omega) hk2 J2.2.2.1
  have I3 := LM_kept I3 (A := Aw (s.heap.size + 110) 43) (fun i hi z => by have := z.2; omega) hk2 J2.2.2.1
  refine lv_pop hx9 hb9 dL_law_1239 rfl ?_
  refine lv_goto (tgt := 1554) hx9 hb9 dL_law_1240 (by decide) ?_
  refine W.widen (k := cl + 1) (n := sl + 6) (Nat.le_succ _) (Nat.le_add_right _ _) ?_
  exact K _ _ _ _ _ _ ⟨J1, J2, I3, L1⟩ hl
set_option maxHeartbeats 1000000 in
theorem lc_1243 (S : CallFix p m c cL_law 7 s #[Value.ref b] lw_tbl RL) (hX : va_X b L xs s s.heap) (hbl : b < s.heap.size) {hx hm : PH} {f : Nat → Int64} (I : LW D cy hx hm f s H locs) {i : Int32} (hin : IN i L) {cl sl : Nat} (hc : cl ≤ 1000 ∧ sl ≤ 20000) (hl : lv_has ls 7 (LV b s i)) (K : ∀ (hx' hm' : PH) (f' : Nat → Int64) (H' : Heap) (locs' : List Loc) (ls' : Array Slot), LW D cy hx' hm' f' s H' locs' → lv_has ls' 7 (LV b s i) → W p l e room_1 s m #[Value.ref b] below meth c H' locs' (cl + 1) (sl + 6) (lw_Z below #[Value.ref b] s) (F0 m 1554 ls' [])) : W p l e room_1 s m #[Value.ref b] below meth c H locs cl sl (lw_Z below #[Value.ref b] s) (F0 m 1243 ls []) := by
  have hbA : ¬ A0 s b := Nat.not_le.mpr hbl
  have hx9 := S.1
  have hb9 := S.2.1
  obtain ⟨I1, I2, I3, L0⟩ := I
  have hS := I1.2.2.1
  obtain ⟨_, v1, v2, v3, v4, v5⟩ := hin
  obtain ⟨a, hx', hm', ex, em, L1⟩ := p_shares L0 (xs (i + 1).toNatClampNeg)
  refine lv_aload_n hx9 hb9 dL_law_1243 rfl (lv_at hl 1 rfl) ?_
  refine lv_aload_n hx9 hb9 dL_law_1244 rfl (lv_at hl 0 rfl) ?_
  refine lv_iload hx9 hb9 dL_law_1245 (lv_at hl 4 rfl) ?_
  refine lv_iconst (v := 1) hx9 hb9 dL_law_1247 (by decide) ?_
  refine lv_iadd hx9 hb9 dL_law_1248 ?_
  refine va_sld (A := A0 s) hx9 hb9 hX hbl hbA hS v1 dL_law_1249 ?_
  refine l_Vi (As := [.int (xs (i + 1).toNatClampNeg)]) S (M11_shares l D cy s.heap.size (Aw s.heap.size 110) false ex) gL_11_shares rfl rfl rfl cdL_11_shares ⟨Nat.le_of_ble_eq_true rfl, Nat.le_of_ble_eq_true rfl⟩ I1 (Nat.le_refl _) (x_ok L0.1).1 clX11 rfl rfl hl.1 rfl (Nat.le_of_ble_eq_true rfl) dL_law_1250 ⟨Nat.le_trans (Nat.add_le_add_right hc.1 _) (Nat.le_of_ble_eq_true rfl), Nat.le_trans (Nat.add_le_add_right hc.2 _) (Nat.le_of_ble_eq_true rfl)⟩ (fun H1 locs1 J1 hk1 => ?_)
  have I2 := LM_kept I2 (A := Aw s.heap.size 110) (fun i hi z => by have := z.2; omega) hk1 J1.2.2.1
  have I3 := LM_kept I3 (A := Aw s.heap.size 110) (fun i hi z => by have := z.2; omega) hk1 J1.2.2.1
  have hS := I2.2.2.1
  refine lv_pop hx9 hb9 dL_law_1253 rfl ?_
  refine lv_aload_n hx9 hb9 dL_law_1254 rfl (lv_at hl 2 rfl) ?_
  refine lv_aload_n hx9 hb9 dL_law_1255 rfl (lv_at hl 0 rfl) ?_
  refine lv_iload hx9 hb9 dL_law_1256 (lv_at hl 4 rfl) ?_
  refine lv_iconst (v := 1) hx9 hb9 dL_law_1258 (by decide) ?_
  refine lv_iadd hx9 hb9 dL_law_1259 ?_
  refine va_sld (A := A0 s) hx9 hb9 hX hbl hbA hS v1 dL_law_1260 ?_
  refine l_Vi (As := [.int (xs (i + 1).toNatClampNeg)]) S (M12_shares l D cy (s.heap.size + 110) (Aw (s.heap.size + 110) 43) false em) gL_12_shares rfl rfl rfl cdL_12_shares ⟨Nat.le_of_ble_eq_true rfl, Nat.le_of_ble_eq_true rfl⟩ I2 (Nat.le_add_right _ _) (m_ok L0.2.1).1 clX12 rfl rfl hl.1 rfl (Nat.le_of_ble_eq_true rfl) dL_law_1261 ⟨Nat.le_trans (Nat.add_le_add_right hc.1 _) (Nat.le_of_ble_eq_true rfl), Nat.le_trans (Nat.add_le_add_right hc.2 _) (Nat.le_of_ble_eq_true rfl)⟩ (fun H2 locs2 J2 hk2 => ?_)
  have J1 := LM_kept J1 (A := Aw (s.heap.size + 110) 43) (fun i hi z => by have := z.1; omega) hk2 J2.2.2.1
  have I3 := LM_kept I3 (A := Aw (s.heap.size + 110) 43) (fun i hi z => by have := z.2; omega) hk2 J2.2.2.1
  refine lv_pop hx9 hb9 dL_law_1264 rfl ?_
  refine lv_goto (tgt := 1554) hx9 hb9 dL_law_1265 (by decide) ?_
  refine W.widen (k := cl + 1) (n := sl + 6) (Nat.le_succ _) (Nat.le_add_right _ _) ?_
  exact K _ _ _ _ _ _ ⟨J1, J2, I3, L1⟩ hl
set_option maxHeartbeats 1000000 in
theorem lc_1268 (S : CallFix p m c cL_law 7 s #[Value.ref b] lw_tbl RL) (hX : va_X b L xs s s.heap) (hbl : b < s.heap.size) {hx hm : PH} {f : Nat → Int64} (I : LW D cy hx hm f s H locs) {i : Int32} (hin : IN i L) {cl sl : Nat} (hc : cl ≤ 1000 ∧ sl ≤ 20000) (hl : lv_has ls 7 (LV b s i)) (K : ∀ (hx' hm' : PH) (f' : Nat → Int64) (H' : Heap) (locs' : List Loc) (ls' : Array Slot), LW D cy hx' hm' f' s H' locs' → lv_has ls' 7 (LV b s i) → W p l e room_1 s m #[Value.ref b] below meth c H' locs' (cl + 1) (sl + 6) (lw_Z below #[Value.ref b] s) (F0 m 1554 ls' [])) : W p l e room_1 s m #[Value.ref b] below meth c H locs cl sl (lw_Z below #[Value.ref b] s) (F0 m 1268 ls []) := by
  have hbA : ¬ A0 s b := Nat.not_le.mpr hbl
  have hx9 := S.1
  have hb9 := S.2.1
  obtain ⟨I1, I2, I3, L0⟩ := I
  have hS := I1.2.2.1
  obtain ⟨_, v1, v2, v3, v4, v5⟩ := hin
  obtain ⟨a, hx', hm', ex, em, L1⟩ := p_note L0 (xs (i + 1).toNatClampNeg) (xs (i + 2).toNatClampNeg) (xs (i + 3).toNatClampNeg)
  refine lv_aload_n hx9 hb9 dL_law_1268 rfl (lv_at hl 1 rfl) ?_
  refine lv_aload_n hx9 hb9 dL_law_1269 rfl (lv_at hl 0 rfl) ?_
  refine lv_iload hx9 hb9 dL_law_1270 (lv_at hl 4 rfl) ?_
  refine lv_iconst (v := 1) hx9 hb9 dL_law_1272 (by decide) ?_
  refine lv_iadd hx9 hb9 dL_law_1273 ?_
  refine va_sld (A := A0 s) hx9 hb9 hX hbl hbA hS v1 dL_law_1274 ?_
  refine lv_aload_n hx9 hb9 dL_law_1275 rfl (lv_at hl 0 rfl) ?_
  refine lv_iload hx9 hb9 dL_law_1276 (lv_at hl 4 rfl) ?_
  refine lv_iconst (v := 2) hx9 hb9 dL_law_1278 (by decide) ?_
  refine lv_iadd hx9 hb9 dL_law_1279 ?_
  refine va_sld (A := A0 s) hx9 hb9 hX hbl hbA hS v2 dL_law_1280 ?_
  refine lv_aload_n hx9 hb9 dL_law_1281 rfl (lv_at hl 0 rfl) ?_
  refine lv_iload hx9 hb9 dL_law_1282 (lv_at hl 4 rfl) ?_
  refine lv_iconst (v := 3) hx9 hb9 dL_law_1284 (by decide) ?_
  refine lv_iadd hx9 hb9 dL_law_1285 ?_
  refine va_sld (A := A0 s) hx9 hb9 hX hbl hbA hS v3 dL_law_1286 ?_
  refine l_Vi (As := [.int (xs (i + 1).toNatClampNeg), .int (xs (i + 2).toNatClampNeg), .int (xs (i + 3).toNatClampNeg)]) S (M11_note l D cy s.heap.size (Aw s.heap.size 110) false ex) gL_11_note rfl rfl rfl cdL_11_note ⟨Nat.le_of_ble_eq_true rfl, Nat.le_of_ble_eq_true rfl⟩ I1 (Nat.le_refl _) (x_ok L0.1).1 clX11 rfl rfl hl.1 rfl (Nat.le_of_ble_eq_true rfl) dL_law_1287 ⟨Nat.le_trans (Nat.add_le_add_right hc.1 _) (Nat.le_of_ble_eq_true rfl), Nat.le_trans (Nat.add_le_add_right hc.2 _) (Nat.le_of_ble_eq_true rfl)⟩ (fun H1 locs1 J1 hk1 => ?_)
  have I2 := LM_kept I2 (A := Aw s.heap.size 110) (fun i hi z => by have := z.2; omega) hk1 J1.2.2.1
  have I3 := LM_kept I3 (A := Aw s.heap.size 110) (fun i hi z => by have := z.2; omega) hk1 J1.2.2.1
  have hS := I2.2.2.1
  refine lv_pop hx9 hb9 dL_law_1290 rfl ?_
  refine lv_aload_n hx9 hb9 dL_law_1291 rfl (lv_at hl 2 rfl) ?_
  refine lv_aload_n hx9 hb9 dL_law_1292 rfl (lv_at hl 0 rfl) ?_
  refine lv_iload hx9 hb9 dL_law_1293 (lv_at hl 4 rfl) ?_
  refine lv_iconst (v := 1) hx9 hb9 dL_law_1295 (by decide) ?_
  refine lv_iadd hx9 hb9 dL_law_1296 ?_
  refine va_sld (A := A0 s) hx9 hb9 hX hbl hbA hS v1 dL_law_1297 ?_
  refine lv_aload_n hx9 hb9 dL_law_1298 rfl (lv_at hl 0 rfl) ?_
  refine lv_iload hx9 hb9 dL_law_1299 (lv_at hl 4 rfl) ?_
  refine lv_iconst (v := 2) hx9 hb9 dL_law_1301 (by decide) ?_
  refine lv_iadd hx9 hb9 dL_law_1302 ?_
  refine va_sld (A := A0 s) hx9 hb9 hX hbl hbA hS v2 dL_law_1303 ?_
  refine lv_aload_n hx9 hb9 dL_law_1304 rfl (lv_at hl 0 rfl) ?_
  refine lv_iload hx9 hb9 dL_law_1305 (lv_at hl 4 rfl) ?_
  refine lv_iconst (v := 3) hx9 hb9 dL_law_1307 (by decide) ?_
  refine lv_iadd hx9 hb9 dL_law_1308 ?_
  refine va_sld (A := A0 s) hx9 hb9 hX hbl hbA hS v3 dL_law_1309 ?_
  refine l_Vi (As := [.int (xs (i + 1).toNatClampNeg), .int (xs (i + 2).toNatClampNeg), .int (xs (i + 3).toNatClampNeg)]) S (M12_note l D cy (s.heap.size + 110) (Aw (s.heap.size + 110) 43) false em) gL_12_note rfl rfl rfl cdL_12_note ⟨Nat.le_of_ble_eq_true rfl, Nat.le_of_ble_eq_true rfl⟩ I2 (Nat.le_add_right _ _) (m_ok L0.2.1).1 clX12 rfl rfl hl.1 rfl (Nat.le_of_ble_eq_true rfl) dL_law_1310 ⟨Nat.le_trans (Nat.add_le_add_right hc.1 _) (Nat.le_of_ble_eq_true rfl), Nat.le_trans (Nat.add_le_add_right hc.2 _) (Nat.le_of_ble_eq_true rfl)⟩ (fun H2 locs2 J2 hk2 => ?_)
  have J1 := LM_kept J1 (A := Aw (s.heap.size + 110) 43) (fun i hi z => by have := z.1; omega) hk2 J2.2.2.1
  have I3 := LM_kept I3 (A := Aw (s.heap.size + 110) 43) (fun i hi z => by have := z.2; omega) hk2 J2.2.2.1
  refine lv_pop hx9 hb9 dL_law_1313 rfl ?_
  refine lv_goto (tgt := 1554) hx9 hb9 dL_law_1314 (by decide) ?_
  refine W.widen (k := cl + 1) (n := sl + 6) (Nat.le_succ _) (Nat.le_add_right _ _) ?_
  exact K _ _ _ _ _ _ ⟨J1, J2, I3, L1⟩ hl
set_option maxHeartbeats 1000000 in
theorem lc_1317 (S : CallFix p m c cL_law 7 s #[Value.ref b] lw_tbl RL) (hX : va_X b L xs s s.heap) (hbl : b < s.heap.size) {hx hm : PH} {f : Nat → Int64} (I : LW D cy hx hm f s H locs) {i : Int32} (hin : IN i L) {cl sl : Nat} (hc : cl ≤ 1000 ∧ sl ≤ 20000) (hl : lv_has ls 7 (LV b s i)) (K : ∀ (hx' hm' : PH) (f' : Nat → Int64) (H' : Heap) (locs' : List Loc) (ls' : Array Slot), LW D cy hx' hm' f' s H' locs' → lv_has ls' 7 (LV b s i) → W p l e room_1 s m #[Value.ref b] below meth c H' locs' (cl + 1) (sl + 6) (lw_Z below #[Value.ref b] s) (F0 m 1554 ls' [])) : W p l e room_1 s m #[Value.ref b] below meth c H locs cl sl (lw_Z below #[Value.ref b] s) (F0 m 1317 ls []) := by
  have hbA : ¬ A0 s b := Nat.not_le.mpr hbl
  have hx9 := S.1
  have hb9 := S.2.1
  obtain ⟨I1, I2, I3, L0⟩ := I
  have hS := I1.2.2.1
  obtain ⟨_, v1, v2, v3, v4, v5⟩ := hin
  obtain ⟨a, hx', hm', ex, em, L1⟩ := p_strike L0 (xs (i + 1).toNatClampNeg)
  refine lv_aload_n hx9 hb9 dL_law_1317 rfl (lv_at hl 1 rfl) ?_
  refine lv_aload_n hx9 hb9 dL_law_1318 rfl (lv_at hl 0 rfl) ?_
  refine lv_iload hx9 hb9 dL_law_1319 (lv_at hl 4 rfl) ?_
  refine lv_iconst (v := 1) hx9 hb9 dL_law_1321 (by decide) ?_
  refine lv_iadd hx9 hb9 dL_law_1322 ?_
  refine va_sld (A := A0 s) hx9 hb9 hX hbl hbA hS v1 dL_law_1323 ?_
  refine l_Vi (As := [.int (xs (i + 1).toNatClampNeg)]) S (M11_strike l D cy s.heap.size (Aw s.heap.size 110) false ex) gL_11_strike rfl rfl rfl cdL_11_strike ⟨Nat.le_of_ble_eq_true rfl, Nat.le_of_ble_eq_true rfl⟩ I1 (Nat.le_refl _) (x_ok L0.1).1 clX11 rfl rfl hl.1 rfl (Nat.le_of_ble_eq_true rfl) dL_law_1324 ⟨Nat.le_trans (Nat.add_le_add_right hc.1 _) (Nat.le_of_ble_eq_true rfl), Nat.le_trans (Nat.add_le_add_right hc.2 _) (Nat.le_of_ble_eq_true rfl)⟩ (fun H1 locs1 J1 hk1 => ?_)
  have I2 := LM_kept I2 (A := Aw s.heap.size 110) (fun i hi z => by have := z.2; omega) hk1 J1.2.2.1
  have I3 := LM_kept I3 (A := Aw s.heap.size 110) (fun i hi z => by have := z.2; omega) hk1 J1.2.2.1
  have hS := I2.2.2.1
  refine lv_pop hx9 hb9 dL_law_1327 rfl ?_
  refine lv_aload_n hx9 hb9 dL_law_1328 rfl (lv_at hl 2 rfl) ?_
  refine lv_aload_n hx9 hb9 dL_law_1329 rfl (lv_at hl 0 rfl) ?_
  refine lv_iload hx9 hb9 dL_law_1330 (lv_at hl 4 rfl) ?_
  refine lv_iconst (v := 1) hx9 hb9 dL_law_1332 (by decide) ?_
  refine lv_iadd hx9 hb9 dL_law_1333 ?_
  refine va_sld (A := A0 s) hx9 hb9 hX hbl hbA hS v1 dL_law_1334 ?_
  refine l_Vi (As := [.int (xs (i + 1).toNatClampNeg)]) S (M12_strike l D cy (s.heap.size + 110) (Aw (s.heap.size + 110) 43) false em) gL_12_strike rfl rfl rfl cdL_12_strike ⟨Nat.le_of_ble_eq_true rfl, Nat.le_of_ble_eq_true rfl⟩ I2 (Nat.le_add_right _ _) (m_ok L0.2.1).1 clX12 rfl rfl hl.1 rfl (Nat.le_of_ble_eq_true rfl) dL_law_1335 ⟨Nat.le_trans (Nat.add_le_add_right hc.1 _) (Nat.le_of_ble_eq_true rfl), Nat.le_trans (Nat.add_le_add_right hc.2 _) (Nat.le_of_ble_eq_true rfl)⟩ (fun H2 locs2 J2 hk2 => ?_)
  have J1 := LM_kept J1 (A := Aw (s.heap.size + 110) 43) (fun i hi z => by have := z.1; omega) hk2 J2.2.2.1
  have I3 := LM_kept I3 (A := Aw (s.heap.size + 110) 43) (fun i hi z => by have := z.2; omega) hk2 J2.2.2.1
  refine lv_pop hx9 hb9 dL_law_1338 rfl ?_
  refine lv_goto (tgt := 1554) hx9 hb9 dL_law_1339 (by decide) ?_
  refine W.widen (k := cl + 1) (n := sl + 6) (Nat.le_succ _) (Nat.le_add_right _ _) ?_
  exact K _ _ _ _ _ _ ⟨J1, J2, I3, L1⟩ hl
set_option maxHeartbeats 1000000 in
theorem lc_1342 (S : CallFix p m c cL_law 7 s #[Value.ref b] lw_tbl RL) (hX : va_X b L xs s s.heap) (hbl : b < s.heap.size) {hx hm : PH} {f : Nat → Int64} (I : LW D cy hx hm f s H locs) {i : Int32} (hin : IN i L) {cl sl : Nat} (hc : cl ≤ 1000 ∧ sl ≤ 20000) (hl : lv_has ls 7 (LV b s i)) (K : ∀ (hx' hm' : PH) (f' : Nat → Int64) (H' : Heap) (locs' : List Loc) (ls' : Array Slot), LW D cy hx' hm' f' s H' locs' → lv_has ls' 7 (LV b s i) → W p l e room_1 s m #[Value.ref b] below meth c H' locs' (cl + 1) (sl + 6) (lw_Z below #[Value.ref b] s) (F0 m 1554 ls' [])) : W p l e room_1 s m #[Value.ref b] below meth c H locs cl sl (lw_Z below #[Value.ref b] s) (F0 m 1342 ls []) := by
  have hbA : ¬ A0 s b := Nat.not_le.mpr hbl
  have hx9 := S.1
  have hb9 := S.2.1
  obtain ⟨I1, I2, I3, L0⟩ := I
  have hS := I1.2.2.1
  obtain ⟨_, v1, v2, v3, v4, v5⟩ := hin
  obtain ⟨a, hx', hm', ex, em, L1⟩ := p_known L0 (xs (i + 1).toNatClampNeg)
  refine lv_aload_n hx9 hb9 dL_law_1342 rfl (lv_at hl 1 rfl) ?_
  refine lv_aload_n hx9 hb9 dL_law_1343 rfl (lv_at hl 0 rfl) ?_
  refine lv_iload hx9 hb9 dL_law_1344 (lv_at hl 4 rfl) ?_
  refine lv_iconst (v := 1) hx9 hb9 dL_law_1346 (by decide) ?_
  refine lv_iadd hx9 hb9 dL_law_1347 ?_
  refine va_sld (A := A0 s) hx9 hb9 hX hbl hbA hS v1 dL_law_1348 ?_
  refine l_Vi (As := [.int (xs (i + 1).toNatClampNeg)]) S (M11_known l D cy s.heap.size (Aw s.heap.size 110) false ex) gL_11_known rfl rfl rfl cdL_11_known ⟨Nat.le_of_ble_eq_true rfl, Nat.le_of_ble_eq_true rfl⟩ I1 (Nat.le_refl _) (x_ok L0.1).1 clX11 rfl rfl hl.1 rfl (Nat.le_of_ble_eq_true rfl) dL_law_1349 ⟨Nat.le_trans (Nat.add_le_add_right hc.1 _) (Nat.le_of_ble_eq_true rfl), Nat.le_trans (Nat.add_le_add_right hc.2 _) (Nat.le_of_ble_eq_true rfl)⟩ (fun H1 locs1 J1 hk1 => ?_)
  have I2 := LM_kept I2 (A := Aw s.heap.size 110) (fun i hi z => by have := z.2; omega) hk1 J1.2.2.1
  have I3 := LM_kept I3 (A := Aw s.heap.size 110) (fun i hi z => by have := z.2; omega) hk1 J1.2.2.1
  have hS := I2.2.2.1
  refine lv_pop hx9 hb9 dL_law_1352 rfl ?_
  refine lv_aload_n hx9 hb9 dL_law_1353 rfl (lv_at hl 2 rfl) ?_
  refine lv_aload_n hx9 hb9 dL_law_1354 rfl (lv_at hl 0 rfl) ?_
  refine lv_iload hx9 hb9 dL_law_1355 (lv_at hl 4 rfl) ?_
  refine lv_iconst (v := 1) hx9 hb9 dL_law_1357 (by decide) ?_
  refine lv_iadd hx9 hb9 dL_law_1358 ?_
  refine va_sld (A := A0 s) hx9 hb9 hX hbl hbA hS v1 dL_law_1359 ?_
  refine l_Vi (As := [.int (xs (i + 1).toNatClampNeg)]) S (M12_known l D cy (s.heap.size + 110) (Aw (s.heap.size + 110) 43) false em) gL_12_known rfl rfl rfl cdL_12_known ⟨Nat.le_of_ble_eq_true rfl, Nat.le_of_ble_eq_true rfl⟩ I2 (Nat.le_add_right _ _) (m_ok L0.2.1).1 clX12 rfl rfl hl.1 rfl (Nat.le_of_ble_eq_true rfl) dL_law_1360 ⟨Nat.le_trans (Nat.add_le_add_right hc.1 _) (Nat.le_of_ble_eq_true rfl), Nat.le_trans (Nat.add_le_add_right hc.2 _) (Nat.le_of_ble_eq_true rfl)⟩ (fun H2 locs2 J2 hk2 => ?_)
  have J1 := LM_kept J1 (A := Aw (s.heap.size + 110) 43) (fun i hi z => by have := z.1; omega) hk2 J2.2.2.1
  have I3 := LM_kept I3 (A := Aw (s.heap.size + 110) 43) (fun i hi z => by have := z.2; omega) hk2 J2.2.2.1
  refine lv_pop hx9 hb9 dL_law_1363 rfl ?_
  refine lv_goto (tgt := 1554) hx9 hb9 dL_law_1364 (by decide) ?_
  refine W.widen (k := cl + 1) (n := sl + 6) (Nat.le_succ _) (Nat.le_add_right _ _) ?_
  exact K _ _ _ _ _ _ ⟨J1, J2, I3, L1⟩ hl
set_option maxHeartbeats 1000000 in
theorem lc_1367 (S : CallFix p m c cL_law 7 s #[Value.ref b] lw_tbl RL) (hX : va_X b L xs s s.heap) (hbl : b < s.heap.size) {hx hm : PH} {f : Nat → Int64} (I : LW D cy hx hm f s H locs) {i : Int32} (hin : IN i L) {cl sl : Nat} (hc : cl ≤ 1000 ∧ sl ≤ 20000) (hl : lv_has ls 7 (LV b s i)) (K : ∀ (hx' hm' : PH) (f' : Nat → Int64) (H' : Heap) (locs' : List Loc) (ls' : Array Slot), LW D cy hx' hm' f' s H' locs' → lv_has ls' 7 (LV b s i) → W p l e room_1 s m #[Value.ref b] below meth c H' locs' (cl + 1) (sl + 6) (lw_Z below #[Value.ref b] s) (F0 m 1554 ls' [])) : W p l e room_1 s m #[Value.ref b] below meth c H locs cl sl (lw_Z below #[Value.ref b] s) (F0 m 1367 ls []) := by
  have hbA : ¬ A0 s b := Nat.not_le.mpr hbl
  have hx9 := S.1
  have hb9 := S.2.1
  obtain ⟨I1, I2, I3, L0⟩ := I
  have hS := I1.2.2.1
  obtain ⟨_, v1, v2, v3, v4, v5⟩ := hin
  obtain ⟨a, hx', hm', ex, em, L1⟩ := p_locals L0 (xs (i + 1).toNatClampNeg)
  refine lv_aload_n hx9 hb9 dL_law_1367 rfl (lv_at hl 1 rfl) ?_
  refine lv_aload_n hx9 hb9 dL_law_1368 rfl (lv_at hl 0 rfl) ?_
  refine lv_iload hx9 hb9 dL_law_1369 (lv_at hl 4 rfl) ?_
  refine lv_iconst (v := 1) hx9 hb9 dL_law_1371 (by decide) ?_
  refine lv_iadd hx9 hb9 dL_law_1372 ?_
  refine va_sld (A := A0 s) hx9 hb9 hX hbl hbA hS v1 dL_law_1373 ?_
  refine l_Vi (As := [.int (xs (i + 1).toNatClampNeg)]) S (M11_locals l D cy s.heap.size (Aw s.heap.size 110) false ex) gL_11_locals rfl rfl rfl cdL_11_locals ⟨Nat.le_of_ble_eq_true rfl, Nat.le_of_ble_eq_true rfl⟩ I1 (Nat.le_refl _) (x_ok L0.1).1 clX11 rfl rfl hl.1 rfl (Nat.le_of_ble_eq_true rfl) dL_law_1374 ⟨Nat.le_trans (Nat.add_le_add_right hc.1 _) (Nat.le_of_ble_eq_true rfl), Nat.le_trans (Nat.add_le_add_right hc.2 _) (Nat.le_of_ble_eq_true rfl)⟩ (fun H1 locs1 J1 hk1 => ?_)
  have I2 := LM_kept I2 (A := Aw s.heap.size 110) (fun i hi z => by have := z.2; omega) hk1 J1.2.2.1
  have I3 := LM_kept I3 (A := Aw s.heap.size 110) (fun i hi z => by have := z.2; omega) hk1 J1.2.2.1
  have hS := I2.2.2.1
  refine lv_pop hx9 hb9 dL_law_1377 rfl ?_
  refine lv_aload_n hx9 hb9 dL_law_1378 rfl (lv_at hl 2 rfl) ?_
  refine lv_aload_n hx9 hb9 dL_law_1379 rfl (lv_at hl 0 rfl) ?_
  refine lv_iload hx9 hb9 dL_law_1380 (lv_at hl 4 rfl) ?_
  refine lv_iconst (v := 1) hx9 hb9 dL_law_1382 (by decide) ?_
  refine lv_iadd hx9 hb9 dL_law_1383 ?_
  refine va_sld (A := A0 s) hx9 hb9 hX hbl hbA hS v1 dL_law_1384 ?_
  refine l_Vi (As := [.int (xs (i + 1).toNatClampNeg)]) S (M12_locals l D cy (s.heap.size + 110) (Aw (s.heap.size + 110) 43) false em) gL_12_locals rfl rfl rfl cdL_12_locals ⟨Nat.le_of_ble_eq_true rfl, Nat.le_of_ble_eq_true rfl⟩ I2 (Nat.le_add_right _ _) (m_ok L0.2.1).1 clX12 rfl rfl hl.1 rfl (Nat.le_of_ble_eq_true rfl) dL_law_1385 ⟨Nat.le_trans (Nat.add_le_add_right hc.1 _) (Nat.le_of_ble_eq_true rfl), Nat.le_trans (Nat.add_le_add_right hc.2 _) (Nat.le_of_ble_eq_true rfl)⟩ (fun H2 locs2 J2 hk2 => ?_)
  have J1 := LM_kept J1 (A := Aw (s.heap.size + 110) 43) (fun i hi z => by have := z.1; omega) hk2 J2.2.2.1
  have I3 := LM_kept I3 (A := Aw (s.heap.size + 110) 43) (fun i hi z => by have := z.2; omega) hk2 J2.2.2.1
  refine lv_pop hx9 hb9 dL_law_1388 rfl ?_
  refine lv_goto (tgt := 1554) hx9 hb9 dL_law_1389 (by decide) ?_
  refine W.widen (k := cl + 1) (n := sl + 6) (Nat.le_succ _) (Nat.le_add_right _ _) ?_
  exact K _ _ _ _ _ _ ⟨J1, J2, I3, L1⟩ hl
set_option maxHeartbeats 1000000 in
theorem lc_1392 (S : CallFix p m c cL_law 7 s #[Value.ref b] lw_tbl RL) (hX : va_X b L xs s s.heap) (hbl : b < s.heap.size) {hx hm : PH} {f : Nat → Int64} (I : LW D cy hx hm f s H locs) {i : Int32} (hin : IN i L) {cl sl : Nat} (hc : cl ≤ 1000 ∧ sl ≤ 20000) (hl : lv_has ls 7 (LV b s i)) (K : ∀ (hx' hm' : PH) (f' : Nat → Int64) (H' : Heap) (locs' : List Loc) (ls' : Array Slot), LW D cy hx' hm' f' s H' locs' → lv_has ls' 7 (LV b s i) → W p l e room_1 s m #[Value.ref b] below meth c H' locs' (cl + 1) (sl + 6) (lw_Z below #[Value.ref b] s) (F0 m 1554 ls' [])) : W p l e room_1 s m #[Value.ref b] below meth c H locs cl sl (lw_Z below #[Value.ref b] s) (F0 m 1392 ls []) := by
  have hbA : ¬ A0 s b := Nat.not_le.mpr hbl
  have hx9 := S.1
  have hb9 := S.2.1
  obtain ⟨I1, I2, I3, L0⟩ := I
  have hS := I1.2.2.1
  obtain ⟨_, v1, v2, v3, v4, v5⟩ := hin
  obtain ⟨a, hx', hm', ex, em, L1⟩ := p_chance L0 (xs (i + 1).toNatClampNeg) (xs (i + 2).toNatClampNeg) (xs (i + 3).toNatClampNeg)
  refine lv_aload_n hx9 hb9 dL_law_1392 rfl (lv_at hl 1 rfl) ?_
  refine lv_aload_n hx9 hb9 dL_law_1393 rfl (lv_at hl 0 rfl) ?_
  refine lv_iload hx9 hb9 dL_law_1394 (lv_at hl 4 rfl) ?_
  refine lv_iconst (v := 1) hx9 hb9 dL_law_1396 (by decide) ?_
  refine lv_iadd hx9 hb9 dL_law_1397 ?_
  refine va_sld (A := A0 s) hx9 hb9 hX hbl hbA hS v1 dL_law_1398 ?_
  refine lv_aload_n hx9 hb9 dL_law_1399 rfl (lv_at hl 0 rfl) ?_
  refine lv_iload hx9 hb9 dL_law_1400 (lv_at hl 4 rfl) ?_
  refine lv_iconst (v := 2) hx9 hb9 dL_law_1402 (by decide) ?_
  refine lv_iadd hx9 hb9 dL_law_1403 ?_
  refine va_sld (A := A0 s) hx9 hb9 hX hbl hbA hS v2 dL_law_1404 ?_
  refine lv_aload_n hx9 hb9 dL_law_1405 rfl (lv_at hl 0 rfl) ?_
  refine lv_iload hx9 hb9 dL_law_1406 (lv_at hl 4 rfl) ?_
  refine lv_iconst (v := 3) hx9 hb9 dL_law_1408 (by decide) ?_
  refine lv_iadd hx9 hb9 dL_law_1409 ?_
  refine va_sld (A := A0 s) hx9 hb9 hX hbl hbA hS v3 dL_law_1410 ?_
  refine l_Vi (As := [.int (xs (i + 1).toNatClampNeg), .int (xs (i + 2).toNatClampNeg), .int (xs (i + 3).toNatClampNeg)]) S (M11_chance l D cy s.heap.size (Aw s.heap.size 110) ex) gL_11_chance rfl rfl rfl cdL_11_chance ⟨Nat.le_of_ble_eq_true rfl, Nat.le_of_ble_eq_true rfl⟩ I1 (Nat.le_refl _) (x_ok L0.1).1 clX11 rfl rfl hl.1 rfl (Nat.le_of_ble_eq_true rfl) dL_law_1411 ⟨Nat.le_trans (Nat.add_le_add_right hc.1 _) (Nat.le_of_ble_eq_true rfl), Nat.le_trans (Nat.add_le_add_right hc.2 _) (Nat.le_of_ble_eq_true rfl)⟩ (fun H1 locs1 J1 hk1 => ?_)
  have I2 := LM_kept I2 (A := Aw s.heap.size 110) (fun i hi z => by have := z.2; omega) hk1 J1.2.2.1
  have I3 := LM_kept I3 (A := Aw s.heap.size 110) (fun i hi z => by have := z.2; omega) hk1 J1.2.2.1
  have hS := I2.2.2.1
  refine lv_pop hx9 hb9 dL_law_1414 rfl ?_
  refine lv_aload_n hx9 hb9 dL_law_1415 rfl (lv_at hl 2 rfl) ?_
  refine lv_aload_n hx9 hb9 dL_law_1416 rfl (lv_at hl 0 rfl) ?_
  refine lv_iload hx9 hb9 dL_law_1417 (lv_at hl 4 rfl) ?_
  refine lv_iconst (v := 1) hx9 hb9 dL_law_1419 (by decide) ?_
  refine lv_iadd hx9 hb9 dL_law_1420 ?_
  refine va_sld (A := A0 s) hx9 hb9 hX hbl hbA hS v1 dL_law_1421 ?_
  refine lv_aload_n hx9 hb9 dL_law_1422 rfl (lv_at hl 0 rfl) ?_
  refine lv_iload hx9 hb9 dL_law_1423 (lv_at hl 4 rfl) ?_
  refine lv_iconst (v := 2) hx9 hb9 dL_law_1425 (by decide) ?_
  refine lv_iadd hx9 hb9 dL_law_1426 ?_
  refine va_sld (A := A0 s) hx9 hb9 hX hbl hbA hS v2 dL_law_1427 ?_
  refine lv_aload_n hx9 hb9 dL_law_1428 rfl (lv_at hl 0 rfl) ?_
  refine lv_iload hx9 hb9 dL_law_1429 (lv_at hl 4 rfl) ?_
  refine lv_iconst (v := 3) hx9 hb9 dL_law_1431 (by decide) ?_
  refine lv_iadd hx9 hb9 dL_law_1432 ?_
  refine va_sld (A := A0 s) hx9 hb9 hX hbl hbA hS v3 dL_law_1433 ?_
  refine l_Vi (As := [.int (xs (i + 1).toNatClampNeg), .int (xs (i + 2).toNatClampNeg), .int (xs (i + 3).toNatClampNeg)]) S (M12_chance l D cy (s.heap.size + 110) (Aw (s.heap.size + 110) 43) false em) gL_12_chance rfl rfl rfl cdL_12_chance ⟨Nat.le_of_ble_eq_true rfl, Nat.le_of_ble_eq_true rfl⟩ I2 (Nat.le_add_right _ _) (m_ok L0.2.1).1 clX12 rfl rfl hl.1 rfl (Nat.le_of_ble_eq_true rfl) dL_law_1434 ⟨Nat.le_trans (Nat.add_le_add_right hc.1 _) (Nat.le_of_ble_eq_true rfl), Nat.le_trans (Nat.add_le_add_right hc.2 _) (Nat.le_of_ble_eq_true rfl)⟩ (fun H2 locs2 J2 hk2 => ?_)
  have J1 := LM_kept J1 (A := Aw (s.heap.size + 110) 43) (fun i hi z => by have := z.1; omega) hk2 J2.2.2.1
  have I3 := LM_kept I3 (A := Aw (s.heap.size + 110) 43) (fun i hi z => by have := z.2; omega) hk2 J2.2.2.1
  refine lv_pop hx9 hb9 dL_law_1437 rfl ?_
  refine lv_goto (tgt := 1554) hx9 hb9 dL_law_1438 (by decide) ?_
  refine W.widen (k := cl + 1) (n := sl + 6) (Nat.le_succ _) (Nat.le_add_right _ _) ?_
  exact K _ _ _ _ _ _ ⟨J1, J2, I3, L1⟩ hl
set_option maxHeartbeats 1000000 in
theorem lc_1441 (S : CallFix p m c cL_law 7 s #[Value.ref b] lw_tbl RL) (hX : va_X b L xs s s.heap) (hbl : b < s.heap.size) {hx hm : PH} {f : Nat → Int64} (I : LW D cy hx hm f s H locs) {i : Int32} (hin : IN i L) {cl sl : Nat} (hc : cl ≤ 1000 ∧ sl ≤ 20000) (hl : lv_has ls 7 (LV b s i)) (K : ∀ (hx' hm' : PH) (f' : Nat → Int64) (H' : Heap) (locs' : List Loc) (ls' : Array Slot), LW D cy hx' hm' f' s H' locs' → lv_has ls' 7 (LV b s i) → W p l e room_1 s m #[Value.ref b] below meth c H' locs' (cl + 1) (sl + 6) (lw_Z below #[Value.ref b] s) (F0 m 1554 ls' [])) : W p l e room_1 s m #[Value.ref b] below meth c H locs cl sl (lw_Z below #[Value.ref b] s) (F0 m 1441 ls []) := by
  have hbA : ¬ A0 s b := Nat.not_le.mpr hbl
  have hx9 := S.1
  have hb9 := S.2.1
  obtain ⟨I1, I2, I3, L0⟩ := I
  have hS := I1.2.2.1
  obtain ⟨_, v1, v2, v3, v4, v5⟩ := hin
  obtain ⟨a, hx', hm', ex, em, L1⟩ := p_tried L0 (xs (i + 1).toNatClampNeg) (xs (i + 2).toNatClampNeg) (xs (i + 3).toNatClampNeg)
  refine lv_aload_n hx9 hb9 dL_law_1441 rfl (lv_at hl 1 rfl) ?_
  refine lv_aload_n hx9 hb9 dL_law_1442 rfl (lv_at hl 0 rfl) ?_
  refine lv_iload hx9 hb9 dL_law_1443 (lv_at hl 4 rfl) ?_
  refine lv_iconst (v := 1) hx9 hb9 dL_law_1445 (by decide) ?_
  refine lv_iadd hx9 hb9 dL_law_1446 ?_
  refine va_sld (A := A0 s) hx9 hb9 hX hbl hbA hS v1 dL_law_1447 ?_
  refine lv_aload_n hx9 hb9 dL_law_1448 rfl (lv_at hl 0 rfl) ?_
  refine lv_iload hx9 hb9 dL_law_1449 (lv_at hl 4 rfl) ?_
  refine lv_iconst (v := 2) hx9 hb9 dL_law_1451 (by decide) ?_
  refine lv_iadd hx9 hb9 dL_law_1452 ?_
  refine va_sld (A := A0 s) hx9 hb9 hX hbl hbA hS v2 dL_law_1453 ?_
  refine lv_aload_n hx9 hb9 dL_law_1454 rfl (lv_at hl 0 rfl) ?_
  refine lv_iload hx9 hb9 dL_law_1455 (lv_at hl 4 rfl) ?_
  refine lv_iconst (v := 3) hx9 hb9 dL_law_1457 (by decide) ?_
  refine lv_iadd hx9 hb9 dL_law_1458 ?_
  refine va_sld (A := A0 s) hx9 hb9 hX hbl hbA hS v3 dL_law_1459 ?_
  refine l_Vi (As := [.int (xs (i + 1).toNatClampNeg), .int (xs (i + 2).toNatClampNeg), .int (xs (i + 3).toNatClampNeg)]) S (M11_tried l D cy s.heap.size (Aw s.heap.size 110) ex) gL_11_tried rfl rfl rfl cdL_11_tried ⟨Nat.le_of_ble_eq_true rfl, Nat.le_of_ble_eq_true rfl⟩ I1 (Nat.le_refl _) (x_ok L0.1).1 clX11 rfl rfl hl.1 rfl (Nat.le_of_ble_eq_true rfl) dL_law_1460 ⟨Nat.le_trans (Nat.add_le_add_right hc.1 _) (Nat.le_of_ble_eq_true rfl), Nat.le_trans (Nat.add_le_add_right hc.2 _) (Nat.le_of_ble_eq_true rfl)⟩ (fun H1 locs1 J1 hk1 => ?_)
  have I2 := LM_kept I2 (A := Aw s.heap.size 110) (fun i hi z => by have := z.2; omega) hk1 J1.2.2.1
  have I3 := LM_kept I3 (A := Aw s.heap.size 110) (fun i hi z => by have := z.2; omega) hk1 J1.2.2.1
  have hS := I2.2.2.1
  refine lv_pop hx9 hb9 dL_law_1463 rfl ?_
  refine lv_aload_n hx9 hb9 dL_law_1464 rfl (lv_at hl 2 rfl) ?_
  refine lv_aload_n hx9 hb9 dL_law_1465 rfl (lv_at hl 0 rfl) ?_
  refine lv_iload hx9 hb9 dL_law_1466 (lv_at hl 4 rfl) ?_
  refine lv_iconst (v := 1) hx9 hb9 dL_law_1468 (by decide) ?_
  refine lv_iadd hx9 hb9 dL_law_1469 ?_
  refine va_sld (A := A0 s) hx9 hb9 hX hbl hbA hS v1 dL_law_1470 ?_
  refine lv_aload_n hx9 hb9 dL_law_1471 rfl (lv_at hl 0 rfl) ?_
  refine lv_iload hx9 hb9 dL_law_1472 (lv_at hl 4 rfl) ?_
  refine lv_iconst (v := 2) hx9 hb9 dL_law_1474 (by decide) ?_
  refine lv_iadd hx9 hb9 dL_law_1475 ?_
  refine va_sld (A := A0 s) hx9 hb9 hX hbl hbA hS v2 dL_law_1476 ?_
  refine lv_aload_n hx9 hb9 dL_law_1477 rfl (lv_at hl 0 rfl) ?_
  refine lv_iload hx9 hb9 dL_law_1478 (lv_at hl 4 rfl) ?_
  refine lv_iconst (v := 3) hx9 hb9 dL_law_1480 (by decide) ?_
  refine lv_iadd hx9 hb9 dL_law_1481 ?_
  refine va_sld (A := A0 s) hx9 hb9 hX hbl hbA hS v3 dL_law_1482 ?_
  refine l_Vi (As := [.int (xs (i + 1).toNatClampNeg), .int (xs (i + 2).toNatClampNeg), .int (xs (i + 3).toNatClampNeg)]) S (M12_tried l D cy (s.heap.size + 110) (Aw (s.heap.size + 110) 43) false em) gL_12_tried rfl rfl rfl cdL_12_tried ⟨Nat.le_of_ble_eq_true rfl, Nat.le_of_ble_eq_true rfl⟩ I2 (Nat.le_add_right _ _) (m_ok L0.2.1).1 clX12 rfl rfl hl.1 rfl (Nat.le_of_ble_eq_true rfl) dL_law_1483 ⟨Nat.le_trans (Nat.add_le_add_right hc.1 _) (Nat.le_of_ble_eq_true rfl), Nat.le_trans (Nat.add_le_add_right hc.2 _) (Nat.le_of_ble_eq_true rfl)⟩ (fun H2 locs2 J2 hk2 => ?_)
  have J1 := LM_kept J1 (A := Aw (s.heap.size + 110) 43) (fun i hi z => by have := z.1; omega) hk2 J2.2.2.1
  have I3 := LM_kept I3 (A := Aw (s.heap.size + 110) 43) (fun i hi z => by have := z.2; omega) hk2 J2.2.2.1
  refine lv_pop hx9 hb9 dL_law_1486 rfl ?_
  refine lv_goto (tgt := 1554) hx9 hb9 dL_law_1487 (by decide) ?_
  refine W.widen (k := cl + 1) (n := sl + 6) (Nat.le_succ _) (Nat.le_add_right _ _) ?_
  exact K _ _ _ _ _ _ ⟨J1, J2, I3, L1⟩ hl
set_option maxHeartbeats 1000000 in
theorem lc_1490 (S : CallFix p m c cL_law 7 s #[Value.ref b] lw_tbl RL) (hX : va_X b L xs s s.heap) (hbl : b < s.heap.size) {hx hm : PH} {f : Nat → Int64} (I : LW D cy hx hm f s H locs) {i : Int32} (hin : IN i L) {cl sl : Nat} (hc : cl ≤ 1000 ∧ sl ≤ 20000) (hl : lv_has ls 7 (LV b s i)) (K : ∀ (hx' hm' : PH) (f' : Nat → Int64) (H' : Heap) (locs' : List Loc) (ls' : Array Slot), LW D cy hx' hm' f' s H' locs' → lv_has ls' 7 (LV b s i) → W p l e room_1 s m #[Value.ref b] below meth c H' locs' (cl + 1) (sl + 6) (lw_Z below #[Value.ref b] s) (F0 m 1554 ls' [])) : W p l e room_1 s m #[Value.ref b] below meth c H locs cl sl (lw_Z below #[Value.ref b] s) (F0 m 1490 ls []) := by
  have hbA : ¬ A0 s b := Nat.not_le.mpr hbl
  have hx9 := S.1
  have hb9 := S.2.1
  obtain ⟨I1, I2, I3, L0⟩ := I
  have hS := I1.2.2.1
  obtain ⟨_, v1, v2, v3, v4, v5⟩ := hin
  obtain ⟨a, hx', hm', ex, em, L1⟩ := p_undo L0 
  refine lv_aload_n hx9 hb9 dL_law_1490 rfl (lv_at hl 1 rfl) ?_
  refine l_Vi (As := []) S (M11_undo l D cy s.heap.size (Aw s.heap.size 110) false ex) gL_11_undo rfl rfl rfl cdL_11_undo ⟨Nat.le_of_ble_eq_true rfl, Nat.le_of_ble_eq_true rfl⟩ I1 (Nat.le_refl _) (x_ok L0.1).1 clX11 rfl rfl hl.1 rfl (Nat.le_of_ble_eq_true rfl) dL_law_1491 ⟨Nat.le_trans (Nat.add_le_add_right hc.1 _) (Nat.le_of_ble_eq_true rfl), Nat.le_trans (Nat.add_le_add_right hc.2 _) (Nat.le_of_ble_eq_true rfl)⟩ (fun H1 locs1 J1 hk1 => ?_)
  have I2 := LM_kept I2 (A := Aw s.heap.size 110) (fun i hi z => by have := z.2; omega) hk1 J1.2.2.1
  have I3 := LM_kept I3 (A := Aw s.heap.size 110) (fun i hi z => by have := z.2; omega) hk1 J1.2.2.1
  have hS := I2.2.2.1
  refine lv_pop hx9 hb9 dL_law_1494 rfl ?_
  refine lv_aload_n hx9 hb9 dL_law_1495 rfl (lv_at hl 2 rfl) ?_
  refine l_Vi (As := []) S (M12_undo l D cy (s.heap.size + 110) (Aw (s.heap.size + 110) 43) false em) gL_12_undo rfl rfl rfl cdL_12_undo ⟨Nat.le_of_ble_eq_true rfl, Nat.le_of_ble_eq_true rfl⟩ I2 (Nat.le_add_right _ _) (m_ok L0.2.1).1 clX12 rfl rfl hl.1 rfl (Nat.le_of_ble_eq_true rfl) dL_law_1496 ⟨Nat.le_trans (Nat.add_le_add_right hc.1 _) (Nat.le_of_ble_eq_true rfl), Nat.le_trans (Nat.add_le_add_right hc.2 _) (Nat.le_of_ble_eq_true rfl)⟩ (fun H2 locs2 J2 hk2 => ?_)
  have J1 := LM_kept J1 (A := Aw (s.heap.size + 110) 43) (fun i hi z => by have := z.1; omega) hk2 J2.2.2.1
  have I3 := LM_kept I3 (A := Aw (s.heap.size + 110) 43) (fun i hi z => by have := z.2; omega) hk2 J2.2.2.1
  refine lv_pop hx9 hb9 dL_law_1499 rfl ?_
  refine lv_goto (tgt := 1554) hx9 hb9 dL_law_1500 (by decide) ?_
  refine W.widen (k := cl + 1) (n := sl + 6) (Nat.le_succ _) (Nat.le_add_right _ _) ?_
  exact K _ _ _ _ _ _ ⟨J1, J2, I3, L1⟩ hl
set_option maxHeartbeats 1000000 in
theorem lc_1503 (S : CallFix p m c cL_law 7 s #[Value.ref b] lw_tbl RL) (hX : va_X b L xs s s.heap) (hbl : b < s.heap.size) {hx hm : PH} {f : Nat → Int64} (I : LW D cy hx hm f s H locs) {i : Int32} (hin : IN i L) {cl sl : Nat} (hc : cl ≤ 1000 ∧ sl ≤ 20000) (hl : lv_has ls 7 (LV b s i)) (K : ∀ (hx' hm' : PH) (f' : Nat → Int64) (H' : Heap) (locs' : List Loc) (ls' : Array Slot), LW D cy hx' hm' f' s H' locs' → lv_has ls' 7 (LV b s i) → W p l e room_1 s m #[Value.ref b] below meth c H' locs' (cl + 1) (sl + 6) (lw_Z below #[Value.ref b] s) (F0 m 1554 ls' [])) : W p l e room_1 s m #[Value.ref b] below meth c H locs cl sl (lw_Z below #[Value.ref b] s) (F0 m 1503 ls []) := by
  have hbA : ¬ A0 s b := Nat.not_le.mpr hbl
  have hx9 := S.1
  have hb9 := S.2.1
  obtain ⟨I1, I2, I3, L0⟩ := I
  have hS := I1.2.2.1
  obtain ⟨_, v1, v2, v3, v4, v5⟩ := hin
  obtain ⟨a, hx', hm', ex, em, L1⟩ := p_keep L0 
  refine lv_aload_n hx9 hb9 dL_law_1503 rfl (lv_at hl 1 rfl) ?_
  refine l_Vi (As := []) S (M11_keep l D cy s.heap.size (Aw s.heap.size 110) ex) gL_11_keep rfl rfl rfl cdL_11_keep ⟨Nat.le_of_ble_eq_true rfl, Nat.le_of_ble_eq_true rfl⟩ I1 (Nat.le_refl _) (x_ok L0.1).1 clX11 rfl rfl hl.1 rfl (Nat.le_of_ble_eq_true rfl) dL_law_1504 ⟨Nat.le_trans (Nat.add_le_add_right hc.1 _) (Nat.le_of_ble_eq_true rfl), Nat.le_trans (Nat.add_le_add_right hc.2 _) (Nat.le_of_ble_eq_true rfl)⟩ (fun H1 locs1 J1 hk1 => ?_)
  have I2 := LM_kept I2 (A := Aw s.heap.size 110) (fun i hi z => by have := z.2; omega) hk1 J1.2.2.1
  have I3 := LM_kept I3 (A := Aw s.heap.size 110) (fun i hi z => by have := z.2; omega) hk1 J1.2.2.1
  have hS := I2.2.2.1
  refine lv_pop hx9 hb9 dL_law_1507 rfl ?_
  refine lv_aload_n hx9 hb9 dL_law_1508 rfl (lv_at hl 2 rfl) ?_
  refine l_Vi (As := []) S (M12_keep l D cy (s.heap.size + 110) (Aw (s.heap.size + 110) 43) false em) gL_12_keep rfl rfl rfl cdL_12_keep ⟨Nat.le_of_ble_eq_true rfl, Nat.le_of_ble_eq_true rfl⟩ I2 (Nat.le_add_right _ _) (m_ok L0.2.1).1 clX12 rfl rfl hl.1 rfl (Nat.le_of_ble_eq_true rfl) dL_law_1509 ⟨Nat.le_trans (Nat.add_le_add_right hc.1 _) (Nat.le_of_ble_eq_true rfl), Nat.le_trans (Nat.add_le_add_right hc.2 _) (Nat.le_of_ble_eq_true rfl)⟩ (fun H2 locs2 J2 hk2 => ?_)
  have J1 := LM_kept J1 (A := Aw (s.heap.size + 110) 43) (fun i hi z => by have := z.1; omega) hk2 J2.2.2.1
  have I3 := LM_kept I3 (A := Aw (s.heap.size + 110) 43) (fun i hi z => by have := z.2; omega) hk2 J2.2.2.1
  refine lv_pop hx9 hb9 dL_law_1512 rfl ?_
  refine lv_goto (tgt := 1554) hx9 hb9 dL_law_1513 (by decide) ?_
  refine W.widen (k := cl + 1) (n := sl + 6) (Nat.le_succ _) (Nat.le_add_right _ _) ?_
  exact K _ _ _ _ _ _ ⟨J1, J2, I3, L1⟩ hl
set_option maxHeartbeats 1000000 in
theorem lc_1516 (S : CallFix p m c cL_law 7 s #[Value.ref b] lw_tbl RL) (hX : va_X b L xs s s.heap) (hbl : b < s.heap.size) {hx hm : PH} {f : Nat → Int64} (I : LW D cy hx hm f s H locs) {i : Int32} (hin : IN i L) {cl sl : Nat} (hc : cl ≤ 1000 ∧ sl ≤ 20000) (hl : lv_has ls 7 (LV b s i)) (K : ∀ (hx' hm' : PH) (f' : Nat → Int64) (H' : Heap) (locs' : List Loc) (ls' : Array Slot), LW D cy hx' hm' f' s H' locs' → lv_has ls' 7 (LV b s i) → W p l e room_1 s m #[Value.ref b] below meth c H' locs' (cl + 1) (sl + 6) (lw_Z below #[Value.ref b] s) (F0 m 1554 ls' [])) : W p l e room_1 s m #[Value.ref b] below meth c H locs cl sl (lw_Z below #[Value.ref b] s) (F0 m 1516 ls []) := by
  have hbA : ¬ A0 s b := Nat.not_le.mpr hbl
  have hx9 := S.1
  have hb9 := S.2.1
  obtain ⟨I1, I2, I3, L0⟩ := I
  have hS := I1.2.2.1
  obtain ⟨_, v1, v2, v3, v4, v5⟩ := hin
  obtain ⟨a, hx', hm', ex, em, L1⟩ := p_back L0 
  refine lv_aload_n hx9 hb9 dL_law_1516 rfl (lv_at hl 1 rfl) ?_
  refine l_Vi (As := []) S (M11_back l D cy s.heap.size (Aw s.heap.size 110) ex) gL_11_back rfl rfl rfl cdL_11_back ⟨Nat.le_of_ble_eq_true rfl, Nat.le_of_ble_eq_true rfl⟩ I1 (Nat.le_refl _) (x_ok L0.1).1 clX11 rfl rfl hl.1 rfl (Nat.le_of_ble_eq_true rfl) dL_law_1517 ⟨Nat.le_trans (Nat.add_le_add_right hc.1 _) (Nat.le_of_ble_eq_true rfl), Nat.le_trans (Nat.add_le_add_right hc.2 _) (Nat.le_of_ble_eq_true rfl)⟩ (fun H1 locs1 J1 hk1 => ?_)
  have I2 := LM_kept I2 (A := Aw s.heap.size 110) (fun i hi z => by have := z.2; omega) hk1 J1.2.2.1
  have I3 := LM_kept I3 (A := Aw s.heap.size 110) (fun i hi z => by have := z.2; omega) hk1 J1.2.2.1
  have hS := I2.2.2.1
  refine lv_pop hx9 hb9 dL_law_1520 rfl ?_
  refine lv_aload_n hx9 hb9 dL_law_1521 rfl (lv_at hl 2 rfl) ?_
  refine l_Vi (As := []) S (M12_back l D cy (s.heap.size + 110) (Aw (s.heap.size + 110) 43) false em) gL_12_back rfl rfl rfl cdL_12_back ⟨Nat.le_of_ble_eq_true rfl, Nat.le_of_ble_eq_true rfl⟩ I2 (Nat.le_add_right _ _) (m_ok L0.2.1).1 clX12 rfl rfl hl.1 rfl (Nat.le_of_ble_eq_true rfl) dL_law_1522 ⟨Nat.le_trans (Nat.add_le_add_right hc.1 _) (Nat.le_of_ble_eq_true rfl), Nat.le_trans (Nat.add_le_add_right hc.2 _) (Nat.le_of_ble_eq_true rfl)⟩ (fun H2 locs2 J2 hk2 => ?_)
  have J1 := LM_kept J1 (A := Aw (s.heap.size + 110) 43) (fun i hi z => by have := z.1; omega) hk2 J2.2.2.1
  have I3 := LM_kept I3 (A := Aw (s.heap.size + 110) 43) (fun i hi z => by have := z.2; omega) hk2 J2.2.2.1
  refine lv_pop hx9 hb9 dL_law_1525 rfl ?_
  refine lv_goto (tgt := 1554) hx9 hb9 dL_law_1526 (by decide) ?_
  refine W.widen (k := cl + 1) (n := sl + 6) (Nat.le_succ _) (Nat.le_add_right _ _) ?_
  exact K _ _ _ _ _ _ ⟨J1, J2, I3, L1⟩ hl
set_option maxHeartbeats 1000000 in
theorem lc_1529 (S : CallFix p m c cL_law 7 s #[Value.ref b] lw_tbl RL) (hX : va_X b L xs s s.heap) (hbl : b < s.heap.size) {hx hm : PH} {f : Nat → Int64} (I : LW D cy hx hm f s H locs) {i : Int32} (hin : IN i L) {cl sl : Nat} (hc : cl ≤ 1000 ∧ sl ≤ 20000) (hl : lv_has ls 7 (LV b s i)) (K : ∀ (hx' hm' : PH) (f' : Nat → Int64) (H' : Heap) (locs' : List Loc) (ls' : Array Slot), LW D cy hx' hm' f' s H' locs' → lv_has ls' 7 (LV b s i) → W p l e room_1 s m #[Value.ref b] below meth c H' locs' (cl + 1) (sl + 6) (lw_Z below #[Value.ref b] s) (F0 m 1554 ls' [])) : W p l e room_1 s m #[Value.ref b] below meth c H locs cl sl (lw_Z below #[Value.ref b] s) (F0 m 1529 ls []) := by
  have hbA : ¬ A0 s b := Nat.not_le.mpr hbl
  have hx9 := S.1
  have hb9 := S.2.1
  obtain ⟨I1, I2, I3, L0⟩ := I
  have hS := I1.2.2.1
  obtain ⟨_, v1, v2, v3, v4, v5⟩ := hin
  obtain ⟨a, hx', hm', ex, em, L1⟩ := p_count L0 (xs (i + 1).toNatClampNeg)
  refine lv_aload_n hx9 hb9 dL_law_1529 rfl (lv_at hl 1 rfl) ?_
  refine lv_aload_n hx9 hb9 dL_law_1530 rfl (lv_at hl 0 rfl) ?_
  refine lv_iload hx9 hb9 dL_law_1531 (lv_at hl 4 rfl) ?_
  refine lv_iconst (v := 1) hx9 hb9 dL_law_1533 (by decide) ?_
  refine lv_iadd hx9 hb9 dL_law_1534 ?_
  refine va_sld (A := A0 s) hx9 hb9 hX hbl hbA hS v1 dL_law_1535 ?_
  refine l_Vi (As := [.int (xs (i + 1).toNatClampNeg)]) S (M11_count l D cy s.heap.size (Aw s.heap.size 110) false ex) gL_11_count rfl rfl rfl cdL_11_count ⟨Nat.le_of_ble_eq_true rfl, Nat.le_of_ble_eq_true rfl⟩ I1 (Nat.le_refl _) (x_ok L0.1).1 clX11 rfl rfl hl.1 rfl (Nat.le_of_ble_eq_true rfl) dL_law_1536 ⟨Nat.le_trans (Nat.add_le_add_right hc.1 _) (Nat.le_of_ble_eq_true rfl), Nat.le_trans (Nat.add_le_add_right hc.2 _) (Nat.le_of_ble_eq_true rfl)⟩ (fun H1 locs1 J1 hk1 => ?_)
  have I2 := LM_kept I2 (A := Aw s.heap.size 110) (fun i hi z => by have := z.2; omega) hk1 J1.2.2.1
  have I3 := LM_kept I3 (A := Aw s.heap.size 110) (fun i hi z => by have := z.2; omega) hk1 J1.2.2.1
  have hS := I2.2.2.1
  refine lv_pop hx9 hb9 dL_law_1539 rfl ?_
  refine lv_aload_n hx9 hb9 dL_law_1540 rfl (lv_at hl 2 rfl) ?_
  refine lv_aload_n hx9 hb9 dL_law_1541 rfl (lv_at hl 0 rfl) ?_
  refine lv_iload hx9 hb9 dL_law_1542 (lv_at hl 4 rfl) ?_
  refine lv_iconst (v := 1) hx9 hb9 dL_law_1544 (by decide) ?_
  refine lv_iadd hx9 hb9 dL_law_1545 ?_
  refine va_sld (A := A0 s) hx9 hb9 hX hbl hbA hS v1 dL_law_1546 ?_
  refine l_Vi (As := [.int (xs (i + 1).toNatClampNeg)]) S (M12_count l D cy (s.heap.size + 110) (Aw (s.heap.size + 110) 43) false em) gL_12_count rfl rfl rfl cdL_12_count ⟨Nat.le_of_ble_eq_true rfl, Nat.le_of_ble_eq_true rfl⟩ I2 (Nat.le_add_right _ _) (m_ok L0.2.1).1 clX12 rfl rfl hl.1 rfl (Nat.le_of_ble_eq_true rfl) dL_law_1547 ⟨Nat.le_trans (Nat.add_le_add_right hc.1 _) (Nat.le_of_ble_eq_true rfl), Nat.le_trans (Nat.add_le_add_right hc.2 _) (Nat.le_of_ble_eq_true rfl)⟩ (fun H2 locs2 J2 hk2 => ?_)
  have J1 := LM_kept J1 (A := Aw (s.heap.size + 110) 43) (fun i hi z => by have := z.1; omega) hk2 J2.2.2.1
  have I3 := LM_kept I3 (A := Aw (s.heap.size + 110) 43) (fun i hi z => by have := z.2; omega) hk2 J2.2.2.1
  refine lv_pop hx9 hb9 dL_law_1550 rfl ?_
  refine lv_goto (tgt := 1554) hx9 hb9 dL_law_1551 (by decide) ?_
  refine W.widen (k := cl + 1) (n := sl + 6) (Nat.le_succ _) (Nat.le_add_right _ _) ?_
  exact K _ _ _ _ _ _ ⟨J1, J2, I3, L1⟩ hl
end LC
