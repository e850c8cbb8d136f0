/-! THE CLAIM OUT OF ONE WALK OF THE LAW'S BODY. Your part is whole_start (and what it stands on); all else here is the same for every law, but numbers. -/
def R_law : String := "WhoseWaveLaw"
def lw_P (b : Addr) (xs : List Int32) (args : Array Value) (s : State) : Prop := args = #[.ref b] ∧ s.IntsAt b xs ∧ xs.length ≤ 3072 ∧ (Jvm.Cond.and given_1 narrow_1).before args s = true
def lw_Q (_ : Array Value) (s : State) (o : Outcome) (t : State) : Prop := o = .returned (some (.int 1)) ∧ Framed s o t [] 601024 7293034
def lw_Z (below : List Frame) (a : Array Value) (s : State) : State → Prop := fun t => ∃ o, t.status = .running ∧ Ended t below o ∧ lw_Q a s o t
/-- the law's own end, with 1 on the stack, nothing written that was there before, its room as the claim has it -/
theorem lw_ret {p : Program} {l : Launch} {e : Env} {s : State} {m : MethodId} {below : List Frame} {meth : Method} {c : Code} {b : Nat} (hx : p.tables.exec = Jvm.exec) (hb : c.code = code) (hr : meth.sig.returnType = ret) (hlocks : meth.locks = false) {pc : Nat} {H : Heap} {ls : Array Slot} (hdg : decode code pc = .ok (.ireturn, 1)) : W p l e room_1 s m #[Value.ref b] below meth c H [] 601024 7293034 (lw_Z below #[Value.ref b] s) (F0 m pc ls [.int 1]) := by
  intro T hT X
  obtain ⟨fs, hret, hrun, hended, hW, hframe⟩ := X.leave (v := some (.int 1)) (hlocks := hlocks) (fun h => by rw [hr] at h; cases h)
  have hmeth' : T.vm.method? m = some meth := X.method'
  refine ⟨T.setFrames fs, ?_, .returned (some (.int 1)), hrun, hended, rfl, ⟨_, rfl⟩, hW, hframe⟩
  jvm_step X.here [X.here.top, hx, hb, hdg, hmeth', hr, ret, narrow_b1]
  (try refine ⟨rfl, ?_⟩); (try refine ⟨rfl, ?_⟩)
  first | (intro acts; rw [hret _ acts rfl rfl rfl]) | rw [hret _ _ rfl rfl rfl]
  exact Steps.refl _
/-- what holds at the law's entry: the machine, the code, the tables' words (any of lw_tbl by 'hts w (by decide +kernel)'), the script of L ints xs at the cell b, what the Statement gives of the start (any of its parts by flat_of_before) -/
def lw_At (p : Program) (s : State) (m : MethodId) (meth : Method) (c : Code) (b L : Nat) (xs : Nat → Int32) : Prop :=
  p.tables.exec = Jvm.exec ∧ c.code = code ∧ meth.sig.returnType = ret ∧ c.maxLocals = 7 ∧ s.vm.findClass R_law = some m.cls ∧ (∀ w ∈ lw_tbl, w.before #[Value.ref b] s = true) ∧ va_X b L xs s s.heap ∧ b < s.heap.size ∧ meth.locks = false ∧ (Jvm.Cond.and given_1 narrow_1).before #[Value.ref b] s = true
/-! The law's own rows: two worlds, the class's and the reference's, one behind the other. -/
theorem gV_law {own C : String} {idx n : Nat} {y : MethodName} {cc : ByteArray} {ret : Option FieldType} (h1 : Cond.methodLink own idx y ∈ TB) (h2 : Cond.instanceMethod y ∈ TB) (h3 : Cond.selects C y y ∈ TB) (h4 : Cond.initialized C ∈ TB) (h5 : Cond.code y cc n ret ∈ TB) : GoodIn lw_tbl (wsV own idx C y (.code y cc n ret :: TB)) := by
  intro w hw
  have h := gV_of (c0 := Cond.initialized C) h1 h2 h3 h4 h5 w hw
  refine ⟨?_, h.2⟩
  rcases List.mem_cons.mp h.1 with e | e
  · rw [e]; exact TB_in _ h4
  · exact TB_in w e
theorem gI_law {n : Nat} {y : MethodName} {cc : ByteArray} {ret : Option FieldType} (h5 : Cond.code y cc n ret ∈ TB) : GoodIn lw_tbl (.code y cc n ret :: TB) := by
  intro w hw
  rcases List.mem_cons.mp hw with e | e
  · rw [e]; exact ⟨TB_in _ h5, TB_good _ h5⟩
  · exact ⟨TB_in w e, TB_good w e⟩
theorem ph_X_narrow {cy : Nat → ClassId} {A B : Nat → Prop} {U : State} (h : ph_X cy A U) (hAB : ∀ q, B q → A q) : ph_X cy B U := by
  obtain ⟨h1, ⟨t, h2, h3⟩, ⟨h4, h5⟩, h6, h7, h8, h9, h10, h11, h12⟩ := h
  exact ⟨h1, ⟨t, h2.narrow hAB, h3.narrow hAB⟩, ⟨h4, h5.narrow hAB⟩, h6.narrow hAB, h7.narrow hAB, h8.narrow hAB, h9.narrow hAB, h10, h11, h12⟩
def Aw (b n : Nat) (q : Nat) : Prop := b ≤ q ∧ q < b + n
def A0 (s : State) (q : Nat) : Prop := s.heap.size ≤ q
/-- one world, as the law has it: the machine's facts, and the world's cells -/
def LM (D : va_G) (cy : Nat → ClassId) (bw nw : Nat) (h : PH) (s : State) (H : Heap) (locs : List Loc) : Prop :=
  va_P D ph_cl (ph_w bw cy h) H ∧ va_K D ph_cl (ph_t cy) s ∧ va_S (A0 s) s.heap H locs ∧ (∀ i, i < h.length → i < nw) ∧ ph_X cy (A0 s) s
theorem LM_kept {D : va_G} {cy : Nat → ClassId} {bw nw : Nat} {h : PH} {s : State} {H H1 : Heap} {locs locs1 : List Loc} {A : Nat → Prop} (I : LM D cy bw nw h s H locs) (hA : ∀ i, i < nw → ¬ A (bw + i)) (hk : ∀ q : Nat, q < H.size → ¬ A q → H1[q]? = H[q]?) (hS : va_S (A0 s) s.heap H1 locs1) : LM D cy bw nw h s H1 locs1 := by
  obtain ⟨hP, hK, -, hn, hX⟩ := I
  refine ⟨hP.kept (fun k q hq => ?_), hK, hS, hn, hX⟩
  refine hk q.1 (hP k q hq).lt ?_
  rw [ph_w_at] at hq
  cases hc : h[k]? with
  | none => rw [hc] at hq; cases hq
  | some c =>
    rw [hc] at hq
    have e := Option.some.inj hq
    subst e
    exact hA k (hn k (List.getElem?_eq_some_iff.mp hc).1)
section OL
variable {p : Program} {l : Launch} {e : Env} {R : Room} {s : State} {m : MethodId} {args : Array Value} {below : List Frame} {meth : Method} {c : Code} {H : Heap} {locs : List Loc} {cells slots : Nat} {Q : State → Prop}
variable {cc : ByteArray} {nL pc : Nat} {ls : Array Slot} {rest st0 As : List Value} {D : va_G} {cy : Nat → ClassId} {bw nw : Nat} {fl : Bool} {h h' : PH} {Ts ws ws' : List Cond} {own : String}
variable {y : MethodName} {bytes : ByteArray} {maxL mc ms n index : Nat} {ret : Option FieldType} {rm : Room}
theorem lm_pre {av : List Value} (I : LM D cy bw nw h s H locs) (hb : s.heap.size ≤ bw) (hz : fl = true → H.size = bw + h.length) {A : Nat → Prop} (hA1 : ∀ q, A q → s.heap.size ≤ q) (hA2 : ∀ i, i < nw → A (bw + i)) : ∀ U : State, U.heap = H → s.WarmedH U.vm → va_Pc av (ph_B D cy bw A fl h) av.toArray U := fun U hU hW => ⟨rfl, by rw [hU]; exact I.1, va_K.moved hW.alike I.2.1, fun i hi => hA2 i (I.2.2.2.1 i hi), (fun q => by rw [hU]; exact hz q), ph_X_narrow (ph_X_move I.2.2.2.2 I.2.2.1 hU hW) hA1⟩
theorem l_Vi (S : CallFix p m c cc nL s args Ts own) {ci : Nat} {q : vw_C} {out : Int32 × PH} (hM : Met l y ws rm (va_Pc (.ref (bw + 0) :: As) (ph_B D cy bw (Aw bw nw) false h)) (va_Qi (fun (r : Int32) (u : PH) => (r, u) = out) (ph_B D cy bw (Aw bw nw) false) (Aw bw nw)) mc ms (Aw bw nw)) (hT : GoodIn Ts (wsV own index y.cls y ws)) (hw : ws = Cond.code y bytes maxL ret :: ws') (hrc : rm.cells = mc) (hrs : rm.slots = ms) (hd : Cd y n) (hR : rm.frames + 1 ≤ R.frames ∧ 8 + (maxL + 11) + rm.locals ≤ R.locals) (I : LM D cy bw nw h s H locs) (hb : s.heap.size ≤ bw) (ho : okO h 0 ci = true) (hc : ph_cl[ci]? = some q) (hq : q.1 = y.cls)
    (hn : As.length = n) (hsz : ls.size = nL) (hst : st0 = As.reverse ++ .ref (bw + 0) :: rest) (hW : (rest.map fun v => v.category).sum ≤ 8) (hdg : decode cc pc = .ok (.invokevirtual index, 3)) (hf : cells + mc ≤ R.cells ∧ slots + ms ≤ R.slots)
    (kk : ∀ (H1 : Heap) (locs1 : List Loc), LM D cy bw nw out.2 s H1 locs1 → (∀ q : Nat, q < H.size → ¬ Aw bw nw q → H1[q]? = H[q]?) → W p l e R s m args below meth c H1 locs1 (cells + mc) (slots + ms) Q (F0 m (pc + 3) ls (.int out.1 :: rest))) : W p l e R s m args below meth c H locs cells slots Q (F0 m pc ls st0) := by
  obtain ⟨fs, e1⟩ := okO_spec ho
  have hA1 : ∀ q, Aw bw nw q → s.heap.size ≤ q := fun q z => Nat.le_trans hb z.1
  refine va_calli (A0 := A0 s) (va_runV (As := As) (rest := rest) (b := bw + 0) (C := y.cls) S hM (cwV n S.2.2.2.2 hT hw hrc hrs ⟨rfl, hd⟩ hR) ⟨ph_B_blind D cy bw (Aw bw nw) false h _, by rw [← hq]; exact va_recv I.2.1 I.1 hc (ph_w_get e1), lm_pre (fl := false) I hb (fun z => by cases z) hA1 (fun i hi => ⟨Nat.le_add_right _ _, by omega⟩)⟩ rfl hn hsz hst (lv_room hW) hdg hf) I.2.2.1 (fun q _ h => hA1 q h) (fun q h => hA1 q h) (fun r u t H1 locs1 ht hvm hw hB hz1 hk1 hS => ?_)
  subst hw
  exact kk H1 locs1 ⟨by rw [← ht]; exact hB.1, I.2.1, hS, fun i hi => by have := (hB.2.2.1 i hi).2; omega, I.2.2.2.2⟩ hk1
theorem l_Vl (S : CallFix p m c cc nL s args Ts own) {ci : Nat} {q : vw_C} {out : Int64 × PH} (hM : Met l y ws rm (va_Pc (.ref (bw + 0) :: As) (ph_B D cy bw (Aw bw nw) false h)) (va_Ql (fun (r : Int64) (u : PH) => (r, u) = out) (ph_B D cy bw (Aw bw nw) false) (Aw bw nw)) mc ms (Aw bw nw)) (hT : GoodIn Ts (wsV own index y.cls y ws)) (hw : ws = Cond.code y bytes maxL ret :: ws') (hrc : rm.cells = mc) (hrs : rm.slots = ms) (hd : Cd y n) (hR : rm.frames + 1 ≤ R.frames ∧ 8 + (maxL + 11) + rm.locals ≤ R.locals) (I : LM D cy bw nw h s H locs) (hb : s.heap.size ≤ bw) (ho : okO h 0 ci = true) (hc : ph_cl[ci]? = some q) (hq : q.1 = y.cls)
    (hn : As.length = n) (hsz : ls.size = nL) (hst : st0 = As.reverse ++ .ref (bw + 0) :: rest) (hW : (rest.map fun v => v.category).sum ≤ 8) (hdg : decode cc pc = .ok (.invokevirtual index, 3)) (hf : cells + mc ≤ R.cells ∧ slots + ms ≤ R.slots)
    (kk : ∀ (H1 : Heap) (locs1 : List Loc), LM D cy bw nw out.2 s H1 locs1 → (∀ q : Nat, q < H.size → ¬ Aw bw nw q → H1[q]? = H[q]?) → W p l e R s m args below meth c H1 locs1 (cells + mc) (slots + ms) Q (F0 m (pc + 3) ls (.long out.1 :: rest))) : W p l e R s m args below meth c H locs cells slots Q (F0 m pc ls st0) := by
  obtain ⟨fs, e1⟩ := okO_spec ho
  have hA1 : ∀ q, Aw bw nw q → s.heap.size ≤ q := fun q z => Nat.le_trans hb z.1
  refine va_calll (A0 := A0 s) (va_runV (As := As) (rest := rest) (b := bw + 0) (C := y.cls) S hM (cwV n S.2.2.2.2 hT hw hrc hrs ⟨rfl, hd⟩ hR) ⟨ph_B_blind D cy bw (Aw bw nw) false h _, by rw [← hq]; exact va_recv I.2.1 I.1 hc (ph_w_get e1), lm_pre (fl := false) I hb (fun z => by cases z) hA1 (fun i hi => ⟨Nat.le_add_right _ _, by omega⟩)⟩ rfl hn hsz hst (lv_room hW) hdg hf) I.2.2.1 (fun q _ h => hA1 q h) (fun q h => hA1 q h) (fun r u t H1 locs1 ht hvm hw hB hz1 hk1 hS => ?_)
  subst hw
  exact kk H1 locs1 ⟨by rw [← ht]; exact hB.1, I.2.1, hS, fun i hi => by have := (hB.2.2.1 i hi).2; omega, I.2.2.2.2⟩ hk1
end OL
/-! The instructions of the law. -/
theorem zd_dL_look_0 : sg (cL_look.data.toList.drop 0) [[45], [3], [42], [27], [28], [182, 0, 7], [133], [80], [167, 0, 11], [58, 4], [4], [172], [58, 4], [5], [172], [3], [172]] = true := by decide +kernel
theorem dL_look_0 : decode cL_look 0 = .ok (.aload_n 3, 1) := dc_45 (sg_at zd_dL_look_0 0 rfl rfl)
theorem dL_look_1 : decode cL_look 1 = .ok (.iconst 0, 1) := dc_3 (sg_at zd_dL_look_0 1 rfl rfl)
theorem dL_look_2 : decode cL_look 2 = .ok (.aload_n 0, 1) := dc_42 (sg_at zd_dL_look_0 2 rfl rfl)
theorem dL_look_3 : decode cL_look 3 = .ok (.iload_n 1, 1) := dc_27 (sg_at zd_dL_look_0 3 rfl rfl)
theorem dL_look_4 : decode cL_look 4 = .ok (.iload_n 2, 1) := dc_28 (sg_at zd_dL_look_0 4 rfl rfl)
theorem dL_look_5 : decode cL_look 5 = .ok (.invokevirtual 7, 3) := dc_182 (sg_at zd_dL_look_0 5 rfl rfl) rfl
theorem dL_look_8 : decode cL_look 8 = .ok (.i2l, 1) := dc_133 (sg_at zd_dL_look_0 6 rfl rfl)
theorem dL_look_9 : decode cL_look 9 = .ok (.lastore, 1) := dc_80 (sg_at zd_dL_look_0 7 rfl rfl)
theorem dL_look_10 : decode cL_look 10 = .ok (.goto 11, 3) := dc_167 (sg_at zd_dL_look_0 8 rfl rfl) rfl
theorem dL_look_13 : decode cL_look 13 = .ok (.astore 4, 2) := dc_58 (sg_at zd_dL_look_0 9 rfl rfl)
theorem dL_look_15 : decode cL_look 15 = .ok (.iconst 1, 1) := dc_4 (sg_at zd_dL_look_0 10 rfl rfl)
theorem dL_look_16 : decode cL_look 16 = .ok (.ireturn, 1) := dc_172 (sg_at zd_dL_look_0 11 rfl rfl)
theorem dL_look_17 : decode cL_look 17 = .ok (.astore 4, 2) := dc_58 (sg_at zd_dL_look_0 12 rfl rfl)
theorem dL_look_19 : decode cL_look 19 = .ok (.iconst 2, 1) := dc_5 (sg_at zd_dL_look_0 13 rfl rfl)
theorem dL_look_20 : decode cL_look 20 = .ok (.ireturn, 1) := dc_172 (sg_at zd_dL_look_0 14 rfl rfl)
theorem dL_look_21 : decode cL_look 21 = .ok (.iconst 0, 1) := dc_3 (sg_at zd_dL_look_0 15 rfl rfl)
theorem dL_look_22 : decode cL_look 22 = .ok (.ireturn, 1) := dc_172 (sg_at zd_dL_look_0 16 rfl rfl)
theorem zd_dL_law_0 : sg (cL_law.data.toList.drop 0) [[187, 0, 8], [89], [183, 0, 17], [76], [187, 0, 18], [89], [183, 0, 20], [77], [4], [188, 11], [78], [3], [54, 4], [21, 4], [42], [190], [16, 6], [100], [163, 5, 222], [42]] = true := by decide +kernel
theorem dL_law_0 : decode cL_law 0 = .ok (.new 8, 3) := dc_187 (sg_at zd_dL_law_0 0 rfl rfl) rfl
theorem dL_law_3 : decode cL_law 3 = .ok (.dup, 1) := dc_89 (sg_at zd_dL_law_0 1 rfl rfl)
theorem dL_law_4 : decode cL_law 4 = .ok (.invokespecial 17, 3) := dc_183 (sg_at zd_dL_law_0 2 rfl rfl) rfl
theorem dL_law_7 : decode cL_law 7 = .ok (.astore_n 1, 1) := dc_76 (sg_at zd_dL_law_0 3 rfl rfl)
theorem dL_law_8 : decode cL_law 8 = .ok (.new 18, 3) := dc_187 (sg_at zd_dL_law_0 4 rfl rfl) rfl
theorem dL_law_11 : decode cL_law 11 = .ok (.dup, 1) := dc_89 (sg_at zd_dL_law_0 5 rfl rfl)
theorem dL_law_12 : decode cL_law 12 = .ok (.invokespecial 20, 3) := dc_183 (sg_at zd_dL_law_0 6 rfl rfl) rfl
theorem dL_law_15 : decode cL_law 15 = .ok (.astore_n 2, 1) := dc_77 (sg_at zd_dL_law_0 7 rfl rfl)
theorem dL_law_16 : decode cL_law 16 = .ok (.iconst 1, 1) := dc_4 (sg_at zd_dL_law_0 8 rfl rfl)
theorem dL_law_17 : decode cL_law 17 = .ok (.newarray .long, 2) := dc_188_11 (sg_at zd_dL_law_0 9 rfl rfl)
theorem dL_law_19 : decode cL_law 19 = .ok (.astore_n 3, 1) := dc_78 (sg_at zd_dL_law_0 10 rfl rfl)
theorem dL_law_20 : decode cL_law 20 = .ok (.iconst 0, 1) := dc_3 (sg_at zd_dL_law_0 11 rfl rfl)
theorem dL_law_21 : decode cL_law 21 = .ok (.istore 4, 2) := dc_54 (sg_at zd_dL_law_0 12 rfl rfl)
theorem dL_law_23 : decode cL_law 23 = .ok (.iload 4, 2) := dc_21 (sg_at zd_dL_law_0 13 rfl rfl)
theorem dL_law_25 : decode cL_law 25 = .ok (.aload_n 0, 1) := dc_42 (sg_at zd_dL_law_0 14 rfl rfl)
theorem dL_law_26 : decode cL_law 26 = .ok (.arraylength, 1) := dc_190 (sg_at zd_dL_law_0 15 rfl rfl)
theorem dL_law_27 : decode cL_law 27 = .ok (.bipush 6, 2) := dc_16 (sg_at zd_dL_law_0 16 rfl rfl) rfl
theorem dL_law_29 : decode cL_law 29 = .ok (.isub, 1) := dc_100 (sg_at zd_dL_law_0 17 rfl rfl)
theorem dL_law_30 : decode cL_law 30 = .ok (.if_icmp .gt 1502, 3) := dc_163 (sg_at zd_dL_law_0 18 rfl rfl) rfl
theorem dL_law_33 : decode cL_law 33 = .ok (.aload_n 0, 1) := dc_42 (sg_at zd_dL_law_0 19 rfl rfl)
theorem zd_dL_law_34 : sg (cL_law.data.toList.drop 34) [[21, 4], [46], [16, 63], [126]] = true := by decide +kernel
theorem dL_law_34 : decode cL_law 34 = .ok (.iload 4, 2) := dc_21 (sg_at zd_dL_law_34 0 rfl rfl)
theorem dL_law_36 : decode cL_law 36 = .ok (.iaload, 1) := dc_46 (sg_at zd_dL_law_34 1 rfl rfl)
theorem dL_law_37 : decode cL_law 37 = .ok (.bipush 63, 2) := dc_16 (sg_at zd_dL_law_34 2 rfl rfl) rfl
theorem dL_law_39 : decode cL_law 39 = .ok (.iand, 1) := dc_126 (sg_at zd_dL_law_34 3 rfl rfl)
theorem dL_law_40 : decode cL_law 40 = .ok (.tableswitch 1486 0 38 #[172, 245, 270, 295, 320, 360, 397, 422, 471, 520, 557, 582, 607, 644, 681, 718, 743, 780, 829, 866, 891, 928, 977, 1026, 1075, 1100, 1125, 1138, 1175, 1200, 1249, 1274, 1299, 1324, 1373, 1422, 1435, 1448, 1461], 172) := by decide +kernel
theorem zd_dL_law_212 : sg (cL_law.data.toList.drop 212) [[43], [42], [21, 4], [4], [96], [46], [42], [21, 4], [5], [96], [46], [42], [21, 4], [6], [96], [46], [42], [21, 4], [7], [96]] = true := by decide +kernel
theorem dL_law_212 : decode cL_law 212 = .ok (.aload_n 1, 1) := dc_43 (sg_at zd_dL_law_212 0 rfl rfl)
theorem dL_law_213 : decode cL_law 213 = .ok (.aload_n 0, 1) := dc_42 (sg_at zd_dL_law_212 1 rfl rfl)
theorem dL_law_214 : decode cL_law 214 = .ok (.iload 4, 2) := dc_21 (sg_at zd_dL_law_212 2 rfl rfl)
theorem dL_law_216 : decode cL_law 216 = .ok (.iconst 1, 1) := dc_4 (sg_at zd_dL_law_212 3 rfl rfl)
theorem dL_law_217 : decode cL_law 217 = .ok (.iadd, 1) := dc_96 (sg_at zd_dL_law_212 4 rfl rfl)
theorem dL_law_218 : decode cL_law 218 = .ok (.iaload, 1) := dc_46 (sg_at zd_dL_law_212 5 rfl rfl)
theorem dL_law_219 : decode cL_law 219 = .ok (.aload_n 0, 1) := dc_42 (sg_at zd_dL_law_212 6 rfl rfl)
theorem dL_law_220 : decode cL_law 220 = .ok (.iload 4, 2) := dc_21 (sg_at zd_dL_law_212 7 rfl rfl)
theorem dL_law_222 : decode cL_law 222 = .ok (.iconst 2, 1) := dc_5 (sg_at zd_dL_law_212 8 rfl rfl)
theorem dL_law_223 : decode cL_law 223 = .ok (.iadd, 1) := dc_96 (sg_at zd_dL_law_212 9 rfl rfl)
theorem dL_law_224 : decode cL_law 224 = .ok (.iaload, 1) := dc_46 (sg_at zd_dL_law_212 10 rfl rfl)
theorem dL_law_225 : decode cL_law 225 = .ok (.aload_n 0, 1) := dc_42 (sg_at zd_dL_law_212 11 rfl rfl)
theorem dL_law_226 : decode cL_law 226 = .ok (.iload 4, 2) := dc_21 (sg_at zd_dL_law_212 12 rfl rfl)
theorem dL_law_228 : decode cL_law 228 = .ok (.iconst 3, 1) := dc_6 (sg_at zd_dL_law_212 13 rfl rfl)
theorem dL_law_229 : decode cL_law 229 = .ok (.iadd, 1) := dc_96 (sg_at zd_dL_law_212 14 rfl rfl)
theorem dL_law_230 : decode cL_law 230 = .ok (.iaload, 1) := dc_46 (sg_at zd_dL_law_212 15 rfl rfl)
theorem dL_law_231 : decode cL_law 231 = .ok (.aload_n 0, 1) := dc_42 (sg_at zd_dL_law_212 16 rfl rfl)
theorem dL_law_232 : decode cL_law 232 = .ok (.iload 4, 2) := dc_21 (sg_at zd_dL_law_212 17 rfl rfl)
theorem dL_law_234 : decode cL_law 234 = .ok (.iconst 4, 1) := dc_7 (sg_at zd_dL_law_212 18 rfl rfl)
theorem dL_law_235 : decode cL_law 235 = .ok (.iadd, 1) := dc_96 (sg_at zd_dL_law_212 19 rfl rfl)
theorem zd_dL_law_236 : sg (cL_law.data.toList.drop 236) [[46], [42], [21, 4], [8], [96], [46], [182, 0, 21], [87], [44], [42], [21, 4], [4], [96], [46], [42], [21, 4], [5], [96], [46], [42]] = true := by decide +kernel
theorem dL_law_236 : decode cL_law 236 = .ok (.iaload, 1) := dc_46 (sg_at zd_dL_law_236 0 rfl rfl)
theorem dL_law_237 : decode cL_law 237 = .ok (.aload_n 0, 1) := dc_42 (sg_at zd_dL_law_236 1 rfl rfl)
theorem dL_law_238 : decode cL_law 238 = .ok (.iload 4, 2) := dc_21 (sg_at zd_dL_law_236 2 rfl rfl)
theorem dL_law_240 : decode cL_law 240 = .ok (.iconst 5, 1) := dc_8 (sg_at zd_dL_law_236 3 rfl rfl)
theorem dL_law_241 : decode cL_law 241 = .ok (.iadd, 1) := dc_96 (sg_at zd_dL_law_236 4 rfl rfl)
theorem dL_law_242 : decode cL_law 242 = .ok (.iaload, 1) := dc_46 (sg_at zd_dL_law_236 5 rfl rfl)
theorem dL_law_243 : decode cL_law 243 = .ok (.invokevirtual 21, 3) := dc_182 (sg_at zd_dL_law_236 6 rfl rfl) rfl
theorem dL_law_246 : decode cL_law 246 = .ok (.pop, 1) := dc_87 (sg_at zd_dL_law_236 7 rfl rfl)
theorem dL_law_247 : decode cL_law 247 = .ok (.aload_n 2, 1) := dc_44 (sg_at zd_dL_law_236 8 rfl rfl)
theorem dL_law_248 : decode cL_law 248 = .ok (.aload_n 0, 1) := dc_42 (sg_at zd_dL_law_236 9 rfl rfl)
theorem dL_law_249 : decode cL_law 249 = .ok (.iload 4, 2) := dc_21 (sg_at zd_dL_law_236 10 rfl rfl)
theorem dL_law_251 : decode cL_law 251 = .ok (.iconst 1, 1) := dc_4 (sg_at zd_dL_law_236 11 rfl rfl)
theorem dL_law_252 : decode cL_law 252 = .ok (.iadd, 1) := dc_96 (sg_at zd_dL_law_236 12 rfl rfl)
theorem dL_law_253 : decode cL_law 253 = .ok (.iaload, 1) := dc_46 (sg_at zd_dL_law_236 13 rfl rfl)
theorem dL_law_254 : decode cL_law 254 = .ok (.aload_n 0, 1) := dc_42 (sg_at zd_dL_law_236 14 rfl rfl)
theorem dL_law_255 : decode cL_law 255 = .ok (.iload 4, 2) := dc_21 (sg_at zd_dL_law_236 15 rfl rfl)
theorem dL_law_257 : decode cL_law 257 = .ok (.iconst 2, 1) := dc_5 (sg_at zd_dL_law_236 16 rfl rfl)
theorem dL_law_258 : decode cL_law 258 = .ok (.iadd, 1) := dc_96 (sg_at zd_dL_law_236 17 rfl rfl)
theorem dL_law_259 : decode cL_law 259 = .ok (.iaload, 1) := dc_46 (sg_at zd_dL_law_236 18 rfl rfl)
theorem dL_law_260 : decode cL_law 260 = .ok (.aload_n 0, 1) := dc_42 (sg_at zd_dL_law_236 19 rfl rfl)
theorem zd_dL_law_261 : sg (cL_law.data.toList.drop 261) [[21, 4], [6], [96], [46], [42], [21, 4], [7], [96], [46], [42], [21, 4], [8], [96], [46], [182, 0, 25], [87], [167, 4, 220], [43], [42], [21, 4]] = true := by decide +kernel
theorem dL_law_261 : decode cL_law 261 = .ok (.iload 4, 2) := dc_21 (sg_at zd_dL_law_261 0 rfl rfl)
theorem dL_law_263 : decode cL_law 263 = .ok (.iconst 3, 1) := dc_6 (sg_at zd_dL_law_261 1 rfl rfl)
theorem dL_law_264 : decode cL_law 264 = .ok (.iadd, 1) := dc_96 (sg_at zd_dL_law_261 2 rfl rfl)
theorem dL_law_265 : decode cL_law 265 = .ok (.iaload, 1) := dc_46 (sg_at zd_dL_law_261 3 rfl rfl)
theorem dL_law_266 : decode cL_law 266 = .ok (.aload_n 0, 1) := dc_42 (sg_at zd_dL_law_261 4 rfl rfl)
theorem dL_law_267 : decode cL_law 267 = .ok (.iload 4, 2) := dc_21 (sg_at zd_dL_law_261 5 rfl rfl)
theorem dL_law_269 : decode cL_law 269 = .ok (.iconst 4, 1) := dc_7 (sg_at zd_dL_law_261 6 rfl rfl)
theorem dL_law_270 : decode cL_law 270 = .ok (.iadd, 1) := dc_96 (sg_at zd_dL_law_261 7 rfl rfl)
theorem dL_law_271 : decode cL_law 271 = .ok (.iaload, 1) := dc_46 (sg_at zd_dL_law_261 8 rfl rfl)
theorem dL_law_272 : decode cL_law 272 = .ok (.aload_n 0, 1) := dc_42 (sg_at zd_dL_law_261 9 rfl rfl)
theorem dL_law_273 : decode cL_law 273 = .ok (.iload 4, 2) := dc_21 (sg_at zd_dL_law_261 10 rfl rfl)
theorem dL_law_275 : decode cL_law 275 = .ok (.iconst 5, 1) := dc_8 (sg_at zd_dL_law_261 11 rfl rfl)
theorem dL_law_276 : decode cL_law 276 = .ok (.iadd, 1) := dc_96 (sg_at zd_dL_law_261 12 rfl rfl)
theorem dL_law_277 : decode cL_law 277 = .ok (.iaload, 1) := dc_46 (sg_at zd_dL_law_261 13 rfl rfl)
theorem dL_law_278 : decode cL_law 278 = .ok (.invokevirtual 25, 3) := dc_182 (sg_at zd_dL_law_261 14 rfl rfl) rfl
theorem dL_law_281 : decode cL_law 281 = .ok (.pop, 1) := dc_87 (sg_at zd_dL_law_261 15 rfl rfl)
theorem dL_law_282 : decode cL_law 282 = .ok (.goto 1244, 3) := dc_167 (sg_at zd_dL_law_261 16 rfl rfl) rfl
theorem dL_law_285 : decode cL_law 285 = .ok (.aload_n 1, 1) := dc_43 (sg_at zd_dL_law_261 17 rfl rfl)
theorem dL_law_286 : decode cL_law 286 = .ok (.aload_n 0, 1) := dc_42 (sg_at zd_dL_law_261 18 rfl rfl)
theorem dL_law_287 : decode cL_law 287 = .ok (.iload 4, 2) := dc_21 (sg_at zd_dL_law_261 19 rfl rfl)
theorem zd_dL_law_289 : sg (cL_law.data.toList.drop 289) [[4], [96], [46], [182, 0, 26], [87], [44], [42], [21, 4], [4], [96], [46], [182, 0, 30], [87], [167, 4, 195], [43], [42], [21, 4], [4], [96], [46]] = true := by decide +kernel
theorem dL_law_289 : decode cL_law 289 = .ok (.iconst 1, 1) := dc_4 (sg_at zd_dL_law_289 0 rfl rfl)
theorem dL_law_290 : decode cL_law 290 = .ok (.iadd, 1) := dc_96 (sg_at zd_dL_law_289 1 rfl rfl)
theorem dL_law_291 : decode cL_law 291 = .ok (.iaload, 1) := dc_46 (sg_at zd_dL_law_289 2 rfl rfl)
theorem dL_law_292 : decode cL_law 292 = .ok (.invokevirtual 26, 3) := dc_182 (sg_at zd_dL_law_289 3 rfl rfl) rfl
theorem dL_law_295 : decode cL_law 295 = .ok (.pop, 1) := dc_87 (sg_at zd_dL_law_289 4 rfl rfl)
theorem dL_law_296 : decode cL_law 296 = .ok (.aload_n 2, 1) := dc_44 (sg_at zd_dL_law_289 5 rfl rfl)
theorem dL_law_297 : decode cL_law 297 = .ok (.aload_n 0, 1) := dc_42 (sg_at zd_dL_law_289 6 rfl rfl)
theorem dL_law_298 : decode cL_law 298 = .ok (.iload 4, 2) := dc_21 (sg_at zd_dL_law_289 7 rfl rfl)
theorem dL_law_300 : decode cL_law 300 = .ok (.iconst 1, 1) := dc_4 (sg_at zd_dL_law_289 8 rfl rfl)
theorem dL_law_301 : decode cL_law 301 = .ok (.iadd, 1) := dc_96 (sg_at zd_dL_law_289 9 rfl rfl)
theorem dL_law_302 : decode cL_law 302 = .ok (.iaload, 1) := dc_46 (sg_at zd_dL_law_289 10 rfl rfl)
theorem dL_law_303 : decode cL_law 303 = .ok (.invokevirtual 30, 3) := dc_182 (sg_at zd_dL_law_289 11 rfl rfl) rfl
theorem dL_law_306 : decode cL_law 306 = .ok (.pop, 1) := dc_87 (sg_at zd_dL_law_289 12 rfl rfl)
theorem dL_law_307 : decode cL_law 307 = .ok (.goto 1219, 3) := dc_167 (sg_at zd_dL_law_289 13 rfl rfl) rfl
theorem dL_law_310 : decode cL_law 310 = .ok (.aload_n 1, 1) := dc_43 (sg_at zd_dL_law_289 14 rfl rfl)
theorem dL_law_311 : decode cL_law 311 = .ok (.aload_n 0, 1) := dc_42 (sg_at zd_dL_law_289 15 rfl rfl)
theorem dL_law_312 : decode cL_law 312 = .ok (.iload 4, 2) := dc_21 (sg_at zd_dL_law_289 16 rfl rfl)
theorem dL_law_314 : decode cL_law 314 = .ok (.iconst 1, 1) := dc_4 (sg_at zd_dL_law_289 17 rfl rfl)
theorem dL_law_315 : decode cL_law 315 = .ok (.iadd, 1) := dc_96 (sg_at zd_dL_law_289 18 rfl rfl)
theorem dL_law_316 : decode cL_law 316 = .ok (.iaload, 1) := dc_46 (sg_at zd_dL_law_289 19 rfl rfl)
theorem zd_dL_law_317 : sg (cL_law.data.toList.drop 317) [[182, 0, 31], [87], [44], [42], [21, 4], [4], [96], [46], [182, 0, 34], [87], [167, 4, 170], [43], [42], [21, 4], [4], [96], [46], [182, 0, 35], [87], [44]] = true := by decide +kernel
theorem dL_law_317 : decode cL_law 317 = .ok (.invokevirtual 31, 3) := dc_182 (sg_at zd_dL_law_317 0 rfl rfl) rfl
theorem dL_law_320 : decode cL_law 320 = .ok (.pop, 1) := dc_87 (sg_at zd_dL_law_317 1 rfl rfl)
theorem dL_law_321 : decode cL_law 321 = .ok (.aload_n 2, 1) := dc_44 (sg_at zd_dL_law_317 2 rfl rfl)
theorem dL_law_322 : decode cL_law 322 = .ok (.aload_n 0, 1) := dc_42 (sg_at zd_dL_law_317 3 rfl rfl)
theorem dL_law_323 : decode cL_law 323 = .ok (.iload 4, 2) := dc_21 (sg_at zd_dL_law_317 4 rfl rfl)
theorem dL_law_325 : decode cL_law 325 = .ok (.iconst 1, 1) := dc_4 (sg_at zd_dL_law_317 5 rfl rfl)
theorem dL_law_326 : decode cL_law 326 = .ok (.iadd, 1) := dc_96 (sg_at zd_dL_law_317 6 rfl rfl)
theorem dL_law_327 : decode cL_law 327 = .ok (.iaload, 1) := dc_46 (sg_at zd_dL_law_317 7 rfl rfl)
theorem dL_law_328 : decode cL_law 328 = .ok (.invokevirtual 34, 3) := dc_182 (sg_at zd_dL_law_317 8 rfl rfl) rfl
theorem dL_law_331 : decode cL_law 331 = .ok (.pop, 1) := dc_87 (sg_at zd_dL_law_317 9 rfl rfl)
theorem dL_law_332 : decode cL_law 332 = .ok (.goto 1194, 3) := dc_167 (sg_at zd_dL_law_317 10 rfl rfl) rfl
theorem dL_law_335 : decode cL_law 335 = .ok (.aload_n 1, 1) := dc_43 (sg_at zd_dL_law_317 11 rfl rfl)
theorem dL_law_336 : decode cL_law 336 = .ok (.aload_n 0, 1) := dc_42 (sg_at zd_dL_law_317 12 rfl rfl)
theorem dL_law_337 : decode cL_law 337 = .ok (.iload 4, 2) := dc_21 (sg_at zd_dL_law_317 13 rfl rfl)
theorem dL_law_339 : decode cL_law 339 = .ok (.iconst 1, 1) := dc_4 (sg_at zd_dL_law_317 14 rfl rfl)
theorem dL_law_340 : decode cL_law 340 = .ok (.iadd, 1) := dc_96 (sg_at zd_dL_law_317 15 rfl rfl)
theorem dL_law_341 : decode cL_law 341 = .ok (.iaload, 1) := dc_46 (sg_at zd_dL_law_317 16 rfl rfl)
theorem dL_law_342 : decode cL_law 342 = .ok (.invokevirtual 35, 3) := dc_182 (sg_at zd_dL_law_317 17 rfl rfl) rfl
theorem dL_law_345 : decode cL_law 345 = .ok (.pop, 1) := dc_87 (sg_at zd_dL_law_317 18 rfl rfl)
theorem dL_law_346 : decode cL_law 346 = .ok (.aload_n 2, 1) := dc_44 (sg_at zd_dL_law_317 19 rfl rfl)
theorem zd_dL_law_347 : sg (cL_law.data.toList.drop 347) [[42], [21, 4], [4], [96], [46], [182, 0, 38], [87], [167, 4, 145], [43], [42], [21, 4], [4], [96], [46], [42], [21, 4], [5], [96], [46], [45]] = true := by decide +kernel
theorem dL_law_347 : decode cL_law 347 = .ok (.aload_n 0, 1) := dc_42 (sg_at zd_dL_law_347 0 rfl rfl)
theorem dL_law_348 : decode cL_law 348 = .ok (.iload 4, 2) := dc_21 (sg_at zd_dL_law_347 1 rfl rfl)
theorem dL_law_350 : decode cL_law 350 = .ok (.iconst 1, 1) := dc_4 (sg_at zd_dL_law_347 2 rfl rfl)
theorem dL_law_351 : decode cL_law 351 = .ok (.iadd, 1) := dc_96 (sg_at zd_dL_law_347 3 rfl rfl)
theorem dL_law_352 : decode cL_law 352 = .ok (.iaload, 1) := dc_46 (sg_at zd_dL_law_347 4 rfl rfl)
theorem dL_law_353 : decode cL_law 353 = .ok (.invokevirtual 38, 3) := dc_182 (sg_at zd_dL_law_347 5 rfl rfl) rfl
theorem dL_law_356 : decode cL_law 356 = .ok (.pop, 1) := dc_87 (sg_at zd_dL_law_347 6 rfl rfl)
theorem dL_law_357 : decode cL_law 357 = .ok (.goto 1169, 3) := dc_167 (sg_at zd_dL_law_347 7 rfl rfl) rfl
theorem dL_law_360 : decode cL_law 360 = .ok (.aload_n 1, 1) := dc_43 (sg_at zd_dL_law_347 8 rfl rfl)
theorem dL_law_361 : decode cL_law 361 = .ok (.aload_n 0, 1) := dc_42 (sg_at zd_dL_law_347 9 rfl rfl)
theorem dL_law_362 : decode cL_law 362 = .ok (.iload 4, 2) := dc_21 (sg_at zd_dL_law_347 10 rfl rfl)
theorem dL_law_364 : decode cL_law 364 = .ok (.iconst 1, 1) := dc_4 (sg_at zd_dL_law_347 11 rfl rfl)
theorem dL_law_365 : decode cL_law 365 = .ok (.iadd, 1) := dc_96 (sg_at zd_dL_law_347 12 rfl rfl)
theorem dL_law_366 : decode cL_law 366 = .ok (.iaload, 1) := dc_46 (sg_at zd_dL_law_347 13 rfl rfl)
theorem dL_law_367 : decode cL_law 367 = .ok (.aload_n 0, 1) := dc_42 (sg_at zd_dL_law_347 14 rfl rfl)
theorem dL_law_368 : decode cL_law 368 = .ok (.iload 4, 2) := dc_21 (sg_at zd_dL_law_347 15 rfl rfl)
theorem dL_law_370 : decode cL_law 370 = .ok (.iconst 2, 1) := dc_5 (sg_at zd_dL_law_347 16 rfl rfl)
theorem dL_law_371 : decode cL_law 371 = .ok (.iadd, 1) := dc_96 (sg_at zd_dL_law_347 17 rfl rfl)
theorem dL_law_372 : decode cL_law 372 = .ok (.iaload, 1) := dc_46 (sg_at zd_dL_law_347 18 rfl rfl)
theorem dL_law_373 : decode cL_law 373 = .ok (.aload_n 3, 1) := dc_45 (sg_at zd_dL_law_347 19 rfl rfl)
theorem zd_dL_law_374 : sg (cL_law.data.toList.drop 374) [[184, 0, 39], [54, 5], [44], [42], [21, 4], [4], [96], [46], [42], [21, 4], [5], [96], [46], [182, 0, 44], [54, 6], [167, 4, 105], [43], [42], [21, 4], [4]] = true := by decide +kernel
theorem dL_law_374 : decode cL_law 374 = .ok (.invokestatic 39, 3) := dc_184 (sg_at zd_dL_law_374 0 rfl rfl) rfl
theorem dL_law_377 : decode cL_law 377 = .ok (.istore 5, 2) := dc_54 (sg_at zd_dL_law_374 1 rfl rfl)
theorem dL_law_379 : decode cL_law 379 = .ok (.aload_n 2, 1) := dc_44 (sg_at zd_dL_law_374 2 rfl rfl)
theorem dL_law_380 : decode cL_law 380 = .ok (.aload_n 0, 1) := dc_42 (sg_at zd_dL_law_374 3 rfl rfl)
theorem dL_law_381 : decode cL_law 381 = .ok (.iload 4, 2) := dc_21 (sg_at zd_dL_law_374 4 rfl rfl)
theorem dL_law_383 : decode cL_law 383 = .ok (.iconst 1, 1) := dc_4 (sg_at zd_dL_law_374 5 rfl rfl)
theorem dL_law_384 : decode cL_law 384 = .ok (.iadd, 1) := dc_96 (sg_at zd_dL_law_374 6 rfl rfl)
theorem dL_law_385 : decode cL_law 385 = .ok (.iaload, 1) := dc_46 (sg_at zd_dL_law_374 7 rfl rfl)
theorem dL_law_386 : decode cL_law 386 = .ok (.aload_n 0, 1) := dc_42 (sg_at zd_dL_law_374 8 rfl rfl)
theorem dL_law_387 : decode cL_law 387 = .ok (.iload 4, 2) := dc_21 (sg_at zd_dL_law_374 9 rfl rfl)
theorem dL_law_389 : decode cL_law 389 = .ok (.iconst 2, 1) := dc_5 (sg_at zd_dL_law_374 10 rfl rfl)
theorem dL_law_390 : decode cL_law 390 = .ok (.iadd, 1) := dc_96 (sg_at zd_dL_law_374 11 rfl rfl)
theorem dL_law_391 : decode cL_law 391 = .ok (.iaload, 1) := dc_46 (sg_at zd_dL_law_374 12 rfl rfl)
theorem dL_law_392 : decode cL_law 392 = .ok (.invokevirtual 44, 3) := dc_182 (sg_at zd_dL_law_374 13 rfl rfl) rfl
theorem dL_law_395 : decode cL_law 395 = .ok (.istore 6, 2) := dc_54 (sg_at zd_dL_law_374 14 rfl rfl)
theorem dL_law_397 : decode cL_law 397 = .ok (.goto 1129, 3) := dc_167 (sg_at zd_dL_law_374 15 rfl rfl) rfl
theorem dL_law_400 : decode cL_law 400 = .ok (.aload_n 1, 1) := dc_43 (sg_at zd_dL_law_374 16 rfl rfl)
theorem dL_law_401 : decode cL_law 401 = .ok (.aload_n 0, 1) := dc_42 (sg_at zd_dL_law_374 17 rfl rfl)
theorem dL_law_402 : decode cL_law 402 = .ok (.iload 4, 2) := dc_21 (sg_at zd_dL_law_374 18 rfl rfl)
theorem dL_law_404 : decode cL_law 404 = .ok (.iconst 1, 1) := dc_4 (sg_at zd_dL_law_374 19 rfl rfl)
theorem zd_dL_law_405 : sg (cL_law.data.toList.drop 405) [[96], [46], [42], [21, 4], [5], [96], [46], [182, 0, 45], [87], [44], [42], [21, 4], [4], [96], [46], [42], [21, 4], [5], [96], [46]] = true := by decide +kernel
theorem dL_law_405 : decode cL_law 405 = .ok (.iadd, 1) := dc_96 (sg_at zd_dL_law_405 0 rfl rfl)
theorem dL_law_406 : decode cL_law 406 = .ok (.iaload, 1) := dc_46 (sg_at zd_dL_law_405 1 rfl rfl)
theorem dL_law_407 : decode cL_law 407 = .ok (.aload_n 0, 1) := dc_42 (sg_at zd_dL_law_405 2 rfl rfl)
theorem dL_law_408 : decode cL_law 408 = .ok (.iload 4, 2) := dc_21 (sg_at zd_dL_law_405 3 rfl rfl)
theorem dL_law_410 : decode cL_law 410 = .ok (.iconst 2, 1) := dc_5 (sg_at zd_dL_law_405 4 rfl rfl)
theorem dL_law_411 : decode cL_law 411 = .ok (.iadd, 1) := dc_96 (sg_at zd_dL_law_405 5 rfl rfl)
theorem dL_law_412 : decode cL_law 412 = .ok (.iaload, 1) := dc_46 (sg_at zd_dL_law_405 6 rfl rfl)
theorem dL_law_413 : decode cL_law 413 = .ok (.invokevirtual 45, 3) := dc_182 (sg_at zd_dL_law_405 7 rfl rfl) rfl
theorem dL_law_416 : decode cL_law 416 = .ok (.pop, 1) := dc_87 (sg_at zd_dL_law_405 8 rfl rfl)
theorem dL_law_417 : decode cL_law 417 = .ok (.aload_n 2, 1) := dc_44 (sg_at zd_dL_law_405 9 rfl rfl)
theorem dL_law_418 : decode cL_law 418 = .ok (.aload_n 0, 1) := dc_42 (sg_at zd_dL_law_405 10 rfl rfl)
theorem dL_law_419 : decode cL_law 419 = .ok (.iload 4, 2) := dc_21 (sg_at zd_dL_law_405 11 rfl rfl)
theorem dL_law_421 : decode cL_law 421 = .ok (.iconst 1, 1) := dc_4 (sg_at zd_dL_law_405 12 rfl rfl)
theorem dL_law_422 : decode cL_law 422 = .ok (.iadd, 1) := dc_96 (sg_at zd_dL_law_405 13 rfl rfl)
theorem dL_law_423 : decode cL_law 423 = .ok (.iaload, 1) := dc_46 (sg_at zd_dL_law_405 14 rfl rfl)
theorem dL_law_424 : decode cL_law 424 = .ok (.aload_n 0, 1) := dc_42 (sg_at zd_dL_law_405 15 rfl rfl)
theorem dL_law_425 : decode cL_law 425 = .ok (.iload 4, 2) := dc_21 (sg_at zd_dL_law_405 16 rfl rfl)
theorem dL_law_427 : decode cL_law 427 = .ok (.iconst 2, 1) := dc_5 (sg_at zd_dL_law_405 17 rfl rfl)
theorem dL_law_428 : decode cL_law 428 = .ok (.iadd, 1) := dc_96 (sg_at zd_dL_law_405 18 rfl rfl)
theorem dL_law_429 : decode cL_law 429 = .ok (.iaload, 1) := dc_46 (sg_at zd_dL_law_405 19 rfl rfl)
theorem zd_dL_law_430 : sg (cL_law.data.toList.drop 430) [[182, 0, 48], [87], [167, 4, 68], [43], [42], [21, 4], [4], [96], [46], [182, 0, 49], [87], [44], [42], [21, 4], [4], [96], [46], [182, 0, 52], [87], [167, 4, 43]] = true := by decide +kernel
theorem dL_law_430 : decode cL_law 430 = .ok (.invokevirtual 48, 3) := dc_182 (sg_at zd_dL_law_430 0 rfl rfl) rfl
theorem dL_law_433 : decode cL_law 433 = .ok (.pop, 1) := dc_87 (sg_at zd_dL_law_430 1 rfl rfl)
theorem dL_law_434 : decode cL_law 434 = .ok (.goto 1092, 3) := dc_167 (sg_at zd_dL_law_430 2 rfl rfl) rfl
theorem dL_law_437 : decode cL_law 437 = .ok (.aload_n 1, 1) := dc_43 (sg_at zd_dL_law_430 3 rfl rfl)
theorem dL_law_438 : decode cL_law 438 = .ok (.aload_n 0, 1) := dc_42 (sg_at zd_dL_law_430 4 rfl rfl)
theorem dL_law_439 : decode cL_law 439 = .ok (.iload 4, 2) := dc_21 (sg_at zd_dL_law_430 5 rfl rfl)
theorem dL_law_441 : decode cL_law 441 = .ok (.iconst 1, 1) := dc_4 (sg_at zd_dL_law_430 6 rfl rfl)
theorem dL_law_442 : decode cL_law 442 = .ok (.iadd, 1) := dc_96 (sg_at zd_dL_law_430 7 rfl rfl)
theorem dL_law_443 : decode cL_law 443 = .ok (.iaload, 1) := dc_46 (sg_at zd_dL_law_430 8 rfl rfl)
theorem dL_law_444 : decode cL_law 444 = .ok (.invokevirtual 49, 3) := dc_182 (sg_at zd_dL_law_430 9 rfl rfl) rfl
theorem dL_law_447 : decode cL_law 447 = .ok (.pop, 1) := dc_87 (sg_at zd_dL_law_430 10 rfl rfl)
theorem dL_law_448 : decode cL_law 448 = .ok (.aload_n 2, 1) := dc_44 (sg_at zd_dL_law_430 11 rfl rfl)
theorem dL_law_449 : decode cL_law 449 = .ok (.aload_n 0, 1) := dc_42 (sg_at zd_dL_law_430 12 rfl rfl)
theorem dL_law_450 : decode cL_law 450 = .ok (.iload 4, 2) := dc_21 (sg_at zd_dL_law_430 13 rfl rfl)
theorem dL_law_452 : decode cL_law 452 = .ok (.iconst 1, 1) := dc_4 (sg_at zd_dL_law_430 14 rfl rfl)
theorem dL_law_453 : decode cL_law 453 = .ok (.iadd, 1) := dc_96 (sg_at zd_dL_law_430 15 rfl rfl)
theorem dL_law_454 : decode cL_law 454 = .ok (.iaload, 1) := dc_46 (sg_at zd_dL_law_430 16 rfl rfl)
theorem dL_law_455 : decode cL_law 455 = .ok (.invokevirtual 52, 3) := dc_182 (sg_at zd_dL_law_430 17 rfl rfl) rfl
theorem dL_law_458 : decode cL_law 458 = .ok (.pop, 1) := dc_87 (sg_at zd_dL_law_430 18 rfl rfl)
theorem dL_law_459 : decode cL_law 459 = .ok (.goto 1067, 3) := dc_167 (sg_at zd_dL_law_430 19 rfl rfl) rfl
theorem zd_dL_law_462 : sg (cL_law.data.toList.drop 462) [[43], [42], [21, 4], [4], [96], [46], [42], [21, 4], [5], [96], [46], [42], [21, 4], [6], [96], [46], [182, 0, 53], [87], [44], [42]] = true := by decide +kernel
theorem dL_law_462 : decode cL_law 462 = .ok (.aload_n 1, 1) := dc_43 (sg_at zd_dL_law_462 0 rfl rfl)
theorem dL_law_463 : decode cL_law 463 = .ok (.aload_n 0, 1) := dc_42 (sg_at zd_dL_law_462 1 rfl rfl)
theorem dL_law_464 : decode cL_law 464 = .ok (.iload 4, 2) := dc_21 (sg_at zd_dL_law_462 2 rfl rfl)
theorem dL_law_466 : decode cL_law 466 = .ok (.iconst 1, 1) := dc_4 (sg_at zd_dL_law_462 3 rfl rfl)
theorem dL_law_467 : decode cL_law 467 = .ok (.iadd, 1) := dc_96 (sg_at zd_dL_law_462 4 rfl rfl)
theorem dL_law_468 : decode cL_law 468 = .ok (.iaload, 1) := dc_46 (sg_at zd_dL_law_462 5 rfl rfl)
theorem dL_law_469 : decode cL_law 469 = .ok (.aload_n 0, 1) := dc_42 (sg_at zd_dL_law_462 6 rfl rfl)
theorem dL_law_470 : decode cL_law 470 = .ok (.iload 4, 2) := dc_21 (sg_at zd_dL_law_462 7 rfl rfl)
theorem dL_law_472 : decode cL_law 472 = .ok (.iconst 2, 1) := dc_5 (sg_at zd_dL_law_462 8 rfl rfl)
theorem dL_law_473 : decode cL_law 473 = .ok (.iadd, 1) := dc_96 (sg_at zd_dL_law_462 9 rfl rfl)
theorem dL_law_474 : decode cL_law 474 = .ok (.iaload, 1) := dc_46 (sg_at zd_dL_law_462 10 rfl rfl)
theorem dL_law_475 : decode cL_law 475 = .ok (.aload_n 0, 1) := dc_42 (sg_at zd_dL_law_462 11 rfl rfl)
theorem dL_law_476 : decode cL_law 476 = .ok (.iload 4, 2) := dc_21 (sg_at zd_dL_law_462 12 rfl rfl)
theorem dL_law_478 : decode cL_law 478 = .ok (.iconst 3, 1) := dc_6 (sg_at zd_dL_law_462 13 rfl rfl)
theorem dL_law_479 : decode cL_law 479 = .ok (.iadd, 1) := dc_96 (sg_at zd_dL_law_462 14 rfl rfl)
theorem dL_law_480 : decode cL_law 480 = .ok (.iaload, 1) := dc_46 (sg_at zd_dL_law_462 15 rfl rfl)
theorem dL_law_481 : decode cL_law 481 = .ok (.invokevirtual 53, 3) := dc_182 (sg_at zd_dL_law_462 16 rfl rfl) rfl
theorem dL_law_484 : decode cL_law 484 = .ok (.pop, 1) := dc_87 (sg_at zd_dL_law_462 17 rfl rfl)
theorem dL_law_485 : decode cL_law 485 = .ok (.aload_n 2, 1) := dc_44 (sg_at zd_dL_law_462 18 rfl rfl)
theorem dL_law_486 : decode cL_law 486 = .ok (.aload_n 0, 1) := dc_42 (sg_at zd_dL_law_462 19 rfl rfl)
theorem zd_dL_law_487 : sg (cL_law.data.toList.drop 487) [[21, 4], [4], [96], [46], [42], [21, 4], [5], [96], [46], [42], [21, 4], [6], [96], [46], [182, 0, 57], [87], [167, 3, 250], [43], [42], [21, 4]] = true := by decide +kernel
theorem dL_law_487 : decode cL_law 487 = .ok (.iload 4, 2) := dc_21 (sg_at zd_dL_law_487 0 rfl rfl)
theorem dL_law_489 : decode cL_law 489 = .ok (.iconst 1, 1) := dc_4 (sg_at zd_dL_law_487 1 rfl rfl)
theorem dL_law_490 : decode cL_law 490 = .ok (.iadd, 1) := dc_96 (sg_at zd_dL_law_487 2 rfl rfl)
theorem dL_law_491 : decode cL_law 491 = .ok (.iaload, 1) := dc_46 (sg_at zd_dL_law_487 3 rfl rfl)
theorem dL_law_492 : decode cL_law 492 = .ok (.aload_n 0, 1) := dc_42 (sg_at zd_dL_law_487 4 rfl rfl)
theorem dL_law_493 : decode cL_law 493 = .ok (.iload 4, 2) := dc_21 (sg_at zd_dL_law_487 5 rfl rfl)
theorem dL_law_495 : decode cL_law 495 = .ok (.iconst 2, 1) := dc_5 (sg_at zd_dL_law_487 6 rfl rfl)
theorem dL_law_496 : decode cL_law 496 = .ok (.iadd, 1) := dc_96 (sg_at zd_dL_law_487 7 rfl rfl)
theorem dL_law_497 : decode cL_law 497 = .ok (.iaload, 1) := dc_46 (sg_at zd_dL_law_487 8 rfl rfl)
theorem dL_law_498 : decode cL_law 498 = .ok (.aload_n 0, 1) := dc_42 (sg_at zd_dL_law_487 9 rfl rfl)
theorem dL_law_499 : decode cL_law 499 = .ok (.iload 4, 2) := dc_21 (sg_at zd_dL_law_487 10 rfl rfl)
theorem dL_law_501 : decode cL_law 501 = .ok (.iconst 3, 1) := dc_6 (sg_at zd_dL_law_487 11 rfl rfl)
theorem dL_law_502 : decode cL_law 502 = .ok (.iadd, 1) := dc_96 (sg_at zd_dL_law_487 12 rfl rfl)
theorem dL_law_503 : decode cL_law 503 = .ok (.iaload, 1) := dc_46 (sg_at zd_dL_law_487 13 rfl rfl)
theorem dL_law_504 : decode cL_law 504 = .ok (.invokevirtual 57, 3) := dc_182 (sg_at zd_dL_law_487 14 rfl rfl) rfl
theorem dL_law_507 : decode cL_law 507 = .ok (.pop, 1) := dc_87 (sg_at zd_dL_law_487 15 rfl rfl)
theorem dL_law_508 : decode cL_law 508 = .ok (.goto 1018, 3) := dc_167 (sg_at zd_dL_law_487 16 rfl rfl) rfl
theorem dL_law_511 : decode cL_law 511 = .ok (.aload_n 1, 1) := dc_43 (sg_at zd_dL_law_487 17 rfl rfl)
theorem dL_law_512 : decode cL_law 512 = .ok (.aload_n 0, 1) := dc_42 (sg_at zd_dL_law_487 18 rfl rfl)
theorem dL_law_513 : decode cL_law 513 = .ok (.iload 4, 2) := dc_21 (sg_at zd_dL_law_487 19 rfl rfl)
theorem zd_dL_law_515 : sg (cL_law.data.toList.drop 515) [[4], [96], [46], [42], [21, 4], [5], [96], [46], [42], [21, 4], [6], [96], [46], [182, 0, 58], [88], [44], [42], [21, 4], [4], [96]] = true := by decide +kernel
theorem dL_law_515 : decode cL_law 515 = .ok (.iconst 1, 1) := dc_4 (sg_at zd_dL_law_515 0 rfl rfl)
theorem dL_law_516 : decode cL_law 516 = .ok (.iadd, 1) := dc_96 (sg_at zd_dL_law_515 1 rfl rfl)
theorem dL_law_517 : decode cL_law 517 = .ok (.iaload, 1) := dc_46 (sg_at zd_dL_law_515 2 rfl rfl)
theorem dL_law_518 : decode cL_law 518 = .ok (.aload_n 0, 1) := dc_42 (sg_at zd_dL_law_515 3 rfl rfl)
theorem dL_law_519 : decode cL_law 519 = .ok (.iload 4, 2) := dc_21 (sg_at zd_dL_law_515 4 rfl rfl)
theorem dL_law_521 : decode cL_law 521 = .ok (.iconst 2, 1) := dc_5 (sg_at zd_dL_law_515 5 rfl rfl)
theorem dL_law_522 : decode cL_law 522 = .ok (.iadd, 1) := dc_96 (sg_at zd_dL_law_515 6 rfl rfl)
theorem dL_law_523 : decode cL_law 523 = .ok (.iaload, 1) := dc_46 (sg_at zd_dL_law_515 7 rfl rfl)
theorem dL_law_524 : decode cL_law 524 = .ok (.aload_n 0, 1) := dc_42 (sg_at zd_dL_law_515 8 rfl rfl)
theorem dL_law_525 : decode cL_law 525 = .ok (.iload 4, 2) := dc_21 (sg_at zd_dL_law_515 9 rfl rfl)
theorem dL_law_527 : decode cL_law 527 = .ok (.iconst 3, 1) := dc_6 (sg_at zd_dL_law_515 10 rfl rfl)
theorem dL_law_528 : decode cL_law 528 = .ok (.iadd, 1) := dc_96 (sg_at zd_dL_law_515 11 rfl rfl)
theorem dL_law_529 : decode cL_law 529 = .ok (.iaload, 1) := dc_46 (sg_at zd_dL_law_515 12 rfl rfl)
theorem dL_law_530 : decode cL_law 530 = .ok (.invokevirtual 58, 3) := dc_182 (sg_at zd_dL_law_515 13 rfl rfl) rfl
theorem dL_law_533 : decode cL_law 533 = .ok (.pop2, 1) := dc_88 (sg_at zd_dL_law_515 14 rfl rfl)
theorem dL_law_534 : decode cL_law 534 = .ok (.aload_n 2, 1) := dc_44 (sg_at zd_dL_law_515 15 rfl rfl)
theorem dL_law_535 : decode cL_law 535 = .ok (.aload_n 0, 1) := dc_42 (sg_at zd_dL_law_515 16 rfl rfl)
theorem dL_law_536 : decode cL_law 536 = .ok (.iload 4, 2) := dc_21 (sg_at zd_dL_law_515 17 rfl rfl)
theorem dL_law_538 : decode cL_law 538 = .ok (.iconst 1, 1) := dc_4 (sg_at zd_dL_law_515 18 rfl rfl)
theorem dL_law_539 : decode cL_law 539 = .ok (.iadd, 1) := dc_96 (sg_at zd_dL_law_515 19 rfl rfl)
theorem zd_dL_law_540 : sg (cL_law.data.toList.drop 540) [[46], [42], [21, 4], [5], [96], [46], [42], [21, 4], [6], [96], [46], [182, 0, 62], [88], [167, 3, 201], [43], [42], [21, 4], [4], [96], [46]] = true := by decide +kernel
theorem dL_law_540 : decode cL_law 540 = .ok (.iaload, 1) := dc_46 (sg_at zd_dL_law_540 0 rfl rfl)
theorem dL_law_541 : decode cL_law 541 = .ok (.aload_n 0, 1) := dc_42 (sg_at zd_dL_law_540 1 rfl rfl)
theorem dL_law_542 : decode cL_law 542 = .ok (.iload 4, 2) := dc_21 (sg_at zd_dL_law_540 2 rfl rfl)
theorem dL_law_544 : decode cL_law 544 = .ok (.iconst 2, 1) := dc_5 (sg_at zd_dL_law_540 3 rfl rfl)
theorem dL_law_545 : decode cL_law 545 = .ok (.iadd, 1) := dc_96 (sg_at zd_dL_law_540 4 rfl rfl)
theorem dL_law_546 : decode cL_law 546 = .ok (.iaload, 1) := dc_46 (sg_at zd_dL_law_540 5 rfl rfl)
theorem dL_law_547 : decode cL_law 547 = .ok (.aload_n 0, 1) := dc_42 (sg_at zd_dL_law_540 6 rfl rfl)
theorem dL_law_548 : decode cL_law 548 = .ok (.iload 4, 2) := dc_21 (sg_at zd_dL_law_540 7 rfl rfl)
theorem dL_law_550 : decode cL_law 550 = .ok (.iconst 3, 1) := dc_6 (sg_at zd_dL_law_540 8 rfl rfl)
theorem dL_law_551 : decode cL_law 551 = .ok (.iadd, 1) := dc_96 (sg_at zd_dL_law_540 9 rfl rfl)
theorem dL_law_552 : decode cL_law 552 = .ok (.iaload, 1) := dc_46 (sg_at zd_dL_law_540 10 rfl rfl)
theorem dL_law_553 : decode cL_law 553 = .ok (.invokevirtual 62, 3) := dc_182 (sg_at zd_dL_law_540 11 rfl rfl) rfl
theorem dL_law_556 : decode cL_law 556 = .ok (.pop2, 1) := dc_88 (sg_at zd_dL_law_540 12 rfl rfl)
theorem dL_law_557 : decode cL_law 557 = .ok (.goto 969, 3) := dc_167 (sg_at zd_dL_law_540 13 rfl rfl) rfl
theorem dL_law_560 : decode cL_law 560 = .ok (.aload_n 1, 1) := dc_43 (sg_at zd_dL_law_540 14 rfl rfl)
theorem dL_law_561 : decode cL_law 561 = .ok (.aload_n 0, 1) := dc_42 (sg_at zd_dL_law_540 15 rfl rfl)
theorem dL_law_562 : decode cL_law 562 = .ok (.iload 4, 2) := dc_21 (sg_at zd_dL_law_540 16 rfl rfl)
theorem dL_law_564 : decode cL_law 564 = .ok (.iconst 1, 1) := dc_4 (sg_at zd_dL_law_540 17 rfl rfl)
theorem dL_law_565 : decode cL_law 565 = .ok (.iadd, 1) := dc_96 (sg_at zd_dL_law_540 18 rfl rfl)
theorem dL_law_566 : decode cL_law 566 = .ok (.iaload, 1) := dc_46 (sg_at zd_dL_law_540 19 rfl rfl)
theorem zd_dL_law_567 : sg (cL_law.data.toList.drop 567) [[42], [21, 4], [5], [96], [46], [182, 0, 63], [87], [44], [42], [21, 4], [4], [96], [46], [42], [21, 4], [5], [96], [46], [182, 0, 66], [87]] = true := by decide +kernel
theorem dL_law_567 : decode cL_law 567 = .ok (.aload_n 0, 1) := dc_42 (sg_at zd_dL_law_567 0 rfl rfl)
theorem dL_law_568 : decode cL_law 568 = .ok (.iload 4, 2) := dc_21 (sg_at zd_dL_law_567 1 rfl rfl)
theorem dL_law_570 : decode cL_law 570 = .ok (.iconst 2, 1) := dc_5 (sg_at zd_dL_law_567 2 rfl rfl)
theorem dL_law_571 : decode cL_law 571 = .ok (.iadd, 1) := dc_96 (sg_at zd_dL_law_567 3 rfl rfl)
theorem dL_law_572 : decode cL_law 572 = .ok (.iaload, 1) := dc_46 (sg_at zd_dL_law_567 4 rfl rfl)
theorem dL_law_573 : decode cL_law 573 = .ok (.invokevirtual 63, 3) := dc_182 (sg_at zd_dL_law_567 5 rfl rfl) rfl
theorem dL_law_576 : decode cL_law 576 = .ok (.pop, 1) := dc_87 (sg_at zd_dL_law_567 6 rfl rfl)
theorem dL_law_577 : decode cL_law 577 = .ok (.aload_n 2, 1) := dc_44 (sg_at zd_dL_law_567 7 rfl rfl)
theorem dL_law_578 : decode cL_law 578 = .ok (.aload_n 0, 1) := dc_42 (sg_at zd_dL_law_567 8 rfl rfl)
theorem dL_law_579 : decode cL_law 579 = .ok (.iload 4, 2) := dc_21 (sg_at zd_dL_law_567 9 rfl rfl)
theorem dL_law_581 : decode cL_law 581 = .ok (.iconst 1, 1) := dc_4 (sg_at zd_dL_law_567 10 rfl rfl)
theorem dL_law_582 : decode cL_law 582 = .ok (.iadd, 1) := dc_96 (sg_at zd_dL_law_567 11 rfl rfl)
theorem dL_law_583 : decode cL_law 583 = .ok (.iaload, 1) := dc_46 (sg_at zd_dL_law_567 12 rfl rfl)
theorem dL_law_584 : decode cL_law 584 = .ok (.aload_n 0, 1) := dc_42 (sg_at zd_dL_law_567 13 rfl rfl)
theorem dL_law_585 : decode cL_law 585 = .ok (.iload 4, 2) := dc_21 (sg_at zd_dL_law_567 14 rfl rfl)
theorem dL_law_587 : decode cL_law 587 = .ok (.iconst 2, 1) := dc_5 (sg_at zd_dL_law_567 15 rfl rfl)
theorem dL_law_588 : decode cL_law 588 = .ok (.iadd, 1) := dc_96 (sg_at zd_dL_law_567 16 rfl rfl)
theorem dL_law_589 : decode cL_law 589 = .ok (.iaload, 1) := dc_46 (sg_at zd_dL_law_567 17 rfl rfl)
theorem dL_law_590 : decode cL_law 590 = .ok (.invokevirtual 66, 3) := dc_182 (sg_at zd_dL_law_567 18 rfl rfl) rfl
theorem dL_law_593 : decode cL_law 593 = .ok (.pop, 1) := dc_87 (sg_at zd_dL_law_567 19 rfl rfl)
theorem zd_dL_law_594 : sg (cL_law.data.toList.drop 594) [[167, 3, 164], [43], [42], [21, 4], [4], [96], [46], [182, 0, 67], [87], [44], [42], [21, 4], [4], [96], [46], [182, 0, 71], [87], [167, 3, 139], [43], [42]] = true := by decide +kernel
theorem dL_law_594 : decode cL_law 594 = .ok (.goto 932, 3) := dc_167 (sg_at zd_dL_law_594 0 rfl rfl) rfl
theorem dL_law_597 : decode cL_law 597 = .ok (.aload_n 1, 1) := dc_43 (sg_at zd_dL_law_594 1 rfl rfl)
theorem dL_law_598 : decode cL_law 598 = .ok (.aload_n 0, 1) := dc_42 (sg_at zd_dL_law_594 2 rfl rfl)
theorem dL_law_599 : decode cL_law 599 = .ok (.iload 4, 2) := dc_21 (sg_at zd_dL_law_594 3 rfl rfl)
theorem dL_law_601 : decode cL_law 601 = .ok (.iconst 1, 1) := dc_4 (sg_at zd_dL_law_594 4 rfl rfl)
theorem dL_law_602 : decode cL_law 602 = .ok (.iadd, 1) := dc_96 (sg_at zd_dL_law_594 5 rfl rfl)
theorem dL_law_603 : decode cL_law 603 = .ok (.iaload, 1) := dc_46 (sg_at zd_dL_law_594 6 rfl rfl)
theorem dL_law_604 : decode cL_law 604 = .ok (.invokevirtual 67, 3) := dc_182 (sg_at zd_dL_law_594 7 rfl rfl) rfl
theorem dL_law_607 : decode cL_law 607 = .ok (.pop, 1) := dc_87 (sg_at zd_dL_law_594 8 rfl rfl)
theorem dL_law_608 : decode cL_law 608 = .ok (.aload_n 2, 1) := dc_44 (sg_at zd_dL_law_594 9 rfl rfl)
theorem dL_law_609 : decode cL_law 609 = .ok (.aload_n 0, 1) := dc_42 (sg_at zd_dL_law_594 10 rfl rfl)
theorem dL_law_610 : decode cL_law 610 = .ok (.iload 4, 2) := dc_21 (sg_at zd_dL_law_594 11 rfl rfl)
theorem dL_law_612 : decode cL_law 612 = .ok (.iconst 1, 1) := dc_4 (sg_at zd_dL_law_594 12 rfl rfl)
theorem dL_law_613 : decode cL_law 613 = .ok (.iadd, 1) := dc_96 (sg_at zd_dL_law_594 13 rfl rfl)
theorem dL_law_614 : decode cL_law 614 = .ok (.iaload, 1) := dc_46 (sg_at zd_dL_law_594 14 rfl rfl)
theorem dL_law_615 : decode cL_law 615 = .ok (.invokevirtual 71, 3) := dc_182 (sg_at zd_dL_law_594 15 rfl rfl) rfl
theorem dL_law_618 : decode cL_law 618 = .ok (.pop, 1) := dc_87 (sg_at zd_dL_law_594 16 rfl rfl)
theorem dL_law_619 : decode cL_law 619 = .ok (.goto 907, 3) := dc_167 (sg_at zd_dL_law_594 17 rfl rfl) rfl
theorem dL_law_622 : decode cL_law 622 = .ok (.aload_n 1, 1) := dc_43 (sg_at zd_dL_law_594 18 rfl rfl)
theorem dL_law_623 : decode cL_law 623 = .ok (.aload_n 0, 1) := dc_42 (sg_at zd_dL_law_594 19 rfl rfl)
theorem zd_dL_law_624 : sg (cL_law.data.toList.drop 624) [[21, 4], [4], [96], [46], [182, 0, 72], [87], [44], [42], [21, 4], [4], [96], [46], [182, 0, 75], [87], [167, 3, 114], [43], [42], [21, 4], [4], [96]] = true := by decide +kernel
theorem dL_law_624 : decode cL_law 624 = .ok (.iload 4, 2) := dc_21 (sg_at zd_dL_law_624 0 rfl rfl)
theorem dL_law_626 : decode cL_law 626 = .ok (.iconst 1, 1) := dc_4 (sg_at zd_dL_law_624 1 rfl rfl)
theorem dL_law_627 : decode cL_law 627 = .ok (.iadd, 1) := dc_96 (sg_at zd_dL_law_624 2 rfl rfl)
theorem dL_law_628 : decode cL_law 628 = .ok (.iaload, 1) := dc_46 (sg_at zd_dL_law_624 3 rfl rfl)
theorem dL_law_629 : decode cL_law 629 = .ok (.invokevirtual 72, 3) := dc_182 (sg_at zd_dL_law_624 4 rfl rfl) rfl
theorem dL_law_632 : decode cL_law 632 = .ok (.pop, 1) := dc_87 (sg_at zd_dL_law_624 5 rfl rfl)
theorem dL_law_633 : decode cL_law 633 = .ok (.aload_n 2, 1) := dc_44 (sg_at zd_dL_law_624 6 rfl rfl)
theorem dL_law_634 : decode cL_law 634 = .ok (.aload_n 0, 1) := dc_42 (sg_at zd_dL_law_624 7 rfl rfl)
theorem dL_law_635 : decode cL_law 635 = .ok (.iload 4, 2) := dc_21 (sg_at zd_dL_law_624 8 rfl rfl)
theorem dL_law_637 : decode cL_law 637 = .ok (.iconst 1, 1) := dc_4 (sg_at zd_dL_law_624 9 rfl rfl)
theorem dL_law_638 : decode cL_law 638 = .ok (.iadd, 1) := dc_96 (sg_at zd_dL_law_624 10 rfl rfl)
theorem dL_law_639 : decode cL_law 639 = .ok (.iaload, 1) := dc_46 (sg_at zd_dL_law_624 11 rfl rfl)
theorem dL_law_640 : decode cL_law 640 = .ok (.invokevirtual 75, 3) := dc_182 (sg_at zd_dL_law_624 12 rfl rfl) rfl
theorem dL_law_643 : decode cL_law 643 = .ok (.pop, 1) := dc_87 (sg_at zd_dL_law_624 13 rfl rfl)
theorem dL_law_644 : decode cL_law 644 = .ok (.goto 882, 3) := dc_167 (sg_at zd_dL_law_624 14 rfl rfl) rfl
theorem dL_law_647 : decode cL_law 647 = .ok (.aload_n 1, 1) := dc_43 (sg_at zd_dL_law_624 15 rfl rfl)
theorem dL_law_648 : decode cL_law 648 = .ok (.aload_n 0, 1) := dc_42 (sg_at zd_dL_law_624 16 rfl rfl)
theorem dL_law_649 : decode cL_law 649 = .ok (.iload 4, 2) := dc_21 (sg_at zd_dL_law_624 17 rfl rfl)
theorem dL_law_651 : decode cL_law 651 = .ok (.iconst 1, 1) := dc_4 (sg_at zd_dL_law_624 18 rfl rfl)
theorem dL_law_652 : decode cL_law 652 = .ok (.iadd, 1) := dc_96 (sg_at zd_dL_law_624 19 rfl rfl)
theorem zd_dL_law_653 : sg (cL_law.data.toList.drop 653) [[46], [42], [21, 4], [5], [96], [46], [182, 0, 76], [87], [44], [42], [21, 4], [4], [96], [46], [42], [21, 4], [5], [96], [46], [182, 0, 79]] = true := by decide +kernel
theorem dL_law_653 : decode cL_law 653 = .ok (.iaload, 1) := dc_46 (sg_at zd_dL_law_653 0 rfl rfl)
theorem dL_law_654 : decode cL_law 654 = .ok (.aload_n 0, 1) := dc_42 (sg_at zd_dL_law_653 1 rfl rfl)
theorem dL_law_655 : decode cL_law 655 = .ok (.iload 4, 2) := dc_21 (sg_at zd_dL_law_653 2 rfl rfl)
theorem dL_law_657 : decode cL_law 657 = .ok (.iconst 2, 1) := dc_5 (sg_at zd_dL_law_653 3 rfl rfl)
theorem dL_law_658 : decode cL_law 658 = .ok (.iadd, 1) := dc_96 (sg_at zd_dL_law_653 4 rfl rfl)
theorem dL_law_659 : decode cL_law 659 = .ok (.iaload, 1) := dc_46 (sg_at zd_dL_law_653 5 rfl rfl)
theorem dL_law_660 : decode cL_law 660 = .ok (.invokevirtual 76, 3) := dc_182 (sg_at zd_dL_law_653 6 rfl rfl) rfl
theorem dL_law_663 : decode cL_law 663 = .ok (.pop, 1) := dc_87 (sg_at zd_dL_law_653 7 rfl rfl)
theorem dL_law_664 : decode cL_law 664 = .ok (.aload_n 2, 1) := dc_44 (sg_at zd_dL_law_653 8 rfl rfl)
theorem dL_law_665 : decode cL_law 665 = .ok (.aload_n 0, 1) := dc_42 (sg_at zd_dL_law_653 9 rfl rfl)
theorem dL_law_666 : decode cL_law 666 = .ok (.iload 4, 2) := dc_21 (sg_at zd_dL_law_653 10 rfl rfl)
theorem dL_law_668 : decode cL_law 668 = .ok (.iconst 1, 1) := dc_4 (sg_at zd_dL_law_653 11 rfl rfl)
theorem dL_law_669 : decode cL_law 669 = .ok (.iadd, 1) := dc_96 (sg_at zd_dL_law_653 12 rfl rfl)
theorem dL_law_670 : decode cL_law 670 = .ok (.iaload, 1) := dc_46 (sg_at zd_dL_law_653 13 rfl rfl)
theorem dL_law_671 : decode cL_law 671 = .ok (.aload_n 0, 1) := dc_42 (sg_at zd_dL_law_653 14 rfl rfl)
theorem dL_law_672 : decode cL_law 672 = .ok (.iload 4, 2) := dc_21 (sg_at zd_dL_law_653 15 rfl rfl)
theorem dL_law_674 : decode cL_law 674 = .ok (.iconst 2, 1) := dc_5 (sg_at zd_dL_law_653 16 rfl rfl)
theorem dL_law_675 : decode cL_law 675 = .ok (.iadd, 1) := dc_96 (sg_at zd_dL_law_653 17 rfl rfl)
theorem dL_law_676 : decode cL_law 676 = .ok (.iaload, 1) := dc_46 (sg_at zd_dL_law_653 18 rfl rfl)
theorem dL_law_677 : decode cL_law 677 = .ok (.invokevirtual 79, 3) := dc_182 (sg_at zd_dL_law_653 19 rfl rfl) rfl
theorem zd_dL_law_680 : sg (cL_law.data.toList.drop 680) [[87], [167, 3, 77], [43], [42], [21, 4], [4], [96], [46], [42], [21, 4], [5], [96], [46], [182, 0, 80], [87], [44], [42], [21, 4], [4], [96]] = true := by decide +kernel
theorem dL_law_680 : decode cL_law 680 = .ok (.pop, 1) := dc_87 (sg_at zd_dL_law_680 0 rfl rfl)
theorem dL_law_681 : decode cL_law 681 = .ok (.goto 845, 3) := dc_167 (sg_at zd_dL_law_680 1 rfl rfl) rfl
theorem dL_law_684 : decode cL_law 684 = .ok (.aload_n 1, 1) := dc_43 (sg_at zd_dL_law_680 2 rfl rfl)
theorem dL_law_685 : decode cL_law 685 = .ok (.aload_n 0, 1) := dc_42 (sg_at zd_dL_law_680 3 rfl rfl)
theorem dL_law_686 : decode cL_law 686 = .ok (.iload 4, 2) := dc_21 (sg_at zd_dL_law_680 4 rfl rfl)
theorem dL_law_688 : decode cL_law 688 = .ok (.iconst 1, 1) := dc_4 (sg_at zd_dL_law_680 5 rfl rfl)
theorem dL_law_689 : decode cL_law 689 = .ok (.iadd, 1) := dc_96 (sg_at zd_dL_law_680 6 rfl rfl)
theorem dL_law_690 : decode cL_law 690 = .ok (.iaload, 1) := dc_46 (sg_at zd_dL_law_680 7 rfl rfl)
theorem dL_law_691 : decode cL_law 691 = .ok (.aload_n 0, 1) := dc_42 (sg_at zd_dL_law_680 8 rfl rfl)
theorem dL_law_692 : decode cL_law 692 = .ok (.iload 4, 2) := dc_21 (sg_at zd_dL_law_680 9 rfl rfl)
theorem dL_law_694 : decode cL_law 694 = .ok (.iconst 2, 1) := dc_5 (sg_at zd_dL_law_680 10 rfl rfl)
theorem dL_law_695 : decode cL_law 695 = .ok (.iadd, 1) := dc_96 (sg_at zd_dL_law_680 11 rfl rfl)
theorem dL_law_696 : decode cL_law 696 = .ok (.iaload, 1) := dc_46 (sg_at zd_dL_law_680 12 rfl rfl)
theorem dL_law_697 : decode cL_law 697 = .ok (.invokevirtual 80, 3) := dc_182 (sg_at zd_dL_law_680 13 rfl rfl) rfl
theorem dL_law_700 : decode cL_law 700 = .ok (.pop, 1) := dc_87 (sg_at zd_dL_law_680 14 rfl rfl)
theorem dL_law_701 : decode cL_law 701 = .ok (.aload_n 2, 1) := dc_44 (sg_at zd_dL_law_680 15 rfl rfl)
theorem dL_law_702 : decode cL_law 702 = .ok (.aload_n 0, 1) := dc_42 (sg_at zd_dL_law_680 16 rfl rfl)
theorem dL_law_703 : decode cL_law 703 = .ok (.iload 4, 2) := dc_21 (sg_at zd_dL_law_680 17 rfl rfl)
theorem dL_law_705 : decode cL_law 705 = .ok (.iconst 1, 1) := dc_4 (sg_at zd_dL_law_680 18 rfl rfl)
theorem dL_law_706 : decode cL_law 706 = .ok (.iadd, 1) := dc_96 (sg_at zd_dL_law_680 19 rfl rfl)
theorem zd_dL_law_707 : sg (cL_law.data.toList.drop 707) [[46], [42], [21, 4], [5], [96], [46], [182, 0, 83], [87], [167, 3, 40], [43], [42], [21, 4], [4], [96], [46], [42], [21, 4], [5], [96], [46]] = true := by decide +kernel
theorem dL_law_707 : decode cL_law 707 = .ok (.iaload, 1) := dc_46 (sg_at zd_dL_law_707 0 rfl rfl)
theorem dL_law_708 : decode cL_law 708 = .ok (.aload_n 0, 1) := dc_42 (sg_at zd_dL_law_707 1 rfl rfl)
theorem dL_law_709 : decode cL_law 709 = .ok (.iload 4, 2) := dc_21 (sg_at zd_dL_law_707 2 rfl rfl)
theorem dL_law_711 : decode cL_law 711 = .ok (.iconst 2, 1) := dc_5 (sg_at zd_dL_law_707 3 rfl rfl)
theorem dL_law_712 : decode cL_law 712 = .ok (.iadd, 1) := dc_96 (sg_at zd_dL_law_707 4 rfl rfl)
theorem dL_law_713 : decode cL_law 713 = .ok (.iaload, 1) := dc_46 (sg_at zd_dL_law_707 5 rfl rfl)
theorem dL_law_714 : decode cL_law 714 = .ok (.invokevirtual 83, 3) := dc_182 (sg_at zd_dL_law_707 6 rfl rfl) rfl
theorem dL_law_717 : decode cL_law 717 = .ok (.pop, 1) := dc_87 (sg_at zd_dL_law_707 7 rfl rfl)
theorem dL_law_718 : decode cL_law 718 = .ok (.goto 808, 3) := dc_167 (sg_at zd_dL_law_707 8 rfl rfl) rfl
theorem dL_law_721 : decode cL_law 721 = .ok (.aload_n 1, 1) := dc_43 (sg_at zd_dL_law_707 9 rfl rfl)
theorem dL_law_722 : decode cL_law 722 = .ok (.aload_n 0, 1) := dc_42 (sg_at zd_dL_law_707 10 rfl rfl)
theorem dL_law_723 : decode cL_law 723 = .ok (.iload 4, 2) := dc_21 (sg_at zd_dL_law_707 11 rfl rfl)
theorem dL_law_725 : decode cL_law 725 = .ok (.iconst 1, 1) := dc_4 (sg_at zd_dL_law_707 12 rfl rfl)
theorem dL_law_726 : decode cL_law 726 = .ok (.iadd, 1) := dc_96 (sg_at zd_dL_law_707 13 rfl rfl)
theorem dL_law_727 : decode cL_law 727 = .ok (.iaload, 1) := dc_46 (sg_at zd_dL_law_707 14 rfl rfl)
theorem dL_law_728 : decode cL_law 728 = .ok (.aload_n 0, 1) := dc_42 (sg_at zd_dL_law_707 15 rfl rfl)
theorem dL_law_729 : decode cL_law 729 = .ok (.iload 4, 2) := dc_21 (sg_at zd_dL_law_707 16 rfl rfl)
theorem dL_law_731 : decode cL_law 731 = .ok (.iconst 2, 1) := dc_5 (sg_at zd_dL_law_707 17 rfl rfl)
theorem dL_law_732 : decode cL_law 732 = .ok (.iadd, 1) := dc_96 (sg_at zd_dL_law_707 18 rfl rfl)
theorem dL_law_733 : decode cL_law 733 = .ok (.iaload, 1) := dc_46 (sg_at zd_dL_law_707 19 rfl rfl)
theorem zd_dL_law_734 : sg (cL_law.data.toList.drop 734) [[182, 0, 84], [87], [44], [42], [21, 4], [4], [96], [46], [42], [21, 4], [5], [96], [46], [182, 0, 87], [87], [167, 3, 3], [43], [42], [21, 4], [4]] = true := by decide +kernel
theorem dL_law_734 : decode cL_law 734 = .ok (.invokevirtual 84, 3) := dc_182 (sg_at zd_dL_law_734 0 rfl rfl) rfl
theorem dL_law_737 : decode cL_law 737 = .ok (.pop, 1) := dc_87 (sg_at zd_dL_law_734 1 rfl rfl)
theorem dL_law_738 : decode cL_law 738 = .ok (.aload_n 2, 1) := dc_44 (sg_at zd_dL_law_734 2 rfl rfl)
theorem dL_law_739 : decode cL_law 739 = .ok (.aload_n 0, 1) := dc_42 (sg_at zd_dL_law_734 3 rfl rfl)
theorem dL_law_740 : decode cL_law 740 = .ok (.iload 4, 2) := dc_21 (sg_at zd_dL_law_734 4 rfl rfl)
theorem dL_law_742 : decode cL_law 742 = .ok (.iconst 1, 1) := dc_4 (sg_at zd_dL_law_734 5 rfl rfl)
theorem dL_law_743 : decode cL_law 743 = .ok (.iadd, 1) := dc_96 (sg_at zd_dL_law_734 6 rfl rfl)
theorem dL_law_744 : decode cL_law 744 = .ok (.iaload, 1) := dc_46 (sg_at zd_dL_law_734 7 rfl rfl)
theorem dL_law_745 : decode cL_law 745 = .ok (.aload_n 0, 1) := dc_42 (sg_at zd_dL_law_734 8 rfl rfl)
theorem dL_law_746 : decode cL_law 746 = .ok (.iload 4, 2) := dc_21 (sg_at zd_dL_law_734 9 rfl rfl)
theorem dL_law_748 : decode cL_law 748 = .ok (.iconst 2, 1) := dc_5 (sg_at zd_dL_law_734 10 rfl rfl)
theorem dL_law_749 : decode cL_law 749 = .ok (.iadd, 1) := dc_96 (sg_at zd_dL_law_734 11 rfl rfl)
theorem dL_law_750 : decode cL_law 750 = .ok (.iaload, 1) := dc_46 (sg_at zd_dL_law_734 12 rfl rfl)
theorem dL_law_751 : decode cL_law 751 = .ok (.invokevirtual 87, 3) := dc_182 (sg_at zd_dL_law_734 13 rfl rfl) rfl
theorem dL_law_754 : decode cL_law 754 = .ok (.pop, 1) := dc_87 (sg_at zd_dL_law_734 14 rfl rfl)
theorem dL_law_755 : decode cL_law 755 = .ok (.goto 771, 3) := dc_167 (sg_at zd_dL_law_734 15 rfl rfl) rfl
theorem dL_law_758 : decode cL_law 758 = .ok (.aload_n 1, 1) := dc_43 (sg_at zd_dL_law_734 16 rfl rfl)
theorem dL_law_759 : decode cL_law 759 = .ok (.aload_n 0, 1) := dc_42 (sg_at zd_dL_law_734 17 rfl rfl)
theorem dL_law_760 : decode cL_law 760 = .ok (.iload 4, 2) := dc_21 (sg_at zd_dL_law_734 18 rfl rfl)
theorem dL_law_762 : decode cL_law 762 = .ok (.iconst 1, 1) := dc_4 (sg_at zd_dL_law_734 19 rfl rfl)
theorem zd_dL_law_763 : sg (cL_law.data.toList.drop 763) [[96], [46], [182, 0, 88], [87], [44], [42], [21, 4], [4], [96], [46], [182, 0, 91], [87], [167, 2, 234], [43], [42], [21, 4], [4], [96], [46], [42]] = true := by decide +kernel
theorem dL_law_763 : decode cL_law 763 = .ok (.iadd, 1) := dc_96 (sg_at zd_dL_law_763 0 rfl rfl)
theorem dL_law_764 : decode cL_law 764 = .ok (.iaload, 1) := dc_46 (sg_at zd_dL_law_763 1 rfl rfl)
theorem dL_law_765 : decode cL_law 765 = .ok (.invokevirtual 88, 3) := dc_182 (sg_at zd_dL_law_763 2 rfl rfl) rfl
theorem dL_law_768 : decode cL_law 768 = .ok (.pop, 1) := dc_87 (sg_at zd_dL_law_763 3 rfl rfl)
theorem dL_law_769 : decode cL_law 769 = .ok (.aload_n 2, 1) := dc_44 (sg_at zd_dL_law_763 4 rfl rfl)
theorem dL_law_770 : decode cL_law 770 = .ok (.aload_n 0, 1) := dc_42 (sg_at zd_dL_law_763 5 rfl rfl)
theorem dL_law_771 : decode cL_law 771 = .ok (.iload 4, 2) := dc_21 (sg_at zd_dL_law_763 6 rfl rfl)
theorem dL_law_773 : decode cL_law 773 = .ok (.iconst 1, 1) := dc_4 (sg_at zd_dL_law_763 7 rfl rfl)
theorem dL_law_774 : decode cL_law 774 = .ok (.iadd, 1) := dc_96 (sg_at zd_dL_law_763 8 rfl rfl)
theorem dL_law_775 : decode cL_law 775 = .ok (.iaload, 1) := dc_46 (sg_at zd_dL_law_763 9 rfl rfl)
theorem dL_law_776 : decode cL_law 776 = .ok (.invokevirtual 91, 3) := dc_182 (sg_at zd_dL_law_763 10 rfl rfl) rfl
theorem dL_law_779 : decode cL_law 779 = .ok (.pop, 1) := dc_87 (sg_at zd_dL_law_763 11 rfl rfl)
theorem dL_law_780 : decode cL_law 780 = .ok (.goto 746, 3) := dc_167 (sg_at zd_dL_law_763 12 rfl rfl) rfl
theorem dL_law_783 : decode cL_law 783 = .ok (.aload_n 1, 1) := dc_43 (sg_at zd_dL_law_763 13 rfl rfl)
theorem dL_law_784 : decode cL_law 784 = .ok (.aload_n 0, 1) := dc_42 (sg_at zd_dL_law_763 14 rfl rfl)
theorem dL_law_785 : decode cL_law 785 = .ok (.iload 4, 2) := dc_21 (sg_at zd_dL_law_763 15 rfl rfl)
theorem dL_law_787 : decode cL_law 787 = .ok (.iconst 1, 1) := dc_4 (sg_at zd_dL_law_763 16 rfl rfl)
theorem dL_law_788 : decode cL_law 788 = .ok (.iadd, 1) := dc_96 (sg_at zd_dL_law_763 17 rfl rfl)
theorem dL_law_789 : decode cL_law 789 = .ok (.iaload, 1) := dc_46 (sg_at zd_dL_law_763 18 rfl rfl)
theorem dL_law_790 : decode cL_law 790 = .ok (.aload_n 0, 1) := dc_42 (sg_at zd_dL_law_763 19 rfl rfl)
theorem zd_dL_law_791 : sg (cL_law.data.toList.drop 791) [[21, 4], [5], [96], [46], [182, 0, 92], [87], [44], [42], [21, 4], [4], [96], [46], [42], [21, 4], [5], [96], [46], [182, 0, 95], [87], [167, 2, 197]] = true := by decide +kernel
theorem dL_law_791 : decode cL_law 791 = .ok (.iload 4, 2) := dc_21 (sg_at zd_dL_law_791 0 rfl rfl)
theorem dL_law_793 : decode cL_law 793 = .ok (.iconst 2, 1) := dc_5 (sg_at zd_dL_law_791 1 rfl rfl)
theorem dL_law_794 : decode cL_law 794 = .ok (.iadd, 1) := dc_96 (sg_at zd_dL_law_791 2 rfl rfl)
theorem dL_law_795 : decode cL_law 795 = .ok (.iaload, 1) := dc_46 (sg_at zd_dL_law_791 3 rfl rfl)
theorem dL_law_796 : decode cL_law 796 = .ok (.invokevirtual 92, 3) := dc_182 (sg_at zd_dL_law_791 4 rfl rfl) rfl
theorem dL_law_799 : decode cL_law 799 = .ok (.pop, 1) := dc_87 (sg_at zd_dL_law_791 5 rfl rfl)
theorem dL_law_800 : decode cL_law 800 = .ok (.aload_n 2, 1) := dc_44 (sg_at zd_dL_law_791 6 rfl rfl)
theorem dL_law_801 : decode cL_law 801 = .ok (.aload_n 0, 1) := dc_42 (sg_at zd_dL_law_791 7 rfl rfl)
theorem dL_law_802 : decode cL_law 802 = .ok (.iload 4, 2) := dc_21 (sg_at zd_dL_law_791 8 rfl rfl)
theorem dL_law_804 : decode cL_law 804 = .ok (.iconst 1, 1) := dc_4 (sg_at zd_dL_law_791 9 rfl rfl)
theorem dL_law_805 : decode cL_law 805 = .ok (.iadd, 1) := dc_96 (sg_at zd_dL_law_791 10 rfl rfl)
theorem dL_law_806 : decode cL_law 806 = .ok (.iaload, 1) := dc_46 (sg_at zd_dL_law_791 11 rfl rfl)
theorem dL_law_807 : decode cL_law 807 = .ok (.aload_n 0, 1) := dc_42 (sg_at zd_dL_law_791 12 rfl rfl)
theorem dL_law_808 : decode cL_law 808 = .ok (.iload 4, 2) := dc_21 (sg_at zd_dL_law_791 13 rfl rfl)
theorem dL_law_810 : decode cL_law 810 = .ok (.iconst 2, 1) := dc_5 (sg_at zd_dL_law_791 14 rfl rfl)
theorem dL_law_811 : decode cL_law 811 = .ok (.iadd, 1) := dc_96 (sg_at zd_dL_law_791 15 rfl rfl)
theorem dL_law_812 : decode cL_law 812 = .ok (.iaload, 1) := dc_46 (sg_at zd_dL_law_791 16 rfl rfl)
theorem dL_law_813 : decode cL_law 813 = .ok (.invokevirtual 95, 3) := dc_182 (sg_at zd_dL_law_791 17 rfl rfl) rfl
theorem dL_law_816 : decode cL_law 816 = .ok (.pop, 1) := dc_87 (sg_at zd_dL_law_791 18 rfl rfl)
theorem dL_law_817 : decode cL_law 817 = .ok (.goto 709, 3) := dc_167 (sg_at zd_dL_law_791 19 rfl rfl) rfl
theorem zd_dL_law_820 : sg (cL_law.data.toList.drop 820) [[43], [42], [21, 4], [4], [96], [46], [42], [21, 4], [5], [96], [46], [42], [21, 4], [6], [96], [46], [182, 0, 96], [87], [44], [42]] = true := by decide +kernel
theorem dL_law_820 : decode cL_law 820 = .ok (.aload_n 1, 1) := dc_43 (sg_at zd_dL_law_820 0 rfl rfl)
theorem dL_law_821 : decode cL_law 821 = .ok (.aload_n 0, 1) := dc_42 (sg_at zd_dL_law_820 1 rfl rfl)
theorem dL_law_822 : decode cL_law 822 = .ok (.iload 4, 2) := dc_21 (sg_at zd_dL_law_820 2 rfl rfl)
theorem dL_law_824 : decode cL_law 824 = .ok (.iconst 1, 1) := dc_4 (sg_at zd_dL_law_820 3 rfl rfl)
theorem dL_law_825 : decode cL_law 825 = .ok (.iadd, 1) := dc_96 (sg_at zd_dL_law_820 4 rfl rfl)
theorem dL_law_826 : decode cL_law 826 = .ok (.iaload, 1) := dc_46 (sg_at zd_dL_law_820 5 rfl rfl)
theorem dL_law_827 : decode cL_law 827 = .ok (.aload_n 0, 1) := dc_42 (sg_at zd_dL_law_820 6 rfl rfl)
theorem dL_law_828 : decode cL_law 828 = .ok (.iload 4, 2) := dc_21 (sg_at zd_dL_law_820 7 rfl rfl)
theorem dL_law_830 : decode cL_law 830 = .ok (.iconst 2, 1) := dc_5 (sg_at zd_dL_law_820 8 rfl rfl)
theorem dL_law_831 : decode cL_law 831 = .ok (.iadd, 1) := dc_96 (sg_at zd_dL_law_820 9 rfl rfl)
theorem dL_law_832 : decode cL_law 832 = .ok (.iaload, 1) := dc_46 (sg_at zd_dL_law_820 10 rfl rfl)
theorem dL_law_833 : decode cL_law 833 = .ok (.aload_n 0, 1) := dc_42 (sg_at zd_dL_law_820 11 rfl rfl)
theorem dL_law_834 : decode cL_law 834 = .ok (.iload 4, 2) := dc_21 (sg_at zd_dL_law_820 12 rfl rfl)
theorem dL_law_836 : decode cL_law 836 = .ok (.iconst 3, 1) := dc_6 (sg_at zd_dL_law_820 13 rfl rfl)
theorem dL_law_837 : decode cL_law 837 = .ok (.iadd, 1) := dc_96 (sg_at zd_dL_law_820 14 rfl rfl)
theorem dL_law_838 : decode cL_law 838 = .ok (.iaload, 1) := dc_46 (sg_at zd_dL_law_820 15 rfl rfl)
theorem dL_law_839 : decode cL_law 839 = .ok (.invokevirtual 96, 3) := dc_182 (sg_at zd_dL_law_820 16 rfl rfl) rfl
theorem dL_law_842 : decode cL_law 842 = .ok (.pop, 1) := dc_87 (sg_at zd_dL_law_820 17 rfl rfl)
theorem dL_law_843 : decode cL_law 843 = .ok (.aload_n 2, 1) := dc_44 (sg_at zd_dL_law_820 18 rfl rfl)
theorem dL_law_844 : decode cL_law 844 = .ok (.aload_n 0, 1) := dc_42 (sg_at zd_dL_law_820 19 rfl rfl)
theorem zd_dL_law_845 : sg (cL_law.data.toList.drop 845) [[21, 4], [4], [96], [46], [42], [21, 4], [5], [96], [46], [42], [21, 4], [6], [96], [46], [182, 0, 99], [87], [167, 2, 148], [43], [42], [21, 4]] = true := by decide +kernel
theorem dL_law_845 : decode cL_law 845 = .ok (.iload 4, 2) := dc_21 (sg_at zd_dL_law_845 0 rfl rfl)
theorem dL_law_847 : decode cL_law 847 = .ok (.iconst 1, 1) := dc_4 (sg_at zd_dL_law_845 1 rfl rfl)
theorem dL_law_848 : decode cL_law 848 = .ok (.iadd, 1) := dc_96 (sg_at zd_dL_law_845 2 rfl rfl)
theorem dL_law_849 : decode cL_law 849 = .ok (.iaload, 1) := dc_46 (sg_at zd_dL_law_845 3 rfl rfl)
theorem dL_law_850 : decode cL_law 850 = .ok (.aload_n 0, 1) := dc_42 (sg_at zd_dL_law_845 4 rfl rfl)
theorem dL_law_851 : decode cL_law 851 = .ok (.iload 4, 2) := dc_21 (sg_at zd_dL_law_845 5 rfl rfl)
theorem dL_law_853 : decode cL_law 853 = .ok (.iconst 2, 1) := dc_5 (sg_at zd_dL_law_845 6 rfl rfl)
theorem dL_law_854 : decode cL_law 854 = .ok (.iadd, 1) := dc_96 (sg_at zd_dL_law_845 7 rfl rfl)
theorem dL_law_855 : decode cL_law 855 = .ok (.iaload, 1) := dc_46 (sg_at zd_dL_law_845 8 rfl rfl)
theorem dL_law_856 : decode cL_law 856 = .ok (.aload_n 0, 1) := dc_42 (sg_at zd_dL_law_845 9 rfl rfl)
theorem dL_law_857 : decode cL_law 857 = .ok (.iload 4, 2) := dc_21 (sg_at zd_dL_law_845 10 rfl rfl)
theorem dL_law_859 : decode cL_law 859 = .ok (.iconst 3, 1) := dc_6 (sg_at zd_dL_law_845 11 rfl rfl)
theorem dL_law_860 : decode cL_law 860 = .ok (.iadd, 1) := dc_96 (sg_at zd_dL_law_845 12 rfl rfl)
theorem dL_law_861 : decode cL_law 861 = .ok (.iaload, 1) := dc_46 (sg_at zd_dL_law_845 13 rfl rfl)
theorem dL_law_862 : decode cL_law 862 = .ok (.invokevirtual 99, 3) := dc_182 (sg_at zd_dL_law_845 14 rfl rfl) rfl
theorem dL_law_865 : decode cL_law 865 = .ok (.pop, 1) := dc_87 (sg_at zd_dL_law_845 15 rfl rfl)
theorem dL_law_866 : decode cL_law 866 = .ok (.goto 660, 3) := dc_167 (sg_at zd_dL_law_845 16 rfl rfl) rfl
theorem dL_law_869 : decode cL_law 869 = .ok (.aload_n 1, 1) := dc_43 (sg_at zd_dL_law_845 17 rfl rfl)
theorem dL_law_870 : decode cL_law 870 = .ok (.aload_n 0, 1) := dc_42 (sg_at zd_dL_law_845 18 rfl rfl)
theorem dL_law_871 : decode cL_law 871 = .ok (.iload 4, 2) := dc_21 (sg_at zd_dL_law_845 19 rfl rfl)
theorem zd_dL_law_873 : sg (cL_law.data.toList.drop 873) [[4], [96], [46], [42], [21, 4], [5], [96], [46], [182, 0, 100], [87], [44], [42], [21, 4], [4], [96], [46], [42], [21, 4], [5], [96]] = true := by decide +kernel
theorem dL_law_873 : decode cL_law 873 = .ok (.iconst 1, 1) := dc_4 (sg_at zd_dL_law_873 0 rfl rfl)
theorem dL_law_874 : decode cL_law 874 = .ok (.iadd, 1) := dc_96 (sg_at zd_dL_law_873 1 rfl rfl)
theorem dL_law_875 : decode cL_law 875 = .ok (.iaload, 1) := dc_46 (sg_at zd_dL_law_873 2 rfl rfl)
theorem dL_law_876 : decode cL_law 876 = .ok (.aload_n 0, 1) := dc_42 (sg_at zd_dL_law_873 3 rfl rfl)
theorem dL_law_877 : decode cL_law 877 = .ok (.iload 4, 2) := dc_21 (sg_at zd_dL_law_873 4 rfl rfl)
theorem dL_law_879 : decode cL_law 879 = .ok (.iconst 2, 1) := dc_5 (sg_at zd_dL_law_873 5 rfl rfl)
theorem dL_law_880 : decode cL_law 880 = .ok (.iadd, 1) := dc_96 (sg_at zd_dL_law_873 6 rfl rfl)
theorem dL_law_881 : decode cL_law 881 = .ok (.iaload, 1) := dc_46 (sg_at zd_dL_law_873 7 rfl rfl)
theorem dL_law_882 : decode cL_law 882 = .ok (.invokevirtual 100, 3) := dc_182 (sg_at zd_dL_law_873 8 rfl rfl) rfl
theorem dL_law_885 : decode cL_law 885 = .ok (.pop, 1) := dc_87 (sg_at zd_dL_law_873 9 rfl rfl)
theorem dL_law_886 : decode cL_law 886 = .ok (.aload_n 2, 1) := dc_44 (sg_at zd_dL_law_873 10 rfl rfl)
theorem dL_law_887 : decode cL_law 887 = .ok (.aload_n 0, 1) := dc_42 (sg_at zd_dL_law_873 11 rfl rfl)
theorem dL_law_888 : decode cL_law 888 = .ok (.iload 4, 2) := dc_21 (sg_at zd_dL_law_873 12 rfl rfl)
theorem dL_law_890 : decode cL_law 890 = .ok (.iconst 1, 1) := dc_4 (sg_at zd_dL_law_873 13 rfl rfl)
theorem dL_law_891 : decode cL_law 891 = .ok (.iadd, 1) := dc_96 (sg_at zd_dL_law_873 14 rfl rfl)
theorem dL_law_892 : decode cL_law 892 = .ok (.iaload, 1) := dc_46 (sg_at zd_dL_law_873 15 rfl rfl)
theorem dL_law_893 : decode cL_law 893 = .ok (.aload_n 0, 1) := dc_42 (sg_at zd_dL_law_873 16 rfl rfl)
theorem dL_law_894 : decode cL_law 894 = .ok (.iload 4, 2) := dc_21 (sg_at zd_dL_law_873 17 rfl rfl)
theorem dL_law_896 : decode cL_law 896 = .ok (.iconst 2, 1) := dc_5 (sg_at zd_dL_law_873 18 rfl rfl)
theorem dL_law_897 : decode cL_law 897 = .ok (.iadd, 1) := dc_96 (sg_at zd_dL_law_873 19 rfl rfl)
theorem zd_dL_law_898 : sg (cL_law.data.toList.drop 898) [[46], [182, 0, 103], [87], [167, 2, 111], [43], [42], [21, 4], [4], [96], [46], [182, 0, 104], [87], [44], [42], [21, 4], [4], [96], [46], [182, 0, 107], [87]] = true := by decide +kernel
theorem dL_law_898 : decode cL_law 898 = .ok (.iaload, 1) := dc_46 (sg_at zd_dL_law_898 0 rfl rfl)
theorem dL_law_899 : decode cL_law 899 = .ok (.invokevirtual 103, 3) := dc_182 (sg_at zd_dL_law_898 1 rfl rfl) rfl
theorem dL_law_902 : decode cL_law 902 = .ok (.pop, 1) := dc_87 (sg_at zd_dL_law_898 2 rfl rfl)
theorem dL_law_903 : decode cL_law 903 = .ok (.goto 623, 3) := dc_167 (sg_at zd_dL_law_898 3 rfl rfl) rfl
theorem dL_law_906 : decode cL_law 906 = .ok (.aload_n 1, 1) := dc_43 (sg_at zd_dL_law_898 4 rfl rfl)
theorem dL_law_907 : decode cL_law 907 = .ok (.aload_n 0, 1) := dc_42 (sg_at zd_dL_law_898 5 rfl rfl)
theorem dL_law_908 : decode cL_law 908 = .ok (.iload 4, 2) := dc_21 (sg_at zd_dL_law_898 6 rfl rfl)
theorem dL_law_910 : decode cL_law 910 = .ok (.iconst 1, 1) := dc_4 (sg_at zd_dL_law_898 7 rfl rfl)
theorem dL_law_911 : decode cL_law 911 = .ok (.iadd, 1) := dc_96 (sg_at zd_dL_law_898 8 rfl rfl)
theorem dL_law_912 : decode cL_law 912 = .ok (.iaload, 1) := dc_46 (sg_at zd_dL_law_898 9 rfl rfl)
theorem dL_law_913 : decode cL_law 913 = .ok (.invokevirtual 104, 3) := dc_182 (sg_at zd_dL_law_898 10 rfl rfl) rfl
theorem dL_law_916 : decode cL_law 916 = .ok (.pop, 1) := dc_87 (sg_at zd_dL_law_898 11 rfl rfl)
theorem dL_law_917 : decode cL_law 917 = .ok (.aload_n 2, 1) := dc_44 (sg_at zd_dL_law_898 12 rfl rfl)
theorem dL_law_918 : decode cL_law 918 = .ok (.aload_n 0, 1) := dc_42 (sg_at zd_dL_law_898 13 rfl rfl)
theorem dL_law_919 : decode cL_law 919 = .ok (.iload 4, 2) := dc_21 (sg_at zd_dL_law_898 14 rfl rfl)
theorem dL_law_921 : decode cL_law 921 = .ok (.iconst 1, 1) := dc_4 (sg_at zd_dL_law_898 15 rfl rfl)
theorem dL_law_922 : decode cL_law 922 = .ok (.iadd, 1) := dc_96 (sg_at zd_dL_law_898 16 rfl rfl)
theorem dL_law_923 : decode cL_law 923 = .ok (.iaload, 1) := dc_46 (sg_at zd_dL_law_898 17 rfl rfl)
theorem dL_law_924 : decode cL_law 924 = .ok (.invokevirtual 107, 3) := dc_182 (sg_at zd_dL_law_898 18 rfl rfl) rfl
theorem dL_law_927 : decode cL_law 927 = .ok (.pop, 1) := dc_87 (sg_at zd_dL_law_898 19 rfl rfl)
theorem zd_dL_law_928 : sg (cL_law.data.toList.drop 928) [[167, 2, 86], [43], [42], [21, 4], [4], [96], [46], [42], [21, 4], [5], [96], [46], [182, 0, 108], [87], [44], [42], [21, 4], [4], [96], [46]] = true := by decide +kernel
theorem dL_law_928 : decode cL_law 928 = .ok (.goto 598, 3) := dc_167 (sg_at zd_dL_law_928 0 rfl rfl) rfl
theorem dL_law_931 : decode cL_law 931 = .ok (.aload_n 1, 1) := dc_43 (sg_at zd_dL_law_928 1 rfl rfl)
theorem dL_law_932 : decode cL_law 932 = .ok (.aload_n 0, 1) := dc_42 (sg_at zd_dL_law_928 2 rfl rfl)
theorem dL_law_933 : decode cL_law 933 = .ok (.iload 4, 2) := dc_21 (sg_at zd_dL_law_928 3 rfl rfl)
theorem dL_law_935 : decode cL_law 935 = .ok (.iconst 1, 1) := dc_4 (sg_at zd_dL_law_928 4 rfl rfl)
theorem dL_law_936 : decode cL_law 936 = .ok (.iadd, 1) := dc_96 (sg_at zd_dL_law_928 5 rfl rfl)
theorem dL_law_937 : decode cL_law 937 = .ok (.iaload, 1) := dc_46 (sg_at zd_dL_law_928 6 rfl rfl)
theorem dL_law_938 : decode cL_law 938 = .ok (.aload_n 0, 1) := dc_42 (sg_at zd_dL_law_928 7 rfl rfl)
theorem dL_law_939 : decode cL_law 939 = .ok (.iload 4, 2) := dc_21 (sg_at zd_dL_law_928 8 rfl rfl)
theorem dL_law_941 : decode cL_law 941 = .ok (.iconst 2, 1) := dc_5 (sg_at zd_dL_law_928 9 rfl rfl)
theorem dL_law_942 : decode cL_law 942 = .ok (.iadd, 1) := dc_96 (sg_at zd_dL_law_928 10 rfl rfl)
theorem dL_law_943 : decode cL_law 943 = .ok (.iaload, 1) := dc_46 (sg_at zd_dL_law_928 11 rfl rfl)
theorem dL_law_944 : decode cL_law 944 = .ok (.invokevirtual 108, 3) := dc_182 (sg_at zd_dL_law_928 12 rfl rfl) rfl
theorem dL_law_947 : decode cL_law 947 = .ok (.pop, 1) := dc_87 (sg_at zd_dL_law_928 13 rfl rfl)
theorem dL_law_948 : decode cL_law 948 = .ok (.aload_n 2, 1) := dc_44 (sg_at zd_dL_law_928 14 rfl rfl)
theorem dL_law_949 : decode cL_law 949 = .ok (.aload_n 0, 1) := dc_42 (sg_at zd_dL_law_928 15 rfl rfl)
theorem dL_law_950 : decode cL_law 950 = .ok (.iload 4, 2) := dc_21 (sg_at zd_dL_law_928 16 rfl rfl)
theorem dL_law_952 : decode cL_law 952 = .ok (.iconst 1, 1) := dc_4 (sg_at zd_dL_law_928 17 rfl rfl)
theorem dL_law_953 : decode cL_law 953 = .ok (.iadd, 1) := dc_96 (sg_at zd_dL_law_928 18 rfl rfl)
theorem dL_law_954 : decode cL_law 954 = .ok (.iaload, 1) := dc_46 (sg_at zd_dL_law_928 19 rfl rfl)
theorem zd_dL_law_955 : sg (cL_law.data.toList.drop 955) [[42], [21, 4], [5], [96], [46], [182, 0, 111], [87], [167, 2, 49], [43], [42], [21, 4], [4], [96], [46], [42], [21, 4], [5], [96], [46], [42]] = true := by decide +kernel
theorem dL_law_955 : decode cL_law 955 = .ok (.aload_n 0, 1) := dc_42 (sg_at zd_dL_law_955 0 rfl rfl)
theorem dL_law_956 : decode cL_law 956 = .ok (.iload 4, 2) := dc_21 (sg_at zd_dL_law_955 1 rfl rfl)
theorem dL_law_958 : decode cL_law 958 = .ok (.iconst 2, 1) := dc_5 (sg_at zd_dL_law_955 2 rfl rfl)
theorem dL_law_959 : decode cL_law 959 = .ok (.iadd, 1) := dc_96 (sg_at zd_dL_law_955 3 rfl rfl)
theorem dL_law_960 : decode cL_law 960 = .ok (.iaload, 1) := dc_46 (sg_at zd_dL_law_955 4 rfl rfl)
theorem dL_law_961 : decode cL_law 961 = .ok (.invokevirtual 111, 3) := dc_182 (sg_at zd_dL_law_955 5 rfl rfl) rfl
theorem dL_law_964 : decode cL_law 964 = .ok (.pop, 1) := dc_87 (sg_at zd_dL_law_955 6 rfl rfl)
theorem dL_law_965 : decode cL_law 965 = .ok (.goto 561, 3) := dc_167 (sg_at zd_dL_law_955 7 rfl rfl) rfl
theorem dL_law_968 : decode cL_law 968 = .ok (.aload_n 1, 1) := dc_43 (sg_at zd_dL_law_955 8 rfl rfl)
theorem dL_law_969 : decode cL_law 969 = .ok (.aload_n 0, 1) := dc_42 (sg_at zd_dL_law_955 9 rfl rfl)
theorem dL_law_970 : decode cL_law 970 = .ok (.iload 4, 2) := dc_21 (sg_at zd_dL_law_955 10 rfl rfl)
theorem dL_law_972 : decode cL_law 972 = .ok (.iconst 1, 1) := dc_4 (sg_at zd_dL_law_955 11 rfl rfl)
theorem dL_law_973 : decode cL_law 973 = .ok (.iadd, 1) := dc_96 (sg_at zd_dL_law_955 12 rfl rfl)
theorem dL_law_974 : decode cL_law 974 = .ok (.iaload, 1) := dc_46 (sg_at zd_dL_law_955 13 rfl rfl)
theorem dL_law_975 : decode cL_law 975 = .ok (.aload_n 0, 1) := dc_42 (sg_at zd_dL_law_955 14 rfl rfl)
theorem dL_law_976 : decode cL_law 976 = .ok (.iload 4, 2) := dc_21 (sg_at zd_dL_law_955 15 rfl rfl)
theorem dL_law_978 : decode cL_law 978 = .ok (.iconst 2, 1) := dc_5 (sg_at zd_dL_law_955 16 rfl rfl)
theorem dL_law_979 : decode cL_law 979 = .ok (.iadd, 1) := dc_96 (sg_at zd_dL_law_955 17 rfl rfl)
theorem dL_law_980 : decode cL_law 980 = .ok (.iaload, 1) := dc_46 (sg_at zd_dL_law_955 18 rfl rfl)
theorem dL_law_981 : decode cL_law 981 = .ok (.aload_n 0, 1) := dc_42 (sg_at zd_dL_law_955 19 rfl rfl)
theorem zd_dL_law_982 : sg (cL_law.data.toList.drop 982) [[21, 4], [6], [96], [46], [182, 0, 112], [87], [44], [42], [21, 4], [4], [96], [46], [42], [21, 4], [5], [96], [46], [42], [21, 4], [6]] = true := by decide +kernel
theorem dL_law_982 : decode cL_law 982 = .ok (.iload 4, 2) := dc_21 (sg_at zd_dL_law_982 0 rfl rfl)
theorem dL_law_984 : decode cL_law 984 = .ok (.iconst 3, 1) := dc_6 (sg_at zd_dL_law_982 1 rfl rfl)
theorem dL_law_985 : decode cL_law 985 = .ok (.iadd, 1) := dc_96 (sg_at zd_dL_law_982 2 rfl rfl)
theorem dL_law_986 : decode cL_law 986 = .ok (.iaload, 1) := dc_46 (sg_at zd_dL_law_982 3 rfl rfl)
theorem dL_law_987 : decode cL_law 987 = .ok (.invokevirtual 112, 3) := dc_182 (sg_at zd_dL_law_982 4 rfl rfl) rfl
theorem dL_law_990 : decode cL_law 990 = .ok (.pop, 1) := dc_87 (sg_at zd_dL_law_982 5 rfl rfl)
theorem dL_law_991 : decode cL_law 991 = .ok (.aload_n 2, 1) := dc_44 (sg_at zd_dL_law_982 6 rfl rfl)
theorem dL_law_992 : decode cL_law 992 = .ok (.aload_n 0, 1) := dc_42 (sg_at zd_dL_law_982 7 rfl rfl)
theorem dL_law_993 : decode cL_law 993 = .ok (.iload 4, 2) := dc_21 (sg_at zd_dL_law_982 8 rfl rfl)
theorem dL_law_995 : decode cL_law 995 = .ok (.iconst 1, 1) := dc_4 (sg_at zd_dL_law_982 9 rfl rfl)
theorem dL_law_996 : decode cL_law 996 = .ok (.iadd, 1) := dc_96 (sg_at zd_dL_law_982 10 rfl rfl)
theorem dL_law_997 : decode cL_law 997 = .ok (.iaload, 1) := dc_46 (sg_at zd_dL_law_982 11 rfl rfl)
theorem dL_law_998 : decode cL_law 998 = .ok (.aload_n 0, 1) := dc_42 (sg_at zd_dL_law_982 12 rfl rfl)
theorem dL_law_999 : decode cL_law 999 = .ok (.iload 4, 2) := dc_21 (sg_at zd_dL_law_982 13 rfl rfl)
theorem dL_law_1001 : decode cL_law 1001 = .ok (.iconst 2, 1) := dc_5 (sg_at zd_dL_law_982 14 rfl rfl)
theorem dL_law_1002 : decode cL_law 1002 = .ok (.iadd, 1) := dc_96 (sg_at zd_dL_law_982 15 rfl rfl)
theorem dL_law_1003 : decode cL_law 1003 = .ok (.iaload, 1) := dc_46 (sg_at zd_dL_law_982 16 rfl rfl)
theorem dL_law_1004 : decode cL_law 1004 = .ok (.aload_n 0, 1) := dc_42 (sg_at zd_dL_law_982 17 rfl rfl)
theorem dL_law_1005 : decode cL_law 1005 = .ok (.iload 4, 2) := dc_21 (sg_at zd_dL_law_982 18 rfl rfl)
theorem dL_law_1007 : decode cL_law 1007 = .ok (.iconst 3, 1) := dc_6 (sg_at zd_dL_law_982 19 rfl rfl)
theorem zd_dL_law_1008 : sg (cL_law.data.toList.drop 1008) [[96], [46], [182, 0, 115], [87], [167, 2, 0], [43], [42], [21, 4], [4], [96], [46], [42], [21, 4], [5], [96], [46], [42], [21, 4], [6], [96]] = true := by decide +kernel
theorem dL_law_1008 : decode cL_law 1008 = .ok (.iadd, 1) := dc_96 (sg_at zd_dL_law_1008 0 rfl rfl)
theorem dL_law_1009 : decode cL_law 1009 = .ok (.iaload, 1) := dc_46 (sg_at zd_dL_law_1008 1 rfl rfl)
theorem dL_law_1010 : decode cL_law 1010 = .ok (.invokevirtual 115, 3) := dc_182 (sg_at zd_dL_law_1008 2 rfl rfl) rfl
theorem dL_law_1013 : decode cL_law 1013 = .ok (.pop, 1) := dc_87 (sg_at zd_dL_law_1008 3 rfl rfl)
theorem dL_law_1014 : decode cL_law 1014 = .ok (.goto 512, 3) := dc_167 (sg_at zd_dL_law_1008 4 rfl rfl) rfl
theorem dL_law_1017 : decode cL_law 1017 = .ok (.aload_n 1, 1) := dc_43 (sg_at zd_dL_law_1008 5 rfl rfl)
theorem dL_law_1018 : decode cL_law 1018 = .ok (.aload_n 0, 1) := dc_42 (sg_at zd_dL_law_1008 6 rfl rfl)
theorem dL_law_1019 : decode cL_law 1019 = .ok (.iload 4, 2) := dc_21 (sg_at zd_dL_law_1008 7 rfl rfl)
theorem dL_law_1021 : decode cL_law 1021 = .ok (.iconst 1, 1) := dc_4 (sg_at zd_dL_law_1008 8 rfl rfl)
theorem dL_law_1022 : decode cL_law 1022 = .ok (.iadd, 1) := dc_96 (sg_at zd_dL_law_1008 9 rfl rfl)
theorem dL_law_1023 : decode cL_law 1023 = .ok (.iaload, 1) := dc_46 (sg_at zd_dL_law_1008 10 rfl rfl)
theorem dL_law_1024 : decode cL_law 1024 = .ok (.aload_n 0, 1) := dc_42 (sg_at zd_dL_law_1008 11 rfl rfl)
theorem dL_law_1025 : decode cL_law 1025 = .ok (.iload 4, 2) := dc_21 (sg_at zd_dL_law_1008 12 rfl rfl)
theorem dL_law_1027 : decode cL_law 1027 = .ok (.iconst 2, 1) := dc_5 (sg_at zd_dL_law_1008 13 rfl rfl)
theorem dL_law_1028 : decode cL_law 1028 = .ok (.iadd, 1) := dc_96 (sg_at zd_dL_law_1008 14 rfl rfl)
theorem dL_law_1029 : decode cL_law 1029 = .ok (.iaload, 1) := dc_46 (sg_at zd_dL_law_1008 15 rfl rfl)
theorem dL_law_1030 : decode cL_law 1030 = .ok (.aload_n 0, 1) := dc_42 (sg_at zd_dL_law_1008 16 rfl rfl)
theorem dL_law_1031 : decode cL_law 1031 = .ok (.iload 4, 2) := dc_21 (sg_at zd_dL_law_1008 17 rfl rfl)
theorem dL_law_1033 : decode cL_law 1033 = .ok (.iconst 3, 1) := dc_6 (sg_at zd_dL_law_1008 18 rfl rfl)
theorem dL_law_1034 : decode cL_law 1034 = .ok (.iadd, 1) := dc_96 (sg_at zd_dL_law_1008 19 rfl rfl)
theorem zd_dL_law_1035 : sg (cL_law.data.toList.drop 1035) [[46], [182, 0, 116], [87], [44], [42], [21, 4], [4], [96], [46], [42], [21, 4], [5], [96], [46], [42], [21, 4], [6], [96], [46], [182, 0, 119]] = true := by decide +kernel
theorem dL_law_1035 : decode cL_law 1035 = .ok (.iaload, 1) := dc_46 (sg_at zd_dL_law_1035 0 rfl rfl)
theorem dL_law_1036 : decode cL_law 1036 = .ok (.invokevirtual 116, 3) := dc_182 (sg_at zd_dL_law_1035 1 rfl rfl) rfl
theorem dL_law_1039 : decode cL_law 1039 = .ok (.pop, 1) := dc_87 (sg_at zd_dL_law_1035 2 rfl rfl)
theorem dL_law_1040 : decode cL_law 1040 = .ok (.aload_n 2, 1) := dc_44 (sg_at zd_dL_law_1035 3 rfl rfl)
theorem dL_law_1041 : decode cL_law 1041 = .ok (.aload_n 0, 1) := dc_42 (sg_at zd_dL_law_1035 4 rfl rfl)
theorem dL_law_1042 : decode cL_law 1042 = .ok (.iload 4, 2) := dc_21 (sg_at zd_dL_law_1035 5 rfl rfl)
theorem dL_law_1044 : decode cL_law 1044 = .ok (.iconst 1, 1) := dc_4 (sg_at zd_dL_law_1035 6 rfl rfl)
theorem dL_law_1045 : decode cL_law 1045 = .ok (.iadd, 1) := dc_96 (sg_at zd_dL_law_1035 7 rfl rfl)
theorem dL_law_1046 : decode cL_law 1046 = .ok (.iaload, 1) := dc_46 (sg_at zd_dL_law_1035 8 rfl rfl)
theorem dL_law_1047 : decode cL_law 1047 = .ok (.aload_n 0, 1) := dc_42 (sg_at zd_dL_law_1035 9 rfl rfl)
theorem dL_law_1048 : decode cL_law 1048 = .ok (.iload 4, 2) := dc_21 (sg_at zd_dL_law_1035 10 rfl rfl)
theorem dL_law_1050 : decode cL_law 1050 = .ok (.iconst 2, 1) := dc_5 (sg_at zd_dL_law_1035 11 rfl rfl)
theorem dL_law_1051 : decode cL_law 1051 = .ok (.iadd, 1) := dc_96 (sg_at zd_dL_law_1035 12 rfl rfl)
theorem dL_law_1052 : decode cL_law 1052 = .ok (.iaload, 1) := dc_46 (sg_at zd_dL_law_1035 13 rfl rfl)
theorem dL_law_1053 : decode cL_law 1053 = .ok (.aload_n 0, 1) := dc_42 (sg_at zd_dL_law_1035 14 rfl rfl)
theorem dL_law_1054 : decode cL_law 1054 = .ok (.iload 4, 2) := dc_21 (sg_at zd_dL_law_1035 15 rfl rfl)
theorem dL_law_1056 : decode cL_law 1056 = .ok (.iconst 3, 1) := dc_6 (sg_at zd_dL_law_1035 16 rfl rfl)
theorem dL_law_1057 : decode cL_law 1057 = .ok (.iadd, 1) := dc_96 (sg_at zd_dL_law_1035 17 rfl rfl)
theorem dL_law_1058 : decode cL_law 1058 = .ok (.iaload, 1) := dc_46 (sg_at zd_dL_law_1035 18 rfl rfl)
theorem dL_law_1059 : decode cL_law 1059 = .ok (.invokevirtual 119, 3) := dc_182 (sg_at zd_dL_law_1035 19 rfl rfl) rfl
theorem zd_dL_law_1062 : sg (cL_law.data.toList.drop 1062) [[87], [167, 1, 207], [43], [42], [21, 4], [4], [96], [46], [42], [21, 4], [5], [96], [46], [42], [21, 4], [6], [96], [46], [182, 0, 120], [87]] = true := by decide +kernel
theorem dL_law_1062 : decode cL_law 1062 = .ok (.pop, 1) := dc_87 (sg_at zd_dL_law_1062 0 rfl rfl)
theorem dL_law_1063 : decode cL_law 1063 = .ok (.goto 463, 3) := dc_167 (sg_at zd_dL_law_1062 1 rfl rfl) rfl
theorem dL_law_1066 : decode cL_law 1066 = .ok (.aload_n 1, 1) := dc_43 (sg_at zd_dL_law_1062 2 rfl rfl)
theorem dL_law_1067 : decode cL_law 1067 = .ok (.aload_n 0, 1) := dc_42 (sg_at zd_dL_law_1062 3 rfl rfl)
theorem dL_law_1068 : decode cL_law 1068 = .ok (.iload 4, 2) := dc_21 (sg_at zd_dL_law_1062 4 rfl rfl)
theorem dL_law_1070 : decode cL_law 1070 = .ok (.iconst 1, 1) := dc_4 (sg_at zd_dL_law_1062 5 rfl rfl)
theorem dL_law_1071 : decode cL_law 1071 = .ok (.iadd, 1) := dc_96 (sg_at zd_dL_law_1062 6 rfl rfl)
theorem dL_law_1072 : decode cL_law 1072 = .ok (.iaload, 1) := dc_46 (sg_at zd_dL_law_1062 7 rfl rfl)
theorem dL_law_1073 : decode cL_law 1073 = .ok (.aload_n 0, 1) := dc_42 (sg_at zd_dL_law_1062 8 rfl rfl)
theorem dL_law_1074 : decode cL_law 1074 = .ok (.iload 4, 2) := dc_21 (sg_at zd_dL_law_1062 9 rfl rfl)
theorem dL_law_1076 : decode cL_law 1076 = .ok (.iconst 2, 1) := dc_5 (sg_at zd_dL_law_1062 10 rfl rfl)
theorem dL_law_1077 : decode cL_law 1077 = .ok (.iadd, 1) := dc_96 (sg_at zd_dL_law_1062 11 rfl rfl)
theorem dL_law_1078 : decode cL_law 1078 = .ok (.iaload, 1) := dc_46 (sg_at zd_dL_law_1062 12 rfl rfl)
theorem dL_law_1079 : decode cL_law 1079 = .ok (.aload_n 0, 1) := dc_42 (sg_at zd_dL_law_1062 13 rfl rfl)
theorem dL_law_1080 : decode cL_law 1080 = .ok (.iload 4, 2) := dc_21 (sg_at zd_dL_law_1062 14 rfl rfl)
theorem dL_law_1082 : decode cL_law 1082 = .ok (.iconst 3, 1) := dc_6 (sg_at zd_dL_law_1062 15 rfl rfl)
theorem dL_law_1083 : decode cL_law 1083 = .ok (.iadd, 1) := dc_96 (sg_at zd_dL_law_1062 16 rfl rfl)
theorem dL_law_1084 : decode cL_law 1084 = .ok (.iaload, 1) := dc_46 (sg_at zd_dL_law_1062 17 rfl rfl)
theorem dL_law_1085 : decode cL_law 1085 = .ok (.invokevirtual 120, 3) := dc_182 (sg_at zd_dL_law_1062 18 rfl rfl) rfl
theorem dL_law_1088 : decode cL_law 1088 = .ok (.pop, 1) := dc_87 (sg_at zd_dL_law_1062 19 rfl rfl)
theorem zd_dL_law_1089 : sg (cL_law.data.toList.drop 1089) [[44], [42], [21, 4], [4], [96], [46], [42], [21, 4], [5], [96], [46], [42], [21, 4], [6], [96], [46], [182, 0, 123], [87], [167, 1, 158], [43]] = true := by decide +kernel
theorem dL_law_1089 : decode cL_law 1089 = .ok (.aload_n 2, 1) := dc_44 (sg_at zd_dL_law_1089 0 rfl rfl)
theorem dL_law_1090 : decode cL_law 1090 = .ok (.aload_n 0, 1) := dc_42 (sg_at zd_dL_law_1089 1 rfl rfl)
theorem dL_law_1091 : decode cL_law 1091 = .ok (.iload 4, 2) := dc_21 (sg_at zd_dL_law_1089 2 rfl rfl)
theorem dL_law_1093 : decode cL_law 1093 = .ok (.iconst 1, 1) := dc_4 (sg_at zd_dL_law_1089 3 rfl rfl)
theorem dL_law_1094 : decode cL_law 1094 = .ok (.iadd, 1) := dc_96 (sg_at zd_dL_law_1089 4 rfl rfl)
theorem dL_law_1095 : decode cL_law 1095 = .ok (.iaload, 1) := dc_46 (sg_at zd_dL_law_1089 5 rfl rfl)
theorem dL_law_1096 : decode cL_law 1096 = .ok (.aload_n 0, 1) := dc_42 (sg_at zd_dL_law_1089 6 rfl rfl)
theorem dL_law_1097 : decode cL_law 1097 = .ok (.iload 4, 2) := dc_21 (sg_at zd_dL_law_1089 7 rfl rfl)
theorem dL_law_1099 : decode cL_law 1099 = .ok (.iconst 2, 1) := dc_5 (sg_at zd_dL_law_1089 8 rfl rfl)
theorem dL_law_1100 : decode cL_law 1100 = .ok (.iadd, 1) := dc_96 (sg_at zd_dL_law_1089 9 rfl rfl)
theorem dL_law_1101 : decode cL_law 1101 = .ok (.iaload, 1) := dc_46 (sg_at zd_dL_law_1089 10 rfl rfl)
theorem dL_law_1102 : decode cL_law 1102 = .ok (.aload_n 0, 1) := dc_42 (sg_at zd_dL_law_1089 11 rfl rfl)
theorem dL_law_1103 : decode cL_law 1103 = .ok (.iload 4, 2) := dc_21 (sg_at zd_dL_law_1089 12 rfl rfl)
theorem dL_law_1105 : decode cL_law 1105 = .ok (.iconst 3, 1) := dc_6 (sg_at zd_dL_law_1089 13 rfl rfl)
theorem dL_law_1106 : decode cL_law 1106 = .ok (.iadd, 1) := dc_96 (sg_at zd_dL_law_1089 14 rfl rfl)
theorem dL_law_1107 : decode cL_law 1107 = .ok (.iaload, 1) := dc_46 (sg_at zd_dL_law_1089 15 rfl rfl)
theorem dL_law_1108 : decode cL_law 1108 = .ok (.invokevirtual 123, 3) := dc_182 (sg_at zd_dL_law_1089 16 rfl rfl) rfl
theorem dL_law_1111 : decode cL_law 1111 = .ok (.pop, 1) := dc_87 (sg_at zd_dL_law_1089 17 rfl rfl)
theorem dL_law_1112 : decode cL_law 1112 = .ok (.goto 414, 3) := dc_167 (sg_at zd_dL_law_1089 18 rfl rfl) rfl
theorem dL_law_1115 : decode cL_law 1115 = .ok (.aload_n 1, 1) := dc_43 (sg_at zd_dL_law_1089 19 rfl rfl)
theorem zd_dL_law_1116 : sg (cL_law.data.toList.drop 1116) [[42], [21, 4], [4], [96], [46], [182, 0, 124], [87], [44], [42], [21, 4], [4], [96], [46], [182, 0, 127], [87], [167, 1, 133], [43], [42], [21, 4], [4]] = true := by decide +kernel
theorem dL_law_1116 : decode cL_law 1116 = .ok (.aload_n 0, 1) := dc_42 (sg_at zd_dL_law_1116 0 rfl rfl)
theorem dL_law_1117 : decode cL_law 1117 = .ok (.iload 4, 2) := dc_21 (sg_at zd_dL_law_1116 1 rfl rfl)
theorem dL_law_1119 : decode cL_law 1119 = .ok (.iconst 1, 1) := dc_4 (sg_at zd_dL_law_1116 2 rfl rfl)
theorem dL_law_1120 : decode cL_law 1120 = .ok (.iadd, 1) := dc_96 (sg_at zd_dL_law_1116 3 rfl rfl)
theorem dL_law_1121 : decode cL_law 1121 = .ok (.iaload, 1) := dc_46 (sg_at zd_dL_law_1116 4 rfl rfl)
theorem dL_law_1122 : decode cL_law 1122 = .ok (.invokevirtual 124, 3) := dc_182 (sg_at zd_dL_law_1116 5 rfl rfl) rfl
theorem dL_law_1125 : decode cL_law 1125 = .ok (.pop, 1) := dc_87 (sg_at zd_dL_law_1116 6 rfl rfl)
theorem dL_law_1126 : decode cL_law 1126 = .ok (.aload_n 2, 1) := dc_44 (sg_at zd_dL_law_1116 7 rfl rfl)
theorem dL_law_1127 : decode cL_law 1127 = .ok (.aload_n 0, 1) := dc_42 (sg_at zd_dL_law_1116 8 rfl rfl)
theorem dL_law_1128 : decode cL_law 1128 = .ok (.iload 4, 2) := dc_21 (sg_at zd_dL_law_1116 9 rfl rfl)
theorem dL_law_1130 : decode cL_law 1130 = .ok (.iconst 1, 1) := dc_4 (sg_at zd_dL_law_1116 10 rfl rfl)
theorem dL_law_1131 : decode cL_law 1131 = .ok (.iadd, 1) := dc_96 (sg_at zd_dL_law_1116 11 rfl rfl)
theorem dL_law_1132 : decode cL_law 1132 = .ok (.iaload, 1) := dc_46 (sg_at zd_dL_law_1116 12 rfl rfl)
theorem dL_law_1133 : decode cL_law 1133 = .ok (.invokevirtual 127, 3) := dc_182 (sg_at zd_dL_law_1116 13 rfl rfl) rfl
theorem dL_law_1136 : decode cL_law 1136 = .ok (.pop, 1) := dc_87 (sg_at zd_dL_law_1116 14 rfl rfl)
theorem dL_law_1137 : decode cL_law 1137 = .ok (.goto 389, 3) := dc_167 (sg_at zd_dL_law_1116 15 rfl rfl) rfl
theorem dL_law_1140 : decode cL_law 1140 = .ok (.aload_n 1, 1) := dc_43 (sg_at zd_dL_law_1116 16 rfl rfl)
theorem dL_law_1141 : decode cL_law 1141 = .ok (.aload_n 0, 1) := dc_42 (sg_at zd_dL_law_1116 17 rfl rfl)
theorem dL_law_1142 : decode cL_law 1142 = .ok (.iload 4, 2) := dc_21 (sg_at zd_dL_law_1116 18 rfl rfl)
theorem dL_law_1144 : decode cL_law 1144 = .ok (.iconst 1, 1) := dc_4 (sg_at zd_dL_law_1116 19 rfl rfl)
theorem zd_dL_law_1145 : sg (cL_law.data.toList.drop 1145) [[96], [46], [182, 0, 128], [87], [44], [42], [21, 4], [4], [96], [46], [182, 0, 131], [87], [167, 1, 108], [43], [182, 0, 132], [87], [44], [182, 0, 136], [87], [167, 1, 95]] = true := by decide +kernel
theorem dL_law_1145 : decode cL_law 1145 = .ok (.iadd, 1) := dc_96 (sg_at zd_dL_law_1145 0 rfl rfl)
theorem dL_law_1146 : decode cL_law 1146 = .ok (.iaload, 1) := dc_46 (sg_at zd_dL_law_1145 1 rfl rfl)
theorem dL_law_1147 : decode cL_law 1147 = .ok (.invokevirtual 128, 3) := dc_182 (sg_at zd_dL_law_1145 2 rfl rfl) rfl
theorem dL_law_1150 : decode cL_law 1150 = .ok (.pop, 1) := dc_87 (sg_at zd_dL_law_1145 3 rfl rfl)
theorem dL_law_1151 : decode cL_law 1151 = .ok (.aload_n 2, 1) := dc_44 (sg_at zd_dL_law_1145 4 rfl rfl)
theorem dL_law_1152 : decode cL_law 1152 = .ok (.aload_n 0, 1) := dc_42 (sg_at zd_dL_law_1145 5 rfl rfl)
theorem dL_law_1153 : decode cL_law 1153 = .ok (.iload 4, 2) := dc_21 (sg_at zd_dL_law_1145 6 rfl rfl)
theorem dL_law_1155 : decode cL_law 1155 = .ok (.iconst 1, 1) := dc_4 (sg_at zd_dL_law_1145 7 rfl rfl)
theorem dL_law_1156 : decode cL_law 1156 = .ok (.iadd, 1) := dc_96 (sg_at zd_dL_law_1145 8 rfl rfl)
theorem dL_law_1157 : decode cL_law 1157 = .ok (.iaload, 1) := dc_46 (sg_at zd_dL_law_1145 9 rfl rfl)
theorem dL_law_1158 : decode cL_law 1158 = .ok (.invokevirtual 131, 3) := dc_182 (sg_at zd_dL_law_1145 10 rfl rfl) rfl
theorem dL_law_1161 : decode cL_law 1161 = .ok (.pop, 1) := dc_87 (sg_at zd_dL_law_1145 11 rfl rfl)
theorem dL_law_1162 : decode cL_law 1162 = .ok (.goto 364, 3) := dc_167 (sg_at zd_dL_law_1145 12 rfl rfl) rfl
theorem dL_law_1165 : decode cL_law 1165 = .ok (.aload_n 1, 1) := dc_43 (sg_at zd_dL_law_1145 13 rfl rfl)
theorem dL_law_1166 : decode cL_law 1166 = .ok (.invokevirtual 132, 3) := dc_182 (sg_at zd_dL_law_1145 14 rfl rfl) rfl
theorem dL_law_1169 : decode cL_law 1169 = .ok (.pop, 1) := dc_87 (sg_at zd_dL_law_1145 15 rfl rfl)
theorem dL_law_1170 : decode cL_law 1170 = .ok (.aload_n 2, 1) := dc_44 (sg_at zd_dL_law_1145 16 rfl rfl)
theorem dL_law_1171 : decode cL_law 1171 = .ok (.invokevirtual 136, 3) := dc_182 (sg_at zd_dL_law_1145 17 rfl rfl) rfl
theorem dL_law_1174 : decode cL_law 1174 = .ok (.pop, 1) := dc_87 (sg_at zd_dL_law_1145 18 rfl rfl)
theorem dL_law_1175 : decode cL_law 1175 = .ok (.goto 351, 3) := dc_167 (sg_at zd_dL_law_1145 19 rfl rfl) rfl
theorem zd_dL_law_1178 : sg (cL_law.data.toList.drop 1178) [[43], [42], [21, 4], [4], [96], [46], [42], [21, 4], [5], [96], [46], [182, 0, 137], [87], [44], [42], [21, 4], [4], [96], [46], [42]] = true := by decide +kernel
theorem dL_law_1178 : decode cL_law 1178 = .ok (.aload_n 1, 1) := dc_43 (sg_at zd_dL_law_1178 0 rfl rfl)
theorem dL_law_1179 : decode cL_law 1179 = .ok (.aload_n 0, 1) := dc_42 (sg_at zd_dL_law_1178 1 rfl rfl)
theorem dL_law_1180 : decode cL_law 1180 = .ok (.iload 4, 2) := dc_21 (sg_at zd_dL_law_1178 2 rfl rfl)
theorem dL_law_1182 : decode cL_law 1182 = .ok (.iconst 1, 1) := dc_4 (sg_at zd_dL_law_1178 3 rfl rfl)
theorem dL_law_1183 : decode cL_law 1183 = .ok (.iadd, 1) := dc_96 (sg_at zd_dL_law_1178 4 rfl rfl)
theorem dL_law_1184 : decode cL_law 1184 = .ok (.iaload, 1) := dc_46 (sg_at zd_dL_law_1178 5 rfl rfl)
theorem dL_law_1185 : decode cL_law 1185 = .ok (.aload_n 0, 1) := dc_42 (sg_at zd_dL_law_1178 6 rfl rfl)
theorem dL_law_1186 : decode cL_law 1186 = .ok (.iload 4, 2) := dc_21 (sg_at zd_dL_law_1178 7 rfl rfl)
theorem dL_law_1188 : decode cL_law 1188 = .ok (.iconst 2, 1) := dc_5 (sg_at zd_dL_law_1178 8 rfl rfl)
theorem dL_law_1189 : decode cL_law 1189 = .ok (.iadd, 1) := dc_96 (sg_at zd_dL_law_1178 9 rfl rfl)
theorem dL_law_1190 : decode cL_law 1190 = .ok (.iaload, 1) := dc_46 (sg_at zd_dL_law_1178 10 rfl rfl)
theorem dL_law_1191 : decode cL_law 1191 = .ok (.invokevirtual 137, 3) := dc_182 (sg_at zd_dL_law_1178 11 rfl rfl) rfl
theorem dL_law_1194 : decode cL_law 1194 = .ok (.pop, 1) := dc_87 (sg_at zd_dL_law_1178 12 rfl rfl)
theorem dL_law_1195 : decode cL_law 1195 = .ok (.aload_n 2, 1) := dc_44 (sg_at zd_dL_law_1178 13 rfl rfl)
theorem dL_law_1196 : decode cL_law 1196 = .ok (.aload_n 0, 1) := dc_42 (sg_at zd_dL_law_1178 14 rfl rfl)
theorem dL_law_1197 : decode cL_law 1197 = .ok (.iload 4, 2) := dc_21 (sg_at zd_dL_law_1178 15 rfl rfl)
theorem dL_law_1199 : decode cL_law 1199 = .ok (.iconst 1, 1) := dc_4 (sg_at zd_dL_law_1178 16 rfl rfl)
theorem dL_law_1200 : decode cL_law 1200 = .ok (.iadd, 1) := dc_96 (sg_at zd_dL_law_1178 17 rfl rfl)
theorem dL_law_1201 : decode cL_law 1201 = .ok (.iaload, 1) := dc_46 (sg_at zd_dL_law_1178 18 rfl rfl)
theorem dL_law_1202 : decode cL_law 1202 = .ok (.aload_n 0, 1) := dc_42 (sg_at zd_dL_law_1178 19 rfl rfl)
theorem zd_dL_law_1203 : sg (cL_law.data.toList.drop 1203) [[21, 4], [5], [96], [46], [182, 0, 140], [87], [167, 1, 58], [43], [42], [21, 4], [4], [96], [46], [182, 0, 141], [87], [44], [42], [21, 4], [4], [96]] = true := by decide +kernel
theorem dL_law_1203 : decode cL_law 1203 = .ok (.iload 4, 2) := dc_21 (sg_at zd_dL_law_1203 0 rfl rfl)
theorem dL_law_1205 : decode cL_law 1205 = .ok (.iconst 2, 1) := dc_5 (sg_at zd_dL_law_1203 1 rfl rfl)
theorem dL_law_1206 : decode cL_law 1206 = .ok (.iadd, 1) := dc_96 (sg_at zd_dL_law_1203 2 rfl rfl)
theorem dL_law_1207 : decode cL_law 1207 = .ok (.iaload, 1) := dc_46 (sg_at zd_dL_law_1203 3 rfl rfl)
theorem dL_law_1208 : decode cL_law 1208 = .ok (.invokevirtual 140, 3) := dc_182 (sg_at zd_dL_law_1203 4 rfl rfl) rfl
theorem dL_law_1211 : decode cL_law 1211 = .ok (.pop, 1) := dc_87 (sg_at zd_dL_law_1203 5 rfl rfl)
theorem dL_law_1212 : decode cL_law 1212 = .ok (.goto 314, 3) := dc_167 (sg_at zd_dL_law_1203 6 rfl rfl) rfl
theorem dL_law_1215 : decode cL_law 1215 = .ok (.aload_n 1, 1) := dc_43 (sg_at zd_dL_law_1203 7 rfl rfl)
theorem dL_law_1216 : decode cL_law 1216 = .ok (.aload_n 0, 1) := dc_42 (sg_at zd_dL_law_1203 8 rfl rfl)
theorem dL_law_1217 : decode cL_law 1217 = .ok (.iload 4, 2) := dc_21 (sg_at zd_dL_law_1203 9 rfl rfl)
theorem dL_law_1219 : decode cL_law 1219 = .ok (.iconst 1, 1) := dc_4 (sg_at zd_dL_law_1203 10 rfl rfl)
theorem dL_law_1220 : decode cL_law 1220 = .ok (.iadd, 1) := dc_96 (sg_at zd_dL_law_1203 11 rfl rfl)
theorem dL_law_1221 : decode cL_law 1221 = .ok (.iaload, 1) := dc_46 (sg_at zd_dL_law_1203 12 rfl rfl)
theorem dL_law_1222 : decode cL_law 1222 = .ok (.invokevirtual 141, 3) := dc_182 (sg_at zd_dL_law_1203 13 rfl rfl) rfl
theorem dL_law_1225 : decode cL_law 1225 = .ok (.pop, 1) := dc_87 (sg_at zd_dL_law_1203 14 rfl rfl)
theorem dL_law_1226 : decode cL_law 1226 = .ok (.aload_n 2, 1) := dc_44 (sg_at zd_dL_law_1203 15 rfl rfl)
theorem dL_law_1227 : decode cL_law 1227 = .ok (.aload_n 0, 1) := dc_42 (sg_at zd_dL_law_1203 16 rfl rfl)
theorem dL_law_1228 : decode cL_law 1228 = .ok (.iload 4, 2) := dc_21 (sg_at zd_dL_law_1203 17 rfl rfl)
theorem dL_law_1230 : decode cL_law 1230 = .ok (.iconst 1, 1) := dc_4 (sg_at zd_dL_law_1203 18 rfl rfl)
theorem dL_law_1231 : decode cL_law 1231 = .ok (.iadd, 1) := dc_96 (sg_at zd_dL_law_1203 19 rfl rfl)
theorem zd_dL_law_1232 : sg (cL_law.data.toList.drop 1232) [[46], [182, 0, 144], [87], [167, 1, 33], [43], [42], [21, 4], [4], [96], [46], [42], [21, 4], [5], [96], [46], [42], [21, 4], [6], [96], [46]] = true := by decide +kernel
theorem dL_law_1232 : decode cL_law 1232 = .ok (.iaload, 1) := dc_46 (sg_at zd_dL_law_1232 0 rfl rfl)
theorem dL_law_1233 : decode cL_law 1233 = .ok (.invokevirtual 144, 3) := dc_182 (sg_at zd_dL_law_1232 1 rfl rfl) rfl
theorem dL_law_1236 : decode cL_law 1236 = .ok (.pop, 1) := dc_87 (sg_at zd_dL_law_1232 2 rfl rfl)
theorem dL_law_1237 : decode cL_law 1237 = .ok (.goto 289, 3) := dc_167 (sg_at zd_dL_law_1232 3 rfl rfl) rfl
theorem dL_law_1240 : decode cL_law 1240 = .ok (.aload_n 1, 1) := dc_43 (sg_at zd_dL_law_1232 4 rfl rfl)
theorem dL_law_1241 : decode cL_law 1241 = .ok (.aload_n 0, 1) := dc_42 (sg_at zd_dL_law_1232 5 rfl rfl)
theorem dL_law_1242 : decode cL_law 1242 = .ok (.iload 4, 2) := dc_21 (sg_at zd_dL_law_1232 6 rfl rfl)
theorem dL_law_1244 : decode cL_law 1244 = .ok (.iconst 1, 1) := dc_4 (sg_at zd_dL_law_1232 7 rfl rfl)
theorem dL_law_1245 : decode cL_law 1245 = .ok (.iadd, 1) := dc_96 (sg_at zd_dL_law_1232 8 rfl rfl)
theorem dL_law_1246 : decode cL_law 1246 = .ok (.iaload, 1) := dc_46 (sg_at zd_dL_law_1232 9 rfl rfl)
theorem dL_law_1247 : decode cL_law 1247 = .ok (.aload_n 0, 1) := dc_42 (sg_at zd_dL_law_1232 10 rfl rfl)
theorem dL_law_1248 : decode cL_law 1248 = .ok (.iload 4, 2) := dc_21 (sg_at zd_dL_law_1232 11 rfl rfl)
theorem dL_law_1250 : decode cL_law 1250 = .ok (.iconst 2, 1) := dc_5 (sg_at zd_dL_law_1232 12 rfl rfl)
theorem dL_law_1251 : decode cL_law 1251 = .ok (.iadd, 1) := dc_96 (sg_at zd_dL_law_1232 13 rfl rfl)
theorem dL_law_1252 : decode cL_law 1252 = .ok (.iaload, 1) := dc_46 (sg_at zd_dL_law_1232 14 rfl rfl)
theorem dL_law_1253 : decode cL_law 1253 = .ok (.aload_n 0, 1) := dc_42 (sg_at zd_dL_law_1232 15 rfl rfl)
theorem dL_law_1254 : decode cL_law 1254 = .ok (.iload 4, 2) := dc_21 (sg_at zd_dL_law_1232 16 rfl rfl)
theorem dL_law_1256 : decode cL_law 1256 = .ok (.iconst 3, 1) := dc_6 (sg_at zd_dL_law_1232 17 rfl rfl)
theorem dL_law_1257 : decode cL_law 1257 = .ok (.iadd, 1) := dc_96 (sg_at zd_dL_law_1232 18 rfl rfl)
theorem dL_law_1258 : decode cL_law 1258 = .ok (.iaload, 1) := dc_46 (sg_at zd_dL_law_1232 19 rfl rfl)
theorem zd_dL_law_1259 : sg (cL_law.data.toList.drop 1259) [[182, 0, 145], [87], [44], [42], [21, 4], [4], [96], [46], [42], [21, 4], [5], [96], [46], [42], [21, 4], [6], [96], [46], [182, 0, 148], [87]] = true := by decide +kernel
theorem dL_law_1259 : decode cL_law 1259 = .ok (.invokevirtual 145, 3) := dc_182 (sg_at zd_dL_law_1259 0 rfl rfl) rfl
theorem dL_law_1262 : decode cL_law 1262 = .ok (.pop, 1) := dc_87 (sg_at zd_dL_law_1259 1 rfl rfl)
theorem dL_law_1263 : decode cL_law 1263 = .ok (.aload_n 2, 1) := dc_44 (sg_at zd_dL_law_1259 2 rfl rfl)
theorem dL_law_1264 : decode cL_law 1264 = .ok (.aload_n 0, 1) := dc_42 (sg_at zd_dL_law_1259 3 rfl rfl)
theorem dL_law_1265 : decode cL_law 1265 = .ok (.iload 4, 2) := dc_21 (sg_at zd_dL_law_1259 4 rfl rfl)
theorem dL_law_1267 : decode cL_law 1267 = .ok (.iconst 1, 1) := dc_4 (sg_at zd_dL_law_1259 5 rfl rfl)
theorem dL_law_1268 : decode cL_law 1268 = .ok (.iadd, 1) := dc_96 (sg_at zd_dL_law_1259 6 rfl rfl)
theorem dL_law_1269 : decode cL_law 1269 = .ok (.iaload, 1) := dc_46 (sg_at zd_dL_law_1259 7 rfl rfl)
theorem dL_law_1270 : decode cL_law 1270 = .ok (.aload_n 0, 1) := dc_42 (sg_at zd_dL_law_1259 8 rfl rfl)
theorem dL_law_1271 : decode cL_law 1271 = .ok (.iload 4, 2) := dc_21 (sg_at zd_dL_law_1259 9 rfl rfl)
theorem dL_law_1273 : decode cL_law 1273 = .ok (.iconst 2, 1) := dc_5 (sg_at zd_dL_law_1259 10 rfl rfl)
theorem dL_law_1274 : decode cL_law 1274 = .ok (.iadd, 1) := dc_96 (sg_at zd_dL_law_1259 11 rfl rfl)
theorem dL_law_1275 : decode cL_law 1275 = .ok (.iaload, 1) := dc_46 (sg_at zd_dL_law_1259 12 rfl rfl)
theorem dL_law_1276 : decode cL_law 1276 = .ok (.aload_n 0, 1) := dc_42 (sg_at zd_dL_law_1259 13 rfl rfl)
theorem dL_law_1277 : decode cL_law 1277 = .ok (.iload 4, 2) := dc_21 (sg_at zd_dL_law_1259 14 rfl rfl)
theorem dL_law_1279 : decode cL_law 1279 = .ok (.iconst 3, 1) := dc_6 (sg_at zd_dL_law_1259 15 rfl rfl)
theorem dL_law_1280 : decode cL_law 1280 = .ok (.iadd, 1) := dc_96 (sg_at zd_dL_law_1259 16 rfl rfl)
theorem dL_law_1281 : decode cL_law 1281 = .ok (.iaload, 1) := dc_46 (sg_at zd_dL_law_1259 17 rfl rfl)
theorem dL_law_1282 : decode cL_law 1282 = .ok (.invokevirtual 148, 3) := dc_182 (sg_at zd_dL_law_1259 18 rfl rfl) rfl
theorem dL_law_1285 : decode cL_law 1285 = .ok (.pop, 1) := dc_87 (sg_at zd_dL_law_1259 19 rfl rfl)
theorem zd_dL_law_1286 : sg (cL_law.data.toList.drop 1286) [[167, 0, 240], [43], [42], [21, 4], [4], [96], [46], [182, 0, 149], [87], [44], [42], [21, 4], [4], [96], [46], [182, 0, 152], [87], [167, 0, 215], [43], [42]] = true := by decide +kernel
theorem dL_law_1286 : decode cL_law 1286 = .ok (.goto 240, 3) := dc_167 (sg_at zd_dL_law_1286 0 rfl rfl) rfl
theorem dL_law_1289 : decode cL_law 1289 = .ok (.aload_n 1, 1) := dc_43 (sg_at zd_dL_law_1286 1 rfl rfl)
theorem dL_law_1290 : decode cL_law 1290 = .ok (.aload_n 0, 1) := dc_42 (sg_at zd_dL_law_1286 2 rfl rfl)
theorem dL_law_1291 : decode cL_law 1291 = .ok (.iload 4, 2) := dc_21 (sg_at zd_dL_law_1286 3 rfl rfl)
theorem dL_law_1293 : decode cL_law 1293 = .ok (.iconst 1, 1) := dc_4 (sg_at zd_dL_law_1286 4 rfl rfl)
theorem dL_law_1294 : decode cL_law 1294 = .ok (.iadd, 1) := dc_96 (sg_at zd_dL_law_1286 5 rfl rfl)
theorem dL_law_1295 : decode cL_law 1295 = .ok (.iaload, 1) := dc_46 (sg_at zd_dL_law_1286 6 rfl rfl)
theorem dL_law_1296 : decode cL_law 1296 = .ok (.invokevirtual 149, 3) := dc_182 (sg_at zd_dL_law_1286 7 rfl rfl) rfl
theorem dL_law_1299 : decode cL_law 1299 = .ok (.pop, 1) := dc_87 (sg_at zd_dL_law_1286 8 rfl rfl)
theorem dL_law_1300 : decode cL_law 1300 = .ok (.aload_n 2, 1) := dc_44 (sg_at zd_dL_law_1286 9 rfl rfl)
theorem dL_law_1301 : decode cL_law 1301 = .ok (.aload_n 0, 1) := dc_42 (sg_at zd_dL_law_1286 10 rfl rfl)
theorem dL_law_1302 : decode cL_law 1302 = .ok (.iload 4, 2) := dc_21 (sg_at zd_dL_law_1286 11 rfl rfl)
theorem dL_law_1304 : decode cL_law 1304 = .ok (.iconst 1, 1) := dc_4 (sg_at zd_dL_law_1286 12 rfl rfl)
theorem dL_law_1305 : decode cL_law 1305 = .ok (.iadd, 1) := dc_96 (sg_at zd_dL_law_1286 13 rfl rfl)
theorem dL_law_1306 : decode cL_law 1306 = .ok (.iaload, 1) := dc_46 (sg_at zd_dL_law_1286 14 rfl rfl)
theorem dL_law_1307 : decode cL_law 1307 = .ok (.invokevirtual 152, 3) := dc_182 (sg_at zd_dL_law_1286 15 rfl rfl) rfl
theorem dL_law_1310 : decode cL_law 1310 = .ok (.pop, 1) := dc_87 (sg_at zd_dL_law_1286 16 rfl rfl)
theorem dL_law_1311 : decode cL_law 1311 = .ok (.goto 215, 3) := dc_167 (sg_at zd_dL_law_1286 17 rfl rfl) rfl
theorem dL_law_1314 : decode cL_law 1314 = .ok (.aload_n 1, 1) := dc_43 (sg_at zd_dL_law_1286 18 rfl rfl)
theorem dL_law_1315 : decode cL_law 1315 = .ok (.aload_n 0, 1) := dc_42 (sg_at zd_dL_law_1286 19 rfl rfl)
theorem zd_dL_law_1316 : sg (cL_law.data.toList.drop 1316) [[21, 4], [4], [96], [46], [182, 0, 153], [87], [44], [42], [21, 4], [4], [96], [46], [182, 0, 156], [87], [167, 0, 190], [43], [42], [21, 4], [4], [96]] = true := by decide +kernel
theorem dL_law_1316 : decode cL_law 1316 = .ok (.iload 4, 2) := dc_21 (sg_at zd_dL_law_1316 0 rfl rfl)
theorem dL_law_1318 : decode cL_law 1318 = .ok (.iconst 1, 1) := dc_4 (sg_at zd_dL_law_1316 1 rfl rfl)
theorem dL_law_1319 : decode cL_law 1319 = .ok (.iadd, 1) := dc_96 (sg_at zd_dL_law_1316 2 rfl rfl)
theorem dL_law_1320 : decode cL_law 1320 = .ok (.iaload, 1) := dc_46 (sg_at zd_dL_law_1316 3 rfl rfl)
theorem dL_law_1321 : decode cL_law 1321 = .ok (.invokevirtual 153, 3) := dc_182 (sg_at zd_dL_law_1316 4 rfl rfl) rfl
theorem dL_law_1324 : decode cL_law 1324 = .ok (.pop, 1) := dc_87 (sg_at zd_dL_law_1316 5 rfl rfl)
theorem dL_law_1325 : decode cL_law 1325 = .ok (.aload_n 2, 1) := dc_44 (sg_at zd_dL_law_1316 6 rfl rfl)
theorem dL_law_1326 : decode cL_law 1326 = .ok (.aload_n 0, 1) := dc_42 (sg_at zd_dL_law_1316 7 rfl rfl)
theorem dL_law_1327 : decode cL_law 1327 = .ok (.iload 4, 2) := dc_21 (sg_at zd_dL_law_1316 8 rfl rfl)
theorem dL_law_1329 : decode cL_law 1329 = .ok (.iconst 1, 1) := dc_4 (sg_at zd_dL_law_1316 9 rfl rfl)
theorem dL_law_1330 : decode cL_law 1330 = .ok (.iadd, 1) := dc_96 (sg_at zd_dL_law_1316 10 rfl rfl)
theorem dL_law_1331 : decode cL_law 1331 = .ok (.iaload, 1) := dc_46 (sg_at zd_dL_law_1316 11 rfl rfl)
theorem dL_law_1332 : decode cL_law 1332 = .ok (.invokevirtual 156, 3) := dc_182 (sg_at zd_dL_law_1316 12 rfl rfl) rfl
theorem dL_law_1335 : decode cL_law 1335 = .ok (.pop, 1) := dc_87 (sg_at zd_dL_law_1316 13 rfl rfl)
theorem dL_law_1336 : decode cL_law 1336 = .ok (.goto 190, 3) := dc_167 (sg_at zd_dL_law_1316 14 rfl rfl) rfl
theorem dL_law_1339 : decode cL_law 1339 = .ok (.aload_n 1, 1) := dc_43 (sg_at zd_dL_law_1316 15 rfl rfl)
theorem dL_law_1340 : decode cL_law 1340 = .ok (.aload_n 0, 1) := dc_42 (sg_at zd_dL_law_1316 16 rfl rfl)
theorem dL_law_1341 : decode cL_law 1341 = .ok (.iload 4, 2) := dc_21 (sg_at zd_dL_law_1316 17 rfl rfl)
theorem dL_law_1343 : decode cL_law 1343 = .ok (.iconst 1, 1) := dc_4 (sg_at zd_dL_law_1316 18 rfl rfl)
theorem dL_law_1344 : decode cL_law 1344 = .ok (.iadd, 1) := dc_96 (sg_at zd_dL_law_1316 19 rfl rfl)
theorem zd_dL_law_1345 : sg (cL_law.data.toList.drop 1345) [[46], [182, 0, 157], [87], [44], [42], [21, 4], [4], [96], [46], [182, 0, 160], [87], [167, 0, 165], [43], [42], [21, 4], [4], [96], [46], [42], [21, 4]] = true := by decide +kernel
theorem dL_law_1345 : decode cL_law 1345 = .ok (.iaload, 1) := dc_46 (sg_at zd_dL_law_1345 0 rfl rfl)
theorem dL_law_1346 : decode cL_law 1346 = .ok (.invokevirtual 157, 3) := dc_182 (sg_at zd_dL_law_1345 1 rfl rfl) rfl
theorem dL_law_1349 : decode cL_law 1349 = .ok (.pop, 1) := dc_87 (sg_at zd_dL_law_1345 2 rfl rfl)
theorem dL_law_1350 : decode cL_law 1350 = .ok (.aload_n 2, 1) := dc_44 (sg_at zd_dL_law_1345 3 rfl rfl)
theorem dL_law_1351 : decode cL_law 1351 = .ok (.aload_n 0, 1) := dc_42 (sg_at zd_dL_law_1345 4 rfl rfl)
theorem dL_law_1352 : decode cL_law 1352 = .ok (.iload 4, 2) := dc_21 (sg_at zd_dL_law_1345 5 rfl rfl)
theorem dL_law_1354 : decode cL_law 1354 = .ok (.iconst 1, 1) := dc_4 (sg_at zd_dL_law_1345 6 rfl rfl)
theorem dL_law_1355 : decode cL_law 1355 = .ok (.iadd, 1) := dc_96 (sg_at zd_dL_law_1345 7 rfl rfl)
theorem dL_law_1356 : decode cL_law 1356 = .ok (.iaload, 1) := dc_46 (sg_at zd_dL_law_1345 8 rfl rfl)
theorem dL_law_1357 : decode cL_law 1357 = .ok (.invokevirtual 160, 3) := dc_182 (sg_at zd_dL_law_1345 9 rfl rfl) rfl
theorem dL_law_1360 : decode cL_law 1360 = .ok (.pop, 1) := dc_87 (sg_at zd_dL_law_1345 10 rfl rfl)
theorem dL_law_1361 : decode cL_law 1361 = .ok (.goto 165, 3) := dc_167 (sg_at zd_dL_law_1345 11 rfl rfl) rfl
theorem dL_law_1364 : decode cL_law 1364 = .ok (.aload_n 1, 1) := dc_43 (sg_at zd_dL_law_1345 12 rfl rfl)
theorem dL_law_1365 : decode cL_law 1365 = .ok (.aload_n 0, 1) := dc_42 (sg_at zd_dL_law_1345 13 rfl rfl)
theorem dL_law_1366 : decode cL_law 1366 = .ok (.iload 4, 2) := dc_21 (sg_at zd_dL_law_1345 14 rfl rfl)
theorem dL_law_1368 : decode cL_law 1368 = .ok (.iconst 1, 1) := dc_4 (sg_at zd_dL_law_1345 15 rfl rfl)
theorem dL_law_1369 : decode cL_law 1369 = .ok (.iadd, 1) := dc_96 (sg_at zd_dL_law_1345 16 rfl rfl)
theorem dL_law_1370 : decode cL_law 1370 = .ok (.iaload, 1) := dc_46 (sg_at zd_dL_law_1345 17 rfl rfl)
theorem dL_law_1371 : decode cL_law 1371 = .ok (.aload_n 0, 1) := dc_42 (sg_at zd_dL_law_1345 18 rfl rfl)
theorem dL_law_1372 : decode cL_law 1372 = .ok (.iload 4, 2) := dc_21 (sg_at zd_dL_law_1345 19 rfl rfl)
theorem zd_dL_law_1374 : sg (cL_law.data.toList.drop 1374) [[5], [96], [46], [42], [21, 4], [6], [96], [46], [182, 0, 161], [87], [44], [42], [21, 4], [4], [96], [46], [42], [21, 4], [5], [96]] = true := by decide +kernel
theorem dL_law_1374 : decode cL_law 1374 = .ok (.iconst 2, 1) := dc_5 (sg_at zd_dL_law_1374 0 rfl rfl)
theorem dL_law_1375 : decode cL_law 1375 = .ok (.iadd, 1) := dc_96 (sg_at zd_dL_law_1374 1 rfl rfl)
theorem dL_law_1376 : decode cL_law 1376 = .ok (.iaload, 1) := dc_46 (sg_at zd_dL_law_1374 2 rfl rfl)
theorem dL_law_1377 : decode cL_law 1377 = .ok (.aload_n 0, 1) := dc_42 (sg_at zd_dL_law_1374 3 rfl rfl)
theorem dL_law_1378 : decode cL_law 1378 = .ok (.iload 4, 2) := dc_21 (sg_at zd_dL_law_1374 4 rfl rfl)
theorem dL_law_1380 : decode cL_law 1380 = .ok (.iconst 3, 1) := dc_6 (sg_at zd_dL_law_1374 5 rfl rfl)
theorem dL_law_1381 : decode cL_law 1381 = .ok (.iadd, 1) := dc_96 (sg_at zd_dL_law_1374 6 rfl rfl)
theorem dL_law_1382 : decode cL_law 1382 = .ok (.iaload, 1) := dc_46 (sg_at zd_dL_law_1374 7 rfl rfl)
theorem dL_law_1383 : decode cL_law 1383 = .ok (.invokevirtual 161, 3) := dc_182 (sg_at zd_dL_law_1374 8 rfl rfl) rfl
theorem dL_law_1386 : decode cL_law 1386 = .ok (.pop, 1) := dc_87 (sg_at zd_dL_law_1374 9 rfl rfl)
theorem dL_law_1387 : decode cL_law 1387 = .ok (.aload_n 2, 1) := dc_44 (sg_at zd_dL_law_1374 10 rfl rfl)
theorem dL_law_1388 : decode cL_law 1388 = .ok (.aload_n 0, 1) := dc_42 (sg_at zd_dL_law_1374 11 rfl rfl)
theorem dL_law_1389 : decode cL_law 1389 = .ok (.iload 4, 2) := dc_21 (sg_at zd_dL_law_1374 12 rfl rfl)
theorem dL_law_1391 : decode cL_law 1391 = .ok (.iconst 1, 1) := dc_4 (sg_at zd_dL_law_1374 13 rfl rfl)
theorem dL_law_1392 : decode cL_law 1392 = .ok (.iadd, 1) := dc_96 (sg_at zd_dL_law_1374 14 rfl rfl)
theorem dL_law_1393 : decode cL_law 1393 = .ok (.iaload, 1) := dc_46 (sg_at zd_dL_law_1374 15 rfl rfl)
theorem dL_law_1394 : decode cL_law 1394 = .ok (.aload_n 0, 1) := dc_42 (sg_at zd_dL_law_1374 16 rfl rfl)
theorem dL_law_1395 : decode cL_law 1395 = .ok (.iload 4, 2) := dc_21 (sg_at zd_dL_law_1374 17 rfl rfl)
theorem dL_law_1397 : decode cL_law 1397 = .ok (.iconst 2, 1) := dc_5 (sg_at zd_dL_law_1374 18 rfl rfl)
theorem dL_law_1398 : decode cL_law 1398 = .ok (.iadd, 1) := dc_96 (sg_at zd_dL_law_1374 19 rfl rfl)
theorem zd_dL_law_1399 : sg (cL_law.data.toList.drop 1399) [[46], [42], [21, 4], [6], [96], [46], [182, 0, 164], [87], [167, 0, 116], [43], [42], [21, 4], [4], [96], [46], [42], [21, 4], [5], [96], [46]] = true := by decide +kernel
theorem dL_law_1399 : decode cL_law 1399 = .ok (.iaload, 1) := dc_46 (sg_at zd_dL_law_1399 0 rfl rfl)
theorem dL_law_1400 : decode cL_law 1400 = .ok (.aload_n 0, 1) := dc_42 (sg_at zd_dL_law_1399 1 rfl rfl)
theorem dL_law_1401 : decode cL_law 1401 = .ok (.iload 4, 2) := dc_21 (sg_at zd_dL_law_1399 2 rfl rfl)
theorem dL_law_1403 : decode cL_law 1403 = .ok (.iconst 3, 1) := dc_6 (sg_at zd_dL_law_1399 3 rfl rfl)
theorem dL_law_1404 : decode cL_law 1404 = .ok (.iadd, 1) := dc_96 (sg_at zd_dL_law_1399 4 rfl rfl)
theorem dL_law_1405 : decode cL_law 1405 = .ok (.iaload, 1) := dc_46 (sg_at zd_dL_law_1399 5 rfl rfl)
theorem dL_law_1406 : decode cL_law 1406 = .ok (.invokevirtual 164, 3) := dc_182 (sg_at zd_dL_law_1399 6 rfl rfl) rfl
theorem dL_law_1409 : decode cL_law 1409 = .ok (.pop, 1) := dc_87 (sg_at zd_dL_law_1399 7 rfl rfl)
theorem dL_law_1410 : decode cL_law 1410 = .ok (.goto 116, 3) := dc_167 (sg_at zd_dL_law_1399 8 rfl rfl) rfl
theorem dL_law_1413 : decode cL_law 1413 = .ok (.aload_n 1, 1) := dc_43 (sg_at zd_dL_law_1399 9 rfl rfl)
theorem dL_law_1414 : decode cL_law 1414 = .ok (.aload_n 0, 1) := dc_42 (sg_at zd_dL_law_1399 10 rfl rfl)
theorem dL_law_1415 : decode cL_law 1415 = .ok (.iload 4, 2) := dc_21 (sg_at zd_dL_law_1399 11 rfl rfl)
theorem dL_law_1417 : decode cL_law 1417 = .ok (.iconst 1, 1) := dc_4 (sg_at zd_dL_law_1399 12 rfl rfl)
theorem dL_law_1418 : decode cL_law 1418 = .ok (.iadd, 1) := dc_96 (sg_at zd_dL_law_1399 13 rfl rfl)
theorem dL_law_1419 : decode cL_law 1419 = .ok (.iaload, 1) := dc_46 (sg_at zd_dL_law_1399 14 rfl rfl)
theorem dL_law_1420 : decode cL_law 1420 = .ok (.aload_n 0, 1) := dc_42 (sg_at zd_dL_law_1399 15 rfl rfl)
theorem dL_law_1421 : decode cL_law 1421 = .ok (.iload 4, 2) := dc_21 (sg_at zd_dL_law_1399 16 rfl rfl)
theorem dL_law_1423 : decode cL_law 1423 = .ok (.iconst 2, 1) := dc_5 (sg_at zd_dL_law_1399 17 rfl rfl)
theorem dL_law_1424 : decode cL_law 1424 = .ok (.iadd, 1) := dc_96 (sg_at zd_dL_law_1399 18 rfl rfl)
theorem dL_law_1425 : decode cL_law 1425 = .ok (.iaload, 1) := dc_46 (sg_at zd_dL_law_1399 19 rfl rfl)
theorem zd_dL_law_1426 : sg (cL_law.data.toList.drop 1426) [[42], [21, 4], [6], [96], [46], [182, 0, 165], [87], [44], [42], [21, 4], [4], [96], [46], [42], [21, 4], [5], [96], [46], [42], [21, 4]] = true := by decide +kernel
theorem dL_law_1426 : decode cL_law 1426 = .ok (.aload_n 0, 1) := dc_42 (sg_at zd_dL_law_1426 0 rfl rfl)
theorem dL_law_1427 : decode cL_law 1427 = .ok (.iload 4, 2) := dc_21 (sg_at zd_dL_law_1426 1 rfl rfl)
theorem dL_law_1429 : decode cL_law 1429 = .ok (.iconst 3, 1) := dc_6 (sg_at zd_dL_law_1426 2 rfl rfl)
theorem dL_law_1430 : decode cL_law 1430 = .ok (.iadd, 1) := dc_96 (sg_at zd_dL_law_1426 3 rfl rfl)
theorem dL_law_1431 : decode cL_law 1431 = .ok (.iaload, 1) := dc_46 (sg_at zd_dL_law_1426 4 rfl rfl)
theorem dL_law_1432 : decode cL_law 1432 = .ok (.invokevirtual 165, 3) := dc_182 (sg_at zd_dL_law_1426 5 rfl rfl) rfl
theorem dL_law_1435 : decode cL_law 1435 = .ok (.pop, 1) := dc_87 (sg_at zd_dL_law_1426 6 rfl rfl)
theorem dL_law_1436 : decode cL_law 1436 = .ok (.aload_n 2, 1) := dc_44 (sg_at zd_dL_law_1426 7 rfl rfl)
theorem dL_law_1437 : decode cL_law 1437 = .ok (.aload_n 0, 1) := dc_42 (sg_at zd_dL_law_1426 8 rfl rfl)
theorem dL_law_1438 : decode cL_law 1438 = .ok (.iload 4, 2) := dc_21 (sg_at zd_dL_law_1426 9 rfl rfl)
theorem dL_law_1440 : decode cL_law 1440 = .ok (.iconst 1, 1) := dc_4 (sg_at zd_dL_law_1426 10 rfl rfl)
theorem dL_law_1441 : decode cL_law 1441 = .ok (.iadd, 1) := dc_96 (sg_at zd_dL_law_1426 11 rfl rfl)
theorem dL_law_1442 : decode cL_law 1442 = .ok (.iaload, 1) := dc_46 (sg_at zd_dL_law_1426 12 rfl rfl)
theorem dL_law_1443 : decode cL_law 1443 = .ok (.aload_n 0, 1) := dc_42 (sg_at zd_dL_law_1426 13 rfl rfl)
theorem dL_law_1444 : decode cL_law 1444 = .ok (.iload 4, 2) := dc_21 (sg_at zd_dL_law_1426 14 rfl rfl)
theorem dL_law_1446 : decode cL_law 1446 = .ok (.iconst 2, 1) := dc_5 (sg_at zd_dL_law_1426 15 rfl rfl)
theorem dL_law_1447 : decode cL_law 1447 = .ok (.iadd, 1) := dc_96 (sg_at zd_dL_law_1426 16 rfl rfl)
theorem dL_law_1448 : decode cL_law 1448 = .ok (.iaload, 1) := dc_46 (sg_at zd_dL_law_1426 17 rfl rfl)
theorem dL_law_1449 : decode cL_law 1449 = .ok (.aload_n 0, 1) := dc_42 (sg_at zd_dL_law_1426 18 rfl rfl)
theorem dL_law_1450 : decode cL_law 1450 = .ok (.iload 4, 2) := dc_21 (sg_at zd_dL_law_1426 19 rfl rfl)
theorem zd_dL_law_1452 : sg (cL_law.data.toList.drop 1452) [[6], [96], [46], [182, 0, 168], [87], [167, 0, 67], [43], [182, 0, 169], [87], [44], [182, 0, 172], [87], [167, 0, 54], [43], [182, 0, 173], [87], [44], [182, 0, 176], [87], [167, 0, 41]] = true := by decide +kernel
theorem dL_law_1452 : decode cL_law 1452 = .ok (.iconst 3, 1) := dc_6 (sg_at zd_dL_law_1452 0 rfl rfl)
theorem dL_law_1453 : decode cL_law 1453 = .ok (.iadd, 1) := dc_96 (sg_at zd_dL_law_1452 1 rfl rfl)
theorem dL_law_1454 : decode cL_law 1454 = .ok (.iaload, 1) := dc_46 (sg_at zd_dL_law_1452 2 rfl rfl)
theorem dL_law_1455 : decode cL_law 1455 = .ok (.invokevirtual 168, 3) := dc_182 (sg_at zd_dL_law_1452 3 rfl rfl) rfl
theorem dL_law_1458 : decode cL_law 1458 = .ok (.pop, 1) := dc_87 (sg_at zd_dL_law_1452 4 rfl rfl)
theorem dL_law_1459 : decode cL_law 1459 = .ok (.goto 67, 3) := dc_167 (sg_at zd_dL_law_1452 5 rfl rfl) rfl
theorem dL_law_1462 : decode cL_law 1462 = .ok (.aload_n 1, 1) := dc_43 (sg_at zd_dL_law_1452 6 rfl rfl)
theorem dL_law_1463 : decode cL_law 1463 = .ok (.invokevirtual 169, 3) := dc_182 (sg_at zd_dL_law_1452 7 rfl rfl) rfl
theorem dL_law_1466 : decode cL_law 1466 = .ok (.pop, 1) := dc_87 (sg_at zd_dL_law_1452 8 rfl rfl)
theorem dL_law_1467 : decode cL_law 1467 = .ok (.aload_n 2, 1) := dc_44 (sg_at zd_dL_law_1452 9 rfl rfl)
theorem dL_law_1468 : decode cL_law 1468 = .ok (.invokevirtual 172, 3) := dc_182 (sg_at zd_dL_law_1452 10 rfl rfl) rfl
theorem dL_law_1471 : decode cL_law 1471 = .ok (.pop, 1) := dc_87 (sg_at zd_dL_law_1452 11 rfl rfl)
theorem dL_law_1472 : decode cL_law 1472 = .ok (.goto 54, 3) := dc_167 (sg_at zd_dL_law_1452 12 rfl rfl) rfl
theorem dL_law_1475 : decode cL_law 1475 = .ok (.aload_n 1, 1) := dc_43 (sg_at zd_dL_law_1452 13 rfl rfl)
theorem dL_law_1476 : decode cL_law 1476 = .ok (.invokevirtual 173, 3) := dc_182 (sg_at zd_dL_law_1452 14 rfl rfl) rfl
theorem dL_law_1479 : decode cL_law 1479 = .ok (.pop, 1) := dc_87 (sg_at zd_dL_law_1452 15 rfl rfl)
theorem dL_law_1480 : decode cL_law 1480 = .ok (.aload_n 2, 1) := dc_44 (sg_at zd_dL_law_1452 16 rfl rfl)
theorem dL_law_1481 : decode cL_law 1481 = .ok (.invokevirtual 176, 3) := dc_182 (sg_at zd_dL_law_1452 17 rfl rfl) rfl
theorem dL_law_1484 : decode cL_law 1484 = .ok (.pop, 1) := dc_87 (sg_at zd_dL_law_1452 18 rfl rfl)
theorem dL_law_1485 : decode cL_law 1485 = .ok (.goto 41, 3) := dc_167 (sg_at zd_dL_law_1452 19 rfl rfl) rfl
theorem zd_dL_law_1488 : sg (cL_law.data.toList.drop 1488) [[43], [182, 0, 177], [87], [44], [182, 0, 180], [87], [167, 0, 28], [43], [42], [21, 4], [4], [96], [46], [182, 0, 181], [44], [42], [21, 4], [4], [96], [46]] = true := by decide +kernel
theorem dL_law_1488 : decode cL_law 1488 = .ok (.aload_n 1, 1) := dc_43 (sg_at zd_dL_law_1488 0 rfl rfl)
theorem dL_law_1489 : decode cL_law 1489 = .ok (.invokevirtual 177, 3) := dc_182 (sg_at zd_dL_law_1488 1 rfl rfl) rfl
theorem dL_law_1492 : decode cL_law 1492 = .ok (.pop, 1) := dc_87 (sg_at zd_dL_law_1488 2 rfl rfl)
theorem dL_law_1493 : decode cL_law 1493 = .ok (.aload_n 2, 1) := dc_44 (sg_at zd_dL_law_1488 3 rfl rfl)
theorem dL_law_1494 : decode cL_law 1494 = .ok (.invokevirtual 180, 3) := dc_182 (sg_at zd_dL_law_1488 4 rfl rfl) rfl
theorem dL_law_1497 : decode cL_law 1497 = .ok (.pop, 1) := dc_87 (sg_at zd_dL_law_1488 5 rfl rfl)
theorem dL_law_1498 : decode cL_law 1498 = .ok (.goto 28, 3) := dc_167 (sg_at zd_dL_law_1488 6 rfl rfl) rfl
theorem dL_law_1501 : decode cL_law 1501 = .ok (.aload_n 1, 1) := dc_43 (sg_at zd_dL_law_1488 7 rfl rfl)
theorem dL_law_1502 : decode cL_law 1502 = .ok (.aload_n 0, 1) := dc_42 (sg_at zd_dL_law_1488 8 rfl rfl)
theorem dL_law_1503 : decode cL_law 1503 = .ok (.iload 4, 2) := dc_21 (sg_at zd_dL_law_1488 9 rfl rfl)
theorem dL_law_1505 : decode cL_law 1505 = .ok (.iconst 1, 1) := dc_4 (sg_at zd_dL_law_1488 10 rfl rfl)
theorem dL_law_1506 : decode cL_law 1506 = .ok (.iadd, 1) := dc_96 (sg_at zd_dL_law_1488 11 rfl rfl)
theorem dL_law_1507 : decode cL_law 1507 = .ok (.iaload, 1) := dc_46 (sg_at zd_dL_law_1488 12 rfl rfl)
theorem dL_law_1508 : decode cL_law 1508 = .ok (.invokevirtual 181, 3) := dc_182 (sg_at zd_dL_law_1488 13 rfl rfl) rfl
theorem dL_law_1511 : decode cL_law 1511 = .ok (.aload_n 2, 1) := dc_44 (sg_at zd_dL_law_1488 14 rfl rfl)
theorem dL_law_1512 : decode cL_law 1512 = .ok (.aload_n 0, 1) := dc_42 (sg_at zd_dL_law_1488 15 rfl rfl)
theorem dL_law_1513 : decode cL_law 1513 = .ok (.iload 4, 2) := dc_21 (sg_at zd_dL_law_1488 16 rfl rfl)
theorem dL_law_1515 : decode cL_law 1515 = .ok (.iconst 1, 1) := dc_4 (sg_at zd_dL_law_1488 17 rfl rfl)
theorem dL_law_1516 : decode cL_law 1516 = .ok (.iadd, 1) := dc_96 (sg_at zd_dL_law_1488 18 rfl rfl)
theorem dL_law_1517 : decode cL_law 1517 = .ok (.iaload, 1) := dc_46 (sg_at zd_dL_law_1488 19 rfl rfl)
theorem zd_dL_law_1518 : sg (cL_law.data.toList.drop 1518) [[182, 0, 184], [159, 0, 5]] = true := by decide +kernel
theorem dL_law_1518 : decode cL_law 1518 = .ok (.invokevirtual 184, 3) := dc_182 (sg_at zd_dL_law_1518 0 rfl rfl) rfl
theorem dL_law_1521 : decode cL_law 1521 = .ok (.if_icmp .eq 5, 3) := dc_159 (sg_at zd_dL_law_1518 1 rfl rfl) rfl
theorem zd_dL_law_1526 : sg (cL_law.data.toList.drop 1526) [[132, 4, 6], [167, 250, 30], [4], [172]] = true := by decide +kernel
theorem dL_law_1526 : decode cL_law 1526 = .ok (.iinc 4 6, 3) := dc_132 (sg_at zd_dL_law_1526 0 rfl rfl) rfl
theorem dL_law_1529 : decode cL_law 1529 = .ok (.goto (-1506), 3) := dc_167 (sg_at zd_dL_law_1526 1 rfl rfl) rfl
theorem dL_law_1532 : decode cL_law 1532 = .ok (.iconst 1, 1) := dc_4 (sg_at zd_dL_law_1526 2 rfl rfl)
theorem dL_law_1533 : decode cL_law 1533 = .ok (.ireturn, 1) := dc_172 (sg_at zd_dL_law_1526 3 rfl rfl)
/-! The cases of the law, but look. -/
/-- the place of out -/
def wO (f : Nat → Int64) : PH := [.inl (3, 1, .inr (.inl f))]
/-- the three worlds between two calls -/
def LW (D : va_G) (cy : Nat → ClassId) (hx hm : PH) (f : Nat → Int64) (s : State) (H : Heap) (locs : List Loc) : Prop := LM D cy s.heap.size 110 hx s H locs ∧ LM D cy (s.heap.size + 110) 43 hm s H locs ∧ LM D cy (s.heap.size + 153) 1 (wO f) s H locs ∧ LRl hx hm
/-- the locals between two calls -/
def LV (b : Nat) (s : State) (i : Int32) : List (Nat × Value) := [(0, .ref b), (1, .ref (s.heap.size + 0)), (2, .ref (s.heap.size + 110 + 0)), (3, .ref (s.heap.size + 153 + 0)), (4, .int i)]
def IN (i : Int32) (L : Nat) : Prop := vp_in i L ∧ vp_in (i + 1) L ∧ vp_in (i + 2) L ∧ vp_in (i + 3) L ∧ vp_in (i + 4) L ∧ vp_in (i + 5) L
theorem gL_11_feed : GoodIn lw_tbl (wsV RL 21 RX11 yX11_feed vX11_feed) := gV_law wT_13_4 wT_13_5 wT_13_6 wT_1_2 wT_13_7
theorem cdL_11_feed : Cd yX11_feed 5 := ⟨by decide, by decide, by decide +kernel⟩
theorem gL_12_feed : GoodIn lw_tbl (wsV RL 25 RX12 yX12_feed vX12_feed) := gV_law wT_13_13 wT_13_14 wT_13_15 wT_1_5 wT_13_16
theorem cdL_12_feed : Cd yX12_feed 5 := ⟨by decide, by decide, by decide +kernel⟩
theorem gL_11_text : GoodIn lw_tbl (wsV RL 26 RX11 yX11_text vX11_text) := gV_law wT_13_19 wT_13_20 wT_13_21 wT_1_2 wT_13_22
theorem cdL_11_text : Cd yX11_text 1 := ⟨by decide, by decide, by decide +kernel⟩
theorem gL_12_text : GoodIn lw_tbl (wsV RL 30 RX12 yX12_text vX12_text) := gV_law wT_26_13 wT_26_14 wT_26_15 wT_1_5 wT_26_16
theorem cdL_12_text : Cd yX12_text 1 := ⟨by decide, by decide, by decide +kernel⟩
theorem gL_11_fault : GoodIn lw_tbl (wsV RL 31 RX11 yX11_fault vX11_fault) := gV_law wT_32_0 wT_32_1 wT_32_2 wT_1_2 wT_32_3
theorem cdL_11_fault : Cd yX11_fault 1 := ⟨by decide, by decide, by decide +kernel⟩
theorem gL_12_fault : GoodIn lw_tbl (wsV RL 34 RX12 yX12_fault vX12_fault) := gV_law wT_32_6 wT_32_7 wT_32_8 wT_1_5 wT_32_9
theorem cdL_12_fault : Cd yX12_fault 1 := ⟨by decide, by decide, by decide +kernel⟩
theorem gL_11_named : GoodIn lw_tbl (wsV RL 35 RX11 yX11_named vX11_named) := gV_law wT_32_10 wT_32_11 wT_32_12 wT_1_2 wT_32_13
theorem cdL_11_named : Cd yX11_named 1 := ⟨by decide, by decide, by decide +kernel⟩
theorem gL_12_named : GoodIn lw_tbl (wsV RL 38 RX12 yX12_named vX12_named) := gV_law wT_32_17 wT_32_18 wT_32_19 wT_1_5 wT_32_20
theorem cdL_12_named : Cd yX12_named 1 := ⟨by decide, by decide, by decide +kernel⟩
theorem gL_11_wave : GoodIn lw_tbl (wsV RL 45 RX11 yX11_wave vX11_wave) := gV_law wT_36_12 wT_36_13 wT_36_14 wT_1_2 wT_36_15
theorem cdL_11_wave : Cd yX11_wave 2 := ⟨by decide, by decide, by decide +kernel⟩
theorem gL_12_wave : GoodIn lw_tbl (wsV RL 48 RX12 yX12_wave vX12_wave) := gV_law wT_37_3 wT_37_4 wT_37_5 wT_1_5 wT_37_6
theorem cdL_12_wave : Cd yX12_wave 2 := ⟨by decide, by decide, by decide +kernel⟩
theorem gL_11_peak : GoodIn lw_tbl (wsV RL 49 RX11 yX11_peak vX11_peak) := gV_law wT_37_11 wT_37_12 wT_37_13 wT_1_2 wT_37_14
theorem cdL_11_peak : Cd yX11_peak 1 := ⟨by decide, by decide, by decide +kernel⟩
theorem gL_12_peak : GoodIn lw_tbl (wsV RL 52 RX12 yX12_peak vX12_peak) := gV_law wT_37_17 wT_37_18 wT_37_19 wT_1_5 wT_37_20
theorem cdL_12_peak : Cd yX12_peak 1 := ⟨by decide, by decide, by decide +kernel⟩
theorem gL_11_odds : GoodIn lw_tbl (wsV RL 53 RX11 yX11_odds vX11_odds) := gV_law wT_37_21 wT_37_22 wT_37_23 wT_1_2 wT_38_0
theorem cdL_11_odds : Cd yX11_odds 3 := ⟨by decide, by decide, by decide +kernel⟩
theorem gL_12_odds : GoodIn lw_tbl (wsV RL 57 RX12 yX12_odds vX12_odds) := gV_law wT_39_13 wT_39_14 wT_39_15 wT_1_5 wT_39_16
theorem cdL_12_odds : Cd yX12_odds 3 := ⟨by decide, by decide, by decide +kernel⟩
theorem gL_11_law : GoodIn lw_tbl (wsV RL 58 RX11 yX11_law vX11_law) := gV_law wT_40_13 wT_40_14 wT_40_15 wT_1_2 wT_40_16
theorem cdL_11_law : Cd yX11_law 3 := ⟨by decide, by decide, by decide +kernel⟩
theorem gL_12_law : GoodIn lw_tbl (wsV RL 62 RX12 yX12_law vX12_law) := gV_law wT_41_3 wT_41_4 wT_41_5 wT_1_5 wT_41_6
theorem cdL_12_law : Cd yX12_law 3 := ⟨by decide, by decide, by decide +kernel⟩
theorem gL_11_stroke : GoodIn lw_tbl (wsV RL 63 RX11 yX11_stroke vX11_stroke) := gV_law wT_41_8 wT_41_9 wT_41_10 wT_1_2 wT_41_11
theorem cdL_11_stroke : Cd yX11_stroke 2 := ⟨by decide, by decide, by decide +kernel⟩
theorem gL_12_stroke : GoodIn lw_tbl (wsV RL 66 RX12 yX12_stroke vX12_stroke) := gV_law wT_42_7 wT_42_8 wT_42_9 wT_1_5 wT_42_10
theorem cdL_12_stroke : Cd yX12_stroke 2 := ⟨by decide, by decide, by decide +kernel⟩
theorem gL_11_rule : GoodIn lw_tbl (wsV RL 67 RX11 yX11_rule vX11_rule) := gV_law wT_42_19 wT_42_20 wT_42_21 wT_1_2 wT_42_22
theorem cdL_11_rule : Cd yX11_rule 1 := ⟨by decide, by decide, by decide +kernel⟩
theorem gL_12_rule : GoodIn lw_tbl (wsV RL 71 RX12 yX12_rule vX12_rule) := gV_law wT_43_4 wT_43_5 wT_43_6 wT_1_5 wT_43_7
theorem cdL_12_rule : Cd yX12_rule 1 := ⟨by decide, by decide, by decide +kernel⟩
theorem gL_11_minutes : GoodIn lw_tbl (wsV RL 72 RX11 yX11_minutes vX11_minutes) := gV_law wT_43_8 wT_43_9 wT_43_10 wT_1_2 wT_43_11
theorem cdL_11_minutes : Cd yX11_minutes 1 := ⟨by decide, by decide, by decide +kernel⟩
theorem gL_12_minutes : GoodIn lw_tbl (wsV RL 75 RX12 yX12_minutes vX12_minutes) := gV_law wT_46_9 wT_46_10 wT_46_11 wT_1_5 wT_46_12
theorem cdL_12_minutes : Cd yX12_minutes 1 := ⟨by decide, by decide, by decide +kernel⟩
theorem gL_11_order : GoodIn lw_tbl (wsV RL 76 RX11 yX11_order vX11_order) := gV_law wT_48_3 wT_48_4 wT_48_5 wT_1_2 wT_48_6
theorem cdL_11_order : Cd yX11_order 2 := ⟨by decide, by decide, by decide +kernel⟩
theorem gL_12_order : GoodIn lw_tbl (wsV RL 79 RX12 yX12_order vX12_order) := gV_law wT_48_13 wT_48_14 wT_48_15 wT_1_5 wT_48_16
theorem cdL_12_order : Cd yX12_order 2 := ⟨by decide, by decide, by decide +kernel⟩
theorem gL_11_deeper : GoodIn lw_tbl (wsV RL 80 RX11 yX11_deeper vX11_deeper) := gV_law wT_48_21 wT_48_22 wT_48_23 wT_1_2 wT_49_0
theorem cdL_11_deeper : Cd yX11_deeper 2 := ⟨by decide, by decide, by decide +kernel⟩
theorem gL_12_deeper : GoodIn lw_tbl (wsV RL 83 RX12 yX12_deeper vX12_deeper) := gV_law wT_49_1 wT_49_2 wT_49_3 wT_1_5 wT_49_4
theorem cdL_12_deeper : Cd yX12_deeper 2 := ⟨by decide, by decide, by decide +kernel⟩
theorem gL_11_seat : GoodIn lw_tbl (wsV RL 84 RX11 yX11_seat vX11_seat) := gV_law wT_49_5 wT_49_6 wT_49_7 wT_1_2 wT_49_8
theorem cdL_11_seat : Cd yX11_seat 2 := ⟨by decide, by decide, by decide +kernel⟩
theorem gL_12_seat : GoodIn lw_tbl (wsV RL 87 RX12 yX12_seat vX12_seat) := gV_law wT_49_21 wT_49_22 wT_49_23 wT_1_5 wT_50_0
theorem cdL_12_seat : Cd yX12_seat 2 := ⟨by decide, by decide, by decide +kernel⟩
theorem gL_11_best : GoodIn lw_tbl (wsV RL 88 RX11 yX11_best vX11_best) := gV_law wT_50_9 wT_50_10 wT_50_11 wT_1_2 wT_50_12
theorem cdL_11_best : Cd yX11_best 1 := ⟨by decide, by decide, by decide +kernel⟩
theorem gL_12_best : GoodIn lw_tbl (wsV RL 91 RX12 yX12_best vX12_best) := gV_law wT_50_13 wT_50_14 wT_50_15 wT_1_5 wT_50_16
theorem cdL_12_best : Cd yX12_best 1 := ⟨by decide, by decide, by decide +kernel⟩
theorem gL_11_rests : GoodIn lw_tbl (wsV RL 92 RX11 yX11_rests vX11_rests) := gV_law wT_50_17 wT_50_18 wT_50_19 wT_1_2 wT_50_20
theorem cdL_11_rests : Cd yX11_rests 2 := ⟨by decide, by decide, by decide +kernel⟩
theorem gL_12_rests : GoodIn lw_tbl (wsV RL 95 RX12 yX12_rests vX12_rests) := gV_law wT_52_4 wT_52_5 wT_52_6 wT_1_5 wT_52_7
theorem cdL_12_rests : Cd yX12_rests 2 := ⟨by decide, by decide, by decide +kernel⟩
theorem gL_11_rest : GoodIn lw_tbl (wsV RL 96 RX11 yX11_rest vX11_rest) := gV_law wT_53_3 wT_53_4 wT_53_5 wT_1_2 wT_53_6
theorem cdL_11_rest : Cd yX11_rest 3 := ⟨by decide, by decide, by decide +kernel⟩
theorem gL_12_rest : GoodIn lw_tbl (wsV RL 99 RX12 yX12_rest vX12_rest) := gV_law wT_53_8 wT_53_9 wT_53_10 wT_1_5 wT_53_11
theorem cdL_12_rest : Cd yX12_rest 3 := ⟨by decide, by decide, by decide +kernel⟩
theorem gL_11_rank : GoodIn lw_tbl (wsV RL 100 RX11 yX11_rank vX11_rank) := gV_law wT_53_12 wT_53_13 wT_53_14 wT_1_2 wT_53_15
theorem cdL_11_rank : Cd yX11_rank 2 := ⟨by decide, by decide, by decide +kernel⟩
theorem gL_12_rank_ : GoodIn lw_tbl (wsV RL 103 RX12 yX12_rank_ vX12_rank_) := gV_law wT_54_1 wT_54_2 wT_54_3 wT_1_5 wT_54_4
theorem cdL_12_rank_ : Cd yX12_rank_ 2 := ⟨by decide, by decide, by decide +kernel⟩
theorem gL_11_plan : GoodIn lw_tbl (wsV RL 104 RX11 yX11_plan vX11_plan) := gV_law wT_54_9 wT_54_10 wT_54_11 wT_1_2 wT_54_12
theorem cdL_11_plan : Cd yX11_plan 1 := ⟨by decide, by decide, by decide +kernel⟩
theorem gL_12_plan : GoodIn lw_tbl (wsV RL 107 RX12 yX12_plan vX12_plan) := gV_law wT_55_3 wT_55_4 wT_55_5 wT_1_5 wT_55_6
theorem cdL_12_plan : Cd yX12_plan 1 := ⟨by decide, by decide, by decide +kernel⟩
theorem gL_11_planned : GoodIn lw_tbl (wsV RL 108 RX11 yX11_planned vX11_planned) := gV_law wT_55_15 wT_55_16 wT_55_17 wT_1_2 wT_55_18
theorem cdL_11_planned : Cd yX11_planned 2 := ⟨by decide, by decide, by decide +kernel⟩
theorem gL_12_planned : GoodIn lw_tbl (wsV RL 111 RX12 yX12_planned vX12_planned) := gV_law wT_55_21 wT_55_22 wT_55_23 wT_1_5 wT_56_0
theorem cdL_12_planned : Cd yX12_planned 2 := ⟨by decide, by decide, by decide +kernel⟩
theorem gL_11_go : GoodIn lw_tbl (wsV RL 112 RX11 yX11_go vX11_go) := gV_law wT_56_1 wT_56_2 wT_56_3 wT_1_2 wT_56_4
theorem cdL_11_go : Cd yX11_go 3 := ⟨by decide, by decide, by decide +kernel⟩
theorem gL_12_go : GoodIn lw_tbl (wsV RL 115 RX12 yX12_go vX12_go) := gV_law wT_56_11 wT_56_12 wT_56_13 wT_1_5 wT_56_14
theorem cdL_12_go : Cd yX12_go 3 := ⟨by decide, by decide, by decide +kernel⟩
theorem gL_11_give : GoodIn lw_tbl (wsV RL 116 RX11 yX11_give vX11_give) := gV_law wT_56_15 wT_56_16 wT_56_17 wT_1_2 wT_56_18
theorem cdL_11_give : Cd yX11_give 3 := ⟨by decide, by decide, by decide +kernel⟩
theorem gL_12_give : GoodIn lw_tbl (wsV RL 119 RX12 yX12_give vX12_give) := gV_law wT_56_20 wT_56_21 wT_56_22 wT_1_5 wT_56_23
theorem cdL_12_give : Cd yX12_give 3 := ⟨by decide, by decide, by decide +kernel⟩
theorem gL_11_table : GoodIn lw_tbl (wsV RL 120 RX11 yX11_table vX11_table) := gV_law wT_57_0 wT_57_1 wT_57_2 wT_1_2 wT_57_3
theorem cdL_11_table : Cd yX11_table 3 := ⟨by decide, by decide, by decide +kernel⟩
theorem gL_12_table : GoodIn lw_tbl (wsV RL 123 RX12 yX12_table vX12_table) := gV_law wT_58_1 wT_58_2 wT_58_3 wT_1_5 wT_58_4
theorem cdL_12_table : Cd yX12_table 3 := ⟨by decide, by decide, by decide +kernel⟩
theorem gL_11_fairest : GoodIn lw_tbl (wsV RL 124 RX11 yX11_fairest vX11_fairest) := gV_law wT_58_21 wT_58_22 wT_58_23 wT_1_2 wT_59_0
theorem cdL_11_fairest : Cd yX11_fairest 1 := ⟨by decide, by decide, by decide +kernel⟩
theorem gL_12_fairest : GoodIn lw_tbl (wsV RL 127 RX12 yX12_fairest vX12_fairest) := gV_law wT_59_1 wT_59_2 wT_59_3 wT_1_5 wT_59_4
theorem cdL_12_fairest : Cd yX12_fairest 1 := ⟨by decide, by decide, by decide +kernel⟩
theorem gL_11_over : GoodIn lw_tbl (wsV RL 128 RX11 yX11_over vX11_over) := gV_law wT_59_5 wT_59_6 wT_59_7 wT_1_2 wT_59_8
theorem cdL_11_over : Cd yX11_over 1 := ⟨by decide, by decide, by decide +kernel⟩
theorem gL_12_over : GoodIn lw_tbl (wsV RL 131 RX12 yX12_over vX12_over) := gV_law wT_59_15 wT_59_16 wT_59_17 wT_1_5 wT_59_18
theorem cdL_12_over : Cd yX12_over 1 := ⟨by decide, by decide, by decide +kernel⟩
theorem gL_11_next : GoodIn lw_tbl (wsV RL 132 RX11 yX11_next vX11_next) := gV_law wT_59_19 wT_59_20 wT_59_21 wT_1_2 wT_59_22
theorem cdL_11_next : Cd yX11_next 0 := ⟨by decide, by decide, by decide +kernel⟩
theorem gL_12_next : GoodIn lw_tbl (wsV RL 136 RX12 yX12_next vX12_next) := gV_law wT_60_4 wT_60_5 wT_60_6 wT_1_5 wT_60_7
theorem cdL_12_next : Cd yX12_next 0 := ⟨by decide, by decide, by decide +kernel⟩
theorem gL_11_gaps : GoodIn lw_tbl (wsV RL 137 RX11 yX11_gaps vX11_gaps) := gV_law wT_60_8 wT_60_9 wT_60_10 wT_1_2 wT_60_11
theorem cdL_11_gaps : Cd yX11_gaps 2 := ⟨by decide, by decide, by decide +kernel⟩
theorem gL_12_gaps : GoodIn lw_tbl (wsV RL 140 RX12 yX12_gaps vX12_gaps) := gV_law wT_60_13 wT_60_14 wT_60_15 wT_1_5 wT_60_16
theorem cdL_12_gaps : Cd yX12_gaps 2 := ⟨by decide, by decide, by decide +kernel⟩
theorem gL_11_shares : GoodIn lw_tbl (wsV RL 141 RX11 yX11_shares vX11_shares) := gV_law wT_60_17 wT_60_18 wT_60_19 wT_1_2 wT_60_20
theorem cdL_11_shares : Cd yX11_shares 1 := ⟨by decide, by decide, by decide +kernel⟩
theorem gL_12_shares : GoodIn lw_tbl (wsV RL 144 RX12 yX12_shares vX12_shares) := gV_law wT_61_1 wT_61_2 wT_61_3 wT_1_5 wT_61_4
theorem cdL_12_shares : Cd yX12_shares 1 := ⟨by decide, by decide, by decide +kernel⟩
theorem gL_11_note : GoodIn lw_tbl (wsV RL 145 RX11 yX11_note vX11_note) := gV_law wT_61_9 wT_61_10 wT_61_11 wT_1_2 wT_61_12
theorem cdL_11_note : Cd yX11_note 3 := ⟨by decide, by decide, by decide +kernel⟩
theorem gL_12_note : GoodIn lw_tbl (wsV RL 148 RX12 yX12_note vX12_note) := gV_law wT_61_18 wT_61_19 wT_61_20 wT_1_5 wT_61_21
theorem cdL_12_note : Cd yX12_note 3 := ⟨by decide, by decide, by decide +kernel⟩
theorem gL_11_strike : GoodIn lw_tbl (wsV RL 149 RX11 yX11_strike vX11_strike) := gV_law wT_62_2 wT_62_3 wT_62_4 wT_1_2 wT_62_5
theorem cdL_11_strike : Cd yX11_strike 1 := ⟨by decide, by decide, by decide +kernel⟩
theorem gL_12_strike : GoodIn lw_tbl (wsV RL 152 RX12 yX12_strike vX12_strike) := gV_law wT_62_10 wT_62_11 wT_62_12 wT_1_5 wT_62_13
theorem cdL_12_strike : Cd yX12_strike 1 := ⟨by decide, by decide, by decide +kernel⟩
theorem gL_11_known : GoodIn lw_tbl (wsV RL 153 RX11 yX11_known vX11_known) := gV_law wT_62_14 wT_62_15 wT_62_16 wT_1_2 wT_62_17
theorem cdL_11_known : Cd yX11_known 1 := ⟨by decide, by decide, by decide +kernel⟩
theorem gL_12_known : GoodIn lw_tbl (wsV RL 156 RX12 yX12_known vX12_known) := gV_law wT_62_18 wT_62_19 wT_62_20 wT_1_5 wT_62_21
theorem cdL_12_known : Cd yX12_known 1 := ⟨by decide, by decide, by decide +kernel⟩
theorem gL_11_locals : GoodIn lw_tbl (wsV RL 157 RX11 yX11_locals vX11_locals) := gV_law wT_62_22 wT_62_23 wT_63_0 wT_1_2 wT_63_1
theorem cdL_11_locals : Cd yX11_locals 1 := ⟨by decide, by decide, by decide +kernel⟩
theorem gL_12_locals : GoodIn lw_tbl (wsV RL 160 RX12 yX12_locals vX12_locals) := gV_law wT_63_20 wT_63_21 wT_63_22 wT_1_5 wT_63_23
theorem cdL_12_locals : Cd yX12_locals 1 := ⟨by decide, by decide, by decide +kernel⟩
theorem gL_11_chance : GoodIn lw_tbl (wsV RL 161 RX11 yX11_chance vX11_chance) := gV_law wT_64_8 wT_64_9 wT_64_10 wT_1_2 wT_64_11
theorem cdL_11_chance : Cd yX11_chance 3 := ⟨by decide, by decide, by decide +kernel⟩
theorem gL_12_chance : GoodIn lw_tbl (wsV RL 164 RX12 yX12_chance vX12_chance) := gV_law wT_64_13 wT_64_14 wT_64_15 wT_1_5 wT_64_16
theorem cdL_12_chance : Cd yX12_chance 3 := ⟨by decide, by decide, by decide +kernel⟩
theorem gL_11_tried : GoodIn lw_tbl (wsV RL 165 RX11 yX11_tried vX11_tried) := gV_law wT_64_17 wT_64_18 wT_64_19 wT_1_2 wT_64_20
theorem cdL_11_tried : Cd yX11_tried 3 := ⟨by decide, by decide, by decide +kernel⟩
theorem gL_12_tried : GoodIn lw_tbl (wsV RL 168 RX12 yX12_tried vX12_tried) := gV_law wT_66_2 wT_66_3 wT_66_4 wT_1_5 wT_66_5
theorem cdL_12_tried : Cd yX12_tried 3 := ⟨by decide, by decide, by decide +kernel⟩
theorem gL_11_undo : GoodIn lw_tbl (wsV RL 169 RX11 yX11_undo vX11_undo) := gV_law wT_66_6 wT_66_7 wT_66_8 wT_1_2 wT_66_9
theorem cdL_11_undo : Cd yX11_undo 0 := ⟨by decide, by decide, by decide +kernel⟩
theorem gL_12_undo : GoodIn lw_tbl (wsV RL 172 RX12 yX12_undo vX12_undo) := gV_law wT_66_12 wT_66_13 wT_66_14 wT_1_5 wT_66_15
theorem cdL_12_undo : Cd yX12_undo 0 := ⟨by decide, by decide, by decide +kernel⟩
theorem gL_11_keep : GoodIn lw_tbl (wsV RL 173 RX11 yX11_keep vX11_keep) := gV_law wT_66_16 wT_66_17 wT_66_18 wT_1_2 wT_66_19
theorem cdL_11_keep : Cd yX11_keep 0 := ⟨by decide, by decide, by decide +kernel⟩
theorem gL_12_keep : GoodIn lw_tbl (wsV RL 176 RX12 yX12_keep vX12_keep) := gV_law wT_66_21 wT_66_22 wT_66_23 wT_1_5 wT_67_0
theorem cdL_12_keep : Cd yX12_keep 0 := ⟨by decide, by decide, by decide +kernel⟩
theorem gL_11_back : GoodIn lw_tbl (wsV RL 177 RX11 yX11_back vX11_back) := gV_law wT_67_6 wT_67_7 wT_67_8 wT_1_2 wT_67_9
theorem cdL_11_back : Cd yX11_back 0 := ⟨by decide, by decide, by decide +kernel⟩
theorem gL_12_back : GoodIn lw_tbl (wsV RL 180 RX12 yX12_back vX12_back) := gV_law wT_67_10 wT_67_11 wT_67_12 wT_1_5 wT_67_13
theorem cdL_12_back : Cd yX12_back 0 := ⟨by decide, by decide, by decide +kernel⟩
theorem gL_11_count : GoodIn lw_tbl (wsV RL 181 RX11 yX11_count vX11_count) := gV_law wT_67_14 wT_67_15 wT_67_16 wT_1_2 wT_67_17
theorem cdL_11_count : Cd yX11_count 1 := ⟨by decide, by decide, by decide +kernel⟩
theorem gL_12_count : GoodIn lw_tbl (wsV RL 184 RX12 yX12_count vX12_count) := gV_law wT_67_20 wT_67_21 wT_67_22 wT_1_5 wT_67_23
theorem cdL_12_count : Cd yX12_count 1 := ⟨by decide, by decide, by decide +kernel⟩
section LC
variable {p : Program} {l : Launch} {e : Env} {s : State} {m : MethodId} {below : List Frame} {meth : Method} {c : Code} {b L : Nat} {xs : Nat → Int32} {D : va_G} {cy : Nat → ClassId} {H : Heap} {locs : List Loc} {ls : Array Slot}
set_option maxHeartbeats 1000000 in
theorem lc_212 (S : CallFix p m c cL_law 7 s #[Value.ref b] lw_tbl RL) (hX : va_X b L xs s s.heap) (hbl : b < s.heap.size) {hx hm : PH} {f : Nat → Int64} (I : LW D cy hx hm f s H locs) {i : Int32} (hin : IN i L) {cl sl : Nat} (hc : cl ≤ 1000 ∧ sl ≤ 20000) (hl : lv_has ls 7 (LV b s i)) (K : ∀ (hx' hm' : PH) (f' : Nat → Int64) (H' : Heap) (locs' : List Loc) (ls' : Array Slot), LW D cy hx' hm' f' s H' locs' → lv_has ls' 7 (LV b s i) → W p l e room_1 s m #[Value.ref b] below meth c H' locs' (cl + 1) (sl + 6) (lw_Z below #[Value.ref b] s) (F0 m 1526 ls' [])) : W p l e room_1 s m #[Value.ref b] below meth c H locs cl sl (lw_Z below #[Value.ref b] s) (F0 m 212 ls []) := by
  have hbA : ¬ A0 s b := Nat.not_le.mpr hbl
  have hx9 := S.1
  have hb9 := S.2.1
  obtain ⟨I1, I2, I3, L0⟩ := I
  have hS := I1.2.2.1
  obtain ⟨_, v1, v2, v3, v4, v5⟩ := hin
  obtain ⟨a, hx', hm', ex, em, L1⟩ := p_feed L0 (xs (i + 1).toNatClampNeg) (xs (i + 2).toNatClampNeg) (xs (i + 3).toNatClampNeg) (xs (i + 4).toNatClampNeg) (xs (i + 5).toNatClampNeg)
  refine lv_aload_n hx9 hb9 dL_law_212 rfl (lv_at hl 1 rfl) ?_
  refine lv_aload_n hx9 hb9 dL_law_213 rfl (lv_at hl 0 rfl) ?_
  refine lv_iload hx9 hb9 dL_law_214 (lv_at hl 4 rfl) ?_
  refine lv_iconst (v := 1) hx9 hb9 dL_law_216 (by decide) ?_
  refine lv_iadd hx9 hb9 dL_law_217 ?_
  refine va_sld (A := A0 s) hx9 hb9 hX hbl hbA hS v1 dL_law_218 ?_
  refine lv_aload_n hx9 hb9 dL_law_219 rfl (lv_at hl 0 rfl) ?_
  refine lv_iload hx9 hb9 dL_law_220 (lv_at hl 4 rfl) ?_
  refine lv_iconst (v := 2) hx9 hb9 dL_law_222 (by decide) ?_
  refine lv_iadd hx9 hb9 dL_law_223 ?_
  refine va_sld (A := A0 s) hx9 hb9 hX hbl hbA hS v2 dL_law_224 ?_
  refine lv_aload_n hx9 hb9 dL_law_225 rfl (lv_at hl 0 rfl) ?_
  refine lv_iload hx9 hb9 dL_law_226 (lv_at hl 4 rfl) ?_
  refine lv_iconst (v := 3) hx9 hb9 dL_law_228 (by decide) ?_
  refine lv_iadd hx9 hb9 dL_law_229 ?_
  refine va_sld (A := A0 s) hx9 hb9 hX hbl hbA hS v3 dL_law_230 ?_
  refine lv_aload_n hx9 hb9 dL_law_231 rfl (lv_at hl 0 rfl) ?_
  refine lv_iload hx9 hb9 dL_law_232 (lv_at hl 4 rfl) ?_
  refine lv_iconst (v := 4) hx9 hb9 dL_law_234 (by decide) ?_
  refine lv_iadd hx9 hb9 dL_law_235 ?_
  refine va_sld (A := A0 s) hx9 hb9 hX hbl hbA hS v4 dL_law_236 ?_
  refine lv_aload_n hx9 hb9 dL_law_237 rfl (lv_at hl 0 rfl) ?_
  refine lv_iload hx9 hb9 dL_law_238 (lv_at hl 4 rfl) ?_
  refine lv_iconst (v := 5) hx9 hb9 dL_law_240 (by decide) ?_
  refine lv_iadd hx9 hb9 dL_law_241 ?_
  refine va_sld (A := A0 s) hx9 hb9 hX hbl hbA hS v5 dL_law_242 ?_
  refine l_Vi (As := [.int (xs (i + 1).toNatClampNeg), .int (xs (i + 2).toNatClampNeg), .int (xs (i + 3).toNatClampNeg), .int (xs (i + 4).toNatClampNeg), .int (xs (i + 5).toNatClampNeg)]) S (M11_feed l D cy s.heap.size (Aw s.heap.size 110) false ex) gL_11_feed rfl rfl rfl cdL_11_feed ⟨Nat.le_of_ble_eq_true rfl, Nat.le_of_ble_eq_true rfl⟩ I1 (Nat.le_refl _) (x_ok L0.1).1 clX11 rfl rfl hl.1 rfl (Nat.le_of_ble_eq_true rfl) dL_law_243 ⟨Nat.le_trans (Nat.add_le_add_right hc.1 _) (Nat.le_of_ble_eq_true rfl), Nat.le_trans (Nat.add_le_add_right hc.2 _) (Nat.le_of_ble_eq_true rfl)⟩ (fun H1 locs1 J1 hk1 => ?_)
  have I2 := LM_kept I2 (A := Aw s.heap.size 110) (fun i hi z => by have := z.2; omega) hk1 J1.2.2.1
  have I3 := LM_kept I3 (A := Aw s.heap.size 110) (fun i hi z => by have := z.2; omega) hk1 J1.2.2.1
  have hS := I2.2.2.1
  refine lv_pop hx9 hb9 dL_law_246 rfl ?_
  refine lv_aload_n hx9 hb9 dL_law_247 rfl (lv_at hl 2 rfl) ?_
  refine lv_aload_n hx9 hb9 dL_law_248 rfl (lv_at hl 0 rfl) ?_
  refine lv_iload hx9 hb9 dL_law_249 (lv_at hl 4 rfl) ?_
  refine lv_iconst (v := 1) hx9 hb9 dL_law_251 (by decide) ?_
  refine lv_iadd hx9 hb9 dL_law_252 ?_
  refine va_sld (A := A0 s) hx9 hb9 hX hbl hbA hS v1 dL_law_253 ?_
  refine lv_aload_n hx9 hb9 dL_law_254 rfl (lv_at hl 0 rfl) ?_
  refine lv_iload hx9 hb9 dL_law_255 (lv_at hl 4 rfl) ?_
  refine lv_iconst (v := 2) hx9 hb9 dL_law_257 (by decide) ?_
  refine lv_iadd hx9 hb9 dL_law_258 ?_
  refine va_sld (A := A0 s) hx9 hb9 hX hbl hbA hS v2 dL_law_259 ?_
  refine lv_aload_n hx9 hb9 dL_law_260 rfl (lv_at hl 0 rfl) ?_
  refine lv_iload hx9 hb9 dL_law_261 (lv_at hl 4 rfl) ?_
  refine lv_iconst (v := 3) hx9 hb9 dL_law_263 (by decide) ?_
  refine lv_iadd hx9 hb9 dL_law_264 ?_
  refine va_sld (A := A0 s) hx9 hb9 hX hbl hbA hS v3 dL_law_265 ?_
  refine lv_aload_n hx9 hb9 dL_law_266 rfl (lv_at hl 0 rfl) ?_
  refine lv_iload hx9 hb9 dL_law_267 (lv_at hl 4 rfl) ?_
  refine lv_iconst (v := 4) hx9 hb9 dL_law_269 (by decide) ?_
  refine lv_iadd hx9 hb9 dL_law_270 ?_
  refine va_sld (A := A0 s) hx9 hb9 hX hbl hbA hS v4 dL_law_271 ?_
  refine lv_aload_n hx9 hb9 dL_law_272 rfl (lv_at hl 0 rfl) ?_
  refine lv_iload hx9 hb9 dL_law_273 (lv_at hl 4 rfl) ?_
  refine lv_iconst (v := 5) hx9 hb9 dL_law_275 (by decide) ?_
  refine lv_iadd hx9 hb9 dL_law_276 ?_
  refine va_sld (A := A0 s) hx9 hb9 hX hbl hbA hS v5 dL_law_277 ?_
  refine l_Vi (As := [.int (xs (i + 1).toNatClampNeg), .int (xs (i + 2).toNatClampNeg), .int (xs (i + 3).toNatClampNeg), .int (xs (i + 4).toNatClampNeg), .int (xs (i + 5).toNatClampNeg)]) S (M12_feed l D cy (s.heap.size + 110) (Aw (s.heap.size + 110) 43) false em) gL_12_feed rfl rfl rfl cdL_12_feed ⟨Nat.le_of_ble_eq_true rfl, Nat.le_of_ble_eq_true rfl⟩ I2 (Nat.le_add_right _ _) (m_ok L0.2.1).1 clX12 rfl rfl hl.1 rfl (Nat.le_of_ble_eq_true rfl) dL_law_278 ⟨Nat.le_trans (Nat.add_le_add_right hc.1 _) (Nat.le_of_ble_eq_true rfl), Nat.le_trans (Nat.add_le_add_right hc.2 _) (Nat.le_of_ble_eq_true rfl)⟩ (fun H2 locs2 J2 hk2 => ?_)
  have J1 := LM_kept J1 (A := Aw (s.heap.size + 110) 43) (fun i hi z => by have := z.1; omega) hk2 J2.2.2.1
  have I3 := LM_kept I3 (A := Aw (s.heap.size + 110) 43) (fun i hi z => by have := z.2; omega) hk2 J2.2.2.1
  refine lv_pop hx9 hb9 dL_law_281 rfl ?_
  refine lv_goto (tgt := 1526) hx9 hb9 dL_law_282 (by decide) ?_
  refine W.widen (k := cl + 1) (n := sl + 6) (Nat.le_succ _) (Nat.le_add_right _ _) ?_
  exact K _ _ _ _ _ _ ⟨J1, J2, I3, L1⟩ hl
set_option maxHeartbeats 1000000 in
theorem lc_285 (S : CallFix p m c cL_law 7 s #[Value.ref b] lw_tbl RL) (hX : va_X b L xs s s.heap) (hbl : b < s.heap.size) {hx hm : PH} {f : Nat → Int64} (I : LW D cy hx hm f s H locs) {i : Int32} (hin : IN i L) {cl sl : Nat} (hc : cl ≤ 1000 ∧ sl ≤ 20000) (hl : lv_has ls 7 (LV b s i)) (K : ∀ (hx' hm' : PH) (f' : Nat → Int64) (H' : Heap) (locs' : List Loc) (ls' : Array Slot), LW D cy hx' hm' f' s H' locs' → lv_has ls' 7 (LV b s i) → W p l e room_1 s m #[Value.ref b] below meth c H' locs' (cl + 1) (sl + 6) (lw_Z below #[Value.ref b] s) (F0 m 1526 ls' [])) : W p l e room_1 s m #[Value.ref b] below meth c H locs cl sl (lw_Z below #[Value.ref b] s) (F0 m 285 ls []) := by
  have hbA : ¬ A0 s b := Nat.not_le.mpr hbl
  have hx9 := S.1
  have hb9 := S.2.1
  obtain ⟨I1, I2, I3, L0⟩ := I
  have hS := I1.2.2.1
  obtain ⟨_, v1, v2, v3, v4, v5⟩ := hin
  obtain ⟨a, hx', hm', ex, em, L1⟩ := p_text L0 (xs (i + 1).toNatClampNeg)
  refine lv_aload_n hx9 hb9 dL_law_285 rfl (lv_at hl 1 rfl) ?_
  refine lv_aload_n hx9 hb9 dL_law_286 rfl (lv_at hl 0 rfl) ?_
  refine lv_iload hx9 hb9 dL_law_287 (lv_at hl 4 rfl) ?_
  refine lv_iconst (v := 1) hx9 hb9 dL_law_289 (by decide) ?_
  refine lv_iadd hx9 hb9 dL_law_290 ?_
  refine va_sld (A := A0 s) hx9 hb9 hX hbl hbA hS v1 dL_law_291 ?_
  refine l_Vi (As := [.int (xs (i + 1).toNatClampNeg)]) S (M11_text l D cy s.heap.size (Aw s.heap.size 110) ex) gL_11_text rfl rfl rfl cdL_11_text ⟨Nat.le_of_ble_eq_true rfl, Nat.le_of_ble_eq_true rfl⟩ I1 (Nat.le_refl _) (x_ok L0.1).1 clX11 rfl rfl hl.1 rfl (Nat.le_of_ble_eq_true rfl) dL_law_292 ⟨Nat.le_trans (Nat.add_le_add_right hc.1 _) (Nat.le_of_ble_eq_true rfl), Nat.le_trans (Nat.add_le_add_right hc.2 _) (Nat.le_of_ble_eq_true rfl)⟩ (fun H1 locs1 J1 hk1 => ?_)
  have I2 := LM_kept I2 (A := Aw s.heap.size 110) (fun i hi z => by have := z.2; omega) hk1 J1.2.2.1
  have I3 := LM_kept I3 (A := Aw s.heap.size 110) (fun i hi z => by have := z.2; omega) hk1 J1.2.2.1
  have hS := I2.2.2.1
  refine lv_pop hx9 hb9 dL_law_295 rfl ?_
  refine lv_aload_n hx9 hb9 dL_law_296 rfl (lv_at hl 2 rfl) ?_
  refine lv_aload_n hx9 hb9 dL_law_297 rfl (lv_at hl 0 rfl) ?_
  refine lv_iload hx9 hb9 dL_law_298 (lv_at hl 4 rfl) ?_
  refine lv_iconst (v := 1) hx9 hb9 dL_law_300 (by decide) ?_
  refine lv_iadd hx9 hb9 dL_law_301 ?_
  refine va_sld (A := A0 s) hx9 hb9 hX hbl hbA hS v1 dL_law_302 ?_
  refine l_Vi (As := [.int (xs (i + 1).toNatClampNeg)]) S (M12_text l D cy (s.heap.size + 110) (Aw (s.heap.size + 110) 43) false em) gL_12_text rfl rfl rfl cdL_12_text ⟨Nat.le_of_ble_eq_true rfl, Nat.le_of_ble_eq_true rfl⟩ I2 (Nat.le_add_right _ _) (m_ok L0.2.1).1 clX12 rfl rfl hl.1 rfl (Nat.le_of_ble_eq_true rfl) dL_law_303 ⟨Nat.le_trans (Nat.add_le_add_right hc.1 _) (Nat.le_of_ble_eq_true rfl), Nat.le_trans (Nat.add_le_add_right hc.2 _) (Nat.le_of_ble_eq_true rfl)⟩ (fun H2 locs2 J2 hk2 => ?_)
  have J1 := LM_kept J1 (A := Aw (s.heap.size + 110) 43) (fun i hi z => by have := z.1; omega) hk2 J2.2.2.1
  have I3 := LM_kept I3 (A := Aw (s.heap.size + 110) 43) (fun i hi z => by have := z.2; omega) hk2 J2.2.2.1
  refine lv_pop hx9 hb9 dL_law_306 rfl ?_
  refine lv_goto (tgt := 1526) hx9 hb9 dL_law_307 (by decide) ?_
  refine W.widen (k := cl + 1) (n := sl + 6) (Nat.le_succ _) (Nat.le_add_right _ _) ?_
  exact K _ _ _ _ _ _ ⟨J1, J2, I3, L1⟩ hl
set_option maxHeartbeats 1000000 in
theorem lc_310 (S : CallFix p m c cL_law 7 s #[Value.ref b] lw_tbl RL) (hX : va_X b L xs s s.heap) (hbl : b < s.heap.size) {hx hm : PH} {f : Nat → Int64} (I : LW D cy hx hm f s H locs) {i : Int32} (hin : IN i L) {cl sl : Nat} (hc : cl ≤ 1000 ∧ sl ≤ 20000) (hl : lv_has ls 7 (LV b s i)) (K : ∀ (hx' hm' : PH) (f' : Nat → Int64) (H' : Heap) (locs' : List Loc) (ls' : Array Slot), LW D cy hx' hm' f' s H' locs' → lv_has ls' 7 (LV b s i) → W p l e room_1 s m #[Value.ref b] below meth c H' locs' (cl + 1) (sl + 6) (lw_Z below #[Value.ref b] s) (F0 m 1526 ls' [])) : W p l e room_1 s m #[Value.ref b] below meth c H locs cl sl (lw_Z below #[Value.ref b] s) (F0 m 310 ls []) := by
  have hbA : ¬ A0 s b := Nat.not_le.mpr hbl
  have hx9 := S.1
  have hb9 := S.2.1
  obtain ⟨I1, I2, I3, L0⟩ := I
  have hS := I1.2.2.1
  obtain ⟨_, v1, v2, v3, v4, v5⟩ := hin
  obtain ⟨a, hx', hm', ex, em, L1⟩ := p_fault L0 (xs (i + 1).toNatClampNeg)
  refine lv_aload_n hx9 hb9 dL_law_310 rfl (lv_at hl 1 rfl) ?_
  refine lv_aload_n hx9 hb9 dL_law_311 rfl (lv_at hl 0 rfl) ?_
  refine lv_iload hx9 hb9 dL_law_312 (lv_at hl 4 rfl) ?_
  refine lv_iconst (v := 1) hx9 hb9 dL_law_314 (by decide) ?_
  refine lv_iadd hx9 hb9 dL_law_315 ?_
  refine va_sld (A := A0 s) hx9 hb9 hX hbl hbA hS v1 dL_law_316 ?_
  refine l_Vi (As := [.int (xs (i + 1).toNatClampNeg)]) S (M11_fault l D cy s.heap.size (Aw s.heap.size 110) false ex) gL_11_fault rfl rfl rfl cdL_11_fault ⟨Nat.le_of_ble_eq_true rfl, Nat.le_of_ble_eq_true rfl⟩ I1 (Nat.le_refl _) (x_ok L0.1).1 clX11 rfl rfl hl.1 rfl (Nat.le_of_ble_eq_true rfl) dL_law_317 ⟨Nat.le_trans (Nat.add_le_add_right hc.1 _) (Nat.le_of_ble_eq_true rfl), Nat.le_trans (Nat.add_le_add_right hc.2 _) (Nat.le_of_ble_eq_true rfl)⟩ (fun H1 locs1 J1 hk1 => ?_)
  have I2 := LM_kept I2 (A := Aw s.heap.size 110) (fun i hi z => by have := z.2; omega) hk1 J1.2.2.1
  have I3 := LM_kept I3 (A := Aw s.heap.size 110) (fun i hi z => by have := z.2; omega) hk1 J1.2.2.1
  have hS := I2.2.2.1
  refine lv_pop hx9 hb9 dL_law_320 rfl ?_
  refine lv_aload_n hx9 hb9 dL_law_321 rfl (lv_at hl 2 rfl) ?_
  refine lv_aload_n hx9 hb9 dL_law_322 rfl (lv_at hl 0 rfl) ?_
  refine lv_iload hx9 hb9 dL_law_323 (lv_at hl 4 rfl) ?_
  refine lv_iconst (v := 1) hx9 hb9 dL_law_325 (by decide) ?_
  refine lv_iadd hx9 hb9 dL_law_326 ?_
  refine va_sld (A := A0 s) hx9 hb9 hX hbl hbA hS v1 dL_law_327 ?_
  refine l_Vi (As := [.int (xs (i + 1).toNatClampNeg)]) S (M12_fault l D cy (s.heap.size + 110) (Aw (s.heap.size + 110) 43) false em) gL_12_fault rfl rfl rfl cdL_12_fault ⟨Nat.le_of_ble_eq_true rfl, Nat.le_of_ble_eq_true rfl⟩ I2 (Nat.le_add_right _ _) (m_ok L0.2.1).1 clX12 rfl rfl hl.1 rfl (Nat.le_of_ble_eq_true rfl) dL_law_328 ⟨Nat.le_trans (Nat.add_le_add_right hc.1 _) (Nat.le_of_ble_eq_true rfl), Nat.le_trans (Nat.add_le_add_right hc.2 _) (Nat.le_of_ble_eq_true rfl)⟩ (fun H2 locs2 J2 hk2 => ?_)
  have J1 := LM_kept J1 (A := Aw (s.heap.size + 110) 43) (fun i hi z => by have := z.1; omega) hk2 J2.2.2.1
  have I3 := LM_kept I3 (A := Aw (s.heap.size + 110) 43) (fun i hi z => by have := z.2; omega) hk2 J2.2.2.1
  refine lv_pop hx9 hb9 dL_law_331 rfl ?_
  refine lv_goto (tgt := 1526) hx9 hb9 dL_law_332 (by decide) ?_
  refine W.widen (k := cl + 1) (n := sl + 6) (Nat.le_succ _) (Nat.le_add_right _ _) ?_
  exact K _ _ _ _ _ _ ⟨J1, J2, I3, L1⟩ hl
set_option maxHeartbeats 1000000 in
theorem lc_335 (S : CallFix p m c cL_law 7 s #[Value.ref b] lw_tbl RL) (hX : va_X b L xs s s.heap) (hbl : b < s.heap.size) {hx hm : PH} {f : Nat → Int64} (I : LW D cy hx hm f s H locs) {i : Int32} (hin : IN i L) {cl sl : Nat} (hc : cl ≤ 1000 ∧ sl ≤ 20000) (hl : lv_has ls 7 (LV b s i)) (K : ∀ (hx' hm' : PH) (f' : Nat → Int64) (H' : Heap) (locs' : List Loc) (ls' : Array Slot), LW D cy hx' hm' f' s H' locs' → lv_has ls' 7 (LV b s i) → W p l e room_1 s m #[Value.ref b] below meth c H' locs' (cl + 1) (sl + 6) (lw_Z below #[Value.ref b] s) (F0 m 1526 ls' [])) : W p l e room_1 s m #[Value.ref b] below meth c H locs cl sl (lw_Z below #[Value.ref b] s) (F0 m 335 ls []) := by
  have hbA : ¬ A0 s b := Nat.not_le.mpr hbl
  have hx9 := S.1
  have hb9 := S.2.1
  obtain ⟨I1, I2, I3, L0⟩ := I
  have hS := I1.2.2.1
  obtain ⟨_, v1, v2, v3, v4, v5⟩ := hin
  obtain ⟨a, hx', hm', ex, em, L1⟩ := p_named L0 (xs (i + 1).toNatClampNeg)
  refine lv_aload_n hx9 hb9 dL_law_335 rfl (lv_at hl 1 rfl) ?_
  refine lv_aload_n hx9 hb9 dL_law_336 rfl (lv_at hl 0 rfl) ?_
  refine lv_iload hx9 hb9 dL_law_337 (lv_at hl 4 rfl) ?_
  refine lv_iconst (v := 1) hx9 hb9 dL_law_339 (by decide) ?_
  refine lv_iadd hx9 hb9 dL_law_340 ?_
  refine va_sld (A := A0 s) hx9 hb9 hX hbl hbA hS v1 dL_law_341 ?_
  refine l_Vi (As := [.int (xs (i + 1).toNatClampNeg)]) S (M11_named l D cy s.heap.size (Aw s.heap.size 110) false ex) gL_11_named rfl rfl rfl cdL_11_named ⟨Nat.le_of_ble_eq_true rfl, Nat.le_of_ble_eq_true rfl⟩ I1 (Nat.le_refl _) (x_ok L0.1).1 clX11 rfl rfl hl.1 rfl (Nat.le_of_ble_eq_true rfl) dL_law_342 ⟨Nat.le_trans (Nat.add_le_add_right hc.1 _) (Nat.le_of_ble_eq_true rfl), Nat.le_trans (Nat.add_le_add_right hc.2 _) (Nat.le_of_ble_eq_true rfl)⟩ (fun H1 locs1 J1 hk1 => ?_)
  have I2 := LM_kept I2 (A := Aw s.heap.size 110) (fun i hi z => by have := z.2; omega) hk1 J1.2.2.1
  have I3 := LM_kept I3 (A := Aw s.heap.size 110) (fun i hi z => by have := z.2; omega) hk1 J1.2.2.1
  have hS := I2.2.2.1
  refine lv_pop hx9 hb9 dL_law_345 rfl ?_
  refine lv_aload_n hx9 hb9 dL_law_346 rfl (lv_at hl 2 rfl) ?_
  refine lv_aload_n hx9 hb9 dL_law_347 rfl (lv_at hl 0 rfl) ?_
  refine lv_iload hx9 hb9 dL_law_348 (lv_at hl 4 rfl) ?_
  refine lv_iconst (v := 1) hx9 hb9 dL_law_350 (by decide) ?_
  refine lv_iadd hx9 hb9 dL_law_351 ?_
  refine va_sld (A := A0 s) hx9 hb9 hX hbl hbA hS v1 dL_law_352 ?_
  refine l_Vi (As := [.int (xs (i + 1).toNatClampNeg)]) S (M12_named l D cy (s.heap.size + 110) (Aw (s.heap.size + 110) 43) false em) gL_12_named rfl rfl rfl cdL_12_named ⟨Nat.le_of_ble_eq_true rfl, Nat.le_of_ble_eq_true rfl⟩ I2 (Nat.le_add_right _ _) (m_ok L0.2.1).1 clX12 rfl rfl hl.1 rfl (Nat.le_of_ble_eq_true rfl) dL_law_353 ⟨Nat.le_trans (Nat.add_le_add_right hc.1 _) (Nat.le_of_ble_eq_true rfl), Nat.le_trans (Nat.add_le_add_right hc.2 _) (Nat.le_of_ble_eq_true rfl)⟩ (fun H2 locs2 J2 hk2 => ?_)
  have J1 := LM_kept J1 (A := Aw (s.heap.size + 110) 43) (fun i hi z => by have := z.1; omega) hk2 J2.2.2.1
  have I3 := LM_kept I3 (A := Aw (s.heap.size + 110) 43) (fun i hi z => by have := z.2; omega) hk2 J2.2.2.1
  refine lv_pop hx9 hb9 dL_law_356 rfl ?_
  refine lv_goto (tgt := 1526) hx9 hb9 dL_law_357 (by decide) ?_
  refine W.widen (k := cl + 1) (n := sl + 6) (Nat.le_succ _) (Nat.le_add_right _ _) ?_
  exact K _ _ _ _ _ _ ⟨J1, J2, I3, L1⟩ hl
set_option maxHeartbeats 1000000 in
theorem lc_400 (S : CallFix p m c cL_law 7 s #[Value.ref b] lw_tbl RL) (hX : va_X b L xs s s.heap) (hbl : b < s.heap.size) {hx hm : PH} {f : Nat → Int64} (I : LW D cy hx hm f s H locs) {i : Int32} (hin : IN i L) {cl sl : Nat} (hc : cl ≤ 1000 ∧ sl ≤ 20000) (hl : lv_has ls 7 (LV b s i)) (K : ∀ (hx' hm' : PH) (f' : Nat → Int64) (H' : Heap) (locs' : List Loc) (ls' : Array Slot), LW D cy hx' hm' f' s H' locs' → lv_has ls' 7 (LV b s i) → W p l e room_1 s m #[Value.ref b] below meth c H' locs' (cl + 1) (sl + 6) (lw_Z below #[Value.ref b] s) (F0 m 1526 ls' [])) : W p l e room_1 s m #[Value.ref b] below meth c H locs cl sl (lw_Z below #[Value.ref b] s) (F0 m 400 ls []) := by
  have hbA : ¬ A0 s b := Nat.not_le.mpr hbl
  have hx9 := S.1
  have hb9 := S.2.1
  obtain ⟨I1, I2, I3, L0⟩ := I
  have hS := I1.2.2.1
  obtain ⟨_, v1, v2, v3, v4, v5⟩ := hin
  obtain ⟨a, hx', hm', ex, em, L1⟩ := p_wave L0 (xs (i + 1).toNatClampNeg) (xs (i + 2).toNatClampNeg)
  refine lv_aload_n hx9 hb9 dL_law_400 rfl (lv_at hl 1 rfl) ?_
  refine lv_aload_n hx9 hb9 dL_law_401 rfl (lv_at hl 0 rfl) ?_
  refine lv_iload hx9 hb9 dL_law_402 (lv_at hl 4 rfl) ?_
  refine lv_iconst (v := 1) hx9 hb9 dL_law_404 (by decide) ?_
  refine lv_iadd hx9 hb9 dL_law_405 ?_
  refine va_sld (A := A0 s) hx9 hb9 hX hbl hbA hS v1 dL_law_406 ?_
  refine lv_aload_n hx9 hb9 dL_law_407 rfl (lv_at hl 0 rfl) ?_
  refine lv_iload hx9 hb9 dL_law_408 (lv_at hl 4 rfl) ?_
  refine lv_iconst (v := 2) hx9 hb9 dL_law_410 (by decide) ?_
  refine lv_iadd hx9 hb9 dL_law_411 ?_
  refine va_sld (A := A0 s) hx9 hb9 hX hbl hbA hS v2 dL_law_412 ?_
  refine l_Vi (As := [.int (xs (i + 1).toNatClampNeg), .int (xs (i + 2).toNatClampNeg)]) S (M11_wave l D cy s.heap.size (Aw s.heap.size 110) false ex) gL_11_wave rfl rfl rfl cdL_11_wave ⟨Nat.le_of_ble_eq_true rfl, Nat.le_of_ble_eq_true rfl⟩ I1 (Nat.le_refl _) (x_ok L0.1).1 clX11 rfl rfl hl.1 rfl (Nat.le_of_ble_eq_true rfl) dL_law_413 ⟨Nat.le_trans (Nat.add_le_add_right hc.1 _) (Nat.le_of_ble_eq_true rfl), Nat.le_trans (Nat.add_le_add_right hc.2 _) (Nat.le_of_ble_eq_true rfl)⟩ (fun H1 locs1 J1 hk1 => ?_)
  have I2 := LM_kept I2 (A := Aw s.heap.size 110) (fun i hi z => by have := z.2; omega) hk1 J1.2.2.1
  have I3 := LM_kept I3 (A := Aw s.heap.size 110) (fun i hi z => by have := z.2; omega) hk1 J1.2.2.1
  have hS := I2.2.2.1
  refine lv_pop hx9 hb9 dL_law_416 rfl ?_
  refine lv_aload_n hx9 hb9 dL_law_417 rfl (lv_at hl 2 rfl) ?_
  refine lv_aload_n hx9 hb9 dL_law_418 rfl (lv_at hl 0 rfl) ?_
  refine lv_iload hx9 hb9 dL_law_419 (lv_at hl 4 rfl) ?_
  refine lv_iconst (v := 1) hx9 hb9 dL_law_421 (by decide) ?_
  refine lv_iadd hx9 hb9 dL_law_422 ?_
  refine va_sld (A := A0 s) hx9 hb9 hX hbl hbA hS v1 dL_law_423 ?_
  refine lv_aload_n hx9 hb9 dL_law_424 rfl (lv_at hl 0 rfl) ?_
  refine lv_iload hx9 hb9 dL_law_425 (lv_at hl 4 rfl) ?_
  refine lv_iconst (v := 2) hx9 hb9 dL_law_427 (by decide) ?_
  refine lv_iadd hx9 hb9 dL_law_428 ?_
  refine va_sld (A := A0 s) hx9 hb9 hX hbl hbA hS v2 dL_law_429 ?_
  refine l_Vi (As := [.int (xs (i + 1).toNatClampNeg), .int (xs (i + 2).toNatClampNeg)]) S (M12_wave l D cy (s.heap.size + 110) (Aw (s.heap.size + 110) 43) false em) gL_12_wave rfl rfl rfl cdL_12_wave ⟨Nat.le_of_ble_eq_true rfl, Nat.le_of_ble_eq_true rfl⟩ I2 (Nat.le_add_right _ _) (m_ok L0.2.1).1 clX12 rfl rfl hl.1 rfl (Nat.le_of_ble_eq_true rfl) dL_law_430 ⟨Nat.le_trans (Nat.add_le_add_right hc.1 _) (Nat.le_of_ble_eq_true rfl), Nat.le_trans (Nat.add_le_add_right hc.2 _) (Nat.le_of_ble_eq_true rfl)⟩ (fun H2 locs2 J2 hk2 => ?_)
  have J1 := LM_kept J1 (A := Aw (s.heap.size + 110) 43) (fun i hi z => by have := z.1; omega) hk2 J2.2.2.1
  have I3 := LM_kept I3 (A := Aw (s.heap.size + 110) 43) (fun i hi z => by have := z.2; omega) hk2 J2.2.2.1
  refine lv_pop hx9 hb9 dL_law_433 rfl ?_
  refine lv_goto (tgt := 1526) hx9 hb9 dL_law_434 (by decide) ?_
  refine W.widen (k := cl + 1) (n := sl + 6) (Nat.le_succ _) (Nat.le_add_right _ _) ?_
  exact K _ _ _ _ _ _ ⟨J1, J2, I3, L1⟩ hl
set_option maxHeartbeats 1000000 in
theorem lc_437 (S : CallFix p m c cL_law 7 s #[Value.ref b] lw_tbl RL) (hX : va_X b L xs s s.heap) (hbl : b < s.heap.size) {hx hm : PH} {f : Nat → Int64} (I : LW D cy hx hm f s H locs) {i : Int32} (hin : IN i L) {cl sl : Nat} (hc : cl ≤ 1000 ∧ sl ≤ 20000) (hl : lv_has ls 7 (LV b s i)) (K : ∀ (hx' hm' : PH) (f' : Nat → Int64) (H' : Heap) (locs' : List Loc) (ls' : Array Slot), LW D cy hx' hm' f' s H' locs' → lv_has ls' 7 (LV b s i) → W p l e room_1 s m #[Value.ref b] below meth c H' locs' (cl + 1) (sl + 6) (lw_Z below #[Value.ref b] s) (F0 m 1526 ls' [])) : W p l e room_1 s m #[Value.ref b] below meth c H locs cl sl (lw_Z below #[Value.ref b] s) (F0 m 437 ls []) := by
  have hbA : ¬ A0 s b := Nat.not_le.mpr hbl
  have hx9 := S.1
  have hb9 := S.2.1
  obtain ⟨I1, I2, I3, L0⟩ := I
  have hS := I1.2.2.1
  obtain ⟨_, v1, v2, v3, v4, v5⟩ := hin
  obtain ⟨a, hx', hm', ex, em, L1⟩ := p_peak L0 (xs (i + 1).toNatClampNeg)
  refine lv_aload_n hx9 hb9 dL_law_437 rfl (lv_at hl 1 rfl) ?_
  refine lv_aload_n hx9 hb9 dL_law_438 rfl (lv_at hl 0 rfl) ?_
  refine lv_iload hx9 hb9 dL_law_439 (lv_at hl 4 rfl) ?_
  refine lv_iconst (v := 1) hx9 hb9 dL_law_441 (by decide) ?_
  refine lv_iadd hx9 hb9 dL_law_442 ?_
  refine va_sld (A := A0 s) hx9 hb9 hX hbl hbA hS v1 dL_law_443 ?_
  refine l_Vi (As := [.int (xs (i + 1).toNatClampNeg)]) S (M11_peak l D cy s.heap.size (Aw s.heap.size 110) false ex) gL_11_peak rfl rfl rfl cdL_11_peak ⟨Nat.le_of_ble_eq_true rfl, Nat.le_of_ble_eq_true rfl⟩ I1 (Nat.le_refl _) (x_ok L0.1).1 clX11 rfl rfl hl.1 rfl (Nat.le_of_ble_eq_true rfl) dL_law_444 ⟨Nat.le_trans (Nat.add_le_add_right hc.1 _) (Nat.le_of_ble_eq_true rfl), Nat.le_trans (Nat.add_le_add_right hc.2 _) (Nat.le_of_ble_eq_true rfl)⟩ (fun H1 locs1 J1 hk1 => ?_)
  have I2 := LM_kept I2 (A := Aw s.heap.size 110) (fun i hi z => by have := z.2; omega) hk1 J1.2.2.1
  have I3 := LM_kept I3 (A := Aw s.heap.size 110) (fun i hi z => by have := z.2; omega) hk1 J1.2.2.1
  have hS := I2.2.2.1
  refine lv_pop hx9 hb9 dL_law_447 rfl ?_
  refine lv_aload_n hx9 hb9 dL_law_448 rfl (lv_at hl 2 rfl) ?_
  refine lv_aload_n hx9 hb9 dL_law_449 rfl (lv_at hl 0 rfl) ?_
  refine lv_iload hx9 hb9 dL_law_450 (lv_at hl 4 rfl) ?_
  refine lv_iconst (v := 1) hx9 hb9 dL_law_452 (by decide) ?_
  refine lv_iadd hx9 hb9 dL_law_453 ?_
  refine va_sld (A := A0 s) hx9 hb9 hX hbl hbA hS v1 dL_law_454 ?_
  refine l_Vi (As := [.int (xs (i + 1).toNatClampNeg)]) S (M12_peak l D cy (s.heap.size + 110) (Aw (s.heap.size + 110) 43) false em) gL_12_peak rfl rfl rfl cdL_12_peak ⟨Nat.le_of_ble_eq_true rfl, Nat.le_of_ble_eq_true rfl⟩ I2 (Nat.le_add_right _ _) (m_ok L0.2.1).1 clX12 rfl rfl hl.1 rfl (Nat.le_of_ble_eq_true rfl) dL_law_455 ⟨Nat.le_trans (Nat.add_le_add_right hc.1 _) (Nat.le_of_ble_eq_true rfl), Nat.le_trans (Nat.add_le_add_right hc.2 _) (Nat.le_of_ble_eq_true rfl)⟩ (fun H2 locs2 J2 hk2 => ?_)
  have J1 := LM_kept J1 (A := Aw (s.heap.size + 110) 43) (fun i hi z => by have := z.1; omega) hk2 J2.2.2.1
  have I3 := LM_kept I3 (A := Aw (s.heap.size + 110) 43) (fun i hi z => by have := z.2; omega) hk2 J2.2.2.1
  refine lv_pop hx9 hb9 dL_law_458 rfl ?_
  refine lv_goto (tgt := 1526) hx9 hb9 dL_law_459 (by decide) ?_
  refine W.widen (k := cl + 1) (n := sl + 6) (Nat.le_succ _) (Nat.le_add_right _ _) ?_
  exact K _ _ _ _ _ _ ⟨J1, J2, I3, L1⟩ hl
set_option maxHeartbeats 1000000 in
theorem lc_462 (S : CallFix p m c cL_law 7 s #[Value.ref b] lw_tbl RL) (hX : va_X b L xs s s.heap) (hbl : b < s.heap.size) {hx hm : PH} {f : Nat → Int64} (I : LW D cy hx hm f s H locs) {i : Int32} (hin : IN i L) {cl sl : Nat} (hc : cl ≤ 1000 ∧ sl ≤ 20000) (hl : lv_has ls 7 (LV b s i)) (K : ∀ (hx' hm' : PH) (f' : Nat → Int64) (H' : Heap) (locs' : List Loc) (ls' : Array Slot), LW D cy hx' hm' f' s H' locs' → lv_has ls' 7 (LV b s i) → W p l e room_1 s m #[Value.ref b] below meth c H' locs' (cl + 1) (sl + 6) (lw_Z below #[Value.ref b] s) (F0 m 1526 ls' [])) : W p l e room_1 s m #[Value.ref b] below meth c H locs cl sl (lw_Z below #[Value.ref b] s) (F0 m 462 ls []) := by
  have hbA : ¬ A0 s b := Nat.not_le.mpr hbl
  have hx9 := S.1
  have hb9 := S.2.1
  obtain ⟨I1, I2, I3, L0⟩ := I
  have hS := I1.2.2.1
  obtain ⟨_, v1, v2, v3, v4, v5⟩ := hin
  obtain ⟨a, hx', hm', ex, em, L1⟩ := p_odds L0 (xs (i + 1).toNatClampNeg) (xs (i + 2).toNatClampNeg) (xs (i + 3).toNatClampNeg)
  refine lv_aload_n hx9 hb9 dL_law_462 rfl (lv_at hl 1 rfl) ?_
  refine lv_aload_n hx9 hb9 dL_law_463 rfl (lv_at hl 0 rfl) ?_
  refine lv_iload hx9 hb9 dL_law_464 (lv_at hl 4 rfl) ?_
  refine lv_iconst (v := 1) hx9 hb9 dL_law_466 (by decide) ?_
  refine lv_iadd hx9 hb9 dL_law_467 ?_
  refine va_sld (A := A0 s) hx9 hb9 hX hbl hbA hS v1 dL_law_468 ?_
  refine lv_aload_n hx9 hb9 dL_law_469 rfl (lv_at hl 0 rfl) ?_
  refine lv_iload hx9 hb9 dL_law_470 (lv_at hl 4 rfl) ?_
  refine lv_iconst (v := 2) hx9 hb9 dL_law_472 (by decide) ?_
  refine lv_iadd hx9 hb9 dL_law_473 ?_
  refine va_sld (A := A0 s) hx9 hb9 hX hbl hbA hS v2 dL_law_474 ?_
  refine lv_aload_n hx9 hb9 dL_law_475 rfl (lv_at hl 0 rfl) ?_
  refine lv_iload hx9 hb9 dL_law_476 (lv_at hl 4 rfl) ?_
  refine lv_iconst (v := 3) hx9 hb9 dL_law_478 (by decide) ?_
  refine lv_iadd hx9 hb9 dL_law_479 ?_
  refine va_sld (A := A0 s) hx9 hb9 hX hbl hbA hS v3 dL_law_480 ?_
  refine l_Vi (As := [.int (xs (i + 1).toNatClampNeg), .int (xs (i + 2).toNatClampNeg), .int (xs (i + 3).toNatClampNeg)]) S (M11_odds l D cy s.heap.size (Aw s.heap.size 110) false ex) gL_11_odds rfl rfl rfl cdL_11_odds ⟨Nat.le_of_ble_eq_true rfl, Nat.le_of_ble_eq_true rfl⟩ I1 (Nat.le_refl _) (x_ok L0.1).1 clX11 rfl rfl hl.1 rfl (Nat.le_of_ble_eq_true rfl) dL_law_481 ⟨Nat.le_trans (Nat.add_le_add_right hc.1 _) (Nat.le_of_ble_eq_true rfl), Nat.le_trans (Nat.add_le_add_right hc.2 _) (Nat.le_of_ble_eq_true rfl)⟩ (fun H1 locs1 J1 hk1 => ?_)
  have I2 := LM_kept I2 (A := Aw s.heap.size 110) (fun i hi z => by have := z.2; omega) hk1 J1.2.2.1
  have I3 := LM_kept I3 (A := Aw s.heap.size 110) (fun i hi z => by have := z.2; omega) hk1 J1.2.2.1
  have hS := I2.2.2.1
  refine lv_pop hx9 hb9 dL_law_484 rfl ?_
  refine lv_aload_n hx9 hb9 dL_law_485 rfl (lv_at hl 2 rfl) ?_
  refine lv_aload_n hx9 hb9 dL_law_486 rfl (lv_at hl 0 rfl) ?_
  refine lv_iload hx9 hb9 dL_law_487 (lv_at hl 4 rfl) ?_
  refine lv_iconst (v := 1) hx9 hb9 dL_law_489 (by decide) ?_
  refine lv_iadd hx9 hb9 dL_law_490 ?_
  refine va_sld (A := A0 s) hx9 hb9 hX hbl hbA hS v1 dL_law_491 ?_
  refine lv_aload_n hx9 hb9 dL_law_492 rfl (lv_at hl 0 rfl) ?_
  refine lv_iload hx9 hb9 dL_law_493 (lv_at hl 4 rfl) ?_
  refine lv_iconst (v := 2) hx9 hb9 dL_law_495 (by decide) ?_
  refine lv_iadd hx9 hb9 dL_law_496 ?_
  refine va_sld (A := A0 s) hx9 hb9 hX hbl hbA hS v2 dL_law_497 ?_
  refine lv_aload_n hx9 hb9 dL_law_498 rfl (lv_at hl 0 rfl) ?_
  refine lv_iload hx9 hb9 dL_law_499 (lv_at hl 4 rfl) ?_
  refine lv_iconst (v := 3) hx9 hb9 dL_law_501 (by decide) ?_
  refine lv_iadd hx9 hb9 dL_law_502 ?_
  refine va_sld (A := A0 s) hx9 hb9 hX hbl hbA hS v3 dL_law_503 ?_
  refine l_Vi (As := [.int (xs (i + 1).toNatClampNeg), .int (xs (i + 2).toNatClampNeg), .int (xs (i + 3).toNatClampNeg)]) S (M12_odds l D cy (s.heap.size + 110) (Aw (s.heap.size + 110) 43) false em) gL_12_odds rfl rfl rfl cdL_12_odds ⟨Nat.le_of_ble_eq_true rfl, Nat.le_of_ble_eq_true rfl⟩ I2 (Nat.le_add_right _ _) (m_ok L0.2.1).1 clX12 rfl rfl hl.1 rfl (Nat.le_of_ble_eq_true rfl) dL_law_504 ⟨Nat.le_trans (Nat.add_le_add_right hc.1 _) (Nat.le_of_ble_eq_true rfl), Nat.le_trans (Nat.add_le_add_right hc.2 _) (Nat.le_of_ble_eq_true rfl)⟩ (fun H2 locs2 J2 hk2 => ?_)
  have J1 := LM_kept J1 (A := Aw (s.heap.size + 110) 43) (fun i hi z => by have := z.1; omega) hk2 J2.2.2.1
  have I3 := LM_kept I3 (A := Aw (s.heap.size + 110) 43) (fun i hi z => by have := z.2; omega) hk2 J2.2.2.1
  refine lv_pop hx9 hb9 dL_law_507 rfl ?_
  refine lv_goto (tgt := 1526) hx9 hb9 dL_law_508 (by decide) ?_
  refine W.widen (k := cl + 1) (n := sl + 6) (Nat.le_succ _) (Nat.le_add_right _ _) ?_
  exact K _ _ _ _ _ _ ⟨J1, J2, I3, L1⟩ hl
set_option maxHeartbeats 1000000 in
theorem lc_511 (S : CallFix p m c cL_law 7 s #[Value.ref b] lw_tbl RL) (hX : va_X b L xs s s.heap) (hbl : b < s.heap.size) {hx hm : PH} {f : Nat → Int64} (I : LW D cy hx hm f s H locs) {i : Int32} (hin : IN i L) {cl sl : Nat} (hc : cl ≤ 1000 ∧ sl ≤ 20000) (hl : lv_has ls 7 (LV b s i)) (K : ∀ (hx' hm' : PH) (f' : Nat → Int64) (H' : Heap) (locs' : List Loc) (ls' : Array Slot), LW D cy hx' hm' f' s H' locs' → lv_has ls' 7 (LV b s i) → W p l e room_1 s m #[Value.ref b] below meth c H' locs' (cl + 1) (sl + 6) (lw_Z below #[Value.ref b] s) (F0 m 1526 ls' [])) : W p l e room_1 s m #[Value.ref b] below meth c H locs cl sl (lw_Z below #[Value.ref b] s) (F0 m 511 ls []) := by
  have hbA : ¬ A0 s b := Nat.not_le.mpr hbl
  have hx9 := S.1
  have hb9 := S.2.1
  obtain ⟨I1, I2, I3, L0⟩ := I
  have hS := I1.2.2.1
  obtain ⟨_, v1, v2, v3, v4, v5⟩ := hin
  obtain ⟨a, hx', hm', ex, em, L1⟩ := p_law L0 (xs (i + 1).toNatClampNeg) (xs (i + 2).toNatClampNeg) (xs (i + 3).toNatClampNeg)
  refine lv_aload_n hx9 hb9 dL_law_511 rfl (lv_at hl 1 rfl) ?_
  refine lv_aload_n hx9 hb9 dL_law_512 rfl (lv_at hl 0 rfl) ?_
  refine lv_iload hx9 hb9 dL_law_513 (lv_at hl 4 rfl) ?_
  refine lv_iconst (v := 1) hx9 hb9 dL_law_515 (by decide) ?_
  refine lv_iadd hx9 hb9 dL_law_516 ?_
  refine va_sld (A := A0 s) hx9 hb9 hX hbl hbA hS v1 dL_law_517 ?_
  refine lv_aload_n hx9 hb9 dL_law_518 rfl (lv_at hl 0 rfl) ?_
  refine lv_iload hx9 hb9 dL_law_519 (lv_at hl 4 rfl) ?_
  refine lv_iconst (v := 2) hx9 hb9 dL_law_521 (by decide) ?_
  refine lv_iadd hx9 hb9 dL_law_522 ?_
  refine va_sld (A := A0 s) hx9 hb9 hX hbl hbA hS v2 dL_law_523 ?_
  refine lv_aload_n hx9 hb9 dL_law_524 rfl (lv_at hl 0 rfl) ?_
  refine lv_iload hx9 hb9 dL_law_525 (lv_at hl 4 rfl) ?_
  refine lv_iconst (v := 3) hx9 hb9 dL_law_527 (by decide) ?_
  refine lv_iadd hx9 hb9 dL_law_528 ?_
  refine va_sld (A := A0 s) hx9 hb9 hX hbl hbA hS v3 dL_law_529 ?_
  refine l_Vl (As := [.int (xs (i + 1).toNatClampNeg), .int (xs (i + 2).toNatClampNeg), .int (xs (i + 3).toNatClampNeg)]) S (M11_law l D cy s.heap.size (Aw s.heap.size 110) false ex) gL_11_law rfl rfl rfl cdL_11_law ⟨Nat.le_of_ble_eq_true rfl, Nat.le_of_ble_eq_true rfl⟩ I1 (Nat.le_refl _) (x_ok L0.1).1 clX11 rfl rfl hl.1 rfl (Nat.le_of_ble_eq_true rfl) dL_law_530 ⟨Nat.le_trans (Nat.add_le_add_right hc.1 _) (Nat.le_of_ble_eq_true rfl), Nat.le_trans (Nat.add_le_add_right hc.2 _) (Nat.le_of_ble_eq_true rfl)⟩ (fun H1 locs1 J1 hk1 => ?_)
  have I2 := LM_kept I2 (A := Aw s.heap.size 110) (fun i hi z => by have := z.2; omega) hk1 J1.2.2.1
  have I3 := LM_kept I3 (A := Aw s.heap.size 110) (fun i hi z => by have := z.2; omega) hk1 J1.2.2.1
  have hS := I2.2.2.1
  refine lv_pop2_2 hx9 hb9 dL_law_533 rfl ?_
  refine lv_aload_n hx9 hb9 dL_law_534 rfl (lv_at hl 2 rfl) ?_
  refine lv_aload_n hx9 hb9 dL_law_535 rfl (lv_at hl 0 rfl) ?_
  refine lv_iload hx9 hb9 dL_law_536 (lv_at hl 4 rfl) ?_
  refine lv_iconst (v := 1) hx9 hb9 dL_law_538 (by decide) ?_
  refine lv_iadd hx9 hb9 dL_law_539 ?_
  refine va_sld (A := A0 s) hx9 hb9 hX hbl hbA hS v1 dL_law_540 ?_
  refine lv_aload_n hx9 hb9 dL_law_541 rfl (lv_at hl 0 rfl) ?_
  refine lv_iload hx9 hb9 dL_law_542 (lv_at hl 4 rfl) ?_
  refine lv_iconst (v := 2) hx9 hb9 dL_law_544 (by decide) ?_
  refine lv_iadd hx9 hb9 dL_law_545 ?_
  refine va_sld (A := A0 s) hx9 hb9 hX hbl hbA hS v2 dL_law_546 ?_
  refine lv_aload_n hx9 hb9 dL_law_547 rfl (lv_at hl 0 rfl) ?_
  refine lv_iload hx9 hb9 dL_law_548 (lv_at hl 4 rfl) ?_
  refine lv_iconst (v := 3) hx9 hb9 dL_law_550 (by decide) ?_
  refine lv_iadd hx9 hb9 dL_law_551 ?_
  refine va_sld (A := A0 s) hx9 hb9 hX hbl hbA hS v3 dL_law_552 ?_
  refine l_Vl (As := [.int (xs (i + 1).toNatClampNeg), .int (xs (i + 2).toNatClampNeg), .int (xs (i + 3).toNatClampNeg)]) S (M12_law l D cy (s.heap.size + 110) (Aw (s.heap.size + 110) 43) false em) gL_12_law rfl rfl rfl cdL_12_law ⟨Nat.le_of_ble_eq_true rfl, Nat.le_of_ble_eq_true rfl⟩ I2 (Nat.le_add_right _ _) (m_ok L0.2.1).1 clX12 rfl rfl hl.1 rfl (Nat.le_of_ble_eq_true rfl) dL_law_553 ⟨Nat.le_trans (Nat.add_le_add_right hc.1 _) (Nat.le_of_ble_eq_true rfl), Nat.le_trans (Nat.add_le_add_right hc.2 _) (Nat.le_of_ble_eq_true rfl)⟩ (fun H2 locs2 J2 hk2 => ?_)
  have J1 := LM_kept J1 (A := Aw (s.heap.size + 110) 43) (fun i hi z => by have := z.1; omega) hk2 J2.2.2.1
  have I3 := LM_kept I3 (A := Aw (s.heap.size + 110) 43) (fun i hi z => by have := z.2; omega) hk2 J2.2.2.1
  refine lv_pop2_2 hx9 hb9 dL_law_556 rfl ?_
  refine lv_goto (tgt := 1526) hx9 hb9 dL_law_557 (by decide) ?_
  refine W.widen (k := cl + 1) (n := sl + 6) (Nat.le_succ _) (Nat.le_add_right _ _) ?_
  exact K _ _ _ _ _ _ ⟨J1, J2, I3, L1⟩ hl
set_option maxHeartbeats 1000000 in
theorem lc_560 (S : CallFix p m c cL_law 7 s #[Value.ref b] lw_tbl RL) (hX : va_X b L xs s s.heap) (hbl : b < s.heap.size) {hx hm : PH} {f : Nat → Int64} (I : LW D cy hx hm f s H locs) {i : Int32} (hin : IN i L) {cl sl : Nat} (hc : cl ≤ 1000 ∧ sl ≤ 20000) (hl : lv_has ls 7 (LV b s i)) (K : ∀ (hx' hm' : PH) (f' : Nat → Int64) (H' : Heap) (locs' : List Loc) (ls' : Array Slot), LW D cy hx' hm' f' s H' locs' → lv_has ls' 7 (LV b s i) → W p l e room_1 s m #[Value.ref b] below meth c H' locs' (cl + 1) (sl + 6) (lw_Z below #[Value.ref b] s) (F0 m 1526 ls' [])) : W p l e room_1 s m #[Value.ref b] below meth c H locs cl sl (lw_Z below #[Value.ref b] s) (F0 m 560 ls []) := by
  have hbA : ¬ A0 s b := Nat.not_le.mpr hbl
  have hx9 := S.1
  have hb9 := S.2.1
  obtain ⟨I1, I2, I3, L0⟩ := I
  have hS := I1.2.2.1
  obtain ⟨_, v1, v2, v3, v4, v5⟩ := hin
  obtain ⟨a, hx', hm', ex, em, L1⟩ := p_stroke L0 (xs (i + 1).toNatClampNeg) (xs (i + 2).toNatClampNeg)
  refine lv_aload_n hx9 hb9 dL_law_560 rfl (lv_at hl 1 rfl) ?_
  refine lv_aload_n hx9 hb9 dL_law_561 rfl (lv_at hl 0 rfl) ?_
  refine lv_iload hx9 hb9 dL_law_562 (lv_at hl 4 rfl) ?_
  refine lv_iconst (v := 1) hx9 hb9 dL_law_564 (by decide) ?_
  refine lv_iadd hx9 hb9 dL_law_565 ?_
  refine va_sld (A := A0 s) hx9 hb9 hX hbl hbA hS v1 dL_law_566 ?_
  refine lv_aload_n hx9 hb9 dL_law_567 rfl (lv_at hl 0 rfl) ?_
  refine lv_iload hx9 hb9 dL_law_568 (lv_at hl 4 rfl) ?_
  refine lv_iconst (v := 2) hx9 hb9 dL_law_570 (by decide) ?_
  refine lv_iadd hx9 hb9 dL_law_571 ?_
  refine va_sld (A := A0 s) hx9 hb9 hX hbl hbA hS v2 dL_law_572 ?_
  refine l_Vi (As := [.int (xs (i + 1).toNatClampNeg), .int (xs (i + 2).toNatClampNeg)]) S (M11_stroke l D cy s.heap.size (Aw s.heap.size 110) ex) gL_11_stroke rfl rfl rfl cdL_11_stroke ⟨Nat.le_of_ble_eq_true rfl, Nat.le_of_ble_eq_true rfl⟩ I1 (Nat.le_refl _) (x_ok L0.1).1 clX11 rfl rfl hl.1 rfl (Nat.le_of_ble_eq_true rfl) dL_law_573 ⟨Nat.le_trans (Nat.add_le_add_right hc.1 _) (Nat.le_of_ble_eq_true rfl), Nat.le_trans (Nat.add_le_add_right hc.2 _) (Nat.le_of_ble_eq_true rfl)⟩ (fun H1 locs1 J1 hk1 => ?_)
  have I2 := LM_kept I2 (A := Aw s.heap.size 110) (fun i hi z => by have := z.2; omega) hk1 J1.2.2.1
  have I3 := LM_kept I3 (A := Aw s.heap.size 110) (fun i hi z => by have := z.2; omega) hk1 J1.2.2.1
  have hS := I2.2.2.1
  refine lv_pop hx9 hb9 dL_law_576 rfl ?_
  refine lv_aload_n hx9 hb9 dL_law_577 rfl (lv_at hl 2 rfl) ?_
  refine lv_aload_n hx9 hb9 dL_law_578 rfl (lv_at hl 0 rfl) ?_
  refine lv_iload hx9 hb9 dL_law_579 (lv_at hl 4 rfl) ?_
  refine lv_iconst (v := 1) hx9 hb9 dL_law_581 (by decide) ?_
  refine lv_iadd hx9 hb9 dL_law_582 ?_
  refine va_sld (A := A0 s) hx9 hb9 hX hbl hbA hS v1 dL_law_583 ?_
  refine lv_aload_n hx9 hb9 dL_law_584 rfl (lv_at hl 0 rfl) ?_
  refine lv_iload hx9 hb9 dL_law_585 (lv_at hl 4 rfl) ?_
  refine lv_iconst (v := 2) hx9 hb9 dL_law_587 (by decide) ?_
  refine lv_iadd hx9 hb9 dL_law_588 ?_
  refine va_sld (A := A0 s) hx9 hb9 hX hbl hbA hS v2 dL_law_589 ?_
  refine l_Vi (As := [.int (xs (i + 1).toNatClampNeg), .int (xs (i + 2).toNatClampNeg)]) S (M12_stroke l D cy (s.heap.size + 110) (Aw (s.heap.size + 110) 43) false em) gL_12_stroke rfl rfl rfl cdL_12_stroke ⟨Nat.le_of_ble_eq_true rfl, Nat.le_of_ble_eq_true rfl⟩ I2 (Nat.le_add_right _ _) (m_ok L0.2.1).1 clX12 rfl rfl hl.1 rfl (Nat.le_of_ble_eq_true rfl) dL_law_590 ⟨Nat.le_trans (Nat.add_le_add_right hc.1 _) (Nat.le_of_ble_eq_true rfl), Nat.le_trans (Nat.add_le_add_right hc.2 _) (Nat.le_of_ble_eq_true rfl)⟩ (fun H2 locs2 J2 hk2 => ?_)
  have J1 := LM_kept J1 (A := Aw (s.heap.size + 110) 43) (fun i hi z => by have := z.1; omega) hk2 J2.2.2.1
  have I3 := LM_kept I3 (A := Aw (s.heap.size + 110) 43) (fun i hi z => by have := z.2; omega) hk2 J2.2.2.1
  refine lv_pop hx9 hb9 dL_law_593 rfl ?_
  refine lv_goto (tgt := 1526) hx9 hb9 dL_law_594 (by decide) ?_
  refine W.widen (k := cl + 1) (n := sl + 6) (Nat.le_succ _) (Nat.le_add_right _ _) ?_
  exact K _ _ _ _ _ _ ⟨J1, J2, I3, L1⟩ hl
set_option maxHeartbeats 1000000 in
theorem lc_597 (S : CallFix p m c cL_law 7 s #[Value.ref b] lw_tbl RL) (hX : va_X b L xs s s.heap) (hbl : b < s.heap.size) {hx hm : PH} {f : Nat → Int64} (I : LW D cy hx hm f s H locs) {i : Int32} (hin : IN i L) {cl sl : Nat} (hc : cl ≤ 1000 ∧ sl ≤ 20000) (hl : lv_has ls 7 (LV b s i)) (K : ∀ (hx' hm' : PH) (f' : Nat → Int64) (H' : Heap) (locs' : List Loc) (ls' : Array Slot), LW D cy hx' hm' f' s H' locs' → lv_has ls' 7 (LV b s i) → W p l e room_1 s m #[Value.ref b] below meth c H' locs' (cl + 1) (sl + 6) (lw_Z below #[Value.ref b] s) (F0 m 1526 ls' [])) : W p l e room_1 s m #[Value.ref b] below meth c H locs cl sl (lw_Z below #[Value.ref b] s) (F0 m 597 ls []) := by
  have hbA : ¬ A0 s b := Nat.not_le.mpr hbl
  have hx9 := S.1
  have hb9 := S.2.1
  obtain ⟨I1, I2, I3, L0⟩ := I
  have hS := I1.2.2.1
  obtain ⟨_, v1, v2, v3, v4, v5⟩ := hin
  obtain ⟨a, hx', hm', ex, em, L1⟩ := p_rule L0 (xs (i + 1).toNatClampNeg)
  refine lv_aload_n hx9 hb9 dL_law_597 rfl (lv_at hl 1 rfl) ?_
  refine lv_aload_n hx9 hb9 dL_law_598 rfl (lv_at hl 0 rfl) ?_
  refine lv_iload hx9 hb9 dL_law_599 (lv_at hl 4 rfl) ?_
  refine lv_iconst (v := 1) hx9 hb9 dL_law_601 (by decide) ?_
  refine lv_iadd hx9 hb9 dL_law_602 ?_
  refine va_sld (A := A0 s) hx9 hb9 hX hbl hbA hS v1 dL_law_603 ?_
  refine l_Vi (As := [.int (xs (i + 1).toNatClampNeg)]) S (M11_rule l D cy s.heap.size (Aw s.heap.size 110) ex) gL_11_rule rfl rfl rfl cdL_11_rule ⟨Nat.le_of_ble_eq_true rfl, Nat.le_of_ble_eq_true rfl⟩ I1 (Nat.le_refl _) (x_ok L0.1).1 clX11 rfl rfl hl.1 rfl (Nat.le_of_ble_eq_true rfl) dL_law_604 ⟨Nat.le_trans (Nat.add_le_add_right hc.1 _) (Nat.le_of_ble_eq_true rfl), Nat.le_trans (Nat.add_le_add_right hc.2 _) (Nat.le_of_ble_eq_true rfl)⟩ (fun H1 locs1 J1 hk1 => ?_)
  have I2 := LM_kept I2 (A := Aw s.heap.size 110) (fun i hi z => by have := z.2; omega) hk1 J1.2.2.1
  have I3 := LM_kept I3 (A := Aw s.heap.size 110) (fun i hi z => by have := z.2; omega) hk1 J1.2.2.1
  have hS := I2.2.2.1
  refine lv_pop hx9 hb9 dL_law_607 rfl ?_
  refine lv_aload_n hx9 hb9 dL_law_608 rfl (lv_at hl 2 rfl) ?_
  refine lv_aload_n hx9 hb9 dL_law_609 rfl (lv_at hl 0 rfl) ?_
  refine lv_iload hx9 hb9 dL_law_610 (lv_at hl 4 rfl) ?_
  refine lv_iconst (v := 1) hx9 hb9 dL_law_612 (by decide) ?_
  refine lv_iadd hx9 hb9 dL_law_613 ?_
  refine va_sld (A := A0 s) hx9 hb9 hX hbl hbA hS v1 dL_law_614 ?_
  refine l_Vi (As := [.int (xs (i + 1).toNatClampNeg)]) S (M12_rule l D cy (s.heap.size + 110) (Aw (s.heap.size + 110) 43) false em) gL_12_rule rfl rfl rfl cdL_12_rule ⟨Nat.le_of_ble_eq_true rfl, Nat.le_of_ble_eq_true rfl⟩ I2 (Nat.le_add_right _ _) (m_ok L0.2.1).1 clX12 rfl rfl hl.1 rfl (Nat.le_of_ble_eq_true rfl) dL_law_615 ⟨Nat.le_trans (Nat.add_le_add_right hc.1 _) (Nat.le_of_ble_eq_true rfl), Nat.le_trans (Nat.add_le_add_right hc.2 _) (Nat.le_of_ble_eq_true rfl)⟩ (fun H2 locs2 J2 hk2 => ?_)
  have J1 := LM_kept J1 (A := Aw (s.heap.size + 110) 43) (fun i hi z => by have := z.1; omega) hk2 J2.2.2.1
  have I3 := LM_kept I3 (A := Aw (s.heap.size + 110) 43) (fun i hi z => by have := z.2; omega) hk2 J2.2.2.1
  refine lv_pop hx9 hb9 dL_law_618 rfl ?_
  refine lv_goto (tgt := 1526) hx9 hb9 dL_law_619 (by decide) ?_
  refine W.widen (k := cl + 1) (n := sl + 6) (Nat.le_succ _) (Nat.le_add_right _ _) ?_
  exact K _ _ _ _ _ _ ⟨J1, J2, I3, L1⟩ hl
set_option maxHeartbeats 1000000 in
theorem lc_622 (S : CallFix p m c cL_law 7 s #[Value.ref b] lw_tbl RL) (hX : va_X b L xs s s.heap) (hbl : b < s.heap.size) {hx hm : PH} {f : Nat → Int64} (I : LW D cy hx hm f s H locs) {i : Int32} (hin : IN i L) {cl sl : Nat} (hc : cl ≤ 1000 ∧ sl ≤ 20000) (hl : lv_has ls 7 (LV b s i)) (K : ∀ (hx' hm' : PH) (f' : Nat → Int64) (H' : Heap) (locs' : List Loc) (ls' : Array Slot), LW D cy hx' hm' f' s H' locs' → lv_has ls' 7 (LV b s i) → W p l e room_1 s m #[Value.ref b] below meth c H' locs' (cl + 1) (sl + 6) (lw_Z below #[Value.ref b] s) (F0 m 1526 ls' [])) : W p l e room_1 s m #[Value.ref b] below meth c H locs cl sl (lw_Z below #[Value.ref b] s) (F0 m 622 ls []) := by
  have hbA : ¬ A0 s b := Nat.not_le.mpr hbl
  have hx9 := S.1
  have hb9 := S.2.1
  obtain ⟨I1, I2, I3, L0⟩ := I
  have hS := I1.2.2.1
  obtain ⟨_, v1, v2, v3, v4, v5⟩ := hin
  obtain ⟨a, hx', hm', ex, em, L1⟩ := p_minutes L0 (xs (i + 1).toNatClampNeg)
  refine lv_aload_n hx9 hb9 dL_law_622 rfl (lv_at hl 1 rfl) ?_
  refine lv_aload_n hx9 hb9 dL_law_623 rfl (lv_at hl 0 rfl) ?_
  refine lv_iload hx9 hb9 dL_law_624 (lv_at hl 4 rfl) ?_
  refine lv_iconst (v := 1) hx9 hb9 dL_law_626 (by decide) ?_
  refine lv_iadd hx9 hb9 dL_law_627 ?_
  refine va_sld (A := A0 s) hx9 hb9 hX hbl hbA hS v1 dL_law_628 ?_
  refine l_Vi (As := [.int (xs (i + 1).toNatClampNeg)]) S (M11_minutes l D cy s.heap.size (Aw s.heap.size 110) false ex) gL_11_minutes rfl rfl rfl cdL_11_minutes ⟨Nat.le_of_ble_eq_true rfl, Nat.le_of_ble_eq_true rfl⟩ I1 (Nat.le_refl _) (x_ok L0.1).1 clX11 rfl rfl hl.1 rfl (Nat.le_of_ble_eq_true rfl) dL_law_629 ⟨Nat.le_trans (Nat.add_le_add_right hc.1 _) (Nat.le_of_ble_eq_true rfl), Nat.le_trans (Nat.add_le_add_right hc.2 _) (Nat.le_of_ble_eq_true rfl)⟩ (fun H1 locs1 J1 hk1 => ?_)
  have I2 := LM_kept I2 (A := Aw s.heap.size 110) (fun i hi z => by have := z.2; omega) hk1 J1.2.2.1
  have I3 := LM_kept I3 (A := Aw s.heap.size 110) (fun i hi z => by have := z.2; omega) hk1 J1.2.2.1
  have hS := I2.2.2.1
  refine lv_pop hx9 hb9 dL_law_632 rfl ?_
  refine lv_aload_n hx9 hb9 dL_law_633 rfl (lv_at hl 2 rfl) ?_
  refine lv_aload_n hx9 hb9 dL_law_634 rfl (lv_at hl 0 rfl) ?_
  refine lv_iload hx9 hb9 dL_law_635 (lv_at hl 4 rfl) ?_
  refine lv_iconst (v := 1) hx9 hb9 dL_law_637 (by decide) ?_
  refine lv_iadd hx9 hb9 dL_law_638 ?_
  refine va_sld (A := A0 s) hx9 hb9 hX hbl hbA hS v1 dL_law_639 ?_
  refine l_Vi (As := [.int (xs (i + 1).toNatClampNeg)]) S (M12_minutes l D cy (s.heap.size + 110) (Aw (s.heap.size + 110) 43) false em) gL_12_minutes rfl rfl rfl cdL_12_minutes ⟨Nat.le_of_ble_eq_true rfl, Nat.le_of_ble_eq_true rfl⟩ I2 (Nat.le_add_right _ _) (m_ok L0.2.1).1 clX12 rfl rfl hl.1 rfl (Nat.le_of_ble_eq_true rfl) dL_law_640 ⟨Nat.le_trans (Nat.add_le_add_right hc.1 _) (Nat.le_of_ble_eq_true rfl), Nat.le_trans (Nat.add_le_add_right hc.2 _) (Nat.le_of_ble_eq_true rfl)⟩ (fun H2 locs2 J2 hk2 => ?_)
  have J1 := LM_kept J1 (A := Aw (s.heap.size + 110) 43) (fun i hi z => by have := z.1; omega) hk2 J2.2.2.1
  have I3 := LM_kept I3 (A := Aw (s.heap.size + 110) 43) (fun i hi z => by have := z.2; omega) hk2 J2.2.2.1
  refine lv_pop hx9 hb9 dL_law_643 rfl ?_
  refine lv_goto (tgt := 1526) hx9 hb9 dL_law_644 (by decide) ?_
  refine W.widen (k := cl + 1) (n := sl + 6) (Nat.le_succ _) (Nat.le_add_right _ _) ?_
  exact K _ _ _ _ _ _ ⟨J1, J2, I3, L1⟩ hl
set_option maxHeartbeats 1000000 in
theorem lc_647 (S : CallFix p m c cL_law 7 s #[Value.ref b] lw_tbl RL) (hX : va_X b L xs s s.heap) (hbl : b < s.heap.size) {hx hm : PH} {f : Nat → Int64} (I : LW D cy hx hm f s H locs) {i : Int32} (hin : IN i L) {cl sl : Nat} (hc : cl ≤ 1000 ∧ sl ≤ 20000) (hl : lv_has ls 7 (LV b s i)) (K : ∀ (hx' hm' : PH) (f' : Nat → Int64) (H' : Heap) (locs' : List Loc) (ls' : Array Slot), LW D cy hx' hm' f' s H' locs' → lv_has ls' 7 (LV b s i) → W p l e room_1 s m #[Value.ref b] below meth c H' locs' (cl + 1) (sl + 6) (lw_Z below #[Value.ref b] s) (F0 m 1526 ls' [])) : W p l e room_1 s m #[Value.ref b] below meth c H locs cl sl (lw_Z below #[Value.ref b] s) (F0 m 647 ls []) := by
  have hbA : ¬ A0 s b := Nat.not_le.mpr hbl
  have hx9 := S.1
  have hb9 := S.2.1
  obtain ⟨I1, I2, I3, L0⟩ := I
  have hS := I1.2.2.1
  obtain ⟨_, v1, v2, v3, v4, v5⟩ := hin
  obtain ⟨a, hx', hm', ex, em, L1⟩ := p_order L0 (xs (i + 1).toNatClampNeg) (xs (i + 2).toNatClampNeg)
  refine lv_aload_n hx9 hb9 dL_law_647 rfl (lv_at hl 1 rfl) ?_
  refine lv_aload_n hx9 hb9 dL_law_648 rfl (lv_at hl 0 rfl) ?_
  refine lv_iload hx9 hb9 dL_law_649 (lv_at hl 4 rfl) ?_
  refine lv_iconst (v := 1) hx9 hb9 dL_law_651 (by decide) ?_
  refine lv_iadd hx9 hb9 dL_law_652 ?_
  refine va_sld (A := A0 s) hx9 hb9 hX hbl hbA hS v1 dL_law_653 ?_
  refine lv_aload_n hx9 hb9 dL_law_654 rfl (lv_at hl 0 rfl) ?_
  refine lv_iload hx9 hb9 dL_law_655 (lv_at hl 4 rfl) ?_
  refine lv_iconst (v := 2) hx9 hb9 dL_law_657 (by decide) ?_
  refine lv_iadd hx9 hb9 dL_law_658 ?_
  refine va_sld (A := A0 s) hx9 hb9 hX hbl hbA hS v2 dL_law_659 ?_
  refine l_Vi (As := [.int (xs (i + 1).toNatClampNeg), .int (xs (i + 2).toNatClampNeg)]) S (M11_order l D cy s.heap.size (Aw s.heap.size 110) false ex) gL_11_order rfl rfl rfl cdL_11_order ⟨Nat.le_of_ble_eq_true rfl, Nat.le_of_ble_eq_true rfl⟩ I1 (Nat.le_refl _) (x_ok L0.1).1 clX11 rfl rfl hl.1 rfl (Nat.le_of_ble_eq_true rfl) dL_law_660 ⟨Nat.le_trans (Nat.add_le_add_right hc.1 _) (Nat.le_of_ble_eq_true rfl), Nat.le_trans (Nat.add_le_add_right hc.2 _) (Nat.le_of_ble_eq_true rfl)⟩ (fun H1 locs1 J1 hk1 => ?_)
  have I2 := LM_kept I2 (A := Aw s.heap.size 110) (fun i hi z => by have := z.2; omega) hk1 J1.2.2.1
  have I3 := LM_kept I3 (A := Aw s.heap.size 110) (fun i hi z => by have := z.2; omega) hk1 J1.2.2.1
  have hS := I2.2.2.1
  refine lv_pop hx9 hb9 dL_law_663 rfl ?_
  refine lv_aload_n hx9 hb9 dL_law_664 rfl (lv_at hl 2 rfl) ?_
  refine lv_aload_n hx9 hb9 dL_law_665 rfl (lv_at hl 0 rfl) ?_
  refine lv_iload hx9 hb9 dL_law_666 (lv_at hl 4 rfl) ?_
  refine lv_iconst (v := 1) hx9 hb9 dL_law_668 (by decide) ?_
  refine lv_iadd hx9 hb9 dL_law_669 ?_
  refine va_sld (A := A0 s) hx9 hb9 hX hbl hbA hS v1 dL_law_670 ?_
  refine lv_aload_n hx9 hb9 dL_law_671 rfl (lv_at hl 0 rfl) ?_
  refine lv_iload hx9 hb9 dL_law_672 (lv_at hl 4 rfl) ?_
  refine lv_iconst (v := 2) hx9 hb9 dL_law_674 (by decide) ?_
  refine lv_iadd hx9 hb9 dL_law_675 ?_
  refine va_sld (A := A0 s) hx9 hb9 hX hbl hbA hS v2 dL_law_676 ?_
  refine l_Vi (As := [.int (xs (i + 1).toNatClampNeg), .int (xs (i + 2).toNatClampNeg)]) S (M12_order l D cy (s.heap.size + 110) (Aw (s.heap.size + 110) 43) false em) gL_12_order rfl rfl rfl cdL_12_order ⟨Nat.le_of_ble_eq_true rfl, Nat.le_of_ble_eq_true rfl⟩ I2 (Nat.le_add_right _ _) (m_ok L0.2.1).1 clX12 rfl rfl hl.1 rfl (Nat.le_of_ble_eq_true rfl) dL_law_677 ⟨Nat.le_trans (Nat.add_le_add_right hc.1 _) (Nat.le_of_ble_eq_true rfl), Nat.le_trans (Nat.add_le_add_right hc.2 _) (Nat.le_of_ble_eq_true rfl)⟩ (fun H2 locs2 J2 hk2 => ?_)
  have J1 := LM_kept J1 (A := Aw (s.heap.size + 110) 43) (fun i hi z => by have := z.1; omega) hk2 J2.2.2.1
  have I3 := LM_kept I3 (A := Aw (s.heap.size + 110) 43) (fun i hi z => by have := z.2; omega) hk2 J2.2.2.1
  refine lv_pop hx9 hb9 dL_law_680 rfl ?_
  refine lv_goto (tgt := 1526) hx9 hb9 dL_law_681 (by decide) ?_
  refine W.widen (k := cl + 1) (n := sl + 6) (Nat.le_succ _) (Nat.le_add_right _ _) ?_
  exact K _ _ _ _ _ _ ⟨J1, J2, I3, L1⟩ hl
set_option maxHeartbeats 1000000 in
theorem lc_684 (S : CallFix p m c cL_law 7 s #[Value.ref b] lw_tbl RL) (hX : va_X b L xs s s.heap) (hbl : b < s.heap.size) {hx hm : PH} {f : Nat → Int64} (I : LW D cy hx hm f s H locs) {i : Int32} (hin : IN i L) {cl sl : Nat} (hc : cl ≤ 1000 ∧ sl ≤ 20000) (hl : lv_has ls 7 (LV b s i)) (K : ∀ (hx' hm' : PH) (f' : Nat → Int64) (H' : Heap) (locs' : List Loc) (ls' : Array Slot), LW D cy hx' hm' f' s H' locs' → lv_has ls' 7 (LV b s i) → W p l e room_1 s m #[Value.ref b] below meth c H' locs' (cl + 1) (sl + 6) (lw_Z below #[Value.ref b] s) (F0 m 1526 ls' [])) : W p l e room_1 s m #[Value.ref b] below meth c H locs cl sl (lw_Z below #[Value.ref b] s) (F0 m 684 ls []) := by
  have hbA : ¬ A0 s b := Nat.not_le.mpr hbl
  have hx9 := S.1
  have hb9 := S.2.1
  obtain ⟨I1, I2, I3, L0⟩ := I
  have hS := I1.2.2.1
  obtain ⟨_, v1, v2, v3, v4, v5⟩ := hin
  obtain ⟨a, hx', hm', ex, em, L1⟩ := p_deeper L0 (xs (i + 1).toNatClampNeg) (xs (i + 2).toNatClampNeg)
  refine lv_aload_n hx9 hb9 dL_law_684 rfl (lv_at hl 1 rfl) ?_
  refine lv_aload_n hx9 hb9 dL_law_685 rfl (lv_at hl 0 rfl) ?_
  refine lv_iload hx9 hb9 dL_law_686 (lv_at hl 4 rfl) ?_
  refine lv_iconst (v := 1) hx9 hb9 dL_law_688 (by decide) ?_
  refine lv_iadd hx9 hb9 dL_law_689 ?_
  refine va_sld (A := A0 s) hx9 hb9 hX hbl hbA hS v1 dL_law_690 ?_
  refine lv_aload_n hx9 hb9 dL_law_691 rfl (lv_at hl 0 rfl) ?_
  refine lv_iload hx9 hb9 dL_law_692 (lv_at hl 4 rfl) ?_
  refine lv_iconst (v := 2) hx9 hb9 dL_law_694 (by decide) ?_
  refine lv_iadd hx9 hb9 dL_law_695 ?_
  refine va_sld (A := A0 s) hx9 hb9 hX hbl hbA hS v2 dL_law_696 ?_
  refine l_Vi (As := [.int (xs (i + 1).toNatClampNeg), .int (xs (i + 2).toNatClampNeg)]) S (M11_deeper l D cy s.heap.size (Aw s.heap.size 110) false ex) gL_11_deeper rfl rfl rfl cdL_11_deeper ⟨Nat.le_of_ble_eq_true rfl, Nat.le_of_ble_eq_true rfl⟩ I1 (Nat.le_refl _) (x_ok L0.1).1 clX11 rfl rfl hl.1 rfl (Nat.le_of_ble_eq_true rfl) dL_law_697 ⟨Nat.le_trans (Nat.add_le_add_right hc.1 _) (Nat.le_of_ble_eq_true rfl), Nat.le_trans (Nat.add_le_add_right hc.2 _) (Nat.le_of_ble_eq_true rfl)⟩ (fun H1 locs1 J1 hk1 => ?_)
  have I2 := LM_kept I2 (A := Aw s.heap.size 110) (fun i hi z => by have := z.2; omega) hk1 J1.2.2.1
  have I3 := LM_kept I3 (A := Aw s.heap.size 110) (fun i hi z => by have := z.2; omega) hk1 J1.2.2.1
  have hS := I2.2.2.1
  refine lv_pop hx9 hb9 dL_law_700 rfl ?_
  refine lv_aload_n hx9 hb9 dL_law_701 rfl (lv_at hl 2 rfl) ?_
  refine lv_aload_n hx9 hb9 dL_law_702 rfl (lv_at hl 0 rfl) ?_
  refine lv_iload hx9 hb9 dL_law_703 (lv_at hl 4 rfl) ?_
  refine lv_iconst (v := 1) hx9 hb9 dL_law_705 (by decide) ?_
  refine lv_iadd hx9 hb9 dL_law_706 ?_
  refine va_sld (A := A0 s) hx9 hb9 hX hbl hbA hS v1 dL_law_707 ?_
  refine lv_aload_n hx9 hb9 dL_law_708 rfl (lv_at hl 0 rfl) ?_
  refine lv_iload hx9 hb9 dL_law_709 (lv_at hl 4 rfl) ?_
  refine lv_iconst (v := 2) hx9 hb9 dL_law_711 (by decide) ?_
  refine lv_iadd hx9 hb9 dL_law_712 ?_
  refine va_sld (A := A0 s) hx9 hb9 hX hbl hbA hS v2 dL_law_713 ?_
  refine l_Vi (As := [.int (xs (i + 1).toNatClampNeg), .int (xs (i + 2).toNatClampNeg)]) S (M12_deeper l D cy (s.heap.size + 110) (Aw (s.heap.size + 110) 43) false em) gL_12_deeper rfl rfl rfl cdL_12_deeper ⟨Nat.le_of_ble_eq_true rfl, Nat.le_of_ble_eq_true rfl⟩ I2 (Nat.le_add_right _ _) (m_ok L0.2.1).1 clX12 rfl rfl hl.1 rfl (Nat.le_of_ble_eq_true rfl) dL_law_714 ⟨Nat.le_trans (Nat.add_le_add_right hc.1 _) (Nat.le_of_ble_eq_true rfl), Nat.le_trans (Nat.add_le_add_right hc.2 _) (Nat.le_of_ble_eq_true rfl)⟩ (fun H2 locs2 J2 hk2 => ?_)
  have J1 := LM_kept J1 (A := Aw (s.heap.size + 110) 43) (fun i hi z => by have := z.1; omega) hk2 J2.2.2.1
  have I3 := LM_kept I3 (A := Aw (s.heap.size + 110) 43) (fun i hi z => by have := z.2; omega) hk2 J2.2.2.1
  refine lv_pop hx9 hb9 dL_law_717 rfl ?_
  refine lv_goto (tgt := 1526) hx9 hb9 dL_law_718 (by decide) ?_
  refine W.widen (k := cl + 1) (n := sl + 6) (Nat.le_succ _) (Nat.le_add_right _ _) ?_
  exact K _ _ _ _ _ _ ⟨J1, J2, I3, L1⟩ hl
set_option maxHeartbeats 1000000 in
theorem lc_721 (S : CallFix p m c cL_law 7 s #[Value.ref b] lw_tbl RL) (hX : va_X b L xs s s.heap) (hbl : b < s.heap.size) {hx hm : PH} {f : Nat → Int64} (I : LW D cy hx hm f s H locs) {i : Int32} (hin : IN i L) {cl sl : Nat} (hc : cl ≤ 1000 ∧ sl ≤ 20000) (hl : lv_has ls 7 (LV b s i)) (K : ∀ (hx' hm' : PH) (f' : Nat → Int64) (H' : Heap) (locs' : List Loc) (ls' : Array Slot), LW D cy hx' hm' f' s H' locs' → lv_has ls' 7 (LV b s i) → W p l e room_1 s m #[Value.ref b] below meth c H' locs' (cl + 1) (sl + 6) (lw_Z below #[Value.ref b] s) (F0 m 1526 ls' [])) : W p l e room_1 s m #[Value.ref b] below meth c H locs cl sl (lw_Z below #[Value.ref b] s) (F0 m 721 ls []) := by
  have hbA : ¬ A0 s b := Nat.not_le.mpr hbl
  have hx9 := S.1
  have hb9 := S.2.1
  obtain ⟨I1, I2, I3, L0⟩ := I
  have hS := I1.2.2.1
  obtain ⟨_, v1, v2, v3, v4, v5⟩ := hin
  obtain ⟨a, hx', hm', ex, em, L1⟩ := p_seat L0 (xs (i + 1).toNatClampNeg) (xs (i + 2).toNatClampNeg)
  refine lv_aload_n hx9 hb9 dL_law_721 rfl (lv_at hl 1 rfl) ?_
  refine lv_aload_n hx9 hb9 dL_law_722 rfl (lv_at hl 0 rfl) ?_
  refine lv_iload hx9 hb9 dL_law_723 (lv_at hl 4 rfl) ?_
  refine lv_iconst (v := 1) hx9 hb9 dL_law_725 (by decide) ?_
  refine lv_iadd hx9 hb9 dL_law_726 ?_
  refine va_sld (A := A0 s) hx9 hb9 hX hbl hbA hS v1 dL_law_727 ?_
  refine lv_aload_n hx9 hb9 dL_law_728 rfl (lv_at hl 0 rfl) ?_
  refine lv_iload hx9 hb9 dL_law_729 (lv_at hl 4 rfl) ?_
  refine lv_iconst (v := 2) hx9 hb9 dL_law_731 (by decide) ?_
  refine lv_iadd hx9 hb9 dL_law_732 ?_
  refine va_sld (A := A0 s) hx9 hb9 hX hbl hbA hS v2 dL_law_733 ?_
  refine l_Vi (As := [.int (xs (i + 1).toNatClampNeg), .int (xs (i + 2).toNatClampNeg)]) S (M11_seat l D cy s.heap.size (Aw s.heap.size 110) false ex) gL_11_seat rfl rfl rfl cdL_11_seat ⟨Nat.le_of_ble_eq_true rfl, Nat.le_of_ble_eq_true rfl⟩ I1 (Nat.le_refl _) (x_ok L0.1).1 clX11 rfl rfl hl.1 rfl (Nat.le_of_ble_eq_true rfl) dL_law_734 ⟨Nat.le_trans (Nat.add_le_add_right hc.1 _) (Nat.le_of_ble_eq_true rfl), Nat.le_trans (Nat.add_le_add_right hc.2 _) (Nat.le_of_ble_eq_true rfl)⟩ (fun H1 locs1 J1 hk1 => ?_)
  have I2 := LM_kept I2 (A := Aw s.heap.size 110) (fun i hi z => by have := z.2; omega) hk1 J1.2.2.1
  have I3 := LM_kept I3 (A := Aw s.heap.size 110) (fun i hi z => by have := z.2; omega) hk1 J1.2.2.1
  have hS := I2.2.2.1
  refine lv_pop hx9 hb9 dL_law_737 rfl ?_
  refine lv_aload_n hx9 hb9 dL_law_738 rfl (lv_at hl 2 rfl) ?_
  refine lv_aload_n hx9 hb9 dL_law_739 rfl (lv_at hl 0 rfl) ?_
  refine lv_iload hx9 hb9 dL_law_740 (lv_at hl 4 rfl) ?_
  refine lv_iconst (v := 1) hx9 hb9 dL_law_742 (by decide) ?_
  refine lv_iadd hx9 hb9 dL_law_743 ?_
  refine va_sld (A := A0 s) hx9 hb9 hX hbl hbA hS v1 dL_law_744 ?_
  refine lv_aload_n hx9 hb9 dL_law_745 rfl (lv_at hl 0 rfl) ?_
  refine lv_iload hx9 hb9 dL_law_746 (lv_at hl 4 rfl) ?_
  refine lv_iconst (v := 2) hx9 hb9 dL_law_748 (by decide) ?_
  refine lv_iadd hx9 hb9 dL_law_749 ?_
  refine va_sld (A := A0 s) hx9 hb9 hX hbl hbA hS v2 dL_law_750 ?_
  refine l_Vi (As := [.int (xs (i + 1).toNatClampNeg), .int (xs (i + 2).toNatClampNeg)]) S (M12_seat l D cy (s.heap.size + 110) (Aw (s.heap.size + 110) 43) false em) gL_12_seat rfl rfl rfl cdL_12_seat ⟨Nat.le_of_ble_eq_true rfl, Nat.le_of_ble_eq_true rfl⟩ I2 (Nat.le_add_right _ _) (m_ok L0.2.1).1 clX12 rfl rfl hl.1 rfl (Nat.le_of_ble_eq_true rfl) dL_law_751 ⟨Nat.le_trans (Nat.add_le_add_right hc.1 _) (Nat.le_of_ble_eq_true rfl), Nat.le_trans (Nat.add_le_add_right hc.2 _) (Nat.le_of_ble_eq_true rfl)⟩ (fun H2 locs2 J2 hk2 => ?_)
  have J1 := LM_kept J1 (A := Aw (s.heap.size + 110) 43) (fun i hi z => by have := z.1; omega) hk2 J2.2.2.1
  have I3 := LM_kept I3 (A := Aw (s.heap.size + 110) 43) (fun i hi z => by have := z.2; omega) hk2 J2.2.2.1
  refine lv_pop hx9 hb9 dL_law_754 rfl ?_
  refine lv_goto (tgt := 1526) hx9 hb9 dL_law_755 (by decide) ?_
  refine W.widen (k := cl + 1) (n := sl + 6) (Nat.le_succ _) (Nat.le_add_right _ _) ?_
  exact K _ _ _ _ _ _ ⟨J1, J2, I3, L1⟩ hl
set_option maxHeartbeats 1000000 in
theorem lc_758 (S : CallFix p m c cL_law 7 s #[Value.ref b] lw_tbl RL) (hX : va_X b L xs s s.heap) (hbl : b < s.heap.size) {hx hm : PH} {f : Nat → Int64} (I : LW D cy hx hm f s H locs) {i : Int32} (hin : IN i L) {cl sl : Nat} (hc : cl ≤ 1000 ∧ sl ≤ 20000) (hl : lv_has ls 7 (LV b s i)) (K : ∀ (hx' hm' : PH) (f' : Nat → Int64) (H' : Heap) (locs' : List Loc) (ls' : Array Slot), LW D cy hx' hm' f' s H' locs' → lv_has ls' 7 (LV b s i) → W p l e room_1 s m #[Value.ref b] below meth c H' locs' (cl + 1) (sl + 6) (lw_Z below #[Value.ref b] s) (F0 m 1526 ls' [])) : W p l e room_1 s m #[Value.ref b] below meth c H locs cl sl (lw_Z below #[Value.ref b] s) (F0 m 758 ls []) := by
  have hbA : ¬ A0 s b := Nat.not_le.mpr hbl
  have hx9 := S.1
  have hb9 := S.2.1
  obtain ⟨I1, I2, I3, L0⟩ := I
  have hS := I1.2.2.1
  obtain ⟨_, v1, v2, v3, v4, v5⟩ := hin
  obtain ⟨a, hx', hm', ex, em, L1⟩ := p_best L0 (xs (i + 1).toNatClampNeg)
  refine lv_aload_n hx9 hb9 dL_law_758 rfl (lv_at hl 1 rfl) ?_
  refine lv_aload_n hx9 hb9 dL_law_759 rfl (lv_at hl 0 rfl) ?_
  refine lv_iload hx9 hb9 dL_law_760 (lv_at hl 4 rfl) ?_
  refine lv_iconst (v := 1) hx9 hb9 dL_law_762 (by decide) ?_
  refine lv_iadd hx9 hb9 dL_law_763 ?_
  refine va_sld (A := A0 s) hx9 hb9 hX hbl hbA hS v1 dL_law_764 ?_
  refine l_Vi (As := [.int (xs (i + 1).toNatClampNeg)]) S (M11_best l D cy s.heap.size (Aw s.heap.size 110) false ex) gL_11_best rfl rfl rfl cdL_11_best ⟨Nat.le_of_ble_eq_true rfl, Nat.le_of_ble_eq_true rfl⟩ I1 (Nat.le_refl _) (x_ok L0.1).1 clX11 rfl rfl hl.1 rfl (Nat.le_of_ble_eq_true rfl) dL_law_765 ⟨Nat.le_trans (Nat.add_le_add_right hc.1 _) (Nat.le_of_ble_eq_true rfl), Nat.le_trans (Nat.add_le_add_right hc.2 _) (Nat.le_of_ble_eq_true rfl)⟩ (fun H1 locs1 J1 hk1 => ?_)
  have I2 := LM_kept I2 (A := Aw s.heap.size 110) (fun i hi z => by have := z.2; omega) hk1 J1.2.2.1
  have I3 := LM_kept I3 (A := Aw s.heap.size 110) (fun i hi z => by have := z.2; omega) hk1 J1.2.2.1
  have hS := I2.2.2.1
  refine lv_pop hx9 hb9 dL_law_768 rfl ?_
  refine lv_aload_n hx9 hb9 dL_law_769 rfl (lv_at hl 2 rfl) ?_
  refine lv_aload_n hx9 hb9 dL_law_770 rfl (lv_at hl 0 rfl) ?_
  refine lv_iload hx9 hb9 dL_law_771 (lv_at hl 4 rfl) ?_
  refine lv_iconst (v := 1) hx9 hb9 dL_law_773 (by decide) ?_
  refine lv_iadd hx9 hb9 dL_law_774 ?_
  refine va_sld (A := A0 s) hx9 hb9 hX hbl hbA hS v1 dL_law_775 ?_
  refine l_Vi (As := [.int (xs (i + 1).toNatClampNeg)]) S (M12_best l D cy (s.heap.size + 110) (Aw (s.heap.size + 110) 43) false em) gL_12_best rfl rfl rfl cdL_12_best ⟨Nat.le_of_ble_eq_true rfl, Nat.le_of_ble_eq_true rfl⟩ I2 (Nat.le_add_right _ _) (m_ok L0.2.1).1 clX12 rfl rfl hl.1 rfl (Nat.le_of_ble_eq_true rfl) dL_law_776 ⟨Nat.le_trans (Nat.add_le_add_right hc.1 _) (Nat.le_of_ble_eq_true rfl), Nat.le_trans (Nat.add_le_add_right hc.2 _) (Nat.le_of_ble_eq_true rfl)⟩ (fun H2 locs2 J2 hk2 => ?_)
  have J1 := LM_kept J1 (A := Aw (s.heap.size + 110) 43) (fun i hi z => by have := z.1; omega) hk2 J2.2.2.1
  have I3 := LM_kept I3 (A := Aw (s.heap.size + 110) 43) (fun i hi z => by have := z.2; omega) hk2 J2.2.2.1
  refine lv_pop hx9 hb9 dL_law_779 rfl ?_
  refine lv_goto (tgt := 1526) hx9 hb9 dL_law_780 (by decide) ?_
  refine W.widen (k := cl + 1) (n := sl + 6) (Nat.le_succ _) (Nat.le_add_right _ _) ?_
  exact K _ _ _ _ _ _ ⟨J1, J2, I3, L1⟩ hl
set_option maxHeartbeats 1000000 in
theorem lc_783 (S : CallFix p m c cL_law 7 s #[Value.ref b] lw_tbl RL) (hX : va_X b L xs s s.heap) (hbl : b < s.heap.size) {hx hm : PH} {f : Nat → Int64} (I : LW D cy hx hm f s H locs) {i : Int32} (hin : IN i L) {cl sl : Nat} (hc : cl ≤ 1000 ∧ sl ≤ 20000) (hl : lv_has ls 7 (LV b s i)) (K : ∀ (hx' hm' : PH) (f' : Nat → Int64) (H' : Heap) (locs' : List Loc) (ls' : Array Slot), LW D cy hx' hm' f' s H' locs' → lv_has ls' 7 (LV b s i) → W p l e room_1 s m #[Value.ref b] below meth c H' locs' (cl + 1) (sl + 6) (lw_Z below #[Value.ref b] s) (F0 m 1526 ls' [])) : W p l e room_1 s m #[Value.ref b] below meth c H locs cl sl (lw_Z below #[Value.ref b] s) (F0 m 783 ls []) := by
  have hbA : ¬ A0 s b := Nat.not_le.mpr hbl
  have hx9 := S.1
  have hb9 := S.2.1
  obtain ⟨I1, I2, I3, L0⟩ := I
  have hS := I1.2.2.1
  obtain ⟨_, v1, v2, v3, v4, v5⟩ := hin
  obtain ⟨a, hx', hm', ex, em, L1⟩ := p_rests L0 (xs (i + 1).toNatClampNeg) (xs (i + 2).toNatClampNeg)
  refine lv_aload_n hx9 hb9 dL_law_783 rfl (lv_at hl 1 rfl) ?_
  refine lv_aload_n hx9 hb9 dL_law_784 rfl (lv_at hl 0 rfl) ?_
  refine lv_iload hx9 hb9 dL_law_785 (lv_at hl 4 rfl) ?_
  refine lv_iconst (v := 1) hx9 hb9 dL_law_787 (by decide) ?_
  refine lv_iadd hx9 hb9 dL_law_788 ?_
  refine va_sld (A := A0 s) hx9 hb9 hX hbl hbA hS v1 dL_law_789 ?_
  refine lv_aload_n hx9 hb9 dL_law_790 rfl (lv_at hl 0 rfl) ?_
  refine lv_iload hx9 hb9 dL_law_791 (lv_at hl 4 rfl) ?_
  refine lv_iconst (v := 2) hx9 hb9 dL_law_793 (by decide) ?_
  refine lv_iadd hx9 hb9 dL_law_794 ?_
  refine va_sld (A := A0 s) hx9 hb9 hX hbl hbA hS v2 dL_law_795 ?_
  refine l_Vi (As := [.int (xs (i + 1).toNatClampNeg), .int (xs (i + 2).toNatClampNeg)]) S (M11_rests l D cy s.heap.size (Aw s.heap.size 110) false ex) gL_11_rests rfl rfl rfl cdL_11_rests ⟨Nat.le_of_ble_eq_true rfl, Nat.le_of_ble_eq_true rfl⟩ I1 (Nat.le_refl _) (x_ok L0.1).1 clX11 rfl rfl hl.1 rfl (Nat.le_of_ble_eq_true rfl) dL_law_796 ⟨Nat.le_trans (Nat.add_le_add_right hc.1 _) (Nat.le_of_ble_eq_true rfl), Nat.le_trans (Nat.add_le_add_right hc.2 _) (Nat.le_of_ble_eq_true rfl)⟩ (fun H1 locs1 J1 hk1 => ?_)
  have I2 := LM_kept I2 (A := Aw s.heap.size 110) (fun i hi z => by have := z.2; omega) hk1 J1.2.2.1
  have I3 := LM_kept I3 (A := Aw s.heap.size 110) (fun i hi z => by have := z.2; omega) hk1 J1.2.2.1
  have hS := I2.2.2.1
  refine lv_pop hx9 hb9 dL_law_799 rfl ?_
  refine lv_aload_n hx9 hb9 dL_law_800 rfl (lv_at hl 2 rfl) ?_
  refine lv_aload_n hx9 hb9 dL_law_801 rfl (lv_at hl 0 rfl) ?_
  refine lv_iload hx9 hb9 dL_law_802 (lv_at hl 4 rfl) ?_
  refine lv_iconst (v := 1) hx9 hb9 dL_law_804 (by decide) ?_
  refine lv_iadd hx9 hb9 dL_law_805 ?_
  refine va_sld (A := A0 s) hx9 hb9 hX hbl hbA hS v1 dL_law_806 ?_
  refine lv_aload_n hx9 hb9 dL_law_807 rfl (lv_at hl 0 rfl) ?_
  refine lv_iload hx9 hb9 dL_law_808 (lv_at hl 4 rfl) ?_
  refine lv_iconst (v := 2) hx9 hb9 dL_law_810 (by decide) ?_
  refine lv_iadd hx9 hb9 dL_law_811 ?_
  refine va_sld (A := A0 s) hx9 hb9 hX hbl hbA hS v2 dL_law_812 ?_
  refine l_Vi (As := [.int (xs (i + 1).toNatClampNeg), .int (xs (i + 2).toNatClampNeg)]) S (M12_rests l D cy (s.heap.size + 110) (Aw (s.heap.size + 110) 43) false em) gL_12_rests rfl rfl rfl cdL_12_rests ⟨Nat.le_of_ble_eq_true rfl, Nat.le_of_ble_eq_true rfl⟩ I2 (Nat.le_add_right _ _) (m_ok L0.2.1).1 clX12 rfl rfl hl.1 rfl (Nat.le_of_ble_eq_true rfl) dL_law_813 ⟨Nat.le_trans (Nat.add_le_add_right hc.1 _) (Nat.le_of_ble_eq_true rfl), Nat.le_trans (Nat.add_le_add_right hc.2 _) (Nat.le_of_ble_eq_true rfl)⟩ (fun H2 locs2 J2 hk2 => ?_)
  have J1 := LM_kept J1 (A := Aw (s.heap.size + 110) 43) (fun i hi z => by have := z.1; omega) hk2 J2.2.2.1
  have I3 := LM_kept I3 (A := Aw (s.heap.size + 110) 43) (fun i hi z => by have := z.2; omega) hk2 J2.2.2.1
  refine lv_pop hx9 hb9 dL_law_816 rfl ?_
  refine lv_goto (tgt := 1526) hx9 hb9 dL_law_817 (by decide) ?_
  refine W.widen (k := cl + 1) (n := sl + 6) (Nat.le_succ _) (Nat.le_add_right _ _) ?_
  exact K _ _ _ _ _ _ ⟨J1, J2, I3, L1⟩ hl
set_option maxHeartbeats 1000000 in
theorem lc_820 (S : CallFix p m c cL_law 7 s #[Value.ref b] lw_tbl RL) (hX : va_X b L xs s s.heap) (hbl : b < s.heap.size) {hx hm : PH} {f : Nat → Int64} (I : LW D cy hx hm f s H locs) {i : Int32} (hin : IN i L) {cl sl : Nat} (hc : cl ≤ 1000 ∧ sl ≤ 20000) (hl : lv_has ls 7 (LV b s i)) (K : ∀ (hx' hm' : PH) (f' : Nat → Int64) (H' : Heap) (locs' : List Loc) (ls' : Array Slot), LW D cy hx' hm' f' s H' locs' → lv_has ls' 7 (LV b s i) → W p l e room_1 s m #[Value.ref b] below meth c H' locs' (cl + 1) (sl + 6) (lw_Z below #[Value.ref b] s) (F0 m 1526 ls' [])) : W p l e room_1 s m #[Value.ref b] below meth c H locs cl sl (lw_Z below #[Value.ref b] s) (F0 m 820 ls []) := by
  have hbA : ¬ A0 s b := Nat.not_le.mpr hbl
  have hx9 := S.1
  have hb9 := S.2.1
  obtain ⟨I1, I2, I3, L0⟩ := I
  have hS := I1.2.2.1
  obtain ⟨_, v1, v2, v3, v4, v5⟩ := hin
  obtain ⟨a, hx', hm', ex, em, L1⟩ := p_rest L0 (xs (i + 1).toNatClampNeg) (xs (i + 2).toNatClampNeg) (xs (i + 3).toNatClampNeg)
  refine lv_aload_n hx9 hb9 dL_law_820 rfl (lv_at hl 1 rfl) ?_
  refine lv_aload_n hx9 hb9 dL_law_821 rfl (lv_at hl 0 rfl) ?_
  refine lv_iload hx9 hb9 dL_law_822 (lv_at hl 4 rfl) ?_
  refine lv_iconst (v := 1) hx9 hb9 dL_law_824 (by decide) ?_
  refine lv_iadd hx9 hb9 dL_law_825 ?_
  refine va_sld (A := A0 s) hx9 hb9 hX hbl hbA hS v1 dL_law_826 ?_
  refine lv_aload_n hx9 hb9 dL_law_827 rfl (lv_at hl 0 rfl) ?_
  refine lv_iload hx9 hb9 dL_law_828 (lv_at hl 4 rfl) ?_
  refine lv_iconst (v := 2) hx9 hb9 dL_law_830 (by decide) ?_
  refine lv_iadd hx9 hb9 dL_law_831 ?_
  refine va_sld (A := A0 s) hx9 hb9 hX hbl hbA hS v2 dL_law_832 ?_
  refine lv_aload_n hx9 hb9 dL_law_833 rfl (lv_at hl 0 rfl) ?_
  refine lv_iload hx9 hb9 dL_law_834 (lv_at hl 4 rfl) ?_
  refine lv_iconst (v := 3) hx9 hb9 dL_law_836 (by decide) ?_
  refine lv_iadd hx9 hb9 dL_law_837 ?_
  refine va_sld (A := A0 s) hx9 hb9 hX hbl hbA hS v3 dL_law_838 ?_
  refine l_Vi (As := [.int (xs (i + 1).toNatClampNeg), .int (xs (i + 2).toNatClampNeg), .int (xs (i + 3).toNatClampNeg)]) S (M11_rest l D cy s.heap.size (Aw s.heap.size 110) false ex) gL_11_rest rfl rfl rfl cdL_11_rest ⟨Nat.le_of_ble_eq_true rfl, Nat.le_of_ble_eq_true rfl⟩ I1 (Nat.le_refl _) (x_ok L0.1).1 clX11 rfl rfl hl.1 rfl (Nat.le_of_ble_eq_true rfl) dL_law_839 ⟨Nat.le_trans (Nat.add_le_add_right hc.1 _) (Nat.le_of_ble_eq_true rfl), Nat.le_trans (Nat.add_le_add_right hc.2 _) (Nat.le_of_ble_eq_true rfl)⟩ (fun H1 locs1 J1 hk1 => ?_)
  have I2 := LM_kept I2 (A := Aw s.heap.size 110) (fun i hi z => by have := z.2; omega) hk1 J1.2.2.1
  have I3 := LM_kept I3 (A := Aw s.heap.size 110) (fun i hi z => by have := z.2; omega) hk1 J1.2.2.1
  have hS := I2.2.2.1
  refine lv_pop hx9 hb9 dL_law_842 rfl ?_
  refine lv_aload_n hx9 hb9 dL_law_843 rfl (lv_at hl 2 rfl) ?_
  refine lv_aload_n hx9 hb9 dL_law_844 rfl (lv_at hl 0 rfl) ?_
  refine lv_iload hx9 hb9 dL_law_845 (lv_at hl 4 rfl) ?_
  refine lv_iconst (v := 1) hx9 hb9 dL_law_847 (by decide) ?_
  refine lv_iadd hx9 hb9 dL_law_848 ?_
  refine va_sld (A := A0 s) hx9 hb9 hX hbl hbA hS v1 dL_law_849 ?_
  refine lv_aload_n hx9 hb9 dL_law_850 rfl (lv_at hl 0 rfl) ?_
  refine lv_iload hx9 hb9 dL_law_851 (lv_at hl 4 rfl) ?_
  refine lv_iconst (v := 2) hx9 hb9 dL_law_853 (by decide) ?_
  refine lv_iadd hx9 hb9 dL_law_854 ?_
  refine va_sld (A := A0 s) hx9 hb9 hX hbl hbA hS v2 dL_law_855 ?_
  refine lv_aload_n hx9 hb9 dL_law_856 rfl (lv_at hl 0 rfl) ?_
  refine lv_iload hx9 hb9 dL_law_857 (lv_at hl 4 rfl) ?_
  refine lv_iconst (v := 3) hx9 hb9 dL_law_859 (by decide) ?_
  refine lv_iadd hx9 hb9 dL_law_860 ?_
  refine va_sld (A := A0 s) hx9 hb9 hX hbl hbA hS v3 dL_law_861 ?_
  refine l_Vi (As := [.int (xs (i + 1).toNatClampNeg), .int (xs (i + 2).toNatClampNeg), .int (xs (i + 3).toNatClampNeg)]) S (M12_rest l D cy (s.heap.size + 110) (Aw (s.heap.size + 110) 43) false em) gL_12_rest rfl rfl rfl cdL_12_rest ⟨Nat.le_of_ble_eq_true rfl, Nat.le_of_ble_eq_true rfl⟩ I2 (Nat.le_add_right _ _) (m_ok L0.2.1).1 clX12 rfl rfl hl.1 rfl (Nat.le_of_ble_eq_true rfl) dL_law_862 ⟨Nat.le_trans (Nat.add_le_add_right hc.1 _) (Nat.le_of_ble_eq_true rfl), Nat.le_trans (Nat.add_le_add_right hc.2 _) (Nat.le_of_ble_eq_true rfl)⟩ (fun H2 locs2 J2 hk2 => ?_)
  have J1 := LM_kept J1 (A := Aw (s.heap.size + 110) 43) (fun i hi z => by have := z.1; omega) hk2 J2.2.2.1
  have I3 := LM_kept I3 (A := Aw (s.heap.size + 110) 43) (fun i hi z => by have := z.2; omega) hk2 J2.2.2.1
  refine lv_pop hx9 hb9 dL_law_865 rfl ?_
  refine lv_goto (tgt := 1526) hx9 hb9 dL_law_866 (by decide) ?_
  refine W.widen (k := cl + 1) (n := sl + 6) (Nat.le_succ _) (Nat.le_add_right _ _) ?_
  exact K _ _ _ _ _ _ ⟨J1, J2, I3, L1⟩ hl
set_option maxHeartbeats 1000000 in
theorem lc_869 (S : CallFix p m c cL_law 7 s #[Value.ref b] lw_tbl RL) (hX : va_X b L xs s s.heap) (hbl : b < s.heap.size) {hx hm : PH} {f : Nat → Int64} (I : LW D cy hx hm f s H locs) {i : Int32} (hin : IN i L) {cl sl : Nat} (hc : cl ≤ 1000 ∧ sl ≤ 20000) (hl : lv_has ls 7 (LV b s i)) (K : ∀ (hx' hm' : PH) (f' : Nat → Int64) (H' : Heap) (locs' : List Loc) (ls' : Array Slot), LW D cy hx' hm' f' s H' locs' → lv_has ls' 7 (LV b s i) → W p l e room_1 s m #[Value.ref b] below meth c H' locs' (cl + 1) (sl + 6) (lw_Z below #[Value.ref b] s) (F0 m 1526 ls' [])) : W p l e room_1 s m #[Value.ref b] below meth c H locs cl sl (lw_Z below #[Value.ref b] s) (F0 m 869 ls []) := by
  have hbA : ¬ A0 s b := Nat.not_le.mpr hbl
  have hx9 := S.1
  have hb9 := S.2.1
  obtain ⟨I1, I2, I3, L0⟩ := I
  have hS := I1.2.2.1
  obtain ⟨_, v1, v2, v3, v4, v5⟩ := hin
  obtain ⟨a, hx', hm', ex, em, L1⟩ := p_rank L0 (xs (i + 1).toNatClampNeg) (xs (i + 2).toNatClampNeg)
  refine lv_aload_n hx9 hb9 dL_law_869 rfl (lv_at hl 1 rfl) ?_
  refine lv_aload_n hx9 hb9 dL_law_870 rfl (lv_at hl 0 rfl) ?_
  refine lv_iload hx9 hb9 dL_law_871 (lv_at hl 4 rfl) ?_
  refine lv_iconst (v := 1) hx9 hb9 dL_law_873 (by decide) ?_
  refine lv_iadd hx9 hb9 dL_law_874 ?_
  refine va_sld (A := A0 s) hx9 hb9 hX hbl hbA hS v1 dL_law_875 ?_
  refine lv_aload_n hx9 hb9 dL_law_876 rfl (lv_at hl 0 rfl) ?_
  refine lv_iload hx9 hb9 dL_law_877 (lv_at hl 4 rfl) ?_
  refine lv_iconst (v := 2) hx9 hb9 dL_law_879 (by decide) ?_
  refine lv_iadd hx9 hb9 dL_law_880 ?_
  refine va_sld (A := A0 s) hx9 hb9 hX hbl hbA hS v2 dL_law_881 ?_
  refine l_Vi (As := [.int (xs (i + 1).toNatClampNeg), .int (xs (i + 2).toNatClampNeg)]) S (M11_rank l D cy s.heap.size (Aw s.heap.size 110) false ex) gL_11_rank rfl rfl rfl cdL_11_rank ⟨Nat.le_of_ble_eq_true rfl, Nat.le_of_ble_eq_true rfl⟩ I1 (Nat.le_refl _) (x_ok L0.1).1 clX11 rfl rfl hl.1 rfl (Nat.le_of_ble_eq_true rfl) dL_law_882 ⟨Nat.le_trans (Nat.add_le_add_right hc.1 _) (Nat.le_of_ble_eq_true rfl), Nat.le_trans (Nat.add_le_add_right hc.2 _) (Nat.le_of_ble_eq_true rfl)⟩ (fun H1 locs1 J1 hk1 => ?_)
  have I2 := LM_kept I2 (A := Aw s.heap.size 110) (fun i hi z => by have := z.2; omega) hk1 J1.2.2.1
  have I3 := LM_kept I3 (A := Aw s.heap.size 110) (fun i hi z => by have := z.2; omega) hk1 J1.2.2.1
  have hS := I2.2.2.1
  refine lv_pop hx9 hb9 dL_law_885 rfl ?_
  refine lv_aload_n hx9 hb9 dL_law_886 rfl (lv_at hl 2 rfl) ?_
  refine lv_aload_n hx9 hb9 dL_law_887 rfl (lv_at hl 0 rfl) ?_
  refine lv_iload hx9 hb9 dL_law_888 (lv_at hl 4 rfl) ?_
  refine lv_iconst (v := 1) hx9 hb9 dL_law_890 (by decide) ?_
  refine lv_iadd hx9 hb9 dL_law_891 ?_
  refine va_sld (A := A0 s) hx9 hb9 hX hbl hbA hS v1 dL_law_892 ?_
  refine lv_aload_n hx9 hb9 dL_law_893 rfl (lv_at hl 0 rfl) ?_
  refine lv_iload hx9 hb9 dL_law_894 (lv_at hl 4 rfl) ?_
  refine lv_iconst (v := 2) hx9 hb9 dL_law_896 (by decide) ?_
  refine lv_iadd hx9 hb9 dL_law_897 ?_
  refine va_sld (A := A0 s) hx9 hb9 hX hbl hbA hS v2 dL_law_898 ?_
  refine l_Vi (As := [.int (xs (i + 1).toNatClampNeg), .int (xs (i + 2).toNatClampNeg)]) S (M12_rank_ l D cy (s.heap.size + 110) (Aw (s.heap.size + 110) 43) false em) gL_12_rank_ rfl rfl rfl cdL_12_rank_ ⟨Nat.le_of_ble_eq_true rfl, Nat.le_of_ble_eq_true rfl⟩ I2 (Nat.le_add_right _ _) (m_ok L0.2.1).1 clX12 rfl rfl hl.1 rfl (Nat.le_of_ble_eq_true rfl) dL_law_899 ⟨Nat.le_trans (Nat.add_le_add_right hc.1 _) (Nat.le_of_ble_eq_true rfl), Nat.le_trans (Nat.add_le_add_right hc.2 _) (Nat.le_of_ble_eq_true rfl)⟩ (fun H2 locs2 J2 hk2 => ?_)
  have J1 := LM_kept J1 (A := Aw (s.heap.size + 110) 43) (fun i hi z => by have := z.1; omega) hk2 J2.2.2.1
  have I3 := LM_kept I3 (A := Aw (s.heap.size + 110) 43) (fun i hi z => by have := z.2; omega) hk2 J2.2.2.1
  refine lv_pop hx9 hb9 dL_law_902 rfl ?_
  refine lv_goto (tgt := 1526) hx9 hb9 dL_law_903 (by decide) ?_
  refine W.widen (k := cl + 1) (n := sl + 6) (Nat.le_succ _) (Nat.le_add_right _ _) ?_
  exact K _ _ _ _ _ _ ⟨J1, J2, I3, L1⟩ hl
set_option maxHeartbeats 1000000 in
theorem lc_906 (S : CallFix p m c cL_law 7 s #[Value.ref b] lw_tbl RL) (hX : va_X b L xs s s.heap) (hbl : b < s.heap.size) {hx hm : PH} {f : Nat → Int64} (I : LW D cy hx hm f s H locs) {i : Int32} (hin : IN i L) {cl sl : Nat} (hc : cl ≤ 1000 ∧ sl ≤ 20000) (hl : lv_has ls 7 (LV b s i)) (K : ∀ (hx' hm' : PH) (f' : Nat → Int64) (H' : Heap) (locs' : List Loc) (ls' : Array Slot), LW D cy hx' hm' f' s H' locs' → lv_has ls' 7 (LV b s i) → W p l e room_1 s m #[Value.ref b] below meth c H' locs' (cl + 1) (sl + 6) (lw_Z below #[Value.ref b] s) (F0 m 1526 ls' [])) : W p l e room_1 s m #[Value.ref b] below meth c H locs cl sl (lw_Z below #[Value.ref b] s) (F0 m 906 ls []) := by
  have hbA : ¬ A0 s b := Nat.not_le.mpr hbl
  have hx9 := S.1
  have hb9 := S.2.1
  obtain ⟨I1, I2, I3, L0⟩ := I
  have hS := I1.2.2.1
  obtain ⟨_, v1, v2, v3, v4, v5⟩ := hin
  obtain ⟨a, hx', hm', ex, em, L1⟩ := p_plan L0 (xs (i + 1).toNatClampNeg)
  refine lv_aload_n hx9 hb9 dL_law_906 rfl (lv_at hl 1 rfl) ?_
  refine lv_aload_n hx9 hb9 dL_law_907 rfl (lv_at hl 0 rfl) ?_
  refine lv_iload hx9 hb9 dL_law_908 (lv_at hl 4 rfl) ?_
  refine lv_iconst (v := 1) hx9 hb9 dL_law_910 (by decide) ?_
  refine lv_iadd hx9 hb9 dL_law_911 ?_
  refine va_sld (A := A0 s) hx9 hb9 hX hbl hbA hS v1 dL_law_912 ?_
  refine l_Vi (As := [.int (xs (i + 1).toNatClampNeg)]) S (M11_plan l D cy s.heap.size (Aw s.heap.size 110) false ex) gL_11_plan rfl rfl rfl cdL_11_plan ⟨Nat.le_of_ble_eq_true rfl, Nat.le_of_ble_eq_true rfl⟩ I1 (Nat.le_refl _) (x_ok L0.1).1 clX11 rfl rfl hl.1 rfl (Nat.le_of_ble_eq_true rfl) dL_law_913 ⟨Nat.le_trans (Nat.add_le_add_right hc.1 _) (Nat.le_of_ble_eq_true rfl), Nat.le_trans (Nat.add_le_add_right hc.2 _) (Nat.le_of_ble_eq_true rfl)⟩ (fun H1 locs1 J1 hk1 => ?_)
  have I2 := LM_kept I2 (A := Aw s.heap.size 110) (fun i hi z => by have := z.2; omega) hk1 J1.2.2.1
  have I3 := LM_kept I3 (A := Aw s.heap.size 110) (fun i hi z => by have := z.2; omega) hk1 J1.2.2.1
  have hS := I2.2.2.1
  refine lv_pop hx9 hb9 dL_law_916 rfl ?_
  refine lv_aload_n hx9 hb9 dL_law_917 rfl (lv_at hl 2 rfl) ?_
  refine lv_aload_n hx9 hb9 dL_law_918 rfl (lv_at hl 0 rfl) ?_
  refine lv_iload hx9 hb9 dL_law_919 (lv_at hl 4 rfl) ?_
  refine lv_iconst (v := 1) hx9 hb9 dL_law_921 (by decide) ?_
  refine lv_iadd hx9 hb9 dL_law_922 ?_
  refine va_sld (A := A0 s) hx9 hb9 hX hbl hbA hS v1 dL_law_923 ?_
  refine l_Vi (As := [.int (xs (i + 1).toNatClampNeg)]) S (M12_plan l D cy (s.heap.size + 110) (Aw (s.heap.size + 110) 43) false em) gL_12_plan rfl rfl rfl cdL_12_plan ⟨Nat.le_of_ble_eq_true rfl, Nat.le_of_ble_eq_true rfl⟩ I2 (Nat.le_add_right _ _) (m_ok L0.2.1).1 clX12 rfl rfl hl.1 rfl (Nat.le_of_ble_eq_true rfl) dL_law_924 ⟨Nat.le_trans (Nat.add_le_add_right hc.1 _) (Nat.le_of_ble_eq_true rfl), Nat.le_trans (Nat.add_le_add_right hc.2 _) (Nat.le_of_ble_eq_true rfl)⟩ (fun H2 locs2 J2 hk2 => ?_)
  have J1 := LM_kept J1 (A := Aw (s.heap.size + 110) 43) (fun i hi z => by have := z.1; omega) hk2 J2.2.2.1
  have I3 := LM_kept I3 (A := Aw (s.heap.size + 110) 43) (fun i hi z => by have := z.2; omega) hk2 J2.2.2.1
  refine lv_pop hx9 hb9 dL_law_927 rfl ?_
  refine lv_goto (tgt := 1526) hx9 hb9 dL_law_928 (by decide) ?_
  refine W.widen (k := cl + 1) (n := sl + 6) (Nat.le_succ _) (Nat.le_add_right _ _) ?_
  exact K _ _ _ _ _ _ ⟨J1, J2, I3, L1⟩ hl
set_option maxHeartbeats 1000000 in
theorem lc_931 (S : CallFix p m c cL_law 7 s #[Value.ref b] lw_tbl RL) (hX : va_X b L xs s s.heap) (hbl : b < s.heap.size) {hx hm : PH} {f : Nat → Int64} (I : LW D cy hx hm f s H locs) {i : Int32} (hin : IN i L) {cl sl : Nat} (hc : cl ≤ 1000 ∧ sl ≤ 20000) (hl : lv_has ls 7 (LV b s i)) (K : ∀ (hx' hm' : PH) (f' : Nat → Int64) (H' : Heap) (locs' : List Loc) (ls' : Array Slot), LW D cy hx' hm' f' s H' locs' → lv_has ls' 7 (LV b s i) → W p l e room_1 s m #[Value.ref b] below meth c H' locs' (cl + 1) (sl + 6) (lw_Z below #[Value.ref b] s) (F0 m 1526 ls' [])) : W p l e room_1 s m #[Value.ref b] below meth c H locs cl sl (lw_Z below #[Value.ref b] s) (F0 m 931 ls []) := by
  have hbA : ¬ A0 s b := Nat.not_le.mpr hbl
  have hx9 := S.1
  have hb9 := S.2.1
  obtain ⟨I1, I2, I3, L0⟩ := I
  have hS := I1.2.2.1
  obtain ⟨_, v1, v2, v3, v4, v5⟩ := hin
  obtain ⟨a, hx', hm', ex, em, L1⟩ := p_planned L0 (xs (i + 1).toNatClampNeg) (xs (i + 2).toNatClampNeg)
  refine lv_aload_n hx9 hb9 dL_law_931 rfl (lv_at hl 1 rfl) ?_
  refine lv_aload_n hx9 hb9 dL_law_932 rfl (lv_at hl 0 rfl) ?_
  refine lv_iload hx9 hb9 dL_law_933 (lv_at hl 4 rfl) ?_
  refine lv_iconst (v := 1) hx9 hb9 dL_law_935 (by decide) ?_
  refine lv_iadd hx9 hb9 dL_law_936 ?_
  refine va_sld (A := A0 s) hx9 hb9 hX hbl hbA hS v1 dL_law_937 ?_
  refine lv_aload_n hx9 hb9 dL_law_938 rfl (lv_at hl 0 rfl) ?_
  refine lv_iload hx9 hb9 dL_law_939 (lv_at hl 4 rfl) ?_
  refine lv_iconst (v := 2) hx9 hb9 dL_law_941 (by decide) ?_
  refine lv_iadd hx9 hb9 dL_law_942 ?_
  refine va_sld (A := A0 s) hx9 hb9 hX hbl hbA hS v2 dL_law_943 ?_
  refine l_Vi (As := [.int (xs (i + 1).toNatClampNeg), .int (xs (i + 2).toNatClampNeg)]) S (M11_planned l D cy s.heap.size (Aw s.heap.size 110) false ex) gL_11_planned rfl rfl rfl cdL_11_planned ⟨Nat.le_of_ble_eq_true rfl, Nat.le_of_ble_eq_true rfl⟩ I1 (Nat.le_refl _) (x_ok L0.1).1 clX11 rfl rfl hl.1 rfl (Nat.le_of_ble_eq_true rfl) dL_law_944 ⟨Nat.le_trans (Nat.add_le_add_right hc.1 _) (Nat.le_of_ble_eq_true rfl), Nat.le_trans (Nat.add_le_add_right hc.2 _) (Nat.le_of_ble_eq_true rfl)⟩ (fun H1 locs1 J1 hk1 => ?_)
  have I2 := LM_kept I2 (A := Aw s.heap.size 110) (fun i hi z => by have := z.2; omega) hk1 J1.2.2.1
  have I3 := LM_kept I3 (A := Aw s.heap.size 110) (fun i hi z => by have := z.2; omega) hk1 J1.2.2.1
  have hS := I2.2.2.1
  refine lv_pop hx9 hb9 dL_law_947 rfl ?_
  refine lv_aload_n hx9 hb9 dL_law_948 rfl (lv_at hl 2 rfl) ?_
  refine lv_aload_n hx9 hb9 dL_law_949 rfl (lv_at hl 0 rfl) ?_
  refine lv_iload hx9 hb9 dL_law_950 (lv_at hl 4 rfl) ?_
  refine lv_iconst (v := 1) hx9 hb9 dL_law_952 (by decide) ?_
  refine lv_iadd hx9 hb9 dL_law_953 ?_
  refine va_sld (A := A0 s) hx9 hb9 hX hbl hbA hS v1 dL_law_954 ?_
  refine lv_aload_n hx9 hb9 dL_law_955 rfl (lv_at hl 0 rfl) ?_
  refine lv_iload hx9 hb9 dL_law_956 (lv_at hl 4 rfl) ?_
  refine lv_iconst (v := 2) hx9 hb9 dL_law_958 (by decide) ?_
  refine lv_iadd hx9 hb9 dL_law_959 ?_
  refine va_sld (A := A0 s) hx9 hb9 hX hbl hbA hS v2 dL_law_960 ?_
  refine l_Vi (As := [.int (xs (i + 1).toNatClampNeg), .int (xs (i + 2).toNatClampNeg)]) S (M12_planned l D cy (s.heap.size + 110) (Aw (s.heap.size + 110) 43) false em) gL_12_planned rfl rfl rfl cdL_12_planned ⟨Nat.le_of_ble_eq_true rfl, Nat.le_of_ble_eq_true rfl⟩ I2 (Nat.le_add_right _ _) (m_ok L0.2.1).1 clX12 rfl rfl hl.1 rfl (Nat.le_of_ble_eq_true rfl) dL_law_961 ⟨Nat.le_trans (Nat.add_le_add_right hc.1 _) (Nat.le_of_ble_eq_true rfl), Nat.le_trans (Nat.add_le_add_right hc.2 _) (Nat.le_of_ble_eq_true rfl)⟩ (fun H2 locs2 J2 hk2 => ?_)
  have J1 := LM_kept J1 (A := Aw (s.heap.size + 110) 43) (fun i hi z => by have := z.1; omega) hk2 J2.2.2.1
  have I3 := LM_kept I3 (A := Aw (s.heap.size + 110) 43) (fun i hi z => by have := z.2; omega) hk2 J2.2.2.1
  refine lv_pop hx9 hb9 dL_law_964 rfl ?_
  refine lv_goto (tgt := 1526) hx9 hb9 dL_law_965 (by decide) ?_
  refine W.widen (k := cl + 1) (n := sl + 6) (Nat.le_succ _) (Nat.le_add_right _ _) ?_
  exact K _ _ _ _ _ _ ⟨J1, J2, I3, L1⟩ hl
set_option maxHeartbeats 1000000 in
theorem lc_968 (S : CallFix p m c cL_law 7 s #[Value.ref b] lw_tbl RL) (hX : va_X b L xs s s.heap) (hbl : b < s.heap.size) {hx hm : PH} {f : Nat → Int64} (I : LW D cy hx hm f s H locs) {i : Int32} (hin : IN i L) {cl sl : Nat} (hc : cl ≤ 1000 ∧ sl ≤ 20000) (hl : lv_has ls 7 (LV b s i)) (K : ∀ (hx' hm' : PH) (f' : Nat → Int64) (H' : Heap) (locs' : List Loc) (ls' : Array Slot), LW D cy hx' hm' f' s H' locs' → lv_has ls' 7 (LV b s i) → W p l e room_1 s m #[Value.ref b] below meth c H' locs' (cl + 1) (sl + 6) (lw_Z below #[Value.ref b] s) (F0 m 1526 ls' [])) : W p l e room_1 s m #[Value.ref b] below meth c H locs cl sl (lw_Z below #[Value.ref b] s) (F0 m 968 ls []) := by
  have hbA : ¬ A0 s b := Nat.not_le.mpr hbl
  have hx9 := S.1
  have hb9 := S.2.1
  obtain ⟨I1, I2, I3, L0⟩ := I
  have hS := I1.2.2.1
  obtain ⟨_, v1, v2, v3, v4, v5⟩ := hin
  obtain ⟨a, a2, hx', hm', ex, em, L1⟩ := p_go L0 (xs (i + 1).toNatClampNeg) (xs (i + 2).toNatClampNeg) (xs (i + 3).toNatClampNeg)
  refine lv_aload_n hx9 hb9 dL_law_968 rfl (lv_at hl 1 rfl) ?_
  refine lv_aload_n hx9 hb9 dL_law_969 rfl (lv_at hl 0 rfl) ?_
  refine lv_iload hx9 hb9 dL_law_970 (lv_at hl 4 rfl) ?_
  refine lv_iconst (v := 1) hx9 hb9 dL_law_972 (by decide) ?_
  refine lv_iadd hx9 hb9 dL_law_973 ?_
  refine va_sld (A := A0 s) hx9 hb9 hX hbl hbA hS v1 dL_law_974 ?_
  refine lv_aload_n hx9 hb9 dL_law_975 rfl (lv_at hl 0 rfl) ?_
  refine lv_iload hx9 hb9 dL_law_976 (lv_at hl 4 rfl) ?_
  refine lv_iconst (v := 2) hx9 hb9 dL_law_978 (by decide) ?_
  refine lv_iadd hx9 hb9 dL_law_979 ?_
  refine va_sld (A := A0 s) hx9 hb9 hX hbl hbA hS v2 dL_law_980 ?_
  refine lv_aload_n hx9 hb9 dL_law_981 rfl (lv_at hl 0 rfl) ?_
  refine lv_iload hx9 hb9 dL_law_982 (lv_at hl 4 rfl) ?_
  refine lv_iconst (v := 3) hx9 hb9 dL_law_984 (by decide) ?_
  refine lv_iadd hx9 hb9 dL_law_985 ?_
  refine va_sld (A := A0 s) hx9 hb9 hX hbl hbA hS v3 dL_law_986 ?_
  refine l_Vi (As := [.int (xs (i + 1).toNatClampNeg), .int (xs (i + 2).toNatClampNeg), .int (xs (i + 3).toNatClampNeg)]) S (M11_go l D cy s.heap.size (Aw s.heap.size 110) false ex) gL_11_go rfl rfl rfl cdL_11_go ⟨Nat.le_of_ble_eq_true rfl, Nat.le_of_ble_eq_true rfl⟩ I1 (Nat.le_refl _) (x_ok L0.1).1 clX11 rfl rfl hl.1 rfl (Nat.le_of_ble_eq_true rfl) dL_law_987 ⟨Nat.le_trans (Nat.add_le_add_right hc.1 _) (Nat.le_of_ble_eq_true rfl), Nat.le_trans (Nat.add_le_add_right hc.2 _) (Nat.le_of_ble_eq_true rfl)⟩ (fun H1 locs1 J1 hk1 => ?_)
  have I2 := LM_kept I2 (A := Aw s.heap.size 110) (fun i hi z => by have := z.2; omega) hk1 J1.2.2.1
  have I3 := LM_kept I3 (A := Aw s.heap.size 110) (fun i hi z => by have := z.2; omega) hk1 J1.2.2.1
  have hS := I2.2.2.1
  refine lv_pop hx9 hb9 dL_law_990 rfl ?_
  refine lv_aload_n hx9 hb9 dL_law_991 rfl (lv_at hl 2 rfl) ?_
  refine lv_aload_n hx9 hb9 dL_law_992 rfl (lv_at hl 0 rfl) ?_
  refine lv_iload hx9 hb9 dL_law_993 (lv_at hl 4 rfl) ?_
  refine lv_iconst (v := 1) hx9 hb9 dL_law_995 (by decide) ?_
  refine lv_iadd hx9 hb9 dL_law_996 ?_
  refine va_sld (A := A0 s) hx9 hb9 hX hbl hbA hS v1 dL_law_997 ?_
  refine lv_aload_n hx9 hb9 dL_law_998 rfl (lv_at hl 0 rfl) ?_
  refine lv_iload hx9 hb9 dL_law_999 (lv_at hl 4 rfl) ?_
  refine lv_iconst (v := 2) hx9 hb9 dL_law_1001 (by decide) ?_
  refine lv_iadd hx9 hb9 dL_law_1002 ?_
  refine va_sld (A := A0 s) hx9 hb9 hX hbl hbA hS v2 dL_law_1003 ?_
  refine lv_aload_n hx9 hb9 dL_law_1004 rfl (lv_at hl 0 rfl) ?_
  refine lv_iload hx9 hb9 dL_law_1005 (lv_at hl 4 rfl) ?_
  refine lv_iconst (v := 3) hx9 hb9 dL_law_1007 (by decide) ?_
  refine lv_iadd hx9 hb9 dL_law_1008 ?_
  refine va_sld (A := A0 s) hx9 hb9 hX hbl hbA hS v3 dL_law_1009 ?_
  refine l_Vi (As := [.int (xs (i + 1).toNatClampNeg), .int (xs (i + 2).toNatClampNeg), .int (xs (i + 3).toNatClampNeg)]) S (M12_go l D cy (s.heap.size + 110) (Aw (s.heap.size + 110) 43) false em) gL_12_go rfl rfl rfl cdL_12_go ⟨Nat.le_of_ble_eq_true rfl, Nat.le_of_ble_eq_true rfl⟩ I2 (Nat.le_add_right _ _) (m_ok L0.2.1).1 clX12 rfl rfl hl.1 rfl (Nat.le_of_ble_eq_true rfl) dL_law_1010 ⟨Nat.le_trans (Nat.add_le_add_right hc.1 _) (Nat.le_of_ble_eq_true rfl), Nat.le_trans (Nat.add_le_add_right hc.2 _) (Nat.le_of_ble_eq_true rfl)⟩ (fun H2 locs2 J2 hk2 => ?_)
  have J1 := LM_kept J1 (A := Aw (s.heap.size + 110) 43) (fun i hi z => by have := z.1; omega) hk2 J2.2.2.1
  have I3 := LM_kept I3 (A := Aw (s.heap.size + 110) 43) (fun i hi z => by have := z.2; omega) hk2 J2.2.2.1
  refine lv_pop hx9 hb9 dL_law_1013 rfl ?_
  refine lv_goto (tgt := 1526) hx9 hb9 dL_law_1014 (by decide) ?_
  refine W.widen (k := cl + 1) (n := sl + 6) (Nat.le_succ _) (Nat.le_add_right _ _) ?_
  exact K _ _ _ _ _ _ ⟨J1, J2, I3, L1⟩ hl
set_option maxHeartbeats 1000000 in
theorem lc_1017 (S : CallFix p m c cL_law 7 s #[Value.ref b] lw_tbl RL) (hX : va_X b L xs s s.heap) (hbl : b < s.heap.size) {hx hm : PH} {f : Nat → Int64} (I : LW D cy hx hm f s H locs) {i : Int32} (hin : IN i L) {cl sl : Nat} (hc : cl ≤ 1000 ∧ sl ≤ 20000) (hl : lv_has ls 7 (LV b s i)) (K : ∀ (hx' hm' : PH) (f' : Nat → Int64) (H' : Heap) (locs' : List Loc) (ls' : Array Slot), LW D cy hx' hm' f' s H' locs' → lv_has ls' 7 (LV b s i) → W p l e room_1 s m #[Value.ref b] below meth c H' locs' (cl + 1) (sl + 6) (lw_Z below #[Value.ref b] s) (F0 m 1526 ls' [])) : W p l e room_1 s m #[Value.ref b] below meth c H locs cl sl (lw_Z below #[Value.ref b] s) (F0 m 1017 ls []) := by
  have hbA : ¬ A0 s b := Nat.not_le.mpr hbl
  have hx9 := S.1
  have hb9 := S.2.1
  obtain ⟨I1, I2, I3, L0⟩ := I
  have hS := I1.2.2.1
  obtain ⟨_, v1, v2, v3, v4, v5⟩ := hin
  obtain ⟨a, hx', hm', ex, em, L1⟩ := p_give L0 (xs (i + 1).toNatClampNeg) (xs (i + 2).toNatClampNeg) (xs (i + 3).toNatClampNeg)
  refine lv_aload_n hx9 hb9 dL_law_1017 rfl (lv_at hl 1 rfl) ?_
  refine lv_aload_n hx9 hb9 dL_law_1018 rfl (lv_at hl 0 rfl) ?_
  refine lv_iload hx9 hb9 dL_law_1019 (lv_at hl 4 rfl) ?_
  refine lv_iconst (v := 1) hx9 hb9 dL_law_1021 (by decide) ?_
  refine lv_iadd hx9 hb9 dL_law_1022 ?_
  refine va_sld (A := A0 s) hx9 hb9 hX hbl hbA hS v1 dL_law_1023 ?_
  refine lv_aload_n hx9 hb9 dL_law_1024 rfl (lv_at hl 0 rfl) ?_
  refine lv_iload hx9 hb9 dL_law_1025 (lv_at hl 4 rfl) ?_
  refine lv_iconst (v := 2) hx9 hb9 dL_law_1027 (by decide) ?_
  refine lv_iadd hx9 hb9 dL_law_1028 ?_
  refine va_sld (A := A0 s) hx9 hb9 hX hbl hbA hS v2 dL_law_1029 ?_
  refine lv_aload_n hx9 hb9 dL_law_1030 rfl (lv_at hl 0 rfl) ?_
  refine lv_iload hx9 hb9 dL_law_1031 (lv_at hl 4 rfl) ?_
  refine lv_iconst (v := 3) hx9 hb9 dL_law_1033 (by decide) ?_
  refine lv_iadd hx9 hb9 dL_law_1034 ?_
  refine va_sld (A := A0 s) hx9 hb9 hX hbl hbA hS v3 dL_law_1035 ?_
  refine l_Vi (As := [.int (xs (i + 1).toNatClampNeg), .int (xs (i + 2).toNatClampNeg), .int (xs (i + 3).toNatClampNeg)]) S (M11_give l D cy s.heap.size (Aw s.heap.size 110) false ex) gL_11_give rfl rfl rfl cdL_11_give ⟨Nat.le_of_ble_eq_true rfl, Nat.le_of_ble_eq_true rfl⟩ I1 (Nat.le_refl _) (x_ok L0.1).1 clX11 rfl rfl hl.1 rfl (Nat.le_of_ble_eq_true rfl) dL_law_1036 ⟨Nat.le_trans (Nat.add_le_add_right hc.1 _) (Nat.le_of_ble_eq_true rfl), Nat.le_trans (Nat.add_le_add_right hc.2 _) (Nat.le_of_ble_eq_true rfl)⟩ (fun H1 locs1 J1 hk1 => ?_)
  have I2 := LM_kept I2 (A := Aw s.heap.size 110) (fun i hi z => by have := z.2; omega) hk1 J1.2.2.1
  have I3 := LM_kept I3 (A := Aw s.heap.size 110) (fun i hi z => by have := z.2; omega) hk1 J1.2.2.1
  have hS := I2.2.2.1
  refine lv_pop hx9 hb9 dL_law_1039 rfl ?_
  refine lv_aload_n hx9 hb9 dL_law_1040 rfl (lv_at hl 2 rfl) ?_
  refine lv_aload_n hx9 hb9 dL_law_1041 rfl (lv_at hl 0 rfl) ?_
  refine lv_iload hx9 hb9 dL_law_1042 (lv_at hl 4 rfl) ?_
  refine lv_iconst (v := 1) hx9 hb9 dL_law_1044 (by decide) ?_
  refine lv_iadd hx9 hb9 dL_law_1045 ?_
  refine va_sld (A := A0 s) hx9 hb9 hX hbl hbA hS v1 dL_law_1046 ?_
  refine lv_aload_n hx9 hb9 dL_law_1047 rfl (lv_at hl 0 rfl) ?_
  refine lv_iload hx9 hb9 dL_law_1048 (lv_at hl 4 rfl) ?_
  refine lv_iconst (v := 2) hx9 hb9 dL_law_1050 (by decide) ?_
  refine lv_iadd hx9 hb9 dL_law_1051 ?_
  refine va_sld (A := A0 s) hx9 hb9 hX hbl hbA hS v2 dL_law_1052 ?_
  refine lv_aload_n hx9 hb9 dL_law_1053 rfl (lv_at hl 0 rfl) ?_
  refine lv_iload hx9 hb9 dL_law_1054 (lv_at hl 4 rfl) ?_
  refine lv_iconst (v := 3) hx9 hb9 dL_law_1056 (by decide) ?_
  refine lv_iadd hx9 hb9 dL_law_1057 ?_
  refine va_sld (A := A0 s) hx9 hb9 hX hbl hbA hS v3 dL_law_1058 ?_
  refine l_Vi (As := [.int (xs (i + 1).toNatClampNeg), .int (xs (i + 2).toNatClampNeg), .int (xs (i + 3).toNatClampNeg)]) S (M12_give l D cy (s.heap.size + 110) (Aw (s.heap.size + 110) 43) false em) gL_12_give rfl rfl rfl cdL_12_give ⟨Nat.le_of_ble_eq_true rfl, Nat.le_of_ble_eq_true rfl⟩ I2 (Nat.le_add_right _ _) (m_ok L0.2.1).1 clX12 rfl rfl hl.1 rfl (Nat.le_of_ble_eq_true rfl) dL_law_1059 ⟨Nat.le_trans (Nat.add_le_add_right hc.1 _) (Nat.le_of_ble_eq_true rfl), Nat.le_trans (Nat.add_le_add_right hc.2 _) (Nat.le_of_ble_eq_true rfl)⟩ (fun H2 locs2 J2 hk2 => ?_)
  have J1 := LM_kept J1 (A := Aw (s.heap.size + 110) 43) (fun i hi z => by have := z.1; omega) hk2 J2.2.2.1
  have I3 := LM_kept I3 (A := Aw (s.heap.size + 110) 43) (fun i hi z => by have := z.2; omega) hk2 J2.2.2.1
  refine lv_pop hx9 hb9 dL_law_1062 rfl ?_
  refine lv_goto (tgt := 1526) hx9 hb9 dL_law_1063 (by decide) ?_
  refine W.widen (k := cl + 1) (n := sl + 6) (Nat.le_succ _) (Nat.le_add_right _ _) ?_
  exact K _ _ _ _ _ _ ⟨J1, J2, I3, L1⟩ hl
set_option maxHeartbeats 1000000 in
theorem lc_1066 (S : CallFix p m c cL_law 7 s #[Value.ref b] lw_tbl RL) (hX : va_X b L xs s s.heap) (hbl : b < s.heap.size) {hx hm : PH} {f : Nat → Int64} (I : LW D cy hx hm f s H locs) {i : Int32} (hin : IN i L) {cl sl : Nat} (hc : cl ≤ 1000 ∧ sl ≤ 20000) (hl : lv_has ls 7 (LV b s i)) (K : ∀ (hx' hm' : PH) (f' : Nat → Int64) (H' : Heap) (locs' : List Loc) (ls' : Array Slot), LW D cy hx' hm' f' s H' locs' → lv_has ls' 7 (LV b s i) → W p l e room_1 s m #[Value.ref b] below meth c H' locs' (cl + 1) (sl + 6) (lw_Z below #[Value.ref b] s) (F0 m 1526 ls' [])) : W p l e room_1 s m #[Value.ref b] below meth c H locs cl sl (lw_Z below #[Value.ref b] s) (F0 m 1066 ls []) := by
  have hbA : ¬ A0 s b := Nat.not_le.mpr hbl
  have hx9 := S.1
  have hb9 := S.2.1
  obtain ⟨I1, I2, I3, L0⟩ := I
  have hS := I1.2.2.1
  obtain ⟨_, v1, v2, v3, v4, v5⟩ := hin
  obtain ⟨a, hx', hm', ex, em, L1⟩ := p_table L0 (xs (i + 1).toNatClampNeg) (xs (i + 2).toNatClampNeg) (xs (i + 3).toNatClampNeg)
  refine lv_aload_n hx9 hb9 dL_law_1066 rfl (lv_at hl 1 rfl) ?_
  refine lv_aload_n hx9 hb9 dL_law_1067 rfl (lv_at hl 0 rfl) ?_
  refine lv_iload hx9 hb9 dL_law_1068 (lv_at hl 4 rfl) ?_
  refine lv_iconst (v := 1) hx9 hb9 dL_law_1070 (by decide) ?_
  refine lv_iadd hx9 hb9 dL_law_1071 ?_
  refine va_sld (A := A0 s) hx9 hb9 hX hbl hbA hS v1 dL_law_1072 ?_
  refine lv_aload_n hx9 hb9 dL_law_1073 rfl (lv_at hl 0 rfl) ?_
  refine lv_iload hx9 hb9 dL_law_1074 (lv_at hl 4 rfl) ?_
  refine lv_iconst (v := 2) hx9 hb9 dL_law_1076 (by decide) ?_
  refine lv_iadd hx9 hb9 dL_law_1077 ?_
  refine va_sld (A := A0 s) hx9 hb9 hX hbl hbA hS v2 dL_law_1078 ?_
  refine lv_aload_n hx9 hb9 dL_law_1079 rfl (lv_at hl 0 rfl) ?_
  refine lv_iload hx9 hb9 dL_law_1080 (lv_at hl 4 rfl) ?_
  refine lv_iconst (v := 3) hx9 hb9 dL_law_1082 (by decide) ?_
  refine lv_iadd hx9 hb9 dL_law_1083 ?_
  refine va_sld (A := A0 s) hx9 hb9 hX hbl hbA hS v3 dL_law_1084 ?_
  refine l_Vi (As := [.int (xs (i + 1).toNatClampNeg), .int (xs (i + 2).toNatClampNeg), .int (xs (i + 3).toNatClampNeg)]) S (M11_table l D cy s.heap.size (Aw s.heap.size 110) ex) gL_11_table rfl rfl rfl cdL_11_table ⟨Nat.le_of_ble_eq_true rfl, Nat.le_of_ble_eq_true rfl⟩ I1 (Nat.le_refl _) (x_ok L0.1).1 clX11 rfl rfl hl.1 rfl (Nat.le_of_ble_eq_true rfl) dL_law_1085 ⟨Nat.le_trans (Nat.add_le_add_right hc.1 _) (Nat.le_of_ble_eq_true rfl), Nat.le_trans (Nat.add_le_add_right hc.2 _) (Nat.le_of_ble_eq_true rfl)⟩ (fun H1 locs1 J1 hk1 => ?_)
  have I2 := LM_kept I2 (A := Aw s.heap.size 110) (fun i hi z => by have := z.2; omega) hk1 J1.2.2.1
  have I3 := LM_kept I3 (A := Aw s.heap.size 110) (fun i hi z => by have := z.2; omega) hk1 J1.2.2.1
  have hS := I2.2.2.1
  refine lv_pop hx9 hb9 dL_law_1088 rfl ?_
  refine lv_aload_n hx9 hb9 dL_law_1089 rfl (lv_at hl 2 rfl) ?_
  refine lv_aload_n hx9 hb9 dL_law_1090 rfl (lv_at hl 0 rfl) ?_
  refine lv_iload hx9 hb9 dL_law_1091 (lv_at hl 4 rfl) ?_
  refine lv_iconst (v := 1) hx9 hb9 dL_law_1093 (by decide) ?_
  refine lv_iadd hx9 hb9 dL_law_1094 ?_
  refine va_sld (A := A0 s) hx9 hb9 hX hbl hbA hS v1 dL_law_1095 ?_
  refine lv_aload_n hx9 hb9 dL_law_1096 rfl (lv_at hl 0 rfl) ?_
  refine lv_iload hx9 hb9 dL_law_1097 (lv_at hl 4 rfl) ?_
  refine lv_iconst (v := 2) hx9 hb9 dL_law_1099 (by decide) ?_
  refine lv_iadd hx9 hb9 dL_law_1100 ?_
  refine va_sld (A := A0 s) hx9 hb9 hX hbl hbA hS v2 dL_law_1101 ?_
  refine lv_aload_n hx9 hb9 dL_law_1102 rfl (lv_at hl 0 rfl) ?_
  refine lv_iload hx9 hb9 dL_law_1103 (lv_at hl 4 rfl) ?_
  refine lv_iconst (v := 3) hx9 hb9 dL_law_1105 (by decide) ?_
  refine lv_iadd hx9 hb9 dL_law_1106 ?_
  refine va_sld (A := A0 s) hx9 hb9 hX hbl hbA hS v3 dL_law_1107 ?_
  refine l_Vi (As := [.int (xs (i + 1).toNatClampNeg), .int (xs (i + 2).toNatClampNeg), .int (xs (i + 3).toNatClampNeg)]) S (M12_table l D cy (s.heap.size + 110) (Aw (s.heap.size + 110) 43) false em) gL_12_table rfl rfl rfl cdL_12_table ⟨Nat.le_of_ble_eq_true rfl, Nat.le_of_ble_eq_true rfl⟩ I2 (Nat.le_add_right _ _) (m_ok L0.2.1).1 clX12 rfl rfl hl.1 rfl (Nat.le_of_ble_eq_true rfl) dL_law_1108 ⟨Nat.le_trans (Nat.add_le_add_right hc.1 _) (Nat.le_of_ble_eq_true rfl), Nat.le_trans (Nat.add_le_add_right hc.2 _) (Nat.le_of_ble_eq_true rfl)⟩ (fun H2 locs2 J2 hk2 => ?_)
  have J1 := LM_kept J1 (A := Aw (s.heap.size + 110) 43) (fun i hi z => by have := z.1; omega) hk2 J2.2.2.1
  have I3 := LM_kept I3 (A := Aw (s.heap.size + 110) 43) (fun i hi z => by have := z.2; omega) hk2 J2.2.2.1
  refine lv_pop hx9 hb9 dL_law_1111 rfl ?_
  refine lv_goto (tgt := 1526) hx9 hb9 dL_law_1112 (by decide) ?_
  refine W.widen (k := cl + 1) (n := sl + 6) (Nat.le_succ _) (Nat.le_add_right _ _) ?_
  exact K _ _ _ _ _ _ ⟨J1, J2, I3, L1⟩ hl
set_option maxHeartbeats 1000000 in
theorem lc_1115 (S : CallFix p m c cL_law 7 s #[Value.ref b] lw_tbl RL) (hX : va_X b L xs s s.heap) (hbl : b < s.heap.size) {hx hm : PH} {f : Nat → Int64} (I : LW D cy hx hm f s H locs) {i : Int32} (hin : IN i L) {cl sl : Nat} (hc : cl ≤ 1000 ∧ sl ≤ 20000) (hl : lv_has ls 7 (LV b s i)) (K : ∀ (hx' hm' : PH) (f' : Nat → Int64) (H' : Heap) (locs' : List Loc) (ls' : Array Slot), LW D cy hx' hm' f' s H' locs' → lv_has ls' 7 (LV b s i) → W p l e room_1 s m #[Value.ref b] below meth c H' locs' (cl + 1) (sl + 6) (lw_Z below #[Value.ref b] s) (F0 m 1526 ls' [])) : W p l e room_1 s m #[Value.ref b] below meth c H locs cl sl (lw_Z below #[Value.ref b] s) (F0 m 1115 ls []) := by
  have hbA : ¬ A0 s b := Nat.not_le.mpr hbl
  have hx9 := S.1
  have hb9 := S.2.1
  obtain ⟨I1, I2, I3, L0⟩ := I
  have hS := I1.2.2.1
  obtain ⟨_, v1, v2, v3, v4, v5⟩ := hin
  obtain ⟨a, hx', hm', ex, em, L1⟩ := p_fairest L0 (xs (i + 1).toNatClampNeg)
  refine lv_aload_n hx9 hb9 dL_law_1115 rfl (lv_at hl 1 rfl) ?_
  refine lv_aload_n hx9 hb9 dL_law_1116 rfl (lv_at hl 0 rfl) ?_
  refine lv_iload hx9 hb9 dL_law_1117 (lv_at hl 4 rfl) ?_
  refine lv_iconst (v := 1) hx9 hb9 dL_law_1119 (by decide) ?_
  refine lv_iadd hx9 hb9 dL_law_1120 ?_
  refine va_sld (A := A0 s) hx9 hb9 hX hbl hbA hS v1 dL_law_1121 ?_
  refine l_Vi (As := [.int (xs (i + 1).toNatClampNeg)]) S (M11_fairest l D cy s.heap.size (Aw s.heap.size 110) ex) gL_11_fairest rfl rfl rfl cdL_11_fairest ⟨Nat.le_of_ble_eq_true rfl, Nat.le_of_ble_eq_true rfl⟩ I1 (Nat.le_refl _) (x_ok L0.1).1 clX11 rfl rfl hl.1 rfl (Nat.le_of_ble_eq_true rfl) dL_law_1122 ⟨Nat.le_trans (Nat.add_le_add_right hc.1 _) (Nat.le_of_ble_eq_true rfl), Nat.le_trans (Nat.add_le_add_right hc.2 _) (Nat.le_of_ble_eq_true rfl)⟩ (fun H1 locs1 J1 hk1 => ?_)
  have I2 := LM_kept I2 (A := Aw s.heap.size 110) (fun i hi z => by have := z.2; omega) hk1 J1.2.2.1
  have I3 := LM_kept I3 (A := Aw s.heap.size 110) (fun i hi z => by have := z.2; omega) hk1 J1.2.2.1
  have hS := I2.2.2.1
  refine lv_pop hx9 hb9 dL_law_1125 rfl ?_
  refine lv_aload_n hx9 hb9 dL_law_1126 rfl (lv_at hl 2 rfl) ?_
  refine lv_aload_n hx9 hb9 dL_law_1127 rfl (lv_at hl 0 rfl) ?_
  refine lv_iload hx9 hb9 dL_law_1128 (lv_at hl 4 rfl) ?_
  refine lv_iconst (v := 1) hx9 hb9 dL_law_1130 (by decide) ?_
  refine lv_iadd hx9 hb9 dL_law_1131 ?_
  refine va_sld (A := A0 s) hx9 hb9 hX hbl hbA hS v1 dL_law_1132 ?_
  refine l_Vi (As := [.int (xs (i + 1).toNatClampNeg)]) S (M12_fairest l D cy (s.heap.size + 110) (Aw (s.heap.size + 110) 43) false em) gL_12_fairest rfl rfl rfl cdL_12_fairest ⟨Nat.le_of_ble_eq_true rfl, Nat.le_of_ble_eq_true rfl⟩ I2 (Nat.le_add_right _ _) (m_ok L0.2.1).1 clX12 rfl rfl hl.1 rfl (Nat.le_of_ble_eq_true rfl) dL_law_1133 ⟨Nat.le_trans (Nat.add_le_add_right hc.1 _) (Nat.le_of_ble_eq_true rfl), Nat.le_trans (Nat.add_le_add_right hc.2 _) (Nat.le_of_ble_eq_true rfl)⟩ (fun H2 locs2 J2 hk2 => ?_)
  have J1 := LM_kept J1 (A := Aw (s.heap.size + 110) 43) (fun i hi z => by have := z.1; omega) hk2 J2.2.2.1
  have I3 := LM_kept I3 (A := Aw (s.heap.size + 110) 43) (fun i hi z => by have := z.2; omega) hk2 J2.2.2.1
  refine lv_pop hx9 hb9 dL_law_1136 rfl ?_
  refine lv_goto (tgt := 1526) hx9 hb9 dL_law_1137 (by decide) ?_
  refine W.widen (k := cl + 1) (n := sl + 6) (Nat.le_succ _) (Nat.le_add_right _ _) ?_
  exact K _ _ _ _ _ _ ⟨J1, J2, I3, L1⟩ hl
set_option maxHeartbeats 1000000 in
theorem lc_1140 (S : CallFix p m c cL_law 7 s #[Value.ref b] lw_tbl RL) (hX : va_X b L xs s s.heap) (hbl : b < s.heap.size) {hx hm : PH} {f : Nat → Int64} (I : LW D cy hx hm f s H locs) {i : Int32} (hin : IN i L) {cl sl : Nat} (hc : cl ≤ 1000 ∧ sl ≤ 20000) (hl : lv_has ls 7 (LV b s i)) (K : ∀ (hx' hm' : PH) (f' : Nat → Int64) (H' : Heap) (locs' : List Loc) (ls' : Array Slot), LW D cy hx' hm' f' s H' locs' → lv_has ls' 7 (LV b s i) → W p l e room_1 s m #[Value.ref b] below meth c H' locs' (cl + 1) (sl + 6) (lw_Z below #[Value.ref b] s) (F0 m 1526 ls' [])) : W p l e room_1 s m #[Value.ref b] below meth c H locs cl sl (lw_Z below #[Value.ref b] s) (F0 m 1140 ls []) := by
  have hbA : ¬ A0 s b := Nat.not_le.mpr hbl
  have hx9 := S.1
  have hb9 := S.2.1
  obtain ⟨I1, I2, I3, L0⟩ := I
  have hS := I1.2.2.1
  obtain ⟨_, v1, v2, v3, v4, v5⟩ := hin
  obtain ⟨a, hx', hm', ex, em, L1⟩ := p_over L0 (xs (i + 1).toNatClampNeg)
  refine lv_aload_n hx9 hb9 dL_law_1140 rfl (lv_at hl 1 rfl) ?_
  refine lv_aload_n hx9 hb9 dL_law_1141 rfl (lv_at hl 0 rfl) ?_
  refine lv_iload hx9 hb9 dL_law_1142 (lv_at hl 4 rfl) ?_
  refine lv_iconst (v := 1) hx9 hb9 dL_law_1144 (by decide) ?_
  refine lv_iadd hx9 hb9 dL_law_1145 ?_
  refine va_sld (A := A0 s) hx9 hb9 hX hbl hbA hS v1 dL_law_1146 ?_
  refine l_Vi (As := [.int (xs (i + 1).toNatClampNeg)]) S (M11_over l D cy s.heap.size (Aw s.heap.size 110) false ex) gL_11_over rfl rfl rfl cdL_11_over ⟨Nat.le_of_ble_eq_true rfl, Nat.le_of_ble_eq_true rfl⟩ I1 (Nat.le_refl _) (x_ok L0.1).1 clX11 rfl rfl hl.1 rfl (Nat.le_of_ble_eq_true rfl) dL_law_1147 ⟨Nat.le_trans (Nat.add_le_add_right hc.1 _) (Nat.le_of_ble_eq_true rfl), Nat.le_trans (Nat.add_le_add_right hc.2 _) (Nat.le_of_ble_eq_true rfl)⟩ (fun H1 locs1 J1 hk1 => ?_)
  have I2 := LM_kept I2 (A := Aw s.heap.size 110) (fun i hi z => by have := z.2; omega) hk1 J1.2.2.1
  have I3 := LM_kept I3 (A := Aw s.heap.size 110) (fun i hi z => by have := z.2; omega) hk1 J1.2.2.1
  have hS := I2.2.2.1
  refine lv_pop hx9 hb9 dL_law_1150 rfl ?_
  refine lv_aload_n hx9 hb9 dL_law_1151 rfl (lv_at hl 2 rfl) ?_
  refine lv_aload_n hx9 hb9 dL_law_1152 rfl (lv_at hl 0 rfl) ?_
  refine lv_iload hx9 hb9 dL_law_1153 (lv_at hl 4 rfl) ?_
  refine lv_iconst (v := 1) hx9 hb9 dL_law_1155 (by decide) ?_
  refine lv_iadd hx9 hb9 dL_law_1156 ?_
  refine va_sld (A := A0 s) hx9 hb9 hX hbl hbA hS v1 dL_law_1157 ?_
  refine l_Vi (As := [.int (xs (i + 1).toNatClampNeg)]) S (M12_over l D cy (s.heap.size + 110) (Aw (s.heap.size + 110) 43) false em) gL_12_over rfl rfl rfl cdL_12_over ⟨Nat.le_of_ble_eq_true rfl, Nat.le_of_ble_eq_true rfl⟩ I2 (Nat.le_add_right _ _) (m_ok L0.2.1).1 clX12 rfl rfl hl.1 rfl (Nat.le_of_ble_eq_true rfl) dL_law_1158 ⟨Nat.le_trans (Nat.add_le_add_right hc.1 _) (Nat.le_of_ble_eq_true rfl), Nat.le_trans (Nat.add_le_add_right hc.2 _) (Nat.le_of_ble_eq_true rfl)⟩ (fun H2 locs2 J2 hk2 => ?_)
  have J1 := LM_kept J1 (A := Aw (s.heap.size + 110) 43) (fun i hi z => by have := z.1; omega) hk2 J2.2.2.1
  have I3 := LM_kept I3 (A := Aw (s.heap.size + 110) 43) (fun i hi z => by have := z.2; omega) hk2 J2.2.2.1
  refine lv_pop hx9 hb9 dL_law_1161 rfl ?_
  refine lv_goto (tgt := 1526) hx9 hb9 dL_law_1162 (by decide) ?_
  refine W.widen (k := cl + 1) (n := sl + 6) (Nat.le_succ _) (Nat.le_add_right _ _) ?_
  exact K _ _ _ _ _ _ ⟨J1, J2, I3, L1⟩ hl
set_option maxHeartbeats 1000000 in
theorem lc_1165 (S : CallFix p m c cL_law 7 s #[Value.ref b] lw_tbl RL) (hX : va_X b L xs s s.heap) (hbl : b < s.heap.size) {hx hm : PH} {f : Nat → Int64} (I : LW D cy hx hm f s H locs) {i : Int32} (hin : IN i L) {cl sl : Nat} (hc : cl ≤ 1000 ∧ sl ≤ 20000) (hl : lv_has ls 7 (LV b s i)) (K : ∀ (hx' hm' : PH) (f' : Nat → Int64) (H' : Heap) (locs' : List Loc) (ls' : Array Slot), LW D cy hx' hm' f' s H' locs' → lv_has ls' 7 (LV b s i) → W p l e room_1 s m #[Value.ref b] below meth c H' locs' (cl + 1) (sl + 6) (lw_Z below #[Value.ref b] s) (F0 m 1526 ls' [])) : W p l e room_1 s m #[Value.ref b] below meth c H locs cl sl (lw_Z below #[Value.ref b] s) (F0 m 1165 ls []) := by
  have hbA : ¬ A0 s b := Nat.not_le.mpr hbl
  have hx9 := S.1
  have hb9 := S.2.1
  obtain ⟨I1, I2, I3, L0⟩ := I
  have hS := I1.2.2.1
  obtain ⟨_, v1, v2, v3, v4, v5⟩ := hin
  obtain ⟨a, hx', hm', ex, em, L1⟩ := p_next L0 
  refine lv_aload_n hx9 hb9 dL_law_1165 rfl (lv_at hl 1 rfl) ?_
  refine l_Vi (As := []) S (M11_next l D cy s.heap.size (Aw s.heap.size 110) false ex) gL_11_next rfl rfl rfl cdL_11_next ⟨Nat.le_of_ble_eq_true rfl, Nat.le_of_ble_eq_true rfl⟩ I1 (Nat.le_refl _) (x_ok L0.1).1 clX11 rfl rfl hl.1 rfl (Nat.le_of_ble_eq_true rfl) dL_law_1166 ⟨Nat.le_trans (Nat.add_le_add_right hc.1 _) (Nat.le_of_ble_eq_true rfl), Nat.le_trans (Nat.add_le_add_right hc.2 _) (Nat.le_of_ble_eq_true rfl)⟩ (fun H1 locs1 J1 hk1 => ?_)
  have I2 := LM_kept I2 (A := Aw s.heap.size 110) (fun i hi z => by have := z.2; omega) hk1 J1.2.2.1
  have I3 := LM_kept I3 (A := Aw s.heap.size 110) (fun i hi z => by have := z.2; omega) hk1 J1.2.2.1
  have hS := I2.2.2.1
  refine lv_pop hx9 hb9 dL_law_1169 rfl ?_
  refine lv_aload_n hx9 hb9 dL_law_1170 rfl (lv_at hl 2 rfl) ?_
  refine l_Vi (As := []) S (M12_next l D cy (s.heap.size + 110) (Aw (s.heap.size + 110) 43) false em) gL_12_next rfl rfl rfl cdL_12_next ⟨Nat.le_of_ble_eq_true rfl, Nat.le_of_ble_eq_true rfl⟩ I2 (Nat.le_add_right _ _) (m_ok L0.2.1).1 clX12 rfl rfl hl.1 rfl (Nat.le_of_ble_eq_true rfl) dL_law_1171 ⟨Nat.le_trans (Nat.add_le_add_right hc.1 _) (Nat.le_of_ble_eq_true rfl), Nat.le_trans (Nat.add_le_add_right hc.2 _) (Nat.le_of_ble_eq_true rfl)⟩ (fun H2 locs2 J2 hk2 => ?_)
  have J1 := LM_kept J1 (A := Aw (s.heap.size + 110) 43) (fun i hi z => by have := z.1; omega) hk2 J2.2.2.1
  have I3 := LM_kept I3 (A := Aw (s.heap.size + 110) 43) (fun i hi z => by have := z.2; omega) hk2 J2.2.2.1
  refine lv_pop hx9 hb9 dL_law_1174 rfl ?_
  refine lv_goto (tgt := 1526) hx9 hb9 dL_law_1175 (by decide) ?_
  refine W.widen (k := cl + 1) (n := sl + 6) (Nat.le_succ _) (Nat.le_add_right _ _) ?_
  exact K _ _ _ _ _ _ ⟨J1, J2, I3, L1⟩ hl
set_option maxHeartbeats 1000000 in
theorem lc_1178 (S : CallFix p m c cL_law 7 s #[Value.ref b] lw_tbl RL) (hX : va_X b L xs s s.heap) (hbl : b < s.heap.size) {hx hm : PH} {f : Nat → Int64} (I : LW D cy hx hm f s H locs) {i : Int32} (hin : IN i L) {cl sl : Nat} (hc : cl ≤ 1000 ∧ sl ≤ 20000) (hl : lv_has ls 7 (LV b s i)) (K : ∀ (hx' hm' : PH) (f' : Nat → Int64) (H' : Heap) (locs' : List Loc) (ls' : Array Slot), LW D cy hx' hm' f' s H' locs' → lv_has ls' 7 (LV b s i) → W p l e room_1 s m #[Value.ref b] below meth c H' locs' (cl + 1) (sl + 6) (lw_Z below #[Value.ref b] s) (F0 m 1526 ls' [])) : W p l e room_1 s m #[Value.ref b] below meth c H locs cl sl (lw_Z below #[Value.ref b] s) (F0 m 1178 ls []) := by
  have hbA : ¬ A0 s b := Nat.not_le.mpr hbl
  have hx9 := S.1
  have hb9 := S.2.1
  obtain ⟨I1, I2, I3, L0⟩ := I
  have hS := I1.2.2.1
  obtain ⟨_, v1, v2, v3, v4, v5⟩ := hin
  obtain ⟨a, hx', hm', ex, em, L1⟩ := p_gaps L0 (xs (i + 1).toNatClampNeg) (xs (i + 2).toNatClampNeg)
  refine lv_aload_n hx9 hb9 dL_law_1178 rfl (lv_at hl 1 rfl) ?_
  refine lv_aload_n hx9 hb9 dL_law_1179 rfl (lv_at hl 0 rfl) ?_
  refine lv_iload hx9 hb9 dL_law_1180 (lv_at hl 4 rfl) ?_
  refine lv_iconst (v := 1) hx9 hb9 dL_law_1182 (by decide) ?_
  refine lv_iadd hx9 hb9 dL_law_1183 ?_
  refine va_sld (A := A0 s) hx9 hb9 hX hbl hbA hS v1 dL_law_1184 ?_
  refine lv_aload_n hx9 hb9 dL_law_1185 rfl (lv_at hl 0 rfl) ?_
  refine lv_iload hx9 hb9 dL_law_1186 (lv_at hl 4 rfl) ?_
  refine lv_iconst (v := 2) hx9 hb9 dL_law_1188 (by decide) ?_
  refine lv_iadd hx9 hb9 dL_law_1189 ?_
  refine va_sld (A := A0 s) hx9 hb9 hX hbl hbA hS v2 dL_law_1190 ?_
  refine l_Vi (As := [.int (xs (i + 1).toNatClampNeg), .int (xs (i + 2).toNatClampNeg)]) S (M11_gaps l D cy s.heap.size (Aw s.heap.size 110) false ex) gL_11_gaps rfl rfl rfl cdL_11_gaps ⟨Nat.le_of_ble_eq_true rfl, Nat.le_of_ble_eq_true rfl⟩ I1 (Nat.le_refl _) (x_ok L0.1).1 clX11 rfl rfl hl.1 rfl (Nat.le_of_ble_eq_true rfl) dL_law_1191 ⟨Nat.le_trans (Nat.add_le_add_right hc.1 _) (Nat.le_of_ble_eq_true rfl), Nat.le_trans (Nat.add_le_add_right hc.2 _) (Nat.le_of_ble_eq_true rfl)⟩ (fun H1 locs1 J1 hk1 => ?_)
  have I2 := LM_kept I2 (A := Aw s.heap.size 110) (fun i hi z => by have := z.2; omega) hk1 J1.2.2.1
  have I3 := LM_kept I3 (A := Aw s.heap.size 110) (fun i hi z => by have := z.2; omega) hk1 J1.2.2.1
  have hS := I2.2.2.1
  refine lv_pop hx9 hb9 dL_law_1194 rfl ?_
  refine lv_aload_n hx9 hb9 dL_law_1195 rfl (lv_at hl 2 rfl) ?_
  refine lv_aload_n hx9 hb9 dL_law_1196 rfl (lv_at hl 0 rfl) ?_
  refine lv_iload hx9 hb9 dL_law_1197 (lv_at hl 4 rfl) ?_
  refine lv_iconst (v := 1) hx9 hb9 dL_law_1199 (by decide) ?_
  refine lv_iadd hx9 hb9 dL_law_1200 ?_
  refine va_sld (A := A0 s) hx9 hb9 hX hbl hbA hS v1 dL_law_1201 ?_
  refine lv_aload_n hx9 hb9 dL_law_1202 rfl (lv_at hl 0 rfl) ?_
  refine lv_iload hx9 hb9 dL_law_1203 (lv_at hl 4 rfl) ?_
  refine lv_iconst (v := 2) hx9 hb9 dL_law_1205 (by decide) ?_
  refine lv_iadd hx9 hb9 dL_law_1206 ?_
  refine va_sld (A := A0 s) hx9 hb9 hX hbl hbA hS v2 dL_law_1207 ?_
  refine l_Vi (As := [.int (xs (i + 1).toNatClampNeg), .int (xs (i + 2).toNatClampNeg)]) S (M12_gaps l D cy (s.heap.size + 110) (Aw (s.heap.size + 110) 43) false em) gL_12_gaps rfl rfl rfl cdL_12_gaps ⟨Nat.le_of_ble_eq_true rfl, Nat.le_of_ble_eq_true rfl⟩ I2 (Nat.le_add_right _ _) (m_ok L0.2.1).1 clX12 rfl rfl hl.1 rfl (Nat.le_of_ble_eq_true rfl) dL_law_1208 ⟨Nat.le_trans (Nat.add_le_add_right hc.1 _) (Nat.le_of_ble_eq_true rfl), Nat.le_trans (Nat.add_le_add_right hc.2 _) (Nat.le_of_ble_eq_true rfl)⟩ (fun H2 locs2 J2 hk2 => ?_)
  have J1 := LM_kept J1 (A := Aw (s.heap.size + 110) 43) (fun i hi z => by have := z.1; omega) hk2 J2.2.2.1
  have I3 := LM_kept I3 (A := Aw (s.heap.size + 110) 43) (fun i hi z => by have := z.2; omega) hk2 J2.2.2.1
  refine lv_pop hx9 hb9 dL_law_1211 rfl ?_
  refine lv_goto (tgt := 1526) hx9 hb9 dL_law_1212 (by decide) ?_
  refine W.widen (k := cl + 1) (n := sl + 6) (Nat.le_succ _) (Nat.le_add_right _ _) ?_
  exact K _ _ _ _ _ _ ⟨J1, J2, I3, L1⟩ hl
set_option maxHeartbeats 1000000 in
theorem lc_1215 (S : CallFix p m c cL_law 7 s #[Value.ref b] lw_tbl RL) (hX : va_X b L xs s s.heap) (hbl : b < s.heap.size) {hx hm : PH} {f : Nat → Int64} (I : LW D cy hx hm f s H locs) {i : Int32} (hin : IN i L) {cl sl : Nat} (hc : cl ≤ 1000 ∧ sl ≤ 20000) (hl : lv_has ls 7 (LV b s i)) (K : ∀ (hx' hm' : PH) (f' : Nat → Int64) (H' : Heap) (locs' : List Loc) (ls' : Array Slot), LW D cy hx' hm' f' s H' locs' → lv_has ls' 7 (LV b s i) → W p l e room_1 s m #[Value.ref b] below meth c H' locs' (cl + 1) (sl + 6) (lw_Z below #[Value.ref b] s) (F0 m 1526 ls' [])) : W p l e room_1 s m #[Value.ref b] below meth c H locs cl sl (lw_Z below #[Value.ref b] s) (F0 m 1215 ls []) := by
  have hbA : ¬ A0 s b := Nat.not_le.mpr hbl
  have hx9 := S.1
  have hb9 := S.2.1
  obtain ⟨I1, I2, I3, L0⟩ := I
  have hS := I1.2.2.1
  obtain ⟨_, v1, v2, v3, v4, v5⟩ := hin
  obtain ⟨a, hx', hm', ex, em, L1⟩ := p_shares L0 (xs (i + 1).toNatClampNeg)
  refine lv_aload_n hx9 hb9 dL_law_1215 rfl (lv_at hl 1 rfl) ?_
  refine lv_aload_n hx9 hb9 dL_law_1216 rfl (lv_at hl 0 rfl) ?_
  refine lv_iload hx9 hb9 dL_law_1217 (lv_at hl 4 rfl) ?_
  refine lv_iconst (v := 1) hx9 hb9 dL_law_1219 (by decide) ?_
  refine lv_iadd hx9 hb9 dL_law_1220 ?_
  refine va_sld (A := A0 s) hx9 hb9 hX hbl hbA hS v1 dL_law_1221 ?_
  refine l_Vi (As := [.int (xs (i + 1).toNatClampNeg)]) S (M11_shares l D cy s.heap.size (Aw s.heap.size 110) false ex) gL_11_shares rfl rfl rfl cdL_11_shares ⟨Nat.le_of_ble_eq_true rfl, Nat.le_of_ble_eq_true rfl⟩ I1 (Nat.le_refl _) (x_ok L0.1).1 clX11 rfl rfl hl.1 rfl (Nat.le_of_ble_eq_true rfl) dL_law_1222 ⟨Nat.le_trans (Nat.add_le_add_right hc.1 _) (Nat.le_of_ble_eq_true rfl), Nat.le_trans (Nat.add_le_add_right hc.2 _) (Nat.le_of_ble_eq_true rfl)⟩ (fun H1 locs1 J1 hk1 => ?_)
  have I2 := LM_kept I2 (A := Aw s.heap.size 110) (fun i hi z => by have := z.2; omega) hk1 J1.2.2.1
  have I3 := LM_kept I3 (A := Aw s.heap.size 110) (fun i hi z => by have := z.2; omega) hk1 J1.2.2.1
  have hS := I2.2.2.1
  refine lv_pop hx9 hb9 dL_law_1225 rfl ?_
  refine lv_aload_n hx9 hb9 dL_law_1226 rfl (lv_at hl 2 rfl) ?_
  refine lv_aload_n hx9 hb9 dL_law_1227 rfl (lv_at hl 0 rfl) ?_
  refine lv_iload hx9 hb9 dL_law_1228 (lv_at hl 4 rfl) ?_
  refine lv_iconst (v := 1) hx9 hb9 dL_law_1230 (by decide) ?_
  refine lv_iadd hx9 hb9 dL_law_1231 ?_
  refine va_sld (A := A0 s) hx9 hb9 hX hbl hbA hS v1 dL_law_1232 ?_
  refine l_Vi (As := [.int (xs (i + 1).toNatClampNeg)]) S (M12_shares l D cy (s.heap.size + 110) (Aw (s.heap.size + 110) 43) false em) gL_12_shares rfl rfl rfl cdL_12_shares ⟨Nat.le_of_ble_eq_true rfl, Nat.le_of_ble_eq_true rfl⟩ I2 (Nat.le_add_right _ _) (m_ok L0.2.1).1 clX12 rfl rfl hl.1 rfl (Nat.le_of_ble_eq_true rfl) dL_law_1233 ⟨Nat.le_trans (Nat.add_le_add_right hc.1 _) (Nat.le_of_ble_eq_true rfl), Nat.le_trans (Nat.add_le_add_right hc.2 _) (Nat.le_of_ble_eq_true rfl)⟩ (fun H2 locs2 J2 hk2 => ?_)
  have J1 := LM_kept J1 (A := Aw (s.heap.size + 110) 43) (fun i hi z => by have := z.1; omega) hk2 J2.2.2.1
  have I3 := LM_kept I3 (A := Aw (s.heap.size + 110) 43) (fun i hi z => by have := z.2; omega) hk2 J2.2.2.1
  refine lv_pop hx9 hb9 dL_law_1236 rfl ?_
  refine lv_goto (tgt := 1526) hx9 hb9 dL_law_1237 (by decide) ?_
  refine W.widen (k := cl + 1) (n := sl + 6) (Nat.le_succ _) (Nat.le_add_right _ _) ?_
  exact K _ _ _ _ _ _ ⟨J1, J2, I3, L1⟩ hl
set_option maxHeartbeats 1000000 in
theorem lc_1240 (S : CallFix p m c cL_law 7 s #[Value.ref b] lw_tbl RL) (hX : va_X b L xs s s.heap) (hbl : b < s.heap.size) {hx hm : PH} {f : Nat → Int64} (I : LW D cy hx hm f s H locs) {i : Int32} (hin : IN i L) {cl sl : Nat} (hc : cl ≤ 1000 ∧ sl ≤ 20000) (hl : lv_has ls 7 (LV b s i)) (K : ∀ (hx' hm' : PH) (f' : Nat → Int64) (H' : Heap) (locs' : List Loc) (ls' : Array Slot), LW D cy hx' hm' f' s H' locs' → lv_has ls' 7 (LV b s i) → W p l e room_1 s m #[Value.ref b] below meth c H' locs' (cl + 1) (sl + 6) (lw_Z below #[Value.ref b] s) (F0 m 1526 ls' [])) : W p l e room_1 s m #[Value.ref b] below meth c H locs cl sl (lw_Z below #[Value.ref b] s) (F0 m 1240 ls []) := by
  have hbA : ¬ A0 s b := Nat.not_le.mpr hbl
  have hx9 := S.1
  have hb9 := S.2.1
  obtain ⟨I1, I2, I3, L0⟩ := I
  have hS := I1.2.2.1
  obtain ⟨_, v1, v2, v3, v4, v5⟩ := hin
  obtain ⟨a, hx', hm', ex, em, L1⟩ := p_note L0 (xs (i + 1).toNatClampNeg) (xs (i + 2).toNatClampNeg) (xs (i + 3).toNatClampNeg)
  refine lv_aload_n hx9 hb9 dL_law_1240 rfl (lv_at hl 1 rfl) ?_
  refine lv_aload_n hx9 hb9 dL_law_1241 rfl (lv_at hl 0 rfl) ?_
  refine lv_iload hx9 hb9 dL_law_1242 (lv_at hl 4 rfl) ?_
  refine lv_iconst (v := 1) hx9 hb9 dL_law_1244 (by decide) ?_
  refine lv_iadd hx9 hb9 dL_law_1245 ?_
  refine va_sld (A := A0 s) hx9 hb9 hX hbl hbA hS v1 dL_law_1246 ?_
  refine lv_aload_n hx9 hb9 dL_law_1247 rfl (lv_at hl 0 rfl) ?_
  refine lv_iload hx9 hb9 dL_law_1248 (lv_at hl 4 rfl) ?_
  refine lv_iconst (v := 2) hx9 hb9 dL_law_1250 (by decide) ?_
  refine lv_iadd hx9 hb9 dL_law_1251 ?_
  refine va_sld (A := A0 s) hx9 hb9 hX hbl hbA hS v2 dL_law_1252 ?_
  refine lv_aload_n hx9 hb9 dL_law_1253 rfl (lv_at hl 0 rfl) ?_
  refine lv_iload hx9 hb9 dL_law_1254 (lv_at hl 4 rfl) ?_
  refine lv_iconst (v := 3) hx9 hb9 dL_law_1256 (by decide) ?_
  refine lv_iadd hx9 hb9 dL_law_1257 ?_
  refine va_sld (A := A0 s) hx9 hb9 hX hbl hbA hS v3 dL_law_1258 ?_
  refine l_Vi (As := [.int (xs (i + 1).toNatClampNeg), .int (xs (i + 2).toNatClampNeg), .int (xs (i + 3).toNatClampNeg)]) S (M11_note l D cy s.heap.size (Aw s.heap.size 110) false ex) gL_11_note rfl rfl rfl cdL_11_note ⟨Nat.le_of_ble_eq_true rfl, Nat.le_of_ble_eq_true rfl⟩ I1 (Nat.le_refl _) (x_ok L0.1).1 clX11 rfl rfl hl.1 rfl (Nat.le_of_ble_eq_true rfl) dL_law_1259 ⟨Nat.le_trans (Nat.add_le_add_right hc.1 _) (Nat.le_of_ble_eq_true rfl), Nat.le_trans (Nat.add_le_add_right hc.2 _) (Nat.le_of_ble_eq_true rfl)⟩ (fun H1 locs1 J1 hk1 => ?_)
  have I2 := LM_kept I2 (A := Aw s.heap.size 110) (fun i hi z => by have := z.2; omega) hk1 J1.2.2.1
  have I3 := LM_kept I3 (A := Aw s.heap.size 110) (fun i hi z => by have := z.2; omega) hk1 J1.2.2.1
  have hS := I2.2.2.1
  refine lv_pop hx9 hb9 dL_law_1262 rfl ?_
  refine lv_aload_n hx9 hb9 dL_law_1263 rfl (lv_at hl 2 rfl) ?_
  refine lv_aload_n hx9 hb9 dL_law_1264 rfl (lv_at hl 0 rfl) ?_
  refine lv_iload hx9 hb9 dL_law_1265 (lv_at hl 4 rfl) ?_
  refine lv_iconst (v := 1) hx9 hb9 dL_law_1267 (by decide) ?_
  refine lv_iadd hx9 hb9 dL_law_1268 ?_
  refine va_sld (A := A0 s) hx9 hb9 hX hbl hbA hS v1 dL_law_1269 ?_
  refine lv_aload_n hx9 hb9 dL_law_1270 rfl (lv_at hl 0 rfl) ?_
  refine lv_iload hx9 hb9 dL_law_1271 (lv_at hl 4 rfl) ?_
  refine lv_iconst (v := 2) hx9 hb9 dL_law_1273 (by decide) ?_
  refine lv_iadd hx9 hb9 dL_law_1274 ?_
  refine va_sld (A := A0 s) hx9 hb9 hX hbl hbA hS v2 dL_law_1275 ?_
  refine lv_aload_n hx9 hb9 dL_law_1276 rfl (lv_at hl 0 rfl) ?_
  refine lv_iload hx9 hb9 dL_law_1277 (lv_at hl 4 rfl) ?_
  refine lv_iconst (v := 3) hx9 hb9 dL_law_1279 (by decide) ?_
  refine lv_iadd hx9 hb9 dL_law_1280 ?_
  refine va_sld (A := A0 s) hx9 hb9 hX hbl hbA hS v3 dL_law_1281 ?_
  refine l_Vi (As := [.int (xs (i + 1).toNatClampNeg), .int (xs (i + 2).toNatClampNeg), .int (xs (i + 3).toNatClampNeg)]) S (M12_note l D cy (s.heap.size + 110) (Aw (s.heap.size + 110) 43) false em) gL_12_note rfl rfl rfl cdL_12_note ⟨Nat.le_of_ble_eq_true rfl, Nat.le_of_ble_eq_true rfl⟩ I2 (Nat.le_add_right _ _) (m_ok L0.2.1).1 clX12 rfl rfl hl.1 rfl (Nat.le_of_ble_eq_true rfl) dL_law_1282 ⟨Nat.le_trans (Nat.add_le_add_right hc.1 _) (Nat.le_of_ble_eq_true rfl), Nat.le_trans (Nat.add_le_add_right hc.2 _) (Nat.le_of_ble_eq_true rfl)⟩ (fun H2 locs2 J2 hk2 => ?_)
  have J1 := LM_kept J1 (A := Aw (s.heap.size + 110) 43) (fun i hi z => by have := z.1; omega) hk2 J2.2.2.1
  have I3 := LM_kept I3 (A := Aw (s.heap.size + 110) 43) (fun i hi z => by have := z.2; omega) hk2 J2.2.2.1
  refine lv_pop hx9 hb9 dL_law_1285 rfl ?_
  refine lv_goto (tgt := 1526) hx9 hb9 dL_law_1286 (by decide) ?_
  refine W.widen (k := cl + 1) (n := sl + 6) (Nat.le_succ _) (Nat.le_add_right _ _) ?_
  exact K _ _ _ _ _ _ ⟨J1, J2, I3, L1⟩ hl
set_option maxHeartbeats 1000000 in
theorem lc_1289 (S : CallFix p m c cL_law 7 s #[Value.ref b] lw_tbl RL) (hX : va_X b L xs s s.heap) (hbl : b < s.heap.size) {hx hm : PH} {f : Nat → Int64} (I : LW D cy hx hm f s H locs) {i : Int32} (hin : IN i L) {cl sl : Nat} (hc : cl ≤ 1000 ∧ sl ≤ 20000) (hl : lv_has ls 7 (LV b s i)) (K : ∀ (hx' hm' : PH) (f' : Nat → Int64) (H' : Heap) (locs' : List Loc) (ls' : Array Slot), LW D cy hx' hm' f' s H' locs' → lv_has ls' 7 (LV b s i) → W p l e room_1 s m #[Value.ref b] below meth c H' locs' (cl + 1) (sl + 6) (lw_Z below #[Value.ref b] s) (F0 m 1526 ls' [])) : W p l e room_1 s m #[Value.ref b] below meth c H locs cl sl (lw_Z below #[Value.ref b] s) (F0 m 1289 ls []) := by
  have hbA : ¬ A0 s b := Nat.not_le.mpr hbl
  have hx9 := S.1
  have hb9 := S.2.1
  obtain ⟨I1, I2, I3, L0⟩ := I
  have hS := I1.2.2.1
  obtain ⟨_, v1, v2, v3, v4, v5⟩ := hin
  obtain ⟨a, hx', hm', ex, em, L1⟩ := p_strike L0 (xs (i + 1).toNatClampNeg)
  refine lv_aload_n hx9 hb9 dL_law_1289 rfl (lv_at hl 1 rfl) ?_
  refine lv_aload_n hx9 hb9 dL_law_1290 rfl (lv_at hl 0 rfl) ?_
  refine lv_iload hx9 hb9 dL_law_1291 (lv_at hl 4 rfl) ?_
  refine lv_iconst (v := 1) hx9 hb9 dL_law_1293 (by decide) ?_
  refine lv_iadd hx9 hb9 dL_law_1294 ?_
  refine va_sld (A := A0 s) hx9 hb9 hX hbl hbA hS v1 dL_law_1295 ?_
  refine l_Vi (As := [.int (xs (i + 1).toNatClampNeg)]) S (M11_strike l D cy s.heap.size (Aw s.heap.size 110) false ex) gL_11_strike rfl rfl rfl cdL_11_strike ⟨Nat.le_of_ble_eq_true rfl, Nat.le_of_ble_eq_true rfl⟩ I1 (Nat.le_refl _) (x_ok L0.1).1 clX11 rfl rfl hl.1 rfl (Nat.le_of_ble_eq_true rfl) dL_law_1296 ⟨Nat.le_trans (Nat.add_le_add_right hc.1 _) (Nat.le_of_ble_eq_true rfl), Nat.le_trans (Nat.add_le_add_right hc.2 _) (Nat.le_of_ble_eq_true rfl)⟩ (fun H1 locs1 J1 hk1 => ?_)
  have I2 := LM_kept I2 (A := Aw s.heap.size 110) (fun i hi z => by have := z.2; omega) hk1 J1.2.2.1
  have I3 := LM_kept I3 (A := Aw s.heap.size 110) (fun i hi z => by have := z.2; omega) hk1 J1.2.2.1
  have hS := I2.2.2.1
  refine lv_pop hx9 hb9 dL_law_1299 rfl ?_
  refine lv_aload_n hx9 hb9 dL_law_1300 rfl (lv_at hl 2 rfl) ?_
  refine lv_aload_n hx9 hb9 dL_law_1301 rfl (lv_at hl 0 rfl) ?_
  refine lv_iload hx9 hb9 dL_law_1302 (lv_at hl 4 rfl) ?_
  refine lv_iconst (v := 1) hx9 hb9 dL_law_1304 (by decide) ?_
  refine lv_iadd hx9 hb9 dL_law_1305 ?_
  refine va_sld (A := A0 s) hx9 hb9 hX hbl hbA hS v1 dL_law_1306 ?_
  refine l_Vi (As := [.int (xs (i + 1).toNatClampNeg)]) S (M12_strike l D cy (s.heap.size + 110) (Aw (s.heap.size + 110) 43) false em) gL_12_strike rfl rfl rfl cdL_12_strike ⟨Nat.le_of_ble_eq_true rfl, Nat.le_of_ble_eq_true rfl⟩ I2 (Nat.le_add_right _ _) (m_ok L0.2.1).1 clX12 rfl rfl hl.1 rfl (Nat.le_of_ble_eq_true rfl) dL_law_1307 ⟨Nat.le_trans (Nat.add_le_add_right hc.1 _) (Nat.le_of_ble_eq_true rfl), Nat.le_trans (Nat.add_le_add_right hc.2 _) (Nat.le_of_ble_eq_true rfl)⟩ (fun H2 locs2 J2 hk2 => ?_)
  have J1 := LM_kept J1 (A := Aw (s.heap.size + 110) 43) (fun i hi z => by have := z.1; omega) hk2 J2.2.2.1
  have I3 := LM_kept I3 (A := Aw (s.heap.size + 110) 43) (fun i hi z => by have := z.2; omega) hk2 J2.2.2.1
  refine lv_pop hx9 hb9 dL_law_1310 rfl ?_
  refine lv_goto (tgt := 1526) hx9 hb9 dL_law_1311 (by decide) ?_
  refine W.widen (k := cl + 1) (n := sl + 6) (Nat.le_succ _) (Nat.le_add_right _ _) ?_
  exact K _ _ _ _ _ _ ⟨J1, J2, I3, L1⟩ hl
set_option maxHeartbeats 1000000 in
theorem lc_1314 (S : CallFix p m c cL_law 7 s #[Value.ref b] lw_tbl RL) (hX : va_X b L xs s s.heap) (hbl : b < s.heap.size) {hx hm : PH} {f : Nat → Int64} (I : LW D cy hx hm f s H locs) {i : Int32} (hin : IN i L) {cl sl : Nat} (hc : cl ≤ 1000 ∧ sl ≤ 20000) (hl : lv_has ls 7 (LV b s i)) (K : ∀ (hx' hm' : PH) (f' : Nat → Int64) (H' : Heap) (locs' : List Loc) (ls' : Array Slot), LW D cy hx' hm' f' s H' locs' → lv_has ls' 7 (LV b s i) → W p l e room_1 s m #[Value.ref b] below meth c H' locs' (cl + 1) (sl + 6) (lw_Z below #[Value.ref b] s) (F0 m 1526 ls' [])) : W p l e room_1 s m #[Value.ref b] below meth c H locs cl sl (lw_Z below #[Value.ref b] s) (F0 m 1314 ls []) := by
  have hbA : ¬ A0 s b := Nat.not_le.mpr hbl
  have hx9 := S.1
  have hb9 := S.2.1
  obtain ⟨I1, I2, I3, L0⟩ := I
  have hS := I1.2.2.1
  obtain ⟨_, v1, v2, v3, v4, v5⟩ := hin
  obtain ⟨a, hx', hm', ex, em, L1⟩ := p_known L0 (xs (i + 1).toNatClampNeg)
  refine lv_aload_n hx9 hb9 dL_law_1314 rfl (lv_at hl 1 rfl) ?_
  refine lv_aload_n hx9 hb9 dL_law_1315 rfl (lv_at hl 0 rfl) ?_
  refine lv_iload hx9 hb9 dL_law_1316 (lv_at hl 4 rfl) ?_
  refine lv_iconst (v := 1) hx9 hb9 dL_law_1318 (by decide) ?_
  refine lv_iadd hx9 hb9 dL_law_1319 ?_
  refine va_sld (A := A0 s) hx9 hb9 hX hbl hbA hS v1 dL_law_1320 ?_
  refine l_Vi (As := [.int (xs (i + 1).toNatClampNeg)]) S (M11_known l D cy s.heap.size (Aw s.heap.size 110) false ex) gL_11_known rfl rfl rfl cdL_11_known ⟨Nat.le_of_ble_eq_true rfl, Nat.le_of_ble_eq_true rfl⟩ I1 (Nat.le_refl _) (x_ok L0.1).1 clX11 rfl rfl hl.1 rfl (Nat.le_of_ble_eq_true rfl) dL_law_1321 ⟨Nat.le_trans (Nat.add_le_add_right hc.1 _) (Nat.le_of_ble_eq_true rfl), Nat.le_trans (Nat.add_le_add_right hc.2 _) (Nat.le_of_ble_eq_true rfl)⟩ (fun H1 locs1 J1 hk1 => ?_)
  have I2 := LM_kept I2 (A := Aw s.heap.size 110) (fun i hi z => by have := z.2; omega) hk1 J1.2.2.1
  have I3 := LM_kept I3 (A := Aw s.heap.size 110) (fun i hi z => by have := z.2; omega) hk1 J1.2.2.1
  have hS := I2.2.2.1
  refine lv_pop hx9 hb9 dL_law_1324 rfl ?_
  refine lv_aload_n hx9 hb9 dL_law_1325 rfl (lv_at hl 2 rfl) ?_
  refine lv_aload_n hx9 hb9 dL_law_1326 rfl (lv_at hl 0 rfl) ?_
  refine lv_iload hx9 hb9 dL_law_1327 (lv_at hl 4 rfl) ?_
  refine lv_iconst (v := 1) hx9 hb9 dL_law_1329 (by decide) ?_
  refine lv_iadd hx9 hb9 dL_law_1330 ?_
  refine va_sld (A := A0 s) hx9 hb9 hX hbl hbA hS v1 dL_law_1331 ?_
  refine l_Vi (As := [.int (xs (i + 1).toNatClampNeg)]) S (M12_known l D cy (s.heap.size + 110) (Aw (s.heap.size + 110) 43) false em) gL_12_known rfl rfl rfl cdL_12_known ⟨Nat.le_of_ble_eq_true rfl, Nat.le_of_ble_eq_true rfl⟩ I2 (Nat.le_add_right _ _) (m_ok L0.2.1).1 clX12 rfl rfl hl.1 rfl (Nat.le_of_ble_eq_true rfl) dL_law_1332 ⟨Nat.le_trans (Nat.add_le_add_right hc.1 _) (Nat.le_of_ble_eq_true rfl), Nat.le_trans (Nat.add_le_add_right hc.2 _) (Nat.le_of_ble_eq_true rfl)⟩ (fun H2 locs2 J2 hk2 => ?_)
  have J1 := LM_kept J1 (A := Aw (s.heap.size + 110) 43) (fun i hi z => by have := z.1; omega) hk2 J2.2.2.1
  have I3 := LM_kept I3 (A := Aw (s.heap.size + 110) 43) (fun i hi z => by have := z.2; omega) hk2 J2.2.2.1
  refine lv_pop hx9 hb9 dL_law_1335 rfl ?_
  refine lv_goto (tgt := 1526) hx9 hb9 dL_law_1336 (by decide) ?_
  refine W.widen (k := cl + 1) (n := sl + 6) (Nat.le_succ _) (Nat.le_add_right _ _) ?_
  exact K _ _ _ _ _ _ ⟨J1, J2, I3, L1⟩ hl
set_option maxHeartbeats 1000000 in
theorem lc_1339 (S : CallFix p m c cL_law 7 s #[Value.ref b] lw_tbl RL) (hX : va_X b L xs s s.heap) (hbl : b < s.heap.size) {hx hm : PH} {f : Nat → Int64} (I : LW D cy hx hm f s H locs) {i : Int32} (hin : IN i L) {cl sl : Nat} (hc : cl ≤ 1000 ∧ sl ≤ 20000) (hl : lv_has ls 7 (LV b s i)) (K : ∀ (hx' hm' : PH) (f' : Nat → Int64) (H' : Heap) (locs' : List Loc) (ls' : Array Slot), LW D cy hx' hm' f' s H' locs' → lv_has ls' 7 (LV b s i) → W p l e room_1 s m #[Value.ref b] below meth c H' locs' (cl + 1) (sl + 6) (lw_Z below #[Value.ref b] s) (F0 m 1526 ls' [])) : W p l e room_1 s m #[Value.ref b] below meth c H locs cl sl (lw_Z below #[Value.ref b] s) (F0 m 1339 ls []) := by
  have hbA : ¬ A0 s b := Nat.not_le.mpr hbl
  have hx9 := S.1
  have hb9 := S.2.1
  obtain ⟨I1, I2, I3, L0⟩ := I
  have hS := I1.2.2.1
  obtain ⟨_, v1, v2, v3, v4, v5⟩ := hin
  obtain ⟨a, hx', hm', ex, em, L1⟩ := p_locals L0 (xs (i + 1).toNatClampNeg)
  refine lv_aload_n hx9 hb9 dL_law_1339 rfl (lv_at hl 1 rfl) ?_
  refine lv_aload_n hx9 hb9 dL_law_1340 rfl (lv_at hl 0 rfl) ?_
  refine lv_iload hx9 hb9 dL_law_1341 (lv_at hl 4 rfl) ?_
  refine lv_iconst (v := 1) hx9 hb9 dL_law_1343 (by decide) ?_
  refine lv_iadd hx9 hb9 dL_law_1344 ?_
  refine va_sld (A := A0 s) hx9 hb9 hX hbl hbA hS v1 dL_law_1345 ?_
  refine l_Vi (As := [.int (xs (i + 1).toNatClampNeg)]) S (M11_locals l D cy s.heap.size (Aw s.heap.size 110) false ex) gL_11_locals rfl rfl rfl cdL_11_locals ⟨Nat.le_of_ble_eq_true rfl, Nat.le_of_ble_eq_true rfl⟩ I1 (Nat.le_refl _) (x_ok L0.1).1 clX11 rfl rfl hl.1 rfl (Nat.le_of_ble_eq_true rfl) dL_law_1346 ⟨Nat.le_trans (Nat.add_le_add_right hc.1 _) (Nat.le_of_ble_eq_true rfl), Nat.le_trans (Nat.add_le_add_right hc.2 _) (Nat.le_of_ble_eq_true rfl)⟩ (fun H1 locs1 J1 hk1 => ?_)
  have I2 := LM_kept I2 (A := Aw s.heap.size 110) (fun i hi z => by have := z.2; omega) hk1 J1.2.2.1
  have I3 := LM_kept I3 (A := Aw s.heap.size 110) (fun i hi z => by have := z.2; omega) hk1 J1.2.2.1
  have hS := I2.2.2.1
  refine lv_pop hx9 hb9 dL_law_1349 rfl ?_
  refine lv_aload_n hx9 hb9 dL_law_1350 rfl (lv_at hl 2 rfl) ?_
  refine lv_aload_n hx9 hb9 dL_law_1351 rfl (lv_at hl 0 rfl) ?_
  refine lv_iload hx9 hb9 dL_law_1352 (lv_at hl 4 rfl) ?_
  refine lv_iconst (v := 1) hx9 hb9 dL_law_1354 (by decide) ?_
  refine lv_iadd hx9 hb9 dL_law_1355 ?_
  refine va_sld (A := A0 s) hx9 hb9 hX hbl hbA hS v1 dL_law_1356 ?_
  refine l_Vi (As := [.int (xs (i + 1).toNatClampNeg)]) S (M12_locals l D cy (s.heap.size + 110) (Aw (s.heap.size + 110) 43) false em) gL_12_locals rfl rfl rfl cdL_12_locals ⟨Nat.le_of_ble_eq_true rfl, Nat.le_of_ble_eq_true rfl⟩ I2 (Nat.le_add_right _ _) (m_ok L0.2.1).1 clX12 rfl rfl hl.1 rfl (Nat.le_of_ble_eq_true rfl) dL_law_1357 ⟨Nat.le_trans (Nat.add_le_add_right hc.1 _) (Nat.le_of_ble_eq_true rfl), Nat.le_trans (Nat.add_le_add_right hc.2 _) (Nat.le_of_ble_eq_true rfl)⟩ (fun H2 locs2 J2 hk2 => ?_)
  have J1 := LM_kept J1 (A := Aw (s.heap.size + 110) 43) (fun i hi z => by have := z.1; omega) hk2 J2.2.2.1
  have I3 := LM_kept I3 (A := Aw (s.heap.size + 110) 43) (fun i hi z => by have := z.2; omega) hk2 J2.2.2.1
  refine lv_pop hx9 hb9 dL_law_1360 rfl ?_
  refine lv_goto (tgt := 1526) hx9 hb9 dL_law_1361 (by decide) ?_
  refine W.widen (k := cl + 1) (n := sl + 6) (Nat.le_succ _) (Nat.le_add_right _ _) ?_
  exact K _ _ _ _ _ _ ⟨J1, J2, I3, L1⟩ hl
set_option maxHeartbeats 1000000 in
theorem lc_1364 (S : CallFix p m c cL_law 7 s #[Value.ref b] lw_tbl RL) (hX : va_X b L xs s s.heap) (hbl : b < s.heap.size) {hx hm : PH} {f : Nat → Int64} (I : LW D cy hx hm f s H locs) {i : Int32} (hin : IN i L) {cl sl : Nat} (hc : cl ≤ 1000 ∧ sl ≤ 20000) (hl : lv_has ls 7 (LV b s i)) (K : ∀ (hx' hm' : PH) (f' : Nat → Int64) (H' : Heap) (locs' : List Loc) (ls' : Array Slot), LW D cy hx' hm' f' s H' locs' → lv_has ls' 7 (LV b s i) → W p l e room_1 s m #[Value.ref b] below meth c H' locs' (cl + 1) (sl + 6) (lw_Z below #[Value.ref b] s) (F0 m 1526 ls' [])) : W p l e room_1 s m #[Value.ref b] below meth c H locs cl sl (lw_Z below #[Value.ref b] s) (F0 m 1364 ls []) := by
  have hbA : ¬ A0 s b := Nat.not_le.mpr hbl
  have hx9 := S.1
  have hb9 := S.2.1
  obtain ⟨I1, I2, I3, L0⟩ := I
  have hS := I1.2.2.1
  obtain ⟨_, v1, v2, v3, v4, v5⟩ := hin
  obtain ⟨a, hx', hm', ex, em, L1⟩ := p_chance L0 (xs (i + 1).toNatClampNeg) (xs (i + 2).toNatClampNeg) (xs (i + 3).toNatClampNeg)
  refine lv_aload_n hx9 hb9 dL_law_1364 rfl (lv_at hl 1 rfl) ?_
  refine lv_aload_n hx9 hb9 dL_law_1365 rfl (lv_at hl 0 rfl) ?_
  refine lv_iload hx9 hb9 dL_law_1366 (lv_at hl 4 rfl) ?_
  refine lv_iconst (v := 1) hx9 hb9 dL_law_1368 (by decide) ?_
  refine lv_iadd hx9 hb9 dL_law_1369 ?_
  refine va_sld (A := A0 s) hx9 hb9 hX hbl hbA hS v1 dL_law_1370 ?_
  refine lv_aload_n hx9 hb9 dL_law_1371 rfl (lv_at hl 0 rfl) ?_
  refine lv_iload hx9 hb9 dL_law_1372 (lv_at hl 4 rfl) ?_
  refine lv_iconst (v := 2) hx9 hb9 dL_law_1374 (by decide) ?_
  refine lv_iadd hx9 hb9 dL_law_1375 ?_
  refine va_sld (A := A0 s) hx9 hb9 hX hbl hbA hS v2 dL_law_1376 ?_
  refine lv_aload_n hx9 hb9 dL_law_1377 rfl (lv_at hl 0 rfl) ?_
  refine lv_iload hx9 hb9 dL_law_1378 (lv_at hl 4 rfl) ?_
  refine lv_iconst (v := 3) hx9 hb9 dL_law_1380 (by decide) ?_
  refine lv_iadd hx9 hb9 dL_law_1381 ?_
  refine va_sld (A := A0 s) hx9 hb9 hX hbl hbA hS v3 dL_law_1382 ?_
  refine l_Vi (As := [.int (xs (i + 1).toNatClampNeg), .int (xs (i + 2).toNatClampNeg), .int (xs (i + 3).toNatClampNeg)]) S (M11_chance l D cy s.heap.size (Aw s.heap.size 110) ex) gL_11_chance rfl rfl rfl cdL_11_chance ⟨Nat.le_of_ble_eq_true rfl, Nat.le_of_ble_eq_true rfl⟩ I1 (Nat.le_refl _) (x_ok L0.1).1 clX11 rfl rfl hl.1 rfl (Nat.le_of_ble_eq_true rfl) dL_law_1383 ⟨Nat.le_trans (Nat.add_le_add_right hc.1 _) (Nat.le_of_ble_eq_true rfl), Nat.le_trans (Nat.add_le_add_right hc.2 _) (Nat.le_of_ble_eq_true rfl)⟩ (fun H1 locs1 J1 hk1 => ?_)
  have I2 := LM_kept I2 (A := Aw s.heap.size 110) (fun i hi z => by have := z.2; omega) hk1 J1.2.2.1
  have I3 := LM_kept I3 (A := Aw s.heap.size 110) (fun i hi z => by have := z.2; omega) hk1 J1.2.2.1
  have hS := I2.2.2.1
  refine lv_pop hx9 hb9 dL_law_1386 rfl ?_
  refine lv_aload_n hx9 hb9 dL_law_1387 rfl (lv_at hl 2 rfl) ?_
  refine lv_aload_n hx9 hb9 dL_law_1388 rfl (lv_at hl 0 rfl) ?_
  refine lv_iload hx9 hb9 dL_law_1389 (lv_at hl 4 rfl) ?_
  refine lv_iconst (v := 1) hx9 hb9 dL_law_1391 (by decide) ?_
  refine lv_iadd hx9 hb9 dL_law_1392 ?_
  refine va_sld (A := A0 s) hx9 hb9 hX hbl hbA hS v1 dL_law_1393 ?_
  refine lv_aload_n hx9 hb9 dL_law_1394 rfl (lv_at hl 0 rfl) ?_
  refine lv_iload hx9 hb9 dL_law_1395 (lv_at hl 4 rfl) ?_
  refine lv_iconst (v := 2) hx9 hb9 dL_law_1397 (by decide) ?_
  refine lv_iadd hx9 hb9 dL_law_1398 ?_
  refine va_sld (A := A0 s) hx9 hb9 hX hbl hbA hS v2 dL_law_1399 ?_
  refine lv_aload_n hx9 hb9 dL_law_1400 rfl (lv_at hl 0 rfl) ?_
  refine lv_iload hx9 hb9 dL_law_1401 (lv_at hl 4 rfl) ?_
  refine lv_iconst (v := 3) hx9 hb9 dL_law_1403 (by decide) ?_
  refine lv_iadd hx9 hb9 dL_law_1404 ?_
  refine va_sld (A := A0 s) hx9 hb9 hX hbl hbA hS v3 dL_law_1405 ?_
  refine l_Vi (As := [.int (xs (i + 1).toNatClampNeg), .int (xs (i + 2).toNatClampNeg), .int (xs (i + 3).toNatClampNeg)]) S (M12_chance l D cy (s.heap.size + 110) (Aw (s.heap.size + 110) 43) false em) gL_12_chance rfl rfl rfl cdL_12_chance ⟨Nat.le_of_ble_eq_true rfl, Nat.le_of_ble_eq_true rfl⟩ I2 (Nat.le_add_right _ _) (m_ok L0.2.1).1 clX12 rfl rfl hl.1 rfl (Nat.le_of_ble_eq_true rfl) dL_law_1406 ⟨Nat.le_trans (Nat.add_le_add_right hc.1 _) (Nat.le_of_ble_eq_true rfl), Nat.le_trans (Nat.add_le_add_right hc.2 _) (Nat.le_of_ble_eq_true rfl)⟩ (fun H2 locs2 J2 hk2 => ?_)
  have J1 := LM_kept J1 (A := Aw (s.heap.size + 110) 43) (fun i hi z => by have := z.1; omega) hk2 J2.2.2.1
  have I3 := LM_kept I3 (A := Aw (s.heap.size + 110) 43) (fun i hi z => by have := z.2; omega) hk2 J2.2.2.1
  refine lv_pop hx9 hb9 dL_law_1409 rfl ?_
  refine lv_goto (tgt := 1526) hx9 hb9 dL_law_1410 (by decide) ?_
  refine W.widen (k := cl + 1) (n := sl + 6) (Nat.le_succ _) (Nat.le_add_right _ _) ?_
  exact K _ _ _ _ _ _ ⟨J1, J2, I3, L1⟩ hl
set_option maxHeartbeats 1000000 in
theorem lc_1413 (S : CallFix p m c cL_law 7 s #[Value.ref b] lw_tbl RL) (hX : va_X b L xs s s.heap) (hbl : b < s.heap.size) {hx hm : PH} {f : Nat → Int64} (I : LW D cy hx hm f s H locs) {i : Int32} (hin : IN i L) {cl sl : Nat} (hc : cl ≤ 1000 ∧ sl ≤ 20000) (hl : lv_has ls 7 (LV b s i)) (K : ∀ (hx' hm' : PH) (f' : Nat → Int64) (H' : Heap) (locs' : List Loc) (ls' : Array Slot), LW D cy hx' hm' f' s H' locs' → lv_has ls' 7 (LV b s i) → W p l e room_1 s m #[Value.ref b] below meth c H' locs' (cl + 1) (sl + 6) (lw_Z below #[Value.ref b] s) (F0 m 1526 ls' [])) : W p l e room_1 s m #[Value.ref b] below meth c H locs cl sl (lw_Z below #[Value.ref b] s) (F0 m 1413 ls []) := by
  have hbA : ¬ A0 s b := Nat.not_le.mpr hbl
  have hx9 := S.1
  have hb9 := S.2.1
  obtain ⟨I1, I2, I3, L0⟩ := I
  have hS := I1.2.2.1
  obtain ⟨_, v1, v2, v3, v4, v5⟩ := hin
  obtain ⟨a, hx', hm', ex, em, L1⟩ := p_tried L0 (xs (i + 1).toNatClampNeg) (xs (i + 2).toNatClampNeg) (xs (i + 3).toNatClampNeg)
  refine lv_aload_n hx9 hb9 dL_law_1413 rfl (lv_at hl 1 rfl) ?_
  refine lv_aload_n hx9 hb9 dL_law_1414 rfl (lv_at hl 0 rfl) ?_
  refine lv_iload hx9 hb9 dL_law_1415 (lv_at hl 4 rfl) ?_
  refine lv_iconst (v := 1) hx9 hb9 dL_law_1417 (by decide) ?_
  refine lv_iadd hx9 hb9 dL_law_1418 ?_
  refine va_sld (A := A0 s) hx9 hb9 hX hbl hbA hS v1 dL_law_1419 ?_
  refine lv_aload_n hx9 hb9 dL_law_1420 rfl (lv_at hl 0 rfl) ?_
  refine lv_iload hx9 hb9 dL_law_1421 (lv_at hl 4 rfl) ?_
  refine lv_iconst (v := 2) hx9 hb9 dL_law_1423 (by decide) ?_
  refine lv_iadd hx9 hb9 dL_law_1424 ?_
  refine va_sld (A := A0 s) hx9 hb9 hX hbl hbA hS v2 dL_law_1425 ?_
  refine lv_aload_n hx9 hb9 dL_law_1426 rfl (lv_at hl 0 rfl) ?_
  refine lv_iload hx9 hb9 dL_law_1427 (lv_at hl 4 rfl) ?_
  refine lv_iconst (v := 3) hx9 hb9 dL_law_1429 (by decide) ?_
  refine lv_iadd hx9 hb9 dL_law_1430 ?_
  refine va_sld (A := A0 s) hx9 hb9 hX hbl hbA hS v3 dL_law_1431 ?_
  refine l_Vi (As := [.int (xs (i + 1).toNatClampNeg), .int (xs (i + 2).toNatClampNeg), .int (xs (i + 3).toNatClampNeg)]) S (M11_tried l D cy s.heap.size (Aw s.heap.size 110) ex) gL_11_tried rfl rfl rfl cdL_11_tried ⟨Nat.le_of_ble_eq_true rfl, Nat.le_of_ble_eq_true rfl⟩ I1 (Nat.le_refl _) (x_ok L0.1).1 clX11 rfl rfl hl.1 rfl (Nat.le_of_ble_eq_true rfl) dL_law_1432 ⟨Nat.le_trans (Nat.add_le_add_right hc.1 _) (Nat.le_of_ble_eq_true rfl), Nat.le_trans (Nat.add_le_add_right hc.2 _) (Nat.le_of_ble_eq_true rfl)⟩ (fun H1 locs1 J1 hk1 => ?_)
  have I2 := LM_kept I2 (A := Aw s.heap.size 110) (fun i hi z => by have := z.2; omega) hk1 J1.2.2.1
  have I3 := LM_kept I3 (A := Aw s.heap.size 110) (fun i hi z => by have := z.2; omega) hk1 J1.2.2.1
  have hS := I2.2.2.1
  refine lv_pop hx9 hb9 dL_law_1435 rfl ?_
  refine lv_aload_n hx9 hb9 dL_law_1436 rfl (lv_at hl 2 rfl) ?_
  refine lv_aload_n hx9 hb9 dL_law_1437 rfl (lv_at hl 0 rfl) ?_
  refine lv_iload hx9 hb9 dL_law_1438 (lv_at hl 4 rfl) ?_
  refine lv_iconst (v := 1) hx9 hb9 dL_law_1440 (by decide) ?_
  refine lv_iadd hx9 hb9 dL_law_1441 ?_
  refine va_sld (A := A0 s) hx9 hb9 hX hbl hbA hS v1 dL_law_1442 ?_
  refine lv_aload_n hx9 hb9 dL_law_1443 rfl (lv_at hl 0 rfl) ?_
  refine lv_iload hx9 hb9 dL_law_1444 (lv_at hl 4 rfl) ?_
  refine lv_iconst (v := 2) hx9 hb9 dL_law_1446 (by decide) ?_
  refine lv_iadd hx9 hb9 dL_law_1447 ?_
  refine va_sld (A := A0 s) hx9 hb9 hX hbl hbA hS v2 dL_law_1448 ?_
  refine lv_aload_n hx9 hb9 dL_law_1449 rfl (lv_at hl 0 rfl) ?_
  refine lv_iload hx9 hb9 dL_law_1450 (lv_at hl 4 rfl) ?_
  refine lv_iconst (v := 3) hx9 hb9 dL_law_1452 (by decide) ?_
  refine lv_iadd hx9 hb9 dL_law_1453 ?_
  refine va_sld (A := A0 s) hx9 hb9 hX hbl hbA hS v3 dL_law_1454 ?_
  refine l_Vi (As := [.int (xs (i + 1).toNatClampNeg), .int (xs (i + 2).toNatClampNeg), .int (xs (i + 3).toNatClampNeg)]) S (M12_tried l D cy (s.heap.size + 110) (Aw (s.heap.size + 110) 43) false em) gL_12_tried rfl rfl rfl cdL_12_tried ⟨Nat.le_of_ble_eq_true rfl, Nat.le_of_ble_eq_true rfl⟩ I2 (Nat.le_add_right _ _) (m_ok L0.2.1).1 clX12 rfl rfl hl.1 rfl (Nat.le_of_ble_eq_true rfl) dL_law_1455 ⟨Nat.le_trans (Nat.add_le_add_right hc.1 _) (Nat.le_of_ble_eq_true rfl), Nat.le_trans (Nat.add_le_add_right hc.2 _) (Nat.le_of_ble_eq_true rfl)⟩ (fun H2 locs2 J2 hk2 => ?_)
  have J1 := LM_kept J1 (A := Aw (s.heap.size + 110) 43) (fun i hi z => by have := z.1; omega) hk2 J2.2.2.1
  have I3 := LM_kept I3 (A := Aw (s.heap.size + 110) 43) (fun i hi z => by have := z.2; omega) hk2 J2.2.2.1
  refine lv_pop hx9 hb9 dL_law_1458 rfl ?_
  refine lv_goto (tgt := 1526) hx9 hb9 dL_law_1459 (by decide) ?_
  refine W.widen (k := cl + 1) (n := sl + 6) (Nat.le_succ _) (Nat.le_add_right _ _) ?_
  exact K _ _ _ _ _ _ ⟨J1, J2, I3, L1⟩ hl
set_option maxHeartbeats 1000000 in
theorem lc_1462 (S : CallFix p m c cL_law 7 s #[Value.ref b] lw_tbl RL) (hX : va_X b L xs s s.heap) (hbl : b < s.heap.size) {hx hm : PH} {f : Nat → Int64} (I : LW D cy hx hm f s H locs) {i : Int32} (hin : IN i L) {cl sl : Nat} (hc : cl ≤ 1000 ∧ sl ≤ 20000) (hl : lv_has ls 7 (LV b s i)) (K : ∀ (hx' hm' : PH) (f' : Nat → Int64) (H' : Heap) (locs' : List Loc) (ls' : Array Slot), LW D cy hx' hm' f' s H' locs' → lv_has ls' 7 (LV b s i) → W p l e room_1 s m #[Value.ref b] below meth c H' locs' (cl + 1) (sl + 6) (lw_Z below #[Value.ref b] s) (F0 m 1526 ls' [])) : W p l e room_1 s m #[Value.ref b] below meth c H locs cl sl (lw_Z below #[Value.ref b] s) (F0 m 1462 ls []) := by
  have hbA : ¬ A0 s b := Nat.not_le.mpr hbl
  have hx9 := S.1
  have hb9 := S.2.1
  obtain ⟨I1, I2, I3, L0⟩ := I
  have hS := I1.2.2.1
  obtain ⟨_, v1, v2, v3, v4, v5⟩ := hin
  obtain ⟨a, hx', hm', ex, em, L1⟩ := p_undo L0 
  refine lv_aload_n hx9 hb9 dL_law_1462 rfl (lv_at hl 1 rfl) ?_
  refine l_Vi (As := []) S (M11_undo l D cy s.heap.size (Aw s.heap.size 110) false ex) gL_11_undo rfl rfl rfl cdL_11_undo ⟨Nat.le_of_ble_eq_true rfl, Nat.le_of_ble_eq_true rfl⟩ I1 (Nat.le_refl _) (x_ok L0.1).1 clX11 rfl rfl hl.1 rfl (Nat.le_of_ble_eq_true rfl) dL_law_1463 ⟨Nat.le_trans (Nat.add_le_add_right hc.1 _) (Nat.le_of_ble_eq_true rfl), Nat.le_trans (Nat.add_le_add_right hc.2 _) (Nat.le_of_ble_eq_true rfl)⟩ (fun H1 locs1 J1 hk1 => ?_)
  have I2 := LM_kept I2 (A := Aw s.heap.size 110) (fun i hi z => by have := z.2; omega) hk1 J1.2.2.1
  have I3 := LM_kept I3 (A := Aw s.heap.size 110) (fun i hi z => by have := z.2; omega) hk1 J1.2.2.1
  have hS := I2.2.2.1
  refine lv_pop hx9 hb9 dL_law_1466 rfl ?_
  refine lv_aload_n hx9 hb9 dL_law_1467 rfl (lv_at hl 2 rfl) ?_
  refine l_Vi (As := []) S (M12_undo l D cy (s.heap.size + 110) (Aw (s.heap.size + 110) 43) false em) gL_12_undo rfl rfl rfl cdL_12_undo ⟨Nat.le_of_ble_eq_true rfl, Nat.le_of_ble_eq_true rfl⟩ I2 (Nat.le_add_right _ _) (m_ok L0.2.1).1 clX12 rfl rfl hl.1 rfl (Nat.le_of_ble_eq_true rfl) dL_law_1468 ⟨Nat.le_trans (Nat.add_le_add_right hc.1 _) (Nat.le_of_ble_eq_true rfl), Nat.le_trans (Nat.add_le_add_right hc.2 _) (Nat.le_of_ble_eq_true rfl)⟩ (fun H2 locs2 J2 hk2 => ?_)
  have J1 := LM_kept J1 (A := Aw (s.heap.size + 110) 43) (fun i hi z => by have := z.1; omega) hk2 J2.2.2.1
  have I3 := LM_kept I3 (A := Aw (s.heap.size + 110) 43) (fun i hi z => by have := z.2; omega) hk2 J2.2.2.1
  refine lv_pop hx9 hb9 dL_law_1471 rfl ?_
  refine lv_goto (tgt := 1526) hx9 hb9 dL_law_1472 (by decide) ?_
  refine W.widen (k := cl + 1) (n := sl + 6) (Nat.le_succ _) (Nat.le_add_right _ _) ?_
  exact K _ _ _ _ _ _ ⟨J1, J2, I3, L1⟩ hl
set_option maxHeartbeats 1000000 in
theorem lc_1475 (S : CallFix p m c cL_law 7 s #[Value.ref b] lw_tbl RL) (hX : va_X b L xs s s.heap) (hbl : b < s.heap.size) {hx hm : PH} {f : Nat → Int64} (I : LW D cy hx hm f s H locs) {i : Int32} (hin : IN i L) {cl sl : Nat} (hc : cl ≤ 1000 ∧ sl ≤ 20000) (hl : lv_has ls 7 (LV b s i)) (K : ∀ (hx' hm' : PH) (f' : Nat → Int64) (H' : Heap) (locs' : List Loc) (ls' : Array Slot), LW D cy hx' hm' f' s H' locs' → lv_has ls' 7 (LV b s i) → W p l e room_1 s m #[Value.ref b] below meth c H' locs' (cl + 1) (sl + 6) (lw_Z below #[Value.ref b] s) (F0 m 1526 ls' [])) : W p l e room_1 s m #[Value.ref b] below meth c H locs cl sl (lw_Z below #[Value.ref b] s) (F0 m 1475 ls []) := by
  have hbA : ¬ A0 s b := Nat.not_le.mpr hbl
  have hx9 := S.1
  have hb9 := S.2.1
  obtain ⟨I1, I2, I3, L0⟩ := I
  have hS := I1.2.2.1
  obtain ⟨_, v1, v2, v3, v4, v5⟩ := hin
  obtain ⟨a, hx', hm', ex, em, L1⟩ := p_keep L0 
  refine lv_aload_n hx9 hb9 dL_law_1475 rfl (lv_at hl 1 rfl) ?_
  refine l_Vi (As := []) S (M11_keep l D cy s.heap.size (Aw s.heap.size 110) ex) gL_11_keep rfl rfl rfl cdL_11_keep ⟨Nat.le_of_ble_eq_true rfl, Nat.le_of_ble_eq_true rfl⟩ I1 (Nat.le_refl _) (x_ok L0.1).1 clX11 rfl rfl hl.1 rfl (Nat.le_of_ble_eq_true rfl) dL_law_1476 ⟨Nat.le_trans (Nat.add_le_add_right hc.1 _) (Nat.le_of_ble_eq_true rfl), Nat.le_trans (Nat.add_le_add_right hc.2 _) (Nat.le_of_ble_eq_true rfl)⟩ (fun H1 locs1 J1 hk1 => ?_)
  have I2 := LM_kept I2 (A := Aw s.heap.size 110) (fun i hi z => by have := z.2; omega) hk1 J1.2.2.1
  have I3 := LM_kept I3 (A := Aw s.heap.size 110) (fun i hi z => by have := z.2; omega) hk1 J1.2.2.1
  have hS := I2.2.2.1
  refine lv_pop hx9 hb9 dL_law_1479 rfl ?_
  refine lv_aload_n hx9 hb9 dL_law_1480 rfl (lv_at hl 2 rfl) ?_
  refine l_Vi (As := []) S (M12_keep l D cy (s.heap.size + 110) (Aw (s.heap.size + 110) 43) false em) gL_12_keep rfl rfl rfl cdL_12_keep ⟨Nat.le_of_ble_eq_true rfl, Nat.le_of_ble_eq_true rfl⟩ I2 (Nat.le_add_right _ _) (m_ok L0.2.1).1 clX12 rfl rfl hl.1 rfl (Nat.le_of_ble_eq_true rfl) dL_law_1481 ⟨Nat.le_trans (Nat.add_le_add_right hc.1 _) (Nat.le_of_ble_eq_true rfl), Nat.le_trans (Nat.add_le_add_right hc.2 _) (Nat.le_of_ble_eq_true rfl)⟩ (fun H2 locs2 J2 hk2 => ?_)
  have J1 := LM_kept J1 (A := Aw (s.heap.size + 110) 43) (fun i hi z => by have := z.1; omega) hk2 J2.2.2.1
  have I3 := LM_kept I3 (A := Aw (s.heap.size + 110) 43) (fun i hi z => by have := z.2; omega) hk2 J2.2.2.1
  refine lv_pop hx9 hb9 dL_law_1484 rfl ?_
  refine lv_goto (tgt := 1526) hx9 hb9 dL_law_1485 (by decide) ?_
  refine W.widen (k := cl + 1) (n := sl + 6) (Nat.le_succ _) (Nat.le_add_right _ _) ?_
  exact K _ _ _ _ _ _ ⟨J1, J2, I3, L1⟩ hl
set_option maxHeartbeats 1000000 in
theorem lc_1488 (S : CallFix p m c cL_law 7 s #[Value.ref b] lw_tbl RL) (hX : va_X b L xs s s.heap) (hbl : b < s.heap.size) {hx hm : PH} {f : Nat → Int64} (I : LW D cy hx hm f s H locs) {i : Int32} (hin : IN i L) {cl sl : Nat} (hc : cl ≤ 1000 ∧ sl ≤ 20000) (hl : lv_has ls 7 (LV b s i)) (K : ∀ (hx' hm' : PH) (f' : Nat → Int64) (H' : Heap) (locs' : List Loc) (ls' : Array Slot), LW D cy hx' hm' f' s H' locs' → lv_has ls' 7 (LV b s i) → W p l e room_1 s m #[Value.ref b] below meth c H' locs' (cl + 1) (sl + 6) (lw_Z below #[Value.ref b] s) (F0 m 1526 ls' [])) : W p l e room_1 s m #[Value.ref b] below meth c H locs cl sl (lw_Z below #[Value.ref b] s) (F0 m 1488 ls []) := by
  have hbA : ¬ A0 s b := Nat.not_le.mpr hbl
  have hx9 := S.1
  have hb9 := S.2.1
  obtain ⟨I1, I2, I3, L0⟩ := I
  have hS := I1.2.2.1
  obtain ⟨_, v1, v2, v3, v4, v5⟩ := hin
  obtain ⟨a, hx', hm', ex, em, L1⟩ := p_back L0 
  refine lv_aload_n hx9 hb9 dL_law_1488 rfl (lv_at hl 1 rfl) ?_
  refine l_Vi (As := []) S (M11_back l D cy s.heap.size (Aw s.heap.size 110) ex) gL_11_back rfl rfl rfl cdL_11_back ⟨Nat.le_of_ble_eq_true rfl, Nat.le_of_ble_eq_true rfl⟩ I1 (Nat.le_refl _) (x_ok L0.1).1 clX11 rfl rfl hl.1 rfl (Nat.le_of_ble_eq_true rfl) dL_law_1489 ⟨Nat.le_trans (Nat.add_le_add_right hc.1 _) (Nat.le_of_ble_eq_true rfl), Nat.le_trans (Nat.add_le_add_right hc.2 _) (Nat.le_of_ble_eq_true rfl)⟩ (fun H1 locs1 J1 hk1 => ?_)
  have I2 := LM_kept I2 (A := Aw s.heap.size 110) (fun i hi z => by have := z.2; omega) hk1 J1.2.2.1
  have I3 := LM_kept I3 (A := Aw s.heap.size 110) (fun i hi z => by have := z.2; omega) hk1 J1.2.2.1
  have hS := I2.2.2.1
  refine lv_pop hx9 hb9 dL_law_1492 rfl ?_
  refine lv_aload_n hx9 hb9 dL_law_1493 rfl (lv_at hl 2 rfl) ?_
  refine l_Vi (As := []) S (M12_back l D cy (s.heap.size + 110) (Aw (s.heap.size + 110) 43) false em) gL_12_back rfl rfl rfl cdL_12_back ⟨Nat.le_of_ble_eq_true rfl, Nat.le_of_ble_eq_true rfl⟩ I2 (Nat.le_add_right _ _) (m_ok L0.2.1).1 clX12 rfl rfl hl.1 rfl (Nat.le_of_ble_eq_true rfl) dL_law_1494 ⟨Nat.le_trans (Nat.add_le_add_right hc.1 _) (Nat.le_of_ble_eq_true rfl), Nat.le_trans (Nat.add_le_add_right hc.2 _) (Nat.le_of_ble_eq_true rfl)⟩ (fun H2 locs2 J2 hk2 => ?_)
  have J1 := LM_kept J1 (A := Aw (s.heap.size + 110) 43) (fun i hi z => by have := z.1; omega) hk2 J2.2.2.1
  have I3 := LM_kept I3 (A := Aw (s.heap.size + 110) 43) (fun i hi z => by have := z.2; omega) hk2 J2.2.2.1
  refine lv_pop hx9 hb9 dL_law_1497 rfl ?_
  refine lv_goto (tgt := 1526) hx9 hb9 dL_law_1498 (by decide) ?_
  refine W.widen (k := cl + 1) (n := sl + 6) (Nat.le_succ _) (Nat.le_add_right _ _) ?_
  exact K _ _ _ _ _ _ ⟨J1, J2, I3, L1⟩ hl
set_option maxHeartbeats 1000000 in
theorem lc_1501 (S : CallFix p m c cL_law 7 s #[Value.ref b] lw_tbl RL) (hX : va_X b L xs s s.heap) (hbl : b < s.heap.size) {hx hm : PH} {f : Nat → Int64} (I : LW D cy hx hm f s H locs) {i : Int32} (hin : IN i L) {cl sl : Nat} (hc : cl ≤ 1000 ∧ sl ≤ 20000) (hl : lv_has ls 7 (LV b s i)) (K : ∀ (hx' hm' : PH) (f' : Nat → Int64) (H' : Heap) (locs' : List Loc) (ls' : Array Slot), LW D cy hx' hm' f' s H' locs' → lv_has ls' 7 (LV b s i) → W p l e room_1 s m #[Value.ref b] below meth c H' locs' (cl + 1) (sl + 6) (lw_Z below #[Value.ref b] s) (F0 m 1526 ls' [])) : W p l e room_1 s m #[Value.ref b] below meth c H locs cl sl (lw_Z below #[Value.ref b] s) (F0 m 1501 ls []) := by
  have hbA : ¬ A0 s b := Nat.not_le.mpr hbl
  have hx9 := S.1
  have hb9 := S.2.1
  obtain ⟨I1, I2, I3, L0⟩ := I
  have hS := I1.2.2.1
  obtain ⟨_, v1, v2, v3, v4, v5⟩ := hin
  obtain ⟨a, hx', hm', ex, em, L1⟩ := p_count L0 (xs (i + 1).toNatClampNeg)
  refine lv_aload_n hx9 hb9 dL_law_1501 rfl (lv_at hl 1 rfl) ?_
  refine lv_aload_n hx9 hb9 dL_law_1502 rfl (lv_at hl 0 rfl) ?_
  refine lv_iload hx9 hb9 dL_law_1503 (lv_at hl 4 rfl) ?_
  refine lv_iconst (v := 1) hx9 hb9 dL_law_1505 (by decide) ?_
  refine lv_iadd hx9 hb9 dL_law_1506 ?_
  refine va_sld (A := A0 s) hx9 hb9 hX hbl hbA hS v1 dL_law_1507 ?_
  refine l_Vi (As := [.int (xs (i + 1).toNatClampNeg)]) S (M11_count l D cy s.heap.size (Aw s.heap.size 110) false ex) gL_11_count rfl rfl rfl cdL_11_count ⟨Nat.le_of_ble_eq_true rfl, Nat.le_of_ble_eq_true rfl⟩ I1 (Nat.le_refl _) (x_ok L0.1).1 clX11 rfl rfl hl.1 rfl (Nat.le_of_ble_eq_true rfl) dL_law_1508 ⟨Nat.le_trans (Nat.add_le_add_right hc.1 _) (Nat.le_of_ble_eq_true rfl), Nat.le_trans (Nat.add_le_add_right hc.2 _) (Nat.le_of_ble_eq_true rfl)⟩ (fun H1 locs1 J1 hk1 => ?_)
  have I2 := LM_kept I2 (A := Aw s.heap.size 110) (fun i hi z => by have := z.2; omega) hk1 J1.2.2.1
  have I3 := LM_kept I3 (A := Aw s.heap.size 110) (fun i hi z => by have := z.2; omega) hk1 J1.2.2.1
  have hS := I2.2.2.1
  refine lv_aload_n hx9 hb9 dL_law_1511 rfl (lv_at hl 2 rfl) ?_
  refine lv_aload_n hx9 hb9 dL_law_1512 rfl (lv_at hl 0 rfl) ?_
  refine lv_iload hx9 hb9 dL_law_1513 (lv_at hl 4 rfl) ?_
  refine lv_iconst (v := 1) hx9 hb9 dL_law_1515 (by decide) ?_
  refine lv_iadd hx9 hb9 dL_law_1516 ?_
  refine va_sld (A := A0 s) hx9 hb9 hX hbl hbA hS v1 dL_law_1517 ?_
  refine l_Vi (As := [.int (xs (i + 1).toNatClampNeg)]) S (M12_count l D cy (s.heap.size + 110) (Aw (s.heap.size + 110) 43) false em) gL_12_count rfl rfl rfl cdL_12_count ⟨Nat.le_of_ble_eq_true rfl, Nat.le_of_ble_eq_true rfl⟩ I2 (Nat.le_add_right _ _) (m_ok L0.2.1).1 clX12 rfl rfl hl.1 rfl (Nat.le_of_ble_eq_true rfl) dL_law_1518 ⟨Nat.le_trans (Nat.add_le_add_right hc.1 _) (Nat.le_of_ble_eq_true rfl), Nat.le_trans (Nat.add_le_add_right hc.2 _) (Nat.le_of_ble_eq_true rfl)⟩ (fun H2 locs2 J2 hk2 => ?_)
  have J1 := LM_kept J1 (A := Aw (s.heap.size + 110) 43) (fun i hi z => by have := z.1; omega) hk2 J2.2.2.1
  have I3 := LM_kept I3 (A := Aw (s.heap.size + 110) 43) (fun i hi z => by have := z.2; omega) hk2 J2.2.2.1
  refine lv_icmp_eq (tgt := 1526) hx9 hb9 dL_law_1521 (by decide) (fun _ => ?_) (fun z => absurd rfl z)
  refine W.widen (k := cl + 1) (n := sl + 6) (Nat.le_succ _) (Nat.le_add_right _ _) ?_
  exact K _ _ _ _ _ _ ⟨J1, J2, I3, L1⟩ hl
end LC
