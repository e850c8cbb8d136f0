/-! THE CLAIM OUT OF ONE WALK OF THE LAW'S BODY. Your part is whole_start (and what it stands on); all else here is the same for every law, but numbers. -/
def R_law : String := "WhoseWaveLaw"
def lw_P (b : Addr) (xs : List Int32) (args : Array Value) (s : State) : Prop := args = #[.ref b] ∧ s.IntsAt b xs ∧ xs.length ≤ 3072 ∧ (Jvm.Cond.and given_1 narrow_1).before args s = true
def lw_Q (_ : Array Value) (s : State) (o : Outcome) (t : State) : Prop := o = .returned (some (.int 1)) ∧ Framed s o t [] 601024 7293034
def lw_Z (below : List Frame) (a : Array Value) (s : State) : State → Prop := fun t => ∃ o, t.status = .running ∧ Ended t below o ∧ lw_Q a s o t
/-- the law's own end, with 1 on the stack, nothing written that was there before, its room as the claim has it -/
theorem lw_ret {p : Program} {l : Launch} {e : Env} {s : State} {m : MethodId} {below : List Frame} {meth : Method} {c : Code} {b : Nat} (hx : p.tables.exec = Jvm.exec) (hb : c.code = code) (hr : meth.sig.returnType = ret) (hlocks : meth.locks = false) {pc : Nat} {H : Heap} {ls : Array Slot} (hdg : decode code pc = .ok (.ireturn, 1)) : W p l e room_1 s m #[Value.ref b] below meth c H [] 601024 7293034 (lw_Z below #[Value.ref b] s) (F0 m pc ls [.int 1]) := by
  intro T hT X
  obtain ⟨fs, hret, hrun, hended, hW, hframe⟩ := X.leave (v := some (.int 1)) (hlocks := hlocks) (fun h => by rw [hr] at h; cases h)
  have hmeth' : T.vm.method? m = some meth := X.method'
  refine ⟨T.setFrames fs, ?_, .returned (some (.int 1)), hrun, hended, rfl, ⟨_, rfl⟩, hW, hframe⟩
  jvm_step X.here [X.here.top, hx, hb, hdg, hmeth', hr, ret, narrow_b1]
  (try refine ⟨rfl, ?_⟩); (try refine ⟨rfl, ?_⟩)
  first | (intro acts; rw [hret _ acts rfl rfl rfl]) | rw [hret _ _ rfl rfl rfl]
  exact Steps.refl _
/-- what holds at the law's entry: the machine, the code, the tables' words (any of lw_tbl by 'hts w (by decide +kernel)'), the script of L ints xs at the cell b, what the Statement gives of the start (any of its parts by flat_of_before) -/
def lw_At (p : Program) (s : State) (m : MethodId) (meth : Method) (c : Code) (b L : Nat) (xs : Nat → Int32) : Prop :=
  p.tables.exec = Jvm.exec ∧ c.code = code ∧ meth.sig.returnType = ret ∧ c.maxLocals = 7 ∧ s.vm.findClass R_law = some m.cls ∧ (∀ w ∈ lw_tbl, w.before #[Value.ref b] s = true) ∧ va_X b L xs s s.heap ∧ b < s.heap.size ∧ meth.locks = false ∧ (Jvm.Cond.and given_1 narrow_1).before #[Value.ref b] s = true
/-! The law's own rows: two worlds, the class's and the reference's, one behind the other. -/
theorem gV_law {own C : String} {idx n : Nat} {y : MethodName} {cc : ByteArray} {ret : Option FieldType} (h1 : Cond.methodLink own idx y ∈ TB) (h2 : Cond.instanceMethod y ∈ TB) (h3 : Cond.selects C y y ∈ TB) (h4 : Cond.initialized C ∈ TB) (h5 : Cond.code y cc n ret ∈ TB) : GoodIn lw_tbl (wsV own idx C y (.code y cc n ret :: TB)) := by
  intro w hw
  have h := gV_of (c0 := Cond.initialized C) h1 h2 h3 h4 h5 w hw
  refine ⟨?_, h.2⟩
  rcases List.mem_cons.mp h.1 with e | e
  · rw [e]; exact TB_in _ h4
  · exact TB_in w e
theorem gI_law {n : Nat} {y : MethodName} {cc : ByteArray} {ret : Option FieldType} (h5 : Cond.code y cc n ret ∈ TB) : GoodIn lw_tbl (.code y cc n ret :: TB) := by
  intro w hw
  rcases List.mem_cons.mp hw with e | e
  · rw [e]; exact ⟨TB_in _ h5, TB_good _ h5⟩
  · exact ⟨TB_in w e, TB_good w e⟩
theorem ph_X_narrow {cy : Nat → ClassId} {A B : Nat → Prop} {U : State} (h : ph_X cy A U) (hAB : ∀ q, B q → A q) : ph_X cy B U := by
  obtain ⟨h1, ⟨t, h2, h3⟩, ⟨h4, h5⟩, h6, h7, h8, h9, h10, h11, h12⟩ := h
  exact ⟨h1, ⟨t, h2.narrow hAB, h3.narrow hAB⟩, ⟨h4, h5.narrow hAB⟩, h6.narrow hAB, h7.narrow hAB, h8.narrow hAB, h9.narrow hAB, h10, h11, h12⟩
def Aw (b n : Nat) (q : Nat) : Prop := b ≤ q ∧ q < b + n
def A0 (s : State) (q : Nat) : Prop := s.heap.size ≤ q
/-- one world, as the law has it: the machine's facts, and the world's cells -/
def LM (D : va_G) (cy : Nat → ClassId) (bw nw : Nat) (h : PH) (s : State) (H : Heap) (locs : List Loc) : Prop :=
  va_P D ph_cl (ph_w bw cy h) H ∧ va_K D ph_cl (ph_t cy) s ∧ va_S (A0 s) s.heap H locs ∧ (∀ i, i < h.length → i < nw) ∧ ph_X cy (A0 s) s
theorem LM_kept {D : va_G} {cy : Nat → ClassId} {bw nw : Nat} {h : PH} {s : State} {H H1 : Heap} {locs locs1 : List Loc} {A : Nat → Prop} (I : LM D cy bw nw h s H locs) (hA : ∀ i, i < nw → ¬ A (bw + i)) (hk : ∀ q : Nat, q < H.size → ¬ A q → H1[q]? = H[q]?) (hS : va_S (A0 s) s.heap H1 locs1) : LM D cy bw nw h s H1 locs1 := by
  obtain ⟨hP, hK, -, hn, hX⟩ := I
  refine ⟨hP.kept (fun k q hq => ?_), hK, hS, hn, hX⟩
  refine hk q.1 (hP k q hq).lt ?_
  rw [ph_w_at] at hq
  cases hc : h[k]? with
  | none => rw [hc] at hq; cases hq
  | some c =>
    rw [hc] at hq
    have e := Option.some.inj hq
    subst e
    exact hA k (hn k (List.getElem?_eq_some_iff.mp hc).1)
section OL
variable {p : Program} {l : Launch} {e : Env} {R : Room} {s : State} {m : MethodId} {args : Array Value} {below : List Frame} {meth : Method} {c : Code} {H : Heap} {locs : List Loc} {cells slots : Nat} {Q : State → Prop}
variable {cc : ByteArray} {nL pc : Nat} {ls : Array Slot} {rest st0 As : List Value} {D : va_G} {cy : Nat → ClassId} {bw nw : Nat} {fl : Bool} {h h' : PH} {Ts ws ws' : List Cond} {own : String}
variable {y : MethodName} {bytes : ByteArray} {maxL mc ms n index : Nat} {ret : Option FieldType} {rm : Room}
theorem lm_pre {av : List Value} (I : LM D cy bw nw h s H locs) (hb : s.heap.size ≤ bw) (hz : fl = true → H.size = bw + h.length) {A : Nat → Prop} (hA1 : ∀ q, A q → s.heap.size ≤ q) (hA2 : ∀ i, i < nw → A (bw + i)) : ∀ U : State, U.heap = H → s.WarmedH U.vm → va_Pc av (ph_B D cy bw A fl h) av.toArray U := fun U hU hW => ⟨rfl, by rw [hU]; exact I.1, va_K.moved hW.alike I.2.1, fun i hi => hA2 i (I.2.2.2.1 i hi), (fun q => by rw [hU]; exact hz q), ph_X_narrow (ph_X_move I.2.2.2.2 I.2.2.1 hU hW) hA1⟩
theorem l_Vi (S : CallFix p m c cc nL s args Ts own) {ci : Nat} {q : vw_C} {out : Int32 × PH} (hM : Met l y ws rm (va_Pc (.ref (bw + 0) :: As) (ph_B D cy bw (Aw bw nw) false h)) (va_Qi (fun (r : Int32) (u : PH) => (r, u) = out) (ph_B D cy bw (Aw bw nw) false) (Aw bw nw)) mc ms (Aw bw nw)) (hT : GoodIn Ts (wsV own index y.cls y ws)) (hw : ws = Cond.code y bytes maxL ret :: ws') (hrc : rm.cells = mc) (hrs : rm.slots = ms) (hd : Cd y n) (hR : rm.frames + 1 ≤ R.frames ∧ 8 + (maxL + 11) + rm.locals ≤ R.locals) (I : LM D cy bw nw h s H locs) (hb : s.heap.size ≤ bw) (ho : okO h 0 ci = true) (hc : ph_cl[ci]? = some q) (hq : q.1 = y.cls)
    (hn : As.length = n) (hsz : ls.size = nL) (hst : st0 = As.reverse ++ .ref (bw + 0) :: rest) (hW : (rest.map fun v => v.category).sum ≤ 8) (hdg : decode cc pc = .ok (.invokevirtual index, 3)) (hf : cells + mc ≤ R.cells ∧ slots + ms ≤ R.slots)
    (kk : ∀ (H1 : Heap) (locs1 : List Loc), LM D cy bw nw out.2 s H1 locs1 → (∀ q : Nat, q < H.size → ¬ Aw bw nw q → H1[q]? = H[q]?) → W p l e R s m args below meth c H1 locs1 (cells + mc) (slots + ms) Q (F0 m (pc + 3) ls (.int out.1 :: rest))) : W p l e R s m args below meth c H locs cells slots Q (F0 m pc ls st0) := by
  obtain ⟨fs, e1⟩ := okO_spec ho
  have hA1 : ∀ q, Aw bw nw q → s.heap.size ≤ q := fun q z => Nat.le_trans hb z.1
  refine va_calli (A0 := A0 s) (va_runV (As := As) (rest := rest) (b := bw + 0) (C := y.cls) S hM (cwV n S.2.2.2.2 hT hw hrc hrs ⟨rfl, hd⟩ hR) ⟨ph_B_blind D cy bw (Aw bw nw) false h _, by rw [← hq]; exact va_recv I.2.1 I.1 hc (ph_w_get e1), lm_pre (fl := false) I hb (fun z => by cases z) hA1 (fun i hi => ⟨Nat.le_add_right _ _, by omega⟩)⟩ rfl hn hsz hst (lv_room hW) hdg hf) I.2.2.1 (fun q _ h => hA1 q h) (fun q h => hA1 q h) (fun r u t H1 locs1 ht hvm hw hB hz1 hk1 hS => ?_)
  subst hw
  exact kk H1 locs1 ⟨by rw [← ht]; exact hB.1, I.2.1, hS, fun i hi => by have := (hB.2.2.1 i hi).2; omega, I.2.2.2.2⟩ hk1
theorem l_Vl (S : CallFix p m c cc nL s args Ts own) {ci : Nat} {q : vw_C} {out : Int64 × PH} (hM : Met l y ws rm (va_Pc (.ref (bw + 0) :: As) (ph_B D cy bw (Aw bw nw) false h)) (va_Ql (fun (r : Int64) (u : PH) => (r, u) = out) (ph_B D cy bw (Aw bw nw) false) (Aw bw nw)) mc ms (Aw bw nw)) (hT : GoodIn Ts (wsV own index y.cls y ws)) (hw : ws = Cond.code y bytes maxL ret :: ws') (hrc : rm.cells = mc) (hrs : rm.slots = ms) (hd : Cd y n) (hR : rm.frames + 1 ≤ R.frames ∧ 8 + (maxL + 11) + rm.locals ≤ R.locals) (I : LM D cy bw nw h s H locs) (hb : s.heap.size ≤ bw) (ho : okO h 0 ci = true) (hc : ph_cl[ci]? = some q) (hq : q.1 = y.cls)
    (hn : As.length = n) (hsz : ls.size = nL) (hst : st0 = As.reverse ++ .ref (bw + 0) :: rest) (hW : (rest.map fun v => v.category).sum ≤ 8) (hdg : decode cc pc = .ok (.invokevirtual index, 3)) (hf : cells + mc ≤ R.cells ∧ slots + ms ≤ R.slots)
    (kk : ∀ (H1 : Heap) (locs1 : List Loc), LM D cy bw nw out.2 s H1 locs1 → (∀ q : Nat, q < H.size → ¬ Aw bw nw q → H1[q]? = H[q]?) → W p l e R s m args below meth c H1 locs1 (cells + mc) (slots + ms) Q (F0 m (pc + 3) ls (.long out.1 :: rest))) : W p l e R s m args below meth c H locs cells slots Q (F0 m pc ls st0) := by
  obtain ⟨fs, e1⟩ := okO_spec ho
  have hA1 : ∀ q, Aw bw nw q → s.heap.size ≤ q := fun q z => Nat.le_trans hb z.1
  refine va_calll (A0 := A0 s) (va_runV (As := As) (rest := rest) (b := bw + 0) (C := y.cls) S hM (cwV n S.2.2.2.2 hT hw hrc hrs ⟨rfl, hd⟩ hR) ⟨ph_B_blind D cy bw (Aw bw nw) false h _, by rw [← hq]; exact va_recv I.2.1 I.1 hc (ph_w_get e1), lm_pre (fl := false) I hb (fun z => by cases z) hA1 (fun i hi => ⟨Nat.le_add_right _ _, by omega⟩)⟩ rfl hn hsz hst (lv_room hW) hdg hf) I.2.2.1 (fun q _ h => hA1 q h) (fun q h => hA1 q h) (fun r u t H1 locs1 ht hvm hw hB hz1 hk1 hS => ?_)
  subst hw
  exact kk H1 locs1 ⟨by rw [← ht]; exact hB.1, I.2.1, hS, fun i hi => by have := (hB.2.2.1 i hi).2; omega, I.2.2.2.2⟩ hk1
end OL
/-! The instructions of the law. -/
theorem zd_dL_look_0 : dq cL_look [(0, .aload_n 3, 1), (1, .iconst 0, 1), (2, .aload_n 0, 1), (3, .iload_n 1, 1), (4, .iload_n 2, 1), (5, .invokevirtual 7, 3), (8, .i2l, 1), (9, .lastore, 1), (10, .goto 11, 3), (13, .astore 4, 2), (15, .iconst 1, 1), (16, .ireturn, 1), (17, .astore 4, 2), (19, .iconst 2, 1), (20, .ireturn, 1), (21, .iconst 0, 1), (22, .ireturn, 1)] = true := by decide +kernel
theorem dL_look_0 : decode cL_look 0 = .ok (.aload_n 3, 1) := dq_at zd_dL_look_0 0 rfl
theorem dL_look_1 : decode cL_look 1 = .ok (.iconst 0, 1) := dq_at zd_dL_look_0 1 rfl
theorem dL_look_2 : decode cL_look 2 = .ok (.aload_n 0, 1) := dq_at zd_dL_look_0 2 rfl
theorem dL_look_3 : decode cL_look 3 = .ok (.iload_n 1, 1) := dq_at zd_dL_look_0 3 rfl
theorem dL_look_4 : decode cL_look 4 = .ok (.iload_n 2, 1) := dq_at zd_dL_look_0 4 rfl
theorem dL_look_5 : decode cL_look 5 = .ok (.invokevirtual 7, 3) := dq_at zd_dL_look_0 5 rfl
theorem dL_look_8 : decode cL_look 8 = .ok (.i2l, 1) := dq_at zd_dL_look_0 6 rfl
theorem dL_look_9 : decode cL_look 9 = .ok (.lastore, 1) := dq_at zd_dL_look_0 7 rfl
theorem dL_look_10 : decode cL_look 10 = .ok (.goto 11, 3) := dq_at zd_dL_look_0 8 rfl
theorem dL_look_13 : decode cL_look 13 = .ok (.astore 4, 2) := dq_at zd_dL_look_0 9 rfl
theorem dL_look_15 : decode cL_look 15 = .ok (.iconst 1, 1) := dq_at zd_dL_look_0 10 rfl
theorem dL_look_16 : decode cL_look 16 = .ok (.ireturn, 1) := dq_at zd_dL_look_0 11 rfl
theorem dL_look_17 : decode cL_look 17 = .ok (.astore 4, 2) := dq_at zd_dL_look_0 12 rfl
theorem dL_look_19 : decode cL_look 19 = .ok (.iconst 2, 1) := dq_at zd_dL_look_0 13 rfl
theorem dL_look_20 : decode cL_look 20 = .ok (.ireturn, 1) := dq_at zd_dL_look_0 14 rfl
theorem dL_look_21 : decode cL_look 21 = .ok (.iconst 0, 1) := dq_at zd_dL_look_0 15 rfl
theorem dL_look_22 : decode cL_look 22 = .ok (.ireturn, 1) := dq_at zd_dL_look_0 16 rfl
theorem zd_dL_law_0 : dq cL_law [(0, .new 8, 3), (3, .dup, 1), (4, .invokespecial 17, 3), (7, .astore_n 1, 1), (8, .new 18, 3), (11, .dup, 1), (12, .invokespecial 20, 3), (15, .astore_n 2, 1), (16, .iconst 1, 1), (17, .newarray .long, 2), (19, .astore_n 3, 1), (20, .iconst 0, 1), (21, .istore 4, 2), (23, .iload 4, 2), (25, .aload_n 0, 1), (26, .arraylength, 1), (27, .bipush 6, 2), (29, .isub, 1), (30, .if_icmp .gt 1502, 3), (33, .aload_n 0, 1), (34, .iload 4, 2), (36, .iaload, 1), (37, .bipush 63, 2), (39, .iand, 1)] = true := by decide +kernel
theorem dL_law_0 : decode cL_law 0 = .ok (.new 8, 3) := dq_at zd_dL_law_0 0 rfl
theorem dL_law_3 : decode cL_law 3 = .ok (.dup, 1) := dq_at zd_dL_law_0 1 rfl
theorem dL_law_4 : decode cL_law 4 = .ok (.invokespecial 17, 3) := dq_at zd_dL_law_0 2 rfl
theorem dL_law_7 : decode cL_law 7 = .ok (.astore_n 1, 1) := dq_at zd_dL_law_0 3 rfl
theorem dL_law_8 : decode cL_law 8 = .ok (.new 18, 3) := dq_at zd_dL_law_0 4 rfl
theorem dL_law_11 : decode cL_law 11 = .ok (.dup, 1) := dq_at zd_dL_law_0 5 rfl
theorem dL_law_12 : decode cL_law 12 = .ok (.invokespecial 20, 3) := dq_at zd_dL_law_0 6 rfl
theorem dL_law_15 : decode cL_law 15 = .ok (.astore_n 2, 1) := dq_at zd_dL_law_0 7 rfl
theorem dL_law_16 : decode cL_law 16 = .ok (.iconst 1, 1) := dq_at zd_dL_law_0 8 rfl
theorem dL_law_17 : decode cL_law 17 = .ok (.newarray .long, 2) := dq_at zd_dL_law_0 9 rfl
theorem dL_law_19 : decode cL_law 19 = .ok (.astore_n 3, 1) := dq_at zd_dL_law_0 10 rfl
theorem dL_law_20 : decode cL_law 20 = .ok (.iconst 0, 1) := dq_at zd_dL_law_0 11 rfl
theorem dL_law_21 : decode cL_law 21 = .ok (.istore 4, 2) := dq_at zd_dL_law_0 12 rfl
theorem dL_law_23 : decode cL_law 23 = .ok (.iload 4, 2) := dq_at zd_dL_law_0 13 rfl
theorem dL_law_25 : decode cL_law 25 = .ok (.aload_n 0, 1) := dq_at zd_dL_law_0 14 rfl
theorem dL_law_26 : decode cL_law 26 = .ok (.arraylength, 1) := dq_at zd_dL_law_0 15 rfl
theorem dL_law_27 : decode cL_law 27 = .ok (.bipush 6, 2) := dq_at zd_dL_law_0 16 rfl
theorem dL_law_29 : decode cL_law 29 = .ok (.isub, 1) := dq_at zd_dL_law_0 17 rfl
theorem dL_law_30 : decode cL_law 30 = .ok (.if_icmp .gt 1502, 3) := dq_at zd_dL_law_0 18 rfl
theorem dL_law_33 : decode cL_law 33 = .ok (.aload_n 0, 1) := dq_at zd_dL_law_0 19 rfl
theorem dL_law_34 : decode cL_law 34 = .ok (.iload 4, 2) := dq_at zd_dL_law_0 20 rfl
theorem dL_law_36 : decode cL_law 36 = .ok (.iaload, 1) := dq_at zd_dL_law_0 21 rfl
theorem dL_law_37 : decode cL_law 37 = .ok (.bipush 63, 2) := dq_at zd_dL_law_0 22 rfl
theorem dL_law_39 : decode cL_law 39 = .ok (.iand, 1) := dq_at zd_dL_law_0 23 rfl
