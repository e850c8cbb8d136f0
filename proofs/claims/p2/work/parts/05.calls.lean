/-! Rows: calls and returns over the pure heap. -/
theorem ph_B_blind (D : va_G) (cy : Nat → ClassId) (b : Nat) (A : Nat → Prop) (fl : Bool) (h : PH) (av : List Value) : FrameBlind (va_Pc av (ph_B D cy b A fl h)) := by
  intro a U g mk q
  obtain ⟨q0, qP, qK, qA, qz, qX⟩ := q
  exact ⟨q0, qP, va_K.moved (u := U) (U := U.calling g mk a) (Vm.Alike.refl U.vm) qK, qA, qz, ph_X_move (locs := []) qX va_S.rf rfl (State.WarmedH.refl U)⟩
section OC
variable {p : Program} {l : Launch} {e : Env} {R : Room} {s : State} {m : MethodId} {args : Array Value} {below : List Frame} {meth : Method} {c : Code} {H : Heap} {locs : List Loc} {cells slots : Nat} {Q : State → Prop}
variable {cc : ByteArray} {nL pc : Nat} {ls : Array Slot} {rest st0 As : List Value} {D : va_G} {cy : Nat → ClassId} {b : Nat} {A : Nat → Prop} {fl : Bool} {h h' : PH} {Ts ws ws' : List Cond} {own : String}
variable {y : MethodName} {bytes : ByteArray} {maxL mc ms n index : Nat} {ret : Option FieldType} {rm : Room}
theorem ph_pre {av : List Value} (I : ph_I D cy b A fl h s H locs) : ∀ U : State, U.heap = H → s.WarmedH U.vm → va_Pc av (ph_B D cy b A fl h) av.toArray U := fun U hU hW => ⟨rfl, by rw [hU]; exact I.1, va_K.moved hW.alike I.2.1, I.2.2.2.1, (fun q => by rw [hU]; exact I.2.2.2.2.1 q), ph_X_move I.2.2.2.2.2 I.2.2.1 hU hW⟩
theorem ph_post {u : PH} {t : State} {H1 : Heap} {locs1 : List Loc} {h0 : PH} (I : ph_I D cy b A fl h0 s H locs) (ht : t.heap = H1) (hB : ph_B D cy b A fl u t) (hS : va_S A s.heap H1 locs1) : ph_I D cy b A fl u s H1 locs1 := ⟨by rw [← ht]; exact hB.1, I.2.1, hS, hB.2.2.1, (fun q => by rw [← ht]; exact hB.2.2.2.1 q), I.2.2.2.2.2⟩
theorem o_Vi (S : CallFix p m c cc nL s args Ts own) {a ci : Nat} {q : vw_C} {out : Int32 × PH} (hM : Met l y ws rm (va_Pc (.ref (b + a) :: As) (ph_B D cy b A fl h)) (va_Qi (fun (r : Int32) (u : PH) => (r, u) = out) (ph_B D cy b A fl) A) mc ms A) (hT : GoodIn Ts (wsV own index y.cls y ws)) (hw : ws = Cond.code y bytes maxL ret :: ws') (hrc : rm.cells = mc) (hrs : rm.slots = ms) (hd : Cd y n) (hR : rm.frames + 1 ≤ R.frames ∧ 8 + (maxL + 11) + rm.locals ≤ R.locals) (I : ph_I D cy b A fl h s H locs) (ho : okO h a ci = true) (hc : ph_cl[ci]? = some q) (hq : q.1 = y.cls)
    (hn : As.length = n) (hsz : ls.size = nL) (hst : st0 = As.reverse ++ .ref (b + a) :: rest) (hW : (rest.map fun v => v.category).sum ≤ 8) (hdg : decode cc pc = .ok (.invokevirtual index, 3)) (hf : cells + mc ≤ R.cells ∧ slots + ms ≤ R.slots)
    (kk : ∀ (H1 : Heap) (locs1 : List Loc), ph_I D cy b A fl out.2 s H1 locs1 → W p l e R s m args below meth c H1 locs1 (cells + mc) (slots + ms) Q (F0 m (pc + 3) ls (.int out.1 :: rest))) : W p l e R s m args below meth c H locs cells slots Q (F0 m pc ls st0) := by
  obtain ⟨fs, e1⟩ := okO_spec ho
  refine va_calli (va_runV (As := As) (rest := rest) (b := b + a) (C := y.cls) S hM (cwV n S.2.2.2.2 hT hw hrc hrs ⟨rfl, hd⟩ hR) ⟨ph_B_blind D cy b A fl h _, by rw [← hq]; exact va_recv I.2.1 I.1 hc (ph_w_get e1), ph_pre I⟩ rfl hn hsz hst (lv_room hW) hdg hf) I.2.2.1 (fun q _ h => h) (fun q h => h) (fun r u t H1 locs1 ht hvm hw hB hz1 hk1 hS => ?_)
  subst hw
  exact kk H1 locs1 (ph_post I ht hB hS)
theorem o_Vl (S : CallFix p m c cc nL s args Ts own) {a ci : Nat} {q : vw_C} {out : Int64 × PH} (hM : Met l y ws rm (va_Pc (.ref (b + a) :: As) (ph_B D cy b A fl h)) (va_Ql (fun (r : Int64) (u : PH) => (r, u) = out) (ph_B D cy b A fl) A) mc ms A) (hT : GoodIn Ts (wsV own index y.cls y ws)) (hw : ws = Cond.code y bytes maxL ret :: ws') (hrc : rm.cells = mc) (hrs : rm.slots = ms) (hd : Cd y n) (hR : rm.frames + 1 ≤ R.frames ∧ 8 + (maxL + 11) + rm.locals ≤ R.locals) (I : ph_I D cy b A fl h s H locs) (ho : okO h a ci = true) (hc : ph_cl[ci]? = some q) (hq : q.1 = y.cls)
    (hn : As.length = n) (hsz : ls.size = nL) (hst : st0 = As.reverse ++ .ref (b + a) :: rest) (hW : (rest.map fun v => v.category).sum ≤ 8) (hdg : decode cc pc = .ok (.invokevirtual index, 3)) (hf : cells + mc ≤ R.cells ∧ slots + ms ≤ R.slots)
    (kk : ∀ (H1 : Heap) (locs1 : List Loc), ph_I D cy b A fl out.2 s H1 locs1 → W p l e R s m args below meth c H1 locs1 (cells + mc) (slots + ms) Q (F0 m (pc + 3) ls (.long out.1 :: rest))) : W p l e R s m args below meth c H locs cells slots Q (F0 m pc ls st0) := by
  obtain ⟨fs, e1⟩ := okO_spec ho
  refine va_calll (va_runV (As := As) (rest := rest) (b := b + a) (C := y.cls) S hM (cwV n S.2.2.2.2 hT hw hrc hrs ⟨rfl, hd⟩ hR) ⟨ph_B_blind D cy b A fl h _, by rw [← hq]; exact va_recv I.2.1 I.1 hc (ph_w_get e1), ph_pre I⟩ rfl hn hsz hst (lv_room hW) hdg hf) I.2.2.1 (fun q _ h => h) (fun q h => h) (fun r u t H1 locs1 ht hvm hw hB hz1 hk1 hS => ?_)
  subst hw
  exact kk H1 locs1 (ph_post I ht hB hS)
theorem o_Vv (S : CallFix p m c cc nL s args Ts own) {a ci : Nat} {q : vw_C} {out : PH} (hM : Met l y ws rm (va_Pc (.ref (b + a) :: As) (ph_B D cy b A fl h)) (va_Qv (fun (u : PH) => u = out) (ph_B D cy b A fl) A) mc ms A) (hT : GoodIn Ts (wsV own index y.cls y ws)) (hw : ws = Cond.code y bytes maxL ret :: ws') (hrc : rm.cells = mc) (hrs : rm.slots = ms) (hd : Cd y n) (hR : rm.frames + 1 ≤ R.frames ∧ 8 + (maxL + 11) + rm.locals ≤ R.locals) (I : ph_I D cy b A fl h s H locs) (ho : okO h a ci = true) (hc : ph_cl[ci]? = some q) (hq : q.1 = y.cls)
    (hn : As.length = n) (hsz : ls.size = nL) (hst : st0 = As.reverse ++ .ref (b + a) :: rest) (hW : (rest.map fun v => v.category).sum ≤ 8) (hdg : decode cc pc = .ok (.invokevirtual index, 3)) (hf : cells + mc ≤ R.cells ∧ slots + ms ≤ R.slots)
    (kk : ∀ (H1 : Heap) (locs1 : List Loc), ph_I D cy b A fl out s H1 locs1 → W p l e R s m args below meth c H1 locs1 (cells + mc) (slots + ms) Q (F0 m (pc + 3) ls rest)) : W p l e R s m args below meth c H locs cells slots Q (F0 m pc ls st0) := by
  obtain ⟨fs, e1⟩ := okO_spec ho
  refine va_callv (va_runV (As := As) (rest := rest) (b := b + a) (C := y.cls) S hM (cwV n S.2.2.2.2 hT hw hrc hrs ⟨rfl, hd⟩ hR) ⟨ph_B_blind D cy b A fl h _, by rw [← hq]; exact va_recv I.2.1 I.1 hc (ph_w_get e1), ph_pre I⟩ rfl hn hsz hst (lv_room hW) hdg hf) I.2.2.1 (fun q _ h => h) (fun q h => h) (fun u t H1 locs1 ht hvm hw hB hz1 hk1 hS => ?_)
  subst hw
  exact kk H1 locs1 (ph_post I ht hB hS)
theorem o_Si (S : CallFix p m c cc nL s args Ts own) {out : Int32 × PH} (hM : Met l y ws rm (va_Pc As (ph_B D cy b A fl h)) (va_Qi (fun (r : Int32) (u : PH) => (r, u) = out) (ph_B D cy b A fl) A) mc ms A) (hT : GoodIn Ts (va_wsS own index y ws)) (hw : ws = Cond.code y bytes maxL ret :: ws') (hrc : rm.cells = mc) (hrs : rm.slots = ms) (hd : Cd y n) (hR : rm.frames + 1 ≤ R.frames ∧ 8 + (maxL + 11) + rm.locals ≤ R.locals) (I : ph_I D cy b A fl h s H locs)
    (hn : As.length = n) (hsz : ls.size = nL) (hst : st0 = As.reverse ++ rest) (hW : (rest.map fun v => v.category).sum ≤ 8) (hdg : decode cc pc = .ok (.invokestatic index, 3)) (hf : cells + mc ≤ R.cells ∧ slots + ms ≤ R.slots)
    (kk : ∀ (H1 : Heap) (locs1 : List Loc), ph_I D cy b A fl out.2 s H1 locs1 → W p l e R s m args below meth c H1 locs1 (cells + mc) (slots + ms) Q (F0 m (pc + 3) ls (.int out.1 :: rest))) : W p l e R s m args below meth c H locs cells slots Q (F0 m pc ls st0) := by
  refine va_calli (va_runS (As := As) (rest := rest) S hM (va_cwS n S.2.2.2.2 hT hw hrc hrs hd hR) ⟨ph_B_blind D cy b A fl h _, ph_pre I⟩ rfl hn hsz hst (lv_room hW) hdg hf) I.2.2.1 (fun q _ h => h) (fun q h => h) (fun r u t H1 locs1 ht hvm hw hB hz1 hk1 hS => ?_)
  subst hw
  exact kk H1 locs1 (ph_post I ht hB hS)
theorem o_Sl (S : CallFix p m c cc nL s args Ts own) {out : Int64 × PH} (hM : Met l y ws rm (va_Pc As (ph_B D cy b A fl h)) (va_Ql (fun (r : Int64) (u : PH) => (r, u) = out) (ph_B D cy b A fl) A) mc ms A) (hT : GoodIn Ts (va_wsS own index y ws)) (hw : ws = Cond.code y bytes maxL ret :: ws') (hrc : rm.cells = mc) (hrs : rm.slots = ms) (hd : Cd y n) (hR : rm.frames + 1 ≤ R.frames ∧ 8 + (maxL + 11) + rm.locals ≤ R.locals) (I : ph_I D cy b A fl h s H locs)
    (hn : As.length = n) (hsz : ls.size = nL) (hst : st0 = As.reverse ++ rest) (hW : (rest.map fun v => v.category).sum ≤ 8) (hdg : decode cc pc = .ok (.invokestatic index, 3)) (hf : cells + mc ≤ R.cells ∧ slots + ms ≤ R.slots)
    (kk : ∀ (H1 : Heap) (locs1 : List Loc), ph_I D cy b A fl out.2 s H1 locs1 → W p l e R s m args below meth c H1 locs1 (cells + mc) (slots + ms) Q (F0 m (pc + 3) ls (.long out.1 :: rest))) : W p l e R s m args below meth c H locs cells slots Q (F0 m pc ls st0) := by
  refine va_calll (va_runS (As := As) (rest := rest) S hM (va_cwS n S.2.2.2.2 hT hw hrc hrs hd hR) ⟨ph_B_blind D cy b A fl h _, ph_pre I⟩ rfl hn hsz hst (lv_room hW) hdg hf) I.2.2.1 (fun q _ h => h) (fun q h => h) (fun r u t H1 locs1 ht hvm hw hB hz1 hk1 hS => ?_)
  subst hw
  exact kk H1 locs1 (ph_post I ht hB hS)
theorem o_Sv (S : CallFix p m c cc nL s args Ts own) {out : PH} (hM : Met l y ws rm (va_Pc As (ph_B D cy b A fl h)) (va_Qv (fun (u : PH) => u = out) (ph_B D cy b A fl) A) mc ms A) (hT : GoodIn Ts (va_wsS own index y ws)) (hw : ws = Cond.code y bytes maxL ret :: ws') (hrc : rm.cells = mc) (hrs : rm.slots = ms) (hd : Cd y n) (hR : rm.frames + 1 ≤ R.frames ∧ 8 + (maxL + 11) + rm.locals ≤ R.locals) (I : ph_I D cy b A fl h s H locs)
    (hn : As.length = n) (hsz : ls.size = nL) (hst : st0 = As.reverse ++ rest) (hW : (rest.map fun v => v.category).sum ≤ 8) (hdg : decode cc pc = .ok (.invokestatic index, 3)) (hf : cells + mc ≤ R.cells ∧ slots + ms ≤ R.slots)
    (kk : ∀ (H1 : Heap) (locs1 : List Loc), ph_I D cy b A fl out s H1 locs1 → W p l e R s m args below meth c H1 locs1 (cells + mc) (slots + ms) Q (F0 m (pc + 3) ls rest)) : W p l e R s m args below meth c H locs cells slots Q (F0 m pc ls st0) := by
  refine va_callv (va_runS (As := As) (rest := rest) S hM (va_cwS n S.2.2.2.2 hT hw hrc hrs hd hR) ⟨ph_B_blind D cy b A fl h _, ph_pre I⟩ rfl hn hsz hst (lv_room hW) hdg hf) I.2.2.1 (fun q _ h => h) (fun q h => h) (fun u t H1 locs1 ht hvm hw hB hz1 hk1 hS => ?_)
  subst hw
  exact kk H1 locs1 (ph_post I ht hB hS)
theorem o_Iv (S : CallFix p m c cc nL s args Ts own) {a : Nat} {out : PH} (hM : Met l y ws rm (va_Pc (.ref (b + a) :: As) (ph_B D cy b A fl h)) (va_Qv (fun (u : PH) => u = out) (ph_B D cy b A fl) A) mc ms A) (hT : GoodIn Ts ws) (hil : Il Ts own index y) (hyn : y.name = "<init>") (hw : ws = Cond.code y bytes maxL none :: ws') (hrc : rm.cells = mc) (hrs : rm.slots = ms) (hd : Cd y n) (hR : rm.frames + 1 ≤ R.frames ∧ 8 + (maxL + 11) + rm.locals ≤ R.locals) (I : ph_I D cy b A fl h s H locs)
    (hn : As.length = n) (hsz : ls.size = nL) (hst : st0 = As.reverse ++ .ref (b + a) :: rest) (hW : (rest.map fun v => v.category).sum ≤ 8) (hdg : decode cc pc = .ok (.invokespecial index, 3)) (hf : cells + mc ≤ R.cells ∧ slots + ms ≤ R.slots)
    (kk : ∀ (H1 : Heap) (locs1 : List Loc), ph_I D cy b A fl out s H1 locs1 → W p l e R s m args below meth c H1 locs1 (cells + mc) (slots + ms) Q (F0 m (pc + 3) ls rest)) : W p l e R s m args below meth c H locs cells slots Q (F0 m pc ls st0) := by
  refine va_callv (va_runI (As := As) (rest := rest) (b := b + a) S hM (cwI n S.2.2.2.2 hT hw hrc hrs (S.2.2.2.2 _ hil.1) (S.2.2.2.2 _ hil.2.1) (S.2.2.2.2 _ hil.2.2) hyn hd hR) ⟨ph_B_blind D cy b A fl h _, ph_pre I⟩ rfl hn hsz hst (lv_room hW) hdg hf) I.2.2.1 (fun q _ h => h) (fun q h => h) (fun u t H1 locs1 ht hvm hw hB hz1 hk1 hS => ?_)
  subst hw
  exact kk H1 locs1 (ph_post I ht hB hS)
theorem ph_end (I : ph_I D cy b A fl h s H locs) {t : State} (ht : t.heap = H) (hW : s.WarmedH t.vm) : ph_B D cy b A fl h t := ⟨by rw [ht]; exact I.1, va_K.moved hW.alike I.2.1, I.2.2.2.1, (fun q => by rw [ht]; exact I.2.2.2.2.1 q), ph_X_move I.2.2.2.2.2 I.2.2.1 ht hW⟩
theorem o_iret (S : CallFix p m c cc nL s args Ts own) (hr : meth.sig.returnType = some .int) (hlo : meth.locks = false) (I : ph_I D cy b A fl h s H locs) {v : Int32} {out : Int32 × PH} (f : some (v, h) = some out) (hdg : decode cc pc = .ok (.ireturn, 1)) : W p l e R s m args below meth c H locs cells slots (MQ below (va_Qi (fun (r : Int32) (u : PH) => (r, u) = out) (ph_B D cy b A fl) A) args s cells slots A) (F0 m pc ls [.int v]) :=
  W.iret S.1 S.2.1 hr (fun t ht hW => ⟨⟨v, h, rfl, Option.some.inj f, ph_end I ht hW⟩, I.2.2.1.F ht⟩) I.2.2.1.2.2 hdg hlo
theorem o_zret (S : CallFix p m c cc nL s args Ts own) (hr : meth.sig.returnType = some .boolean) (hlo : meth.locks = false) (I : ph_I D cy b A fl h s H locs) {v : Int32} {out : Int32 × PH} (f : rz v h = some out) (hdg : decode cc pc = .ok (.ireturn, 1)) : W p l e R s m args below meth c H locs cells slots (MQ below (va_Qi (fun (r : Int32) (u : PH) => (r, u) = out) (ph_B D cy b A fl) A) args s cells slots A) (F0 m pc ls [.int v]) := by
  unfold rz at f
  split at f
  · rename_i hv
    have hn : narrow .boolean (.int v) = .int v := by rcases hv with rfl | rfl <;> rfl
    exact W.zret S.1 S.2.1 hr hn (fun t ht hW => ⟨⟨v, h, rfl, Option.some.inj f, ph_end I ht hW⟩, I.2.2.1.F ht⟩) I.2.2.1.2.2 hdg hlo
  · cases f
theorem o_lret (S : CallFix p m c cc nL s args Ts own) (hr : meth.sig.returnType = some .long) (hlo : meth.locks = false) (I : ph_I D cy b A fl h s H locs) {v : Int64} {out : Int64 × PH} (f : some (v, h) = some out) (hdg : decode cc pc = .ok (.lreturn, 1)) : W p l e R s m args below meth c H locs cells slots (MQ below (va_Ql (fun (r : Int64) (u : PH) => (r, u) = out) (ph_B D cy b A fl) A) args s cells slots A) (F0 m pc ls [.long v]) :=
  W.lret S.1 S.2.1 hr (fun t ht hW => ⟨⟨v, h, rfl, Option.some.inj f, ph_end I ht hW⟩, I.2.2.1.F ht⟩) I.2.2.1.2.2 hdg hlo
theorem o_vret (S : CallFix p m c cc nL s args Ts own) (hr : meth.sig.returnType = none) (hlo : meth.locks = false) (I : ph_I D cy b A fl h s H locs) {out : PH} (f : some h = some out) (hdg : decode cc pc = .ok (.return_, 1)) : W p l e R s m args below meth c H locs cells slots (MQ below (va_Qv (fun (u : PH) => u = out) (ph_B D cy b A fl) A) args s cells slots A) (F0 m pc ls []) :=
  W.vret S.1 S.2.1 hr (fun t ht hW => ⟨⟨h, rfl, Option.some.inj f, ph_end I ht hW⟩, I.2.2.1.F ht⟩) I.2.2.1.2.2 hdg hlo
theorem o_objI (S : CallFix p m c cc nL s args Ts own) (w1 : Cond.methodLink own index objectInit ∈ Ts) (w2 : Cond.instanceMethod objectInit ∈ Ts) (w3 : Cond.code objectInit ⟨#[0xb1]⟩ 1 none ∈ Ts) (hsz : ls.size = nL) {a : Nat} (hdg : decode cc pc = .ok (.invokespecial index, 3)) (hframes : 1 ≤ R.frames) (hlocals : (rest.map fun v => v.category).sum + 12 ≤ R.locals)
    (kk : W p l e R s m args below meth c H locs cells slots Q (F0 m (pc + 3) ls rest)) : W p l e R s m args below meth c H locs cells slots Q (F0 m pc ls (.ref a :: rest)) := by
  refine W.objInit S.1 S.2.1 S.2.2.2.1 (S.2.2.2.2 _ w1) (S.2.2.2.2 _ w2) (S.2.2.2.2 _ w3) rfl (by rw [S.2.2.1]; exact hsz) rfl hdg hframes ?_ kk
  have : 2 * (F0 m pc ls (.ref a :: rest)).monitorRoom = 0 := rfl
  omega
theorem o_gws (S : CallFix p m c cc nL s args Ts RX0) (I : ph_I D cy b A fl h s H locs) (hdg : decode cc pc = .ok (.getstatic 84, 3))
    (kk : ∀ t : Nat, va_T .int t 5 (fun j => .int (ph_gw j)) A s s.heap → W p l e R s m args below meth c H locs cells slots Q (F0 m (pc + 3) ls (.ref t :: rest))) : W p l e R s m args below meth c H locs cells slots Q (F0 m pc ls rest) := by
  obtain ⟨t, z1, z2⟩ := I.2.2.2.2.2.2.1
  have z3 := I.2.2.2.2.2.2.2.2.2.2.2.2.2.2
  exact va_getsN S.1 S.2.1 z1 I.2.2.1 S.2.2.2.1 (va_tabs rfl rfl z3) (fun _ h => h) hdg (kk t z2)
theorem o_gwald (S : CallFix p m c cc nL s args Ts own) (I : ph_I D cy b A fl h s H locs) {t : Nat} (hT : va_T .int t 5 (fun j => .int (ph_gw j)) A s s.heap) {i v : Int32} (g : gwA i = some v) (hdg : decode cc pc = .ok (.iaload, 1))
    (kk : W p l e R s m args below meth c H locs cells slots Q (F0 m (pc + 1) ls (.int v :: rest))) : W p l e R s m args below meth c H locs cells slots Q (F0 m pc ls (.int i :: .ref t :: rest)) := by
  unfold gwA at g
  split at g
  · cases g
  · rename_i hi
    obtain ⟨cell, h1, h2, h3, h4, h5, h6, h7⟩ := hT.kept I.2.2.1.2.1
    have hlt : i.toNatClampNeg < 5 := Nat.not_le.mp fun q => hi (Or.inr q)
    have e9 := Option.some.inj g
    subst e9
    exact W.iald (v := .int (ph_gw i.toNatClampNeg)) S.1 S.2.1 h1 h2 h3 (fun q => q.elim (fun q => hi (Or.inl q)) (fun q => by omega)) (h6 _ hlt) rfl rfl hdg kk
theorem o_Vq (S : CallFix p m c cc nL s args Ts own) {a ci : Nat} {q : vw_C} {out : Option Nat × PH} (hM : Met l y ws rm (va_Pc (.ref (b + a) :: As) (ph_B D cy b A fl h)) (va_Qq (fun (r : Option Nat) (u : PH) => (r, u) = (out.1.map (fun x => b + x), out.2)) (ph_B D cy b A fl) A) mc ms A) (hT : GoodIn Ts (wsV own index y.cls y ws)) (hw : ws = Cond.code y bytes maxL ret :: ws') (hrc : rm.cells = mc) (hrs : rm.slots = ms) (hd : Cd y n) (hR : rm.frames + 1 ≤ R.frames ∧ 8 + (maxL + 11) + rm.locals ≤ R.locals) (I : ph_I D cy b A fl h s H locs) (ho : okO h a ci = true) (hc : ph_cl[ci]? = some q) (hq : q.1 = y.cls)
    (hn : As.length = n) (hsz : ls.size = nL) (hst : st0 = As.reverse ++ .ref (b + a) :: rest) (hW : (rest.map fun v => v.category).sum ≤ 8) (hdg : decode cc pc = .ok (.invokevirtual index, 3)) (hf : cells + mc ≤ R.cells ∧ slots + ms ≤ R.slots)
    (kn : out.1 = none → ∀ (H1 : Heap) (locs1 : List Loc), ph_I D cy b A fl out.2 s H1 locs1 → W p l e R s m args below meth c H1 locs1 (cells + mc) (slots + ms) Q (F0 m (pc + 3) ls (.null :: rest)))
    (kk : ∀ r : Nat, out.1 = some r → ∀ (H1 : Heap) (locs1 : List Loc), ph_I D cy b A fl out.2 s H1 locs1 → W p l e R s m args below meth c H1 locs1 (cells + mc) (slots + ms) Q (F0 m (pc + 3) ls (.ref (b + r) :: rest))) : W p l e R s m args below meth c H locs cells slots Q (F0 m pc ls st0) := by
  obtain ⟨fs, e1⟩ := okO_spec ho
  refine va_callq (va_runV (As := As) (rest := rest) (b := b + a) (C := y.cls) S hM (cwV n S.2.2.2.2 hT hw hrc hrs ⟨rfl, hd⟩ hR) ⟨ph_B_blind D cy b A fl h _, by rw [← hq]; exact va_recv I.2.1 I.1 hc (ph_w_get e1), ph_pre I⟩ rfl hn hsz hst (lv_room hW) hdg hf) I.2.2.1 (fun q _ h => h) (fun q h => h) (fun r u t H1 locs1 ht hvm hw hB hz1 hk1 hS => ?_)
  obtain ⟨o1, o2⟩ := out
  cases hw
  cases o1 with
  | none => exact kn rfl H1 locs1 (ph_post I ht hB hS)
  | some r => exact kk r rfl H1 locs1 (ph_post I ht hB hS)
theorem o_aret (S : CallFix p m c cc nL s args Ts own) {rt : FieldType} (hr : meth.sig.returnType = some rt) (hrt : (∃ n, rt = .object n) ∨ ∃ t, rt = .array t) (hlo : meth.locks = false) (I : ph_I D cy b A fl h s H locs) {r : Nat} {out : Option Nat × PH} (f : some (some r, h) = some out) (hdg : decode cc pc = .ok (.areturn, 1)) : W p l e R s m args below meth c H locs cells slots (MQ below (va_Qq (fun (r : Option Nat) (u : PH) => (r, u) = (out.1.map (fun x => b + x), out.2)) (ph_B D cy b A fl) A) args s cells slots A) (F0 m pc ls [.ref (b + r)]) := by
  cases f
  exact W.aret S.1 S.2.1 hr hrt (Or.inr ⟨_, rfl⟩) (fun t ht hW => ⟨⟨some (b + r), h, rfl, rfl, ph_end I ht hW⟩, I.2.2.1.F ht⟩) I.2.2.1.2.2 hdg hlo
theorem o_aretN (S : CallFix p m c cc nL s args Ts own) {rt : FieldType} (hr : meth.sig.returnType = some rt) (hrt : (∃ n, rt = .object n) ∨ ∃ t, rt = .array t) (hlo : meth.locks = false) (I : ph_I D cy b A fl h s H locs) {out : Option Nat × PH} (f : some (none, h) = some out) (hdg : decode cc pc = .ok (.areturn, 1)) : W p l e R s m args below meth c H locs cells slots (MQ below (va_Qq (fun (r : Option Nat) (u : PH) => (r, u) = (out.1.map (fun x => b + x), out.2)) (ph_B D cy b A fl) A) args s cells slots A) (F0 m pc ls [.null]) := by
  cases f
  exact W.aret S.1 S.2.1 hr hrt (Or.inl rfl) (fun t ht hW => ⟨⟨none, h, rfl, rfl, ph_end I ht hW⟩, I.2.2.1.F ht⟩) I.2.2.1.2.2 hdg hlo
theorem sw_out {x : Int32} {lo hi : Int} (h : ∀ k : Int, lo ≤ k → k ≤ hi → x.toInt ≠ k) : x.toInt < lo ∨ hi < x.toInt := by
  rcases Int.lt_or_le x.toInt lo with q | q
  · exact Or.inl q
  · rcases Int.lt_or_le hi x.toInt with q2 | q2
    · exact Or.inr q2
    · exact absurd rfl (h _ q q2)
end OC
