/-! Rows: an instruction over the pure heap. -/
def Fl (Ts : List Cond) (own : String) (index ci k : Nat) : Prop := ∃ (C : String) (T : u_T) (N : Nat), ph_cl[ci]? = some (C, T, N) ∧ k < N ∧ (∀ w ∈ u_ws C T N, w ∈ Ts) ∧ Cond.fieldLink own index (T k).1 (T k).2.1 (T k).2.2.1 ∈ Ts
def Pl (Ts : List Cond) (own : String) (index ci k : Nat) (ty : FieldType) : Prop := ∃ (C : String) (T : u_T) (N : Nat) (ty0 : Nat → FieldType), ph_cl[ci]? = some (C, T, N) ∧ k < N ∧ (∀ w ∈ u_ws C T N, w ∈ Ts) ∧ Cond.fieldLink own index (T k).1 (T k).2.1 (T k).2.2.1 ∈ Ts ∧ (∀ k, k < N → parseFieldDescriptor (T k).2.2.1 = some (ty0 k)) ∧ (∀ a, a < N → ∀ b, b < N → a ≠ b → (T a).2.1 ≠ (T b).2.1) ∧ (T k).2.2.2 = false ∧ parseFieldDescriptor (T k).2.2.1 = some ty
def PlF (Ts : List Cond) (own : String) (index ci k : Nat) (ty : FieldType) : Prop := ∃ (C : String) (T : u_T) (N : Nat) (ty0 : Nat → FieldType), ph_cl[ci]? = some (C, T, N) ∧ k < N ∧ (∀ w ∈ u_ws C T N, w ∈ Ts) ∧ Cond.fieldLink own index (T k).1 (T k).2.1 (T k).2.2.1 ∈ Ts ∧ (∀ k, k < N → parseFieldDescriptor (T k).2.2.1 = some (ty0 k)) ∧ (∀ a, a < N → ∀ b, b < N → a ≠ b → (T a).2.1 ≠ (T b).2.1) ∧ (T k).2.2.2 = true ∧ (T k).1 = own ∧ parseFieldDescriptor (T k).2.2.1 = some ty
def Nl (Ts : List Cond) (own : String) (index ci N : Nat) (fs0 : List PV) : Prop := ∃ (C : String) (T : u_T) (ty0 : Nat → FieldType), ph_cl[ci]? = some (C, T, N) ∧ (∀ w ∈ u_ws C T N, w ∈ Ts) ∧ (∀ k, k < N → parseFieldDescriptor (T k).2.2.1 = some (ty0 k)) ∧ Cond.classLink own index C ∈ Ts ∧ Cond.instantiable C N ∈ Ts ∧ Cond.initialized C ∈ Ts ∧ (∀ b j, j < N → defaultValue (ty0 j) = vp_V (fs0.map (ph_v b)) j)
def Il (Ts : List Cond) (own : String) (index : Nat) (y : MethodName) : Prop := Cond.initialized y.cls ∈ Ts ∧ Cond.methodLink own index y ∈ Ts ∧ Cond.instanceMethod y ∈ Ts
def Cd (y : MethodName) (n : Nat) : Prop := y.cls ≠ "java/lang/invoke/MethodHandle" ∧ y.cls ≠ "java/lang/invoke/VarHandle" ∧ (parseMethodDescriptor y.desc).map (fun d => d.parameters.length) = some n
section OR
variable {p : Program} {l : Launch} {e : Env} {R : Room} {s : State} {m : MethodId} {args : Array Value} {below : List Frame} {meth : Method} {c : Code} {H : Heap} {locs : List Loc} {cells slots : Nat} {Q : State → Prop}
variable {cc : ByteArray} {nL pc : Nat} {ls : Array Slot} {rest : List Value} {D : va_G} {cy : Nat → ClassId} {b : Nat} {A : Nat → Prop} {fl : Bool} {h h' : PH} {Ts : List Cond} {own : String}
theorem o_gV (S : CallFix p m c cc nL s args Ts own) {index ci k : Nat} (F : Fl Ts own index ci k) (I : ph_I D cy b A fl h s H locs) {a : Nat} {v : PV} (g : gV h a ci k = some v) (hdg : decode cc pc = .ok (.getfield index, 3))
    (kk : W p l e R s m args below meth c H locs cells slots Q (F0 m (pc + 3) ls (ph_v b v :: rest))) : W p l e R s m args below meth c H locs cells slots Q (F0 m pc ls (.ref (b + a) :: rest)) := by
  obtain ⟨C, T, N, hc, hk, hin, hl⟩ := F
  obtain ⟨fs, e1, e2⟩ := gV_spec g
  exact va_get S.1 S.2.1 S.2.2.2.2 hin S.2.2.2.1 I.2.1 I.1 a (fs := fs.map (ph_v b)) (ph_w_get e1) hc k hk (S.2.2.2.2 _ hl) (fun _ h9 => h9) (v := ph_v b v) (by rw [List.getElem?_map, e2]; rfl) hdg kk
theorem o_gI (S : CallFix p m c cc nL s args Ts own) {index ci k : Nat} (F : Fl Ts own index ci k) (I : ph_I D cy b A fl h s H locs) {a : Nat} {v : Int32} (g : gI h a ci k = some v) (hdg : decode cc pc = .ok (.getfield index, 3))
    (kk : W p l e R s m args below meth c H locs cells slots Q (F0 m (pc + 3) ls (.int v :: rest))) : W p l e R s m args below meth c H locs cells slots Q (F0 m pc ls (.ref (b + a) :: rest)) := o_gV S F I (gI_spec g) hdg kk
theorem o_gJ (S : CallFix p m c cc nL s args Ts own) {index ci k : Nat} (F : Fl Ts own index ci k) (I : ph_I D cy b A fl h s H locs) {a : Nat} {v : Int64} (g : gJ h a ci k = some v) (hdg : decode cc pc = .ok (.getfield index, 3))
    (kk : W p l e R s m args below meth c H locs cells slots Q (F0 m (pc + 3) ls (.long v :: rest))) : W p l e R s m args below meth c H locs cells slots Q (F0 m pc ls (.ref (b + a) :: rest)) := o_gV S F I (gJ_spec g) hdg kk
theorem o_gR (S : CallFix p m c cc nL s args Ts own) {index ci k : Nat} (F : Fl Ts own index ci k) (I : ph_I D cy b A fl h s H locs) {a : Nat} {r : Nat} (g : gR h a ci k = some r) (hdg : decode cc pc = .ok (.getfield index, 3))
    (kk : W p l e R s m args below meth c H locs cells slots Q (F0 m (pc + 3) ls (.ref (b + r) :: rest))) : W p l e R s m args below meth c H locs cells slots Q (F0 m pc ls (.ref (b + a) :: rest)) := o_gV S F I (gR_spec g) hdg kk
theorem ph_I_set (I : ph_I D cy b A fl h s H locs) {a : Nat} {c0 c1 : PC} {H1 : Heap} {k : Nat} (e0 : h[a]? = some c0) (hat : va_at D ph_cl (b + a, ph_e b cy c1) H1) (z : H1.size = H.size) (oq : ∀ q : Nat, q ≠ b + a → H1[q]? = H[q]?) : ph_I D cy b A fl (h.set a c1) s H1 (locs ++ [⟨b + a, k⟩]) := by
  obtain ⟨hP, hK, hS, hA, hz, hX⟩ := I
  have hlt : a < h.length := (List.getElem?_eq_some_iff.mp e0).1
  refine ⟨?_, hK, hS.put z oq (hA a hlt), fun i hi => hA i (by simpa using hi), fun q => by rw [z, hz q, List.length_set], hX⟩
  rw [← ph_w_set]
  exact hP.set (ph_D hA) (ph_w_get e0) hat oq
theorem o_pV (S : CallFix p m c cc nL s args Ts own) {index ci k : Nat} {ty : FieldType} (F : Pl Ts own index ci k ty) (I : ph_I D cy b A fl h s H locs) {a : Nat} {v : PV} (g : pV h a ci k v = some h') (hn : narrow ty (ph_v b v) = ph_v b v) (hfit : fits ty (ph_v b v) = true) (hdg : decode cc pc = .ok (.putfield index, 3))
    (kk : ∀ (H1 : Heap) (locs1 : List Loc), ph_I D cy b A fl h' s H1 locs1 → W p l e R s m args below meth c H1 locs1 cells slots Q (F0 m (pc + 3) ls rest)) : W p l e R s m args below meth c H locs cells slots Q (F0 m pc ls (ph_v b v :: .ref (b + a) :: rest)) := by
  obtain ⟨C, T, N, ty0, hc, hk, hin, hl, hty, hnm, hfin, hd⟩ := F
  obtain ⟨fs, e1, e2, rfl⟩ := pV_spec g
  obtain ⟨hx, hb, hml, hown, hts⟩ := S
  have I0 := I
  obtain ⟨hP, hK, hS0, hA, hz, hX⟩ := I
  have hap := va_apart (own := own) hts hin ty0 hty hnm hK hc
  obtain ⟨r, h1, cell, q1, q2, q3, q4⟩ := hP a _ (ph_w_get e1)
  have hr : r = (C, T, N) := Option.some.inj (h1.symm.trans hc)
  subst hr
  obtain ⟨hS, hfc, kC, hkC, hkind⟩ := hK.1 ci _ hc
  obtain ⟨cf, kf, fi, f, hi, hsl⟩ := hS k hk
  have hlay := hts _ (hin _ (u_in_lay hk))
  unfold u_lay at hlay
  rw [if_neg (by rw [hfin]; decide)] at hlay
  have hst := (u_facts hfc hkC (u_lays hts hin hk) hi).1
  have h6 := u_store hfc hkC hkind hlay hi hd hn hfit
  refine W.putK hx hb (f := f) ⟨hown, hts _ hl, ⟨_, _, _, hi⟩, hst⟩ (by rw [q2]; exact h6) q1 q3 (by rw [hsl]; exact k2_hasslot (q4 k hk)) rfl rfl hdg fun H' e1' e2' e3' => ?_
  rw [hsl] at e1' ⊢
  refine kk H' _ (ph_I_set I0 e1 ?_ e2' e3')
  exact ⟨_, hc, t_OB.to (V := updV (vp_V (fs.map (ph_v b))) k (ph_v b v)) ⟨_, e1', q2, q3, t_set q4 hap hk _⟩ (fun j _ => by
    show _ = vp_V ((fs.set k v).map (ph_v b)) j
    rw [List.map_set]; exact vp_updV_set (by simpa using e2) _ j)⟩
theorem o_pVF (S : CallFix p m c cc nL s args Ts own) (hin2 : meth.name = "<init>") {index ci k : Nat} {ty : FieldType} (F : PlF Ts own index ci k ty) (I : ph_I D cy b A fl h s H locs) {a : Nat} {v : PV} (g : pV h a ci k v = some h') (hn : narrow ty (ph_v b v) = ph_v b v) (hfit : fits ty (ph_v b v) = true) (hdg : decode cc pc = .ok (.putfield index, 3))
    (kk : ∀ (H1 : Heap) (locs1 : List Loc), ph_I D cy b A fl h' s H1 locs1 → W p l e R s m args below meth c H1 locs1 cells slots Q (F0 m (pc + 3) ls rest)) : W p l e R s m args below meth c H locs cells slots Q (F0 m pc ls (ph_v b v :: .ref (b + a) :: rest)) := by
  obtain ⟨C, T, N, ty0, hc, hk, hin, hl, hty, hnm, hfin, hdecl, hd⟩ := F
  obtain ⟨fs, e1, e2, rfl⟩ := pV_spec g
  obtain ⟨hx, hb, hml, hown, hts⟩ := S
  have I0 := I
  obtain ⟨hP, hK, hS0, hA, hz, hX⟩ := I
  have hap := va_apart (own := own) hts hin ty0 hty hnm hK hc
  obtain ⟨r, h1, cell, q1, q2, q3, q4⟩ := hP a _ (ph_w_get e1)
  have hr : r = (C, T, N) := Option.some.inj (h1.symm.trans hc)
  subst hr
  obtain ⟨hS, hfc, kC, hkC, hkind⟩ := hK.1 ci _ hc
  obtain ⟨cf, kf, fi, f, hi, hsl⟩ := hS k hk
  have hlay := hts _ (hin _ (u_in_lay hk))
  unfold u_lay at hlay
  rw [if_pos hfin] at hlay
  have hst := (u_facts hfc hkC (u_lays hts hin hk) hi).1
  have hcf : m.cls = cf := by
    obtain ⟨_, _, c', _, _, _, -, -, hf', -, -, -, hown2, -⟩ := Cond.laysFinal_spec hlay
    have e9 : c' = cf := by have := hi.symm.trans hf'; simp at this; exact this.1.symm
    rw [hdecl] at hown2
    rw [← e9]; exact Option.some.inj (hown.symm.trans hown2)
  have h6 := u_fits hfc hkC hkind (Or.inr hlay) hi hd hn hfit
  refine W.putFinK hx hb hown (hts _ hl) hi hst hcf hin2 (by rw [q2]; exact h6) q1 q3 (by rw [hsl]; exact k2_hasslot (q4 k hk)) rfl rfl hdg fun H' e1' e2' e3' => ?_
  rw [hsl] at e1' ⊢
  refine kk H' _ (ph_I_set I0 e1 ?_ e2' e3')
  exact ⟨_, hc, t_OB.to (V := updV (vp_V (fs.map (ph_v b))) k (ph_v b v)) ⟨_, e1', q2, q3, t_set q4 hap hk _⟩ (fun j _ => by
    show _ = vp_V ((fs.set k v).map (ph_v b)) j
    rw [List.map_set]; exact vp_updV_set (by simpa using e2) _ j)⟩
theorem o_pI (S : CallFix p m c cc nL s args Ts own) {index ci k : Nat} (F : Pl Ts own index ci k .int) (I : ph_I D cy b A fl h s H locs) {a : Nat} {v : Int32} (g : pI h a ci k v = some h') (hdg : decode cc pc = .ok (.putfield index, 3))
    (kk : ∀ (H1 : Heap) (locs1 : List Loc), ph_I D cy b A fl h' s H1 locs1 → W p l e R s m args below meth c H1 locs1 cells slots Q (F0 m (pc + 3) ls rest)) : W p l e R s m args below meth c H locs cells slots Q (F0 m pc ls (.int v :: .ref (b + a) :: rest)) := o_pV S F I (v := .inl v) g rfl rfl hdg kk
theorem o_pZ (S : CallFix p m c cc nL s args Ts own) {index ci k : Nat} (F : Pl Ts own index ci k .boolean) (I : ph_I D cy b A fl h s H locs) {a : Nat} {v : Int32} (g : pZ h a ci k v = some h') (hdg : decode cc pc = .ok (.putfield index, 3))
    (kk : ∀ (H1 : Heap) (locs1 : List Loc), ph_I D cy b A fl h' s H1 locs1 → W p l e R s m args below meth c H1 locs1 cells slots Q (F0 m (pc + 3) ls rest)) : W p l e R s m args below meth c H locs cells slots Q (F0 m pc ls (.int v :: .ref (b + a) :: rest)) := by
  unfold pZ at g
  split at g
  · rename_i hv
    rcases hv with rfl | rfl
    · exact o_pV S F I (v := .inl 0) g rfl rfl hdg kk
    · exact o_pV S F I (v := .inl 1) g rfl rfl hdg kk
  · cases g
theorem o_pJ (S : CallFix p m c cc nL s args Ts own) {index ci k : Nat} (F : Pl Ts own index ci k .long) (I : ph_I D cy b A fl h s H locs) {a : Nat} {v : Int64} (g : pJ h a ci k v = some h') (hdg : decode cc pc = .ok (.putfield index, 3))
    (kk : ∀ (H1 : Heap) (locs1 : List Loc), ph_I D cy b A fl h' s H1 locs1 → W p l e R s m args below meth c H1 locs1 cells slots Q (F0 m (pc + 3) ls rest)) : W p l e R s m args below meth c H locs cells slots Q (F0 m pc ls (.long v :: .ref (b + a) :: rest)) := o_pV S F I (v := .inr (.inl v)) g rfl rfl hdg kk
theorem o_pR (S : CallFix p m c cc nL s args Ts own) {index ci k : Nat} {ty : FieldType} (F : Pl Ts own index ci k ty) (hty : (∃ x, ty = .object x) ∨ ∃ x, ty = .array x) (I : ph_I D cy b A fl h s H locs) {a : Nat} {r : Nat} (g : pR h a ci k r = some h') (hdg : decode cc pc = .ok (.putfield index, 3))
    (kk : ∀ (H1 : Heap) (locs1 : List Loc), ph_I D cy b A fl h' s H1 locs1 → W p l e R s m args below meth c H1 locs1 cells slots Q (F0 m (pc + 3) ls rest)) : W p l e R s m args below meth c H locs cells slots Q (F0 m pc ls (.ref (b + r) :: .ref (b + a) :: rest)) := by
  rcases hty with ⟨x, rfl⟩ | ⟨x, rfl⟩
  · exact o_pV S F I (v := .inr (.inr (some r))) g rfl rfl hdg kk
  · exact o_pV S F I (v := .inr (.inr (some r))) g rfl rfl hdg kk
theorem o_pRF (S : CallFix p m c cc nL s args Ts own) (hin2 : meth.name = "<init>") {index ci k : Nat} {ty : FieldType} (F : PlF Ts own index ci k ty) (hty : (∃ x, ty = .object x) ∨ ∃ x, ty = .array x) (I : ph_I D cy b A fl h s H locs) {a : Nat} {r : Nat} (g : pR h a ci k r = some h') (hdg : decode cc pc = .ok (.putfield index, 3))
    (kk : ∀ (H1 : Heap) (locs1 : List Loc), ph_I D cy b A fl h' s H1 locs1 → W p l e R s m args below meth c H1 locs1 cells slots Q (F0 m (pc + 3) ls rest)) : W p l e R s m args below meth c H locs cells slots Q (F0 m pc ls (.ref (b + r) :: .ref (b + a) :: rest)) := by
  rcases hty with ⟨x, rfl⟩ | ⟨x, rfl⟩
  · exact o_pVF S hin2 F I (v := .inr (.inr (some r))) g rfl rfl hdg kk
  · exact o_pVF S hin2 F I (v := .inr (.inr (some r))) g rfl rfl hdg kk
theorem o_iald (S : CallFix p m c cc nL s args Ts own) (I : ph_I D cy b A fl h s H locs) {a : Nat} {i v : Int32} (g : aI h a 0 i = some v) (hdg : decode cc pc = .ok (.iaload, 1))
    (kk : W p l e R s m args below meth c H locs cells slots Q (F0 m (pc + 1) ls (.int v :: rest))) : W p l e R s m args below meth c H locs cells slots Q (F0 m pc ls (.int i :: .ref (b + a) :: rest)) := by
  obtain ⟨n, f, e1, e2, rfl⟩ := aI_spec g
  exact va_iald S.1 S.2.1 I.2.1 I.1 a 0 (cA := cy 0) (n := n) (f := f) (ph_w_get e1) rfl e2 hdg kk
theorem o_bald (S : CallFix p m c cc nL s args Ts own) (I : ph_I D cy b A fl h s H locs) {a : Nat} {i v : Int32} (g : aI h a 1 i = some v) (hdg : decode cc pc = .ok (.baload, 1))
    (kk : W p l e R s m args below meth c H locs cells slots Q (F0 m (pc + 1) ls (.int v :: rest))) : W p l e R s m args below meth c H locs cells slots Q (F0 m pc ls (.int i :: .ref (b + a) :: rest)) := by
  obtain ⟨n, f, e1, e2, rfl⟩ := aI_spec g
  exact va_bald S.1 S.2.1 I.2.1 I.1 a 1 (cA := cy 1) (n := n) (f := f) (ph_w_get e1) rfl e2 hdg kk
theorem o_zald (S : CallFix p m c cc nL s args Ts own) (I : ph_I D cy b A fl h s H locs) {a : Nat} {i v : Int32} (g : aI h a 2 i = some v) (hdg : decode cc pc = .ok (.baload, 1))
    (kk : W p l e R s m args below meth c H locs cells slots Q (F0 m (pc + 1) ls (.int v :: rest))) : W p l e R s m args below meth c H locs cells slots Q (F0 m pc ls (.int i :: .ref (b + a) :: rest)) := by
  obtain ⟨n, f, e1, e2, rfl⟩ := aI_spec g
  exact va_zald S.1 S.2.1 I.2.1 I.1 a 2 (cA := cy 2) (n := n) (f := f) (ph_w_get e1) rfl e2 hdg kk
theorem o_lald (S : CallFix p m c cc nL s args Ts own) (I : ph_I D cy b A fl h s H locs) {a : Nat} {i : Int32} {v : Int64} (g : aJ h a i = some v) (hdg : decode cc pc = .ok (.laload, 1))
    (kk : W p l e R s m args below meth c H locs cells slots Q (F0 m (pc + 1) ls (.long v :: rest))) : W p l e R s m args below meth c H locs cells slots Q (F0 m pc ls (.int i :: .ref (b + a) :: rest)) := by
  obtain ⟨n, f, e1, e2, rfl⟩ := aJ_spec g
  exact va_lald S.1 S.2.1 I.2.1 I.1 a 3 (cA := cy 3) (n := n) (f := f) (ph_w_get e1) rfl e2 hdg kk
theorem o_aald (S : CallFix p m c cc nL s args Ts own) (I : ph_I D cy b A fl h s H locs) {a : Nat} {i : Int32} {v : Nat} (g : aR h a i = some v) (hdg : decode cc pc = .ok (.aaload, 1))
    (kk : W p l e R s m args below meth c H locs cells slots Q (F0 m (pc + 1) ls (.ref (b + v) :: rest))) : W p l e R s m args below meth c H locs cells slots Q (F0 m pc ls (.int i :: .ref (b + a) :: rest)) := by
  obtain ⟨n, f, e1, e2, e3⟩ := aR_spec g
  refine va_aldq S.1 S.2.1 I.2.1 I.1 a 4 (cA := cy 4) (C := "WhoseWave$Law") (n := n) (f := fun k => (f k).map (fun r => b + r)) (ph_w_get e1) rfl e2 hdg ?_
  show W p l e R s m args below meth c H locs cells slots Q (F0 m (pc + 1) ls (va_rf ((f i.toNatClampNeg).map (fun r => b + r)) :: rest))
  rw [e3]; exact kk
theorem o_iast (S : CallFix p m c cc nL s args Ts own) (I : ph_I D cy b A fl h s H locs) {a : Nat} {i x : Int32} (g : sI h a 0 i x = some h') (hdg : decode cc pc = .ok (.iastore, 1))
    (kk : ∀ (H1 : Heap) (locs1 : List Loc), ph_I D cy b A fl h' s H1 locs1 → W p l e R s m args below meth c H1 locs1 cells slots Q (F0 m (pc + 1) ls rest)) : W p l e R s m args below meth c H locs cells slots Q (F0 m pc ls (.int x :: .int i :: .ref (b + a) :: rest)) := by
  obtain ⟨n, f, e1, hin, rfl⟩ := sI_spec g
  refine W.iast S.1 S.2.1 (I.1 a _ (ph_w_get e1)) ((I.2.1.2 0 _ rfl).1 n (fun j => .int (f j))) (fun q => by cases q) (by show ¬ (i < 0 ∨ (arrV _ _ _).slots.size ≤ _); rw [arrV_size]; exact hin) rfl rfl hdg fun H1 e9 z oq => ?_
  refine kk H1 _ (ph_I_set I e1 ?_ z oq)
  show H1[b + a]? = some (vp_cell (cy 0) (n, .inl (upd f i.toNatClampNeg x)))
  rw [e9]
  show some ((vp_cell (cy 0) (n, .inl f)).setSlot _ _) = _
  rw [vp_cell_i, vp_cell_i, arrV_store]
  congr 2
  funext q
  by_cases hq : q = i.toNatClampNeg
  · subst hq
    simp [updV, upd]
  · simp [updV, upd, hq]
theorem o_bast (S : CallFix p m c cc nL s args Ts own) (I : ph_I D cy b A fl h s H locs) {a : Nat} {i x : Int32} (g : sI h a 1 i (vp_nar .byte x) = some h') (hdg : decode cc pc = .ok (.bastore, 1))
    (kk : ∀ (H1 : Heap) (locs1 : List Loc), ph_I D cy b A fl h' s H1 locs1 → W p l e R s m args below meth c H1 locs1 cells slots Q (F0 m (pc + 1) ls rest)) : W p l e R s m args below meth c H locs cells slots Q (F0 m pc ls (.int x :: .int i :: .ref (b + a) :: rest)) := by
  obtain ⟨n, f, e1, hin, rfl⟩ := sI_spec g
  refine W.bast S.1 S.2.1 (I.1 a _ (ph_w_get e1)) ((I.2.1.2 1 _ rfl).1 n (fun j => .int (f j))) (fun q => by cases q) (by show ¬ (i < 0 ∨ (arrV _ _ _).slots.size ≤ _); rw [arrV_size]; exact hin) rfl rfl hdg fun H1 e9 z oq => ?_
  refine kk H1 _ (ph_I_set I e1 ?_ z oq)
  show H1[b + a]? = some (vp_cell (cy 1) (n, .inl (upd f i.toNatClampNeg (vp_nar .byte x))))
  rw [e9]
  show some ((vp_cell (cy 1) (n, .inl f)).setSlot _ _) = _
  rw [vp_cell_i, vp_cell_i, arrV_store]
  congr 2
  funext q
  by_cases hq : q = i.toNatClampNeg
  · subst hq
    simp [updV, upd, vp_nar, narrow]
  · simp [updV, upd, hq]
theorem o_zast (S : CallFix p m c cc nL s args Ts own) (I : ph_I D cy b A fl h s H locs) {a : Nat} {i x : Int32} (g : sI h a 2 i (vp_nar .boolean x) = some h') (hdg : decode cc pc = .ok (.bastore, 1))
    (kk : ∀ (H1 : Heap) (locs1 : List Loc), ph_I D cy b A fl h' s H1 locs1 → W p l e R s m args below meth c H1 locs1 cells slots Q (F0 m (pc + 1) ls rest)) : W p l e R s m args below meth c H locs cells slots Q (F0 m pc ls (.int x :: .int i :: .ref (b + a) :: rest)) := by
  obtain ⟨n, f, e1, hin, rfl⟩ := sI_spec g
  refine W.zast S.1 S.2.1 (I.1 a _ (ph_w_get e1)) ((I.2.1.2 2 _ rfl).1 n (fun j => .int (f j))) (fun q => by cases q) (by show ¬ (i < 0 ∨ (arrV _ _ _).slots.size ≤ _); rw [arrV_size]; exact hin) rfl rfl hdg fun H1 e9 z oq => ?_
  refine kk H1 _ (ph_I_set I e1 ?_ z oq)
  show H1[b + a]? = some (vp_cell (cy 2) (n, .inl (upd f i.toNatClampNeg (vp_nar .boolean x))))
  rw [e9]
  show some ((vp_cell (cy 2) (n, .inl f)).setSlot _ _) = _
  rw [vp_cell_i, vp_cell_i, arrV_store]
  congr 2
  funext q
  by_cases hq : q = i.toNatClampNeg
  · subst hq
    simp [updV, upd, vp_nar, narrow]
  · simp [updV, upd, hq]
theorem o_last (S : CallFix p m c cc nL s args Ts own) (I : ph_I D cy b A fl h s H locs) {a : Nat} {i : Int32} {x : Int64} (g : sJ h a i x = some h') (hdg : decode cc pc = .ok (.lastore, 1))
    (kk : ∀ (H1 : Heap) (locs1 : List Loc), ph_I D cy b A fl h' s H1 locs1 → W p l e R s m args below meth c H1 locs1 cells slots Q (F0 m (pc + 1) ls rest)) : W p l e R s m args below meth c H locs cells slots Q (F0 m pc ls (.long x :: .int i :: .ref (b + a) :: rest)) := by
  obtain ⟨n, f, e1, hin, rfl⟩ := sJ_spec g
  refine W.last S.1 S.2.1 (I.1 a _ (ph_w_get e1)) ((I.2.1.2 3 _ rfl).1 n (fun j => .long (f j))) (fun q => by cases q) (by show ¬ (i < 0 ∨ (arrV _ _ _).slots.size ≤ _); rw [arrV_size]; exact hin) rfl rfl hdg fun H1 e9 z oq => ?_
  refine kk H1 _ (ph_I_set I e1 ?_ z oq)
  show H1[b + a]? = some (vp_cell (cy 3) (n, .inr (.inl (vp_updL f i.toNatClampNeg x))))
  rw [e9]
  show some ((vp_cell (cy 3) (n, .inr (.inl f))).setSlot _ _) = _
  rw [vp_cell_l, vp_cell_l, arrV_store]
  congr 2
  funext q
  by_cases hq : q = i.toNatClampNeg
  · subst hq
    simp [updV, vp_updL]
  · simp [updV, vp_updL, hq]
theorem o_alen (S : CallFix p m c cc nL s args Ts own) (I : ph_I D cy b A fl h s H locs) {a : Nat} {v : Int32} (g : aL h a = some v) (hdg : decode cc pc = .ok (.arraylength, 1))
    (kk : W p l e R s m args below meth c H locs cells slots Q (F0 m (pc + 1) ls (.int v :: rest))) : W p l e R s m args below meth c H locs cells slots Q (F0 m pc ls (.ref (b + a) :: rest)) := by
  obtain ⟨t, n, gg, e1, ht, hv⟩ := aL_spec g
  have hx : (ph_a b (n, gg)).1 = n := by
    rcases gg with f | f | f | f | f <;> rfl
  have hv' : Int32.ofNat (ph_a b (n, gg)).1 = v := by rw [hx]; exact hv
  have ht5 : t = 0 ∨ t = 1 ∨ t = 2 ∨ t = 3 ∨ t = 4 := by omega
  rcases ht5 with rfl | rfl | rfl | rfl | rfl
  · exact va_alen S.1 S.2.1 I.2.1 I.1 a 0 (cA := cy 0) (x := ph_a b (n, gg)) (ph_w_get e1) rfl hv' hdg kk
  · exact va_alen S.1 S.2.1 I.2.1 I.1 a 1 (cA := cy 1) (x := ph_a b (n, gg)) (ph_w_get e1) rfl hv' hdg kk
  · exact va_alen S.1 S.2.1 I.2.1 I.1 a 2 (cA := cy 2) (x := ph_a b (n, gg)) (ph_w_get e1) rfl hv' hdg kk
  · exact va_alen S.1 S.2.1 I.2.1 I.1 a 3 (cA := cy 3) (x := ph_a b (n, gg)) (ph_w_get e1) rfl hv' hdg kk
  · exact va_alen S.1 S.2.1 I.2.1 I.1 a 4 (cA := cy 4) (x := ph_a b (n, gg)) (ph_w_get e1) rfl hv' hdg kk
def Al (Ts : List Cond) (own : String) (index : Nat) : Prop := Cond.methodLink own index arraycopyName ∈ Ts ∧ Cond.native arraycopyName ∈ Ts ∧ Cond.static arraycopyName ∈ Ts ∧ Cond.initialized "java/lang/System" ∈ Ts
theorem o_copy (S : CallFix p m c cc nL s args Ts own) {index : Nat} (F : Al Ts own index) (hsz : ls.size = nL) (I : ph_I D cy b A false h s H locs) {a0 a1 : Nat} {sp dp n : Int32} (g : cpI h a0 sp a1 dp n = some h') (hframes : 1 ≤ R.frames) (hlocals : (rest.map fun v => v.category).sum + (nativeFrameWords "java/lang/System" "arraycopy" 5 + 11) ≤ R.locals) (hdg : decode cc pc = .ok (.invokestatic index, 3))
    (kk : ∀ (H1 : Heap) (locs1 : List Loc), ph_I D cy b A false h' s H1 locs1 → W p l e R s m args below meth c H1 locs1 cells slots Q (F0 m (pc + 3) ls rest)) : W p l e R s m args below meth c H locs cells slots Q (F0 m pc ls (.int n :: .int dp :: .ref (b + a1) :: .int sp :: .ref (b + a0) :: rest)) := by
  obtain ⟨n0, f, n1, gg, e0, e1, ⟨h1, h2, h3, h4, h5⟩, rfl⟩ := cpI_spec g
  obtain ⟨f1, f2, f3, f4⟩ := F
  refine va_copyi S.1 S.2.1 (by rw [S.2.2.1, hsz]) S.2.2.2.1 (S.2.2.2.2 _ f1) (S.2.2.2.2 _ f2) (S.2.2.2.2 _ f3) (S.2.2.2.2 _ f4) I.2.1 I.1 (ph_D I.2.2.2.1) I.2.2.1 a0 a1 0 0 (c0 := cy 0) (c1 := cy 0) (f := f) (g := gg) (ph_w_get e0) (ph_w_get e1) rfl rfl rfl h1 h2 h3 h4 h5 (fun _ _ => rfl) hframes hlocals hdg (fun H1 locs1 hP hD hS => ?_)
  refine kk H1 locs1 ⟨?_, I.2.1, hS, fun i hi => I.2.2.2.1 i (by simpa using hi), (fun q => by cases q), I.2.2.2.2.2⟩
  rw [← ph_w_set]
  exact hP
-- what is made
theorem ph_I_push (I : ph_I D cy b A true h s H locs) (hAn : ∀ q, b ≤ q → A q) {c1 : PC} {H1 : Heap} (hat : va_at D ph_cl (b + h.length, ph_e b cy c1) H1) (z : H1.size = H.size + 1) (o1 : ∀ q : Nat, q < H.size → H1[q]? = H[q]?) : ph_I D cy b A true (h ++ [c1]) s H1 locs := by
  obtain ⟨hP, hK, hS, hA, hz, hX⟩ := I
  refine ⟨?_, hK, ⟨Nat.le_trans hS.1 (by omega), fun x h1 h2 => (o1 x (Nat.lt_of_lt_of_le h1 hS.1)).trans (hS.2.1 x h1 h2), hS.2.2⟩, fun i _ => hAn _ (Nat.le_add_right b i), (fun _ => by rw [z, hz rfl, List.length_append]; rfl), hX⟩
  rw [ph_w_push]
  refine (hP.kept (fun k x hx => o1 x.1 ((hP k x hx).lt))).app (fun k x hx => ?_)
  have hk : k < 1 := (List.getElem?_eq_some_iff.mp hx).1
  rw [show k = 0 by omega] at hx
  cases hx
  exact hat
theorem o_new (S : CallFix p m c cc nL s args Ts own) {index ci N : Nat} {fs0 : List PV} (F : Nl Ts own index ci N fs0) (I : ph_I D cy b A true h s H locs) (hAn : ∀ q, b ≤ q → A q) (g : nC h (.inr (ci, fs0)) = some h') (hcells : cells + 1 ≤ R.cells) (hslots : slots + N ≤ R.slots) (hdg : decode cc pc = .ok (.new index, 3))
    (kk : ∀ (H1 : Heap), ph_I D cy b A true h' s H1 locs → W p l e R s m args below meth c H1 locs (cells + 1) (slots + N) Q (F0 m (pc + 3) ls (.ref (b + h.length) :: rest))) : W p l e R s m args below meth c H locs cells slots Q (F0 m pc ls rest) := by
  obtain ⟨C, T, ty0, hc, hin, hty, w1, w2, w3, hfs⟩ := F
  obtain ⟨hx, hb, hml, hown, hts⟩ := S
  have e0 : h ++ [.inr (ci, fs0)] = h' := Option.some.inj g
  subst e0
  have hKn := I.2.1.1 ci _ hc
  have hz := I.2.2.2.2.1 rfl
  refine W.newcK hx hb hown (hts _ w1) (hts _ w2) (hts _ w3) rfl hdg hcells hslots hKn.2.1 hz fun H1 kC hkC e1 z1 o1 => ?_
  refine kk H1 (ph_I_push I hAn ?_ (by rw [z1, hz]) (fun q hq => o1 q (by rw [← hz]; exact hq)))
  exact ⟨_, hc, (u_born ty0 hts hin hKn hkC e1 hty).to (hfs b)⟩
theorem ph_cls (I : ph_I D cy b A fl h s H locs) {t : Nat} {ty : FieldType} (ht : (ph_t cy)[t]? = some (cy t, ty)) (hno : ∀ C, ty ≠ .object C) : s.vm.findClass ("[" ++ ty.toString) = some (cy t) := by
  have := (I.2.1.2 t _ ht).2
  cases ty <;> first | exact this | exact absurd rfl (hno _)
theorem o_newI (S : CallFix p m c cc nL s args Ts own) (hw : Cond.arrayClass .int ∈ Ts) (I : ph_I D cy b A true h s H locs) (hAn : ∀ q, b ≤ q → A q) {n : Int32} {N : Nat} (g : nC h (zI 0 N) = some h') (hn : ¬ n < 0) (hN : n.toNatClampNeg = N) (hbytes : N * 4 ≤ 536870912) (hcells : cells + 1 ≤ R.cells) (hslots : slots + N ≤ R.slots) (hdg : decode cc pc = .ok (.newarray .int, 2))
    (kk : ∀ (H1 : Heap), ph_I D cy b A true h' s H1 locs → W p l e R s m args below meth c H1 locs (cells + 1) (slots + N) Q (F0 m (pc + 2) ls (.ref (b + h.length) :: rest))) : W p l e R s m args below meth c H locs cells slots Q (F0 m pc ls (.int n :: rest)) := by
  have e0 : h ++ [zI 0 N] = h' := Option.some.inj g
  subst e0
  have hz := I.2.2.2.2.1 rfl
  refine va_newaK S.1 S.2.1 (atype := .int) (S.2.2.2.2 _ hw) rfl hdg rfl hn hN hbytes hcells hslots hz fun H1 cA e1 z1 o1 hAr hNm => ?_
  have hcA : cA = cy 0 := Option.some.inj (hNm.symm.trans (ph_cls I (t := 0) (ty := .int) rfl (fun _ q => by cases q)))
  subst hcA
  exact kk H1 (ph_I_push I hAn e1 (by rw [z1, hz]) (fun q hq => o1 q (by rw [← hz]; exact hq)))
theorem o_newB (S : CallFix p m c cc nL s args Ts own) (hw : Cond.arrayClass .byte ∈ Ts) (I : ph_I D cy b A true h s H locs) (hAn : ∀ q, b ≤ q → A q) {n : Int32} {N : Nat} (g : nC h (zI 1 N) = some h') (hn : ¬ n < 0) (hN : n.toNatClampNeg = N) (hbytes : N * 1 ≤ 536870912) (hcells : cells + 1 ≤ R.cells) (hslots : slots + N ≤ R.slots) (hdg : decode cc pc = .ok (.newarray .byte, 2))
    (kk : ∀ (H1 : Heap), ph_I D cy b A true h' s H1 locs → W p l e R s m args below meth c H1 locs (cells + 1) (slots + N) Q (F0 m (pc + 2) ls (.ref (b + h.length) :: rest))) : W p l e R s m args below meth c H locs cells slots Q (F0 m pc ls (.int n :: rest)) := by
  have e0 : h ++ [zI 1 N] = h' := Option.some.inj g
  subst e0
  have hz := I.2.2.2.2.1 rfl
  refine va_newaK S.1 S.2.1 (atype := .byte) (S.2.2.2.2 _ hw) rfl hdg rfl hn hN hbytes hcells hslots hz fun H1 cA e1 z1 o1 hAr hNm => ?_
  have hcA : cA = cy 1 := Option.some.inj (hNm.symm.trans (ph_cls I (t := 1) (ty := .byte) rfl (fun _ q => by cases q)))
  subst hcA
  exact kk H1 (ph_I_push I hAn e1 (by rw [z1, hz]) (fun q hq => o1 q (by rw [← hz]; exact hq)))
theorem o_newZ (S : CallFix p m c cc nL s args Ts own) (hw : Cond.arrayClass .boolean ∈ Ts) (I : ph_I D cy b A true h s H locs) (hAn : ∀ q, b ≤ q → A q) {n : Int32} {N : Nat} (g : nC h (zI 2 N) = some h') (hn : ¬ n < 0) (hN : n.toNatClampNeg = N) (hbytes : N * 1 ≤ 536870912) (hcells : cells + 1 ≤ R.cells) (hslots : slots + N ≤ R.slots) (hdg : decode cc pc = .ok (.newarray .boolean, 2))
    (kk : ∀ (H1 : Heap), ph_I D cy b A true h' s H1 locs → W p l e R s m args below meth c H1 locs (cells + 1) (slots + N) Q (F0 m (pc + 2) ls (.ref (b + h.length) :: rest))) : W p l e R s m args below meth c H locs cells slots Q (F0 m pc ls (.int n :: rest)) := by
  have e0 : h ++ [zI 2 N] = h' := Option.some.inj g
  subst e0
  have hz := I.2.2.2.2.1 rfl
  refine va_newaK S.1 S.2.1 (atype := .boolean) (S.2.2.2.2 _ hw) rfl hdg rfl hn hN hbytes hcells hslots hz fun H1 cA e1 z1 o1 hAr hNm => ?_
  have hcA : cA = cy 2 := Option.some.inj (hNm.symm.trans (ph_cls I (t := 2) (ty := .boolean) rfl (fun _ q => by cases q)))
  subst hcA
  exact kk H1 (ph_I_push I hAn e1 (by rw [z1, hz]) (fun q hq => o1 q (by rw [← hz]; exact hq)))
theorem o_newJ (S : CallFix p m c cc nL s args Ts own) (hw : Cond.arrayClass .long ∈ Ts) (I : ph_I D cy b A true h s H locs) (hAn : ∀ q, b ≤ q → A q) {n : Int32} {N : Nat} (g : nC h (zJ N) = some h') (hn : ¬ n < 0) (hN : n.toNatClampNeg = N) (hbytes : N * 8 ≤ 536870912) (hcells : cells + 1 ≤ R.cells) (hslots : slots + N ≤ R.slots) (hdg : decode cc pc = .ok (.newarray .long, 2))
    (kk : ∀ (H1 : Heap), ph_I D cy b A true h' s H1 locs → W p l e R s m args below meth c H1 locs (cells + 1) (slots + N) Q (F0 m (pc + 2) ls (.ref (b + h.length) :: rest))) : W p l e R s m args below meth c H locs cells slots Q (F0 m pc ls (.int n :: rest)) := by
  have e0 : h ++ [zJ N] = h' := Option.some.inj g
  subst e0
  have hz := I.2.2.2.2.1 rfl
  refine va_newaK S.1 S.2.1 (atype := .long) (S.2.2.2.2 _ hw) rfl hdg rfl hn hN hbytes hcells hslots hz fun H1 cA e1 z1 o1 hAr hNm => ?_
  have hcA : cA = cy 3 := Option.some.inj (hNm.symm.trans (ph_cls I (t := 3) (ty := .long) rfl (fun _ q => by cases q)))
  subst hcA
  exact kk H1 (ph_I_push I hAn e1 (by rw [z1, hz]) (fun q hq => o1 q (by rw [← hz]; exact hq)))
theorem o_aast (S : CallFix p m c cc nL s args Ts own) (I : ph_I D cy b A true h s H locs) {a : Nat} {i : Int32} {r : Nat} (g : sR h a i r = some h') (hdg : decode cc pc = .ok (.aastore, 1))
    (kk : ∀ (H1 : Heap) (locs1 : List Loc), ph_I D cy b A true h' s H1 locs1 → W p l e R s m args below meth c H1 locs1 cells slots Q (F0 m (pc + 1) ls rest)) : W p l e R s m args below meth c H locs cells slots Q (F0 m pc ls (.ref (b + r) :: .int i :: .ref (b + a) :: rest)) := by
  obtain ⟨n, f, e1, hin, ho, rfl⟩ := sR_spec g
  obtain ⟨vs, e2⟩ := okO_spec ho
  have I0 := I
  obtain ⟨hP, hK, hS, hA, hz, hX⟩ := I
  have hlt : i.toNatClampNeg < n := Nat.not_le.mp fun q => hin (Or.inr q)
  have h0 : ¬ i < 0 := fun q => hin (Or.inl q)
  obtain ⟨r', hr', cellV, g1, g2, g3, -⟩ := hP r _ (ph_w_get e2)
  have hcls := (hK.1 2 (RX2, TX2, 3) rfl).2
  obtain ⟨kA, comp, k1, k2, k3, -⟩ := (hK.2 4 _ rfl).2
  have hcomp : comp = D.1 2 := Option.some.inj (k3.symm.trans hcls.1)
  subst hcomp
  obtain ⟨kC, hkC, -⟩ := hcls.2
  refine W.aast S.1 S.2.1 (hP a _ (ph_w_get e1)) (fun q h => by cases h) (fun h => by cases h) k1 k2 rfl hkC ⟨h0, by show _ < (arrV _ _ _).slots.size; rw [arrV_size]; exact hlt⟩ g1 (fun q h => by rw [g3] at h; cases h) (by rw [g2]; exact hkC) (by rw [g2]; exact va_assign hcls) rfl rfl hdg fun H1 e9 z oq => ?_
  refine kk H1 _ (ph_I_set I0 e1 ?_ z oq)
  show H1[b + a]? = some (vp_cell (cy 4) (n, .inr (.inr (.inr (.inr (fun k => ((va_up f i.toNatClampNeg (some r)) k).map (fun r => b + r)))))))
  rw [e9]
  show some ((vp_cell (cy 4) (n, .inr (.inr (.inr (.inr (fun k => (f k).map (fun r => b + r))))))).setSlot _ _) = _
  rw [vp_cell_q, vp_cell_q, arrV_store]
  congr 2
  funext q
  by_cases hq : q = i.toNatClampNeg
  · subst hq
    simp [updV, va_up, va_rf]
  · simp [updV, va_up, hq]
theorem o_newR (S : CallFix p m c cc nL s args Ts own) {index : Nat} (hw : Cond.classLink own index RX2 ∈ Ts) (I : ph_I D cy b A true h s H locs) (hAn : ∀ q, b ≤ q → A q) {n : Int32} {N : Nat} (g : nC h (zR N) = some h') (hn : ¬ n < 0) (hN : n.toNatClampNeg = N) (hbytes : N * 4 ≤ 536870912) (hcells : cells + 1 ≤ R.cells) (hslots : slots + N ≤ R.slots) (hdg : decode cc pc = .ok (.anewarray index, 3))
    (kk : ∀ (H1 : Heap), ph_I D cy b A true h' s H1 locs → W p l e R s m args below meth c H1 locs (cells + 1) (slots + N) Q (F0 m (pc + 3) ls (.ref (b + h.length) :: rest))) : W p l e R s m args below meth c H locs cells slots Q (F0 m pc ls (.int n :: rest)) := by
  have e0 : h ++ [zR N] = h' := Option.some.inj g
  subst e0
  subst hN
  have hz := I.2.2.2.2.1 rfl
  refine W.anew S.1 S.2.1 S.2.2.2.1 (S.2.2.2.2 _ hw) (va_AO.use I.2.2.2.2.2.1) rfl hdg rfl hn hbytes hcells hslots fun cA kA comp f1 f2 f3 f4 => ?_
  generalize hH1 : H.push ({ cls := cA, slots := Array.replicate n.toNatClampNeg .null, vm := .none } : Cell) = H1
  have z1 : H1.size = H.size + 1 := by rw [← hH1, Array.size_push]
  have e1 : H1[H.size]? = some (arrV cA n.toNatClampNeg (fun _ => .null)) := by rw [← hH1, Array.getElem?_push_size, ← arrV_new]
  have o1 : ∀ q : Nat, q < H.size → H1[q]? = H[q]? := fun q hq => by rw [← hH1, Array.getElem?_push, if_neg (Nat.ne_of_lt hq)]
  have hcA : cA = cy 4 := by
    obtain ⟨kA', comp', g1, g2, g3, g4⟩ := (I.2.1.2 4 _ rfl).2
    exact Option.some.inj (f1.symm.trans g4)
  subst hcA
  have K := kk H1 (ph_I_push I hAn (by rw [← hz]; exact e1) z1 o1)
  rw [← hz] at K
  exact K
end OR
/-! Rows: calls and returns over the pure heap. -/
theorem ph_B_blind (D : va_G) (cy : Nat → ClassId) (b : Nat) (A : Nat → Prop) (fl : Bool) (h : PH) (av : List Value) : FrameBlind (va_Pc av (ph_B D cy b A fl h)) := by
  intro a U g mk q
  obtain ⟨q0, qP, qK, qA, qz, qX⟩ := q
  exact ⟨q0, qP, va_K.moved (u := U) (U := U.calling g mk a) (Vm.Alike.refl U.vm) qK, qA, qz, ph_X_move (locs := []) qX va_S.rf rfl (State.WarmedH.refl U)⟩
section OC
variable {p : Program} {l : Launch} {e : Env} {R : Room} {s : State} {m : MethodId} {args : Array Value} {below : List Frame} {meth : Method} {c : Code} {H : Heap} {locs : List Loc} {cells slots : Nat} {Q : State → Prop}
variable {cc : ByteArray} {nL pc : Nat} {ls : Array Slot} {rest st0 As : List Value} {D : va_G} {cy : Nat → ClassId} {b : Nat} {A : Nat → Prop} {fl : Bool} {h h' : PH} {Ts ws ws' : List Cond} {own : String}
variable {y : MethodName} {bytes : ByteArray} {maxL mc ms n index : Nat} {ret : Option FieldType} {rm : Room}
theorem ph_pre {av : List Value} (I : ph_I D cy b A fl h s H locs) : ∀ U : State, U.heap = H → s.WarmedH U.vm → va_Pc av (ph_B D cy b A fl h) av.toArray U := fun U hU hW => ⟨rfl, by rw [hU]; exact I.1, va_K.moved hW.alike I.2.1, I.2.2.2.1, (fun q => by rw [hU]; exact I.2.2.2.2.1 q), ph_X_move I.2.2.2.2.2 I.2.2.1 hU hW⟩
theorem ph_post {u : PH} {t : State} {H1 : Heap} {locs1 : List Loc} {h0 : PH} (I : ph_I D cy b A fl h0 s H locs) (ht : t.heap = H1) (hB : ph_B D cy b A fl u t) (hS : va_S A s.heap H1 locs1) : ph_I D cy b A fl u s H1 locs1 := ⟨by rw [← ht]; exact hB.1, I.2.1, hS, hB.2.2.1, (fun q => by rw [← ht]; exact hB.2.2.2.1 q), I.2.2.2.2.2⟩
theorem o_Vi (S : CallFix p m c cc nL s args Ts own) {a ci : Nat} {q : vw_C} {out : Int32 × PH} (hM : Met l y ws rm (va_Pc (.ref (b + a) :: As) (ph_B D cy b A fl h)) (va_Qi (fun (r : Int32) (u : PH) => (r, u) = out) (ph_B D cy b A fl) A) mc ms A) (hT : GoodIn Ts (wsV own index y.cls y ws)) (hw : ws = Cond.code y bytes maxL ret :: ws') (hrc : rm.cells = mc) (hrs : rm.slots = ms) (hd : Cd y n) (hR : rm.frames + 1 ≤ R.frames ∧ 8 + (maxL + 11) + rm.locals ≤ R.locals) (I : ph_I D cy b A fl h s H locs) (ho : okO h a ci = true) (hc : ph_cl[ci]? = some q) (hq : q.1 = y.cls)
    (hn : As.length = n) (hsz : ls.size = nL) (hst : st0 = As.reverse ++ .ref (b + a) :: rest) (hW : (rest.map fun v => v.category).sum ≤ 8) (hdg : decode cc pc = .ok (.invokevirtual index, 3)) (hf : cells + mc ≤ R.cells ∧ slots + ms ≤ R.slots)
    (kk : ∀ (H1 : Heap) (locs1 : List Loc), ph_I D cy b A fl out.2 s H1 locs1 → W p l e R s m args below meth c H1 locs1 (cells + mc) (slots + ms) Q (F0 m (pc + 3) ls (.int out.1 :: rest))) : W p l e R s m args below meth c H locs cells slots Q (F0 m pc ls st0) := by
  obtain ⟨fs, e1⟩ := okO_spec ho
  refine va_calli (va_runV (As := As) (rest := rest) (b := b + a) (C := y.cls) S hM (cwV n S.2.2.2.2 hT hw hrc hrs ⟨rfl, hd⟩ hR) ⟨ph_B_blind D cy b A fl h _, by rw [← hq]; exact va_recv I.2.1 I.1 hc (ph_w_get e1), ph_pre I⟩ rfl hn hsz hst (lv_room hW) hdg hf) I.2.2.1 (fun q _ h => h) (fun q h => h) (fun r u t H1 locs1 ht hvm hw hB hz1 hk1 hS => ?_)
  subst hw
  exact kk H1 locs1 (ph_post I ht hB hS)
theorem o_Vl (S : CallFix p m c cc nL s args Ts own) {a ci : Nat} {q : vw_C} {out : Int64 × PH} (hM : Met l y ws rm (va_Pc (.ref (b + a) :: As) (ph_B D cy b A fl h)) (va_Ql (fun (r : Int64) (u : PH) => (r, u) = out) (ph_B D cy b A fl) A) mc ms A) (hT : GoodIn Ts (wsV own index y.cls y ws)) (hw : ws = Cond.code y bytes maxL ret :: ws') (hrc : rm.cells = mc) (hrs : rm.slots = ms) (hd : Cd y n) (hR : rm.frames + 1 ≤ R.frames ∧ 8 + (maxL + 11) + rm.locals ≤ R.locals) (I : ph_I D cy b A fl h s H locs) (ho : okO h a ci = true) (hc : ph_cl[ci]? = some q) (hq : q.1 = y.cls)
    (hn : As.length = n) (hsz : ls.size = nL) (hst : st0 = As.reverse ++ .ref (b + a) :: rest) (hW : (rest.map fun v => v.category).sum ≤ 8) (hdg : decode cc pc = .ok (.invokevirtual index, 3)) (hf : cells + mc ≤ R.cells ∧ slots + ms ≤ R.slots)
    (kk : ∀ (H1 : Heap) (locs1 : List Loc), ph_I D cy b A fl out.2 s H1 locs1 → W p l e R s m args below meth c H1 locs1 (cells + mc) (slots + ms) Q (F0 m (pc + 3) ls (.long out.1 :: rest))) : W p l e R s m args below meth c H locs cells slots Q (F0 m pc ls st0) := by
  obtain ⟨fs, e1⟩ := okO_spec ho
  refine va_calll (va_runV (As := As) (rest := rest) (b := b + a) (C := y.cls) S hM (cwV n S.2.2.2.2 hT hw hrc hrs ⟨rfl, hd⟩ hR) ⟨ph_B_blind D cy b A fl h _, by rw [← hq]; exact va_recv I.2.1 I.1 hc (ph_w_get e1), ph_pre I⟩ rfl hn hsz hst (lv_room hW) hdg hf) I.2.2.1 (fun q _ h => h) (fun q h => h) (fun r u t H1 locs1 ht hvm hw hB hz1 hk1 hS => ?_)
  subst hw
  exact kk H1 locs1 (ph_post I ht hB hS)
theorem o_Vv (S : CallFix p m c cc nL s args Ts own) {a ci : Nat} {q : vw_C} {out : PH} (hM : Met l y ws rm (va_Pc (.ref (b + a) :: As) (ph_B D cy b A fl h)) (va_Qv (fun (u : PH) => u = out) (ph_B D cy b A fl) A) mc ms A) (hT : GoodIn Ts (wsV own index y.cls y ws)) (hw : ws = Cond.code y bytes maxL ret :: ws') (hrc : rm.cells = mc) (hrs : rm.slots = ms) (hd : Cd y n) (hR : rm.frames + 1 ≤ R.frames ∧ 8 + (maxL + 11) + rm.locals ≤ R.locals) (I : ph_I D cy b A fl h s H locs) (ho : okO h a ci = true) (hc : ph_cl[ci]? = some q) (hq : q.1 = y.cls)
    (hn : As.length = n) (hsz : ls.size = nL) (hst : st0 = As.reverse ++ .ref (b + a) :: rest) (hW : (rest.map fun v => v.category).sum ≤ 8) (hdg : decode cc pc = .ok (.invokevirtual index, 3)) (hf : cells + mc ≤ R.cells ∧ slots + ms ≤ R.slots)
    (kk : ∀ (H1 : Heap) (locs1 : List Loc), ph_I D cy b A fl out s H1 locs1 → W p l e R s m args below meth c H1 locs1 (cells + mc) (slots + ms) Q (F0 m (pc + 3) ls rest)) : W p l e R s m args below meth c H locs cells slots Q (F0 m pc ls st0) := by
  obtain ⟨fs, e1⟩ := okO_spec ho
  refine va_callv (va_runV (As := As) (rest := rest) (b := b + a) (C := y.cls) S hM (cwV n S.2.2.2.2 hT hw hrc hrs ⟨rfl, hd⟩ hR) ⟨ph_B_blind D cy b A fl h _, by rw [← hq]; exact va_recv I.2.1 I.1 hc (ph_w_get e1), ph_pre I⟩ rfl hn hsz hst (lv_room hW) hdg hf) I.2.2.1 (fun q _ h => h) (fun q h => h) (fun u t H1 locs1 ht hvm hw hB hz1 hk1 hS => ?_)
  subst hw
  exact kk H1 locs1 (ph_post I ht hB hS)
theorem o_Si (S : CallFix p m c cc nL s args Ts own) {out : Int32 × PH} (hM : Met l y ws rm (va_Pc As (ph_B D cy b A fl h)) (va_Qi (fun (r : Int32) (u : PH) => (r, u) = out) (ph_B D cy b A fl) A) mc ms A) (hT : GoodIn Ts (va_wsS own index y ws)) (hw : ws = Cond.code y bytes maxL ret :: ws') (hrc : rm.cells = mc) (hrs : rm.slots = ms) (hd : Cd y n) (hR : rm.frames + 1 ≤ R.frames ∧ 8 + (maxL + 11) + rm.locals ≤ R.locals) (I : ph_I D cy b A fl h s H locs)
    (hn : As.length = n) (hsz : ls.size = nL) (hst : st0 = As.reverse ++ rest) (hW : (rest.map fun v => v.category).sum ≤ 8) (hdg : decode cc pc = .ok (.invokestatic index, 3)) (hf : cells + mc ≤ R.cells ∧ slots + ms ≤ R.slots)
    (kk : ∀ (H1 : Heap) (locs1 : List Loc), ph_I D cy b A fl out.2 s H1 locs1 → W p l e R s m args below meth c H1 locs1 (cells + mc) (slots + ms) Q (F0 m (pc + 3) ls (.int out.1 :: rest))) : W p l e R s m args below meth c H locs cells slots Q (F0 m pc ls st0) := by
  refine va_calli (va_runS (As := As) (rest := rest) S hM (va_cwS n S.2.2.2.2 hT hw hrc hrs hd hR) ⟨ph_B_blind D cy b A fl h _, ph_pre I⟩ rfl hn hsz hst (lv_room hW) hdg hf) I.2.2.1 (fun q _ h => h) (fun q h => h) (fun r u t H1 locs1 ht hvm hw hB hz1 hk1 hS => ?_)
  subst hw
  exact kk H1 locs1 (ph_post I ht hB hS)
theorem o_Sl (S : CallFix p m c cc nL s args Ts own) {out : Int64 × PH} (hM : Met l y ws rm (va_Pc As (ph_B D cy b A fl h)) (va_Ql (fun (r : Int64) (u : PH) => (r, u) = out) (ph_B D cy b A fl) A) mc ms A) (hT : GoodIn Ts (va_wsS own index y ws)) (hw : ws = Cond.code y bytes maxL ret :: ws') (hrc : rm.cells = mc) (hrs : rm.slots = ms) (hd : Cd y n) (hR : rm.frames + 1 ≤ R.frames ∧ 8 + (maxL + 11) + rm.locals ≤ R.locals) (I : ph_I D cy b A fl h s H locs)
    (hn : As.length = n) (hsz : ls.size = nL) (hst : st0 = As.reverse ++ rest) (hW : (rest.map fun v => v.category).sum ≤ 8) (hdg : decode cc pc = .ok (.invokestatic index, 3)) (hf : cells + mc ≤ R.cells ∧ slots + ms ≤ R.slots)
    (kk : ∀ (H1 : Heap) (locs1 : List Loc), ph_I D cy b A fl out.2 s H1 locs1 → W p l e R s m args below meth c H1 locs1 (cells + mc) (slots + ms) Q (F0 m (pc + 3) ls (.long out.1 :: rest))) : W p l e R s m args below meth c H locs cells slots Q (F0 m pc ls st0) := by
  refine va_calll (va_runS (As := As) (rest := rest) S hM (va_cwS n S.2.2.2.2 hT hw hrc hrs hd hR) ⟨ph_B_blind D cy b A fl h _, ph_pre I⟩ rfl hn hsz hst (lv_room hW) hdg hf) I.2.2.1 (fun q _ h => h) (fun q h => h) (fun r u t H1 locs1 ht hvm hw hB hz1 hk1 hS => ?_)
  subst hw
  exact kk H1 locs1 (ph_post I ht hB hS)
theorem o_Sv (S : CallFix p m c cc nL s args Ts own) {out : PH} (hM : Met l y ws rm (va_Pc As (ph_B D cy b A fl h)) (va_Qv (fun (u : PH) => u = out) (ph_B D cy b A fl) A) mc ms A) (hT : GoodIn Ts (va_wsS own index y ws)) (hw : ws = Cond.code y bytes maxL ret :: ws') (hrc : rm.cells = mc) (hrs : rm.slots = ms) (hd : Cd y n) (hR : rm.frames + 1 ≤ R.frames ∧ 8 + (maxL + 11) + rm.locals ≤ R.locals) (I : ph_I D cy b A fl h s H locs)
    (hn : As.length = n) (hsz : ls.size = nL) (hst : st0 = As.reverse ++ rest) (hW : (rest.map fun v => v.category).sum ≤ 8) (hdg : decode cc pc = .ok (.invokestatic index, 3)) (hf : cells + mc ≤ R.cells ∧ slots + ms ≤ R.slots)
    (kk : ∀ (H1 : Heap) (locs1 : List Loc), ph_I D cy b A fl out s H1 locs1 → W p l e R s m args below meth c H1 locs1 (cells + mc) (slots + ms) Q (F0 m (pc + 3) ls rest)) : W p l e R s m args below meth c H locs cells slots Q (F0 m pc ls st0) := by
  refine va_callv (va_runS (As := As) (rest := rest) S hM (va_cwS n S.2.2.2.2 hT hw hrc hrs hd hR) ⟨ph_B_blind D cy b A fl h _, ph_pre I⟩ rfl hn hsz hst (lv_room hW) hdg hf) I.2.2.1 (fun q _ h => h) (fun q h => h) (fun u t H1 locs1 ht hvm hw hB hz1 hk1 hS => ?_)
  subst hw
  exact kk H1 locs1 (ph_post I ht hB hS)
theorem o_Iv (S : CallFix p m c cc nL s args Ts own) {a : Nat} {out : PH} (hM : Met l y ws rm (va_Pc (.ref (b + a) :: As) (ph_B D cy b A fl h)) (va_Qv (fun (u : PH) => u = out) (ph_B D cy b A fl) A) mc ms A) (hT : GoodIn Ts ws) (hil : Il Ts own index y) (hyn : y.name = "<init>") (hw : ws = Cond.code y bytes maxL none :: ws') (hrc : rm.cells = mc) (hrs : rm.slots = ms) (hd : Cd y n) (hR : rm.frames + 1 ≤ R.frames ∧ 8 + (maxL + 11) + rm.locals ≤ R.locals) (I : ph_I D cy b A fl h s H locs)
    (hn : As.length = n) (hsz : ls.size = nL) (hst : st0 = As.reverse ++ .ref (b + a) :: rest) (hW : (rest.map fun v => v.category).sum ≤ 8) (hdg : decode cc pc = .ok (.invokespecial index, 3)) (hf : cells + mc ≤ R.cells ∧ slots + ms ≤ R.slots)
    (kk : ∀ (H1 : Heap) (locs1 : List Loc), ph_I D cy b A fl out s H1 locs1 → W p l e R s m args below meth c H1 locs1 (cells + mc) (slots + ms) Q (F0 m (pc + 3) ls rest)) : W p l e R s m args below meth c H locs cells slots Q (F0 m pc ls st0) := by
  refine va_callv (va_runI (As := As) (rest := rest) (b := b + a) S hM (cwI n S.2.2.2.2 hT hw hrc hrs (S.2.2.2.2 _ hil.1) (S.2.2.2.2 _ hil.2.1) (S.2.2.2.2 _ hil.2.2) hyn hd hR) ⟨ph_B_blind D cy b A fl h _, ph_pre I⟩ rfl hn hsz hst (lv_room hW) hdg hf) I.2.2.1 (fun q _ h => h) (fun q h => h) (fun u t H1 locs1 ht hvm hw hB hz1 hk1 hS => ?_)
  subst hw
  exact kk H1 locs1 (ph_post I ht hB hS)
theorem ph_end (I : ph_I D cy b A fl h s H locs) {t : State} (ht : t.heap = H) (hW : s.WarmedH t.vm) : ph_B D cy b A fl h t := ⟨by rw [ht]; exact I.1, va_K.moved hW.alike I.2.1, I.2.2.2.1, (fun q => by rw [ht]; exact I.2.2.2.2.1 q), ph_X_move I.2.2.2.2.2 I.2.2.1 ht hW⟩
theorem o_iret (S : CallFix p m c cc nL s args Ts own) (hr : meth.sig.returnType = some .int) (hlo : meth.locks = false) (I : ph_I D cy b A fl h s H locs) {v : Int32} {out : Int32 × PH} (f : some (v, h) = some out) (hdg : decode cc pc = .ok (.ireturn, 1)) : W p l e R s m args below meth c H locs cells slots (MQ below (va_Qi (fun (r : Int32) (u : PH) => (r, u) = out) (ph_B D cy b A fl) A) args s cells slots A) (F0 m pc ls [.int v]) :=
  W.iret S.1 S.2.1 hr (fun t ht hW => ⟨⟨v, h, rfl, Option.some.inj f, ph_end I ht hW⟩, I.2.2.1.F ht⟩) I.2.2.1.2.2 hdg hlo
theorem o_zret (S : CallFix p m c cc nL s args Ts own) (hr : meth.sig.returnType = some .boolean) (hlo : meth.locks = false) (I : ph_I D cy b A fl h s H locs) {v : Int32} {out : Int32 × PH} (f : rz v h = some out) (hdg : decode cc pc = .ok (.ireturn, 1)) : W p l e R s m args below meth c H locs cells slots (MQ below (va_Qi (fun (r : Int32) (u : PH) => (r, u) = out) (ph_B D cy b A fl) A) args s cells slots A) (F0 m pc ls [.int v]) := by
  unfold rz at f
  split at f
  · rename_i hv
    have hn : narrow .boolean (.int v) = .int v := by rcases hv with rfl | rfl <;> rfl
    exact W.zret S.1 S.2.1 hr hn (fun t ht hW => ⟨⟨v, h, rfl, Option.some.inj f, ph_end I ht hW⟩, I.2.2.1.F ht⟩) I.2.2.1.2.2 hdg hlo
  · cases f
theorem o_lret (S : CallFix p m c cc nL s args Ts own) (hr : meth.sig.returnType = some .long) (hlo : meth.locks = false) (I : ph_I D cy b A fl h s H locs) {v : Int64} {out : Int64 × PH} (f : some (v, h) = some out) (hdg : decode cc pc = .ok (.lreturn, 1)) : W p l e R s m args below meth c H locs cells slots (MQ below (va_Ql (fun (r : Int64) (u : PH) => (r, u) = out) (ph_B D cy b A fl) A) args s cells slots A) (F0 m pc ls [.long v]) :=
  W.lret S.1 S.2.1 hr (fun t ht hW => ⟨⟨v, h, rfl, Option.some.inj f, ph_end I ht hW⟩, I.2.2.1.F ht⟩) I.2.2.1.2.2 hdg hlo
theorem o_vret (S : CallFix p m c cc nL s args Ts own) (hr : meth.sig.returnType = none) (hlo : meth.locks = false) (I : ph_I D cy b A fl h s H locs) {out : PH} (f : some h = some out) (hdg : decode cc pc = .ok (.return_, 1)) : W p l e R s m args below meth c H locs cells slots (MQ below (va_Qv (fun (u : PH) => u = out) (ph_B D cy b A fl) A) args s cells slots A) (F0 m pc ls []) :=
  W.vret S.1 S.2.1 hr (fun t ht hW => ⟨⟨h, rfl, Option.some.inj f, ph_end I ht hW⟩, I.2.2.1.F ht⟩) I.2.2.1.2.2 hdg hlo
theorem o_objI (S : CallFix p m c cc nL s args Ts own) (w1 : Cond.methodLink own index objectInit ∈ Ts) (w2 : Cond.instanceMethod objectInit ∈ Ts) (w3 : Cond.code objectInit ⟨#[0xb1]⟩ 1 none ∈ Ts) (hsz : ls.size = nL) {a : Nat} (hdg : decode cc pc = .ok (.invokespecial index, 3)) (hframes : 1 ≤ R.frames) (hlocals : (rest.map fun v => v.category).sum + 12 ≤ R.locals)
    (kk : W p l e R s m args below meth c H locs cells slots Q (F0 m (pc + 3) ls rest)) : W p l e R s m args below meth c H locs cells slots Q (F0 m pc ls (.ref a :: rest)) := by
  refine W.objInit S.1 S.2.1 S.2.2.2.1 (S.2.2.2.2 _ w1) (S.2.2.2.2 _ w2) (S.2.2.2.2 _ w3) rfl (by rw [S.2.2.1]; exact hsz) rfl hdg hframes ?_ kk
  have : 2 * (F0 m pc ls (.ref a :: rest)).monitorRoom = 0 := rfl
  omega
theorem o_gws (S : CallFix p m c cc nL s args Ts RX0) (I : ph_I D cy b A fl h s H locs) (hdg : decode cc pc = .ok (.getstatic 84, 3))
    (kk : ∀ t : Nat, va_T .int t 5 (fun j => .int (ph_gw j)) A s s.heap → W p l e R s m args below meth c H locs cells slots Q (F0 m (pc + 3) ls (.ref t :: rest))) : W p l e R s m args below meth c H locs cells slots Q (F0 m pc ls rest) := by
  obtain ⟨t, z1, z2⟩ := I.2.2.2.2.2.2.1
  have z3 := I.2.2.2.2.2.2.2.2.2.2.2.2.2.2
  exact va_getsN S.1 S.2.1 z1 I.2.2.1 S.2.2.2.1 (va_tabs rfl rfl z3) (fun _ h => h) hdg (kk t z2)
theorem o_gwald (S : CallFix p m c cc nL s args Ts own) (I : ph_I D cy b A fl h s H locs) {t : Nat} (hT : va_T .int t 5 (fun j => .int (ph_gw j)) A s s.heap) {i v : Int32} (g : gwA i = some v) (hdg : decode cc pc = .ok (.iaload, 1))
    (kk : W p l e R s m args below meth c H locs cells slots Q (F0 m (pc + 1) ls (.int v :: rest))) : W p l e R s m args below meth c H locs cells slots Q (F0 m pc ls (.int i :: .ref t :: rest)) := by
  unfold gwA at g
  split at g
  · cases g
  · rename_i hi
    obtain ⟨cell, h1, h2, h3, h4, h5, h6, h7⟩ := hT.kept I.2.2.1.2.1
    have hlt : i.toNatClampNeg < 5 := Nat.not_le.mp fun q => hi (Or.inr q)
    have e9 := Option.some.inj g
    subst e9
    exact W.iald (v := .int (ph_gw i.toNatClampNeg)) S.1 S.2.1 h1 h2 h3 (fun q => q.elim (fun q => hi (Or.inl q)) (fun q => by omega)) (h6 _ hlt) rfl rfl hdg kk
theorem o_Vq (S : CallFix p m c cc nL s args Ts own) {a ci : Nat} {q : vw_C} {out : Option Nat × PH} (hM : Met l y ws rm (va_Pc (.ref (b + a) :: As) (ph_B D cy b A fl h)) (va_Qq (fun (r : Option Nat) (u : PH) => (r, u) = (out.1.map (fun x => b + x), out.2)) (ph_B D cy b A fl) A) mc ms A) (hT : GoodIn Ts (wsV own index y.cls y ws)) (hw : ws = Cond.code y bytes maxL ret :: ws') (hrc : rm.cells = mc) (hrs : rm.slots = ms) (hd : Cd y n) (hR : rm.frames + 1 ≤ R.frames ∧ 8 + (maxL + 11) + rm.locals ≤ R.locals) (I : ph_I D cy b A fl h s H locs) (ho : okO h a ci = true) (hc : ph_cl[ci]? = some q) (hq : q.1 = y.cls)
    (hn : As.length = n) (hsz : ls.size = nL) (hst : st0 = As.reverse ++ .ref (b + a) :: rest) (hW : (rest.map fun v => v.category).sum ≤ 8) (hdg : decode cc pc = .ok (.invokevirtual index, 3)) (hf : cells + mc ≤ R.cells ∧ slots + ms ≤ R.slots)
    (kn : out.1 = none → ∀ (H1 : Heap) (locs1 : List Loc), ph_I D cy b A fl out.2 s H1 locs1 → W p l e R s m args below meth c H1 locs1 (cells + mc) (slots + ms) Q (F0 m (pc + 3) ls (.null :: rest)))
    (kk : ∀ r : Nat, out.1 = some r → ∀ (H1 : Heap) (locs1 : List Loc), ph_I D cy b A fl out.2 s H1 locs1 → W p l e R s m args below meth c H1 locs1 (cells + mc) (slots + ms) Q (F0 m (pc + 3) ls (.ref (b + r) :: rest))) : W p l e R s m args below meth c H locs cells slots Q (F0 m pc ls st0) := by
  obtain ⟨fs, e1⟩ := okO_spec ho
  refine va_callq (va_runV (As := As) (rest := rest) (b := b + a) (C := y.cls) S hM (cwV n S.2.2.2.2 hT hw hrc hrs ⟨rfl, hd⟩ hR) ⟨ph_B_blind D cy b A fl h _, by rw [← hq]; exact va_recv I.2.1 I.1 hc (ph_w_get e1), ph_pre I⟩ rfl hn hsz hst (lv_room hW) hdg hf) I.2.2.1 (fun q _ h => h) (fun q h => h) (fun r u t H1 locs1 ht hvm hw hB hz1 hk1 hS => ?_)
  obtain ⟨o1, o2⟩ := out
  cases hw
  cases o1 with
  | none => exact kn rfl H1 locs1 (ph_post I ht hB hS)
  | some r => exact kk r rfl H1 locs1 (ph_post I ht hB hS)
theorem o_aret (S : CallFix p m c cc nL s args Ts own) {rt : FieldType} (hr : meth.sig.returnType = some rt) (hrt : (∃ n, rt = .object n) ∨ ∃ t, rt = .array t) (hlo : meth.locks = false) (I : ph_I D cy b A fl h s H locs) {r : Nat} {out : Option Nat × PH} (f : some (some r, h) = some out) (hdg : decode cc pc = .ok (.areturn, 1)) : W p l e R s m args below meth c H locs cells slots (MQ below (va_Qq (fun (r : Option Nat) (u : PH) => (r, u) = (out.1.map (fun x => b + x), out.2)) (ph_B D cy b A fl) A) args s cells slots A) (F0 m pc ls [.ref (b + r)]) := by
  cases f
  exact W.aret S.1 S.2.1 hr hrt (Or.inr ⟨_, rfl⟩) (fun t ht hW => ⟨⟨some (b + r), h, rfl, rfl, ph_end I ht hW⟩, I.2.2.1.F ht⟩) I.2.2.1.2.2 hdg hlo
theorem o_aretN (S : CallFix p m c cc nL s args Ts own) {rt : FieldType} (hr : meth.sig.returnType = some rt) (hrt : (∃ n, rt = .object n) ∨ ∃ t, rt = .array t) (hlo : meth.locks = false) (I : ph_I D cy b A fl h s H locs) {out : Option Nat × PH} (f : some (none, h) = some out) (hdg : decode cc pc = .ok (.areturn, 1)) : W p l e R s m args below meth c H locs cells slots (MQ below (va_Qq (fun (r : Option Nat) (u : PH) => (r, u) = (out.1.map (fun x => b + x), out.2)) (ph_B D cy b A fl) A) args s cells slots A) (F0 m pc ls [.null]) := by
  cases f
  exact W.aret S.1 S.2.1 hr hrt (Or.inl rfl) (fun t ht hW => ⟨⟨none, h, rfl, rfl, ph_end I ht hW⟩, I.2.2.1.F ht⟩) I.2.2.1.2.2 hdg hlo
end OC
/-! Classes by their numbers; blank objects; a method from its walk. -/
theorem clX0 : ph_cl[0]? = some (RX0, TX0, 13) := rfl
theorem zF0_ok : ∀ b j, j < 13 → defaultValue (tyX0 j) = vp_V (zF0.map (ph_v b)) j := by
  intro b j hj
  match j, hj with
  | 0, _ => rfl
  | 1, _ => rfl
  | 2, _ => rfl
  | 3, _ => rfl
  | 4, _ => rfl
  | 5, _ => rfl
  | 6, _ => rfl
  | 7, _ => rfl
  | 8, _ => rfl
  | 9, _ => rfl
  | 10, _ => rfl
  | 11, _ => rfl
  | 12, _ => rfl
  | k + 13, h => exact absurd h (by omega)
theorem clX1 : ph_cl[1]? = some (RX1, TX1, 7) := rfl
theorem zF1_ok : ∀ b j, j < 7 → defaultValue (tyX1 j) = vp_V (zF1.map (ph_v b)) j := by
  intro b j hj
  match j, hj with
  | 0, _ => rfl
  | 1, _ => rfl
  | 2, _ => rfl
  | 3, _ => rfl
  | 4, _ => rfl
  | 5, _ => rfl
  | 6, _ => rfl
  | k + 7, h => exact absurd h (by omega)
theorem clX2 : ph_cl[2]? = some (RX2, TX2, 3) := rfl
theorem zF2_ok : ∀ b j, j < 3 → defaultValue (tyX2 j) = vp_V (zF2.map (ph_v b)) j := by
  intro b j hj
  match j, hj with
  | 0, _ => rfl
  | 1, _ => rfl
  | 2, _ => rfl
  | k + 3, h => exact absurd h (by omega)
theorem clX3 : ph_cl[3]? = some (RX3, TX3, 7) := rfl
theorem zF3_ok : ∀ b j, j < 7 → defaultValue (tyX3 j) = vp_V (zF3.map (ph_v b)) j := by
  intro b j hj
  match j, hj with
  | 0, _ => rfl
  | 1, _ => rfl
  | 2, _ => rfl
  | 3, _ => rfl
  | 4, _ => rfl
  | 5, _ => rfl
  | 6, _ => rfl
  | k + 7, h => exact absurd h (by omega)
theorem clX4 : ph_cl[4]? = some (RX4, TX4, 11) := rfl
theorem zF4_ok : ∀ b j, j < 11 → defaultValue (tyX4 j) = vp_V (zF4.map (ph_v b)) j := by
  intro b j hj
  match j, hj with
  | 0, _ => rfl
  | 1, _ => rfl
  | 2, _ => rfl
  | 3, _ => rfl
  | 4, _ => rfl
  | 5, _ => rfl
  | 6, _ => rfl
  | 7, _ => rfl
  | 8, _ => rfl
  | 9, _ => rfl
  | 10, _ => rfl
  | k + 11, h => exact absurd h (by omega)
theorem clX5 : ph_cl[5]? = some (RX5, TX5, 11) := rfl
theorem zF5_ok : ∀ b j, j < 11 → defaultValue (tyX5 j) = vp_V (zF5.map (ph_v b)) j := by
  intro b j hj
  match j, hj with
  | 0, _ => rfl
  | 1, _ => rfl
  | 2, _ => rfl
  | 3, _ => rfl
  | 4, _ => rfl
  | 5, _ => rfl
  | 6, _ => rfl
  | 7, _ => rfl
  | 8, _ => rfl
  | 9, _ => rfl
  | 10, _ => rfl
  | k + 11, h => exact absurd h (by omega)
theorem clX6 : ph_cl[6]? = some (RX6, TX6, 9) := rfl
theorem zF6_ok : ∀ b j, j < 9 → defaultValue (tyX6 j) = vp_V (zF6.map (ph_v b)) j := by
  intro b j hj
  match j, hj with
  | 0, _ => rfl
  | 1, _ => rfl
  | 2, _ => rfl
  | 3, _ => rfl
  | 4, _ => rfl
  | 5, _ => rfl
  | 6, _ => rfl
  | 7, _ => rfl
  | 8, _ => rfl
  | k + 9, h => exact absurd h (by omega)
theorem clX7 : ph_cl[7]? = some (RX7, TX7, 7) := rfl
theorem zF7_ok : ∀ b j, j < 7 → defaultValue (tyX7 j) = vp_V (zF7.map (ph_v b)) j := by
  intro b j hj
  match j, hj with
  | 0, _ => rfl
  | 1, _ => rfl
  | 2, _ => rfl
  | 3, _ => rfl
  | 4, _ => rfl
  | 5, _ => rfl
  | 6, _ => rfl
  | k + 7, h => exact absurd h (by omega)
theorem clX8 : ph_cl[8]? = some (RX8, TX8, 14) := rfl
theorem zF8_ok : ∀ b j, j < 14 → defaultValue (tyX8 j) = vp_V (zF8.map (ph_v b)) j := by
  intro b j hj
  match j, hj with
  | 0, _ => rfl
  | 1, _ => rfl
  | 2, _ => rfl
  | 3, _ => rfl
  | 4, _ => rfl
  | 5, _ => rfl
  | 6, _ => rfl
  | 7, _ => rfl
  | 8, _ => rfl
  | 9, _ => rfl
  | 10, _ => rfl
  | 11, _ => rfl
  | 12, _ => rfl
  | 13, _ => rfl
  | k + 14, h => exact absurd h (by omega)
theorem clX9 : ph_cl[9]? = some (RX9, TX9, 3) := rfl
theorem zF9_ok : ∀ b j, j < 3 → defaultValue (tyX9 j) = vp_V (zF9.map (ph_v b)) j := by
  intro b j hj
  match j, hj with
  | 0, _ => rfl
  | 1, _ => rfl
  | 2, _ => rfl
  | k + 3, h => exact absurd h (by omega)
theorem clX10 : ph_cl[10]? = some (RX10, TX10, 8) := rfl
theorem zF10_ok : ∀ b j, j < 8 → defaultValue (tyX10 j) = vp_V (zF10.map (ph_v b)) j := by
  intro b j hj
  match j, hj with
  | 0, _ => rfl
  | 1, _ => rfl
  | 2, _ => rfl
  | 3, _ => rfl
  | 4, _ => rfl
  | 5, _ => rfl
  | 6, _ => rfl
  | 7, _ => rfl
  | k + 8, h => exact absurd h (by omega)
theorem clX11 : ph_cl[11]? = some (RX11, TX11, 14) := rfl
theorem zF11_ok : ∀ b j, j < 14 → defaultValue (tyX11 j) = vp_V (zF11.map (ph_v b)) j := by
  intro b j hj
  match j, hj with
  | 0, _ => rfl
  | 1, _ => rfl
  | 2, _ => rfl
  | 3, _ => rfl
  | 4, _ => rfl
  | 5, _ => rfl
  | 6, _ => rfl
  | 7, _ => rfl
  | 8, _ => rfl
  | 9, _ => rfl
  | 10, _ => rfl
  | 11, _ => rfl
  | 12, _ => rfl
  | 13, _ => rfl
  | k + 14, h => exact absurd h (by omega)
theorem clX12 : ph_cl[12]? = some (RX12, TX12, 87) := rfl
theorem zF12_ok : ∀ b j, j < 87 → defaultValue (tyX12 j) = vp_V (zF12.map (ph_v b)) j := by
  intro b j hj
  match j, hj with
  | 0, _ => rfl
  | 1, _ => rfl
  | 2, _ => rfl
  | 3, _ => rfl
  | 4, _ => rfl
  | 5, _ => rfl
  | 6, _ => rfl
  | 7, _ => rfl
  | 8, _ => rfl
  | 9, _ => rfl
  | 10, _ => rfl
  | 11, _ => rfl
  | 12, _ => rfl
  | 13, _ => rfl
  | 14, _ => rfl
  | 15, _ => rfl
  | 16, _ => rfl
  | 17, _ => rfl
  | 18, _ => rfl
  | 19, _ => rfl
  | 20, _ => rfl
  | 21, _ => rfl
  | 22, _ => rfl
  | 23, _ => rfl
  | 24, _ => rfl
  | 25, _ => rfl
  | 26, _ => rfl
  | 27, _ => rfl
  | 28, _ => rfl
  | 29, _ => rfl
  | 30, _ => rfl
  | 31, _ => rfl
  | 32, _ => rfl
  | 33, _ => rfl
  | 34, _ => rfl
  | 35, _ => rfl
  | 36, _ => rfl
  | 37, _ => rfl
  | 38, _ => rfl
  | 39, _ => rfl
  | 40, _ => rfl
  | 41, _ => rfl
  | 42, _ => rfl
  | 43, _ => rfl
  | 44, _ => rfl
  | 45, _ => rfl
  | 46, _ => rfl
  | 47, _ => rfl
  | 48, _ => rfl
  | 49, _ => rfl
  | 50, _ => rfl
  | 51, _ => rfl
  | 52, _ => rfl
  | 53, _ => rfl
  | 54, _ => rfl
  | 55, _ => rfl
  | 56, _ => rfl
  | 57, _ => rfl
  | 58, _ => rfl
  | 59, _ => rfl
  | 60, _ => rfl
  | 61, _ => rfl
  | 62, _ => rfl
  | 63, _ => rfl
  | 64, _ => rfl
  | 65, _ => rfl
  | 66, _ => rfl
  | 67, _ => rfl
  | 68, _ => rfl
  | 69, _ => rfl
  | 70, _ => rfl
  | 71, _ => rfl
  | 72, _ => rfl
  | 73, _ => rfl
  | 74, _ => rfl
  | 75, _ => rfl
  | 76, _ => rfl
  | 77, _ => rfl
  | 78, _ => rfl
  | 79, _ => rfl
  | 80, _ => rfl
  | 81, _ => rfl
  | 82, _ => rfl
  | 83, _ => rfl
  | 84, _ => rfl
  | 85, _ => rfl
  | 86, _ => rfl
  | k + 87, h => exact absurd h (by omega)
set_option maxHeartbeats 4000000 in
theorem o_met {l : Launch} {y : MethodName} {ws ws' : List Cond} {rm : Room} {Qc : Array Value → State → Outcome → State → Prop} {mc ms : Nat} {A : Nat → Prop} {cc : ByteArray} {maxL : Nat} {ret : Option FieldType} {own : String} {av : List Value} {D : va_G} {cy : Nat → ClassId} {b : Nat} {fl : Bool} {h : PH}
    (hy : plainName y.cls = true) (hw : ws = Cond.code y cc maxL ret :: ws') (hlen : (lg_sl av).length ≤ maxL) (ho : y.cls = own)
    (body : ∀ (p : Program) (e : Env) (s : State) (m : MethodId) (below : List Frame) (meth : Method) (c : Code), CallFix p m c cc maxL s av.toArray ws own → meth.sig.returnType = ret → meth.locks = false → meth.name = y.name → ∀ (ls : Array Slot), lv_has ls maxL (lv_args 0 av) → ph_I D cy b A fl h s s.heap [] →
      W p l e rm s m av.toArray below meth c s.heap [] 0 0 (MQ below Qc av.toArray s mc ms A) (F0 m 0 ls [])) : Met l y ws rm (va_Pc av (ph_B D cy b A fl h)) Qc mc ms A := by
  refine Met.ofW (cc := cc) (maxL := maxL) (ret := ret) hy hw ?_
  intro p e s m args below meth c s₁ B hml hv
  obtain ⟨rfl, hP, hK, hA, hz, hX⟩ := hv
  have hts := atoms_spec (ws := ws) B.pre
  have hl := lv_entry av (n := maxL) hlen
  rw [lg_entry_eq]
  generalize (lg_sl av ++ List.replicate (maxL - (lg_sl av).length) Slot.unset).toArray = ls at hl ⊢
  exact body p e s m below meth c ⟨B.exec, B.bytes, hml, by rw [← ho]; exact findClass_of_methodNamed B.named, hts⟩ B.returns B.notSynchronized (name_of_methodNamed B.named B.method).1 ls hl ⟨hP, hK, va_S.rf, hA, hz, hX⟩
