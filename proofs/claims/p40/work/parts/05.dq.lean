/-! Decode rows out of the bytes. -/
/-- the byte at p -/
def BA (c : ByteArray) (p b : Nat) : Prop := ∃ h : p < c.size, (c[p]'h).toNat = b
def BS (c : ByteArray) : Nat → List Nat → Prop
  | _, [] => True
  | p, b :: r => BA c p b ∧ BS c (p + 1) r
theorem u1_ok {c : ByteArray} {p b : Nat} (h : BA c p b) : (Reader.u1 : Decoder Nat) c p = .ok (b, p + 1) := by
  obtain ⟨h1, rfl⟩ := h
  unfold Reader.u1
  show (dite (p < c.size) _ _ : Decoder Nat) c p = _
  rw [dif_pos h1]
  rfl
theorem rd_b {α β : Type} {r : Decoder α} {G : α → Decoder β} {c : ByteArray} {p q : Nat} {x : α} (h : r c p = .ok (x, q)) : (r >>= G) c p = G x c q := by
  show Except.bind (r c p) (fun y => G y.1 c y.2) = _
  rw [h]
  rfl
theorem u2_ok {c : ByteArray} {p a b : Nat} (h : BA c p a) (h2 : BA c (p + 1) b) : (Reader.u2 : Decoder Nat) c p = .ok (a * 256 + b, p + 1 + 1) := by
  unfold Reader.u2
  rw [rd_b (u1_ok h), rd_b (u1_ok h2)]
  rfl
theorem s1_ok {c : ByteArray} {p b : Nat} (h : BA c p b) : (Reader.s1 : Decoder Int) c p = .ok (Reader.signed 8 b, p + 1) := by
  show Except.bind ((Reader.u1 : Decoder Nat) c p) (fun y => .ok (Reader.signed 8 y.1, y.2)) = _
  rw [u1_ok h]
  rfl
theorem s2_ok {c : ByteArray} {p a b : Nat} (h : BA c p a) (h2 : BA c (p + 1) b) : (Reader.s2 : Decoder Int) c p = .ok (Reader.signed 16 (a * 256 + b), p + 1 + 1) := by
  show Except.bind ((Reader.u2 : Decoder Nat) c p) (fun y => .ok (Reader.signed 16 y.1, y.2)) = _
  rw [u2_ok h h2]
  rfl
theorem dec_of {c : ByteArray} {pc op nx n : Nat} {i : Instr} {K : Nat → Decoder Instr} (e1 : Decoder.instr pc = (Reader.u1 >>= K)) (h : BA c pc op) (e2 : K op c (pc + 1) = .ok (i, nx)) (hn : nx - pc = n) : decode c pc = .ok (i, n) := by
  have e3 : (Decoder.instr pc) c pc = .ok (i, nx) := by
    rw [e1, rd_b (u1_ok h)]
    exact e2
  subst hn
  show Except.bind ((Decoder.instr pc) c pc) (fun x => .ok (x.1, x.2 - pc)) = _
  rw [e3]
  rfl
def pr : List UInt8 → List Nat → Bool
  | _, [] => true
  | [], _ :: _ => false
  | x :: t, b :: r => Nat.beq x.toNat b && pr t r
def sg : List UInt8 → List (List Nat) → Bool
  | _, [] => true
  | l, s :: r => pr l s && sg (l.drop s.length) r
def off : List (List Nat) → Nat → Nat
  | _, 0 => 0
  | [], _ + 1 => 0
  | s :: r, k + 1 => s.length + off r k
theorem pr_BS {c : ByteArray} : ∀ (s : List Nat) (p : Nat), pr (c.data.toList.drop p) s = true → BS c p s := by
  intro s
  induction s with
  | nil => intro p _; trivial
  | cons b r ih =>
    intro p h
    have hp : p < c.data.toList.length := by
      apply Nat.lt_of_not_le
      intro z
      rw [List.drop_eq_nil_of_le z] at h
      exact Bool.false_ne_true h
    rw [List.drop_eq_getElem_cons hp] at h
    have h2 : Nat.beq (c.data.toList[p]).toNat b = true ∧ pr (c.data.toList.drop (p + 1)) r = true := by
      have h3 : (Nat.beq (c.data.toList[p]).toNat b && pr (c.data.toList.drop (p + 1)) r) = true := h
      rw [Bool.and_eq_true] at h3
      exact h3
    exact ⟨⟨hp, Nat.eq_of_beq_eq_true h2.1⟩, ih (p + 1) h2.2⟩
theorem sg_at {c : ByteArray} : ∀ {L : List (List Nat)} {p : Nat}, sg (c.data.toList.drop p) L = true → ∀ (k : Nat) {s : List Nat} {q : Nat}, L[k]? = some s → p + off L k = q → BS c q s := by
  intro L
  induction L with
  | nil => intro p _ k s q e; simp at e
  | cons a r ih =>
    intro p h k s q e1 e2
    have h2 : pr (c.data.toList.drop p) a = true ∧ sg ((c.data.toList.drop p).drop a.length) r = true := by
      have h3 : (pr (c.data.toList.drop p) a && sg ((c.data.toList.drop p).drop a.length) r) = true := h
      rw [Bool.and_eq_true] at h3
      exact h3
    cases k with
    | zero =>
      have e3 : a = s := Option.some.inj e1
      have e4 : p = q := e2
      subst e3 e4
      exact pr_BS a p h2.1
    | succ k =>
      rw [List.drop_drop] at h2
      have e4 : p + (a.length + off r k) = q := e2
      exact ih h2.2 k e1 (by omega)
set_option maxRecDepth 100000 in
theorem dc_1 {c : ByteArray} {pc : Nat} (h : BS c pc [1]) : decode c pc = .ok (.aconst_null, 1) := by
  obtain ⟨K, e1, e2⟩ : ∃ K : Nat → Decoder Instr, Decoder.instr pc = (Reader.u1 >>= K) ∧ K 1 = (Pure.pure (Instr.aconst_null) : Decoder Instr) := ⟨_, rfl, rfl⟩
  exact dec_of e1 h.1 (by rw [e2]; rfl) (by omega)
set_option maxRecDepth 100000 in
theorem dc_2 {c : ByteArray} {pc : Nat} (h : BS c pc [2]) : decode c pc = .ok (.iconst (-1), 1) := by
  obtain ⟨K, e1, e2⟩ : ∃ K : Nat → Decoder Instr, Decoder.instr pc = (Reader.u1 >>= K) ∧ K 2 = (Pure.pure (Instr.iconst (-1)) : Decoder Instr) := ⟨_, rfl, rfl⟩
  exact dec_of e1 h.1 (by rw [e2]; rfl) (by omega)
set_option maxRecDepth 100000 in
theorem dc_3 {c : ByteArray} {pc : Nat} (h : BS c pc [3]) : decode c pc = .ok (.iconst 0, 1) := by
  obtain ⟨K, e1, e2⟩ : ∃ K : Nat → Decoder Instr, Decoder.instr pc = (Reader.u1 >>= K) ∧ K 3 = (Pure.pure (Instr.iconst 0) : Decoder Instr) := ⟨_, rfl, rfl⟩
  exact dec_of e1 h.1 (by rw [e2]; rfl) (by omega)
set_option maxRecDepth 100000 in
theorem dc_4 {c : ByteArray} {pc : Nat} (h : BS c pc [4]) : decode c pc = .ok (.iconst 1, 1) := by
  obtain ⟨K, e1, e2⟩ : ∃ K : Nat → Decoder Instr, Decoder.instr pc = (Reader.u1 >>= K) ∧ K 4 = (Pure.pure (Instr.iconst 1) : Decoder Instr) := ⟨_, rfl, rfl⟩
  exact dec_of e1 h.1 (by rw [e2]; rfl) (by omega)
set_option maxRecDepth 100000 in
theorem dc_5 {c : ByteArray} {pc : Nat} (h : BS c pc [5]) : decode c pc = .ok (.iconst 2, 1) := by
  obtain ⟨K, e1, e2⟩ : ∃ K : Nat → Decoder Instr, Decoder.instr pc = (Reader.u1 >>= K) ∧ K 5 = (Pure.pure (Instr.iconst 2) : Decoder Instr) := ⟨_, rfl, rfl⟩
  exact dec_of e1 h.1 (by rw [e2]; rfl) (by omega)
set_option maxRecDepth 100000 in
theorem dc_6 {c : ByteArray} {pc : Nat} (h : BS c pc [6]) : decode c pc = .ok (.iconst 3, 1) := by
  obtain ⟨K, e1, e2⟩ : ∃ K : Nat → Decoder Instr, Decoder.instr pc = (Reader.u1 >>= K) ∧ K 6 = (Pure.pure (Instr.iconst 3) : Decoder Instr) := ⟨_, rfl, rfl⟩
  exact dec_of e1 h.1 (by rw [e2]; rfl) (by omega)
set_option maxRecDepth 100000 in
theorem dc_7 {c : ByteArray} {pc : Nat} (h : BS c pc [7]) : decode c pc = .ok (.iconst 4, 1) := by
  obtain ⟨K, e1, e2⟩ : ∃ K : Nat → Decoder Instr, Decoder.instr pc = (Reader.u1 >>= K) ∧ K 7 = (Pure.pure (Instr.iconst 4) : Decoder Instr) := ⟨_, rfl, rfl⟩
  exact dec_of e1 h.1 (by rw [e2]; rfl) (by omega)
set_option maxRecDepth 100000 in
theorem dc_8 {c : ByteArray} {pc : Nat} (h : BS c pc [8]) : decode c pc = .ok (.iconst 5, 1) := by
  obtain ⟨K, e1, e2⟩ : ∃ K : Nat → Decoder Instr, Decoder.instr pc = (Reader.u1 >>= K) ∧ K 8 = (Pure.pure (Instr.iconst 5) : Decoder Instr) := ⟨_, rfl, rfl⟩
  exact dec_of e1 h.1 (by rw [e2]; rfl) (by omega)
set_option maxRecDepth 100000 in
theorem dc_9 {c : ByteArray} {pc : Nat} (h : BS c pc [9]) : decode c pc = .ok (.lconst 0, 1) := by
  obtain ⟨K, e1, e2⟩ : ∃ K : Nat → Decoder Instr, Decoder.instr pc = (Reader.u1 >>= K) ∧ K 9 = (Pure.pure (Instr.lconst 0) : Decoder Instr) := ⟨_, rfl, rfl⟩
  exact dec_of e1 h.1 (by rw [e2]; rfl) (by omega)
set_option maxRecDepth 100000 in
theorem dc_10 {c : ByteArray} {pc : Nat} (h : BS c pc [10]) : decode c pc = .ok (.lconst 1, 1) := by
  obtain ⟨K, e1, e2⟩ : ∃ K : Nat → Decoder Instr, Decoder.instr pc = (Reader.u1 >>= K) ∧ K 10 = (Pure.pure (Instr.lconst 1) : Decoder Instr) := ⟨_, rfl, rfl⟩
  exact dec_of e1 h.1 (by rw [e2]; rfl) (by omega)
set_option maxRecDepth 100000 in
theorem dc_16 {c : ByteArray} {pc a : Nat} {v : Int} (h : BS c pc [16, a]) (e : Reader.signed 8 a = v) : decode c pc = .ok (.bipush v, 2) := by
  subst e
  obtain ⟨K, e1, e2⟩ : ∃ K : Nat → Decoder Instr, Decoder.instr pc = (Reader.u1 >>= K) ∧ K 16 = (Reader.s1 >>= fun x => Pure.pure (Instr.bipush x)) := ⟨_, rfl, rfl⟩
  exact dec_of e1 h.1 (by rw [e2, rd_b (s1_ok h.2.1)]; rfl) (by omega)
set_option maxRecDepth 100000 in
theorem dc_17 {c : ByteArray} {pc a b : Nat} {v : Int} (h : BS c pc [17, a, b]) (e : Reader.signed 16 (a * 256 + b) = v) : decode c pc = .ok (.sipush v, 3) := by
  subst e
  obtain ⟨K, e1, e2⟩ : ∃ K : Nat → Decoder Instr, Decoder.instr pc = (Reader.u1 >>= K) ∧ K 17 = (Reader.s2 >>= fun x => Pure.pure (Instr.sipush x)) := ⟨_, rfl, rfl⟩
  exact dec_of e1 h.1 (by rw [e2, rd_b (s2_ok h.2.1 h.2.2.1)]; rfl) (by omega)
set_option maxRecDepth 100000 in
theorem dc_18 {c : ByteArray} {pc a : Nat} (h : BS c pc [18, a]) : decode c pc = .ok (.ldc a, 2) := by
  obtain ⟨K, e1, e2⟩ : ∃ K : Nat → Decoder Instr, Decoder.instr pc = (Reader.u1 >>= K) ∧ K 18 = (Reader.u1 >>= fun x => Pure.pure (Instr.ldc x)) := ⟨_, rfl, rfl⟩
  exact dec_of e1 h.1 (by rw [e2, rd_b (u1_ok h.2.1)]; rfl) (by omega)
set_option maxRecDepth 100000 in
theorem dc_20 {c : ByteArray} {pc a b v : Nat} (h : BS c pc [20, a, b]) (e : a * 256 + b = v) : decode c pc = .ok (.ldc2_w v, 3) := by
  subst e
  obtain ⟨K, e1, e2⟩ : ∃ K : Nat → Decoder Instr, Decoder.instr pc = (Reader.u1 >>= K) ∧ K 20 = (Reader.u2 >>= fun x => Pure.pure (Instr.ldc2_w x)) := ⟨_, rfl, rfl⟩
  exact dec_of e1 h.1 (by rw [e2, rd_b (u2_ok h.2.1 h.2.2.1)]; rfl) (by omega)
set_option maxRecDepth 100000 in
theorem dc_21 {c : ByteArray} {pc a : Nat} (h : BS c pc [21, a]) : decode c pc = .ok (.iload a, 2) := by
  obtain ⟨K, e1, e2⟩ : ∃ K : Nat → Decoder Instr, Decoder.instr pc = (Reader.u1 >>= K) ∧ K 21 = (Reader.u1 >>= fun x => Pure.pure (Instr.iload x)) := ⟨_, rfl, rfl⟩
  exact dec_of e1 h.1 (by rw [e2, rd_b (u1_ok h.2.1)]; rfl) (by omega)
set_option maxRecDepth 100000 in
theorem dc_22 {c : ByteArray} {pc a : Nat} (h : BS c pc [22, a]) : decode c pc = .ok (.lload a, 2) := by
  obtain ⟨K, e1, e2⟩ : ∃ K : Nat → Decoder Instr, Decoder.instr pc = (Reader.u1 >>= K) ∧ K 22 = (Reader.u1 >>= fun x => Pure.pure (Instr.lload x)) := ⟨_, rfl, rfl⟩
  exact dec_of e1 h.1 (by rw [e2, rd_b (u1_ok h.2.1)]; rfl) (by omega)
set_option maxRecDepth 100000 in
theorem dc_25 {c : ByteArray} {pc a : Nat} (h : BS c pc [25, a]) : decode c pc = .ok (.aload a, 2) := by
  obtain ⟨K, e1, e2⟩ : ∃ K : Nat → Decoder Instr, Decoder.instr pc = (Reader.u1 >>= K) ∧ K 25 = (Reader.u1 >>= fun x => Pure.pure (Instr.aload x)) := ⟨_, rfl, rfl⟩
  exact dec_of e1 h.1 (by rw [e2, rd_b (u1_ok h.2.1)]; rfl) (by omega)
set_option maxRecDepth 100000 in
theorem dc_26 {c : ByteArray} {pc : Nat} (h : BS c pc [26]) : decode c pc = .ok (.iload_n 0, 1) := by
  obtain ⟨K, e1, e2⟩ : ∃ K : Nat → Decoder Instr, Decoder.instr pc = (Reader.u1 >>= K) ∧ K 26 = (Pure.pure (Instr.iload_n 0) : Decoder Instr) := ⟨_, rfl, rfl⟩
  exact dec_of e1 h.1 (by rw [e2]; rfl) (by omega)
set_option maxRecDepth 100000 in
theorem dc_27 {c : ByteArray} {pc : Nat} (h : BS c pc [27]) : decode c pc = .ok (.iload_n 1, 1) := by
  obtain ⟨K, e1, e2⟩ : ∃ K : Nat → Decoder Instr, Decoder.instr pc = (Reader.u1 >>= K) ∧ K 27 = (Pure.pure (Instr.iload_n 1) : Decoder Instr) := ⟨_, rfl, rfl⟩
  exact dec_of e1 h.1 (by rw [e2]; rfl) (by omega)
set_option maxRecDepth 100000 in
theorem dc_28 {c : ByteArray} {pc : Nat} (h : BS c pc [28]) : decode c pc = .ok (.iload_n 2, 1) := by
  obtain ⟨K, e1, e2⟩ : ∃ K : Nat → Decoder Instr, Decoder.instr pc = (Reader.u1 >>= K) ∧ K 28 = (Pure.pure (Instr.iload_n 2) : Decoder Instr) := ⟨_, rfl, rfl⟩
  exact dec_of e1 h.1 (by rw [e2]; rfl) (by omega)
set_option maxRecDepth 100000 in
theorem dc_29 {c : ByteArray} {pc : Nat} (h : BS c pc [29]) : decode c pc = .ok (.iload_n 3, 1) := by
  obtain ⟨K, e1, e2⟩ : ∃ K : Nat → Decoder Instr, Decoder.instr pc = (Reader.u1 >>= K) ∧ K 29 = (Pure.pure (Instr.iload_n 3) : Decoder Instr) := ⟨_, rfl, rfl⟩
  exact dec_of e1 h.1 (by rw [e2]; rfl) (by omega)
set_option maxRecDepth 100000 in
theorem dc_30 {c : ByteArray} {pc : Nat} (h : BS c pc [30]) : decode c pc = .ok (.lload_n 0, 1) := by
  obtain ⟨K, e1, e2⟩ : ∃ K : Nat → Decoder Instr, Decoder.instr pc = (Reader.u1 >>= K) ∧ K 30 = (Pure.pure (Instr.lload_n 0) : Decoder Instr) := ⟨_, rfl, rfl⟩
  exact dec_of e1 h.1 (by rw [e2]; rfl) (by omega)
set_option maxRecDepth 100000 in
theorem dc_31 {c : ByteArray} {pc : Nat} (h : BS c pc [31]) : decode c pc = .ok (.lload_n 1, 1) := by
  obtain ⟨K, e1, e2⟩ : ∃ K : Nat → Decoder Instr, Decoder.instr pc = (Reader.u1 >>= K) ∧ K 31 = (Pure.pure (Instr.lload_n 1) : Decoder Instr) := ⟨_, rfl, rfl⟩
  exact dec_of e1 h.1 (by rw [e2]; rfl) (by omega)
set_option maxRecDepth 100000 in
theorem dc_32 {c : ByteArray} {pc : Nat} (h : BS c pc [32]) : decode c pc = .ok (.lload_n 2, 1) := by
  obtain ⟨K, e1, e2⟩ : ∃ K : Nat → Decoder Instr, Decoder.instr pc = (Reader.u1 >>= K) ∧ K 32 = (Pure.pure (Instr.lload_n 2) : Decoder Instr) := ⟨_, rfl, rfl⟩
  exact dec_of e1 h.1 (by rw [e2]; rfl) (by omega)
set_option maxRecDepth 100000 in
theorem dc_33 {c : ByteArray} {pc : Nat} (h : BS c pc [33]) : decode c pc = .ok (.lload_n 3, 1) := by
  obtain ⟨K, e1, e2⟩ : ∃ K : Nat → Decoder Instr, Decoder.instr pc = (Reader.u1 >>= K) ∧ K 33 = (Pure.pure (Instr.lload_n 3) : Decoder Instr) := ⟨_, rfl, rfl⟩
  exact dec_of e1 h.1 (by rw [e2]; rfl) (by omega)
set_option maxRecDepth 100000 in
theorem dc_42 {c : ByteArray} {pc : Nat} (h : BS c pc [42]) : decode c pc = .ok (.aload_n 0, 1) := by
  obtain ⟨K, e1, e2⟩ : ∃ K : Nat → Decoder Instr, Decoder.instr pc = (Reader.u1 >>= K) ∧ K 42 = (Pure.pure (Instr.aload_n 0) : Decoder Instr) := ⟨_, rfl, rfl⟩
  exact dec_of e1 h.1 (by rw [e2]; rfl) (by omega)
set_option maxRecDepth 100000 in
theorem dc_43 {c : ByteArray} {pc : Nat} (h : BS c pc [43]) : decode c pc = .ok (.aload_n 1, 1) := by
  obtain ⟨K, e1, e2⟩ : ∃ K : Nat → Decoder Instr, Decoder.instr pc = (Reader.u1 >>= K) ∧ K 43 = (Pure.pure (Instr.aload_n 1) : Decoder Instr) := ⟨_, rfl, rfl⟩
  exact dec_of e1 h.1 (by rw [e2]; rfl) (by omega)
set_option maxRecDepth 100000 in
theorem dc_44 {c : ByteArray} {pc : Nat} (h : BS c pc [44]) : decode c pc = .ok (.aload_n 2, 1) := by
  obtain ⟨K, e1, e2⟩ : ∃ K : Nat → Decoder Instr, Decoder.instr pc = (Reader.u1 >>= K) ∧ K 44 = (Pure.pure (Instr.aload_n 2) : Decoder Instr) := ⟨_, rfl, rfl⟩
  exact dec_of e1 h.1 (by rw [e2]; rfl) (by omega)
set_option maxRecDepth 100000 in
theorem dc_45 {c : ByteArray} {pc : Nat} (h : BS c pc [45]) : decode c pc = .ok (.aload_n 3, 1) := by
  obtain ⟨K, e1, e2⟩ : ∃ K : Nat → Decoder Instr, Decoder.instr pc = (Reader.u1 >>= K) ∧ K 45 = (Pure.pure (Instr.aload_n 3) : Decoder Instr) := ⟨_, rfl, rfl⟩
  exact dec_of e1 h.1 (by rw [e2]; rfl) (by omega)
set_option maxRecDepth 100000 in
theorem dc_46 {c : ByteArray} {pc : Nat} (h : BS c pc [46]) : decode c pc = .ok (.iaload, 1) := by
  obtain ⟨K, e1, e2⟩ : ∃ K : Nat → Decoder Instr, Decoder.instr pc = (Reader.u1 >>= K) ∧ K 46 = (Pure.pure (Instr.iaload) : Decoder Instr) := ⟨_, rfl, rfl⟩
  exact dec_of e1 h.1 (by rw [e2]; rfl) (by omega)
set_option maxRecDepth 100000 in
theorem dc_47 {c : ByteArray} {pc : Nat} (h : BS c pc [47]) : decode c pc = .ok (.laload, 1) := by
  obtain ⟨K, e1, e2⟩ : ∃ K : Nat → Decoder Instr, Decoder.instr pc = (Reader.u1 >>= K) ∧ K 47 = (Pure.pure (Instr.laload) : Decoder Instr) := ⟨_, rfl, rfl⟩
  exact dec_of e1 h.1 (by rw [e2]; rfl) (by omega)
set_option maxRecDepth 100000 in
theorem dc_50 {c : ByteArray} {pc : Nat} (h : BS c pc [50]) : decode c pc = .ok (.aaload, 1) := by
  obtain ⟨K, e1, e2⟩ : ∃ K : Nat → Decoder Instr, Decoder.instr pc = (Reader.u1 >>= K) ∧ K 50 = (Pure.pure (Instr.aaload) : Decoder Instr) := ⟨_, rfl, rfl⟩
  exact dec_of e1 h.1 (by rw [e2]; rfl) (by omega)
set_option maxRecDepth 100000 in
theorem dc_51 {c : ByteArray} {pc : Nat} (h : BS c pc [51]) : decode c pc = .ok (.baload, 1) := by
  obtain ⟨K, e1, e2⟩ : ∃ K : Nat → Decoder Instr, Decoder.instr pc = (Reader.u1 >>= K) ∧ K 51 = (Pure.pure (Instr.baload) : Decoder Instr) := ⟨_, rfl, rfl⟩
  exact dec_of e1 h.1 (by rw [e2]; rfl) (by omega)
set_option maxRecDepth 100000 in
theorem dc_54 {c : ByteArray} {pc a : Nat} (h : BS c pc [54, a]) : decode c pc = .ok (.istore a, 2) := by
  obtain ⟨K, e1, e2⟩ : ∃ K : Nat → Decoder Instr, Decoder.instr pc = (Reader.u1 >>= K) ∧ K 54 = (Reader.u1 >>= fun x => Pure.pure (Instr.istore x)) := ⟨_, rfl, rfl⟩
  exact dec_of e1 h.1 (by rw [e2, rd_b (u1_ok h.2.1)]; rfl) (by omega)
set_option maxRecDepth 100000 in
theorem dc_55 {c : ByteArray} {pc a : Nat} (h : BS c pc [55, a]) : decode c pc = .ok (.lstore a, 2) := by
  obtain ⟨K, e1, e2⟩ : ∃ K : Nat → Decoder Instr, Decoder.instr pc = (Reader.u1 >>= K) ∧ K 55 = (Reader.u1 >>= fun x => Pure.pure (Instr.lstore x)) := ⟨_, rfl, rfl⟩
  exact dec_of e1 h.1 (by rw [e2, rd_b (u1_ok h.2.1)]; rfl) (by omega)
set_option maxRecDepth 100000 in
theorem dc_58 {c : ByteArray} {pc a : Nat} (h : BS c pc [58, a]) : decode c pc = .ok (.astore a, 2) := by
  obtain ⟨K, e1, e2⟩ : ∃ K : Nat → Decoder Instr, Decoder.instr pc = (Reader.u1 >>= K) ∧ K 58 = (Reader.u1 >>= fun x => Pure.pure (Instr.astore x)) := ⟨_, rfl, rfl⟩
  exact dec_of e1 h.1 (by rw [e2, rd_b (u1_ok h.2.1)]; rfl) (by omega)
set_option maxRecDepth 100000 in
theorem dc_60 {c : ByteArray} {pc : Nat} (h : BS c pc [60]) : decode c pc = .ok (.istore_n 1, 1) := by
  obtain ⟨K, e1, e2⟩ : ∃ K : Nat → Decoder Instr, Decoder.instr pc = (Reader.u1 >>= K) ∧ K 60 = (Pure.pure (Instr.istore_n 1) : Decoder Instr) := ⟨_, rfl, rfl⟩
  exact dec_of e1 h.1 (by rw [e2]; rfl) (by omega)
set_option maxRecDepth 100000 in
theorem dc_61 {c : ByteArray} {pc : Nat} (h : BS c pc [61]) : decode c pc = .ok (.istore_n 2, 1) := by
  obtain ⟨K, e1, e2⟩ : ∃ K : Nat → Decoder Instr, Decoder.instr pc = (Reader.u1 >>= K) ∧ K 61 = (Pure.pure (Instr.istore_n 2) : Decoder Instr) := ⟨_, rfl, rfl⟩
  exact dec_of e1 h.1 (by rw [e2]; rfl) (by omega)
set_option maxRecDepth 100000 in
theorem dc_62 {c : ByteArray} {pc : Nat} (h : BS c pc [62]) : decode c pc = .ok (.istore_n 3, 1) := by
  obtain ⟨K, e1, e2⟩ : ∃ K : Nat → Decoder Instr, Decoder.instr pc = (Reader.u1 >>= K) ∧ K 62 = (Pure.pure (Instr.istore_n 3) : Decoder Instr) := ⟨_, rfl, rfl⟩
  exact dec_of e1 h.1 (by rw [e2]; rfl) (by omega)
set_option maxRecDepth 100000 in
theorem dc_65 {c : ByteArray} {pc : Nat} (h : BS c pc [65]) : decode c pc = .ok (.lstore_n 2, 1) := by
  obtain ⟨K, e1, e2⟩ : ∃ K : Nat → Decoder Instr, Decoder.instr pc = (Reader.u1 >>= K) ∧ K 65 = (Pure.pure (Instr.lstore_n 2) : Decoder Instr) := ⟨_, rfl, rfl⟩
  exact dec_of e1 h.1 (by rw [e2]; rfl) (by omega)
set_option maxRecDepth 100000 in
theorem dc_66 {c : ByteArray} {pc : Nat} (h : BS c pc [66]) : decode c pc = .ok (.lstore_n 3, 1) := by
  obtain ⟨K, e1, e2⟩ : ∃ K : Nat → Decoder Instr, Decoder.instr pc = (Reader.u1 >>= K) ∧ K 66 = (Pure.pure (Instr.lstore_n 3) : Decoder Instr) := ⟨_, rfl, rfl⟩
  exact dec_of e1 h.1 (by rw [e2]; rfl) (by omega)
set_option maxRecDepth 100000 in
theorem dc_76 {c : ByteArray} {pc : Nat} (h : BS c pc [76]) : decode c pc = .ok (.astore_n 1, 1) := by
  obtain ⟨K, e1, e2⟩ : ∃ K : Nat → Decoder Instr, Decoder.instr pc = (Reader.u1 >>= K) ∧ K 76 = (Pure.pure (Instr.astore_n 1) : Decoder Instr) := ⟨_, rfl, rfl⟩
  exact dec_of e1 h.1 (by rw [e2]; rfl) (by omega)
set_option maxRecDepth 100000 in
theorem dc_77 {c : ByteArray} {pc : Nat} (h : BS c pc [77]) : decode c pc = .ok (.astore_n 2, 1) := by
  obtain ⟨K, e1, e2⟩ : ∃ K : Nat → Decoder Instr, Decoder.instr pc = (Reader.u1 >>= K) ∧ K 77 = (Pure.pure (Instr.astore_n 2) : Decoder Instr) := ⟨_, rfl, rfl⟩
  exact dec_of e1 h.1 (by rw [e2]; rfl) (by omega)
set_option maxRecDepth 100000 in
theorem dc_78 {c : ByteArray} {pc : Nat} (h : BS c pc [78]) : decode c pc = .ok (.astore_n 3, 1) := by
  obtain ⟨K, e1, e2⟩ : ∃ K : Nat → Decoder Instr, Decoder.instr pc = (Reader.u1 >>= K) ∧ K 78 = (Pure.pure (Instr.astore_n 3) : Decoder Instr) := ⟨_, rfl, rfl⟩
  exact dec_of e1 h.1 (by rw [e2]; rfl) (by omega)
set_option maxRecDepth 100000 in
theorem dc_79 {c : ByteArray} {pc : Nat} (h : BS c pc [79]) : decode c pc = .ok (.iastore, 1) := by
  obtain ⟨K, e1, e2⟩ : ∃ K : Nat → Decoder Instr, Decoder.instr pc = (Reader.u1 >>= K) ∧ K 79 = (Pure.pure (Instr.iastore) : Decoder Instr) := ⟨_, rfl, rfl⟩
  exact dec_of e1 h.1 (by rw [e2]; rfl) (by omega)
set_option maxRecDepth 100000 in
theorem dc_80 {c : ByteArray} {pc : Nat} (h : BS c pc [80]) : decode c pc = .ok (.lastore, 1) := by
  obtain ⟨K, e1, e2⟩ : ∃ K : Nat → Decoder Instr, Decoder.instr pc = (Reader.u1 >>= K) ∧ K 80 = (Pure.pure (Instr.lastore) : Decoder Instr) := ⟨_, rfl, rfl⟩
  exact dec_of e1 h.1 (by rw [e2]; rfl) (by omega)
set_option maxRecDepth 100000 in
theorem dc_83 {c : ByteArray} {pc : Nat} (h : BS c pc [83]) : decode c pc = .ok (.aastore, 1) := by
  obtain ⟨K, e1, e2⟩ : ∃ K : Nat → Decoder Instr, Decoder.instr pc = (Reader.u1 >>= K) ∧ K 83 = (Pure.pure (Instr.aastore) : Decoder Instr) := ⟨_, rfl, rfl⟩
  exact dec_of e1 h.1 (by rw [e2]; rfl) (by omega)
set_option maxRecDepth 100000 in
theorem dc_84 {c : ByteArray} {pc : Nat} (h : BS c pc [84]) : decode c pc = .ok (.bastore, 1) := by
  obtain ⟨K, e1, e2⟩ : ∃ K : Nat → Decoder Instr, Decoder.instr pc = (Reader.u1 >>= K) ∧ K 84 = (Pure.pure (Instr.bastore) : Decoder Instr) := ⟨_, rfl, rfl⟩
  exact dec_of e1 h.1 (by rw [e2]; rfl) (by omega)
set_option maxRecDepth 100000 in
theorem dc_87 {c : ByteArray} {pc : Nat} (h : BS c pc [87]) : decode c pc = .ok (.pop, 1) := by
  obtain ⟨K, e1, e2⟩ : ∃ K : Nat → Decoder Instr, Decoder.instr pc = (Reader.u1 >>= K) ∧ K 87 = (Pure.pure (Instr.pop) : Decoder Instr) := ⟨_, rfl, rfl⟩
  exact dec_of e1 h.1 (by rw [e2]; rfl) (by omega)
set_option maxRecDepth 100000 in
theorem dc_88 {c : ByteArray} {pc : Nat} (h : BS c pc [88]) : decode c pc = .ok (.pop2, 1) := by
  obtain ⟨K, e1, e2⟩ : ∃ K : Nat → Decoder Instr, Decoder.instr pc = (Reader.u1 >>= K) ∧ K 88 = (Pure.pure (Instr.pop2) : Decoder Instr) := ⟨_, rfl, rfl⟩
  exact dec_of e1 h.1 (by rw [e2]; rfl) (by omega)
set_option maxRecDepth 100000 in
theorem dc_89 {c : ByteArray} {pc : Nat} (h : BS c pc [89]) : decode c pc = .ok (.dup, 1) := by
  obtain ⟨K, e1, e2⟩ : ∃ K : Nat → Decoder Instr, Decoder.instr pc = (Reader.u1 >>= K) ∧ K 89 = (Pure.pure (Instr.dup) : Decoder Instr) := ⟨_, rfl, rfl⟩
  exact dec_of e1 h.1 (by rw [e2]; rfl) (by omega)
set_option maxRecDepth 100000 in
theorem dc_92 {c : ByteArray} {pc : Nat} (h : BS c pc [92]) : decode c pc = .ok (.dup2, 1) := by
  obtain ⟨K, e1, e2⟩ : ∃ K : Nat → Decoder Instr, Decoder.instr pc = (Reader.u1 >>= K) ∧ K 92 = (Pure.pure (Instr.dup2) : Decoder Instr) := ⟨_, rfl, rfl⟩
  exact dec_of e1 h.1 (by rw [e2]; rfl) (by omega)
set_option maxRecDepth 100000 in
theorem dc_96 {c : ByteArray} {pc : Nat} (h : BS c pc [96]) : decode c pc = .ok (.iadd, 1) := by
  obtain ⟨K, e1, e2⟩ : ∃ K : Nat → Decoder Instr, Decoder.instr pc = (Reader.u1 >>= K) ∧ K 96 = (Pure.pure (Instr.iadd) : Decoder Instr) := ⟨_, rfl, rfl⟩
  exact dec_of e1 h.1 (by rw [e2]; rfl) (by omega)
set_option maxRecDepth 100000 in
theorem dc_97 {c : ByteArray} {pc : Nat} (h : BS c pc [97]) : decode c pc = .ok (.ladd, 1) := by
  obtain ⟨K, e1, e2⟩ : ∃ K : Nat → Decoder Instr, Decoder.instr pc = (Reader.u1 >>= K) ∧ K 97 = (Pure.pure (Instr.ladd) : Decoder Instr) := ⟨_, rfl, rfl⟩
  exact dec_of e1 h.1 (by rw [e2]; rfl) (by omega)
set_option maxRecDepth 100000 in
theorem dc_100 {c : ByteArray} {pc : Nat} (h : BS c pc [100]) : decode c pc = .ok (.isub, 1) := by
  obtain ⟨K, e1, e2⟩ : ∃ K : Nat → Decoder Instr, Decoder.instr pc = (Reader.u1 >>= K) ∧ K 100 = (Pure.pure (Instr.isub) : Decoder Instr) := ⟨_, rfl, rfl⟩
  exact dec_of e1 h.1 (by rw [e2]; rfl) (by omega)
set_option maxRecDepth 100000 in
theorem dc_101 {c : ByteArray} {pc : Nat} (h : BS c pc [101]) : decode c pc = .ok (.lsub, 1) := by
  obtain ⟨K, e1, e2⟩ : ∃ K : Nat → Decoder Instr, Decoder.instr pc = (Reader.u1 >>= K) ∧ K 101 = (Pure.pure (Instr.lsub) : Decoder Instr) := ⟨_, rfl, rfl⟩
  exact dec_of e1 h.1 (by rw [e2]; rfl) (by omega)
set_option maxRecDepth 100000 in
theorem dc_104 {c : ByteArray} {pc : Nat} (h : BS c pc [104]) : decode c pc = .ok (.imul, 1) := by
  obtain ⟨K, e1, e2⟩ : ∃ K : Nat → Decoder Instr, Decoder.instr pc = (Reader.u1 >>= K) ∧ K 104 = (Pure.pure (Instr.imul) : Decoder Instr) := ⟨_, rfl, rfl⟩
  exact dec_of e1 h.1 (by rw [e2]; rfl) (by omega)
set_option maxRecDepth 100000 in
theorem dc_105 {c : ByteArray} {pc : Nat} (h : BS c pc [105]) : decode c pc = .ok (.lmul, 1) := by
  obtain ⟨K, e1, e2⟩ : ∃ K : Nat → Decoder Instr, Decoder.instr pc = (Reader.u1 >>= K) ∧ K 105 = (Pure.pure (Instr.lmul) : Decoder Instr) := ⟨_, rfl, rfl⟩
  exact dec_of e1 h.1 (by rw [e2]; rfl) (by omega)
set_option maxRecDepth 100000 in
theorem dc_108 {c : ByteArray} {pc : Nat} (h : BS c pc [108]) : decode c pc = .ok (.idiv, 1) := by
  obtain ⟨K, e1, e2⟩ : ∃ K : Nat → Decoder Instr, Decoder.instr pc = (Reader.u1 >>= K) ∧ K 108 = (Pure.pure (Instr.idiv) : Decoder Instr) := ⟨_, rfl, rfl⟩
  exact dec_of e1 h.1 (by rw [e2]; rfl) (by omega)
set_option maxRecDepth 100000 in
theorem dc_109 {c : ByteArray} {pc : Nat} (h : BS c pc [109]) : decode c pc = .ok (.ldiv, 1) := by
  obtain ⟨K, e1, e2⟩ : ∃ K : Nat → Decoder Instr, Decoder.instr pc = (Reader.u1 >>= K) ∧ K 109 = (Pure.pure (Instr.ldiv) : Decoder Instr) := ⟨_, rfl, rfl⟩
  exact dec_of e1 h.1 (by rw [e2]; rfl) (by omega)
set_option maxRecDepth 100000 in
theorem dc_112 {c : ByteArray} {pc : Nat} (h : BS c pc [112]) : decode c pc = .ok (.irem, 1) := by
  obtain ⟨K, e1, e2⟩ : ∃ K : Nat → Decoder Instr, Decoder.instr pc = (Reader.u1 >>= K) ∧ K 112 = (Pure.pure (Instr.irem) : Decoder Instr) := ⟨_, rfl, rfl⟩
  exact dec_of e1 h.1 (by rw [e2]; rfl) (by omega)
set_option maxRecDepth 100000 in
theorem dc_113 {c : ByteArray} {pc : Nat} (h : BS c pc [113]) : decode c pc = .ok (.lrem, 1) := by
  obtain ⟨K, e1, e2⟩ : ∃ K : Nat → Decoder Instr, Decoder.instr pc = (Reader.u1 >>= K) ∧ K 113 = (Pure.pure (Instr.lrem) : Decoder Instr) := ⟨_, rfl, rfl⟩
  exact dec_of e1 h.1 (by rw [e2]; rfl) (by omega)
set_option maxRecDepth 100000 in
theorem dc_116 {c : ByteArray} {pc : Nat} (h : BS c pc [116]) : decode c pc = .ok (.ineg, 1) := by
  obtain ⟨K, e1, e2⟩ : ∃ K : Nat → Decoder Instr, Decoder.instr pc = (Reader.u1 >>= K) ∧ K 116 = (Pure.pure (Instr.ineg) : Decoder Instr) := ⟨_, rfl, rfl⟩
  exact dec_of e1 h.1 (by rw [e2]; rfl) (by omega)
set_option maxRecDepth 100000 in
theorem dc_117 {c : ByteArray} {pc : Nat} (h : BS c pc [117]) : decode c pc = .ok (.lneg, 1) := by
  obtain ⟨K, e1, e2⟩ : ∃ K : Nat → Decoder Instr, Decoder.instr pc = (Reader.u1 >>= K) ∧ K 117 = (Pure.pure (Instr.lneg) : Decoder Instr) := ⟨_, rfl, rfl⟩
  exact dec_of e1 h.1 (by rw [e2]; rfl) (by omega)
set_option maxRecDepth 100000 in
theorem dc_120 {c : ByteArray} {pc : Nat} (h : BS c pc [120]) : decode c pc = .ok (.ishl, 1) := by
  obtain ⟨K, e1, e2⟩ : ∃ K : Nat → Decoder Instr, Decoder.instr pc = (Reader.u1 >>= K) ∧ K 120 = (Pure.pure (Instr.ishl) : Decoder Instr) := ⟨_, rfl, rfl⟩
  exact dec_of e1 h.1 (by rw [e2]; rfl) (by omega)
set_option maxRecDepth 100000 in
theorem dc_122 {c : ByteArray} {pc : Nat} (h : BS c pc [122]) : decode c pc = .ok (.ishr, 1) := by
  obtain ⟨K, e1, e2⟩ : ∃ K : Nat → Decoder Instr, Decoder.instr pc = (Reader.u1 >>= K) ∧ K 122 = (Pure.pure (Instr.ishr) : Decoder Instr) := ⟨_, rfl, rfl⟩
  exact dec_of e1 h.1 (by rw [e2]; rfl) (by omega)
set_option maxRecDepth 100000 in
theorem dc_126 {c : ByteArray} {pc : Nat} (h : BS c pc [126]) : decode c pc = .ok (.iand, 1) := by
  obtain ⟨K, e1, e2⟩ : ∃ K : Nat → Decoder Instr, Decoder.instr pc = (Reader.u1 >>= K) ∧ K 126 = (Pure.pure (Instr.iand) : Decoder Instr) := ⟨_, rfl, rfl⟩
  exact dec_of e1 h.1 (by rw [e2]; rfl) (by omega)
set_option maxRecDepth 100000 in
theorem dc_127 {c : ByteArray} {pc : Nat} (h : BS c pc [127]) : decode c pc = .ok (.land, 1) := by
  obtain ⟨K, e1, e2⟩ : ∃ K : Nat → Decoder Instr, Decoder.instr pc = (Reader.u1 >>= K) ∧ K 127 = (Pure.pure (Instr.land) : Decoder Instr) := ⟨_, rfl, rfl⟩
  exact dec_of e1 h.1 (by rw [e2]; rfl) (by omega)
set_option maxRecDepth 100000 in
theorem dc_128 {c : ByteArray} {pc : Nat} (h : BS c pc [128]) : decode c pc = .ok (.ior, 1) := by
  obtain ⟨K, e1, e2⟩ : ∃ K : Nat → Decoder Instr, Decoder.instr pc = (Reader.u1 >>= K) ∧ K 128 = (Pure.pure (Instr.ior) : Decoder Instr) := ⟨_, rfl, rfl⟩
  exact dec_of e1 h.1 (by rw [e2]; rfl) (by omega)
set_option maxRecDepth 100000 in
theorem dc_130 {c : ByteArray} {pc : Nat} (h : BS c pc [130]) : decode c pc = .ok (.ixor, 1) := by
  obtain ⟨K, e1, e2⟩ : ∃ K : Nat → Decoder Instr, Decoder.instr pc = (Reader.u1 >>= K) ∧ K 130 = (Pure.pure (Instr.ixor) : Decoder Instr) := ⟨_, rfl, rfl⟩
  exact dec_of e1 h.1 (by rw [e2]; rfl) (by omega)
set_option maxRecDepth 100000 in
theorem dc_132 {c : ByteArray} {pc a b : Nat} {v : Int} (h : BS c pc [132, a, b]) (e : Reader.signed 8 b = v) : decode c pc = .ok (.iinc a v, 3) := by
  subst e
  obtain ⟨K, e1, e2⟩ : ∃ K : Nat → Decoder Instr, Decoder.instr pc = (Reader.u1 >>= K) ∧ K 132 = (Reader.u1 >>= fun x => Reader.s1 >>= fun y => Pure.pure (Instr.iinc x y)) := ⟨_, rfl, rfl⟩
  exact dec_of e1 h.1 (by rw [e2, rd_b (u1_ok h.2.1), rd_b (s1_ok h.2.2.1)]; rfl) (by omega)
set_option maxRecDepth 100000 in
theorem dc_133 {c : ByteArray} {pc : Nat} (h : BS c pc [133]) : decode c pc = .ok (.i2l, 1) := by
  obtain ⟨K, e1, e2⟩ : ∃ K : Nat → Decoder Instr, Decoder.instr pc = (Reader.u1 >>= K) ∧ K 133 = (Pure.pure (Instr.i2l) : Decoder Instr) := ⟨_, rfl, rfl⟩
  exact dec_of e1 h.1 (by rw [e2]; rfl) (by omega)
set_option maxRecDepth 100000 in
theorem dc_136 {c : ByteArray} {pc : Nat} (h : BS c pc [136]) : decode c pc = .ok (.l2i, 1) := by
  obtain ⟨K, e1, e2⟩ : ∃ K : Nat → Decoder Instr, Decoder.instr pc = (Reader.u1 >>= K) ∧ K 136 = (Pure.pure (Instr.l2i) : Decoder Instr) := ⟨_, rfl, rfl⟩
  exact dec_of e1 h.1 (by rw [e2]; rfl) (by omega)
set_option maxRecDepth 100000 in
theorem dc_145 {c : ByteArray} {pc : Nat} (h : BS c pc [145]) : decode c pc = .ok (.i2b, 1) := by
  obtain ⟨K, e1, e2⟩ : ∃ K : Nat → Decoder Instr, Decoder.instr pc = (Reader.u1 >>= K) ∧ K 145 = (Pure.pure (Instr.i2b) : Decoder Instr) := ⟨_, rfl, rfl⟩
  exact dec_of e1 h.1 (by rw [e2]; rfl) (by omega)
set_option maxRecDepth 100000 in
theorem dc_146 {c : ByteArray} {pc : Nat} (h : BS c pc [146]) : decode c pc = .ok (.i2c, 1) := by
  obtain ⟨K, e1, e2⟩ : ∃ K : Nat → Decoder Instr, Decoder.instr pc = (Reader.u1 >>= K) ∧ K 146 = (Pure.pure (Instr.i2c) : Decoder Instr) := ⟨_, rfl, rfl⟩
  exact dec_of e1 h.1 (by rw [e2]; rfl) (by omega)
set_option maxRecDepth 100000 in
theorem dc_148 {c : ByteArray} {pc : Nat} (h : BS c pc [148]) : decode c pc = .ok (.lcmp, 1) := by
  obtain ⟨K, e1, e2⟩ : ∃ K : Nat → Decoder Instr, Decoder.instr pc = (Reader.u1 >>= K) ∧ K 148 = (Pure.pure (Instr.lcmp) : Decoder Instr) := ⟨_, rfl, rfl⟩
  exact dec_of e1 h.1 (by rw [e2]; rfl) (by omega)
set_option maxRecDepth 100000 in
theorem dc_153 {c : ByteArray} {pc a b : Nat} {v : Int} (h : BS c pc [153, a, b]) (e : Reader.signed 16 (a * 256 + b) = v) : decode c pc = .ok (.ifCond .eq v, 3) := by
  subst e
  obtain ⟨K, e1, e2⟩ : ∃ K : Nat → Decoder Instr, Decoder.instr pc = (Reader.u1 >>= K) ∧ K 153 = (Reader.s2 >>= fun x => Pure.pure (Instr.ifCond .eq x)) := ⟨_, rfl, rfl⟩
  exact dec_of e1 h.1 (by rw [e2, rd_b (s2_ok h.2.1 h.2.2.1)]; rfl) (by omega)
set_option maxRecDepth 100000 in
theorem dc_154 {c : ByteArray} {pc a b : Nat} {v : Int} (h : BS c pc [154, a, b]) (e : Reader.signed 16 (a * 256 + b) = v) : decode c pc = .ok (.ifCond .ne v, 3) := by
  subst e
  obtain ⟨K, e1, e2⟩ : ∃ K : Nat → Decoder Instr, Decoder.instr pc = (Reader.u1 >>= K) ∧ K 154 = (Reader.s2 >>= fun x => Pure.pure (Instr.ifCond .ne x)) := ⟨_, rfl, rfl⟩
  exact dec_of e1 h.1 (by rw [e2, rd_b (s2_ok h.2.1 h.2.2.1)]; rfl) (by omega)
set_option maxRecDepth 100000 in
theorem dc_155 {c : ByteArray} {pc a b : Nat} {v : Int} (h : BS c pc [155, a, b]) (e : Reader.signed 16 (a * 256 + b) = v) : decode c pc = .ok (.ifCond .lt v, 3) := by
  subst e
  obtain ⟨K, e1, e2⟩ : ∃ K : Nat → Decoder Instr, Decoder.instr pc = (Reader.u1 >>= K) ∧ K 155 = (Reader.s2 >>= fun x => Pure.pure (Instr.ifCond .lt x)) := ⟨_, rfl, rfl⟩
  exact dec_of e1 h.1 (by rw [e2, rd_b (s2_ok h.2.1 h.2.2.1)]; rfl) (by omega)
set_option maxRecDepth 100000 in
theorem dc_156 {c : ByteArray} {pc a b : Nat} {v : Int} (h : BS c pc [156, a, b]) (e : Reader.signed 16 (a * 256 + b) = v) : decode c pc = .ok (.ifCond .ge v, 3) := by
  subst e
  obtain ⟨K, e1, e2⟩ : ∃ K : Nat → Decoder Instr, Decoder.instr pc = (Reader.u1 >>= K) ∧ K 156 = (Reader.s2 >>= fun x => Pure.pure (Instr.ifCond .ge x)) := ⟨_, rfl, rfl⟩
  exact dec_of e1 h.1 (by rw [e2, rd_b (s2_ok h.2.1 h.2.2.1)]; rfl) (by omega)
set_option maxRecDepth 100000 in
theorem dc_157 {c : ByteArray} {pc a b : Nat} {v : Int} (h : BS c pc [157, a, b]) (e : Reader.signed 16 (a * 256 + b) = v) : decode c pc = .ok (.ifCond .gt v, 3) := by
  subst e
  obtain ⟨K, e1, e2⟩ : ∃ K : Nat → Decoder Instr, Decoder.instr pc = (Reader.u1 >>= K) ∧ K 157 = (Reader.s2 >>= fun x => Pure.pure (Instr.ifCond .gt x)) := ⟨_, rfl, rfl⟩
  exact dec_of e1 h.1 (by rw [e2, rd_b (s2_ok h.2.1 h.2.2.1)]; rfl) (by omega)
set_option maxRecDepth 100000 in
theorem dc_158 {c : ByteArray} {pc a b : Nat} {v : Int} (h : BS c pc [158, a, b]) (e : Reader.signed 16 (a * 256 + b) = v) : decode c pc = .ok (.ifCond .le v, 3) := by
  subst e
  obtain ⟨K, e1, e2⟩ : ∃ K : Nat → Decoder Instr, Decoder.instr pc = (Reader.u1 >>= K) ∧ K 158 = (Reader.s2 >>= fun x => Pure.pure (Instr.ifCond .le x)) := ⟨_, rfl, rfl⟩
  exact dec_of e1 h.1 (by rw [e2, rd_b (s2_ok h.2.1 h.2.2.1)]; rfl) (by omega)
set_option maxRecDepth 100000 in
theorem dc_159 {c : ByteArray} {pc a b : Nat} {v : Int} (h : BS c pc [159, a, b]) (e : Reader.signed 16 (a * 256 + b) = v) : decode c pc = .ok (.if_icmp .eq v, 3) := by
  subst e
  obtain ⟨K, e1, e2⟩ : ∃ K : Nat → Decoder Instr, Decoder.instr pc = (Reader.u1 >>= K) ∧ K 159 = (Reader.s2 >>= fun x => Pure.pure (Instr.if_icmp .eq x)) := ⟨_, rfl, rfl⟩
  exact dec_of e1 h.1 (by rw [e2, rd_b (s2_ok h.2.1 h.2.2.1)]; rfl) (by omega)
set_option maxRecDepth 100000 in
theorem dc_160 {c : ByteArray} {pc a b : Nat} {v : Int} (h : BS c pc [160, a, b]) (e : Reader.signed 16 (a * 256 + b) = v) : decode c pc = .ok (.if_icmp .ne v, 3) := by
  subst e
  obtain ⟨K, e1, e2⟩ : ∃ K : Nat → Decoder Instr, Decoder.instr pc = (Reader.u1 >>= K) ∧ K 160 = (Reader.s2 >>= fun x => Pure.pure (Instr.if_icmp .ne x)) := ⟨_, rfl, rfl⟩
  exact dec_of e1 h.1 (by rw [e2, rd_b (s2_ok h.2.1 h.2.2.1)]; rfl) (by omega)
set_option maxRecDepth 100000 in
theorem dc_161 {c : ByteArray} {pc a b : Nat} {v : Int} (h : BS c pc [161, a, b]) (e : Reader.signed 16 (a * 256 + b) = v) : decode c pc = .ok (.if_icmp .lt v, 3) := by
  subst e
  obtain ⟨K, e1, e2⟩ : ∃ K : Nat → Decoder Instr, Decoder.instr pc = (Reader.u1 >>= K) ∧ K 161 = (Reader.s2 >>= fun x => Pure.pure (Instr.if_icmp .lt x)) := ⟨_, rfl, rfl⟩
  exact dec_of e1 h.1 (by rw [e2, rd_b (s2_ok h.2.1 h.2.2.1)]; rfl) (by omega)
set_option maxRecDepth 100000 in
theorem dc_162 {c : ByteArray} {pc a b : Nat} {v : Int} (h : BS c pc [162, a, b]) (e : Reader.signed 16 (a * 256 + b) = v) : decode c pc = .ok (.if_icmp .ge v, 3) := by
  subst e
  obtain ⟨K, e1, e2⟩ : ∃ K : Nat → Decoder Instr, Decoder.instr pc = (Reader.u1 >>= K) ∧ K 162 = (Reader.s2 >>= fun x => Pure.pure (Instr.if_icmp .ge x)) := ⟨_, rfl, rfl⟩
  exact dec_of e1 h.1 (by rw [e2, rd_b (s2_ok h.2.1 h.2.2.1)]; rfl) (by omega)
set_option maxRecDepth 100000 in
theorem dc_163 {c : ByteArray} {pc a b : Nat} {v : Int} (h : BS c pc [163, a, b]) (e : Reader.signed 16 (a * 256 + b) = v) : decode c pc = .ok (.if_icmp .gt v, 3) := by
  subst e
  obtain ⟨K, e1, e2⟩ : ∃ K : Nat → Decoder Instr, Decoder.instr pc = (Reader.u1 >>= K) ∧ K 163 = (Reader.s2 >>= fun x => Pure.pure (Instr.if_icmp .gt x)) := ⟨_, rfl, rfl⟩
  exact dec_of e1 h.1 (by rw [e2, rd_b (s2_ok h.2.1 h.2.2.1)]; rfl) (by omega)
set_option maxRecDepth 100000 in
theorem dc_164 {c : ByteArray} {pc a b : Nat} {v : Int} (h : BS c pc [164, a, b]) (e : Reader.signed 16 (a * 256 + b) = v) : decode c pc = .ok (.if_icmp .le v, 3) := by
  subst e
  obtain ⟨K, e1, e2⟩ : ∃ K : Nat → Decoder Instr, Decoder.instr pc = (Reader.u1 >>= K) ∧ K 164 = (Reader.s2 >>= fun x => Pure.pure (Instr.if_icmp .le x)) := ⟨_, rfl, rfl⟩
  exact dec_of e1 h.1 (by rw [e2, rd_b (s2_ok h.2.1 h.2.2.1)]; rfl) (by omega)
set_option maxRecDepth 100000 in
theorem dc_167 {c : ByteArray} {pc a b : Nat} {v : Int} (h : BS c pc [167, a, b]) (e : Reader.signed 16 (a * 256 + b) = v) : decode c pc = .ok (.goto v, 3) := by
  subst e
  obtain ⟨K, e1, e2⟩ : ∃ K : Nat → Decoder Instr, Decoder.instr pc = (Reader.u1 >>= K) ∧ K 167 = (Reader.s2 >>= fun x => Pure.pure (Instr.goto x)) := ⟨_, rfl, rfl⟩
  exact dec_of e1 h.1 (by rw [e2, rd_b (s2_ok h.2.1 h.2.2.1)]; rfl) (by omega)
set_option maxRecDepth 100000 in
theorem dc_172 {c : ByteArray} {pc : Nat} (h : BS c pc [172]) : decode c pc = .ok (.ireturn, 1) := by
  obtain ⟨K, e1, e2⟩ : ∃ K : Nat → Decoder Instr, Decoder.instr pc = (Reader.u1 >>= K) ∧ K 172 = (Pure.pure (Instr.ireturn) : Decoder Instr) := ⟨_, rfl, rfl⟩
  exact dec_of e1 h.1 (by rw [e2]; rfl) (by omega)
set_option maxRecDepth 100000 in
theorem dc_173 {c : ByteArray} {pc : Nat} (h : BS c pc [173]) : decode c pc = .ok (.lreturn, 1) := by
  obtain ⟨K, e1, e2⟩ : ∃ K : Nat → Decoder Instr, Decoder.instr pc = (Reader.u1 >>= K) ∧ K 173 = (Pure.pure (Instr.lreturn) : Decoder Instr) := ⟨_, rfl, rfl⟩
  exact dec_of e1 h.1 (by rw [e2]; rfl) (by omega)
set_option maxRecDepth 100000 in
theorem dc_176 {c : ByteArray} {pc : Nat} (h : BS c pc [176]) : decode c pc = .ok (.areturn, 1) := by
  obtain ⟨K, e1, e2⟩ : ∃ K : Nat → Decoder Instr, Decoder.instr pc = (Reader.u1 >>= K) ∧ K 176 = (Pure.pure (Instr.areturn) : Decoder Instr) := ⟨_, rfl, rfl⟩
  exact dec_of e1 h.1 (by rw [e2]; rfl) (by omega)
set_option maxRecDepth 100000 in
theorem dc_177 {c : ByteArray} {pc : Nat} (h : BS c pc [177]) : decode c pc = .ok (.return_, 1) := by
  obtain ⟨K, e1, e2⟩ : ∃ K : Nat → Decoder Instr, Decoder.instr pc = (Reader.u1 >>= K) ∧ K 177 = (Pure.pure (Instr.return_) : Decoder Instr) := ⟨_, rfl, rfl⟩
  exact dec_of e1 h.1 (by rw [e2]; rfl) (by omega)
set_option maxRecDepth 100000 in
theorem dc_178 {c : ByteArray} {pc a b v : Nat} (h : BS c pc [178, a, b]) (e : a * 256 + b = v) : decode c pc = .ok (.getstatic v, 3) := by
  subst e
  obtain ⟨K, e1, e2⟩ : ∃ K : Nat → Decoder Instr, Decoder.instr pc = (Reader.u1 >>= K) ∧ K 178 = (Reader.u2 >>= fun x => Pure.pure (Instr.getstatic x)) := ⟨_, rfl, rfl⟩
  exact dec_of e1 h.1 (by rw [e2, rd_b (u2_ok h.2.1 h.2.2.1)]; rfl) (by omega)
set_option maxRecDepth 100000 in
theorem dc_180 {c : ByteArray} {pc a b v : Nat} (h : BS c pc [180, a, b]) (e : a * 256 + b = v) : decode c pc = .ok (.getfield v, 3) := by
  subst e
  obtain ⟨K, e1, e2⟩ : ∃ K : Nat → Decoder Instr, Decoder.instr pc = (Reader.u1 >>= K) ∧ K 180 = (Reader.u2 >>= fun x => Pure.pure (Instr.getfield x)) := ⟨_, rfl, rfl⟩
  exact dec_of e1 h.1 (by rw [e2, rd_b (u2_ok h.2.1 h.2.2.1)]; rfl) (by omega)
set_option maxRecDepth 100000 in
theorem dc_181 {c : ByteArray} {pc a b v : Nat} (h : BS c pc [181, a, b]) (e : a * 256 + b = v) : decode c pc = .ok (.putfield v, 3) := by
  subst e
  obtain ⟨K, e1, e2⟩ : ∃ K : Nat → Decoder Instr, Decoder.instr pc = (Reader.u1 >>= K) ∧ K 181 = (Reader.u2 >>= fun x => Pure.pure (Instr.putfield x)) := ⟨_, rfl, rfl⟩
  exact dec_of e1 h.1 (by rw [e2, rd_b (u2_ok h.2.1 h.2.2.1)]; rfl) (by omega)
set_option maxRecDepth 100000 in
theorem dc_182 {c : ByteArray} {pc a b v : Nat} (h : BS c pc [182, a, b]) (e : a * 256 + b = v) : decode c pc = .ok (.invokevirtual v, 3) := by
  subst e
  obtain ⟨K, e1, e2⟩ : ∃ K : Nat → Decoder Instr, Decoder.instr pc = (Reader.u1 >>= K) ∧ K 182 = (Reader.u2 >>= fun x => Pure.pure (Instr.invokevirtual x)) := ⟨_, rfl, rfl⟩
  exact dec_of e1 h.1 (by rw [e2, rd_b (u2_ok h.2.1 h.2.2.1)]; rfl) (by omega)
set_option maxRecDepth 100000 in
theorem dc_183 {c : ByteArray} {pc a b v : Nat} (h : BS c pc [183, a, b]) (e : a * 256 + b = v) : decode c pc = .ok (.invokespecial v, 3) := by
  subst e
  obtain ⟨K, e1, e2⟩ : ∃ K : Nat → Decoder Instr, Decoder.instr pc = (Reader.u1 >>= K) ∧ K 183 = (Reader.u2 >>= fun x => Pure.pure (Instr.invokespecial x)) := ⟨_, rfl, rfl⟩
  exact dec_of e1 h.1 (by rw [e2, rd_b (u2_ok h.2.1 h.2.2.1)]; rfl) (by omega)
set_option maxRecDepth 100000 in
theorem dc_184 {c : ByteArray} {pc a b v : Nat} (h : BS c pc [184, a, b]) (e : a * 256 + b = v) : decode c pc = .ok (.invokestatic v, 3) := by
  subst e
  obtain ⟨K, e1, e2⟩ : ∃ K : Nat → Decoder Instr, Decoder.instr pc = (Reader.u1 >>= K) ∧ K 184 = (Reader.u2 >>= fun x => Pure.pure (Instr.invokestatic x)) := ⟨_, rfl, rfl⟩
  exact dec_of e1 h.1 (by rw [e2, rd_b (u2_ok h.2.1 h.2.2.1)]; rfl) (by omega)
set_option maxRecDepth 100000 in
theorem dc_187 {c : ByteArray} {pc a b v : Nat} (h : BS c pc [187, a, b]) (e : a * 256 + b = v) : decode c pc = .ok (.new v, 3) := by
  subst e
  obtain ⟨K, e1, e2⟩ : ∃ K : Nat → Decoder Instr, Decoder.instr pc = (Reader.u1 >>= K) ∧ K 187 = (Reader.u2 >>= fun x => Pure.pure (Instr.new x)) := ⟨_, rfl, rfl⟩
  exact dec_of e1 h.1 (by rw [e2, rd_b (u2_ok h.2.1 h.2.2.1)]; rfl) (by omega)
set_option maxRecDepth 100000 in
theorem dc_188_4 {c : ByteArray} {pc : Nat} (h : BS c pc [188, 4]) : decode c pc = .ok (.newarray .boolean, 2) := by
  obtain ⟨K, e1, e2⟩ : ∃ K : Nat → Decoder Instr, Decoder.instr pc = (Reader.u1 >>= K) ∧ K 188 = Decoder.newarray pc := ⟨_, rfl, rfl⟩
  obtain ⟨K2, e3, e4⟩ : ∃ K2 : Nat → Decoder Instr, Decoder.newarray pc = (Reader.u1 >>= K2) ∧ K2 4 = (Pure.pure (Instr.newarray .boolean) : Decoder Instr) := ⟨_, rfl, rfl⟩
  exact dec_of e1 h.1 (by rw [e2, e3, rd_b (u1_ok h.2.1), e4]; rfl) (by omega)
set_option maxRecDepth 100000 in
theorem dc_188_8 {c : ByteArray} {pc : Nat} (h : BS c pc [188, 8]) : decode c pc = .ok (.newarray .byte, 2) := by
  obtain ⟨K, e1, e2⟩ : ∃ K : Nat → Decoder Instr, Decoder.instr pc = (Reader.u1 >>= K) ∧ K 188 = Decoder.newarray pc := ⟨_, rfl, rfl⟩
  obtain ⟨K2, e3, e4⟩ : ∃ K2 : Nat → Decoder Instr, Decoder.newarray pc = (Reader.u1 >>= K2) ∧ K2 8 = (Pure.pure (Instr.newarray .byte) : Decoder Instr) := ⟨_, rfl, rfl⟩
  exact dec_of e1 h.1 (by rw [e2, e3, rd_b (u1_ok h.2.1), e4]; rfl) (by omega)
set_option maxRecDepth 100000 in
theorem dc_188_10 {c : ByteArray} {pc : Nat} (h : BS c pc [188, 10]) : decode c pc = .ok (.newarray .int, 2) := by
  obtain ⟨K, e1, e2⟩ : ∃ K : Nat → Decoder Instr, Decoder.instr pc = (Reader.u1 >>= K) ∧ K 188 = Decoder.newarray pc := ⟨_, rfl, rfl⟩
  obtain ⟨K2, e3, e4⟩ : ∃ K2 : Nat → Decoder Instr, Decoder.newarray pc = (Reader.u1 >>= K2) ∧ K2 10 = (Pure.pure (Instr.newarray .int) : Decoder Instr) := ⟨_, rfl, rfl⟩
  exact dec_of e1 h.1 (by rw [e2, e3, rd_b (u1_ok h.2.1), e4]; rfl) (by omega)
set_option maxRecDepth 100000 in
theorem dc_188_11 {c : ByteArray} {pc : Nat} (h : BS c pc [188, 11]) : decode c pc = .ok (.newarray .long, 2) := by
  obtain ⟨K, e1, e2⟩ : ∃ K : Nat → Decoder Instr, Decoder.instr pc = (Reader.u1 >>= K) ∧ K 188 = Decoder.newarray pc := ⟨_, rfl, rfl⟩
  obtain ⟨K2, e3, e4⟩ : ∃ K2 : Nat → Decoder Instr, Decoder.newarray pc = (Reader.u1 >>= K2) ∧ K2 11 = (Pure.pure (Instr.newarray .long) : Decoder Instr) := ⟨_, rfl, rfl⟩
  exact dec_of e1 h.1 (by rw [e2, e3, rd_b (u1_ok h.2.1), e4]; rfl) (by omega)
set_option maxRecDepth 100000 in
theorem dc_189 {c : ByteArray} {pc a b v : Nat} (h : BS c pc [189, a, b]) (e : a * 256 + b = v) : decode c pc = .ok (.anewarray v, 3) := by
  subst e
  obtain ⟨K, e1, e2⟩ : ∃ K : Nat → Decoder Instr, Decoder.instr pc = (Reader.u1 >>= K) ∧ K 189 = (Reader.u2 >>= fun x => Pure.pure (Instr.anewarray x)) := ⟨_, rfl, rfl⟩
  exact dec_of e1 h.1 (by rw [e2, rd_b (u2_ok h.2.1 h.2.2.1)]; rfl) (by omega)
set_option maxRecDepth 100000 in
theorem dc_190 {c : ByteArray} {pc : Nat} (h : BS c pc [190]) : decode c pc = .ok (.arraylength, 1) := by
  obtain ⟨K, e1, e2⟩ : ∃ K : Nat → Decoder Instr, Decoder.instr pc = (Reader.u1 >>= K) ∧ K 190 = (Pure.pure (Instr.arraylength) : Decoder Instr) := ⟨_, rfl, rfl⟩
  exact dec_of e1 h.1 (by rw [e2]; rfl) (by omega)
set_option maxRecDepth 100000 in
theorem dc_191 {c : ByteArray} {pc : Nat} (h : BS c pc [191]) : decode c pc = .ok (.athrow, 1) := by
  obtain ⟨K, e1, e2⟩ : ∃ K : Nat → Decoder Instr, Decoder.instr pc = (Reader.u1 >>= K) ∧ K 191 = (Pure.pure (Instr.athrow) : Decoder Instr) := ⟨_, rfl, rfl⟩
  exact dec_of e1 h.1 (by rw [e2]; rfl) (by omega)
set_option maxRecDepth 100000 in
theorem dc_199 {c : ByteArray} {pc a b : Nat} {v : Int} (h : BS c pc [199, a, b]) (e : Reader.signed 16 (a * 256 + b) = v) : decode c pc = .ok (.ifnonnull v, 3) := by
  subst e
  obtain ⟨K, e1, e2⟩ : ∃ K : Nat → Decoder Instr, Decoder.instr pc = (Reader.u1 >>= K) ∧ K 199 = (Reader.s2 >>= fun x => Pure.pure (Instr.ifnonnull x)) := ⟨_, rfl, rfl⟩
  exact dec_of e1 h.1 (by rw [e2, rd_b (s2_ok h.2.1 h.2.2.1)]; rfl) (by omega)
