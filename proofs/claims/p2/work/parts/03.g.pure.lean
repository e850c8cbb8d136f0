/-! The shape of a pure heap, what keeps it; how a pure function is shown to come to an end. -/
def kV (v : PV) : Nat := match v with
  | .inl _ => 0
  | .inr (.inl _) => 1
  | .inr (.inr none) => 2
  | .inr (.inr (some r)) => r + 3
def kO (r : Option Nat) : Nat := match r with
  | none => 2
  | some r => r + 3
def sk (c : PC) : Nat × Nat × List Nat := match c with
  | .inr (ci, fs) => (0, ci, fs.map kV)
  | .inl (t, n, .inl _) => (5 * t + 1, n, [])
  | .inl (t, n, .inr (.inl _)) => (5 * t + 2, n, [])
  | .inl (t, n, .inr (.inr (.inl _))) => (5 * t + 3, n, [])
  | .inl (t, n, .inr (.inr (.inr (.inl _)))) => (5 * t + 4, n, [])
  | .inl (t, n, .inr (.inr (.inr (.inr f)))) => (5 * t + 5, n, (List.range n).map (fun k => kO (f k)))
def Sk (h : PH) : List (Nat × Nat × List Nat) := h.map sk
theorem Sk_at (h : PH) (a : Nat) : (Sk h)[a]? = (h[a]?).map sk := by simp [Sk]
def cR (S : List (Nat × Nat × List Nat)) (a ci k : Nat) : Option Nat := match S[a]? with
  | some (0, c, l) => if c = ci then (match l[k]? with
    | some (r + 3) => some r
    | _ => none) else none
  | _ => none
def cO (S : List (Nat × Nat × List Nat)) (a ci : Nat) : Bool := match S[a]? with
  | some (0, c, _) => c == ci
  | _ => false
/-- field k of a is of kind z: 0 int, 1 long, 2 null, more a reference -/
def cF (S : List (Nat × Nat × List Nat)) (a ci k : Nat) : Option Nat := match S[a]? with
  | some (0, c, l) => if c = ci then l[k]? else none
  | _ => none
/-- how long the row a of kind z is -/
def cA (S : List (Nat × Nat × List Nat)) (a z : Nat) : Option Nat := match S[a]? with
  | some (t, n, _) => if t = z then some n else none
  | _ => none
theorem cF_spec {h : PH} {a ci k z : Nat} (e : cF (Sk h) a ci k = some z) : ∃ fs v, h[a]? = some (.inr (ci, fs)) ∧ fs[k]? = some v ∧ kV v = z := by
  unfold cF at e
  rw [Sk_at] at e
  cases hc : h[a]? with
  | none => rw [hc] at e; cases e
  | some c =>
    rw [hc] at e
    rcases c with ⟨t, n, f | f | f | f | f⟩ | ⟨c, fs⟩
    · simp [sk] at e
    · simp [sk] at e
    · simp [sk] at e
    · simp [sk] at e
    · simp [sk] at e
    · simp only [sk, Option.map_some] at e
      split at e
      · rename_i hci
        subst hci
        rw [List.getElem?_map] at e
        cases hv : fs[k]? with
        | none => rw [hv] at e; cases e
        | some v => rw [hv] at e; exact ⟨fs, v, rfl, hv, Option.some.inj e⟩
      · cases e
theorem gR_Sk (h : PH) (a ci k : Nat) : gR h a ci k = cR (Sk h) a ci k := by
  unfold gR gV cR
  rw [Sk_at]
  cases hc : h[a]? with
  | none => rfl
  | some c =>
    rcases c with ⟨t, n, f | f | f | f | f⟩ | ⟨c, fs⟩
    · simp [sk]
    · simp [sk]
    · simp [sk]
    · simp [sk]
    · simp [sk]
    · simp only [sk, Option.map_some]
      by_cases hci : c = ci
      · subst hci
        simp only [if_true]
        rw [List.getElem?_map]
        cases hv : fs[k]? with
        | none => rfl
        | some v => rcases v with i | j | _ | r <;> rfl
      · simp [hci]
theorem okO_Sk (h : PH) (a ci : Nat) : okO h a ci = cO (Sk h) a ci := by
  unfold okO cO
  rw [Sk_at]
  cases hc : h[a]? with
  | none => rfl
  | some c =>
    rcases c with ⟨t, n, f | f | f | f | f⟩ | ⟨c, fs⟩ <;> simp [sk]
theorem cA_spec {h : PH} {a t n : Nat} (e : cA (Sk h) a (5 * t + 1) = some n) : ∃ f, h[a]? = some (.inl (t, n, .inl f)) := by
  unfold cA at e
  rw [Sk_at] at e
  cases hc : h[a]? with
  | none => rw [hc] at e; cases e
  | some c =>
    rw [hc] at e
    rcases c with ⟨t', n', f | f | f | f | f⟩ | ⟨c, fs⟩ <;> simp only [sk, Option.map_some] at e <;> split at e <;> first | (cases e; done) | (exfalso; omega) | skip
    · rename_i h1
      have : t' = t := by omega
      subst this
      exact ⟨f, by rw [Option.some.inj e]⟩
theorem cA_specL {h : PH} {a t n : Nat} (e : cA (Sk h) a (5 * t + 2) = some n) : ∃ f, h[a]? = some (.inl (t, n, .inr (.inl f))) := by
  unfold cA at e
  rw [Sk_at] at e
  cases hc : h[a]? with
  | none => rw [hc] at e; cases e
  | some c =>
    rw [hc] at e
    rcases c with ⟨t', n', f | f | f | f | f⟩ | ⟨c, fs⟩ <;> simp only [sk, Option.map_some] at e <;> split at e <;> first | (cases e; done) | (exfalso; omega) | skip
    · rename_i h1
      have : t' = t := by omega
      subst this
      exact ⟨f, by rw [Option.some.inj e]⟩
/-- a row of references, as the shape has it -/
def cW (S : List (Nat × Nat × List Nat)) (a : Nat) : Option (Nat × List Nat) := match S[a]? with
  | some (t, n, l) => if t = 25 then some (n, l) else none
  | _ => none
theorem cW_spec {h : PH} {a n : Nat} {l : List Nat} (e : cW (Sk h) a = some (n, l)) : ∃ f, h[a]? = some (.inl (4, n, .inr (.inr (.inr (.inr f))))) ∧ l = (List.range n).map (fun k => kO (f k)) := by
  unfold cW at e
  rw [Sk_at] at e
  cases hc : h[a]? with
  | none => rw [hc] at e; cases e
  | some c =>
    rw [hc] at e
    rcases c with ⟨t', n', f | f | f | f | f⟩ | ⟨c, fs⟩ <;> simp only [sk, Option.map_some] at e <;> split at e <;> first | (cases e; done) | (exfalso; omega) | skip
    · rename_i h1
      have : t' = 4 := by omega
      subst this
      have e1 := congrArg Prod.fst (Option.some.inj e)
      have e2 := congrArg Prod.snd (Option.some.inj e)
      simp only at e1 e2
      subst e1
      exact ⟨f, rfl, e2.symm⟩
theorem st_s {h : PH} {a : Nat} {c c0 : PC} (e : h[a]? = some c0) : (h.set a c)[a]? = some c := List.getElem?_set_self (List.getElem?_eq_some_iff.mp e).1
theorem st_n {h : PH} {a x : Nat} {c : PC} (hx : a ≠ x) : (h.set a c)[x]? = h[x]? := List.getElem?_set_ne hx
theorem Sk_set {h : PH} {a : Nat} {c c' : PC} (e : h[a]? = some c) (hs : sk c' = sk c) : Sk (h.set a c') = Sk h := by
  apply List.ext_getElem?
  intro j
  rw [Sk_at, Sk_at]
  by_cases hj : a = j
  · subst hj
    rw [st_s e, e]
    simp [hs]
  · rw [st_n hj]
/-- the shape is kept, the fields that P names, the rows that R names -/
def Kp (P : Nat → Nat → Prop) (R : Nat → Prop) (h h' : PH) : Prop := Sk h' = Sk h ∧ (∀ a c k, P a k → gV h' a c k = gV h a c k) ∧ (∀ a t i, R a → aI h' a t i = aI h a t i)
theorem Kp.rf {P : Nat → Nat → Prop} {R : Nat → Prop} {h : PH} : Kp P R h h := ⟨rfl, fun _ _ _ _ => rfl, fun _ _ _ _ => rfl⟩
theorem Kp.tr {P : Nat → Nat → Prop} {R : Nat → Prop} {h h1 h2 : PH} (a : Kp P R h h1) (b : Kp P R h1 h2) : Kp P R h h2 := ⟨b.1.trans a.1, fun x c k p => (b.2.1 x c k p).trans (a.2.1 x c k p), fun x t i r => (b.2.2 x t i r).trans (a.2.2 x t i r)⟩
theorem Kp.mono {P P' : Nat → Nat → Prop} {R R' : Nat → Prop} {h h1 : PH} (a : Kp P R h h1) (hp : ∀ x k, P' x k → P x k) (hr : ∀ x, R' x → R x) : Kp P' R' h h1 := ⟨a.1, fun x c k p => a.2.1 x c k (hp x k p), fun x t i r => a.2.2 x t i (hr x r)⟩
theorem gI_mk {h : PH} {a ci k : Nat} {v : Int32} (e : gV h a ci k = some (.inl v)) : gI h a ci k = some v := by unfold gI; rw [e]
theorem Kp_gI {P : Nat → Nat → Prop} {R : Nat → Prop} {h h1 : PH} (a : Kp P R h h1) {x c k : Nat} (p : P x k) : gI h1 x c k = gI h x c k := by have e := a.2.1 x c k p; show (match gV h1 x c k with | some (.inl v) => some v | _ => none) = (match gV h x c k with | some (.inl v) => some v | _ => none); rw [e]
theorem gI_ex {h : PH} {a ci k : Nat} (e : cF (Sk h) a ci k = some 0) : ∃ v, gI h a ci k = some v := by
  obtain ⟨fs, v, h1, h2, h3⟩ := cF_spec e
  rcases v with i | j | _ | r
  · exact ⟨i, by unfold gI gV; rw [h1]; simp [h2]⟩
  · cases h3
  · cases h3
  · cases h3
theorem gJ_ex {h : PH} {a ci k : Nat} (e : cF (Sk h) a ci k = some 1) : ∃ v, gJ h a ci k = some v := by
  obtain ⟨fs, v, h1, h2, h3⟩ := cF_spec e
  rcases v with i | j | _ | r
  · cases h3
  · exact ⟨j, by unfold gJ gV; rw [h1]; simp [h2]⟩
  · cases h3
  · simp [kV] at h3
theorem pV_ex {h : PH} {a ci k z : Nat} (e : cF (Sk h) a ci k = some z) (v : PV) (hz : kV v = z) : ∃ h', pV h a ci k v = some h' ∧ Kp (fun x j => ¬ (x = a ∧ j = k)) (fun _ => True) h h' ∧ gV h' a ci k = some v := by
  obtain ⟨fs, w, h1, h2, h3⟩ := cF_spec e
  have hk : k < fs.length := (List.getElem?_eq_some_iff.mp h2).1
  have hl : a < h.length := (List.getElem?_eq_some_iff.mp h1).1
  refine ⟨h.set a (.inr (ci, fs.set k v)), ?_, ⟨Sk_set h1 ?_, ?_, ?_⟩, ?_⟩
  · unfold pV; rw [h1]; simp [hk]
  · simp only [sk]
    congr 2
    apply List.ext_getElem?
    intro j
    rw [List.getElem?_map, List.getElem?_map]
    by_cases hj : k = j
    · subst hj
      rw [List.getElem?_set_self hk, h2]
      simp [h3, hz]
    · rw [List.getElem?_set_ne hj]
  · intro x c j p
    unfold gV
    by_cases hx : a = x
    · subst hx
      rw [st_s h1, h1]
      simp only
      by_cases hc : ci = c
      · subst hc
        have hj : k ≠ j := fun q => p ⟨rfl, q.symm⟩
        rw [if_pos rfl, if_pos rfl, List.getElem?_set_ne hj]
      · rw [if_neg hc, if_neg hc]
    · rw [st_n hx]
  · intro x t i _
    unfold aI
    by_cases hx : a = x
    · subst hx
      rw [st_s h1, h1]
    · rw [st_n hx]
  · unfold gV
    rw [st_s h1]
    exact (if_pos rfl).trans (List.getElem?_set_self hk)
theorem pI_ex {h : PH} {a ci k : Nat} (e : cF (Sk h) a ci k = some 0) (v : Int32) : ∃ h', pI h a ci k v = some h' ∧ Kp (fun x j => ¬ (x = a ∧ j = k)) (fun _ => True) h h' ∧ gI h' a ci k = some v := by
  obtain ⟨h', e1, e2, e3⟩ := pV_ex e (.inl v) rfl
  exact ⟨h', e1, e2, gI_mk e3⟩
theorem pJ_ex {h : PH} {a ci k : Nat} (e : cF (Sk h) a ci k = some 1) (v : Int64) : ∃ h', pJ h a ci k v = some h' ∧ Kp (fun x j => ¬ (x = a ∧ j = k)) (fun _ => True) h h' := by
  obtain ⟨h', e1, e2, e3⟩ := pV_ex e (.inr (.inl v)) rfl
  exact ⟨h', e1, e2⟩
theorem aI_ex {h : PH} {a t n : Nat} (e : cA (Sk h) a (5 * t + 1) = some n) {i : Int32} (hi : vp_in i n) : ∃ v, aI h a t i = some v := by
  obtain ⟨f, h1⟩ := cA_spec e
  exact ⟨f i.toNatClampNeg, by unfold aI; rw [h1]; exact if_pos ⟨rfl, hi⟩⟩
theorem sI_ex {h : PH} {a t n : Nat} (e : cA (Sk h) a (5 * t + 1) = some n) {i : Int32} (hi : vp_in i n) (x : Int32) : ∃ h', sI h a t i x = some h' ∧ Kp (fun _ _ => True) (fun y => y ≠ a) h h' ∧ aI h' a t i = some x := by
  obtain ⟨f, h1⟩ := cA_spec e
  have hl : a < h.length := (List.getElem?_eq_some_iff.mp h1).1
  refine ⟨h.set a (.inl (t, n, .inl (upd f i.toNatClampNeg x))), ?_, ⟨Sk_set h1 rfl, ?_, ?_⟩, ?_⟩
  · unfold sI; rw [h1]; exact if_pos ⟨rfl, hi⟩
  · intro y c j _
    unfold gV
    by_cases hx : a = y
    · subst hx
      rw [st_s h1, h1]
    · rw [st_n hx]
  · intro y t' i' hy
    unfold aI
    rw [st_n (Ne.symm hy)]
  · unfold aI
    rw [st_s h1]
    exact (if_pos ⟨rfl, hi⟩).trans (by simp [upd])
theorem cp_ex {h : PH} {a0 a1 n0 n1 : Nat} (e0 : cA (Sk h) a0 1 = some n0) (e1 : cA (Sk h) a1 1 = some n1) {sp dp n : Int32} (h1 : ¬ sp < 0) (h2 : ¬ dp < 0) (h3 : ¬ n < 0) (h4 : sp.toNatClampNeg + n.toNatClampNeg ≤ n0) (h5 : dp.toNatClampNeg + n.toNatClampNeg ≤ n1) : ∃ h', cpI h a0 sp a1 dp n = some h' ∧ Kp (fun _ _ => True) (fun y => y ≠ a1) h h' := by
  obtain ⟨f, g0⟩ := cA_spec (t := 0) e0
  obtain ⟨g, g1⟩ := cA_spec (t := 0) e1
  have hl : a1 < h.length := (List.getElem?_eq_some_iff.mp g1).1
  refine ⟨_, ?_, ⟨Sk_set (c' := .inl (0, n1, .inl (va_cpy f g sp.toNatClampNeg dp.toNatClampNeg n.toNatClampNeg))) g1 rfl, ?_, ?_⟩⟩
  · unfold cpI; rw [g0, g1]; exact if_pos ⟨rfl, rfl, h1, h2, h3, h4, h5⟩
  · intro y c j _
    unfold gV
    by_cases hx : a1 = y
    · subst hx
      rw [st_s g1, g1]
    · rw [st_n hx]
  · intro y t' i' hy
    unfold aI
    rw [st_n (Ne.symm hy)]
-- a pure function comes to an end
theorem bx {α β : Type} {x : Option α} {v : α} (e : x = some v) {k : α → Option β} {P : β → Prop} (h : ∃ y, k v = some y ∧ P y) : ∃ y, x.bind k = some y ∧ P y := by
  subst e; exact h
theorem cx {β : Type} {c : Bool} {x : Option β} {P : β → Prop} (e : c = true) (h : ∃ y, x = some y ∧ P y) : ∃ y, (cond c x none) = some y ∧ P y := by
  subst e; exact h
theorem ixp {β : Type} {c : Prop} [Decidable c] {x z : Option β} {P : β → Prop} (e : c) (h : ∃ y, x = some y ∧ P y) : ∃ y, (if c then x else z) = some y ∧ P y := by
  rw [if_pos e]; exact h
theorem ixn {β : Type} {c : Prop} [Decidable c] {x z : Option β} {P : β → Prop} (e : ¬ c) (h : ∃ y, z = some y ∧ P y) : ∃ y, (if c then x else z) = some y ∧ P y := by
  rw [if_neg e]; exact h
theorem ox {β : Type} {x : Option β} {P : β → Prop} {y : β} (e : x = some y) (h : P y) : ∃ y, x = some y ∧ P y := ⟨y, e, h⟩
theorem rz0 (h : PH) : rz 0 h = some (0, h) := if_pos (Or.inl rfl)
theorem rz1 (h : PH) : rz 1 h = some (1, h) := if_pos (Or.inr rfl)
theorem of_isSome {α : Type} {x : Option α} (d : α) (e : x.isSome = true) : x = some (x.getD d) := by
  cases x with
  | none => cases e
  | some v => rfl
