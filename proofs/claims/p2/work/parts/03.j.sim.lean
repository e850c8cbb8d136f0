/-! A pure function over a heap does what a function over a memory of integers says, where that one says something. -/
def gd3 {α : Type} (e : Int) (x : Option α) : Option α := if -2147483648 ≤ e ∧ e ≤ 2147483647 then x else none
def gd6 {α : Type} (e : Int) (x : Option α) : Option α := if -9223372036854775808 ≤ e ∧ e ≤ 9223372036854775807 then x else none
def gdx {α : Type} (i n : Int) (x : Option α) : Option α := if 0 ≤ i ∧ i < n then x else none
def gdd {α : Type} (a b : Int) (x : Option α) : Option α := if 0 ≤ a ∧ 0 < b then x else none
def gdb {α : Type} (a : Int) (x : Option α) : Option α := if a = 0 ∨ a = 1 then x else none
def gde {α : Type} (a b : Int) (x : Option α) : Option α := if a = b then x else none
def wt {α : Type} (m : Mem) (k : Mem → Option α) : Option α := k m
theorem gd3_t {α : Type} {e : Int} {x : Option α} (h : -2147483648 ≤ e ∧ e ≤ 2147483647) : gd3 e x = x := if_pos h
theorem gd6_t {α : Type} {e : Int} {x : Option α} (h : -9223372036854775808 ≤ e ∧ e ≤ 9223372036854775807) : gd6 e x = x := if_pos h
theorem gdx_t {α : Type} {i n : Int} {x : Option α} (h : 0 ≤ i ∧ i < n) : gdx i n x = x := if_pos h
theorem gdd_t {α : Type} {a b : Int} {x : Option α} (h : 0 ≤ a ∧ 0 < b) : gdd a b x = x := if_pos h
theorem gdb_t {α : Type} {a : Int} {x : Option α} (h : a = 0 ∨ a = 1) : gdb a x = x := if_pos h
theorem gde_t {α : Type} {a b : Int} {x : Option α} (h : a = b) : gde a b x = x := if_pos h
section SIM
variable {OK : PH → Prop}
def SimI (OK : PH → Prop) (x : Option (Int32 × PH)) (y : Option (Int × Mem)) : Prop := ∀ o, y = some o → ∃ h', x = some (Z3 o.1, h') ∧ OK h' ∧ rd h' = o.2 ∧ r3 o.1
def SimJ (OK : PH → Prop) (x : Option (Int64 × PH)) (y : Option (Int × Mem)) : Prop := ∀ o, y = some o → ∃ h', x = some (Z6 o.1, h') ∧ OK h' ∧ rd h' = o.2 ∧ r6 o.1
def SimV (OK : PH → Prop) (x : Option PH) (y : Option Mem) : Prop := ∀ o, y = some o → ∃ h', x = some h' ∧ OK h' ∧ rd h' = o
/-- ends in a reference or in none: -1 tells none -/
def SimR (OK : PH → Prop) (Q : Nat → Prop) (x : Option (Option Nat × PH)) (y : Option (Int × Mem)) : Prop := ∀ o, y = some o → ∃ h', OK h' ∧ rd h' = o.2 ∧ ((o.1 = -1 ∧ x = some (none, h')) ∨ ∃ r : Nat, o.1 = r ∧ Q r ∧ x = some (some r, h'))
-- a relation of the two that looks at y only where it says something
def SmL {α β : Type} (R : Option α → Option β → Prop) : Prop := (∀ x, R x none)
theorem smI_none (x : Option (Int32 × PH)) : SimI OK x none := fun _ e => nomatch e
theorem smJ_none (x : Option (Int64 × PH)) : SimJ OK x none := fun _ e => nomatch e
theorem smV_none (x : Option PH) : SimV OK x none := fun _ e => nomatch e
theorem smR_none {Q : Nat → Prop} (x : Option (Option Nat × PH)) : SimR OK Q x none := fun _ e => nomatch e
-- what is read
theorem sm_rd {α β γ : Type} {R : Option α → Option β → Prop} {x : Option γ} {v : γ} (e : x = some v) {f : γ → Option α} {y : Option β} (h : R (f v) y) : R (x.bind f) y := by subst e; exact h
theorem sm_cd {α β : Type} {R : Option α → Option β → Prop} {c : Bool} (e : c = true) {x : Option α} {y : Option β} (h : R x y) : R (cond c x none) y := by subst e; exact h
theorem sm_if {α β : Type} {R : Option α → Option β → Prop} {c C : Prop} [Decidable c] [Decidable C] (hc : c ↔ C) {a a' : Option α} {b b' : Option β} (h1 : R a b) (h2 : R a' b') : R (if c then a else a') (if C then b else b') := by
  by_cases h : c
  · rw [if_pos h, if_pos (hc.mp h)]; exact h1
  · rw [if_neg h, if_neg (fun q => h (hc.mpr q))]; exact h2
-- guards
theorem sg3I {e : Int} {x : Option (Int32 × PH)} {y : Option (Int × Mem)} (h : r3 e → SimI OK x y) : SimI OK x (gd3 e y) := by
  unfold gd3; by_cases c : -2147483648 ≤ e ∧ e ≤ 2147483647
  · rw [if_pos c]; exact h c
  · rw [if_neg c]; exact smI_none x
theorem sg3J {e : Int} {x : Option (Int64 × PH)} {y : Option (Int × Mem)} (h : r3 e → SimJ OK x y) : SimJ OK x (gd3 e y) := by
  unfold gd3; by_cases c : -2147483648 ≤ e ∧ e ≤ 2147483647
  · rw [if_pos c]; exact h c
  · rw [if_neg c]; exact smJ_none x
theorem sg3V {e : Int} {x : Option PH} {y : Option Mem} (h : r3 e → SimV OK x y) : SimV OK x (gd3 e y) := by
  unfold gd3; by_cases c : -2147483648 ≤ e ∧ e ≤ 2147483647
  · rw [if_pos c]; exact h c
  · rw [if_neg c]; exact smV_none x
theorem sg3R {Q : Nat → Prop} {e : Int} {x : Option (Option Nat × PH)} {y : Option (Int × Mem)} (h : r3 e → SimR OK Q x y) : SimR OK Q x (gd3 e y) := by
  unfold gd3; by_cases c : -2147483648 ≤ e ∧ e ≤ 2147483647
  · rw [if_pos c]; exact h c
  · rw [if_neg c]; exact smR_none x
theorem sg6I {e : Int} {x : Option (Int32 × PH)} {y : Option (Int × Mem)} (h : r6 e → SimI OK x y) : SimI OK x (gd6 e y) := by
  unfold gd6; by_cases c : -9223372036854775808 ≤ e ∧ e ≤ 9223372036854775807
  · rw [if_pos c]; exact h c
  · rw [if_neg c]; exact smI_none x
theorem sg6J {e : Int} {x : Option (Int64 × PH)} {y : Option (Int × Mem)} (h : r6 e → SimJ OK x y) : SimJ OK x (gd6 e y) := by
  unfold gd6; by_cases c : -9223372036854775808 ≤ e ∧ e ≤ 9223372036854775807
  · rw [if_pos c]; exact h c
  · rw [if_neg c]; exact smJ_none x
theorem sg6V {e : Int} {x : Option PH} {y : Option Mem} (h : r6 e → SimV OK x y) : SimV OK x (gd6 e y) := by
  unfold gd6; by_cases c : -9223372036854775808 ≤ e ∧ e ≤ 9223372036854775807
  · rw [if_pos c]; exact h c
  · rw [if_neg c]; exact smV_none x
theorem sgxI {i n : Int} {x : Option (Int32 × PH)} {y : Option (Int × Mem)} (h : 0 ≤ i ∧ i < n → SimI OK x y) : SimI OK x (gdx i n y) := by
  unfold gdx; by_cases c : 0 ≤ i ∧ i < n
  · rw [if_pos c]; exact h c
  · rw [if_neg c]; exact smI_none x
theorem sgxJ {i n : Int} {x : Option (Int64 × PH)} {y : Option (Int × Mem)} (h : 0 ≤ i ∧ i < n → SimJ OK x y) : SimJ OK x (gdx i n y) := by
  unfold gdx; by_cases c : 0 ≤ i ∧ i < n
  · rw [if_pos c]; exact h c
  · rw [if_neg c]; exact smJ_none x
theorem sgxV {i n : Int} {x : Option PH} {y : Option Mem} (h : 0 ≤ i ∧ i < n → SimV OK x y) : SimV OK x (gdx i n y) := by
  unfold gdx; by_cases c : 0 ≤ i ∧ i < n
  · rw [if_pos c]; exact h c
  · rw [if_neg c]; exact smV_none x
theorem sgxR {Q : Nat → Prop} {i n : Int} {x : Option (Option Nat × PH)} {y : Option (Int × Mem)} (h : 0 ≤ i ∧ i < n → SimR OK Q x y) : SimR OK Q x (gdx i n y) := by
  unfold gdx; by_cases c : 0 ≤ i ∧ i < n
  · rw [if_pos c]; exact h c
  · rw [if_neg c]; exact smR_none x
theorem sgdI {a b : Int} {x : Option (Int32 × PH)} {y : Option (Int × Mem)} (h : 0 ≤ a ∧ 0 < b → SimI OK x y) : SimI OK x (gdd a b y) := by
  unfold gdd; by_cases c : 0 ≤ a ∧ 0 < b
  · rw [if_pos c]; exact h c
  · rw [if_neg c]; exact smI_none x
theorem sgdV {a b : Int} {x : Option PH} {y : Option Mem} (h : 0 ≤ a ∧ 0 < b → SimV OK x y) : SimV OK x (gdd a b y) := by
  unfold gdd; by_cases c : 0 ≤ a ∧ 0 < b
  · rw [if_pos c]; exact h c
  · rw [if_neg c]; exact smV_none x
theorem sgbI {a : Int} {x : Option (Int32 × PH)} {y : Option (Int × Mem)} (h : a = 0 ∨ a = 1 → SimI OK x y) : SimI OK x (gdb a y) := by
  unfold gdb; by_cases c : a = 0 ∨ a = 1
  · rw [if_pos c]; exact h c
  · rw [if_neg c]; exact smI_none x
theorem sgbJ {a : Int} {x : Option (Int64 × PH)} {y : Option (Int × Mem)} (h : a = 0 ∨ a = 1 → SimJ OK x y) : SimJ OK x (gdb a y) := by
  unfold gdb; by_cases c : a = 0 ∨ a = 1
  · rw [if_pos c]; exact h c
  · rw [if_neg c]; exact smJ_none x
theorem sgbV {a : Int} {x : Option PH} {y : Option Mem} (h : a = 0 ∨ a = 1 → SimV OK x y) : SimV OK x (gdb a y) := by
  unfold gdb; by_cases c : a = 0 ∨ a = 1
  · rw [if_pos c]; exact h c
  · rw [if_neg c]; exact smV_none x
theorem sgbR {Q : Nat → Prop} {a : Int} {x : Option (Option Nat × PH)} {y : Option (Int × Mem)} (h : a = 0 ∨ a = 1 → SimR OK Q x y) : SimR OK Q x (gdb a y) := by
  unfold gdb; by_cases c : a = 0 ∨ a = 1
  · rw [if_pos c]; exact h c
  · rw [if_neg c]; exact smR_none x
theorem sgeI {a b : Int} {x : Option (Int32 × PH)} {y : Option (Int × Mem)} (h : a = b → SimI OK x y) : SimI OK x (gde a b y) := by
  unfold gde; by_cases c : a = b
  · rw [if_pos c]; exact h c
  · rw [if_neg c]; exact smI_none x
theorem sgeV {a b : Int} {x : Option PH} {y : Option Mem} (h : a = b → SimV OK x y) : SimV OK x (gde a b y) := by
  unfold gde; by_cases c : a = b
  · rw [if_pos c]; exact h c
  · rw [if_neg c]; exact smV_none x
-- what is written
theorem sm_wt {α β : Type} {R : Option α → Option β → Prop} {x : Option PH} {m : Mem} (e : ∃ h', x = some h' ∧ OK h' ∧ rd h' = m) {f : PH → Option α} {g : Mem → Option β} (h : ∀ h', OK h' → R (f h') (g (rd h'))) : R (x.bind f) (wt m g) := by
  obtain ⟨h', e1, e2, e3⟩ := e
  subst e1 e3
  exact h h' e2
-- calls: of one that gives I, J, V, R, in one that gives I, J, V, R
theorem sm_II {x : Option (Int32 × PH)} {y : Option (Int × Mem)} (s : SimI OK x y) {f : Int32 × PH → Option (Int32 × PH)} {g : Int × Mem → Option (Int × Mem)} (h : ∀ v h', OK h' → r3 v → SimI OK (f (Z3 v, h')) (g (v, rd h'))) : SimI OK (x.bind f) (y.bind g) := by
  intro o e
  obtain ⟨⟨v, m⟩, e1, e2⟩ := ob e
  obtain ⟨h', f1, f2, f3, f4⟩ := s _ e1
  subst f1
  simp only at f3
  subst f3
  exact h v h' f2 f4 o e2
theorem sm_IJ {x : Option (Int32 × PH)} {y : Option (Int × Mem)} (s : SimI OK x y) {f : Int32 × PH → Option (Int64 × PH)} {g : Int × Mem → Option (Int × Mem)} (h : ∀ v h', OK h' → r3 v → SimJ OK (f (Z3 v, h')) (g (v, rd h'))) : SimJ OK (x.bind f) (y.bind g) := by
  intro o e
  obtain ⟨⟨v, m⟩, e1, e2⟩ := ob e
  obtain ⟨h', f1, f2, f3, f4⟩ := s _ e1
  subst f1
  simp only at f3
  subst f3
  exact h v h' f2 f4 o e2
theorem sm_IV {x : Option (Int32 × PH)} {y : Option (Int × Mem)} (s : SimI OK x y) {f : Int32 × PH → Option PH} {g : Int × Mem → Option Mem} (h : ∀ v h', OK h' → r3 v → SimV OK (f (Z3 v, h')) (g (v, rd h'))) : SimV OK (x.bind f) (y.bind g) := by
  intro o e
  obtain ⟨⟨v, m⟩, e1, e2⟩ := ob e
  obtain ⟨h', f1, f2, f3, f4⟩ := s _ e1
  subst f1
  simp only at f3
  subst f3
  exact h v h' f2 f4 o e2
theorem sm_IR {Q : Nat → Prop} {x : Option (Int32 × PH)} {y : Option (Int × Mem)} (s : SimI OK x y) {f : Int32 × PH → Option (Option Nat × PH)} {g : Int × Mem → Option (Int × Mem)} (h : ∀ v h', OK h' → r3 v → SimR OK Q (f (Z3 v, h')) (g (v, rd h'))) : SimR OK Q (x.bind f) (y.bind g) := by
  intro o e
  obtain ⟨⟨v, m⟩, e1, e2⟩ := ob e
  obtain ⟨h', f1, f2, f3, f4⟩ := s _ e1
  subst f1
  simp only at f3
  subst f3
  exact h v h' f2 f4 o e2
theorem sm_JI {x : Option (Int64 × PH)} {y : Option (Int × Mem)} (s : SimJ OK x y) {f : Int64 × PH → Option (Int32 × PH)} {g : Int × Mem → Option (Int × Mem)} (h : ∀ v h', OK h' → r6 v → SimI OK (f (Z6 v, h')) (g (v, rd h'))) : SimI OK (x.bind f) (y.bind g) := by
  intro o e
  obtain ⟨⟨v, m⟩, e1, e2⟩ := ob e
  obtain ⟨h', f1, f2, f3, f4⟩ := s _ e1
  subst f1
  simp only at f3
  subst f3
  exact h v h' f2 f4 o e2
theorem sm_JJ {x : Option (Int64 × PH)} {y : Option (Int × Mem)} (s : SimJ OK x y) {f : Int64 × PH → Option (Int64 × PH)} {g : Int × Mem → Option (Int × Mem)} (h : ∀ v h', OK h' → r6 v → SimJ OK (f (Z6 v, h')) (g (v, rd h'))) : SimJ OK (x.bind f) (y.bind g) := by
  intro o e
  obtain ⟨⟨v, m⟩, e1, e2⟩ := ob e
  obtain ⟨h', f1, f2, f3, f4⟩ := s _ e1
  subst f1
  simp only at f3
  subst f3
  exact h v h' f2 f4 o e2
theorem sm_JV {x : Option (Int64 × PH)} {y : Option (Int × Mem)} (s : SimJ OK x y) {f : Int64 × PH → Option PH} {g : Int × Mem → Option Mem} (h : ∀ v h', OK h' → r6 v → SimV OK (f (Z6 v, h')) (g (v, rd h'))) : SimV OK (x.bind f) (y.bind g) := by
  intro o e
  obtain ⟨⟨v, m⟩, e1, e2⟩ := ob e
  obtain ⟨h', f1, f2, f3, f4⟩ := s _ e1
  subst f1
  simp only at f3
  subst f3
  exact h v h' f2 f4 o e2
theorem sm_VI {x : Option PH} {y : Option Mem} (s : SimV OK x y) {f : PH → Option (Int32 × PH)} {g : Mem → Option (Int × Mem)} (h : ∀ h', OK h' → SimI OK (f h') (g (rd h'))) : SimI OK (x.bind f) (y.bind g) := by
  intro o e
  obtain ⟨m, e1, e2⟩ := ob e
  obtain ⟨h', f1, f2, f3⟩ := s _ e1
  subst f1 f3
  exact h h' f2 o e2
theorem sm_VJ {x : Option PH} {y : Option Mem} (s : SimV OK x y) {f : PH → Option (Int64 × PH)} {g : Mem → Option (Int × Mem)} (h : ∀ h', OK h' → SimJ OK (f h') (g (rd h'))) : SimJ OK (x.bind f) (y.bind g) := by
  intro o e
  obtain ⟨m, e1, e2⟩ := ob e
  obtain ⟨h', f1, f2, f3⟩ := s _ e1
  subst f1 f3
  exact h h' f2 o e2
theorem sm_VV {x : Option PH} {y : Option Mem} (s : SimV OK x y) {f : PH → Option PH} {g : Mem → Option Mem} (h : ∀ h', OK h' → SimV OK (f h') (g (rd h'))) : SimV OK (x.bind f) (y.bind g) := by
  intro o e
  obtain ⟨m, e1, e2⟩ := ob e
  obtain ⟨h', f1, f2, f3⟩ := s _ e1
  subst f1 f3
  exact h h' f2 o e2
theorem sm_VR {Q : Nat → Prop} {x : Option PH} {y : Option Mem} (s : SimV OK x y) {f : PH → Option (Option Nat × PH)} {g : Mem → Option (Int × Mem)} (h : ∀ h', OK h' → SimR OK Q (f h') (g (rd h'))) : SimR OK Q (x.bind f) (y.bind g) := by
  intro o e
  obtain ⟨m, e1, e2⟩ := ob e
  obtain ⟨h', f1, f2, f3⟩ := s _ e1
  subst f1 f3
  exact h h' f2 o e2
theorem sm_RI {Q : Nat → Prop} {x : Option (Option Nat × PH)} {y : Option (Int × Mem)} (s : SimR OK Q x y) {f0 : PH → Option (Int32 × PH)} {f1 : Nat → PH → Option (Int32 × PH)} {g0 : Mem → Option (Int × Mem)} {g1 : Nat → Mem → Option (Int × Mem)} (h0 : ∀ h', OK h' → SimI OK (f0 h') (g0 (rd h'))) (h1 : ∀ r h', OK h' → Q r → SimI OK (f1 r h') (g1 r (rd h'))) : SimI OK (x.bind fun o => match o.1 with | none => f0 o.2 | some r => f1 r o.2) (y.bind fun o => if o.1 = -1 then g0 o.2 else g1 o.1.toNat o.2) := by
  intro o e
  obtain ⟨⟨v, m⟩, e1, e2⟩ := ob e
  obtain ⟨h', p1, p2, ⟨p3, p4⟩ | ⟨r, p3, p4, p5⟩⟩ := s _ e1
  · subst p4
    simp only at p2 p3
    subst p2 p3
    exact h0 h' p1 o (by simpa using e2)
  · subst p5
    simp only at p2 p3
    subst p2 p3
    have hr : ¬ ((r : Int) = -1) := by omega
    simp only [hr, if_false, Int.toNat_natCast] at e2
    exact h1 r h' p1 p4 o e2
-- ends
theorem sm_retI {h : PH} (H : OK h) {v : Int32} {V : Int} (e : v = Z3 V) (hr : r3 V) : SimI OK (some (v, h)) (some (V, rd h)) := by
  intro o q
  have := Option.some.inj q
  subst this e
  exact ⟨h, rfl, H, rfl, hr⟩
theorem sm_retJ {h : PH} (H : OK h) {v : Int64} {V : Int} (e : v = Z6 V) (hr : r6 V) : SimJ OK (some (v, h)) (some (V, rd h)) := by
  intro o q
  have := Option.some.inj q
  subst this e
  exact ⟨h, rfl, H, rfl, hr⟩
theorem sm_retV {h : PH} (H : OK h) : SimV OK (some h) (some (rd h)) := by
  intro o q
  have := Option.some.inj q
  subst this
  exact ⟨h, rfl, H, rfl⟩
theorem sm_retR0 {Q : Nat → Prop} {h : PH} (H : OK h) : SimR OK Q (some (none, h)) (some (-1, rd h)) := by
  intro o q
  have := Option.some.inj q
  subst this
  exact ⟨h, H, rfl, Or.inl ⟨rfl, rfl⟩⟩
theorem sm_retR1 {Q : Nat → Prop} {h : PH} (H : OK h) {r : Nat} (hq : Q r) : SimR OK Q (some (some r, h)) (some ((r : Int), rd h)) := by
  intro o q
  have := Option.some.inj q
  subst this
  exact ⟨h, H, rfl, Or.inr ⟨r, rfl, hq, rfl⟩⟩
theorem sm_rz {h : PH} (H : OK h) {v : Int32} {V : Int} (e : v = Z3 V) (hb : V = 0 ∨ V = 1) : SimI OK (rz v h) (some (V, rd h)) := by
  have : rz v h = some (v, h) := by
    subst e
    rcases hb with rfl | rfl
    · exact rz0 h
    · exact rz1 h
  rw [this]
  refine sm_retI H e ?_
  rcases hb with rfl | rfl
  · exact ⟨by decide, by decide⟩
  · exact ⟨by decide, by decide⟩
end SIM
-- what the heap's shape says of reads and writes
section PRIM
variable {h : PH} {a ci k t n : Nat}
theorem gI_rd (e : cF (Sk h) a ci k = some 0) : gI h a ci k = some (Z3 (rd h a k)) ∧ r3 (rd h a k) := by
  obtain ⟨fs, v, h1, h2, h3⟩ := cF_spec e
  rcases v with i | j | _ | r
  · rw [rd_obj h1 k h2]
    refine ⟨?_, r3_of i⟩
    unfold gI gV
    rw [h1]
    simp only [h2, if_true]
    exact congrArg some (z3_of i)
  · cases h3
  · cases h3
  · cases h3
theorem gJ_rd (e : cF (Sk h) a ci k = some 1) : gJ h a ci k = some (Z6 (rd h a k)) ∧ r6 (rd h a k) := by
  obtain ⟨fs, v, h1, h2, h3⟩ := cF_spec e
  rcases v with i | j | _ | r
  · cases h3
  · rw [rd_obj h1 k h2]
    refine ⟨?_, r6_of j⟩
    unfold gJ gV
    rw [h1]
    simp only [h2, if_true]
    exact congrArg some (z6_of j)
  · cases h3
  · simp [kV] at h3
theorem rd_ref {r : Nat} (e : cF (Sk h) a ci k = some (r + 3)) : rd h a k = r := by
  obtain ⟨fs, v, h1, h2, h3⟩ := cF_spec e
  rw [rd_obj h1 k h2]
  rcases v with i | j | _ | q
  · simp [kV] at h3
  · simp only [kV] at h3; omega
  · simp only [kV] at h3; omega
  · simp only [kV] at h3
    have : q = r := by omega
    subst this; rfl
theorem pV_rd {z : Nat} (e : cF (Sk h) a ci k = some z) (v : PV) (hz : kV v = z) : ∃ h', pV h a ci k v = some h' ∧ Sk h' = Sk h ∧ rd h' = up (rd h) a k (rdV v) := by
  obtain ⟨fs, w, h1, h2, h3⟩ := cF_spec e
  have hk : k < fs.length := (List.getElem?_eq_some_iff.mp h2).1
  refine ⟨h.set a (.inr (ci, fs.set k v)), ?_, Sk_set h1 ?_, rd_setF h1 hk⟩
  · unfold pV; rw [h1]; simp [hk]
  · simp only [sk]
    congr 2
    apply List.ext_getElem?
    intro j
    rw [List.getElem?_map, List.getElem?_map]
    by_cases hj : k = j
    · subst hj
      rw [List.getElem?_set_self hk, h2]
      simp [h3, hz]
    · rw [List.getElem?_set_ne hj]
theorem pI_rd (e : cF (Sk h) a ci k = some 0) {v : Int32} {V : Int} (ev : v = Z3 V) (hr : r3 V) : ∃ h', pI h a ci k v = some h' ∧ Sk h' = Sk h ∧ rd h' = up (rd h) a k V := by
  obtain ⟨h', e1, e2, e3⟩ := pV_rd e (.inl v) rfl
  refine ⟨h', e1, e2, ?_⟩
  rw [e3]
  show up (rd h) a k v.toInt = _
  rw [ev, z3_to hr]
theorem pZ_rd (e : cF (Sk h) a ci k = some 0) {v : Int32} {V : Int} (ev : v = Z3 V) (hb : V = 0 ∨ V = 1) : ∃ h', pZ h a ci k v = some h' ∧ Sk h' = Sk h ∧ rd h' = up (rd h) a k V := by
  have hr : r3 V := by rcases hb with rfl | rfl <;> exact ⟨by decide, by decide⟩
  have hv : v = 0 ∨ v = 1 := by subst ev; rcases hb with rfl | rfl
                                · left; rfl
                                · right; rfl
  obtain ⟨h', e1, e2⟩ := pI_rd e ev hr
  refine ⟨h', ?_, e2⟩
  unfold pZ
  rw [if_pos hv]
  exact e1
theorem pJ_rd (e : cF (Sk h) a ci k = some 1) {v : Int64} {V : Int} (ev : v = Z6 V) (hr : r6 V) : ∃ h', pJ h a ci k v = some h' ∧ Sk h' = Sk h ∧ rd h' = up (rd h) a k V := by
  obtain ⟨h', e1, e2, e3⟩ := pV_rd e (.inr (.inl v)) rfl
  refine ⟨h', e1, e2, ?_⟩
  rw [e3]
  show up (rd h) a k v.toInt = _
  rw [ev, z6_to hr]
theorem in_z3 {i : Int32} {I : Int} (hi : i = Z3 I) {n : Nat} (c : 0 ≤ I ∧ I < (n : Int)) (hn : n < 2147483648) : vp_in i n ∧ i.toNatClampNeg = I.toNat := by
  have hr : r3 I := ⟨by omega, by omega⟩
  have hto : i.toInt = I := by rw [hi, z3_to hr]
  have h1 : i.toNatClampNeg = i.toInt.toNat := rfl
  refine ⟨?_, by rw [h1, hto]⟩
  unfold vp_in
  rintro (z | z)
  · rw [Int32.lt_iff_toInt_lt] at z
    have : (0 : Int32).toInt = 0 := by decide
    omega
  · omega
theorem aI_rd (e : cA (Sk h) a (5 * t + 1) = some n) (hn : n < 2147483648) {i : Int32} {I : Int} (hi : i = Z3 I) (c : 0 ≤ I ∧ I < (n : Int)) : aI h a t i = some (Z3 (rd h a I)) ∧ r3 (rd h a I) := by
  obtain ⟨f, h1⟩ := cA_spec e
  obtain ⟨h2, h3⟩ := in_z3 hi c hn
  rw [rd_row h1 c.1]
  refine ⟨?_, r3_of _⟩
  unfold aI
  rw [h1]
  exact (if_pos ⟨rfl, h2⟩).trans (by rw [h3]; exact congrArg some (z3_of _))
theorem sI_rd (e : cA (Sk h) a (5 * t + 1) = some n) (hn : n < 2147483648) {i : Int32} {I : Int} (hi : i = Z3 I) (c : 0 ≤ I ∧ I < (n : Int)) {x : Int32} {X : Int} (hx : x = Z3 X) (hr : r3 X) : ∃ h', sI h a t i x = some h' ∧ Sk h' = Sk h ∧ rd h' = up (rd h) a I X := by
  obtain ⟨f, h1⟩ := cA_spec e
  obtain ⟨h2, h3⟩ := in_z3 hi c hn
  refine ⟨h.set a (.inl (t, n, .inl (upd f I.toNat x))), ?_, Sk_set h1 rfl, ?_⟩
  · unfold sI; rw [h1]
    exact (if_pos ⟨rfl, h2⟩).trans (by rw [h3])
  · rw [rd_setR h1 c.1, hx, z3_to hr]
theorem aJ_rd (e : cA (Sk h) a 17 = some n) (hn : n < 2147483648) {i : Int32} {I : Int} (hi : i = Z3 I) (c : 0 ≤ I ∧ I < (n : Int)) : aJ h a i = some (Z6 (rd h a I)) ∧ r6 (rd h a I) := by
  obtain ⟨f, h1⟩ := cA_specL (t := 3) e
  obtain ⟨h2, h3⟩ := in_z3 hi c hn
  rw [rd_lrow h1 c.1]
  refine ⟨?_, r6_of _⟩
  unfold aJ
  rw [h1]
  exact (if_pos ⟨rfl, h2⟩).trans (by rw [h3]; exact congrArg some (z6_of _))
theorem sJ_rd (e : cA (Sk h) a 17 = some n) (hn : n < 2147483648) {i : Int32} {I : Int} (hi : i = Z3 I) (c : 0 ≤ I ∧ I < (n : Int)) {x : Int64} {X : Int} (hx : x = Z6 X) (hr : r6 X) : ∃ h', sJ h a i x = some h' ∧ Sk h' = Sk h ∧ rd h' = up (rd h) a I X := by
  obtain ⟨f, h1⟩ := cA_specL (t := 3) e
  obtain ⟨h2, h3⟩ := in_z3 hi c hn
  refine ⟨h.set a (.inl (3, n, .inr (.inl (vp_updL f I.toNat x)))), ?_, Sk_set h1 rfl, ?_⟩
  · unfold sJ; rw [h1]
    exact (if_pos ⟨rfl, h2⟩).trans (by rw [h3])
  · rw [rd_setL h1 c.1, hx, z6_to hr]
theorem aL_rd (e : cA (Sk h) a (5 * t + 1) = some n) (ht : t < 5) : aL h a = some (Z3 (n : Int)) := by
  obtain ⟨f, h1⟩ := cA_spec e
  unfold aL
  rw [h1]
  exact (if_pos ht).trans (congrArg some (Int32.ofInt_eq_ofNat (n := n)).symm)
theorem aL_rdL (e : cA (Sk h) a (5 * t + 2) = some n) (ht : t < 5) : aL h a = some (Z3 (n : Int)) := by
  obtain ⟨f, h1⟩ := cA_specL e
  unfold aL
  rw [h1]
  exact (if_pos ht).trans (congrArg some (Int32.ofInt_eq_ofNat (n := n)).symm)
theorem aR_rd {l : List Nat} {r : Nat} (e : cW (Sk h) a = some (n, l)) (hn : n < 2147483648) {i : Int32} {I : Int} (hi : i = Z3 I) (c : 0 ≤ I ∧ I < (n : Int)) (hl : l[I.toNat]? = some (r + 3)) : aR h a i = some r := by
  obtain ⟨f, h1, h2⟩ := cW_spec e
  obtain ⟨h3, h4⟩ := in_z3 hi c hn
  unfold aR
  rw [h1]
  refine (if_pos ⟨rfl, h3⟩).trans ?_
  rw [h4]
  subst h2
  rw [List.getElem?_map, List.getElem?_range (by omega)] at hl
  have hk : kO (f I.toNat) = r + 3 := Option.some.inj hl
  cases hq : f I.toNat with
  | none => rw [hq] at hk; simp only [kO] at hk; omega
  | some q =>
    rw [hq] at hk
    simp only [kO] at hk
    congr 1
    omega
theorem cpI_rd {a1 n1 : Nat} (e0 : cA (Sk h) a 1 = some n) (e1 : cA (Sk h) a1 1 = some n1) {sp dp q : Int32} {SP DP Q : Int} (h1 : sp = Z3 SP) (h2 : dp = Z3 DP) (h3 : q = Z3 Q) (c : (0 ≤ SP ∧ 0 ≤ DP ∧ 0 ≤ Q) ∧ SP + Q ≤ (n : Int) ∧ DP + Q ≤ (n1 : Int)) (hn : n < 2147483648) (hn1 : n1 < 2147483648) : ∃ h', cpI h a sp a1 dp q = some h' ∧ Sk h' = Sk h ∧ rd h' = cpy (rd h) a SP a1 DP Q := by
  obtain ⟨f, g0⟩ := cA_spec (t := 0) e0
  obtain ⟨g, g1⟩ := cA_spec (t := 0) e1
  obtain ⟨⟨c1, c2, c3⟩, c4, c5⟩ := c
  have t1 : sp.toInt = SP := by rw [h1, z3_to ⟨by omega, by omega⟩]
  have t2 : dp.toInt = DP := by rw [h2, z3_to ⟨by omega, by omega⟩]
  have t3 : q.toInt = Q := by rw [h3, z3_to ⟨by omega, by omega⟩]
  have u1 : sp.toNatClampNeg = sp.toInt.toNat := rfl
  have u2 : dp.toNatClampNeg = dp.toInt.toNat := rfl
  have u3 : q.toNatClampNeg = q.toInt.toNat := rfl
  have z0 : (0 : Int32).toInt = 0 := by decide
  refine ⟨h.set a1 (.inl (0, n1, .inl (va_cpy f g SP.toNat DP.toNat Q.toNat))), ?_, Sk_set g1 rfl, ?_⟩
  · unfold cpI; rw [g0, g1]
    have w1 : sp.toNatClampNeg = SP.toNat := by omega
    have w2 : dp.toNatClampNeg = DP.toNat := by omega
    have w3 : q.toNatClampNeg = Q.toNat := by omega
    refine (if_pos ⟨rfl, rfl, ?_, ?_, ?_, ?_, ?_⟩).trans (by rw [w1, w2, w3])
    · rw [Int32.lt_iff_toInt_lt]; omega
    · rw [Int32.lt_iff_toInt_lt]; omega
    · rw [Int32.lt_iff_toInt_lt]; omega
    · omega
    · omega
  · funext b j
    unfold cpy
    by_cases hb : b = a1
    · subst hb
      by_cases hj : j < 0
      · rw [if_neg (by omega)]
        unfold rd
        rw [if_pos hj, if_pos hj]
      · rw [rd_row (st_s g1) (by omega)]
        unfold va_cpy
        by_cases hd : DP ≤ j ∧ j < DP + Q
        · rw [if_pos (show DP.toNat ≤ j.toNat ∧ j.toNat < DP.toNat + Q.toNat by omega), if_pos ⟨rfl, hd⟩, rd_row g0 (by omega)]
          congr 2
          omega
        · rw [if_neg (show ¬ (DP.toNat ≤ j.toNat ∧ j.toNat < DP.toNat + Q.toNat) by omega), if_neg (fun q => hd q.2), rd_row g1 (by omega)]
    · rw [if_neg (fun q => hb q.1)]
      exact rd_set_ne (Ne.symm hb) j
theorem Sk_setR {r r' : Nat} {v : PV} {h' : PH} (e : cF (Sk h) a ci k = some (r + 3)) (hv : kV v = r' + 3) (hp : pV h a ci k v = some h') : ∃ l, (Sk h)[a]? = some (0, ci, l) ∧ Sk h' = (Sk h).set a (0, ci, l.set k (r' + 3)) := by
  obtain ⟨fs, w, h1, h2, h3⟩ := cF_spec e
  obtain ⟨fs', g1, g2, g3⟩ := pV_spec hp
  rw [h1] at g1
  have : fs = fs' := by simpa using g1
  subst this
  refine ⟨fs.map kV, by rw [Sk_at, h1]; rfl, ?_⟩
  subst g3
  unfold Sk
  rw [List.map_set]
  congr 1
  simp only [sk]
  congr 2
  rw [List.map_set, hv]
theorem pR_rd {r r' : Nat} (e : cF (Sk h) a ci k = some (r + 3)) : ∃ h', pR h a ci k r' = some h' ∧ (∃ l, (Sk h)[a]? = some (0, ci, l) ∧ Sk h' = (Sk h).set a (0, ci, l.set k (r' + 3))) ∧ rd h' = up (rd h) a k r' := by
  obtain ⟨fs, w, h1, h2, h3⟩ := cF_spec e
  have hk : k < fs.length := (List.getElem?_eq_some_iff.mp h2).1
  have hp : pV h a ci k (.inr (.inr (some r'))) = some (h.set a (.inr (ci, fs.set k (.inr (.inr (some r')))))) := by
    unfold pV; rw [h1]; simp [hk]
  exact ⟨_, hp, Sk_setR e rfl hp, rd_setF h1 hk⟩
end PRIM
