/-! Numbers as integers, the heap as a memory of integers. -/
def Z3 (x : Int) : Int32 := Int32.ofInt x
def Z6 (x : Int) : Int64 := Int64.ofInt x
def r3 (x : Int) : Prop := -2147483648 ≤ x ∧ x ≤ 2147483647
def r6 (x : Int) : Prop := -9223372036854775808 ≤ x ∧ x ≤ 9223372036854775807
theorem z3_to {x : Int} (h : r3 x) : (Z3 x).toInt = x := Int32.toInt_ofInt_of_le h.1 (by have := h.2; omega)
theorem z6_to {x : Int} (h : r6 x) : (Z6 x).toInt = x := Int64.toInt_ofInt_of_le h.1 (by have := h.2; omega)
theorem z3_of (v : Int32) : v = Z3 v.toInt := (Int32.ofInt_toInt v).symm
theorem z6_of (v : Int64) : v = Z6 v.toInt := (Int64.ofInt_toInt v).symm
theorem r3_of (v : Int32) : r3 v.toInt := ⟨by have := v.le_toInt; omega, by have := v.toInt_lt; omega⟩
theorem r6_of (v : Int64) : r6 v.toInt := ⟨by have := v.le_toInt; omega, by have := v.toInt_lt; omega⟩
theorem r3_6 {x : Int} (h : r3 x) : r6 x := ⟨by have := h.1; omega, by have := h.2; omega⟩
section ZZ
variable {a b : Int32} {A B : Int}
theorem z3_add (ea : a = Z3 A) (eb : b = Z3 B) : a + b = Z3 (A + B) := by subst ea eb; exact (Int32.ofInt_add A B).symm
theorem z3_sub (ea : a = Z3 A) (eb : b = Z3 B) : a - b = Z3 (A - B) := by subst ea eb; exact (Int32.ofInt_sub A B).symm
theorem z3_mul (ea : a = Z3 A) (eb : b = Z3 B) : a * b = Z3 (A * B) := by subst ea eb; exact (Int32.ofInt_mul A B).symm
theorem z3_neg (ea : a = Z3 A) : -a = Z3 (-A) := by subst ea; exact (Int32.ofInt_neg A).symm
theorem z3_le (ea : a = Z3 A) (eb : b = Z3 B) (ha : r3 A) (hb : r3 B) : a ≤ b ↔ A ≤ B := by subst ea eb; rw [Int32.le_iff_toInt_le, z3_to ha, z3_to hb]
theorem z3_lt (ea : a = Z3 A) (eb : b = Z3 B) (ha : r3 A) (hb : r3 B) : a < b ↔ A < B := by subst ea eb; rw [Int32.lt_iff_toInt_lt, z3_to ha, z3_to hb]
theorem z3_eq (ea : a = Z3 A) (eb : b = Z3 B) (ha : r3 A) (hb : r3 B) : a = b ↔ A = B := by subst ea eb; rw [← Int32.toInt_inj, z3_to ha, z3_to hb]
theorem z3_div (ea : a = Z3 A) (eb : b = Z3 B) (ha : r3 A) (hb : r3 B) (h : 0 ≤ A ∧ 0 < B) : a / b = Z3 (A / B) := by
  subst ea eb
  rw [← Int.tdiv_eq_ediv_of_nonneg h.1]
  apply Int32.toInt.inj
  rw [Int32.toInt_div, z3_to ha, z3_to hb]
  exact (Int32.toInt_ofInt).symm
theorem z3_rem (ea : a = Z3 A) (eb : b = Z3 B) (ha : r3 A) (hb : r3 B) (h : 0 ≤ A ∧ 0 < B) : a - a / b * b = Z3 (A % B) := by
  rw [z3_sub ea (z3_mul (z3_div ea eb ha hb h) eb)]
  congr 1
  rw [Int.emod_def, Int.mul_comm]
theorem z3_ite {c : Prop} {C : Prop} [Decidable c] [Decidable C] (hc : c ↔ C) (ea : a = Z3 A) (eb : b = Z3 B) : (if c then a else b) = Z3 (if C then A else B) := by
  subst ea eb
  by_cases h : c
  · rw [if_pos h, if_pos (hc.mp h)]
  · rw [if_neg h, if_neg (fun q => h (hc.mpr q))]
theorem r3_ite {C : Prop} [Decidable C] (ha : r3 A) (hb : r3 B) : r3 (if C then A else B) := by
  by_cases h : C
  · rw [if_pos h]; exact ha
  · rw [if_neg h]; exact hb
end ZZ
section ZJ
variable {a b : Int64} {A B : Int}
theorem z6_add (ea : a = Z6 A) (eb : b = Z6 B) : a + b = Z6 (A + B) := by subst ea eb; exact (Int64.ofInt_add A B).symm
theorem z6_sub (ea : a = Z6 A) (eb : b = Z6 B) : a - b = Z6 (A - B) := by subst ea eb; exact (Int64.ofInt_sub A B).symm
theorem z6_mul (ea : a = Z6 A) (eb : b = Z6 B) : a * b = Z6 (A * B) := by subst ea eb; exact (Int64.ofInt_mul A B).symm
theorem z6_neg (ea : a = Z6 A) : -a = Z6 (-A) := by subst ea; exact (Int64.ofInt_neg A).symm
theorem z6_le (ea : a = Z6 A) (eb : b = Z6 B) (ha : r6 A) (hb : r6 B) : a ≤ b ↔ A ≤ B := by subst ea eb; rw [Int64.le_iff_toInt_le, z6_to ha, z6_to hb]
theorem z6_lt (ea : a = Z6 A) (eb : b = Z6 B) (ha : r6 A) (hb : r6 B) : a < b ↔ A < B := by subst ea eb; rw [Int64.lt_iff_toInt_lt, z6_to ha, z6_to hb]
theorem z6_eq (ea : a = Z6 A) (eb : b = Z6 B) (ha : r6 A) (hb : r6 B) : a = b ↔ A = B := by subst ea eb; rw [← Int64.toInt_inj, z6_to ha, z6_to hb]
theorem z6_div (ea : a = Z6 A) (eb : b = Z6 B) (ha : r6 A) (hb : r6 B) : a / b = Z6 (A.tdiv B) := by
  subst ea eb
  apply Int64.toInt.inj
  rw [Int64.toInt_div, z6_to ha, z6_to hb]
  exact (Int64.toInt_ofInt).symm
theorem z6_rem (ea : a = Z6 A) (eb : b = Z6 B) (ha : r6 A) (hb : r6 B) : a - a / b * b = Z6 (A.tmod B) := by
  rw [z6_sub ea (z6_mul (z6_div ea eb ha hb) eb)]
  congr 1
  rw [Int.tmod_def, Int.mul_comm]
theorem z6_ite {c : Prop} {C : Prop} [Decidable c] [Decidable C] (hc : c ↔ C) (ea : a = Z6 A) (eb : b = Z6 B) : (if c then a else b) = Z6 (if C then A else B) := by
  subst ea eb
  by_cases h : c
  · rw [if_pos h, if_pos (hc.mp h)]
  · rw [if_neg h, if_neg (fun q => h (hc.mpr q))]
theorem r6_ite {C : Prop} [Decidable C] (ha : r6 A) (hb : r6 B) : r6 (if C then A else B) := by
  by_cases h : C
  · rw [if_pos h]; exact ha
  · rw [if_neg h]; exact hb
-- a comparison of longs, as the machine's number tells it
theorem cmp_c (x y : Int64) : (y < x ∧ lg_cmp x y = 1) ∨ (x = y ∧ lg_cmp x y = 0) ∨ (x < y ∧ lg_cmp x y = -1) := by
  unfold lg_cmp
  by_cases h1 : x > y
  · left; exact ⟨h1, by rw [if_pos h1]⟩
  · by_cases h2 : x = y
    · right; left; exact ⟨h2, by rw [if_neg h1, if_pos h2]⟩
    · right; right
      refine ⟨?_, by rw [if_neg h1, if_neg h2]⟩
      have h3 := Int64.lt_iff_toInt_lt (x := y) (y := x)
      have h4 := Int64.lt_iff_toInt_lt (x := x) (y := y)
      have h5 := Int64.toInt_inj (x := x) (y := y)
      rw [h4]
      have : ¬ y.toInt < x.toInt := fun q => h1 (h3.mpr q)
      have : ¬ x.toInt = y.toInt := fun q => h2 (h5.mp q)
      omega
theorem cmp_t (x y : Int64) : (y.toInt < x.toInt ∧ (lg_cmp x y).toInt = 1) ∨ (x.toInt = y.toInt ∧ (lg_cmp x y).toInt = 0) ∨ (x.toInt < y.toInt ∧ (lg_cmp x y).toInt = -1) := by
  rcases cmp_c x y with ⟨h, e⟩ | ⟨h, e⟩ | ⟨h, e⟩
  · left; exact ⟨Int64.lt_iff_toInt_lt.mp h, by rw [e]; decide⟩
  · right; left; exact ⟨by rw [h], by rw [e]; decide⟩
  · right; right; exact ⟨Int64.lt_iff_toInt_lt.mp h, by rw [e]; decide⟩
theorem cmp_ge (ea : a = Z6 A) (eb : b = Z6 B) (ha : r6 A) (hb : r6 B) : (0 : Int32) ≤ lg_cmp a b ↔ B ≤ A := by
  have h := cmp_t a b
  rw [Int32.le_iff_toInt_le]
  have h0 : (0 : Int32).toInt = 0 := by decide
  have h1 := z6_to ha; have h2 := z6_to hb
  rw [← ea] at h1; rw [← eb] at h2
  omega
theorem cmp_gt (ea : a = Z6 A) (eb : b = Z6 B) (ha : r6 A) (hb : r6 B) : (0 : Int32) < lg_cmp a b ↔ B < A := by
  have h := cmp_t a b
  rw [Int32.lt_iff_toInt_lt]
  have h0 : (0 : Int32).toInt = 0 := by decide
  have h1 := z6_to ha; have h2 := z6_to hb
  rw [← ea] at h1; rw [← eb] at h2
  omega
theorem cmp_le (ea : a = Z6 A) (eb : b = Z6 B) (ha : r6 A) (hb : r6 B) : lg_cmp a b ≤ (0 : Int32) ↔ A ≤ B := by
  have h := cmp_t a b
  rw [Int32.le_iff_toInt_le]
  have h0 : (0 : Int32).toInt = 0 := by decide
  have h1 := z6_to ha; have h2 := z6_to hb
  rw [← ea] at h1; rw [← eb] at h2
  omega
theorem cmp_lt (ea : a = Z6 A) (eb : b = Z6 B) (ha : r6 A) (hb : r6 B) : lg_cmp a b < (0 : Int32) ↔ A < B := by
  have h := cmp_t a b
  rw [Int32.lt_iff_toInt_lt]
  have h0 : (0 : Int32).toInt = 0 := by decide
  have h1 := z6_to ha; have h2 := z6_to hb
  rw [← ea] at h1; rw [← eb] at h2
  omega
theorem cmp_eq (ea : a = Z6 A) (eb : b = Z6 B) (ha : r6 A) (hb : r6 B) : lg_cmp a b = (0 : Int32) ↔ A = B := by
  have h := cmp_t a b
  rw [← Int32.toInt_inj]
  have h0 : (0 : Int32).toInt = 0 := by decide
  have h1 := z6_to ha; have h2 := z6_to hb
  rw [← ea] at h1; rw [← eb] at h2
  omega
theorem z3_to6 {v : Int32} {V : Int} (e : v = Z3 V) (h : r3 V) : Int32.toInt64 v = Z6 V := by
  subst e
  apply Int64.toInt.inj
  rw [Int32.toInt_toInt64, z3_to h, z6_to (r3_6 h)]
theorem z6_to3 {v : Int64} {V : Int} (e : v = Z6 V) : Int64.toInt32 v = Z3 V := by
  subst e
  exact Int64.toInt32_ofInt
end ZJ
-- bits, as integers again
def b3an (a b : Int) : Int := (Z3 a &&& Z3 b).toInt
def b3or (a b : Int) : Int := (Z3 a ||| Z3 b).toInt
def b3xo (a b : Int) : Int := (Z3 a ^^^ Z3 b).toInt
def b3sl (a b : Int) : Int := (Z3 a <<< Z3 b).toInt
def b3sr (a b : Int) : Int := (Z3 a >>> Z3 b).toInt
def b6an (a b : Int) : Int := (Z6 a &&& Z6 b).toInt
def b3by (a : Int) : Int := (vp_nar .byte (Int32.toInt8 (Z3 a)).toInt32).toInt
theorem z3_an {a b : Int32} {A B : Int} (ea : a = Z3 A) (eb : b = Z3 B) : a &&& b = Z3 (b3an A B) := by subst ea eb; exact z3_of _
theorem z3_or {a b : Int32} {A B : Int} (ea : a = Z3 A) (eb : b = Z3 B) : a ||| b = Z3 (b3or A B) := by subst ea eb; exact z3_of _
theorem z3_xo {a b : Int32} {A B : Int} (ea : a = Z3 A) (eb : b = Z3 B) : a ^^^ b = Z3 (b3xo A B) := by subst ea eb; exact z3_of _
theorem z3_sl {a b : Int32} {A B : Int} (ea : a = Z3 A) (eb : b = Z3 B) : a <<< b = Z3 (b3sl A B) := by subst ea eb; exact z3_of _
theorem z3_sr {a b : Int32} {A B : Int} (ea : a = Z3 A) (eb : b = Z3 B) : a >>> b = Z3 (b3sr A B) := by subst ea eb; exact z3_of _
theorem z6_an {a b : Int64} {A B : Int} (ea : a = Z6 A) (eb : b = Z6 B) : a &&& b = Z6 (b6an A B) := by subst ea eb; exact z6_of _
theorem z3_by {a : Int32} {A : Int} (ea : a = Z3 A) : vp_nar .byte (Int32.toInt8 a).toInt32 = Z3 (b3by A) := by subst ea; exact z3_of _
theorem z3_bo {a : Int32} {A : Int} (ea : a = Z3 A) (h : A = 0 ∨ A = 1) : vp_nar .boolean a = Z3 A := by subst ea; rcases h with rfl | rfl <;> decide
/-- the integer at field or place i of cell a -/
def rdV (v : PV) : Int := match v with
  | .inl i => i.toInt
  | .inr (.inl j) => j.toInt
  | .inr (.inr none) => 0
  | .inr (.inr (some r)) => r
def rd (h : PH) (a : Nat) (i : Int) : Int := if i < 0 then 0 else match h[a]? with
  | some (.inr (_, fs)) => (match fs[i.toNat]? with
    | some v => rdV v
    | none => 0)
  | some (.inl (_, _, .inl f)) => (f i.toNat).toInt
  | some (.inl (_, _, .inr (.inl f))) => (f i.toNat).toInt
  | _ => 0
abbrev Mem : Type := Nat → Int → Int
def up (m : Mem) (a : Nat) (i v : Int) : Mem := fun b j => if b = a ∧ j = i then v else m b j
def cpy (m : Mem) (a0 : Nat) (sp : Int) (a1 : Nat) (dp n : Int) : Mem := fun b j => if b = a1 ∧ dp ≤ j ∧ j < dp + n then m a0 (sp + (j - dp)) else m b j
theorem rd_obj {h : PH} {a ci : Nat} {fs : List PV} (e : h[a]? = some (.inr (ci, fs))) (k : Nat) {v : PV} (hk : fs[k]? = some v) : rd h a k = rdV v := by
  unfold rd
  rw [if_neg (by omega), e]
  simp [hk]
theorem rd_row {h : PH} {a t n : Nat} {f : Nat → Int32} (e : h[a]? = some (.inl (t, n, .inl f))) {i : Int} (hi : 0 ≤ i) : rd h a i = (f i.toNat).toInt := by
  unfold rd
  rw [if_neg (by omega), e]
theorem rd_lrow {h : PH} {a t n : Nat} {f : Nat → Int64} (e : h[a]? = some (.inl (t, n, .inr (.inl f)))) {i : Int} (hi : 0 ≤ i) : rd h a i = (f i.toNat).toInt := by
  unfold rd
  rw [if_neg (by omega), e]
theorem rd_set_ne {h : PH} {a b : Nat} {c : PC} (hb : a ≠ b) (i : Int) : rd (h.set a c) b i = rd h b i := by
  unfold rd
  rw [st_n hb]
theorem rd_setF {h : PH} {a ci k : Nat} {fs : List PV} {v : PV} (e : h[a]? = some (.inr (ci, fs))) (hk : k < fs.length) : rd (h.set a (.inr (ci, fs.set k v))) = up (rd h) a k (rdV v) := by
  funext b j
  unfold up
  by_cases hb : b = a
  · subst hb
    by_cases hj : j = k
    · subst hj
      rw [if_pos ⟨rfl, rfl⟩]
      exact rd_obj (st_s e) k (List.getElem?_set_self hk)
    · rw [if_neg (fun q => hj q.2)]
      unfold rd
      by_cases hn : j < 0
      · rw [if_pos hn, if_pos hn]
      · rw [if_neg hn, if_neg hn, st_s e, e]
        have : k ≠ j.toNat := fun q => hj (by omega)
        simp only [List.getElem?_set_ne this]
  · rw [if_neg (fun q => hb q.1)]
    exact rd_set_ne (Ne.symm hb) j
theorem rd_setR {h : PH} {a t n : Nat} {f : Nat → Int32} (e : h[a]? = some (.inl (t, n, .inl f))) {i : Int} (hi : 0 ≤ i) (x : Int32) : rd (h.set a (.inl (t, n, .inl (upd f i.toNat x)))) = up (rd h) a i x.toInt := by
  funext b j
  unfold up
  by_cases hb : b = a
  · subst hb
    by_cases hj : j = i
    · subst hj
      rw [if_pos ⟨rfl, rfl⟩, rd_row (st_s e) hi]
      simp [upd]
    · rw [if_neg (fun q => hj q.2)]
      by_cases hn : j < 0
      · unfold rd
        rw [if_pos hn, if_pos hn]
      · rw [rd_row (st_s e) (by omega), rd_row e (by omega)]
        have : ¬ j.toNat = i.toNat := fun q => hj (by omega)
        simp [upd, this]
  · rw [if_neg (fun q => hb q.1)]
    exact rd_set_ne (Ne.symm hb) j
theorem rd_setL {h : PH} {a t n : Nat} {f : Nat → Int64} (e : h[a]? = some (.inl (t, n, .inr (.inl f)))) {i : Int} (hi : 0 ≤ i) (x : Int64) : rd (h.set a (.inl (t, n, .inr (.inl (vp_updL f i.toNat x))))) = up (rd h) a i x.toInt := by
  funext b j
  unfold up
  by_cases hb : b = a
  · subst hb
    by_cases hj : j = i
    · subst hj
      rw [if_pos ⟨rfl, rfl⟩, rd_lrow (st_s e) hi]
      simp [vp_updL]
    · rw [if_neg (fun q => hj q.2)]
      by_cases hn : j < 0
      · unfold rd
        rw [if_pos hn, if_pos hn]
      · rw [rd_lrow (st_s e) (by omega), rd_lrow e (by omega)]
        have : ¬ j.toNat = i.toNat := fun q => hj (by omega)
        simp [vp_updL, this]
  · rw [if_neg (fun q => hb q.1)]
    exact rd_set_ne (Ne.symm hb) j
