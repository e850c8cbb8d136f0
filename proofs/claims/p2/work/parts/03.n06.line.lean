/-! Who is in the order: a row by keys, the last at the head. -/
def insR (key : Int → Int) (x : Int) : List Int → List Int
  | [] => [x]
  | y :: r => if key y ≤ key x then x :: y :: r else y :: insR key x r
def lud (ok : Int → Bool) (key : Int → Int) : Nat → Int → List Int → List Int
  | 0, _, rl => rl
  | d + 1, i, rl => if ok i = true then lud ok key d (i + 1) (insR key i rl) else lud ok key d (i + 1) rl
def stkO (f : Int → Int) (o : Int) : List Int → Prop
  | [] => True
  | v :: r => f (o + r.length) = v ∧ stkO f o r
theorem stkO_app {f : Int → Int} {o : Int} : ∀ {l1 l2 : List Int}, stkO f (o + l2.length) l1 → stkO f o l2 → stkO f o (l1 ++ l2) := by
  intro l1
  induction l1 with
  | nil => intro l2 _ h; exact h
  | cons v r ih =>
    intro l2 h1 h2
    refine ⟨?_, ih h1.2 h2⟩
    rw [← h1.1]
    congr 1
    simp; omega
theorem stkO_up {f g : Int → Int} {o : Int} : ∀ {st : List Int}, stkO f o st → (∀ j : Int, o ≤ j → j < o + st.length → g j = f j) → stkO g o st := by
  intro st
  induction st with
  | nil => intros; trivial
  | cons v r ih =>
    intro h1 h2
    have hl : ((v :: r).length : Int) = r.length + 1 := by simp
    exact ⟨by rw [h2 _ (by omega) (by omega)]; exact h1.1, ih h1.2 (fun j a b => h2 j a (by omega))⟩
theorem insR_len (key : Int → Int) (x : Int) : ∀ l : List Int, (insR key x l).length = l.length + 1 := by
  intro l
  induction l with
  | nil => rfl
  | cons y r ih => unfold insR; split <;> simp [ih]
theorem insR_mem {key : Int → Int} {x e : Int} : ∀ {l : List Int}, e ∈ insR key x l ↔ e = x ∨ e ∈ l := by
  intro l
  induction l with
  | nil => unfold insR; simp
  | cons y r ih =>
    unfold insR
    split
    · simp
    · rw [List.mem_cons, ih, List.mem_cons]
      constructor
      · rintro (h | h | h)
        · exact Or.inr (Or.inl h)
        · exact Or.inl h
        · exact Or.inr (Or.inr h)
      · rintro (h | h | h)
        · exact Or.inr (Or.inl h)
        · exact Or.inl h
        · exact Or.inr (Or.inr h)
theorem insR_key {k1 k2 : Int → Int} {x : Int} : ∀ {l : List Int}, (∀ e ∈ l, k1 e ≤ k1 x ↔ k2 e ≤ k2 x) → insR k1 x l = insR k2 x l := by
  intro l
  induction l with
  | nil => intro _; rfl
  | cons y r ih =>
    intro h
    have h1 := h y (by simp)
    unfold insR
    by_cases c : k1 y ≤ k1 x
    · rw [if_pos c, if_pos (h1.mp c)]
    · rw [if_neg c, if_neg (fun q => c (h1.mpr q)), ih (fun e he => h e (List.mem_cons_of_mem _ he))]
section LINE
variable {s : Nat} {key : Int → Int}
theorem g_put2 {x : Int} (hx : 0 ≤ x ∧ x < 5) : ∀ (lo hi : List Int) (n : Nat) (m : Mem), lo.length < n → lo.length + hi.length < 5 → (∀ e ∈ lo, 0 ≤ e ∧ e < 5 ∧ m (s + 8) e = key e) → m (s + 8) x = key x → stkO (m (s + 6)) 0 lo → stkO (m (s + 6)) (lo.length + 1) hi → ∃ m', G6_putInLine_2 n m s x lo.length = some m' ∧ Fr (fun b => b = s + 6) m m' ∧ stkO (m' (s + 6)) 0 (hi ++ insR key x lo) := by
  intro lo
  have fin : ∀ (lo hi : List Int) (m : Mem), lo.length + hi.length < 5 → stkO (m (s + 6)) 0 lo → stkO (m (s + 6)) (lo.length + 1) hi → ∃ m', G6_putInLine_48 m s x lo.length = some m' ∧ Fr (fun b => b = s + 6) m m' ∧ stkO (m' (s + 6)) 0 (hi ++ x :: lo) := by
    intro lo hi m h1 h2 h3
    unfold G6_putInLine_48
    rw [gdx_t (by omega), wt_e]
    refine ⟨_, rfl, Fr.up Fr.rf rfl, stkO_app ?_ ⟨?_, ?_⟩⟩
    · have : (0 : Int) + ((x :: lo).length : Int) = lo.length + 1 := by simp
      rw [this]
      exact stkO_up h3 (fun j a b => up_i (by omega))
    · rw [Int.zero_add]; exact up_e
    · exact stkO_up h2 (fun j a b => up_i (by omega))
  induction lo with
  | nil =>
    intro hi n m a1 a2 a3 a4 a5 a6
    obtain ⟨n, rfl⟩ : ∃ k, n = k + 1 := ⟨n - 1, by omega⟩
    rw [G6_putInLine_2, if_pos (by simp)]
    exact fin [] hi m a2 a5 a6
  | cons y r ih =>
    intro hi n m a1 a2 a3 a4 a5 a6
    obtain ⟨n, rfl⟩ : ∃ k, n = k + 1 := ⟨n - 1, by omega⟩
    have hl : ((y :: r).length : Int) = r.length + 1 := by simp
    have hl' : (y :: r).length = r.length + 1 := by simp
    have hy := a3 y (by simp)
    have e1 : m (s + 6) (((y :: r).length : Int) - 1) = y := by
      have := a5.1
      rw [Int.zero_add] at this
      rw [hl, Int.add_sub_cancel]; exact this
    rw [G6_putInLine_2, if_neg (by omega), gdx_t (by omega), e1, gdx_t (by omega), gdx_t hx, hy.2.2, a4]
    unfold insR
    by_cases c : key y ≤ key x
    · rw [if_pos c, if_pos c]
      exact fin (y :: r) hi m a2 a5 a6
    · rw [if_neg c, if_neg c, gdx_t (by omega), gdx_t (by omega), wt_e, gd3_t (by omega)]
      have e2 : ((y :: r).length : Int) + -1 = r.length := by omega
      rw [e2]
      obtain ⟨m', q1, q2, q3⟩ := ih (hi ++ [y]) n (up m (s + 6) ((y :: r).length : Int) y) (by omega) (by simp; omega) (fun e he => by
        have := a3 e (List.mem_cons_of_mem _ he)
        exact ⟨this.1, this.2.1, by rw [up_a (by omega)]; exact this.2.2⟩) (by rw [up_a (by omega)]; exact a4) (stkO_up a5.2 (fun j a b => up_i (by omega))) (stkO_app (by
          have : (r.length : Int) + 1 + (([y] : List Int).length : Int) = ((y :: r).length : Int) + 1 := by simp
          rw [this]
          exact stkO_up a6 (fun j a b => up_i (by omega))) ⟨by
            have : (r.length : Int) + 1 + (([] : List Int).length : Int) = ((y :: r).length : Int) := by simp
            rw [this]; exact up_e, trivial⟩)
      refine ⟨m', q1, Fr.tr (Fr.up Fr.rf rfl) q2, ?_⟩
      rw [List.append_assoc] at q3
      exact q3
theorem g_put {x : Int} {m : Mem} (hx : 0 ≤ x ∧ x < 5) (lo : List Int) (h1 : lo.length < 5) (h2 : ∀ e ∈ lo, 0 ≤ e ∧ e < 5 ∧ m (s + 8) e = key e) (h3 : m (s + 8) x = key x) (h4 : stkO (m (s + 6)) 0 lo) : ∃ m', G6_putInLine m s x lo.length = some m' ∧ Fr (fun b => b = s + 6) m m' ∧ stkO (m' (s + 6)) 0 (insR key x lo) :=
  g_put2 hx lo [] 1024 m (by omega) (by simpa using h1) h2 h3 h4 trivial
end LINE
