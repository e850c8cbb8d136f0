/-! What a wave keeps; the first wave to come; a run. -/
theorem ridr_num {od : Int → Int} : ∀ {l : List Int} {x : Int}, (0 ≤ x ∧ x < 2147483648) → 0 ≤ (ridr od l x).2 ∧ (ridr od l x).2 < 2147483648 := by
  intro l
  induction l with
  | nil => intro x h; exact h
  | cons y t ih =>
    intro x h
    unfold ridr
    split
    · exact ih (nxt_b x)
    · exact nxt_b x
theorem crsr_num {bl : Int → Int} : ∀ {l : List Int} {x : Int}, (0 ≤ x ∧ x < 2147483648) → 0 ≤ (crsr bl l x).2 ∧ (crsr bl l x).2 < 2147483648 := by
  intro l
  induction l with
  | nil => intro x h; exact h
  | cons y t ih =>
    intro x h
    unfold crsr
    split
    · exact ih h
    · split
      · exact ih (nxt_b x)
      · exact nxt_b x
section BWF
variable {w g n : Mem}
/-- the three ways that a wave may end -/
theorem bw_cases (hs : 0 ≤ w 1 0) (v mn : Int) (hn : 0 ≤ n 0 2 ∧ n 0 2 < 2147483648) : ∃ y, (0 ≤ y ∧ y < 2147483648) ∧ (bw w g n v mn = up (up (up n 0 2 y) 6 v (-1)) 0 4 (n 0 4 + 1) ∨ (∃ e, (0 ≤ e ∧ e < w 1 0 ∧ n 4 e ≤ mn) ∧ bw w g n v mn = bw2 w g n v e none y) ∨ ∃ e k, (0 ≤ e ∧ e < w 1 0 ∧ n 4 e ≤ mn) ∧ (0 ≤ k ∧ k < w 1 0 ∧ n 4 k ≤ mn) ∧ bw w g n v mn = bw2 w g n v e (some k) y) := by
  unfold bw bw1
  have hx := ridr_num (od := odV w g n v) (l := (lu w g n v mn).reverse) hn
  have mem : ∀ e ∈ (lu w g n v mn).reverse, 0 ≤ e ∧ e < w 1 0 ∧ n 4 e ≤ mn := fun e he => by
    have := lu_mem (List.mem_reverse.mp he) hs
    exact ⟨this.1, this.2.1, this.2.2.1⟩
  cases h : (ridr (odV w g n v) (lu w g n v mn).reverse (n 0 2)).1 with
  | none => exact ⟨_, hx, Or.inl rfl⟩
  | some p =>
    obtain ⟨e, l⟩ := p
    obtain ⟨h1, h2⟩ := ridr_mem h
    have hy := crsr_num (bl := g 2) (l := l) hx
    cases h3 : (crsr (g 2) l (ridr (odV w g n v) (lu w g n v mn).reverse (n 0 2)).2).1 with
    | none => exact ⟨_, hy, Or.inr (Or.inl ⟨e, mem e h1, by simp only [h3]⟩)⟩
    | some k => exact ⟨_, hy, Or.inr (Or.inr ⟨e, k, mem e h1, mem k (h2 k (crsr_mem h3)), by simp only [h3]⟩)⟩
theorem bw_keep (hs : 0 ≤ w 1 0) (v mn : Int) (hn : 0 ≤ n 0 2 ∧ n 0 2 < 2147483648) : (bw w g n v mn) 1 = n 1 ∧ (bw w g n v mn) 5 = n 5 ∧ (bw w g n v mn) 0 0 = n 0 0 ∧ (bw w g n v mn) 0 1 = n 0 1 ∧ (∀ k, k ≠ v → (bw w g n v mn) 6 k = n 6 k) ∧ (bw w g n v mn) 6 v ≠ -2 := by
  obtain ⟨y, hy, e | ⟨e, he, e'⟩ | ⟨e, k, he, hk, e'⟩⟩ := bw_cases (g := g) hs v mn hn
  · rw [e]
    refine ⟨?_, ?_, ?_, ?_, fun k hk => ?_, ?_⟩
    · simp (disch := omega) only [up_b]
    · simp (disch := omega) only [up_b]
    · simp (disch := omega) only [up_a, up_i]
    · simp (disch := omega) only [up_a, up_i]
    · simp (disch := omega) only [up_a, up_i]
    · simp (disch := omega) only [up_a, up_e]; omega
  · rw [e']
    unfold bw2
    refine ⟨?_, ?_, ?_, ?_, fun k hk => ?_, ?_⟩
    · simp (disch := omega) only [up_b]
    · simp (disch := omega) only [up_b]
    · simp (disch := omega) only [up_a, up_i]
    · simp (disch := omega) only [up_a, up_i]
    · simp (disch := omega) only [up_a, up_i]
    · simp (disch := omega) only [up_a, up_e]; omega
  · rw [e']
    unfold bw2
    refine ⟨?_, ?_, ?_, ?_, fun k hk => ?_, ?_⟩
    · simp (disch := omega) only [up_b]
    · simp (disch := omega) only [up_b]
    · simp (disch := omega) only [up_a, up_i]
    · simp (disch := omega) only [up_a, up_i]
    · simp (disch := omega) only [up_a, up_i]
    · simp (disch := omega) only [up_a, up_e]; omega
theorem up_v {m : Mem} {a : Nat} {i v : Int} (b : Nat) (j : Int) : up m a i v b j = v ∨ up m a i v b j = m b j := by
  by_cases c : b = a ∧ j = i
  · left; exact if_pos c
  · right; exact if_neg c
theorem bw_nb (hW : WW w) {f : Int} (hB : NB w n f) (hf : 0 ≤ f) {v mn : Int} (hv : 0 ≤ v ∧ v < w 8 1) : NB w (bw w g n v mn) (f + 2) := by
  have hw := hW.1
  unfold WS at hw
  have hm := (hW.2.2.2.1 v hv.1 hv.2).2.1
  obtain ⟨h1, h2⟩ := hB
  obtain ⟨y, hy, e | ⟨e, he, e'⟩ | ⟨e, k, he, hk, e'⟩⟩ := bw_cases (g := g) (w := w) (n := n) (by omega) v mn (by omega)
  · rw [e]
    refine ⟨?_, fun i p q => ?_⟩
    · simp (disch := omega) only [up_a, up_i, up_e]; omega
    · simp (disch := omega) only [up_a]
      have := h2 i p q
      omega
  · rw [e']
    unfold bw2
    have hab := away_b w (g 1 e) v
    refine ⟨?_, fun i p q => ?_⟩
    · simp (disch := omega) only [up_a, up_i, up_e]; omega
    · have q1 := h2 i p q
      have q2 := h2 e he.1 he.2.1
      simp (disch := omega) only [up_a]
      refine ⟨q1.1, ?_, ?_, ?_⟩
      · rcases up_v (m := up (up n 0 2 y) 6 v e) (a := 2) (i := e) (v := n 2 e + 1) 2 i with z | z
        · rw [z]; omega
        · rw [z]; simp (disch := omega) only [up_a]; omega
      · omega
      · rcases up_v (m := up (up (up n 0 2 y) 6 v e) 2 e (n 2 e + 1)) (a := 4) (i := e) (v := w 11 v + 1 * awayN w (g 1 e) v) 4 i with z | z
        · rw [z]; omega
        · rw [z]; simp (disch := omega) only [up_a]; omega
  · rw [e']
    unfold bw2
    have hab := away_b w (g 1 e) v
    have hab' := away_b w (g 1 k) v
    refine ⟨?_, fun i p q => ?_⟩
    · simp (disch := omega) only [up_a, up_i, up_e]; omega
    · have q1 := h2 i p q
      have q2 := h2 e he.1 he.2.1
      have q3 := h2 k hk.1 hk.2.1
      simp (disch := omega) only [up_a]
      refine ⟨q1.1, by omega, ?_, ?_⟩
      · have z0 : 0 ≤ up n 3 e (n 3 e + 1) 3 k ∧ up n 3 e (n 3 e + 1) 3 k ≤ f + 1 := by
          rcases up_v (m := n) (a := 3) (i := e) (v := n 3 e + 1) 3 k with z | z <;> rw [z] <;> omega
        rcases up_v (m := up (up (up (up n 0 2 y) 6 v (-3)) 0 3 (n 0 3 + 1)) 3 e (n 3 e + 1)) (a := 3) (i := k) (v := up n 3 e (n 3 e + 1) 3 k + 1) 3 i with z | z
        · rw [z]; omega
        · rw [z]
          rcases up_v (m := up (up (up n 0 2 y) 6 v (-3)) 0 3 (n 0 3 + 1)) (a := 3) (i := e) (v := n 3 e + 1) 3 i with z | z
          · rw [z]; omega
          · rw [z]; simp (disch := omega) only [up_a]; omega
      · rcases up_v (m := up (up (up (up (up (up n 0 2 y) 6 v (-3)) 0 3 (n 0 3 + 1)) 3 e (n 3 e + 1)) 3 k (up n 3 e (n 3 e + 1) 3 k + 1)) 4 e (w 11 v + 2 * awayN w (g 1 e) v)) (a := 4) (i := k) (v := w 11 v + 2 * awayN w (g 1 k) v) 4 i with z | z
        · rw [z]; omega
        · rw [z]
          rcases up_v (m := up (up (up (up (up n 0 2 y) 6 v (-3)) 0 3 (n 0 3 + 1)) 3 e (n 3 e + 1)) 3 k (up n 3 e (n 3 e + 1) 3 k + 1)) (a := 4) (i := e) (v := w 11 v + 2 * awayN w (g 1 e) v) 4 i with z | z
          · rw [z]; omega
          · rw [z]; simp (disch := omega) only [up_a]; omega
/-- two that agree where it matters -/
def GE (w g g' : Mem) : Prop := (∀ i, 0 ≤ i → i < w 1 0 → g 1 i = g' 1 i ∧ g 2 i = g' 2 i) ∧ ∀ v, 0 ≤ v → v < w 8 1 → g 3 v = g' 3 v
theorem ridr_od {o1 o2 : Int → Int} : ∀ {l : List Int} {x : Int}, (∀ e ∈ l, o1 e = o2 e) → ridr o1 l x = ridr o2 l x := by
  intro l
  induction l with
  | nil => intros; rfl
  | cons y t ih =>
    intro x h
    unfold ridr
    rw [h y (by simp), ih (fun e he => h e (List.mem_cons_of_mem _ he))]
theorem crsr_bl {o1 o2 : Int → Int} : ∀ {l : List Int} {x : Int}, (∀ e ∈ l, o1 e = o2 e) → crsr o1 l x = crsr o2 l x := by
  intro l
  induction l with
  | nil => intros; rfl
  | cons y t ih =>
    intro x h
    unfold crsr
    rw [h y (by simp), ih (fun e he => h e (List.mem_cons_of_mem _ he)), ih (fun e he => h e (List.mem_cons_of_mem _ he))]
theorem lud_eq {o1 o2 : Int → Bool} {k1 k2 : Int → Int} : ∀ (d : Nat) (i : Int) (rl : List Int), (∀ e, i ≤ e → e < i + d → o1 e = o2 e) → (∀ e ∈ rl, k1 e = k2 e) → (∀ e, i ≤ e → e < i + d → k1 e = k2 e) → lud o1 k1 d i rl = lud o2 k2 d i rl := by
  intro d
  induction d with
  | zero => intros; rfl
  | succ d ih =>
    intro i rl h1 h2 h3
    have hk := h3 i (by omega) (by omega)
    have hi : insR k1 i rl = insR k2 i rl := insR_key (fun e he => by rw [h2 e he, hk])
    have e1 := ih (i + 1) (insR k2 i rl) (fun e a b => h1 e (by omega) (by omega)) (fun e he => by
      rcases insR_mem.mp he with rfl | q
      · exact hk
      · exact h2 e q) (fun e a b => h3 e (by omega) (by omega))
    have e2 := ih (i + 1) rl (fun e a b => h1 e (by omega) (by omega)) h2 (fun e a b => h3 e (by omega) (by omega))
    show (if _ then _ else _) = (if _ then _ else _)
    rw [h1 i (by omega) (by omega), hi, e1, e2]
theorem od_ge {g' : Mem} (h : GE w g g') {v i : Int} (hv : 0 ≤ v ∧ v < w 8 1) (hi : 0 ≤ i ∧ i < w 1 0) : odV w g n v i = odV w g' n v i := by
  unfold odV; rw [(h.1 i hi.1 hi.2).1, h.2 v hv.1 hv.2]
theorem key_ge {g' : Mem} (h : GE w g g') {v i : Int} (hv : 0 ≤ v ∧ v < w 8 1) : keyV w g n v i = keyV w g' n v i := by
  unfold keyV; rw [h.2 v hv.1 hv.2]
theorem lu_ge {g' : Mem} (h : GE w g g') {v mn : Int} (hv : 0 ≤ v ∧ v < w 8 1) (hs : 0 ≤ w 1 0) : lu w g n v mn = lu w g' n v mn := by
  unfold lu
  exact lud_eq _ _ _ (fun e a b => by unfold okL; rw [od_ge h hv (by omega)]) (fun e he => nomatch he) (fun e _ _ => key_ge h hv)
theorem bw_ge {g' : Mem} (h : GE w g g') {v mn : Int} (hv : 0 ≤ v ∧ v < w 8 1) (hs : 0 ≤ w 1 0) : bw w g n v mn = bw w g' n v mn := by
  have mem : ∀ e ∈ (lu w g' n v mn).reverse, 0 ≤ e ∧ e < w 1 0 := fun e he => by
    have := lu_mem (List.mem_reverse.mp he) hs
    exact ⟨this.1, this.2.1⟩
  have hr : ridr (odV w g n v) (lu w g n v mn).reverse (n 0 2) = ridr (odV w g' n v) (lu w g' n v mn).reverse (n 0 2) := by
    rw [lu_ge h hv hs]
    exact ridr_od (fun e he => od_ge h hv (mem e he))
  unfold bw
  rw [hr]
  unfold bw1
  cases h1 : (ridr (odV w g' n v) (lu w g' n v mn).reverse (n 0 2)).1 with
  | none => rfl
  | some p =>
    obtain ⟨e, l⟩ := p
    obtain ⟨h2, h3⟩ := ridr_mem h1
    have he := mem e h2
    have hc : crsr (g 2) l (ridr (odV w g' n v) (lu w g' n v mn).reverse (n 0 2)).2 = crsr (g' 2) l (ridr (odV w g' n v) (lu w g' n v mn).reverse (n 0 2)).2 := crsr_bl (fun q hq => (h.1 q (mem q (h3 q hq)).1 (mem q (h3 q hq)).2).2)
    simp only
    rw [hc]
    unfold bw2
    cases h4 : (crsr (g' 2) l (ridr (odV w g' n v) (lu w g' n v mn).reverse (n 0 2)).2).1 with
    | none => simp only; rw [(h.1 e he.1 he.2).1]
    | some k =>
      have hk := mem k (h3 k (crsr_mem h4))
      simp only
      rw [(h.1 e he.1 he.2).1, (h.1 k hk.1 hk.2).1]
/-- waves come later and later -/
theorem wv_mono (hW : WW w) : ∀ (d : Nat) (i : Int), 0 ≤ i → i + d + 1 < w 8 1 + 0 → w 11 i < w 11 (i + d + 1) := by
  intro d
  induction d with
  | zero => intro i a b; have := (hW.2.2.2.1 i a (by omega)).2.2 (by omega); simpa using this
  | succ d ih =>
    intro i a b
    have h1 := ih i a (by omega)
    have h2 := (hW.2.2.2.1 (i + d + 1) (by omega) (by omega)).2.2 (by omega)
    have e : i + ((d + 1 : Nat) : Int) + 1 = i + d + 1 + 1 := by omega
    rw [e]; omega
theorem wv_lt (hW : WW w) {i j : Int} (hi : 0 ≤ i) (hij : i < j) (hj : j < w 8 1) : w 11 i < w 11 j := by
  have := wv_mono hW (j - i - 1).toNat i hi (by omega)
  have e : i + ((j - i - 1).toNat : Int) + 1 = j := by omega
  rwa [e] at this
theorem ffd_spec {f : Int → Int} {x : Int} : ∀ (d : Nat) (i : Int), i ≤ ffd f x d i ∧ ffd f x d i ≤ i + d ∧ (∀ k, i ≤ k → k < ffd f x d i → f k < x) ∧ (ffd f x d i < i + d → x ≤ f (ffd f x d i)) := by
  intro d
  induction d with
  | zero => intro i; refine ⟨Int.le_refl i, by show i ≤ _; omega, fun k a b => ?_, fun h => ?_⟩
            · have : k < i := b
              omega
            · have : i < i + ((0 : Nat) : Int) := h
              omega
  | succ d ih =>
    intro i
    have e : ffd f x (d + 1) i = if f i < x then ffd f x d (i + 1) else i := rfl
    rw [e]
    by_cases c : f i < x
    · rw [if_pos c]
      obtain ⟨h1, h2, h3, h4⟩ := ih (i + 1)
      refine ⟨by omega, by omega, fun k a b => ?_, fun h => h4 (by omega)⟩
      by_cases z : k = i
      · rw [z]; exact c
      · exact h3 k (by omega) b
    · rw [if_neg c]
      exact ⟨by omega, by omega, fun k a b => by omega, fun _ => by omega⟩
theorem ff_spec (hs : 0 ≤ w 8 1) (x : Int) : 0 ≤ ff w x ∧ ff w x ≤ w 8 1 ∧ (∀ k, 0 ≤ k → k < ff w x → w 11 k < x) ∧ (ff w x < w 8 1 → x ≤ w 11 (ff w x)) := by
  obtain ⟨h1, h2, h3, h4⟩ := ffd_spec (f := w 11) (x := x) (w 8 1).toNat 0
  unfold ff
  exact ⟨h1, by omega, h3, fun h => h4 (by omega)⟩
/-- it is the only such place -/
theorem ff_eq (hs : 0 ≤ w 8 1) {x v : Int} (h1 : 0 ≤ v ∧ v ≤ w 8 1) (h2 : ∀ k, 0 ≤ k → k < v → w 11 k < x) (h3 : v < w 8 1 → x ≤ w 11 v) : ff w x = v := by
  obtain ⟨a1, a2, a3, a4⟩ := ff_spec hs x
  rcases Int.lt_trichotomy (ff w x) v with c | c | c
  · have := h2 _ a1 c
    have := a4 (by omega)
    omega
  · exact c
  · have := a3 v h1.1 c
    have := h3 (by omega)
    omega
def rnd (w g : Mem) : Nat → Int → Mem → Mem
  | 0, _, n => n
  | d + 1, v, n => rnd w g d (v + 1) (bw w g n v (w 11 v))
theorem rnd_s (d : Nat) (v : Int) : rnd w g (d + 1) v n = rnd w g d (v + 1) (bw w g n v (w 11 v)) := rfl
theorem rnd_ge {g' : Mem} (h : GE w g g') (hs : 0 ≤ w 1 0) : ∀ (d : Nat) (v : Int) (n : Mem), 0 ≤ v → v + d ≤ w 8 1 → rnd w g d v n = rnd w g' d v n := by
  intro d
  induction d with
  | zero => intros; rfl
  | succ d ih =>
    intro v n a b
    rw [rnd_s, rnd_s, bw_ge h (by omega) hs, ih (v + 1) _ (by omega) (by omega)]
theorem rnd_nb (hW : WW w) : ∀ (d : Nat) (v f : Int) (n : Mem), 0 ≤ v → v + d ≤ w 8 1 → 0 ≤ f → NB w n f → NB w (rnd w g d v n) (f + 2 * d) ∧ (rnd w g d v n) 0 1 = n 0 1 := by
  have hw := hW.1
  unfold WS at hw
  intro d
  induction d with
  | zero => intro v f n a b c h; exact ⟨by rw [show f + 2 * ((0 : Nat) : Int) = f by omega]; exact h, rfl⟩
  | succ d ih =>
    intro v f n a b c h
    have h1 := bw_nb (g := g) hW h c (v := v) (mn := w 11 v) (by omega)
    have h2 := ih (v + 1) (f + 2) (bw w g n v (w 11 v)) (by omega) (by omega) (by omega) h1
    rw [rnd_s]
    refine ⟨?_, ?_⟩
    · have : f + 2 * ((d + 1 : Nat) : Int) = f + 2 + 2 * d := by omega
      rw [this]; exact h2.1
    · rw [h2.2]
      exact (bw_keep (g := g) (by omega) v (w 11 v) (by have := h.1; omega)).2.2.2.1
end BWF
