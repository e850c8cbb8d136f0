/-! Who rides, who crosses, what comes of it. -/
def ridr (od : Int → Int) : List Int → Int → Option (Int × List Int) × Int
  | [], x => (none, x)
  | e :: r, x => if od e ≤ hun (nxt x) then ridr od r (nxt x) else (some (e, r), nxt x)
def crsr (bl : Int → Int) : List Int → Int → Option Int × Int
  | [], x => (none, x)
  | e :: r, x => if bl e ≤ 0 then crsr bl r x else if bl e ≤ hun (nxt x) then crsr bl r (nxt x) else (some e, nxt x)
def bw2 (w g n : Mem) (v e : Int) (k : Option Int) (y : Int) : Mem := match k with
  | none => up (up (up (up n 0 2 y) 6 v e) 2 e (n 2 e + 1)) 4 e (w 11 v + 1 * awayN w (g 1 e) v)
  | some k => up (up (up (up (up (up (up n 0 2 y) 6 v (-3)) 0 3 (n 0 3 + 1)) 3 e (n 3 e + 1)) 3 k (up n 3 e (n 3 e + 1) 3 k + 1)) 4 e (w 11 v + 2 * awayN w (g 1 e) v)) 4 k (w 11 v + 2 * awayN w (g 1 k) v)
def bw1 (w g n : Mem) (v : Int) (r : Option (Int × List Int) × Int) : Mem := match r.1 with
  | none => up (up (up n 0 2 r.2) 6 v (-1)) 0 4 (n 0 4 + 1)
  | some (e, l) => bw2 w g n v e (crsr (g 2) l r.2).1 (crsr (g 2) l r.2).2
/-- what wave v makes of the minute n, where minute mn is -/
def bw (w g n : Mem) (v mn : Int) : Mem := bw1 w g n v (ridr (odV w g n v) (lu w g n v mn).reverse (n 0 2))
/-- a row told from its head on: the head lies at place k -/
def frt (f : Int → Int) : Int → List Int → Prop
  | _, [] => True
  | k, v :: r => f k = v ∧ frt f (k + 1) r
theorem frt_up {f g : Int → Int} : ∀ {l : List Int} {k : Int}, frt f k l → (∀ j, k ≤ j → j < k + l.length → g j = f j) → frt g k l := by
  intro l
  induction l with
  | nil => intros; trivial
  | cons v r ih =>
    intro k h1 h2
    have hl : ((v :: r).length : Int) = r.length + 1 := by simp
    exact ⟨by rw [h2 _ (by omega) (by omega)]; exact h1.1, ih h1.2 (fun j a b => h2 j (by omega) (by omega))⟩
theorem frt_rev {f : Int → Int} : ∀ (l acc : List Int), stkO f 0 l → frt f (l.length : Int) acc → frt f 0 (l.reverse ++ acc) := by
  intro l
  induction l with
  | nil => intro acc _ h; exact h
  | cons v r ih =>
    intro acc h1 h2
    rw [List.reverse_cons, List.append_assoc]
    refine ih ([v] ++ acc) h1.2 ⟨?_, ?_⟩
    · have := h1.1; rw [Int.zero_add] at this; exact this
    · have e : ((v :: r).length : Int) = r.length + 1 := by simp
      rw [e] at h2; exact h2
theorem stk_frt {f : Int → Int} {l : List Int} (h : stkO f 0 l) : frt f 0 l.reverse := by
  have := frt_rev l [] h trivial
  rwa [List.append_nil] at this
section BR
variable {m : Mem} {s T a : Nat} {w g n : Mem}
theorem g_ride {od : Int → Int} (ha : a = 69 ∨ a = 76 ∨ a = 83) (hs : s = 51 ∨ s = 60) : ∀ (l : List Int) (k : Nat) (i : Int) (m : Mem), l.length < k → 0 ≤ i → i + l.length ≤ 5 → (0 ≤ m a 2 ∧ m a 2 < 2147483648) → frt (m (s + 6)) i l → (∀ e ∈ l, 0 ≤ e ∧ e < 5 ∧ m (s + 7) e = od e) → ∃ p x, G6_placeOfRider_2 k m s a (i + l.length) i = some (p, up m a 2 x) ∧ x = (ridr od l (m a 2)).2 ∧ (0 ≤ x ∧ x < 2147483648) ∧ ((p = -1 ∧ (ridr od l (m a 2)).1 = none) ∨ ∃ e r, (ridr od l (m a 2)).1 = some (e, r) ∧ i ≤ p ∧ p + 1 + r.length = i + l.length ∧ m (s + 6) p = e ∧ frt (m (s + 6)) (p + 1) r ∧ e ∈ l ∧ ∀ q ∈ r, q ∈ l) := by
  intro l
  induction l with
  | nil =>
    intro k i m a1 a2 a3 a4 a5 a6
    obtain ⟨k, rfl⟩ : ∃ j, k = j + 1 := ⟨k - 1, by omega⟩
    have e : m = up m a 2 (m a 2) := by
      funext b j
      by_cases c : b = a ∧ j = 2
      · rw [c.1, c.2, up_e]
      · exact (if_neg c).symm
    refine ⟨-1, m a 2, ?_, rfl, a4, Or.inl ⟨rfl, rfl⟩⟩
    rw [G6_placeOfRider_2, if_pos (by simp), ← e]
  | cons y r ih =>
    intro k i m a1 a2 a3 a4 a5 a6
    obtain ⟨k, rfl⟩ : ∃ j, k = j + 1 := ⟨k - 1, by omega⟩
    have hl : ((y :: r).length : Int) = r.length + 1 := by simp
    have hl' : (y :: r).length = r.length + 1 := by simp
    have hy := a6 y (by simp)
    have hb := nxt_b (m a 2)
    rw [G6_placeOfRider_2, if_neg (by omega), g_draw a4, bs1, gdx_t (by omega)]
    simp only
    rw [up_a (by omega), a5.1, gdx_t (by omega), up_a (by omega), hy.2.2]
    have e0 : ridr od (y :: r) (m a 2) = if od y ≤ hun (nxt (m a 2)) then ridr od r (nxt (m a 2)) else (some (y, r), nxt (m a 2)) := rfl
    by_cases c : od y ≤ hun (nxt (m a 2))
    · rw [if_pos c] at e0 ⊢
      rw [e0, gd3_t (by omega)]
      have e1 : i + ((y :: r).length : Int) = i + 1 + r.length := by omega
      rw [e1]
      obtain ⟨p, x, q1, q2, q3, q4⟩ := ih k (i + 1) (up m a 2 (nxt (m a 2))) (by omega) (by omega) (by omega) (by rw [up_e]; omega) (by rw [up_b (by omega)]; exact a5.2) (fun e he => by
        have := a6 e (List.mem_cons_of_mem _ he)
        rw [up_a (by omega)]; exact this)
      rw [up_e] at q2 q4
      rw [up_b (show s + 6 ≠ a by omega)] at q4
      refine ⟨p, x, ?_, q2, q3, ?_⟩
      · rw [q1]
        congr 2
        funext b j
        by_cases cb : b = a
        · subst cb
          by_cases cj : j = 2
          · subst cj; rw [up_e, up_e]
          · rw [up_i cj, up_i cj, up_i cj]
        · rw [up_a cb, up_a cb, up_a cb]
      · rcases q4 with q4 | ⟨e, r', z1, z2, z3, z4, z5, z6, z7⟩
        · exact Or.inl q4
        · exact Or.inr ⟨e, r', z1, by omega, by omega, z4, z5, List.mem_cons_of_mem _ z6, fun q hq => List.mem_cons_of_mem _ (z7 q hq)⟩
    · rw [if_neg c] at e0 ⊢
      rw [e0]
      exact ⟨i, nxt (m a 2), rfl, rfl, by omega, Or.inr ⟨y, r, rfl, by omega, by omega, a5.1, a5.2, by simp, fun q hq => List.mem_cons_of_mem _ hq⟩⟩
theorem g_cross {bl : Int → Int} (ha : a = 69 ∨ a = 76 ∨ a = 83) (hs : s = 51 ∨ s = 60) : ∀ (l : List Int) (k : Nat) (i : Int) (m : Mem), l.length < k → 0 ≤ i → i + l.length ≤ 5 → (0 ≤ m a 2 ∧ m a 2 < 2147483648) → frt (m (s + 6)) i l → (∀ e ∈ l, 0 ≤ e ∧ e < 5 ∧ m (s + 2) e = bl e) → ∃ p x, G6_crosserBehind_5 k m s a (i + l.length) i = some (p, up m a 2 x) ∧ x = (crsr bl l (m a 2)).2 ∧ (0 ≤ x ∧ x < 2147483648) ∧ ((p = -1 ∧ (crsr bl l (m a 2)).1 = none) ∨ ((crsr bl l (m a 2)).1 = some p ∧ p ∈ l)) := by
  intro l
  induction l with
  | nil =>
    intro k i m a1 a2 a3 a4 a5 a6
    obtain ⟨k, rfl⟩ : ∃ j, k = j + 1 := ⟨k - 1, by omega⟩
    have e : m = up m a 2 (m a 2) := by
      funext b j
      by_cases c : b = a ∧ j = 2
      · rw [c.1, c.2, up_e]
      · exact (if_neg c).symm
    refine ⟨-1, m a 2, ?_, rfl, a4, Or.inl ⟨rfl, rfl⟩⟩
    rw [G6_crosserBehind_5, if_pos (by simp), ← e]
  | cons y r ih =>
    intro k i m a1 a2 a3 a4 a5 a6
    obtain ⟨k, rfl⟩ : ∃ j, k = j + 1 := ⟨k - 1, by omega⟩
    have hl : ((y :: r).length : Int) = r.length + 1 := by simp
    have hl' : (y :: r).length = r.length + 1 := by simp
    have hy := a6 y (by simp)
    have hb := nxt_b (m a 2)
    have e1 : i + ((y :: r).length : Int) = i + 1 + r.length := by omega
    rw [G6_crosserBehind_5, if_neg (by omega), gdx_t (by omega), a5.1, gdx_t (by omega), hy.2.2]
    have e0 : crsr bl (y :: r) (m a 2) = if bl y ≤ 0 then crsr bl r (m a 2) else if bl y ≤ hun (nxt (m a 2)) then crsr bl r (nxt (m a 2)) else (some y, nxt (m a 2)) := rfl
    by_cases c0 : bl y ≤ 0
    · rw [if_pos c0] at e0 ⊢
      rw [e0, gd3_t (by omega), e1]
      obtain ⟨p, x, q1, q2, q3, q4⟩ := ih k (i + 1) m (by omega) (by omega) (by omega) a4 a5.2 (fun e he => a6 e (List.mem_cons_of_mem _ he))
      exact ⟨p, x, q1, q2, q3, q4.imp id (fun z => ⟨z.1, List.mem_cons_of_mem _ z.2⟩)⟩
    · rw [if_neg c0] at e0 ⊢
      rw [g_draw a4, bs1]
      simp only
      by_cases c : bl y ≤ hun (nxt (m a 2))
      · rw [if_pos c] at e0 ⊢
        rw [e0, gd3_t (by omega), e1]
        obtain ⟨p, x, q1, q2, q3, q4⟩ := ih k (i + 1) (up m a 2 (nxt (m a 2))) (by omega) (by omega) (by omega) (by rw [up_e]; omega) (by rw [up_b (by omega)]; exact a5.2) (fun e he => by
          have := a6 e (List.mem_cons_of_mem _ he)
          rw [up_a (by omega)]; exact this)
        rw [up_e] at q2 q4
        refine ⟨p, x, ?_, q2, q3, q4.imp id (fun z => ⟨z.1, List.mem_cons_of_mem _ z.2⟩)⟩
        rw [q1]
        congr 2
        funext b j
        by_cases cb : b = a
        · subst cb
          by_cases cj : j = 2
          · subst cj; rw [up_e, up_e]
          · rw [up_i cj, up_i cj, up_i cj]
        · rw [up_a cb, up_a cb, up_a cb]
      · rw [if_neg c] at e0 ⊢
        rw [e0, gdx_t (by omega), up_a (by omega), a5.1]
        exact ⟨y, nxt (m a 2), rfl, rfl, by omega, Or.inr ⟨rfl, by simp⟩⟩
theorem g_send (h : CX m s T w g) (hW : WW w) (hn : NX m a n) {e v t : Int} (he : 0 ≤ e ∧ e < 5) (hb : 1 ≤ g 1 e ∧ g 1 e ≤ 9) (hv : 0 ≤ v ∧ v < w 8 1) (ht : t = 1 ∨ t = 2) : ∃ m', G6_sendAway m s a e v t = some m' ∧ Fr (PW s a) m m' ∧ NX m' a (up n 4 e (w 11 v + t * awayN w (g 1 e) v)) := by
  have hw := hW.1
  unfold WS at hw
  have hs := h.2.1
  have ha := hn.1
  have hv2 := (hW.2.2.2.1 v hv.1 hv.2).2.1
  have hab := away_b w (g 1 e) v
  obtain ⟨m1, e1, f1⟩ := g_away h hW he hb hv
  have hn1 := hn.pl hs (f1.mono PN_PL)
  unfold G6_sendAway G6_sendAway_0
  rw [gdx_t (by omega), e1, bs1, gdx_t he, h.2.2.1, Int.toNat_natCast, h.1.2.2 11 v (by omega)]
  have hm : 0 ≤ t * awayN w (g 1 e) v ∧ t * awayN w (g 1 e) v ≤ 60 := by
    rcases ht with rfl | rfl <;> omega
  simp only
  rw [gd3_t (by omega), wt_e]
  refine ⟨_, rfl, (f1.mono (fun b q => Or.inl (PN_PL b q))).up (Or.inr ⟨by omega, by omega⟩), ?_⟩
  exact hn1.up 4 (by omega) e _
/-- the rider and the crosser of a wave are among the surfers -/
theorem ridr_mem {od : Int → Int} : ∀ {l : List Int} {x e : Int} {r : List Int}, (ridr od l x).1 = some (e, r) → e ∈ l ∧ ∀ q ∈ r, q ∈ l := by
  intro l
  induction l with
  | nil => intro x e r h; cases h
  | cons y t ih =>
    intro x e r h
    unfold ridr at h
    split at h
    · have := ih h
      exact ⟨List.mem_cons_of_mem _ this.1, fun q hq => List.mem_cons_of_mem _ (this.2 q hq)⟩
    · cases h
      exact ⟨by simp, fun q hq => List.mem_cons_of_mem _ hq⟩
theorem crsr_mem {bl : Int → Int} : ∀ {l : List Int} {x e : Int}, (crsr bl l x).1 = some e → e ∈ l := by
  intro l
  induction l with
  | nil => intro x e h; cases h
  | cons y t ih =>
    intro x e h
    unfold crsr at h
    split at h
    · exact List.mem_cons_of_mem _ (ih h)
    · split at h
      · exact List.mem_cons_of_mem _ (ih h)
      · cases h; simp
theorem g_bring (h : CX m s T w g) (hW : WW w) (hG : GB w g) (hn : NX m a n) {f : Int} (hB : NB w n f) (hf : 0 ≤ f ∧ f ≤ 1000) {v : Int} (hv : 0 ≤ v ∧ v < w 8 1) : ∃ m', G6_bringWave m s a v = some m' ∧ Fr (PW s a) m m' ∧ NX m' a (bw w g n v (w 11 v)) := by
  have hw := hW.1
  unfold WS at hw
  have hs := h.2.1
  have ha := hn.1
  obtain ⟨m1, e1, f1, l1⟩ := g_line h hW hG hn hB (w 11 v) hv
  have h1 := h.pl f1
  have n1 := hn.pl hs f1
  have hlen : (lu w g n v (w 11 v)).length ≤ 5 := by
    have : ∀ (ok : Int → Bool) (key : Int → Int) (d : Nat) (i : Int) (rl : List Int), (lud ok key d i rl).length ≤ rl.length + d := by
      intro ok key d
      induction d with
      | zero => intro i rl; exact Nat.le_refl _
      | succ d ih =>
        intro i rl
        unfold lud
        split
        · have := ih (i + 1) (insR key i rl); rw [insR_len] at this; omega
        · have := ih (i + 1) rl; omega
    have := this (okL w g n v (w 11 v)) (keyV w g n v) (w 1 0).toNat 0 []
    unfold lu
    simp only [List.length_nil] at this
    omega
  have hmem : ∀ e ∈ (lu w g n v (w 11 v)).reverse, 0 ≤ e ∧ e < w 1 0 := fun e he => by
    have := lu_mem (List.mem_reverse.mp he) (by omega)
    exact ⟨this.1, this.2.1⟩
  have hnum : (0 ≤ m1 a 2 ∧ m1 a 2 < 2147483648) := by rw [n1.2.1]; exact ⟨hB.1.2.2.1, hB.1.2.2.2.1⟩
  unfold G6_bringWave G6_bringWave_0
  rw [gdx_t (by omega), h.2.2.1, Int.toNat_natCast, h.1.2.2 11 v (by omega), e1, bs1]
  unfold G6_placeOfRider G6_placeOfRider_0
  obtain ⟨p, x, q1, q2, q3, q4⟩ := g_ride (od := odV w g n v) ha hs (lu w g n v (w 11 v)).reverse 1024 0 m1 (by rw [List.length_reverse]; omega) (by omega) (by rw [List.length_reverse]; omega) hnum (stk_frt l1.1) (fun e he => by
    have := hmem e he
    exact ⟨this.1, by omega, (l1.2 e (List.mem_reverse.mp he)).1⟩)
  rw [List.length_reverse, Int.zero_add] at q1
  simp only
  rw [q1, bs1]
  have nm1 : m1 a 2 = n 0 2 := n1.2.1 2
  rw [nm1] at q2 q4
  have n2 : NX (up m1 a 2 x) a (up n 0 2 x) := n1.up0 2 x
  have f2 : Fr (PW s a) m (up m1 a 2 x) := (f1.mono (fun b q => Or.inl q)).up (Or.inr ⟨by omega, by omega⟩)
  have h2 := h.pw ha f2
  unfold bw bw1
  rcases q4 with ⟨q4, q5⟩ | ⟨e, r, z1, z2, z3, z4, z5, z6, z7⟩
  · rw [q5]
    simp only [q4, if_true]
    rw [gdx_t (by omega), wt_e, up_a (by omega), n2.2.1, up_i (by omega), gd3_t (by have := hB.1; omega), wt_e, ← q2]
    exact ⟨_, rfl, (f2.up (Or.inr ⟨by omega, by omega⟩)).up (Or.inr ⟨by omega, by omega⟩), (n2.up 6 (by omega) v (-1)).up0 4 _⟩
  · rw [z1]
    have hep := hmem e z6
    have hgp := hG.1 e hep.1 hep.2
    have hBe := hB.2 e hep.1 hep.2
    rw [List.length_reverse] at z3
    simp only
    rw [if_neg (by omega), gdx_t (by omega)]
    have e6 : up m1 a 2 x (s + 6) p = e := by rw [up_a (by omega)]; exact z4
    rw [e6]
    unfold G6_crosserBehind G6_crosserBehind_0
    rw [gd3_t (by omega)]
    obtain ⟨c, y, c1, c2, c3, c4⟩ := g_cross (bl := g 2) ha hs r 1024 (p + 1) (up m1 a 2 x) (by omega) (by omega) (by omega) (by rw [up_e]; exact q3) (by rw [up_b (by omega)]; exact z5) (fun q hq => by
      have := hmem q (z7 q hq)
      exact ⟨this.1, by omega, h2.2.2.2 2 q (by omega) (by omega)⟩)
    have ep : p + 1 + (r.length : Int) = ((lu w g n v (w 11 v)).length : Int) := by omega
    rw [ep] at c1
    rw [c1, bs1]
    rw [up_e] at c2 c4
    have n3 : NX (up (up m1 a 2 x) a 2 y) a (up n 0 2 y) := by
      have := n2.up0 2 y
      have e : up (up n 0 2 x) 0 2 y = up n 0 2 y := by
        funext b j
        by_cases cb : b = 0
        · subst cb
          by_cases cj : j = 2
          · subst cj; rw [up_e, up_e]
          · rw [up_i cj, up_i cj, up_i cj]
        · rw [up_a cb, up_a cb, up_a cb]
      rwa [e] at this
    have f3 : Fr (PW s a) m (up (up m1 a 2 x) a 2 y) := f2.up (Or.inr ⟨by omega, by omega⟩)
    have h3 := h.pw ha f3
    rw [← q2]
    unfold bw2
    rcases c4 with ⟨c4, c5⟩ | ⟨c5, c6⟩
    · rw [c5, ← c2]
      simp only [c4, if_true]
      rw [gdx_t (by omega), wt_e, gdx_t (by omega), gdx_t (by omega)]
      have n4 := n3.up 6 (by omega) v e
      have f4 := f3.up (a := a + 6) (i := v) (v := e) (Or.inr ⟨by omega, by omega⟩)
      have e7 : up (up (up m1 a 2 x) a 2 y) (a + 6) v e (a + 2) e = n 2 e := by rw [n4.2.2 2 e (by omega), up_a (by omega), up_a (by omega)]
      rw [e7, gd3_t (by omega), wt_e]
      have n5 := n4.up 2 (by omega) e (n 2 e + 1)
      have f5 := f4.up (a := a + 2) (i := e) (v := n 2 e + 1) (Or.inr ⟨by omega, by omega⟩)
      obtain ⟨m', g1, g2, g3⟩ := g_send (h.pw ha f5) hW n5 (e := e) (v := v) (t := 1) (by omega) ⟨hgp.1, hgp.2.1⟩ hv (Or.inl rfl)
      rw [g1, bs1]
      exact ⟨m', rfl, f5.tr g2, g3⟩
    · rw [c5, ← c2]
      have hcp := hmem c (z7 c c6)
      have hgc := hG.1 c hcp.1 hcp.2
      have hBc := hB.2 c hcp.1 hcp.2
      simp only
      rw [if_neg (by omega), gdx_t (by omega), wt_e]
      have n4 := n3.up 6 (by omega) v (-3)
      have f4 := f3.up (a := a + 6) (i := v) (v := -3) (Or.inr ⟨by omega, by omega⟩)
      have e7 : up (up (up m1 a 2 x) a 2 y) (a + 6) v (-3) a 3 = n 0 3 := by rw [n4.2.1 3, up_a (by omega), up_i (by omega)]
      rw [e7, gd3_t (by have := hB.1; omega), wt_e, gdx_t (by omega), gdx_t (by omega)]
      have n5 := n4.up0 3 (n 0 3 + 1)
      have f5 := f4.up (a := a) (i := 3) (v := n 0 3 + 1) (Or.inr ⟨by omega, by omega⟩)
      have e8 : up (up (up (up m1 a 2 x) a 2 y) (a + 6) v (-3)) a 3 (n 0 3 + 1) (a + 3) e = n 3 e := by rw [n5.2.2 3 e (by omega), up_a (by omega), up_a (by omega), up_a (by omega)]
      rw [e8, gd3_t (by omega), wt_e, gdx_t (by omega), gdx_t (by omega)]
      have n6 := n5.up 3 (by omega) e (n 3 e + 1)
      have f6 := f5.up (a := a + 3) (i := e) (v := n 3 e + 1) (Or.inr ⟨by omega, by omega⟩)
      have e9 : up (up (up (up (up m1 a 2 x) a 2 y) (a + 6) v (-3)) a 3 (n 0 3 + 1)) (a + 3) e (n 3 e + 1) (a + 3) c = up n 3 e (n 3 e + 1) 3 c := by
        rw [n6.2.2 3 c (by omega)]
        by_cases cc : c = e
        · subst cc; rw [up_e, up_e]
        · rw [up_i cc, up_i cc, up_a (by omega), up_a (by omega), up_a (by omega)]
      have e10 : up n 3 e (n 3 e + 1) 3 c ≤ f + 1 ∧ 0 ≤ up n 3 e (n 3 e + 1) 3 c := by
        by_cases cc : c = e
        · subst cc; rw [up_e]; omega
        · rw [up_i cc]; omega
      rw [e9, gd3_t (by omega), wt_e]
      have n7 := n6.up 3 (by omega) c (up n 3 e (n 3 e + 1) 3 c + 1)
      have f7 := f6.up (a := a + 3) (i := c) (v := up n 3 e (n 3 e + 1) 3 c + 1) (Or.inr ⟨by omega, by omega⟩)
      obtain ⟨m8, g1, g2, g3⟩ := g_send (h.pw ha f7) hW n7 (e := e) (v := v) (t := 2) (by omega) ⟨hgp.1, hgp.2.1⟩ hv (Or.inr rfl)
      rw [g1, bs1]
      obtain ⟨m9, k1, k2, k3⟩ := g_send (h.pw ha (f7.tr g2)) hW g3 (e := c) (v := v) (t := 2) (by omega) ⟨hgc.1, hgc.2.1⟩ hv (Or.inr rfl)
      rw [k1, bs1]
      exact ⟨m9, rfl, (f7.tr g2).tr k2, k3⟩
end BR
