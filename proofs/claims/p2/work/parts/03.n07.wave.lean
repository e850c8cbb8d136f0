/-! A wave comes: who is in the order, who rides, who crosses; the class does so. -/
def NX (m : Mem) (a : Nat) (n : Mem) : Prop := (a = 69 ∨ a = 76 ∨ a = 83) ∧ (∀ i, m a i = n 0 i) ∧ ∀ c i, c ≤ 6 → m (a + c) i = n c i
theorem NX.fr {m m' : Mem} {a : Nat} {n : Mem} (h : NX m a n) {P : Nat → Prop} (f : Fr P m m') (hp : ∀ b, a ≤ b → b ≤ a + 6 → ¬ P b) : NX m' a n := by
  obtain ⟨h1, h2, h3⟩ := h
  refine ⟨h1, fun i => ?_, fun c i hc => ?_⟩
  · rw [f a i (hp a (by omega) (by omega))]; exact h2 i
  · rw [f (a + c) i (hp (a + c) (by omega) (by omega))]; exact h3 c i hc
theorem NX.pl {m m' : Mem} {a s : Nat} {n : Mem} (h : NX m a n) (hs : s = 51 ∨ s = 60) (f : Fr (PL s) m m') : NX m' a n := h.fr f (by intro b x y; have := h.1; unfold PL; omega)
theorem NX.up0 {m : Mem} {a : Nat} {n : Mem} (h : NX m a n) (i v : Int) : NX (up m a i v) a (up n 0 i v) := by
  obtain ⟨h1, h2, h3⟩ := h
  refine ⟨h1, fun j => ?_, fun c j hc => ?_⟩
  · by_cases e : j = i
    · subst e; rw [up_e, up_e]
    · rw [up_i e, up_i e]; exact h2 j
  · by_cases hc0 : c = 0
    · subst hc0
      by_cases e : j = i
      · subst e; rw [Nat.add_zero, up_e, up_e]
      · rw [Nat.add_zero, up_i e, up_i e]; exact h2 j
    · rw [up_a (by omega), up_a hc0]; exact h3 c j hc
theorem NX.up {m : Mem} {a : Nat} {n : Mem} (h : NX m a n) (c : Nat) (hc0 : 1 ≤ c) (i v : Int) : NX (up m (a + c) i v) a (up n c i v) := by
  obtain ⟨h1, h2, h3⟩ := h
  refine ⟨h1, fun j => ?_, fun d j hd => ?_⟩
  · rw [up_a (by omega), up_a (by omega)]; exact h2 j
  · by_cases e : d = c
    · subst e
      by_cases e : j = i
      · subst e; rw [up_e, up_e]
      · rw [up_i e, up_i e]; exact h3 d j hd
    · rw [up_a (by omega), up_a e]; exact h3 d j hd
def PA (a : Nat) : Nat → Prop := fun b => a ≤ b ∧ b ≤ a + 6
/-- what a wave may change: the minute at a, the surf's rows -/
def PW (s a : Nat) : Nat → Prop := fun b => PL s b ∨ PA a b
theorem CX.pw {m m' : Mem} {s T a : Nat} {w g : Mem} (h : CX m s T w g) (ha : a = 69 ∨ a = 76 ∨ a = 83) (f : Fr (PW s a) m m') : CX m' s T w g := h.fr f (by intro b q; have := h.2.1; unfold PW PL PA; omega)
def hod (f h : Int → Int) (x t : Int) : Nat → Int → Int
  | 0, _ => 0
  | d + 1, i => if f i = t then (if h i = x then 1 else hod f h x t d (i + 1)) else hod f h x t d (i + 1)
theorem hod_s (f h : Int → Int) (x t : Int) (d : Nat) (i : Int) : hod f h x t (d + 1) i = if f i = t then (if h i = x then 1 else hod f h x t d (i + 1)) else hod f h x t d (i + 1) := rfl
def hos (w n : Mem) (x t : Int) : Int := hod (w 13) (n 6) x t (w 8 1).toNat 0
def keyV (w g n : Mem) (v i : Int) : Int := if n 0 1 = 1 then n 2 i else if n 0 1 = 2 then (if hos w n i (w 13 v) = 0 then fr w (n 1 i) (g 3 v) else 100 + fr w (n 1 i) (g 3 v)) else if n 0 1 = 3 then -(n 1 i / w 0 0) else fr w (n 1 i) (g 3 v)
def odV (w g n : Mem) (v i : Int) : Int := oddsV w (g 1 i) (g 3 v) v (n 1 i)
def okL (w g n : Mem) (v mn : Int) : Int → Bool := fun i => decide (n 4 i ≤ mn) && decide (0 < odV w g n v i)
def lu (w g n : Mem) (v mn : Int) : List Int := lud (okL w g n v mn) (keyV w g n v) (w 1 0).toNat 0 []
/-- what the numbers of a minute are within; f: how many waves have come -/
def NB (w n : Mem) (f : Int) : Prop := (0 ≤ n 0 1 ∧ n 0 1 ≤ 3 ∧ 0 ≤ n 0 2 ∧ n 0 2 < 2147483648 ∧ 0 ≤ n 0 3 ∧ n 0 3 ≤ f ∧ 0 ≤ n 0 4 ∧ n 0 4 ≤ f) ∧ ∀ i, 0 ≤ i → i < w 1 0 → (0 ≤ n 1 i ∧ n 1 i < w 0 0 * w 0 1) ∧ (0 ≤ n 2 i ∧ 2 * n 2 i ≤ f) ∧ (0 ≤ n 3 i ∧ n 3 i ≤ f) ∧ (0 ≤ n 4 i ∧ n 4 i ≤ 2147483647)
section WAVE
variable {m : Mem} {s T a : Nat} {w g n : Mem}
theorem g_hod (h : CX m s T w g) (hn : NX m a n) (hs : 0 ≤ w 8 1 ∧ w 8 1 ≤ 28) (x t : Int) : ∀ (d k : Nat) (i : Int), 0 ≤ i → w 8 1 - i = d → d < k → G6_hadOfSet_3 k m s a x t i = some (hod (w 13) (n 6) x t d i, m) := by
  intro d
  induction d with
  | zero =>
    intro k i a1 a2 a3
    obtain ⟨k, rfl⟩ : ∃ j, k = j + 1 := ⟨k - 1, by omega⟩
    rw [G6_hadOfSet_3, h.2.2.1, Int.toNat_natCast, h.1.2.2 8 1 (by omega), if_pos (by omega)]
    rfl
  | succ d ih =>
    intro k i a1 a2 a3
    obtain ⟨k, rfl⟩ : ∃ j, k = j + 1 := ⟨k - 1, by omega⟩
    rw [G6_hadOfSet_3, h.2.2.1, Int.toNat_natCast, h.1.2.2 8 1 (by omega), if_neg (by omega), gdx_t (by omega), gdx_t (by omega), gd3_t (by omega), h.1.2.2 13 i (by omega), hn.2.2 6 i (by omega), ih k (i + 1) (by omega) (by omega) (by omega)]
    rw [hod_s]
    split
    · split <;> rfl
    · rfl
theorem g_hos (h : CX m s T w g) (hn : NX m a n) (hs : 0 ≤ w 8 1 ∧ w 8 1 ≤ 28) (x t : Int) : G6_hadOfSet m s a x t = some (hos w n x t, m) :=
  g_hod h hn hs x t _ 1024 0 (by omega) (by omega) (by omega)
theorem g_key (h : CX m s T w g) (hW : WW w) (hG : GB w g) (hn : NX m a n) {f : Int} (hB : NB w n f) {i v : Int} (hi : 0 ≤ i ∧ i < w 1 0) (hv : 0 ≤ v ∧ v < w 8 1) : G6_keyFor m s a i v = some (keyV w g n v i, m) := by
  have hw := hW.1
  unfold WS at hw
  have hb := hB.2 i hi.1 hi.2
  have hp := hG.2 v hv.1 hv.2
  have hf := fr_b (w := w) (by omega) (by omega) (by omega) hb.1 hp
  have hc := cell_b (W := w 0 0) (H := w 0 1) (by omega) (by omega) hb.1
  unfold G6_keyFor G6_keyFor_0 keyV
  rw [gdx_t (by omega), hn.2.2 1 i (by omega), g_farOf h hW hv hb.1 hp, bs1]
  simp only [hn.2.1, hn.2.2 2 i (by omega), h.2.2.1, Int.toNat_natCast, h.1.2.2 13 v (by omega), hn.2.2 1 i (by omega)]
  rw [gdx_t (by omega), gdx_t (by omega), gdx_t (by omega), g_hos h hn (by omega), bs1, g_row h.1 (by omega) hb.1.1, bs1]
  simp only
  rw [gd3_t (by omega), gd3_t (by omega)]
  split
  · rfl
  · split
    · split <;> rfl
    · split <;> rfl
theorem lud_mem {ok : Int → Bool} {key : Int → Int} {e : Int} : ∀ (d : Nat) (i : Int) (rl : List Int), e ∈ lud ok key d i rl → e ∈ rl ∨ (i ≤ e ∧ e < i + d ∧ ok e = true) := by
  intro d
  induction d with
  | zero => intro i rl h; exact Or.inl h
  | succ d ih =>
    intro i rl h
    unfold lud at h
    split at h
    · rename_i c
      rcases ih _ _ h with q | q
      · rcases insR_mem.mp q with rfl | q
        · exact Or.inr ⟨by omega, by omega, c⟩
        · exact Or.inl q
      · exact Or.inr ⟨by omega, by omega, q.2.2⟩
    · rcases ih _ _ h with q | q
      · exact Or.inl q
      · exact Or.inr ⟨by omega, by omega, q.2.2⟩
theorem lu_mem {v mn e : Int} (h : e ∈ lu w g n v mn) (hs : 0 ≤ w 1 0) : 0 ≤ e ∧ e < w 1 0 ∧ n 4 e ≤ mn ∧ 0 < odV w g n v e := by
  rcases lud_mem _ _ _ h with q | q
  · cases q
  · have h1 := q.2.2
    unfold okL at h1
    rw [Bool.and_eq_true] at h1
    exact ⟨q.1, by omega, of_decide_eq_true h1.1, of_decide_eq_true h1.2⟩
/-- rows of the surf for those in the order -/
def LR (m : Mem) (s : Nat) (w g n : Mem) (v : Int) (rl : List Int) : Prop := stkO (m (s + 6)) 0 rl ∧ ∀ e ∈ rl, m (s + 7) e = odV w g n v e ∧ m (s + 8) e = keyV w g n v e
theorem g_line6 (hW : WW w) (hG : GB w g) {f : Int} (hB : NB w n f) {v mn : Int} (hv : 0 ≤ v ∧ v < w 8 1) : ∀ (d k : Nat) (i : Int) (rl : List Int) (m : Mem), 0 ≤ i → w 1 0 - i = d → d < k → (rl.length : Int) ≤ i → (∀ e ∈ rl, 0 ≤ e ∧ e < i) → CX m s T w g → NX m a n → LR m s w g n v rl → ∃ m', G6_lineUp_6 k m s a v mn rl.length i = some (((lud (okL w g n v mn) (keyV w g n v) d i rl).length : Int), m') ∧ Fr (PL s) m m' ∧ LR m' s w g n v (lud (okL w g n v mn) (keyV w g n v) d i rl) := by
  have hw := hW.1
  unfold WS at hw
  intro d
  induction d with
  | zero =>
    intro k i rl m a1 a2 a3 a4 a5 h hn hL
    obtain ⟨k, rfl⟩ : ∃ j, k = j + 1 := ⟨k - 1, by omega⟩
    rw [G6_lineUp_6, h.2.2.1, Int.toNat_natCast, h.1.2.2 1 0 (by omega), if_pos (by omega)]
    exact ⟨m, rfl, Fr.rf, hL⟩
  | succ d ih =>
    intro k i rl m a1 a2 a3 a4 a5 h hn hL
    obtain ⟨k, rfl⟩ : ∃ j, k = j + 1 := ⟨k - 1, by omega⟩
    have hs := h.2.1
    have ha := hn.1
    have hb := hB.2 i (by omega) (by omega)
    have hg := hG.1 i (by omega) (by omega)
    have hp := hG.2 v hv.1 hv.2
    rw [G6_lineUp_6, h.2.2.1, Int.toNat_natCast, h.1.2.2 1 0 (by omega), if_neg (by omega)]
    unfold G4_isIn G4_isIn_0
    rw [gdx_t (by omega), hn.2.2 4 i (by omega)]
    by_cases c1 : mn < n 4 i
    · rw [if_pos c1, bs1]
      simp only [if_true]
      rw [gd3_t (by omega)]
      obtain ⟨m', q1, q2, q3⟩ := ih k (i + 1) rl m (by omega) (by omega) (by omega) (by omega) (fun e he => by have := a5 e he; omega) h hn hL
      have e : lud (okL w g n v mn) (keyV w g n v) (d + 1) i rl = lud (okL w g n v mn) (keyV w g n v) d (i + 1) rl := by
        show (if okL w g n v mn i = true then _ else _) = _
        rw [if_neg (by unfold okL; rw [Bool.and_eq_true]; rintro ⟨q, _⟩; have := of_decide_eq_true q; omega)]
      rw [e]
      exact ⟨m', q1, q2, q3⟩
    · rw [if_neg c1, bs1]
      simp only [if_neg (show ¬ (1 : Int) = 0 by decide)]
      rw [gdx_t (by omega), hn.2.2 1 i (by omega)]
      obtain ⟨m1, e1, f1⟩ := g_odds h hW (x := i) (v := v) (c := n 1 i) (by omega) ⟨hg.1, hg.2.1⟩ hv hb.1 hp
      rw [e1, bs1, gdx_t (by omega), wt_e, gdx_t (by omega)]
      simp only
      rw [up_e]
      have hod : oddsV w (g 1 i) (g 3 v) v (n 1 i) = odV w g n v i := rfl
      rw [hod]
      have f2 : Fr (PL s) m (up m1 (s + 7) i (odV w g n v i)) := (f1.mono PN_PL).up (by unfold PL; omega)
      have hL2 : LR (up m1 (s + 7) i (odV w g n v i)) s w g n v rl := by
        refine ⟨?_, fun e he => ?_⟩
        · rw [up_b (by omega), f1.row (by unfold PN; omega)]; exact hL.1
        · have := a5 e he
          rw [up_i (by omega), up_a (by omega), f1 _ _ (by unfold PN; omega), f1 _ _ (by unfold PN; omega)]
          exact hL.2 e he
      by_cases c2 : odV w g n v i ≤ 0
      · rw [if_pos c2, gd3_t (by omega)]
        obtain ⟨m', q1, q2, q3⟩ := ih k (i + 1) rl _ (by omega) (by omega) (by omega) (by omega) (fun e he => by have := a5 e he; omega) (h.pl f2) (hn.pl hs f2) hL2
        have e : lud (okL w g n v mn) (keyV w g n v) (d + 1) i rl = lud (okL w g n v mn) (keyV w g n v) d (i + 1) rl := by
          show (if okL w g n v mn i = true then _ else _) = _
          rw [if_neg (by unfold okL; rw [Bool.and_eq_true]; rintro ⟨_, q⟩; have := of_decide_eq_true q; omega)]
        rw [e]
        exact ⟨m', q1, f2.tr q2, q3⟩
      · rw [if_neg c2, g_key (h.pl f2) hW hG (hn.pl hs f2) hB (by omega) hv, bs1, gdx_t (by omega), wt_e]
        simp only
        have f3 : Fr (PL s) m (up (up m1 (s + 7) i (odV w g n v i)) (s + 8) i (keyV w g n v i)) := f2.up (by unfold PL; omega)
        obtain ⟨m4, e4, f4, s4⟩ := g_put (s := s) (key := keyV w g n v) (x := i) (m := up (up m1 (s + 7) i (odV w g n v i)) (s + 8) i (keyV w g n v i)) (by omega) rl (by omega) (fun e he => by
          have := a5 e he
          have h8 := hL2.2 e he
          exact ⟨this.1, by omega, by rw [up_i (by omega)]; exact h8.2⟩) up_e (by rw [up_b (by omega)]; exact hL2.1)
        rw [e4, bs1, gd3_t (by omega), gd3_t (by omega)]
        have f5 : Fr (PL s) m m4 := f3.tr (f4.mono (by intro b q; unfold PL; have : b = s + 6 := q; omega))
        have hlen := insR_len (keyV w g n v) i rl
        have el : (rl.length : Int) + 1 = ((insR (keyV w g n v) i rl).length : Int) := by omega
        rw [el]
        obtain ⟨m', q1, q2, q3⟩ := ih k (i + 1) (insR (keyV w g n v) i rl) m4 (by omega) (by omega) (by omega) (by omega) (fun e he => by
          rcases insR_mem.mp he with rfl | q
          · omega
          · have := a5 e q; omega) (h.pl f5) (hn.pl hs f5) ⟨s4, fun e he => by
            rw [f4 _ _ (by show ¬ s + 7 = s + 6; omega), f4 _ _ (by show ¬ s + 8 = s + 6; omega)]
            rcases insR_mem.mp he with rfl | q
            · exact ⟨by rw [up_a (by omega), up_e], up_e⟩
            · have h9 := a5 e q
              exact ⟨by rw [up_a (by omega)]; exact (hL2.2 e q).1, by rw [up_i (by omega)]; exact (hL2.2 e q).2⟩⟩
        have e : lud (okL w g n v mn) (keyV w g n v) (d + 1) i rl = lud (okL w g n v mn) (keyV w g n v) d (i + 1) (insR (keyV w g n v) i rl) := by
          show (if okL w g n v mn i = true then _ else _) = _
          rw [if_pos (by unfold okL; rw [Bool.and_eq_true]; exact ⟨decide_eq_true (by omega), decide_eq_true (by omega)⟩)]
        rw [e]
        exact ⟨m', q1, f5.tr q2, q3⟩
theorem g_line (h : CX m s T w g) (hW : WW w) (hG : GB w g) (hn : NX m a n) {f : Int} (hB : NB w n f) {v : Int} (mn : Int) (hv : 0 ≤ v ∧ v < w 8 1) : ∃ m', G6_lineUp m s a v mn = some (((lu w g n v mn).length : Int), m') ∧ Fr (PL s) m m' ∧ LR m' s w g n v (lu w g n v mn) := by
  have hw := hW.1
  unfold WS at hw
  exact g_line6 hW hG hB hv (w 1 0).toNat 1024 0 [] m (by omega) (by omega) (by omega) (by simp) (fun e he => nomatch he) h hn ⟨trivial, fun e he => nomatch he⟩
end WAVE
