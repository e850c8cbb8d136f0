/-! The reference: a wave comes. -/
def PD : Nat → Int → Prop := fun a i => PNm a i ∨ (a = 0 ∧ i = 65)
def PCm (b : Int) : Nat → Int → Prop := fun a i => PO a i ∨ (a = 0 ∧ i = 65) ∨ ((a = 26 ∨ a = 27 ∨ a = 28) ∧ 5 * b ≤ i ∧ i < 5 * b + 5) ∨ (a = 30 ∧ 28 * b ≤ i ∧ i < 28 * b + 28) ∨ ((a = 32 ∨ a = 33) ∧ i = b)
theorem PD_C {b : Int} : ∀ a i, PD a i → PCm b a i := fun a i z => z.elim (fun y => Or.inl (Or.inl y)) (fun y => Or.inr (Or.inl y))
theorem RT.pc {v v' w : Mem} {b : Int} (h : RT v w) (f : Fm (PCm b) v v') : RT v' w := h.fr f (by intro a i q; unfold PCm PO PNm; omega)
section NMU
variable {m w n : Mem} {b : Int}
theorem NM.num (h : NM m b w n) (x : Int) : NM (up m 0 65 x) b w (up n 0 2 x) := by
  obtain ⟨h1, h2, h3, h4, h5⟩ := h
  refine ⟨fun i p q => ?_, fun k p q => ?_, ?_, ?_, ?_⟩
  · simp (disch := omega) only [up_a]; exact h1 i p q
  · simp (disch := omega) only [up_a]; exact h2 k p q
  · simp (disch := omega) only [up_a, up_i]; exact h3
  · simp (disch := omega) only [up_a, up_i]; exact h4
  · rw [up_e, up_e]
theorem NM.who (h : NM m b w n) (v x : Int) : NM (up m 30 (28 * b + v) x) b w (up n 6 v x) := by
  obtain ⟨h1, h2, h3, h4, h5⟩ := h
  refine ⟨fun i p q => ?_, fun k p q => ?_, ?_, ?_, ?_⟩
  · simp (disch := omega) only [up_a]; exact h1 i p q
  · by_cases c : k = v
    · subst c; rw [up_e, up_e]
    · rw [up_i (by omega), up_i c]; exact h2 k p q
  · simp (disch := omega) only [up_a, up_i]; exact h3
  · simp (disch := omega) only [up_a, up_i]; exact h4
  · simp (disch := omega) only [up_a, up_i]; exact h5
theorem NM.had (h : NM m b w n) (e x : Int) : NM (up m 26 (5 * b + e) x) b w (up n 2 e x) := by
  obtain ⟨h1, h2, h3, h4, h5⟩ := h
  refine ⟨fun i p q => ?_, fun k p q => ?_, ?_, ?_, ?_⟩
  · have := h1 i p q
    by_cases c : i = e
    · subst c
      rw [up_e, up_e, up_a (by omega), up_a (by omega), up_a (by omega), up_a (by omega)]; exact ⟨this.1, rfl, this.2.2⟩
    · rw [up_i (show 5 * b + i ≠ 5 * b + e by omega), up_i c, up_a (by omega), up_a (by omega), up_a (by omega), up_a (by omega)]; exact this
  · simp (disch := omega) only [up_a]; exact h2 k p q
  · simp (disch := omega) only [up_a, up_i]; exact h3
  · simp (disch := omega) only [up_a, up_i]; exact h4
  · simp (disch := omega) only [up_a, up_i]; exact h5
theorem NM.crs (h : NM m b w n) (e x : Int) : NM (up m 27 (5 * b + e) x) b w (up n 3 e x) := by
  obtain ⟨h1, h2, h3, h4, h5⟩ := h
  refine ⟨fun i p q => ?_, fun k p q => ?_, ?_, ?_, ?_⟩
  · have := h1 i p q
    by_cases c : i = e
    · subst c
      rw [up_e, up_e, up_a (by omega), up_a (by omega), up_a (by omega), up_a (by omega)]; exact ⟨this.1, this.2.1, rfl⟩
    · rw [up_i (show 5 * b + i ≠ 5 * b + e by omega), up_i c, up_a (by omega), up_a (by omega), up_a (by omega), up_a (by omega)]; exact this
  · simp (disch := omega) only [up_a]; exact h2 k p q
  · simp (disch := omega) only [up_a, up_i]; exact h3
  · simp (disch := omega) only [up_a, up_i]; exact h4
  · simp (disch := omega) only [up_a, up_i]; exact h5
theorem NM.cw (h : NM m b w n) (x : Int) : NM (up m 32 b x) b w (up n 0 3 x) := by
  obtain ⟨h1, h2, h3, h4, h5⟩ := h
  refine ⟨fun i p q => ?_, fun k p q => ?_, ?_, ?_, ?_⟩
  · simp (disch := omega) only [up_a]; exact h1 i p q
  · simp (disch := omega) only [up_a]; exact h2 k p q
  · rw [up_e, up_e]
  · simp (disch := omega) only [up_a, up_i]; exact h4
  · simp (disch := omega) only [up_a, up_i]; exact h5
theorem NM.ww (h : NM m b w n) (x : Int) : NM (up m 33 b x) b w (up n 0 4 x) := by
  obtain ⟨h1, h2, h3, h4, h5⟩ := h
  refine ⟨fun i p q => ?_, fun k p q => ?_, ?_, ?_, ?_⟩
  · simp (disch := omega) only [up_a]; exact h1 i p q
  · simp (disch := omega) only [up_a]; exact h2 k p q
  · simp (disch := omega) only [up_a, up_i]; exact h3
  · rw [up_e, up_e]
  · simp (disch := omega) only [up_a, up_i]; exact h5
theorem NM.till (h : NM m b w n) (e x : Int) : NM m b w (up n 4 e x) := by
  obtain ⟨h1, h2, h3, h4, h5⟩ := h
  refine ⟨fun i p q => ?_, fun k p q => ?_, ?_, ?_, ?_⟩
  · simp (disch := omega) only [up_a]; exact h1 i p q
  · simp (disch := omega) only [up_a]; exact h2 k p q
  · simp (disch := omega) only [up_a, up_i]; exact h3
  · simp (disch := omega) only [up_a, up_i]; exact h4
  · simp (disch := omega) only [up_a, up_i]; exact h5
theorem NM.w28 (h : NM m b w n) (i x : Int) : NM (up m 28 i x) b w n := by
  obtain ⟨h1, h2, h3, h4, h5⟩ := h
  refine ⟨fun i p q => ?_, fun k p q => ?_, ?_, ?_, ?_⟩
  · simp (disch := omega) only [up_a]; exact h1 i p q
  · simp (disch := omega) only [up_a]; exact h2 k p q
  · simp (disch := omega) only [up_a]; exact h3
  · simp (disch := omega) only [up_a]; exact h4
  · simp (disch := omega) only [up_a]; exact h5
theorem TLM.n4 {way one mn : Int} {n' : Mem} (h : TLM m b w n way one mn) (e : n' 4 = n 4) : TLM m b w n' way one mn := by
  unfold TLM at *; rw [e]; exact h
end NMU
section MC
variable {m w n : Mem} {b : Int}
theorem m_draw (h : 0 ≤ m 0 65 ∧ m 0 65 < 2147483648) : G12_number1 m 100 = some (hun (nxt (m 0 65)), up m 0 65 (nxt (m 0 65))) := by
  have hb := nxt_b (m 0 65)
  have e1 : b6an (m 0 65 * 1103515245 + 12345) 2147483647 = nxt (m 0 65) := b6an_m (by omega)
  unfold G12_number1 G12_number1_0
  rw [e1, wt_e, if_neg (by decide), up_e, Int.tdiv_eq_ediv_of_nonneg hb.1, gd6_t (by omega), Int.tmod_eq_emod_of_nonneg (by omega), gd3_t (by omega)]
  rfl
theorem m_send (hT : RT m w) (hW : WW w) (hb : b = 0 ∨ b = 1) {e v t : Int} (he : 0 ≤ e ∧ e < w 1 0) (hv : 0 ≤ v ∧ v < w 8 1) (ht : t = 1 ∨ t = 2) (hm : 0 ≤ m 31 b ∧ m 31 b ≤ 1000) : ∃ m', G12_goesAway m b e v t = some (up m' 28 (5 * b + e) (m 31 b + t * awayN w (bdM w (m 0 66) e) v)) ∧ Fm PNm m m' := by
  have hw := hW.1
  unfold WS at hw
  have hab := away_b w (bdM w (m 0 66) e) v
  obtain ⟨m1, e1, f1⟩ := m_away hT hW he hv
  unfold G12_goesAway G12_goesAway_0
  rw [gdx_t (by omega), e1, bs1, gdx_t (by omega)]
  have hmm : 0 ≤ t * awayN w (bdM w (m 0 66) e) v ∧ t * awayN w (bdM w (m 0 66) e) v ≤ 60 := by rcases ht with rfl | rfl <;> omega
  simp only
  rw [gd3_t (by omega), wt_e]
  exact ⟨m1, rfl, f1⟩
def cbN (m : Mem) (b v e : Int) : Option Mem := gdx ((28 * b) + v) 56 (wt (up m 30 ((28 * b) + v) e) fun m7 => gdx ((5 * b) + e) 10 (gdx ((5 * b) + e) 10 (gd3 ((m7 26 ((5 * b) + e)) + 1) (wt (up m7 26 ((5 * b) + e) ((m7 26 ((5 * b) + e)) + 1)) fun m13 => (G12_goesAway m13 b e v 1).bind fun o14 => some o14))))
def cbX (m : Mem) (b v e j : Int) : Option Mem := gdx ((28 * b) + v) 56 (wt (up m 30 ((28 * b) + v) (-3)) fun m8 => gdx b 2 (gdx b 2 (gd3 ((m8 32 b) + 1) (wt (up m8 32 b ((m8 32 b) + 1)) fun m14 => gdx ((5 * b) + e) 10 (gdx ((5 * b) + e) 10 (gd3 ((m14 27 ((5 * b) + e)) + 1) (wt (up m14 27 ((5 * b) + e) ((m14 27 ((5 * b) + e)) + 1)) fun m20 => gdx j 5 (gdx ((5 * b) + (m20 34 j)) 10 (gdx ((5 * b) + (m20 34 j)) 10 (gd3 ((m20 27 ((5 * b) + (m20 34 j))) + 1) (wt (up m20 27 ((5 * b) + (m20 34 j)) ((m20 27 ((5 * b) + (m20 34 j))) + 1)) fun m30 => (G12_goesAway m30 b e v 2).bind fun o31 => gdx j 5 ((G12_goesAway o31 b (o31 34 j) v 2).bind fun o37 => some o37))))))))))))
theorem TLM.put {way one mn e x : Int} (h : TLM m b w n way one mn) (hne : ¬ (way = 1 ∧ one = e)) (hx : mn < x) : TLM (up m 28 (5 * b + e) x) b w (up n 4 e x) way one mn := by
  intro i p q
  by_cases c : i = e
  · subst c
    right
    refine ⟨hne, ?_⟩
    rw [up_e, up_e, if_neg (by omega)]
  · rw [up_i (show 5 * b + i ≠ 5 * b + e by omega), up_i c]
    exact h i p q
theorem m_cbN (hT : RT m w) (hW : WW w) (hb : b = 0 ∨ b = 1) (hN : NM m b w n) {f : Int} (hB : NB w n f) (hf : 0 ≤ f ∧ f ≤ 1000) {way one v e : Int} (h66 : m 0 66 = way) (hv : 0 ≤ v ∧ v < w 8 1) (he : 0 ≤ e ∧ e < w 1 0) (hL : TLM m b w n way one (w 11 v)) (hmn : m 31 b = w 11 v) (hne : ¬ (way = 1 ∧ one = e)) : ∃ m', cbN m b v e = some m' ∧ Fm (PCm b) m m' ∧ NM m' b w (up (up (up n 6 v e) 2 e (n 2 e + 1)) 4 e (w 11 v + 1 * awayN w (gM w way 1 e) v)) ∧ TLM m' b w (up (up (up n 6 v e) 2 e (n 2 e + 1)) 4 e (w 11 v + 1 * awayN w (gM w way 1 e) v)) way one (w 11 v) := by
  have hw := hW.1
  unfold WS at hw
  have hm := (hW.2.2.2.1 v hv.1 hv.2).2.1
  have hBe := hB.2 e he.1 he.2
  have n1 := hN.who v e
  have f1 : Fm (PCm b) m (up m 30 (28 * b + v) e) := Fm.w1 (by unfold PCm; omega)
  unfold cbN
  rw [gdx_t (by omega), wt_e, gdx_t (by omega), gdx_t (by omega)]
  have e2 : up m 30 (28 * b + v) e 26 (5 * b + e) = n 2 e := by rw [(n1.1 e he.1 he.2).2.1, up_a (by omega)]
  rw [e2, gd3_t (by omega), wt_e]
  have n2 := n1.had e (n 2 e + 1)
  have f2 : Fm (PCm b) m (up (up m 30 (28 * b + v) e) 26 (5 * b + e) (n 2 e + 1)) := f1.w (by unfold PCm; omega)
  have k31 : up (up m 30 (28 * b + v) e) 26 (5 * b + e) (n 2 e + 1) 31 b = w 11 v := by rw [up_a (by omega), up_a (by omega)]; exact hmn
  have k66 : up (up m 30 (28 * b + v) e) 26 (5 * b + e) (n 2 e + 1) 0 66 = way := by rw [up_a (by omega), up_a (by omega)]; exact h66
  obtain ⟨m3, e3, f3⟩ := m_send (hT.pc f2) hW hb he hv (t := 1) (Or.inl rfl) (by rw [k31]; omega)
  rw [k31, k66] at e3
  rw [e3, bs1]
  have hg : gM w way 1 e = bdM w way e := rfl
  rw [hg]
  have hab := away_b w (bdM w way e) v
  have n3 : NM m3 b w (up (up n 6 v e) 2 e (n 2 e + 1)) := n2.fr f3 (by intro a i q; unfold PNm; omega)
  have r28 : m3 28 = m 28 := by
    funext i
    rw [f3 28 i (by unfold PNm; omega), up_a (by omega), up_a (by omega)]
  refine ⟨_, rfl, (f2.tr (f3.mono (fun a i z => Or.inl (Or.inl z)))).w (by unfold PCm; omega), ?_, ?_⟩
  · exact (n3.w28 _ _).till e _
  · have t1 : TLM m3 b w (up (up n 6 v e) 2 e (n 2 e + 1)) way one (w 11 v) := (hL.fr r28).n4 (by rw [up_b (by omega), up_b (by omega)])
    exact t1.put hne (by omega)
theorem m_cbX (hT : RT m w) (hW : WW w) (hb : b = 0 ∨ b = 1) (hN : NM m b w n) {f : Int} (hB : NB w n f) (hf : 0 ≤ f ∧ f ≤ 1000) {way one v e k j : Int} (h66 : m 0 66 = way) (hv : 0 ≤ v ∧ v < w 8 1) (he : 0 ≤ e ∧ e < w 1 0) (hk : 0 ≤ k ∧ k < w 1 0) (hj : 0 ≤ j ∧ j < 5) (hjk : m 34 j = k) (hL : TLM m b w n way one (w 11 v)) (hmn : m 31 b = w 11 v) (hne : ¬ (way = 1 ∧ one = e)) (hnk : ¬ (way = 1 ∧ one = k)) : ∃ m', cbX m b v e j = some m' ∧ Fm (PCm b) m m' ∧ NM m' b w (up (up (up (up (up (up n 6 v (-3)) 0 3 (n 0 3 + 1)) 3 e (n 3 e + 1)) 3 k (up n 3 e (n 3 e + 1) 3 k + 1)) 4 e (w 11 v + 2 * awayN w (gM w way 1 e) v)) 4 k (w 11 v + 2 * awayN w (gM w way 1 k) v)) ∧ TLM m' b w (up (up (up (up (up (up n 6 v (-3)) 0 3 (n 0 3 + 1)) 3 e (n 3 e + 1)) 3 k (up n 3 e (n 3 e + 1) 3 k + 1)) 4 e (w 11 v + 2 * awayN w (gM w way 1 e) v)) 4 k (w 11 v + 2 * awayN w (gM w way 1 k) v)) way one (w 11 v) := by
  have hw := hW.1
  unfold WS at hw
  have hm := (hW.2.2.2.1 v hv.1 hv.2).2.1
  have hBe := hB.2 e he.1 he.2
  have hBk := hB.2 k hk.1 hk.2
  have hB0 := hB.1
  have n1 := hN.who v (-3)
  have f1 : Fm (PCm b) m (up m 30 (28 * b + v) (-3)) := Fm.w1 (by unfold PCm; omega)
  unfold cbX
  rw [gdx_t (by omega), wt_e, gdx_t (by omega), gdx_t (by omega)]
  have e1 : up m 30 (28 * b + v) (-3) 32 b = n 0 3 := by rw [n1.2.2.1, up_a (by omega)]
  rw [e1, gd3_t (by omega), wt_e, gdx_t (by omega), gdx_t (by omega)]
  have n2 := n1.cw (n 0 3 + 1)
  have f2 := f1.w (a := 32) (i := b) (v := n 0 3 + 1) (by unfold PCm; omega)
  have e2 : up (up m 30 (28 * b + v) (-3)) 32 b (n 0 3 + 1) 27 (5 * b + e) = n 3 e := by rw [(n2.1 e he.1 he.2).2.2, up_a (by omega), up_a (by omega)]
  rw [e2, gd3_t (by omega), wt_e, gdx_t hj]
  have n3 := n2.crs e (n 3 e + 1)
  have f3 := f2.w (a := 27) (i := 5 * b + e) (v := n 3 e + 1) (by unfold PCm; omega)
  have e3 : up (up (up m 30 (28 * b + v) (-3)) 32 b (n 0 3 + 1)) 27 (5 * b + e) (n 3 e + 1) 34 j = k := by rw [up_a (by omega), up_a (by omega), up_a (by omega)]; exact hjk
  rw [e3, gdx_t (by omega), gdx_t (by omega)]
  have e4 : up (up (up m 30 (28 * b + v) (-3)) 32 b (n 0 3 + 1)) 27 (5 * b + e) (n 3 e + 1) 27 (5 * b + k) = up n 3 e (n 3 e + 1) 3 k := by
    rw [(n3.1 k hk.1 hk.2).2.2]
    by_cases cc : k = e
    · subst cc; rw [up_e, up_e]
    · rw [up_i cc, up_i cc, up_a (by omega), up_a (by omega)]
  have e5 : up n 3 e (n 3 e + 1) 3 k ≤ f + 1 ∧ 0 ≤ up n 3 e (n 3 e + 1) 3 k := by
    by_cases cc : k = e
    · subst cc; rw [up_e]; omega
    · rw [up_i cc]; omega
  rw [e4, gd3_t (by omega), wt_e]
  have n4 := n3.crs k (up n 3 e (n 3 e + 1) 3 k + 1)
  have f4 := f3.w (a := 27) (i := 5 * b + k) (v := up n 3 e (n 3 e + 1) 3 k + 1) (by unfold PCm; omega)
  generalize hM : up (up (up (up m 30 (28 * b + v) (-3)) 32 b (n 0 3 + 1)) 27 (5 * b + e) (n 3 e + 1)) 27 (5 * b + k) (up n 3 e (n 3 e + 1) 3 k + 1) = M at *
  have k31 : M 31 b = w 11 v := by rw [← hM]; simp (disch := omega) only [up_a]; exact hmn
  have k66 : M 0 66 = way := by rw [← hM]; simp (disch := omega) only [up_a]; exact h66
  have k34 : M 34 = m 34 := by rw [← hM]; simp (disch := omega) only [up_b]
  have k28 : M 28 = m 28 := by rw [← hM]; simp (disch := omega) only [up_b]
  obtain ⟨m5, e6, f5⟩ := m_send (hT.pc f4) hW hb he hv (t := 2) (Or.inr rfl) (by rw [k31]; omega)
  rw [k31, k66] at e6
  rw [e6, bs1, gdx_t hj]
  have r34 : up m5 28 (5 * b + e) (w 11 v + 2 * awayN w (bdM w way e) v) 34 j = k := by rw [up_a (by omega), f5 34 j (by unfold PNm; omega), k34]; exact hjk
  rw [r34]
  have f6 : Fm (PCm b) m (up m5 28 (5 * b + e) (w 11 v + 2 * awayN w (bdM w way e) v)) := (f4.tr (f5.mono (fun a i z => Or.inl (Or.inl z)))).w (by unfold PCm; omega)
  have k31' : up m5 28 (5 * b + e) (w 11 v + 2 * awayN w (bdM w way e) v) 31 b = w 11 v := by rw [up_a (by omega), f5 31 b (by unfold PNm; omega)]; exact k31
  have k66' : up m5 28 (5 * b + e) (w 11 v + 2 * awayN w (bdM w way e) v) 0 66 = way := by rw [up_a (by omega), f5 0 66 (by unfold PNm; omega)]; exact k66
  obtain ⟨m7, e8, f7⟩ := m_send (hT.pc f6) hW hb hk hv (t := 2) (Or.inr rfl) (by rw [k31']; omega)
  rw [k31', k66'] at e8
  rw [e8, bs1]
  have n5 : NM m5 b w _ := n4.fr f5 (by intro a i q; unfold PNm; omega)
  have n6 := (n5.w28 (5 * b + e) (w 11 v + 2 * awayN w (bdM w way e) v)).till e (w 11 v + 2 * awayN w (bdM w way e) v)
  have n7 : NM m7 b w _ := n6.fr f7 (by intro a i q; unfold PNm; omega)
  have hg : gM w way 1 e = bdM w way e := rfl
  have hg' : gM w way 1 k = bdM w way k := rfl
  have hab := away_b w (bdM w way e) v
  have hab' := away_b w (bdM w way k) v
  rw [hg, hg']
  refine ⟨_, rfl, (f6.tr (f7.mono (fun a i z => Or.inl (Or.inl z)))).w (by unfold PCm; omega), (n7.w28 _ _).till k _, ?_⟩
  have t1 : TLM m5 b w (up (up (up (up n 6 v (-3)) 0 3 (n 0 3 + 1)) 3 e (n 3 e + 1)) 3 k (up n 3 e (n 3 e + 1) 3 k + 1)) way one (w 11 v) := (hL.fr (by rw [← k28]; funext i; exact f5 28 i (by unfold PNm; omega))).n4 (by simp (disch := omega) only [up_b])
  have t2 := t1.put hne (x := w 11 v + 2 * awayN w (bdM w way e) v) (by omega)
  have t3 : TLM m7 b w _ way one (w 11 v) := t2.fr (v' := m7) (by funext i; exact f7 28 i (by unfold PNm; omega))
  exact t3.put hnk (by omega)
/-- who rides -/
theorem m_ride (hW : WW w) (hb : b = 0 ∨ b = 1) {f : Int} (hB : NB w n f) {way v : Int} (hv : 0 ≤ v ∧ v < w 8 1) : ∀ (l : List Int) (k : Nat) (i : Int) (m : Mem), l.length < k → 0 ≤ i → i + l.length ≤ 5 → RT m w → (∀ s, 0 ≤ s → s < w 1 0 → m 25 (5 * b + s) = n 1 s) → m 0 66 = way → m 0 69 = i + l.length → (0 ≤ m 0 65 ∧ m 0 65 < 2147483648) → frt (m 34) i l → (∀ e ∈ l, 0 ≤ e ∧ e < w 1 0) → ∃ m1 p, G12_comes_10 k m b v i = G12_comes_62 m1 b v p ∧ Fm PD m m1 ∧ m1 0 65 = (ridr (odV w (gM w way) n v) l (m 0 65)).2 ∧ (0 ≤ m1 0 65 ∧ m1 0 65 < 2147483648) ∧ (((ridr (odV w (gM w way) n v) l (m 0 65)).1 = none ∧ p = i + l.length) ∨ ∃ e r, (ridr (odV w (gM w way) n v) l (m 0 65)).1 = some (e, r) ∧ i ≤ p ∧ p + 1 + r.length = i + l.length ∧ m 34 p = e ∧ frt (m 34) (p + 1) r ∧ e ∈ l ∧ ∀ q ∈ r, q ∈ l) := by
  intro l
  induction l with
  | nil =>
    intro k i m a1 a2 a3 hT h25 h66 h69 a4 a5 a6
    obtain ⟨k, rfl⟩ : ∃ j, k = j + 1 := ⟨k - 1, by omega⟩
    rw [G12_comes_10, if_pos (by rw [h69]; simp)]
    exact ⟨m, i, rfl, Fm.rf, rfl, a4, Or.inl ⟨rfl, by simp⟩⟩
  | cons y r ih =>
    intro k i m a1 a2 a3 hT h25 h66 h69 a4 a5 a6
    obtain ⟨k, rfl⟩ : ∃ j, k = j + 1 := ⟨k - 1, by omega⟩
    have hl : ((y :: r).length : Int) = r.length + 1 := by simp
    have hl' : (y :: r).length = r.length + 1 := by simp
    have hy := a6 y (by simp)
    have hbx := nxt_b (m 0 65)
    have hw := hW.1
    unfold WS at hw
    have hBy := hB.2 y hy.1 hy.2
    rw [G12_comes_10, if_neg (by omega), m_draw a4, bs1, gdx_t (by omega), gdx_t (by omega)]
    simp only
    have f1 : Fm PD m (up m 0 65 (nxt (m 0 65))) := Fm.w1 (Or.inr ⟨rfl, rfl⟩)
    have hT1 : RT (up m 0 65 (nxt (m 0 65))) w := hT.fr f1 (by intro a i q; unfold PD PNm; omega)
    have e34 : up m 0 65 (nxt (m 0 65)) 34 i = y := by rw [up_a (by omega)]; exact a5.1
    have e25 : up m 0 65 (nxt (m 0 65)) 25 (5 * b + y) = n 1 y := by rw [up_a (by omega)]; exact h25 y hy.1 hy.2
    have e66 : up m 0 65 (nxt (m 0 65)) 0 66 = way := by rw [up_i (by omega)]; exact h66
    rw [e34, gdx_t (by omega), e25]
    obtain ⟨m2, q2, f2⟩ := m_odds hT1 hW hy hv hBy.1
    rw [e66] at q2
    rw [q2, bs1]
    simp only
    have ho : oddsV w (bdM w way y) (pxM w way (w 11 v)) v (n 1 y) = odV w (gM w way) n v y := rfl
    rw [ho]
    have f3 : Fm PD m m2 := f1.tr (f2.mono (fun a i z => Or.inl z))
    have r34 : m2 34 = m 34 := by funext j; rw [f2 34 j (by unfold PNm; omega), up_a (by omega)]
    have k65 : m2 0 65 = nxt (m 0 65) := by rw [f2 0 65 (by unfold PNm; omega), up_e]
    have k69 : m2 0 69 = m 0 69 := by rw [f2 0 69 (by unfold PNm; omega), up_i (by omega)]
    have k66 : m2 0 66 = way := by rw [f2 0 66 (by unfold PNm; omega)]; exact e66
    have e0 : ridr (odV w (gM w way) n v) (y :: r) (m 0 65) = if odV w (gM w way) n v y ≤ hun (nxt (m 0 65)) then ridr (odV w (gM w way) n v) r (nxt (m 0 65)) else (some (y, r), nxt (m 0 65)) := rfl
    by_cases c : hun (nxt (m 0 65)) < odV w (gM w way) n v y
    · rw [if_pos c]
      rw [if_neg (by omega)] at e0
      rw [e0]
      exact ⟨m2, i, rfl, f3, k65, by rw [k65]; exact hbx, Or.inr ⟨y, r, rfl, by omega, by omega, a5.1, a5.2, by simp, fun q hq => List.mem_cons_of_mem _ hq⟩⟩
    · rw [if_neg c, gd3_t (by omega)]
      rw [if_pos (by omega)] at e0
      rw [e0]
      obtain ⟨m4, p, z1, z2, z3, z4, z5⟩ := ih k (i + 1) m2 (by omega) (by omega) (by omega) (hT.fr f3 (by intro a i q; unfold PD PNm; omega)) (fun s x y => by rw [f3 25 _ (by unfold PD PNm; omega)]; exact h25 s x y) k66 (by rw [k69, h69]; omega) (by rw [k65]; exact hbx) (by rw [r34]; exact a5.2) (fun e he => a6 e (List.mem_cons_of_mem _ he))
      rw [k65] at z3 z5
      rw [r34] at z5
      refine ⟨m4, p, z1, f3.tr z2, z3, z4, ?_⟩
      rcases z5 with ⟨z5, z6⟩ | ⟨e, r', x1, x2, x3, x4, x5, x6, x7⟩
      · exact Or.inl ⟨z5, by omega⟩
      · exact Or.inr ⟨e, r', x1, by omega, by omega, x4, x5, List.mem_cons_of_mem _ x6, fun q hq => List.mem_cons_of_mem _ (x7 q hq)⟩
/-- who crosses -/
theorem m_cross (hW : WW w) {way v e : Int} : ∀ (l : List Int) (k : Nat) (i : Int) (m : Mem), l.length < k → 0 ≤ i → i + l.length ≤ 5 → RT m w → m 0 66 = way → m 0 69 = i + l.length → (0 ≤ m 0 65 ∧ m 0 65 < 2147483648) → frt (m 34) i l → (∀ e ∈ l, 0 ≤ e ∧ e < w 1 0) → ∃ m1, Fm PD m m1 ∧ m1 0 65 = (crsr (gM w way 2) l (m 0 65)).2 ∧ (0 ≤ m1 0 65 ∧ m1 0 65 < 2147483648) ∧ (((crsr (gM w way 2) l (m 0 65)).1 = none ∧ G12_comes_109 k m b v e i = cbN m1 b v e) ∨ ∃ q j, (crsr (gM w way 2) l (m 0 65)).1 = some q ∧ m 34 j = q ∧ 0 ≤ j ∧ j < 5 ∧ q ∈ l ∧ G12_comes_109 k m b v e i = cbX m1 b v e j) := by
  have hw := hW.1
  unfold WS at hw
  intro l
  induction l with
  | nil =>
    intro k i m a1 a2 a3 hT h66 h69 a4 a5 a6
    obtain ⟨k, rfl⟩ : ∃ j, k = j + 1 := ⟨k - 1, by omega⟩
    refine ⟨m, Fm.rf, rfl, a4, Or.inl ⟨rfl, ?_⟩⟩
    rw [G12_comes_109, if_pos (by rw [h69]; simp)]
    rfl
  | cons y r ih =>
    intro k i m a1 a2 a3 hT h66 h69 a4 a5 a6
    obtain ⟨k, rfl⟩ : ∃ j, k = j + 1 := ⟨k - 1, by omega⟩
    have hl : ((y :: r).length : Int) = r.length + 1 := by simp
    have hl' : (y :: r).length = r.length + 1 := by simp
    have hy := a6 y (by simp)
    have hbx := nxt_b (m 0 65)
    have hby := hW.2.1 y hy.1 hy.2
    have hgy : gM w way 2 y = if way = 0 then 0 else w 6 y := rfl
    have step : G12_comes_109 (k + 1) m b v e i = G12_comes_141 (fun m x1 x2 x5 x6 => G12_comes_109 k m x1 x2 x5 x6) m b v e i (gM w way 2 y) := by
      rw [G12_comes_109, if_neg (by omega), h66, hgy]
      by_cases c : way = 0
      · rw [if_pos c, if_pos c]
      · rw [if_neg c, if_neg c, gdx_t (by omega), a5.1, gdx_t (by omega), (hT.2.2.1 y hy.1 hy.2).2.2.2.2.1]
    rw [step]
    have hgb : 0 ≤ gM w way 2 y := by rw [hgy]; split <;> omega
    unfold G12_comes_141
    have e0 : crsr (gM w way 2) (y :: r) (m 0 65) = if gM w way 2 y ≤ 0 then crsr (gM w way 2) r (m 0 65) else if gM w way 2 y ≤ hun (nxt (m 0 65)) then crsr (gM w way 2) r (nxt (m 0 65)) else (some y, nxt (m 0 65)) := rfl
    by_cases c0 : gM w way 2 y = 0
    · rw [if_pos c0, gd3_t (by omega)]
      rw [if_pos (by omega)] at e0
      rw [e0]
      obtain ⟨m1, z1, z2, z3, z4⟩ := ih k (i + 1) m (by omega) (by omega) (by omega) hT h66 (by rw [h69]; omega) a4 a5.2 (fun e he => a6 e (List.mem_cons_of_mem _ he))
      exact ⟨m1, z1, z2, z3, z4.imp id (fun ⟨q, j, x1, x2, x3, x4, x5, x6⟩ => ⟨q, j, x1, x2, x3, x4, List.mem_cons_of_mem _ x5, x6⟩)⟩
    · rw [if_neg c0, m_draw a4, bs1]
      simp only
      rw [if_neg (by omega)] at e0
      have f1 : Fm PD m (up m 0 65 (nxt (m 0 65))) := Fm.w1 (Or.inr ⟨rfl, rfl⟩)
      by_cases c : hun (nxt (m 0 65)) < gM w way 2 y
      · rw [if_pos c]
        rw [if_neg (by omega)] at e0
        rw [e0]
        refine ⟨up m 0 65 (nxt (m 0 65)), f1, up_e, by rw [up_e]; exact hbx, Or.inr ⟨y, i, rfl, a5.1, a2, by omega, by simp, rfl⟩⟩
      · rw [if_neg c, gd3_t (by omega)]
        rw [if_pos (by omega)] at e0
        rw [e0]
        obtain ⟨m1, z1, z2, z3, z4⟩ := ih k (i + 1) (up m 0 65 (nxt (m 0 65))) (by omega) (by omega) (by omega) (hT.fr f1 (by intro a i q; unfold PD PNm; omega)) (by rw [up_i (by omega)]; exact h66) (by rw [up_i (by omega), h69]; omega) (by rw [up_e]; exact hbx) (by rw [up_b (by omega)]; exact a5.2) (fun e he => a6 e (List.mem_cons_of_mem _ he))
        rw [up_e] at z2 z4
        rw [up_b (show (34 : Nat) ≠ 0 by omega)] at z4
        exact ⟨m1, f1.tr z1, z2, z3, z4.imp id (fun ⟨q, j, x1, x2, x3, x4, x5, x6⟩ => ⟨q, j, x1, x2, x3, x4, List.mem_cons_of_mem _ x5, x6⟩)⟩
theorem NB.num {f x : Int} (h : NB w n f) (hx : 0 ≤ x ∧ x < 2147483648) : NB w (up n 0 2 x) f := by
  obtain ⟨h1, h2⟩ := h
  refine ⟨?_, fun i p q => ?_⟩
  · simp (disch := omega) only [up_e, up_i]; omega
  · simp (disch := omega) only [up_a]; exact h2 i p q
theorem lu_len {g : Mem} {v mn : Int} (h : 0 ≤ w 1 0 ∧ w 1 0 ≤ 5) : (lu w g n v mn).length ≤ 5 := by
  have : ∀ (ok : Int → Bool) (key : Int → Int) (d : Nat) (i : Int) (rl : List Int), (lud ok key d i rl).length ≤ rl.length + d := by
    intro ok key d
    induction d with
    | zero => intro i rl; exact Nat.le_refl _
    | succ d ih =>
      intro i rl
      unfold lud
      split
      · have := ih (i + 1) (insR key i rl); rw [insR_len] at this; omega
      · have := ih (i + 1) rl; omega
  have := this (okL w g n v mn) (keyV w g n v) (w 1 0).toNat 0 []
  unfold lu
  simp only [List.length_nil] at this
  omega
theorem m_comes (hT : RT m w) (hW : WW w) (hb : b = 0 ∨ b = 1) (hN : NM m b w n) {f : Int} (hB : NB w n f) (hf : 0 ≤ f ∧ f ≤ 1000) {way one v : Int} (h66 : m 0 66 = way) (h67 : way = 1 → m 0 67 = one) (hv : 0 ≤ v ∧ v < w 8 1) (hmn : m 31 b = w 11 v) (hL : TLM m b w n way one (w 11 v)) : ∃ m', G12_comes m b v (n 0 1) = some m' ∧ Fm (PCm b) m m' ∧ NM m' b w (bw w (gM w way) n v (w 11 v)) ∧ TLM m' b w (bw w (gM w way) n v (w 11 v)) way one (w 11 v) := by
  have hw := hW.1
  unfold WS at hw
  have hm := (hW.2.2.2.1 v hv.1 hv.2).2.1
  obtain ⟨m1, e1, f1, s1, k1⟩ := m_ord hT hW hb hN hB hL h66 h67 (by omega) hv
  have hlen := lu_len (w := w) (n := n) (g := gM w way) (v := v) (mn := w 11 v) (by omega)
  have hmem : ∀ e ∈ (lu w (gM w way) n v (w 11 v)).reverse, 0 ≤ e ∧ e < w 1 0 ∧ n 4 e ≤ w 11 v := fun e he => by
    have := lu_mem (List.mem_reverse.mp he) (by omega)
    exact ⟨this.1, this.2.1, this.2.2.1⟩
  have hone : ∀ e ∈ (lu w (gM w way) n v (w 11 v)).reverse, ¬ (way = 1 ∧ one = e) := fun e he q => by
    have h4 := hmem e he
    rcases hL e h4.1 h4.2.1 with z | z
    · omega
    · exact z.1 q
  have hT1 := hT.po f1
  have hN1 := hN.po f1
  have k66 : m1 0 66 = way := by rw [f1 0 66 (by unfold PO PNm; omega)]; exact h66
  have k31 : m1 31 b = w 11 v := by rw [f1 31 b (by unfold PO PNm; omega)]; exact hmn
  have k28 : m1 28 = m 28 := funext fun i => f1 28 i (by unfold PO PNm; omega)
  have k65 : m1 0 65 = n 0 2 := hN1.2.2.2.2
  unfold G12_comes G12_comes_0
  rw [e1, bs1]
  obtain ⟨m2, p, q1, q2, q3, q4, q5⟩ := m_ride hW hb hB (way := way) hv (lu w (gM w way) n v (w 11 v)).reverse 1024 0 m1 (by rw [List.length_reverse]; omega) (by omega) (by rw [List.length_reverse]; omega) hT1 (fun s x y => (hN1.1 s x y).1) k66 (by rw [List.length_reverse, k1]; omega) (by rw [k65]; have := hB.1; omega) (stk_frt s1) (fun e he => ⟨(hmem e he).1, (hmem e he).2.1⟩)
  rw [q1]
  rw [k65] at q3 q5
  have f2 : Fm (PCm b) m m2 := (f1.mono (fun a i z => Or.inl z)).tr (q2.mono PD_C)
  have hT2 := hT.pc f2
  have n2 : NM m2 b w (up n 0 2 (m2 0 65)) := by
    have h0 : NM (up m1 0 65 (m2 0 65)) b w (up n 0 2 (m2 0 65)) := hN1.num _
    have : Fm PNm (up m1 0 65 (m2 0 65)) m2 := by
      intro a i z
      by_cases c : a = 0 ∧ i = 65
      · rw [c.1, c.2, up_e]
      · have : up m1 0 65 (m2 0 65) a i = m1 a i := if_neg c
        rw [this]
        exact q2 a i (by unfold PD; exact fun y => y.elim z c)
    exact h0.fr this (by intro a i q; unfold PNm; omega)
  have b2 : NB w (up n 0 2 (m2 0 65)) f := hB.num q4
  have j66 : m2 0 66 = way := by rw [q2 0 66 (by unfold PD PNm; omega)]; exact k66
  have j31 : m2 31 b = w 11 v := by rw [q2 31 b (by unfold PD PNm; omega)]; exact k31
  have j28 : m2 28 = m 28 := (funext fun i => q2 28 i (by unfold PD PNm; omega) : m2 28 = m1 28).trans k28
  have j34 : m2 34 = m1 34 := funext fun i => q2 34 i (by unfold PD PNm; omega)
  have j69 : m2 0 69 = m1 0 69 := q2 0 69 (by unfold PD PNm; omega)
  have l2 : TLM m2 b w (up n 0 2 (m2 0 65)) way one (w 11 v) := (hL.fr j28).n4 (up_b (by omega))
  rw [List.length_reverse] at q5
  unfold G12_comes_62 bw bw1
  rw [← q3]
  rcases q5 with ⟨q5, q6⟩ | ⟨e, r, x1, x2, x3, x4, x5, x6, x7⟩
  · rw [q5, if_pos (by omega), gdx_t (by omega), wt_e, gdx_t (by omega), gdx_t (by omega)]
    have n3 := n2.who v (-1)
    have e33 : up m2 30 (28 * b + v) (-1) 33 b = n 0 4 := by rw [n3.2.2.2.1, up_a (by omega), up_i (by omega)]
    rw [e33, gd3_t (by have := hB.1; omega), wt_e]
    refine ⟨_, rfl, (f2.w (by unfold PCm; omega)).w (by unfold PCm; omega), n3.ww _, ?_⟩
    exact (l2.fr (by rw [up_b (by omega), up_b (by omega)])).n4 (n' := up (up (up n 0 2 (m2 0 65)) 6 v (-1)) 0 4 (n 0 4 + 1)) (by rw [up_b (by omega), up_b (by omega)])
  · rw [x1]
    have he := hmem e x6
    rw [if_neg (by omega), gdx_t (by omega), gd3_t (by omega), j34, x4]
    obtain ⟨m3, y1, y2, y3, y4⟩ := m_cross (b := b) (v := v) (e := e) hW (way := way) r 1024 (p + 1) m2 (by omega) (by omega) (by omega) hT2 j66 (by rw [j69, k1]; omega) q4 (by rw [j34]; exact x5) (fun q hq => ⟨(hmem q (x7 q hq)).1, (hmem q (x7 q hq)).2.1⟩)
    have f3 : Fm (PCm b) m m3 := f2.tr (y1.mono PD_C)
    have hT3 := hT.pc f3
    have n3 : NM m3 b w (up n 0 2 (m3 0 65)) := by
      have h0 : NM (up m2 0 65 (m3 0 65)) b w (up (up n 0 2 (m2 0 65)) 0 2 (m3 0 65)) := n2.num _
      have eu : up (up n 0 2 (m2 0 65)) 0 2 (m3 0 65) = up n 0 2 (m3 0 65) := by
        funext a i
        by_cases cb : a = 0
        · subst cb
          by_cases cj : i = 2
          · subst cj; rw [up_e, up_e]
          · rw [up_i cj, up_i cj, up_i cj]
        · rw [up_a cb, up_a cb, up_a cb]
      rw [eu] at h0
      have : Fm PNm (up m2 0 65 (m3 0 65)) m3 := by
        intro a i z
        by_cases c : a = 0 ∧ i = 65
        · rw [c.1, c.2, up_e]
        · have : up m2 0 65 (m3 0 65) a i = m2 a i := if_neg c
          rw [this]
          exact y1 a i (by unfold PD; exact fun y => y.elim z c)
      exact h0.fr this (by intro a i q; unfold PNm; omega)
    have b3 : NB w (up n 0 2 (m3 0 65)) f := hB.num y3
    have i66 : m3 0 66 = way := by rw [y1 0 66 (by unfold PD PNm; omega)]; exact j66
    have i31 : m3 31 b = w 11 v := by rw [y1 31 b (by unfold PD PNm; omega)]; exact j31
    have i28 : m3 28 = m 28 := (funext fun i => y1 28 i (by unfold PD PNm; omega) : m3 28 = m2 28).trans j28
    have i34 : m3 34 = m2 34 := funext fun i => y1 34 i (by unfold PD PNm; omega)
    have l3 : TLM m3 b w (up n 0 2 (m3 0 65)) way one (w 11 v) := (hL.fr i28).n4 (up_b (by omega))
    unfold bw2
    simp only
    rw [← y2]
    rcases y4 with ⟨y4, y5⟩ | ⟨q, j, y5, y6, y7, y8, y9, y10⟩
    · rw [y4, y5]
      obtain ⟨m', z1, z2, z3, z4⟩ := m_cbN hT3 hW hb n3 b3 hf i66 hv ⟨he.1, he.2.1⟩ l3 i31 (hone e x6)
      rw [up_a (show (2 : Nat) ≠ 0 by omega)] at z3 z4
      exact ⟨m', z1, f3.tr z2, z3, z4⟩
    · rw [y5, y10]
      have hq := hmem q (x7 q y9)
      obtain ⟨m', z1, z2, z3, z4⟩ := m_cbX hT3 hW hb n3 b3 hf i66 hv ⟨he.1, he.2.1⟩ ⟨hq.1, hq.2.1⟩ ⟨y7, y8⟩ (by rw [i34]; exact y6) l3 i31 (hone e x6) (hone q (x7 q y9))
      have e1 : up n 0 2 (m3 0 65) 0 3 = n 0 3 := up_i (by omega)
      have e2 : up n 0 2 (m3 0 65) 3 e = n 3 e := up_a (by omega)
      have e3 : up (up n 0 2 (m3 0 65)) 3 e (n 3 e + 1) 3 q = up n 3 e (n 3 e + 1) 3 q := by
        by_cases cc : q = e
        · subst cc; rw [up_e, up_e]
        · rw [up_i cc, up_i cc, up_a (by omega)]
      rw [e1, e2, e3] at z3 z4
      exact ⟨m', z1, f3.tr z2, z3, z4⟩
end MC
