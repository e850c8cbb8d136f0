section Q11
variable {m v w g n : Mem} {T : Nat}
theorem r_lg2 (hW : WW w) (hS : SN w n) {s t : Int} (hs : 0 ≤ s ∧ s < w 1 0) (ht : 0 ≤ t ∧ t < w 1 0) : ∀ (d f : Nat) (p : Int) (v : Mem), 0 ≤ p → 25 - p = d → d < f → RT v w → SV w n v → (∀ q, 0 ≤ q → q < p → LGp v w n s t q) → ∃ v', G12_layGame_2 f v s t p = some v' ∧ Fm PG0 v v' ∧ ∀ q, 0 ≤ q → q < 25 → LGp v' w n s t q := by
  have hw := hW.1
  unfold WS at hw
  have hcs := (hS.1.2 s hs.1 hs.2).1
  have hct := (hS.1.2 t ht.1 ht.2).1
  obtain ⟨w1, w2, _, _⟩ := ff_spec (w := w) (by first | decide | omega) (n 0 0)
  intro d
  induction d with
  | zero =>
    intro f p v a1 a2 a3 hR hV h
    obtain ⟨f, rfl⟩ : ∃ j, f = j + 1 := ⟨f - 1, by first | decide | omega⟩
    rw [G12_layGame_2, if_pos (by first | decide | omega)]
    exact ⟨v, rfl, Fm.rf, fun q p1 p2 => h q p1 (by first | decide | omega)⟩
  | succ d ih =>
    intro f p v a1 a2 a3 hR hV h
    obtain ⟨f, rfl⟩ : ∃ j, f = j + 1 := ⟨f - 1, by first | decide | omega⟩
    have hd : 0 ≤ p / 5 ∧ p / 5 < 5 := by omega
    have hmo : 0 ≤ p % 5 ∧ p % 5 < 5 := by omega
    have k25 : ∀ x, 0 ≤ x → x < w 1 0 → v 25 x = n 1 x := fun x q1 q2 => by have := (hV.1.1 x q1 q2).1; rwa [show 5 * (0 : Int) + x = x by first | decide | omega] at this
    rw [G12_layGame_2, if_neg (by first | decide | omega), gdd_t (by first | decide | omega), r_way hd, bs1]
    simp only
    rw [r_to hR hW hs hd (k25 s hs.1 hs.2) hcs, bs1]
    simp only
    rw [gdd_t (by first | decide | omega), r_way hmo, bs1]
    simp only
    rw [r_to hR hW ht hmo (k25 t ht.1 ht.2) hct, bs1, gdx_t (by first | decide | omega), wt_e, gdx_t (by first | decide | omega), wt_e]
    simp only
    have g1 : Fm (PG p) v (up (up v 35 p (-1)) 36 p (-1)) := (Fm.w1 (Or.inr ⟨Or.inl rfl, rfl⟩)).w (Or.inr ⟨Or.inr rfl, rfl⟩)
    have bad : (cAy w n s (p / 5) = -1 ∨ cAy w n t (p % 5) = -1) → ∃ v', G12_layGame_2 f (up (up v 35 p (-1)) 36 p (-1)) s t (p + 1) = some v' ∧ Fm PG0 v v' ∧ ∀ q, 0 ≤ q → q < 25 → LGp v' w n s t q := fun z => by
      have gq := (g1.mono PG_0).mono PG_q
      obtain ⟨v', z1, z2, z3⟩ := ih f (p + 1) _ (by first | decide | omega) (by first | decide | omega) (by first | decide | omega) (hR.q gq) (hV.q (by first | decide | omega) gq) (fun q p1 p2 => by
        by_cases zq : q = p
        · subst zq
          right
          rw [up_a (show (35 : Nat) ≠ 36 by first | decide | omega), up_e, up_e]
          exact ⟨z, rfl, rfl⟩
        · exact (h q p1 (by first | decide | omega)).fr g1 zq)
      exact ⟨v', z1, (g1.mono PG_0).tr z2, z3⟩
    have bs := cAy_b (n := n) hW hcs hd
    have bt := cAy_b (n := n) hW hct hmo
    by_cases c1 : cAy w n s (p / 5) < 0
    · rw [if_pos c1, gd3_t (by first | decide | omega)]; exact bad (Or.inl (by first | decide | omega))
    · rw [if_neg c1]
      by_cases c2 : 0 ≤ cAy w n t (p % 5)
      · rw [if_pos c2, gdx_t (by first | decide | omega), wt_e, gdx_t (by first | decide | omega), wt_e]
        have g2 : Fm (PG p) v (up (up (up (up v 35 p (-1)) 36 p (-1)) 35 p 0) 36 p 0) := (g1.w (Or.inr ⟨Or.inl rfl, rfl⟩)).w (Or.inr ⟨Or.inr rfl, rfl⟩)
        have gq := (g2.mono PG_0).mono PG_q
        have ha : 0 ≤ cAy w n s (p / 5) ∧ cAy w n s (p / 5) < w 0 0 * w 0 1 := by omega
        have hb : 0 ≤ cAy w n t (p % 5) ∧ cAy w n t (p % 5) < w 0 0 * w 0 1 := by omega
        obtain ⟨u, e1, g3, k1, k2⟩ := r_lg78 hW hS hs ht (p := p) (by first | decide | omega) ha hb (kk := fun m x1 x2 x3 => G12_layGame_2 f m x1 x2 x3) (w 8 1).toNat 1024 0 _ (by first | decide | omega) (by first | decide | omega) (by first | decide | omega) (hR.q gq) (hV.q (by first | decide | omega) gq) (by rw [up_a (by first | decide | omega), up_e]; first | decide | omega) (by rw [up_e]; first | decide | omega)
        rw [e1]
        rw [up_a (show (35 : Nat) ≠ 36 by first | decide | omega), up_e, Int.zero_add] at k1
        rw [up_e, Int.zero_add] at k2
        have g4 : Fm (PG p) v u := g2.tr g3
        have gq4 := (g4.mono PG_0).mono PG_q
        have eO : sfr (gnO w s (cAy w n s (p / 5)) (cAy w n t (p % 5)) (decide (s < t))) (w 8 1) (ff w (n 0 0)) 0 = sO w s (cAy w n s (p / 5)) (cAy w n t (p % 5)) (decide (s < t)) (ff w (n 0 0)) := by unfold sfr sO; rw [if_pos w1]
        have eT : sfr (gnT w t (cAy w n s (p / 5)) (cAy w n t (p % 5)) (decide (s < t))) (w 8 1) (ff w (n 0 0)) 0 = sT w t (cAy w n s (p / 5)) (cAy w n t (p % 5)) (decide (s < t)) (ff w (n 0 0)) := by unfold sfr sT; rw [if_pos w1]
        have bO := smd_b (f := gnO w s (cAy w n s (p / 5)) (cAy w n t (p % 5)) (decide (s < t))) (B := 900) (w 8 1 - ff w (n 0 0)).toNat (ff w (n 0 0)) (fun k p1 p2 => (gn_b hW (t := t) (by first | decide | omega) ha hb).1)
        have bT := smd_b (f := gnT w t (cAy w n s (p / 5)) (cAy w n t (p % 5)) (decide (s < t))) (B := 900) (w 8 1 - ff w (n 0 0)).toNat (ff w (n 0 0)) (fun k p1 p2 => (gn_b hW (s := s) (by first | decide | omega) ha hb).2)
        rw [eO] at k1
        rw [eT] at k2
        obtain ⟨v', z1, z2, z3⟩ := ih f (p + 1) u (by first | decide | omega) (by first | decide | omega) (by first | decide | omega) (hR.q gq4) (hV.q (by first | decide | omega) gq4) (fun q p1 p2 => by
          by_cases zq : q = p
          · subst zq
            exact Or.inl ⟨by first | decide | omega, by first | decide | omega, k1, k2, by rw [k1]; exact bO.1, by rw [k2]; exact bT.1⟩
          · exact (h q p1 (by first | decide | omega)).fr g4 zq)
        exact ⟨v', z1, (g4.mono PG_0).tr z2, z3⟩
      · rw [if_neg c2, gd3_t (by first | decide | omega)]; exact bad (Or.inr (by first | decide | omega))
theorem r_isR13 {s t p : Int} (hp : 0 ≤ p ∧ p < 25) (h : ∀ q, 0 ≤ q → q < 25 → LGp v w n s t q) (h0 : 0 ≤ v 35 p) : ∀ (d f : Nat) (j : Int), 0 ≤ j → 5 - j = d → d < f → ∃ x, G12_isRest_13 f v p j = some (x, v) ∧ ((x = 1 ∧ ∀ q, j ≤ q → q < 5 → okJ w n s t (ff w (n 0 0)) (p / 5) (p % 5) q) ∨ (x = 0 ∧ ∃ q, j ≤ q ∧ q < 5 ∧ ¬ okJ w n s t (ff w (n 0 0)) (p / 5) (p % 5) q)) := by
  have hp0 : cAy w n s (p / 5) ≠ -1 ∧ cAy w n t (p % 5) ≠ -1 ∧ v 35 p = sO w s (cAy w n s (p / 5)) (cAy w n t (p % 5)) (decide (s < t)) (ff w (n 0 0)) ∧ v 36 p = sT w t (cAy w n s (p / 5)) (cAy w n t (p % 5)) (decide (s < t)) (ff w (n 0 0)) ∧ 0 ≤ v 35 p ∧ 0 ≤ v 36 p := by
    rcases h p hp.1 hp.2 with y | y
    · exact y
    · omega
  obtain ⟨p1, p2, p3, p4, p5, p6⟩ := hp0
  intro d
  induction d with
  | zero =>
    intro f j a1 a2 a3
    obtain ⟨f, rfl⟩ : ∃ q, f = q + 1 := ⟨f - 1, by first | decide | omega⟩
    rw [G12_isRest_13, if_pos (by first | decide | omega)]
    exact ⟨1, rfl, Or.inl ⟨rfl, fun q p1 p2 => by first | decide | omega⟩⟩
  | succ d ih =>
    intro f j a1 a2 a3
    obtain ⟨f, rfl⟩ : ∃ q, f = q + 1 := ⟨f - 1, by first | decide | omega⟩
    obtain ⟨x, ex, hx⟩ := ih f (j + 1) (by first | decide | omega) (by first | decide | omega) (by first | decide | omega)
    rw [G12_isRest_13, if_neg (by first | decide | omega), gdd_t (by first | decide | omega), gdx_t (by first | decide | omega), gdx_t (by first | decide | omega), gdd_t (by first | decide | omega), gdx_t (by first | decide | omega), gdx_t (by first | decide | omega), gd3_t (by first | decide | omega)]
    have hA := h (5 * j + p % 5) (by first | decide | omega) (by first | decide | omega)
    have hB := h (p / 5 * 5 + j) (by first | decide | omega) (by first | decide | omega)
    unfold LGp at hA hB
    rw [show (5 * j + p % 5) / 5 = j by first | decide | omega, show (5 * j + p % 5) % 5 = p % 5 by first | decide | omega] at hA
    rw [show (p / 5 * 5 + j) / 5 = p / 5 by first | decide | omega, show (p / 5 * 5 + j) % 5 = j by first | decide | omega] at hB
    have iA : (v 35 (5 * j + p % 5) ≤ v 35 p) ↔ (cAy w n s j = -1 ∨ sO w s (cAy w n s j) (cAy w n t (p % 5)) (decide (s < t)) (ff w (n 0 0)) ≤ sO w s (cAy w n s (p / 5)) (cAy w n t (p % 5)) (decide (s < t)) (ff w (n 0 0))) := by
      rw [← p3]
      rcases hA with ⟨y1, y2, y3, y4, y5, y6⟩ | ⟨y1, y2, y3⟩
      · rw [← y3]; exact ⟨Or.inr, fun z => z.elim (fun q => absurd q y1) id⟩
      · rw [y2]
        have : cAy w n s j = -1 := by rcases y1 with q | q; exact q; exact absurd q p2
        exact ⟨fun _ => Or.inl this, fun _ => by first | decide | omega⟩
    have iB : (v 36 (p / 5 * 5 + j) ≤ v 36 p) ↔ (cAy w n t j = -1 ∨ sT w t (cAy w n s (p / 5)) (cAy w n t j) (decide (s < t)) (ff w (n 0 0)) ≤ sT w t (cAy w n s (p / 5)) (cAy w n t (p % 5)) (decide (s < t)) (ff w (n 0 0))) := by
      rw [← p4]
      rcases hB with ⟨y1, y2, y3, y4, y5, y6⟩ | ⟨y1, y2, y3⟩
      · rw [← y4]; exact ⟨Or.inr, fun z => z.elim (fun q => absurd q y2) id⟩
      · rw [y3]
        have : cAy w n t j = -1 := by rcases y1 with q | q; exact absurd q p1; exact q
        exact ⟨fun _ => Or.inl this, fun _ => by first | decide | omega⟩
    by_cases c1 : v 35 p < v 35 (5 * j + p % 5)
    · rw [if_pos c1]
      exact ⟨0, rfl, Or.inr ⟨rfl, j, by first | decide | omega, by first | decide | omega, fun y => by have := iA.mpr y.1; first | decide | omega⟩⟩
    · rw [if_neg c1]
      by_cases c2 : v 36 (p / 5 * 5 + j) ≤ v 36 p
      · rw [if_pos c2]
        refine ⟨x, ex, ?_⟩
        rcases hx with ⟨y1, y2⟩ | ⟨y1, q, y2, y3, y4⟩
        · refine Or.inl ⟨y1, fun q z1 z2 => ?_⟩
          by_cases z : q = j
          · rw [z]; exact ⟨iA.mp (by first | decide | omega), iB.mp c2⟩
          · exact y2 q (by first | decide | omega) z2
        · exact Or.inr ⟨y1, q, by first | decide | omega, y3, y4⟩
      · rw [if_neg c2]
        exact ⟨0, rfl, Or.inr ⟨rfl, j, by first | decide | omega, by first | decide | omega, fun y => c2 (iB.mpr y.2)⟩⟩
theorem r_isR {s t p : Int} (hp : 0 ≤ p ∧ p < 25) (h : ∀ q, 0 ≤ q → q < 25 → LGp v w n s t q) : G12_isRest v p = some ((if okR w n s t (ff w (n 0 0)) (p / 5) (p % 5) = true then 1 else 0), v) := by
  unfold G12_isRest G12_isRest_0
  rw [gdx_t (by first | decide | omega)]
  by_cases c : 0 ≤ v 35 p
  · rw [if_pos c]
    obtain ⟨x, e, hx⟩ := r_isR13 hp h c 5 1024 0 (by first | decide | omega) (by first | decide | omega) (by first | decide | omega)
    rw [e]
    congr 2
    rcases hx with ⟨y1, y2⟩ | ⟨y1, q, y2, y3, y4⟩
    · have hh := h p hp.1 hp.2
      unfold LGp at hh
      have c1 : cAy w n s (p / 5) ≠ -1 ∧ cAy w n t (p % 5) ≠ -1 := by omega
      rw [if_pos (okR_iff.mpr ⟨c1.1, c1.2, fun j p q => y2 j p q⟩), y1]
    · rw [if_neg (fun z => y4 ((okR_iff.mp z).2.2 q y2 y3)), y1]
  · rw [if_neg c, if_neg]
    intro z
    have := okR_iff.mp z
    have hh := h p hp.1 hp.2
    unfold LGp at hh
    omega
theorem r_ra {s t x : Int} (hx : -1 ≤ x ∧ x ≤ 2147483647) (h : ∀ q, 0 ≤ q → q < 25 → LGp v w n s t q) : ∀ (d f : Nat) (p c : Int), 0 ≤ p → 25 - p = d → d < f → (0 ≤ c ∧ c ≤ p) → (x = -1 ∨ c ≤ x) → G12_restAt_12 f v x c p = some ((if 0 ≤ x then nth (rsL (okR w n s t (ff w (n 0 0))) d p) (x - c) else c + (rsL (okR w n s t (ff w (n 0 0))) d p).length), v) := by
  intro d
  induction d with
  | zero =>
    intro f p c a1 a2 a3 a4 a5
    obtain ⟨f, rfl⟩ : ∃ q, f = q + 1 := ⟨f - 1, by first | decide | omega⟩
    rw [G12_restAt_12, if_pos (by first | decide | omega)]
    have e : rsL (okR w n s t (ff w (n 0 0))) 0 p = [] := rfl
    rw [e]
    by_cases c1 : 0 ≤ x
    · rw [if_pos c1, if_pos c1]
      unfold nth
      rw [if_pos (by simp; first | decide | omega)]
    · rw [if_neg c1, if_neg c1]
      simp
  | succ d ih =>
    intro f p c a1 a2 a3 a4 a5
    obtain ⟨f, rfl⟩ : ∃ q, f = q + 1 := ⟨f - 1, by first | decide | omega⟩
    rw [G12_restAt_12, if_neg (by first | decide | omega), r_isR ⟨a1, by first | decide | omega⟩ h, bs1, rsL_s]
    by_cases c1 : okR w n s t (ff w (n 0 0)) (p / 5) (p % 5) = true
    · simp only [if_pos c1, if_neg i10]
      have b1 := gw_b (i := p / 5) (by first | decide | omega)
      have b2 := gw_b (i := p % 5) (by first | decide | omega)
      by_cases c2 : c = x
      · rw [if_pos c2, gdd_t (by first | decide | omega), r_way (by first | decide | omega), bs1]
        simp only
        rw [gdd_t (by first | decide | omega), r_way (by first | decide | omega), bs1]
        simp only
        rw [gd3_t (by first | decide | omega), if_pos (by first | decide | omega), nth_c _ _ (by first | decide | omega), if_pos (by first | decide | omega)]
      · rw [if_neg c2, gd3_t (by first | decide | omega), gd3_t (by first | decide | omega), ih f (p + 1) (c + 1) (by first | decide | omega) (by first | decide | omega) (by first | decide | omega) (by first | decide | omega) (by first | decide | omega)]
        congr 2
        by_cases c3 : 0 ≤ x
        · rw [if_pos c3, if_pos c3, nth_c _ _ (by first | decide | omega), if_neg (by first | decide | omega), show x - c - 1 = x - (c + 1) by first | decide | omega]
        · rw [if_neg c3, if_neg c3]; simp; omega
    · simp only [if_neg c1, if_true]
      rw [gd3_t (by first | decide | omega), ih f (p + 1) c (by first | decide | omega) (by first | decide | omega) (by first | decide | omega) (by first | decide | omega) (by first | decide | omega)]
theorem r_rest (hR : RT v w) (hW : WW w) (hS : SN w n) (hV : SV w n v) {s t x : Int} (hs : 0 ≤ s ∧ s < w 1 0) (ht : 0 ≤ t ∧ t < w 1 0) (hx : -1 ≤ x ∧ x ≤ 2147483647) : ∃ v', G12_restAt v s t x = some ((if 0 ≤ x then nth (rsL (okR w n s t (ff w (n 0 0))) 25 0) x else ((rsL (okR w n s t (ff w (n 0 0))) 25 0).length : Int)), v') ∧ Fm PMq v v' := by
  unfold G12_restAt G12_restAt_0 G12_layGame G12_layGame_0
  obtain ⟨u, e, g1, k⟩ := r_lg2 hW hS hs ht 25 1024 0 v (by first | decide | omega) (by first | decide | omega) (by first | decide | omega) hR hV (fun q p1 p2 => by first | decide | omega)
  rw [e, bs1, r_ra hx k 25 1024 0 0 (by first | decide | omega) (by first | decide | omega) (by first | decide | omega) (by first | decide | omega) (by first | decide | omega), Int.sub_zero, Int.zero_add]
  exact ⟨u, rfl, g1.mono PG_q⟩
theorem rsL_len (ok : Int → Int → Bool) : ∀ (e : Nat) (p : Int), (rsL ok e p).length ≤ e := by
  intro e
  induction e with
  | zero => intro p; exact Nat.le_refl 0
  | succ e ihe => intro p; rw [rsL_s]; split <;> have := ihe (p + 1) <;> simp <;> omega
theorem Rel.w102 (h : Rel m v) : W102 m := by obtain ⟨T, _, _, _, _, _, _, a3⟩ := h; exact a3
theorem a_rests (h : Rel m v) (x y : Int) : Agr (G11_rests m x y) (G12_rests v x y) := by
  have h1 := h.v0
  unfold G11_rests G11_rests_0 G12_rests G12_rests_0
  rw [wt_e]
  generalize up v 0 2 0 = u at h1 ⊢
  obtain ⟨T, w, g, n, t1, t2, hc, hn, hW, hG, hE, hS, hR, hV, hL, -, -, -⟩ := h1.use
  rw [c_isS t2 hc.1, r_isS hR, bs1, bs1]
  by_cases c1 : 0 ≤ x ∧ x < w 1 0
  · simp only [if_pos c1, if_neg i10]
    rw [c_isS t2 hc.1, r_isS hR, bs1, bs1]
    by_cases c2 : 0 ≤ y ∧ y < w 1 0
    · simp only [if_pos c2, if_neg i10]
      by_cases c3 : x = y
      · rw [if_pos c3, if_pos c3]; exact agr0 h1 _ rfl rfl
      · rw [if_neg c3, if_neg c3]
        obtain ⟨m1, e1, g1, w1, k1, k2⟩ := c_game t2 hc hn hW hG hE h1.w102 c1 c2 (hS.1.2 x c1.1 c1.2).1 (hS.1.2 y c2.1 c2.2).1
        obtain ⟨u1, e2, g2⟩ := r_rest hR hW hS hV c1 c2 (x := -1) (by first | decide | omega)
        rw [e1, bs1, e2, bs1, k1, if_neg (by first | decide | omega)]
        exact ⟨_, _, _, rfl, rfl, h1.q2 g1 w1 g2⟩
    · simp only [if_neg c2, if_true]; exact agr0 h1 _ rfl rfl
  · simp only [if_neg c1, if_true]; exact agr0 h1 _ rfl rfl
theorem a_rest (h : Rel m v) (x y z : Int) (hz : z ≤ 2147483647) : Agr (G11_rest m x y z) (G12_rest v x y z) := by
  have h1 := h.v0
  unfold G11_rest G11_rest_0 G12_rest G12_rest_0
  rw [wt_e]
  generalize up v 0 2 0 = u at h1 ⊢
  obtain ⟨T, w, g, n, t1, t2, hc, hn, hW, hG, hE, hS, hR, hV, hL, -, -, -⟩ := h1.use
  rw [c_isS t2 hc.1, r_isS hR, bs1, bs1]
  by_cases c1 : 0 ≤ x ∧ x < w 1 0
  · simp only [if_pos c1, if_neg i10]
    rw [c_isS t2 hc.1, r_isS hR, bs1, bs1]
    by_cases c2 : 0 ≤ y ∧ y < w 1 0
    · simp only [if_pos c2, if_neg i10]
      by_cases c3 : x = y
      · rw [if_pos c3, if_pos c3]; exact agr0 h1 _ rfl rfl
      · rw [if_neg c3, if_neg c3]
        by_cases c4 : 0 ≤ z
        · rw [if_pos c4, if_neg (show ¬ z < 0 by first | decide | omega)]
          obtain ⟨m1, e1, g1, w1, k1, k2⟩ := c_game t2 hc hn hW hG hE h1.w102 c1 c2 (hS.1.2 x c1.1 c1.2).1 (hS.1.2 y c2.1 c2.2).1
          obtain ⟨u1, e2, g2⟩ := r_rest hR hW hS hV c1 c2 (x := z) (by first | decide | omega)
          have hl := rsL_len (okR w n x y (ff w (n 0 0))) 25 0
          rw [e1, bs1, e2, bs1, k1, if_pos c4]
          unfold nth
          by_cases c5 : ((rsL (okR w n x y (ff w (n 0 0))) 25 0).length : Int) ≤ z
          · rw [if_pos c5, if_pos c5]
            exact ⟨_, _, _, rfl, rfl, h1.q2 g1 w1 g2⟩
          · rw [if_neg c5, if_neg c5, gdx_t (by first | decide | omega)]
            have := frt_nth k2 c4 (by first | decide | omega)
            rw [Int.zero_add] at this
            rw [this]
            exact ⟨_, _, _, rfl, rfl, h1.q2 g1 w1 g2⟩
        · rw [if_neg c4, if_pos (show z < 0 by first | decide | omega)]; exact agr0 h1 _ rfl rfl
    · simp only [if_neg c2, if_true]; exact agr0 h1 _ rfl rfl
  · simp only [if_neg c1, if_true]; exact agr0 h1 _ rfl rfl
end Q11
/-! Who is from here. -/
theorem i_orand (a b c : Int32) (h : a ||| c = b ||| c) : a &&& (c ^^^ -1) = b &&& (c ^^^ -1) := by
  have e : ∀ x y : Int32, x &&& (y ^^^ -1) = (x ||| y) &&& (y ^^^ -1) := by
    intro x y
    apply Int32.toBitVec_inj.mp
    rw [Int32.xor_neg_one]
    simp only [Int32.toBitVec_and, Int32.toBitVec_or, Int32.toBitVec_not]
    apply BitVec.eq_of_getLsbD_eq
    intro i hi
    simp only [BitVec.getLsbD_and, BitVec.getLsbD_or, BitVec.getLsbD_not]
    cases x.toBitVec.getLsbD i <;> cases y.toBitVec.getLsbD i <;> simp
  rw [e a c, e b c, h]
theorem z_or (A B : Int) : Z3 (b3or A B) = Z3 A ||| Z3 B := (z3_or rfl rfl).symm
/-- both bit sets are one outside of c -/
def BR (a b c : Int) : Prop := Z3 a ||| Z3 c = Z3 b ||| Z3 c
theorem BR.near {a b c : Int} (h : BR a b c) (k : Int) : BR (b3or a k) (b3or b k) c := by
  unfold BR at *
  rw [z_or, z_or, Int32.or_assoc, Int32.or_comm (Z3 k), ← Int32.or_assoc, h, Int32.or_assoc, Int32.or_assoc, Int32.or_comm (Z3 k)]
theorem BR.far {a b c : Int} (h : BR a b c) (k : Int) : BR a (b3or b k) (b3or c k) := by
  unfold BR at *
  rw [z_or, z_or, ← Int32.or_assoc, h, Int32.or_assoc, Int32.or_assoc]
  congr 1
  rw [Int32.or_comm (Z3 k), Int32.or_assoc, Int32.or_self]
theorem BR.ans {a b c : Int} (h : BR a b c) : b3an a (b3xo c (-1)) = b3an b (b3xo c (-1)) := by
  unfold b3an
  congr 1
  have e : Z3 (b3xo c (-1)) = Z3 c ^^^ -1 := (z3_xo (A := c) (B := -1) rfl rfl).symm
  rw [e]
  exact i_orand _ _ _ h
section Q12
variable {m v w g n : Mem} {T : Nat}
theorem r_bf2 (hR : RT v w) (hW : WW w) {x : Int} : ∀ (d k : Nat) (i : Int), 0 ≤ i → w 8 0 - i = d → d < k → G12_beginsFrom_2 k v x i = some ((if sfd (fun t => w 11 (w 9 t)) x d i = -1 then -1 else w 11 (w 9 (sfd (fun t => w 11 (w 9 t)) x d i))), v) := by
  have hw := hW.1
  unfold WS at hw
  intro d
  induction d with
  | zero =>
    intro k i a1 a2 a3
    obtain ⟨k, rfl⟩ : ∃ j, k = j + 1 := ⟨k - 1, by first | decide | omega⟩
    rw [G12_beginsFrom_2, hR.1.2.2.2.1, if_pos (by first | decide | omega)]
    rfl
  | succ d ih =>
    intro k i a1 a2 a3
    obtain ⟨k, rfl⟩ : ∃ j, k = j + 1 := ⟨k - 1, by first | decide | omega⟩
    have hb := wt_lt hW a1 (show i < w 8 0 by first | decide | omega)
    have e1 := hR.2.2.2.1 i a1 (by first | decide | omega)
    have e2 := (hR.2.2.2.2.1 (w 9 i) (by first | decide | omega) (by first | decide | omega)).1
    rw [G12_beginsFrom_2, hR.1.2.2.2.1, if_neg (by first | decide | omega), e1, e2, gdx_t (by first | decide | omega), gdx_t (by first | decide | omega), gdx_t (by first | decide | omega), gdx_t (by first | decide | omega), gd3_t (by first | decide | omega), ih k (i + 1) (by first | decide | omega) (by first | decide | omega) (by first | decide | omega)]
    have es : sfd (fun t => w 11 (w 9 t)) x (d + 1) i = if w 11 (w 9 i) < x then sfd (fun t => w 11 (w 9 t)) x d (i + 1) else i := rfl
    rw [es]
    by_cases c : w 11 (w 9 i) < x
    · rw [if_pos c, if_pos c]
    · rw [if_neg c, if_neg c, if_neg (show ¬ i = -1 by first | decide | omega)]
end Q12
