section Q12
variable {m v w g n : Mem} {T : Nat}
theorem r_bf (hR : RT v w) (hW : WW w) {x : Int} : G12_beginsFrom v x = some ((if sf w x = -1 then -1 else w 11 (w 9 (sf w x))), v) := by
  have hw := hW.1
  unfold WS at hw
  unfold G12_beginsFrom G12_beginsFrom_0
  rw [r_bf2 hR hW (w 8 0).toNat 1024 0 (by first | decide | omega) (by first | decide | omega) (by first | decide | omega)]
  rfl
/-- struck here, not counted there -/
def CR (m v : Mem) (K : Int) : Prop := ∀ k, 0 ≤ k → k < K → (m 95 k = 0 ∧ v 40 k = 1) ∨ (m 95 k = 1 ∧ v 40 k = 0)
def KN (m : Mem) : Int := if m 90 1 = -1 then m 90 0 else m 90 1
theorem KN_b (h : RNo m v w) : 0 ≤ KN m ∧ KN m ≤ m 90 0 ∧ KN m ≤ 24 := by
  obtain ⟨h1, h2, h3, h4, _⟩ := h
  unfold KN
  split <;> omega
theorem c_kn (m : Mem) : G3_howManyKnown m = some (KN m, m) := by
  unfold G3_howManyKnown G3_howManyKnown_0 KN
  split <;> rfl
theorem r_kn (h : RNo m v w) : G12_knownBy v = some (KN m, v) := by
  obtain ⟨h1, h2, h3, h4, _⟩ := h
  unfold G12_knownBy G12_knownBy_0 KN
  rw [← h3, ← h1]
  by_cases c : m 90 1 = -1
  · rw [if_neg (by first | decide | omega), if_pos c]
  · rw [if_pos (by first | decide | omega), if_neg c]
def P95 : Nat → Prop := fun b => b = 95
def P40 : Nat → Int → Prop := fun b _ => b = 40
theorem RNo.pq {m' v' : Mem} (h : RNo m v w) (f : Fr PQ m m') (g : Fm PMq v v') : RNo m' v' w := by
  unfold RNo
  have v39 : v' 39 = v 39 := funext fun i => g 39 i (by unfold PMq; first | decide | omega)
  rw [f.row (show ¬ PQ 90 by unfold PQ; first | decide | omega), f.row (show ¬ PQ 91 by unfold PQ; first | decide | omega), f.row (show ¬ PQ 92 by unfold PQ; first | decide | omega), f.row (show ¬ PQ 93 by unfold PQ; first | decide | omega), f.row (show ¬ PQ 94 by unfold PQ; first | decide | omega), v39, g 0 74 (by unfold PMq; first | decide | omega), g 0 75 (by unfold PMq; first | decide | omega)]
  exact h
theorem P95_q : ∀ b, P95 b → PQ' b := by intro b h; unfold P95 at h; unfold PQ' PQ; omega
theorem P40_q : ∀ b i, P40 b i → PMq b i := by intro b i h; unfold P40 at h; unfold PMq; omega
theorem lc_dn {K : Int} : ∀ (d f f' : Nat) (i : Int) (m v : Mem), -1 ≤ i → i < K → i + 1 = d → d < f → d < f' → RNo m v w → K ≤ m 90 0 → CR m v K → ∃ m' v', G3_findStruck_29 f m i = some m' ∧ (∀ x, G12_locals_47 f' v x i = G12_locals_100 1024 v' x 0 0 0) ∧ Fr P95 m m' ∧ Fm P40 v v' ∧ CR m' v' K := by
  intro d
  induction d with
  | zero =>
    intro f f' i m v a1 a2 a3 a4 a5 hN hK hC
    obtain ⟨f, rfl⟩ : ∃ j, f = j + 1 := ⟨f - 1, by first | decide | omega⟩
    obtain ⟨f', rfl⟩ : ∃ j, f' = j + 1 := ⟨f' - 1, by first | decide | omega⟩
    refine ⟨m, v, ?_, fun x => ?_, Fr.rf, Fm.rf, hC⟩
    · rw [G3_findStruck_29, if_pos (by first | decide | omega)]
    · rw [G12_locals_47, if_pos (by first | decide | omega)]
  | succ d ih =>
    intro f f' i m v a1 a2 a3 a4 a5 hN hK hC
    obtain ⟨f, rfl⟩ : ∃ j, f = j + 1 := ⟨f - 1, by first | decide | omega⟩
    obtain ⟨f', rfl⟩ : ∃ j, f' = j + 1 := ⟨f' - 1, by first | decide | omega⟩
    have h24 := hN.2.1
    have same : ∃ m' v', G3_findStruck_29 f m (i + -1) = some m' ∧ (∀ x, G12_locals_47 f' v x (i + -1) = G12_locals_100 1024 v' x 0 0 0) ∧ Fr P95 m m' ∧ Fm P40 v v' ∧ CR m' v' K := ih f f' (i + -1) m v (by first | decide | omega) (by first | decide | omega) (by first | decide | omega) (by first | decide | omega) (by first | decide | omega) hN hK hC
    have hCi := hC i (by first | decide | omega) (by first | decide | omega)
    have hNi := hN.2.2.2.2 i (by first | decide | omega) (by first | decide | omega)
    by_cases c1 : m 95 i = 0
    · have c1' : ¬ v 40 i = 0 := by omega
      by_cases c2 : m 94 i = -1
      · have c2' : 0 ≤ v 39 (3 * i) := by omega
        obtain ⟨m', v', z1, z2, z3⟩ := same
        refine ⟨m', v', ?_, fun x => ?_, z3⟩
        · rw [G3_findStruck_29, if_neg (by first | decide | omega), gdx_t (by first | decide | omega), if_pos c1, gdx_t (by first | decide | omega), if_pos c2, gd3_t (by first | decide | omega)]; exact z1
        · rw [G12_locals_47, if_neg (by first | decide | omega), gdx_t (by first | decide | omega), if_neg c1', gdx_t (by first | decide | omega), if_pos c2', gd3_t (by first | decide | omega)]; exact z2 x
      · have c2' : ¬ 0 ≤ v 39 (3 * i) := by omega
        have e1 : v 39 (3 * i + 1) = m 94 i := by omega
        have b1 : 0 ≤ m 94 i ∧ m 94 i < i := by omega
        have f1 : Fr P95 m (up m 95 (m 94 i) 1) := Fr.up Fr.rf rfl
        have f2 : Fm P40 v (up v 40 (m 94 i) 0) := Fm.w1 rfl
        obtain ⟨m', v', z1, z2, z3, z4, z5⟩ := ih f f' (i + -1) (up m 95 (m 94 i) 1) (up v 40 (m 94 i) 0) (by first | decide | omega) (by first | decide | omega) (by first | decide | omega) (by first | decide | omega) (by first | decide | omega) (hN.pq (f1.mono (fun b z => (P95_q b z).1)) (f2.mono P40_q)) (by rw [up_a (by first | decide | omega)]; exact hK) (fun k p1 p2 => by
          by_cases z : k = m 94 i
          · right; rw [z, up_e, up_e]; exact ⟨rfl, rfl⟩
          · rw [up_i z, up_i z]; exact hC k p1 p2)
        refine ⟨m', v', ?_, fun x => ?_, f1.tr z3, f2.tr z4, z5⟩
        · rw [G3_findStruck_29, if_neg (by first | decide | omega), gdx_t (by first | decide | omega), if_pos c1, gdx_t (by first | decide | omega), if_neg c2, gdx_t (by first | decide | omega), gdx_t (by first | decide | omega), gdb_t (by first | decide | omega), wt_e, gd3_t (by first | decide | omega)]; exact z1
        · rw [G12_locals_47, if_neg (by first | decide | omega), gdx_t (by first | decide | omega), if_neg c1', gdx_t (by first | decide | omega), if_neg c2', gdx_t (by first | decide | omega), e1, gdx_t (by first | decide | omega), gdb_t (by first | decide | omega), wt_e, gd3_t (by first | decide | omega)]; exact z2 x
    · have c1' : v 40 i = 0 := by omega
      obtain ⟨m', v', z1, z2, z3⟩ := same
      refine ⟨m', v', ?_, fun x => ?_, z3⟩
      · rw [G3_findStruck_29, if_neg (by first | decide | omega), gdx_t (by first | decide | omega), if_neg c1, gd3_t (by first | decide | omega)]; exact z1
      · rw [G12_locals_47, if_neg (by first | decide | omega), gdx_t (by first | decide | omega), if_pos c1', gd3_t (by first | decide | omega)]; exact z2 x
theorem lc_up {K : Int} : ∀ (d f f' : Nat) (i : Int) (m v : Mem), 0 ≤ i → K - i = d → d < f → d < f' → RNo m v w → KN m = K → CR m v i → ∃ m' v', G3_findStruck_7 f m K i = some m' ∧ (∀ x, G12_locals_19 f' v x i = G12_locals_100 1024 v' x 0 0 0) ∧ Fr P95 m m' ∧ Fm P40 v v' ∧ CR m' v' K := by
  intro d
  induction d with
  | zero =>
    intro f f' i m v a1 a2 a3 a4 hN hK hC
    obtain ⟨f, rfl⟩ : ∃ j, f = j + 1 := ⟨f - 1, by first | decide | omega⟩
    obtain ⟨f', rfl⟩ : ∃ j, f' = j + 1 := ⟨f' - 1, by first | decide | omega⟩
    have hk := KN_b hN
    have hi : i = K := by omega
    subst hi
    obtain ⟨m', v', z1, z2, z3, z4, z5⟩ := lc_dn (w := w) (K := i) i.toNat 1024 1024 (i - 1) m v (by first | decide | omega) (by first | decide | omega) (by first | decide | omega) (by first | decide | omega) (by first | decide | omega) hN (by first | decide | omega) hC
    refine ⟨m', v', ?_, fun x => ?_, z3, z4, z5⟩
    · rw [G3_findStruck_7, if_pos (by first | decide | omega), gd3_t (by first | decide | omega)]; exact z1
    · rw [G12_locals_19, r_kn hN, bs1]
      simp only
      rw [if_pos (by first | decide | omega), r_kn hN, bs1]
      simp only
      rw [gd3_t (by first | decide | omega), hK]; exact z2 x
  | succ d ih =>
    intro f f' i m v a1 a2 a3 a4 hN hK hC
    obtain ⟨f, rfl⟩ : ∃ j, f = j + 1 := ⟨f - 1, by first | decide | omega⟩
    obtain ⟨f', rfl⟩ : ∃ j, f' = j + 1 := ⟨f' - 1, by first | decide | omega⟩
    have hk := KN_b hN
    have f1 : Fr P95 m (up m 95 i 0) := Fr.up Fr.rf rfl
    have f2 : Fm P40 v (up v 40 i 1) := Fm.w1 rfl
    have ek : KN (up m 95 i 0) = KN m := by unfold KN; rw [up_a (by first | decide | omega), up_a (by first | decide | omega)]
    obtain ⟨m', v', z1, z2, z3, z4, z5⟩ := ih f f' (i + 1) (up m 95 i 0) (up v 40 i 1) (by first | decide | omega) (by first | decide | omega) (by first | decide | omega) (by first | decide | omega) (hN.pq (f1.mono (fun b z => (P95_q b z).1)) (f2.mono P40_q)) (by rw [ek]; exact hK) (fun k p1 p2 => by
      by_cases z : k = i
      · left; rw [z, up_e, up_e]; exact ⟨rfl, rfl⟩
      · rw [up_i z, up_i z]; exact hC k p1 (by first | decide | omega))
    refine ⟨m', v', ?_, fun x => ?_, f1.tr z3, f2.tr z4, z5⟩
    · rw [G3_findStruck_7, if_neg (by first | decide | omega), gdx_t (by first | decide | omega), gdb_t (by first | decide | omega), wt_e, gd3_t (by first | decide | omega)]; exact z1
    · rw [G12_locals_19, r_kn hN, bs1]
      simp only
      rw [if_neg (by first | decide | omega), gdx_t (by first | decide | omega), gdb_t (by first | decide | omega), wt_e, gd3_t (by first | decide | omega)]; exact z2 x
theorem lc_main (hW : WW w) {K x : Int} : ∀ (d f f' : Nat) (i a b c : Int) (m v : Mem), 0 ≤ i → K - i = d → d < f → d < f' → BR a b c → m 0 3 = (T : Int) → CX m 51 T w g → GB w g → GE w g (gM w (-1)) → RT v w → v 0 66 = -1 → RNo m v w → KN m = K → CR m v K → ∃ y v', G11_locals_26 f m x a c i = some (y, m) ∧ G12_locals_100 f' v x b c i = some (y, v') ∧ Fm PNm v v' := by
  have hw := hW.1
  unfold WS at hw
  intro d
  induction d with
  | zero =>
    intro f f' i a b c m v a1 a2 a3 a4 hB t2 hc hG hE hR h66 hN hK hC
    obtain ⟨f, rfl⟩ : ∃ j, f = j + 1 := ⟨f - 1, by first | decide | omega⟩
    obtain ⟨f', rfl⟩ : ∃ j, f' = j + 1 := ⟨f' - 1, by first | decide | omega⟩
    rw [G11_locals_26, c_kn, bs1, G12_locals_100, r_kn hN, bs1]
    simp only
    rw [if_pos (by first | decide | omega), if_pos (by first | decide | omega), hB.ans]
    exact ⟨_, v, rfl, rfl, Fm.rf⟩
  | succ d ih =>
    intro f f' i a b c m v a1 a2 a3 a4 hB t2 hc hG hE hR h66 hN hK hC
    obtain ⟨f, rfl⟩ : ∃ j, f = j + 1 := ⟨f - 1, by first | decide | omega⟩
    obtain ⟨f', rfl⟩ : ∃ j, f' = j + 1 := ⟨f' - 1, by first | decide | omega⟩
    have hk := KN_b hN
    have hT := hc.1.1
    have hCi := hC i (by first | decide | omega) (by first | decide | omega)
    have hNi := hN.2.2.2.2 i (by first | decide | omega) (by first | decide | omega)
    have next : ∀ (a' b' c' : Int) (v1 : Mem), BR a' b' c' → Fm PNm v v1 → ∃ y v', G11_locals_26 f m x a' c' (i + 1) = some (y, m) ∧ G12_locals_100 f' v1 x b' c' (i + 1) = some (y, v') ∧ Fm PNm v v' := by
      intro a' b' c' v1 hB' fv
      have fq := fv.mono PNm_q
      obtain ⟨y, v', z1, z2, z3⟩ := ih f f' (i + 1) a' b' c' m v1 (by first | decide | omega) (by first | decide | omega) (by first | decide | omega) (by first | decide | omega) hB' t2 hc hG hE (hR.q fq) (by rw [fv 0 66 (by unfold PNm; first | decide | omega)]; exact h66) (hN.pq Fr.rf fq) hK (fun k p1 p2 => by
        rw [fv 40 k (by unfold PNm; first | decide | omega)]; exact hC k p1 p2)
      exact ⟨y, v', z1, z2, fv.tr z3⟩
    rw [G11_locals_26, c_kn, bs1, G12_locals_100, r_kn hN, bs1]
    simp only
    rw [if_neg (by first | decide | omega), if_neg (by first | decide | omega), gdx_t (show 0 ≤ i ∧ i < 24 by first | decide | omega)]
    unfold G3_isKnownSeat G3_isKnownSeat_0
    rw [gdx_t (show 0 ≤ i ∧ i < 24 by first | decide | omega)]
    by_cases c1 : m 95 i = 0
    · rw [if_pos c1, if_neg (show ¬ v 40 i = 0 by first | decide | omega), gdx_t (show 0 ≤ i ∧ i < 24 by first | decide | omega), gdx_t (show 0 ≤ 3 * i ∧ 3 * i < 72 by first | decide | omega)]
      by_cases c2 : m 94 i = -1
      · obtain ⟨s1, s2, s3, s4, s5, s6, s7⟩ : m 94 i = -1 ∧ v 39 (3 * i) = m 91 i ∧ (0 ≤ m 91 i ∧ m 91 i ≤ 199) ∧ v 39 (3 * i + 1) = m 92 i ∧ isS w (m 92 i) ∧ v 39 (3 * i + 2) = m 93 i ∧ isC w (m 93 i) := by
          rcases hNi with y | y
          · exact y
          · omega
        unfold isC at s7
        have hsb := sf_b (w := w) (by first | decide | omega) (m 91 i)
        rw [if_pos c2, bs1, if_pos (show 0 ≤ v 39 (3 * i) by first | decide | omega)]
        simp only
        rw [if_neg i10, gdx_t (show 0 ≤ i ∧ i < 24 by first | decide | omega), t2, Int.toNat_natCast, g_sf hc.1 (by first | decide | omega) (fun t p q => by have := wt_lt hW p q; first | decide | omega), bs1, s2, r_bf hR hW, bs1]
        simp only
        unfold G11_locals_74
        by_cases c3 : sf w (m 91 i) = -1
        · rw [if_pos c3]
          simp only [if_pos c3]
          rw [if_neg (show ¬ (0 : Int) ≤ -1 by first | decide | omega), gdx_t (by first | decide | omega), gd3_t (by first | decide | omega), gd3_t (by first | decide | omega)]
          exact next a b c v hB Fm.rf
        · have hl := wt_lt hW (t := sf w (m 91 i)) (by first | decide | omega) (by first | decide | omega)
          have hv := (hW.2.2.2.1 (w 9 (sf w (m 91 i))) hl.1 hl.2.2).2.1
          have hp := hG.2 (w 9 (sf w (m 91 i))) hl.1 hl.2.2
          rw [if_neg c3]
          simp only [if_neg c3]
          have e9 : m (T + 9) (sf w (m 91 i)) = w 9 (sf w (m 91 i)) := hc.1.2.2 9 _ (by first | decide | omega)
          rw [gdx_t (by first | decide | omega), gdx_t (by first | decide | omega), gdx_t (by first | decide | omega), t2, Int.toNat_natCast, e9, g_farOf hc hW ⟨hl.1, hl.2.2⟩ s7 hp, bs1]
          simp only
          obtain ⟨v1, e1, f1⟩ := m_pk hR hW (mn := w 11 (w 9 (sf w (m 91 i)))) (by first | decide | omega)
          have hx := pxM_b (way := -1) (mn := w 11 (w 9 (sf w (m 91 i)))) hW
          rw [gdx_t (show 0 ≤ 3 * i ∧ 3 * i < 72 by first | decide | omega), if_pos (show 0 ≤ w 11 (w 9 (sf w (m 91 i))) by first | decide | omega), gdx_t (by first | decide | omega), gdx_t (by first | decide | omega), e1, bs1, h66]
          simp only
          rw [s6, m_far (hR.pn f1) hW s7 hx, bs1]
          simp only
          have eg : g 3 (w 9 (sf w (m 91 i))) = pxM w (-1) (w 11 (w 9 (sf w (m 91 i)))) := hE.2 _ hl.1 hl.2.2
          rw [eg, s4, f1 39 _ (by unfold PNm; first | decide | omega), s4]
          by_cases c4 : fr w (m 93 i) (pxM w (-1) (w 11 (w 9 (sf w (m 91 i))))) ≤ x
          · rw [if_neg (show ¬ x < fr w (m 93 i) (pxM w (-1) (w 11 (w 9 (sf w (m 91 i))))) by first | decide | omega), if_pos c4, gd3_t (by first | decide | omega), gd3_t (by first | decide | omega)]
            exact next _ _ c v1 (hB.near _) f1
          · rw [if_pos (show x < fr w (m 93 i) (pxM w (-1) (w 11 (w 9 (sf w (m 91 i))))) by first | decide | omega), if_neg c4, gdx_t (by first | decide | omega), gd3_t (by first | decide | omega), gd3_t (by first | decide | omega)]
            exact next _ _ _ v1 (hB.far _) f1
      · rw [if_neg c2, bs1, if_neg (show ¬ 0 ≤ v 39 (3 * i) by first | decide | omega)]
        simp only [if_true]
        unfold G11_locals_74
        rw [if_pos rfl, gd3_t (by first | decide | omega), gd3_t (by first | decide | omega)]
        exact next a b c v hB Fm.rf
    · rw [if_neg c1, bs1, if_pos (show v 40 i = 0 by first | decide | omega)]
      simp only [if_true]
      unfold G11_locals_74
      rw [if_pos rfl, gd3_t (by first | decide | omega), gd3_t (by first | decide | omega)]
      exact next a b c v hB Fm.rf
theorem a_locals (h : Rel m v) (x : Int) : Agr (G11_locals m x) (G12_locals v x) := by
  have h1 := h.v0
  unfold G11_locals G11_locals_0 G12_locals G12_locals_0
  rw [wt_e]
  generalize up v 0 2 0 = u at h1 ⊢
  obtain ⟨T, w, g, n, t1, t2, hc, hn, hW, hG, hE, hS, hR, hV, hL, ew, -, -⟩ := h1.use
  have hN : RNo m u w := by
    obtain ⟨T', hRS, hRI, hN, _⟩ := h1
    have : T' = T := by have := hRS.1.2.1; omega
    subst this
    rw [ew]; exact hN
  rw [r_isIn, bs1]
  by_cases c1 : 0 ≤ x ∧ x ≤ 12
  · simp only [if_pos c1, if_neg i10]
    rw [if_neg (by first | decide | omega), if_pos c1.2]
    have hk := KN_b hN
    obtain ⟨m1, u1, e1, e2, f1, f2, hC⟩ := lc_up (w := w) (K := KN m) (KN m).toNat 1024 1024 0 m u (by first | decide | omega) (by first | decide | omega) (by first | decide | omega) (by first | decide | omega) hN rfl (fun k p1 p2 => by first | decide | omega)
    have q1 : Fr PQ' m m1 := f1.mono P95_q
    have q2 : Fm PMq u u1 := f2.mono P40_q
    unfold G3_findStruck G3_findStruck_0
    rw [c_kn, bs1]
    simp only
    rw [e1, bs1, e2]
    have hT := hc.1.1
    obtain ⟨y, u2, z1, z2, z3⟩ := lc_main (T := T) (g := g) hW (K := KN m) (x := x) (KN m).toNat 1024 1024 0 0 0 0 m1 u1 (by first | decide | omega) (by first | decide | omega) (by first | decide | omega) (by first | decide | omega) rfl (by rw [f1 0 3 (by unfold P95; first | decide | omega)]; exact t2) (hc.fr f1 (by intro b q; unfold P95; first | decide | omega)) hG hE (hR.q q2) (by rw [f2 0 66 (by unfold P40; first | decide | omega)]; exact hV.2.2.2.2) (hN.pq (q1.mono (fun b z => z.1)) q2) (by unfold KN; rw [f1 90 0 (by unfold P95; first | decide | omega), f1 90 1 (by unfold P95; first | decide | omega)]) hC
    exact agr h1 y z1 z2 q1 (q2.tr (z3.mono PNm_q))
  · simp only [if_neg c1, if_true]
    by_cases c2 : x < 0
    · rw [if_pos c2]; exact agr0 h1 _ rfl rfl
    · rw [if_neg c2, if_neg (by first | decide | omega)]; exact agr0 h1 _ rfl rfl
end Q12
/-! What each part of the relation rests on; notes; go; look. -/
theorem Fm.rw1 {P : Nat → Int → Prop} {m m' : Mem} (f : Fm P m m') {b : Nat} (h : ∀ i, ¬ P b i) : m' b = m b := funext fun i => f b i (h i)
theorem Fr.fm {P : Nat → Prop} {m m' : Mem} (f : Fr P m m') : Fm (fun b _ => P b) m m' := f
section Q13
variable {m v m' v' w n : Mem} {T : Nat} {P Q : Nat → Int → Prop}
/-- what is told, on both sides -/
def RA (m v : Mem) (T : Nat) : Prop := ((T = 2 ∨ T = 24) ∧ m 0 3 = (T : Int) ∧ m 0 4 = 26 - (T : Int) ∧ m 51 0 = (T : Int)) ∧ WW (sl 21 m T) ∧ GE (sl 21 m T) (sl 3 m 51) (gM (sl 21 m T) (-1)) ∧ RT v (sl 21 m T)
theorem RS.ra (h : RS m v T) : RA m v T := ⟨h.1, h.2.1, h.2.2.1, h.2.2.2.2.1⟩
theorem RA.rs (h : RA m v T) (h1 : SN (sl 21 m T) (sl 6 m 69)) (h2 : SV (sl 21 m T) (sl 6 m 69) v) : RS m v T := ⟨h.1, h.2.1, h.2.2.1, h1, h.2.2.2, h2⟩
theorem RA.f (h : RA m v T) (f : Fm P m m') (g : Fm Q v v') (hp : ∀ b i, (b = 0 ∧ (i = 3 ∨ i = 4)) ∨ (2 ≤ b ∧ b ≤ 45) ∨ (51 ≤ b ∧ b ≤ 54) → ¬ P b i) (hq : ∀ b i, (b = 0 ∧ 12 ≤ i ∧ i ≤ 17) ∨ (4 ≤ b ∧ b ≤ 20) → ¬ Q b i) : RA m' v' T ∧ sl 21 m' T = sl 21 m T := by
  obtain ⟨⟨t1, t2, t3, t4⟩, r1, r2, r4⟩ := h
  have ew : sl 21 m' T = sl 21 m T := sl_c (fun b x y => f.rw1 (fun i => hp b i (by first | decide | omega)))
  have eg : sl 3 m' 51 = sl 3 m 51 := sl_c (fun b x y => f.rw1 (fun i => hp b i (by first | decide | omega)))
  refine ⟨⟨⟨t1, ?_, ?_, ?_⟩, ?_, ?_, ?_⟩, ew⟩
  · rw [f 0 3 (hp 0 3 (by first | decide | omega))]; exact t2
  · rw [f 0 4 (hp 0 4 (by first | decide | omega))]; exact t3
  · rw [f 51 0 (hp 51 0 (by first | decide | omega))]; exact t4
  · rw [ew]; exact r1
  · rw [ew, eg]; exact r2
  · rw [ew]; exact r4.fr g hq
theorem SV.f (h : SV w n v) (g : Fm Q v v') (hw : w 1 0 ≤ 5 ∧ w 8 1 ≤ 28) (hq : ∀ b i, (b = 0 ∧ (i = 64 ∨ i = 65 ∨ i = 66)) ∨ ((25 ≤ b ∧ b ≤ 29) ∧ 0 ≤ i ∧ i < 5) ∨ (b = 30 ∧ 0 ≤ i ∧ i < 28) ∨ ((31 ≤ b ∧ b ≤ 33) ∧ i = 0) → ¬ Q b i) : SV w n v' := by
  obtain ⟨⟨h1, h2, h3, h4, h5⟩, h6, h7, h8, h9⟩ := h
  refine ⟨⟨fun i p q => ?_, fun k p q => ?_, ?_, ?_, ?_⟩, ?_, ?_, fun i p q => ?_, ?_⟩
  · rw [g 25 _ (hq _ _ (by first | decide | omega)), g 26 _ (hq _ _ (by first | decide | omega)), g 27 _ (hq _ _ (by first | decide | omega))]; exact h1 i p q
  · rw [g 30 _ (hq _ _ (by first | decide | omega))]; exact h2 k p q
  · rw [g 32 _ (hq _ _ (by first | decide | omega))]; exact h3
  · rw [g 33 _ (hq _ _ (by first | decide | omega))]; exact h4
  · rw [g 0 65 (hq _ _ (by first | decide | omega))]; exact h5
  · rw [g 31 _ (hq _ _ (by first | decide | omega))]; exact h6
  · rw [g 0 64 (hq _ _ (by first | decide | omega))]; exact h7
  · rw [g 28 _ (hq _ _ (by first | decide | omega)), g 29 _ (hq _ _ (by first | decide | omega))]; exact h8 i p q
  · rw [g 0 66 (hq _ _ (by first | decide | omega))]; exact h9
/-- the image, the told part standing -/
def RIw (m v w : Mem) : Prop := m 0 10 = v 0 80 ∧ (m 0 10 = 0 ∨ (m 0 10 = 1 ∧ SN w (sl 6 m 83) ∧ SI w (sl 6 m 83) v))
end Q13
