section Q9
variable {m v w g n : Mem} {T : Nat}
theorem c_mk40 (hW : WW w) (hG : GB w g) (hE : GE w g (gM w (-1))) {s c lo : Int} {P : Int → Int} (hP : PMok w s c P lo) (hlo : 0 ≤ lo ∧ lo ≤ w 8 1) (hs : 0 ≤ s ∧ s < w 1 0) (hcc : 0 ≤ c ∧ c < w 0 0 * w 0 1) : ∀ (d k : Nat) (i : Int) (m : Mem), lo - 1 ≤ i → i < w 8 1 → i + 1 - lo = d → d < k → CX m 51 T w g → NX m 69 n → n 1 s = c → (∀ j, i < j → j ≤ w 8 1 → m 106 j = P j) → (∀ j, i < j → j < w 8 1 → m 107 j = nxw w s j ∧ m 108 j = (if wov w s c j + P (nxw w s j) < P (j + 1) then 0 else 1)) → ∃ m', G0_makePlan_40 k m 51 69 s (T + 8) lo i = some m' ∧ Fr PPc m m' ∧ m' 99 12 = P lo ∧ m' 99 11 = (plL w s c P 28 lo).length ∧ frt (m' 109) 0 (plL w s c P 28 lo) := by
  have hw := hW.1
  unfold WS at hw
  have hg := hG.1 s hs.1 hs.2
  intro d
  induction d with
  | zero =>
    intro k i m a1 a2 a3 a4 hc hn hcell h6 h7
    obtain ⟨k, rfl⟩ : ∃ j, k = j + 1 := ⟨k - 1, by first | decide | omega⟩
    have hT := hc.1.1
    rw [G0_makePlan_40, if_pos (by first | decide | omega), gdx_t (by first | decide | omega), wt_e, h6 lo (by first | decide | omega) (by first | decide | omega), up_a (by first | decide | omega), hc.1.2.2 8 1 (by first | decide | omega)]
    unfold G0_listPlan G0_listPlan_0
    rw [wt_e]
    obtain ⟨m', z1, z2, z3, z4, z5⟩ := c_list hW (s := s) (c := c) (P := P) (lo := lo) hlo.1 (w 8 1 - lo).toNat 1024 lo lo [] (up (up m 99 12 (P lo)) 99 11 0) (by first | decide | omega) (by first | decide | omega) (by first | decide | omega) (by first | decide | omega) (by simp; first | decide | omega) (by rw [up_e]; rfl) trivial (fun j p q => by rw [up_a (by first | decide | omega), up_a (by first | decide | omega), up_a (by first | decide | omega), up_a (by first | decide | omega)]; exact h7 j (by first | decide | omega) q)
    rw [z1, bs1]
    have e : (if lo < lo then lo else lo) = lo := by split <;> rfl
    rw [e, List.nil_append] at z4 z5
    refine ⟨m', rfl, ?_, ?_, z4, z5⟩
    · have f1 : Fr PPc m (up (up m 99 12 (P lo)) 99 11 0) := (Fr.up Fr.rf (Or.inr (Or.inl rfl))).up (Or.inr (Or.inl rfl))
      exact f1.tr (z2.mono (by intro b q; unfold PPc; first | decide | omega))
    · rw [z3, up_i (by first | decide | omega), up_e]
  | succ d ih =>
    intro k i m a1 a2 a3 a4 hc hn hcell h6 h7
    obtain ⟨k, rfl⟩ : ∃ j, k = j + 1 := ⟨k - 1, by first | decide | omega⟩
    have hT := hc.1.1
    have hi : 0 ≤ i ∧ i < w 8 1 := by omega
    have hm := (hW.2.2.2.1 i hi.1 hi.2).2.1
    obtain ⟨m1, e1, f1⟩ := g_away hc hW (x := s) (v := i) (by first | decide | omega) ⟨hg.1, hg.2.1⟩ hi
    have hc1 := hc.pn f1
    have eg : g 1 s = w 4 s := by rw [(hE.1 s hs.1 hs.2).1, gM1]; exact if_neg (by first | decide | omega)
    rw [eg] at e1
    have hab := away_b w (w 4 s) i
    have hnb := nxw_b hW (s := s) hi
    have hwb := wov_b hW (s := s) hi hcc
    rw [G0_makePlan_40, if_neg (by first | decide | omega), gdx_t (by first | decide | omega), e1, bs1, hc.1.2.2 11 i (by first | decide | omega)]
    simp only
    rw [gd3_t (by first | decide | omega), g_ff hc1.1 (by first | decide | omega), bs1, gdx_t (by first | decide | omega), wt_e]
    simp only
    have en : ff w (w 11 i + awayN w (w 4 s) i) = nxw w s i := rfl
    rw [en, gdx_t (by first | decide | omega)]
    have fA : Fr PPc m (up m1 107 i (nxw w s i)) := (f1.mono (fun b q => Or.inl q)).up (Or.inr (Or.inr (by first | decide | omega)))
    have hcA : CX (up m1 107 i (nxw w s i)) 51 T w g := hc.fr fA (by intro b q; unfold PPc PN; first | decide | omega)
    have hnA : NX (up m1 107 i (nxw w s i)) 69 n := hn.fr fA (by intro b x y; unfold PPc PN; first | decide | omega)
    have e70 : up m1 107 i (nxw w s i) (69 + 1) s = c := by rw [hnA.2.2 1 s (by first | decide | omega)]; exact hcell
    rw [e70]
    obtain ⟨m2, e2, f2⟩ := g_worth hcA hW (x := s) (v := i) (c := c) (by first | decide | omega) ⟨hg.1, hg.2.1⟩ hi hcc (hG.2 i hi.1 hi.2)
    have ew : worthV w (g 1 s) (g 3 i) i c = wov w s c i := by unfold wov; rw [(hE.1 s hs.1 hs.2).1, hE.2 i hi.1 hi.2]
    rw [ew] at e2
    have r106 : m2 106 = m 106 := by funext j; rw [f2 106 j (by unfold PN; first | decide | omega), up_a (by first | decide | omega), f1 106 j (by unfold PN; first | decide | omega)]
    have r107 : m2 107 = fun j => if j = i then nxw w s i else m 107 j := by
      funext j
      rw [f2 107 j (by unfold PN; first | decide | omega), up_r]
      show (if j = i then nxw w s i else m1 107 j) = _
      rw [f1 107 j (by unfold PN; first | decide | omega)]
    have r108 : m2 108 = m 108 := by funext j; rw [f2 108 j (by unfold PN; first | decide | omega), up_a (by first | decide | omega), f1 108 j (by unfold PN; first | decide | omega)]
    have k107 : m2 107 i = nxw w s i := by rw [r107]; show (if i = i then _ else _) = _; rw [if_pos rfl]
    have pN : 0 ≤ P (nxw w s i) ∧ P (nxw w s i) ≤ 900 * 28 := by
      by_cases z : nxw w s i = w 8 1
      · rw [z, hP.1]; omega
      · have := (hP.2 (nxw w s i) (by first | decide | omega) (by first | decide | omega)).2; omega
    have p1 : 0 ≤ P (i + 1) ∧ P (i + 1) ≤ 900 * 28 := by
      by_cases z : i + 1 = w 8 1
      · rw [z, hP.1]; omega
      · have := (hP.2 (i + 1) (by first | decide | omega) (by first | decide | omega)).2; omega
    rw [e2, bs1, gdx_t (by first | decide | omega)]
    simp only
    rw [k107, gdx_t (by first | decide | omega), gdx_t (by first | decide | omega), r106, h6 (nxw w s i) (by first | decide | omega) (by first | decide | omega), h6 (i + 1) (by first | decide | omega) (by first | decide | omega), gd3_t (by first | decide | omega), gd3_t (by first | decide | omega), gd3_t (by first | decide | omega)]
    unfold G0_makePlan_128
    have fB : Fr PPc m m2 := fA.tr (f2.mono (fun b q => Or.inl q))
    have ei : i + -1 = i - 1 := by omega
    have hPi := (hP.2 i (by first | decide | omega) (by first | decide | omega)).1
    have fin : ∀ t : Int, t = (if wov w s c i + P (nxw w s i) < P (i + 1) then 0 else 1) → ∃ m', gdx i 28 (gdb t (wt (up m2 108 i t) fun m2 => gdx (i + 1) 29 (gdx i 29 (wt (up m2 106 i (if wov w s c i + P (nxw w s i) < (m2 106 (i + 1)) then (m2 106 (i + 1)) else wov w s c i + P (nxw w s i))) fun m10 => gd3 (i + (-1)) (G0_makePlan_40 k m10 51 69 s (T + 8) lo (i + (-1))))))) = some m' ∧ Fr PPc m m' ∧ m' 99 12 = P lo ∧ m' 99 11 = (plL w s c P 28 lo).length ∧ frt (m' 109) 0 (plL w s c P 28 lo) := by
      intro t ht
      have tb : t = 0 ∨ t = 1 := by rw [ht]; split <;> omega
      have e106 : up m2 108 i t 106 (i + 1) = P (i + 1) := by rw [up_a (by first | decide | omega), r106]; exact h6 (i + 1) (by first | decide | omega) (by first | decide | omega)
      rw [gdx_t (by first | decide | omega), gdb_t tb, wt_e, e106, gdx_t (by first | decide | omega), gdx_t (by first | decide | omega), wt_e, ← hPi, gd3_t (by first | decide | omega), ei]
      have fC : Fr PPc m (up (up m2 108 i t) 106 i (P i)) := (fB.up (Or.inr (Or.inr (by first | decide | omega)))).up (Or.inr (Or.inr (by first | decide | omega)))
      obtain ⟨m', z1, z2, z3⟩ := ih k (i - 1) (up (up m2 108 i t) 106 i (P i)) (by first | decide | omega) (by first | decide | omega) (by first | decide | omega) (by first | decide | omega) (hc.fr fC (by intro b q; unfold PPc PN; first | decide | omega)) (hn.fr fC (by intro b x y; unfold PPc PN; first | decide | omega)) hcell (fun j p q => by
        by_cases z : j = i
        · rw [z, up_e]
        · rw [up_i z, up_a (by first | decide | omega), r106]; exact h6 j (by first | decide | omega) q) (fun j p q => by
        rw [up_a (show (107 : Nat) ≠ 106 by first | decide | omega), up_a (show (107 : Nat) ≠ 108 by first | decide | omega), up_a (show (108 : Nat) ≠ 106 by first | decide | omega), r107]
        show (if j = i then nxw w s i else m 107 j) = _ ∧ _
        by_cases z : j = i
        · subst z; rw [if_pos rfl, up_e]; exact ⟨rfl, ht⟩
        · rw [if_neg z, up_i z, r108]; exact h7 j (by first | decide | omega) q)
      exact ⟨m', z1, fC.tr z2, z3⟩
    by_cases z : wov w s c i + P (nxw w s i) < P (i + 1)
    · rw [if_pos z]; exact fin 0 (by rw [if_pos z])
    · rw [if_neg z]; exact fin 1 (by rw [if_neg z])
theorem c_mkPlan (t2 : m 0 3 = (T : Int)) (hc : CX m 51 T w g) (hn : NX m 69 n) (hW : WW w) (hG : GB w g) (hE : GE w g (gM w (-1))) {s : Int} {P : Int → Int} (hs : 0 ≤ s ∧ s < w 1 0) (hcc : 0 ≤ n 1 s ∧ n 1 s < w 0 0 * w 0 1) (hP : PMok w s (n 1 s) P (ff w (n 0 0))) : ∃ m', G0_makePlan m 51 69 s = some m' ∧ Fr PQ' m m' ∧ m' 99 12 = P (ff w (n 0 0)) ∧ m' 99 11 = (plL w s (n 1 s) P 28 (ff w (n 0 0))).length ∧ frt (m' 109) 0 (plL w s (n 1 s) P 28 (ff w (n 0 0))) := by
  have hw := hW.1
  unfold WS at hw
  have hT := hc.1.1
  obtain ⟨f1, f2, _, _⟩ := ff_spec (w := w) (by first | decide | omega) (n 0 0)
  have e69 : m 69 0 = n 0 0 := hn.2.1 0
  unfold G0_makePlan G0_makePlan_0
  rw [hc.2.2.1, Int.toNat_natCast, e69, g_ff hc.1 (by first | decide | omega), bs1]
  simp only
  rw [hc.1.2.2 8 1 (by first | decide | omega), gdx_t (by first | decide | omega), wt_e]
  have fA : Fr PPc m (up m 106 (w 8 1) 0) := Fr.up Fr.rf (Or.inr (Or.inr (by first | decide | omega)))
  have e8 : up m 106 (w 8 1) 0 (T + 8) 1 = w 8 1 := by rw [up_a (by first | decide | omega)]; exact hc.1.2.2 8 1 (by first | decide | omega)
  rw [e8, gd3_t (by first | decide | omega)]
  obtain ⟨m', z1, z2, z3⟩ := c_mk40 (T := T) (n := n) hW hG hE hP ⟨f1, f2⟩ hs hcc (w 8 1 - ff w (n 0 0)).toNat 1024 (w 8 1 - 1) (up m 106 (w 8 1) 0) (by first | decide | omega) (by first | decide | omega) (by first | decide | omega) (by first | decide | omega) (hc.fr fA (by intro b q; unfold PPc PN; first | decide | omega)) (hn.fr fA (by intro b x y; unfold PPc PN; first | decide | omega)) rfl (fun j p q => by
    have : j = w 8 1 := by omega
    rw [this, up_e, hP.1]) (fun j p q => by first | decide | omega)
  exact ⟨m', z1, (fA.tr z2).mono PPc_Q, z3⟩
theorem PM_lo {s c lo lo' : Int} {P : Int → Int} (h : PMok w s c P lo) (hl : lo ≤ lo') : PMok w s c P lo' := ⟨h.1, fun k a b => h.2 k (by first | decide | omega) b⟩
theorem a_plan (h : Rel m v) (x : Int) : Agr (G11_plan m x) (G12_plan v x) := by
  have h1 := h.v0
  unfold G11_plan G11_plan_0 G12_plan G12_plan_0
  rw [wt_e]
  generalize up v 0 2 0 = u at h1 ⊢
  obtain ⟨T, w, g, n, t1, t2, hc, hn, hW, hG, hE, hS, hR, hV, hL, -, -, -⟩ := h1.use
  have hw := hW.1
  unfold WS at hw
  obtain ⟨f1, f2, _, _⟩ := ff_spec (w := w) (by first | decide | omega) (n 0 0)
  rw [c_isS t2 hc.1, r_isS hR, bs1, bs1]
  by_cases c1 : 0 ≤ x ∧ x < w 1 0
  · simp only [if_pos c1, if_neg i10]
    have hcell := (hS.1.2 x c1.1 c1.2).1
    have k25 : u 25 x = n 1 x := by have := (hV.1.1 x c1.1 c1.2).1; rwa [show 5 * (0 : Int) + x = x by first | decide | omega] at this
    obtain ⟨u1, e2, g2, p1, _⟩ := r_lp hR hW c1 hcell hV.2.2.2.2 k25
    obtain ⟨m1, e1, g1, k1, _, _⟩ := c_mkPlan t2 hc hn hW hG hE c1 hcell (PM_lo p1 f1)
    have gq := g2.mono PPm_q
    rw [e1, bs1, e2, bs1, r_ftc (hR.q gq) hS (hV.q (by first | decide | omega) gq) hW, bs1, gdx_t (by first | decide | omega), k1]
    exact agr h1 _ rfl rfl g1 gq
  · simp only [if_neg c1, if_true]; exact agr0 h1 _ rfl rfl
/-- the k-th of a row; none: -2 -/
def nth (l : List Int) (k : Int) : Int := if (l.length : Int) ≤ k then -2 else l.getD k.toNat 0
theorem nth_c (y : Int) (r : List Int) {k : Int} (hk : 0 ≤ k) : nth (y :: r) k = if k = 0 then y else nth r (k - 1) := by
  unfold nth
  by_cases c : k = 0
  · subst c; rw [if_neg (by simp), if_pos rfl]; rfl
  · rw [if_neg c]
    by_cases c2 : ((y :: r).length : Int) ≤ k
    · rw [if_pos c2, if_pos (by simp at c2; first | decide | omega)]
    · rw [if_neg c2, if_neg (by simp at c2; first | decide | omega)]
      rw [show k.toNat = (k - 1).toNat + 1 by first | decide | omega]; rfl
theorem r_pd32 (hW : WW w) {s c : Int} {P : Int → Int} (hs : 0 ≤ s ∧ s < w 1 0) (hcc : 0 ≤ c ∧ c < w 0 0 * w 0 1) (hP : PMok w s c P 0) : ∀ (d f : Nat) (i k : Int) (v : Mem), 0 ≤ i → i ≤ w 8 1 → w 8 1 - i ≤ d → d < f → (0 ≤ k ∧ k ≤ 2147483647) → RT v w → v 0 66 = -1 → v 25 s = c → (∀ j, 0 ≤ j → j ≤ w 8 1 → v 37 j = P j) → (∀ j, 0 ≤ j → j < w 8 1 → v 38 j = nxw w s j) → ∃ v', G12_planned_32 f v s k i = some (nth (plL w s c P 28 i) k, v') ∧ Fm PNm v v' := by
  have hw := hW.1
  unfold WS at hw
  intro d
  induction d with
  | zero =>
    intro f i k v a1 a2 a3 a4 a5 hR h66 h25 h37 h38
    obtain ⟨f, rfl⟩ : ∃ j, f = j + 1 := ⟨f - 1, by first | decide | omega⟩
    rw [G12_planned_32, hR.1.2.2.2.2.1, if_pos (by first | decide | omega)]
    have e : plL w s c P 28 i = [] := by rw [show (28 : Nat) = 27 + 1 by decide, plL_s, if_pos (by first | decide | omega)]
    rw [e]
    refine ⟨v, ?_, Fm.rf⟩
    unfold nth
    rw [if_pos (by simp; first | decide | omega)]
  | succ d ih =>
    intro f i k v a1 a2 a3 a4 a5 hR h66 h25 h37 h38
    obtain ⟨f, rfl⟩ : ∃ j, f = j + 1 := ⟨f - 1, by first | decide | omega⟩
    by_cases c0 : w 8 1 ≤ i
    · rw [G12_planned_32, hR.1.2.2.2.2.1, if_pos c0]
      have e : plL w s c P 28 i = [] := by rw [show (28 : Nat) = 27 + 1 by decide, plL_s, if_pos c0]
      rw [e]
      refine ⟨v, ?_, Fm.rf⟩
      unfold nth
      rw [if_pos (by simp; first | decide | omega)]
    · have hi : 0 ≤ i ∧ i < w 8 1 := by omega
      have hnb := nxw_b hW (s := s) hi
      have hwb := wov_b hW (s := s) hi hcc
      obtain ⟨v1, e1, f1⟩ := r_gain hR hW (way := -1) h66 hs hi hcc
      have ew : worthV w (gM w (-1) 1 s) (gM w (-1) 3 i) i c = wov w s c i := rfl
      rw [ew] at e1
      have r37 : v1 37 = v 37 := funext fun j => f1 37 j (by unfold PNm; first | decide | omega)
      have r38 : v1 38 = v 38 := funext fun j => f1 38 j (by unfold PNm; first | decide | omega)
      have pN : 0 ≤ P (nxw w s i) ∧ P (nxw w s i) ≤ 900 * 28 := by
        by_cases z : nxw w s i = w 8 1
        · rw [z, hP.1]; omega
        · have := (hP.2 (nxw w s i) (by first | decide | omega) (by first | decide | omega)).2; omega
      have el : plL w s c P 28 i = if wov w s c i + P (nxw w s i) < P (i + 1) then plL w s c P 28 (i + 1) else i :: plL w s c P 28 (nxw w s i) := by
        rw [show plL w s c P 28 i = plL w s c P (27 + 1) i from rfl, plL_s, if_neg c0, plL_f hW 27 28 (i + 1) (by first | decide | omega) (by first | decide | omega) (by first | decide | omega), plL_f hW 27 28 (nxw w s i) (by first | decide | omega) (by first | decide | omega) (by first | decide | omega)]
      rw [G12_planned_32, hR.1.2.2.2.2.1, if_neg c0, gdx_t (by first | decide | omega), h25, e1, bs1, gdx_t (by first | decide | omega)]
      simp only
      rw [r37, r38, h38 i hi.1 hi.2, gdx_t (by first | decide | omega), gdx_t (by first | decide | omega), h37 (nxw w s i) (by first | decide | omega) (by first | decide | omega), h37 (i + 1) (by first | decide | omega) (by first | decide | omega), gd3_t (by first | decide | omega), el]
      unfold G12_planned_84 G12_planned_98 G12_planned_109
      have step : ∀ i' k', 0 ≤ i' → i' ≤ w 8 1 → w 8 1 - i' ≤ d → (0 ≤ k' ∧ k' ≤ 2147483647) → ∃ v', G12_planned_32 f v1 s k' i' = some (nth (plL w s c P 28 i') k', v') ∧ Fm PNm v v' := by
        intro i' k' b1 b2 b3 b4
        obtain ⟨v', z1, z2⟩ := ih f i' k' v1 b1 b2 b3 (by first | decide | omega) b4 (hR.pn f1) (by rw [f1 0 66 (by unfold PNm; first | decide | omega)]; exact h66) (by rw [f1 25 s (by unfold PNm; first | decide | omega)]; exact h25) (fun j p q => by rw [r37]; exact h37 j p q) (fun j p q => by rw [r38]; exact h38 j p q)
        exact ⟨v', z1, f1.tr z2⟩
      by_cases z : wov w s c i + P (nxw w s i) < P (i + 1)
      · simp only [if_pos z, if_true]
        rw [show k - 0 = k by first | decide | omega, gd3_t (by first | decide | omega), gd3_t (by first | decide | omega)]
        exact step (i + 1) k (by first | decide | omega) (by first | decide | omega) (by first | decide | omega) a5
      · simp only [if_neg z, if_neg i10]
        rw [nth_c _ _ a5.1]
        by_cases z2 : k = 0
        · rw [if_pos z2, if_pos z2]; exact ⟨v1, rfl, f1⟩
        · rw [if_neg z2, if_neg z2, gdx_t (by first | decide | omega), gd3_t (by first | decide | omega), r38, h38 i hi.1 hi.2]
          exact step (nxw w s i) (k - 1) (by first | decide | omega) (by first | decide | omega) (by first | decide | omega) (by first | decide | omega)
theorem frt_nth {f : Int → Int} : ∀ {l : List Int} {o k : Int}, frt f o l → 0 ≤ k → k < l.length → f (o + k) = l.getD k.toNat 0 := by
  intro l
  induction l with
  | nil => intro o k _ a b; simp at b; omega
  | cons y r ih =>
    intro o k h a b
    by_cases c : k = 0
    · subst c; rw [show o + 0 = o by first | decide | omega, h.1]; rfl
    · have := ih h.2 (show 0 ≤ k - 1 by first | decide | omega) (by simp at b; first | decide | omega)
      rw [show o + 1 + (k - 1) = o + k by first | decide | omega] at this
      rw [this, show k.toNat = (k - 1).toNat + 1 by first | decide | omega]; rfl
theorem plL_len (hW : WW w) {s c : Int} {P : Int → Int} : ∀ (d : Nat) (k : Int), 0 ≤ k → k ≤ w 8 1 → ((plL w s c P d k).length : Int) ≤ w 8 1 - k := by
  intro d
  induction d with
  | zero => intro k a b; show ((([] : List Int).length : Nat) : Int) ≤ _; simp; omega
  | succ d ih =>
    intro k a b
    rw [plL_s]
    split
    · simp; omega
    · have hn := nxw_b hW (s := s) (k := k) (by first | decide | omega)
      split
      · have := ih (k + 1) (by first | decide | omega) (by first | decide | omega); omega
      · have := ih (nxw w s k) (by first | decide | omega) (by first | decide | omega); simp; omega
theorem a_planned (h : Rel m v) (x y : Int) (hy : y ≤ 2147483647) : Agr (G11_planned m x y) (G12_planned v x y) := by
  have h1 := h.v0
  unfold G11_planned G11_planned_0 G12_planned G12_planned_0
  rw [wt_e]
  generalize up v 0 2 0 = u at h1 ⊢
  obtain ⟨T, w, g, n, t1, t2, hc, hn, hW, hG, hE, hS, hR, hV, hL, -, -, -⟩ := h1.use
  have hw := hW.1
  unfold WS at hw
  obtain ⟨f1, f2, _, _⟩ := ff_spec (w := w) (by first | decide | omega) (n 0 0)
  rw [c_isS t2 hc.1, r_isS hR, bs1, bs1]
  by_cases c1 : 0 ≤ x ∧ x < w 1 0
  · simp only [if_pos c1, if_neg i10]
    by_cases c2 : 0 ≤ y
    · rw [if_pos c2, if_pos c2]
      have hcell := (hS.1.2 x c1.1 c1.2).1
      have k25 : u 25 x = n 1 x := by have := (hV.1.1 x c1.1 c1.2).1; rwa [show 5 * (0 : Int) + x = x by first | decide | omega] at this
      obtain ⟨u1, e2, g2, p1, p2⟩ := r_lp hR hW c1 hcell hV.2.2.2.2 k25
      obtain ⟨m1, e1, g1, _, k2, k3⟩ := c_mkPlan t2 hc hn hW hG hE c1 hcell (PM_lo p1 f1)
      have gq := g2.mono PPm_q
      have hR1 := hR.q gq
      have hV1 := hV.q (by first | decide | omega) gq
      have k25' : u1 25 x = n 1 x := by rw [g2 25 x (by unfold PPm PNm; first | decide | omega)]; exact k25
      obtain ⟨u2, e3, g3⟩ := r_pd32 hW (P := u1 37) c1 hcell p1 28 1024 (ff w (n 0 0)) y u1 f1 f2 (by first | decide | omega) (by first | decide | omega) ⟨c2, hy⟩ hR1 hV1.2.2.2.2 k25' (fun j _ _ => rfl) p2
      have hlen := plL_len hW (s := x) (c := n 1 x) (P := u1 37) 28 (ff w (n 0 0)) f1 f2
      rw [e1, bs1, e2, bs1, r_ftc hR1 hS hV1 hW, bs1, e3, k2]
      unfold nth
      by_cases z : ((plL w x (n 1 x) (u1 37) 28 (ff w (n 0 0))).length : Int) ≤ y
      · rw [if_pos z, if_pos z]; exact agr h1 _ rfl rfl g1 (gq.tr (g3.mono PNm_q))
      · rw [if_neg z, if_neg z, gdx_t (by first | decide | omega)]
        have := frt_nth k3 c2 (show y < ((plL w x (n 1 x) (u1 37) 28 (ff w (n 0 0))).length : Int) by first | decide | omega)
        rw [Int.zero_add] at this
        rw [this]
        exact agr h1 _ rfl rfl g1 (gq.tr (g3.mono PNm_q))
    · rw [if_neg c2, if_neg c2]; exact agr0 h1 _ rfl rfl
  · simp only [if_neg c1, if_true]; exact agr0 h1 _ rfl rfl
end Q9
/-! The game of two: the class. -/
def cAy (w n : Mem) (s i : Int) : Int := bsd w (n 1 s) (gw i)
/-- does the first of the two have wave v -/
def cnd (w : Mem) (a b : Int) (o : Bool) (v : Int) : Bool := decide (fr w a (gM w (-1) 3 v) < fr w b (gM w (-1) 3 v)) || (decide (fr w a (gM w (-1) 3 v) = fr w b (gM w (-1) 3 v)) && o)
def gnO (w : Mem) (s a b : Int) (o : Bool) (v : Int) : Int := if cnd w a b o v = true then wov w s a v else 0
def gnT (w : Mem) (t a b : Int) (o : Bool) (v : Int) : Int := if cnd w a b o v = true then 0 else wov w t b v
