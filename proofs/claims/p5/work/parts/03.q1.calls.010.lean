section Q9
variable {m v w g n : Mem} {T : Nat}
theorem r_pl17 (hW : WW w) {s c : Int} (hs : 0 ≤ s ∧ s < w 1 0) (hc : 0 ≤ c ∧ c < w 0 0 * w 0 1) : ∀ (d f : Nat) (i : Int) (v : Mem), -1 ≤ i → i < w 8 1 → i + 1 = d → d < f → RT v w → v 0 66 = -1 → v 25 s = c → PMok w s c (v 37) (i + 1) → (∀ j, i < j → j < w 8 1 → v 38 j = nxw w s j) → ∃ v', G12_layPlan_17 f v s i = some v' ∧ Fm PPm v v' ∧ PMok w s c (v' 37) 0 ∧ ∀ j, 0 ≤ j → j < w 8 1 → v' 38 j = nxw w s j := by
  have hw := hW.1
  unfold WS at hw
  intro d
  induction d with
  | zero =>
    intro f i v a1 a2 a3 a4 hR h66 h25 hP hX
    obtain ⟨f, rfl⟩ : ∃ j, f = j + 1 := ⟨f - 1, by first | decide | omega⟩
    rw [G12_layPlan_17, if_pos (by first | decide | omega)]
    have e : i + 1 = 0 := by omega
    rw [e] at hP
    exact ⟨v, rfl, Fm.rf, hP, fun j p q => hX j (by first | decide | omega) q⟩
  | succ d ih =>
    intro f i v a1 a2 a3 a4 hR h66 h25 hP hX
    obtain ⟨f, rfl⟩ : ∃ j, f = j + 1 := ⟨f - 1, by first | decide | omega⟩
    have hi : 0 ≤ i ∧ i < w 8 1 := by omega
    obtain ⟨v1, e1, f1⟩ := m_away hR hW hs hi
    rw [h66] at e1
    have eb : bdM w (-1) s = w 4 s := if_neg (by first | decide | omega)
    rw [eb] at e1
    have hR1 := hR.pn f1
    have hnb := nxw_b hW (s := s) hi
    rw [G12_layPlan_17, if_neg (by first | decide | omega), e1, bs1, gd3_t (by first | decide | omega)]
    simp only
    rw [r_pl33 hR1 hW hi rfl (nxw w s i - (i + 1)).toNat 1024 (i + 1) (by first | decide | omega) (by first | decide | omega) (by first | decide | omega) (by first | decide | omega)]
    unfold G12_layPlan_65 G12_layPlan_124
    have k25 : up v1 38 i (nxw w s i) 25 s = c := by rw [up_a (by first | decide | omega), f1 25 s (by unfold PNm; first | decide | omega)]; exact h25
    rw [gdx_t (by first | decide | omega), wt_e, gdx_t (by first | decide | omega), k25]
    have fA : Fm PPm v (up v1 38 i (nxw w s i)) := (f1.mono (fun b i z => Or.inl z)).w (Or.inr (Or.inr rfl))
    have hRA : RT (up v1 38 i (nxw w s i)) w := hR.fr fA (by intro b i q; unfold PPm PNm; first | decide | omega)
    obtain ⟨v2, e2, f2⟩ := r_gain hRA hW (way := -1) (by rw [up_a (by first | decide | omega), f1 0 66 (by unfold PNm; first | decide | omega)]; exact h66) hs hi hc
    have hwb := wov_b hW (s := s) hi hc
    have ew : worthV w (gM w (-1) 1 s) (gM w (-1) 3 i) i c = wov w s c i := rfl
    rw [ew] at e2
    have r37 : v2 37 = v 37 := by funext j; rw [f2 37 j (by unfold PNm; first | decide | omega), up_a (by first | decide | omega), f1 37 j (by unfold PNm; first | decide | omega)]
    have r38 : v2 38 = fun j => if j = i then nxw w s i else v 38 j := by
      funext j
      rw [f2 38 j (by unfold PNm; first | decide | omega), up_r]
      show (if j = i then nxw w s i else v1 38 j) = _
      rw [f1 38 j (by unfold PNm; first | decide | omega)]
    have pN : 0 ≤ v 37 (nxw w s i) ∧ v 37 (nxw w s i) ≤ 900 * 28 := by
      by_cases z : nxw w s i = w 8 1
      · rw [z, hP.1]; omega
      · have := (hP.2 (nxw w s i) (by first | decide | omega) (by first | decide | omega)).2; omega
    have p1 : 0 ≤ v 37 (i + 1) ∧ v 37 (i + 1) ≤ 900 * (w 8 1 - (i + 1)) := by
      by_cases z : i + 1 = w 8 1
      · rw [z, hP.1]; omega
      · exact (hP.2 (i + 1) (by first | decide | omega) (by first | decide | omega)).2
    have pN2 : v 37 (nxw w s i) ≤ 900 * (w 8 1 - nxw w s i) := by
      by_cases z : nxw w s i = w 8 1
      · rw [z, hP.1]; omega
      · exact (hP.2 (nxw w s i) (by first | decide | omega) (by first | decide | omega)).2.2
    rw [e2, bs1, gdx_t (by first | decide | omega), gdx_t (by first | decide | omega)]
    simp only
    rw [r37, gd3_t (by first | decide | omega), gdx_t (by first | decide | omega), gdx_t (by first | decide | omega), wt_e, gd3_t (by first | decide | omega)]
    have ei : i + -1 = i - 1 := by omega
    rw [ei]
    have fB : ∀ x, Fm PPm v (up v2 37 i x) := fun x => (fA.tr (f2.mono (fun b i z => Or.inl z))).w (Or.inr (Or.inl rfl))
    have fin : ∀ x, x = (if wov w s c i + v 37 (nxw w s i) < v 37 (i + 1) then v 37 (i + 1) else wov w s c i + v 37 (nxw w s i)) → ∃ v', G12_layPlan_17 f (up v2 37 i x) s (i - 1) = some v' ∧ Fm PPm v v' ∧ PMok w s c (v' 37) 0 ∧ ∀ j, 0 ≤ j → j < w 8 1 → v' 38 j = nxw w s j := by
      intro x hx
      have u37 : up v2 37 i x 37 = fun j => if j = i then x else v 37 j := by rw [up_r, r37]
      obtain ⟨v', z1, z2, z3, z4⟩ := ih f (i - 1) (up v2 37 i x) (by first | decide | omega) (by first | decide | omega) (by first | decide | omega) (by first | decide | omega) (hR.fr (fB x) (by intro b i q; unfold PPm PNm; first | decide | omega)) (by rw [fB x 0 66 (by unfold PPm PNm; first | decide | omega)]; exact h66) (by rw [fB x 25 s (by unfold PPm PNm; first | decide | omega)]; exact h25) (by
        rw [u37, show i - 1 + 1 = i by first | decide | omega]
        refine ⟨?_, fun k p q => ?_⟩
        · show (if w 8 1 = i then x else v 37 (w 8 1)) = 0
          rw [if_neg (by first | decide | omega)]; exact hP.1
        · have hnk := nxw_b hW (s := s) (k := k) (by first | decide | omega)
          show (if k = i then x else v 37 k) = (if wov w s c k + (if nxw w s k = i then x else v 37 (nxw w s k)) < (if k + 1 = i then x else v 37 (k + 1)) then (if k + 1 = i then x else v 37 (k + 1)) else wov w s c k + (if nxw w s k = i then x else v 37 (nxw w s k))) ∧ 0 ≤ (if k = i then x else v 37 k) ∧ (if k = i then x else v 37 k) ≤ 900 * (w 8 1 - k)
          rw [if_neg (show ¬ nxw w s k = i by first | decide | omega), if_neg (show ¬ k + 1 = i by first | decide | omega)]
          by_cases z : k = i
          · subst z
            rw [if_pos rfl]
            refine ⟨hx, ?_⟩
            rw [hx]
            split <;> omega
          · rw [if_neg z]
            exact hP.2 k (by first | decide | omega) q) (fun j p q => by
        rw [up_a (by first | decide | omega), r38]
        show (if j = i then nxw w s i else v 38 j) = _
        by_cases z : j = i
        · rw [if_pos z, z]
        · rw [if_neg z]; exact hX j (by first | decide | omega) q)
      exact ⟨v', z1, (fB x).tr z2, z3, z4⟩
    split
    · rename_i z; exact fin _ (by rw [if_pos z])
    · rename_i z; rw [gd3_t (by first | decide | omega), gdx_t (by first | decide | omega), wt_e, gd3_t (by first | decide | omega)]; exact fin _ (by rw [if_neg z])
theorem r_lp (hR : RT v w) (hW : WW w) {s c : Int} (hs : 0 ≤ s ∧ s < w 1 0) (hc : 0 ≤ c ∧ c < w 0 0 * w 0 1) (h66 : v 0 66 = -1) (h25 : v 25 s = c) : ∃ v', G12_layPlan v s = some v' ∧ Fm PPm v v' ∧ PMok w s c (v' 37) 0 ∧ ∀ j, 0 ≤ j → j < w 8 1 → v' 38 j = nxw w s j := by
  have hw := hW.1
  unfold WS at hw
  unfold G12_layPlan G12_layPlan_0
  rw [hR.1.2.2.2.2.1, gdx_t (by first | decide | omega), wt_e]
  have f1 : Fm PPm v (up v 37 (w 8 1) 0) := Fm.w1 (Or.inr (Or.inl rfl))
  have e16 : up v 37 (w 8 1) 0 0 16 = w 8 1 := by rw [up_a (by first | decide | omega)]; exact hR.1.2.2.2.2.1
  rw [e16, gd3_t (by first | decide | omega)]
  obtain ⟨v', e1, g1, k1, k2⟩ := r_pl17 hW hs hc (w 8 1).toNat 1024 (w 8 1 - 1) (up v 37 (w 8 1) 0) (by first | decide | omega) (by first | decide | omega) (by first | decide | omega) (by first | decide | omega) (hR.fr f1 (by intro b i q; unfold PPm PNm; first | decide | omega)) (by rw [up_a (by first | decide | omega)]; exact h66) (by rw [up_a (by first | decide | omega)]; exact h25) ⟨up_e, fun k p q => by first | decide | omega⟩ (fun j p q => by first | decide | omega)
  exact ⟨v', e1, f1.tr g1, k1, k2⟩
/-- the class: from the last wave down -/
def PPc : Nat → Prop := fun b => PN 51 b ∨ b = 99 ∨ (106 ≤ b ∧ b ≤ 109)
theorem PPc_Q : ∀ b, PPc b → PQ' b := by intro b h; unfold PPc PN at h; unfold PQ' PQ; omega
/-- the waves that are gone for, from k on -/
def plL (w : Mem) (s c : Int) (P : Int → Int) : Nat → Int → List Int
  | 0, _ => []
  | d + 1, k => if w 8 1 ≤ k then [] else if wov w s c k + P (nxw w s k) < P (k + 1) then plL w s c P d (k + 1) else k :: plL w s c P d (nxw w s k)
theorem plL_s (s c : Int) (P : Int → Int) (d : Nat) (k : Int) : plL w s c P (d + 1) k = if w 8 1 ≤ k then [] else if wov w s c k + P (nxw w s k) < P (k + 1) then plL w s c P d (k + 1) else k :: plL w s c P d (nxw w s k) := rfl
/-- enough fuel is enough -/
theorem plL_f (hW : WW w) {s c : Int} {P : Int → Int} : ∀ (d e : Nat) (k : Int), 0 ≤ k → w 8 1 - k ≤ d → w 8 1 - k ≤ e → plL w s c P d k = plL w s c P e k := by
  intro d
  induction d with
  | zero =>
    intro e k a b c1
    cases e with
    | zero => rfl
    | succ e => rw [plL_s, if_pos (by first | decide | omega)]; rfl
  | succ d ih =>
    intro e k a b c1
    cases e with
    | zero => rw [plL_s, if_pos (by first | decide | omega)]; rfl
    | succ e =>
      rw [plL_s, plL_s]
      by_cases z : w 8 1 ≤ k
      · rw [if_pos z, if_pos z]
      · have hn := nxw_b hW (s := s) (k := k) (by first | decide | omega)
        rw [if_neg z, if_neg z, ih e (k + 1) (by first | decide | omega) (by first | decide | omega) (by first | decide | omega), ih e (nxw w s k) (by first | decide | omega) (by first | decide | omega) (by first | decide | omega)]
theorem frt_app {f : Int → Int} : ∀ {l1 l2 : List Int} {o : Int}, frt f o l1 → frt f (o + l1.length) l2 → frt f o (l1 ++ l2) := by
  intro l1
  induction l1 with
  | nil => intro l2 o _ h; simpa using h
  | cons y r ih =>
    intro l2 o h1 h2
    refine ⟨h1.1, ih h1.2 ?_⟩
    have : o + 1 + (r.length : Int) = o + ((y :: r).length : Int) := by simp; omega
    rw [this]; exact h2
theorem c_list (hW : WW w) {s c : Int} {P : Int → Int} {lo : Int} (hlo : 0 ≤ lo) : ∀ (d k : Nat) (i fr : Int) (l : List Int) (m : Mem), lo ≤ i → w 8 1 - i = d → d < k → (lo ≤ fr ∧ fr ≤ w 8 1) → (l.length : Int) ≤ i → m 99 11 = l.length → frt (m 109) 0 l → (∀ j, lo ≤ j → j < w 8 1 → m 107 j = nxw w s j ∧ m 108 j = (if wov w s c j + P (nxw w s j) < P (j + 1) then 0 else 1)) → ∃ m', G0_listPlan_10 k m (w 8 1) fr i = some m' ∧ Fr (fun b => b = 99 ∨ b = 109) m m' ∧ m' 99 12 = m 99 12 ∧ m' 99 11 = (l ++ plL w s c P 28 (if i < fr then fr else i)).length ∧ frt (m' 109) 0 (l ++ plL w s c P 28 (if i < fr then fr else i)) := by
  have hw := hW.1
  unfold WS at hw
  intro d
  induction d with
  | zero =>
    intro k i fr l m a1 a2 a3 a4 a5 h1 h2 h3
    obtain ⟨k, rfl⟩ : ∃ j, k = j + 1 := ⟨k - 1, by first | decide | omega⟩
    rw [G0_listPlan_10, if_pos (by first | decide | omega)]
    have e : plL w s c P 28 (if i < fr then fr else i) = [] := by
      rw [show (28 : Nat) = 27 + 1 by decide, plL_s, if_pos (by split <;> omega)]
    rw [e, List.append_nil]
    exact ⟨m, rfl, Fr.rf, rfl, h1, h2⟩
  | succ d ih =>
    intro k i fr l m a1 a2 a3 a4 a5 h1 h2 h3
    obtain ⟨k, rfl⟩ : ∃ j, k = j + 1 := ⟨k - 1, by first | decide | omega⟩
    have hn := nxw_b hW (s := s) (k := i) (by first | decide | omega)
    obtain ⟨e107, e108⟩ := h3 i a1 (by first | decide | omega)
    rw [G0_listPlan_10, if_neg (by first | decide | omega)]
    by_cases c1 : i < fr
    · rw [if_pos c1, gd3_t (by first | decide | omega), if_pos c1]
      have e : (if i + 1 < fr then fr else i + 1) = fr := by split <;> omega
      have := ih k (i + 1) fr l m (by first | decide | omega) (by first | decide | omega) (by first | decide | omega) a4 (by first | decide | omega) h1 h2 h3
      rwa [e] at this
    · rw [if_neg c1, gdx_t (by first | decide | omega), e108, if_neg c1]
      have el : plL w s c P 28 i = if wov w s c i + P (nxw w s i) < P (i + 1) then plL w s c P 28 (i + 1) else i :: plL w s c P 28 (nxw w s i) := by
        rw [show plL w s c P 28 i = plL w s c P (27 + 1) i from rfl, plL_s, if_neg (by first | decide | omega), plL_f hW 27 28 (i + 1) (by first | decide | omega) (by first | decide | omega) (by first | decide | omega), plL_f hW 27 28 (nxw w s i) (by first | decide | omega) (by first | decide | omega) (by first | decide | omega)]
      rw [el]
      by_cases c2 : wov w s c i + P (nxw w s i) < P (i + 1)
      · rw [if_pos c2, if_pos c2, if_pos rfl, gd3_t (by first | decide | omega)]
        have e : (if i + 1 < fr then fr else i + 1) = i + 1 := by split <;> omega
        have := ih k (i + 1) fr l m (by first | decide | omega) (by first | decide | omega) (by first | decide | omega) a4 (by first | decide | omega) h1 h2 h3
        rwa [e] at this
      · rw [if_neg c2, if_neg c2, if_neg i10, h1, gdx_t (by first | decide | omega), wt_e, up_a (by first | decide | omega), h1, gd3_t (by first | decide | omega), wt_e, gdx_t (by first | decide | omega), gd3_t (by first | decide | omega), up_a (by first | decide | omega), up_a (by first | decide | omega), e107]
        obtain ⟨m', z1, z2, z3, z4, z5⟩ := ih k (i + 1) (nxw w s i) (l ++ [i]) (up (up m 109 l.length i) 99 11 (l.length + 1)) (by first | decide | omega) (by first | decide | omega) (by first | decide | omega) (by first | decide | omega) (by simp; first | decide | omega) (by rw [up_e]; simp) (by
          rw [up_b (by first | decide | omega)]
          refine frt_app (frt_up h2 (fun j p q => up_i (by first | decide | omega))) ⟨?_, trivial⟩
          rw [Int.zero_add]; exact up_e) (fun j p q => by rw [up_a (by first | decide | omega), up_a (by first | decide | omega), up_a (by first | decide | omega), up_a (by first | decide | omega)]; exact h3 j p q)
        have e : (if i + 1 < nxw w s i then nxw w s i else i + 1) = nxw w s i := by split <;> omega
        rw [e, List.append_assoc] at z4 z5
        have fr1 : Fr (fun b => b = 99 ∨ b = 109) m (up (up m 109 l.length i) 99 11 (l.length + 1)) := (Fr.up Fr.rf (Or.inr rfl)).up (Or.inl rfl)
        refine ⟨m', z1, fr1.tr z2, ?_, z4, z5⟩
        rw [z3, up_i (by first | decide | omega), up_a (by first | decide | omega)]
end Q9
