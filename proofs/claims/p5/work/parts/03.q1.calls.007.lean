section Q7
variable {m v w g n : Mem} {T : Nat}
theorem chance_l {x y j : Int} : ∀ (d k : Nat) (i o s : Int) (m v : Mem), Rel m (up v 0 65 j) → (∀ w, RT v w → 0 ≤ x ∧ x < w 1 0) → v 0 65 = s → (0 ≤ s ∧ s < 2147483648) → 0 ≤ i → 10 - i = d → d < k → (0 ≤ o ∧ o ≤ i) → (0 ≤ y ∧ y ≤ 28) → Agr (G11_chance_33 k m x y o s i) (G12_chance_47 k v x y j o i) := by
  intro d
  induction d with
  | zero =>
    intro k i o s m v h hx h65 hs a1 a2 a3 a4 hy
    obtain ⟨k, rfl⟩ : ∃ j, k = j + 1 := ⟨k - 1, by first | decide | omega⟩
    rw [G11_chance_33, G12_chance_47, if_pos (by first | decide | omega), if_pos (by first | decide | omega), wt_e]
    exact agr0 h _ rfl rfl
  | succ d ih =>
    intro k i o s m v h hx h65 hs a1 a2 a3 a4 hy
    obtain ⟨k, rfl⟩ : ∃ j, k = j + 1 := ⟨k - 1, by first | decide | omega⟩
    obtain ⟨T, w, g, n, t1, t2, hc, hn, hW, hG, hE, hS, hR, hV, hL, -, -, hN⟩ := h.use
    have hw := hW.1
    unfold WS at hw
    obtain ⟨f1, f2, _, _⟩ := ff_spec (w := w) (by first | decide | omega) (n 0 0)
    have g0 : Fm PRn (up v 0 65 j) v := by
      intro b i z
      have : ¬ (b = 0 ∧ i = 65) := fun q => z (Or.inr q)
      exact (if_neg this).symm
    have hR0 := hR.rn g0
    have hB0 := hV.b0.fr (by first | decide | omega) g0
    have hx0 := hx w hR0
    have hrule := hS.1.1
    obtain ⟨m', n', e1, g1, t, n1⟩ := c_runBy t2 hc hn hW hG hS hN (r := n 0 1) (by first | decide | omega) hs
    obtain ⟨v1, v2, e2, e64, e3, g3, h66, n2⟩ := r_lg hW hS hR0 hB0 (by rw [g0 0 66 (by unfold PRn PMq; first | decide | omega)]; exact hV.2.2.2.2) t (by first | decide | omega) hs h65
    rw [rnd_ge hE (by first | decide | omega) _ _ _ f1 (by first | decide | omega)] at n1
    have hB := (rnd_nb (g := gM w (-1)) hW (w 8 1 - ff w (n 0 0)).toNat (ff w (n 0 0)) (2 * ff w (n 0 0)) n' f1 (by first | decide | omega) (by first | decide | omega) (TR_nb hW hS.1 (by first | decide | omega) t (by first | decide | omega) hs)).1
    generalize rnd w (gM w (-1)) (w 8 1 - ff w (n 0 0)).toNat (ff w (n 0 0)) n' = N at *
    have e69 : m 69 1 = n 0 1 := hn.2.1 1
    have ek : v1 0 64 = n 0 1 := by rw [e64]; exact hB0.2.2.2
    rw [G11_chance_33, G12_chance_47, if_neg (by first | decide | omega), if_neg (by first | decide | omega), e69, e1, bs1, e2, bs1, ek, e3, bs1, gdx_t (by first | decide | omega), gdx_t (by first | decide | omega)]
    have k2 : m' (76 + 2) x = N 2 x := n1.2.2 2 x (by first | decide | omega)
    have k3 : v2 26 (5 + x) = N 2 x := by have := (n2.1 x hx0.1 hx0.2).2.1; rwa [show 5 * (1 : Int) + x = 5 + x by first | decide | omega] at this
    have k4 : m' 76 2 = N 0 2 := n1.2.1 2
    rw [k2, k3, k4]
    have h' : Rel m' (up v2 0 65 j) := h.q g1 (by
      intro b i z
      by_cases c : b = 0 ∧ i = 65
      · rw [c.1, c.2, up_e, up_e]
      · have c1 : up v2 0 65 j b i = v2 b i := if_neg c
        have c2 : up v 0 65 j b i = v b i := if_neg c
        rw [c1, c2]
        exact g3 b i (by unfold PRn; exact fun y => y.elim z c))
    have hx' : ∀ w, RT v2 w → 0 ≤ x ∧ x < w 1 0 := fun w' hw' => by
      have : w' 1 0 = w 1 0 := by rw [← hw'.1.2.2.1, ← (hR0.rn g3).1.2.2.1]
      rw [this]; exact hx0
    have hn2 : v2 0 65 = N 0 2 := n2.2.2.2.2
    have hb2 := hB.1
    have ga : ∀ y : Option (Int × Mem), gd3 (i + 1) y = y := fun y => gd3_t (by first | decide | omega)
    have gb : ∀ y : Option (Int × Mem), gd3 (o + 1) y = y := fun y => gd3_t (by first | decide | omega)
    have gc : ∀ y : Option (Int × Mem), gd3 (o + 0) y = y := fun y => gd3_t (by first | decide | omega)
    simp only [ga, gb, gc]
    by_cases c : N 2 x < y
    · rw [if_pos c, if_pos c, Int.add_zero]
      exact ih k (i + 1) o (N 0 2) m' v2 h' hx' hn2 (by first | decide | omega) (by first | decide | omega) (by first | decide | omega) (by first | decide | omega) (by first | decide | omega) hy
    · rw [if_neg c, if_neg c]
      exact ih k (i + 1) (o + 1) (N 0 2) m' v2 h' hx' hn2 (by first | decide | omega) (by first | decide | omega) (by first | decide | omega) (by first | decide | omega) (by first | decide | omega) hy
theorem a_chance (h : Rel m v) (x y z : Int) (hx : x ≤ 2147483647) : Agr (G11_chance m x y z) (G12_chance v x y z) := by
  have h1 := h.v0
  unfold G11_chance G11_chance_0 G12_chance G12_chance_0
  rw [wt_e]
  generalize up v 0 2 0 = u at h1 ⊢
  obtain ⟨T, w, g, n, t1, t2, hc, hn, hW, hG, hE, hS, hR, hV, hL, -, -, hN⟩ := h1.use
  by_cases c1 : x < 0
  · rw [if_pos c1, if_pos c1]; exact agr0 h1 _ rfl rfl
  · rw [if_neg c1, if_neg c1, c_isS t2 hc.1, r_isS hR, bs1, bs1]
    by_cases c2 : 0 ≤ y ∧ y < w 1 0
    · simp only [if_pos c2, if_neg i10]
      rw [r_isIn, bs1]
      by_cases c3 : 0 ≤ z ∧ z ≤ 28
      · simp only [if_pos c3, if_neg i10, if_neg (show ¬ z < 0 by first | decide | omega), if_pos c3.2]
        rw [wt_e]
        have eu : up (up u 0 65 x) 0 65 (u 0 65) = u := by
          funext b i
          by_cases c : b = 0 ∧ i = 65
          · rw [c.1, c.2, up_e]
          · have e1 : up (up u 0 65 x) 0 65 (u 0 65) b i = up u 0 65 x b i := if_neg c
            have e2 : up u 0 65 x b i = u b i := if_neg c
            rw [e1, e2]
        refine chance_l 10 1024 0 0 x m (up u 0 65 x) (by rw [eu]; exact h1) (fun w' hw' => ?_) up_e (by first | decide | omega) (by first | decide | omega) (by first | decide | omega) (by first | decide | omega) (by first | decide | omega) c3
        have : w' 1 0 = w 1 0 := by rw [← hw'.1.2.2.1, ← hR.1.2.2.1, up_i (by first | decide | omega)]
        rw [this]; exact c2
      · simp only [if_neg c3, if_true]
        by_cases q : z < 0
        · rw [if_pos q]; exact agr0 h1 _ rfl rfl
        · rw [if_neg q, if_neg (by first | decide | omega)]; exact agr0 h1 _ rfl rfl
    · simp only [if_neg c2, if_true]; exact agr0 h1 _ rfl rfl
end Q7
/-! What is tried otherwise. -/
section Q8
variable {m v w g n : Mem} {T : Nat}
theorem fill1 {s : Nat} (x : Int) : ∀ (d k : Nat) (i : Int) (m : Mem), 0 ≤ i → 5 - i = d → d < k → (∀ j, 0 ≤ j → j < i → m (s + 1) j = x) → ∃ m', G6_giveBoards_2 k m s x i = some m' ∧ Fr (fun b => b = s + 1) m m' ∧ ∀ j, 0 ≤ j → j < 5 → m' (s + 1) j = x := by
  intro d
  induction d with
  | zero =>
    intro k i m a1 a2 a3 h
    obtain ⟨k, rfl⟩ : ∃ j, k = j + 1 := ⟨k - 1, by first | decide | omega⟩
    rw [G6_giveBoards_2, if_pos (by first | decide | omega)]
    exact ⟨m, rfl, Fr.rf, fun j p q => h j p (by first | decide | omega)⟩
  | succ d ih =>
    intro k i m a1 a2 a3 h
    obtain ⟨k, rfl⟩ : ∃ j, k = j + 1 := ⟨k - 1, by first | decide | omega⟩
    rw [G6_giveBoards_2, if_neg (by first | decide | omega), gdx_t (by first | decide | omega), wt_e, gd3_t (by first | decide | omega)]
    obtain ⟨m', e, f, q⟩ := ih k (i + 1) (up m (s + 1) i x) (by first | decide | omega) (by first | decide | omega) (by first | decide | omega) (fun j p q => by
      by_cases z : j = i
      · subst z; rw [up_e]
      · rw [up_i z]; exact h j p (by first | decide | omega))
    exact ⟨m', e, Fr.tr (Fr.up (P := fun b => b = s + 1) Fr.rf rfl) f, q⟩
theorem fill2 {s : Nat} : ∀ (d k : Nat) (i : Int) (m : Mem), 0 ≤ i → 5 - i = d → d < k → (∀ j, 0 ≤ j → j < i → m (s + 2) j = 0) → ∃ m', G6_makeNobodyBold_2 k m s i = some m' ∧ Fr (fun b => b = s + 2) m m' ∧ ∀ j, 0 ≤ j → j < 5 → m' (s + 2) j = 0 := by
  intro d
  induction d with
  | zero =>
    intro k i m a1 a2 a3 h
    obtain ⟨k, rfl⟩ : ∃ j, k = j + 1 := ⟨k - 1, by first | decide | omega⟩
    rw [G6_makeNobodyBold_2, if_pos (by first | decide | omega)]
    exact ⟨m, rfl, Fr.rf, fun j p q => h j p (by first | decide | omega)⟩
  | succ d ih =>
    intro k i m a1 a2 a3 h
    obtain ⟨k, rfl⟩ : ∃ j, k = j + 1 := ⟨k - 1, by first | decide | omega⟩
    rw [G6_makeNobodyBold_2, if_neg (by first | decide | omega), gdx_t (by first | decide | omega), wt_e, gd3_t (by first | decide | omega)]
    obtain ⟨m', e, f, q⟩ := ih k (i + 1) (up m (s + 2) i 0) (by first | decide | omega) (by first | decide | omega) (by first | decide | omega) (fun j p q => by
      by_cases z : j = i
      · subst z; rw [up_e]
      · rw [up_i z]; exact h j p (by first | decide | omega))
    exact ⟨m', e, Fr.tr (Fr.up (P := fun b => b = s + 2) Fr.rf rfl) f, q⟩
theorem fill3 {s : Nat} (hs : s = 60) (hT : T = 2 ∨ T = 24) (x : Int) : ∀ (d k : Nat) (i : Int) (m : Mem), 0 ≤ i → 28 - i = d → d < k → m s 0 = (T : Int) → m T 2 = x → (∀ j, 0 ≤ j → j < i → m (s + 3) j = x) → ∃ m', G6_holdPeak_2 k m s i = some m' ∧ Fr (fun b => b = s + 3) m m' ∧ ∀ j, 0 ≤ j → j < 28 → m' (s + 3) j = x := by
  intro d
  induction d with
  | zero =>
    intro k i m a1 a2 a3 h0 h2 h
    obtain ⟨k, rfl⟩ : ∃ j, k = j + 1 := ⟨k - 1, by first | decide | omega⟩
    rw [G6_holdPeak_2, if_pos (by first | decide | omega)]
    exact ⟨m, rfl, Fr.rf, fun j p q => h j p (by first | decide | omega)⟩
  | succ d ih =>
    intro k i m a1 a2 a3 h0 h2 h
    obtain ⟨k, rfl⟩ : ∃ j, k = j + 1 := ⟨k - 1, by first | decide | omega⟩
    rw [G6_holdPeak_2, if_neg (by first | decide | omega), gdx_t (by first | decide | omega), h0, Int.toNat_natCast, h2, wt_e, gd3_t (by first | decide | omega)]
    obtain ⟨m', e, f, q⟩ := ih k (i + 1) (up m (s + 3) i x) (by first | decide | omega) (by first | decide | omega) (by first | decide | omega) (by rw [up_a (by first | decide | omega)]; exact h0) (by rw [up_a (by first | decide | omega)]; exact h2) (fun j p q => by
      by_cases z : j = i
      · subst z; rw [up_e]
      · rw [up_i z]; exact h j p (by first | decide | omega))
    exact ⟨m', e, Fr.tr (Fr.up (P := fun b => b = s + 3) Fr.rf rfl) f, q⟩
theorem fillc {a : Nat} (x : Int) : ∀ (d k : Nat) (i : Int) (m : Mem), 0 ≤ i → 5 - i = d → d < k → (∀ j, 0 ≤ j → j < i → m (a + 1) j = x) → ∃ m', G4_seatAll_2 k m a x i = some m' ∧ Fr (fun b => b = a + 1) m m' ∧ ∀ j, 0 ≤ j → j < 5 → m' (a + 1) j = x := by
  intro d
  induction d with
  | zero =>
    intro k i m a1 a2 a3 h
    obtain ⟨k, rfl⟩ : ∃ j, k = j + 1 := ⟨k - 1, by first | decide | omega⟩
    rw [G4_seatAll_2, if_pos (by first | decide | omega)]
    exact ⟨m, rfl, Fr.rf, fun j p q => h j p (by first | decide | omega)⟩
  | succ d ih =>
    intro k i m a1 a2 a3 h
    obtain ⟨k, rfl⟩ : ∃ j, k = j + 1 := ⟨k - 1, by first | decide | omega⟩
    rw [G4_seatAll_2, if_neg (by first | decide | omega), gdx_t (by first | decide | omega), wt_e, gd3_t (by first | decide | omega)]
    obtain ⟨m', e, f, q⟩ := ih k (i + 1) (up m (a + 1) i x) (by first | decide | omega) (by first | decide | omega) (by first | decide | omega) (fun j p q => by
      by_cases z : j = i
      · subst z; rw [up_e]
      · rw [up_i z]; exact h j p (by first | decide | omega))
    exact ⟨m', e, Fr.tr (Fr.up (P := fun b => b = a + 1) Fr.rf rfl) f, q⟩
/-- n'' is n' with what is tried: one left out, or all at one's cell -/
def TW (w n' n'' : Mem) (way one : Int) : Prop := n'' 0 = n' 0 ∧ n'' 2 = n' 2 ∧ n'' 3 = n' 3 ∧ n'' 6 = n' 6 ∧ (∀ i, 0 ≤ i → i < w 1 0 → n'' 1 i = if way = 4 then n' 1 one else n' 1 i) ∧ (∀ i, 0 ≤ i → i < w 1 0 → n'' 4 i = if way = 1 ∧ one = i then 2147483647 else n' 4 i)
end Q8
