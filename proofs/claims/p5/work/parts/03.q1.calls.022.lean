section Q16
variable {m v m' v' w g n n' : Mem} {T : Nat}
theorem r_bk16 : ∀ (d k : Nat) (i : Int) (v : Mem), 0 ≤ i → 5 - i = d → d < k → (∀ j, 0 ≤ j → j < i → v 25 j = v 42 j ∧ v 26 j = v 42 (5 + j) ∧ v 27 j = v 42 (10 + j) ∧ v 28 j = v 42 (15 + j) ∧ v 29 j = v 42 (20 + j)) → ∃ v', G12_back_16 k v i = some (v 0 82, v') ∧ Fm (fun b i => (25 ≤ b ∧ b ≤ 30) ∨ ((31 ≤ b ∧ b ≤ 33) ∧ i = 0) ∨ (b = 0 ∧ (i = 64 ∨ i = 65 ∨ i = 78))) v v' ∧ (∀ j, 0 ≤ j → j < 5 → v' 25 j = v 42 j ∧ v' 26 j = v 42 (5 + j) ∧ v' 27 j = v 42 (10 + j) ∧ v' 28 j = v 42 (15 + j) ∧ v' 29 j = v 42 (20 + j)) ∧ (∀ j, 0 ≤ j → j < 28 → v' 30 j = v 42 (25 + j)) ∧ v' 31 0 = v 0 82 ∧ v' 0 64 = v 0 83 ∧ v' 32 0 = v 0 84 ∧ v' 33 0 = v 0 85 ∧ v' 0 65 = v 0 86 ∧ v' 0 78 = 0 := by
  intro d
  induction d with
  | zero =>
    intro k i v a1 a2 a3 h
    obtain ⟨k, rfl⟩ : ∃ j, k = j + 1 := ⟨k - 1, by first | decide | omega⟩
    rw [G12_back_16, if_pos (by first | decide | omega)]
    obtain ⟨v', z1, z2, z3, z4⟩ := r_bk100 28 1024 0 v (by first | decide | omega) (by first | decide | omega) (by first | decide | omega) (fun j p q => by first | decide | omega)
    refine ⟨v', z1, z2.mono (fun b i q => by first | decide | omega), fun j p q => ?_, z3, z4⟩
    rw [z2 25 j (by first | decide | omega), z2 26 j (by first | decide | omega), z2 27 j (by first | decide | omega), z2 28 j (by first | decide | omega), z2 29 j (by first | decide | omega)]
    exact h j p (by first | decide | omega)
  | succ d ih =>
    intro k i v a1 a2 a3 h
    obtain ⟨k, rfl⟩ : ∃ j, k = j + 1 := ⟨k - 1, by first | decide | omega⟩
    have eb : ∀ (z : Mem) (a : Nat) (i y : Int) j, a ≠ 42 → up z a i y 42 j = z 42 j := fun z a i y j q => up_a (fun e => q e.symm)
    rw [G12_back_16, if_neg (by first | decide | omega)]
    simp only [gdx_t (show 0 ≤ i ∧ i < 10 by first | decide | omega), gdx_t (show 0 ≤ i ∧ i < 5 by first | decide | omega), gdx_t (show 0 ≤ i ∧ i < 53 by first | decide | omega), gdx_t (show 0 ≤ 5 + i ∧ 5 + i < 53 by first | decide | omega), gdx_t (show 0 ≤ 10 + i ∧ 10 + i < 53 by first | decide | omega), gdx_t (show 0 ≤ 15 + i ∧ 15 + i < 53 by first | decide | omega), gdx_t (show 0 ≤ 20 + i ∧ 20 + i < 53 by first | decide | omega), gd3_t (show -2147483648 ≤ i + 1 ∧ i + 1 ≤ 2147483647 by first | decide | omega), wt_e, eb _ 25 _ _ _ (by first | decide | omega), eb _ 26 _ _ _ (by first | decide | omega), eb _ 27 _ _ _ (by first | decide | omega), eb _ 28 _ _ _ (by first | decide | omega)]
    have e42 : ∀ j, up (up (up (up (up v 25 i (v 42 i)) 26 i (v 42 (5 + i))) 27 i (v 42 (10 + i))) 28 i (v 42 (15 + i))) 29 i (v 42 (20 + i)) 42 j = v 42 j := fun j => by
      rw [eb _ _ _ _ _ (by first | decide | omega), eb _ _ _ _ _ (by first | decide | omega), eb _ _ _ _ _ (by first | decide | omega), eb _ _ _ _ _ (by first | decide | omega), eb _ _ _ _ _ (by first | decide | omega)]
    have e0 : ∀ j, up (up (up (up (up v 25 i (v 42 i)) 26 i (v 42 (5 + i))) 27 i (v 42 (10 + i))) 28 i (v 42 (15 + i))) 29 i (v 42 (20 + i)) 0 j = v 0 j := fun j => by
      rw [up_a (by first | decide | omega), up_a (by first | decide | omega), up_a (by first | decide | omega), up_a (by first | decide | omega), up_a (by first | decide | omega)]
    obtain ⟨v', z1, z2, z3, z4, z5⟩ := ih k (i + 1) (up (up (up (up (up v 25 i (v 42 i)) 26 i (v 42 (5 + i))) 27 i (v 42 (10 + i))) 28 i (v 42 (15 + i))) 29 i (v 42 (20 + i))) (by first | decide | omega) (by first | decide | omega) (by first | decide | omega) (fun j p q => by
      simp only [e42]
      by_cases z : j = i
      · subst z
        refine ⟨?_, ?_, ?_, ?_, up_e⟩
        · rw [up_a (by first | decide | omega), up_a (by first | decide | omega), up_a (by first | decide | omega), up_a (by first | decide | omega), up_e]
        · rw [up_a (by first | decide | omega), up_a (by first | decide | omega), up_a (by first | decide | omega), up_e]
        · rw [up_a (by first | decide | omega), up_a (by first | decide | omega), up_e]
        · rw [up_a (by first | decide | omega), up_e]
      · have hh := h j p (by first | decide | omega)
        refine ⟨?_, ?_, ?_, ?_, ?_⟩
        · rw [up_a (by first | decide | omega), up_a (by first | decide | omega), up_a (by first | decide | omega), up_a (by first | decide | omega), up_i z]; exact hh.1
        · rw [up_a (by first | decide | omega), up_a (by first | decide | omega), up_a (by first | decide | omega), up_i z, up_a (by first | decide | omega)]; exact hh.2.1
        · rw [up_a (by first | decide | omega), up_a (by first | decide | omega), up_i z, up_a (by first | decide | omega), up_a (by first | decide | omega)]; exact hh.2.2.1
        · rw [up_a (by first | decide | omega), up_i z, up_a (by first | decide | omega), up_a (by first | decide | omega), up_a (by first | decide | omega)]; exact hh.2.2.2.1
        · rw [up_i z, up_a (by first | decide | omega), up_a (by first | decide | omega), up_a (by first | decide | omega), up_a (by first | decide | omega)]; exact hh.2.2.2.2)
    simp only [e42, e0] at z1 z3 z4 z5
    exact ⟨v', z1, (((((Fm.w1 (by first | decide | omega)).w (by first | decide | omega)).w (by first | decide | omega)).w (by first | decide | omega)).w (by first | decide | omega)).tr z2, z3, z4, z5⟩
theorem a_back (h : Rel m v) : Agr (G11_back m) (G12_back v) := by
  have h1 := h.v0
  unfold G11_back G11_back_0 G12_back G12_back_0
  simp only [wt_e]
  generalize up v 0 2 0 = u at h1 ⊢
  obtain ⟨T, hA, hS, hV, hI, hN, hU, hP, hF, hX⟩ := h1.all
  have hw := hA.2.1.1
  unfold WS at hw
  rw [← hI.1]
  by_cases c : m 0 10 = 0
  · rw [if_pos c, if_pos c]; exact agr0 h1 _ rfl rfl
  · rw [if_neg c, if_neg c]
    obtain ⟨iS, iV⟩ : SN (sl 21 m T) (sl 6 m 83) ∧ SI (sl 21 m T) (sl 6 m 83) u := by
      rcases hI.2 with q | q
      · exact absurd q c
      · exact q.2
    obtain ⟨m1, e1, f1, k1, k2, k3⟩ := c_tall (m := m) (a := 69) (b := 83) (by first | decide | omega) (by first | decide | omega) (by first | decide | omega)
    obtain ⟨u1, e2, f2, p1, p2, p3, p4, p5, p6, p7, p8⟩ := r_bk16 5 1024 0 u (by first | decide | omega) (by first | decide | omega) (by first | decide | omega) (fun j p q => by first | decide | omega)
    rw [e1, bs1, e2]
    have ea : up m1 96 0 0 69 0 = m 83 0 := by rw [up_a (by first | decide | omega)]; exact k1 0 (by first | decide | omega) (by first | decide | omega)
    have eb : u 0 82 = m 83 0 := iV.2.2.1
    rw [ea, eb]
    have fm : Fm (fun b i => (69 ≤ b ∧ b ≤ 75) ∨ (b = 96 ∧ i = 0)) m (up m1 96 0 0) := (f1.fm.mono (fun b i q => by unfold PA at q; first | decide | omega)).w (Or.inr ⟨rfl, rfl⟩)
    obtain ⟨j1, ew⟩ := hA.f fm f2 (by intro b i q; first | decide | omega) (by intro b i q; first | decide | omega)
    have hne : NE (sl 6 m 83) (sl 6 (up m1 96 0 0) 69) := by
      rw [sl_out (by first | decide | omega)]
      refine ⟨fun i p q => ?_, fun c i a b p q => ?_, fun i p q => ?_⟩
      · rw [sl_e (by first | decide | omega), sl_e (by first | decide | omega)]; exact k1 i p q
      · rw [sl_e (by first | decide | omega), sl_e (by first | decide | omega)]; exact k2 c i a b p q
      · rw [sl_e (by first | decide | omega), sl_e (by first | decide | omega)]; exact k3 i p q
    obtain ⟨s1, s2, s3, s4, s5, s6, s7⟩ := iV
    refine ⟨_, _, _, rfl, rfl, Rel.of (T := T) ⟨j1, ?_, ?_, ?_, ?_, ?_, ?_, ?_, ?_⟩⟩
    · rw [ew]; exact iS.ne hne (by first | decide | omega)
    · rw [ew]
      obtain ⟨n0, n1, n2⟩ := hne
      refine ⟨⟨fun s p q => ?_, fun k p q => ?_, ?_, ?_, ?_⟩, ?_, ?_, fun s p q => ?_, ?_⟩
      · have b1 := p1 s p (by first | decide | omega)
        have b2 := s1 s p q
        rw [show 5 * (0 : Int) + s = s by first | decide | omega, n1 1 s (by first | decide | omega) (by first | decide | omega) p (by first | decide | omega), n1 2 s (by first | decide | omega) (by first | decide | omega) p (by first | decide | omega), n1 3 s (by first | decide | omega) (by first | decide | omega) p (by first | decide | omega), b1.1, b1.2.1, b1.2.2.1]
        exact ⟨b2.1, b2.2.1, b2.2.2.1⟩
      · rw [show 28 * (0 : Int) + k = k by first | decide | omega, p2 k p (by first | decide | omega), n2 k p (by first | decide | omega)]; exact s2 k p q
      · rw [p5, n0 3 (by first | decide | omega) (by first | decide | omega)]; exact s5
      · rw [p6, n0 4 (by first | decide | omega) (by first | decide | omega)]; exact s6
      · rw [p7, n0 2 (by first | decide | omega) (by first | decide | omega)]; exact s7
      · rw [p3, n0 0 (by first | decide | omega) (by first | decide | omega)]; exact s3
      · rw [p4, n0 1 (by first | decide | omega) (by first | decide | omega)]; exact s4
      · have b1 := p1 s p (by first | decide | omega)
        have b2 := s1 s p q
        rw [n1 4 s (by first | decide | omega) (by first | decide | omega) p (by first | decide | omega), n1 5 s (by first | decide | omega) (by first | decide | omega) p (by first | decide | omega), b1.2.2.2.1, b1.2.2.2.2]
        exact ⟨b2.2.2.2.1, b2.2.2.2.2⟩
      · rw [f2 0 66 (by first | decide | omega)]; exact hV.2.2.2.2
    · rw [ew]; exact hI.f fm f2 (by intro b i q; first | decide | omega) (by intro b i q; first | decide | omega)
    · rw [ew]; exact hN.f fm f2 (by intro b i q; first | decide | omega) (by intro b i q; first | decide | omega)
    · rw [ew]
      have e96 : up m1 96 0 0 96 0 = 0 := up_e
      refine ⟨by rw [e96, p8], by rw [e96]; first | decide | omega, fun _ s => sl 6 (up m1 96 0 0) 69 1 s, fun _ s => sl 6 (up m1 96 0 0) 69 5 s, fun _ => sl 6 (up m1 96 0 0) 69 0 1, fun s p q => ⟨rfl, rfl⟩, rfl, fun j p q => by rw [e96] at q; first | decide | omega⟩
    · exact hP.f fm f2 (by intro b i q; first | decide | omega) (by intro b i q; first | decide | omega)
    · rw [fm 46 8 (by first | decide | omega), fm 46 9 (by first | decide | omega), f2 0 4 (by first | decide | omega), f2 0 5 (by first | decide | omega)]; exact hF
    · intro i p q; rw [fm 102 i (by first | decide | omega)]; exact hX i p q
end Q16
/-! minutes. -/
section Q17
variable {m v m' v' w g n n' : Mem} {T : Nat}
theorem bw_till (hW : WW w) {v mn : Int} (hs : 0 ≤ w 1 0) (hv : 0 ≤ v ∧ v < w 8 1) (hn : 0 ≤ n 0 2 ∧ n 0 2 < 2147483648) {i : Int} (hi : n 4 i ≤ 1000) : (bw w g n v mn) 4 i ≤ 1000 := by
  have hm := (hW.2.2.2.1 v hv.1 hv.2).2.1
  have ha : ∀ e, 1 ≤ awayN w (g 1 e) v ∧ awayN w (g 1 e) v ≤ 30 := fun e => away_b w (g 1 e) v
  have up4 : ∀ (z : Mem) (e y : Int), z 4 i ≤ 1000 → y ≤ 1000 → up z 4 e y 4 i ≤ 1000 := fun z e y h1 h2 => by
    by_cases c : i = e
    · rw [c, up_e]; exact h2
    · rw [up_i c]; exact h1
  obtain ⟨y, _, h | ⟨e, _, h⟩ | ⟨e, k, _, _, h⟩⟩ := bw_cases (g := g) hs v mn hn
  · rw [h, up_a (by first | decide | omega), up_a (by first | decide | omega), up_a (by first | decide | omega)]; exact hi
  · rw [h]
    unfold bw2
    have := ha e
    refine up4 _ _ _ ?_ (by first | decide | omega)
    rw [up_a (by first | decide | omega), up_a (by first | decide | omega), up_a (by first | decide | omega)]; exact hi
  · rw [h]
    unfold bw2
    have := ha e
    have := ha k
    refine up4 _ _ _ (up4 _ _ _ ?_ (by first | decide | omega)) (by first | decide | omega)
    rw [up_a (by first | decide | omega), up_a (by first | decide | omega), up_a (by first | decide | omega), up_a (by first | decide | omega), up_a (by first | decide | omega)]; exact hi
theorem ff_next (hW : WW w) (mn : Int) : ff w (mn + 1) = if ff w mn < w 8 1 ∧ w 11 (ff w mn) = mn then ff w mn + 1 else ff w mn := by
  have hw := hW.1
  unfold WS at hw
  obtain ⟨h1, h2, h3, h4⟩ := ff_spec (w := w) (by first | decide | omega) mn
  by_cases c : ff w mn < w 8 1 ∧ w 11 (ff w mn) = mn
  · rw [if_pos c]
    refine ff_eq (by first | decide | omega) (by first | decide | omega) (fun k p q => ?_) (fun q => ?_)
    · by_cases z : k = ff w mn
      · rw [z]; omega
      · have := h3 k p (by first | decide | omega); omega
    · have := wv_lt hW h1 (show ff w mn < ff w mn + 1 by first | decide | omega) q; omega
  · rw [if_neg c]
    refine ff_eq (by first | decide | omega) (by first | decide | omega) (fun k p q => ?_) (fun q => ?_)
    · have := h3 k p q; omega
    · have := h4 q; omega
/-- what is so of the minute after the wave of minute mn, before the next begins -/
theorem mnt_sn (hW : WW w) (hS : SN w n) : NB w (mnt w g n (n 0 0)) (2 * ff w (n 0 0 + 1)) ∧ (mnt w g n (n 0 0)) 0 0 = n 0 0 ∧ (mnt w g n (n 0 0)) 0 1 = n 0 1 ∧ (∀ i, 0 ≤ i → i < w 1 0 → (mnt w g n (n 0 0)) 4 i ≤ 1000) ∧ ∀ k, 0 ≤ k → k < w 8 1 → ((mnt w g n (n 0 0)) 6 k = -2 ↔ n 0 0 + 1 ≤ w 11 k) := by
  have hw := hW.1
  unfold WS at hw
  obtain ⟨h1, h2, h3, h4⟩ := ff_spec (w := w) (by first | decide | omega) (n 0 0)
  have hn2 := hS.1.1
  rw [ff_next hW]
  unfold mnt
  by_cases c : ff w (n 0 0) < w 8 1 ∧ w 11 (ff w (n 0 0)) = n 0 0
  · rw [if_pos c, if_pos c]
    obtain ⟨k1, k2, k3, k4, k5, k6⟩ := bw_keep (g := g) (w := w) (n := n) (by first | decide | omega) (ff w (n 0 0)) (n 0 0) (by first | decide | omega)
    refine ⟨?_, k3, k4, fun i p q => bw_till hW (by first | decide | omega) ⟨h1, c.1⟩ (by first | decide | omega) (hS.2.2.1 i p q).2.1, fun k p q => ?_⟩
    · rw [show 2 * (ff w (n 0 0) + 1) = 2 * ff w (n 0 0) + 2 by first | decide | omega]
      exact bw_nb hW hS.1 (by first | decide | omega) ⟨h1, c.1⟩
    · by_cases z : k = ff w (n 0 0)
      · rw [z]
        exact ⟨fun q => absurd q k6, fun q => by first | decide | omega⟩
      · rw [k5 k z, hS.2.2.2 k p q]
        have : w 11 k ≠ n 0 0 := by
          rcases Int.lt_or_le k (ff w (n 0 0)) with y | y
          · have := h3 k p y; omega
          · have := wv_lt hW h1 (show ff w (n 0 0) < k by first | decide | omega) q; omega
        omega
  · rw [if_neg c, if_neg c]
    refine ⟨hS.1, rfl, rfl, fun i p q => (hS.2.2.1 i p q).2.1, fun k p q => ?_⟩
    rw [hS.2.2.2 k p q]
    have : w 11 k ≠ n 0 0 := by
      rcases Int.lt_or_le k (ff w (n 0 0)) with y | y
      · have := h3 k p y; omega
      · have h5 := h4 (by first | decide | omega)
        by_cases z : k = ff w (n 0 0)
        · rw [z]; intro e; exact c ⟨by first | decide | omega, e⟩
        · have := wv_lt hW h1 (show ff w (n 0 0) < k by first | decide | omega) q; omega
    omega
theorem c_bm12 {N mn : Int} (hN : 0 ≤ N ∧ N ≤ 5) : ∀ (d k : Nat) (i : Int) (m : Mem), 0 ≤ i → N - i = d → d < k → m 69 0 = mn → ∃ m', G4_beginMinute_12 k m 69 N i = some m' ∧ Fr (fun b => b = 73 ∨ b = 74) m m' ∧ ∀ s, 0 ≤ s → s < N → m' 73 s = (if s < i then m 73 s else if mn < m 73 s then m 73 s else 0) ∧ m' 74 s = (if s < i then m 74 s else 0) := by
  intro d
  induction d with
  | zero =>
    intro k i m a1 a2 a3 h0
    obtain ⟨k, rfl⟩ : ∃ j, k = j + 1 := ⟨k - 1, by first | decide | omega⟩
    rw [G4_beginMinute_12, if_pos (by first | decide | omega)]
    refine ⟨m, rfl, Fr.rf, fun s p q => ?_⟩
    rw [if_pos (by first | decide | omega), if_pos (by first | decide | omega)]; exact ⟨rfl, rfl⟩
  | succ d ih =>
    intro k i m a1 a2 a3 h0
    obtain ⟨k, rfl⟩ : ∃ j, k = j + 1 := ⟨k - 1, by first | decide | omega⟩
    have nx : ∀ m1 : Mem, Fr (fun b => b = 73 ∨ b = 74) m m1 → (∀ s, s ≠ i → m1 73 s = m 73 s) → m1 73 i = (if mn < m 73 i then m 73 i else 0) → m1 74 = m 74 → ∃ m', G4_beginMinute_36 (fun m a0 x1 x2 => G4_beginMinute_12 k m a0 x1 x2) m1 69 N i = some m' ∧ Fr (fun b => b = 73 ∨ b = 74) m m' ∧ ∀ s, 0 ≤ s → s < N → m' 73 s = (if s < i then m 73 s else if mn < m 73 s then m 73 s else 0) ∧ m' 74 s = (if s < i then m 74 s else 0) := by
      intro m1 f1 k1 k2 k3
      unfold G4_beginMinute_36
      rw [gdx_t (by first | decide | omega), wt_e, gd3_t (by first | decide | omega)]
      have f2 : Fr (fun b => b = 73 ∨ b = 74) m (up m1 (69 + 5) i 0) := f1.up (Or.inr rfl)
      obtain ⟨m', z1, z2, z3⟩ := ih k (i + 1) (up m1 (69 + 5) i 0) (by first | decide | omega) (by first | decide | omega) (by first | decide | omega) (by rw [f2 69 0 (by first | decide | omega)]; exact h0)
      refine ⟨m', z1, f2.tr z2, fun s p q => ?_⟩
      have h3 := z3 s p q
      rw [up_a (show (73 : Nat) ≠ 69 + 5 by first | decide | omega)] at h3
      rw [h3.1, h3.2]
      by_cases c : s = i
      · subst c
        simp only [if_pos (show s < s + 1 by first | decide | omega), if_neg (show ¬ s < s by first | decide | omega)]
        exact ⟨k2, up_e⟩
      · have e74 : up m1 (69 + 5) i 0 74 s = m 74 s := by rw [show (69 + 5 : Nat) = 74 from rfl, up_i c, k3]
        rw [k1 s c, e74]
        by_cases c2 : s < i
        · simp only [if_pos (show s < i + 1 by first | decide | omega), if_pos c2]; exact ⟨trivial, trivial⟩
        · simp only [if_neg (show ¬ s < i + 1 by first | decide | omega), if_neg c2]; exact ⟨trivial, trivial⟩
    rw [G4_beginMinute_12, if_neg (by first | decide | omega)]
    unfold G4_isIn G4_isIn_0
    rw [gdx_t (by first | decide | omega), h0]
    by_cases c : mn < m (69 + 4) i
    · rw [if_pos c, bs1]
      simp only [if_true]
      exact nx m Fr.rf (fun s _ => rfl) (by rw [if_pos c]) rfl
    · rw [if_neg c, bs1]
      simp only [if_neg i10]
      rw [gdx_t (by first | decide | omega), wt_e]
      exact nx _ (Fr.rf.up (Or.inl rfl)) (fun s q => up_i q) (by rw [if_neg c]; exact up_e) (up_b (by first | decide | omega))
/-- what a passing minute changes -/
def Pm : Nat → Int → Prop := fun b _ => (55 ≤ b ∧ b ≤ 59) ∨ (69 ≤ b ∧ b ≤ 75) ∨ b = 96
end Q17
