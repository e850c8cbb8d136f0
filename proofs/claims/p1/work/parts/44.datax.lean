/-! First calls with data: feed, table, fairest, tried. -/
theorem xk {h h' : PH} {P : Nat → Nat → Prop} {R : Nat → Prop} (X : XF h) (K : Kp P R h h') (p : P 3 0 ∧ P 10 0 ∧ P 10 1 ∧ P 90 0 ∧ P 46 8 ∧ P 46 9 ∧ P 69 0 ∧ P 69 1 ∧ P 0 1) : XF h' := by
  obtain ⟨m1, m2, m3, m4, m5, m6, m7, m8, m9, m10⟩ := X
  obtain ⟨p2, p3, p4, p5, p6, p7, p8, p9, p10⟩ := p
  exact ⟨K.1.trans m1, by rw [Kp_gI K p2]; exact m2, by rw [Kp_gI K p3]; exact m3, by rw [Kp_gI K p4]; exact m4, by rw [Kp_gI K p5]; exact m5, by rw [Kp_gI K p6]; exact m6, by rw [Kp_gI K p7]; exact m7, by rw [Kp_gI K p8]; exact m8, by rw [Kp_gI K p9]; exact m9, by rw [Kp_gI K p10]; exact m10⟩
theorem mk {h h' : PH} {P : Nat → Nat → Prop} {R : Nat → Prop} (M : MF h) (K : Kp P R h h') (p : P 0 14 ∧ P 0 15 ∧ P 0 16 ∧ P 0 74 ∧ P 0 4 ∧ P 0 5 ∧ P 0 64 ∧ P 0 1) : MF h' := by
  obtain ⟨m1, m2, m3, m4, m5, m6, m7, m8, m9⟩ := M
  obtain ⟨p2, p3, p4, p5, p6, p7, p8, p9⟩ := p
  exact ⟨K.1.trans m1, by rw [Kp_gI K p2]; exact m2, by rw [Kp_gI K p3]; exact m3, by rw [Kp_gI K p4]; exact m4, by rw [Kp_gI K p5]; exact m5, by rw [Kp_gI K p6]; exact m6, by rw [Kp_gI K p7]; exact m7, by rw [Kp_gI K p8]; exact m8, by rw [Kp_gI K p9]; exact m9⟩
theorem xpI {h : PH} (X : XF h) {k : Nat} (hk : cF SX 76 4 k = some 0) (v : Int32) : ∃ h', pI h 76 4 k v = some h' ∧ XF h' ∧ gI h' 76 4 k = some v ∧ Kp (fun x j => ¬ (x = 76 ∧ j = k)) (fun _ => True) h h' := by
  obtain ⟨h', e, K, g⟩ := pI_ex (h := h) (a := 76) (ci := 4) (k := k) (by rw [X.1]; exact hk) v
  exact ⟨h', e, xk X K ⟨fun q => absurd q.1 (by decide), fun q => absurd q.1 (by decide), fun q => absurd q.1 (by decide), fun q => absurd q.1 (by decide), fun q => absurd q.1 (by decide), fun q => absurd q.1 (by decide), fun q => absurd q.1 (by decide), fun q => absurd q.1 (by decide), fun q => absurd q.1 (by decide)⟩, g, K⟩
theorem xgI {h : PH} (X : XF h) {a ci k : Nat} (hk : cF SX a ci k = some 0) : ∃ v, gI h a ci k = some v := gI_ex (by rw [X.1]; exact hk)
theorem xcp {h : PH} (X : XF h) {a0 a1 n0 n1 : Nat} (e0 : cA SX a0 1 = some n0) (e1 : cA SX a1 1 = some n1) {n : Int32} (h3 : ¬ n < 0) (h4 : (0 : Int32).toNatClampNeg + n.toNatClampNeg ≤ n0) (h5 : (0 : Int32).toNatClampNeg + n.toNatClampNeg ≤ n1) : ∃ h', cpI h a0 0 a1 0 n = some h' ∧ XF h' := by
  obtain ⟨h', e, K⟩ := cp_ex (h := h) (a0 := a0) (a1 := a1) (n0 := n0) (n1 := n1) (by rw [X.1]; exact e0) (by rw [X.1]; exact e1) (sp := 0) (dp := 0) (by decide) (by decide) h3 h4 h5
  exact ⟨h', e, xk X K ⟨trivial, trivial, trivial, trivial, trivial, trivial, trivial, trivial, trivial⟩⟩
theorem xsI {h : PH} (X : XF h) {a t n : Nat} (ht : t < 10) (e : cA SX a (t + 1) = some n) {i : Int32} (hi : vp_in i n) (x : Int32) : ∃ h', sI h a t i x = some h' ∧ XF h' := by
  obtain ⟨h', e, K, -⟩ := sI_ex (h := h) (a := a) ht (by rw [X.1]; exact e) hi x
  exact ⟨h', e, xk X K ⟨trivial, trivial, trivial, trivial, trivial, trivial, trivial, trivial, trivial⟩⟩
theorem msI {h : PH} (M : MF h) {a t n : Nat} (ht : t < 10) (e : cA SM a (t + 1) = some n) {i : Int32} (hi : vp_in i n) (x : Int32) : ∃ h', sI h a t i x = some h' ∧ MF h' ∧ aI h' a t i = some x ∧ Kp (fun _ _ => True) (fun y => y ≠ a) h h' := by
  obtain ⟨h', e, K, g⟩ := sI_ex (h := h) (a := a) ht (by rw [M.1]; exact e) hi x
  exact ⟨h', e, mk M K ⟨trivial, trivial, trivial, trivial, trivial, trivial, trivial, trivial⟩, g, K⟩
theorem maI {h : PH} (M : MF h) {a t n : Nat} (ht : t < 10) (e : cA SM a (t + 1) = some n) {i : Int32} (hi : vp_in i n) : ∃ v, aI h a t i = some v := aI_ex ht (by rw [M.1]; exact e) hi
theorem mpJ {h : PH} (M : MF h) (v : Int64) : ∃ h', pJ h 0 12 65 v = some h' ∧ MF h' ∧ ∀ a t i, aI h' a t i = aI h a t i := by
  obtain ⟨h', e, K⟩ := pJ_ex (h := h) (a := 0) (ci := 12) (k := 65) (by rw [M.1]; decide +kernel) v
  exact ⟨h', e, mk M K (by decide), fun a t i => K.2.2 a t i trivial⟩
theorem mpI {h : PH} (M : MF h) {k : Nat} (hk : k = 66 ∨ k = 67) (v : Int32) : ∃ h', pI h 0 12 k v = some h' ∧ MF h' := by
  obtain ⟨h', e, K, g⟩ := pI_ex (h := h) (a := 0) (ci := 12) (k := k) (by rw [M.1]; rcases hk with rfl | rfl <;> decide +kernel) v
  exact ⟨h', e, mk M K (by rcases hk with rfl | rfl <;> decide)⟩
/-- a loop that counts to N -/
theorem lp {β : Type} (N : Nat) (f : Nat → PH → Int32 → Option β) (I : PH → Prop) (Q : β → Prop) (st : ∀ k, k < N → ∀ n h, I h → (∀ h', I h' → ∃ y, f n h' (Int32.ofNat (k + 1)) = some y ∧ Q y) → ∃ y, f (n + 1) h (Int32.ofNat k) = some y ∧ Q y) (la : ∀ n h, I h → ∃ y, f (n + 1) h (Int32.ofNat N) = some y ∧ Q y) : ∀ d n h, I h → d ≤ N → N + 1 ≤ n + (N - d) → ∃ y, f n h (Int32.ofNat (N - d)) = some y ∧ Q y := by
  intro d
  induction d with
  | zero =>
    intro n h i _ hn
    obtain ⟨n, rfl⟩ : ∃ m, n = m + 1 := ⟨n - 1, by omega⟩
    exact la n h i
  | succ d ih =>
    intro n h i hd hn
    obtain ⟨n, rfl⟩ : ∃ m, n = m + 1 := ⟨n - 1, by omega⟩
    refine st (N - (d + 1)) (by omega) n h i (fun h' i' => ?_)
    have : N - (d + 1) + 1 = N - d := by omega
    rw [this]
    exact ih n h' i' (by omega) (by omega)
theorem lp0 {β : Type} (N : Nat) (hN : N < 1000) (f : Nat → PH → Int32 → Option β) (I : PH → Prop) (Q : β → Prop) (st : ∀ k, k < N → ∀ n h, I h → (∀ h', I h' → ∃ y, f n h' (Int32.ofNat (k + 1)) = some y ∧ Q y) → ∃ y, f (n + 1) h (Int32.ofNat k) = some y ∧ Q y) (la : ∀ n h, I h → ∃ y, f (n + 1) h (Int32.ofNat N) = some y ∧ Q y) {h : PH} (i : I h) : ∃ y, f 1024 h 0 = some y ∧ Q y := by
  have := lp N f I Q st la N 1024 h i (Nat.le_refl N) (by omega)
  rw [Nat.sub_self] at this
  exact this
theorem oN (k : Nat) : Int32.ofNat k + 1 = Int32.ofNat (k + 1) := by
  rw [Int32.ofNat_add]; rfl
theorem oT {k : Nat} (hk : k < 1000) : (Int32.ofNat k).toInt = k := Int32.toInt_ofNat_of_lt (by omega)
theorem oL {k N : Nat} (hk : k < N) (hN : N < 1000) : ¬ Int32.ofNat N ≤ Int32.ofNat k := by
  rw [i_le, oT hN, oT (by omega)]; omega
theorem oI {k N : Nat} (hk : k < N) (hN : N < 1000) : vp_in (Int32.ofNat k) N := by
  unfold vp_in
  rintro (z | z)
  · rw [i_lt, oT (by omega)] at z
    exact absurd z (by have : (0 : Int32).toInt = 0 := by decide
                       omega)
  · have : (Int32.ofNat k).toNatClampNeg = k := by
      rw [Int32.toNatClampNeg, oT (by omega)]; omega
    omega
theorem oA (a k : Nat) : Int32.ofNat a + Int32.ofNat k = Int32.ofNat (a + k) := (Int32.ofNat_add a k).symm

theorem x_takeAll {h : PH} (X : XF h) : ∃ y, F4_takeAll h 76 69 = some y ∧ XF y := by
  refine cx (xo X (by decide)) ?_
  obtain ⟨v, e⟩ := xgI X (a := 69) (ci := 4) (k := 0) (by decide)
  refine bx e ?_
  obtain ⟨h, e, X, -, -⟩ := xpI X (k := 0) (by decide) v
  refine bx e ?_
  obtain ⟨v, e⟩ := xgI X (a := 69) (ci := 4) (k := 1) (by decide)
  refine bx e ?_
  obtain ⟨h, e, X, -, -⟩ := xpI X (k := 1) (by decide) v
  refine bx e ?_
  obtain ⟨v, e⟩ := xgI X (a := 69) (ci := 4) (k := 2) (by decide)
  refine bx e ?_
  obtain ⟨h, e, X, -, -⟩ := xpI X (k := 2) (by decide) v
  refine bx e ?_
  obtain ⟨v, e⟩ := xgI X (a := 69) (ci := 4) (k := 3) (by decide)
  refine bx e ?_
  obtain ⟨h, e, X, -, -⟩ := xpI X (k := 3) (by decide) v
  refine bx e ?_
  obtain ⟨v, e⟩ := xgI X (a := 69) (ci := 4) (k := 4) (by decide)
  refine bx e ?_
  obtain ⟨h, e, X, -, -⟩ := xpI X (k := 4) (by decide) v
  refine bx e ?_
  refine bx (xr X (r := 70) (by decide)) (bx (xr X (r := 77) (by decide)) ?_)
  obtain ⟨h, e, X⟩ := xcp X (a0 := 70) (a1 := 77) (n0 := 5) (n1 := 5) (by decide) (by decide) (n := 5) (by decide) (by decide) (by decide)
  refine bx e ?_
  refine bx (xr X (r := 71) (by decide)) (bx (xr X (r := 78) (by decide)) ?_)
  obtain ⟨h, e, X⟩ := xcp X (a0 := 71) (a1 := 78) (n0 := 5) (n1 := 5) (by decide) (by decide) (n := 5) (by decide) (by decide) (by decide)
  refine bx e ?_
  refine bx (xr X (r := 72) (by decide)) (bx (xr X (r := 79) (by decide)) ?_)
  obtain ⟨h, e, X⟩ := xcp X (a0 := 72) (a1 := 79) (n0 := 5) (n1 := 5) (by decide) (by decide) (n := 5) (by decide) (by decide) (by decide)
  refine bx e ?_
  refine bx (xr X (r := 73) (by decide)) (bx (xr X (r := 80) (by decide)) ?_)
  obtain ⟨h, e, X⟩ := xcp X (a0 := 73) (a1 := 80) (n0 := 5) (n1 := 5) (by decide) (by decide) (n := 5) (by decide) (by decide) (by decide)
  refine bx e ?_
  refine bx (xr X (r := 74) (by decide)) (bx (xr X (r := 81) (by decide)) ?_)
  obtain ⟨h, e, X⟩ := xcp X (a0 := 74) (a1 := 81) (n0 := 5) (n1 := 5) (by decide) (by decide) (n := 5) (by decide) (by decide) (by decide)
  refine bx e ?_
  refine bx (xr X (r := 75) (by decide)) (bx (xr X (r := 82) (by decide)) ?_)
  obtain ⟨h, e, X⟩ := xcp X (a0 := 75) (a1 := 82) (n0 := 28) (n1 := 28) (by decide) (by decide) (n := 28) (by decide) (by decide) (by decide)
  refine bx e ?_
  exact ⟨_, rfl, X⟩
theorem x_takeForRun {h : PH} (X : XF h) (a b : Int32) : ∃ y, F4_takeForRun h 76 69 a b = some y ∧ XF y ∧ gI y 76 4 3 = some 0 ∧ gI y 76 4 4 = some 0 := by
  refine cx (xo X (by decide)) ?_
  obtain ⟨h, e, X⟩ := x_takeAll X
  refine bx e ?_
  obtain ⟨h, e, X, -, -⟩ := xpI X (k := 1) (by decide) a
  refine bx e ?_
  obtain ⟨h, e, X, -, -⟩ := xpI X (k := 2) (by decide) b
  refine bx e ?_
  obtain ⟨h, e, X, g3, -⟩ := xpI X (k := 3) (by decide) 0
  refine bx e ?_
  obtain ⟨h, e, X, g4, K⟩ := xpI X (k := 4) (by decide) 0
  refine bx e ?_
  exact ⟨_, rfl, X, by rw [Kp_gI K (by decide)]; exact g3, g4⟩
theorem x_first {h : PH} (X : XF h) : F11_firstToCome h 0 = some (0, h) := by
  have k : ∃ o, F11_firstToCome h 0 = some o ∧ o = (0, h) := by
    refine cx (xo X (by decide)) (bx (xr X (r := 2) (by decide)) (bx (xr X (r := 10) (by decide)) (bx (xr X (r := 69) (by decide)) (bx X.2.2.2.2.2.2.2.1 ?_))))
    have q : F10_firstFrom h 10 0 = some (0, h) := by
      have k : ∃ o, F10_firstFrom h 10 0 = some o ∧ o = (0, h) := by
        refine cx (xo X (by decide)) ?_
        show ∃ o, F10_firstFrom_2 (1023 + 1) h 10 0 0 = some o ∧ _
        rw [F10_firstFrom_2]
        exact bx X.2.2.2.1 (ixp (by decide) (bx X.2.2.2.1 (ox rfl rfl)))
      obtain ⟨o, e, rfl⟩ := k
      exact e
    exact bx q (ox rfl rfl)
  obtain ⟨o, e, rfl⟩ := k
  exact e
theorem x_runBy {h : PH} (X : XF h) (a b : Int32) : ∃ y, F11_runBy h 0 a b = some y ∧ XF y ∧ gI y 76 4 3 = some 0 ∧ gI y 76 4 4 = some 0 := by
  refine cx (xo X (by decide)) (bx (xr X (r := 76) (by decide)) (bx (xr X (r := 69) (by decide)) ?_))
  obtain ⟨h, e, X, g3, g4⟩ := x_takeForRun X a b
  refine bx e (bx (x_first X) ?_)
  show ∃ y, F11_runBy_18 (1023 + 1) h 0 0 = some y ∧ _
  rw [F11_runBy_18]
  exact bx (xr X (r := 2) (by decide)) (bx (xr X (r := 10) (by decide)) (bx X.2.2.2.1 (ixp (by decide) ⟨_, rfl, X, g3, g4⟩)))
theorem x_unlike {h : PH} (X : XF h) : F4_unlike h 76 0 = some (0, h) := by
  have k : ∃ o, F4_unlike h 76 0 = some o ∧ o = (0, h) := cx (xo X (by decide)) (ixn (by decide) (ox rfl rfl))
  obtain ⟨o, e, rfl⟩ := k
  exact e
theorem x_fair1 {h : PH} (X : XF h) (n : Nat) (s x2 x5 : Int32) (h5 : ¬ 4 ≤ x5) (h2 : x2 = -1 ∨ x2 = 0) (ih : ∀ h', XF h' → ∃ o, F11_fairest_16 n h' 0 s (if x2 = -1 then x5 else 0) 0 0 (x5 + 1) = some o ∧ o.1 = 0) : ∃ o, F11_fairest_16 (n + 1) h 0 s x2 0 0 x5 = some o ∧ o.1 = 0 := by
  rw [F11_fairest_16]
  refine ixn h5 ?_
  obtain ⟨h, e, X, g3, g4⟩ := x_runBy X x5 s
  refine bx e (bx (xr X (r := 76) (by decide)) (bx (xr X (r := 2) (by decide)) (bx (xr X (r := 3) (by decide)) (bx X.2.1 (bx (x_unlike X) (bx (xr X (r := 76) (by decide)) (bx g3 (bx (xr X (r := 76) (by decide)) (bx g4 ?_)))))))))
  rcases h2 with rfl | rfl
  · exact ixp rfl (ih h X)
  · exact ixn (by decide) (ixn (show ¬ (0 : Int32) < 0 by decide) (ixp rfl (ixp (by decide) (ih h X))))
theorem x_fair {h : PH} (X : XF h) (s : Int32) : ∃ o, F11_fairest_16 1024 h 0 s (-1) 0 0 0 = some o ∧ o.1 = 0 :=
  x_fair1 X 1023 s (-1) 0 (by decide) (Or.inl rfl) fun h X => x_fair1 X 1022 s 0 1 (by decide) (Or.inr rfl) fun h X => x_fair1 X 1021 s 0 2 (by decide) (Or.inr rfl) fun h X => x_fair1 X 1020 s 0 3 (by decide) (Or.inr rfl) fun h X => by
    show ∃ o, F11_fairest_16 (1019 + 1) h 0 s 0 0 0 4 = some o ∧ _
    rw [F11_fairest_16]
    exact ixp (by decide) (ox rfl rfl)

theorem x_takeOver {h : PH} (X : XF h) : ∃ y, F6_takeOver h 60 51 = some y ∧ XF y := by
  refine cx (xo X (by decide)) (bx (xr X (r := 2) (by decide)) ?_)
  obtain ⟨h, e, K, -⟩ := pV_ex (h := h) (a := 60) (ci := 6) (k := 0) (z := 5) (by rw [X.1]; decide) (.inr (.inr (some 2))) rfl
  replace X := xk X K (by decide)
  refine bx (show pR _ 60 6 0 2 = some h from e) ?_
  refine bx (xr X (r := 52) (by decide)) (bx (xr X (r := 61) (by decide)) ?_)
  obtain ⟨h, e, X⟩ := xcp X (a0 := 52) (a1 := 61) (n0 := 5) (n1 := 5) (by decide) (by decide) (n := 5) (by decide) (by decide) (by decide)
  refine bx e ?_
  refine bx (xr X (r := 53) (by decide)) (bx (xr X (r := 62) (by decide)) ?_)
  obtain ⟨h, e, X⟩ := xcp X (a0 := 53) (a1 := 62) (n0 := 5) (n1 := 5) (by decide) (by decide) (n := 5) (by decide) (by decide) (by decide)
  refine bx e ?_
  refine bx (xr X (r := 54) (by decide)) (bx (xr X (r := 63) (by decide)) ?_)
  obtain ⟨h, e, X⟩ := xcp X (a0 := 54) (a1 := 63) (n0 := 28) (n1 := 28) (by decide) (by decide) (n := 28) (by decide) (by decide) (by decide)
  refine bx e ?_
  exact ⟨_, rfl, X⟩
theorem x_bold {h : PH} (X : XF h) : ∃ y, F6_makeNobodyBold h 60 = some y ∧ XF y := by
  refine cx (xo X (by decide)) ?_
  refine lp0 5 (by decide) (fun n h x => F6_makeNobodyBold_2 n h 60 x) XF XF (fun k hk n h X ih => ?_) (fun n h X => ?_) X
  · show ∃ y, F6_makeNobodyBold_2 (n + 1) h 60 (Int32.ofNat k) = some y ∧ _
    rw [F6_makeNobodyBold_2]
    refine ixn (oL hk (by decide)) (bx (xr X (r := 62) (by decide)) ?_)
    obtain ⟨h, e, X⟩ := xsI X (a := 62) (t := 0) (n := 5) (by decide) (by decide) (oI hk (by decide)) 0
    refine bx e ?_
    rw [oN]
    exact ih h X
  · show ∃ y, F6_makeNobodyBold_2 (n + 1) h 60 (Int32.ofNat 5) = some y ∧ _
    rw [F6_makeNobodyBold_2]
    exact ixp (by decide) ⟨_, rfl, X⟩
theorem x_boards {h : PH} (X : XF h) (v : Int32) : ∃ y, F6_giveBoards h 60 v = some y ∧ XF y := by
  refine cx (xo X (by decide)) ?_
  refine lp0 5 (by decide) (fun n h x => F6_giveBoards_2 n h 60 v x) XF XF (fun k hk n h X ih => ?_) (fun n h X => ?_) X
  · show ∃ y, F6_giveBoards_2 (n + 1) h 60 v (Int32.ofNat k) = some y ∧ _
    rw [F6_giveBoards_2]
    refine ixn (oL hk (by decide)) (bx (xr X (r := 61) (by decide)) ?_)
    obtain ⟨h, e, X⟩ := xsI X (a := 61) (t := 0) (n := 5) (by decide) (by decide) (oI hk (by decide)) v
    refine bx e ?_
    rw [oN]
    exact ih h X
  · show ∃ y, F6_giveBoards_2 (n + 1) h 60 v (Int32.ofNat 5) = some y ∧ _
    rw [F6_giveBoards_2]
    exact ixp (by decide) ⟨_, rfl, X⟩
theorem x_hold {h : PH} (X : XF h) : ∃ y, F6_holdPeak h 60 = some y ∧ XF y := by
  refine cx (xo X (by decide)) ?_
  refine lp0 28 (by decide) (fun n h x => F6_holdPeak_2 n h 60 x) XF XF (fun k hk n h X ih => ?_) (fun n h X => ?_) X
  · show ∃ y, F6_holdPeak_2 (n + 1) h 60 (Int32.ofNat k) = some y ∧ _
    rw [F6_holdPeak_2]
    obtain ⟨v, ev⟩ := xgI X (a := 2) (ci := 8) (k := 2) (by decide)
    refine ixn (oL hk (by decide)) (bx (xr X (r := 63) (by decide)) (bx (xr X (r := 2) (by decide)) (bx ev ?_)))
    obtain ⟨h, e, X⟩ := xsI X (a := 63) (t := 0) (n := 28) (by decide) (by decide) (oI hk (by decide)) v
    refine bx e ?_
    rw [oN]
    exact ih h X
  · show ∃ y, F6_holdPeak_2 (n + 1) h 60 (Int32.ofNat 28) = some y ∧ _
    rw [F6_holdPeak_2]
    exact ixp (by decide) ⟨_, rfl, X⟩
theorem x_tried54 {h : PH} (X : XF h) (a s : Int32) (ha : a = 0 ∨ a = 2 ∨ a = 3) : ∃ o, F11_tried_54 h 0 a 0 s = some o ∧ o.1 = 0 := by
  refine bx (xr X (r := 76) (by decide)) (bx (xr X (r := 69) (by decide)) (bx (xr X (r := 69) (by decide)) (bx X.2.2.2.2.2.2.2.2.1 ?_)))
  obtain ⟨h, e, X, -, -⟩ := x_takeForRun X 0 s
  refine bx e (bx (xr X (r := 60) (by decide)) (bx (xr X (r := 51) (by decide)) ?_))
  obtain ⟨h, e, X⟩ := x_takeOver X
  refine bx e ?_
  obtain ⟨h, e, X⟩ : ∃ y, F11_changeTrial h 0 a 0 = some y ∧ XF y := by
    refine cx (xo X (by decide)) ?_
    rcases ha with rfl | rfl | rfl
    · obtain ⟨h, e, Y⟩ := x_bold X
      exact ixp rfl (bx (xr X (r := 60) (by decide)) (bx e ⟨_, rfl, Y⟩))
    · obtain ⟨h, e, Y⟩ := x_hold X
      exact ixn (by decide) (ixn (by decide) (ixp rfl (bx (xr X (r := 60) (by decide)) (bx e ⟨_, rfl, Y⟩))))
    · obtain ⟨h, e, Y⟩ := x_boards X 9
      exact ixn (by decide) (ixn (by decide) (ixn (by decide) (ixp rfl (bx (xr X (r := 60) (by decide)) (bx e ⟨_, rfl, Y⟩)))))
  refine bx e (bx (x_first X) ?_)
  show ∃ y, F11_tried_96 (1023 + 1) h 0 0 = some y ∧ _
  rw [F11_tried_96]
  refine bx (xr X (r := 2) (by decide)) (bx (xr X (r := 10) (by decide)) (bx X.2.2.2.1 (ixp (by decide) (bx (xr X (r := 76) (by decide)) (bx (xr X (r := 2) (by decide)) (bx (xr X (r := 3) (by decide)) (bx X.2.1 ?_)))))))
  have q : F4_hadInSum h 76 0 = some (0, h) := by
    have k : ∃ o, F4_hadInSum h 76 0 = some o ∧ o = (0, h) := by
      refine cx (xo X (by decide)) ?_
      show ∃ o, F4_hadInSum_4 (1023 + 1) h 76 0 0 0 = some o ∧ _
      rw [F4_hadInSum_4]
      exact ixp (by decide) (ox rfl rfl)
    obtain ⟨o, e, rfl⟩ := k
    exact e
  exact bx q (ox rfl rfl)
