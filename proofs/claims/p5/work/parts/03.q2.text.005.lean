section Q22
variable {v : Mem} {t : Int → Int} {S : Int}
theorem Mw_i (h : TPx v t S) {q e : Int} (hq : 0 ≤ q ∧ q < e ∧ e ≤ S) (hl : ∀ i, q ≤ i → i < e → 97 ≤ t i ∧ t i ≤ 122) {off L : Nat} (ho : okw off L = true) : Mw v off L q e ↔ (e - q ≤ 6 ∧ Pw off L = pp t q (e - q).toNat) := by
  obtain ⟨o1, o2, o3, o4, o5⟩ := okw_i ho
  have hv : ∀ i : Nat, q + i < e → v 1 (q + i) = t (q + i) := fun i hi => by
    have h4 := h.2.2.1 (q + i) (by first | decide | omega) (by first | decide | omega)
    have h5 := hl (q + i) (by first | decide | omega) hi
    omega
  have ha : ∀ i : Nat, i < L → aw off L i = wd (off + i) - 96 := fun i hi => if_pos hi
  have hz : ∀ i : Nat, ¬ i < L → aw off L i = 0 := fun i hi => if_neg hi
  have y : ∀ i : Nat, q + i < e → dgw t q e i = t (q + i) - 96 := fun i hi => if_pos hi
  have z : ∀ i : Nat, ¬ q + i < e → dgw t q e i = 0 := fun i hi => if_neg hi
  constructor
  · rintro ⟨m1, m2⟩
    refine ⟨by first | decide | omega, ?_⟩
    have eqs : ∀ i : Nat, i < 6 → aw off L i = dgw t q e i := fun i hi => by
      by_cases c : i < L
      · rw [ha i c, y i (by first | decide | omega), ← hv i (by first | decide | omega), ← m2 i c, h.2.2.2 (off + i) (by first | decide | omega)]
      · rw [hz i c, z i (by first | decide | omega)]
    rw [pp_dg ⟨by first | decide | omega, by first | decide | omega⟩]
    unfold Pw
    rw [eqs 0 (by first | decide | omega), eqs 1 (by first | decide | omega), eqs 2 (by first | decide | omega), eqs 3 (by first | decide | omega), eqs 4 (by first | decide | omega), eqs 5 (by first | decide | omega)]
  · rintro ⟨m1, m2⟩
    rw [pp_dg ⟨by first | decide | omega, m1⟩] at m2
    unfold Pw at m2
    have ba : ∀ i : Nat, i < 6 → 0 ≤ aw off L i ∧ aw off L i ≤ 26 ∧ (i < L → 1 ≤ aw off L i) := fun i hi => by
      by_cases c : i < L
      · rw [ha i c]; have := o5 i c; omega
      · rw [hz i c]; omega
    have bd := fun i => dgw_b hl i
    have a0 := ba 0 (by first | decide | omega)
    have a1 := ba 1 (by first | decide | omega)
    have a2 := ba 2 (by first | decide | omega)
    have a3 := ba 3 (by first | decide | omega)
    have a4 := ba 4 (by first | decide | omega)
    have a5 := ba 5 (by first | decide | omega)
    have d0 := bd 0
    have d1 := bd 1
    have d2 := bd 2
    have d3 := bd 3
    have d4 := bd 4
    have d5 := bd 5
    have E0 : aw off L 0 = dgw t q e 0 := by omega
    have E1 : aw off L 1 = dgw t q e 1 := by omega
    have E2 : aw off L 2 = dgw t q e 2 := by omega
    have E3 : aw off L 3 = dgw t q e 3 := by omega
    have E4 : aw off L 4 = dgw t q e 4 := by omega
    have E5 : aw off L 5 = dgw t q e 5 := by omega
    have eqs : ∀ i : Nat, i < 6 → aw off L i = dgw t q e i := fun i hi => by
      rcases (by omega : i = 0 ∨ i = 1 ∨ i = 2 ∨ i = 3 ∨ i = 4 ∨ i = 5) with c | c | c | c | c | c <;> rw [c] <;> assumption
    have hle : e - q = L := by
      have g1 : q + (L - 1 : Nat) < e := by
        rcases Int.lt_or_le (q + (L - 1 : Nat)) e with k | k
        · exact k
        · have h1 := eqs (L - 1) (by first | decide | omega)
          rw [z (L - 1) (by first | decide | omega)] at h1
          have h2 := (ba (L - 1) (by first | decide | omega)).2.2 (by first | decide | omega)
          omega
      by_cases c6 : L = 6
      · omega
      · have g2 : ¬ q + (L : Int) < e := fun k => by
          have h1 := eqs L (by first | decide | omega)
          rw [hz L (by first | decide | omega)] at h1
          have h2 := (bd L).2.2 k
          omega
        omega
    refine ⟨hle, fun i hi => ?_⟩
    have h1 := eqs i (by first | decide | omega)
    rw [ha i hi, y i (by first | decide | omega)] at h1
    rw [h.2.2.2 (off + i) (by first | decide | omega), hv i (by first | decide | omega)]
    omega
theorem r_wl57 {q e k : Int} {off L : Nat} (hq : 0 ≤ q ∧ e ≤ 700) (hk : 0 ≤ k ∧ k < 100) (h3 : off + L < 120) (hle : e - q = L) {kk : Mem → Int → Int → Int → Int → Option (Int × Mem)} : ∀ (d n : Nat) (j : Nat), L - j = d → j ≤ L → d < n → ((∀ i : Nat, j ≤ i → i < L → v 2 (off + i : Nat) = v 1 (q + i)) → G12_wordAt_57 kk n v q e k off L 1 j = some (k, v)) ∧ (¬ (∀ i : Nat, j ≤ i → i < L → v 2 (off + i : Nat) = v 1 (q + i)) → G12_wordAt_57 kk n v q e k off L 1 j = kk v q e (k + 1) (off + L + 1 : Nat)) := by
  intro d
  induction d with
  | zero =>
    intro n j a1 a2 a3
    obtain ⟨n, rfl⟩ : ∃ q, n = q + 1 := ⟨n - 1, by first | decide | omega⟩
    constructor
    · intro _
      rw [G12_wordAt_57, if_pos (by first | decide | omega)]
      unfold G12_wordAt_104
      rw [if_neg i10]
    · intro hh
      exact absurd (fun i p q => by first | decide | omega) hh
  | succ d ih =>
    intro n j a1 a2 a3
    obtain ⟨n, rfl⟩ : ∃ q, n = q + 1 := ⟨n - 1, by first | decide | omega⟩
    obtain ⟨i1, i2⟩ := ih n (j + 1) (by first | decide | omega) (by first | decide | omega) (by first | decide | omega)
    have ej : (j : Int) + 1 = ((j + 1 : Nat) : Int) := by omega
    have eo : (off : Int) + (j : Int) = ((off + j : Nat) : Int) := by omega
    rw [G12_wordAt_57, if_neg (by first | decide | omega), if_neg i10, gdx_t (by first | decide | omega), gdx_t (by first | decide | omega), gd3_t (by first | decide | omega), gd3_t (by first | decide | omega), ej, eo]
    by_cases c : v 2 (off + j : Nat) = v 1 (q + j)
    · rw [if_pos c]
      refine ⟨fun hh => i1 (fun i p q => hh i (by first | decide | omega) q), fun hh => i2 (fun hh2 => hh (fun i p q => ?_))⟩
      by_cases z : i = j
      · rw [z]; exact c
      · exact hh2 i (by first | decide | omega) q
    · rw [if_neg c]
      refine ⟨fun hh => absurd (hh j (by first | decide | omega) (by first | decide | omega)) c, fun _ => ?_⟩
      obtain ⟨n, rfl⟩ : ∃ q, n = q + 1 := ⟨n - 1, by first | decide | omega⟩
      have e104 : G12_wordAt_104 kk v q e k off L 0 = kk v q e (k + 1) (off + L + 1 : Nat) := by
        unfold G12_wordAt_104
        rw [if_pos rfl, gd3_t (by first | decide | omega), gd3_t (by first | decide | omega), show (off : Int) + ((L : Int) + 1) = ((off + L + 1 : Nat) : Int) by first | decide | omega]
      rw [G12_wordAt_57]
      split
      · exact e104
      · rw [if_pos rfl]; exact e104
theorem r_wl18 {q e k : Int} {off L : Nat} (h : TPx v t S) (hq : 0 ≤ q ∧ q < e ∧ e ≤ S) (ho : okw off L = true) {kk : Mem → Int → Int → Int → Int → Option (Int × Mem)} : ∀ (d n : Nat) (j : Nat), L - j = d → j ≤ L → d < n → G12_wordAt_18 kk n v q e k off j = if (L : Int) = e - q then G12_wordAt_57 kk 1024 v q e k off L 1 0 else G12_wordAt_57 kk 1024 v q e k off L 0 0 := by
  obtain ⟨o1, o2, o3, o4, o5⟩ := okw_i ho
  have hS := h.1
  intro d
  induction d with
  | zero =>
    intro n j a1 a2 a3
    obtain ⟨n, rfl⟩ : ∃ q, n = q + 1 := ⟨n - 1, by first | decide | omega⟩
    have ej : j = L := by omega
    subst ej
    have eo : (off : Int) + (j : Int) = ((off + j : Nat) : Int) := by omega
    rw [G12_wordAt_18, eo, gdx_t (by first | decide | omega), h.2.2.2 (off + j) (by first | decide | omega), if_pos o4, gd3_t (by first | decide | omega)]
  | succ d ih =>
    intro n j a1 a2 a3
    obtain ⟨n, rfl⟩ : ∃ q, n = q + 1 := ⟨n - 1, by first | decide | omega⟩
    have eo : (off : Int) + (j : Int) = ((off + j : Nat) : Int) := by omega
    have hj := o5 j (by first | decide | omega)
    rw [G12_wordAt_18, eo, gdx_t (by first | decide | omega), h.2.2.2 (off + j) (by first | decide | omega), if_neg (by first | decide | omega), gd3_t (by first | decide | omega), show (j : Int) + 1 = ((j + 1 : Nat) : Int) by first | decide | omega]
    exact ih n (j + 1) (by first | decide | omega) (by first | decide | omega) (by first | decide | omega)
theorem r_wa (h : TPx v t S) {q e : Int} (hq : 0 ≤ q ∧ q < e ∧ e ≤ S) (hl : ∀ i, q ≤ i → i < e → 97 ≤ t i ∧ t i ≤ 122) : ∀ (l : List Nat) (off n : Nat) (k : Int), okl off l = true → l.length < n → 0 ≤ k → k + l.length ≤ 24 → G12_wordAt_5 n v q e k off = some ((if e - q ≤ 6 then rxl (pkl off l) (pp t q (e - q).toNat) k else -1), v) := by
  have hS := h.1
  intro l
  induction l with
  | nil =>
    intro off n k h1 h2 h3 h4
    obtain ⟨n, rfl⟩ : ∃ q, n = q + 1 := ⟨n - 1, by first | decide | omega⟩
    have : off = 120 := of_decide_eq_true h1
    rw [G12_wordAt_5, if_pos (by first | decide | omega)]
    have e1 : rxl (pkl off []) (pp t q (e - q).toNat) k = -1 := rfl
    rw [e1]
    split <;> rfl
  | cons L r ih =>
    intro off n k h1 h2 h3 h4
    obtain ⟨n, rfl⟩ : ∃ q, n = q + 1 := ⟨n - 1, by first | decide | omega⟩
    have h1' : (okw off L && okl (off + L + 1) r) = true := h1
    rw [Bool.and_eq_true] at h1'
    obtain ⟨ho, hr⟩ := h1'
    obtain ⟨o1, o2, o3, o4, o5⟩ := okw_i ho
    have hlen : (L :: r).length = r.length + 1 := rfl
    have nxt := ih (off + L + 1) n (k + 1) hr (by first | decide | omega) (by first | decide | omega) (by first | decide | omega)
    have hM := Mw_i h hq hl ho
    have e1 : rxl (pkl off (L :: r)) (pp t q (e - q).toNat) k = if Pw off L = pp t q (e - q).toNat then k else rxl (pkl (off + L + 1) r) (pp t q (e - q).toNat) (k + 1) := rfl
    rw [G12_wordAt_5, if_neg (by first | decide | omega), e1]
    have e18 := r_wl18 (k := k) (off := off) (L := L) h hq ho (kk := fun m x1 x2 x3 x4 => G12_wordAt_5 n m x1 x2 x3 x4) L 1024 0 (by first | decide | omega) (by first | decide | omega) (by first | decide | omega)
    have e18' : G12_wordAt_18 (fun m x1 x2 x3 x4 => G12_wordAt_5 n m x1 x2 x3 x4) 1024 v q e k off 0 = if (L : Int) = e - q then G12_wordAt_57 (fun m x1 x2 x3 x4 => G12_wordAt_5 n m x1 x2 x3 x4) 1024 v q e k off L 1 0 else G12_wordAt_57 (fun m x1 x2 x3 x4 => G12_wordAt_5 n m x1 x2 x3 x4) 1024 v q e k off L 0 0 := e18
    rw [e18']
    by_cases c : (L : Int) = e - q
    · obtain ⟨w1, w2⟩ := r_wl57 (v := v) (k := k) (off := off) (L := L) ⟨hq.1, by first | decide | omega⟩ (by first | decide | omega) o3 c.symm (kk := fun m x1 x2 x3 x4 => G12_wordAt_5 n m x1 x2 x3 x4) L 1024 0 (by first | decide | omega) (by first | decide | omega) (by first | decide | omega)
      rw [if_pos c, if_pos (show e - q ≤ 6 by first | decide | omega)]
      by_cases c2 : ∀ i : Nat, 0 ≤ i → i < L → v 2 (off + i : Nat) = v 1 (q + i)
      · have := w1 c2
        have hm := (hM.mp ⟨c.symm, fun i hi => c2 i (by first | decide | omega) hi⟩).2
        rw [if_pos hm]
        exact this
      · have := w2 c2
        have hm : ¬ Pw off L = pp t q (e - q).toNat := fun hp => c2 (fun i _ hi => (hM.mpr ⟨by first | decide | omega, hp⟩).2 i hi)
        rw [if_neg hm]
        rw [if_pos (show e - q ≤ 6 by first | decide | omega)] at nxt
        exact this.trans nxt
    · rw [if_neg c]
      have hm : e - q ≤ 6 → ¬ Pw off L = pp t q (e - q).toNat := fun h6 hp => c (hM.mpr ⟨h6, hp⟩).1.symm
      have e104 : G12_wordAt_57 (fun m x1 x2 x3 x4 => G12_wordAt_5 n m x1 x2 x3 x4) 1024 v q e k off L 0 0 = G12_wordAt_5 n v q e (k + 1) (off + L + 1 : Nat) := by
        rw [G12_wordAt_57, if_neg (by first | decide | omega), if_pos rfl]
        unfold G12_wordAt_104
        rw [if_pos rfl, gd3_t (by first | decide | omega), gd3_t (by first | decide | omega), show (off : Int) + ((L : Int) + 1) = ((off + L + 1 : Nat) : Int) by first | decide | omega]
      rw [e104, nxt]
      by_cases c6 : e - q ≤ 6
      · rw [if_pos c6, if_pos c6, if_neg (hm c6)]
      · rw [if_neg c6, if_neg c6]
end Q22
/-! Both read the same tokens. -/
section Q23
variable {m v : Mem} {t : Int → Int} {S : Int}
end Q23
