/-! The reference keeps what it has read, and begins. -/
section Q42
variable {m v : Mem} {S : Int} {D : Nat}
/-- where the kept text lies -/
def KT (b : Nat) (i : Int) : Prop := (b = 0 ∧ 12 ≤ i ∧ i ≤ 17) ∨ (b = 4 ∧ 0 ≤ i ∧ i < 7) ∨ ((5 ≤ b ∧ b ≤ 10) ∧ 0 ≤ i ∧ i < 5) ∨ (b = 11 ∧ 0 ≤ i ∧ i < 4) ∨ ((12 ≤ b ∧ b ≤ 14) ∧ 0 ≤ i ∧ i < 28) ∨ ((15 ≤ b ∧ b ≤ 17) ∧ 0 ≤ i ∧ i < 3) ∨ ((18 ≤ b ∧ b ≤ 20) ∧ 0 ≤ i ∧ i < 64)
theorem RLw.fr4 {u u' w : Mem} {k : Int} {a b : Nat} (h : RLw u w k a b) (hk : 0 ≤ k ∧ k < 3) (e : ∀ b i, KT b i → u' b i = u b i) : RLw u' w k a b := by
  obtain ⟨h1, h2, h3, h4⟩ := h
  unfold RLw
  rw [e 15 k (by unfold KT; omega), e 16 k (by unfold KT; omega), e 17 k (by unfold KT; omega)]
  refine ⟨h1, h2, h3, fun q => ?_⟩
  obtain ⟨g1, g2, g3, g4, g5⟩ := h4 q
  exact ⟨g1, g2, g3, g4, fun j z => (g5 j z).c (fun _ _ => rfl) (e 18 _ (by unfold KT; omega)) (e 19 _ (by unfold KT; omega)) (e 20 _ (by unfold KT; omega))⟩
theorem RT.fr2 {u u' w : Mem} (h : RT u w) (hS : WS w) (e : ∀ b i, KT b i → u' b i = u b i) : RT u' w := by
  unfold WS at hS
  obtain ⟨⟨a1, a2, a3, a4, a5, a6⟩, b, c, d, f, r1, r2, r3⟩ := h
  refine ⟨?_, ?_, fun i p q => ?_, fun i p q => ?_, fun i p q => ?_, r1.fr4 (by omega) e, r2.fr4 (by omega) e, r3.fr4 (by omega) e⟩
  · rw [e 0 12 (by unfold KT; omega), e 0 13 (by unfold KT; omega), e 0 14 (by unfold KT; omega), e 0 15 (by unfold KT; omega), e 0 16 (by unfold KT; omega), e 0 17 (by unfold KT; omega)]
    exact ⟨a1, a2, a3, a4, a5, a6⟩
  · rw [e 4 0 (by unfold KT; omega), e 4 1 (by unfold KT; omega), e 4 2 (by unfold KT; omega), e 4 3 (by unfold KT; omega), e 4 4 (by unfold KT; omega), e 4 5 (by unfold KT; omega), e 4 6 (by unfold KT; omega)]
    exact b
  · rw [e 5 i (by unfold KT; omega), e 6 i (by unfold KT; omega), e 7 i (by unfold KT; omega), e 8 i (by unfold KT; omega), e 9 i (by unfold KT; omega), e 10 i (by unfold KT; omega)]
    exact c i p q
  · rw [e 11 i (by unfold KT; omega)]; exact d i p q
  · rw [e 12 i (by unfold KT; omega), e 13 i (by unfold KT; omega), e 14 i (by unfold KT; omega)]; exact f i p q
theorem r_cop2 {a : Nat} {n : Int} (hn : 0 ≤ n ∧ n ≤ 64) (hl : lnM a = 2 * n) : ∀ (d k : Nat) (x : Int) (v : Mem), (n - x).toNat = d → d < k → 0 ≤ x → ∃ v', G12_copies_2 k v a n x = some v' ∧ Fm (fun b i => b = a ∧ x ≤ i ∧ i < n) v v' ∧ ∀ i, x ≤ i → i < n → v' a i = v a (n + i) := by
  intro d
  induction d with
  | zero =>
    intro k x v h1 h2 h3
    obtain ⟨k, rfl⟩ : ∃ j, k = j + 1 := ⟨k - 1, by omega⟩
    rw [G12_copies_2, if_pos (by omega)]
    exact ⟨v, rfl, Fm.rf, fun i a b => by omega⟩
  | succ d ih =>
    intro k x v h1 h2 h3
    obtain ⟨k, rfl⟩ : ∃ j, k = j + 1 := ⟨k - 1, by omega⟩
    rw [G12_copies_2, if_neg (by omega), hl, gdx_t (by omega), gdx_t (by omega), wt_e, gd3_t (by omega)]
    obtain ⟨v', e, f, g⟩ := ih k (x + 1) (up v a x (v a (n + x))) (by omega) (by omega) (by omega)
    refine ⟨v', e, (Fm.w1 (by omega)).tr (f.mono (by intro b i q; omega)), fun i z1 z2 => ?_⟩
    by_cases c : i = x
    · rw [c, f a x (by omega), up_e]
    · rw [g i (by omega) z2, up_i (by omega)]
theorem r_cop {a : Nat} {n : Int} (v : Mem) (hn : 0 ≤ n ∧ n ≤ 64) (hl : lnM a = 2 * n) : ∃ v', G12_copies v a n = some v' ∧ Fm (fun b i => b = a ∧ 0 ≤ i ∧ i < n) v v' ∧ ∀ i, 0 ≤ i → i < n → v' a i = v a (n + i) := r_cop2 hn hl n.toNat 1024 0 v (by omega) (by omega) (by omega)
theorem ln_4 : lnM 4 = 2 * 7 := by decide
theorem ln_5 : lnM 5 = 2 * 5 ∧ lnM 6 = 2 * 5 ∧ lnM 7 = 2 * 5 ∧ lnM 8 = 2 * 5 ∧ lnM 9 = 2 * 5 ∧ lnM 10 = 2 * 5 := by decide
theorem ln_11 : lnM 11 = 2 * 4 ∧ lnM 12 = 2 * 28 ∧ lnM 13 = 2 * 28 ∧ lnM 14 = 2 * 28 := by decide
theorem ln_16 : lnM 16 = 2 * 3 ∧ lnM 17 = 2 * 3 ∧ lnM 18 = 2 * 64 ∧ lnM 19 = 2 * 64 ∧ lnM 20 = 2 * 64 := by decide
/-- what is kept so far: rows below c, and the numbers -/
def KD (c : Nat) (v0 v : Mem) : Prop := (∀ b i, KT b i → b < c → v b i = kd v0 b i) ∧ Fm (fun b i => KT b i ∧ b < c) v0 v
theorem KD.cop {c : Nat} {n : Int} {v0 v v' : Mem} (h : KD c v0 v) (hc : 4 ≤ c ∧ c ≤ 20) (hn : ∀ i, KT c i ↔ 0 ≤ i ∧ i < n) (hs : ∀ i, sh c i = n + i) (f : Fm (fun b i => b = c ∧ 0 ≤ i ∧ i < n) v v') (g : ∀ i, 0 ≤ i → i < n → v' c i = v c (n + i)) : KD (c + 1) v0 v' := by
  obtain ⟨h1, h2⟩ := h
  refine ⟨fun b i z1 z2 => ?_, (h2.mono (fun b i q => ⟨q.1, by omega⟩)).tr (f.mono (fun b i q => ⟨by rw [q.1]; exact (hn i).mpr q.2, by omega⟩))⟩
  by_cases c1 : b = c
  · subst c1
    have hi := (hn i).mp z1
    rw [g i hi.1 hi.2]
    show v b (n + i) = v0 b (sh b i)
    rw [hs, h2 b _ (fun q => by omega)]
  · rw [f b i (by omega)]; exact h1 b i z1 (by omega)
theorem r_k142 {v0 : Mem} (hb : ∀ i, 3 ≤ i → i < 6 → v0 15 i = 0 ∨ v0 15 i = 1) : ∀ (d k : Nat) (x : Int) (v : Mem), (3 - x).toNat = d → d < k → 0 ≤ x → (∀ i, 3 ≤ i → v 15 i = v0 15 i) → ∃ v', G12_keepText_142 k v x = (G12_copies v' 16 3).bind (fun o4 => (G12_copies o4 17 3).bind fun o8 => (G12_copies o8 18 64).bind fun o12 => (G12_copies o12 19 64).bind fun o16 => (G12_copies o16 20 64).bind fun o20 => (G12_begin o20).bind fun o22 => some o22) ∧ Fm (fun b i => b = 15 ∧ x ≤ i ∧ i < 3) v v' ∧ ∀ i, x ≤ i → i < 3 → v' 15 i = v0 15 (3 + i) := by
  intro d
  induction d with
  | zero =>
    intro k x v h1 h2 h3 h4
    obtain ⟨k, rfl⟩ : ∃ j, k = j + 1 := ⟨k - 1, by omega⟩
    rw [G12_keepText_142, if_pos (by omega)]
    exact ⟨v, rfl, Fm.rf, fun i a b => by omega⟩
  | succ d ih =>
    intro k x v h1 h2 h3 h4
    obtain ⟨k, rfl⟩ : ∃ j, k = j + 1 := ⟨k - 1, by omega⟩
    have hx := hb (3 + x) (by omega) (by omega)
    rw [G12_keepText_142, if_neg (by omega), gdx_t (by omega), gdx_t (by omega), h4 (3 + x) (by omega), gdb_t (by omega), wt_e, gd3_t (by omega)]
    obtain ⟨v', e, f, g⟩ := ih k (x + 1) (up v 15 x (v0 15 (3 + x))) (by omega) (by omega) (by omega) (fun i z => by rw [up_i (by omega)]; exact h4 i z)
    refine ⟨v', e, (Fm.w1 (by omega)).tr (f.mono (by intro b i q; omega)), fun i z1 z2 => ?_⟩
    by_cases c : i = x
    · rw [c, f 15 x (by omega), up_e]
    · exact g i (by omega) z2
theorem r_keep {v0 : Mem} (hb : ∀ i, 3 ≤ i → i < 6 → v0 15 i = 0 ∨ v0 15 i = 1) : ∃ v', G12_keepText v0 = (G12_begin v').bind (fun o => some o) ∧ KD 21 v0 v' := by
  have k4 : ∀ i, KT 4 i ↔ 0 ≤ i ∧ i < 7 := fun i => by unfold KT; omega
  have k5 : ∀ (b : Nat) i, 5 ≤ b ∧ b ≤ 10 → (KT b i ↔ 0 ≤ i ∧ i < 5) := fun b i z => by unfold KT; omega
  have k11 : ∀ i, KT 11 i ↔ 0 ≤ i ∧ i < 4 := fun i => by unfold KT; omega
  have k12 : ∀ (b : Nat) i, 12 ≤ b ∧ b ≤ 14 → (KT b i ↔ 0 ≤ i ∧ i < 28) := fun b i z => by unfold KT; omega
  have k15 : ∀ (b : Nat) i, 15 ≤ b ∧ b ≤ 17 → (KT b i ↔ 0 ≤ i ∧ i < 3) := fun b i z => by unfold KT; omega
  have k18 : ∀ (b : Nat) i, 18 ≤ b ∧ b ≤ 20 → (KT b i ↔ 0 ≤ i ∧ i < 64) := fun b i z => by unfold KT; omega
  unfold G12_keepText G12_keepText_0
  rw [wt_e, wt_e, up_i (by omega), wt_e, up_i (by omega), up_i (by omega), wt_e, up_i (by omega), up_i (by omega), up_i (by omega), wt_e, up_i (by omega), up_i (by omega), up_i (by omega), up_i (by omega), wt_e, up_i (by omega), up_i (by omega), up_i (by omega), up_i (by omega), up_i (by omega)]
  have d0 : KD 4 v0 (up (up (up (up (up (up v0 0 12 (v0 0 18)) 0 13 (v0 0 19)) 0 14 (v0 0 20)) 0 15 (v0 0 21)) 0 16 (v0 0 22)) 0 17 (v0 0 23)) := by
    refine ⟨fun b i z1 z2 => ?_, (((((Fm.w1 (by unfold KT; omega)).w (by unfold KT; omega)).w (by unfold KT; omega)).w (by unfold KT; omega)).w (by unfold KT; omega)).w (by unfold KT; omega)⟩
    have hb0 : b = 0 := by unfold KT at z1; omega
    subst hb0
    rcases (show i = 12 ∨ i = 13 ∨ i = 14 ∨ i = 15 ∨ i = 16 ∨ i = 17 by unfold KT at z1; omega) with e | e | e | e | e | e <;> subst e
    · rw [up_i (by omega), up_i (by omega), up_i (by omega), up_i (by omega), up_i (by omega), up_e]; rfl
    · rw [up_i (by omega), up_i (by omega), up_i (by omega), up_i (by omega), up_e]; rfl
    · rw [up_i (by omega), up_i (by omega), up_i (by omega), up_e]; rfl
    · rw [up_i (by omega), up_i (by omega), up_e]; rfl
    · rw [up_i (by omega), up_e]; rfl
    · rw [up_e]; rfl
  generalize up (up (up (up (up (up v0 0 12 (v0 0 18)) 0 13 (v0 0 19)) 0 14 (v0 0 20)) 0 15 (v0 0 21)) 0 16 (v0 0 22)) 0 17 (v0 0 23) = u0 at d0 ⊢
  obtain ⟨u1, a1, b1, c1⟩ := r_cop (a := 4) (n := 7) u0 (by omega) ln_4
  have d1 := d0.cop (by omega) k4 (fun i => rfl) b1 c1
  rw [a1, bs1]
  obtain ⟨u2, a2, b2, c2⟩ := r_cop (a := 5) (n := 5) u1 (by omega) ln_5.1
  have d2 := d1.cop (by omega) (fun i => k5 5 i (by omega)) (fun i => rfl) b2 c2
  rw [a2, bs1]
  obtain ⟨u3, a3, b3, c3⟩ := r_cop (a := 6) (n := 5) u2 (by omega) ln_5.2.1
  have d3 := d2.cop (by omega) (fun i => k5 6 i (by omega)) (fun i => rfl) b3 c3
  rw [a3, bs1]
  obtain ⟨u4, a4, b4, c4⟩ := r_cop (a := 7) (n := 5) u3 (by omega) ln_5.2.2.1
  have d4 := d3.cop (by omega) (fun i => k5 7 i (by omega)) (fun i => rfl) b4 c4
  rw [a4, bs1]
  obtain ⟨u5, a5, b5, c5⟩ := r_cop (a := 8) (n := 5) u4 (by omega) ln_5.2.2.2.1
  have d5 := d4.cop (by omega) (fun i => k5 8 i (by omega)) (fun i => rfl) b5 c5
  rw [a5, bs1]
  obtain ⟨u6, a6, b6, c6⟩ := r_cop (a := 9) (n := 5) u5 (by omega) ln_5.2.2.2.2.1
  have d6 := d5.cop (by omega) (fun i => k5 9 i (by omega)) (fun i => rfl) b6 c6
  rw [a6, bs1]
  obtain ⟨u7, a7, b7, c7⟩ := r_cop (a := 10) (n := 5) u6 (by omega) ln_5.2.2.2.2.2
  have d7 := d6.cop (by omega) (fun i => k5 10 i (by omega)) (fun i => rfl) b7 c7
  rw [a7, bs1]
  obtain ⟨u8, a8, b8, c8⟩ := r_cop (a := 11) (n := 4) u7 (by omega) ln_11.1
  have d8 := d7.cop (by omega) k11 (fun i => rfl) b8 c8
  rw [a8, bs1]
  obtain ⟨u9, a9, b9, c9⟩ := r_cop (a := 12) (n := 28) u8 (by omega) ln_11.2.1
  have d9 := d8.cop (by omega) (fun i => k12 12 i (by omega)) (fun i => rfl) b9 c9
  rw [a9, bs1]
  obtain ⟨ua, aa, ba, ca⟩ := r_cop (a := 13) (n := 28) u9 (by omega) ln_11.2.2.1
  have da := d9.cop (by omega) (fun i => k12 13 i (by omega)) (fun i => rfl) ba ca
  rw [aa, bs1]
  obtain ⟨ub, ab, bb, cb⟩ := r_cop (a := 14) (n := 28) ua (by omega) ln_11.2.2.2
  have db := da.cop (by omega) (fun i => k12 14 i (by omega)) (fun i => rfl) bb cb
  rw [ab, bs1]
  obtain ⟨uc, ac, bc, cc⟩ := r_k142 hb 3 1024 0 ub (by omega) (by omega) (by omega) (fun i z => db.2 15 i (fun q => by omega))
  have dc : KD 16 v0 uc := db.cop (c := 15) (n := 3) (by omega) (fun i => k15 15 i (by omega)) (fun i => rfl) bc (fun i z1 z2 => by rw [cc i z1 z2, db.2 15 (3 + i) (fun q => by omega)])
  rw [ac]
  obtain ⟨ud, ad, bd, cd⟩ := r_cop (a := 16) (n := 3) uc (by omega) ln_16.1
  have dd := dc.cop (by omega) (fun i => k15 16 i (by omega)) (fun i => rfl) bd cd
  rw [ad, bs1]
  obtain ⟨ue, ae, be, ce⟩ := r_cop (a := 17) (n := 3) ud (by omega) ln_16.2.1
  have de := dd.cop (by omega) (fun i => k15 17 i (by omega)) (fun i => rfl) be ce
  rw [ae, bs1]
  obtain ⟨uf, af, bf, cf⟩ := r_cop (a := 18) (n := 64) ue (by omega) ln_16.2.2.1
  have df := de.cop (by omega) (fun i => k18 18 i (by omega)) (fun i => rfl) bf cf
  rw [af, bs1]
  obtain ⟨ug, ag, bg, cg⟩ := r_cop (a := 19) (n := 64) uf (by omega) ln_16.2.2.2.1
  have dg := df.cop (by omega) (fun i => k18 19 i (by omega)) (fun i => rfl) bg cg
  rw [ag, bs1]
  obtain ⟨uh, ah, bh, ch⟩ := r_cop (a := 20) (n := 64) ug (by omega) ln_16.2.2.2.2
  have dh := dg.cop (by omega) (fun i => k18 20 i (by omega)) (fun i => rfl) bh ch
  rw [ah, bs1]
  exact ⟨uh, rfl, dh⟩
end Q42
