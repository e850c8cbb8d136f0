section Q42
variable {m v : Mem} {S : Int} {D : Nat}
theorem r_keep {v0 : Mem} (hb : ∀ i, 3 ≤ i → i < 6 → v0 15 i = 0 ∨ v0 15 i = 1) : ∃ v', G12_keepText v0 = (G12_begin v').bind (fun o => some o) ∧ KD 21 v0 v' := by
  have k4 : ∀ i, KT 4 i ↔ 0 ≤ i ∧ i < 7 := fun i => by unfold KT; omega
  have k5 : ∀ (b : Nat) i, 5 ≤ b ∧ b ≤ 10 → (KT b i ↔ 0 ≤ i ∧ i < 5) := fun b i z => by unfold KT; omega
  have k11 : ∀ i, KT 11 i ↔ 0 ≤ i ∧ i < 4 := fun i => by unfold KT; omega
  have k12 : ∀ (b : Nat) i, 12 ≤ b ∧ b ≤ 14 → (KT b i ↔ 0 ≤ i ∧ i < 28) := fun b i z => by unfold KT; omega
  have k15 : ∀ (b : Nat) i, 15 ≤ b ∧ b ≤ 17 → (KT b i ↔ 0 ≤ i ∧ i < 3) := fun b i z => by unfold KT; omega
  have k18 : ∀ (b : Nat) i, 18 ≤ b ∧ b ≤ 20 → (KT b i ↔ 0 ≤ i ∧ i < 64) := fun b i z => by unfold KT; omega
  unfold G12_keepText G12_keepText_0
  rw [wt_e, wt_e, up_i (by first | decide | omega), wt_e, up_i (by first | decide | omega), up_i (by first | decide | omega), wt_e, up_i (by first | decide | omega), up_i (by first | decide | omega), up_i (by first | decide | omega), wt_e, up_i (by first | decide | omega), up_i (by first | decide | omega), up_i (by first | decide | omega), up_i (by first | decide | omega), wt_e, up_i (by first | decide | omega), up_i (by first | decide | omega), up_i (by first | decide | omega), up_i (by first | decide | omega), up_i (by first | decide | omega)]
  have d0 : KD 4 v0 (up (up (up (up (up (up v0 0 12 (v0 0 18)) 0 13 (v0 0 19)) 0 14 (v0 0 20)) 0 15 (v0 0 21)) 0 16 (v0 0 22)) 0 17 (v0 0 23)) := by
    refine ⟨fun b i z1 z2 => ?_, (((((Fm.w1 (by unfold KT; first | decide | omega)).w (by unfold KT; first | decide | omega)).w (by unfold KT; first | decide | omega)).w (by unfold KT; first | decide | omega)).w (by unfold KT; first | decide | omega)).w (by unfold KT; first | decide | omega)⟩
    have hb0 : b = 0 := by unfold KT at z1; omega
    subst hb0
    rcases (show i = 12 ∨ i = 13 ∨ i = 14 ∨ i = 15 ∨ i = 16 ∨ i = 17 by unfold KT at z1; first | decide | omega) with e | e | e | e | e | e <;> subst e
    · rw [up_i (by first | decide | omega), up_i (by first | decide | omega), up_i (by first | decide | omega), up_i (by first | decide | omega), up_i (by first | decide | omega), up_e]; rfl
    · rw [up_i (by first | decide | omega), up_i (by first | decide | omega), up_i (by first | decide | omega), up_i (by first | decide | omega), up_e]; rfl
    · rw [up_i (by first | decide | omega), up_i (by first | decide | omega), up_i (by first | decide | omega), up_e]; rfl
    · rw [up_i (by first | decide | omega), up_i (by first | decide | omega), up_e]; rfl
    · rw [up_i (by first | decide | omega), up_e]; rfl
    · rw [up_e]; rfl
  generalize up (up (up (up (up (up v0 0 12 (v0 0 18)) 0 13 (v0 0 19)) 0 14 (v0 0 20)) 0 15 (v0 0 21)) 0 16 (v0 0 22)) 0 17 (v0 0 23) = u0 at d0 ⊢
  obtain ⟨u1, a1, b1, c1⟩ := r_cop (a := 4) (n := 7) u0 (by first | decide | omega) ln_4
  have d1 := d0.cop (by first | decide | omega) k4 (fun i => rfl) b1 c1
  rw [a1, bs1]
  obtain ⟨u2, a2, b2, c2⟩ := r_cop (a := 5) (n := 5) u1 (by first | decide | omega) ln_5.1
  have d2 := d1.cop (by first | decide | omega) (fun i => k5 5 i (by first | decide | omega)) (fun i => rfl) b2 c2
  rw [a2, bs1]
  obtain ⟨u3, a3, b3, c3⟩ := r_cop (a := 6) (n := 5) u2 (by first | decide | omega) ln_5.2.1
  have d3 := d2.cop (by first | decide | omega) (fun i => k5 6 i (by first | decide | omega)) (fun i => rfl) b3 c3
  rw [a3, bs1]
  obtain ⟨u4, a4, b4, c4⟩ := r_cop (a := 7) (n := 5) u3 (by first | decide | omega) ln_5.2.2.1
  have d4 := d3.cop (by first | decide | omega) (fun i => k5 7 i (by first | decide | omega)) (fun i => rfl) b4 c4
  rw [a4, bs1]
  obtain ⟨u5, a5, b5, c5⟩ := r_cop (a := 8) (n := 5) u4 (by first | decide | omega) ln_5.2.2.2.1
  have d5 := d4.cop (by first | decide | omega) (fun i => k5 8 i (by first | decide | omega)) (fun i => rfl) b5 c5
  rw [a5, bs1]
  obtain ⟨u6, a6, b6, c6⟩ := r_cop (a := 9) (n := 5) u5 (by first | decide | omega) ln_5.2.2.2.2.1
  have d6 := d5.cop (by first | decide | omega) (fun i => k5 9 i (by first | decide | omega)) (fun i => rfl) b6 c6
  rw [a6, bs1]
  obtain ⟨u7, a7, b7, c7⟩ := r_cop (a := 10) (n := 5) u6 (by first | decide | omega) ln_5.2.2.2.2.2
  have d7 := d6.cop (by first | decide | omega) (fun i => k5 10 i (by first | decide | omega)) (fun i => rfl) b7 c7
  rw [a7, bs1]
  obtain ⟨u8, a8, b8, c8⟩ := r_cop (a := 11) (n := 4) u7 (by first | decide | omega) ln_11.1
  have d8 := d7.cop (by first | decide | omega) k11 (fun i => rfl) b8 c8
  rw [a8, bs1]
  obtain ⟨u9, a9, b9, c9⟩ := r_cop (a := 12) (n := 28) u8 (by first | decide | omega) ln_11.2.1
  have d9 := d8.cop (by first | decide | omega) (fun i => k12 12 i (by first | decide | omega)) (fun i => rfl) b9 c9
  rw [a9, bs1]
  obtain ⟨ua, aa, ba, ca⟩ := r_cop (a := 13) (n := 28) u9 (by first | decide | omega) ln_11.2.2.1
  have da := d9.cop (by first | decide | omega) (fun i => k12 13 i (by first | decide | omega)) (fun i => rfl) ba ca
  rw [aa, bs1]
  obtain ⟨ub, ab, bb, cb⟩ := r_cop (a := 14) (n := 28) ua (by first | decide | omega) ln_11.2.2.2
  have db := da.cop (by first | decide | omega) (fun i => k12 14 i (by first | decide | omega)) (fun i => rfl) bb cb
  rw [ab, bs1]
  obtain ⟨uc, ac, bc, cc⟩ := r_k142 hb 3 1024 0 ub (by first | decide | omega) (by first | decide | omega) (by first | decide | omega) (fun i z => db.2 15 i (fun q => by first | decide | omega))
  have dc : KD 16 v0 uc := db.cop (c := 15) (n := 3) (by first | decide | omega) (fun i => k15 15 i (by first | decide | omega)) (fun i => rfl) bc (fun i z1 z2 => by rw [cc i z1 z2, db.2 15 (3 + i) (fun q => by first | decide | omega)])
  rw [ac]
  obtain ⟨ud, ad, bd, cd⟩ := r_cop (a := 16) (n := 3) uc (by first | decide | omega) ln_16.1
  have dd := dc.cop (by first | decide | omega) (fun i => k15 16 i (by first | decide | omega)) (fun i => rfl) bd cd
  rw [ad, bs1]
  obtain ⟨ue, ae, be, ce⟩ := r_cop (a := 17) (n := 3) ud (by first | decide | omega) ln_16.2.1
  have de := dd.cop (by first | decide | omega) (fun i => k15 17 i (by first | decide | omega)) (fun i => rfl) be ce
  rw [ae, bs1]
  obtain ⟨uf, af, bf, cf⟩ := r_cop (a := 18) (n := 64) ue (by first | decide | omega) ln_16.2.2.1
  have df := de.cop (by first | decide | omega) (fun i => k18 18 i (by first | decide | omega)) (fun i => rfl) bf cf
  rw [af, bs1]
  obtain ⟨ug, ag, bg, cg⟩ := r_cop (a := 19) (n := 64) uf (by first | decide | omega) ln_16.2.2.2.1
  have dg := df.cop (by first | decide | omega) (fun i => k18 19 i (by first | decide | omega)) (fun i => rfl) bg cg
  rw [ag, bs1]
  obtain ⟨uh, ah, bh, ch⟩ := r_cop (a := 20) (n := 64) ug (by first | decide | omega) ln_16.2.2.2.2
  have dh := dg.cop (by first | decide | omega) (fun i => k18 20 i (by first | decide | omega)) (fun i => rfl) bh ch
  rw [ah, bs1]
  exact ⟨uh, rfl, dh⟩
end Q42
