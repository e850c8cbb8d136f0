/-! Both begin anew with a text. -/
section Q43
variable {m v w : Mem} {S : Int} {D : Nat}
theorem c_t47 (hDD : D = 2 ∨ D = 24) (hW : WW w) : ∀ (d k : Nat) (x : Int) (m : Mem), (w 8 1 - x).toNat = d → d < k → 0 ≤ x → m 51 0 = (D : Int) → TX m D w → ∃ m', G6_takeAsTold_47 k m 51 x = some m' ∧ Fm (fun b i => (b = 54 ∧ x ≤ i) ∨ b = 55 ∨ b = 56) m m' ∧ ∀ i, x ≤ i → i < w 8 1 → m' 54 i = pkX w (w 11 i) := by
  have hs : w 8 1 ≤ 28 := by have := hW.1; unfold WS at this; omega
  intro d
  induction d with
  | zero =>
    intro k x m h1 h2 h3 h4 h5
    obtain ⟨k, rfl⟩ : ∃ j, k = j + 1 := ⟨k - 1, by omega⟩
    rw [G6_takeAsTold_47, h4, Int.toNat_natCast, h5.2.2 8 1 (by omega), if_pos (by omega)]
    exact ⟨m, rfl, Fm.rf, fun i a b => by omega⟩
  | succ d ih =>
    intro k x m h1 h2 h3 h4 h5
    obtain ⟨k, rfl⟩ : ∃ j, k = j + 1 := ⟨k - 1, by omega⟩
    have hv := (hW.2.2.2.1 x h3 (by omega)).2.1
    have hcx : CX m 51 D w (sl 3 m 51) := ⟨h5, Or.inl rfl, h4, fun c i _ h => (sl_e h i).symm⟩
    obtain ⟨m1, e1, f1⟩ := g_pkX hcx hW (mn := w 11 x) (by omega)
    rw [G6_takeAsTold_47, h4, Int.toNat_natCast, h5.2.2 8 1 (by omega), if_neg (by omega), gdx_t (by omega), h5.2.2 11 x (by omega), e1, bs1, gdx_t (by omega), wt_e, gd3_t (by omega)]
    have f2 : Fm (fun b i => (b = 54 ∧ x ≤ i) ∨ b = 55 ∨ b = 56) m (up m1 54 x (pkX w (w 11 x))) := ((f1.fm).mono (by intro b i q; unfold PN at q; omega)).w (by omega)
    obtain ⟨m', e, f, g⟩ := ih k (x + 1) (up m1 54 x (pkX w (w 11 x))) (by omega) (by omega) (by omega) (by rw [f2 51 0 (by omega)]; exact h4) ⟨hDD, fun i => by rw [f2 D i (by omega)]; exact h5.2.1 i, fun c i hc => by rw [f2 (D + c) i (by omega)]; exact h5.2.2 c i hc⟩
    refine ⟨m', e, f2.tr (f.mono (by intro b i q; omega)), fun i z1 z2 => ?_⟩
    by_cases c : i = x
    · rw [c, f 54 x (by omega), up_e]
    · exact g i (by omega) z2
theorem c_told (hDD : D = 2 ∨ D = 24) (hW : WW (sl 21 m D)) : ∃ m', G6_takeAsTold m 51 D = some m' ∧ Fm (fun b i => 51 ≤ b ∧ b ≤ 56) m m' ∧ m' 51 0 = (D : Int) ∧ GE (sl 21 m D) (sl 3 m' 51) (gM (sl 21 m D) (-1)) := by
  unfold G6_takeAsTold G6_takeAsTold_0
  have hs := hW.1
  unfold WS at hs
  have e1 : up m 51 0 (D : Int) 51 0 = (D : Int) := up_e
  rw [wt_e, e1, Int.toNat_natCast, wt_e]
  have e2 : cpy (up m 51 0 (D : Int)) (D + 4) 0 (51 + 1) 0 5 51 0 = (D : Int) := by rw [cpy_a (by omega)]; exact e1
  rw [e2, Int.toNat_natCast, wt_e]
  have f0 : Fm (fun b i => 51 ≤ b ∧ b ≤ 53) m (cpy (cpy (up m 51 0 (D : Int)) (D + 4) 0 (51 + 1) 0 5) (D + 6) 0 (51 + 2) 0 5) := by
    intro b i q
    rw [cpy_a (by omega), cpy_a (by omega), up_a (by omega)]
  have k0 : cpy (cpy (up m 51 0 (D : Int)) (D + 4) 0 (51 + 1) 0 5) (D + 6) 0 (51 + 2) 0 5 51 0 = (D : Int) := by rw [cpy_a (by omega)]; exact e2
  have k1 : ∀ i, 0 ≤ i → i < 5 → cpy (cpy (up m 51 0 (D : Int)) (D + 4) 0 (51 + 1) 0 5) (D + 6) 0 (51 + 2) 0 5 52 i = m (D + 4) i := fun i z1 z2 => by
    rw [cpy_a (by omega)]
    have z : cpy (up m 51 0 (D : Int)) (D + 4) 0 (51 + 1) 0 5 52 i = up m 51 0 (D : Int) (D + 4) (0 + (i - 0)) := cpy_in (by omega)
    rw [z, up_a (by omega), show 0 + (i - 0) = i by omega]
  have k2 : ∀ i, 0 ≤ i → i < 5 → cpy (cpy (up m 51 0 (D : Int)) (D + 4) 0 (51 + 1) 0 5) (D + 6) 0 (51 + 2) 0 5 53 i = m (D + 6) i := fun i z1 z2 => by
    have z : cpy (cpy (up m 51 0 (D : Int)) (D + 4) 0 (51 + 1) 0 5) (D + 6) 0 (51 + 2) 0 5 53 i = cpy (up m 51 0 (D : Int)) (D + 4) 0 (51 + 1) 0 5 (D + 6) (0 + (i - 0)) := cpy_in (by omega)
    rw [z, cpy_a (by omega), up_a (by omega), show 0 + (i - 0) = i by omega]
  generalize cpy (cpy (up m 51 0 (D : Int)) (D + 4) 0 (51 + 1) 0 5) (D + 6) 0 (51 + 2) 0 5 = u at f0 k0 k1 k2 ⊢
  have ht : TX u D (sl 21 m D) := ⟨hDD, fun i => by rw [f0 D i (by omega)]; exact (sl_e (Nat.zero_le _) i).symm, fun c i hc => by rw [f0 (D + c) i (by omega)]; exact (sl_e hc i).symm⟩
  obtain ⟨m', e, f, g⟩ := c_t47 hDD hW (sl 21 m D 8 1).toNat 1024 0 u (by omega) (by omega) (by omega) k0 ht
  refine ⟨m', e, (f0.mono (by intro b i q; omega)).tr (f.mono (by intro b i q; omega)), by rw [f 51 0 (by omega)]; exact k0, fun i z1 z2 => ?_, fun k z1 z2 => ?_⟩
  · rw [sl_e (by omega), sl_e (by omega), f 52 i (by omega), f 53 i (by omega), k1 i z1 (by omega), k2 i z1 (by omega)]
    refine ⟨?_, ?_⟩
    · show m (D + 4) i = bdM (sl 21 m D) (-1) i
      unfold bdM
      rw [if_neg (by omega), sl_e (by omega)]
    · show m (D + 6) i = if (-1 : Int) = 0 then 0 else sl 21 m D 6 i
      rw [if_neg (by omega), sl_e (by omega)]
  · rw [sl_e (by omega), g k z1 z2]
    show _ = pxM (sl 21 m D) (-1) (sl 21 m D 11 k)
    unfold pxM
    rw [if_neg (by omega)]
theorem c_b89 : ∀ (d k : Nat) (x : Int) (m : Mem), (28 - x).toNat = d → d < k → 0 ≤ x → ∃ m', G4_begin_89 k m 69 x = some m' ∧ Fm (fun b i => b = 75 ∧ x ≤ i) m m' ∧ ∀ i, x ≤ i → i < 28 → m' 75 i = -2 := by
  intro d
  induction d with
  | zero =>
    intro k x m h1 h2 h3
    obtain ⟨k, rfl⟩ : ∃ j, k = j + 1 := ⟨k - 1, by omega⟩
    rw [G4_begin_89, if_pos (by omega)]
    exact ⟨m, rfl, Fm.rf, fun i a b => by omega⟩
  | succ d ih =>
    intro k x m h1 h2 h3
    obtain ⟨k, rfl⟩ : ∃ j, k = j + 1 := ⟨k - 1, by omega⟩
    rw [G4_begin_89, if_neg (by omega), gdx_t (by omega), wt_e, gd3_t (by omega)]
    obtain ⟨m', e, f, g⟩ := ih k (x + 1) (up m (69 + 6) x (-2)) (by omega) (by omega) (by omega)
    refine ⟨m', e, (Fm.w1 (by omega)).tr (f.mono (by intro b i q; omega)), fun i z1 z2 => ?_⟩
    by_cases c : i = x
    · rw [c, f 75 x (by omega)]; exact up_e
    · exact g i (by omega) z2
theorem c_b33 (hDD : D = 2 ∨ D = 24) : ∀ (d k : Nat) (x : Int) (m : Mem), (5 - x).toNat = d → d < k → 0 ≤ x → ∃ m', G4_begin_33 k m 69 D x = some m' ∧ Fm (fun b i => ((70 ≤ b ∧ b ≤ 74) ∧ x ≤ i) ∨ b = 75) m m' ∧ (∀ i, x ≤ i → i < 5 → m' 70 i = m (D + 3) i ∧ m' 71 i = 0 ∧ m' 72 i = 0 ∧ m' 73 i = 0 ∧ m' 74 i = 0) ∧ ∀ i, 0 ≤ i → i < 28 → m' 75 i = -2 := by
  intro d
  induction d with
  | zero =>
    intro k x m h1 h2 h3
    obtain ⟨k, rfl⟩ : ∃ j, k = j + 1 := ⟨k - 1, by omega⟩
    rw [G4_begin_33, if_pos (by omega)]
    obtain ⟨m', e, f, g⟩ := c_b89 28 1024 0 m (by omega) (by omega) (by omega)
    exact ⟨m', e, f.mono (by intro b i q; omega), fun i a b => by omega, g⟩
  | succ d ih =>
    intro k x m h1 h2 h3
    obtain ⟨k, rfl⟩ : ∃ j, k = j + 1 := ⟨k - 1, by omega⟩
    rw [G4_begin_33, if_neg (by omega), gdx_t (by omega), gdx_t (by omega), wt_e, gdx_t (by omega), wt_e, gdx_t (by omega), wt_e, gdx_t (by omega), wt_e, gdx_t (by omega), wt_e, gd3_t (by omega)]
    obtain ⟨m', e, f, g, h⟩ := ih k (x + 1) (up (up (up (up (up m (69 + 1) x (m (D + 3) x)) (69 + 2) x 0) (69 + 3) x 0) (69 + 4) x 0) (69 + 5) x 0) (by omega) (by omega) (by omega)
    refine ⟨m', e, (((((Fm.w1 (by omega)).w (by omega)).w (by omega)).w (by omega)).w (by omega)).tr (f.mono (by intro b i q; omega)), fun i z1 z2 => ?_, h⟩
    by_cases c : i = x
    · rw [c, f 70 x (by omega), f 71 x (by omega), f 72 x (by omega), f 73 x (by omega), f 74 x (by omega)]
      refine ⟨?_, ?_, ?_, ?_, ?_⟩
      · rw [up_a (by omega), up_a (by omega), up_a (by omega), up_a (by omega)]; exact up_e
      · rw [up_a (by omega), up_a (by omega), up_a (by omega)]; exact up_e
      · rw [up_a (by omega), up_a (by omega)]; exact up_e
      · rw [up_a (by omega)]; exact up_e
      · exact up_e
    · obtain ⟨y1, y2⟩ := g i (by omega) z2
      refine ⟨?_, y2⟩
      rw [y1, up_a (by omega), up_a (by omega), up_a (by omega), up_a (by omega), up_a (by omega)]
theorem c_begn (hDD : D = 2 ∨ D = 24) : ∃ m', G4_begin m 69 D = some m' ∧ Fm (fun b i => 69 ≤ b ∧ b ≤ 75) m m' ∧ (m' 69 0 = 0 ∧ m' 69 1 = m D 9 ∧ m' 69 2 = m D 10 ∧ m' 69 3 = 0 ∧ m' 69 4 = 0) ∧ (∀ i, 0 ≤ i → i < 5 → m' 70 i = m (D + 3) i ∧ m' 71 i = 0 ∧ m' 72 i = 0 ∧ m' 73 i = 0 ∧ m' 74 i = 0) ∧ ∀ i, 0 ≤ i → i < 28 → m' 75 i = -2 := by
  unfold G4_begin G4_begin_0
  rw [wt_e, up_a (by omega), wt_e, up_a (by omega), up_a (by omega), wt_e, wt_e, wt_e]
  have f0 : Fm (fun b i => b = 69) m (up (up (up (up (up m 69 0 0) 69 1 (m D 9)) 69 2 (m D 10)) 69 3 0) 69 4 0) := ((((Fm.w1 rfl).w rfl).w rfl).w rfl).w rfl
  have k0 : up (up (up (up (up m 69 0 0) 69 1 (m D 9)) 69 2 (m D 10)) 69 3 0) 69 4 0 69 0 = 0 := by rw [up_i (by omega), up_i (by omega), up_i (by omega), up_i (by omega), up_e]
  have k1 : up (up (up (up (up m 69 0 0) 69 1 (m D 9)) 69 2 (m D 10)) 69 3 0) 69 4 0 69 1 = m D 9 := by rw [up_i (by omega), up_i (by omega), up_i (by omega), up_e]
  have k2 : up (up (up (up (up m 69 0 0) 69 1 (m D 9)) 69 2 (m D 10)) 69 3 0) 69 4 0 69 2 = m D 10 := by rw [up_i (by omega), up_i (by omega), up_e]
  have k3 : up (up (up (up (up m 69 0 0) 69 1 (m D 9)) 69 2 (m D 10)) 69 3 0) 69 4 0 69 3 = 0 := by rw [up_i (by omega), up_e]
  have k4 : up (up (up (up (up m 69 0 0) 69 1 (m D 9)) 69 2 (m D 10)) 69 3 0) 69 4 0 69 4 = 0 := up_e
  generalize up (up (up (up (up m 69 0 0) 69 1 (m D 9)) 69 2 (m D 10)) 69 3 0) 69 4 0 = u at f0 k0 k1 k2 k3 k4 ⊢
  obtain ⟨m', e, f, g, h⟩ := c_b33 hDD 5 1024 0 u (by omega) (by omega) (by omega)
  refine ⟨m', e, (f0.mono (by intro b i q; omega)).tr (f.mono (by intro b i q; omega)), ?_, fun i z1 z2 => ?_, h⟩
  · rw [f 69 0 (by omega), f 69 1 (by omega), f 69 2 (by omega), f 69 3 (by omega), f 69 4 (by omega)]
    exact ⟨k0, k1, k2, k3, k4⟩
  · obtain ⟨y1, y2⟩ := g i z1 z2
    exact ⟨by rw [y1, f0 (D + 3) i (by omega)], y2⟩
/-- where the reference's beginning writes -/
def QB : Nat → Int → Prop := fun b i => (b = 0 ∧ 64 ≤ i) ∨ ((25 ≤ b ∧ b ≤ 33))
theorem r_b60 : ∀ (d k : Nat) (x : Int) (v : Mem), (28 - x).toNat = d → d < k → 0 ≤ x → ∃ v', G12_begin_60 k v x = some v' ∧ Fm (fun b i => (b = 30 ∧ x ≤ i) ∨ (31 ≤ b ∧ b ≤ 33) ∨ (b = 0 ∧ 64 ≤ i)) v v' ∧ (∀ i, x ≤ i → i < 28 → v' 30 i = -2) ∧ (v' 31 0 = 0 ∧ v' 32 0 = 0 ∧ v' 33 0 = 0 ∧ v' 0 64 = v 4 5 ∧ v' 0 65 = v 4 6 ∧ v' 0 66 = -1 ∧ v' 0 74 = 0 ∧ v' 0 75 = -1 ∧ v' 0 78 = 0 ∧ v' 0 80 = 0) := by
  intro d
  induction d with
  | zero =>
    intro k x v h1 h2 h3
    obtain ⟨k, rfl⟩ : ∃ j, k = j + 1 := ⟨k - 1, by omega⟩
    rw [G12_begin_60, if_pos (by omega)]
    rw [wt_e, wt_e, wt_e, up_a (by omega), up_a (by omega), up_a (by omega), wt_e, up_a (by omega), up_a (by omega), up_a (by omega), up_a (by omega), wt_e, wt_e, wt_e, wt_e, wt_e, wt_e]
    refine ⟨_, rfl, (((((((((Fm.w1 (by omega)).w (by omega)).w (by omega)).w (by omega)).w (by omega)).w (by omega)).w (by omega)).w (by omega)).w (by omega)).w (by omega), fun i a b => by omega, ?_, ?_, ?_, ?_, ?_, ?_, ?_, ?_, ?_, ?_⟩
    · rw [up_a (by omega), up_a (by omega), up_a (by omega), up_a (by omega), up_a (by omega), up_a (by omega), up_a (by omega), up_a (by omega), up_a (by omega), up_e]
    · rw [up_a (by omega), up_a (by omega), up_a (by omega), up_a (by omega), up_a (by omega), up_a (by omega), up_a (by omega), up_a (by omega), up_e]
    · rw [up_a (by omega), up_a (by omega), up_a (by omega), up_a (by omega), up_a (by omega), up_a (by omega), up_a (by omega), up_e]
    · rw [up_i (by omega), up_i (by omega), up_i (by omega), up_i (by omega), up_i (by omega), up_i (by omega), up_e]
    · rw [up_i (by omega), up_i (by omega), up_i (by omega), up_i (by omega), up_i (by omega), up_e]
    · rw [up_i (by omega), up_i (by omega), up_i (by omega), up_i (by omega), up_e]
    · rw [up_i (by omega), up_i (by omega), up_i (by omega), up_e]
    · rw [up_i (by omega), up_i (by omega), up_e]
    · rw [up_i (by omega), up_e]
    · exact up_e
  | succ d ih =>
    intro k x v h1 h2 h3
    obtain ⟨k, rfl⟩ : ∃ j, k = j + 1 := ⟨k - 1, by omega⟩
    rw [G12_begin_60, if_neg (by omega), gdx_t (by omega), wt_e, gd3_t (by omega)]
    obtain ⟨v', e, f, g, h⟩ := ih k (x + 1) (up v 30 x (-2)) (by omega) (by omega) (by omega)
    rw [up_a (by omega), up_a (by omega)] at h
    refine ⟨v', e, (Fm.w1 (by omega)).tr (f.mono (by intro b i q; omega)), fun i z1 z2 => ?_, h⟩
    by_cases c : i = x
    · rw [c, f 30 x (by omega), up_e]
    · exact g i (by omega) z2
theorem r_b2 : ∀ (d k : Nat) (x : Int) (v : Mem), (5 - x).toNat = d → d < k → 0 ≤ x → ∃ v', G12_begin_2 k v x = some v' ∧ Fm (fun b i => ((25 ≤ b ∧ b ≤ 29) ∧ x ≤ i) ∨ (30 ≤ b ∧ b ≤ 33) ∨ (b = 0 ∧ 64 ≤ i)) v v' ∧ (∀ i, x ≤ i → i < 5 → v' 25 i = v 6 i ∧ v' 26 i = 0 ∧ v' 27 i = 0 ∧ v' 28 i = 0 ∧ v' 29 i = v 8 i) ∧ (∀ i, 0 ≤ i → i < 28 → v' 30 i = -2) ∧ (v' 31 0 = 0 ∧ v' 32 0 = 0 ∧ v' 33 0 = 0 ∧ v' 0 64 = v 4 5 ∧ v' 0 65 = v 4 6 ∧ v' 0 66 = -1 ∧ v' 0 74 = 0 ∧ v' 0 75 = -1 ∧ v' 0 78 = 0 ∧ v' 0 80 = 0) := by
  intro d
  induction d with
  | zero =>
    intro k x v h1 h2 h3
    obtain ⟨k, rfl⟩ : ∃ j, k = j + 1 := ⟨k - 1, by omega⟩
    rw [G12_begin_2, if_pos (by omega)]
    obtain ⟨v', e, f, g, h⟩ := r_b60 28 1024 0 v (by omega) (by omega) (by omega)
    exact ⟨v', e, f.mono (by intro b i q; omega), fun i a b => by omega, g, h⟩
  | succ d ih =>
    intro k x v h1 h2 h3
    obtain ⟨k, rfl⟩ : ∃ j, k = j + 1 := ⟨k - 1, by omega⟩
    rw [G12_begin_2, if_neg (by omega), gdx_t (by omega), gdx_t (by omega), wt_e, gdx_t (by omega), wt_e, gdx_t (by omega), wt_e, gdx_t (by omega), wt_e, gdx_t (by omega), gdx_t (by omega), wt_e, gd3_t (by omega)]
    have e8 : up (up (up (up v 25 x (v 6 x)) 26 x 0) 27 x 0) 28 x 0 8 x = v 8 x := by rw [up_a (by omega), up_a (by omega), up_a (by omega), up_a (by omega)]
    rw [e8]
    obtain ⟨v', e, f, g, h, h'⟩ := ih k (x + 1) (up (up (up (up (up v 25 x (v 6 x)) 26 x 0) 27 x 0) 28 x 0) 29 x (v 8 x)) (by omega) (by omega) (by omega)
    rw [up_a (by omega), up_a (by omega), up_a (by omega), up_a (by omega), up_a (by omega), up_a (by omega), up_a (by omega), up_a (by omega), up_a (by omega), up_a (by omega)] at h'
    refine ⟨v', e, (((((Fm.w1 (by omega)).w (by omega)).w (by omega)).w (by omega)).w (by omega)).tr (f.mono (by intro b i q; omega)), fun i z1 z2 => ?_, h, h'⟩
    by_cases c : i = x
    · rw [c, f 25 x (by omega), f 26 x (by omega), f 27 x (by omega), f 28 x (by omega), f 29 x (by omega)]
      refine ⟨?_, ?_, ?_, ?_, up_e⟩
      · rw [up_a (by omega), up_a (by omega), up_a (by omega), up_a (by omega), up_e]
      · rw [up_a (by omega), up_a (by omega), up_a (by omega), up_e]
      · rw [up_a (by omega), up_a (by omega), up_e]
      · rw [up_a (by omega), up_e]
    · obtain ⟨y1, y2, y3, y4, y5⟩ := g i (by omega) z2
      refine ⟨?_, y2, y3, y4, ?_⟩
      · rw [y1, up_a (by omega), up_a (by omega), up_a (by omega), up_a (by omega), up_a (by omega)]
      · rw [y5, up_a (by omega), up_a (by omega), up_a (by omega), up_a (by omega), up_a (by omega)]
end Q43
