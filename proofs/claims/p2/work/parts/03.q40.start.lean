/-! How reading begins on both sides; what a refused text leaves. -/
section Q40
variable {m v : Mem} {S : Int} {D : Nat}
def fgA (D : Nat) (m : Mem) : Mem := up (up (up (up (up (up (up (up (up (up (up (up m D 0 6) D 1 4) D 2 0) D 3 0) (D + 1) 0 0) (D + 8) 0 0) (D + 8) 1 0) D 6 0) D 7 0) D 8 0) D 9 0) D 10 0
def fgB (D : Nat) (m : Mem) : Mem := up (up (up (up (up (up (up (up m (D + 16) 1 0) (D + 16) 2 0) (D + 18) 1 0) (D + 18) 2 0) (D + 20) 1 0) (D + 20) 2 0) D 12 0) D 13 0
theorem c_fgt : G8_forget m D = some (fgB D (fgA D m)) := by
  unfold G8_forget G8_forget_0 G10_forget G10_forget_0
  simp only [wt_e, bs1]
  show G8_forget_63 1024 (fgA D m) D 0 = _
  generalize fgA D m = u
  have s0 : ∀ (u : Mem) (k : Nat) (x : Int) (p : Nat), 0 ≤ x → x < 3 → (D + 16) + 2 * x.toNat = p → G8_forget_63 (k + 1) u D x = G8_forget_63 k (up (up u p 1 0) p 2 0) D (x + 1) := by
    intro u k x p h1 h2 h3
    rw [G8_forget_63, if_neg (by omega), gdx_t (by omega), h3]
    unfold G2_forget G2_forget_0
    rw [wt_e, wt_e, bs1, gd3_t (by omega)]
  rw [s0 u 1023 0 (D + 16) (by omega) (by omega) (by omega), s0 _ 1022 (0 + 1) (D + 18) (by omega) (by omega) (by omega), s0 _ 1021 (0 + 1 + 1) (D + 20) (by omega) (by omega) (by omega), G8_forget_63, if_pos (by omega), wt_e, wt_e]
  rfl
theorem fg_f (hDD : D = 2 ∨ D = 24) : Fm (fun b i => D ≤ b ∧ b ≤ D + 21) m (fgB D (fgA D m)) := by
  unfold fgB fgA
  exact (((((((((((((((((((Fm.w1 (by omega)).w (by omega)).w (by omega)).w (by omega)).w (by omega)).w (by omega)).w (by omega)).w (by omega)).w (by omega)).w (by omega)).w (by omega)).w (by omega)).w (by omega)).w (by omega)).w (by omega)).w (by omega)).w (by omega)).w (by omega)).w (by omega)).w (by omega)
theorem fg_v (hDD : D = 2 ∨ D = 24) : (fgB D (fgA D m) D 0 = 6 ∧ fgB D (fgA D m) D 1 = 4 ∧ fgB D (fgA D m) D 2 = 0 ∧ fgB D (fgA D m) D 3 = 0 ∧ fgB D (fgA D m) D 6 = 0 ∧ fgB D (fgA D m) D 7 = 0 ∧ fgB D (fgA D m) D 8 = 0 ∧ fgB D (fgA D m) D 9 = 0 ∧ fgB D (fgA D m) D 10 = 0 ∧ fgB D (fgA D m) D 12 = 0 ∧ fgB D (fgA D m) D 13 = 0) ∧ (fgB D (fgA D m) (D + 1) 0 = 0 ∧ fgB D (fgA D m) (D + 8) 0 = 0 ∧ fgB D (fgA D m) (D + 8) 1 = 0) ∧ (fgB D (fgA D m) (D + 16) 1 = 0 ∧ fgB D (fgA D m) (D + 16) 2 = 0 ∧ fgB D (fgA D m) (D + 18) 1 = 0 ∧ fgB D (fgA D m) (D + 18) 2 = 0 ∧ fgB D (fgA D m) (D + 20) 1 = 0 ∧ fgB D (fgA D m) (D + 20) 2 = 0) := by
  rcases hDD with e | e <;> subst e <;> refine ⟨⟨?_, ?_, ?_, ?_, ?_, ?_, ?_, ?_, ?_, ?_, ?_⟩, ⟨?_, ?_, ?_⟩, ?_, ?_, ?_, ?_, ?_, ?_⟩ <;> rfl
theorem r_p85 : ∀ (d k : Nat) (x : Int) (v : Mem), (6 - x).toNat = d → d < k → 3 ≤ x → ∃ v', G12_plain_85 k v x = some v' ∧ Fm (fun b i => b = 15 ∧ x ≤ i) v v' ∧ ∀ i, x ≤ i → i < 6 → v' 15 i = 0 := by
  intro d
  induction d with
  | zero =>
    intro k x v h1 h2 h3
    obtain ⟨k, rfl⟩ : ∃ j, k = j + 1 := ⟨k - 1, by omega⟩
    rw [G12_plain_85, if_pos (by omega)]
    exact ⟨v, rfl, Fm.rf, fun i a b => by omega⟩
  | succ d ih =>
    intro k x v h1 h2 h3
    obtain ⟨k, rfl⟩ : ∃ j, k = j + 1 := ⟨k - 1, by omega⟩
    rw [G12_plain_85, if_neg (by omega), gdx_t (by omega), gdb_t (by omega), wt_e, gd3_t (by omega)]
    obtain ⟨v', e, f, g⟩ := ih k (x + 1) (up v 15 x 0) (by omega) (by omega) (by omega)
    refine ⟨v', e, (Fm.w1 (by omega)).tr (f.mono (by intro b i q; omega)), fun i a b => ?_⟩
    by_cases c : i = x
    · rw [c, f 15 x (by omega), up_e]
    · exact g i (by omega) b
theorem r_p64 : ∀ (d k : Nat) (x : Int) (v : Mem), (14 - x).toNat = d → d < k → 7 ≤ x → ∃ v', G12_plain_64 k v x = some v' ∧ Fm (fun b i => (b = 4 ∧ x ≤ i) ∨ (b = 15 ∧ 3 ≤ i)) v v' ∧ (∀ i, x ≤ i → i < 14 → v' 4 i = 0) ∧ ∀ i, 3 ≤ i → i < 6 → v' 15 i = 0 := by
  intro d
  induction d with
  | zero =>
    intro k x v h1 h2 h3
    obtain ⟨k, rfl⟩ : ∃ j, k = j + 1 := ⟨k - 1, by omega⟩
    rw [G12_plain_64, if_pos (by omega)]
    obtain ⟨v', e, f, g⟩ := r_p85 3 1024 3 v (by omega) (by omega) (by omega)
    exact ⟨v', e, f.mono (by intro b i q; omega), fun i a b => by omega, g⟩
  | succ d ih =>
    intro k x v h1 h2 h3
    obtain ⟨k, rfl⟩ : ∃ j, k = j + 1 := ⟨k - 1, by omega⟩
    rw [G12_plain_64, if_neg (by omega), gdx_t (by omega), wt_e, gd3_t (by omega)]
    obtain ⟨v', e, f, g, h⟩ := ih k (x + 1) (up v 4 x 0) (by omega) (by omega) (by omega)
    refine ⟨v', e, (Fm.w1 (by omega)).tr (f.mono (by intro b i q; omega)), fun i a b => ?_, h⟩
    by_cases c : i = x
    · rw [c, f 4 x (by omega), up_e]
    · exact g i (by omega) b
theorem r_p43 : ∀ (d k : Nat) (x : Int) (v : Mem), (5 - x).toNat = d → d < k → 0 ≤ x → ∃ v', G12_plain_43 k v x = some v' ∧ Fm (fun b i => (b = 3 ∧ x ≤ i) ∨ (b = 4 ∧ 7 ≤ i) ∨ (b = 15 ∧ 3 ≤ i)) v v' ∧ (∀ i, x ≤ i → i < 5 → v' 3 i = 0) ∧ (∀ i, 7 ≤ i → i < 14 → v' 4 i = 0) ∧ ∀ i, 3 ≤ i → i < 6 → v' 15 i = 0 := by
  intro d
  induction d with
  | zero =>
    intro k x v h1 h2 h3
    obtain ⟨k, rfl⟩ : ∃ j, k = j + 1 := ⟨k - 1, by omega⟩
    rw [G12_plain_43, if_pos (by omega)]
    obtain ⟨v', e, f, g, h⟩ := r_p64 7 1024 7 v (by omega) (by omega) (by omega)
    exact ⟨v', e, f.mono (by intro b i q; omega), fun i a b => by omega, g, h⟩
  | succ d ih =>
    intro k x v h1 h2 h3
    obtain ⟨k, rfl⟩ : ∃ j, k = j + 1 := ⟨k - 1, by omega⟩
    rw [G12_plain_43, if_neg (by omega), gdx_t (by omega), gdb_t (by omega), wt_e, gd3_t (by omega)]
    obtain ⟨v', e, f, g, h, h'⟩ := ih k (x + 1) (up v 3 x 0) (by omega) (by omega) (by omega)
    refine ⟨v', e, (Fm.w1 (by omega)).tr (f.mono (by intro b i q; omega)), fun i a b => ?_, h, h'⟩
    by_cases c : i = x
    · rw [c, f 3 x (by omega), up_e]
    · exact g i (by omega) b
def PT (D : Nat) : Nat → Int → Prop := fun b i => (b = 0 ∧ i = 1) ∨ (b = 46 ∧ i = 10) ∨ b = 47 ∨ PX D b i
def QT : Nat → Int → Prop := fun b i => (b = 0 ∧ (i = 1 ∨ i = 2 ∨ i = 6)) ∨ QX b i
theorem PX_T : ∀ b i, PX D b i → PT D b i := fun _ _ h => Or.inr (Or.inr (Or.inr h))
theorem QX_T : ∀ b i, QX b i → QT b i := fun _ _ h => Or.inr h
/-- the new draft -/
theorem di_new (hDD : D = 2 ∨ D = 24) (hm : (m D 0 = 6 ∧ m D 1 = 4 ∧ m D 2 = 0 ∧ m D 3 = 0 ∧ m D 6 = 0 ∧ m D 7 = 0 ∧ m D 8 = 0 ∧ m D 9 = 0 ∧ m D 10 = 0 ∧ m D 13 = 0) ∧ (m (D + 1) 0 = 0 ∧ m (D + 8) 0 = 0 ∧ m (D + 8) 1 = 0) ∧ (m (D + 16) 1 = 0 ∧ m (D + 16) 2 = 0 ∧ m (D + 18) 1 = 0 ∧ m (D + 18) 2 = 0 ∧ m (D + 20) 1 = 0 ∧ m (D + 20) 2 = 0)) (h46 : m 46 10 = (D : Int) ∧ m 46 6 = 0 ∧ m 46 7 = 0) (hv : v 0 18 = 6 ∧ v 0 19 = 4 ∧ v 0 20 = 0 ∧ v 0 21 = 0 ∧ v 0 22 = 0 ∧ v 0 23 = 0 ∧ v 0 49 = 0 ∧ v 0 24 = 0) (h3 : ∀ i, 0 ≤ i → i < 5 → v 3 i = 0) (h4 : ∀ i, 7 ≤ i → i < 14 → v 4 i = 0) (h15 : ∀ i, 3 ≤ i → i < 6 → v 15 i = 0) : DI m v D := by
  obtain ⟨⟨a0, a1, a2, a3, a6, a7, a8, a9, a10, a13⟩, ⟨b1, b2, b3⟩, c1, c2, c3, c4, c5, c6⟩ := hm
  have s0 : ∀ i, sl 21 m D 0 i = m D i := fun i => sl_e (Nat.zero_le _) i
  have s1 : sl 21 m D 1 0 = 0 := by rw [sl_e (by omega)]; exact b1
  have s8 : sl 21 m D 8 0 = 0 := by rw [sl_e (by omega)]; exact b2
  have s9 : sl 21 m D 8 1 = 0 := by rw [sl_e (by omega)]; exact b3
  have t1 : sl 21 m D 16 1 = 0 := by rw [sl_e (by omega)]; exact c1
  have t2 : sl 21 m D 16 2 = 0 := by rw [sl_e (by omega)]; exact c2
  have t3 : sl 21 m D 18 1 = 0 := by rw [sl_e (by omega)]; exact c3
  have t4 : sl 21 m D 18 2 = 0 := by rw [sl_e (by omega)]; exact c4
  have t5 : sl 21 m D 20 1 = 0 := by rw [sl_e (by omega)]; exact c5
  have t6 : sl 21 m D 20 2 = 0 := by rw [sl_e (by omega)]; exact c6
  have lx : ∀ kn : Int → Int, LX kn 0 := fun kn => ⟨by omega, fun j z => by omega, fun z => by omega⟩
  have rl : ∀ (k : Int) (a b : Nat), 0 ≤ k → k < 3 → sl 21 m D a 1 = 0 → sl 21 m D a 2 = 0 → RLw (kd v) (sl 21 m D) k a b := by
    intro k a b z1 z2 z3 z4
    unfold RLw
    rw [sh15 (by omega), z3, z4, h15 _ (by omega) (by omega)]
    exact ⟨rfl, Or.inl rfl, fun _ => rfl, fun z => by omega⟩
  refine ⟨⟨hDD, h46.1⟩, ⟨?_, ?_, ?_, ?_, ?_⟩, ⟨⟨?_, ?_, ?_, ?_, ?_, ?_⟩, ?_, ?_, ?_, ?_, rl 0 16 17 (by omega) (by omega) t1 t2, rl 1 18 19 (by omega) (by omega) t3 t4, rl 2 20 21 (by omega) (by omega) t5 t6⟩, ⟨?_, ?_, ?_⟩, ?_, ?_, ?_⟩
  · unfold WS
    rw [s0, s0, s0, s0, s0, s0, s0, s0, s0, s0, s1, s8, s9, a0, a1, a2, a3, a6, a7, a8, a9, a10, a13]
    omega
  · intro i p q; rw [s1] at q; omega
  · refine ⟨fun _ => s9, fun q => by rw [s8] at q; omega, fun t p q => by rw [s8] at q; omega⟩
  · intro i p q; rw [s9] at q; omega
  · exact ⟨by rw [t1]; exact lx _, by rw [t3]; exact lx _, by rw [t5]; exact lx _⟩
  · rw [s0, a0]; exact hv.1
  · rw [s0, a1]; exact hv.2.1
  · rw [s1]; exact hv.2.2.1
  · rw [s8]; exact hv.2.2.2.1
  · rw [s9]; exact hv.2.2.2.2.1
  · rw [s0, a13]; exact hv.2.2.2.2.2.1
  · rw [s0, s0, s0, s0, s0, s0, s0, a2, a3, a6, a7, a8, a9, a10]
    exact ⟨h4 7 (by omega) (by omega), h4 8 (by omega) (by omega), h4 9 (by omega) (by omega), h4 10 (by omega) (by omega), h4 11 (by omega) (by omega), h4 12 (by omega) (by omega), h4 13 (by omega) (by omega)⟩
  · intro i p q; rw [s1] at q; omega
  · intro i p q; rw [s8] at q; omega
  · intro i p q; rw [s9] at q; omega
  · exact Or.inl h46.2.2
  · rw [h46.2.2]; exact hv.2.2.2.2.2.2.2
  · intro _; rw [s0, s0]; exact ⟨s1, a2, a3⟩
  · unfold ONC
    rw [h46.2.1, h3 0 (by omega) (by omega), h3 1 (by omega) (by omega), h3 2 (by omega) (by omega), h3 3 (by omega) (by omega), h3 4 (by omega) (by omega)]
    refine ⟨?_, ?_, ?_, ?_, ?_⟩ <;> decide
  · rw [s0, a13]; exact hv.2.2.2.2.2.2.1
  · intro k z1 z2 z3; rw [h15 k (by omega) (by omega)] at z3; omega
theorem bg_v (u : Mem) (x : Int) : (up (up (up (up (up (up (up u 46 8 0) 46 9 (-1)) 46 6 0) 46 7 0) 47 1 1) 47 2 x) 47 3 0 46 6 = 0 ∧ up (up (up (up (up (up (up u 46 8 0) 46 9 (-1)) 46 6 0) 46 7 0) 47 1 1) 47 2 x) 47 3 0 46 7 = 0 ∧ up (up (up (up (up (up (up u 46 8 0) 46 9 (-1)) 46 6 0) 46 7 0) 47 1 1) 47 2 x) 47 3 0 46 8 = 0 ∧ up (up (up (up (up (up (up u 46 8 0) 46 9 (-1)) 46 6 0) 46 7 0) 47 1 1) 47 2 x) 47 3 0 46 9 = -1) ∧ (up (up (up (up (up (up (up u 46 8 0) 46 9 (-1)) 46 6 0) 46 7 0) 47 1 1) 47 2 x) 47 3 0 47 1 = 1 ∧ up (up (up (up (up (up (up u 46 8 0) 46 9 (-1)) 46 6 0) 46 7 0) 47 1 1) 47 2 x) 47 3 0 47 2 = x ∧ up (up (up (up (up (up (up u 46 8 0) 46 9 (-1)) 46 6 0) 46 7 0) 47 1 1) 47 2 x) 47 3 0 47 3 = 0) := by
  refine ⟨⟨?_, ?_, ?_, ?_⟩, ?_, ?_, ?_⟩
  · rw [up_a (by omega), up_a (by omega), up_a (by omega), up_i (by omega), up_e]
  · rw [up_a (by omega), up_a (by omega), up_a (by omega), up_e]
  · rw [up_a (by omega), up_a (by omega), up_a (by omega), up_i (by omega), up_i (by omega), up_i (by omega), up_e]
  · rw [up_a (by omega), up_a (by omega), up_a (by omega), up_i (by omega), up_i (by omega), up_e]
  · rw [up_i (by omega), up_i (by omega), up_e]
  · rw [up_i (by omega), up_e]
  · exact up_e
theorem c_all0 {x : Int} (hx : x ≤ 700) : G5_readAll m x D = G5_readAll_44 1024 (up (up (up (up (up (up (up (fgB D (fgA D (up m 46 10 D))) 46 8 0) 46 9 (-1)) 46 6 0) 46 7 0) 47 1 1) 47 2 x) 47 3 0) 0 := by
  unfold G5_readAll G5_readAll_0 G7_begin G7_begin_0
  have c1 : ((1 : Nat) : Int) = 1 := rfl
  generalize (1024 : Nat) = K
  rw [wt_e, up_e, Int.toNat_natCast, c_fgt, bs1]
  simp only [wt_e, bs1, if_neg (show ¬ 700 < x by omega), c1]
theorem c_begin {x : Int} (hDD : D = 2 ∨ D = 24) (hx : x ≤ 700) : ∃ mS, G5_readAll (up m 0 1 0) x D = G5_readAll_44 1024 mS 0 ∧ Fm (PT D) m mS ∧ (mS 0 1 = 0 ∧ mS 46 10 = (D : Int)) ∧ ((mS 46 6 = 0 ∧ mS 46 7 = 0 ∧ mS 46 8 = 0 ∧ mS 46 9 = -1) ∧ (mS 47 1 = 1 ∧ mS 47 2 = x ∧ mS 47 3 = 0)) ∧ mS D 12 = 0 ∧ ((mS D 0 = 6 ∧ mS D 1 = 4 ∧ mS D 2 = 0 ∧ mS D 3 = 0 ∧ mS D 6 = 0 ∧ mS D 7 = 0 ∧ mS D 8 = 0 ∧ mS D 9 = 0 ∧ mS D 10 = 0 ∧ mS D 13 = 0) ∧ (mS (D + 1) 0 = 0 ∧ mS (D + 8) 0 = 0 ∧ mS (D + 8) 1 = 0) ∧ (mS (D + 16) 1 = 0 ∧ mS (D + 16) 2 = 0 ∧ mS (D + 18) 1 = 0 ∧ mS (D + 18) 2 = 0 ∧ mS (D + 20) 1 = 0 ∧ mS (D + 20) 2 = 0)) := by
  have e1 := c_all0 (m := up m 0 1 0) (D := D) hx
  have f0 : Fm (fun b i => D ≤ b ∧ b ≤ D + 21) (up (up m 0 1 0) 46 10 D) (fgB D (fgA D (up (up m 0 1 0) 46 10 D))) := fg_f hDD
  have v0 := fg_v (m := up (up m 0 1 0) 46 10 D) hDD
  have g0 : Fm (fun b i => (b = 0 ∧ i = 1) ∨ (b = 46 ∧ i = 10)) m (up (up m 0 1 0) 46 10 D) := (Fm.w1 (by omega)).w (by omega)
  have k10 : up (up m 0 1 0) 46 10 D 46 10 = (D : Int) := up_e
  have k01 : up (up m 0 1 0) 46 10 D 0 1 = 0 := by rw [up_a (by omega), up_e]
  generalize fgB D (fgA D (up (up m 0 1 0) 46 10 D)) = u0 at e1 f0 v0
  generalize up (up m 0 1 0) 46 10 (D : Int) = u1 at f0 g0 k10 k01
  have bv := bg_v u0 x
  have f1 : Fm (fun b i => (b = 46 ∧ 6 ≤ i ∧ i ≤ 9) ∨ b = 47) u0 (up (up (up (up (up (up (up u0 46 8 0) 46 9 (-1)) 46 6 0) 46 7 0) 47 1 1) 47 2 x) 47 3 0) := ((((((Fm.w1 (by omega)).w (by omega)).w (by omega)).w (by omega)).w (by omega)).w (by omega)).w (by omega)
  generalize up (up (up (up (up (up (up u0 46 8 0) 46 9 (-1)) 46 6 0) 46 7 0) 47 1 1) 47 2 x) 47 3 0 = mS at e1 f1 bv
  have em : ∀ (b : Nat) i, D ≤ b → b ≤ D + 21 → mS b i = u0 b i := fun b i z1 z2 => f1 b i (by omega)
  refine ⟨mS, e1, ((g0.mono ?_).tr (f0.mono ?_)).tr (f1.mono ?_), ⟨?_, ?_⟩, bv, ?_, ?_⟩
  · intro b i q; unfold PT; omega
  · intro b i q; unfold PT PX; omega
  · intro b i q; unfold PT PX; omega
  · rw [f1 0 1 (by omega), f0 0 1 (by omega)]; exact k01
  · rw [f1 46 10 (by omega), f0 46 10 (by omega)]; exact k10
  · rw [em D 12 (by omega) (by omega)]; exact v0.1.2.2.2.2.2.2.2.2.2.1
  · obtain ⟨⟨y0, y1, y2, y3, y6, y7, y8, y9, y10, y12, y13⟩, ⟨x1, x2, x3⟩, c1, c2, c3, c4, c5, c6⟩ := v0
    rw [em D 0 (by omega) (by omega), em D 1 (by omega) (by omega), em D 2 (by omega) (by omega), em D 3 (by omega) (by omega), em D 6 (by omega) (by omega), em D 7 (by omega) (by omega), em D 8 (by omega) (by omega), em D 9 (by omega) (by omega), em D 10 (by omega) (by omega), em D 13 (by omega) (by omega), em (D + 1) 0 (by omega) (by omega), em (D + 8) 0 (by omega) (by omega), em (D + 8) 1 (by omega) (by omega), em (D + 16) 1 (by omega) (by omega), em (D + 16) 2 (by omega) (by omega), em (D + 18) 1 (by omega) (by omega), em (D + 18) 2 (by omega) (by omega), em (D + 20) 1 (by omega) (by omega), em (D + 20) 2 (by omega) (by omega)]
    exact ⟨⟨y0, y1, y2, y3, y6, y7, y8, y9, y10, y13⟩, ⟨x1, x2, x3⟩, c1, c2, c3, c4, c5, c6⟩
end Q40
