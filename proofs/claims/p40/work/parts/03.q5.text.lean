/-! Any line, and all lines of a text, on both sides. -/
section Q39
variable {m v : Mem} {S : Int} {D : Nat}
theorem l_line (hD : DI m v D) (h : PostR m v S) : LOut (G5_readLine m) (G12_lineRead v) m v D S := by
  have hk := h.2.2.2.2.2.2.2
  have hb := KR_b hk
  have hi := KR_kw hk (lo := 0) (hi := 7) (by first | decide | omega) (by first | decide | omega)
  unfold G5_readLine G5_readLine_0 G12_lineRead G12_lineRead_0
  by_cases c : 0 ≤ m 47 4 ∧ m 47 4 ≤ 7
  · obtain ⟨k8, k9⟩ := hi.mp c
    have ek : v 0 9 = m 47 4 := by
      have hlo : kwf (m 47 4) = m 47 4 := kwf_lo (by first | decide | omega)
      unfold KR SGN NumR at hk
      rw [hlo] at hk
      omega
    rw [if_pos k8, if_pos (show v 0 9 ≤ 7 by first | decide | omega), ek]
    rcases (show m 47 4 = 0 ∨ m 47 4 = 1 ∨ m 47 4 = 2 ∨ m 47 4 = 3 ∨ m 47 4 = 4 ∨ m 47 4 = 5 ∨ m 47 4 = 6 ∨ m 47 4 = 7 by first | decide | omega) with e | e | e | e | e | e | e | e
    · simp only [if_pos e]
      exact lo_gdb (l_sea hD h)
    · simp only [if_neg (show ¬ m 47 4 = 0 by first | decide | omega), if_pos e]
      exact lo_gdb (l_peak hD h e)
    · simp only [if_neg (show ¬ m 47 4 = 0 by first | decide | omega), if_neg (show ¬ m 47 4 = 1 by first | decide | omega), if_pos e]
      exact lo_gdb (l_surf hD h)
    · simp only [if_neg (show ¬ m 47 4 = 0 by first | decide | omega), if_neg (show ¬ m 47 4 = 1 by first | decide | omega), if_neg (show ¬ m 47 4 = 2 by first | decide | omega), if_pos e]
      exact lo_gdb (l_set hD h)
    · simp only [if_neg (show ¬ m 47 4 = 0 by first | decide | omega), if_neg (show ¬ m 47 4 = 1 by first | decide | omega), if_neg (show ¬ m 47 4 = 2 by first | decide | omega), if_neg (show ¬ m 47 4 = 3 by first | decide | omega), if_pos e]
      exact lo_gdb (l_bank hD h e)
    · simp only [if_neg (show ¬ m 47 4 = 0 by first | decide | omega), if_neg (show ¬ m 47 4 = 1 by first | decide | omega), if_neg (show ¬ m 47 4 = 2 by first | decide | omega), if_neg (show ¬ m 47 4 = 3 by first | decide | omega), if_neg (show ¬ m 47 4 = 4 by first | decide | omega), if_pos e]
      exact lo_gdb (l_rule hD h e)
    · simp only [if_neg (show ¬ m 47 4 = 0 by first | decide | omega), if_neg (show ¬ m 47 4 = 1 by first | decide | omega), if_neg (show ¬ m 47 4 = 2 by first | decide | omega), if_neg (show ¬ m 47 4 = 3 by first | decide | omega), if_neg (show ¬ m 47 4 = 4 by first | decide | omega), if_neg (show ¬ m 47 4 = 5 by first | decide | omega), if_pos e]
      exact lo_gdb (l_seed hD h e)
    · rw [if_neg (show ¬ m 47 4 = 0 by first | decide | omega), if_neg (show ¬ m 47 4 = 1 by first | decide | omega), if_neg (show ¬ m 47 4 = 2 by first | decide | omega), if_neg (show ¬ m 47 4 = 3 by first | decide | omega), if_neg (show ¬ m 47 4 = 4 by first | decide | omega), if_neg (show ¬ m 47 4 = 5 by first | decide | omega), if_neg (show ¬ m 47 4 = 6 by first | decide | omega), if_pos e, if_neg (show ¬ m 47 4 = 0 by first | decide | omega), if_neg (show ¬ m 47 4 = 1 by first | decide | omega), if_neg (show ¬ m 47 4 = 2 by first | decide | omega), if_neg (show ¬ m 47 4 = 3 by first | decide | omega), if_neg (show ¬ m 47 4 = 4 by first | decide | omega), if_neg (show ¬ m 47 4 = 5 by first | decide | omega), if_neg (show ¬ m 47 4 = 6 by first | decide | omega)]
      exact lo_gdb (l_law hD h)
  · have e17 : G12_lineRead_17 v = some (0, up (up v 0 4 1) 0 5 (v 0 10)) := by unfold G12_lineRead_17; rw [r_wrong, bs1, gdb_t (by first | decide | omega)]
    rw [if_neg (show ¬ m 47 4 = 0 by first | decide | omega), if_neg (show ¬ m 47 4 = 1 by first | decide | omega), if_neg (show ¬ m 47 4 = 2 by first | decide | omega), if_neg (show ¬ m 47 4 = 3 by first | decide | omega), if_neg (show ¬ m 47 4 = 4 by first | decide | omega), if_neg (show ¬ m 47 4 = 5 by first | decide | omega), if_neg (show ¬ m 47 4 = 6 by first | decide | omega), if_neg (show ¬ m 47 4 = 7 by first | decide | omega), c_ref, bs1, gdb_t (by first | decide | omega)]
    refine lo_ref h 1 rfl ?_
    by_cases a : v 0 8 = 1
    · have hkb : 0 ≤ m 47 4 ∧ m 47 4 < 24 → 0 ≤ kwf (m 47 4) ∧ kwf (m 47 4) < 24 ∧ (15 ≤ m 47 4 ∧ m 47 4 ≤ 17 → 15 ≤ kwf (m 47 4) ∧ kwf (m 47 4) ≤ 17) := kwf_b
      have : ¬ v 0 9 ≤ 7 := fun z => c (hi.mpr ⟨a, by unfold KR SGN NumR at hk; first | decide | omega, z⟩)
      rw [if_pos a, if_neg this, e17]
    · rw [if_neg a, e17]
theorem DI.l12 {x : Int} (hD : DI m v D) : DI (up m D 12 x) v D := by
  obtain ⟨h1, h2, h3, h4, h5, h6, h7⟩ := hD
  have hDD := h1.1
  have hw : ∀ c : Nat, 1 ≤ c → sl 21 (up m D 12 x) D c = sl 21 m D c := fun c hc => by
    funext i
    by_cases c21 : c ≤ 21
    · rw [sl_e c21, sl_e c21]; exact up_a (by first | decide | omega)
    · unfold sl; rw [if_neg c21, if_neg c21]
  have e0 : ∀ i, i ≠ 12 → sl 21 (up m D 12 x) D 0 i = sl 21 m D 0 i := fun i z => by rw [sl_e (Nat.zero_le _), sl_e (Nat.zero_le _)]; exact up_i z
  refine ⟨⟨hDD, by rw [up_a (by first | decide | omega)]; exact h1.2⟩, h2.flds hw ?_ ?_, h3.flds hw (e0 13 (by first | decide | omega)) (fun _ _ _ => rfl) (fun _ _ _ => rfl) ?_ ?_, ?_, ?_, ?_, h7⟩
  · have := h2.1
    unfold WS at this ⊢
    rw [e0 0 (by first | decide | omega), e0 1 (by first | decide | omega), e0 2 (by first | decide | omega), e0 3 (by first | decide | omega), e0 6 (by first | decide | omega), e0 7 (by first | decide | omega), e0 8 (by first | decide | omega), e0 9 (by first | decide | omega), e0 10 (by first | decide | omega), e0 13 (by first | decide | omega), hw 1 (by first | decide | omega), hw 8 (by first | decide | omega)]
    exact this
  · rw [e0 0 (by first | decide | omega), e0 1 (by first | decide | omega)]; exact fun i p q => (h2.2.1 i p q).1.2
  · rw [e0 0 (by first | decide | omega), e0 1 (by first | decide | omega)]; exact ⟨h3.1.1, h3.1.2.1⟩
  · rw [e0 2 (by first | decide | omega), e0 3 (by first | decide | omega), e0 6 (by first | decide | omega), e0 7 (by first | decide | omega), e0 8 (by first | decide | omega), e0 9 (by first | decide | omega), e0 10 (by first | decide | omega)]; exact h3.2.1
  · unfold CTL
    rw [up_a (by first | decide | omega), e0 2 (by first | decide | omega), e0 3 (by first | decide | omega), hw 1 (by first | decide | omega)]; exact h4
  · unfold ONC
    rw [up_a (by first | decide | omega)]; exact h5
  · rw [e0 13 (by first | decide | omega)]; exact h6
/-- all lines -/
theorem l_all (hS : S ≤ 700) : ∀ (d n : Nat) (x : Int) (m v : Mem), (701 - x).toNat = d → d < n → 0 ≤ x → x ≤ m 47 3 → m D 12 = x → DI m v D → PreR m v S → ∃ m' v', Fm (PX D) m m' ∧ Fm QX v v' ∧ ((G5_readAll_44 n m x = some (1, m') ∧ (G12_text_55 n v x = (G12_keepText v').bind fun o => some (m' D 12, o)) ∧ DI m' v' D ∧ FLT m' v') ∨ (G5_readAll_44 n m x = some (0, m') ∧ G12_text_55 n v x = some (-1, v') ∧ FLT m' v')) := by
  intro d
  induction d with
  | zero =>
    intro n x m v h1 h2 h3 h4 h5 hD p
    have := p.2.2.2.2.1
    omega
  | succ d ih =>
    intro n x m v h1 h2 h3 h4 h5 hD p
    obtain ⟨n, rfl⟩ : ∃ j, n = j + 1 := ⟨n - 1, by first | decide | omega⟩
    have hp := p.2.2.2.2.1
    have hDD := hD.1.1
    obtain ⟨m1, e1, f1, p1, q1, q2⟩ := p.adv
    have f1' := f1.mono P47_k
    have hD1 : DI m1 v D := hD.k f1' (Fm.rf (m := v))
    have hk := p1.2.2.2.2.2.2.2
    have e12 : m1 D 12 = x := by rw [f1 D 12 (by unfold P47; first | decide | omega)]; exact h5
    rw [G5_readAll_44, G12_text_55, if_neg (by first | decide | omega), e1, bs1]
    by_cases c : m1 47 4 = 39
    · have e8 : v 0 8 = 0 := by unfold KR SGN NumR at hk; omega
      rw [if_pos c, if_pos e8]
      exact ⟨m1, v, f1'.mono Pk_x, Fm.rf, Or.inl ⟨rfl, by rw [e12], hD1, p1.2.2.2.1.2⟩⟩
    · have e8 : ¬ v 0 8 = 0 := by unfold KR SGN NumR at hk; omega
      rw [if_neg c, if_neg e8]
      obtain ⟨m2, v2, f2, g2, q3, k⟩ := l_line hD1 p1
      rcases k with ⟨a1, a2, a3, a4, a5⟩ | ⟨a1, a2, a3⟩
      · rw [a1, a2, bs1, bs1]
        simp only [if_neg i10]
        have q4 := q2 c
        have hp2 := a4.2.2.2.2.1
        rw [a3.1.2, Int.toNat_natCast, a5, e12, gd3_t (by first | decide | omega), wt_e, gd3_t (by first | decide | omega), gd3_t (by first | decide | omega)]
        have p3 : PreR (up m2 D 12 (x + 1)) v2 S := a4.f (P := fun b i => b = D) (Q := fun _ _ => False) (Fm.w1 rfl) Fm.rf (by intro b i q; first | decide | omega) (fun b i _ => id)
        obtain ⟨m', v', b1, b2, b3⟩ := ih n (x + 1) (up m2 D 12 (x + 1)) v2 (by first | decide | omega) (by first | decide | omega) (by first | decide | omega) (by rw [up_a (by first | decide | omega)]; first | decide | omega) up_e a3.l12 p3
        exact ⟨m', v', (((f1'.mono Pk_x).tr f2).w (by unfold PX; first | decide | omega)).tr b1, g2.tr b2, b3⟩
      · rw [a1, a2, bs1, bs1]
        simp only [if_true]
        exact ⟨m2, v2, (f1'.mono Pk_x).tr f2, g2, Or.inr ⟨by first | rfl | trivial, by first | rfl | trivial, a3⟩⟩
end Q39
/-! How reading begins on both sides; what a refused text leaves. -/
section Q40
variable {m v : Mem} {S : Int} {D : Nat}
def fgA (D : Nat) (m : Mem) : Mem := up (up (up (up (up (up (up (up (up (up (up (up m D 0 6) D 1 4) D 2 0) D 3 0) (D + 1) 0 0) (D + 8) 0 0) (D + 8) 1 0) D 6 0) D 7 0) D 8 0) D 9 0) D 10 0
def fgB (D : Nat) (m : Mem) : Mem := up (up (up (up (up (up (up (up m (D + 16) 1 0) (D + 16) 2 0) (D + 18) 1 0) (D + 18) 2 0) (D + 20) 1 0) (D + 20) 2 0) D 12 0) D 13 0
theorem c_fgt : G8_forget m D = some (fgB D (fgA D m)) := by
  unfold G8_forget G8_forget_0 G10_forget G10_forget_0
  simp only [wt_e, bs1]
  show G8_forget_63 1024 (fgA D m) D 0 = _
  generalize fgA D m = u
  have s0 : ∀ (u : Mem) (k : Nat) (x : Int) (p : Nat), 0 ≤ x → x < 3 → (D + 16) + 2 * x.toNat = p → G8_forget_63 (k + 1) u D x = G8_forget_63 k (up (up u p 1 0) p 2 0) D (x + 1) := by
    intro u k x p h1 h2 h3
    rw [G8_forget_63, if_neg (by first | decide | omega), gdx_t (by first | decide | omega), h3]
    unfold G2_forget G2_forget_0
    rw [wt_e, wt_e, bs1, gd3_t (by first | decide | omega)]
  rw [s0 u 1023 0 (D + 16) (by first | decide | omega) (by first | decide | omega) (by first | decide | omega), s0 _ 1022 (0 + 1) (D + 18) (by first | decide | omega) (by first | decide | omega) (by first | decide | omega), s0 _ 1021 (0 + 1 + 1) (D + 20) (by first | decide | omega) (by first | decide | omega) (by first | decide | omega), G8_forget_63, if_pos (by first | decide | omega), wt_e, wt_e]
  rfl
theorem fg_f (hDD : D = 2 ∨ D = 24) : Fm (fun b i => D ≤ b ∧ b ≤ D + 21) m (fgB D (fgA D m)) := by
  unfold fgB fgA
  exact (((((((((((((((((((Fm.w1 (by first | decide | omega)).w (by first | decide | omega)).w (by first | decide | omega)).w (by first | decide | omega)).w (by first | decide | omega)).w (by first | decide | omega)).w (by first | decide | omega)).w (by first | decide | omega)).w (by first | decide | omega)).w (by first | decide | omega)).w (by first | decide | omega)).w (by first | decide | omega)).w (by first | decide | omega)).w (by first | decide | omega)).w (by first | decide | omega)).w (by first | decide | omega)).w (by first | decide | omega)).w (by first | decide | omega)).w (by first | decide | omega)).w (by first | decide | omega)
theorem fg_v (hDD : D = 2 ∨ D = 24) : (fgB D (fgA D m) D 0 = 6 ∧ fgB D (fgA D m) D 1 = 4 ∧ fgB D (fgA D m) D 2 = 0 ∧ fgB D (fgA D m) D 3 = 0 ∧ fgB D (fgA D m) D 6 = 0 ∧ fgB D (fgA D m) D 7 = 0 ∧ fgB D (fgA D m) D 8 = 0 ∧ fgB D (fgA D m) D 9 = 0 ∧ fgB D (fgA D m) D 10 = 0 ∧ fgB D (fgA D m) D 12 = 0 ∧ fgB D (fgA D m) D 13 = 0) ∧ (fgB D (fgA D m) (D + 1) 0 = 0 ∧ fgB D (fgA D m) (D + 8) 0 = 0 ∧ fgB D (fgA D m) (D + 8) 1 = 0) ∧ (fgB D (fgA D m) (D + 16) 1 = 0 ∧ fgB D (fgA D m) (D + 16) 2 = 0 ∧ fgB D (fgA D m) (D + 18) 1 = 0 ∧ fgB D (fgA D m) (D + 18) 2 = 0 ∧ fgB D (fgA D m) (D + 20) 1 = 0 ∧ fgB D (fgA D m) (D + 20) 2 = 0) := by
  rcases hDD with e | e <;> subst e <;> refine ⟨⟨?_, ?_, ?_, ?_, ?_, ?_, ?_, ?_, ?_, ?_, ?_⟩, ⟨?_, ?_, ?_⟩, ?_, ?_, ?_, ?_, ?_, ?_⟩ <;> rfl
theorem r_p85 : ∀ (d k : Nat) (x : Int) (v : Mem), (6 - x).toNat = d → d < k → 3 ≤ x → ∃ v', G12_plain_85 k v x = some v' ∧ Fm (fun b i => b = 15 ∧ x ≤ i) v v' ∧ ∀ i, x ≤ i → i < 6 → v' 15 i = 0 := by
  intro d
  induction d with
  | zero =>
    intro k x v h1 h2 h3
    obtain ⟨k, rfl⟩ : ∃ j, k = j + 1 := ⟨k - 1, by first | decide | omega⟩
    rw [G12_plain_85, if_pos (by first | decide | omega)]
    exact ⟨v, rfl, Fm.rf, fun i a b => by first | decide | omega⟩
  | succ d ih =>
    intro k x v h1 h2 h3
    obtain ⟨k, rfl⟩ : ∃ j, k = j + 1 := ⟨k - 1, by first | decide | omega⟩
    rw [G12_plain_85, if_neg (by first | decide | omega), gdx_t (by first | decide | omega), gdb_t (by first | decide | omega), wt_e, gd3_t (by first | decide | omega)]
    obtain ⟨v', e, f, g⟩ := ih k (x + 1) (up v 15 x 0) (by first | decide | omega) (by first | decide | omega) (by first | decide | omega)
    refine ⟨v', e, (Fm.w1 (by first | decide | omega)).tr (f.mono (by intro b i q; first | decide | omega)), fun i a b => ?_⟩
    by_cases c : i = x
    · rw [c, f 15 x (by first | decide | omega), up_e]
    · exact g i (by first | decide | omega) b
theorem r_p64 : ∀ (d k : Nat) (x : Int) (v : Mem), (14 - x).toNat = d → d < k → 7 ≤ x → ∃ v', G12_plain_64 k v x = some v' ∧ Fm (fun b i => (b = 4 ∧ x ≤ i) ∨ (b = 15 ∧ 3 ≤ i)) v v' ∧ (∀ i, x ≤ i → i < 14 → v' 4 i = 0) ∧ ∀ i, 3 ≤ i → i < 6 → v' 15 i = 0 := by
  intro d
  induction d with
  | zero =>
    intro k x v h1 h2 h3
    obtain ⟨k, rfl⟩ : ∃ j, k = j + 1 := ⟨k - 1, by first | decide | omega⟩
    rw [G12_plain_64, if_pos (by first | decide | omega)]
    obtain ⟨v', e, f, g⟩ := r_p85 3 1024 3 v (by first | decide | omega) (by first | decide | omega) (by first | decide | omega)
    exact ⟨v', e, f.mono (by intro b i q; first | decide | omega), fun i a b => by first | decide | omega, g⟩
  | succ d ih =>
    intro k x v h1 h2 h3
    obtain ⟨k, rfl⟩ : ∃ j, k = j + 1 := ⟨k - 1, by first | decide | omega⟩
    rw [G12_plain_64, if_neg (by first | decide | omega), gdx_t (by first | decide | omega), wt_e, gd3_t (by first | decide | omega)]
    obtain ⟨v', e, f, g, h⟩ := ih k (x + 1) (up v 4 x 0) (by first | decide | omega) (by first | decide | omega) (by first | decide | omega)
    refine ⟨v', e, (Fm.w1 (by first | decide | omega)).tr (f.mono (by intro b i q; first | decide | omega)), fun i a b => ?_, h⟩
    by_cases c : i = x
    · rw [c, f 4 x (by first | decide | omega), up_e]
    · exact g i (by first | decide | omega) b
theorem r_p43 : ∀ (d k : Nat) (x : Int) (v : Mem), (5 - x).toNat = d → d < k → 0 ≤ x → ∃ v', G12_plain_43 k v x = some v' ∧ Fm (fun b i => (b = 3 ∧ x ≤ i) ∨ (b = 4 ∧ 7 ≤ i) ∨ (b = 15 ∧ 3 ≤ i)) v v' ∧ (∀ i, x ≤ i → i < 5 → v' 3 i = 0) ∧ (∀ i, 7 ≤ i → i < 14 → v' 4 i = 0) ∧ ∀ i, 3 ≤ i → i < 6 → v' 15 i = 0 := by
  intro d
  induction d with
  | zero =>
    intro k x v h1 h2 h3
    obtain ⟨k, rfl⟩ : ∃ j, k = j + 1 := ⟨k - 1, by first | decide | omega⟩
    rw [G12_plain_43, if_pos (by first | decide | omega)]
    obtain ⟨v', e, f, g, h⟩ := r_p64 7 1024 7 v (by first | decide | omega) (by first | decide | omega) (by first | decide | omega)
    exact ⟨v', e, f.mono (by intro b i q; first | decide | omega), fun i a b => by first | decide | omega, g, h⟩
  | succ d ih =>
    intro k x v h1 h2 h3
    obtain ⟨k, rfl⟩ : ∃ j, k = j + 1 := ⟨k - 1, by first | decide | omega⟩
    rw [G12_plain_43, if_neg (by first | decide | omega), gdx_t (by first | decide | omega), gdb_t (by first | decide | omega), wt_e, gd3_t (by first | decide | omega)]
    obtain ⟨v', e, f, g, h, h'⟩ := ih k (x + 1) (up v 3 x 0) (by first | decide | omega) (by first | decide | omega) (by first | decide | omega)
    refine ⟨v', e, (Fm.w1 (by first | decide | omega)).tr (f.mono (by intro b i q; first | decide | omega)), fun i a b => ?_, h, h'⟩
    by_cases c : i = x
    · rw [c, f 3 x (by first | decide | omega), up_e]
    · exact g i (by first | decide | omega) b
def PT (D : Nat) : Nat → Int → Prop := fun b i => (b = 0 ∧ i = 1) ∨ (b = 46 ∧ i = 10) ∨ b = 47 ∨ PX D b i
def QT : Nat → Int → Prop := fun b i => (b = 0 ∧ (i = 1 ∨ i = 2 ∨ i = 6)) ∨ QX b i
theorem PX_T : ∀ b i, PX D b i → PT D b i := fun _ _ h => Or.inr (Or.inr (Or.inr h))
theorem QX_T : ∀ b i, QX b i → QT b i := fun _ _ h => Or.inr h
/-- the new draft -/
theorem di_new (hDD : D = 2 ∨ D = 24) (hm : (m D 0 = 6 ∧ m D 1 = 4 ∧ m D 2 = 0 ∧ m D 3 = 0 ∧ m D 6 = 0 ∧ m D 7 = 0 ∧ m D 8 = 0 ∧ m D 9 = 0 ∧ m D 10 = 0 ∧ m D 13 = 0) ∧ (m (D + 1) 0 = 0 ∧ m (D + 8) 0 = 0 ∧ m (D + 8) 1 = 0) ∧ (m (D + 16) 1 = 0 ∧ m (D + 16) 2 = 0 ∧ m (D + 18) 1 = 0 ∧ m (D + 18) 2 = 0 ∧ m (D + 20) 1 = 0 ∧ m (D + 20) 2 = 0)) (h46 : m 46 10 = (D : Int) ∧ m 46 6 = 0 ∧ m 46 7 = 0) (hv : v 0 18 = 6 ∧ v 0 19 = 4 ∧ v 0 20 = 0 ∧ v 0 21 = 0 ∧ v 0 22 = 0 ∧ v 0 23 = 0 ∧ v 0 49 = 0 ∧ v 0 24 = 0) (h3 : ∀ i, 0 ≤ i → i < 5 → v 3 i = 0) (h4 : ∀ i, 7 ≤ i → i < 14 → v 4 i = 0) (h15 : ∀ i, 3 ≤ i → i < 6 → v 15 i = 0) : DI m v D := by
  obtain ⟨⟨a0, a1, a2, a3, a6, a7, a8, a9, a10, a13⟩, ⟨b1, b2, b3⟩, c1, c2, c3, c4, c5, c6⟩ := hm
  have s0 : ∀ i, sl 21 m D 0 i = m D i := fun i => sl_e (Nat.zero_le _) i
  have s1 : sl 21 m D 1 0 = 0 := by rw [sl_e (by first | decide | omega)]; exact b1
  have s8 : sl 21 m D 8 0 = 0 := by rw [sl_e (by first | decide | omega)]; exact b2
  have s9 : sl 21 m D 8 1 = 0 := by rw [sl_e (by first | decide | omega)]; exact b3
  have t1 : sl 21 m D 16 1 = 0 := by rw [sl_e (by first | decide | omega)]; exact c1
  have t2 : sl 21 m D 16 2 = 0 := by rw [sl_e (by first | decide | omega)]; exact c2
  have t3 : sl 21 m D 18 1 = 0 := by rw [sl_e (by first | decide | omega)]; exact c3
  have t4 : sl 21 m D 18 2 = 0 := by rw [sl_e (by first | decide | omega)]; exact c4
  have t5 : sl 21 m D 20 1 = 0 := by rw [sl_e (by first | decide | omega)]; exact c5
  have t6 : sl 21 m D 20 2 = 0 := by rw [sl_e (by first | decide | omega)]; exact c6
  have lx : ∀ kn : Int → Int, LX kn 0 := fun kn => ⟨by first | decide | omega, fun j z => by first | decide | omega, fun z => by first | decide | omega⟩
  have rl : ∀ (k : Int) (a b : Nat), 0 ≤ k → k < 3 → sl 21 m D a 1 = 0 → sl 21 m D a 2 = 0 → RLw (kd v) (sl 21 m D) k a b := by
    intro k a b z1 z2 z3 z4
    unfold RLw
    rw [sh15 (by first | decide | omega), z3, z4, h15 _ (by first | decide | omega) (by first | decide | omega)]
    exact ⟨rfl, Or.inl rfl, fun _ => rfl, fun z => by first | decide | omega⟩
  refine ⟨⟨hDD, h46.1⟩, ⟨?_, ?_, ?_, ?_, ?_⟩, ⟨⟨?_, ?_, ?_, ?_, ?_, ?_⟩, ?_, ?_, ?_, ?_, rl 0 16 17 (by first | decide | omega) (by first | decide | omega) t1 t2, rl 1 18 19 (by first | decide | omega) (by first | decide | omega) t3 t4, rl 2 20 21 (by first | decide | omega) (by first | decide | omega) t5 t6⟩, ⟨?_, ?_, ?_⟩, ?_, ?_, ?_⟩
  · unfold WS
    rw [s0, s0, s0, s0, s0, s0, s0, s0, s0, s0, s1, s8, s9, a0, a1, a2, a3, a6, a7, a8, a9, a10, a13]
    omega
  · intro i p q; rw [s1] at q; omega
  · refine ⟨fun _ => s9, fun q => by rw [s8] at q; first | decide | omega, fun t p q => by rw [s8] at q; first | decide | omega⟩
  · intro i p q; rw [s9] at q; omega
  · exact ⟨by rw [t1]; exact lx _, by rw [t3]; exact lx _, by rw [t5]; exact lx _⟩
  · rw [s0, a0]; exact hv.1
  · rw [s0, a1]; exact hv.2.1
  · rw [s1]; exact hv.2.2.1
  · rw [s8]; exact hv.2.2.2.1
  · rw [s9]; exact hv.2.2.2.2.1
  · rw [s0, a13]; exact hv.2.2.2.2.2.1
  · rw [s0, s0, s0, s0, s0, s0, s0, a2, a3, a6, a7, a8, a9, a10]
    exact ⟨h4 7 (by first | decide | omega) (by first | decide | omega), h4 8 (by first | decide | omega) (by first | decide | omega), h4 9 (by first | decide | omega) (by first | decide | omega), h4 10 (by first | decide | omega) (by first | decide | omega), h4 11 (by first | decide | omega) (by first | decide | omega), h4 12 (by first | decide | omega) (by first | decide | omega), h4 13 (by first | decide | omega) (by first | decide | omega)⟩
  · intro i p q; rw [s1] at q; omega
  · intro i p q; rw [s8] at q; omega
  · intro i p q; rw [s9] at q; omega
  · exact Or.inl h46.2.2
  · rw [h46.2.2]; exact hv.2.2.2.2.2.2.2
  · intro _; rw [s0, s0]; exact ⟨s1, a2, a3⟩
  · unfold ONC
    rw [h46.2.1, h3 0 (by first | decide | omega) (by first | decide | omega), h3 1 (by first | decide | omega) (by first | decide | omega), h3 2 (by first | decide | omega) (by first | decide | omega), h3 3 (by first | decide | omega) (by first | decide | omega), h3 4 (by first | decide | omega) (by first | decide | omega)]
    refine ⟨?_, ?_, ?_, ?_, ?_⟩ <;> decide
  · rw [s0, a13]; exact hv.2.2.2.2.2.2.1
  · intro k z1 z2 z3; rw [h15 k (by first | decide | omega) (by first | decide | omega)] at z3; omega
theorem bg_v (u : Mem) (x : Int) : (up (up (up (up (up (up (up u 46 8 0) 46 9 (-1)) 46 6 0) 46 7 0) 47 1 1) 47 2 x) 47 3 0 46 6 = 0 ∧ up (up (up (up (up (up (up u 46 8 0) 46 9 (-1)) 46 6 0) 46 7 0) 47 1 1) 47 2 x) 47 3 0 46 7 = 0 ∧ up (up (up (up (up (up (up u 46 8 0) 46 9 (-1)) 46 6 0) 46 7 0) 47 1 1) 47 2 x) 47 3 0 46 8 = 0 ∧ up (up (up (up (up (up (up u 46 8 0) 46 9 (-1)) 46 6 0) 46 7 0) 47 1 1) 47 2 x) 47 3 0 46 9 = -1) ∧ (up (up (up (up (up (up (up u 46 8 0) 46 9 (-1)) 46 6 0) 46 7 0) 47 1 1) 47 2 x) 47 3 0 47 1 = 1 ∧ up (up (up (up (up (up (up u 46 8 0) 46 9 (-1)) 46 6 0) 46 7 0) 47 1 1) 47 2 x) 47 3 0 47 2 = x ∧ up (up (up (up (up (up (up u 46 8 0) 46 9 (-1)) 46 6 0) 46 7 0) 47 1 1) 47 2 x) 47 3 0 47 3 = 0) := by
  refine ⟨⟨?_, ?_, ?_, ?_⟩, ?_, ?_, ?_⟩
  · rw [up_a (by first | decide | omega), up_a (by first | decide | omega), up_a (by first | decide | omega), up_i (by first | decide | omega), up_e]
  · rw [up_a (by first | decide | omega), up_a (by first | decide | omega), up_a (by first | decide | omega), up_e]
  · rw [up_a (by first | decide | omega), up_a (by first | decide | omega), up_a (by first | decide | omega), up_i (by first | decide | omega), up_i (by first | decide | omega), up_i (by first | decide | omega), up_e]
  · rw [up_a (by first | decide | omega), up_a (by first | decide | omega), up_a (by first | decide | omega), up_i (by first | decide | omega), up_i (by first | decide | omega), up_e]
  · rw [up_i (by first | decide | omega), up_i (by first | decide | omega), up_e]
  · rw [up_i (by first | decide | omega), up_e]
  · exact up_e
theorem c_all0 {x : Int} (hx : x ≤ 700) : G5_readAll m x D = G5_readAll_44 1024 (up (up (up (up (up (up (up (fgB D (fgA D (up m 46 10 D))) 46 8 0) 46 9 (-1)) 46 6 0) 46 7 0) 47 1 1) 47 2 x) 47 3 0) 0 := by
  unfold G5_readAll G5_readAll_0 G7_begin G7_begin_0
  have c1 : ((1 : Nat) : Int) = 1 := rfl
  generalize (1024 : Nat) = K
  rw [wt_e, up_e, Int.toNat_natCast, c_fgt, bs1]
  simp only [wt_e, bs1, if_neg (show ¬ 700 < x by first | decide | omega), c1]
theorem c_begin {x : Int} (hDD : D = 2 ∨ D = 24) (hx : x ≤ 700) : ∃ mS, G5_readAll (up m 0 1 0) x D = G5_readAll_44 1024 mS 0 ∧ Fm (PT D) m mS ∧ (mS 0 1 = 0 ∧ mS 46 10 = (D : Int)) ∧ ((mS 46 6 = 0 ∧ mS 46 7 = 0 ∧ mS 46 8 = 0 ∧ mS 46 9 = -1) ∧ (mS 47 1 = 1 ∧ mS 47 2 = x ∧ mS 47 3 = 0)) ∧ mS D 12 = 0 ∧ ((mS D 0 = 6 ∧ mS D 1 = 4 ∧ mS D 2 = 0 ∧ mS D 3 = 0 ∧ mS D 6 = 0 ∧ mS D 7 = 0 ∧ mS D 8 = 0 ∧ mS D 9 = 0 ∧ mS D 10 = 0 ∧ mS D 13 = 0) ∧ (mS (D + 1) 0 = 0 ∧ mS (D + 8) 0 = 0 ∧ mS (D + 8) 1 = 0) ∧ (mS (D + 16) 1 = 0 ∧ mS (D + 16) 2 = 0 ∧ mS (D + 18) 1 = 0 ∧ mS (D + 18) 2 = 0 ∧ mS (D + 20) 1 = 0 ∧ mS (D + 20) 2 = 0)) := by
  have e1 := c_all0 (m := up m 0 1 0) (D := D) hx
  have f0 : Fm (fun b i => D ≤ b ∧ b ≤ D + 21) (up (up m 0 1 0) 46 10 D) (fgB D (fgA D (up (up m 0 1 0) 46 10 D))) := fg_f hDD
  have v0 := fg_v (m := up (up m 0 1 0) 46 10 D) hDD
  have g0 : Fm (fun b i => (b = 0 ∧ i = 1) ∨ (b = 46 ∧ i = 10)) m (up (up m 0 1 0) 46 10 D) := (Fm.w1 (by first | decide | omega)).w (by first | decide | omega)
  have k10 : up (up m 0 1 0) 46 10 D 46 10 = (D : Int) := up_e
  have k01 : up (up m 0 1 0) 46 10 D 0 1 = 0 := by rw [up_a (by first | decide | omega), up_e]
  generalize fgB D (fgA D (up (up m 0 1 0) 46 10 D)) = u0 at e1 f0 v0
  generalize up (up m 0 1 0) 46 10 (D : Int) = u1 at f0 g0 k10 k01
  have bv := bg_v u0 x
  have f1 : Fm (fun b i => (b = 46 ∧ 6 ≤ i ∧ i ≤ 9) ∨ b = 47) u0 (up (up (up (up (up (up (up u0 46 8 0) 46 9 (-1)) 46 6 0) 46 7 0) 47 1 1) 47 2 x) 47 3 0) := ((((((Fm.w1 (by first | decide | omega)).w (by first | decide | omega)).w (by first | decide | omega)).w (by first | decide | omega)).w (by first | decide | omega)).w (by first | decide | omega)).w (by first | decide | omega)
  generalize up (up (up (up (up (up (up u0 46 8 0) 46 9 (-1)) 46 6 0) 46 7 0) 47 1 1) 47 2 x) 47 3 0 = mS at e1 f1 bv
  have em : ∀ (b : Nat) i, D ≤ b → b ≤ D + 21 → mS b i = u0 b i := fun b i z1 z2 => f1 b i (by first | decide | omega)
  refine ⟨mS, e1, ((g0.mono ?_).tr (f0.mono ?_)).tr (f1.mono ?_), ⟨?_, ?_⟩, bv, ?_, ?_⟩
  · intro b i q; unfold PT; omega
  · intro b i q; unfold PT PX; omega
  · intro b i q; unfold PT PX; omega
  · rw [f1 0 1 (by first | decide | omega), f0 0 1 (by first | decide | omega)]; exact k01
  · rw [f1 46 10 (by first | decide | omega), f0 46 10 (by first | decide | omega)]; exact k10
  · rw [em D 12 (by first | decide | omega) (by first | decide | omega)]; exact v0.1.2.2.2.2.2.2.2.2.2.1
  · obtain ⟨⟨y0, y1, y2, y3, y6, y7, y8, y9, y10, y12, y13⟩, ⟨x1, x2, x3⟩, c1, c2, c3, c4, c5, c6⟩ := v0
    rw [em D 0 (by first | decide | omega) (by first | decide | omega), em D 1 (by first | decide | omega) (by first | decide | omega), em D 2 (by first | decide | omega) (by first | decide | omega), em D 3 (by first | decide | omega) (by first | decide | omega), em D 6 (by first | decide | omega) (by first | decide | omega), em D 7 (by first | decide | omega) (by first | decide | omega), em D 8 (by first | decide | omega) (by first | decide | omega), em D 9 (by first | decide | omega) (by first | decide | omega), em D 10 (by first | decide | omega) (by first | decide | omega), em D 13 (by first | decide | omega) (by first | decide | omega), em (D + 1) 0 (by first | decide | omega) (by first | decide | omega), em (D + 8) 0 (by first | decide | omega) (by first | decide | omega), em (D + 8) 1 (by first | decide | omega) (by first | decide | omega), em (D + 16) 1 (by first | decide | omega) (by first | decide | omega), em (D + 16) 2 (by first | decide | omega) (by first | decide | omega), em (D + 18) 1 (by first | decide | omega) (by first | decide | omega), em (D + 18) 2 (by first | decide | omega) (by first | decide | omega), em (D + 20) 1 (by first | decide | omega) (by first | decide | omega), em (D + 20) 2 (by first | decide | omega) (by first | decide | omega)]
    exact ⟨⟨y0, y1, y2, y3, y6, y7, y8, y9, y10, y13⟩, ⟨x1, x2, x3⟩, c1, c2, c3, c4, c5, c6⟩
end Q40
/-! How reading begins on both sides. -/
section Q41
variable {m v : Mem} {S : Int} {D : Nat}
def rb0 (v : Mem) (x : Int) : Mem := up (up (up (up (up (up v 0 2 0) 0 6 x) 0 1 0) 0 4 0) 0 5 (-1)) 0 7 0
def rb1 (v : Mem) : Mem := up (up (up (up (up (up (up (up v 0 18 6) 0 19 4) 0 20 0) 0 21 0) 0 22 0) 0 23 0) 0 49 0) 0 24 0
theorem rb_f {x : Int} : Fm (fun b i => b = 0 ∧ (i = 1 ∨ i = 2 ∨ (4 ≤ i ∧ i ≤ 7) ∨ (18 ≤ i ∧ i ≤ 24) ∨ i = 49)) v (rb1 (rb0 v x)) := by
  unfold rb1 rb0
  exact (((((((((((((Fm.w1 (by first | decide | omega)).w (by first | decide | omega)).w (by first | decide | omega)).w (by first | decide | omega)).w (by first | decide | omega)).w (by first | decide | omega)).w (by first | decide | omega)).w (by first | decide | omega)).w (by first | decide | omega)).w (by first | decide | omega)).w (by first | decide | omega)).w (by first | decide | omega)).w (by first | decide | omega)).w (by first | decide | omega)
theorem rb_v {x : Int} : (rb1 (rb0 v x) 0 18 = 6 ∧ rb1 (rb0 v x) 0 19 = 4 ∧ rb1 (rb0 v x) 0 20 = 0 ∧ rb1 (rb0 v x) 0 21 = 0 ∧ rb1 (rb0 v x) 0 22 = 0 ∧ rb1 (rb0 v x) 0 23 = 0 ∧ rb1 (rb0 v x) 0 49 = 0 ∧ rb1 (rb0 v x) 0 24 = 0) ∧ (rb1 (rb0 v x) 0 6 = x ∧ rb1 (rb0 v x) 0 1 = 0 ∧ rb1 (rb0 v x) 0 4 = 0 ∧ rb1 (rb0 v x) 0 5 = -1 ∧ rb1 (rb0 v x) 0 7 = 0) := by
  refine ⟨⟨?_, ?_, ?_, ?_, ?_, ?_, ?_, ?_⟩, ?_, ?_, ?_, ?_, ?_⟩ <;> rfl
theorem r_begin {x : Int} : ∃ w1, G12_plain (rb0 v x) = some w1 ∧ Fm (fun b i => (b = 0 ∧ (i = 1 ∨ i = 2 ∨ (4 ≤ i ∧ i ≤ 7) ∨ (18 ≤ i ∧ i ≤ 24) ∨ i = 49)) ∨ b = 3 ∨ (b = 4 ∧ 7 ≤ i) ∨ (b = 15 ∧ 3 ≤ i)) v w1 ∧ ((w1 0 18 = 6 ∧ w1 0 19 = 4 ∧ w1 0 20 = 0 ∧ w1 0 21 = 0 ∧ w1 0 22 = 0 ∧ w1 0 23 = 0 ∧ w1 0 49 = 0 ∧ w1 0 24 = 0) ∧ (w1 0 6 = x ∧ w1 0 1 = 0 ∧ w1 0 4 = 0 ∧ w1 0 5 = -1 ∧ w1 0 7 = 0)) ∧ (∀ i, 0 ≤ i → i < 5 → w1 3 i = 0) ∧ (∀ i, 7 ≤ i → i < 14 → w1 4 i = 0) ∧ ∀ i, 3 ≤ i → i < 6 → w1 15 i = 0 := by
  have e0 : G12_plain (rb0 v x) = G12_plain_43 1024 (rb1 (rb0 v x)) 0 := by
    unfold G12_plain G12_plain_0 rb1
    rw [wt_e, wt_e, wt_e, wt_e, wt_e, wt_e, wt_e, wt_e]
  have h0 := rb_f (v := v) (x := x)
  have hv := rb_v (v := v) (x := x)
  rw [e0]
  generalize rb1 (rb0 v x) = w0 at h0 hv ⊢
  obtain ⟨w1, a1, a2, a3, a4, a5⟩ := r_p43 5 1024 0 w0 (by first | decide | omega) (by first | decide | omega) (by first | decide | omega)
  have W1 : ∀ i, w1 0 i = w0 0 i := fun i => a2 0 i (by first | decide | omega)
  refine ⟨w1, a1, (h0.mono ?_).tr (a2.mono ?_), ?_, a3, a4, a5⟩
  · intro b i q; omega
  · intro b i q; omega
  · rw [W1, W1, W1, W1, W1, W1, W1, W1, W1, W1, W1, W1, W1]; exact hv
theorem rb_Q : ∀ (b : Nat) (i : Int), ((b = 0 ∧ (i = 1 ∨ i = 2 ∨ (4 ≤ i ∧ i ≤ 7) ∨ (18 ≤ i ∧ i ≤ 24) ∨ i = 49)) ∨ b = 3 ∨ (b = 4 ∧ 7 ≤ i) ∨ (b = 15 ∧ 3 ≤ i)) → QT b i := by
  intro b i q
  unfold QT QX
  omega
theorem Q7_T : ∀ (b : Nat) (i : Int), Q7 b i → QT b i := by
  intro b i q
  unfold Q7 at q
  unfold QT QX
  omega
/-- both begin to read -/
theorem t_begin {x : Int} (hDD : D = 2 ∨ D = 24) (hT : RTp m v) (hx : 0 ≤ x ∧ x ≤ m 0 1) : ∃ mS vS w1, G5_readAll (up m 0 1 0) x D = G5_readAll_44 1024 mS 0 ∧ G12_plain (rb0 v x) = some w1 ∧ G12_token w1 = some vS ∧ Fm (PT D) m mS ∧ Fm QT v vS ∧ DI mS vS D ∧ PreR mS vS x ∧ mS D 12 = 0 ∧ mS 47 3 = 0 ∧ mS 0 1 = 0 ∧ vS 0 1 = 0 ∧ mS 46 8 = 0 ∧ mS 46 9 = -1 ∧ vS 0 4 = 0 ∧ vS 0 5 = -1 := by
  obtain ⟨p1, p2, p3, p4, p5⟩ := hT
  obtain ⟨mS, e1, FS, ⟨k01, k10⟩, ⟨⟨j6, j7, j8, j9⟩, l1, l2, l3⟩, k12, v0⟩ := c_begin (m := m) (D := D) (x := x) hDD (by first | decide | omega)
  obtain ⟨w1, a1, a2, ⟨hv1, hv2⟩, a3, a4, a5⟩ := r_begin (v := v) (x := x)
  have hTP : TPx w1 (mS 1) x := by
    have r1 : mS 1 = m 1 := funext fun i => FS 1 i (by unfold PT PX; first | decide | omega)
    refine ⟨by first | decide | omega, hv2.1, fun i z1 z2 => ?_, fun i z => ?_⟩
    · rw [r1, a2 1 i (by first | decide | omega)]; exact p3 i z1 (by first | decide | omega)
    · rw [a2 2 i (by first | decide | omega)]; exact p5 i z
  obtain ⟨v', e, f, k1, k2, k3⟩ := r_tokS (p := 0) hTP (by first | decide | omega) hv2.2.2.2.2
  have V1 : ∀ i, (i < 7 ∨ 10 < i) → v' 0 i = w1 0 i := fun i z => f 0 i (by unfold Q7; first | decide | omega)
  refine ⟨mS, v', w1, e1, a1, e, FS, ?_, ?_, ⟨hTP.q f, l1, l2, ⟨fun i z => ?_, by rw [j8, j9, V1 4 (by first | decide | omega), V1 5 (by first | decide | omega)]; exact ⟨hv2.2.2.1.symm, hv2.2.2.2.1.symm⟩⟩, by first | decide | omega, ?_, ?_, ?_⟩, k12, l3, k01, ?_, j8, j9, ?_, ?_⟩
  · exact (a2.mono rb_Q).tr (f.mono Q7_T)
  · refine di_new hDD v0 ⟨k10, j6, j7⟩ ?_ (fun i z1 z2 => ?_) (fun i z1 z2 => ?_) (fun i z1 z2 => ?_)
    · rw [V1 18 (by first | decide | omega), V1 19 (by first | decide | omega), V1 20 (by first | decide | omega), V1 21 (by first | decide | omega), V1 22 (by first | decide | omega), V1 23 (by first | decide | omega), V1 49 (by first | decide | omega), V1 24 (by first | decide | omega)]; exact hv1
    · rw [f 3 i (by unfold Q7; first | decide | omega)]; exact a3 i z1 z2
    · rw [f 4 i (by unfold Q7; first | decide | omega)]; exact a4 i z1 z2
    · rw [f 15 i (by unfold Q7; first | decide | omega)]; exact a5 i z1 z2
  · rw [FS 48 i (by unfold PT PX; first | decide | omega)]; exact p4 i z
  · rw [l3]; exact k1
  · rw [l3]; exact k2
  · rw [l3]; exact k3
  · rw [V1 1 (by first | decide | omega)]; exact hv2.2.1
  · rw [V1 4 (by first | decide | omega)]; exact hv2.2.2.1
  · rw [V1 5 (by first | decide | omega)]; exact hv2.2.2.2.1
end Q41
/-! The reference keeps what it has read, and begins. -/
section Q42
variable {m v : Mem} {S : Int} {D : Nat}
/-- where the kept text lies -/
def KT (b : Nat) (i : Int) : Prop := (b = 0 ∧ 12 ≤ i ∧ i ≤ 17) ∨ (b = 4 ∧ 0 ≤ i ∧ i < 7) ∨ ((5 ≤ b ∧ b ≤ 10) ∧ 0 ≤ i ∧ i < 5) ∨ (b = 11 ∧ 0 ≤ i ∧ i < 4) ∨ ((12 ≤ b ∧ b ≤ 14) ∧ 0 ≤ i ∧ i < 28) ∨ ((15 ≤ b ∧ b ≤ 17) ∧ 0 ≤ i ∧ i < 3) ∨ ((18 ≤ b ∧ b ≤ 20) ∧ 0 ≤ i ∧ i < 64)
theorem RLw.fr4 {u u' w : Mem} {k : Int} {a b : Nat} (h : RLw u w k a b) (hk : 0 ≤ k ∧ k < 3) (e : ∀ b i, KT b i → u' b i = u b i) : RLw u' w k a b := by
  obtain ⟨h1, h2, h3, h4⟩ := h
  unfold RLw
  rw [e 15 k (by unfold KT; first | decide | omega), e 16 k (by unfold KT; first | decide | omega), e 17 k (by unfold KT; first | decide | omega)]
  refine ⟨h1, h2, h3, fun q => ?_⟩
  obtain ⟨g1, g2, g3, g4, g5⟩ := h4 q
  exact ⟨g1, g2, g3, g4, fun j z => (g5 j z).c (fun _ _ => rfl) (e 18 _ (by unfold KT; first | decide | omega)) (e 19 _ (by unfold KT; first | decide | omega)) (e 20 _ (by unfold KT; first | decide | omega))⟩
theorem RT.fr2 {u u' w : Mem} (h : RT u w) (hS : WS w) (e : ∀ b i, KT b i → u' b i = u b i) : RT u' w := by
  unfold WS at hS
  obtain ⟨⟨a1, a2, a3, a4, a5, a6⟩, b, c, d, f, r1, r2, r3⟩ := h
  refine ⟨?_, ?_, fun i p q => ?_, fun i p q => ?_, fun i p q => ?_, r1.fr4 (by first | decide | omega) e, r2.fr4 (by first | decide | omega) e, r3.fr4 (by first | decide | omega) e⟩
  · rw [e 0 12 (by unfold KT; first | decide | omega), e 0 13 (by unfold KT; first | decide | omega), e 0 14 (by unfold KT; first | decide | omega), e 0 15 (by unfold KT; first | decide | omega), e 0 16 (by unfold KT; first | decide | omega), e 0 17 (by unfold KT; first | decide | omega)]
    exact ⟨a1, a2, a3, a4, a5, a6⟩
  · rw [e 4 0 (by unfold KT; first | decide | omega), e 4 1 (by unfold KT; first | decide | omega), e 4 2 (by unfold KT; first | decide | omega), e 4 3 (by unfold KT; first | decide | omega), e 4 4 (by unfold KT; first | decide | omega), e 4 5 (by unfold KT; first | decide | omega), e 4 6 (by unfold KT; first | decide | omega)]
    exact b
  · rw [e 5 i (by unfold KT; first | decide | omega), e 6 i (by unfold KT; first | decide | omega), e 7 i (by unfold KT; first | decide | omega), e 8 i (by unfold KT; first | decide | omega), e 9 i (by unfold KT; first | decide | omega), e 10 i (by unfold KT; first | decide | omega)]
    exact c i p q
  · rw [e 11 i (by unfold KT; first | decide | omega)]; exact d i p q
  · rw [e 12 i (by unfold KT; first | decide | omega), e 13 i (by unfold KT; first | decide | omega), e 14 i (by unfold KT; first | decide | omega)]; exact f i p q
theorem r_cop2 {a : Nat} {n : Int} (hn : 0 ≤ n ∧ n ≤ 64) (hl : lnM a = 2 * n) : ∀ (d k : Nat) (x : Int) (v : Mem), (n - x).toNat = d → d < k → 0 ≤ x → ∃ v', G12_copies_2 k v a n x = some v' ∧ Fm (fun b i => b = a ∧ x ≤ i ∧ i < n) v v' ∧ ∀ i, x ≤ i → i < n → v' a i = v a (n + i) := by
  intro d
  induction d with
  | zero =>
    intro k x v h1 h2 h3
    obtain ⟨k, rfl⟩ : ∃ j, k = j + 1 := ⟨k - 1, by first | decide | omega⟩
    rw [G12_copies_2, if_pos (by first | decide | omega)]
    exact ⟨v, rfl, Fm.rf, fun i a b => by first | decide | omega⟩
  | succ d ih =>
    intro k x v h1 h2 h3
    obtain ⟨k, rfl⟩ : ∃ j, k = j + 1 := ⟨k - 1, by first | decide | omega⟩
    rw [G12_copies_2, if_neg (by first | decide | omega), hl, gdx_t (by first | decide | omega), gdx_t (by first | decide | omega), wt_e, gd3_t (by first | decide | omega)]
    obtain ⟨v', e, f, g⟩ := ih k (x + 1) (up v a x (v a (n + x))) (by first | decide | omega) (by first | decide | omega) (by first | decide | omega)
    refine ⟨v', e, (Fm.w1 (by first | decide | omega)).tr (f.mono (by intro b i q; first | decide | omega)), fun i z1 z2 => ?_⟩
    by_cases c : i = x
    · rw [c, f a x (by first | decide | omega), up_e]
    · rw [g i (by first | decide | omega) z2, up_i (by first | decide | omega)]
theorem r_cop {a : Nat} {n : Int} (v : Mem) (hn : 0 ≤ n ∧ n ≤ 64) (hl : lnM a = 2 * n) : ∃ v', G12_copies v a n = some v' ∧ Fm (fun b i => b = a ∧ 0 ≤ i ∧ i < n) v v' ∧ ∀ i, 0 ≤ i → i < n → v' a i = v a (n + i) := r_cop2 hn hl n.toNat 1024 0 v (by first | decide | omega) (by first | decide | omega) (by first | decide | omega)
theorem ln_4 : lnM 4 = 2 * 7 := by decide
theorem ln_5 : lnM 5 = 2 * 5 ∧ lnM 6 = 2 * 5 ∧ lnM 7 = 2 * 5 ∧ lnM 8 = 2 * 5 ∧ lnM 9 = 2 * 5 ∧ lnM 10 = 2 * 5 := by decide
theorem ln_11 : lnM 11 = 2 * 4 ∧ lnM 12 = 2 * 28 ∧ lnM 13 = 2 * 28 ∧ lnM 14 = 2 * 28 := by decide
theorem ln_16 : lnM 16 = 2 * 3 ∧ lnM 17 = 2 * 3 ∧ lnM 18 = 2 * 64 ∧ lnM 19 = 2 * 64 ∧ lnM 20 = 2 * 64 := by decide
/-- what is kept so far: rows below c, and the numbers -/
def KD (c : Nat) (v0 v : Mem) : Prop := (∀ b i, KT b i → b < c → v b i = kd v0 b i) ∧ Fm (fun b i => KT b i ∧ b < c) v0 v
theorem KD.cop {c : Nat} {n : Int} {v0 v v' : Mem} (h : KD c v0 v) (hc : 4 ≤ c ∧ c ≤ 20) (hn : ∀ i, KT c i ↔ 0 ≤ i ∧ i < n) (hs : ∀ i, sh c i = n + i) (f : Fm (fun b i => b = c ∧ 0 ≤ i ∧ i < n) v v') (g : ∀ i, 0 ≤ i → i < n → v' c i = v c (n + i)) : KD (c + 1) v0 v' := by
  obtain ⟨h1, h2⟩ := h
  refine ⟨fun b i z1 z2 => ?_, (h2.mono (fun b i q => ⟨q.1, by first | decide | omega⟩)).tr (f.mono (fun b i q => ⟨by rw [q.1]; exact (hn i).mpr q.2, by first | decide | omega⟩))⟩
  by_cases c1 : b = c
  · subst c1
    have hi := (hn i).mp z1
    rw [g i hi.1 hi.2]
    show v b (n + i) = v0 b (sh b i)
    rw [hs, h2 b _ (fun q => by first | decide | omega)]
  · rw [f b i (by first | decide | omega)]; exact h1 b i z1 (by first | decide | omega)
theorem r_k142 {v0 : Mem} (hb : ∀ i, 3 ≤ i → i < 6 → v0 15 i = 0 ∨ v0 15 i = 1) : ∀ (d k : Nat) (x : Int) (v : Mem), (3 - x).toNat = d → d < k → 0 ≤ x → (∀ i, 3 ≤ i → v 15 i = v0 15 i) → ∃ v', G12_keepText_142 k v x = (G12_copies v' 16 3).bind (fun o4 => (G12_copies o4 17 3).bind fun o8 => (G12_copies o8 18 64).bind fun o12 => (G12_copies o12 19 64).bind fun o16 => (G12_copies o16 20 64).bind fun o20 => (G12_begin o20).bind fun o22 => some o22) ∧ Fm (fun b i => b = 15 ∧ x ≤ i ∧ i < 3) v v' ∧ ∀ i, x ≤ i → i < 3 → v' 15 i = v0 15 (3 + i) := by
  intro d
  induction d with
  | zero =>
    intro k x v h1 h2 h3 h4
    obtain ⟨k, rfl⟩ : ∃ j, k = j + 1 := ⟨k - 1, by first | decide | omega⟩
    rw [G12_keepText_142, if_pos (by first | decide | omega)]
    exact ⟨v, rfl, Fm.rf, fun i a b => by first | decide | omega⟩
  | succ d ih =>
    intro k x v h1 h2 h3 h4
    obtain ⟨k, rfl⟩ : ∃ j, k = j + 1 := ⟨k - 1, by first | decide | omega⟩
    have hx := hb (3 + x) (by first | decide | omega) (by first | decide | omega)
    rw [G12_keepText_142, if_neg (by first | decide | omega), gdx_t (by first | decide | omega), gdx_t (by first | decide | omega), h4 (3 + x) (by first | decide | omega), gdb_t (by first | decide | omega), wt_e, gd3_t (by first | decide | omega)]
    obtain ⟨v', e, f, g⟩ := ih k (x + 1) (up v 15 x (v0 15 (3 + x))) (by first | decide | omega) (by first | decide | omega) (by first | decide | omega) (fun i z => by rw [up_i (by first | decide | omega)]; exact h4 i z)
    refine ⟨v', e, (Fm.w1 (by first | decide | omega)).tr (f.mono (by intro b i q; first | decide | omega)), fun i z1 z2 => ?_⟩
    by_cases c : i = x
    · rw [c, f 15 x (by first | decide | omega), up_e]
    · exact g i (by first | decide | omega) z2
theorem r_keep {v0 : Mem} (hb : ∀ i, 3 ≤ i → i < 6 → v0 15 i = 0 ∨ v0 15 i = 1) : ∃ v', G12_keepText v0 = (G12_begin v').bind (fun o => some o) ∧ KD 21 v0 v' := by
  have k4 : ∀ i, KT 4 i ↔ 0 ≤ i ∧ i < 7 := fun i => by unfold KT; omega
  have k5 : ∀ (b : Nat) i, 5 ≤ b ∧ b ≤ 10 → (KT b i ↔ 0 ≤ i ∧ i < 5) := fun b i z => by unfold KT; omega
  have k11 : ∀ i, KT 11 i ↔ 0 ≤ i ∧ i < 4 := fun i => by unfold KT; omega
  have k12 : ∀ (b : Nat) i, 12 ≤ b ∧ b ≤ 14 → (KT b i ↔ 0 ≤ i ∧ i < 28) := fun b i z => by unfold KT; omega
  have k15 : ∀ (b : Nat) i, 15 ≤ b ∧ b ≤ 17 → (KT b i ↔ 0 ≤ i ∧ i < 3) := fun b i z => by unfold KT; omega
  have k18 : ∀ (b : Nat) i, 18 ≤ b ∧ b ≤ 20 → (KT b i ↔ 0 ≤ i ∧ i < 64) := fun b i z => by unfold KT; omega
  unfold G12_keepText G12_keepText_0
  rw [wt_e, wt_e, up_i (by first | decide | omega), wt_e, up_i (by first | decide | omega), up_i (by first | decide | omega), wt_e, up_i (by first | decide | omega), up_i (by first | decide | omega), up_i (by first | decide | omega), wt_e, up_i (by first | decide | omega), up_i (by first | decide | omega), up_i (by first | decide | omega), up_i (by first | decide | omega), wt_e, up_i (by first | decide | omega), up_i (by first | decide | omega), up_i (by first | decide | omega), up_i (by first | decide | omega), up_i (by first | decide | omega)]
  have d0 : KD 4 v0 (up (up (up (up (up (up v0 0 12 (v0 0 18)) 0 13 (v0 0 19)) 0 14 (v0 0 20)) 0 15 (v0 0 21)) 0 16 (v0 0 22)) 0 17 (v0 0 23)) := by
    refine ⟨fun b i z1 z2 => ?_, (((((Fm.w1 (by unfold KT; first | decide | omega)).w (by unfold KT; first | decide | omega)).w (by unfold KT; first | decide | omega)).w (by unfold KT; first | decide | omega)).w (by unfold KT; first | decide | omega)).w (by unfold KT; first | decide | omega)⟩
    have hb0 : b = 0 := by unfold KT at z1; omega
    subst hb0
    rcases (show i = 12 ∨ i = 13 ∨ i = 14 ∨ i = 15 ∨ i = 16 ∨ i = 17 by unfold KT at z1; first | decide | omega) with e | e | e | e | e | e <;> subst e
    · rw [up_i (by first | decide | omega), up_i (by first | decide | omega), up_i (by first | decide | omega), up_i (by first | decide | omega), up_i (by first | decide | omega), up_e]; rfl
    · rw [up_i (by first | decide | omega), up_i (by first | decide | omega), up_i (by first | decide | omega), up_i (by first | decide | omega), up_e]; rfl
    · rw [up_i (by first | decide | omega), up_i (by first | decide | omega), up_i (by first | decide | omega), up_e]; rfl
    · rw [up_i (by first | decide | omega), up_i (by first | decide | omega), up_e]; rfl
    · rw [up_i (by first | decide | omega), up_e]; rfl
    · rw [up_e]; rfl
  generalize up (up (up (up (up (up v0 0 12 (v0 0 18)) 0 13 (v0 0 19)) 0 14 (v0 0 20)) 0 15 (v0 0 21)) 0 16 (v0 0 22)) 0 17 (v0 0 23) = u0 at d0 ⊢
  obtain ⟨u1, a1, b1, c1⟩ := r_cop (a := 4) (n := 7) u0 (by first | decide | omega) ln_4
  have d1 := d0.cop (by first | decide | omega) k4 (fun i => rfl) b1 c1
  rw [a1, bs1]
  obtain ⟨u2, a2, b2, c2⟩ := r_cop (a := 5) (n := 5) u1 (by first | decide | omega) ln_5.1
  have d2 := d1.cop (by first | decide | omega) (fun i => k5 5 i (by first | decide | omega)) (fun i => rfl) b2 c2
  rw [a2, bs1]
  obtain ⟨u3, a3, b3, c3⟩ := r_cop (a := 6) (n := 5) u2 (by first | decide | omega) ln_5.2.1
  have d3 := d2.cop (by first | decide | omega) (fun i => k5 6 i (by first | decide | omega)) (fun i => rfl) b3 c3
  rw [a3, bs1]
  obtain ⟨u4, a4, b4, c4⟩ := r_cop (a := 7) (n := 5) u3 (by first | decide | omega) ln_5.2.2.1
  have d4 := d3.cop (by first | decide | omega) (fun i => k5 7 i (by first | decide | omega)) (fun i => rfl) b4 c4
  rw [a4, bs1]
  obtain ⟨u5, a5, b5, c5⟩ := r_cop (a := 8) (n := 5) u4 (by first | decide | omega) ln_5.2.2.2.1
  have d5 := d4.cop (by first | decide | omega) (fun i => k5 8 i (by first | decide | omega)) (fun i => rfl) b5 c5
  rw [a5, bs1]
  obtain ⟨u6, a6, b6, c6⟩ := r_cop (a := 9) (n := 5) u5 (by first | decide | omega) ln_5.2.2.2.2.1
  have d6 := d5.cop (by first | decide | omega) (fun i => k5 9 i (by first | decide | omega)) (fun i => rfl) b6 c6
  rw [a6, bs1]
  obtain ⟨u7, a7, b7, c7⟩ := r_cop (a := 10) (n := 5) u6 (by first | decide | omega) ln_5.2.2.2.2.2
  have d7 := d6.cop (by first | decide | omega) (fun i => k5 10 i (by first | decide | omega)) (fun i => rfl) b7 c7
  rw [a7, bs1]
  obtain ⟨u8, a8, b8, c8⟩ := r_cop (a := 11) (n := 4) u7 (by first | decide | omega) ln_11.1
  have d8 := d7.cop (by first | decide | omega) k11 (fun i => rfl) b8 c8
  rw [a8, bs1]
  obtain ⟨u9, a9, b9, c9⟩ := r_cop (a := 12) (n := 28) u8 (by first | decide | omega) ln_11.2.1
  have d9 := d8.cop (by first | decide | omega) (fun i => k12 12 i (by first | decide | omega)) (fun i => rfl) b9 c9
  rw [a9, bs1]
  obtain ⟨ua, aa, ba, ca⟩ := r_cop (a := 13) (n := 28) u9 (by first | decide | omega) ln_11.2.2.1
  have da := d9.cop (by first | decide | omega) (fun i => k12 13 i (by first | decide | omega)) (fun i => rfl) ba ca
  rw [aa, bs1]
  obtain ⟨ub, ab, bb, cb⟩ := r_cop (a := 14) (n := 28) ua (by first | decide | omega) ln_11.2.2.2
  have db := da.cop (by first | decide | omega) (fun i => k12 14 i (by first | decide | omega)) (fun i => rfl) bb cb
  rw [ab, bs1]
  obtain ⟨uc, ac, bc, cc⟩ := r_k142 hb 3 1024 0 ub (by first | decide | omega) (by first | decide | omega) (by first | decide | omega) (fun i z => db.2 15 i (fun q => by first | decide | omega))
  have dc : KD 16 v0 uc := db.cop (c := 15) (n := 3) (by first | decide | omega) (fun i => k15 15 i (by first | decide | omega)) (fun i => rfl) bc (fun i z1 z2 => by rw [cc i z1 z2, db.2 15 (3 + i) (fun q => by first | decide | omega)])
  rw [ac]
  obtain ⟨ud, ad, bd, cd⟩ := r_cop (a := 16) (n := 3) uc (by first | decide | omega) ln_16.1
  have dd := dc.cop (by first | decide | omega) (fun i => k15 16 i (by first | decide | omega)) (fun i => rfl) bd cd
  rw [ad, bs1]
  obtain ⟨ue, ae, be, ce⟩ := r_cop (a := 17) (n := 3) ud (by first | decide | omega) ln_16.2.1
  have de := dd.cop (by first | decide | omega) (fun i => k15 17 i (by first | decide | omega)) (fun i => rfl) be ce
  rw [ae, bs1]
  obtain ⟨uf, af, bf, cf⟩ := r_cop (a := 18) (n := 64) ue (by first | decide | omega) ln_16.2.2.1
  have df := de.cop (by first | decide | omega) (fun i => k18 18 i (by first | decide | omega)) (fun i => rfl) bf cf
  rw [af, bs1]
  obtain ⟨ug, ag, bg, cg⟩ := r_cop (a := 19) (n := 64) uf (by first | decide | omega) ln_16.2.2.2.1
  have dg := df.cop (by first | decide | omega) (fun i => k18 19 i (by first | decide | omega)) (fun i => rfl) bg cg
  rw [ag, bs1]
  obtain ⟨uh, ah, bh, ch⟩ := r_cop (a := 20) (n := 64) ug (by first | decide | omega) ln_16.2.2.2.2
  have dh := dg.cop (by first | decide | omega) (fun i => k18 20 i (by first | decide | omega)) (fun i => rfl) bh ch
  rw [ah, bs1]
  exact ⟨uh, rfl, dh⟩
end Q42
/-! Both begin anew with a text. -/
section Q43
variable {m v w : Mem} {S : Int} {D : Nat}
theorem c_t47 (hDD : D = 2 ∨ D = 24) (hW : WW w) : ∀ (d k : Nat) (x : Int) (m : Mem), (w 8 1 - x).toNat = d → d < k → 0 ≤ x → m 51 0 = (D : Int) → TX m D w → ∃ m', G6_takeAsTold_47 k m 51 x = some m' ∧ Fm (fun b i => (b = 54 ∧ x ≤ i) ∨ b = 55 ∨ b = 56) m m' ∧ ∀ i, x ≤ i → i < w 8 1 → m' 54 i = pkX w (w 11 i) := by
  have hs : w 8 1 ≤ 28 := by have := hW.1; unfold WS at this; omega
  intro d
  induction d with
  | zero =>
    intro k x m h1 h2 h3 h4 h5
    obtain ⟨k, rfl⟩ : ∃ j, k = j + 1 := ⟨k - 1, by first | decide | omega⟩
    rw [G6_takeAsTold_47, h4, Int.toNat_natCast, h5.2.2 8 1 (by first | decide | omega), if_pos (by first | decide | omega)]
    exact ⟨m, rfl, Fm.rf, fun i a b => by first | decide | omega⟩
  | succ d ih =>
    intro k x m h1 h2 h3 h4 h5
    obtain ⟨k, rfl⟩ : ∃ j, k = j + 1 := ⟨k - 1, by first | decide | omega⟩
    have hv := (hW.2.2.2.1 x h3 (by first | decide | omega)).2.1
    have hcx : CX m 51 D w (sl 3 m 51) := ⟨h5, Or.inl rfl, h4, fun c i _ h => (sl_e h i).symm⟩
    obtain ⟨m1, e1, f1⟩ := g_pkX hcx hW (mn := w 11 x) (by first | decide | omega)
    rw [G6_takeAsTold_47, h4, Int.toNat_natCast, h5.2.2 8 1 (by first | decide | omega), if_neg (by first | decide | omega), gdx_t (by first | decide | omega), h5.2.2 11 x (by first | decide | omega), e1, bs1, gdx_t (by first | decide | omega), wt_e, gd3_t (by first | decide | omega)]
    have f2 : Fm (fun b i => (b = 54 ∧ x ≤ i) ∨ b = 55 ∨ b = 56) m (up m1 54 x (pkX w (w 11 x))) := ((f1.fm).mono (by intro b i q; unfold PN at q; first | decide | omega)).w (by first | decide | omega)
    obtain ⟨m', e, f, g⟩ := ih k (x + 1) (up m1 54 x (pkX w (w 11 x))) (by first | decide | omega) (by first | decide | omega) (by first | decide | omega) (by rw [f2 51 0 (by first | decide | omega)]; exact h4) ⟨hDD, fun i => by rw [f2 D i (by first | decide | omega)]; exact h5.2.1 i, fun c i hc => by rw [f2 (D + c) i (by first | decide | omega)]; exact h5.2.2 c i hc⟩
    refine ⟨m', e, f2.tr (f.mono (by intro b i q; first | decide | omega)), fun i z1 z2 => ?_⟩
    by_cases c : i = x
    · rw [c, f 54 x (by first | decide | omega), up_e]
    · exact g i (by first | decide | omega) z2
theorem c_told (hDD : D = 2 ∨ D = 24) (hW : WW (sl 21 m D)) : ∃ m', G6_takeAsTold m 51 D = some m' ∧ Fm (fun b i => 51 ≤ b ∧ b ≤ 56) m m' ∧ m' 51 0 = (D : Int) ∧ GE (sl 21 m D) (sl 3 m' 51) (gM (sl 21 m D) (-1)) := by
  unfold G6_takeAsTold G6_takeAsTold_0
  have hs := hW.1
  unfold WS at hs
  have e1 : up m 51 0 (D : Int) 51 0 = (D : Int) := up_e
  rw [wt_e, e1, Int.toNat_natCast, wt_e]
  have e2 : cpy (up m 51 0 (D : Int)) (D + 4) 0 (51 + 1) 0 5 51 0 = (D : Int) := by rw [cpy_a (by first | decide | omega)]; exact e1
  rw [e2, Int.toNat_natCast, wt_e]
  have f0 : Fm (fun b i => 51 ≤ b ∧ b ≤ 53) m (cpy (cpy (up m 51 0 (D : Int)) (D + 4) 0 (51 + 1) 0 5) (D + 6) 0 (51 + 2) 0 5) := by
    intro b i q
    rw [cpy_a (by first | decide | omega), cpy_a (by first | decide | omega), up_a (by first | decide | omega)]
  have k0 : cpy (cpy (up m 51 0 (D : Int)) (D + 4) 0 (51 + 1) 0 5) (D + 6) 0 (51 + 2) 0 5 51 0 = (D : Int) := by rw [cpy_a (by first | decide | omega)]; exact e2
  have k1 : ∀ i, 0 ≤ i → i < 5 → cpy (cpy (up m 51 0 (D : Int)) (D + 4) 0 (51 + 1) 0 5) (D + 6) 0 (51 + 2) 0 5 52 i = m (D + 4) i := fun i z1 z2 => by
    rw [cpy_a (by first | decide | omega)]
    have z : cpy (up m 51 0 (D : Int)) (D + 4) 0 (51 + 1) 0 5 52 i = up m 51 0 (D : Int) (D + 4) (0 + (i - 0)) := cpy_in (by first | decide | omega)
    rw [z, up_a (by first | decide | omega), show 0 + (i - 0) = i by first | decide | omega]
  have k2 : ∀ i, 0 ≤ i → i < 5 → cpy (cpy (up m 51 0 (D : Int)) (D + 4) 0 (51 + 1) 0 5) (D + 6) 0 (51 + 2) 0 5 53 i = m (D + 6) i := fun i z1 z2 => by
    have z : cpy (cpy (up m 51 0 (D : Int)) (D + 4) 0 (51 + 1) 0 5) (D + 6) 0 (51 + 2) 0 5 53 i = cpy (up m 51 0 (D : Int)) (D + 4) 0 (51 + 1) 0 5 (D + 6) (0 + (i - 0)) := cpy_in (by first | decide | omega)
    rw [z, cpy_a (by first | decide | omega), up_a (by first | decide | omega), show 0 + (i - 0) = i by first | decide | omega]
  generalize cpy (cpy (up m 51 0 (D : Int)) (D + 4) 0 (51 + 1) 0 5) (D + 6) 0 (51 + 2) 0 5 = u at f0 k0 k1 k2 ⊢
  have ht : TX u D (sl 21 m D) := ⟨hDD, fun i => by rw [f0 D i (by first | decide | omega)]; exact (sl_e (Nat.zero_le _) i).symm, fun c i hc => by rw [f0 (D + c) i (by first | decide | omega)]; exact (sl_e hc i).symm⟩
  obtain ⟨m', e, f, g⟩ := c_t47 hDD hW (sl 21 m D 8 1).toNat 1024 0 u (by first | decide | omega) (by first | decide | omega) (by first | decide | omega) k0 ht
  refine ⟨m', e, (f0.mono (by intro b i q; first | decide | omega)).tr (f.mono (by intro b i q; first | decide | omega)), by rw [f 51 0 (by first | decide | omega)]; exact k0, fun i z1 z2 => ?_, fun k z1 z2 => ?_⟩
  · rw [sl_e (by first | decide | omega), sl_e (by first | decide | omega), f 52 i (by first | decide | omega), f 53 i (by first | decide | omega), k1 i z1 (by first | decide | omega), k2 i z1 (by first | decide | omega)]
    refine ⟨?_, ?_⟩
    · show m (D + 4) i = bdM (sl 21 m D) (-1) i
      unfold bdM
      rw [if_neg (by first | decide | omega), sl_e (by first | decide | omega)]
    · show m (D + 6) i = if (-1 : Int) = 0 then 0 else sl 21 m D 6 i
      rw [if_neg (by first | decide | omega), sl_e (by first | decide | omega)]
  · rw [sl_e (by first | decide | omega), g k z1 z2]
    show _ = pxM (sl 21 m D) (-1) (sl 21 m D 11 k)
    unfold pxM
    rw [if_neg (by first | decide | omega)]
theorem c_b89 : ∀ (d k : Nat) (x : Int) (m : Mem), (28 - x).toNat = d → d < k → 0 ≤ x → ∃ m', G4_begin_89 k m 69 x = some m' ∧ Fm (fun b i => b = 75 ∧ x ≤ i) m m' ∧ ∀ i, x ≤ i → i < 28 → m' 75 i = -2 := by
  intro d
  induction d with
  | zero =>
    intro k x m h1 h2 h3
    obtain ⟨k, rfl⟩ : ∃ j, k = j + 1 := ⟨k - 1, by first | decide | omega⟩
    rw [G4_begin_89, if_pos (by first | decide | omega)]
    exact ⟨m, rfl, Fm.rf, fun i a b => by first | decide | omega⟩
  | succ d ih =>
    intro k x m h1 h2 h3
    obtain ⟨k, rfl⟩ : ∃ j, k = j + 1 := ⟨k - 1, by first | decide | omega⟩
    rw [G4_begin_89, if_neg (by first | decide | omega), gdx_t (by first | decide | omega), wt_e, gd3_t (by first | decide | omega)]
    obtain ⟨m', e, f, g⟩ := ih k (x + 1) (up m (69 + 6) x (-2)) (by first | decide | omega) (by first | decide | omega) (by first | decide | omega)
    refine ⟨m', e, (Fm.w1 (by first | decide | omega)).tr (f.mono (by intro b i q; first | decide | omega)), fun i z1 z2 => ?_⟩
    by_cases c : i = x
    · rw [c, f 75 x (by first | decide | omega)]; exact up_e
    · exact g i (by first | decide | omega) z2
theorem c_b33 (hDD : D = 2 ∨ D = 24) : ∀ (d k : Nat) (x : Int) (m : Mem), (5 - x).toNat = d → d < k → 0 ≤ x → ∃ m', G4_begin_33 k m 69 D x = some m' ∧ Fm (fun b i => ((70 ≤ b ∧ b ≤ 74) ∧ x ≤ i) ∨ b = 75) m m' ∧ (∀ i, x ≤ i → i < 5 → m' 70 i = m (D + 3) i ∧ m' 71 i = 0 ∧ m' 72 i = 0 ∧ m' 73 i = 0 ∧ m' 74 i = 0) ∧ ∀ i, 0 ≤ i → i < 28 → m' 75 i = -2 := by
  intro d
  induction d with
  | zero =>
    intro k x m h1 h2 h3
    obtain ⟨k, rfl⟩ : ∃ j, k = j + 1 := ⟨k - 1, by first | decide | omega⟩
    rw [G4_begin_33, if_pos (by first | decide | omega)]
    obtain ⟨m', e, f, g⟩ := c_b89 28 1024 0 m (by first | decide | omega) (by first | decide | omega) (by first | decide | omega)
    exact ⟨m', e, f.mono (by intro b i q; first | decide | omega), fun i a b => by first | decide | omega, g⟩
  | succ d ih =>
    intro k x m h1 h2 h3
    obtain ⟨k, rfl⟩ : ∃ j, k = j + 1 := ⟨k - 1, by first | decide | omega⟩
    rw [G4_begin_33, if_neg (by first | decide | omega), gdx_t (by first | decide | omega), gdx_t (by first | decide | omega), wt_e, gdx_t (by first | decide | omega), wt_e, gdx_t (by first | decide | omega), wt_e, gdx_t (by first | decide | omega), wt_e, gdx_t (by first | decide | omega), wt_e, gd3_t (by first | decide | omega)]
    obtain ⟨m', e, f, g, h⟩ := ih k (x + 1) (up (up (up (up (up m (69 + 1) x (m (D + 3) x)) (69 + 2) x 0) (69 + 3) x 0) (69 + 4) x 0) (69 + 5) x 0) (by first | decide | omega) (by first | decide | omega) (by first | decide | omega)
    refine ⟨m', e, (((((Fm.w1 (by first | decide | omega)).w (by first | decide | omega)).w (by first | decide | omega)).w (by first | decide | omega)).w (by first | decide | omega)).tr (f.mono (by intro b i q; first | decide | omega)), fun i z1 z2 => ?_, h⟩
    by_cases c : i = x
    · rw [c, f 70 x (by first | decide | omega), f 71 x (by first | decide | omega), f 72 x (by first | decide | omega), f 73 x (by first | decide | omega), f 74 x (by first | decide | omega)]
      refine ⟨?_, ?_, ?_, ?_, ?_⟩
      · rw [up_a (by first | decide | omega), up_a (by first | decide | omega), up_a (by first | decide | omega), up_a (by first | decide | omega)]; exact up_e
      · rw [up_a (by first | decide | omega), up_a (by first | decide | omega), up_a (by first | decide | omega)]; exact up_e
      · rw [up_a (by first | decide | omega), up_a (by first | decide | omega)]; exact up_e
      · rw [up_a (by first | decide | omega)]; exact up_e
      · exact up_e
    · obtain ⟨y1, y2⟩ := g i (by first | decide | omega) z2
      refine ⟨?_, y2⟩
      rw [y1, up_a (by first | decide | omega), up_a (by first | decide | omega), up_a (by first | decide | omega), up_a (by first | decide | omega), up_a (by first | decide | omega)]
theorem c_begn (hDD : D = 2 ∨ D = 24) : ∃ m', G4_begin m 69 D = some m' ∧ Fm (fun b i => 69 ≤ b ∧ b ≤ 75) m m' ∧ (m' 69 0 = 0 ∧ m' 69 1 = m D 9 ∧ m' 69 2 = m D 10 ∧ m' 69 3 = 0 ∧ m' 69 4 = 0) ∧ (∀ i, 0 ≤ i → i < 5 → m' 70 i = m (D + 3) i ∧ m' 71 i = 0 ∧ m' 72 i = 0 ∧ m' 73 i = 0 ∧ m' 74 i = 0) ∧ ∀ i, 0 ≤ i → i < 28 → m' 75 i = -2 := by
  unfold G4_begin G4_begin_0
  rw [wt_e, up_a (by first | decide | omega), wt_e, up_a (by first | decide | omega), up_a (by first | decide | omega), wt_e, wt_e, wt_e]
  have f0 : Fm (fun b i => b = 69) m (up (up (up (up (up m 69 0 0) 69 1 (m D 9)) 69 2 (m D 10)) 69 3 0) 69 4 0) := ((((Fm.w1 rfl).w rfl).w rfl).w rfl).w rfl
  have k0 : up (up (up (up (up m 69 0 0) 69 1 (m D 9)) 69 2 (m D 10)) 69 3 0) 69 4 0 69 0 = 0 := by rw [up_i (by first | decide | omega), up_i (by first | decide | omega), up_i (by first | decide | omega), up_i (by first | decide | omega), up_e]
  have k1 : up (up (up (up (up m 69 0 0) 69 1 (m D 9)) 69 2 (m D 10)) 69 3 0) 69 4 0 69 1 = m D 9 := by rw [up_i (by first | decide | omega), up_i (by first | decide | omega), up_i (by first | decide | omega), up_e]
  have k2 : up (up (up (up (up m 69 0 0) 69 1 (m D 9)) 69 2 (m D 10)) 69 3 0) 69 4 0 69 2 = m D 10 := by rw [up_i (by first | decide | omega), up_i (by first | decide | omega), up_e]
  have k3 : up (up (up (up (up m 69 0 0) 69 1 (m D 9)) 69 2 (m D 10)) 69 3 0) 69 4 0 69 3 = 0 := by rw [up_i (by first | decide | omega), up_e]
  have k4 : up (up (up (up (up m 69 0 0) 69 1 (m D 9)) 69 2 (m D 10)) 69 3 0) 69 4 0 69 4 = 0 := up_e
  generalize up (up (up (up (up m 69 0 0) 69 1 (m D 9)) 69 2 (m D 10)) 69 3 0) 69 4 0 = u at f0 k0 k1 k2 k3 k4 ⊢
  obtain ⟨m', e, f, g, h⟩ := c_b33 hDD 5 1024 0 u (by first | decide | omega) (by first | decide | omega) (by first | decide | omega)
  refine ⟨m', e, (f0.mono (by intro b i q; first | decide | omega)).tr (f.mono (by intro b i q; first | decide | omega)), ?_, fun i z1 z2 => ?_, h⟩
  · rw [f 69 0 (by first | decide | omega), f 69 1 (by first | decide | omega), f 69 2 (by first | decide | omega), f 69 3 (by first | decide | omega), f 69 4 (by first | decide | omega)]
    exact ⟨k0, k1, k2, k3, k4⟩
  · obtain ⟨y1, y2⟩ := g i z1 z2
    exact ⟨by rw [y1, f0 (D + 3) i (by first | decide | omega)], y2⟩
theorem r_b60 : ∀ (d k : Nat) (x : Int) (v : Mem), (28 - x).toNat = d → d < k → 0 ≤ x → ∃ v', G12_begin_60 k v x = some v' ∧ Fm (fun b i => (b = 30 ∧ x ≤ i) ∨ (31 ≤ b ∧ b ≤ 33) ∨ (b = 0 ∧ 64 ≤ i)) v v' ∧ (∀ i, x ≤ i → i < 28 → v' 30 i = -2) ∧ (v' 31 0 = 0 ∧ v' 32 0 = 0 ∧ v' 33 0 = 0 ∧ v' 0 64 = v 4 5 ∧ v' 0 65 = v 4 6 ∧ v' 0 66 = -1 ∧ v' 0 74 = 0 ∧ v' 0 75 = -1 ∧ v' 0 78 = 0 ∧ v' 0 80 = 0) := by
  intro d
  induction d with
  | zero =>
    intro k x v h1 h2 h3
    obtain ⟨k, rfl⟩ : ∃ j, k = j + 1 := ⟨k - 1, by first | decide | omega⟩
    rw [G12_begin_60, if_pos (by first | decide | omega)]
    rw [wt_e, wt_e, wt_e, up_a (by first | decide | omega), up_a (by first | decide | omega), up_a (by first | decide | omega), wt_e, up_a (by first | decide | omega), up_a (by first | decide | omega), up_a (by first | decide | omega), up_a (by first | decide | omega), wt_e, wt_e, wt_e, wt_e, wt_e, wt_e]
    refine ⟨_, rfl, (((((((((Fm.w1 (by first | decide | omega)).w (by first | decide | omega)).w (by first | decide | omega)).w (by first | decide | omega)).w (by first | decide | omega)).w (by first | decide | omega)).w (by first | decide | omega)).w (by first | decide | omega)).w (by first | decide | omega)).w (by first | decide | omega), fun i a b => by first | decide | omega, ?_, ?_, ?_, ?_, ?_, ?_, ?_, ?_, ?_, ?_⟩
    · rw [up_a (by first | decide | omega), up_a (by first | decide | omega), up_a (by first | decide | omega), up_a (by first | decide | omega), up_a (by first | decide | omega), up_a (by first | decide | omega), up_a (by first | decide | omega), up_a (by first | decide | omega), up_a (by first | decide | omega), up_e]
    · rw [up_a (by first | decide | omega), up_a (by first | decide | omega), up_a (by first | decide | omega), up_a (by first | decide | omega), up_a (by first | decide | omega), up_a (by first | decide | omega), up_a (by first | decide | omega), up_a (by first | decide | omega), up_e]
    · rw [up_a (by first | decide | omega), up_a (by first | decide | omega), up_a (by first | decide | omega), up_a (by first | decide | omega), up_a (by first | decide | omega), up_a (by first | decide | omega), up_a (by first | decide | omega), up_e]
    · rw [up_i (by first | decide | omega), up_i (by first | decide | omega), up_i (by first | decide | omega), up_i (by first | decide | omega), up_i (by first | decide | omega), up_i (by first | decide | omega), up_e]
    · rw [up_i (by first | decide | omega), up_i (by first | decide | omega), up_i (by first | decide | omega), up_i (by first | decide | omega), up_i (by first | decide | omega), up_e]
    · rw [up_i (by first | decide | omega), up_i (by first | decide | omega), up_i (by first | decide | omega), up_i (by first | decide | omega), up_e]
    · rw [up_i (by first | decide | omega), up_i (by first | decide | omega), up_i (by first | decide | omega), up_e]
    · rw [up_i (by first | decide | omega), up_i (by first | decide | omega), up_e]
    · rw [up_i (by first | decide | omega), up_e]
    · exact up_e
  | succ d ih =>
    intro k x v h1 h2 h3
    obtain ⟨k, rfl⟩ : ∃ j, k = j + 1 := ⟨k - 1, by first | decide | omega⟩
    rw [G12_begin_60, if_neg (by first | decide | omega), gdx_t (by first | decide | omega), wt_e, gd3_t (by first | decide | omega)]
    obtain ⟨v', e, f, g, h⟩ := ih k (x + 1) (up v 30 x (-2)) (by first | decide | omega) (by first | decide | omega) (by first | decide | omega)
    rw [up_a (by first | decide | omega), up_a (by first | decide | omega)] at h
    refine ⟨v', e, (Fm.w1 (by first | decide | omega)).tr (f.mono (by intro b i q; first | decide | omega)), fun i z1 z2 => ?_, h⟩
    by_cases c : i = x
    · rw [c, f 30 x (by first | decide | omega), up_e]
    · exact g i (by first | decide | omega) z2
theorem r_b2 : ∀ (d k : Nat) (x : Int) (v : Mem), (5 - x).toNat = d → d < k → 0 ≤ x → ∃ v', G12_begin_2 k v x = some v' ∧ Fm (fun b i => ((25 ≤ b ∧ b ≤ 29) ∧ x ≤ i) ∨ (30 ≤ b ∧ b ≤ 33) ∨ (b = 0 ∧ 64 ≤ i)) v v' ∧ (∀ i, x ≤ i → i < 5 → v' 25 i = v 6 i ∧ v' 26 i = 0 ∧ v' 27 i = 0 ∧ v' 28 i = 0 ∧ v' 29 i = v 8 i) ∧ (∀ i, 0 ≤ i → i < 28 → v' 30 i = -2) ∧ (v' 31 0 = 0 ∧ v' 32 0 = 0 ∧ v' 33 0 = 0 ∧ v' 0 64 = v 4 5 ∧ v' 0 65 = v 4 6 ∧ v' 0 66 = -1 ∧ v' 0 74 = 0 ∧ v' 0 75 = -1 ∧ v' 0 78 = 0 ∧ v' 0 80 = 0) := by
  intro d
  induction d with
  | zero =>
    intro k x v h1 h2 h3
    obtain ⟨k, rfl⟩ : ∃ j, k = j + 1 := ⟨k - 1, by first | decide | omega⟩
    rw [G12_begin_2, if_pos (by first | decide | omega)]
    obtain ⟨v', e, f, g, h⟩ := r_b60 28 1024 0 v (by first | decide | omega) (by first | decide | omega) (by first | decide | omega)
    exact ⟨v', e, f.mono (by intro b i q; first | decide | omega), fun i a b => by first | decide | omega, g, h⟩
  | succ d ih =>
    intro k x v h1 h2 h3
    obtain ⟨k, rfl⟩ : ∃ j, k = j + 1 := ⟨k - 1, by first | decide | omega⟩
    rw [G12_begin_2, if_neg (by first | decide | omega), gdx_t (by first | decide | omega), gdx_t (by first | decide | omega), wt_e, gdx_t (by first | decide | omega), wt_e, gdx_t (by first | decide | omega), wt_e, gdx_t (by first | decide | omega), wt_e, gdx_t (by first | decide | omega), gdx_t (by first | decide | omega), wt_e, gd3_t (by first | decide | omega)]
    have e8 : up (up (up (up v 25 x (v 6 x)) 26 x 0) 27 x 0) 28 x 0 8 x = v 8 x := by rw [up_a (by first | decide | omega), up_a (by first | decide | omega), up_a (by first | decide | omega), up_a (by first | decide | omega)]
    rw [e8]
    obtain ⟨v', e, f, g, h, h'⟩ := ih k (x + 1) (up (up (up (up (up v 25 x (v 6 x)) 26 x 0) 27 x 0) 28 x 0) 29 x (v 8 x)) (by first | decide | omega) (by first | decide | omega) (by first | decide | omega)
    rw [up_a (by first | decide | omega), up_a (by first | decide | omega), up_a (by first | decide | omega), up_a (by first | decide | omega), up_a (by first | decide | omega), up_a (by first | decide | omega), up_a (by first | decide | omega), up_a (by first | decide | omega), up_a (by first | decide | omega), up_a (by first | decide | omega)] at h'
    refine ⟨v', e, (((((Fm.w1 (by first | decide | omega)).w (by first | decide | omega)).w (by first | decide | omega)).w (by first | decide | omega)).w (by first | decide | omega)).tr (f.mono (by intro b i q; first | decide | omega)), fun i z1 z2 => ?_, h, h'⟩
    by_cases c : i = x
    · rw [c, f 25 x (by first | decide | omega), f 26 x (by first | decide | omega), f 27 x (by first | decide | omega), f 28 x (by first | decide | omega), f 29 x (by first | decide | omega)]
      refine ⟨?_, ?_, ?_, ?_, up_e⟩
      · rw [up_a (by first | decide | omega), up_a (by first | decide | omega), up_a (by first | decide | omega), up_a (by first | decide | omega), up_e]
      · rw [up_a (by first | decide | omega), up_a (by first | decide | omega), up_a (by first | decide | omega), up_e]
      · rw [up_a (by first | decide | omega), up_a (by first | decide | omega), up_e]
      · rw [up_a (by first | decide | omega), up_e]
    · obtain ⟨y1, y2, y3, y4, y5⟩ := g i (by first | decide | omega) z2
      refine ⟨?_, y2, y3, y4, ?_⟩
      · rw [y1, up_a (by first | decide | omega), up_a (by first | decide | omega), up_a (by first | decide | omega), up_a (by first | decide | omega), up_a (by first | decide | omega)]
      · rw [y5, up_a (by first | decide | omega), up_a (by first | decide | omega), up_a (by first | decide | omega), up_a (by first | decide | omega), up_a (by first | decide | omega)]
end Q43
/-! A text is told: both say the same, and belong together again. -/
section Q44
variable {m v : Mem} {S : Int} {D T : Nat}
theorem QT_K {b : Nat} {i : Int} (h : KT b i) : ¬ QT b i := by
  unfold KT at h
  unfold QT QX
  omega
/-- a text was refused: all is as it was -/
theorem Rel.left {m' v' : Mem} (h : Rel m v) (hD : (D : Int) = m 0 4) (f : Fm (PT D) m m') (g : Fm QT v v') (h1 : m' 0 1 = 0 ∧ v' 0 1 = 0) (hf : FLT m' v') : Rel m' v' := by
  obtain ⟨T, hA, h2, h3, h4, h5, h6, h7, h8, h9⟩ := h.all
  obtain ⟨⟨t1, t2, t3, t4⟩, hW, hG, hR⟩ := hA
  have hDT : D + T = 26 := by omega
  have ew : sl 21 m' T = sl 21 m T := sl_c (fun b x y => f.rw1 (fun i => by unfold PT PX; first | decide | omega))
  have en : sl 6 m' 69 = sl 6 m 69 := sl_c (fun b x y => f.rw1 (fun i => by unfold PT PX; first | decide | omega))
  have eg : sl 3 m' 51 = sl 3 m 51 := sl_c (fun b x y => f.rw1 (fun i => by unfold PT PX; first | decide | omega))
  have hs := hW.1
  unfold WS at hs
  refine Rel.of (T := T) ⟨⟨⟨t1, ?_, ?_, ?_⟩, ?_, ?_, ?_⟩, ?_, ?_, ?_, ?_, ?_, ?_, hf, ?_⟩
  · rw [f 0 3 (by unfold PT PX; first | decide | omega)]; exact t2
  · rw [f 0 4 (by unfold PT PX; first | decide | omega)]; exact t3
  · rw [f 51 0 (by unfold PT PX; first | decide | omega)]; exact t4
  · rw [ew]; exact hW
  · rw [ew, eg]; exact hG
  · rw [ew]; exact hR.fr2 hW.1 (fun b i z => g b i (QT_K z))
  · rw [ew, en]; exact h2
  · rw [ew, en]; exact h3.f g (by first | decide | omega) (by intro b i q; unfold QT QX; first | decide | omega)
  · rw [ew]; exact h4.f f g (by intro b i q; unfold PT PX; first | decide | omega) (by intro b i q; unfold QT QX; first | decide | omega)
  · rw [ew]; exact h5.f f g (by intro b i q; unfold PT PX; first | decide | omega) (by intro b i q; unfold QT QX; first | decide | omega)
  · rw [ew, en]; exact h6.f f g (by intro b i q; unfold PT PX; first | decide | omega) (by intro b i q; unfold QT QX; first | decide | omega)
  · obtain ⟨p1, p2, p3, p4, p5⟩ := h7
    refine ⟨by rw [h1.1, h1.2], by first | decide | omega, fun i z1 z2 => by first | decide | omega, fun i z => ?_, fun i z => ?_⟩
    · rw [f 48 i (by unfold PT PX; first | decide | omega)]; exact p4 i z
    · rw [g 2 i (by unfold QT QX; first | decide | omega)]; exact p5 i z
  · intro i p q; rw [f 102 i (by unfold PT PX; first | decide | omega)]; exact h9 i p q
/-- a new text was taken -/
theorem Rel.anew {m1 m5 v1 v2 v3 : Mem} (h : Rel m v) (hD : (D : Int) = m 0 4) (f : Fm (PT D) m m1) (g : Fm QT v v1) (h1 : m1 0 1 = 0 ∧ v1 0 1 = 0) (hf : FLT m1 v1) (hI : DI m1 v1 D) (hk : KD 21 v1 v2) (fm : Fm (fun b i => (b = 0 ∧ (i = 3 ∨ i = 4 ∨ i = 10)) ∨ (51 ≤ b ∧ b ≤ 56) ∨ (69 ≤ b ∧ b ≤ 75) ∨ b = 90 ∨ b = 96) m1 m5) (h0 : m5 0 3 = (D : Int) ∧ m5 0 4 = 26 - (D : Int) ∧ m5 0 10 = 0 ∧ m5 51 0 = (D : Int)) (hG : GE (sl 21 m1 D) (sl 3 m5 51) (gM (sl 21 m1 D) (-1))) (hn0 : m5 69 0 = 0 ∧ m5 69 1 = m1 D 9 ∧ m5 69 2 = m1 D 10 ∧ m5 69 3 = 0 ∧ m5 69 4 = 0) (hn1 : ∀ i, 0 ≤ i → i < 5 → m5 70 i = m1 (D + 3) i ∧ m5 71 i = 0 ∧ m5 72 i = 0 ∧ m5 73 i = 0 ∧ m5 74 i = 0) (hn6 : ∀ i, 0 ≤ i → i < 28 → m5 75 i = -2) (h90 : m5 90 0 = 0 ∧ m5 90 1 = -1 ∧ m5 96 0 = 0) (g3 : Fm (fun b i => ((25 ≤ b ∧ b ≤ 29) ∧ 0 ≤ i) ∨ (30 ≤ b ∧ b ≤ 33) ∨ (b = 0 ∧ 64 ≤ i)) v2 v3) (hb1 : ∀ i, 0 ≤ i → i < 5 → v3 25 i = v2 6 i ∧ v3 26 i = 0 ∧ v3 27 i = 0 ∧ v3 28 i = 0 ∧ v3 29 i = v2 8 i) (hb2 : ∀ i, 0 ≤ i → i < 28 → v3 30 i = -2) (hb3 : v3 31 0 = 0 ∧ v3 32 0 = 0 ∧ v3 33 0 = 0 ∧ v3 0 64 = v2 4 5 ∧ v3 0 65 = v2 4 6 ∧ v3 0 66 = -1 ∧ v3 0 74 = 0 ∧ v3 0 75 = -1 ∧ v3 0 78 = 0 ∧ v3 0 80 = 0) : Rel m5 v3 := by
  obtain ⟨_, _, _, _, _, _, _, h7, _, h9⟩ := h.all
  obtain ⟨⟨hDD, _⟩, hW, hR, _⟩ := hI
  have ew : sl 21 m5 D = sl 21 m1 D := sl_c (fun b x y => fm.rw1 (fun i => by first | decide | omega))
  have hs := hW.1
  unfold WS at hs
  have hR2 : RT v2 (sl 21 m1 D) := hR.fr2 hW.1 (fun b i z => hk.1 b i z (by unfold KT at z; first | decide | omega))
  have hR3 : RT v3 (sl 21 m1 D) := hR2.fr2 hW.1 (fun b i z => g3 b i (by unfold KT at z; first | decide | omega))
  have w0 : ∀ i, sl 21 m1 D 0 i = m1 D i := fun i => sl_e (Nat.zero_le _) i
  have n0 : ∀ i, sl 6 m5 69 0 i = m5 69 i := fun i => sl_e (Nat.zero_le _) i
  have n1 : ∀ i, sl 6 m5 69 1 i = m5 70 i := fun i => sl_e (by first | decide | omega) i
  have n2 : ∀ i, sl 6 m5 69 2 i = m5 71 i := fun i => sl_e (by first | decide | omega) i
  have n3 : ∀ i, sl 6 m5 69 3 i = m5 72 i := fun i => sl_e (by first | decide | omega) i
  have n4 : ∀ i, sl 6 m5 69 4 i = m5 73 i := fun i => sl_e (by first | decide | omega) i
  have n5 : ∀ i, sl 6 m5 69 5 i = m5 74 i := fun i => sl_e (by first | decide | omega) i
  have n6 : ∀ i, sl 6 m5 69 6 i = m5 75 i := fun i => sl_e (by first | decide | omega) i
  have w3 : ∀ i, sl 21 m1 D 3 i = m1 (D + 3) i := fun i => sl_e (by first | decide | omega) i
  have hff := (ff_spec (w := sl 21 m1 D) (by first | decide | omega) 0).1
  refine Rel.of (T := D) ⟨⟨⟨hDD, h0.1, h0.2.1, h0.2.2.2⟩, by rw [ew]; exact hW, by rw [ew]; exact hG, by rw [ew]; exact hR3⟩, ?_, ?_, ?_, ?_, ?_, ?_, ?_, ?_⟩
  · rw [ew]
    refine ⟨⟨?_, fun i p q => ?_⟩, ?_, fun i p q => ?_, fun k p q => ?_⟩
    · rw [n0, n0, n0, n0, n0, hn0.1, hn0.2.1, hn0.2.2.1, hn0.2.2.2.1, hn0.2.2.2.2, ← w0, ← w0]
      omega
    · obtain ⟨x1, x2, x3, x4, x5⟩ := hn1 i p (by first | decide | omega)
      rw [n0, n1, n2, n3, n4, hn0.1, x1, x2, x3, x4, ← w3]
      exact ⟨(hW.2.1 i p q).1, by first | decide | omega, by first | decide | omega, by first | decide | omega⟩
    · rw [n0, hn0.1]; omega
    · obtain ⟨x1, x2, x3, x4, x5⟩ := hn1 i p (by first | decide | omega)
      have := (hW.2.1 i p q).2.2.1
      rw [n0, n4, n5, hn0.1, x4, x5]
      omega
    · have := (hW.2.2.2.1 k p q).2.1
      rw [n0, n6, hn0.1, hn6 k p (by first | decide | omega)]
      exact ⟨fun _ => this.1, fun _ => rfl⟩
  · rw [ew]
    refine ⟨⟨fun i p q => ?_, fun k p q => ?_, ?_, ?_, ?_⟩, ?_, ?_, fun i p q => ?_, hb3.2.2.2.2.2.1⟩
    · obtain ⟨x1, x2, x3, x4, x5⟩ := hn1 i p (by first | decide | omega)
      obtain ⟨y1, y2, y3, y4, y5⟩ := hb1 i p (by first | decide | omega)
      rw [show 5 * (0 : Int) + i = i by first | decide | omega, n1, n2, n3, x1, x2, x3, y1, y2, y3, ← w3]
      exact ⟨(hR2.2.2.1 i p q).2.1, rfl, rfl⟩
    · rw [show 28 * (0 : Int) + k = k by first | decide | omega, n6, hn6 k p (by first | decide | omega)]; exact hb2 k p (by first | decide | omega)
    · rw [n0, hn0.2.2.2.1]; exact hb3.2.1
    · rw [n0, hn0.2.2.2.2]; exact hb3.2.2.1
    · rw [n0, hn0.2.2.1, hb3.2.2.2.2.1, ← w0]; exact hR2.2.1.2.2.2.2.2.2
    · rw [n0, hn0.1]; exact hb3.1
    · rw [n0, hn0.2.1, hb3.2.2.2.1, ← w0]; exact hR2.2.1.2.2.2.2.2.1
    · obtain ⟨x1, x2, x3, x4, x5⟩ := hn1 i p (by first | decide | omega)
      obtain ⟨y1, y2, y3, y4, y5⟩ := hb1 i p (by first | decide | omega)
      rw [n4, n5, x4, x5, y4, y5]
      exact ⟨rfl, by rw [(hR2.2.2.1 i p q).2.2.2.1]; first | decide | omega⟩
  · exact ⟨by rw [h0.2.2.1, hb3.2.2.2.2.2.2.2.2.2], Or.inl h0.2.2.1⟩
  · refine ⟨by rw [h90.1, hb3.2.2.2.2.2.2.1], by first | decide | omega, by rw [h90.2.1, hb3.2.2.2.2.2.2.2.1], by first | decide | omega, fun k p q => by first | decide | omega⟩
  · refine ⟨by rw [h90.2.2, hb3.2.2.2.2.2.2.2.2.1], by first | decide | omega, fun _ s => sl 6 m5 69 1 s, fun _ s => sl 6 m5 69 5 s, fun _ => sl 6 m5 69 0 1, fun s p q => ⟨rfl, rfl⟩, rfl, fun j p q => by first | decide | omega⟩
  · obtain ⟨p1, p2, p3, p4, p5⟩ := h7
    have q1 : m5 0 1 = 0 := by rw [fm 0 1 (by first | decide | omega)]; exact h1.1
    have q2 : v3 0 1 = 0 := by rw [g3 0 1 (by first | decide | omega), hk.2 0 1 (by unfold KT; first | decide | omega)]; exact h1.2
    refine ⟨by rw [q1, q2], by first | decide | omega, fun i z1 z2 => by first | decide | omega, fun i z => ?_, fun i z => ?_⟩
    · rw [fm 48 i (by first | decide | omega), f 48 i (by unfold PT PX; first | decide | omega)]; exact p4 i z
    · rw [g3 2 i (by first | decide | omega), hk.2 2 i (by unfold KT; first | decide | omega), g 2 i (by unfold QT QX; first | decide | omega)]; exact p5 i z
  · rw [fm 46 8 (by first | decide | omega), fm 46 9 (by first | decide | omega), g3 0 4 (by first | decide | omega), g3 0 5 (by first | decide | omega), hk.2 0 4 (by unfold KT; first | decide | omega), hk.2 0 5 (by unfold KT; first | decide | omega)]
    exact hf
  · intro i p q; rw [fm 102 i (by first | decide | omega), f 102 i (by unfold PT PX; first | decide | omega)]; exact h9 i p q
end Q44
/-! A text is told: both say the same, and belong together again. -/
section Q45
variable {m v : Mem} {S : Int} {D T : Nat}
theorem a_text (h : Rel m v) (x : Int) : Agr (G11_text m x) (G12_text v x) := by
  obtain ⟨T, hA, _, _, _, _, _, hT, _, _⟩ := h.all
  obtain ⟨⟨t1, t2, t3, t4⟩, _⟩ := hA
  obtain ⟨D, hDT⟩ : ∃ D : Nat, D + T = 26 := ⟨26 - T, by first | decide | omega⟩
  have hDD : D = 2 ∨ D = 24 := by omega
  have hD : (D : Int) = m 0 4 := by omega
  have p1 := hT.1
  have p2 := hT.2.1
  unfold G11_text G11_text_0 G12_text G12_text_0
  by_cases c1 : x < 0
  · rw [if_pos c1, wt_e, if_pos c1]
    exact ⟨-2, m, _, rfl, rfl, h.v0⟩
  · have e01 : up v 0 2 0 0 1 = m 0 1 := by rw [up_i (by first | decide | omega)]; exact p1.symm
    rw [if_neg c1]
    by_cases c2 : x ≤ m 0 1
    · rw [if_pos c2, wt_e, wt_e, if_neg c1, e01, if_pos c2, wt_e, wt_e, wt_e, wt_e, wt_e]
      have e04 : (up m 0 1 0 0 4).toNat = D := by rw [up_i (by first | decide | omega), ← hD]; exact Int.toNat_natCast _
      obtain ⟨mS, vS, w1, a1, a2, a3, a4, a5, a6, a7, a8, a9, a10, a11, a12, a13, a14, a15⟩ := t_begin (D := D) hDD hT ⟨by first | decide | omega, c2⟩
      unfold rb0 at a2
      rw [e04, a1, a2, bs1, a3, bs1]
      obtain ⟨m1, v1, b1, b2, k⟩ := l_all (S := x) (D := D) (by first | decide | omega) 701 1024 0 mS vS (by first | decide | omega) (by first | decide | omega) (by first | decide | omega) (by first | decide | omega) a8 a6 a7
      have F1 : Fm (PT D) m m1 := a4.tr (b1.mono PX_T)
      have G1 : Fm QT v v1 := a5.tr (b2.mono QX_T)
      have L1 : m1 0 1 = 0 ∧ v1 0 1 = 0 := ⟨by rw [b1 0 1 (by unfold PX; first | decide | omega)]; exact a10, by rw [b2 0 1 (by unfold QX; first | decide | omega)]; exact a11⟩
      rcases k with ⟨k1, k2, k3, k4⟩ | ⟨k1, k2, k3⟩
      · have hb : ∀ i, 3 ≤ i → i < 6 → v1 15 i = 0 ∨ v1 15 i = 1 := by
          obtain ⟨_, _, _, _, _, r1, r2, r3⟩ := k3.2.2.1
          have one : ∀ (k : Int) (a b : Nat), RLw (kd v1) (sl 21 m1 D) k a b → v1 15 (3 + k) = 0 ∨ v1 15 (3 + k) = 1 := by
            intro k a b r
            have z := r.1
            rw [sh15 (by first | decide | omega)] at z
            rw [z]; exact r.2.1
          intro i z1 z2
          rcases (show i = 3 + 0 ∨ i = 3 + 1 ∨ i = 3 + 2 by first | decide | omega) with e | e | e <;> rw [e]
          · exact one 0 16 17 r1
          · exact one 1 18 19 r2
          · exact one 2 20 21 r3
        obtain ⟨v2, c3, hk⟩ := r_keep hb
        obtain ⟨v3, c4, g3, d1, d2, d3⟩ := r_b2 5 1024 0 v2 (by first | decide | omega) (by first | decide | omega) (by first | decide | omega)
        have c4' : G12_begin v2 = some v3 := c4
        rw [k1, k2, c3, c4', bs1, bs1, bs1]
        simp only [if_neg i10]
        have m13 : (m1 0 3).toNat = T := by rw [F1 0 3 (by unfold PT PX; first | decide | omega), t2]; exact Int.toNat_natCast _
        have m14 : (m1 0 4).toNat = D := by rw [F1 0 4 (by unfold PT PX; first | decide | omega), ← hD]; exact Int.toNat_natCast _
        rw [m13, m14, wt_e, wt_e]
        have f2 : Fm (fun b i => b = 0 ∧ (i = 3 ∨ i = 4)) m1 (up (up m1 0 3 (D : Int)) 0 4 (T : Int)) := (Fm.w1 (by first | decide | omega)).w (by first | decide | omega)
        have q3 : up (up m1 0 3 (D : Int)) 0 4 (T : Int) 0 3 = (D : Int) := by rw [up_i (by first | decide | omega), up_e]
        have q4 : up (up m1 0 3 (D : Int)) 0 4 (T : Int) 0 4 = (T : Int) := up_e
        generalize up (up m1 0 3 (D : Int)) 0 4 (T : Int) = m2 at f2 q3 q4 ⊢
        have ew : sl 21 m2 D = sl 21 m1 D := sl_c (fun b x y => f2.rw1 (fun i => by first | decide | omega))
        unfold G11_beginAnew G11_beginAnew_0
        rw [q3, Int.toNat_natCast]
        obtain ⟨m3, e3, f3, o1, o2⟩ := c_told (m := m2) (D := D) hDD (by rw [ew]; exact k3.2.1)
        rw [ew] at o2
        have q33 : m3 0 3 = (D : Int) := by rw [f3 0 3 (by first | decide | omega)]; exact q3
        rw [e3, bs1, q33, Int.toNat_natCast]
        obtain ⟨m4, e4, f4, n0, n1, n6⟩ := c_begn (m := m3) (D := D) hDD
        rw [e4, bs1, wt_e, wt_e, wt_e, wt_e, bs1]
        have f5 : Fm (fun b i => b = 90 ∨ b = 96 ∨ (b = 0 ∧ i = 10)) m4 (up (up (up (up m4 90 0 0) 90 1 (-1)) 96 0 0) 0 10 0) := (((Fm.w1 (by first | decide | omega)).w (by first | decide | omega)).w (by first | decide | omega)).w (by first | decide | omega)
        have y0 : up (up (up (up m4 90 0 0) 90 1 (-1)) 96 0 0) 0 10 0 90 0 = 0 := by rw [up_a (by first | decide | omega), up_a (by first | decide | omega), up_i (by first | decide | omega), up_e]
        have y1 : up (up (up (up m4 90 0 0) 90 1 (-1)) 96 0 0) 0 10 0 90 1 = -1 := by rw [up_a (by first | decide | omega), up_a (by first | decide | omega), up_e]
        have y2 : up (up (up (up m4 90 0 0) 90 1 (-1)) 96 0 0) 0 10 0 96 0 = 0 := by rw [up_a (by first | decide | omega), up_e]
        have y3 : up (up (up (up m4 90 0 0) 90 1 (-1)) 96 0 0) 0 10 0 0 10 = 0 := up_e
        generalize up (up (up (up m4 90 0 0) 90 1 (-1)) 96 0 0) 0 10 0 = m5 at f5 y0 y1 y2 y3 ⊢
        have q53 : m5 0 3 = (D : Int) := by rw [f5 0 3 (by first | decide | omega), f4 0 3 (by first | decide | omega)]; exact q33
        have q54 : m5 0 4 = (T : Int) := by rw [f5 0 4 (by first | decide | omega), f4 0 4 (by first | decide | omega), f3 0 4 (by first | decide | omega)]; exact q4
        have e12 : m5 D 12 = m1 D 12 := by rw [f5 D 12 (by first | decide | omega), f4 D 12 (by first | decide | omega), f3 D 12 (by first | decide | omega), f2 D 12 (by first | decide | omega)]
        rw [q53, Int.toNat_natCast, e12]
        refine ⟨m1 D 12, m5, v3, rfl, rfl, ?_⟩
        refine Rel.anew (D := D) h hD F1 G1 L1 k4 k3 hk ?_ ⟨q53, by rw [q54]; first | decide | omega, y3, ?_⟩ ?_ ?_ ?_ ?_ ⟨y0, y1, y2⟩ g3 d1 d2 d3
        · exact ((f2.mono (by intro b i q; first | decide | omega)).tr (f3.mono (by intro b i q; first | decide | omega))).tr ((f4.mono (by intro b i q; first | decide | omega)).tr (f5.mono (by intro b i q; first | decide | omega)))
        · rw [f5 51 0 (by first | decide | omega), f4 51 0 (by first | decide | omega)]; exact o1
        · have eg : sl 3 m5 51 = sl 3 m3 51 := (sl_c (fun b x y => f5.rw1 (fun i => by first | decide | omega))).trans (sl_c (fun b x y => f4.rw1 (fun i => by first | decide | omega)))
          rw [eg]; exact o2
        · rw [f5 69 0 (by first | decide | omega), f5 69 1 (by first | decide | omega), f5 69 2 (by first | decide | omega), f5 69 3 (by first | decide | omega), f5 69 4 (by first | decide | omega)]
          have z1 : m3 D 9 = m1 D 9 := by rw [f3 D 9 (by first | decide | omega), f2 D 9 (by first | decide | omega)]
          have z2 : m3 D 10 = m1 D 10 := by rw [f3 D 10 (by first | decide | omega), f2 D 10 (by first | decide | omega)]
          rw [← z1, ← z2]; exact n0
        · intro i z1 z2
          have z3 : m3 (D + 3) i = m1 (D + 3) i := by rw [f3 (D + 3) i (by first | decide | omega), f2 (D + 3) i (by first | decide | omega)]
          rw [f5 70 i (by first | decide | omega), f5 71 i (by first | decide | omega), f5 72 i (by first | decide | omega), f5 73 i (by first | decide | omega), f5 74 i (by first | decide | omega), ← z3]
          exact n1 i z1 z2
        · intro i z1 z2
          rw [f5 75 i (by first | decide | omega)]; exact n6 i z1 z2
      · rw [k1, k2, bs1]
        simp only [if_true]
        exact ⟨-1, m1, v1, rfl, rfl, h.left (D := D) hD F1 G1 L1 k3⟩
    · rw [if_neg c2, wt_e, if_neg c1, e01, if_neg c2]
      exact ⟨-2, m, _, rfl, rfl, h.v0⟩
end Q45
/-! New objects belong together. -/
theorem okx0 : OKX hxF := by
  refine ⟨by decide +kernel, ?_, ?_⟩
  · unfold A8 ABy; decide +kernel
  · decide +kernel
theorem okm0 : OKM hmF := hmF_sk
theorem nfx : ((rd hxF 0 1 = 0 ∧ rd hxF 0 3 = 2 ∧ rd hxF 0 4 = 24 ∧ rd hxF 0 10 = 0 ∧ rd hxF 51 0 = 2 ∧ rd hxF 46 8 = 0 ∧ rd hxF 46 9 = -1) ∧ (rd hxF 2 0 = 6 ∧ rd hxF 2 1 = 4 ∧ rd hxF 2 2 = 0 ∧ rd hxF 2 3 = 0 ∧ rd hxF 2 6 = 0 ∧ rd hxF 2 7 = 0 ∧ rd hxF 2 8 = 0 ∧ rd hxF 2 9 = 0 ∧ rd hxF 2 10 = 0 ∧ rd hxF 2 13 = 0) ∧ (rd hxF 3 0 = 0 ∧ rd hxF 10 0 = 0 ∧ rd hxF 10 1 = 0) ∧ (rd hxF 18 1 = 0 ∧ rd hxF 18 2 = 0 ∧ rd hxF 20 1 = 0 ∧ rd hxF 20 2 = 0 ∧ rd hxF 22 1 = 0 ∧ rd hxF 22 2 = 0) ∧ (rd hxF 69 0 = 0 ∧ rd hxF 69 1 = 0 ∧ rd hxF 69 2 = 0 ∧ rd hxF 69 3 = 0 ∧ rd hxF 69 4 = 0) ∧ (rd hxF 90 0 = 0 ∧ rd hxF 90 1 = -1 ∧ rd hxF 96 0 = 0)) ∧ (∀ i : Nat, i < 24 → rd hxF 48 i = lgW.getD i 0) ∧ (∀ i : Nat, i < 280 → rd hxF 102 i = 0) := by decide +kernel
theorem nfm : ((rd hmF 0 1 = 0 ∧ rd hmF 0 4 = 0 ∧ rd hmF 0 5 = -1 ∧ rd hmF 0 12 = 6 ∧ rd hmF 0 13 = 4 ∧ rd hmF 0 14 = 0 ∧ rd hmF 0 15 = 0 ∧ rd hmF 0 16 = 0 ∧ rd hmF 0 17 = 0) ∧ (rd hmF 4 0 = 0 ∧ rd hmF 4 1 = 0 ∧ rd hmF 4 2 = 0 ∧ rd hmF 4 3 = 0 ∧ rd hmF 4 4 = 0 ∧ rd hmF 4 5 = 0 ∧ rd hmF 4 6 = 0) ∧ (rd hmF 15 0 = 0 ∧ rd hmF 15 1 = 0 ∧ rd hmF 15 2 = 0) ∧ (rd hmF 31 0 = 0 ∧ rd hmF 32 0 = 0 ∧ rd hmF 33 0 = 0) ∧ (rd hmF 0 64 = 0 ∧ rd hmF 0 65 = 0 ∧ rd hmF 0 66 = -1 ∧ rd hmF 0 74 = 0 ∧ rd hmF 0 75 = -1 ∧ rd hmF 0 78 = 0 ∧ rd hmF 0 80 = 0)) ∧ (∀ i : Nat, i < 120 → rd hmF 2 i = wdM.getD i 0) := by decide +kernel
theorem nf1 : (rd hxF 0 1 = 0 ∧ rd hxF 0 3 = 2 ∧ rd hxF 0 4 = 24 ∧ rd hxF 0 10 = 0 ∧ rd hxF 51 0 = 2 ∧ rd hxF 46 8 = 0 ∧ rd hxF 46 9 = -1) ∧ (rd hxF 2 0 = 6 ∧ rd hxF 2 1 = 4 ∧ rd hxF 2 2 = 0 ∧ rd hxF 2 3 = 0 ∧ rd hxF 2 6 = 0 ∧ rd hxF 2 7 = 0 ∧ rd hxF 2 8 = 0 ∧ rd hxF 2 9 = 0 ∧ rd hxF 2 10 = 0 ∧ rd hxF 2 13 = 0) ∧ (rd hxF 3 0 = 0 ∧ rd hxF 10 0 = 0 ∧ rd hxF 10 1 = 0) ∧ (rd hxF 18 1 = 0 ∧ rd hxF 18 2 = 0 ∧ rd hxF 20 1 = 0 ∧ rd hxF 20 2 = 0 ∧ rd hxF 22 1 = 0 ∧ rd hxF 22 2 = 0) ∧ (rd hxF 69 0 = 0 ∧ rd hxF 69 1 = 0 ∧ rd hxF 69 2 = 0 ∧ rd hxF 69 3 = 0 ∧ rd hxF 69 4 = 0) ∧ (rd hxF 90 0 = 0 ∧ rd hxF 90 1 = -1 ∧ rd hxF 96 0 = 0) := nfx.1
theorem nf2 : (rd hmF 0 1 = 0 ∧ rd hmF 0 4 = 0 ∧ rd hmF 0 5 = -1 ∧ rd hmF 0 12 = 6 ∧ rd hmF 0 13 = 4 ∧ rd hmF 0 14 = 0 ∧ rd hmF 0 15 = 0 ∧ rd hmF 0 16 = 0 ∧ rd hmF 0 17 = 0) ∧ (rd hmF 4 0 = 0 ∧ rd hmF 4 1 = 0 ∧ rd hmF 4 2 = 0 ∧ rd hmF 4 3 = 0 ∧ rd hmF 4 4 = 0 ∧ rd hmF 4 5 = 0 ∧ rd hmF 4 6 = 0) ∧ (rd hmF 15 0 = 0 ∧ rd hmF 15 1 = 0 ∧ rd hmF 15 2 = 0) ∧ (rd hmF 31 0 = 0 ∧ rd hmF 32 0 = 0 ∧ rd hmF 33 0 = 0) ∧ (rd hmF 0 64 = 0 ∧ rd hmF 0 65 = 0 ∧ rd hmF 0 66 = -1 ∧ rd hmF 0 74 = 0 ∧ rd hmF 0 75 = -1 ∧ rd hmF 0 78 = 0 ∧ rd hmF 0 80 = 0) := nfm.1
theorem nf3 : ∀ i : Nat, i < 24 → rd hxF 48 i = lgW.getD i 0 := nfx.2.1
theorem nf4 : ∀ i : Nat, i < 120 → rd hmF 2 i = wdM.getD i 0 := nfm.2
theorem nf5 : ∀ i : Nat, i < 280 → rd hxF 102 i = 0 := nfx.2.2
theorem rel0 : Rel (rd hxF) (rd hmF) := by
  obtain ⟨⟨a1, a3, a4, a10, a51, a8, a9⟩, ⟨b0, b1, b2, b3, b6, b7, b8, b9, b10, b13⟩, ⟨c1, c2, c3⟩, ⟨d1, d2, d3, d4, d5, d6⟩, ⟨e0, e1, e2, e3, e4⟩, f1, f2, f3⟩ := nf1
  obtain ⟨⟨g1, g4, g5, g12, g13, g14, g15, g16, g17⟩, ⟨h0, h1, h2, h3, h4, h5, h6⟩, ⟨i0, i1, i2⟩, ⟨j1, j2, j3⟩, k64, k65, k66, k74, k75, k78, k80⟩ := nf2
  have n3 := nf3
  have n4 := nf4
  have n5 := nf5
  generalize rd hxF = m at *
  generalize rd hmF = v at *
  have s0 : ∀ i, sl 21 m 2 0 i = m 2 i := fun i => sl_e (Nat.zero_le _) i
  have s1 : sl 21 m 2 1 0 = 0 := by rw [sl_e (by first | decide | omega)]; exact c1
  have s8 : sl 21 m 2 8 0 = 0 := by rw [sl_e (by first | decide | omega)]; exact c2
  have s9 : sl 21 m 2 8 1 = 0 := by rw [sl_e (by first | decide | omega)]; exact c3
  have t1 : sl 21 m 2 16 1 = 0 := by rw [sl_e (by first | decide | omega)]; exact d1
  have t2 : sl 21 m 2 16 2 = 0 := by rw [sl_e (by first | decide | omega)]; exact d2
  have t3 : sl 21 m 2 18 1 = 0 := by rw [sl_e (by first | decide | omega)]; exact d3
  have t4 : sl 21 m 2 18 2 = 0 := by rw [sl_e (by first | decide | omega)]; exact d4
  have t5 : sl 21 m 2 20 1 = 0 := by rw [sl_e (by first | decide | omega)]; exact d5
  have t6 : sl 21 m 2 20 2 = 0 := by rw [sl_e (by first | decide | omega)]; exact d6
  have n0 : ∀ i, sl 6 m 69 0 i = m 69 i := fun i => sl_e (Nat.zero_le _) i
  have lx : ∀ kn : Int → Int, LX kn 0 := fun kn => ⟨by first | decide | omega, fun j z => by first | decide | omega, fun z => by first | decide | omega⟩
  have rl : ∀ (k : Int) (a b : Nat), v 15 k = 0 → sl 21 m 2 a 1 = 0 → sl 21 m 2 a 2 = 0 → RLw v (sl 21 m 2) k a b := by
    intro k a b z1 z3 z4
    unfold RLw
    rw [z1, z3, z4]
    exact ⟨rfl, Or.inl rfl, fun _ => rfl, fun z => by first | decide | omega⟩
  have hff := (ff_spec (w := sl 21 m 2) (by first | decide | omega) 0).1
  refine Rel.of (T := 2) ⟨⟨⟨Or.inl rfl, a3, by rw [a4]; rfl, a51⟩, ⟨?_, fun i p q => by first | decide | omega, ⟨fun _ => s9, fun q => by first | decide | omega, fun t p q => by first | decide | omega⟩, fun i p q => by first | decide | omega, ⟨by rw [t1]; exact lx _, by rw [t3]; exact lx _, by rw [t5]; exact lx _⟩⟩, ⟨fun i p q => by first | decide | omega, fun i p q => by first | decide | omega⟩, ⟨⟨?_, ?_, ?_, ?_, ?_, ?_⟩, ?_, fun i p q => by first | decide | omega, fun i p q => by first | decide | omega, fun i p q => by first | decide | omega, rl 0 16 17 i0 t1 t2, rl 1 18 19 i1 t3 t4, rl 2 20 21 i2 t5 t6⟩⟩, ⟨⟨?_, fun i p q => by first | decide | omega⟩, ?_, fun i p q => by first | decide | omega, fun i p q => by first | decide | omega⟩, ⟨⟨fun i p q => by first | decide | omega, fun i p q => by first | decide | omega, ?_, ?_, ?_⟩, ?_, ?_, fun i p q => by first | decide | omega, k66⟩, ⟨by rw [a10, k80], Or.inl a10⟩, ⟨by rw [f1, k74], by first | decide | omega, by rw [f2, k75], by first | decide | omega, fun k p q => by first | decide | omega⟩, ⟨by rw [f3, k78], by first | decide | omega, fun _ s => sl 6 m 69 1 s, fun _ s => sl 6 m 69 5 s, fun _ => sl 6 m 69 0 1, fun s p q => by first | decide | omega, rfl, fun j p q => by first | decide | omega⟩, ⟨by rw [a1, g1], by first | decide | omega, fun i p q => by first | decide | omega, n3, n4⟩, ⟨by rw [a8, g4], by rw [a9, g5]⟩, fun i p q => ?_⟩
  · unfold WS
    rw [s0, s0, s0, s0, s0, s0, s0, s0, s0, s0, s1, s8, s9, b0, b1, b2, b3, b6, b7, b8, b9, b10, b13]
    omega
  · rw [s0, b0]; exact g12
  · rw [s0, b1]; exact g13
  · rw [s1]; exact g14
  · rw [s8]; exact g15
  · rw [s9]; exact g16
  · rw [s0, b13]; exact g17
  · rw [s0, s0, s0, s0, s0, s0, s0, b2, b3, b6, b7, b8, b9, b10]
    exact ⟨h0, h1, h2, h3, h4, h5, h6⟩
  · rw [n0, n0, n0, n0, n0, e0, e1, e2, e3, e4]; omega
  · rw [n0, e0]; omega
  · rw [n0, e3]; exact j2
  · rw [n0, e4]; exact j3
  · rw [n0, e2]; exact k65
  · rw [n0, e0]; exact j1
  · rw [n0, e1]; exact k64
  · have := n5 i.toNat (by first | decide | omega)
    rw [show ((i.toNat : Nat) : Int) = i by first | decide | omega] at this
    omega
