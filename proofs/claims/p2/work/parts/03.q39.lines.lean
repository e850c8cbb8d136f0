/-! Any line, and all lines of a text, on both sides. -/
section Q39
variable {m v : Mem} {S : Int} {D : Nat}
theorem l_line (hD : DI m v D) (h : PostR m v S) : LOut (G5_readLine m) (G12_lineRead v) m v D S := by
  have hk := h.2.2.2.2.2.2.2
  have hb := KR_b hk
  have hi := KR_kw hk (lo := 0) (hi := 7) (by omega) (by omega)
  unfold G5_readLine G5_readLine_0 G12_lineRead G12_lineRead_0
  by_cases c : 0 ≤ m 47 4 ∧ m 47 4 ≤ 7
  · obtain ⟨k8, k9⟩ := hi.mp c
    have ek : v 0 9 = m 47 4 := by
      have hlo : kwf (m 47 4) = m 47 4 := kwf_lo (by omega)
      unfold KR SGN NumR at hk
      rw [hlo] at hk
      omega
    rw [if_pos k8, if_pos (show v 0 9 ≤ 7 by omega), ek]
    rcases (show m 47 4 = 0 ∨ m 47 4 = 1 ∨ m 47 4 = 2 ∨ m 47 4 = 3 ∨ m 47 4 = 4 ∨ m 47 4 = 5 ∨ m 47 4 = 6 ∨ m 47 4 = 7 by omega) with e | e | e | e | e | e | e | e
    · simp only [if_pos e]
      exact lo_gdb (l_sea hD h)
    · simp only [if_neg (show ¬ m 47 4 = 0 by omega), if_pos e]
      exact lo_gdb (l_peak hD h e)
    · simp only [if_neg (show ¬ m 47 4 = 0 by omega), if_neg (show ¬ m 47 4 = 1 by omega), if_pos e]
      exact lo_gdb (l_surf hD h)
    · simp only [if_neg (show ¬ m 47 4 = 0 by omega), if_neg (show ¬ m 47 4 = 1 by omega), if_neg (show ¬ m 47 4 = 2 by omega), if_pos e]
      exact lo_gdb (l_set hD h)
    · simp only [if_neg (show ¬ m 47 4 = 0 by omega), if_neg (show ¬ m 47 4 = 1 by omega), if_neg (show ¬ m 47 4 = 2 by omega), if_neg (show ¬ m 47 4 = 3 by omega), if_pos e]
      exact lo_gdb (l_bank hD h e)
    · simp only [if_neg (show ¬ m 47 4 = 0 by omega), if_neg (show ¬ m 47 4 = 1 by omega), if_neg (show ¬ m 47 4 = 2 by omega), if_neg (show ¬ m 47 4 = 3 by omega), if_neg (show ¬ m 47 4 = 4 by omega), if_pos e]
      exact lo_gdb (l_rule hD h e)
    · simp only [if_neg (show ¬ m 47 4 = 0 by omega), if_neg (show ¬ m 47 4 = 1 by omega), if_neg (show ¬ m 47 4 = 2 by omega), if_neg (show ¬ m 47 4 = 3 by omega), if_neg (show ¬ m 47 4 = 4 by omega), if_neg (show ¬ m 47 4 = 5 by omega), if_pos e]
      exact lo_gdb (l_seed hD h e)
    · rw [if_neg (show ¬ m 47 4 = 0 by omega), if_neg (show ¬ m 47 4 = 1 by omega), if_neg (show ¬ m 47 4 = 2 by omega), if_neg (show ¬ m 47 4 = 3 by omega), if_neg (show ¬ m 47 4 = 4 by omega), if_neg (show ¬ m 47 4 = 5 by omega), if_neg (show ¬ m 47 4 = 6 by omega), if_pos e, if_neg (show ¬ m 47 4 = 0 by omega), if_neg (show ¬ m 47 4 = 1 by omega), if_neg (show ¬ m 47 4 = 2 by omega), if_neg (show ¬ m 47 4 = 3 by omega), if_neg (show ¬ m 47 4 = 4 by omega), if_neg (show ¬ m 47 4 = 5 by omega), if_neg (show ¬ m 47 4 = 6 by omega)]
      exact lo_gdb (l_law hD h)
  · have e17 : G12_lineRead_17 v = some (0, up (up v 0 4 1) 0 5 (v 0 10)) := by unfold G12_lineRead_17; rw [r_wrong, bs1, gdb_t (by omega)]
    rw [if_neg (show ¬ m 47 4 = 0 by omega), if_neg (show ¬ m 47 4 = 1 by omega), if_neg (show ¬ m 47 4 = 2 by omega), if_neg (show ¬ m 47 4 = 3 by omega), if_neg (show ¬ m 47 4 = 4 by omega), if_neg (show ¬ m 47 4 = 5 by omega), if_neg (show ¬ m 47 4 = 6 by omega), if_neg (show ¬ m 47 4 = 7 by omega), c_ref, bs1, gdb_t (by omega)]
    refine lo_ref h 1 rfl ?_
    by_cases a : v 0 8 = 1
    · have hkb : 0 ≤ m 47 4 ∧ m 47 4 < 24 → 0 ≤ kwf (m 47 4) ∧ kwf (m 47 4) < 24 ∧ (15 ≤ m 47 4 ∧ m 47 4 ≤ 17 → 15 ≤ kwf (m 47 4) ∧ kwf (m 47 4) ≤ 17) := kwf_b
      have : ¬ v 0 9 ≤ 7 := fun z => c (hi.mpr ⟨a, by unfold KR SGN NumR at hk; omega, z⟩)
      rw [if_pos a, if_neg this, e17]
    · rw [if_neg a, e17]
theorem DI.l12 {x : Int} (hD : DI m v D) : DI (up m D 12 x) v D := by
  obtain ⟨h1, h2, h3, h4, h5, h6, h7⟩ := hD
  have hDD := h1.1
  have hw : ∀ c : Nat, 1 ≤ c → sl 21 (up m D 12 x) D c = sl 21 m D c := fun c hc => by
    funext i
    by_cases c21 : c ≤ 21
    · rw [sl_e c21, sl_e c21]; exact up_a (by omega)
    · unfold sl; rw [if_neg c21, if_neg c21]
  have e0 : ∀ i, i ≠ 12 → sl 21 (up m D 12 x) D 0 i = sl 21 m D 0 i := fun i z => by rw [sl_e (Nat.zero_le _), sl_e (Nat.zero_le _)]; exact up_i z
  refine ⟨⟨hDD, by rw [up_a (by omega)]; exact h1.2⟩, h2.flds hw ?_ ?_, h3.flds hw (e0 13 (by omega)) (fun _ _ _ => rfl) (fun _ _ _ => rfl) ?_ ?_, ?_, ?_, ?_, h7⟩
  · have := h2.1
    unfold WS at this ⊢
    rw [e0 0 (by omega), e0 1 (by omega), e0 2 (by omega), e0 3 (by omega), e0 6 (by omega), e0 7 (by omega), e0 8 (by omega), e0 9 (by omega), e0 10 (by omega), e0 13 (by omega), hw 1 (by omega), hw 8 (by omega)]
    exact this
  · rw [e0 0 (by omega), e0 1 (by omega)]; exact fun i p q => (h2.2.1 i p q).1.2
  · rw [e0 0 (by omega), e0 1 (by omega)]; exact ⟨h3.1.1, h3.1.2.1⟩
  · rw [e0 2 (by omega), e0 3 (by omega), e0 6 (by omega), e0 7 (by omega), e0 8 (by omega), e0 9 (by omega), e0 10 (by omega)]; exact h3.2.1
  · unfold CTL
    rw [up_a (by omega), e0 2 (by omega), e0 3 (by omega), hw 1 (by omega)]; exact h4
  · unfold ONC
    rw [up_a (by omega)]; exact h5
  · rw [e0 13 (by omega)]; exact h6
/-- all lines -/
theorem l_all (hS : S ≤ 700) : ∀ (d n : Nat) (x : Int) (m v : Mem), (701 - x).toNat = d → d < n → 0 ≤ x → x ≤ m 47 3 → m D 12 = x → DI m v D → PreR m v S → ∃ m' v', Fm (PX D) m m' ∧ Fm QX v v' ∧ ((G5_readAll_44 n m x = some (1, m') ∧ (G12_text_55 n v x = (G12_keepText v').bind fun o => some (m' D 12, o)) ∧ DI m' v' D ∧ FLT m' v') ∨ (G5_readAll_44 n m x = some (0, m') ∧ G12_text_55 n v x = some (-1, v') ∧ FLT m' v')) := by
  intro d
  induction d with
  | zero =>
    intro n x m v h1 h2 h3 h4 h5 hD p
    have := p.2.2.2.2.1
    omega
  | succ d ih =>
    intro n x m v h1 h2 h3 h4 h5 hD p
    obtain ⟨n, rfl⟩ : ∃ j, n = j + 1 := ⟨n - 1, by omega⟩
    have hp := p.2.2.2.2.1
    have hDD := hD.1.1
    obtain ⟨m1, e1, f1, p1, q1, q2⟩ := p.adv
    have f1' := f1.mono P47_k
    have hD1 : DI m1 v D := hD.k f1' (Fm.rf (m := v))
    have hk := p1.2.2.2.2.2.2.2
    have e12 : m1 D 12 = x := by rw [f1 D 12 (by unfold P47; omega)]; exact h5
    rw [G5_readAll_44, G12_text_55, if_neg (by omega), e1, bs1]
    by_cases c : m1 47 4 = 39
    · have e8 : v 0 8 = 0 := by unfold KR SGN NumR at hk; omega
      rw [if_pos c, if_pos e8]
      exact ⟨m1, v, f1'.mono Pk_x, Fm.rf, Or.inl ⟨rfl, by rw [e12], hD1, p1.2.2.2.1.2⟩⟩
    · have e8 : ¬ v 0 8 = 0 := by unfold KR SGN NumR at hk; omega
      rw [if_neg c, if_neg e8]
      obtain ⟨m2, v2, f2, g2, q3, k⟩ := l_line hD1 p1
      rcases k with ⟨a1, a2, a3, a4, a5⟩ | ⟨a1, a2, a3⟩
      · rw [a1, a2, bs1, bs1]
        simp only [if_neg i10]
        have q4 := q2 c
        have hp2 := a4.2.2.2.2.1
        rw [a3.1.2, Int.toNat_natCast, a5, e12, gd3_t (by omega), wt_e, gd3_t (by omega), gd3_t (by omega)]
        have p3 : PreR (up m2 D 12 (x + 1)) v2 S := a4.f (P := fun b i => b = D) (Q := fun _ _ => False) (Fm.w1 rfl) Fm.rf (by intro b i q; omega) (fun b i _ => id)
        obtain ⟨m', v', b1, b2, b3⟩ := ih n (x + 1) (up m2 D 12 (x + 1)) v2 (by omega) (by omega) (by omega) (by rw [up_a (by omega)]; omega) up_e a3.l12 p3
        exact ⟨m', v', (((f1'.mono Pk_x).tr f2).w (by unfold PX; omega)).tr b1, g2.tr b2, b3⟩
      · rw [a1, a2, bs1, bs1]
        simp only [if_true]
        exact ⟨m2, v2, (f1'.mono Pk_x).tr f2, g2, Or.inr ⟨by first | rfl | trivial, by first | rfl | trivial, a3⟩⟩
end Q39
