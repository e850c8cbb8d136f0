section Q39
variable {m v : Mem} {S : Int} {D : Nat}
/-- all lines -/
theorem l_all (hS : S ≤ 700) : ∀ (d n : Nat) (x : Int) (m v : Mem), (701 - x).toNat = d → d < n → 0 ≤ x → x ≤ m 47 3 → m D 12 = x → DI m v D → PreR m v S → ∃ m' v', Fm (PX D) m m' ∧ Fm QX v v' ∧ ((G5_readAll_44 n m x = some (1, m') ∧ (G12_text_55 n v x = (G12_keepText v').bind fun o => some (m' D 12, o)) ∧ DI m' v' D ∧ FLT m' v') ∨ (G5_readAll_44 n m x = some (0, m') ∧ G12_text_55 n v x = some (-1, v') ∧ FLT m' v')) := by
  intro d
  induction d with
  | zero =>
    intro n x m v h1 h2 h3 h4 h5 hD p
    have := p.2.2.2.2.1
    omega
  | succ d ih =>
    intro n x m v h1 h2 h3 h4 h5 hD p
    obtain ⟨n, rfl⟩ : ∃ j, n = j + 1 := ⟨n - 1, by first | decide | omega⟩
    have hp := p.2.2.2.2.1
    have hDD := hD.1.1
    obtain ⟨m1, e1, f1, p1, q1, q2⟩ := p.adv
    have f1' := f1.mono P47_k
    have hD1 : DI m1 v D := hD.k f1' (Fm.rf (m := v))
    have hk := p1.2.2.2.2.2.2.2
    have e12 : m1 D 12 = x := by rw [f1 D 12 (by unfold P47; first | decide | omega)]; exact h5
    rw [G5_readAll_44, G12_text_55, if_neg (by first | decide | omega), e1, bs1]
    by_cases c : m1 47 4 = 39
    · have e8 : v 0 8 = 0 := by unfold KR SGN NumR at hk; omega
      rw [if_pos c, if_pos e8]
      exact ⟨m1, v, f1'.mono Pk_x, Fm.rf, Or.inl ⟨rfl, by rw [e12], hD1, p1.2.2.2.1.2⟩⟩
    · have e8 : ¬ v 0 8 = 0 := by unfold KR SGN NumR at hk; omega
      rw [if_neg c, if_neg e8]
      obtain ⟨m2, v2, f2, g2, q3, k⟩ := l_line hD1 p1
      rcases k with ⟨a1, a2, a3, a4, a5⟩ | ⟨a1, a2, a3⟩
      · rw [a1, a2, bs1, bs1]
        simp only [if_neg i10]
        have q4 := q2 c
        have hp2 := a4.2.2.2.2.1
        rw [a3.1.2, Int.toNat_natCast, a5, e12, gd3_t (by first | decide | omega), wt_e, gd3_t (by first | decide | omega), gd3_t (by first | decide | omega)]
        have p3 : PreR (up m2 D 12 (x + 1)) v2 S := a4.f (P := fun b i => b = D) (Q := fun _ _ => False) (Fm.w1 rfl) Fm.rf (by intro b i q; first | decide | omega) (fun b i _ => id)
        obtain ⟨m', v', b1, b2, b3⟩ := ih n (x + 1) (up m2 D 12 (x + 1)) v2 (by first | decide | omega) (by first | decide | omega) (by first | decide | omega) (by rw [up_a (by first | decide | omega)]; first | decide | omega) up_e a3.l12 p3
        exact ⟨m', v', (((f1'.mono Pk_x).tr f2).w (by unfold PX; first | decide | omega)).tr b1, g2.tr b2, b3⟩
      · rw [a1, a2, bs1, bs1]
        simp only [if_true]
        exact ⟨m2, v2, (f1'.mono Pk_x).tr f2, g2, Or.inr ⟨by first | rfl | trivial, by first | rfl | trivial, a3⟩⟩
end Q39
