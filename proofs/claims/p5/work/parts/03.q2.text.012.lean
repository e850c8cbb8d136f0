section Q26
variable {m v : Mem} {S : Int} {D : Nat}
theorem n_cellw (hn : v 0 18 = m D 0 ∧ v 0 19 = m D 1) (hw : (1 ≤ m D 0 ∧ m D 0 ≤ 8) ∧ (1 ≤ m D 1 ∧ m D 1 ≤ 6)) (p : PreR m v S) : ∃ m' v', Fm Pk m m' ∧ Fm Qc v v' ∧ m 47 3 ≤ m' 47 3 ∧ v' 0 24 = 1 ∧ ((∃ x y m1, (0 ≤ x ∧ x < m D 0) ∧ (0 ≤ y ∧ y < m D 1) ∧ G5_numberIn m 0 (m D 0 - 1) = some (x, m1) ∧ Fm Pk m m1 ∧ G5_numberIn m1 0 (m D 1 - 1) = some (y, m') ∧ G12_cellRead v = some (1, v') ∧ v' 0 43 = x ∧ v' 0 11 = y ∧ PreR m' v' S) ∨ (G5_numberIn m 0 (m D 0 - 1) = some (-1, m') ∧ G12_cellRead v = some (0, v') ∧ FLT m' v') ∨ (∃ x m1, 0 ≤ x ∧ G5_numberIn m 0 (m D 0 - 1) = some (x, m1) ∧ Fm Pk m m1 ∧ G5_numberIn m1 0 (m D 1 - 1) = some (-1, m') ∧ G12_cellRead v = some (0, v') ∧ FLT m' v')) := by
  unfold G12_cellRead G12_cellRead_0
  rw [wt_e]
  have g1 : Fm Qc v (up v 0 24 1) := Fm.w1 (by unfold Qc; first | decide | omega)
  have e18 : up v 0 24 1 0 18 = m D 0 := by rw [up_i (by first | decide | omega)]; exact hn.1
  have e19 : up v 0 24 1 0 19 = m D 1 := by rw [up_i (by first | decide | omega)]; exact hn.2
  have e24 : up v 0 24 1 0 24 = 1 := up_e
  have p1 : PreR m (up v 0 24 1) S := p.f (P := fun _ _ => False) (Q := fun b i => b = 0 ∧ i = 24) Fm.rf (Fm.w1 ⟨rfl, rfl⟩) (fun b i _ => id) (by intro b i q; first | decide | omega)
  generalize up v 0 24 1 = v1 at g1 e18 e19 e24 p1 ⊢
  rw [e18, gd3_t (by first | decide | omega)]
  obtain ⟨m2, v2, f2, g2, q2, k2⟩ := n_in p1 (lo := 0) (hi := m D 0 - 1) (by first | decide | omega)
  rcases k2 with ⟨x, x1, x2, a1, a2, a3, a4, _⟩ | ⟨a1, a2, a3⟩
  · rw [a2, bs1]
    simp only [if_neg i10]
    rw [wt_e, a3]
    have e19' : up v2 0 43 x 0 19 = m D 1 := by rw [up_i (by first | decide | omega), g2 0 19 (by unfold Qk; first | decide | omega)]; exact e19
    rw [e19', gd3_t (by first | decide | omega)]
    have p2 : PreR m2 (up v2 0 43 x) S := a4.f (P := fun _ _ => False) (Q := fun b i => b = 0 ∧ i = 43) Fm.rf (Fm.w1 ⟨rfl, rfl⟩) (fun b i _ => id) (by intro b i q; first | decide | omega)
    have e24' : up v2 0 43 x 0 24 = 1 := by rw [up_i (by first | decide | omega), g2 0 24 (by unfold Qk; first | decide | omega)]; exact e24
    have g3 : Fm Qc v (up v2 0 43 x) := (g1.tr (g2.mono (fun b i q => Or.inl q))).w (by unfold Qc; first | decide | omega)
    have e43 : up v2 0 43 x 0 43 = x := up_e
    obtain ⟨m3, v3, f3, g4, q3, k3⟩ := n_in p2 (lo := 0) (hi := m D 1 - 1) (by first | decide | omega)
    rcases k3 with ⟨y, y1, y2, b1, b2, b3, b4, _⟩ | ⟨b1, b2, b3⟩
    · rw [b2, bs1]
      simp only [if_neg i10]
      exact ⟨m3, v3, f2.tr f3, g3.tr (g4.mono (fun b i q => Or.inl q)), by first | decide | omega, by rw [g4 0 24 (by unfold Qk; first | decide | omega)]; exact e24', Or.inl ⟨x, y, m2, ⟨x1, by first | decide | omega⟩, ⟨y1, by first | decide | omega⟩, a1, f2, b1, rfl, by rw [g4 0 43 (by unfold Qk; first | decide | omega)]; exact e43, b3, b4⟩⟩
    · rw [b2, bs1]
      simp only [if_true]
      exact ⟨m3, v3, f2.tr f3, g3.tr (g4.mono (fun b i q => Or.inl q)), by first | decide | omega, by rw [g4 0 24 (by unfold Qk; first | decide | omega)]; exact e24', Or.inr (Or.inr ⟨x, m2, x1, a1, f2, b1, rfl, b3⟩)⟩
  · rw [a2, bs1]
    simp only [if_true]
    exact ⟨m2, v2, f2, g1.tr (g2.mono (fun b i q => Or.inl q)), q2, by rw [g2 0 24 (by unfold Qk; first | decide | omega)]; exact e24, Or.inr (Or.inl ⟨a1, rfl, a3⟩)⟩
theorem n_cell (hD : DI m v D) (p : PreR m v S) : ∃ m' v', Fm Pk m m' ∧ Fm Qc v v' ∧ m 47 3 ≤ m' 47 3 ∧ v' 0 24 = 1 ∧ ((∃ x y m1, (0 ≤ x ∧ x < m D 0) ∧ (0 ≤ y ∧ y < m D 1) ∧ G5_numberIn m 0 (m D 0 - 1) = some (x, m1) ∧ Fm Pk m m1 ∧ G5_numberIn m1 0 (m D 1 - 1) = some (y, m') ∧ G12_cellRead v = some (1, v') ∧ v' 0 43 = x ∧ v' 0 11 = y ∧ PreR m' v' S) ∨ (G5_numberIn m 0 (m D 0 - 1) = some (-1, m') ∧ G12_cellRead v = some (0, v') ∧ FLT m' v') ∨ (∃ x m1, 0 ≤ x ∧ G5_numberIn m 0 (m D 0 - 1) = some (x, m1) ∧ Fm Pk m m1 ∧ G5_numberIn m1 0 (m D 1 - 1) = some (-1, m') ∧ G12_cellRead v = some (0, v') ∧ FLT m' v')) := n_cellw hD.n.1 hD.ws.2 p
theorem Qc_x : ∀ b i, Qc b i → QX b i := by intro b i h; unfold Qc Qk at h; unfold QX; omega
/-- a line ends with a fault, the draft having been touched -/
theorem lo_fltx {X Y : Option (Int × Mem)} (h : ∃ m' v', Fm (PX D) m m' ∧ Fm QX v v' ∧ m 47 3 ≤ m' 47 3 ∧ X = some (0, m') ∧ Y = some (0, v') ∧ FLT m' v') : LOut X Y m v D S := by
  obtain ⟨m', v', f, g, p, e1, e2, e3⟩ := h
  exact ⟨m', v', f, g, p, Or.inr ⟨e1, e2, e3⟩⟩
/-- the word of a line that comes once was told already -/
theorem onc37 (h : PostR m v S) {r : Int} (hr : 0 ≤ r ∧ r < 5) (c : ¬ v 3 r = 0) : ((G12_onceLine_37 v r).bind fun o => G12_lineRead_197 o.2 o.1) = some (0, up (up v 0 4 3) 0 5 (v 0 10)) := by
  unfold G12_onceLine_37
  rw [gdx_t hr, if_neg c, r_wrong, bs1, gdb_t (by first | decide | omega), bs1]
  exact r197 _
end Q26
