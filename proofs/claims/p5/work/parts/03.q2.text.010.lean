section Q25
variable {m v m' v' w w' u u' : Mem} {S : Int} {D : Nat}
theorem onc_at (h : ONC m v) {c r : Int} (hc : crp c r) : tb (m 46 6) c = 0 ↔ v 3 r = 0 := by
  obtain ⟨h1, h2, h3, h4, h5⟩ := h
  rcases hc with ⟨a, b⟩ | ⟨a, b⟩ | ⟨a, b⟩ | ⟨a, b⟩ | ⟨a, b⟩ <;> rw [a, b] <;> assumption
theorem onc_set (h : ONC m v) {c r : Int} (hc : crp c r) : ONC (up m 46 6 (b3or (m 46 6) (b3sl 1 (b3an c 31)))) (up v 3 r 1) := by
  have one : ∀ k s, crp k s → (tb (up m 46 6 (b3or (m 46 6) (b3sl 1 (b3an c 31))) 46 6) k = 0 ↔ up v 3 r 1 3 s = 0) := by
    intro k s hk
    have hkv : k = 0 ∨ k = 1 ∨ k = 4 ∨ k = 5 ∨ k = 6 := by unfold crp at hk; omega
    have hcv : c = 0 ∨ c = 1 ∨ c = 4 ∨ c = 5 ∨ c = 6 := by unfold crp at hc; omega
    rw [up_e]
    by_cases e : k = c
    · have es : s = r := by unfold crp at hk hc; omega
      subst e
      subst es
      rw [up_e]
      unfold tb
      rw [an_or_eq]
      exact ⟨fun q => absurd q (tb_1 k hkv), fun q => by first | decide | omega⟩
    · have es : s ≠ r := by unfold crp at hk hc; omega
      rw [up_i es]
      unfold tb
      rw [an_or_ne _ _ _ (tb_2 c k hcv hkv (fun q => e q.symm))]
      exact onc_at h hk
  refine ⟨one 0 0 ?_, one 1 1 ?_, one 4 2 ?_, one 5 3 ?_, one 6 4 ?_⟩ <;> (unfold crp; first | decide | omega)
theorem RLw.fr3 {k : Int} {a b : Nat} (h : RLw u w k a b) (e : ∀ c : Nat, 15 ≤ c → c ≤ 20 → u' c = u c) (ea : w' a = w a) (eb : w' b = w b) : RLw u' w' k a b := by
  obtain ⟨h1, h2, h3, h4⟩ := h
  unfold RLw
  rw [e 15 (by first | decide | omega) (by first | decide | omega), e 16 (by first | decide | omega) (by first | decide | omega), e 17 (by first | decide | omega) (by first | decide | omega), ea, eb]
  refine ⟨h1, h2, h3, fun q => ?_⟩
  obtain ⟨g1, g2, g3, g4, g5⟩ := h4 q
  exact ⟨g1, g2, g3, g4, fun j hj => (g5 j hj).fr (e 18 (by first | decide | omega) (by first | decide | omega)) (e 19 (by first | decide | omega) (by first | decide | omega)) (e 20 (by first | decide | omega) (by first | decide | omega))⟩
/-- a line that changes numbers of the told only -/
theorem RT.flds (h : RT u w) (hw : ∀ c : Nat, 1 ≤ c → w' c = w c) (h13 : w' 0 13 = w 0 13) (hu : ∀ c : Nat, 5 ≤ c → c ≤ 20 → u' c = u c) (hu0 : ∀ i, 14 ≤ i → i ≤ 17 → u' 0 i = u 0 i) (n1 : u' 0 12 = w' 0 0 ∧ u' 0 13 = w' 0 1) (n2 : u' 4 0 = w' 0 2 ∧ u' 4 1 = w' 0 3 ∧ u' 4 2 = w' 0 6 ∧ u' 4 3 = w' 0 7 ∧ u' 4 4 = w' 0 8 ∧ u' 4 5 = w' 0 9 ∧ u' 4 6 = w' 0 10) : RT u' w' := by
  obtain ⟨⟨a1, a2, a3, a4, a5, a6⟩, b, c, d, e, f1, f2, f3⟩ := h
  refine ⟨⟨n1.1, n1.2, ?_, ?_, ?_, ?_⟩, n2, ?_, ?_, ?_, f1.fr3 (fun c p q => hu c (by first | decide | omega) q) (hw 16 (by first | decide | omega)) (hw 17 (by first | decide | omega)), f2.fr3 (fun c p q => hu c (by first | decide | omega) q) (hw 18 (by first | decide | omega)) (hw 19 (by first | decide | omega)), f3.fr3 (fun c p q => hu c (by first | decide | omega) q) (hw 20 (by first | decide | omega)) (hw 21 (by first | decide | omega))⟩
  · rw [hu0 14 (by first | decide | omega) (by first | decide | omega), hw 1 (by first | decide | omega)]; exact a3
  · rw [hu0 15 (by first | decide | omega) (by first | decide | omega), hw 8 (by first | decide | omega)]; exact a4
  · rw [hu0 16 (by first | decide | omega) (by first | decide | omega), hw 8 (by first | decide | omega)]; exact a5
  · rw [hu0 17 (by first | decide | omega) (by first | decide | omega), h13]; exact a6
  · rw [hu 5 (by first | decide | omega) (by first | decide | omega), hu 6 (by first | decide | omega) (by first | decide | omega), hu 7 (by first | decide | omega) (by first | decide | omega), hu 8 (by first | decide | omega) (by first | decide | omega), hu 9 (by first | decide | omega) (by first | decide | omega), hu 10 (by first | decide | omega) (by first | decide | omega), hw 1 (by first | decide | omega), hw 2 (by first | decide | omega), hw 3 (by first | decide | omega), hw 4 (by first | decide | omega), hw 5 (by first | decide | omega), hw 6 (by first | decide | omega), hw 7 (by first | decide | omega)]; exact c
  · rw [hu 11 (by first | decide | omega) (by first | decide | omega), hw 8 (by first | decide | omega), hw 9 (by first | decide | omega)]; exact d
  · rw [hu 12 (by first | decide | omega) (by first | decide | omega), hu 13 (by first | decide | omega) (by first | decide | omega), hu 14 (by first | decide | omega) (by first | decide | omega), hw 8 (by first | decide | omega), hw 11 (by first | decide | omega), hw 12 (by first | decide | omega), hw 13 (by first | decide | omega)]; exact e
theorem WW.flds (h : WW w) (hw : ∀ c : Nat, 1 ≤ c → w' c = w c) (hS : WS w') (hc : ∀ i, 0 ≤ i → i < w 1 0 → w 3 i < w' 0 0 * w' 0 1) : WW w' := by
  obtain ⟨_, h2, h3, h4, h5⟩ := h
  refine ⟨hS, ?_, ?_, ?_, ?_⟩
  · unfold WC
    rw [hw 1 (by first | decide | omega), hw 3 (by first | decide | omega), hw 4 (by first | decide | omega), hw 5 (by first | decide | omega), hw 6 (by first | decide | omega), hw 7 (by first | decide | omega)]
    exact fun i p q => ⟨⟨(h2 i p q).1.1, hc i p q⟩, (h2 i p q).2⟩
  · unfold WT
    rw [hw 8 (by first | decide | omega), hw 9 (by first | decide | omega), hw 10 (by first | decide | omega)]; exact h3
  · unfold WV
    rw [hw 8 (by first | decide | omega), hw 9 (by first | decide | omega), hw 10 (by first | decide | omega), hw 11 (by first | decide | omega), hw 12 (by first | decide | omega), hw 13 (by first | decide | omega), hw 14 (by first | decide | omega)]; exact h4
  · unfold WLX
    rw [hw 16 (by first | decide | omega), hw 17 (by first | decide | omega), hw 18 (by first | decide | omega), hw 19 (by first | decide | omega), hw 20 (by first | decide | omega), hw 21 (by first | decide | omega)]; exact h5
theorem lo_gdb {X Y : Option (Int × Mem)} (h : LOut X Y m v D S) : LOut (X.bind fun o => gdb o.1 (some (o.1, o.2))) Y m v D S := by
  obtain ⟨m', v', f, g, p, k⟩ := h
  refine ⟨m', v', f, g, p, ?_⟩
  rcases k with ⟨a1, a2⟩ | ⟨a1, a2⟩
  · rw [a1, bs1, gdb_t (by first | decide | omega)]; exact Or.inl ⟨rfl, a2⟩
  · rw [a1, bs1, gdb_t (by first | decide | omega)]; exact Or.inr ⟨rfl, a2⟩
theorem r197 (v : Mem) : G12_lineRead_197 v 0 = some (0, v) := by unfold G12_lineRead_197; rw [if_pos rfl]
/-- a fault where the token is held -/
theorem lo_ref {X Y : Option (Int × Mem)} (h : PostR m v S) (x : Int) (hX : X = some (0, up (up m 46 8 x) 46 9 (m 47 5))) (hY : Y = some (0, up (up v 0 4 x) 0 5 (v 0 10))) : LOut X Y m v D S := by
  obtain ⟨q1, q2, q3⟩ := flt m v x (show m 47 5 = v 0 10 from h.2.2.2.2.2.1.symm)
  exact lo_flt ⟨_, _, q2, q3, by rw [up_a (by first | decide | omega), up_a (by first | decide | omega)]; first | decide | omega, hX, hY, q1⟩
/-- the line's word is told the first time: both go on -/
theorem first_on (hD : DI m v D) (h : PostR m v S) {c r : Int} (hc : crp c r) : DI (up m 46 6 (b3or (m 46 6) (b3sl 1 (b3an c 31)))) (up v 3 r 1) D ∧ PostR (up m 46 6 (b3or (m 46 6) (b3sl 1 (b3an c 31)))) (up v 3 r 1) S := by
  obtain ⟨h1, h2, h3, h4, h5, h6⟩ := hD
  have fm : Fm (fun b i => b = 46 ∧ i = 6) m (up m 46 6 (b3or (m 46 6) (b3sl 1 (b3an c 31)))) := Fm.w1 ⟨rfl, rfl⟩
  have fv : Fm (fun b _ => b = 3) v (up v 3 r 1) := Fm.w1 rfl
  have ew : sl 21 (up m 46 6 (b3or (m 46 6) (b3sl 1 (b3an c 31)))) D = sl 21 m D := sl_c (fun b x y => fm.rw1 (fun i => by first | decide | omega))
  refine ⟨⟨⟨h1.1, by rw [fm 46 10 (by first | decide | omega)]; exact h1.2⟩, by rw [ew]; exact h2, ?_, ?_, onc_set h5 hc, ?_⟩, h.f fm fv (by intro b i q; first | decide | omega) (by intro b i q; first | decide | omega)⟩
  · rw [ew]; exact h3.fr (kd_f fv) (by intro b i q; first | decide | omega)
  · rw [ew]; unfold CTL; rw [fm 46 7 (by first | decide | omega), fv 0 24 (by first | decide | omega)]; exact h4
  · exact ⟨by rw [ew, fv 0 49 (by first | decide | omega)]; exact h6.1, h6.2.f fv (by intro b i q; first | decide | omega)⟩
/-- what a line of numbers changes -/
def Pf (D : Nat) : Nat → Int → Prop := fun b i => Pk b i ∨ (b = 46 ∧ i = 7) ∨ (b = D ∧ i ≤ 10)
def Qf : Nat → Int → Prop := fun b i => Qk b i ∨ (b = 0 ∧ (i = 18 ∨ i = 19 ∨ i = 24 ∨ i = 43)) ∨ (b = 4 ∧ 7 ≤ i)
theorem Pk_f : ∀ b i, Pk b i → Pf D b i := fun _ _ h => Or.inl h
theorem Qk_f : ∀ b i, Qk b i → Qf b i := fun _ _ h => Or.inl h
/-- the draft behind a line of numbers -/
theorem di_flds (hD : DI m v D) {x7 : Int} (f : Fm (Pf D) m m') (g : Fm Qf v v') (h7 : m' 46 7 = x7 ∧ v' 0 24 = x7 ∧ (x7 = 0 ∨ x7 = 1)) (hz : x7 = 0 → sl 21 m D 1 0 = 0 ∧ m' D 2 = 0 ∧ m' D 3 = 0) (hS : WS (sl 21 m' D)) (hc : ∀ i, 0 ≤ i → i < sl 21 m D 1 0 → sl 21 m D 3 i < m' D 0 * m' D 1) (n1 : v' 0 18 = m' D 0 ∧ v' 0 19 = m' D 1) (n2 : v' 4 7 = m' D 2 ∧ v' 4 8 = m' D 3 ∧ v' 4 9 = m' D 6 ∧ v' 4 10 = m' D 7 ∧ v' 4 11 = m' D 8 ∧ v' 4 12 = m' D 9 ∧ v' 4 13 = m' D 10) : DI m' v' D ∧ m' D 12 = m D 12 := by
  obtain ⟨h1, h2, h3, h4, h5, h6⟩ := hD
  have hw : ∀ c : Nat, 1 ≤ c → sl 21 m' D c = sl 21 m D c := fun c hc => by
    funext i
    by_cases c21 : c ≤ 21
    · rw [sl_e c21, sl_e c21]; exact f (D + c) i (by unfold Pf Pk; first | decide | omega)
    · unfold sl; rw [if_neg c21, if_neg c21]
  have e0 : ∀ i, sl 21 m' D 0 i = m' D i := fun i => sl_e (Nat.zero_le _) i
  have e13 : sl 21 m' D 0 13 = sl 21 m D 0 13 := by rw [sl_e (Nat.zero_le _), sl_e (Nat.zero_le _)]; exact f D 13 (by unfold Pf Pk; first | decide | omega)
  have hu : ∀ c : Nat, 5 ≤ c → c ≤ 20 → kd v' c = kd v c := fun c a b => funext fun i => g c _ (by unfold Qf Qk; first | decide | omega)
  refine ⟨⟨⟨h1.1, by rw [f 46 10 (by unfold Pf Pk; first | decide | omega)]; exact h1.2⟩, h2.flds hw hS (fun i p q => by rw [e0, e0]; exact hc i p q), h3.flds hw e13 hu (fun i p q => ?_) ?_ ?_, ⟨by rw [h7.1]; exact h7.2.2, by rw [h7.1, h7.2.1], fun q => ?_⟩, ?_, ?_⟩, f D 12 (by unfold Pf Pk; first | decide | omega)⟩
  · show v' 0 (i + 6) = v 0 (i + 6)
    exact g 0 _ (by unfold Qf Qk; first | decide | omega)
  · rw [e0, e0]; exact n1
  · rw [e0, e0, e0, e0, e0, e0, e0]; exact n2
  · rw [h7.1] at q
    rw [hw 1 (by first | decide | omega), e0, e0]; exact hz q
  · unfold ONC
    rw [f 46 6 (by unfold Pf Pk; first | decide | omega), g.rw1 (b := 3) (fun i => by unfold Qf Qk; first | decide | omega)]; exact h5
  · exact ⟨by rw [g 0 49 (by unfold Qf Qk; first | decide | omega), e13]; exact h6.1, h6.2.f g (by intro b i q; unfold Qf Qk; first | decide | omega)⟩
/-- what the draft's numbers are -/
theorem DI.n (hD : DI m v D) : (v 0 18 = m D 0 ∧ v 0 19 = m D 1) ∧ (v 4 7 = m D 2 ∧ v 4 8 = m D 3 ∧ v 4 9 = m D 6 ∧ v 4 10 = m D 7 ∧ v 4 11 = m D 8 ∧ v 4 12 = m D 9 ∧ v 4 13 = m D 10) ∧ (v 0 20 = m (D + 1) 0 ∧ v 0 21 = m (D + 8) 0 ∧ v 0 22 = m (D + 8) 1 ∧ v 0 23 = m D 13) := by
  obtain ⟨h1, h2, ⟨⟨a1, a2, a3, a4, a5, a6⟩, ⟨b1, b2, b3, b4, b5, b6, b7⟩, _⟩, _⟩ := hD
  have e0 : ∀ i, sl 21 m D 0 i = m D i := fun i => sl_e (Nat.zero_le _) i
  rw [e0] at a1 a2 a6 b1 b2 b3 b4 b5 b6 b7
  rw [sl_e (by first | decide | omega)] at a3 a4 a5
  exact ⟨⟨a1, a2⟩, ⟨b1, b2, b3, b4, b5, b6, b7⟩, a3, a4, a5, a6⟩
theorem DI.ws (hD : DI m v D) : WS (sl 21 m D) ∧ ((1 ≤ m D 0 ∧ m D 0 ≤ 8) ∧ (1 ≤ m D 1 ∧ m D 1 ≤ 6)) := by
  have h := hD.2.1.1
  refine ⟨h, ?_⟩
  unfold WS at h
  have e0 : ∀ i, sl 21 m D 0 i = m D i := fun i => sl_e (Nat.zero_le _) i
  rw [e0, e0, e0, e0] at h
  omega
end Q25
/-! The lines sea, peak, bank, rule, seed on both sides. -/
section Q26
variable {m v : Mem} {S : Int} {D : Nat}
end Q26
