section Q15
variable {m v m' v' w n n' : Mem} {T : Nat}
theorem a_stroke (h : Rel m v) (x y : Int) : Agr (G11_stroke m x y) (G12_stroke v x y) := by
  have h1 := h.v0
  unfold G11_stroke G11_stroke_0 G12_stroke G12_stroke_0
  rw [wt_e]
  generalize up v 0 2 0 = u at h1 ⊢
  obtain ⟨T, w, g, n, t1, t2, hc, hn, hW, hG, hE, hS, hR, hV, hL, ew, eg, en⟩ := h1.use
  have hw := hW.1
  unfold WS at hw
  rw [c_isS t2 hc.1, r_isS hR, bs1, bs1]
  by_cases c1 : 0 ≤ x ∧ x < w 1 0
  · simp only [if_pos c1, if_neg i10]
    rw [r_isIn, bs1]
    by_cases c2 : 0 ≤ y ∧ y ≤ 3
    · simp only [if_pos c2, if_neg i10]
      rw [if_neg (by first | decide | omega), if_pos (show y < 4 by first | decide | omega)]
      have hcell := (hS.1.2 x c1.1 c1.2).1
      have e70 : m (69 + 1) x = n 1 x := hn.2.2 1 x (by first | decide | omega)
      have e73 : m (69 + 4) x = n 4 x := hn.2.2 4 x (by first | decide | omega)
      have e74 : m (69 + 5) x = n 5 x := hn.2.2 5 x (by first | decide | omega)
      have e69 : m 69 0 = n 0 0 := hn.2.1 0
      have eT5 : m (T + 5) x = w 5 x := hc.1.2.2 5 x (by first | decide | omega)
      have k25 : u 25 x = n 1 x := by have := (hV.1.1 x c1.1 c1.2).1; rwa [show 5 * (0 : Int) + x = x by first | decide | omega] at this
      have k28 := hV.2.2.2.1 x c1.1 c1.2
      have hb := hS.2.2.1 x c1.1 c1.2
      have hpace := (hW.2.1 x c1.1 c1.2).2.2.1
      have hbs := bsd_b hW (c := n 1 x) (way := y) hcell (by first | decide | omega)
      rw [gdx_t (show 0 ≤ x ∧ x < 5 by first | decide | omega), gdx_t (show 0 ≤ x ∧ x < 10 by first | decide | omega), t2, Int.toNat_natCast, e70, g_bsd hc.1 (by first | decide | omega) (by first | decide | omega) hcell, k25, r_bsd hR hW hcell, bs1, bs1]
      simp only
      by_cases c3 : bsd w (n 1 x) y = -1
      · rw [if_pos c3, if_pos (by first | decide | omega)]; exact agr0 h1 _ rfl rfl
      · rw [if_neg c3, if_neg (by first | decide | omega), gdx_t (show 0 ≤ x ∧ x < 10 by first | decide | omega), k28.1, gdx_t (show 0 ≤ x ∧ x < 5 by first | decide | omega), k28.2]
        unfold G4_isIn G4_isIn_0
        rw [gdx_t (show 0 ≤ x ∧ x < 5 by first | decide | omega), e69, e73]
        by_cases c4 : n 0 0 < n 4 x
        · rw [if_pos c4, if_pos (show 0 < n 4 x by have := hS.2.1; first | decide | omega), bs1]
          simp only [if_true]
          exact agr0 h1 _ rfl rfl
        · rw [if_neg c4, if_neg (show ¬ 0 < n 4 x by first | decide | omega), bs1]
          simp only [if_neg i10]
          rw [gdx_t (show 0 ≤ x ∧ x < 5 by first | decide | omega), gdx_t (show 0 ≤ x ∧ x < 5 by first | decide | omega), t2, Int.toNat_natCast, e74, eT5]
          by_cases c5 : n 5 x < w 5 x
          · rw [if_pos c5, if_neg (show ¬ w 5 x - n 5 x = 0 by first | decide | omega), gdx_t (show 0 ≤ x ∧ x < 5 by first | decide | omega), wt_e]
            have e74' : up m (69 + 1) x (bsd w (n 1 x) y) (69 + 5) x = n 5 x := by rw [up_a (by first | decide | omega)]; exact e74
            rw [e74', gdx_t (show 0 ≤ x ∧ x < 5 by first | decide | omega), gdx_t (show 0 ≤ x ∧ x < 5 by first | decide | omega), gd3_t (by first | decide | omega), wt_e]
            have hA : RA m u T ∧ RU m u w n := by
              obtain ⟨T', hA, _, _, _, _, hU, _⟩ := h1.all
              have : T' = T := by have := hA.1.2.1; omega
              subst this
              rw [ew, en]; exact ⟨hA, hU⟩
            have e96 : up (up m (69 + 1) x (bsd w (n 1 x) y)) (69 + 5) x (n 5 x + 1) 96 = m 96 := by rw [up_b (by first | decide | omega), up_b (by first | decide | omega)]
            have e97 : up (up m (69 + 1) x (bsd w (n 1 x) y)) (69 + 5) x (n 5 x + 1) 97 = m 97 := by rw [up_b (by first | decide | omega), up_b (by first | decide | omega)]
            have e98 : up (up m (69 + 1) x (bsd w (n 1 x) y)) (69 + 5) x (n 5 x + 1) 98 = m 98 := by rw [up_b (by first | decide | omega), up_b (by first | decide | omega)]
            obtain ⟨m1, e2, f2, k2⟩ := c_add (m := up (up m (69 + 1) x (bsd w (n 1 x) y)) (69 + 5) x (n 5 x + 1)) (s := x) (y := n 1 x) (by rw [e96]; exact hA.2.2.1)
            obtain ⟨u1, e3, f3, k3⟩ := r_rem (v := u) (by have := hA.2.1; have := hA.2.2.1; first | decide | omega)
            have k29' : up u1 25 x (bsd w (n 1 x) y) 29 x = w 5 x - n 5 x := by rw [up_a (by first | decide | omega), f3 29 x (by unfold Qu; first | decide | omega)]; exact k28.2
            rw [e2, bs1, e3, bs1, gdx_t (show 0 ≤ x ∧ x < 10 by first | decide | omega), wt_e, gdx_t (show 0 ≤ x ∧ x < 5 by first | decide | omega), gdx_t (show 0 ≤ x ∧ x < 5 by first | decide | omega), k29', gd3_t (by first | decide | omega), wt_e]
            have fm : Fm Ps m m1 := ((Fm.w1 (by unfold Ps; first | decide | omega)).w (by unfold Ps; first | decide | omega)).tr (f2.mono Pu_s)
            have fv : Fm Qs u (up (up u1 25 x (bsd w (n 1 x) y)) 29 x (w 5 x - n 5 x - 1)) := ((f3.mono Qu_s).w (by unfold Qs; first | decide | omega)).w (by unfold Qs; first | decide | omega)
            refine ⟨_, _, _, rfl, rfl, h1.step fm fv (fun T' hA' hS' hV' hU' => ?_)⟩
            have eT : T' = T := by have := hA'.1.2.1; omega
            subst eT
            rw [← ew] at hS' hV' hU' ⊢
            rw [← en] at hS' hV' hU'
            have e6 : sl 6 m1 69 = up (up n 1 x (bsd w (n 1 x) y)) 5 x (n 5 x + 1) := by
              have : sl 6 m1 69 = sl 6 (up (up m (69 + 1) x (bsd w (n 1 x) y)) (69 + 5) x (n 5 x + 1)) 69 := sl_c (fun b p q => f2.rw1 (fun i => by unfold Pu; first | decide | omega))
              rw [this, sl_up (by first | decide | omega), sl_up (by first | decide | omega), ← en]
            rw [e6]
            refine ⟨(hS'.cell (by first | decide | omega)).str (by first | decide | omega), ?_, ?_⟩
            · have hv1 := ((hV'.f f3 (by first | decide | omega) (by intro b i q; unfold Qu; first | decide | omega)).cell (s := x) (c := bsd w (n 1 x) y)).str (s := x) (y := n 5 x + 1)
              rw [show w 5 x - (n 5 x + 1) = w 5 x - n 5 x - 1 by first | decide | omega] at hv1
              exact hv1
            · have hU2 : RU m1 u1 w (up (up n 1 x (bsd w (n 1 x) y)) 5 x (n 5 x + 1)) := u_add hU' (by first | decide | omega) hS' hV' (by rw [e96]) e97 e98 k2 k3 (Or.inr ⟨c1, by rw [up_a (by first | decide | omega), up_a (by first | decide | omega)], fun s p q => by
                by_cases z : s = x
                · rw [z, if_pos rfl, if_pos rfl, up_e]; exact ⟨rfl, by first | decide | omega⟩
                · rw [if_neg z, if_neg z, up_a (show (1 : Nat) ≠ 5 by first | decide | omega), up_i z, up_i z, up_a (show (5 : Nat) ≠ 1 by first | decide | omega)]; exact ⟨rfl, rfl⟩⟩)
              exact hU2.f (P := fun _ _ => False) (Q := fun b i => b = 25 ∨ b = 29) Fm.rf ((Fm.w1 (Or.inl rfl)).w (Or.inr rfl)) (fun b i q => id) (by intro b i q; first | decide | omega)
          · rw [if_neg c5, if_pos (show w 5 x - n 5 x = 0 by first | decide | omega)]; exact agr0 h1 _ rfl rfl
    · simp only [if_neg c2, if_true]
      split
      · exact agr0 h1 _ rfl rfl
      · rw [if_neg (by first | decide | omega)]; exact agr0 h1 _ rfl rfl
  · simp only [if_neg c1, if_true]; exact agr0 h1 _ rfl rfl
end Q15
/-! undo, keep, back, minutes. -/
section Q16
variable {m v m' v' w g n n' : Mem} {T : Nat}
theorem SV.set (h : SV w n v) (f : Fm Qs v v') (hw : w 1 0 ≤ 5 ∧ w 8 1 ≤ 28) (h1 : ∀ s, 0 ≤ s → s < w 1 0 → v' 25 s = n' 1 s ∧ v' 29 s = w 5 s - n' 5 s) (h2 : v' 0 64 = n' 0 1) (h3 : ∀ i, i ≠ 1 → n' 0 i = n 0 i) (h4 : n' 2 = n 2 ∧ n' 3 = n 3 ∧ n' 4 = n 4 ∧ n' 6 = n 6) : SV w n' v' := by
  obtain ⟨⟨a1, a2, a3, a4, a5⟩, a6, a7, a8, a9⟩ := h
  unfold SV NM
  rw [h4.1, h4.2.1, h4.2.2.1, h4.2.2.2, h3 0 (by first | decide | omega), h3 2 (by first | decide | omega), h3 3 (by first | decide | omega), h3 4 (by first | decide | omega), f.rw1 (b := 26) (fun i => by unfold Qs; first | decide | omega), f.rw1 (b := 27) (fun i => by unfold Qs; first | decide | omega), f.rw1 (b := 28) (fun i => by unfold Qs; first | decide | omega), f.rw1 (b := 30) (fun i => by unfold Qs; first | decide | omega), f.rw1 (b := 31) (fun i => by unfold Qs; first | decide | omega), f.rw1 (b := 32) (fun i => by unfold Qs; first | decide | omega), f.rw1 (b := 33) (fun i => by unfold Qs; first | decide | omega), f 0 65 (by unfold Qs; first | decide | omega), f 0 66 (by unfold Qs; first | decide | omega)]
  refine ⟨⟨fun i p q => ⟨?_, (a1 i p q).2⟩, a2, a3, a4, a5⟩, a6, h2, fun i p q => ⟨(a8 i p q).1, (h1 i p q).2⟩, a9⟩
  rw [show 5 * (0 : Int) + i = i by first | decide | omega]
  exact (h1 i p q).1
theorem r_un26 {c : Int} (hc : 0 ≤ c ∧ c < 20) : ∀ (d k : Nat) (i : Int) (v : Mem), 0 ≤ i → 5 - i = d → d < k → v 0 78 = c → (∀ s, 0 ≤ s → s < i → v 25 s = v 41 (11 * c + s) ∧ v 29 s = v 41 (11 * c + 5 + s)) → ∃ v', G12_undo_26 k v i = some (c, v') ∧ Fm (fun b i => b = 25 ∨ b = 29 ∨ (b = 0 ∧ i = 64)) v v' ∧ (∀ s, 0 ≤ s → s < 5 → v' 25 s = v 41 (11 * c + s) ∧ v' 29 s = v 41 (11 * c + 5 + s)) ∧ v' 0 64 = v 41 (11 * c + 10) := by
  intro d
  induction d with
  | zero =>
    intro k i v a1 a2 a3 h78 h
    obtain ⟨k, rfl⟩ : ∃ j, k = j + 1 := ⟨k - 1, by first | decide | omega⟩
    have e : ∀ y, up v 0 64 y 0 78 = c := fun y => by rw [up_i (by first | decide | omega)]; exact h78
    rw [G12_undo_26, if_pos (by first | decide | omega), h78, gdx_t (by first | decide | omega), wt_e, e]
    refine ⟨_, rfl, Fm.w1 (Or.inr (Or.inr ⟨rfl, rfl⟩)), fun s p q => ?_, up_e⟩
    rw [up_a (by first | decide | omega), up_a (by first | decide | omega)]
    exact h s p (by first | decide | omega)
  | succ d ih =>
    intro k i v a1 a2 a3 h78 h
    obtain ⟨k, rfl⟩ : ∃ j, k = j + 1 := ⟨k - 1, by first | decide | omega⟩
    have e1 : ∀ y, up v 25 i y 0 78 = c := fun y => by rw [up_a (by first | decide | omega)]; exact h78
    rw [G12_undo_26, if_neg (by first | decide | omega), h78, gdx_t (by first | decide | omega), gdx_t (by first | decide | omega), wt_e, e1, gdx_t (by first | decide | omega), gdx_t (by first | decide | omega), wt_e, gd3_t (by first | decide | omega), up_a (show (41 : Nat) ≠ 25 by first | decide | omega)]
    have f1 : Fm (fun b i => b = 25 ∨ b = 29 ∨ (b = 0 ∧ i = 64)) v (up (up v 25 i (v 41 (11 * c + i))) 29 i (v 41 (11 * c + 5 + i))) := (Fm.w1 (Or.inl rfl)).w (Or.inr (Or.inl rfl))
    have e41 : up (up v 25 i (v 41 (11 * c + i))) 29 i (v 41 (11 * c + 5 + i)) 41 = v 41 := by rw [up_b (by first | decide | omega), up_b (by first | decide | omega)]
    obtain ⟨v', z1, z2, z3, z4⟩ := ih k (i + 1) (up (up v 25 i (v 41 (11 * c + i))) 29 i (v 41 (11 * c + 5 + i))) (by first | decide | omega) (by first | decide | omega) (by first | decide | omega) (by rw [up_a (by first | decide | omega)]; exact e1 _) (fun s p q => by
      rw [e41]
      by_cases z : s = i
      · rw [z, up_a (by first | decide | omega), up_e, up_e]; exact ⟨rfl, rfl⟩
      · rw [up_a (show (25 : Nat) ≠ 29 by first | decide | omega), up_i z, up_i z, up_a (show (29 : Nat) ≠ 25 by first | decide | omega)]; exact h s p (by first | decide | omega))
    rw [e41] at z3 z4
    exact ⟨v', z1, f1.tr z2, z3, z4⟩
theorem a_undo (h : Rel m v) : Agr (G11_undo m) (G12_undo v) := by
  have h1 := h.v0
  unfold G11_undo G11_undo_0 G12_undo G12_undo_0 G11_undo_97
  simp only [wt_e]
  generalize up v 0 2 0 = u at h1 ⊢
  obtain ⟨T, hA, hS, hV, _, _, hU, _⟩ := h1.all
  obtain ⟨u1, u2, CE, ST, RR, g1, g2, g3⟩ := hU
  rw [← u1]
  by_cases c : 1 ≤ m 96 0
  · rw [if_pos c, if_neg (show ¬ m 96 0 = 0 by first | decide | omega), gd3_t (show -2147483648 ≤ m 96 0 - 1 ∧ m 96 0 - 1 ≤ 2147483647 by first | decide | omega), gd3_t (show -2147483648 ≤ m 96 0 - 1 ∧ m 96 0 - 1 ≤ 2147483647 by first | decide | omega)]
    obtain ⟨k1, k2, k3, k4⟩ := g3 (m 96 0 - 1) (by first | decide | omega) (by first | decide | omega)
    rw [show m 96 0 - 1 + 1 = m 96 0 by first | decide | omega] at k4
    have b97 : ∀ y i, up m 96 0 y 97 i = m 97 i := fun y i => up_a (by first | decide | omega)
    have b98 : ∀ y i, up m 96 0 y 98 i = m 98 i := fun y i => up_a (by first | decide | omega)
    have hw := hA.2.1.1
    unfold WS at hw
    obtain ⟨v', e2, f2, p1, p2⟩ := r_un26 (c := m 96 0 - 1) (by first | decide | omega) 5 1024 0 (up u 0 78 (m 96 0 - 1)) (by first | decide | omega) (by first | decide | omega) (by first | decide | omega) up_e (fun s p q => by first | decide | omega)
    have e41 : up u 0 78 (m 96 0 - 1) 41 = u 41 := up_b (by first | decide | omega)
    rw [e41] at p1 p2
    rw [e2, up_e, b97, b98, gdx_t (show 0 ≤ m 96 0 - 1 ∧ m 96 0 - 1 < 20 by first | decide | omega), gdx_t (show 0 ≤ m 96 0 - 1 ∧ m 96 0 - 1 < 20 by first | decide | omega)]
    have fv : Fm Qs u v' := (Fm.w1 (by unfold Qs; first | decide | omega)).tr (f2.mono (by intro b i q; unfold Qs; first | decide | omega))
    have v41 : v' 41 = u 41 := by rw [f2.rw1 (fun i => by first | decide | omega)]; exact e41
    have v78 : v' 0 78 = m 96 0 - 1 := by rw [f2 0 78 (by first | decide | omega)]; exact up_e
    -- the undo's own part, for any next memory
    have fin : ∀ m', Fm Ps m m' → m' 96 0 = m 96 0 - 1 → m' 97 = m 97 → m' 98 = m 98 → SN (sl 21 m T) (sl 6 m' 69) → (∀ s, 0 ≤ s → s < sl 21 m T 1 0 → CE (m 96 0 - 1) s = sl 6 m' 69 1 s ∧ ST (m 96 0 - 1) s = sl 6 m' 69 5 s) → RR (m 96 0 - 1) = sl 6 m' 69 0 1 → (∀ i, i ≠ 1 → sl 6 m' 69 0 i = sl 6 m 69 0 i) → (sl 6 m' 69 2 = sl 6 m 69 2 ∧ sl 6 m' 69 3 = sl 6 m 69 3 ∧ sl 6 m' 69 4 = sl 6 m 69 4 ∧ sl 6 m' 69 6 = sl 6 m 69 6) → Agr (some (m 96 0 - 1, m')) (some (m 96 0 - 1, v')) := by
      intro m' fm q96 q97 q98 qS q1 q2 q3 q4
      refine ⟨_, _, _, rfl, rfl, h1.step fm fv (fun T' hA' hS' hV' hU' => ?_)⟩
      have eT : T' = T := by have := hA'.1.2.1; have := hA.1.2.1; omega
      subst eT
      refine ⟨qS, hV'.set fv (by first | decide | omega) (fun s p q => ?_) ?_ q3 q4, ?_⟩
      · have := p1 s p (by first | decide | omega)
        rw [this.1, this.2, (k1 s p q).1, (k1 s p q).2.1, (q1 s p q).1, (q1 s p q).2]; exact ⟨rfl, rfl⟩
      · rw [p2, k2]; exact q2
      · refine ⟨by first | decide | omega, by first | decide | omega, CE, ST, RR, ?_, ?_, fun j p q => ?_⟩
        · rw [q96]; exact q1
        · rw [q96]; exact q2
        · rw [q97, q98, v41]; exact g3 j p (by first | decide | omega)
    have e6 : sl 6 (up m 96 0 (m 96 0 - 1)) 69 = sl 6 m 69 := sl_out (by first | decide | omega)
    by_cases c2 : m 97 (m 96 0 - 1) = -1
    · rw [if_pos c2]
      rcases k4 with ⟨y1, y2, y3⟩ | ⟨y1, y2, y3⟩
      · have e7 : sl 6 (up (up m 96 0 (m 96 0 - 1)) 69 1 (m 98 (m 96 0 - 1))) 69 = up (sl 6 m 69) 0 1 (m 98 (m 96 0 - 1)) := by rw [sl_up0, e6]
        have ea : up (up m 96 0 (m 96 0 - 1)) 69 1 (m 98 (m 96 0 - 1)) 96 0 = m 96 0 - 1 := by rw [up_a (by first | decide | omega), up_e]
        rw [ea]
        refine fin _ ((Fm.w1 (by unfold Ps; first | decide | omega)).w (by unfold Ps; first | decide | omega)) ea (by rw [up_b (by first | decide | omega), up_b (by first | decide | omega)]) (by rw [up_b (by first | decide | omega), up_b (by first | decide | omega)]) ?_ ?_ ?_ ?_ ?_
        · rw [e7]; exact hS.rul (by first | decide | omega)
        · rw [e7]; intro s p q
          rw [up_a (by first | decide | omega), up_a (by first | decide | omega), (y3 s p q).1, (y3 s p q).2]; exact g1 s p q
        · rw [e7, up_e]; exact y2
        · rw [e7]; intro i hi; exact up_i hi
        · rw [e7]; exact ⟨up_b (by first | decide | omega), up_b (by first | decide | omega), up_b (by first | decide | omega), up_b (by first | decide | omega)⟩
      · unfold isS at y1; omega
    · rw [if_neg c2]
      rcases k4 with ⟨y1, y2, y3⟩ | ⟨y1, y2, y3⟩
      · exact absurd y1 c2
      · unfold isS at y1
        have e74 : up (up m 96 0 (m 96 0 - 1)) (69 + 1) (m 97 (m 96 0 - 1)) (m 98 (m 96 0 - 1)) (69 + 5) (m 97 (m 96 0 - 1)) = sl 6 m 69 5 (m 97 (m 96 0 - 1)) := by rw [up_a (by first | decide | omega), up_a (by first | decide | omega), sl_e (by first | decide | omega)]
        have kx := k1 _ y1.1 y1.2
        have gx := g1 _ y1.1 y1.2
        have yx := y3 _ y1.1 y1.2
        rw [if_pos rfl, if_pos rfl] at yx
        have hpc := (hA.2.1.2.1 _ y1.1 y1.2).2.2.1
        have ea : up (up (up m 96 0 (m 96 0 - 1)) (69 + 1) (m 97 (m 96 0 - 1)) (m 98 (m 96 0 - 1))) (69 + 5) (m 97 (m 96 0 - 1)) (sl 6 m 69 5 (m 97 (m 96 0 - 1)) - 1) 96 0 = m 96 0 - 1 := by rw [up_a (by first | decide | omega), up_a (by first | decide | omega), up_e]
        rw [gdx_t (by first | decide | omega), gdx_t (by first | decide | omega), gdx_t (by first | decide | omega), e74, gd3_t (by first | decide | omega), ea]
        have e7 : sl 6 (up (up (up m 96 0 (m 96 0 - 1)) (69 + 1) (m 97 (m 96 0 - 1)) (m 98 (m 96 0 - 1))) (69 + 5) (m 97 (m 96 0 - 1)) (sl 6 m 69 5 (m 97 (m 96 0 - 1)) - 1)) 69 = up (up (sl 6 m 69) 1 (m 97 (m 96 0 - 1)) (m 98 (m 96 0 - 1))) 5 (m 97 (m 96 0 - 1)) (sl 6 m 69 5 (m 97 (m 96 0 - 1)) - 1) := by rw [sl_up (by first | decide | omega), sl_up (by first | decide | omega), e6]
        refine fin _ (((Fm.w1 (by unfold Ps; first | decide | omega)).w (by unfold Ps; first | decide | omega)).w (by unfold Ps; first | decide | omega)) ea (by rw [up_b (by first | decide | omega), up_b (by first | decide | omega), up_b (by first | decide | omega)]) (by rw [up_b (by first | decide | omega), up_b (by first | decide | omega), up_b (by first | decide | omega)]) ?_ ?_ ?_ ?_ ?_
        · rw [e7]
          unfold isC at kx
          refine (hS.cell ?_).str ?_
          · rw [← yx.1]; exact kx.2.2.1
          · rw [← gx.2, ← yx.2]; exact kx.2.2.2
        · rw [e7]; intro s p q
          by_cases z : s = m 97 (m 96 0 - 1)
          · rw [z, up_e, up_a (by first | decide | omega), up_e, yx.1, yx.2, gx.2]; exact ⟨rfl, rfl⟩
          · have ys := y3 s p q
            rw [if_neg z, if_neg z] at ys
            rw [up_i z, up_a (show (1 : Nat) ≠ 5 by first | decide | omega), up_i z, up_a (show (5 : Nat) ≠ 1 by first | decide | omega), ys.1, ys.2]; exact g1 s p q
        · rw [e7, up_a (by first | decide | omega), up_a (by first | decide | omega), y2]; exact g2
        · rw [e7]; intro i hi; rw [up_a (by first | decide | omega), up_a (by first | decide | omega)]
        · rw [e7]
          refine ⟨?_, ?_, ?_, ?_⟩ <;> rw [up_b (by first | decide | omega), up_b (by first | decide | omega)]
  · rw [if_neg c, if_pos (by first | decide | omega)]; exact agr0 h1 _ rfl rfl
/-- one minute as another, where it matters -/
def NE (n n' : Mem) : Prop := (∀ i, 0 ≤ i → i < 5 → n' 0 i = n 0 i) ∧ (∀ c i, 1 ≤ c → c ≤ 5 → 0 ≤ i → i < 5 → n' c i = n c i) ∧ ∀ i, 0 ≤ i → i < 28 → n' 6 i = n 6 i
theorem SN.ne (h : SN w n) (e : NE n n') (hw : w 1 0 ≤ 5 ∧ w 8 1 ≤ 28) : SN w n' := by
  obtain ⟨⟨h1, h2⟩, h3, h4, h5⟩ := h
  obtain ⟨e0, e1, e2⟩ := e
  unfold SN NB
  rw [e0 0 (by first | decide | omega) (by first | decide | omega), e0 1 (by first | decide | omega) (by first | decide | omega), e0 2 (by first | decide | omega) (by first | decide | omega), e0 3 (by first | decide | omega) (by first | decide | omega), e0 4 (by first | decide | omega) (by first | decide | omega)]
  refine ⟨⟨h1, fun i p q => ?_⟩, h3, fun i p q => ?_, fun k p q => ?_⟩
  · rw [e1 1 i (by first | decide | omega) (by first | decide | omega) p (by first | decide | omega), e1 2 i (by first | decide | omega) (by first | decide | omega) p (by first | decide | omega), e1 3 i (by first | decide | omega) (by first | decide | omega) p (by first | decide | omega), e1 4 i (by first | decide | omega) (by first | decide | omega) p (by first | decide | omega)]; exact h2 i p q
  · rw [e1 4 i (by first | decide | omega) (by first | decide | omega) p (by first | decide | omega), e1 5 i (by first | decide | omega) (by first | decide | omega) p (by first | decide | omega)]; exact h4 i p q
  · rw [e2 k p (by first | decide | omega)]; exact h5 k p q
end Q16
