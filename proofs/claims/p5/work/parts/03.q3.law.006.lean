section Q35
variable {m v : Mem} {S : Int} {D : Nat}
theorem s_part {a : Nat} {F : Int} {ws : List Int} {L : Nat} (ha : aOk D a) (hF : 0 ≤ F) (h : PostR m v S) (hL : LI m v D a F ws L) (hw : v 0 50 = 1) : SOut (G5_takePart m a) (G12_leafRead v) m v D a F S := by
  have hk := h.2.2.2.2.2.2.2
  by_cases c1 : m 47 4 = 36
  · exact s_open ha hF h hL c1
  · have d1 : ¬ (v 0 8 = 4 ∧ v 0 9 = 40) := by
      unfold KR SGN NumR at hk
      omega
    by_cases c2 : m 47 4 = 15
    · have ek : v 0 8 = 1 ∧ v 0 9 = 17 := by
        rw [c2] at hk
        have ek : kwf 15 = 17 := by decide
        unfold KR SGN NumR at hk
        rw [ek] at hk
        omega
      by_cases c3 : m 46 5 = 0
      · have e51 : v 0 51 = 0 := by rw [← hL.2.2.2.2.2.2.1.1]; exact c3
        unfold G5_takePart G5_takePart_0 G12_leafRead G12_leafRead_0
        rw [if_neg c1, if_pos c2, if_pos c3, r_sign, if_neg d1, bs1]
        simp only [if_true]
        rw [r_key, if_pos ek, bs1]
        simp only [if_neg i10]
        rw [if_pos e51]
        exact s_leaf ha hF h hL hw
      · exact s_not ha hF h hL c2 c3
    · have d2 : ¬ (v 0 8 = 1 ∧ v 0 9 = 17) := by
        have hkb : 0 ≤ m 47 4 ∧ m 47 4 < 24 → 0 ≤ kwf (m 47 4) ∧ kwf (m 47 4) < 24 ∧ (15 ≤ m 47 4 ∧ m 47 4 ≤ 17 → 15 ≤ kwf (m 47 4) ∧ kwf (m 47 4) ≤ 17) := kwf_b
        have hlo : (m 47 4 < 15 ∨ 17 < m 47 4) → kwf (m 47 4) = m 47 4 := kwf_lo
        have k16 : m 47 4 = 16 → kwf (m 47 4) = 15 := fun q => by rw [q]; decide
        have k17 : m 47 4 = 17 → kwf (m 47 4) = 16 := fun q => by rw [q]; decide
        unfold KR SGN NumR at hk
        omega
      unfold G5_takePart G5_takePart_0 G12_leafRead G12_leafRead_0
      rw [if_neg c1, if_neg c2, r_sign, if_neg d1, bs1]
      simp only [if_true]
      rw [r_key, if_neg d2, bs1]
      simp only [if_true]
      exact s_leaf ha hF h hL hw
end Q35
/-! One joint of a law on both sides. -/
section Q36
variable {m v : Mem} {S : Int} {D : Nat}
def jOk (x : Int) : Prop := x = 16 ∨ x = 17 ∨ (26 ≤ x ∧ x ≤ 35)
theorem jOk_w {x : Int} (h : jOk x) : wOk x ∧ ¬ x = 36 ∧ ¬ x = 15 := by unfold jOk at h; unfold wOk; omega
/-- released and bound, the law's state behind it -/
theorem LI.rel {a : Nat} {F x2 : Int} {ws : List Int} {L : Nat} (ha : aOk D a) (hF : 0 ≤ F) (hx : 1 ≤ x2) (h : PostR m v S) (hL : LI m v D a F ws L) (hw : v 0 50 = 0) : ∃ m' v' ws' L', G5_release m a x2 = some m' ∧ G12_bind v x2 = some v' ∧ Fm (PRl a) m m' ∧ Fm (QRl F) v v' ∧ LI m' v' D a F ws' L' ∧ PostR m' v' S ∧ cBR ws' = cBR ws ∧ (ws' = [] ∨ ∃ x r, ws' = x :: r ∧ wSt x < x2) := by
  obtain ⟨h1, h2, h3, h4, h5, h6, h7, h8⟩ := hL
  have cl := c_len ws
  have ha' := ha
  unfold aOk at ha'
  obtain ⟨m', v', ws', L', y1, y2, y3, y4, y5, y6, y7, y8, y9, y10, y11, y12⟩ := l_rel hx hF (a := a) (by first | decide | omega) ws 1024 L m v (by first | decide | omega) h2 h3 (by first | decide | omega) (by first | decide | omega) (by first | decide | omega)
  refine ⟨m', v', ws', L', y1, y2, y3, y4, ⟨by rw [y3 46 10 (by unfold PRl; first | decide | omega)]; exact h1, y5, y6, ?_, ?_, ?_, ?_, ?_⟩, h.f y3 y4 (by intro b i q; unfold PRl; first | decide | omega) (by intro b i q; unfold QRl; first | decide | omega), y9, y10⟩
  · rw [y3 46 3 (by unfold PRl; first | decide | omega), y4 0 48 (by unfold QRl; first | decide | omega), y9]; exact h4
  · rw [y3 D 13 (by unfold PRl; first | decide | omega), y4 0 49 (by unfold QRl; first | decide | omega)]; omega
  · rw [y3 46 4 (by unfold PRl; first | decide | omega), y4 0 50 (by unfold QRl; first | decide | omega)]; exact h6
  · rw [y3 46 5 (by unfold PRl; first | decide | omega), y4 0 51 (by unfold QRl; first | decide | omega)]; exact h7
  · rw [y4 0 50 (by unfold QRl; first | decide | omega), y8]; omega
/-- the joint is counted and waits -/
theorem s_92 {a : Nat} {F tok : Int} {ws : List Int} {L : Nat} (ha : aOk D a) (hF : 0 ≤ F) (h : PostR m v S) (hL : LI m v D a F ws L) (hw : v 0 50 = 0) (hj : jOk tok) (ht : m 47 4 ≠ 39) : SOut (G5_takeJoint_92 m tok) (G12_signs_217 v (wCm tok)) m v D a F S := by
  obtain ⟨h1, h2, h3, h4, h5, h6, h7, h8⟩ := hL
  have cl := c_len ws
  have ha' := ha
  unfold aOk at ha'
  obtain ⟨w1, w2, w3⟩ := jOk_w hj
  obtain ⟨s, hs, e92, e250⟩ : ∃ s : Int, (s = 0 ∨ s = 1) ∧ (∀ u : Mem, G5_takeJoint_92 u tok = G5_takeJoint_115 (up u 46 4 1) tok s) ∧ ∀ u : Mem, (if 3 ≤ wSt tok then G12_signs_250 u 0 else G12_signs_250 u 1) = G12_signs_250 u s := by
    have : tok = 16 ∨ tok = 17 ∨ tok = 26 ∨ tok = 27 ∨ tok = 28 ∨ tok = 29 ∨ tok = 30 ∨ tok = 31 ∨ tok = 32 ∨ tok = 33 ∨ tok = 34 ∨ tok = 35 := by unfold jOk at hj; omega
    by_cases c : tok = 16 ∨ tok = 17
    · refine ⟨1, Or.inr rfl, fun u => ?_, fun u => ?_⟩
      · unfold G5_takeJoint_92 G5_takeJoint_110
        rw [wt_e]
        by_cases c16 : tok = 16
        · rw [if_pos c16]
        · rw [if_neg c16, if_pos (by first | decide | omega)]
      · rw [if_neg]
        rcases c with e | e <;> subst e <;> decide
    · refine ⟨0, Or.inl rfl, fun u => ?_, fun u => ?_⟩
      · unfold G5_takeJoint_92
        rw [wt_e, if_neg (by first | decide | omega), if_neg (by first | decide | omega)]
      · rw [if_pos]
        rcases this with e | e | e | e | e | e | e | e | e | e | e | e <;> subst e <;> first | (exact absurd (Or.inl rfl) c) | (exact absurd (Or.inr rfl) c) | decide
  rw [e92]
  unfold G5_takeJoint_115 G12_signs_217
  rw [gdb_t (by first | decide | omega), wt_e]
  have f0 : Fm (fun b i => b = 46 ∧ (i = 4 ∨ i = 5)) m (up (up m 46 4 1) 46 5 s) := (Fm.w1 (by first | decide | omega)).w (by first | decide | omega)
  have k4 : up (up m 46 4 1) 46 5 s 46 4 = 1 := by rw [up_i (by first | decide | omega), up_e]
  have k5 : up (up m 46 4 1) 46 5 s 46 5 = s := up_e
  generalize up (up m 46 4 1) 46 5 s = m0 at f0 k4 k5 ⊢
  have p0 : PostR m0 v S := h.f (Q := fun _ _ => False) f0 Fm.rf (by intro b i q; first | decide | omega) (fun b i _ => id)
  have f0' : Fm (PLw D a) m m0 := f0.mono (by intro b i q; unfold PLw; first | decide | omega)
  have e13 : m0 D 13 = m D 13 := f0 D 13 (by first | decide | omega)
  have wi0 : WI m0 v ws := h2.f (f0 46 2 (by first | decide | omega)) rfl (f0.rw1 (fun i => by first | decide | omega)) rfl
  rcases n_cw (x := tok) ha'.1 p0 (by rw [f0 46 10 (by first | decide | omega)]; exact h1) (by rw [e13]; exact ⟨h5.1, by first | decide | omega, h5.2.1⟩) wi0 (fun q => by first | decide | omega) w1 with ⟨mA, vA, m1, v1, b0, b1, b2, b3, b4, b5, b6, b7, b8, b9, b10⟩ | ⟨b1, b2⟩
  · rw [b1, bs1, b2, bs1]
    simp only [if_neg i10]
    rw [b3, bs1, b4, bs1]
    simp only [if_neg i10, wt_e]
    rw [r_rkw w1, bs1]
    dsimp only
    rw [e250]
    unfold G12_signs_250
    rw [gdb_t (by first | decide | omega), wt_e]
    have g1 : Fm (fun b i => (b = 0 ∧ (i = 46 ∨ i = 49 ∨ i = 50 ∨ i = 51)) ∨ b = 21) v (up (up v1 0 50 1) 0 51 s) := ((b6.mono (by intro b i q; first | decide | omega)).w (by first | decide | omega)).w (by first | decide | omega)
    have j50 : up (up v1 0 50 1) 0 51 s 0 50 = 1 := by rw [up_i (by first | decide | omega), up_e]
    have j51 : up (up v1 0 50 1) 0 51 s 0 51 = s := up_e
    have j49 : up (up v1 0 50 1) 0 51 s 0 49 = m0 D 13 + 1 := by rw [up_i (by first | decide | omega), up_i (by first | decide | omega)]; exact b9
    have j48 : up (up v1 0 50 1) 0 51 s 0 48 = v 0 48 := by rw [up_i (by first | decide | omega), up_i (by first | decide | omega)]; exact b6 0 48 (by first | decide | omega)
    have wi1 : WI m1 (up (up v1 0 50 1) 0 51 s) (tok :: ws) := b7.f rfl (by rw [up_i (by first | decide | omega), up_i (by first | decide | omega)]) rfl (funext fun i => by rw [up_a (by first | decide | omega), up_a (by first | decide | omega)])
    generalize up (up v1 0 50 1) 0 51 s = v2 at g1 j48 j49 j50 j51 wi1 ⊢
    have f1 : Fm (fun b i => (b = D ∧ i = 13) ∨ b = 50 ∨ (b = 46 ∧ (i = 2 ∨ i = 4 ∨ i = 5))) m m1 := (f0.mono (by intro b i q; first | decide | omega)).tr (b5.mono (by intro b i q; first | decide | omega))
    have p1 : PostR m1 v2 S := h.f f1 g1 (by intro b i q; first | decide | omega) (by intro b i q; first | decide | omega)
    obtain ⟨v3, z1, z2, z3⟩ := p1.tok
    rw [z1, bs1]
    have n1 : cNB (tok :: ws) = 1 + cNB ws := by show (if tok = 36 then 0 else 1) + cNB ws = _; rw [if_neg w2]
    have n2 : cBR (tok :: ws) = cBR ws := by show (if tok = 36 then 1 else 0) + cBR ws = _; rw [if_neg w2]; omega
    have n3 : cBN (tok :: ws) = 1 + cBN ws := by show (if tok = 36 ∨ tok = 15 then 0 else 1) + cBN ws = _; rw [if_neg (by first | decide | omega)]
    have li : LI m1 v2 D a F (tok :: ws) L := by
      refine ⟨by rw [f1 46 10 (by first | decide | omega)]; exact h1, wi1, h3.f (f1 a 1 (by first | decide | omega)) (f1.rw1 (fun i => by first | decide | omega)) (g1 0 23 (by first | decide | omega)) (g1 0 47 (by first | decide | omega)) (fun b q1 q2 q3 => g1.rw1 (fun i => by first | decide | omega)), ?_, ?_, ?_, ?_, ?_⟩
      · rw [f1 46 3 (by first | decide | omega), j48, n2]; exact h4
      · rw [b8, j49, n1]; omega
      · rw [b5 46 4 (by first | decide | omega), k4, j50]; exact ⟨rfl, Or.inr rfl⟩
      · rw [b5 46 5 (by first | decide | omega), k5, j51]; exact ⟨rfl, hs⟩
      · rw [j50, f1.rw1 (b := a + 1) (fun i => by first | decide | omega), n3]; omega
    refine ⟨m1, v3, f1.mono ?_, (g1.mono ?_).tr ((z2.mono Q7_k).mono Qk_l), by rw [f1 47 3 (by first | decide | omega)]; first | decide | omega, Or.inl ⟨rfl, rfl, ⟨tok :: ws, L, li.k ha Fm.rf (z2.mono Q7_k)⟩, z3, ht⟩⟩
    · intro b i q; unfold PLw; omega
    · intro b i q; unfold QLw; omega
  · rw [b1, bs1, b2, bs1]
    simp only [if_true]
    exact s_tr (s_ref p0 2 rfl rfl) f0' Fm.rf (by rw [f0 47 3 (by first | decide | omega)]; first | decide | omega) (f0 47 4 (by first | decide | omega))
end Q36
