/-! What the laws say of surfers and waves; the class's surf answers so. -/
def SF (m : Mem) (s T : Nat) (g : Mem) : Prop := (s = 51 ∨ s = 60) ∧ m s 0 = (T : Int) ∧ ∀ c i, 1 ≤ c → c ≤ 3 → m (s + c) i = g c i
def WLX (w : Mem) : Prop := LX (w 17) (w 16 1) ∧ LX (w 19) (w 18 1) ∧ LX (w 21) (w 20 1)
def WW (w : Mem) : Prop := WS w ∧ WC w ∧ WT w ∧ WV w ∧ WLX w
def GB (w g : Mem) : Prop := (∀ i, 0 ≤ i → i < w 1 0 → 1 ≤ g 1 i ∧ g 1 i ≤ 9 ∧ 0 ≤ g 2 i ∧ g 2 i ≤ 100) ∧ ∀ v, 0 ≤ v → v < w 8 1 → 0 ≤ g 3 v ∧ g 3 v < w 0 0
def CX (m : Mem) (s T : Nat) (w g : Mem) : Prop := TX m T w ∧ SF m s T g
theorem CX.fr {m m' : Mem} {s T : Nat} {w g : Mem} (h : CX m s T w g) {P : Nat → Prop} (f : Fr P m m') (hp : ∀ b, (2 ≤ b ∧ b < 46) ∨ (s ≤ b ∧ b < s + 4) → ¬ P b) : CX m' s T w g := by
  obtain ⟨h1, h2, h3, h4⟩ := h
  refine ⟨h1.fr f (fun b a c => hp b (Or.inl ⟨a, c⟩)), h2, ?_, fun c i a b => ?_⟩
  · rw [f s 0 (hp s (Or.inr ⟨by omega, by omega⟩))]; exact h3
  · rw [f (s + c) i (hp (s + c) (Or.inr ⟨by omega, by omega⟩))]; exact h4 c i a b
/-- the rows in which names and parts of a law are laid -/
def PN (s : Nat) : Nat → Prop := fun b => b = s + 4 ∨ b = s + 5
def PL (s : Nat) : Nat → Prop := fun b => s + 4 ≤ b ∧ b ≤ s + 8
theorem PN_PL {s : Nat} : ∀ b, PN s b → PL s b := by intro b h; unfold PN at h; unfold PL; omega
theorem CX.pn {m m' : Mem} {s T : Nat} {w g : Mem} (h : CX m s T w g) (f : Fr (PN s) m m') : CX m' s T w g := h.fr f (by intro b q; have := h.2.1; unfold PN; omega)
theorem CX.pl {m m' : Mem} {s T : Nat} {w g : Mem} (h : CX m s T w g) (f : Fr (PL s) m m') : CX m' s T w g := h.fr f (by intro b q; have := h.2.1; unfold PL; omega)
def nmA (w : Mem) (bd v : Int) : Int → Int := fun j => if j = 2 then bd else if j = 3 then w 12 v else if j = 4 then w 11 v else if j = 5 then w 14 v else 0
def nmC (w : Mem) (bd px v c : Int) : Int → Int := fun j => if j = 0 then fr w c px else if j = 1 then c / w 0 0 - w 0 3 else nmA w bd v j
def nmD (mn : Int) : Int → Int := fun j => if j = 4 then mn else 0
def catchV (w : Mem) (bd px v c : Int) : Int := lv (w 17) (nmC w bd px v c) (w 16 1)
def driftV (w : Mem) (mn : Int) : Int := lv (w 19) (nmD mn) (w 18 1)
def awayV (w : Mem) (bd v : Int) : Int := lv (w 21) (nmA w bd v) (w 20 1)
def clp (lo hi x : Int) : Int := if (if x < hi then x else hi) < lo then lo else (if x < hi then x else hi)
def oddsV (w : Mem) (bd px v c : Int) : Int := if catchV w bd px v c = -9223372036854775808 then (if 0 < 100 - 20 * fr w c px then 100 - 20 * fr w c px else 0) else clp 0 100 (catchV w bd px v c)
def awayN (w : Mem) (bd v : Int) : Int := if awayV w bd v = -9223372036854775808 then 5 else clp 1 30 (awayV w bd v)
def pkX (w : Mem) (mn : Int) : Int := clp 0 (w 0 0 - 1) (w 0 2 + (if driftV w mn = -9223372036854775808 then 0 else clp (-8) 8 (driftV w mn)))
theorem clp_b {lo hi x : Int} (h : lo ≤ hi) : lo ≤ clp lo hi x ∧ clp lo hi x ≤ hi := by unfold clp; split <;> split <;> omega
section SURF
variable {m : Mem} {s T : Nat} {w g : Mem}
theorem g_nA (h : CX m s T w g) {x v : Int} (hx : 0 ≤ x ∧ x < 5) (hv : 0 ≤ v ∧ v < 28) : ∃ m', G6_nameAway m s x v = some m' ∧ Fr (fun b => b = s + 4) m m' ∧ ∀ j, 0 ≤ j → j < 6 → m' (s + 4) j = nmA w (g 1 x) v j := by
  obtain ⟨⟨hT, t1, t2⟩, hs, s1, s2⟩ := h
  unfold G6_nameAway G6_nameAway_0
  simp only [wt_e]
  rw [gdx_t hx, gdx_t hv, gdx_t hv, gdx_t hv]
  simp (disch := omega) only [up_a, s1, Int.toNat_natCast, t2, s2]
  refine ⟨_, rfl, ?_, ?_⟩
  · intro b i hb
    have hb : b ≠ s + 4 := hb
    simp only [up_a hb]
  · intro j h0 h6
    have : j = 0 ∨ j = 1 ∨ j = 2 ∨ j = 3 ∨ j = 4 ∨ j = 5 := by omega
    unfold nmA
    rcases this with rfl | rfl | rfl | rfl | rfl | rfl <;> simp (disch := omega) only [up_e, up_i] <;> rfl
theorem bM_sm {x : Int} (h : -1000000 ≤ x ∧ x ≤ 1000000) : bM x := by unfold bM; omega
theorem nmA_b (hW : WW w) {bd v : Int} (hb : 1 ≤ bd ∧ bd ≤ 9) (hv : 0 ≤ v ∧ v < w 8 1) (j : Int) : -1000000 ≤ nmA w bd v j ∧ nmA w bd v j ≤ 1000000 := by
  obtain ⟨⟨_, hs, _⟩, _, h3, h4, _⟩ := hW
  have := h4 v hv.1 hv.2
  have h5 := h3.2.2 _ this.1.1 this.1.2.1
  unfold nmA
  repeat' split
  all_goals omega
theorem nmC_b (hW : WW w) {bd px v c : Int} (hb : 1 ≤ bd ∧ bd ≤ 9) (hv : 0 ≤ v ∧ v < w 8 1) (hc : 0 ≤ c ∧ c < w 0 0 * w 0 1) (hx : 0 ≤ px ∧ px < w 0 0) (j : Int) : -1000000 ≤ nmC w bd px v c j ∧ nmC w bd px v c j ≤ 1000000 := by
  have h1 := nmA_b hW hb hv j
  obtain ⟨⟨hs, _⟩, _⟩ := hW
  have h2 := fr_b (w := w) (by omega) (by omega) (by omega) hc hx
  have h3 := cell_b (W := w 0 0) (H := w 0 1) (by omega) (by omega) hc
  unfold nmC
  repeat' split
  all_goals omega
theorem g_nC (h : CX m s T w g) (hW : WW w) {x v c : Int} (hx : 0 ≤ x ∧ x < 5) (hv : 0 ≤ v ∧ v < w 8 1) (hc : 0 ≤ c ∧ c < w 0 0 * w 0 1) (hp : 0 ≤ g 3 v ∧ g 3 v < w 0 0) : ∃ m', G6_nameCatch m s x v c = some m' ∧ Fr (fun b => b = s + 4) m m' ∧ ∀ j, 0 ≤ j → j < 6 → m' (s + 4) j = nmC w (g 1 x) (g 3 v) v c j := by
  have hw := hW.1
  unfold WS at hw
  obtain ⟨m1, e1, f1, v1⟩ := g_nA h hx (v := v) (by omega)
  have hs' := h.2.1
  have hT' := h.1.1
  have h1 : CX m1 s T w g := h.fr f1 (by intro b q; have := h.2.1; show ¬ b = s + 4; omega)
  have far1 := g_far h1.1 (by omega) (by omega) (by omega) hc hp
  have hcb := cell_b (W := w 0 0) (H := w 0 1) (by omega) (by omega) hc
  unfold G6_nameCatch G6_nameCatch_0
  rw [e1, bs1, gdx_t (by omega), h1.2.2.1, Int.toNat_natCast, h1.2.2.2 3 v (by omega) (by omega), far1, bs1]
  rw [wt_e]
  simp only
  have h2 : CX (up m1 (s + 4) 0 (fr w c (g 3 v))) s T w g := h1.fr (Fr.up (P := fun b => b = s + 4) Fr.rf rfl) (by intro b q; have := h.2.1; show ¬ b = s + 4; omega)
  rw [h2.2.2.1, Int.toNat_natCast, g_row h2.1 (by omega) hc.1, bs1]
  simp only
  rw [h2.2.2.1, Int.toNat_natCast, h2.1.2.1, gd3_t (by omega), wt_e]
  refine ⟨_, rfl, ?_, ?_⟩
  · intro b i hb
    have hb' : b ≠ s + 4 := hb
    rw [up_a hb', up_a hb']
    exact f1 b i hb
  · intro j j0 j6
    unfold nmC
    by_cases a0 : j = 0
    · subst a0
      rw [up_i (by omega), up_e]; rfl
    · by_cases a1 : j = 1
      · subst a1
        rw [up_e]; rfl
      · rw [up_i a1, up_i a0, v1 j j0 j6, if_neg a0, if_neg a1]
theorem g_catch (h : CX m s T w g) (hW : WW w) {x v c : Int} (hx : 0 ≤ x ∧ x < 5) (hb : 1 ≤ g 1 x ∧ g 1 x ≤ 9) (hv : 0 ≤ v ∧ v < w 8 1) (hc : 0 ≤ c ∧ c < w 0 0 * w 0 1) (hp : 0 ≤ g 3 v ∧ g 3 v < w 0 0) : ∃ m1 m', G6_nameCatch m s x v c = some m1 ∧ m1 s 0 = (T : Int) ∧ G2_valueFor m1 (T + 16) (s + 4) (s + 5) = some (catchV w (g 1 x) (g 3 v) v c, m') ∧ Fr (PN s) m m' := by
  obtain ⟨m1, e1, f1, v1⟩ := g_nC h hW hx hv hc hp
  have h1 : CX m1 s T w g := h.fr f1 (by intro b q; have := h.2.1; show ¬ b = s + 4; omega)
  have hT := h.1.1
  have hs := h.2.1
  obtain ⟨m', e2, f2⟩ := g_val (m := m1) (l := T + 16) (a1 := s + 4) (a2 := s + 5) hW.2.2.2.2.1 (nm := nmC w (g 1 x) (g 3 v) v c) (fun j _ _ => bM_sm (nmC_b hW hb hv hc hp j)) (by omega) (by omega) (by omega) (h1.1.2.2 16 1 (by omega)) (fun j _ _ => h1.1.2.2 17 j (by omega)) v1
  exact ⟨m1, m', e1, h1.2.2.1, e2, (f1.mono (fun b q => Or.inl q)).tr (f2.mono (fun b q => Or.inr q))⟩
theorem g_catchV (h : CX m s T w g) (hW : WW w) {x v c : Int} (hx : 0 ≤ x ∧ x < 5) (hb : 1 ≤ g 1 x ∧ g 1 x ≤ 9) (hv : 0 ≤ v ∧ v < w 8 1) (hc : 0 ≤ c ∧ c < w 0 0 * w 0 1) (hp : 0 ≤ g 3 v ∧ g 3 v < w 0 0) : ∃ m', G6_catchValue m s x v c = some (catchV w (g 1 x) (g 3 v) v c, m') ∧ Fr (PN s) m m' := by
  obtain ⟨m1, m', e1, e0, e2, f⟩ := g_catch h hW hx hb hv hc hp
  unfold G6_catchValue G6_catchValue_0
  rw [e1, bs1, e0, Int.toNat_natCast, e2, bs1]
  exact ⟨m', rfl, f⟩
theorem g_farOf (h : CX m s T w g) (hW : WW w) {v c : Int} (hv : 0 ≤ v ∧ v < w 8 1) (hc : 0 ≤ c ∧ c < w 0 0 * w 0 1) (hp : 0 ≤ g 3 v ∧ g 3 v < w 0 0) : G6_farOf m s c v = some (fr w c (g 3 v), m) := by
  have hw := hW.1
  unfold WS at hw
  unfold G6_farOf G6_farOf_0
  rw [gdx_t (by omega), h.2.2.1, Int.toNat_natCast, h.2.2.2 3 v (by omega) (by omega), g_far h.1 (by omega) (by omega) (by omega) hc hp, bs1]
theorem odds_b (hW : WW w) {bd px v c : Int} (hc : 0 ≤ c ∧ c < w 0 0 * w 0 1) (hx : 0 ≤ px ∧ px < w 0 0) : 0 ≤ oddsV w bd px v c ∧ oddsV w bd px v c ≤ 100 := by
  have hw := hW.1
  unfold WS at hw
  have h2 := fr_b (w := w) (by omega) (by omega) (by omega) hc hx
  unfold oddsV
  split
  · split <;> omega
  · exact clp_b (by omega)
theorem g_odds (h : CX m s T w g) (hW : WW w) {x v c : Int} (hx : 0 ≤ x ∧ x < 5) (hb : 1 ≤ g 1 x ∧ g 1 x ≤ 9) (hv : 0 ≤ v ∧ v < w 8 1) (hc : 0 ≤ c ∧ c < w 0 0 * w 0 1) (hp : 0 ≤ g 3 v ∧ g 3 v < w 0 0) : ∃ m', G6_oddsAt m s x v c = some (oddsV w (g 1 x) (g 3 v) v c, m') ∧ Fr (PN s) m m' := by
  have hw := hW.1
  unfold WS at hw
  obtain ⟨m1, m', e1, e0, e2, f⟩ := g_catch h hW hx hb hv hc hp
  have h2 := h.pn f
  have h3 := fr_b (w := w) (by omega) (by omega) (by omega) hc hp
  have h4 := odds_b hW (bd := g 1 x) (v := v) hc hp
  unfold G6_oddsAt G6_oddsAt_0
  rw [e1, bs1, e0, Int.toNat_natCast, e2, bs1]
  unfold oddsV at h4 ⊢
  simp only at h4 ⊢
  refine ⟨m', ?_, f⟩
  by_cases c1 : catchV w (g 1 x) (g 3 v) v c = -9223372036854775808
  · simp only [if_pos c1] at h4 ⊢
    rw [g_farOf h2 hW hv hc hp, bs1]
    simp only
    rw [gd3_t (by omega), gd3_t (by omega)]
  · simp only [if_neg c1] at h4 ⊢
    unfold clp at h4 ⊢
    rw [gd3_t (by omega)]
theorem g_away0 (h : CX m s T w g) (hW : WW w) {x v : Int} (hx : 0 ≤ x ∧ x < 5) (hb : 1 ≤ g 1 x ∧ g 1 x ≤ 9) (hv : 0 ≤ v ∧ v < w 8 1) : ∃ m1 m', G6_nameAway m s x v = some m1 ∧ m1 s 0 = (T : Int) ∧ G2_valueFor m1 (T + 20) (s + 4) (s + 5) = some (awayV w (g 1 x) v, m') ∧ Fr (PN s) m m' := by
  have hw := hW.1
  unfold WS at hw
  obtain ⟨m1, e1, f1, v1⟩ := g_nA h hx (v := v) (by omega)
  have h1 : CX m1 s T w g := h.fr f1 (by intro b q; have := h.2.1; show ¬ b = s + 4; omega)
  have hT := h.1.1
  have hs := h.2.1
  obtain ⟨m', e2, f2⟩ := g_val (m := m1) (l := T + 20) (a1 := s + 4) (a2 := s + 5) hW.2.2.2.2.2.2 (nm := nmA w (g 1 x) v) (fun j _ _ => bM_sm (nmA_b hW hb hv j)) (by omega) (by omega) (by omega) (h1.1.2.2 20 1 (by omega)) (fun j _ _ => h1.1.2.2 21 j (by omega)) v1
  exact ⟨m1, m', e1, h1.2.2.1, e2, (f1.mono (fun b q => Or.inl q)).tr (f2.mono (fun b q => Or.inr q))⟩
theorem g_awayV (h : CX m s T w g) (hW : WW w) {x v : Int} (hx : 0 ≤ x ∧ x < 5) (hb : 1 ≤ g 1 x ∧ g 1 x ≤ 9) (hv : 0 ≤ v ∧ v < w 8 1) : ∃ m', G6_awayValue m s x v = some (awayV w (g 1 x) v, m') ∧ Fr (PN s) m m' := by
  obtain ⟨m1, m', e1, e0, e2, f⟩ := g_away0 h hW hx hb hv
  unfold G6_awayValue G6_awayValue_0
  rw [e1, bs1, e0, Int.toNat_natCast, e2, bs1]
  exact ⟨m', rfl, f⟩
theorem away_b (w : Mem) (bd v : Int) : 1 ≤ awayN w bd v ∧ awayN w bd v ≤ 30 := by
  unfold awayN
  split
  · omega
  · exact clp_b (by omega)
theorem g_away (h : CX m s T w g) (hW : WW w) {x v : Int} (hx : 0 ≤ x ∧ x < 5) (hb : 1 ≤ g 1 x ∧ g 1 x ≤ 9) (hv : 0 ≤ v ∧ v < w 8 1) : ∃ m', G6_awayFor m s x v = some (awayN w (g 1 x) v, m') ∧ Fr (PN s) m m' := by
  obtain ⟨m1, m', e1, e0, e2, f⟩ := g_away0 h hW hx hb hv
  have h4 := away_b w (g 1 x) v
  unfold G6_awayFor G6_awayFor_0
  rw [e1, bs1, e0, Int.toNat_natCast, e2, bs1]
  refine ⟨m', ?_, f⟩
  unfold awayN at h4 ⊢
  by_cases c1 : awayV w (g 1 x) v = -9223372036854775808
  · simp only [if_pos c1]
  · simp only [if_neg c1] at h4 ⊢
    unfold clp at h4 ⊢
    rw [gd3_t (by omega)]
theorem g_drift2 (hW : WW w) {mn : Int} (hm : 0 ≤ mn ∧ mn ≤ 1000) : ∀ (d n : Nat) (i : Int) (m : Mem), 0 ≤ i → 6 - i = d → d < n → CX m s T w g → (∀ j, 0 ≤ j → j < i → m (s + 4) j = 0) → ∃ m', G6_driftValue_2 n m s mn i = some (driftV w mn, m') ∧ Fr (PN s) m m' := by
  intro d
  induction d with
  | zero =>
    intro n i m a1 a2 a3 h hz
    obtain ⟨n, rfl⟩ : ∃ k, n = k + 1 := ⟨n - 1, by omega⟩
    rw [G6_driftValue_2, if_pos (by omega), wt_e]
    have hT := h.1.1
    have hs := h.2.1
    have h1 : CX (up m (s + 4) 4 mn) s T w g := h.fr (Fr.up (P := fun b => b = s + 4) Fr.rf rfl) (by intro b q; show ¬ b = s + 4; omega)
    obtain ⟨m', e2, f2⟩ := g_val (m := up m (s + 4) 4 mn) (l := T + 18) (a1 := s + 4) (a2 := s + 5) hW.2.2.2.2.2.1 (nm := nmD mn) (fun j _ _ => bM_sm (by unfold nmD; split <;> omega)) (by omega) (by omega) (by omega) (h1.1.2.2 18 1 (by omega)) (fun j _ _ => h1.1.2.2 19 j (by omega)) (fun j j0 j6 => by
      unfold nmD
      by_cases c : j = 4
      · subst c; rw [up_e]; rfl
      · rw [up_i c, if_neg c]; exact hz j j0 (by omega))
    rw [h1.2.2.1, Int.toNat_natCast, e2, bs1]
    exact ⟨m', rfl, ((Fr.up (P := fun b => b = s + 4) Fr.rf rfl).mono (fun b q => Or.inl q)).tr (f2.mono (fun b q => Or.inr q))⟩
  | succ d ih =>
    intro n i m a1 a2 a3 h hz
    obtain ⟨n, rfl⟩ : ∃ k, n = k + 1 := ⟨n - 1, by omega⟩
    have hs := h.2.1
    rw [G6_driftValue_2, if_neg (by omega), gdx_t (by omega), wt_e, gd3_t (by omega)]
    have f : Fr (fun b => b = s + 4) m (up m (s + 4) i 0) := Fr.up Fr.rf rfl
    obtain ⟨m', e, f2⟩ := ih n (i + 1) (up m (s + 4) i 0) (by omega) (by omega) (by omega) (h.fr f (by intro b q; show ¬ b = s + 4; omega)) (fun j j0 j1 => by
      by_cases c : j = i
      · subst c; rw [up_e]
      · rw [up_i c]; exact hz j j0 (by omega))
    exact ⟨m', e, (f.mono (fun b q => Or.inl q)).tr f2⟩
theorem g_drift (h : CX m s T w g) (hW : WW w) {mn : Int} (hm : 0 ≤ mn ∧ mn ≤ 1000) : ∃ m', G6_driftValue m s mn = some (driftV w mn, m') ∧ Fr (PN s) m m' :=
  g_drift2 hW hm 6 1024 0 m (by omega) (by omega) (by omega) h (fun j a b => by omega)
theorem pkX_b (hW : WW w) (mn : Int) : 0 ≤ pkX w mn ∧ pkX w mn < w 0 0 := by
  have hw := hW.1
  unfold WS at hw
  unfold pkX
  have := clp_b (lo := 0) (hi := w 0 0 - 1) (x := w 0 2 + (if driftV w mn = -9223372036854775808 then 0 else clp (-8) 8 (driftV w mn))) (by omega)
  omega
theorem g_pk39 (h : CX m s T w g) (hW : WW w) {t0 : Int} (ht : -8 ≤ t0 ∧ t0 ≤ 8) : G6_peakXAt_39 m s t0 (w 0 2) = some (clp 0 (w 0 0 - 1) (w 0 2 + t0), m) := by
  have hw := hW.1
  unfold WS at hw
  have := clp_b (lo := 0) (hi := w 0 0 - 1) (x := w 0 2 + t0) (by omega)
  unfold G6_peakXAt_39
  simp only [h.2.2.1, Int.toNat_natCast, h.1.2.1]
  unfold clp at this ⊢
  rw [gd6_t (by omega), gd3_t (by omega), gd3_t (by omega), gd6_t (by split <;> omega), gd6_t (by omega), gd3_t (by omega), gd3_t (by omega), gd3_t (by omega)]
theorem g_pkX (h : CX m s T w g) (hW : WW w) {mn : Int} (hm : 0 ≤ mn ∧ mn ≤ 1000) : ∃ m', G6_peakXAt m s mn = some (pkX w mn, m') ∧ Fr (PN s) m m' := by
  obtain ⟨m', e, f⟩ := g_drift h hW hm
  have h1 := h.pn f
  unfold G6_peakXAt G6_peakXAt_0
  rw [e, bs1]
  refine ⟨m', ?_, f⟩
  unfold pkX
  simp only [h1.2.2.1, Int.toNat_natCast, h1.1.2.1]
  by_cases c : driftV w mn = -9223372036854775808
  · rw [if_pos c, if_pos c, g_pk39 h1 hW (by omega)]
  · rw [if_neg c, if_neg c]
    have := g_pk39 h1 hW (t0 := clp (-8) 8 (driftV w mn)) (clp_b (by omega))
    unfold clp at this ⊢
    exact this
def worthV (w : Mem) (bd px v c : Int) : Int := oddsV w bd px v c * w 12 v
theorem worth_b (hW : WW w) {bd px v c : Int} (hv : 0 ≤ v ∧ v < w 8 1) (hc : 0 ≤ c ∧ c < w 0 0 * w 0 1) (hx : 0 ≤ px ∧ px < w 0 0) : 0 ≤ worthV w bd px v c ∧ worthV w bd px v c ≤ 900 := by
  have h1 := odds_b hW (bd := bd) (v := v) hc hx
  have h2 := (hW.2.2.2.1 v hv.1 hv.2).2.1
  unfold worthV
  have h3 := Int.mul_nonneg h1.1 (show 0 ≤ w 12 v by omega)
  have h4 : oddsV w bd px v c * w 12 v ≤ 100 * 9 := Int.mul_le_mul h1.2 (by omega) (by omega) (by omega)
  omega
theorem g_worth (h : CX m s T w g) (hW : WW w) {x v c : Int} (hx : 0 ≤ x ∧ x < 5) (hb : 1 ≤ g 1 x ∧ g 1 x ≤ 9) (hv : 0 ≤ v ∧ v < w 8 1) (hc : 0 ≤ c ∧ c < w 0 0 * w 0 1) (hp : 0 ≤ g 3 v ∧ g 3 v < w 0 0) : ∃ m', G6_worthAt m s x v c = some (worthV w (g 1 x) (g 3 v) v c, m') ∧ Fr (PN s) m m' := by
  have hw := hW.1
  unfold WS at hw
  obtain ⟨m', e, f⟩ := g_odds h hW hx hb hv hc hp
  have h1 := h.pn f
  have h2 := worth_b hW (bd := g 1 x) hv hc hp
  unfold G6_worthAt G6_worthAt_0
  rw [e, bs1, gdx_t (by omega)]
  simp only [h1.2.2.1, Int.toNat_natCast, h1.1.2.2 12 v (by omega)]
  unfold worthV at h2 ⊢
  rw [gd3_t (by omega)]
  exact ⟨m', rfl, f⟩
theorem smd_s (f : Int → Int) (d : Nat) (i : Int) : smd f (d + 1) i = f i + smd f d (i + 1) := rfl
def seatV (w g : Mem) (x c : Int) (i : Int) : Int := smd (fun v => worthV w (g 1 x) (g 3 v) v c) (w 8 1 - i).toNat i
theorem g_seat6 (hW : WW w) {x c : Int} (hx : 0 ≤ x ∧ x < 5) (hb : 1 ≤ g 1 x ∧ g 1 x ≤ 9) (hc : 0 ≤ c ∧ c < w 0 0 * w 0 1) (hp : ∀ v, 0 ≤ v → v < w 8 1 → 0 ≤ g 3 v ∧ g 3 v < w 0 0) : ∀ (d n : Nat) (i a : Int) (m : Mem), 0 ≤ i → w 8 1 - i = d → d < n → 0 ≤ a → a ≤ 900 * i → CX m s T w g → ∃ m', G6_seatFrom_6 n m s x c a i = some (a + smd (fun v => worthV w (g 1 x) (g 3 v) v c) d i, m') ∧ Fr (PN s) m m' := by
  have hw := hW.1
  unfold WS at hw
  intro d
  induction d with
  | zero =>
    intro n i a m a1 a2 a3 a4 a5 h
    obtain ⟨n, rfl⟩ : ∃ k, n = k + 1 := ⟨n - 1, by omega⟩
    rw [G6_seatFrom_6, h.2.2.1, Int.toNat_natCast, h.1.2.2 8 1 (by omega), if_pos (by omega)]
    exact ⟨m, by unfold smd; rw [Int.add_zero], Fr.rf⟩
  | succ d ih =>
    intro n i a m a1 a2 a3 a4 a5 h
    obtain ⟨n, rfl⟩ : ∃ k, n = k + 1 := ⟨n - 1, by omega⟩
    obtain ⟨m1, e1, f1⟩ := g_worth h hW hx hb (v := i) (by omega) hc (hp i (by omega) (by omega))
    have hwb := worth_b hW (bd := g 1 x) (v := i) (by omega) hc (hp i (by omega) (by omega))
    rw [G6_seatFrom_6, h.2.2.1, Int.toNat_natCast, h.1.2.2 8 1 (by omega), if_neg (by omega), e1, bs1, gd3_t (by omega), gd3_t (by omega)]
    obtain ⟨m', e, f⟩ := ih n (i + 1) (a + worthV w (g 1 x) (g 3 i) i c) m1 (by omega) (by omega) (by omega) (by omega) (by omega) (h.pn f1)
    refine ⟨m', ?_, f1.tr f⟩
    simp only
    rw [e, smd_s, Int.add_assoc]
theorem g_seat (h : CX m s T w g) (hW : WW w) {x c i : Int} (hx : 0 ≤ x ∧ x < 5) (hb : 1 ≤ g 1 x ∧ g 1 x ≤ 9) (hc : 0 ≤ c ∧ c < w 0 0 * w 0 1) (hp : ∀ v, 0 ≤ v → v < w 8 1 → 0 ≤ g 3 v ∧ g 3 v < w 0 0) (hi : 0 ≤ i ∧ i ≤ w 8 1) : ∃ m', G6_seatFrom m s x c i = some (seatV w g x c i, m') ∧ Fr (PN s) m m' := by
  have hw := hW.1
  unfold WS at hw
  obtain ⟨m', e, f⟩ := g_seat6 hW hx hb hc hp (w 8 1 - i).toNat 1024 i 0 m hi.1 (by omega) (by omega) (by omega) (by omega) h
  exact ⟨m', by rw [Int.zero_add] at e; exact e, f⟩
theorem smd_b {f : Int → Int} {B : Int} : ∀ (d : Nat) (i : Int), (∀ v, i ≤ v → v < i + d → 0 ≤ f v ∧ f v ≤ B) → 0 ≤ smd f d i ∧ smd f d i ≤ B * d := by
  intro d
  induction d with
  | zero => intro i _; unfold smd; simp
  | succ d ih =>
    intro i h
    have h1 := h i (by omega) (by omega)
    have h2 := ih (i + 1) (fun v a b => h v (by omega) (by omega))
    unfold smd
    have e : B * ((d + 1 : Nat) : Int) = B * d + B := by
      rw [Int.natCast_add, Int.mul_add]; simp
    omega
theorem seat_b (hW : WW w) {x c i : Int} (hc : 0 ≤ c ∧ c < w 0 0 * w 0 1) (hp : ∀ v, 0 ≤ v → v < w 8 1 → 0 ≤ g 3 v ∧ g 3 v < w 0 0) (hi : 0 ≤ i ∧ i ≤ w 8 1) : 0 ≤ seatV w g x c i ∧ seatV w g x c i ≤ 25200 := by
  have hw := hW.1
  unfold WS at hw
  have := smd_b (f := fun v => worthV w (g 1 x) (g 3 v) v c) (B := 900) (w 8 1 - i).toNat i (fun v a b => worth_b hW (bd := g 1 x) (by omega) hc (hp v (by omega) (by omega)))
  unfold seatV
  omega
end SURF
