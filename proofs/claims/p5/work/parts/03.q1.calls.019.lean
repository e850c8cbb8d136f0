section Q15
variable {m v m' v' w n n' : Mem} {T : Nat}
theorem c_add {s y : Int} (h : 0 ≤ m 96 0 ∧ m 96 0 ≤ 20) : ∃ m', G9_add m s y = some m' ∧ Fm Pu m m' ∧ (m 96 0 < 20 → m' 96 0 = m 96 0 + 1 ∧ m' 97 (m 96 0) = s ∧ m' 98 (m 96 0) = y ∧ ∀ j, 0 ≤ j → j < m 96 0 → m' 97 j = m 97 j ∧ m' 98 j = m 98 j) ∧ (m 96 0 = 20 → m' 96 0 = 20 ∧ m' 97 19 = s ∧ m' 98 19 = y ∧ ∀ j, 0 ≤ j → j < 19 → m' 97 j = m 97 (j + 1) ∧ m' 98 j = m 98 (j + 1)) := by
  unfold G9_add G9_add_0
  by_cases c : m 96 0 < 20
  · rw [if_pos c, c_add45 rfl ⟨h.1, c⟩]
    refine ⟨_, rfl, ((Fm.w1 (by unfold Pu; first | decide | omega)).w (by unfold Pu; first | decide | omega)).w (by unfold Pu; first | decide | omega), fun _ => ⟨up_e, ?_, ?_, fun j p q => ⟨?_, ?_⟩⟩, fun q => by first | decide | omega⟩
    · rw [up_a (by first | decide | omega), up_a (by first | decide | omega), up_e]
    · rw [up_a (by first | decide | omega), up_e]
    · rw [up_a (by first | decide | omega), up_a (by first | decide | omega), up_i (by first | decide | omega)]
    · rw [up_a (by first | decide | omega), up_i (by first | decide | omega), up_a (by first | decide | omega)]
  · rw [if_neg c, wt_e, wt_e, wt_e, c_add45 (c := 19) up_e (by first | decide | omega)]
    refine ⟨_, rfl, ?_, fun q => absurd q c, fun _ => ⟨up_e, ?_, ?_, fun j p q => ⟨?_, ?_⟩⟩⟩
    · intro b i q
      unfold Pu at q
      rw [up_a (by first | decide | omega), up_a (by first | decide | omega), up_a (by first | decide | omega), up_a (by first | decide | omega), cpy_a (by first | decide | omega), cpy_a (by first | decide | omega)]
    · rw [up_a (by first | decide | omega), up_a (by first | decide | omega), up_e]
    · rw [up_a (by first | decide | omega), up_e]
    · rw [up_a (by first | decide | omega), up_a (by first | decide | omega), up_i (by first | decide | omega), up_a (by first | decide | omega), cpy_a (by first | decide | omega), cpy_in (by first | decide | omega), show 1 + (j - 0) = j + 1 by first | decide | omega]
    · rw [up_a (by first | decide | omega), up_i (by first | decide | omega), up_a (by first | decide | omega), up_a (by first | decide | omega), cpy_in (by first | decide | omega), cpy_a (by first | decide | omega), show 1 + (j - 0) = j + 1 by first | decide | omega]
/-- the reference remembers all -/
def Qu : Nat → Int → Prop := fun b i => b = 41 ∨ (b = 0 ∧ i = 78)
def rowN (v v' : Mem) (c : Int) : Prop := (∀ s, 0 ≤ s → s < 5 → v' 41 (11 * c + s) = v 25 s ∧ v' 41 (11 * c + 5 + s) = v 29 s) ∧ v' 41 (11 * c + 10) = v 0 64
theorem r_rem51 {c : Int} (hc : 0 ≤ c ∧ c < 20) : ∀ (d k : Nat) (i : Int) (v : Mem), 0 ≤ i → 5 - i = d → d < k → v 0 78 = c → (∀ s, 0 ≤ s → s < i → v 41 (11 * c + s) = v 25 s ∧ v 41 (11 * c + 5 + s) = v 29 s) → ∃ v', G12_remember_51 k v i = some v' ∧ Fm Qu v v' ∧ v' 0 78 = c + 1 ∧ rowN v v' c ∧ ∀ j, j < 11 * c → v' 41 j = v 41 j := by
  intro d
  induction d with
  | zero =>
    intro k i v a1 a2 a3 h78 h
    obtain ⟨k, rfl⟩ : ∃ j, k = j + 1 := ⟨k - 1, by first | decide | omega⟩
    have e1 : ∀ y, up v 41 (11 * c + 10) y 0 78 = c := fun y => by rw [up_a (by first | decide | omega)]; exact h78
    rw [G12_remember_51, if_pos (by first | decide | omega), h78, gdx_t (by first | decide | omega), wt_e, e1, gd3_t (by first | decide | omega), wt_e]
    refine ⟨_, rfl, (Fm.w1 (Or.inl rfl)).w (Or.inr ⟨rfl, rfl⟩), up_e, ⟨fun s p q => ⟨?_, ?_⟩, ?_⟩, fun j hj => ?_⟩
    · rw [up_a (by first | decide | omega), up_i (by first | decide | omega)]; exact (h s p (by first | decide | omega)).1
    · rw [up_a (by first | decide | omega), up_i (by first | decide | omega)]; exact (h s p (by first | decide | omega)).2
    · rw [up_a (by first | decide | omega), up_e]
    · rw [up_a (by first | decide | omega), up_i (by first | decide | omega)]
  | succ d ih =>
    intro k i v a1 a2 a3 h78 h
    obtain ⟨k, rfl⟩ : ∃ j, k = j + 1 := ⟨k - 1, by first | decide | omega⟩
    have e1 : ∀ y, up v 41 (11 * c + i) y 0 78 = c := fun y => by rw [up_a (by first | decide | omega)]; exact h78
    rw [G12_remember_51, if_neg (by first | decide | omega), h78, gdx_t (by first | decide | omega), gdx_t (by first | decide | omega), wt_e, e1, gdx_t (by first | decide | omega), gdx_t (by first | decide | omega), wt_e, gd3_t (by first | decide | omega), up_a (show (29 : Nat) ≠ 41 by first | decide | omega)]
    have f1 : Fm Qu v (up (up v 41 (11 * c + i) (v 25 i)) 41 (11 * c + 5 + i) (v 29 i)) := (Fm.w1 (Or.inl rfl)).w (Or.inl rfl)
    obtain ⟨v', z1, z2, z3, z4, z5⟩ := ih k (i + 1) (up (up v 41 (11 * c + i) (v 25 i)) 41 (11 * c + 5 + i) (v 29 i)) (by first | decide | omega) (by first | decide | omega) (by first | decide | omega) (by rw [up_a (by first | decide | omega)]; exact e1 _) (fun s p q => by
      rw [up_a (show (25 : Nat) ≠ 41 by first | decide | omega), up_a (show (25 : Nat) ≠ 41 by first | decide | omega), up_a (show (29 : Nat) ≠ 41 by first | decide | omega), up_a (show (29 : Nat) ≠ 41 by first | decide | omega)]
      by_cases z : s = i
      · subst z
        rw [up_i (by first | decide | omega), up_e, up_e]; exact ⟨rfl, rfl⟩
      · rw [up_i (by first | decide | omega), up_i (by first | decide | omega), up_i (by first | decide | omega), up_i (by first | decide | omega)]; exact h s p (by first | decide | omega))
    refine ⟨v', z1, f1.tr z2, z3, ?_, fun j hj => ?_⟩
    · unfold rowN at *
      rw [up_b (show 25 ≠ 41 by first | decide | omega), up_b (show 25 ≠ 41 by first | decide | omega), up_b (show 29 ≠ 41 by first | decide | omega), up_b (show 29 ≠ 41 by first | decide | omega), up_a (show (0 : Nat) ≠ 41 by first | decide | omega), up_a (show (0 : Nat) ≠ 41 by first | decide | omega)] at z4
      exact z4
    · rw [z5 j hj, up_i (by first | decide | omega), up_i (by first | decide | omega)]
theorem r_rem11 : ∀ (d k : Nat) (i : Int) (v u : Mem), 0 ≤ i → 209 - i = d → d < k → v 0 78 = 20 → Fm Qu u v → (∀ j, 0 ≤ j → j < i → v 41 j = u 41 (j + 11)) → (∀ j, i ≤ j → v 41 j = u 41 j) → ∃ v', G12_remember_11 k v i = some v' ∧ Fm Qu u v' ∧ v' 0 78 = 20 ∧ rowN u v' 19 ∧ ∀ j, 0 ≤ j → j < 209 → v' 41 j = u 41 (j + 11) := by
  intro d
  induction d with
  | zero =>
    intro k i v u a1 a2 a3 h78 f h1 h2
    obtain ⟨k, rfl⟩ : ∃ j, k = j + 1 := ⟨k - 1, by first | decide | omega⟩
    rw [G12_remember_11, if_pos (by first | decide | omega), h78, gd3_t (by first | decide | omega), wt_e]
    obtain ⟨v', z1, z2, z3, z4, z5⟩ := r_rem51 (c := 19) (by first | decide | omega) 5 1024 0 (up v 0 78 (20 - 1)) (by first | decide | omega) (by first | decide | omega) (by first | decide | omega) up_e (fun s p q => by first | decide | omega)
    have f1 : Fm Qu v (up v 0 78 (20 - 1)) := Fm.w1 (Or.inr ⟨rfl, rfl⟩)
    refine ⟨v', z1, (f.tr f1).tr z2, z3, ?_, fun j p q => ?_⟩
    · unfold rowN at *
      rw [up_b (show 25 ≠ 0 by first | decide | omega), up_b (show 29 ≠ 0 by first | decide | omega), up_i (show (64 : Int) ≠ 78 by first | decide | omega), f.rw1 (b := 25) (fun i => by unfold Qu; first | decide | omega), f.rw1 (b := 29) (fun i => by unfold Qu; first | decide | omega), f 0 64 (by unfold Qu; first | decide | omega)] at z4
      exact z4
    · rw [z5 j (by first | decide | omega), up_a (by first | decide | omega)]; exact h1 j p (by first | decide | omega)
  | succ d ih =>
    intro k i v u a1 a2 a3 h78 f h1 h2
    obtain ⟨k, rfl⟩ : ∃ j, k = j + 1 := ⟨k - 1, by first | decide | omega⟩
    rw [G12_remember_11, if_neg (by first | decide | omega), gdx_t (by first | decide | omega), gdx_t (by first | decide | omega), wt_e, gd3_t (by first | decide | omega)]
    exact ih k (i + 1) (up v 41 i (v 41 (i + 11))) u (by first | decide | omega) (by first | decide | omega) (by first | decide | omega) (by rw [up_a (by first | decide | omega)]; exact h78) (f.w (Or.inl rfl)) (fun j p q => by
      by_cases z : j = i
      · rw [z, up_e]; exact h2 _ (by first | decide | omega)
      · rw [up_i z]; exact h1 j p (by first | decide | omega)) (fun j p => by rw [up_i (by first | decide | omega)]; exact h2 j (by first | decide | omega))
theorem r_rem (h : 0 ≤ v 0 78 ∧ v 0 78 ≤ 20) : ∃ v', G12_remember v = some v' ∧ Fm Qu v v' ∧ (v 0 78 < 20 → v' 0 78 = v 0 78 + 1 ∧ rowN v v' (v 0 78) ∧ ∀ j, j < 11 * v 0 78 → v' 41 j = v 41 j) ∧ (v 0 78 = 20 → v' 0 78 = 20 ∧ rowN v v' 19 ∧ ∀ j, 0 ≤ j → j < 209 → v' 41 j = v 41 (j + 11)) := by
  unfold G12_remember G12_remember_0
  by_cases c : v 0 78 = 20
  · rw [if_pos c]
    obtain ⟨v', z1, z2, z3, z4, z5⟩ := r_rem11 209 1024 0 v v (by first | decide | omega) (by first | decide | omega) (by first | decide | omega) c Fm.rf (fun j p q => by first | decide | omega) (fun j p => rfl)
    exact ⟨v', z1, z2, fun q => by first | decide | omega, fun _ => ⟨z3, z4, z5⟩⟩
  · rw [if_neg c]
    obtain ⟨v', z1, z2, z3, z4, z5⟩ := r_rem51 (c := v 0 78) (by first | decide | omega) 5 1024 0 v (by first | decide | omega) (by first | decide | omega) (by first | decide | omega) rfl (fun s p q => by first | decide | omega)
    exact ⟨v', z1, z2, fun _ => ⟨z3, z4, z5⟩, fun q => absurd q c⟩
/-- one more call that can be undone -/
theorem u_add (h : RU m v w n) (h5 : w 1 0 ≤ 5) (hS : SN w n) (hV : SV w n v) {sx bf : Int} {m1 m2 v1 : Mem} (e96 : m1 96 0 = m 96 0) (e97 : m1 97 = m 97) (e98 : m1 98 = m 98)
    (hm : (m1 96 0 < 20 → m2 96 0 = m1 96 0 + 1 ∧ m2 97 (m1 96 0) = sx ∧ m2 98 (m1 96 0) = bf ∧ ∀ j, 0 ≤ j → j < m1 96 0 → m2 97 j = m1 97 j ∧ m2 98 j = m1 98 j) ∧ (m1 96 0 = 20 → m2 96 0 = 20 ∧ m2 97 19 = sx ∧ m2 98 19 = bf ∧ ∀ j, 0 ≤ j → j < 19 → m2 97 j = m1 97 (j + 1) ∧ m2 98 j = m1 98 (j + 1)))
    (hv : (v 0 78 < 20 → v1 0 78 = v 0 78 + 1 ∧ rowN v v1 (v 0 78) ∧ ∀ j, j < 11 * v 0 78 → v1 41 j = v 41 j) ∧ (v 0 78 = 20 → v1 0 78 = 20 ∧ rowN v v1 19 ∧ ∀ j, 0 ≤ j → j < 209 → v1 41 j = v 41 (j + 11)))
    (hx : (sx = -1 ∧ bf = n 0 1 ∧ ∀ s, 0 ≤ s → s < w 1 0 → n 1 s = n' 1 s ∧ n 5 s = n' 5 s) ∨ (isS w sx ∧ n 0 1 = n' 0 1 ∧ ∀ s, 0 ≤ s → s < w 1 0 → n 1 s = (if s = sx then bf else n' 1 s) ∧ n 5 s = (if s = sx then n' 5 s - 1 else n' 5 s))) : RU m2 v1 w n' := by
  obtain ⟨u1, u2, CE, ST, RR, g1, g2, g3⟩ := h
  rw [e96, e97, e98] at hm
  have k25 : ∀ s, 0 ≤ s → s < w 1 0 → v 25 s = n 1 s ∧ v 29 s = w 5 s - n 5 s := fun s p q => by
    have h1 := (hV.1.1 s p q).1
    rw [show 5 * (0 : Int) + s = s by first | decide | omega] at h1
    exact ⟨h1, (hV.2.2.2.1 s p q).2⟩
  have hb : ∀ s, 0 ≤ s → s < w 1 0 → isC w (n 1 s) ∧ 0 ≤ n 5 s ∧ n 5 s ≤ w 5 s := fun s p q => ⟨(hS.1.2 s p q).1, (hS.2.2.1 s p q).2.2⟩
  have hr := hS.1.1
  by_cases c : m 96 0 < 20
  · obtain ⟨p1, p2, p3, p4⟩ := hm.1 c
    obtain ⟨q1, ⟨q2, q3⟩, q4⟩ := hv.1 (by first | decide | omega)
    refine ⟨by first | decide | omega, by first | decide | omega, fun j s => if j = m 96 0 + 1 then n' 1 s else CE j s, fun j s => if j = m 96 0 + 1 then n' 5 s else ST j s, fun j => if j = m 96 0 + 1 then n' 0 1 else RR j, fun s p q => ?_, ?_, fun j p q => ?_⟩
    · rw [p1]; exact ⟨if_pos rfl, if_pos rfl⟩
    · rw [p1]; exact if_pos rfl
    · rw [p1] at q
      simp only [if_neg (show ¬ j = m 96 0 + 1 by first | decide | omega)]
      by_cases z : j = m 96 0
      · subst z
        simp only [if_true]
        refine ⟨fun s a b => ?_, ?_, ?_, ?_⟩
        · have k := k25 s a b
          have k2 := q2 s a (by first | decide | omega)
          rw [← u1] at k2
          rw [(g1 s a b).1, (g1 s a b).2, k2.1, k2.2]
          exact ⟨k.1, k.2, (hb s a b).1, (hb s a b).2⟩
        · rw [g2]
          rw [← u1] at q3
          rw [q3]; exact hV.2.2.1
        · rw [g2]; exact ⟨hr.1, hr.2.1⟩
        · rw [p2, p3, g2]
          rcases hx with ⟨x1, x2, x3⟩ | ⟨x1, x2, x3⟩
          · left
            exact ⟨x1, x2.symm, fun s a b => ⟨(g1 s a b).1.trans (x3 s a b).1, (g1 s a b).2.trans (x3 s a b).2⟩⟩
          · right
            exact ⟨x1, x2, fun s a b => ⟨(g1 s a b).1.trans (x3 s a b).1, (g1 s a b).2.trans (x3 s a b).2⟩⟩
      · simp only [if_neg (show ¬ j + 1 = m 96 0 + 1 by first | decide | omega)]
        have g := g3 j p (by first | decide | omega)
        rw [(p4 j p (by first | decide | omega)).1, (p4 j p (by first | decide | omega)).2]
        refine ⟨fun s a b => ?_, ?_, g.2.2⟩
        · rw [q4 _ (by first | decide | omega), q4 _ (by first | decide | omega)]; exact g.1 s a b
        · rw [q4 _ (by first | decide | omega)]; exact g.2.1
  · have c20 : m 96 0 = 20 := by omega
    obtain ⟨p1, p2, p3, p4⟩ := hm.2 c20
    obtain ⟨q1, ⟨q2, q3⟩, q4⟩ := hv.2 (by first | decide | omega)
    rw [c20] at g1 g2
    refine ⟨by first | decide | omega, by first | decide | omega, fun j s => if j = 20 then n' 1 s else CE (j + 1) s, fun j s => if j = 20 then n' 5 s else ST (j + 1) s, fun j => if j = 20 then n' 0 1 else RR (j + 1), fun s p q => ?_, ?_, fun j p q => ?_⟩
    · rw [p1]; exact ⟨if_pos rfl, if_pos rfl⟩
    · rw [p1]; exact if_pos rfl
    · rw [p1] at q
      simp only [if_neg (show ¬ j = 20 by first | decide | omega)]
      by_cases z : j = 19
      · subst z
        simp only [show (19 : Int) + 1 = 20 by first | decide | omega, if_true]
        refine ⟨fun s a b => ?_, ?_, ?_, ?_⟩
        · have k := k25 s a b
          have k2 := q2 s a (by first | decide | omega)
          rw [(g1 s a b).1, (g1 s a b).2, k2.1, k2.2]
          exact ⟨k.1, k.2, (hb s a b).1, (hb s a b).2⟩
        · rw [g2, q3]; exact hV.2.2.1
        · rw [g2]; exact ⟨hr.1, hr.2.1⟩
        · rw [p2, p3, g2]
          rcases hx with ⟨x1, x2, x3⟩ | ⟨x1, x2, x3⟩
          · left
            exact ⟨x1, x2.symm, fun s a b => ⟨(g1 s a b).1.trans (x3 s a b).1, (g1 s a b).2.trans (x3 s a b).2⟩⟩
          · right
            exact ⟨x1, x2, fun s a b => ⟨(g1 s a b).1.trans (x3 s a b).1, (g1 s a b).2.trans (x3 s a b).2⟩⟩
      · simp only [if_neg (show ¬ j + 1 = 20 by first | decide | omega)]
        have g := g3 (j + 1) (by first | decide | omega) (by first | decide | omega)
        rw [(p4 j p (by first | decide | omega)).1, (p4 j p (by first | decide | omega)).2]
        refine ⟨fun s a b => ?_, ?_, g.2.2⟩
        · rw [q4 _ (by first | decide | omega) (by first | decide | omega), q4 _ (by first | decide | omega) (by first | decide | omega), show 11 * j + s + 11 = 11 * (j + 1) + s by first | decide | omega, show 11 * j + 5 + s + 11 = 11 * (j + 1) + 5 + s by first | decide | omega]; exact g.1 s a b
        · rw [q4 _ (by first | decide | omega) (by first | decide | omega), show 11 * j + 10 + 11 = 11 * (j + 1) + 10 by first | decide | omega]; exact g.2.1
/-- what stroke, rule and undo change -/
def Ps : Nat → Int → Prop := fun b _ => (69 ≤ b ∧ b ≤ 75) ∨ (96 ≤ b ∧ b ≤ 98)
def Qs : Nat → Int → Prop := fun b i => (b = 0 ∧ (i = 2 ∨ i = 64 ∨ i = 78)) ∨ b = 25 ∨ b = 29 ∨ b = 41
theorem Rel.step (h : Rel m v) (f : Fm Ps m m') (g : Fm Qs v v') (hk : ∀ T, RA m v T → SN (sl 21 m T) (sl 6 m 69) → SV (sl 21 m T) (sl 6 m 69) v → RU m v (sl 21 m T) (sl 6 m 69) → SN (sl 21 m T) (sl 6 m' 69) ∧ SV (sl 21 m T) (sl 6 m' 69) v' ∧ RU m' v' (sl 21 m T) (sl 6 m' 69)) : Rel m' v' := by
  obtain ⟨T, h1, h2, h3, h4, h5, h6, h7, h8, h9⟩ := h.all
  obtain ⟨k1, ew⟩ := h1.f f g (by intro b i q; unfold Ps; first | decide | omega) (by intro b i q; unfold Qs; first | decide | omega)
  obtain ⟨j1, j2, j3⟩ := hk T h1 h2 h3 h6
  refine Rel.of (T := T) ⟨k1, ?_, ?_, ?_, ?_, ?_, ?_, ?_, ?_⟩
  · rw [ew]; exact j1
  · rw [ew]; exact j2
  · rw [ew]; exact h4.f f g (by intro b i q; unfold Ps; first | decide | omega) (by intro b i q; unfold Qs; first | decide | omega)
  · rw [ew]; exact h5.f f g (by intro b i q; unfold Ps; first | decide | omega) (by intro b i q; unfold Qs; first | decide | omega)
  · rw [ew]; exact j3
  · exact h7.f f g (by intro b i q; unfold Ps; first | decide | omega) (by intro b i q; unfold Qs; first | decide | omega)
  · rw [f 46 8 (by unfold Ps; first | decide | omega), f 46 9 (by unfold Ps; first | decide | omega), g 0 4 (by unfold Qs; first | decide | omega), g 0 5 (by unfold Qs; first | decide | omega)]; exact h8
  · intro i p q; rw [f 102 i (by unfold Ps; first | decide | omega)]; exact h9 i p q
theorem Pu_s : ∀ b i, Pu b i → Ps b i := by intro b i h; unfold Pu at h; unfold Ps; omega
theorem Qu_s : ∀ b i, Qu b i → Qs b i := by intro b i h; unfold Qu at h; unfold Qs; omega
theorem a_rule (h : Rel m v) (x : Int) : Agr (G11_rule m x) (G12_rule v x) := by
  have h1 := h.v0
  unfold G11_rule G11_rule_0 G12_rule G12_rule_0
  rw [wt_e]
  generalize up v 0 2 0 = u at h1 ⊢
  obtain ⟨T, hA, hS, hV, _, _, hU, _⟩ := h1.all
  rw [c_isR, r_isIn, bs1, bs1]
  by_cases c0 : 0 ≤ x ∧ x ≤ 3
  · simp only [if_pos c0, if_neg i10]
    have e1 : u 0 64 = m 69 1 := hV.2.2.1
    rw [e1]
    by_cases c1 : x = m 69 1
    · rw [if_pos c1, if_pos c1]; exact agr0 h1 _ rfl rfl
    · rw [if_neg c1, if_neg c1]
      obtain ⟨m1, e2, f2, k2⟩ := c_add (m := m) (s := -1) (y := m 69 1) hU.2.1
      obtain ⟨u1, e3, f3, k3⟩ := r_rem (v := u) (by have := hU.1; have := hU.2.1; first | decide | omega)
      rw [e2, bs1, e3, bs1, wt_e, wt_e]
      refine ⟨1, _, _, rfl, rfl, h1.step ((f2.mono Pu_s).w (by unfold Ps; first | decide | omega)) ((f3.mono Qu_s).w (by unfold Qs; first | decide | omega)) (fun T' hA' hS' hV' hU' => ?_)⟩
      have en : sl 6 m1 69 = sl 6 m 69 := sl_c (fun b p q => f2.rw1 (fun i => by unfold Pu; first | decide | omega))
      rw [sl_up0, en]
      refine ⟨hS'.rul c0, (hV'.f f3 ?_ ?_).rul, ?_⟩
      · have hw := hA'.2.1.1; unfold WS at hw; omega
      · intro b i q; unfold Qu; omega
      · have hw := hA'.2.1.1
        unfold WS at hw
        have hU2 : RU m1 u1 (sl 21 m T') (up (sl 6 m 69) 0 1 x) := u_add hU' (by first | decide | omega) hS' hV' (m1 := m) rfl rfl rfl k2 k3 (Or.inl ⟨rfl, rfl, fun s p q => by rw [up_a (by first | decide | omega), up_a (by first | decide | omega)]; exact ⟨rfl, rfl⟩⟩)
        exact hU2.f (P := fun b i => b = 69) (Q := fun b i => b = 0 ∧ i = 64) (Fm.w1 rfl) (Fm.w1 ⟨rfl, rfl⟩) (by intro b i q; first | decide | omega) (by intro b i q; first | decide | omega)
  · simp only [if_neg c0, if_true]; exact agr0 h1 _ rfl rfl
end Q15
