/-! One part of a law on both sides. -/
section Q34
variable {m v : Mem} {S : Int} {D : Nat}
def aOk (D a : Nat) : Prop := (D = 2 ∨ D = 24) ∧ (a = D + 16 ∨ a = D + 18 ∨ a = D + 20)
def PLw (D a : Nat) : Nat → Int → Prop := fun b i => Pk b i ∨ (b = 46 ∧ 2 ≤ i ∧ i ≤ 5) ∨ (b = a ∧ i = 1) ∨ b = a + 1 ∨ (b = D ∧ i = 13) ∨ b = 50
def QLw (F : Int) : Nat → Int → Prop := fun b i => Qk b i ∨ (b = 0 ∧ (i = 23 ∨ (46 ≤ i ∧ i ≤ 51))) ∨ ((18 ≤ b ∧ b ≤ 20) ∧ 64 + F ≤ i) ∨ b = 21 ∨ b = 22
theorem Pk_l {a : Nat} : ∀ b i, Pk b i → PLw D a b i := fun _ _ h => Or.inl h
theorem Qk_l {F : Int} : ∀ b i, Qk b i → QLw F b i := fun _ _ h => Or.inl h
theorem PRl_l {a : Nat} : ∀ b i, PRl a b i → PLw D a b i := by intro b i h; unfold PRl at h; unfold PLw; omega
theorem QRl_l {F : Int} : ∀ b i, QRl F b i → QLw F b i := by intro b i h; unfold QRl at h; unfold QLw; omega
def LI (m v : Mem) (D a : Nat) (F : Int) (ws : List Int) (L : Nat) : Prop := m 46 10 = (D : Int) ∧ WI m v ws ∧ KN2 m v a F L ∧ (m 46 3 = cBR ws ∧ v 0 48 = cBR ws ∧ cBR ws ≤ 8) ∧ (v 0 49 = m D 13 ∧ m D 13 ≤ 64 ∧ F + L + cNB ws = m D 13) ∧ (m 46 4 = v 0 50 ∧ (v 0 50 = 0 ∨ v 0 50 = 1)) ∧ (m 46 5 = v 0 51 ∧ (v 0 51 = 0 ∨ v 0 51 = 1)) ∧ ((ist (m (a + 1)) L).length : Int) + v 0 50 = cBN ws + 1
def SOut (X Y : Option (Int × Mem)) (m v : Mem) (D a : Nat) (F S : Int) : Prop := ∃ m' v', Fm (PLw D a) m m' ∧ Fm (QLw F) v v' ∧ m 47 3 ≤ m' 47 3 ∧ ((X = some (1, m') ∧ Y = some (1, v') ∧ (∃ ws L, LI m' v' D a F ws L) ∧ PreR m' v' S ∧ m 47 4 ≠ 39) ∨ (X = some (0, m') ∧ Y = some (0, v') ∧ FLT m' v'))
theorem r_sign (v : Mem) (x : Int) : G12_isSign v x = some (if v 0 8 = 4 ∧ v 0 9 = x then 1 else 0, v) := by
  unfold G12_isSign G12_isSign_0
  by_cases c1 : v 0 8 = 4
  · by_cases c2 : v 0 9 = x
    · rw [if_pos c1, if_pos c2, if_pos ⟨c1, c2⟩]
    · rw [if_pos c1, if_neg c2, if_neg (fun q => c2 q.2)]
  · rw [if_neg c1, if_neg (fun q => c1 q.1)]
theorem r_key (v : Mem) (x : Int) : G12_isKey v x = some (if v 0 8 = 1 ∧ v 0 9 = x then 1 else 0, v) := by
  unfold G12_isKey G12_isKey_0
  by_cases c1 : v 0 8 = 1
  · by_cases c2 : v 0 9 = x
    · rw [if_pos c1, if_pos c2, if_pos ⟨c1, c2⟩]
    · rw [if_pos c1, if_neg c2, if_neg (fun q => c2 q.2)]
  · rw [if_neg c1, if_neg (fun q => c1 q.1)]
theorem s_ref {X Y : Option (Int × Mem)} {a : Nat} {F : Int} (h : PostR m v S) (x : Int) (hX : X = some (0, up (up m 46 8 x) 46 9 (m 47 5))) (hY : Y = some (0, up (up v 0 4 x) 0 5 (v 0 10))) : SOut X Y m v D a F S := by
  obtain ⟨q1, q2, q3⟩ := flt m v x (show m 47 5 = v 0 10 from h.2.2.2.2.2.1.symm)
  exact ⟨_, _, q2.mono Pk_l, q3.mono Qk_l, by rw [up_a (by omega), up_a (by omega)]; omega, Or.inr ⟨hX, hY, q1⟩⟩
theorem s_tr {X Y : Option (Int × Mem)} {a : Nat} {F : Int} {m1 v1 : Mem} (h : SOut X Y m1 v1 D a F S) (f : Fm (PLw D a) m m1) (g : Fm (QLw F) v v1) (p : m 47 3 ≤ m1 47 3) (e : m1 47 4 = m 47 4) : SOut X Y m v D a F S := by
  obtain ⟨m', v', f', g', p', k⟩ := h
  refine ⟨m', v', f.tr f', g.tr g', by omega, ?_⟩
  rw [e] at k
  exact k
theorem n_cnt (h : PostR m v S) (e10 : m 46 10 = (D : Int)) (h49 : v 0 49 = m D 13 ∧ 0 ≤ m D 13 ∧ m D 13 ≤ 64) : (m D 13 < 64 ∧ G5_countKnot m = some (1, up m D 13 (m D 13 + 1)) ∧ G12_isCounted v = some (1, up v 0 49 (m D 13 + 1))) ∨ (G5_countKnot m = some (0, up (up m 46 8 2) 46 9 (m 47 5)) ∧ G12_isCounted v = some (0, up (up v 0 4 2) 0 5 (v 0 10))) := by
  unfold G5_countKnot G5_countKnot_0 G12_isCounted G12_isCounted_0
  rw [e10, Int.toNat_natCast, h49.1]
  by_cases c : m D 13 < 64
  · rw [if_pos c, if_neg (by omega), gd3_t (by omega), wt_e, gd3_t (by omega), wt_e]
    exact Or.inl ⟨c, rfl, rfl⟩
  · rw [if_neg c, if_pos (by omega), c_ref, bs1, gdb_t (by omega), r_wrong, bs1, gdb_t (by omega)]
    exact Or.inr ⟨rfl, rfl⟩
theorem c_wait {W x : Int} (e : m 46 2 = W) (h : 0 ≤ W ∧ W < 72) : G5_letWait m x = some (1, up (up m 50 W x) 46 2 (W + 1)) := by
  unfold G5_letWait G5_letWait_0
  rw [e, if_pos h.2, gdx_t h, wt_e, up_a (by omega), e, gd3_t (by omega), wt_e]
theorem r_wait {W x : Int} (e : v 0 46 = W) (h : 0 ≤ W ∧ W < 96) : G12_waitsFor v x = some (up (up v 21 W x) 0 46 (W + 1)) := by
  unfold G12_waitsFor G12_waitsFor_0
  rw [e, gdx_t h, wt_e, up_a (by omega), e, gd3_t (by omega), wt_e]
theorem WI.push {ws : List Int} {x : Int} (h : WI m v ws) (hx : wOk x) : WI (up (up m 50 ws.length x) 46 2 (ws.length + 1)) (up (up v 21 ws.length (wCm x)) 0 46 (ws.length + 1)) (x :: ws) := by
  obtain ⟨h1, h2, h3, h4, h5⟩ := h
  refine ⟨by rw [up_e]; simp, by rw [up_e]; simp, ⟨?_, stk_up h3 (fun j a b => ?_)⟩, ⟨?_, stk_up h4 (fun j a b => ?_)⟩, ?_⟩
  · rw [up_a (by omega), up_e]
  · rw [up_a (by omega), up_i (by omega)]
  · rw [List.length_map, up_a (by omega), up_e]
  · rw [List.length_map] at b
    rw [up_a (by omega), up_i (by omega)]
  · intro y hy
    rcases List.mem_cons.mp hy with q | q
    · rw [q]; exact hx
    · exact h5 y q
theorem WI.f {m' v' : Mem} {ws : List Int} (h : WI m v ws) (e1 : m' 46 2 = m 46 2) (e2 : v' 0 46 = v 0 46) (e3 : m' 50 = m 50) (e4 : v' 21 = v 21) : WI m' v' ws := by
  unfold WI
  rw [e1, e2, e3, e4]
  exact h
/-- what stays of the law's state -/
theorem LI.f {m' v' : Mem} {a : Nat} {F : Int} {ws : List Int} {L : Nat} {P Q : Nat → Int → Prop} (h : LI m v D a F ws L) (f : Fm P m m') (g : Fm Q v v') (hp : ∀ b i, (b = 46 ∧ (i = 10 ∨ (2 ≤ i ∧ i ≤ 5))) ∨ b = 50 ∨ b = a ∨ b = a + 1 ∨ (b = D ∧ i = 13) → ¬ P b i) (hq : ∀ b i, (b = 0 ∧ (i = 23 ∨ (46 ≤ i ∧ i ≤ 51))) ∨ (18 ≤ b ∧ b ≤ 22) → ¬ Q b i) : LI m' v' D a F ws L := by
  obtain ⟨h1, h2, h3, h4, h5, h6, h7, h8⟩ := h
  have r : ∀ b : Nat, b = 50 ∨ b = a + 1 → m' b = m b := fun b z => f.rw1 (fun i => hp b i (by omega))
  have s : ∀ b : Nat, 18 ≤ b → b ≤ 22 → v' b = v b := fun b z1 z2 => g.rw1 (fun i => hq b i (by omega))
  unfold LI
  rw [f 46 10 (hp _ _ (by omega)), f 46 3 (hp _ _ (by omega)), f 46 4 (hp _ _ (by omega)), f 46 5 (hp _ _ (by omega)), f D 13 (hp _ _ (by omega)), r (a + 1) (by omega), g 0 48 (hq _ _ (by omega)), g 0 49 (hq _ _ (by omega)), g 0 50 (hq _ _ (by omega)), g 0 51 (hq _ _ (by omega))]
  exact ⟨h1, h2.f (f 46 2 (hp _ _ (by omega))) (g 0 46 (hq _ _ (by omega))) (r 50 (by omega)) (s 21 (by omega) (by omega)), h3.f (f a 1 (hp _ _ (by omega))) (r (a + 1) (by omega)) (g 0 23 (hq _ _ (by omega))) (g 0 47 (hq _ _ (by omega))) (fun b z1 z2 _ => s b z1 z2), h4, h5, h6, h7, h8⟩
theorem LI.k {m' v' : Mem} {a : Nat} {F : Int} {ws : List Int} {L : Nat} (ha : aOk D a) (h : LI m v D a F ws L) (f : Fm Pk m m') (g : Fm Qk v v') : LI m' v' D a F ws L := h.f f g (by intro b i q; unfold aOk at ha; unfold Pk; omega) (by intro b i q; unfold Qk; omega)
/-- a bracket opens -/
theorem s_open {a : Nat} {F : Int} {ws : List Int} {L : Nat} (ha : aOk D a) (hF : 0 ≤ F) (h : PostR m v S) (hL : LI m v D a F ws L) (c : m 47 4 = 36) : SOut (G5_takePart m a) (G12_leafRead v) m v D a F S := by
  have hk := h.2.2.2.2.2.2.2
  have e8 : v 0 8 = 4 ∧ v 0 9 = 40 := by unfold KR SGN NumR at hk; omega
  obtain ⟨h1, h2, h3, h4, h5, h6, h7, h8⟩ := hL
  have cl := c_len ws
  unfold G5_takePart G5_takePart_0 G12_leafRead G12_leafRead_0
  rw [if_pos c, r_sign, if_pos e8, bs1]
  unfold G5_takeOpen G5_takeOpen_0
  simp only [if_neg i10]
  rw [h4.1, h4.2.1]
  by_cases c8 : cBR ws < 8
  · rw [if_pos c8, if_neg (show ¬ cBR ws = 8 by omega), gd3_t (by omega), gd3_t (by omega)]
    simp only [wt_e]
    have w1 : up (up m 46 3 (cBR ws + 1)) 46 5 1 46 2 = ws.length := by rw [up_i (by omega), up_i (by omega)]; exact h2.1
    have w2 : up v 0 48 (cBR ws + 1) 0 46 = ws.length := by rw [up_i (by omega)]; exact h2.2.1
    rw [c_wait w1 (by omega), bs1, r_wait w2 (by omega), bs1]
    dsimp only
    have wi0 : WI (up (up m 46 3 (cBR ws + 1)) 46 5 1) (up v 0 48 (cBR ws + 1)) ws := h2.f (by rw [up_i (by omega), up_i (by omega)]) (up_i (by omega)) (funext fun i => by rw [up_a (by omega), up_a (by omega)]) (funext fun i => by rw [up_a (by omega)])
    have wi1 := wi0.push (x := 36) (by unfold wOk; omega)
    have f1 : Fm (fun b i => (b = 46 ∧ (i = 2 ∨ i = 3 ∨ i = 5)) ∨ b = 50) m (up (up (up (up m 46 3 (cBR ws + 1)) 46 5 1) 50 ws.length 36) 46 2 (ws.length + 1)) := (((Fm.w1 (by omega)).w (by omega)).w (by omega)).w (by omega)
    have g1 : Fm (fun b i => (b = 0 ∧ (i = 46 ∨ i = 48 ∨ i = 51)) ∨ b = 21) v (up (up (up (up v 0 48 (cBR ws + 1)) 21 ws.length (wCm 36)) 0 46 (ws.length + 1)) 0 51 1) := (((Fm.w1 (by omega)).w (by omega)).w (by omega)).w (by omega)
    have k3 : up (up (up (up m 46 3 (cBR ws + 1)) 46 5 1) 50 ws.length 36) 46 2 (ws.length + 1) 46 3 = cBR ws + 1 := by rw [up_i (by omega), up_a (by omega), up_i (by omega), up_e]
    have k5 : up (up (up (up m 46 3 (cBR ws + 1)) 46 5 1) 50 ws.length 36) 46 2 (ws.length + 1) 46 5 = 1 := by rw [up_i (by omega), up_a (by omega), up_e]
    have k48 : up (up (up (up v 0 48 (cBR ws + 1)) 21 ws.length (wCm 36)) 0 46 (ws.length + 1)) 0 51 1 0 48 = cBR ws + 1 := by rw [up_i (by omega), up_i (by omega), up_a (by omega), up_e]
    have k51 : up (up (up (up v 0 48 (cBR ws + 1)) 21 ws.length (wCm 36)) 0 46 (ws.length + 1)) 0 51 1 0 51 = 1 := up_e
    have wi2 : WI (up (up (up (up m 46 3 (cBR ws + 1)) 46 5 1) 50 ws.length 36) 46 2 (ws.length + 1)) (up (up (up (up v 0 48 (cBR ws + 1)) 21 ws.length (wCm 36)) 0 46 (ws.length + 1)) 0 51 1) (36 :: ws) := wi1.f rfl (up_i (by omega)) rfl (funext fun i => up_a (by omega))
    have e36 : wCm 36 = 0 := by decide
    rw [e36] at g1 k48 k51 wi2
    generalize up (up (up (up m 46 3 (cBR ws + 1)) 46 5 1) 50 ws.length 36) 46 2 (ws.length + 1) = m1 at f1 k3 k5 wi2 ⊢
    generalize up (up (up (up v 0 48 (cBR ws + 1)) 21 ws.length 0) 0 46 (ws.length + 1)) 0 51 1 = v1 at g1 k48 k51 wi2 ⊢
    have p1 : PostR m1 v1 S := h.f f1 g1 (by intro b i q; omega) (by intro b i q; omega)
    obtain ⟨v2, z1, z2, z3⟩ := p1.tok
    have ha' := ha
    unfold aOk at ha'
    have n1 : cNB (36 :: ws) = cNB ws := by show (if (36 : Int) = 36 then 0 else 1) + cNB ws = _; rw [if_pos rfl]; omega
    have n2 : cBR (36 :: ws) = cBR ws + 1 := by show (if (36 : Int) = 36 then 1 else 0) + cBR ws = _; rw [if_pos rfl]; omega
    have n3 : cBN (36 :: ws) = cBN ws := by show (if (36 : Int) = 36 ∨ (36 : Int) = 15 then 0 else 1) + cBN ws = _; rw [if_pos (Or.inl rfl)]; omega
    have li : LI m1 v1 D a F (36 :: ws) L := by
      refine ⟨by rw [f1 46 10 (by omega)]; exact h1, wi2, h3.f (f1 a 1 (by omega)) (f1.rw1 (fun i => by omega)) (g1 0 23 (by omega)) (g1 0 47 (by omega)) (fun b q1 q2 q3 => g1.rw1 (fun i => by omega)), ⟨by rw [k3, n2], by rw [k48, n2], by rw [n2]; omega⟩, ?_, ?_, ?_, ?_⟩
      · rw [g1 0 49 (by omega), f1 D 13 (by omega), n1]; exact h5
      · rw [g1 0 50 (by omega), f1 46 4 (by omega)]; exact h6
      · rw [k5, k51]; exact ⟨rfl, Or.inr rfl⟩
      · rw [g1 0 50 (by omega), f1.rw1 (b := a + 1) (fun i => by omega), n3]; exact h8
    rw [gdb_t (Or.inr rfl), bs1, gdb_t (Or.inr rfl), z1, bs1]
    refine ⟨m1, v2, f1.mono ?_, (g1.mono ?_).tr ((z2.mono Q7_k).mono Qk_l), by rw [f1 47 3 (by omega)]; omega, Or.inl ⟨rfl, rfl, ⟨36 :: ws, L, li.k ha Fm.rf (z2.mono Q7_k)⟩, z3, by omega⟩⟩
    · intro b i q; unfold PLw; omega
    · intro b i q; unfold QLw; omega
  · rw [if_neg c8, if_pos (show cBR ws = 8 by omega), c_ref, bs1, gdb_t (by omega), bs1, gdb_t (by omega), r_wrong, bs1, gdb_t (by omega)]
    exact s_ref h 2 rfl rfl
end Q34
