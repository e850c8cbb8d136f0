/-! The line of a law on both sides: the draft behind it, the line. -/
section Q38
variable {m v : Mem} {S : Int} {D : Nat}
def LCP (c : Int) (p q : Nat) : Prop := (c = 0 ∧ p = 16 ∧ q = 17) ∨ (c = 1 ∧ p = 18 ∧ q = 19) ∨ (c = 2 ∧ p = 20 ∧ q = 21)
def PLx (D p q : Nat) : Nat → Int → Prop := fun b i => PLw D (D + p) b i ∨ (b = D + p ∧ i = 2)
def QLx (F k : Int) : Nat → Int → Prop := fun b i => QLw F b i ∨ ((15 ≤ b ∧ b ≤ 17) ∧ i = 3 + k)
theorem QLx_0 {F k i : Int} (h : 46 ≤ i ∧ i ≤ 51) : QLx F k 0 i := Or.inl (Or.inr (Or.inl ⟨rfl, Or.inr h⟩))
theorem QLx_r {F k : Int} {b : Nat} (h : 15 ≤ b ∧ b ≤ 17) : QLx F k b (3 + k) := Or.inr ⟨h, rfl⟩
theorem PLx_t {p q : Nat} : PLx D p q (D + p) 2 := Or.inr ⟨rfl, rfl⟩
theorem PLx_46 {p q : Nat} {i : Int} (h : 2 ≤ i ∧ i ≤ 5) : PLx D p q 46 i := Or.inl (Or.inr (Or.inl ⟨rfl, h⟩))
theorem sh15 {b : Nat} (h : 15 ≤ b ∧ b ≤ 17) (i : Int) : kd v b i = v b (3 + i) := by
  show v b (sh b i) = _
  have : sh b i = 3 + i := by unfold sh; rw [if_neg (by first | decide | omega), if_neg (by first | decide | omega), if_neg (by first | decide | omega), if_neg (by first | decide | omega), if_neg (by first | decide | omega), if_pos (by first | decide | omega)]
  rw [this]
theorem sh18 {b : Nat} (h : 18 ≤ b ∧ b ≤ 20) (i : Int) : kd v b i = v b (64 + i) := by
  show v b (sh b i) = _
  have : sh b i = 64 + i := by unfold sh; rw [if_neg (by first | decide | omega), if_neg (by first | decide | omega), if_neg (by first | decide | omega), if_neg (by first | decide | omega), if_neg (by first | decide | omega), if_neg (by first | decide | omega), if_pos (by first | decide | omega)]
  rw [this]
theorem di_law {m0 v0 : Mem} {k F : Int} {p q L : Nat} (hD : DI m0 v0 D) (hk : LCP k p q) (hF : F = m0 D 13) (f : Fm (PLx D p q) m0 m) (g : Fm (QLx F k) v0 v) (h0 : m (D + p) 2 = 1 ∧ m (D + p) 1 = L) (h1 : v 15 (3 + k) = 1 ∧ v 16 (3 + k) = F ∧ v 17 (3 + k) = F + L) (h23 : v 0 23 = F + L) (h13 : m D 13 = F + L ∧ F + L ≤ 64) (h49 : v 0 49 = m D 13) (hi : (ist (m (D + q)) L).length = 1) (hkv : ∀ j : Nat, j < L → KV (m (D + q)) j) (hnd : ∀ j : Nat, j < L → NodeR (m (D + q)) (kd v) F j) : DI m v D := by
  have hN := hD.n
  obtain ⟨g1, ⟨hS, hC, hT, hV, hX⟩, ⟨⟨a1, a2, a3, a4, a5, a6⟩, b, c, d, e, r1, r2, r3⟩, q4, q5, q6, q7⟩ := hD
  have hDD := g1.1
  have hL0 : 0 < L := by
    apply Nat.pos_of_ne_zero
    intro z
    rw [z] at hi
    simp [ist] at hi
  have hF0 : 0 ≤ F ∧ F ≤ 64 := by
    have z : sl 21 m0 D 0 13 = m0 D 13 := sl_e (Nat.zero_le _) _
    unfold WS at hS
    omega
  have e0 : ∀ i, i ≠ 13 → sl 21 m D 0 i = sl 21 m0 D 0 i := fun i z => by rw [sl_e (Nat.zero_le _), sl_e (Nat.zero_le _)]; exact f D i (by unfold PLx PLw Pk; unfold LCP at hk; first | decide | omega)
  have e13 : sl 21 m D 0 13 = F + L := by rw [sl_e (Nat.zero_le _)]; exact h13.1
  have eo : ∀ c : Nat, 1 ≤ c → c ≠ p → c ≠ q → sl 21 m D c = sl 21 m0 D c := fun c z0 z1 z2 => by
    funext i
    by_cases c21 : c ≤ 21
    · rw [sl_e c21, sl_e c21]; exact f (D + c) i (by unfold PLx PLw Pk; unfold LCP at hk; first | decide | omega)
    · unfold sl; rw [if_neg c21, if_neg c21]
  have k0 : ∀ i, i + 6 ≠ 23 → ¬ (46 ≤ i + 6 ∧ i + 6 ≤ 51) → ¬ Qk 0 (i + 6) → kd v 0 i = kd v0 0 i := fun i z1 z2 z3 => by
    show v 0 (i + 6) = v0 0 (i + 6)
    exact g 0 _ (by unfold QLx QLw; rintro ((z | z | z | z | z) | z); exact z3 z; omega; omega; omega; omega; first | decide | omega)
  have kq : ∀ c : Nat, 1 ≤ c → c ≤ 14 → kd v c = kd v0 c := fun c z0 z1 => funext fun i => g c _ (by unfold QLx QLw Qk; first | decide | omega)
  have hX' : ∀ (c : Int) (x y : Nat), LCP c x y → LX (sl 21 m D y) (sl 21 m D x 1) := by
    intro c x y hc
    by_cases z : c = k
    · have e1 : x = p ∧ y = q := by unfold LCP at hc hk; omega
      rw [e1.1, e1.2]
      have s1 : sl 21 m D p 1 = L := by rw [sl_e (by unfold LCP at hk; first | decide | omega)]; exact h0.2
      have s2 : sl 21 m D q = m (D + q) := funext fun i => sl_e (by unfold LCP at hk; first | decide | omega) i
      rw [s1, s2]
      refine ⟨by first | decide | omega, fun j z => hkv j (by first | decide | omega), fun _ => ?_⟩
      rw [Int.toNat_natCast]; exact hi
    · rw [eo y (by unfold LCP at hc; first | decide | omega) (by unfold LCP at hc hk; first | decide | omega) (by unfold LCP at hc hk; first | decide | omega), eo x (by unfold LCP at hc; first | decide | omega) (by unfold LCP at hc hk; first | decide | omega) (by unfold LCP at hc hk; first | decide | omega)]
      obtain ⟨x1, x2, x3⟩ := hX
      unfold LCP at hc
      rcases hc with ⟨_, e1, e2⟩ | ⟨_, e1, e2⟩ | ⟨_, e1, e2⟩ <;> rw [e1, e2] <;> assumption
  have hR : ∀ (c : Int) (x y : Nat), LCP c x y → RLw (kd v0) (sl 21 m0 D) c x y → RLw (kd v) (sl 21 m D) c x y := by
    intro c x y hc hr
    by_cases z : c = k
    · have e1 : x = p ∧ y = q := by unfold LCP at hc hk; omega
      rw [e1.1, e1.2, z]
      have s1 : sl 21 m D p 1 = L := by rw [sl_e (by unfold LCP at hk; first | decide | omega)]; exact h0.2
      have s3 : sl 21 m D p 2 = 1 := by rw [sl_e (by unfold LCP at hk; first | decide | omega)]; exact h0.1
      have s2 : sl 21 m D q = m (D + q) := funext fun i => sl_e (by unfold LCP at hk; first | decide | omega) i
      unfold RLw
      rw [s1, s2, s3, sh15 (by first | decide | omega), sh15 (by first | decide | omega), sh15 (by first | decide | omega), h1.1, h1.2.1, h1.2.2]
      exact ⟨rfl, Or.inr rfl, fun z => by first | decide | omega, fun _ => ⟨by first | decide | omega, by first | decide | omega, rfl, by first | decide | omega, fun j z => hnd j (by first | decide | omega)⟩⟩
    · have ey : sl 21 m D y = sl 21 m0 D y := eo y (by unfold LCP at hc; first | decide | omega) (by unfold LCP at hc hk; first | decide | omega) (by unfold LCP at hc hk; first | decide | omega)
      have ex : sl 21 m D x = sl 21 m0 D x := eo x (by unfold LCP at hc; first | decide | omega) (by unfold LCP at hc hk; first | decide | omega) (by unfold LCP at hc hk; first | decide | omega)
      have kc : ∀ b : Nat, 15 ≤ b → b ≤ 17 → kd v b c = kd v0 b c := fun b z1 z2 => by
        rw [sh15 ⟨z1, z2⟩, sh15 ⟨z1, z2⟩]
        exact g b _ (by unfold QLx QLw Qk; first | decide | omega)
      obtain ⟨t1, t2, t3, t4⟩ := hr
      unfold RLw
      rw [ex, ey, kc 15 (by first | decide | omega) (by first | decide | omega), kc 16 (by first | decide | omega) (by first | decide | omega), kc 17 (by first | decide | omega) (by first | decide | omega)]
      refine ⟨t1, t2, t3, fun q1 => ?_⟩
      obtain ⟨u1, u2, u3, u4, u5⟩ := t4 q1
      have hb : kd v0 17 c ≤ F := by
        have t15 : kd v0 15 c = v0 15 (3 + c) := sh15 (by first | decide | omega) c
        have t17 : kd v0 17 c = v0 17 (3 + c) := sh15 (by first | decide | omega) c
        have z3 := q7 (3 + c) (by unfold LCP at hc; first | decide | omega) (by unfold LCP at hc; first | decide | omega) (by rw [← t15, t1, q1])
        have z4 : v0 0 23 = m0 D 13 := hN.2.2.2.2.2
        omega
      refine ⟨u1, u2, u3, u4, fun j z1 => (u5 j z1).c (fun _ _ => rfl) ?_ ?_ ?_⟩
      · exact (sh18 (v := v) (b := 18) (by first | decide | omega) _).trans ((g 18 _ (by unfold QLx QLw Qk; first | decide | omega)).trans (sh18 (v := v0) (b := 18) (by first | decide | omega) _).symm)
      · exact (sh18 (v := v) (b := 19) (by first | decide | omega) _).trans ((g 19 _ (by unfold QLx QLw Qk; first | decide | omega)).trans (sh18 (v := v0) (b := 19) (by first | decide | omega) _).symm)
      · exact (sh18 (v := v) (b := 20) (by first | decide | omega) _).trans ((g 20 _ (by unfold QLx QLw Qk; first | decide | omega)).trans (sh18 (v := v0) (b := 20) (by first | decide | omega) _).symm)
  have hp16 : 16 ≤ p ∧ 16 ≤ q := by unfold LCP at hk; omega
  have eo' : ∀ c : Nat, 1 ≤ c → c < 16 → sl 21 m D c = sl 21 m0 D c := fun c z1 z2 => eo c z1 (by first | decide | omega) (by first | decide | omega)
  refine ⟨⟨hDD, by rw [f 46 10 (by unfold PLx PLw Pk; unfold LCP at hk; first | decide | omega)]; exact g1.2⟩, ⟨?_, ?_, ?_, ?_, hX' 0 16 17 (by unfold LCP; first | decide | omega), hX' 1 18 19 (by unfold LCP; first | decide | omega), hX' 2 20 21 (by unfold LCP; first | decide | omega)⟩, ⟨⟨?_, ?_, ?_, ?_, ?_, ?_⟩, ?_, ?_, ?_, ?_, hR 0 16 17 (by unfold LCP; first | decide | omega) r1, hR 1 18 19 (by unfold LCP; first | decide | omega) r2, hR 2 20 21 (by unfold LCP; first | decide | omega) r3⟩, ⟨?_, ?_, ?_⟩, ?_, ?_, ?_⟩
  · unfold WS at hS ⊢
    rw [e0 0 (by first | decide | omega), e0 1 (by first | decide | omega), e0 2 (by first | decide | omega), e0 3 (by first | decide | omega), e0 6 (by first | decide | omega), e0 7 (by first | decide | omega), e0 8 (by first | decide | omega), e0 9 (by first | decide | omega), e0 10 (by first | decide | omega), e13, eo' 1 (by decide) (by decide), eo' 8 (by decide) (by decide)]
    omega
  · unfold WC
    rw [e0 0 (by first | decide | omega), e0 1 (by first | decide | omega), eo' 1 (by decide) (by decide), eo' 3 (by decide) (by decide), eo' 4 (by decide) (by decide), eo' 5 (by decide) (by decide), eo' 6 (by decide) (by decide), eo' 7 (by decide) (by decide)]
    exact hC
  · unfold WT
    rw [eo' 8 (by decide) (by decide), eo' 9 (by decide) (by decide), eo' 10 (by decide) (by decide)]; exact hT
  · unfold WV
    rw [eo' 8 (by decide) (by decide), eo' 9 (by decide) (by decide), eo' 10 (by decide) (by decide), eo' 11 (by decide) (by decide), eo' 12 (by decide) (by decide), eo' 13 (by decide) (by decide), eo' 14 (by decide) (by decide)]; exact hV
  · rw [k0 12 (by first | decide | omega) (by first | decide | omega) (by unfold Qk; first | decide | omega), e0 0 (by first | decide | omega)]; exact a1
  · rw [k0 13 (by first | decide | omega) (by first | decide | omega) (by unfold Qk; first | decide | omega), e0 1 (by first | decide | omega)]; exact a2
  · rw [k0 14 (by first | decide | omega) (by first | decide | omega) (by unfold Qk; first | decide | omega), eo' 1 (by decide) (by decide)]; exact a3
  · rw [k0 15 (by first | decide | omega) (by first | decide | omega) (by unfold Qk; first | decide | omega), eo' 8 (by decide) (by decide)]; exact a4
  · rw [k0 16 (by first | decide | omega) (by first | decide | omega) (by unfold Qk; first | decide | omega), eo' 8 (by decide) (by decide)]; exact a5
  · rw [e13]; exact h23
  · rw [kq 4 (by first | decide | omega) (by first | decide | omega), e0 2 (by first | decide | omega), e0 3 (by first | decide | omega), e0 6 (by first | decide | omega), e0 7 (by first | decide | omega), e0 8 (by first | decide | omega), e0 9 (by first | decide | omega), e0 10 (by first | decide | omega)]; exact b
  · rw [kq 5 (by first | decide | omega) (by first | decide | omega), kq 6 (by first | decide | omega) (by first | decide | omega), kq 7 (by first | decide | omega) (by first | decide | omega), kq 8 (by first | decide | omega) (by first | decide | omega), kq 9 (by first | decide | omega) (by first | decide | omega), kq 10 (by first | decide | omega) (by first | decide | omega), eo' 1 (by decide) (by decide), eo' 2 (by decide) (by decide), eo' 3 (by decide) (by decide), eo' 4 (by decide) (by decide), eo' 5 (by decide) (by decide), eo' 6 (by decide) (by decide), eo' 7 (by decide) (by decide)]; exact c
  · rw [kq 11 (by first | decide | omega) (by first | decide | omega), eo' 8 (by decide) (by decide), eo' 9 (by decide) (by decide)]; exact d
  · rw [kq 12 (by first | decide | omega) (by first | decide | omega), kq 13 (by first | decide | omega) (by first | decide | omega), kq 14 (by first | decide | omega) (by first | decide | omega), eo' 8 (by decide) (by decide), eo' 11 (by decide) (by decide), eo' 12 (by decide) (by decide), eo' 13 (by decide) (by decide)]; exact e
  · rw [f 46 7 (by unfold PLx PLw Pk; unfold LCP at hk; first | decide | omega)]; exact q4.1
  · rw [f 46 7 (by unfold PLx PLw Pk; unfold LCP at hk; first | decide | omega), g 0 24 (by unfold QLx QLw Qk; first | decide | omega)]; exact q4.2.1
  · rw [f 46 7 (by unfold PLx PLw Pk; unfold LCP at hk; first | decide | omega), e0 2 (by first | decide | omega), e0 3 (by first | decide | omega), eo' 1 (by decide) (by decide)]; exact q4.2.2
  · unfold ONC
    rw [f 46 6 (by unfold PLx PLw Pk; unfold LCP at hk; first | decide | omega), g.rw1 (b := 3) (fun i => by unfold QLx QLw Qk; first | decide | omega)]; exact q5
  · rw [h49, e13]; exact h13.1
  · intro c z1 z2 z3
    rw [h23]
    by_cases z : c = 3 + k
    · rw [z, h1.2.2]; omega
    · rw [g 15 c (by unfold QLx QLw Qk; first | decide | omega)] at z3
      rw [g 17 c (by unfold QLx QLw Qk; first | decide | omega)]
      have := q7 c z1 z2 z3
      have z4 : v0 0 23 = m0 D 13 := hN.2.2.2.2.2
      omega
theorem PLx_X {k : Int} {p q : Nat} (hDD : D = 2 ∨ D = 24) (hk : LCP k p q) : ∀ b i, PLx D p q b i → PX D b i := by
  intro b i z
  unfold PLx PLw Pk at z
  unfold LCP at hk
  unfold PX
  omega
theorem QLx_X {F k : Int} (hF : 0 ≤ F) (hk : 0 ≤ k) : ∀ b i, QLx F k b i → QX b i := by
  intro b i z
  unfold QLx QLw Qk at z
  unfold QX
  omega
theorem PLx_12 {k : Int} {p q : Nat} (hDD : D = 2 ∨ D = 24) (hk : LCP k p q) : ¬ PLx D p q D 12 := by
  unfold PLx PLw Pk
  unfold LCP at hk
  omega
theorem PLw_t {k : Int} {p q : Nat} (hDD : D = 2 ∨ D = 24) (hk : LCP k p q) : ¬ PLw D (D + p) (D + p) 2 := by
  unfold PLw Pk
  unfold LCP at hk
  omega
theorem QLw_r {F : Int} {b : Nat} (h : 15 ≤ b ∧ b ≤ 17) (i : Int) : ¬ QLw F b i := by
  unfold QLw Qk
  omega
theorem l_law (hD : DI m v D) (h : PostR m v S) : LOut (G5_readLaw m) ((G12_token v).bind fun o30 => if o30 0 8 = 1 then (if o30 0 9 < 12 then G12_lineRead_130 o30 else (if o30 0 9 ≤ 14 then (gdx (3 + o30 0 9 - 12) 6 (if o30 15 (3 + o30 0 9 - 12) = 0 then (gdx (3 + o30 0 9 - 12) 6 (gdb 1 (wt (up o30 15 (3 + o30 0 9 - 12) 1) fun m51 => (G12_token m51).bind fun o52 => gdx (3 + o30 0 9 - 12) 6 (wt (up o52 16 (3 + o30 0 9 - 12) (o52 0 23)) fun m59 => (G12_sumRead m59).bind fun o60 => gdx (3 + o30 0 9 - 12) 6 (wt (up o60.2 17 (3 + o30 0 9 - 12) (o60.2 0 23)) fun m67 => G12_lineRead_197 m67 o60.1))))) else ((G12_wrong o30 3).bind fun o68 => gdb o68.1 (some (o68.1, o68.2))))) else G12_lineRead_130 o30)) else G12_lineRead_130 o30) m v D S := by
  have hDD := hD.1.1
  have hN := hD.n
  have e130 : ∀ u : Mem, G12_lineRead_130 u = some (0, up (up u 0 4 1) 0 5 (u 0 10)) := fun u => by unfold G12_lineRead_130; rw [r_wrong, bs1, gdb_t (by first | decide | omega)]
  obtain ⟨v1, z1, z2, p1⟩ := h.tok
  obtain ⟨m1, y1, y2, h1, y3, _⟩ := p1.adv
  have y2' := y2.mono P47_k
  have z2' := z2.mono Q7_k
  have hD1 : DI m1 v1 D := hD.k y2' z2'
  have hN1 := hD1.n
  unfold G5_readLaw G5_readLaw_0 G5_readKind G5_readKind_0
  rw [z1, bs1, y1, bs1]
  have hk := h1.2.2.2.2.2.2.2
  have hb := KR_b hk
  have hi := KR_kw hk (lo := 12) (hi := 14) (by first | decide | omega) (by first | decide | omega)
  refine lo_tr (m1 := m1) (v1 := v1) ?_ (y2'.mono Pk_x) (z2'.mono Qk_x) y3 (y2 D 12 (by unfold P47; first | decide | omega))
  have e27 : ∀ u : Mem, G5_readKind_27 u = some (-1, up (up u 46 8 1) 46 9 (u 47 5)) := fun u => by unfold G5_readKind_27; rw [c_ref, bs1]
  rw [gd3_t (by first | decide | omega)]
  by_cases c : 12 ≤ m1 47 4 ∧ m1 47 4 ≤ 14
  · obtain ⟨k8, _⟩ := hi.mp c
    have ek : v1 0 9 = m1 47 4 := by
      have hlo : kwf (m1 47 4) = m1 47 4 := kwf_lo (by first | decide | omega)
      unfold KR SGN NumR at hk
      rw [hlo] at hk
      omega
    rw [if_neg (show ¬ m1 47 4 - 12 < 0 by first | decide | omega), gd3_t (by first | decide | omega), if_pos (show m1 47 4 - 12 < 3 by first | decide | omega), gdx_t (by first | decide | omega), if_pos k8, ek, if_neg (show ¬ m1 47 4 < 12 by first | decide | omega), if_pos c.2, hD1.1.2, Int.toNat_natCast]
    obtain ⟨k, p, q, e1, e2, e3, e4, hkp⟩ : ∃ (k : Int) (p q : Nat), m1 47 4 - 12 = k ∧ 3 + m1 47 4 - 12 = 3 + k ∧ D + 16 + 2 * (m1 47 4 - 12).toNat = D + p ∧ q = p + 1 ∧ LCP k p q := by
      rcases (show m1 47 4 = 12 ∨ m1 47 4 = 13 ∨ m1 47 4 = 14 by first | decide | omega) with e | e | e
      · exact ⟨0, 16, 17, by first | decide | omega, by first | decide | omega, by rw [e]; rfl, rfl, by unfold LCP; first | decide | omega⟩
      · exact ⟨1, 18, 19, by first | decide | omega, by first | decide | omega, by rw [e]; rfl, rfl, by unfold LCP; first | decide | omega⟩
      · exact ⟨2, 20, 21, by first | decide | omega, by first | decide | omega, by rw [e]; rfl, rfl, by unfold LCP; first | decide | omega⟩
    have hk3 : 0 ≤ k ∧ k < 3 := by omega
    rw [e1] at e3
    have hkp' := hkp
    unfold LCP at hkp'
    rw [e2, e1, e3, gdx_t (by first | decide | omega)]
    -- told already?
    have told : v1 15 (3 + k) = m1 (D + p) 2 ∧ (m1 (D + p) 2 = 0 → m1 (D + p) 1 = 0) := by
      obtain ⟨_, _, _, _, _, r1, r2, r3⟩ := hD1.2.2.1
      have fin : ∀ (c : Int) (x y : Nat), x ≤ 21 → RLw (kd v1) (sl 21 m1 D) c x y → v1 15 (3 + c) = m1 (D + x) 2 ∧ (m1 (D + x) 2 = 0 → m1 (D + x) 1 = 0) := by
        intro c x y hx r
        obtain ⟨t1, t2, t3, _⟩ := r
        rw [sh15 (by first | decide | omega), sl_e hx] at t1
        rw [sl_e hx, sl_e hx] at t3
        exact ⟨t1, t3⟩
      rcases hkp' with ⟨x1, x2, x3⟩ | ⟨x1, x2, x3⟩ | ⟨x1, x2, x3⟩ <;> rw [x1, x2]
      · exact fin 0 16 17 (by first | decide | omega) r1
      · exact fin 1 18 19 (by first | decide | omega) r2
      · exact fin 2 20 21 (by first | decide | omega) r3
    rw [told.1]
    by_cases c0 : m1 (D + p) 2 = 0
    · rw [if_pos c0, if_pos c0, gdx_t (by first | decide | omega), wt_e, gdx_t (by first | decide | omega), gdx_t (by first | decide | omega), gdb_t (by first | decide | omega), wt_e, bs1]
      have er : up m1 (D + p) 2 1 46 10 = (D : Int) := by rw [up_a (by first | decide | omega)]; exact hD1.1.2
      rw [er, Int.toNat_natCast, e3]
      dsimp only
      rw [if_neg (show ¬ ((D + p : Nat) : Int) = -1 by first | decide | omega), Int.toNat_natCast]
      simp only [wt_e]
      -- the class begins
      have fA : Fm (PLx D p q) m1 (up (up (up (up (up m1 (D + p) 2 1) 46 2 0) 46 3 0) 46 4 1) 46 5 1) := ((((Fm.w1 PLx_t).w (PLx_46 (by first | decide | omega))).w (PLx_46 (by first | decide | omega))).w (PLx_46 (by first | decide | omega))).w (PLx_46 (by first | decide | omega))
      have fA' : Fm (fun b i => (b = D + p ∧ i = 2) ∨ (b = 46 ∧ 2 ≤ i ∧ i ≤ 5)) m1 (up (up (up (up (up m1 (D + p) 2 1) 46 2 0) 46 3 0) 46 4 1) 46 5 1) := (((((Fm.w1 (by first | decide | omega)).w (by first | decide | omega)).w (by first | decide | omega)).w (by first | decide | omega)).w (by first | decide | omega))
      have a2 : up (up (up (up (up m1 (D + p) 2 1) 46 2 0) 46 3 0) 46 4 1) 46 5 1 46 2 = 0 := by rw [up_i (by first | decide | omega), up_i (by first | decide | omega), up_i (by first | decide | omega), up_e]
      have a3 : up (up (up (up (up m1 (D + p) 2 1) 46 2 0) 46 3 0) 46 4 1) 46 5 1 46 3 = 0 := by rw [up_i (by first | decide | omega), up_i (by first | decide | omega), up_e]
      have a4 : up (up (up (up (up m1 (D + p) 2 1) 46 2 0) 46 3 0) 46 4 1) 46 5 1 46 4 = 1 := by rw [up_i (by first | decide | omega), up_e]
      have a5 : up (up (up (up (up m1 (D + p) 2 1) 46 2 0) 46 3 0) 46 4 1) 46 5 1 46 5 = 1 := up_e
      have aT : up (up (up (up (up m1 (D + p) 2 1) 46 2 0) 46 3 0) 46 4 1) 46 5 1 (D + p) 2 = 1 := by rw [up_a (by first | decide | omega), up_a (by first | decide | omega), up_a (by first | decide | omega), up_a (by first | decide | omega), up_e]
      generalize up (up (up (up (up m1 (D + p) 2 1) 46 2 0) 46 3 0) 46 4 1) 46 5 1 = mA at fA fA' a2 a3 a4 a5 aT ⊢
      -- the reference begins
      have hB : PostR mA (up v1 15 (3 + k) 1) S := h1.f (Q := fun b i => b = 15) fA' (Fm.w1 rfl) (by intro b i q; first | decide | omega) (by intro b i q; first | decide | omega)
      obtain ⟨v2, x1, x2, p2⟩ := hB.tok
      rw [x1, bs1, gdx_t (by first | decide | omega)]
      unfold G12_sumRead G12_sumRead_0
      simp only [wt_e]
      have F23 : v2 0 23 = m1 D 13 := by rw [x2 0 23 (by unfold Q7; first | decide | omega), up_a (by first | decide | omega)]; exact hN1.2.2.2.2.2
      have gB : Fm (QLx (m1 D 13) k) v1 (up (up (up (up (up (up v2 16 (3 + k) (m1 D 13)) 0 46 0) 0 47 0) 0 48 0) 0 50 1) 0 51 1) := (((((((Fm.w1 (QLx_r (by first | decide | omega))).tr (x2.mono (fun b i z => Or.inl (Or.inl (Q7_k b i z))))).w (QLx_r (by first | decide | omega))).w (QLx_0 (by first | decide | omega))).w (QLx_0 (by first | decide | omega))).w (QLx_0 (by first | decide | omega))).w (QLx_0 (by first | decide | omega))).w (QLx_0 (by first | decide | omega))
      have gC : Fm (fun b i => b = 16 ∨ (b = 0 ∧ 46 ≤ i)) v2 (up (up (up (up (up (up v2 16 (3 + k) (m1 D 13)) 0 46 0) 0 47 0) 0 48 0) 0 50 1) 0 51 1) := ((((((Fm.w1 (by first | decide | omega)).w (by first | decide | omega)).w (by first | decide | omega)).w (by first | decide | omega)).w (by first | decide | omega)).w (by first | decide | omega))
      have b46 : up (up (up (up (up (up v2 16 (3 + k) (m1 D 13)) 0 46 0) 0 47 0) 0 48 0) 0 50 1) 0 51 1 0 46 = 0 := by rw [up_i (by first | decide | omega), up_i (by first | decide | omega), up_i (by first | decide | omega), up_i (by first | decide | omega), up_e]
      have b47 : up (up (up (up (up (up v2 16 (3 + k) (m1 D 13)) 0 46 0) 0 47 0) 0 48 0) 0 50 1) 0 51 1 0 47 = 0 := by rw [up_i (by first | decide | omega), up_i (by first | decide | omega), up_i (by first | decide | omega), up_e]
      have b48 : up (up (up (up (up (up v2 16 (3 + k) (m1 D 13)) 0 46 0) 0 47 0) 0 48 0) 0 50 1) 0 51 1 0 48 = 0 := by rw [up_i (by first | decide | omega), up_i (by first | decide | omega), up_e]
      have b49 : up (up (up (up (up (up v2 16 (3 + k) (m1 D 13)) 0 46 0) 0 47 0) 0 48 0) 0 50 1) 0 51 1 0 49 = v1 0 49 := by rw [up_i (by first | decide | omega), up_i (by first | decide | omega), up_i (by first | decide | omega), up_i (by first | decide | omega), up_i (by first | decide | omega), up_a (by first | decide | omega), x2 0 49 (by unfold Q7; first | decide | omega), up_a (by first | decide | omega)]
      have b50 : up (up (up (up (up (up v2 16 (3 + k) (m1 D 13)) 0 46 0) 0 47 0) 0 48 0) 0 50 1) 0 51 1 0 50 = 1 := by rw [up_i (by first | decide | omega), up_e]
      have b51 : up (up (up (up (up (up v2 16 (3 + k) (m1 D 13)) 0 46 0) 0 47 0) 0 48 0) 0 50 1) 0 51 1 0 51 = 1 := up_e
      have b16 : up (up (up (up (up (up v2 16 (3 + k) (m1 D 13)) 0 46 0) 0 47 0) 0 48 0) 0 50 1) 0 51 1 16 (3 + k) = m1 D 13 := by rw [up_a (by first | decide | omega), up_a (by first | decide | omega), up_a (by first | decide | omega), up_a (by first | decide | omega), up_a (by first | decide | omega), up_e]
      have b15 : up (up (up (up (up (up v2 16 (3 + k) (m1 D 13)) 0 46 0) 0 47 0) 0 48 0) 0 50 1) 0 51 1 15 (3 + k) = 1 := by rw [up_a (by first | decide | omega), up_a (by first | decide | omega), up_a (by first | decide | omega), up_a (by first | decide | omega), up_a (by first | decide | omega), up_a (by first | decide | omega), x2 15 _ (by unfold Q7; first | decide | omega), up_e]
      rw [F23]
      have pC : PreR mA (up (up (up (up (up (up v2 16 (3 + k) (m1 D 13)) 0 46 0) 0 47 0) 0 48 0) 0 50 1) 0 51 1) S := p2.f (P := fun _ _ => False) Fm.rf gC (fun b i _ => id) (by intro b i q; first | decide | omega)
      have b23 : up (up (up (up (up (up v2 16 (3 + k) (m1 D 13)) 0 46 0) 0 47 0) 0 48 0) 0 50 1) 0 51 1 0 23 = m1 D 13 := by rw [gC 0 23 (by first | decide | omega)]; exact F23
      generalize up (up (up (up (up (up v2 16 (3 + k) (m1 D 13)) 0 46 0) 0 47 0) 0 48 0) 0 50 1) 0 51 1 = vA at gB gC b46 b47 b48 b49 b50 b51 b16 b15 b23 pC ⊢
      have ha : aOk D (D + p) := by unfold aOk; omega
      have w13 : 0 ≤ m1 D 13 ∧ m1 D 13 ≤ 64 := by
        have z : sl 21 m1 D 0 13 = m1 D 13 := sl_e (Nat.zero_le _) _
        have hS := hD1.2.1.1
        unfold WS at hS
        omega
      have c49 : v1 0 49 = m1 D 13 := by rw [hD1.2.2.2.2.2.1]; exact sl_e (Nat.zero_le _) _
      have lA : LI mA vA D (D + p) (m1 D 13) [] 0 := by
        refine ⟨by rw [fA' 46 10 (by first | decide | omega)]; exact hD1.1.2, ⟨a2, b46, trivial, trivial, fun x z => by simp at z⟩, ⟨by rw [fA' (D + p) 1 (by first | decide | omega)]; exact told.2 c0, by rw [b23]; simp, b47, trivial, fun j z => by first | decide | omega, fun j z => by first | decide | omega⟩, ⟨a3, b48, by show (0 : Int) ≤ 8; first | decide | omega⟩, ⟨by rw [b49, fA' D 13 (by first | decide | omega)]; exact c49, by rw [fA' D 13 (by first | decide | omega)]; exact w13.2, ?_⟩, ⟨by rw [a4, b50], Or.inr b50⟩, ⟨by rw [a5, b51], Or.inr b51⟩, by rw [b50]; rfl⟩
        rw [fA' D 13 (by first | decide | omega)]
        show m1 D 13 + ((0 : Nat) : Int) + 0 = m1 D 13
        omega
      have hS7 : S ≤ 700 := h.1.1.2
      have e47 : mA 47 3 = m1 47 3 := fA' 47 3 (by first | decide | omega)
      obtain ⟨m2, v3, u1, u2, u3, kk⟩ := l_sumL ha w13.1 hS7 701 1024 0 mA vA [] 0 (by first | decide | omega) (by first | decide | omega) (by first | decide | omega) (by have := pC.2.2.2.2.1; first | decide | omega) pC lA
      have FX : Fm (PLx D p q) m1 m2 := fA.tr (u1.mono (fun b i z => Or.inl z))
      have GX : Fm (QLx (m1 D 13) k) v1 v3 := gB.tr (u2.mono (fun b i z => Or.inl z))
      have PX' : Fm (PX D) m1 m2 := FX.mono (PLx_X hDD hkp)
      have QX' : Fm QX v1 v3 := GX.mono (QLx_X w13.1 hk3.1)
      have e12 : m2 D 12 = m1 D 12 := FX D 12 (PLx_12 hDD hkp)
      clear hi hb told hkp' hN hN1
      rcases kk with ⟨r1, r2, r3, r4, r5, L, r6⟩ | ⟨r1, r2, r3⟩
      · rw [r1, r2, bs1, gdx_t (by first | decide | omega)]
        obtain ⟨t1, t2, ⟨s1, s2, s3, s4, s5, s6⟩, t4, t5, t6, t7, t8⟩ := r6
        clear t6 t7
        have hc0 : cNB ([] : List Int) = 0 := rfl
        have hc1 : cBN ([] : List Int) = 0 := rfl
        have p5 : PostR m2 (up v3 17 (3 + k) (m1 D 13 + L)) S := r3.f (P := fun _ _ => False) (Q := fun b i => b = 17) Fm.rf (Fm.w1 rfl) (fun b i _ => id) (by intro b i q; first | decide | omega)
        obtain ⟨v5, o1, o2, o3, _⟩ := n_stop1 p5 r4
        have G5 : Fm (QLx (m1 D 13) k) v1 v5 := (GX.w (v := m1 D 13 + L) (QLx_r (by first | decide | omega))).tr ((o2.mono Q7_k).mono (fun b i z => Or.inl (Or.inl z)))
        dsimp only
        rw [s2, o1]
        have w5 : ∀ (b : Nat) i, 1 ≤ b → ¬ (b = 17 ∧ i = 3 + k) → v5 b i = v3 b i := fun b i z1 z2 => by
          rw [o2 b i (by unfold Q7; first | decide | omega)]
          by_cases z3 : b = 17
          · rw [z3, up_i (fun z4 => z2 ⟨z3, z4⟩)]
          · rw [up_a z3]
        have w50 : ∀ i, (i < 7 ∨ 10 < i) → v5 0 i = v3 0 i := fun i z => by rw [o2 0 i (by unfold Q7; first | decide | omega), up_a (by first | decide | omega)]
        have eqp : D + p + 1 = D + q := by omega
        rw [eqp] at s5 s6 t8
        have hDn : DI m2 v5 D := by
          refine di_law (k := k) (F := m1 D 13) (p := p) (q := q) (L := L) hD1 hkp rfl FX G5 ⟨by rw [u1 (D + p) 2 (PLw_t hDD hkp)]; exact aT, s1⟩ ⟨?_, ?_, ?_⟩ (by rw [w50 23 (by first | decide | omega)]; exact s2) ⟨by first | decide | omega, by first | decide | omega⟩ (by rw [w50 49 (by first | decide | omega)]; exact t5.1) (by first | decide | omega) s5 (fun j z => ?_)
          · rw [w5 15 _ (by decide) (fun z => absurd z.1 (by decide)), u2 15 _ (QLw_r (by decide) _)]; exact b15
          · rw [w5 16 _ (by decide) (fun z => absurd z.1 (by decide)), u2 16 _ (QLw_r (by decide) _)]; exact b16
          · rw [o2 17 _ (fun z => absurd z.1 (by decide)), up_e]
          · refine (s6 j z).c (fun _ _ => rfl) ?_ ?_ ?_
            · exact (sh18 (v := v5) (b := 18) (by first | decide | omega) _).trans ((w5 18 _ (by first | decide | omega) (by first | decide | omega)).trans (sh18 (v := v3) (b := 18) (by first | decide | omega) _).symm)
            · exact (sh18 (v := v5) (b := 19) (by first | decide | omega) _).trans ((w5 19 _ (by first | decide | omega) (by first | decide | omega)).trans (sh18 (v := v3) (b := 19) (by first | decide | omega) _).symm)
            · exact (sh18 (v := v5) (b := 20) (by first | decide | omega) _).trans ((w5 20 _ (by first | decide | omega) (by first | decide | omega)).trans (sh18 (v := v3) (b := 20) (by first | decide | omega) _).symm)
        exact ⟨m2, v5, PX', (QX'.w (v := m1 D 13 + L) (by unfold QX; first | decide | omega)).tr ((o2.mono Q7_k).mono Qk_x), by first | decide | omega, Or.inl ⟨rfl, rfl, hDn, o3, e12⟩⟩
      · rw [r1, r2, bs1, gdx_t (by first | decide | omega)]
        dsimp only
        rw [r197]
        refine lo_fltx ⟨m2, _, PX', QX'.w (by unfold QX; first | decide | omega), by first | decide | omega, rfl, rfl, ?_⟩
        unfold FLT
        rw [up_a (by first | decide | omega), up_a (by first | decide | omega)]
        exact r3
    · rw [if_neg c0, if_neg c0, c_ref, bs1, bs1]
      simp only [if_true]
      rw [r_wrong, bs1, gdb_t (by first | decide | omega), gdx_t (by first | decide | omega)]
      exact lo_ref h1 3 rfl rfl
  · have hX : (if m1 47 4 - 12 < 0 then G5_readKind_27 m1 else gd3 (m1 47 4 - 12) (if m1 47 4 - 12 < 3 then (gdx (m1 47 4 - 12) 3 (if m1 ((m1 46 10).toNat + 16 + 2 * (m1 47 4 - 12).toNat) 2 = 0 then (gdx (m1 47 4 - 12) 3 (wt (up m1 ((m1 46 10).toNat + 16 + 2 * (m1 47 4 - 12).toNat) 2 1) fun m26 => gdx (m1 47 4 - 12) 3 (some ((((m26 46 10).toNat + 16 + 2 * (m1 47 4 - 12).toNat : Nat) : Int), m26)))) else ((G5_refuse m1 3).bind fun o34 => some (-1, o34.2)))) else G5_readKind_27 m1)) = some (-1, up (up m1 46 8 1) 46 9 (m1 47 5)) := by
      by_cases a : m1 47 4 - 12 < 0
      · rw [if_pos a, e27]
      · rw [if_neg a, gd3_t (by first | decide | omega), if_neg (by first | decide | omega), e27]
    rw [hX, bs1]
    simp only [if_true]
    refine lo_ref h1 1 rfl ?_
    by_cases a : v1 0 8 = 1
    · by_cases b : v1 0 9 < 12
      · rw [if_pos a, if_pos b, e130]
      · rw [if_pos a, if_neg b, if_neg (by first | decide | omega), e130]
    · rw [if_neg a, e130]
end Q38
