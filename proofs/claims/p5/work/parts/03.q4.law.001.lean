section Q38
variable {m v : Mem} {S : Int} {D : Nat}
theorem di_law {m0 v0 : Mem} {k F : Int} {p q L : Nat} (hD : DI m0 v0 D) (hk : LCP k p q) (hF : F = m0 D 13) (f : Fm (PLx D p q) m0 m) (g : Fm (QLx F k) v0 v) (h0 : m (D + p) 2 = 1 ∧ m (D + p) 1 = L) (h1 : v 15 (3 + k) = 1 ∧ v 16 (3 + k) = F ∧ v 17 (3 + k) = F + L) (h23 : v 0 23 = F + L) (h13 : m D 13 = F + L ∧ F + L ≤ 64) (h49 : v 0 49 = m D 13) (hi : (ist (m (D + q)) L).length = 1) (hkv : ∀ j : Nat, j < L → KV (m (D + q)) j) (hnd : ∀ j : Nat, j < L → NodeR (m (D + q)) (kd v) F j) : DI m v D := by
  have hN := hD.n
  obtain ⟨g1, ⟨hS, hC, hT, hV, hX⟩, ⟨⟨a1, a2, a3, a4, a5, a6⟩, b, c, d, e, r1, r2, r3⟩, q4, q5, q6, q7⟩ := hD
  have hDD := g1.1
  have hL0 : 0 < L := by
    apply Nat.pos_of_ne_zero
    intro z
    rw [z] at hi
    simp [ist] at hi
  have hF0 : 0 ≤ F ∧ F ≤ 64 := by
    have z : sl 21 m0 D 0 13 = m0 D 13 := sl_e (Nat.zero_le _) _
    unfold WS at hS
    omega
  have e0 : ∀ i, i ≠ 13 → sl 21 m D 0 i = sl 21 m0 D 0 i := fun i z => by rw [sl_e (Nat.zero_le _), sl_e (Nat.zero_le _)]; exact f D i (by unfold PLx PLw Pk; unfold LCP at hk; first | decide | omega)
  have e13 : sl 21 m D 0 13 = F + L := by rw [sl_e (Nat.zero_le _)]; exact h13.1
  have eo : ∀ c : Nat, 1 ≤ c → c ≠ p → c ≠ q → sl 21 m D c = sl 21 m0 D c := fun c z0 z1 z2 => by
    funext i
    by_cases c21 : c ≤ 21
    · rw [sl_e c21, sl_e c21]; exact f (D + c) i (by unfold PLx PLw Pk; unfold LCP at hk; first | decide | omega)
    · unfold sl; rw [if_neg c21, if_neg c21]
  have k0 : ∀ i, i + 6 ≠ 23 → ¬ (46 ≤ i + 6 ∧ i + 6 ≤ 51) → ¬ Qk 0 (i + 6) → kd v 0 i = kd v0 0 i := fun i z1 z2 z3 => by
    show v 0 (i + 6) = v0 0 (i + 6)
    exact g 0 _ (by unfold QLx QLw; rintro ((z | z | z | z | z) | z); exact z3 z; omega; omega; omega; omega; first | decide | omega)
  have kq : ∀ c : Nat, 1 ≤ c → c ≤ 14 → kd v c = kd v0 c := fun c z0 z1 => funext fun i => g c _ (by unfold QLx QLw Qk; first | decide | omega)
  have hX' : ∀ (c : Int) (x y : Nat), LCP c x y → LX (sl 21 m D y) (sl 21 m D x 1) := by
    intro c x y hc
    by_cases z : c = k
    · have e1 : x = p ∧ y = q := by unfold LCP at hc hk; omega
      rw [e1.1, e1.2]
      have s1 : sl 21 m D p 1 = L := by rw [sl_e (by unfold LCP at hk; first | decide | omega)]; exact h0.2
      have s2 : sl 21 m D q = m (D + q) := funext fun i => sl_e (by unfold LCP at hk; first | decide | omega) i
      rw [s1, s2]
      refine ⟨by first | decide | omega, fun j z => hkv j (by first | decide | omega), fun _ => ?_⟩
      rw [Int.toNat_natCast]; exact hi
    · rw [eo y (by unfold LCP at hc; first | decide | omega) (by unfold LCP at hc hk; first | decide | omega) (by unfold LCP at hc hk; first | decide | omega), eo x (by unfold LCP at hc; first | decide | omega) (by unfold LCP at hc hk; first | decide | omega) (by unfold LCP at hc hk; first | decide | omega)]
      obtain ⟨x1, x2, x3⟩ := hX
      unfold LCP at hc
      rcases hc with ⟨_, e1, e2⟩ | ⟨_, e1, e2⟩ | ⟨_, e1, e2⟩ <;> rw [e1, e2] <;> assumption
  have hR : ∀ (c : Int) (x y : Nat), LCP c x y → RLw (kd v0) (sl 21 m0 D) c x y → RLw (kd v) (sl 21 m D) c x y := by
    intro c x y hc hr
    by_cases z : c = k
    · have e1 : x = p ∧ y = q := by unfold LCP at hc hk; omega
      rw [e1.1, e1.2, z]
      have s1 : sl 21 m D p 1 = L := by rw [sl_e (by unfold LCP at hk; first | decide | omega)]; exact h0.2
      have s3 : sl 21 m D p 2 = 1 := by rw [sl_e (by unfold LCP at hk; first | decide | omega)]; exact h0.1
      have s2 : sl 21 m D q = m (D + q) := funext fun i => sl_e (by unfold LCP at hk; first | decide | omega) i
      unfold RLw
      rw [s1, s2, s3, sh15 (by first | decide | omega), sh15 (by first | decide | omega), sh15 (by first | decide | omega), h1.1, h1.2.1, h1.2.2]
      exact ⟨rfl, Or.inr rfl, fun z => by first | decide | omega, fun _ => ⟨by first | decide | omega, by first | decide | omega, rfl, by first | decide | omega, fun j z => hnd j (by first | decide | omega)⟩⟩
    · have ey : sl 21 m D y = sl 21 m0 D y := eo y (by unfold LCP at hc; first | decide | omega) (by unfold LCP at hc hk; first | decide | omega) (by unfold LCP at hc hk; first | decide | omega)
      have ex : sl 21 m D x = sl 21 m0 D x := eo x (by unfold LCP at hc; first | decide | omega) (by unfold LCP at hc hk; first | decide | omega) (by unfold LCP at hc hk; first | decide | omega)
      have kc : ∀ b : Nat, 15 ≤ b → b ≤ 17 → kd v b c = kd v0 b c := fun b z1 z2 => by
        rw [sh15 ⟨z1, z2⟩, sh15 ⟨z1, z2⟩]
        exact g b _ (by unfold QLx QLw Qk; first | decide | omega)
      obtain ⟨t1, t2, t3, t4⟩ := hr
      unfold RLw
      rw [ex, ey, kc 15 (by first | decide | omega) (by first | decide | omega), kc 16 (by first | decide | omega) (by first | decide | omega), kc 17 (by first | decide | omega) (by first | decide | omega)]
      refine ⟨t1, t2, t3, fun q1 => ?_⟩
      obtain ⟨u1, u2, u3, u4, u5⟩ := t4 q1
      have hb : kd v0 17 c ≤ F := by
        have t15 : kd v0 15 c = v0 15 (3 + c) := sh15 (by first | decide | omega) c
        have t17 : kd v0 17 c = v0 17 (3 + c) := sh15 (by first | decide | omega) c
        have z3 := q7 (3 + c) (by unfold LCP at hc; first | decide | omega) (by unfold LCP at hc; first | decide | omega) (by rw [← t15, t1, q1])
        have z4 : v0 0 23 = m0 D 13 := hN.2.2.2.2.2
        omega
      refine ⟨u1, u2, u3, u4, fun j z1 => (u5 j z1).c (fun _ _ => rfl) ?_ ?_ ?_⟩
      · exact (sh18 (v := v) (b := 18) (by first | decide | omega) _).trans ((g 18 _ (by unfold QLx QLw Qk; first | decide | omega)).trans (sh18 (v := v0) (b := 18) (by first | decide | omega) _).symm)
      · exact (sh18 (v := v) (b := 19) (by first | decide | omega) _).trans ((g 19 _ (by unfold QLx QLw Qk; first | decide | omega)).trans (sh18 (v := v0) (b := 19) (by first | decide | omega) _).symm)
      · exact (sh18 (v := v) (b := 20) (by first | decide | omega) _).trans ((g 20 _ (by unfold QLx QLw Qk; first | decide | omega)).trans (sh18 (v := v0) (b := 20) (by first | decide | omega) _).symm)
  have hp16 : 16 ≤ p ∧ 16 ≤ q := by unfold LCP at hk; omega
  refine ⟨⟨hDD, by rw [f 46 10 (by unfold PLx PLw Pk; unfold LCP at hk; first | decide | omega)]; exact g1.2⟩, ⟨?_, ?_, ?_, ?_, hX' 0 16 17 (by unfold LCP; first | decide | omega), hX' 1 18 19 (by unfold LCP; first | decide | omega), hX' 2 20 21 (by unfold LCP; first | decide | omega)⟩, ⟨⟨?_, ?_, ?_, ?_, ?_, ?_⟩, ?_, ?_, ?_, ?_, hR 0 16 17 (by unfold LCP; first | decide | omega) r1, hR 1 18 19 (by unfold LCP; first | decide | omega) r2, hR 2 20 21 (by unfold LCP; first | decide | omega) r3⟩, ⟨?_, ?_, ?_⟩, ?_, ?_, ?_⟩
  · unfold WS at hS ⊢
    rw [e0 0 (by first | decide | omega), e0 1 (by first | decide | omega), e0 2 (by first | decide | omega), e0 3 (by first | decide | omega), e0 6 (by first | decide | omega), e0 7 (by first | decide | omega), e0 8 (by first | decide | omega), e0 9 (by first | decide | omega), e0 10 (by first | decide | omega), e13, eo 1 (by first | decide | omega) (by first | decide | omega) (by first | decide | omega), eo 8 (by first | decide | omega) (by first | decide | omega) (by first | decide | omega)]
    omega
  · unfold WC
    rw [e0 0 (by first | decide | omega), e0 1 (by first | decide | omega), eo 1 (by first | decide | omega) (by first | decide | omega) (by first | decide | omega), eo 3 (by first | decide | omega) (by first | decide | omega) (by first | decide | omega), eo 4 (by first | decide | omega) (by first | decide | omega) (by first | decide | omega), eo 5 (by first | decide | omega) (by first | decide | omega) (by first | decide | omega), eo 6 (by first | decide | omega) (by first | decide | omega) (by first | decide | omega), eo 7 (by first | decide | omega) (by first | decide | omega) (by first | decide | omega)]
    exact hC
  · unfold WT
    rw [eo 8 (by first | decide | omega) (by first | decide | omega) (by first | decide | omega), eo 9 (by first | decide | omega) (by first | decide | omega) (by first | decide | omega), eo 10 (by first | decide | omega) (by first | decide | omega) (by first | decide | omega)]; exact hT
  · unfold WV
    rw [eo 8 (by first | decide | omega) (by first | decide | omega) (by first | decide | omega), eo 9 (by first | decide | omega) (by first | decide | omega) (by first | decide | omega), eo 10 (by first | decide | omega) (by first | decide | omega) (by first | decide | omega), eo 11 (by first | decide | omega) (by first | decide | omega) (by first | decide | omega), eo 12 (by first | decide | omega) (by first | decide | omega) (by first | decide | omega), eo 13 (by first | decide | omega) (by first | decide | omega) (by first | decide | omega), eo 14 (by first | decide | omega) (by first | decide | omega) (by first | decide | omega)]; exact hV
  · rw [k0 12 (by first | decide | omega) (by first | decide | omega) (by unfold Qk; first | decide | omega), e0 0 (by first | decide | omega)]; exact a1
  · rw [k0 13 (by first | decide | omega) (by first | decide | omega) (by unfold Qk; first | decide | omega), e0 1 (by first | decide | omega)]; exact a2
  · rw [k0 14 (by first | decide | omega) (by first | decide | omega) (by unfold Qk; first | decide | omega), eo 1 (by first | decide | omega) (by first | decide | omega) (by first | decide | omega)]; exact a3
  · rw [k0 15 (by first | decide | omega) (by first | decide | omega) (by unfold Qk; first | decide | omega), eo 8 (by first | decide | omega) (by first | decide | omega) (by first | decide | omega)]; exact a4
  · rw [k0 16 (by first | decide | omega) (by first | decide | omega) (by unfold Qk; first | decide | omega), eo 8 (by first | decide | omega) (by first | decide | omega) (by first | decide | omega)]; exact a5
  · rw [e13]; exact h23
  · rw [kq 4 (by first | decide | omega) (by first | decide | omega), e0 2 (by first | decide | omega), e0 3 (by first | decide | omega), e0 6 (by first | decide | omega), e0 7 (by first | decide | omega), e0 8 (by first | decide | omega), e0 9 (by first | decide | omega), e0 10 (by first | decide | omega)]; exact b
  · rw [kq 5 (by first | decide | omega) (by first | decide | omega), kq 6 (by first | decide | omega) (by first | decide | omega), kq 7 (by first | decide | omega) (by first | decide | omega), kq 8 (by first | decide | omega) (by first | decide | omega), kq 9 (by first | decide | omega) (by first | decide | omega), kq 10 (by first | decide | omega) (by first | decide | omega), eo 1 (by first | decide | omega) (by first | decide | omega) (by first | decide | omega), eo 2 (by first | decide | omega) (by first | decide | omega) (by first | decide | omega), eo 3 (by first | decide | omega) (by first | decide | omega) (by first | decide | omega), eo 4 (by first | decide | omega) (by first | decide | omega) (by first | decide | omega), eo 5 (by first | decide | omega) (by first | decide | omega) (by first | decide | omega), eo 6 (by first | decide | omega) (by first | decide | omega) (by first | decide | omega), eo 7 (by first | decide | omega) (by first | decide | omega) (by first | decide | omega)]; exact c
  · rw [kq 11 (by first | decide | omega) (by first | decide | omega), eo 8 (by first | decide | omega) (by first | decide | omega) (by first | decide | omega), eo 9 (by first | decide | omega) (by first | decide | omega) (by first | decide | omega)]; exact d
  · rw [kq 12 (by first | decide | omega) (by first | decide | omega), kq 13 (by first | decide | omega) (by first | decide | omega), kq 14 (by first | decide | omega) (by first | decide | omega), eo 8 (by first | decide | omega) (by first | decide | omega) (by first | decide | omega), eo 11 (by first | decide | omega) (by first | decide | omega) (by first | decide | omega), eo 12 (by first | decide | omega) (by first | decide | omega) (by first | decide | omega), eo 13 (by first | decide | omega) (by first | decide | omega) (by first | decide | omega)]; exact e
  · rw [f 46 7 (by unfold PLx PLw Pk; unfold LCP at hk; first | decide | omega)]; exact q4.1
  · rw [f 46 7 (by unfold PLx PLw Pk; unfold LCP at hk; first | decide | omega), g 0 24 (by unfold QLx QLw Qk; first | decide | omega)]; exact q4.2.1
  · rw [f 46 7 (by unfold PLx PLw Pk; unfold LCP at hk; first | decide | omega), e0 2 (by first | decide | omega), e0 3 (by first | decide | omega), eo 1 (by first | decide | omega) (by first | decide | omega) (by first | decide | omega)]; exact q4.2.2
  · unfold ONC
    rw [f 46 6 (by unfold PLx PLw Pk; unfold LCP at hk; first | decide | omega), g.rw1 (b := 3) (fun i => by unfold QLx QLw Qk; first | decide | omega)]; exact q5
  · rw [h49, e13]; exact h13.1
  · intro c z1 z2 z3
    rw [h23]
    by_cases z : c = 3 + k
    · rw [z, h1.2.2]; omega
    · rw [g 15 c (by unfold QLx QLw Qk; first | decide | omega)] at z3
      rw [g 17 c (by unfold QLx QLw Qk; first | decide | omega)]
      have := q7 c z1 z2 z3
      have z4 : v0 0 23 = m0 D 13 := hN.2.2.2.2.2
      omega
end Q38
