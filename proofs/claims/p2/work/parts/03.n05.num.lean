/-! Numbers by bits: what is drawn, shifted, cut. -/
theorem bv_nn {n : Nat} (x : BitVec (n + 1)) (h : x.toNat < 2 ^ n) : x.toInt = (x.toNat : Int) := by
  rw [BitVec.toInt_eq_toNat_cond, if_pos]
  rw [Nat.pow_succ]; omega
theorem z6_bv {X : Int} (h : 0 ≤ X ∧ X < 9223372036854775808) : (Z6 X).toBitVec.toNat = X.toNat := by
  have e : (Z6 X).toBitVec = BitVec.ofInt 64 X := rfl
  rw [e, BitVec.toNat_ofInt]
  have : X % ((2 ^ 64 : Nat) : Int) = X := Int.emod_eq_of_lt h.1 (by have := h.2; omega)
  rw [this]
theorem b6an_m {X : Int} (h : 0 ≤ X ∧ X < 9223372036854775808) : b6an X 2147483647 = X % 2147483648 := by
  unfold b6an
  have e1 : (Z6 X &&& Z6 2147483647).toBitVec.toNat = X.toNat % 2 ^ 31 := by
    rw [Int64.toBitVec_and, BitVec.toNat_and, z6_bv h, z6_bv (by omega)]
    exact Nat.and_two_pow_sub_one_eq_mod _ 31
  have e2 : (Z6 X &&& Z6 2147483647).toInt = ((Z6 X &&& Z6 2147483647).toBitVec.toNat : Int) := by
    refine bv_nn (n := 63) _ ?_
    rw [e1]
    have := Nat.mod_lt X.toNat (show 2 ^ 31 > 0 by decide)
    omega
  rw [e2, e1]
  omega
theorem b3sr_d {A : Int} (ha : r3 A) {S : Int} {k : Nat} (hk : (Z3 S).toBitVec.smod 32 = BitVec.ofNat 32 k) (hk2 : k < 32) : b3sr A S = A / (2 ^ k : Nat) := by
  unfold b3sr
  have e : (Z3 A >>> Z3 S).toBitVec = (Z3 A).toBitVec.sshiftRight k := by
    show BitVec.sshiftRight' (Z3 A).toBitVec ((Z3 S).toBitVec.smod 32) = _
    rw [hk, BitVec.sshiftRight_eq']
    congr 1
    rw [BitVec.toNat_ofNat]
    omega
  show ((Z3 A >>> Z3 S).toBitVec).toInt = _
  rw [e, BitVec.toInt_sshiftRight, Int.shiftRight_eq_div_pow]
  have : (Z3 A).toBitVec.toInt = A := z3_to ha
  rw [this]
def nxt (x : Int) : Int := (x * 1103515245 + 12345) % 2147483648
def hun (y : Int) : Int := y / 65536 % 100
theorem nxt_b (x : Int) : 0 ≤ nxt x ∧ nxt x < 2147483648 := by unfold nxt; omega
theorem hun_b {y : Int} : 0 ≤ hun y ∧ hun y < 100 := by unfold hun; omega
theorem g_draw {m : Mem} {a : Nat} (h : 0 ≤ m a 2 ∧ m a 2 < 2147483648) : G4_drawHundredth m a = some (hun (nxt (m a 2)), up m a 2 (nxt (m a 2))) := by
  unfold G4_drawHundredth G4_drawHundredth_0
  have e1 : b6an (m a 2 * 1103515245 + 12345) 2147483647 = nxt (m a 2) := b6an_m (by omega)
  have hb := nxt_b (m a 2)
  have e2 : b3an 16 31 = 16 := by decide
  rw [e1, gd3_t (by omega), wt_e, up_e, e2]
  have e3 : b3sr (nxt (m a 2)) 16 = nxt (m a 2) / 65536 := b3sr_d (k := 16) ⟨by omega, by omega⟩ (by decide) (by decide)
  rw [e3, gdd_t (by omega)]
  rfl
