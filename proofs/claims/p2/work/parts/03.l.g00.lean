/-! What the pure functions do, over a memory of integers (written by wip/gen/gx.py). -/
def G0_isRest_66 (kk26 : Mem → Int → Int → Int → Option (Int × Mem)) (m : Mem) (x1 : Int) (x2 : Int) (x3 : Int) : Option (Int × Mem) := gdx (5 + x3) 10 (if (m 100 (5 + x3)) = (-1) then (gd3 (x3 + 1) (kk26 m x1 x2 (x3 + 1))) else (gdx ((x1 * 5) + x3) 25 (gdx ((x1 * 5) + x2) 25 (if (m 104 ((x1 * 5) + x3)) ≤ (m 104 ((x1 * 5) + x2)) then (gd3 (x3 + 1) (kk26 m x1 x2 (x3 + 1))) else (some (0, m))))))
def G0_isRest_26 : Nat → Mem → Int → Int → Int → Option (Int × Mem)
  | 0, _, _, _, _ => none
  | n + 1, m, x1, x2, x3 => if 5 ≤ x3 then (some (1, m)) else (gdx x3 10 (if (m 100 x3) = (-1) then (G0_isRest_66 (fun m x1 x2 x3 => G0_isRest_26 n m x1 x2 x3) m x1 x2 x3) else (gdx ((x3 * 5) + x2) 25 (gdx ((x1 * 5) + x2) 25 (if (m 103 ((x3 * 5) + x2)) ≤ (m 103 ((x1 * 5) + x2)) then (G0_isRest_66 (fun m x1 x2 x3 => G0_isRest_26 n m x1 x2 x3) m x1 x2 x3) else (some (0, m)))))))
def G0_isRest_0 (m : Mem) (x1 : Int) (x2 : Int) : Option (Int × Mem) := gdx x1 10 (if (m 100 x1) = (-1) then (some (0, m)) else (gdx (5 + x2) 10 (if (m 100 (5 + x2)) = (-1) then (some (0, m)) else (G0_isRest_26 1024 m x1 x2 0))))
def G0_isRest (m : Mem) (x1 : Int) (x2 : Int) : Option (Int × Mem) := G0_isRest_0 m x1 x2
def G0_findRests_14 (kk7 : Mem → Int → Option Mem) : Nat → Mem → Int → Int → Option Mem
  | 0, _, _, _ => none
  | n + 1, m, x1, x2 => if 5 ≤ x2 then (gd3 (x1 + 1) (kk7 m (x1 + 1))) else ((G0_isRest m x1 x2).bind fun o2 => if o2.1 = 0 then (gd3 (x2 + 1) (G0_findRests_14 kk7 n o2.2 x1 (x2 + 1))) else (gdx x1 5 (gdx x2 5 (gdx (o2.2 99 6) 25 (gd3 ((10 * (gw x1)) + (gw x2)) (wt (up o2.2 105 (o2.2 99 6) ((10 * (gw x1)) + (gw x2))) fun m18 => gd3 ((m18 99 6) + 1) (wt (up m18 99 6 ((m18 99 6) + 1)) fun m21 => gd3 (x2 + 1) (G0_findRests_14 kk7 n m21 x1 (x2 + 1)))))))))
def G0_findRests_7 : Nat → Mem → Int → Option Mem
  | 0, _, _ => none
  | n + 1, m, x1 => if 5 ≤ x1 then (some m) else (G0_findRests_14 (fun m x1 => G0_findRests_7 n m x1) 1024 m x1 0)
def G0_findRests_0 (m : Mem) : Option Mem := wt (up m 99 6 0) fun m1 => G0_findRests_7 1024 m1 0
def G0_findRests (m : Mem) : Option Mem := G0_findRests_0 m
def G0_listPlan_10 : Nat → Mem → Int → Int → Int → Option Mem
  | 0, _, _, _, _ => none
  | n + 1, m, x2, x3, x4 => if x2 ≤ x4 then (some m) else (if x4 < x3 then (gd3 (x4 + 1) (G0_listPlan_10 n m x2 x3 (x4 + 1))) else (gdx x4 28 (if (m 108 x4) = 0 then (gd3 (x4 + 1) (G0_listPlan_10 n m x2 x3 (x4 + 1))) else (gdx (m 99 11) 28 (wt (up m 109 (m 99 11) x4) fun m13 => gd3 ((m13 99 11) + 1) (wt (up m13 99 11 ((m13 99 11) + 1)) fun m16 => gdx x4 28 (gd3 (x4 + 1) (G0_listPlan_10 n m16 x2 (m16 107 x4) (x4 + 1)))))))))
def G0_listPlan_0 (m : Mem) (x1 : Int) (x2 : Int) : Option Mem := wt (up m 99 11 0) fun m1 => G0_listPlan_10 1024 m1 x2 x1 x1
def G0_listPlan (m : Mem) (x1 : Int) (x2 : Int) : Option Mem := G0_listPlan_0 m x1 x2
def G10_firstFrom_2 : Nat → Mem → Nat → Int → Int → Option (Int × Mem)
  | 0, _, _, _, _ => none
  | n + 1, m, a0, x1, x2 => if (m a0 1) ≤ x2 then (some ((m a0 1), m)) else (gdx x2 28 (if (m (a0 + 3) x2) < x1 then (gd3 (x2 + 1) (G10_firstFrom_2 n m a0 x1 (x2 + 1))) else (some (x2, m))))
def G10_firstFrom_0 (m : Mem) (a0 : Nat) (x1 : Int) : Option (Int × Mem) := G10_firstFrom_2 1024 m a0 x1 0
def G10_firstFrom (m : Mem) (a0 : Nat) (x1 : Int) : Option (Int × Mem) := G10_firstFrom_0 m a0 x1
def G6_nameAway_0 (m : Mem) (a0 : Nat) (x1 : Int) (x2 : Int) : Option Mem := wt (up m (a0 + 4) 0 0) fun m4 => wt (up m4 (a0 + 4) 1 0) fun m8 => gdx x1 5 (wt (up m8 (a0 + 4) 2 (m8 (a0 + 1) x1)) fun m16 => gdx x2 28 (wt (up m16 (a0 + 4) 3 (m16 ((m16 a0 0).toNat + 12) x2)) fun m28 => gdx x2 28 (wt (up m28 (a0 + 4) 4 (m28 ((m28 a0 0).toNat + 11) x2)) fun m40 => gdx x2 28 (wt (up m40 (a0 + 4) 5 (m40 ((m40 a0 0).toNat + 14) x2)) fun m52 => some m52))))
def G6_nameAway (m : Mem) (a0 : Nat) (x1 : Int) (x2 : Int) : Option Mem := G6_nameAway_0 m a0 x1 x2
def G2_oneIf_0 (m : Mem) (x0 : Int) : Option (Int × Mem) := if x0 = 0 then (some (0, m)) else (some (1, m))
def G2_oneIf (m : Mem) (x0 : Int) : Option (Int × Mem) := G2_oneIf_0 m x0
def G2_product_26 (m : Mem) (j0 : Int) (j2 : Int) (j4 : Int) (t0 : Int) : Option (Int × Mem) := if t0 ≤ 0 then (gd6 (j0 * j2) (some ((j0 * j2), m))) else (if t0 = 0 then (none) else (gd6 (Int.tdiv 1000000000000 t0) (if j4 ≤ (Int.tdiv 1000000000000 t0) then (gd6 (j0 * j2) (some ((j0 * j2), m))) else (some ((-9223372036854775808), m)))))
def G2_product_12 (m : Mem) (j0 : Int) (j2 : Int) (t0 : Int) : Option (Int × Mem) := if 0 ≤ j2 then (G2_product_26 m j0 j2 t0 j2) else (gd6 (-j2) (G2_product_26 m j0 j2 t0 (-j2)))
def G2_product_0 (m : Mem) (j0 : Int) (j2 : Int) : Option (Int × Mem) := if 0 ≤ j0 then (G2_product_12 m j0 j2 j0) else (gd6 (-j0) (G2_product_12 m j0 j2 (-j0)))
def G2_product (m : Mem) (j0 : Int) (j2 : Int) : Option (Int × Mem) := G2_product_0 m j0 j2
def G2_join_134 (m : Mem) (s0 : Int) : Option (Int × Mem) := (G2_oneIf m s0).bind fun o1 => some (o1.1, o1.2)
def G2_join_133 (m : Mem) : Option (Int × Mem) := G2_join_134 m 0
def G2_join_113 (m : Mem) (s0 : Int) : Option (Int × Mem) := (G2_oneIf m s0).bind fun o1 => some (o1.1, o1.2)
def G2_join_108 (m : Mem) : Option (Int × Mem) := G2_join_113 m 1
def G2_join_149 (m : Mem) (s0 : Int) : Option (Int × Mem) := (G2_oneIf m s0).bind fun o1 => some (o1.1, o1.2)
def G2_join_164 (m : Mem) (s0 : Int) : Option (Int × Mem) := (G2_oneIf m s0).bind fun o1 => some (o1.1, o1.2)
def G2_join_179 (m : Mem) (s0 : Int) : Option (Int × Mem) := (G2_oneIf m s0).bind fun o1 => some (o1.1, o1.2)
def G2_join_194 (m : Mem) (s0 : Int) : Option (Int × Mem) := (G2_oneIf m s0).bind fun o1 => some (o1.1, o1.2)
def G2_join_209 (m : Mem) (s0 : Int) : Option (Int × Mem) := (G2_oneIf m s0).bind fun o1 => some (o1.1, o1.2)
def G2_join_224 (m : Mem) (s0 : Int) : Option (Int × Mem) := (G2_oneIf m s0).bind fun o1 => some (o1.1, o1.2)
def G2_join_0 (m : Mem) (x0 : Int) (j1 : Int) (j3 : Int) : Option (Int × Mem) := if x0 = 16 then (if j1 = 0 then (G2_join_133 m) else (if j3 = 0 then (G2_join_133 m) else (G2_join_134 m 1))) else (if x0 = 17 then (if j1 = 0 then (if j3 = 0 then (G2_join_113 m 0) else (G2_join_108 m)) else (G2_join_108 m)) else (if x0 = 26 then (if j3 ≤ j1 then (G2_join_149 m 0) else (G2_join_149 m 1)) else (if x0 = 27 then (if j3 < j1 then (G2_join_164 m 0) else (G2_join_164 m 1)) else (if x0 = 28 then (if j1 = j3 then (G2_join_179 m 1) else (G2_join_179 m 0)) else (if x0 = 29 then (if j1 = j3 then (G2_join_194 m 0) else (G2_join_194 m 1)) else (if x0 = 30 then (if j1 < j3 then (G2_join_209 m 0) else (G2_join_209 m 1)) else (if x0 = 31 then (if j1 ≤ j3 then (G2_join_224 m 0) else (G2_join_224 m 1)) else (if x0 = 32 then (gd6 (j1 + j3) (some ((j1 + j3), m))) else (if x0 = 33 then (gd6 (j1 - j3) (some ((j1 - j3), m))) else (if x0 = 34 then ((G2_product m j1 j3).bind fun o22 => some (o22.1, o22.2)) else (if x0 = 35 then (if j3 = 0 then (some ((-9223372036854775808), m)) else (if j3 = 0 then (none) else (gd6 (Int.tdiv j1 j3) (some ((Int.tdiv j1 j3), m))))) else (some ((-9223372036854775808), m)))))))))))))
def G2_join (m : Mem) (x0 : Int) (j1 : Int) (j3 : Int) : Option (Int × Mem) := G2_join_0 m x0 j1 j3
def G2_valueFor_177 (m : Mem) (a2 : Nat) (x3 : Int) : Option (Int × Mem) := if x3 = 1 then (some ((m a2 0), m)) else (some ((-9223372036854775808), m))
def G2_valueFor_119 (kk5 : Mem → Nat → Nat → Nat → Int → Int → Option (Int × Mem)) (m : Mem) (a0 : Nat) (a1 : Nat) (a2 : Nat) (x3 : Int) (x4 : Int) (x5 : Int) : Option (Int × Mem) := if x3 ≤ 1 then (gd3 (x4 + 1) (kk5 m a0 a1 a2 x3 (x4 + 1))) else (gdx ((x3 + (-1)) - 1) 64 (gdx (x3 + (-1)) 64 ((G2_join m x5 (m a2 ((x3 + (-1)) - 1)) (m a2 (x3 + (-1)))).bind fun o6 => if 1000000000000 < o6.1 then (some ((-9223372036854775808), o6.2)) else (if (-1000000000000) ≤ o6.1 then (gdx ((x3 + (-1)) - 1) 64 (wt (up o6.2 a2 ((x3 + (-1)) - 1) o6.1) fun m11 => gd3 (x3 + (-1)) (gd3 (x4 + 1) (kk5 m11 a0 a1 a2 (x3 + (-1)) (x4 + 1))))) else (some ((-9223372036854775808), o6.2))))))
def G2_valueFor_115 (kk5 : Mem → Nat → Nat → Nat → Int → Int → Option (Int × Mem)) (m : Mem) (a0 : Nat) (a1 : Nat) (a2 : Nat) (x3 : Int) (x4 : Int) (t0 : Int) (s1 : Int) (u2 : Nat) : Option (Int × Mem) := gdx s1 64 (wt (up m u2 s1 t0) fun m2 => gd3 (x4 + 1) (kk5 m2 a0 a1 a2 x3 (x4 + 1)))
def G2_valueFor_85 (kk5 : Mem → Nat → Nat → Nat → Int → Int → Option (Int × Mem)) (m : Mem) (a0 : Nat) (a1 : Nat) (a2 : Nat) (x3 : Int) (x4 : Int) (x5 : Int) : Option (Int × Mem) := if x5 = 15 then (if x3 ≤ 0 then (G2_valueFor_119 kk5 m a0 a1 a2 x3 x4 x5) else (gdx (x3 - 1) 64 (if (m a2 (x3 - 1)) = 0 then (gd3 (x3 - 1) (G2_valueFor_115 kk5 m a0 a1 a2 x3 x4 1 (x3 - 1) a2)) else (gd3 (x3 - 1) (G2_valueFor_115 kk5 m a0 a1 a2 x3 x4 0 (x3 - 1) a2))))) else (G2_valueFor_119 kk5 m a0 a1 a2 x3 x4 x5)
def G2_valueFor_5 : Nat → Mem → Nat → Nat → Nat → Int → Int → Option (Int × Mem)
  | 0, _, _, _, _, _, _ => none
  | n + 1, m, a0, a1, a2, x3, x4 => if (m a0 1) ≤ x4 then (G2_valueFor_177 m a2 x3) else (if 64 ≤ x3 then (G2_valueFor_177 m a2 x3) else (gdx x4 64 (gd3 ((m (a0 + 1) x4) - 10000) (if 0 ≤ ((m (a0 + 1) x4) - 10000) then (gd3 ((m (a0 + 1) x4) - 10000) (if ((m (a0 + 1) x4) - 10000) < 18 then (gd3 ((m (a0 + 1) x4) - 10000) (G2_valueFor_85 (fun m a0 a1 a2 x3 x4 => G2_valueFor_5 n m a0 a1 a2 x3 x4) m a0 a1 a2 x3 x4 ((m (a0 + 1) x4) - 10000))) else (gd3 ((m (a0 + 1) x4) - 10000) (if 24 ≤ ((m (a0 + 1) x4) - 10000) then (gd3 ((m (a0 + 1) x4) - 10000) (G2_valueFor_85 (fun m a0 a1 a2 x3 x4 => G2_valueFor_5 n m a0 a1 a2 x3 x4) m a0 a1 a2 x3 x4 ((m (a0 + 1) x4) - 10000))) else (gdx (((m (a0 + 1) x4) - 10000) - 18) 6 (gdx x3 64 (wt (up m a2 x3 (m a1 (((m (a0 + 1) x4) - 10000) - 18))) fun m17 => gd3 (x3 + 1) (gd3 (x4 + 1) (G2_valueFor_5 n m17 a0 a1 a2 (x3 + 1) (x4 + 1)))))))))) else (gdx x4 64 (gdx x3 64 (wt (up m a2 x3 (m (a0 + 1) x4)) fun m23 => gd3 (x3 + 1) (gd3 (x4 + 1) (G2_valueFor_5 n m23 a0 a1 a2 (x3 + 1) (x4 + 1))))))))))
def G2_valueFor_0 (m : Mem) (a0 : Nat) (a1 : Nat) (a2 : Nat) : Option (Int × Mem) := G2_valueFor_5 1024 m a0 a1 a2 0 0
def G2_valueFor (m : Mem) (a0 : Nat) (a1 : Nat) (a2 : Nat) : Option (Int × Mem) := G2_valueFor_0 m a0 a1 a2
def G6_awayFor_0 (m : Mem) (a0 : Nat) (x1 : Int) (x2 : Int) : Option (Int × Mem) := (G6_nameAway m a0 x1 x2).bind fun o1 => (G2_valueFor o1 ((o1 a0 0).toNat + 20) (a0 + 4) (a0 + 5)).bind fun o13 => if o13.1 = (-9223372036854775808) then (some (5, o13.2)) else (gd3 (if (if o13.1 < 30 then o13.1 else 30) < 1 then 1 else (if o13.1 < 30 then o13.1 else 30)) (some ((if (if o13.1 < 30 then o13.1 else 30) < 1 then 1 else (if o13.1 < 30 then o13.1 else 30)), o13.2)))
def G6_awayFor (m : Mem) (a0 : Nat) (x1 : Int) (x2 : Int) : Option (Int × Mem) := G6_awayFor_0 m a0 x1 x2
def G8_farFrom_0 (m : Mem) (a0 : Nat) (x1 : Int) (x2 : Int) : Option (Int × Mem) := if 1 ≤ (m a0 0) then (if (m a0 0) = 0 then (none) else (if (m a0 0) = 0 then (none) else (gdd x1 (m a0 0) (gd3 ((x1 % (m a0 0)) - x2) (gdd x1 (m a0 0) (gdd x1 (m a0 0) (gdd x1 (m a0 0) (gd3 ((x1 / (m a0 0)) - (m a0 3)) (gdd x1 (m a0 0) (gdd x1 (m a0 0) (gd3 ((if 0 ≤ ((x1 % (m a0 0)) - x2) then ((x1 % (m a0 0)) - x2) else (0 - ((x1 % (m a0 0)) - x2))) + (if 0 ≤ ((x1 / (m a0 0)) - (m a0 3)) then ((x1 / (m a0 0)) - (m a0 3)) else (0 - ((x1 / (m a0 0)) - (m a0 3))))) (some (((if 0 ≤ ((x1 % (m a0 0)) - x2) then ((x1 % (m a0 0)) - x2) else (0 - ((x1 % (m a0 0)) - x2))) + (if 0 ≤ ((x1 / (m a0 0)) - (m a0 3)) then ((x1 / (m a0 0)) - (m a0 3)) else (0 - ((x1 / (m a0 0)) - (m a0 3))))), m))))))))))))) else (some (0, m))
def G8_farFrom (m : Mem) (a0 : Nat) (x1 : Int) (x2 : Int) : Option (Int × Mem) := G8_farFrom_0 m a0 x1 x2
def G8_rowOf_0 (m : Mem) (a0 : Nat) (x1 : Int) : Option (Int × Mem) := if (m a0 0) ≤ 0 then (some (0, m)) else (if (m a0 0) = 0 then (none) else (gdd x1 (m a0 0) (some ((x1 / (m a0 0)), m))))
def G8_rowOf (m : Mem) (a0 : Nat) (x1 : Int) : Option (Int × Mem) := G8_rowOf_0 m a0 x1
def G6_nameCatch_0 (m : Mem) (a0 : Nat) (x1 : Int) (x2 : Int) (x3 : Int) : Option Mem := (G6_nameAway m a0 x1 x2).bind fun o1 => gdx x2 28 ((G8_farFrom o1 ((o1 a0 0).toNat) x3 (o1 (a0 + 3) x2)).bind fun o11 => wt (up o11.2 (a0 + 4) 0 o11.1) fun m14 => (G8_rowOf m14 ((m14 a0 0).toNat) x3).bind fun o19 => gd3 (o19.1 - (o19.2 ((o19.2 a0 0).toNat) 3)) (wt (up o19.2 (a0 + 4) 1 (o19.1 - (o19.2 ((o19.2 a0 0).toNat) 3))) fun m26 => some m26))
def G6_nameCatch (m : Mem) (a0 : Nat) (x1 : Int) (x2 : Int) (x3 : Int) : Option Mem := G6_nameCatch_0 m a0 x1 x2 x3
def G6_farOf_0 (m : Mem) (a0 : Nat) (x1 : Int) (x2 : Int) : Option (Int × Mem) := gdx x2 28 ((G8_farFrom m ((m a0 0).toNat) x1 (m (a0 + 3) x2)).bind fun o7 => some (o7.1, o7.2))
def G6_farOf (m : Mem) (a0 : Nat) (x1 : Int) (x2 : Int) : Option (Int × Mem) := G6_farOf_0 m a0 x1 x2
def G6_oddsAt_0 (m : Mem) (a0 : Nat) (x1 : Int) (x2 : Int) (x3 : Int) : Option (Int × Mem) := (G6_nameCatch m a0 x1 x2 x3).bind fun o1 => (G2_valueFor o1 ((o1 a0 0).toNat + 16) (a0 + 4) (a0 + 5)).bind fun o13 => if o13.1 = (-9223372036854775808) then ((G6_farOf o13.2 a0 x3 x2).bind fun o16 => gd3 (100 - (20 * o16.1)) (gd3 (if 0 < (100 - (20 * o16.1)) then (100 - (20 * o16.1)) else 0) (some ((if 0 < (100 - (20 * o16.1)) then (100 - (20 * o16.1)) else 0), o16.2)))) else (gd3 (if (if o13.1 < 100 then o13.1 else 100) < 0 then 0 else (if o13.1 < 100 then o13.1 else 100)) (some ((if (if o13.1 < 100 then o13.1 else 100) < 0 then 0 else (if o13.1 < 100 then o13.1 else 100)), o13.2)))
def G6_oddsAt (m : Mem) (a0 : Nat) (x1 : Int) (x2 : Int) (x3 : Int) : Option (Int × Mem) := G6_oddsAt_0 m a0 x1 x2 x3
def G6_worthAt_0 (m : Mem) (a0 : Nat) (x1 : Int) (x2 : Int) (x3 : Int) : Option (Int × Mem) := (G6_oddsAt m a0 x1 x2 x3).bind fun o1 => gdx x2 28 (gd3 (o1.1 * (o1.2 ((o1.2 a0 0).toNat + 12) x2)) (some ((o1.1 * (o1.2 ((o1.2 a0 0).toNat + 12) x2)), o1.2)))
def G6_worthAt (m : Mem) (a0 : Nat) (x1 : Int) (x2 : Int) (x3 : Int) : Option (Int × Mem) := G6_worthAt_0 m a0 x1 x2 x3
def G0_makePlan_128 (kk40 : Mem → Nat → Nat → Int → Nat → Int → Int → Option Mem) (m : Mem) (a1 : Nat) (a2 : Nat) (x3 : Int) (a4 : Nat) (x5 : Int) (x6 : Int) (x7 : Int) (s0 : Int) (s1 : Int) : Option Mem := gdx s1 28 (gdb s0 (wt (up m 108 s1 s0) fun m2 => gdx (x6 + 1) 29 (gdx x6 29 (wt (up m2 106 x6 (if x7 < (m2 106 (x6 + 1)) then (m2 106 (x6 + 1)) else x7)) fun m10 => gd3 (x6 + (-1)) (kk40 m10 a1 a2 x3 a4 x5 (x6 + (-1)))))))
def G0_makePlan_40 : Nat → Mem → Nat → Nat → Int → Nat → Int → Int → Option Mem
  | 0, _, _, _, _, _, _, _ => none
  | n + 1, m, a1, a2, x3, a4, x5, x6 => if x6 < x5 then (gdx x5 29 (wt (up m 99 12 (m 106 x5)) fun m6 => (G0_listPlan m6 x5 (m6 a4 1)).bind fun o10 => some o10)) else (gdx x6 28 ((G6_awayFor m a1 x3 x6).bind fun o18 => gd3 ((m (a4 + 3) x6) + o18.1) ((G10_firstFrom o18.2 a4 ((m (a4 + 3) x6) + o18.1)).bind fun o20 => gdx x6 28 (wt (up o20.2 107 x6 o20.1) fun m23 => gdx x3 5 ((G6_worthAt m23 a1 x3 x6 (m23 (a2 + 1) x3)).bind fun o28 => gdx x6 28 (gdx (o28.2 107 x6) 29 (gdx (x6 + 1) 29 (gd3 (o28.1 + (o28.2 106 (o28.2 107 x6))) (if (o28.1 + (o28.2 106 (o28.2 107 x6))) < (o28.2 106 (x6 + 1)) then (gd3 (o28.1 + (o28.2 106 (o28.2 107 x6))) (G0_makePlan_128 (fun m a1 a2 x3 a4 x5 x6 => G0_makePlan_40 n m a1 a2 x3 a4 x5 x6) o28.2 a1 a2 x3 a4 x5 x6 (o28.1 + (o28.2 106 (o28.2 107 x6))) 0 x6)) else (gd3 (o28.1 + (o28.2 106 (o28.2 107 x6))) (G0_makePlan_128 (fun m a1 a2 x3 a4 x5 x6 => G0_makePlan_40 n m a1 a2 x3 a4 x5 x6) o28.2 a1 a2 x3 a4 x5 x6 (o28.1 + (o28.2 106 (o28.2 107 x6))) 1 x6)))))))))))
def G0_makePlan_0 (m : Mem) (a1 : Nat) (a2 : Nat) (x3 : Int) : Option Mem := (G10_firstFrom m ((m a1 0).toNat + 8) (m a2 0)).bind fun o7 => gdx (o7.2 ((m a1 0).toNat + 8) 1) 29 (wt (up o7.2 106 (o7.2 ((m a1 0).toNat + 8) 1) 0) fun m14 => gd3 ((m14 ((m a1 0).toNat + 8) 1) - 1) (G0_makePlan_40 1024 m14 a1 a2 x3 ((m a1 0).toNat + 8) o7.1 ((m14 ((m a1 0).toNat + 8) 1) - 1)))
def G0_makePlan (m : Mem) (a1 : Nat) (a2 : Nat) (x3 : Int) : Option Mem := G0_makePlan_0 m a1 a2 x3
def G8_columnOf_0 (m : Mem) (a0 : Nat) (x1 : Int) : Option (Int × Mem) := if (m a0 0) ≤ 0 then (some (0, m)) else (if (m a0 0) = 0 then (none) else (gdd x1 (m a0 0) (some ((x1 % (m a0 0)), m))))
def G8_columnOf (m : Mem) (a0 : Nat) (x1 : Int) : Option (Int × Mem) := G8_columnOf_0 m a0 x1
def G8_cellBeside_0 (m : Mem) (a0 : Nat) (x1 : Int) (x2 : Int) : Option (Int × Mem) := (G8_columnOf m a0 x1).bind fun o1 => (G8_rowOf o1.2 a0 x1).bind fun o3 => if x2 = 0 then (if o3.1 ≤ 0 then (some ((-1), o3.2)) else (gd3 (x1 - (o3.2 a0 0)) (some ((x1 - (o3.2 a0 0)), o3.2)))) else (if x2 = 1 then (gd3 ((o3.2 a0 0) - 1) (if ((o3.2 a0 0) - 1) ≤ o1.1 then (some ((-1), o3.2)) else (gd3 (x1 + 1) (some ((x1 + 1), o3.2))))) else (if x2 = 2 then (gd3 ((o3.2 a0 1) - 1) (if ((o3.2 a0 1) - 1) ≤ o3.1 then (some ((-1), o3.2)) else (gd3 (x1 + (o3.2 a0 0)) (some ((x1 + (o3.2 a0 0)), o3.2))))) else (if x2 = 3 then (if o1.1 ≤ 0 then (some ((-1), o3.2)) else (gd3 (x1 - 1) (some ((x1 - 1), o3.2)))) else (some (x1, o3.2)))))
def G8_cellBeside (m : Mem) (a0 : Nat) (x1 : Int) (x2 : Int) : Option (Int × Mem) := G8_cellBeside_0 m a0 x1 x2
def G0_weighWays_46 (kk3 : Mem → Nat → Nat → Int → Int → Int → Int → Option Mem) : Nat → Mem → Nat → Nat → Int → Int → Int → Int → Int → Int → Option Mem
  | 0, _, _, _, _, _, _, _, _, _ => none
  | n + 1, m, a1, a2, x3, x4, x5, x6, x7, x8 => if x7 = (-1) then (gd3 (x6 + 1) (kk3 m a1 a2 x3 x4 x5 (x6 + 1))) else (if (m ((m a1 0).toNat + 8) 1) ≤ x8 then (gd3 (x6 + 1) (kk3 m a1 a2 x3 x4 x5 (x6 + 1))) else ((G6_farOf m a1 x7 x8).bind fun o11 => gdx (((x4 + x6) * 28) + x8) 280 (wt (up o11.2 101 (((x4 + x6) * 28) + x8) o11.1) fun m14 => (G6_worthAt m14 a1 x3 x8 x7).bind fun o17 => gdx (((x4 + x6) * 28) + x8) 280 (wt (up o17.2 102 (((x4 + x6) * 28) + x8) o17.1) fun m20 => gd3 (x8 + 1) (G0_weighWays_46 kk3 n m20 a1 a2 x3 x4 x5 x6 x7 (x8 + 1))))))
def G0_weighWays_3 : Nat → Mem → Nat → Nat → Int → Int → Int → Int → Option Mem
  | 0, _, _, _, _, _, _, _ => none
  | n + 1, m, a1, a2, x3, x4, x5, x6 => if 5 ≤ x6 then (some m) else (gdx x3 5 (gdx x6 5 ((G8_cellBeside m ((m a1 0).toNat) (m (a2 + 1) x3) (gw x6)).bind fun o12 => gdx (x4 + x6) 10 (wt (up o12.2 100 (x4 + x6) o12.1) fun m17 => G0_weighWays_46 (fun m a1 a2 x3 x4 x5 x6 => G0_weighWays_3 n m a1 a2 x3 x4 x5 x6) 1024 m17 a1 a2 x3 x4 x5 x6 o12.1 x5))))
def G0_weighWays_0 (m : Mem) (a1 : Nat) (a2 : Nat) (x3 : Int) (x4 : Int) (x5 : Int) : Option Mem := G0_weighWays_3 1024 m a1 a2 x3 x4 x5 0
def G0_weighWays (m : Mem) (a1 : Nat) (a2 : Nat) (x3 : Int) (x4 : Int) (x5 : Int) : Option Mem := G0_weighWays_0 m a1 a2 x3 x4 x5
def G0_sharePair_75 (kk9 : Mem → Int → Int → Int → Int → Int → Int → Int → Option Mem) (m : Mem) (x1 : Int) (x2 : Int) (x4 : Int) (x5 : Int) (x6 : Int) (x7 : Int) (x8 : Int) (x9 : Int) : Option Mem := gdx x9 280 (gd3 (x6 + (m 102 x9)) (gd3 (x8 + 1) (kk9 m x1 x2 x4 x5 (x6 + (m 102 x9)) x7 (x8 + 1))))
def G0_sharePair_90 (kk9 : Mem → Int → Int → Int → Int → Int → Int → Int → Option Mem) (m : Mem) (x1 : Int) (x2 : Int) (x4 : Int) (x5 : Int) (x6 : Int) (x7 : Int) (x8 : Int) (x10 : Int) : Option Mem := gdx x10 280 (gd3 (x7 + (m 102 x10)) (gd3 (x8 + 1) (kk9 m x1 x2 x4 x5 x6 (x7 + (m 102 x10)) (x8 + 1))))
def G0_sharePair_9 : Nat → Mem → Int → Int → Int → Int → Int → Int → Int → Option Mem
  | 0, _, _, _, _, _, _, _, _ => none
  | n + 1, m, x1, x2, x4, x5, x6, x7, x8 => if x4 ≤ x8 then (gdx ((x1 * 5) + x2) 25 (wt (up m 103 ((x1 * 5) + x2) x6) fun m5 => gdx ((x1 * 5) + x2) 25 (wt (up m5 104 ((x1 * 5) + x2) x7) fun m9 => some m9))) else (gdx ((x1 * 28) + x8) 280 (gdx (((5 + x2) * 28) + x8) 280 (if (m 101 ((x1 * 28) + x8)) < (m 101 (((5 + x2) * 28) + x8)) then (gd3 ((x1 * 28) + x8) (G0_sharePair_75 (fun m x1 x2 x4 x5 x6 x7 x8 => G0_sharePair_9 n m x1 x2 x4 x5 x6 x7 x8) m x1 x2 x4 x5 x6 x7 x8 ((x1 * 28) + x8))) else (gdx ((x1 * 28) + x8) 280 (gdx (((5 + x2) * 28) + x8) 280 (if (m 101 ((x1 * 28) + x8)) = (m 101 (((5 + x2) * 28) + x8)) then (if x5 = 0 then (gd3 (((5 + x2) * 28) + x8) (G0_sharePair_90 (fun m x1 x2 x4 x5 x6 x7 x8 => G0_sharePair_9 n m x1 x2 x4 x5 x6 x7 x8) m x1 x2 x4 x5 x6 x7 x8 (((5 + x2) * 28) + x8))) else (gd3 ((x1 * 28) + x8) (G0_sharePair_75 (fun m x1 x2 x4 x5 x6 x7 x8 => G0_sharePair_9 n m x1 x2 x4 x5 x6 x7 x8) m x1 x2 x4 x5 x6 x7 x8 ((x1 * 28) + x8)))) else (gd3 (((5 + x2) * 28) + x8) (G0_sharePair_90 (fun m x1 x2 x4 x5 x6 x7 x8 => G0_sharePair_9 n m x1 x2 x4 x5 x6 x7 x8) m x1 x2 x4 x5 x6 x7 x8 (((5 + x2) * 28) + x8)))))))))
def G0_sharePair_0 (m : Mem) (x1 : Int) (x2 : Int) (x3 : Int) (x4 : Int) (x5 : Int) : Option Mem := G0_sharePair_9 1024 m x1 x2 x4 x5 0 0 x3
def G0_sharePair (m : Mem) (x1 : Int) (x2 : Int) (x3 : Int) (x4 : Int) (x5 : Int) : Option Mem := G0_sharePair_0 m x1 x2 x3 x4 x5
def G0_playGame_83 (kk40 : Mem → Nat → Int → Int → Int → Int → Option Mem) (kk49 : Mem → Nat → Int → Int → Int → Int → Int → Option Mem) (m : Mem) (a1 : Nat) (x3 : Int) (x4 : Int) (x5 : Int) (x6 : Int) (x7 : Int) (s0 : Int) (s1 : Int) (s2 : Int) (s3 : Int) (s4 : Int) : Option Mem := (G0_sharePair m s4 s3 s2 s1 s0).bind fun o1 => gd3 (x7 + 1) (kk49 o1 a1 x3 x4 x5 x6 (x7 + 1))
def G0_playGame_49 (kk40 : Mem → Nat → Int → Int → Int → Int → Option Mem) : Nat → Mem → Nat → Int → Int → Int → Int → Int → Option Mem
  | 0, _, _, _, _, _, _, _ => none
  | n + 1, m, a1, x3, x4, x5, x6, x7 => if 5 ≤ x7 then (gd3 (x6 + 1) (kk40 m a1 x3 x4 x5 (x6 + 1))) else (if x4 ≤ x3 then (G0_playGame_83 kk40 (fun m a1 x3 x4 x5 x6 x7 => G0_playGame_49 kk40 n m a1 x3 x4 x5 x6 x7) m a1 x3 x4 x5 x6 x7 0 (m ((m a1 0).toNat + 8) 1) x5 x7 x6) else (G0_playGame_83 kk40 (fun m a1 x3 x4 x5 x6 x7 => G0_playGame_49 kk40 n m a1 x3 x4 x5 x6 x7) m a1 x3 x4 x5 x6 x7 1 (m ((m a1 0).toNat + 8) 1) x5 x7 x6))
def G0_playGame_40 : Nat → Mem → Nat → Int → Int → Int → Int → Option Mem
  | 0, _, _, _, _, _, _ => none
  | n + 1, m, a1, x3, x4, x5, x6 => if 5 ≤ x6 then ((G0_findRests m).bind fun o2 => some o2) else (G0_playGame_49 (fun m a1 x3 x4 x5 x6 => G0_playGame_40 n m a1 x3 x4 x5 x6) 1024 m a1 x3 x4 x5 x6 0)
def G0_playGame_0 (m : Mem) (a1 : Nat) (a2 : Nat) (x3 : Int) (x4 : Int) : Option Mem := (G10_firstFrom m ((m a1 0).toNat + 8) (m a2 0)).bind fun o7 => (G0_weighWays o7.2 a1 a2 x3 0 o7.1).bind fun o9 => (G0_weighWays o9 a1 a2 x4 5 o7.1).bind fun o11 => G0_playGame_40 1024 o11 a1 x3 x4 o7.1 0
def G0_playGame (m : Mem) (a1 : Nat) (a2 : Nat) (x3 : Int) (x4 : Int) : Option Mem := G0_playGame_0 m a1 a2 x3 x4
def G1_add_0 (m : Mem) (a0 : Nat) (x1 : Int) (x2 : Int) (x3 : Int) (x4 : Int) (x5 : Int) (x6 : Int) : Option Mem := if (m a0 0) < 5 then (gdx (m a0 0) 5 (wt (up m (a0 + 1) (m a0 0) x1) fun m9 => gdx (m9 a0 0) 5 (wt (up m9 (a0 + 2) (m9 a0 0) x2) fun m15 => gdx (m15 a0 0) 5 (wt (up m15 (a0 + 3) (m15 a0 0) x3) fun m21 => gdx (m21 a0 0) 5 (wt (up m21 (a0 + 4) (m21 a0 0) x4) fun m27 => gdx (m27 a0 0) 5 (wt (up m27 (a0 + 5) (m27 a0 0) x5) fun m33 => gdx (m33 a0 0) 5 (wt (up m33 (a0 + 6) (m33 a0 0) x6) fun m39 => gd3 ((m39 a0 0) + 1) (wt (up m39 a0 0 ((m39 a0 0) + 1)) fun m42 => some m42)))))))) else (some m)
def G1_add (m : Mem) (a0 : Nat) (x1 : Int) (x2 : Int) (x3 : Int) (x4 : Int) (x5 : Int) (x6 : Int) : Option Mem := G1_add_0 m a0 x1 x2 x3 x4 x5 x6
def G1_hasName_2 : Nat → Mem → Nat → Int → Int → Option (Int × Mem)
  | 0, _, _, _, _ => none
  | n + 1, m, a0, x1, x2 => if (m a0 0) ≤ x2 then (some (0, m)) else (gdx x2 5 (if (m (a0 + 1) x2) = x1 then (some (1, m)) else (gd3 (x2 + 1) (G1_hasName_2 n m a0 x1 (x2 + 1)))))
def G1_hasName_0 (m : Mem) (a0 : Nat) (x1 : Int) : Option (Int × Mem) := G1_hasName_2 1024 m a0 x1 0
def G1_hasName (m : Mem) (a0 : Nat) (x1 : Int) : Option (Int × Mem) := G1_hasName_0 m a0 x1
def G2_add_0 (m : Mem) (a0 : Nat) (x1 : Int) : Option Mem := if 64 ≤ (m a0 1) then (some m) else (gdx (m a0 1) 64 (wt (up m (a0 + 1) (m a0 1) x1) fun m13 => gd3 ((m13 a0 1) + 1) (wt (up m13 a0 1 ((m13 a0 1) + 1)) fun m16 => some m16)))
def G2_add (m : Mem) (a0 : Nat) (x1 : Int) : Option Mem := G2_add_0 m a0 x1
def G2_forget_0 (m : Mem) (a0 : Nat) : Option Mem := wt (up m a0 1 0) fun m1 => wt (up m1 a0 2 0) fun m3 => some m3
def G2_forget (m : Mem) (a0 : Nat) : Option Mem := G2_forget_0 m a0
def G3_addSeat_0 (m : Mem) (x1 : Int) (x2 : Int) (x3 : Int) : Option (Int × Mem) := if (m 90 0) < 24 then (gdx (m 90 0) 24 (wt (up m 91 (m 90 0) x1) fun m9 => gdx (m9 90 0) 24 (wt (up m9 92 (m9 90 0) x2) fun m15 => gdx (m15 90 0) 24 (wt (up m15 93 (m15 90 0) x3) fun m21 => gdx (m21 90 0) 24 (wt (up m21 94 (m21 90 0) (-1)) fun m27 => gd3 ((m27 90 0) + 1) (wt (up m27 90 0 ((m27 90 0) + 1)) fun m30 => gd3 ((m30 90 0) - 1) (some (((m30 90 0) - 1), m30)))))))) else (some ((-1), m))
def G3_addSeat (m : Mem) (x1 : Int) (x2 : Int) (x3 : Int) : Option (Int × Mem) := G3_addSeat_0 m x1 x2 x3
def G3_addStrike_0 (m : Mem) (x1 : Int) : Option (Int × Mem) := if (m 90 0) < 24 then (gdx (m 90 0) 24 (wt (up m 92 (m 90 0) (-1)) fun m9 => gdx (m9 90 0) 24 (wt (up m9 94 (m9 90 0) x1) fun m15 => gd3 ((m15 90 0) + 1) (wt (up m15 90 0 ((m15 90 0) + 1)) fun m18 => gd3 ((m18 90 0) - 1) (some (((m18 90 0) - 1), m18)))))) else (some ((-1), m))
def G3_addStrike (m : Mem) (x1 : Int) : Option (Int × Mem) := G3_addStrike_0 m x1
def G3_howManyKnown_0 (m : Mem) : Option (Int × Mem) := if (m 90 1) = (-1) then (some ((m 90 0), m)) else (some ((m 90 1), m))
def G3_howManyKnown (m : Mem) : Option (Int × Mem) := G3_howManyKnown_0 m
def G3_findStruck_29 : Nat → Mem → Int → Option Mem
  | 0, _, _ => none
  | n + 1, m, x2 => if x2 < 0 then (some m) else (gdx x2 24 (if (m 95 x2) = 0 then (gdx x2 24 (if (m 94 x2) = (-1) then (gd3 (x2 + (-1)) (G3_findStruck_29 n m (x2 + (-1)))) else (gdx x2 24 (gdx (m 94 x2) 24 (gdb 1 (wt (up m 95 (m 94 x2) 1) fun m19 => gd3 (x2 + (-1)) (G3_findStruck_29 n m19 (x2 + (-1))))))))) else (gd3 (x2 + (-1)) (G3_findStruck_29 n m (x2 + (-1))))))
def G3_findStruck_7 : Nat → Mem → Int → Int → Option Mem
  | 0, _, _, _ => none
  | n + 1, m, x1, x2 => if x1 ≤ x2 then (gd3 (x1 - 1) (G3_findStruck_29 1024 m (x1 - 1))) else (gdx x2 24 (gdb 0 (wt (up m 95 x2 0) fun m5 => gd3 (x2 + 1) (G3_findStruck_7 n m5 x1 (x2 + 1)))))
def G3_findStruck_0 (m : Mem) : Option Mem := (G3_howManyKnown m).bind fun o1 => G3_findStruck_7 1024 o1.2 o1.1 0
def G3_findStruck (m : Mem) : Option Mem := G3_findStruck_0 m
def G3_isKnownSeat_0 (m : Mem) (x1 : Int) : Option (Int × Mem) := gdx x1 24 (if (m 95 x1) = 0 then (gdx x1 24 (if (m 94 x1) = (-1) then (some (1, m)) else (some (0, m)))) else (some (0, m)))
def G3_isKnownSeat (m : Mem) (x1 : Int) : Option (Int × Mem) := G3_isKnownSeat_0 m x1
def G4_begin_89 : Nat → Mem → Nat → Int → Option Mem
  | 0, _, _, _ => none
  | n + 1, m, a0, x2 => if 28 ≤ x2 then (some m) else (gdx x2 28 (wt (up m (a0 + 6) x2 (-2)) fun m5 => gd3 (x2 + 1) (G4_begin_89 n m5 a0 (x2 + 1))))
def G4_begin_33 : Nat → Mem → Nat → Nat → Int → Option Mem
  | 0, _, _, _, _ => none
  | n + 1, m, a0, a1, x2 => if 5 ≤ x2 then (G4_begin_89 1024 m a0 0) else (gdx x2 5 (gdx x2 5 (wt (up m (a0 + 1) x2 (m (a1 + 3) x2)) fun m11 => gdx x2 5 (wt (up m11 (a0 + 2) x2 0) fun m15 => gdx x2 5 (wt (up m15 (a0 + 3) x2 0) fun m19 => gdx x2 5 (wt (up m19 (a0 + 4) x2 0) fun m23 => gdx x2 5 (wt (up m23 (a0 + 5) x2 0) fun m27 => gd3 (x2 + 1) (G4_begin_33 n m27 a0 a1 (x2 + 1)))))))))
def G4_begin_0 (m : Mem) (a0 : Nat) (a1 : Nat) : Option Mem := wt (up m a0 0 0) fun m1 => wt (up m1 a0 1 (m1 a1 9)) fun m5 => wt (up m5 a0 2 (m5 a1 10)) fun m9 => wt (up m9 a0 3 0) fun m11 => wt (up m11 a0 4 0) fun m13 => G4_begin_33 1024 m13 a0 a1 0
def G4_begin (m : Mem) (a0 : Nat) (a1 : Nat) : Option Mem := G4_begin_0 m a0 a1
def G4_isIn_0 (m : Mem) (a0 : Nat) (x1 : Int) (x2 : Int) : Option (Int × Mem) := gdx x1 5 (if x2 < (m (a0 + 4) x1) then (some (0, m)) else (some (1, m)))
def G4_isIn (m : Mem) (a0 : Nat) (x1 : Int) (x2 : Int) : Option (Int × Mem) := G4_isIn_0 m a0 x1 x2
def G4_beginMinute_36 (kk12 : Mem → Nat → Int → Int → Option Mem) (m : Mem) (a0 : Nat) (x1 : Int) (x2 : Int) : Option Mem := gdx x2 5 (wt (up m (a0 + 5) x2 0) fun m4 => gd3 (x2 + 1) (kk12 m4 a0 x1 (x2 + 1)))
def G4_beginMinute_12 : Nat → Mem → Nat → Int → Int → Option Mem
  | 0, _, _, _, _ => none
  | n + 1, m, a0, x1, x2 => if x1 ≤ x2 then (some m) else ((G4_isIn m a0 x2 (m a0 0)).bind fun o4 => if o4.1 = 0 then (G4_beginMinute_36 (fun m a0 x1 x2 => G4_beginMinute_12 n m a0 x1 x2) o4.2 a0 x1 x2) else (gdx x2 5 (wt (up o4.2 (a0 + 4) x2 0) fun m10 => G4_beginMinute_36 (fun m a0 x1 x2 => G4_beginMinute_12 n m a0 x1 x2) m10 a0 x1 x2)))
def G4_beginMinute_0 (m : Mem) (a0 : Nat) (x1 : Int) : Option Mem := gd3 ((m a0 0) + 1) (wt (up m a0 0 ((m a0 0) + 1)) fun m3 => G4_beginMinute_12 1024 m3 a0 x1 0)
def G4_beginMinute (m : Mem) (a0 : Nat) (x1 : Int) : Option Mem := G4_beginMinute_0 m a0 x1
def G4_drawHundredth_0 (m : Mem) (a0 : Nat) : Option (Int × Mem) := gd3 (b6an (((m a0 2) * 1103515245) + 12345) 2147483647) (wt (up m a0 2 (b6an (((m a0 2) * 1103515245) + 12345) 2147483647)) fun m3 => gdd (b3sr (m3 a0 2) (b3an 16 31)) 100 (some (((b3sr (m3 a0 2) (b3an 16 31)) % 100), m3)))
def G4_drawHundredth (m : Mem) (a0 : Nat) : Option (Int × Mem) := G4_drawHundredth_0 m a0
def G4_hadInSum_4 : Nat → Mem → Nat → Int → Int → Int → Option (Int × Mem)
  | 0, _, _, _, _, _ => none
  | n + 1, m, a0, x1, x2, x3 => if x1 ≤ x3 then (some (x2, m)) else (gdx x3 5 (gd3 (x2 + (m (a0 + 2) x3)) (gd3 (x3 + 1) (G4_hadInSum_4 n m a0 x1 (x2 + (m (a0 + 2) x3)) (x3 + 1)))))
def G4_hadInSum_0 (m : Mem) (a0 : Nat) (x1 : Int) : Option (Int × Mem) := G4_hadInSum_4 1024 m a0 x1 0 0
def G4_hadInSum (m : Mem) (a0 : Nat) (x1 : Int) : Option (Int × Mem) := G4_hadInSum_0 m a0 x1
def G4_leaveOut_0 (m : Mem) (a0 : Nat) (x1 : Int) : Option Mem := gdx x1 5 (wt (up m (a0 + 4) x1 2147483647) fun m4 => some m4)
def G4_leaveOut (m : Mem) (a0 : Nat) (x1 : Int) : Option Mem := G4_leaveOut_0 m a0 x1
def G4_seatAll_2 : Nat → Mem → Nat → Int → Int → Option Mem
  | 0, _, _, _, _ => none
  | n + 1, m, a0, x1, x2 => if 5 ≤ x2 then (some m) else (gdx x2 5 (wt (up m (a0 + 1) x2 x1) fun m5 => gd3 (x2 + 1) (G4_seatAll_2 n m5 a0 x1 (x2 + 1))))
def G4_seatAll_0 (m : Mem) (a0 : Nat) (x1 : Int) : Option Mem := G4_seatAll_2 1024 m a0 x1 0
def G4_seatAll (m : Mem) (a0 : Nat) (x1 : Int) : Option Mem := G4_seatAll_0 m a0 x1
def G4_takeAll_0 (m : Mem) (a0 : Nat) (a1 : Nat) : Option Mem := wt (up m a0 0 (m a1 0)) fun m3 => wt (up m3 a0 1 (m3 a1 1)) fun m7 => wt (up m7 a0 2 (m7 a1 2)) fun m11 => wt (up m11 a0 3 (m11 a1 3)) fun m15 => wt (up m15 a0 4 (m15 a1 4)) fun m19 => wt (cpy m19 (a1 + 1) 0 (a0 + 1) 0 5) fun m25 => wt (cpy m25 (a1 + 2) 0 (a0 + 2) 0 5) fun m31 => wt (cpy m31 (a1 + 3) 0 (a0 + 3) 0 5) fun m37 => wt (cpy m37 (a1 + 4) 0 (a0 + 4) 0 5) fun m43 => wt (cpy m43 (a1 + 5) 0 (a0 + 5) 0 5) fun m49 => wt (cpy m49 (a1 + 6) 0 (a0 + 6) 0 28) fun m55 => some m55
def G4_takeAll (m : Mem) (a0 : Nat) (a1 : Nat) : Option Mem := G4_takeAll_0 m a0 a1
def G4_takeForRun_0 (m : Mem) (a0 : Nat) (a1 : Nat) (x2 : Int) (x3 : Int) : Option Mem := (G4_takeAll m a0 a1).bind fun o1 => wt (up o1 a0 1 x2) fun m3 => wt (up m3 a0 2 x3) fun m5 => wt (up m5 a0 3 0) fun m7 => wt (up m7 a0 4 0) fun m9 => some m9
def G4_takeForRun (m : Mem) (a0 : Nat) (a1 : Nat) (x2 : Int) (x3 : Int) : Option Mem := G4_takeForRun_0 m a0 a1 x2 x3
def G4_unlike_24 : Nat → Mem → Nat → Int → Int → Int → Int → Option (Int × Mem)
  | 0, _, _, _, _, _, _ => none
  | n + 1, m, a0, x1, x2, x3, x4 => if x1 ≤ x4 then (gd3 (x2 - x3) (some ((x2 - x3), m))) else (gdx x4 5 (gdx x4 5 (gd3 (x4 + 1) (G4_unlike_24 n m a0 x1 (if x2 < (m (a0 + 2) x4) then (m (a0 + 2) x4) else x2) (if (m (a0 + 2) x4) < x3 then (m (a0 + 2) x4) else x3) (x4 + 1)))))
def G4_unlike_0 (m : Mem) (a0 : Nat) (x1 : Int) : Option (Int × Mem) := if 1 ≤ x1 then (G4_unlike_24 1024 m a0 x1 (m (a0 + 2) 0) (m (a0 + 2) 0) 1) else (some (0, m))
def G4_unlike (m : Mem) (a0 : Nat) (x1 : Int) : Option (Int × Mem) := G4_unlike_0 m a0 x1
def G5_refuse_0 (m : Mem) (x1 : Int) : Option (Int × Mem) := wt (up m 46 8 x1) fun m1 => wt (up m1 46 9 (m1 47 5)) fun m7 => some (0, m7)
def G5_refuse (m : Mem) (x1 : Int) : Option (Int × Mem) := G5_refuse_0 m x1
def G5_countKnot_0 (m : Mem) : Option (Int × Mem) := if (m ((m 46 10).toNat) 13) < 64 then (gd3 ((m ((m 46 10).toNat) 13) + 1) (wt (up m ((m 46 10).toNat) 13 ((m ((m 46 10).toNat) 13) + 1)) fun m10 => some (1, m10))) else ((G5_refuse m 2).bind fun o12 => gdb o12.1 (some (o12.1, o12.2)))
def G5_countKnot (m : Mem) : Option (Int × Mem) := G5_countKnot_0 m
def G7_isLetter_0 (m : Mem) (x0 : Int) : Option (Int × Mem) := if x0 < 97 then (some (0, m)) else (if 122 < x0 then (some (0, m)) else (some (1, m)))
def G7_isLetter (m : Mem) (x0 : Int) : Option (Int × Mem) := G7_isLetter_0 m x0
def G7_letterBits_0 (m : Mem) (x0 : Int) (x1 : Int) : Option (Int × Mem) := some ((b3sl ((x0 - 97) + 1) (b3an (25 - (5 * x1)) 31)), m)
def G7_letterBits (m : Mem) (x0 : Int) (x1 : Int) : Option (Int × Mem) := G7_letterBits_0 m x0 x1
def G5_isFirst_0 (m : Mem) (x1 : Int) : Option (Int × Mem) := if (b3an (m 46 6) (b3sl 1 (b3an x1 31))) = 0 then (wt (up m 46 6 (b3or (m 46 6) (b3sl 1 (b3an x1 31)))) fun m6 => some (1, m6)) else ((G5_refuse m 3).bind fun o8 => gdb o8.1 (some (o8.1, o8.2)))
def G5_isFirst (m : Mem) (x1 : Int) : Option (Int × Mem) := G5_isFirst_0 m x1
def G5_letWait_0 (m : Mem) (x1 : Int) : Option (Int × Mem) := if (m 46 2) < 72 then (gdx (m 46 2) 72 (wt (up m 50 (m 46 2) x1) fun m13 => gd3 ((m13 46 2) + 1) (wt (up m13 46 2 ((m13 46 2) + 1)) fun m16 => some (1, m16)))) else ((G5_refuse m 2).bind fun o18 => gdb o18.1 (some (o18.1, o18.2)))
def G5_letWait (m : Mem) (x1 : Int) : Option (Int × Mem) := G5_letWait_0 m x1
def G7_skipBlanks_40 (kk0 : Mem → Option Mem) (m : Mem) : Option Mem := gd3 ((m 47 3) + 1) (wt (up m 47 3 ((m 47 3) + 1)) fun m3 => kk0 m3)
def G7_skipBlanks_0 : Nat → Mem → Option Mem
  | 0, _ => none
  | n + 1, m => if (m 47 2) ≤ (m 47 3) then (some m) else (gde (m 47 1) 1 (gdx (m 47 3) 700 (if (m 1 (m 47 3)) = 10 then (G7_skipBlanks_40 (fun m => G7_skipBlanks_0 n m) m) else (gde (m 47 1) 1 (gdx (m 47 3) 700 (if (m 1 (m 47 3)) = 32 then (G7_skipBlanks_40 (fun m => G7_skipBlanks_0 n m) m) else (some m)))))))
def G7_skipBlanks (m : Mem) : Option Mem := G7_skipBlanks_0 1024 m
def G7_wordOf_2 : Nat → Mem → Int → Int → Option (Int × Mem)
  | 0, _, _, _ => none
  | n + 1, m, x1, x2 => if 24 ≤ x2 then (some (24, m)) else (gdx x2 24 (if (m 48 x2) = x1 then (some (x2, m)) else (gd3 (x2 + 1) (G7_wordOf_2 n m x1 (x2 + 1)))))
def G7_wordOf_0 (m : Mem) (x1 : Int) : Option (Int × Mem) := G7_wordOf_2 1024 m x1 0
def G7_wordOf (m : Mem) (x1 : Int) : Option (Int × Mem) := G7_wordOf_0 m x1
def G7_takeWord_92 (m : Mem) (s0 : Int) : Option Mem := wt (up m 47 4 s0) fun m1 => some m1
def G7_takeWord_72 (m : Mem) (x1 : Int) : Option Mem := if x1 ≤ 6 then ((G7_wordOf m (m 47 6)).bind fun o4 => G7_takeWord_92 o4.2 o4.1) else (G7_takeWord_92 m 40)
def G7_takeWord_56 (kk2 : Mem → Int → Option Mem) (m : Mem) (x1 : Int) : Option Mem := gd3 ((m 47 3) + 1) (wt (up m 47 3 ((m 47 3) + 1)) fun m3 => gd3 (x1 + 1) (kk2 m3 (x1 + 1)))
def G7_takeWord_2 : Nat → Mem → Int → Option Mem
  | 0, _, _ => none
  | n + 1, m, x1 => if (m 47 2) ≤ (m 47 3) then (G7_takeWord_72 m x1) else (gde (m 47 1) 1 (gdx (m 47 3) 700 ((G7_isLetter m (m 1 (m 47 3))).bind fun o12 => if o12.1 = 0 then (G7_takeWord_72 o12.2 x1) else (if 6 ≤ x1 then (G7_takeWord_56 (fun m x1 => G7_takeWord_2 n m x1) o12.2 x1) else (gde (o12.2 47 1) 1 (gdx (o12.2 47 3) 700 ((G7_letterBits o12.2 (o12.2 1 (o12.2 47 3)) x1).bind fun o24 => wt (up o24.2 47 6 (b3or (o12.2 47 6) o24.1)) fun m26 => G7_takeWord_56 (fun m x1 => G7_takeWord_2 n m x1) m26 x1)))))))
def G7_takeWord_0 (m : Mem) : Option Mem := G7_takeWord_2 1024 m 0
def G7_takeWord (m : Mem) : Option Mem := G7_takeWord_0 m
def G7_isDigit_0 (m : Mem) (x0 : Int) : Option (Int × Mem) := if x0 < 48 then (some (0, m)) else (if 57 < x0 then (some (0, m)) else (some (1, m)))
def G7_isDigit (m : Mem) (x0 : Int) : Option (Int × Mem) := G7_isDigit_0 m x0
def G7_takeNumber_68 (m : Mem) : Option Mem := wt (up m 47 4 25) fun m1 => some m1
def G7_takeNumber_0 : Nat → Mem → Option Mem
  | 0, _ => none
  | n + 1, m => if (m 47 2) ≤ (m 47 3) then (G7_takeNumber_68 m) else (gde (m 47 1) 1 (gdx (m 47 3) 700 ((G7_isDigit m (m 1 (m 47 3))).bind fun o12 => if o12.1 = 0 then (G7_takeNumber_68 o12.2) else (gde (o12.2 47 1) 1 (gdx (o12.2 47 3) 700 (gd3 ((((o12.2 47 6) * 10) + (o12.2 1 (o12.2 47 3))) - 48) (gd3 (if 1000000 < ((((o12.2 47 6) * 10) + (o12.2 1 (o12.2 47 3))) - 48) then 1000000 else ((((o12.2 47 6) * 10) + (o12.2 1 (o12.2 47 3))) - 48)) (wt (up o12.2 47 6 (if 1000000 < ((((o12.2 47 6) * 10) + (o12.2 1 (o12.2 47 3))) - 48) then 1000000 else ((((o12.2 47 6) * 10) + (o12.2 1 (o12.2 47 3))) - 48))) fun m23 => gd3 ((m23 47 3) + 1) (wt (up m23 47 3 ((m23 47 3) + 1)) fun m27 => G7_takeNumber_0 n m27)))))))))
def G7_takeNumber (m : Mem) : Option Mem := G7_takeNumber_0 1024 m
def G7_signOf_0 (m : Mem) (x0 : Int) : Option (Int × Mem) := if x0 = 40 then (some (36, m)) else (if x0 = 41 then (some (37, m)) else (if x0 = 42 then (some (34, m)) else (if x0 = 43 then (some (32, m)) else (if x0 = 45 then (some (33, m)) else (if x0 = 47 then (some (35, m)) else (if x0 = 59 then (some (38, m)) else (if x0 = 60 then (some (26, m)) else (if x0 = 61 then (some (28, m)) else (if x0 = 62 then (some (31, m)) else (some (40, m)))))))))))
def G7_signOf (m : Mem) (x0 : Int) : Option (Int × Mem) := G7_signOf_0 m x0
def G7_isNext_0 (m : Mem) (x1 : Int) : Option (Int × Mem) := if (m 47 2) ≤ (m 47 3) then (some (0, m)) else (gde (m 47 1) 1 (gdx (m 47 3) 700 (if (m 1 (m 47 3)) = x1 then (some (1, m)) else (some (0, m)))))
def G7_isNext (m : Mem) (x1 : Int) : Option (Int × Mem) := G7_isNext_0 m x1
def G7_takeSign_102 (m : Mem) : Option Mem := if (m 47 4) = 31 then ((G7_isNext m 61).bind fun o4 => if o4.1 = 0 then (some o4.2) else (wt (up o4.2 47 4 30) fun m7 => gd3 ((m7 47 3) + 1) (wt (up m7 47 3 ((m7 47 3) + 1)) fun m11 => some m11))) else (some m)
def G7_takeSign_65 (m : Mem) : Option Mem := if (m 47 4) = 26 then ((G7_isNext m 62).bind fun o4 => if o4.1 = 0 then (G7_takeSign_102 o4.2) else (wt (up o4.2 47 4 29) fun m7 => gd3 ((m7 47 3) + 1) (wt (up m7 47 3 ((m7 47 3) + 1)) fun m11 => some m11))) else (G7_takeSign_102 m)
def G7_takeSign_0 (m : Mem) : Option Mem := gde (m 47 1) 1 (gdx (m 47 3) 700 (gd3 ((m 47 3) + 1) (wt (up m 47 3 ((m 47 3) + 1)) fun m9 => (G7_signOf m9 (m 1 (m 47 3))).bind fun o11 => wt (up o11.2 47 4 o11.1) fun m13 => if (m13 47 4) = 26 then ((G7_isNext m13 61).bind fun o18 => if o18.1 = 0 then (G7_takeSign_65 o18.2) else (wt (up o18.2 47 4 27) fun m21 => gd3 ((m21 47 3) + 1) (wt (up m21 47 3 ((m21 47 3) + 1)) fun m25 => some m25))) else (G7_takeSign_65 m13))))
def G7_takeSign (m : Mem) : Option Mem := G7_takeSign_0 m
def G7_advance_0 (m : Mem) : Option Mem := (G7_skipBlanks m).bind fun o1 => wt (up o1 47 5 (o1 47 3)) fun m5 => wt (up m5 47 6 0) fun m7 => if (m7 47 3) < (m7 47 2) then (gde (m7 47 1) 1 (gdx (m7 47 3) 700 ((G7_isLetter m7 (m7 1 (m7 47 3))).bind fun o20 => if o20.1 = 0 then (gde (o20.2 47 1) 1 (gdx (o20.2 47 3) 700 ((G7_isDigit o20.2 (o20.2 1 (o20.2 47 3))).bind fun o29 => if o29.1 = 0 then ((G7_takeSign o29.2).bind fun o32 => some o32) else ((G7_takeNumber o29.2).bind fun o34 => some o34)))) else ((G7_takeWord o20.2).bind fun o36 => some o36)))) else (wt (up m7 47 4 39) fun m38 => some m38)
def G7_advance (m : Mem) : Option Mem := G7_advance_0 m
def G5_takenNumber_42 (m : Mem) : Option (Int × Mem) := (G5_refuse m 2).bind fun o1 => some ((-1), o1.2)
def G5_takenNumber_0 (m : Mem) (x1 : Int) (x2 : Int) : Option (Int × Mem) := if (m 47 4) = 25 then (if (m 47 6) < x1 then (G5_takenNumber_42 m) else (if (m 47 6) ≤ x2 then (some ((m 47 6), m)) else (G5_takenNumber_42 m))) else ((G5_refuse m 1).bind fun o20 => some ((-1), o20.2))
def G5_takenNumber (m : Mem) (x1 : Int) (x2 : Int) : Option (Int × Mem) := G5_takenNumber_0 m x1 x2
def G5_numberIn_0 (m : Mem) (x1 : Int) (x2 : Int) : Option (Int × Mem) := (G7_advance m).bind fun o3 => (G5_takenNumber o3 x1 x2).bind fun o5 => some (o5.1, o5.2)
def G5_numberIn (m : Mem) (x1 : Int) (x2 : Int) : Option (Int × Mem) := G5_numberIn_0 m x1 x2
def G10_forget_0 (m : Mem) (a0 : Nat) : Option Mem := wt (up m a0 0 0) fun m1 => wt (up m1 a0 1 0) fun m3 => some m3
def G10_forget (m : Mem) (a0 : Nat) : Option Mem := G10_forget_0 m a0
def G8_forget_63 : Nat → Mem → Nat → Int → Option Mem
  | 0, _, _, _ => none
  | n + 1, m, a0, x1 => if 3 ≤ x1 then (wt (up m a0 12 0) fun m2 => wt (up m2 a0 13 0) fun m4 => some m4) else (gdx x1 3 ((G2_forget m ((a0 + 16) + 2 * (x1 : Int).toNat)).bind fun o10 => gd3 (x1 + 1) (G8_forget_63 n o10 a0 (x1 + 1))))
def G8_forget_0 (m : Mem) (a0 : Nat) : Option Mem := wt (up m a0 0 6) fun m1 => wt (up m1 a0 1 4) fun m3 => wt (up m3 a0 2 0) fun m5 => wt (up m5 a0 3 0) fun m7 => wt (up m7 (a0 + 1) 0 0) fun m11 => (G10_forget m11 (a0 + 8)).bind fun o15 => wt (up o15 a0 6 0) fun m17 => wt (up m17 a0 7 0) fun m19 => wt (up m19 a0 8 0) fun m21 => wt (up m21 a0 9 0) fun m23 => wt (up m23 a0 10 0) fun m25 => G8_forget_63 1024 m25 a0 0
def G8_forget (m : Mem) (a0 : Nat) : Option Mem := G8_forget_0 m a0
def G7_begin_0 (m : Mem) (x2 : Int) : Option Mem := wt (up m 47 1 ((1 : Nat) : Int)) fun m1 => wt (up m1 47 2 (if 700 < x2 then 700 else x2)) fun m5 => wt (up m5 47 3 0) fun m7 => some m7
def G7_begin (m : Mem) (x2 : Int) : Option Mem := G7_begin_0 m x2
def G5_readStop_0 (m : Mem) : Option (Int × Mem) := (G7_advance m).bind fun o3 => if (o3 47 4) = 38 then (some (1, o3)) else ((G5_refuse o3 1).bind fun o10 => if o10.1 = 0 then (some (0, o10.2)) else (some (1, o10.2)))
def G5_readStop (m : Mem) : Option (Int × Mem) := G5_readStop_0 m
def G5_readSea_47 (m : Mem) (x1 : Int) (s0 : Int) : Option (Int × Mem) := if s0 = (-1) then (some (0, m)) else (wt (up m ((m 46 10).toNat) 0 x1) fun m4 => wt (up m4 ((m4 46 10).toNat) 1 s0) fun m8 => (G5_readStop m8).bind fun o10 => gdb o10.1 (some (o10.1, o10.2)))
def G5_readSea_0 (m : Mem) : Option (Int × Mem) := (G5_isFirst m 0).bind fun o1 => if o1.1 = 0 then (some (0, o1.2)) else (if (o1.2 46 7) = 0 then ((G5_numberIn o1.2 1 8).bind fun o7 => if o7.1 = (-1) then (G5_readSea_47 o7.2 o7.1 (-1)) else ((G5_numberIn o7.2 1 6).bind fun o10 => G5_readSea_47 o10.2 o7.1 o10.1)) else ((G5_refuse o1.2 4).bind fun o12 => gdb o12.1 (some (o12.1, o12.2))))
def G5_readSea (m : Mem) : Option (Int × Mem) := G5_readSea_0 m
def G5_readPeak_53 (m : Mem) (x1 : Int) (s0 : Int) : Option (Int × Mem) := if s0 = (-1) then (some (0, m)) else (wt (up m ((m 46 10).toNat) 2 x1) fun m4 => wt (up m4 ((m4 46 10).toNat) 3 s0) fun m8 => (G5_readStop m8).bind fun o10 => gdb o10.1 (some (o10.1, o10.2)))
def G5_readPeak_0 (m : Mem) : Option (Int × Mem) := (G5_isFirst m 1).bind fun o1 => if o1.1 = 0 then (some (0, o1.2)) else (wt (up o1.2 46 7 1) fun m4 => gd3 ((m4 ((m4 46 10).toNat) 0) - 1) ((G5_numberIn m4 0 ((m4 ((m4 46 10).toNat) 0) - 1)).bind fun o10 => if o10.1 = (-1) then (G5_readPeak_53 o10.2 o10.1 (-1)) else (gd3 ((o10.2 ((o10.2 46 10).toNat) 1) - 1) ((G5_numberIn o10.2 0 ((o10.2 ((o10.2 46 10).toNat) 1) - 1)).bind fun o17 => G5_readPeak_53 o17.2 o10.1 o17.1))))
def G5_readPeak (m : Mem) : Option (Int × Mem) := G5_readPeak_0 m
def G5_readSurfer_195 (m : Mem) (x1 : Int) (x2 : Int) (x3 : Int) (x4 : Int) (x5 : Int) (x6 : Int) (s0 : Int) : Option (Int × Mem) := if s0 = (-1) then (some (0, m)) else (gd3 ((x3 * (m ((m 46 10).toNat) 0)) + x2) ((G1_add m ((m 46 10).toNat + 1) x1 ((x3 * (m ((m 46 10).toNat) 0)) + x2) x4 x5 x6 s0).bind fun o10 => (G5_readStop o10).bind fun o12 => gdb o12.1 (some (o12.1, o12.2))))
def G5_readSurfer_176 (m : Mem) (x1 : Int) (x2 : Int) (x3 : Int) (x4 : Int) (x5 : Int) (s0 : Int) : Option (Int × Mem) := if s0 = (-1) then (G5_readSurfer_195 m x1 x2 x3 x4 x5 s0 (-1)) else ((G5_numberIn m 0 100).bind fun o2 => G5_readSurfer_195 o2.2 x1 x2 x3 x4 x5 s0 o2.1)
def G5_readSurfer_157 (m : Mem) (x1 : Int) (x2 : Int) (x3 : Int) (x4 : Int) (s0 : Int) : Option (Int × Mem) := if s0 = (-1) then (G5_readSurfer_176 m x1 x2 x3 x4 s0 (-1)) else ((G5_numberIn m 0 100).bind fun o2 => G5_readSurfer_176 o2.2 x1 x2 x3 x4 s0 o2.1)
def G5_readSurfer_139 (m : Mem) (x1 : Int) (x2 : Int) (x3 : Int) (s0 : Int) : Option (Int × Mem) := if s0 = (-1) then (G5_readSurfer_157 m x1 x2 x3 s0 (-1)) else ((G5_numberIn m 1 3).bind fun o2 => G5_readSurfer_157 o2.2 x1 x2 x3 s0 o2.1)
def G5_readSurfer_122 (m : Mem) (x1 : Int) (x2 : Int) (s0 : Int) : Option (Int × Mem) := if s0 = (-1) then (G5_readSurfer_139 m x1 x2 s0 (-1)) else ((G5_numberIn m 1 9).bind fun o2 => G5_readSurfer_139 o2.2 x1 x2 s0 o2.1)
def G5_readSurfer_0 (m : Mem) : Option (Int × Mem) := if (m ((m 46 10).toNat + 1) 0) < 5 then (wt (up m 46 7 1) fun m8 => (G7_advance m8).bind fun o12 => if (o12 47 4) = 24 then ((G1_hasName o12 ((o12 46 10).toNat + 1) (o12 47 6)).bind fun o27 => if o27.1 = 0 then (gd3 ((o27.2 ((o27.2 46 10).toNat) 0) - 1) ((G5_numberIn o27.2 0 ((o27.2 ((o27.2 46 10).toNat) 0) - 1)).bind fun o38 => if o38.1 = (-1) then (G5_readSurfer_122 o38.2 (o27.2 47 6) o38.1 (-1)) else (gd3 ((o38.2 ((o38.2 46 10).toNat) 1) - 1) ((G5_numberIn o38.2 0 ((o38.2 ((o38.2 46 10).toNat) 1) - 1)).bind fun o45 => G5_readSurfer_122 o45.2 (o27.2 47 6) o38.1 o45.1)))) else ((G5_refuse o27.2 3).bind fun o47 => gdb o47.1 (some (o47.1, o47.2)))) else ((G5_refuse o12 1).bind fun o49 => gdb o49.1 (some (o49.1, o49.2)))) else ((G5_refuse m 2).bind fun o51 => gdb o51.1 (some (o51.1, o51.2)))
def G5_readSurfer (m : Mem) : Option (Int × Mem) := G5_readSurfer_0 m
def G10_firstMinute_0 (m : Mem) (a0 : Nat) (x1 : Int) : Option (Int × Mem) := gdx x1 4 (gdx (m (a0 + 1) x1) 28 (some ((m (a0 + 3) (m (a0 + 1) x1)), m)))
def G10_firstMinute (m : Mem) (a0 : Nat) (x1 : Int) : Option (Int × Mem) := G10_firstMinute_0 m a0 x1
def G10_lastMinute_0 (m : Mem) (a0 : Nat) (x1 : Int) : Option (Int × Mem) := (G10_firstMinute m a0 x1).bind fun o1 => gdx x1 4 (gd3 ((o1.1 + (o1.2 (a0 + 2) x1)) - 1) (some (((o1.1 + (o1.2 (a0 + 2) x1)) - 1), o1.2)))
def G10_lastMinute (m : Mem) (a0 : Nat) (x1 : Int) : Option (Int × Mem) := G10_lastMinute_0 m a0 x1
def G10_beginSet_0 (m : Mem) (a0 : Nat) : Option Mem := if 4 ≤ (m a0 0) then (some m) else (gdx (m a0 0) 4 (wt (up m (a0 + 1) (m a0 0) (m a0 1)) fun m11 => gdx (m11 a0 0) 4 (wt (up m11 (a0 + 2) (m11 a0 0) 0) fun m17 => gd3 ((m17 a0 0) + 1) (wt (up m17 a0 0 ((m17 a0 0) + 1)) fun m20 => some m20))))
def G10_beginSet (m : Mem) (a0 : Nat) : Option Mem := G10_beginSet_0 m a0
def G10_add_0 (m : Mem) (a0 : Nat) (x1 : Int) (x2 : Int) : Option Mem := if 28 ≤ (m a0 1) then (some m) else (if 1 ≤ (m a0 0) then (gdx ((m a0 0) - 1) 4 (gdx ((m a0 0) - 1) 4 (gd3 ((m (a0 + 2) ((m a0 0) - 1)) + 1) (wt (up m (a0 + 2) ((m a0 0) - 1) ((m (a0 + 2) ((m a0 0) - 1)) + 1)) fun m14 => gdx (m14 a0 1) 28 (wt (up m14 (a0 + 3) (m14 a0 1) x1) fun m20 => gdx (m20 a0 1) 28 (wt (up m20 (a0 + 4) (m20 a0 1) x2) fun m26 => gdx (m26 a0 1) 28 (gd3 ((m26 a0 0) - 1) (wt (up m26 (a0 + 5) (m26 a0 1) ((m26 a0 0) - 1)) fun m34 => gdx ((m34 a0 0) - 1) 4 (gdx (m34 a0 1) 28 (wt (up m34 (a0 + 6) (m34 a0 1) (m34 (a0 + 2) ((m34 a0 0) - 1))) fun m46 => gd3 ((m46 a0 1) + 1) (wt (up m46 a0 1 ((m46 a0 1) + 1)) fun m49 => some m49))))))))))) else (some m))
def G10_add (m : Mem) (a0 : Nat) (x1 : Int) (x2 : Int) : Option Mem := G10_add_0 m a0 x1 x2
def G5_readSet_101 (kk70 : Mem → Nat → Int → Int → Option (Int × Mem)) (m : Mem) (a1 : Nat) (x2 : Int) (x3 : Int) : Option (Int × Mem) := (G5_takenNumber m 1 9).bind fun o1 => if o1.1 = (-1) then (some (0, o1.2)) else (if x3 = 7 then ((G5_refuse o1.2 2).bind fun o7 => gdb o7.1 (some (o7.1, o7.2))) else (gd3 (x2 + x3) ((G10_add o1.2 a1 (x2 + x3) o1.1).bind fun o5 => gd3 (x3 + 1) (kk70 o5 a1 x2 (x3 + 1)))))
def G5_readSet_70 : Nat → Mem → Nat → Int → Int → Option (Int × Mem)
  | 0, _, _, _, _ => none
  | n + 1, m, a1, x2, x3 => if 7 < x3 then (some (0, m)) else ((G7_advance m).bind fun o4 => if x3 ≤ 0 then (G5_readSet_101 (fun m a1 x2 x3 => G5_readSet_70 n m a1 x2 x3) o4 a1 x2 x3) else (if (o4 47 4) = 38 then (some (1, o4)) else (G5_readSet_101 (fun m a1 x2 x3 => G5_readSet_70 n m a1 x2 x3) o4 a1 x2 x3)))
def G5_readSet_64 (m : Mem) (a1 : Nat) (x2 : Int) : Option (Int × Mem) := (G10_beginSet m a1).bind fun o1 => G5_readSet_70 1024 o1 a1 x2 0
def G5_readSet_0 (m : Mem) : Option (Int × Mem) := if (m ((m 46 10).toNat + 8) 0) < 4 then ((G5_numberIn m 0 99).bind fun o8 => if o8.1 = (-1) then (some (0, o8.2)) else (if (o8.2 ((m 46 10).toNat + 8) 0) ≤ 0 then (G5_readSet_64 o8.2 ((m 46 10).toNat + 8) o8.1) else (gd3 ((o8.2 ((m 46 10).toNat + 8) 0) - 1) ((G10_lastMinute o8.2 ((m 46 10).toNat + 8) ((o8.2 ((m 46 10).toNat + 8) 0) - 1)).bind fun o16 => if o16.1 < o8.1 then (G5_readSet_64 o16.2 ((m 46 10).toNat + 8) o8.1) else ((G5_refuse o16.2 5).bind fun o19 => gdb o19.1 (some (o19.1, o19.2))))))) else ((G5_refuse m 2).bind fun o21 => gdb o21.1 (some (o21.1, o21.2)))
def G5_readSet (m : Mem) : Option (Int × Mem) := G5_readSet_0 m
def G5_readBank_51 (m : Mem) (x1 : Int) (x2 : Int) (s0 : Int) : Option (Int × Mem) := if s0 = (-1) then (some (0, m)) else (wt (up m ((m 46 10).toNat) 6 x1) fun m4 => wt (up m4 ((m4 46 10).toNat) 7 x2) fun m8 => wt (up m8 ((m8 46 10).toNat) 8 s0) fun m12 => (G5_readStop m12).bind fun o14 => gdb o14.1 (some (o14.1, o14.2)))
def G5_readBank_34 (m : Mem) (x1 : Int) (s0 : Int) : Option (Int × Mem) := if s0 = (-1) then (G5_readBank_51 m x1 s0 (-1)) else ((G5_numberIn m 1 9).bind fun o2 => G5_readBank_51 o2.2 x1 s0 o2.1)
def G5_readBank_0 (m : Mem) : Option (Int × Mem) := (G5_isFirst m 4).bind fun o1 => if o1.1 = 0 then (some (0, o1.2)) else ((G5_numberIn o1.2 1 20).bind fun o4 => if o4.1 = (-1) then (G5_readBank_34 o4.2 o4.1 (-1)) else ((G5_numberIn o4.2 1 20).bind fun o7 => G5_readBank_34 o7.2 o4.1 o7.1))
def G5_readBank (m : Mem) : Option (Int × Mem) := G5_readBank_0 m
def G5_readRule_37 (m : Mem) : Option (Int × Mem) := (G5_refuse m 1).bind fun o1 => gdb o1.1 (some (o1.1, o1.2))
def G5_readRule_0 (m : Mem) : Option (Int × Mem) := (G5_isFirst m 5).bind fun o1 => if o1.1 = 0 then (some (0, o1.2)) else ((G7_advance o1.2).bind fun o6 => gd3 ((o6 47 4) - 8) (if ((o6 47 4) - 8) < 0 then (G5_readRule_37 o6) else (gd3 ((o6 47 4) - 8) (if ((o6 47 4) - 8) < 4 then (gd3 ((o6 47 4) - 8) (wt (up o6 ((o6 46 10).toNat) 9 ((o6 47 4) - 8)) fun m16 => (G5_readStop m16).bind fun o18 => gdb o18.1 (some (o18.1, o18.2)))) else (G5_readRule_37 o6)))))
def G5_readRule (m : Mem) : Option (Int × Mem) := G5_readRule_0 m
def G5_readSeed_0 (m : Mem) : Option (Int × Mem) := (G5_isFirst m 6).bind fun o1 => if o1.1 = 0 then (some (0, o1.2)) else ((G5_numberIn o1.2 0 99999).bind fun o4 => if o4.1 = (-1) then (some (0, o4.2)) else (wt (up o4.2 ((o4.2 46 10).toNat) 10 o4.1) fun m9 => (G5_readStop m9).bind fun o11 => gdb o11.1 (some (o11.1, o11.2))))
def G5_readSeed (m : Mem) : Option (Int × Mem) := G5_readSeed_0 m
def G5_readKind_27 (m : Mem) : Option (Int × Mem) := (G5_refuse m 1).bind fun o1 => some (-1, o1.2)
def G5_readKind_0 (m : Mem) : Option (Int × Mem) := (G7_advance m).bind fun o3 => gd3 ((o3 47 4) - 12) (if ((o3 47 4) - 12) < 0 then (G5_readKind_27 o3) else (gd3 ((o3 47 4) - 12) (if ((o3 47 4) - 12) < 3 then (gdx ((o3 47 4) - 12) 3 (if (o3 (((o3 46 10).toNat + 16) + 2 * (((o3 47 4) - 12) : Int).toNat) 2) = 0 then (gdx ((o3 47 4) - 12) 3 (wt (up o3 (((o3 46 10).toNat + 16) + 2 * (((o3 47 4) - 12) : Int).toNat) 2 1) fun m26 => gdx ((o3 47 4) - 12) 3 (some ((((((m26 46 10).toNat + 16) + 2 * (((o3 47 4) - 12) : Int).toNat) : Nat) : Int), m26)))) else ((G5_refuse o3 3).bind fun o34 => some (-1, o34.2)))) else (G5_readKind_27 o3))))
def G5_readKind (m : Mem) : Option (Int × Mem) := G5_readKind_0 m
def G5_strengthOf_0 (m : Mem) (x0 : Int) : Option (Int × Mem) := if x0 = 15 then (some (3, m)) else (if x0 = 16 then (some (2, m)) else (if x0 = 17 then (some (1, m)) else (if x0 = 26 then (some (4, m)) else (if x0 = 27 then (some (4, m)) else (if x0 = 28 then (some (4, m)) else (if x0 = 29 then (some (4, m)) else (if x0 = 30 then (some (4, m)) else (if x0 = 31 then (some (4, m)) else (if x0 = 32 then (some (5, m)) else (if x0 = 33 then (some (5, m)) else (if x0 = 34 then (some (6, m)) else (if x0 = 35 then (some (6, m)) else (some (0, m))))))))))))))
def G5_strengthOf (m : Mem) (x0 : Int) : Option (Int × Mem) := G5_strengthOf_0 m x0
def G5_release_0 : Nat → Mem → Nat → Int → Option Mem
  | 0, _, _, _ => none
  | n + 1, m, a1, x2 => if (m 46 2) ≤ 0 then (some m) else (gdx ((m 46 2) - 1) 72 ((G5_strengthOf m (m 50 ((m 46 2) - 1))).bind fun o10 => if x2 ≤ o10.1 then (gd3 (10000 + (m 50 ((m 46 2) - 1))) ((G2_add o10.2 a1 (10000 + (m 50 ((m 46 2) - 1)))).bind fun o13 => gd3 ((o13 46 2) - 1) (wt (up o13 46 2 ((o13 46 2) - 1)) fun m17 => G5_release_0 n m17 a1 x2))) else (some o10.2)))
def G5_release (m : Mem) (a1 : Nat) (x2 : Int) : Option Mem := G5_release_0 1024 m a1 x2
def G5_takeOpen_0 (m : Mem) : Option (Int × Mem) := if (m 46 3) < 8 then (gd3 ((m 46 3) + 1) (wt (up m 46 3 ((m 46 3) + 1)) fun m6 => wt (up m6 46 5 1) fun m8 => (G5_letWait m8 36).bind fun o10 => gdb o10.1 (some (o10.1, o10.2)))) else ((G5_refuse m 2).bind fun o12 => gdb o12.1 (some (o12.1, o12.2)))
def G5_takeOpen (m : Mem) : Option (Int × Mem) := G5_takeOpen_0 m
def G5_takePart_139 (m : Mem) (s0 : Int) (u1 : Nat) : Option (Int × Mem) := (G2_add m u1 s0).bind fun o1 => wt (up o1 46 4 0) fun m3 => some (1, m3)
def G5_takePart_110 (m : Mem) (a1 : Nat) (x2 : Int) (x3 : Int) : Option (Int × Mem) := (G5_countKnot m).bind fun o1 => if o1.1 = 0 then (some (0, o1.2)) else (if x3 = 0 then (G5_takePart_139 o1.2 (o1.2 47 6) a1) else (gd3 (10000 + x2) (G5_takePart_139 o1.2 (10000 + x2) a1)))
def G5_takePart_87 (m : Mem) (a1 : Nat) (x2 : Int) (x3 : Int) : Option (Int × Mem) := if (m 47 6) ≤ 9999 then (G5_takePart_110 m a1 x2 x3) else (if x3 = 0 then ((G5_refuse m 2).bind fun o7 => gdb o7.1 (some (o7.1, o7.2))) else (G5_takePart_110 m a1 x2 x3))
def G5_takePart_70 (m : Mem) (a1 : Nat) (x2 : Int) (s0 : Int) : Option (Int × Mem) := if x2 = 25 then (G5_takePart_87 m a1 x2 s0) else (if s0 = 0 then ((G5_refuse m 1).bind fun o3 => gdb o3.1 (some (o3.1, o3.2))) else (G5_takePart_87 m a1 x2 s0))
def G5_takePart_69 (m : Mem) (a1 : Nat) (x2 : Int) : Option (Int × Mem) := G5_takePart_70 m a1 x2 0
def G5_takePart_53 (m : Mem) (a1 : Nat) (x2 : Int) : Option (Int × Mem) := if x2 < 18 then (G5_takePart_69 m a1 x2) else (if 24 ≤ x2 then (G5_takePart_69 m a1 x2) else (G5_takePart_70 m a1 x2 1))
def G5_takePart_0 (m : Mem) (a1 : Nat) : Option (Int × Mem) := if (m 47 4) = 36 then ((G5_takeOpen m).bind fun o16 => gdb o16.1 (some (o16.1, o16.2))) else (if (m 47 4) = 15 then (if (m 46 5) = 0 then (G5_takePart_53 m a1 (m 47 4)) else ((G5_countKnot m).bind fun o10 => if o10.1 = 0 then (some (0, o10.2)) else ((G5_letWait o10.2 (m 47 4)).bind fun o13 => if o13.1 = 0 then (some (0, o13.2)) else (some (1, o13.2))))) else (G5_takePart_53 m a1 (m 47 4)))
def G5_takePart (m : Mem) (a1 : Nat) : Option (Int × Mem) := G5_takePart_0 m a1
def G5_takeClose_0 (m : Mem) (a1 : Nat) : Option (Int × Mem) := if (m 46 3) = 0 then ((G5_refuse m 1).bind fun o17 => gdb o17.1 (some (o17.1, o17.2))) else ((G5_release m a1 1).bind fun o4 => gd3 ((o4 46 3) - 1) (wt (up o4 46 3 ((o4 46 3) - 1)) fun m8 => if (m8 46 2) ≤ 0 then (some (1, m8)) else (gd3 ((m8 46 2) - 1) (wt (up m8 46 2 ((m8 46 2) - 1)) fun m15 => some (1, m15)))))
def G5_takeClose (m : Mem) (a1 : Nat) : Option (Int × Mem) := G5_takeClose_0 m a1
def G5_waitsForLike_0 (m : Mem) : Option (Int × Mem) := if (m 46 2) ≤ 0 then (some (0, m)) else (gdx ((m 46 2) - 1) 72 ((G5_strengthOf m (m 50 ((m 46 2) - 1))).bind fun o10 => (G5_strengthOf o10.2 28).bind fun o12 => if o10.1 = o12.1 then (some (1, o12.2)) else (some (0, o12.2))))
def G5_waitsForLike (m : Mem) : Option (Int × Mem) := G5_waitsForLike_0 m
def G5_takeJoint_35 (m : Mem) : Option (Int × Mem) := (G5_refuse m 1).bind fun o1 => gdb o1.1 (some (o1.1, o1.2))
def G5_takeJoint_115 (m : Mem) (x2 : Int) (s0 : Int) : Option (Int × Mem) := gdb s0 (wt (up m 46 5 s0) fun m1 => (G5_countKnot m1).bind fun o3 => if o3.1 = 0 then (some (0, o3.2)) else ((G5_letWait o3.2 x2).bind fun o6 => if o6.1 = 0 then (some (0, o6.2)) else (some (1, o6.2))))
def G5_takeJoint_110 (m : Mem) (x2 : Int) : Option (Int × Mem) := G5_takeJoint_115 m x2 1
def G5_takeJoint_92 (m : Mem) (x2 : Int) : Option (Int × Mem) := wt (up m 46 4 1) fun m1 => if x2 = 16 then (G5_takeJoint_110 m1 x2) else (if x2 = 17 then (G5_takeJoint_110 m1 x2) else (G5_takeJoint_115 m1 x2 0))
def G5_takeJoint_71 (m : Mem) (x2 : Int) (x4 : Int) (s0 : Int) (u1 : Nat) : Option (Int × Mem) := (G5_release m u1 s0).bind fun o1 => if x4 = 0 then (G5_takeJoint_92 o1 x2) else ((G5_waitsForLike o1).bind fun o4 => if o4.1 = 0 then (G5_takeJoint_92 o4.2 x2) else ((G5_refuse o4.2 1).bind fun o7 => gdb o7.1 (some (o7.1, o7.2))))
def G5_takeJoint_55 (m : Mem) (a1 : Nat) (x2 : Int) (x3 : Int) (s0 : Int) : Option (Int × Mem) := if s0 = 0 then (G5_takeJoint_71 m x2 s0 x3 a1) else (gd3 (x3 + 1) (G5_takeJoint_71 m x2 s0 (x3 + 1) a1))
def G5_takeJoint_0 (m : Mem) (a1 : Nat) : Option (Int × Mem) := if (m 47 4) = 37 then ((G5_takeClose m a1).bind fun o13 => gdb o13.1 (some (o13.1, o13.2))) else ((G5_strengthOf m (m 47 4)).bind fun o6 => if o6.1 = 0 then (G5_takeJoint_35 o6.2) else (if (m 47 4) = 15 then (G5_takeJoint_35 o6.2) else ((G5_strengthOf o6.2 28).bind fun o10 => if o6.1 = o10.1 then (G5_takeJoint_55 o10.2 a1 (m 47 4) o6.1 1) else (G5_takeJoint_55 o10.2 a1 (m 47 4) o6.1 0))))
def G5_takeJoint (m : Mem) (a1 : Nat) : Option (Int × Mem) := G5_takeJoint_0 m a1
def G5_readLaw_81 (kk33 : Mem → Nat → Int → Option (Int × Mem)) (m : Mem) (a1 : Nat) (x2 : Int) : Option (Int × Mem) := if (m 46 4) = 0 then ((G5_takeJoint m a1).bind fun o4 => if o4.1 = 0 then (some (0, o4.2)) else (gd3 (x2 + 1) (kk33 o4.2 a1 (x2 + 1)))) else ((G5_takePart m a1).bind fun o7 => if o7.1 = 0 then (some (0, o7.2)) else (gd3 (x2 + 1) (kk33 o7.2 a1 (x2 + 1))))
def G5_readLaw_33 : Nat → Mem → Nat → Int → Option (Int × Mem)
  | 0, _, _, _ => none
  | n + 1, m, a1, x2 => if 700 < x2 then (some (0, m)) else ((G7_advance m).bind fun o4 => if (o4 46 4) = 0 then (if (o4 46 3) = 0 then (if (o4 47 4) = 38 then ((G5_release o4 a1 1).bind fun o17 => some (1, o17)) else (G5_readLaw_81 (fun m a1 x2 => G5_readLaw_33 n m a1 x2) o4 a1 x2)) else (G5_readLaw_81 (fun m a1 x2 => G5_readLaw_33 n m a1 x2) o4 a1 x2)) else (G5_readLaw_81 (fun m a1 x2 => G5_readLaw_33 n m a1 x2) o4 a1 x2))
def G5_readLaw_0 (m : Mem) : Option (Int × Mem) := (G5_readKind m).bind fun o => if o.1 = -1 then some (0, o.2) else wt (up o.2 46 2 0) fun m5 => wt (up m5 46 3 0) fun m7 => wt (up m7 46 4 1) fun m9 => wt (up m9 46 5 1) fun m11 => G5_readLaw_33 1024 m11 o.1.toNat 0
def G5_readLaw (m : Mem) : Option (Int × Mem) := G5_readLaw_0 m
def G5_readLine_0 (m : Mem) : Option (Int × Mem) := if (m 47 4) = 0 then ((G5_readSea m).bind fun o6 => gdb o6.1 (some (o6.1, o6.2))) else (if (m 47 4) = 1 then ((G5_readPeak m).bind fun o9 => gdb o9.1 (some (o9.1, o9.2))) else (if (m 47 4) = 2 then ((G5_readSurfer m).bind fun o12 => gdb o12.1 (some (o12.1, o12.2))) else (if (m 47 4) = 3 then ((G5_readSet m).bind fun o15 => gdb o15.1 (some (o15.1, o15.2))) else (if (m 47 4) = 4 then ((G5_readBank m).bind fun o18 => gdb o18.1 (some (o18.1, o18.2))) else (if (m 47 4) = 5 then ((G5_readRule m).bind fun o21 => gdb o21.1 (some (o21.1, o21.2))) else (if (m 47 4) = 6 then ((G5_readSeed m).bind fun o24 => gdb o24.1 (some (o24.1, o24.2))) else (if (m 47 4) = 7 then ((G5_readLaw m).bind fun o27 => gdb o27.1 (some (o27.1, o27.2))) else ((G5_refuse m 1).bind fun o29 => gdb o29.1 (some (o29.1, o29.2))))))))))
def G5_readLine (m : Mem) : Option (Int × Mem) := G5_readLine_0 m
def G5_readAll_44 : Nat → Mem → Int → Option (Int × Mem)
  | 0, _, _ => none
  | n + 1, m, x4 => if 700 < x4 then (some (1, m)) else ((G7_advance m).bind fun o4 => if (o4 47 4) = 39 then (some (1, o4)) else ((G5_readLine o4).bind fun o11 => if o11.1 = 0 then (some (0, o11.2)) else (gd3 ((o11.2 ((o11.2 46 10).toNat) 12) + 1) (wt (up o11.2 ((o11.2 46 10).toNat) 12 ((o11.2 ((o11.2 46 10).toNat) 12) + 1)) fun m18 => gd3 (x4 + 1) (G5_readAll_44 n m18 (x4 + 1))))))
def G5_readAll_0 (m : Mem) (x2 : Int) (a3 : Nat) : Option (Int × Mem) := wt (up m 46 10 ((a3 : Nat) : Int)) fun m1 => (G8_forget m1 ((m1 46 10).toNat)).bind fun o5 => wt (up o5 46 8 0) fun m7 => wt (up m7 46 9 (-1)) fun m9 => wt (up m9 46 6 0) fun m11 => wt (up m11 46 7 0) fun m13 => (G7_begin m13 x2).bind fun o17 => G5_readAll_44 1024 o17 0
