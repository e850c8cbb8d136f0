/-! What the pure functions do, over a memory of integers (written by wip/gen/gx.py). -/
def G0_isRest_66 (kk26 : Mem → Int → Int → Int → Option (Int × Mem)) (m : Mem) (x1 : Int) (x2 : Int) (x3 : Int) : Option (Int × Mem) := gdx (5 + x3) 10 (if (m 100 (5 + x3)) = (-1) then (gd3 (x3 + 1) (kk26 m x1 x2 (x3 + 1))) else (gdx ((x1 * 5) + x3) 25 (gdx ((x1 * 5) + x2) 25 (if (m 104 ((x1 * 5) + x3)) ≤ (m 104 ((x1 * 5) + x2)) then (gd3 (x3 + 1) (kk26 m x1 x2 (x3 + 1))) else (some (0, m))))))
def G0_isRest_26 : Nat → Mem → Int → Int → Int → Option (Int × Mem)
  | 0, _, _, _, _ => none
  | n + 1, m, x1, x2, x3 => if 5 ≤ x3 then (some (1, m)) else (gdx x3 10 (if (m 100 x3) = (-1) then (G0_isRest_66 (fun m x1 x2 x3 => G0_isRest_26 n m x1 x2 x3) m x1 x2 x3) else (gdx ((x3 * 5) + x2) 25 (gdx ((x1 * 5) + x2) 25 (if (m 103 ((x3 * 5) + x2)) ≤ (m 103 ((x1 * 5) + x2)) then (G0_isRest_66 (fun m x1 x2 x3 => G0_isRest_26 n m x1 x2 x3) m x1 x2 x3) else (some (0, m)))))))
def G0_isRest_0 (m : Mem) (x1 : Int) (x2 : Int) : Option (Int × Mem) := gdx x1 10 (if (m 100 x1) = (-1) then (some (0, m)) else (gdx (5 + x2) 10 (if (m 100 (5 + x2)) = (-1) then (some (0, m)) else (G0_isRest_26 1024 m x1 x2 0))))
def G0_isRest (m : Mem) (x1 : Int) (x2 : Int) : Option (Int × Mem) := G0_isRest_0 m x1 x2
def G0_findRests_14 (kk7 : Mem → Int → Option Mem) : Nat → Mem → Int → Int → Option Mem
  | 0, _, _, _ => none
  | n + 1, m, x1, x2 => if 5 ≤ x2 then (gd3 (x1 + 1) (kk7 m (x1 + 1))) else ((G0_isRest m x1 x2).bind fun o2 => if o2.1 = 0 then (gd3 (x2 + 1) (G0_findRests_14 kk7 n o2.2 x1 (x2 + 1))) else (gdx x1 5 (gdx x2 5 (gdx (o2.2 99 6) 25 (gd3 ((10 * (gw x1)) + (gw x2)) (wt (up o2.2 105 (o2.2 99 6) ((10 * (gw x1)) + (gw x2))) fun m18 => gd3 ((m18 99 6) + 1) (wt (up m18 99 6 ((m18 99 6) + 1)) fun m21 => gd3 (x2 + 1) (G0_findRests_14 kk7 n m21 x1 (x2 + 1)))))))))
def G0_findRests_7 : Nat → Mem → Int → Option Mem
  | 0, _, _ => none
  | n + 1, m, x1 => if 5 ≤ x1 then (some m) else (G0_findRests_14 (fun m x1 => G0_findRests_7 n m x1) 1024 m x1 0)
def G0_findRests_0 (m : Mem) : Option Mem := wt (up m 99 6 0) fun m1 => G0_findRests_7 1024 m1 0
def G0_findRests (m : Mem) : Option Mem := G0_findRests_0 m
def G0_listPlan_10 : Nat → Mem → Int → Int → Int → Option Mem
  | 0, _, _, _, _ => none
  | n + 1, m, x2, x3, x4 => if x2 ≤ x4 then (some m) else (if x4 < x3 then (gd3 (x4 + 1) (G0_listPlan_10 n m x2 x3 (x4 + 1))) else (gdx x4 28 (if (m 108 x4) = 0 then (gd3 (x4 + 1) (G0_listPlan_10 n m x2 x3 (x4 + 1))) else (gdx (m 99 11) 28 (wt (up m 109 (m 99 11) x4) fun m13 => gd3 ((m13 99 11) + 1) (wt (up m13 99 11 ((m13 99 11) + 1)) fun m16 => gdx x4 28 (gd3 (x4 + 1) (G0_listPlan_10 n m16 x2 (m16 107 x4) (x4 + 1)))))))))
def G0_listPlan_0 (m : Mem) (x1 : Int) (x2 : Int) : Option Mem := wt (up m 99 11 0) fun m1 => G0_listPlan_10 1024 m1 x2 x1 x1
def G0_listPlan (m : Mem) (x1 : Int) (x2 : Int) : Option Mem := G0_listPlan_0 m x1 x2
def G10_firstFrom_2 : Nat → Mem → Nat → Int → Int → Option (Int × Mem)
  | 0, _, _, _, _ => none
  | n + 1, m, a0, x1, x2 => if (m a0 1) ≤ x2 then (some ((m a0 1), m)) else (gdx x2 28 (if (m (a0 + 3) x2) < x1 then (gd3 (x2 + 1) (G10_firstFrom_2 n m a0 x1 (x2 + 1))) else (some (x2, m))))
def G10_firstFrom_0 (m : Mem) (a0 : Nat) (x1 : Int) : Option (Int × Mem) := G10_firstFrom_2 1024 m a0 x1 0
def G10_firstFrom (m : Mem) (a0 : Nat) (x1 : Int) : Option (Int × Mem) := G10_firstFrom_0 m a0 x1
def G6_nameAway_0 (m : Mem) (a0 : Nat) (x1 : Int) (x2 : Int) : Option Mem := wt (up m (a0 + 4) 0 0) fun m4 => wt (up m4 (a0 + 4) 1 0) fun m8 => gdx x1 5 (wt (up m8 (a0 + 4) 2 (m8 (a0 + 1) x1)) fun m16 => gdx x2 28 (wt (up m16 (a0 + 4) 3 (m16 ((m16 a0 0).toNat + 12) x2)) fun m28 => gdx x2 28 (wt (up m28 (a0 + 4) 4 (m28 ((m28 a0 0).toNat + 11) x2)) fun m40 => gdx x2 28 (wt (up m40 (a0 + 4) 5 (m40 ((m40 a0 0).toNat + 14) x2)) fun m52 => some m52))))
def G6_nameAway (m : Mem) (a0 : Nat) (x1 : Int) (x2 : Int) : Option Mem := G6_nameAway_0 m a0 x1 x2
def G2_oneIf_0 (m : Mem) (x0 : Int) : Option (Int × Mem) := if x0 = 0 then (some (0, m)) else (some (1, m))
def G2_oneIf (m : Mem) (x0 : Int) : Option (Int × Mem) := G2_oneIf_0 m x0
def G2_product_26 (m : Mem) (j0 : Int) (j2 : Int) (j4 : Int) (t0 : Int) : Option (Int × Mem) := if t0 ≤ 0 then (gd6 (j0 * j2) (some ((j0 * j2), m))) else (if t0 = 0 then (none) else (gd6 (Int.tdiv 1000000000000 t0) (if j4 ≤ (Int.tdiv 1000000000000 t0) then (gd6 (j0 * j2) (some ((j0 * j2), m))) else (some ((-9223372036854775808), m)))))
def G2_product_12 (m : Mem) (j0 : Int) (j2 : Int) (t0 : Int) : Option (Int × Mem) := if 0 ≤ j2 then (G2_product_26 m j0 j2 t0 j2) else (gd6 (-j2) (G2_product_26 m j0 j2 t0 (-j2)))
def G2_product_0 (m : Mem) (j0 : Int) (j2 : Int) : Option (Int × Mem) := if 0 ≤ j0 then (G2_product_12 m j0 j2 j0) else (gd6 (-j0) (G2_product_12 m j0 j2 (-j0)))
def G2_product (m : Mem) (j0 : Int) (j2 : Int) : Option (Int × Mem) := G2_product_0 m j0 j2
def G2_join_134 (m : Mem) (s0 : Int) : Option (Int × Mem) := (G2_oneIf m s0).bind fun o1 => some (o1.1, o1.2)
def G2_join_133 (m : Mem) : Option (Int × Mem) := G2_join_134 m 0
def G2_join_113 (m : Mem) (s0 : Int) : Option (Int × Mem) := (G2_oneIf m s0).bind fun o1 => some (o1.1, o1.2)
def G2_join_108 (m : Mem) : Option (Int × Mem) := G2_join_113 m 1
def G2_join_149 (m : Mem) (s0 : Int) : Option (Int × Mem) := (G2_oneIf m s0).bind fun o1 => some (o1.1, o1.2)
def G2_join_164 (m : Mem) (s0 : Int) : Option (Int × Mem) := (G2_oneIf m s0).bind fun o1 => some (o1.1, o1.2)
def G2_join_179 (m : Mem) (s0 : Int) : Option (Int × Mem) := (G2_oneIf m s0).bind fun o1 => some (o1.1, o1.2)
def G2_join_194 (m : Mem) (s0 : Int) : Option (Int × Mem) := (G2_oneIf m s0).bind fun o1 => some (o1.1, o1.2)
def G2_join_209 (m : Mem) (s0 : Int) : Option (Int × Mem) := (G2_oneIf m s0).bind fun o1 => some (o1.1, o1.2)
def G2_join_224 (m : Mem) (s0 : Int) : Option (Int × Mem) := (G2_oneIf m s0).bind fun o1 => some (o1.1, o1.2)
def G2_join_0 (m : Mem) (x0 : Int) (j1 : Int) (j3 : Int) : Option (Int × Mem) := if x0 = 16 then (if j1 = 0 then (G2_join_133 m) else (if j3 = 0 then (G2_join_133 m) else (G2_join_134 m 1))) else (if x0 = 17 then (if j1 = 0 then (if j3 = 0 then (G2_join_113 m 0) else (G2_join_108 m)) else (G2_join_108 m)) else (if x0 = 26 then (if j3 ≤ j1 then (G2_join_149 m 0) else (G2_join_149 m 1)) else (if x0 = 27 then (if j3 < j1 then (G2_join_164 m 0) else (G2_join_164 m 1)) else (if x0 = 28 then (if j1 = j3 then (G2_join_179 m 1) else (G2_join_179 m 0)) else (if x0 = 29 then (if j1 = j3 then (G2_join_194 m 0) else (G2_join_194 m 1)) else (if x0 = 30 then (if j1 < j3 then (G2_join_209 m 0) else (G2_join_209 m 1)) else (if x0 = 31 then (if j1 ≤ j3 then (G2_join_224 m 0) else (G2_join_224 m 1)) else (if x0 = 32 then (gd6 (j1 + j3) (some ((j1 + j3), m))) else (if x0 = 33 then (gd6 (j1 - j3) (some ((j1 - j3), m))) else (if x0 = 34 then ((G2_product m j1 j3).bind fun o22 => some (o22.1, o22.2)) else (if x0 = 35 then (if j3 = 0 then (some ((-9223372036854775808), m)) else (if j3 = 0 then (none) else (gd6 (Int.tdiv j1 j3) (some ((Int.tdiv j1 j3), m))))) else (some ((-9223372036854775808), m)))))))))))))
def G2_join (m : Mem) (x0 : Int) (j1 : Int) (j3 : Int) : Option (Int × Mem) := G2_join_0 m x0 j1 j3
def G2_valueFor_177 (m : Mem) (a2 : Nat) (x3 : Int) : Option (Int × Mem) := if x3 = 1 then (some ((m a2 0), m)) else (some ((-9223372036854775808), m))
def G2_valueFor_119 (kk5 : Mem → Nat → Nat → Nat → Int → Int → Option (Int × Mem)) (m : Mem) (a0 : Nat) (a1 : Nat) (a2 : Nat) (x3 : Int) (x4 : Int) (x5 : Int) : Option (Int × Mem) := if x3 ≤ 1 then (gd3 (x4 + 1) (kk5 m a0 a1 a2 x3 (x4 + 1))) else (gdx ((x3 + (-1)) - 1) 64 (gdx (x3 + (-1)) 64 ((G2_join m x5 (m a2 ((x3 + (-1)) - 1)) (m a2 (x3 + (-1)))).bind fun o6 => if 1000000000000 < o6.1 then (some ((-9223372036854775808), o6.2)) else (if (-1000000000000) ≤ o6.1 then (gdx ((x3 + (-1)) - 1) 64 (wt (up o6.2 a2 ((x3 + (-1)) - 1) o6.1) fun m11 => gd3 (x3 + (-1)) (gd3 (x4 + 1) (kk5 m11 a0 a1 a2 (x3 + (-1)) (x4 + 1))))) else (some ((-9223372036854775808), o6.2))))))
def G2_valueFor_115 (kk5 : Mem → Nat → Nat → Nat → Int → Int → Option (Int × Mem)) (m : Mem) (a0 : Nat) (a1 : Nat) (a2 : Nat) (x3 : Int) (x4 : Int) (t0 : Int) (s1 : Int) (u2 : Nat) : Option (Int × Mem) := gdx s1 64 (wt (up m u2 s1 t0) fun m2 => gd3 (x4 + 1) (kk5 m2 a0 a1 a2 x3 (x4 + 1)))
def G2_valueFor_85 (kk5 : Mem → Nat → Nat → Nat → Int → Int → Option (Int × Mem)) (m : Mem) (a0 : Nat) (a1 : Nat) (a2 : Nat) (x3 : Int) (x4 : Int) (x5 : Int) : Option (Int × Mem) := if x5 = 15 then (if x3 ≤ 0 then (G2_valueFor_119 kk5 m a0 a1 a2 x3 x4 x5) else (gdx (x3 - 1) 64 (if (m a2 (x3 - 1)) = 0 then (gd3 (x3 - 1) (G2_valueFor_115 kk5 m a0 a1 a2 x3 x4 1 (x3 - 1) a2)) else (gd3 (x3 - 1) (G2_valueFor_115 kk5 m a0 a1 a2 x3 x4 0 (x3 - 1) a2))))) else (G2_valueFor_119 kk5 m a0 a1 a2 x3 x4 x5)
def G2_valueFor_5 : Nat → Mem → Nat → Nat → Nat → Int → Int → Option (Int × Mem)
  | 0, _, _, _, _, _, _ => none
  | n + 1, m, a0, a1, a2, x3, x4 => if (m a0 1) ≤ x4 then (G2_valueFor_177 m a2 x3) else (if 64 ≤ x3 then (G2_valueFor_177 m a2 x3) else (gdx x4 64 (gd3 ((m (a0 + 1) x4) - 10000) (if 0 ≤ ((m (a0 + 1) x4) - 10000) then (gd3 ((m (a0 + 1) x4) - 10000) (if ((m (a0 + 1) x4) - 10000) < 18 then (gd3 ((m (a0 + 1) x4) - 10000) (G2_valueFor_85 (fun m a0 a1 a2 x3 x4 => G2_valueFor_5 n m a0 a1 a2 x3 x4) m a0 a1 a2 x3 x4 ((m (a0 + 1) x4) - 10000))) else (gd3 ((m (a0 + 1) x4) - 10000) (if 24 ≤ ((m (a0 + 1) x4) - 10000) then (gd3 ((m (a0 + 1) x4) - 10000) (G2_valueFor_85 (fun m a0 a1 a2 x3 x4 => G2_valueFor_5 n m a0 a1 a2 x3 x4) m a0 a1 a2 x3 x4 ((m (a0 + 1) x4) - 10000))) else (gdx (((m (a0 + 1) x4) - 10000) - 18) 6 (gdx x3 64 (wt (up m a2 x3 (m a1 (((m (a0 + 1) x4) - 10000) - 18))) fun m17 => gd3 (x3 + 1) (gd3 (x4 + 1) (G2_valueFor_5 n m17 a0 a1 a2 (x3 + 1) (x4 + 1)))))))))) else (gdx x4 64 (gdx x3 64 (wt (up m a2 x3 (m (a0 + 1) x4)) fun m23 => gd3 (x3 + 1) (gd3 (x4 + 1) (G2_valueFor_5 n m23 a0 a1 a2 (x3 + 1) (x4 + 1))))))))))
def G2_valueFor_0 (m : Mem) (a0 : Nat) (a1 : Nat) (a2 : Nat) : Option (Int × Mem) := G2_valueFor_5 1024 m a0 a1 a2 0 0
def G2_valueFor (m : Mem) (a0 : Nat) (a1 : Nat) (a2 : Nat) : Option (Int × Mem) := G2_valueFor_0 m a0 a1 a2
def G6_awayFor_0 (m : Mem) (a0 : Nat) (x1 : Int) (x2 : Int) : Option (Int × Mem) := (G6_nameAway m a0 x1 x2).bind fun o1 => (G2_valueFor o1 ((o1 a0 0).toNat + 20) (a0 + 4) (a0 + 5)).bind fun o13 => if o13.1 = (-9223372036854775808) then (some (5, o13.2)) else (gd3 (if (if o13.1 < 30 then o13.1 else 30) < 1 then 1 else (if o13.1 < 30 then o13.1 else 30)) (some ((if (if o13.1 < 30 then o13.1 else 30) < 1 then 1 else (if o13.1 < 30 then o13.1 else 30)), o13.2)))
def G6_awayFor (m : Mem) (a0 : Nat) (x1 : Int) (x2 : Int) : Option (Int × Mem) := G6_awayFor_0 m a0 x1 x2
def G8_farFrom_0 (m : Mem) (a0 : Nat) (x1 : Int) (x2 : Int) : Option (Int × Mem) := if 1 ≤ (m a0 0) then (if (m a0 0) = 0 then (none) else (if (m a0 0) = 0 then (none) else (gdd x1 (m a0 0) (gd3 ((x1 % (m a0 0)) - x2) (gdd x1 (m a0 0) (gdd x1 (m a0 0) (gdd x1 (m a0 0) (gd3 ((x1 / (m a0 0)) - (m a0 3)) (gdd x1 (m a0 0) (gdd x1 (m a0 0) (gd3 ((if 0 ≤ ((x1 % (m a0 0)) - x2) then ((x1 % (m a0 0)) - x2) else (0 - ((x1 % (m a0 0)) - x2))) + (if 0 ≤ ((x1 / (m a0 0)) - (m a0 3)) then ((x1 / (m a0 0)) - (m a0 3)) else (0 - ((x1 / (m a0 0)) - (m a0 3))))) (some (((if 0 ≤ ((x1 % (m a0 0)) - x2) then ((x1 % (m a0 0)) - x2) else (0 - ((x1 % (m a0 0)) - x2))) + (if 0 ≤ ((x1 / (m a0 0)) - (m a0 3)) then ((x1 / (m a0 0)) - (m a0 3)) else (0 - ((x1 / (m a0 0)) - (m a0 3))))), m))))))))))))) else (some (0, m))
def G8_farFrom (m : Mem) (a0 : Nat) (x1 : Int) (x2 : Int) : Option (Int × Mem) := G8_farFrom_0 m a0 x1 x2
def G8_rowOf_0 (m : Mem) (a0 : Nat) (x1 : Int) : Option (Int × Mem) := if (m a0 0) ≤ 0 then (some (0, m)) else (if (m a0 0) = 0 then (none) else (gdd x1 (m a0 0) (some ((x1 / (m a0 0)), m))))
def G8_rowOf (m : Mem) (a0 : Nat) (x1 : Int) : Option (Int × Mem) := G8_rowOf_0 m a0 x1
def G6_nameCatch_0 (m : Mem) (a0 : Nat) (x1 : Int) (x2 : Int) (x3 : Int) : Option Mem := (G6_nameAway m a0 x1 x2).bind fun o1 => gdx x2 28 ((G8_farFrom o1 ((o1 a0 0).toNat) x3 (o1 (a0 + 3) x2)).bind fun o11 => wt (up o11.2 (a0 + 4) 0 o11.1) fun m14 => (G8_rowOf m14 ((m14 a0 0).toNat) x3).bind fun o19 => gd3 (o19.1 - (o19.2 ((o19.2 a0 0).toNat) 3)) (wt (up o19.2 (a0 + 4) 1 (o19.1 - (o19.2 ((o19.2 a0 0).toNat) 3))) fun m26 => some m26))
def G6_nameCatch (m : Mem) (a0 : Nat) (x1 : Int) (x2 : Int) (x3 : Int) : Option Mem := G6_nameCatch_0 m a0 x1 x2 x3
def G6_farOf_0 (m : Mem) (a0 : Nat) (x1 : Int) (x2 : Int) : Option (Int × Mem) := gdx x2 28 ((G8_farFrom m ((m a0 0).toNat) x1 (m (a0 + 3) x2)).bind fun o7 => some (o7.1, o7.2))
def G6_farOf (m : Mem) (a0 : Nat) (x1 : Int) (x2 : Int) : Option (Int × Mem) := G6_farOf_0 m a0 x1 x2
def G6_oddsAt_0 (m : Mem) (a0 : Nat) (x1 : Int) (x2 : Int) (x3 : Int) : Option (Int × Mem) := (G6_nameCatch m a0 x1 x2 x3).bind fun o1 => (G2_valueFor o1 ((o1 a0 0).toNat + 16) (a0 + 4) (a0 + 5)).bind fun o13 => if o13.1 = (-9223372036854775808) then ((G6_farOf o13.2 a0 x3 x2).bind fun o16 => gd3 (100 - (20 * o16.1)) (gd3 (if 0 < (100 - (20 * o16.1)) then (100 - (20 * o16.1)) else 0) (some ((if 0 < (100 - (20 * o16.1)) then (100 - (20 * o16.1)) else 0), o16.2)))) else (gd3 (if (if o13.1 < 100 then o13.1 else 100) < 0 then 0 else (if o13.1 < 100 then o13.1 else 100)) (some ((if (if o13.1 < 100 then o13.1 else 100) < 0 then 0 else (if o13.1 < 100 then o13.1 else 100)), o13.2)))
def G6_oddsAt (m : Mem) (a0 : Nat) (x1 : Int) (x2 : Int) (x3 : Int) : Option (Int × Mem) := G6_oddsAt_0 m a0 x1 x2 x3
def G6_worthAt_0 (m : Mem) (a0 : Nat) (x1 : Int) (x2 : Int) (x3 : Int) : Option (Int × Mem) := (G6_oddsAt m a0 x1 x2 x3).bind fun o1 => gdx x2 28 (gd3 (o1.1 * (o1.2 ((o1.2 a0 0).toNat + 12) x2)) (some ((o1.1 * (o1.2 ((o1.2 a0 0).toNat + 12) x2)), o1.2)))
def G6_worthAt (m : Mem) (a0 : Nat) (x1 : Int) (x2 : Int) (x3 : Int) : Option (Int × Mem) := G6_worthAt_0 m a0 x1 x2 x3
def G0_makePlan_128 (kk40 : Mem → Nat → Nat → Int → Nat → Int → Int → Option Mem) (m : Mem) (a1 : Nat) (a2 : Nat) (x3 : Int) (a4 : Nat) (x5 : Int) (x6 : Int) (x7 : Int) (s0 : Int) (s1 : Int) : Option Mem := gdx s1 28 (gdb s0 (wt (up m 108 s1 s0) fun m2 => gdx (x6 + 1) 29 (gdx x6 29 (wt (up m2 106 x6 (if x7 < (m2 106 (x6 + 1)) then (m2 106 (x6 + 1)) else x7)) fun m10 => gd3 (x6 + (-1)) (kk40 m10 a1 a2 x3 a4 x5 (x6 + (-1)))))))
def G0_makePlan_40 : Nat → Mem → Nat → Nat → Int → Nat → Int → Int → Option Mem
  | 0, _, _, _, _, _, _, _ => none
  | n + 1, m, a1, a2, x3, a4, x5, x6 => if x6 < x5 then (gdx x5 29 (wt (up m 99 12 (m 106 x5)) fun m6 => (G0_listPlan m6 x5 (m6 a4 1)).bind fun o10 => some o10)) else (gdx x6 28 ((G6_awayFor m a1 x3 x6).bind fun o18 => gd3 ((m (a4 + 3) x6) + o18.1) ((G10_firstFrom o18.2 a4 ((m (a4 + 3) x6) + o18.1)).bind fun o20 => gdx x6 28 (wt (up o20.2 107 x6 o20.1) fun m23 => gdx x3 5 ((G6_worthAt m23 a1 x3 x6 (m23 (a2 + 1) x3)).bind fun o28 => gdx x6 28 (gdx (o28.2 107 x6) 29 (gdx (x6 + 1) 29 (gd3 (o28.1 + (o28.2 106 (o28.2 107 x6))) (if (o28.1 + (o28.2 106 (o28.2 107 x6))) < (o28.2 106 (x6 + 1)) then (gd3 (o28.1 + (o28.2 106 (o28.2 107 x6))) (G0_makePlan_128 (fun m a1 a2 x3 a4 x5 x6 => G0_makePlan_40 n m a1 a2 x3 a4 x5 x6) o28.2 a1 a2 x3 a4 x5 x6 (o28.1 + (o28.2 106 (o28.2 107 x6))) 0 x6)) else (gd3 (o28.1 + (o28.2 106 (o28.2 107 x6))) (G0_makePlan_128 (fun m a1 a2 x3 a4 x5 x6 => G0_makePlan_40 n m a1 a2 x3 a4 x5 x6) o28.2 a1 a2 x3 a4 x5 x6 (o28.1 + (o28.2 106 (o28.2 107 x6))) 1 x6)))))))))))
def G0_makePlan_0 (m : Mem) (a1 : Nat) (a2 : Nat) (x3 : Int) : Option Mem := (G10_firstFrom m ((m a1 0).toNat + 8) (m a2 0)).bind fun o7 => gdx (o7.2 ((m a1 0).toNat + 8) 1) 29 (wt (up o7.2 106 (o7.2 ((m a1 0).toNat + 8) 1) 0) fun m14 => gd3 ((m14 ((m a1 0).toNat + 8) 1) - 1) (G0_makePlan_40 1024 m14 a1 a2 x3 ((m a1 0).toNat + 8) o7.1 ((m14 ((m a1 0).toNat + 8) 1) - 1)))
def G0_makePlan (m : Mem) (a1 : Nat) (a2 : Nat) (x3 : Int) : Option Mem := G0_makePlan_0 m a1 a2 x3
def G8_columnOf_0 (m : Mem) (a0 : Nat) (x1 : Int) : Option (Int × Mem) := if (m a0 0) ≤ 0 then (some (0, m)) else (if (m a0 0) = 0 then (none) else (gdd x1 (m a0 0) (some ((x1 % (m a0 0)), m))))
def G8_columnOf (m : Mem) (a0 : Nat) (x1 : Int) : Option (Int × Mem) := G8_columnOf_0 m a0 x1
def G8_cellBeside_0 (m : Mem) (a0 : Nat) (x1 : Int) (x2 : Int) : Option (Int × Mem) := (G8_columnOf m a0 x1).bind fun o1 => (G8_rowOf o1.2 a0 x1).bind fun o3 => if x2 = 0 then (if o3.1 ≤ 0 then (some ((-1), o3.2)) else (gd3 (x1 - (o3.2 a0 0)) (some ((x1 - (o3.2 a0 0)), o3.2)))) else (if x2 = 1 then (gd3 ((o3.2 a0 0) - 1) (if ((o3.2 a0 0) - 1) ≤ o1.1 then (some ((-1), o3.2)) else (gd3 (x1 + 1) (some ((x1 + 1), o3.2))))) else (if x2 = 2 then (gd3 ((o3.2 a0 1) - 1) (if ((o3.2 a0 1) - 1) ≤ o3.1 then (some ((-1), o3.2)) else (gd3 (x1 + (o3.2 a0 0)) (some ((x1 + (o3.2 a0 0)), o3.2))))) else (if x2 = 3 then (if o1.1 ≤ 0 then (some ((-1), o3.2)) else (gd3 (x1 - 1) (some ((x1 - 1), o3.2)))) else (some (x1, o3.2)))))
def G8_cellBeside (m : Mem) (a0 : Nat) (x1 : Int) (x2 : Int) : Option (Int × Mem) := G8_cellBeside_0 m a0 x1 x2
def G0_weighWays_46 (kk3 : Mem → Nat → Nat → Int → Int → Int → Int → Option Mem) : Nat → Mem → Nat → Nat → Int → Int → Int → Int → Int → Int → Option Mem
  | 0, _, _, _, _, _, _, _, _, _ => none
  | n + 1, m, a1, a2, x3, x4, x5, x6, x7, x8 => if x7 = (-1) then (gd3 (x6 + 1) (kk3 m a1 a2 x3 x4 x5 (x6 + 1))) else (if (m ((m a1 0).toNat + 8) 1) ≤ x8 then (gd3 (x6 + 1) (kk3 m a1 a2 x3 x4 x5 (x6 + 1))) else ((G6_farOf m a1 x7 x8).bind fun o11 => gdx (((x4 + x6) * 28) + x8) 280 (wt (up o11.2 101 (((x4 + x6) * 28) + x8) o11.1) fun m14 => (G6_worthAt m14 a1 x3 x8 x7).bind fun o17 => gdx (((x4 + x6) * 28) + x8) 280 (wt (up o17.2 102 (((x4 + x6) * 28) + x8) o17.1) fun m20 => gd3 (x8 + 1) (G0_weighWays_46 kk3 n m20 a1 a2 x3 x4 x5 x6 x7 (x8 + 1))))))
def G0_weighWays_3 : Nat → Mem → Nat → Nat → Int → Int → Int → Int → Option Mem
  | 0, _, _, _, _, _, _, _ => none
  | n + 1, m, a1, a2, x3, x4, x5, x6 => if 5 ≤ x6 then (some m) else (gdx x3 5 (gdx x6 5 ((G8_cellBeside m ((m a1 0).toNat) (m (a2 + 1) x3) (gw x6)).bind fun o12 => gdx (x4 + x6) 10 (wt (up o12.2 100 (x4 + x6) o12.1) fun m17 => G0_weighWays_46 (fun m a1 a2 x3 x4 x5 x6 => G0_weighWays_3 n m a1 a2 x3 x4 x5 x6) 1024 m17 a1 a2 x3 x4 x5 x6 o12.1 x5))))
def G0_weighWays_0 (m : Mem) (a1 : Nat) (a2 : Nat) (x3 : Int) (x4 : Int) (x5 : Int) : Option Mem := G0_weighWays_3 1024 m a1 a2 x3 x4 x5 0
def G0_weighWays (m : Mem) (a1 : Nat) (a2 : Nat) (x3 : Int) (x4 : Int) (x5 : Int) : Option Mem := G0_weighWays_0 m a1 a2 x3 x4 x5
def G0_sharePair_75 (kk9 : Mem → Int → Int → Int → Int → Int → Int → Int → Option Mem) (m : Mem) (x1 : Int) (x2 : Int) (x4 : Int) (x5 : Int) (x6 : Int) (x7 : Int) (x8 : Int) (x9 : Int) : Option Mem := gdx x9 280 (gd3 (x6 + (m 102 x9)) (gd3 (x8 + 1) (kk9 m x1 x2 x4 x5 (x6 + (m 102 x9)) x7 (x8 + 1))))
def G0_sharePair_90 (kk9 : Mem → Int → Int → Int → Int → Int → Int → Int → Option Mem) (m : Mem) (x1 : Int) (x2 : Int) (x4 : Int) (x5 : Int) (x6 : Int) (x7 : Int) (x8 : Int) (x10 : Int) : Option Mem := gdx x10 280 (gd3 (x7 + (m 102 x10)) (gd3 (x8 + 1) (kk9 m x1 x2 x4 x5 x6 (x7 + (m 102 x10)) (x8 + 1))))
def G0_sharePair_9 : Nat → Mem → Int → Int → Int → Int → Int → Int → Int → Option Mem
  | 0, _, _, _, _, _, _, _, _ => none
  | n + 1, m, x1, x2, x4, x5, x6, x7, x8 => if x4 ≤ x8 then (gdx ((x1 * 5) + x2) 25 (wt (up m 103 ((x1 * 5) + x2) x6) fun m5 => gdx ((x1 * 5) + x2) 25 (wt (up m5 104 ((x1 * 5) + x2) x7) fun m9 => some m9))) else (gdx ((x1 * 28) + x8) 280 (gdx (((5 + x2) * 28) + x8) 280 (if (m 101 ((x1 * 28) + x8)) < (m 101 (((5 + x2) * 28) + x8)) then (gd3 ((x1 * 28) + x8) (G0_sharePair_75 (fun m x1 x2 x4 x5 x6 x7 x8 => G0_sharePair_9 n m x1 x2 x4 x5 x6 x7 x8) m x1 x2 x4 x5 x6 x7 x8 ((x1 * 28) + x8))) else (gdx ((x1 * 28) + x8) 280 (gdx (((5 + x2) * 28) + x8) 280 (if (m 101 ((x1 * 28) + x8)) = (m 101 (((5 + x2) * 28) + x8)) then (if x5 = 0 then (gd3 (((5 + x2) * 28) + x8) (G0_sharePair_90 (fun m x1 x2 x4 x5 x6 x7 x8 => G0_sharePair_9 n m x1 x2 x4 x5 x6 x7 x8) m x1 x2 x4 x5 x6 x7 x8 (((5 + x2) * 28) + x8))) else (gd3 ((x1 * 28) + x8) (G0_sharePair_75 (fun m x1 x2 x4 x5 x6 x7 x8 => G0_sharePair_9 n m x1 x2 x4 x5 x6 x7 x8) m x1 x2 x4 x5 x6 x7 x8 ((x1 * 28) + x8)))) else (gd3 (((5 + x2) * 28) + x8) (G0_sharePair_90 (fun m x1 x2 x4 x5 x6 x7 x8 => G0_sharePair_9 n m x1 x2 x4 x5 x6 x7 x8) m x1 x2 x4 x5 x6 x7 x8 (((5 + x2) * 28) + x8)))))))))
def G0_sharePair_0 (m : Mem) (x1 : Int) (x2 : Int) (x3 : Int) (x4 : Int) (x5 : Int) : Option Mem := G0_sharePair_9 1024 m x1 x2 x4 x5 0 0 x3
def G0_sharePair (m : Mem) (x1 : Int) (x2 : Int) (x3 : Int) (x4 : Int) (x5 : Int) : Option Mem := G0_sharePair_0 m x1 x2 x3 x4 x5
def G0_playGame_83 (kk40 : Mem → Nat → Int → Int → Int → Int → Option Mem) (kk49 : Mem → Nat → Int → Int → Int → Int → Int → Option Mem) (m : Mem) (a1 : Nat) (x3 : Int) (x4 : Int) (x5 : Int) (x6 : Int) (x7 : Int) (s0 : Int) (s1 : Int) (s2 : Int) (s3 : Int) (s4 : Int) : Option Mem := (G0_sharePair m s4 s3 s2 s1 s0).bind fun o1 => gd3 (x7 + 1) (kk49 o1 a1 x3 x4 x5 x6 (x7 + 1))
def G0_playGame_49 (kk40 : Mem → Nat → Int → Int → Int → Int → Option Mem) : Nat → Mem → Nat → Int → Int → Int → Int → Int → Option Mem
  | 0, _, _, _, _, _, _, _ => none
  | n + 1, m, a1, x3, x4, x5, x6, x7 => if 5 ≤ x7 then (gd3 (x6 + 1) (kk40 m a1 x3 x4 x5 (x6 + 1))) else (if x4 ≤ x3 then (G0_playGame_83 kk40 (fun m a1 x3 x4 x5 x6 x7 => G0_playGame_49 kk40 n m a1 x3 x4 x5 x6 x7) m a1 x3 x4 x5 x6 x7 0 (m ((m a1 0).toNat + 8) 1) x5 x7 x6) else (G0_playGame_83 kk40 (fun m a1 x3 x4 x5 x6 x7 => G0_playGame_49 kk40 n m a1 x3 x4 x5 x6 x7) m a1 x3 x4 x5 x6 x7 1 (m ((m a1 0).toNat + 8) 1) x5 x7 x6))
def G0_playGame_40 : Nat → Mem → Nat → Int → Int → Int → Int → Option Mem
  | 0, _, _, _, _, _, _ => none
  | n + 1, m, a1, x3, x4, x5, x6 => if 5 ≤ x6 then ((G0_findRests m).bind fun o2 => some o2) else (G0_playGame_49 (fun m a1 x3 x4 x5 x6 => G0_playGame_40 n m a1 x3 x4 x5 x6) 1024 m a1 x3 x4 x5 x6 0)
def G0_playGame_0 (m : Mem) (a1 : Nat) (a2 : Nat) (x3 : Int) (x4 : Int) : Option Mem := (G10_firstFrom m ((m a1 0).toNat + 8) (m a2 0)).bind fun o7 => (G0_weighWays o7.2 a1 a2 x3 0 o7.1).bind fun o9 => (G0_weighWays o9 a1 a2 x4 5 o7.1).bind fun o11 => G0_playGame_40 1024 o11 a1 x3 x4 o7.1 0
def G0_playGame (m : Mem) (a1 : Nat) (a2 : Nat) (x3 : Int) (x4 : Int) : Option Mem := G0_playGame_0 m a1 a2 x3 x4
def G1_add_0 (m : Mem) (a0 : Nat) (x1 : Int) (x2 : Int) (x3 : Int) (x4 : Int) (x5 : Int) (x6 : Int) : Option Mem := if (m a0 0) < 5 then (gdx (m a0 0) 5 (wt (up m (a0 + 1) (m a0 0) x1) fun m9 => gdx (m9 a0 0) 5 (wt (up m9 (a0 + 2) (m9 a0 0) x2) fun m15 => gdx (m15 a0 0) 5 (wt (up m15 (a0 + 3) (m15 a0 0) x3) fun m21 => gdx (m21 a0 0) 5 (wt (up m21 (a0 + 4) (m21 a0 0) x4) fun m27 => gdx (m27 a0 0) 5 (wt (up m27 (a0 + 5) (m27 a0 0) x5) fun m33 => gdx (m33 a0 0) 5 (wt (up m33 (a0 + 6) (m33 a0 0) x6) fun m39 => gd3 ((m39 a0 0) + 1) (wt (up m39 a0 0 ((m39 a0 0) + 1)) fun m42 => some m42)))))))) else (some m)
def G1_add (m : Mem) (a0 : Nat) (x1 : Int) (x2 : Int) (x3 : Int) (x4 : Int) (x5 : Int) (x6 : Int) : Option Mem := G1_add_0 m a0 x1 x2 x3 x4 x5 x6
def G1_hasName_2 : Nat → Mem → Nat → Int → Int → Option (Int × Mem)
  | 0, _, _, _, _ => none
  | n + 1, m, a0, x1, x2 => if (m a0 0) ≤ x2 then (some (0, m)) else (gdx x2 5 (if (m (a0 + 1) x2) = x1 then (some (1, m)) else (gd3 (x2 + 1) (G1_hasName_2 n m a0 x1 (x2 + 1)))))
def G1_hasName_0 (m : Mem) (a0 : Nat) (x1 : Int) : Option (Int × Mem) := G1_hasName_2 1024 m a0 x1 0
def G1_hasName (m : Mem) (a0 : Nat) (x1 : Int) : Option (Int × Mem) := G1_hasName_0 m a0 x1
def G2_add_0 (m : Mem) (a0 : Nat) (x1 : Int) : Option Mem := if 64 ≤ (m a0 1) then (some m) else (gdx (m a0 1) 64 (wt (up m (a0 + 1) (m a0 1) x1) fun m13 => gd3 ((m13 a0 1) + 1) (wt (up m13 a0 1 ((m13 a0 1) + 1)) fun m16 => some m16)))
def G2_add (m : Mem) (a0 : Nat) (x1 : Int) : Option Mem := G2_add_0 m a0 x1
def G2_forget_0 (m : Mem) (a0 : Nat) : Option Mem := wt (up m a0 1 0) fun m1 => wt (up m1 a0 2 0) fun m3 => some m3
def G2_forget (m : Mem) (a0 : Nat) : Option Mem := G2_forget_0 m a0
def G3_addSeat_0 (m : Mem) (x1 : Int) (x2 : Int) (x3 : Int) : Option (Int × Mem) := if (m 90 0) < 24 then (gdx (m 90 0) 24 (wt (up m 91 (m 90 0) x1) fun m9 => gdx (m9 90 0) 24 (wt (up m9 92 (m9 90 0) x2) fun m15 => gdx (m15 90 0) 24 (wt (up m15 93 (m15 90 0) x3) fun m21 => gdx (m21 90 0) 24 (wt (up m21 94 (m21 90 0) (-1)) fun m27 => gd3 ((m27 90 0) + 1) (wt (up m27 90 0 ((m27 90 0) + 1)) fun m30 => gd3 ((m30 90 0) - 1) (some (((m30 90 0) - 1), m30)))))))) else (some ((-1), m))
def G3_addSeat (m : Mem) (x1 : Int) (x2 : Int) (x3 : Int) : Option (Int × Mem) := G3_addSeat_0 m x1 x2 x3
def G3_addStrike_0 (m : Mem) (x1 : Int) : Option (Int × Mem) := if (m 90 0) < 24 then (gdx (m 90 0) 24 (wt (up m 92 (m 90 0) (-1)) fun m9 => gdx (m9 90 0) 24 (wt (up m9 94 (m9 90 0) x1) fun m15 => gd3 ((m15 90 0) + 1) (wt (up m15 90 0 ((m15 90 0) + 1)) fun m18 => gd3 ((m18 90 0) - 1) (some (((m18 90 0) - 1), m18)))))) else (some ((-1), m))
def G3_addStrike (m : Mem) (x1 : Int) : Option (Int × Mem) := G3_addStrike_0 m x1
def G3_howManyKnown_0 (m : Mem) : Option (Int × Mem) := if (m 90 1) = (-1) then (some ((m 90 0), m)) else (some ((m 90 1), m))
def G3_howManyKnown (m : Mem) : Option (Int × Mem) := G3_howManyKnown_0 m
def G3_findStruck_29 : Nat → Mem → Int → Option Mem
  | 0, _, _ => none
  | n + 1, m, x2 => if x2 < 0 then (some m) else (gdx x2 24 (if (m 95 x2) = 0 then (gdx x2 24 (if (m 94 x2) = (-1) then (gd3 (x2 + (-1)) (G3_findStruck_29 n m (x2 + (-1)))) else (gdx x2 24 (gdx (m 94 x2) 24 (gdb 1 (wt (up m 95 (m 94 x2) 1) fun m19 => gd3 (x2 + (-1)) (G3_findStruck_29 n m19 (x2 + (-1))))))))) else (gd3 (x2 + (-1)) (G3_findStruck_29 n m (x2 + (-1))))))
def G3_findStruck_7 : Nat → Mem → Int → Int → Option Mem
  | 0, _, _, _ => none
  | n + 1, m, x1, x2 => if x1 ≤ x2 then (gd3 (x1 - 1) (G3_findStruck_29 1024 m (x1 - 1))) else (gdx x2 24 (gdb 0 (wt (up m 95 x2 0) fun m5 => gd3 (x2 + 1) (G3_findStruck_7 n m5 x1 (x2 + 1)))))
def G3_findStruck_0 (m : Mem) : Option Mem := (G3_howManyKnown m).bind fun o1 => G3_findStruck_7 1024 o1.2 o1.1 0
def G3_findStruck (m : Mem) : Option Mem := G3_findStruck_0 m
def G3_isKnownSeat_0 (m : Mem) (x1 : Int) : Option (Int × Mem) := gdx x1 24 (if (m 95 x1) = 0 then (gdx x1 24 (if (m 94 x1) = (-1) then (some (1, m)) else (some (0, m)))) else (some (0, m)))
def G3_isKnownSeat (m : Mem) (x1 : Int) : Option (Int × Mem) := G3_isKnownSeat_0 m x1
def G4_begin_89 : Nat → Mem → Nat → Int → Option Mem
  | 0, _, _, _ => none
  | n + 1, m, a0, x2 => if 28 ≤ x2 then (some m) else (gdx x2 28 (wt (up m (a0 + 6) x2 (-2)) fun m5 => gd3 (x2 + 1) (G4_begin_89 n m5 a0 (x2 + 1))))
def G4_begin_33 : Nat → Mem → Nat → Nat → Int → Option Mem
  | 0, _, _, _, _ => none
  | n + 1, m, a0, a1, x2 => if 5 ≤ x2 then (G4_begin_89 1024 m a0 0) else (gdx x2 5 (gdx x2 5 (wt (up m (a0 + 1) x2 (m (a1 + 3) x2)) fun m11 => gdx x2 5 (wt (up m11 (a0 + 2) x2 0) fun m15 => gdx x2 5 (wt (up m15 (a0 + 3) x2 0) fun m19 => gdx x2 5 (wt (up m19 (a0 + 4) x2 0) fun m23 => gdx x2 5 (wt (up m23 (a0 + 5) x2 0) fun m27 => gd3 (x2 + 1) (G4_begin_33 n m27 a0 a1 (x2 + 1)))))))))
def G4_begin_0 (m : Mem) (a0 : Nat) (a1 : Nat) : Option Mem := wt (up m a0 0 0) fun m1 => wt (up m1 a0 1 (m1 a1 9)) fun m5 => wt (up m5 a0 2 (m5 a1 10)) fun m9 => wt (up m9 a0 3 0) fun m11 => wt (up m11 a0 4 0) fun m13 => G4_begin_33 1024 m13 a0 a1 0
def G4_begin (m : Mem) (a0 : Nat) (a1 : Nat) : Option Mem := G4_begin_0 m a0 a1
def G4_isIn_0 (m : Mem) (a0 : Nat) (x1 : Int) (x2 : Int) : Option (Int × Mem) := gdx x1 5 (if x2 < (m (a0 + 4) x1) then (some (0, m)) else (some (1, m)))
def G4_isIn (m : Mem) (a0 : Nat) (x1 : Int) (x2 : Int) : Option (Int × Mem) := G4_isIn_0 m a0 x1 x2
def G4_beginMinute_36 (kk12 : Mem → Nat → Int → Int → Option Mem) (m : Mem) (a0 : Nat) (x1 : Int) (x2 : Int) : Option Mem := gdx x2 5 (wt (up m (a0 + 5) x2 0) fun m4 => gd3 (x2 + 1) (kk12 m4 a0 x1 (x2 + 1)))
def G4_beginMinute_12 : Nat → Mem → Nat → Int → Int → Option Mem
  | 0, _, _, _, _ => none
  | n + 1, m, a0, x1, x2 => if x1 ≤ x2 then (some m) else ((G4_isIn m a0 x2 (m a0 0)).bind fun o4 => if o4.1 = 0 then (G4_beginMinute_36 (fun m a0 x1 x2 => G4_beginMinute_12 n m a0 x1 x2) o4.2 a0 x1 x2) else (gdx x2 5 (wt (up o4.2 (a0 + 4) x2 0) fun m10 => G4_beginMinute_36 (fun m a0 x1 x2 => G4_beginMinute_12 n m a0 x1 x2) m10 a0 x1 x2)))
def G4_beginMinute_0 (m : Mem) (a0 : Nat) (x1 : Int) : Option Mem := gd3 ((m a0 0) + 1) (wt (up m a0 0 ((m a0 0) + 1)) fun m3 => G4_beginMinute_12 1024 m3 a0 x1 0)
def G4_beginMinute (m : Mem) (a0 : Nat) (x1 : Int) : Option Mem := G4_beginMinute_0 m a0 x1
def G4_drawHundredth_0 (m : Mem) (a0 : Nat) : Option (Int × Mem) := gd3 (b6an (((m a0 2) * 1103515245) + 12345) 2147483647) (wt (up m a0 2 (b6an (((m a0 2) * 1103515245) + 12345) 2147483647)) fun m3 => gdd (b3sr (m3 a0 2) (b3an 16 31)) 100 (some (((b3sr (m3 a0 2) (b3an 16 31)) % 100), m3)))
def G4_drawHundredth (m : Mem) (a0 : Nat) : Option (Int × Mem) := G4_drawHundredth_0 m a0
def G4_hadInSum_4 : Nat → Mem → Nat → Int → Int → Int → Option (Int × Mem)
  | 0, _, _, _, _, _ => none
  | n + 1, m, a0, x1, x2, x3 => if x1 ≤ x3 then (some (x2, m)) else (gdx x3 5 (gd3 (x2 + (m (a0 + 2) x3)) (gd3 (x3 + 1) (G4_hadInSum_4 n m a0 x1 (x2 + (m (a0 + 2) x3)) (x3 + 1)))))
def G4_hadInSum_0 (m : Mem) (a0 : Nat) (x1 : Int) : Option (Int × Mem) := G4_hadInSum_4 1024 m a0 x1 0 0
def G4_hadInSum (m : Mem) (a0 : Nat) (x1 : Int) : Option (Int × Mem) := G4_hadInSum_0 m a0 x1
def G4_leaveOut_0 (m : Mem) (a0 : Nat) (x1 : Int) : Option Mem := gdx x1 5 (wt (up m (a0 + 4) x1 2147483647) fun m4 => some m4)
def G4_leaveOut (m : Mem) (a0 : Nat) (x1 : Int) : Option Mem := G4_leaveOut_0 m a0 x1
def G4_seatAll_2 : Nat → Mem → Nat → Int → Int → Option Mem
  | 0, _, _, _, _ => none
  | n + 1, m, a0, x1, x2 => if 5 ≤ x2 then (some m) else (gdx x2 5 (wt (up m (a0 + 1) x2 x1) fun m5 => gd3 (x2 + 1) (G4_seatAll_2 n m5 a0 x1 (x2 + 1))))
def G4_seatAll_0 (m : Mem) (a0 : Nat) (x1 : Int) : Option Mem := G4_seatAll_2 1024 m a0 x1 0
def G4_seatAll (m : Mem) (a0 : Nat) (x1 : Int) : Option Mem := G4_seatAll_0 m a0 x1
def G4_takeAll_0 (m : Mem) (a0 : Nat) (a1 : Nat) : Option Mem := wt (up m a0 0 (m a1 0)) fun m3 => wt (up m3 a0 1 (m3 a1 1)) fun m7 => wt (up m7 a0 2 (m7 a1 2)) fun m11 => wt (up m11 a0 3 (m11 a1 3)) fun m15 => wt (up m15 a0 4 (m15 a1 4)) fun m19 => wt (cpy m19 (a1 + 1) 0 (a0 + 1) 0 5) fun m25 => wt (cpy m25 (a1 + 2) 0 (a0 + 2) 0 5) fun m31 => wt (cpy m31 (a1 + 3) 0 (a0 + 3) 0 5) fun m37 => wt (cpy m37 (a1 + 4) 0 (a0 + 4) 0 5) fun m43 => wt (cpy m43 (a1 + 5) 0 (a0 + 5) 0 5) fun m49 => wt (cpy m49 (a1 + 6) 0 (a0 + 6) 0 28) fun m55 => some m55
def G4_takeAll (m : Mem) (a0 : Nat) (a1 : Nat) : Option Mem := G4_takeAll_0 m a0 a1
def G4_takeForRun_0 (m : Mem) (a0 : Nat) (a1 : Nat) (x2 : Int) (x3 : Int) : Option Mem := (G4_takeAll m a0 a1).bind fun o1 => wt (up o1 a0 1 x2) fun m3 => wt (up m3 a0 2 x3) fun m5 => wt (up m5 a0 3 0) fun m7 => wt (up m7 a0 4 0) fun m9 => some m9
def G4_takeForRun (m : Mem) (a0 : Nat) (a1 : Nat) (x2 : Int) (x3 : Int) : Option Mem := G4_takeForRun_0 m a0 a1 x2 x3
def G4_unlike_24 : Nat → Mem → Nat → Int → Int → Int → Int → Option (Int × Mem)
  | 0, _, _, _, _, _, _ => none
  | n + 1, m, a0, x1, x2, x3, x4 => if x1 ≤ x4 then (gd3 (x2 - x3) (some ((x2 - x3), m))) else (gdx x4 5 (gdx x4 5 (gd3 (x4 + 1) (G4_unlike_24 n m a0 x1 (if x2 < (m (a0 + 2) x4) then (m (a0 + 2) x4) else x2) (if (m (a0 + 2) x4) < x3 then (m (a0 + 2) x4) else x3) (x4 + 1)))))
def G4_unlike_0 (m : Mem) (a0 : Nat) (x1 : Int) : Option (Int × Mem) := if 1 ≤ x1 then (G4_unlike_24 1024 m a0 x1 (m (a0 + 2) 0) (m (a0 + 2) 0) 1) else (some (0, m))
def G4_unlike (m : Mem) (a0 : Nat) (x1 : Int) : Option (Int × Mem) := G4_unlike_0 m a0 x1
def G5_refuse_0 (m : Mem) (x1 : Int) : Option (Int × Mem) := wt (up m 46 8 x1) fun m1 => wt (up m1 46 9 (m1 47 5)) fun m7 => some (0, m7)
def G5_refuse (m : Mem) (x1 : Int) : Option (Int × Mem) := G5_refuse_0 m x1
def G5_countKnot_0 (m : Mem) : Option (Int × Mem) := if (m ((m 46 10).toNat) 13) < 64 then (gd3 ((m ((m 46 10).toNat) 13) + 1) (wt (up m ((m 46 10).toNat) 13 ((m ((m 46 10).toNat) 13) + 1)) fun m10 => some (1, m10))) else ((G5_refuse m 2).bind fun o12 => gdb o12.1 (some (o12.1, o12.2)))
def G5_countKnot (m : Mem) : Option (Int × Mem) := G5_countKnot_0 m
def G7_isLetter_0 (m : Mem) (x0 : Int) : Option (Int × Mem) := if x0 < 97 then (some (0, m)) else (if 122 < x0 then (some (0, m)) else (some (1, m)))
def G7_isLetter (m : Mem) (x0 : Int) : Option (Int × Mem) := G7_isLetter_0 m x0
def G7_letterBits_0 (m : Mem) (x0 : Int) (x1 : Int) : Option (Int × Mem) := some ((b3sl ((x0 - 97) + 1) (b3an (25 - (5 * x1)) 31)), m)
def G7_letterBits (m : Mem) (x0 : Int) (x1 : Int) : Option (Int × Mem) := G7_letterBits_0 m x0 x1
def G5_isFirst_0 (m : Mem) (x1 : Int) : Option (Int × Mem) := if (b3an (m 46 6) (b3sl 1 (b3an x1 31))) = 0 then (wt (up m 46 6 (b3or (m 46 6) (b3sl 1 (b3an x1 31)))) fun m6 => some (1, m6)) else ((G5_refuse m 3).bind fun o8 => gdb o8.1 (some (o8.1, o8.2)))
def G5_isFirst (m : Mem) (x1 : Int) : Option (Int × Mem) := G5_isFirst_0 m x1
def G5_letWait_0 (m : Mem) (x1 : Int) : Option (Int × Mem) := if (m 46 2) < 72 then (gdx (m 46 2) 72 (wt (up m 50 (m 46 2) x1) fun m13 => gd3 ((m13 46 2) + 1) (wt (up m13 46 2 ((m13 46 2) + 1)) fun m16 => some (1, m16)))) else ((G5_refuse m 2).bind fun o18 => gdb o18.1 (some (o18.1, o18.2)))
def G5_letWait (m : Mem) (x1 : Int) : Option (Int × Mem) := G5_letWait_0 m x1
def G7_skipBlanks_40 (kk0 : Mem → Option Mem) (m : Mem) : Option Mem := gd3 ((m 47 3) + 1) (wt (up m 47 3 ((m 47 3) + 1)) fun m3 => kk0 m3)
def G7_skipBlanks_0 : Nat → Mem → Option Mem
  | 0, _ => none
  | n + 1, m => if (m 47 2) ≤ (m 47 3) then (some m) else (gde (m 47 1) 1 (gdx (m 47 3) 700 (if (m 1 (m 47 3)) = 10 then (G7_skipBlanks_40 (fun m => G7_skipBlanks_0 n m) m) else (gde (m 47 1) 1 (gdx (m 47 3) 700 (if (m 1 (m 47 3)) = 32 then (G7_skipBlanks_40 (fun m => G7_skipBlanks_0 n m) m) else (some m)))))))
def G7_skipBlanks (m : Mem) : Option Mem := G7_skipBlanks_0 1024 m
def G7_wordOf_2 : Nat → Mem → Int → Int → Option (Int × Mem)
  | 0, _, _, _ => none
  | n + 1, m, x1, x2 => if 24 ≤ x2 then (some (24, m)) else (gdx x2 24 (if (m 48 x2) = x1 then (some (x2, m)) else (gd3 (x2 + 1) (G7_wordOf_2 n m x1 (x2 + 1)))))
def G7_wordOf_0 (m : Mem) (x1 : Int) : Option (Int × Mem) := G7_wordOf_2 1024 m x1 0
def G7_wordOf (m : Mem) (x1 : Int) : Option (Int × Mem) := G7_wordOf_0 m x1
def G7_takeWord_92 (m : Mem) (s0 : Int) : Option Mem := wt (up m 47 4 s0) fun m1 => some m1
def G7_takeWord_72 (m : Mem) (x1 : Int) : Option Mem := if x1 ≤ 6 then ((G7_wordOf m (m 47 6)).bind fun o4 => G7_takeWord_92 o4.2 o4.1) else (G7_takeWord_92 m 40)
def G7_takeWord_56 (kk2 : Mem → Int → Option Mem) (m : Mem) (x1 : Int) : Option Mem := gd3 ((m 47 3) + 1) (wt (up m 47 3 ((m 47 3) + 1)) fun m3 => gd3 (x1 + 1) (kk2 m3 (x1 + 1)))
def G7_takeWord_2 : Nat → Mem → Int → Option Mem
  | 0, _, _ => none
  | n + 1, m, x1 => if (m 47 2) ≤ (m 47 3) then (G7_takeWord_72 m x1) else (gde (m 47 1) 1 (gdx (m 47 3) 700 ((G7_isLetter m (m 1 (m 47 3))).bind fun o12 => if o12.1 = 0 then (G7_takeWord_72 o12.2 x1) else (if 6 ≤ x1 then (G7_takeWord_56 (fun m x1 => G7_takeWord_2 n m x1) o12.2 x1) else (gde (o12.2 47 1) 1 (gdx (o12.2 47 3) 700 ((G7_letterBits o12.2 (o12.2 1 (o12.2 47 3)) x1).bind fun o24 => wt (up o24.2 47 6 (b3or (o12.2 47 6) o24.1)) fun m26 => G7_takeWord_56 (fun m x1 => G7_takeWord_2 n m x1) m26 x1)))))))
def G7_takeWord_0 (m : Mem) : Option Mem := G7_takeWord_2 1024 m 0
def G7_takeWord (m : Mem) : Option Mem := G7_takeWord_0 m
def G7_isDigit_0 (m : Mem) (x0 : Int) : Option (Int × Mem) := if x0 < 48 then (some (0, m)) else (if 57 < x0 then (some (0, m)) else (some (1, m)))
def G7_isDigit (m : Mem) (x0 : Int) : Option (Int × Mem) := G7_isDigit_0 m x0
def G7_takeNumber_68 (m : Mem) : Option Mem := wt (up m 47 4 25) fun m1 => some m1
def G7_takeNumber_0 : Nat → Mem → Option Mem
  | 0, _ => none
  | n + 1, m => if (m 47 2) ≤ (m 47 3) then (G7_takeNumber_68 m) else (gde (m 47 1) 1 (gdx (m 47 3) 700 ((G7_isDigit m (m 1 (m 47 3))).bind fun o12 => if o12.1 = 0 then (G7_takeNumber_68 o12.2) else (gde (o12.2 47 1) 1 (gdx (o12.2 47 3) 700 (gd3 ((((o12.2 47 6) * 10) + (o12.2 1 (o12.2 47 3))) - 48) (gd3 (if 1000000 < ((((o12.2 47 6) * 10) + (o12.2 1 (o12.2 47 3))) - 48) then 1000000 else ((((o12.2 47 6) * 10) + (o12.2 1 (o12.2 47 3))) - 48)) (wt (up o12.2 47 6 (if 1000000 < ((((o12.2 47 6) * 10) + (o12.2 1 (o12.2 47 3))) - 48) then 1000000 else ((((o12.2 47 6) * 10) + (o12.2 1 (o12.2 47 3))) - 48))) fun m23 => gd3 ((m23 47 3) + 1) (wt (up m23 47 3 ((m23 47 3) + 1)) fun m27 => G7_takeNumber_0 n m27)))))))))
def G7_takeNumber (m : Mem) : Option Mem := G7_takeNumber_0 1024 m
def G7_signOf_0 (m : Mem) (x0 : Int) : Option (Int × Mem) := if x0 = 40 then (some (36, m)) else (if x0 = 41 then (some (37, m)) else (if x0 = 42 then (some (34, m)) else (if x0 = 43 then (some (32, m)) else (if x0 = 45 then (some (33, m)) else (if x0 = 47 then (some (35, m)) else (if x0 = 59 then (some (38, m)) else (if x0 = 60 then (some (26, m)) else (if x0 = 61 then (some (28, m)) else (if x0 = 62 then (some (31, m)) else (some (40, m)))))))))))
def G7_signOf (m : Mem) (x0 : Int) : Option (Int × Mem) := G7_signOf_0 m x0
def G7_isNext_0 (m : Mem) (x1 : Int) : Option (Int × Mem) := if (m 47 2) ≤ (m 47 3) then (some (0, m)) else (gde (m 47 1) 1 (gdx (m 47 3) 700 (if (m 1 (m 47 3)) = x1 then (some (1, m)) else (some (0, m)))))
def G7_isNext (m : Mem) (x1 : Int) : Option (Int × Mem) := G7_isNext_0 m x1
def G7_takeSign_102 (m : Mem) : Option Mem := if (m 47 4) = 31 then ((G7_isNext m 61).bind fun o4 => if o4.1 = 0 then (some o4.2) else (wt (up o4.2 47 4 30) fun m7 => gd3 ((m7 47 3) + 1) (wt (up m7 47 3 ((m7 47 3) + 1)) fun m11 => some m11))) else (some m)
def G7_takeSign_65 (m : Mem) : Option Mem := if (m 47 4) = 26 then ((G7_isNext m 62).bind fun o4 => if o4.1 = 0 then (G7_takeSign_102 o4.2) else (wt (up o4.2 47 4 29) fun m7 => gd3 ((m7 47 3) + 1) (wt (up m7 47 3 ((m7 47 3) + 1)) fun m11 => some m11))) else (G7_takeSign_102 m)
def G7_takeSign_0 (m : Mem) : Option Mem := gde (m 47 1) 1 (gdx (m 47 3) 700 (gd3 ((m 47 3) + 1) (wt (up m 47 3 ((m 47 3) + 1)) fun m9 => (G7_signOf m9 (m 1 (m 47 3))).bind fun o11 => wt (up o11.2 47 4 o11.1) fun m13 => if (m13 47 4) = 26 then ((G7_isNext m13 61).bind fun o18 => if o18.1 = 0 then (G7_takeSign_65 o18.2) else (wt (up o18.2 47 4 27) fun m21 => gd3 ((m21 47 3) + 1) (wt (up m21 47 3 ((m21 47 3) + 1)) fun m25 => some m25))) else (G7_takeSign_65 m13))))
def G7_takeSign (m : Mem) : Option Mem := G7_takeSign_0 m
def G7_advance_0 (m : Mem) : Option Mem := (G7_skipBlanks m).bind fun o1 => wt (up o1 47 5 (o1 47 3)) fun m5 => wt (up m5 47 6 0) fun m7 => if (m7 47 3) < (m7 47 2) then (gde (m7 47 1) 1 (gdx (m7 47 3) 700 ((G7_isLetter m7 (m7 1 (m7 47 3))).bind fun o20 => if o20.1 = 0 then (gde (o20.2 47 1) 1 (gdx (o20.2 47 3) 700 ((G7_isDigit o20.2 (o20.2 1 (o20.2 47 3))).bind fun o29 => if o29.1 = 0 then ((G7_takeSign o29.2).bind fun o32 => some o32) else ((G7_takeNumber o29.2).bind fun o34 => some o34)))) else ((G7_takeWord o20.2).bind fun o36 => some o36)))) else (wt (up m7 47 4 39) fun m38 => some m38)
def G7_advance (m : Mem) : Option Mem := G7_advance_0 m
def G5_takenNumber_42 (m : Mem) : Option (Int × Mem) := (G5_refuse m 2).bind fun o1 => some ((-1), o1.2)
def G5_takenNumber_0 (m : Mem) (x1 : Int) (x2 : Int) : Option (Int × Mem) := if (m 47 4) = 25 then (if (m 47 6) < x1 then (G5_takenNumber_42 m) else (if (m 47 6) ≤ x2 then (some ((m 47 6), m)) else (G5_takenNumber_42 m))) else ((G5_refuse m 1).bind fun o20 => some ((-1), o20.2))
def G5_takenNumber (m : Mem) (x1 : Int) (x2 : Int) : Option (Int × Mem) := G5_takenNumber_0 m x1 x2
def G5_numberIn_0 (m : Mem) (x1 : Int) (x2 : Int) : Option (Int × Mem) := (G7_advance m).bind fun o3 => (G5_takenNumber o3 x1 x2).bind fun o5 => some (o5.1, o5.2)
def G5_numberIn (m : Mem) (x1 : Int) (x2 : Int) : Option (Int × Mem) := G5_numberIn_0 m x1 x2
def G10_forget_0 (m : Mem) (a0 : Nat) : Option Mem := wt (up m a0 0 0) fun m1 => wt (up m1 a0 1 0) fun m3 => some m3
def G10_forget (m : Mem) (a0 : Nat) : Option Mem := G10_forget_0 m a0
def G8_forget_63 : Nat → Mem → Nat → Int → Option Mem
  | 0, _, _, _ => none
  | n + 1, m, a0, x1 => if 3 ≤ x1 then (wt (up m a0 12 0) fun m2 => wt (up m2 a0 13 0) fun m4 => some m4) else (gdx x1 3 ((G2_forget m ((a0 + 16) + 2 * (x1 : Int).toNat)).bind fun o10 => gd3 (x1 + 1) (G8_forget_63 n o10 a0 (x1 + 1))))
def G8_forget_0 (m : Mem) (a0 : Nat) : Option Mem := wt (up m a0 0 6) fun m1 => wt (up m1 a0 1 4) fun m3 => wt (up m3 a0 2 0) fun m5 => wt (up m5 a0 3 0) fun m7 => wt (up m7 (a0 + 1) 0 0) fun m11 => (G10_forget m11 (a0 + 8)).bind fun o15 => wt (up o15 a0 6 0) fun m17 => wt (up m17 a0 7 0) fun m19 => wt (up m19 a0 8 0) fun m21 => wt (up m21 a0 9 0) fun m23 => wt (up m23 a0 10 0) fun m25 => G8_forget_63 1024 m25 a0 0
def G8_forget (m : Mem) (a0 : Nat) : Option Mem := G8_forget_0 m a0
def G7_begin_0 (m : Mem) (x2 : Int) : Option Mem := wt (up m 47 1 ((1 : Nat) : Int)) fun m1 => wt (up m1 47 2 (if 700 < x2 then 700 else x2)) fun m5 => wt (up m5 47 3 0) fun m7 => some m7
def G7_begin (m : Mem) (x2 : Int) : Option Mem := G7_begin_0 m x2
def G5_readStop_0 (m : Mem) : Option (Int × Mem) := (G7_advance m).bind fun o3 => if (o3 47 4) = 38 then (some (1, o3)) else ((G5_refuse o3 1).bind fun o10 => if o10.1 = 0 then (some (0, o10.2)) else (some (1, o10.2)))
def G5_readStop (m : Mem) : Option (Int × Mem) := G5_readStop_0 m
def G5_readSea_47 (m : Mem) (x1 : Int) (s0 : Int) : Option (Int × Mem) := if s0 = (-1) then (some (0, m)) else (wt (up m ((m 46 10).toNat) 0 x1) fun m4 => wt (up m4 ((m4 46 10).toNat) 1 s0) fun m8 => (G5_readStop m8).bind fun o10 => gdb o10.1 (some (o10.1, o10.2)))
def G5_readSea_0 (m : Mem) : Option (Int × Mem) := (G5_isFirst m 0).bind fun o1 => if o1.1 = 0 then (some (0, o1.2)) else (if (o1.2 46 7) = 0 then ((G5_numberIn o1.2 1 8).bind fun o7 => if o7.1 = (-1) then (G5_readSea_47 o7.2 o7.1 (-1)) else ((G5_numberIn o7.2 1 6).bind fun o10 => G5_readSea_47 o10.2 o7.1 o10.1)) else ((G5_refuse o1.2 4).bind fun o12 => gdb o12.1 (some (o12.1, o12.2))))
def G5_readSea (m : Mem) : Option (Int × Mem) := G5_readSea_0 m
def G5_readPeak_53 (m : Mem) (x1 : Int) (s0 : Int) : Option (Int × Mem) := if s0 = (-1) then (some (0, m)) else (wt (up m ((m 46 10).toNat) 2 x1) fun m4 => wt (up m4 ((m4 46 10).toNat) 3 s0) fun m8 => (G5_readStop m8).bind fun o10 => gdb o10.1 (some (o10.1, o10.2)))
def G5_readPeak_0 (m : Mem) : Option (Int × Mem) := (G5_isFirst m 1).bind fun o1 => if o1.1 = 0 then (some (0, o1.2)) else (wt (up o1.2 46 7 1) fun m4 => gd3 ((m4 ((m4 46 10).toNat) 0) - 1) ((G5_numberIn m4 0 ((m4 ((m4 46 10).toNat) 0) - 1)).bind fun o10 => if o10.1 = (-1) then (G5_readPeak_53 o10.2 o10.1 (-1)) else (gd3 ((o10.2 ((o10.2 46 10).toNat) 1) - 1) ((G5_numberIn o10.2 0 ((o10.2 ((o10.2 46 10).toNat) 1) - 1)).bind fun o17 => G5_readPeak_53 o17.2 o10.1 o17.1))))
def G5_readPeak (m : Mem) : Option (Int × Mem) := G5_readPeak_0 m
def G5_readSurfer_195 (m : Mem) (x1 : Int) (x2 : Int) (x3 : Int) (x4 : Int) (x5 : Int) (x6 : Int) (s0 : Int) : Option (Int × Mem) := if s0 = (-1) then (some (0, m)) else (gd3 ((x3 * (m ((m 46 10).toNat) 0)) + x2) ((G1_add m ((m 46 10).toNat + 1) x1 ((x3 * (m ((m 46 10).toNat) 0)) + x2) x4 x5 x6 s0).bind fun o10 => (G5_readStop o10).bind fun o12 => gdb o12.1 (some (o12.1, o12.2))))
def G5_readSurfer_176 (m : Mem) (x1 : Int) (x2 : Int) (x3 : Int) (x4 : Int) (x5 : Int) (s0 : Int) : Option (Int × Mem) := if s0 = (-1) then (G5_readSurfer_195 m x1 x2 x3 x4 x5 s0 (-1)) else ((G5_numberIn m 0 100).bind fun o2 => G5_readSurfer_195 o2.2 x1 x2 x3 x4 x5 s0 o2.1)
def G5_readSurfer_157 (m : Mem) (x1 : Int) (x2 : Int) (x3 : Int) (x4 : Int) (s0 : Int) : Option (Int × Mem) := if s0 = (-1) then (G5_readSurfer_176 m x1 x2 x3 x4 s0 (-1)) else ((G5_numberIn m 0 100).bind fun o2 => G5_readSurfer_176 o2.2 x1 x2 x3 x4 s0 o2.1)
def G5_readSurfer_139 (m : Mem) (x1 : Int) (x2 : Int) (x3 : Int) (s0 : Int) : Option (Int × Mem) := if s0 = (-1) then (G5_readSurfer_157 m x1 x2 x3 s0 (-1)) else ((G5_numberIn m 1 3).bind fun o2 => G5_readSurfer_157 o2.2 x1 x2 x3 s0 o2.1)
def G5_readSurfer_122 (m : Mem) (x1 : Int) (x2 : Int) (s0 : Int) : Option (Int × Mem) := if s0 = (-1) then (G5_readSurfer_139 m x1 x2 s0 (-1)) else ((G5_numberIn m 1 9).bind fun o2 => G5_readSurfer_139 o2.2 x1 x2 s0 o2.1)
def G5_readSurfer_0 (m : Mem) : Option (Int × Mem) := if (m ((m 46 10).toNat + 1) 0) < 5 then (wt (up m 46 7 1) fun m8 => (G7_advance m8).bind fun o12 => if (o12 47 4) = 24 then ((G1_hasName o12 ((o12 46 10).toNat + 1) (o12 47 6)).bind fun o27 => if o27.1 = 0 then (gd3 ((o27.2 ((o27.2 46 10).toNat) 0) - 1) ((G5_numberIn o27.2 0 ((o27.2 ((o27.2 46 10).toNat) 0) - 1)).bind fun o38 => if o38.1 = (-1) then (G5_readSurfer_122 o38.2 (o27.2 47 6) o38.1 (-1)) else (gd3 ((o38.2 ((o38.2 46 10).toNat) 1) - 1) ((G5_numberIn o38.2 0 ((o38.2 ((o38.2 46 10).toNat) 1) - 1)).bind fun o45 => G5_readSurfer_122 o45.2 (o27.2 47 6) o38.1 o45.1)))) else ((G5_refuse o27.2 3).bind fun o47 => gdb o47.1 (some (o47.1, o47.2)))) else ((G5_refuse o12 1).bind fun o49 => gdb o49.1 (some (o49.1, o49.2)))) else ((G5_refuse m 2).bind fun o51 => gdb o51.1 (some (o51.1, o51.2)))
def G5_readSurfer (m : Mem) : Option (Int × Mem) := G5_readSurfer_0 m
def G10_firstMinute_0 (m : Mem) (a0 : Nat) (x1 : Int) : Option (Int × Mem) := gdx x1 4 (gdx (m (a0 + 1) x1) 28 (some ((m (a0 + 3) (m (a0 + 1) x1)), m)))
def G10_firstMinute (m : Mem) (a0 : Nat) (x1 : Int) : Option (Int × Mem) := G10_firstMinute_0 m a0 x1
def G10_lastMinute_0 (m : Mem) (a0 : Nat) (x1 : Int) : Option (Int × Mem) := (G10_firstMinute m a0 x1).bind fun o1 => gdx x1 4 (gd3 ((o1.1 + (o1.2 (a0 + 2) x1)) - 1) (some (((o1.1 + (o1.2 (a0 + 2) x1)) - 1), o1.2)))
def G10_lastMinute (m : Mem) (a0 : Nat) (x1 : Int) : Option (Int × Mem) := G10_lastMinute_0 m a0 x1
def G10_beginSet_0 (m : Mem) (a0 : Nat) : Option Mem := if 4 ≤ (m a0 0) then (some m) else (gdx (m a0 0) 4 (wt (up m (a0 + 1) (m a0 0) (m a0 1)) fun m11 => gdx (m11 a0 0) 4 (wt (up m11 (a0 + 2) (m11 a0 0) 0) fun m17 => gd3 ((m17 a0 0) + 1) (wt (up m17 a0 0 ((m17 a0 0) + 1)) fun m20 => some m20))))
def G10_beginSet (m : Mem) (a0 : Nat) : Option Mem := G10_beginSet_0 m a0
def G10_add_0 (m : Mem) (a0 : Nat) (x1 : Int) (x2 : Int) : Option Mem := if 28 ≤ (m a0 1) then (some m) else (if 1 ≤ (m a0 0) then (gdx ((m a0 0) - 1) 4 (gdx ((m a0 0) - 1) 4 (gd3 ((m (a0 + 2) ((m a0 0) - 1)) + 1) (wt (up m (a0 + 2) ((m a0 0) - 1) ((m (a0 + 2) ((m a0 0) - 1)) + 1)) fun m14 => gdx (m14 a0 1) 28 (wt (up m14 (a0 + 3) (m14 a0 1) x1) fun m20 => gdx (m20 a0 1) 28 (wt (up m20 (a0 + 4) (m20 a0 1) x2) fun m26 => gdx (m26 a0 1) 28 (gd3 ((m26 a0 0) - 1) (wt (up m26 (a0 + 5) (m26 a0 1) ((m26 a0 0) - 1)) fun m34 => gdx ((m34 a0 0) - 1) 4 (gdx (m34 a0 1) 28 (wt (up m34 (a0 + 6) (m34 a0 1) (m34 (a0 + 2) ((m34 a0 0) - 1))) fun m46 => gd3 ((m46 a0 1) + 1) (wt (up m46 a0 1 ((m46 a0 1) + 1)) fun m49 => some m49))))))))))) else (some m))
def G10_add (m : Mem) (a0 : Nat) (x1 : Int) (x2 : Int) : Option Mem := G10_add_0 m a0 x1 x2
def G5_readSet_101 (kk70 : Mem → Nat → Int → Int → Option (Int × Mem)) (m : Mem) (a1 : Nat) (x2 : Int) (x3 : Int) : Option (Int × Mem) := (G5_takenNumber m 1 9).bind fun o1 => if o1.1 = (-1) then (some (0, o1.2)) else (if x3 = 7 then ((G5_refuse o1.2 2).bind fun o7 => gdb o7.1 (some (o7.1, o7.2))) else (gd3 (x2 + x3) ((G10_add o1.2 a1 (x2 + x3) o1.1).bind fun o5 => gd3 (x3 + 1) (kk70 o5 a1 x2 (x3 + 1)))))
def G5_readSet_70 : Nat → Mem → Nat → Int → Int → Option (Int × Mem)
  | 0, _, _, _, _ => none
  | n + 1, m, a1, x2, x3 => if 7 < x3 then (some (0, m)) else ((G7_advance m).bind fun o4 => if x3 ≤ 0 then (G5_readSet_101 (fun m a1 x2 x3 => G5_readSet_70 n m a1 x2 x3) o4 a1 x2 x3) else (if (o4 47 4) = 38 then (some (1, o4)) else (G5_readSet_101 (fun m a1 x2 x3 => G5_readSet_70 n m a1 x2 x3) o4 a1 x2 x3)))
def G5_readSet_64 (m : Mem) (a1 : Nat) (x2 : Int) : Option (Int × Mem) := (G10_beginSet m a1).bind fun o1 => G5_readSet_70 1024 o1 a1 x2 0
def G5_readSet_0 (m : Mem) : Option (Int × Mem) := if (m ((m 46 10).toNat + 8) 0) < 4 then ((G5_numberIn m 0 99).bind fun o8 => if o8.1 = (-1) then (some (0, o8.2)) else (if (o8.2 ((m 46 10).toNat + 8) 0) ≤ 0 then (G5_readSet_64 o8.2 ((m 46 10).toNat + 8) o8.1) else (gd3 ((o8.2 ((m 46 10).toNat + 8) 0) - 1) ((G10_lastMinute o8.2 ((m 46 10).toNat + 8) ((o8.2 ((m 46 10).toNat + 8) 0) - 1)).bind fun o16 => if o16.1 < o8.1 then (G5_readSet_64 o16.2 ((m 46 10).toNat + 8) o8.1) else ((G5_refuse o16.2 5).bind fun o19 => gdb o19.1 (some (o19.1, o19.2))))))) else ((G5_refuse m 2).bind fun o21 => gdb o21.1 (some (o21.1, o21.2)))
def G5_readSet (m : Mem) : Option (Int × Mem) := G5_readSet_0 m
def G5_readBank_51 (m : Mem) (x1 : Int) (x2 : Int) (s0 : Int) : Option (Int × Mem) := if s0 = (-1) then (some (0, m)) else (wt (up m ((m 46 10).toNat) 6 x1) fun m4 => wt (up m4 ((m4 46 10).toNat) 7 x2) fun m8 => wt (up m8 ((m8 46 10).toNat) 8 s0) fun m12 => (G5_readStop m12).bind fun o14 => gdb o14.1 (some (o14.1, o14.2)))
def G5_readBank_34 (m : Mem) (x1 : Int) (s0 : Int) : Option (Int × Mem) := if s0 = (-1) then (G5_readBank_51 m x1 s0 (-1)) else ((G5_numberIn m 1 9).bind fun o2 => G5_readBank_51 o2.2 x1 s0 o2.1)
def G5_readBank_0 (m : Mem) : Option (Int × Mem) := (G5_isFirst m 4).bind fun o1 => if o1.1 = 0 then (some (0, o1.2)) else ((G5_numberIn o1.2 1 20).bind fun o4 => if o4.1 = (-1) then (G5_readBank_34 o4.2 o4.1 (-1)) else ((G5_numberIn o4.2 1 20).bind fun o7 => G5_readBank_34 o7.2 o4.1 o7.1))
def G5_readBank (m : Mem) : Option (Int × Mem) := G5_readBank_0 m
def G5_readRule_37 (m : Mem) : Option (Int × Mem) := (G5_refuse m 1).bind fun o1 => gdb o1.1 (some (o1.1, o1.2))
def G5_readRule_0 (m : Mem) : Option (Int × Mem) := (G5_isFirst m 5).bind fun o1 => if o1.1 = 0 then (some (0, o1.2)) else ((G7_advance o1.2).bind fun o6 => gd3 ((o6 47 4) - 8) (if ((o6 47 4) - 8) < 0 then (G5_readRule_37 o6) else (gd3 ((o6 47 4) - 8) (if ((o6 47 4) - 8) < 4 then (gd3 ((o6 47 4) - 8) (wt (up o6 ((o6 46 10).toNat) 9 ((o6 47 4) - 8)) fun m16 => (G5_readStop m16).bind fun o18 => gdb o18.1 (some (o18.1, o18.2)))) else (G5_readRule_37 o6)))))
def G5_readRule (m : Mem) : Option (Int × Mem) := G5_readRule_0 m
def G5_readSeed_0 (m : Mem) : Option (Int × Mem) := (G5_isFirst m 6).bind fun o1 => if o1.1 = 0 then (some (0, o1.2)) else ((G5_numberIn o1.2 0 99999).bind fun o4 => if o4.1 = (-1) then (some (0, o4.2)) else (wt (up o4.2 ((o4.2 46 10).toNat) 10 o4.1) fun m9 => (G5_readStop m9).bind fun o11 => gdb o11.1 (some (o11.1, o11.2))))
def G5_readSeed (m : Mem) : Option (Int × Mem) := G5_readSeed_0 m
def G5_readKind_27 (m : Mem) : Option (Int × Mem) := (G5_refuse m 1).bind fun o1 => some (-1, o1.2)
def G5_readKind_0 (m : Mem) : Option (Int × Mem) := (G7_advance m).bind fun o3 => gd3 ((o3 47 4) - 12) (if ((o3 47 4) - 12) < 0 then (G5_readKind_27 o3) else (gd3 ((o3 47 4) - 12) (if ((o3 47 4) - 12) < 3 then (gdx ((o3 47 4) - 12) 3 (if (o3 (((o3 46 10).toNat + 16) + 2 * (((o3 47 4) - 12) : Int).toNat) 2) = 0 then (gdx ((o3 47 4) - 12) 3 (wt (up o3 (((o3 46 10).toNat + 16) + 2 * (((o3 47 4) - 12) : Int).toNat) 2 1) fun m26 => gdx ((o3 47 4) - 12) 3 (some ((((((m26 46 10).toNat + 16) + 2 * (((o3 47 4) - 12) : Int).toNat) : Nat) : Int), m26)))) else ((G5_refuse o3 3).bind fun o34 => some (-1, o34.2)))) else (G5_readKind_27 o3))))
def G5_readKind (m : Mem) : Option (Int × Mem) := G5_readKind_0 m
def G5_strengthOf_0 (m : Mem) (x0 : Int) : Option (Int × Mem) := if x0 = 15 then (some (3, m)) else (if x0 = 16 then (some (2, m)) else (if x0 = 17 then (some (1, m)) else (if x0 = 26 then (some (4, m)) else (if x0 = 27 then (some (4, m)) else (if x0 = 28 then (some (4, m)) else (if x0 = 29 then (some (4, m)) else (if x0 = 30 then (some (4, m)) else (if x0 = 31 then (some (4, m)) else (if x0 = 32 then (some (5, m)) else (if x0 = 33 then (some (5, m)) else (if x0 = 34 then (some (6, m)) else (if x0 = 35 then (some (6, m)) else (some (0, m))))))))))))))
def G5_strengthOf (m : Mem) (x0 : Int) : Option (Int × Mem) := G5_strengthOf_0 m x0
def G5_release_0 : Nat → Mem → Nat → Int → Option Mem
  | 0, _, _, _ => none
  | n + 1, m, a1, x2 => if (m 46 2) ≤ 0 then (some m) else (gdx ((m 46 2) - 1) 72 ((G5_strengthOf m (m 50 ((m 46 2) - 1))).bind fun o10 => if x2 ≤ o10.1 then (gd3 (10000 + (m 50 ((m 46 2) - 1))) ((G2_add o10.2 a1 (10000 + (m 50 ((m 46 2) - 1)))).bind fun o13 => gd3 ((o13 46 2) - 1) (wt (up o13 46 2 ((o13 46 2) - 1)) fun m17 => G5_release_0 n m17 a1 x2))) else (some o10.2)))
def G5_release (m : Mem) (a1 : Nat) (x2 : Int) : Option Mem := G5_release_0 1024 m a1 x2
def G5_takeOpen_0 (m : Mem) : Option (Int × Mem) := if (m 46 3) < 8 then (gd3 ((m 46 3) + 1) (wt (up m 46 3 ((m 46 3) + 1)) fun m6 => wt (up m6 46 5 1) fun m8 => (G5_letWait m8 36).bind fun o10 => gdb o10.1 (some (o10.1, o10.2)))) else ((G5_refuse m 2).bind fun o12 => gdb o12.1 (some (o12.1, o12.2)))
def G5_takeOpen (m : Mem) : Option (Int × Mem) := G5_takeOpen_0 m
def G5_takePart_139 (m : Mem) (s0 : Int) (u1 : Nat) : Option (Int × Mem) := (G2_add m u1 s0).bind fun o1 => wt (up o1 46 4 0) fun m3 => some (1, m3)
def G5_takePart_110 (m : Mem) (a1 : Nat) (x2 : Int) (x3 : Int) : Option (Int × Mem) := (G5_countKnot m).bind fun o1 => if o1.1 = 0 then (some (0, o1.2)) else (if x3 = 0 then (G5_takePart_139 o1.2 (o1.2 47 6) a1) else (gd3 (10000 + x2) (G5_takePart_139 o1.2 (10000 + x2) a1)))
def G5_takePart_87 (m : Mem) (a1 : Nat) (x2 : Int) (x3 : Int) : Option (Int × Mem) := if (m 47 6) ≤ 9999 then (G5_takePart_110 m a1 x2 x3) else (if x3 = 0 then ((G5_refuse m 2).bind fun o7 => gdb o7.1 (some (o7.1, o7.2))) else (G5_takePart_110 m a1 x2 x3))
def G5_takePart_70 (m : Mem) (a1 : Nat) (x2 : Int) (s0 : Int) : Option (Int × Mem) := if x2 = 25 then (G5_takePart_87 m a1 x2 s0) else (if s0 = 0 then ((G5_refuse m 1).bind fun o3 => gdb o3.1 (some (o3.1, o3.2))) else (G5_takePart_87 m a1 x2 s0))
def G5_takePart_69 (m : Mem) (a1 : Nat) (x2 : Int) : Option (Int × Mem) := G5_takePart_70 m a1 x2 0
def G5_takePart_53 (m : Mem) (a1 : Nat) (x2 : Int) : Option (Int × Mem) := if x2 < 18 then (G5_takePart_69 m a1 x2) else (if 24 ≤ x2 then (G5_takePart_69 m a1 x2) else (G5_takePart_70 m a1 x2 1))
def G5_takePart_0 (m : Mem) (a1 : Nat) : Option (Int × Mem) := if (m 47 4) = 36 then ((G5_takeOpen m).bind fun o16 => gdb o16.1 (some (o16.1, o16.2))) else (if (m 47 4) = 15 then (if (m 46 5) = 0 then (G5_takePart_53 m a1 (m 47 4)) else ((G5_countKnot m).bind fun o10 => if o10.1 = 0 then (some (0, o10.2)) else ((G5_letWait o10.2 (m 47 4)).bind fun o13 => if o13.1 = 0 then (some (0, o13.2)) else (some (1, o13.2))))) else (G5_takePart_53 m a1 (m 47 4)))
def G5_takePart (m : Mem) (a1 : Nat) : Option (Int × Mem) := G5_takePart_0 m a1
def G5_takeClose_0 (m : Mem) (a1 : Nat) : Option (Int × Mem) := if (m 46 3) = 0 then ((G5_refuse m 1).bind fun o17 => gdb o17.1 (some (o17.1, o17.2))) else ((G5_release m a1 1).bind fun o4 => gd3 ((o4 46 3) - 1) (wt (up o4 46 3 ((o4 46 3) - 1)) fun m8 => if (m8 46 2) ≤ 0 then (some (1, m8)) else (gd3 ((m8 46 2) - 1) (wt (up m8 46 2 ((m8 46 2) - 1)) fun m15 => some (1, m15)))))
def G5_takeClose (m : Mem) (a1 : Nat) : Option (Int × Mem) := G5_takeClose_0 m a1
def G5_waitsForLike_0 (m : Mem) : Option (Int × Mem) := if (m 46 2) ≤ 0 then (some (0, m)) else (gdx ((m 46 2) - 1) 72 ((G5_strengthOf m (m 50 ((m 46 2) - 1))).bind fun o10 => (G5_strengthOf o10.2 28).bind fun o12 => if o10.1 = o12.1 then (some (1, o12.2)) else (some (0, o12.2))))
def G5_waitsForLike (m : Mem) : Option (Int × Mem) := G5_waitsForLike_0 m
def G5_takeJoint_35 (m : Mem) : Option (Int × Mem) := (G5_refuse m 1).bind fun o1 => gdb o1.1 (some (o1.1, o1.2))
def G5_takeJoint_115 (m : Mem) (x2 : Int) (s0 : Int) : Option (Int × Mem) := gdb s0 (wt (up m 46 5 s0) fun m1 => (G5_countKnot m1).bind fun o3 => if o3.1 = 0 then (some (0, o3.2)) else ((G5_letWait o3.2 x2).bind fun o6 => if o6.1 = 0 then (some (0, o6.2)) else (some (1, o6.2))))
def G5_takeJoint_110 (m : Mem) (x2 : Int) : Option (Int × Mem) := G5_takeJoint_115 m x2 1
def G5_takeJoint_92 (m : Mem) (x2 : Int) : Option (Int × Mem) := wt (up m 46 4 1) fun m1 => if x2 = 16 then (G5_takeJoint_110 m1 x2) else (if x2 = 17 then (G5_takeJoint_110 m1 x2) else (G5_takeJoint_115 m1 x2 0))
def G5_takeJoint_71 (m : Mem) (x2 : Int) (x4 : Int) (s0 : Int) (u1 : Nat) : Option (Int × Mem) := (G5_release m u1 s0).bind fun o1 => if x4 = 0 then (G5_takeJoint_92 o1 x2) else ((G5_waitsForLike o1).bind fun o4 => if o4.1 = 0 then (G5_takeJoint_92 o4.2 x2) else ((G5_refuse o4.2 1).bind fun o7 => gdb o7.1 (some (o7.1, o7.2))))
def G5_takeJoint_55 (m : Mem) (a1 : Nat) (x2 : Int) (x3 : Int) (s0 : Int) : Option (Int × Mem) := if s0 = 0 then (G5_takeJoint_71 m x2 s0 x3 a1) else (gd3 (x3 + 1) (G5_takeJoint_71 m x2 s0 (x3 + 1) a1))
def G5_takeJoint_0 (m : Mem) (a1 : Nat) : Option (Int × Mem) := if (m 47 4) = 37 then ((G5_takeClose m a1).bind fun o13 => gdb o13.1 (some (o13.1, o13.2))) else ((G5_strengthOf m (m 47 4)).bind fun o6 => if o6.1 = 0 then (G5_takeJoint_35 o6.2) else (if (m 47 4) = 15 then (G5_takeJoint_35 o6.2) else ((G5_strengthOf o6.2 28).bind fun o10 => if o6.1 = o10.1 then (G5_takeJoint_55 o10.2 a1 (m 47 4) o6.1 1) else (G5_takeJoint_55 o10.2 a1 (m 47 4) o6.1 0))))
def G5_takeJoint (m : Mem) (a1 : Nat) : Option (Int × Mem) := G5_takeJoint_0 m a1
def G5_readLaw_81 (kk33 : Mem → Nat → Int → Option (Int × Mem)) (m : Mem) (a1 : Nat) (x2 : Int) : Option (Int × Mem) := if (m 46 4) = 0 then ((G5_takeJoint m a1).bind fun o4 => if o4.1 = 0 then (some (0, o4.2)) else (gd3 (x2 + 1) (kk33 o4.2 a1 (x2 + 1)))) else ((G5_takePart m a1).bind fun o7 => if o7.1 = 0 then (some (0, o7.2)) else (gd3 (x2 + 1) (kk33 o7.2 a1 (x2 + 1))))
def G5_readLaw_33 : Nat → Mem → Nat → Int → Option (Int × Mem)
  | 0, _, _, _ => none
  | n + 1, m, a1, x2 => if 700 < x2 then (some (0, m)) else ((G7_advance m).bind fun o4 => if (o4 46 4) = 0 then (if (o4 46 3) = 0 then (if (o4 47 4) = 38 then ((G5_release o4 a1 1).bind fun o17 => some (1, o17)) else (G5_readLaw_81 (fun m a1 x2 => G5_readLaw_33 n m a1 x2) o4 a1 x2)) else (G5_readLaw_81 (fun m a1 x2 => G5_readLaw_33 n m a1 x2) o4 a1 x2)) else (G5_readLaw_81 (fun m a1 x2 => G5_readLaw_33 n m a1 x2) o4 a1 x2))
def G5_readLaw_0 (m : Mem) : Option (Int × Mem) := (G5_readKind m).bind fun o => if o.1 = -1 then some (0, o.2) else wt (up o.2 46 2 0) fun m5 => wt (up m5 46 3 0) fun m7 => wt (up m7 46 4 1) fun m9 => wt (up m9 46 5 1) fun m11 => G5_readLaw_33 1024 m11 o.1.toNat 0
def G5_readLaw (m : Mem) : Option (Int × Mem) := G5_readLaw_0 m
def G5_readLine_0 (m : Mem) : Option (Int × Mem) := if (m 47 4) = 0 then ((G5_readSea m).bind fun o6 => gdb o6.1 (some (o6.1, o6.2))) else (if (m 47 4) = 1 then ((G5_readPeak m).bind fun o9 => gdb o9.1 (some (o9.1, o9.2))) else (if (m 47 4) = 2 then ((G5_readSurfer m).bind fun o12 => gdb o12.1 (some (o12.1, o12.2))) else (if (m 47 4) = 3 then ((G5_readSet m).bind fun o15 => gdb o15.1 (some (o15.1, o15.2))) else (if (m 47 4) = 4 then ((G5_readBank m).bind fun o18 => gdb o18.1 (some (o18.1, o18.2))) else (if (m 47 4) = 5 then ((G5_readRule m).bind fun o21 => gdb o21.1 (some (o21.1, o21.2))) else (if (m 47 4) = 6 then ((G5_readSeed m).bind fun o24 => gdb o24.1 (some (o24.1, o24.2))) else (if (m 47 4) = 7 then ((G5_readLaw m).bind fun o27 => gdb o27.1 (some (o27.1, o27.2))) else ((G5_refuse m 1).bind fun o29 => gdb o29.1 (some (o29.1, o29.2))))))))))
def G5_readLine (m : Mem) : Option (Int × Mem) := G5_readLine_0 m
def G5_readAll_44 : Nat → Mem → Int → Option (Int × Mem)
  | 0, _, _ => none
  | n + 1, m, x4 => if 700 < x4 then (some (1, m)) else ((G7_advance m).bind fun o4 => if (o4 47 4) = 39 then (some (1, o4)) else ((G5_readLine o4).bind fun o11 => if o11.1 = 0 then (some (0, o11.2)) else (gd3 ((o11.2 ((o11.2 46 10).toNat) 12) + 1) (wt (up o11.2 ((o11.2 46 10).toNat) 12 ((o11.2 ((o11.2 46 10).toNat) 12) + 1)) fun m18 => gd3 (x4 + 1) (G5_readAll_44 n m18 (x4 + 1))))))
def G5_readAll_0 (m : Mem) (x2 : Int) (a3 : Nat) : Option (Int × Mem) := wt (up m 46 10 ((a3 : Nat) : Int)) fun m1 => (G8_forget m1 ((m1 46 10).toNat)).bind fun o5 => wt (up o5 46 8 0) fun m7 => wt (up m7 46 9 (-1)) fun m9 => wt (up m9 46 6 0) fun m11 => wt (up m11 46 7 0) fun m13 => (G7_begin m13 x2).bind fun o17 => G5_readAll_44 1024 o17 0
/-! What the pure functions do, over a memory of integers (written by wip/gen/gx.py). -/
def G5_readAll (m : Mem) (x2 : Int) (a3 : Nat) : Option (Int × Mem) := G5_readAll_0 m x2 a3
def G6_awayValue_0 (m : Mem) (a0 : Nat) (x1 : Int) (x2 : Int) : Option (Int × Mem) := (G6_nameAway m a0 x1 x2).bind fun o1 => (G2_valueFor o1 ((o1 a0 0).toNat + 20) (a0 + 4) (a0 + 5)).bind fun o13 => some (o13.1, o13.2)
def G6_awayValue (m : Mem) (a0 : Nat) (x1 : Int) (x2 : Int) : Option (Int × Mem) := G6_awayValue_0 m a0 x1 x2
def G6_hadOfSet_3 : Nat → Mem → Nat → Nat → Int → Int → Int → Option (Int × Mem)
  | 0, _, _, _, _, _, _ => none
  | n + 1, m, a0, a1, x2, x3, x4 => if (m ((m a0 0).toNat + 8) 1) ≤ x4 then (some (0, m)) else (gdx x4 28 (if (m ((m a0 0).toNat + 13) x4) = x3 then (gdx x4 28 (if (m (a1 + 6) x4) = x2 then (some (1, m)) else (gd3 (x4 + 1) (G6_hadOfSet_3 n m a0 a1 x2 x3 (x4 + 1))))) else (gd3 (x4 + 1) (G6_hadOfSet_3 n m a0 a1 x2 x3 (x4 + 1)))))
def G6_hadOfSet_0 (m : Mem) (a0 : Nat) (a1 : Nat) (x2 : Int) (x3 : Int) : Option (Int × Mem) := G6_hadOfSet_3 1024 m a0 a1 x2 x3 0
def G6_hadOfSet (m : Mem) (a0 : Nat) (a1 : Nat) (x2 : Int) (x3 : Int) : Option (Int × Mem) := G6_hadOfSet_0 m a0 a1 x2 x3
def G6_keyFor_0 (m : Mem) (a0 : Nat) (a1 : Nat) (x2 : Int) (x3 : Int) : Option (Int × Mem) := gdx x2 5 ((G6_farOf m a0 (m (a1 + 1) x2) x3).bind fun o5 => if (o5.2 a1 1) = 1 then (gdx x2 5 (some ((o5.2 (a1 + 2) x2), o5.2))) else (if (o5.2 a1 1) = 2 then (gdx x3 28 ((G6_hadOfSet o5.2 a0 a1 x2 (o5.2 ((o5.2 a0 0).toNat + 13) x3)).bind fun o23 => if o23.1 = 0 then (some (o5.1, o23.2)) else (gd3 (100 + o5.1) (some ((100 + o5.1), o23.2))))) else (if (o5.2 a1 1) = 3 then (gdx x2 5 ((G8_rowOf o5.2 ((o5.2 a0 0).toNat) (o5.2 (a1 + 1) x2)).bind fun o33 => gd3 (-o33.1) (some ((-o33.1), o33.2)))) else (some (o5.1, o5.2)))))
def G6_keyFor (m : Mem) (a0 : Nat) (a1 : Nat) (x2 : Int) (x3 : Int) : Option (Int × Mem) := G6_keyFor_0 m a0 a1 x2 x3
def G6_putInLine_48 (m : Mem) (a0 : Nat) (x1 : Int) (x3 : Int) : Option Mem := gdx x3 5 (wt (up m (a0 + 6) x3 x1) fun m4 => some m4)
def G6_putInLine_2 : Nat → Mem → Nat → Int → Int → Option Mem
  | 0, _, _, _, _ => none
  | n + 1, m, a0, x1, x3 => if x3 ≤ 0 then (G6_putInLine_48 m a0 x1 x3) else (gdx (x3 - 1) 5 (gdx (m (a0 + 6) (x3 - 1)) 5 (gdx x1 5 (if (m (a0 + 8) (m (a0 + 6) (x3 - 1))) ≤ (m (a0 + 8) x1) then (G6_putInLine_48 m a0 x1 x3) else (gdx (x3 - 1) 5 (gdx x3 5 (wt (up m (a0 + 6) x3 (m (a0 + 6) (x3 - 1))) fun m22 => gd3 (x3 + (-1)) (G6_putInLine_2 n m22 a0 x1 (x3 + (-1))))))))))
def G6_putInLine_0 (m : Mem) (a0 : Nat) (x1 : Int) (x2 : Int) : Option Mem := G6_putInLine_2 1024 m a0 x1 x2
def G6_putInLine (m : Mem) (a0 : Nat) (x1 : Int) (x2 : Int) : Option Mem := G6_putInLine_0 m a0 x1 x2
def G6_lineUp_6 : Nat → Mem → Nat → Nat → Int → Int → Int → Int → Option (Int × Mem)
  | 0, _, _, _, _, _, _, _ => none
  | n + 1, m, a0, a1, x2, x3, x4, x5 => if (m ((m a0 0).toNat + 1) 0) ≤ x5 then (some (x4, m)) else ((G4_isIn m a1 x5 x3).bind fun o8 => if o8.1 = 0 then (gd3 (x5 + 1) (G6_lineUp_6 n o8.2 a0 a1 x2 x3 x4 (x5 + 1))) else (gdx x5 5 ((G6_oddsAt o8.2 a0 x5 x2 (o8.2 (a1 + 1) x5)).bind fun o17 => gdx x5 5 (wt (up o17.2 (a0 + 7) x5 o17.1) fun m20 => gdx x5 5 (if (m20 (a0 + 7) x5) ≤ 0 then (gd3 (x5 + 1) (G6_lineUp_6 n m20 a0 a1 x2 x3 x4 (x5 + 1))) else ((G6_keyFor m20 a0 a1 x5 x2).bind fun o28 => gdx x5 5 (wt (up o28.2 (a0 + 8) x5 o28.1) fun m31 => (G6_putInLine m31 a0 x5 x4).bind fun o32 => gd3 (x4 + 1) (gd3 (x5 + 1) (G6_lineUp_6 n o32 a0 a1 x2 x3 (x4 + 1) (x5 + 1))))))))))
def G6_lineUp_0 (m : Mem) (a0 : Nat) (a1 : Nat) (x2 : Int) (x3 : Int) : Option (Int × Mem) := G6_lineUp_6 1024 m a0 a1 x2 x3 0 0
def G6_lineUp (m : Mem) (a0 : Nat) (a1 : Nat) (x2 : Int) (x3 : Int) : Option (Int × Mem) := G6_lineUp_0 m a0 a1 x2 x3
def G6_placeOfRider_2 : Nat → Mem → Nat → Nat → Int → Int → Option (Int × Mem)
  | 0, _, _, _, _, _ => none
  | n + 1, m, a0, a1, x2, x3 => if x2 ≤ x3 then (some ((-1), m)) else ((G4_drawHundredth m a1).bind fun o2 => gdx x3 5 (gdx (o2.2 (a0 + 6) x3) 5 (if (o2.2 (a0 + 7) (o2.2 (a0 + 6) x3)) ≤ o2.1 then (gd3 (x3 + 1) (G6_placeOfRider_2 n o2.2 a0 a1 x2 (x3 + 1))) else (some (x3, o2.2)))))
def G6_placeOfRider_0 (m : Mem) (a0 : Nat) (a1 : Nat) (x2 : Int) : Option (Int × Mem) := G6_placeOfRider_2 1024 m a0 a1 x2 0
def G6_placeOfRider (m : Mem) (a0 : Nat) (a1 : Nat) (x2 : Int) : Option (Int × Mem) := G6_placeOfRider_0 m a0 a1 x2
def G6_crosserBehind_5 : Nat → Mem → Nat → Nat → Int → Int → Option (Int × Mem)
  | 0, _, _, _, _, _ => none
  | n + 1, m, a0, a1, x3, x4 => if x3 ≤ x4 then (some ((-1), m)) else (gdx x4 5 (gdx (m (a0 + 6) x4) 5 (if (m (a0 + 2) (m (a0 + 6) x4)) ≤ 0 then (gd3 (x4 + 1) (G6_crosserBehind_5 n m a0 a1 x3 (x4 + 1))) else ((G4_drawHundredth m a1).bind fun o11 => if (m (a0 + 2) (m (a0 + 6) x4)) ≤ o11.1 then (gd3 (x4 + 1) (G6_crosserBehind_5 n o11.2 a0 a1 x3 (x4 + 1))) else (gdx x4 5 (some ((o11.2 (a0 + 6) x4), o11.2)))))))
def G6_crosserBehind_0 (m : Mem) (a0 : Nat) (a1 : Nat) (x2 : Int) (x3 : Int) : Option (Int × Mem) := gd3 (x2 + 1) (G6_crosserBehind_5 1024 m a0 a1 x3 (x2 + 1))
def G6_crosserBehind (m : Mem) (a0 : Nat) (a1 : Nat) (x2 : Int) (x3 : Int) : Option (Int × Mem) := G6_crosserBehind_0 m a0 a1 x2 x3
def G6_sendAway_0 (m : Mem) (a0 : Nat) (a1 : Nat) (x2 : Int) (x3 : Int) (x4 : Int) : Option Mem := gdx x3 28 ((G6_awayFor m a0 x2 x3).bind fun o11 => gdx x2 5 (gd3 ((m ((m a0 0).toNat + 11) x3) + (x4 * o11.1)) (wt (up o11.2 (a1 + 4) x2 ((m ((m a0 0).toNat + 11) x3) + (x4 * o11.1))) fun m14 => some m14)))
def G6_sendAway (m : Mem) (a0 : Nat) (a1 : Nat) (x2 : Int) (x3 : Int) (x4 : Int) : Option Mem := G6_sendAway_0 m a0 a1 x2 x3 x4
def G6_bringWave_0 (m : Mem) (a0 : Nat) (a1 : Nat) (x2 : Int) : Option Mem := gdx x2 28 ((G6_lineUp m a0 a1 x2 (m ((m a0 0).toNat + 11) x2)).bind fun o9 => (G6_placeOfRider o9.2 a0 a1 o9.1).bind fun o11 => if o11.1 = (-1) then (gdx x2 28 (wt (up o11.2 (a1 + 6) x2 (-1)) fun m60 => gd3 ((m60 a1 4) + 1) (wt (up m60 a1 4 ((m60 a1 4) + 1)) fun m63 => some m63))) else (gdx o11.1 5 ((G6_crosserBehind o11.2 a0 a1 o11.1 o9.1).bind fun o18 => if o18.1 = (-1) then (gdx x2 28 (wt (up o18.2 (a1 + 6) x2 (o11.2 (a0 + 6) o11.1)) fun m48 => gdx (o11.2 (a0 + 6) o11.1) 5 (gdx (o11.2 (a0 + 6) o11.1) 5 (gd3 ((m48 (a1 + 2) (o11.2 (a0 + 6) o11.1)) + 1) (wt (up m48 (a1 + 2) (o11.2 (a0 + 6) o11.1) ((m48 (a1 + 2) (o11.2 (a0 + 6) o11.1)) + 1)) fun m54 => (G6_sendAway m54 a0 a1 (o11.2 (a0 + 6) o11.1) x2 1).bind fun o55 => some o55))))) else (gdx x2 28 (wt (up o18.2 (a1 + 6) x2 (-3)) fun m24 => gd3 ((m24 a1 3) + 1) (wt (up m24 a1 3 ((m24 a1 3) + 1)) fun m27 => gdx (o11.2 (a0 + 6) o11.1) 5 (gdx (o11.2 (a0 + 6) o11.1) 5 (gd3 ((m27 (a1 + 3) (o11.2 (a0 + 6) o11.1)) + 1) (wt (up m27 (a1 + 3) (o11.2 (a0 + 6) o11.1) ((m27 (a1 + 3) (o11.2 (a0 + 6) o11.1)) + 1)) fun m34 => gdx o18.1 5 (gdx o18.1 5 (gd3 ((m34 (a1 + 3) o18.1) + 1) (wt (up m34 (a1 + 3) o18.1 ((m34 (a1 + 3) o18.1) + 1)) fun m40 => (G6_sendAway m40 a0 a1 (o11.2 (a0 + 6) o11.1) x2 2).bind fun o41 => (G6_sendAway o41 a0 a1 o18.1 x2 2).bind fun o43 => some o43))))))))))))
def G6_bringWave (m : Mem) (a0 : Nat) (a1 : Nat) (x2 : Int) : Option Mem := G6_bringWave_0 m a0 a1 x2
def G6_catchValue_0 (m : Mem) (a0 : Nat) (x1 : Int) (x2 : Int) (x3 : Int) : Option (Int × Mem) := (G6_nameCatch m a0 x1 x2 x3).bind fun o1 => (G2_valueFor o1 ((o1 a0 0).toNat + 16) (a0 + 4) (a0 + 5)).bind fun o13 => some (o13.1, o13.2)
def G6_catchValue (m : Mem) (a0 : Nat) (x1 : Int) (x2 : Int) (x3 : Int) : Option (Int × Mem) := G6_catchValue_0 m a0 x1 x2 x3
def G6_crossingOdds_74 (kk28 : Mem → Nat → Int → Int → Int → Int → Int → Option (Int × Mem)) (m : Mem) (a0 : Nat) (x2 : Int) (x4 : Int) (x5 : Int) (x6 : Int) (x7 : Int) (x8 : Int) : Option (Int × Mem) := gdx x8 5 (gd3 (x6 * (100 - (m (a0 + 2) x8))) (gdd (x6 * (100 - (m (a0 + 2) x8))) 100 (gd3 (x7 + 1) (kk28 m a0 x2 x4 x5 ((x6 * (100 - (m (a0 + 2) x8))) / 100) (x7 + 1)))))
def G6_crossingOdds_28 : Nat → Mem → Nat → Int → Int → Int → Int → Int → Option (Int × Mem)
  | 0, _, _, _, _, _, _, _ => none
  | n + 1, m, a0, x2, x4, x5, x6, x7 => if x4 ≤ x7 then (gd3 (100 - x6) (some ((100 - x6), m))) else (gdx x7 5 (gdx (m (a0 + 6) x7) 5 (if x5 < (m (a0 + 8) (m (a0 + 6) x7)) then (G6_crossingOdds_74 (fun m a0 x2 x4 x5 x6 x7 => G6_crossingOdds_28 n m a0 x2 x4 x5 x6 x7) m a0 x2 x4 x5 x6 x7 (m (a0 + 6) x7)) else (gdx (m (a0 + 6) x7) 5 (if (m (a0 + 8) (m (a0 + 6) x7)) = x5 then (if (m (a0 + 6) x7) ≤ x2 then (gd3 (x7 + 1) (G6_crossingOdds_28 n m a0 x2 x4 x5 x6 (x7 + 1))) else (G6_crossingOdds_74 (fun m a0 x2 x4 x5 x6 x7 => G6_crossingOdds_28 n m a0 x2 x4 x5 x6 x7) m a0 x2 x4 x5 x6 x7 (m (a0 + 6) x7))) else (gd3 (x7 + 1) (G6_crossingOdds_28 n m a0 x2 x4 x5 x6 (x7 + 1))))))))
def G6_crossingOdds_0 (m : Mem) (a0 : Nat) (a1 : Nat) (x2 : Int) (x3 : Int) : Option (Int × Mem) := (G6_lineUp m a0 a1 x3 (m a1 0)).bind fun o3 => (G6_keyFor o3.2 a0 a1 x2 x3).bind fun o5 => G6_crossingOdds_28 1024 o5.2 a0 x2 o3.1 o5.1 100 0
def G6_crossingOdds (m : Mem) (a0 : Nat) (a1 : Nat) (x2 : Int) (x3 : Int) : Option (Int × Mem) := G6_crossingOdds_0 m a0 a1 x2 x3
def G6_driftValue_2 : Nat → Mem → Nat → Int → Int → Option (Int × Mem)
  | 0, _, _, _, _ => none
  | n + 1, m, a0, x1, x2 => if 6 ≤ x2 then (wt (up m (a0 + 4) 4 x1) fun m5 => (G2_valueFor m5 ((m5 a0 0).toNat + 18) (a0 + 4) (a0 + 5)).bind fun o16 => some (o16.1, o16.2)) else (gdx x2 6 (wt (up m (a0 + 4) x2 0) fun m21 => gd3 (x2 + 1) (G6_driftValue_2 n m21 a0 x1 (x2 + 1))))
def G6_driftValue_0 (m : Mem) (a0 : Nat) (x1 : Int) : Option (Int × Mem) := G6_driftValue_2 1024 m a0 x1 0
def G6_driftValue (m : Mem) (a0 : Nat) (x1 : Int) : Option (Int × Mem) := G6_driftValue_0 m a0 x1
def G6_giveBoards_2 : Nat → Mem → Nat → Int → Int → Option Mem
  | 0, _, _, _, _ => none
  | n + 1, m, a0, x1, x2 => if 5 ≤ x2 then (some m) else (gdx x2 5 (wt (up m (a0 + 1) x2 x1) fun m5 => gd3 (x2 + 1) (G6_giveBoards_2 n m5 a0 x1 (x2 + 1))))
def G6_giveBoards_0 (m : Mem) (a0 : Nat) (x1 : Int) : Option Mem := G6_giveBoards_2 1024 m a0 x1 0
def G6_giveBoards (m : Mem) (a0 : Nat) (x1 : Int) : Option Mem := G6_giveBoards_0 m a0 x1
def G6_holdPeak_2 : Nat → Mem → Nat → Int → Option Mem
  | 0, _, _, _ => none
  | n + 1, m, a0, x1 => if 28 ≤ x1 then (some m) else (gdx x1 28 (wt (up m (a0 + 3) x1 (m ((m a0 0).toNat) 2)) fun m9 => gd3 (x1 + 1) (G6_holdPeak_2 n m9 a0 (x1 + 1))))
def G6_holdPeak_0 (m : Mem) (a0 : Nat) : Option Mem := G6_holdPeak_2 1024 m a0 0
def G6_holdPeak (m : Mem) (a0 : Nat) : Option Mem := G6_holdPeak_0 m a0
def G6_makeNobodyBold_2 : Nat → Mem → Nat → Int → Option Mem
  | 0, _, _, _ => none
  | n + 1, m, a0, x1 => if 5 ≤ x1 then (some m) else (gdx x1 5 (wt (up m (a0 + 2) x1 0) fun m5 => gd3 (x1 + 1) (G6_makeNobodyBold_2 n m5 a0 (x1 + 1))))
def G6_makeNobodyBold_0 (m : Mem) (a0 : Nat) : Option Mem := G6_makeNobodyBold_2 1024 m a0 0
def G6_makeNobodyBold (m : Mem) (a0 : Nat) : Option Mem := G6_makeNobodyBold_0 m a0
def G6_peakXAt_39 (m : Mem) (a0 : Nat) (t0 : Int) (t1 : Int) : Option (Int × Mem) := gd6 (t1 + t0) (gd3 ((m ((m a0 0).toNat) 0) - 1) (gd3 ((m ((m a0 0).toNat) 0) - 1) (gd6 (if (t1 + t0) < ((m ((m a0 0).toNat) 0) - 1) then (t1 + t0) else ((m ((m a0 0).toNat) 0) - 1)) (gd6 (t1 + t0) (gd3 ((m ((m a0 0).toNat) 0) - 1) (gd3 ((m ((m a0 0).toNat) 0) - 1) (gd3 (if (if (t1 + t0) < ((m ((m a0 0).toNat) 0) - 1) then (t1 + t0) else ((m ((m a0 0).toNat) 0) - 1)) < 0 then 0 else (if (t1 + t0) < ((m ((m a0 0).toNat) 0) - 1) then (t1 + t0) else ((m ((m a0 0).toNat) 0) - 1))) (some ((if (if (t1 + t0) < ((m ((m a0 0).toNat) 0) - 1) then (t1 + t0) else ((m ((m a0 0).toNat) 0) - 1)) < 0 then 0 else (if (t1 + t0) < ((m ((m a0 0).toNat) 0) - 1) then (t1 + t0) else ((m ((m a0 0).toNat) 0) - 1))), m)))))))))
def G6_peakXAt_0 (m : Mem) (a0 : Nat) (x1 : Int) : Option (Int × Mem) := (G6_driftValue m a0 x1).bind fun o1 => if o1.1 = (-9223372036854775808) then (G6_peakXAt_39 o1.2 a0 0 (o1.2 ((o1.2 a0 0).toNat) 2)) else (G6_peakXAt_39 o1.2 a0 (if (if o1.1 < 8 then o1.1 else 8) < (-8) then (-8) else (if o1.1 < 8 then o1.1 else 8)) (o1.2 ((o1.2 a0 0).toNat) 2))
def G6_peakXAt (m : Mem) (a0 : Nat) (x1 : Int) : Option (Int × Mem) := G6_peakXAt_0 m a0 x1
def G6_seatFrom_6 : Nat → Mem → Nat → Int → Int → Int → Int → Option (Int × Mem)
  | 0, _, _, _, _, _, _ => none
  | n + 1, m, a0, x1, x2, x4, x5 => if (m ((m a0 0).toNat + 8) 1) ≤ x5 then (some (x4, m)) else ((G6_worthAt m a0 x1 x5 x2).bind fun o8 => gd3 (x4 + o8.1) (gd3 (x5 + 1) (G6_seatFrom_6 n o8.2 a0 x1 x2 (x4 + o8.1) (x5 + 1))))
def G6_seatFrom_0 (m : Mem) (a0 : Nat) (x1 : Int) (x2 : Int) (x3 : Int) : Option (Int × Mem) := G6_seatFrom_6 1024 m a0 x1 x2 0 x3
def G6_seatFrom (m : Mem) (a0 : Nat) (x1 : Int) (x2 : Int) (x3 : Int) : Option (Int × Mem) := G6_seatFrom_0 m a0 x1 x2 x3
def G6_takeAsTold_47 : Nat → Mem → Nat → Int → Option Mem
  | 0, _, _, _ => none
  | n + 1, m, a0, x2 => if (m ((m a0 0).toNat + 8) 1) ≤ x2 then (some m) else (gdx x2 28 ((G6_peakXAt m a0 (m ((m a0 0).toNat + 11) x2)).bind fun o18 => gdx x2 28 (wt (up o18.2 (a0 + 3) x2 o18.1) fun m21 => gd3 (x2 + 1) (G6_takeAsTold_47 n m21 a0 (x2 + 1)))))
def G6_takeAsTold_0 (m : Mem) (a0 : Nat) (a1 : Nat) : Option Mem := wt (up m a0 0 ((a1 : Nat) : Int)) fun m1 => wt (cpy m1 ((m1 a0 0).toNat + 4) 0 (a0 + 1) 0 5) fun m11 => wt (cpy m11 ((m11 a0 0).toNat + 6) 0 (a0 + 2) 0 5) fun m21 => G6_takeAsTold_47 1024 m21 a0 0
def G6_takeAsTold (m : Mem) (a0 : Nat) (a1 : Nat) : Option Mem := G6_takeAsTold_0 m a0 a1
def G6_takeOver_0 (m : Mem) (a0 : Nat) (a1 : Nat) : Option Mem := wt (up m a0 0 (((m a1 0).toNat : Nat) : Int)) fun m3 => wt (cpy m3 (a1 + 1) 0 (a0 + 1) 0 5) fun m9 => wt (cpy m9 (a1 + 2) 0 (a0 + 2) 0 5) fun m15 => wt (cpy m15 (a1 + 3) 0 (a0 + 3) 0 28) fun m21 => some m21
def G6_takeOver (m : Mem) (a0 : Nat) (a1 : Nat) : Option Mem := G6_takeOver_0 m a0 a1
def G8_bankWaves_0 (m : Mem) (a0 : Nat) (x1 : Int) (x2 : Int) : Option (Int × Mem) := gd3 ((x2 - x1) - (m a0 6)) (if ((x2 - x1) - (m a0 6)) < 0 then (some (0, m)) else (if 1 ≤ (m a0 7) then (if (m a0 7) = 0 then (none) else (gd3 ((x2 - x1) - (m a0 6)) (gdd ((x2 - x1) - (m a0 6)) (m a0 7) (gd3 ((((x2 - x1) - (m a0 6)) / (m a0 7)) + 1) (some (((((x2 - x1) - (m a0 6)) / (m a0 7)) + 1), m)))))) else (some (0, m))))
def G8_bankWaves (m : Mem) (a0 : Nat) (x1 : Int) (x2 : Int) : Option (Int × Mem) := G8_bankWaves_0 m a0 x1 x2
def G8_cells_0 (m : Mem) (a0 : Nat) : Option (Int × Mem) := gd3 ((m a0 0) * (m a0 1)) (some (((m a0 0) * (m a0 1)), m))
def G8_cells (m : Mem) (a0 : Nat) : Option (Int × Mem) := G8_cells_0 m a0
def G9_add_45 (m : Mem) (x1 : Int) (x2 : Int) : Option Mem := gdx (m 96 0) 20 (wt (up m 97 (m 96 0) x1) fun m6 => gdx (m6 96 0) 20 (wt (up m6 98 (m6 96 0) x2) fun m12 => gd3 ((m12 96 0) + 1) (wt (up m12 96 0 ((m12 96 0) + 1)) fun m15 => some m15)))
def G9_add_0 (m : Mem) (x1 : Int) (x2 : Int) : Option Mem := if (m 96 0) < 20 then (G9_add_45 m x1 x2) else (wt (cpy m 97 1 97 0 19) fun m8 => wt (cpy m8 98 1 98 0 19) fun m14 => wt (up m14 96 0 19) fun m16 => G9_add_45 m16 x1 x2)
def G9_add (m : Mem) (x1 : Int) (x2 : Int) : Option Mem := G9_add_0 m x1 x2
def G10_isLargest_14 : Nat → Mem → Nat → Int → Int → Int → Option (Int × Mem)
  | 0, _, _, _, _, _ => none
  | n + 1, m, a0, x1, x3, x4 => gdx x1 4 (if (m (a0 + 2) x1) ≤ x4 then (some (1, m)) else (gdx x1 4 (gdx ((m (a0 + 1) x1) + x4) 28 (gdx x3 28 (if (m (a0 + 4) ((m (a0 + 1) x1) + x4)) ≤ (m (a0 + 4) x3) then (gd3 (x4 + 1) (G10_isLargest_14 n m a0 x1 x3 (x4 + 1))) else (some (0, m)))))))
def G10_isLargest_0 (m : Mem) (a0 : Nat) (x1 : Int) (x2 : Int) : Option (Int × Mem) := gdx x1 4 (gd3 (((m (a0 + 1) x1) + x2) - 1) (G10_isLargest_14 1024 m a0 x1 (((m (a0 + 1) x1) + x2) - 1) 0))
def G10_isLargest (m : Mem) (a0 : Nat) (x1 : Int) (x2 : Int) : Option (Int × Mem) := G10_isLargest_0 m a0 x1 x2
def G10_lengthOf_0 (m : Mem) (a0 : Nat) (x1 : Int) : Option (Int × Mem) := gdx x1 4 (some ((m (a0 + 2) x1), m))
def G10_lengthOf (m : Mem) (a0 : Nat) (x1 : Int) : Option (Int × Mem) := G10_lengthOf_0 m a0 x1
def G10_setFrom_2 : Nat → Mem → Nat → Int → Int → Option (Int × Mem)
  | 0, _, _, _, _ => none
  | n + 1, m, a0, x1, x2 => if (m a0 0) ≤ x2 then (some ((-1), m)) else ((G10_firstMinute m a0 x2).bind fun o4 => if o4.1 < x1 then (gd3 (x2 + 1) (G10_setFrom_2 n o4.2 a0 x1 (x2 + 1))) else (some (x2, o4.2)))
def G10_setFrom_0 (m : Mem) (a0 : Nat) (x1 : Int) : Option (Int × Mem) := G10_setFrom_2 1024 m a0 x1 0
def G10_setFrom (m : Mem) (a0 : Nat) (x1 : Int) : Option (Int × Mem) := G10_setFrom_0 m a0 x1
def G11_back_0 (m : Mem) : Option (Int × Mem) := if (m 0 10) = 0 then (some ((-1), m)) else ((G4_takeAll m 69 83).bind fun o8 => wt (up o8 96 0 0) fun m12 => some ((m12 69 0), m12))
def G11_back (m : Mem) : Option (Int × Mem) := G11_back_0 m
def G11_beginAnew_0 (m : Mem) : Option Mem := (G6_takeAsTold m 51 ((m 0 3).toNat)).bind fun o5 => (G4_begin o5 69 ((o5 0 3).toNat)).bind fun o11 => wt (up o11 90 0 0) fun m15 => wt (up m15 90 1 (-1)) fun m19 => wt (up m19 96 0 0) fun m23 => wt (up m23 0 10 0) fun m25 => some m25
def G11_beginAnew (m : Mem) : Option Mem := G11_beginAnew_0 m
def G11_isSurfer_0 (m : Mem) (x1 : Int) : Option (Int × Mem) := if x1 < 0 then (some (0, m)) else (if (m ((m 0 3).toNat + 1) 0) ≤ x1 then (some (0, m)) else (some (1, m)))
def G11_isSurfer (m : Mem) (x1 : Int) : Option (Int × Mem) := G11_isSurfer_0 m x1
def G11_firstToCome_0 (m : Mem) : Option (Int × Mem) := (G10_firstFrom m ((m 0 3).toNat + 8) (m 69 0)).bind fun o9 => some (o9.1, o9.2)
def G11_firstToCome (m : Mem) : Option (Int × Mem) := G11_firstToCome_0 m
def G11_best_17 : Nat → Mem → Int → Int → Int → Int → Option (Int × Mem)
  | 0, _, _, _, _, _ => none
  | n + 1, m, x1, x2, x3, x4 => (G8_cells m ((m 0 3).toNat)).bind fun o3 => if o3.1 ≤ x4 then (some (x2, o3.2)) else ((G11_firstToCome o3.2).bind fun o8 => (G6_seatFrom o8.2 51 x1 x4 o8.1).bind fun o10 => if o10.1 ≤ x3 then (gd3 (x4 + 1) (G11_best_17 n o10.2 x1 x2 x3 (x4 + 1))) else (gd3 (x4 + 1) (G11_best_17 n o10.2 x1 x4 o10.1 (x4 + 1))))
def G11_best_0 (m : Mem) (x1 : Int) : Option (Int × Mem) := (G11_isSurfer m x1).bind fun o1 => if o1.1 = 0 then (some ((-1), o1.2)) else (G11_best_17 1024 o1.2 x1 0 (-1) 0)
def G11_best (m : Mem) (x1 : Int) : Option (Int × Mem) := G11_best_0 m x1
def G11_runBy_18 : Nat → Mem → Int → Option Mem
  | 0, _, _ => none
  | n + 1, m, x3 => if (m ((m 0 3).toNat + 8) 1) ≤ x3 then (some m) else ((G6_bringWave m 51 76 x3).bind fun o12 => gd3 (x3 + 1) (G11_runBy_18 n o12 (x3 + 1)))
def G11_runBy_0 (m : Mem) (x1 : Int) (x2 : Int) : Option Mem := (G4_takeForRun m 76 69 x1 x2).bind fun o5 => (G11_firstToCome o5).bind fun o7 => G11_runBy_18 1024 o7.2 o7.1
def G11_runBy (m : Mem) (x1 : Int) (x2 : Int) : Option Mem := G11_runBy_0 m x1 x2
def G11_chance_33 : Nat → Mem → Int → Int → Int → Int → Int → Option (Int × Mem)
  | 0, _, _, _, _, _, _ => none
  | n + 1, m, x2, x3, x4, x5, x6 => if 10 ≤ x6 then (some (x4, m)) else ((G11_runBy m (m 69 1) x5).bind fun o6 => gdx x2 5 (if (o6 (76 + 2) x2) < x3 then (gd3 (x6 + 1) (G11_chance_33 n o6 x2 x3 x4 (o6 76 2) (x6 + 1))) else (gd3 (x4 + 1) (gd3 (x6 + 1) (G11_chance_33 n o6 x2 x3 (x4 + 1) (o6 76 2) (x6 + 1))))))
def G11_chance_0 (m : Mem) (x1 : Int) (x2 : Int) (x3 : Int) : Option (Int × Mem) := if x1 < 0 then (some ((-1), m)) else ((G11_isSurfer m x2).bind fun o2 => if o2.1 = 0 then (some ((-1), o2.2)) else (if x3 < 0 then (some ((-1), o2.2)) else (if x3 ≤ 28 then (G11_chance_33 1024 o2.2 x2 x3 0 x1 0) else (some ((-1), o2.2)))))
def G11_chance (m : Mem) (x1 : Int) (x2 : Int) (x3 : Int) : Option (Int × Mem) := G11_chance_0 m x1 x2 x3
def G11_changeTrial_0 (m : Mem) (x1 : Int) (x2 : Int) : Option Mem := if x1 = 0 then ((G6_makeNobodyBold m 60).bind fun o4 => some o4) else (if x1 = 1 then ((G4_leaveOut m 76 x2).bind fun o9 => some o9) else (if x1 = 2 then ((G6_holdPeak m 60).bind fun o14 => some o14) else (if x1 = 3 then ((G6_giveBoards m 60 9).bind fun o19 => some o19) else (gdx x2 5 ((G4_seatAll m 76 (m (76 + 1) x2)).bind fun o29 => some o29)))))
def G11_changeTrial (m : Mem) (x1 : Int) (x2 : Int) : Option Mem := G11_changeTrial_0 m x1 x2
def G11_count_0 (m : Mem) (x1 : Int) : Option (Int × Mem) := if x1 = 0 then (some ((m ((m 0 3).toNat) 0), m)) else (if x1 = 1 then (some ((m ((m 0 3).toNat) 1), m)) else (if x1 = 2 then (some ((m ((m 0 3).toNat + 1) 0), m)) else (if x1 = 3 then (some ((m ((m 0 3).toNat + 8) 0), m)) else (if x1 = 4 then (some ((m ((m 0 3).toNat + 8) 1), m)) else (if x1 = 5 then (some ((m ((m 0 3).toNat) 13), m)) else (if x1 = 6 then (some ((m 69 0), m)) else (if x1 = 7 then (some ((m 69 1), m)) else (if x1 = 8 then (some ((m 69 3), m)) else (if x1 = 9 then (some ((m 69 4), m)) else (if x1 = 10 then ((G11_firstToCome m).bind fun o64 => gd3 ((m ((m 0 3).toNat + 8) 1) - o64.1) (some (((m ((m 0 3).toNat + 8) 1) - o64.1), o64.2))) else (if x1 = 11 then (some ((m 90 0), m)) else (if x1 = 12 then ((G3_howManyKnown m).bind fun o74 => some (o74.1, o74.2)) else (if x1 = 13 then (some ((m 96 0), m)) else (some ((-1), m)))))))))))))))
def G11_count (m : Mem) (x1 : Int) : Option (Int × Mem) := G11_count_0 m x1
def G11_farNow_0 (m : Mem) (x1 : Int) : Option (Int × Mem) := gdx x1 5 ((G6_peakXAt m 51 (m 69 0)).bind fun o15 => (G8_farFrom o15.2 ((m 0 3).toNat) (m (69 + 1) x1) o15.1).bind fun o17 => some (o17.1, o17.2))
def G11_farNow (m : Mem) (x1 : Int) : Option (Int × Mem) := G11_farNow_0 m x1
def G11_deeper_0 (m : Mem) (x1 : Int) (x2 : Int) : Option (Int × Mem) := (G11_isSurfer m x1).bind fun o1 => if o1.1 = 0 then (some ((-1), o1.2)) else ((G11_isSurfer o1.2 x2).bind fun o4 => if o4.1 = 0 then (some ((-1), o4.2)) else ((G11_farNow o4.2 x1).bind fun o7 => (G11_farNow o7.2 x2).bind fun o9 => if o7.1 = o9.1 then (some (0, o9.2)) else (if o9.1 ≤ o7.1 then (some (2, o9.2)) else (some (1, o9.2)))))
def G11_deeper (m : Mem) (x1 : Int) (x2 : Int) : Option (Int × Mem) := G11_deeper_0 m x1 x2
def G11_fairest_89 (kk16 : Mem → Int → Int → Int → Int → Int → Option (Int × Mem)) (m : Mem) (x1 : Int) (x5 : Int) (x6 : Int) (x7 : Int) : Option (Int × Mem) := gd3 (x5 + 1) (kk16 m x1 x5 x6 x7 (x5 + 1))
def G11_fairest_16 : Nat → Mem → Int → Int → Int → Int → Int → Option (Int × Mem)
  | 0, _, _, _, _, _, _ => none
  | n + 1, m, x1, x2, x3, x4, x5 => if 4 ≤ x5 then (some (x2, m)) else ((G11_runBy m x5 x1).bind fun o2 => (G4_unlike o2 76 (o2 ((o2 0 3).toNat + 1) 0)).bind fun o12 => if x2 = (-1) then (gd3 ((o12.2 76 3) + (o12.2 76 4)) (G11_fairest_89 (fun m x1 x2 x3 x4 x5 => G11_fairest_16 n m x1 x2 x3 x4 x5) o12.2 x1 x5 o12.1 ((o12.2 76 3) + (o12.2 76 4)))) else (if o12.1 < x3 then (gd3 ((o12.2 76 3) + (o12.2 76 4)) (G11_fairest_89 (fun m x1 x2 x3 x4 x5 => G11_fairest_16 n m x1 x2 x3 x4 x5) o12.2 x1 x5 o12.1 ((o12.2 76 3) + (o12.2 76 4)))) else (if o12.1 = x3 then (gd3 ((o12.2 76 3) + (o12.2 76 4)) (if x4 ≤ ((o12.2 76 3) + (o12.2 76 4)) then (gd3 (x5 + 1) (G11_fairest_16 n o12.2 x1 x2 x3 x4 (x5 + 1))) else (gd3 ((o12.2 76 3) + (o12.2 76 4)) (G11_fairest_89 (fun m x1 x2 x3 x4 x5 => G11_fairest_16 n m x1 x2 x3 x4 x5) o12.2 x1 x5 o12.1 ((o12.2 76 3) + (o12.2 76 4)))))) else (gd3 (x5 + 1) (G11_fairest_16 n o12.2 x1 x2 x3 x4 (x5 + 1))))))
def G11_fairest_0 (m : Mem) (x1 : Int) : Option (Int × Mem) := if 0 ≤ x1 then (G11_fairest_16 1024 m x1 (-1) 0 0 0) else (some ((-1), m))
def G11_fairest (m : Mem) (x1 : Int) : Option (Int × Mem) := G11_fairest_0 m x1
def G11_fault_0 (m : Mem) (x1 : Int) : Option (Int × Mem) := if x1 = 0 then (some ((m 46 8), m)) else (if x1 = 1 then (some ((m 46 9), m)) else (some ((-1), m)))
def G11_fault (m : Mem) (x1 : Int) : Option (Int × Mem) := G11_fault_0 m x1
def G11_putOnTape_3 : Nat → Mem → Int → Int → Option Mem
  | 0, _, _, _ => none
  | n + 1, m, x1, x2 => if x2 < 0 then (some m) else (if 700 ≤ (m 0 1) then (some m) else (gdx (m 0 1) 700 (wt (up m 1 (m 0 1) (b3by (b3sr x1 (b3an x2 31)))) fun m10 => gd3 ((m10 0 1) + 1) (wt (up m10 0 1 ((m10 0 1) + 1)) fun m13 => gd3 (x2 + (-8)) (G11_putOnTape_3 n m13 x1 (x2 + (-8)))))))
def G11_putOnTape_0 (m : Mem) (x1 : Int) : Option Mem := G11_putOnTape_3 1024 m x1 24
def G11_putOnTape (m : Mem) (x1 : Int) : Option Mem := G11_putOnTape_0 m x1
def G11_feed_0 (m : Mem) (x1 : Int) (x2 : Int) (x3 : Int) (x4 : Int) (x5 : Int) : Option (Int × Mem) := gd3 ((m 0 1) + 20) (if ((m 0 1) + 20) ≤ 700 then ((G11_putOnTape m x1).bind fun o4 => (G11_putOnTape o4 x2).bind fun o6 => (G11_putOnTape o6 x3).bind fun o8 => (G11_putOnTape o8 x4).bind fun o10 => (G11_putOnTape o10 x5).bind fun o12 => some ((o12 0 1), o12)) else (some ((-1), m)))
def G11_feed (m : Mem) (x1 : Int) (x2 : Int) (x3 : Int) (x4 : Int) (x5 : Int) : Option (Int × Mem) := G11_feed_0 m x1 x2 x3 x4 x5
def G11_gaps_26 : Nat → Mem → Int → Int → Int → Int → Option (Int × Mem)
  | 0, _, _, _, _, _ => none
  | n + 1, m, x1, x2, x3, x4 => if (m ((m 0 3).toNat + 8) 0) ≤ x4 then (some (x3, m)) else ((G10_firstMinute m ((m 0 3).toNat + 8) x4).bind fun o12 => gd3 (x4 - 1) ((G10_lastMinute o12.2 ((o12.2 0 3).toNat + 8) (x4 - 1)).bind fun o18 => if x2 = 1 then (gd3 (x3 + 1) (gd3 (x4 + 1) (G11_gaps_26 n o18.2 x1 x2 (x3 + 1) (x4 + 1)))) else (gd3 (o12.1 - o18.1) (if x1 < (o12.1 - o18.1) then (gd3 (x4 + 1) (G11_gaps_26 n o18.2 x1 x2 x3 (x4 + 1))) else (gd3 (x3 + 1) (gd3 (x4 + 1) (G11_gaps_26 n o18.2 x1 x2 (x3 + 1) (x4 + 1))))))))
def G11_gaps_0 (m : Mem) (x1 : Int) (x2 : Int) : Option (Int × Mem) := if x1 < 0 then (some ((-1), m)) else (if 99 < x1 then (some ((-1), m)) else (if x2 < 0 then (some ((-1), m)) else (if x2 ≤ 1 then (G11_gaps_26 1024 m x1 x2 0 1) else (some ((-1), m)))))
def G11_gaps (m : Mem) (x1 : Int) (x2 : Int) : Option (Int × Mem) := G11_gaps_0 m x1 x2
def G11_give_0 (m : Mem) (x1 : Int) (x2 : Int) (x3 : Int) : Option (Int × Mem) := (G11_isSurfer m x1).bind fun o1 => if o1.1 = 0 then (some ((-1), o1.2)) else ((G11_isSurfer o1.2 x2).bind fun o4 => if o4.1 = 0 then (some ((-1), o4.2)) else (if x1 = x2 then (some ((-1), o4.2)) else (if x3 < 0 then (some ((-1), o4.2)) else (if x3 ≤ 99 then (gdx x2 5 (gd3 ((o4.2 ((o4.2 0 3).toNat + 7) x2) * x3) (if ((o4.2 ((o4.2 0 3).toNat + 7) x2) * x3) ≤ 100 then (some (0, o4.2)) else (some (1, o4.2))))) else (some ((-1), o4.2))))))
def G11_give (m : Mem) (x1 : Int) (x2 : Int) (x3 : Int) : Option (Int × Mem) := G11_give_0 m x1 x2 x3
def G11_isWave_0 (m : Mem) (x1 : Int) : Option (Int × Mem) := if x1 < 0 then (some (0, m)) else (if (m ((m 0 3).toNat + 8) 1) ≤ x1 then (some (0, m)) else (some (1, m)))
def G11_isWave (m : Mem) (x1 : Int) : Option (Int × Mem) := G11_isWave_0 m x1
def G11_isToCome_0 (m : Mem) (x1 : Int) : Option (Int × Mem) := (G11_isWave m x1).bind fun o1 => if o1.1 = 0 then (some (0, o1.2)) else (gdx x1 28 (if (o1.2 ((o1.2 0 3).toNat + 11) x1) < (o1.2 69 0) then (some (0, o1.2)) else (some (1, o1.2))))
def G11_isToCome (m : Mem) (x1 : Int) : Option (Int × Mem) := G11_isToCome_0 m x1
def G11_go_0 (m : Mem) (x1 : Int) (x2 : Int) (x3 : Int) : Option (Int × Mem) := (G11_isSurfer m x1).bind fun o1 => if o1.1 = 0 then (some ((-1), o1.2)) else ((G11_isToCome o1.2 x2).bind fun o4 => if o4.1 = 0 then (some ((-1), o4.2)) else (if x3 < 0 then (some ((-1), o4.2)) else (if x3 ≤ 999 then (gdx x1 5 ((G6_worthAt o4.2 51 x1 x2 (o4.2 (69 + 1) x1)).bind fun o17 => (G6_crossingOdds o17.2 51 69 x1 x2).bind fun o23 => gd3 (x3 * o23.1) (if o17.1 ≤ (x3 * o23.1) then (some (0, o23.2)) else (some (1, o23.2))))) else (some ((-1), o4.2)))))
def G11_go (m : Mem) (x1 : Int) (x2 : Int) (x3 : Int) : Option (Int × Mem) := G11_go_0 m x1 x2 x3
def G11_isCell_0 (m : Mem) (x1 : Int) : Option (Int × Mem) := if x1 < 0 then (some (0, m)) else ((G8_cells m ((m 0 3).toNat)).bind fun o4 => if o4.1 ≤ x1 then (some (0, o4.2)) else (some (1, o4.2)))
def G11_isCell (m : Mem) (x1 : Int) : Option (Int × Mem) := G11_isCell_0 m x1
def G11_isRule_0 (m : Mem) (x1 : Int) : Option (Int × Mem) := if x1 < 0 then (some (0, m)) else (if 4 ≤ x1 then (some (0, m)) else (some (1, m)))
def G11_isRule (m : Mem) (x1 : Int) : Option (Int × Mem) := G11_isRule_0 m x1
def G11_keep_0 (m : Mem) : Option (Int × Mem) := (G4_takeAll m 83 69).bind fun o5 => wt (up o5 0 10 1) fun m7 => some ((m7 69 0), m7)
def G11_keep (m : Mem) : Option (Int × Mem) := G11_keep_0 m
def G11_known_0 (m : Mem) (x1 : Int) : Option (Int × Mem) := if x1 < (-1) then (some (0, m)) else (if x1 ≤ (m 90 0) then (wt (up m 90 1 x1) fun m9 => some (1, m9)) else (some (0, m)))
def G11_known (m : Mem) (x1 : Int) : Option (Int × Mem) := G11_known_0 m x1
def G11_law_0 (m : Mem) (x1 : Int) (x2 : Int) (x3 : Int) : Option (Int × Mem) := if x1 = 2 then ((G6_driftValue m 51 (m 69 0)).bind fun o30 => some (o30.1, o30.2)) else ((G11_isSurfer m x2).bind fun o2 => if o2.1 = 0 then (some ((-9223372036854775808), o2.2)) else ((G11_isWave o2.2 x3).bind fun o5 => if o5.1 = 0 then (some ((-9223372036854775808), o5.2)) else (if x1 = 0 then (gdx x2 5 ((G6_catchValue o5.2 51 x2 x3 (o5.2 (69 + 1) x2)).bind fun o22 => some (o22.1, o22.2))) else (if x1 = 1 then ((G6_awayValue o5.2 51 x2 x3).bind fun o12 => some (o12.1, o12.2)) else (some ((-9223372036854775808), o5.2))))))
def G11_law (m : Mem) (x1 : Int) (x2 : Int) (x3 : Int) : Option (Int × Mem) := G11_law_0 m x1 x2 x3
def G11_locals_74 (kk26 : Mem → Int → Int → Int → Int → Option (Int × Mem)) (m : Mem) (x1 : Int) (x2 : Int) (x3 : Int) (x4 : Int) (s0 : Int) : Option (Int × Mem) := if s0 = (-1) then (gd3 (x4 + 1) (kk26 m x1 x2 x3 (x4 + 1))) else (gdx x4 24 (gdx x4 24 (gdx s0 4 ((G6_farOf m 51 (m 93 x4) (m ((m 0 3).toNat + 9) s0)).bind fun o24 => if x1 < o24.1 then (gd3 (x4 + 1) (kk26 o24.2 x1 x2 (b3or x3 (b3sl 1 (b3an (m 92 x4) 31))) (x4 + 1))) else (gd3 (x4 + 1) (kk26 o24.2 x1 (b3or x2 (b3sl 1 (b3an (m 92 x4) 31))) x3 (x4 + 1)))))))
def G11_locals_26 : Nat → Mem → Int → Int → Int → Int → Option (Int × Mem)
  | 0, _, _, _, _, _ => none
  | n + 1, m, x1, x2, x3, x4 => (G3_howManyKnown m).bind fun o3 => if o3.1 ≤ x4 then (some ((b3an x2 (b3xo x3 (-1))), o3.2)) else ((G3_isKnownSeat o3.2 x4).bind fun o8 => if o8.1 = 0 then (G11_locals_74 (fun m x1 x2 x3 x4 => G11_locals_26 n m x1 x2 x3 x4) o8.2 x1 x2 x3 x4 (-1)) else (gdx x4 24 ((G10_setFrom o8.2 ((o8.2 0 3).toNat + 8) (o8.2 91 x4)).bind fun o21 => G11_locals_74 (fun m x1 x2 x3 x4 => G11_locals_26 n m x1 x2 x3 x4) o21.2 x1 x2 x3 x4 o21.1)))
def G11_locals_0 (m : Mem) (x1 : Int) : Option (Int × Mem) := if x1 < 0 then (some ((-1), m)) else (if x1 ≤ 12 then ((G3_findStruck m).bind fun o5 => G11_locals_26 1024 o5 x1 0 0 0) else (some ((-1), m)))
def G11_locals (m : Mem) (x1 : Int) : Option (Int × Mem) := G11_locals_0 m x1
def G11_passMinute_66 (m : Mem) : Option Mem := (G4_beginMinute m 69 (m ((m 0 3).toNat + 1) 0)).bind fun o9 => wt (up o9 96 0 0) fun m13 => some m13
def G11_passMinute_0 (m : Mem) : Option Mem := (G10_firstFrom m ((m 0 3).toNat + 8) (m 69 0)).bind fun o9 => if (o9.2 ((o9.2 0 3).toNat + 8) 1) ≤ o9.1 then (G11_passMinute_66 o9.2) else (gdx o9.1 28 (if (o9.2 ((o9.2 0 3).toNat + 11) o9.1) = (o9.2 69 0) then ((G6_bringWave o9.2 51 69 o9.1).bind fun o35 => G11_passMinute_66 o35) else (G11_passMinute_66 o9.2)))
def G11_passMinute (m : Mem) : Option Mem := G11_passMinute_0 m
def G11_minutes_29 : Nat → Mem → Int → Int → Option (Int × Mem)
  | 0, _, _, _ => none
  | n + 1, m, x1, x2 => if x1 ≤ x2 then (some ((m 69 0), m)) else ((G11_passMinute m).bind fun o6 => gd3 (x2 + 1) (G11_minutes_29 n o6 x1 (x2 + 1)))
def G11_minutes_0 (m : Mem) (x1 : Int) : Option (Int × Mem) := if x1 < 0 then (some ((-1), m)) else (if 99 < x1 then (some ((-1), m)) else (gd3 ((m 69 0) + x1) (if ((m 69 0) + x1) ≤ 199 then (G11_minutes_29 1024 m x1 0) else (some ((-1), m)))))
def G11_minutes (m : Mem) (x1 : Int) : Option (Int × Mem) := G11_minutes_0 m x1
def G11_named_2 : Nat → Mem → Int → Int → Option (Int × Mem)
  | 0, _, _, _ => none
  | n + 1, m, x1, x2 => if (m ((m 0 3).toNat + 1) 0) ≤ x2 then (some ((-1), m)) else (gdx x2 5 (if (m ((m 0 3).toNat + 2) x2) = x1 then (some (x2, m)) else (gd3 (x2 + 1) (G11_named_2 n m x1 (x2 + 1)))))
def G11_named_0 (m : Mem) (x1 : Int) : Option (Int × Mem) := G11_named_2 1024 m x1 0
def G11_named (m : Mem) (x1 : Int) : Option (Int × Mem) := G11_named_0 m x1
def G11_next_0 (m : Mem) : Option (Int × Mem) := (G10_setFrom m ((m 0 3).toNat + 8) (m 69 0)).bind fun o9 => if o9.1 = (-1) then (some ((-2), o9.2)) else ((G10_firstMinute o9.2 ((o9.2 0 3).toNat + 8) o9.1).bind fun o16 => gd3 (o16.1 - (o16.2 69 0)) (some ((o16.1 - (o16.2 69 0)), o16.2)))
def G11_next (m : Mem) : Option (Int × Mem) := G11_next_0 m
def G11_note_0 (m : Mem) (x1 : Int) (x2 : Int) (x3 : Int) : Option (Int × Mem) := if x1 < 0 then (some ((-1), m)) else (if 199 < x1 then (some ((-1), m)) else ((G11_isSurfer m x2).bind fun o3 => if o3.1 = 0 then (some ((-1), o3.2)) else ((G11_isCell o3.2 x3).bind fun o6 => if o6.1 = 0 then (some ((-1), o6.2)) else ((G3_addSeat o6.2 x1 x2 x3).bind fun o11 => some (o11.1, o11.2)))))
def G11_note (m : Mem) (x1 : Int) (x2 : Int) (x3 : Int) : Option (Int × Mem) := G11_note_0 m x1 x2 x3
def G11_odds_0 (m : Mem) (x1 : Int) (x2 : Int) (x3 : Int) : Option (Int × Mem) := (G11_isSurfer m x1).bind fun o1 => if o1.1 = 0 then (some ((-1), o1.2)) else ((G11_isWave o1.2 x2).bind fun o4 => if o4.1 = 0 then (some ((-1), o4.2)) else ((G11_isCell o4.2 x3).bind fun o7 => if o7.1 = 0 then (some ((-1), o7.2)) else ((G6_oddsAt o7.2 51 x1 x2 x3).bind fun o12 => some (o12.1, o12.2))))
def G11_odds (m : Mem) (x1 : Int) (x2 : Int) (x3 : Int) : Option (Int × Mem) := G11_odds_0 m x1 x2 x3
def G11_order_0 (m : Mem) (x1 : Int) (x2 : Int) : Option (Int × Mem) := (G11_isToCome m x1).bind fun o1 => if o1.1 = 0 then (some ((-1), o1.2)) else (if 0 ≤ x2 then ((G6_lineUp o1.2 51 69 x1 (o1.2 69 0)).bind fun o13 => if o13.1 ≤ x2 then (some ((-2), o13.2)) else (gdx x2 5 (some ((o13.2 (51 + 6) x2), o13.2)))) else (some ((-1), o1.2)))
def G11_order (m : Mem) (x1 : Int) (x2 : Int) : Option (Int × Mem) := G11_order_0 m x1 x2
def G11_over_93 : Nat → Mem → Int → Int → Int → Int → Int → Option (Int × Mem)
  | 0, _, _, _, _, _, _ => none
  | n + 1, m, x1, x2, x3, x4, x5 => if x2 < x5 then (some ((-2), m)) else ((G8_bankWaves m ((m 0 3).toNat) x5 x2).bind fun o8 => gd3 ((100 * (m ((m 0 3).toNat) 8)) * o8.1) (if ((100 * (m ((m 0 3).toNat) 8)) * o8.1) ≤ x4 then (if (o8.2 ((o8.2 0 3).toNat + 8) 1) ≤ x3 then (gd3 (x5 + 1) (G11_over_93 n o8.2 x1 x2 x3 x4 (x5 + 1))) else (gdx x3 28 (if (o8.2 ((o8.2 0 3).toNat + 11) x3) = x5 then (gdx x1 5 ((G6_worthAt o8.2 51 x1 x3 (o8.2 (69 + 1) x1)).bind fun o35 => gd3 (x3 + 1) (gd3 (x4 - o35.1) (gd3 (x5 + 1) (G11_over_93 n o35.2 x1 x2 (x3 + 1) (x4 - o35.1) (x5 + 1)))))) else (gd3 (x5 + 1) (G11_over_93 n o8.2 x1 x2 x3 x4 (x5 + 1)))))) else (some (x5, o8.2))))
def G11_over_0 (m : Mem) (x1 : Int) : Option (Int × Mem) := (G11_isSurfer m x1).bind fun o1 => if o1.1 = 0 then (some ((-1), o1.2)) else (if (o1.2 ((o1.2 0 3).toNat) 7) < 1 then (some ((-1), o1.2)) else (if 1 ≤ (o1.2 ((o1.2 0 3).toNat + 8) 1) then (gdx ((o1.2 ((o1.2 0 3).toNat + 8) 1) - 1) 28 ((G11_firstToCome o1.2).bind fun o30 => gdx x1 5 ((G6_seatFrom o30.2 51 x1 (o30.2 (69 + 1) x1) o30.1).bind fun o40 => G11_over_93 1024 o40.2 x1 (o1.2 ((o1.2 0 3).toNat + 11) ((o1.2 ((o1.2 0 3).toNat + 8) 1) - 1)) o30.1 o40.1 (o40.2 69 0)))) else (some ((-1), o1.2))))
def G11_over (m : Mem) (x1 : Int) : Option (Int × Mem) := G11_over_0 m x1
def G11_peak_0 (m : Mem) (x1 : Int) : Option (Int × Mem) := if x1 < 0 then (some ((-1), m)) else (if x1 ≤ 199 then ((G6_peakXAt m 51 x1).bind fun o13 => gd3 (((m ((m 0 3).toNat) 3) * (m ((m 0 3).toNat) 0)) + o13.1) (some ((((m ((m 0 3).toNat) 3) * (m ((m 0 3).toNat) 0)) + o13.1), o13.2))) else (some ((-1), m)))
def G11_peak (m : Mem) (x1 : Int) : Option (Int × Mem) := G11_peak_0 m x1
def G11_plan_0 (m : Mem) (x1 : Int) : Option (Int × Mem) := (G11_isSurfer m x1).bind fun o1 => if o1.1 = 0 then (some ((-1), o1.2)) else ((G0_makePlan o1.2 51 69 x1).bind fun o10 => some ((o10 99 12), o10))
def G11_plan (m : Mem) (x1 : Int) : Option (Int × Mem) := G11_plan_0 m x1
def G11_planned_0 (m : Mem) (x1 : Int) (x2 : Int) : Option (Int × Mem) := (G11_isSurfer m x1).bind fun o1 => if o1.1 = 0 then (some ((-1), o1.2)) else (if 0 ≤ x2 then ((G0_makePlan o1.2 51 69 x1).bind fun o11 => if (o11 99 11) ≤ x2 then (some ((-2), o11)) else (gdx x2 28 (some ((o11 109 x2), o11)))) else (some ((-1), o1.2)))
def G11_planned (m : Mem) (x1 : Int) (x2 : Int) : Option (Int × Mem) := G11_planned_0 m x1 x2
def G11_rank_27 : Nat → Mem → Int → Int → Int → Int → Option (Int × Mem)
  | 0, _, _, _, _, _ => none
  | n + 1, m, x1, x2, x3, x4 => if (m ((m 0 3).toNat + 8) 0) ≤ x4 then (some (x3, m)) else ((G10_lengthOf m ((m 0 3).toNat + 8) x4).bind fun o12 => if o12.1 < x1 then (gd3 (x4 + 1) (G11_rank_27 n o12.2 x1 x2 x3 (x4 + 1))) else (if x2 = 1 then (gd3 (x3 + 1) (gd3 (x4 + 1) (G11_rank_27 n o12.2 x1 x2 (x3 + 1) (x4 + 1)))) else ((G10_isLargest o12.2 ((o12.2 0 3).toNat + 8) x4 x1).bind fun o20 => if o20.1 = 0 then (gd3 (x4 + 1) (G11_rank_27 n o20.2 x1 x2 x3 (x4 + 1))) else (gd3 (x3 + 1) (gd3 (x4 + 1) (G11_rank_27 n o20.2 x1 x2 (x3 + 1) (x4 + 1)))))))
def G11_rank_0 (m : Mem) (x1 : Int) (x2 : Int) : Option (Int × Mem) := if x1 < 1 then (some ((-1), m)) else (if 7 < x1 then (some ((-1), m)) else (if x2 < 0 then (some ((-1), m)) else (if x2 ≤ 1 then (G11_rank_27 1024 m x1 x2 0 0) else (some ((-1), m)))))
def G11_rank (m : Mem) (x1 : Int) (x2 : Int) : Option (Int × Mem) := G11_rank_0 m x1 x2
def G11_rest_0 (m : Mem) (x1 : Int) (x2 : Int) (x3 : Int) : Option (Int × Mem) := (G11_isSurfer m x1).bind fun o1 => if o1.1 = 0 then (some ((-1), o1.2)) else ((G11_isSurfer o1.2 x2).bind fun o4 => if o4.1 = 0 then (some ((-1), o4.2)) else (if x1 = x2 then (some ((-1), o4.2)) else (if 0 ≤ x3 then ((G0_playGame o4.2 51 69 x1 x2).bind fun o15 => if (o15 99 6) ≤ x3 then (some ((-2), o15)) else (gdx x3 25 (some ((o15 105 x3), o15)))) else (some ((-1), o4.2)))))
def G11_rest (m : Mem) (x1 : Int) (x2 : Int) (x3 : Int) : Option (Int × Mem) := G11_rest_0 m x1 x2 x3
def G11_rests_0 (m : Mem) (x1 : Int) (x2 : Int) : Option (Int × Mem) := (G11_isSurfer m x1).bind fun o1 => if o1.1 = 0 then (some ((-1), o1.2)) else ((G11_isSurfer o1.2 x2).bind fun o4 => if o4.1 = 0 then (some ((-1), o4.2)) else (if x1 = x2 then (some ((-1), o4.2)) else ((G0_playGame o4.2 51 69 x1 x2).bind fun o14 => some ((o14 99 6), o14))))
def G11_rests (m : Mem) (x1 : Int) (x2 : Int) : Option (Int × Mem) := G11_rests_0 m x1 x2
def G11_rule_0 (m : Mem) (x1 : Int) : Option (Int × Mem) := (G11_isRule m x1).bind fun o1 => if o1.1 = 0 then (some (0, o1.2)) else (if x1 = (o1.2 69 1) then (some (0, o1.2)) else ((G9_add o1.2 (-1) (o1.2 69 1)).bind fun o15 => wt (up o15 69 1 x1) fun m19 => some (1, m19)))
def G11_rule (m : Mem) (x1 : Int) : Option (Int × Mem) := G11_rule_0 m x1
def G11_seat_0 (m : Mem) (x1 : Int) (x2 : Int) : Option (Int × Mem) := (G11_isSurfer m x1).bind fun o1 => if o1.1 = 0 then (some ((-1), o1.2)) else ((G11_isCell o1.2 x2).bind fun o4 => if o4.1 = 0 then (some ((-1), o4.2)) else ((G11_firstToCome o4.2).bind fun o9 => (G6_seatFrom o9.2 51 x1 x2 o9.1).bind fun o11 => some (o11.1, o11.2)))
def G11_seat (m : Mem) (x1 : Int) (x2 : Int) : Option (Int × Mem) := G11_seat_0 m x1 x2
def G11_shares_0 (m : Mem) (x1 : Int) : Option (Int × Mem) := if x1 < 0 then (some ((-1), m)) else (if 1 < x1 then (some ((-1), m)) else (if 1 ≤ (m ((m 0 3).toNat + 1) 0) then (if x1 = 0 then ((G4_unlike m 69 (m ((m 0 3).toNat + 1) 0)).bind fun o29 => some (o29.1, o29.2)) else ((G4_hadInSum m 69 (m ((m 0 3).toNat + 1) 0)).bind fun o19 => some (o19.1, o19.2))) else (some ((-1), m))))
def G11_shares (m : Mem) (x1 : Int) : Option (Int × Mem) := G11_shares_0 m x1
def G11_strike_0 (m : Mem) (x1 : Int) : Option (Int × Mem) := if x1 < 0 then (some ((-1), m)) else (if x1 < (m 90 0) then ((G3_addStrike m x1).bind fun o9 => some (o9.1, o9.2)) else (some ((-1), m)))
def G11_strike (m : Mem) (x1 : Int) : Option (Int × Mem) := G11_strike_0 m x1
def G11_stroke_0 (m : Mem) (x1 : Int) (x2 : Int) : Option (Int × Mem) := (G11_isSurfer m x1).bind fun o1 => if o1.1 = 0 then (some ((-1), o1.2)) else (if x2 < 0 then (some ((-1), o1.2)) else (if x2 < 4 then (gdx x1 5 ((G8_cellBeside o1.2 ((o1.2 0 3).toNat) (o1.2 (69 + 1) x1) x2).bind fun o14 => if o14.1 = (-1) then (some ((-2), o14.2)) else ((G4_isIn o14.2 69 x1 (o14.2 69 0)).bind fun o23 => if o23.1 = 0 then (some ((-2), o23.2)) else (gdx x1 5 (gdx x1 5 (if (o23.2 (69 + 5) x1) < (o23.2 ((o23.2 0 3).toNat + 5) x1) then (gdx x1 5 (wt (up o23.2 (69 + 1) x1 o14.1) fun m46 => gdx x1 5 (gdx x1 5 (gd3 ((m46 (69 + 5) x1) + 1) (wt (up m46 (69 + 5) x1 ((m46 (69 + 5) x1) + 1)) fun m54 => (G9_add m54 x1 (o1.2 (69 + 1) x1)).bind fun o57 => some (o14.1, o57)))))) else (some ((-2), o23.2)))))))) else (some ((-1), o1.2))))
def G11_stroke (m : Mem) (x1 : Int) (x2 : Int) : Option (Int × Mem) := G11_stroke_0 m x1 x2
def G11_table_39 (m : Mem) (x1 : Int) (x2 : Int) (x3 : Int) : Option (Int × Mem) := (G11_runBy m x1 x2).bind fun o1 => if x3 = 5 then (some ((o1 76 3), o1)) else (if x3 = 6 then (some ((o1 76 4), o1)) else (if x3 = 7 then ((G4_unlike o1 76 (o1 ((o1 0 3).toNat + 1) 0)).bind fun o22 => some (o22.1, o22.2)) else (gdx x3 5 (some ((o1 (76 + 2) x3), o1)))))
def G11_table_0 (m : Mem) (x1 : Int) (x2 : Int) (x3 : Int) : Option (Int × Mem) := (G11_isRule m x1).bind fun o1 => if o1.1 = 0 then (some ((-1), o1.2)) else (if x2 < 0 then (some ((-1), o1.2)) else (if x3 < 0 then (some ((-1), o1.2)) else (if x3 ≤ 7 then (if 5 ≤ x3 then (G11_table_39 o1.2 x1 x2 x3) else ((G11_isSurfer o1.2 x3).bind fun o8 => if o8.1 = 0 then (some ((-1), o8.2)) else (G11_table_39 o8.2 x1 x2 x3))) else (some ((-1), o1.2)))))
def G11_table (m : Mem) (x1 : Int) (x2 : Int) (x3 : Int) : Option (Int × Mem) := G11_table_0 m x1 x2 x3
def G11_text_0 (m : Mem) (x1 : Int) : Option (Int × Mem) := if x1 < 0 then (some ((-2), m)) else (if x1 ≤ (m 0 1) then (wt (up m 0 1 0) fun m5 => (G5_readAll m5 x1 ((m5 0 4).toNat)).bind fun o13 => if o13.1 = 0 then (some ((-1), o13.2)) else (wt (up o13.2 0 3 (((o13.2 0 4).toNat : Nat) : Int)) fun m20 => wt (up m20 0 4 (((o13.2 0 3).toNat : Nat) : Int)) fun m22 => (G11_beginAnew m22).bind fun o24 => some ((o24 ((o24 0 3).toNat) 12), o24))) else (some ((-2), m)))
def G11_text (m : Mem) (x1 : Int) : Option (Int × Mem) := G11_text_0 m x1
def G11_tried_96 : Nat → Mem → Int → Option (Int × Mem)
  | 0, _, _ => none
  | n + 1, m, x5 => if (m ((m 0 3).toNat + 8) 1) ≤ x5 then ((G4_hadInSum m 76 (m ((m 0 3).toNat + 1) 0)).bind fun o16 => some (o16.1, o16.2)) else ((G6_bringWave m 60 76 x5).bind fun o22 => gd3 (x5 + 1) (G11_tried_96 n o22 (x5 + 1)))
def G11_tried_54 (m : Mem) (x1 : Int) (x2 : Int) (x3 : Int) : Option (Int × Mem) := (G4_takeForRun m 76 69 (m 69 1) x3).bind fun o9 => (G6_takeOver o9 60 51).bind fun o15 => (G11_changeTrial o15 x1 x2).bind fun o17 => (G11_firstToCome o17).bind fun o19 => G11_tried_96 1024 o19.2 o19.1
def G11_tried_30 (m : Mem) (x1 : Int) (x2 : Int) (x3 : Int) (s0 : Int) : Option (Int × Mem) := if s0 = 0 then (if x2 = 0 then (G11_tried_54 m x1 x2 x3) else (some ((-1), m))) else ((G11_isSurfer m x2).bind fun o3 => if o3.1 = 0 then (some ((-1), o3.2)) else (G11_tried_54 o3.2 x1 x2 x3))
def G11_tried_25 (m : Mem) (x1 : Int) (x2 : Int) (x3 : Int) : Option (Int × Mem) := G11_tried_30 m x1 x2 x3 1
def G11_tried_0 (m : Mem) (x1 : Int) (x2 : Int) (x3 : Int) : Option (Int × Mem) := if x1 < 0 then (some ((-1), m)) else (if 4 < x1 then (some ((-1), m)) else (if 0 ≤ x3 then (if x1 = 1 then (G11_tried_25 m x1 x2 x3) else (if x1 = 4 then (G11_tried_25 m x1 x2 x3) else (G11_tried_30 m x1 x2 x3 0))) else (some ((-1), m))))
def G11_tried (m : Mem) (x1 : Int) (x2 : Int) (x3 : Int) : Option (Int × Mem) := G11_tried_0 m x1 x2 x3
def G11_undo_97 (m : Mem) : Option (Int × Mem) := some ((m 96 0), m)
def G11_undo_0 (m : Mem) : Option (Int × Mem) := if 1 ≤ (m 96 0) then (gd3 ((m 96 0) - 1) (wt (up m 96 0 ((m 96 0) - 1)) fun m10 => gdx (m10 96 0) 20 (gdx (m10 96 0) 20 (if (m10 97 (m10 96 0)) = (-1) then (wt (up m10 69 1 (m10 98 (m10 96 0))) fun m49 => G11_undo_97 m49) else (gdx (m10 97 (m10 96 0)) 5 (wt (up m10 (69 + 1) (m10 97 (m10 96 0)) (m10 98 (m10 96 0))) fun m38 => gdx (m10 97 (m10 96 0)) 5 (gdx (m10 97 (m10 96 0)) 5 (gd3 ((m38 (69 + 5) (m10 97 (m10 96 0))) - 1) (wt (up m38 (69 + 5) (m10 97 (m10 96 0)) ((m38 (69 + 5) (m10 97 (m10 96 0))) - 1)) fun m46 => G11_undo_97 m46))))))))) else (some ((-1), m))
def G11_undo (m : Mem) : Option (Int × Mem) := G11_undo_0 m
def G11_wave_0 (m : Mem) (x1 : Int) (x2 : Int) : Option (Int × Mem) := (G11_isWave m x1).bind fun o1 => if o1.1 = 0 then (some ((-4), o1.2)) else (if x2 = 0 then (gdx x1 28 (some ((o1.2 ((o1.2 0 3).toNat + 11) x1), o1.2))) else (if x2 = 1 then (gdx x1 28 (some ((o1.2 ((o1.2 0 3).toNat + 12) x1), o1.2))) else (if x2 = 2 then (gdx x1 28 (some ((o1.2 ((o1.2 0 3).toNat + 13) x1), o1.2))) else (if x2 = 3 then (gdx x1 28 (some ((o1.2 ((o1.2 0 3).toNat + 14) x1), o1.2))) else (if x2 = 4 then (gdx x1 28 (some ((o1.2 (69 + 6) x1), o1.2))) else (some ((-4), o1.2)))))))
def G11_wave (m : Mem) (x1 : Int) (x2 : Int) : Option (Int × Mem) := G11_wave_0 m x1 x2
def G12_layNames_88 (m : Mem) (t0 : Int) (s1 : Int) : Option Mem := gdx s1 6 (wt (up m 23 s1 t0) fun m2 => some m2)
def G12_layNames_46 (m : Mem) (x4 : Int) (x5 : Int) (t0 : Int) (s1 : Int) : Option Mem := gdx s1 6 (wt (up m 23 s1 t0) fun m2 => wt (up m2 23 4 x5) fun m6 => if 0 ≤ x4 then (gdx x4 56 (gdx (m6 14 x4) 8 (gd3 ((x4 - (m6 11 (m6 14 x4))) + 1) (G12_layNames_88 m6 ((x4 - (m6 11 (m6 14 x4))) + 1) 5)))) else (G12_layNames_88 m6 0 5))
def G12_layNames_0 (m : Mem) (x1 : Int) (x2 : Int) (x3 : Int) (x4 : Int) (x5 : Int) : Option Mem := wt (up m 23 0 x1) fun m4 => wt (up m4 23 1 x2) fun m8 => wt (up m8 23 2 x3) fun m12 => if 0 ≤ x4 then (gdx x4 56 (G12_layNames_46 m12 x4 x5 (m12 13 x4) 3)) else (G12_layNames_46 m12 x4 x5 0 3)
def G12_layNames (m : Mem) (x1 : Int) (x2 : Int) (x3 : Int) (x4 : Int) (x5 : Int) : Option Mem := G12_layNames_0 m x1 x2 x3 x4 x5
def G12_bounded_29 (m : Mem) (j1 : Int) (s0 : Int) : Option (Int × Mem) := gdb s0 (wt (up m 0 54 s0) fun m1 => if (m1 0 54) = 0 then (some (j1, m1)) else (some (0, m1)))
def G12_bounded_24 (m : Mem) (j1 : Int) : Option (Int × Mem) := G12_bounded_29 m j1 1
def G12_bounded_0 (m : Mem) (j1 : Int) : Option (Int × Mem) := if (m 0 54) = 0 then (if 1000000000000 < j1 then (G12_bounded_24 m j1) else (if (-1000000000000) ≤ j1 then (G12_bounded_29 m j1 0) else (G12_bounded_24 m j1))) else (G12_bounded_24 m j1)
def G12_bounded (m : Mem) (j1 : Int) : Option (Int × Mem) := G12_bounded_0 m j1
def G12_times_69 (m : Mem) (j1 : Int) (j3 : Int) (s0 : Int) : Option (Int × Mem) := gdb s0 (wt (up m 0 54 s0) fun m1 => if (m1 0 54) = 0 then (gd6 (j1 * j3) (some ((j1 * j3), m1))) else (some (0, m1)))
def G12_times_64 (m : Mem) (j1 : Int) (j3 : Int) : Option (Int × Mem) := G12_times_69 m j1 j3 1
def G12_times_49 (m : Mem) (j1 : Int) (j3 : Int) (s0 : Int) : Option (Int × Mem) := if (m 0 54) = 0 then (if s0 = 0 then (G12_times_69 m j1 j3 0) else (G12_times_64 m j1 j3)) else (G12_times_64 m j1 j3)
def G12_times_48 (m : Mem) (j1 : Int) (j3 : Int) : Option (Int × Mem) := G12_times_49 m j1 j3 0
def G12_times_39 (m : Mem) (j1 : Int) (j3 : Int) (t0 : Int) (t1 : Int) (t2 : Int) : Option (Int × Mem) := if t0 = 0 then (none) else (gd6 (Int.tdiv t1 t0) (if t2 ≤ (Int.tdiv t1 t0) then (G12_times_48 m j1 j3) else (G12_times_49 m j1 j3 1)))
def G12_times_24 (m : Mem) (j1 : Int) (j3 : Int) (t0 : Int) : Option (Int × Mem) := if 0 ≤ j1 then (G12_times_39 m j1 j3 j1 1000000000000 t0) else (gd6 (-j1) (G12_times_39 m j1 j3 (-j1) 1000000000000 t0))
def G12_times_0 (m : Mem) (j1 : Int) (j3 : Int) : Option (Int × Mem) := if j1 = 0 then (G12_times_48 m j1 j3) else (if j3 = 0 then (G12_times_48 m j1 j3) else (if 0 ≤ j3 then (G12_times_24 m j1 j3 j3) else (gd6 (-j3) (G12_times_24 m j1 j3 (-j3)))))
def G12_times (m : Mem) (j1 : Int) (j3 : Int) : Option (Int × Mem) := G12_times_0 m j1 j3
def G12_compares_0 (m : Mem) (x0 : Int) (j1 : Int) (j3 : Int) : Option (Int × Mem) := if x0 = 5 then (if j3 ≤ j1 then (some (0, m)) else (some (1, m))) else (if x0 = 6 then (if j3 < j1 then (some (0, m)) else (some (1, m))) else (if x0 = 7 then (if j1 = j3 then (some (1, m)) else (some (0, m))) else (if x0 = 8 then (if j1 = j3 then (some (0, m)) else (some (1, m))) else (if x0 = 9 then (if j1 < j3 then (some (0, m)) else (some (1, m))) else (if j1 ≤ j3 then (some (0, m)) else (some (1, m)))))))
def G12_compares (m : Mem) (x0 : Int) (j1 : Int) (j3 : Int) : Option (Int × Mem) := G12_compares_0 m x0 j1 j3
def G12_valueOf_240 (m : Mem) (j2 : Int) (j4 : Int) (s0 : Int) : Option (Int × Mem) := gdb s0 (wt (up m 0 54 s0) fun m1 => if (m1 0 54) = 0 then (if j4 = 0 then (none) else (gd6 (Int.tdiv j2 j4) (some ((Int.tdiv j2 j4), m1)))) else (some (0, m1)))
def G12_valueOf_235 (m : Mem) (j2 : Int) (j4 : Int) : Option (Int × Mem) := G12_valueOf_240 m j2 j4 1
def G12_valueOf_0 (m : Mem) (x1 : Int) : Option (Int × Mem) := gdx x1 128 (if (m 18 x1) = 0 then (gdx x1 128 (some ((m 19 x1), m))) else (gdx x1 128 (if (m 18 x1) = 1 then (gdx x1 128 (gdx (m 19 x1) 6 (some ((m 23 (m 19 x1)), m)))) else (gdx x1 128 (gdx (m 19 x1) 64 (gdx x1 128 (if (m 18 x1) = 2 then (if (m 24 (m 19 x1)) = 0 then (some (1, m)) else (some (0, m))) else (gdx x1 128 (gdx (m 20 x1) 64 (gdx x1 128 (if (m 18 x1) = 3 then (if (m 24 (m 19 x1)) = 0 then (some (0, m)) else (if (m 24 (m 20 x1)) = 0 then (some (0, m)) else (some (1, m)))) else (if (m 18 x1) = 4 then (if (m 24 (m 19 x1)) = 0 then (if (m 24 (m 20 x1)) = 0 then (some (0, m)) else (some (1, m))) else (some (1, m))) else (if (m 18 x1) = 11 then (gd6 ((m 24 (m 19 x1)) + (m 24 (m 20 x1))) ((G12_bounded m ((m 24 (m 19 x1)) + (m 24 (m 20 x1)))).bind fun o43 => some (o43.1, o43.2))) else (if (m 18 x1) = 12 then (gd6 ((m 24 (m 19 x1)) - (m 24 (m 20 x1))) ((G12_bounded m ((m 24 (m 19 x1)) - (m 24 (m 20 x1)))).bind fun o46 => some (o46.1, o46.2))) else (if (m 18 x1) = 13 then ((G12_times m (m 24 (m 19 x1)) (m 24 (m 20 x1))).bind fun o49 => some (o49.1, o49.2)) else (if (m 18 x1) = 14 then (if (m 0 54) = 0 then (if (m 24 (m 20 x1)) = 0 then (G12_valueOf_235 m (m 24 (m 19 x1)) (m 24 (m 20 x1))) else (G12_valueOf_240 m (m 24 (m 19 x1)) (m 24 (m 20 x1)) 0)) else (G12_valueOf_235 m (m 24 (m 19 x1)) (m 24 (m 20 x1)))) else (gdx x1 128 ((G12_compares m (m 18 x1) (m 24 (m 19 x1)) (m 24 (m 20 x1))).bind fun o60 => if o60.1 = 0 then (some (0, o60.2)) else (some (1, o60.2))))))))))))))))))))
def G12_valueOf (m : Mem) (x1 : Int) : Option (Int × Mem) := G12_valueOf_0 m x1
def G12_lawOf_12 : Nat → Mem → Int → Int → Option (Int × Mem)
  | 0, _, _, _ => none
  | n + 1, m, x1, x2 => gdx x1 6 (if (m 17 x1) ≤ x2 then (if (m 0 54) = 0 then (gdx x1 6 (gdx ((m 17 x1) - 1) 64 (some ((m 24 ((m 17 x1) - 1)), m)))) else (some (0, m))) else ((G12_valueOf m x2).bind fun o19 => gdx x2 64 (wt (up o19.2 24 x2 o19.1) fun m22 => gd3 (x2 + 1) (G12_lawOf_12 n m22 x1 (x2 + 1)))))
def G12_lawOf_0 (m : Mem) (x1 : Int) : Option (Int × Mem) := wt (up m 0 54 0) fun m1 => gdx x1 6 (G12_lawOf_12 1024 m1 x1 (m1 16 x1))
def G12_lawOf (m : Mem) (x1 : Int) : Option (Int × Mem) := G12_lawOf_0 m x1
def G12_boundLaw_0 (m : Mem) (x1 : Int) (x2 : Int) (x3 : Int) (x4 : Int) : Option (Int × Mem) := gdx x1 6 (if (m 15 x1) = 0 then (some (x2, m)) else ((G12_lawOf m x1).bind fun o6 => if (o6.2 0 54) = 0 then (if x3 ≤ o6.1 then (if o6.1 ≤ x4 then (gd3 o6.1 (some (o6.1, o6.2))) else (some (x4, o6.2))) else (some (x3, o6.2))) else (some (x2, o6.2))))
def G12_boundLaw (m : Mem) (x1 : Int) (x2 : Int) (x3 : Int) (x4 : Int) : Option (Int × Mem) := G12_boundLaw_0 m x1 x2 x3 x4
def G12_peakAt_37 (m : Mem) (s0 : Int) (s1 : Int) : Option (Int × Mem) := gd3 (s1 + s0) (if 0 ≤ (s1 + s0) then (gd3 (s1 + s0) (if (s1 + s0) < (m 0 12) then (gd3 (((m 0 12) * (m 4 1)) + (s1 + s0)) (some ((((m 0 12) * (m 4 1)) + (s1 + s0)), m))) else (gd3 (((m 0 12) * (m 4 1)) + ((m 0 12) - 1)) (some ((((m 0 12) * (m 4 1)) + ((m 0 12) - 1)), m))))) else (gd3 (((m 0 12) * (m 4 1)) + 0) (some ((((m 0 12) * (m 4 1)) + 0), m))))
def G12_peakAt_0 (m : Mem) (x1 : Int) : Option (Int × Mem) := (G12_layNames m 0 0 0 (-1) x1).bind fun o1 => if (o1 0 66) = 2 then (G12_peakAt_37 o1 0 (o1 4 0)) else ((G12_boundLaw o1 1 0 (-8) 8).bind fun o10 => G12_peakAt_37 o10.2 o10.1 (o1 4 0))
def G12_peakAt (m : Mem) (x1 : Int) : Option (Int × Mem) := G12_peakAt_0 m x1
def G12_far_39 (m : Mem) (x4 : Int) (s0 : Int) : Option (Int × Mem) := if 0 ≤ x4 then (gd3 (s0 + x4) (some ((s0 + x4), m))) else (gd3 (s0 + (-x4)) (some ((s0 + (-x4)), m)))
def G12_far_0 (m : Mem) (x1 : Int) (x2 : Int) : Option (Int × Mem) := if (m 0 12) = 0 then (none) else (if (m 0 12) = 0 then (none) else (if (m 0 12) = 0 then (none) else (if (m 0 12) = 0 then (none) else (gdd x1 (m 0 12) (gdd x2 (m 0 12) (gd3 ((x1 % (m 0 12)) - (x2 % (m 0 12))) (if 0 ≤ ((x1 % (m 0 12)) - (x2 % (m 0 12))) then (gdd x1 (m 0 12) (gdd x2 (m 0 12) (gd3 ((x1 / (m 0 12)) - (x2 / (m 0 12))) (gdd x1 (m 0 12) (gdd x2 (m 0 12) (gd3 ((x1 % (m 0 12)) - (x2 % (m 0 12))) (G12_far_39 m ((x1 / (m 0 12)) - (x2 / (m 0 12))) ((x1 % (m 0 12)) - (x2 % (m 0 12)))))))))) else (gdd x1 (m 0 12) (gdd x2 (m 0 12) (gd3 ((x1 / (m 0 12)) - (x2 / (m 0 12))) (gdd x1 (m 0 12) (gdd x2 (m 0 12) (gd3 (-((x1 % (m 0 12)) - (x2 % (m 0 12)))) (G12_far_39 m ((x1 / (m 0 12)) - (x2 / (m 0 12))) (-((x1 % (m 0 12)) - (x2 % (m 0 12))))))))))))))))))
def G12_far (m : Mem) (x1 : Int) (x2 : Int) : Option (Int × Mem) := G12_far_0 m x1 x2
def G12_boardOf_0 (m : Mem) (x1 : Int) : Option (Int × Mem) := if (m 0 66) = 3 then (some (9, m)) else (gdx x1 10 (some ((m 7 x1), m)))
def G12_boardOf (m : Mem) (x1 : Int) : Option (Int × Mem) := G12_boardOf_0 m x1
def G12_layCatch_0 (m : Mem) (x1 : Int) (x2 : Int) (x3 : Int) : Option (Int × Mem) := gdx x2 56 ((G12_peakAt m (m 12 x2)).bind fun o5 => (G12_far o5.2 x3 o5.1).bind fun o7 => if (o7.2 0 12) = 0 then (none) else (if (o7.2 0 12) = 0 then (none) else ((G12_boardOf o7.2 x1).bind fun o15 => gdx x2 56 (gdd x3 (o7.2 0 12) (gdd o5.1 (o7.2 0 12) (gd3 ((x3 / (o7.2 0 12)) - (o5.1 / (o7.2 0 12))) ((G12_layNames o15.2 o7.1 ((x3 / (o7.2 0 12)) - (o5.1 / (o7.2 0 12))) o15.1 x2 (o15.2 12 x2)).bind fun o21 => some (o7.1, o21))))))))
def G12_layCatch (m : Mem) (x1 : Int) (x2 : Int) (x3 : Int) : Option (Int × Mem) := G12_layCatch_0 m x1 x2 x3
def G12_oddsOf_29 (m : Mem) (s0 : Int) (s1 : Int) : Option (Int × Mem) := (G12_boundLaw m s1 s0 0 100).bind fun o1 => some (o1.1, o1.2)
def G12_oddsOf_0 (m : Mem) (x1 : Int) (x2 : Int) (x3 : Int) : Option (Int × Mem) := (G12_layCatch m x1 x2 x3).bind fun o1 => if 5 ≤ o1.1 then (G12_oddsOf_29 o1.2 0 0) else (gd3 (100 - (20 * o1.1)) (G12_oddsOf_29 o1.2 (100 - (20 * o1.1)) 0))
def G12_oddsOf (m : Mem) (x1 : Int) (x2 : Int) (x3 : Int) : Option (Int × Mem) := G12_oddsOf_0 m x1 x2 x3
def G12_isGoing_29 (m : Mem) (x1 : Int) (x2 : Int) (x3 : Int) : Option (Int × Mem) := gdx ((5 * x1) + x2) 10 ((G12_oddsOf m x2 x3 (m 25 ((5 * x1) + x2))).bind fun o5 => if o5.1 ≤ 0 then (some (0, o5.2)) else (some (1, o5.2)))
def G12_isGoing_0 (m : Mem) (x1 : Int) (x2 : Int) (x3 : Int) : Option (Int × Mem) := gdx ((5 * x1) + x2) 10 (if (m 28 ((5 * x1) + x2)) = 0 then (if (m 0 66) = 1 then (if (m 0 67) = x2 then (some (0, m)) else (G12_isGoing_29 m x1 x2 x3)) else (G12_isGoing_29 m x1 x2 x3)) else (some (0, m)))
def G12_isGoing (m : Mem) (x1 : Int) (x2 : Int) (x3 : Int) : Option (Int × Mem) := G12_isGoing_0 m x1 x2 x3
def G12_keyOf_122 (kk76 : Mem → Int → Int → Int → Int → Int → Int → Option (Int × Mem)) (m : Mem) (x1 : Int) (x2 : Int) (x3 : Int) (x6 : Int) (x8 : Int) : Option (Int × Mem) := gd3 (x8 + 1) (kk76 m x1 x2 x3 x6 1 (x8 + 1))
def G12_keyOf_76 : Nat → Mem → Int → Int → Int → Int → Int → Int → Option (Int × Mem)
  | 0, _, _, _, _, _, _, _ => none
  | n + 1, m, x1, x2, x3, x6, x7, x8 => if (m 0 16) ≤ x8 then (if x7 = 0 then (gd3 (0 + x6) (some ((0 + x6), m))) else (gd3 (1000 + x6) (some ((1000 + x6), m)))) else (if x7 = 0 then (gdx x8 56 (gdx x3 56 (if (m 14 x8) = (m 14 x3) then (gdx ((28 * x1) + x8) 56 (if (m 30 ((28 * x1) + x8)) = x2 then (G12_keyOf_122 (fun m x1 x2 x3 x6 x7 x8 => G12_keyOf_76 n m x1 x2 x3 x6 x7 x8) m x1 x2 x3 x6 x8) else (gd3 (x8 + 1) (G12_keyOf_76 n m x1 x2 x3 x6 0 (x8 + 1))))) else (gd3 (x8 + 1) (G12_keyOf_76 n m x1 x2 x3 x6 0 (x8 + 1)))))) else (G12_keyOf_122 (fun m x1 x2 x3 x6 x7 x8 => G12_keyOf_76 n m x1 x2 x3 x6 x7 x8) m x1 x2 x3 x6 x8))
def G12_keyOf_0 (m : Mem) (x1 : Int) (x2 : Int) (x3 : Int) (x4 : Int) : Option (Int × Mem) := gdx ((5 * x1) + x2) 10 (gdx x3 56 ((G12_peakAt m (m 12 x3)).bind fun o9 => (G12_far o9.2 (m 25 ((5 * x1) + x2)) o9.1).bind fun o11 => if x4 = 0 then (some (o11.1, o11.2)) else (if x4 = 1 then (gdx ((5 * x1) + x2) 10 (some ((o11.2 26 ((5 * x1) + x2)), o11.2))) else (if x4 = 3 then (if (o11.2 0 12) = 0 then (none) else (gdd (m 25 ((5 * x1) + x2)) (o11.2 0 12) (gd3 (-((m 25 ((5 * x1) + x2)) / (o11.2 0 12))) (some ((-((m 25 ((5 * x1) + x2)) / (o11.2 0 12))), o11.2))))) else (G12_keyOf_76 1024 o11.2 x1 x2 x3 o11.1 0 0)))))
def G12_keyOf (m : Mem) (x1 : Int) (x2 : Int) (x3 : Int) (x4 : Int) : Option (Int × Mem) := G12_keyOf_0 m x1 x2 x3 x4
def G12_layOrder_96 (kk8 : Mem → Int → Int → Int → Int → Option Mem) (m : Mem) (x1 : Int) (x2 : Int) (x3 : Int) (x4 : Int) (x6 : Int) : Option Mem := gdx x6 5 (wt (up m 34 x6 x4) fun m4 => gd3 ((m4 0 69) + 1) (wt (up m4 0 69 ((m4 0 69) + 1)) fun m7 => gd3 (x4 + 1) (kk8 m7 x1 x2 x3 (x4 + 1))))
def G12_layOrder_48 (kk8 : Mem → Int → Int → Int → Int → Option Mem) : Nat → Mem → Int → Int → Int → Int → Int → Int → Option Mem
  | 0, _, _, _, _, _, _, _ => none
  | n + 1, m, x1, x2, x3, x4, x5, x6 => if x6 ≤ 0 then (G12_layOrder_96 kk8 m x1 x2 x3 x4 x6) else (gdx (x6 - 1) 5 ((G12_keyOf m x1 (m 34 (x6 - 1)) x2 x3).bind fun o6 => if o6.1 ≤ x5 then (G12_layOrder_96 kk8 o6.2 x1 x2 x3 x4 x6) else (gdx (x6 - 1) 5 (gdx x6 5 (wt (up o6.2 34 x6 (o6.2 34 (x6 - 1))) fun m16 => gd3 (x6 + (-1)) (G12_layOrder_48 kk8 n m16 x1 x2 x3 x4 x5 (x6 + (-1))))))))
def G12_layOrder_8 : Nat → Mem → Int → Int → Int → Int → Option Mem
  | 0, _, _, _, _, _ => none
  | n + 1, m, x1, x2, x3, x4 => if (m 0 14) ≤ x4 then (some m) else ((G12_isGoing m x1 x4 x2).bind fun o4 => if o4.1 = 0 then (gd3 (x4 + 1) (G12_layOrder_8 n o4.2 x1 x2 x3 (x4 + 1))) else ((G12_keyOf o4.2 x1 x4 x2 x3).bind fun o7 => G12_layOrder_48 (fun m x1 x2 x3 x4 => G12_layOrder_8 n m x1 x2 x3 x4) 1024 o7.2 x1 x2 x3 x4 o7.1 (o7.2 0 69)))
def G12_layOrder_0 (m : Mem) (x1 : Int) (x2 : Int) (x3 : Int) : Option Mem := wt (up m 0 69 0) fun m1 => G12_layOrder_8 1024 m1 x1 x2 x3 0
def G12_layOrder (m : Mem) (x1 : Int) (x2 : Int) (x3 : Int) : Option Mem := G12_layOrder_0 m x1 x2 x3
def G12_number1_0 (m : Mem) (x1 : Int) : Option (Int × Mem) := wt (up m 0 65 (b6an (((m 0 65) * 1103515245) + 12345) 2147483647)) fun m3 => if x1 = 0 then (none) else (gd6 (Int.tdiv (m3 0 65) 65536) (gd3 (Int.tmod (Int.tdiv (m3 0 65) 65536) x1) (some ((Int.tmod (Int.tdiv (m3 0 65) 65536) x1), m3))))
def G12_number1 (m : Mem) (x1 : Int) : Option (Int × Mem) := G12_number1_0 m x1
def G12_awayOf_0 (m : Mem) (x1 : Int) (x2 : Int) : Option (Int × Mem) := (G12_boardOf m x1).bind fun o1 => gdx x2 56 ((G12_layNames o1.2 0 0 o1.1 x2 (o1.2 12 x2)).bind fun o7 => (G12_boundLaw o7 2 5 1 30).bind fun o9 => some (o9.1, o9.2))
def G12_awayOf (m : Mem) (x1 : Int) (x2 : Int) : Option (Int × Mem) := G12_awayOf_0 m x1 x2
def G12_goesAway_0 (m : Mem) (x1 : Int) (x2 : Int) (x3 : Int) (x4 : Int) : Option Mem := gdx x1 2 ((G12_awayOf m x2 x3).bind fun o7 => gdx ((5 * x1) + x2) 10 (gd3 ((m 31 x1) + (x4 * o7.1)) (wt (up o7.2 28 ((5 * x1) + x2) ((m 31 x1) + (x4 * o7.1))) fun m10 => some m10)))
def G12_goesAway (m : Mem) (x1 : Int) (x2 : Int) (x3 : Int) (x4 : Int) : Option Mem := G12_goesAway_0 m x1 x2 x3 x4
def G12_comes_141 (kk109 : Mem → Int → Int → Int → Int → Option Mem) (m : Mem) (x1 : Int) (x2 : Int) (x5 : Int) (x6 : Int) (s0 : Int) : Option Mem := if s0 = 0 then (gd3 (x6 + 1) (kk109 m x1 x2 x5 (x6 + 1))) else ((G12_number1 m 100).bind fun o2 => if o2.1 < s0 then (gdx ((28 * x1) + x2) 56 (wt (up o2.2 30 ((28 * x1) + x2) (-3)) fun m8 => gdx x1 2 (gdx x1 2 (gd3 ((m8 32 x1) + 1) (wt (up m8 32 x1 ((m8 32 x1) + 1)) fun m14 => gdx ((5 * x1) + x5) 10 (gdx ((5 * x1) + x5) 10 (gd3 ((m14 27 ((5 * x1) + x5)) + 1) (wt (up m14 27 ((5 * x1) + x5) ((m14 27 ((5 * x1) + x5)) + 1)) fun m20 => gdx x6 5 (gdx ((5 * x1) + (m20 34 x6)) 10 (gdx ((5 * x1) + (m20 34 x6)) 10 (gd3 ((m20 27 ((5 * x1) + (m20 34 x6))) + 1) (wt (up m20 27 ((5 * x1) + (m20 34 x6)) ((m20 27 ((5 * x1) + (m20 34 x6))) + 1)) fun m30 => (G12_goesAway m30 x1 x5 x2 2).bind fun o31 => gdx x6 5 ((G12_goesAway o31 x1 (o31 34 x6) x2 2).bind fun o37 => some o37))))))))))))) else (gd3 (x6 + 1) (kk109 o2.2 x1 x2 x5 (x6 + 1))))
/-! What the pure functions do, over a memory of integers (written by wip/gen/gx.py). -/
def G12_comes_109 : Nat → Mem → Int → Int → Int → Int → Option Mem
  | 0, _, _, _, _, _ => none
  | n + 1, m, x1, x2, x5, x6 => if (m 0 69) ≤ x6 then (gdx ((28 * x1) + x2) 56 (wt (up m 30 ((28 * x1) + x2) x5) fun m7 => gdx ((5 * x1) + x5) 10 (gdx ((5 * x1) + x5) 10 (gd3 ((m7 26 ((5 * x1) + x5)) + 1) (wt (up m7 26 ((5 * x1) + x5) ((m7 26 ((5 * x1) + x5)) + 1)) fun m13 => (G12_goesAway m13 x1 x5 x2 1).bind fun o14 => some o14))))) else (if (m 0 66) = 0 then (G12_comes_141 (fun m x1 x2 x5 x6 => G12_comes_109 n m x1 x2 x5 x6) m x1 x2 x5 x6 0) else (gdx x6 5 (gdx (m 34 x6) 10 (G12_comes_141 (fun m x1 x2 x5 x6 => G12_comes_109 n m x1 x2 x5 x6) m x1 x2 x5 x6 (m 9 (m 34 x6))))))
def G12_comes_62 (m : Mem) (x1 : Int) (x2 : Int) (x4 : Int) : Option Mem := if x4 = (m 0 69) then (gdx ((28 * x1) + x2) 56 (wt (up m 30 ((28 * x1) + x2) (-1)) fun m11 => gdx x1 2 (gdx x1 2 (gd3 ((m11 33 x1) + 1) (wt (up m11 33 x1 ((m11 33 x1) + 1)) fun m17 => some m17))))) else (gdx x4 5 (gd3 (x4 + 1) (G12_comes_109 1024 m x1 x2 (m 34 x4) (x4 + 1))))
def G12_comes_10 : Nat → Mem → Int → Int → Int → Option Mem
  | 0, _, _, _, _ => none
  | n + 1, m, x1, x2, x4 => if (m 0 69) ≤ x4 then (G12_comes_62 m x1 x2 x4) else ((G12_number1 m 100).bind fun o4 => gdx x4 5 (gdx x4 5 (gdx ((5 * x1) + (o4.2 34 x4)) 10 ((G12_oddsOf o4.2 (o4.2 34 x4) x2 (o4.2 25 ((5 * x1) + (o4.2 34 x4)))).bind fun o18 => if o4.1 < o18.1 then (G12_comes_62 o18.2 x1 x2 x4) else (gd3 (x4 + 1) (G12_comes_10 n o18.2 x1 x2 (x4 + 1)))))))
def G12_comes_0 (m : Mem) (x1 : Int) (x2 : Int) (x3 : Int) : Option Mem := (G12_layOrder m x1 x2 x3).bind fun o1 => G12_comes_10 1024 o1 x1 x2 0
def G12_comes (m : Mem) (x1 : Int) (x2 : Int) (x3 : Int) : Option Mem := G12_comes_0 m x1 x2 x3
def G12_aMinute_50 : Nat → Mem → Int → Int → Option Mem
  | 0, _, _, _ => none
  | n + 1, m, x1, x3 => if (m 0 14) ≤ x3 then (some m) else (gdx ((5 * x1) + x3) 10 (gdx x1 2 (if (m 28 ((5 * x1) + x3)) = (m 31 x1) then (gdx ((5 * x1) + x3) 10 (wt (up m 28 ((5 * x1) + x3) 0) fun m16 => gd3 (x3 + 1) (G12_aMinute_50 n m16 x1 (x3 + 1)))) else (gd3 (x3 + 1) (G12_aMinute_50 n m x1 (x3 + 1))))))
def G12_aMinute_2 : Nat → Mem → Int → Int → Int → Option Mem
  | 0, _, _, _, _ => none
  | n + 1, m, x1, x2, x3 => if (m 0 16) ≤ x3 then (gdx x1 2 (gdx x1 2 (gd3 ((m 31 x1) + 1) (wt (up m 31 x1 ((m 31 x1) + 1)) fun m9 => G12_aMinute_50 1024 m9 x1 0)))) else (gdx x3 56 (gdx x1 2 (if (m 12 x3) = (m 31 x1) then ((G12_comes m x1 x3 x2).bind fun o19 => gd3 (x3 + 1) (G12_aMinute_2 n o19 x1 x2 (x3 + 1))) else (gd3 (x3 + 1) (G12_aMinute_2 n m x1 x2 (x3 + 1))))))
def G12_aMinute_0 (m : Mem) (x1 : Int) (x2 : Int) : Option Mem := G12_aMinute_2 1024 m x1 x2 0
def G12_aMinute (m : Mem) (x1 : Int) (x2 : Int) : Option Mem := G12_aMinute_0 m x1 x2
def G12_allHad_4 : Nat → Mem → Int → Int → Int → Option (Int × Mem)
  | 0, _, _, _, _ => none
  | n + 1, m, x1, x2, x3 => if (m 0 14) ≤ x3 then (some (x2, m)) else (gdx ((5 * x1) + x3) 10 (gd3 (x2 + (m 26 ((5 * x1) + x3))) (gd3 (x3 + 1) (G12_allHad_4 n m x1 (x2 + (m 26 ((5 * x1) + x3))) (x3 + 1)))))
def G12_allHad_0 (m : Mem) (x1 : Int) : Option (Int × Mem) := G12_allHad_4 1024 m x1 0 0
def G12_allHad (m : Mem) (x1 : Int) : Option (Int × Mem) := G12_allHad_0 m x1
def G12_back_100 : Nat → Mem → Int → Option (Int × Mem)
  | 0, _, _ => none
  | n + 1, m, x1 => if 28 ≤ x1 then (wt (up m 31 0 (m 0 82)) fun m7 => wt (up m7 0 64 (m7 0 83)) fun m10 => wt (up m10 32 0 (m10 0 84)) fun m17 => wt (up m17 33 0 (m17 0 85)) fun m23 => wt (up m23 0 65 (m23 0 86)) fun m26 => wt (up m26 0 78 0) fun m28 => some ((m28 31 0), m28)) else (gdx (25 + x1) 53 (gdx x1 56 (wt (up m 30 x1 (m 42 (25 + x1))) fun m41 => gd3 (x1 + 1) (G12_back_100 n m41 (x1 + 1)))))
def G12_back_16 : Nat → Mem → Int → Option (Int × Mem)
  | 0, _, _ => none
  | n + 1, m, x1 => if 5 ≤ x1 then (G12_back_100 1024 m 0) else (gdx x1 53 (gdx x1 10 (wt (up m 25 x1 (m 42 x1)) fun m9 => gdx (5 + x1) 53 (gdx x1 10 (wt (up m9 26 x1 (m9 42 (5 + x1))) fun m17 => gdx (10 + x1) 53 (gdx x1 10 (wt (up m17 27 x1 (m17 42 (10 + x1))) fun m25 => gdx (15 + x1) 53 (gdx x1 10 (wt (up m25 28 x1 (m25 42 (15 + x1))) fun m33 => gdx (20 + x1) 53 (gdx x1 5 (wt (up m33 29 x1 (m33 42 (20 + x1))) fun m41 => gd3 (x1 + 1) (G12_back_16 n m41 (x1 + 1)))))))))))))
def G12_back_0 (m : Mem) : Option (Int × Mem) := wt (up m 0 2 0) fun m1 => if (m1 0 80) = 0 then (some ((-1), m1)) else (G12_back_16 1024 m1 0)
def G12_back (m : Mem) : Option (Int × Mem) := G12_back_0 m
def G12_isSmall_0 (m : Mem) (x1 : Int) : Option (Int × Mem) := if (m 0 6) ≤ x1 then (some (0, m)) else (gdx x1 700 (if (m 1 x1) < 97 then (some (0, m)) else (gdx x1 700 (if 122 < (m 1 x1) then (some (0, m)) else (some (1, m))))))
def G12_isSmall (m : Mem) (x1 : Int) : Option (Int × Mem) := G12_isSmall_0 m x1
def G12_wordAt_104 (kk5 : Mem → Int → Int → Int → Int → Option (Int × Mem)) (m : Mem) (x1 : Int) (x2 : Int) (x3 : Int) (x4 : Int) (x5 : Int) (x6 : Int) : Option (Int × Mem) := if x6 = 0 then (gd3 (x3 + 1) (gd3 (x4 + (x5 + 1)) (kk5 m x1 x2 (x3 + 1) (x4 + (x5 + 1))))) else (some (x3, m))
def G12_wordAt_57 (kk5 : Mem → Int → Int → Int → Int → Option (Int × Mem)) : Nat → Mem → Int → Int → Int → Int → Int → Int → Int → Option (Int × Mem)
  | 0, _, _, _, _, _, _, _, _ => none
  | n + 1, m, x1, x2, x3, x4, x5, x6, x7 => if x5 ≤ x7 then (G12_wordAt_104 kk5 m x1 x2 x3 x4 x5 x6) else (if x6 = 0 then (G12_wordAt_104 kk5 m x1 x2 x3 x4 x5 x6) else (gdx (x4 + x7) 120 (gdx (x1 + x7) 700 (if (m 2 (x4 + x7)) = (m 1 (x1 + x7)) then (gd3 (x7 + 1) (G12_wordAt_57 kk5 n m x1 x2 x3 x4 x5 1 (x7 + 1))) else (gd3 (x7 + 1) (G12_wordAt_57 kk5 n m x1 x2 x3 x4 x5 0 (x7 + 1)))))))
def G12_wordAt_18 (kk5 : Mem → Int → Int → Int → Int → Option (Int × Mem)) : Nat → Mem → Int → Int → Int → Int → Int → Option (Int × Mem)
  | 0, _, _, _, _, _, _ => none
  | n + 1, m, x1, x2, x3, x4, x5 => gdx (x4 + x5) 120 (if (m 2 (x4 + x5)) = 32 then (gd3 (x2 - x1) (if x5 = (x2 - x1) then (G12_wordAt_57 kk5 1024 m x1 x2 x3 x4 x5 1 0) else (G12_wordAt_57 kk5 1024 m x1 x2 x3 x4 x5 0 0))) else (gd3 (x5 + 1) (G12_wordAt_18 kk5 n m x1 x2 x3 x4 (x5 + 1))))
def G12_wordAt_5 : Nat → Mem → Int → Int → Int → Int → Option (Int × Mem)
  | 0, _, _, _, _, _ => none
  | n + 1, m, x1, x2, x3, x4 => if 120 ≤ x4 then (some ((-1), m)) else (G12_wordAt_18 (fun m x1 x2 x3 x4 => G12_wordAt_5 n m x1 x2 x3 x4) 1024 m x1 x2 x3 x4 0)
def G12_wordAt_0 (m : Mem) (x1 : Int) (x2 : Int) : Option (Int × Mem) := G12_wordAt_5 1024 m x1 x2 0 0
def G12_wordAt (m : Mem) (x1 : Int) (x2 : Int) : Option (Int × Mem) := G12_wordAt_0 m x1 x2
def G12_packed_5 : Nat → Mem → Int → Int → Int → Int → Option (Int × Mem)
  | 0, _, _, _, _, _ => none
  | n + 1, m, x1, x2, x3, x4 => gd3 (x1 + 6) (if (x1 + 6) ≤ x4 then (some (x3, m)) else (if x2 ≤ x4 then (gd3 (x4 + 1) (G12_packed_5 n m x1 x2 (b3or (b3sl x3 (b3an 5 31)) 0) (x4 + 1))) else (gdx x4 700 (gd3 (x4 + 1) (G12_packed_5 n m x1 x2 (b3or (b3sl x3 (b3an 5 31)) ((m 1 x4) - 96)) (x4 + 1))))))
def G12_packed_0 (m : Mem) (x1 : Int) (x2 : Int) : Option (Int × Mem) := G12_packed_5 1024 m x1 x2 0 x1
def G12_packed (m : Mem) (x1 : Int) (x2 : Int) : Option (Int × Mem) := G12_packed_0 m x1 x2
def G12_isDigit_0 (m : Mem) (x1 : Int) : Option (Int × Mem) := if (m 0 6) ≤ x1 then (some (0, m)) else (gdx x1 700 (if (m 1 x1) < 48 then (some (0, m)) else (gdx x1 700 (if 57 < (m 1 x1) then (some (0, m)) else (some (1, m))))))
def G12_isDigit (m : Mem) (x1 : Int) : Option (Int × Mem) := G12_isDigit_0 m x1
def G12_signToken_192 (m : Mem) (s0 : Int) : Option Mem := wt (up m 0 9 s0) fun m1 => some m1
def G12_signToken_135 (m : Mem) (x2 : Int) (x3 : Int) : Option Mem := wt (up m 0 8 5) fun m1 => if (m1 0 9) = 61 then (G12_signToken_192 m1 2) else (if (m1 0 9) = 60 then (if x2 = 0 then (if x3 = 0 then (G12_signToken_192 m1 0) else (G12_signToken_192 m1 3)) else (G12_signToken_192 m1 1)) else (if x2 = 0 then (G12_signToken_192 m1 5) else (G12_signToken_192 m1 4)))
def G12_signToken_125 (m : Mem) (x2 : Int) (x3 : Int) : Option Mem := gd3 ((m 0 7) + 1) (wt (up m 0 7 ((m 0 7) + 1)) fun m3 => G12_signToken_135 m3 x2 x3)
def G12_signToken_116 (m : Mem) (x2 : Int) (s0 : Int) : Option Mem := if x2 = 0 then (if s0 = 0 then (G12_signToken_135 m x2 s0) else (G12_signToken_125 m x2 s0)) else (G12_signToken_125 m x2 s0)
def G12_signToken_115 (m : Mem) (x2 : Int) : Option Mem := G12_signToken_116 m x2 0
def G12_signToken_95 (m : Mem) (x1 : Int) (s0 : Int) : Option Mem := if (m 0 9) = 60 then (if x1 = 62 then (G12_signToken_116 m s0 1) else (G12_signToken_115 m s0)) else (G12_signToken_115 m s0)
def G12_signToken_94 (m : Mem) (x1 : Int) : Option Mem := G12_signToken_95 m x1 0
def G12_signToken_74 (m : Mem) (s0 : Int) : Option Mem := if (m 0 9) = 61 then (G12_signToken_94 m s0) else (if s0 = 61 then (G12_signToken_95 m s0 1) else (G12_signToken_94 m s0))
def G12_signToken_50 (m : Mem) : Option Mem := if (m 0 6) ≤ (m 0 7) then (G12_signToken_74 m 0) else (gdx (m 0 7) 700 (G12_signToken_74 m (m 1 (m 0 7))))
def G12_signToken_287 (m : Mem) (s0 : Int) : Option Mem := wt (up m 0 8 s0) fun m1 => some m1
def G12_signToken_275 (m : Mem) (s0 : Int) : Option Mem := if s0 = 0 then (G12_signToken_287 m 6) else (G12_signToken_287 m 4)
def G12_signToken_270 (m : Mem) : Option Mem := G12_signToken_275 m 1
def G12_signToken_0 (m : Mem) : Option Mem := gdx (m 0 7) 700 (wt (up m 0 9 (m 1 (m 0 7))) fun m7 => gd3 ((m7 0 7) + 1) (wt (up m7 0 7 ((m7 0 7) + 1)) fun m11 => if (m11 0 9) = 60 then (G12_signToken_50 m11) else (if (m11 0 9) = 62 then (G12_signToken_50 m11) else (if (m11 0 9) = 61 then (G12_signToken_50 m11) else (if (m11 0 9) = 59 then (G12_signToken_270 m11) else (if (m11 0 9) = 40 then (G12_signToken_270 m11) else (if (m11 0 9) = 41 then (G12_signToken_270 m11) else (if (m11 0 9) = 43 then (G12_signToken_270 m11) else (if (m11 0 9) = 45 then (G12_signToken_270 m11) else (if (m11 0 9) = 42 then (G12_signToken_270 m11) else (if (m11 0 9) = 47 then (G12_signToken_270 m11) else (if (m11 0 9) = 37 then (G12_signToken_270 m11) else (G12_signToken_275 m11 0)))))))))))))
def G12_signToken (m : Mem) : Option Mem := G12_signToken_0 m
def G12_token_261 (kk213 : Mem → Option Mem) (m : Mem) (s0 : Int) : Option Mem := wt (up m 0 9 s0) fun m1 => gd3 ((m1 0 7) + 1) (wt (up m1 0 7 ((m1 0 7) + 1)) fun m5 => kk213 m5)
def G12_token_213 : Nat → Mem → Option Mem
  | 0, _ => none
  | n + 1, m => (G12_isDigit m (m 0 7)).bind fun o3 => if o3.1 = 0 then (some o3.2) else (if (o3.2 0 9) ≤ 99999 then (gdx (o3.2 0 7) 700 (gd3 (((10 * (o3.2 0 9)) + (o3.2 1 (o3.2 0 7))) - 48) (G12_token_261 (fun m => G12_token_213 n m) o3.2 (((10 * (o3.2 0 9)) + (o3.2 1 (o3.2 0 7))) - 48)))) else (G12_token_261 (fun m => G12_token_213 n m) o3.2 (o3.2 0 9)))
def G12_token_162 (m : Mem) (s0 : Int) : Option Mem := wt (up m 0 8 s0) fun m1 => if (m1 0 8) = 2 then ((G12_packed m1 (m1 0 10) (m1 0 7)).bind fun o10 => wt (up o10.2 0 9 o10.1) fun m12 => some m12) else (some m1)
def G12_token_90 : Nat → Mem → Option Mem
  | 0, _ => none
  | n + 1, m => (G12_isSmall m (m 0 7)).bind fun o3 => if o3.1 = 0 then ((G12_wordAt o3.2 (o3.2 0 10) (o3.2 0 7)).bind fun o10 => wt (up o10.2 0 9 o10.1) fun m12 => if (m12 0 9) < 0 then (gd3 ((m12 0 7) - (m12 0 10)) (if ((m12 0 7) - (m12 0 10)) ≤ 6 then (G12_token_162 m12 2) else (G12_token_162 m12 6))) else (G12_token_162 m12 1)) else (gd3 ((o3.2 0 7) + 1) (wt (up o3.2 0 7 ((o3.2 0 7) + 1)) fun m24 => G12_token_90 n m24))
def G12_token_52 (m : Mem) : Option Mem := wt (up m 0 10 (m 0 7)) fun m3 => if (m3 0 7) = (m3 0 6) then (wt (up m3 0 8 0) fun m26 => some m26) else ((G12_isSmall m3 (m3 0 7)).bind fun o12 => if o12.1 = 0 then ((G12_isDigit o12.2 (o12.2 0 7)).bind fun o17 => if o17.1 = 0 then ((G12_signToken o17.2).bind fun o20 => some o20) else (wt (up o17.2 0 8 3) fun m22 => wt (up m22 0 9 0) fun m24 => G12_token_213 1024 m24)) else (G12_token_90 1024 o12.2))
def G12_token_39 (kk0 : Mem → Option Mem) (m : Mem) : Option Mem := gd3 ((m 0 7) + 1) (wt (up m 0 7 ((m 0 7) + 1)) fun m3 => kk0 m3)
def G12_token_0 : Nat → Mem → Option Mem
  | 0, _ => none
  | n + 1, m => if (m 0 6) ≤ (m 0 7) then (G12_token_52 m) else (gdx (m 0 7) 700 (if (m 1 (m 0 7)) = 10 then (G12_token_39 (fun m => G12_token_0 n m) m) else (gdx (m 0 7) 700 (if (m 1 (m 0 7)) = 32 then (G12_token_39 (fun m => G12_token_0 n m) m) else (G12_token_52 m)))))
def G12_token (m : Mem) : Option Mem := G12_token_0 1024 m
def G12_wrong_0 (m : Mem) (x1 : Int) : Option (Int × Mem) := wt (up m 0 4 x1) fun m1 => wt (up m1 0 5 (m1 0 10)) fun m5 => some (0, m5)
def G12_wrong (m : Mem) (x1 : Int) : Option (Int × Mem) := G12_wrong_0 m x1
def G12_isIn_0 (m : Mem) (x0 : Int) (x1 : Int) (x2 : Int) : Option (Int × Mem) := if x0 < x1 then (some (0, m)) else (if x2 < x0 then (some (0, m)) else (some (1, m)))
def G12_isIn (m : Mem) (x0 : Int) (x1 : Int) (x2 : Int) : Option (Int × Mem) := G12_isIn_0 m x0 x1 x2
def G12_number_0 (m : Mem) (x1 : Int) (x2 : Int) : Option (Int × Mem) := if (m 0 8) = 3 then ((G12_isIn m (m 0 9) x1 x2).bind fun o6 => if o6.1 = 0 then ((G12_wrong o6.2 2).bind fun o15 => gdb o15.1 (some (o15.1, o15.2))) else (wt (up o6.2 0 11 (o6.2 0 9)) fun m11 => (G12_token m11).bind fun o13 => some (1, o13))) else ((G12_wrong m 1).bind fun o17 => gdb o17.1 (some (o17.1, o17.2)))
def G12_number (m : Mem) (x1 : Int) (x2 : Int) : Option (Int × Mem) := G12_number_0 m x1 x2
def G12_bankLine_0 (m : Mem) : Option (Int × Mem) := (G12_token m).bind fun o1 => (G12_number o1 1 20).bind fun o3 => if o3.1 = 0 then (some (0, o3.2)) else (wt (up o3.2 4 9 (o3.2 0 11)) fun m11 => (G12_number m11 1 20).bind fun o12 => if o12.1 = 0 then (some (0, o12.2)) else (wt (up o12.2 4 10 (o12.2 0 11)) fun m20 => (G12_number m20 1 9).bind fun o21 => if o21.1 = 0 then (some (0, o21.2)) else (wt (up o21.2 4 11 (o21.2 0 11)) fun m29 => some (1, m29))))
def G12_bankLine (m : Mem) : Option (Int × Mem) := G12_bankLine_0 m
def G12_begin_60 : Nat → Mem → Int → Option Mem
  | 0, _, _ => none
  | n + 1, m, x1 => if 28 ≤ x1 then (wt (up m 31 0 0) fun m5 => wt (up m5 32 0 0) fun m9 => wt (up m9 33 0 0) fun m13 => wt (up m13 0 64 (m13 4 5)) fun m18 => wt (up m18 0 65 (m18 4 6)) fun m24 => wt (up m24 0 66 (-1)) fun m26 => wt (up m26 0 74 0) fun m28 => wt (up m28 0 75 (-1)) fun m30 => wt (up m30 0 78 0) fun m32 => wt (up m32 0 80 0) fun m34 => some m34) else (gdx x1 56 (wt (up m 30 x1 (-2)) fun m39 => gd3 (x1 + 1) (G12_begin_60 n m39 (x1 + 1))))
def G12_begin_2 : Nat → Mem → Int → Option Mem
  | 0, _, _ => none
  | n + 1, m, x1 => if 5 ≤ x1 then (G12_begin_60 1024 m 0) else (gdx x1 10 (gdx x1 10 (wt (up m 25 x1 (m 6 x1)) fun m9 => gdx x1 10 (wt (up m9 26 x1 0) fun m13 => gdx x1 10 (wt (up m13 27 x1 0) fun m17 => gdx x1 10 (wt (up m17 28 x1 0) fun m21 => gdx x1 10 (gdx x1 5 (wt (up m21 29 x1 (m21 8 x1)) fun m29 => gd3 (x1 + 1) (G12_begin_2 n m29 (x1 + 1))))))))))
def G12_begin_0 (m : Mem) : Option Mem := G12_begin_2 1024 m 0
def G12_begin (m : Mem) : Option Mem := G12_begin_0 m
def G12_beginsFrom_2 : Nat → Mem → Int → Int → Option (Int × Mem)
  | 0, _, _, _ => none
  | n + 1, m, x1, x2 => if (m 0 15) ≤ x2 then (some ((-1), m)) else (gdx x2 8 (gdx (m 11 x2) 56 (if (m 12 (m 11 x2)) < x1 then (gd3 (x2 + 1) (G12_beginsFrom_2 n m x1 (x2 + 1))) else (gdx x2 8 (gdx (m 11 x2) 56 (some ((m 12 (m 11 x2)), m)))))))
def G12_beginsFrom_0 (m : Mem) (x1 : Int) : Option (Int × Mem) := G12_beginsFrom_2 1024 m x1 0
def G12_beginsFrom (m : Mem) (x1 : Int) : Option (Int × Mem) := G12_beginsFrom_0 m x1
def G12_beside_51 (m : Mem) (x3 : Int) (s0 : Int) (s1 : Int) : Option (Int × Mem) := gd3 ((m 0 12) - 1) ((G12_isIn m x3 0 ((m 0 12) - 1)).bind fun o3 => if o3.1 = 0 then (some ((-1), o3.2)) else (gd3 (s1 + s0) (gd3 ((o3.2 0 13) - 1) ((G12_isIn o3.2 (s1 + s0) 0 ((o3.2 0 13) - 1)).bind fun o8 => if o8.1 = 0 then (some ((-1), o8.2)) else (gd3 (((o8.2 0 12) * (s1 + s0)) + x3) (some ((((o8.2 0 12) * (s1 + s0)) + x3), o8.2)))))))
def G12_beside_25 (m : Mem) (x1 : Int) (x2 : Int) (s0 : Int) (s1 : Int) : Option (Int × Mem) := if (m 0 12) = 0 then (none) else (if x2 = 2 then (gd3 (s1 + s0) (gdd x1 (m 0 12) (G12_beside_51 m (s1 + s0) 1 (x1 / (m 0 12))))) else (if x2 = 0 then (gd3 (s1 + s0) (gdd x1 (m 0 12) (G12_beside_51 m (s1 + s0) (-1) (x1 / (m 0 12))))) else (gd3 (s1 + s0) (gdd x1 (m 0 12) (G12_beside_51 m (s1 + s0) 0 (x1 / (m 0 12)))))))
def G12_beside_0 (m : Mem) (x1 : Int) (x2 : Int) : Option (Int × Mem) := if (m 0 12) = 0 then (none) else (if x2 = 1 then (gdd x1 (m 0 12) (G12_beside_25 m x1 x2 1 (x1 % (m 0 12)))) else (if x2 = 3 then (gdd x1 (m 0 12) (G12_beside_25 m x1 x2 (-1) (x1 % (m 0 12)))) else (gdd x1 (m 0 12) (G12_beside_25 m x1 x2 0 (x1 % (m 0 12))))))
def G12_beside (m : Mem) (x1 : Int) (x2 : Int) : Option (Int × Mem) := G12_beside_0 m x1 x2
def G12_isSurfer_0 (m : Mem) (x1 : Int) : Option (Int × Mem) := if x1 < 0 then (some (0, m)) else (if (m 0 14) ≤ x1 then (some (0, m)) else (some (1, m)))
def G12_isSurfer (m : Mem) (x1 : Int) : Option (Int × Mem) := G12_isSurfer_0 m x1
def G12_cells_0 (m : Mem) : Option (Int × Mem) := gd3 ((m 0 12) * (m 0 13)) (some (((m 0 12) * (m 0 13)), m))
def G12_cells (m : Mem) : Option (Int × Mem) := G12_cells_0 m
def G12_gainOf_0 (m : Mem) (x1 : Int) (x2 : Int) (x3 : Int) : Option (Int × Mem) := (G12_oddsOf m x1 x2 x3).bind fun o1 => gdx x2 56 (gd3 (o1.1 * (o1.2 13 x2)) (some ((o1.1 * (o1.2 13 x2)), o1.2)))
def G12_gainOf (m : Mem) (x1 : Int) (x2 : Int) (x3 : Int) : Option (Int × Mem) := G12_gainOf_0 m x1 x2 x3
def G12_seatFrom_6 : Nat → Mem → Int → Int → Int → Int → Int → Option (Int × Mem)
  | 0, _, _, _, _, _, _ => none
  | n + 1, m, x1, x2, x3, x4, x5 => if (m 0 16) ≤ x5 then (some (x4, m)) else (gdx x5 56 (if (m 12 x5) < x3 then (gd3 (x4 + 0) (gd3 (x5 + 1) (G12_seatFrom_6 n m x1 x2 x3 (x4 + 0) (x5 + 1)))) else ((G12_gainOf m x1 x5 x2).bind fun o9 => gd3 (x4 + o9.1) (gd3 (x5 + 1) (G12_seatFrom_6 n o9.2 x1 x2 x3 (x4 + o9.1) (x5 + 1))))))
def G12_seatFrom_0 (m : Mem) (x1 : Int) (x2 : Int) (x3 : Int) : Option (Int × Mem) := G12_seatFrom_6 1024 m x1 x2 x3 0 0
def G12_seatFrom (m : Mem) (x1 : Int) (x2 : Int) (x3 : Int) : Option (Int × Mem) := G12_seatFrom_0 m x1 x2 x3
def G12_best_22 : Nat → Mem → Int → Int → Int → Int → Option (Int × Mem)
  | 0, _, _, _, _, _ => none
  | n + 1, m, x1, x2, x3, x4 => (G12_cells m).bind fun o1 => if o1.1 ≤ x4 then (some (x2, o1.2)) else ((G12_seatFrom o1.2 x1 x4 (o1.2 31 0)).bind fun o8 => if x3 < o8.1 then (gd3 (x4 + 1) (G12_best_22 n o8.2 x1 x4 o8.1 (x4 + 1))) else (gd3 (x4 + 1) (G12_best_22 n o8.2 x1 x2 x3 (x4 + 1))))
def G12_best_0 (m : Mem) (x1 : Int) : Option (Int × Mem) := wt (up m 0 2 0) fun m1 => (G12_isSurfer m1 x1).bind fun o3 => if o3.1 = 0 then (some ((-1), o3.2)) else (G12_best_22 1024 o3.2 x1 0 (-1) 0)
def G12_best (m : Mem) (x1 : Int) : Option (Int × Mem) := G12_best_0 m x1
def G12_rank_0 (m : Mem) (x0 : Int) : Option (Int × Mem) := if x0 < 13 then (if x0 < 11 then (if x0 < 5 then (if x0 = 2 then (some (3, m)) else (if x0 = 3 then (some (2, m)) else (if x0 = 4 then (some (1, m)) else (some (0, m))))) else (some (4, m))) else (some (5, m))) else (some (6, m))
def G12_rank (m : Mem) (x0 : Int) : Option (Int × Mem) := G12_rank_0 m x0
def G12_dropHeld_0 (m : Mem) : Option (Int × Mem) := gd3 ((m 0 47) - 1) (wt (up m 0 47 ((m 0 47) - 1)) fun m3 => gdx (m3 0 47) 96 (some ((m3 22 (m3 0 47)), m3)))
def G12_dropHeld (m : Mem) : Option (Int × Mem) := G12_dropHeld_0 m
def G12_grown_0 (m : Mem) (x1 : Int) (x2 : Int) (x3 : Int) : Option Mem := gdx (64 + (m 0 23)) 128 (wt (up m 18 (64 + (m 0 23)) x1) fun m6 => gdx (64 + (m6 0 23)) 128 (wt (up m6 19 (64 + (m6 0 23)) x2) fun m12 => gdx (64 + (m12 0 23)) 128 (wt (up m12 20 (64 + (m12 0 23)) x3) fun m18 => gdx (m18 0 47) 96 (wt (up m18 22 (m18 0 47) (m18 0 23)) fun m26 => gd3 ((m26 0 47) + 1) (wt (up m26 0 47 ((m26 0 47) + 1)) fun m29 => gd3 ((m29 0 23) + 1) (wt (up m29 0 23 ((m29 0 23) + 1)) fun m33 => some m33))))))
def G12_grown (m : Mem) (x1 : Int) (x2 : Int) (x3 : Int) : Option Mem := G12_grown_0 m x1 x2 x3
def G12_bind_58 (kk0 : Mem → Int → Option Mem) (m : Mem) (x1 : Int) (x2 : Int) (s0 : Int) : Option Mem := (G12_dropHeld m).bind fun o1 => (G12_grown o1.2 x2 o1.1 s0).bind fun o3 => kk0 o3 x1
def G12_bind_0 : Nat → Mem → Int → Option Mem
  | 0, _, _ => none
  | n + 1, m, x1 => if (m 0 46) ≤ 0 then (some m) else (gdx ((m 0 46) - 1) 96 ((G12_rank m (m 21 ((m 0 46) - 1))).bind fun o10 => if o10.1 < x1 then (some o10.2) else (gd3 ((o10.2 0 46) - 1) (wt (up o10.2 0 46 ((o10.2 0 46) - 1)) fun m15 => gdx (m15 0 46) 96 (if (m15 21 (m15 0 46)) = 2 then (G12_bind_58 (fun m x1 => G12_bind_0 n m x1) m15 x1 (m15 21 (m15 0 46)) (-1)) else ((G12_dropHeld m15).bind fun o24 => G12_bind_58 (fun m x1 => G12_bind_0 n m x1) o24.2 x1 (m15 21 (m15 0 46)) o24.1))))))
def G12_bind (m : Mem) (x1 : Int) : Option Mem := G12_bind_0 1024 m x1
def G12_cellRead_0 (m : Mem) : Option (Int × Mem) := wt (up m 0 24 1) fun m1 => gd3 ((m1 0 18) - 1) ((G12_number m1 0 ((m1 0 18) - 1)).bind fun o5 => if o5.1 = 0 then (some (0, o5.2)) else (wt (up o5.2 0 43 (o5.2 0 11)) fun m10 => gd3 ((m10 0 19) - 1) ((G12_number m10 0 ((m10 0 19) - 1)).bind fun o14 => if o14.1 = 0 then (some (0, o14.2)) else (some (1, o14.2)))))
def G12_cellRead (m : Mem) : Option (Int × Mem) := G12_cellRead_0 m
def G12_layTried_71 : Nat → Mem → Int → Option Mem
  | 0, _, _ => none
  | n + 1, m, x1 => if 28 ≤ x1 then (wt (up m 31 1 (m 31 0)) fun m9 => wt (up m9 32 1 0) fun m13 => wt (up m13 33 1 0) fun m17 => some m17) else (gdx x1 56 (gdx (28 + x1) 56 (wt (up m 30 (28 + x1) (m 30 x1)) fun m25 => gd3 (x1 + 1) (G12_layTried_71 n m25 (x1 + 1)))))
def G12_layTried_2 : Nat → Mem → Int → Option Mem
  | 0, _, _ => none
  | n + 1, m, x1 => if 5 ≤ x1 then (G12_layTried_71 1024 m 0) else (gdx x1 10 (gdx (5 + x1) 10 (wt (up m 25 (5 + x1) (m 25 x1)) fun m9 => gdx x1 10 (gdx (5 + x1) 10 (wt (up m9 26 (5 + x1) (m9 26 x1)) fun m17 => gdx x1 10 (gdx (5 + x1) 10 (wt (up m17 27 (5 + x1) (m17 27 x1)) fun m25 => gdx x1 10 (gdx (5 + x1) 10 (wt (up m25 28 (5 + x1) (m25 28 x1)) fun m33 => gd3 (x1 + 1) (G12_layTried_2 n m33 (x1 + 1)))))))))))
def G12_layTried_0 (m : Mem) : Option Mem := G12_layTried_2 1024 m 0
def G12_layTried (m : Mem) : Option Mem := G12_layTried_0 m
def G12_goesOn_0 : Nat → Mem → Int → Option Mem
  | 0, _, _ => none
  | n + 1, m, x1 => if (m 0 16) ≤ 0 then (some m) else (gdx ((m 0 16) - 1) 56 (if (m 12 ((m 0 16) - 1)) < (m 31 1) then (some m) else ((G12_aMinute m 1 x1).bind fun o15 => G12_goesOn_0 n o15 x1)))
def G12_goesOn (m : Mem) (x1 : Int) : Option Mem := G12_goesOn_0 1024 m x1
def G12_chance_47 : Nat → Mem → Int → Int → Int → Int → Int → Option (Int × Mem)
  | 0, _, _, _, _, _, _ => none
  | n + 1, m, x2, x3, j4, x6, x7 => if 10 ≤ x7 then (wt (up m 0 65 j4) fun m2 => some (x6, m2)) else ((G12_layTried m).bind fun o4 => (G12_goesOn o4 (o4 0 64)).bind fun o8 => gdx (5 + x2) 10 (if (o8 26 (5 + x2)) < x3 then (gd3 (x6 + 0) (gd3 (x7 + 1) (G12_chance_47 n o8 x2 x3 j4 (x6 + 0) (x7 + 1)))) else (gd3 (x6 + 1) (gd3 (x7 + 1) (G12_chance_47 n o8 x2 x3 j4 (x6 + 1) (x7 + 1))))))
def G12_chance_0 (m : Mem) (x1 : Int) (x2 : Int) (x3 : Int) : Option (Int × Mem) := wt (up m 0 2 0) fun m1 => if x1 < 0 then (some ((-1), m1)) else ((G12_isSurfer m1 x2).bind fun o4 => if o4.1 = 0 then (some ((-1), o4.2)) else ((G12_isIn o4.2 x3 0 28).bind fun o7 => if o7.1 = 0 then (some ((-1), o7.2)) else (wt (up o7.2 0 65 x1) fun m12 => G12_chance_47 1024 m12 x2 x3 (o7.2 0 65) 0 0)))
def G12_chance (m : Mem) (x1 : Int) (x2 : Int) (x3 : Int) : Option (Int × Mem) := G12_chance_0 m x1 x2 x3
def G12_comesTo_0 (m : Mem) (x1 : Int) (x2 : Int) : Option (Int × Mem) := if x2 = 4 then (gdx x1 10 (some ((m 25 x1), m))) else (gdx x1 10 ((G12_beside m (m 25 x1) x2).bind fun o6 => some (o6.1, o6.2)))
def G12_comesTo (m : Mem) (x1 : Int) (x2 : Int) : Option (Int × Mem) := G12_comesTo_0 m x1 x2
def G12_copies_2 : Nat → Mem → Nat → Int → Int → Option Mem
  | 0, _, _, _, _ => none
  | n + 1, m, a0, x1, x2 => if x1 ≤ x2 then (some m) else (gdx (x1 + x2) (lnM a0) (gdx x2 (lnM a0) (wt (up m a0 x2 (m a0 (x1 + x2))) fun m5 => gd3 (x2 + 1) (G12_copies_2 n m5 a0 x1 (x2 + 1)))))
def G12_copies_0 (m : Mem) (a0 : Nat) (x1 : Int) : Option Mem := G12_copies_2 1024 m a0 x1 0
def G12_copies (m : Mem) (a0 : Nat) (x1 : Int) : Option Mem := G12_copies_0 m a0 x1
def G12_firstToCome_2 : Nat → Mem → Int → Option (Int × Mem)
  | 0, _, _ => none
  | n + 1, m, x1 => if (m 0 16) ≤ x1 then (some (x1, m)) else (gdx x1 56 (if (m 30 x1) = (-2) then (some (x1, m)) else (gd3 (x1 + 1) (G12_firstToCome_2 n m (x1 + 1)))))
def G12_firstToCome_0 (m : Mem) : Option (Int × Mem) := G12_firstToCome_2 1024 m 0
def G12_firstToCome (m : Mem) : Option (Int × Mem) := G12_firstToCome_0 m
def G12_knownBy_0 (m : Mem) : Option (Int × Mem) := if 0 ≤ (m 0 75) then (some ((m 0 75), m)) else (some ((m 0 74), m))
def G12_knownBy (m : Mem) : Option (Int × Mem) := G12_knownBy_0 m
def G12_count_0 (m : Mem) (x1 : Int) : Option (Int × Mem) := wt (up m 0 2 0) fun m1 => if x1 = 0 then (some ((m1 0 12), m1)) else (if x1 = 1 then (some ((m1 0 13), m1)) else (if x1 = 2 then (some ((m1 0 14), m1)) else (if x1 = 3 then (some ((m1 0 15), m1)) else (if x1 = 4 then (some ((m1 0 16), m1)) else (if x1 = 5 then (some ((m1 0 17), m1)) else (if x1 = 6 then (some ((m1 31 0), m1)) else (if x1 = 7 then (some ((m1 0 64), m1)) else (if x1 = 8 then (some ((m1 32 0), m1)) else (if x1 = 9 then (some ((m1 33 0), m1)) else (if x1 = 10 then ((G12_firstToCome m1).bind fun o42 => gd3 ((m1 0 16) - o42.1) (some (((m1 0 16) - o42.1), o42.2))) else (if x1 = 11 then (some ((m1 0 74), m1)) else (if x1 = 12 then ((G12_knownBy m1).bind fun o48 => some (o48.1, o48.2)) else (if x1 = 13 then (some ((m1 0 78), m1)) else (some ((-1), m1)))))))))))))))
def G12_count (m : Mem) (x1 : Int) : Option (Int × Mem) := G12_count_0 m x1
def G12_deeper_0 (m : Mem) (x1 : Int) (x2 : Int) : Option (Int × Mem) := wt (up m 0 2 0) fun m1 => (G12_isSurfer m1 x1).bind fun o3 => if o3.1 = 0 then (some ((-1), o3.2)) else ((G12_isSurfer o3.2 x2).bind fun o6 => if o6.1 = 0 then (some ((-1), o6.2)) else ((G12_peakAt o6.2 (o6.2 31 0)).bind fun o13 => gdx x1 10 ((G12_far o13.2 (o13.2 25 x1) o13.1).bind fun o19 => gdx x2 10 ((G12_far o19.2 (o19.2 25 x2) o13.1).bind fun o25 => if o25.1 ≤ o19.1 then (if o19.1 ≤ o25.1 then (some (0, o25.2)) else (some (2, o25.2))) else (some (1, o25.2))))))
def G12_deeper (m : Mem) (x1 : Int) (x2 : Int) : Option (Int × Mem) := G12_deeper_0 m x1 x2
def G12_fails_0 (m : Mem) (x1 : Int) : Option (Int × Mem) := wt (up m 0 2 x1) fun m1 => some (0, m1)
def G12_fails (m : Mem) (x1 : Int) : Option (Int × Mem) := G12_fails_0 m x1
def G12_run_0 (m : Mem) (x1 : Int) (x2 : Int) : Option Mem := wt (up m 0 65 x2) fun m3 => (G12_layTried m3).bind fun o5 => (G12_goesOn o5 x1).bind fun o7 => wt (up o7 0 65 (m 0 65)) fun m9 => some m9
def G12_run (m : Mem) (x1 : Int) (x2 : Int) : Option Mem := G12_run_0 m x1 x2
def G12_unlike_47 (kk8 : Mem → Int → Int → Int → Int → Option (Int × Mem)) (m : Mem) (x1 : Int) (x3 : Int) (x4 : Int) (s0 : Int) : Option (Int × Mem) := gdx ((5 * x1) + x4) 10 (if x3 ≤ (m 26 ((5 * x1) + x4)) then (gd3 (x4 + 1) (kk8 m x1 s0 x3 (x4 + 1))) else (gdx ((5 * x1) + x4) 10 (gd3 (x4 + 1) (kk8 m x1 s0 (m 26 ((5 * x1) + x4)) (x4 + 1)))))
def G12_unlike_8 : Nat → Mem → Int → Int → Int → Int → Option (Int × Mem)
  | 0, _, _, _, _, _ => none
  | n + 1, m, x1, x2, x3, x4 => if (m 0 14) ≤ x4 then (if (m 0 14) = 0 then (some (0, m)) else (gd3 (x2 - x3) (some ((x2 - x3), m)))) else (gdx ((5 * x1) + x4) 10 (if (m 26 ((5 * x1) + x4)) ≤ x2 then (G12_unlike_47 (fun m x1 x2 x3 x4 => G12_unlike_8 n m x1 x2 x3 x4) m x1 x3 x4 x2) else (gdx ((5 * x1) + x4) 10 (G12_unlike_47 (fun m x1 x2 x3 x4 => G12_unlike_8 n m x1 x2 x3 x4) m x1 x3 x4 (m 26 ((5 * x1) + x4))))))
def G12_unlike_0 (m : Mem) (x1 : Int) : Option (Int × Mem) := G12_unlike_8 1024 m x1 0 99 0
def G12_unlike (m : Mem) (x1 : Int) : Option (Int × Mem) := G12_unlike_0 m x1
def G12_fairest_69 (kk18 : Mem → Int → Int → Int → Int → Option (Int × Mem)) (m : Mem) (x1 : Int) (x4 : Int) (x5 : Int) : Option (Int × Mem) := gd3 (x4 + 1) (kk18 m x1 x4 x5 (x4 + 1))
def G12_fairest_18 : Nat → Mem → Int → Int → Int → Int → Option (Int × Mem)
  | 0, _, _, _, _, _ => none
  | n + 1, m, x1, x2, x3, x4 => if 4 ≤ x4 then (some (x2, m)) else ((G12_run m x4 x1).bind fun o2 => (G12_unlike o2 1).bind fun o4 => if x2 < 0 then (gd3 (((1000 * o4.1) + (o4.2 32 1)) + (o4.2 33 1)) (G12_fairest_69 (fun m x1 x2 x3 x4 => G12_fairest_18 n m x1 x2 x3 x4) o4.2 x1 x4 (((1000 * o4.1) + (o4.2 32 1)) + (o4.2 33 1)))) else (gd3 (((1000 * o4.1) + (o4.2 32 1)) + (o4.2 33 1)) (if (((1000 * o4.1) + (o4.2 32 1)) + (o4.2 33 1)) < x3 then (gd3 (((1000 * o4.1) + (o4.2 32 1)) + (o4.2 33 1)) (G12_fairest_69 (fun m x1 x2 x3 x4 => G12_fairest_18 n m x1 x2 x3 x4) o4.2 x1 x4 (((1000 * o4.1) + (o4.2 32 1)) + (o4.2 33 1)))) else (gd3 (x4 + 1) (G12_fairest_18 n o4.2 x1 x2 x3 (x4 + 1))))))
def G12_fairest_0 (m : Mem) (x1 : Int) : Option (Int × Mem) := wt (up m 0 2 0) fun m1 => if 0 ≤ x1 then (G12_fairest_18 1024 m1 x1 (-1) 0 0) else (some ((-1), m1))
def G12_fairest (m : Mem) (x1 : Int) : Option (Int × Mem) := G12_fairest_0 m x1
def G12_fault_0 (m : Mem) (x1 : Int) : Option (Int × Mem) := wt (up m 0 2 0) fun m1 => if x1 = 0 then (some ((m1 0 4), m1)) else (if x1 = 1 then (some ((m1 0 5), m1)) else (some ((-1), m1)))
def G12_fault (m : Mem) (x1 : Int) : Option (Int × Mem) := G12_fault_0 m x1
def G12_feed_76 (kk23 : Mem → Int → Int → Int → Int → Int → Int → Option (Int × Mem)) (m : Mem) (x1 : Int) (x2 : Int) (x3 : Int) (x4 : Int) (x5 : Int) (x6 : Int) (s0 : Int) : Option (Int × Mem) := gdx ((m 0 1) + x6) 700 (gdd x6 4 (wt (up m 1 ((m 0 1) + x6) (b3an (b3sr s0 (b3an (24 - (8 * (x6 % 4))) 31)) 255)) fun m6 => gd3 (x6 + 1) (kk23 m6 x1 x2 x3 x4 x5 (x6 + 1))))
def G12_feed_23 : Nat → Mem → Int → Int → Int → Int → Int → Int → Option (Int × Mem)
  | 0, _, _, _, _, _, _, _ => none
  | n + 1, m, x1, x2, x3, x4, x5, x6 => if 20 ≤ x6 then (gd3 ((m 0 1) + 20) (wt (up m 0 1 ((m 0 1) + 20)) fun m4 => some ((m4 0 1), m4))) else (if 4 ≤ x6 then (if 8 ≤ x6 then (if 12 ≤ x6 then (if 16 ≤ x6 then (G12_feed_76 (fun m x1 x2 x3 x4 x5 x6 => G12_feed_23 n m x1 x2 x3 x4 x5 x6) m x1 x2 x3 x4 x5 x6 x5) else (G12_feed_76 (fun m x1 x2 x3 x4 x5 x6 => G12_feed_23 n m x1 x2 x3 x4 x5 x6) m x1 x2 x3 x4 x5 x6 x4)) else (G12_feed_76 (fun m x1 x2 x3 x4 x5 x6 => G12_feed_23 n m x1 x2 x3 x4 x5 x6) m x1 x2 x3 x4 x5 x6 x3)) else (G12_feed_76 (fun m x1 x2 x3 x4 x5 x6 => G12_feed_23 n m x1 x2 x3 x4 x5 x6) m x1 x2 x3 x4 x5 x6 x2)) else (G12_feed_76 (fun m x1 x2 x3 x4 x5 x6 => G12_feed_23 n m x1 x2 x3 x4 x5 x6) m x1 x2 x3 x4 x5 x6 x1))
def G12_feed_0 (m : Mem) (x1 : Int) (x2 : Int) (x3 : Int) (x4 : Int) (x5 : Int) : Option (Int × Mem) := wt (up m 0 2 0) fun m1 => gd3 ((m1 0 1) + 20) (if ((m1 0 1) + 20) ≤ 700 then (G12_feed_23 1024 m1 x1 x2 x3 x4 x5 0) else (some ((-1), m1)))
def G12_feed (m : Mem) (x1 : Int) (x2 : Int) (x3 : Int) (x4 : Int) (x5 : Int) : Option (Int × Mem) := G12_feed_0 m x1 x2 x3 x4 x5
def G12_find_3 : Nat → Mem → Int → Int → Int → Int → Option (Int × Mem)
  | 0, _, _, _, _, _ => none
  | n + 1, m, x1, x2, x3, x4 => if x2 ≤ x4 then (some ((-1), m)) else (gdx (x1 + x4) 10 (if (m 5 (x1 + x4)) = x3 then (some (x4, m)) else (gd3 (x4 + 1) (G12_find_3 n m x1 x2 x3 (x4 + 1)))))
def G12_find_0 (m : Mem) (x1 : Int) (x2 : Int) (x3 : Int) : Option (Int × Mem) := G12_find_3 1024 m x1 x2 x3 0
def G12_find (m : Mem) (x1 : Int) (x2 : Int) (x3 : Int) : Option (Int × Mem) := G12_find_0 m x1 x2 x3
def G12_gaps_31 : Nat → Mem → Int → Int → Int → Int → Option (Int × Mem)
  | 0, _, _, _, _, _ => none
  | n + 1, m, x1, x2, x3, x4 => if (m 0 15) ≤ x4 then (if x2 = 0 then (some (x3, m)) else (if 2 ≤ (m 0 15) then (gd3 ((m 0 15) - 1) (some (((m 0 15) - 1), m))) else (some (0, m)))) else (gdx x4 8 (gdx (m 11 x4) 56 (gdx x4 8 (gdx ((m 11 x4) - 1) 56 (gd3 ((m 12 (m 11 x4)) - (m 12 ((m 11 x4) - 1))) (if x1 < ((m 12 (m 11 x4)) - (m 12 ((m 11 x4) - 1))) then (gd3 (x3 + 0) (gd3 (x4 + 1) (G12_gaps_31 n m x1 x2 (x3 + 0) (x4 + 1)))) else (gd3 (x3 + 1) (gd3 (x4 + 1) (G12_gaps_31 n m x1 x2 (x3 + 1) (x4 + 1))))))))))
def G12_gaps_0 (m : Mem) (x1 : Int) (x2 : Int) : Option (Int × Mem) := wt (up m 0 2 0) fun m1 => (G12_isIn m1 x1 0 99).bind fun o3 => if o3.1 = 0 then (some ((-1), o3.2)) else ((G12_isIn o3.2 x2 0 1).bind fun o6 => if o6.1 = 0 then (some ((-1), o6.2)) else (G12_gaps_31 1024 o6.2 x1 x2 0 1))
def G12_gaps (m : Mem) (x1 : Int) (x2 : Int) : Option (Int × Mem) := G12_gaps_0 m x1 x2
def G12_give_0 (m : Mem) (x1 : Int) (x2 : Int) (x3 : Int) : Option (Int × Mem) := wt (up m 0 2 0) fun m1 => (G12_isSurfer m1 x1).bind fun o3 => if o3.1 = 0 then (some ((-1), o3.2)) else ((G12_isSurfer o3.2 x2).bind fun o6 => if o6.1 = 0 then (some ((-1), o6.2)) else (if x1 = x2 then (some ((-1), o6.2)) else ((G12_isIn o6.2 x3 0 99).bind fun o10 => if o10.1 = 0 then (some ((-1), o10.2)) else (gdx x2 10 (gd3 ((o10.2 10 x2) * x3) (if ((o10.2 10 x2) * x3) ≤ 100 then (some (0, o10.2)) else (some (1, o10.2))))))))
def G12_give (m : Mem) (x1 : Int) (x2 : Int) (x3 : Int) : Option (Int × Mem) := G12_give_0 m x1 x2 x3
def G12_isWave_0 (m : Mem) (x1 : Int) : Option (Int × Mem) := if x1 < 0 then (some (0, m)) else (if (m 0 16) ≤ x1 then (some (0, m)) else (some (1, m)))
def G12_isWave (m : Mem) (x1 : Int) : Option (Int × Mem) := G12_isWave_0 m x1
def G12_isToCome_0 (m : Mem) (x1 : Int) : Option (Int × Mem) := (G12_isWave m x1).bind fun o1 => if o1.1 = 0 then (some (0, o1.2)) else (gdx x1 56 (if (o1.2 30 x1) = (-2) then (some (1, o1.2)) else (some (0, o1.2))))
def G12_isToCome (m : Mem) (x1 : Int) : Option (Int × Mem) := G12_isToCome_0 m x1
def G12_go_107 (kk54 : Mem → Int → Int → Int → Int → Int → Int → Option (Int × Mem)) (m : Mem) (x1 : Int) (x2 : Int) (x3 : Int) (x4 : Int) (x6 : Int) : Option (Int × Mem) := gd3 (x6 + 1) (kk54 m x1 x2 x3 x4 1 (x6 + 1))
def G12_go_91 (kk54 : Mem → Int → Int → Int → Int → Int → Int → Option (Int × Mem)) (m : Mem) (x1 : Int) (x2 : Int) (x3 : Int) (x4 : Int) (x5 : Int) (x6 : Int) : Option (Int × Mem) := if x5 = 0 then (gdx x6 5 (if (m 34 x6) = x1 then (G12_go_107 kk54 m x1 x2 x3 x4 x6) else (gd3 (x6 + 1) (kk54 m x1 x2 x3 x4 0 (x6 + 1))))) else (G12_go_107 kk54 m x1 x2 x3 x4 x6)
def G12_go_54 : Nat → Mem → Int → Int → Int → Int → Int → Int → Option (Int × Mem)
  | 0, _, _, _, _, _, _, _ => none
  | n + 1, m, x1, x2, x3, x4, x5, x6 => if (m 0 69) ≤ x6 then (gdx x1 10 ((G12_gainOf m x1 x2 (m 25 x1)).bind fun o8 => gd3 (x3 * (100 - x4)) (if o8.1 ≤ (x3 * (100 - x4)) then (some (0, o8.2)) else (some (1, o8.2))))) else (if x5 = 0 then (G12_go_91 (fun m x1 x2 x3 x4 x5 x6 => G12_go_54 n m x1 x2 x3 x4 x5 x6) m x1 x2 x3 x4 x5 x6) else (gdx x6 5 (gdx (m 34 x6) 10 (gd3 (x4 * (100 - (m 9 (m 34 x6)))) (gdd (x4 * (100 - (m 9 (m 34 x6)))) 100 (G12_go_91 (fun m x1 x2 x3 x4 x5 x6 => G12_go_54 n m x1 x2 x3 x4 x5 x6) m x1 x2 x3 ((x4 * (100 - (m 9 (m 34 x6)))) / 100) x5 x6))))))
def G12_go_0 (m : Mem) (x1 : Int) (x2 : Int) (x3 : Int) : Option (Int × Mem) := wt (up m 0 2 0) fun m1 => (G12_isSurfer m1 x1).bind fun o3 => if o3.1 = 0 then (some ((-1), o3.2)) else ((G12_isToCome o3.2 x2).bind fun o6 => if o6.1 = 0 then (some ((-1), o6.2)) else ((G12_isIn o6.2 x3 0 999).bind fun o9 => if o9.1 = 0 then (some ((-1), o9.2)) else ((G12_layOrder o9.2 0 x2 (o9.2 0 64)).bind fun o14 => G12_go_54 1024 o14 x1 x2 x3 100 0 0)))
def G12_go (m : Mem) (x1 : Int) (x2 : Int) (x3 : Int) : Option (Int × Mem) := G12_go_0 m x1 x2 x3
def G12_plain_85 : Nat → Mem → Int → Option Mem
  | 0, _, _ => none
  | n + 1, m, x1 => if 6 ≤ x1 then (some m) else (gdx x1 6 (gdb 0 (wt (up m 15 x1 0) fun m5 => gd3 (x1 + 1) (G12_plain_85 n m5 (x1 + 1)))))
def G12_plain_64 : Nat → Mem → Int → Option Mem
  | 0, _, _ => none
  | n + 1, m, x1 => if 14 ≤ x1 then (G12_plain_85 1024 m 3) else (gdx x1 14 (wt (up m 4 x1 0) fun m5 => gd3 (x1 + 1) (G12_plain_64 n m5 (x1 + 1))))
def G12_plain_43 : Nat → Mem → Int → Option Mem
  | 0, _, _ => none
  | n + 1, m, x1 => if 5 ≤ x1 then (G12_plain_64 1024 m 7) else (gdx x1 5 (gdb 0 (wt (up m 3 x1 0) fun m5 => gd3 (x1 + 1) (G12_plain_43 n m5 (x1 + 1)))))
def G12_plain_0 (m : Mem) : Option Mem := wt (up m 0 18 6) fun m1 => wt (up m1 0 19 4) fun m3 => wt (up m3 0 20 0) fun m5 => wt (up m5 0 21 0) fun m7 => wt (up m7 0 22 0) fun m9 => wt (up m9 0 23 0) fun m11 => wt (up m11 0 49 0) fun m13 => wt (up m13 0 24 0) fun m15 => G12_plain_43 1024 m15 0
def G12_plain (m : Mem) : Option Mem := G12_plain_0 m
def G12_keepText_142 : Nat → Mem → Int → Option Mem
  | 0, _, _ => none
  | n + 1, m, x1 => if 3 ≤ x1 then ((G12_copies m 16 3).bind fun o4 => (G12_copies o4 17 3).bind fun o8 => (G12_copies o8 18 64).bind fun o12 => (G12_copies o12 19 64).bind fun o16 => (G12_copies o16 20 64).bind fun o20 => (G12_begin o20).bind fun o22 => some o22) else (gdx (3 + x1) 6 (gdx x1 6 (gdb (m 15 (3 + x1)) (wt (up m 15 x1 (m 15 (3 + x1))) fun m31 => gd3 (x1 + 1) (G12_keepText_142 n m31 (x1 + 1))))))
def G12_keepText_0 (m : Mem) : Option Mem := wt (up m 0 12 (m 0 18)) fun m3 => wt (up m3 0 13 (m3 0 19)) fun m7 => wt (up m7 0 14 (m7 0 20)) fun m11 => wt (up m11 0 15 (m11 0 21)) fun m15 => wt (up m15 0 16 (m15 0 22)) fun m19 => wt (up m19 0 17 (m19 0 23)) fun m23 => (G12_copies m23 4 7).bind fun o27 => (G12_copies o27 5 5).bind fun o31 => (G12_copies o31 6 5).bind fun o35 => (G12_copies o35 7 5).bind fun o39 => (G12_copies o39 8 5).bind fun o43 => (G12_copies o43 9 5).bind fun o47 => (G12_copies o47 10 5).bind fun o51 => (G12_copies o51 11 4).bind fun o55 => (G12_copies o55 12 28).bind fun o59 => (G12_copies o59 13 28).bind fun o63 => (G12_copies o63 14 28).bind fun o67 => G12_keepText_142 1024 o67 0
def G12_keepText (m : Mem) : Option Mem := G12_keepText_0 m
def G12_isCell_0 (m : Mem) (x1 : Int) : Option (Int × Mem) := if x1 < 0 then (some (0, m)) else ((G12_cells m).bind fun o2 => if o2.1 ≤ x1 then (some (0, o2.2)) else (some (1, o2.2)))
def G12_isCell (m : Mem) (x1 : Int) : Option (Int × Mem) := G12_isCell_0 m x1
def G12_isCounted_0 (m : Mem) : Option (Int × Mem) := if (m 0 49) = 64 then ((G12_wrong m 2).bind fun o8 => gdb o8.1 (some (o8.1, o8.2))) else (gd3 ((m 0 49) + 1) (wt (up m 0 49 ((m 0 49) + 1)) fun m6 => some (1, m6)))
def G12_isCounted (m : Mem) : Option (Int × Mem) := G12_isCounted_0 m
def G12_isKey_0 (m : Mem) (x1 : Int) : Option (Int × Mem) := if (m 0 8) = 1 then (if (m 0 9) = x1 then (some (1, m)) else (some (0, m))) else (some (0, m))
def G12_isKey (m : Mem) (x1 : Int) : Option (Int × Mem) := G12_isKey_0 m x1
def G12_isRest_13 : Nat → Mem → Int → Int → Option (Int × Mem)
  | 0, _, _, _ => none
  | n + 1, m, x1, x2 => if 5 ≤ x2 then (some (1, m)) else (gdd x1 5 (gdx ((5 * x2) + (x1 % 5)) 25 (gdx x1 25 (if (m 35 x1) < (m 35 ((5 * x2) + (x1 % 5))) then (some (0, m)) else (gdd x1 5 (gdx (((x1 / 5) * 5) + x2) 25 (gdx x1 25 (if (m 36 (((x1 / 5) * 5) + x2)) ≤ (m 36 x1) then (gd3 (x2 + 1) (G12_isRest_13 n m x1 (x2 + 1))) else (some (0, m))))))))))
def G12_isRest_0 (m : Mem) (x1 : Int) : Option (Int × Mem) := gdx x1 25 (if 0 ≤ (m 35 x1) then (G12_isRest_13 1024 m x1 0) else (some (0, m)))
def G12_isRest (m : Mem) (x1 : Int) : Option (Int × Mem) := G12_isRest_0 m x1
def G12_isSign_0 (m : Mem) (x1 : Int) : Option (Int × Mem) := if (m 0 8) = 4 then (if (m 0 9) = x1 then (some (1, m)) else (some (0, m))) else (some (0, m))
def G12_isSign (m : Mem) (x1 : Int) : Option (Int × Mem) := G12_isSign_0 m x1
def G12_keep_96 : Nat → Mem → Int → Option (Int × Mem)
  | 0, _, _ => none
  | n + 1, m, x1 => if 28 ≤ x1 then (wt (up m 0 82 (m 31 0)) fun m6 => wt (up m6 0 83 (m6 0 64)) fun m10 => wt (up m10 0 84 (m10 32 0)) fun m16 => wt (up m16 0 85 (m16 33 0)) fun m22 => wt (up m22 0 86 (m22 0 65)) fun m26 => some ((m26 31 0), m26)) else (gdx x1 56 (gdx (25 + x1) 53 (wt (up m 42 (25 + x1) (m 30 x1)) fun m39 => gd3 (x1 + 1) (G12_keep_96 n m39 (x1 + 1)))))
def G12_keep_12 : Nat → Mem → Int → Option (Int × Mem)
  | 0, _, _ => none
  | n + 1, m, x1 => if 5 ≤ x1 then (G12_keep_96 1024 m 0) else (gdx x1 10 (gdx x1 53 (wt (up m 42 x1 (m 25 x1)) fun m9 => gdx x1 10 (gdx (5 + x1) 53 (wt (up m9 42 (5 + x1) (m9 26 x1)) fun m17 => gdx x1 10 (gdx (10 + x1) 53 (wt (up m17 42 (10 + x1) (m17 27 x1)) fun m25 => gdx x1 10 (gdx (15 + x1) 53 (wt (up m25 42 (15 + x1) (m25 28 x1)) fun m33 => gdx x1 5 (gdx (20 + x1) 53 (wt (up m33 42 (20 + x1) (m33 29 x1)) fun m41 => gd3 (x1 + 1) (G12_keep_12 n m41 (x1 + 1)))))))))))))
def G12_keep_0 (m : Mem) : Option (Int × Mem) := wt (up m 0 2 0) fun m1 => wt (up m1 0 80 1) fun m3 => G12_keep_12 1024 m3 0
def G12_keep (m : Mem) : Option (Int × Mem) := G12_keep_0 m
def G12_known_0 (m : Mem) (x1 : Int) : Option (Int × Mem) := wt (up m 0 2 0) fun m1 => (G12_isIn m1 x1 (-1) (m1 0 74)).bind fun o5 => if o5.1 = 0 then (some (0, o5.2)) else (wt (up o5.2 0 75 x1) fun m8 => some (1, m8))
def G12_known (m : Mem) (x1 : Int) : Option (Int × Mem) := G12_known_0 m x1
def G12_law_134 (m : Mem) (x4 : Int) : Option (Int × Mem) := (G12_lawOf m x4).bind fun o1 => if (o1.2 0 54) = 0 then (some (o1.1, o1.2)) else (some ((-9223372036854775808), o1.2))
def G12_law_57 (m : Mem) (x1 : Int) (x2 : Int) (x3 : Int) (s0 : Int) : Option (Int × Mem) := gdx s0 6 (if (m 15 s0) = 0 then (some ((-9223372036854775808), m)) else (if x1 = 0 then (gdx x2 10 ((G12_layCatch m x2 x3 (m 25 x2)).bind fun o28 => G12_law_134 o28.2 s0)) else (if x1 = 1 then (gdx x2 10 (gdx x3 56 ((G12_layNames m 0 0 (m 7 x2) x3 (m 12 x3)).bind fun o22 => G12_law_134 o22 s0))) else ((G12_layNames m 0 0 0 (-1) (m 31 0)).bind fun o12 => G12_law_134 o12 s0))))
def G12_law_39 (m : Mem) (x1 : Int) (x2 : Int) (x3 : Int) : Option (Int × Mem) := if x1 = 0 then (G12_law_57 m x1 x2 x3 0) else (if x1 = 1 then (G12_law_57 m x1 x2 x3 2) else (G12_law_57 m x1 x2 x3 1))
def G12_law_0 (m : Mem) (x1 : Int) (x2 : Int) (x3 : Int) : Option (Int × Mem) := wt (up m 0 2 0) fun m1 => (G12_isIn m1 x1 0 2).bind fun o3 => if o3.1 = 0 then (some ((-9223372036854775808), o3.2)) else (if 2 ≤ x1 then (G12_law_39 o3.2 x1 x2 x3) else ((G12_isSurfer o3.2 x2).bind fun o7 => if o7.1 = 0 then (some ((-9223372036854775808), o7.2)) else ((G12_isWave o7.2 x3).bind fun o10 => if o10.1 = 0 then (some ((-9223372036854775808), o10.2)) else (G12_law_39 o10.2 x1 x2 x3))))
def G12_law (m : Mem) (x1 : Int) (x2 : Int) (x3 : Int) : Option (Int × Mem) := G12_law_0 m x1 x2 x3
def G12_wayAt_0 (m : Mem) (x0 : Int) : Option (Int × Mem) := if x0 = 0 then (some (4, m)) else (gd3 (x0 - 1) (some ((x0 - 1), m)))
def G12_wayAt (m : Mem) (x0 : Int) : Option (Int × Mem) := G12_wayAt_0 m x0
def G12_layGame_151 (kk2 : Mem → Int → Int → Int → Option Mem) (kk78 : Mem → Int → Int → Int → Int → Int → Int → Option Mem) (m : Mem) (x1 : Int) (x2 : Int) (x3 : Int) (x4 : Int) (x5 : Int) (x6 : Int) : Option Mem := gdx x3 25 ((G12_gainOf m x1 x6 x4).bind fun o5 => gdx x3 25 (gd3 ((m 35 x3) + o5.1) (wt (up o5.2 35 x3 ((m 35 x3) + o5.1)) fun m8 => gd3 (x6 + 1) (kk78 m8 x1 x2 x3 x4 x5 (x6 + 1)))))
def G12_layGame_172 (kk2 : Mem → Int → Int → Int → Option Mem) (kk78 : Mem → Int → Int → Int → Int → Int → Int → Option Mem) (m : Mem) (x1 : Int) (x2 : Int) (x3 : Int) (x4 : Int) (x5 : Int) (x6 : Int) : Option Mem := gdx x3 25 ((G12_gainOf m x2 x6 x5).bind fun o5 => gdx x3 25 (gd3 ((m 36 x3) + o5.1) (wt (up o5.2 36 x3 ((m 36 x3) + o5.1)) fun m8 => gd3 (x6 + 1) (kk78 m8 x1 x2 x3 x4 x5 (x6 + 1)))))
def G12_layGame_78 (kk2 : Mem → Int → Int → Int → Option Mem) : Nat → Mem → Int → Int → Int → Int → Int → Int → Option Mem
  | 0, _, _, _, _, _, _, _ => none
  | n + 1, m, x1, x2, x3, x4, x5, x6 => if (m 0 16) ≤ x6 then (gd3 (x3 + 1) (kk2 m x1 x2 (x3 + 1))) else ((G12_isToCome m x6).bind fun o4 => if o4.1 = 0 then (gd3 (x6 + 1) (G12_layGame_78 kk2 n o4.2 x1 x2 x3 x4 x5 (x6 + 1))) else (gdx x6 56 ((G12_peakAt o4.2 (o4.2 12 x6)).bind fun o11 => (G12_far o11.2 x4 o11.1).bind fun o13 => (G12_far o13.2 x5 o11.1).bind fun o15 => if o13.1 < o15.1 then (G12_layGame_151 kk2 (fun m x1 x2 x3 x4 x5 x6 => G12_layGame_78 kk2 n m x1 x2 x3 x4 x5 x6) o15.2 x1 x2 x3 x4 x5 x6) else (if o13.1 = o15.1 then (if x2 ≤ x1 then (G12_layGame_172 kk2 (fun m x1 x2 x3 x4 x5 x6 => G12_layGame_78 kk2 n m x1 x2 x3 x4 x5 x6) o15.2 x1 x2 x3 x4 x5 x6) else (G12_layGame_151 kk2 (fun m x1 x2 x3 x4 x5 x6 => G12_layGame_78 kk2 n m x1 x2 x3 x4 x5 x6) o15.2 x1 x2 x3 x4 x5 x6)) else (G12_layGame_172 kk2 (fun m x1 x2 x3 x4 x5 x6 => G12_layGame_78 kk2 n m x1 x2 x3 x4 x5 x6) o15.2 x1 x2 x3 x4 x5 x6)))))
def G12_layGame_2 : Nat → Mem → Int → Int → Int → Option Mem
  | 0, _, _, _, _ => none
  | n + 1, m, x1, x2, x3 => if 25 ≤ x3 then (some m) else (gdd x3 5 ((G12_wayAt m (x3 / 5)).bind fun o2 => (G12_comesTo o2.2 x1 o2.1).bind fun o4 => gdd x3 5 ((G12_wayAt o4.2 (x3 % 5)).bind fun o6 => (G12_comesTo o6.2 x2 o6.1).bind fun o8 => gdx x3 25 (wt (up o8.2 35 x3 (-1)) fun m13 => gdx x3 25 (wt (up m13 36 x3 (-1)) fun m17 => if o4.1 < 0 then (gd3 (x3 + 1) (G12_layGame_2 n m17 x1 x2 (x3 + 1))) else (if 0 ≤ o8.1 then (gdx x3 25 (wt (up m17 35 x3 0) fun m23 => gdx x3 25 (wt (up m23 36 x3 0) fun m27 => G12_layGame_78 (fun m x1 x2 x3 => G12_layGame_2 n m x1 x2 x3) 1024 m27 x1 x2 x3 o4.1 o8.1 0))) else (gd3 (x3 + 1) (G12_layGame_2 n m17 x1 x2 (x3 + 1)))))))))
def G12_layGame_0 (m : Mem) (x1 : Int) (x2 : Int) : Option Mem := G12_layGame_2 1024 m x1 x2 0
def G12_layGame (m : Mem) (x1 : Int) (x2 : Int) : Option Mem := G12_layGame_0 m x1 x2
def G12_layPlan_124 (kk17 : Mem → Int → Int → Option Mem) (m : Mem) (x1 : Int) (x2 : Int) (s0 : Int) (s1 : Int) : Option Mem := gdx s1 29 (wt (up m 37 s1 s0) fun m2 => gd3 (x2 + (-1)) (kk17 m2 x1 (x2 + (-1))))
def G12_layPlan_65 (kk17 : Mem → Int → Int → Option Mem) (m : Mem) (x1 : Int) (x2 : Int) (x3 : Int) : Option Mem := gdx x2 28 (wt (up m 38 x2 x3) fun m4 => gdx x1 10 ((G12_gainOf m4 x1 x2 (m4 25 x1)).bind fun o9 => gdx x3 29 (gdx (x2 + 1) 29 (gd3 (o9.1 + (o9.2 37 x3)) (if (o9.1 + (o9.2 37 x3)) < (o9.2 37 (x2 + 1)) then (gdx (x2 + 1) 29 (G12_layPlan_124 kk17 o9.2 x1 x2 (o9.2 37 (x2 + 1)) x2)) else (gd3 (o9.1 + (o9.2 37 x3)) (G12_layPlan_124 kk17 o9.2 x1 x2 (o9.1 + (o9.2 37 x3)) x2)))))))
def G12_layPlan_33 (kk17 : Mem → Int → Int → Option Mem) : Nat → Mem → Int → Int → Int → Int → Option Mem
  | 0, _, _, _, _, _ => none
  | n + 1, m, x1, x2, x3, x4 => if (m 0 16) ≤ x3 then (G12_layPlan_65 kk17 m x1 x2 x3) else (gdx x3 56 (gdx x2 56 (gd3 ((m 12 x2) + x4) (if ((m 12 x2) + x4) ≤ (m 12 x3) then (G12_layPlan_65 kk17 m x1 x2 x3) else (gd3 (x3 + 1) (G12_layPlan_33 kk17 n m x1 x2 (x3 + 1) x4))))))
def G12_layPlan_17 : Nat → Mem → Int → Int → Option Mem
  | 0, _, _, _ => none
  | n + 1, m, x1, x2 => if x2 < 0 then (some m) else ((G12_awayOf m x1 x2).bind fun o2 => gd3 (x2 + 1) (G12_layPlan_33 (fun m x1 x2 => G12_layPlan_17 n m x1 x2) 1024 o2.2 x1 x2 (x2 + 1) o2.1))
def G12_layPlan_0 (m : Mem) (x1 : Int) : Option Mem := gdx (m 0 16) 29 (wt (up m 37 (m 0 16) 0) fun m6 => gd3 ((m6 0 16) - 1) (G12_layPlan_17 1024 m6 x1 ((m6 0 16) - 1)))
def G12_layPlan (m : Mem) (x1 : Int) : Option Mem := G12_layPlan_0 m x1
def G12_waitsFor_0 (m : Mem) (x1 : Int) : Option Mem := gdx (m 0 46) 96 (wt (up m 21 (m 0 46) x1) fun m6 => gd3 ((m6 0 46) + 1) (wt (up m6 0 46 ((m6 0 46) + 1)) fun m9 => some m9))
def G12_waitsFor (m : Mem) (x1 : Int) : Option Mem := G12_waitsFor_0 m x1
def G12_nameMet_0 (m : Mem) : Option (Int × Mem) := if (m 0 8) = 1 then (if (m 0 9) < 18 then (some ((-1), m)) else (gd3 ((m 0 9) - 18) (some (((m 0 9) - 18), m)))) else (some ((-1), m))
def G12_nameMet (m : Mem) : Option (Int × Mem) := G12_nameMet_0 m
def G12_leafRead_160 (m : Mem) (s0 : Int) (s1 : Int) : Option (Int × Mem) := (G12_grown m s1 s0 0).bind fun o1 => wt (up o1 0 50 0) fun m3 => (G12_token m3).bind fun o5 => some (1, o5)
def G12_leafRead_148 (m : Mem) (x1 : Int) (s0 : Int) : Option (Int × Mem) := if x1 < 0 then (G12_leafRead_160 m (m 0 9) s0) else (G12_leafRead_160 m x1 s0)
def G12_leafRead_129 (m : Mem) (x1 : Int) : Option (Int × Mem) := (G12_isCounted m).bind fun o1 => if o1.1 = 0 then (some (0, o1.2)) else (if x1 < 0 then (G12_leafRead_148 o1.2 x1 0) else (G12_leafRead_148 o1.2 x1 1))
def G12_leafRead_109 (m : Mem) (x1 : Int) : Option (Int × Mem) := if 0 ≤ x1 then (G12_leafRead_129 m x1) else (if (m 0 9) ≤ 9999 then (G12_leafRead_129 m x1) else ((G12_wrong m 2).bind fun o5 => gdb o5.1 (some (o5.1, o5.2))))
def G12_leafRead_86 (m : Mem) : Option (Int × Mem) := (G12_nameMet m).bind fun o1 => if 0 ≤ o1.1 then (G12_leafRead_109 o1.2 o1.1) else (if (o1.2 0 8) = 3 then (G12_leafRead_109 o1.2 o1.1) else ((G12_wrong o1.2 1).bind fun o7 => gdb o7.1 (some (o7.1, o7.2))))
def G12_leafRead_0 (m : Mem) : Option (Int × Mem) := (G12_isSign m 40).bind fun o1 => if o1.1 = 0 then ((G12_isKey o1.2 17).bind fun o4 => if o4.1 = 0 then (G12_leafRead_86 o4.2) else (if (o4.2 0 51) = 0 then (G12_leafRead_86 o4.2) else ((G12_isCounted o4.2).bind fun o10 => if o10.1 = 0 then (some (0, o10.2)) else ((G12_waitsFor o10.2 2).bind fun o13 => (G12_token o13).bind fun o15 => some (1, o15))))) else (if (o1.2 0 48) = 8 then ((G12_wrong o1.2 2).bind fun o30 => gdb o30.1 (some (o30.1, o30.2))) else (gd3 ((o1.2 0 48) + 1) (wt (up o1.2 0 48 ((o1.2 0 48) + 1)) fun m22 => (G12_waitsFor m22 0).bind fun o24 => wt (up o24 0 51 1) fun m26 => (G12_token m26).bind fun o28 => some (1, o28))))
def G12_leafRead (m : Mem) : Option (Int × Mem) := G12_leafRead_0 m
def G12_seaLine_0 (m : Mem) : Option (Int × Mem) := if (m 3 0) = 0 then (if (m 0 24) = 0 then (gdb 1 (wt (up m 3 0 1) fun m12 => (G12_token m12).bind fun o13 => (G12_number o13 1 8).bind fun o15 => if o15.1 = 0 then (some (0, o15.2)) else (wt (up o15.2 0 18 (o15.2 0 11)) fun m20 => (G12_number m20 1 6).bind fun o22 => if o22.1 = 0 then (some (0, o22.2)) else (wt (up o22.2 0 19 (o22.2 0 11)) fun m27 => some (1, m27))))) else ((G12_wrong m 4).bind fun o29 => gdb o29.1 (some (o29.1, o29.2)))) else ((G12_wrong m 3).bind fun o31 => gdb o31.1 (some (o31.1, o31.2)))
def G12_seaLine (m : Mem) : Option (Int × Mem) := G12_seaLine_0 m
def G12_surferLine_0 (m : Mem) : Option (Int × Mem) := if (m 0 20) = 5 then ((G12_wrong m 2).bind fun o85 => gdb o85.1 (some (o85.1, o85.2))) else ((G12_token m).bind fun o4 => if (o4 0 8) = 2 then ((G12_find o4 5 (o4 0 20) (o4 0 9)).bind fun o15 => if o15.1 < 0 then (gdx (5 + (o15.2 0 20)) 10 (wt (up o15.2 5 (5 + (o15.2 0 20)) (o15.2 0 9)) fun m25 => (G12_token m25).bind fun o26 => (G12_cellRead o26).bind fun o28 => if o28.1 = 0 then (some (0, o28.2)) else (gdx (5 + (o15.2 0 20)) 10 (gd3 (((o28.2 0 18) * (o28.2 0 11)) + (o28.2 0 43)) (wt (up o28.2 6 (5 + (o15.2 0 20)) (((o28.2 0 18) * (o28.2 0 11)) + (o28.2 0 43))) fun m40 => (G12_number m40 1 9).bind fun o41 => if o41.1 = 0 then (some (0, o41.2)) else (gdx (5 + (o15.2 0 20)) 10 (wt (up o41.2 7 (5 + (o15.2 0 20)) (o41.2 0 11)) fun m49 => (G12_number m49 1 3).bind fun o50 => if o50.1 = 0 then (some (0, o50.2)) else (gdx (5 + (o15.2 0 20)) 10 (wt (up o50.2 8 (5 + (o15.2 0 20)) (o50.2 0 11)) fun m58 => (G12_number m58 0 100).bind fun o59 => if o59.1 = 0 then (some (0, o59.2)) else (gdx (5 + (o15.2 0 20)) 10 (wt (up o59.2 9 (5 + (o15.2 0 20)) (o59.2 0 11)) fun m67 => (G12_number m67 0 100).bind fun o68 => if o68.1 = 0 then (some (0, o68.2)) else (gdx (5 + (o15.2 0 20)) 10 (wt (up o68.2 10 (5 + (o15.2 0 20)) (o68.2 0 11)) fun m76 => gd3 ((m76 0 20) + 1) (wt (up m76 0 20 ((m76 0 20) + 1)) fun m79 => some (1, m79))))))))))))))) else ((G12_wrong o15.2 3).bind fun o81 => gdb o81.1 (some (o81.1, o81.2)))) else ((G12_wrong o4 1).bind fun o83 => gdb o83.1 (some (o83.1, o83.2))))
def G12_surferLine (m : Mem) : Option (Int × Mem) := G12_surferLine_0 m
def G12_setLine_110 : Nat → Mem → Int → Int → Option (Int × Mem)
  | 0, _, _, _ => none
  | n + 1, m, x2, x3 => if (m 0 8) = 3 then (if x3 = 7 then ((G12_wrong m 2).bind fun o38 => gdb o38.1 (some (o38.1, o38.2))) else ((G12_number m 1 9).bind fun o9 => if o9.1 = 0 then (some (0, o9.2)) else (gdx (28 + (o9.2 0 22)) 56 (gd3 (x2 + x3) (wt (up o9.2 12 (28 + (o9.2 0 22)) (x2 + x3)) fun m17 => gdx (28 + (m17 0 22)) 56 (wt (up m17 13 (28 + (m17 0 22)) (m17 0 11)) fun m25 => gdx (28 + (m25 0 22)) 56 (wt (up m25 14 (28 + (m25 0 22)) (m25 0 21)) fun m33 => gd3 ((m33 0 22) + 1) (wt (up m33 0 22 ((m33 0 22) + 1)) fun m36 => gd3 (x3 + 1) (G12_setLine_110 n m36 x2 (x3 + 1)))))))))) else (gd3 ((m 0 21) + 1) (wt (up m 0 21 ((m 0 21) + 1)) fun m6 => some (1, m6)))
def G12_setLine_74 (m : Mem) : Option (Int × Mem) := if (m 0 8) = 3 then (gdx (4 + (m 0 21)) 8 (wt (up m 11 (4 + (m 0 21)) (m 0 22)) fun m13 => G12_setLine_110 1024 m13 (m 0 11) 0)) else ((G12_wrong m 1).bind fun o14 => gdb o14.1 (some (o14.1, o14.2)))
def G12_setLine_0 (m : Mem) : Option (Int × Mem) := if (m 0 21) = 4 then ((G12_wrong m 2).bind fun o27 => gdb o27.1 (some (o27.1, o27.2))) else ((G12_token m).bind fun o4 => (G12_number o4 0 99).bind fun o8 => if o8.1 = 0 then (some (0, o8.2)) else (if (o8.2 0 22) ≤ 0 then (G12_setLine_74 o8.2) else (gdx ((28 + (o8.2 0 22)) - 1) 56 (if (o8.2 12 ((28 + (o8.2 0 22)) - 1)) < (o8.2 0 11) then (G12_setLine_74 o8.2) else (wt (up o8.2 0 10 (o4 0 10)) fun m23 => (G12_wrong m23 5).bind fun o25 => gdb o25.1 (some (o25.1, o25.2)))))))
def G12_setLine (m : Mem) : Option (Int × Mem) := G12_setLine_0 m
def G12_onceLine_168 (m : Mem) : Option (Int × Mem) := (G12_wrong m 1).bind fun o1 => gdb o1.1 (some (o1.1, o1.2))
def G12_onceLine_37 (m : Mem) (s0 : Int) : Option (Int × Mem) := gdx s0 5 (if (m 3 s0) = 0 then (gdx s0 5 (gdb 1 (wt (up m 3 s0 1) fun m9 => if s0 = 2 then ((G12_bankLine m9).bind fun o56 => gdb o56.1 (some (o56.1, o56.2))) else ((G12_token m9).bind fun o11 => if s0 = 1 then ((G12_cellRead o11).bind fun o41 => if o41.1 = 0 then (some (0, o41.2)) else (wt (up o41.2 4 7 (o41.2 0 43)) fun m49 => wt (up m49 4 8 (m49 0 11)) fun m55 => some (1, m55))) else (if s0 = 4 then ((G12_number o11 0 99999).bind fun o32 => if o32.1 = 0 then (some (0, o32.2)) else (wt (up o32.2 4 13 (o32.2 0 11)) fun m40 => some (1, m40))) else (if (o11 0 8) = 1 then (if (o11 0 9) < 8 then (G12_onceLine_168 o11) else (if (o11 0 9) ≤ 11 then (gd3 ((o11 0 9) - 8) (wt (up o11 4 12 ((o11 0 9) - 8)) fun m29 => (G12_token m29).bind fun o30 => some (1, o30))) else (G12_onceLine_168 o11))) else (G12_onceLine_168 o11))))))) else ((G12_wrong m 3).bind fun o58 => gdb o58.1 (some (o58.1, o58.2))))
def G12_onceLine_0 (m : Mem) : Option (Int × Mem) := if (m 0 9) = 1 then (G12_onceLine_37 m 1) else (if (m 0 9) = 4 then (G12_onceLine_37 m 2) else (if (m 0 9) = 5 then (G12_onceLine_37 m 3) else (G12_onceLine_37 m 4)))
def G12_onceLine (m : Mem) : Option (Int × Mem) := G12_onceLine_0 m
def G12_signs_250 (m : Mem) (s0 : Int) : Option (Int × Mem) := gdb s0 (wt (up m 0 51 s0) fun m1 => (G12_token m1).bind fun o3 => some (1, o3))
def G12_signs_217 (m : Mem) (x1 : Int) : Option (Int × Mem) := (G12_isCounted m).bind fun o1 => if o1.1 = 0 then (some (0, o1.2)) else ((G12_waitsFor o1.2 x1).bind fun o4 => wt (up o4 0 50 1) fun m6 => (G12_rank m6 x1).bind fun o8 => if 3 ≤ o8.1 then (G12_signs_250 o8.2 0) else (G12_signs_250 o8.2 1))
def G12_signs_175 (m : Mem) (x1 : Int) (s0 : Int) : Option (Int × Mem) := (G12_bind m s0).bind fun o1 => (G12_rank o1 x1).bind fun o3 => if o3.1 = 4 then (if (o3.2 0 46) ≤ 0 then (G12_signs_217 o3.2 x1) else (gdx ((o3.2 0 46) - 1) 96 ((G12_rank o3.2 (o3.2 21 ((o3.2 0 46) - 1))).bind fun o15 => if o15.1 = 4 then ((G12_wrong o15.2 1).bind fun o18 => gdb o18.1 (some (o18.1, o18.2))) else (G12_signs_217 o15.2 x1)))) else (G12_signs_217 o3.2 x1)
def G12_signs_147 (m : Mem) (s0 : Int) : Option (Int × Mem) := if s0 = 0 then ((G12_wrong m 1).bind fun o7 => gdb o7.1 (some (o7.1, o7.2))) else ((G12_rank m s0).bind fun o2 => if o2.1 = 4 then (G12_signs_175 o2.2 s0 5) else ((G12_rank o2.2 s0).bind fun o5 => G12_signs_175 o5.2 s0 o5.1))
def G12_signs_47 (m : Mem) : Option (Int × Mem) := (G12_isKey m 15).bind fun o1 => if o1.1 = 0 then ((G12_isKey o1.2 16).bind fun o4 => if o4.1 = 0 then (if (o4.2 0 8) = 5 then (gd3 (5 + (o4.2 0 9)) (G12_signs_147 o4.2 (5 + (o4.2 0 9)))) else ((G12_isSign o4.2 43).bind fun o10 => if o10.1 = 0 then ((G12_isSign o10.2 45).bind fun o13 => if o13.1 = 0 then ((G12_isSign o13.2 42).bind fun o16 => if o16.1 = 0 then ((G12_isSign o16.2 47).bind fun o19 => if o19.1 = 0 then (G12_signs_147 o19.2 0) else (G12_signs_147 o19.2 14)) else (G12_signs_147 o16.2 13)) else (G12_signs_147 o13.2 12)) else (G12_signs_147 o10.2 11))) else (G12_signs_147 o4.2 4)) else (G12_signs_147 o1.2 3)
def G12_signs_0 (m : Mem) : Option (Int × Mem) := (G12_isSign m 41).bind fun o1 => if o1.1 = 0 then (G12_signs_47 o1.2) else (if (o1.2 0 48) ≤ 0 then (G12_signs_47 o1.2) else ((G12_bind o1.2 1).bind fun o7 => gd3 ((o7 0 46) - 1) (wt (up o7 0 46 ((o7 0 46) - 1)) fun m11 => gd3 ((m11 0 48) - 1) (wt (up m11 0 48 ((m11 0 48) - 1)) fun m15 => (G12_token m15).bind fun o17 => some (1, o17)))))
def G12_signs (m : Mem) : Option (Int × Mem) := G12_signs_0 m
def G12_sumRead_48 (kk25 : Mem → Option (Int × Mem)) (m : Mem) : Option (Int × Mem) := if (m 0 50) = 0 then ((G12_signs m).bind fun o4 => if o4.1 = 0 then (some (0, o4.2)) else (kk25 o4.2)) else ((G12_leafRead m).bind fun o7 => if o7.1 = 0 then (some (0, o7.2)) else (kk25 o7.2))
def G12_sumRead_25 : Nat → Mem → Option (Int × Mem)
  | 0, _ => none
  | n + 1, m => (G12_isSign m 59).bind fun o1 => if o1.1 = 0 then (G12_sumRead_48 (fun m => G12_sumRead_25 n m) o1.2) else (if (o1.2 0 50) = 0 then (if (o1.2 0 48) ≤ 0 then ((G12_bind o1.2 1).bind fun o10 => some (1, o10)) else (G12_sumRead_48 (fun m => G12_sumRead_25 n m) o1.2)) else (G12_sumRead_48 (fun m => G12_sumRead_25 n m) o1.2))
def G12_sumRead_0 (m : Mem) : Option (Int × Mem) := wt (up m 0 46 0) fun m1 => wt (up m1 0 47 0) fun m3 => wt (up m3 0 48 0) fun m5 => wt (up m5 0 50 1) fun m7 => wt (up m7 0 51 1) fun m9 => G12_sumRead_25 1024 m9
def G12_sumRead (m : Mem) : Option (Int × Mem) := G12_sumRead_0 m
def G12_lineRead_17 (m : Mem) : Option (Int × Mem) := (G12_wrong m 1).bind fun o1 => gdb o1.1 (some (o1.1, o1.2))
def G12_lineRead_197 (m : Mem) (x1 : Int) : Option (Int × Mem) := if x1 = 0 then (some (0, m)) else ((G12_isSign m 59).bind fun o2 => if o2.1 = 0 then ((G12_wrong o2.2 1).bind fun o7 => gdb o7.1 (some (o7.1, o7.2))) else ((G12_token o2.2).bind fun o5 => some (1, o5)))
def G12_lineRead_130 (m : Mem) : Option (Int × Mem) := (G12_wrong m 1).bind fun o1 => gdb o1.1 (some (o1.1, o1.2))
def G12_lineRead_0 (m : Mem) : Option (Int × Mem) := if (m 0 8) = 1 then (if (m 0 9) ≤ 7 then (if (m 0 9) = 0 then ((G12_seaLine m).bind fun o10 => G12_lineRead_197 o10.2 o10.1) else (if (m 0 9) = 1 then ((G12_onceLine m).bind fun o13 => G12_lineRead_197 o13.2 o13.1) else (if (m 0 9) = 2 then ((G12_surferLine m).bind fun o16 => G12_lineRead_197 o16.2 o16.1) else (if (m 0 9) = 3 then ((G12_setLine m).bind fun o19 => G12_lineRead_197 o19.2 o19.1) else (if (m 0 9) = 4 then ((G12_onceLine m).bind fun o22 => G12_lineRead_197 o22.2 o22.1) else (if (m 0 9) = 5 then ((G12_onceLine m).bind fun o25 => G12_lineRead_197 o25.2 o25.1) else (if (m 0 9) = 6 then ((G12_onceLine m).bind fun o28 => G12_lineRead_197 o28.2 o28.1) else ((G12_token m).bind fun o30 => if (o30 0 8) = 1 then (if (o30 0 9) < 12 then (G12_lineRead_130 o30) else (if (o30 0 9) ≤ 14 then (gdx ((3 + (o30 0 9)) - 12) 6 (if (o30 15 ((3 + (o30 0 9)) - 12)) = 0 then (gdx ((3 + (o30 0 9)) - 12) 6 (gdb 1 (wt (up o30 15 ((3 + (o30 0 9)) - 12) 1) fun m51 => (G12_token m51).bind fun o52 => gdx ((3 + (o30 0 9)) - 12) 6 (wt (up o52 16 ((3 + (o30 0 9)) - 12) (o52 0 23)) fun m59 => (G12_sumRead m59).bind fun o60 => gdx ((3 + (o30 0 9)) - 12) 6 (wt (up o60.2 17 ((3 + (o30 0 9)) - 12) (o60.2 0 23)) fun m67 => G12_lineRead_197 m67 o60.1))))) else ((G12_wrong o30 3).bind fun o68 => gdb o68.1 (some (o68.1, o68.2))))) else (G12_lineRead_130 o30))) else (G12_lineRead_130 o30))))))))) else (G12_lineRead_17 m)) else (G12_lineRead_17 m)
def G12_lineRead (m : Mem) : Option (Int × Mem) := G12_lineRead_0 m
def G12_locals_100 : Nat → Mem → Int → Int → Int → Int → Option (Int × Mem)
  | 0, _, _, _, _, _ => none
  | n + 1, m, x1, x2, x3, x4 => (G12_knownBy m).bind fun o1 => if o1.1 ≤ x4 then (some ((b3an x2 (b3xo x3 (-1))), o1.2)) else (gdx x4 24 (if (o1.2 40 x4) = 0 then (gd3 (x4 + 1) (G12_locals_100 n o1.2 x1 x2 x3 (x4 + 1))) else (gdx (3 * x4) 72 (if 0 ≤ (o1.2 39 (3 * x4)) then (gdx (3 * x4) 72 ((G12_beginsFrom o1.2 (o1.2 39 (3 * x4))).bind fun o18 => if 0 ≤ o18.1 then (gdx ((3 * x4) + 1) 72 (gdx ((3 * x4) + 2) 72 ((G12_peakAt o18.2 o18.1).bind fun o29 => (G12_far o29.2 (o18.2 39 ((3 * x4) + 2)) o29.1).bind fun o31 => if o31.1 ≤ x1 then (gd3 (x4 + 1) (G12_locals_100 n o31.2 x1 (b3or x2 (b3sl 1 (b3an (o18.2 39 ((3 * x4) + 1)) 31))) x3 (x4 + 1))) else (gdx ((3 * x4) + 1) 72 (gd3 (x4 + 1) (G12_locals_100 n o31.2 x1 (b3or x2 (b3sl 1 (b3an (o18.2 39 ((3 * x4) + 1)) 31))) (b3or x3 (b3sl 1 (b3an (o31.2 39 ((3 * x4) + 1)) 31))) (x4 + 1))))))) else (gd3 (x4 + 1) (G12_locals_100 n o18.2 x1 x2 x3 (x4 + 1))))) else (gd3 (x4 + 1) (G12_locals_100 n o1.2 x1 x2 x3 (x4 + 1)))))))
/-! What the pure functions do, over a memory of integers (written by wip/gen/gx.py). -/
def G12_locals_47 : Nat → Mem → Int → Int → Option (Int × Mem)
  | 0, _, _, _ => none
  | n + 1, m, x1, x2 => if x2 < 0 then (G12_locals_100 1024 m x1 0 0 0) else (gdx x2 24 (if (m 40 x2) = 0 then (gd3 (x2 + (-1)) (G12_locals_47 n m x1 (x2 + (-1)))) else (gdx (3 * x2) 72 (if 0 ≤ (m 39 (3 * x2)) then (gd3 (x2 + (-1)) (G12_locals_47 n m x1 (x2 + (-1)))) else (gdx ((3 * x2) + 1) 72 (gdx (m 39 ((3 * x2) + 1)) 24 (gdb 0 (wt (up m 40 (m 39 ((3 * x2) + 1)) 0) fun m19 => gd3 (x2 + (-1)) (G12_locals_47 n m19 x1 (x2 + (-1)))))))))))
def G12_locals_19 : Nat → Mem → Int → Int → Option (Int × Mem)
  | 0, _, _, _ => none
  | n + 1, m, x1, x2 => (G12_knownBy m).bind fun o1 => if o1.1 ≤ x2 then ((G12_knownBy o1.2).bind fun o4 => gd3 (o4.1 - 1) (G12_locals_47 1024 o4.2 x1 (o4.1 - 1))) else (gdx x2 24 (gdb 1 (wt (up o1.2 40 x2 1) fun m9 => gd3 (x2 + 1) (G12_locals_19 n m9 x1 (x2 + 1)))))
def G12_locals_0 (m : Mem) (x1 : Int) : Option (Int × Mem) := wt (up m 0 2 0) fun m1 => (G12_isIn m1 x1 0 12).bind fun o3 => if o3.1 = 0 then (some ((-1), o3.2)) else (G12_locals_19 1024 o3.2 x1 0)
def G12_locals (m : Mem) (x1 : Int) : Option (Int × Mem) := G12_locals_0 m x1
def G12_look_0 (m : Mem) (x1 : Int) (x2 : Int) : Option (Int × Mem) := wt (up m 0 2 0) fun m1 => (G12_isSurfer m1 x1).bind fun o3 => if o3.1 = 0 then ((G12_fails o3.2 1).bind fun o46 => some (o46.1, o46.2)) else (if x2 = 0 then (gdx x1 10 (some ((o3.2 25 x1), o3.2))) else (if x2 = 1 then (gdx x1 10 (some ((o3.2 26 x1), o3.2))) else (if x2 = 2 then (gdx x1 10 (some ((o3.2 27 x1), o3.2))) else (if x2 = 3 then (gdx x1 10 (some ((o3.2 28 x1), o3.2))) else (if x2 = 4 then (gdx x1 5 (some ((o3.2 29 x1), o3.2))) else (if x2 = 5 then (gdx x1 10 ((G12_peakAt o3.2 (o3.2 31 0)).bind fun o40 => (G12_far o40.2 (o3.2 25 x1) o40.1).bind fun o42 => some (o42.1, o42.2))) else ((G12_fails o3.2 2).bind fun o44 => some (o44.1, o44.2))))))))
def G12_look (m : Mem) (x1 : Int) (x2 : Int) : Option (Int × Mem) := G12_look_0 m x1 x2
def G12_minutes_94 (m : Mem) (s0 : Int) : Option (Int × Mem) := wt (up m 0 78 s0) fun m1 => some ((m1 31 0), m1)
def G12_minutes_49 (kk33 : Mem → Int → Int → Option (Int × Mem)) : Nat → Mem → Int → Int → Int → Option (Int × Mem)
  | 0, _, _, _, _ => none
  | n + 1, m, x1, x2, x3 => if (m 0 14) ≤ x3 then (gd3 (x2 + 1) (kk33 m x1 (x2 + 1))) else (gdx x3 10 (gdx x3 5 (wt (up m 29 x3 (m 8 x3)) fun m11 => gd3 (x3 + 1) (G12_minutes_49 kk33 n m11 x1 x2 (x3 + 1)))))
def G12_minutes_33 : Nat → Mem → Int → Int → Option (Int × Mem)
  | 0, _, _, _ => none
  | n + 1, m, x1, x2 => if x1 ≤ x2 then (if x1 ≤ 0 then (G12_minutes_94 m (m 0 78)) else (G12_minutes_94 m 0)) else ((G12_aMinute m 0 (m 0 64)).bind fun o7 => G12_minutes_49 (fun m x1 x2 => G12_minutes_33 n m x1 x2) 1024 o7 x1 x2 0)
def G12_minutes_0 (m : Mem) (x1 : Int) : Option (Int × Mem) := wt (up m 0 2 0) fun m1 => (G12_isIn m1 x1 0 99).bind fun o3 => if o3.1 = 0 then (some ((-1), o3.2)) else (gd3 ((o3.2 31 0) + x1) (if ((o3.2 31 0) + x1) ≤ 199 then (G12_minutes_33 1024 o3.2 x1 0) else (some ((-1), o3.2))))
def G12_minutes (m : Mem) (x1 : Int) : Option (Int × Mem) := G12_minutes_0 m x1
def G12_named_0 (m : Mem) (x1 : Int) : Option (Int × Mem) := wt (up m 0 2 0) fun m1 => (G12_find m1 0 (m1 0 14) x1).bind fun o7 => some (o7.1, o7.2)
def G12_named (m : Mem) (x1 : Int) : Option (Int × Mem) := G12_named_0 m x1
def G12_next_7 : Nat → Mem → Int → Option (Int × Mem)
  | 0, _, _ => none
  | n + 1, m, x1 => if (m 0 15) ≤ x1 then (some ((-2), m)) else (gdx x1 8 (gdx (m 11 x1) 56 (if (m 12 (m 11 x1)) < (m 31 0) then (gd3 (x1 + 1) (G12_next_7 n m (x1 + 1))) else (gdx x1 8 (gdx (m 11 x1) 56 (gd3 ((m 12 (m 11 x1)) - (m 31 0)) (some (((m 12 (m 11 x1)) - (m 31 0)), m))))))))
def G12_next_0 (m : Mem) : Option (Int × Mem) := wt (up m 0 2 0) fun m1 => G12_next_7 1024 m1 0
def G12_next (m : Mem) : Option (Int × Mem) := G12_next_0 m
def G12_noted_0 (m : Mem) (x1 : Int) (x2 : Int) (x3 : Int) : Option (Int × Mem) := gdx (3 * (m 0 74)) 72 (wt (up m 39 (3 * (m 0 74)) x1) fun m6 => gdx ((3 * (m6 0 74)) + 1) 72 (wt (up m6 39 ((3 * (m6 0 74)) + 1) x2) fun m12 => gdx ((3 * (m12 0 74)) + 2) 72 (wt (up m12 39 ((3 * (m12 0 74)) + 2) x3) fun m18 => gd3 ((m18 0 74) + 1) (wt (up m18 0 74 ((m18 0 74) + 1)) fun m21 => gd3 ((m21 0 74) - 1) (some (((m21 0 74) - 1), m21))))))
def G12_noted (m : Mem) (x1 : Int) (x2 : Int) (x3 : Int) : Option (Int × Mem) := G12_noted_0 m x1 x2 x3
def G12_note_0 (m : Mem) (x1 : Int) (x2 : Int) (x3 : Int) : Option (Int × Mem) := wt (up m 0 2 0) fun m1 => if (m1 0 74) = 24 then (some ((-1), m1)) else ((G12_isIn m1 x1 0 199).bind fun o6 => if o6.1 = 0 then (some ((-1), o6.2)) else ((G12_isSurfer o6.2 x2).bind fun o9 => if o9.1 = 0 then (some ((-1), o9.2)) else ((G12_isCell o9.2 x3).bind fun o12 => if o12.1 = 0 then (some ((-1), o12.2)) else ((G12_noted o12.2 x1 x2 x3).bind fun o15 => some (o15.1, o15.2)))))
def G12_note (m : Mem) (x1 : Int) (x2 : Int) (x3 : Int) : Option (Int × Mem) := G12_note_0 m x1 x2 x3
def G12_odds_0 (m : Mem) (x1 : Int) (x2 : Int) (x3 : Int) : Option (Int × Mem) := wt (up m 0 2 0) fun m1 => (G12_isSurfer m1 x1).bind fun o3 => if o3.1 = 0 then (some ((-1), o3.2)) else ((G12_isWave o3.2 x2).bind fun o6 => if o6.1 = 0 then (some ((-1), o6.2)) else ((G12_isCell o6.2 x3).bind fun o9 => if o9.1 = 0 then (some ((-1), o9.2)) else ((G12_oddsOf o9.2 x1 x2 x3).bind fun o12 => some (o12.1, o12.2))))
def G12_odds (m : Mem) (x1 : Int) (x2 : Int) (x3 : Int) : Option (Int × Mem) := G12_odds_0 m x1 x2 x3
def G12_order_0 (m : Mem) (x1 : Int) (x2 : Int) : Option (Int × Mem) := wt (up m 0 2 0) fun m1 => (G12_isToCome m1 x1).bind fun o3 => if o3.1 = 0 then (some ((-1), o3.2)) else (if 0 ≤ x2 then ((G12_layOrder o3.2 0 x1 (o3.2 0 64)).bind fun o9 => if x2 < (o9 0 69) then (gdx x2 5 (some ((o9 34 x2), o9))) else (some ((-2), o9))) else (some ((-1), o3.2)))
def G12_order (m : Mem) (x1 : Int) (x2 : Int) : Option (Int × Mem) := G12_order_0 m x1 x2
def G12_over_87 (kk50 : Mem → Int → Int → Int → Option (Int × Mem)) (m : Mem) (x1 : Int) (x2 : Int) (x3 : Int) (s0 : Int) : Option (Int × Mem) := gdx x1 10 ((G12_seatFrom m x1 (m 25 x1) x3).bind fun o9 => gd3 ((100 * (m 4 4)) * s0) (if ((100 * (m 4 4)) * s0) ≤ o9.1 then (gd3 (x3 + 1) (kk50 o9.2 x1 x2 (x3 + 1))) else (some (x3, o9.2))))
def G12_over_50 : Nat → Mem → Int → Int → Int → Option (Int × Mem)
  | 0, _, _, _, _ => none
  | n + 1, m, x1, x2, x3 => if x2 < x3 then (some ((-2), m)) else (gd3 ((x2 - x3) - (m 4 2)) (if 0 ≤ ((x2 - x3) - (m 4 2)) then (if (m 4 3) = 0 then (none) else (gd3 ((x2 - x3) - (m 4 2)) (gdd ((x2 - x3) - (m 4 2)) (m 4 3) (gd3 ((((x2 - x3) - (m 4 2)) / (m 4 3)) + 1) (G12_over_87 (fun m x1 x2 x3 => G12_over_50 n m x1 x2 x3) m x1 x2 x3 ((((x2 - x3) - (m 4 2)) / (m 4 3)) + 1)))))) else (G12_over_87 (fun m x1 x2 x3 => G12_over_50 n m x1 x2 x3) m x1 x2 x3 0)))
def G12_over_0 (m : Mem) (x1 : Int) : Option (Int × Mem) := wt (up m 0 2 0) fun m1 => (G12_isSurfer m1 x1).bind fun o3 => if o3.1 = 0 then (some ((-1), o3.2)) else (if (o3.2 4 2) = 0 then (some ((-1), o3.2)) else (if (o3.2 0 16) = 0 then (some ((-1), o3.2)) else (gdx ((o3.2 0 16) - 1) 56 (G12_over_50 1024 o3.2 x1 (o3.2 12 ((o3.2 0 16) - 1)) (o3.2 31 0)))))
def G12_over (m : Mem) (x1 : Int) : Option (Int × Mem) := G12_over_0 m x1
def G12_peak_0 (m : Mem) (x1 : Int) : Option (Int × Mem) := wt (up m 0 2 0) fun m1 => (G12_isIn m1 x1 0 199).bind fun o3 => if o3.1 = 0 then (some ((-1), o3.2)) else ((G12_peakAt o3.2 x1).bind fun o6 => some (o6.1, o6.2))
def G12_peak (m : Mem) (x1 : Int) : Option (Int × Mem) := G12_peak_0 m x1
def G12_plan_0 (m : Mem) (x1 : Int) : Option (Int × Mem) := wt (up m 0 2 0) fun m1 => (G12_isSurfer m1 x1).bind fun o3 => if o3.1 = 0 then (some ((-1), o3.2)) else ((G12_layPlan o3.2 x1).bind fun o6 => (G12_firstToCome o6).bind fun o10 => gdx o10.1 29 (some ((o10.2 37 o10.1), o10.2)))
def G12_plan (m : Mem) (x1 : Int) : Option (Int × Mem) := G12_plan_0 m x1
def G12_planned_109 (kk32 : Mem → Int → Int → Int → Option (Int × Mem)) (m : Mem) (x1 : Int) (x4 : Int) (x5 : Int) (s0 : Int) (s1 : Int) : Option (Int × Mem) := if x5 = 0 then (gd3 (s1 - s0) (gd3 (x4 + 1) (kk32 m x1 (s1 - s0) (x4 + 1)))) else (gdx x4 28 (gd3 (s1 - s0) (kk32 m x1 (s1 - s0) (m 38 x4))))
def G12_planned_98 (kk32 : Mem → Int → Int → Int → Option (Int × Mem)) (m : Mem) (x1 : Int) (x3 : Int) (x4 : Int) (x5 : Int) : Option (Int × Mem) := if x5 = 0 then (G12_planned_109 kk32 m x1 x4 x5 0 x3) else (G12_planned_109 kk32 m x1 x4 x5 1 x3)
def G12_planned_84 (kk32 : Mem → Int → Int → Int → Option (Int × Mem)) (m : Mem) (x1 : Int) (x3 : Int) (x4 : Int) (s0 : Int) : Option (Int × Mem) := if s0 = 0 then (G12_planned_98 kk32 m x1 x3 x4 s0) else (if x3 = 0 then (some (x4, m)) else (G12_planned_98 kk32 m x1 x3 x4 s0))
def G12_planned_32 : Nat → Mem → Int → Int → Int → Option (Int × Mem)
  | 0, _, _, _, _ => none
  | n + 1, m, x1, x3, x4 => if (m 0 16) ≤ x4 then (some ((-2), m)) else (gdx x1 10 ((G12_gainOf m x1 x4 (m 25 x1)).bind fun o8 => gdx x4 28 (gdx (o8.2 38 x4) 29 (gdx (x4 + 1) 29 (gd3 (o8.1 + (o8.2 37 (o8.2 38 x4))) (if (o8.1 + (o8.2 37 (o8.2 38 x4))) < (o8.2 37 (x4 + 1)) then (G12_planned_84 (fun m x1 x3 x4 => G12_planned_32 n m x1 x3 x4) o8.2 x1 x3 x4 0) else (G12_planned_84 (fun m x1 x3 x4 => G12_planned_32 n m x1 x3 x4) o8.2 x1 x3 x4 1)))))))
def G12_planned_0 (m : Mem) (x1 : Int) (x2 : Int) : Option (Int × Mem) := wt (up m 0 2 0) fun m1 => (G12_isSurfer m1 x1).bind fun o3 => if o3.1 = 0 then (some ((-1), o3.2)) else (if 0 ≤ x2 then ((G12_layPlan o3.2 x1).bind fun o7 => (G12_firstToCome o7).bind fun o9 => G12_planned_32 1024 o9.2 x1 x2 o9.1) else (some ((-1), o3.2)))
def G12_planned (m : Mem) (x1 : Int) (x2 : Int) : Option (Int × Mem) := G12_planned_0 m x1 x2
def G12_setEnd_0 (m : Mem) (x1 : Int) : Option (Int × Mem) := gd3 (x1 + 1) (if (m 0 15) ≤ (x1 + 1) then (some ((m 0 16), m)) else (gdx (x1 + 1) 8 (some ((m 11 (x1 + 1)), m))))
def G12_setEnd (m : Mem) (x1 : Int) : Option (Int × Mem) := G12_setEnd_0 m x1
def G12_rank__79 (kk34 : Mem → Int → Int → Int → Int → Int → Option (Int × Mem)) : Nat → Mem → Int → Int → Int → Int → Int → Int → Int → Option (Int × Mem)
  | 0, _, _, _, _, _, _, _, _ => none
  | n + 1, m, x1, x2, x3, x4, x5, x6, x7 => (G12_setEnd m x5).bind fun o1 => if o1.1 ≤ x7 then (gdx x5 8 (gdx (((o1.2 11 x5) + x1) - 1) 56 (if (o1.2 13 (((o1.2 11 x5) + x1) - 1)) = x6 then (gd3 (x4 + 1) (gd3 (x5 + 1) (kk34 o1.2 x1 x2 x3 (x4 + 1) (x5 + 1)))) else (gd3 (x4 + 0) (gd3 (x5 + 1) (kk34 o1.2 x1 x2 x3 (x4 + 0) (x5 + 1))))))) else (gdx x7 56 (if (o1.2 13 x7) ≤ x6 then (gd3 (x7 + 1) (G12_rank__79 kk34 n o1.2 x1 x2 x3 x4 x5 x6 (x7 + 1))) else (gdx x7 56 (gd3 (x7 + 1) (G12_rank__79 kk34 n o1.2 x1 x2 x3 x4 x5 (o1.2 13 x7) (x7 + 1))))))
def G12_rank__34 : Nat → Mem → Int → Int → Int → Int → Int → Option (Int × Mem)
  | 0, _, _, _, _, _, _ => none
  | n + 1, m, x1, x2, x3, x4, x5 => if (m 0 15) ≤ x5 then (if x2 = 0 then (some (x4, m)) else (some (x3, m))) else ((G12_setEnd m x5).bind fun o5 => gdx x5 8 (gd3 (o5.1 - (o5.2 11 x5)) (if x1 ≤ (o5.1 - (o5.2 11 x5)) then (gdx x5 8 (gd3 (x3 + 1) (G12_rank__79 (fun m x1 x2 x3 x4 x5 => G12_rank__34 n m x1 x2 x3 x4 x5) 1024 o5.2 x1 x2 (x3 + 1) x4 x5 0 (o5.2 11 x5)))) else (gd3 (x5 + 1) (G12_rank__34 n o5.2 x1 x2 x3 x4 (x5 + 1))))))
def G12_rank__0 (m : Mem) (x1 : Int) (x2 : Int) : Option (Int × Mem) := wt (up m 0 2 0) fun m1 => (G12_isIn m1 x1 1 7).bind fun o3 => if o3.1 = 0 then (some ((-1), o3.2)) else ((G12_isIn o3.2 x2 0 1).bind fun o6 => if o6.1 = 0 then (some ((-1), o6.2)) else (G12_rank__34 1024 o6.2 x1 x2 0 0 0))
def G12_rank_ (m : Mem) (x1 : Int) (x2 : Int) : Option (Int × Mem) := G12_rank__0 m x1 x2
def G12_remember_51 : Nat → Mem → Int → Option Mem
  | 0, _, _ => none
  | n + 1, m, x1 => if 5 ≤ x1 then (gdx ((11 * (m 0 78)) + 10) 220 (wt (up m 41 ((11 * (m 0 78)) + 10) (m 0 64)) fun m9 => gd3 ((m9 0 78) + 1) (wt (up m9 0 78 ((m9 0 78) + 1)) fun m12 => some m12))) else (gdx x1 10 (gdx ((11 * (m 0 78)) + x1) 220 (wt (up m 41 ((11 * (m 0 78)) + x1) (m 25 x1)) fun m23 => gdx x1 5 (gdx (((11 * (m23 0 78)) + 5) + x1) 220 (wt (up m23 41 (((11 * (m23 0 78)) + 5) + x1) (m23 29 x1)) fun m33 => gd3 (x1 + 1) (G12_remember_51 n m33 (x1 + 1)))))))
def G12_remember_11 : Nat → Mem → Int → Option Mem
  | 0, _, _ => none
  | n + 1, m, x1 => if 209 ≤ x1 then (gd3 ((m 0 78) - 1) (wt (up m 0 78 ((m 0 78) - 1)) fun m4 => G12_remember_51 1024 m4 0)) else (gdx (x1 + 11) 220 (gdx x1 220 (wt (up m 41 x1 (m 41 (x1 + 11))) fun m13 => gd3 (x1 + 1) (G12_remember_11 n m13 (x1 + 1)))))
def G12_remember_0 (m : Mem) : Option Mem := if (m 0 78) = 20 then (G12_remember_11 1024 m 0) else (G12_remember_51 1024 m 0)
def G12_remember (m : Mem) : Option Mem := G12_remember_0 m
def G12_restAt_12 : Nat → Mem → Int → Int → Int → Option (Int × Mem)
  | 0, _, _, _, _ => none
  | n + 1, m, x3, x4, x5 => if 25 ≤ x5 then (if 0 ≤ x3 then (some ((-2), m)) else (some (x4, m))) else ((G12_isRest m x5).bind fun o3 => if o3.1 = 0 then (gd3 (x5 + 1) (G12_restAt_12 n o3.2 x3 x4 (x5 + 1))) else (if x4 = x3 then (gdd x5 5 ((G12_wayAt o3.2 (x5 / 5)).bind fun o7 => gdd x5 5 ((G12_wayAt o7.2 (x5 % 5)).bind fun o9 => gd3 ((10 * o7.1) + o9.1) (some (((10 * o7.1) + o9.1), o9.2))))) else (gd3 (x4 + 1) (gd3 (x5 + 1) (G12_restAt_12 n o3.2 x3 (x4 + 1) (x5 + 1))))))
def G12_restAt_0 (m : Mem) (x1 : Int) (x2 : Int) (x3 : Int) : Option (Int × Mem) := (G12_layGame m x1 x2).bind fun o1 => G12_restAt_12 1024 o1 x3 0 0
def G12_restAt (m : Mem) (x1 : Int) (x2 : Int) (x3 : Int) : Option (Int × Mem) := G12_restAt_0 m x1 x2 x3
def G12_rest_0 (m : Mem) (x1 : Int) (x2 : Int) (x3 : Int) : Option (Int × Mem) := wt (up m 0 2 0) fun m1 => (G12_isSurfer m1 x1).bind fun o3 => if o3.1 = 0 then (some ((-1), o3.2)) else ((G12_isSurfer o3.2 x2).bind fun o6 => if o6.1 = 0 then (some ((-1), o6.2)) else (if x1 = x2 then (some ((-1), o6.2)) else (if x3 < 0 then (some ((-1), o6.2)) else ((G12_restAt o6.2 x1 x2 x3).bind fun o11 => some (o11.1, o11.2)))))
def G12_rest (m : Mem) (x1 : Int) (x2 : Int) (x3 : Int) : Option (Int × Mem) := G12_rest_0 m x1 x2 x3
def G12_rests_0 (m : Mem) (x1 : Int) (x2 : Int) : Option (Int × Mem) := wt (up m 0 2 0) fun m1 => (G12_isSurfer m1 x1).bind fun o3 => if o3.1 = 0 then (some ((-1), o3.2)) else ((G12_isSurfer o3.2 x2).bind fun o6 => if o6.1 = 0 then (some ((-1), o6.2)) else (if x1 = x2 then (some ((-1), o6.2)) else ((G12_restAt o6.2 x1 x2 (-1)).bind fun o10 => some (o10.1, o10.2))))
def G12_rests (m : Mem) (x1 : Int) (x2 : Int) : Option (Int × Mem) := G12_rests_0 m x1 x2
def G12_rule_0 (m : Mem) (x1 : Int) : Option (Int × Mem) := wt (up m 0 2 0) fun m1 => (G12_isIn m1 x1 0 3).bind fun o3 => if o3.1 = 0 then (some (0, o3.2)) else (if x1 = (o3.2 0 64) then (some (0, o3.2)) else ((G12_remember o3.2).bind fun o9 => wt (up o9 0 64 x1) fun m11 => some (1, m11)))
def G12_rule (m : Mem) (x1 : Int) : Option (Int × Mem) := G12_rule_0 m x1
def G12_seat_0 (m : Mem) (x1 : Int) (x2 : Int) : Option (Int × Mem) := wt (up m 0 2 0) fun m1 => (G12_isSurfer m1 x1).bind fun o3 => if o3.1 = 0 then (some ((-1), o3.2)) else ((G12_isCell o3.2 x2).bind fun o6 => if o6.1 = 0 then (some ((-1), o6.2)) else ((G12_seatFrom o6.2 x1 x2 (o6.2 31 0)).bind fun o13 => some (o13.1, o13.2)))
def G12_seat (m : Mem) (x1 : Int) (x2 : Int) : Option (Int × Mem) := G12_seat_0 m x1 x2
def G12_shares_0 (m : Mem) (x1 : Int) : Option (Int × Mem) := wt (up m 0 2 0) fun m1 => if (m1 0 14) = 0 then (some ((-1), m1)) else ((G12_isIn m1 x1 0 1).bind fun o6 => if o6.1 = 0 then (some ((-1), o6.2)) else (if x1 = 0 then ((G12_unlike o6.2 0).bind fun o12 => some (o12.1, o12.2)) else ((G12_allHad o6.2 0).bind fun o10 => some (o10.1, o10.2))))
def G12_shares (m : Mem) (x1 : Int) : Option (Int × Mem) := G12_shares_0 m x1
def G12_strike_0 (m : Mem) (x1 : Int) : Option (Int × Mem) := wt (up m 0 2 0) fun m1 => if (m1 0 74) = 24 then (some ((-1), m1)) else (if x1 < 0 then (some ((-1), m1)) else (if x1 < (m1 0 74) then ((G12_noted m1 (-1) x1 0).bind fun o10 => some (o10.1, o10.2)) else (some ((-1), m1))))
def G12_strike (m : Mem) (x1 : Int) : Option (Int × Mem) := G12_strike_0 m x1
def G12_stroke_0 (m : Mem) (x1 : Int) (x2 : Int) : Option (Int × Mem) := wt (up m 0 2 0) fun m1 => (G12_isSurfer m1 x1).bind fun o3 => if o3.1 = 0 then (some ((-1), o3.2)) else ((G12_isIn o3.2 x2 0 3).bind fun o6 => if o6.1 = 0 then (some ((-1), o6.2)) else (gdx x1 10 ((G12_beside o6.2 (o6.2 25 x1) x2).bind fun o13 => if o13.1 < 0 then (some ((-2), o13.2)) else (gdx x1 10 (if 0 < (o13.2 28 x1) then (some ((-2), o13.2)) else (gdx x1 5 (if (o13.2 29 x1) = 0 then (some ((-2), o13.2)) else ((G12_remember o13.2).bind fun o26 => gdx x1 10 (wt (up o26 25 x1 o13.1) fun m31 => gdx x1 5 (gdx x1 5 (gd3 ((m31 29 x1) - 1) (wt (up m31 29 x1 ((m31 29 x1) - 1)) fun m37 => some (o13.1, m37)))))))))))))
def G12_stroke (m : Mem) (x1 : Int) (x2 : Int) : Option (Int × Mem) := G12_stroke_0 m x1 x2
def G12_table_43 (m : Mem) (x1 : Int) (x2 : Int) (x3 : Int) : Option (Int × Mem) := (G12_run m x1 x2).bind fun o1 => if 5 ≤ x3 then (if x3 = 5 then (some ((o1 32 1), o1)) else (if x3 = 6 then (some ((o1 33 1), o1)) else ((G12_unlike o1 1).bind fun o6 => some (o6.1, o6.2)))) else (gdx (5 + x3) 10 (some ((o1 26 (5 + x3)), o1)))
def G12_table_0 (m : Mem) (x1 : Int) (x2 : Int) (x3 : Int) : Option (Int × Mem) := wt (up m 0 2 0) fun m1 => (G12_isIn m1 x1 0 3).bind fun o3 => if o3.1 = 0 then (some ((-1), o3.2)) else (if x2 < 0 then (some ((-1), o3.2)) else ((G12_isIn o3.2 x3 0 7).bind fun o7 => if o7.1 = 0 then (some ((-1), o7.2)) else (if 5 ≤ x3 then (G12_table_43 o7.2 x1 x2 x3) else (if x3 < (o7.2 0 14) then (G12_table_43 o7.2 x1 x2 x3) else (some ((-1), o7.2))))))
def G12_table (m : Mem) (x1 : Int) (x2 : Int) (x3 : Int) : Option (Int × Mem) := G12_table_0 m x1 x2 x3
def G12_text_55 : Nat → Mem → Int → Option (Int × Mem)
  | 0, _, _ => none
  | n + 1, m, x2 => if (m 0 8) = 0 then ((G12_keepText m).bind fun o4 => some (x2, o4)) else ((G12_lineRead m).bind fun o6 => if o6.1 = 0 then (some ((-1), o6.2)) else (gd3 (x2 + 1) (G12_text_55 n o6.2 (x2 + 1))))
def G12_text_0 (m : Mem) (x1 : Int) : Option (Int × Mem) := wt (up m 0 2 0) fun m1 => if x1 < 0 then (some ((-2), m1)) else (if x1 ≤ (m1 0 1) then (wt (up m1 0 6 x1) fun m7 => wt (up m7 0 1 0) fun m9 => wt (up m9 0 4 0) fun m11 => wt (up m11 0 5 (-1)) fun m13 => wt (up m13 0 7 0) fun m15 => (G12_plain m15).bind fun o17 => (G12_token o17).bind fun o19 => G12_text_55 1024 o19 0) else (some ((-2), m1)))
def G12_text (m : Mem) (x1 : Int) : Option (Int × Mem) := G12_text_0 m x1
def G12_tried_111 (m : Mem) (j4 : Int) : Option (Int × Mem) := (G12_goesOn m (m 0 64)).bind fun o3 => wt (up o3 0 66 (-1)) fun m5 => wt (up m5 0 65 j4) fun m7 => (G12_allHad m7 1).bind fun o9 => some (o9.1, o9.2)
def G12_tried_76 : Nat → Mem → Int → Int → Int → Int → Option (Int × Mem)
  | 0, _, _, _, _, _ => none
  | n + 1, m, x1, x2, j4, x6 => if (m 0 14) ≤ x6 then (G12_tried_111 m j4) else (if x1 = 4 then (gdx x2 10 (gdx (5 + x6) 10 (wt (up m 25 (5 + x6) (m 25 x2)) fun m12 => gd3 (x6 + 1) (G12_tried_76 n m12 x1 x2 j4 (x6 + 1))))) else (G12_tried_111 m j4))
def G12_tried_47 (m : Mem) (x1 : Int) (x2 : Int) (x3 : Int) : Option (Int × Mem) := wt (up m 0 65 x3) fun m3 => (G12_layTried m3).bind fun o5 => wt (up o5 0 66 x1) fun m7 => wt (up m7 0 67 x2) fun m9 => G12_tried_76 1024 m9 x1 x2 (m 0 65) 0
def G12_tried_30 (m : Mem) (x1 : Int) (x2 : Int) (x3 : Int) : Option (Int × Mem) := (G12_isSurfer m x2).bind fun o1 => if o1.1 = 0 then (some ((-1), o1.2)) else (G12_tried_47 o1.2 x1 x2 x3)
def G12_tried_0 (m : Mem) (x1 : Int) (x2 : Int) (x3 : Int) : Option (Int × Mem) := wt (up m 0 2 0) fun m1 => (G12_isIn m1 x1 0 4).bind fun o3 => if o3.1 = 0 then (some ((-1), o3.2)) else (if 0 ≤ x3 then (if x1 = 1 then (G12_tried_30 o3.2 x1 x2 x3) else (if x1 = 4 then (G12_tried_30 o3.2 x1 x2 x3) else (if x2 = 0 then (G12_tried_47 o3.2 x1 x2 x3) else (some ((-1), o3.2))))) else (some ((-1), o3.2)))
def G12_tried (m : Mem) (x1 : Int) (x2 : Int) (x3 : Int) : Option (Int × Mem) := G12_tried_0 m x1 x2 x3
def G12_undo_26 : Nat → Mem → Int → Option (Int × Mem)
  | 0, _, _ => none
  | n + 1, m, x1 => if 5 ≤ x1 then (gdx ((11 * (m 0 78)) + 10) 220 (wt (up m 0 64 (m 41 ((11 * (m 0 78)) + 10))) fun m8 => some ((m8 0 78), m8))) else (gdx ((11 * (m 0 78)) + x1) 220 (gdx x1 10 (wt (up m 25 x1 (m 41 ((11 * (m 0 78)) + x1))) fun m21 => gdx (((11 * (m21 0 78)) + 5) + x1) 220 (gdx x1 5 (wt (up m21 29 x1 (m21 41 (((11 * (m21 0 78)) + 5) + x1))) fun m31 => gd3 (x1 + 1) (G12_undo_26 n m31 (x1 + 1)))))))
def G12_undo_0 (m : Mem) : Option (Int × Mem) := wt (up m 0 2 0) fun m1 => if (m1 0 78) = 0 then (some ((-1), m1)) else (gd3 ((m1 0 78) - 1) (wt (up m1 0 78 ((m1 0 78) - 1)) fun m8 => G12_undo_26 1024 m8 0))
def G12_undo (m : Mem) : Option (Int × Mem) := G12_undo_0 m
def G12_wave_0 (m : Mem) (x1 : Int) (x2 : Int) : Option (Int × Mem) := wt (up m 0 2 0) fun m1 => (G12_isWave m1 x1).bind fun o3 => if o3.1 = 0 then (some ((-4), o3.2)) else (if x2 = 0 then (gdx x1 56 (some ((o3.2 12 x1), o3.2))) else (if x2 = 1 then (gdx x1 56 (some ((o3.2 13 x1), o3.2))) else (if x2 = 2 then (gdx x1 56 (some ((o3.2 14 x1), o3.2))) else (if x2 = 3 then (gdx x1 56 (gdx (o3.2 14 x1) 8 (gd3 ((x1 - (o3.2 11 (o3.2 14 x1))) + 1) (some (((x1 - (o3.2 11 (o3.2 14 x1))) + 1), o3.2))))) else (if x2 = 4 then (gdx x1 56 (some ((o3.2 30 x1), o3.2))) else (some ((-4), o3.2)))))))
def G12_wave (m : Mem) (x1 : Int) (x2 : Int) : Option (Int × Mem) := G12_wave_0 m x1 x2
