/-! What the pure functions do, over a memory of integers (written by wip/gen/gx.py). -/
def G5_readAll (m : Mem) (x2 : Int) (a3 : Nat) : Option (Int × Mem) := G5_readAll_0 m x2 a3
def G6_awayValue_0 (m : Mem) (a0 : Nat) (x1 : Int) (x2 : Int) : Option (Int × Mem) := (G6_nameAway m a0 x1 x2).bind fun o1 => (G2_valueFor o1 ((o1 a0 0).toNat + 20) (a0 + 4) (a0 + 5)).bind fun o13 => some (o13.1, o13.2)
def G6_awayValue (m : Mem) (a0 : Nat) (x1 : Int) (x2 : Int) : Option (Int × Mem) := G6_awayValue_0 m a0 x1 x2
def G6_hadOfSet_3 : Nat → Mem → Nat → Nat → Int → Int → Int → Option (Int × Mem)
  | 0, _, _, _, _, _, _ => none
  | n + 1, m, a0, a1, x2, x3, x4 => if (m ((m a0 0).toNat + 8) 1) ≤ x4 then (some (0, m)) else (gdx x4 28 (if (m ((m a0 0).toNat + 13) x4) = x3 then (gdx x4 28 (if (m (a1 + 6) x4) = x2 then (some (1, m)) else (gd3 (x4 + 1) (G6_hadOfSet_3 n m a0 a1 x2 x3 (x4 + 1))))) else (gd3 (x4 + 1) (G6_hadOfSet_3 n m a0 a1 x2 x3 (x4 + 1)))))
def G6_hadOfSet_0 (m : Mem) (a0 : Nat) (a1 : Nat) (x2 : Int) (x3 : Int) : Option (Int × Mem) := G6_hadOfSet_3 1024 m a0 a1 x2 x3 0
def G6_hadOfSet (m : Mem) (a0 : Nat) (a1 : Nat) (x2 : Int) (x3 : Int) : Option (Int × Mem) := G6_hadOfSet_0 m a0 a1 x2 x3
def G6_keyFor_0 (m : Mem) (a0 : Nat) (a1 : Nat) (x2 : Int) (x3 : Int) : Option (Int × Mem) := gdx x2 5 ((G6_farOf m a0 (m (a1 + 1) x2) x3).bind fun o5 => if (o5.2 a1 1) = 1 then (gdx x2 5 (some ((o5.2 (a1 + 2) x2), o5.2))) else (if (o5.2 a1 1) = 2 then (gdx x3 28 ((G6_hadOfSet o5.2 a0 a1 x2 (o5.2 ((o5.2 a0 0).toNat + 13) x3)).bind fun o23 => if o23.1 = 0 then (some (o5.1, o23.2)) else (gd3 (100 + o5.1) (some ((100 + o5.1), o23.2))))) else (if (o5.2 a1 1) = 3 then (gdx x2 5 ((G8_rowOf o5.2 ((o5.2 a0 0).toNat) (o5.2 (a1 + 1) x2)).bind fun o33 => gd3 (-o33.1) (some ((-o33.1), o33.2)))) else (some (o5.1, o5.2)))))
def G6_keyFor (m : Mem) (a0 : Nat) (a1 : Nat) (x2 : Int) (x3 : Int) : Option (Int × Mem) := G6_keyFor_0 m a0 a1 x2 x3
def G6_putInLine_48 (m : Mem) (a0 : Nat) (x1 : Int) (x3 : Int) : Option Mem := gdx x3 5 (wt (up m (a0 + 6) x3 x1) fun m4 => some m4)
def G6_putInLine_2 : Nat → Mem → Nat → Int → Int → Option Mem
  | 0, _, _, _, _ => none
  | n + 1, m, a0, x1, x3 => if x3 ≤ 0 then (G6_putInLine_48 m a0 x1 x3) else (gdx (x3 - 1) 5 (gdx (m (a0 + 6) (x3 - 1)) 5 (gdx x1 5 (if (m (a0 + 8) (m (a0 + 6) (x3 - 1))) ≤ (m (a0 + 8) x1) then (G6_putInLine_48 m a0 x1 x3) else (gdx (x3 - 1) 5 (gdx x3 5 (wt (up m (a0 + 6) x3 (m (a0 + 6) (x3 - 1))) fun m22 => gd3 (x3 + (-1)) (G6_putInLine_2 n m22 a0 x1 (x3 + (-1))))))))))
def G6_putInLine_0 (m : Mem) (a0 : Nat) (x1 : Int) (x2 : Int) : Option Mem := G6_putInLine_2 1024 m a0 x1 x2
def G6_putInLine (m : Mem) (a0 : Nat) (x1 : Int) (x2 : Int) : Option Mem := G6_putInLine_0 m a0 x1 x2
def G6_lineUp_6 : Nat → Mem → Nat → Nat → Int → Int → Int → Int → Option (Int × Mem)
  | 0, _, _, _, _, _, _, _ => none
  | n + 1, m, a0, a1, x2, x3, x4, x5 => if (m ((m a0 0).toNat + 1) 0) ≤ x5 then (some (x4, m)) else ((G4_isIn m a1 x5 x3).bind fun o8 => if o8.1 = 0 then (gd3 (x5 + 1) (G6_lineUp_6 n o8.2 a0 a1 x2 x3 x4 (x5 + 1))) else (gdx x5 5 ((G6_oddsAt o8.2 a0 x5 x2 (o8.2 (a1 + 1) x5)).bind fun o17 => gdx x5 5 (wt (up o17.2 (a0 + 7) x5 o17.1) fun m20 => gdx x5 5 (if (m20 (a0 + 7) x5) ≤ 0 then (gd3 (x5 + 1) (G6_lineUp_6 n m20 a0 a1 x2 x3 x4 (x5 + 1))) else ((G6_keyFor m20 a0 a1 x5 x2).bind fun o28 => gdx x5 5 (wt (up o28.2 (a0 + 8) x5 o28.1) fun m31 => (G6_putInLine m31 a0 x5 x4).bind fun o32 => gd3 (x4 + 1) (gd3 (x5 + 1) (G6_lineUp_6 n o32 a0 a1 x2 x3 (x4 + 1) (x5 + 1))))))))))
def G6_lineUp_0 (m : Mem) (a0 : Nat) (a1 : Nat) (x2 : Int) (x3 : Int) : Option (Int × Mem) := G6_lineUp_6 1024 m a0 a1 x2 x3 0 0
def G6_lineUp (m : Mem) (a0 : Nat) (a1 : Nat) (x2 : Int) (x3 : Int) : Option (Int × Mem) := G6_lineUp_0 m a0 a1 x2 x3
def G6_placeOfRider_2 : Nat → Mem → Nat → Nat → Int → Int → Option (Int × Mem)
  | 0, _, _, _, _, _ => none
  | n + 1, m, a0, a1, x2, x3 => if x2 ≤ x3 then (some ((-1), m)) else ((G4_drawHundredth m a1).bind fun o2 => gdx x3 5 (gdx (o2.2 (a0 + 6) x3) 5 (if (o2.2 (a0 + 7) (o2.2 (a0 + 6) x3)) ≤ o2.1 then (gd3 (x3 + 1) (G6_placeOfRider_2 n o2.2 a0 a1 x2 (x3 + 1))) else (some (x3, o2.2)))))
def G6_placeOfRider_0 (m : Mem) (a0 : Nat) (a1 : Nat) (x2 : Int) : Option (Int × Mem) := G6_placeOfRider_2 1024 m a0 a1 x2 0
def G6_placeOfRider (m : Mem) (a0 : Nat) (a1 : Nat) (x2 : Int) : Option (Int × Mem) := G6_placeOfRider_0 m a0 a1 x2
def G6_crosserBehind_5 : Nat → Mem → Nat → Nat → Int → Int → Option (Int × Mem)
  | 0, _, _, _, _, _ => none
  | n + 1, m, a0, a1, x3, x4 => if x3 ≤ x4 then (some ((-1), m)) else (gdx x4 5 (gdx (m (a0 + 6) x4) 5 (if (m (a0 + 2) (m (a0 + 6) x4)) ≤ 0 then (gd3 (x4 + 1) (G6_crosserBehind_5 n m a0 a1 x3 (x4 + 1))) else ((G4_drawHundredth m a1).bind fun o11 => if (m (a0 + 2) (m (a0 + 6) x4)) ≤ o11.1 then (gd3 (x4 + 1) (G6_crosserBehind_5 n o11.2 a0 a1 x3 (x4 + 1))) else (gdx x4 5 (some ((o11.2 (a0 + 6) x4), o11.2)))))))
def G6_crosserBehind_0 (m : Mem) (a0 : Nat) (a1 : Nat) (x2 : Int) (x3 : Int) : Option (Int × Mem) := gd3 (x2 + 1) (G6_crosserBehind_5 1024 m a0 a1 x3 (x2 + 1))
def G6_crosserBehind (m : Mem) (a0 : Nat) (a1 : Nat) (x2 : Int) (x3 : Int) : Option (Int × Mem) := G6_crosserBehind_0 m a0 a1 x2 x3
def G6_sendAway_0 (m : Mem) (a0 : Nat) (a1 : Nat) (x2 : Int) (x3 : Int) (x4 : Int) : Option Mem := gdx x3 28 ((G6_awayFor m a0 x2 x3).bind fun o11 => gdx x2 5 (gd3 ((m ((m a0 0).toNat + 11) x3) + (x4 * o11.1)) (wt (up o11.2 (a1 + 4) x2 ((m ((m a0 0).toNat + 11) x3) + (x4 * o11.1))) fun m14 => some m14)))
def G6_sendAway (m : Mem) (a0 : Nat) (a1 : Nat) (x2 : Int) (x3 : Int) (x4 : Int) : Option Mem := G6_sendAway_0 m a0 a1 x2 x3 x4
def G6_bringWave_0 (m : Mem) (a0 : Nat) (a1 : Nat) (x2 : Int) : Option Mem := gdx x2 28 ((G6_lineUp m a0 a1 x2 (m ((m a0 0).toNat + 11) x2)).bind fun o9 => (G6_placeOfRider o9.2 a0 a1 o9.1).bind fun o11 => if o11.1 = (-1) then (gdx x2 28 (wt (up o11.2 (a1 + 6) x2 (-1)) fun m60 => gd3 ((m60 a1 4) + 1) (wt (up m60 a1 4 ((m60 a1 4) + 1)) fun m63 => some m63))) else (gdx o11.1 5 ((G6_crosserBehind o11.2 a0 a1 o11.1 o9.1).bind fun o18 => if o18.1 = (-1) then (gdx x2 28 (wt (up o18.2 (a1 + 6) x2 (o11.2 (a0 + 6) o11.1)) fun m48 => gdx (o11.2 (a0 + 6) o11.1) 5 (gdx (o11.2 (a0 + 6) o11.1) 5 (gd3 ((m48 (a1 + 2) (o11.2 (a0 + 6) o11.1)) + 1) (wt (up m48 (a1 + 2) (o11.2 (a0 + 6) o11.1) ((m48 (a1 + 2) (o11.2 (a0 + 6) o11.1)) + 1)) fun m54 => (G6_sendAway m54 a0 a1 (o11.2 (a0 + 6) o11.1) x2 1).bind fun o55 => some o55))))) else (gdx x2 28 (wt (up o18.2 (a1 + 6) x2 (-3)) fun m24 => gd3 ((m24 a1 3) + 1) (wt (up m24 a1 3 ((m24 a1 3) + 1)) fun m27 => gdx (o11.2 (a0 + 6) o11.1) 5 (gdx (o11.2 (a0 + 6) o11.1) 5 (gd3 ((m27 (a1 + 3) (o11.2 (a0 + 6) o11.1)) + 1) (wt (up m27 (a1 + 3) (o11.2 (a0 + 6) o11.1) ((m27 (a1 + 3) (o11.2 (a0 + 6) o11.1)) + 1)) fun m34 => gdx o18.1 5 (gdx o18.1 5 (gd3 ((m34 (a1 + 3) o18.1) + 1) (wt (up m34 (a1 + 3) o18.1 ((m34 (a1 + 3) o18.1) + 1)) fun m40 => (G6_sendAway m40 a0 a1 (o11.2 (a0 + 6) o11.1) x2 2).bind fun o41 => (G6_sendAway o41 a0 a1 o18.1 x2 2).bind fun o43 => some o43))))))))))))
def G6_bringWave (m : Mem) (a0 : Nat) (a1 : Nat) (x2 : Int) : Option Mem := G6_bringWave_0 m a0 a1 x2
def G6_catchValue_0 (m : Mem) (a0 : Nat) (x1 : Int) (x2 : Int) (x3 : Int) : Option (Int × Mem) := (G6_nameCatch m a0 x1 x2 x3).bind fun o1 => (G2_valueFor o1 ((o1 a0 0).toNat + 16) (a0 + 4) (a0 + 5)).bind fun o13 => some (o13.1, o13.2)
def G6_catchValue (m : Mem) (a0 : Nat) (x1 : Int) (x2 : Int) (x3 : Int) : Option (Int × Mem) := G6_catchValue_0 m a0 x1 x2 x3
def G6_crossingOdds_74 (kk28 : Mem → Nat → Int → Int → Int → Int → Int → Option (Int × Mem)) (m : Mem) (a0 : Nat) (x2 : Int) (x4 : Int) (x5 : Int) (x6 : Int) (x7 : Int) (x8 : Int) : Option (Int × Mem) := gdx x8 5 (gd3 (x6 * (100 - (m (a0 + 2) x8))) (gdd (x6 * (100 - (m (a0 + 2) x8))) 100 (gd3 (x7 + 1) (kk28 m a0 x2 x4 x5 ((x6 * (100 - (m (a0 + 2) x8))) / 100) (x7 + 1)))))
def G6_crossingOdds_28 : Nat → Mem → Nat → Int → Int → Int → Int → Int → Option (Int × Mem)
  | 0, _, _, _, _, _, _, _ => none
  | n + 1, m, a0, x2, x4, x5, x6, x7 => if x4 ≤ x7 then (gd3 (100 - x6) (some ((100 - x6), m))) else (gdx x7 5 (gdx (m (a0 + 6) x7) 5 (if x5 < (m (a0 + 8) (m (a0 + 6) x7)) then (G6_crossingOdds_74 (fun m a0 x2 x4 x5 x6 x7 => G6_crossingOdds_28 n m a0 x2 x4 x5 x6 x7) m a0 x2 x4 x5 x6 x7 (m (a0 + 6) x7)) else (gdx (m (a0 + 6) x7) 5 (if (m (a0 + 8) (m (a0 + 6) x7)) = x5 then (if (m (a0 + 6) x7) ≤ x2 then (gd3 (x7 + 1) (G6_crossingOdds_28 n m a0 x2 x4 x5 x6 (x7 + 1))) else (G6_crossingOdds_74 (fun m a0 x2 x4 x5 x6 x7 => G6_crossingOdds_28 n m a0 x2 x4 x5 x6 x7) m a0 x2 x4 x5 x6 x7 (m (a0 + 6) x7))) else (gd3 (x7 + 1) (G6_crossingOdds_28 n m a0 x2 x4 x5 x6 (x7 + 1))))))))
def G6_crossingOdds_0 (m : Mem) (a0 : Nat) (a1 : Nat) (x2 : Int) (x3 : Int) : Option (Int × Mem) := (G6_lineUp m a0 a1 x3 (m a1 0)).bind fun o3 => (G6_keyFor o3.2 a0 a1 x2 x3).bind fun o5 => G6_crossingOdds_28 1024 o5.2 a0 x2 o3.1 o5.1 100 0
def G6_crossingOdds (m : Mem) (a0 : Nat) (a1 : Nat) (x2 : Int) (x3 : Int) : Option (Int × Mem) := G6_crossingOdds_0 m a0 a1 x2 x3
def G6_driftValue_2 : Nat → Mem → Nat → Int → Int → Option (Int × Mem)
  | 0, _, _, _, _ => none
  | n + 1, m, a0, x1, x2 => if 6 ≤ x2 then (wt (up m (a0 + 4) 4 x1) fun m5 => (G2_valueFor m5 ((m5 a0 0).toNat + 18) (a0 + 4) (a0 + 5)).bind fun o16 => some (o16.1, o16.2)) else (gdx x2 6 (wt (up m (a0 + 4) x2 0) fun m21 => gd3 (x2 + 1) (G6_driftValue_2 n m21 a0 x1 (x2 + 1))))
def G6_driftValue_0 (m : Mem) (a0 : Nat) (x1 : Int) : Option (Int × Mem) := G6_driftValue_2 1024 m a0 x1 0
def G6_driftValue (m : Mem) (a0 : Nat) (x1 : Int) : Option (Int × Mem) := G6_driftValue_0 m a0 x1
def G6_giveBoards_2 : Nat → Mem → Nat → Int → Int → Option Mem
  | 0, _, _, _, _ => none
  | n + 1, m, a0, x1, x2 => if 5 ≤ x2 then (some m) else (gdx x2 5 (wt (up m (a0 + 1) x2 x1) fun m5 => gd3 (x2 + 1) (G6_giveBoards_2 n m5 a0 x1 (x2 + 1))))
def G6_giveBoards_0 (m : Mem) (a0 : Nat) (x1 : Int) : Option Mem := G6_giveBoards_2 1024 m a0 x1 0
def G6_giveBoards (m : Mem) (a0 : Nat) (x1 : Int) : Option Mem := G6_giveBoards_0 m a0 x1
def G6_holdPeak_2 : Nat → Mem → Nat → Int → Option Mem
  | 0, _, _, _ => none
  | n + 1, m, a0, x1 => if 28 ≤ x1 then (some m) else (gdx x1 28 (wt (up m (a0 + 3) x1 (m ((m a0 0).toNat) 2)) fun m9 => gd3 (x1 + 1) (G6_holdPeak_2 n m9 a0 (x1 + 1))))
def G6_holdPeak_0 (m : Mem) (a0 : Nat) : Option Mem := G6_holdPeak_2 1024 m a0 0
def G6_holdPeak (m : Mem) (a0 : Nat) : Option Mem := G6_holdPeak_0 m a0
def G6_makeNobodyBold_2 : Nat → Mem → Nat → Int → Option Mem
  | 0, _, _, _ => none
  | n + 1, m, a0, x1 => if 5 ≤ x1 then (some m) else (gdx x1 5 (wt (up m (a0 + 2) x1 0) fun m5 => gd3 (x1 + 1) (G6_makeNobodyBold_2 n m5 a0 (x1 + 1))))
def G6_makeNobodyBold_0 (m : Mem) (a0 : Nat) : Option Mem := G6_makeNobodyBold_2 1024 m a0 0
def G6_makeNobodyBold (m : Mem) (a0 : Nat) : Option Mem := G6_makeNobodyBold_0 m a0
def G6_peakXAt_39 (m : Mem) (a0 : Nat) (t0 : Int) (t1 : Int) : Option (Int × Mem) := gd6 (t1 + t0) (gd3 ((m ((m a0 0).toNat) 0) - 1) (gd3 ((m ((m a0 0).toNat) 0) - 1) (gd6 (if (t1 + t0) < ((m ((m a0 0).toNat) 0) - 1) then (t1 + t0) else ((m ((m a0 0).toNat) 0) - 1)) (gd6 (t1 + t0) (gd3 ((m ((m a0 0).toNat) 0) - 1) (gd3 ((m ((m a0 0).toNat) 0) - 1) (gd3 (if (if (t1 + t0) < ((m ((m a0 0).toNat) 0) - 1) then (t1 + t0) else ((m ((m a0 0).toNat) 0) - 1)) < 0 then 0 else (if (t1 + t0) < ((m ((m a0 0).toNat) 0) - 1) then (t1 + t0) else ((m ((m a0 0).toNat) 0) - 1))) (some ((if (if (t1 + t0) < ((m ((m a0 0).toNat) 0) - 1) then (t1 + t0) else ((m ((m a0 0).toNat) 0) - 1)) < 0 then 0 else (if (t1 + t0) < ((m ((m a0 0).toNat) 0) - 1) then (t1 + t0) else ((m ((m a0 0).toNat) 0) - 1))), m)))))))))
def G6_peakXAt_0 (m : Mem) (a0 : Nat) (x1 : Int) : Option (Int × Mem) := (G6_driftValue m a0 x1).bind fun o1 => if o1.1 = (-9223372036854775808) then (G6_peakXAt_39 o1.2 a0 0 (o1.2 ((o1.2 a0 0).toNat) 2)) else (G6_peakXAt_39 o1.2 a0 (if (if o1.1 < 8 then o1.1 else 8) < (-8) then (-8) else (if o1.1 < 8 then o1.1 else 8)) (o1.2 ((o1.2 a0 0).toNat) 2))
def G6_peakXAt (m : Mem) (a0 : Nat) (x1 : Int) : Option (Int × Mem) := G6_peakXAt_0 m a0 x1
def G6_seatFrom_6 : Nat → Mem → Nat → Int → Int → Int → Int → Option (Int × Mem)
  | 0, _, _, _, _, _, _ => none
  | n + 1, m, a0, x1, x2, x4, x5 => if (m ((m a0 0).toNat + 8) 1) ≤ x5 then (some (x4, m)) else ((G6_worthAt m a0 x1 x5 x2).bind fun o8 => gd3 (x4 + o8.1) (gd3 (x5 + 1) (G6_seatFrom_6 n o8.2 a0 x1 x2 (x4 + o8.1) (x5 + 1))))
def G6_seatFrom_0 (m : Mem) (a0 : Nat) (x1 : Int) (x2 : Int) (x3 : Int) : Option (Int × Mem) := G6_seatFrom_6 1024 m a0 x1 x2 0 x3
def G6_seatFrom (m : Mem) (a0 : Nat) (x1 : Int) (x2 : Int) (x3 : Int) : Option (Int × Mem) := G6_seatFrom_0 m a0 x1 x2 x3
def G6_takeAsTold_47 : Nat → Mem → Nat → Int → Option Mem
  | 0, _, _, _ => none
  | n + 1, m, a0, x2 => if (m ((m a0 0).toNat + 8) 1) ≤ x2 then (some m) else (gdx x2 28 ((G6_peakXAt m a0 (m ((m a0 0).toNat + 11) x2)).bind fun o18 => gdx x2 28 (wt (up o18.2 (a0 + 3) x2 o18.1) fun m21 => gd3 (x2 + 1) (G6_takeAsTold_47 n m21 a0 (x2 + 1)))))
def G6_takeAsTold_0 (m : Mem) (a0 : Nat) (a1 : Nat) : Option Mem := wt (up m a0 0 ((a1 : Nat) : Int)) fun m1 => wt (cpy m1 ((m1 a0 0).toNat + 4) 0 (a0 + 1) 0 5) fun m11 => wt (cpy m11 ((m11 a0 0).toNat + 6) 0 (a0 + 2) 0 5) fun m21 => G6_takeAsTold_47 1024 m21 a0 0
def G6_takeAsTold (m : Mem) (a0 : Nat) (a1 : Nat) : Option Mem := G6_takeAsTold_0 m a0 a1
def G6_takeOver_0 (m : Mem) (a0 : Nat) (a1 : Nat) : Option Mem := wt (up m a0 0 (((m a1 0).toNat : Nat) : Int)) fun m3 => wt (cpy m3 (a1 + 1) 0 (a0 + 1) 0 5) fun m9 => wt (cpy m9 (a1 + 2) 0 (a0 + 2) 0 5) fun m15 => wt (cpy m15 (a1 + 3) 0 (a0 + 3) 0 28) fun m21 => some m21
def G6_takeOver (m : Mem) (a0 : Nat) (a1 : Nat) : Option Mem := G6_takeOver_0 m a0 a1
def G8_bankWaves_0 (m : Mem) (a0 : Nat) (x1 : Int) (x2 : Int) : Option (Int × Mem) := gd3 ((x2 - x1) - (m a0 6)) (if ((x2 - x1) - (m a0 6)) < 0 then (some (0, m)) else (if 1 ≤ (m a0 7) then (if (m a0 7) = 0 then (none) else (gd3 ((x2 - x1) - (m a0 6)) (gdd ((x2 - x1) - (m a0 6)) (m a0 7) (gd3 ((((x2 - x1) - (m a0 6)) / (m a0 7)) + 1) (some (((((x2 - x1) - (m a0 6)) / (m a0 7)) + 1), m)))))) else (some (0, m))))
def G8_bankWaves (m : Mem) (a0 : Nat) (x1 : Int) (x2 : Int) : Option (Int × Mem) := G8_bankWaves_0 m a0 x1 x2
def G8_cells_0 (m : Mem) (a0 : Nat) : Option (Int × Mem) := gd3 ((m a0 0) * (m a0 1)) (some (((m a0 0) * (m a0 1)), m))
def G8_cells (m : Mem) (a0 : Nat) : Option (Int × Mem) := G8_cells_0 m a0
def G9_add_45 (m : Mem) (x1 : Int) (x2 : Int) : Option Mem := gdx (m 96 0) 20 (wt (up m 97 (m 96 0) x1) fun m6 => gdx (m6 96 0) 20 (wt (up m6 98 (m6 96 0) x2) fun m12 => gd3 ((m12 96 0) + 1) (wt (up m12 96 0 ((m12 96 0) + 1)) fun m15 => some m15)))
def G9_add_0 (m : Mem) (x1 : Int) (x2 : Int) : Option Mem := if (m 96 0) < 20 then (G9_add_45 m x1 x2) else (wt (cpy m 97 1 97 0 19) fun m8 => wt (cpy m8 98 1 98 0 19) fun m14 => wt (up m14 96 0 19) fun m16 => G9_add_45 m16 x1 x2)
def G9_add (m : Mem) (x1 : Int) (x2 : Int) : Option Mem := G9_add_0 m x1 x2
def G10_isLargest_14 : Nat → Mem → Nat → Int → Int → Int → Option (Int × Mem)
  | 0, _, _, _, _, _ => none
  | n + 1, m, a0, x1, x3, x4 => gdx x1 4 (if (m (a0 + 2) x1) ≤ x4 then (some (1, m)) else (gdx x1 4 (gdx ((m (a0 + 1) x1) + x4) 28 (gdx x3 28 (if (m (a0 + 4) ((m (a0 + 1) x1) + x4)) ≤ (m (a0 + 4) x3) then (gd3 (x4 + 1) (G10_isLargest_14 n m a0 x1 x3 (x4 + 1))) else (some (0, m)))))))
def G10_isLargest_0 (m : Mem) (a0 : Nat) (x1 : Int) (x2 : Int) : Option (Int × Mem) := gdx x1 4 (gd3 (((m (a0 + 1) x1) + x2) - 1) (G10_isLargest_14 1024 m a0 x1 (((m (a0 + 1) x1) + x2) - 1) 0))
def G10_isLargest (m : Mem) (a0 : Nat) (x1 : Int) (x2 : Int) : Option (Int × Mem) := G10_isLargest_0 m a0 x1 x2
def G10_lengthOf_0 (m : Mem) (a0 : Nat) (x1 : Int) : Option (Int × Mem) := gdx x1 4 (some ((m (a0 + 2) x1), m))
def G10_lengthOf (m : Mem) (a0 : Nat) (x1 : Int) : Option (Int × Mem) := G10_lengthOf_0 m a0 x1
def G10_setFrom_2 : Nat → Mem → Nat → Int → Int → Option (Int × Mem)
  | 0, _, _, _, _ => none
  | n + 1, m, a0, x1, x2 => if (m a0 0) ≤ x2 then (some ((-1), m)) else ((G10_firstMinute m a0 x2).bind fun o4 => if o4.1 < x1 then (gd3 (x2 + 1) (G10_setFrom_2 n o4.2 a0 x1 (x2 + 1))) else (some (x2, o4.2)))
def G10_setFrom_0 (m : Mem) (a0 : Nat) (x1 : Int) : Option (Int × Mem) := G10_setFrom_2 1024 m a0 x1 0
def G10_setFrom (m : Mem) (a0 : Nat) (x1 : Int) : Option (Int × Mem) := G10_setFrom_0 m a0 x1
def G11_back_0 (m : Mem) : Option (Int × Mem) := if (m 0 10) = 0 then (some ((-1), m)) else ((G4_takeAll m 69 83).bind fun o8 => wt (up o8 96 0 0) fun m12 => some ((m12 69 0), m12))
def G11_back (m : Mem) : Option (Int × Mem) := G11_back_0 m
def G11_beginAnew_0 (m : Mem) : Option Mem := (G6_takeAsTold m 51 ((m 0 3).toNat)).bind fun o5 => (G4_begin o5 69 ((o5 0 3).toNat)).bind fun o11 => wt (up o11 90 0 0) fun m15 => wt (up m15 90 1 (-1)) fun m19 => wt (up m19 96 0 0) fun m23 => wt (up m23 0 10 0) fun m25 => some m25
def G11_beginAnew (m : Mem) : Option Mem := G11_beginAnew_0 m
def G11_isSurfer_0 (m : Mem) (x1 : Int) : Option (Int × Mem) := if x1 < 0 then (some (0, m)) else (if (m ((m 0 3).toNat + 1) 0) ≤ x1 then (some (0, m)) else (some (1, m)))
def G11_isSurfer (m : Mem) (x1 : Int) : Option (Int × Mem) := G11_isSurfer_0 m x1
def G11_firstToCome_0 (m : Mem) : Option (Int × Mem) := (G10_firstFrom m ((m 0 3).toNat + 8) (m 69 0)).bind fun o9 => some (o9.1, o9.2)
def G11_firstToCome (m : Mem) : Option (Int × Mem) := G11_firstToCome_0 m
def G11_best_17 : Nat → Mem → Int → Int → Int → Int → Option (Int × Mem)
  | 0, _, _, _, _, _ => none
  | n + 1, m, x1, x2, x3, x4 => (G8_cells m ((m 0 3).toNat)).bind fun o3 => if o3.1 ≤ x4 then (some (x2, o3.2)) else ((G11_firstToCome o3.2).bind fun o8 => (G6_seatFrom o8.2 51 x1 x4 o8.1).bind fun o10 => if o10.1 ≤ x3 then (gd3 (x4 + 1) (G11_best_17 n o10.2 x1 x2 x3 (x4 + 1))) else (gd3 (x4 + 1) (G11_best_17 n o10.2 x1 x4 o10.1 (x4 + 1))))
def G11_best_0 (m : Mem) (x1 : Int) : Option (Int × Mem) := (G11_isSurfer m x1).bind fun o1 => if o1.1 = 0 then (some ((-1), o1.2)) else (G11_best_17 1024 o1.2 x1 0 (-1) 0)
def G11_best (m : Mem) (x1 : Int) : Option (Int × Mem) := G11_best_0 m x1
def G11_runBy_18 : Nat → Mem → Int → Option Mem
  | 0, _, _ => none
  | n + 1, m, x3 => if (m ((m 0 3).toNat + 8) 1) ≤ x3 then (some m) else ((G6_bringWave m 51 76 x3).bind fun o12 => gd3 (x3 + 1) (G11_runBy_18 n o12 (x3 + 1)))
def G11_runBy_0 (m : Mem) (x1 : Int) (x2 : Int) : Option Mem := (G4_takeForRun m 76 69 x1 x2).bind fun o5 => (G11_firstToCome o5).bind fun o7 => G11_runBy_18 1024 o7.2 o7.1
def G11_runBy (m : Mem) (x1 : Int) (x2 : Int) : Option Mem := G11_runBy_0 m x1 x2
def G11_chance_33 : Nat → Mem → Int → Int → Int → Int → Int → Option (Int × Mem)
  | 0, _, _, _, _, _, _ => none
  | n + 1, m, x2, x3, x4, x5, x6 => if 10 ≤ x6 then (some (x4, m)) else ((G11_runBy m (m 69 1) x5).bind fun o6 => gdx x2 5 (if (o6 (76 + 2) x2) < x3 then (gd3 (x6 + 1) (G11_chance_33 n o6 x2 x3 x4 (o6 76 2) (x6 + 1))) else (gd3 (x4 + 1) (gd3 (x6 + 1) (G11_chance_33 n o6 x2 x3 (x4 + 1) (o6 76 2) (x6 + 1))))))
def G11_chance_0 (m : Mem) (x1 : Int) (x2 : Int) (x3 : Int) : Option (Int × Mem) := if x1 < 0 then (some ((-1), m)) else ((G11_isSurfer m x2).bind fun o2 => if o2.1 = 0 then (some ((-1), o2.2)) else (if x3 < 0 then (some ((-1), o2.2)) else (if x3 ≤ 28 then (G11_chance_33 1024 o2.2 x2 x3 0 x1 0) else (some ((-1), o2.2)))))
def G11_chance (m : Mem) (x1 : Int) (x2 : Int) (x3 : Int) : Option (Int × Mem) := G11_chance_0 m x1 x2 x3
def G11_changeTrial_0 (m : Mem) (x1 : Int) (x2 : Int) : Option Mem := if x1 = 0 then ((G6_makeNobodyBold m 60).bind fun o4 => some o4) else (if x1 = 1 then ((G4_leaveOut m 76 x2).bind fun o9 => some o9) else (if x1 = 2 then ((G6_holdPeak m 60).bind fun o14 => some o14) else (if x1 = 3 then ((G6_giveBoards m 60 9).bind fun o19 => some o19) else (gdx x2 5 ((G4_seatAll m 76 (m (76 + 1) x2)).bind fun o29 => some o29)))))
def G11_changeTrial (m : Mem) (x1 : Int) (x2 : Int) : Option Mem := G11_changeTrial_0 m x1 x2
def G11_count_0 (m : Mem) (x1 : Int) : Option (Int × Mem) := if x1 = 0 then (some ((m ((m 0 3).toNat) 0), m)) else (if x1 = 1 then (some ((m ((m 0 3).toNat) 1), m)) else (if x1 = 2 then (some ((m ((m 0 3).toNat + 1) 0), m)) else (if x1 = 3 then (some ((m ((m 0 3).toNat + 8) 0), m)) else (if x1 = 4 then (some ((m ((m 0 3).toNat + 8) 1), m)) else (if x1 = 5 then (some ((m ((m 0 3).toNat) 13), m)) else (if x1 = 6 then (some ((m 69 0), m)) else (if x1 = 7 then (some ((m 69 1), m)) else (if x1 = 8 then (some ((m 69 3), m)) else (if x1 = 9 then (some ((m 69 4), m)) else (if x1 = 10 then ((G11_firstToCome m).bind fun o64 => gd3 ((m ((m 0 3).toNat + 8) 1) - o64.1) (some (((m ((m 0 3).toNat + 8) 1) - o64.1), o64.2))) else (if x1 = 11 then (some ((m 90 0), m)) else (if x1 = 12 then ((G3_howManyKnown m).bind fun o74 => some (o74.1, o74.2)) else (if x1 = 13 then (some ((m 96 0), m)) else (some ((-1), m)))))))))))))))
def G11_count (m : Mem) (x1 : Int) : Option (Int × Mem) := G11_count_0 m x1
def G11_farNow_0 (m : Mem) (x1 : Int) : Option (Int × Mem) := gdx x1 5 ((G6_peakXAt m 51 (m 69 0)).bind fun o15 => (G8_farFrom o15.2 ((m 0 3).toNat) (m (69 + 1) x1) o15.1).bind fun o17 => some (o17.1, o17.2))
def G11_farNow (m : Mem) (x1 : Int) : Option (Int × Mem) := G11_farNow_0 m x1
def G11_deeper_0 (m : Mem) (x1 : Int) (x2 : Int) : Option (Int × Mem) := (G11_isSurfer m x1).bind fun o1 => if o1.1 = 0 then (some ((-1), o1.2)) else ((G11_isSurfer o1.2 x2).bind fun o4 => if o4.1 = 0 then (some ((-1), o4.2)) else ((G11_farNow o4.2 x1).bind fun o7 => (G11_farNow o7.2 x2).bind fun o9 => if o7.1 = o9.1 then (some (0, o9.2)) else (if o9.1 ≤ o7.1 then (some (2, o9.2)) else (some (1, o9.2)))))
def G11_deeper (m : Mem) (x1 : Int) (x2 : Int) : Option (Int × Mem) := G11_deeper_0 m x1 x2
def G11_fairest_89 (kk16 : Mem → Int → Int → Int → Int → Int → Option (Int × Mem)) (m : Mem) (x1 : Int) (x5 : Int) (x6 : Int) (x7 : Int) : Option (Int × Mem) := gd3 (x5 + 1) (kk16 m x1 x5 x6 x7 (x5 + 1))
def G11_fairest_16 : Nat → Mem → Int → Int → Int → Int → Int → Option (Int × Mem)
  | 0, _, _, _, _, _, _ => none
  | n + 1, m, x1, x2, x3, x4, x5 => if 4 ≤ x5 then (some (x2, m)) else ((G11_runBy m x5 x1).bind fun o2 => (G4_unlike o2 76 (o2 ((o2 0 3).toNat + 1) 0)).bind fun o12 => if x2 = (-1) then (gd3 ((o12.2 76 3) + (o12.2 76 4)) (G11_fairest_89 (fun m x1 x2 x3 x4 x5 => G11_fairest_16 n m x1 x2 x3 x4 x5) o12.2 x1 x5 o12.1 ((o12.2 76 3) + (o12.2 76 4)))) else (if o12.1 < x3 then (gd3 ((o12.2 76 3) + (o12.2 76 4)) (G11_fairest_89 (fun m x1 x2 x3 x4 x5 => G11_fairest_16 n m x1 x2 x3 x4 x5) o12.2 x1 x5 o12.1 ((o12.2 76 3) + (o12.2 76 4)))) else (if o12.1 = x3 then (gd3 ((o12.2 76 3) + (o12.2 76 4)) (if x4 ≤ ((o12.2 76 3) + (o12.2 76 4)) then (gd3 (x5 + 1) (G11_fairest_16 n o12.2 x1 x2 x3 x4 (x5 + 1))) else (gd3 ((o12.2 76 3) + (o12.2 76 4)) (G11_fairest_89 (fun m x1 x2 x3 x4 x5 => G11_fairest_16 n m x1 x2 x3 x4 x5) o12.2 x1 x5 o12.1 ((o12.2 76 3) + (o12.2 76 4)))))) else (gd3 (x5 + 1) (G11_fairest_16 n o12.2 x1 x2 x3 x4 (x5 + 1))))))
def G11_fairest_0 (m : Mem) (x1 : Int) : Option (Int × Mem) := if 0 ≤ x1 then (G11_fairest_16 1024 m x1 (-1) 0 0 0) else (some ((-1), m))
def G11_fairest (m : Mem) (x1 : Int) : Option (Int × Mem) := G11_fairest_0 m x1
def G11_fault_0 (m : Mem) (x1 : Int) : Option (Int × Mem) := if x1 = 0 then (some ((m 46 8), m)) else (if x1 = 1 then (some ((m 46 9), m)) else (some ((-1), m)))
def G11_fault (m : Mem) (x1 : Int) : Option (Int × Mem) := G11_fault_0 m x1
def G11_putOnTape_3 : Nat → Mem → Int → Int → Option Mem
  | 0, _, _, _ => none
  | n + 1, m, x1, x2 => if x2 < 0 then (some m) else (if 700 ≤ (m 0 1) then (some m) else (gdx (m 0 1) 700 (wt (up m 1 (m 0 1) (b3by (b3sr x1 (b3an x2 31)))) fun m10 => gd3 ((m10 0 1) + 1) (wt (up m10 0 1 ((m10 0 1) + 1)) fun m13 => gd3 (x2 + (-8)) (G11_putOnTape_3 n m13 x1 (x2 + (-8)))))))
def G11_putOnTape_0 (m : Mem) (x1 : Int) : Option Mem := G11_putOnTape_3 1024 m x1 24
def G11_putOnTape (m : Mem) (x1 : Int) : Option Mem := G11_putOnTape_0 m x1
def G11_feed_0 (m : Mem) (x1 : Int) (x2 : Int) (x3 : Int) (x4 : Int) (x5 : Int) : Option (Int × Mem) := gd3 ((m 0 1) + 20) (if ((m 0 1) + 20) ≤ 700 then ((G11_putOnTape m x1).bind fun o4 => (G11_putOnTape o4 x2).bind fun o6 => (G11_putOnTape o6 x3).bind fun o8 => (G11_putOnTape o8 x4).bind fun o10 => (G11_putOnTape o10 x5).bind fun o12 => some ((o12 0 1), o12)) else (some ((-1), m)))
def G11_feed (m : Mem) (x1 : Int) (x2 : Int) (x3 : Int) (x4 : Int) (x5 : Int) : Option (Int × Mem) := G11_feed_0 m x1 x2 x3 x4 x5
def G11_gaps_26 : Nat → Mem → Int → Int → Int → Int → Option (Int × Mem)
  | 0, _, _, _, _, _ => none
  | n + 1, m, x1, x2, x3, x4 => if (m ((m 0 3).toNat + 8) 0) ≤ x4 then (some (x3, m)) else ((G10_firstMinute m ((m 0 3).toNat + 8) x4).bind fun o12 => gd3 (x4 - 1) ((G10_lastMinute o12.2 ((o12.2 0 3).toNat + 8) (x4 - 1)).bind fun o18 => if x2 = 1 then (gd3 (x3 + 1) (gd3 (x4 + 1) (G11_gaps_26 n o18.2 x1 x2 (x3 + 1) (x4 + 1)))) else (gd3 (o12.1 - o18.1) (if x1 < (o12.1 - o18.1) then (gd3 (x4 + 1) (G11_gaps_26 n o18.2 x1 x2 x3 (x4 + 1))) else (gd3 (x3 + 1) (gd3 (x4 + 1) (G11_gaps_26 n o18.2 x1 x2 (x3 + 1) (x4 + 1))))))))
def G11_gaps_0 (m : Mem) (x1 : Int) (x2 : Int) : Option (Int × Mem) := if x1 < 0 then (some ((-1), m)) else (if 99 < x1 then (some ((-1), m)) else (if x2 < 0 then (some ((-1), m)) else (if x2 ≤ 1 then (G11_gaps_26 1024 m x1 x2 0 1) else (some ((-1), m)))))
def G11_gaps (m : Mem) (x1 : Int) (x2 : Int) : Option (Int × Mem) := G11_gaps_0 m x1 x2
def G11_give_0 (m : Mem) (x1 : Int) (x2 : Int) (x3 : Int) : Option (Int × Mem) := (G11_isSurfer m x1).bind fun o1 => if o1.1 = 0 then (some ((-1), o1.2)) else ((G11_isSurfer o1.2 x2).bind fun o4 => if o4.1 = 0 then (some ((-1), o4.2)) else (if x1 = x2 then (some ((-1), o4.2)) else (if x3 < 0 then (some ((-1), o4.2)) else (if x3 ≤ 99 then (gdx x2 5 (gd3 ((o4.2 ((o4.2 0 3).toNat + 7) x2) * x3) (if ((o4.2 ((o4.2 0 3).toNat + 7) x2) * x3) ≤ 100 then (some (0, o4.2)) else (some (1, o4.2))))) else (some ((-1), o4.2))))))
def G11_give (m : Mem) (x1 : Int) (x2 : Int) (x3 : Int) : Option (Int × Mem) := G11_give_0 m x1 x2 x3
def G11_isWave_0 (m : Mem) (x1 : Int) : Option (Int × Mem) := if x1 < 0 then (some (0, m)) else (if (m ((m 0 3).toNat + 8) 1) ≤ x1 then (some (0, m)) else (some (1, m)))
def G11_isWave (m : Mem) (x1 : Int) : Option (Int × Mem) := G11_isWave_0 m x1
def G11_isToCome_0 (m : Mem) (x1 : Int) : Option (Int × Mem) := (G11_isWave m x1).bind fun o1 => if o1.1 = 0 then (some (0, o1.2)) else (gdx x1 28 (if (o1.2 ((o1.2 0 3).toNat + 11) x1) < (o1.2 69 0) then (some (0, o1.2)) else (some (1, o1.2))))
def G11_isToCome (m : Mem) (x1 : Int) : Option (Int × Mem) := G11_isToCome_0 m x1
def G11_go_0 (m : Mem) (x1 : Int) (x2 : Int) (x3 : Int) : Option (Int × Mem) := (G11_isSurfer m x1).bind fun o1 => if o1.1 = 0 then (some ((-1), o1.2)) else ((G11_isToCome o1.2 x2).bind fun o4 => if o4.1 = 0 then (some ((-1), o4.2)) else (if x3 < 0 then (some ((-1), o4.2)) else (if x3 ≤ 999 then (gdx x1 5 ((G6_worthAt o4.2 51 x1 x2 (o4.2 (69 + 1) x1)).bind fun o17 => (G6_crossingOdds o17.2 51 69 x1 x2).bind fun o23 => gd3 (x3 * o23.1) (if o17.1 ≤ (x3 * o23.1) then (some (0, o23.2)) else (some (1, o23.2))))) else (some ((-1), o4.2)))))
def G11_go (m : Mem) (x1 : Int) (x2 : Int) (x3 : Int) : Option (Int × Mem) := G11_go_0 m x1 x2 x3
def G11_isCell_0 (m : Mem) (x1 : Int) : Option (Int × Mem) := if x1 < 0 then (some (0, m)) else ((G8_cells m ((m 0 3).toNat)).bind fun o4 => if o4.1 ≤ x1 then (some (0, o4.2)) else (some (1, o4.2)))
def G11_isCell (m : Mem) (x1 : Int) : Option (Int × Mem) := G11_isCell_0 m x1
def G11_isRule_0 (m : Mem) (x1 : Int) : Option (Int × Mem) := if x1 < 0 then (some (0, m)) else (if 4 ≤ x1 then (some (0, m)) else (some (1, m)))
def G11_isRule (m : Mem) (x1 : Int) : Option (Int × Mem) := G11_isRule_0 m x1
def G11_keep_0 (m : Mem) : Option (Int × Mem) := (G4_takeAll m 83 69).bind fun o5 => wt (up o5 0 10 1) fun m7 => some ((m7 69 0), m7)
def G11_keep (m : Mem) : Option (Int × Mem) := G11_keep_0 m
def G11_known_0 (m : Mem) (x1 : Int) : Option (Int × Mem) := if x1 < (-1) then (some (0, m)) else (if x1 ≤ (m 90 0) then (wt (up m 90 1 x1) fun m9 => some (1, m9)) else (some (0, m)))
def G11_known (m : Mem) (x1 : Int) : Option (Int × Mem) := G11_known_0 m x1
def G11_law_0 (m : Mem) (x1 : Int) (x2 : Int) (x3 : Int) : Option (Int × Mem) := if x1 = 2 then ((G6_driftValue m 51 (m 69 0)).bind fun o30 => some (o30.1, o30.2)) else ((G11_isSurfer m x2).bind fun o2 => if o2.1 = 0 then (some ((-9223372036854775808), o2.2)) else ((G11_isWave o2.2 x3).bind fun o5 => if o5.1 = 0 then (some ((-9223372036854775808), o5.2)) else (if x1 = 0 then (gdx x2 5 ((G6_catchValue o5.2 51 x2 x3 (o5.2 (69 + 1) x2)).bind fun o22 => some (o22.1, o22.2))) else (if x1 = 1 then ((G6_awayValue o5.2 51 x2 x3).bind fun o12 => some (o12.1, o12.2)) else (some ((-9223372036854775808), o5.2))))))
def G11_law (m : Mem) (x1 : Int) (x2 : Int) (x3 : Int) : Option (Int × Mem) := G11_law_0 m x1 x2 x3
def G11_locals_74 (kk26 : Mem → Int → Int → Int → Int → Option (Int × Mem)) (m : Mem) (x1 : Int) (x2 : Int) (x3 : Int) (x4 : Int) (s0 : Int) : Option (Int × Mem) := if s0 = (-1) then (gd3 (x4 + 1) (kk26 m x1 x2 x3 (x4 + 1))) else (gdx x4 24 (gdx x4 24 (gdx s0 4 ((G6_farOf m 51 (m 93 x4) (m ((m 0 3).toNat + 9) s0)).bind fun o24 => if x1 < o24.1 then (gd3 (x4 + 1) (kk26 o24.2 x1 x2 (b3or x3 (b3sl 1 (b3an (m 92 x4) 31))) (x4 + 1))) else (gd3 (x4 + 1) (kk26 o24.2 x1 (b3or x2 (b3sl 1 (b3an (m 92 x4) 31))) x3 (x4 + 1)))))))
def G11_locals_26 : Nat → Mem → Int → Int → Int → Int → Option (Int × Mem)
  | 0, _, _, _, _, _ => none
  | n + 1, m, x1, x2, x3, x4 => (G3_howManyKnown m).bind fun o3 => if o3.1 ≤ x4 then (some ((b3an x2 (b3xo x3 (-1))), o3.2)) else ((G3_isKnownSeat o3.2 x4).bind fun o8 => if o8.1 = 0 then (G11_locals_74 (fun m x1 x2 x3 x4 => G11_locals_26 n m x1 x2 x3 x4) o8.2 x1 x2 x3 x4 (-1)) else (gdx x4 24 ((G10_setFrom o8.2 ((o8.2 0 3).toNat + 8) (o8.2 91 x4)).bind fun o21 => G11_locals_74 (fun m x1 x2 x3 x4 => G11_locals_26 n m x1 x2 x3 x4) o21.2 x1 x2 x3 x4 o21.1)))
def G11_locals_0 (m : Mem) (x1 : Int) : Option (Int × Mem) := if x1 < 0 then (some ((-1), m)) else (if x1 ≤ 12 then ((G3_findStruck m).bind fun o5 => G11_locals_26 1024 o5 x1 0 0 0) else (some ((-1), m)))
def G11_locals (m : Mem) (x1 : Int) : Option (Int × Mem) := G11_locals_0 m x1
def G11_passMinute_66 (m : Mem) : Option Mem := (G4_beginMinute m 69 (m ((m 0 3).toNat + 1) 0)).bind fun o9 => wt (up o9 96 0 0) fun m13 => some m13
def G11_passMinute_0 (m : Mem) : Option Mem := (G10_firstFrom m ((m 0 3).toNat + 8) (m 69 0)).bind fun o9 => if (o9.2 ((o9.2 0 3).toNat + 8) 1) ≤ o9.1 then (G11_passMinute_66 o9.2) else (gdx o9.1 28 (if (o9.2 ((o9.2 0 3).toNat + 11) o9.1) = (o9.2 69 0) then ((G6_bringWave o9.2 51 69 o9.1).bind fun o35 => G11_passMinute_66 o35) else (G11_passMinute_66 o9.2)))
def G11_passMinute (m : Mem) : Option Mem := G11_passMinute_0 m
def G11_minutes_29 : Nat → Mem → Int → Int → Option (Int × Mem)
  | 0, _, _, _ => none
  | n + 1, m, x1, x2 => if x1 ≤ x2 then (some ((m 69 0), m)) else ((G11_passMinute m).bind fun o6 => gd3 (x2 + 1) (G11_minutes_29 n o6 x1 (x2 + 1)))
def G11_minutes_0 (m : Mem) (x1 : Int) : Option (Int × Mem) := if x1 < 0 then (some ((-1), m)) else (if 99 < x1 then (some ((-1), m)) else (gd3 ((m 69 0) + x1) (if ((m 69 0) + x1) ≤ 199 then (G11_minutes_29 1024 m x1 0) else (some ((-1), m)))))
def G11_minutes (m : Mem) (x1 : Int) : Option (Int × Mem) := G11_minutes_0 m x1
def G11_named_2 : Nat → Mem → Int → Int → Option (Int × Mem)
  | 0, _, _, _ => none
  | n + 1, m, x1, x2 => if (m ((m 0 3).toNat + 1) 0) ≤ x2 then (some ((-1), m)) else (gdx x2 5 (if (m ((m 0 3).toNat + 2) x2) = x1 then (some (x2, m)) else (gd3 (x2 + 1) (G11_named_2 n m x1 (x2 + 1)))))
def G11_named_0 (m : Mem) (x1 : Int) : Option (Int × Mem) := G11_named_2 1024 m x1 0
def G11_named (m : Mem) (x1 : Int) : Option (Int × Mem) := G11_named_0 m x1
def G11_next_0 (m : Mem) : Option (Int × Mem) := (G10_setFrom m ((m 0 3).toNat + 8) (m 69 0)).bind fun o9 => if o9.1 = (-1) then (some ((-2), o9.2)) else ((G10_firstMinute o9.2 ((o9.2 0 3).toNat + 8) o9.1).bind fun o16 => gd3 (o16.1 - (o16.2 69 0)) (some ((o16.1 - (o16.2 69 0)), o16.2)))
def G11_next (m : Mem) : Option (Int × Mem) := G11_next_0 m
def G11_note_0 (m : Mem) (x1 : Int) (x2 : Int) (x3 : Int) : Option (Int × Mem) := if x1 < 0 then (some ((-1), m)) else (if 199 < x1 then (some ((-1), m)) else ((G11_isSurfer m x2).bind fun o3 => if o3.1 = 0 then (some ((-1), o3.2)) else ((G11_isCell o3.2 x3).bind fun o6 => if o6.1 = 0 then (some ((-1), o6.2)) else ((G3_addSeat o6.2 x1 x2 x3).bind fun o11 => some (o11.1, o11.2)))))
def G11_note (m : Mem) (x1 : Int) (x2 : Int) (x3 : Int) : Option (Int × Mem) := G11_note_0 m x1 x2 x3
def G11_odds_0 (m : Mem) (x1 : Int) (x2 : Int) (x3 : Int) : Option (Int × Mem) := (G11_isSurfer m x1).bind fun o1 => if o1.1 = 0 then (some ((-1), o1.2)) else ((G11_isWave o1.2 x2).bind fun o4 => if o4.1 = 0 then (some ((-1), o4.2)) else ((G11_isCell o4.2 x3).bind fun o7 => if o7.1 = 0 then (some ((-1), o7.2)) else ((G6_oddsAt o7.2 51 x1 x2 x3).bind fun o12 => some (o12.1, o12.2))))
def G11_odds (m : Mem) (x1 : Int) (x2 : Int) (x3 : Int) : Option (Int × Mem) := G11_odds_0 m x1 x2 x3
def G11_order_0 (m : Mem) (x1 : Int) (x2 : Int) : Option (Int × Mem) := (G11_isToCome m x1).bind fun o1 => if o1.1 = 0 then (some ((-1), o1.2)) else (if 0 ≤ x2 then ((G6_lineUp o1.2 51 69 x1 (o1.2 69 0)).bind fun o13 => if o13.1 ≤ x2 then (some ((-2), o13.2)) else (gdx x2 5 (some ((o13.2 (51 + 6) x2), o13.2)))) else (some ((-1), o1.2)))
def G11_order (m : Mem) (x1 : Int) (x2 : Int) : Option (Int × Mem) := G11_order_0 m x1 x2
def G11_over_93 : Nat → Mem → Int → Int → Int → Int → Int → Option (Int × Mem)
  | 0, _, _, _, _, _, _ => none
  | n + 1, m, x1, x2, x3, x4, x5 => if x2 < x5 then (some ((-2), m)) else ((G8_bankWaves m ((m 0 3).toNat) x5 x2).bind fun o8 => gd3 ((100 * (m ((m 0 3).toNat) 8)) * o8.1) (if ((100 * (m ((m 0 3).toNat) 8)) * o8.1) ≤ x4 then (if (o8.2 ((o8.2 0 3).toNat + 8) 1) ≤ x3 then (gd3 (x5 + 1) (G11_over_93 n o8.2 x1 x2 x3 x4 (x5 + 1))) else (gdx x3 28 (if (o8.2 ((o8.2 0 3).toNat + 11) x3) = x5 then (gdx x1 5 ((G6_worthAt o8.2 51 x1 x3 (o8.2 (69 + 1) x1)).bind fun o35 => gd3 (x3 + 1) (gd3 (x4 - o35.1) (gd3 (x5 + 1) (G11_over_93 n o35.2 x1 x2 (x3 + 1) (x4 - o35.1) (x5 + 1)))))) else (gd3 (x5 + 1) (G11_over_93 n o8.2 x1 x2 x3 x4 (x5 + 1)))))) else (some (x5, o8.2))))
def G11_over_0 (m : Mem) (x1 : Int) : Option (Int × Mem) := (G11_isSurfer m x1).bind fun o1 => if o1.1 = 0 then (some ((-1), o1.2)) else (if (o1.2 ((o1.2 0 3).toNat) 7) < 1 then (some ((-1), o1.2)) else (if 1 ≤ (o1.2 ((o1.2 0 3).toNat + 8) 1) then (gdx ((o1.2 ((o1.2 0 3).toNat + 8) 1) - 1) 28 ((G11_firstToCome o1.2).bind fun o30 => gdx x1 5 ((G6_seatFrom o30.2 51 x1 (o30.2 (69 + 1) x1) o30.1).bind fun o40 => G11_over_93 1024 o40.2 x1 (o1.2 ((o1.2 0 3).toNat + 11) ((o1.2 ((o1.2 0 3).toNat + 8) 1) - 1)) o30.1 o40.1 (o40.2 69 0)))) else (some ((-1), o1.2))))
def G11_over (m : Mem) (x1 : Int) : Option (Int × Mem) := G11_over_0 m x1
def G11_peak_0 (m : Mem) (x1 : Int) : Option (Int × Mem) := if x1 < 0 then (some ((-1), m)) else (if x1 ≤ 199 then ((G6_peakXAt m 51 x1).bind fun o13 => gd3 (((m ((m 0 3).toNat) 3) * (m ((m 0 3).toNat) 0)) + o13.1) (some ((((m ((m 0 3).toNat) 3) * (m ((m 0 3).toNat) 0)) + o13.1), o13.2))) else (some ((-1), m)))
def G11_peak (m : Mem) (x1 : Int) : Option (Int × Mem) := G11_peak_0 m x1
def G11_plan_0 (m : Mem) (x1 : Int) : Option (Int × Mem) := (G11_isSurfer m x1).bind fun o1 => if o1.1 = 0 then (some ((-1), o1.2)) else ((G0_makePlan o1.2 51 69 x1).bind fun o10 => some ((o10 99 12), o10))
def G11_plan (m : Mem) (x1 : Int) : Option (Int × Mem) := G11_plan_0 m x1
def G11_planned_0 (m : Mem) (x1 : Int) (x2 : Int) : Option (Int × Mem) := (G11_isSurfer m x1).bind fun o1 => if o1.1 = 0 then (some ((-1), o1.2)) else (if 0 ≤ x2 then ((G0_makePlan o1.2 51 69 x1).bind fun o11 => if (o11 99 11) ≤ x2 then (some ((-2), o11)) else (gdx x2 28 (some ((o11 109 x2), o11)))) else (some ((-1), o1.2)))
def G11_planned (m : Mem) (x1 : Int) (x2 : Int) : Option (Int × Mem) := G11_planned_0 m x1 x2
def G11_rank_27 : Nat → Mem → Int → Int → Int → Int → Option (Int × Mem)
  | 0, _, _, _, _, _ => none
  | n + 1, m, x1, x2, x3, x4 => if (m ((m 0 3).toNat + 8) 0) ≤ x4 then (some (x3, m)) else ((G10_lengthOf m ((m 0 3).toNat + 8) x4).bind fun o12 => if o12.1 < x1 then (gd3 (x4 + 1) (G11_rank_27 n o12.2 x1 x2 x3 (x4 + 1))) else (if x2 = 1 then (gd3 (x3 + 1) (gd3 (x4 + 1) (G11_rank_27 n o12.2 x1 x2 (x3 + 1) (x4 + 1)))) else ((G10_isLargest o12.2 ((o12.2 0 3).toNat + 8) x4 x1).bind fun o20 => if o20.1 = 0 then (gd3 (x4 + 1) (G11_rank_27 n o20.2 x1 x2 x3 (x4 + 1))) else (gd3 (x3 + 1) (gd3 (x4 + 1) (G11_rank_27 n o20.2 x1 x2 (x3 + 1) (x4 + 1)))))))
def G11_rank_0 (m : Mem) (x1 : Int) (x2 : Int) : Option (Int × Mem) := if x1 < 1 then (some ((-1), m)) else (if 7 < x1 then (some ((-1), m)) else (if x2 < 0 then (some ((-1), m)) else (if x2 ≤ 1 then (G11_rank_27 1024 m x1 x2 0 0) else (some ((-1), m)))))
def G11_rank (m : Mem) (x1 : Int) (x2 : Int) : Option (Int × Mem) := G11_rank_0 m x1 x2
def G11_rest_0 (m : Mem) (x1 : Int) (x2 : Int) (x3 : Int) : Option (Int × Mem) := (G11_isSurfer m x1).bind fun o1 => if o1.1 = 0 then (some ((-1), o1.2)) else ((G11_isSurfer o1.2 x2).bind fun o4 => if o4.1 = 0 then (some ((-1), o4.2)) else (if x1 = x2 then (some ((-1), o4.2)) else (if 0 ≤ x3 then ((G0_playGame o4.2 51 69 x1 x2).bind fun o15 => if (o15 99 6) ≤ x3 then (some ((-2), o15)) else (gdx x3 25 (some ((o15 105 x3), o15)))) else (some ((-1), o4.2)))))
def G11_rest (m : Mem) (x1 : Int) (x2 : Int) (x3 : Int) : Option (Int × Mem) := G11_rest_0 m x1 x2 x3
def G11_rests_0 (m : Mem) (x1 : Int) (x2 : Int) : Option (Int × Mem) := (G11_isSurfer m x1).bind fun o1 => if o1.1 = 0 then (some ((-1), o1.2)) else ((G11_isSurfer o1.2 x2).bind fun o4 => if o4.1 = 0 then (some ((-1), o4.2)) else (if x1 = x2 then (some ((-1), o4.2)) else ((G0_playGame o4.2 51 69 x1 x2).bind fun o14 => some ((o14 99 6), o14))))
def G11_rests (m : Mem) (x1 : Int) (x2 : Int) : Option (Int × Mem) := G11_rests_0 m x1 x2
def G11_rule_0 (m : Mem) (x1 : Int) : Option (Int × Mem) := (G11_isRule m x1).bind fun o1 => if o1.1 = 0 then (some (0, o1.2)) else (if x1 = (o1.2 69 1) then (some (0, o1.2)) else ((G9_add o1.2 (-1) (o1.2 69 1)).bind fun o15 => wt (up o15 69 1 x1) fun m19 => some (1, m19)))
def G11_rule (m : Mem) (x1 : Int) : Option (Int × Mem) := G11_rule_0 m x1
def G11_seat_0 (m : Mem) (x1 : Int) (x2 : Int) : Option (Int × Mem) := (G11_isSurfer m x1).bind fun o1 => if o1.1 = 0 then (some ((-1), o1.2)) else ((G11_isCell o1.2 x2).bind fun o4 => if o4.1 = 0 then (some ((-1), o4.2)) else ((G11_firstToCome o4.2).bind fun o9 => (G6_seatFrom o9.2 51 x1 x2 o9.1).bind fun o11 => some (o11.1, o11.2)))
def G11_seat (m : Mem) (x1 : Int) (x2 : Int) : Option (Int × Mem) := G11_seat_0 m x1 x2
def G11_shares_0 (m : Mem) (x1 : Int) : Option (Int × Mem) := if x1 < 0 then (some ((-1), m)) else (if 1 < x1 then (some ((-1), m)) else (if 1 ≤ (m ((m 0 3).toNat + 1) 0) then (if x1 = 0 then ((G4_unlike m 69 (m ((m 0 3).toNat + 1) 0)).bind fun o29 => some (o29.1, o29.2)) else ((G4_hadInSum m 69 (m ((m 0 3).toNat + 1) 0)).bind fun o19 => some (o19.1, o19.2))) else (some ((-1), m))))
def G11_shares (m : Mem) (x1 : Int) : Option (Int × Mem) := G11_shares_0 m x1
def G11_strike_0 (m : Mem) (x1 : Int) : Option (Int × Mem) := if x1 < 0 then (some ((-1), m)) else (if x1 < (m 90 0) then ((G3_addStrike m x1).bind fun o9 => some (o9.1, o9.2)) else (some ((-1), m)))
def G11_strike (m : Mem) (x1 : Int) : Option (Int × Mem) := G11_strike_0 m x1
def G11_stroke_0 (m : Mem) (x1 : Int) (x2 : Int) : Option (Int × Mem) := (G11_isSurfer m x1).bind fun o1 => if o1.1 = 0 then (some ((-1), o1.2)) else (if x2 < 0 then (some ((-1), o1.2)) else (if x2 < 4 then (gdx x1 5 ((G8_cellBeside o1.2 ((o1.2 0 3).toNat) (o1.2 (69 + 1) x1) x2).bind fun o14 => if o14.1 = (-1) then (some ((-2), o14.2)) else ((G4_isIn o14.2 69 x1 (o14.2 69 0)).bind fun o23 => if o23.1 = 0 then (some ((-2), o23.2)) else (gdx x1 5 (gdx x1 5 (if (o23.2 (69 + 5) x1) < (o23.2 ((o23.2 0 3).toNat + 5) x1) then (gdx x1 5 (wt (up o23.2 (69 + 1) x1 o14.1) fun m46 => gdx x1 5 (gdx x1 5 (gd3 ((m46 (69 + 5) x1) + 1) (wt (up m46 (69 + 5) x1 ((m46 (69 + 5) x1) + 1)) fun m54 => (G9_add m54 x1 (o1.2 (69 + 1) x1)).bind fun o57 => some (o14.1, o57)))))) else (some ((-2), o23.2)))))))) else (some ((-1), o1.2))))
def G11_stroke (m : Mem) (x1 : Int) (x2 : Int) : Option (Int × Mem) := G11_stroke_0 m x1 x2
def G11_table_39 (m : Mem) (x1 : Int) (x2 : Int) (x3 : Int) : Option (Int × Mem) := (G11_runBy m x1 x2).bind fun o1 => if x3 = 5 then (some ((o1 76 3), o1)) else (if x3 = 6 then (some ((o1 76 4), o1)) else (if x3 = 7 then ((G4_unlike o1 76 (o1 ((o1 0 3).toNat + 1) 0)).bind fun o22 => some (o22.1, o22.2)) else (gdx x3 5 (some ((o1 (76 + 2) x3), o1)))))
def G11_table_0 (m : Mem) (x1 : Int) (x2 : Int) (x3 : Int) : Option (Int × Mem) := (G11_isRule m x1).bind fun o1 => if o1.1 = 0 then (some ((-1), o1.2)) else (if x2 < 0 then (some ((-1), o1.2)) else (if x3 < 0 then (some ((-1), o1.2)) else (if x3 ≤ 7 then (if 5 ≤ x3 then (G11_table_39 o1.2 x1 x2 x3) else ((G11_isSurfer o1.2 x3).bind fun o8 => if o8.1 = 0 then (some ((-1), o8.2)) else (G11_table_39 o8.2 x1 x2 x3))) else (some ((-1), o1.2)))))
def G11_table (m : Mem) (x1 : Int) (x2 : Int) (x3 : Int) : Option (Int × Mem) := G11_table_0 m x1 x2 x3
def G11_text_0 (m : Mem) (x1 : Int) : Option (Int × Mem) := if x1 < 0 then (some ((-2), m)) else (if x1 ≤ (m 0 1) then (wt (up m 0 1 0) fun m5 => (G5_readAll m5 x1 ((m5 0 4).toNat)).bind fun o13 => if o13.1 = 0 then (some ((-1), o13.2)) else (wt (up o13.2 0 3 (((o13.2 0 4).toNat : Nat) : Int)) fun m20 => wt (up m20 0 4 (((o13.2 0 3).toNat : Nat) : Int)) fun m22 => (G11_beginAnew m22).bind fun o24 => some ((o24 ((o24 0 3).toNat) 12), o24))) else (some ((-2), m)))
def G11_text (m : Mem) (x1 : Int) : Option (Int × Mem) := G11_text_0 m x1
def G11_tried_96 : Nat → Mem → Int → Option (Int × Mem)
  | 0, _, _ => none
  | n + 1, m, x5 => if (m ((m 0 3).toNat + 8) 1) ≤ x5 then ((G4_hadInSum m 76 (m ((m 0 3).toNat + 1) 0)).bind fun o16 => some (o16.1, o16.2)) else ((G6_bringWave m 60 76 x5).bind fun o22 => gd3 (x5 + 1) (G11_tried_96 n o22 (x5 + 1)))
def G11_tried_54 (m : Mem) (x1 : Int) (x2 : Int) (x3 : Int) : Option (Int × Mem) := (G4_takeForRun m 76 69 (m 69 1) x3).bind fun o9 => (G6_takeOver o9 60 51).bind fun o15 => (G11_changeTrial o15 x1 x2).bind fun o17 => (G11_firstToCome o17).bind fun o19 => G11_tried_96 1024 o19.2 o19.1
def G11_tried_30 (m : Mem) (x1 : Int) (x2 : Int) (x3 : Int) (s0 : Int) : Option (Int × Mem) := if s0 = 0 then (if x2 = 0 then (G11_tried_54 m x1 x2 x3) else (some ((-1), m))) else ((G11_isSurfer m x2).bind fun o3 => if o3.1 = 0 then (some ((-1), o3.2)) else (G11_tried_54 o3.2 x1 x2 x3))
def G11_tried_25 (m : Mem) (x1 : Int) (x2 : Int) (x3 : Int) : Option (Int × Mem) := G11_tried_30 m x1 x2 x3 1
def G11_tried_0 (m : Mem) (x1 : Int) (x2 : Int) (x3 : Int) : Option (Int × Mem) := if x1 < 0 then (some ((-1), m)) else (if 4 < x1 then (some ((-1), m)) else (if 0 ≤ x3 then (if x1 = 1 then (G11_tried_25 m x1 x2 x3) else (if x1 = 4 then (G11_tried_25 m x1 x2 x3) else (G11_tried_30 m x1 x2 x3 0))) else (some ((-1), m))))
def G11_tried (m : Mem) (x1 : Int) (x2 : Int) (x3 : Int) : Option (Int × Mem) := G11_tried_0 m x1 x2 x3
def G11_undo_97 (m : Mem) : Option (Int × Mem) := some ((m 96 0), m)
def G11_undo_0 (m : Mem) : Option (Int × Mem) := if 1 ≤ (m 96 0) then (gd3 ((m 96 0) - 1) (wt (up m 96 0 ((m 96 0) - 1)) fun m10 => gdx (m10 96 0) 20 (gdx (m10 96 0) 20 (if (m10 97 (m10 96 0)) = (-1) then (wt (up m10 69 1 (m10 98 (m10 96 0))) fun m49 => G11_undo_97 m49) else (gdx (m10 97 (m10 96 0)) 5 (wt (up m10 (69 + 1) (m10 97 (m10 96 0)) (m10 98 (m10 96 0))) fun m38 => gdx (m10 97 (m10 96 0)) 5 (gdx (m10 97 (m10 96 0)) 5 (gd3 ((m38 (69 + 5) (m10 97 (m10 96 0))) - 1) (wt (up m38 (69 + 5) (m10 97 (m10 96 0)) ((m38 (69 + 5) (m10 97 (m10 96 0))) - 1)) fun m46 => G11_undo_97 m46))))))))) else (some ((-1), m))
def G11_undo (m : Mem) : Option (Int × Mem) := G11_undo_0 m
def G11_wave_0 (m : Mem) (x1 : Int) (x2 : Int) : Option (Int × Mem) := (G11_isWave m x1).bind fun o1 => if o1.1 = 0 then (some ((-4), o1.2)) else (if x2 = 0 then (gdx x1 28 (some ((o1.2 ((o1.2 0 3).toNat + 11) x1), o1.2))) else (if x2 = 1 then (gdx x1 28 (some ((o1.2 ((o1.2 0 3).toNat + 12) x1), o1.2))) else (if x2 = 2 then (gdx x1 28 (some ((o1.2 ((o1.2 0 3).toNat + 13) x1), o1.2))) else (if x2 = 3 then (gdx x1 28 (some ((o1.2 ((o1.2 0 3).toNat + 14) x1), o1.2))) else (if x2 = 4 then (gdx x1 28 (some ((o1.2 (69 + 6) x1), o1.2))) else (some ((-4), o1.2)))))))
def G11_wave (m : Mem) (x1 : Int) (x2 : Int) : Option (Int × Mem) := G11_wave_0 m x1 x2
def G12_layNames_88 (m : Mem) (t0 : Int) (s1 : Int) : Option Mem := gdx s1 6 (wt (up m 23 s1 t0) fun m2 => some m2)
def G12_layNames_46 (m : Mem) (x4 : Int) (x5 : Int) (t0 : Int) (s1 : Int) : Option Mem := gdx s1 6 (wt (up m 23 s1 t0) fun m2 => wt (up m2 23 4 x5) fun m6 => if 0 ≤ x4 then (gdx x4 56 (gdx (m6 14 x4) 8 (gd3 ((x4 - (m6 11 (m6 14 x4))) + 1) (G12_layNames_88 m6 ((x4 - (m6 11 (m6 14 x4))) + 1) 5)))) else (G12_layNames_88 m6 0 5))
def G12_layNames_0 (m : Mem) (x1 : Int) (x2 : Int) (x3 : Int) (x4 : Int) (x5 : Int) : Option Mem := wt (up m 23 0 x1) fun m4 => wt (up m4 23 1 x2) fun m8 => wt (up m8 23 2 x3) fun m12 => if 0 ≤ x4 then (gdx x4 56 (G12_layNames_46 m12 x4 x5 (m12 13 x4) 3)) else (G12_layNames_46 m12 x4 x5 0 3)
def G12_layNames (m : Mem) (x1 : Int) (x2 : Int) (x3 : Int) (x4 : Int) (x5 : Int) : Option Mem := G12_layNames_0 m x1 x2 x3 x4 x5
def G12_bounded_29 (m : Mem) (j1 : Int) (s0 : Int) : Option (Int × Mem) := gdb s0 (wt (up m 0 54 s0) fun m1 => if (m1 0 54) = 0 then (some (j1, m1)) else (some (0, m1)))
def G12_bounded_24 (m : Mem) (j1 : Int) : Option (Int × Mem) := G12_bounded_29 m j1 1
def G12_bounded_0 (m : Mem) (j1 : Int) : Option (Int × Mem) := if (m 0 54) = 0 then (if 1000000000000 < j1 then (G12_bounded_24 m j1) else (if (-1000000000000) ≤ j1 then (G12_bounded_29 m j1 0) else (G12_bounded_24 m j1))) else (G12_bounded_24 m j1)
def G12_bounded (m : Mem) (j1 : Int) : Option (Int × Mem) := G12_bounded_0 m j1
def G12_times_69 (m : Mem) (j1 : Int) (j3 : Int) (s0 : Int) : Option (Int × Mem) := gdb s0 (wt (up m 0 54 s0) fun m1 => if (m1 0 54) = 0 then (gd6 (j1 * j3) (some ((j1 * j3), m1))) else (some (0, m1)))
def G12_times_64 (m : Mem) (j1 : Int) (j3 : Int) : Option (Int × Mem) := G12_times_69 m j1 j3 1
def G12_times_49 (m : Mem) (j1 : Int) (j3 : Int) (s0 : Int) : Option (Int × Mem) := if (m 0 54) = 0 then (if s0 = 0 then (G12_times_69 m j1 j3 0) else (G12_times_64 m j1 j3)) else (G12_times_64 m j1 j3)
def G12_times_48 (m : Mem) (j1 : Int) (j3 : Int) : Option (Int × Mem) := G12_times_49 m j1 j3 0
def G12_times_39 (m : Mem) (j1 : Int) (j3 : Int) (t0 : Int) (t1 : Int) (t2 : Int) : Option (Int × Mem) := if t0 = 0 then (none) else (gd6 (Int.tdiv t1 t0) (if t2 ≤ (Int.tdiv t1 t0) then (G12_times_48 m j1 j3) else (G12_times_49 m j1 j3 1)))
def G12_times_24 (m : Mem) (j1 : Int) (j3 : Int) (t0 : Int) : Option (Int × Mem) := if 0 ≤ j1 then (G12_times_39 m j1 j3 j1 1000000000000 t0) else (gd6 (-j1) (G12_times_39 m j1 j3 (-j1) 1000000000000 t0))
def G12_times_0 (m : Mem) (j1 : Int) (j3 : Int) : Option (Int × Mem) := if j1 = 0 then (G12_times_48 m j1 j3) else (if j3 = 0 then (G12_times_48 m j1 j3) else (if 0 ≤ j3 then (G12_times_24 m j1 j3 j3) else (gd6 (-j3) (G12_times_24 m j1 j3 (-j3)))))
def G12_times (m : Mem) (j1 : Int) (j3 : Int) : Option (Int × Mem) := G12_times_0 m j1 j3
def G12_compares_0 (m : Mem) (x0 : Int) (j1 : Int) (j3 : Int) : Option (Int × Mem) := if x0 = 5 then (if j3 ≤ j1 then (some (0, m)) else (some (1, m))) else (if x0 = 6 then (if j3 < j1 then (some (0, m)) else (some (1, m))) else (if x0 = 7 then (if j1 = j3 then (some (1, m)) else (some (0, m))) else (if x0 = 8 then (if j1 = j3 then (some (0, m)) else (some (1, m))) else (if x0 = 9 then (if j1 < j3 then (some (0, m)) else (some (1, m))) else (if j1 ≤ j3 then (some (0, m)) else (some (1, m)))))))
def G12_compares (m : Mem) (x0 : Int) (j1 : Int) (j3 : Int) : Option (Int × Mem) := G12_compares_0 m x0 j1 j3
def G12_valueOf_240 (m : Mem) (j2 : Int) (j4 : Int) (s0 : Int) : Option (Int × Mem) := gdb s0 (wt (up m 0 54 s0) fun m1 => if (m1 0 54) = 0 then (if j4 = 0 then (none) else (gd6 (Int.tdiv j2 j4) (some ((Int.tdiv j2 j4), m1)))) else (some (0, m1)))
def G12_valueOf_235 (m : Mem) (j2 : Int) (j4 : Int) : Option (Int × Mem) := G12_valueOf_240 m j2 j4 1
def G12_valueOf_0 (m : Mem) (x1 : Int) : Option (Int × Mem) := gdx x1 128 (if (m 18 x1) = 0 then (gdx x1 128 (some ((m 19 x1), m))) else (gdx x1 128 (if (m 18 x1) = 1 then (gdx x1 128 (gdx (m 19 x1) 6 (some ((m 23 (m 19 x1)), m)))) else (gdx x1 128 (gdx (m 19 x1) 64 (gdx x1 128 (if (m 18 x1) = 2 then (if (m 24 (m 19 x1)) = 0 then (some (1, m)) else (some (0, m))) else (gdx x1 128 (gdx (m 20 x1) 64 (gdx x1 128 (if (m 18 x1) = 3 then (if (m 24 (m 19 x1)) = 0 then (some (0, m)) else (if (m 24 (m 20 x1)) = 0 then (some (0, m)) else (some (1, m)))) else (if (m 18 x1) = 4 then (if (m 24 (m 19 x1)) = 0 then (if (m 24 (m 20 x1)) = 0 then (some (0, m)) else (some (1, m))) else (some (1, m))) else (if (m 18 x1) = 11 then (gd6 ((m 24 (m 19 x1)) + (m 24 (m 20 x1))) ((G12_bounded m ((m 24 (m 19 x1)) + (m 24 (m 20 x1)))).bind fun o43 => some (o43.1, o43.2))) else (if (m 18 x1) = 12 then (gd6 ((m 24 (m 19 x1)) - (m 24 (m 20 x1))) ((G12_bounded m ((m 24 (m 19 x1)) - (m 24 (m 20 x1)))).bind fun o46 => some (o46.1, o46.2))) else (if (m 18 x1) = 13 then ((G12_times m (m 24 (m 19 x1)) (m 24 (m 20 x1))).bind fun o49 => some (o49.1, o49.2)) else (if (m 18 x1) = 14 then (if (m 0 54) = 0 then (if (m 24 (m 20 x1)) = 0 then (G12_valueOf_235 m (m 24 (m 19 x1)) (m 24 (m 20 x1))) else (G12_valueOf_240 m (m 24 (m 19 x1)) (m 24 (m 20 x1)) 0)) else (G12_valueOf_235 m (m 24 (m 19 x1)) (m 24 (m 20 x1)))) else (gdx x1 128 ((G12_compares m (m 18 x1) (m 24 (m 19 x1)) (m 24 (m 20 x1))).bind fun o60 => if o60.1 = 0 then (some (0, o60.2)) else (some (1, o60.2))))))))))))))))))))
def G12_valueOf (m : Mem) (x1 : Int) : Option (Int × Mem) := G12_valueOf_0 m x1
def G12_lawOf_12 : Nat → Mem → Int → Int → Option (Int × Mem)
  | 0, _, _, _ => none
  | n + 1, m, x1, x2 => gdx x1 6 (if (m 17 x1) ≤ x2 then (if (m 0 54) = 0 then (gdx x1 6 (gdx ((m 17 x1) - 1) 64 (some ((m 24 ((m 17 x1) - 1)), m)))) else (some (0, m))) else ((G12_valueOf m x2).bind fun o19 => gdx x2 64 (wt (up o19.2 24 x2 o19.1) fun m22 => gd3 (x2 + 1) (G12_lawOf_12 n m22 x1 (x2 + 1)))))
def G12_lawOf_0 (m : Mem) (x1 : Int) : Option (Int × Mem) := wt (up m 0 54 0) fun m1 => gdx x1 6 (G12_lawOf_12 1024 m1 x1 (m1 16 x1))
def G12_lawOf (m : Mem) (x1 : Int) : Option (Int × Mem) := G12_lawOf_0 m x1
def G12_boundLaw_0 (m : Mem) (x1 : Int) (x2 : Int) (x3 : Int) (x4 : Int) : Option (Int × Mem) := gdx x1 6 (if (m 15 x1) = 0 then (some (x2, m)) else ((G12_lawOf m x1).bind fun o6 => if (o6.2 0 54) = 0 then (if x3 ≤ o6.1 then (if o6.1 ≤ x4 then (gd3 o6.1 (some (o6.1, o6.2))) else (some (x4, o6.2))) else (some (x3, o6.2))) else (some (x2, o6.2))))
def G12_boundLaw (m : Mem) (x1 : Int) (x2 : Int) (x3 : Int) (x4 : Int) : Option (Int × Mem) := G12_boundLaw_0 m x1 x2 x3 x4
def G12_peakAt_37 (m : Mem) (s0 : Int) (s1 : Int) : Option (Int × Mem) := gd3 (s1 + s0) (if 0 ≤ (s1 + s0) then (gd3 (s1 + s0) (if (s1 + s0) < (m 0 12) then (gd3 (((m 0 12) * (m 4 1)) + (s1 + s0)) (some ((((m 0 12) * (m 4 1)) + (s1 + s0)), m))) else (gd3 (((m 0 12) * (m 4 1)) + ((m 0 12) - 1)) (some ((((m 0 12) * (m 4 1)) + ((m 0 12) - 1)), m))))) else (gd3 (((m 0 12) * (m 4 1)) + 0) (some ((((m 0 12) * (m 4 1)) + 0), m))))
def G12_peakAt_0 (m : Mem) (x1 : Int) : Option (Int × Mem) := (G12_layNames m 0 0 0 (-1) x1).bind fun o1 => if (o1 0 66) = 2 then (G12_peakAt_37 o1 0 (o1 4 0)) else ((G12_boundLaw o1 1 0 (-8) 8).bind fun o10 => G12_peakAt_37 o10.2 o10.1 (o1 4 0))
def G12_peakAt (m : Mem) (x1 : Int) : Option (Int × Mem) := G12_peakAt_0 m x1
def G12_far_39 (m : Mem) (x4 : Int) (s0 : Int) : Option (Int × Mem) := if 0 ≤ x4 then (gd3 (s0 + x4) (some ((s0 + x4), m))) else (gd3 (s0 + (-x4)) (some ((s0 + (-x4)), m)))
def G12_far_0 (m : Mem) (x1 : Int) (x2 : Int) : Option (Int × Mem) := if (m 0 12) = 0 then (none) else (if (m 0 12) = 0 then (none) else (if (m 0 12) = 0 then (none) else (if (m 0 12) = 0 then (none) else (gdd x1 (m 0 12) (gdd x2 (m 0 12) (gd3 ((x1 % (m 0 12)) - (x2 % (m 0 12))) (if 0 ≤ ((x1 % (m 0 12)) - (x2 % (m 0 12))) then (gdd x1 (m 0 12) (gdd x2 (m 0 12) (gd3 ((x1 / (m 0 12)) - (x2 / (m 0 12))) (gdd x1 (m 0 12) (gdd x2 (m 0 12) (gd3 ((x1 % (m 0 12)) - (x2 % (m 0 12))) (G12_far_39 m ((x1 / (m 0 12)) - (x2 / (m 0 12))) ((x1 % (m 0 12)) - (x2 % (m 0 12)))))))))) else (gdd x1 (m 0 12) (gdd x2 (m 0 12) (gd3 ((x1 / (m 0 12)) - (x2 / (m 0 12))) (gdd x1 (m 0 12) (gdd x2 (m 0 12) (gd3 (-((x1 % (m 0 12)) - (x2 % (m 0 12)))) (G12_far_39 m ((x1 / (m 0 12)) - (x2 / (m 0 12))) (-((x1 % (m 0 12)) - (x2 % (m 0 12))))))))))))))))))
def G12_far (m : Mem) (x1 : Int) (x2 : Int) : Option (Int × Mem) := G12_far_0 m x1 x2
def G12_boardOf_0 (m : Mem) (x1 : Int) : Option (Int × Mem) := if (m 0 66) = 3 then (some (9, m)) else (gdx x1 10 (some ((m 7 x1), m)))
def G12_boardOf (m : Mem) (x1 : Int) : Option (Int × Mem) := G12_boardOf_0 m x1
def G12_layCatch_0 (m : Mem) (x1 : Int) (x2 : Int) (x3 : Int) : Option (Int × Mem) := gdx x2 56 ((G12_peakAt m (m 12 x2)).bind fun o5 => (G12_far o5.2 x3 o5.1).bind fun o7 => if (o7.2 0 12) = 0 then (none) else (if (o7.2 0 12) = 0 then (none) else ((G12_boardOf o7.2 x1).bind fun o15 => gdx x2 56 (gdd x3 (o7.2 0 12) (gdd o5.1 (o7.2 0 12) (gd3 ((x3 / (o7.2 0 12)) - (o5.1 / (o7.2 0 12))) ((G12_layNames o15.2 o7.1 ((x3 / (o7.2 0 12)) - (o5.1 / (o7.2 0 12))) o15.1 x2 (o15.2 12 x2)).bind fun o21 => some (o7.1, o21))))))))
def G12_layCatch (m : Mem) (x1 : Int) (x2 : Int) (x3 : Int) : Option (Int × Mem) := G12_layCatch_0 m x1 x2 x3
def G12_oddsOf_29 (m : Mem) (s0 : Int) (s1 : Int) : Option (Int × Mem) := (G12_boundLaw m s1 s0 0 100).bind fun o1 => some (o1.1, o1.2)
def G12_oddsOf_0 (m : Mem) (x1 : Int) (x2 : Int) (x3 : Int) : Option (Int × Mem) := (G12_layCatch m x1 x2 x3).bind fun o1 => if 5 ≤ o1.1 then (G12_oddsOf_29 o1.2 0 0) else (gd3 (100 - (20 * o1.1)) (G12_oddsOf_29 o1.2 (100 - (20 * o1.1)) 0))
def G12_oddsOf (m : Mem) (x1 : Int) (x2 : Int) (x3 : Int) : Option (Int × Mem) := G12_oddsOf_0 m x1 x2 x3
def G12_isGoing_29 (m : Mem) (x1 : Int) (x2 : Int) (x3 : Int) : Option (Int × Mem) := gdx ((5 * x1) + x2) 10 ((G12_oddsOf m x2 x3 (m 25 ((5 * x1) + x2))).bind fun o5 => if o5.1 ≤ 0 then (some (0, o5.2)) else (some (1, o5.2)))
def G12_isGoing_0 (m : Mem) (x1 : Int) (x2 : Int) (x3 : Int) : Option (Int × Mem) := gdx ((5 * x1) + x2) 10 (if (m 28 ((5 * x1) + x2)) = 0 then (if (m 0 66) = 1 then (if (m 0 67) = x2 then (some (0, m)) else (G12_isGoing_29 m x1 x2 x3)) else (G12_isGoing_29 m x1 x2 x3)) else (some (0, m)))
def G12_isGoing (m : Mem) (x1 : Int) (x2 : Int) (x3 : Int) : Option (Int × Mem) := G12_isGoing_0 m x1 x2 x3
def G12_keyOf_122 (kk76 : Mem → Int → Int → Int → Int → Int → Int → Option (Int × Mem)) (m : Mem) (x1 : Int) (x2 : Int) (x3 : Int) (x6 : Int) (x8 : Int) : Option (Int × Mem) := gd3 (x8 + 1) (kk76 m x1 x2 x3 x6 1 (x8 + 1))
def G12_keyOf_76 : Nat → Mem → Int → Int → Int → Int → Int → Int → Option (Int × Mem)
  | 0, _, _, _, _, _, _, _ => none
  | n + 1, m, x1, x2, x3, x6, x7, x8 => if (m 0 16) ≤ x8 then (if x7 = 0 then (gd3 (0 + x6) (some ((0 + x6), m))) else (gd3 (1000 + x6) (some ((1000 + x6), m)))) else (if x7 = 0 then (gdx x8 56 (gdx x3 56 (if (m 14 x8) = (m 14 x3) then (gdx ((28 * x1) + x8) 56 (if (m 30 ((28 * x1) + x8)) = x2 then (G12_keyOf_122 (fun m x1 x2 x3 x6 x7 x8 => G12_keyOf_76 n m x1 x2 x3 x6 x7 x8) m x1 x2 x3 x6 x8) else (gd3 (x8 + 1) (G12_keyOf_76 n m x1 x2 x3 x6 0 (x8 + 1))))) else (gd3 (x8 + 1) (G12_keyOf_76 n m x1 x2 x3 x6 0 (x8 + 1)))))) else (G12_keyOf_122 (fun m x1 x2 x3 x6 x7 x8 => G12_keyOf_76 n m x1 x2 x3 x6 x7 x8) m x1 x2 x3 x6 x8))
def G12_keyOf_0 (m : Mem) (x1 : Int) (x2 : Int) (x3 : Int) (x4 : Int) : Option (Int × Mem) := gdx ((5 * x1) + x2) 10 (gdx x3 56 ((G12_peakAt m (m 12 x3)).bind fun o9 => (G12_far o9.2 (m 25 ((5 * x1) + x2)) o9.1).bind fun o11 => if x4 = 0 then (some (o11.1, o11.2)) else (if x4 = 1 then (gdx ((5 * x1) + x2) 10 (some ((o11.2 26 ((5 * x1) + x2)), o11.2))) else (if x4 = 3 then (if (o11.2 0 12) = 0 then (none) else (gdd (m 25 ((5 * x1) + x2)) (o11.2 0 12) (gd3 (-((m 25 ((5 * x1) + x2)) / (o11.2 0 12))) (some ((-((m 25 ((5 * x1) + x2)) / (o11.2 0 12))), o11.2))))) else (G12_keyOf_76 1024 o11.2 x1 x2 x3 o11.1 0 0)))))
def G12_keyOf (m : Mem) (x1 : Int) (x2 : Int) (x3 : Int) (x4 : Int) : Option (Int × Mem) := G12_keyOf_0 m x1 x2 x3 x4
def G12_layOrder_96 (kk8 : Mem → Int → Int → Int → Int → Option Mem) (m : Mem) (x1 : Int) (x2 : Int) (x3 : Int) (x4 : Int) (x6 : Int) : Option Mem := gdx x6 5 (wt (up m 34 x6 x4) fun m4 => gd3 ((m4 0 69) + 1) (wt (up m4 0 69 ((m4 0 69) + 1)) fun m7 => gd3 (x4 + 1) (kk8 m7 x1 x2 x3 (x4 + 1))))
def G12_layOrder_48 (kk8 : Mem → Int → Int → Int → Int → Option Mem) : Nat → Mem → Int → Int → Int → Int → Int → Int → Option Mem
  | 0, _, _, _, _, _, _, _ => none
  | n + 1, m, x1, x2, x3, x4, x5, x6 => if x6 ≤ 0 then (G12_layOrder_96 kk8 m x1 x2 x3 x4 x6) else (gdx (x6 - 1) 5 ((G12_keyOf m x1 (m 34 (x6 - 1)) x2 x3).bind fun o6 => if o6.1 ≤ x5 then (G12_layOrder_96 kk8 o6.2 x1 x2 x3 x4 x6) else (gdx (x6 - 1) 5 (gdx x6 5 (wt (up o6.2 34 x6 (o6.2 34 (x6 - 1))) fun m16 => gd3 (x6 + (-1)) (G12_layOrder_48 kk8 n m16 x1 x2 x3 x4 x5 (x6 + (-1))))))))
def G12_layOrder_8 : Nat → Mem → Int → Int → Int → Int → Option Mem
  | 0, _, _, _, _, _ => none
  | n + 1, m, x1, x2, x3, x4 => if (m 0 14) ≤ x4 then (some m) else ((G12_isGoing m x1 x4 x2).bind fun o4 => if o4.1 = 0 then (gd3 (x4 + 1) (G12_layOrder_8 n o4.2 x1 x2 x3 (x4 + 1))) else ((G12_keyOf o4.2 x1 x4 x2 x3).bind fun o7 => G12_layOrder_48 (fun m x1 x2 x3 x4 => G12_layOrder_8 n m x1 x2 x3 x4) 1024 o7.2 x1 x2 x3 x4 o7.1 (o7.2 0 69)))
def G12_layOrder_0 (m : Mem) (x1 : Int) (x2 : Int) (x3 : Int) : Option Mem := wt (up m 0 69 0) fun m1 => G12_layOrder_8 1024 m1 x1 x2 x3 0
def G12_layOrder (m : Mem) (x1 : Int) (x2 : Int) (x3 : Int) : Option Mem := G12_layOrder_0 m x1 x2 x3
def G12_number1_0 (m : Mem) (x1 : Int) : Option (Int × Mem) := wt (up m 0 65 (b6an (((m 0 65) * 1103515245) + 12345) 2147483647)) fun m3 => if x1 = 0 then (none) else (gd6 (Int.tdiv (m3 0 65) 65536) (gd3 (Int.tmod (Int.tdiv (m3 0 65) 65536) x1) (some ((Int.tmod (Int.tdiv (m3 0 65) 65536) x1), m3))))
def G12_number1 (m : Mem) (x1 : Int) : Option (Int × Mem) := G12_number1_0 m x1
def G12_awayOf_0 (m : Mem) (x1 : Int) (x2 : Int) : Option (Int × Mem) := (G12_boardOf m x1).bind fun o1 => gdx x2 56 ((G12_layNames o1.2 0 0 o1.1 x2 (o1.2 12 x2)).bind fun o7 => (G12_boundLaw o7 2 5 1 30).bind fun o9 => some (o9.1, o9.2))
def G12_awayOf (m : Mem) (x1 : Int) (x2 : Int) : Option (Int × Mem) := G12_awayOf_0 m x1 x2
def G12_goesAway_0 (m : Mem) (x1 : Int) (x2 : Int) (x3 : Int) (x4 : Int) : Option Mem := gdx x1 2 ((G12_awayOf m x2 x3).bind fun o7 => gdx ((5 * x1) + x2) 10 (gd3 ((m 31 x1) + (x4 * o7.1)) (wt (up o7.2 28 ((5 * x1) + x2) ((m 31 x1) + (x4 * o7.1))) fun m10 => some m10)))
def G12_goesAway (m : Mem) (x1 : Int) (x2 : Int) (x3 : Int) (x4 : Int) : Option Mem := G12_goesAway_0 m x1 x2 x3 x4
def G12_comes_141 (kk109 : Mem → Int → Int → Int → Int → Option Mem) (m : Mem) (x1 : Int) (x2 : Int) (x5 : Int) (x6 : Int) (s0 : Int) : Option Mem := if s0 = 0 then (gd3 (x6 + 1) (kk109 m x1 x2 x5 (x6 + 1))) else ((G12_number1 m 100).bind fun o2 => if o2.1 < s0 then (gdx ((28 * x1) + x2) 56 (wt (up o2.2 30 ((28 * x1) + x2) (-3)) fun m8 => gdx x1 2 (gdx x1 2 (gd3 ((m8 32 x1) + 1) (wt (up m8 32 x1 ((m8 32 x1) + 1)) fun m14 => gdx ((5 * x1) + x5) 10 (gdx ((5 * x1) + x5) 10 (gd3 ((m14 27 ((5 * x1) + x5)) + 1) (wt (up m14 27 ((5 * x1) + x5) ((m14 27 ((5 * x1) + x5)) + 1)) fun m20 => gdx x6 5 (gdx ((5 * x1) + (m20 34 x6)) 10 (gdx ((5 * x1) + (m20 34 x6)) 10 (gd3 ((m20 27 ((5 * x1) + (m20 34 x6))) + 1) (wt (up m20 27 ((5 * x1) + (m20 34 x6)) ((m20 27 ((5 * x1) + (m20 34 x6))) + 1)) fun m30 => (G12_goesAway m30 x1 x5 x2 2).bind fun o31 => gdx x6 5 ((G12_goesAway o31 x1 (o31 34 x6) x2 2).bind fun o37 => some o37))))))))))))) else (gd3 (x6 + 1) (kk109 o2.2 x1 x2 x5 (x6 + 1))))
