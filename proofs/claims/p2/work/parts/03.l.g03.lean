/-! What the pure functions do, over a memory of integers (written by wip/gen/gx.py). -/
def G12_locals_47 : Nat → Mem → Int → Int → Option (Int × Mem)
  | 0, _, _, _ => none
  | n + 1, m, x1, x2 => if x2 < 0 then (G12_locals_100 1024 m x1 0 0 0) else (gdx x2 24 (if (m 40 x2) = 0 then (gd3 (x2 + (-1)) (G12_locals_47 n m x1 (x2 + (-1)))) else (gdx (3 * x2) 72 (if 0 ≤ (m 39 (3 * x2)) then (gd3 (x2 + (-1)) (G12_locals_47 n m x1 (x2 + (-1)))) else (gdx ((3 * x2) + 1) 72 (gdx (m 39 ((3 * x2) + 1)) 24 (gdb 0 (wt (up m 40 (m 39 ((3 * x2) + 1)) 0) fun m19 => gd3 (x2 + (-1)) (G12_locals_47 n m19 x1 (x2 + (-1)))))))))))
def G12_locals_19 : Nat → Mem → Int → Int → Option (Int × Mem)
  | 0, _, _, _ => none
  | n + 1, m, x1, x2 => (G12_knownBy m).bind fun o1 => if o1.1 ≤ x2 then ((G12_knownBy o1.2).bind fun o4 => gd3 (o4.1 - 1) (G12_locals_47 1024 o4.2 x1 (o4.1 - 1))) else (gdx x2 24 (gdb 1 (wt (up o1.2 40 x2 1) fun m9 => gd3 (x2 + 1) (G12_locals_19 n m9 x1 (x2 + 1)))))
def G12_locals_0 (m : Mem) (x1 : Int) : Option (Int × Mem) := wt (up m 0 2 0) fun m1 => (G12_isIn m1 x1 0 12).bind fun o3 => if o3.1 = 0 then (some ((-1), o3.2)) else (G12_locals_19 1024 o3.2 x1 0)
def G12_locals (m : Mem) (x1 : Int) : Option (Int × Mem) := G12_locals_0 m x1
def G12_look_0 (m : Mem) (x1 : Int) (x2 : Int) : Option (Int × Mem) := wt (up m 0 2 0) fun m1 => (G12_isSurfer m1 x1).bind fun o3 => if o3.1 = 0 then ((G12_fails o3.2 1).bind fun o46 => some (o46.1, o46.2)) else (if x2 = 0 then (gdx x1 10 (some ((o3.2 25 x1), o3.2))) else (if x2 = 1 then (gdx x1 10 (some ((o3.2 26 x1), o3.2))) else (if x2 = 2 then (gdx x1 10 (some ((o3.2 27 x1), o3.2))) else (if x2 = 3 then (gdx x1 10 (some ((o3.2 28 x1), o3.2))) else (if x2 = 4 then (gdx x1 5 (some ((o3.2 29 x1), o3.2))) else (if x2 = 5 then (gdx x1 10 ((G12_peakAt o3.2 (o3.2 31 0)).bind fun o40 => (G12_far o40.2 (o3.2 25 x1) o40.1).bind fun o42 => some (o42.1, o42.2))) else ((G12_fails o3.2 2).bind fun o44 => some (o44.1, o44.2))))))))
def G12_look (m : Mem) (x1 : Int) (x2 : Int) : Option (Int × Mem) := G12_look_0 m x1 x2
def G12_minutes_94 (m : Mem) (s0 : Int) : Option (Int × Mem) := wt (up m 0 78 s0) fun m1 => some ((m1 31 0), m1)
def G12_minutes_49 (kk33 : Mem → Int → Int → Option (Int × Mem)) : Nat → Mem → Int → Int → Int → Option (Int × Mem)
  | 0, _, _, _, _ => none
  | n + 1, m, x1, x2, x3 => if (m 0 14) ≤ x3 then (gd3 (x2 + 1) (kk33 m x1 (x2 + 1))) else (gdx x3 10 (gdx x3 5 (wt (up m 29 x3 (m 8 x3)) fun m11 => gd3 (x3 + 1) (G12_minutes_49 kk33 n m11 x1 x2 (x3 + 1)))))
def G12_minutes_33 : Nat → Mem → Int → Int → Option (Int × Mem)
  | 0, _, _, _ => none
  | n + 1, m, x1, x2 => if x1 ≤ x2 then (if x1 ≤ 0 then (G12_minutes_94 m (m 0 78)) else (G12_minutes_94 m 0)) else ((G12_aMinute m 0 (m 0 64)).bind fun o7 => G12_minutes_49 (fun m x1 x2 => G12_minutes_33 n m x1 x2) 1024 o7 x1 x2 0)
def G12_minutes_0 (m : Mem) (x1 : Int) : Option (Int × Mem) := wt (up m 0 2 0) fun m1 => (G12_isIn m1 x1 0 99).bind fun o3 => if o3.1 = 0 then (some ((-1), o3.2)) else (gd3 ((o3.2 31 0) + x1) (if ((o3.2 31 0) + x1) ≤ 199 then (G12_minutes_33 1024 o3.2 x1 0) else (some ((-1), o3.2))))
def G12_minutes (m : Mem) (x1 : Int) : Option (Int × Mem) := G12_minutes_0 m x1
def G12_named_0 (m : Mem) (x1 : Int) : Option (Int × Mem) := wt (up m 0 2 0) fun m1 => (G12_find m1 0 (m1 0 14) x1).bind fun o7 => some (o7.1, o7.2)
def G12_named (m : Mem) (x1 : Int) : Option (Int × Mem) := G12_named_0 m x1
def G12_next_7 : Nat → Mem → Int → Option (Int × Mem)
  | 0, _, _ => none
  | n + 1, m, x1 => if (m 0 15) ≤ x1 then (some ((-2), m)) else (gdx x1 8 (gdx (m 11 x1) 56 (if (m 12 (m 11 x1)) < (m 31 0) then (gd3 (x1 + 1) (G12_next_7 n m (x1 + 1))) else (gdx x1 8 (gdx (m 11 x1) 56 (gd3 ((m 12 (m 11 x1)) - (m 31 0)) (some (((m 12 (m 11 x1)) - (m 31 0)), m))))))))
def G12_next_0 (m : Mem) : Option (Int × Mem) := wt (up m 0 2 0) fun m1 => G12_next_7 1024 m1 0
def G12_next (m : Mem) : Option (Int × Mem) := G12_next_0 m
def G12_noted_0 (m : Mem) (x1 : Int) (x2 : Int) (x3 : Int) : Option (Int × Mem) := gdx (3 * (m 0 74)) 72 (wt (up m 39 (3 * (m 0 74)) x1) fun m6 => gdx ((3 * (m6 0 74)) + 1) 72 (wt (up m6 39 ((3 * (m6 0 74)) + 1) x2) fun m12 => gdx ((3 * (m12 0 74)) + 2) 72 (wt (up m12 39 ((3 * (m12 0 74)) + 2) x3) fun m18 => gd3 ((m18 0 74) + 1) (wt (up m18 0 74 ((m18 0 74) + 1)) fun m21 => gd3 ((m21 0 74) - 1) (some (((m21 0 74) - 1), m21))))))
def G12_noted (m : Mem) (x1 : Int) (x2 : Int) (x3 : Int) : Option (Int × Mem) := G12_noted_0 m x1 x2 x3
def G12_note_0 (m : Mem) (x1 : Int) (x2 : Int) (x3 : Int) : Option (Int × Mem) := wt (up m 0 2 0) fun m1 => if (m1 0 74) = 24 then (some ((-1), m1)) else ((G12_isIn m1 x1 0 199).bind fun o6 => if o6.1 = 0 then (some ((-1), o6.2)) else ((G12_isSurfer o6.2 x2).bind fun o9 => if o9.1 = 0 then (some ((-1), o9.2)) else ((G12_isCell o9.2 x3).bind fun o12 => if o12.1 = 0 then (some ((-1), o12.2)) else ((G12_noted o12.2 x1 x2 x3).bind fun o15 => some (o15.1, o15.2)))))
def G12_note (m : Mem) (x1 : Int) (x2 : Int) (x3 : Int) : Option (Int × Mem) := G12_note_0 m x1 x2 x3
def G12_odds_0 (m : Mem) (x1 : Int) (x2 : Int) (x3 : Int) : Option (Int × Mem) := wt (up m 0 2 0) fun m1 => (G12_isSurfer m1 x1).bind fun o3 => if o3.1 = 0 then (some ((-1), o3.2)) else ((G12_isWave o3.2 x2).bind fun o6 => if o6.1 = 0 then (some ((-1), o6.2)) else ((G12_isCell o6.2 x3).bind fun o9 => if o9.1 = 0 then (some ((-1), o9.2)) else ((G12_oddsOf o9.2 x1 x2 x3).bind fun o12 => some (o12.1, o12.2))))
def G12_odds (m : Mem) (x1 : Int) (x2 : Int) (x3 : Int) : Option (Int × Mem) := G12_odds_0 m x1 x2 x3
def G12_order_0 (m : Mem) (x1 : Int) (x2 : Int) : Option (Int × Mem) := wt (up m 0 2 0) fun m1 => (G12_isToCome m1 x1).bind fun o3 => if o3.1 = 0 then (some ((-1), o3.2)) else (if 0 ≤ x2 then ((G12_layOrder o3.2 0 x1 (o3.2 0 64)).bind fun o9 => if x2 < (o9 0 69) then (gdx x2 5 (some ((o9 34 x2), o9))) else (some ((-2), o9))) else (some ((-1), o3.2)))
def G12_order (m : Mem) (x1 : Int) (x2 : Int) : Option (Int × Mem) := G12_order_0 m x1 x2
def G12_over_87 (kk50 : Mem → Int → Int → Int → Option (Int × Mem)) (m : Mem) (x1 : Int) (x2 : Int) (x3 : Int) (s0 : Int) : Option (Int × Mem) := gdx x1 10 ((G12_seatFrom m x1 (m 25 x1) x3).bind fun o9 => gd3 ((100 * (m 4 4)) * s0) (if ((100 * (m 4 4)) * s0) ≤ o9.1 then (gd3 (x3 + 1) (kk50 o9.2 x1 x2 (x3 + 1))) else (some (x3, o9.2))))
def G12_over_50 : Nat → Mem → Int → Int → Int → Option (Int × Mem)
  | 0, _, _, _, _ => none
  | n + 1, m, x1, x2, x3 => if x2 < x3 then (some ((-2), m)) else (gd3 ((x2 - x3) - (m 4 2)) (if 0 ≤ ((x2 - x3) - (m 4 2)) then (if (m 4 3) = 0 then (none) else (gd3 ((x2 - x3) - (m 4 2)) (gdd ((x2 - x3) - (m 4 2)) (m 4 3) (gd3 ((((x2 - x3) - (m 4 2)) / (m 4 3)) + 1) (G12_over_87 (fun m x1 x2 x3 => G12_over_50 n m x1 x2 x3) m x1 x2 x3 ((((x2 - x3) - (m 4 2)) / (m 4 3)) + 1)))))) else (G12_over_87 (fun m x1 x2 x3 => G12_over_50 n m x1 x2 x3) m x1 x2 x3 0)))
def G12_over_0 (m : Mem) (x1 : Int) : Option (Int × Mem) := wt (up m 0 2 0) fun m1 => (G12_isSurfer m1 x1).bind fun o3 => if o3.1 = 0 then (some ((-1), o3.2)) else (if (o3.2 4 2) = 0 then (some ((-1), o3.2)) else (if (o3.2 0 16) = 0 then (some ((-1), o3.2)) else (gdx ((o3.2 0 16) - 1) 56 (G12_over_50 1024 o3.2 x1 (o3.2 12 ((o3.2 0 16) - 1)) (o3.2 31 0)))))
def G12_over (m : Mem) (x1 : Int) : Option (Int × Mem) := G12_over_0 m x1
def G12_peak_0 (m : Mem) (x1 : Int) : Option (Int × Mem) := wt (up m 0 2 0) fun m1 => (G12_isIn m1 x1 0 199).bind fun o3 => if o3.1 = 0 then (some ((-1), o3.2)) else ((G12_peakAt o3.2 x1).bind fun o6 => some (o6.1, o6.2))
def G12_peak (m : Mem) (x1 : Int) : Option (Int × Mem) := G12_peak_0 m x1
def G12_plan_0 (m : Mem) (x1 : Int) : Option (Int × Mem) := wt (up m 0 2 0) fun m1 => (G12_isSurfer m1 x1).bind fun o3 => if o3.1 = 0 then (some ((-1), o3.2)) else ((G12_layPlan o3.2 x1).bind fun o6 => (G12_firstToCome o6).bind fun o10 => gdx o10.1 29 (some ((o10.2 37 o10.1), o10.2)))
def G12_plan (m : Mem) (x1 : Int) : Option (Int × Mem) := G12_plan_0 m x1
def G12_planned_109 (kk32 : Mem → Int → Int → Int → Option (Int × Mem)) (m : Mem) (x1 : Int) (x4 : Int) (x5 : Int) (s0 : Int) (s1 : Int) : Option (Int × Mem) := if x5 = 0 then (gd3 (s1 - s0) (gd3 (x4 + 1) (kk32 m x1 (s1 - s0) (x4 + 1)))) else (gdx x4 28 (gd3 (s1 - s0) (kk32 m x1 (s1 - s0) (m 38 x4))))
def G12_planned_98 (kk32 : Mem → Int → Int → Int → Option (Int × Mem)) (m : Mem) (x1 : Int) (x3 : Int) (x4 : Int) (x5 : Int) : Option (Int × Mem) := if x5 = 0 then (G12_planned_109 kk32 m x1 x4 x5 0 x3) else (G12_planned_109 kk32 m x1 x4 x5 1 x3)
def G12_planned_84 (kk32 : Mem → Int → Int → Int → Option (Int × Mem)) (m : Mem) (x1 : Int) (x3 : Int) (x4 : Int) (s0 : Int) : Option (Int × Mem) := if s0 = 0 then (G12_planned_98 kk32 m x1 x3 x4 s0) else (if x3 = 0 then (some (x4, m)) else (G12_planned_98 kk32 m x1 x3 x4 s0))
def G12_planned_32 : Nat → Mem → Int → Int → Int → Option (Int × Mem)
  | 0, _, _, _, _ => none
  | n + 1, m, x1, x3, x4 => if (m 0 16) ≤ x4 then (some ((-2), m)) else (gdx x1 10 ((G12_gainOf m x1 x4 (m 25 x1)).bind fun o8 => gdx x4 28 (gdx (o8.2 38 x4) 29 (gdx (x4 + 1) 29 (gd3 (o8.1 + (o8.2 37 (o8.2 38 x4))) (if (o8.1 + (o8.2 37 (o8.2 38 x4))) < (o8.2 37 (x4 + 1)) then (G12_planned_84 (fun m x1 x3 x4 => G12_planned_32 n m x1 x3 x4) o8.2 x1 x3 x4 0) else (G12_planned_84 (fun m x1 x3 x4 => G12_planned_32 n m x1 x3 x4) o8.2 x1 x3 x4 1)))))))
def G12_planned_0 (m : Mem) (x1 : Int) (x2 : Int) : Option (Int × Mem) := wt (up m 0 2 0) fun m1 => (G12_isSurfer m1 x1).bind fun o3 => if o3.1 = 0 then (some ((-1), o3.2)) else (if 0 ≤ x2 then ((G12_layPlan o3.2 x1).bind fun o7 => (G12_firstToCome o7).bind fun o9 => G12_planned_32 1024 o9.2 x1 x2 o9.1) else (some ((-1), o3.2)))
def G12_planned (m : Mem) (x1 : Int) (x2 : Int) : Option (Int × Mem) := G12_planned_0 m x1 x2
def G12_setEnd_0 (m : Mem) (x1 : Int) : Option (Int × Mem) := gd3 (x1 + 1) (if (m 0 15) ≤ (x1 + 1) then (some ((m 0 16), m)) else (gdx (x1 + 1) 8 (some ((m 11 (x1 + 1)), m))))
def G12_setEnd (m : Mem) (x1 : Int) : Option (Int × Mem) := G12_setEnd_0 m x1
def G12_rank__79 (kk34 : Mem → Int → Int → Int → Int → Int → Option (Int × Mem)) : Nat → Mem → Int → Int → Int → Int → Int → Int → Int → Option (Int × Mem)
  | 0, _, _, _, _, _, _, _, _ => none
  | n + 1, m, x1, x2, x3, x4, x5, x6, x7 => (G12_setEnd m x5).bind fun o1 => if o1.1 ≤ x7 then (gdx x5 8 (gdx (((o1.2 11 x5) + x1) - 1) 56 (if (o1.2 13 (((o1.2 11 x5) + x1) - 1)) = x6 then (gd3 (x4 + 1) (gd3 (x5 + 1) (kk34 o1.2 x1 x2 x3 (x4 + 1) (x5 + 1)))) else (gd3 (x4 + 0) (gd3 (x5 + 1) (kk34 o1.2 x1 x2 x3 (x4 + 0) (x5 + 1))))))) else (gdx x7 56 (if (o1.2 13 x7) ≤ x6 then (gd3 (x7 + 1) (G12_rank__79 kk34 n o1.2 x1 x2 x3 x4 x5 x6 (x7 + 1))) else (gdx x7 56 (gd3 (x7 + 1) (G12_rank__79 kk34 n o1.2 x1 x2 x3 x4 x5 (o1.2 13 x7) (x7 + 1))))))
def G12_rank__34 : Nat → Mem → Int → Int → Int → Int → Int → Option (Int × Mem)
  | 0, _, _, _, _, _, _ => none
  | n + 1, m, x1, x2, x3, x4, x5 => if (m 0 15) ≤ x5 then (if x2 = 0 then (some (x4, m)) else (some (x3, m))) else ((G12_setEnd m x5).bind fun o5 => gdx x5 8 (gd3 (o5.1 - (o5.2 11 x5)) (if x1 ≤ (o5.1 - (o5.2 11 x5)) then (gdx x5 8 (gd3 (x3 + 1) (G12_rank__79 (fun m x1 x2 x3 x4 x5 => G12_rank__34 n m x1 x2 x3 x4 x5) 1024 o5.2 x1 x2 (x3 + 1) x4 x5 0 (o5.2 11 x5)))) else (gd3 (x5 + 1) (G12_rank__34 n o5.2 x1 x2 x3 x4 (x5 + 1))))))
def G12_rank__0 (m : Mem) (x1 : Int) (x2 : Int) : Option (Int × Mem) := wt (up m 0 2 0) fun m1 => (G12_isIn m1 x1 1 7).bind fun o3 => if o3.1 = 0 then (some ((-1), o3.2)) else ((G12_isIn o3.2 x2 0 1).bind fun o6 => if o6.1 = 0 then (some ((-1), o6.2)) else (G12_rank__34 1024 o6.2 x1 x2 0 0 0))
def G12_rank_ (m : Mem) (x1 : Int) (x2 : Int) : Option (Int × Mem) := G12_rank__0 m x1 x2
def G12_remember_51 : Nat → Mem → Int → Option Mem
  | 0, _, _ => none
  | n + 1, m, x1 => if 5 ≤ x1 then (gdx ((11 * (m 0 78)) + 10) 220 (wt (up m 41 ((11 * (m 0 78)) + 10) (m 0 64)) fun m9 => gd3 ((m9 0 78) + 1) (wt (up m9 0 78 ((m9 0 78) + 1)) fun m12 => some m12))) else (gdx x1 10 (gdx ((11 * (m 0 78)) + x1) 220 (wt (up m 41 ((11 * (m 0 78)) + x1) (m 25 x1)) fun m23 => gdx x1 5 (gdx (((11 * (m23 0 78)) + 5) + x1) 220 (wt (up m23 41 (((11 * (m23 0 78)) + 5) + x1) (m23 29 x1)) fun m33 => gd3 (x1 + 1) (G12_remember_51 n m33 (x1 + 1)))))))
def G12_remember_11 : Nat → Mem → Int → Option Mem
  | 0, _, _ => none
  | n + 1, m, x1 => if 209 ≤ x1 then (gd3 ((m 0 78) - 1) (wt (up m 0 78 ((m 0 78) - 1)) fun m4 => G12_remember_51 1024 m4 0)) else (gdx (x1 + 11) 220 (gdx x1 220 (wt (up m 41 x1 (m 41 (x1 + 11))) fun m13 => gd3 (x1 + 1) (G12_remember_11 n m13 (x1 + 1)))))
def G12_remember_0 (m : Mem) : Option Mem := if (m 0 78) = 20 then (G12_remember_11 1024 m 0) else (G12_remember_51 1024 m 0)
def G12_remember (m : Mem) : Option Mem := G12_remember_0 m
def G12_restAt_12 : Nat → Mem → Int → Int → Int → Option (Int × Mem)
  | 0, _, _, _, _ => none
  | n + 1, m, x3, x4, x5 => if 25 ≤ x5 then (if 0 ≤ x3 then (some ((-2), m)) else (some (x4, m))) else ((G12_isRest m x5).bind fun o3 => if o3.1 = 0 then (gd3 (x5 + 1) (G12_restAt_12 n o3.2 x3 x4 (x5 + 1))) else (if x4 = x3 then (gdd x5 5 ((G12_wayAt o3.2 (x5 / 5)).bind fun o7 => gdd x5 5 ((G12_wayAt o7.2 (x5 % 5)).bind fun o9 => gd3 ((10 * o7.1) + o9.1) (some (((10 * o7.1) + o9.1), o9.2))))) else (gd3 (x4 + 1) (gd3 (x5 + 1) (G12_restAt_12 n o3.2 x3 (x4 + 1) (x5 + 1))))))
def G12_restAt_0 (m : Mem) (x1 : Int) (x2 : Int) (x3 : Int) : Option (Int × Mem) := (G12_layGame m x1 x2).bind fun o1 => G12_restAt_12 1024 o1 x3 0 0
def G12_restAt (m : Mem) (x1 : Int) (x2 : Int) (x3 : Int) : Option (Int × Mem) := G12_restAt_0 m x1 x2 x3
def G12_rest_0 (m : Mem) (x1 : Int) (x2 : Int) (x3 : Int) : Option (Int × Mem) := wt (up m 0 2 0) fun m1 => (G12_isSurfer m1 x1).bind fun o3 => if o3.1 = 0 then (some ((-1), o3.2)) else ((G12_isSurfer o3.2 x2).bind fun o6 => if o6.1 = 0 then (some ((-1), o6.2)) else (if x1 = x2 then (some ((-1), o6.2)) else (if x3 < 0 then (some ((-1), o6.2)) else ((G12_restAt o6.2 x1 x2 x3).bind fun o11 => some (o11.1, o11.2)))))
def G12_rest (m : Mem) (x1 : Int) (x2 : Int) (x3 : Int) : Option (Int × Mem) := G12_rest_0 m x1 x2 x3
def G12_rests_0 (m : Mem) (x1 : Int) (x2 : Int) : Option (Int × Mem) := wt (up m 0 2 0) fun m1 => (G12_isSurfer m1 x1).bind fun o3 => if o3.1 = 0 then (some ((-1), o3.2)) else ((G12_isSurfer o3.2 x2).bind fun o6 => if o6.1 = 0 then (some ((-1), o6.2)) else (if x1 = x2 then (some ((-1), o6.2)) else ((G12_restAt o6.2 x1 x2 (-1)).bind fun o10 => some (o10.1, o10.2))))
def G12_rests (m : Mem) (x1 : Int) (x2 : Int) : Option (Int × Mem) := G12_rests_0 m x1 x2
def G12_rule_0 (m : Mem) (x1 : Int) : Option (Int × Mem) := wt (up m 0 2 0) fun m1 => (G12_isIn m1 x1 0 3).bind fun o3 => if o3.1 = 0 then (some (0, o3.2)) else (if x1 = (o3.2 0 64) then (some (0, o3.2)) else ((G12_remember o3.2).bind fun o9 => wt (up o9 0 64 x1) fun m11 => some (1, m11)))
def G12_rule (m : Mem) (x1 : Int) : Option (Int × Mem) := G12_rule_0 m x1
def G12_seat_0 (m : Mem) (x1 : Int) (x2 : Int) : Option (Int × Mem) := wt (up m 0 2 0) fun m1 => (G12_isSurfer m1 x1).bind fun o3 => if o3.1 = 0 then (some ((-1), o3.2)) else ((G12_isCell o3.2 x2).bind fun o6 => if o6.1 = 0 then (some ((-1), o6.2)) else ((G12_seatFrom o6.2 x1 x2 (o6.2 31 0)).bind fun o13 => some (o13.1, o13.2)))
def G12_seat (m : Mem) (x1 : Int) (x2 : Int) : Option (Int × Mem) := G12_seat_0 m x1 x2
def G12_shares_0 (m : Mem) (x1 : Int) : Option (Int × Mem) := wt (up m 0 2 0) fun m1 => if (m1 0 14) = 0 then (some ((-1), m1)) else ((G12_isIn m1 x1 0 1).bind fun o6 => if o6.1 = 0 then (some ((-1), o6.2)) else (if x1 = 0 then ((G12_unlike o6.2 0).bind fun o12 => some (o12.1, o12.2)) else ((G12_allHad o6.2 0).bind fun o10 => some (o10.1, o10.2))))
def G12_shares (m : Mem) (x1 : Int) : Option (Int × Mem) := G12_shares_0 m x1
def G12_strike_0 (m : Mem) (x1 : Int) : Option (Int × Mem) := wt (up m 0 2 0) fun m1 => if (m1 0 74) = 24 then (some ((-1), m1)) else (if x1 < 0 then (some ((-1), m1)) else (if x1 < (m1 0 74) then ((G12_noted m1 (-1) x1 0).bind fun o10 => some (o10.1, o10.2)) else (some ((-1), m1))))
def G12_strike (m : Mem) (x1 : Int) : Option (Int × Mem) := G12_strike_0 m x1
def G12_stroke_0 (m : Mem) (x1 : Int) (x2 : Int) : Option (Int × Mem) := wt (up m 0 2 0) fun m1 => (G12_isSurfer m1 x1).bind fun o3 => if o3.1 = 0 then (some ((-1), o3.2)) else ((G12_isIn o3.2 x2 0 3).bind fun o6 => if o6.1 = 0 then (some ((-1), o6.2)) else (gdx x1 10 ((G12_beside o6.2 (o6.2 25 x1) x2).bind fun o13 => if o13.1 < 0 then (some ((-2), o13.2)) else (gdx x1 10 (if 0 < (o13.2 28 x1) then (some ((-2), o13.2)) else (gdx x1 5 (if (o13.2 29 x1) = 0 then (some ((-2), o13.2)) else ((G12_remember o13.2).bind fun o26 => gdx x1 10 (wt (up o26 25 x1 o13.1) fun m31 => gdx x1 5 (gdx x1 5 (gd3 ((m31 29 x1) - 1) (wt (up m31 29 x1 ((m31 29 x1) - 1)) fun m37 => some (o13.1, m37)))))))))))))
def G12_stroke (m : Mem) (x1 : Int) (x2 : Int) : Option (Int × Mem) := G12_stroke_0 m x1 x2
def G12_table_43 (m : Mem) (x1 : Int) (x2 : Int) (x3 : Int) : Option (Int × Mem) := (G12_run m x1 x2).bind fun o1 => if 5 ≤ x3 then (if x3 = 5 then (some ((o1 32 1), o1)) else (if x3 = 6 then (some ((o1 33 1), o1)) else ((G12_unlike o1 1).bind fun o6 => some (o6.1, o6.2)))) else (gdx (5 + x3) 10 (some ((o1 26 (5 + x3)), o1)))
def G12_table_0 (m : Mem) (x1 : Int) (x2 : Int) (x3 : Int) : Option (Int × Mem) := wt (up m 0 2 0) fun m1 => (G12_isIn m1 x1 0 3).bind fun o3 => if o3.1 = 0 then (some ((-1), o3.2)) else (if x2 < 0 then (some ((-1), o3.2)) else ((G12_isIn o3.2 x3 0 7).bind fun o7 => if o7.1 = 0 then (some ((-1), o7.2)) else (if 5 ≤ x3 then (G12_table_43 o7.2 x1 x2 x3) else (if x3 < (o7.2 0 14) then (G12_table_43 o7.2 x1 x2 x3) else (some ((-1), o7.2))))))
def G12_table (m : Mem) (x1 : Int) (x2 : Int) (x3 : Int) : Option (Int × Mem) := G12_table_0 m x1 x2 x3
def G12_text_55 : Nat → Mem → Int → Option (Int × Mem)
  | 0, _, _ => none
  | n + 1, m, x2 => if (m 0 8) = 0 then ((G12_keepText m).bind fun o4 => some (x2, o4)) else ((G12_lineRead m).bind fun o6 => if o6.1 = 0 then (some ((-1), o6.2)) else (gd3 (x2 + 1) (G12_text_55 n o6.2 (x2 + 1))))
def G12_text_0 (m : Mem) (x1 : Int) : Option (Int × Mem) := wt (up m 0 2 0) fun m1 => if x1 < 0 then (some ((-2), m1)) else (if x1 ≤ (m1 0 1) then (wt (up m1 0 6 x1) fun m7 => wt (up m7 0 1 0) fun m9 => wt (up m9 0 4 0) fun m11 => wt (up m11 0 5 (-1)) fun m13 => wt (up m13 0 7 0) fun m15 => (G12_plain m15).bind fun o17 => (G12_token o17).bind fun o19 => G12_text_55 1024 o19 0) else (some ((-2), m1)))
def G12_text (m : Mem) (x1 : Int) : Option (Int × Mem) := G12_text_0 m x1
def G12_tried_111 (m : Mem) (j4 : Int) : Option (Int × Mem) := (G12_goesOn m (m 0 64)).bind fun o3 => wt (up o3 0 66 (-1)) fun m5 => wt (up m5 0 65 j4) fun m7 => (G12_allHad m7 1).bind fun o9 => some (o9.1, o9.2)
def G12_tried_76 : Nat → Mem → Int → Int → Int → Int → Option (Int × Mem)
  | 0, _, _, _, _, _ => none
  | n + 1, m, x1, x2, j4, x6 => if (m 0 14) ≤ x6 then (G12_tried_111 m j4) else (if x1 = 4 then (gdx x2 10 (gdx (5 + x6) 10 (wt (up m 25 (5 + x6) (m 25 x2)) fun m12 => gd3 (x6 + 1) (G12_tried_76 n m12 x1 x2 j4 (x6 + 1))))) else (G12_tried_111 m j4))
def G12_tried_47 (m : Mem) (x1 : Int) (x2 : Int) (x3 : Int) : Option (Int × Mem) := wt (up m 0 65 x3) fun m3 => (G12_layTried m3).bind fun o5 => wt (up o5 0 66 x1) fun m7 => wt (up m7 0 67 x2) fun m9 => G12_tried_76 1024 m9 x1 x2 (m 0 65) 0
def G12_tried_30 (m : Mem) (x1 : Int) (x2 : Int) (x3 : Int) : Option (Int × Mem) := (G12_isSurfer m x2).bind fun o1 => if o1.1 = 0 then (some ((-1), o1.2)) else (G12_tried_47 o1.2 x1 x2 x3)
def G12_tried_0 (m : Mem) (x1 : Int) (x2 : Int) (x3 : Int) : Option (Int × Mem) := wt (up m 0 2 0) fun m1 => (G12_isIn m1 x1 0 4).bind fun o3 => if o3.1 = 0 then (some ((-1), o3.2)) else (if 0 ≤ x3 then (if x1 = 1 then (G12_tried_30 o3.2 x1 x2 x3) else (if x1 = 4 then (G12_tried_30 o3.2 x1 x2 x3) else (if x2 = 0 then (G12_tried_47 o3.2 x1 x2 x3) else (some ((-1), o3.2))))) else (some ((-1), o3.2)))
def G12_tried (m : Mem) (x1 : Int) (x2 : Int) (x3 : Int) : Option (Int × Mem) := G12_tried_0 m x1 x2 x3
def G12_undo_26 : Nat → Mem → Int → Option (Int × Mem)
  | 0, _, _ => none
  | n + 1, m, x1 => if 5 ≤ x1 then (gdx ((11 * (m 0 78)) + 10) 220 (wt (up m 0 64 (m 41 ((11 * (m 0 78)) + 10))) fun m8 => some ((m8 0 78), m8))) else (gdx ((11 * (m 0 78)) + x1) 220 (gdx x1 10 (wt (up m 25 x1 (m 41 ((11 * (m 0 78)) + x1))) fun m21 => gdx (((11 * (m21 0 78)) + 5) + x1) 220 (gdx x1 5 (wt (up m21 29 x1 (m21 41 (((11 * (m21 0 78)) + 5) + x1))) fun m31 => gd3 (x1 + 1) (G12_undo_26 n m31 (x1 + 1)))))))
def G12_undo_0 (m : Mem) : Option (Int × Mem) := wt (up m 0 2 0) fun m1 => if (m1 0 78) = 0 then (some ((-1), m1)) else (gd3 ((m1 0 78) - 1) (wt (up m1 0 78 ((m1 0 78) - 1)) fun m8 => G12_undo_26 1024 m8 0))
def G12_undo (m : Mem) : Option (Int × Mem) := G12_undo_0 m
def G12_wave_0 (m : Mem) (x1 : Int) (x2 : Int) : Option (Int × Mem) := wt (up m 0 2 0) fun m1 => (G12_isWave m1 x1).bind fun o3 => if o3.1 = 0 then (some ((-4), o3.2)) else (if x2 = 0 then (gdx x1 56 (some ((o3.2 12 x1), o3.2))) else (if x2 = 1 then (gdx x1 56 (some ((o3.2 13 x1), o3.2))) else (if x2 = 2 then (gdx x1 56 (some ((o3.2 14 x1), o3.2))) else (if x2 = 3 then (gdx x1 56 (gdx (o3.2 14 x1) 8 (gd3 ((x1 - (o3.2 11 (o3.2 14 x1))) + 1) (some (((x1 - (o3.2 11 (o3.2 14 x1))) + 1), o3.2))))) else (if x2 = 4 then (gdx x1 56 (some ((o3.2 30 x1), o3.2))) else (some ((-4), o3.2)))))))
def G12_wave (m : Mem) (x1 : Int) (x2 : Int) : Option (Int × Mem) := G12_wave_0 m x1 x2
