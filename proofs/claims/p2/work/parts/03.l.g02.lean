/-! What the pure functions do, over a memory of integers (written by wip/gen/gx.py). -/
def G12_comes_109 : Nat → Mem → Int → Int → Int → Int → Option Mem
  | 0, _, _, _, _, _ => none
  | n + 1, m, x1, x2, x5, x6 => if (m 0 69) ≤ x6 then (gdx ((28 * x1) + x2) 56 (wt (up m 30 ((28 * x1) + x2) x5) fun m7 => gdx ((5 * x1) + x5) 10 (gdx ((5 * x1) + x5) 10 (gd3 ((m7 26 ((5 * x1) + x5)) + 1) (wt (up m7 26 ((5 * x1) + x5) ((m7 26 ((5 * x1) + x5)) + 1)) fun m13 => (G12_goesAway m13 x1 x5 x2 1).bind fun o14 => some o14))))) else (if (m 0 66) = 0 then (G12_comes_141 (fun m x1 x2 x5 x6 => G12_comes_109 n m x1 x2 x5 x6) m x1 x2 x5 x6 0) else (gdx x6 5 (gdx (m 34 x6) 10 (G12_comes_141 (fun m x1 x2 x5 x6 => G12_comes_109 n m x1 x2 x5 x6) m x1 x2 x5 x6 (m 9 (m 34 x6))))))
def G12_comes_62 (m : Mem) (x1 : Int) (x2 : Int) (x4 : Int) : Option Mem := if x4 = (m 0 69) then (gdx ((28 * x1) + x2) 56 (wt (up m 30 ((28 * x1) + x2) (-1)) fun m11 => gdx x1 2 (gdx x1 2 (gd3 ((m11 33 x1) + 1) (wt (up m11 33 x1 ((m11 33 x1) + 1)) fun m17 => some m17))))) else (gdx x4 5 (gd3 (x4 + 1) (G12_comes_109 1024 m x1 x2 (m 34 x4) (x4 + 1))))
def G12_comes_10 : Nat → Mem → Int → Int → Int → Option Mem
  | 0, _, _, _, _ => none
  | n + 1, m, x1, x2, x4 => if (m 0 69) ≤ x4 then (G12_comes_62 m x1 x2 x4) else ((G12_number1 m 100).bind fun o4 => gdx x4 5 (gdx x4 5 (gdx ((5 * x1) + (o4.2 34 x4)) 10 ((G12_oddsOf o4.2 (o4.2 34 x4) x2 (o4.2 25 ((5 * x1) + (o4.2 34 x4)))).bind fun o18 => if o4.1 < o18.1 then (G12_comes_62 o18.2 x1 x2 x4) else (gd3 (x4 + 1) (G12_comes_10 n o18.2 x1 x2 (x4 + 1)))))))
def G12_comes_0 (m : Mem) (x1 : Int) (x2 : Int) (x3 : Int) : Option Mem := (G12_layOrder m x1 x2 x3).bind fun o1 => G12_comes_10 1024 o1 x1 x2 0
def G12_comes (m : Mem) (x1 : Int) (x2 : Int) (x3 : Int) : Option Mem := G12_comes_0 m x1 x2 x3
def G12_aMinute_50 : Nat → Mem → Int → Int → Option Mem
  | 0, _, _, _ => none
  | n + 1, m, x1, x3 => if (m 0 14) ≤ x3 then (some m) else (gdx ((5 * x1) + x3) 10 (gdx x1 2 (if (m 28 ((5 * x1) + x3)) = (m 31 x1) then (gdx ((5 * x1) + x3) 10 (wt (up m 28 ((5 * x1) + x3) 0) fun m16 => gd3 (x3 + 1) (G12_aMinute_50 n m16 x1 (x3 + 1)))) else (gd3 (x3 + 1) (G12_aMinute_50 n m x1 (x3 + 1))))))
def G12_aMinute_2 : Nat → Mem → Int → Int → Int → Option Mem
  | 0, _, _, _, _ => none
  | n + 1, m, x1, x2, x3 => if (m 0 16) ≤ x3 then (gdx x1 2 (gdx x1 2 (gd3 ((m 31 x1) + 1) (wt (up m 31 x1 ((m 31 x1) + 1)) fun m9 => G12_aMinute_50 1024 m9 x1 0)))) else (gdx x3 56 (gdx x1 2 (if (m 12 x3) = (m 31 x1) then ((G12_comes m x1 x3 x2).bind fun o19 => gd3 (x3 + 1) (G12_aMinute_2 n o19 x1 x2 (x3 + 1))) else (gd3 (x3 + 1) (G12_aMinute_2 n m x1 x2 (x3 + 1))))))
def G12_aMinute_0 (m : Mem) (x1 : Int) (x2 : Int) : Option Mem := G12_aMinute_2 1024 m x1 x2 0
def G12_aMinute (m : Mem) (x1 : Int) (x2 : Int) : Option Mem := G12_aMinute_0 m x1 x2
def G12_allHad_4 : Nat → Mem → Int → Int → Int → Option (Int × Mem)
  | 0, _, _, _, _ => none
  | n + 1, m, x1, x2, x3 => if (m 0 14) ≤ x3 then (some (x2, m)) else (gdx ((5 * x1) + x3) 10 (gd3 (x2 + (m 26 ((5 * x1) + x3))) (gd3 (x3 + 1) (G12_allHad_4 n m x1 (x2 + (m 26 ((5 * x1) + x3))) (x3 + 1)))))
def G12_allHad_0 (m : Mem) (x1 : Int) : Option (Int × Mem) := G12_allHad_4 1024 m x1 0 0
def G12_allHad (m : Mem) (x1 : Int) : Option (Int × Mem) := G12_allHad_0 m x1
def G12_back_100 : Nat → Mem → Int → Option (Int × Mem)
  | 0, _, _ => none
  | n + 1, m, x1 => if 28 ≤ x1 then (wt (up m 31 0 (m 0 82)) fun m7 => wt (up m7 0 64 (m7 0 83)) fun m10 => wt (up m10 32 0 (m10 0 84)) fun m17 => wt (up m17 33 0 (m17 0 85)) fun m23 => wt (up m23 0 65 (m23 0 86)) fun m26 => wt (up m26 0 78 0) fun m28 => some ((m28 31 0), m28)) else (gdx (25 + x1) 53 (gdx x1 56 (wt (up m 30 x1 (m 42 (25 + x1))) fun m41 => gd3 (x1 + 1) (G12_back_100 n m41 (x1 + 1)))))
def G12_back_16 : Nat → Mem → Int → Option (Int × Mem)
  | 0, _, _ => none
  | n + 1, m, x1 => if 5 ≤ x1 then (G12_back_100 1024 m 0) else (gdx x1 53 (gdx x1 10 (wt (up m 25 x1 (m 42 x1)) fun m9 => gdx (5 + x1) 53 (gdx x1 10 (wt (up m9 26 x1 (m9 42 (5 + x1))) fun m17 => gdx (10 + x1) 53 (gdx x1 10 (wt (up m17 27 x1 (m17 42 (10 + x1))) fun m25 => gdx (15 + x1) 53 (gdx x1 10 (wt (up m25 28 x1 (m25 42 (15 + x1))) fun m33 => gdx (20 + x1) 53 (gdx x1 5 (wt (up m33 29 x1 (m33 42 (20 + x1))) fun m41 => gd3 (x1 + 1) (G12_back_16 n m41 (x1 + 1)))))))))))))
def G12_back_0 (m : Mem) : Option (Int × Mem) := wt (up m 0 2 0) fun m1 => if (m1 0 80) = 0 then (some ((-1), m1)) else (G12_back_16 1024 m1 0)
def G12_back (m : Mem) : Option (Int × Mem) := G12_back_0 m
def G12_isSmall_0 (m : Mem) (x1 : Int) : Option (Int × Mem) := if (m 0 6) ≤ x1 then (some (0, m)) else (gdx x1 700 (if (m 1 x1) < 97 then (some (0, m)) else (gdx x1 700 (if 122 < (m 1 x1) then (some (0, m)) else (some (1, m))))))
def G12_isSmall (m : Mem) (x1 : Int) : Option (Int × Mem) := G12_isSmall_0 m x1
def G12_wordAt_104 (kk5 : Mem → Int → Int → Int → Int → Option (Int × Mem)) (m : Mem) (x1 : Int) (x2 : Int) (x3 : Int) (x4 : Int) (x5 : Int) (x6 : Int) : Option (Int × Mem) := if x6 = 0 then (gd3 (x3 + 1) (gd3 (x4 + (x5 + 1)) (kk5 m x1 x2 (x3 + 1) (x4 + (x5 + 1))))) else (some (x3, m))
def G12_wordAt_57 (kk5 : Mem → Int → Int → Int → Int → Option (Int × Mem)) : Nat → Mem → Int → Int → Int → Int → Int → Int → Int → Option (Int × Mem)
  | 0, _, _, _, _, _, _, _, _ => none
  | n + 1, m, x1, x2, x3, x4, x5, x6, x7 => if x5 ≤ x7 then (G12_wordAt_104 kk5 m x1 x2 x3 x4 x5 x6) else (if x6 = 0 then (G12_wordAt_104 kk5 m x1 x2 x3 x4 x5 x6) else (gdx (x4 + x7) 120 (gdx (x1 + x7) 700 (if (m 2 (x4 + x7)) = (m 1 (x1 + x7)) then (gd3 (x7 + 1) (G12_wordAt_57 kk5 n m x1 x2 x3 x4 x5 1 (x7 + 1))) else (gd3 (x7 + 1) (G12_wordAt_57 kk5 n m x1 x2 x3 x4 x5 0 (x7 + 1)))))))
def G12_wordAt_18 (kk5 : Mem → Int → Int → Int → Int → Option (Int × Mem)) : Nat → Mem → Int → Int → Int → Int → Int → Option (Int × Mem)
  | 0, _, _, _, _, _, _ => none
  | n + 1, m, x1, x2, x3, x4, x5 => gdx (x4 + x5) 120 (if (m 2 (x4 + x5)) = 32 then (gd3 (x2 - x1) (if x5 = (x2 - x1) then (G12_wordAt_57 kk5 1024 m x1 x2 x3 x4 x5 1 0) else (G12_wordAt_57 kk5 1024 m x1 x2 x3 x4 x5 0 0))) else (gd3 (x5 + 1) (G12_wordAt_18 kk5 n m x1 x2 x3 x4 (x5 + 1))))
def G12_wordAt_5 : Nat → Mem → Int → Int → Int → Int → Option (Int × Mem)
  | 0, _, _, _, _, _ => none
  | n + 1, m, x1, x2, x3, x4 => if 120 ≤ x4 then (some ((-1), m)) else (G12_wordAt_18 (fun m x1 x2 x3 x4 => G12_wordAt_5 n m x1 x2 x3 x4) 1024 m x1 x2 x3 x4 0)
def G12_wordAt_0 (m : Mem) (x1 : Int) (x2 : Int) : Option (Int × Mem) := G12_wordAt_5 1024 m x1 x2 0 0
def G12_wordAt (m : Mem) (x1 : Int) (x2 : Int) : Option (Int × Mem) := G12_wordAt_0 m x1 x2
def G12_packed_5 : Nat → Mem → Int → Int → Int → Int → Option (Int × Mem)
  | 0, _, _, _, _, _ => none
  | n + 1, m, x1, x2, x3, x4 => gd3 (x1 + 6) (if (x1 + 6) ≤ x4 then (some (x3, m)) else (if x2 ≤ x4 then (gd3 (x4 + 1) (G12_packed_5 n m x1 x2 (b3or (b3sl x3 (b3an 5 31)) 0) (x4 + 1))) else (gdx x4 700 (gd3 (x4 + 1) (G12_packed_5 n m x1 x2 (b3or (b3sl x3 (b3an 5 31)) ((m 1 x4) - 96)) (x4 + 1))))))
def G12_packed_0 (m : Mem) (x1 : Int) (x2 : Int) : Option (Int × Mem) := G12_packed_5 1024 m x1 x2 0 x1
def G12_packed (m : Mem) (x1 : Int) (x2 : Int) : Option (Int × Mem) := G12_packed_0 m x1 x2
def G12_isDigit_0 (m : Mem) (x1 : Int) : Option (Int × Mem) := if (m 0 6) ≤ x1 then (some (0, m)) else (gdx x1 700 (if (m 1 x1) < 48 then (some (0, m)) else (gdx x1 700 (if 57 < (m 1 x1) then (some (0, m)) else (some (1, m))))))
def G12_isDigit (m : Mem) (x1 : Int) : Option (Int × Mem) := G12_isDigit_0 m x1
def G12_signToken_192 (m : Mem) (s0 : Int) : Option Mem := wt (up m 0 9 s0) fun m1 => some m1
def G12_signToken_135 (m : Mem) (x2 : Int) (x3 : Int) : Option Mem := wt (up m 0 8 5) fun m1 => if (m1 0 9) = 61 then (G12_signToken_192 m1 2) else (if (m1 0 9) = 60 then (if x2 = 0 then (if x3 = 0 then (G12_signToken_192 m1 0) else (G12_signToken_192 m1 3)) else (G12_signToken_192 m1 1)) else (if x2 = 0 then (G12_signToken_192 m1 5) else (G12_signToken_192 m1 4)))
def G12_signToken_125 (m : Mem) (x2 : Int) (x3 : Int) : Option Mem := gd3 ((m 0 7) + 1) (wt (up m 0 7 ((m 0 7) + 1)) fun m3 => G12_signToken_135 m3 x2 x3)
def G12_signToken_116 (m : Mem) (x2 : Int) (s0 : Int) : Option Mem := if x2 = 0 then (if s0 = 0 then (G12_signToken_135 m x2 s0) else (G12_signToken_125 m x2 s0)) else (G12_signToken_125 m x2 s0)
def G12_signToken_115 (m : Mem) (x2 : Int) : Option Mem := G12_signToken_116 m x2 0
def G12_signToken_95 (m : Mem) (x1 : Int) (s0 : Int) : Option Mem := if (m 0 9) = 60 then (if x1 = 62 then (G12_signToken_116 m s0 1) else (G12_signToken_115 m s0)) else (G12_signToken_115 m s0)
def G12_signToken_94 (m : Mem) (x1 : Int) : Option Mem := G12_signToken_95 m x1 0
def G12_signToken_74 (m : Mem) (s0 : Int) : Option Mem := if (m 0 9) = 61 then (G12_signToken_94 m s0) else (if s0 = 61 then (G12_signToken_95 m s0 1) else (G12_signToken_94 m s0))
def G12_signToken_50 (m : Mem) : Option Mem := if (m 0 6) ≤ (m 0 7) then (G12_signToken_74 m 0) else (gdx (m 0 7) 700 (G12_signToken_74 m (m 1 (m 0 7))))
def G12_signToken_287 (m : Mem) (s0 : Int) : Option Mem := wt (up m 0 8 s0) fun m1 => some m1
def G12_signToken_275 (m : Mem) (s0 : Int) : Option Mem := if s0 = 0 then (G12_signToken_287 m 6) else (G12_signToken_287 m 4)
def G12_signToken_270 (m : Mem) : Option Mem := G12_signToken_275 m 1
def G12_signToken_0 (m : Mem) : Option Mem := gdx (m 0 7) 700 (wt (up m 0 9 (m 1 (m 0 7))) fun m7 => gd3 ((m7 0 7) + 1) (wt (up m7 0 7 ((m7 0 7) + 1)) fun m11 => if (m11 0 9) = 60 then (G12_signToken_50 m11) else (if (m11 0 9) = 62 then (G12_signToken_50 m11) else (if (m11 0 9) = 61 then (G12_signToken_50 m11) else (if (m11 0 9) = 59 then (G12_signToken_270 m11) else (if (m11 0 9) = 40 then (G12_signToken_270 m11) else (if (m11 0 9) = 41 then (G12_signToken_270 m11) else (if (m11 0 9) = 43 then (G12_signToken_270 m11) else (if (m11 0 9) = 45 then (G12_signToken_270 m11) else (if (m11 0 9) = 42 then (G12_signToken_270 m11) else (if (m11 0 9) = 47 then (G12_signToken_270 m11) else (if (m11 0 9) = 37 then (G12_signToken_270 m11) else (G12_signToken_275 m11 0)))))))))))))
def G12_signToken (m : Mem) : Option Mem := G12_signToken_0 m
def G12_token_261 (kk213 : Mem → Option Mem) (m : Mem) (s0 : Int) : Option Mem := wt (up m 0 9 s0) fun m1 => gd3 ((m1 0 7) + 1) (wt (up m1 0 7 ((m1 0 7) + 1)) fun m5 => kk213 m5)
def G12_token_213 : Nat → Mem → Option Mem
  | 0, _ => none
  | n + 1, m => (G12_isDigit m (m 0 7)).bind fun o3 => if o3.1 = 0 then (some o3.2) else (if (o3.2 0 9) ≤ 99999 then (gdx (o3.2 0 7) 700 (gd3 (((10 * (o3.2 0 9)) + (o3.2 1 (o3.2 0 7))) - 48) (G12_token_261 (fun m => G12_token_213 n m) o3.2 (((10 * (o3.2 0 9)) + (o3.2 1 (o3.2 0 7))) - 48)))) else (G12_token_261 (fun m => G12_token_213 n m) o3.2 (o3.2 0 9)))
def G12_token_162 (m : Mem) (s0 : Int) : Option Mem := wt (up m 0 8 s0) fun m1 => if (m1 0 8) = 2 then ((G12_packed m1 (m1 0 10) (m1 0 7)).bind fun o10 => wt (up o10.2 0 9 o10.1) fun m12 => some m12) else (some m1)
def G12_token_90 : Nat → Mem → Option Mem
  | 0, _ => none
  | n + 1, m => (G12_isSmall m (m 0 7)).bind fun o3 => if o3.1 = 0 then ((G12_wordAt o3.2 (o3.2 0 10) (o3.2 0 7)).bind fun o10 => wt (up o10.2 0 9 o10.1) fun m12 => if (m12 0 9) < 0 then (gd3 ((m12 0 7) - (m12 0 10)) (if ((m12 0 7) - (m12 0 10)) ≤ 6 then (G12_token_162 m12 2) else (G12_token_162 m12 6))) else (G12_token_162 m12 1)) else (gd3 ((o3.2 0 7) + 1) (wt (up o3.2 0 7 ((o3.2 0 7) + 1)) fun m24 => G12_token_90 n m24))
def G12_token_52 (m : Mem) : Option Mem := wt (up m 0 10 (m 0 7)) fun m3 => if (m3 0 7) = (m3 0 6) then (wt (up m3 0 8 0) fun m26 => some m26) else ((G12_isSmall m3 (m3 0 7)).bind fun o12 => if o12.1 = 0 then ((G12_isDigit o12.2 (o12.2 0 7)).bind fun o17 => if o17.1 = 0 then ((G12_signToken o17.2).bind fun o20 => some o20) else (wt (up o17.2 0 8 3) fun m22 => wt (up m22 0 9 0) fun m24 => G12_token_213 1024 m24)) else (G12_token_90 1024 o12.2))
def G12_token_39 (kk0 : Mem → Option Mem) (m : Mem) : Option Mem := gd3 ((m 0 7) + 1) (wt (up m 0 7 ((m 0 7) + 1)) fun m3 => kk0 m3)
def G12_token_0 : Nat → Mem → Option Mem
  | 0, _ => none
  | n + 1, m => if (m 0 6) ≤ (m 0 7) then (G12_token_52 m) else (gdx (m 0 7) 700 (if (m 1 (m 0 7)) = 10 then (G12_token_39 (fun m => G12_token_0 n m) m) else (gdx (m 0 7) 700 (if (m 1 (m 0 7)) = 32 then (G12_token_39 (fun m => G12_token_0 n m) m) else (G12_token_52 m)))))
def G12_token (m : Mem) : Option Mem := G12_token_0 1024 m
def G12_wrong_0 (m : Mem) (x1 : Int) : Option (Int × Mem) := wt (up m 0 4 x1) fun m1 => wt (up m1 0 5 (m1 0 10)) fun m5 => some (0, m5)
def G12_wrong (m : Mem) (x1 : Int) : Option (Int × Mem) := G12_wrong_0 m x1
def G12_isIn_0 (m : Mem) (x0 : Int) (x1 : Int) (x2 : Int) : Option (Int × Mem) := if x0 < x1 then (some (0, m)) else (if x2 < x0 then (some (0, m)) else (some (1, m)))
def G12_isIn (m : Mem) (x0 : Int) (x1 : Int) (x2 : Int) : Option (Int × Mem) := G12_isIn_0 m x0 x1 x2
def G12_number_0 (m : Mem) (x1 : Int) (x2 : Int) : Option (Int × Mem) := if (m 0 8) = 3 then ((G12_isIn m (m 0 9) x1 x2).bind fun o6 => if o6.1 = 0 then ((G12_wrong o6.2 2).bind fun o15 => gdb o15.1 (some (o15.1, o15.2))) else (wt (up o6.2 0 11 (o6.2 0 9)) fun m11 => (G12_token m11).bind fun o13 => some (1, o13))) else ((G12_wrong m 1).bind fun o17 => gdb o17.1 (some (o17.1, o17.2)))
def G12_number (m : Mem) (x1 : Int) (x2 : Int) : Option (Int × Mem) := G12_number_0 m x1 x2
def G12_bankLine_0 (m : Mem) : Option (Int × Mem) := (G12_token m).bind fun o1 => (G12_number o1 1 20).bind fun o3 => if o3.1 = 0 then (some (0, o3.2)) else (wt (up o3.2 4 9 (o3.2 0 11)) fun m11 => (G12_number m11 1 20).bind fun o12 => if o12.1 = 0 then (some (0, o12.2)) else (wt (up o12.2 4 10 (o12.2 0 11)) fun m20 => (G12_number m20 1 9).bind fun o21 => if o21.1 = 0 then (some (0, o21.2)) else (wt (up o21.2 4 11 (o21.2 0 11)) fun m29 => some (1, m29))))
def G12_bankLine (m : Mem) : Option (Int × Mem) := G12_bankLine_0 m
def G12_begin_60 : Nat → Mem → Int → Option Mem
  | 0, _, _ => none
  | n + 1, m, x1 => if 28 ≤ x1 then (wt (up m 31 0 0) fun m5 => wt (up m5 32 0 0) fun m9 => wt (up m9 33 0 0) fun m13 => wt (up m13 0 64 (m13 4 5)) fun m18 => wt (up m18 0 65 (m18 4 6)) fun m24 => wt (up m24 0 66 (-1)) fun m26 => wt (up m26 0 74 0) fun m28 => wt (up m28 0 75 (-1)) fun m30 => wt (up m30 0 78 0) fun m32 => wt (up m32 0 80 0) fun m34 => some m34) else (gdx x1 56 (wt (up m 30 x1 (-2)) fun m39 => gd3 (x1 + 1) (G12_begin_60 n m39 (x1 + 1))))
def G12_begin_2 : Nat → Mem → Int → Option Mem
  | 0, _, _ => none
  | n + 1, m, x1 => if 5 ≤ x1 then (G12_begin_60 1024 m 0) else (gdx x1 10 (gdx x1 10 (wt (up m 25 x1 (m 6 x1)) fun m9 => gdx x1 10 (wt (up m9 26 x1 0) fun m13 => gdx x1 10 (wt (up m13 27 x1 0) fun m17 => gdx x1 10 (wt (up m17 28 x1 0) fun m21 => gdx x1 10 (gdx x1 5 (wt (up m21 29 x1 (m21 8 x1)) fun m29 => gd3 (x1 + 1) (G12_begin_2 n m29 (x1 + 1))))))))))
def G12_begin_0 (m : Mem) : Option Mem := G12_begin_2 1024 m 0
def G12_begin (m : Mem) : Option Mem := G12_begin_0 m
def G12_beginsFrom_2 : Nat → Mem → Int → Int → Option (Int × Mem)
  | 0, _, _, _ => none
  | n + 1, m, x1, x2 => if (m 0 15) ≤ x2 then (some ((-1), m)) else (gdx x2 8 (gdx (m 11 x2) 56 (if (m 12 (m 11 x2)) < x1 then (gd3 (x2 + 1) (G12_beginsFrom_2 n m x1 (x2 + 1))) else (gdx x2 8 (gdx (m 11 x2) 56 (some ((m 12 (m 11 x2)), m)))))))
def G12_beginsFrom_0 (m : Mem) (x1 : Int) : Option (Int × Mem) := G12_beginsFrom_2 1024 m x1 0
def G12_beginsFrom (m : Mem) (x1 : Int) : Option (Int × Mem) := G12_beginsFrom_0 m x1
def G12_beside_51 (m : Mem) (x3 : Int) (s0 : Int) (s1 : Int) : Option (Int × Mem) := gd3 ((m 0 12) - 1) ((G12_isIn m x3 0 ((m 0 12) - 1)).bind fun o3 => if o3.1 = 0 then (some ((-1), o3.2)) else (gd3 (s1 + s0) (gd3 ((o3.2 0 13) - 1) ((G12_isIn o3.2 (s1 + s0) 0 ((o3.2 0 13) - 1)).bind fun o8 => if o8.1 = 0 then (some ((-1), o8.2)) else (gd3 (((o8.2 0 12) * (s1 + s0)) + x3) (some ((((o8.2 0 12) * (s1 + s0)) + x3), o8.2)))))))
def G12_beside_25 (m : Mem) (x1 : Int) (x2 : Int) (s0 : Int) (s1 : Int) : Option (Int × Mem) := if (m 0 12) = 0 then (none) else (if x2 = 2 then (gd3 (s1 + s0) (gdd x1 (m 0 12) (G12_beside_51 m (s1 + s0) 1 (x1 / (m 0 12))))) else (if x2 = 0 then (gd3 (s1 + s0) (gdd x1 (m 0 12) (G12_beside_51 m (s1 + s0) (-1) (x1 / (m 0 12))))) else (gd3 (s1 + s0) (gdd x1 (m 0 12) (G12_beside_51 m (s1 + s0) 0 (x1 / (m 0 12)))))))
def G12_beside_0 (m : Mem) (x1 : Int) (x2 : Int) : Option (Int × Mem) := if (m 0 12) = 0 then (none) else (if x2 = 1 then (gdd x1 (m 0 12) (G12_beside_25 m x1 x2 1 (x1 % (m 0 12)))) else (if x2 = 3 then (gdd x1 (m 0 12) (G12_beside_25 m x1 x2 (-1) (x1 % (m 0 12)))) else (gdd x1 (m 0 12) (G12_beside_25 m x1 x2 0 (x1 % (m 0 12))))))
def G12_beside (m : Mem) (x1 : Int) (x2 : Int) : Option (Int × Mem) := G12_beside_0 m x1 x2
def G12_isSurfer_0 (m : Mem) (x1 : Int) : Option (Int × Mem) := if x1 < 0 then (some (0, m)) else (if (m 0 14) ≤ x1 then (some (0, m)) else (some (1, m)))
def G12_isSurfer (m : Mem) (x1 : Int) : Option (Int × Mem) := G12_isSurfer_0 m x1
def G12_cells_0 (m : Mem) : Option (Int × Mem) := gd3 ((m 0 12) * (m 0 13)) (some (((m 0 12) * (m 0 13)), m))
def G12_cells (m : Mem) : Option (Int × Mem) := G12_cells_0 m
def G12_gainOf_0 (m : Mem) (x1 : Int) (x2 : Int) (x3 : Int) : Option (Int × Mem) := (G12_oddsOf m x1 x2 x3).bind fun o1 => gdx x2 56 (gd3 (o1.1 * (o1.2 13 x2)) (some ((o1.1 * (o1.2 13 x2)), o1.2)))
def G12_gainOf (m : Mem) (x1 : Int) (x2 : Int) (x3 : Int) : Option (Int × Mem) := G12_gainOf_0 m x1 x2 x3
def G12_seatFrom_6 : Nat → Mem → Int → Int → Int → Int → Int → Option (Int × Mem)
  | 0, _, _, _, _, _, _ => none
  | n + 1, m, x1, x2, x3, x4, x5 => if (m 0 16) ≤ x5 then (some (x4, m)) else (gdx x5 56 (if (m 12 x5) < x3 then (gd3 (x4 + 0) (gd3 (x5 + 1) (G12_seatFrom_6 n m x1 x2 x3 (x4 + 0) (x5 + 1)))) else ((G12_gainOf m x1 x5 x2).bind fun o9 => gd3 (x4 + o9.1) (gd3 (x5 + 1) (G12_seatFrom_6 n o9.2 x1 x2 x3 (x4 + o9.1) (x5 + 1))))))
def G12_seatFrom_0 (m : Mem) (x1 : Int) (x2 : Int) (x3 : Int) : Option (Int × Mem) := G12_seatFrom_6 1024 m x1 x2 x3 0 0
def G12_seatFrom (m : Mem) (x1 : Int) (x2 : Int) (x3 : Int) : Option (Int × Mem) := G12_seatFrom_0 m x1 x2 x3
def G12_best_22 : Nat → Mem → Int → Int → Int → Int → Option (Int × Mem)
  | 0, _, _, _, _, _ => none
  | n + 1, m, x1, x2, x3, x4 => (G12_cells m).bind fun o1 => if o1.1 ≤ x4 then (some (x2, o1.2)) else ((G12_seatFrom o1.2 x1 x4 (o1.2 31 0)).bind fun o8 => if x3 < o8.1 then (gd3 (x4 + 1) (G12_best_22 n o8.2 x1 x4 o8.1 (x4 + 1))) else (gd3 (x4 + 1) (G12_best_22 n o8.2 x1 x2 x3 (x4 + 1))))
def G12_best_0 (m : Mem) (x1 : Int) : Option (Int × Mem) := wt (up m 0 2 0) fun m1 => (G12_isSurfer m1 x1).bind fun o3 => if o3.1 = 0 then (some ((-1), o3.2)) else (G12_best_22 1024 o3.2 x1 0 (-1) 0)
def G12_best (m : Mem) (x1 : Int) : Option (Int × Mem) := G12_best_0 m x1
def G12_rank_0 (m : Mem) (x0 : Int) : Option (Int × Mem) := if x0 < 13 then (if x0 < 11 then (if x0 < 5 then (if x0 = 2 then (some (3, m)) else (if x0 = 3 then (some (2, m)) else (if x0 = 4 then (some (1, m)) else (some (0, m))))) else (some (4, m))) else (some (5, m))) else (some (6, m))
def G12_rank (m : Mem) (x0 : Int) : Option (Int × Mem) := G12_rank_0 m x0
def G12_dropHeld_0 (m : Mem) : Option (Int × Mem) := gd3 ((m 0 47) - 1) (wt (up m 0 47 ((m 0 47) - 1)) fun m3 => gdx (m3 0 47) 96 (some ((m3 22 (m3 0 47)), m3)))
def G12_dropHeld (m : Mem) : Option (Int × Mem) := G12_dropHeld_0 m
def G12_grown_0 (m : Mem) (x1 : Int) (x2 : Int) (x3 : Int) : Option Mem := gdx (64 + (m 0 23)) 128 (wt (up m 18 (64 + (m 0 23)) x1) fun m6 => gdx (64 + (m6 0 23)) 128 (wt (up m6 19 (64 + (m6 0 23)) x2) fun m12 => gdx (64 + (m12 0 23)) 128 (wt (up m12 20 (64 + (m12 0 23)) x3) fun m18 => gdx (m18 0 47) 96 (wt (up m18 22 (m18 0 47) (m18 0 23)) fun m26 => gd3 ((m26 0 47) + 1) (wt (up m26 0 47 ((m26 0 47) + 1)) fun m29 => gd3 ((m29 0 23) + 1) (wt (up m29 0 23 ((m29 0 23) + 1)) fun m33 => some m33))))))
def G12_grown (m : Mem) (x1 : Int) (x2 : Int) (x3 : Int) : Option Mem := G12_grown_0 m x1 x2 x3
def G12_bind_58 (kk0 : Mem → Int → Option Mem) (m : Mem) (x1 : Int) (x2 : Int) (s0 : Int) : Option Mem := (G12_dropHeld m).bind fun o1 => (G12_grown o1.2 x2 o1.1 s0).bind fun o3 => kk0 o3 x1
def G12_bind_0 : Nat → Mem → Int → Option Mem
  | 0, _, _ => none
  | n + 1, m, x1 => if (m 0 46) ≤ 0 then (some m) else (gdx ((m 0 46) - 1) 96 ((G12_rank m (m 21 ((m 0 46) - 1))).bind fun o10 => if o10.1 < x1 then (some o10.2) else (gd3 ((o10.2 0 46) - 1) (wt (up o10.2 0 46 ((o10.2 0 46) - 1)) fun m15 => gdx (m15 0 46) 96 (if (m15 21 (m15 0 46)) = 2 then (G12_bind_58 (fun m x1 => G12_bind_0 n m x1) m15 x1 (m15 21 (m15 0 46)) (-1)) else ((G12_dropHeld m15).bind fun o24 => G12_bind_58 (fun m x1 => G12_bind_0 n m x1) o24.2 x1 (m15 21 (m15 0 46)) o24.1))))))
def G12_bind (m : Mem) (x1 : Int) : Option Mem := G12_bind_0 1024 m x1
def G12_cellRead_0 (m : Mem) : Option (Int × Mem) := wt (up m 0 24 1) fun m1 => gd3 ((m1 0 18) - 1) ((G12_number m1 0 ((m1 0 18) - 1)).bind fun o5 => if o5.1 = 0 then (some (0, o5.2)) else (wt (up o5.2 0 43 (o5.2 0 11)) fun m10 => gd3 ((m10 0 19) - 1) ((G12_number m10 0 ((m10 0 19) - 1)).bind fun o14 => if o14.1 = 0 then (some (0, o14.2)) else (some (1, o14.2)))))
def G12_cellRead (m : Mem) : Option (Int × Mem) := G12_cellRead_0 m
def G12_layTried_71 : Nat → Mem → Int → Option Mem
  | 0, _, _ => none
  | n + 1, m, x1 => if 28 ≤ x1 then (wt (up m 31 1 (m 31 0)) fun m9 => wt (up m9 32 1 0) fun m13 => wt (up m13 33 1 0) fun m17 => some m17) else (gdx x1 56 (gdx (28 + x1) 56 (wt (up m 30 (28 + x1) (m 30 x1)) fun m25 => gd3 (x1 + 1) (G12_layTried_71 n m25 (x1 + 1)))))
def G12_layTried_2 : Nat → Mem → Int → Option Mem
  | 0, _, _ => none
  | n + 1, m, x1 => if 5 ≤ x1 then (G12_layTried_71 1024 m 0) else (gdx x1 10 (gdx (5 + x1) 10 (wt (up m 25 (5 + x1) (m 25 x1)) fun m9 => gdx x1 10 (gdx (5 + x1) 10 (wt (up m9 26 (5 + x1) (m9 26 x1)) fun m17 => gdx x1 10 (gdx (5 + x1) 10 (wt (up m17 27 (5 + x1) (m17 27 x1)) fun m25 => gdx x1 10 (gdx (5 + x1) 10 (wt (up m25 28 (5 + x1) (m25 28 x1)) fun m33 => gd3 (x1 + 1) (G12_layTried_2 n m33 (x1 + 1)))))))))))
def G12_layTried_0 (m : Mem) : Option Mem := G12_layTried_2 1024 m 0
def G12_layTried (m : Mem) : Option Mem := G12_layTried_0 m
def G12_goesOn_0 : Nat → Mem → Int → Option Mem
  | 0, _, _ => none
  | n + 1, m, x1 => if (m 0 16) ≤ 0 then (some m) else (gdx ((m 0 16) - 1) 56 (if (m 12 ((m 0 16) - 1)) < (m 31 1) then (some m) else ((G12_aMinute m 1 x1).bind fun o15 => G12_goesOn_0 n o15 x1)))
def G12_goesOn (m : Mem) (x1 : Int) : Option Mem := G12_goesOn_0 1024 m x1
def G12_chance_47 : Nat → Mem → Int → Int → Int → Int → Int → Option (Int × Mem)
  | 0, _, _, _, _, _, _ => none
  | n + 1, m, x2, x3, j4, x6, x7 => if 10 ≤ x7 then (wt (up m 0 65 j4) fun m2 => some (x6, m2)) else ((G12_layTried m).bind fun o4 => (G12_goesOn o4 (o4 0 64)).bind fun o8 => gdx (5 + x2) 10 (if (o8 26 (5 + x2)) < x3 then (gd3 (x6 + 0) (gd3 (x7 + 1) (G12_chance_47 n o8 x2 x3 j4 (x6 + 0) (x7 + 1)))) else (gd3 (x6 + 1) (gd3 (x7 + 1) (G12_chance_47 n o8 x2 x3 j4 (x6 + 1) (x7 + 1))))))
def G12_chance_0 (m : Mem) (x1 : Int) (x2 : Int) (x3 : Int) : Option (Int × Mem) := wt (up m 0 2 0) fun m1 => if x1 < 0 then (some ((-1), m1)) else ((G12_isSurfer m1 x2).bind fun o4 => if o4.1 = 0 then (some ((-1), o4.2)) else ((G12_isIn o4.2 x3 0 28).bind fun o7 => if o7.1 = 0 then (some ((-1), o7.2)) else (wt (up o7.2 0 65 x1) fun m12 => G12_chance_47 1024 m12 x2 x3 (o7.2 0 65) 0 0)))
def G12_chance (m : Mem) (x1 : Int) (x2 : Int) (x3 : Int) : Option (Int × Mem) := G12_chance_0 m x1 x2 x3
def G12_comesTo_0 (m : Mem) (x1 : Int) (x2 : Int) : Option (Int × Mem) := if x2 = 4 then (gdx x1 10 (some ((m 25 x1), m))) else (gdx x1 10 ((G12_beside m (m 25 x1) x2).bind fun o6 => some (o6.1, o6.2)))
def G12_comesTo (m : Mem) (x1 : Int) (x2 : Int) : Option (Int × Mem) := G12_comesTo_0 m x1 x2
def G12_copies_2 : Nat → Mem → Nat → Int → Int → Option Mem
  | 0, _, _, _, _ => none
  | n + 1, m, a0, x1, x2 => if x1 ≤ x2 then (some m) else (gdx (x1 + x2) (lnM a0) (gdx x2 (lnM a0) (wt (up m a0 x2 (m a0 (x1 + x2))) fun m5 => gd3 (x2 + 1) (G12_copies_2 n m5 a0 x1 (x2 + 1)))))
def G12_copies_0 (m : Mem) (a0 : Nat) (x1 : Int) : Option Mem := G12_copies_2 1024 m a0 x1 0
def G12_copies (m : Mem) (a0 : Nat) (x1 : Int) : Option Mem := G12_copies_0 m a0 x1
def G12_firstToCome_2 : Nat → Mem → Int → Option (Int × Mem)
  | 0, _, _ => none
  | n + 1, m, x1 => if (m 0 16) ≤ x1 then (some (x1, m)) else (gdx x1 56 (if (m 30 x1) = (-2) then (some (x1, m)) else (gd3 (x1 + 1) (G12_firstToCome_2 n m (x1 + 1)))))
def G12_firstToCome_0 (m : Mem) : Option (Int × Mem) := G12_firstToCome_2 1024 m 0
def G12_firstToCome (m : Mem) : Option (Int × Mem) := G12_firstToCome_0 m
def G12_knownBy_0 (m : Mem) : Option (Int × Mem) := if 0 ≤ (m 0 75) then (some ((m 0 75), m)) else (some ((m 0 74), m))
def G12_knownBy (m : Mem) : Option (Int × Mem) := G12_knownBy_0 m
def G12_count_0 (m : Mem) (x1 : Int) : Option (Int × Mem) := wt (up m 0 2 0) fun m1 => if x1 = 0 then (some ((m1 0 12), m1)) else (if x1 = 1 then (some ((m1 0 13), m1)) else (if x1 = 2 then (some ((m1 0 14), m1)) else (if x1 = 3 then (some ((m1 0 15), m1)) else (if x1 = 4 then (some ((m1 0 16), m1)) else (if x1 = 5 then (some ((m1 0 17), m1)) else (if x1 = 6 then (some ((m1 31 0), m1)) else (if x1 = 7 then (some ((m1 0 64), m1)) else (if x1 = 8 then (some ((m1 32 0), m1)) else (if x1 = 9 then (some ((m1 33 0), m1)) else (if x1 = 10 then ((G12_firstToCome m1).bind fun o42 => gd3 ((m1 0 16) - o42.1) (some (((m1 0 16) - o42.1), o42.2))) else (if x1 = 11 then (some ((m1 0 74), m1)) else (if x1 = 12 then ((G12_knownBy m1).bind fun o48 => some (o48.1, o48.2)) else (if x1 = 13 then (some ((m1 0 78), m1)) else (some ((-1), m1)))))))))))))))
def G12_count (m : Mem) (x1 : Int) : Option (Int × Mem) := G12_count_0 m x1
def G12_deeper_0 (m : Mem) (x1 : Int) (x2 : Int) : Option (Int × Mem) := wt (up m 0 2 0) fun m1 => (G12_isSurfer m1 x1).bind fun o3 => if o3.1 = 0 then (some ((-1), o3.2)) else ((G12_isSurfer o3.2 x2).bind fun o6 => if o6.1 = 0 then (some ((-1), o6.2)) else ((G12_peakAt o6.2 (o6.2 31 0)).bind fun o13 => gdx x1 10 ((G12_far o13.2 (o13.2 25 x1) o13.1).bind fun o19 => gdx x2 10 ((G12_far o19.2 (o19.2 25 x2) o13.1).bind fun o25 => if o25.1 ≤ o19.1 then (if o19.1 ≤ o25.1 then (some (0, o25.2)) else (some (2, o25.2))) else (some (1, o25.2))))))
def G12_deeper (m : Mem) (x1 : Int) (x2 : Int) : Option (Int × Mem) := G12_deeper_0 m x1 x2
def G12_fails_0 (m : Mem) (x1 : Int) : Option (Int × Mem) := wt (up m 0 2 x1) fun m1 => some (0, m1)
def G12_fails (m : Mem) (x1 : Int) : Option (Int × Mem) := G12_fails_0 m x1
def G12_run_0 (m : Mem) (x1 : Int) (x2 : Int) : Option Mem := wt (up m 0 65 x2) fun m3 => (G12_layTried m3).bind fun o5 => (G12_goesOn o5 x1).bind fun o7 => wt (up o7 0 65 (m 0 65)) fun m9 => some m9
def G12_run (m : Mem) (x1 : Int) (x2 : Int) : Option Mem := G12_run_0 m x1 x2
def G12_unlike_47 (kk8 : Mem → Int → Int → Int → Int → Option (Int × Mem)) (m : Mem) (x1 : Int) (x3 : Int) (x4 : Int) (s0 : Int) : Option (Int × Mem) := gdx ((5 * x1) + x4) 10 (if x3 ≤ (m 26 ((5 * x1) + x4)) then (gd3 (x4 + 1) (kk8 m x1 s0 x3 (x4 + 1))) else (gdx ((5 * x1) + x4) 10 (gd3 (x4 + 1) (kk8 m x1 s0 (m 26 ((5 * x1) + x4)) (x4 + 1)))))
def G12_unlike_8 : Nat → Mem → Int → Int → Int → Int → Option (Int × Mem)
  | 0, _, _, _, _, _ => none
  | n + 1, m, x1, x2, x3, x4 => if (m 0 14) ≤ x4 then (if (m 0 14) = 0 then (some (0, m)) else (gd3 (x2 - x3) (some ((x2 - x3), m)))) else (gdx ((5 * x1) + x4) 10 (if (m 26 ((5 * x1) + x4)) ≤ x2 then (G12_unlike_47 (fun m x1 x2 x3 x4 => G12_unlike_8 n m x1 x2 x3 x4) m x1 x3 x4 x2) else (gdx ((5 * x1) + x4) 10 (G12_unlike_47 (fun m x1 x2 x3 x4 => G12_unlike_8 n m x1 x2 x3 x4) m x1 x3 x4 (m 26 ((5 * x1) + x4))))))
def G12_unlike_0 (m : Mem) (x1 : Int) : Option (Int × Mem) := G12_unlike_8 1024 m x1 0 99 0
def G12_unlike (m : Mem) (x1 : Int) : Option (Int × Mem) := G12_unlike_0 m x1
def G12_fairest_69 (kk18 : Mem → Int → Int → Int → Int → Option (Int × Mem)) (m : Mem) (x1 : Int) (x4 : Int) (x5 : Int) : Option (Int × Mem) := gd3 (x4 + 1) (kk18 m x1 x4 x5 (x4 + 1))
def G12_fairest_18 : Nat → Mem → Int → Int → Int → Int → Option (Int × Mem)
  | 0, _, _, _, _, _ => none
  | n + 1, m, x1, x2, x3, x4 => if 4 ≤ x4 then (some (x2, m)) else ((G12_run m x4 x1).bind fun o2 => (G12_unlike o2 1).bind fun o4 => if x2 < 0 then (gd3 (((1000 * o4.1) + (o4.2 32 1)) + (o4.2 33 1)) (G12_fairest_69 (fun m x1 x2 x3 x4 => G12_fairest_18 n m x1 x2 x3 x4) o4.2 x1 x4 (((1000 * o4.1) + (o4.2 32 1)) + (o4.2 33 1)))) else (gd3 (((1000 * o4.1) + (o4.2 32 1)) + (o4.2 33 1)) (if (((1000 * o4.1) + (o4.2 32 1)) + (o4.2 33 1)) < x3 then (gd3 (((1000 * o4.1) + (o4.2 32 1)) + (o4.2 33 1)) (G12_fairest_69 (fun m x1 x2 x3 x4 => G12_fairest_18 n m x1 x2 x3 x4) o4.2 x1 x4 (((1000 * o4.1) + (o4.2 32 1)) + (o4.2 33 1)))) else (gd3 (x4 + 1) (G12_fairest_18 n o4.2 x1 x2 x3 (x4 + 1))))))
def G12_fairest_0 (m : Mem) (x1 : Int) : Option (Int × Mem) := wt (up m 0 2 0) fun m1 => if 0 ≤ x1 then (G12_fairest_18 1024 m1 x1 (-1) 0 0) else (some ((-1), m1))
def G12_fairest (m : Mem) (x1 : Int) : Option (Int × Mem) := G12_fairest_0 m x1
def G12_fault_0 (m : Mem) (x1 : Int) : Option (Int × Mem) := wt (up m 0 2 0) fun m1 => if x1 = 0 then (some ((m1 0 4), m1)) else (if x1 = 1 then (some ((m1 0 5), m1)) else (some ((-1), m1)))
def G12_fault (m : Mem) (x1 : Int) : Option (Int × Mem) := G12_fault_0 m x1
def G12_feed_76 (kk23 : Mem → Int → Int → Int → Int → Int → Int → Option (Int × Mem)) (m : Mem) (x1 : Int) (x2 : Int) (x3 : Int) (x4 : Int) (x5 : Int) (x6 : Int) (s0 : Int) : Option (Int × Mem) := gdx ((m 0 1) + x6) 700 (gdd x6 4 (wt (up m 1 ((m 0 1) + x6) (b3an (b3sr s0 (b3an (24 - (8 * (x6 % 4))) 31)) 255)) fun m6 => gd3 (x6 + 1) (kk23 m6 x1 x2 x3 x4 x5 (x6 + 1))))
def G12_feed_23 : Nat → Mem → Int → Int → Int → Int → Int → Int → Option (Int × Mem)
  | 0, _, _, _, _, _, _, _ => none
  | n + 1, m, x1, x2, x3, x4, x5, x6 => if 20 ≤ x6 then (gd3 ((m 0 1) + 20) (wt (up m 0 1 ((m 0 1) + 20)) fun m4 => some ((m4 0 1), m4))) else (if 4 ≤ x6 then (if 8 ≤ x6 then (if 12 ≤ x6 then (if 16 ≤ x6 then (G12_feed_76 (fun m x1 x2 x3 x4 x5 x6 => G12_feed_23 n m x1 x2 x3 x4 x5 x6) m x1 x2 x3 x4 x5 x6 x5) else (G12_feed_76 (fun m x1 x2 x3 x4 x5 x6 => G12_feed_23 n m x1 x2 x3 x4 x5 x6) m x1 x2 x3 x4 x5 x6 x4)) else (G12_feed_76 (fun m x1 x2 x3 x4 x5 x6 => G12_feed_23 n m x1 x2 x3 x4 x5 x6) m x1 x2 x3 x4 x5 x6 x3)) else (G12_feed_76 (fun m x1 x2 x3 x4 x5 x6 => G12_feed_23 n m x1 x2 x3 x4 x5 x6) m x1 x2 x3 x4 x5 x6 x2)) else (G12_feed_76 (fun m x1 x2 x3 x4 x5 x6 => G12_feed_23 n m x1 x2 x3 x4 x5 x6) m x1 x2 x3 x4 x5 x6 x1))
def G12_feed_0 (m : Mem) (x1 : Int) (x2 : Int) (x3 : Int) (x4 : Int) (x5 : Int) : Option (Int × Mem) := wt (up m 0 2 0) fun m1 => gd3 ((m1 0 1) + 20) (if ((m1 0 1) + 20) ≤ 700 then (G12_feed_23 1024 m1 x1 x2 x3 x4 x5 0) else (some ((-1), m1)))
def G12_feed (m : Mem) (x1 : Int) (x2 : Int) (x3 : Int) (x4 : Int) (x5 : Int) : Option (Int × Mem) := G12_feed_0 m x1 x2 x3 x4 x5
def G12_find_3 : Nat → Mem → Int → Int → Int → Int → Option (Int × Mem)
  | 0, _, _, _, _, _ => none
  | n + 1, m, x1, x2, x3, x4 => if x2 ≤ x4 then (some ((-1), m)) else (gdx (x1 + x4) 10 (if (m 5 (x1 + x4)) = x3 then (some (x4, m)) else (gd3 (x4 + 1) (G12_find_3 n m x1 x2 x3 (x4 + 1)))))
def G12_find_0 (m : Mem) (x1 : Int) (x2 : Int) (x3 : Int) : Option (Int × Mem) := G12_find_3 1024 m x1 x2 x3 0
def G12_find (m : Mem) (x1 : Int) (x2 : Int) (x3 : Int) : Option (Int × Mem) := G12_find_0 m x1 x2 x3
def G12_gaps_31 : Nat → Mem → Int → Int → Int → Int → Option (Int × Mem)
  | 0, _, _, _, _, _ => none
  | n + 1, m, x1, x2, x3, x4 => if (m 0 15) ≤ x4 then (if x2 = 0 then (some (x3, m)) else (if 2 ≤ (m 0 15) then (gd3 ((m 0 15) - 1) (some (((m 0 15) - 1), m))) else (some (0, m)))) else (gdx x4 8 (gdx (m 11 x4) 56 (gdx x4 8 (gdx ((m 11 x4) - 1) 56 (gd3 ((m 12 (m 11 x4)) - (m 12 ((m 11 x4) - 1))) (if x1 < ((m 12 (m 11 x4)) - (m 12 ((m 11 x4) - 1))) then (gd3 (x3 + 0) (gd3 (x4 + 1) (G12_gaps_31 n m x1 x2 (x3 + 0) (x4 + 1)))) else (gd3 (x3 + 1) (gd3 (x4 + 1) (G12_gaps_31 n m x1 x2 (x3 + 1) (x4 + 1))))))))))
def G12_gaps_0 (m : Mem) (x1 : Int) (x2 : Int) : Option (Int × Mem) := wt (up m 0 2 0) fun m1 => (G12_isIn m1 x1 0 99).bind fun o3 => if o3.1 = 0 then (some ((-1), o3.2)) else ((G12_isIn o3.2 x2 0 1).bind fun o6 => if o6.1 = 0 then (some ((-1), o6.2)) else (G12_gaps_31 1024 o6.2 x1 x2 0 1))
def G12_gaps (m : Mem) (x1 : Int) (x2 : Int) : Option (Int × Mem) := G12_gaps_0 m x1 x2
def G12_give_0 (m : Mem) (x1 : Int) (x2 : Int) (x3 : Int) : Option (Int × Mem) := wt (up m 0 2 0) fun m1 => (G12_isSurfer m1 x1).bind fun o3 => if o3.1 = 0 then (some ((-1), o3.2)) else ((G12_isSurfer o3.2 x2).bind fun o6 => if o6.1 = 0 then (some ((-1), o6.2)) else (if x1 = x2 then (some ((-1), o6.2)) else ((G12_isIn o6.2 x3 0 99).bind fun o10 => if o10.1 = 0 then (some ((-1), o10.2)) else (gdx x2 10 (gd3 ((o10.2 10 x2) * x3) (if ((o10.2 10 x2) * x3) ≤ 100 then (some (0, o10.2)) else (some (1, o10.2))))))))
def G12_give (m : Mem) (x1 : Int) (x2 : Int) (x3 : Int) : Option (Int × Mem) := G12_give_0 m x1 x2 x3
def G12_isWave_0 (m : Mem) (x1 : Int) : Option (Int × Mem) := if x1 < 0 then (some (0, m)) else (if (m 0 16) ≤ x1 then (some (0, m)) else (some (1, m)))
def G12_isWave (m : Mem) (x1 : Int) : Option (Int × Mem) := G12_isWave_0 m x1
def G12_isToCome_0 (m : Mem) (x1 : Int) : Option (Int × Mem) := (G12_isWave m x1).bind fun o1 => if o1.1 = 0 then (some (0, o1.2)) else (gdx x1 56 (if (o1.2 30 x1) = (-2) then (some (1, o1.2)) else (some (0, o1.2))))
def G12_isToCome (m : Mem) (x1 : Int) : Option (Int × Mem) := G12_isToCome_0 m x1
def G12_go_107 (kk54 : Mem → Int → Int → Int → Int → Int → Int → Option (Int × Mem)) (m : Mem) (x1 : Int) (x2 : Int) (x3 : Int) (x4 : Int) (x6 : Int) : Option (Int × Mem) := gd3 (x6 + 1) (kk54 m x1 x2 x3 x4 1 (x6 + 1))
def G12_go_91 (kk54 : Mem → Int → Int → Int → Int → Int → Int → Option (Int × Mem)) (m : Mem) (x1 : Int) (x2 : Int) (x3 : Int) (x4 : Int) (x5 : Int) (x6 : Int) : Option (Int × Mem) := if x5 = 0 then (gdx x6 5 (if (m 34 x6) = x1 then (G12_go_107 kk54 m x1 x2 x3 x4 x6) else (gd3 (x6 + 1) (kk54 m x1 x2 x3 x4 0 (x6 + 1))))) else (G12_go_107 kk54 m x1 x2 x3 x4 x6)
def G12_go_54 : Nat → Mem → Int → Int → Int → Int → Int → Int → Option (Int × Mem)
  | 0, _, _, _, _, _, _, _ => none
  | n + 1, m, x1, x2, x3, x4, x5, x6 => if (m 0 69) ≤ x6 then (gdx x1 10 ((G12_gainOf m x1 x2 (m 25 x1)).bind fun o8 => gd3 (x3 * (100 - x4)) (if o8.1 ≤ (x3 * (100 - x4)) then (some (0, o8.2)) else (some (1, o8.2))))) else (if x5 = 0 then (G12_go_91 (fun m x1 x2 x3 x4 x5 x6 => G12_go_54 n m x1 x2 x3 x4 x5 x6) m x1 x2 x3 x4 x5 x6) else (gdx x6 5 (gdx (m 34 x6) 10 (gd3 (x4 * (100 - (m 9 (m 34 x6)))) (gdd (x4 * (100 - (m 9 (m 34 x6)))) 100 (G12_go_91 (fun m x1 x2 x3 x4 x5 x6 => G12_go_54 n m x1 x2 x3 x4 x5 x6) m x1 x2 x3 ((x4 * (100 - (m 9 (m 34 x6)))) / 100) x5 x6))))))
def G12_go_0 (m : Mem) (x1 : Int) (x2 : Int) (x3 : Int) : Option (Int × Mem) := wt (up m 0 2 0) fun m1 => (G12_isSurfer m1 x1).bind fun o3 => if o3.1 = 0 then (some ((-1), o3.2)) else ((G12_isToCome o3.2 x2).bind fun o6 => if o6.1 = 0 then (some ((-1), o6.2)) else ((G12_isIn o6.2 x3 0 999).bind fun o9 => if o9.1 = 0 then (some ((-1), o9.2)) else ((G12_layOrder o9.2 0 x2 (o9.2 0 64)).bind fun o14 => G12_go_54 1024 o14 x1 x2 x3 100 0 0)))
def G12_go (m : Mem) (x1 : Int) (x2 : Int) (x3 : Int) : Option (Int × Mem) := G12_go_0 m x1 x2 x3
def G12_plain_85 : Nat → Mem → Int → Option Mem
  | 0, _, _ => none
  | n + 1, m, x1 => if 6 ≤ x1 then (some m) else (gdx x1 6 (gdb 0 (wt (up m 15 x1 0) fun m5 => gd3 (x1 + 1) (G12_plain_85 n m5 (x1 + 1)))))
def G12_plain_64 : Nat → Mem → Int → Option Mem
  | 0, _, _ => none
  | n + 1, m, x1 => if 14 ≤ x1 then (G12_plain_85 1024 m 3) else (gdx x1 14 (wt (up m 4 x1 0) fun m5 => gd3 (x1 + 1) (G12_plain_64 n m5 (x1 + 1))))
def G12_plain_43 : Nat → Mem → Int → Option Mem
  | 0, _, _ => none
  | n + 1, m, x1 => if 5 ≤ x1 then (G12_plain_64 1024 m 7) else (gdx x1 5 (gdb 0 (wt (up m 3 x1 0) fun m5 => gd3 (x1 + 1) (G12_plain_43 n m5 (x1 + 1)))))
def G12_plain_0 (m : Mem) : Option Mem := wt (up m 0 18 6) fun m1 => wt (up m1 0 19 4) fun m3 => wt (up m3 0 20 0) fun m5 => wt (up m5 0 21 0) fun m7 => wt (up m7 0 22 0) fun m9 => wt (up m9 0 23 0) fun m11 => wt (up m11 0 49 0) fun m13 => wt (up m13 0 24 0) fun m15 => G12_plain_43 1024 m15 0
def G12_plain (m : Mem) : Option Mem := G12_plain_0 m
def G12_keepText_142 : Nat → Mem → Int → Option Mem
  | 0, _, _ => none
  | n + 1, m, x1 => if 3 ≤ x1 then ((G12_copies m 16 3).bind fun o4 => (G12_copies o4 17 3).bind fun o8 => (G12_copies o8 18 64).bind fun o12 => (G12_copies o12 19 64).bind fun o16 => (G12_copies o16 20 64).bind fun o20 => (G12_begin o20).bind fun o22 => some o22) else (gdx (3 + x1) 6 (gdx x1 6 (gdb (m 15 (3 + x1)) (wt (up m 15 x1 (m 15 (3 + x1))) fun m31 => gd3 (x1 + 1) (G12_keepText_142 n m31 (x1 + 1))))))
def G12_keepText_0 (m : Mem) : Option Mem := wt (up m 0 12 (m 0 18)) fun m3 => wt (up m3 0 13 (m3 0 19)) fun m7 => wt (up m7 0 14 (m7 0 20)) fun m11 => wt (up m11 0 15 (m11 0 21)) fun m15 => wt (up m15 0 16 (m15 0 22)) fun m19 => wt (up m19 0 17 (m19 0 23)) fun m23 => (G12_copies m23 4 7).bind fun o27 => (G12_copies o27 5 5).bind fun o31 => (G12_copies o31 6 5).bind fun o35 => (G12_copies o35 7 5).bind fun o39 => (G12_copies o39 8 5).bind fun o43 => (G12_copies o43 9 5).bind fun o47 => (G12_copies o47 10 5).bind fun o51 => (G12_copies o51 11 4).bind fun o55 => (G12_copies o55 12 28).bind fun o59 => (G12_copies o59 13 28).bind fun o63 => (G12_copies o63 14 28).bind fun o67 => G12_keepText_142 1024 o67 0
def G12_keepText (m : Mem) : Option Mem := G12_keepText_0 m
def G12_isCell_0 (m : Mem) (x1 : Int) : Option (Int × Mem) := if x1 < 0 then (some (0, m)) else ((G12_cells m).bind fun o2 => if o2.1 ≤ x1 then (some (0, o2.2)) else (some (1, o2.2)))
def G12_isCell (m : Mem) (x1 : Int) : Option (Int × Mem) := G12_isCell_0 m x1
def G12_isCounted_0 (m : Mem) : Option (Int × Mem) := if (m 0 49) = 64 then ((G12_wrong m 2).bind fun o8 => gdb o8.1 (some (o8.1, o8.2))) else (gd3 ((m 0 49) + 1) (wt (up m 0 49 ((m 0 49) + 1)) fun m6 => some (1, m6)))
def G12_isCounted (m : Mem) : Option (Int × Mem) := G12_isCounted_0 m
def G12_isKey_0 (m : Mem) (x1 : Int) : Option (Int × Mem) := if (m 0 8) = 1 then (if (m 0 9) = x1 then (some (1, m)) else (some (0, m))) else (some (0, m))
def G12_isKey (m : Mem) (x1 : Int) : Option (Int × Mem) := G12_isKey_0 m x1
def G12_isRest_13 : Nat → Mem → Int → Int → Option (Int × Mem)
  | 0, _, _, _ => none
  | n + 1, m, x1, x2 => if 5 ≤ x2 then (some (1, m)) else (gdd x1 5 (gdx ((5 * x2) + (x1 % 5)) 25 (gdx x1 25 (if (m 35 x1) < (m 35 ((5 * x2) + (x1 % 5))) then (some (0, m)) else (gdd x1 5 (gdx (((x1 / 5) * 5) + x2) 25 (gdx x1 25 (if (m 36 (((x1 / 5) * 5) + x2)) ≤ (m 36 x1) then (gd3 (x2 + 1) (G12_isRest_13 n m x1 (x2 + 1))) else (some (0, m))))))))))
def G12_isRest_0 (m : Mem) (x1 : Int) : Option (Int × Mem) := gdx x1 25 (if 0 ≤ (m 35 x1) then (G12_isRest_13 1024 m x1 0) else (some (0, m)))
def G12_isRest (m : Mem) (x1 : Int) : Option (Int × Mem) := G12_isRest_0 m x1
def G12_isSign_0 (m : Mem) (x1 : Int) : Option (Int × Mem) := if (m 0 8) = 4 then (if (m 0 9) = x1 then (some (1, m)) else (some (0, m))) else (some (0, m))
def G12_isSign (m : Mem) (x1 : Int) : Option (Int × Mem) := G12_isSign_0 m x1
def G12_keep_96 : Nat → Mem → Int → Option (Int × Mem)
  | 0, _, _ => none
  | n + 1, m, x1 => if 28 ≤ x1 then (wt (up m 0 82 (m 31 0)) fun m6 => wt (up m6 0 83 (m6 0 64)) fun m10 => wt (up m10 0 84 (m10 32 0)) fun m16 => wt (up m16 0 85 (m16 33 0)) fun m22 => wt (up m22 0 86 (m22 0 65)) fun m26 => some ((m26 31 0), m26)) else (gdx x1 56 (gdx (25 + x1) 53 (wt (up m 42 (25 + x1) (m 30 x1)) fun m39 => gd3 (x1 + 1) (G12_keep_96 n m39 (x1 + 1)))))
def G12_keep_12 : Nat → Mem → Int → Option (Int × Mem)
  | 0, _, _ => none
  | n + 1, m, x1 => if 5 ≤ x1 then (G12_keep_96 1024 m 0) else (gdx x1 10 (gdx x1 53 (wt (up m 42 x1 (m 25 x1)) fun m9 => gdx x1 10 (gdx (5 + x1) 53 (wt (up m9 42 (5 + x1) (m9 26 x1)) fun m17 => gdx x1 10 (gdx (10 + x1) 53 (wt (up m17 42 (10 + x1) (m17 27 x1)) fun m25 => gdx x1 10 (gdx (15 + x1) 53 (wt (up m25 42 (15 + x1) (m25 28 x1)) fun m33 => gdx x1 5 (gdx (20 + x1) 53 (wt (up m33 42 (20 + x1) (m33 29 x1)) fun m41 => gd3 (x1 + 1) (G12_keep_12 n m41 (x1 + 1)))))))))))))
def G12_keep_0 (m : Mem) : Option (Int × Mem) := wt (up m 0 2 0) fun m1 => wt (up m1 0 80 1) fun m3 => G12_keep_12 1024 m3 0
def G12_keep (m : Mem) : Option (Int × Mem) := G12_keep_0 m
def G12_known_0 (m : Mem) (x1 : Int) : Option (Int × Mem) := wt (up m 0 2 0) fun m1 => (G12_isIn m1 x1 (-1) (m1 0 74)).bind fun o5 => if o5.1 = 0 then (some (0, o5.2)) else (wt (up o5.2 0 75 x1) fun m8 => some (1, m8))
def G12_known (m : Mem) (x1 : Int) : Option (Int × Mem) := G12_known_0 m x1
def G12_law_134 (m : Mem) (x4 : Int) : Option (Int × Mem) := (G12_lawOf m x4).bind fun o1 => if (o1.2 0 54) = 0 then (some (o1.1, o1.2)) else (some ((-9223372036854775808), o1.2))
def G12_law_57 (m : Mem) (x1 : Int) (x2 : Int) (x3 : Int) (s0 : Int) : Option (Int × Mem) := gdx s0 6 (if (m 15 s0) = 0 then (some ((-9223372036854775808), m)) else (if x1 = 0 then (gdx x2 10 ((G12_layCatch m x2 x3 (m 25 x2)).bind fun o28 => G12_law_134 o28.2 s0)) else (if x1 = 1 then (gdx x2 10 (gdx x3 56 ((G12_layNames m 0 0 (m 7 x2) x3 (m 12 x3)).bind fun o22 => G12_law_134 o22 s0))) else ((G12_layNames m 0 0 0 (-1) (m 31 0)).bind fun o12 => G12_law_134 o12 s0))))
def G12_law_39 (m : Mem) (x1 : Int) (x2 : Int) (x3 : Int) : Option (Int × Mem) := if x1 = 0 then (G12_law_57 m x1 x2 x3 0) else (if x1 = 1 then (G12_law_57 m x1 x2 x3 2) else (G12_law_57 m x1 x2 x3 1))
def G12_law_0 (m : Mem) (x1 : Int) (x2 : Int) (x3 : Int) : Option (Int × Mem) := wt (up m 0 2 0) fun m1 => (G12_isIn m1 x1 0 2).bind fun o3 => if o3.1 = 0 then (some ((-9223372036854775808), o3.2)) else (if 2 ≤ x1 then (G12_law_39 o3.2 x1 x2 x3) else ((G12_isSurfer o3.2 x2).bind fun o7 => if o7.1 = 0 then (some ((-9223372036854775808), o7.2)) else ((G12_isWave o7.2 x3).bind fun o10 => if o10.1 = 0 then (some ((-9223372036854775808), o10.2)) else (G12_law_39 o10.2 x1 x2 x3))))
def G12_law (m : Mem) (x1 : Int) (x2 : Int) (x3 : Int) : Option (Int × Mem) := G12_law_0 m x1 x2 x3
def G12_wayAt_0 (m : Mem) (x0 : Int) : Option (Int × Mem) := if x0 = 0 then (some (4, m)) else (gd3 (x0 - 1) (some ((x0 - 1), m)))
def G12_wayAt (m : Mem) (x0 : Int) : Option (Int × Mem) := G12_wayAt_0 m x0
def G12_layGame_151 (kk2 : Mem → Int → Int → Int → Option Mem) (kk78 : Mem → Int → Int → Int → Int → Int → Int → Option Mem) (m : Mem) (x1 : Int) (x2 : Int) (x3 : Int) (x4 : Int) (x5 : Int) (x6 : Int) : Option Mem := gdx x3 25 ((G12_gainOf m x1 x6 x4).bind fun o5 => gdx x3 25 (gd3 ((m 35 x3) + o5.1) (wt (up o5.2 35 x3 ((m 35 x3) + o5.1)) fun m8 => gd3 (x6 + 1) (kk78 m8 x1 x2 x3 x4 x5 (x6 + 1)))))
def G12_layGame_172 (kk2 : Mem → Int → Int → Int → Option Mem) (kk78 : Mem → Int → Int → Int → Int → Int → Int → Option Mem) (m : Mem) (x1 : Int) (x2 : Int) (x3 : Int) (x4 : Int) (x5 : Int) (x6 : Int) : Option Mem := gdx x3 25 ((G12_gainOf m x2 x6 x5).bind fun o5 => gdx x3 25 (gd3 ((m 36 x3) + o5.1) (wt (up o5.2 36 x3 ((m 36 x3) + o5.1)) fun m8 => gd3 (x6 + 1) (kk78 m8 x1 x2 x3 x4 x5 (x6 + 1)))))
def G12_layGame_78 (kk2 : Mem → Int → Int → Int → Option Mem) : Nat → Mem → Int → Int → Int → Int → Int → Int → Option Mem
  | 0, _, _, _, _, _, _, _ => none
  | n + 1, m, x1, x2, x3, x4, x5, x6 => if (m 0 16) ≤ x6 then (gd3 (x3 + 1) (kk2 m x1 x2 (x3 + 1))) else ((G12_isToCome m x6).bind fun o4 => if o4.1 = 0 then (gd3 (x6 + 1) (G12_layGame_78 kk2 n o4.2 x1 x2 x3 x4 x5 (x6 + 1))) else (gdx x6 56 ((G12_peakAt o4.2 (o4.2 12 x6)).bind fun o11 => (G12_far o11.2 x4 o11.1).bind fun o13 => (G12_far o13.2 x5 o11.1).bind fun o15 => if o13.1 < o15.1 then (G12_layGame_151 kk2 (fun m x1 x2 x3 x4 x5 x6 => G12_layGame_78 kk2 n m x1 x2 x3 x4 x5 x6) o15.2 x1 x2 x3 x4 x5 x6) else (if o13.1 = o15.1 then (if x2 ≤ x1 then (G12_layGame_172 kk2 (fun m x1 x2 x3 x4 x5 x6 => G12_layGame_78 kk2 n m x1 x2 x3 x4 x5 x6) o15.2 x1 x2 x3 x4 x5 x6) else (G12_layGame_151 kk2 (fun m x1 x2 x3 x4 x5 x6 => G12_layGame_78 kk2 n m x1 x2 x3 x4 x5 x6) o15.2 x1 x2 x3 x4 x5 x6)) else (G12_layGame_172 kk2 (fun m x1 x2 x3 x4 x5 x6 => G12_layGame_78 kk2 n m x1 x2 x3 x4 x5 x6) o15.2 x1 x2 x3 x4 x5 x6)))))
def G12_layGame_2 : Nat → Mem → Int → Int → Int → Option Mem
  | 0, _, _, _, _ => none
  | n + 1, m, x1, x2, x3 => if 25 ≤ x3 then (some m) else (gdd x3 5 ((G12_wayAt m (x3 / 5)).bind fun o2 => (G12_comesTo o2.2 x1 o2.1).bind fun o4 => gdd x3 5 ((G12_wayAt o4.2 (x3 % 5)).bind fun o6 => (G12_comesTo o6.2 x2 o6.1).bind fun o8 => gdx x3 25 (wt (up o8.2 35 x3 (-1)) fun m13 => gdx x3 25 (wt (up m13 36 x3 (-1)) fun m17 => if o4.1 < 0 then (gd3 (x3 + 1) (G12_layGame_2 n m17 x1 x2 (x3 + 1))) else (if 0 ≤ o8.1 then (gdx x3 25 (wt (up m17 35 x3 0) fun m23 => gdx x3 25 (wt (up m23 36 x3 0) fun m27 => G12_layGame_78 (fun m x1 x2 x3 => G12_layGame_2 n m x1 x2 x3) 1024 m27 x1 x2 x3 o4.1 o8.1 0))) else (gd3 (x3 + 1) (G12_layGame_2 n m17 x1 x2 (x3 + 1)))))))))
def G12_layGame_0 (m : Mem) (x1 : Int) (x2 : Int) : Option Mem := G12_layGame_2 1024 m x1 x2 0
def G12_layGame (m : Mem) (x1 : Int) (x2 : Int) : Option Mem := G12_layGame_0 m x1 x2
def G12_layPlan_124 (kk17 : Mem → Int → Int → Option Mem) (m : Mem) (x1 : Int) (x2 : Int) (s0 : Int) (s1 : Int) : Option Mem := gdx s1 29 (wt (up m 37 s1 s0) fun m2 => gd3 (x2 + (-1)) (kk17 m2 x1 (x2 + (-1))))
def G12_layPlan_65 (kk17 : Mem → Int → Int → Option Mem) (m : Mem) (x1 : Int) (x2 : Int) (x3 : Int) : Option Mem := gdx x2 28 (wt (up m 38 x2 x3) fun m4 => gdx x1 10 ((G12_gainOf m4 x1 x2 (m4 25 x1)).bind fun o9 => gdx x3 29 (gdx (x2 + 1) 29 (gd3 (o9.1 + (o9.2 37 x3)) (if (o9.1 + (o9.2 37 x3)) < (o9.2 37 (x2 + 1)) then (gdx (x2 + 1) 29 (G12_layPlan_124 kk17 o9.2 x1 x2 (o9.2 37 (x2 + 1)) x2)) else (gd3 (o9.1 + (o9.2 37 x3)) (G12_layPlan_124 kk17 o9.2 x1 x2 (o9.1 + (o9.2 37 x3)) x2)))))))
def G12_layPlan_33 (kk17 : Mem → Int → Int → Option Mem) : Nat → Mem → Int → Int → Int → Int → Option Mem
  | 0, _, _, _, _, _ => none
  | n + 1, m, x1, x2, x3, x4 => if (m 0 16) ≤ x3 then (G12_layPlan_65 kk17 m x1 x2 x3) else (gdx x3 56 (gdx x2 56 (gd3 ((m 12 x2) + x4) (if ((m 12 x2) + x4) ≤ (m 12 x3) then (G12_layPlan_65 kk17 m x1 x2 x3) else (gd3 (x3 + 1) (G12_layPlan_33 kk17 n m x1 x2 (x3 + 1) x4))))))
def G12_layPlan_17 : Nat → Mem → Int → Int → Option Mem
  | 0, _, _, _ => none
  | n + 1, m, x1, x2 => if x2 < 0 then (some m) else ((G12_awayOf m x1 x2).bind fun o2 => gd3 (x2 + 1) (G12_layPlan_33 (fun m x1 x2 => G12_layPlan_17 n m x1 x2) 1024 o2.2 x1 x2 (x2 + 1) o2.1))
def G12_layPlan_0 (m : Mem) (x1 : Int) : Option Mem := gdx (m 0 16) 29 (wt (up m 37 (m 0 16) 0) fun m6 => gd3 ((m6 0 16) - 1) (G12_layPlan_17 1024 m6 x1 ((m6 0 16) - 1)))
def G12_layPlan (m : Mem) (x1 : Int) : Option Mem := G12_layPlan_0 m x1
def G12_waitsFor_0 (m : Mem) (x1 : Int) : Option Mem := gdx (m 0 46) 96 (wt (up m 21 (m 0 46) x1) fun m6 => gd3 ((m6 0 46) + 1) (wt (up m6 0 46 ((m6 0 46) + 1)) fun m9 => some m9))
def G12_waitsFor (m : Mem) (x1 : Int) : Option Mem := G12_waitsFor_0 m x1
def G12_nameMet_0 (m : Mem) : Option (Int × Mem) := if (m 0 8) = 1 then (if (m 0 9) < 18 then (some ((-1), m)) else (gd3 ((m 0 9) - 18) (some (((m 0 9) - 18), m)))) else (some ((-1), m))
def G12_nameMet (m : Mem) : Option (Int × Mem) := G12_nameMet_0 m
def G12_leafRead_160 (m : Mem) (s0 : Int) (s1 : Int) : Option (Int × Mem) := (G12_grown m s1 s0 0).bind fun o1 => wt (up o1 0 50 0) fun m3 => (G12_token m3).bind fun o5 => some (1, o5)
def G12_leafRead_148 (m : Mem) (x1 : Int) (s0 : Int) : Option (Int × Mem) := if x1 < 0 then (G12_leafRead_160 m (m 0 9) s0) else (G12_leafRead_160 m x1 s0)
def G12_leafRead_129 (m : Mem) (x1 : Int) : Option (Int × Mem) := (G12_isCounted m).bind fun o1 => if o1.1 = 0 then (some (0, o1.2)) else (if x1 < 0 then (G12_leafRead_148 o1.2 x1 0) else (G12_leafRead_148 o1.2 x1 1))
def G12_leafRead_109 (m : Mem) (x1 : Int) : Option (Int × Mem) := if 0 ≤ x1 then (G12_leafRead_129 m x1) else (if (m 0 9) ≤ 9999 then (G12_leafRead_129 m x1) else ((G12_wrong m 2).bind fun o5 => gdb o5.1 (some (o5.1, o5.2))))
def G12_leafRead_86 (m : Mem) : Option (Int × Mem) := (G12_nameMet m).bind fun o1 => if 0 ≤ o1.1 then (G12_leafRead_109 o1.2 o1.1) else (if (o1.2 0 8) = 3 then (G12_leafRead_109 o1.2 o1.1) else ((G12_wrong o1.2 1).bind fun o7 => gdb o7.1 (some (o7.1, o7.2))))
def G12_leafRead_0 (m : Mem) : Option (Int × Mem) := (G12_isSign m 40).bind fun o1 => if o1.1 = 0 then ((G12_isKey o1.2 17).bind fun o4 => if o4.1 = 0 then (G12_leafRead_86 o4.2) else (if (o4.2 0 51) = 0 then (G12_leafRead_86 o4.2) else ((G12_isCounted o4.2).bind fun o10 => if o10.1 = 0 then (some (0, o10.2)) else ((G12_waitsFor o10.2 2).bind fun o13 => (G12_token o13).bind fun o15 => some (1, o15))))) else (if (o1.2 0 48) = 8 then ((G12_wrong o1.2 2).bind fun o30 => gdb o30.1 (some (o30.1, o30.2))) else (gd3 ((o1.2 0 48) + 1) (wt (up o1.2 0 48 ((o1.2 0 48) + 1)) fun m22 => (G12_waitsFor m22 0).bind fun o24 => wt (up o24 0 51 1) fun m26 => (G12_token m26).bind fun o28 => some (1, o28))))
def G12_leafRead (m : Mem) : Option (Int × Mem) := G12_leafRead_0 m
def G12_seaLine_0 (m : Mem) : Option (Int × Mem) := if (m 3 0) = 0 then (if (m 0 24) = 0 then (gdb 1 (wt (up m 3 0 1) fun m12 => (G12_token m12).bind fun o13 => (G12_number o13 1 8).bind fun o15 => if o15.1 = 0 then (some (0, o15.2)) else (wt (up o15.2 0 18 (o15.2 0 11)) fun m20 => (G12_number m20 1 6).bind fun o22 => if o22.1 = 0 then (some (0, o22.2)) else (wt (up o22.2 0 19 (o22.2 0 11)) fun m27 => some (1, m27))))) else ((G12_wrong m 4).bind fun o29 => gdb o29.1 (some (o29.1, o29.2)))) else ((G12_wrong m 3).bind fun o31 => gdb o31.1 (some (o31.1, o31.2)))
def G12_seaLine (m : Mem) : Option (Int × Mem) := G12_seaLine_0 m
def G12_surferLine_0 (m : Mem) : Option (Int × Mem) := if (m 0 20) = 5 then ((G12_wrong m 2).bind fun o85 => gdb o85.1 (some (o85.1, o85.2))) else ((G12_token m).bind fun o4 => if (o4 0 8) = 2 then ((G12_find o4 5 (o4 0 20) (o4 0 9)).bind fun o15 => if o15.1 < 0 then (gdx (5 + (o15.2 0 20)) 10 (wt (up o15.2 5 (5 + (o15.2 0 20)) (o15.2 0 9)) fun m25 => (G12_token m25).bind fun o26 => (G12_cellRead o26).bind fun o28 => if o28.1 = 0 then (some (0, o28.2)) else (gdx (5 + (o15.2 0 20)) 10 (gd3 (((o28.2 0 18) * (o28.2 0 11)) + (o28.2 0 43)) (wt (up o28.2 6 (5 + (o15.2 0 20)) (((o28.2 0 18) * (o28.2 0 11)) + (o28.2 0 43))) fun m40 => (G12_number m40 1 9).bind fun o41 => if o41.1 = 0 then (some (0, o41.2)) else (gdx (5 + (o15.2 0 20)) 10 (wt (up o41.2 7 (5 + (o15.2 0 20)) (o41.2 0 11)) fun m49 => (G12_number m49 1 3).bind fun o50 => if o50.1 = 0 then (some (0, o50.2)) else (gdx (5 + (o15.2 0 20)) 10 (wt (up o50.2 8 (5 + (o15.2 0 20)) (o50.2 0 11)) fun m58 => (G12_number m58 0 100).bind fun o59 => if o59.1 = 0 then (some (0, o59.2)) else (gdx (5 + (o15.2 0 20)) 10 (wt (up o59.2 9 (5 + (o15.2 0 20)) (o59.2 0 11)) fun m67 => (G12_number m67 0 100).bind fun o68 => if o68.1 = 0 then (some (0, o68.2)) else (gdx (5 + (o15.2 0 20)) 10 (wt (up o68.2 10 (5 + (o15.2 0 20)) (o68.2 0 11)) fun m76 => gd3 ((m76 0 20) + 1) (wt (up m76 0 20 ((m76 0 20) + 1)) fun m79 => some (1, m79))))))))))))))) else ((G12_wrong o15.2 3).bind fun o81 => gdb o81.1 (some (o81.1, o81.2)))) else ((G12_wrong o4 1).bind fun o83 => gdb o83.1 (some (o83.1, o83.2))))
def G12_surferLine (m : Mem) : Option (Int × Mem) := G12_surferLine_0 m
def G12_setLine_110 : Nat → Mem → Int → Int → Option (Int × Mem)
  | 0, _, _, _ => none
  | n + 1, m, x2, x3 => if (m 0 8) = 3 then (if x3 = 7 then ((G12_wrong m 2).bind fun o38 => gdb o38.1 (some (o38.1, o38.2))) else ((G12_number m 1 9).bind fun o9 => if o9.1 = 0 then (some (0, o9.2)) else (gdx (28 + (o9.2 0 22)) 56 (gd3 (x2 + x3) (wt (up o9.2 12 (28 + (o9.2 0 22)) (x2 + x3)) fun m17 => gdx (28 + (m17 0 22)) 56 (wt (up m17 13 (28 + (m17 0 22)) (m17 0 11)) fun m25 => gdx (28 + (m25 0 22)) 56 (wt (up m25 14 (28 + (m25 0 22)) (m25 0 21)) fun m33 => gd3 ((m33 0 22) + 1) (wt (up m33 0 22 ((m33 0 22) + 1)) fun m36 => gd3 (x3 + 1) (G12_setLine_110 n m36 x2 (x3 + 1)))))))))) else (gd3 ((m 0 21) + 1) (wt (up m 0 21 ((m 0 21) + 1)) fun m6 => some (1, m6)))
def G12_setLine_74 (m : Mem) : Option (Int × Mem) := if (m 0 8) = 3 then (gdx (4 + (m 0 21)) 8 (wt (up m 11 (4 + (m 0 21)) (m 0 22)) fun m13 => G12_setLine_110 1024 m13 (m 0 11) 0)) else ((G12_wrong m 1).bind fun o14 => gdb o14.1 (some (o14.1, o14.2)))
def G12_setLine_0 (m : Mem) : Option (Int × Mem) := if (m 0 21) = 4 then ((G12_wrong m 2).bind fun o27 => gdb o27.1 (some (o27.1, o27.2))) else ((G12_token m).bind fun o4 => (G12_number o4 0 99).bind fun o8 => if o8.1 = 0 then (some (0, o8.2)) else (if (o8.2 0 22) ≤ 0 then (G12_setLine_74 o8.2) else (gdx ((28 + (o8.2 0 22)) - 1) 56 (if (o8.2 12 ((28 + (o8.2 0 22)) - 1)) < (o8.2 0 11) then (G12_setLine_74 o8.2) else (wt (up o8.2 0 10 (o4 0 10)) fun m23 => (G12_wrong m23 5).bind fun o25 => gdb o25.1 (some (o25.1, o25.2)))))))
def G12_setLine (m : Mem) : Option (Int × Mem) := G12_setLine_0 m
def G12_onceLine_168 (m : Mem) : Option (Int × Mem) := (G12_wrong m 1).bind fun o1 => gdb o1.1 (some (o1.1, o1.2))
def G12_onceLine_37 (m : Mem) (s0 : Int) : Option (Int × Mem) := gdx s0 5 (if (m 3 s0) = 0 then (gdx s0 5 (gdb 1 (wt (up m 3 s0 1) fun m9 => if s0 = 2 then ((G12_bankLine m9).bind fun o56 => gdb o56.1 (some (o56.1, o56.2))) else ((G12_token m9).bind fun o11 => if s0 = 1 then ((G12_cellRead o11).bind fun o41 => if o41.1 = 0 then (some (0, o41.2)) else (wt (up o41.2 4 7 (o41.2 0 43)) fun m49 => wt (up m49 4 8 (m49 0 11)) fun m55 => some (1, m55))) else (if s0 = 4 then ((G12_number o11 0 99999).bind fun o32 => if o32.1 = 0 then (some (0, o32.2)) else (wt (up o32.2 4 13 (o32.2 0 11)) fun m40 => some (1, m40))) else (if (o11 0 8) = 1 then (if (o11 0 9) < 8 then (G12_onceLine_168 o11) else (if (o11 0 9) ≤ 11 then (gd3 ((o11 0 9) - 8) (wt (up o11 4 12 ((o11 0 9) - 8)) fun m29 => (G12_token m29).bind fun o30 => some (1, o30))) else (G12_onceLine_168 o11))) else (G12_onceLine_168 o11))))))) else ((G12_wrong m 3).bind fun o58 => gdb o58.1 (some (o58.1, o58.2))))
def G12_onceLine_0 (m : Mem) : Option (Int × Mem) := if (m 0 9) = 1 then (G12_onceLine_37 m 1) else (if (m 0 9) = 4 then (G12_onceLine_37 m 2) else (if (m 0 9) = 5 then (G12_onceLine_37 m 3) else (G12_onceLine_37 m 4)))
def G12_onceLine (m : Mem) : Option (Int × Mem) := G12_onceLine_0 m
def G12_signs_250 (m : Mem) (s0 : Int) : Option (Int × Mem) := gdb s0 (wt (up m 0 51 s0) fun m1 => (G12_token m1).bind fun o3 => some (1, o3))
def G12_signs_217 (m : Mem) (x1 : Int) : Option (Int × Mem) := (G12_isCounted m).bind fun o1 => if o1.1 = 0 then (some (0, o1.2)) else ((G12_waitsFor o1.2 x1).bind fun o4 => wt (up o4 0 50 1) fun m6 => (G12_rank m6 x1).bind fun o8 => if 3 ≤ o8.1 then (G12_signs_250 o8.2 0) else (G12_signs_250 o8.2 1))
def G12_signs_175 (m : Mem) (x1 : Int) (s0 : Int) : Option (Int × Mem) := (G12_bind m s0).bind fun o1 => (G12_rank o1 x1).bind fun o3 => if o3.1 = 4 then (if (o3.2 0 46) ≤ 0 then (G12_signs_217 o3.2 x1) else (gdx ((o3.2 0 46) - 1) 96 ((G12_rank o3.2 (o3.2 21 ((o3.2 0 46) - 1))).bind fun o15 => if o15.1 = 4 then ((G12_wrong o15.2 1).bind fun o18 => gdb o18.1 (some (o18.1, o18.2))) else (G12_signs_217 o15.2 x1)))) else (G12_signs_217 o3.2 x1)
def G12_signs_147 (m : Mem) (s0 : Int) : Option (Int × Mem) := if s0 = 0 then ((G12_wrong m 1).bind fun o7 => gdb o7.1 (some (o7.1, o7.2))) else ((G12_rank m s0).bind fun o2 => if o2.1 = 4 then (G12_signs_175 o2.2 s0 5) else ((G12_rank o2.2 s0).bind fun o5 => G12_signs_175 o5.2 s0 o5.1))
def G12_signs_47 (m : Mem) : Option (Int × Mem) := (G12_isKey m 15).bind fun o1 => if o1.1 = 0 then ((G12_isKey o1.2 16).bind fun o4 => if o4.1 = 0 then (if (o4.2 0 8) = 5 then (gd3 (5 + (o4.2 0 9)) (G12_signs_147 o4.2 (5 + (o4.2 0 9)))) else ((G12_isSign o4.2 43).bind fun o10 => if o10.1 = 0 then ((G12_isSign o10.2 45).bind fun o13 => if o13.1 = 0 then ((G12_isSign o13.2 42).bind fun o16 => if o16.1 = 0 then ((G12_isSign o16.2 47).bind fun o19 => if o19.1 = 0 then (G12_signs_147 o19.2 0) else (G12_signs_147 o19.2 14)) else (G12_signs_147 o16.2 13)) else (G12_signs_147 o13.2 12)) else (G12_signs_147 o10.2 11))) else (G12_signs_147 o4.2 4)) else (G12_signs_147 o1.2 3)
def G12_signs_0 (m : Mem) : Option (Int × Mem) := (G12_isSign m 41).bind fun o1 => if o1.1 = 0 then (G12_signs_47 o1.2) else (if (o1.2 0 48) ≤ 0 then (G12_signs_47 o1.2) else ((G12_bind o1.2 1).bind fun o7 => gd3 ((o7 0 46) - 1) (wt (up o7 0 46 ((o7 0 46) - 1)) fun m11 => gd3 ((m11 0 48) - 1) (wt (up m11 0 48 ((m11 0 48) - 1)) fun m15 => (G12_token m15).bind fun o17 => some (1, o17)))))
def G12_signs (m : Mem) : Option (Int × Mem) := G12_signs_0 m
def G12_sumRead_48 (kk25 : Mem → Option (Int × Mem)) (m : Mem) : Option (Int × Mem) := if (m 0 50) = 0 then ((G12_signs m).bind fun o4 => if o4.1 = 0 then (some (0, o4.2)) else (kk25 o4.2)) else ((G12_leafRead m).bind fun o7 => if o7.1 = 0 then (some (0, o7.2)) else (kk25 o7.2))
def G12_sumRead_25 : Nat → Mem → Option (Int × Mem)
  | 0, _ => none
  | n + 1, m => (G12_isSign m 59).bind fun o1 => if o1.1 = 0 then (G12_sumRead_48 (fun m => G12_sumRead_25 n m) o1.2) else (if (o1.2 0 50) = 0 then (if (o1.2 0 48) ≤ 0 then ((G12_bind o1.2 1).bind fun o10 => some (1, o10)) else (G12_sumRead_48 (fun m => G12_sumRead_25 n m) o1.2)) else (G12_sumRead_48 (fun m => G12_sumRead_25 n m) o1.2))
def G12_sumRead_0 (m : Mem) : Option (Int × Mem) := wt (up m 0 46 0) fun m1 => wt (up m1 0 47 0) fun m3 => wt (up m3 0 48 0) fun m5 => wt (up m5 0 50 1) fun m7 => wt (up m7 0 51 1) fun m9 => G12_sumRead_25 1024 m9
def G12_sumRead (m : Mem) : Option (Int × Mem) := G12_sumRead_0 m
def G12_lineRead_17 (m : Mem) : Option (Int × Mem) := (G12_wrong m 1).bind fun o1 => gdb o1.1 (some (o1.1, o1.2))
def G12_lineRead_197 (m : Mem) (x1 : Int) : Option (Int × Mem) := if x1 = 0 then (some (0, m)) else ((G12_isSign m 59).bind fun o2 => if o2.1 = 0 then ((G12_wrong o2.2 1).bind fun o7 => gdb o7.1 (some (o7.1, o7.2))) else ((G12_token o2.2).bind fun o5 => some (1, o5)))
def G12_lineRead_130 (m : Mem) : Option (Int × Mem) := (G12_wrong m 1).bind fun o1 => gdb o1.1 (some (o1.1, o1.2))
def G12_lineRead_0 (m : Mem) : Option (Int × Mem) := if (m 0 8) = 1 then (if (m 0 9) ≤ 7 then (if (m 0 9) = 0 then ((G12_seaLine m).bind fun o10 => G12_lineRead_197 o10.2 o10.1) else (if (m 0 9) = 1 then ((G12_onceLine m).bind fun o13 => G12_lineRead_197 o13.2 o13.1) else (if (m 0 9) = 2 then ((G12_surferLine m).bind fun o16 => G12_lineRead_197 o16.2 o16.1) else (if (m 0 9) = 3 then ((G12_setLine m).bind fun o19 => G12_lineRead_197 o19.2 o19.1) else (if (m 0 9) = 4 then ((G12_onceLine m).bind fun o22 => G12_lineRead_197 o22.2 o22.1) else (if (m 0 9) = 5 then ((G12_onceLine m).bind fun o25 => G12_lineRead_197 o25.2 o25.1) else (if (m 0 9) = 6 then ((G12_onceLine m).bind fun o28 => G12_lineRead_197 o28.2 o28.1) else ((G12_token m).bind fun o30 => if (o30 0 8) = 1 then (if (o30 0 9) < 12 then (G12_lineRead_130 o30) else (if (o30 0 9) ≤ 14 then (gdx ((3 + (o30 0 9)) - 12) 6 (if (o30 15 ((3 + (o30 0 9)) - 12)) = 0 then (gdx ((3 + (o30 0 9)) - 12) 6 (gdb 1 (wt (up o30 15 ((3 + (o30 0 9)) - 12) 1) fun m51 => (G12_token m51).bind fun o52 => gdx ((3 + (o30 0 9)) - 12) 6 (wt (up o52 16 ((3 + (o30 0 9)) - 12) (o52 0 23)) fun m59 => (G12_sumRead m59).bind fun o60 => gdx ((3 + (o30 0 9)) - 12) 6 (wt (up o60.2 17 ((3 + (o30 0 9)) - 12) (o60.2 0 23)) fun m67 => G12_lineRead_197 m67 o60.1))))) else ((G12_wrong o30 3).bind fun o68 => gdb o68.1 (some (o68.1, o68.2))))) else (G12_lineRead_130 o30))) else (G12_lineRead_130 o30))))))))) else (G12_lineRead_17 m)) else (G12_lineRead_17 m)
def G12_lineRead (m : Mem) : Option (Int × Mem) := G12_lineRead_0 m
def G12_locals_100 : Nat → Mem → Int → Int → Int → Int → Option (Int × Mem)
  | 0, _, _, _, _, _ => none
  | n + 1, m, x1, x2, x3, x4 => (G12_knownBy m).bind fun o1 => if o1.1 ≤ x4 then (some ((b3an x2 (b3xo x3 (-1))), o1.2)) else (gdx x4 24 (if (o1.2 40 x4) = 0 then (gd3 (x4 + 1) (G12_locals_100 n o1.2 x1 x2 x3 (x4 + 1))) else (gdx (3 * x4) 72 (if 0 ≤ (o1.2 39 (3 * x4)) then (gdx (3 * x4) 72 ((G12_beginsFrom o1.2 (o1.2 39 (3 * x4))).bind fun o18 => if 0 ≤ o18.1 then (gdx ((3 * x4) + 1) 72 (gdx ((3 * x4) + 2) 72 ((G12_peakAt o18.2 o18.1).bind fun o29 => (G12_far o29.2 (o18.2 39 ((3 * x4) + 2)) o29.1).bind fun o31 => if o31.1 ≤ x1 then (gd3 (x4 + 1) (G12_locals_100 n o31.2 x1 (b3or x2 (b3sl 1 (b3an (o18.2 39 ((3 * x4) + 1)) 31))) x3 (x4 + 1))) else (gdx ((3 * x4) + 1) 72 (gd3 (x4 + 1) (G12_locals_100 n o31.2 x1 (b3or x2 (b3sl 1 (b3an (o18.2 39 ((3 * x4) + 1)) 31))) (b3or x3 (b3sl 1 (b3an (o31.2 39 ((3 * x4) + 1)) 31))) (x4 + 1))))))) else (gd3 (x4 + 1) (G12_locals_100 n o18.2 x1 x2 x3 (x4 + 1))))) else (gd3 (x4 + 1) (G12_locals_100 n o1.2 x1 x2 x3 (x4 + 1)))))))
