def F8_init_0  (h : PH) (a0 : Nat) : Option (PH) := (nC h (.inr (1, zF1))).bind fun h1 => (F1_init h1 h.length).bind fun o3 => (pR o3 a0 8 4 h.length).bind fun h5 => (nC h5 (.inr (10, zF10))).bind fun h7 => (F10_init h7 h5.length).bind fun o9 => (pR o9 a0 8 5 h5.length).bind fun h11 => (nC h11 (zR 3)).bind fun h13 => (pR h13 a0 8 11 h11.length).bind fun h15 => (gR h15 a0 8 11).bind fun r18 => (nC h15 (.inr (2, zF2))).bind fun h20 => (F2_init h20 h15.length).bind fun o22 => (sR o22 r18 0 h15.length).bind fun h25 => (gR h25 a0 8 11).bind fun r27 => (nC h25 (.inr (2, zF2))).bind fun h29 => (F2_init h29 h25.length).bind fun o31 => (sR o31 r27 1 h25.length).bind fun h34 => (gR h34 a0 8 11).bind fun r36 => (nC h34 (.inr (2, zF2))).bind fun h38 => (F2_init h38 h34.length).bind fun o40 => (sR o40 r36 2 h34.length).bind fun h43 => (pI h43 a0 8 0 6).bind fun h45 => (pI h45 a0 8 1 4).bind fun h47 => some h47
def F8_init (h : PH) (a0 : Nat) : Option (PH) := cond (okO h a0 8) (F8_init_0 h a0) none
def F5_init_0  (h : PH) (a0 : Nat) (a1 : Nat) : Option (PH) := (pR h a0 5 10 a1).bind fun h1 => (nC h1 (.inr (7, zF7))).bind fun h3 => (F7_init h3 h1.length).bind fun o5 => (pR o5 a0 5 0 h1.length).bind fun h7 => (nC h7 (zI 0 72)).bind fun h9 => (pR h9 a0 5 1 h7.length).bind fun h11 => (pI h11 a0 5 9 (-1)).bind fun h13 => some h13
def F5_init (h : PH) (a0 : Nat) (a1 : Nat) : Option (PH) := cond (okO h a0 5) (F5_init_0 h a0 a1) none
def F6_init_0  (h : PH) (a0 : Nat) (a1 : Nat) : Option (PH) := (pR h a0 6 0 a1).bind fun h1 => (nC h1 (zI 0 5)).bind fun h3 => (pR h3 a0 6 1 h1.length).bind fun h5 => (nC h5 (zI 0 5)).bind fun h7 => (pR h7 a0 6 2 h5.length).bind fun h9 => (nC h9 (zI 0 28)).bind fun h11 => (pR h11 a0 6 3 h9.length).bind fun h13 => (nC h13 (zJ 6)).bind fun h15 => (pR h15 a0 6 4 h13.length).bind fun h17 => (nC h17 (zJ 64)).bind fun h19 => (pR h19 a0 6 5 h17.length).bind fun h21 => (nC h21 (zI 0 5)).bind fun h23 => (pR h23 a0 6 6 h21.length).bind fun h25 => (nC h25 (zI 0 5)).bind fun h27 => (pR h27 a0 6 7 h25.length).bind fun h29 => (nC h29 (zI 0 5)).bind fun h31 => (pR h31 a0 6 8 h29.length).bind fun h33 => some h33
def F6_init (h : PH) (a0 : Nat) (a1 : Nat) : Option (PH) := cond (okO h a0 6) (F6_init_0 h a0 a1) none
def F0_init_0  (h : PH) (a0 : Nat) : Option (PH) := (nC h (zI 0 10)).bind fun h1 => (pR h1 a0 0 0 h.length).bind fun h3 => (nC h3 (zI 0 280)).bind fun h5 => (pR h5 a0 0 1 h3.length).bind fun h7 => (nC h7 (zI 0 280)).bind fun h9 => (pR h9 a0 0 2 h7.length).bind fun h11 => (nC h11 (zI 0 25)).bind fun h13 => (pR h13 a0 0 3 h11.length).bind fun h15 => (nC h15 (zI 0 25)).bind fun h17 => (pR h17 a0 0 4 h15.length).bind fun h19 => (nC h19 (zI 0 25)).bind fun h21 => (pR h21 a0 0 5 h19.length).bind fun h23 => (nC h23 (zI 0 29)).bind fun h25 => (pR h25 a0 0 7 h23.length).bind fun h27 => (nC h27 (zI 0 28)).bind fun h29 => (pR h29 a0 0 8 h27.length).bind fun h31 => (nC h31 (zI 2 28)).bind fun h33 => (pR h33 a0 0 9 h31.length).bind fun h35 => (nC h35 (zI 0 28)).bind fun h37 => (pR h37 a0 0 10 h35.length).bind fun h39 => some h39
def F0_init (h : PH) (a0 : Nat) : Option (PH) := cond (okO h a0 0) (F0_init_0 h a0) none
def F11_init_0  (h : PH) (a0 : Nat) : Option (PH) := (nC h (zI 1 700)).bind fun h1 => (pR h1 a0 11 0 h.length).bind fun h3 => (nC h3 (.inr (8, zF8))).bind fun h5 => (F8_init h5 h3.length).bind fun o7 => (pR o7 a0 11 3 h3.length).bind fun h9 => (nC h9 (.inr (8, zF8))).bind fun h11 => (F8_init h11 h9.length).bind fun o13 => (pR o13 a0 11 4 h9.length).bind fun h15 => (nC h15 (.inr (5, zF5))).bind fun h17 => (gR h17 a0 11 4).bind fun r19 => (F5_init h17 h15.length r19).bind fun o21 => (pR o21 a0 11 2 h15.length).bind fun h23 => (nC h23 (.inr (6, zF6))).bind fun h25 => (gR h25 a0 11 3).bind fun r27 => (F6_init h25 h23.length r27).bind fun o29 => (pR o29 a0 11 5 h23.length).bind fun h31 => (nC h31 (.inr (6, zF6))).bind fun h33 => (gR h33 a0 11 3).bind fun r35 => (F6_init h33 h31.length r35).bind fun o37 => (pR o37 a0 11 6 h31.length).bind fun h39 => (nC h39 (.inr (4, zF4))).bind fun h41 => (F4_init h41 h39.length).bind fun o43 => (pR o43 a0 11 7 h39.length).bind fun h45 => (nC h45 (.inr (4, zF4))).bind fun h47 => (F4_init h47 h45.length).bind fun o49 => (pR o49 a0 11 8 h45.length).bind fun h51 => (nC h51 (.inr (4, zF4))).bind fun h53 => (F4_init h53 h51.length).bind fun o55 => (pR o55 a0 11 9 h51.length).bind fun h57 => (nC h57 (.inr (3, zF3))).bind fun h59 => (F3_init h59 h57.length).bind fun o61 => (pR o61 a0 11 11 h57.length).bind fun h63 => (nC h63 (.inr (9, zF9))).bind fun h65 => (F9_init h65 h63.length).bind fun o67 => (pR o67 a0 11 12 h63.length).bind fun h69 => (nC h69 (.inr (0, zF0))).bind fun h71 => (F0_init h71 h69.length).bind fun o73 => (pR o73 a0 11 13 h69.length).bind fun h75 => some h75
def F11_init (h : PH) (a0 : Nat) : Option (PH) := cond (okO h a0 11) (F11_init_0 h a0) none
def F12_init_0  (h : PH) (a0 : Nat) : Option (PH) := (nC h (zI 0 700)).bind fun h1 => (pR h1 a0 12 0 h.length).bind fun h3 => (nC h3 (zI 0 120)).bind fun h5 => (sI h5 h3.length 0 0 115).bind fun h8 => (sI h8 h3.length 0 1 101).bind fun h10 => (sI h10 h3.length 0 2 97).bind fun h12 => (sI h12 h3.length 0 3 32).bind fun h14 => (sI h14 h3.length 0 4 112).bind fun h16 => (sI h16 h3.length 0 5 101).bind fun h18 => (sI h18 h3.length 0 6 97).bind fun h20 => (sI h20 h3.length 0 7 107).bind fun h22 => (sI h22 h3.length 0 8 32).bind fun h24 => (sI h24 h3.length 0 9 115).bind fun h26 => (sI h26 h3.length 0 10 117).bind fun h28 => (sI h28 h3.length 0 11 114).bind fun h30 => (sI h30 h3.length 0 12 102).bind fun h32 => (sI h32 h3.length 0 13 101).bind fun h34 => (sI h34 h3.length 0 14 114).bind fun h36 => (sI h36 h3.length 0 15 32).bind fun h38 => (sI h38 h3.length 0 16 115).bind fun h40 => (sI h40 h3.length 0 17 101).bind fun h42 => (sI h42 h3.length 0 18 116).bind fun h44 => (sI h44 h3.length 0 19 32).bind fun h46 => (sI h46 h3.length 0 20 98).bind fun h48 => (sI h48 h3.length 0 21 97).bind fun h50 => (sI h50 h3.length 0 22 110).bind fun h52 => (sI h52 h3.length 0 23 107).bind fun h54 => (sI h54 h3.length 0 24 32).bind fun h56 => (sI h56 h3.length 0 25 114).bind fun h58 => (sI h58 h3.length 0 26 117).bind fun h60 => (sI h60 h3.length 0 27 108).bind fun h62 => (sI h62 h3.length 0 28 101).bind fun h64 => (sI h64 h3.length 0 29 32).bind fun h66 => (sI h66 h3.length 0 30 115).bind fun h68 => (sI h68 h3.length 0 31 101).bind fun h70 => (sI h70 h3.length 0 32 101).bind fun h72 => (sI h72 h3.length 0 33 100).bind fun h74 => (sI h74 h3.length 0 34 32).bind fun h76 => (sI h76 h3.length 0 35 108).bind fun h78 => (sI h78 h3.length 0 36 97).bind fun h80 => (sI h80 h3.length 0 37 119).bind fun h82 => (sI h82 h3.length 0 38 32).bind fun h84 => (sI h84 h3.length 0 39 100).bind fun h86 => (sI h86 h3.length 0 40 101).bind fun h88 => (sI h88 h3.length 0 41 101).bind fun h90 => (sI h90 h3.length 0 42 112).bind fun h92 => (sI h92 h3.length 0 43 32).bind fun h94 => (sI h94 h3.length 0 44 116).bind fun h96 => (sI h96 h3.length 0 45 117).bind fun h98 => (sI h98 h3.length 0 46 114).bind fun h100 => (sI h100 h3.length 0 47 110).bind fun h102 => (sI h102 h3.length 0 48 115).bind fun h104 => (sI h104 h3.length 0 49 32).bind fun h106 => (sI h106 h3.length 0 50 101).bind fun h108 => (sI h108 h3.length 0 51 97).bind fun h110 => (sI h110 h3.length 0 52 99).bind fun h112 => (sI h112 h3.length 0 53 104).bind fun h114 => (sI h114 h3.length 0 54 32).bind fun h116 => (sI h116 h3.length 0 55 111).bind fun h118 => (sI h118 h3.length 0 56 117).bind fun h120 => (sI h120 h3.length 0 57 116).bind fun h122 => (sI h122 h3.length 0 58 32).bind fun h124 => (sI h124 h3.length 0 59 99).bind fun h126 => (sI h126 h3.length 0 60 97).bind fun h128 => (sI h128 h3.length 0 61 116).bind fun h130 => (sI h130 h3.length 0 62 99).bind fun h132 => (sI h132 h3.length 0 63 104).bind fun h134 => (sI h134 h3.length 0 64 32).bind fun h136 => (sI h136 h3.length 0 65 100).bind fun h138 => (sI h138 h3.length 0 66 114).bind fun h140 => (sI h140 h3.length 0 67 105).bind fun h142 => (sI h142 h3.length 0 68 102).bind fun h144 => (sI h144 h3.length 0 69 116).bind fun h146 => (sI h146 h3.length 0 70 32).bind fun h148 => (sI h148 h3.length 0 71 97).bind fun h150 => (sI h150 h3.length 0 72 119).bind fun h152 => (sI h152 h3.length 0 73 97).bind fun h154 => (sI h154 h3.length 0 74 121).bind fun h156 => (sI h156 h3.length 0 75 32).bind fun h158 => (sI h158 h3.length 0 76 97).bind fun h160 => (sI h160 h3.length 0 77 110).bind fun h162 => (sI h162 h3.length 0 78 100).bind fun h164 => (sI h164 h3.length 0 79 32).bind fun h166 => (sI h166 h3.length 0 80 111).bind fun h168 => (sI h168 h3.length 0 81 114).bind fun h170 => (sI h170 h3.length 0 82 32).bind fun h172 => (sI h172 h3.length 0 83 110).bind fun h174 => (sI h174 h3.length 0 84 111).bind fun h176 => (sI h176 h3.length 0 85 116).bind fun h178 => (sI h178 h3.length 0 86 32).bind fun h180 => (sI h180 h3.length 0 87 102).bind fun h182 => (sI h182 h3.length 0 88 97).bind fun h184 => (sI h184 h3.length 0 89 114).bind fun h186 => (sI h186 h3.length 0 90 32).bind fun h188 => (sI h188 h3.length 0 91 115).bind fun h190 => (sI h190 h3.length 0 92 105).bind fun h192 => (sI h192 h3.length 0 93 100).bind fun h194 => (sI h194 h3.length 0 94 101).bind fun h196 => (sI h196 h3.length 0 95 32).bind fun h198 => (sI h198 h3.length 0 96 98).bind fun h200 => (sI h200 h3.length 0 97 111).bind fun h202 => (sI h202 h3.length 0 98 97).bind fun h204 => (sI h204 h3.length 0 99 114).bind fun h206 => (sI h206 h3.length 0 100 100).bind fun h208 => (sI h208 h3.length 0 101 32).bind fun h210 => (sI h210 h3.length 0 102 115).bind fun h212 => (sI h212 h3.length 0 103 105).bind fun h214 => (sI h214 h3.length 0 104 122).bind fun h216 => (sI h216 h3.length 0 105 101).bind fun h218 => (sI h218 h3.length 0 106 32).bind fun h220 => (sI h220 h3.length 0 107 109).bind fun h222 => (sI h222 h3.length 0 108 105).bind fun h224 => (sI h224 h3.length 0 109 110).bind fun h226 => (sI h226 h3.length 0 110 117).bind fun h228 => (sI h228 h3.length 0 111 116).bind fun h230 => (sI h230 h3.length 0 112 101).bind fun h232 => (sI h232 h3.length 0 113 32).bind fun h234 => (sI h234 h3.length 0 114 119).bind fun h236 => (sI h236 h3.length 0 115 104).bind fun h238 => (sI h238 h3.length 0 116 105).bind fun h240 => (sI h240 h3.length 0 117 99).bind fun h242 => (sI h242 h3.length 0 118 104).bind fun h244 => (sI h244 h3.length 0 119 32).bind fun h246 => (pR h246 a0 12 3 h3.length).bind fun h247 => (pI h247 a0 12 5 (-1)).bind fun h249 => (nC h249 (zI 2 5)).bind fun h251 => (pR h251 a0 12 25 h249.length).bind fun h253 => (nC h253 (zI 0 14)).bind fun h255 => (pR h255 a0 12 26 h253.length).bind fun h257 => (nC h257 (zI 0 10)).bind fun h259 => (pR h259 a0 12 27 h257.length).bind fun h261 => (nC h261 (zI 0 10)).bind fun h263 => (pR h263 a0 12 28 h261.length).bind fun h265 => (nC h265 (zI 0 10)).bind fun h267 => (pR h267 a0 12 29 h265.length).bind fun h269 => (nC h269 (zI 0 10)).bind fun h271 => (pR h271 a0 12 30 h269.length).bind fun h273 => (nC h273 (zI 0 10)).bind fun h275 => (pR h275 a0 12 31 h273.length).bind fun h277 => (nC h277 (zI 0 10)).bind fun h279 => (pR h279 a0 12 32 h277.length).bind fun h281 => (nC h281 (zI 0 8)).bind fun h283 => (pR h283 a0 12 33 h281.length).bind fun h285 => (nC h285 (zI 0 56)).bind fun h287 => (pR h287 a0 12 34 h285.length).bind fun h289 => (nC h289 (zI 0 56)).bind fun h291 => (pR h291 a0 12 35 h289.length).bind fun h293 => (nC h293 (zI 0 56)).bind fun h295 => (pR h295 a0 12 36 h293.length).bind fun h297 => (nC h297 (zI 2 6)).bind fun h299 => (pR h299 a0 12 37 h297.length).bind fun h301 => (nC h301 (zI 0 6)).bind fun h303 => (pR h303 a0 12 38 h301.length).bind fun h305 => (nC h305 (zI 0 6)).bind fun h307 => (pR h307 a0 12 39 h305.length).bind fun h309 => (nC h309 (zI 0 128)).bind fun h311 => (pR h311 a0 12 40 h309.length).bind fun h313 => (nC h313 (zI 0 128)).bind fun h315 => (pR h315 a0 12 41 h313.length).bind fun h317 => (nC h317 (zI 0 128)).bind fun h319 => (pR h319 a0 12 42 h317.length).bind fun h321 => (nC h321 (zI 0 96)).bind fun h323 => (pR h323 a0 12 44 h321.length).bind fun h325 => (nC h325 (zI 0 96)).bind fun h327 => (pR h327 a0 12 45 h325.length).bind fun h329 => (nC h329 (zJ 6)).bind fun h331 => (pR h331 a0 12 52 h329.length).bind fun h333 => (nC h333 (zJ 64)).bind fun h335 => (pR h335 a0 12 53 h333.length).bind fun h337 => (nC h337 (zI 0 10)).bind fun h339 => (pR h339 a0 12 55 h337.length).bind fun h341 => (nC h341 (zI 0 10)).bind fun h343 => (pR h343 a0 12 56 h341.length).bind fun h345 => (nC h345 (zI 0 10)).bind fun h347 => (pR h347 a0 12 57 h345.length).bind fun h349 => (nC h349 (zI 0 10)).bind fun h351 => (pR h351 a0 12 58 h349.length).bind fun h353 => (nC h353 (zI 0 5)).bind fun h355 => (pR h355 a0 12 59 h353.length).bind fun h357 => (nC h357 (zI 0 56)).bind fun h359 => (pR h359 a0 12 60 h357.length).bind fun h361 => (nC h361 (zI 0 2)).bind fun h363 => (pR h363 a0 12 61 h361.length).bind fun h365 => (nC h365 (zI 0 2)).bind fun h367 => (pR h367 a0 12 62 h365.length).bind fun h369 => (nC h369 (zI 0 2)).bind fun h371 => (pR h371 a0 12 63 h369.length).bind fun h373 => (pI h373 a0 12 66 (-1)).bind fun h375 => (nC h375 (zI 0 5)).bind fun h377 => (pR h377 a0 12 68 h375.length).bind fun h379 => (nC h379 (zI 0 25)).bind fun h381 => (pR h381 a0 12 70 h379.length).bind fun h383 => (nC h383 (zI 0 25)).bind fun h385 => (pR h385 a0 12 71 h383.length).bind fun h387 => (nC h387 (zI 0 29)).bind fun h389 => (pR h389 a0 12 72 h387.length).bind fun h391 => (nC h391 (zI 0 28)).bind fun h393 => (pR h393 a0 12 73 h391.length).bind fun h395 => (pI h395 a0 12 75 (-1)).bind fun h397 => (nC h397 (zI 0 72)).bind fun h399 => (pR h399 a0 12 76 h397.length).bind fun h401 => (nC h401 (zI 2 24)).bind fun h403 => (pR h403 a0 12 77 h401.length).bind fun h405 => (nC h405 (zI 0 220)).bind fun h407 => (pR h407 a0 12 79 h405.length).bind fun h409 => (nC h409 (zI 0 53)).bind fun h411 => (pR h411 a0 12 81 h409.length).bind fun h413 => (F12_plain h413 a0).bind fun o415 => (F12_keepText o415 a0).bind fun o417 => some o417
def F12_init (h : PH) (a0 : Nat) : Option (PH) := cond (okO h a0 12) (F12_init_0 h a0) none
/-! The shape of a pure heap, what keeps it; how a pure function is shown to come to an end. -/
def kV (v : PV) : Nat := match v with
  | .inl _ => 0
  | .inr (.inl _) => 1
  | .inr (.inr none) => 2
  | .inr (.inr (some r)) => r + 3
def kO (r : Option Nat) : Nat := match r with
  | none => 2
  | some r => r + 3
def sk (c : PC) : Nat × Nat × List Nat := match c with
  | .inr (ci, fs) => (0, ci, fs.map kV)
  | .inl (t, n, .inl _) => (5 * t + 1, n, [])
  | .inl (t, n, .inr (.inl _)) => (5 * t + 2, n, [])
  | .inl (t, n, .inr (.inr (.inl _))) => (5 * t + 3, n, [])
  | .inl (t, n, .inr (.inr (.inr (.inl _)))) => (5 * t + 4, n, [])
  | .inl (t, n, .inr (.inr (.inr (.inr f)))) => (5 * t + 5, n, (List.range n).map (fun k => kO (f k)))
def Sk (h : PH) : List (Nat × Nat × List Nat) := h.map sk
theorem Sk_at (h : PH) (a : Nat) : (Sk h)[a]? = (h[a]?).map sk := by simp [Sk]
def cR (S : List (Nat × Nat × List Nat)) (a ci k : Nat) : Option Nat := match S[a]? with
  | some (0, c, l) => if c = ci then (match l[k]? with
    | some (r + 3) => some r
    | _ => none) else none
  | _ => none
def cO (S : List (Nat × Nat × List Nat)) (a ci : Nat) : Bool := match S[a]? with
  | some (0, c, _) => c == ci
  | _ => false
/-- field k of a is of kind z: 0 int, 1 long, 2 null, more a reference -/
def cF (S : List (Nat × Nat × List Nat)) (a ci k : Nat) : Option Nat := match S[a]? with
  | some (0, c, l) => if c = ci then l[k]? else none
  | _ => none
/-- how long the row a of kind z is -/
def cA (S : List (Nat × Nat × List Nat)) (a z : Nat) : Option Nat := match S[a]? with
  | some (t, n, _) => if t = z then some n else none
  | _ => none
theorem cF_spec {h : PH} {a ci k z : Nat} (e : cF (Sk h) a ci k = some z) : ∃ fs v, h[a]? = some (.inr (ci, fs)) ∧ fs[k]? = some v ∧ kV v = z := by
  unfold cF at e
  rw [Sk_at] at e
  cases hc : h[a]? with
  | none => rw [hc] at e; cases e
  | some c =>
    rw [hc] at e
    rcases c with ⟨t, n, f | f | f | f | f⟩ | ⟨c, fs⟩
    · simp [sk] at e
    · simp [sk] at e
    · simp [sk] at e
    · simp [sk] at e
    · simp [sk] at e
    · simp only [sk, Option.map_some] at e
      split at e
      · rename_i hci
        subst hci
        rw [List.getElem?_map] at e
        cases hv : fs[k]? with
        | none => rw [hv] at e; cases e
        | some v => rw [hv] at e; exact ⟨fs, v, rfl, hv, Option.some.inj e⟩
      · cases e
theorem gR_Sk (h : PH) (a ci k : Nat) : gR h a ci k = cR (Sk h) a ci k := by
  unfold gR gV cR
  rw [Sk_at]
  cases hc : h[a]? with
  | none => rfl
  | some c =>
    rcases c with ⟨t, n, f | f | f | f | f⟩ | ⟨c, fs⟩
    · simp [sk]
    · simp [sk]
    · simp [sk]
    · simp [sk]
    · simp [sk]
    · simp only [sk, Option.map_some]
      by_cases hci : c = ci
      · subst hci
        simp only [if_true]
        rw [List.getElem?_map]
        cases hv : fs[k]? with
        | none => rfl
        | some v => rcases v with i | j | _ | r <;> rfl
      · simp [hci]
theorem okO_Sk (h : PH) (a ci : Nat) : okO h a ci = cO (Sk h) a ci := by
  unfold okO cO
  rw [Sk_at]
  cases hc : h[a]? with
  | none => rfl
  | some c =>
    rcases c with ⟨t, n, f | f | f | f | f⟩ | ⟨c, fs⟩ <;> simp [sk]
theorem cA_spec {h : PH} {a t n : Nat} (e : cA (Sk h) a (5 * t + 1) = some n) : ∃ f, h[a]? = some (.inl (t, n, .inl f)) := by
  unfold cA at e
  rw [Sk_at] at e
  cases hc : h[a]? with
  | none => rw [hc] at e; cases e
  | some c =>
    rw [hc] at e
    rcases c with ⟨t', n', f | f | f | f | f⟩ | ⟨c, fs⟩ <;> simp only [sk, Option.map_some] at e <;> split at e <;> first | (cases e; done) | (exfalso; omega) | skip
    · rename_i h1
      have : t' = t := by omega
      subst this
      exact ⟨f, by rw [Option.some.inj e]⟩
theorem cA_specL {h : PH} {a t n : Nat} (e : cA (Sk h) a (5 * t + 2) = some n) : ∃ f, h[a]? = some (.inl (t, n, .inr (.inl f))) := by
  unfold cA at e
  rw [Sk_at] at e
  cases hc : h[a]? with
  | none => rw [hc] at e; cases e
  | some c =>
    rw [hc] at e
    rcases c with ⟨t', n', f | f | f | f | f⟩ | ⟨c, fs⟩ <;> simp only [sk, Option.map_some] at e <;> split at e <;> first | (cases e; done) | (exfalso; omega) | skip
    · rename_i h1
      have : t' = t := by omega
      subst this
      exact ⟨f, by rw [Option.some.inj e]⟩
/-- a row of references, as the shape has it -/
def cW (S : List (Nat × Nat × List Nat)) (a : Nat) : Option (Nat × List Nat) := match S[a]? with
  | some (t, n, l) => if t = 25 then some (n, l) else none
  | _ => none
theorem cW_spec {h : PH} {a n : Nat} {l : List Nat} (e : cW (Sk h) a = some (n, l)) : ∃ f, h[a]? = some (.inl (4, n, .inr (.inr (.inr (.inr f))))) ∧ l = (List.range n).map (fun k => kO (f k)) := by
  unfold cW at e
  rw [Sk_at] at e
  cases hc : h[a]? with
  | none => rw [hc] at e; cases e
  | some c =>
    rw [hc] at e
    rcases c with ⟨t', n', f | f | f | f | f⟩ | ⟨c, fs⟩ <;> simp only [sk, Option.map_some] at e <;> split at e <;> first | (cases e; done) | (exfalso; omega) | skip
    · rename_i h1
      have : t' = 4 := by omega
      subst this
      have e1 := congrArg Prod.fst (Option.some.inj e)
      have e2 := congrArg Prod.snd (Option.some.inj e)
      simp only at e1 e2
      subst e1
      exact ⟨f, rfl, e2.symm⟩
theorem st_s {h : PH} {a : Nat} {c c0 : PC} (e : h[a]? = some c0) : (h.set a c)[a]? = some c := List.getElem?_set_self (List.getElem?_eq_some_iff.mp e).1
theorem st_n {h : PH} {a x : Nat} {c : PC} (hx : a ≠ x) : (h.set a c)[x]? = h[x]? := List.getElem?_set_ne hx
theorem Sk_set {h : PH} {a : Nat} {c c' : PC} (e : h[a]? = some c) (hs : sk c' = sk c) : Sk (h.set a c') = Sk h := by
  apply List.ext_getElem?
  intro j
  rw [Sk_at, Sk_at]
  by_cases hj : a = j
  · subst hj
    rw [st_s e, e]
    simp [hs]
  · rw [st_n hj]
/-- the shape is kept, the fields that P names, the rows that R names -/
def Kp (P : Nat → Nat → Prop) (R : Nat → Prop) (h h' : PH) : Prop := Sk h' = Sk h ∧ (∀ a c k, P a k → gV h' a c k = gV h a c k) ∧ (∀ a t i, R a → aI h' a t i = aI h a t i)
theorem Kp.rf {P : Nat → Nat → Prop} {R : Nat → Prop} {h : PH} : Kp P R h h := ⟨rfl, fun _ _ _ _ => rfl, fun _ _ _ _ => rfl⟩
theorem Kp.tr {P : Nat → Nat → Prop} {R : Nat → Prop} {h h1 h2 : PH} (a : Kp P R h h1) (b : Kp P R h1 h2) : Kp P R h h2 := ⟨b.1.trans a.1, fun x c k p => (b.2.1 x c k p).trans (a.2.1 x c k p), fun x t i r => (b.2.2 x t i r).trans (a.2.2 x t i r)⟩
theorem Kp.mono {P P' : Nat → Nat → Prop} {R R' : Nat → Prop} {h h1 : PH} (a : Kp P R h h1) (hp : ∀ x k, P' x k → P x k) (hr : ∀ x, R' x → R x) : Kp P' R' h h1 := ⟨a.1, fun x c k p => a.2.1 x c k (hp x k p), fun x t i r => a.2.2 x t i (hr x r)⟩
-- a pure function comes to an end
theorem cx {β : Type} {c : Bool} {x : Option β} {P : β → Prop} (e : c = true) (h : ∃ y, x = some y ∧ P y) : ∃ y, (cond c x none) = some y ∧ P y := by
  subst e; exact h
theorem rz0 (h : PH) : rz 0 h = some (0, h) := if_pos (Or.inl rfl)
theorem rz1 (h : PH) : rz 1 h = some (1, h) := if_pos (Or.inr rfl)
theorem of_isSome {α : Type} {x : Option α} (d : α) (e : x.isSome = true) : x = some (x.getD d) := by
  cases x with
  | none => cases e
  | some v => rfl
/-! The heaps of a new object, of the class and of the reference. -/
def hx0 : PH := [.inr (11, zF11)]
def hm0 : PH := [.inr (12, zF12)]
def hxF : PH := (F11_init hx0 0).getD []
def hmF : PH := (F12_init hm0 0).getD []
def SX : List (Nat × Nat × List Nat) := [(0, 11, [4, 0, 49, 5, 27, 54, 63, 72, 79, 86, 0, 93, 99, 102]), (6, 700, []), (0, 8, [0, 0, 0, 0, 6, 13, 0, 0, 0, 0, 0, 20, 0, 0]), (0, 1, [0, 7, 8, 9, 10, 11, 12]), (1, 5, []), (1, 5, []), (1, 5, []), (1, 5, []), (1, 5, []), (1, 5, []), (0, 10, [0, 0, 14, 15, 16, 17, 18, 19]), (1, 4, []), (1, 4, []), (1, 28, []), (1, 28, []), (1, 28, []), (1, 28, []), (25, 3, [21, 23, 25]), (0, 2, [22, 0, 0]), (1, 64, []), (0, 2, [24, 0, 0]), (1, 64, []), (0, 2, [26, 0, 0]), (1, 64, []), (0, 8, [0, 0, 0, 0, 28, 35, 0, 0, 0, 0, 0, 42, 0, 0]), (0, 1, [0, 29, 30, 31, 32, 33, 34]), (1, 5, []), (1, 5, []), (1, 5, []), (1, 5, []), (1, 5, []), (1, 5, []), (0, 10, [0, 0, 36, 37, 38, 39, 40, 41]), (1, 4, []), (1, 4, []), (1, 28, []), (1, 28, []), (1, 28, []), (1, 28, []), (25, 3, [43, 45, 47]), (0, 2, [44, 0, 0]), (1, 64, []), (0, 2, [46, 0, 0]), (1, 64, []), (0, 2, [48, 0, 0]), (1, 64, []), (0, 5, [50, 53, 0, 0, 0, 0, 0, 0, 0, 0, 27]), (0, 7, [51, 52, 0, 0, 0, 0, 0]), (1, 24, []), (6, 0, []), (1, 72, []), (0, 6, [5, 55, 56, 57, 58, 59, 60, 61, 62]), (1, 5, []), (1, 5, []), (1, 28, []), (17, 6, []), (17, 64, []), (1, 5, []), (1, 5, []), (1, 5, []), (0, 6, [5, 64, 65, 66, 67, 68, 69, 70, 71]), (1, 5, []), (1, 5, []), (1, 28, []), (17, 6, []), (17, 64, []), (1, 5, []), (1, 5, []), (1, 5, []), (0, 4, [0, 0, 0, 0, 0, 73, 74, 75, 76, 77, 78]), (1, 5, []), (1, 5, []), (1, 5, []), (1, 5, []), (1, 5, []), (1, 28, []), (0, 4, [0, 0, 0, 0, 0, 80, 81, 82, 83, 84, 85]), (1, 5, []), (1, 5, []), (1, 5, []), (1, 5, []), (1, 5, []), (1, 28, []), (0, 4, [0, 0, 0, 0, 0, 87, 88, 89, 90, 91, 92]), (1, 5, []), (1, 5, []), (1, 5, []), (1, 5, []), (1, 5, []), (1, 28, []), (0, 3, [0, 0, 94, 95, 96, 97, 98]), (1, 24, []), (1, 24, []), (1, 24, []), (1, 24, []), (11, 24, []), (0, 9, [0, 100, 101]), (1, 20, []), (1, 20, []), (0, 0, [103, 104, 105, 106, 107, 108, 0, 109, 110, 111, 112, 0, 0]), (1, 10, []), (1, 280, []), (1, 280, []), (1, 25, []), (1, 25, []), (1, 25, []), (1, 29, []), (1, 28, []), (11, 28, []), (1, 28, [])]
def SM : List (Nat × Nat × List Nat) := [(0, 12, [4, 0, 0, 5, 0, 0, 0, 0, 0, 0, 0, 0, 0, 0, 0, 0, 0, 0, 0, 0, 0, 0, 0, 0, 0, 6, 7, 8, 9, 10, 11, 12, 13, 14, 15, 16, 17, 18, 19, 20, 21, 22, 23, 0, 24, 25, 0, 0, 0, 0, 0, 0, 26, 27, 0, 28, 29, 30, 31, 32, 33, 34, 35, 36, 0, 1, 0, 0, 37, 0, 38, 39, 40, 41, 0, 0, 42, 43, 0, 44, 0, 45, 0, 0, 0, 0, 1]), (1, 700, []), (1, 120, []), (11, 5, []), (1, 14, []), (1, 10, []), (1, 10, []), (1, 10, []), (1, 10, []), (1, 10, []), (1, 10, []), (1, 8, []), (1, 56, []), (1, 56, []), (1, 56, []), (11, 6, []), (1, 6, []), (1, 6, []), (1, 128, []), (1, 128, []), (1, 128, []), (1, 96, []), (1, 96, []), (17, 6, []), (17, 64, []), (1, 10, []), (1, 10, []), (1, 10, []), (1, 10, []), (1, 5, []), (1, 56, []), (1, 2, []), (1, 2, []), (1, 2, []), (1, 5, []), (1, 25, []), (1, 25, []), (1, 29, []), (1, 28, []), (1, 72, []), (11, 24, []), (1, 220, []), (1, 53, [])]
theorem hmF_sk : Sk hmF = SM := by decide +kernel
theorem hxF_eq : F11_init hx0 0 = some hxF := of_isSome [] (by decide +kernel)
theorem hmF_eq : F12_init hm0 0 = some hmF := of_isSome [] (by decide +kernel)
/-! Numbers as integers, the heap as a memory of integers. -/
def Z3 (x : Int) : Int32 := Int32.ofInt x
def Z6 (x : Int) : Int64 := Int64.ofInt x
def r3 (x : Int) : Prop := -2147483648 ≤ x ∧ x ≤ 2147483647
def r6 (x : Int) : Prop := -9223372036854775808 ≤ x ∧ x ≤ 9223372036854775807
theorem z3_to {x : Int} (h : r3 x) : (Z3 x).toInt = x := Int32.toInt_ofInt_of_le h.1 (by have := h.2; omega)
theorem z6_to {x : Int} (h : r6 x) : (Z6 x).toInt = x := Int64.toInt_ofInt_of_le h.1 (by have := h.2; omega)
theorem z3_of (v : Int32) : v = Z3 v.toInt := (Int32.ofInt_toInt v).symm
theorem z6_of (v : Int64) : v = Z6 v.toInt := (Int64.ofInt_toInt v).symm
theorem r3_of (v : Int32) : r3 v.toInt := ⟨by have := v.le_toInt; omega, by have := v.toInt_lt; omega⟩
theorem r6_of (v : Int64) : r6 v.toInt := ⟨by have := v.le_toInt; omega, by have := v.toInt_lt; omega⟩
theorem r3_6 {x : Int} (h : r3 x) : r6 x := ⟨by have := h.1; omega, by have := h.2; omega⟩
section ZZ
variable {a b : Int32} {A B : Int}
theorem z3_add (ea : a = Z3 A) (eb : b = Z3 B) : a + b = Z3 (A + B) := by subst ea eb; exact (Int32.ofInt_add A B).symm
theorem z3_sub (ea : a = Z3 A) (eb : b = Z3 B) : a - b = Z3 (A - B) := by subst ea eb; exact (Int32.ofInt_sub A B).symm
theorem z3_mul (ea : a = Z3 A) (eb : b = Z3 B) : a * b = Z3 (A * B) := by subst ea eb; exact (Int32.ofInt_mul A B).symm
theorem z3_neg (ea : a = Z3 A) : -a = Z3 (-A) := by subst ea; exact (Int32.ofInt_neg A).symm
theorem z3_le (ea : a = Z3 A) (eb : b = Z3 B) (ha : r3 A) (hb : r3 B) : a ≤ b ↔ A ≤ B := by subst ea eb; rw [Int32.le_iff_toInt_le, z3_to ha, z3_to hb]
theorem z3_lt (ea : a = Z3 A) (eb : b = Z3 B) (ha : r3 A) (hb : r3 B) : a < b ↔ A < B := by subst ea eb; rw [Int32.lt_iff_toInt_lt, z3_to ha, z3_to hb]
theorem z3_eq (ea : a = Z3 A) (eb : b = Z3 B) (ha : r3 A) (hb : r3 B) : a = b ↔ A = B := by subst ea eb; rw [← Int32.toInt_inj, z3_to ha, z3_to hb]
theorem z3_div (ea : a = Z3 A) (eb : b = Z3 B) (ha : r3 A) (hb : r3 B) (h : 0 ≤ A ∧ 0 < B) : a / b = Z3 (A / B) := by
  subst ea eb
  rw [← Int.tdiv_eq_ediv_of_nonneg h.1]
  apply Int32.toInt.inj
  rw [Int32.toInt_div, z3_to ha, z3_to hb]
  exact (Int32.toInt_ofInt).symm
theorem z3_rem (ea : a = Z3 A) (eb : b = Z3 B) (ha : r3 A) (hb : r3 B) (h : 0 ≤ A ∧ 0 < B) : a - a / b * b = Z3 (A % B) := by
  rw [z3_sub ea (z3_mul (z3_div ea eb ha hb h) eb)]
  congr 1
  rw [Int.emod_def, Int.mul_comm]
theorem z3_ite {c : Prop} {C : Prop} [Decidable c] [Decidable C] (hc : c ↔ C) (ea : a = Z3 A) (eb : b = Z3 B) : (if c then a else b) = Z3 (if C then A else B) := by
  subst ea eb
  by_cases h : c
  · rw [if_pos h, if_pos (hc.mp h)]
  · rw [if_neg h, if_neg (fun q => h (hc.mpr q))]
theorem r3_ite {C : Prop} [Decidable C] (ha : r3 A) (hb : r3 B) : r3 (if C then A else B) := by
  by_cases h : C
  · rw [if_pos h]; exact ha
  · rw [if_neg h]; exact hb
end ZZ
section ZJ
variable {a b : Int64} {A B : Int}
theorem z6_add (ea : a = Z6 A) (eb : b = Z6 B) : a + b = Z6 (A + B) := by subst ea eb; exact (Int64.ofInt_add A B).symm
theorem z6_sub (ea : a = Z6 A) (eb : b = Z6 B) : a - b = Z6 (A - B) := by subst ea eb; exact (Int64.ofInt_sub A B).symm
theorem z6_mul (ea : a = Z6 A) (eb : b = Z6 B) : a * b = Z6 (A * B) := by subst ea eb; exact (Int64.ofInt_mul A B).symm
theorem z6_neg (ea : a = Z6 A) : -a = Z6 (-A) := by subst ea; exact (Int64.ofInt_neg A).symm
theorem z6_lt (ea : a = Z6 A) (eb : b = Z6 B) (ha : r6 A) (hb : r6 B) : a < b ↔ A < B := by subst ea eb; rw [Int64.lt_iff_toInt_lt, z6_to ha, z6_to hb]
theorem z6_eq (ea : a = Z6 A) (eb : b = Z6 B) (ha : r6 A) (hb : r6 B) : a = b ↔ A = B := by subst ea eb; rw [← Int64.toInt_inj, z6_to ha, z6_to hb]
theorem z6_div (ea : a = Z6 A) (eb : b = Z6 B) (ha : r6 A) (hb : r6 B) : a / b = Z6 (A.tdiv B) := by
  subst ea eb
  apply Int64.toInt.inj
  rw [Int64.toInt_div, z6_to ha, z6_to hb]
  exact (Int64.toInt_ofInt).symm
theorem z6_rem (ea : a = Z6 A) (eb : b = Z6 B) (ha : r6 A) (hb : r6 B) : a - a / b * b = Z6 (A.tmod B) := by
  rw [z6_sub ea (z6_mul (z6_div ea eb ha hb) eb)]
  congr 1
  rw [Int.tmod_def, Int.mul_comm]
theorem z6_ite {c : Prop} {C : Prop} [Decidable c] [Decidable C] (hc : c ↔ C) (ea : a = Z6 A) (eb : b = Z6 B) : (if c then a else b) = Z6 (if C then A else B) := by
  subst ea eb
  by_cases h : c
  · rw [if_pos h, if_pos (hc.mp h)]
  · rw [if_neg h, if_neg (fun q => h (hc.mpr q))]
theorem r6_ite {C : Prop} [Decidable C] (ha : r6 A) (hb : r6 B) : r6 (if C then A else B) := by
  by_cases h : C
  · rw [if_pos h]; exact ha
  · rw [if_neg h]; exact hb
-- a comparison of longs, as the machine's number tells it
theorem cmp_c (x y : Int64) : (y < x ∧ lg_cmp x y = 1) ∨ (x = y ∧ lg_cmp x y = 0) ∨ (x < y ∧ lg_cmp x y = -1) := by
  unfold lg_cmp
  by_cases h1 : x > y
  · left; exact ⟨h1, by rw [if_pos h1]⟩
  · by_cases h2 : x = y
    · right; left; exact ⟨h2, by rw [if_neg h1, if_pos h2]⟩
    · right; right
      refine ⟨?_, by rw [if_neg h1, if_neg h2]⟩
      have h3 := Int64.lt_iff_toInt_lt (x := y) (y := x)
      have h4 := Int64.lt_iff_toInt_lt (x := x) (y := y)
      have h5 := Int64.toInt_inj (x := x) (y := y)
      rw [h4]
      have : ¬ y.toInt < x.toInt := fun q => h1 (h3.mpr q)
      have : ¬ x.toInt = y.toInt := fun q => h2 (h5.mp q)
      omega
theorem cmp_t (x y : Int64) : (y.toInt < x.toInt ∧ (lg_cmp x y).toInt = 1) ∨ (x.toInt = y.toInt ∧ (lg_cmp x y).toInt = 0) ∨ (x.toInt < y.toInt ∧ (lg_cmp x y).toInt = -1) := by
  rcases cmp_c x y with ⟨h, e⟩ | ⟨h, e⟩ | ⟨h, e⟩
  · left; exact ⟨Int64.lt_iff_toInt_lt.mp h, by rw [e]; decide⟩
  · right; left; exact ⟨by rw [h], by rw [e]; decide⟩
  · right; right; exact ⟨Int64.lt_iff_toInt_lt.mp h, by rw [e]; decide⟩
theorem cmp_ge (ea : a = Z6 A) (eb : b = Z6 B) (ha : r6 A) (hb : r6 B) : (0 : Int32) ≤ lg_cmp a b ↔ B ≤ A := by
  have h := cmp_t a b
  rw [Int32.le_iff_toInt_le]
  have h0 : (0 : Int32).toInt = 0 := by decide
  have h1 := z6_to ha; have h2 := z6_to hb
  rw [← ea] at h1; rw [← eb] at h2
  omega
theorem cmp_gt (ea : a = Z6 A) (eb : b = Z6 B) (ha : r6 A) (hb : r6 B) : (0 : Int32) < lg_cmp a b ↔ B < A := by
  have h := cmp_t a b
  rw [Int32.lt_iff_toInt_lt]
  have h0 : (0 : Int32).toInt = 0 := by decide
  have h1 := z6_to ha; have h2 := z6_to hb
  rw [← ea] at h1; rw [← eb] at h2
  omega
theorem cmp_le (ea : a = Z6 A) (eb : b = Z6 B) (ha : r6 A) (hb : r6 B) : lg_cmp a b ≤ (0 : Int32) ↔ A ≤ B := by
  have h := cmp_t a b
  rw [Int32.le_iff_toInt_le]
  have h0 : (0 : Int32).toInt = 0 := by decide
  have h1 := z6_to ha; have h2 := z6_to hb
  rw [← ea] at h1; rw [← eb] at h2
  omega
theorem cmp_lt (ea : a = Z6 A) (eb : b = Z6 B) (ha : r6 A) (hb : r6 B) : lg_cmp a b < (0 : Int32) ↔ A < B := by
  have h := cmp_t a b
  rw [Int32.lt_iff_toInt_lt]
  have h0 : (0 : Int32).toInt = 0 := by decide
  have h1 := z6_to ha; have h2 := z6_to hb
  rw [← ea] at h1; rw [← eb] at h2
  omega
theorem cmp_eq (ea : a = Z6 A) (eb : b = Z6 B) (ha : r6 A) (hb : r6 B) : lg_cmp a b = (0 : Int32) ↔ A = B := by
  have h := cmp_t a b
  rw [← Int32.toInt_inj]
  have h0 : (0 : Int32).toInt = 0 := by decide
  have h1 := z6_to ha; have h2 := z6_to hb
  rw [← ea] at h1; rw [← eb] at h2
  omega
theorem z3_to6 {v : Int32} {V : Int} (e : v = Z3 V) (h : r3 V) : Int32.toInt64 v = Z6 V := by
  subst e
  apply Int64.toInt.inj
  rw [Int32.toInt_toInt64, z3_to h, z6_to (r3_6 h)]
theorem z6_to3 {v : Int64} {V : Int} (e : v = Z6 V) : Int64.toInt32 v = Z3 V := by
  subst e
  exact Int64.toInt32_ofInt
end ZJ
-- bits, as integers again
def b3an (a b : Int) : Int := (Z3 a &&& Z3 b).toInt
def b3or (a b : Int) : Int := (Z3 a ||| Z3 b).toInt
def b3xo (a b : Int) : Int := (Z3 a ^^^ Z3 b).toInt
def b3sl (a b : Int) : Int := (Z3 a <<< Z3 b).toInt
def b3sr (a b : Int) : Int := (Z3 a >>> Z3 b).toInt
def b6an (a b : Int) : Int := (Z6 a &&& Z6 b).toInt
def b3by (a : Int) : Int := (vp_nar .byte (Int32.toInt8 (Z3 a)).toInt32).toInt
theorem z3_an {a b : Int32} {A B : Int} (ea : a = Z3 A) (eb : b = Z3 B) : a &&& b = Z3 (b3an A B) := by subst ea eb; exact z3_of _
theorem z3_or {a b : Int32} {A B : Int} (ea : a = Z3 A) (eb : b = Z3 B) : a ||| b = Z3 (b3or A B) := by subst ea eb; exact z3_of _
theorem z3_xo {a b : Int32} {A B : Int} (ea : a = Z3 A) (eb : b = Z3 B) : a ^^^ b = Z3 (b3xo A B) := by subst ea eb; exact z3_of _
theorem z3_sl {a b : Int32} {A B : Int} (ea : a = Z3 A) (eb : b = Z3 B) : a <<< b = Z3 (b3sl A B) := by subst ea eb; exact z3_of _
theorem z3_sr {a b : Int32} {A B : Int} (ea : a = Z3 A) (eb : b = Z3 B) : a >>> b = Z3 (b3sr A B) := by subst ea eb; exact z3_of _
theorem z6_an {a b : Int64} {A B : Int} (ea : a = Z6 A) (eb : b = Z6 B) : a &&& b = Z6 (b6an A B) := by subst ea eb; exact z6_of _
theorem z3_by {a : Int32} {A : Int} (ea : a = Z3 A) : vp_nar .byte (Int32.toInt8 a).toInt32 = Z3 (b3by A) := by subst ea; exact z3_of _
theorem z3_bo {a : Int32} {A : Int} (ea : a = Z3 A) (h : A = 0 ∨ A = 1) : vp_nar .boolean a = Z3 A := by subst ea; rcases h with rfl | rfl <;> decide
/-- the integer at field or place i of cell a -/
def rdV (v : PV) : Int := match v with
  | .inl i => i.toInt
  | .inr (.inl j) => j.toInt
  | .inr (.inr none) => 0
  | .inr (.inr (some r)) => r
def rd (h : PH) (a : Nat) (i : Int) : Int := if i < 0 then 0 else match h[a]? with
  | some (.inr (_, fs)) => (match fs[i.toNat]? with
    | some v => rdV v
    | none => 0)
  | some (.inl (_, _, .inl f)) => (f i.toNat).toInt
  | some (.inl (_, _, .inr (.inl f))) => (f i.toNat).toInt
  | _ => 0
abbrev Mem : Type := Nat → Int → Int
def up (m : Mem) (a : Nat) (i v : Int) : Mem := fun b j => if b = a ∧ j = i then v else m b j
def cpy (m : Mem) (a0 : Nat) (sp : Int) (a1 : Nat) (dp n : Int) : Mem := fun b j => if b = a1 ∧ dp ≤ j ∧ j < dp + n then m a0 (sp + (j - dp)) else m b j
theorem rd_obj {h : PH} {a ci : Nat} {fs : List PV} (e : h[a]? = some (.inr (ci, fs))) (k : Nat) {v : PV} (hk : fs[k]? = some v) : rd h a k = rdV v := by
  unfold rd
  rw [if_neg (by omega), e]
  simp [hk]
theorem rd_row {h : PH} {a t n : Nat} {f : Nat → Int32} (e : h[a]? = some (.inl (t, n, .inl f))) {i : Int} (hi : 0 ≤ i) : rd h a i = (f i.toNat).toInt := by
  unfold rd
  rw [if_neg (by omega), e]
theorem rd_lrow {h : PH} {a t n : Nat} {f : Nat → Int64} (e : h[a]? = some (.inl (t, n, .inr (.inl f)))) {i : Int} (hi : 0 ≤ i) : rd h a i = (f i.toNat).toInt := by
  unfold rd
  rw [if_neg (by omega), e]
theorem rd_set_ne {h : PH} {a b : Nat} {c : PC} (hb : a ≠ b) (i : Int) : rd (h.set a c) b i = rd h b i := by
  unfold rd
  rw [st_n hb]
theorem rd_setF {h : PH} {a ci k : Nat} {fs : List PV} {v : PV} (e : h[a]? = some (.inr (ci, fs))) (hk : k < fs.length) : rd (h.set a (.inr (ci, fs.set k v))) = up (rd h) a k (rdV v) := by
  funext b j
  unfold up
  by_cases hb : b = a
  · subst hb
    by_cases hj : j = k
    · subst hj
      rw [if_pos ⟨rfl, rfl⟩]
      exact rd_obj (st_s e) k (List.getElem?_set_self hk)
    · rw [if_neg (fun q => hj q.2)]
      unfold rd
      by_cases hn : j < 0
      · rw [if_pos hn, if_pos hn]
      · rw [if_neg hn, if_neg hn, st_s e, e]
        have : k ≠ j.toNat := fun q => hj (by omega)
        simp only [List.getElem?_set_ne this]
  · rw [if_neg (fun q => hb q.1)]
    exact rd_set_ne (Ne.symm hb) j
theorem rd_setR {h : PH} {a t n : Nat} {f : Nat → Int32} (e : h[a]? = some (.inl (t, n, .inl f))) {i : Int} (hi : 0 ≤ i) (x : Int32) : rd (h.set a (.inl (t, n, .inl (upd f i.toNat x)))) = up (rd h) a i x.toInt := by
  funext b j
  unfold up
  by_cases hb : b = a
  · subst hb
    by_cases hj : j = i
    · subst hj
      rw [if_pos ⟨rfl, rfl⟩, rd_row (st_s e) hi]
      simp [upd]
    · rw [if_neg (fun q => hj q.2)]
      by_cases hn : j < 0
      · unfold rd
        rw [if_pos hn, if_pos hn]
      · rw [rd_row (st_s e) (by omega), rd_row e (by omega)]
        have : ¬ j.toNat = i.toNat := fun q => hj (by omega)
        simp [upd, this]
  · rw [if_neg (fun q => hb q.1)]
    exact rd_set_ne (Ne.symm hb) j
theorem rd_setL {h : PH} {a t n : Nat} {f : Nat → Int64} (e : h[a]? = some (.inl (t, n, .inr (.inl f)))) {i : Int} (hi : 0 ≤ i) (x : Int64) : rd (h.set a (.inl (t, n, .inr (.inl (vp_updL f i.toNat x))))) = up (rd h) a i x.toInt := by
  funext b j
  unfold up
  by_cases hb : b = a
  · subst hb
    by_cases hj : j = i
    · subst hj
      rw [if_pos ⟨rfl, rfl⟩, rd_lrow (st_s e) hi]
      simp [vp_updL]
    · rw [if_neg (fun q => hj q.2)]
      by_cases hn : j < 0
      · unfold rd
        rw [if_pos hn, if_pos hn]
      · rw [rd_lrow (st_s e) (by omega), rd_lrow e (by omega)]
        have : ¬ j.toNat = i.toNat := fun q => hj (by omega)
        simp [vp_updL, this]
  · rw [if_neg (fun q => hb q.1)]
    exact rd_set_ne (Ne.symm hb) j
/-! A pure function over a heap does what a function over a memory of integers says, where that one says something. -/
def gd3 {α : Type} (e : Int) (x : Option α) : Option α := if -2147483648 ≤ e ∧ e ≤ 2147483647 then x else none
def gd6 {α : Type} (e : Int) (x : Option α) : Option α := if -9223372036854775808 ≤ e ∧ e ≤ 9223372036854775807 then x else none
def gdx {α : Type} (i n : Int) (x : Option α) : Option α := if 0 ≤ i ∧ i < n then x else none
def gdd {α : Type} (a b : Int) (x : Option α) : Option α := if 0 ≤ a ∧ 0 < b then x else none
def gdb {α : Type} (a : Int) (x : Option α) : Option α := if a = 0 ∨ a = 1 then x else none
def gde {α : Type} (a b : Int) (x : Option α) : Option α := if a = b then x else none
def wt {α : Type} (m : Mem) (k : Mem → Option α) : Option α := k m
theorem gd3_t {α : Type} {e : Int} {x : Option α} (h : -2147483648 ≤ e ∧ e ≤ 2147483647) : gd3 e x = x := if_pos h
theorem gd6_t {α : Type} {e : Int} {x : Option α} (h : -9223372036854775808 ≤ e ∧ e ≤ 9223372036854775807) : gd6 e x = x := if_pos h
theorem gdx_t {α : Type} {i n : Int} {x : Option α} (h : 0 ≤ i ∧ i < n) : gdx i n x = x := if_pos h
theorem gdd_t {α : Type} {a b : Int} {x : Option α} (h : 0 ≤ a ∧ 0 < b) : gdd a b x = x := if_pos h
theorem gdb_t {α : Type} {a : Int} {x : Option α} (h : a = 0 ∨ a = 1) : gdb a x = x := if_pos h
theorem gde_t {α : Type} {a b : Int} {x : Option α} (h : a = b) : gde a b x = x := if_pos h
section SIM
variable {OK : PH → Prop}
def SimI (OK : PH → Prop) (x : Option (Int32 × PH)) (y : Option (Int × Mem)) : Prop := ∀ o, y = some o → ∃ h', x = some (Z3 o.1, h') ∧ OK h' ∧ rd h' = o.2 ∧ r3 o.1
def SimJ (OK : PH → Prop) (x : Option (Int64 × PH)) (y : Option (Int × Mem)) : Prop := ∀ o, y = some o → ∃ h', x = some (Z6 o.1, h') ∧ OK h' ∧ rd h' = o.2 ∧ r6 o.1
def SimV (OK : PH → Prop) (x : Option PH) (y : Option Mem) : Prop := ∀ o, y = some o → ∃ h', x = some h' ∧ OK h' ∧ rd h' = o
/-- ends in a reference or in none: -1 tells none -/
def SimR (OK : PH → Prop) (Q : Nat → Prop) (x : Option (Option Nat × PH)) (y : Option (Int × Mem)) : Prop := ∀ o, y = some o → ∃ h', OK h' ∧ rd h' = o.2 ∧ ((o.1 = -1 ∧ x = some (none, h')) ∨ ∃ r : Nat, o.1 = r ∧ Q r ∧ x = some (some r, h'))
-- a relation of the two that looks at y only where it says something
theorem smI_none (x : Option (Int32 × PH)) : SimI OK x none := fun _ e => nomatch e
theorem smJ_none (x : Option (Int64 × PH)) : SimJ OK x none := fun _ e => nomatch e
theorem smV_none (x : Option PH) : SimV OK x none := fun _ e => nomatch e
theorem smR_none {Q : Nat → Prop} (x : Option (Option Nat × PH)) : SimR OK Q x none := fun _ e => nomatch e
-- what is read
theorem sm_rd {α β γ : Type} {R : Option α → Option β → Prop} {x : Option γ} {v : γ} (e : x = some v) {f : γ → Option α} {y : Option β} (h : R (f v) y) : R (x.bind f) y := by subst e; exact h
theorem sm_cd {α β : Type} {R : Option α → Option β → Prop} {c : Bool} (e : c = true) {x : Option α} {y : Option β} (h : R x y) : R (cond c x none) y := by subst e; exact h
theorem sm_if {α β : Type} {R : Option α → Option β → Prop} {c C : Prop} [Decidable c] [Decidable C] (hc : c ↔ C) {a a' : Option α} {b b' : Option β} (h1 : R a b) (h2 : R a' b') : R (if c then a else a') (if C then b else b') := by
  by_cases h : c
  · rw [if_pos h, if_pos (hc.mp h)]; exact h1
  · rw [if_neg h, if_neg (fun q => h (hc.mpr q))]; exact h2
-- guards
theorem sg3I {e : Int} {x : Option (Int32 × PH)} {y : Option (Int × Mem)} (h : r3 e → SimI OK x y) : SimI OK x (gd3 e y) := by
  unfold gd3; by_cases c : -2147483648 ≤ e ∧ e ≤ 2147483647
  · rw [if_pos c]; exact h c
  · rw [if_neg c]; exact smI_none x
theorem sg3J {e : Int} {x : Option (Int64 × PH)} {y : Option (Int × Mem)} (h : r3 e → SimJ OK x y) : SimJ OK x (gd3 e y) := by
  unfold gd3; by_cases c : -2147483648 ≤ e ∧ e ≤ 2147483647
  · rw [if_pos c]; exact h c
  · rw [if_neg c]; exact smJ_none x
theorem sg3V {e : Int} {x : Option PH} {y : Option Mem} (h : r3 e → SimV OK x y) : SimV OK x (gd3 e y) := by
  unfold gd3; by_cases c : -2147483648 ≤ e ∧ e ≤ 2147483647
  · rw [if_pos c]; exact h c
  · rw [if_neg c]; exact smV_none x
theorem sg3R {Q : Nat → Prop} {e : Int} {x : Option (Option Nat × PH)} {y : Option (Int × Mem)} (h : r3 e → SimR OK Q x y) : SimR OK Q x (gd3 e y) := by
  unfold gd3; by_cases c : -2147483648 ≤ e ∧ e ≤ 2147483647
  · rw [if_pos c]; exact h c
  · rw [if_neg c]; exact smR_none x
theorem sg6I {e : Int} {x : Option (Int32 × PH)} {y : Option (Int × Mem)} (h : r6 e → SimI OK x y) : SimI OK x (gd6 e y) := by
  unfold gd6; by_cases c : -9223372036854775808 ≤ e ∧ e ≤ 9223372036854775807
  · rw [if_pos c]; exact h c
  · rw [if_neg c]; exact smI_none x
theorem sg6J {e : Int} {x : Option (Int64 × PH)} {y : Option (Int × Mem)} (h : r6 e → SimJ OK x y) : SimJ OK x (gd6 e y) := by
  unfold gd6; by_cases c : -9223372036854775808 ≤ e ∧ e ≤ 9223372036854775807
  · rw [if_pos c]; exact h c
  · rw [if_neg c]; exact smJ_none x
theorem sgxI {i n : Int} {x : Option (Int32 × PH)} {y : Option (Int × Mem)} (h : 0 ≤ i ∧ i < n → SimI OK x y) : SimI OK x (gdx i n y) := by
  unfold gdx; by_cases c : 0 ≤ i ∧ i < n
  · rw [if_pos c]; exact h c
  · rw [if_neg c]; exact smI_none x
theorem sgxJ {i n : Int} {x : Option (Int64 × PH)} {y : Option (Int × Mem)} (h : 0 ≤ i ∧ i < n → SimJ OK x y) : SimJ OK x (gdx i n y) := by
  unfold gdx; by_cases c : 0 ≤ i ∧ i < n
  · rw [if_pos c]; exact h c
  · rw [if_neg c]; exact smJ_none x
theorem sgxV {i n : Int} {x : Option PH} {y : Option Mem} (h : 0 ≤ i ∧ i < n → SimV OK x y) : SimV OK x (gdx i n y) := by
  unfold gdx; by_cases c : 0 ≤ i ∧ i < n
  · rw [if_pos c]; exact h c
  · rw [if_neg c]; exact smV_none x
theorem sgxR {Q : Nat → Prop} {i n : Int} {x : Option (Option Nat × PH)} {y : Option (Int × Mem)} (h : 0 ≤ i ∧ i < n → SimR OK Q x y) : SimR OK Q x (gdx i n y) := by
  unfold gdx; by_cases c : 0 ≤ i ∧ i < n
  · rw [if_pos c]; exact h c
  · rw [if_neg c]; exact smR_none x
theorem sgdI {a b : Int} {x : Option (Int32 × PH)} {y : Option (Int × Mem)} (h : 0 ≤ a ∧ 0 < b → SimI OK x y) : SimI OK x (gdd a b y) := by
  unfold gdd; by_cases c : 0 ≤ a ∧ 0 < b
  · rw [if_pos c]; exact h c
  · rw [if_neg c]; exact smI_none x
theorem sgdV {a b : Int} {x : Option PH} {y : Option Mem} (h : 0 ≤ a ∧ 0 < b → SimV OK x y) : SimV OK x (gdd a b y) := by
  unfold gdd; by_cases c : 0 ≤ a ∧ 0 < b
  · rw [if_pos c]; exact h c
  · rw [if_neg c]; exact smV_none x
theorem sgbI {a : Int} {x : Option (Int32 × PH)} {y : Option (Int × Mem)} (h : a = 0 ∨ a = 1 → SimI OK x y) : SimI OK x (gdb a y) := by
  unfold gdb; by_cases c : a = 0 ∨ a = 1
  · rw [if_pos c]; exact h c
  · rw [if_neg c]; exact smI_none x
theorem sgbJ {a : Int} {x : Option (Int64 × PH)} {y : Option (Int × Mem)} (h : a = 0 ∨ a = 1 → SimJ OK x y) : SimJ OK x (gdb a y) := by
  unfold gdb; by_cases c : a = 0 ∨ a = 1
  · rw [if_pos c]; exact h c
  · rw [if_neg c]; exact smJ_none x
theorem sgbV {a : Int} {x : Option PH} {y : Option Mem} (h : a = 0 ∨ a = 1 → SimV OK x y) : SimV OK x (gdb a y) := by
  unfold gdb; by_cases c : a = 0 ∨ a = 1
  · rw [if_pos c]; exact h c
  · rw [if_neg c]; exact smV_none x
theorem sgeI {a b : Int} {x : Option (Int32 × PH)} {y : Option (Int × Mem)} (h : a = b → SimI OK x y) : SimI OK x (gde a b y) := by
  unfold gde; by_cases c : a = b
  · rw [if_pos c]; exact h c
  · rw [if_neg c]; exact smI_none x
theorem sgeV {a b : Int} {x : Option PH} {y : Option Mem} (h : a = b → SimV OK x y) : SimV OK x (gde a b y) := by
  unfold gde; by_cases c : a = b
  · rw [if_pos c]; exact h c
  · rw [if_neg c]; exact smV_none x
-- what is written
theorem sm_wt {α β : Type} {R : Option α → Option β → Prop} {x : Option PH} {m : Mem} (e : ∃ h', x = some h' ∧ OK h' ∧ rd h' = m) {f : PH → Option α} {g : Mem → Option β} (h : ∀ h', OK h' → R (f h') (g (rd h'))) : R (x.bind f) (wt m g) := by
  obtain ⟨h', e1, e2, e3⟩ := e
  subst e1 e3
  exact h h' e2
-- calls: of one that gives I, J, V, R, in one that gives I, J, V, R
theorem sm_II {x : Option (Int32 × PH)} {y : Option (Int × Mem)} (s : SimI OK x y) {f : Int32 × PH → Option (Int32 × PH)} {g : Int × Mem → Option (Int × Mem)} (h : ∀ v h', OK h' → r3 v → SimI OK (f (Z3 v, h')) (g (v, rd h'))) : SimI OK (x.bind f) (y.bind g) := by
  intro o e
  obtain ⟨⟨v, m⟩, e1, e2⟩ := ob e
  obtain ⟨h', f1, f2, f3, f4⟩ := s _ e1
  subst f1
  simp only at f3
  subst f3
  exact h v h' f2 f4 o e2
theorem sm_IJ {x : Option (Int32 × PH)} {y : Option (Int × Mem)} (s : SimI OK x y) {f : Int32 × PH → Option (Int64 × PH)} {g : Int × Mem → Option (Int × Mem)} (h : ∀ v h', OK h' → r3 v → SimJ OK (f (Z3 v, h')) (g (v, rd h'))) : SimJ OK (x.bind f) (y.bind g) := by
  intro o e
  obtain ⟨⟨v, m⟩, e1, e2⟩ := ob e
  obtain ⟨h', f1, f2, f3, f4⟩ := s _ e1
  subst f1
  simp only at f3
  subst f3
  exact h v h' f2 f4 o e2
theorem sm_IV {x : Option (Int32 × PH)} {y : Option (Int × Mem)} (s : SimI OK x y) {f : Int32 × PH → Option PH} {g : Int × Mem → Option Mem} (h : ∀ v h', OK h' → r3 v → SimV OK (f (Z3 v, h')) (g (v, rd h'))) : SimV OK (x.bind f) (y.bind g) := by
  intro o e
  obtain ⟨⟨v, m⟩, e1, e2⟩ := ob e
  obtain ⟨h', f1, f2, f3, f4⟩ := s _ e1
  subst f1
  simp only at f3
  subst f3
  exact h v h' f2 f4 o e2
theorem sm_IR {Q : Nat → Prop} {x : Option (Int32 × PH)} {y : Option (Int × Mem)} (s : SimI OK x y) {f : Int32 × PH → Option (Option Nat × PH)} {g : Int × Mem → Option (Int × Mem)} (h : ∀ v h', OK h' → r3 v → SimR OK Q (f (Z3 v, h')) (g (v, rd h'))) : SimR OK Q (x.bind f) (y.bind g) := by
  intro o e
  obtain ⟨⟨v, m⟩, e1, e2⟩ := ob e
  obtain ⟨h', f1, f2, f3, f4⟩ := s _ e1
  subst f1
  simp only at f3
  subst f3
  exact h v h' f2 f4 o e2
theorem sm_JI {x : Option (Int64 × PH)} {y : Option (Int × Mem)} (s : SimJ OK x y) {f : Int64 × PH → Option (Int32 × PH)} {g : Int × Mem → Option (Int × Mem)} (h : ∀ v h', OK h' → r6 v → SimI OK (f (Z6 v, h')) (g (v, rd h'))) : SimI OK (x.bind f) (y.bind g) := by
  intro o e
  obtain ⟨⟨v, m⟩, e1, e2⟩ := ob e
  obtain ⟨h', f1, f2, f3, f4⟩ := s _ e1
  subst f1
  simp only at f3
  subst f3
  exact h v h' f2 f4 o e2
theorem sm_JJ {x : Option (Int64 × PH)} {y : Option (Int × Mem)} (s : SimJ OK x y) {f : Int64 × PH → Option (Int64 × PH)} {g : Int × Mem → Option (Int × Mem)} (h : ∀ v h', OK h' → r6 v → SimJ OK (f (Z6 v, h')) (g (v, rd h'))) : SimJ OK (x.bind f) (y.bind g) := by
  intro o e
  obtain ⟨⟨v, m⟩, e1, e2⟩ := ob e
  obtain ⟨h', f1, f2, f3, f4⟩ := s _ e1
  subst f1
  simp only at f3
  subst f3
  exact h v h' f2 f4 o e2
theorem sm_VI {x : Option PH} {y : Option Mem} (s : SimV OK x y) {f : PH → Option (Int32 × PH)} {g : Mem → Option (Int × Mem)} (h : ∀ h', OK h' → SimI OK (f h') (g (rd h'))) : SimI OK (x.bind f) (y.bind g) := by
  intro o e
  obtain ⟨m, e1, e2⟩ := ob e
  obtain ⟨h', f1, f2, f3⟩ := s _ e1
  subst f1 f3
  exact h h' f2 o e2
theorem sm_VJ {x : Option PH} {y : Option Mem} (s : SimV OK x y) {f : PH → Option (Int64 × PH)} {g : Mem → Option (Int × Mem)} (h : ∀ h', OK h' → SimJ OK (f h') (g (rd h'))) : SimJ OK (x.bind f) (y.bind g) := by
  intro o e
  obtain ⟨m, e1, e2⟩ := ob e
  obtain ⟨h', f1, f2, f3⟩ := s _ e1
  subst f1 f3
  exact h h' f2 o e2
theorem sm_VV {x : Option PH} {y : Option Mem} (s : SimV OK x y) {f : PH → Option PH} {g : Mem → Option Mem} (h : ∀ h', OK h' → SimV OK (f h') (g (rd h'))) : SimV OK (x.bind f) (y.bind g) := by
  intro o e
  obtain ⟨m, e1, e2⟩ := ob e
  obtain ⟨h', f1, f2, f3⟩ := s _ e1
  subst f1 f3
  exact h h' f2 o e2
theorem sm_VR {Q : Nat → Prop} {x : Option PH} {y : Option Mem} (s : SimV OK x y) {f : PH → Option (Option Nat × PH)} {g : Mem → Option (Int × Mem)} (h : ∀ h', OK h' → SimR OK Q (f h') (g (rd h'))) : SimR OK Q (x.bind f) (y.bind g) := by
  intro o e
  obtain ⟨m, e1, e2⟩ := ob e
  obtain ⟨h', f1, f2, f3⟩ := s _ e1
  subst f1 f3
  exact h h' f2 o e2
theorem sm_RI {Q : Nat → Prop} {x : Option (Option Nat × PH)} {y : Option (Int × Mem)} (s : SimR OK Q x y) {f0 : PH → Option (Int32 × PH)} {f1 : Nat → PH → Option (Int32 × PH)} {g0 : Mem → Option (Int × Mem)} {g1 : Nat → Mem → Option (Int × Mem)} (h0 : ∀ h', OK h' → SimI OK (f0 h') (g0 (rd h'))) (h1 : ∀ r h', OK h' → Q r → SimI OK (f1 r h') (g1 r (rd h'))) : SimI OK (x.bind fun o => match o.1 with | none => f0 o.2 | some r => f1 r o.2) (y.bind fun o => if o.1 = -1 then g0 o.2 else g1 o.1.toNat o.2) := by
  intro o e
  obtain ⟨⟨v, m⟩, e1, e2⟩ := ob e
  obtain ⟨h', p1, p2, ⟨p3, p4⟩ | ⟨r, p3, p4, p5⟩⟩ := s _ e1
  · subst p4
    simp only at p2 p3
    subst p2 p3
    exact h0 h' p1 o (by simpa using e2)
  · subst p5
    simp only at p2 p3
    subst p2 p3
    have hr : ¬ ((r : Int) = -1) := by omega
    simp only [hr, if_false, Int.toNat_natCast] at e2
    exact h1 r h' p1 p4 o e2
-- ends
theorem sm_retI {h : PH} (H : OK h) {v : Int32} {V : Int} (e : v = Z3 V) (hr : r3 V) : SimI OK (some (v, h)) (some (V, rd h)) := by
  intro o q
  have := Option.some.inj q
  subst this e
  exact ⟨h, rfl, H, rfl, hr⟩
theorem sm_retJ {h : PH} (H : OK h) {v : Int64} {V : Int} (e : v = Z6 V) (hr : r6 V) : SimJ OK (some (v, h)) (some (V, rd h)) := by
  intro o q
  have := Option.some.inj q
  subst this e
  exact ⟨h, rfl, H, rfl, hr⟩
theorem sm_retV {h : PH} (H : OK h) : SimV OK (some h) (some (rd h)) := by
  intro o q
  have := Option.some.inj q
  subst this
  exact ⟨h, rfl, H, rfl⟩
theorem sm_retR0 {Q : Nat → Prop} {h : PH} (H : OK h) : SimR OK Q (some (none, h)) (some (-1, rd h)) := by
  intro o q
  have := Option.some.inj q
  subst this
  exact ⟨h, H, rfl, Or.inl ⟨rfl, rfl⟩⟩
theorem sm_retR1 {Q : Nat → Prop} {h : PH} (H : OK h) {r : Nat} (hq : Q r) : SimR OK Q (some (some r, h)) (some ((r : Int), rd h)) := by
  intro o q
  have := Option.some.inj q
  subst this
  exact ⟨h, H, rfl, Or.inr ⟨r, rfl, hq, rfl⟩⟩
theorem sm_rz {h : PH} (H : OK h) {v : Int32} {V : Int} (e : v = Z3 V) (hb : V = 0 ∨ V = 1) : SimI OK (rz v h) (some (V, rd h)) := by
  have : rz v h = some (v, h) := by
    subst e
    rcases hb with rfl | rfl
    · exact rz0 h
    · exact rz1 h
  rw [this]
  refine sm_retI H e ?_
  rcases hb with rfl | rfl
  · exact ⟨by decide, by decide⟩
  · exact ⟨by decide, by decide⟩
end SIM
-- what the heap's shape says of reads and writes
section PRIM
variable {h : PH} {a ci k t n : Nat}
theorem gI_rd (e : cF (Sk h) a ci k = some 0) : gI h a ci k = some (Z3 (rd h a k)) ∧ r3 (rd h a k) := by
  obtain ⟨fs, v, h1, h2, h3⟩ := cF_spec e
  rcases v with i | j | _ | r
  · rw [rd_obj h1 k h2]
    refine ⟨?_, r3_of i⟩
    unfold gI gV
    rw [h1]
    simp only [h2, if_true]
    exact congrArg some (z3_of i)
  · cases h3
  · cases h3
  · cases h3
theorem gJ_rd (e : cF (Sk h) a ci k = some 1) : gJ h a ci k = some (Z6 (rd h a k)) ∧ r6 (rd h a k) := by
  obtain ⟨fs, v, h1, h2, h3⟩ := cF_spec e
  rcases v with i | j | _ | r
  · cases h3
  · rw [rd_obj h1 k h2]
    refine ⟨?_, r6_of j⟩
    unfold gJ gV
    rw [h1]
    simp only [h2, if_true]
    exact congrArg some (z6_of j)
  · cases h3
  · simp [kV] at h3
theorem pV_rd {z : Nat} (e : cF (Sk h) a ci k = some z) (v : PV) (hz : kV v = z) : ∃ h', pV h a ci k v = some h' ∧ Sk h' = Sk h ∧ rd h' = up (rd h) a k (rdV v) := by
  obtain ⟨fs, w, h1, h2, h3⟩ := cF_spec e
  have hk : k < fs.length := (List.getElem?_eq_some_iff.mp h2).1
  refine ⟨h.set a (.inr (ci, fs.set k v)), ?_, Sk_set h1 ?_, rd_setF h1 hk⟩
  · unfold pV; rw [h1]; simp [hk]
  · simp only [sk]
    congr 2
    apply List.ext_getElem?
    intro j
    rw [List.getElem?_map, List.getElem?_map]
    by_cases hj : k = j
    · subst hj
      rw [List.getElem?_set_self hk, h2]
      simp [h3, hz]
    · rw [List.getElem?_set_ne hj]
theorem pI_rd (e : cF (Sk h) a ci k = some 0) {v : Int32} {V : Int} (ev : v = Z3 V) (hr : r3 V) : ∃ h', pI h a ci k v = some h' ∧ Sk h' = Sk h ∧ rd h' = up (rd h) a k V := by
  obtain ⟨h', e1, e2, e3⟩ := pV_rd e (.inl v) rfl
  refine ⟨h', e1, e2, ?_⟩
  rw [e3]
  show up (rd h) a k v.toInt = _
  rw [ev, z3_to hr]
theorem pZ_rd (e : cF (Sk h) a ci k = some 0) {v : Int32} {V : Int} (ev : v = Z3 V) (hb : V = 0 ∨ V = 1) : ∃ h', pZ h a ci k v = some h' ∧ Sk h' = Sk h ∧ rd h' = up (rd h) a k V := by
  have hr : r3 V := by rcases hb with rfl | rfl <;> exact ⟨by decide, by decide⟩
  have hv : v = 0 ∨ v = 1 := by subst ev; rcases hb with rfl | rfl
                                · left; rfl
                                · right; rfl
  obtain ⟨h', e1, e2⟩ := pI_rd e ev hr
  refine ⟨h', ?_, e2⟩
  unfold pZ
  rw [if_pos hv]
  exact e1
theorem pJ_rd (e : cF (Sk h) a ci k = some 1) {v : Int64} {V : Int} (ev : v = Z6 V) (hr : r6 V) : ∃ h', pJ h a ci k v = some h' ∧ Sk h' = Sk h ∧ rd h' = up (rd h) a k V := by
  obtain ⟨h', e1, e2, e3⟩ := pV_rd e (.inr (.inl v)) rfl
  refine ⟨h', e1, e2, ?_⟩
  rw [e3]
  show up (rd h) a k v.toInt = _
  rw [ev, z6_to hr]
theorem in_z3 {i : Int32} {I : Int} (hi : i = Z3 I) {n : Nat} (c : 0 ≤ I ∧ I < (n : Int)) (hn : n < 2147483648) : vp_in i n ∧ i.toNatClampNeg = I.toNat := by
  have hr : r3 I := ⟨by omega, by omega⟩
  have hto : i.toInt = I := by rw [hi, z3_to hr]
  have h1 : i.toNatClampNeg = i.toInt.toNat := rfl
  refine ⟨?_, by rw [h1, hto]⟩
  unfold vp_in
  rintro (z | z)
  · rw [Int32.lt_iff_toInt_lt] at z
    have : (0 : Int32).toInt = 0 := by decide
    omega
  · omega
theorem aI_rd (e : cA (Sk h) a (5 * t + 1) = some n) (hn : n < 2147483648) {i : Int32} {I : Int} (hi : i = Z3 I) (c : 0 ≤ I ∧ I < (n : Int)) : aI h a t i = some (Z3 (rd h a I)) ∧ r3 (rd h a I) := by
  obtain ⟨f, h1⟩ := cA_spec e
  obtain ⟨h2, h3⟩ := in_z3 hi c hn
  rw [rd_row h1 c.1]
  refine ⟨?_, r3_of _⟩
  unfold aI
  rw [h1]
  exact (if_pos ⟨rfl, h2⟩).trans (by rw [h3]; exact congrArg some (z3_of _))
theorem sI_rd (e : cA (Sk h) a (5 * t + 1) = some n) (hn : n < 2147483648) {i : Int32} {I : Int} (hi : i = Z3 I) (c : 0 ≤ I ∧ I < (n : Int)) {x : Int32} {X : Int} (hx : x = Z3 X) (hr : r3 X) : ∃ h', sI h a t i x = some h' ∧ Sk h' = Sk h ∧ rd h' = up (rd h) a I X := by
  obtain ⟨f, h1⟩ := cA_spec e
  obtain ⟨h2, h3⟩ := in_z3 hi c hn
  refine ⟨h.set a (.inl (t, n, .inl (upd f I.toNat x))), ?_, Sk_set h1 rfl, ?_⟩
  · unfold sI; rw [h1]
    exact (if_pos ⟨rfl, h2⟩).trans (by rw [h3])
  · rw [rd_setR h1 c.1, hx, z3_to hr]
theorem aJ_rd (e : cA (Sk h) a 17 = some n) (hn : n < 2147483648) {i : Int32} {I : Int} (hi : i = Z3 I) (c : 0 ≤ I ∧ I < (n : Int)) : aJ h a i = some (Z6 (rd h a I)) ∧ r6 (rd h a I) := by
  obtain ⟨f, h1⟩ := cA_specL (t := 3) e
  obtain ⟨h2, h3⟩ := in_z3 hi c hn
  rw [rd_lrow h1 c.1]
  refine ⟨?_, r6_of _⟩
  unfold aJ
  rw [h1]
  exact (if_pos ⟨rfl, h2⟩).trans (by rw [h3]; exact congrArg some (z6_of _))
theorem sJ_rd (e : cA (Sk h) a 17 = some n) (hn : n < 2147483648) {i : Int32} {I : Int} (hi : i = Z3 I) (c : 0 ≤ I ∧ I < (n : Int)) {x : Int64} {X : Int} (hx : x = Z6 X) (hr : r6 X) : ∃ h', sJ h a i x = some h' ∧ Sk h' = Sk h ∧ rd h' = up (rd h) a I X := by
  obtain ⟨f, h1⟩ := cA_specL (t := 3) e
  obtain ⟨h2, h3⟩ := in_z3 hi c hn
  refine ⟨h.set a (.inl (3, n, .inr (.inl (vp_updL f I.toNat x)))), ?_, Sk_set h1 rfl, ?_⟩
  · unfold sJ; rw [h1]
    exact (if_pos ⟨rfl, h2⟩).trans (by rw [h3])
  · rw [rd_setL h1 c.1, hx, z6_to hr]
theorem aL_rd (e : cA (Sk h) a (5 * t + 1) = some n) (ht : t < 5) : aL h a = some (Z3 (n : Int)) := by
  obtain ⟨f, h1⟩ := cA_spec e
  unfold aL
  rw [h1]
  exact (if_pos ht).trans (congrArg some (Int32.ofInt_eq_ofNat (n := n)).symm)
theorem aL_rdL (e : cA (Sk h) a (5 * t + 2) = some n) (ht : t < 5) : aL h a = some (Z3 (n : Int)) := by
  obtain ⟨f, h1⟩ := cA_specL e
  unfold aL
  rw [h1]
  exact (if_pos ht).trans (congrArg some (Int32.ofInt_eq_ofNat (n := n)).symm)
theorem aR_rd {l : List Nat} {r : Nat} (e : cW (Sk h) a = some (n, l)) (hn : n < 2147483648) {i : Int32} {I : Int} (hi : i = Z3 I) (c : 0 ≤ I ∧ I < (n : Int)) (hl : l[I.toNat]? = some (r + 3)) : aR h a i = some r := by
  obtain ⟨f, h1, h2⟩ := cW_spec e
  obtain ⟨h3, h4⟩ := in_z3 hi c hn
  unfold aR
  rw [h1]
  refine (if_pos ⟨rfl, h3⟩).trans ?_
  rw [h4]
  subst h2
  rw [List.getElem?_map, List.getElem?_range (by omega)] at hl
  have hk : kO (f I.toNat) = r + 3 := Option.some.inj hl
  cases hq : f I.toNat with
  | none => rw [hq] at hk; simp only [kO] at hk; omega
  | some q =>
    rw [hq] at hk
    simp only [kO] at hk
    congr 1
    omega
theorem cpI_rd {a1 n1 : Nat} (e0 : cA (Sk h) a 1 = some n) (e1 : cA (Sk h) a1 1 = some n1) {sp dp q : Int32} {SP DP Q : Int} (h1 : sp = Z3 SP) (h2 : dp = Z3 DP) (h3 : q = Z3 Q) (c : (0 ≤ SP ∧ 0 ≤ DP ∧ 0 ≤ Q) ∧ SP + Q ≤ (n : Int) ∧ DP + Q ≤ (n1 : Int)) (hn : n < 2147483648) (hn1 : n1 < 2147483648) : ∃ h', cpI h a sp a1 dp q = some h' ∧ Sk h' = Sk h ∧ rd h' = cpy (rd h) a SP a1 DP Q := by
  obtain ⟨f, g0⟩ := cA_spec (t := 0) e0
  obtain ⟨g, g1⟩ := cA_spec (t := 0) e1
  obtain ⟨⟨c1, c2, c3⟩, c4, c5⟩ := c
  have t1 : sp.toInt = SP := by rw [h1, z3_to ⟨by omega, by omega⟩]
  have t2 : dp.toInt = DP := by rw [h2, z3_to ⟨by omega, by omega⟩]
  have t3 : q.toInt = Q := by rw [h3, z3_to ⟨by omega, by omega⟩]
  have u1 : sp.toNatClampNeg = sp.toInt.toNat := rfl
  have u2 : dp.toNatClampNeg = dp.toInt.toNat := rfl
  have u3 : q.toNatClampNeg = q.toInt.toNat := rfl
  have z0 : (0 : Int32).toInt = 0 := by decide
  refine ⟨h.set a1 (.inl (0, n1, .inl (va_cpy f g SP.toNat DP.toNat Q.toNat))), ?_, Sk_set g1 rfl, ?_⟩
  · unfold cpI; rw [g0, g1]
    have w1 : sp.toNatClampNeg = SP.toNat := by omega
    have w2 : dp.toNatClampNeg = DP.toNat := by omega
    have w3 : q.toNatClampNeg = Q.toNat := by omega
    refine (if_pos ⟨rfl, rfl, ?_, ?_, ?_, ?_, ?_⟩).trans (by rw [w1, w2, w3])
    · rw [Int32.lt_iff_toInt_lt]; omega
    · rw [Int32.lt_iff_toInt_lt]; omega
    · rw [Int32.lt_iff_toInt_lt]; omega
    · omega
    · omega
  · funext b j
    unfold cpy
    by_cases hb : b = a1
    · subst hb
      by_cases hj : j < 0
      · rw [if_neg (by omega)]
        unfold rd
        rw [if_pos hj, if_pos hj]
      · rw [rd_row (st_s g1) (by omega)]
        unfold va_cpy
        by_cases hd : DP ≤ j ∧ j < DP + Q
        · rw [if_pos (show DP.toNat ≤ j.toNat ∧ j.toNat < DP.toNat + Q.toNat by omega), if_pos ⟨rfl, hd⟩, rd_row g0 (by omega)]
          congr 2
          omega
        · rw [if_neg (show ¬ (DP.toNat ≤ j.toNat ∧ j.toNat < DP.toNat + Q.toNat) by omega), if_neg (fun q => hd q.2), rd_row g1 (by omega)]
    · rw [if_neg (fun q => hb q.1)]
      exact rd_set_ne (Ne.symm hb) j
theorem Sk_setR {r r' : Nat} {v : PV} {h' : PH} (e : cF (Sk h) a ci k = some (r + 3)) (hv : kV v = r' + 3) (hp : pV h a ci k v = some h') : ∃ l, (Sk h)[a]? = some (0, ci, l) ∧ Sk h' = (Sk h).set a (0, ci, l.set k (r' + 3)) := by
  obtain ⟨fs, w, h1, h2, h3⟩ := cF_spec e
  obtain ⟨fs', g1, g2, g3⟩ := pV_spec hp
  rw [h1] at g1
  have : fs = fs' := by simpa using g1
  subst this
  refine ⟨fs.map kV, by rw [Sk_at, h1]; rfl, ?_⟩
  subst g3
  unfold Sk
  rw [List.map_set]
  congr 1
  simp only [sk]
  congr 2
  rw [List.map_set, hv]
theorem pR_rd {r r' : Nat} (e : cF (Sk h) a ci k = some (r + 3)) : ∃ h', pR h a ci k r' = some h' ∧ (∃ l, (Sk h)[a]? = some (0, ci, l) ∧ Sk h' = (Sk h).set a (0, ci, l.set k (r' + 3))) ∧ rd h' = up (rd h) a k r' := by
  obtain ⟨fs, w, h1, h2, h3⟩ := cF_spec e
  have hk : k < fs.length := (List.getElem?_eq_some_iff.mp h2).1
  have hp : pV h a ci k (.inr (.inr (some r'))) = some (h.set a (.inr (ci, fs.set k (.inr (.inr (some r')))))) := by
    unfold pV; rw [h1]; simp [hk]
  exact ⟨_, hp, Sk_setR e rfl hp, rd_setF h1 hk⟩
end PRIM
/-! Fields and rows of both shapes (written by wip/gen/gx.py). -/
def A1 (a : Nat) : Prop := a = 3 ∨ a = 25
def A2 (a : Nat) : Prop := a = 18 ∨ a = 20 ∨ a = 22 ∨ a = 40 ∨ a = 42 ∨ a = 44
def A4 (a : Nat) : Prop := a = 69 ∨ a = 76 ∨ a = 83
def A6 (a : Nat) : Prop := a = 51 ∨ a = 60
def A8 (a : Nat) : Prop := a = 2 ∨ a = 24
def A10 (a : Nat) : Prop := a = 10 ∨ a = 32
def R1_1 (a : Nat) : Prop := a = 4 ∨ a = 26
def R1_2 (a : Nat) : Prop := a = 5 ∨ a = 27
def R1_3 (a : Nat) : Prop := a = 6 ∨ a = 28
def R1_4 (a : Nat) : Prop := a = 7 ∨ a = 29
def R1_5 (a : Nat) : Prop := a = 8 ∨ a = 30
def R1_6 (a : Nat) : Prop := a = 9 ∨ a = 31
def R2_0 (a : Nat) : Prop := a = 19 ∨ a = 21 ∨ a = 23 ∨ a = 41 ∨ a = 43 ∨ a = 45
def R4_5 (a : Nat) : Prop := a = 70 ∨ a = 77 ∨ a = 84
def R4_6 (a : Nat) : Prop := a = 71 ∨ a = 78 ∨ a = 85
def R4_7 (a : Nat) : Prop := a = 72 ∨ a = 79 ∨ a = 86
def R4_8 (a : Nat) : Prop := a = 73 ∨ a = 80 ∨ a = 87
def R4_9 (a : Nat) : Prop := a = 74 ∨ a = 81 ∨ a = 88
def R4_10 (a : Nat) : Prop := a = 75 ∨ a = 82 ∨ a = 89
def R6_1 (a : Nat) : Prop := a = 52 ∨ a = 61
def R6_2 (a : Nat) : Prop := a = 53 ∨ a = 62
def R6_3 (a : Nat) : Prop := a = 54 ∨ a = 63
def R6_4 (a : Nat) : Prop := a = 55 ∨ a = 64
def R6_5 (a : Nat) : Prop := a = 56 ∨ a = 65
def R6_6 (a : Nat) : Prop := a = 57 ∨ a = 66
def R6_7 (a : Nat) : Prop := a = 58 ∨ a = 67
def R6_8 (a : Nat) : Prop := a = 59 ∨ a = 68
def R8_11 (a : Nat) : Prop := a = 17 ∨ a = 39
def R10_2 (a : Nat) : Prop := a = 11 ∨ a = 33
def R10_3 (a : Nat) : Prop := a = 12 ∨ a = 34
def R10_4 (a : Nat) : Prop := a = 13 ∨ a = 35
def R10_5 (a : Nat) : Prop := a = 14 ∨ a = 36
def R10_6 (a : Nat) : Prop := a = 15 ∨ a = 37
def R10_7 (a : Nat) : Prop := a = 16 ∨ a = 38
theorem p4_69 : A4 69 := by simp [A4]
theorem p4_76 : A4 76 := by simp [A4]
theorem p4_83 : A4 83 := by simp [A4]
theorem p6_51 : A6 51 := by simp [A6]
theorem p6_60 : A6 60 := by simp [A6]
def ABy (a : Nat) : Prop := a = 49 ∨ a = 1
def SKX (t d r b s o : Nat) : List (Nat × Nat × List Nat) := [(0, 11, [4, 0, 49, t + 3, d + 3, 54, 63, 72, 79, 86, 0, 93, 99, 102]), (6, 700, []), (0, 8, [0, 0, 0, 0, 6, 13, 0, 0, 0, 0, 0, 20, 0, 0]), (0, 1, [0, 7, 8, 9, 10, 11, 12]), (1, 5, []), (1, 5, []), (1, 5, []), (1, 5, []), (1, 5, []), (1, 5, []), (0, 10, [0, 0, 14, 15, 16, 17, 18, 19]), (1, 4, []), (1, 4, []), (1, 28, []), (1, 28, []), (1, 28, []), (1, 28, []), (25, 3, [21, 23, 25]), (0, 2, [22, 0, 0]), (1, 64, []), (0, 2, [24, 0, 0]), (1, 64, []), (0, 2, [26, 0, 0]), (1, 64, []), (0, 8, [0, 0, 0, 0, 28, 35, 0, 0, 0, 0, 0, 42, 0, 0]), (0, 1, [0, 29, 30, 31, 32, 33, 34]), (1, 5, []), (1, 5, []), (1, 5, []), (1, 5, []), (1, 5, []), (1, 5, []), (0, 10, [0, 0, 36, 37, 38, 39, 40, 41]), (1, 4, []), (1, 4, []), (1, 28, []), (1, 28, []), (1, 28, []), (1, 28, []), (25, 3, [43, 45, 47]), (0, 2, [44, 0, 0]), (1, 64, []), (0, 2, [46, 0, 0]), (1, 64, []), (0, 2, [48, 0, 0]), (1, 64, []), (0, 5, [50, 53, 0, 0, 0, 0, 0, 0, 0, 0, r + 3]), (0, 7, [51, b + 3, 0, 0, 0, 0, 0]), (1, 24, []), (6, 0, []), (1, 72, []), (0, 6, [s + 3, 55, 56, 57, 58, 59, 60, 61, 62]), (1, 5, []), (1, 5, []), (1, 28, []), (17, 6, []), (17, 64, []), (1, 5, []), (1, 5, []), (1, 5, []), (0, 6, [o + 3, 64, 65, 66, 67, 68, 69, 70, 71]), (1, 5, []), (1, 5, []), (1, 28, []), (17, 6, []), (17, 64, []), (1, 5, []), (1, 5, []), (1, 5, []), (0, 4, [0, 0, 0, 0, 0, 73, 74, 75, 76, 77, 78]), (1, 5, []), (1, 5, []), (1, 5, []), (1, 5, []), (1, 5, []), (1, 28, []), (0, 4, [0, 0, 0, 0, 0, 80, 81, 82, 83, 84, 85]), (1, 5, []), (1, 5, []), (1, 5, []), (1, 5, []), (1, 5, []), (1, 28, []), (0, 4, [0, 0, 0, 0, 0, 87, 88, 89, 90, 91, 92]), (1, 5, []), (1, 5, []), (1, 5, []), (1, 5, []), (1, 5, []), (1, 28, []), (0, 3, [0, 0, 94, 95, 96, 97, 98]), (1, 24, []), (1, 24, []), (1, 24, []), (1, 24, []), (11, 24, []), (0, 9, [0, 100, 101]), (1, 20, []), (1, 20, []), (0, 0, [103, 104, 105, 106, 107, 108, 0, 109, 110, 111, 112, 0, 0]), (1, 10, []), (1, 280, []), (1, 280, []), (1, 25, []), (1, 25, []), (1, 25, []), (1, 29, []), (1, 28, []), (11, 28, []), (1, 28, [])]
def skx (m : Mem) : List (Nat × Nat × List Nat) := SKX (m 0 3).toNat (m 0 4).toNat (m 46 10).toNat (m 47 1).toNat (m 51 0).toNat (m 60 0).toNat
def vrx (m : Mem) : Prop := (A8 (m 0 3).toNat ∧ A8 (m 0 4).toNat ∧ A8 (m 46 10).toNat ∧ ABy (m 47 1).toNat ∧ A8 (m 51 0).toNat ∧ A8 (m 60 0).toNat) ∧ (0 ≤ m 0 3 ∧ 0 ≤ m 0 4 ∧ 0 ≤ m 46 10 ∧ 0 ≤ m 47 1 ∧ 0 ≤ m 51 0 ∧ 0 ≤ m 60 0)
def OKX (h : PH) : Prop := Sk h = skx (rd h) ∧ vrx (rd h)
def OKM (h : PH) : Prop := Sk h = SM
/-- no place of a reference that changes -/
def nrx (a : Nat) (k : Int) : Prop := ¬ (a = 0 ∧ k = 3) ∧ ¬ (a = 0 ∧ k = 4) ∧ ¬ (a = 46 ∧ k = 10) ∧ ¬ (a = 47 ∧ k = 1) ∧ ¬ (a = 51 ∧ k = 0) ∧ ¬ (a = 60 ∧ k = 0)
theorem up_n {m : Mem} {a : Nat} {k v : Int} {b : Nat} {j : Int} (h : ¬ (a = b ∧ k = j)) : up m a k v b j = m b j := if_neg (fun q => h ⟨q.1.symm, q.2.symm⟩)
theorem skx_e {m m' : Mem} (h1 : m' 0 3 = m 0 3) (h2 : m' 0 4 = m 0 4) (h3 : m' 46 10 = m 46 10) (h4 : m' 47 1 = m 47 1) (h5 : m' 51 0 = m 51 0) (h6 : m' 60 0 = m 60 0) : skx m' = skx m ∧ (vrx m → vrx m') := by
  unfold skx vrx
  rw [h1, h2, h3, h4, h5, h6]
  exact ⟨rfl, id⟩
theorem okx_w {h h' : PH} (H : OKX h) {a : Nat} {k v : Int} (hn : nrx a k) (e1 : Sk h' = Sk h) (e2 : rd h' = up (rd h) a k v) : OKX h' := by
  obtain ⟨n1, n2, n3, n4, n5, n6⟩ := hn
  have e := skx_e (m := rd h) (m' := up (rd h) a k v) (up_n n1) (up_n n2) (up_n n3) (up_n n4) (up_n n5) (up_n n6)
  refine ⟨?_, ?_⟩
  · rw [e1, e2, e.1]; exact H.1
  · rw [e2]; exact e.2 H.2
theorem x_pI {h : PH} (H : OKX h) {a ci k : Nat} (e : cF (skx (rd h)) a ci k = some 0) (hn : nrx a k) {v : Int32} {V : Int} (ev : v = Z3 V) (hr : r3 V) : ∃ h', pI h a ci k v = some h' ∧ OKX h' ∧ rd h' = up (rd h) a k V := by
  obtain ⟨h', e1, e2, e3⟩ := pI_rd (by rw [H.1]; exact e) ev hr
  exact ⟨h', e1, okx_w H hn e2 e3, e3⟩
theorem x_pZ {h : PH} (H : OKX h) {a ci k : Nat} (e : cF (skx (rd h)) a ci k = some 0) (hn : nrx a k) {v : Int32} {V : Int} (ev : v = Z3 V) (hr : V = 0 ∨ V = 1) : ∃ h', pZ h a ci k v = some h' ∧ OKX h' ∧ rd h' = up (rd h) a k V := by
  obtain ⟨h', e1, e2, e3⟩ := pZ_rd (by rw [H.1]; exact e) ev hr
  exact ⟨h', e1, okx_w H hn e2 e3, e3⟩
theorem x_sI {h : PH} (H : OKX h) {a t n : Nat} (e : cA (skx (rd h)) a (5 * t + 1) = some n) (hd : n < 2147483648) (hn : ∀ k, nrx a k) {i : Int32} {I : Int} (hi : i = Z3 I) (c : 0 ≤ I ∧ I < (n : Int)) {x : Int32} {X : Int} (hx : x = Z3 X) (hr : r3 X) : ∃ h', sI h a t i x = some h' ∧ OKX h' ∧ rd h' = up (rd h) a I X := by
  obtain ⟨h', e1, e2, e3⟩ := sI_rd (by rw [H.1]; exact e) hd hi c hx hr
  exact ⟨h', e1, okx_w H (hn I) e2 e3, e3⟩
theorem x_sJ {h : PH} (H : OKX h) {a n : Nat} (e : cA (skx (rd h)) a 17 = some n) (hd : n < 2147483648) (hn : ∀ k, nrx a k) {i : Int32} {I : Int} (hi : i = Z3 I) (c : 0 ≤ I ∧ I < (n : Int)) {x : Int64} {X : Int} (hx : x = Z6 X) (hr : r6 X) : ∃ h', sJ h a i x = some h' ∧ OKX h' ∧ rd h' = up (rd h) a I X := by
  obtain ⟨h', e1, e2, e3⟩ := sJ_rd (by rw [H.1]; exact e) hd hi c hx hr
  exact ⟨h', e1, okx_w H (hn I) e2 e3, e3⟩
theorem nrx_row {a : Nat} (h : a ≠ 0 ∧ a ≠ 46 ∧ a ≠ 47 ∧ a ≠ 51 ∧ a ≠ 60) (k : Int) : nrx a k := ⟨fun q => h.1 q.1, fun q => h.1 q.1, fun q => h.2.1 q.1, fun q => h.2.2.1 q.1, fun q => h.2.2.2.1 q.1, fun q => h.2.2.2.2 q.1⟩
theorem x_cp {h : PH} (H : OKX h) {a a1 n n1 : Nat} (e0 : cA (Sk h) a 1 = some n) (e1 : cA (Sk h) a1 1 = some n1) {sp dp q : Int32} {SP DP Q : Int} (h1 : sp = Z3 SP) (h2 : dp = Z3 DP) (h3 : q = Z3 Q) (c : (0 ≤ SP ∧ 0 ≤ DP ∧ 0 ≤ Q) ∧ SP + Q ≤ (n : Int) ∧ DP + Q ≤ (n1 : Int)) (hn : n < 2147483648) (hn1 : n1 < 2147483648) (hr : a1 ≠ 0 ∧ a1 ≠ 46 ∧ a1 ≠ 47 ∧ a1 ≠ 51 ∧ a1 ≠ 60) : ∃ h', cpI h a sp a1 dp q = some h' ∧ OKX h' ∧ rd h' = cpy (rd h) a SP a1 DP Q := by
  obtain ⟨h', f1, f2, f3⟩ := cpI_rd e0 e1 h1 h2 h3 c hn hn1
  have nn : ∀ (b : Nat) (j : Int), b ≠ a1 → cpy (rd h) a SP a1 DP Q b j = rd h b j := fun b j hb => if_neg (fun q => hb q.1)
  have e := skx_e (m := rd h) (m' := cpy (rd h) a SP a1 DP Q) (nn 0 3 (Ne.symm hr.1)) (nn 0 4 (Ne.symm hr.1)) (nn 46 10 (Ne.symm hr.2.1)) (nn 47 1 (Ne.symm hr.2.2.1)) (nn 51 0 (Ne.symm hr.2.2.2.1)) (nn 60 0 (Ne.symm hr.2.2.2.2))
  refine ⟨h', f1, ⟨?_, ?_⟩, f3⟩
  · rw [f2, f3, e.1]; exact H.1
  · rw [f3]; exact e.2 H.2
theorem m_pI {h : PH} (H : OKM h) {a ci k : Nat} (e : cF SM a ci k = some 0) {v : Int32} {V : Int} (ev : v = Z3 V) (hr : r3 V) : ∃ h', pI h a ci k v = some h' ∧ OKM h' ∧ rd h' = up (rd h) a k V := by
  obtain ⟨h', e1, e2, e3⟩ := pI_rd (by rw [H]; exact e) ev hr
  exact ⟨h', e1, e2.trans H, e3⟩
theorem m_pZ {h : PH} (H : OKM h) {a ci k : Nat} (e : cF SM a ci k = some 0) {v : Int32} {V : Int} (ev : v = Z3 V) (hr : V = 0 ∨ V = 1) : ∃ h', pZ h a ci k v = some h' ∧ OKM h' ∧ rd h' = up (rd h) a k V := by
  obtain ⟨h', e1, e2, e3⟩ := pZ_rd (by rw [H]; exact e) ev hr
  exact ⟨h', e1, e2.trans H, e3⟩
theorem m_pJ {h : PH} (H : OKM h) {a ci k : Nat} (e : cF SM a ci k = some 1) {v : Int64} {V : Int} (ev : v = Z6 V) (hr : r6 V) : ∃ h', pJ h a ci k v = some h' ∧ OKM h' ∧ rd h' = up (rd h) a k V := by
  obtain ⟨h', e1, e2, e3⟩ := pJ_rd (by rw [H]; exact e) ev hr
  exact ⟨h', e1, e2.trans H, e3⟩
theorem m_sI {h : PH} (H : OKM h) {a t n : Nat} (e : cA SM a (5 * t + 1) = some n) (hd : n < 2147483648) {i : Int32} {I : Int} (hi : i = Z3 I) (c : 0 ≤ I ∧ I < (n : Int)) {x : Int32} {X : Int} (hx : x = Z3 X) (hr : r3 X) : ∃ h', sI h a t i x = some h' ∧ OKM h' ∧ rd h' = up (rd h) a I X := by
  obtain ⟨h', e1, e2, e3⟩ := sI_rd (by rw [H]; exact e) hd hi c hx hr
  exact ⟨h', e1, e2.trans H, e3⟩
theorem m_sJ {h : PH} (H : OKM h) {a n : Nat} (e : cA SM a 17 = some n) (hd : n < 2147483648) {i : Int32} {I : Int} (hi : i = Z3 I) (c : 0 ≤ I ∧ I < (n : Int)) {x : Int64} {X : Int} (hx : x = Z6 X) (hr : r6 X) : ∃ h', sJ h a i x = some h' ∧ OKM h' ∧ rd h' = up (rd h) a I X := by
  obtain ⟨h', e1, e2, e3⟩ := sJ_rd (by rw [H]; exact e) hd hi c hx hr
  exact ⟨h', e1, e2.trans H, e3⟩
/-- any row of ints of the reference -/
def AnyM (a : Nat) : Prop := ∃ n, cA SM a 1 = some n ∧ n < 2147483648
