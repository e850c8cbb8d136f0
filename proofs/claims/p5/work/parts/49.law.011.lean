section LC
variable {p : Program} {l : Launch} {e : Env} {s : State} {m : MethodId} {below : List Frame} {meth : Method} {c : Code} {b L : Nat} {xs : Nat → Int32} {D : va_G} {cy : Nat → ClassId} {H : Heap} {locs : List Loc} {ls : Array Slot}
set_option maxHeartbeats 1000000 in
theorem lc_335 (S : CallFix p m c cL_law 7 s #[Value.ref b] lw_tbl RL) (hX : va_X b L xs s s.heap) (hbl : b < s.heap.size) {hx hm : PH} {f : Nat → Int64} (I : LW D cy hx hm f s H locs) {i : Int32} (hin : IN i L) {cl sl : Nat} (hc : cl ≤ 1000 ∧ sl ≤ 20000) (hl : lv_has ls 7 (LV b s i)) (K : ∀ (hx' hm' : PH) (f' : Nat → Int64) (H' : Heap) (locs' : List Loc) (ls' : Array Slot), LW D cy hx' hm' f' s H' locs' → lv_has ls' 7 (LV b s i) → W p l e room_1 s m #[Value.ref b] below meth c H' locs' (cl + 1) (sl + 6) (lw_Z below #[Value.ref b] s) (F0 m 1526 ls' [])) : W p l e room_1 s m #[Value.ref b] below meth c H locs cl sl (lw_Z below #[Value.ref b] s) (F0 m 335 ls []) := by
  have hbA : ¬ A0 s b := Nat.not_le.mpr hbl
  have hx9 := S.1
  have hb9 := S.2.1
  obtain ⟨I1, I2, I3, L0⟩ := I
  have hS := I1.2.2.1
  obtain ⟨_, v1, v2, v3, v4, v5⟩ := hin
  obtain ⟨a, hx', hm', ex, em, L1⟩ := p_named L0 (xs (i + 1).toNatClampNeg)
  refine lv_aload_n hx9 hb9 dL_law_335 rfl (lv_at hl 1 rfl) ?_
  refine lv_aload_n hx9 hb9 dL_law_336 rfl (lv_at hl 0 rfl) ?_
  refine lv_iload hx9 hb9 dL_law_337 (lv_at hl 4 rfl) ?_
  refine lv_iconst (v := 1) hx9 hb9 dL_law_339 (by decide) ?_
  refine lv_iadd hx9 hb9 dL_law_340 ?_
  refine va_sld (A := A0 s) hx9 hb9 hX hbl hbA hS v1 dL_law_341 ?_
  refine l_Vi (As := [.int (xs (i + 1).toNatClampNeg)]) S (M11_named l D cy s.heap.size (Aw s.heap.size 110) false ex) gL_11_named rfl rfl rfl cdL_11_named ⟨Nat.le_of_ble_eq_true rfl, Nat.le_of_ble_eq_true rfl⟩ I1 (Nat.le_refl _) (x_ok L0.1).1 clX11 rfl rfl hl.1 rfl (Nat.le_of_ble_eq_true rfl) dL_law_342 ⟨Nat.le_trans (Nat.add_le_add_right hc.1 _) (Nat.le_of_ble_eq_true rfl), Nat.le_trans (Nat.add_le_add_right hc.2 _) (Nat.le_of_ble_eq_true rfl)⟩ (fun H1 locs1 J1 hk1 => ?_)
  have I2 := LM_kept I2 (A := Aw s.heap.size 110) (fun i hi z => by have := z.2; omega) hk1 J1.2.2.1
  have I3 := LM_kept I3 (A := Aw s.heap.size 110) (fun i hi z => by have := z.2; omega) hk1 J1.2.2.1
  have hS := I2.2.2.1
  refine lv_aload_n hx9 hb9 dL_law_345 rfl (lv_at hl 2 rfl) ?_
  refine lv_aload_n hx9 hb9 dL_law_346 rfl (lv_at hl 0 rfl) ?_
  refine lv_iload hx9 hb9 dL_law_347 (lv_at hl 4 rfl) ?_
  refine lv_iconst (v := 1) hx9 hb9 dL_law_349 (by decide) ?_
  refine lv_iadd hx9 hb9 dL_law_350 ?_
  refine va_sld (A := A0 s) hx9 hb9 hX hbl hbA hS v1 dL_law_351 ?_
  refine l_Vi (As := [.int (xs (i + 1).toNatClampNeg)]) S (M12_named l D cy (s.heap.size + 110) (Aw (s.heap.size + 110) 43) false em) gL_12_named rfl rfl rfl cdL_12_named ⟨Nat.le_of_ble_eq_true rfl, Nat.le_of_ble_eq_true rfl⟩ I2 (Nat.le_add_right _ _) (m_ok L0.2.1).1 clX12 rfl rfl hl.1 rfl (Nat.le_of_ble_eq_true rfl) dL_law_352 ⟨Nat.le_trans (Nat.add_le_add_right hc.1 _) (Nat.le_of_ble_eq_true rfl), Nat.le_trans (Nat.add_le_add_right hc.2 _) (Nat.le_of_ble_eq_true rfl)⟩ (fun H2 locs2 J2 hk2 => ?_)
  have J1 := LM_kept J1 (A := Aw (s.heap.size + 110) 43) (fun i hi z => by have := z.1; omega) hk2 J2.2.2.1
  have I3 := LM_kept I3 (A := Aw (s.heap.size + 110) 43) (fun i hi z => by have := z.2; omega) hk2 J2.2.2.1
  refine lv_icmp_eq (tgt := 1526) hx9 hb9 dL_law_355 (by decide) (fun _ => ?_) (fun z => absurd rfl z)
  refine W.widen (k := cl + 1) (n := sl + 6) (Nat.le_succ _) (Nat.le_add_right _ _) ?_
  exact K _ _ _ _ _ _ ⟨J1, J2, I3, L1⟩ hl
set_option maxHeartbeats 1000000 in
theorem lc_400 (S : CallFix p m c cL_law 7 s #[Value.ref b] lw_tbl RL) (hX : va_X b L xs s s.heap) (hbl : b < s.heap.size) {hx hm : PH} {f : Nat → Int64} (I : LW D cy hx hm f s H locs) {i : Int32} (hin : IN i L) {cl sl : Nat} (hc : cl ≤ 1000 ∧ sl ≤ 20000) (hl : lv_has ls 7 (LV b s i)) (K : ∀ (hx' hm' : PH) (f' : Nat → Int64) (H' : Heap) (locs' : List Loc) (ls' : Array Slot), LW D cy hx' hm' f' s H' locs' → lv_has ls' 7 (LV b s i) → W p l e room_1 s m #[Value.ref b] below meth c H' locs' (cl + 1) (sl + 6) (lw_Z below #[Value.ref b] s) (F0 m 1526 ls' [])) : W p l e room_1 s m #[Value.ref b] below meth c H locs cl sl (lw_Z below #[Value.ref b] s) (F0 m 400 ls []) := by
  have hbA : ¬ A0 s b := Nat.not_le.mpr hbl
  have hx9 := S.1
  have hb9 := S.2.1
  obtain ⟨I1, I2, I3, L0⟩ := I
  have hS := I1.2.2.1
  obtain ⟨_, v1, v2, v3, v4, v5⟩ := hin
  obtain ⟨a, hx', hm', ex, em, L1⟩ := p_wave L0 (xs (i + 1).toNatClampNeg) (xs (i + 2).toNatClampNeg)
  refine lv_aload_n hx9 hb9 dL_law_400 rfl (lv_at hl 1 rfl) ?_
  refine lv_aload_n hx9 hb9 dL_law_401 rfl (lv_at hl 0 rfl) ?_
  refine lv_iload hx9 hb9 dL_law_402 (lv_at hl 4 rfl) ?_
  refine lv_iconst (v := 1) hx9 hb9 dL_law_404 (by decide) ?_
  refine lv_iadd hx9 hb9 dL_law_405 ?_
  refine va_sld (A := A0 s) hx9 hb9 hX hbl hbA hS v1 dL_law_406 ?_
  refine lv_aload_n hx9 hb9 dL_law_407 rfl (lv_at hl 0 rfl) ?_
  refine lv_iload hx9 hb9 dL_law_408 (lv_at hl 4 rfl) ?_
  refine lv_iconst (v := 2) hx9 hb9 dL_law_410 (by decide) ?_
  refine lv_iadd hx9 hb9 dL_law_411 ?_
  refine va_sld (A := A0 s) hx9 hb9 hX hbl hbA hS v2 dL_law_412 ?_
  refine l_Vi (As := [.int (xs (i + 1).toNatClampNeg), .int (xs (i + 2).toNatClampNeg)]) S (M11_wave l D cy s.heap.size (Aw s.heap.size 110) false ex) gL_11_wave rfl rfl rfl cdL_11_wave ⟨Nat.le_of_ble_eq_true rfl, Nat.le_of_ble_eq_true rfl⟩ I1 (Nat.le_refl _) (x_ok L0.1).1 clX11 rfl rfl hl.1 rfl (Nat.le_of_ble_eq_true rfl) dL_law_413 ⟨Nat.le_trans (Nat.add_le_add_right hc.1 _) (Nat.le_of_ble_eq_true rfl), Nat.le_trans (Nat.add_le_add_right hc.2 _) (Nat.le_of_ble_eq_true rfl)⟩ (fun H1 locs1 J1 hk1 => ?_)
  have I2 := LM_kept I2 (A := Aw s.heap.size 110) (fun i hi z => by have := z.2; omega) hk1 J1.2.2.1
  have I3 := LM_kept I3 (A := Aw s.heap.size 110) (fun i hi z => by have := z.2; omega) hk1 J1.2.2.1
  have hS := I2.2.2.1
  refine lv_pop hx9 hb9 dL_law_416 rfl ?_
  refine lv_aload_n hx9 hb9 dL_law_417 rfl (lv_at hl 2 rfl) ?_
  refine lv_aload_n hx9 hb9 dL_law_418 rfl (lv_at hl 0 rfl) ?_
  refine lv_iload hx9 hb9 dL_law_419 (lv_at hl 4 rfl) ?_
  refine lv_iconst (v := 1) hx9 hb9 dL_law_421 (by decide) ?_
  refine lv_iadd hx9 hb9 dL_law_422 ?_
  refine va_sld (A := A0 s) hx9 hb9 hX hbl hbA hS v1 dL_law_423 ?_
  refine lv_aload_n hx9 hb9 dL_law_424 rfl (lv_at hl 0 rfl) ?_
  refine lv_iload hx9 hb9 dL_law_425 (lv_at hl 4 rfl) ?_
  refine lv_iconst (v := 2) hx9 hb9 dL_law_427 (by decide) ?_
  refine lv_iadd hx9 hb9 dL_law_428 ?_
  refine va_sld (A := A0 s) hx9 hb9 hX hbl hbA hS v2 dL_law_429 ?_
  refine l_Vi (As := [.int (xs (i + 1).toNatClampNeg), .int (xs (i + 2).toNatClampNeg)]) S (M12_wave l D cy (s.heap.size + 110) (Aw (s.heap.size + 110) 43) false em) gL_12_wave rfl rfl rfl cdL_12_wave ⟨Nat.le_of_ble_eq_true rfl, Nat.le_of_ble_eq_true rfl⟩ I2 (Nat.le_add_right _ _) (m_ok L0.2.1).1 clX12 rfl rfl hl.1 rfl (Nat.le_of_ble_eq_true rfl) dL_law_430 ⟨Nat.le_trans (Nat.add_le_add_right hc.1 _) (Nat.le_of_ble_eq_true rfl), Nat.le_trans (Nat.add_le_add_right hc.2 _) (Nat.le_of_ble_eq_true rfl)⟩ (fun H2 locs2 J2 hk2 => ?_)
  have J1 := LM_kept J1 (A := Aw (s.heap.size + 110) 43) (fun i hi z => by have := z.1; omega) hk2 J2.2.2.1
  have I3 := LM_kept I3 (A := Aw (s.heap.size + 110) 43) (fun i hi z => by have := z.2; omega) hk2 J2.2.2.1
  refine lv_pop hx9 hb9 dL_law_433 rfl ?_
  refine lv_goto (tgt := 1526) hx9 hb9 dL_law_434 (by decide) ?_
  refine W.widen (k := cl + 1) (n := sl + 6) (Nat.le_succ _) (Nat.le_add_right _ _) ?_
  exact K _ _ _ _ _ _ ⟨J1, J2, I3, L1⟩ hl
set_option maxHeartbeats 1000000 in
theorem lc_437 (S : CallFix p m c cL_law 7 s #[Value.ref b] lw_tbl RL) (hX : va_X b L xs s s.heap) (hbl : b < s.heap.size) {hx hm : PH} {f : Nat → Int64} (I : LW D cy hx hm f s H locs) {i : Int32} (hin : IN i L) {cl sl : Nat} (hc : cl ≤ 1000 ∧ sl ≤ 20000) (hl : lv_has ls 7 (LV b s i)) (K : ∀ (hx' hm' : PH) (f' : Nat → Int64) (H' : Heap) (locs' : List Loc) (ls' : Array Slot), LW D cy hx' hm' f' s H' locs' → lv_has ls' 7 (LV b s i) → W p l e room_1 s m #[Value.ref b] below meth c H' locs' (cl + 1) (sl + 6) (lw_Z below #[Value.ref b] s) (F0 m 1526 ls' [])) : W p l e room_1 s m #[Value.ref b] below meth c H locs cl sl (lw_Z below #[Value.ref b] s) (F0 m 437 ls []) := by
  have hbA : ¬ A0 s b := Nat.not_le.mpr hbl
  have hx9 := S.1
  have hb9 := S.2.1
  obtain ⟨I1, I2, I3, L0⟩ := I
  have hS := I1.2.2.1
  obtain ⟨_, v1, v2, v3, v4, v5⟩ := hin
  obtain ⟨a, hx', hm', ex, em, L1⟩ := p_peak L0 (xs (i + 1).toNatClampNeg)
  refine lv_aload_n hx9 hb9 dL_law_437 rfl (lv_at hl 1 rfl) ?_
  refine lv_aload_n hx9 hb9 dL_law_438 rfl (lv_at hl 0 rfl) ?_
  refine lv_iload hx9 hb9 dL_law_439 (lv_at hl 4 rfl) ?_
  refine lv_iconst (v := 1) hx9 hb9 dL_law_441 (by decide) ?_
  refine lv_iadd hx9 hb9 dL_law_442 ?_
  refine va_sld (A := A0 s) hx9 hb9 hX hbl hbA hS v1 dL_law_443 ?_
  refine l_Vi (As := [.int (xs (i + 1).toNatClampNeg)]) S (M11_peak l D cy s.heap.size (Aw s.heap.size 110) false ex) gL_11_peak rfl rfl rfl cdL_11_peak ⟨Nat.le_of_ble_eq_true rfl, Nat.le_of_ble_eq_true rfl⟩ I1 (Nat.le_refl _) (x_ok L0.1).1 clX11 rfl rfl hl.1 rfl (Nat.le_of_ble_eq_true rfl) dL_law_444 ⟨Nat.le_trans (Nat.add_le_add_right hc.1 _) (Nat.le_of_ble_eq_true rfl), Nat.le_trans (Nat.add_le_add_right hc.2 _) (Nat.le_of_ble_eq_true rfl)⟩ (fun H1 locs1 J1 hk1 => ?_)
  have I2 := LM_kept I2 (A := Aw s.heap.size 110) (fun i hi z => by have := z.2; omega) hk1 J1.2.2.1
  have I3 := LM_kept I3 (A := Aw s.heap.size 110) (fun i hi z => by have := z.2; omega) hk1 J1.2.2.1
  have hS := I2.2.2.1
  refine lv_pop hx9 hb9 dL_law_447 rfl ?_
  refine lv_aload_n hx9 hb9 dL_law_448 rfl (lv_at hl 2 rfl) ?_
  refine lv_aload_n hx9 hb9 dL_law_449 rfl (lv_at hl 0 rfl) ?_
  refine lv_iload hx9 hb9 dL_law_450 (lv_at hl 4 rfl) ?_
  refine lv_iconst (v := 1) hx9 hb9 dL_law_452 (by decide) ?_
  refine lv_iadd hx9 hb9 dL_law_453 ?_
  refine va_sld (A := A0 s) hx9 hb9 hX hbl hbA hS v1 dL_law_454 ?_
  refine l_Vi (As := [.int (xs (i + 1).toNatClampNeg)]) S (M12_peak l D cy (s.heap.size + 110) (Aw (s.heap.size + 110) 43) false em) gL_12_peak rfl rfl rfl cdL_12_peak ⟨Nat.le_of_ble_eq_true rfl, Nat.le_of_ble_eq_true rfl⟩ I2 (Nat.le_add_right _ _) (m_ok L0.2.1).1 clX12 rfl rfl hl.1 rfl (Nat.le_of_ble_eq_true rfl) dL_law_455 ⟨Nat.le_trans (Nat.add_le_add_right hc.1 _) (Nat.le_of_ble_eq_true rfl), Nat.le_trans (Nat.add_le_add_right hc.2 _) (Nat.le_of_ble_eq_true rfl)⟩ (fun H2 locs2 J2 hk2 => ?_)
  have J1 := LM_kept J1 (A := Aw (s.heap.size + 110) 43) (fun i hi z => by have := z.1; omega) hk2 J2.2.2.1
  have I3 := LM_kept I3 (A := Aw (s.heap.size + 110) 43) (fun i hi z => by have := z.2; omega) hk2 J2.2.2.1
  refine lv_pop hx9 hb9 dL_law_458 rfl ?_
  refine lv_goto (tgt := 1526) hx9 hb9 dL_law_459 (by decide) ?_
  refine W.widen (k := cl + 1) (n := sl + 6) (Nat.le_succ _) (Nat.le_add_right _ _) ?_
  exact K _ _ _ _ _ _ ⟨J1, J2, I3, L1⟩ hl
set_option maxHeartbeats 1000000 in
theorem lc_462 (S : CallFix p m c cL_law 7 s #[Value.ref b] lw_tbl RL) (hX : va_X b L xs s s.heap) (hbl : b < s.heap.size) {hx hm : PH} {f : Nat → Int64} (I : LW D cy hx hm f s H locs) {i : Int32} (hin : IN i L) {cl sl : Nat} (hc : cl ≤ 1000 ∧ sl ≤ 20000) (hl : lv_has ls 7 (LV b s i)) (K : ∀ (hx' hm' : PH) (f' : Nat → Int64) (H' : Heap) (locs' : List Loc) (ls' : Array Slot), LW D cy hx' hm' f' s H' locs' → lv_has ls' 7 (LV b s i) → W p l e room_1 s m #[Value.ref b] below meth c H' locs' (cl + 1) (sl + 6) (lw_Z below #[Value.ref b] s) (F0 m 1526 ls' [])) : W p l e room_1 s m #[Value.ref b] below meth c H locs cl sl (lw_Z below #[Value.ref b] s) (F0 m 462 ls []) := by
  have hbA : ¬ A0 s b := Nat.not_le.mpr hbl
  have hx9 := S.1
  have hb9 := S.2.1
  obtain ⟨I1, I2, I3, L0⟩ := I
  have hS := I1.2.2.1
  obtain ⟨_, v1, v2, v3, v4, v5⟩ := hin
  obtain ⟨a, hx', hm', ex, em, L1⟩ := p_odds L0 (xs (i + 1).toNatClampNeg) (xs (i + 2).toNatClampNeg) (xs (i + 3).toNatClampNeg)
  refine lv_aload_n hx9 hb9 dL_law_462 rfl (lv_at hl 1 rfl) ?_
  refine lv_aload_n hx9 hb9 dL_law_463 rfl (lv_at hl 0 rfl) ?_
  refine lv_iload hx9 hb9 dL_law_464 (lv_at hl 4 rfl) ?_
  refine lv_iconst (v := 1) hx9 hb9 dL_law_466 (by decide) ?_
  refine lv_iadd hx9 hb9 dL_law_467 ?_
  refine va_sld (A := A0 s) hx9 hb9 hX hbl hbA hS v1 dL_law_468 ?_
  refine lv_aload_n hx9 hb9 dL_law_469 rfl (lv_at hl 0 rfl) ?_
  refine lv_iload hx9 hb9 dL_law_470 (lv_at hl 4 rfl) ?_
  refine lv_iconst (v := 2) hx9 hb9 dL_law_472 (by decide) ?_
  refine lv_iadd hx9 hb9 dL_law_473 ?_
  refine va_sld (A := A0 s) hx9 hb9 hX hbl hbA hS v2 dL_law_474 ?_
  refine lv_aload_n hx9 hb9 dL_law_475 rfl (lv_at hl 0 rfl) ?_
  refine lv_iload hx9 hb9 dL_law_476 (lv_at hl 4 rfl) ?_
  refine lv_iconst (v := 3) hx9 hb9 dL_law_478 (by decide) ?_
  refine lv_iadd hx9 hb9 dL_law_479 ?_
  refine va_sld (A := A0 s) hx9 hb9 hX hbl hbA hS v3 dL_law_480 ?_
  refine l_Vi (As := [.int (xs (i + 1).toNatClampNeg), .int (xs (i + 2).toNatClampNeg), .int (xs (i + 3).toNatClampNeg)]) S (M11_odds l D cy s.heap.size (Aw s.heap.size 110) false ex) gL_11_odds rfl rfl rfl cdL_11_odds ⟨Nat.le_of_ble_eq_true rfl, Nat.le_of_ble_eq_true rfl⟩ I1 (Nat.le_refl _) (x_ok L0.1).1 clX11 rfl rfl hl.1 rfl (Nat.le_of_ble_eq_true rfl) dL_law_481 ⟨Nat.le_trans (Nat.add_le_add_right hc.1 _) (Nat.le_of_ble_eq_true rfl), Nat.le_trans (Nat.add_le_add_right hc.2 _) (Nat.le_of_ble_eq_true rfl)⟩ (fun H1 locs1 J1 hk1 => ?_)
  have I2 := LM_kept I2 (A := Aw s.heap.size 110) (fun i hi z => by have := z.2; omega) hk1 J1.2.2.1
  have I3 := LM_kept I3 (A := Aw s.heap.size 110) (fun i hi z => by have := z.2; omega) hk1 J1.2.2.1
  have hS := I2.2.2.1
  refine lv_pop hx9 hb9 dL_law_484 rfl ?_
  refine lv_aload_n hx9 hb9 dL_law_485 rfl (lv_at hl 2 rfl) ?_
  refine lv_aload_n hx9 hb9 dL_law_486 rfl (lv_at hl 0 rfl) ?_
  refine lv_iload hx9 hb9 dL_law_487 (lv_at hl 4 rfl) ?_
  refine lv_iconst (v := 1) hx9 hb9 dL_law_489 (by decide) ?_
  refine lv_iadd hx9 hb9 dL_law_490 ?_
  refine va_sld (A := A0 s) hx9 hb9 hX hbl hbA hS v1 dL_law_491 ?_
  refine lv_aload_n hx9 hb9 dL_law_492 rfl (lv_at hl 0 rfl) ?_
  refine lv_iload hx9 hb9 dL_law_493 (lv_at hl 4 rfl) ?_
  refine lv_iconst (v := 2) hx9 hb9 dL_law_495 (by decide) ?_
  refine lv_iadd hx9 hb9 dL_law_496 ?_
  refine va_sld (A := A0 s) hx9 hb9 hX hbl hbA hS v2 dL_law_497 ?_
  refine lv_aload_n hx9 hb9 dL_law_498 rfl (lv_at hl 0 rfl) ?_
  refine lv_iload hx9 hb9 dL_law_499 (lv_at hl 4 rfl) ?_
  refine lv_iconst (v := 3) hx9 hb9 dL_law_501 (by decide) ?_
  refine lv_iadd hx9 hb9 dL_law_502 ?_
  refine va_sld (A := A0 s) hx9 hb9 hX hbl hbA hS v3 dL_law_503 ?_
  refine l_Vi (As := [.int (xs (i + 1).toNatClampNeg), .int (xs (i + 2).toNatClampNeg), .int (xs (i + 3).toNatClampNeg)]) S (M12_odds l D cy (s.heap.size + 110) (Aw (s.heap.size + 110) 43) false em) gL_12_odds rfl rfl rfl cdL_12_odds ⟨Nat.le_of_ble_eq_true rfl, Nat.le_of_ble_eq_true rfl⟩ I2 (Nat.le_add_right _ _) (m_ok L0.2.1).1 clX12 rfl rfl hl.1 rfl (Nat.le_of_ble_eq_true rfl) dL_law_504 ⟨Nat.le_trans (Nat.add_le_add_right hc.1 _) (Nat.le_of_ble_eq_true rfl), Nat.le_trans (Nat.add_le_add_right hc.2 _) (Nat.le_of_ble_eq_true rfl)⟩ (fun H2 locs2 J2 hk2 => ?_)
  have J1 := LM_kept J1 (A := Aw (s.heap.size + 110) 43) (fun i hi z => by have := z.1; omega) hk2 J2.2.2.1
  have I3 := LM_kept I3 (A := Aw (s.heap.size + 110) 43) (fun i hi z => by have := z.2; omega) hk2 J2.2.2.1
  refine lv_pop hx9 hb9 dL_law_507 rfl ?_
  refine lv_goto (tgt := 1526) hx9 hb9 dL_law_508 (by decide) ?_
  refine W.widen (k := cl + 1) (n := sl + 6) (Nat.le_succ _) (Nat.le_add_right _ _) ?_
  exact K _ _ _ _ _ _ ⟨J1, J2, I3, L1⟩ hl
end LC
