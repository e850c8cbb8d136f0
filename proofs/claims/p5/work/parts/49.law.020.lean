section LC
variable {p : Program} {l : Launch} {e : Env} {s : State} {m : MethodId} {below : List Frame} {meth : Method} {c : Code} {b L : Nat} {xs : Nat → Int32} {D : va_G} {cy : Nat → ClassId} {H : Heap} {locs : List Loc} {ls : Array Slot}
set_option maxHeartbeats 1000000 in
theorem lc_1488 (S : CallFix p m c cL_law 7 s #[Value.ref b] lw_tbl RL) (hX : va_X b L xs s s.heap) (hbl : b < s.heap.size) {hx hm : PH} {f : Nat → Int64} (I : LW D cy hx hm f s H locs) {i : Int32} (hin : IN i L) {cl sl : Nat} (hc : cl ≤ 1000 ∧ sl ≤ 20000) (hl : lv_has ls 7 (LV b s i)) (K : ∀ (hx' hm' : PH) (f' : Nat → Int64) (H' : Heap) (locs' : List Loc) (ls' : Array Slot), LW D cy hx' hm' f' s H' locs' → lv_has ls' 7 (LV b s i) → W p l e room_1 s m #[Value.ref b] below meth c H' locs' (cl + 1) (sl + 6) (lw_Z below #[Value.ref b] s) (F0 m 1526 ls' [])) : W p l e room_1 s m #[Value.ref b] below meth c H locs cl sl (lw_Z below #[Value.ref b] s) (F0 m 1488 ls []) := by
  have hbA : ¬ A0 s b := Nat.not_le.mpr hbl
  have hx9 := S.1
  have hb9 := S.2.1
  obtain ⟨I1, I2, I3, L0⟩ := I
  have hS := I1.2.2.1
  obtain ⟨_, v1, v2, v3, v4, v5⟩ := hin
  obtain ⟨a, hx', hm', ex, em, L1⟩ := p_back L0 
  refine lv_aload_n hx9 hb9 dL_law_1488 rfl (lv_at hl 1 rfl) ?_
  refine l_Vi (As := []) S (M11_back l D cy s.heap.size (Aw s.heap.size 110) ex) gL_11_back rfl rfl rfl cdL_11_back ⟨Nat.le_of_ble_eq_true rfl, Nat.le_of_ble_eq_true rfl⟩ I1 (Nat.le_refl _) (x_ok L0.1).1 clX11 rfl rfl hl.1 rfl (Nat.le_of_ble_eq_true rfl) dL_law_1489 ⟨Nat.le_trans (Nat.add_le_add_right hc.1 _) (Nat.le_of_ble_eq_true rfl), Nat.le_trans (Nat.add_le_add_right hc.2 _) (Nat.le_of_ble_eq_true rfl)⟩ (fun H1 locs1 J1 hk1 => ?_)
  have I2 := LM_kept I2 (A := Aw s.heap.size 110) (fun i hi z => by have := z.2; omega) hk1 J1.2.2.1
  have I3 := LM_kept I3 (A := Aw s.heap.size 110) (fun i hi z => by have := z.2; omega) hk1 J1.2.2.1
  have hS := I2.2.2.1
  refine lv_pop hx9 hb9 dL_law_1492 rfl ?_
  refine lv_aload_n hx9 hb9 dL_law_1493 rfl (lv_at hl 2 rfl) ?_
  refine l_Vi (As := []) S (M12_back l D cy (s.heap.size + 110) (Aw (s.heap.size + 110) 43) false em) gL_12_back rfl rfl rfl cdL_12_back ⟨Nat.le_of_ble_eq_true rfl, Nat.le_of_ble_eq_true rfl⟩ I2 (Nat.le_add_right _ _) (m_ok L0.2.1).1 clX12 rfl rfl hl.1 rfl (Nat.le_of_ble_eq_true rfl) dL_law_1494 ⟨Nat.le_trans (Nat.add_le_add_right hc.1 _) (Nat.le_of_ble_eq_true rfl), Nat.le_trans (Nat.add_le_add_right hc.2 _) (Nat.le_of_ble_eq_true rfl)⟩ (fun H2 locs2 J2 hk2 => ?_)
  have J1 := LM_kept J1 (A := Aw (s.heap.size + 110) 43) (fun i hi z => by have := z.1; omega) hk2 J2.2.2.1
  have I3 := LM_kept I3 (A := Aw (s.heap.size + 110) 43) (fun i hi z => by have := z.2; omega) hk2 J2.2.2.1
  refine lv_pop hx9 hb9 dL_law_1497 rfl ?_
  refine lv_goto (tgt := 1526) hx9 hb9 dL_law_1498 (by decide) ?_
  refine W.widen (k := cl + 1) (n := sl + 6) (Nat.le_succ _) (Nat.le_add_right _ _) ?_
  exact K _ _ _ _ _ _ ⟨J1, J2, I3, L1⟩ hl
set_option maxHeartbeats 1000000 in
theorem lc_1501 (S : CallFix p m c cL_law 7 s #[Value.ref b] lw_tbl RL) (hX : va_X b L xs s s.heap) (hbl : b < s.heap.size) {hx hm : PH} {f : Nat → Int64} (I : LW D cy hx hm f s H locs) {i : Int32} (hin : IN i L) {cl sl : Nat} (hc : cl ≤ 1000 ∧ sl ≤ 20000) (hl : lv_has ls 7 (LV b s i)) (K : ∀ (hx' hm' : PH) (f' : Nat → Int64) (H' : Heap) (locs' : List Loc) (ls' : Array Slot), LW D cy hx' hm' f' s H' locs' → lv_has ls' 7 (LV b s i) → W p l e room_1 s m #[Value.ref b] below meth c H' locs' (cl + 1) (sl + 6) (lw_Z below #[Value.ref b] s) (F0 m 1526 ls' [])) : W p l e room_1 s m #[Value.ref b] below meth c H locs cl sl (lw_Z below #[Value.ref b] s) (F0 m 1501 ls []) := by
  have hbA : ¬ A0 s b := Nat.not_le.mpr hbl
  have hx9 := S.1
  have hb9 := S.2.1
  obtain ⟨I1, I2, I3, L0⟩ := I
  have hS := I1.2.2.1
  obtain ⟨_, v1, v2, v3, v4, v5⟩ := hin
  obtain ⟨a, hx', hm', ex, em, L1⟩ := p_count L0 (xs (i + 1).toNatClampNeg)
  refine lv_aload_n hx9 hb9 dL_law_1501 rfl (lv_at hl 1 rfl) ?_
  refine lv_aload_n hx9 hb9 dL_law_1502 rfl (lv_at hl 0 rfl) ?_
  refine lv_iload hx9 hb9 dL_law_1503 (lv_at hl 4 rfl) ?_
  refine lv_iconst (v := 1) hx9 hb9 dL_law_1505 (by decide) ?_
  refine lv_iadd hx9 hb9 dL_law_1506 ?_
  refine va_sld (A := A0 s) hx9 hb9 hX hbl hbA hS v1 dL_law_1507 ?_
  refine l_Vi (As := [.int (xs (i + 1).toNatClampNeg)]) S (M11_count l D cy s.heap.size (Aw s.heap.size 110) false ex) gL_11_count rfl rfl rfl cdL_11_count ⟨Nat.le_of_ble_eq_true rfl, Nat.le_of_ble_eq_true rfl⟩ I1 (Nat.le_refl _) (x_ok L0.1).1 clX11 rfl rfl hl.1 rfl (Nat.le_of_ble_eq_true rfl) dL_law_1508 ⟨Nat.le_trans (Nat.add_le_add_right hc.1 _) (Nat.le_of_ble_eq_true rfl), Nat.le_trans (Nat.add_le_add_right hc.2 _) (Nat.le_of_ble_eq_true rfl)⟩ (fun H1 locs1 J1 hk1 => ?_)
  have I2 := LM_kept I2 (A := Aw s.heap.size 110) (fun i hi z => by have := z.2; omega) hk1 J1.2.2.1
  have I3 := LM_kept I3 (A := Aw s.heap.size 110) (fun i hi z => by have := z.2; omega) hk1 J1.2.2.1
  have hS := I2.2.2.1
  refine lv_pop hx9 hb9 dL_law_1511 rfl ?_
  refine lv_aload_n hx9 hb9 dL_law_1512 rfl (lv_at hl 2 rfl) ?_
  refine lv_aload_n hx9 hb9 dL_law_1513 rfl (lv_at hl 0 rfl) ?_
  refine lv_iload hx9 hb9 dL_law_1514 (lv_at hl 4 rfl) ?_
  refine lv_iconst (v := 1) hx9 hb9 dL_law_1516 (by decide) ?_
  refine lv_iadd hx9 hb9 dL_law_1517 ?_
  refine va_sld (A := A0 s) hx9 hb9 hX hbl hbA hS v1 dL_law_1518 ?_
  refine l_Vi (As := [.int (xs (i + 1).toNatClampNeg)]) S (M12_count l D cy (s.heap.size + 110) (Aw (s.heap.size + 110) 43) false em) gL_12_count rfl rfl rfl cdL_12_count ⟨Nat.le_of_ble_eq_true rfl, Nat.le_of_ble_eq_true rfl⟩ I2 (Nat.le_add_right _ _) (m_ok L0.2.1).1 clX12 rfl rfl hl.1 rfl (Nat.le_of_ble_eq_true rfl) dL_law_1519 ⟨Nat.le_trans (Nat.add_le_add_right hc.1 _) (Nat.le_of_ble_eq_true rfl), Nat.le_trans (Nat.add_le_add_right hc.2 _) (Nat.le_of_ble_eq_true rfl)⟩ (fun H2 locs2 J2 hk2 => ?_)
  have J1 := LM_kept J1 (A := Aw (s.heap.size + 110) 43) (fun i hi z => by have := z.1; omega) hk2 J2.2.2.1
  have I3 := LM_kept I3 (A := Aw (s.heap.size + 110) 43) (fun i hi z => by have := z.2; omega) hk2 J2.2.2.1
  refine lv_pop hx9 hb9 dL_law_1522 rfl ?_
  refine lv_goto (tgt := 1526) hx9 hb9 dL_law_1523 (by decide) ?_
  refine W.widen (k := cl + 1) (n := sl + 6) (Nat.le_succ _) (Nat.le_add_right _ _) ?_
  exact K _ _ _ _ _ _ ⟨J1, J2, I3, L1⟩ hl
end LC
