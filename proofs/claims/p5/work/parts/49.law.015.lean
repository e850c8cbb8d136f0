section LC
variable {p : Program} {l : Launch} {e : Env} {s : State} {m : MethodId} {below : List Frame} {meth : Method} {c : Code} {b L : Nat} {xs : Nat → Int32} {D : va_G} {cy : Nat → ClassId} {H : Heap} {locs : List Loc} {ls : Array Slot}
set_option maxHeartbeats 1000000 in
theorem lc_906 (S : CallFix p m c cL_law 7 s #[Value.ref b] lw_tbl RL) (hX : va_X b L xs s s.heap) (hbl : b < s.heap.size) {hx hm : PH} {f : Nat → Int64} (I : LW D cy hx hm f s H locs) {i : Int32} (hin : IN i L) {cl sl : Nat} (hc : cl ≤ 1000 ∧ sl ≤ 20000) (hl : lv_has ls 7 (LV b s i)) (K : ∀ (hx' hm' : PH) (f' : Nat → Int64) (H' : Heap) (locs' : List Loc) (ls' : Array Slot), LW D cy hx' hm' f' s H' locs' → lv_has ls' 7 (LV b s i) → W p l e room_1 s m #[Value.ref b] below meth c H' locs' (cl + 1) (sl + 6) (lw_Z below #[Value.ref b] s) (F0 m 1526 ls' [])) : W p l e room_1 s m #[Value.ref b] below meth c H locs cl sl (lw_Z below #[Value.ref b] s) (F0 m 906 ls []) := by
  have hbA : ¬ A0 s b := Nat.not_le.mpr hbl
  have hx9 := S.1
  have hb9 := S.2.1
  obtain ⟨I1, I2, I3, L0⟩ := I
  have hS := I1.2.2.1
  obtain ⟨_, v1, v2, v3, v4, v5⟩ := hin
  obtain ⟨a, hx', hm', ex, em, L1⟩ := p_plan L0 (xs (i + 1).toNatClampNeg)
  refine lv_aload_n hx9 hb9 dL_law_906 rfl (lv_at hl 1 rfl) ?_
  refine lv_aload_n hx9 hb9 dL_law_907 rfl (lv_at hl 0 rfl) ?_
  refine lv_iload hx9 hb9 dL_law_908 (lv_at hl 4 rfl) ?_
  refine lv_iconst (v := 1) hx9 hb9 dL_law_910 (by decide) ?_
  refine lv_iadd hx9 hb9 dL_law_911 ?_
  refine va_sld (A := A0 s) hx9 hb9 hX hbl hbA hS v1 dL_law_912 ?_
  refine l_Vi (As := [.int (xs (i + 1).toNatClampNeg)]) S (M11_plan l D cy s.heap.size (Aw s.heap.size 110) false ex) gL_11_plan rfl rfl rfl cdL_11_plan ⟨Nat.le_of_ble_eq_true rfl, Nat.le_of_ble_eq_true rfl⟩ I1 (Nat.le_refl _) (x_ok L0.1).1 clX11 rfl rfl hl.1 rfl (Nat.le_of_ble_eq_true rfl) dL_law_913 ⟨Nat.le_trans (Nat.add_le_add_right hc.1 _) (Nat.le_of_ble_eq_true rfl), Nat.le_trans (Nat.add_le_add_right hc.2 _) (Nat.le_of_ble_eq_true rfl)⟩ (fun H1 locs1 J1 hk1 => ?_)
  have I2 := LM_kept I2 (A := Aw s.heap.size 110) (fun i hi z => by have := z.2; omega) hk1 J1.2.2.1
  have I3 := LM_kept I3 (A := Aw s.heap.size 110) (fun i hi z => by have := z.2; omega) hk1 J1.2.2.1
  have hS := I2.2.2.1
  refine lv_pop hx9 hb9 dL_law_916 rfl ?_
  refine lv_aload_n hx9 hb9 dL_law_917 rfl (lv_at hl 2 rfl) ?_
  refine lv_aload_n hx9 hb9 dL_law_918 rfl (lv_at hl 0 rfl) ?_
  refine lv_iload hx9 hb9 dL_law_919 (lv_at hl 4 rfl) ?_
  refine lv_iconst (v := 1) hx9 hb9 dL_law_921 (by decide) ?_
  refine lv_iadd hx9 hb9 dL_law_922 ?_
  refine va_sld (A := A0 s) hx9 hb9 hX hbl hbA hS v1 dL_law_923 ?_
  refine l_Vi (As := [.int (xs (i + 1).toNatClampNeg)]) S (M12_plan l D cy (s.heap.size + 110) (Aw (s.heap.size + 110) 43) false em) gL_12_plan rfl rfl rfl cdL_12_plan ⟨Nat.le_of_ble_eq_true rfl, Nat.le_of_ble_eq_true rfl⟩ I2 (Nat.le_add_right _ _) (m_ok L0.2.1).1 clX12 rfl rfl hl.1 rfl (Nat.le_of_ble_eq_true rfl) dL_law_924 ⟨Nat.le_trans (Nat.add_le_add_right hc.1 _) (Nat.le_of_ble_eq_true rfl), Nat.le_trans (Nat.add_le_add_right hc.2 _) (Nat.le_of_ble_eq_true rfl)⟩ (fun H2 locs2 J2 hk2 => ?_)
  have J1 := LM_kept J1 (A := Aw (s.heap.size + 110) 43) (fun i hi z => by have := z.1; omega) hk2 J2.2.2.1
  have I3 := LM_kept I3 (A := Aw (s.heap.size + 110) 43) (fun i hi z => by have := z.2; omega) hk2 J2.2.2.1
  refine lv_pop hx9 hb9 dL_law_927 rfl ?_
  refine lv_goto (tgt := 1526) hx9 hb9 dL_law_928 (by decide) ?_
  refine W.widen (k := cl + 1) (n := sl + 6) (Nat.le_succ _) (Nat.le_add_right _ _) ?_
  exact K _ _ _ _ _ _ ⟨J1, J2, I3, L1⟩ hl
set_option maxHeartbeats 1000000 in
theorem lc_931 (S : CallFix p m c cL_law 7 s #[Value.ref b] lw_tbl RL) (hX : va_X b L xs s s.heap) (hbl : b < s.heap.size) {hx hm : PH} {f : Nat → Int64} (I : LW D cy hx hm f s H locs) {i : Int32} (hin : IN i L) {cl sl : Nat} (hc : cl ≤ 1000 ∧ sl ≤ 20000) (hl : lv_has ls 7 (LV b s i)) (K : ∀ (hx' hm' : PH) (f' : Nat → Int64) (H' : Heap) (locs' : List Loc) (ls' : Array Slot), LW D cy hx' hm' f' s H' locs' → lv_has ls' 7 (LV b s i) → W p l e room_1 s m #[Value.ref b] below meth c H' locs' (cl + 1) (sl + 6) (lw_Z below #[Value.ref b] s) (F0 m 1526 ls' [])) : W p l e room_1 s m #[Value.ref b] below meth c H locs cl sl (lw_Z below #[Value.ref b] s) (F0 m 931 ls []) := by
  have hbA : ¬ A0 s b := Nat.not_le.mpr hbl
  have hx9 := S.1
  have hb9 := S.2.1
  obtain ⟨I1, I2, I3, L0⟩ := I
  have hS := I1.2.2.1
  obtain ⟨_, v1, v2, v3, v4, v5⟩ := hin
  obtain ⟨a, hx', hm', ex, em, L1⟩ := p_planned L0 (xs (i + 1).toNatClampNeg) (xs (i + 2).toNatClampNeg)
  refine lv_aload_n hx9 hb9 dL_law_931 rfl (lv_at hl 1 rfl) ?_
  refine lv_aload_n hx9 hb9 dL_law_932 rfl (lv_at hl 0 rfl) ?_
  refine lv_iload hx9 hb9 dL_law_933 (lv_at hl 4 rfl) ?_
  refine lv_iconst (v := 1) hx9 hb9 dL_law_935 (by decide) ?_
  refine lv_iadd hx9 hb9 dL_law_936 ?_
  refine va_sld (A := A0 s) hx9 hb9 hX hbl hbA hS v1 dL_law_937 ?_
  refine lv_aload_n hx9 hb9 dL_law_938 rfl (lv_at hl 0 rfl) ?_
  refine lv_iload hx9 hb9 dL_law_939 (lv_at hl 4 rfl) ?_
  refine lv_iconst (v := 2) hx9 hb9 dL_law_941 (by decide) ?_
  refine lv_iadd hx9 hb9 dL_law_942 ?_
  refine va_sld (A := A0 s) hx9 hb9 hX hbl hbA hS v2 dL_law_943 ?_
  refine l_Vi (As := [.int (xs (i + 1).toNatClampNeg), .int (xs (i + 2).toNatClampNeg)]) S (M11_planned l D cy s.heap.size (Aw s.heap.size 110) false ex) gL_11_planned rfl rfl rfl cdL_11_planned ⟨Nat.le_of_ble_eq_true rfl, Nat.le_of_ble_eq_true rfl⟩ I1 (Nat.le_refl _) (x_ok L0.1).1 clX11 rfl rfl hl.1 rfl (Nat.le_of_ble_eq_true rfl) dL_law_944 ⟨Nat.le_trans (Nat.add_le_add_right hc.1 _) (Nat.le_of_ble_eq_true rfl), Nat.le_trans (Nat.add_le_add_right hc.2 _) (Nat.le_of_ble_eq_true rfl)⟩ (fun H1 locs1 J1 hk1 => ?_)
  have I2 := LM_kept I2 (A := Aw s.heap.size 110) (fun i hi z => by have := z.2; omega) hk1 J1.2.2.1
  have I3 := LM_kept I3 (A := Aw s.heap.size 110) (fun i hi z => by have := z.2; omega) hk1 J1.2.2.1
  have hS := I2.2.2.1
  refine lv_pop hx9 hb9 dL_law_947 rfl ?_
  refine lv_aload_n hx9 hb9 dL_law_948 rfl (lv_at hl 2 rfl) ?_
  refine lv_aload_n hx9 hb9 dL_law_949 rfl (lv_at hl 0 rfl) ?_
  refine lv_iload hx9 hb9 dL_law_950 (lv_at hl 4 rfl) ?_
  refine lv_iconst (v := 1) hx9 hb9 dL_law_952 (by decide) ?_
  refine lv_iadd hx9 hb9 dL_law_953 ?_
  refine va_sld (A := A0 s) hx9 hb9 hX hbl hbA hS v1 dL_law_954 ?_
  refine lv_aload_n hx9 hb9 dL_law_955 rfl (lv_at hl 0 rfl) ?_
  refine lv_iload hx9 hb9 dL_law_956 (lv_at hl 4 rfl) ?_
  refine lv_iconst (v := 2) hx9 hb9 dL_law_958 (by decide) ?_
  refine lv_iadd hx9 hb9 dL_law_959 ?_
  refine va_sld (A := A0 s) hx9 hb9 hX hbl hbA hS v2 dL_law_960 ?_
  refine l_Vi (As := [.int (xs (i + 1).toNatClampNeg), .int (xs (i + 2).toNatClampNeg)]) S (M12_planned l D cy (s.heap.size + 110) (Aw (s.heap.size + 110) 43) false em) gL_12_planned rfl rfl rfl cdL_12_planned ⟨Nat.le_of_ble_eq_true rfl, Nat.le_of_ble_eq_true rfl⟩ I2 (Nat.le_add_right _ _) (m_ok L0.2.1).1 clX12 rfl rfl hl.1 rfl (Nat.le_of_ble_eq_true rfl) dL_law_961 ⟨Nat.le_trans (Nat.add_le_add_right hc.1 _) (Nat.le_of_ble_eq_true rfl), Nat.le_trans (Nat.add_le_add_right hc.2 _) (Nat.le_of_ble_eq_true rfl)⟩ (fun H2 locs2 J2 hk2 => ?_)
  have J1 := LM_kept J1 (A := Aw (s.heap.size + 110) 43) (fun i hi z => by have := z.1; omega) hk2 J2.2.2.1
  have I3 := LM_kept I3 (A := Aw (s.heap.size + 110) 43) (fun i hi z => by have := z.2; omega) hk2 J2.2.2.1
  refine lv_pop hx9 hb9 dL_law_964 rfl ?_
  refine lv_goto (tgt := 1526) hx9 hb9 dL_law_965 (by decide) ?_
  refine W.widen (k := cl + 1) (n := sl + 6) (Nat.le_succ _) (Nat.le_add_right _ _) ?_
  exact K _ _ _ _ _ _ ⟨J1, J2, I3, L1⟩ hl
set_option maxHeartbeats 1000000 in
theorem lc_968 (S : CallFix p m c cL_law 7 s #[Value.ref b] lw_tbl RL) (hX : va_X b L xs s s.heap) (hbl : b < s.heap.size) {hx hm : PH} {f : Nat → Int64} (I : LW D cy hx hm f s H locs) {i : Int32} (hin : IN i L) {cl sl : Nat} (hc : cl ≤ 1000 ∧ sl ≤ 20000) (hl : lv_has ls 7 (LV b s i)) (K : ∀ (hx' hm' : PH) (f' : Nat → Int64) (H' : Heap) (locs' : List Loc) (ls' : Array Slot), LW D cy hx' hm' f' s H' locs' → lv_has ls' 7 (LV b s i) → W p l e room_1 s m #[Value.ref b] below meth c H' locs' (cl + 1) (sl + 6) (lw_Z below #[Value.ref b] s) (F0 m 1526 ls' [])) : W p l e room_1 s m #[Value.ref b] below meth c H locs cl sl (lw_Z below #[Value.ref b] s) (F0 m 968 ls []) := by
  have hbA : ¬ A0 s b := Nat.not_le.mpr hbl
  have hx9 := S.1
  have hb9 := S.2.1
  obtain ⟨I1, I2, I3, L0⟩ := I
  have hS := I1.2.2.1
  obtain ⟨_, v1, v2, v3, v4, v5⟩ := hin
  obtain ⟨a, a2, hx', hm', ex, em, L1⟩ := p_go L0 (xs (i + 1).toNatClampNeg) (xs (i + 2).toNatClampNeg) (xs (i + 3).toNatClampNeg)
  refine lv_aload_n hx9 hb9 dL_law_968 rfl (lv_at hl 1 rfl) ?_
  refine lv_aload_n hx9 hb9 dL_law_969 rfl (lv_at hl 0 rfl) ?_
  refine lv_iload hx9 hb9 dL_law_970 (lv_at hl 4 rfl) ?_
  refine lv_iconst (v := 1) hx9 hb9 dL_law_972 (by decide) ?_
  refine lv_iadd hx9 hb9 dL_law_973 ?_
  refine va_sld (A := A0 s) hx9 hb9 hX hbl hbA hS v1 dL_law_974 ?_
  refine lv_aload_n hx9 hb9 dL_law_975 rfl (lv_at hl 0 rfl) ?_
  refine lv_iload hx9 hb9 dL_law_976 (lv_at hl 4 rfl) ?_
  refine lv_iconst (v := 2) hx9 hb9 dL_law_978 (by decide) ?_
  refine lv_iadd hx9 hb9 dL_law_979 ?_
  refine va_sld (A := A0 s) hx9 hb9 hX hbl hbA hS v2 dL_law_980 ?_
  refine lv_aload_n hx9 hb9 dL_law_981 rfl (lv_at hl 0 rfl) ?_
  refine lv_iload hx9 hb9 dL_law_982 (lv_at hl 4 rfl) ?_
  refine lv_iconst (v := 3) hx9 hb9 dL_law_984 (by decide) ?_
  refine lv_iadd hx9 hb9 dL_law_985 ?_
  refine va_sld (A := A0 s) hx9 hb9 hX hbl hbA hS v3 dL_law_986 ?_
  refine l_Vi (As := [.int (xs (i + 1).toNatClampNeg), .int (xs (i + 2).toNatClampNeg), .int (xs (i + 3).toNatClampNeg)]) S (M11_go l D cy s.heap.size (Aw s.heap.size 110) false ex) gL_11_go rfl rfl rfl cdL_11_go ⟨Nat.le_of_ble_eq_true rfl, Nat.le_of_ble_eq_true rfl⟩ I1 (Nat.le_refl _) (x_ok L0.1).1 clX11 rfl rfl hl.1 rfl (Nat.le_of_ble_eq_true rfl) dL_law_987 ⟨Nat.le_trans (Nat.add_le_add_right hc.1 _) (Nat.le_of_ble_eq_true rfl), Nat.le_trans (Nat.add_le_add_right hc.2 _) (Nat.le_of_ble_eq_true rfl)⟩ (fun H1 locs1 J1 hk1 => ?_)
  have I2 := LM_kept I2 (A := Aw s.heap.size 110) (fun i hi z => by have := z.2; omega) hk1 J1.2.2.1
  have I3 := LM_kept I3 (A := Aw s.heap.size 110) (fun i hi z => by have := z.2; omega) hk1 J1.2.2.1
  have hS := I2.2.2.1
  refine lv_pop hx9 hb9 dL_law_990 rfl ?_
  refine lv_aload_n hx9 hb9 dL_law_991 rfl (lv_at hl 2 rfl) ?_
  refine lv_aload_n hx9 hb9 dL_law_992 rfl (lv_at hl 0 rfl) ?_
  refine lv_iload hx9 hb9 dL_law_993 (lv_at hl 4 rfl) ?_
  refine lv_iconst (v := 1) hx9 hb9 dL_law_995 (by decide) ?_
  refine lv_iadd hx9 hb9 dL_law_996 ?_
  refine va_sld (A := A0 s) hx9 hb9 hX hbl hbA hS v1 dL_law_997 ?_
  refine lv_aload_n hx9 hb9 dL_law_998 rfl (lv_at hl 0 rfl) ?_
  refine lv_iload hx9 hb9 dL_law_999 (lv_at hl 4 rfl) ?_
  refine lv_iconst (v := 2) hx9 hb9 dL_law_1001 (by decide) ?_
  refine lv_iadd hx9 hb9 dL_law_1002 ?_
  refine va_sld (A := A0 s) hx9 hb9 hX hbl hbA hS v2 dL_law_1003 ?_
  refine lv_aload_n hx9 hb9 dL_law_1004 rfl (lv_at hl 0 rfl) ?_
  refine lv_iload hx9 hb9 dL_law_1005 (lv_at hl 4 rfl) ?_
  refine lv_iconst (v := 3) hx9 hb9 dL_law_1007 (by decide) ?_
  refine lv_iadd hx9 hb9 dL_law_1008 ?_
  refine va_sld (A := A0 s) hx9 hb9 hX hbl hbA hS v3 dL_law_1009 ?_
  refine l_Vi (As := [.int (xs (i + 1).toNatClampNeg), .int (xs (i + 2).toNatClampNeg), .int (xs (i + 3).toNatClampNeg)]) S (M12_go l D cy (s.heap.size + 110) (Aw (s.heap.size + 110) 43) false em) gL_12_go rfl rfl rfl cdL_12_go ⟨Nat.le_of_ble_eq_true rfl, Nat.le_of_ble_eq_true rfl⟩ I2 (Nat.le_add_right _ _) (m_ok L0.2.1).1 clX12 rfl rfl hl.1 rfl (Nat.le_of_ble_eq_true rfl) dL_law_1010 ⟨Nat.le_trans (Nat.add_le_add_right hc.1 _) (Nat.le_of_ble_eq_true rfl), Nat.le_trans (Nat.add_le_add_right hc.2 _) (Nat.le_of_ble_eq_true rfl)⟩ (fun H2 locs2 J2 hk2 => ?_)
  have J1 := LM_kept J1 (A := Aw (s.heap.size + 110) 43) (fun i hi z => by have := z.1; omega) hk2 J2.2.2.1
  have I3 := LM_kept I3 (A := Aw (s.heap.size + 110) 43) (fun i hi z => by have := z.2; omega) hk2 J2.2.2.1
  refine lv_pop hx9 hb9 dL_law_1013 rfl ?_
  refine lv_goto (tgt := 1526) hx9 hb9 dL_law_1014 (by decide) ?_
  refine W.widen (k := cl + 1) (n := sl + 6) (Nat.le_succ _) (Nat.le_add_right _ _) ?_
  exact K _ _ _ _ _ _ ⟨J1, J2, I3, L1⟩ hl
end LC
