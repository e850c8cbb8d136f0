section LC
variable {p : Program} {l : Launch} {e : Env} {s : State} {m : MethodId} {below : List Frame} {meth : Method} {c : Code} {b L : Nat} {xs : Nat → Int32} {D : va_G} {cy : Nat → ClassId} {H : Heap} {locs : List Loc} {ls : Array Slot}
set_option maxHeartbeats 1000000 in
theorem lc_1240 (S : CallFix p m c cL_law 7 s #[Value.ref b] lw_tbl RL) (hX : va_X b L xs s s.heap) (hbl : b < s.heap.size) {hx hm : PH} {f : Nat → Int64} (I : LW D cy hx hm f s H locs) {i : Int32} (hin : IN i L) {cl sl : Nat} (hc : cl ≤ 1000 ∧ sl ≤ 20000) (hl : lv_has ls 7 (LV b s i)) (K : ∀ (hx' hm' : PH) (f' : Nat → Int64) (H' : Heap) (locs' : List Loc) (ls' : Array Slot), LW D cy hx' hm' f' s H' locs' → lv_has ls' 7 (LV b s i) → W p l e room_1 s m #[Value.ref b] below meth c H' locs' (cl + 1) (sl + 6) (lw_Z below #[Value.ref b] s) (F0 m 1526 ls' [])) : W p l e room_1 s m #[Value.ref b] below meth c H locs cl sl (lw_Z below #[Value.ref b] s) (F0 m 1240 ls []) := by
  have hbA : ¬ A0 s b := Nat.not_le.mpr hbl
  have hx9 := S.1
  have hb9 := S.2.1
  obtain ⟨I1, I2, I3, L0⟩ := I
  have hS := I1.2.2.1
  obtain ⟨_, v1, v2, v3, v4, v5⟩ := hin
  obtain ⟨a, hx', hm', ex, em, L1⟩ := p_note L0 (xs (i + 1).toNatClampNeg) (xs (i + 2).toNatClampNeg) (xs (i + 3).toNatClampNeg)
  refine lv_aload_n hx9 hb9 dL_law_1240 rfl (lv_at hl 1 rfl) ?_
  refine lv_aload_n hx9 hb9 dL_law_1241 rfl (lv_at hl 0 rfl) ?_
  refine lv_iload hx9 hb9 dL_law_1242 (lv_at hl 4 rfl) ?_
  refine lv_iconst (v := 1) hx9 hb9 dL_law_1244 (by decide) ?_
  refine lv_iadd hx9 hb9 dL_law_1245 ?_
  refine va_sld (A := A0 s) hx9 hb9 hX hbl hbA hS v1 dL_law_1246 ?_
  refine lv_aload_n hx9 hb9 dL_law_1247 rfl (lv_at hl 0 rfl) ?_
  refine lv_iload hx9 hb9 dL_law_1248 (lv_at hl 4 rfl) ?_
  refine lv_iconst (v := 2) hx9 hb9 dL_law_1250 (by decide) ?_
  refine lv_iadd hx9 hb9 dL_law_1251 ?_
  refine va_sld (A := A0 s) hx9 hb9 hX hbl hbA hS v2 dL_law_1252 ?_
  refine lv_aload_n hx9 hb9 dL_law_1253 rfl (lv_at hl 0 rfl) ?_
  refine lv_iload hx9 hb9 dL_law_1254 (lv_at hl 4 rfl) ?_
  refine lv_iconst (v := 3) hx9 hb9 dL_law_1256 (by decide) ?_
  refine lv_iadd hx9 hb9 dL_law_1257 ?_
  refine va_sld (A := A0 s) hx9 hb9 hX hbl hbA hS v3 dL_law_1258 ?_
  refine l_Vi (As := [.int (xs (i + 1).toNatClampNeg), .int (xs (i + 2).toNatClampNeg), .int (xs (i + 3).toNatClampNeg)]) S (M11_note l D cy s.heap.size (Aw s.heap.size 110) false ex) gL_11_note rfl rfl rfl cdL_11_note ⟨Nat.le_of_ble_eq_true rfl, Nat.le_of_ble_eq_true rfl⟩ I1 (Nat.le_refl _) (x_ok L0.1).1 clX11 rfl rfl hl.1 rfl (Nat.le_of_ble_eq_true rfl) dL_law_1259 ⟨Nat.le_trans (Nat.add_le_add_right hc.1 _) (Nat.le_of_ble_eq_true rfl), Nat.le_trans (Nat.add_le_add_right hc.2 _) (Nat.le_of_ble_eq_true rfl)⟩ (fun H1 locs1 J1 hk1 => ?_)
  have I2 := LM_kept I2 (A := Aw s.heap.size 110) (fun i hi z => by have := z.2; omega) hk1 J1.2.2.1
  have I3 := LM_kept I3 (A := Aw s.heap.size 110) (fun i hi z => by have := z.2; omega) hk1 J1.2.2.1
  have hS := I2.2.2.1
  refine lv_pop hx9 hb9 dL_law_1262 rfl ?_
  refine lv_aload_n hx9 hb9 dL_law_1263 rfl (lv_at hl 2 rfl) ?_
  refine lv_aload_n hx9 hb9 dL_law_1264 rfl (lv_at hl 0 rfl) ?_
  refine lv_iload hx9 hb9 dL_law_1265 (lv_at hl 4 rfl) ?_
  refine lv_iconst (v := 1) hx9 hb9 dL_law_1267 (by decide) ?_
  refine lv_iadd hx9 hb9 dL_law_1268 ?_
  refine va_sld (A := A0 s) hx9 hb9 hX hbl hbA hS v1 dL_law_1269 ?_
  refine lv_aload_n hx9 hb9 dL_law_1270 rfl (lv_at hl 0 rfl) ?_
  refine lv_iload hx9 hb9 dL_law_1271 (lv_at hl 4 rfl) ?_
  refine lv_iconst (v := 2) hx9 hb9 dL_law_1273 (by decide) ?_
  refine lv_iadd hx9 hb9 dL_law_1274 ?_
  refine va_sld (A := A0 s) hx9 hb9 hX hbl hbA hS v2 dL_law_1275 ?_
  refine lv_aload_n hx9 hb9 dL_law_1276 rfl (lv_at hl 0 rfl) ?_
  refine lv_iload hx9 hb9 dL_law_1277 (lv_at hl 4 rfl) ?_
  refine lv_iconst (v := 3) hx9 hb9 dL_law_1279 (by decide) ?_
  refine lv_iadd hx9 hb9 dL_law_1280 ?_
  refine va_sld (A := A0 s) hx9 hb9 hX hbl hbA hS v3 dL_law_1281 ?_
  refine l_Vi (As := [.int (xs (i + 1).toNatClampNeg), .int (xs (i + 2).toNatClampNeg), .int (xs (i + 3).toNatClampNeg)]) S (M12_note l D cy (s.heap.size + 110) (Aw (s.heap.size + 110) 43) false em) gL_12_note rfl rfl rfl cdL_12_note ⟨Nat.le_of_ble_eq_true rfl, Nat.le_of_ble_eq_true rfl⟩ I2 (Nat.le_add_right _ _) (m_ok L0.2.1).1 clX12 rfl rfl hl.1 rfl (Nat.le_of_ble_eq_true rfl) dL_law_1282 ⟨Nat.le_trans (Nat.add_le_add_right hc.1 _) (Nat.le_of_ble_eq_true rfl), Nat.le_trans (Nat.add_le_add_right hc.2 _) (Nat.le_of_ble_eq_true rfl)⟩ (fun H2 locs2 J2 hk2 => ?_)
  have J1 := LM_kept J1 (A := Aw (s.heap.size + 110) 43) (fun i hi z => by have := z.1; omega) hk2 J2.2.2.1
  have I3 := LM_kept I3 (A := Aw (s.heap.size + 110) 43) (fun i hi z => by have := z.2; omega) hk2 J2.2.2.1
  refine lv_pop hx9 hb9 dL_law_1285 rfl ?_
  refine lv_goto (tgt := 1526) hx9 hb9 dL_law_1286 (by decide) ?_
  refine W.widen (k := cl + 1) (n := sl + 6) (Nat.le_succ _) (Nat.le_add_right _ _) ?_
  exact K _ _ _ _ _ _ ⟨J1, J2, I3, L1⟩ hl
set_option maxHeartbeats 1000000 in
theorem lc_1289 (S : CallFix p m c cL_law 7 s #[Value.ref b] lw_tbl RL) (hX : va_X b L xs s s.heap) (hbl : b < s.heap.size) {hx hm : PH} {f : Nat → Int64} (I : LW D cy hx hm f s H locs) {i : Int32} (hin : IN i L) {cl sl : Nat} (hc : cl ≤ 1000 ∧ sl ≤ 20000) (hl : lv_has ls 7 (LV b s i)) (K : ∀ (hx' hm' : PH) (f' : Nat → Int64) (H' : Heap) (locs' : List Loc) (ls' : Array Slot), LW D cy hx' hm' f' s H' locs' → lv_has ls' 7 (LV b s i) → W p l e room_1 s m #[Value.ref b] below meth c H' locs' (cl + 1) (sl + 6) (lw_Z below #[Value.ref b] s) (F0 m 1526 ls' [])) : W p l e room_1 s m #[Value.ref b] below meth c H locs cl sl (lw_Z below #[Value.ref b] s) (F0 m 1289 ls []) := by
  have hbA : ¬ A0 s b := Nat.not_le.mpr hbl
  have hx9 := S.1
  have hb9 := S.2.1
  obtain ⟨I1, I2, I3, L0⟩ := I
  have hS := I1.2.2.1
  obtain ⟨_, v1, v2, v3, v4, v5⟩ := hin
  obtain ⟨a, hx', hm', ex, em, L1⟩ := p_strike L0 (xs (i + 1).toNatClampNeg)
  refine lv_aload_n hx9 hb9 dL_law_1289 rfl (lv_at hl 1 rfl) ?_
  refine lv_aload_n hx9 hb9 dL_law_1290 rfl (lv_at hl 0 rfl) ?_
  refine lv_iload hx9 hb9 dL_law_1291 (lv_at hl 4 rfl) ?_
  refine lv_iconst (v := 1) hx9 hb9 dL_law_1293 (by decide) ?_
  refine lv_iadd hx9 hb9 dL_law_1294 ?_
  refine va_sld (A := A0 s) hx9 hb9 hX hbl hbA hS v1 dL_law_1295 ?_
  refine l_Vi (As := [.int (xs (i + 1).toNatClampNeg)]) S (M11_strike l D cy s.heap.size (Aw s.heap.size 110) false ex) gL_11_strike rfl rfl rfl cdL_11_strike ⟨Nat.le_of_ble_eq_true rfl, Nat.le_of_ble_eq_true rfl⟩ I1 (Nat.le_refl _) (x_ok L0.1).1 clX11 rfl rfl hl.1 rfl (Nat.le_of_ble_eq_true rfl) dL_law_1296 ⟨Nat.le_trans (Nat.add_le_add_right hc.1 _) (Nat.le_of_ble_eq_true rfl), Nat.le_trans (Nat.add_le_add_right hc.2 _) (Nat.le_of_ble_eq_true rfl)⟩ (fun H1 locs1 J1 hk1 => ?_)
  have I2 := LM_kept I2 (A := Aw s.heap.size 110) (fun i hi z => by have := z.2; omega) hk1 J1.2.2.1
  have I3 := LM_kept I3 (A := Aw s.heap.size 110) (fun i hi z => by have := z.2; omega) hk1 J1.2.2.1
  have hS := I2.2.2.1
  refine lv_pop hx9 hb9 dL_law_1299 rfl ?_
  refine lv_aload_n hx9 hb9 dL_law_1300 rfl (lv_at hl 2 rfl) ?_
  refine lv_aload_n hx9 hb9 dL_law_1301 rfl (lv_at hl 0 rfl) ?_
  refine lv_iload hx9 hb9 dL_law_1302 (lv_at hl 4 rfl) ?_
  refine lv_iconst (v := 1) hx9 hb9 dL_law_1304 (by decide) ?_
  refine lv_iadd hx9 hb9 dL_law_1305 ?_
  refine va_sld (A := A0 s) hx9 hb9 hX hbl hbA hS v1 dL_law_1306 ?_
  refine l_Vi (As := [.int (xs (i + 1).toNatClampNeg)]) S (M12_strike l D cy (s.heap.size + 110) (Aw (s.heap.size + 110) 43) false em) gL_12_strike rfl rfl rfl cdL_12_strike ⟨Nat.le_of_ble_eq_true rfl, Nat.le_of_ble_eq_true rfl⟩ I2 (Nat.le_add_right _ _) (m_ok L0.2.1).1 clX12 rfl rfl hl.1 rfl (Nat.le_of_ble_eq_true rfl) dL_law_1307 ⟨Nat.le_trans (Nat.add_le_add_right hc.1 _) (Nat.le_of_ble_eq_true rfl), Nat.le_trans (Nat.add_le_add_right hc.2 _) (Nat.le_of_ble_eq_true rfl)⟩ (fun H2 locs2 J2 hk2 => ?_)
  have J1 := LM_kept J1 (A := Aw (s.heap.size + 110) 43) (fun i hi z => by have := z.1; omega) hk2 J2.2.2.1
  have I3 := LM_kept I3 (A := Aw (s.heap.size + 110) 43) (fun i hi z => by have := z.2; omega) hk2 J2.2.2.1
  refine lv_pop hx9 hb9 dL_law_1310 rfl ?_
  refine lv_goto (tgt := 1526) hx9 hb9 dL_law_1311 (by decide) ?_
  refine W.widen (k := cl + 1) (n := sl + 6) (Nat.le_succ _) (Nat.le_add_right _ _) ?_
  exact K _ _ _ _ _ _ ⟨J1, J2, I3, L1⟩ hl
set_option maxHeartbeats 1000000 in
theorem lc_1314 (S : CallFix p m c cL_law 7 s #[Value.ref b] lw_tbl RL) (hX : va_X b L xs s s.heap) (hbl : b < s.heap.size) {hx hm : PH} {f : Nat → Int64} (I : LW D cy hx hm f s H locs) {i : Int32} (hin : IN i L) {cl sl : Nat} (hc : cl ≤ 1000 ∧ sl ≤ 20000) (hl : lv_has ls 7 (LV b s i)) (K : ∀ (hx' hm' : PH) (f' : Nat → Int64) (H' : Heap) (locs' : List Loc) (ls' : Array Slot), LW D cy hx' hm' f' s H' locs' → lv_has ls' 7 (LV b s i) → W p l e room_1 s m #[Value.ref b] below meth c H' locs' (cl + 1) (sl + 6) (lw_Z below #[Value.ref b] s) (F0 m 1526 ls' [])) : W p l e room_1 s m #[Value.ref b] below meth c H locs cl sl (lw_Z below #[Value.ref b] s) (F0 m 1314 ls []) := by
  have hbA : ¬ A0 s b := Nat.not_le.mpr hbl
  have hx9 := S.1
  have hb9 := S.2.1
  obtain ⟨I1, I2, I3, L0⟩ := I
  have hS := I1.2.2.1
  obtain ⟨_, v1, v2, v3, v4, v5⟩ := hin
  obtain ⟨a, hx', hm', ex, em, L1⟩ := p_known L0 (xs (i + 1).toNatClampNeg)
  refine lv_aload_n hx9 hb9 dL_law_1314 rfl (lv_at hl 1 rfl) ?_
  refine lv_aload_n hx9 hb9 dL_law_1315 rfl (lv_at hl 0 rfl) ?_
  refine lv_iload hx9 hb9 dL_law_1316 (lv_at hl 4 rfl) ?_
  refine lv_iconst (v := 1) hx9 hb9 dL_law_1318 (by decide) ?_
  refine lv_iadd hx9 hb9 dL_law_1319 ?_
  refine va_sld (A := A0 s) hx9 hb9 hX hbl hbA hS v1 dL_law_1320 ?_
  refine l_Vi (As := [.int (xs (i + 1).toNatClampNeg)]) S (M11_known l D cy s.heap.size (Aw s.heap.size 110) false ex) gL_11_known rfl rfl rfl cdL_11_known ⟨Nat.le_of_ble_eq_true rfl, Nat.le_of_ble_eq_true rfl⟩ I1 (Nat.le_refl _) (x_ok L0.1).1 clX11 rfl rfl hl.1 rfl (Nat.le_of_ble_eq_true rfl) dL_law_1321 ⟨Nat.le_trans (Nat.add_le_add_right hc.1 _) (Nat.le_of_ble_eq_true rfl), Nat.le_trans (Nat.add_le_add_right hc.2 _) (Nat.le_of_ble_eq_true rfl)⟩ (fun H1 locs1 J1 hk1 => ?_)
  have I2 := LM_kept I2 (A := Aw s.heap.size 110) (fun i hi z => by have := z.2; omega) hk1 J1.2.2.1
  have I3 := LM_kept I3 (A := Aw s.heap.size 110) (fun i hi z => by have := z.2; omega) hk1 J1.2.2.1
  have hS := I2.2.2.1
  refine lv_pop hx9 hb9 dL_law_1324 rfl ?_
  refine lv_aload_n hx9 hb9 dL_law_1325 rfl (lv_at hl 2 rfl) ?_
  refine lv_aload_n hx9 hb9 dL_law_1326 rfl (lv_at hl 0 rfl) ?_
  refine lv_iload hx9 hb9 dL_law_1327 (lv_at hl 4 rfl) ?_
  refine lv_iconst (v := 1) hx9 hb9 dL_law_1329 (by decide) ?_
  refine lv_iadd hx9 hb9 dL_law_1330 ?_
  refine va_sld (A := A0 s) hx9 hb9 hX hbl hbA hS v1 dL_law_1331 ?_
  refine l_Vi (As := [.int (xs (i + 1).toNatClampNeg)]) S (M12_known l D cy (s.heap.size + 110) (Aw (s.heap.size + 110) 43) false em) gL_12_known rfl rfl rfl cdL_12_known ⟨Nat.le_of_ble_eq_true rfl, Nat.le_of_ble_eq_true rfl⟩ I2 (Nat.le_add_right _ _) (m_ok L0.2.1).1 clX12 rfl rfl hl.1 rfl (Nat.le_of_ble_eq_true rfl) dL_law_1332 ⟨Nat.le_trans (Nat.add_le_add_right hc.1 _) (Nat.le_of_ble_eq_true rfl), Nat.le_trans (Nat.add_le_add_right hc.2 _) (Nat.le_of_ble_eq_true rfl)⟩ (fun H2 locs2 J2 hk2 => ?_)
  have J1 := LM_kept J1 (A := Aw (s.heap.size + 110) 43) (fun i hi z => by have := z.1; omega) hk2 J2.2.2.1
  have I3 := LM_kept I3 (A := Aw (s.heap.size + 110) 43) (fun i hi z => by have := z.2; omega) hk2 J2.2.2.1
  refine lv_pop hx9 hb9 dL_law_1335 rfl ?_
  refine lv_goto (tgt := 1526) hx9 hb9 dL_law_1336 (by decide) ?_
  refine W.widen (k := cl + 1) (n := sl + 6) (Nat.le_succ _) (Nat.le_add_right _ _) ?_
  exact K _ _ _ _ _ _ ⟨J1, J2, I3, L1⟩ hl
set_option maxHeartbeats 1000000 in
theorem lc_1339 (S : CallFix p m c cL_law 7 s #[Value.ref b] lw_tbl RL) (hX : va_X b L xs s s.heap) (hbl : b < s.heap.size) {hx hm : PH} {f : Nat → Int64} (I : LW D cy hx hm f s H locs) {i : Int32} (hin : IN i L) {cl sl : Nat} (hc : cl ≤ 1000 ∧ sl ≤ 20000) (hl : lv_has ls 7 (LV b s i)) (K : ∀ (hx' hm' : PH) (f' : Nat → Int64) (H' : Heap) (locs' : List Loc) (ls' : Array Slot), LW D cy hx' hm' f' s H' locs' → lv_has ls' 7 (LV b s i) → W p l e room_1 s m #[Value.ref b] below meth c H' locs' (cl + 1) (sl + 6) (lw_Z below #[Value.ref b] s) (F0 m 1526 ls' [])) : W p l e room_1 s m #[Value.ref b] below meth c H locs cl sl (lw_Z below #[Value.ref b] s) (F0 m 1339 ls []) := by
  have hbA : ¬ A0 s b := Nat.not_le.mpr hbl
  have hx9 := S.1
  have hb9 := S.2.1
  obtain ⟨I1, I2, I3, L0⟩ := I
  have hS := I1.2.2.1
  obtain ⟨_, v1, v2, v3, v4, v5⟩ := hin
  obtain ⟨a, hx', hm', ex, em, L1⟩ := p_locals L0 (xs (i + 1).toNatClampNeg)
  refine lv_aload_n hx9 hb9 dL_law_1339 rfl (lv_at hl 1 rfl) ?_
  refine lv_aload_n hx9 hb9 dL_law_1340 rfl (lv_at hl 0 rfl) ?_
  refine lv_iload hx9 hb9 dL_law_1341 (lv_at hl 4 rfl) ?_
  refine lv_iconst (v := 1) hx9 hb9 dL_law_1343 (by decide) ?_
  refine lv_iadd hx9 hb9 dL_law_1344 ?_
  refine va_sld (A := A0 s) hx9 hb9 hX hbl hbA hS v1 dL_law_1345 ?_
  refine l_Vi (As := [.int (xs (i + 1).toNatClampNeg)]) S (M11_locals l D cy s.heap.size (Aw s.heap.size 110) false ex) gL_11_locals rfl rfl rfl cdL_11_locals ⟨Nat.le_of_ble_eq_true rfl, Nat.le_of_ble_eq_true rfl⟩ I1 (Nat.le_refl _) (x_ok L0.1).1 clX11 rfl rfl hl.1 rfl (Nat.le_of_ble_eq_true rfl) dL_law_1346 ⟨Nat.le_trans (Nat.add_le_add_right hc.1 _) (Nat.le_of_ble_eq_true rfl), Nat.le_trans (Nat.add_le_add_right hc.2 _) (Nat.le_of_ble_eq_true rfl)⟩ (fun H1 locs1 J1 hk1 => ?_)
  have I2 := LM_kept I2 (A := Aw s.heap.size 110) (fun i hi z => by have := z.2; omega) hk1 J1.2.2.1
  have I3 := LM_kept I3 (A := Aw s.heap.size 110) (fun i hi z => by have := z.2; omega) hk1 J1.2.2.1
  have hS := I2.2.2.1
  refine lv_pop hx9 hb9 dL_law_1349 rfl ?_
  refine lv_aload_n hx9 hb9 dL_law_1350 rfl (lv_at hl 2 rfl) ?_
  refine lv_aload_n hx9 hb9 dL_law_1351 rfl (lv_at hl 0 rfl) ?_
  refine lv_iload hx9 hb9 dL_law_1352 (lv_at hl 4 rfl) ?_
  refine lv_iconst (v := 1) hx9 hb9 dL_law_1354 (by decide) ?_
  refine lv_iadd hx9 hb9 dL_law_1355 ?_
  refine va_sld (A := A0 s) hx9 hb9 hX hbl hbA hS v1 dL_law_1356 ?_
  refine l_Vi (As := [.int (xs (i + 1).toNatClampNeg)]) S (M12_locals l D cy (s.heap.size + 110) (Aw (s.heap.size + 110) 43) false em) gL_12_locals rfl rfl rfl cdL_12_locals ⟨Nat.le_of_ble_eq_true rfl, Nat.le_of_ble_eq_true rfl⟩ I2 (Nat.le_add_right _ _) (m_ok L0.2.1).1 clX12 rfl rfl hl.1 rfl (Nat.le_of_ble_eq_true rfl) dL_law_1357 ⟨Nat.le_trans (Nat.add_le_add_right hc.1 _) (Nat.le_of_ble_eq_true rfl), Nat.le_trans (Nat.add_le_add_right hc.2 _) (Nat.le_of_ble_eq_true rfl)⟩ (fun H2 locs2 J2 hk2 => ?_)
  have J1 := LM_kept J1 (A := Aw (s.heap.size + 110) 43) (fun i hi z => by have := z.1; omega) hk2 J2.2.2.1
  have I3 := LM_kept I3 (A := Aw (s.heap.size + 110) 43) (fun i hi z => by have := z.2; omega) hk2 J2.2.2.1
  refine lv_pop hx9 hb9 dL_law_1360 rfl ?_
  refine lv_goto (tgt := 1526) hx9 hb9 dL_law_1361 (by decide) ?_
  refine W.widen (k := cl + 1) (n := sl + 6) (Nat.le_succ _) (Nat.le_add_right _ _) ?_
  exact K _ _ _ _ _ _ ⟨J1, J2, I3, L1⟩ hl
end LC
