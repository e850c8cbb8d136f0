/-! The law from its entry. -/
section OI
variable {p : Program} {l : Launch} {e : Env} {R : Room} {s : State} {m : MethodId} {args : Array Value} {below : List Frame} {meth : Method} {c : Code} {H : Heap} {locs : List Loc} {cells slots : Nat} {Q : State → Prop}
variable {cc : ByteArray} {nL pc : Nat} {ls : Array Slot} {rest st0 : List Value} {D : va_G} {cy : Nat → ClassId} {bw nw : Nat} {h : PH} {Ts ws ws' : List Cond} {own : String}
variable {y : MethodName} {bytes : ByteArray} {maxL mc ms index : Nat} {rm : Room}
theorem l_Iv (S : CallFix p m c cc nL s args Ts own) {A : Nat → Prop} {out : PH} (hM : Met l y ws rm (va_Pc [.ref (bw + 0)] (ph_B D cy bw A true h)) (va_Qv (fun (u : PH) => u = out) (ph_B D cy bw A true) A) mc ms A) (hT : GoodIn Ts ws) (hil : Il Ts own index y) (hyn : y.name = "<init>") (hw : ws = Cond.code y bytes maxL none :: ws') (hrc : rm.cells = mc) (hrs : rm.slots = ms) (hd : Cd y 0) (hR : rm.frames + 1 ≤ R.frames ∧ 8 + (maxL + 11) + rm.locals ≤ R.locals) (I : LM D cy bw nw h s H locs) (hb : s.heap.size ≤ bw) (hz : H.size = bw + h.length) (hAA : ∀ q, A q → bw ≤ q) (hAB : ∀ i, i < nw → A (bw + i)) (hlen : ∀ i, i < out.length → i < nw)
    (hsz : ls.size = nL) (hst : st0 = .ref (bw + 0) :: rest) (hW : (rest.map fun v => v.category).sum ≤ 8) (hdg : decode cc pc = .ok (.invokespecial index, 3)) (hf : cells + mc ≤ R.cells ∧ slots + ms ≤ R.slots)
    (kk : ∀ (H1 : Heap) (locs1 : List Loc), LM D cy bw nw out s H1 locs1 → H1.size = bw + out.length → (∀ q : Nat, q < H.size → ¬ A q → H1[q]? = H[q]?) → W p l e R s m args below meth c H1 locs1 (cells + mc) (slots + ms) Q (F0 m (pc + 3) ls rest)) : W p l e R s m args below meth c H locs cells slots Q (F0 m pc ls st0) := by
  have hA1 : ∀ q, A q → s.heap.size ≤ q := fun q z => Nat.le_trans hb (hAA q z)
  refine va_callv (A0 := A0 s) (va_runI (As := []) (rest := rest) (b := bw + 0) S hM (cwI 0 S.2.2.2.2 hT hw hrc hrs (S.2.2.2.2 _ hil.1) (S.2.2.2.2 _ hil.2.1) (S.2.2.2.2 _ hil.2.2) hyn hd hR) ⟨ph_B_blind D cy bw A true h _, lm_pre (fl := true) I hb (fun _ => hz) hA1 hAB⟩ rfl rfl hsz hst (lv_room hW) hdg hf) I.2.2.1 (fun q _ h => hA1 q h) (fun q h => hA1 q h) (fun u t H1 locs1 ht hvm hw hB hz1 hk1 hS => ?_)
  subst hw
  exact kk H1 locs1 ⟨by rw [← ht]; exact hB.1, I.2.1, hS, hlen, I.2.2.2.2⟩ (by rw [← ht]; exact hB.2.2.2.1 rfl) hk1
end OI
theorem lnL_8 : Nl lw_tbl RL 8 11 14 zF11 := ⟨RX11, TX11, tyX11, rfl, (fun w h9 => TB_in w (wC_wsX110 w h9)), tyX11_ok, TB_in _ wT_1_0, TB_in _ wT_1_1, TB_in _ wT_1_2, zF11_ok⟩
theorem lnL_18 : Nl lw_tbl RL 18 12 87 zF12 := ⟨RX12, TX12, tyX12, rfl, (fun w h9 => TB_in w (wC_wsX120 w h9)), tyX12_ok, TB_in _ wT_1_3, TB_in _ wT_1_4, TB_in _ wT_1_5, zF12_ok⟩
theorem cdL_11_init : Cd yX11_init 0 := ⟨by decide, by decide, by decide +kernel⟩
theorem cdL_12_init : Cd yX12_init 0 := ⟨by decide, by decide, by decide +kernel⟩
theorem nCx (h : PH) (c : PC) : nC h c = some (h ++ [c]) := rfl
theorem push_at (h : PH) (c : PC) {n : Nat} (hn : h.length = n) : (h ++ [c])[n]? = some c := by subst hn; simp
theorem sp1 {D : va_G} {cy : Nat → ClassId} {b : Nat} {h : PH} {c : PC} {H : Heap} (hP : va_P D ph_cl (ph_w b cy (h ++ [c])) H) : va_P D ph_cl (ph_w b cy h) H := fun k q hk => hP k q (by rw [ph_w_push, List.getElem?_append_left (List.getElem?_eq_some_iff.mp hk).1]; exact hk)
theorem sp2 {D : va_G} {cy : Nat → ClassId} {b n : Nat} {h : PH} {c : PC} {H : Heap} (hP : va_P D ph_cl (ph_w b cy (h ++ [c])) H) (hn : h.length = n) : va_at D ph_cl (b + n, ph_e b cy c) H := hP n _ (ph_w_get (push_at h c hn))
theorem sp3 {D : va_G} {cy : Nat → ClassId} {b : Nat} {c : PC} {H : Heap} (hP : va_at D ph_cl (b, ph_e b cy c) H) : va_P D ph_cl (ph_w b cy [c]) H := by
  intro k q hk
  have hk0 : k = 0 := by
    have := (List.getElem?_eq_some_iff.mp hk).1
    have hz : (ph_w b cy [c]).length = 1 := by simp [ph_w]
    omega
  subst hk0
  have h1 : (ph_w b cy [c])[0]? = some (b + 0, ph_e b cy c) := ph_w_get rfl
  have e9 := Option.some.inj (h1.symm.trans hk)
  rw [← e9]
  exact hP
theorem sp4 {n : Nat} {h : PH} {c : PC} (hn : h.length = n) : (h ++ [c]).length = n + 1 := by rw [List.length_append, hn]; rfl
theorem lgX : hxF.length = 110 := by decide +kernel
theorem lgM : hmF.length = 43 := by decide +kernel
theorem zfree (b b' : Nat) (cy : Nat → ClassId) : ph_e b cy (.inr (12, zF12)) = ph_e b' cy (.inr (12, zF12)) := rfl
theorem lenX : ∀ i, i < hxF.length → i < 110 := fun i hi => by rw [lgX] at hi; exact hi
theorem lenM : ∀ i, i < hmF.length → i < 43 := fun i hi => by rw [lgM] at hi; exact hi
section LS
variable {p : Program} {l : Launch} {e : Env} {s : State} {m : MethodId} {below : List Frame} {meth : Method} {c : Code} {b L : Nat} {xs : Nat → Int32} {D : va_G} {cy : Nat → ClassId}
theorem law_out {H : Heap} {locs : List Loc} {ls : Array Slot} (S : CallFix p m c cL_law 7 s #[Value.ref b] lw_tbl RL) (hr : meth.sig.returnType = ret) (hlo : meth.locks = false) (hS : va_S (A0 s) s.heap H locs) {cells slots : Nat} (h1 : cells ≤ 601024) (h2 : slots ≤ 7293034) : W p l e room_1 s m #[Value.ref b] below meth c H locs cells slots (lw_Z below #[Value.ref b] s) (F0 m 1532 ls []) := by
  refine lv_iconst (v := 1) S.1 S.2.1 dL_law_1532 (by decide) ?_
  refine va_forget (fun q hq => hS.2.2 q hq) ?_
  refine W.widen h1 h2 ?_
  exact lw_ret S.1 S.2.1 hr hlo dL_law_1533
set_option maxHeartbeats 4000000 in
/-- one call -/
theorem law_sw {H : Heap} {locs : List Loc} {ls : Array Slot} (hl0 : l.stackTraces = false) (hD : DW s) (S : CallFix p m c cL_law 7 s #[Value.ref b] lw_tbl RL) (hX : va_X b L xs s s.heap) (hbl : b < s.heap.size) {hx hm : PH} {f : Nat → Int64} (I : LW D cy hx hm f s H locs) {i : Int32} (hin : IN i L) {cl sl : Nat} (hc : cl ≤ 1000 ∧ sl ≤ 20000) (hl : lv_has ls 7 (LV b s i)) (K : ∀ (hx' hm' : PH) (f' : Nat → Int64) (H' : Heap) (locs' : List Loc) (ls' : Array Slot), LW D cy hx' hm' f' s H' locs' → lv_has ls' 7 (LV b s i) → W p l e room_1 s m #[Value.ref b] below meth c H' locs' (cl + 1) (sl + 6) (lw_Z below #[Value.ref b] s) (F0 m 1526 ls' [])) : W p l e room_1 s m #[Value.ref b] below meth c H locs cl sl (lw_Z below #[Value.ref b] s) (F0 m 33 ls []) := by
  have hbA : ¬ A0 s b := Nat.not_le.mpr hbl
  have hx9 := S.1
  have hb9 := S.2.1
  have hS := I.1.2.2.1
  refine lv_aload_n hx9 hb9 dL_law_33 rfl (lv_at hl 0 rfl) ?_
  refine lv_iload hx9 hb9 dL_law_34 (lv_at hl 4 rfl) ?_
  refine va_sld (A := A0 s) hx9 hb9 hX hbl hbA hS hin.1 dL_law_36 ?_
  refine lv_bipush (v := 63) hx9 hb9 dL_law_37 (by decide) ?_
  refine lv_iand hx9 hb9 dL_law_39 ?_
  refine lv_topi (fun v _ => ?_)
  by_cases g0 : v.toInt = 0
  · exact lv_tableIn (off := 172) (tgt := 212) hx9 hb9 dL_law_40 (by rw [g0]; decide) (by rw [g0]; decide) (by rw [g0]; rfl) (by decide) (lc_212 S hX hbl I hin hc hl K)
  by_cases g1 : v.toInt = 1
  · exact lv_tableIn (off := 245) (tgt := 285) hx9 hb9 dL_law_40 (by rw [g1]; decide) (by rw [g1]; decide) (by rw [g1]; rfl) (by decide) (lc_285 S hX hbl I hin hc hl K)
  by_cases g2 : v.toInt = 2
  · exact lv_tableIn (off := 270) (tgt := 310) hx9 hb9 dL_law_40 (by rw [g2]; decide) (by rw [g2]; decide) (by rw [g2]; rfl) (by decide) (lc_310 S hX hbl I hin hc hl K)
  by_cases g3 : v.toInt = 3
  · exact lv_tableIn (off := 295) (tgt := 335) hx9 hb9 dL_law_40 (by rw [g3]; decide) (by rw [g3]; decide) (by rw [g3]; rfl) (by decide) (lc_335 S hX hbl I hin hc hl K)
  by_cases g4 : v.toInt = 4
  · exact lv_tableIn (off := 320) (tgt := 360) hx9 hb9 dL_law_40 (by rw [g4]; decide) (by rw [g4]; decide) (by rw [g4]; rfl) (by decide) (lc_360 hl0 hD S hX hbl I hin hc hl K)
  by_cases g5 : v.toInt = 5
  · exact lv_tableIn (off := 360) (tgt := 400) hx9 hb9 dL_law_40 (by rw [g5]; decide) (by rw [g5]; decide) (by rw [g5]; rfl) (by decide) (lc_400 S hX hbl I hin hc hl K)
  by_cases g6 : v.toInt = 6
  · exact lv_tableIn (off := 397) (tgt := 437) hx9 hb9 dL_law_40 (by rw [g6]; decide) (by rw [g6]; decide) (by rw [g6]; rfl) (by decide) (lc_437 S hX hbl I hin hc hl K)
  by_cases g7 : v.toInt = 7
  · exact lv_tableIn (off := 422) (tgt := 462) hx9 hb9 dL_law_40 (by rw [g7]; decide) (by rw [g7]; decide) (by rw [g7]; rfl) (by decide) (lc_462 S hX hbl I hin hc hl K)
  by_cases g8 : v.toInt = 8
  · exact lv_tableIn (off := 471) (tgt := 511) hx9 hb9 dL_law_40 (by rw [g8]; decide) (by rw [g8]; decide) (by rw [g8]; rfl) (by decide) (lc_511 S hX hbl I hin hc hl K)
  by_cases g9 : v.toInt = 9
  · exact lv_tableIn (off := 520) (tgt := 560) hx9 hb9 dL_law_40 (by rw [g9]; decide) (by rw [g9]; decide) (by rw [g9]; rfl) (by decide) (lc_560 S hX hbl I hin hc hl K)
  by_cases g10 : v.toInt = 10
  · exact lv_tableIn (off := 557) (tgt := 597) hx9 hb9 dL_law_40 (by rw [g10]; decide) (by rw [g10]; decide) (by rw [g10]; rfl) (by decide) (lc_597 S hX hbl I hin hc hl K)
  by_cases g11 : v.toInt = 11
  · exact lv_tableIn (off := 582) (tgt := 622) hx9 hb9 dL_law_40 (by rw [g11]; decide) (by rw [g11]; decide) (by rw [g11]; rfl) (by decide) (lc_622 S hX hbl I hin hc hl K)
  by_cases g12 : v.toInt = 12
  · exact lv_tableIn (off := 607) (tgt := 647) hx9 hb9 dL_law_40 (by rw [g12]; decide) (by rw [g12]; decide) (by rw [g12]; rfl) (by decide) (lc_647 S hX hbl I hin hc hl K)
  by_cases g13 : v.toInt = 13
  · exact lv_tableIn (off := 644) (tgt := 684) hx9 hb9 dL_law_40 (by rw [g13]; decide) (by rw [g13]; decide) (by rw [g13]; rfl) (by decide) (lc_684 S hX hbl I hin hc hl K)
  by_cases g14 : v.toInt = 14
  · exact lv_tableIn (off := 681) (tgt := 721) hx9 hb9 dL_law_40 (by rw [g14]; decide) (by rw [g14]; decide) (by rw [g14]; rfl) (by decide) (lc_721 S hX hbl I hin hc hl K)
  by_cases g15 : v.toInt = 15
  · exact lv_tableIn (off := 718) (tgt := 758) hx9 hb9 dL_law_40 (by rw [g15]; decide) (by rw [g15]; decide) (by rw [g15]; rfl) (by decide) (lc_758 S hX hbl I hin hc hl K)
  by_cases g16 : v.toInt = 16
  · exact lv_tableIn (off := 743) (tgt := 783) hx9 hb9 dL_law_40 (by rw [g16]; decide) (by rw [g16]; decide) (by rw [g16]; rfl) (by decide) (lc_783 S hX hbl I hin hc hl K)
  by_cases g17 : v.toInt = 17
  · exact lv_tableIn (off := 780) (tgt := 820) hx9 hb9 dL_law_40 (by rw [g17]; decide) (by rw [g17]; decide) (by rw [g17]; rfl) (by decide) (lc_820 S hX hbl I hin hc hl K)
  by_cases g18 : v.toInt = 18
  · exact lv_tableIn (off := 829) (tgt := 869) hx9 hb9 dL_law_40 (by rw [g18]; decide) (by rw [g18]; decide) (by rw [g18]; rfl) (by decide) (lc_869 S hX hbl I hin hc hl K)
  by_cases g19 : v.toInt = 19
  · exact lv_tableIn (off := 866) (tgt := 906) hx9 hb9 dL_law_40 (by rw [g19]; decide) (by rw [g19]; decide) (by rw [g19]; rfl) (by decide) (lc_906 S hX hbl I hin hc hl K)
  by_cases g20 : v.toInt = 20
  · exact lv_tableIn (off := 891) (tgt := 931) hx9 hb9 dL_law_40 (by rw [g20]; decide) (by rw [g20]; decide) (by rw [g20]; rfl) (by decide) (lc_931 S hX hbl I hin hc hl K)
  by_cases g21 : v.toInt = 21
  · exact lv_tableIn (off := 928) (tgt := 968) hx9 hb9 dL_law_40 (by rw [g21]; decide) (by rw [g21]; decide) (by rw [g21]; rfl) (by decide) (lc_968 S hX hbl I hin hc hl K)
  by_cases g22 : v.toInt = 22
  · exact lv_tableIn (off := 977) (tgt := 1017) hx9 hb9 dL_law_40 (by rw [g22]; decide) (by rw [g22]; decide) (by rw [g22]; rfl) (by decide) (lc_1017 S hX hbl I hin hc hl K)
  by_cases g23 : v.toInt = 23
  · exact lv_tableIn (off := 1026) (tgt := 1066) hx9 hb9 dL_law_40 (by rw [g23]; decide) (by rw [g23]; decide) (by rw [g23]; rfl) (by decide) (lc_1066 S hX hbl I hin hc hl K)
  by_cases g24 : v.toInt = 24
  · exact lv_tableIn (off := 1075) (tgt := 1115) hx9 hb9 dL_law_40 (by rw [g24]; decide) (by rw [g24]; decide) (by rw [g24]; rfl) (by decide) (lc_1115 S hX hbl I hin hc hl K)
  by_cases g25 : v.toInt = 25
  · exact lv_tableIn (off := 1100) (tgt := 1140) hx9 hb9 dL_law_40 (by rw [g25]; decide) (by rw [g25]; decide) (by rw [g25]; rfl) (by decide) (lc_1140 S hX hbl I hin hc hl K)
  by_cases g26 : v.toInt = 26
  · exact lv_tableIn (off := 1125) (tgt := 1165) hx9 hb9 dL_law_40 (by rw [g26]; decide) (by rw [g26]; decide) (by rw [g26]; rfl) (by decide) (lc_1165 S hX hbl I hin hc hl K)
  by_cases g27 : v.toInt = 27
  · exact lv_tableIn (off := 1138) (tgt := 1178) hx9 hb9 dL_law_40 (by rw [g27]; decide) (by rw [g27]; decide) (by rw [g27]; rfl) (by decide) (lc_1178 S hX hbl I hin hc hl K)
  by_cases g28 : v.toInt = 28
  · exact lv_tableIn (off := 1175) (tgt := 1215) hx9 hb9 dL_law_40 (by rw [g28]; decide) (by rw [g28]; decide) (by rw [g28]; rfl) (by decide) (lc_1215 S hX hbl I hin hc hl K)
  by_cases g29 : v.toInt = 29
  · exact lv_tableIn (off := 1200) (tgt := 1240) hx9 hb9 dL_law_40 (by rw [g29]; decide) (by rw [g29]; decide) (by rw [g29]; rfl) (by decide) (lc_1240 S hX hbl I hin hc hl K)
  by_cases g30 : v.toInt = 30
  · exact lv_tableIn (off := 1249) (tgt := 1289) hx9 hb9 dL_law_40 (by rw [g30]; decide) (by rw [g30]; decide) (by rw [g30]; rfl) (by decide) (lc_1289 S hX hbl I hin hc hl K)
  by_cases g31 : v.toInt = 31
  · exact lv_tableIn (off := 1274) (tgt := 1314) hx9 hb9 dL_law_40 (by rw [g31]; decide) (by rw [g31]; decide) (by rw [g31]; rfl) (by decide) (lc_1314 S hX hbl I hin hc hl K)
  by_cases g32 : v.toInt = 32
  · exact lv_tableIn (off := 1299) (tgt := 1339) hx9 hb9 dL_law_40 (by rw [g32]; decide) (by rw [g32]; decide) (by rw [g32]; rfl) (by decide) (lc_1339 S hX hbl I hin hc hl K)
  by_cases g33 : v.toInt = 33
  · exact lv_tableIn (off := 1324) (tgt := 1364) hx9 hb9 dL_law_40 (by rw [g33]; decide) (by rw [g33]; decide) (by rw [g33]; rfl) (by decide) (lc_1364 S hX hbl I hin hc hl K)
  by_cases g34 : v.toInt = 34
  · exact lv_tableIn (off := 1373) (tgt := 1413) hx9 hb9 dL_law_40 (by rw [g34]; decide) (by rw [g34]; decide) (by rw [g34]; rfl) (by decide) (lc_1413 S hX hbl I hin hc hl K)
  by_cases g35 : v.toInt = 35
  · exact lv_tableIn (off := 1422) (tgt := 1462) hx9 hb9 dL_law_40 (by rw [g35]; decide) (by rw [g35]; decide) (by rw [g35]; rfl) (by decide) (lc_1462 S hX hbl I hin hc hl K)
  by_cases g36 : v.toInt = 36
  · exact lv_tableIn (off := 1435) (tgt := 1475) hx9 hb9 dL_law_40 (by rw [g36]; decide) (by rw [g36]; decide) (by rw [g36]; rfl) (by decide) (lc_1475 S hX hbl I hin hc hl K)
  by_cases g37 : v.toInt = 37
  · exact lv_tableIn (off := 1448) (tgt := 1488) hx9 hb9 dL_law_40 (by rw [g37]; decide) (by rw [g37]; decide) (by rw [g37]; rfl) (by decide) (lc_1488 S hX hbl I hin hc hl K)
  by_cases g38 : v.toInt = 38
  · exact lv_tableIn (off := 1461) (tgt := 1501) hx9 hb9 dL_law_40 (by rw [g38]; decide) (by rw [g38]; decide) (by rw [g38]; rfl) (by decide) (lc_1501 S hX hbl I hin hc hl K)
  refine lv_tableOut (tgt := 1526) hx9 hb9 dL_law_40 ?_ (by decide) (W.widen (k := cl + 1) (n := sl + 6) (Nat.le_succ _) (Nat.le_add_right _ _) (K _ _ _ _ _ _ I hl))
  omega
theorem in_of {k : Nat} (h : 6 * k + 6 ≤ L) (hL : L ≤ 3072) : IN (Z3 (6 * k : Nat)) L := by
  have one : ∀ n : Int, 0 ≤ n → n < 6 → vp_in (Z3 (6 * k : Nat) + Z3 n) L := fun n h1 h2 => (in_z3 (z3_add rfl rfl) (by omega) (by omega)).1
  exact ⟨(in_z3 (I := ((6 * k : Nat) : Int)) rfl (by omega) (by omega)).1, one 1 (by omega) (by omega), one 2 (by omega) (by omega), one 3 (by omega) (by omega), one 4 (by omega) (by omega), one 5 (by omega) (by omega)⟩
set_option maxHeartbeats 4000000 in
/-- call by call -/
theorem law_loop (hl0 : l.stackTraces = false) (hD : DW s) (S : CallFix p m c cL_law 7 s #[Value.ref b] lw_tbl RL) (hr : meth.sig.returnType = ret) (hlo : meth.locks = false) (hX : va_X b L xs s s.heap) (hbl : b < s.heap.size) (hL : L ≤ 3072) : ∀ (d k : Nat) (hx hm : PH) (f : Nat → Int64) (H : Heap) (locs : List Loc) (ls : Array Slot) (cl sl : Nat), L < 6 * (k + d) + 6 → k ≤ 512 → LW D cy hx hm f s H locs → lv_has ls 7 (LV b s (Z3 (6 * k : Nat))) → cl ≤ 154 + k → sl ≤ 5406 + 6 * k → W p l e room_1 s m #[Value.ref b] below meth c H locs cl sl (lw_Z below #[Value.ref b] s) (F0 m 23 ls []) := by
  have hbA : ¬ A0 s b := Nat.not_le.mpr hbl
  have hx9 := S.1
  have hb9 := S.2.1
  intro d
  induction d with
  | zero =>
    intro k hx hm f H locs ls cl sl h1 hk I hl h2 h3
    have hS := I.1.2.2.1
    refine lv_iload hx9 hb9 dL_law_23 (lv_at hl 4 rfl) ?_
    refine lv_aload_n hx9 hb9 dL_law_25 rfl (lv_at hl 0 rfl) ?_
    refine va_slen (A := A0 s) hx9 hb9 hX hbl hbA hS dL_law_26 ?_
    refine lv_bipush (v := 6) hx9 hb9 dL_law_27 (by decide) ?_
    refine lv_isub hx9 hb9 dL_law_29 ?_
    refine lv_icmp_gt (tgt := 1532) hx9 hb9 dL_law_30 (by decide) (fun _ => ?_) (fun z => ?_)
    · exact law_out S hr hlo hS (by omega) (by omega)
    · have q : ¬ ((L : Int) - 6 < ((6 * k : Nat) : Int)) := fun w9 => z ((z3_lt (z3_sub (show Int32.ofNat L = Z3 (L : Int) from rfl) (show (6 : Int32) = Z3 6 from rfl)) (rfl : Z3 ((6 * k : Nat) : Int) = Z3 ((6 * k : Nat) : Int)) ⟨by omega, by omega⟩ ⟨by omega, by omega⟩).mpr w9)
      omega
  | succ d ih =>
    intro k hx hm f H locs ls cl sl h1 hk I hl h2 h3
    have hS := I.1.2.2.1
    refine lv_iload hx9 hb9 dL_law_23 (lv_at hl 4 rfl) ?_
    refine lv_aload_n hx9 hb9 dL_law_25 rfl (lv_at hl 0 rfl) ?_
    refine va_slen (A := A0 s) hx9 hb9 hX hbl hbA hS dL_law_26 ?_
    refine lv_bipush (v := 6) hx9 hb9 dL_law_27 (by decide) ?_
    refine lv_isub hx9 hb9 dL_law_29 ?_
    refine lv_icmp_gt (tgt := 1532) hx9 hb9 dL_law_30 (by decide) (fun _ => ?_) (fun z => ?_)
    · exact law_out S hr hlo hS (by omega) (by omega)
    · have q : ¬ ((L : Int) - 6 < ((6 * k : Nat) : Int)) := fun w9 => z ((z3_lt (z3_sub (show Int32.ofNat L = Z3 (L : Int) from rfl) (show (6 : Int32) = Z3 6 from rfl)) (rfl : Z3 ((6 * k : Nat) : Int) = Z3 ((6 * k : Nat) : Int)) ⟨by omega, by omega⟩ ⟨by omega, by omega⟩).mpr w9)
      have hk6 : 6 * k + 6 ≤ L := by omega
      refine law_sw hl0 hD S hX hbl I (in_of hk6 hL) ⟨by omega, by omega⟩ hl (fun hx' hm' f' H' locs' ls' I' hl' => ?_)
      refine lv_iinc (v := Z3 (6 * (k + 1) : Nat)) (lv' := [(4, .int (Z3 (6 * (k + 1) : Nat))), (0, .ref b), (1, .ref (s.heap.size + 0)), (2, .ref (s.heap.size + 110 + 0)), (3, .ref (s.heap.size + 153 + 0))]) hx9 hb9 dL_law_1526 hl' (k := 4) rfl ?_ (by decide) rfl (fun ls hl => ?_)
      · rw [z3_add (rfl : Z3 ((6 * k : Nat) : Int) = Z3 ((6 * k : Nat) : Int)) (show Int32.ofInt 6 = Z3 6 from rfl)]
        congr 1
      refine lv_goto (tgt := 23) hx9 hb9 dL_law_1529 (by decide) ?_
      exact ih (k + 1) hx' hm' f' H' locs' ls (cl + 1) (sl + 6) (by omega) (by omega) I' (lv_sub hl [1, 2, 3, 4, 0] rfl) (by omega) (by omega)
end LS
set_option maxHeartbeats 4000000 in
theorem whole_start {p : Program} {e : Env} {s : State} {m : MethodId} {below : List Frame} {meth : Method} {c : Code} (l : Launch) (hflags : l.flags = flags0) {b L : Nat} {xs : Nat → Int32} (hL : L ≤ 3072) (C0 : lw_At p s m meth c b L xs) : W p l e room_1 s m #[Value.ref b] below meth c s.heap [] 0 0 (lw_Z below #[Value.ref b] s) (entryFrame m ([Value.ref b] : List Value).toArray 7) := by
  obtain ⟨hx, hb, hr, hml, hown, hts, hX, hbl, hlocks, hgv⟩ := C0
  have S : CallFix p m c cL_law 7 s #[Value.ref b] lw_tbl RL := ⟨hx, hb, hml, hown, hts⟩
  obtain ⟨D, cy, hK, hXX⟩ := law_facts hts hgv
  have hl0 : l.stackTraces = false := by unfold Launch.stackTraces; rw [hflags]; decide
  have hbA : ¬ A0 s b := Nat.not_le.mpr hbl
  have hl := lv_entry ([.ref b]) (n := 7) (Nat.le_of_ble_eq_true rfl)
  rw [lg_entry_eq]
  generalize (lg_sl ([.ref b]) ++ List.replicate (7 - (lg_sl ([.ref b])).length) Slot.unset).toArray = ls at hl ⊢
  have hl : lv_has ls 7 [(0, .ref b)] := hl
  have I : ph_I D cy s.heap.size (A0 s) true [] s s.heap [] := ⟨fun k q h => by simp [ph_w] at h, hK, va_S.rf, fun i hi => absurd hi (Nat.not_lt_zero _), fun _ => rfl, hXX⟩
  refine o_new (h' := hx0) S lnL_8 I (fun q h => h) rfl (Nat.le_of_ble_eq_true rfl) (Nat.le_of_ble_eq_true rfl) dL_law_0 (fun H1 I => ?_)
  have hl2 := hl
  show W p l e room_1 s m #[Value.ref b] below meth c H1 [] (0 + 1) (0 + 14) (lw_Z below #[Value.ref b] s) (F0 m 3 ls [.ref (s.heap.size + 0)])
  refine lv_dup hx hb dL_law_3 rfl ?_
  refine o_Iv S (As := []) (rest := [.ref (s.heap.size + 0)]) (M11_init l D cy s.heap.size (A0 s) (fun q h => h) hxF_eq) (gI_law wT_1_9) ⟨TB_in _ wT_1_2, TB_in _ wT_1_7, TB_in _ wT_1_8⟩ rfl rfl rfl rfl cdL_11_init ⟨Nat.le_of_ble_eq_true rfl, Nat.le_of_ble_eq_true rfl⟩ I rfl hl.1 rfl (Nat.le_of_ble_eq_true rfl) dL_law_4 ⟨Nat.le_of_ble_eq_true rfl, Nat.le_of_ble_eq_true rfl⟩ (fun H2 locs2 I => ?_)
  refine lv_astore_n (lv' := [(1, .ref (s.heap.size + 0)), (0, .ref b)]) hx hb dL_law_7 rfl hl (by decide) rfl (fun ls hl => ?_)
  refine o_new S lnL_18 I (fun q h => h) (nCx _ _) (Nat.le_of_ble_eq_true rfl) (Nat.le_of_ble_eq_true rfl) dL_law_8 (fun H3 I => ?_)
  rw [lgX]
  have I1 : LM D cy s.heap.size 110 hxF s H3 locs2 := ⟨sp1 I.1, hK, I.2.2.1, lenX, hXX⟩
  have I2 : LM D cy (s.heap.size + 110) 43 hm0 s H3 locs2 := by
    refine ⟨sp3 ?_, hK, I.2.2.1, fun i hi => Nat.lt_of_lt_of_le hi (by decide), hXX⟩
    rw [zfree (s.heap.size + 110) s.heap.size]
    exact sp2 I.1 lgX
  have hz3 : H3.size = s.heap.size + 110 + hm0.length := by
    have := I.2.2.2.2.1 rfl
    rw [sp4 lgX] at this
    exact this
  show W p l e room_1 s m #[Value.ref b] below meth c H3 locs2 (0 + 1 + 109 + 1) (0 + 14 + 2977 + 87) (lw_Z below #[Value.ref b] s) (F0 m 11 ls [.ref (s.heap.size + 110 + 0)])
  refine lv_dup hx hb dL_law_11 rfl ?_
  refine l_Iv (A := fun q => s.heap.size + 110 ≤ q) S (rest := [.ref (s.heap.size + 110 + 0)]) (M12_init l D cy (s.heap.size + 110) (fun q => s.heap.size + 110 ≤ q) (fun q h => h) hmF_eq) (gI_law wT_9_19) ⟨TB_in _ wT_1_5, TB_in _ wT_9_17, TB_in _ wT_9_18⟩ rfl rfl rfl rfl cdL_12_init ⟨Nat.le_of_ble_eq_true rfl, Nat.le_of_ble_eq_true rfl⟩ I2 (Nat.le_add_right _ _) hz3 (fun q h => h) (fun i hi => Nat.le_add_right _ _) lenM hl.1 rfl (Nat.le_of_ble_eq_true rfl) dL_law_12 ⟨Nat.le_of_ble_eq_true rfl, Nat.le_of_ble_eq_true rfl⟩ (fun H4 locs4 I2 hz4 hk4 => ?_)
  have I1 := LM_kept I1 (A := fun q => s.heap.size + 110 ≤ q) (fun i hi z => by have z : s.heap.size + 110 ≤ s.heap.size + i := z; omega) hk4 I2.2.2.1
  refine lv_astore_n (lv' := [(2, .ref (s.heap.size + 110 + 0)), (1, .ref (s.heap.size + 0)), (0, .ref b)]) hx hb dL_law_15 rfl hl (by decide) rfl (fun ls hl => ?_)
  refine lv_iconst (v := 1) hx hb dL_law_16 (by decide) ?_
  have Im : ph_I D cy (s.heap.size + 110) (A0 s) true hmF s H4 locs4 := ⟨I2.1, hK, I2.2.2.1, fun i hi => by show s.heap.size ≤ _; omega, fun _ => hz4, hXX⟩
  have hAn : ∀ q, s.heap.size + 110 ≤ q → A0 s q := fun q z => by show s.heap.size ≤ q; omega
  refine va_newaK hx hb (atype := .long) (hts _ (TB_in _ wT_1_6)) rfl dL_law_17 rfl (N := 1) (by decide) (by decide) (by decide) (Nat.le_of_ble_eq_true rfl) (Nat.le_of_ble_eq_true rfl) hz4 fun H5 cA e5 z5 o5 hAr hNm => ?_
  have hcA : cA = cy 3 := Option.some.inj (hNm.symm.trans (ph_cls Im (t := 3) (ty := .long) rfl (fun _ q => by cases q)))
  subst hcA
  have I5 : ph_I D cy (s.heap.size + 110) (A0 s) true (hmF ++ [zJ 1]) s H5 locs4 := ph_I_push Im hAn e5 (by rw [z5, hz4]) (fun q hq => o5 q (by rw [← hz4]; exact hq))
  have I1 := LM_kept I1 (A := fun _ => False) (fun i hi z => z) (fun q hq _ => o5 q (by rw [← hz4]; exact hq)) I5.2.2.1
  have I2 : LM D cy (s.heap.size + 110) 43 hmF s H5 locs4 := ⟨sp1 I5.1, hK, I5.2.2.1, lenM, hXX⟩
  have e153 : s.heap.size + 110 + 43 = s.heap.size + 153 := by omega
  have I3 : LM D cy (s.heap.size + 153) 1 (wO (fun _ => 0)) s H5 locs4 := by
    refine ⟨sp3 (c := zJ 1) ?_, hK, I5.2.2.1, fun i hi => hi, hXX⟩
    have z := sp2 I5.1 lgM
    rw [e153] at z
    exact z
  rw [lgM, e153]
  refine W.widen (k := 154) (n := 5406) (Nat.le_of_ble_eq_true rfl) (Nat.le_of_ble_eq_true rfl) ?_
  show W p l e room_1 s m #[Value.ref b] below meth c H5 locs4 154 5406 (lw_Z below #[Value.ref b] s) (F0 m 19 ls [.ref (s.heap.size + 153 + 0)])
  refine lv_astore_n (lv' := [(3, .ref (s.heap.size + 153 + 0)), (2, .ref (s.heap.size + 110 + 0)), (1, .ref (s.heap.size + 0)), (0, .ref b)]) hx hb dL_law_19 rfl hl (by decide) rfl (fun ls hl => ?_)
  refine lv_iconst (v := 0) hx hb dL_law_20 (by decide) ?_
  refine lv_istore (lv' := [(4, .int 0), (3, .ref (s.heap.size + 153 + 0)), (2, .ref (s.heap.size + 110 + 0)), (1, .ref (s.heap.size + 0)), (0, .ref b)]) hx hb dL_law_21 hl (by decide) rfl (fun ls hl => ?_)
  exact law_loop hl0 (law_DW hts hgv) S hr hlocks hX hbl hL 512 0 hxF hmF (fun _ => 0) H5 locs4 ls 154 5406 (by omega) (by omega) ⟨I1, I2, I3, lr0⟩ (lv_sub hl [4, 3, 2, 1, 0] rfl) (Nat.le_refl _) (Nat.le_refl _)
