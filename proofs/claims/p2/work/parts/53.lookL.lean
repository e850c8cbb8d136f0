/-! The law's own look, and its case in the law. -/
def vL_look : List Cond := .codeWith yL_look cL_look 5 (some .int) [(0, 10, 13, 13), (0, 10, 17, 15)] :: TB
theorem gL_look_X11 : GoodIn vL_look (wsV RL 7 RX11 yX11_look vX11_look) := gV_of wT_33_3 wT_33_4 wT_33_5 wT_1_2 wT_33_6
theorem cdX11_look : Cd yX11_look 2 := ⟨by decide, by decide, by decide +kernel⟩
section OL2
variable {p : Program} {l : Launch} {e : Env} {R : Room} {s : State} {m : MethodId} {args : Array Value} {below : List Frame} {meth : Method} {c : Code} {H : Heap} {locs : List Loc} {cells slots : Nat} {Q : State → Prop}
variable {cc : ByteArray} {nL pc : Nat} {ls : Array Slot} {rest : List Value} {D : va_G} {cy : Nat → ClassId} {b : Nat} {A : Nat → Prop} {fl : Bool} {h h' : PH} {Ts : List Cond} {own : String}
theorem o_last2 (S : CallFix p m c cc nL s args Ts own) (I : ph_I D cy b A fl h s H locs) {a : Nat} {i : Int32} {x : Int64} (g : sJ h a i x = some h') (hdg : decode cc pc = .ok (.lastore, 1))
    (kk : ∀ (H1 : Heap) (locs1 : List Loc), ph_I D cy b A fl h' s H1 locs1 → (∀ q : Nat, q ≠ b + a → H1[q]? = H[q]?) → W p l e R s m args below meth c H1 locs1 cells slots Q (F0 m (pc + 1) ls rest)) : W p l e R s m args below meth c H locs cells slots Q (F0 m pc ls (.long x :: .int i :: .ref (b + a) :: rest)) := by
  obtain ⟨n, f, e1, hin, rfl⟩ := sJ_spec g
  refine W.last S.1 S.2.1 (I.1 a _ (ph_w_get e1)) ((I.2.1.2 3 _ rfl).1 n (fun j => .long (f j))) (fun q => by cases q) (by show ¬ (i < 0 ∨ (arrV _ _ _).slots.size ≤ _); rw [arrV_size]; exact hin) rfl rfl hdg fun H1 e9 z oq => ?_
  refine kk H1 _ (ph_I_set I e1 ?_ z oq) oq
  show H1[b + a]? = some (vp_cell (cy 3) (n, .inr (.inl (vp_updL f i.toNatClampNeg x))))
  rw [e9]
  show some ((vp_cell (cy 3) (n, .inr (.inl f))).setSlot _ _) = _
  rw [vp_cell_l, vp_cell_l, arrV_store]
  congr 2
  funext q
  by_cases hq : q = i.toNatClampNeg
  · subst hq
    simp [updV, vp_updL]
  · simp [updV, vp_updL, hq]
end OL2
theorem sJ_o (f : Nat → Int64) (x : Int64) : sJ (wO f) 0 0 x = some (wO (vp_updL f (0 : Int32).toNatClampNeg x)) := rfl
/-- what the law's look may change -/
def AL (b q3 : Nat) (q : Nat) : Prop := Aw b 110 q ∨ q = q3 + 0
/-- its worlds -/
def QB2 (D : va_G) (cy : Nat → ClassId) (b q3 : Nat) (h : PH) (f : Nat → Int64) (U : State) : Prop := (ph_B D cy b (Aw b 110) false h U ∧ DW U) ∧ va_P D ph_cl (ph_w q3 cy (wO f)) U.heap ∧ ph_X cy (AL b q3) U
theorem QB2_blind (D : va_G) (cy : Nat → ClassId) (b q3 : Nat) (h : PH) (f : Nat → Int64) (av : List Value) : FrameBlind (va_Pc av (QB2 D cy b q3 h f)) := by
  intro a U g mk q
  obtain ⟨q0, q1, q2, q3⟩ := q
  have k := PB_blind D cy b (Aw b 110) h av a U g mk ⟨q0, q1⟩
  exact ⟨q0, k.2, q2, ph_X_move (s := U) (U := U.calling g mk a) q3 va_S.rf rfl (State.WarmedH.refl U)⟩
set_option maxHeartbeats 4000000 in
theorem ML_look (l : Launch) (hl0 : l.stackTraces = false) (D : va_G) (cy : Nat → ClassId) (b q3 : Nat) (h3 : b + 110 ≤ q3) {h h1 : PH} (hn : h.length = 110) (hn1 : h1.length = 110) {f : Nat → Int64} {x1 x2 sf : Int32} (ho : okO h 0 11 = true) (ho1 : okO h1 0 11 = true) (g : F11_isSurfer h 0 x1 = some (sf, h1)) (PR : Int32 → PH × (Nat → Int64) → Prop) (K : (sf = 0 ∧ PR 1 (h1, f)) ∨ (sf = 1 ∧ ¬ (0 ≤ x2.toInt ∧ x2.toInt ≤ 5) ∧ PR 2 (h1, f)) ∨ (sf = 1 ∧ ∃ r h', LN h1 x1 x2 r h' ∧ h'.length = 110 ∧ PR 0 (h', vp_updL f (0 : Int32).toNatClampNeg r.toInt64))) : vx_Met l yL_look vL_look ({ frames := 7, cells := 1, slots := 6, locals := 200 } : Room) (va_Pc [.ref (b + 0), .int x1, .int x2, .ref (q3 + 0)] (QB2 D cy b q3 h f)) (va_Qi PR (fun u t => (va_P D ph_cl (ph_w b cy u.1) t.heap ∧ u.1.length = 110) ∧ va_P D ph_cl (ph_w q3 cy (wO u.2)) t.heap) (AL b q3)) (vx_X (fun _ : PH => False) (fun _ _ _ => True) (AL b q3)) 1 6 (AL b q3) := by
  refine vx_ofWH (cc := cL_look) (maxL := 5) (ret := some .int) (by decide) rfl ?_
  intro p e s m args below meth c s₁ B hml hv
  obtain ⟨rfl, ⟨⟨hP, hK, hA, hz, hX⟩, hD⟩, hP3, hX3⟩ := hv
  have hts := atoms_spec (ws := vL_look) B.pre
  have htab := vx_table (x := yL_look) B (hts _ List.mem_cons_self)
  have hown : s.vm.findClass RL = some m.cls := findClass_of_methodNamed B.named
  have S : CallFix p m c cL_look 5 s [Value.ref (b + 0), .int x1, .int x2, .ref (q3 + 0)].toArray vL_look RL := ⟨B.exec, B.bytes, hml, hown, hts⟩
  have I : ph_I D cy b (Aw b 110) false h s s.heap [] := ⟨hP, hK, va_S.rf, hA, hz, hX⟩
  have hr := B.returns
  have hlo := B.notSynchronized
  have hl := lv_entry ([.ref (b + 0), .int x1, .int x2, .ref (q3 + 0)]) (n := 5) (Nat.le_of_ble_eq_true rfl)
  rw [lg_entry_eq]
  generalize (lg_sl ([.ref (b + 0), .int x1, .int x2, .ref (q3 + 0)]) ++ List.replicate (5 - (lg_sl ([.ref (b + 0), .int x1, .int x2, .ref (q3 + 0)])).length) Slot.unset).toArray = ls at hl ⊢
  have hl : lv_has ls 5 [(0, .ref (b + 0)), (1, .int x1), (2, .int x2), (3, .ref (q3 + 0))] := hl
  obtain ⟨fs, e1⟩ := okO_spec ho
  have hAL : ∀ q, Aw b 110 q → AL b q3 q := fun q z => Or.inl z
  -- the place of out stands
  have out : ∀ H1 : Heap, (∀ q : Nat, q < s.heap.size → ¬ Aw b 110 q → H1[q]? = s.heap[q]?) → va_P D ph_cl (ph_w q3 cy (wO f)) H1 := fun H1 hk => vaP_keep hP3 (fun q hq z => hk q hq (by
    obtain ⟨i, _, e9⟩ := z
    intro z2
    have := z2.2
    omega))
  refine lv_aload_n S.1 S.2.1 dL_look_0 rfl (lv_at hl 3 rfl) ?_
  refine lv_iconst (v := 0) S.1 S.2.1 dL_look_1 (by decide) ?_
  refine lv_aload_n S.1 S.2.1 dL_look_2 rfl (lv_at hl 0 rfl) ?_
  refine lv_iload_n S.1 S.2.1 dL_look_3 rfl (lv_at hl 1 rfl) ?_
  refine lv_iload_n S.1 S.2.1 dL_look_4 rfl (lv_at hl 2 rfl) ?_
  refine vx_calli (A0 := AL b q3) (H0 := s.heap) (vx_runV (As := [.int x1, .int x2]) (rest := [.int 0, .ref (q3 + 0)]) (b := b + 0) (C := RX11) S (M11_lookA l hl0 D cy b (Aw b 110) ho ho1 g (fun E => (E = ph_E1 ∧ PR 1 (h1, f)) ∨ (E = ph_E2 ∧ PR 2 (h1, f))) (fun r u => u.length = 110 ∧ PR 0 (u, vp_updL f (0 : Int32).toNatClampNeg r.toInt64)) (by
    rcases K with ⟨k1, k2⟩ | ⟨k1, k2, k3⟩ | ⟨k1, r, h', k2, k3, k4⟩
    · exact Or.inl ⟨k1, Or.inl ⟨rfl, k2⟩⟩
    · exact Or.inr (Or.inl ⟨k1, k2, Or.inr ⟨rfl, k3⟩⟩)
    · exact Or.inr (Or.inr ⟨k1, r, h', k2, k3, k4⟩))) (cwV 2 hts gL_look_X11 rfl rfl rfl ⟨rfl, cdX11_look⟩ ⟨Nat.le_of_ble_eq_true rfl, Nat.le_of_ble_eq_true rfl⟩) ⟨PB_blind D cy b (Aw b 110) h _, va_recv I.2.1 I.1 clX11 (ph_w_get e1), fun U hU hW => ⟨rfl, (ph_pre (av := []) I U hU hW).2, DW_move hD hW⟩⟩ rfl rfl hl.1 rfl (lv_room (Nat.le_of_ble_eq_true rfl)) dL_look_5 ⟨Nat.le_of_ble_eq_true rfl, Nat.le_of_ble_eq_true rfl⟩) va_S.rf (fun q _ h => hAL q h) (fun q h => hAL q h) (fun q _ h => hAL q h) (fun E ce q9 u t H1 locs1 ht hvm hp hB hz hk hS hcell hcv hcl => ?_) (fun r u t H1 locs1 ht hvm hw hB hz hk hS => ?_)
  · obtain ⟨hE, hPx⟩ := hB
    rw [ht] at hPx
    have hPo := out H1 hk
    rcases hE with ⟨rfl, k⟩ | ⟨rfl, k⟩
    · have hc : (Cond.castable ph_E1 ph_E1).before [Value.ref (b + 0), .int x1, .int x2, .ref (q3 + 0)].toArray s = true := va_tabs rfl rfl hX.2.2.2.2.2.2.2.1
      refine vx_catch (own := RL) (name := ph_E1) hown [] { startPc := 0, endPc := 10, handlerPc := 13, catchType := 13 } [{ startPc := 0, endPc := 10, handlerPc := 17, catchType := 15 }] (by rw [htab]; rfl) (fun z hz => nomatch hz) (by decide) (by decide) (hts _ (List.mem_cons_of_mem _ wT_33_1)) hc hcell hcv hcl ?_
      refine lv_astore (lv' := [(4, .ref q9), (0, .ref (b + 0)), (1, .int x1), (2, .int x2), (3, .ref (q3 + 0))]) S.1 S.2.1 dL_look_13 hl (by decide) rfl (fun ls hl => ?_)
      refine lv_iconst (v := 1) S.1 S.2.1 dL_look_15 (by decide) ?_
      exact vx_ret (W.iret S.1 S.2.1 hr (fun t ht hW => ⟨⟨1, (h1, f), rfl, k, by dsimp only; rw [ht]; exact ⟨⟨hPx, hn1⟩, hPo⟩⟩, hS.F ht⟩) hS.2.2 dL_look_16 hlo)
    · have hc : (Cond.castable ph_E2 ph_E2).before [Value.ref (b + 0), .int x1, .int x2, .ref (q3 + 0)].toArray s = true := va_tabs rfl rfl hX.2.2.2.2.2.2.2.2.1
      refine vx_catch (own := RL) (name := ph_E2) hown [{ startPc := 0, endPc := 10, handlerPc := 13, catchType := 13 }] { startPc := 0, endPc := 10, handlerPc := 17, catchType := 15 } [] (by rw [htab]; rfl) (fun z hz => Or.inr (by
        rw [List.mem_singleton] at hz
        subst hz
        exact ⟨by decide, ph_E1, hts _ (List.mem_cons_of_mem _ wT_33_1), hD.2⟩)) (by decide) (by decide) (hts _ (List.mem_cons_of_mem _ wT_33_2)) hc hcell hcv hcl ?_
      refine lv_astore (lv' := [(4, .ref q9), (0, .ref (b + 0)), (1, .int x1), (2, .int x2), (3, .ref (q3 + 0))]) S.1 S.2.1 dL_look_17 hl (by decide) rfl (fun ls hl => ?_)
      refine lv_iconst (v := 2) S.1 S.2.1 dL_look_19 (by decide) ?_
      exact vx_ret (W.iret S.1 S.2.1 hr (fun t ht hW => ⟨⟨2, (h1, f), rfl, k, by dsimp only; rw [ht]; exact ⟨⟨hPx, hn1⟩, hPo⟩⟩, hS.F ht⟩) hS.2.2 dL_look_20 hlo)
  · obtain ⟨k1, k⟩ := hw
    have hPx : va_P D ph_cl (ph_w b cy u) H1 := by rw [← ht]; exact hB.1
    have hPo := out H1 hk
    have I3 : ph_I D cy q3 (AL b q3) false (wO f) s H1 locs1 := ⟨hPo, hK, hS, fun i hi => by
      have e9 : (wO f).length = 1 := rfl
      have : i = 0 := by omega
      subst this
      exact Or.inr rfl, (fun z => by cases z), hX3⟩
    refine lv_i2l S.1 S.2.1 dL_look_8 rfl ?_
    refine o_last2 S I3 (sJ_o f _) dL_look_9 (fun H2 locs2 I4 oq => ?_)
    refine lv_goto (tgt := 21) S.1 S.2.1 dL_look_10 (by decide) ?_
    refine lv_iconst (v := 0) S.1 S.2.1 dL_look_21 (by decide) ?_
    have hPx2 : va_P D ph_cl (ph_w b cy u) H2 := vaP_keep hPx (fun q hq z => oq q (by
      obtain ⟨i, hi, e9⟩ := z
      omega))
    exact vx_ret (W.iret S.1 S.2.1 hr (fun t ht hW => ⟨⟨0, (u, vp_updL f (0 : Int32).toNatClampNeg r.toInt64), rfl, k, by dsimp only; rw [ht]; exact ⟨⟨hPx2, k1⟩, I4.1⟩⟩, I4.2.2.1.F ht⟩) I4.2.2.1.2.2 dL_look_22 hlo)
theorem gS_law : GoodIn lw_tbl (va_wsS RL 39 yL_look vL_look) := by
  have k : ∀ w ∈ va_wsS RL 39 yL_look vL_look, w ∈ TB := by
    intro w hw
    unfold va_wsS at hw
    rcases List.mem_append.mp hw with h | h
    · rcases List.mem_cons.mp h with e | h
      · rw [e]; exact wT_32_21
      · rcases List.mem_cons.mp h with e | h
        · rw [e]; exact wT_32_22
        · rcases List.mem_cons.mp h with e | h
          · rw [e]; exact wT_32_23
          · cases h
    · rcases List.mem_cons.mp h with e | h
      · rw [e]; exact wT_33_0
      · exact h
  exact fun w hw => ⟨TB_in w (k w hw), TB_good w (k w hw)⟩
theorem cdL_look : Cd yL_look 4 := ⟨by decide, by decide, by decide +kernel⟩
theorem gL_12_look : GoodIn lw_tbl (wsV RL 44 RX12 yX12_look vX12_look) := gV_law wT_34_10 wT_34_11 wT_34_12 wT_1_5 wT_34_13
theorem cdL_12_look : Cd yX12_look 2 := ⟨by decide, by decide, by decide +kernel⟩
section LK
variable {p : Program} {l : Launch} {e : Env} {s : State} {m : MethodId} {below : List Frame} {meth : Method} {c : Code} {b L : Nat} {xs : Nat → Int32} {D : va_G} {cy : Nat → ClassId} {H : Heap} {locs : List Loc} {ls : Array Slot}
set_option maxHeartbeats 4000000 in
theorem lc_360 (hl0 : l.stackTraces = false) (hD : DW s) (S : CallFix p m c cL_law 7 s #[Value.ref b] lw_tbl RL) (hX : va_X b L xs s s.heap) (hbl : b < s.heap.size) {hx hm : PH} {f : Nat → Int64} (I : LW D cy hx hm f s H locs) {i : Int32} (hin : IN i L) {cl sl : Nat} (hc : cl ≤ 1000 ∧ sl ≤ 20000) (hl : lv_has ls 7 (LV b s i)) (K : ∀ (hx' hm' : PH) (f' : Nat → Int64) (H' : Heap) (locs' : List Loc) (ls' : Array Slot), LW D cy hx' hm' f' s H' locs' → lv_has ls' 7 (LV b s i) → W p l e room_1 s m #[Value.ref b] below meth c H' locs' (cl + 1) (sl + 6) (lw_Z below #[Value.ref b] s) (F0 m 1526 ls' [])) : W p l e room_1 s m #[Value.ref b] below meth c H locs cl sl (lw_Z below #[Value.ref b] s) (F0 m 360 ls []) := by
  have hbA : ¬ A0 s b := Nat.not_le.mpr hbl
  have hx9 := S.1
  have hb9 := S.2.1
  obtain ⟨I1, I2, I3, L0⟩ := I
  have hS := I1.2.2.1
  obtain ⟨_, v1, v2, v3, v4, v5⟩ := hin
  obtain ⟨om, hm', sf, h1, em, es, o1, kk⟩ := p_look L0 (xs (i + 1).toNatClampNeg) (xs (i + 2).toNatClampNeg)
  have hA1 : ∀ q, Aw s.heap.size 110 q → s.heap.size ≤ q := fun q z => z.1
  have hA2 : ∀ q, AL s.heap.size (s.heap.size + 153) q → A0 s q := fun q z => by
    rcases z with z | z
    · exact z.1
    · show s.heap.size ≤ q
      omega
  have hl : lv_has ls 7 [(0, .ref b), (1, .ref (s.heap.size + 0)), (2, .ref (s.heap.size + 110 + 0)), (3, .ref (s.heap.size + 153 + 0)), (4, .int i)] := hl
  refine lv_aload_n hx9 hb9 dL_law_360 rfl (lv_at hl 1 rfl) ?_
  refine lv_aload_n hx9 hb9 dL_law_361 rfl (lv_at hl 0 rfl) ?_
  refine lv_iload hx9 hb9 dL_law_362 (lv_at hl 4 rfl) ?_
  refine lv_iconst (v := 1) hx9 hb9 dL_law_364 (by decide) ?_
  refine lv_iadd hx9 hb9 dL_law_365 ?_
  refine va_sld (A := A0 s) hx9 hb9 hX hbl hbA hS v1 dL_law_366 ?_
  refine lv_aload_n hx9 hb9 dL_law_367 rfl (lv_at hl 0 rfl) ?_
  refine lv_iload hx9 hb9 dL_law_368 (lv_at hl 4 rfl) ?_
  refine lv_iconst (v := 2) hx9 hb9 dL_law_370 (by decide) ?_
  refine lv_iadd hx9 hb9 dL_law_371 ?_
  refine va_sld (A := A0 s) hx9 hb9 hX hbl hbA hS v2 dL_law_372 ?_
  refine lv_aload_n hx9 hb9 dL_law_373 rfl (lv_at hl 3 rfl) ?_
  refine vx_calli (A0 := A0 s) (H0 := s.heap) (vx_runSX (As := [.ref (s.heap.size + 0), .int (xs (i + 1).toNatClampNeg), .int (xs (i + 2).toNatClampNeg), .ref (s.heap.size + 153 + 0)]) (rest := []) S (ML_look l hl0 D cy s.heap.size (s.heap.size + 153) (by omega) (x_ok L0.1).2 (x_ok o1).2 (f := f) (x_ok L0.1).1 (x_ok o1).1 es (fun _ u => LRl u.1 hm') (by
    rcases kk with ⟨k1, k2, _⟩ | ⟨k1, k2, k3, _⟩ | ⟨k1, h', k2, k3, _⟩
    · exact Or.inl ⟨k1, k2⟩
    · exact Or.inr (Or.inl ⟨k1, k2, k3⟩)
    · exact Or.inr (Or.inr ⟨k1, om, h', k2, (x_ok k3.1).2, k3⟩))) (vx_cwSW 4 S.2.2.2.2 gS_law rfl rfl rfl cdL_look ⟨Nat.le_of_ble_eq_true rfl, Nat.le_of_ble_eq_true rfl⟩) ⟨QB2_blind D cy s.heap.size (s.heap.size + 153) hx f _, fun U hU hW => ⟨rfl, ⟨(lm_pre (av := []) (fl := false) I1 (Nat.le_refl _) (fun z => by cases z) hA1 (fun i hi => ⟨Nat.le_add_right _ _, by omega⟩) U hU hW).2, DW_move hD hW⟩, by rw [hU]; exact I3.1, ph_X_narrow (ph_X_move I1.2.2.2.2 I1.2.2.1 hU hW) hA2⟩⟩ rfl rfl hl.1 rfl (lv_room (Nat.le_of_ble_eq_true rfl)) dL_law_374 ⟨Nat.le_trans (Nat.add_le_add_right hc.1 _) (Nat.le_of_ble_eq_true rfl), Nat.le_trans (Nat.add_le_add_right hc.2 _) (Nat.le_of_ble_eq_true rfl)⟩) hS (fun q _ h => hA2 q h) (fun q h => hA2 q h) (fun q _ h => hA2 q h) (fun E ce q9 u t H1 locs1 ht hvm hp => hp.elim) (fun r u t H1 locs1 ht hvm hw hB hz1 hk1 hS => ?_)
  have J1 : LM D cy s.heap.size 110 u.1 s H1 locs1 := ⟨by rw [← ht]; exact hB.1.1, I1.2.1, hS, fun i hi => by have := hB.1.2; omega, I1.2.2.2.2⟩
  have J3 : LM D cy (s.heap.size + 153) 1 (wO u.2) s H1 locs1 := ⟨by rw [← ht]; exact hB.2, I1.2.1, hS, fun i hi => hi, I1.2.2.2.2⟩
  have I2 := LM_kept I2 (A := AL s.heap.size (s.heap.size + 153)) (fun i hi z => by
    rcases z with z | z
    · have := z.2; omega
    · omega) hk1 hS
  refine lv_istore (lv' := [(5, .int r), (0, .ref b), (1, .ref (s.heap.size + 0)), (2, .ref (s.heap.size + 110 + 0)), (3, .ref (s.heap.size + 153 + 0)), (4, .int i)]) hx9 hb9 dL_law_377 hl (by decide) rfl (fun ls hl => ?_)
  have hl := lv_sub hl [1, 2, 3, 4, 5] rfl
  refine lv_aload_n hx9 hb9 dL_law_379 rfl (lv_at hl 2 rfl) ?_
  refine lv_aload_n hx9 hb9 dL_law_380 rfl (lv_at hl 0 rfl) ?_
  refine lv_iload hx9 hb9 dL_law_381 (lv_at hl 4 rfl) ?_
  refine lv_iconst (v := 1) hx9 hb9 dL_law_383 (by decide) ?_
  refine lv_iadd hx9 hb9 dL_law_384 ?_
  refine va_sld (A := A0 s) hx9 hb9 hX hbl hbA hS v1 dL_law_385 ?_
  refine lv_aload_n hx9 hb9 dL_law_386 rfl (lv_at hl 0 rfl) ?_
  refine lv_iload hx9 hb9 dL_law_387 (lv_at hl 4 rfl) ?_
  refine lv_iconst (v := 2) hx9 hb9 dL_law_389 (by decide) ?_
  refine lv_iadd hx9 hb9 dL_law_390 ?_
  refine va_sld (A := A0 s) hx9 hb9 hX hbl hbA hS v2 dL_law_391 ?_
  refine l_Vi (As := [.int (xs (i + 1).toNatClampNeg), .int (xs (i + 2).toNatClampNeg)]) S (M12_look l D cy (s.heap.size + 110) (Aw (s.heap.size + 110) 43) false em) gL_12_look rfl rfl rfl cdL_12_look ⟨Nat.le_of_ble_eq_true rfl, Nat.le_of_ble_eq_true rfl⟩ I2 (Nat.le_add_right _ _) (m_ok L0.2.1).1 clX12 rfl rfl hl.1 rfl (Nat.le_of_ble_eq_true rfl) dL_law_392 ⟨Nat.le_trans (Nat.add_le_add_right (Nat.add_le_add_right hc.1 1) _) (Nat.le_of_ble_eq_true rfl), Nat.le_trans (Nat.add_le_add_right (Nat.add_le_add_right hc.2 6) _) (Nat.le_of_ble_eq_true rfl)⟩ (fun H2 locs2 J2 hk2 => ?_)
  have J1 := LM_kept J1 (A := Aw (s.heap.size + 110) 43) (fun i hi z => by have := z.1; omega) hk2 J2.2.2.1
  have J3 := LM_kept J3 (A := Aw (s.heap.size + 110) 43) (fun i hi z => by have := z.2; omega) hk2 J2.2.2.1
  refine lv_istore (lv' := [(6, .int om), (0, .ref b), (1, .ref (s.heap.size + 0)), (2, .ref (s.heap.size + 110 + 0)), (3, .ref (s.heap.size + 153 + 0)), (4, .int i)]) hx9 hb9 dL_law_395 hl (by decide) rfl (fun ls hl => ?_)
  refine lv_goto (tgt := 1526) hx9 hb9 dL_law_397 (by decide) ?_
  exact K _ _ _ _ _ _ ⟨J1, J2, J3, hw⟩ (lv_sub hl [1, 2, 3, 4, 5] rfl)
end LK
