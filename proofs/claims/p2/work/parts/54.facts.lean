/-! What the law finds at its entry; the law from its entry. -/
theorem qA0 : Cond.arrayOver (.object "WhoseWave$Law") ∈ lw_tbl := by decide +kernel
theorem qS1 : Cond.laysStatic "WhoseWave" "GAME_WAYS" "[I" ∈ lw_tbl := by decide +kernel
theorem qS2 : Cond.laysStatic "java/lang/String" "COMPACT_STRINGS" "Z" ∈ lw_tbl := by decide +kernel
theorem qS3 : Cond.laysStatic "jdk/internal/util/Preconditions" "SIOOBE_FORMATTER" "Ljava/util/function/BiFunction;" ∈ lw_tbl := by decide +kernel
theorem qS4 : Cond.laysStatic Bundle.tN "UNASSIGNED_STACK" Bundle.steD ∈ lw_tbl := by decide +kernel
theorem qS5 : Cond.laysStatic Bundle.tN "SUPPRESSED_SENTINEL" Bundle.listD ∈ lw_tbl := by decide +kernel
theorem qI1 : Cond.initialized "WhoseWave" ∈ lw_tbl := by decide +kernel
theorem qI2 : Cond.initialized "java/lang/String" ∈ lw_tbl := by decide +kernel
theorem qI3 : Cond.initialized "jdk/internal/util/Preconditions" ∈ lw_tbl := by decide +kernel
theorem qI4 : Cond.initialized Bundle.tN ∈ lw_tbl := by decide +kernel
theorem qC1 : Cond.castable ph_E1 ph_E1 ∈ lw_tbl := by decide +kernel
theorem qC2 : Cond.castable ph_E2 ph_E2 ∈ lw_tbl := by decide +kernel
theorem qF1 : Cond.fieldLinkNest RX0 84 "WhoseWave" "GAME_WAYS" "[I" "WhoseWave" ∈ lw_tbl := by decide +kernel
theorem qD1 : Cond.declares xd1 ∈ lw_tbl := by decide +kernel
theorem qD2 : Cond.declares xd2 ∈ lw_tbl := by decide +kernel
theorem qD3 : Cond.declares xd3 ∈ lw_tbl := by decide +kernel
theorem qR1 : Cond.stringRef "WhoseWave$Tokens" 19 "sea   peak  surferset   bank  rule  seed  law   deep  turns each  out   catch drift away  not   and   or    far   side  board size  minutewhich " ∈ lw_tbl := by decide +kernel
def fl1 : List Cond := flatC (Jvm.Cond.and given_1 narrow_1)
def tGW : Term := .static "WhoseWave" "GAME_WAYS" "[I"
def tLG : Term := .string "WhoseWave$Tokens" 19
def tLV : Term := .field tLG "java/lang/String" "value" "[B"
theorem f1 : Cond.arrayOf tGW .int ∈ fl1 := by decide +kernel
theorem f2 : Cond.eq (.length tGW) (.int (Int32.ofNat 5)) ∈ fl1 := by decide +kernel
theorem f3 : Cond.eq (.static "java/lang/String" "COMPACT_STRINGS" "Z") (.int 1) ∈ fl1 := by decide +kernel
theorem f4 : Cond.isRef (.static "jdk/internal/util/Preconditions" "SIOOBE_FORMATTER" "Ljava/util/function/BiFunction;") ∈ fl1 := by decide +kernel
theorem f5 : Cond.isRef (.static Bundle.tN "UNASSIGNED_STACK" Bundle.steD) ∈ fl1 := by decide +kernel
theorem f6 : Cond.isRef (.static Bundle.tN "SUPPRESSED_SENTINEL" Bundle.listD) ∈ fl1 := by decide +kernel
theorem f7 : Cond.exactly tLG "java/lang/String" ∈ fl1 := by decide +kernel
theorem f8 : Cond.eq (.field tLG "java/lang/String" "coder" "B") (.int 0) ∈ fl1 := by decide +kernel
theorem f9 : Cond.arrayOf tLV .byte ∈ fl1 := by decide +kernel
theorem f10 : Cond.eq (.length tLV) (.int (Int32.ofNat 144)) ∈ fl1 := by decide +kernel
theorem f11 : (List.range 5).all (fun j => decide (Cond.eq (.elem tGW (.int (Int32.ofNat j))) (.int (ph_gw j)) ∈ fl1)) = true := by decide +kernel
theorem f12 : (List.range 144).all (fun j => decide (fl1[51 + j]? = some (Cond.eq (.elem tLV (.int (Int32.ofNat j))) (.int (ph_lang.getD j 0))))) = true := by decide +kernel
theorem arrc {s : State} {args : Array Value} {ty : FieldType} (hno : ∀ C, ty ≠ .object C) (h : (Cond.arrayClass ty).before args s = true) : ∃ cA : ClassId, ArrOfT s cA ty ∧ va_RA s cA ty := by
  obtain ⟨c, k, comp, h1, h2, h3⟩ := Cond.arrayClass_spec h
  refine ⟨c, fun n z => ⟨fun k h => (by cases h), k, h2, comp, h3⟩, ?_⟩
  cases ty <;> first | exact h1 | exact absurd rfl (hno _)
theorem arro {s : State} {args : Array Value} {C : String} (h : (Cond.arrayOver (.object C)).before args s = true) : ∃ cA : ClassId, ArrOfT s cA (.object C) ∧ va_RA s cA (.object C) := by
  obtain ⟨comp, c, k, h1, h2, h3, h4, h5⟩ := Cond.arrayOver_spec h
  exact ⟨c, fun n z => ⟨fun k h => (by cases h), k, h3, comp, h4⟩, k, comp, h3, h4, h1, h5⟩
def cyF (c0 c1 c2 c3 c4 aK aV : Nat) (t : Nat) : ClassId := if t = 0 then c0 else if t = 1 then c1 else if t = 2 then c2 else if t = 3 then c3 else if t = 4 then c4 else if t = 100 then aK else aV
set_option maxHeartbeats 4000000 in
/-- the machine's facts that the law hands on -/
theorem law_facts {s : State} {b : Nat} (hts : ∀ w ∈ lw_tbl, w.before #[Value.ref b] s = true) (hgv : (Jvm.Cond.and given_1 narrow_1).before #[Value.ref b] s = true) : ∃ (D : va_G) (cy : Nat → ClassId), va_K D ph_cl (ph_t cy) s ∧ ph_X cy (A0 s) s := by
  have hf := flat_of_before _ hgv
  have hA : ∀ a : Nat, a < s.heap.size → ¬ A0 s a := fun a h z => absurd z (Nat.not_le.mpr h)
  obtain ⟨c0, i0, hk0⟩ := u_known (C := RX0) (T := TX0) (N := 13) (n := 13) hts (fun w h => TB_in w (wC_wsX00 w h)) (hts _ (TB_in _ wT_2_20))
  obtain ⟨c1, i1, hk1⟩ := u_known (C := RX1) (T := TX1) (N := 7) (n := 7) hts (fun w h => TB_in w (wC_wsX10 w h)) (hts _ (TB_in _ wT_3_4))
  obtain ⟨c2, i2, hk2⟩ := u_known (C := RX2) (T := TX2) (N := 3) (n := 3) hts (fun w h => TB_in w (wC_wsX20 w h)) (hts _ (TB_in _ wT_3_13))
  obtain ⟨c3, i3, hk3⟩ := u_known (C := RX3) (T := TX3) (N := 7) (n := 7) hts (fun w h => TB_in w (wC_wsX30 w h)) (hts _ (TB_in _ wT_2_12))
  obtain ⟨c4, i4, hk4⟩ := u_known (C := RX4) (T := TX4) (N := 11) (n := 11) hts (fun w h => TB_in w (wC_wsX40 w h)) (hts _ (TB_in _ wT_2_6))
  obtain ⟨c5, i5, hk5⟩ := u_known (C := RX5) (T := TX5) (N := 11) (n := 11) hts (fun w h => TB_in w (wC_wsX50 w h)) (hts _ (TB_in _ wT_1_21))
  obtain ⟨c6, i6, hk6⟩ := u_known (C := RX6) (T := TX6) (N := 9) (n := 9) hts (fun w h => TB_in w (wC_wsX60 w h)) (hts _ (TB_in _ wT_2_1))
  obtain ⟨c7, i7, hk7⟩ := u_known (C := RX7) (T := TX7) (N := 7) (n := 7) hts (fun w h => TB_in w (wC_wsX70 w h)) (hts _ (TB_in _ wT_5_1))
  obtain ⟨c8, i8, hk8⟩ := u_known (C := RX8) (T := TX8) (N := 14) (n := 14) hts (fun w h => TB_in w (wC_wsX80 w h)) (hts _ (TB_in _ wT_1_16))
  obtain ⟨c9, i9, hk9⟩ := u_known (C := RX9) (T := TX9) (N := 3) (n := 3) hts (fun w h => TB_in w (wC_wsX90 w h)) (hts _ (TB_in _ wT_2_16))
  obtain ⟨c10, i10, hk10⟩ := u_known (C := RX10) (T := TX10) (N := 8) (n := 8) hts (fun w h => TB_in w (wC_wsX100 w h)) (hts _ (TB_in _ wT_3_8))
  obtain ⟨c11, i11, hk11⟩ := u_known (C := RX11) (T := TX11) (N := 14) (n := 14) hts (fun w h => TB_in w (wC_wsX110 w h)) (hts _ (TB_in _ wT_1_1))
  obtain ⟨c12, i12, hk12⟩ := u_known (C := RX12) (T := TX12) (N := 87) (n := 87) hts (fun w h => TB_in w (wC_wsX120 w h)) (hts _ (TB_in _ wT_1_4))
  obtain ⟨a0, r0⟩ := arrc (ty := .int) (fun _ q => by cases q) (hts _ (TB_in _ wT_3_21))
  obtain ⟨a1, r1⟩ := arrc (ty := .byte) (fun _ q => by cases q) (hts _ (TB_in _ wT_1_13))
  obtain ⟨a2, r2⟩ := arrc (ty := .boolean) (fun _ q => by cases q) (hts _ (TB_in _ wT_8_19))
  obtain ⟨a3, r3⟩ := arrc (ty := .long) (fun _ q => by cases q) (hts _ (TB_in _ wT_1_6))
  obtain ⟨a4, r4⟩ := arro (hts _ qA0)
  obtain ⟨adK, adV, hv, he⟩ := vk_Sof (A := A0 s) (args := #[Value.ref b]) (s := s) (N := 1) (tm := fun _ => tLG) (len := [144]) (byt := [ph_lang]) (fun i hi => by rw [show i = 0 by omega]; decide) (fun i hi => hf _ f7) (fun i hi => hf _ f8) (fun i hi => hf _ f9) (fun i hi => by rw [show i = 0 by omega]; exact hf _ f10) (fun i hi j hj => by
      rw [show i = 0 by omega] at hj ⊢
      exact hf _ (List.mem_of_getElem? (of_decide_eq_true (List.all_eq_true.mp f12 j (List.mem_range.mpr hj))))) (fun i j hi hj hij => absurd (by omega) hij) hA
  obtain ⟨t, ht, hT⟩ := va_Tof (A := A0 s) (args := #[Value.ref b]) (s := s) (tm := tGW) (N := 5) (f := fun j => .int (ph_gw j)) (by decide) (hf _ f1) (va_eqt (hf _ f2)) (fun j hj => va_eqt (hf _ (of_decide_eq_true (List.all_eq_true.mp f11 j (List.mem_range.mpr hj))))) hA
  refine ⟨(fun k => [c0, c1, c2, c3, c4, c5, c6, c7, c8, c9, c10, c11, c12].getD k 0, fun k => [i0, i1, i2, i3, i4, i5, i6, i7, i8, i9, i10, i11, i12].getD k (fun _ => 0)), cyF a0 a1 a2 a3 a4 (adK 0) (adV 0), ⟨fun k q hq => ?_, fun k q hq => ?_⟩, ?_⟩
  · match k, hq with
    | 0, hq => cases hq; exact hk0
    | 1, hq => cases hq; exact hk1
    | 2, hq => cases hq; exact hk2
    | 3, hq => cases hq; exact hk3
    | 4, hq => cases hq; exact hk4
    | 5, hq => cases hq; exact hk5
    | 6, hq => cases hq; exact hk6
    | 7, hq => cases hq; exact hk7
    | 8, hq => cases hq; exact hk8
    | 9, hq => cases hq; exact hk9
    | 10, hq => cases hq; exact hk10
    | 11, hq => cases hq; exact hk11
    | 12, hq => cases hq; exact hk12
    | k + 13, hq => simp [ph_cl] at hq
  · match k, hq with
    | 0, hq => cases hq; exact r0
    | 1, hq => cases hq; exact r1
    | 2, hq => cases hq; exact r2
    | 3, hq => cases hq; exact r3
    | 4, hq => cases hq; exact r4
    | k + 5, hq => simp [ph_t] at hq
  · exact ⟨va_AO.of (hts _ qA0), ⟨t, va_Zof (hts _ qS1) (hts _ qI1) ht hA, hT⟩, ⟨vk_R.of (hts _ qR1) (he 0 (by decide)), ⟨fun i hi => by rw [show i = 0 by omega]; exact hv.1 0 (by decide), fun i j hi hj _ => by omega⟩⟩, va_Zof (hts _ qS2) (hts _ qI2) (va_eqt (hf _ f3)) hA, va_Zqof (hts _ qS3) (hts _ qI3) (hf _ f4) hA, vx_Zqof (hts _ qS4) (hts _ qI4) (hf _ f5) hA, vx_Zqof (hts _ qS5) (hts _ qI4) (hf _ f6) hA, va_Nw.of rfl (hts _ qC1), va_Nw.of rfl (hts _ qC2), va_Nw.of rfl (hts _ qF1)⟩
theorem fNC : Cond.not (.castable ph_E2 ph_E1) ∈ fl1 := by decide +kernel
theorem law_DW {s : State} {b : Nat} (hts : ∀ w ∈ lw_tbl, w.before #[Value.ref b] s = true) (hgv : (Jvm.Cond.and given_1 narrow_1).before #[Value.ref b] s = true) : DW s := ⟨⟨va_Nw.of rfl (hts _ qD1), va_Nw.of rfl (hts _ qD2), va_Nw.of rfl (hts _ qD3)⟩, va_Nc.of (flat_of_before _ hgv _ fNC)⟩
