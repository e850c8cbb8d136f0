/-! The cases of the law, but look. -/
theorem cmp_self (a : Int64) : lg_cmp a a = 0 := by unfold lg_cmp; simp
/-- the place of out -/
def wO (f : Nat → Int64) : PH := [.inl (3, 1, .inr (.inl f))]
/-- the three worlds between two calls -/
def LW (D : va_G) (cy : Nat → ClassId) (hx hm : PH) (f : Nat → Int64) (s : State) (H : Heap) (locs : List Loc) : Prop := LM D cy s.heap.size 110 hx s H locs ∧ LM D cy (s.heap.size + 110) 43 hm s H locs ∧ LM D cy (s.heap.size + 153) 1 (wO f) s H locs ∧ LRl hx hm
/-- the locals between two calls -/
def LV (b : Nat) (s : State) (i : Int32) : List (Nat × Value) := [(0, .ref b), (1, .ref (s.heap.size + 0)), (2, .ref (s.heap.size + 110 + 0)), (3, .ref (s.heap.size + 153 + 0)), (4, .int i)]
def IN (i : Int32) (L : Nat) : Prop := vp_in i L ∧ vp_in (i + 1) L ∧ vp_in (i + 2) L ∧ vp_in (i + 3) L ∧ vp_in (i + 4) L ∧ vp_in (i + 5) L
theorem gL_11_feed : GoodIn lw_tbl (wsV RL 21 RX11 yX11_feed vX11_feed) := gV_law wT_13_4 wT_13_5 wT_13_6 wT_1_2 wT_13_7
theorem cdL_11_feed : Cd yX11_feed 5 := ⟨by decide, by decide, by decide +kernel⟩
theorem gL_12_feed : GoodIn lw_tbl (wsV RL 25 RX12 yX12_feed vX12_feed) := gV_law wT_13_13 wT_13_14 wT_13_15 wT_1_5 wT_13_16
theorem cdL_12_feed : Cd yX12_feed 5 := ⟨by decide, by decide, by decide +kernel⟩
theorem gL_11_text : GoodIn lw_tbl (wsV RL 26 RX11 yX11_text vX11_text) := gV_law wT_13_19 wT_13_20 wT_13_21 wT_1_2 wT_13_22
theorem cdL_11_text : Cd yX11_text 1 := ⟨by decide, by decide, by decide +kernel⟩
theorem gL_12_text : GoodIn lw_tbl (wsV RL 30 RX12 yX12_text vX12_text) := gV_law wT_26_13 wT_26_14 wT_26_15 wT_1_5 wT_26_16
theorem cdL_12_text : Cd yX12_text 1 := ⟨by decide, by decide, by decide +kernel⟩
theorem gL_11_fault : GoodIn lw_tbl (wsV RL 31 RX11 yX11_fault vX11_fault) := gV_law wT_32_0 wT_32_1 wT_32_2 wT_1_2 wT_32_3
theorem cdL_11_fault : Cd yX11_fault 1 := ⟨by decide, by decide, by decide +kernel⟩
theorem gL_12_fault : GoodIn lw_tbl (wsV RL 34 RX12 yX12_fault vX12_fault) := gV_law wT_32_6 wT_32_7 wT_32_8 wT_1_5 wT_32_9
theorem cdL_12_fault : Cd yX12_fault 1 := ⟨by decide, by decide, by decide +kernel⟩
theorem gL_11_named : GoodIn lw_tbl (wsV RL 35 RX11 yX11_named vX11_named) := gV_law wT_32_10 wT_32_11 wT_32_12 wT_1_2 wT_32_13
theorem cdL_11_named : Cd yX11_named 1 := ⟨by decide, by decide, by decide +kernel⟩
theorem gL_12_named : GoodIn lw_tbl (wsV RL 38 RX12 yX12_named vX12_named) := gV_law wT_32_17 wT_32_18 wT_32_19 wT_1_5 wT_32_20
theorem cdL_12_named : Cd yX12_named 1 := ⟨by decide, by decide, by decide +kernel⟩
theorem gL_11_wave : GoodIn lw_tbl (wsV RL 45 RX11 yX11_wave vX11_wave) := gV_law wT_36_12 wT_36_13 wT_36_14 wT_1_2 wT_36_15
theorem cdL_11_wave : Cd yX11_wave 2 := ⟨by decide, by decide, by decide +kernel⟩
theorem gL_12_wave : GoodIn lw_tbl (wsV RL 48 RX12 yX12_wave vX12_wave) := gV_law wT_37_3 wT_37_4 wT_37_5 wT_1_5 wT_37_6
theorem cdL_12_wave : Cd yX12_wave 2 := ⟨by decide, by decide, by decide +kernel⟩
theorem gL_11_peak : GoodIn lw_tbl (wsV RL 49 RX11 yX11_peak vX11_peak) := gV_law wT_37_11 wT_37_12 wT_37_13 wT_1_2 wT_37_14
theorem cdL_11_peak : Cd yX11_peak 1 := ⟨by decide, by decide, by decide +kernel⟩
theorem gL_12_peak : GoodIn lw_tbl (wsV RL 52 RX12 yX12_peak vX12_peak) := gV_law wT_37_17 wT_37_18 wT_37_19 wT_1_5 wT_37_20
theorem cdL_12_peak : Cd yX12_peak 1 := ⟨by decide, by decide, by decide +kernel⟩
theorem gL_11_odds : GoodIn lw_tbl (wsV RL 53 RX11 yX11_odds vX11_odds) := gV_law wT_37_21 wT_37_22 wT_37_23 wT_1_2 wT_38_0
theorem cdL_11_odds : Cd yX11_odds 3 := ⟨by decide, by decide, by decide +kernel⟩
theorem gL_12_odds : GoodIn lw_tbl (wsV RL 57 RX12 yX12_odds vX12_odds) := gV_law wT_39_13 wT_39_14 wT_39_15 wT_1_5 wT_39_16
theorem cdL_12_odds : Cd yX12_odds 3 := ⟨by decide, by decide, by decide +kernel⟩
theorem gL_11_law : GoodIn lw_tbl (wsV RL 58 RX11 yX11_law vX11_law) := gV_law wT_40_13 wT_40_14 wT_40_15 wT_1_2 wT_40_16
theorem cdL_11_law : Cd yX11_law 3 := ⟨by decide, by decide, by decide +kernel⟩
theorem gL_12_law : GoodIn lw_tbl (wsV RL 62 RX12 yX12_law vX12_law) := gV_law wT_41_3 wT_41_4 wT_41_5 wT_1_5 wT_41_6
theorem cdL_12_law : Cd yX12_law 3 := ⟨by decide, by decide, by decide +kernel⟩
theorem gL_11_stroke : GoodIn lw_tbl (wsV RL 63 RX11 yX11_stroke vX11_stroke) := gV_law wT_41_8 wT_41_9 wT_41_10 wT_1_2 wT_41_11
theorem cdL_11_stroke : Cd yX11_stroke 2 := ⟨by decide, by decide, by decide +kernel⟩
theorem gL_12_stroke : GoodIn lw_tbl (wsV RL 66 RX12 yX12_stroke vX12_stroke) := gV_law wT_42_7 wT_42_8 wT_42_9 wT_1_5 wT_42_10
theorem cdL_12_stroke : Cd yX12_stroke 2 := ⟨by decide, by decide, by decide +kernel⟩
theorem gL_11_rule : GoodIn lw_tbl (wsV RL 67 RX11 yX11_rule vX11_rule) := gV_law wT_42_19 wT_42_20 wT_42_21 wT_1_2 wT_42_22
theorem cdL_11_rule : Cd yX11_rule 1 := ⟨by decide, by decide, by decide +kernel⟩
theorem gL_12_rule : GoodIn lw_tbl (wsV RL 71 RX12 yX12_rule vX12_rule) := gV_law wT_43_4 wT_43_5 wT_43_6 wT_1_5 wT_43_7
theorem cdL_12_rule : Cd yX12_rule 1 := ⟨by decide, by decide, by decide +kernel⟩
theorem gL_11_minutes : GoodIn lw_tbl (wsV RL 72 RX11 yX11_minutes vX11_minutes) := gV_law wT_43_8 wT_43_9 wT_43_10 wT_1_2 wT_43_11
theorem cdL_11_minutes : Cd yX11_minutes 1 := ⟨by decide, by decide, by decide +kernel⟩
theorem gL_12_minutes : GoodIn lw_tbl (wsV RL 75 RX12 yX12_minutes vX12_minutes) := gV_law wT_46_9 wT_46_10 wT_46_11 wT_1_5 wT_46_12
theorem cdL_12_minutes : Cd yX12_minutes 1 := ⟨by decide, by decide, by decide +kernel⟩
theorem gL_11_order : GoodIn lw_tbl (wsV RL 76 RX11 yX11_order vX11_order) := gV_law wT_48_3 wT_48_4 wT_48_5 wT_1_2 wT_48_6
theorem cdL_11_order : Cd yX11_order 2 := ⟨by decide, by decide, by decide +kernel⟩
theorem gL_12_order : GoodIn lw_tbl (wsV RL 79 RX12 yX12_order vX12_order) := gV_law wT_48_13 wT_48_14 wT_48_15 wT_1_5 wT_48_16
theorem cdL_12_order : Cd yX12_order 2 := ⟨by decide, by decide, by decide +kernel⟩
theorem gL_11_deeper : GoodIn lw_tbl (wsV RL 80 RX11 yX11_deeper vX11_deeper) := gV_law wT_48_21 wT_48_22 wT_48_23 wT_1_2 wT_49_0
theorem cdL_11_deeper : Cd yX11_deeper 2 := ⟨by decide, by decide, by decide +kernel⟩
theorem gL_12_deeper : GoodIn lw_tbl (wsV RL 83 RX12 yX12_deeper vX12_deeper) := gV_law wT_49_1 wT_49_2 wT_49_3 wT_1_5 wT_49_4
theorem cdL_12_deeper : Cd yX12_deeper 2 := ⟨by decide, by decide, by decide +kernel⟩
theorem gL_11_seat : GoodIn lw_tbl (wsV RL 84 RX11 yX11_seat vX11_seat) := gV_law wT_49_5 wT_49_6 wT_49_7 wT_1_2 wT_49_8
theorem cdL_11_seat : Cd yX11_seat 2 := ⟨by decide, by decide, by decide +kernel⟩
theorem gL_12_seat : GoodIn lw_tbl (wsV RL 87 RX12 yX12_seat vX12_seat) := gV_law wT_49_21 wT_49_22 wT_49_23 wT_1_5 wT_50_0
theorem cdL_12_seat : Cd yX12_seat 2 := ⟨by decide, by decide, by decide +kernel⟩
theorem gL_11_best : GoodIn lw_tbl (wsV RL 88 RX11 yX11_best vX11_best) := gV_law wT_50_9 wT_50_10 wT_50_11 wT_1_2 wT_50_12
theorem cdL_11_best : Cd yX11_best 1 := ⟨by decide, by decide, by decide +kernel⟩
theorem gL_12_best : GoodIn lw_tbl (wsV RL 91 RX12 yX12_best vX12_best) := gV_law wT_50_13 wT_50_14 wT_50_15 wT_1_5 wT_50_16
theorem cdL_12_best : Cd yX12_best 1 := ⟨by decide, by decide, by decide +kernel⟩
theorem gL_11_rests : GoodIn lw_tbl (wsV RL 92 RX11 yX11_rests vX11_rests) := gV_law wT_50_17 wT_50_18 wT_50_19 wT_1_2 wT_50_20
theorem cdL_11_rests : Cd yX11_rests 2 := ⟨by decide, by decide, by decide +kernel⟩
theorem gL_12_rests : GoodIn lw_tbl (wsV RL 95 RX12 yX12_rests vX12_rests) := gV_law wT_52_4 wT_52_5 wT_52_6 wT_1_5 wT_52_7
theorem cdL_12_rests : Cd yX12_rests 2 := ⟨by decide, by decide, by decide +kernel⟩
theorem gL_11_rest : GoodIn lw_tbl (wsV RL 96 RX11 yX11_rest vX11_rest) := gV_law wT_53_3 wT_53_4 wT_53_5 wT_1_2 wT_53_6
theorem cdL_11_rest : Cd yX11_rest 3 := ⟨by decide, by decide, by decide +kernel⟩
theorem gL_12_rest : GoodIn lw_tbl (wsV RL 99 RX12 yX12_rest vX12_rest) := gV_law wT_53_8 wT_53_9 wT_53_10 wT_1_5 wT_53_11
theorem cdL_12_rest : Cd yX12_rest 3 := ⟨by decide, by decide, by decide +kernel⟩
theorem gL_11_rank : GoodIn lw_tbl (wsV RL 100 RX11 yX11_rank vX11_rank) := gV_law wT_53_12 wT_53_13 wT_53_14 wT_1_2 wT_53_15
theorem cdL_11_rank : Cd yX11_rank 2 := ⟨by decide, by decide, by decide +kernel⟩
theorem gL_12_rank_ : GoodIn lw_tbl (wsV RL 103 RX12 yX12_rank_ vX12_rank_) := gV_law wT_54_1 wT_54_2 wT_54_3 wT_1_5 wT_54_4
theorem cdL_12_rank_ : Cd yX12_rank_ 2 := ⟨by decide, by decide, by decide +kernel⟩
theorem gL_11_plan : GoodIn lw_tbl (wsV RL 104 RX11 yX11_plan vX11_plan) := gV_law wT_54_9 wT_54_10 wT_54_11 wT_1_2 wT_54_12
theorem cdL_11_plan : Cd yX11_plan 1 := ⟨by decide, by decide, by decide +kernel⟩
theorem gL_12_plan : GoodIn lw_tbl (wsV RL 107 RX12 yX12_plan vX12_plan) := gV_law wT_55_3 wT_55_4 wT_55_5 wT_1_5 wT_55_6
theorem cdL_12_plan : Cd yX12_plan 1 := ⟨by decide, by decide, by decide +kernel⟩
theorem gL_11_planned : GoodIn lw_tbl (wsV RL 108 RX11 yX11_planned vX11_planned) := gV_law wT_55_15 wT_55_16 wT_55_17 wT_1_2 wT_55_18
theorem cdL_11_planned : Cd yX11_planned 2 := ⟨by decide, by decide, by decide +kernel⟩
theorem gL_12_planned : GoodIn lw_tbl (wsV RL 111 RX12 yX12_planned vX12_planned) := gV_law wT_55_21 wT_55_22 wT_55_23 wT_1_5 wT_56_0
theorem cdL_12_planned : Cd yX12_planned 2 := ⟨by decide, by decide, by decide +kernel⟩
theorem gL_11_go : GoodIn lw_tbl (wsV RL 112 RX11 yX11_go vX11_go) := gV_law wT_56_1 wT_56_2 wT_56_3 wT_1_2 wT_56_4
theorem cdL_11_go : Cd yX11_go 3 := ⟨by decide, by decide, by decide +kernel⟩
theorem gL_12_go : GoodIn lw_tbl (wsV RL 115 RX12 yX12_go vX12_go) := gV_law wT_56_11 wT_56_12 wT_56_13 wT_1_5 wT_56_14
theorem cdL_12_go : Cd yX12_go 3 := ⟨by decide, by decide, by decide +kernel⟩
theorem gL_11_give : GoodIn lw_tbl (wsV RL 116 RX11 yX11_give vX11_give) := gV_law wT_56_15 wT_56_16 wT_56_17 wT_1_2 wT_56_18
theorem cdL_11_give : Cd yX11_give 3 := ⟨by decide, by decide, by decide +kernel⟩
theorem gL_12_give : GoodIn lw_tbl (wsV RL 119 RX12 yX12_give vX12_give) := gV_law wT_56_20 wT_56_21 wT_56_22 wT_1_5 wT_56_23
theorem cdL_12_give : Cd yX12_give 3 := ⟨by decide, by decide, by decide +kernel⟩
theorem gL_11_table : GoodIn lw_tbl (wsV RL 120 RX11 yX11_table vX11_table) := gV_law wT_57_0 wT_57_1 wT_57_2 wT_1_2 wT_57_3
theorem cdL_11_table : Cd yX11_table 3 := ⟨by decide, by decide, by decide +kernel⟩
theorem gL_12_table : GoodIn lw_tbl (wsV RL 123 RX12 yX12_table vX12_table) := gV_law wT_58_1 wT_58_2 wT_58_3 wT_1_5 wT_58_4
theorem cdL_12_table : Cd yX12_table 3 := ⟨by decide, by decide, by decide +kernel⟩
theorem gL_11_fairest : GoodIn lw_tbl (wsV RL 124 RX11 yX11_fairest vX11_fairest) := gV_law wT_58_21 wT_58_22 wT_58_23 wT_1_2 wT_59_0
theorem cdL_11_fairest : Cd yX11_fairest 1 := ⟨by decide, by decide, by decide +kernel⟩
theorem gL_12_fairest : GoodIn lw_tbl (wsV RL 127 RX12 yX12_fairest vX12_fairest) := gV_law wT_59_1 wT_59_2 wT_59_3 wT_1_5 wT_59_4
theorem cdL_12_fairest : Cd yX12_fairest 1 := ⟨by decide, by decide, by decide +kernel⟩
theorem gL_11_over : GoodIn lw_tbl (wsV RL 128 RX11 yX11_over vX11_over) := gV_law wT_59_5 wT_59_6 wT_59_7 wT_1_2 wT_59_8
theorem cdL_11_over : Cd yX11_over 1 := ⟨by decide, by decide, by decide +kernel⟩
theorem gL_12_over : GoodIn lw_tbl (wsV RL 131 RX12 yX12_over vX12_over) := gV_law wT_59_15 wT_59_16 wT_59_17 wT_1_5 wT_59_18
theorem cdL_12_over : Cd yX12_over 1 := ⟨by decide, by decide, by decide +kernel⟩
theorem gL_11_next : GoodIn lw_tbl (wsV RL 132 RX11 yX11_next vX11_next) := gV_law wT_59_19 wT_59_20 wT_59_21 wT_1_2 wT_59_22
theorem cdL_11_next : Cd yX11_next 0 := ⟨by decide, by decide, by decide +kernel⟩
theorem gL_12_next : GoodIn lw_tbl (wsV RL 136 RX12 yX12_next vX12_next) := gV_law wT_60_4 wT_60_5 wT_60_6 wT_1_5 wT_60_7
theorem cdL_12_next : Cd yX12_next 0 := ⟨by decide, by decide, by decide +kernel⟩
theorem gL_11_gaps : GoodIn lw_tbl (wsV RL 137 RX11 yX11_gaps vX11_gaps) := gV_law wT_60_8 wT_60_9 wT_60_10 wT_1_2 wT_60_11
theorem cdL_11_gaps : Cd yX11_gaps 2 := ⟨by decide, by decide, by decide +kernel⟩
theorem gL_12_gaps : GoodIn lw_tbl (wsV RL 140 RX12 yX12_gaps vX12_gaps) := gV_law wT_60_13 wT_60_14 wT_60_15 wT_1_5 wT_60_16
theorem cdL_12_gaps : Cd yX12_gaps 2 := ⟨by decide, by decide, by decide +kernel⟩
theorem gL_11_shares : GoodIn lw_tbl (wsV RL 141 RX11 yX11_shares vX11_shares) := gV_law wT_60_17 wT_60_18 wT_60_19 wT_1_2 wT_60_20
theorem cdL_11_shares : Cd yX11_shares 1 := ⟨by decide, by decide, by decide +kernel⟩
theorem gL_12_shares : GoodIn lw_tbl (wsV RL 144 RX12 yX12_shares vX12_shares) := gV_law wT_61_1 wT_61_2 wT_61_3 wT_1_5 wT_61_4
theorem cdL_12_shares : Cd yX12_shares 1 := ⟨by decide, by decide, by decide +kernel⟩
theorem gL_11_note : GoodIn lw_tbl (wsV RL 145 RX11 yX11_note vX11_note) := gV_law wT_61_9 wT_61_10 wT_61_11 wT_1_2 wT_61_12
theorem cdL_11_note : Cd yX11_note 3 := ⟨by decide, by decide, by decide +kernel⟩
theorem gL_12_note : GoodIn lw_tbl (wsV RL 148 RX12 yX12_note vX12_note) := gV_law wT_61_18 wT_61_19 wT_61_20 wT_1_5 wT_61_21
theorem cdL_12_note : Cd yX12_note 3 := ⟨by decide, by decide, by decide +kernel⟩
theorem gL_11_strike : GoodIn lw_tbl (wsV RL 149 RX11 yX11_strike vX11_strike) := gV_law wT_62_2 wT_62_3 wT_62_4 wT_1_2 wT_62_5
theorem cdL_11_strike : Cd yX11_strike 1 := ⟨by decide, by decide, by decide +kernel⟩
theorem gL_12_strike : GoodIn lw_tbl (wsV RL 152 RX12 yX12_strike vX12_strike) := gV_law wT_62_10 wT_62_11 wT_62_12 wT_1_5 wT_62_13
theorem cdL_12_strike : Cd yX12_strike 1 := ⟨by decide, by decide, by decide +kernel⟩
theorem gL_11_known : GoodIn lw_tbl (wsV RL 153 RX11 yX11_known vX11_known) := gV_law wT_62_14 wT_62_15 wT_62_16 wT_1_2 wT_62_17
theorem cdL_11_known : Cd yX11_known 1 := ⟨by decide, by decide, by decide +kernel⟩
theorem gL_12_known : GoodIn lw_tbl (wsV RL 156 RX12 yX12_known vX12_known) := gV_law wT_62_18 wT_62_19 wT_62_20 wT_1_5 wT_62_21
theorem cdL_12_known : Cd yX12_known 1 := ⟨by decide, by decide, by decide +kernel⟩
theorem gL_11_locals : GoodIn lw_tbl (wsV RL 157 RX11 yX11_locals vX11_locals) := gV_law wT_62_22 wT_62_23 wT_63_0 wT_1_2 wT_63_1
theorem cdL_11_locals : Cd yX11_locals 1 := ⟨by decide, by decide, by decide +kernel⟩
theorem gL_12_locals : GoodIn lw_tbl (wsV RL 160 RX12 yX12_locals vX12_locals) := gV_law wT_63_20 wT_63_21 wT_63_22 wT_1_5 wT_63_23
theorem cdL_12_locals : Cd yX12_locals 1 := ⟨by decide, by decide, by decide +kernel⟩
theorem gL_11_chance : GoodIn lw_tbl (wsV RL 161 RX11 yX11_chance vX11_chance) := gV_law wT_64_8 wT_64_9 wT_64_10 wT_1_2 wT_64_11
theorem cdL_11_chance : Cd yX11_chance 3 := ⟨by decide, by decide, by decide +kernel⟩
theorem gL_12_chance : GoodIn lw_tbl (wsV RL 164 RX12 yX12_chance vX12_chance) := gV_law wT_64_13 wT_64_14 wT_64_15 wT_1_5 wT_64_16
theorem cdL_12_chance : Cd yX12_chance 3 := ⟨by decide, by decide, by decide +kernel⟩
theorem gL_11_tried : GoodIn lw_tbl (wsV RL 165 RX11 yX11_tried vX11_tried) := gV_law wT_64_17 wT_64_18 wT_64_19 wT_1_2 wT_64_20
theorem cdL_11_tried : Cd yX11_tried 3 := ⟨by decide, by decide, by decide +kernel⟩
theorem gL_12_tried : GoodIn lw_tbl (wsV RL 168 RX12 yX12_tried vX12_tried) := gV_law wT_66_2 wT_66_3 wT_66_4 wT_1_5 wT_66_5
theorem cdL_12_tried : Cd yX12_tried 3 := ⟨by decide, by decide, by decide +kernel⟩
theorem gL_11_undo : GoodIn lw_tbl (wsV RL 169 RX11 yX11_undo vX11_undo) := gV_law wT_66_6 wT_66_7 wT_66_8 wT_1_2 wT_66_9
theorem cdL_11_undo : Cd yX11_undo 0 := ⟨by decide, by decide, by decide +kernel⟩
theorem gL_12_undo : GoodIn lw_tbl (wsV RL 172 RX12 yX12_undo vX12_undo) := gV_law wT_66_12 wT_66_13 wT_66_14 wT_1_5 wT_66_15
theorem cdL_12_undo : Cd yX12_undo 0 := ⟨by decide, by decide, by decide +kernel⟩
theorem gL_11_keep : GoodIn lw_tbl (wsV RL 173 RX11 yX11_keep vX11_keep) := gV_law wT_66_16 wT_66_17 wT_66_18 wT_1_2 wT_66_19
theorem cdL_11_keep : Cd yX11_keep 0 := ⟨by decide, by decide, by decide +kernel⟩
theorem gL_12_keep : GoodIn lw_tbl (wsV RL 176 RX12 yX12_keep vX12_keep) := gV_law wT_66_21 wT_66_22 wT_66_23 wT_1_5 wT_67_0
theorem cdL_12_keep : Cd yX12_keep 0 := ⟨by decide, by decide, by decide +kernel⟩
theorem gL_11_back : GoodIn lw_tbl (wsV RL 177 RX11 yX11_back vX11_back) := gV_law wT_67_6 wT_67_7 wT_67_8 wT_1_2 wT_67_9
theorem cdL_11_back : Cd yX11_back 0 := ⟨by decide, by decide, by decide +kernel⟩
theorem gL_12_back : GoodIn lw_tbl (wsV RL 180 RX12 yX12_back vX12_back) := gV_law wT_67_10 wT_67_11 wT_67_12 wT_1_5 wT_67_13
theorem cdL_12_back : Cd yX12_back 0 := ⟨by decide, by decide, by decide +kernel⟩
theorem gL_11_count : GoodIn lw_tbl (wsV RL 181 RX11 yX11_count vX11_count) := gV_law wT_67_14 wT_67_15 wT_67_16 wT_1_2 wT_67_17
theorem cdL_11_count : Cd yX11_count 1 := ⟨by decide, by decide, by decide +kernel⟩
theorem gL_12_count : GoodIn lw_tbl (wsV RL 184 RX12 yX12_count vX12_count) := gV_law wT_67_20 wT_67_21 wT_67_22 wT_1_5 wT_67_23
theorem cdL_12_count : Cd yX12_count 1 := ⟨by decide, by decide, by decide +kernel⟩
section LC
variable {p : Program} {l : Launch} {e : Env} {s : State} {m : MethodId} {below : List Frame} {meth : Method} {c : Code} {b L : Nat} {xs : Nat → Int32} {D : va_G} {cy : Nat → ClassId} {H : Heap} {locs : List Loc} {ls : Array Slot}
set_option maxHeartbeats 1000000 in
theorem lc_212 (S : CallFix p m c cL_law 7 s #[Value.ref b] lw_tbl RL) (hX : va_X b L xs s s.heap) (hbl : b < s.heap.size) {hx hm : PH} {f : Nat → Int64} (I : LW D cy hx hm f s H locs) {i : Int32} (hin : IN i L) {cl sl : Nat} (hc : cl ≤ 1000 ∧ sl ≤ 20000) (hl : lv_has ls 7 (LV b s i)) (K : ∀ (hx' hm' : PH) (f' : Nat → Int64) (H' : Heap) (locs' : List Loc) (ls' : Array Slot), LW D cy hx' hm' f' s H' locs' → lv_has ls' 7 (LV b s i) → W p l e room_1 s m #[Value.ref b] below meth c H' locs' (cl + 1) (sl + 6) (lw_Z below #[Value.ref b] s) (F0 m 1526 ls' [])) : W p l e room_1 s m #[Value.ref b] below meth c H locs cl sl (lw_Z below #[Value.ref b] s) (F0 m 212 ls []) := by
  have hbA : ¬ A0 s b := Nat.not_le.mpr hbl
  have hx9 := S.1
  have hb9 := S.2.1
  obtain ⟨I1, I2, I3, L0⟩ := I
  have hS := I1.2.2.1
  obtain ⟨_, v1, v2, v3, v4, v5⟩ := hin
  obtain ⟨a, hx', hm', ex, em, L1⟩ := p_feed L0 (xs (i + 1).toNatClampNeg) (xs (i + 2).toNatClampNeg) (xs (i + 3).toNatClampNeg) (xs (i + 4).toNatClampNeg) (xs (i + 5).toNatClampNeg)
  refine lv_aload_n hx9 hb9 dL_law_212 rfl (lv_at hl 1 rfl) ?_
  refine lv_aload_n hx9 hb9 dL_law_213 rfl (lv_at hl 0 rfl) ?_
  refine lv_iload hx9 hb9 dL_law_214 (lv_at hl 4 rfl) ?_
  refine lv_iconst (v := 1) hx9 hb9 dL_law_216 (by decide) ?_
  refine lv_iadd hx9 hb9 dL_law_217 ?_
  refine va_sld (A := A0 s) hx9 hb9 hX hbl hbA hS v1 dL_law_218 ?_
  refine lv_aload_n hx9 hb9 dL_law_219 rfl (lv_at hl 0 rfl) ?_
  refine lv_iload hx9 hb9 dL_law_220 (lv_at hl 4 rfl) ?_
  refine lv_iconst (v := 2) hx9 hb9 dL_law_222 (by decide) ?_
  refine lv_iadd hx9 hb9 dL_law_223 ?_
  refine va_sld (A := A0 s) hx9 hb9 hX hbl hbA hS v2 dL_law_224 ?_
  refine lv_aload_n hx9 hb9 dL_law_225 rfl (lv_at hl 0 rfl) ?_
  refine lv_iload hx9 hb9 dL_law_226 (lv_at hl 4 rfl) ?_
  refine lv_iconst (v := 3) hx9 hb9 dL_law_228 (by decide) ?_
  refine lv_iadd hx9 hb9 dL_law_229 ?_
  refine va_sld (A := A0 s) hx9 hb9 hX hbl hbA hS v3 dL_law_230 ?_
  refine lv_aload_n hx9 hb9 dL_law_231 rfl (lv_at hl 0 rfl) ?_
  refine lv_iload hx9 hb9 dL_law_232 (lv_at hl 4 rfl) ?_
  refine lv_iconst (v := 4) hx9 hb9 dL_law_234 (by decide) ?_
  refine lv_iadd hx9 hb9 dL_law_235 ?_
  refine va_sld (A := A0 s) hx9 hb9 hX hbl hbA hS v4 dL_law_236 ?_
  refine lv_aload_n hx9 hb9 dL_law_237 rfl (lv_at hl 0 rfl) ?_
  refine lv_iload hx9 hb9 dL_law_238 (lv_at hl 4 rfl) ?_
  refine lv_iconst (v := 5) hx9 hb9 dL_law_240 (by decide) ?_
  refine lv_iadd hx9 hb9 dL_law_241 ?_
  refine va_sld (A := A0 s) hx9 hb9 hX hbl hbA hS v5 dL_law_242 ?_
  refine l_Vi (As := [.int (xs (i + 1).toNatClampNeg), .int (xs (i + 2).toNatClampNeg), .int (xs (i + 3).toNatClampNeg), .int (xs (i + 4).toNatClampNeg), .int (xs (i + 5).toNatClampNeg)]) S (M11_feed l D cy s.heap.size (Aw s.heap.size 110) false ex) gL_11_feed rfl rfl rfl cdL_11_feed ⟨Nat.le_of_ble_eq_true rfl, Nat.le_of_ble_eq_true rfl⟩ I1 (Nat.le_refl _) (x_ok L0.1).1 clX11 rfl rfl hl.1 rfl (Nat.le_of_ble_eq_true rfl) dL_law_243 ⟨Nat.le_trans (Nat.add_le_add_right hc.1 _) (Nat.le_of_ble_eq_true rfl), Nat.le_trans (Nat.add_le_add_right hc.2 _) (Nat.le_of_ble_eq_true rfl)⟩ (fun H1 locs1 J1 hk1 => ?_)
  have I2 := LM_kept I2 (A := Aw s.heap.size 110) (fun i hi z => by have := z.2; omega) hk1 J1.2.2.1
  have I3 := LM_kept I3 (A := Aw s.heap.size 110) (fun i hi z => by have := z.2; omega) hk1 J1.2.2.1
  have hS := I2.2.2.1
  refine lv_aload_n hx9 hb9 dL_law_246 rfl (lv_at hl 2 rfl) ?_
  refine lv_aload_n hx9 hb9 dL_law_247 rfl (lv_at hl 0 rfl) ?_
  refine lv_iload hx9 hb9 dL_law_248 (lv_at hl 4 rfl) ?_
  refine lv_iconst (v := 1) hx9 hb9 dL_law_250 (by decide) ?_
  refine lv_iadd hx9 hb9 dL_law_251 ?_
  refine va_sld (A := A0 s) hx9 hb9 hX hbl hbA hS v1 dL_law_252 ?_
  refine lv_aload_n hx9 hb9 dL_law_253 rfl (lv_at hl 0 rfl) ?_
  refine lv_iload hx9 hb9 dL_law_254 (lv_at hl 4 rfl) ?_
  refine lv_iconst (v := 2) hx9 hb9 dL_law_256 (by decide) ?_
  refine lv_iadd hx9 hb9 dL_law_257 ?_
  refine va_sld (A := A0 s) hx9 hb9 hX hbl hbA hS v2 dL_law_258 ?_
  refine lv_aload_n hx9 hb9 dL_law_259 rfl (lv_at hl 0 rfl) ?_
  refine lv_iload hx9 hb9 dL_law_260 (lv_at hl 4 rfl) ?_
  refine lv_iconst (v := 3) hx9 hb9 dL_law_262 (by decide) ?_
  refine lv_iadd hx9 hb9 dL_law_263 ?_
  refine va_sld (A := A0 s) hx9 hb9 hX hbl hbA hS v3 dL_law_264 ?_
  refine lv_aload_n hx9 hb9 dL_law_265 rfl (lv_at hl 0 rfl) ?_
  refine lv_iload hx9 hb9 dL_law_266 (lv_at hl 4 rfl) ?_
  refine lv_iconst (v := 4) hx9 hb9 dL_law_268 (by decide) ?_
  refine lv_iadd hx9 hb9 dL_law_269 ?_
  refine va_sld (A := A0 s) hx9 hb9 hX hbl hbA hS v4 dL_law_270 ?_
  refine lv_aload_n hx9 hb9 dL_law_271 rfl (lv_at hl 0 rfl) ?_
  refine lv_iload hx9 hb9 dL_law_272 (lv_at hl 4 rfl) ?_
  refine lv_iconst (v := 5) hx9 hb9 dL_law_274 (by decide) ?_
  refine lv_iadd hx9 hb9 dL_law_275 ?_
  refine va_sld (A := A0 s) hx9 hb9 hX hbl hbA hS v5 dL_law_276 ?_
  refine l_Vi (As := [.int (xs (i + 1).toNatClampNeg), .int (xs (i + 2).toNatClampNeg), .int (xs (i + 3).toNatClampNeg), .int (xs (i + 4).toNatClampNeg), .int (xs (i + 5).toNatClampNeg)]) S (M12_feed l D cy (s.heap.size + 110) (Aw (s.heap.size + 110) 43) false em) gL_12_feed rfl rfl rfl cdL_12_feed ⟨Nat.le_of_ble_eq_true rfl, Nat.le_of_ble_eq_true rfl⟩ I2 (Nat.le_add_right _ _) (m_ok L0.2.1).1 clX12 rfl rfl hl.1 rfl (Nat.le_of_ble_eq_true rfl) dL_law_277 ⟨Nat.le_trans (Nat.add_le_add_right hc.1 _) (Nat.le_of_ble_eq_true rfl), Nat.le_trans (Nat.add_le_add_right hc.2 _) (Nat.le_of_ble_eq_true rfl)⟩ (fun H2 locs2 J2 hk2 => ?_)
  have J1 := LM_kept J1 (A := Aw (s.heap.size + 110) 43) (fun i hi z => by have := z.1; omega) hk2 J2.2.2.1
  have I3 := LM_kept I3 (A := Aw (s.heap.size + 110) 43) (fun i hi z => by have := z.2; omega) hk2 J2.2.2.1
  refine lv_icmp_eq (tgt := 1526) hx9 hb9 dL_law_280 (by decide) (fun _ => ?_) (fun z => absurd rfl z)
  refine W.widen (k := cl + 1) (n := sl + 6) (Nat.le_succ _) (Nat.le_add_right _ _) ?_
  exact K _ _ _ _ _ _ ⟨J1, J2, I3, L1⟩ hl
set_option maxHeartbeats 1000000 in
theorem lc_285 (S : CallFix p m c cL_law 7 s #[Value.ref b] lw_tbl RL) (hX : va_X b L xs s s.heap) (hbl : b < s.heap.size) {hx hm : PH} {f : Nat → Int64} (I : LW D cy hx hm f s H locs) {i : Int32} (hin : IN i L) {cl sl : Nat} (hc : cl ≤ 1000 ∧ sl ≤ 20000) (hl : lv_has ls 7 (LV b s i)) (K : ∀ (hx' hm' : PH) (f' : Nat → Int64) (H' : Heap) (locs' : List Loc) (ls' : Array Slot), LW D cy hx' hm' f' s H' locs' → lv_has ls' 7 (LV b s i) → W p l e room_1 s m #[Value.ref b] below meth c H' locs' (cl + 1) (sl + 6) (lw_Z below #[Value.ref b] s) (F0 m 1526 ls' [])) : W p l e room_1 s m #[Value.ref b] below meth c H locs cl sl (lw_Z below #[Value.ref b] s) (F0 m 285 ls []) := by
  have hbA : ¬ A0 s b := Nat.not_le.mpr hbl
  have hx9 := S.1
  have hb9 := S.2.1
  obtain ⟨I1, I2, I3, L0⟩ := I
  have hS := I1.2.2.1
  obtain ⟨_, v1, v2, v3, v4, v5⟩ := hin
  obtain ⟨a, hx', hm', ex, em, L1⟩ := p_text L0 (xs (i + 1).toNatClampNeg)
  refine lv_aload_n hx9 hb9 dL_law_285 rfl (lv_at hl 1 rfl) ?_
  refine lv_aload_n hx9 hb9 dL_law_286 rfl (lv_at hl 0 rfl) ?_
  refine lv_iload hx9 hb9 dL_law_287 (lv_at hl 4 rfl) ?_
  refine lv_iconst (v := 1) hx9 hb9 dL_law_289 (by decide) ?_
  refine lv_iadd hx9 hb9 dL_law_290 ?_
  refine va_sld (A := A0 s) hx9 hb9 hX hbl hbA hS v1 dL_law_291 ?_
  refine l_Vi (As := [.int (xs (i + 1).toNatClampNeg)]) S (M11_text l D cy s.heap.size (Aw s.heap.size 110) ex) gL_11_text rfl rfl rfl cdL_11_text ⟨Nat.le_of_ble_eq_true rfl, Nat.le_of_ble_eq_true rfl⟩ I1 (Nat.le_refl _) (x_ok L0.1).1 clX11 rfl rfl hl.1 rfl (Nat.le_of_ble_eq_true rfl) dL_law_292 ⟨Nat.le_trans (Nat.add_le_add_right hc.1 _) (Nat.le_of_ble_eq_true rfl), Nat.le_trans (Nat.add_le_add_right hc.2 _) (Nat.le_of_ble_eq_true rfl)⟩ (fun H1 locs1 J1 hk1 => ?_)
  have I2 := LM_kept I2 (A := Aw s.heap.size 110) (fun i hi z => by have := z.2; omega) hk1 J1.2.2.1
  have I3 := LM_kept I3 (A := Aw s.heap.size 110) (fun i hi z => by have := z.2; omega) hk1 J1.2.2.1
  have hS := I2.2.2.1
  refine lv_pop hx9 hb9 dL_law_295 rfl ?_
  refine lv_aload_n hx9 hb9 dL_law_296 rfl (lv_at hl 2 rfl) ?_
  refine lv_aload_n hx9 hb9 dL_law_297 rfl (lv_at hl 0 rfl) ?_
  refine lv_iload hx9 hb9 dL_law_298 (lv_at hl 4 rfl) ?_
  refine lv_iconst (v := 1) hx9 hb9 dL_law_300 (by decide) ?_
  refine lv_iadd hx9 hb9 dL_law_301 ?_
  refine va_sld (A := A0 s) hx9 hb9 hX hbl hbA hS v1 dL_law_302 ?_
  refine l_Vi (As := [.int (xs (i + 1).toNatClampNeg)]) S (M12_text l D cy (s.heap.size + 110) (Aw (s.heap.size + 110) 43) false em) gL_12_text rfl rfl rfl cdL_12_text ⟨Nat.le_of_ble_eq_true rfl, Nat.le_of_ble_eq_true rfl⟩ I2 (Nat.le_add_right _ _) (m_ok L0.2.1).1 clX12 rfl rfl hl.1 rfl (Nat.le_of_ble_eq_true rfl) dL_law_303 ⟨Nat.le_trans (Nat.add_le_add_right hc.1 _) (Nat.le_of_ble_eq_true rfl), Nat.le_trans (Nat.add_le_add_right hc.2 _) (Nat.le_of_ble_eq_true rfl)⟩ (fun H2 locs2 J2 hk2 => ?_)
  have J1 := LM_kept J1 (A := Aw (s.heap.size + 110) 43) (fun i hi z => by have := z.1; omega) hk2 J2.2.2.1
  have I3 := LM_kept I3 (A := Aw (s.heap.size + 110) 43) (fun i hi z => by have := z.2; omega) hk2 J2.2.2.1
  refine lv_pop hx9 hb9 dL_law_306 rfl ?_
  refine lv_goto (tgt := 1526) hx9 hb9 dL_law_307 (by decide) ?_
  refine W.widen (k := cl + 1) (n := sl + 6) (Nat.le_succ _) (Nat.le_add_right _ _) ?_
  exact K _ _ _ _ _ _ ⟨J1, J2, I3, L1⟩ hl
set_option maxHeartbeats 1000000 in
theorem lc_310 (S : CallFix p m c cL_law 7 s #[Value.ref b] lw_tbl RL) (hX : va_X b L xs s s.heap) (hbl : b < s.heap.size) {hx hm : PH} {f : Nat → Int64} (I : LW D cy hx hm f s H locs) {i : Int32} (hin : IN i L) {cl sl : Nat} (hc : cl ≤ 1000 ∧ sl ≤ 20000) (hl : lv_has ls 7 (LV b s i)) (K : ∀ (hx' hm' : PH) (f' : Nat → Int64) (H' : Heap) (locs' : List Loc) (ls' : Array Slot), LW D cy hx' hm' f' s H' locs' → lv_has ls' 7 (LV b s i) → W p l e room_1 s m #[Value.ref b] below meth c H' locs' (cl + 1) (sl + 6) (lw_Z below #[Value.ref b] s) (F0 m 1526 ls' [])) : W p l e room_1 s m #[Value.ref b] below meth c H locs cl sl (lw_Z below #[Value.ref b] s) (F0 m 310 ls []) := by
  have hbA : ¬ A0 s b := Nat.not_le.mpr hbl
  have hx9 := S.1
  have hb9 := S.2.1
  obtain ⟨I1, I2, I3, L0⟩ := I
  have hS := I1.2.2.1
  obtain ⟨_, v1, v2, v3, v4, v5⟩ := hin
  obtain ⟨a, hx', hm', ex, em, L1⟩ := p_fault L0 (xs (i + 1).toNatClampNeg)
  refine lv_aload_n hx9 hb9 dL_law_310 rfl (lv_at hl 1 rfl) ?_
  refine lv_aload_n hx9 hb9 dL_law_311 rfl (lv_at hl 0 rfl) ?_
  refine lv_iload hx9 hb9 dL_law_312 (lv_at hl 4 rfl) ?_
  refine lv_iconst (v := 1) hx9 hb9 dL_law_314 (by decide) ?_
  refine lv_iadd hx9 hb9 dL_law_315 ?_
  refine va_sld (A := A0 s) hx9 hb9 hX hbl hbA hS v1 dL_law_316 ?_
  refine l_Vi (As := [.int (xs (i + 1).toNatClampNeg)]) S (M11_fault l D cy s.heap.size (Aw s.heap.size 110) false ex) gL_11_fault rfl rfl rfl cdL_11_fault ⟨Nat.le_of_ble_eq_true rfl, Nat.le_of_ble_eq_true rfl⟩ I1 (Nat.le_refl _) (x_ok L0.1).1 clX11 rfl rfl hl.1 rfl (Nat.le_of_ble_eq_true rfl) dL_law_317 ⟨Nat.le_trans (Nat.add_le_add_right hc.1 _) (Nat.le_of_ble_eq_true rfl), Nat.le_trans (Nat.add_le_add_right hc.2 _) (Nat.le_of_ble_eq_true rfl)⟩ (fun H1 locs1 J1 hk1 => ?_)
  have I2 := LM_kept I2 (A := Aw s.heap.size 110) (fun i hi z => by have := z.2; omega) hk1 J1.2.2.1
  have I3 := LM_kept I3 (A := Aw s.heap.size 110) (fun i hi z => by have := z.2; omega) hk1 J1.2.2.1
  have hS := I2.2.2.1
  refine lv_pop hx9 hb9 dL_law_320 rfl ?_
  refine lv_aload_n hx9 hb9 dL_law_321 rfl (lv_at hl 2 rfl) ?_
  refine lv_aload_n hx9 hb9 dL_law_322 rfl (lv_at hl 0 rfl) ?_
  refine lv_iload hx9 hb9 dL_law_323 (lv_at hl 4 rfl) ?_
  refine lv_iconst (v := 1) hx9 hb9 dL_law_325 (by decide) ?_
  refine lv_iadd hx9 hb9 dL_law_326 ?_
  refine va_sld (A := A0 s) hx9 hb9 hX hbl hbA hS v1 dL_law_327 ?_
  refine l_Vi (As := [.int (xs (i + 1).toNatClampNeg)]) S (M12_fault l D cy (s.heap.size + 110) (Aw (s.heap.size + 110) 43) false em) gL_12_fault rfl rfl rfl cdL_12_fault ⟨Nat.le_of_ble_eq_true rfl, Nat.le_of_ble_eq_true rfl⟩ I2 (Nat.le_add_right _ _) (m_ok L0.2.1).1 clX12 rfl rfl hl.1 rfl (Nat.le_of_ble_eq_true rfl) dL_law_328 ⟨Nat.le_trans (Nat.add_le_add_right hc.1 _) (Nat.le_of_ble_eq_true rfl), Nat.le_trans (Nat.add_le_add_right hc.2 _) (Nat.le_of_ble_eq_true rfl)⟩ (fun H2 locs2 J2 hk2 => ?_)
  have J1 := LM_kept J1 (A := Aw (s.heap.size + 110) 43) (fun i hi z => by have := z.1; omega) hk2 J2.2.2.1
  have I3 := LM_kept I3 (A := Aw (s.heap.size + 110) 43) (fun i hi z => by have := z.2; omega) hk2 J2.2.2.1
  refine lv_pop hx9 hb9 dL_law_331 rfl ?_
  refine lv_goto (tgt := 1526) hx9 hb9 dL_law_332 (by decide) ?_
  refine W.widen (k := cl + 1) (n := sl + 6) (Nat.le_succ _) (Nat.le_add_right _ _) ?_
  exact K _ _ _ _ _ _ ⟨J1, J2, I3, L1⟩ hl
set_option maxHeartbeats 1000000 in
theorem lc_335 (S : CallFix p m c cL_law 7 s #[Value.ref b] lw_tbl RL) (hX : va_X b L xs s s.heap) (hbl : b < s.heap.size) {hx hm : PH} {f : Nat → Int64} (I : LW D cy hx hm f s H locs) {i : Int32} (hin : IN i L) {cl sl : Nat} (hc : cl ≤ 1000 ∧ sl ≤ 20000) (hl : lv_has ls 7 (LV b s i)) (K : ∀ (hx' hm' : PH) (f' : Nat → Int64) (H' : Heap) (locs' : List Loc) (ls' : Array Slot), LW D cy hx' hm' f' s H' locs' → lv_has ls' 7 (LV b s i) → W p l e room_1 s m #[Value.ref b] below meth c H' locs' (cl + 1) (sl + 6) (lw_Z below #[Value.ref b] s) (F0 m 1526 ls' [])) : W p l e room_1 s m #[Value.ref b] below meth c H locs cl sl (lw_Z below #[Value.ref b] s) (F0 m 335 ls []) := by
  have hbA : ¬ A0 s b := Nat.not_le.mpr hbl
  have hx9 := S.1
  have hb9 := S.2.1
  obtain ⟨I1, I2, I3, L0⟩ := I
  have hS := I1.2.2.1
  obtain ⟨_, v1, v2, v3, v4, v5⟩ := hin
  obtain ⟨a, hx', hm', ex, em, L1⟩ := p_named L0 (xs (i + 1).toNatClampNeg)
  refine lv_aload_n hx9 hb9 dL_law_335 rfl (lv_at hl 1 rfl) ?_
  refine lv_aload_n hx9 hb9 dL_law_336 rfl (lv_at hl 0 rfl) ?_
  refine lv_iload hx9 hb9 dL_law_337 (lv_at hl 4 rfl) ?_
  refine lv_iconst (v := 1) hx9 hb9 dL_law_339 (by decide) ?_
  refine lv_iadd hx9 hb9 dL_law_340 ?_
  refine va_sld (A := A0 s) hx9 hb9 hX hbl hbA hS v1 dL_law_341 ?_
  refine l_Vi (As := [.int (xs (i + 1).toNatClampNeg)]) S (M11_named l D cy s.heap.size (Aw s.heap.size 110) false ex) gL_11_named rfl rfl rfl cdL_11_named ⟨Nat.le_of_ble_eq_true rfl, Nat.le_of_ble_eq_true rfl⟩ I1 (Nat.le_refl _) (x_ok L0.1).1 clX11 rfl rfl hl.1 rfl (Nat.le_of_ble_eq_true rfl) dL_law_342 ⟨Nat.le_trans (Nat.add_le_add_right hc.1 _) (Nat.le_of_ble_eq_true rfl), Nat.le_trans (Nat.add_le_add_right hc.2 _) (Nat.le_of_ble_eq_true rfl)⟩ (fun H1 locs1 J1 hk1 => ?_)
  have I2 := LM_kept I2 (A := Aw s.heap.size 110) (fun i hi z => by have := z.2; omega) hk1 J1.2.2.1
  have I3 := LM_kept I3 (A := Aw s.heap.size 110) (fun i hi z => by have := z.2; omega) hk1 J1.2.2.1
  have hS := I2.2.2.1
  refine lv_pop hx9 hb9 dL_law_345 rfl ?_
  refine lv_aload_n hx9 hb9 dL_law_346 rfl (lv_at hl 2 rfl) ?_
  refine lv_aload_n hx9 hb9 dL_law_347 rfl (lv_at hl 0 rfl) ?_
  refine lv_iload hx9 hb9 dL_law_348 (lv_at hl 4 rfl) ?_
  refine lv_iconst (v := 1) hx9 hb9 dL_law_350 (by decide) ?_
  refine lv_iadd hx9 hb9 dL_law_351 ?_
  refine va_sld (A := A0 s) hx9 hb9 hX hbl hbA hS v1 dL_law_352 ?_
  refine l_Vi (As := [.int (xs (i + 1).toNatClampNeg)]) S (M12_named l D cy (s.heap.size + 110) (Aw (s.heap.size + 110) 43) false em) gL_12_named rfl rfl rfl cdL_12_named ⟨Nat.le_of_ble_eq_true rfl, Nat.le_of_ble_eq_true rfl⟩ I2 (Nat.le_add_right _ _) (m_ok L0.2.1).1 clX12 rfl rfl hl.1 rfl (Nat.le_of_ble_eq_true rfl) dL_law_353 ⟨Nat.le_trans (Nat.add_le_add_right hc.1 _) (Nat.le_of_ble_eq_true rfl), Nat.le_trans (Nat.add_le_add_right hc.2 _) (Nat.le_of_ble_eq_true rfl)⟩ (fun H2 locs2 J2 hk2 => ?_)
  have J1 := LM_kept J1 (A := Aw (s.heap.size + 110) 43) (fun i hi z => by have := z.1; omega) hk2 J2.2.2.1
  have I3 := LM_kept I3 (A := Aw (s.heap.size + 110) 43) (fun i hi z => by have := z.2; omega) hk2 J2.2.2.1
  refine lv_pop hx9 hb9 dL_law_356 rfl ?_
  refine lv_goto (tgt := 1526) hx9 hb9 dL_law_357 (by decide) ?_
  refine W.widen (k := cl + 1) (n := sl + 6) (Nat.le_succ _) (Nat.le_add_right _ _) ?_
  exact K _ _ _ _ _ _ ⟨J1, J2, I3, L1⟩ hl
set_option maxHeartbeats 1000000 in
theorem lc_400 (S : CallFix p m c cL_law 7 s #[Value.ref b] lw_tbl RL) (hX : va_X b L xs s s.heap) (hbl : b < s.heap.size) {hx hm : PH} {f : Nat → Int64} (I : LW D cy hx hm f s H locs) {i : Int32} (hin : IN i L) {cl sl : Nat} (hc : cl ≤ 1000 ∧ sl ≤ 20000) (hl : lv_has ls 7 (LV b s i)) (K : ∀ (hx' hm' : PH) (f' : Nat → Int64) (H' : Heap) (locs' : List Loc) (ls' : Array Slot), LW D cy hx' hm' f' s H' locs' → lv_has ls' 7 (LV b s i) → W p l e room_1 s m #[Value.ref b] below meth c H' locs' (cl + 1) (sl + 6) (lw_Z below #[Value.ref b] s) (F0 m 1526 ls' [])) : W p l e room_1 s m #[Value.ref b] below meth c H locs cl sl (lw_Z below #[Value.ref b] s) (F0 m 400 ls []) := by
  have hbA : ¬ A0 s b := Nat.not_le.mpr hbl
  have hx9 := S.1
  have hb9 := S.2.1
  obtain ⟨I1, I2, I3, L0⟩ := I
  have hS := I1.2.2.1
  obtain ⟨_, v1, v2, v3, v4, v5⟩ := hin
  obtain ⟨a, hx', hm', ex, em, L1⟩ := p_wave L0 (xs (i + 1).toNatClampNeg) (xs (i + 2).toNatClampNeg)
  refine lv_aload_n hx9 hb9 dL_law_400 rfl (lv_at hl 1 rfl) ?_
  refine lv_aload_n hx9 hb9 dL_law_401 rfl (lv_at hl 0 rfl) ?_
  refine lv_iload hx9 hb9 dL_law_402 (lv_at hl 4 rfl) ?_
  refine lv_iconst (v := 1) hx9 hb9 dL_law_404 (by decide) ?_
  refine lv_iadd hx9 hb9 dL_law_405 ?_
  refine va_sld (A := A0 s) hx9 hb9 hX hbl hbA hS v1 dL_law_406 ?_
  refine lv_aload_n hx9 hb9 dL_law_407 rfl (lv_at hl 0 rfl) ?_
  refine lv_iload hx9 hb9 dL_law_408 (lv_at hl 4 rfl) ?_
  refine lv_iconst (v := 2) hx9 hb9 dL_law_410 (by decide) ?_
  refine lv_iadd hx9 hb9 dL_law_411 ?_
  refine va_sld (A := A0 s) hx9 hb9 hX hbl hbA hS v2 dL_law_412 ?_
  refine l_Vi (As := [.int (xs (i + 1).toNatClampNeg), .int (xs (i + 2).toNatClampNeg)]) S (M11_wave l D cy s.heap.size (Aw s.heap.size 110) false ex) gL_11_wave rfl rfl rfl cdL_11_wave ⟨Nat.le_of_ble_eq_true rfl, Nat.le_of_ble_eq_true rfl⟩ I1 (Nat.le_refl _) (x_ok L0.1).1 clX11 rfl rfl hl.1 rfl (Nat.le_of_ble_eq_true rfl) dL_law_413 ⟨Nat.le_trans (Nat.add_le_add_right hc.1 _) (Nat.le_of_ble_eq_true rfl), Nat.le_trans (Nat.add_le_add_right hc.2 _) (Nat.le_of_ble_eq_true rfl)⟩ (fun H1 locs1 J1 hk1 => ?_)
  have I2 := LM_kept I2 (A := Aw s.heap.size 110) (fun i hi z => by have := z.2; omega) hk1 J1.2.2.1
  have I3 := LM_kept I3 (A := Aw s.heap.size 110) (fun i hi z => by have := z.2; omega) hk1 J1.2.2.1
  have hS := I2.2.2.1
  refine lv_pop hx9 hb9 dL_law_416 rfl ?_
  refine lv_aload_n hx9 hb9 dL_law_417 rfl (lv_at hl 2 rfl) ?_
  refine lv_aload_n hx9 hb9 dL_law_418 rfl (lv_at hl 0 rfl) ?_
  refine lv_iload hx9 hb9 dL_law_419 (lv_at hl 4 rfl) ?_
  refine lv_iconst (v := 1) hx9 hb9 dL_law_421 (by decide) ?_
  refine lv_iadd hx9 hb9 dL_law_422 ?_
  refine va_sld (A := A0 s) hx9 hb9 hX hbl hbA hS v1 dL_law_423 ?_
  refine lv_aload_n hx9 hb9 dL_law_424 rfl (lv_at hl 0 rfl) ?_
  refine lv_iload hx9 hb9 dL_law_425 (lv_at hl 4 rfl) ?_
  refine lv_iconst (v := 2) hx9 hb9 dL_law_427 (by decide) ?_
  refine lv_iadd hx9 hb9 dL_law_428 ?_
  refine va_sld (A := A0 s) hx9 hb9 hX hbl hbA hS v2 dL_law_429 ?_
  refine l_Vi (As := [.int (xs (i + 1).toNatClampNeg), .int (xs (i + 2).toNatClampNeg)]) S (M12_wave l D cy (s.heap.size + 110) (Aw (s.heap.size + 110) 43) false em) gL_12_wave rfl rfl rfl cdL_12_wave ⟨Nat.le_of_ble_eq_true rfl, Nat.le_of_ble_eq_true rfl⟩ I2 (Nat.le_add_right _ _) (m_ok L0.2.1).1 clX12 rfl rfl hl.1 rfl (Nat.le_of_ble_eq_true rfl) dL_law_430 ⟨Nat.le_trans (Nat.add_le_add_right hc.1 _) (Nat.le_of_ble_eq_true rfl), Nat.le_trans (Nat.add_le_add_right hc.2 _) (Nat.le_of_ble_eq_true rfl)⟩ (fun H2 locs2 J2 hk2 => ?_)
  have J1 := LM_kept J1 (A := Aw (s.heap.size + 110) 43) (fun i hi z => by have := z.1; omega) hk2 J2.2.2.1
  have I3 := LM_kept I3 (A := Aw (s.heap.size + 110) 43) (fun i hi z => by have := z.2; omega) hk2 J2.2.2.1
  refine lv_pop hx9 hb9 dL_law_433 rfl ?_
  refine lv_goto (tgt := 1526) hx9 hb9 dL_law_434 (by decide) ?_
  refine W.widen (k := cl + 1) (n := sl + 6) (Nat.le_succ _) (Nat.le_add_right _ _) ?_
  exact K _ _ _ _ _ _ ⟨J1, J2, I3, L1⟩ hl
set_option maxHeartbeats 1000000 in
theorem lc_437 (S : CallFix p m c cL_law 7 s #[Value.ref b] lw_tbl RL) (hX : va_X b L xs s s.heap) (hbl : b < s.heap.size) {hx hm : PH} {f : Nat → Int64} (I : LW D cy hx hm f s H locs) {i : Int32} (hin : IN i L) {cl sl : Nat} (hc : cl ≤ 1000 ∧ sl ≤ 20000) (hl : lv_has ls 7 (LV b s i)) (K : ∀ (hx' hm' : PH) (f' : Nat → Int64) (H' : Heap) (locs' : List Loc) (ls' : Array Slot), LW D cy hx' hm' f' s H' locs' → lv_has ls' 7 (LV b s i) → W p l e room_1 s m #[Value.ref b] below meth c H' locs' (cl + 1) (sl + 6) (lw_Z below #[Value.ref b] s) (F0 m 1526 ls' [])) : W p l e room_1 s m #[Value.ref b] below meth c H locs cl sl (lw_Z below #[Value.ref b] s) (F0 m 437 ls []) := by
  have hbA : ¬ A0 s b := Nat.not_le.mpr hbl
  have hx9 := S.1
  have hb9 := S.2.1
  obtain ⟨I1, I2, I3, L0⟩ := I
  have hS := I1.2.2.1
  obtain ⟨_, v1, v2, v3, v4, v5⟩ := hin
  obtain ⟨a, hx', hm', ex, em, L1⟩ := p_peak L0 (xs (i + 1).toNatClampNeg)
  refine lv_aload_n hx9 hb9 dL_law_437 rfl (lv_at hl 1 rfl) ?_
  refine lv_aload_n hx9 hb9 dL_law_438 rfl (lv_at hl 0 rfl) ?_
  refine lv_iload hx9 hb9 dL_law_439 (lv_at hl 4 rfl) ?_
  refine lv_iconst (v := 1) hx9 hb9 dL_law_441 (by decide) ?_
  refine lv_iadd hx9 hb9 dL_law_442 ?_
  refine va_sld (A := A0 s) hx9 hb9 hX hbl hbA hS v1 dL_law_443 ?_
  refine l_Vi (As := [.int (xs (i + 1).toNatClampNeg)]) S (M11_peak l D cy s.heap.size (Aw s.heap.size 110) false ex) gL_11_peak rfl rfl rfl cdL_11_peak ⟨Nat.le_of_ble_eq_true rfl, Nat.le_of_ble_eq_true rfl⟩ I1 (Nat.le_refl _) (x_ok L0.1).1 clX11 rfl rfl hl.1 rfl (Nat.le_of_ble_eq_true rfl) dL_law_444 ⟨Nat.le_trans (Nat.add_le_add_right hc.1 _) (Nat.le_of_ble_eq_true rfl), Nat.le_trans (Nat.add_le_add_right hc.2 _) (Nat.le_of_ble_eq_true rfl)⟩ (fun H1 locs1 J1 hk1 => ?_)
  have I2 := LM_kept I2 (A := Aw s.heap.size 110) (fun i hi z => by have := z.2; omega) hk1 J1.2.2.1
  have I3 := LM_kept I3 (A := Aw s.heap.size 110) (fun i hi z => by have := z.2; omega) hk1 J1.2.2.1
  have hS := I2.2.2.1
  refine lv_pop hx9 hb9 dL_law_447 rfl ?_
  refine lv_aload_n hx9 hb9 dL_law_448 rfl (lv_at hl 2 rfl) ?_
  refine lv_aload_n hx9 hb9 dL_law_449 rfl (lv_at hl 0 rfl) ?_
  refine lv_iload hx9 hb9 dL_law_450 (lv_at hl 4 rfl) ?_
  refine lv_iconst (v := 1) hx9 hb9 dL_law_452 (by decide) ?_
  refine lv_iadd hx9 hb9 dL_law_453 ?_
  refine va_sld (A := A0 s) hx9 hb9 hX hbl hbA hS v1 dL_law_454 ?_
  refine l_Vi (As := [.int (xs (i + 1).toNatClampNeg)]) S (M12_peak l D cy (s.heap.size + 110) (Aw (s.heap.size + 110) 43) false em) gL_12_peak rfl rfl rfl cdL_12_peak ⟨Nat.le_of_ble_eq_true rfl, Nat.le_of_ble_eq_true rfl⟩ I2 (Nat.le_add_right _ _) (m_ok L0.2.1).1 clX12 rfl rfl hl.1 rfl (Nat.le_of_ble_eq_true rfl) dL_law_455 ⟨Nat.le_trans (Nat.add_le_add_right hc.1 _) (Nat.le_of_ble_eq_true rfl), Nat.le_trans (Nat.add_le_add_right hc.2 _) (Nat.le_of_ble_eq_true rfl)⟩ (fun H2 locs2 J2 hk2 => ?_)
  have J1 := LM_kept J1 (A := Aw (s.heap.size + 110) 43) (fun i hi z => by have := z.1; omega) hk2 J2.2.2.1
  have I3 := LM_kept I3 (A := Aw (s.heap.size + 110) 43) (fun i hi z => by have := z.2; omega) hk2 J2.2.2.1
  refine lv_pop hx9 hb9 dL_law_458 rfl ?_
  refine lv_goto (tgt := 1526) hx9 hb9 dL_law_459 (by decide) ?_
  refine W.widen (k := cl + 1) (n := sl + 6) (Nat.le_succ _) (Nat.le_add_right _ _) ?_
  exact K _ _ _ _ _ _ ⟨J1, J2, I3, L1⟩ hl
set_option maxHeartbeats 1000000 in
theorem lc_462 (S : CallFix p m c cL_law 7 s #[Value.ref b] lw_tbl RL) (hX : va_X b L xs s s.heap) (hbl : b < s.heap.size) {hx hm : PH} {f : Nat → Int64} (I : LW D cy hx hm f s H locs) {i : Int32} (hin : IN i L) {cl sl : Nat} (hc : cl ≤ 1000 ∧ sl ≤ 20000) (hl : lv_has ls 7 (LV b s i)) (K : ∀ (hx' hm' : PH) (f' : Nat → Int64) (H' : Heap) (locs' : List Loc) (ls' : Array Slot), LW D cy hx' hm' f' s H' locs' → lv_has ls' 7 (LV b s i) → W p l e room_1 s m #[Value.ref b] below meth c H' locs' (cl + 1) (sl + 6) (lw_Z below #[Value.ref b] s) (F0 m 1526 ls' [])) : W p l e room_1 s m #[Value.ref b] below meth c H locs cl sl (lw_Z below #[Value.ref b] s) (F0 m 462 ls []) := by
  have hbA : ¬ A0 s b := Nat.not_le.mpr hbl
  have hx9 := S.1
  have hb9 := S.2.1
  obtain ⟨I1, I2, I3, L0⟩ := I
  have hS := I1.2.2.1
  obtain ⟨_, v1, v2, v3, v4, v5⟩ := hin
  obtain ⟨a, hx', hm', ex, em, L1⟩ := p_odds L0 (xs (i + 1).toNatClampNeg) (xs (i + 2).toNatClampNeg) (xs (i + 3).toNatClampNeg)
  refine lv_aload_n hx9 hb9 dL_law_462 rfl (lv_at hl 1 rfl) ?_
  refine lv_aload_n hx9 hb9 dL_law_463 rfl (lv_at hl 0 rfl) ?_
  refine lv_iload hx9 hb9 dL_law_464 (lv_at hl 4 rfl) ?_
  refine lv_iconst (v := 1) hx9 hb9 dL_law_466 (by decide) ?_
  refine lv_iadd hx9 hb9 dL_law_467 ?_
  refine va_sld (A := A0 s) hx9 hb9 hX hbl hbA hS v1 dL_law_468 ?_
  refine lv_aload_n hx9 hb9 dL_law_469 rfl (lv_at hl 0 rfl) ?_
  refine lv_iload hx9 hb9 dL_law_470 (lv_at hl 4 rfl) ?_
  refine lv_iconst (v := 2) hx9 hb9 dL_law_472 (by decide) ?_
  refine lv_iadd hx9 hb9 dL_law_473 ?_
  refine va_sld (A := A0 s) hx9 hb9 hX hbl hbA hS v2 dL_law_474 ?_
  refine lv_aload_n hx9 hb9 dL_law_475 rfl (lv_at hl 0 rfl) ?_
  refine lv_iload hx9 hb9 dL_law_476 (lv_at hl 4 rfl) ?_
  refine lv_iconst (v := 3) hx9 hb9 dL_law_478 (by decide) ?_
  refine lv_iadd hx9 hb9 dL_law_479 ?_
  refine va_sld (A := A0 s) hx9 hb9 hX hbl hbA hS v3 dL_law_480 ?_
  refine l_Vi (As := [.int (xs (i + 1).toNatClampNeg), .int (xs (i + 2).toNatClampNeg), .int (xs (i + 3).toNatClampNeg)]) S (M11_odds l D cy s.heap.size (Aw s.heap.size 110) false ex) gL_11_odds rfl rfl rfl cdL_11_odds ⟨Nat.le_of_ble_eq_true rfl, Nat.le_of_ble_eq_true rfl⟩ I1 (Nat.le_refl _) (x_ok L0.1).1 clX11 rfl rfl hl.1 rfl (Nat.le_of_ble_eq_true rfl) dL_law_481 ⟨Nat.le_trans (Nat.add_le_add_right hc.1 _) (Nat.le_of_ble_eq_true rfl), Nat.le_trans (Nat.add_le_add_right hc.2 _) (Nat.le_of_ble_eq_true rfl)⟩ (fun H1 locs1 J1 hk1 => ?_)
  have I2 := LM_kept I2 (A := Aw s.heap.size 110) (fun i hi z => by have := z.2; omega) hk1 J1.2.2.1
  have I3 := LM_kept I3 (A := Aw s.heap.size 110) (fun i hi z => by have := z.2; omega) hk1 J1.2.2.1
  have hS := I2.2.2.1
  refine lv_pop hx9 hb9 dL_law_484 rfl ?_
  refine lv_aload_n hx9 hb9 dL_law_485 rfl (lv_at hl 2 rfl) ?_
  refine lv_aload_n hx9 hb9 dL_law_486 rfl (lv_at hl 0 rfl) ?_
  refine lv_iload hx9 hb9 dL_law_487 (lv_at hl 4 rfl) ?_
  refine lv_iconst (v := 1) hx9 hb9 dL_law_489 (by decide) ?_
  refine lv_iadd hx9 hb9 dL_law_490 ?_
  refine va_sld (A := A0 s) hx9 hb9 hX hbl hbA hS v1 dL_law_491 ?_
  refine lv_aload_n hx9 hb9 dL_law_492 rfl (lv_at hl 0 rfl) ?_
  refine lv_iload hx9 hb9 dL_law_493 (lv_at hl 4 rfl) ?_
  refine lv_iconst (v := 2) hx9 hb9 dL_law_495 (by decide) ?_
  refine lv_iadd hx9 hb9 dL_law_496 ?_
  refine va_sld (A := A0 s) hx9 hb9 hX hbl hbA hS v2 dL_law_497 ?_
  refine lv_aload_n hx9 hb9 dL_law_498 rfl (lv_at hl 0 rfl) ?_
  refine lv_iload hx9 hb9 dL_law_499 (lv_at hl 4 rfl) ?_
  refine lv_iconst (v := 3) hx9 hb9 dL_law_501 (by decide) ?_
  refine lv_iadd hx9 hb9 dL_law_502 ?_
  refine va_sld (A := A0 s) hx9 hb9 hX hbl hbA hS v3 dL_law_503 ?_
  refine l_Vi (As := [.int (xs (i + 1).toNatClampNeg), .int (xs (i + 2).toNatClampNeg), .int (xs (i + 3).toNatClampNeg)]) S (M12_odds l D cy (s.heap.size + 110) (Aw (s.heap.size + 110) 43) false em) gL_12_odds rfl rfl rfl cdL_12_odds ⟨Nat.le_of_ble_eq_true rfl, Nat.le_of_ble_eq_true rfl⟩ I2 (Nat.le_add_right _ _) (m_ok L0.2.1).1 clX12 rfl rfl hl.1 rfl (Nat.le_of_ble_eq_true rfl) dL_law_504 ⟨Nat.le_trans (Nat.add_le_add_right hc.1 _) (Nat.le_of_ble_eq_true rfl), Nat.le_trans (Nat.add_le_add_right hc.2 _) (Nat.le_of_ble_eq_true rfl)⟩ (fun H2 locs2 J2 hk2 => ?_)
  have J1 := LM_kept J1 (A := Aw (s.heap.size + 110) 43) (fun i hi z => by have := z.1; omega) hk2 J2.2.2.1
  have I3 := LM_kept I3 (A := Aw (s.heap.size + 110) 43) (fun i hi z => by have := z.2; omega) hk2 J2.2.2.1
  refine lv_pop hx9 hb9 dL_law_507 rfl ?_
  refine lv_goto (tgt := 1526) hx9 hb9 dL_law_508 (by decide) ?_
  refine W.widen (k := cl + 1) (n := sl + 6) (Nat.le_succ _) (Nat.le_add_right _ _) ?_
  exact K _ _ _ _ _ _ ⟨J1, J2, I3, L1⟩ hl
set_option maxHeartbeats 1000000 in
theorem lc_511 (S : CallFix p m c cL_law 7 s #[Value.ref b] lw_tbl RL) (hX : va_X b L xs s s.heap) (hbl : b < s.heap.size) {hx hm : PH} {f : Nat → Int64} (I : LW D cy hx hm f s H locs) {i : Int32} (hin : IN i L) {cl sl : Nat} (hc : cl ≤ 1000 ∧ sl ≤ 20000) (hl : lv_has ls 7 (LV b s i)) (K : ∀ (hx' hm' : PH) (f' : Nat → Int64) (H' : Heap) (locs' : List Loc) (ls' : Array Slot), LW D cy hx' hm' f' s H' locs' → lv_has ls' 7 (LV b s i) → W p l e room_1 s m #[Value.ref b] below meth c H' locs' (cl + 1) (sl + 6) (lw_Z below #[Value.ref b] s) (F0 m 1526 ls' [])) : W p l e room_1 s m #[Value.ref b] below meth c H locs cl sl (lw_Z below #[Value.ref b] s) (F0 m 511 ls []) := by
  have hbA : ¬ A0 s b := Nat.not_le.mpr hbl
  have hx9 := S.1
  have hb9 := S.2.1
  obtain ⟨I1, I2, I3, L0⟩ := I
  have hS := I1.2.2.1
  obtain ⟨_, v1, v2, v3, v4, v5⟩ := hin
  obtain ⟨a, hx', hm', ex, em, L1⟩ := p_law L0 (xs (i + 1).toNatClampNeg) (xs (i + 2).toNatClampNeg) (xs (i + 3).toNatClampNeg)
  refine lv_aload_n hx9 hb9 dL_law_511 rfl (lv_at hl 1 rfl) ?_
  refine lv_aload_n hx9 hb9 dL_law_512 rfl (lv_at hl 0 rfl) ?_
  refine lv_iload hx9 hb9 dL_law_513 (lv_at hl 4 rfl) ?_
  refine lv_iconst (v := 1) hx9 hb9 dL_law_515 (by decide) ?_
  refine lv_iadd hx9 hb9 dL_law_516 ?_
  refine va_sld (A := A0 s) hx9 hb9 hX hbl hbA hS v1 dL_law_517 ?_
  refine lv_aload_n hx9 hb9 dL_law_518 rfl (lv_at hl 0 rfl) ?_
  refine lv_iload hx9 hb9 dL_law_519 (lv_at hl 4 rfl) ?_
  refine lv_iconst (v := 2) hx9 hb9 dL_law_521 (by decide) ?_
  refine lv_iadd hx9 hb9 dL_law_522 ?_
  refine va_sld (A := A0 s) hx9 hb9 hX hbl hbA hS v2 dL_law_523 ?_
  refine lv_aload_n hx9 hb9 dL_law_524 rfl (lv_at hl 0 rfl) ?_
  refine lv_iload hx9 hb9 dL_law_525 (lv_at hl 4 rfl) ?_
  refine lv_iconst (v := 3) hx9 hb9 dL_law_527 (by decide) ?_
  refine lv_iadd hx9 hb9 dL_law_528 ?_
  refine va_sld (A := A0 s) hx9 hb9 hX hbl hbA hS v3 dL_law_529 ?_
  refine l_Vl (As := [.int (xs (i + 1).toNatClampNeg), .int (xs (i + 2).toNatClampNeg), .int (xs (i + 3).toNatClampNeg)]) S (M11_law l D cy s.heap.size (Aw s.heap.size 110) false ex) gL_11_law rfl rfl rfl cdL_11_law ⟨Nat.le_of_ble_eq_true rfl, Nat.le_of_ble_eq_true rfl⟩ I1 (Nat.le_refl _) (x_ok L0.1).1 clX11 rfl rfl hl.1 rfl (Nat.le_of_ble_eq_true rfl) dL_law_530 ⟨Nat.le_trans (Nat.add_le_add_right hc.1 _) (Nat.le_of_ble_eq_true rfl), Nat.le_trans (Nat.add_le_add_right hc.2 _) (Nat.le_of_ble_eq_true rfl)⟩ (fun H1 locs1 J1 hk1 => ?_)
  have I2 := LM_kept I2 (A := Aw s.heap.size 110) (fun i hi z => by have := z.2; omega) hk1 J1.2.2.1
  have I3 := LM_kept I3 (A := Aw s.heap.size 110) (fun i hi z => by have := z.2; omega) hk1 J1.2.2.1
  have hS := I2.2.2.1
  refine lv_pop2_2 hx9 hb9 dL_law_533 rfl ?_
  refine lv_aload_n hx9 hb9 dL_law_534 rfl (lv_at hl 2 rfl) ?_
  refine lv_aload_n hx9 hb9 dL_law_535 rfl (lv_at hl 0 rfl) ?_
  refine lv_iload hx9 hb9 dL_law_536 (lv_at hl 4 rfl) ?_
  refine lv_iconst (v := 1) hx9 hb9 dL_law_538 (by decide) ?_
  refine lv_iadd hx9 hb9 dL_law_539 ?_
  refine va_sld (A := A0 s) hx9 hb9 hX hbl hbA hS v1 dL_law_540 ?_
  refine lv_aload_n hx9 hb9 dL_law_541 rfl (lv_at hl 0 rfl) ?_
  refine lv_iload hx9 hb9 dL_law_542 (lv_at hl 4 rfl) ?_
  refine lv_iconst (v := 2) hx9 hb9 dL_law_544 (by decide) ?_
  refine lv_iadd hx9 hb9 dL_law_545 ?_
  refine va_sld (A := A0 s) hx9 hb9 hX hbl hbA hS v2 dL_law_546 ?_
  refine lv_aload_n hx9 hb9 dL_law_547 rfl (lv_at hl 0 rfl) ?_
  refine lv_iload hx9 hb9 dL_law_548 (lv_at hl 4 rfl) ?_
  refine lv_iconst (v := 3) hx9 hb9 dL_law_550 (by decide) ?_
  refine lv_iadd hx9 hb9 dL_law_551 ?_
  refine va_sld (A := A0 s) hx9 hb9 hX hbl hbA hS v3 dL_law_552 ?_
  refine l_Vl (As := [.int (xs (i + 1).toNatClampNeg), .int (xs (i + 2).toNatClampNeg), .int (xs (i + 3).toNatClampNeg)]) S (M12_law l D cy (s.heap.size + 110) (Aw (s.heap.size + 110) 43) false em) gL_12_law rfl rfl rfl cdL_12_law ⟨Nat.le_of_ble_eq_true rfl, Nat.le_of_ble_eq_true rfl⟩ I2 (Nat.le_add_right _ _) (m_ok L0.2.1).1 clX12 rfl rfl hl.1 rfl (Nat.le_of_ble_eq_true rfl) dL_law_553 ⟨Nat.le_trans (Nat.add_le_add_right hc.1 _) (Nat.le_of_ble_eq_true rfl), Nat.le_trans (Nat.add_le_add_right hc.2 _) (Nat.le_of_ble_eq_true rfl)⟩ (fun H2 locs2 J2 hk2 => ?_)
  have J1 := LM_kept J1 (A := Aw (s.heap.size + 110) 43) (fun i hi z => by have := z.1; omega) hk2 J2.2.2.1
  have I3 := LM_kept I3 (A := Aw (s.heap.size + 110) 43) (fun i hi z => by have := z.2; omega) hk2 J2.2.2.1
  refine lv_pop2_2 hx9 hb9 dL_law_556 rfl ?_
  refine lv_goto (tgt := 1526) hx9 hb9 dL_law_557 (by decide) ?_
  refine W.widen (k := cl + 1) (n := sl + 6) (Nat.le_succ _) (Nat.le_add_right _ _) ?_
  exact K _ _ _ _ _ _ ⟨J1, J2, I3, L1⟩ hl
set_option maxHeartbeats 1000000 in
theorem lc_560 (S : CallFix p m c cL_law 7 s #[Value.ref b] lw_tbl RL) (hX : va_X b L xs s s.heap) (hbl : b < s.heap.size) {hx hm : PH} {f : Nat → Int64} (I : LW D cy hx hm f s H locs) {i : Int32} (hin : IN i L) {cl sl : Nat} (hc : cl ≤ 1000 ∧ sl ≤ 20000) (hl : lv_has ls 7 (LV b s i)) (K : ∀ (hx' hm' : PH) (f' : Nat → Int64) (H' : Heap) (locs' : List Loc) (ls' : Array Slot), LW D cy hx' hm' f' s H' locs' → lv_has ls' 7 (LV b s i) → W p l e room_1 s m #[Value.ref b] below meth c H' locs' (cl + 1) (sl + 6) (lw_Z below #[Value.ref b] s) (F0 m 1526 ls' [])) : W p l e room_1 s m #[Value.ref b] below meth c H locs cl sl (lw_Z below #[Value.ref b] s) (F0 m 560 ls []) := by
  have hbA : ¬ A0 s b := Nat.not_le.mpr hbl
  have hx9 := S.1
  have hb9 := S.2.1
  obtain ⟨I1, I2, I3, L0⟩ := I
  have hS := I1.2.2.1
  obtain ⟨_, v1, v2, v3, v4, v5⟩ := hin
  obtain ⟨a, hx', hm', ex, em, L1⟩ := p_stroke L0 (xs (i + 1).toNatClampNeg) (xs (i + 2).toNatClampNeg)
  refine lv_aload_n hx9 hb9 dL_law_560 rfl (lv_at hl 1 rfl) ?_
  refine lv_aload_n hx9 hb9 dL_law_561 rfl (lv_at hl 0 rfl) ?_
  refine lv_iload hx9 hb9 dL_law_562 (lv_at hl 4 rfl) ?_
  refine lv_iconst (v := 1) hx9 hb9 dL_law_564 (by decide) ?_
  refine lv_iadd hx9 hb9 dL_law_565 ?_
  refine va_sld (A := A0 s) hx9 hb9 hX hbl hbA hS v1 dL_law_566 ?_
  refine lv_aload_n hx9 hb9 dL_law_567 rfl (lv_at hl 0 rfl) ?_
  refine lv_iload hx9 hb9 dL_law_568 (lv_at hl 4 rfl) ?_
  refine lv_iconst (v := 2) hx9 hb9 dL_law_570 (by decide) ?_
  refine lv_iadd hx9 hb9 dL_law_571 ?_
  refine va_sld (A := A0 s) hx9 hb9 hX hbl hbA hS v2 dL_law_572 ?_
  refine l_Vi (As := [.int (xs (i + 1).toNatClampNeg), .int (xs (i + 2).toNatClampNeg)]) S (M11_stroke l D cy s.heap.size (Aw s.heap.size 110) ex) gL_11_stroke rfl rfl rfl cdL_11_stroke ⟨Nat.le_of_ble_eq_true rfl, Nat.le_of_ble_eq_true rfl⟩ I1 (Nat.le_refl _) (x_ok L0.1).1 clX11 rfl rfl hl.1 rfl (Nat.le_of_ble_eq_true rfl) dL_law_573 ⟨Nat.le_trans (Nat.add_le_add_right hc.1 _) (Nat.le_of_ble_eq_true rfl), Nat.le_trans (Nat.add_le_add_right hc.2 _) (Nat.le_of_ble_eq_true rfl)⟩ (fun H1 locs1 J1 hk1 => ?_)
  have I2 := LM_kept I2 (A := Aw s.heap.size 110) (fun i hi z => by have := z.2; omega) hk1 J1.2.2.1
  have I3 := LM_kept I3 (A := Aw s.heap.size 110) (fun i hi z => by have := z.2; omega) hk1 J1.2.2.1
  have hS := I2.2.2.1
  refine lv_pop hx9 hb9 dL_law_576 rfl ?_
  refine lv_aload_n hx9 hb9 dL_law_577 rfl (lv_at hl 2 rfl) ?_
  refine lv_aload_n hx9 hb9 dL_law_578 rfl (lv_at hl 0 rfl) ?_
  refine lv_iload hx9 hb9 dL_law_579 (lv_at hl 4 rfl) ?_
  refine lv_iconst (v := 1) hx9 hb9 dL_law_581 (by decide) ?_
  refine lv_iadd hx9 hb9 dL_law_582 ?_
  refine va_sld (A := A0 s) hx9 hb9 hX hbl hbA hS v1 dL_law_583 ?_
  refine lv_aload_n hx9 hb9 dL_law_584 rfl (lv_at hl 0 rfl) ?_
  refine lv_iload hx9 hb9 dL_law_585 (lv_at hl 4 rfl) ?_
  refine lv_iconst (v := 2) hx9 hb9 dL_law_587 (by decide) ?_
  refine lv_iadd hx9 hb9 dL_law_588 ?_
  refine va_sld (A := A0 s) hx9 hb9 hX hbl hbA hS v2 dL_law_589 ?_
  refine l_Vi (As := [.int (xs (i + 1).toNatClampNeg), .int (xs (i + 2).toNatClampNeg)]) S (M12_stroke l D cy (s.heap.size + 110) (Aw (s.heap.size + 110) 43) false em) gL_12_stroke rfl rfl rfl cdL_12_stroke ⟨Nat.le_of_ble_eq_true rfl, Nat.le_of_ble_eq_true rfl⟩ I2 (Nat.le_add_right _ _) (m_ok L0.2.1).1 clX12 rfl rfl hl.1 rfl (Nat.le_of_ble_eq_true rfl) dL_law_590 ⟨Nat.le_trans (Nat.add_le_add_right hc.1 _) (Nat.le_of_ble_eq_true rfl), Nat.le_trans (Nat.add_le_add_right hc.2 _) (Nat.le_of_ble_eq_true rfl)⟩ (fun H2 locs2 J2 hk2 => ?_)
  have J1 := LM_kept J1 (A := Aw (s.heap.size + 110) 43) (fun i hi z => by have := z.1; omega) hk2 J2.2.2.1
  have I3 := LM_kept I3 (A := Aw (s.heap.size + 110) 43) (fun i hi z => by have := z.2; omega) hk2 J2.2.2.1
  refine lv_pop hx9 hb9 dL_law_593 rfl ?_
  refine lv_goto (tgt := 1526) hx9 hb9 dL_law_594 (by decide) ?_
  refine W.widen (k := cl + 1) (n := sl + 6) (Nat.le_succ _) (Nat.le_add_right _ _) ?_
  exact K _ _ _ _ _ _ ⟨J1, J2, I3, L1⟩ hl
set_option maxHeartbeats 1000000 in
theorem lc_597 (S : CallFix p m c cL_law 7 s #[Value.ref b] lw_tbl RL) (hX : va_X b L xs s s.heap) (hbl : b < s.heap.size) {hx hm : PH} {f : Nat → Int64} (I : LW D cy hx hm f s H locs) {i : Int32} (hin : IN i L) {cl sl : Nat} (hc : cl ≤ 1000 ∧ sl ≤ 20000) (hl : lv_has ls 7 (LV b s i)) (K : ∀ (hx' hm' : PH) (f' : Nat → Int64) (H' : Heap) (locs' : List Loc) (ls' : Array Slot), LW D cy hx' hm' f' s H' locs' → lv_has ls' 7 (LV b s i) → W p l e room_1 s m #[Value.ref b] below meth c H' locs' (cl + 1) (sl + 6) (lw_Z below #[Value.ref b] s) (F0 m 1526 ls' [])) : W p l e room_1 s m #[Value.ref b] below meth c H locs cl sl (lw_Z below #[Value.ref b] s) (F0 m 597 ls []) := by
  have hbA : ¬ A0 s b := Nat.not_le.mpr hbl
  have hx9 := S.1
  have hb9 := S.2.1
  obtain ⟨I1, I2, I3, L0⟩ := I
  have hS := I1.2.2.1
  obtain ⟨_, v1, v2, v3, v4, v5⟩ := hin
  obtain ⟨a, hx', hm', ex, em, L1⟩ := p_rule L0 (xs (i + 1).toNatClampNeg)
  refine lv_aload_n hx9 hb9 dL_law_597 rfl (lv_at hl 1 rfl) ?_
  refine lv_aload_n hx9 hb9 dL_law_598 rfl (lv_at hl 0 rfl) ?_
  refine lv_iload hx9 hb9 dL_law_599 (lv_at hl 4 rfl) ?_
  refine lv_iconst (v := 1) hx9 hb9 dL_law_601 (by decide) ?_
  refine lv_iadd hx9 hb9 dL_law_602 ?_
  refine va_sld (A := A0 s) hx9 hb9 hX hbl hbA hS v1 dL_law_603 ?_
  refine l_Vi (As := [.int (xs (i + 1).toNatClampNeg)]) S (M11_rule l D cy s.heap.size (Aw s.heap.size 110) ex) gL_11_rule rfl rfl rfl cdL_11_rule ⟨Nat.le_of_ble_eq_true rfl, Nat.le_of_ble_eq_true rfl⟩ I1 (Nat.le_refl _) (x_ok L0.1).1 clX11 rfl rfl hl.1 rfl (Nat.le_of_ble_eq_true rfl) dL_law_604 ⟨Nat.le_trans (Nat.add_le_add_right hc.1 _) (Nat.le_of_ble_eq_true rfl), Nat.le_trans (Nat.add_le_add_right hc.2 _) (Nat.le_of_ble_eq_true rfl)⟩ (fun H1 locs1 J1 hk1 => ?_)
  have I2 := LM_kept I2 (A := Aw s.heap.size 110) (fun i hi z => by have := z.2; omega) hk1 J1.2.2.1
  have I3 := LM_kept I3 (A := Aw s.heap.size 110) (fun i hi z => by have := z.2; omega) hk1 J1.2.2.1
  have hS := I2.2.2.1
  refine lv_pop hx9 hb9 dL_law_607 rfl ?_
  refine lv_aload_n hx9 hb9 dL_law_608 rfl (lv_at hl 2 rfl) ?_
  refine lv_aload_n hx9 hb9 dL_law_609 rfl (lv_at hl 0 rfl) ?_
  refine lv_iload hx9 hb9 dL_law_610 (lv_at hl 4 rfl) ?_
  refine lv_iconst (v := 1) hx9 hb9 dL_law_612 (by decide) ?_
  refine lv_iadd hx9 hb9 dL_law_613 ?_
  refine va_sld (A := A0 s) hx9 hb9 hX hbl hbA hS v1 dL_law_614 ?_
  refine l_Vi (As := [.int (xs (i + 1).toNatClampNeg)]) S (M12_rule l D cy (s.heap.size + 110) (Aw (s.heap.size + 110) 43) false em) gL_12_rule rfl rfl rfl cdL_12_rule ⟨Nat.le_of_ble_eq_true rfl, Nat.le_of_ble_eq_true rfl⟩ I2 (Nat.le_add_right _ _) (m_ok L0.2.1).1 clX12 rfl rfl hl.1 rfl (Nat.le_of_ble_eq_true rfl) dL_law_615 ⟨Nat.le_trans (Nat.add_le_add_right hc.1 _) (Nat.le_of_ble_eq_true rfl), Nat.le_trans (Nat.add_le_add_right hc.2 _) (Nat.le_of_ble_eq_true rfl)⟩ (fun H2 locs2 J2 hk2 => ?_)
  have J1 := LM_kept J1 (A := Aw (s.heap.size + 110) 43) (fun i hi z => by have := z.1; omega) hk2 J2.2.2.1
  have I3 := LM_kept I3 (A := Aw (s.heap.size + 110) 43) (fun i hi z => by have := z.2; omega) hk2 J2.2.2.1
  refine lv_pop hx9 hb9 dL_law_618 rfl ?_
  refine lv_goto (tgt := 1526) hx9 hb9 dL_law_619 (by decide) ?_
  refine W.widen (k := cl + 1) (n := sl + 6) (Nat.le_succ _) (Nat.le_add_right _ _) ?_
  exact K _ _ _ _ _ _ ⟨J1, J2, I3, L1⟩ hl
set_option maxHeartbeats 1000000 in
theorem lc_622 (S : CallFix p m c cL_law 7 s #[Value.ref b] lw_tbl RL) (hX : va_X b L xs s s.heap) (hbl : b < s.heap.size) {hx hm : PH} {f : Nat → Int64} (I : LW D cy hx hm f s H locs) {i : Int32} (hin : IN i L) {cl sl : Nat} (hc : cl ≤ 1000 ∧ sl ≤ 20000) (hl : lv_has ls 7 (LV b s i)) (K : ∀ (hx' hm' : PH) (f' : Nat → Int64) (H' : Heap) (locs' : List Loc) (ls' : Array Slot), LW D cy hx' hm' f' s H' locs' → lv_has ls' 7 (LV b s i) → W p l e room_1 s m #[Value.ref b] below meth c H' locs' (cl + 1) (sl + 6) (lw_Z below #[Value.ref b] s) (F0 m 1526 ls' [])) : W p l e room_1 s m #[Value.ref b] below meth c H locs cl sl (lw_Z below #[Value.ref b] s) (F0 m 622 ls []) := by
  have hbA : ¬ A0 s b := Nat.not_le.mpr hbl
  have hx9 := S.1
  have hb9 := S.2.1
  obtain ⟨I1, I2, I3, L0⟩ := I
  have hS := I1.2.2.1
  obtain ⟨_, v1, v2, v3, v4, v5⟩ := hin
  obtain ⟨a, hx', hm', ex, em, L1⟩ := p_minutes L0 (xs (i + 1).toNatClampNeg)
  refine lv_aload_n hx9 hb9 dL_law_622 rfl (lv_at hl 1 rfl) ?_
  refine lv_aload_n hx9 hb9 dL_law_623 rfl (lv_at hl 0 rfl) ?_
  refine lv_iload hx9 hb9 dL_law_624 (lv_at hl 4 rfl) ?_
  refine lv_iconst (v := 1) hx9 hb9 dL_law_626 (by decide) ?_
  refine lv_iadd hx9 hb9 dL_law_627 ?_
  refine va_sld (A := A0 s) hx9 hb9 hX hbl hbA hS v1 dL_law_628 ?_
  refine l_Vi (As := [.int (xs (i + 1).toNatClampNeg)]) S (M11_minutes l D cy s.heap.size (Aw s.heap.size 110) false ex) gL_11_minutes rfl rfl rfl cdL_11_minutes ⟨Nat.le_of_ble_eq_true rfl, Nat.le_of_ble_eq_true rfl⟩ I1 (Nat.le_refl _) (x_ok L0.1).1 clX11 rfl rfl hl.1 rfl (Nat.le_of_ble_eq_true rfl) dL_law_629 ⟨Nat.le_trans (Nat.add_le_add_right hc.1 _) (Nat.le_of_ble_eq_true rfl), Nat.le_trans (Nat.add_le_add_right hc.2 _) (Nat.le_of_ble_eq_true rfl)⟩ (fun H1 locs1 J1 hk1 => ?_)
  have I2 := LM_kept I2 (A := Aw s.heap.size 110) (fun i hi z => by have := z.2; omega) hk1 J1.2.2.1
  have I3 := LM_kept I3 (A := Aw s.heap.size 110) (fun i hi z => by have := z.2; omega) hk1 J1.2.2.1
  have hS := I2.2.2.1
  refine lv_pop hx9 hb9 dL_law_632 rfl ?_
  refine lv_aload_n hx9 hb9 dL_law_633 rfl (lv_at hl 2 rfl) ?_
  refine lv_aload_n hx9 hb9 dL_law_634 rfl (lv_at hl 0 rfl) ?_
  refine lv_iload hx9 hb9 dL_law_635 (lv_at hl 4 rfl) ?_
  refine lv_iconst (v := 1) hx9 hb9 dL_law_637 (by decide) ?_
  refine lv_iadd hx9 hb9 dL_law_638 ?_
  refine va_sld (A := A0 s) hx9 hb9 hX hbl hbA hS v1 dL_law_639 ?_
  refine l_Vi (As := [.int (xs (i + 1).toNatClampNeg)]) S (M12_minutes l D cy (s.heap.size + 110) (Aw (s.heap.size + 110) 43) false em) gL_12_minutes rfl rfl rfl cdL_12_minutes ⟨Nat.le_of_ble_eq_true rfl, Nat.le_of_ble_eq_true rfl⟩ I2 (Nat.le_add_right _ _) (m_ok L0.2.1).1 clX12 rfl rfl hl.1 rfl (Nat.le_of_ble_eq_true rfl) dL_law_640 ⟨Nat.le_trans (Nat.add_le_add_right hc.1 _) (Nat.le_of_ble_eq_true rfl), Nat.le_trans (Nat.add_le_add_right hc.2 _) (Nat.le_of_ble_eq_true rfl)⟩ (fun H2 locs2 J2 hk2 => ?_)
  have J1 := LM_kept J1 (A := Aw (s.heap.size + 110) 43) (fun i hi z => by have := z.1; omega) hk2 J2.2.2.1
  have I3 := LM_kept I3 (A := Aw (s.heap.size + 110) 43) (fun i hi z => by have := z.2; omega) hk2 J2.2.2.1
  refine lv_pop hx9 hb9 dL_law_643 rfl ?_
  refine lv_goto (tgt := 1526) hx9 hb9 dL_law_644 (by decide) ?_
  refine W.widen (k := cl + 1) (n := sl + 6) (Nat.le_succ _) (Nat.le_add_right _ _) ?_
  exact K _ _ _ _ _ _ ⟨J1, J2, I3, L1⟩ hl
set_option maxHeartbeats 1000000 in
theorem lc_647 (S : CallFix p m c cL_law 7 s #[Value.ref b] lw_tbl RL) (hX : va_X b L xs s s.heap) (hbl : b < s.heap.size) {hx hm : PH} {f : Nat → Int64} (I : LW D cy hx hm f s H locs) {i : Int32} (hin : IN i L) {cl sl : Nat} (hc : cl ≤ 1000 ∧ sl ≤ 20000) (hl : lv_has ls 7 (LV b s i)) (K : ∀ (hx' hm' : PH) (f' : Nat → Int64) (H' : Heap) (locs' : List Loc) (ls' : Array Slot), LW D cy hx' hm' f' s H' locs' → lv_has ls' 7 (LV b s i) → W p l e room_1 s m #[Value.ref b] below meth c H' locs' (cl + 1) (sl + 6) (lw_Z below #[Value.ref b] s) (F0 m 1526 ls' [])) : W p l e room_1 s m #[Value.ref b] below meth c H locs cl sl (lw_Z below #[Value.ref b] s) (F0 m 647 ls []) := by
  have hbA : ¬ A0 s b := Nat.not_le.mpr hbl
  have hx9 := S.1
  have hb9 := S.2.1
  obtain ⟨I1, I2, I3, L0⟩ := I
  have hS := I1.2.2.1
  obtain ⟨_, v1, v2, v3, v4, v5⟩ := hin
  obtain ⟨a, hx', hm', ex, em, L1⟩ := p_order L0 (xs (i + 1).toNatClampNeg) (xs (i + 2).toNatClampNeg)
  refine lv_aload_n hx9 hb9 dL_law_647 rfl (lv_at hl 1 rfl) ?_
  refine lv_aload_n hx9 hb9 dL_law_648 rfl (lv_at hl 0 rfl) ?_
  refine lv_iload hx9 hb9 dL_law_649 (lv_at hl 4 rfl) ?_
  refine lv_iconst (v := 1) hx9 hb9 dL_law_651 (by decide) ?_
  refine lv_iadd hx9 hb9 dL_law_652 ?_
  refine va_sld (A := A0 s) hx9 hb9 hX hbl hbA hS v1 dL_law_653 ?_
  refine lv_aload_n hx9 hb9 dL_law_654 rfl (lv_at hl 0 rfl) ?_
  refine lv_iload hx9 hb9 dL_law_655 (lv_at hl 4 rfl) ?_
  refine lv_iconst (v := 2) hx9 hb9 dL_law_657 (by decide) ?_
  refine lv_iadd hx9 hb9 dL_law_658 ?_
  refine va_sld (A := A0 s) hx9 hb9 hX hbl hbA hS v2 dL_law_659 ?_
  refine l_Vi (As := [.int (xs (i + 1).toNatClampNeg), .int (xs (i + 2).toNatClampNeg)]) S (M11_order l D cy s.heap.size (Aw s.heap.size 110) false ex) gL_11_order rfl rfl rfl cdL_11_order ⟨Nat.le_of_ble_eq_true rfl, Nat.le_of_ble_eq_true rfl⟩ I1 (Nat.le_refl _) (x_ok L0.1).1 clX11 rfl rfl hl.1 rfl (Nat.le_of_ble_eq_true rfl) dL_law_660 ⟨Nat.le_trans (Nat.add_le_add_right hc.1 _) (Nat.le_of_ble_eq_true rfl), Nat.le_trans (Nat.add_le_add_right hc.2 _) (Nat.le_of_ble_eq_true rfl)⟩ (fun H1 locs1 J1 hk1 => ?_)
  have I2 := LM_kept I2 (A := Aw s.heap.size 110) (fun i hi z => by have := z.2; omega) hk1 J1.2.2.1
  have I3 := LM_kept I3 (A := Aw s.heap.size 110) (fun i hi z => by have := z.2; omega) hk1 J1.2.2.1
  have hS := I2.2.2.1
  refine lv_pop hx9 hb9 dL_law_663 rfl ?_
  refine lv_aload_n hx9 hb9 dL_law_664 rfl (lv_at hl 2 rfl) ?_
  refine lv_aload_n hx9 hb9 dL_law_665 rfl (lv_at hl 0 rfl) ?_
  refine lv_iload hx9 hb9 dL_law_666 (lv_at hl 4 rfl) ?_
  refine lv_iconst (v := 1) hx9 hb9 dL_law_668 (by decide) ?_
  refine lv_iadd hx9 hb9 dL_law_669 ?_
  refine va_sld (A := A0 s) hx9 hb9 hX hbl hbA hS v1 dL_law_670 ?_
  refine lv_aload_n hx9 hb9 dL_law_671 rfl (lv_at hl 0 rfl) ?_
  refine lv_iload hx9 hb9 dL_law_672 (lv_at hl 4 rfl) ?_
  refine lv_iconst (v := 2) hx9 hb9 dL_law_674 (by decide) ?_
  refine lv_iadd hx9 hb9 dL_law_675 ?_
  refine va_sld (A := A0 s) hx9 hb9 hX hbl hbA hS v2 dL_law_676 ?_
  refine l_Vi (As := [.int (xs (i + 1).toNatClampNeg), .int (xs (i + 2).toNatClampNeg)]) S (M12_order l D cy (s.heap.size + 110) (Aw (s.heap.size + 110) 43) false em) gL_12_order rfl rfl rfl cdL_12_order ⟨Nat.le_of_ble_eq_true rfl, Nat.le_of_ble_eq_true rfl⟩ I2 (Nat.le_add_right _ _) (m_ok L0.2.1).1 clX12 rfl rfl hl.1 rfl (Nat.le_of_ble_eq_true rfl) dL_law_677 ⟨Nat.le_trans (Nat.add_le_add_right hc.1 _) (Nat.le_of_ble_eq_true rfl), Nat.le_trans (Nat.add_le_add_right hc.2 _) (Nat.le_of_ble_eq_true rfl)⟩ (fun H2 locs2 J2 hk2 => ?_)
  have J1 := LM_kept J1 (A := Aw (s.heap.size + 110) 43) (fun i hi z => by have := z.1; omega) hk2 J2.2.2.1
  have I3 := LM_kept I3 (A := Aw (s.heap.size + 110) 43) (fun i hi z => by have := z.2; omega) hk2 J2.2.2.1
  refine lv_pop hx9 hb9 dL_law_680 rfl ?_
  refine lv_goto (tgt := 1526) hx9 hb9 dL_law_681 (by decide) ?_
  refine W.widen (k := cl + 1) (n := sl + 6) (Nat.le_succ _) (Nat.le_add_right _ _) ?_
  exact K _ _ _ _ _ _ ⟨J1, J2, I3, L1⟩ hl
set_option maxHeartbeats 1000000 in
theorem lc_684 (S : CallFix p m c cL_law 7 s #[Value.ref b] lw_tbl RL) (hX : va_X b L xs s s.heap) (hbl : b < s.heap.size) {hx hm : PH} {f : Nat → Int64} (I : LW D cy hx hm f s H locs) {i : Int32} (hin : IN i L) {cl sl : Nat} (hc : cl ≤ 1000 ∧ sl ≤ 20000) (hl : lv_has ls 7 (LV b s i)) (K : ∀ (hx' hm' : PH) (f' : Nat → Int64) (H' : Heap) (locs' : List Loc) (ls' : Array Slot), LW D cy hx' hm' f' s H' locs' → lv_has ls' 7 (LV b s i) → W p l e room_1 s m #[Value.ref b] below meth c H' locs' (cl + 1) (sl + 6) (lw_Z below #[Value.ref b] s) (F0 m 1526 ls' [])) : W p l e room_1 s m #[Value.ref b] below meth c H locs cl sl (lw_Z below #[Value.ref b] s) (F0 m 684 ls []) := by
  have hbA : ¬ A0 s b := Nat.not_le.mpr hbl
  have hx9 := S.1
  have hb9 := S.2.1
  obtain ⟨I1, I2, I3, L0⟩ := I
  have hS := I1.2.2.1
  obtain ⟨_, v1, v2, v3, v4, v5⟩ := hin
  obtain ⟨a, hx', hm', ex, em, L1⟩ := p_deeper L0 (xs (i + 1).toNatClampNeg) (xs (i + 2).toNatClampNeg)
  refine lv_aload_n hx9 hb9 dL_law_684 rfl (lv_at hl 1 rfl) ?_
  refine lv_aload_n hx9 hb9 dL_law_685 rfl (lv_at hl 0 rfl) ?_
  refine lv_iload hx9 hb9 dL_law_686 (lv_at hl 4 rfl) ?_
  refine lv_iconst (v := 1) hx9 hb9 dL_law_688 (by decide) ?_
  refine lv_iadd hx9 hb9 dL_law_689 ?_
  refine va_sld (A := A0 s) hx9 hb9 hX hbl hbA hS v1 dL_law_690 ?_
  refine lv_aload_n hx9 hb9 dL_law_691 rfl (lv_at hl 0 rfl) ?_
  refine lv_iload hx9 hb9 dL_law_692 (lv_at hl 4 rfl) ?_
  refine lv_iconst (v := 2) hx9 hb9 dL_law_694 (by decide) ?_
  refine lv_iadd hx9 hb9 dL_law_695 ?_
  refine va_sld (A := A0 s) hx9 hb9 hX hbl hbA hS v2 dL_law_696 ?_
  refine l_Vi (As := [.int (xs (i + 1).toNatClampNeg), .int (xs (i + 2).toNatClampNeg)]) S (M11_deeper l D cy s.heap.size (Aw s.heap.size 110) false ex) gL_11_deeper rfl rfl rfl cdL_11_deeper ⟨Nat.le_of_ble_eq_true rfl, Nat.le_of_ble_eq_true rfl⟩ I1 (Nat.le_refl _) (x_ok L0.1).1 clX11 rfl rfl hl.1 rfl (Nat.le_of_ble_eq_true rfl) dL_law_697 ⟨Nat.le_trans (Nat.add_le_add_right hc.1 _) (Nat.le_of_ble_eq_true rfl), Nat.le_trans (Nat.add_le_add_right hc.2 _) (Nat.le_of_ble_eq_true rfl)⟩ (fun H1 locs1 J1 hk1 => ?_)
  have I2 := LM_kept I2 (A := Aw s.heap.size 110) (fun i hi z => by have := z.2; omega) hk1 J1.2.2.1
  have I3 := LM_kept I3 (A := Aw s.heap.size 110) (fun i hi z => by have := z.2; omega) hk1 J1.2.2.1
  have hS := I2.2.2.1
  refine lv_pop hx9 hb9 dL_law_700 rfl ?_
  refine lv_aload_n hx9 hb9 dL_law_701 rfl (lv_at hl 2 rfl) ?_
  refine lv_aload_n hx9 hb9 dL_law_702 rfl (lv_at hl 0 rfl) ?_
  refine lv_iload hx9 hb9 dL_law_703 (lv_at hl 4 rfl) ?_
  refine lv_iconst (v := 1) hx9 hb9 dL_law_705 (by decide) ?_
  refine lv_iadd hx9 hb9 dL_law_706 ?_
  refine va_sld (A := A0 s) hx9 hb9 hX hbl hbA hS v1 dL_law_707 ?_
  refine lv_aload_n hx9 hb9 dL_law_708 rfl (lv_at hl 0 rfl) ?_
  refine lv_iload hx9 hb9 dL_law_709 (lv_at hl 4 rfl) ?_
  refine lv_iconst (v := 2) hx9 hb9 dL_law_711 (by decide) ?_
  refine lv_iadd hx9 hb9 dL_law_712 ?_
  refine va_sld (A := A0 s) hx9 hb9 hX hbl hbA hS v2 dL_law_713 ?_
  refine l_Vi (As := [.int (xs (i + 1).toNatClampNeg), .int (xs (i + 2).toNatClampNeg)]) S (M12_deeper l D cy (s.heap.size + 110) (Aw (s.heap.size + 110) 43) false em) gL_12_deeper rfl rfl rfl cdL_12_deeper ⟨Nat.le_of_ble_eq_true rfl, Nat.le_of_ble_eq_true rfl⟩ I2 (Nat.le_add_right _ _) (m_ok L0.2.1).1 clX12 rfl rfl hl.1 rfl (Nat.le_of_ble_eq_true rfl) dL_law_714 ⟨Nat.le_trans (Nat.add_le_add_right hc.1 _) (Nat.le_of_ble_eq_true rfl), Nat.le_trans (Nat.add_le_add_right hc.2 _) (Nat.le_of_ble_eq_true rfl)⟩ (fun H2 locs2 J2 hk2 => ?_)
  have J1 := LM_kept J1 (A := Aw (s.heap.size + 110) 43) (fun i hi z => by have := z.1; omega) hk2 J2.2.2.1
  have I3 := LM_kept I3 (A := Aw (s.heap.size + 110) 43) (fun i hi z => by have := z.2; omega) hk2 J2.2.2.1
  refine lv_pop hx9 hb9 dL_law_717 rfl ?_
  refine lv_goto (tgt := 1526) hx9 hb9 dL_law_718 (by decide) ?_
  refine W.widen (k := cl + 1) (n := sl + 6) (Nat.le_succ _) (Nat.le_add_right _ _) ?_
  exact K _ _ _ _ _ _ ⟨J1, J2, I3, L1⟩ hl
set_option maxHeartbeats 1000000 in
theorem lc_721 (S : CallFix p m c cL_law 7 s #[Value.ref b] lw_tbl RL) (hX : va_X b L xs s s.heap) (hbl : b < s.heap.size) {hx hm : PH} {f : Nat → Int64} (I : LW D cy hx hm f s H locs) {i : Int32} (hin : IN i L) {cl sl : Nat} (hc : cl ≤ 1000 ∧ sl ≤ 20000) (hl : lv_has ls 7 (LV b s i)) (K : ∀ (hx' hm' : PH) (f' : Nat → Int64) (H' : Heap) (locs' : List Loc) (ls' : Array Slot), LW D cy hx' hm' f' s H' locs' → lv_has ls' 7 (LV b s i) → W p l e room_1 s m #[Value.ref b] below meth c H' locs' (cl + 1) (sl + 6) (lw_Z below #[Value.ref b] s) (F0 m 1526 ls' [])) : W p l e room_1 s m #[Value.ref b] below meth c H locs cl sl (lw_Z below #[Value.ref b] s) (F0 m 721 ls []) := by
  have hbA : ¬ A0 s b := Nat.not_le.mpr hbl
  have hx9 := S.1
  have hb9 := S.2.1
  obtain ⟨I1, I2, I3, L0⟩ := I
  have hS := I1.2.2.1
  obtain ⟨_, v1, v2, v3, v4, v5⟩ := hin
  obtain ⟨a, hx', hm', ex, em, L1⟩ := p_seat L0 (xs (i + 1).toNatClampNeg) (xs (i + 2).toNatClampNeg)
  refine lv_aload_n hx9 hb9 dL_law_721 rfl (lv_at hl 1 rfl) ?_
  refine lv_aload_n hx9 hb9 dL_law_722 rfl (lv_at hl 0 rfl) ?_
  refine lv_iload hx9 hb9 dL_law_723 (lv_at hl 4 rfl) ?_
  refine lv_iconst (v := 1) hx9 hb9 dL_law_725 (by decide) ?_
  refine lv_iadd hx9 hb9 dL_law_726 ?_
  refine va_sld (A := A0 s) hx9 hb9 hX hbl hbA hS v1 dL_law_727 ?_
  refine lv_aload_n hx9 hb9 dL_law_728 rfl (lv_at hl 0 rfl) ?_
  refine lv_iload hx9 hb9 dL_law_729 (lv_at hl 4 rfl) ?_
  refine lv_iconst (v := 2) hx9 hb9 dL_law_731 (by decide) ?_
  refine lv_iadd hx9 hb9 dL_law_732 ?_
  refine va_sld (A := A0 s) hx9 hb9 hX hbl hbA hS v2 dL_law_733 ?_
  refine l_Vi (As := [.int (xs (i + 1).toNatClampNeg), .int (xs (i + 2).toNatClampNeg)]) S (M11_seat l D cy s.heap.size (Aw s.heap.size 110) false ex) gL_11_seat rfl rfl rfl cdL_11_seat ⟨Nat.le_of_ble_eq_true rfl, Nat.le_of_ble_eq_true rfl⟩ I1 (Nat.le_refl _) (x_ok L0.1).1 clX11 rfl rfl hl.1 rfl (Nat.le_of_ble_eq_true rfl) dL_law_734 ⟨Nat.le_trans (Nat.add_le_add_right hc.1 _) (Nat.le_of_ble_eq_true rfl), Nat.le_trans (Nat.add_le_add_right hc.2 _) (Nat.le_of_ble_eq_true rfl)⟩ (fun H1 locs1 J1 hk1 => ?_)
  have I2 := LM_kept I2 (A := Aw s.heap.size 110) (fun i hi z => by have := z.2; omega) hk1 J1.2.2.1
  have I3 := LM_kept I3 (A := Aw s.heap.size 110) (fun i hi z => by have := z.2; omega) hk1 J1.2.2.1
  have hS := I2.2.2.1
  refine lv_pop hx9 hb9 dL_law_737 rfl ?_
  refine lv_aload_n hx9 hb9 dL_law_738 rfl (lv_at hl 2 rfl) ?_
  refine lv_aload_n hx9 hb9 dL_law_739 rfl (lv_at hl 0 rfl) ?_
  refine lv_iload hx9 hb9 dL_law_740 (lv_at hl 4 rfl) ?_
  refine lv_iconst (v := 1) hx9 hb9 dL_law_742 (by decide) ?_
  refine lv_iadd hx9 hb9 dL_law_743 ?_
  refine va_sld (A := A0 s) hx9 hb9 hX hbl hbA hS v1 dL_law_744 ?_
  refine lv_aload_n hx9 hb9 dL_law_745 rfl (lv_at hl 0 rfl) ?_
  refine lv_iload hx9 hb9 dL_law_746 (lv_at hl 4 rfl) ?_
  refine lv_iconst (v := 2) hx9 hb9 dL_law_748 (by decide) ?_
  refine lv_iadd hx9 hb9 dL_law_749 ?_
  refine va_sld (A := A0 s) hx9 hb9 hX hbl hbA hS v2 dL_law_750 ?_
  refine l_Vi (As := [.int (xs (i + 1).toNatClampNeg), .int (xs (i + 2).toNatClampNeg)]) S (M12_seat l D cy (s.heap.size + 110) (Aw (s.heap.size + 110) 43) false em) gL_12_seat rfl rfl rfl cdL_12_seat ⟨Nat.le_of_ble_eq_true rfl, Nat.le_of_ble_eq_true rfl⟩ I2 (Nat.le_add_right _ _) (m_ok L0.2.1).1 clX12 rfl rfl hl.1 rfl (Nat.le_of_ble_eq_true rfl) dL_law_751 ⟨Nat.le_trans (Nat.add_le_add_right hc.1 _) (Nat.le_of_ble_eq_true rfl), Nat.le_trans (Nat.add_le_add_right hc.2 _) (Nat.le_of_ble_eq_true rfl)⟩ (fun H2 locs2 J2 hk2 => ?_)
  have J1 := LM_kept J1 (A := Aw (s.heap.size + 110) 43) (fun i hi z => by have := z.1; omega) hk2 J2.2.2.1
  have I3 := LM_kept I3 (A := Aw (s.heap.size + 110) 43) (fun i hi z => by have := z.2; omega) hk2 J2.2.2.1
  refine lv_pop hx9 hb9 dL_law_754 rfl ?_
  refine lv_goto (tgt := 1526) hx9 hb9 dL_law_755 (by decide) ?_
  refine W.widen (k := cl + 1) (n := sl + 6) (Nat.le_succ _) (Nat.le_add_right _ _) ?_
  exact K _ _ _ _ _ _ ⟨J1, J2, I3, L1⟩ hl
set_option maxHeartbeats 1000000 in
theorem lc_758 (S : CallFix p m c cL_law 7 s #[Value.ref b] lw_tbl RL) (hX : va_X b L xs s s.heap) (hbl : b < s.heap.size) {hx hm : PH} {f : Nat → Int64} (I : LW D cy hx hm f s H locs) {i : Int32} (hin : IN i L) {cl sl : Nat} (hc : cl ≤ 1000 ∧ sl ≤ 20000) (hl : lv_has ls 7 (LV b s i)) (K : ∀ (hx' hm' : PH) (f' : Nat → Int64) (H' : Heap) (locs' : List Loc) (ls' : Array Slot), LW D cy hx' hm' f' s H' locs' → lv_has ls' 7 (LV b s i) → W p l e room_1 s m #[Value.ref b] below meth c H' locs' (cl + 1) (sl + 6) (lw_Z below #[Value.ref b] s) (F0 m 1526 ls' [])) : W p l e room_1 s m #[Value.ref b] below meth c H locs cl sl (lw_Z below #[Value.ref b] s) (F0 m 758 ls []) := by
  have hbA : ¬ A0 s b := Nat.not_le.mpr hbl
  have hx9 := S.1
  have hb9 := S.2.1
  obtain ⟨I1, I2, I3, L0⟩ := I
  have hS := I1.2.2.1
  obtain ⟨_, v1, v2, v3, v4, v5⟩ := hin
  obtain ⟨a, hx', hm', ex, em, L1⟩ := p_best L0 (xs (i + 1).toNatClampNeg)
  refine lv_aload_n hx9 hb9 dL_law_758 rfl (lv_at hl 1 rfl) ?_
  refine lv_aload_n hx9 hb9 dL_law_759 rfl (lv_at hl 0 rfl) ?_
  refine lv_iload hx9 hb9 dL_law_760 (lv_at hl 4 rfl) ?_
  refine lv_iconst (v := 1) hx9 hb9 dL_law_762 (by decide) ?_
  refine lv_iadd hx9 hb9 dL_law_763 ?_
  refine va_sld (A := A0 s) hx9 hb9 hX hbl hbA hS v1 dL_law_764 ?_
  refine l_Vi (As := [.int (xs (i + 1).toNatClampNeg)]) S (M11_best l D cy s.heap.size (Aw s.heap.size 110) false ex) gL_11_best rfl rfl rfl cdL_11_best ⟨Nat.le_of_ble_eq_true rfl, Nat.le_of_ble_eq_true rfl⟩ I1 (Nat.le_refl _) (x_ok L0.1).1 clX11 rfl rfl hl.1 rfl (Nat.le_of_ble_eq_true rfl) dL_law_765 ⟨Nat.le_trans (Nat.add_le_add_right hc.1 _) (Nat.le_of_ble_eq_true rfl), Nat.le_trans (Nat.add_le_add_right hc.2 _) (Nat.le_of_ble_eq_true rfl)⟩ (fun H1 locs1 J1 hk1 => ?_)
  have I2 := LM_kept I2 (A := Aw s.heap.size 110) (fun i hi z => by have := z.2; omega) hk1 J1.2.2.1
  have I3 := LM_kept I3 (A := Aw s.heap.size 110) (fun i hi z => by have := z.2; omega) hk1 J1.2.2.1
  have hS := I2.2.2.1
  refine lv_pop hx9 hb9 dL_law_768 rfl ?_
  refine lv_aload_n hx9 hb9 dL_law_769 rfl (lv_at hl 2 rfl) ?_
  refine lv_aload_n hx9 hb9 dL_law_770 rfl (lv_at hl 0 rfl) ?_
  refine lv_iload hx9 hb9 dL_law_771 (lv_at hl 4 rfl) ?_
  refine lv_iconst (v := 1) hx9 hb9 dL_law_773 (by decide) ?_
  refine lv_iadd hx9 hb9 dL_law_774 ?_
  refine va_sld (A := A0 s) hx9 hb9 hX hbl hbA hS v1 dL_law_775 ?_
  refine l_Vi (As := [.int (xs (i + 1).toNatClampNeg)]) S (M12_best l D cy (s.heap.size + 110) (Aw (s.heap.size + 110) 43) false em) gL_12_best rfl rfl rfl cdL_12_best ⟨Nat.le_of_ble_eq_true rfl, Nat.le_of_ble_eq_true rfl⟩ I2 (Nat.le_add_right _ _) (m_ok L0.2.1).1 clX12 rfl rfl hl.1 rfl (Nat.le_of_ble_eq_true rfl) dL_law_776 ⟨Nat.le_trans (Nat.add_le_add_right hc.1 _) (Nat.le_of_ble_eq_true rfl), Nat.le_trans (Nat.add_le_add_right hc.2 _) (Nat.le_of_ble_eq_true rfl)⟩ (fun H2 locs2 J2 hk2 => ?_)
  have J1 := LM_kept J1 (A := Aw (s.heap.size + 110) 43) (fun i hi z => by have := z.1; omega) hk2 J2.2.2.1
  have I3 := LM_kept I3 (A := Aw (s.heap.size + 110) 43) (fun i hi z => by have := z.2; omega) hk2 J2.2.2.1
  refine lv_pop hx9 hb9 dL_law_779 rfl ?_
  refine lv_goto (tgt := 1526) hx9 hb9 dL_law_780 (by decide) ?_
  refine W.widen (k := cl + 1) (n := sl + 6) (Nat.le_succ _) (Nat.le_add_right _ _) ?_
  exact K _ _ _ _ _ _ ⟨J1, J2, I3, L1⟩ hl
set_option maxHeartbeats 1000000 in
theorem lc_783 (S : CallFix p m c cL_law 7 s #[Value.ref b] lw_tbl RL) (hX : va_X b L xs s s.heap) (hbl : b < s.heap.size) {hx hm : PH} {f : Nat → Int64} (I : LW D cy hx hm f s H locs) {i : Int32} (hin : IN i L) {cl sl : Nat} (hc : cl ≤ 1000 ∧ sl ≤ 20000) (hl : lv_has ls 7 (LV b s i)) (K : ∀ (hx' hm' : PH) (f' : Nat → Int64) (H' : Heap) (locs' : List Loc) (ls' : Array Slot), LW D cy hx' hm' f' s H' locs' → lv_has ls' 7 (LV b s i) → W p l e room_1 s m #[Value.ref b] below meth c H' locs' (cl + 1) (sl + 6) (lw_Z below #[Value.ref b] s) (F0 m 1526 ls' [])) : W p l e room_1 s m #[Value.ref b] below meth c H locs cl sl (lw_Z below #[Value.ref b] s) (F0 m 783 ls []) := by
  have hbA : ¬ A0 s b := Nat.not_le.mpr hbl
  have hx9 := S.1
  have hb9 := S.2.1
  obtain ⟨I1, I2, I3, L0⟩ := I
  have hS := I1.2.2.1
  obtain ⟨_, v1, v2, v3, v4, v5⟩ := hin
  obtain ⟨a, hx', hm', ex, em, L1⟩ := p_rests L0 (xs (i + 1).toNatClampNeg) (xs (i + 2).toNatClampNeg)
  refine lv_aload_n hx9 hb9 dL_law_783 rfl (lv_at hl 1 rfl) ?_
  refine lv_aload_n hx9 hb9 dL_law_784 rfl (lv_at hl 0 rfl) ?_
  refine lv_iload hx9 hb9 dL_law_785 (lv_at hl 4 rfl) ?_
  refine lv_iconst (v := 1) hx9 hb9 dL_law_787 (by decide) ?_
  refine lv_iadd hx9 hb9 dL_law_788 ?_
  refine va_sld (A := A0 s) hx9 hb9 hX hbl hbA hS v1 dL_law_789 ?_
  refine lv_aload_n hx9 hb9 dL_law_790 rfl (lv_at hl 0 rfl) ?_
  refine lv_iload hx9 hb9 dL_law_791 (lv_at hl 4 rfl) ?_
  refine lv_iconst (v := 2) hx9 hb9 dL_law_793 (by decide) ?_
  refine lv_iadd hx9 hb9 dL_law_794 ?_
  refine va_sld (A := A0 s) hx9 hb9 hX hbl hbA hS v2 dL_law_795 ?_
  refine l_Vi (As := [.int (xs (i + 1).toNatClampNeg), .int (xs (i + 2).toNatClampNeg)]) S (M11_rests l D cy s.heap.size (Aw s.heap.size 110) false ex) gL_11_rests rfl rfl rfl cdL_11_rests ⟨Nat.le_of_ble_eq_true rfl, Nat.le_of_ble_eq_true rfl⟩ I1 (Nat.le_refl _) (x_ok L0.1).1 clX11 rfl rfl hl.1 rfl (Nat.le_of_ble_eq_true rfl) dL_law_796 ⟨Nat.le_trans (Nat.add_le_add_right hc.1 _) (Nat.le_of_ble_eq_true rfl), Nat.le_trans (Nat.add_le_add_right hc.2 _) (Nat.le_of_ble_eq_true rfl)⟩ (fun H1 locs1 J1 hk1 => ?_)
  have I2 := LM_kept I2 (A := Aw s.heap.size 110) (fun i hi z => by have := z.2; omega) hk1 J1.2.2.1
  have I3 := LM_kept I3 (A := Aw s.heap.size 110) (fun i hi z => by have := z.2; omega) hk1 J1.2.2.1
  have hS := I2.2.2.1
  refine lv_pop hx9 hb9 dL_law_799 rfl ?_
  refine lv_aload_n hx9 hb9 dL_law_800 rfl (lv_at hl 2 rfl) ?_
  refine lv_aload_n hx9 hb9 dL_law_801 rfl (lv_at hl 0 rfl) ?_
  refine lv_iload hx9 hb9 dL_law_802 (lv_at hl 4 rfl) ?_
  refine lv_iconst (v := 1) hx9 hb9 dL_law_804 (by decide) ?_
  refine lv_iadd hx9 hb9 dL_law_805 ?_
  refine va_sld (A := A0 s) hx9 hb9 hX hbl hbA hS v1 dL_law_806 ?_
  refine lv_aload_n hx9 hb9 dL_law_807 rfl (lv_at hl 0 rfl) ?_
  refine lv_iload hx9 hb9 dL_law_808 (lv_at hl 4 rfl) ?_
  refine lv_iconst (v := 2) hx9 hb9 dL_law_810 (by decide) ?_
  refine lv_iadd hx9 hb9 dL_law_811 ?_
  refine va_sld (A := A0 s) hx9 hb9 hX hbl hbA hS v2 dL_law_812 ?_
  refine l_Vi (As := [.int (xs (i + 1).toNatClampNeg), .int (xs (i + 2).toNatClampNeg)]) S (M12_rests l D cy (s.heap.size + 110) (Aw (s.heap.size + 110) 43) false em) gL_12_rests rfl rfl rfl cdL_12_rests ⟨Nat.le_of_ble_eq_true rfl, Nat.le_of_ble_eq_true rfl⟩ I2 (Nat.le_add_right _ _) (m_ok L0.2.1).1 clX12 rfl rfl hl.1 rfl (Nat.le_of_ble_eq_true rfl) dL_law_813 ⟨Nat.le_trans (Nat.add_le_add_right hc.1 _) (Nat.le_of_ble_eq_true rfl), Nat.le_trans (Nat.add_le_add_right hc.2 _) (Nat.le_of_ble_eq_true rfl)⟩ (fun H2 locs2 J2 hk2 => ?_)
  have J1 := LM_kept J1 (A := Aw (s.heap.size + 110) 43) (fun i hi z => by have := z.1; omega) hk2 J2.2.2.1
  have I3 := LM_kept I3 (A := Aw (s.heap.size + 110) 43) (fun i hi z => by have := z.2; omega) hk2 J2.2.2.1
  refine lv_pop hx9 hb9 dL_law_816 rfl ?_
  refine lv_goto (tgt := 1526) hx9 hb9 dL_law_817 (by decide) ?_
  refine W.widen (k := cl + 1) (n := sl + 6) (Nat.le_succ _) (Nat.le_add_right _ _) ?_
  exact K _ _ _ _ _ _ ⟨J1, J2, I3, L1⟩ hl
set_option maxHeartbeats 1000000 in
theorem lc_820 (S : CallFix p m c cL_law 7 s #[Value.ref b] lw_tbl RL) (hX : va_X b L xs s s.heap) (hbl : b < s.heap.size) {hx hm : PH} {f : Nat → Int64} (I : LW D cy hx hm f s H locs) {i : Int32} (hin : IN i L) {cl sl : Nat} (hc : cl ≤ 1000 ∧ sl ≤ 20000) (hl : lv_has ls 7 (LV b s i)) (K : ∀ (hx' hm' : PH) (f' : Nat → Int64) (H' : Heap) (locs' : List Loc) (ls' : Array Slot), LW D cy hx' hm' f' s H' locs' → lv_has ls' 7 (LV b s i) → W p l e room_1 s m #[Value.ref b] below meth c H' locs' (cl + 1) (sl + 6) (lw_Z below #[Value.ref b] s) (F0 m 1526 ls' [])) : W p l e room_1 s m #[Value.ref b] below meth c H locs cl sl (lw_Z below #[Value.ref b] s) (F0 m 820 ls []) := by
  have hbA : ¬ A0 s b := Nat.not_le.mpr hbl
  have hx9 := S.1
  have hb9 := S.2.1
  obtain ⟨I1, I2, I3, L0⟩ := I
  have hS := I1.2.2.1
  obtain ⟨_, v1, v2, v3, v4, v5⟩ := hin
  obtain ⟨a, hx', hm', ex, em, L1⟩ := p_rest L0 (xs (i + 1).toNatClampNeg) (xs (i + 2).toNatClampNeg) (xs (i + 3).toNatClampNeg)
  refine lv_aload_n hx9 hb9 dL_law_820 rfl (lv_at hl 1 rfl) ?_
  refine lv_aload_n hx9 hb9 dL_law_821 rfl (lv_at hl 0 rfl) ?_
  refine lv_iload hx9 hb9 dL_law_822 (lv_at hl 4 rfl) ?_
  refine lv_iconst (v := 1) hx9 hb9 dL_law_824 (by decide) ?_
  refine lv_iadd hx9 hb9 dL_law_825 ?_
  refine va_sld (A := A0 s) hx9 hb9 hX hbl hbA hS v1 dL_law_826 ?_
  refine lv_aload_n hx9 hb9 dL_law_827 rfl (lv_at hl 0 rfl) ?_
  refine lv_iload hx9 hb9 dL_law_828 (lv_at hl 4 rfl) ?_
  refine lv_iconst (v := 2) hx9 hb9 dL_law_830 (by decide) ?_
  refine lv_iadd hx9 hb9 dL_law_831 ?_
  refine va_sld (A := A0 s) hx9 hb9 hX hbl hbA hS v2 dL_law_832 ?_
  refine lv_aload_n hx9 hb9 dL_law_833 rfl (lv_at hl 0 rfl) ?_
  refine lv_iload hx9 hb9 dL_law_834 (lv_at hl 4 rfl) ?_
  refine lv_iconst (v := 3) hx9 hb9 dL_law_836 (by decide) ?_
  refine lv_iadd hx9 hb9 dL_law_837 ?_
  refine va_sld (A := A0 s) hx9 hb9 hX hbl hbA hS v3 dL_law_838 ?_
  refine l_Vi (As := [.int (xs (i + 1).toNatClampNeg), .int (xs (i + 2).toNatClampNeg), .int (xs (i + 3).toNatClampNeg)]) S (M11_rest l D cy s.heap.size (Aw s.heap.size 110) false ex) gL_11_rest rfl rfl rfl cdL_11_rest ⟨Nat.le_of_ble_eq_true rfl, Nat.le_of_ble_eq_true rfl⟩ I1 (Nat.le_refl _) (x_ok L0.1).1 clX11 rfl rfl hl.1 rfl (Nat.le_of_ble_eq_true rfl) dL_law_839 ⟨Nat.le_trans (Nat.add_le_add_right hc.1 _) (Nat.le_of_ble_eq_true rfl), Nat.le_trans (Nat.add_le_add_right hc.2 _) (Nat.le_of_ble_eq_true rfl)⟩ (fun H1 locs1 J1 hk1 => ?_)
  have I2 := LM_kept I2 (A := Aw s.heap.size 110) (fun i hi z => by have := z.2; omega) hk1 J1.2.2.1
  have I3 := LM_kept I3 (A := Aw s.heap.size 110) (fun i hi z => by have := z.2; omega) hk1 J1.2.2.1
  have hS := I2.2.2.1
  refine lv_pop hx9 hb9 dL_law_842 rfl ?_
  refine lv_aload_n hx9 hb9 dL_law_843 rfl (lv_at hl 2 rfl) ?_
  refine lv_aload_n hx9 hb9 dL_law_844 rfl (lv_at hl 0 rfl) ?_
  refine lv_iload hx9 hb9 dL_law_845 (lv_at hl 4 rfl) ?_
  refine lv_iconst (v := 1) hx9 hb9 dL_law_847 (by decide) ?_
  refine lv_iadd hx9 hb9 dL_law_848 ?_
  refine va_sld (A := A0 s) hx9 hb9 hX hbl hbA hS v1 dL_law_849 ?_
  refine lv_aload_n hx9 hb9 dL_law_850 rfl (lv_at hl 0 rfl) ?_
  refine lv_iload hx9 hb9 dL_law_851 (lv_at hl 4 rfl) ?_
  refine lv_iconst (v := 2) hx9 hb9 dL_law_853 (by decide) ?_
  refine lv_iadd hx9 hb9 dL_law_854 ?_
  refine va_sld (A := A0 s) hx9 hb9 hX hbl hbA hS v2 dL_law_855 ?_
  refine lv_aload_n hx9 hb9 dL_law_856 rfl (lv_at hl 0 rfl) ?_
  refine lv_iload hx9 hb9 dL_law_857 (lv_at hl 4 rfl) ?_
  refine lv_iconst (v := 3) hx9 hb9 dL_law_859 (by decide) ?_
  refine lv_iadd hx9 hb9 dL_law_860 ?_
  refine va_sld (A := A0 s) hx9 hb9 hX hbl hbA hS v3 dL_law_861 ?_
  refine l_Vi (As := [.int (xs (i + 1).toNatClampNeg), .int (xs (i + 2).toNatClampNeg), .int (xs (i + 3).toNatClampNeg)]) S (M12_rest l D cy (s.heap.size + 110) (Aw (s.heap.size + 110) 43) false em) gL_12_rest rfl rfl rfl cdL_12_rest ⟨Nat.le_of_ble_eq_true rfl, Nat.le_of_ble_eq_true rfl⟩ I2 (Nat.le_add_right _ _) (m_ok L0.2.1).1 clX12 rfl rfl hl.1 rfl (Nat.le_of_ble_eq_true rfl) dL_law_862 ⟨Nat.le_trans (Nat.add_le_add_right hc.1 _) (Nat.le_of_ble_eq_true rfl), Nat.le_trans (Nat.add_le_add_right hc.2 _) (Nat.le_of_ble_eq_true rfl)⟩ (fun H2 locs2 J2 hk2 => ?_)
  have J1 := LM_kept J1 (A := Aw (s.heap.size + 110) 43) (fun i hi z => by have := z.1; omega) hk2 J2.2.2.1
  have I3 := LM_kept I3 (A := Aw (s.heap.size + 110) 43) (fun i hi z => by have := z.2; omega) hk2 J2.2.2.1
  refine lv_pop hx9 hb9 dL_law_865 rfl ?_
  refine lv_goto (tgt := 1526) hx9 hb9 dL_law_866 (by decide) ?_
  refine W.widen (k := cl + 1) (n := sl + 6) (Nat.le_succ _) (Nat.le_add_right _ _) ?_
  exact K _ _ _ _ _ _ ⟨J1, J2, I3, L1⟩ hl
set_option maxHeartbeats 1000000 in
theorem lc_869 (S : CallFix p m c cL_law 7 s #[Value.ref b] lw_tbl RL) (hX : va_X b L xs s s.heap) (hbl : b < s.heap.size) {hx hm : PH} {f : Nat → Int64} (I : LW D cy hx hm f s H locs) {i : Int32} (hin : IN i L) {cl sl : Nat} (hc : cl ≤ 1000 ∧ sl ≤ 20000) (hl : lv_has ls 7 (LV b s i)) (K : ∀ (hx' hm' : PH) (f' : Nat → Int64) (H' : Heap) (locs' : List Loc) (ls' : Array Slot), LW D cy hx' hm' f' s H' locs' → lv_has ls' 7 (LV b s i) → W p l e room_1 s m #[Value.ref b] below meth c H' locs' (cl + 1) (sl + 6) (lw_Z below #[Value.ref b] s) (F0 m 1526 ls' [])) : W p l e room_1 s m #[Value.ref b] below meth c H locs cl sl (lw_Z below #[Value.ref b] s) (F0 m 869 ls []) := by
  have hbA : ¬ A0 s b := Nat.not_le.mpr hbl
  have hx9 := S.1
  have hb9 := S.2.1
  obtain ⟨I1, I2, I3, L0⟩ := I
  have hS := I1.2.2.1
  obtain ⟨_, v1, v2, v3, v4, v5⟩ := hin
  obtain ⟨a, hx', hm', ex, em, L1⟩ := p_rank L0 (xs (i + 1).toNatClampNeg) (xs (i + 2).toNatClampNeg)
  refine lv_aload_n hx9 hb9 dL_law_869 rfl (lv_at hl 1 rfl) ?_
  refine lv_aload_n hx9 hb9 dL_law_870 rfl (lv_at hl 0 rfl) ?_
  refine lv_iload hx9 hb9 dL_law_871 (lv_at hl 4 rfl) ?_
  refine lv_iconst (v := 1) hx9 hb9 dL_law_873 (by decide) ?_
  refine lv_iadd hx9 hb9 dL_law_874 ?_
  refine va_sld (A := A0 s) hx9 hb9 hX hbl hbA hS v1 dL_law_875 ?_
  refine lv_aload_n hx9 hb9 dL_law_876 rfl (lv_at hl 0 rfl) ?_
  refine lv_iload hx9 hb9 dL_law_877 (lv_at hl 4 rfl) ?_
  refine lv_iconst (v := 2) hx9 hb9 dL_law_879 (by decide) ?_
  refine lv_iadd hx9 hb9 dL_law_880 ?_
  refine va_sld (A := A0 s) hx9 hb9 hX hbl hbA hS v2 dL_law_881 ?_
  refine l_Vi (As := [.int (xs (i + 1).toNatClampNeg), .int (xs (i + 2).toNatClampNeg)]) S (M11_rank l D cy s.heap.size (Aw s.heap.size 110) false ex) gL_11_rank rfl rfl rfl cdL_11_rank ⟨Nat.le_of_ble_eq_true rfl, Nat.le_of_ble_eq_true rfl⟩ I1 (Nat.le_refl _) (x_ok L0.1).1 clX11 rfl rfl hl.1 rfl (Nat.le_of_ble_eq_true rfl) dL_law_882 ⟨Nat.le_trans (Nat.add_le_add_right hc.1 _) (Nat.le_of_ble_eq_true rfl), Nat.le_trans (Nat.add_le_add_right hc.2 _) (Nat.le_of_ble_eq_true rfl)⟩ (fun H1 locs1 J1 hk1 => ?_)
  have I2 := LM_kept I2 (A := Aw s.heap.size 110) (fun i hi z => by have := z.2; omega) hk1 J1.2.2.1
  have I3 := LM_kept I3 (A := Aw s.heap.size 110) (fun i hi z => by have := z.2; omega) hk1 J1.2.2.1
  have hS := I2.2.2.1
  refine lv_pop hx9 hb9 dL_law_885 rfl ?_
  refine lv_aload_n hx9 hb9 dL_law_886 rfl (lv_at hl 2 rfl) ?_
  refine lv_aload_n hx9 hb9 dL_law_887 rfl (lv_at hl 0 rfl) ?_
  refine lv_iload hx9 hb9 dL_law_888 (lv_at hl 4 rfl) ?_
  refine lv_iconst (v := 1) hx9 hb9 dL_law_890 (by decide) ?_
  refine lv_iadd hx9 hb9 dL_law_891 ?_
  refine va_sld (A := A0 s) hx9 hb9 hX hbl hbA hS v1 dL_law_892 ?_
  refine lv_aload_n hx9 hb9 dL_law_893 rfl (lv_at hl 0 rfl) ?_
  refine lv_iload hx9 hb9 dL_law_894 (lv_at hl 4 rfl) ?_
  refine lv_iconst (v := 2) hx9 hb9 dL_law_896 (by decide) ?_
  refine lv_iadd hx9 hb9 dL_law_897 ?_
  refine va_sld (A := A0 s) hx9 hb9 hX hbl hbA hS v2 dL_law_898 ?_
  refine l_Vi (As := [.int (xs (i + 1).toNatClampNeg), .int (xs (i + 2).toNatClampNeg)]) S (M12_rank_ l D cy (s.heap.size + 110) (Aw (s.heap.size + 110) 43) false em) gL_12_rank_ rfl rfl rfl cdL_12_rank_ ⟨Nat.le_of_ble_eq_true rfl, Nat.le_of_ble_eq_true rfl⟩ I2 (Nat.le_add_right _ _) (m_ok L0.2.1).1 clX12 rfl rfl hl.1 rfl (Nat.le_of_ble_eq_true rfl) dL_law_899 ⟨Nat.le_trans (Nat.add_le_add_right hc.1 _) (Nat.le_of_ble_eq_true rfl), Nat.le_trans (Nat.add_le_add_right hc.2 _) (Nat.le_of_ble_eq_true rfl)⟩ (fun H2 locs2 J2 hk2 => ?_)
  have J1 := LM_kept J1 (A := Aw (s.heap.size + 110) 43) (fun i hi z => by have := z.1; omega) hk2 J2.2.2.1
  have I3 := LM_kept I3 (A := Aw (s.heap.size + 110) 43) (fun i hi z => by have := z.2; omega) hk2 J2.2.2.1
  refine lv_pop hx9 hb9 dL_law_902 rfl ?_
  refine lv_goto (tgt := 1526) hx9 hb9 dL_law_903 (by decide) ?_
  refine W.widen (k := cl + 1) (n := sl + 6) (Nat.le_succ _) (Nat.le_add_right _ _) ?_
  exact K _ _ _ _ _ _ ⟨J1, J2, I3, L1⟩ hl
set_option maxHeartbeats 1000000 in
theorem lc_906 (S : CallFix p m c cL_law 7 s #[Value.ref b] lw_tbl RL) (hX : va_X b L xs s s.heap) (hbl : b < s.heap.size) {hx hm : PH} {f : Nat → Int64} (I : LW D cy hx hm f s H locs) {i : Int32} (hin : IN i L) {cl sl : Nat} (hc : cl ≤ 1000 ∧ sl ≤ 20000) (hl : lv_has ls 7 (LV b s i)) (K : ∀ (hx' hm' : PH) (f' : Nat → Int64) (H' : Heap) (locs' : List Loc) (ls' : Array Slot), LW D cy hx' hm' f' s H' locs' → lv_has ls' 7 (LV b s i) → W p l e room_1 s m #[Value.ref b] below meth c H' locs' (cl + 1) (sl + 6) (lw_Z below #[Value.ref b] s) (F0 m 1526 ls' [])) : W p l e room_1 s m #[Value.ref b] below meth c H locs cl sl (lw_Z below #[Value.ref b] s) (F0 m 906 ls []) := by
  have hbA : ¬ A0 s b := Nat.not_le.mpr hbl
  have hx9 := S.1
  have hb9 := S.2.1
  obtain ⟨I1, I2, I3, L0⟩ := I
  have hS := I1.2.2.1
  obtain ⟨_, v1, v2, v3, v4, v5⟩ := hin
  obtain ⟨a, hx', hm', ex, em, L1⟩ := p_plan L0 (xs (i + 1).toNatClampNeg)
  refine lv_aload_n hx9 hb9 dL_law_906 rfl (lv_at hl 1 rfl) ?_
  refine lv_aload_n hx9 hb9 dL_law_907 rfl (lv_at hl 0 rfl) ?_
  refine lv_iload hx9 hb9 dL_law_908 (lv_at hl 4 rfl) ?_
  refine lv_iconst (v := 1) hx9 hb9 dL_law_910 (by decide) ?_
  refine lv_iadd hx9 hb9 dL_law_911 ?_
  refine va_sld (A := A0 s) hx9 hb9 hX hbl hbA hS v1 dL_law_912 ?_
  refine l_Vi (As := [.int (xs (i + 1).toNatClampNeg)]) S (M11_plan l D cy s.heap.size (Aw s.heap.size 110) false ex) gL_11_plan rfl rfl rfl cdL_11_plan ⟨Nat.le_of_ble_eq_true rfl, Nat.le_of_ble_eq_true rfl⟩ I1 (Nat.le_refl _) (x_ok L0.1).1 clX11 rfl rfl hl.1 rfl (Nat.le_of_ble_eq_true rfl) dL_law_913 ⟨Nat.le_trans (Nat.add_le_add_right hc.1 _) (Nat.le_of_ble_eq_true rfl), Nat.le_trans (Nat.add_le_add_right hc.2 _) (Nat.le_of_ble_eq_true rfl)⟩ (fun H1 locs1 J1 hk1 => ?_)
  have I2 := LM_kept I2 (A := Aw s.heap.size 110) (fun i hi z => by have := z.2; omega) hk1 J1.2.2.1
  have I3 := LM_kept I3 (A := Aw s.heap.size 110) (fun i hi z => by have := z.2; omega) hk1 J1.2.2.1
  have hS := I2.2.2.1
  refine lv_pop hx9 hb9 dL_law_916 rfl ?_
  refine lv_aload_n hx9 hb9 dL_law_917 rfl (lv_at hl 2 rfl) ?_
  refine lv_aload_n hx9 hb9 dL_law_918 rfl (lv_at hl 0 rfl) ?_
  refine lv_iload hx9 hb9 dL_law_919 (lv_at hl 4 rfl) ?_
  refine lv_iconst (v := 1) hx9 hb9 dL_law_921 (by decide) ?_
  refine lv_iadd hx9 hb9 dL_law_922 ?_
  refine va_sld (A := A0 s) hx9 hb9 hX hbl hbA hS v1 dL_law_923 ?_
  refine l_Vi (As := [.int (xs (i + 1).toNatClampNeg)]) S (M12_plan l D cy (s.heap.size + 110) (Aw (s.heap.size + 110) 43) false em) gL_12_plan rfl rfl rfl cdL_12_plan ⟨Nat.le_of_ble_eq_true rfl, Nat.le_of_ble_eq_true rfl⟩ I2 (Nat.le_add_right _ _) (m_ok L0.2.1).1 clX12 rfl rfl hl.1 rfl (Nat.le_of_ble_eq_true rfl) dL_law_924 ⟨Nat.le_trans (Nat.add_le_add_right hc.1 _) (Nat.le_of_ble_eq_true rfl), Nat.le_trans (Nat.add_le_add_right hc.2 _) (Nat.le_of_ble_eq_true rfl)⟩ (fun H2 locs2 J2 hk2 => ?_)
  have J1 := LM_kept J1 (A := Aw (s.heap.size + 110) 43) (fun i hi z => by have := z.1; omega) hk2 J2.2.2.1
  have I3 := LM_kept I3 (A := Aw (s.heap.size + 110) 43) (fun i hi z => by have := z.2; omega) hk2 J2.2.2.1
  refine lv_pop hx9 hb9 dL_law_927 rfl ?_
  refine lv_goto (tgt := 1526) hx9 hb9 dL_law_928 (by decide) ?_
  refine W.widen (k := cl + 1) (n := sl + 6) (Nat.le_succ _) (Nat.le_add_right _ _) ?_
  exact K _ _ _ _ _ _ ⟨J1, J2, I3, L1⟩ hl
set_option maxHeartbeats 1000000 in
theorem lc_931 (S : CallFix p m c cL_law 7 s #[Value.ref b] lw_tbl RL) (hX : va_X b L xs s s.heap) (hbl : b < s.heap.size) {hx hm : PH} {f : Nat → Int64} (I : LW D cy hx hm f s H locs) {i : Int32} (hin : IN i L) {cl sl : Nat} (hc : cl ≤ 1000 ∧ sl ≤ 20000) (hl : lv_has ls 7 (LV b s i)) (K : ∀ (hx' hm' : PH) (f' : Nat → Int64) (H' : Heap) (locs' : List Loc) (ls' : Array Slot), LW D cy hx' hm' f' s H' locs' → lv_has ls' 7 (LV b s i) → W p l e room_1 s m #[Value.ref b] below meth c H' locs' (cl + 1) (sl + 6) (lw_Z below #[Value.ref b] s) (F0 m 1526 ls' [])) : W p l e room_1 s m #[Value.ref b] below meth c H locs cl sl (lw_Z below #[Value.ref b] s) (F0 m 931 ls []) := by
  have hbA : ¬ A0 s b := Nat.not_le.mpr hbl
  have hx9 := S.1
  have hb9 := S.2.1
  obtain ⟨I1, I2, I3, L0⟩ := I
  have hS := I1.2.2.1
  obtain ⟨_, v1, v2, v3, v4, v5⟩ := hin
  obtain ⟨a, hx', hm', ex, em, L1⟩ := p_planned L0 (xs (i + 1).toNatClampNeg) (xs (i + 2).toNatClampNeg)
  refine lv_aload_n hx9 hb9 dL_law_931 rfl (lv_at hl 1 rfl) ?_
  refine lv_aload_n hx9 hb9 dL_law_932 rfl (lv_at hl 0 rfl) ?_
  refine lv_iload hx9 hb9 dL_law_933 (lv_at hl 4 rfl) ?_
  refine lv_iconst (v := 1) hx9 hb9 dL_law_935 (by decide) ?_
  refine lv_iadd hx9 hb9 dL_law_936 ?_
  refine va_sld (A := A0 s) hx9 hb9 hX hbl hbA hS v1 dL_law_937 ?_
  refine lv_aload_n hx9 hb9 dL_law_938 rfl (lv_at hl 0 rfl) ?_
  refine lv_iload hx9 hb9 dL_law_939 (lv_at hl 4 rfl) ?_
  refine lv_iconst (v := 2) hx9 hb9 dL_law_941 (by decide) ?_
  refine lv_iadd hx9 hb9 dL_law_942 ?_
  refine va_sld (A := A0 s) hx9 hb9 hX hbl hbA hS v2 dL_law_943 ?_
  refine l_Vi (As := [.int (xs (i + 1).toNatClampNeg), .int (xs (i + 2).toNatClampNeg)]) S (M11_planned l D cy s.heap.size (Aw s.heap.size 110) false ex) gL_11_planned rfl rfl rfl cdL_11_planned ⟨Nat.le_of_ble_eq_true rfl, Nat.le_of_ble_eq_true rfl⟩ I1 (Nat.le_refl _) (x_ok L0.1).1 clX11 rfl rfl hl.1 rfl (Nat.le_of_ble_eq_true rfl) dL_law_944 ⟨Nat.le_trans (Nat.add_le_add_right hc.1 _) (Nat.le_of_ble_eq_true rfl), Nat.le_trans (Nat.add_le_add_right hc.2 _) (Nat.le_of_ble_eq_true rfl)⟩ (fun H1 locs1 J1 hk1 => ?_)
  have I2 := LM_kept I2 (A := Aw s.heap.size 110) (fun i hi z => by have := z.2; omega) hk1 J1.2.2.1
  have I3 := LM_kept I3 (A := Aw s.heap.size 110) (fun i hi z => by have := z.2; omega) hk1 J1.2.2.1
  have hS := I2.2.2.1
  refine lv_pop hx9 hb9 dL_law_947 rfl ?_
  refine lv_aload_n hx9 hb9 dL_law_948 rfl (lv_at hl 2 rfl) ?_
  refine lv_aload_n hx9 hb9 dL_law_949 rfl (lv_at hl 0 rfl) ?_
  refine lv_iload hx9 hb9 dL_law_950 (lv_at hl 4 rfl) ?_
  refine lv_iconst (v := 1) hx9 hb9 dL_law_952 (by decide) ?_
  refine lv_iadd hx9 hb9 dL_law_953 ?_
  refine va_sld (A := A0 s) hx9 hb9 hX hbl hbA hS v1 dL_law_954 ?_
  refine lv_aload_n hx9 hb9 dL_law_955 rfl (lv_at hl 0 rfl) ?_
  refine lv_iload hx9 hb9 dL_law_956 (lv_at hl 4 rfl) ?_
  refine lv_iconst (v := 2) hx9 hb9 dL_law_958 (by decide) ?_
  refine lv_iadd hx9 hb9 dL_law_959 ?_
  refine va_sld (A := A0 s) hx9 hb9 hX hbl hbA hS v2 dL_law_960 ?_
  refine l_Vi (As := [.int (xs (i + 1).toNatClampNeg), .int (xs (i + 2).toNatClampNeg)]) S (M12_planned l D cy (s.heap.size + 110) (Aw (s.heap.size + 110) 43) false em) gL_12_planned rfl rfl rfl cdL_12_planned ⟨Nat.le_of_ble_eq_true rfl, Nat.le_of_ble_eq_true rfl⟩ I2 (Nat.le_add_right _ _) (m_ok L0.2.1).1 clX12 rfl rfl hl.1 rfl (Nat.le_of_ble_eq_true rfl) dL_law_961 ⟨Nat.le_trans (Nat.add_le_add_right hc.1 _) (Nat.le_of_ble_eq_true rfl), Nat.le_trans (Nat.add_le_add_right hc.2 _) (Nat.le_of_ble_eq_true rfl)⟩ (fun H2 locs2 J2 hk2 => ?_)
  have J1 := LM_kept J1 (A := Aw (s.heap.size + 110) 43) (fun i hi z => by have := z.1; omega) hk2 J2.2.2.1
  have I3 := LM_kept I3 (A := Aw (s.heap.size + 110) 43) (fun i hi z => by have := z.2; omega) hk2 J2.2.2.1
  refine lv_pop hx9 hb9 dL_law_964 rfl ?_
  refine lv_goto (tgt := 1526) hx9 hb9 dL_law_965 (by decide) ?_
  refine W.widen (k := cl + 1) (n := sl + 6) (Nat.le_succ _) (Nat.le_add_right _ _) ?_
  exact K _ _ _ _ _ _ ⟨J1, J2, I3, L1⟩ hl
set_option maxHeartbeats 1000000 in
theorem lc_968 (S : CallFix p m c cL_law 7 s #[Value.ref b] lw_tbl RL) (hX : va_X b L xs s s.heap) (hbl : b < s.heap.size) {hx hm : PH} {f : Nat → Int64} (I : LW D cy hx hm f s H locs) {i : Int32} (hin : IN i L) {cl sl : Nat} (hc : cl ≤ 1000 ∧ sl ≤ 20000) (hl : lv_has ls 7 (LV b s i)) (K : ∀ (hx' hm' : PH) (f' : Nat → Int64) (H' : Heap) (locs' : List Loc) (ls' : Array Slot), LW D cy hx' hm' f' s H' locs' → lv_has ls' 7 (LV b s i) → W p l e room_1 s m #[Value.ref b] below meth c H' locs' (cl + 1) (sl + 6) (lw_Z below #[Value.ref b] s) (F0 m 1526 ls' [])) : W p l e room_1 s m #[Value.ref b] below meth c H locs cl sl (lw_Z below #[Value.ref b] s) (F0 m 968 ls []) := by
  have hbA : ¬ A0 s b := Nat.not_le.mpr hbl
  have hx9 := S.1
  have hb9 := S.2.1
  obtain ⟨I1, I2, I3, L0⟩ := I
  have hS := I1.2.2.1
  obtain ⟨_, v1, v2, v3, v4, v5⟩ := hin
  obtain ⟨a, a2, hx', hm', ex, em, L1⟩ := p_go L0 (xs (i + 1).toNatClampNeg) (xs (i + 2).toNatClampNeg) (xs (i + 3).toNatClampNeg)
  refine lv_aload_n hx9 hb9 dL_law_968 rfl (lv_at hl 1 rfl) ?_
  refine lv_aload_n hx9 hb9 dL_law_969 rfl (lv_at hl 0 rfl) ?_
  refine lv_iload hx9 hb9 dL_law_970 (lv_at hl 4 rfl) ?_
  refine lv_iconst (v := 1) hx9 hb9 dL_law_972 (by decide) ?_
  refine lv_iadd hx9 hb9 dL_law_973 ?_
  refine va_sld (A := A0 s) hx9 hb9 hX hbl hbA hS v1 dL_law_974 ?_
  refine lv_aload_n hx9 hb9 dL_law_975 rfl (lv_at hl 0 rfl) ?_
  refine lv_iload hx9 hb9 dL_law_976 (lv_at hl 4 rfl) ?_
  refine lv_iconst (v := 2) hx9 hb9 dL_law_978 (by decide) ?_
  refine lv_iadd hx9 hb9 dL_law_979 ?_
  refine va_sld (A := A0 s) hx9 hb9 hX hbl hbA hS v2 dL_law_980 ?_
  refine lv_aload_n hx9 hb9 dL_law_981 rfl (lv_at hl 0 rfl) ?_
  refine lv_iload hx9 hb9 dL_law_982 (lv_at hl 4 rfl) ?_
  refine lv_iconst (v := 3) hx9 hb9 dL_law_984 (by decide) ?_
  refine lv_iadd hx9 hb9 dL_law_985 ?_
  refine va_sld (A := A0 s) hx9 hb9 hX hbl hbA hS v3 dL_law_986 ?_
  refine l_Vi (As := [.int (xs (i + 1).toNatClampNeg), .int (xs (i + 2).toNatClampNeg), .int (xs (i + 3).toNatClampNeg)]) S (M11_go l D cy s.heap.size (Aw s.heap.size 110) false ex) gL_11_go rfl rfl rfl cdL_11_go ⟨Nat.le_of_ble_eq_true rfl, Nat.le_of_ble_eq_true rfl⟩ I1 (Nat.le_refl _) (x_ok L0.1).1 clX11 rfl rfl hl.1 rfl (Nat.le_of_ble_eq_true rfl) dL_law_987 ⟨Nat.le_trans (Nat.add_le_add_right hc.1 _) (Nat.le_of_ble_eq_true rfl), Nat.le_trans (Nat.add_le_add_right hc.2 _) (Nat.le_of_ble_eq_true rfl)⟩ (fun H1 locs1 J1 hk1 => ?_)
  have I2 := LM_kept I2 (A := Aw s.heap.size 110) (fun i hi z => by have := z.2; omega) hk1 J1.2.2.1
  have I3 := LM_kept I3 (A := Aw s.heap.size 110) (fun i hi z => by have := z.2; omega) hk1 J1.2.2.1
  have hS := I2.2.2.1
  refine lv_pop hx9 hb9 dL_law_990 rfl ?_
  refine lv_aload_n hx9 hb9 dL_law_991 rfl (lv_at hl 2 rfl) ?_
  refine lv_aload_n hx9 hb9 dL_law_992 rfl (lv_at hl 0 rfl) ?_
  refine lv_iload hx9 hb9 dL_law_993 (lv_at hl 4 rfl) ?_
  refine lv_iconst (v := 1) hx9 hb9 dL_law_995 (by decide) ?_
  refine lv_iadd hx9 hb9 dL_law_996 ?_
  refine va_sld (A := A0 s) hx9 hb9 hX hbl hbA hS v1 dL_law_997 ?_
  refine lv_aload_n hx9 hb9 dL_law_998 rfl (lv_at hl 0 rfl) ?_
  refine lv_iload hx9 hb9 dL_law_999 (lv_at hl 4 rfl) ?_
  refine lv_iconst (v := 2) hx9 hb9 dL_law_1001 (by decide) ?_
  refine lv_iadd hx9 hb9 dL_law_1002 ?_
  refine va_sld (A := A0 s) hx9 hb9 hX hbl hbA hS v2 dL_law_1003 ?_
  refine lv_aload_n hx9 hb9 dL_law_1004 rfl (lv_at hl 0 rfl) ?_
  refine lv_iload hx9 hb9 dL_law_1005 (lv_at hl 4 rfl) ?_
  refine lv_iconst (v := 3) hx9 hb9 dL_law_1007 (by decide) ?_
  refine lv_iadd hx9 hb9 dL_law_1008 ?_
  refine va_sld (A := A0 s) hx9 hb9 hX hbl hbA hS v3 dL_law_1009 ?_
  refine l_Vi (As := [.int (xs (i + 1).toNatClampNeg), .int (xs (i + 2).toNatClampNeg), .int (xs (i + 3).toNatClampNeg)]) S (M12_go l D cy (s.heap.size + 110) (Aw (s.heap.size + 110) 43) false em) gL_12_go rfl rfl rfl cdL_12_go ⟨Nat.le_of_ble_eq_true rfl, Nat.le_of_ble_eq_true rfl⟩ I2 (Nat.le_add_right _ _) (m_ok L0.2.1).1 clX12 rfl rfl hl.1 rfl (Nat.le_of_ble_eq_true rfl) dL_law_1010 ⟨Nat.le_trans (Nat.add_le_add_right hc.1 _) (Nat.le_of_ble_eq_true rfl), Nat.le_trans (Nat.add_le_add_right hc.2 _) (Nat.le_of_ble_eq_true rfl)⟩ (fun H2 locs2 J2 hk2 => ?_)
  have J1 := LM_kept J1 (A := Aw (s.heap.size + 110) 43) (fun i hi z => by have := z.1; omega) hk2 J2.2.2.1
  have I3 := LM_kept I3 (A := Aw (s.heap.size + 110) 43) (fun i hi z => by have := z.2; omega) hk2 J2.2.2.1
  refine lv_pop hx9 hb9 dL_law_1013 rfl ?_
  refine lv_goto (tgt := 1526) hx9 hb9 dL_law_1014 (by decide) ?_
  refine W.widen (k := cl + 1) (n := sl + 6) (Nat.le_succ _) (Nat.le_add_right _ _) ?_
  exact K _ _ _ _ _ _ ⟨J1, J2, I3, L1⟩ hl
set_option maxHeartbeats 1000000 in
theorem lc_1017 (S : CallFix p m c cL_law 7 s #[Value.ref b] lw_tbl RL) (hX : va_X b L xs s s.heap) (hbl : b < s.heap.size) {hx hm : PH} {f : Nat → Int64} (I : LW D cy hx hm f s H locs) {i : Int32} (hin : IN i L) {cl sl : Nat} (hc : cl ≤ 1000 ∧ sl ≤ 20000) (hl : lv_has ls 7 (LV b s i)) (K : ∀ (hx' hm' : PH) (f' : Nat → Int64) (H' : Heap) (locs' : List Loc) (ls' : Array Slot), LW D cy hx' hm' f' s H' locs' → lv_has ls' 7 (LV b s i) → W p l e room_1 s m #[Value.ref b] below meth c H' locs' (cl + 1) (sl + 6) (lw_Z below #[Value.ref b] s) (F0 m 1526 ls' [])) : W p l e room_1 s m #[Value.ref b] below meth c H locs cl sl (lw_Z below #[Value.ref b] s) (F0 m 1017 ls []) := by
  have hbA : ¬ A0 s b := Nat.not_le.mpr hbl
  have hx9 := S.1
  have hb9 := S.2.1
  obtain ⟨I1, I2, I3, L0⟩ := I
  have hS := I1.2.2.1
  obtain ⟨_, v1, v2, v3, v4, v5⟩ := hin
  obtain ⟨a, hx', hm', ex, em, L1⟩ := p_give L0 (xs (i + 1).toNatClampNeg) (xs (i + 2).toNatClampNeg) (xs (i + 3).toNatClampNeg)
  refine lv_aload_n hx9 hb9 dL_law_1017 rfl (lv_at hl 1 rfl) ?_
  refine lv_aload_n hx9 hb9 dL_law_1018 rfl (lv_at hl 0 rfl) ?_
  refine lv_iload hx9 hb9 dL_law_1019 (lv_at hl 4 rfl) ?_
  refine lv_iconst (v := 1) hx9 hb9 dL_law_1021 (by decide) ?_
  refine lv_iadd hx9 hb9 dL_law_1022 ?_
  refine va_sld (A := A0 s) hx9 hb9 hX hbl hbA hS v1 dL_law_1023 ?_
  refine lv_aload_n hx9 hb9 dL_law_1024 rfl (lv_at hl 0 rfl) ?_
  refine lv_iload hx9 hb9 dL_law_1025 (lv_at hl 4 rfl) ?_
  refine lv_iconst (v := 2) hx9 hb9 dL_law_1027 (by decide) ?_
  refine lv_iadd hx9 hb9 dL_law_1028 ?_
  refine va_sld (A := A0 s) hx9 hb9 hX hbl hbA hS v2 dL_law_1029 ?_
  refine lv_aload_n hx9 hb9 dL_law_1030 rfl (lv_at hl 0 rfl) ?_
  refine lv_iload hx9 hb9 dL_law_1031 (lv_at hl 4 rfl) ?_
  refine lv_iconst (v := 3) hx9 hb9 dL_law_1033 (by decide) ?_
  refine lv_iadd hx9 hb9 dL_law_1034 ?_
  refine va_sld (A := A0 s) hx9 hb9 hX hbl hbA hS v3 dL_law_1035 ?_
  refine l_Vi (As := [.int (xs (i + 1).toNatClampNeg), .int (xs (i + 2).toNatClampNeg), .int (xs (i + 3).toNatClampNeg)]) S (M11_give l D cy s.heap.size (Aw s.heap.size 110) false ex) gL_11_give rfl rfl rfl cdL_11_give ⟨Nat.le_of_ble_eq_true rfl, Nat.le_of_ble_eq_true rfl⟩ I1 (Nat.le_refl _) (x_ok L0.1).1 clX11 rfl rfl hl.1 rfl (Nat.le_of_ble_eq_true rfl) dL_law_1036 ⟨Nat.le_trans (Nat.add_le_add_right hc.1 _) (Nat.le_of_ble_eq_true rfl), Nat.le_trans (Nat.add_le_add_right hc.2 _) (Nat.le_of_ble_eq_true rfl)⟩ (fun H1 locs1 J1 hk1 => ?_)
  have I2 := LM_kept I2 (A := Aw s.heap.size 110) (fun i hi z => by have := z.2; omega) hk1 J1.2.2.1
  have I3 := LM_kept I3 (A := Aw s.heap.size 110) (fun i hi z => by have := z.2; omega) hk1 J1.2.2.1
  have hS := I2.2.2.1
  refine lv_pop hx9 hb9 dL_law_1039 rfl ?_
  refine lv_aload_n hx9 hb9 dL_law_1040 rfl (lv_at hl 2 rfl) ?_
  refine lv_aload_n hx9 hb9 dL_law_1041 rfl (lv_at hl 0 rfl) ?_
  refine lv_iload hx9 hb9 dL_law_1042 (lv_at hl 4 rfl) ?_
  refine lv_iconst (v := 1) hx9 hb9 dL_law_1044 (by decide) ?_
  refine lv_iadd hx9 hb9 dL_law_1045 ?_
  refine va_sld (A := A0 s) hx9 hb9 hX hbl hbA hS v1 dL_law_1046 ?_
  refine lv_aload_n hx9 hb9 dL_law_1047 rfl (lv_at hl 0 rfl) ?_
  refine lv_iload hx9 hb9 dL_law_1048 (lv_at hl 4 rfl) ?_
  refine lv_iconst (v := 2) hx9 hb9 dL_law_1050 (by decide) ?_
  refine lv_iadd hx9 hb9 dL_law_1051 ?_
  refine va_sld (A := A0 s) hx9 hb9 hX hbl hbA hS v2 dL_law_1052 ?_
  refine lv_aload_n hx9 hb9 dL_law_1053 rfl (lv_at hl 0 rfl) ?_
  refine lv_iload hx9 hb9 dL_law_1054 (lv_at hl 4 rfl) ?_
  refine lv_iconst (v := 3) hx9 hb9 dL_law_1056 (by decide) ?_
  refine lv_iadd hx9 hb9 dL_law_1057 ?_
  refine va_sld (A := A0 s) hx9 hb9 hX hbl hbA hS v3 dL_law_1058 ?_
  refine l_Vi (As := [.int (xs (i + 1).toNatClampNeg), .int (xs (i + 2).toNatClampNeg), .int (xs (i + 3).toNatClampNeg)]) S (M12_give l D cy (s.heap.size + 110) (Aw (s.heap.size + 110) 43) false em) gL_12_give rfl rfl rfl cdL_12_give ⟨Nat.le_of_ble_eq_true rfl, Nat.le_of_ble_eq_true rfl⟩ I2 (Nat.le_add_right _ _) (m_ok L0.2.1).1 clX12 rfl rfl hl.1 rfl (Nat.le_of_ble_eq_true rfl) dL_law_1059 ⟨Nat.le_trans (Nat.add_le_add_right hc.1 _) (Nat.le_of_ble_eq_true rfl), Nat.le_trans (Nat.add_le_add_right hc.2 _) (Nat.le_of_ble_eq_true rfl)⟩ (fun H2 locs2 J2 hk2 => ?_)
  have J1 := LM_kept J1 (A := Aw (s.heap.size + 110) 43) (fun i hi z => by have := z.1; omega) hk2 J2.2.2.1
  have I3 := LM_kept I3 (A := Aw (s.heap.size + 110) 43) (fun i hi z => by have := z.2; omega) hk2 J2.2.2.1
  refine lv_pop hx9 hb9 dL_law_1062 rfl ?_
  refine lv_goto (tgt := 1526) hx9 hb9 dL_law_1063 (by decide) ?_
  refine W.widen (k := cl + 1) (n := sl + 6) (Nat.le_succ _) (Nat.le_add_right _ _) ?_
  exact K _ _ _ _ _ _ ⟨J1, J2, I3, L1⟩ hl
set_option maxHeartbeats 1000000 in
theorem lc_1066 (S : CallFix p m c cL_law 7 s #[Value.ref b] lw_tbl RL) (hX : va_X b L xs s s.heap) (hbl : b < s.heap.size) {hx hm : PH} {f : Nat → Int64} (I : LW D cy hx hm f s H locs) {i : Int32} (hin : IN i L) {cl sl : Nat} (hc : cl ≤ 1000 ∧ sl ≤ 20000) (hl : lv_has ls 7 (LV b s i)) (K : ∀ (hx' hm' : PH) (f' : Nat → Int64) (H' : Heap) (locs' : List Loc) (ls' : Array Slot), LW D cy hx' hm' f' s H' locs' → lv_has ls' 7 (LV b s i) → W p l e room_1 s m #[Value.ref b] below meth c H' locs' (cl + 1) (sl + 6) (lw_Z below #[Value.ref b] s) (F0 m 1526 ls' [])) : W p l e room_1 s m #[Value.ref b] below meth c H locs cl sl (lw_Z below #[Value.ref b] s) (F0 m 1066 ls []) := by
  have hbA : ¬ A0 s b := Nat.not_le.mpr hbl
  have hx9 := S.1
  have hb9 := S.2.1
  obtain ⟨I1, I2, I3, L0⟩ := I
  have hS := I1.2.2.1
  obtain ⟨_, v1, v2, v3, v4, v5⟩ := hin
  obtain ⟨a, hx', hm', ex, em, L1⟩ := p_table L0 (xs (i + 1).toNatClampNeg) (xs (i + 2).toNatClampNeg) (xs (i + 3).toNatClampNeg)
  refine lv_aload_n hx9 hb9 dL_law_1066 rfl (lv_at hl 1 rfl) ?_
  refine lv_aload_n hx9 hb9 dL_law_1067 rfl (lv_at hl 0 rfl) ?_
  refine lv_iload hx9 hb9 dL_law_1068 (lv_at hl 4 rfl) ?_
  refine lv_iconst (v := 1) hx9 hb9 dL_law_1070 (by decide) ?_
  refine lv_iadd hx9 hb9 dL_law_1071 ?_
  refine va_sld (A := A0 s) hx9 hb9 hX hbl hbA hS v1 dL_law_1072 ?_
  refine lv_aload_n hx9 hb9 dL_law_1073 rfl (lv_at hl 0 rfl) ?_
  refine lv_iload hx9 hb9 dL_law_1074 (lv_at hl 4 rfl) ?_
  refine lv_iconst (v := 2) hx9 hb9 dL_law_1076 (by decide) ?_
  refine lv_iadd hx9 hb9 dL_law_1077 ?_
  refine va_sld (A := A0 s) hx9 hb9 hX hbl hbA hS v2 dL_law_1078 ?_
  refine lv_aload_n hx9 hb9 dL_law_1079 rfl (lv_at hl 0 rfl) ?_
  refine lv_iload hx9 hb9 dL_law_1080 (lv_at hl 4 rfl) ?_
  refine lv_iconst (v := 3) hx9 hb9 dL_law_1082 (by decide) ?_
  refine lv_iadd hx9 hb9 dL_law_1083 ?_
  refine va_sld (A := A0 s) hx9 hb9 hX hbl hbA hS v3 dL_law_1084 ?_
  refine l_Vi (As := [.int (xs (i + 1).toNatClampNeg), .int (xs (i + 2).toNatClampNeg), .int (xs (i + 3).toNatClampNeg)]) S (M11_table l D cy s.heap.size (Aw s.heap.size 110) ex) gL_11_table rfl rfl rfl cdL_11_table ⟨Nat.le_of_ble_eq_true rfl, Nat.le_of_ble_eq_true rfl⟩ I1 (Nat.le_refl _) (x_ok L0.1).1 clX11 rfl rfl hl.1 rfl (Nat.le_of_ble_eq_true rfl) dL_law_1085 ⟨Nat.le_trans (Nat.add_le_add_right hc.1 _) (Nat.le_of_ble_eq_true rfl), Nat.le_trans (Nat.add_le_add_right hc.2 _) (Nat.le_of_ble_eq_true rfl)⟩ (fun H1 locs1 J1 hk1 => ?_)
  have I2 := LM_kept I2 (A := Aw s.heap.size 110) (fun i hi z => by have := z.2; omega) hk1 J1.2.2.1
  have I3 := LM_kept I3 (A := Aw s.heap.size 110) (fun i hi z => by have := z.2; omega) hk1 J1.2.2.1
  have hS := I2.2.2.1
  refine lv_pop hx9 hb9 dL_law_1088 rfl ?_
  refine lv_aload_n hx9 hb9 dL_law_1089 rfl (lv_at hl 2 rfl) ?_
  refine lv_aload_n hx9 hb9 dL_law_1090 rfl (lv_at hl 0 rfl) ?_
  refine lv_iload hx9 hb9 dL_law_1091 (lv_at hl 4 rfl) ?_
  refine lv_iconst (v := 1) hx9 hb9 dL_law_1093 (by decide) ?_
  refine lv_iadd hx9 hb9 dL_law_1094 ?_
  refine va_sld (A := A0 s) hx9 hb9 hX hbl hbA hS v1 dL_law_1095 ?_
  refine lv_aload_n hx9 hb9 dL_law_1096 rfl (lv_at hl 0 rfl) ?_
  refine lv_iload hx9 hb9 dL_law_1097 (lv_at hl 4 rfl) ?_
  refine lv_iconst (v := 2) hx9 hb9 dL_law_1099 (by decide) ?_
  refine lv_iadd hx9 hb9 dL_law_1100 ?_
  refine va_sld (A := A0 s) hx9 hb9 hX hbl hbA hS v2 dL_law_1101 ?_
  refine lv_aload_n hx9 hb9 dL_law_1102 rfl (lv_at hl 0 rfl) ?_
  refine lv_iload hx9 hb9 dL_law_1103 (lv_at hl 4 rfl) ?_
  refine lv_iconst (v := 3) hx9 hb9 dL_law_1105 (by decide) ?_
  refine lv_iadd hx9 hb9 dL_law_1106 ?_
  refine va_sld (A := A0 s) hx9 hb9 hX hbl hbA hS v3 dL_law_1107 ?_
  refine l_Vi (As := [.int (xs (i + 1).toNatClampNeg), .int (xs (i + 2).toNatClampNeg), .int (xs (i + 3).toNatClampNeg)]) S (M12_table l D cy (s.heap.size + 110) (Aw (s.heap.size + 110) 43) false em) gL_12_table rfl rfl rfl cdL_12_table ⟨Nat.le_of_ble_eq_true rfl, Nat.le_of_ble_eq_true rfl⟩ I2 (Nat.le_add_right _ _) (m_ok L0.2.1).1 clX12 rfl rfl hl.1 rfl (Nat.le_of_ble_eq_true rfl) dL_law_1108 ⟨Nat.le_trans (Nat.add_le_add_right hc.1 _) (Nat.le_of_ble_eq_true rfl), Nat.le_trans (Nat.add_le_add_right hc.2 _) (Nat.le_of_ble_eq_true rfl)⟩ (fun H2 locs2 J2 hk2 => ?_)
  have J1 := LM_kept J1 (A := Aw (s.heap.size + 110) 43) (fun i hi z => by have := z.1; omega) hk2 J2.2.2.1
  have I3 := LM_kept I3 (A := Aw (s.heap.size + 110) 43) (fun i hi z => by have := z.2; omega) hk2 J2.2.2.1
  refine lv_pop hx9 hb9 dL_law_1111 rfl ?_
  refine lv_goto (tgt := 1526) hx9 hb9 dL_law_1112 (by decide) ?_
  refine W.widen (k := cl + 1) (n := sl + 6) (Nat.le_succ _) (Nat.le_add_right _ _) ?_
  exact K _ _ _ _ _ _ ⟨J1, J2, I3, L1⟩ hl
set_option maxHeartbeats 1000000 in
theorem lc_1115 (S : CallFix p m c cL_law 7 s #[Value.ref b] lw_tbl RL) (hX : va_X b L xs s s.heap) (hbl : b < s.heap.size) {hx hm : PH} {f : Nat → Int64} (I : LW D cy hx hm f s H locs) {i : Int32} (hin : IN i L) {cl sl : Nat} (hc : cl ≤ 1000 ∧ sl ≤ 20000) (hl : lv_has ls 7 (LV b s i)) (K : ∀ (hx' hm' : PH) (f' : Nat → Int64) (H' : Heap) (locs' : List Loc) (ls' : Array Slot), LW D cy hx' hm' f' s H' locs' → lv_has ls' 7 (LV b s i) → W p l e room_1 s m #[Value.ref b] below meth c H' locs' (cl + 1) (sl + 6) (lw_Z below #[Value.ref b] s) (F0 m 1526 ls' [])) : W p l e room_1 s m #[Value.ref b] below meth c H locs cl sl (lw_Z below #[Value.ref b] s) (F0 m 1115 ls []) := by
  have hbA : ¬ A0 s b := Nat.not_le.mpr hbl
  have hx9 := S.1
  have hb9 := S.2.1
  obtain ⟨I1, I2, I3, L0⟩ := I
  have hS := I1.2.2.1
  obtain ⟨_, v1, v2, v3, v4, v5⟩ := hin
  obtain ⟨a, hx', hm', ex, em, L1⟩ := p_fairest L0 (xs (i + 1).toNatClampNeg)
  refine lv_aload_n hx9 hb9 dL_law_1115 rfl (lv_at hl 1 rfl) ?_
  refine lv_aload_n hx9 hb9 dL_law_1116 rfl (lv_at hl 0 rfl) ?_
  refine lv_iload hx9 hb9 dL_law_1117 (lv_at hl 4 rfl) ?_
  refine lv_iconst (v := 1) hx9 hb9 dL_law_1119 (by decide) ?_
  refine lv_iadd hx9 hb9 dL_law_1120 ?_
  refine va_sld (A := A0 s) hx9 hb9 hX hbl hbA hS v1 dL_law_1121 ?_
  refine l_Vi (As := [.int (xs (i + 1).toNatClampNeg)]) S (M11_fairest l D cy s.heap.size (Aw s.heap.size 110) ex) gL_11_fairest rfl rfl rfl cdL_11_fairest ⟨Nat.le_of_ble_eq_true rfl, Nat.le_of_ble_eq_true rfl⟩ I1 (Nat.le_refl _) (x_ok L0.1).1 clX11 rfl rfl hl.1 rfl (Nat.le_of_ble_eq_true rfl) dL_law_1122 ⟨Nat.le_trans (Nat.add_le_add_right hc.1 _) (Nat.le_of_ble_eq_true rfl), Nat.le_trans (Nat.add_le_add_right hc.2 _) (Nat.le_of_ble_eq_true rfl)⟩ (fun H1 locs1 J1 hk1 => ?_)
  have I2 := LM_kept I2 (A := Aw s.heap.size 110) (fun i hi z => by have := z.2; omega) hk1 J1.2.2.1
  have I3 := LM_kept I3 (A := Aw s.heap.size 110) (fun i hi z => by have := z.2; omega) hk1 J1.2.2.1
  have hS := I2.2.2.1
  refine lv_pop hx9 hb9 dL_law_1125 rfl ?_
  refine lv_aload_n hx9 hb9 dL_law_1126 rfl (lv_at hl 2 rfl) ?_
  refine lv_aload_n hx9 hb9 dL_law_1127 rfl (lv_at hl 0 rfl) ?_
  refine lv_iload hx9 hb9 dL_law_1128 (lv_at hl 4 rfl) ?_
  refine lv_iconst (v := 1) hx9 hb9 dL_law_1130 (by decide) ?_
  refine lv_iadd hx9 hb9 dL_law_1131 ?_
  refine va_sld (A := A0 s) hx9 hb9 hX hbl hbA hS v1 dL_law_1132 ?_
  refine l_Vi (As := [.int (xs (i + 1).toNatClampNeg)]) S (M12_fairest l D cy (s.heap.size + 110) (Aw (s.heap.size + 110) 43) false em) gL_12_fairest rfl rfl rfl cdL_12_fairest ⟨Nat.le_of_ble_eq_true rfl, Nat.le_of_ble_eq_true rfl⟩ I2 (Nat.le_add_right _ _) (m_ok L0.2.1).1 clX12 rfl rfl hl.1 rfl (Nat.le_of_ble_eq_true rfl) dL_law_1133 ⟨Nat.le_trans (Nat.add_le_add_right hc.1 _) (Nat.le_of_ble_eq_true rfl), Nat.le_trans (Nat.add_le_add_right hc.2 _) (Nat.le_of_ble_eq_true rfl)⟩ (fun H2 locs2 J2 hk2 => ?_)
  have J1 := LM_kept J1 (A := Aw (s.heap.size + 110) 43) (fun i hi z => by have := z.1; omega) hk2 J2.2.2.1
  have I3 := LM_kept I3 (A := Aw (s.heap.size + 110) 43) (fun i hi z => by have := z.2; omega) hk2 J2.2.2.1
  refine lv_pop hx9 hb9 dL_law_1136 rfl ?_
  refine lv_goto (tgt := 1526) hx9 hb9 dL_law_1137 (by decide) ?_
  refine W.widen (k := cl + 1) (n := sl + 6) (Nat.le_succ _) (Nat.le_add_right _ _) ?_
  exact K _ _ _ _ _ _ ⟨J1, J2, I3, L1⟩ hl
set_option maxHeartbeats 1000000 in
theorem lc_1140 (S : CallFix p m c cL_law 7 s #[Value.ref b] lw_tbl RL) (hX : va_X b L xs s s.heap) (hbl : b < s.heap.size) {hx hm : PH} {f : Nat → Int64} (I : LW D cy hx hm f s H locs) {i : Int32} (hin : IN i L) {cl sl : Nat} (hc : cl ≤ 1000 ∧ sl ≤ 20000) (hl : lv_has ls 7 (LV b s i)) (K : ∀ (hx' hm' : PH) (f' : Nat → Int64) (H' : Heap) (locs' : List Loc) (ls' : Array Slot), LW D cy hx' hm' f' s H' locs' → lv_has ls' 7 (LV b s i) → W p l e room_1 s m #[Value.ref b] below meth c H' locs' (cl + 1) (sl + 6) (lw_Z below #[Value.ref b] s) (F0 m 1526 ls' [])) : W p l e room_1 s m #[Value.ref b] below meth c H locs cl sl (lw_Z below #[Value.ref b] s) (F0 m 1140 ls []) := by
  have hbA : ¬ A0 s b := Nat.not_le.mpr hbl
  have hx9 := S.1
  have hb9 := S.2.1
  obtain ⟨I1, I2, I3, L0⟩ := I
  have hS := I1.2.2.1
  obtain ⟨_, v1, v2, v3, v4, v5⟩ := hin
  obtain ⟨a, hx', hm', ex, em, L1⟩ := p_over L0 (xs (i + 1).toNatClampNeg)
  refine lv_aload_n hx9 hb9 dL_law_1140 rfl (lv_at hl 1 rfl) ?_
  refine lv_aload_n hx9 hb9 dL_law_1141 rfl (lv_at hl 0 rfl) ?_
  refine lv_iload hx9 hb9 dL_law_1142 (lv_at hl 4 rfl) ?_
  refine lv_iconst (v := 1) hx9 hb9 dL_law_1144 (by decide) ?_
  refine lv_iadd hx9 hb9 dL_law_1145 ?_
  refine va_sld (A := A0 s) hx9 hb9 hX hbl hbA hS v1 dL_law_1146 ?_
  refine l_Vi (As := [.int (xs (i + 1).toNatClampNeg)]) S (M11_over l D cy s.heap.size (Aw s.heap.size 110) false ex) gL_11_over rfl rfl rfl cdL_11_over ⟨Nat.le_of_ble_eq_true rfl, Nat.le_of_ble_eq_true rfl⟩ I1 (Nat.le_refl _) (x_ok L0.1).1 clX11 rfl rfl hl.1 rfl (Nat.le_of_ble_eq_true rfl) dL_law_1147 ⟨Nat.le_trans (Nat.add_le_add_right hc.1 _) (Nat.le_of_ble_eq_true rfl), Nat.le_trans (Nat.add_le_add_right hc.2 _) (Nat.le_of_ble_eq_true rfl)⟩ (fun H1 locs1 J1 hk1 => ?_)
  have I2 := LM_kept I2 (A := Aw s.heap.size 110) (fun i hi z => by have := z.2; omega) hk1 J1.2.2.1
  have I3 := LM_kept I3 (A := Aw s.heap.size 110) (fun i hi z => by have := z.2; omega) hk1 J1.2.2.1
  have hS := I2.2.2.1
  refine lv_pop hx9 hb9 dL_law_1150 rfl ?_
  refine lv_aload_n hx9 hb9 dL_law_1151 rfl (lv_at hl 2 rfl) ?_
  refine lv_aload_n hx9 hb9 dL_law_1152 rfl (lv_at hl 0 rfl) ?_
  refine lv_iload hx9 hb9 dL_law_1153 (lv_at hl 4 rfl) ?_
  refine lv_iconst (v := 1) hx9 hb9 dL_law_1155 (by decide) ?_
  refine lv_iadd hx9 hb9 dL_law_1156 ?_
  refine va_sld (A := A0 s) hx9 hb9 hX hbl hbA hS v1 dL_law_1157 ?_
  refine l_Vi (As := [.int (xs (i + 1).toNatClampNeg)]) S (M12_over l D cy (s.heap.size + 110) (Aw (s.heap.size + 110) 43) false em) gL_12_over rfl rfl rfl cdL_12_over ⟨Nat.le_of_ble_eq_true rfl, Nat.le_of_ble_eq_true rfl⟩ I2 (Nat.le_add_right _ _) (m_ok L0.2.1).1 clX12 rfl rfl hl.1 rfl (Nat.le_of_ble_eq_true rfl) dL_law_1158 ⟨Nat.le_trans (Nat.add_le_add_right hc.1 _) (Nat.le_of_ble_eq_true rfl), Nat.le_trans (Nat.add_le_add_right hc.2 _) (Nat.le_of_ble_eq_true rfl)⟩ (fun H2 locs2 J2 hk2 => ?_)
  have J1 := LM_kept J1 (A := Aw (s.heap.size + 110) 43) (fun i hi z => by have := z.1; omega) hk2 J2.2.2.1
  have I3 := LM_kept I3 (A := Aw (s.heap.size + 110) 43) (fun i hi z => by have := z.2; omega) hk2 J2.2.2.1
  refine lv_pop hx9 hb9 dL_law_1161 rfl ?_
  refine lv_goto (tgt := 1526) hx9 hb9 dL_law_1162 (by decide) ?_
  refine W.widen (k := cl + 1) (n := sl + 6) (Nat.le_succ _) (Nat.le_add_right _ _) ?_
  exact K _ _ _ _ _ _ ⟨J1, J2, I3, L1⟩ hl
set_option maxHeartbeats 1000000 in
theorem lc_1165 (S : CallFix p m c cL_law 7 s #[Value.ref b] lw_tbl RL) (hX : va_X b L xs s s.heap) (hbl : b < s.heap.size) {hx hm : PH} {f : Nat → Int64} (I : LW D cy hx hm f s H locs) {i : Int32} (hin : IN i L) {cl sl : Nat} (hc : cl ≤ 1000 ∧ sl ≤ 20000) (hl : lv_has ls 7 (LV b s i)) (K : ∀ (hx' hm' : PH) (f' : Nat → Int64) (H' : Heap) (locs' : List Loc) (ls' : Array Slot), LW D cy hx' hm' f' s H' locs' → lv_has ls' 7 (LV b s i) → W p l e room_1 s m #[Value.ref b] below meth c H' locs' (cl + 1) (sl + 6) (lw_Z below #[Value.ref b] s) (F0 m 1526 ls' [])) : W p l e room_1 s m #[Value.ref b] below meth c H locs cl sl (lw_Z below #[Value.ref b] s) (F0 m 1165 ls []) := by
  have hbA : ¬ A0 s b := Nat.not_le.mpr hbl
  have hx9 := S.1
  have hb9 := S.2.1
  obtain ⟨I1, I2, I3, L0⟩ := I
  have hS := I1.2.2.1
  obtain ⟨_, v1, v2, v3, v4, v5⟩ := hin
  obtain ⟨a, hx', hm', ex, em, L1⟩ := p_next L0 
  refine lv_aload_n hx9 hb9 dL_law_1165 rfl (lv_at hl 1 rfl) ?_
  refine l_Vi (As := []) S (M11_next l D cy s.heap.size (Aw s.heap.size 110) false ex) gL_11_next rfl rfl rfl cdL_11_next ⟨Nat.le_of_ble_eq_true rfl, Nat.le_of_ble_eq_true rfl⟩ I1 (Nat.le_refl _) (x_ok L0.1).1 clX11 rfl rfl hl.1 rfl (Nat.le_of_ble_eq_true rfl) dL_law_1166 ⟨Nat.le_trans (Nat.add_le_add_right hc.1 _) (Nat.le_of_ble_eq_true rfl), Nat.le_trans (Nat.add_le_add_right hc.2 _) (Nat.le_of_ble_eq_true rfl)⟩ (fun H1 locs1 J1 hk1 => ?_)
  have I2 := LM_kept I2 (A := Aw s.heap.size 110) (fun i hi z => by have := z.2; omega) hk1 J1.2.2.1
  have I3 := LM_kept I3 (A := Aw s.heap.size 110) (fun i hi z => by have := z.2; omega) hk1 J1.2.2.1
  have hS := I2.2.2.1
  refine lv_pop hx9 hb9 dL_law_1169 rfl ?_
  refine lv_aload_n hx9 hb9 dL_law_1170 rfl (lv_at hl 2 rfl) ?_
  refine l_Vi (As := []) S (M12_next l D cy (s.heap.size + 110) (Aw (s.heap.size + 110) 43) false em) gL_12_next rfl rfl rfl cdL_12_next ⟨Nat.le_of_ble_eq_true rfl, Nat.le_of_ble_eq_true rfl⟩ I2 (Nat.le_add_right _ _) (m_ok L0.2.1).1 clX12 rfl rfl hl.1 rfl (Nat.le_of_ble_eq_true rfl) dL_law_1171 ⟨Nat.le_trans (Nat.add_le_add_right hc.1 _) (Nat.le_of_ble_eq_true rfl), Nat.le_trans (Nat.add_le_add_right hc.2 _) (Nat.le_of_ble_eq_true rfl)⟩ (fun H2 locs2 J2 hk2 => ?_)
  have J1 := LM_kept J1 (A := Aw (s.heap.size + 110) 43) (fun i hi z => by have := z.1; omega) hk2 J2.2.2.1
  have I3 := LM_kept I3 (A := Aw (s.heap.size + 110) 43) (fun i hi z => by have := z.2; omega) hk2 J2.2.2.1
  refine lv_pop hx9 hb9 dL_law_1174 rfl ?_
  refine lv_goto (tgt := 1526) hx9 hb9 dL_law_1175 (by decide) ?_
  refine W.widen (k := cl + 1) (n := sl + 6) (Nat.le_succ _) (Nat.le_add_right _ _) ?_
  exact K _ _ _ _ _ _ ⟨J1, J2, I3, L1⟩ hl
set_option maxHeartbeats 1000000 in
theorem lc_1178 (S : CallFix p m c cL_law 7 s #[Value.ref b] lw_tbl RL) (hX : va_X b L xs s s.heap) (hbl : b < s.heap.size) {hx hm : PH} {f : Nat → Int64} (I : LW D cy hx hm f s H locs) {i : Int32} (hin : IN i L) {cl sl : Nat} (hc : cl ≤ 1000 ∧ sl ≤ 20000) (hl : lv_has ls 7 (LV b s i)) (K : ∀ (hx' hm' : PH) (f' : Nat → Int64) (H' : Heap) (locs' : List Loc) (ls' : Array Slot), LW D cy hx' hm' f' s H' locs' → lv_has ls' 7 (LV b s i) → W p l e room_1 s m #[Value.ref b] below meth c H' locs' (cl + 1) (sl + 6) (lw_Z below #[Value.ref b] s) (F0 m 1526 ls' [])) : W p l e room_1 s m #[Value.ref b] below meth c H locs cl sl (lw_Z below #[Value.ref b] s) (F0 m 1178 ls []) := by
  have hbA : ¬ A0 s b := Nat.not_le.mpr hbl
  have hx9 := S.1
  have hb9 := S.2.1
  obtain ⟨I1, I2, I3, L0⟩ := I
  have hS := I1.2.2.1
  obtain ⟨_, v1, v2, v3, v4, v5⟩ := hin
  obtain ⟨a, hx', hm', ex, em, L1⟩ := p_gaps L0 (xs (i + 1).toNatClampNeg) (xs (i + 2).toNatClampNeg)
  refine lv_aload_n hx9 hb9 dL_law_1178 rfl (lv_at hl 1 rfl) ?_
  refine lv_aload_n hx9 hb9 dL_law_1179 rfl (lv_at hl 0 rfl) ?_
  refine lv_iload hx9 hb9 dL_law_1180 (lv_at hl 4 rfl) ?_
  refine lv_iconst (v := 1) hx9 hb9 dL_law_1182 (by decide) ?_
  refine lv_iadd hx9 hb9 dL_law_1183 ?_
  refine va_sld (A := A0 s) hx9 hb9 hX hbl hbA hS v1 dL_law_1184 ?_
  refine lv_aload_n hx9 hb9 dL_law_1185 rfl (lv_at hl 0 rfl) ?_
  refine lv_iload hx9 hb9 dL_law_1186 (lv_at hl 4 rfl) ?_
  refine lv_iconst (v := 2) hx9 hb9 dL_law_1188 (by decide) ?_
  refine lv_iadd hx9 hb9 dL_law_1189 ?_
  refine va_sld (A := A0 s) hx9 hb9 hX hbl hbA hS v2 dL_law_1190 ?_
  refine l_Vi (As := [.int (xs (i + 1).toNatClampNeg), .int (xs (i + 2).toNatClampNeg)]) S (M11_gaps l D cy s.heap.size (Aw s.heap.size 110) false ex) gL_11_gaps rfl rfl rfl cdL_11_gaps ⟨Nat.le_of_ble_eq_true rfl, Nat.le_of_ble_eq_true rfl⟩ I1 (Nat.le_refl _) (x_ok L0.1).1 clX11 rfl rfl hl.1 rfl (Nat.le_of_ble_eq_true rfl) dL_law_1191 ⟨Nat.le_trans (Nat.add_le_add_right hc.1 _) (Nat.le_of_ble_eq_true rfl), Nat.le_trans (Nat.add_le_add_right hc.2 _) (Nat.le_of_ble_eq_true rfl)⟩ (fun H1 locs1 J1 hk1 => ?_)
  have I2 := LM_kept I2 (A := Aw s.heap.size 110) (fun i hi z => by have := z.2; omega) hk1 J1.2.2.1
  have I3 := LM_kept I3 (A := Aw s.heap.size 110) (fun i hi z => by have := z.2; omega) hk1 J1.2.2.1
  have hS := I2.2.2.1
  refine lv_pop hx9 hb9 dL_law_1194 rfl ?_
  refine lv_aload_n hx9 hb9 dL_law_1195 rfl (lv_at hl 2 rfl) ?_
  refine lv_aload_n hx9 hb9 dL_law_1196 rfl (lv_at hl 0 rfl) ?_
  refine lv_iload hx9 hb9 dL_law_1197 (lv_at hl 4 rfl) ?_
  refine lv_iconst (v := 1) hx9 hb9 dL_law_1199 (by decide) ?_
  refine lv_iadd hx9 hb9 dL_law_1200 ?_
  refine va_sld (A := A0 s) hx9 hb9 hX hbl hbA hS v1 dL_law_1201 ?_
  refine lv_aload_n hx9 hb9 dL_law_1202 rfl (lv_at hl 0 rfl) ?_
  refine lv_iload hx9 hb9 dL_law_1203 (lv_at hl 4 rfl) ?_
  refine lv_iconst (v := 2) hx9 hb9 dL_law_1205 (by decide) ?_
  refine lv_iadd hx9 hb9 dL_law_1206 ?_
  refine va_sld (A := A0 s) hx9 hb9 hX hbl hbA hS v2 dL_law_1207 ?_
  refine l_Vi (As := [.int (xs (i + 1).toNatClampNeg), .int (xs (i + 2).toNatClampNeg)]) S (M12_gaps l D cy (s.heap.size + 110) (Aw (s.heap.size + 110) 43) false em) gL_12_gaps rfl rfl rfl cdL_12_gaps ⟨Nat.le_of_ble_eq_true rfl, Nat.le_of_ble_eq_true rfl⟩ I2 (Nat.le_add_right _ _) (m_ok L0.2.1).1 clX12 rfl rfl hl.1 rfl (Nat.le_of_ble_eq_true rfl) dL_law_1208 ⟨Nat.le_trans (Nat.add_le_add_right hc.1 _) (Nat.le_of_ble_eq_true rfl), Nat.le_trans (Nat.add_le_add_right hc.2 _) (Nat.le_of_ble_eq_true rfl)⟩ (fun H2 locs2 J2 hk2 => ?_)
  have J1 := LM_kept J1 (A := Aw (s.heap.size + 110) 43) (fun i hi z => by have := z.1; omega) hk2 J2.2.2.1
  have I3 := LM_kept I3 (A := Aw (s.heap.size + 110) 43) (fun i hi z => by have := z.2; omega) hk2 J2.2.2.1
  refine lv_pop hx9 hb9 dL_law_1211 rfl ?_
  refine lv_goto (tgt := 1526) hx9 hb9 dL_law_1212 (by decide) ?_
  refine W.widen (k := cl + 1) (n := sl + 6) (Nat.le_succ _) (Nat.le_add_right _ _) ?_
  exact K _ _ _ _ _ _ ⟨J1, J2, I3, L1⟩ hl
set_option maxHeartbeats 1000000 in
theorem lc_1215 (S : CallFix p m c cL_law 7 s #[Value.ref b] lw_tbl RL) (hX : va_X b L xs s s.heap) (hbl : b < s.heap.size) {hx hm : PH} {f : Nat → Int64} (I : LW D cy hx hm f s H locs) {i : Int32} (hin : IN i L) {cl sl : Nat} (hc : cl ≤ 1000 ∧ sl ≤ 20000) (hl : lv_has ls 7 (LV b s i)) (K : ∀ (hx' hm' : PH) (f' : Nat → Int64) (H' : Heap) (locs' : List Loc) (ls' : Array Slot), LW D cy hx' hm' f' s H' locs' → lv_has ls' 7 (LV b s i) → W p l e room_1 s m #[Value.ref b] below meth c H' locs' (cl + 1) (sl + 6) (lw_Z below #[Value.ref b] s) (F0 m 1526 ls' [])) : W p l e room_1 s m #[Value.ref b] below meth c H locs cl sl (lw_Z below #[Value.ref b] s) (F0 m 1215 ls []) := by
  have hbA : ¬ A0 s b := Nat.not_le.mpr hbl
  have hx9 := S.1
  have hb9 := S.2.1
  obtain ⟨I1, I2, I3, L0⟩ := I
  have hS := I1.2.2.1
  obtain ⟨_, v1, v2, v3, v4, v5⟩ := hin
  obtain ⟨a, hx', hm', ex, em, L1⟩ := p_shares L0 (xs (i + 1).toNatClampNeg)
  refine lv_aload_n hx9 hb9 dL_law_1215 rfl (lv_at hl 1 rfl) ?_
  refine lv_aload_n hx9 hb9 dL_law_1216 rfl (lv_at hl 0 rfl) ?_
  refine lv_iload hx9 hb9 dL_law_1217 (lv_at hl 4 rfl) ?_
  refine lv_iconst (v := 1) hx9 hb9 dL_law_1219 (by decide) ?_
  refine lv_iadd hx9 hb9 dL_law_1220 ?_
  refine va_sld (A := A0 s) hx9 hb9 hX hbl hbA hS v1 dL_law_1221 ?_
  refine l_Vi (As := [.int (xs (i + 1).toNatClampNeg)]) S (M11_shares l D cy s.heap.size (Aw s.heap.size 110) false ex) gL_11_shares rfl rfl rfl cdL_11_shares ⟨Nat.le_of_ble_eq_true rfl, Nat.le_of_ble_eq_true rfl⟩ I1 (Nat.le_refl _) (x_ok L0.1).1 clX11 rfl rfl hl.1 rfl (Nat.le_of_ble_eq_true rfl) dL_law_1222 ⟨Nat.le_trans (Nat.add_le_add_right hc.1 _) (Nat.le_of_ble_eq_true rfl), Nat.le_trans (Nat.add_le_add_right hc.2 _) (Nat.le_of_ble_eq_true rfl)⟩ (fun H1 locs1 J1 hk1 => ?_)
  have I2 := LM_kept I2 (A := Aw s.heap.size 110) (fun i hi z => by have := z.2; omega) hk1 J1.2.2.1
  have I3 := LM_kept I3 (A := Aw s.heap.size 110) (fun i hi z => by have := z.2; omega) hk1 J1.2.2.1
  have hS := I2.2.2.1
  refine lv_pop hx9 hb9 dL_law_1225 rfl ?_
  refine lv_aload_n hx9 hb9 dL_law_1226 rfl (lv_at hl 2 rfl) ?_
  refine lv_aload_n hx9 hb9 dL_law_1227 rfl (lv_at hl 0 rfl) ?_
  refine lv_iload hx9 hb9 dL_law_1228 (lv_at hl 4 rfl) ?_
  refine lv_iconst (v := 1) hx9 hb9 dL_law_1230 (by decide) ?_
  refine lv_iadd hx9 hb9 dL_law_1231 ?_
  refine va_sld (A := A0 s) hx9 hb9 hX hbl hbA hS v1 dL_law_1232 ?_
  refine l_Vi (As := [.int (xs (i + 1).toNatClampNeg)]) S (M12_shares l D cy (s.heap.size + 110) (Aw (s.heap.size + 110) 43) false em) gL_12_shares rfl rfl rfl cdL_12_shares ⟨Nat.le_of_ble_eq_true rfl, Nat.le_of_ble_eq_true rfl⟩ I2 (Nat.le_add_right _ _) (m_ok L0.2.1).1 clX12 rfl rfl hl.1 rfl (Nat.le_of_ble_eq_true rfl) dL_law_1233 ⟨Nat.le_trans (Nat.add_le_add_right hc.1 _) (Nat.le_of_ble_eq_true rfl), Nat.le_trans (Nat.add_le_add_right hc.2 _) (Nat.le_of_ble_eq_true rfl)⟩ (fun H2 locs2 J2 hk2 => ?_)
  have J1 := LM_kept J1 (A := Aw (s.heap.size + 110) 43) (fun i hi z => by have := z.1; omega) hk2 J2.2.2.1
  have I3 := LM_kept I3 (A := Aw (s.heap.size + 110) 43) (fun i hi z => by have := z.2; omega) hk2 J2.2.2.1
  refine lv_pop hx9 hb9 dL_law_1236 rfl ?_
  refine lv_goto (tgt := 1526) hx9 hb9 dL_law_1237 (by decide) ?_
  refine W.widen (k := cl + 1) (n := sl + 6) (Nat.le_succ _) (Nat.le_add_right _ _) ?_
  exact K _ _ _ _ _ _ ⟨J1, J2, I3, L1⟩ hl
set_option maxHeartbeats 1000000 in
theorem lc_1240 (S : CallFix p m c cL_law 7 s #[Value.ref b] lw_tbl RL) (hX : va_X b L xs s s.heap) (hbl : b < s.heap.size) {hx hm : PH} {f : Nat → Int64} (I : LW D cy hx hm f s H locs) {i : Int32} (hin : IN i L) {cl sl : Nat} (hc : cl ≤ 1000 ∧ sl ≤ 20000) (hl : lv_has ls 7 (LV b s i)) (K : ∀ (hx' hm' : PH) (f' : Nat → Int64) (H' : Heap) (locs' : List Loc) (ls' : Array Slot), LW D cy hx' hm' f' s H' locs' → lv_has ls' 7 (LV b s i) → W p l e room_1 s m #[Value.ref b] below meth c H' locs' (cl + 1) (sl + 6) (lw_Z below #[Value.ref b] s) (F0 m 1526 ls' [])) : W p l e room_1 s m #[Value.ref b] below meth c H locs cl sl (lw_Z below #[Value.ref b] s) (F0 m 1240 ls []) := by
  have hbA : ¬ A0 s b := Nat.not_le.mpr hbl
  have hx9 := S.1
  have hb9 := S.2.1
  obtain ⟨I1, I2, I3, L0⟩ := I
  have hS := I1.2.2.1
  obtain ⟨_, v1, v2, v3, v4, v5⟩ := hin
  obtain ⟨a, hx', hm', ex, em, L1⟩ := p_note L0 (xs (i + 1).toNatClampNeg) (xs (i + 2).toNatClampNeg) (xs (i + 3).toNatClampNeg)
  refine lv_aload_n hx9 hb9 dL_law_1240 rfl (lv_at hl 1 rfl) ?_
  refine lv_aload_n hx9 hb9 dL_law_1241 rfl (lv_at hl 0 rfl) ?_
  refine lv_iload hx9 hb9 dL_law_1242 (lv_at hl 4 rfl) ?_
  refine lv_iconst (v := 1) hx9 hb9 dL_law_1244 (by decide) ?_
  refine lv_iadd hx9 hb9 dL_law_1245 ?_
  refine va_sld (A := A0 s) hx9 hb9 hX hbl hbA hS v1 dL_law_1246 ?_
  refine lv_aload_n hx9 hb9 dL_law_1247 rfl (lv_at hl 0 rfl) ?_
  refine lv_iload hx9 hb9 dL_law_1248 (lv_at hl 4 rfl) ?_
  refine lv_iconst (v := 2) hx9 hb9 dL_law_1250 (by decide) ?_
  refine lv_iadd hx9 hb9 dL_law_1251 ?_
  refine va_sld (A := A0 s) hx9 hb9 hX hbl hbA hS v2 dL_law_1252 ?_
  refine lv_aload_n hx9 hb9 dL_law_1253 rfl (lv_at hl 0 rfl) ?_
  refine lv_iload hx9 hb9 dL_law_1254 (lv_at hl 4 rfl) ?_
  refine lv_iconst (v := 3) hx9 hb9 dL_law_1256 (by decide) ?_
  refine lv_iadd hx9 hb9 dL_law_1257 ?_
  refine va_sld (A := A0 s) hx9 hb9 hX hbl hbA hS v3 dL_law_1258 ?_
  refine l_Vi (As := [.int (xs (i + 1).toNatClampNeg), .int (xs (i + 2).toNatClampNeg), .int (xs (i + 3).toNatClampNeg)]) S (M11_note l D cy s.heap.size (Aw s.heap.size 110) false ex) gL_11_note rfl rfl rfl cdL_11_note ⟨Nat.le_of_ble_eq_true rfl, Nat.le_of_ble_eq_true rfl⟩ I1 (Nat.le_refl _) (x_ok L0.1).1 clX11 rfl rfl hl.1 rfl (Nat.le_of_ble_eq_true rfl) dL_law_1259 ⟨Nat.le_trans (Nat.add_le_add_right hc.1 _) (Nat.le_of_ble_eq_true rfl), Nat.le_trans (Nat.add_le_add_right hc.2 _) (Nat.le_of_ble_eq_true rfl)⟩ (fun H1 locs1 J1 hk1 => ?_)
  have I2 := LM_kept I2 (A := Aw s.heap.size 110) (fun i hi z => by have := z.2; omega) hk1 J1.2.2.1
  have I3 := LM_kept I3 (A := Aw s.heap.size 110) (fun i hi z => by have := z.2; omega) hk1 J1.2.2.1
  have hS := I2.2.2.1
  refine lv_pop hx9 hb9 dL_law_1262 rfl ?_
  refine lv_aload_n hx9 hb9 dL_law_1263 rfl (lv_at hl 2 rfl) ?_
  refine lv_aload_n hx9 hb9 dL_law_1264 rfl (lv_at hl 0 rfl) ?_
  refine lv_iload hx9 hb9 dL_law_1265 (lv_at hl 4 rfl) ?_
  refine lv_iconst (v := 1) hx9 hb9 dL_law_1267 (by decide) ?_
  refine lv_iadd hx9 hb9 dL_law_1268 ?_
  refine va_sld (A := A0 s) hx9 hb9 hX hbl hbA hS v1 dL_law_1269 ?_
  refine lv_aload_n hx9 hb9 dL_law_1270 rfl (lv_at hl 0 rfl) ?_
  refine lv_iload hx9 hb9 dL_law_1271 (lv_at hl 4 rfl) ?_
  refine lv_iconst (v := 2) hx9 hb9 dL_law_1273 (by decide) ?_
  refine lv_iadd hx9 hb9 dL_law_1274 ?_
  refine va_sld (A := A0 s) hx9 hb9 hX hbl hbA hS v2 dL_law_1275 ?_
  refine lv_aload_n hx9 hb9 dL_law_1276 rfl (lv_at hl 0 rfl) ?_
  refine lv_iload hx9 hb9 dL_law_1277 (lv_at hl 4 rfl) ?_
  refine lv_iconst (v := 3) hx9 hb9 dL_law_1279 (by decide) ?_
  refine lv_iadd hx9 hb9 dL_law_1280 ?_
  refine va_sld (A := A0 s) hx9 hb9 hX hbl hbA hS v3 dL_law_1281 ?_
  refine l_Vi (As := [.int (xs (i + 1).toNatClampNeg), .int (xs (i + 2).toNatClampNeg), .int (xs (i + 3).toNatClampNeg)]) S (M12_note l D cy (s.heap.size + 110) (Aw (s.heap.size + 110) 43) false em) gL_12_note rfl rfl rfl cdL_12_note ⟨Nat.le_of_ble_eq_true rfl, Nat.le_of_ble_eq_true rfl⟩ I2 (Nat.le_add_right _ _) (m_ok L0.2.1).1 clX12 rfl rfl hl.1 rfl (Nat.le_of_ble_eq_true rfl) dL_law_1282 ⟨Nat.le_trans (Nat.add_le_add_right hc.1 _) (Nat.le_of_ble_eq_true rfl), Nat.le_trans (Nat.add_le_add_right hc.2 _) (Nat.le_of_ble_eq_true rfl)⟩ (fun H2 locs2 J2 hk2 => ?_)
  have J1 := LM_kept J1 (A := Aw (s.heap.size + 110) 43) (fun i hi z => by have := z.1; omega) hk2 J2.2.2.1
  have I3 := LM_kept I3 (A := Aw (s.heap.size + 110) 43) (fun i hi z => by have := z.2; omega) hk2 J2.2.2.1
  refine lv_pop hx9 hb9 dL_law_1285 rfl ?_
  refine lv_goto (tgt := 1526) hx9 hb9 dL_law_1286 (by decide) ?_
  refine W.widen (k := cl + 1) (n := sl + 6) (Nat.le_succ _) (Nat.le_add_right _ _) ?_
  exact K _ _ _ _ _ _ ⟨J1, J2, I3, L1⟩ hl
set_option maxHeartbeats 1000000 in
theorem lc_1289 (S : CallFix p m c cL_law 7 s #[Value.ref b] lw_tbl RL) (hX : va_X b L xs s s.heap) (hbl : b < s.heap.size) {hx hm : PH} {f : Nat → Int64} (I : LW D cy hx hm f s H locs) {i : Int32} (hin : IN i L) {cl sl : Nat} (hc : cl ≤ 1000 ∧ sl ≤ 20000) (hl : lv_has ls 7 (LV b s i)) (K : ∀ (hx' hm' : PH) (f' : Nat → Int64) (H' : Heap) (locs' : List Loc) (ls' : Array Slot), LW D cy hx' hm' f' s H' locs' → lv_has ls' 7 (LV b s i) → W p l e room_1 s m #[Value.ref b] below meth c H' locs' (cl + 1) (sl + 6) (lw_Z below #[Value.ref b] s) (F0 m 1526 ls' [])) : W p l e room_1 s m #[Value.ref b] below meth c H locs cl sl (lw_Z below #[Value.ref b] s) (F0 m 1289 ls []) := by
  have hbA : ¬ A0 s b := Nat.not_le.mpr hbl
  have hx9 := S.1
  have hb9 := S.2.1
  obtain ⟨I1, I2, I3, L0⟩ := I
  have hS := I1.2.2.1
  obtain ⟨_, v1, v2, v3, v4, v5⟩ := hin
  obtain ⟨a, hx', hm', ex, em, L1⟩ := p_strike L0 (xs (i + 1).toNatClampNeg)
  refine lv_aload_n hx9 hb9 dL_law_1289 rfl (lv_at hl 1 rfl) ?_
  refine lv_aload_n hx9 hb9 dL_law_1290 rfl (lv_at hl 0 rfl) ?_
  refine lv_iload hx9 hb9 dL_law_1291 (lv_at hl 4 rfl) ?_
  refine lv_iconst (v := 1) hx9 hb9 dL_law_1293 (by decide) ?_
  refine lv_iadd hx9 hb9 dL_law_1294 ?_
  refine va_sld (A := A0 s) hx9 hb9 hX hbl hbA hS v1 dL_law_1295 ?_
  refine l_Vi (As := [.int (xs (i + 1).toNatClampNeg)]) S (M11_strike l D cy s.heap.size (Aw s.heap.size 110) false ex) gL_11_strike rfl rfl rfl cdL_11_strike ⟨Nat.le_of_ble_eq_true rfl, Nat.le_of_ble_eq_true rfl⟩ I1 (Nat.le_refl _) (x_ok L0.1).1 clX11 rfl rfl hl.1 rfl (Nat.le_of_ble_eq_true rfl) dL_law_1296 ⟨Nat.le_trans (Nat.add_le_add_right hc.1 _) (Nat.le_of_ble_eq_true rfl), Nat.le_trans (Nat.add_le_add_right hc.2 _) (Nat.le_of_ble_eq_true rfl)⟩ (fun H1 locs1 J1 hk1 => ?_)
  have I2 := LM_kept I2 (A := Aw s.heap.size 110) (fun i hi z => by have := z.2; omega) hk1 J1.2.2.1
  have I3 := LM_kept I3 (A := Aw s.heap.size 110) (fun i hi z => by have := z.2; omega) hk1 J1.2.2.1
  have hS := I2.2.2.1
  refine lv_pop hx9 hb9 dL_law_1299 rfl ?_
  refine lv_aload_n hx9 hb9 dL_law_1300 rfl (lv_at hl 2 rfl) ?_
  refine lv_aload_n hx9 hb9 dL_law_1301 rfl (lv_at hl 0 rfl) ?_
  refine lv_iload hx9 hb9 dL_law_1302 (lv_at hl 4 rfl) ?_
  refine lv_iconst (v := 1) hx9 hb9 dL_law_1304 (by decide) ?_
  refine lv_iadd hx9 hb9 dL_law_1305 ?_
  refine va_sld (A := A0 s) hx9 hb9 hX hbl hbA hS v1 dL_law_1306 ?_
  refine l_Vi (As := [.int (xs (i + 1).toNatClampNeg)]) S (M12_strike l D cy (s.heap.size + 110) (Aw (s.heap.size + 110) 43) false em) gL_12_strike rfl rfl rfl cdL_12_strike ⟨Nat.le_of_ble_eq_true rfl, Nat.le_of_ble_eq_true rfl⟩ I2 (Nat.le_add_right _ _) (m_ok L0.2.1).1 clX12 rfl rfl hl.1 rfl (Nat.le_of_ble_eq_true rfl) dL_law_1307 ⟨Nat.le_trans (Nat.add_le_add_right hc.1 _) (Nat.le_of_ble_eq_true rfl), Nat.le_trans (Nat.add_le_add_right hc.2 _) (Nat.le_of_ble_eq_true rfl)⟩ (fun H2 locs2 J2 hk2 => ?_)
  have J1 := LM_kept J1 (A := Aw (s.heap.size + 110) 43) (fun i hi z => by have := z.1; omega) hk2 J2.2.2.1
  have I3 := LM_kept I3 (A := Aw (s.heap.size + 110) 43) (fun i hi z => by have := z.2; omega) hk2 J2.2.2.1
  refine lv_pop hx9 hb9 dL_law_1310 rfl ?_
  refine lv_goto (tgt := 1526) hx9 hb9 dL_law_1311 (by decide) ?_
  refine W.widen (k := cl + 1) (n := sl + 6) (Nat.le_succ _) (Nat.le_add_right _ _) ?_
  exact K _ _ _ _ _ _ ⟨J1, J2, I3, L1⟩ hl
set_option maxHeartbeats 1000000 in
theorem lc_1314 (S : CallFix p m c cL_law 7 s #[Value.ref b] lw_tbl RL) (hX : va_X b L xs s s.heap) (hbl : b < s.heap.size) {hx hm : PH} {f : Nat → Int64} (I : LW D cy hx hm f s H locs) {i : Int32} (hin : IN i L) {cl sl : Nat} (hc : cl ≤ 1000 ∧ sl ≤ 20000) (hl : lv_has ls 7 (LV b s i)) (K : ∀ (hx' hm' : PH) (f' : Nat → Int64) (H' : Heap) (locs' : List Loc) (ls' : Array Slot), LW D cy hx' hm' f' s H' locs' → lv_has ls' 7 (LV b s i) → W p l e room_1 s m #[Value.ref b] below meth c H' locs' (cl + 1) (sl + 6) (lw_Z below #[Value.ref b] s) (F0 m 1526 ls' [])) : W p l e room_1 s m #[Value.ref b] below meth c H locs cl sl (lw_Z below #[Value.ref b] s) (F0 m 1314 ls []) := by
  have hbA : ¬ A0 s b := Nat.not_le.mpr hbl
  have hx9 := S.1
  have hb9 := S.2.1
  obtain ⟨I1, I2, I3, L0⟩ := I
  have hS := I1.2.2.1
  obtain ⟨_, v1, v2, v3, v4, v5⟩ := hin
  obtain ⟨a, hx', hm', ex, em, L1⟩ := p_known L0 (xs (i + 1).toNatClampNeg)
  refine lv_aload_n hx9 hb9 dL_law_1314 rfl (lv_at hl 1 rfl) ?_
  refine lv_aload_n hx9 hb9 dL_law_1315 rfl (lv_at hl 0 rfl) ?_
  refine lv_iload hx9 hb9 dL_law_1316 (lv_at hl 4 rfl) ?_
  refine lv_iconst (v := 1) hx9 hb9 dL_law_1318 (by decide) ?_
  refine lv_iadd hx9 hb9 dL_law_1319 ?_
  refine va_sld (A := A0 s) hx9 hb9 hX hbl hbA hS v1 dL_law_1320 ?_
  refine l_Vi (As := [.int (xs (i + 1).toNatClampNeg)]) S (M11_known l D cy s.heap.size (Aw s.heap.size 110) false ex) gL_11_known rfl rfl rfl cdL_11_known ⟨Nat.le_of_ble_eq_true rfl, Nat.le_of_ble_eq_true rfl⟩ I1 (Nat.le_refl _) (x_ok L0.1).1 clX11 rfl rfl hl.1 rfl (Nat.le_of_ble_eq_true rfl) dL_law_1321 ⟨Nat.le_trans (Nat.add_le_add_right hc.1 _) (Nat.le_of_ble_eq_true rfl), Nat.le_trans (Nat.add_le_add_right hc.2 _) (Nat.le_of_ble_eq_true rfl)⟩ (fun H1 locs1 J1 hk1 => ?_)
  have I2 := LM_kept I2 (A := Aw s.heap.size 110) (fun i hi z => by have := z.2; omega) hk1 J1.2.2.1
  have I3 := LM_kept I3 (A := Aw s.heap.size 110) (fun i hi z => by have := z.2; omega) hk1 J1.2.2.1
  have hS := I2.2.2.1
  refine lv_pop hx9 hb9 dL_law_1324 rfl ?_
  refine lv_aload_n hx9 hb9 dL_law_1325 rfl (lv_at hl 2 rfl) ?_
  refine lv_aload_n hx9 hb9 dL_law_1326 rfl (lv_at hl 0 rfl) ?_
  refine lv_iload hx9 hb9 dL_law_1327 (lv_at hl 4 rfl) ?_
  refine lv_iconst (v := 1) hx9 hb9 dL_law_1329 (by decide) ?_
  refine lv_iadd hx9 hb9 dL_law_1330 ?_
  refine va_sld (A := A0 s) hx9 hb9 hX hbl hbA hS v1 dL_law_1331 ?_
  refine l_Vi (As := [.int (xs (i + 1).toNatClampNeg)]) S (M12_known l D cy (s.heap.size + 110) (Aw (s.heap.size + 110) 43) false em) gL_12_known rfl rfl rfl cdL_12_known ⟨Nat.le_of_ble_eq_true rfl, Nat.le_of_ble_eq_true rfl⟩ I2 (Nat.le_add_right _ _) (m_ok L0.2.1).1 clX12 rfl rfl hl.1 rfl (Nat.le_of_ble_eq_true rfl) dL_law_1332 ⟨Nat.le_trans (Nat.add_le_add_right hc.1 _) (Nat.le_of_ble_eq_true rfl), Nat.le_trans (Nat.add_le_add_right hc.2 _) (Nat.le_of_ble_eq_true rfl)⟩ (fun H2 locs2 J2 hk2 => ?_)
  have J1 := LM_kept J1 (A := Aw (s.heap.size + 110) 43) (fun i hi z => by have := z.1; omega) hk2 J2.2.2.1
  have I3 := LM_kept I3 (A := Aw (s.heap.size + 110) 43) (fun i hi z => by have := z.2; omega) hk2 J2.2.2.1
  refine lv_pop hx9 hb9 dL_law_1335 rfl ?_
  refine lv_goto (tgt := 1526) hx9 hb9 dL_law_1336 (by decide) ?_
  refine W.widen (k := cl + 1) (n := sl + 6) (Nat.le_succ _) (Nat.le_add_right _ _) ?_
  exact K _ _ _ _ _ _ ⟨J1, J2, I3, L1⟩ hl
set_option maxHeartbeats 1000000 in
theorem lc_1339 (S : CallFix p m c cL_law 7 s #[Value.ref b] lw_tbl RL) (hX : va_X b L xs s s.heap) (hbl : b < s.heap.size) {hx hm : PH} {f : Nat → Int64} (I : LW D cy hx hm f s H locs) {i : Int32} (hin : IN i L) {cl sl : Nat} (hc : cl ≤ 1000 ∧ sl ≤ 20000) (hl : lv_has ls 7 (LV b s i)) (K : ∀ (hx' hm' : PH) (f' : Nat → Int64) (H' : Heap) (locs' : List Loc) (ls' : Array Slot), LW D cy hx' hm' f' s H' locs' → lv_has ls' 7 (LV b s i) → W p l e room_1 s m #[Value.ref b] below meth c H' locs' (cl + 1) (sl + 6) (lw_Z below #[Value.ref b] s) (F0 m 1526 ls' [])) : W p l e room_1 s m #[Value.ref b] below meth c H locs cl sl (lw_Z below #[Value.ref b] s) (F0 m 1339 ls []) := by
  have hbA : ¬ A0 s b := Nat.not_le.mpr hbl
  have hx9 := S.1
  have hb9 := S.2.1
  obtain ⟨I1, I2, I3, L0⟩ := I
  have hS := I1.2.2.1
  obtain ⟨_, v1, v2, v3, v4, v5⟩ := hin
  obtain ⟨a, hx', hm', ex, em, L1⟩ := p_locals L0 (xs (i + 1).toNatClampNeg)
  refine lv_aload_n hx9 hb9 dL_law_1339 rfl (lv_at hl 1 rfl) ?_
  refine lv_aload_n hx9 hb9 dL_law_1340 rfl (lv_at hl 0 rfl) ?_
  refine lv_iload hx9 hb9 dL_law_1341 (lv_at hl 4 rfl) ?_
  refine lv_iconst (v := 1) hx9 hb9 dL_law_1343 (by decide) ?_
  refine lv_iadd hx9 hb9 dL_law_1344 ?_
  refine va_sld (A := A0 s) hx9 hb9 hX hbl hbA hS v1 dL_law_1345 ?_
  refine l_Vi (As := [.int (xs (i + 1).toNatClampNeg)]) S (M11_locals l D cy s.heap.size (Aw s.heap.size 110) false ex) gL_11_locals rfl rfl rfl cdL_11_locals ⟨Nat.le_of_ble_eq_true rfl, Nat.le_of_ble_eq_true rfl⟩ I1 (Nat.le_refl _) (x_ok L0.1).1 clX11 rfl rfl hl.1 rfl (Nat.le_of_ble_eq_true rfl) dL_law_1346 ⟨Nat.le_trans (Nat.add_le_add_right hc.1 _) (Nat.le_of_ble_eq_true rfl), Nat.le_trans (Nat.add_le_add_right hc.2 _) (Nat.le_of_ble_eq_true rfl)⟩ (fun H1 locs1 J1 hk1 => ?_)
  have I2 := LM_kept I2 (A := Aw s.heap.size 110) (fun i hi z => by have := z.2; omega) hk1 J1.2.2.1
  have I3 := LM_kept I3 (A := Aw s.heap.size 110) (fun i hi z => by have := z.2; omega) hk1 J1.2.2.1
  have hS := I2.2.2.1
  refine lv_pop hx9 hb9 dL_law_1349 rfl ?_
  refine lv_aload_n hx9 hb9 dL_law_1350 rfl (lv_at hl 2 rfl) ?_
  refine lv_aload_n hx9 hb9 dL_law_1351 rfl (lv_at hl 0 rfl) ?_
  refine lv_iload hx9 hb9 dL_law_1352 (lv_at hl 4 rfl) ?_
  refine lv_iconst (v := 1) hx9 hb9 dL_law_1354 (by decide) ?_
  refine lv_iadd hx9 hb9 dL_law_1355 ?_
  refine va_sld (A := A0 s) hx9 hb9 hX hbl hbA hS v1 dL_law_1356 ?_
  refine l_Vi (As := [.int (xs (i + 1).toNatClampNeg)]) S (M12_locals l D cy (s.heap.size + 110) (Aw (s.heap.size + 110) 43) false em) gL_12_locals rfl rfl rfl cdL_12_locals ⟨Nat.le_of_ble_eq_true rfl, Nat.le_of_ble_eq_true rfl⟩ I2 (Nat.le_add_right _ _) (m_ok L0.2.1).1 clX12 rfl rfl hl.1 rfl (Nat.le_of_ble_eq_true rfl) dL_law_1357 ⟨Nat.le_trans (Nat.add_le_add_right hc.1 _) (Nat.le_of_ble_eq_true rfl), Nat.le_trans (Nat.add_le_add_right hc.2 _) (Nat.le_of_ble_eq_true rfl)⟩ (fun H2 locs2 J2 hk2 => ?_)
  have J1 := LM_kept J1 (A := Aw (s.heap.size + 110) 43) (fun i hi z => by have := z.1; omega) hk2 J2.2.2.1
  have I3 := LM_kept I3 (A := Aw (s.heap.size + 110) 43) (fun i hi z => by have := z.2; omega) hk2 J2.2.2.1
  refine lv_pop hx9 hb9 dL_law_1360 rfl ?_
  refine lv_goto (tgt := 1526) hx9 hb9 dL_law_1361 (by decide) ?_
  refine W.widen (k := cl + 1) (n := sl + 6) (Nat.le_succ _) (Nat.le_add_right _ _) ?_
  exact K _ _ _ _ _ _ ⟨J1, J2, I3, L1⟩ hl
set_option maxHeartbeats 1000000 in
theorem lc_1364 (S : CallFix p m c cL_law 7 s #[Value.ref b] lw_tbl RL) (hX : va_X b L xs s s.heap) (hbl : b < s.heap.size) {hx hm : PH} {f : Nat → Int64} (I : LW D cy hx hm f s H locs) {i : Int32} (hin : IN i L) {cl sl : Nat} (hc : cl ≤ 1000 ∧ sl ≤ 20000) (hl : lv_has ls 7 (LV b s i)) (K : ∀ (hx' hm' : PH) (f' : Nat → Int64) (H' : Heap) (locs' : List Loc) (ls' : Array Slot), LW D cy hx' hm' f' s H' locs' → lv_has ls' 7 (LV b s i) → W p l e room_1 s m #[Value.ref b] below meth c H' locs' (cl + 1) (sl + 6) (lw_Z below #[Value.ref b] s) (F0 m 1526 ls' [])) : W p l e room_1 s m #[Value.ref b] below meth c H locs cl sl (lw_Z below #[Value.ref b] s) (F0 m 1364 ls []) := by
  have hbA : ¬ A0 s b := Nat.not_le.mpr hbl
  have hx9 := S.1
  have hb9 := S.2.1
  obtain ⟨I1, I2, I3, L0⟩ := I
  have hS := I1.2.2.1
  obtain ⟨_, v1, v2, v3, v4, v5⟩ := hin
  obtain ⟨a, hx', hm', ex, em, L1⟩ := p_chance L0 (xs (i + 1).toNatClampNeg) (xs (i + 2).toNatClampNeg) (xs (i + 3).toNatClampNeg)
  refine lv_aload_n hx9 hb9 dL_law_1364 rfl (lv_at hl 1 rfl) ?_
  refine lv_aload_n hx9 hb9 dL_law_1365 rfl (lv_at hl 0 rfl) ?_
  refine lv_iload hx9 hb9 dL_law_1366 (lv_at hl 4 rfl) ?_
  refine lv_iconst (v := 1) hx9 hb9 dL_law_1368 (by decide) ?_
  refine lv_iadd hx9 hb9 dL_law_1369 ?_
  refine va_sld (A := A0 s) hx9 hb9 hX hbl hbA hS v1 dL_law_1370 ?_
  refine lv_aload_n hx9 hb9 dL_law_1371 rfl (lv_at hl 0 rfl) ?_
  refine lv_iload hx9 hb9 dL_law_1372 (lv_at hl 4 rfl) ?_
  refine lv_iconst (v := 2) hx9 hb9 dL_law_1374 (by decide) ?_
  refine lv_iadd hx9 hb9 dL_law_1375 ?_
  refine va_sld (A := A0 s) hx9 hb9 hX hbl hbA hS v2 dL_law_1376 ?_
  refine lv_aload_n hx9 hb9 dL_law_1377 rfl (lv_at hl 0 rfl) ?_
  refine lv_iload hx9 hb9 dL_law_1378 (lv_at hl 4 rfl) ?_
  refine lv_iconst (v := 3) hx9 hb9 dL_law_1380 (by decide) ?_
  refine lv_iadd hx9 hb9 dL_law_1381 ?_
  refine va_sld (A := A0 s) hx9 hb9 hX hbl hbA hS v3 dL_law_1382 ?_
  refine l_Vi (As := [.int (xs (i + 1).toNatClampNeg), .int (xs (i + 2).toNatClampNeg), .int (xs (i + 3).toNatClampNeg)]) S (M11_chance l D cy s.heap.size (Aw s.heap.size 110) ex) gL_11_chance rfl rfl rfl cdL_11_chance ⟨Nat.le_of_ble_eq_true rfl, Nat.le_of_ble_eq_true rfl⟩ I1 (Nat.le_refl _) (x_ok L0.1).1 clX11 rfl rfl hl.1 rfl (Nat.le_of_ble_eq_true rfl) dL_law_1383 ⟨Nat.le_trans (Nat.add_le_add_right hc.1 _) (Nat.le_of_ble_eq_true rfl), Nat.le_trans (Nat.add_le_add_right hc.2 _) (Nat.le_of_ble_eq_true rfl)⟩ (fun H1 locs1 J1 hk1 => ?_)
  have I2 := LM_kept I2 (A := Aw s.heap.size 110) (fun i hi z => by have := z.2; omega) hk1 J1.2.2.1
  have I3 := LM_kept I3 (A := Aw s.heap.size 110) (fun i hi z => by have := z.2; omega) hk1 J1.2.2.1
  have hS := I2.2.2.1
  refine lv_pop hx9 hb9 dL_law_1386 rfl ?_
  refine lv_aload_n hx9 hb9 dL_law_1387 rfl (lv_at hl 2 rfl) ?_
  refine lv_aload_n hx9 hb9 dL_law_1388 rfl (lv_at hl 0 rfl) ?_
  refine lv_iload hx9 hb9 dL_law_1389 (lv_at hl 4 rfl) ?_
  refine lv_iconst (v := 1) hx9 hb9 dL_law_1391 (by decide) ?_
  refine lv_iadd hx9 hb9 dL_law_1392 ?_
  refine va_sld (A := A0 s) hx9 hb9 hX hbl hbA hS v1 dL_law_1393 ?_
  refine lv_aload_n hx9 hb9 dL_law_1394 rfl (lv_at hl 0 rfl) ?_
  refine lv_iload hx9 hb9 dL_law_1395 (lv_at hl 4 rfl) ?_
  refine lv_iconst (v := 2) hx9 hb9 dL_law_1397 (by decide) ?_
  refine lv_iadd hx9 hb9 dL_law_1398 ?_
  refine va_sld (A := A0 s) hx9 hb9 hX hbl hbA hS v2 dL_law_1399 ?_
  refine lv_aload_n hx9 hb9 dL_law_1400 rfl (lv_at hl 0 rfl) ?_
  refine lv_iload hx9 hb9 dL_law_1401 (lv_at hl 4 rfl) ?_
  refine lv_iconst (v := 3) hx9 hb9 dL_law_1403 (by decide) ?_
  refine lv_iadd hx9 hb9 dL_law_1404 ?_
  refine va_sld (A := A0 s) hx9 hb9 hX hbl hbA hS v3 dL_law_1405 ?_
  refine l_Vi (As := [.int (xs (i + 1).toNatClampNeg), .int (xs (i + 2).toNatClampNeg), .int (xs (i + 3).toNatClampNeg)]) S (M12_chance l D cy (s.heap.size + 110) (Aw (s.heap.size + 110) 43) false em) gL_12_chance rfl rfl rfl cdL_12_chance ⟨Nat.le_of_ble_eq_true rfl, Nat.le_of_ble_eq_true rfl⟩ I2 (Nat.le_add_right _ _) (m_ok L0.2.1).1 clX12 rfl rfl hl.1 rfl (Nat.le_of_ble_eq_true rfl) dL_law_1406 ⟨Nat.le_trans (Nat.add_le_add_right hc.1 _) (Nat.le_of_ble_eq_true rfl), Nat.le_trans (Nat.add_le_add_right hc.2 _) (Nat.le_of_ble_eq_true rfl)⟩ (fun H2 locs2 J2 hk2 => ?_)
  have J1 := LM_kept J1 (A := Aw (s.heap.size + 110) 43) (fun i hi z => by have := z.1; omega) hk2 J2.2.2.1
  have I3 := LM_kept I3 (A := Aw (s.heap.size + 110) 43) (fun i hi z => by have := z.2; omega) hk2 J2.2.2.1
  refine lv_pop hx9 hb9 dL_law_1409 rfl ?_
  refine lv_goto (tgt := 1526) hx9 hb9 dL_law_1410 (by decide) ?_
  refine W.widen (k := cl + 1) (n := sl + 6) (Nat.le_succ _) (Nat.le_add_right _ _) ?_
  exact K _ _ _ _ _ _ ⟨J1, J2, I3, L1⟩ hl
set_option maxHeartbeats 1000000 in
theorem lc_1413 (S : CallFix p m c cL_law 7 s #[Value.ref b] lw_tbl RL) (hX : va_X b L xs s s.heap) (hbl : b < s.heap.size) {hx hm : PH} {f : Nat → Int64} (I : LW D cy hx hm f s H locs) {i : Int32} (hin : IN i L) {cl sl : Nat} (hc : cl ≤ 1000 ∧ sl ≤ 20000) (hl : lv_has ls 7 (LV b s i)) (K : ∀ (hx' hm' : PH) (f' : Nat → Int64) (H' : Heap) (locs' : List Loc) (ls' : Array Slot), LW D cy hx' hm' f' s H' locs' → lv_has ls' 7 (LV b s i) → W p l e room_1 s m #[Value.ref b] below meth c H' locs' (cl + 1) (sl + 6) (lw_Z below #[Value.ref b] s) (F0 m 1526 ls' [])) : W p l e room_1 s m #[Value.ref b] below meth c H locs cl sl (lw_Z below #[Value.ref b] s) (F0 m 1413 ls []) := by
  have hbA : ¬ A0 s b := Nat.not_le.mpr hbl
  have hx9 := S.1
  have hb9 := S.2.1
  obtain ⟨I1, I2, I3, L0⟩ := I
  have hS := I1.2.2.1
  obtain ⟨_, v1, v2, v3, v4, v5⟩ := hin
  obtain ⟨a, hx', hm', ex, em, L1⟩ := p_tried L0 (xs (i + 1).toNatClampNeg) (xs (i + 2).toNatClampNeg) (xs (i + 3).toNatClampNeg)
  refine lv_aload_n hx9 hb9 dL_law_1413 rfl (lv_at hl 1 rfl) ?_
  refine lv_aload_n hx9 hb9 dL_law_1414 rfl (lv_at hl 0 rfl) ?_
  refine lv_iload hx9 hb9 dL_law_1415 (lv_at hl 4 rfl) ?_
  refine lv_iconst (v := 1) hx9 hb9 dL_law_1417 (by decide) ?_
  refine lv_iadd hx9 hb9 dL_law_1418 ?_
  refine va_sld (A := A0 s) hx9 hb9 hX hbl hbA hS v1 dL_law_1419 ?_
  refine lv_aload_n hx9 hb9 dL_law_1420 rfl (lv_at hl 0 rfl) ?_
  refine lv_iload hx9 hb9 dL_law_1421 (lv_at hl 4 rfl) ?_
  refine lv_iconst (v := 2) hx9 hb9 dL_law_1423 (by decide) ?_
  refine lv_iadd hx9 hb9 dL_law_1424 ?_
  refine va_sld (A := A0 s) hx9 hb9 hX hbl hbA hS v2 dL_law_1425 ?_
  refine lv_aload_n hx9 hb9 dL_law_1426 rfl (lv_at hl 0 rfl) ?_
  refine lv_iload hx9 hb9 dL_law_1427 (lv_at hl 4 rfl) ?_
  refine lv_iconst (v := 3) hx9 hb9 dL_law_1429 (by decide) ?_
  refine lv_iadd hx9 hb9 dL_law_1430 ?_
  refine va_sld (A := A0 s) hx9 hb9 hX hbl hbA hS v3 dL_law_1431 ?_
  refine l_Vi (As := [.int (xs (i + 1).toNatClampNeg), .int (xs (i + 2).toNatClampNeg), .int (xs (i + 3).toNatClampNeg)]) S (M11_tried l D cy s.heap.size (Aw s.heap.size 110) ex) gL_11_tried rfl rfl rfl cdL_11_tried ⟨Nat.le_of_ble_eq_true rfl, Nat.le_of_ble_eq_true rfl⟩ I1 (Nat.le_refl _) (x_ok L0.1).1 clX11 rfl rfl hl.1 rfl (Nat.le_of_ble_eq_true rfl) dL_law_1432 ⟨Nat.le_trans (Nat.add_le_add_right hc.1 _) (Nat.le_of_ble_eq_true rfl), Nat.le_trans (Nat.add_le_add_right hc.2 _) (Nat.le_of_ble_eq_true rfl)⟩ (fun H1 locs1 J1 hk1 => ?_)
  have I2 := LM_kept I2 (A := Aw s.heap.size 110) (fun i hi z => by have := z.2; omega) hk1 J1.2.2.1
  have I3 := LM_kept I3 (A := Aw s.heap.size 110) (fun i hi z => by have := z.2; omega) hk1 J1.2.2.1
  have hS := I2.2.2.1
  refine lv_pop hx9 hb9 dL_law_1435 rfl ?_
  refine lv_aload_n hx9 hb9 dL_law_1436 rfl (lv_at hl 2 rfl) ?_
  refine lv_aload_n hx9 hb9 dL_law_1437 rfl (lv_at hl 0 rfl) ?_
  refine lv_iload hx9 hb9 dL_law_1438 (lv_at hl 4 rfl) ?_
  refine lv_iconst (v := 1) hx9 hb9 dL_law_1440 (by decide) ?_
  refine lv_iadd hx9 hb9 dL_law_1441 ?_
  refine va_sld (A := A0 s) hx9 hb9 hX hbl hbA hS v1 dL_law_1442 ?_
  refine lv_aload_n hx9 hb9 dL_law_1443 rfl (lv_at hl 0 rfl) ?_
  refine lv_iload hx9 hb9 dL_law_1444 (lv_at hl 4 rfl) ?_
  refine lv_iconst (v := 2) hx9 hb9 dL_law_1446 (by decide) ?_
  refine lv_iadd hx9 hb9 dL_law_1447 ?_
  refine va_sld (A := A0 s) hx9 hb9 hX hbl hbA hS v2 dL_law_1448 ?_
  refine lv_aload_n hx9 hb9 dL_law_1449 rfl (lv_at hl 0 rfl) ?_
  refine lv_iload hx9 hb9 dL_law_1450 (lv_at hl 4 rfl) ?_
  refine lv_iconst (v := 3) hx9 hb9 dL_law_1452 (by decide) ?_
  refine lv_iadd hx9 hb9 dL_law_1453 ?_
  refine va_sld (A := A0 s) hx9 hb9 hX hbl hbA hS v3 dL_law_1454 ?_
  refine l_Vi (As := [.int (xs (i + 1).toNatClampNeg), .int (xs (i + 2).toNatClampNeg), .int (xs (i + 3).toNatClampNeg)]) S (M12_tried l D cy (s.heap.size + 110) (Aw (s.heap.size + 110) 43) false em) gL_12_tried rfl rfl rfl cdL_12_tried ⟨Nat.le_of_ble_eq_true rfl, Nat.le_of_ble_eq_true rfl⟩ I2 (Nat.le_add_right _ _) (m_ok L0.2.1).1 clX12 rfl rfl hl.1 rfl (Nat.le_of_ble_eq_true rfl) dL_law_1455 ⟨Nat.le_trans (Nat.add_le_add_right hc.1 _) (Nat.le_of_ble_eq_true rfl), Nat.le_trans (Nat.add_le_add_right hc.2 _) (Nat.le_of_ble_eq_true rfl)⟩ (fun H2 locs2 J2 hk2 => ?_)
  have J1 := LM_kept J1 (A := Aw (s.heap.size + 110) 43) (fun i hi z => by have := z.1; omega) hk2 J2.2.2.1
  have I3 := LM_kept I3 (A := Aw (s.heap.size + 110) 43) (fun i hi z => by have := z.2; omega) hk2 J2.2.2.1
  refine lv_pop hx9 hb9 dL_law_1458 rfl ?_
  refine lv_goto (tgt := 1526) hx9 hb9 dL_law_1459 (by decide) ?_
  refine W.widen (k := cl + 1) (n := sl + 6) (Nat.le_succ _) (Nat.le_add_right _ _) ?_
  exact K _ _ _ _ _ _ ⟨J1, J2, I3, L1⟩ hl
set_option maxHeartbeats 1000000 in
theorem lc_1462 (S : CallFix p m c cL_law 7 s #[Value.ref b] lw_tbl RL) (hX : va_X b L xs s s.heap) (hbl : b < s.heap.size) {hx hm : PH} {f : Nat → Int64} (I : LW D cy hx hm f s H locs) {i : Int32} (hin : IN i L) {cl sl : Nat} (hc : cl ≤ 1000 ∧ sl ≤ 20000) (hl : lv_has ls 7 (LV b s i)) (K : ∀ (hx' hm' : PH) (f' : Nat → Int64) (H' : Heap) (locs' : List Loc) (ls' : Array Slot), LW D cy hx' hm' f' s H' locs' → lv_has ls' 7 (LV b s i) → W p l e room_1 s m #[Value.ref b] below meth c H' locs' (cl + 1) (sl + 6) (lw_Z below #[Value.ref b] s) (F0 m 1526 ls' [])) : W p l e room_1 s m #[Value.ref b] below meth c H locs cl sl (lw_Z below #[Value.ref b] s) (F0 m 1462 ls []) := by
  have hbA : ¬ A0 s b := Nat.not_le.mpr hbl
  have hx9 := S.1
  have hb9 := S.2.1
  obtain ⟨I1, I2, I3, L0⟩ := I
  have hS := I1.2.2.1
  obtain ⟨_, v1, v2, v3, v4, v5⟩ := hin
  obtain ⟨a, hx', hm', ex, em, L1⟩ := p_undo L0 
  refine lv_aload_n hx9 hb9 dL_law_1462 rfl (lv_at hl 1 rfl) ?_
  refine l_Vi (As := []) S (M11_undo l D cy s.heap.size (Aw s.heap.size 110) false ex) gL_11_undo rfl rfl rfl cdL_11_undo ⟨Nat.le_of_ble_eq_true rfl, Nat.le_of_ble_eq_true rfl⟩ I1 (Nat.le_refl _) (x_ok L0.1).1 clX11 rfl rfl hl.1 rfl (Nat.le_of_ble_eq_true rfl) dL_law_1463 ⟨Nat.le_trans (Nat.add_le_add_right hc.1 _) (Nat.le_of_ble_eq_true rfl), Nat.le_trans (Nat.add_le_add_right hc.2 _) (Nat.le_of_ble_eq_true rfl)⟩ (fun H1 locs1 J1 hk1 => ?_)
  have I2 := LM_kept I2 (A := Aw s.heap.size 110) (fun i hi z => by have := z.2; omega) hk1 J1.2.2.1
  have I3 := LM_kept I3 (A := Aw s.heap.size 110) (fun i hi z => by have := z.2; omega) hk1 J1.2.2.1
  have hS := I2.2.2.1
  refine lv_pop hx9 hb9 dL_law_1466 rfl ?_
  refine lv_aload_n hx9 hb9 dL_law_1467 rfl (lv_at hl 2 rfl) ?_
  refine l_Vi (As := []) S (M12_undo l D cy (s.heap.size + 110) (Aw (s.heap.size + 110) 43) false em) gL_12_undo rfl rfl rfl cdL_12_undo ⟨Nat.le_of_ble_eq_true rfl, Nat.le_of_ble_eq_true rfl⟩ I2 (Nat.le_add_right _ _) (m_ok L0.2.1).1 clX12 rfl rfl hl.1 rfl (Nat.le_of_ble_eq_true rfl) dL_law_1468 ⟨Nat.le_trans (Nat.add_le_add_right hc.1 _) (Nat.le_of_ble_eq_true rfl), Nat.le_trans (Nat.add_le_add_right hc.2 _) (Nat.le_of_ble_eq_true rfl)⟩ (fun H2 locs2 J2 hk2 => ?_)
  have J1 := LM_kept J1 (A := Aw (s.heap.size + 110) 43) (fun i hi z => by have := z.1; omega) hk2 J2.2.2.1
  have I3 := LM_kept I3 (A := Aw (s.heap.size + 110) 43) (fun i hi z => by have := z.2; omega) hk2 J2.2.2.1
  refine lv_pop hx9 hb9 dL_law_1471 rfl ?_
  refine lv_goto (tgt := 1526) hx9 hb9 dL_law_1472 (by decide) ?_
  refine W.widen (k := cl + 1) (n := sl + 6) (Nat.le_succ _) (Nat.le_add_right _ _) ?_
  exact K _ _ _ _ _ _ ⟨J1, J2, I3, L1⟩ hl
set_option maxHeartbeats 1000000 in
theorem lc_1475 (S : CallFix p m c cL_law 7 s #[Value.ref b] lw_tbl RL) (hX : va_X b L xs s s.heap) (hbl : b < s.heap.size) {hx hm : PH} {f : Nat → Int64} (I : LW D cy hx hm f s H locs) {i : Int32} (hin : IN i L) {cl sl : Nat} (hc : cl ≤ 1000 ∧ sl ≤ 20000) (hl : lv_has ls 7 (LV b s i)) (K : ∀ (hx' hm' : PH) (f' : Nat → Int64) (H' : Heap) (locs' : List Loc) (ls' : Array Slot), LW D cy hx' hm' f' s H' locs' → lv_has ls' 7 (LV b s i) → W p l e room_1 s m #[Value.ref b] below meth c H' locs' (cl + 1) (sl + 6) (lw_Z below #[Value.ref b] s) (F0 m 1526 ls' [])) : W p l e room_1 s m #[Value.ref b] below meth c H locs cl sl (lw_Z below #[Value.ref b] s) (F0 m 1475 ls []) := by
  have hbA : ¬ A0 s b := Nat.not_le.mpr hbl
  have hx9 := S.1
  have hb9 := S.2.1
  obtain ⟨I1, I2, I3, L0⟩ := I
  have hS := I1.2.2.1
  obtain ⟨_, v1, v2, v3, v4, v5⟩ := hin
  obtain ⟨a, hx', hm', ex, em, L1⟩ := p_keep L0 
  refine lv_aload_n hx9 hb9 dL_law_1475 rfl (lv_at hl 1 rfl) ?_
  refine l_Vi (As := []) S (M11_keep l D cy s.heap.size (Aw s.heap.size 110) ex) gL_11_keep rfl rfl rfl cdL_11_keep ⟨Nat.le_of_ble_eq_true rfl, Nat.le_of_ble_eq_true rfl⟩ I1 (Nat.le_refl _) (x_ok L0.1).1 clX11 rfl rfl hl.1 rfl (Nat.le_of_ble_eq_true rfl) dL_law_1476 ⟨Nat.le_trans (Nat.add_le_add_right hc.1 _) (Nat.le_of_ble_eq_true rfl), Nat.le_trans (Nat.add_le_add_right hc.2 _) (Nat.le_of_ble_eq_true rfl)⟩ (fun H1 locs1 J1 hk1 => ?_)
  have I2 := LM_kept I2 (A := Aw s.heap.size 110) (fun i hi z => by have := z.2; omega) hk1 J1.2.2.1
  have I3 := LM_kept I3 (A := Aw s.heap.size 110) (fun i hi z => by have := z.2; omega) hk1 J1.2.2.1
  have hS := I2.2.2.1
  refine lv_pop hx9 hb9 dL_law_1479 rfl ?_
  refine lv_aload_n hx9 hb9 dL_law_1480 rfl (lv_at hl 2 rfl) ?_
  refine l_Vi (As := []) S (M12_keep l D cy (s.heap.size + 110) (Aw (s.heap.size + 110) 43) false em) gL_12_keep rfl rfl rfl cdL_12_keep ⟨Nat.le_of_ble_eq_true rfl, Nat.le_of_ble_eq_true rfl⟩ I2 (Nat.le_add_right _ _) (m_ok L0.2.1).1 clX12 rfl rfl hl.1 rfl (Nat.le_of_ble_eq_true rfl) dL_law_1481 ⟨Nat.le_trans (Nat.add_le_add_right hc.1 _) (Nat.le_of_ble_eq_true rfl), Nat.le_trans (Nat.add_le_add_right hc.2 _) (Nat.le_of_ble_eq_true rfl)⟩ (fun H2 locs2 J2 hk2 => ?_)
  have J1 := LM_kept J1 (A := Aw (s.heap.size + 110) 43) (fun i hi z => by have := z.1; omega) hk2 J2.2.2.1
  have I3 := LM_kept I3 (A := Aw (s.heap.size + 110) 43) (fun i hi z => by have := z.2; omega) hk2 J2.2.2.1
  refine lv_pop hx9 hb9 dL_law_1484 rfl ?_
  refine lv_goto (tgt := 1526) hx9 hb9 dL_law_1485 (by decide) ?_
  refine W.widen (k := cl + 1) (n := sl + 6) (Nat.le_succ _) (Nat.le_add_right _ _) ?_
  exact K _ _ _ _ _ _ ⟨J1, J2, I3, L1⟩ hl
set_option maxHeartbeats 1000000 in
theorem lc_1488 (S : CallFix p m c cL_law 7 s #[Value.ref b] lw_tbl RL) (hX : va_X b L xs s s.heap) (hbl : b < s.heap.size) {hx hm : PH} {f : Nat → Int64} (I : LW D cy hx hm f s H locs) {i : Int32} (hin : IN i L) {cl sl : Nat} (hc : cl ≤ 1000 ∧ sl ≤ 20000) (hl : lv_has ls 7 (LV b s i)) (K : ∀ (hx' hm' : PH) (f' : Nat → Int64) (H' : Heap) (locs' : List Loc) (ls' : Array Slot), LW D cy hx' hm' f' s H' locs' → lv_has ls' 7 (LV b s i) → W p l e room_1 s m #[Value.ref b] below meth c H' locs' (cl + 1) (sl + 6) (lw_Z below #[Value.ref b] s) (F0 m 1526 ls' [])) : W p l e room_1 s m #[Value.ref b] below meth c H locs cl sl (lw_Z below #[Value.ref b] s) (F0 m 1488 ls []) := by
  have hbA : ¬ A0 s b := Nat.not_le.mpr hbl
  have hx9 := S.1
  have hb9 := S.2.1
  obtain ⟨I1, I2, I3, L0⟩ := I
  have hS := I1.2.2.1
  obtain ⟨_, v1, v2, v3, v4, v5⟩ := hin
  obtain ⟨a, hx', hm', ex, em, L1⟩ := p_back L0 
  refine lv_aload_n hx9 hb9 dL_law_1488 rfl (lv_at hl 1 rfl) ?_
  refine l_Vi (As := []) S (M11_back l D cy s.heap.size (Aw s.heap.size 110) ex) gL_11_back rfl rfl rfl cdL_11_back ⟨Nat.le_of_ble_eq_true rfl, Nat.le_of_ble_eq_true rfl⟩ I1 (Nat.le_refl _) (x_ok L0.1).1 clX11 rfl rfl hl.1 rfl (Nat.le_of_ble_eq_true rfl) dL_law_1489 ⟨Nat.le_trans (Nat.add_le_add_right hc.1 _) (Nat.le_of_ble_eq_true rfl), Nat.le_trans (Nat.add_le_add_right hc.2 _) (Nat.le_of_ble_eq_true rfl)⟩ (fun H1 locs1 J1 hk1 => ?_)
  have I2 := LM_kept I2 (A := Aw s.heap.size 110) (fun i hi z => by have := z.2; omega) hk1 J1.2.2.1
  have I3 := LM_kept I3 (A := Aw s.heap.size 110) (fun i hi z => by have := z.2; omega) hk1 J1.2.2.1
  have hS := I2.2.2.1
  refine lv_pop hx9 hb9 dL_law_1492 rfl ?_
  refine lv_aload_n hx9 hb9 dL_law_1493 rfl (lv_at hl 2 rfl) ?_
  refine l_Vi (As := []) S (M12_back l D cy (s.heap.size + 110) (Aw (s.heap.size + 110) 43) false em) gL_12_back rfl rfl rfl cdL_12_back ⟨Nat.le_of_ble_eq_true rfl, Nat.le_of_ble_eq_true rfl⟩ I2 (Nat.le_add_right _ _) (m_ok L0.2.1).1 clX12 rfl rfl hl.1 rfl (Nat.le_of_ble_eq_true rfl) dL_law_1494 ⟨Nat.le_trans (Nat.add_le_add_right hc.1 _) (Nat.le_of_ble_eq_true rfl), Nat.le_trans (Nat.add_le_add_right hc.2 _) (Nat.le_of_ble_eq_true rfl)⟩ (fun H2 locs2 J2 hk2 => ?_)
  have J1 := LM_kept J1 (A := Aw (s.heap.size + 110) 43) (fun i hi z => by have := z.1; omega) hk2 J2.2.2.1
  have I3 := LM_kept I3 (A := Aw (s.heap.size + 110) 43) (fun i hi z => by have := z.2; omega) hk2 J2.2.2.1
  refine lv_pop hx9 hb9 dL_law_1497 rfl ?_
  refine lv_goto (tgt := 1526) hx9 hb9 dL_law_1498 (by decide) ?_
  refine W.widen (k := cl + 1) (n := sl + 6) (Nat.le_succ _) (Nat.le_add_right _ _) ?_
  exact K _ _ _ _ _ _ ⟨J1, J2, I3, L1⟩ hl
set_option maxHeartbeats 1000000 in
theorem lc_1501 (S : CallFix p m c cL_law 7 s #[Value.ref b] lw_tbl RL) (hX : va_X b L xs s s.heap) (hbl : b < s.heap.size) {hx hm : PH} {f : Nat → Int64} (I : LW D cy hx hm f s H locs) {i : Int32} (hin : IN i L) {cl sl : Nat} (hc : cl ≤ 1000 ∧ sl ≤ 20000) (hl : lv_has ls 7 (LV b s i)) (K : ∀ (hx' hm' : PH) (f' : Nat → Int64) (H' : Heap) (locs' : List Loc) (ls' : Array Slot), LW D cy hx' hm' f' s H' locs' → lv_has ls' 7 (LV b s i) → W p l e room_1 s m #[Value.ref b] below meth c H' locs' (cl + 1) (sl + 6) (lw_Z below #[Value.ref b] s) (F0 m 1526 ls' [])) : W p l e room_1 s m #[Value.ref b] below meth c H locs cl sl (lw_Z below #[Value.ref b] s) (F0 m 1501 ls []) := by
  have hbA : ¬ A0 s b := Nat.not_le.mpr hbl
  have hx9 := S.1
  have hb9 := S.2.1
  obtain ⟨I1, I2, I3, L0⟩ := I
  have hS := I1.2.2.1
  obtain ⟨_, v1, v2, v3, v4, v5⟩ := hin
  obtain ⟨a, hx', hm', ex, em, L1⟩ := p_count L0 (xs (i + 1).toNatClampNeg)
  refine lv_aload_n hx9 hb9 dL_law_1501 rfl (lv_at hl 1 rfl) ?_
  refine lv_aload_n hx9 hb9 dL_law_1502 rfl (lv_at hl 0 rfl) ?_
  refine lv_iload hx9 hb9 dL_law_1503 (lv_at hl 4 rfl) ?_
  refine lv_iconst (v := 1) hx9 hb9 dL_law_1505 (by decide) ?_
  refine lv_iadd hx9 hb9 dL_law_1506 ?_
  refine va_sld (A := A0 s) hx9 hb9 hX hbl hbA hS v1 dL_law_1507 ?_
  refine l_Vi (As := [.int (xs (i + 1).toNatClampNeg)]) S (M11_count l D cy s.heap.size (Aw s.heap.size 110) false ex) gL_11_count rfl rfl rfl cdL_11_count ⟨Nat.le_of_ble_eq_true rfl, Nat.le_of_ble_eq_true rfl⟩ I1 (Nat.le_refl _) (x_ok L0.1).1 clX11 rfl rfl hl.1 rfl (Nat.le_of_ble_eq_true rfl) dL_law_1508 ⟨Nat.le_trans (Nat.add_le_add_right hc.1 _) (Nat.le_of_ble_eq_true rfl), Nat.le_trans (Nat.add_le_add_right hc.2 _) (Nat.le_of_ble_eq_true rfl)⟩ (fun H1 locs1 J1 hk1 => ?_)
  have I2 := LM_kept I2 (A := Aw s.heap.size 110) (fun i hi z => by have := z.2; omega) hk1 J1.2.2.1
  have I3 := LM_kept I3 (A := Aw s.heap.size 110) (fun i hi z => by have := z.2; omega) hk1 J1.2.2.1
  have hS := I2.2.2.1
  refine lv_pop hx9 hb9 dL_law_1511 rfl ?_
  refine lv_aload_n hx9 hb9 dL_law_1512 rfl (lv_at hl 2 rfl) ?_
  refine lv_aload_n hx9 hb9 dL_law_1513 rfl (lv_at hl 0 rfl) ?_
  refine lv_iload hx9 hb9 dL_law_1514 (lv_at hl 4 rfl) ?_
  refine lv_iconst (v := 1) hx9 hb9 dL_law_1516 (by decide) ?_
  refine lv_iadd hx9 hb9 dL_law_1517 ?_
  refine va_sld (A := A0 s) hx9 hb9 hX hbl hbA hS v1 dL_law_1518 ?_
  refine l_Vi (As := [.int (xs (i + 1).toNatClampNeg)]) S (M12_count l D cy (s.heap.size + 110) (Aw (s.heap.size + 110) 43) false em) gL_12_count rfl rfl rfl cdL_12_count ⟨Nat.le_of_ble_eq_true rfl, Nat.le_of_ble_eq_true rfl⟩ I2 (Nat.le_add_right _ _) (m_ok L0.2.1).1 clX12 rfl rfl hl.1 rfl (Nat.le_of_ble_eq_true rfl) dL_law_1519 ⟨Nat.le_trans (Nat.add_le_add_right hc.1 _) (Nat.le_of_ble_eq_true rfl), Nat.le_trans (Nat.add_le_add_right hc.2 _) (Nat.le_of_ble_eq_true rfl)⟩ (fun H2 locs2 J2 hk2 => ?_)
  have J1 := LM_kept J1 (A := Aw (s.heap.size + 110) 43) (fun i hi z => by have := z.1; omega) hk2 J2.2.2.1
  have I3 := LM_kept I3 (A := Aw (s.heap.size + 110) 43) (fun i hi z => by have := z.2; omega) hk2 J2.2.2.1
  refine lv_pop hx9 hb9 dL_law_1522 rfl ?_
  refine lv_goto (tgt := 1526) hx9 hb9 dL_law_1523 (by decide) ?_
  refine W.widen (k := cl + 1) (n := sl + 6) (Nat.le_succ _) (Nat.le_add_right _ _) ?_
  exact K _ _ _ _ _ _ ⟨J1, J2, I3, L1⟩ hl
end LC
