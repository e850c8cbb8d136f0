/-! The cases of the law, but look. -/
theorem hox : okO hxF 0 11 = true := xo xF (by decide)
theorem hom : okO hmF 0 12 = true := mo mF (by decide)
theorem lenX : ∀ i, i < hxF.length → i < 110 := fun i hi => by have : hxF.length = 110 := by decide +kernel
                                                               omega
theorem lenM : ∀ i, i < hmF.length → i < 43 := fun i hi => by have : hmF.length = 43 := by decide +kernel
                                                              omega
theorem gL_11_feed : GoodIn lw_tbl (wsV RL 21 RX11 yX11_feed vX11_feed) := gV_law wT_13_4 wT_13_5 wT_13_6 wT_1_2 wT_13_7
theorem cdL_11_feed : Cd yX11_feed 5 := ⟨by decide, by decide, by decide +kernel⟩
theorem gL_12_feed : GoodIn lw_tbl (wsV RL 25 RX12 yX12_feed vX12_feed) := gV_law wT_13_13 wT_13_14 wT_13_15 wT_1_5 wT_13_16
theorem cdL_12_feed : Cd yX12_feed 5 := ⟨by decide, by decide, by decide +kernel⟩
theorem gL_11_text : GoodIn lw_tbl (wsV RL 26 RX11 yX11_text vX11_text) := gV_law wT_13_19 wT_13_20 wT_13_21 wT_1_2 wT_13_22
theorem cdL_11_text : Cd yX11_text 1 := ⟨by decide, by decide, by decide +kernel⟩
theorem gL_12_text : GoodIn lw_tbl (wsV RL 30 RX12 yX12_text vX12_text) := gV_law wT_26_13 wT_26_14 wT_26_15 wT_1_5 wT_26_16
theorem cdL_12_text : Cd yX12_text 1 := ⟨by decide, by decide, by decide +kernel⟩
theorem gL_11_fault : GoodIn lw_tbl (wsV RL 31 RX11 yX11_fault vX11_fault) := gV_law wT_32_0 wT_32_1 wT_32_2 wT_1_2 wT_32_3
theorem cdL_11_fault : Cd yX11_fault 1 := ⟨by decide, by decide, by decide +kernel⟩
theorem gL_12_fault : GoodIn lw_tbl (wsV RL 34 RX12 yX12_fault vX12_fault) := gV_law wT_32_6 wT_32_7 wT_32_8 wT_1_5 wT_32_9
theorem cdL_12_fault : Cd yX12_fault 1 := ⟨by decide, by decide, by decide +kernel⟩
theorem gL_11_named : GoodIn lw_tbl (wsV RL 35 RX11 yX11_named vX11_named) := gV_law wT_32_10 wT_32_11 wT_32_12 wT_1_2 wT_32_13
theorem cdL_11_named : Cd yX11_named 1 := ⟨by decide, by decide, by decide +kernel⟩
theorem gL_12_named : GoodIn lw_tbl (wsV RL 38 RX12 yX12_named vX12_named) := gV_law wT_32_17 wT_32_18 wT_32_19 wT_1_5 wT_32_20
theorem cdL_12_named : Cd yX12_named 1 := ⟨by decide, by decide, by decide +kernel⟩
theorem gL_11_wave : GoodIn lw_tbl (wsV RL 49 RX11 yX11_wave vX11_wave) := gV_law wT_36_16 wT_36_17 wT_36_18 wT_1_2 wT_36_19
theorem cdL_11_wave : Cd yX11_wave 2 := ⟨by decide, by decide, by decide +kernel⟩
theorem gL_12_wave : GoodIn lw_tbl (wsV RL 52 RX12 yX12_wave vX12_wave) := gV_law wT_37_7 wT_37_8 wT_37_9 wT_1_5 wT_37_10
theorem cdL_12_wave : Cd yX12_wave 2 := ⟨by decide, by decide, by decide +kernel⟩
theorem gL_11_peak : GoodIn lw_tbl (wsV RL 53 RX11 yX11_peak vX11_peak) := gV_law wT_37_15 wT_37_16 wT_37_17 wT_1_2 wT_37_18
theorem cdL_11_peak : Cd yX11_peak 1 := ⟨by decide, by decide, by decide +kernel⟩
theorem gL_12_peak : GoodIn lw_tbl (wsV RL 56 RX12 yX12_peak vX12_peak) := gV_law wT_37_21 wT_37_22 wT_37_23 wT_1_5 wT_38_0
theorem cdL_12_peak : Cd yX12_peak 1 := ⟨by decide, by decide, by decide +kernel⟩
theorem gL_11_odds : GoodIn lw_tbl (wsV RL 57 RX11 yX11_odds vX11_odds) := gV_law wT_38_1 wT_38_2 wT_38_3 wT_1_2 wT_38_4
theorem cdL_11_odds : Cd yX11_odds 3 := ⟨by decide, by decide, by decide +kernel⟩
theorem gL_12_odds : GoodIn lw_tbl (wsV RL 61 RX12 yX12_odds vX12_odds) := gV_law wT_39_17 wT_39_18 wT_39_19 wT_1_5 wT_39_20
theorem cdL_12_odds : Cd yX12_odds 3 := ⟨by decide, by decide, by decide +kernel⟩
theorem gL_11_law : GoodIn lw_tbl (wsV RL 62 RX11 yX11_law vX11_law) := gV_law wT_40_17 wT_40_18 wT_40_19 wT_1_2 wT_40_20
theorem cdL_11_law : Cd yX11_law 3 := ⟨by decide, by decide, by decide +kernel⟩
theorem gL_12_law : GoodIn lw_tbl (wsV RL 66 RX12 yX12_law vX12_law) := gV_law wT_41_7 wT_41_8 wT_41_9 wT_1_5 wT_41_10
theorem cdL_12_law : Cd yX12_law 3 := ⟨by decide, by decide, by decide +kernel⟩
theorem gL_11_stroke : GoodIn lw_tbl (wsV RL 67 RX11 yX11_stroke vX11_stroke) := gV_law wT_41_12 wT_41_13 wT_41_14 wT_1_2 wT_41_15
theorem cdL_11_stroke : Cd yX11_stroke 2 := ⟨by decide, by decide, by decide +kernel⟩
theorem gL_12_stroke : GoodIn lw_tbl (wsV RL 70 RX12 yX12_stroke vX12_stroke) := gV_law wT_42_11 wT_42_12 wT_42_13 wT_1_5 wT_42_14
theorem cdL_12_stroke : Cd yX12_stroke 2 := ⟨by decide, by decide, by decide +kernel⟩
theorem gL_11_rule : GoodIn lw_tbl (wsV RL 71 RX11 yX11_rule vX11_rule) := gV_law wT_42_23 wT_43_0 wT_43_1 wT_1_2 wT_43_2
theorem cdL_11_rule : Cd yX11_rule 1 := ⟨by decide, by decide, by decide +kernel⟩
theorem gL_12_rule : GoodIn lw_tbl (wsV RL 75 RX12 yX12_rule vX12_rule) := gV_law wT_43_8 wT_43_9 wT_43_10 wT_1_5 wT_43_11
theorem cdL_12_rule : Cd yX12_rule 1 := ⟨by decide, by decide, by decide +kernel⟩
theorem gL_11_minutes : GoodIn lw_tbl (wsV RL 76 RX11 yX11_minutes vX11_minutes) := gV_law wT_43_12 wT_43_13 wT_43_14 wT_1_2 wT_43_15
theorem cdL_11_minutes : Cd yX11_minutes 1 := ⟨by decide, by decide, by decide +kernel⟩
theorem gL_12_minutes : GoodIn lw_tbl (wsV RL 79 RX12 yX12_minutes vX12_minutes) := gV_law wT_46_13 wT_46_14 wT_46_15 wT_1_5 wT_46_16
theorem cdL_12_minutes : Cd yX12_minutes 1 := ⟨by decide, by decide, by decide +kernel⟩
theorem gL_11_order : GoodIn lw_tbl (wsV RL 80 RX11 yX11_order vX11_order) := gV_law wT_48_7 wT_48_8 wT_48_9 wT_1_2 wT_48_10
theorem cdL_11_order : Cd yX11_order 2 := ⟨by decide, by decide, by decide +kernel⟩
theorem gL_12_order : GoodIn lw_tbl (wsV RL 83 RX12 yX12_order vX12_order) := gV_law wT_48_17 wT_48_18 wT_48_19 wT_1_5 wT_48_20
theorem cdL_12_order : Cd yX12_order 2 := ⟨by decide, by decide, by decide +kernel⟩
theorem gL_11_deeper : GoodIn lw_tbl (wsV RL 84 RX11 yX11_deeper vX11_deeper) := gV_law wT_49_1 wT_49_2 wT_49_3 wT_1_2 wT_49_4
theorem cdL_11_deeper : Cd yX11_deeper 2 := ⟨by decide, by decide, by decide +kernel⟩
theorem gL_12_deeper : GoodIn lw_tbl (wsV RL 87 RX12 yX12_deeper vX12_deeper) := gV_law wT_49_5 wT_49_6 wT_49_7 wT_1_5 wT_49_8
theorem cdL_12_deeper : Cd yX12_deeper 2 := ⟨by decide, by decide, by decide +kernel⟩
theorem gL_11_seat : GoodIn lw_tbl (wsV RL 88 RX11 yX11_seat vX11_seat) := gV_law wT_49_9 wT_49_10 wT_49_11 wT_1_2 wT_49_12
theorem cdL_11_seat : Cd yX11_seat 2 := ⟨by decide, by decide, by decide +kernel⟩
theorem gL_12_seat : GoodIn lw_tbl (wsV RL 91 RX12 yX12_seat vX12_seat) := gV_law wT_50_1 wT_50_2 wT_50_3 wT_1_5 wT_50_4
theorem cdL_12_seat : Cd yX12_seat 2 := ⟨by decide, by decide, by decide +kernel⟩
theorem gL_11_best : GoodIn lw_tbl (wsV RL 92 RX11 yX11_best vX11_best) := gV_law wT_50_13 wT_50_14 wT_50_15 wT_1_2 wT_50_16
theorem cdL_11_best : Cd yX11_best 1 := ⟨by decide, by decide, by decide +kernel⟩
theorem gL_12_best : GoodIn lw_tbl (wsV RL 95 RX12 yX12_best vX12_best) := gV_law wT_50_17 wT_50_18 wT_50_19 wT_1_5 wT_50_20
theorem cdL_12_best : Cd yX12_best 1 := ⟨by decide, by decide, by decide +kernel⟩
theorem gL_11_rests : GoodIn lw_tbl (wsV RL 96 RX11 yX11_rests vX11_rests) := gV_law wT_50_21 wT_50_22 wT_50_23 wT_1_2 wT_51_0
theorem cdL_11_rests : Cd yX11_rests 2 := ⟨by decide, by decide, by decide +kernel⟩
theorem gL_12_rests : GoodIn lw_tbl (wsV RL 99 RX12 yX12_rests vX12_rests) := gV_law wT_52_8 wT_52_9 wT_52_10 wT_1_5 wT_52_11
theorem cdL_12_rests : Cd yX12_rests 2 := ⟨by decide, by decide, by decide +kernel⟩
theorem gL_11_rest : GoodIn lw_tbl (wsV RL 100 RX11 yX11_rest vX11_rest) := gV_law wT_53_7 wT_53_8 wT_53_9 wT_1_2 wT_53_10
theorem cdL_11_rest : Cd yX11_rest 3 := ⟨by decide, by decide, by decide +kernel⟩
theorem gL_12_rest : GoodIn lw_tbl (wsV RL 103 RX12 yX12_rest vX12_rest) := gV_law wT_53_12 wT_53_13 wT_53_14 wT_1_5 wT_53_15
theorem cdL_12_rest : Cd yX12_rest 3 := ⟨by decide, by decide, by decide +kernel⟩
theorem gL_11_rank : GoodIn lw_tbl (wsV RL 104 RX11 yX11_rank vX11_rank) := gV_law wT_53_16 wT_53_17 wT_53_18 wT_1_2 wT_53_19
theorem cdL_11_rank : Cd yX11_rank 2 := ⟨by decide, by decide, by decide +kernel⟩
theorem gL_12_rank_ : GoodIn lw_tbl (wsV RL 107 RX12 yX12_rank_ vX12_rank_) := gV_law wT_54_5 wT_54_6 wT_54_7 wT_1_5 wT_54_8
theorem cdL_12_rank_ : Cd yX12_rank_ 2 := ⟨by decide, by decide, by decide +kernel⟩
theorem gL_11_plan : GoodIn lw_tbl (wsV RL 108 RX11 yX11_plan vX11_plan) := gV_law wT_54_13 wT_54_14 wT_54_15 wT_1_2 wT_54_16
theorem cdL_11_plan : Cd yX11_plan 1 := ⟨by decide, by decide, by decide +kernel⟩
theorem gL_12_plan : GoodIn lw_tbl (wsV RL 111 RX12 yX12_plan vX12_plan) := gV_law wT_55_7 wT_55_8 wT_55_9 wT_1_5 wT_55_10
theorem cdL_12_plan : Cd yX12_plan 1 := ⟨by decide, by decide, by decide +kernel⟩
theorem gL_11_planned : GoodIn lw_tbl (wsV RL 112 RX11 yX11_planned vX11_planned) := gV_law wT_55_19 wT_55_20 wT_55_21 wT_1_2 wT_55_22
theorem cdL_11_planned : Cd yX11_planned 2 := ⟨by decide, by decide, by decide +kernel⟩
theorem gL_12_planned : GoodIn lw_tbl (wsV RL 115 RX12 yX12_planned vX12_planned) := gV_law wT_56_1 wT_56_2 wT_56_3 wT_1_5 wT_56_4
theorem cdL_12_planned : Cd yX12_planned 2 := ⟨by decide, by decide, by decide +kernel⟩
theorem gL_11_go : GoodIn lw_tbl (wsV RL 116 RX11 yX11_go vX11_go) := gV_law wT_56_5 wT_56_6 wT_56_7 wT_1_2 wT_56_8
theorem cdL_11_go : Cd yX11_go 3 := ⟨by decide, by decide, by decide +kernel⟩
theorem gL_12_go : GoodIn lw_tbl (wsV RL 119 RX12 yX12_go vX12_go) := gV_law wT_56_15 wT_56_16 wT_56_17 wT_1_5 wT_56_18
theorem cdL_12_go : Cd yX12_go 3 := ⟨by decide, by decide, by decide +kernel⟩
theorem gL_11_give : GoodIn lw_tbl (wsV RL 120 RX11 yX11_give vX11_give) := gV_law wT_56_19 wT_56_20 wT_56_21 wT_1_2 wT_56_22
theorem cdL_11_give : Cd yX11_give 3 := ⟨by decide, by decide, by decide +kernel⟩
theorem gL_12_give : GoodIn lw_tbl (wsV RL 123 RX12 yX12_give vX12_give) := gV_law wT_57_0 wT_57_1 wT_57_2 wT_1_5 wT_57_3
theorem cdL_12_give : Cd yX12_give 3 := ⟨by decide, by decide, by decide +kernel⟩
theorem gL_11_table : GoodIn lw_tbl (wsV RL 124 RX11 yX11_table vX11_table) := gV_law wT_57_4 wT_57_5 wT_57_6 wT_1_2 wT_57_7
theorem cdL_11_table : Cd yX11_table 3 := ⟨by decide, by decide, by decide +kernel⟩
theorem gL_12_table : GoodIn lw_tbl (wsV RL 127 RX12 yX12_table vX12_table) := gV_law wT_58_5 wT_58_6 wT_58_7 wT_1_5 wT_58_8
theorem cdL_12_table : Cd yX12_table 3 := ⟨by decide, by decide, by decide +kernel⟩
theorem gL_11_fairest : GoodIn lw_tbl (wsV RL 128 RX11 yX11_fairest vX11_fairest) := gV_law wT_59_1 wT_59_2 wT_59_3 wT_1_2 wT_59_4
theorem cdL_11_fairest : Cd yX11_fairest 1 := ⟨by decide, by decide, by decide +kernel⟩
theorem gL_12_fairest : GoodIn lw_tbl (wsV RL 131 RX12 yX12_fairest vX12_fairest) := gV_law wT_59_5 wT_59_6 wT_59_7 wT_1_5 wT_59_8
theorem cdL_12_fairest : Cd yX12_fairest 1 := ⟨by decide, by decide, by decide +kernel⟩
theorem gL_11_over : GoodIn lw_tbl (wsV RL 132 RX11 yX11_over vX11_over) := gV_law wT_59_9 wT_59_10 wT_59_11 wT_1_2 wT_59_12
theorem cdL_11_over : Cd yX11_over 1 := ⟨by decide, by decide, by decide +kernel⟩
theorem gL_12_over : GoodIn lw_tbl (wsV RL 135 RX12 yX12_over vX12_over) := gV_law wT_59_19 wT_59_20 wT_59_21 wT_1_5 wT_59_22
theorem cdL_12_over : Cd yX12_over 1 := ⟨by decide, by decide, by decide +kernel⟩
theorem gL_11_next : GoodIn lw_tbl (wsV RL 136 RX11 yX11_next vX11_next) := gV_law wT_59_23 wT_60_0 wT_60_1 wT_1_2 wT_60_2
theorem cdL_11_next : Cd yX11_next 0 := ⟨by decide, by decide, by decide +kernel⟩
theorem gL_12_next : GoodIn lw_tbl (wsV RL 139 RX12 yX12_next vX12_next) := gV_law wT_60_8 wT_60_9 wT_60_10 wT_1_5 wT_60_11
theorem cdL_12_next : Cd yX12_next 0 := ⟨by decide, by decide, by decide +kernel⟩
theorem gL_11_gaps : GoodIn lw_tbl (wsV RL 140 RX11 yX11_gaps vX11_gaps) := gV_law wT_60_12 wT_60_13 wT_60_14 wT_1_2 wT_60_15
theorem cdL_11_gaps : Cd yX11_gaps 2 := ⟨by decide, by decide, by decide +kernel⟩
theorem gL_12_gaps : GoodIn lw_tbl (wsV RL 143 RX12 yX12_gaps vX12_gaps) := gV_law wT_60_17 wT_60_18 wT_60_19 wT_1_5 wT_60_20
theorem cdL_12_gaps : Cd yX12_gaps 2 := ⟨by decide, by decide, by decide +kernel⟩
theorem gL_11_shares : GoodIn lw_tbl (wsV RL 144 RX11 yX11_shares vX11_shares) := gV_law wT_60_21 wT_60_22 wT_60_23 wT_1_2 wT_61_0
theorem cdL_11_shares : Cd yX11_shares 1 := ⟨by decide, by decide, by decide +kernel⟩
theorem gL_12_shares : GoodIn lw_tbl (wsV RL 147 RX12 yX12_shares vX12_shares) := gV_law wT_61_5 wT_61_6 wT_61_7 wT_1_5 wT_61_8
theorem cdL_12_shares : Cd yX12_shares 1 := ⟨by decide, by decide, by decide +kernel⟩
theorem gL_11_note : GoodIn lw_tbl (wsV RL 148 RX11 yX11_note vX11_note) := gV_law wT_61_13 wT_61_14 wT_61_15 wT_1_2 wT_61_16
theorem cdL_11_note : Cd yX11_note 3 := ⟨by decide, by decide, by decide +kernel⟩
theorem gL_12_note : GoodIn lw_tbl (wsV RL 151 RX12 yX12_note vX12_note) := gV_law wT_61_22 wT_61_23 wT_62_0 wT_1_5 wT_62_1
theorem cdL_12_note : Cd yX12_note 3 := ⟨by decide, by decide, by decide +kernel⟩
theorem gL_11_strike : GoodIn lw_tbl (wsV RL 152 RX11 yX11_strike vX11_strike) := gV_law wT_62_6 wT_62_7 wT_62_8 wT_1_2 wT_62_9
theorem cdL_11_strike : Cd yX11_strike 1 := ⟨by decide, by decide, by decide +kernel⟩
theorem gL_12_strike : GoodIn lw_tbl (wsV RL 155 RX12 yX12_strike vX12_strike) := gV_law wT_62_14 wT_62_15 wT_62_16 wT_1_5 wT_62_17
theorem cdL_12_strike : Cd yX12_strike 1 := ⟨by decide, by decide, by decide +kernel⟩
theorem gL_11_known : GoodIn lw_tbl (wsV RL 156 RX11 yX11_known vX11_known) := gV_law wT_62_18 wT_62_19 wT_62_20 wT_1_2 wT_62_21
theorem cdL_11_known : Cd yX11_known 1 := ⟨by decide, by decide, by decide +kernel⟩
theorem gL_12_known : GoodIn lw_tbl (wsV RL 159 RX12 yX12_known vX12_known) := gV_law wT_62_22 wT_62_23 wT_63_0 wT_1_5 wT_63_1
theorem cdL_12_known : Cd yX12_known 1 := ⟨by decide, by decide, by decide +kernel⟩
theorem gL_11_locals : GoodIn lw_tbl (wsV RL 160 RX11 yX11_locals vX11_locals) := gV_law wT_63_2 wT_63_3 wT_63_4 wT_1_2 wT_63_5
theorem cdL_11_locals : Cd yX11_locals 1 := ⟨by decide, by decide, by decide +kernel⟩
theorem gL_12_locals : GoodIn lw_tbl (wsV RL 163 RX12 yX12_locals vX12_locals) := gV_law wT_64_0 wT_64_1 wT_64_2 wT_1_5 wT_64_3
theorem cdL_12_locals : Cd yX12_locals 1 := ⟨by decide, by decide, by decide +kernel⟩
theorem gL_11_chance : GoodIn lw_tbl (wsV RL 164 RX11 yX11_chance vX11_chance) := gV_law wT_64_12 wT_64_13 wT_64_14 wT_1_2 wT_64_15
theorem cdL_11_chance : Cd yX11_chance 3 := ⟨by decide, by decide, by decide +kernel⟩
theorem gL_12_chance : GoodIn lw_tbl (wsV RL 167 RX12 yX12_chance vX12_chance) := gV_law wT_64_17 wT_64_18 wT_64_19 wT_1_5 wT_64_20
theorem cdL_12_chance : Cd yX12_chance 3 := ⟨by decide, by decide, by decide +kernel⟩
theorem gL_11_tried : GoodIn lw_tbl (wsV RL 168 RX11 yX11_tried vX11_tried) := gV_law wT_64_21 wT_64_22 wT_64_23 wT_1_2 wT_65_0
theorem cdL_11_tried : Cd yX11_tried 3 := ⟨by decide, by decide, by decide +kernel⟩
theorem gL_12_tried : GoodIn lw_tbl (wsV RL 171 RX12 yX12_tried vX12_tried) := gV_law wT_66_6 wT_66_7 wT_66_8 wT_1_5 wT_66_9
theorem cdL_12_tried : Cd yX12_tried 3 := ⟨by decide, by decide, by decide +kernel⟩
theorem gL_11_undo : GoodIn lw_tbl (wsV RL 172 RX11 yX11_undo vX11_undo) := gV_law wT_66_10 wT_66_11 wT_66_12 wT_1_2 wT_66_13
theorem cdL_11_undo : Cd yX11_undo 0 := ⟨by decide, by decide, by decide +kernel⟩
theorem gL_12_undo : GoodIn lw_tbl (wsV RL 175 RX12 yX12_undo vX12_undo) := gV_law wT_66_16 wT_66_17 wT_66_18 wT_1_5 wT_66_19
theorem cdL_12_undo : Cd yX12_undo 0 := ⟨by decide, by decide, by decide +kernel⟩
theorem gL_11_keep : GoodIn lw_tbl (wsV RL 176 RX11 yX11_keep vX11_keep) := gV_law wT_66_20 wT_66_21 wT_66_22 wT_1_2 wT_66_23
theorem cdL_11_keep : Cd yX11_keep 0 := ⟨by decide, by decide, by decide +kernel⟩
theorem gL_12_keep : GoodIn lw_tbl (wsV RL 179 RX12 yX12_keep vX12_keep) := gV_law wT_67_1 wT_67_2 wT_67_3 wT_1_5 wT_67_4
theorem cdL_12_keep : Cd yX12_keep 0 := ⟨by decide, by decide, by decide +kernel⟩
theorem gL_11_back : GoodIn lw_tbl (wsV RL 180 RX11 yX11_back vX11_back) := gV_law wT_67_10 wT_67_11 wT_67_12 wT_1_2 wT_67_13
theorem cdL_11_back : Cd yX11_back 0 := ⟨by decide, by decide, by decide +kernel⟩
theorem gL_12_back : GoodIn lw_tbl (wsV RL 183 RX12 yX12_back vX12_back) := gV_law wT_67_14 wT_67_15 wT_67_16 wT_1_5 wT_67_17
theorem cdL_12_back : Cd yX12_back 0 := ⟨by decide, by decide, by decide +kernel⟩
theorem gL_11_count : GoodIn lw_tbl (wsV RL 184 RX11 yX11_count vX11_count) := gV_law wT_67_18 wT_67_19 wT_67_20 wT_1_2 wT_67_21
theorem cdL_11_count : Cd yX11_count 1 := ⟨by decide, by decide, by decide +kernel⟩
theorem gL_12_count : GoodIn lw_tbl (wsV RL 187 RX12 yX12_count vX12_count) := gV_law wT_68_0 wT_68_1 wT_68_2 wT_1_5 wT_68_3
theorem cdL_12_count : Cd yX12_count 1 := ⟨by decide, by decide, by decide +kernel⟩
theorem cmp_self (a : Int64) : lg_cmp a a = 0 := by unfold lg_cmp; simp
section LC
variable {p : Program} {l : Launch} {e : Env} {s : State} {m : MethodId} {below : List Frame} {meth : Method} {c : Code} {b : Nat} {xs : Nat → Int32} {D : va_G} {cy : Nat → ClassId} {H : Heap} {locs : List Loc} {ls : Array Slot}
theorem law_out (S : CallFix p m c cL_law 7 s #[Value.ref b] lw_tbl RL) (hr : meth.sig.returnType = ret) (hlo : meth.locks = false) (hS : va_S (A0 s) s.heap H locs) {cells slots : Nat} (h1 : cells ≤ 600002) (h2 : slots ≤ 7302232) : W p l e room_1 s m #[Value.ref b] below meth c H locs cells slots (lw_Z below #[Value.ref b] s) (F0 m 1561 ls []) := by
  refine lv_iconst (v := 1) S.1 S.2.1 dL_law_1561 (by decide) ?_
  refine va_forget (fun q hq => hS.2.2 q hq) ?_
  refine W.widen h1 h2 ?_
  exact lw_ret S.1 S.2.1 hr hlo dL_law_1562
theorem law_tail (S : CallFix p m c cL_law 7 s #[Value.ref b] lw_tbl RL) (hr : meth.sig.returnType = ret) (hlo : meth.locks = false) (hX : va_X b 6 xs s s.heap) (hbl : b < s.heap.size) (hS : va_S (A0 s) s.heap H locs) {cells slots : Nat} (h1 : cells ≤ 600002) (h2 : slots ≤ 7302232) (hl : lv_has ls 7 [(0, .ref b), (4, .int 0)]) : W p l e room_1 s m #[Value.ref b] below meth c H locs cells slots (lw_Z below #[Value.ref b] s) (F0 m 1555 ls []) := by
  have hbA : ¬ A0 s b := Nat.not_le.mpr hbl
  refine lv_iinc (v := 6) (lv' := [(4, .int 6), (0, .ref b)]) S.1 S.2.1 dL_law_1555 hl (k := 1) rfl (by decide) (by decide) rfl (fun ls hl => ?_)
  refine lv_goto (tgt := 23) S.1 S.2.1 dL_law_1558 (by decide) ?_
  refine lv_iload S.1 S.2.1 dL_law_23 (lv_at hl 0 rfl) ?_
  refine lv_aload_n S.1 S.2.1 dL_law_25 rfl (lv_at hl 1 rfl) ?_
  refine va_slen (A := A0 s) S.1 S.2.1 hX hbl hbA hS dL_law_26 ?_
  refine lv_bipush (v := 6) S.1 S.2.1 dL_law_27 (by decide) ?_
  refine lv_isub S.1 S.2.1 dL_law_29 ?_
  refine lv_icmp_gt (tgt := 1561) S.1 S.2.1 dL_law_30 (by decide) (fun _ => ?_) (fun z => absurd (by decide) z)
  exact law_out S hr hlo hS h1 h2
theorem lc_212 (S : CallFix p m c cL_law 7 s #[Value.ref b] lw_tbl RL) (hr : meth.sig.returnType = ret) (hlo : meth.locks = false) (hX : va_X b 6 xs s s.heap) (hbl : b < s.heap.size) (I1 : LM D cy s.heap.size 110 hxF s H locs) (I2 : LM D cy (s.heap.size + 110) 43 hmF s H locs) {q3 : Nat} (hl : lv_has ls 7 [(0, .ref b), (1, .ref (s.heap.size + 0)), (2, .ref (s.heap.size + 110 + 0)), (3, .ref q3), (4, .int 0)]) : W p l e room_1 s m #[Value.ref b] below meth c H locs 154 5406 (lw_Z below #[Value.ref b] s) (F0 m 212 ls []) := by
  have hbA : ¬ A0 s b := Nat.not_le.mpr hbl
  have hx := S.1
  have hb := S.2.1
  have hS := I1.2.2.1
  obtain ⟨ox, om, ex, em, exm⟩ := p_feed (xs (0 + 1 : Int32).toNatClampNeg) (xs (0 + 2 : Int32).toNatClampNeg) (xs (0 + 3 : Int32).toNatClampNeg) (xs (0 + 4 : Int32).toNatClampNeg) (xs (0 + 5 : Int32).toNatClampNeg)
  refine lv_aload_n hx hb dL_law_212 rfl (lv_at hl 1 rfl) ?_
  refine lv_aload_n hx hb dL_law_213 rfl (lv_at hl 0 rfl) ?_
  refine lv_iload hx hb dL_law_214 (lv_at hl 4 rfl) ?_
  refine lv_iconst (v := 1) hx hb dL_law_216 (by decide) ?_
  refine lv_iadd hx hb dL_law_217 ?_
  refine va_sld (A := A0 s) hx hb hX hbl hbA hS (vI (by decide)) dL_law_218 ?_
  refine lv_aload_n hx hb dL_law_219 rfl (lv_at hl 0 rfl) ?_
  refine lv_iload hx hb dL_law_220 (lv_at hl 4 rfl) ?_
  refine lv_iconst (v := 2) hx hb dL_law_222 (by decide) ?_
  refine lv_iadd hx hb dL_law_223 ?_
  refine va_sld (A := A0 s) hx hb hX hbl hbA hS (vI (by decide)) dL_law_224 ?_
  refine lv_aload_n hx hb dL_law_225 rfl (lv_at hl 0 rfl) ?_
  refine lv_iload hx hb dL_law_226 (lv_at hl 4 rfl) ?_
  refine lv_iconst (v := 3) hx hb dL_law_228 (by decide) ?_
  refine lv_iadd hx hb dL_law_229 ?_
  refine va_sld (A := A0 s) hx hb hX hbl hbA hS (vI (by decide)) dL_law_230 ?_
  refine lv_aload_n hx hb dL_law_231 rfl (lv_at hl 0 rfl) ?_
  refine lv_iload hx hb dL_law_232 (lv_at hl 4 rfl) ?_
  refine lv_iconst (v := 4) hx hb dL_law_234 (by decide) ?_
  refine lv_iadd hx hb dL_law_235 ?_
  refine va_sld (A := A0 s) hx hb hX hbl hbA hS (vI (by decide)) dL_law_236 ?_
  refine lv_aload_n hx hb dL_law_237 rfl (lv_at hl 0 rfl) ?_
  refine lv_iload hx hb dL_law_238 (lv_at hl 4 rfl) ?_
  refine lv_iconst (v := 5) hx hb dL_law_240 (by decide) ?_
  refine lv_iadd hx hb dL_law_241 ?_
  refine va_sld (A := A0 s) hx hb hX hbl hbA hS (vI (by decide)) dL_law_242 ?_
  refine l_Vi (As := [.int (xs (0 + 1 : Int32).toNatClampNeg), .int (xs (0 + 2 : Int32).toNatClampNeg), .int (xs (0 + 3 : Int32).toNatClampNeg), .int (xs (0 + 4 : Int32).toNatClampNeg), .int (xs (0 + 5 : Int32).toNatClampNeg)]) S (M11_feed l D cy s.heap.size (Aw s.heap.size 110) false ex) gL_11_feed rfl rfl rfl cdL_11_feed ⟨Nat.le_of_ble_eq_true rfl, Nat.le_of_ble_eq_true rfl⟩ I1 (Nat.le_refl _) hox clX11 rfl rfl hl.1 rfl (Nat.le_of_ble_eq_true rfl) dL_law_243 ⟨Nat.le_of_ble_eq_true rfl, Nat.le_of_ble_eq_true rfl⟩ (fun H1 locs1 J1 hk1 => ?_)
  have I2 := LM_kept I2 (A := Aw s.heap.size 110) (fun i hi z => by have := z.2; omega) hk1 J1.2.2.1
  have hS := I2.2.2.1
  refine lv_aload_n hx hb dL_law_246 rfl (lv_at hl 2 rfl) ?_
  refine lv_aload_n hx hb dL_law_247 rfl (lv_at hl 0 rfl) ?_
  refine lv_iload hx hb dL_law_248 (lv_at hl 4 rfl) ?_
  refine lv_iconst (v := 1) hx hb dL_law_250 (by decide) ?_
  refine lv_iadd hx hb dL_law_251 ?_
  refine va_sld (A := A0 s) hx hb hX hbl hbA hS (vI (by decide)) dL_law_252 ?_
  refine lv_aload_n hx hb dL_law_253 rfl (lv_at hl 0 rfl) ?_
  refine lv_iload hx hb dL_law_254 (lv_at hl 4 rfl) ?_
  refine lv_iconst (v := 2) hx hb dL_law_256 (by decide) ?_
  refine lv_iadd hx hb dL_law_257 ?_
  refine va_sld (A := A0 s) hx hb hX hbl hbA hS (vI (by decide)) dL_law_258 ?_
  refine lv_aload_n hx hb dL_law_259 rfl (lv_at hl 0 rfl) ?_
  refine lv_iload hx hb dL_law_260 (lv_at hl 4 rfl) ?_
  refine lv_iconst (v := 3) hx hb dL_law_262 (by decide) ?_
  refine lv_iadd hx hb dL_law_263 ?_
  refine va_sld (A := A0 s) hx hb hX hbl hbA hS (vI (by decide)) dL_law_264 ?_
  refine lv_aload_n hx hb dL_law_265 rfl (lv_at hl 0 rfl) ?_
  refine lv_iload hx hb dL_law_266 (lv_at hl 4 rfl) ?_
  refine lv_iconst (v := 4) hx hb dL_law_268 (by decide) ?_
  refine lv_iadd hx hb dL_law_269 ?_
  refine va_sld (A := A0 s) hx hb hX hbl hbA hS (vI (by decide)) dL_law_270 ?_
  refine lv_aload_n hx hb dL_law_271 rfl (lv_at hl 0 rfl) ?_
  refine lv_iload hx hb dL_law_272 (lv_at hl 4 rfl) ?_
  refine lv_iconst (v := 5) hx hb dL_law_274 (by decide) ?_
  refine lv_iadd hx hb dL_law_275 ?_
  refine va_sld (A := A0 s) hx hb hX hbl hbA hS (vI (by decide)) dL_law_276 ?_
  refine l_Vi (As := [.int (xs (0 + 1 : Int32).toNatClampNeg), .int (xs (0 + 2 : Int32).toNatClampNeg), .int (xs (0 + 3 : Int32).toNatClampNeg), .int (xs (0 + 4 : Int32).toNatClampNeg), .int (xs (0 + 5 : Int32).toNatClampNeg)]) S (M12_feed l D cy (s.heap.size + 110) (Aw (s.heap.size + 110) 43) false em) gL_12_feed rfl rfl rfl cdL_12_feed ⟨Nat.le_of_ble_eq_true rfl, Nat.le_of_ble_eq_true rfl⟩ I2 (Nat.le_add_right _ _) hom clX12 rfl rfl hl.1 rfl (Nat.le_of_ble_eq_true rfl) dL_law_277 ⟨Nat.le_of_ble_eq_true rfl, Nat.le_of_ble_eq_true rfl⟩ (fun H2 locs2 J2 hk2 => ?_)
  refine lv_icmp_eq (tgt := 1555) hx hb dL_law_280 (by decide) (fun _ => ?_) (fun z => absurd exm z)
  exact law_tail S hr hlo hX hbl J2.2.2.1 (Nat.le_of_ble_eq_true rfl) (Nat.le_of_ble_eq_true rfl) (lv_sub hl [0, 4] rfl)
theorem lc_285 (S : CallFix p m c cL_law 7 s #[Value.ref b] lw_tbl RL) (hr : meth.sig.returnType = ret) (hlo : meth.locks = false) (hX : va_X b 6 xs s s.heap) (hbl : b < s.heap.size) (I1 : LM D cy s.heap.size 110 hxF s H locs) (I2 : LM D cy (s.heap.size + 110) 43 hmF s H locs) {q3 : Nat} (hl : lv_has ls 7 [(0, .ref b), (1, .ref (s.heap.size + 0)), (2, .ref (s.heap.size + 110 + 0)), (3, .ref q3), (4, .int 0)]) : W p l e room_1 s m #[Value.ref b] below meth c H locs 154 5406 (lw_Z below #[Value.ref b] s) (F0 m 285 ls []) := by
  have hbA : ¬ A0 s b := Nat.not_le.mpr hbl
  have hx := S.1
  have hb := S.2.1
  have hS := I1.2.2.1
  obtain ⟨ox, om, ex, em, exm⟩ := p_text (xs (0 + 1 : Int32).toNatClampNeg)
  refine lv_aload_n hx hb dL_law_285 rfl (lv_at hl 1 rfl) ?_
  refine lv_aload_n hx hb dL_law_286 rfl (lv_at hl 0 rfl) ?_
  refine lv_iload hx hb dL_law_287 (lv_at hl 4 rfl) ?_
  refine lv_iconst (v := 1) hx hb dL_law_289 (by decide) ?_
  refine lv_iadd hx hb dL_law_290 ?_
  refine va_sld (A := A0 s) hx hb hX hbl hbA hS (vI (by decide)) dL_law_291 ?_
  refine l_Vi (As := [.int (xs (0 + 1 : Int32).toNatClampNeg)]) S (M11_text l D cy s.heap.size (Aw s.heap.size 110) ex) gL_11_text rfl rfl rfl cdL_11_text ⟨Nat.le_of_ble_eq_true rfl, Nat.le_of_ble_eq_true rfl⟩ I1 (Nat.le_refl _) hox clX11 rfl rfl hl.1 rfl (Nat.le_of_ble_eq_true rfl) dL_law_292 ⟨Nat.le_of_ble_eq_true rfl, Nat.le_of_ble_eq_true rfl⟩ (fun H1 locs1 J1 hk1 => ?_)
  have I2 := LM_kept I2 (A := Aw s.heap.size 110) (fun i hi z => by have := z.2; omega) hk1 J1.2.2.1
  have hS := I2.2.2.1
  refine lv_aload_n hx hb dL_law_295 rfl (lv_at hl 2 rfl) ?_
  refine lv_aload_n hx hb dL_law_296 rfl (lv_at hl 0 rfl) ?_
  refine lv_iload hx hb dL_law_297 (lv_at hl 4 rfl) ?_
  refine lv_iconst (v := 1) hx hb dL_law_299 (by decide) ?_
  refine lv_iadd hx hb dL_law_300 ?_
  refine va_sld (A := A0 s) hx hb hX hbl hbA hS (vI (by decide)) dL_law_301 ?_
  refine l_Vi (As := [.int (xs (0 + 1 : Int32).toNatClampNeg)]) S (M12_text l D cy (s.heap.size + 110) (Aw (s.heap.size + 110) 43) false em) gL_12_text rfl rfl rfl cdL_12_text ⟨Nat.le_of_ble_eq_true rfl, Nat.le_of_ble_eq_true rfl⟩ I2 (Nat.le_add_right _ _) hom clX12 rfl rfl hl.1 rfl (Nat.le_of_ble_eq_true rfl) dL_law_302 ⟨Nat.le_of_ble_eq_true rfl, Nat.le_of_ble_eq_true rfl⟩ (fun H2 locs2 J2 hk2 => ?_)
  refine lv_icmp_eq (tgt := 1555) hx hb dL_law_305 (by decide) (fun _ => ?_) (fun z => absurd exm z)
  exact law_tail S hr hlo hX hbl J2.2.2.1 (Nat.le_of_ble_eq_true rfl) (Nat.le_of_ble_eq_true rfl) (lv_sub hl [0, 4] rfl)
theorem lc_310 (S : CallFix p m c cL_law 7 s #[Value.ref b] lw_tbl RL) (hr : meth.sig.returnType = ret) (hlo : meth.locks = false) (hX : va_X b 6 xs s s.heap) (hbl : b < s.heap.size) (I1 : LM D cy s.heap.size 110 hxF s H locs) (I2 : LM D cy (s.heap.size + 110) 43 hmF s H locs) {q3 : Nat} (hl : lv_has ls 7 [(0, .ref b), (1, .ref (s.heap.size + 0)), (2, .ref (s.heap.size + 110 + 0)), (3, .ref q3), (4, .int 0)]) : W p l e room_1 s m #[Value.ref b] below meth c H locs 154 5406 (lw_Z below #[Value.ref b] s) (F0 m 310 ls []) := by
  have hbA : ¬ A0 s b := Nat.not_le.mpr hbl
  have hx := S.1
  have hb := S.2.1
  have hS := I1.2.2.1
  obtain ⟨ox, om, ex, em, exm⟩ := p_fault (xs (0 + 1 : Int32).toNatClampNeg)
  refine lv_aload_n hx hb dL_law_310 rfl (lv_at hl 1 rfl) ?_
  refine lv_aload_n hx hb dL_law_311 rfl (lv_at hl 0 rfl) ?_
  refine lv_iload hx hb dL_law_312 (lv_at hl 4 rfl) ?_
  refine lv_iconst (v := 1) hx hb dL_law_314 (by decide) ?_
  refine lv_iadd hx hb dL_law_315 ?_
  refine va_sld (A := A0 s) hx hb hX hbl hbA hS (vI (by decide)) dL_law_316 ?_
  refine l_Vi (As := [.int (xs (0 + 1 : Int32).toNatClampNeg)]) S (M11_fault l D cy s.heap.size (Aw s.heap.size 110) false ex) gL_11_fault rfl rfl rfl cdL_11_fault ⟨Nat.le_of_ble_eq_true rfl, Nat.le_of_ble_eq_true rfl⟩ I1 (Nat.le_refl _) hox clX11 rfl rfl hl.1 rfl (Nat.le_of_ble_eq_true rfl) dL_law_317 ⟨Nat.le_of_ble_eq_true rfl, Nat.le_of_ble_eq_true rfl⟩ (fun H1 locs1 J1 hk1 => ?_)
  have I2 := LM_kept I2 (A := Aw s.heap.size 110) (fun i hi z => by have := z.2; omega) hk1 J1.2.2.1
  have hS := I2.2.2.1
  refine lv_aload_n hx hb dL_law_320 rfl (lv_at hl 2 rfl) ?_
  refine lv_aload_n hx hb dL_law_321 rfl (lv_at hl 0 rfl) ?_
  refine lv_iload hx hb dL_law_322 (lv_at hl 4 rfl) ?_
  refine lv_iconst (v := 1) hx hb dL_law_324 (by decide) ?_
  refine lv_iadd hx hb dL_law_325 ?_
  refine va_sld (A := A0 s) hx hb hX hbl hbA hS (vI (by decide)) dL_law_326 ?_
  refine l_Vi (As := [.int (xs (0 + 1 : Int32).toNatClampNeg)]) S (M12_fault l D cy (s.heap.size + 110) (Aw (s.heap.size + 110) 43) false em) gL_12_fault rfl rfl rfl cdL_12_fault ⟨Nat.le_of_ble_eq_true rfl, Nat.le_of_ble_eq_true rfl⟩ I2 (Nat.le_add_right _ _) hom clX12 rfl rfl hl.1 rfl (Nat.le_of_ble_eq_true rfl) dL_law_327 ⟨Nat.le_of_ble_eq_true rfl, Nat.le_of_ble_eq_true rfl⟩ (fun H2 locs2 J2 hk2 => ?_)
  refine lv_icmp_eq (tgt := 1555) hx hb dL_law_330 (by decide) (fun _ => ?_) (fun z => absurd exm z)
  exact law_tail S hr hlo hX hbl J2.2.2.1 (Nat.le_of_ble_eq_true rfl) (Nat.le_of_ble_eq_true rfl) (lv_sub hl [0, 4] rfl)
theorem lc_335 (S : CallFix p m c cL_law 7 s #[Value.ref b] lw_tbl RL) (hr : meth.sig.returnType = ret) (hlo : meth.locks = false) (hX : va_X b 6 xs s s.heap) (hbl : b < s.heap.size) (I1 : LM D cy s.heap.size 110 hxF s H locs) (I2 : LM D cy (s.heap.size + 110) 43 hmF s H locs) {q3 : Nat} (hl : lv_has ls 7 [(0, .ref b), (1, .ref (s.heap.size + 0)), (2, .ref (s.heap.size + 110 + 0)), (3, .ref q3), (4, .int 0)]) : W p l e room_1 s m #[Value.ref b] below meth c H locs 154 5406 (lw_Z below #[Value.ref b] s) (F0 m 335 ls []) := by
  have hbA : ¬ A0 s b := Nat.not_le.mpr hbl
  have hx := S.1
  have hb := S.2.1
  have hS := I1.2.2.1
  obtain ⟨ox, om, ex, em, exm⟩ := p_named (xs (0 + 1 : Int32).toNatClampNeg)
  refine lv_aload_n hx hb dL_law_335 rfl (lv_at hl 1 rfl) ?_
  refine lv_aload_n hx hb dL_law_336 rfl (lv_at hl 0 rfl) ?_
  refine lv_iload hx hb dL_law_337 (lv_at hl 4 rfl) ?_
  refine lv_iconst (v := 1) hx hb dL_law_339 (by decide) ?_
  refine lv_iadd hx hb dL_law_340 ?_
  refine va_sld (A := A0 s) hx hb hX hbl hbA hS (vI (by decide)) dL_law_341 ?_
  refine l_Vi (As := [.int (xs (0 + 1 : Int32).toNatClampNeg)]) S (M11_named l D cy s.heap.size (Aw s.heap.size 110) false ex) gL_11_named rfl rfl rfl cdL_11_named ⟨Nat.le_of_ble_eq_true rfl, Nat.le_of_ble_eq_true rfl⟩ I1 (Nat.le_refl _) hox clX11 rfl rfl hl.1 rfl (Nat.le_of_ble_eq_true rfl) dL_law_342 ⟨Nat.le_of_ble_eq_true rfl, Nat.le_of_ble_eq_true rfl⟩ (fun H1 locs1 J1 hk1 => ?_)
  have I2 := LM_kept I2 (A := Aw s.heap.size 110) (fun i hi z => by have := z.2; omega) hk1 J1.2.2.1
  have hS := I2.2.2.1
  refine lv_aload_n hx hb dL_law_345 rfl (lv_at hl 2 rfl) ?_
  refine lv_aload_n hx hb dL_law_346 rfl (lv_at hl 0 rfl) ?_
  refine lv_iload hx hb dL_law_347 (lv_at hl 4 rfl) ?_
  refine lv_iconst (v := 1) hx hb dL_law_349 (by decide) ?_
  refine lv_iadd hx hb dL_law_350 ?_
  refine va_sld (A := A0 s) hx hb hX hbl hbA hS (vI (by decide)) dL_law_351 ?_
  refine l_Vi (As := [.int (xs (0 + 1 : Int32).toNatClampNeg)]) S (M12_named l D cy (s.heap.size + 110) (Aw (s.heap.size + 110) 43) false em) gL_12_named rfl rfl rfl cdL_12_named ⟨Nat.le_of_ble_eq_true rfl, Nat.le_of_ble_eq_true rfl⟩ I2 (Nat.le_add_right _ _) hom clX12 rfl rfl hl.1 rfl (Nat.le_of_ble_eq_true rfl) dL_law_352 ⟨Nat.le_of_ble_eq_true rfl, Nat.le_of_ble_eq_true rfl⟩ (fun H2 locs2 J2 hk2 => ?_)
  refine lv_icmp_eq (tgt := 1555) hx hb dL_law_355 (by decide) (fun _ => ?_) (fun z => absurd exm z)
  exact law_tail S hr hlo hX hbl J2.2.2.1 (Nat.le_of_ble_eq_true rfl) (Nat.le_of_ble_eq_true rfl) (lv_sub hl [0, 4] rfl)
theorem lc_428 (S : CallFix p m c cL_law 7 s #[Value.ref b] lw_tbl RL) (hr : meth.sig.returnType = ret) (hlo : meth.locks = false) (hX : va_X b 6 xs s s.heap) (hbl : b < s.heap.size) (I1 : LM D cy s.heap.size 110 hxF s H locs) (I2 : LM D cy (s.heap.size + 110) 43 hmF s H locs) {q3 : Nat} (hl : lv_has ls 7 [(0, .ref b), (1, .ref (s.heap.size + 0)), (2, .ref (s.heap.size + 110 + 0)), (3, .ref q3), (4, .int 0)]) : W p l e room_1 s m #[Value.ref b] below meth c H locs 154 5406 (lw_Z below #[Value.ref b] s) (F0 m 428 ls []) := by
  have hbA : ¬ A0 s b := Nat.not_le.mpr hbl
  have hx := S.1
  have hb := S.2.1
  have hS := I1.2.2.1
  obtain ⟨ox, om, ex, em, exm⟩ := p_wave (xs (0 + 1 : Int32).toNatClampNeg) (xs (0 + 2 : Int32).toNatClampNeg)
  refine lv_aload_n hx hb dL_law_428 rfl (lv_at hl 1 rfl) ?_
  refine lv_aload_n hx hb dL_law_429 rfl (lv_at hl 0 rfl) ?_
  refine lv_iload hx hb dL_law_430 (lv_at hl 4 rfl) ?_
  refine lv_iconst (v := 1) hx hb dL_law_432 (by decide) ?_
  refine lv_iadd hx hb dL_law_433 ?_
  refine va_sld (A := A0 s) hx hb hX hbl hbA hS (vI (by decide)) dL_law_434 ?_
  refine lv_aload_n hx hb dL_law_435 rfl (lv_at hl 0 rfl) ?_
  refine lv_iload hx hb dL_law_436 (lv_at hl 4 rfl) ?_
  refine lv_iconst (v := 2) hx hb dL_law_438 (by decide) ?_
  refine lv_iadd hx hb dL_law_439 ?_
  refine va_sld (A := A0 s) hx hb hX hbl hbA hS (vI (by decide)) dL_law_440 ?_
  refine l_Vi (As := [.int (xs (0 + 1 : Int32).toNatClampNeg), .int (xs (0 + 2 : Int32).toNatClampNeg)]) S (M11_wave l D cy s.heap.size (Aw s.heap.size 110) false ex) gL_11_wave rfl rfl rfl cdL_11_wave ⟨Nat.le_of_ble_eq_true rfl, Nat.le_of_ble_eq_true rfl⟩ I1 (Nat.le_refl _) hox clX11 rfl rfl hl.1 rfl (Nat.le_of_ble_eq_true rfl) dL_law_441 ⟨Nat.le_of_ble_eq_true rfl, Nat.le_of_ble_eq_true rfl⟩ (fun H1 locs1 J1 hk1 => ?_)
  have I2 := LM_kept I2 (A := Aw s.heap.size 110) (fun i hi z => by have := z.2; omega) hk1 J1.2.2.1
  have hS := I2.2.2.1
  refine lv_aload_n hx hb dL_law_444 rfl (lv_at hl 2 rfl) ?_
  refine lv_aload_n hx hb dL_law_445 rfl (lv_at hl 0 rfl) ?_
  refine lv_iload hx hb dL_law_446 (lv_at hl 4 rfl) ?_
  refine lv_iconst (v := 1) hx hb dL_law_448 (by decide) ?_
  refine lv_iadd hx hb dL_law_449 ?_
  refine va_sld (A := A0 s) hx hb hX hbl hbA hS (vI (by decide)) dL_law_450 ?_
  refine lv_aload_n hx hb dL_law_451 rfl (lv_at hl 0 rfl) ?_
  refine lv_iload hx hb dL_law_452 (lv_at hl 4 rfl) ?_
  refine lv_iconst (v := 2) hx hb dL_law_454 (by decide) ?_
  refine lv_iadd hx hb dL_law_455 ?_
  refine va_sld (A := A0 s) hx hb hX hbl hbA hS (vI (by decide)) dL_law_456 ?_
  refine l_Vi (As := [.int (xs (0 + 1 : Int32).toNatClampNeg), .int (xs (0 + 2 : Int32).toNatClampNeg)]) S (M12_wave l D cy (s.heap.size + 110) (Aw (s.heap.size + 110) 43) false em) gL_12_wave rfl rfl rfl cdL_12_wave ⟨Nat.le_of_ble_eq_true rfl, Nat.le_of_ble_eq_true rfl⟩ I2 (Nat.le_add_right _ _) hom clX12 rfl rfl hl.1 rfl (Nat.le_of_ble_eq_true rfl) dL_law_457 ⟨Nat.le_of_ble_eq_true rfl, Nat.le_of_ble_eq_true rfl⟩ (fun H2 locs2 J2 hk2 => ?_)
  refine lv_icmp_eq (tgt := 1555) hx hb dL_law_460 (by decide) (fun _ => ?_) (fun z => absurd exm z)
  exact law_tail S hr hlo hX hbl J2.2.2.1 (Nat.le_of_ble_eq_true rfl) (Nat.le_of_ble_eq_true rfl) (lv_sub hl [0, 4] rfl)
theorem lc_465 (S : CallFix p m c cL_law 7 s #[Value.ref b] lw_tbl RL) (hr : meth.sig.returnType = ret) (hlo : meth.locks = false) (hX : va_X b 6 xs s s.heap) (hbl : b < s.heap.size) (I1 : LM D cy s.heap.size 110 hxF s H locs) (I2 : LM D cy (s.heap.size + 110) 43 hmF s H locs) {q3 : Nat} (hl : lv_has ls 7 [(0, .ref b), (1, .ref (s.heap.size + 0)), (2, .ref (s.heap.size + 110 + 0)), (3, .ref q3), (4, .int 0)]) : W p l e room_1 s m #[Value.ref b] below meth c H locs 154 5406 (lw_Z below #[Value.ref b] s) (F0 m 465 ls []) := by
  have hbA : ¬ A0 s b := Nat.not_le.mpr hbl
  have hx := S.1
  have hb := S.2.1
  have hS := I1.2.2.1
  obtain ⟨ox, om, ex, em, exm⟩ := p_peak (xs (0 + 1 : Int32).toNatClampNeg)
  refine lv_aload_n hx hb dL_law_465 rfl (lv_at hl 1 rfl) ?_
  refine lv_aload_n hx hb dL_law_466 rfl (lv_at hl 0 rfl) ?_
  refine lv_iload hx hb dL_law_467 (lv_at hl 4 rfl) ?_
  refine lv_iconst (v := 1) hx hb dL_law_469 (by decide) ?_
  refine lv_iadd hx hb dL_law_470 ?_
  refine va_sld (A := A0 s) hx hb hX hbl hbA hS (vI (by decide)) dL_law_471 ?_
  refine l_Vi (As := [.int (xs (0 + 1 : Int32).toNatClampNeg)]) S (M11_peak l D cy s.heap.size (Aw s.heap.size 110) false ex) gL_11_peak rfl rfl rfl cdL_11_peak ⟨Nat.le_of_ble_eq_true rfl, Nat.le_of_ble_eq_true rfl⟩ I1 (Nat.le_refl _) hox clX11 rfl rfl hl.1 rfl (Nat.le_of_ble_eq_true rfl) dL_law_472 ⟨Nat.le_of_ble_eq_true rfl, Nat.le_of_ble_eq_true rfl⟩ (fun H1 locs1 J1 hk1 => ?_)
  have I2 := LM_kept I2 (A := Aw s.heap.size 110) (fun i hi z => by have := z.2; omega) hk1 J1.2.2.1
  have hS := I2.2.2.1
  refine lv_aload_n hx hb dL_law_475 rfl (lv_at hl 2 rfl) ?_
  refine lv_aload_n hx hb dL_law_476 rfl (lv_at hl 0 rfl) ?_
  refine lv_iload hx hb dL_law_477 (lv_at hl 4 rfl) ?_
  refine lv_iconst (v := 1) hx hb dL_law_479 (by decide) ?_
  refine lv_iadd hx hb dL_law_480 ?_
  refine va_sld (A := A0 s) hx hb hX hbl hbA hS (vI (by decide)) dL_law_481 ?_
  refine l_Vi (As := [.int (xs (0 + 1 : Int32).toNatClampNeg)]) S (M12_peak l D cy (s.heap.size + 110) (Aw (s.heap.size + 110) 43) false em) gL_12_peak rfl rfl rfl cdL_12_peak ⟨Nat.le_of_ble_eq_true rfl, Nat.le_of_ble_eq_true rfl⟩ I2 (Nat.le_add_right _ _) hom clX12 rfl rfl hl.1 rfl (Nat.le_of_ble_eq_true rfl) dL_law_482 ⟨Nat.le_of_ble_eq_true rfl, Nat.le_of_ble_eq_true rfl⟩ (fun H2 locs2 J2 hk2 => ?_)
  refine lv_icmp_eq (tgt := 1555) hx hb dL_law_485 (by decide) (fun _ => ?_) (fun z => absurd exm z)
  exact law_tail S hr hlo hX hbl J2.2.2.1 (Nat.le_of_ble_eq_true rfl) (Nat.le_of_ble_eq_true rfl) (lv_sub hl [0, 4] rfl)
theorem lc_490 (S : CallFix p m c cL_law 7 s #[Value.ref b] lw_tbl RL) (hr : meth.sig.returnType = ret) (hlo : meth.locks = false) (hX : va_X b 6 xs s s.heap) (hbl : b < s.heap.size) (I1 : LM D cy s.heap.size 110 hxF s H locs) (I2 : LM D cy (s.heap.size + 110) 43 hmF s H locs) {q3 : Nat} (hl : lv_has ls 7 [(0, .ref b), (1, .ref (s.heap.size + 0)), (2, .ref (s.heap.size + 110 + 0)), (3, .ref q3), (4, .int 0)]) : W p l e room_1 s m #[Value.ref b] below meth c H locs 154 5406 (lw_Z below #[Value.ref b] s) (F0 m 490 ls []) := by
  have hbA : ¬ A0 s b := Nat.not_le.mpr hbl
  have hx := S.1
  have hb := S.2.1
  have hS := I1.2.2.1
  obtain ⟨ox, om, ex, em, exm⟩ := p_odds (xs (0 + 1 : Int32).toNatClampNeg) (xs (0 + 2 : Int32).toNatClampNeg) (xs (0 + 3 : Int32).toNatClampNeg)
  refine lv_aload_n hx hb dL_law_490 rfl (lv_at hl 1 rfl) ?_
  refine lv_aload_n hx hb dL_law_491 rfl (lv_at hl 0 rfl) ?_
  refine lv_iload hx hb dL_law_492 (lv_at hl 4 rfl) ?_
  refine lv_iconst (v := 1) hx hb dL_law_494 (by decide) ?_
  refine lv_iadd hx hb dL_law_495 ?_
  refine va_sld (A := A0 s) hx hb hX hbl hbA hS (vI (by decide)) dL_law_496 ?_
  refine lv_aload_n hx hb dL_law_497 rfl (lv_at hl 0 rfl) ?_
  refine lv_iload hx hb dL_law_498 (lv_at hl 4 rfl) ?_
  refine lv_iconst (v := 2) hx hb dL_law_500 (by decide) ?_
  refine lv_iadd hx hb dL_law_501 ?_
  refine va_sld (A := A0 s) hx hb hX hbl hbA hS (vI (by decide)) dL_law_502 ?_
  refine lv_aload_n hx hb dL_law_503 rfl (lv_at hl 0 rfl) ?_
  refine lv_iload hx hb dL_law_504 (lv_at hl 4 rfl) ?_
  refine lv_iconst (v := 3) hx hb dL_law_506 (by decide) ?_
  refine lv_iadd hx hb dL_law_507 ?_
  refine va_sld (A := A0 s) hx hb hX hbl hbA hS (vI (by decide)) dL_law_508 ?_
  refine l_Vi (As := [.int (xs (0 + 1 : Int32).toNatClampNeg), .int (xs (0 + 2 : Int32).toNatClampNeg), .int (xs (0 + 3 : Int32).toNatClampNeg)]) S (M11_odds l D cy s.heap.size (Aw s.heap.size 110) false ex) gL_11_odds rfl rfl rfl cdL_11_odds ⟨Nat.le_of_ble_eq_true rfl, Nat.le_of_ble_eq_true rfl⟩ I1 (Nat.le_refl _) hox clX11 rfl rfl hl.1 rfl (Nat.le_of_ble_eq_true rfl) dL_law_509 ⟨Nat.le_of_ble_eq_true rfl, Nat.le_of_ble_eq_true rfl⟩ (fun H1 locs1 J1 hk1 => ?_)
  have I2 := LM_kept I2 (A := Aw s.heap.size 110) (fun i hi z => by have := z.2; omega) hk1 J1.2.2.1
  have hS := I2.2.2.1
  refine lv_aload_n hx hb dL_law_512 rfl (lv_at hl 2 rfl) ?_
  refine lv_aload_n hx hb dL_law_513 rfl (lv_at hl 0 rfl) ?_
  refine lv_iload hx hb dL_law_514 (lv_at hl 4 rfl) ?_
  refine lv_iconst (v := 1) hx hb dL_law_516 (by decide) ?_
  refine lv_iadd hx hb dL_law_517 ?_
  refine va_sld (A := A0 s) hx hb hX hbl hbA hS (vI (by decide)) dL_law_518 ?_
  refine lv_aload_n hx hb dL_law_519 rfl (lv_at hl 0 rfl) ?_
  refine lv_iload hx hb dL_law_520 (lv_at hl 4 rfl) ?_
  refine lv_iconst (v := 2) hx hb dL_law_522 (by decide) ?_
  refine lv_iadd hx hb dL_law_523 ?_
  refine va_sld (A := A0 s) hx hb hX hbl hbA hS (vI (by decide)) dL_law_524 ?_
  refine lv_aload_n hx hb dL_law_525 rfl (lv_at hl 0 rfl) ?_
  refine lv_iload hx hb dL_law_526 (lv_at hl 4 rfl) ?_
  refine lv_iconst (v := 3) hx hb dL_law_528 (by decide) ?_
  refine lv_iadd hx hb dL_law_529 ?_
  refine va_sld (A := A0 s) hx hb hX hbl hbA hS (vI (by decide)) dL_law_530 ?_
  refine l_Vi (As := [.int (xs (0 + 1 : Int32).toNatClampNeg), .int (xs (0 + 2 : Int32).toNatClampNeg), .int (xs (0 + 3 : Int32).toNatClampNeg)]) S (M12_odds l D cy (s.heap.size + 110) (Aw (s.heap.size + 110) 43) false em) gL_12_odds rfl rfl rfl cdL_12_odds ⟨Nat.le_of_ble_eq_true rfl, Nat.le_of_ble_eq_true rfl⟩ I2 (Nat.le_add_right _ _) hom clX12 rfl rfl hl.1 rfl (Nat.le_of_ble_eq_true rfl) dL_law_531 ⟨Nat.le_of_ble_eq_true rfl, Nat.le_of_ble_eq_true rfl⟩ (fun H2 locs2 J2 hk2 => ?_)
  refine lv_icmp_eq (tgt := 1555) hx hb dL_law_534 (by decide) (fun _ => ?_) (fun z => absurd exm z)
  exact law_tail S hr hlo hX hbl J2.2.2.1 (Nat.le_of_ble_eq_true rfl) (Nat.le_of_ble_eq_true rfl) (lv_sub hl [0, 4] rfl)
theorem lc_539 (S : CallFix p m c cL_law 7 s #[Value.ref b] lw_tbl RL) (hr : meth.sig.returnType = ret) (hlo : meth.locks = false) (hX : va_X b 6 xs s s.heap) (hbl : b < s.heap.size) (I1 : LM D cy s.heap.size 110 hxF s H locs) (I2 : LM D cy (s.heap.size + 110) 43 hmF s H locs) {q3 : Nat} (hl : lv_has ls 7 [(0, .ref b), (1, .ref (s.heap.size + 0)), (2, .ref (s.heap.size + 110 + 0)), (3, .ref q3), (4, .int 0)]) : W p l e room_1 s m #[Value.ref b] below meth c H locs 154 5406 (lw_Z below #[Value.ref b] s) (F0 m 539 ls []) := by
  have hbA : ¬ A0 s b := Nat.not_le.mpr hbl
  have hx := S.1
  have hb := S.2.1
  have hS := I1.2.2.1
  obtain ⟨ox, om, ex, em, exm⟩ := p_law (xs (0 + 1 : Int32).toNatClampNeg) (xs (0 + 2 : Int32).toNatClampNeg) (xs (0 + 3 : Int32).toNatClampNeg)
  refine lv_aload_n hx hb dL_law_539 rfl (lv_at hl 1 rfl) ?_
  refine lv_aload_n hx hb dL_law_540 rfl (lv_at hl 0 rfl) ?_
  refine lv_iload hx hb dL_law_541 (lv_at hl 4 rfl) ?_
  refine lv_iconst (v := 1) hx hb dL_law_543 (by decide) ?_
  refine lv_iadd hx hb dL_law_544 ?_
  refine va_sld (A := A0 s) hx hb hX hbl hbA hS (vI (by decide)) dL_law_545 ?_
  refine lv_aload_n hx hb dL_law_546 rfl (lv_at hl 0 rfl) ?_
  refine lv_iload hx hb dL_law_547 (lv_at hl 4 rfl) ?_
  refine lv_iconst (v := 2) hx hb dL_law_549 (by decide) ?_
  refine lv_iadd hx hb dL_law_550 ?_
  refine va_sld (A := A0 s) hx hb hX hbl hbA hS (vI (by decide)) dL_law_551 ?_
  refine lv_aload_n hx hb dL_law_552 rfl (lv_at hl 0 rfl) ?_
  refine lv_iload hx hb dL_law_553 (lv_at hl 4 rfl) ?_
  refine lv_iconst (v := 3) hx hb dL_law_555 (by decide) ?_
  refine lv_iadd hx hb dL_law_556 ?_
  refine va_sld (A := A0 s) hx hb hX hbl hbA hS (vI (by decide)) dL_law_557 ?_
  refine l_Vl (As := [.int (xs (0 + 1 : Int32).toNatClampNeg), .int (xs (0 + 2 : Int32).toNatClampNeg), .int (xs (0 + 3 : Int32).toNatClampNeg)]) S (M11_law l D cy s.heap.size (Aw s.heap.size 110) false ex) gL_11_law rfl rfl rfl cdL_11_law ⟨Nat.le_of_ble_eq_true rfl, Nat.le_of_ble_eq_true rfl⟩ I1 (Nat.le_refl _) hox clX11 rfl rfl hl.1 rfl (Nat.le_of_ble_eq_true rfl) dL_law_558 ⟨Nat.le_of_ble_eq_true rfl, Nat.le_of_ble_eq_true rfl⟩ (fun H1 locs1 J1 hk1 => ?_)
  have I2 := LM_kept I2 (A := Aw s.heap.size 110) (fun i hi z => by have := z.2; omega) hk1 J1.2.2.1
  have hS := I2.2.2.1
  refine lv_aload_n hx hb dL_law_561 rfl (lv_at hl 2 rfl) ?_
  refine lv_aload_n hx hb dL_law_562 rfl (lv_at hl 0 rfl) ?_
  refine lv_iload hx hb dL_law_563 (lv_at hl 4 rfl) ?_
  refine lv_iconst (v := 1) hx hb dL_law_565 (by decide) ?_
  refine lv_iadd hx hb dL_law_566 ?_
  refine va_sld (A := A0 s) hx hb hX hbl hbA hS (vI (by decide)) dL_law_567 ?_
  refine lv_aload_n hx hb dL_law_568 rfl (lv_at hl 0 rfl) ?_
  refine lv_iload hx hb dL_law_569 (lv_at hl 4 rfl) ?_
  refine lv_iconst (v := 2) hx hb dL_law_571 (by decide) ?_
  refine lv_iadd hx hb dL_law_572 ?_
  refine va_sld (A := A0 s) hx hb hX hbl hbA hS (vI (by decide)) dL_law_573 ?_
  refine lv_aload_n hx hb dL_law_574 rfl (lv_at hl 0 rfl) ?_
  refine lv_iload hx hb dL_law_575 (lv_at hl 4 rfl) ?_
  refine lv_iconst (v := 3) hx hb dL_law_577 (by decide) ?_
  refine lv_iadd hx hb dL_law_578 ?_
  refine va_sld (A := A0 s) hx hb hX hbl hbA hS (vI (by decide)) dL_law_579 ?_
  refine l_Vl (As := [.int (xs (0 + 1 : Int32).toNatClampNeg), .int (xs (0 + 2 : Int32).toNatClampNeg), .int (xs (0 + 3 : Int32).toNatClampNeg)]) S (M12_law l D cy (s.heap.size + 110) (Aw (s.heap.size + 110) 43) false em) gL_12_law rfl rfl rfl cdL_12_law ⟨Nat.le_of_ble_eq_true rfl, Nat.le_of_ble_eq_true rfl⟩ I2 (Nat.le_add_right _ _) hom clX12 rfl rfl hl.1 rfl (Nat.le_of_ble_eq_true rfl) dL_law_580 ⟨Nat.le_of_ble_eq_true rfl, Nat.le_of_ble_eq_true rfl⟩ (fun H2 locs2 J2 hk2 => ?_)
  refine W.lcmp hx hb dL_law_583 ?_
  refine lv_if_eq (tgt := 1555) hx hb dL_law_584 (by decide) (fun _ => ?_) (fun z => absurd (by rw [exm]; exact cmp_self _) z)
  exact law_tail S hr hlo hX hbl J2.2.2.1 (Nat.le_of_ble_eq_true rfl) (Nat.le_of_ble_eq_true rfl) (lv_sub hl [0, 4] rfl)
theorem lc_589 (S : CallFix p m c cL_law 7 s #[Value.ref b] lw_tbl RL) (hr : meth.sig.returnType = ret) (hlo : meth.locks = false) (hX : va_X b 6 xs s s.heap) (hbl : b < s.heap.size) (I1 : LM D cy s.heap.size 110 hxF s H locs) (I2 : LM D cy (s.heap.size + 110) 43 hmF s H locs) {q3 : Nat} (hl : lv_has ls 7 [(0, .ref b), (1, .ref (s.heap.size + 0)), (2, .ref (s.heap.size + 110 + 0)), (3, .ref q3), (4, .int 0)]) : W p l e room_1 s m #[Value.ref b] below meth c H locs 154 5406 (lw_Z below #[Value.ref b] s) (F0 m 589 ls []) := by
  have hbA : ¬ A0 s b := Nat.not_le.mpr hbl
  have hx := S.1
  have hb := S.2.1
  have hS := I1.2.2.1
  obtain ⟨ox, om, ex, em, exm⟩ := p_stroke (xs (0 + 1 : Int32).toNatClampNeg) (xs (0 + 2 : Int32).toNatClampNeg)
  refine lv_aload_n hx hb dL_law_589 rfl (lv_at hl 1 rfl) ?_
  refine lv_aload_n hx hb dL_law_590 rfl (lv_at hl 0 rfl) ?_
  refine lv_iload hx hb dL_law_591 (lv_at hl 4 rfl) ?_
  refine lv_iconst (v := 1) hx hb dL_law_593 (by decide) ?_
  refine lv_iadd hx hb dL_law_594 ?_
  refine va_sld (A := A0 s) hx hb hX hbl hbA hS (vI (by decide)) dL_law_595 ?_
  refine lv_aload_n hx hb dL_law_596 rfl (lv_at hl 0 rfl) ?_
  refine lv_iload hx hb dL_law_597 (lv_at hl 4 rfl) ?_
  refine lv_iconst (v := 2) hx hb dL_law_599 (by decide) ?_
  refine lv_iadd hx hb dL_law_600 ?_
  refine va_sld (A := A0 s) hx hb hX hbl hbA hS (vI (by decide)) dL_law_601 ?_
  refine l_Vi (As := [.int (xs (0 + 1 : Int32).toNatClampNeg), .int (xs (0 + 2 : Int32).toNatClampNeg)]) S (M11_stroke l D cy s.heap.size (Aw s.heap.size 110) ex) gL_11_stroke rfl rfl rfl cdL_11_stroke ⟨Nat.le_of_ble_eq_true rfl, Nat.le_of_ble_eq_true rfl⟩ I1 (Nat.le_refl _) hox clX11 rfl rfl hl.1 rfl (Nat.le_of_ble_eq_true rfl) dL_law_602 ⟨Nat.le_of_ble_eq_true rfl, Nat.le_of_ble_eq_true rfl⟩ (fun H1 locs1 J1 hk1 => ?_)
  have I2 := LM_kept I2 (A := Aw s.heap.size 110) (fun i hi z => by have := z.2; omega) hk1 J1.2.2.1
  have hS := I2.2.2.1
  refine lv_aload_n hx hb dL_law_605 rfl (lv_at hl 2 rfl) ?_
  refine lv_aload_n hx hb dL_law_606 rfl (lv_at hl 0 rfl) ?_
  refine lv_iload hx hb dL_law_607 (lv_at hl 4 rfl) ?_
  refine lv_iconst (v := 1) hx hb dL_law_609 (by decide) ?_
  refine lv_iadd hx hb dL_law_610 ?_
  refine va_sld (A := A0 s) hx hb hX hbl hbA hS (vI (by decide)) dL_law_611 ?_
  refine lv_aload_n hx hb dL_law_612 rfl (lv_at hl 0 rfl) ?_
  refine lv_iload hx hb dL_law_613 (lv_at hl 4 rfl) ?_
  refine lv_iconst (v := 2) hx hb dL_law_615 (by decide) ?_
  refine lv_iadd hx hb dL_law_616 ?_
  refine va_sld (A := A0 s) hx hb hX hbl hbA hS (vI (by decide)) dL_law_617 ?_
  refine l_Vi (As := [.int (xs (0 + 1 : Int32).toNatClampNeg), .int (xs (0 + 2 : Int32).toNatClampNeg)]) S (M12_stroke l D cy (s.heap.size + 110) (Aw (s.heap.size + 110) 43) false em) gL_12_stroke rfl rfl rfl cdL_12_stroke ⟨Nat.le_of_ble_eq_true rfl, Nat.le_of_ble_eq_true rfl⟩ I2 (Nat.le_add_right _ _) hom clX12 rfl rfl hl.1 rfl (Nat.le_of_ble_eq_true rfl) dL_law_618 ⟨Nat.le_of_ble_eq_true rfl, Nat.le_of_ble_eq_true rfl⟩ (fun H2 locs2 J2 hk2 => ?_)
  refine lv_icmp_eq (tgt := 1555) hx hb dL_law_621 (by decide) (fun _ => ?_) (fun z => absurd exm z)
  exact law_tail S hr hlo hX hbl J2.2.2.1 (Nat.le_of_ble_eq_true rfl) (Nat.le_of_ble_eq_true rfl) (lv_sub hl [0, 4] rfl)
theorem lc_626 (S : CallFix p m c cL_law 7 s #[Value.ref b] lw_tbl RL) (hr : meth.sig.returnType = ret) (hlo : meth.locks = false) (hX : va_X b 6 xs s s.heap) (hbl : b < s.heap.size) (I1 : LM D cy s.heap.size 110 hxF s H locs) (I2 : LM D cy (s.heap.size + 110) 43 hmF s H locs) {q3 : Nat} (hl : lv_has ls 7 [(0, .ref b), (1, .ref (s.heap.size + 0)), (2, .ref (s.heap.size + 110 + 0)), (3, .ref q3), (4, .int 0)]) : W p l e room_1 s m #[Value.ref b] below meth c H locs 154 5406 (lw_Z below #[Value.ref b] s) (F0 m 626 ls []) := by
  have hbA : ¬ A0 s b := Nat.not_le.mpr hbl
  have hx := S.1
  have hb := S.2.1
  have hS := I1.2.2.1
  obtain ⟨ox, om, ex, em, exm⟩ := p_rule (xs (0 + 1 : Int32).toNatClampNeg)
  refine lv_aload_n hx hb dL_law_626 rfl (lv_at hl 1 rfl) ?_
  refine lv_aload_n hx hb dL_law_627 rfl (lv_at hl 0 rfl) ?_
  refine lv_iload hx hb dL_law_628 (lv_at hl 4 rfl) ?_
  refine lv_iconst (v := 1) hx hb dL_law_630 (by decide) ?_
  refine lv_iadd hx hb dL_law_631 ?_
  refine va_sld (A := A0 s) hx hb hX hbl hbA hS (vI (by decide)) dL_law_632 ?_
  refine l_Vi (As := [.int (xs (0 + 1 : Int32).toNatClampNeg)]) S (M11_rule l D cy s.heap.size (Aw s.heap.size 110) ex) gL_11_rule rfl rfl rfl cdL_11_rule ⟨Nat.le_of_ble_eq_true rfl, Nat.le_of_ble_eq_true rfl⟩ I1 (Nat.le_refl _) hox clX11 rfl rfl hl.1 rfl (Nat.le_of_ble_eq_true rfl) dL_law_633 ⟨Nat.le_of_ble_eq_true rfl, Nat.le_of_ble_eq_true rfl⟩ (fun H1 locs1 J1 hk1 => ?_)
  have I2 := LM_kept I2 (A := Aw s.heap.size 110) (fun i hi z => by have := z.2; omega) hk1 J1.2.2.1
  have hS := I2.2.2.1
  refine lv_aload_n hx hb dL_law_636 rfl (lv_at hl 2 rfl) ?_
  refine lv_aload_n hx hb dL_law_637 rfl (lv_at hl 0 rfl) ?_
  refine lv_iload hx hb dL_law_638 (lv_at hl 4 rfl) ?_
  refine lv_iconst (v := 1) hx hb dL_law_640 (by decide) ?_
  refine lv_iadd hx hb dL_law_641 ?_
  refine va_sld (A := A0 s) hx hb hX hbl hbA hS (vI (by decide)) dL_law_642 ?_
  refine l_Vi (As := [.int (xs (0 + 1 : Int32).toNatClampNeg)]) S (M12_rule l D cy (s.heap.size + 110) (Aw (s.heap.size + 110) 43) false em) gL_12_rule rfl rfl rfl cdL_12_rule ⟨Nat.le_of_ble_eq_true rfl, Nat.le_of_ble_eq_true rfl⟩ I2 (Nat.le_add_right _ _) hom clX12 rfl rfl hl.1 rfl (Nat.le_of_ble_eq_true rfl) dL_law_643 ⟨Nat.le_of_ble_eq_true rfl, Nat.le_of_ble_eq_true rfl⟩ (fun H2 locs2 J2 hk2 => ?_)
  refine lv_icmp_eq (tgt := 1555) hx hb dL_law_646 (by decide) (fun _ => ?_) (fun z => absurd exm z)
  exact law_tail S hr hlo hX hbl J2.2.2.1 (Nat.le_of_ble_eq_true rfl) (Nat.le_of_ble_eq_true rfl) (lv_sub hl [0, 4] rfl)
theorem lc_651 (S : CallFix p m c cL_law 7 s #[Value.ref b] lw_tbl RL) (hr : meth.sig.returnType = ret) (hlo : meth.locks = false) (hX : va_X b 6 xs s s.heap) (hbl : b < s.heap.size) (I1 : LM D cy s.heap.size 110 hxF s H locs) (I2 : LM D cy (s.heap.size + 110) 43 hmF s H locs) {q3 : Nat} (hl : lv_has ls 7 [(0, .ref b), (1, .ref (s.heap.size + 0)), (2, .ref (s.heap.size + 110 + 0)), (3, .ref q3), (4, .int 0)]) : W p l e room_1 s m #[Value.ref b] below meth c H locs 154 5406 (lw_Z below #[Value.ref b] s) (F0 m 651 ls []) := by
  have hbA : ¬ A0 s b := Nat.not_le.mpr hbl
  have hx := S.1
  have hb := S.2.1
  have hS := I1.2.2.1
  obtain ⟨ox, om, ex, em, exm⟩ := p_minutes (xs (0 + 1 : Int32).toNatClampNeg)
  refine lv_aload_n hx hb dL_law_651 rfl (lv_at hl 1 rfl) ?_
  refine lv_aload_n hx hb dL_law_652 rfl (lv_at hl 0 rfl) ?_
  refine lv_iload hx hb dL_law_653 (lv_at hl 4 rfl) ?_
  refine lv_iconst (v := 1) hx hb dL_law_655 (by decide) ?_
  refine lv_iadd hx hb dL_law_656 ?_
  refine va_sld (A := A0 s) hx hb hX hbl hbA hS (vI (by decide)) dL_law_657 ?_
  refine l_Vi (As := [.int (xs (0 + 1 : Int32).toNatClampNeg)]) S (M11_minutes l D cy s.heap.size (Aw s.heap.size 110) false ex) gL_11_minutes rfl rfl rfl cdL_11_minutes ⟨Nat.le_of_ble_eq_true rfl, Nat.le_of_ble_eq_true rfl⟩ I1 (Nat.le_refl _) hox clX11 rfl rfl hl.1 rfl (Nat.le_of_ble_eq_true rfl) dL_law_658 ⟨Nat.le_of_ble_eq_true rfl, Nat.le_of_ble_eq_true rfl⟩ (fun H1 locs1 J1 hk1 => ?_)
  have I2 := LM_kept I2 (A := Aw s.heap.size 110) (fun i hi z => by have := z.2; omega) hk1 J1.2.2.1
  have hS := I2.2.2.1
  refine lv_aload_n hx hb dL_law_661 rfl (lv_at hl 2 rfl) ?_
  refine lv_aload_n hx hb dL_law_662 rfl (lv_at hl 0 rfl) ?_
  refine lv_iload hx hb dL_law_663 (lv_at hl 4 rfl) ?_
  refine lv_iconst (v := 1) hx hb dL_law_665 (by decide) ?_
  refine lv_iadd hx hb dL_law_666 ?_
  refine va_sld (A := A0 s) hx hb hX hbl hbA hS (vI (by decide)) dL_law_667 ?_
  refine l_Vi (As := [.int (xs (0 + 1 : Int32).toNatClampNeg)]) S (M12_minutes l D cy (s.heap.size + 110) (Aw (s.heap.size + 110) 43) false em) gL_12_minutes rfl rfl rfl cdL_12_minutes ⟨Nat.le_of_ble_eq_true rfl, Nat.le_of_ble_eq_true rfl⟩ I2 (Nat.le_add_right _ _) hom clX12 rfl rfl hl.1 rfl (Nat.le_of_ble_eq_true rfl) dL_law_668 ⟨Nat.le_of_ble_eq_true rfl, Nat.le_of_ble_eq_true rfl⟩ (fun H2 locs2 J2 hk2 => ?_)
  refine lv_icmp_eq (tgt := 1555) hx hb dL_law_671 (by decide) (fun _ => ?_) (fun z => absurd exm z)
  exact law_tail S hr hlo hX hbl J2.2.2.1 (Nat.le_of_ble_eq_true rfl) (Nat.le_of_ble_eq_true rfl) (lv_sub hl [0, 4] rfl)
theorem lc_676 (S : CallFix p m c cL_law 7 s #[Value.ref b] lw_tbl RL) (hr : meth.sig.returnType = ret) (hlo : meth.locks = false) (hX : va_X b 6 xs s s.heap) (hbl : b < s.heap.size) (I1 : LM D cy s.heap.size 110 hxF s H locs) (I2 : LM D cy (s.heap.size + 110) 43 hmF s H locs) {q3 : Nat} (hl : lv_has ls 7 [(0, .ref b), (1, .ref (s.heap.size + 0)), (2, .ref (s.heap.size + 110 + 0)), (3, .ref q3), (4, .int 0)]) : W p l e room_1 s m #[Value.ref b] below meth c H locs 154 5406 (lw_Z below #[Value.ref b] s) (F0 m 676 ls []) := by
  have hbA : ¬ A0 s b := Nat.not_le.mpr hbl
  have hx := S.1
  have hb := S.2.1
  have hS := I1.2.2.1
  obtain ⟨ox, om, ex, em, exm⟩ := p_order (xs (0 + 1 : Int32).toNatClampNeg) (xs (0 + 2 : Int32).toNatClampNeg)
  refine lv_aload_n hx hb dL_law_676 rfl (lv_at hl 1 rfl) ?_
  refine lv_aload_n hx hb dL_law_677 rfl (lv_at hl 0 rfl) ?_
  refine lv_iload hx hb dL_law_678 (lv_at hl 4 rfl) ?_
  refine lv_iconst (v := 1) hx hb dL_law_680 (by decide) ?_
  refine lv_iadd hx hb dL_law_681 ?_
  refine va_sld (A := A0 s) hx hb hX hbl hbA hS (vI (by decide)) dL_law_682 ?_
  refine lv_aload_n hx hb dL_law_683 rfl (lv_at hl 0 rfl) ?_
  refine lv_iload hx hb dL_law_684 (lv_at hl 4 rfl) ?_
  refine lv_iconst (v := 2) hx hb dL_law_686 (by decide) ?_
  refine lv_iadd hx hb dL_law_687 ?_
  refine va_sld (A := A0 s) hx hb hX hbl hbA hS (vI (by decide)) dL_law_688 ?_
  refine l_Vi (As := [.int (xs (0 + 1 : Int32).toNatClampNeg), .int (xs (0 + 2 : Int32).toNatClampNeg)]) S (M11_order l D cy s.heap.size (Aw s.heap.size 110) false ex) gL_11_order rfl rfl rfl cdL_11_order ⟨Nat.le_of_ble_eq_true rfl, Nat.le_of_ble_eq_true rfl⟩ I1 (Nat.le_refl _) hox clX11 rfl rfl hl.1 rfl (Nat.le_of_ble_eq_true rfl) dL_law_689 ⟨Nat.le_of_ble_eq_true rfl, Nat.le_of_ble_eq_true rfl⟩ (fun H1 locs1 J1 hk1 => ?_)
  have I2 := LM_kept I2 (A := Aw s.heap.size 110) (fun i hi z => by have := z.2; omega) hk1 J1.2.2.1
  have hS := I2.2.2.1
  refine lv_aload_n hx hb dL_law_692 rfl (lv_at hl 2 rfl) ?_
  refine lv_aload_n hx hb dL_law_693 rfl (lv_at hl 0 rfl) ?_
  refine lv_iload hx hb dL_law_694 (lv_at hl 4 rfl) ?_
  refine lv_iconst (v := 1) hx hb dL_law_696 (by decide) ?_
  refine lv_iadd hx hb dL_law_697 ?_
  refine va_sld (A := A0 s) hx hb hX hbl hbA hS (vI (by decide)) dL_law_698 ?_
  refine lv_aload_n hx hb dL_law_699 rfl (lv_at hl 0 rfl) ?_
  refine lv_iload hx hb dL_law_700 (lv_at hl 4 rfl) ?_
  refine lv_iconst (v := 2) hx hb dL_law_702 (by decide) ?_
  refine lv_iadd hx hb dL_law_703 ?_
  refine va_sld (A := A0 s) hx hb hX hbl hbA hS (vI (by decide)) dL_law_704 ?_
  refine l_Vi (As := [.int (xs (0 + 1 : Int32).toNatClampNeg), .int (xs (0 + 2 : Int32).toNatClampNeg)]) S (M12_order l D cy (s.heap.size + 110) (Aw (s.heap.size + 110) 43) false em) gL_12_order rfl rfl rfl cdL_12_order ⟨Nat.le_of_ble_eq_true rfl, Nat.le_of_ble_eq_true rfl⟩ I2 (Nat.le_add_right _ _) hom clX12 rfl rfl hl.1 rfl (Nat.le_of_ble_eq_true rfl) dL_law_705 ⟨Nat.le_of_ble_eq_true rfl, Nat.le_of_ble_eq_true rfl⟩ (fun H2 locs2 J2 hk2 => ?_)
  refine lv_icmp_eq (tgt := 1555) hx hb dL_law_708 (by decide) (fun _ => ?_) (fun z => absurd exm z)
  exact law_tail S hr hlo hX hbl J2.2.2.1 (Nat.le_of_ble_eq_true rfl) (Nat.le_of_ble_eq_true rfl) (lv_sub hl [0, 4] rfl)
theorem lc_713 (S : CallFix p m c cL_law 7 s #[Value.ref b] lw_tbl RL) (hr : meth.sig.returnType = ret) (hlo : meth.locks = false) (hX : va_X b 6 xs s s.heap) (hbl : b < s.heap.size) (I1 : LM D cy s.heap.size 110 hxF s H locs) (I2 : LM D cy (s.heap.size + 110) 43 hmF s H locs) {q3 : Nat} (hl : lv_has ls 7 [(0, .ref b), (1, .ref (s.heap.size + 0)), (2, .ref (s.heap.size + 110 + 0)), (3, .ref q3), (4, .int 0)]) : W p l e room_1 s m #[Value.ref b] below meth c H locs 154 5406 (lw_Z below #[Value.ref b] s) (F0 m 713 ls []) := by
  have hbA : ¬ A0 s b := Nat.not_le.mpr hbl
  have hx := S.1
  have hb := S.2.1
  have hS := I1.2.2.1
  obtain ⟨ox, om, ex, em, exm⟩ := p_deeper (xs (0 + 1 : Int32).toNatClampNeg) (xs (0 + 2 : Int32).toNatClampNeg)
  refine lv_aload_n hx hb dL_law_713 rfl (lv_at hl 1 rfl) ?_
  refine lv_aload_n hx hb dL_law_714 rfl (lv_at hl 0 rfl) ?_
  refine lv_iload hx hb dL_law_715 (lv_at hl 4 rfl) ?_
  refine lv_iconst (v := 1) hx hb dL_law_717 (by decide) ?_
  refine lv_iadd hx hb dL_law_718 ?_
  refine va_sld (A := A0 s) hx hb hX hbl hbA hS (vI (by decide)) dL_law_719 ?_
  refine lv_aload_n hx hb dL_law_720 rfl (lv_at hl 0 rfl) ?_
  refine lv_iload hx hb dL_law_721 (lv_at hl 4 rfl) ?_
  refine lv_iconst (v := 2) hx hb dL_law_723 (by decide) ?_
  refine lv_iadd hx hb dL_law_724 ?_
  refine va_sld (A := A0 s) hx hb hX hbl hbA hS (vI (by decide)) dL_law_725 ?_
  refine l_Vi (As := [.int (xs (0 + 1 : Int32).toNatClampNeg), .int (xs (0 + 2 : Int32).toNatClampNeg)]) S (M11_deeper l D cy s.heap.size (Aw s.heap.size 110) false ex) gL_11_deeper rfl rfl rfl cdL_11_deeper ⟨Nat.le_of_ble_eq_true rfl, Nat.le_of_ble_eq_true rfl⟩ I1 (Nat.le_refl _) hox clX11 rfl rfl hl.1 rfl (Nat.le_of_ble_eq_true rfl) dL_law_726 ⟨Nat.le_of_ble_eq_true rfl, Nat.le_of_ble_eq_true rfl⟩ (fun H1 locs1 J1 hk1 => ?_)
  have I2 := LM_kept I2 (A := Aw s.heap.size 110) (fun i hi z => by have := z.2; omega) hk1 J1.2.2.1
  have hS := I2.2.2.1
  refine lv_aload_n hx hb dL_law_729 rfl (lv_at hl 2 rfl) ?_
  refine lv_aload_n hx hb dL_law_730 rfl (lv_at hl 0 rfl) ?_
  refine lv_iload hx hb dL_law_731 (lv_at hl 4 rfl) ?_
  refine lv_iconst (v := 1) hx hb dL_law_733 (by decide) ?_
  refine lv_iadd hx hb dL_law_734 ?_
  refine va_sld (A := A0 s) hx hb hX hbl hbA hS (vI (by decide)) dL_law_735 ?_
  refine lv_aload_n hx hb dL_law_736 rfl (lv_at hl 0 rfl) ?_
  refine lv_iload hx hb dL_law_737 (lv_at hl 4 rfl) ?_
  refine lv_iconst (v := 2) hx hb dL_law_739 (by decide) ?_
  refine lv_iadd hx hb dL_law_740 ?_
  refine va_sld (A := A0 s) hx hb hX hbl hbA hS (vI (by decide)) dL_law_741 ?_
  refine l_Vi (As := [.int (xs (0 + 1 : Int32).toNatClampNeg), .int (xs (0 + 2 : Int32).toNatClampNeg)]) S (M12_deeper l D cy (s.heap.size + 110) (Aw (s.heap.size + 110) 43) false em) gL_12_deeper rfl rfl rfl cdL_12_deeper ⟨Nat.le_of_ble_eq_true rfl, Nat.le_of_ble_eq_true rfl⟩ I2 (Nat.le_add_right _ _) hom clX12 rfl rfl hl.1 rfl (Nat.le_of_ble_eq_true rfl) dL_law_742 ⟨Nat.le_of_ble_eq_true rfl, Nat.le_of_ble_eq_true rfl⟩ (fun H2 locs2 J2 hk2 => ?_)
  refine lv_icmp_eq (tgt := 1555) hx hb dL_law_745 (by decide) (fun _ => ?_) (fun z => absurd exm z)
  exact law_tail S hr hlo hX hbl J2.2.2.1 (Nat.le_of_ble_eq_true rfl) (Nat.le_of_ble_eq_true rfl) (lv_sub hl [0, 4] rfl)
theorem lc_750 (S : CallFix p m c cL_law 7 s #[Value.ref b] lw_tbl RL) (hr : meth.sig.returnType = ret) (hlo : meth.locks = false) (hX : va_X b 6 xs s s.heap) (hbl : b < s.heap.size) (I1 : LM D cy s.heap.size 110 hxF s H locs) (I2 : LM D cy (s.heap.size + 110) 43 hmF s H locs) {q3 : Nat} (hl : lv_has ls 7 [(0, .ref b), (1, .ref (s.heap.size + 0)), (2, .ref (s.heap.size + 110 + 0)), (3, .ref q3), (4, .int 0)]) : W p l e room_1 s m #[Value.ref b] below meth c H locs 154 5406 (lw_Z below #[Value.ref b] s) (F0 m 750 ls []) := by
  have hbA : ¬ A0 s b := Nat.not_le.mpr hbl
  have hx := S.1
  have hb := S.2.1
  have hS := I1.2.2.1
  obtain ⟨ox, om, ex, em, exm⟩ := p_seat (xs (0 + 1 : Int32).toNatClampNeg) (xs (0 + 2 : Int32).toNatClampNeg)
  refine lv_aload_n hx hb dL_law_750 rfl (lv_at hl 1 rfl) ?_
  refine lv_aload_n hx hb dL_law_751 rfl (lv_at hl 0 rfl) ?_
  refine lv_iload hx hb dL_law_752 (lv_at hl 4 rfl) ?_
  refine lv_iconst (v := 1) hx hb dL_law_754 (by decide) ?_
  refine lv_iadd hx hb dL_law_755 ?_
  refine va_sld (A := A0 s) hx hb hX hbl hbA hS (vI (by decide)) dL_law_756 ?_
  refine lv_aload_n hx hb dL_law_757 rfl (lv_at hl 0 rfl) ?_
  refine lv_iload hx hb dL_law_758 (lv_at hl 4 rfl) ?_
  refine lv_iconst (v := 2) hx hb dL_law_760 (by decide) ?_
  refine lv_iadd hx hb dL_law_761 ?_
  refine va_sld (A := A0 s) hx hb hX hbl hbA hS (vI (by decide)) dL_law_762 ?_
  refine l_Vi (As := [.int (xs (0 + 1 : Int32).toNatClampNeg), .int (xs (0 + 2 : Int32).toNatClampNeg)]) S (M11_seat l D cy s.heap.size (Aw s.heap.size 110) false ex) gL_11_seat rfl rfl rfl cdL_11_seat ⟨Nat.le_of_ble_eq_true rfl, Nat.le_of_ble_eq_true rfl⟩ I1 (Nat.le_refl _) hox clX11 rfl rfl hl.1 rfl (Nat.le_of_ble_eq_true rfl) dL_law_763 ⟨Nat.le_of_ble_eq_true rfl, Nat.le_of_ble_eq_true rfl⟩ (fun H1 locs1 J1 hk1 => ?_)
  have I2 := LM_kept I2 (A := Aw s.heap.size 110) (fun i hi z => by have := z.2; omega) hk1 J1.2.2.1
  have hS := I2.2.2.1
  refine lv_aload_n hx hb dL_law_766 rfl (lv_at hl 2 rfl) ?_
  refine lv_aload_n hx hb dL_law_767 rfl (lv_at hl 0 rfl) ?_
  refine lv_iload hx hb dL_law_768 (lv_at hl 4 rfl) ?_
  refine lv_iconst (v := 1) hx hb dL_law_770 (by decide) ?_
  refine lv_iadd hx hb dL_law_771 ?_
  refine va_sld (A := A0 s) hx hb hX hbl hbA hS (vI (by decide)) dL_law_772 ?_
  refine lv_aload_n hx hb dL_law_773 rfl (lv_at hl 0 rfl) ?_
  refine lv_iload hx hb dL_law_774 (lv_at hl 4 rfl) ?_
  refine lv_iconst (v := 2) hx hb dL_law_776 (by decide) ?_
  refine lv_iadd hx hb dL_law_777 ?_
  refine va_sld (A := A0 s) hx hb hX hbl hbA hS (vI (by decide)) dL_law_778 ?_
  refine l_Vi (As := [.int (xs (0 + 1 : Int32).toNatClampNeg), .int (xs (0 + 2 : Int32).toNatClampNeg)]) S (M12_seat l D cy (s.heap.size + 110) (Aw (s.heap.size + 110) 43) false em) gL_12_seat rfl rfl rfl cdL_12_seat ⟨Nat.le_of_ble_eq_true rfl, Nat.le_of_ble_eq_true rfl⟩ I2 (Nat.le_add_right _ _) hom clX12 rfl rfl hl.1 rfl (Nat.le_of_ble_eq_true rfl) dL_law_779 ⟨Nat.le_of_ble_eq_true rfl, Nat.le_of_ble_eq_true rfl⟩ (fun H2 locs2 J2 hk2 => ?_)
  refine lv_icmp_eq (tgt := 1555) hx hb dL_law_782 (by decide) (fun _ => ?_) (fun z => absurd exm z)
  exact law_tail S hr hlo hX hbl J2.2.2.1 (Nat.le_of_ble_eq_true rfl) (Nat.le_of_ble_eq_true rfl) (lv_sub hl [0, 4] rfl)
theorem lc_787 (S : CallFix p m c cL_law 7 s #[Value.ref b] lw_tbl RL) (hr : meth.sig.returnType = ret) (hlo : meth.locks = false) (hX : va_X b 6 xs s s.heap) (hbl : b < s.heap.size) (I1 : LM D cy s.heap.size 110 hxF s H locs) (I2 : LM D cy (s.heap.size + 110) 43 hmF s H locs) {q3 : Nat} (hl : lv_has ls 7 [(0, .ref b), (1, .ref (s.heap.size + 0)), (2, .ref (s.heap.size + 110 + 0)), (3, .ref q3), (4, .int 0)]) : W p l e room_1 s m #[Value.ref b] below meth c H locs 154 5406 (lw_Z below #[Value.ref b] s) (F0 m 787 ls []) := by
  have hbA : ¬ A0 s b := Nat.not_le.mpr hbl
  have hx := S.1
  have hb := S.2.1
  have hS := I1.2.2.1
  obtain ⟨ox, om, ex, em, exm⟩ := p_best (xs (0 + 1 : Int32).toNatClampNeg)
  refine lv_aload_n hx hb dL_law_787 rfl (lv_at hl 1 rfl) ?_
  refine lv_aload_n hx hb dL_law_788 rfl (lv_at hl 0 rfl) ?_
  refine lv_iload hx hb dL_law_789 (lv_at hl 4 rfl) ?_
  refine lv_iconst (v := 1) hx hb dL_law_791 (by decide) ?_
  refine lv_iadd hx hb dL_law_792 ?_
  refine va_sld (A := A0 s) hx hb hX hbl hbA hS (vI (by decide)) dL_law_793 ?_
  refine l_Vi (As := [.int (xs (0 + 1 : Int32).toNatClampNeg)]) S (M11_best l D cy s.heap.size (Aw s.heap.size 110) false ex) gL_11_best rfl rfl rfl cdL_11_best ⟨Nat.le_of_ble_eq_true rfl, Nat.le_of_ble_eq_true rfl⟩ I1 (Nat.le_refl _) hox clX11 rfl rfl hl.1 rfl (Nat.le_of_ble_eq_true rfl) dL_law_794 ⟨Nat.le_of_ble_eq_true rfl, Nat.le_of_ble_eq_true rfl⟩ (fun H1 locs1 J1 hk1 => ?_)
  have I2 := LM_kept I2 (A := Aw s.heap.size 110) (fun i hi z => by have := z.2; omega) hk1 J1.2.2.1
  have hS := I2.2.2.1
  refine lv_aload_n hx hb dL_law_797 rfl (lv_at hl 2 rfl) ?_
  refine lv_aload_n hx hb dL_law_798 rfl (lv_at hl 0 rfl) ?_
  refine lv_iload hx hb dL_law_799 (lv_at hl 4 rfl) ?_
  refine lv_iconst (v := 1) hx hb dL_law_801 (by decide) ?_
  refine lv_iadd hx hb dL_law_802 ?_
  refine va_sld (A := A0 s) hx hb hX hbl hbA hS (vI (by decide)) dL_law_803 ?_
  refine l_Vi (As := [.int (xs (0 + 1 : Int32).toNatClampNeg)]) S (M12_best l D cy (s.heap.size + 110) (Aw (s.heap.size + 110) 43) false em) gL_12_best rfl rfl rfl cdL_12_best ⟨Nat.le_of_ble_eq_true rfl, Nat.le_of_ble_eq_true rfl⟩ I2 (Nat.le_add_right _ _) hom clX12 rfl rfl hl.1 rfl (Nat.le_of_ble_eq_true rfl) dL_law_804 ⟨Nat.le_of_ble_eq_true rfl, Nat.le_of_ble_eq_true rfl⟩ (fun H2 locs2 J2 hk2 => ?_)
  refine lv_icmp_eq (tgt := 1555) hx hb dL_law_807 (by decide) (fun _ => ?_) (fun z => absurd exm z)
  exact law_tail S hr hlo hX hbl J2.2.2.1 (Nat.le_of_ble_eq_true rfl) (Nat.le_of_ble_eq_true rfl) (lv_sub hl [0, 4] rfl)
theorem lc_812 (S : CallFix p m c cL_law 7 s #[Value.ref b] lw_tbl RL) (hr : meth.sig.returnType = ret) (hlo : meth.locks = false) (hX : va_X b 6 xs s s.heap) (hbl : b < s.heap.size) (I1 : LM D cy s.heap.size 110 hxF s H locs) (I2 : LM D cy (s.heap.size + 110) 43 hmF s H locs) {q3 : Nat} (hl : lv_has ls 7 [(0, .ref b), (1, .ref (s.heap.size + 0)), (2, .ref (s.heap.size + 110 + 0)), (3, .ref q3), (4, .int 0)]) : W p l e room_1 s m #[Value.ref b] below meth c H locs 154 5406 (lw_Z below #[Value.ref b] s) (F0 m 812 ls []) := by
  have hbA : ¬ A0 s b := Nat.not_le.mpr hbl
  have hx := S.1
  have hb := S.2.1
  have hS := I1.2.2.1
  obtain ⟨ox, om, ex, em, exm⟩ := p_rests (xs (0 + 1 : Int32).toNatClampNeg) (xs (0 + 2 : Int32).toNatClampNeg)
  refine lv_aload_n hx hb dL_law_812 rfl (lv_at hl 1 rfl) ?_
  refine lv_aload_n hx hb dL_law_813 rfl (lv_at hl 0 rfl) ?_
  refine lv_iload hx hb dL_law_814 (lv_at hl 4 rfl) ?_
  refine lv_iconst (v := 1) hx hb dL_law_816 (by decide) ?_
  refine lv_iadd hx hb dL_law_817 ?_
  refine va_sld (A := A0 s) hx hb hX hbl hbA hS (vI (by decide)) dL_law_818 ?_
  refine lv_aload_n hx hb dL_law_819 rfl (lv_at hl 0 rfl) ?_
  refine lv_iload hx hb dL_law_820 (lv_at hl 4 rfl) ?_
  refine lv_iconst (v := 2) hx hb dL_law_822 (by decide) ?_
  refine lv_iadd hx hb dL_law_823 ?_
  refine va_sld (A := A0 s) hx hb hX hbl hbA hS (vI (by decide)) dL_law_824 ?_
  refine l_Vi (As := [.int (xs (0 + 1 : Int32).toNatClampNeg), .int (xs (0 + 2 : Int32).toNatClampNeg)]) S (M11_rests l D cy s.heap.size (Aw s.heap.size 110) false ex) gL_11_rests rfl rfl rfl cdL_11_rests ⟨Nat.le_of_ble_eq_true rfl, Nat.le_of_ble_eq_true rfl⟩ I1 (Nat.le_refl _) hox clX11 rfl rfl hl.1 rfl (Nat.le_of_ble_eq_true rfl) dL_law_825 ⟨Nat.le_of_ble_eq_true rfl, Nat.le_of_ble_eq_true rfl⟩ (fun H1 locs1 J1 hk1 => ?_)
  have I2 := LM_kept I2 (A := Aw s.heap.size 110) (fun i hi z => by have := z.2; omega) hk1 J1.2.2.1
  have hS := I2.2.2.1
  refine lv_aload_n hx hb dL_law_828 rfl (lv_at hl 2 rfl) ?_
  refine lv_aload_n hx hb dL_law_829 rfl (lv_at hl 0 rfl) ?_
  refine lv_iload hx hb dL_law_830 (lv_at hl 4 rfl) ?_
  refine lv_iconst (v := 1) hx hb dL_law_832 (by decide) ?_
  refine lv_iadd hx hb dL_law_833 ?_
  refine va_sld (A := A0 s) hx hb hX hbl hbA hS (vI (by decide)) dL_law_834 ?_
  refine lv_aload_n hx hb dL_law_835 rfl (lv_at hl 0 rfl) ?_
  refine lv_iload hx hb dL_law_836 (lv_at hl 4 rfl) ?_
  refine lv_iconst (v := 2) hx hb dL_law_838 (by decide) ?_
  refine lv_iadd hx hb dL_law_839 ?_
  refine va_sld (A := A0 s) hx hb hX hbl hbA hS (vI (by decide)) dL_law_840 ?_
  refine l_Vi (As := [.int (xs (0 + 1 : Int32).toNatClampNeg), .int (xs (0 + 2 : Int32).toNatClampNeg)]) S (M12_rests l D cy (s.heap.size + 110) (Aw (s.heap.size + 110) 43) false em) gL_12_rests rfl rfl rfl cdL_12_rests ⟨Nat.le_of_ble_eq_true rfl, Nat.le_of_ble_eq_true rfl⟩ I2 (Nat.le_add_right _ _) hom clX12 rfl rfl hl.1 rfl (Nat.le_of_ble_eq_true rfl) dL_law_841 ⟨Nat.le_of_ble_eq_true rfl, Nat.le_of_ble_eq_true rfl⟩ (fun H2 locs2 J2 hk2 => ?_)
  refine lv_icmp_eq (tgt := 1555) hx hb dL_law_844 (by decide) (fun _ => ?_) (fun z => absurd exm z)
  exact law_tail S hr hlo hX hbl J2.2.2.1 (Nat.le_of_ble_eq_true rfl) (Nat.le_of_ble_eq_true rfl) (lv_sub hl [0, 4] rfl)
theorem lc_849 (S : CallFix p m c cL_law 7 s #[Value.ref b] lw_tbl RL) (hr : meth.sig.returnType = ret) (hlo : meth.locks = false) (hX : va_X b 6 xs s s.heap) (hbl : b < s.heap.size) (I1 : LM D cy s.heap.size 110 hxF s H locs) (I2 : LM D cy (s.heap.size + 110) 43 hmF s H locs) {q3 : Nat} (hl : lv_has ls 7 [(0, .ref b), (1, .ref (s.heap.size + 0)), (2, .ref (s.heap.size + 110 + 0)), (3, .ref q3), (4, .int 0)]) : W p l e room_1 s m #[Value.ref b] below meth c H locs 154 5406 (lw_Z below #[Value.ref b] s) (F0 m 849 ls []) := by
  have hbA : ¬ A0 s b := Nat.not_le.mpr hbl
  have hx := S.1
  have hb := S.2.1
  have hS := I1.2.2.1
  obtain ⟨ox, om, ex, em, exm⟩ := p_rest (xs (0 + 1 : Int32).toNatClampNeg) (xs (0 + 2 : Int32).toNatClampNeg) (xs (0 + 3 : Int32).toNatClampNeg)
  refine lv_aload_n hx hb dL_law_849 rfl (lv_at hl 1 rfl) ?_
  refine lv_aload_n hx hb dL_law_850 rfl (lv_at hl 0 rfl) ?_
  refine lv_iload hx hb dL_law_851 (lv_at hl 4 rfl) ?_
  refine lv_iconst (v := 1) hx hb dL_law_853 (by decide) ?_
  refine lv_iadd hx hb dL_law_854 ?_
  refine va_sld (A := A0 s) hx hb hX hbl hbA hS (vI (by decide)) dL_law_855 ?_
  refine lv_aload_n hx hb dL_law_856 rfl (lv_at hl 0 rfl) ?_
  refine lv_iload hx hb dL_law_857 (lv_at hl 4 rfl) ?_
  refine lv_iconst (v := 2) hx hb dL_law_859 (by decide) ?_
  refine lv_iadd hx hb dL_law_860 ?_
  refine va_sld (A := A0 s) hx hb hX hbl hbA hS (vI (by decide)) dL_law_861 ?_
  refine lv_aload_n hx hb dL_law_862 rfl (lv_at hl 0 rfl) ?_
  refine lv_iload hx hb dL_law_863 (lv_at hl 4 rfl) ?_
  refine lv_iconst (v := 3) hx hb dL_law_865 (by decide) ?_
  refine lv_iadd hx hb dL_law_866 ?_
  refine va_sld (A := A0 s) hx hb hX hbl hbA hS (vI (by decide)) dL_law_867 ?_
  refine l_Vi (As := [.int (xs (0 + 1 : Int32).toNatClampNeg), .int (xs (0 + 2 : Int32).toNatClampNeg), .int (xs (0 + 3 : Int32).toNatClampNeg)]) S (M11_rest l D cy s.heap.size (Aw s.heap.size 110) false ex) gL_11_rest rfl rfl rfl cdL_11_rest ⟨Nat.le_of_ble_eq_true rfl, Nat.le_of_ble_eq_true rfl⟩ I1 (Nat.le_refl _) hox clX11 rfl rfl hl.1 rfl (Nat.le_of_ble_eq_true rfl) dL_law_868 ⟨Nat.le_of_ble_eq_true rfl, Nat.le_of_ble_eq_true rfl⟩ (fun H1 locs1 J1 hk1 => ?_)
  have I2 := LM_kept I2 (A := Aw s.heap.size 110) (fun i hi z => by have := z.2; omega) hk1 J1.2.2.1
  have hS := I2.2.2.1
  refine lv_aload_n hx hb dL_law_871 rfl (lv_at hl 2 rfl) ?_
  refine lv_aload_n hx hb dL_law_872 rfl (lv_at hl 0 rfl) ?_
  refine lv_iload hx hb dL_law_873 (lv_at hl 4 rfl) ?_
  refine lv_iconst (v := 1) hx hb dL_law_875 (by decide) ?_
  refine lv_iadd hx hb dL_law_876 ?_
  refine va_sld (A := A0 s) hx hb hX hbl hbA hS (vI (by decide)) dL_law_877 ?_
  refine lv_aload_n hx hb dL_law_878 rfl (lv_at hl 0 rfl) ?_
  refine lv_iload hx hb dL_law_879 (lv_at hl 4 rfl) ?_
  refine lv_iconst (v := 2) hx hb dL_law_881 (by decide) ?_
  refine lv_iadd hx hb dL_law_882 ?_
  refine va_sld (A := A0 s) hx hb hX hbl hbA hS (vI (by decide)) dL_law_883 ?_
  refine lv_aload_n hx hb dL_law_884 rfl (lv_at hl 0 rfl) ?_
  refine lv_iload hx hb dL_law_885 (lv_at hl 4 rfl) ?_
  refine lv_iconst (v := 3) hx hb dL_law_887 (by decide) ?_
  refine lv_iadd hx hb dL_law_888 ?_
  refine va_sld (A := A0 s) hx hb hX hbl hbA hS (vI (by decide)) dL_law_889 ?_
  refine l_Vi (As := [.int (xs (0 + 1 : Int32).toNatClampNeg), .int (xs (0 + 2 : Int32).toNatClampNeg), .int (xs (0 + 3 : Int32).toNatClampNeg)]) S (M12_rest l D cy (s.heap.size + 110) (Aw (s.heap.size + 110) 43) false em) gL_12_rest rfl rfl rfl cdL_12_rest ⟨Nat.le_of_ble_eq_true rfl, Nat.le_of_ble_eq_true rfl⟩ I2 (Nat.le_add_right _ _) hom clX12 rfl rfl hl.1 rfl (Nat.le_of_ble_eq_true rfl) dL_law_890 ⟨Nat.le_of_ble_eq_true rfl, Nat.le_of_ble_eq_true rfl⟩ (fun H2 locs2 J2 hk2 => ?_)
  refine lv_icmp_eq (tgt := 1555) hx hb dL_law_893 (by decide) (fun _ => ?_) (fun z => absurd exm z)
  exact law_tail S hr hlo hX hbl J2.2.2.1 (Nat.le_of_ble_eq_true rfl) (Nat.le_of_ble_eq_true rfl) (lv_sub hl [0, 4] rfl)
theorem lc_898 (S : CallFix p m c cL_law 7 s #[Value.ref b] lw_tbl RL) (hr : meth.sig.returnType = ret) (hlo : meth.locks = false) (hX : va_X b 6 xs s s.heap) (hbl : b < s.heap.size) (I1 : LM D cy s.heap.size 110 hxF s H locs) (I2 : LM D cy (s.heap.size + 110) 43 hmF s H locs) {q3 : Nat} (hl : lv_has ls 7 [(0, .ref b), (1, .ref (s.heap.size + 0)), (2, .ref (s.heap.size + 110 + 0)), (3, .ref q3), (4, .int 0)]) : W p l e room_1 s m #[Value.ref b] below meth c H locs 154 5406 (lw_Z below #[Value.ref b] s) (F0 m 898 ls []) := by
  have hbA : ¬ A0 s b := Nat.not_le.mpr hbl
  have hx := S.1
  have hb := S.2.1
  have hS := I1.2.2.1
  obtain ⟨ox, om, ex, em, exm⟩ := p_rank (xs (0 + 1 : Int32).toNatClampNeg) (xs (0 + 2 : Int32).toNatClampNeg)
  refine lv_aload_n hx hb dL_law_898 rfl (lv_at hl 1 rfl) ?_
  refine lv_aload_n hx hb dL_law_899 rfl (lv_at hl 0 rfl) ?_
  refine lv_iload hx hb dL_law_900 (lv_at hl 4 rfl) ?_
  refine lv_iconst (v := 1) hx hb dL_law_902 (by decide) ?_
  refine lv_iadd hx hb dL_law_903 ?_
  refine va_sld (A := A0 s) hx hb hX hbl hbA hS (vI (by decide)) dL_law_904 ?_
  refine lv_aload_n hx hb dL_law_905 rfl (lv_at hl 0 rfl) ?_
  refine lv_iload hx hb dL_law_906 (lv_at hl 4 rfl) ?_
  refine lv_iconst (v := 2) hx hb dL_law_908 (by decide) ?_
  refine lv_iadd hx hb dL_law_909 ?_
  refine va_sld (A := A0 s) hx hb hX hbl hbA hS (vI (by decide)) dL_law_910 ?_
  refine l_Vi (As := [.int (xs (0 + 1 : Int32).toNatClampNeg), .int (xs (0 + 2 : Int32).toNatClampNeg)]) S (M11_rank l D cy s.heap.size (Aw s.heap.size 110) false ex) gL_11_rank rfl rfl rfl cdL_11_rank ⟨Nat.le_of_ble_eq_true rfl, Nat.le_of_ble_eq_true rfl⟩ I1 (Nat.le_refl _) hox clX11 rfl rfl hl.1 rfl (Nat.le_of_ble_eq_true rfl) dL_law_911 ⟨Nat.le_of_ble_eq_true rfl, Nat.le_of_ble_eq_true rfl⟩ (fun H1 locs1 J1 hk1 => ?_)
  have I2 := LM_kept I2 (A := Aw s.heap.size 110) (fun i hi z => by have := z.2; omega) hk1 J1.2.2.1
  have hS := I2.2.2.1
  refine lv_aload_n hx hb dL_law_914 rfl (lv_at hl 2 rfl) ?_
  refine lv_aload_n hx hb dL_law_915 rfl (lv_at hl 0 rfl) ?_
  refine lv_iload hx hb dL_law_916 (lv_at hl 4 rfl) ?_
  refine lv_iconst (v := 1) hx hb dL_law_918 (by decide) ?_
  refine lv_iadd hx hb dL_law_919 ?_
  refine va_sld (A := A0 s) hx hb hX hbl hbA hS (vI (by decide)) dL_law_920 ?_
  refine lv_aload_n hx hb dL_law_921 rfl (lv_at hl 0 rfl) ?_
  refine lv_iload hx hb dL_law_922 (lv_at hl 4 rfl) ?_
  refine lv_iconst (v := 2) hx hb dL_law_924 (by decide) ?_
  refine lv_iadd hx hb dL_law_925 ?_
  refine va_sld (A := A0 s) hx hb hX hbl hbA hS (vI (by decide)) dL_law_926 ?_
  refine l_Vi (As := [.int (xs (0 + 1 : Int32).toNatClampNeg), .int (xs (0 + 2 : Int32).toNatClampNeg)]) S (M12_rank_ l D cy (s.heap.size + 110) (Aw (s.heap.size + 110) 43) false em) gL_12_rank_ rfl rfl rfl cdL_12_rank_ ⟨Nat.le_of_ble_eq_true rfl, Nat.le_of_ble_eq_true rfl⟩ I2 (Nat.le_add_right _ _) hom clX12 rfl rfl hl.1 rfl (Nat.le_of_ble_eq_true rfl) dL_law_927 ⟨Nat.le_of_ble_eq_true rfl, Nat.le_of_ble_eq_true rfl⟩ (fun H2 locs2 J2 hk2 => ?_)
  refine lv_icmp_eq (tgt := 1555) hx hb dL_law_930 (by decide) (fun _ => ?_) (fun z => absurd exm z)
  exact law_tail S hr hlo hX hbl J2.2.2.1 (Nat.le_of_ble_eq_true rfl) (Nat.le_of_ble_eq_true rfl) (lv_sub hl [0, 4] rfl)
theorem lc_935 (S : CallFix p m c cL_law 7 s #[Value.ref b] lw_tbl RL) (hr : meth.sig.returnType = ret) (hlo : meth.locks = false) (hX : va_X b 6 xs s s.heap) (hbl : b < s.heap.size) (I1 : LM D cy s.heap.size 110 hxF s H locs) (I2 : LM D cy (s.heap.size + 110) 43 hmF s H locs) {q3 : Nat} (hl : lv_has ls 7 [(0, .ref b), (1, .ref (s.heap.size + 0)), (2, .ref (s.heap.size + 110 + 0)), (3, .ref q3), (4, .int 0)]) : W p l e room_1 s m #[Value.ref b] below meth c H locs 154 5406 (lw_Z below #[Value.ref b] s) (F0 m 935 ls []) := by
  have hbA : ¬ A0 s b := Nat.not_le.mpr hbl
  have hx := S.1
  have hb := S.2.1
  have hS := I1.2.2.1
  obtain ⟨ox, om, ex, em, exm⟩ := p_plan (xs (0 + 1 : Int32).toNatClampNeg)
  refine lv_aload_n hx hb dL_law_935 rfl (lv_at hl 1 rfl) ?_
  refine lv_aload_n hx hb dL_law_936 rfl (lv_at hl 0 rfl) ?_
  refine lv_iload hx hb dL_law_937 (lv_at hl 4 rfl) ?_
  refine lv_iconst (v := 1) hx hb dL_law_939 (by decide) ?_
  refine lv_iadd hx hb dL_law_940 ?_
  refine va_sld (A := A0 s) hx hb hX hbl hbA hS (vI (by decide)) dL_law_941 ?_
  refine l_Vi (As := [.int (xs (0 + 1 : Int32).toNatClampNeg)]) S (M11_plan l D cy s.heap.size (Aw s.heap.size 110) false ex) gL_11_plan rfl rfl rfl cdL_11_plan ⟨Nat.le_of_ble_eq_true rfl, Nat.le_of_ble_eq_true rfl⟩ I1 (Nat.le_refl _) hox clX11 rfl rfl hl.1 rfl (Nat.le_of_ble_eq_true rfl) dL_law_942 ⟨Nat.le_of_ble_eq_true rfl, Nat.le_of_ble_eq_true rfl⟩ (fun H1 locs1 J1 hk1 => ?_)
  have I2 := LM_kept I2 (A := Aw s.heap.size 110) (fun i hi z => by have := z.2; omega) hk1 J1.2.2.1
  have hS := I2.2.2.1
  refine lv_aload_n hx hb dL_law_945 rfl (lv_at hl 2 rfl) ?_
  refine lv_aload_n hx hb dL_law_946 rfl (lv_at hl 0 rfl) ?_
  refine lv_iload hx hb dL_law_947 (lv_at hl 4 rfl) ?_
  refine lv_iconst (v := 1) hx hb dL_law_949 (by decide) ?_
  refine lv_iadd hx hb dL_law_950 ?_
  refine va_sld (A := A0 s) hx hb hX hbl hbA hS (vI (by decide)) dL_law_951 ?_
  refine l_Vi (As := [.int (xs (0 + 1 : Int32).toNatClampNeg)]) S (M12_plan l D cy (s.heap.size + 110) (Aw (s.heap.size + 110) 43) false em) gL_12_plan rfl rfl rfl cdL_12_plan ⟨Nat.le_of_ble_eq_true rfl, Nat.le_of_ble_eq_true rfl⟩ I2 (Nat.le_add_right _ _) hom clX12 rfl rfl hl.1 rfl (Nat.le_of_ble_eq_true rfl) dL_law_952 ⟨Nat.le_of_ble_eq_true rfl, Nat.le_of_ble_eq_true rfl⟩ (fun H2 locs2 J2 hk2 => ?_)
  refine lv_icmp_eq (tgt := 1555) hx hb dL_law_955 (by decide) (fun _ => ?_) (fun z => absurd exm z)
  exact law_tail S hr hlo hX hbl J2.2.2.1 (Nat.le_of_ble_eq_true rfl) (Nat.le_of_ble_eq_true rfl) (lv_sub hl [0, 4] rfl)
theorem lc_960 (S : CallFix p m c cL_law 7 s #[Value.ref b] lw_tbl RL) (hr : meth.sig.returnType = ret) (hlo : meth.locks = false) (hX : va_X b 6 xs s s.heap) (hbl : b < s.heap.size) (I1 : LM D cy s.heap.size 110 hxF s H locs) (I2 : LM D cy (s.heap.size + 110) 43 hmF s H locs) {q3 : Nat} (hl : lv_has ls 7 [(0, .ref b), (1, .ref (s.heap.size + 0)), (2, .ref (s.heap.size + 110 + 0)), (3, .ref q3), (4, .int 0)]) : W p l e room_1 s m #[Value.ref b] below meth c H locs 154 5406 (lw_Z below #[Value.ref b] s) (F0 m 960 ls []) := by
  have hbA : ¬ A0 s b := Nat.not_le.mpr hbl
  have hx := S.1
  have hb := S.2.1
  have hS := I1.2.2.1
  obtain ⟨ox, om, ex, em, exm⟩ := p_planned (xs (0 + 1 : Int32).toNatClampNeg) (xs (0 + 2 : Int32).toNatClampNeg)
  refine lv_aload_n hx hb dL_law_960 rfl (lv_at hl 1 rfl) ?_
  refine lv_aload_n hx hb dL_law_961 rfl (lv_at hl 0 rfl) ?_
  refine lv_iload hx hb dL_law_962 (lv_at hl 4 rfl) ?_
  refine lv_iconst (v := 1) hx hb dL_law_964 (by decide) ?_
  refine lv_iadd hx hb dL_law_965 ?_
  refine va_sld (A := A0 s) hx hb hX hbl hbA hS (vI (by decide)) dL_law_966 ?_
  refine lv_aload_n hx hb dL_law_967 rfl (lv_at hl 0 rfl) ?_
  refine lv_iload hx hb dL_law_968 (lv_at hl 4 rfl) ?_
  refine lv_iconst (v := 2) hx hb dL_law_970 (by decide) ?_
  refine lv_iadd hx hb dL_law_971 ?_
  refine va_sld (A := A0 s) hx hb hX hbl hbA hS (vI (by decide)) dL_law_972 ?_
  refine l_Vi (As := [.int (xs (0 + 1 : Int32).toNatClampNeg), .int (xs (0 + 2 : Int32).toNatClampNeg)]) S (M11_planned l D cy s.heap.size (Aw s.heap.size 110) false ex) gL_11_planned rfl rfl rfl cdL_11_planned ⟨Nat.le_of_ble_eq_true rfl, Nat.le_of_ble_eq_true rfl⟩ I1 (Nat.le_refl _) hox clX11 rfl rfl hl.1 rfl (Nat.le_of_ble_eq_true rfl) dL_law_973 ⟨Nat.le_of_ble_eq_true rfl, Nat.le_of_ble_eq_true rfl⟩ (fun H1 locs1 J1 hk1 => ?_)
  have I2 := LM_kept I2 (A := Aw s.heap.size 110) (fun i hi z => by have := z.2; omega) hk1 J1.2.2.1
  have hS := I2.2.2.1
  refine lv_aload_n hx hb dL_law_976 rfl (lv_at hl 2 rfl) ?_
  refine lv_aload_n hx hb dL_law_977 rfl (lv_at hl 0 rfl) ?_
  refine lv_iload hx hb dL_law_978 (lv_at hl 4 rfl) ?_
  refine lv_iconst (v := 1) hx hb dL_law_980 (by decide) ?_
  refine lv_iadd hx hb dL_law_981 ?_
  refine va_sld (A := A0 s) hx hb hX hbl hbA hS (vI (by decide)) dL_law_982 ?_
  refine lv_aload_n hx hb dL_law_983 rfl (lv_at hl 0 rfl) ?_
  refine lv_iload hx hb dL_law_984 (lv_at hl 4 rfl) ?_
  refine lv_iconst (v := 2) hx hb dL_law_986 (by decide) ?_
  refine lv_iadd hx hb dL_law_987 ?_
  refine va_sld (A := A0 s) hx hb hX hbl hbA hS (vI (by decide)) dL_law_988 ?_
  refine l_Vi (As := [.int (xs (0 + 1 : Int32).toNatClampNeg), .int (xs (0 + 2 : Int32).toNatClampNeg)]) S (M12_planned l D cy (s.heap.size + 110) (Aw (s.heap.size + 110) 43) false em) gL_12_planned rfl rfl rfl cdL_12_planned ⟨Nat.le_of_ble_eq_true rfl, Nat.le_of_ble_eq_true rfl⟩ I2 (Nat.le_add_right _ _) hom clX12 rfl rfl hl.1 rfl (Nat.le_of_ble_eq_true rfl) dL_law_989 ⟨Nat.le_of_ble_eq_true rfl, Nat.le_of_ble_eq_true rfl⟩ (fun H2 locs2 J2 hk2 => ?_)
  refine lv_icmp_eq (tgt := 1555) hx hb dL_law_992 (by decide) (fun _ => ?_) (fun z => absurd exm z)
  exact law_tail S hr hlo hX hbl J2.2.2.1 (Nat.le_of_ble_eq_true rfl) (Nat.le_of_ble_eq_true rfl) (lv_sub hl [0, 4] rfl)
theorem lc_997 (S : CallFix p m c cL_law 7 s #[Value.ref b] lw_tbl RL) (hr : meth.sig.returnType = ret) (hlo : meth.locks = false) (hX : va_X b 6 xs s s.heap) (hbl : b < s.heap.size) (I1 : LM D cy s.heap.size 110 hxF s H locs) (I2 : LM D cy (s.heap.size + 110) 43 hmF s H locs) {q3 : Nat} (hl : lv_has ls 7 [(0, .ref b), (1, .ref (s.heap.size + 0)), (2, .ref (s.heap.size + 110 + 0)), (3, .ref q3), (4, .int 0)]) : W p l e room_1 s m #[Value.ref b] below meth c H locs 154 5406 (lw_Z below #[Value.ref b] s) (F0 m 997 ls []) := by
  have hbA : ¬ A0 s b := Nat.not_le.mpr hbl
  have hx := S.1
  have hb := S.2.1
  have hS := I1.2.2.1
  obtain ⟨ox, om, ex, em, exm⟩ := p_go (xs (0 + 1 : Int32).toNatClampNeg) (xs (0 + 2 : Int32).toNatClampNeg) (xs (0 + 3 : Int32).toNatClampNeg)
  refine lv_aload_n hx hb dL_law_997 rfl (lv_at hl 1 rfl) ?_
  refine lv_aload_n hx hb dL_law_998 rfl (lv_at hl 0 rfl) ?_
  refine lv_iload hx hb dL_law_999 (lv_at hl 4 rfl) ?_
  refine lv_iconst (v := 1) hx hb dL_law_1001 (by decide) ?_
  refine lv_iadd hx hb dL_law_1002 ?_
  refine va_sld (A := A0 s) hx hb hX hbl hbA hS (vI (by decide)) dL_law_1003 ?_
  refine lv_aload_n hx hb dL_law_1004 rfl (lv_at hl 0 rfl) ?_
  refine lv_iload hx hb dL_law_1005 (lv_at hl 4 rfl) ?_
  refine lv_iconst (v := 2) hx hb dL_law_1007 (by decide) ?_
  refine lv_iadd hx hb dL_law_1008 ?_
  refine va_sld (A := A0 s) hx hb hX hbl hbA hS (vI (by decide)) dL_law_1009 ?_
  refine lv_aload_n hx hb dL_law_1010 rfl (lv_at hl 0 rfl) ?_
  refine lv_iload hx hb dL_law_1011 (lv_at hl 4 rfl) ?_
  refine lv_iconst (v := 3) hx hb dL_law_1013 (by decide) ?_
  refine lv_iadd hx hb dL_law_1014 ?_
  refine va_sld (A := A0 s) hx hb hX hbl hbA hS (vI (by decide)) dL_law_1015 ?_
  refine l_Vi (As := [.int (xs (0 + 1 : Int32).toNatClampNeg), .int (xs (0 + 2 : Int32).toNatClampNeg), .int (xs (0 + 3 : Int32).toNatClampNeg)]) S (M11_go l D cy s.heap.size (Aw s.heap.size 110) false ex) gL_11_go rfl rfl rfl cdL_11_go ⟨Nat.le_of_ble_eq_true rfl, Nat.le_of_ble_eq_true rfl⟩ I1 (Nat.le_refl _) hox clX11 rfl rfl hl.1 rfl (Nat.le_of_ble_eq_true rfl) dL_law_1016 ⟨Nat.le_of_ble_eq_true rfl, Nat.le_of_ble_eq_true rfl⟩ (fun H1 locs1 J1 hk1 => ?_)
  have I2 := LM_kept I2 (A := Aw s.heap.size 110) (fun i hi z => by have := z.2; omega) hk1 J1.2.2.1
  have hS := I2.2.2.1
  refine lv_aload_n hx hb dL_law_1019 rfl (lv_at hl 2 rfl) ?_
  refine lv_aload_n hx hb dL_law_1020 rfl (lv_at hl 0 rfl) ?_
  refine lv_iload hx hb dL_law_1021 (lv_at hl 4 rfl) ?_
  refine lv_iconst (v := 1) hx hb dL_law_1023 (by decide) ?_
  refine lv_iadd hx hb dL_law_1024 ?_
  refine va_sld (A := A0 s) hx hb hX hbl hbA hS (vI (by decide)) dL_law_1025 ?_
  refine lv_aload_n hx hb dL_law_1026 rfl (lv_at hl 0 rfl) ?_
  refine lv_iload hx hb dL_law_1027 (lv_at hl 4 rfl) ?_
  refine lv_iconst (v := 2) hx hb dL_law_1029 (by decide) ?_
  refine lv_iadd hx hb dL_law_1030 ?_
  refine va_sld (A := A0 s) hx hb hX hbl hbA hS (vI (by decide)) dL_law_1031 ?_
  refine lv_aload_n hx hb dL_law_1032 rfl (lv_at hl 0 rfl) ?_
  refine lv_iload hx hb dL_law_1033 (lv_at hl 4 rfl) ?_
  refine lv_iconst (v := 3) hx hb dL_law_1035 (by decide) ?_
  refine lv_iadd hx hb dL_law_1036 ?_
  refine va_sld (A := A0 s) hx hb hX hbl hbA hS (vI (by decide)) dL_law_1037 ?_
  refine l_Vi (As := [.int (xs (0 + 1 : Int32).toNatClampNeg), .int (xs (0 + 2 : Int32).toNatClampNeg), .int (xs (0 + 3 : Int32).toNatClampNeg)]) S (M12_go l D cy (s.heap.size + 110) (Aw (s.heap.size + 110) 43) false em) gL_12_go rfl rfl rfl cdL_12_go ⟨Nat.le_of_ble_eq_true rfl, Nat.le_of_ble_eq_true rfl⟩ I2 (Nat.le_add_right _ _) hom clX12 rfl rfl hl.1 rfl (Nat.le_of_ble_eq_true rfl) dL_law_1038 ⟨Nat.le_of_ble_eq_true rfl, Nat.le_of_ble_eq_true rfl⟩ (fun H2 locs2 J2 hk2 => ?_)
  refine lv_icmp_eq (tgt := 1555) hx hb dL_law_1041 (by decide) (fun _ => ?_) (fun z => absurd exm z)
  exact law_tail S hr hlo hX hbl J2.2.2.1 (Nat.le_of_ble_eq_true rfl) (Nat.le_of_ble_eq_true rfl) (lv_sub hl [0, 4] rfl)
theorem lc_1046 (S : CallFix p m c cL_law 7 s #[Value.ref b] lw_tbl RL) (hr : meth.sig.returnType = ret) (hlo : meth.locks = false) (hX : va_X b 6 xs s s.heap) (hbl : b < s.heap.size) (I1 : LM D cy s.heap.size 110 hxF s H locs) (I2 : LM D cy (s.heap.size + 110) 43 hmF s H locs) {q3 : Nat} (hl : lv_has ls 7 [(0, .ref b), (1, .ref (s.heap.size + 0)), (2, .ref (s.heap.size + 110 + 0)), (3, .ref q3), (4, .int 0)]) : W p l e room_1 s m #[Value.ref b] below meth c H locs 154 5406 (lw_Z below #[Value.ref b] s) (F0 m 1046 ls []) := by
  have hbA : ¬ A0 s b := Nat.not_le.mpr hbl
  have hx := S.1
  have hb := S.2.1
  have hS := I1.2.2.1
  obtain ⟨ox, om, ex, em, exm⟩ := p_give (xs (0 + 1 : Int32).toNatClampNeg) (xs (0 + 2 : Int32).toNatClampNeg) (xs (0 + 3 : Int32).toNatClampNeg)
  refine lv_aload_n hx hb dL_law_1046 rfl (lv_at hl 1 rfl) ?_
  refine lv_aload_n hx hb dL_law_1047 rfl (lv_at hl 0 rfl) ?_
  refine lv_iload hx hb dL_law_1048 (lv_at hl 4 rfl) ?_
  refine lv_iconst (v := 1) hx hb dL_law_1050 (by decide) ?_
  refine lv_iadd hx hb dL_law_1051 ?_
  refine va_sld (A := A0 s) hx hb hX hbl hbA hS (vI (by decide)) dL_law_1052 ?_
  refine lv_aload_n hx hb dL_law_1053 rfl (lv_at hl 0 rfl) ?_
  refine lv_iload hx hb dL_law_1054 (lv_at hl 4 rfl) ?_
  refine lv_iconst (v := 2) hx hb dL_law_1056 (by decide) ?_
  refine lv_iadd hx hb dL_law_1057 ?_
  refine va_sld (A := A0 s) hx hb hX hbl hbA hS (vI (by decide)) dL_law_1058 ?_
  refine lv_aload_n hx hb dL_law_1059 rfl (lv_at hl 0 rfl) ?_
  refine lv_iload hx hb dL_law_1060 (lv_at hl 4 rfl) ?_
  refine lv_iconst (v := 3) hx hb dL_law_1062 (by decide) ?_
  refine lv_iadd hx hb dL_law_1063 ?_
  refine va_sld (A := A0 s) hx hb hX hbl hbA hS (vI (by decide)) dL_law_1064 ?_
  refine l_Vi (As := [.int (xs (0 + 1 : Int32).toNatClampNeg), .int (xs (0 + 2 : Int32).toNatClampNeg), .int (xs (0 + 3 : Int32).toNatClampNeg)]) S (M11_give l D cy s.heap.size (Aw s.heap.size 110) false ex) gL_11_give rfl rfl rfl cdL_11_give ⟨Nat.le_of_ble_eq_true rfl, Nat.le_of_ble_eq_true rfl⟩ I1 (Nat.le_refl _) hox clX11 rfl rfl hl.1 rfl (Nat.le_of_ble_eq_true rfl) dL_law_1065 ⟨Nat.le_of_ble_eq_true rfl, Nat.le_of_ble_eq_true rfl⟩ (fun H1 locs1 J1 hk1 => ?_)
  have I2 := LM_kept I2 (A := Aw s.heap.size 110) (fun i hi z => by have := z.2; omega) hk1 J1.2.2.1
  have hS := I2.2.2.1
  refine lv_aload_n hx hb dL_law_1068 rfl (lv_at hl 2 rfl) ?_
  refine lv_aload_n hx hb dL_law_1069 rfl (lv_at hl 0 rfl) ?_
  refine lv_iload hx hb dL_law_1070 (lv_at hl 4 rfl) ?_
  refine lv_iconst (v := 1) hx hb dL_law_1072 (by decide) ?_
  refine lv_iadd hx hb dL_law_1073 ?_
  refine va_sld (A := A0 s) hx hb hX hbl hbA hS (vI (by decide)) dL_law_1074 ?_
  refine lv_aload_n hx hb dL_law_1075 rfl (lv_at hl 0 rfl) ?_
  refine lv_iload hx hb dL_law_1076 (lv_at hl 4 rfl) ?_
  refine lv_iconst (v := 2) hx hb dL_law_1078 (by decide) ?_
  refine lv_iadd hx hb dL_law_1079 ?_
  refine va_sld (A := A0 s) hx hb hX hbl hbA hS (vI (by decide)) dL_law_1080 ?_
  refine lv_aload_n hx hb dL_law_1081 rfl (lv_at hl 0 rfl) ?_
  refine lv_iload hx hb dL_law_1082 (lv_at hl 4 rfl) ?_
  refine lv_iconst (v := 3) hx hb dL_law_1084 (by decide) ?_
  refine lv_iadd hx hb dL_law_1085 ?_
  refine va_sld (A := A0 s) hx hb hX hbl hbA hS (vI (by decide)) dL_law_1086 ?_
  refine l_Vi (As := [.int (xs (0 + 1 : Int32).toNatClampNeg), .int (xs (0 + 2 : Int32).toNatClampNeg), .int (xs (0 + 3 : Int32).toNatClampNeg)]) S (M12_give l D cy (s.heap.size + 110) (Aw (s.heap.size + 110) 43) false em) gL_12_give rfl rfl rfl cdL_12_give ⟨Nat.le_of_ble_eq_true rfl, Nat.le_of_ble_eq_true rfl⟩ I2 (Nat.le_add_right _ _) hom clX12 rfl rfl hl.1 rfl (Nat.le_of_ble_eq_true rfl) dL_law_1087 ⟨Nat.le_of_ble_eq_true rfl, Nat.le_of_ble_eq_true rfl⟩ (fun H2 locs2 J2 hk2 => ?_)
  refine lv_icmp_eq (tgt := 1555) hx hb dL_law_1090 (by decide) (fun _ => ?_) (fun z => absurd exm z)
  exact law_tail S hr hlo hX hbl J2.2.2.1 (Nat.le_of_ble_eq_true rfl) (Nat.le_of_ble_eq_true rfl) (lv_sub hl [0, 4] rfl)
theorem lc_1095 (S : CallFix p m c cL_law 7 s #[Value.ref b] lw_tbl RL) (hr : meth.sig.returnType = ret) (hlo : meth.locks = false) (hX : va_X b 6 xs s s.heap) (hbl : b < s.heap.size) (I1 : LM D cy s.heap.size 110 hxF s H locs) (I2 : LM D cy (s.heap.size + 110) 43 hmF s H locs) {q3 : Nat} (hl : lv_has ls 7 [(0, .ref b), (1, .ref (s.heap.size + 0)), (2, .ref (s.heap.size + 110 + 0)), (3, .ref q3), (4, .int 0)]) : W p l e room_1 s m #[Value.ref b] below meth c H locs 154 5406 (lw_Z below #[Value.ref b] s) (F0 m 1095 ls []) := by
  have hbA : ¬ A0 s b := Nat.not_le.mpr hbl
  have hx := S.1
  have hb := S.2.1
  have hS := I1.2.2.1
  obtain ⟨ox, om, ex, em, exm⟩ := p_table (xs (0 + 1 : Int32).toNatClampNeg) (xs (0 + 2 : Int32).toNatClampNeg) (xs (0 + 3 : Int32).toNatClampNeg)
  refine lv_aload_n hx hb dL_law_1095 rfl (lv_at hl 1 rfl) ?_
  refine lv_aload_n hx hb dL_law_1096 rfl (lv_at hl 0 rfl) ?_
  refine lv_iload hx hb dL_law_1097 (lv_at hl 4 rfl) ?_
  refine lv_iconst (v := 1) hx hb dL_law_1099 (by decide) ?_
  refine lv_iadd hx hb dL_law_1100 ?_
  refine va_sld (A := A0 s) hx hb hX hbl hbA hS (vI (by decide)) dL_law_1101 ?_
  refine lv_aload_n hx hb dL_law_1102 rfl (lv_at hl 0 rfl) ?_
  refine lv_iload hx hb dL_law_1103 (lv_at hl 4 rfl) ?_
  refine lv_iconst (v := 2) hx hb dL_law_1105 (by decide) ?_
  refine lv_iadd hx hb dL_law_1106 ?_
  refine va_sld (A := A0 s) hx hb hX hbl hbA hS (vI (by decide)) dL_law_1107 ?_
  refine lv_aload_n hx hb dL_law_1108 rfl (lv_at hl 0 rfl) ?_
  refine lv_iload hx hb dL_law_1109 (lv_at hl 4 rfl) ?_
  refine lv_iconst (v := 3) hx hb dL_law_1111 (by decide) ?_
  refine lv_iadd hx hb dL_law_1112 ?_
  refine va_sld (A := A0 s) hx hb hX hbl hbA hS (vI (by decide)) dL_law_1113 ?_
  refine l_Vi (As := [.int (xs (0 + 1 : Int32).toNatClampNeg), .int (xs (0 + 2 : Int32).toNatClampNeg), .int (xs (0 + 3 : Int32).toNatClampNeg)]) S (M11_table l D cy s.heap.size (Aw s.heap.size 110) ex) gL_11_table rfl rfl rfl cdL_11_table ⟨Nat.le_of_ble_eq_true rfl, Nat.le_of_ble_eq_true rfl⟩ I1 (Nat.le_refl _) hox clX11 rfl rfl hl.1 rfl (Nat.le_of_ble_eq_true rfl) dL_law_1114 ⟨Nat.le_of_ble_eq_true rfl, Nat.le_of_ble_eq_true rfl⟩ (fun H1 locs1 J1 hk1 => ?_)
  have I2 := LM_kept I2 (A := Aw s.heap.size 110) (fun i hi z => by have := z.2; omega) hk1 J1.2.2.1
  have hS := I2.2.2.1
  refine lv_aload_n hx hb dL_law_1117 rfl (lv_at hl 2 rfl) ?_
  refine lv_aload_n hx hb dL_law_1118 rfl (lv_at hl 0 rfl) ?_
  refine lv_iload hx hb dL_law_1119 (lv_at hl 4 rfl) ?_
  refine lv_iconst (v := 1) hx hb dL_law_1121 (by decide) ?_
  refine lv_iadd hx hb dL_law_1122 ?_
  refine va_sld (A := A0 s) hx hb hX hbl hbA hS (vI (by decide)) dL_law_1123 ?_
  refine lv_aload_n hx hb dL_law_1124 rfl (lv_at hl 0 rfl) ?_
  refine lv_iload hx hb dL_law_1125 (lv_at hl 4 rfl) ?_
  refine lv_iconst (v := 2) hx hb dL_law_1127 (by decide) ?_
  refine lv_iadd hx hb dL_law_1128 ?_
  refine va_sld (A := A0 s) hx hb hX hbl hbA hS (vI (by decide)) dL_law_1129 ?_
  refine lv_aload_n hx hb dL_law_1130 rfl (lv_at hl 0 rfl) ?_
  refine lv_iload hx hb dL_law_1131 (lv_at hl 4 rfl) ?_
  refine lv_iconst (v := 3) hx hb dL_law_1133 (by decide) ?_
  refine lv_iadd hx hb dL_law_1134 ?_
  refine va_sld (A := A0 s) hx hb hX hbl hbA hS (vI (by decide)) dL_law_1135 ?_
  refine l_Vi (As := [.int (xs (0 + 1 : Int32).toNatClampNeg), .int (xs (0 + 2 : Int32).toNatClampNeg), .int (xs (0 + 3 : Int32).toNatClampNeg)]) S (M12_table l D cy (s.heap.size + 110) (Aw (s.heap.size + 110) 43) false em) gL_12_table rfl rfl rfl cdL_12_table ⟨Nat.le_of_ble_eq_true rfl, Nat.le_of_ble_eq_true rfl⟩ I2 (Nat.le_add_right _ _) hom clX12 rfl rfl hl.1 rfl (Nat.le_of_ble_eq_true rfl) dL_law_1136 ⟨Nat.le_of_ble_eq_true rfl, Nat.le_of_ble_eq_true rfl⟩ (fun H2 locs2 J2 hk2 => ?_)
  refine lv_icmp_eq (tgt := 1555) hx hb dL_law_1139 (by decide) (fun _ => ?_) (fun z => absurd exm z)
  exact law_tail S hr hlo hX hbl J2.2.2.1 (Nat.le_of_ble_eq_true rfl) (Nat.le_of_ble_eq_true rfl) (lv_sub hl [0, 4] rfl)
theorem lc_1144 (S : CallFix p m c cL_law 7 s #[Value.ref b] lw_tbl RL) (hr : meth.sig.returnType = ret) (hlo : meth.locks = false) (hX : va_X b 6 xs s s.heap) (hbl : b < s.heap.size) (I1 : LM D cy s.heap.size 110 hxF s H locs) (I2 : LM D cy (s.heap.size + 110) 43 hmF s H locs) {q3 : Nat} (hl : lv_has ls 7 [(0, .ref b), (1, .ref (s.heap.size + 0)), (2, .ref (s.heap.size + 110 + 0)), (3, .ref q3), (4, .int 0)]) : W p l e room_1 s m #[Value.ref b] below meth c H locs 154 5406 (lw_Z below #[Value.ref b] s) (F0 m 1144 ls []) := by
  have hbA : ¬ A0 s b := Nat.not_le.mpr hbl
  have hx := S.1
  have hb := S.2.1
  have hS := I1.2.2.1
  obtain ⟨ox, om, ex, em, exm⟩ := p_fairest (xs (0 + 1 : Int32).toNatClampNeg)
  refine lv_aload_n hx hb dL_law_1144 rfl (lv_at hl 1 rfl) ?_
  refine lv_aload_n hx hb dL_law_1145 rfl (lv_at hl 0 rfl) ?_
  refine lv_iload hx hb dL_law_1146 (lv_at hl 4 rfl) ?_
  refine lv_iconst (v := 1) hx hb dL_law_1148 (by decide) ?_
  refine lv_iadd hx hb dL_law_1149 ?_
  refine va_sld (A := A0 s) hx hb hX hbl hbA hS (vI (by decide)) dL_law_1150 ?_
  refine l_Vi (As := [.int (xs (0 + 1 : Int32).toNatClampNeg)]) S (M11_fairest l D cy s.heap.size (Aw s.heap.size 110) ex) gL_11_fairest rfl rfl rfl cdL_11_fairest ⟨Nat.le_of_ble_eq_true rfl, Nat.le_of_ble_eq_true rfl⟩ I1 (Nat.le_refl _) hox clX11 rfl rfl hl.1 rfl (Nat.le_of_ble_eq_true rfl) dL_law_1151 ⟨Nat.le_of_ble_eq_true rfl, Nat.le_of_ble_eq_true rfl⟩ (fun H1 locs1 J1 hk1 => ?_)
  have I2 := LM_kept I2 (A := Aw s.heap.size 110) (fun i hi z => by have := z.2; omega) hk1 J1.2.2.1
  have hS := I2.2.2.1
  refine lv_aload_n hx hb dL_law_1154 rfl (lv_at hl 2 rfl) ?_
  refine lv_aload_n hx hb dL_law_1155 rfl (lv_at hl 0 rfl) ?_
  refine lv_iload hx hb dL_law_1156 (lv_at hl 4 rfl) ?_
  refine lv_iconst (v := 1) hx hb dL_law_1158 (by decide) ?_
  refine lv_iadd hx hb dL_law_1159 ?_
  refine va_sld (A := A0 s) hx hb hX hbl hbA hS (vI (by decide)) dL_law_1160 ?_
  refine l_Vi (As := [.int (xs (0 + 1 : Int32).toNatClampNeg)]) S (M12_fairest l D cy (s.heap.size + 110) (Aw (s.heap.size + 110) 43) false em) gL_12_fairest rfl rfl rfl cdL_12_fairest ⟨Nat.le_of_ble_eq_true rfl, Nat.le_of_ble_eq_true rfl⟩ I2 (Nat.le_add_right _ _) hom clX12 rfl rfl hl.1 rfl (Nat.le_of_ble_eq_true rfl) dL_law_1161 ⟨Nat.le_of_ble_eq_true rfl, Nat.le_of_ble_eq_true rfl⟩ (fun H2 locs2 J2 hk2 => ?_)
  refine lv_icmp_eq (tgt := 1555) hx hb dL_law_1164 (by decide) (fun _ => ?_) (fun z => absurd exm z)
  exact law_tail S hr hlo hX hbl J2.2.2.1 (Nat.le_of_ble_eq_true rfl) (Nat.le_of_ble_eq_true rfl) (lv_sub hl [0, 4] rfl)
theorem lc_1169 (S : CallFix p m c cL_law 7 s #[Value.ref b] lw_tbl RL) (hr : meth.sig.returnType = ret) (hlo : meth.locks = false) (hX : va_X b 6 xs s s.heap) (hbl : b < s.heap.size) (I1 : LM D cy s.heap.size 110 hxF s H locs) (I2 : LM D cy (s.heap.size + 110) 43 hmF s H locs) {q3 : Nat} (hl : lv_has ls 7 [(0, .ref b), (1, .ref (s.heap.size + 0)), (2, .ref (s.heap.size + 110 + 0)), (3, .ref q3), (4, .int 0)]) : W p l e room_1 s m #[Value.ref b] below meth c H locs 154 5406 (lw_Z below #[Value.ref b] s) (F0 m 1169 ls []) := by
  have hbA : ¬ A0 s b := Nat.not_le.mpr hbl
  have hx := S.1
  have hb := S.2.1
  have hS := I1.2.2.1
  obtain ⟨ox, om, ex, em, exm⟩ := p_over (xs (0 + 1 : Int32).toNatClampNeg)
  refine lv_aload_n hx hb dL_law_1169 rfl (lv_at hl 1 rfl) ?_
  refine lv_aload_n hx hb dL_law_1170 rfl (lv_at hl 0 rfl) ?_
  refine lv_iload hx hb dL_law_1171 (lv_at hl 4 rfl) ?_
  refine lv_iconst (v := 1) hx hb dL_law_1173 (by decide) ?_
  refine lv_iadd hx hb dL_law_1174 ?_
  refine va_sld (A := A0 s) hx hb hX hbl hbA hS (vI (by decide)) dL_law_1175 ?_
  refine l_Vi (As := [.int (xs (0 + 1 : Int32).toNatClampNeg)]) S (M11_over l D cy s.heap.size (Aw s.heap.size 110) false ex) gL_11_over rfl rfl rfl cdL_11_over ⟨Nat.le_of_ble_eq_true rfl, Nat.le_of_ble_eq_true rfl⟩ I1 (Nat.le_refl _) hox clX11 rfl rfl hl.1 rfl (Nat.le_of_ble_eq_true rfl) dL_law_1176 ⟨Nat.le_of_ble_eq_true rfl, Nat.le_of_ble_eq_true rfl⟩ (fun H1 locs1 J1 hk1 => ?_)
  have I2 := LM_kept I2 (A := Aw s.heap.size 110) (fun i hi z => by have := z.2; omega) hk1 J1.2.2.1
  have hS := I2.2.2.1
  refine lv_aload_n hx hb dL_law_1179 rfl (lv_at hl 2 rfl) ?_
  refine lv_aload_n hx hb dL_law_1180 rfl (lv_at hl 0 rfl) ?_
  refine lv_iload hx hb dL_law_1181 (lv_at hl 4 rfl) ?_
  refine lv_iconst (v := 1) hx hb dL_law_1183 (by decide) ?_
  refine lv_iadd hx hb dL_law_1184 ?_
  refine va_sld (A := A0 s) hx hb hX hbl hbA hS (vI (by decide)) dL_law_1185 ?_
  refine l_Vi (As := [.int (xs (0 + 1 : Int32).toNatClampNeg)]) S (M12_over l D cy (s.heap.size + 110) (Aw (s.heap.size + 110) 43) false em) gL_12_over rfl rfl rfl cdL_12_over ⟨Nat.le_of_ble_eq_true rfl, Nat.le_of_ble_eq_true rfl⟩ I2 (Nat.le_add_right _ _) hom clX12 rfl rfl hl.1 rfl (Nat.le_of_ble_eq_true rfl) dL_law_1186 ⟨Nat.le_of_ble_eq_true rfl, Nat.le_of_ble_eq_true rfl⟩ (fun H2 locs2 J2 hk2 => ?_)
  refine lv_icmp_eq (tgt := 1555) hx hb dL_law_1189 (by decide) (fun _ => ?_) (fun z => absurd exm z)
  exact law_tail S hr hlo hX hbl J2.2.2.1 (Nat.le_of_ble_eq_true rfl) (Nat.le_of_ble_eq_true rfl) (lv_sub hl [0, 4] rfl)
theorem lc_1194 (S : CallFix p m c cL_law 7 s #[Value.ref b] lw_tbl RL) (hr : meth.sig.returnType = ret) (hlo : meth.locks = false) (hX : va_X b 6 xs s s.heap) (hbl : b < s.heap.size) (I1 : LM D cy s.heap.size 110 hxF s H locs) (I2 : LM D cy (s.heap.size + 110) 43 hmF s H locs) {q3 : Nat} (hl : lv_has ls 7 [(0, .ref b), (1, .ref (s.heap.size + 0)), (2, .ref (s.heap.size + 110 + 0)), (3, .ref q3), (4, .int 0)]) : W p l e room_1 s m #[Value.ref b] below meth c H locs 154 5406 (lw_Z below #[Value.ref b] s) (F0 m 1194 ls []) := by
  have hbA : ¬ A0 s b := Nat.not_le.mpr hbl
  have hx := S.1
  have hb := S.2.1
  have hS := I1.2.2.1
  obtain ⟨ox, om, ex, em, exm⟩ := p_next 
  refine lv_aload_n hx hb dL_law_1194 rfl (lv_at hl 1 rfl) ?_
  refine l_Vi (As := []) S (M11_next l D cy s.heap.size (Aw s.heap.size 110) false ex) gL_11_next rfl rfl rfl cdL_11_next ⟨Nat.le_of_ble_eq_true rfl, Nat.le_of_ble_eq_true rfl⟩ I1 (Nat.le_refl _) hox clX11 rfl rfl hl.1 rfl (Nat.le_of_ble_eq_true rfl) dL_law_1195 ⟨Nat.le_of_ble_eq_true rfl, Nat.le_of_ble_eq_true rfl⟩ (fun H1 locs1 J1 hk1 => ?_)
  have I2 := LM_kept I2 (A := Aw s.heap.size 110) (fun i hi z => by have := z.2; omega) hk1 J1.2.2.1
  have hS := I2.2.2.1
  refine lv_aload_n hx hb dL_law_1198 rfl (lv_at hl 2 rfl) ?_
  refine l_Vi (As := []) S (M12_next l D cy (s.heap.size + 110) (Aw (s.heap.size + 110) 43) false em) gL_12_next rfl rfl rfl cdL_12_next ⟨Nat.le_of_ble_eq_true rfl, Nat.le_of_ble_eq_true rfl⟩ I2 (Nat.le_add_right _ _) hom clX12 rfl rfl hl.1 rfl (Nat.le_of_ble_eq_true rfl) dL_law_1199 ⟨Nat.le_of_ble_eq_true rfl, Nat.le_of_ble_eq_true rfl⟩ (fun H2 locs2 J2 hk2 => ?_)
  refine lv_icmp_eq (tgt := 1555) hx hb dL_law_1202 (by decide) (fun _ => ?_) (fun z => absurd exm z)
  exact law_tail S hr hlo hX hbl J2.2.2.1 (Nat.le_of_ble_eq_true rfl) (Nat.le_of_ble_eq_true rfl) (lv_sub hl [0, 4] rfl)
theorem lc_1207 (S : CallFix p m c cL_law 7 s #[Value.ref b] lw_tbl RL) (hr : meth.sig.returnType = ret) (hlo : meth.locks = false) (hX : va_X b 6 xs s s.heap) (hbl : b < s.heap.size) (I1 : LM D cy s.heap.size 110 hxF s H locs) (I2 : LM D cy (s.heap.size + 110) 43 hmF s H locs) {q3 : Nat} (hl : lv_has ls 7 [(0, .ref b), (1, .ref (s.heap.size + 0)), (2, .ref (s.heap.size + 110 + 0)), (3, .ref q3), (4, .int 0)]) : W p l e room_1 s m #[Value.ref b] below meth c H locs 154 5406 (lw_Z below #[Value.ref b] s) (F0 m 1207 ls []) := by
  have hbA : ¬ A0 s b := Nat.not_le.mpr hbl
  have hx := S.1
  have hb := S.2.1
  have hS := I1.2.2.1
  obtain ⟨ox, om, ex, em, exm⟩ := p_gaps (xs (0 + 1 : Int32).toNatClampNeg) (xs (0 + 2 : Int32).toNatClampNeg)
  refine lv_aload_n hx hb dL_law_1207 rfl (lv_at hl 1 rfl) ?_
  refine lv_aload_n hx hb dL_law_1208 rfl (lv_at hl 0 rfl) ?_
  refine lv_iload hx hb dL_law_1209 (lv_at hl 4 rfl) ?_
  refine lv_iconst (v := 1) hx hb dL_law_1211 (by decide) ?_
  refine lv_iadd hx hb dL_law_1212 ?_
  refine va_sld (A := A0 s) hx hb hX hbl hbA hS (vI (by decide)) dL_law_1213 ?_
  refine lv_aload_n hx hb dL_law_1214 rfl (lv_at hl 0 rfl) ?_
  refine lv_iload hx hb dL_law_1215 (lv_at hl 4 rfl) ?_
  refine lv_iconst (v := 2) hx hb dL_law_1217 (by decide) ?_
  refine lv_iadd hx hb dL_law_1218 ?_
  refine va_sld (A := A0 s) hx hb hX hbl hbA hS (vI (by decide)) dL_law_1219 ?_
  refine l_Vi (As := [.int (xs (0 + 1 : Int32).toNatClampNeg), .int (xs (0 + 2 : Int32).toNatClampNeg)]) S (M11_gaps l D cy s.heap.size (Aw s.heap.size 110) false ex) gL_11_gaps rfl rfl rfl cdL_11_gaps ⟨Nat.le_of_ble_eq_true rfl, Nat.le_of_ble_eq_true rfl⟩ I1 (Nat.le_refl _) hox clX11 rfl rfl hl.1 rfl (Nat.le_of_ble_eq_true rfl) dL_law_1220 ⟨Nat.le_of_ble_eq_true rfl, Nat.le_of_ble_eq_true rfl⟩ (fun H1 locs1 J1 hk1 => ?_)
  have I2 := LM_kept I2 (A := Aw s.heap.size 110) (fun i hi z => by have := z.2; omega) hk1 J1.2.2.1
  have hS := I2.2.2.1
  refine lv_aload_n hx hb dL_law_1223 rfl (lv_at hl 2 rfl) ?_
  refine lv_aload_n hx hb dL_law_1224 rfl (lv_at hl 0 rfl) ?_
  refine lv_iload hx hb dL_law_1225 (lv_at hl 4 rfl) ?_
  refine lv_iconst (v := 1) hx hb dL_law_1227 (by decide) ?_
  refine lv_iadd hx hb dL_law_1228 ?_
  refine va_sld (A := A0 s) hx hb hX hbl hbA hS (vI (by decide)) dL_law_1229 ?_
  refine lv_aload_n hx hb dL_law_1230 rfl (lv_at hl 0 rfl) ?_
  refine lv_iload hx hb dL_law_1231 (lv_at hl 4 rfl) ?_
  refine lv_iconst (v := 2) hx hb dL_law_1233 (by decide) ?_
  refine lv_iadd hx hb dL_law_1234 ?_
  refine va_sld (A := A0 s) hx hb hX hbl hbA hS (vI (by decide)) dL_law_1235 ?_
  refine l_Vi (As := [.int (xs (0 + 1 : Int32).toNatClampNeg), .int (xs (0 + 2 : Int32).toNatClampNeg)]) S (M12_gaps l D cy (s.heap.size + 110) (Aw (s.heap.size + 110) 43) false em) gL_12_gaps rfl rfl rfl cdL_12_gaps ⟨Nat.le_of_ble_eq_true rfl, Nat.le_of_ble_eq_true rfl⟩ I2 (Nat.le_add_right _ _) hom clX12 rfl rfl hl.1 rfl (Nat.le_of_ble_eq_true rfl) dL_law_1236 ⟨Nat.le_of_ble_eq_true rfl, Nat.le_of_ble_eq_true rfl⟩ (fun H2 locs2 J2 hk2 => ?_)
  refine lv_icmp_eq (tgt := 1555) hx hb dL_law_1239 (by decide) (fun _ => ?_) (fun z => absurd exm z)
  exact law_tail S hr hlo hX hbl J2.2.2.1 (Nat.le_of_ble_eq_true rfl) (Nat.le_of_ble_eq_true rfl) (lv_sub hl [0, 4] rfl)
theorem lc_1244 (S : CallFix p m c cL_law 7 s #[Value.ref b] lw_tbl RL) (hr : meth.sig.returnType = ret) (hlo : meth.locks = false) (hX : va_X b 6 xs s s.heap) (hbl : b < s.heap.size) (I1 : LM D cy s.heap.size 110 hxF s H locs) (I2 : LM D cy (s.heap.size + 110) 43 hmF s H locs) {q3 : Nat} (hl : lv_has ls 7 [(0, .ref b), (1, .ref (s.heap.size + 0)), (2, .ref (s.heap.size + 110 + 0)), (3, .ref q3), (4, .int 0)]) : W p l e room_1 s m #[Value.ref b] below meth c H locs 154 5406 (lw_Z below #[Value.ref b] s) (F0 m 1244 ls []) := by
  have hbA : ¬ A0 s b := Nat.not_le.mpr hbl
  have hx := S.1
  have hb := S.2.1
  have hS := I1.2.2.1
  obtain ⟨ox, om, ex, em, exm⟩ := p_shares (xs (0 + 1 : Int32).toNatClampNeg)
  refine lv_aload_n hx hb dL_law_1244 rfl (lv_at hl 1 rfl) ?_
  refine lv_aload_n hx hb dL_law_1245 rfl (lv_at hl 0 rfl) ?_
  refine lv_iload hx hb dL_law_1246 (lv_at hl 4 rfl) ?_
  refine lv_iconst (v := 1) hx hb dL_law_1248 (by decide) ?_
  refine lv_iadd hx hb dL_law_1249 ?_
  refine va_sld (A := A0 s) hx hb hX hbl hbA hS (vI (by decide)) dL_law_1250 ?_
  refine l_Vi (As := [.int (xs (0 + 1 : Int32).toNatClampNeg)]) S (M11_shares l D cy s.heap.size (Aw s.heap.size 110) false ex) gL_11_shares rfl rfl rfl cdL_11_shares ⟨Nat.le_of_ble_eq_true rfl, Nat.le_of_ble_eq_true rfl⟩ I1 (Nat.le_refl _) hox clX11 rfl rfl hl.1 rfl (Nat.le_of_ble_eq_true rfl) dL_law_1251 ⟨Nat.le_of_ble_eq_true rfl, Nat.le_of_ble_eq_true rfl⟩ (fun H1 locs1 J1 hk1 => ?_)
  have I2 := LM_kept I2 (A := Aw s.heap.size 110) (fun i hi z => by have := z.2; omega) hk1 J1.2.2.1
  have hS := I2.2.2.1
  refine lv_aload_n hx hb dL_law_1254 rfl (lv_at hl 2 rfl) ?_
  refine lv_aload_n hx hb dL_law_1255 rfl (lv_at hl 0 rfl) ?_
  refine lv_iload hx hb dL_law_1256 (lv_at hl 4 rfl) ?_
  refine lv_iconst (v := 1) hx hb dL_law_1258 (by decide) ?_
  refine lv_iadd hx hb dL_law_1259 ?_
  refine va_sld (A := A0 s) hx hb hX hbl hbA hS (vI (by decide)) dL_law_1260 ?_
  refine l_Vi (As := [.int (xs (0 + 1 : Int32).toNatClampNeg)]) S (M12_shares l D cy (s.heap.size + 110) (Aw (s.heap.size + 110) 43) false em) gL_12_shares rfl rfl rfl cdL_12_shares ⟨Nat.le_of_ble_eq_true rfl, Nat.le_of_ble_eq_true rfl⟩ I2 (Nat.le_add_right _ _) hom clX12 rfl rfl hl.1 rfl (Nat.le_of_ble_eq_true rfl) dL_law_1261 ⟨Nat.le_of_ble_eq_true rfl, Nat.le_of_ble_eq_true rfl⟩ (fun H2 locs2 J2 hk2 => ?_)
  refine lv_icmp_eq (tgt := 1555) hx hb dL_law_1264 (by decide) (fun _ => ?_) (fun z => absurd exm z)
  exact law_tail S hr hlo hX hbl J2.2.2.1 (Nat.le_of_ble_eq_true rfl) (Nat.le_of_ble_eq_true rfl) (lv_sub hl [0, 4] rfl)
theorem lc_1269 (S : CallFix p m c cL_law 7 s #[Value.ref b] lw_tbl RL) (hr : meth.sig.returnType = ret) (hlo : meth.locks = false) (hX : va_X b 6 xs s s.heap) (hbl : b < s.heap.size) (I1 : LM D cy s.heap.size 110 hxF s H locs) (I2 : LM D cy (s.heap.size + 110) 43 hmF s H locs) {q3 : Nat} (hl : lv_has ls 7 [(0, .ref b), (1, .ref (s.heap.size + 0)), (2, .ref (s.heap.size + 110 + 0)), (3, .ref q3), (4, .int 0)]) : W p l e room_1 s m #[Value.ref b] below meth c H locs 154 5406 (lw_Z below #[Value.ref b] s) (F0 m 1269 ls []) := by
  have hbA : ¬ A0 s b := Nat.not_le.mpr hbl
  have hx := S.1
  have hb := S.2.1
  have hS := I1.2.2.1
  obtain ⟨ox, om, ex, em, exm⟩ := p_note (xs (0 + 1 : Int32).toNatClampNeg) (xs (0 + 2 : Int32).toNatClampNeg) (xs (0 + 3 : Int32).toNatClampNeg)
  refine lv_aload_n hx hb dL_law_1269 rfl (lv_at hl 1 rfl) ?_
  refine lv_aload_n hx hb dL_law_1270 rfl (lv_at hl 0 rfl) ?_
  refine lv_iload hx hb dL_law_1271 (lv_at hl 4 rfl) ?_
  refine lv_iconst (v := 1) hx hb dL_law_1273 (by decide) ?_
  refine lv_iadd hx hb dL_law_1274 ?_
  refine va_sld (A := A0 s) hx hb hX hbl hbA hS (vI (by decide)) dL_law_1275 ?_
  refine lv_aload_n hx hb dL_law_1276 rfl (lv_at hl 0 rfl) ?_
  refine lv_iload hx hb dL_law_1277 (lv_at hl 4 rfl) ?_
  refine lv_iconst (v := 2) hx hb dL_law_1279 (by decide) ?_
  refine lv_iadd hx hb dL_law_1280 ?_
  refine va_sld (A := A0 s) hx hb hX hbl hbA hS (vI (by decide)) dL_law_1281 ?_
  refine lv_aload_n hx hb dL_law_1282 rfl (lv_at hl 0 rfl) ?_
  refine lv_iload hx hb dL_law_1283 (lv_at hl 4 rfl) ?_
  refine lv_iconst (v := 3) hx hb dL_law_1285 (by decide) ?_
  refine lv_iadd hx hb dL_law_1286 ?_
  refine va_sld (A := A0 s) hx hb hX hbl hbA hS (vI (by decide)) dL_law_1287 ?_
  refine l_Vi (As := [.int (xs (0 + 1 : Int32).toNatClampNeg), .int (xs (0 + 2 : Int32).toNatClampNeg), .int (xs (0 + 3 : Int32).toNatClampNeg)]) S (M11_note l D cy s.heap.size (Aw s.heap.size 110) false ex) gL_11_note rfl rfl rfl cdL_11_note ⟨Nat.le_of_ble_eq_true rfl, Nat.le_of_ble_eq_true rfl⟩ I1 (Nat.le_refl _) hox clX11 rfl rfl hl.1 rfl (Nat.le_of_ble_eq_true rfl) dL_law_1288 ⟨Nat.le_of_ble_eq_true rfl, Nat.le_of_ble_eq_true rfl⟩ (fun H1 locs1 J1 hk1 => ?_)
  have I2 := LM_kept I2 (A := Aw s.heap.size 110) (fun i hi z => by have := z.2; omega) hk1 J1.2.2.1
  have hS := I2.2.2.1
  refine lv_aload_n hx hb dL_law_1291 rfl (lv_at hl 2 rfl) ?_
  refine lv_aload_n hx hb dL_law_1292 rfl (lv_at hl 0 rfl) ?_
  refine lv_iload hx hb dL_law_1293 (lv_at hl 4 rfl) ?_
  refine lv_iconst (v := 1) hx hb dL_law_1295 (by decide) ?_
  refine lv_iadd hx hb dL_law_1296 ?_
  refine va_sld (A := A0 s) hx hb hX hbl hbA hS (vI (by decide)) dL_law_1297 ?_
  refine lv_aload_n hx hb dL_law_1298 rfl (lv_at hl 0 rfl) ?_
  refine lv_iload hx hb dL_law_1299 (lv_at hl 4 rfl) ?_
  refine lv_iconst (v := 2) hx hb dL_law_1301 (by decide) ?_
  refine lv_iadd hx hb dL_law_1302 ?_
  refine va_sld (A := A0 s) hx hb hX hbl hbA hS (vI (by decide)) dL_law_1303 ?_
  refine lv_aload_n hx hb dL_law_1304 rfl (lv_at hl 0 rfl) ?_
  refine lv_iload hx hb dL_law_1305 (lv_at hl 4 rfl) ?_
  refine lv_iconst (v := 3) hx hb dL_law_1307 (by decide) ?_
  refine lv_iadd hx hb dL_law_1308 ?_
  refine va_sld (A := A0 s) hx hb hX hbl hbA hS (vI (by decide)) dL_law_1309 ?_
  refine l_Vi (As := [.int (xs (0 + 1 : Int32).toNatClampNeg), .int (xs (0 + 2 : Int32).toNatClampNeg), .int (xs (0 + 3 : Int32).toNatClampNeg)]) S (M12_note l D cy (s.heap.size + 110) (Aw (s.heap.size + 110) 43) false em) gL_12_note rfl rfl rfl cdL_12_note ⟨Nat.le_of_ble_eq_true rfl, Nat.le_of_ble_eq_true rfl⟩ I2 (Nat.le_add_right _ _) hom clX12 rfl rfl hl.1 rfl (Nat.le_of_ble_eq_true rfl) dL_law_1310 ⟨Nat.le_of_ble_eq_true rfl, Nat.le_of_ble_eq_true rfl⟩ (fun H2 locs2 J2 hk2 => ?_)
  refine lv_icmp_eq (tgt := 1555) hx hb dL_law_1313 (by decide) (fun _ => ?_) (fun z => absurd exm z)
  exact law_tail S hr hlo hX hbl J2.2.2.1 (Nat.le_of_ble_eq_true rfl) (Nat.le_of_ble_eq_true rfl) (lv_sub hl [0, 4] rfl)
theorem lc_1318 (S : CallFix p m c cL_law 7 s #[Value.ref b] lw_tbl RL) (hr : meth.sig.returnType = ret) (hlo : meth.locks = false) (hX : va_X b 6 xs s s.heap) (hbl : b < s.heap.size) (I1 : LM D cy s.heap.size 110 hxF s H locs) (I2 : LM D cy (s.heap.size + 110) 43 hmF s H locs) {q3 : Nat} (hl : lv_has ls 7 [(0, .ref b), (1, .ref (s.heap.size + 0)), (2, .ref (s.heap.size + 110 + 0)), (3, .ref q3), (4, .int 0)]) : W p l e room_1 s m #[Value.ref b] below meth c H locs 154 5406 (lw_Z below #[Value.ref b] s) (F0 m 1318 ls []) := by
  have hbA : ¬ A0 s b := Nat.not_le.mpr hbl
  have hx := S.1
  have hb := S.2.1
  have hS := I1.2.2.1
  obtain ⟨ox, om, ex, em, exm⟩ := p_strike (xs (0 + 1 : Int32).toNatClampNeg)
  refine lv_aload_n hx hb dL_law_1318 rfl (lv_at hl 1 rfl) ?_
  refine lv_aload_n hx hb dL_law_1319 rfl (lv_at hl 0 rfl) ?_
  refine lv_iload hx hb dL_law_1320 (lv_at hl 4 rfl) ?_
  refine lv_iconst (v := 1) hx hb dL_law_1322 (by decide) ?_
  refine lv_iadd hx hb dL_law_1323 ?_
  refine va_sld (A := A0 s) hx hb hX hbl hbA hS (vI (by decide)) dL_law_1324 ?_
  refine l_Vi (As := [.int (xs (0 + 1 : Int32).toNatClampNeg)]) S (M11_strike l D cy s.heap.size (Aw s.heap.size 110) false ex) gL_11_strike rfl rfl rfl cdL_11_strike ⟨Nat.le_of_ble_eq_true rfl, Nat.le_of_ble_eq_true rfl⟩ I1 (Nat.le_refl _) hox clX11 rfl rfl hl.1 rfl (Nat.le_of_ble_eq_true rfl) dL_law_1325 ⟨Nat.le_of_ble_eq_true rfl, Nat.le_of_ble_eq_true rfl⟩ (fun H1 locs1 J1 hk1 => ?_)
  have I2 := LM_kept I2 (A := Aw s.heap.size 110) (fun i hi z => by have := z.2; omega) hk1 J1.2.2.1
  have hS := I2.2.2.1
  refine lv_aload_n hx hb dL_law_1328 rfl (lv_at hl 2 rfl) ?_
  refine lv_aload_n hx hb dL_law_1329 rfl (lv_at hl 0 rfl) ?_
  refine lv_iload hx hb dL_law_1330 (lv_at hl 4 rfl) ?_
  refine lv_iconst (v := 1) hx hb dL_law_1332 (by decide) ?_
  refine lv_iadd hx hb dL_law_1333 ?_
  refine va_sld (A := A0 s) hx hb hX hbl hbA hS (vI (by decide)) dL_law_1334 ?_
  refine l_Vi (As := [.int (xs (0 + 1 : Int32).toNatClampNeg)]) S (M12_strike l D cy (s.heap.size + 110) (Aw (s.heap.size + 110) 43) false em) gL_12_strike rfl rfl rfl cdL_12_strike ⟨Nat.le_of_ble_eq_true rfl, Nat.le_of_ble_eq_true rfl⟩ I2 (Nat.le_add_right _ _) hom clX12 rfl rfl hl.1 rfl (Nat.le_of_ble_eq_true rfl) dL_law_1335 ⟨Nat.le_of_ble_eq_true rfl, Nat.le_of_ble_eq_true rfl⟩ (fun H2 locs2 J2 hk2 => ?_)
  refine lv_icmp_eq (tgt := 1555) hx hb dL_law_1338 (by decide) (fun _ => ?_) (fun z => absurd exm z)
  exact law_tail S hr hlo hX hbl J2.2.2.1 (Nat.le_of_ble_eq_true rfl) (Nat.le_of_ble_eq_true rfl) (lv_sub hl [0, 4] rfl)
theorem lc_1343 (S : CallFix p m c cL_law 7 s #[Value.ref b] lw_tbl RL) (hr : meth.sig.returnType = ret) (hlo : meth.locks = false) (hX : va_X b 6 xs s s.heap) (hbl : b < s.heap.size) (I1 : LM D cy s.heap.size 110 hxF s H locs) (I2 : LM D cy (s.heap.size + 110) 43 hmF s H locs) {q3 : Nat} (hl : lv_has ls 7 [(0, .ref b), (1, .ref (s.heap.size + 0)), (2, .ref (s.heap.size + 110 + 0)), (3, .ref q3), (4, .int 0)]) : W p l e room_1 s m #[Value.ref b] below meth c H locs 154 5406 (lw_Z below #[Value.ref b] s) (F0 m 1343 ls []) := by
  have hbA : ¬ A0 s b := Nat.not_le.mpr hbl
  have hx := S.1
  have hb := S.2.1
  have hS := I1.2.2.1
  obtain ⟨ox, om, ex, em, exm⟩ := p_known (xs (0 + 1 : Int32).toNatClampNeg)
  refine lv_aload_n hx hb dL_law_1343 rfl (lv_at hl 1 rfl) ?_
  refine lv_aload_n hx hb dL_law_1344 rfl (lv_at hl 0 rfl) ?_
  refine lv_iload hx hb dL_law_1345 (lv_at hl 4 rfl) ?_
  refine lv_iconst (v := 1) hx hb dL_law_1347 (by decide) ?_
  refine lv_iadd hx hb dL_law_1348 ?_
  refine va_sld (A := A0 s) hx hb hX hbl hbA hS (vI (by decide)) dL_law_1349 ?_
  refine l_Vi (As := [.int (xs (0 + 1 : Int32).toNatClampNeg)]) S (M11_known l D cy s.heap.size (Aw s.heap.size 110) false ex) gL_11_known rfl rfl rfl cdL_11_known ⟨Nat.le_of_ble_eq_true rfl, Nat.le_of_ble_eq_true rfl⟩ I1 (Nat.le_refl _) hox clX11 rfl rfl hl.1 rfl (Nat.le_of_ble_eq_true rfl) dL_law_1350 ⟨Nat.le_of_ble_eq_true rfl, Nat.le_of_ble_eq_true rfl⟩ (fun H1 locs1 J1 hk1 => ?_)
  have I2 := LM_kept I2 (A := Aw s.heap.size 110) (fun i hi z => by have := z.2; omega) hk1 J1.2.2.1
  have hS := I2.2.2.1
  refine lv_aload_n hx hb dL_law_1353 rfl (lv_at hl 2 rfl) ?_
  refine lv_aload_n hx hb dL_law_1354 rfl (lv_at hl 0 rfl) ?_
  refine lv_iload hx hb dL_law_1355 (lv_at hl 4 rfl) ?_
  refine lv_iconst (v := 1) hx hb dL_law_1357 (by decide) ?_
  refine lv_iadd hx hb dL_law_1358 ?_
  refine va_sld (A := A0 s) hx hb hX hbl hbA hS (vI (by decide)) dL_law_1359 ?_
  refine l_Vi (As := [.int (xs (0 + 1 : Int32).toNatClampNeg)]) S (M12_known l D cy (s.heap.size + 110) (Aw (s.heap.size + 110) 43) false em) gL_12_known rfl rfl rfl cdL_12_known ⟨Nat.le_of_ble_eq_true rfl, Nat.le_of_ble_eq_true rfl⟩ I2 (Nat.le_add_right _ _) hom clX12 rfl rfl hl.1 rfl (Nat.le_of_ble_eq_true rfl) dL_law_1360 ⟨Nat.le_of_ble_eq_true rfl, Nat.le_of_ble_eq_true rfl⟩ (fun H2 locs2 J2 hk2 => ?_)
  refine lv_icmp_eq (tgt := 1555) hx hb dL_law_1363 (by decide) (fun _ => ?_) (fun z => absurd exm z)
  exact law_tail S hr hlo hX hbl J2.2.2.1 (Nat.le_of_ble_eq_true rfl) (Nat.le_of_ble_eq_true rfl) (lv_sub hl [0, 4] rfl)
theorem lc_1368 (S : CallFix p m c cL_law 7 s #[Value.ref b] lw_tbl RL) (hr : meth.sig.returnType = ret) (hlo : meth.locks = false) (hX : va_X b 6 xs s s.heap) (hbl : b < s.heap.size) (I1 : LM D cy s.heap.size 110 hxF s H locs) (I2 : LM D cy (s.heap.size + 110) 43 hmF s H locs) {q3 : Nat} (hl : lv_has ls 7 [(0, .ref b), (1, .ref (s.heap.size + 0)), (2, .ref (s.heap.size + 110 + 0)), (3, .ref q3), (4, .int 0)]) : W p l e room_1 s m #[Value.ref b] below meth c H locs 154 5406 (lw_Z below #[Value.ref b] s) (F0 m 1368 ls []) := by
  have hbA : ¬ A0 s b := Nat.not_le.mpr hbl
  have hx := S.1
  have hb := S.2.1
  have hS := I1.2.2.1
  obtain ⟨ox, om, ex, em, exm⟩ := p_locals (xs (0 + 1 : Int32).toNatClampNeg)
  refine lv_aload_n hx hb dL_law_1368 rfl (lv_at hl 1 rfl) ?_
  refine lv_aload_n hx hb dL_law_1369 rfl (lv_at hl 0 rfl) ?_
  refine lv_iload hx hb dL_law_1370 (lv_at hl 4 rfl) ?_
  refine lv_iconst (v := 1) hx hb dL_law_1372 (by decide) ?_
  refine lv_iadd hx hb dL_law_1373 ?_
  refine va_sld (A := A0 s) hx hb hX hbl hbA hS (vI (by decide)) dL_law_1374 ?_
  refine l_Vi (As := [.int (xs (0 + 1 : Int32).toNatClampNeg)]) S (M11_locals l D cy s.heap.size (Aw s.heap.size 110) false ex) gL_11_locals rfl rfl rfl cdL_11_locals ⟨Nat.le_of_ble_eq_true rfl, Nat.le_of_ble_eq_true rfl⟩ I1 (Nat.le_refl _) hox clX11 rfl rfl hl.1 rfl (Nat.le_of_ble_eq_true rfl) dL_law_1375 ⟨Nat.le_of_ble_eq_true rfl, Nat.le_of_ble_eq_true rfl⟩ (fun H1 locs1 J1 hk1 => ?_)
  have I2 := LM_kept I2 (A := Aw s.heap.size 110) (fun i hi z => by have := z.2; omega) hk1 J1.2.2.1
  have hS := I2.2.2.1
  refine lv_aload_n hx hb dL_law_1378 rfl (lv_at hl 2 rfl) ?_
  refine lv_aload_n hx hb dL_law_1379 rfl (lv_at hl 0 rfl) ?_
  refine lv_iload hx hb dL_law_1380 (lv_at hl 4 rfl) ?_
  refine lv_iconst (v := 1) hx hb dL_law_1382 (by decide) ?_
  refine lv_iadd hx hb dL_law_1383 ?_
  refine va_sld (A := A0 s) hx hb hX hbl hbA hS (vI (by decide)) dL_law_1384 ?_
  refine l_Vi (As := [.int (xs (0 + 1 : Int32).toNatClampNeg)]) S (M12_locals l D cy (s.heap.size + 110) (Aw (s.heap.size + 110) 43) false em) gL_12_locals rfl rfl rfl cdL_12_locals ⟨Nat.le_of_ble_eq_true rfl, Nat.le_of_ble_eq_true rfl⟩ I2 (Nat.le_add_right _ _) hom clX12 rfl rfl hl.1 rfl (Nat.le_of_ble_eq_true rfl) dL_law_1385 ⟨Nat.le_of_ble_eq_true rfl, Nat.le_of_ble_eq_true rfl⟩ (fun H2 locs2 J2 hk2 => ?_)
  refine lv_icmp_eq (tgt := 1555) hx hb dL_law_1388 (by decide) (fun _ => ?_) (fun z => absurd exm z)
  exact law_tail S hr hlo hX hbl J2.2.2.1 (Nat.le_of_ble_eq_true rfl) (Nat.le_of_ble_eq_true rfl) (lv_sub hl [0, 4] rfl)
theorem lc_1393 (S : CallFix p m c cL_law 7 s #[Value.ref b] lw_tbl RL) (hr : meth.sig.returnType = ret) (hlo : meth.locks = false) (hX : va_X b 6 xs s s.heap) (hbl : b < s.heap.size) (I1 : LM D cy s.heap.size 110 hxF s H locs) (I2 : LM D cy (s.heap.size + 110) 43 hmF s H locs) {q3 : Nat} (hl : lv_has ls 7 [(0, .ref b), (1, .ref (s.heap.size + 0)), (2, .ref (s.heap.size + 110 + 0)), (3, .ref q3), (4, .int 0)]) : W p l e room_1 s m #[Value.ref b] below meth c H locs 154 5406 (lw_Z below #[Value.ref b] s) (F0 m 1393 ls []) := by
  have hbA : ¬ A0 s b := Nat.not_le.mpr hbl
  have hx := S.1
  have hb := S.2.1
  have hS := I1.2.2.1
  obtain ⟨ox, om, ex, em, exm⟩ := p_chance (xs (0 + 1 : Int32).toNatClampNeg) (xs (0 + 2 : Int32).toNatClampNeg) (xs (0 + 3 : Int32).toNatClampNeg)
  refine lv_aload_n hx hb dL_law_1393 rfl (lv_at hl 1 rfl) ?_
  refine lv_aload_n hx hb dL_law_1394 rfl (lv_at hl 0 rfl) ?_
  refine lv_iload hx hb dL_law_1395 (lv_at hl 4 rfl) ?_
  refine lv_iconst (v := 1) hx hb dL_law_1397 (by decide) ?_
  refine lv_iadd hx hb dL_law_1398 ?_
  refine va_sld (A := A0 s) hx hb hX hbl hbA hS (vI (by decide)) dL_law_1399 ?_
  refine lv_aload_n hx hb dL_law_1400 rfl (lv_at hl 0 rfl) ?_
  refine lv_iload hx hb dL_law_1401 (lv_at hl 4 rfl) ?_
  refine lv_iconst (v := 2) hx hb dL_law_1403 (by decide) ?_
  refine lv_iadd hx hb dL_law_1404 ?_
  refine va_sld (A := A0 s) hx hb hX hbl hbA hS (vI (by decide)) dL_law_1405 ?_
  refine lv_aload_n hx hb dL_law_1406 rfl (lv_at hl 0 rfl) ?_
  refine lv_iload hx hb dL_law_1407 (lv_at hl 4 rfl) ?_
  refine lv_iconst (v := 3) hx hb dL_law_1409 (by decide) ?_
  refine lv_iadd hx hb dL_law_1410 ?_
  refine va_sld (A := A0 s) hx hb hX hbl hbA hS (vI (by decide)) dL_law_1411 ?_
  refine l_Vi (As := [.int (xs (0 + 1 : Int32).toNatClampNeg), .int (xs (0 + 2 : Int32).toNatClampNeg), .int (xs (0 + 3 : Int32).toNatClampNeg)]) S (M11_chance l D cy s.heap.size (Aw s.heap.size 110) ex) gL_11_chance rfl rfl rfl cdL_11_chance ⟨Nat.le_of_ble_eq_true rfl, Nat.le_of_ble_eq_true rfl⟩ I1 (Nat.le_refl _) hox clX11 rfl rfl hl.1 rfl (Nat.le_of_ble_eq_true rfl) dL_law_1412 ⟨Nat.le_of_ble_eq_true rfl, Nat.le_of_ble_eq_true rfl⟩ (fun H1 locs1 J1 hk1 => ?_)
  have I2 := LM_kept I2 (A := Aw s.heap.size 110) (fun i hi z => by have := z.2; omega) hk1 J1.2.2.1
  have hS := I2.2.2.1
  refine lv_aload_n hx hb dL_law_1415 rfl (lv_at hl 2 rfl) ?_
  refine lv_aload_n hx hb dL_law_1416 rfl (lv_at hl 0 rfl) ?_
  refine lv_iload hx hb dL_law_1417 (lv_at hl 4 rfl) ?_
  refine lv_iconst (v := 1) hx hb dL_law_1419 (by decide) ?_
  refine lv_iadd hx hb dL_law_1420 ?_
  refine va_sld (A := A0 s) hx hb hX hbl hbA hS (vI (by decide)) dL_law_1421 ?_
  refine lv_aload_n hx hb dL_law_1422 rfl (lv_at hl 0 rfl) ?_
  refine lv_iload hx hb dL_law_1423 (lv_at hl 4 rfl) ?_
  refine lv_iconst (v := 2) hx hb dL_law_1425 (by decide) ?_
  refine lv_iadd hx hb dL_law_1426 ?_
  refine va_sld (A := A0 s) hx hb hX hbl hbA hS (vI (by decide)) dL_law_1427 ?_
  refine lv_aload_n hx hb dL_law_1428 rfl (lv_at hl 0 rfl) ?_
  refine lv_iload hx hb dL_law_1429 (lv_at hl 4 rfl) ?_
  refine lv_iconst (v := 3) hx hb dL_law_1431 (by decide) ?_
  refine lv_iadd hx hb dL_law_1432 ?_
  refine va_sld (A := A0 s) hx hb hX hbl hbA hS (vI (by decide)) dL_law_1433 ?_
  refine l_Vi (As := [.int (xs (0 + 1 : Int32).toNatClampNeg), .int (xs (0 + 2 : Int32).toNatClampNeg), .int (xs (0 + 3 : Int32).toNatClampNeg)]) S (M12_chance l D cy (s.heap.size + 110) (Aw (s.heap.size + 110) 43) false em) gL_12_chance rfl rfl rfl cdL_12_chance ⟨Nat.le_of_ble_eq_true rfl, Nat.le_of_ble_eq_true rfl⟩ I2 (Nat.le_add_right _ _) hom clX12 rfl rfl hl.1 rfl (Nat.le_of_ble_eq_true rfl) dL_law_1434 ⟨Nat.le_of_ble_eq_true rfl, Nat.le_of_ble_eq_true rfl⟩ (fun H2 locs2 J2 hk2 => ?_)
  refine lv_icmp_eq (tgt := 1555) hx hb dL_law_1437 (by decide) (fun _ => ?_) (fun z => absurd exm z)
  exact law_tail S hr hlo hX hbl J2.2.2.1 (Nat.le_of_ble_eq_true rfl) (Nat.le_of_ble_eq_true rfl) (lv_sub hl [0, 4] rfl)
theorem lc_1442 (S : CallFix p m c cL_law 7 s #[Value.ref b] lw_tbl RL) (hr : meth.sig.returnType = ret) (hlo : meth.locks = false) (hX : va_X b 6 xs s s.heap) (hbl : b < s.heap.size) (I1 : LM D cy s.heap.size 110 hxF s H locs) (I2 : LM D cy (s.heap.size + 110) 43 hmF s H locs) {q3 : Nat} (hl : lv_has ls 7 [(0, .ref b), (1, .ref (s.heap.size + 0)), (2, .ref (s.heap.size + 110 + 0)), (3, .ref q3), (4, .int 0)]) : W p l e room_1 s m #[Value.ref b] below meth c H locs 154 5406 (lw_Z below #[Value.ref b] s) (F0 m 1442 ls []) := by
  have hbA : ¬ A0 s b := Nat.not_le.mpr hbl
  have hx := S.1
  have hb := S.2.1
  have hS := I1.2.2.1
  obtain ⟨ox, om, ex, em, exm⟩ := p_tried (xs (0 + 1 : Int32).toNatClampNeg) (xs (0 + 2 : Int32).toNatClampNeg) (xs (0 + 3 : Int32).toNatClampNeg)
  refine lv_aload_n hx hb dL_law_1442 rfl (lv_at hl 1 rfl) ?_
  refine lv_aload_n hx hb dL_law_1443 rfl (lv_at hl 0 rfl) ?_
  refine lv_iload hx hb dL_law_1444 (lv_at hl 4 rfl) ?_
  refine lv_iconst (v := 1) hx hb dL_law_1446 (by decide) ?_
  refine lv_iadd hx hb dL_law_1447 ?_
  refine va_sld (A := A0 s) hx hb hX hbl hbA hS (vI (by decide)) dL_law_1448 ?_
  refine lv_aload_n hx hb dL_law_1449 rfl (lv_at hl 0 rfl) ?_
  refine lv_iload hx hb dL_law_1450 (lv_at hl 4 rfl) ?_
  refine lv_iconst (v := 2) hx hb dL_law_1452 (by decide) ?_
  refine lv_iadd hx hb dL_law_1453 ?_
  refine va_sld (A := A0 s) hx hb hX hbl hbA hS (vI (by decide)) dL_law_1454 ?_
  refine lv_aload_n hx hb dL_law_1455 rfl (lv_at hl 0 rfl) ?_
  refine lv_iload hx hb dL_law_1456 (lv_at hl 4 rfl) ?_
  refine lv_iconst (v := 3) hx hb dL_law_1458 (by decide) ?_
  refine lv_iadd hx hb dL_law_1459 ?_
  refine va_sld (A := A0 s) hx hb hX hbl hbA hS (vI (by decide)) dL_law_1460 ?_
  refine l_Vi (As := [.int (xs (0 + 1 : Int32).toNatClampNeg), .int (xs (0 + 2 : Int32).toNatClampNeg), .int (xs (0 + 3 : Int32).toNatClampNeg)]) S (M11_tried l D cy s.heap.size (Aw s.heap.size 110) ex) gL_11_tried rfl rfl rfl cdL_11_tried ⟨Nat.le_of_ble_eq_true rfl, Nat.le_of_ble_eq_true rfl⟩ I1 (Nat.le_refl _) hox clX11 rfl rfl hl.1 rfl (Nat.le_of_ble_eq_true rfl) dL_law_1461 ⟨Nat.le_of_ble_eq_true rfl, Nat.le_of_ble_eq_true rfl⟩ (fun H1 locs1 J1 hk1 => ?_)
  have I2 := LM_kept I2 (A := Aw s.heap.size 110) (fun i hi z => by have := z.2; omega) hk1 J1.2.2.1
  have hS := I2.2.2.1
  refine lv_aload_n hx hb dL_law_1464 rfl (lv_at hl 2 rfl) ?_
  refine lv_aload_n hx hb dL_law_1465 rfl (lv_at hl 0 rfl) ?_
  refine lv_iload hx hb dL_law_1466 (lv_at hl 4 rfl) ?_
  refine lv_iconst (v := 1) hx hb dL_law_1468 (by decide) ?_
  refine lv_iadd hx hb dL_law_1469 ?_
  refine va_sld (A := A0 s) hx hb hX hbl hbA hS (vI (by decide)) dL_law_1470 ?_
  refine lv_aload_n hx hb dL_law_1471 rfl (lv_at hl 0 rfl) ?_
  refine lv_iload hx hb dL_law_1472 (lv_at hl 4 rfl) ?_
  refine lv_iconst (v := 2) hx hb dL_law_1474 (by decide) ?_
  refine lv_iadd hx hb dL_law_1475 ?_
  refine va_sld (A := A0 s) hx hb hX hbl hbA hS (vI (by decide)) dL_law_1476 ?_
  refine lv_aload_n hx hb dL_law_1477 rfl (lv_at hl 0 rfl) ?_
  refine lv_iload hx hb dL_law_1478 (lv_at hl 4 rfl) ?_
  refine lv_iconst (v := 3) hx hb dL_law_1480 (by decide) ?_
  refine lv_iadd hx hb dL_law_1481 ?_
  refine va_sld (A := A0 s) hx hb hX hbl hbA hS (vI (by decide)) dL_law_1482 ?_
  refine l_Vi (As := [.int (xs (0 + 1 : Int32).toNatClampNeg), .int (xs (0 + 2 : Int32).toNatClampNeg), .int (xs (0 + 3 : Int32).toNatClampNeg)]) S (M12_tried l D cy (s.heap.size + 110) (Aw (s.heap.size + 110) 43) false em) gL_12_tried rfl rfl rfl cdL_12_tried ⟨Nat.le_of_ble_eq_true rfl, Nat.le_of_ble_eq_true rfl⟩ I2 (Nat.le_add_right _ _) hom clX12 rfl rfl hl.1 rfl (Nat.le_of_ble_eq_true rfl) dL_law_1483 ⟨Nat.le_of_ble_eq_true rfl, Nat.le_of_ble_eq_true rfl⟩ (fun H2 locs2 J2 hk2 => ?_)
  refine lv_icmp_eq (tgt := 1555) hx hb dL_law_1486 (by decide) (fun _ => ?_) (fun z => absurd exm z)
  exact law_tail S hr hlo hX hbl J2.2.2.1 (Nat.le_of_ble_eq_true rfl) (Nat.le_of_ble_eq_true rfl) (lv_sub hl [0, 4] rfl)
theorem lc_1491 (S : CallFix p m c cL_law 7 s #[Value.ref b] lw_tbl RL) (hr : meth.sig.returnType = ret) (hlo : meth.locks = false) (hX : va_X b 6 xs s s.heap) (hbl : b < s.heap.size) (I1 : LM D cy s.heap.size 110 hxF s H locs) (I2 : LM D cy (s.heap.size + 110) 43 hmF s H locs) {q3 : Nat} (hl : lv_has ls 7 [(0, .ref b), (1, .ref (s.heap.size + 0)), (2, .ref (s.heap.size + 110 + 0)), (3, .ref q3), (4, .int 0)]) : W p l e room_1 s m #[Value.ref b] below meth c H locs 154 5406 (lw_Z below #[Value.ref b] s) (F0 m 1491 ls []) := by
  have hbA : ¬ A0 s b := Nat.not_le.mpr hbl
  have hx := S.1
  have hb := S.2.1
  have hS := I1.2.2.1
  obtain ⟨ox, om, ex, em, exm⟩ := p_undo 
  refine lv_aload_n hx hb dL_law_1491 rfl (lv_at hl 1 rfl) ?_
  refine l_Vi (As := []) S (M11_undo l D cy s.heap.size (Aw s.heap.size 110) false ex) gL_11_undo rfl rfl rfl cdL_11_undo ⟨Nat.le_of_ble_eq_true rfl, Nat.le_of_ble_eq_true rfl⟩ I1 (Nat.le_refl _) hox clX11 rfl rfl hl.1 rfl (Nat.le_of_ble_eq_true rfl) dL_law_1492 ⟨Nat.le_of_ble_eq_true rfl, Nat.le_of_ble_eq_true rfl⟩ (fun H1 locs1 J1 hk1 => ?_)
  have I2 := LM_kept I2 (A := Aw s.heap.size 110) (fun i hi z => by have := z.2; omega) hk1 J1.2.2.1
  have hS := I2.2.2.1
  refine lv_aload_n hx hb dL_law_1495 rfl (lv_at hl 2 rfl) ?_
  refine l_Vi (As := []) S (M12_undo l D cy (s.heap.size + 110) (Aw (s.heap.size + 110) 43) false em) gL_12_undo rfl rfl rfl cdL_12_undo ⟨Nat.le_of_ble_eq_true rfl, Nat.le_of_ble_eq_true rfl⟩ I2 (Nat.le_add_right _ _) hom clX12 rfl rfl hl.1 rfl (Nat.le_of_ble_eq_true rfl) dL_law_1496 ⟨Nat.le_of_ble_eq_true rfl, Nat.le_of_ble_eq_true rfl⟩ (fun H2 locs2 J2 hk2 => ?_)
  refine lv_icmp_eq (tgt := 1555) hx hb dL_law_1499 (by decide) (fun _ => ?_) (fun z => absurd exm z)
  exact law_tail S hr hlo hX hbl J2.2.2.1 (Nat.le_of_ble_eq_true rfl) (Nat.le_of_ble_eq_true rfl) (lv_sub hl [0, 4] rfl)
theorem lc_1504 (S : CallFix p m c cL_law 7 s #[Value.ref b] lw_tbl RL) (hr : meth.sig.returnType = ret) (hlo : meth.locks = false) (hX : va_X b 6 xs s s.heap) (hbl : b < s.heap.size) (I1 : LM D cy s.heap.size 110 hxF s H locs) (I2 : LM D cy (s.heap.size + 110) 43 hmF s H locs) {q3 : Nat} (hl : lv_has ls 7 [(0, .ref b), (1, .ref (s.heap.size + 0)), (2, .ref (s.heap.size + 110 + 0)), (3, .ref q3), (4, .int 0)]) : W p l e room_1 s m #[Value.ref b] below meth c H locs 154 5406 (lw_Z below #[Value.ref b] s) (F0 m 1504 ls []) := by
  have hbA : ¬ A0 s b := Nat.not_le.mpr hbl
  have hx := S.1
  have hb := S.2.1
  have hS := I1.2.2.1
  obtain ⟨ox, om, ex, em, exm⟩ := p_keep 
  refine lv_aload_n hx hb dL_law_1504 rfl (lv_at hl 1 rfl) ?_
  refine l_Vi (As := []) S (M11_keep l D cy s.heap.size (Aw s.heap.size 110) ex) gL_11_keep rfl rfl rfl cdL_11_keep ⟨Nat.le_of_ble_eq_true rfl, Nat.le_of_ble_eq_true rfl⟩ I1 (Nat.le_refl _) hox clX11 rfl rfl hl.1 rfl (Nat.le_of_ble_eq_true rfl) dL_law_1505 ⟨Nat.le_of_ble_eq_true rfl, Nat.le_of_ble_eq_true rfl⟩ (fun H1 locs1 J1 hk1 => ?_)
  have I2 := LM_kept I2 (A := Aw s.heap.size 110) (fun i hi z => by have := z.2; omega) hk1 J1.2.2.1
  have hS := I2.2.2.1
  refine lv_aload_n hx hb dL_law_1508 rfl (lv_at hl 2 rfl) ?_
  refine l_Vi (As := []) S (M12_keep l D cy (s.heap.size + 110) (Aw (s.heap.size + 110) 43) false em) gL_12_keep rfl rfl rfl cdL_12_keep ⟨Nat.le_of_ble_eq_true rfl, Nat.le_of_ble_eq_true rfl⟩ I2 (Nat.le_add_right _ _) hom clX12 rfl rfl hl.1 rfl (Nat.le_of_ble_eq_true rfl) dL_law_1509 ⟨Nat.le_of_ble_eq_true rfl, Nat.le_of_ble_eq_true rfl⟩ (fun H2 locs2 J2 hk2 => ?_)
  refine lv_icmp_eq (tgt := 1555) hx hb dL_law_1512 (by decide) (fun _ => ?_) (fun z => absurd exm z)
  exact law_tail S hr hlo hX hbl J2.2.2.1 (Nat.le_of_ble_eq_true rfl) (Nat.le_of_ble_eq_true rfl) (lv_sub hl [0, 4] rfl)
theorem lc_1517 (S : CallFix p m c cL_law 7 s #[Value.ref b] lw_tbl RL) (hr : meth.sig.returnType = ret) (hlo : meth.locks = false) (hX : va_X b 6 xs s s.heap) (hbl : b < s.heap.size) (I1 : LM D cy s.heap.size 110 hxF s H locs) (I2 : LM D cy (s.heap.size + 110) 43 hmF s H locs) {q3 : Nat} (hl : lv_has ls 7 [(0, .ref b), (1, .ref (s.heap.size + 0)), (2, .ref (s.heap.size + 110 + 0)), (3, .ref q3), (4, .int 0)]) : W p l e room_1 s m #[Value.ref b] below meth c H locs 154 5406 (lw_Z below #[Value.ref b] s) (F0 m 1517 ls []) := by
  have hbA : ¬ A0 s b := Nat.not_le.mpr hbl
  have hx := S.1
  have hb := S.2.1
  have hS := I1.2.2.1
  obtain ⟨ox, om, ex, em, exm⟩ := p_back 
  refine lv_aload_n hx hb dL_law_1517 rfl (lv_at hl 1 rfl) ?_
  refine l_Vi (As := []) S (M11_back l D cy s.heap.size (Aw s.heap.size 110) ex) gL_11_back rfl rfl rfl cdL_11_back ⟨Nat.le_of_ble_eq_true rfl, Nat.le_of_ble_eq_true rfl⟩ I1 (Nat.le_refl _) hox clX11 rfl rfl hl.1 rfl (Nat.le_of_ble_eq_true rfl) dL_law_1518 ⟨Nat.le_of_ble_eq_true rfl, Nat.le_of_ble_eq_true rfl⟩ (fun H1 locs1 J1 hk1 => ?_)
  have I2 := LM_kept I2 (A := Aw s.heap.size 110) (fun i hi z => by have := z.2; omega) hk1 J1.2.2.1
  have hS := I2.2.2.1
  refine lv_aload_n hx hb dL_law_1521 rfl (lv_at hl 2 rfl) ?_
  refine l_Vi (As := []) S (M12_back l D cy (s.heap.size + 110) (Aw (s.heap.size + 110) 43) false em) gL_12_back rfl rfl rfl cdL_12_back ⟨Nat.le_of_ble_eq_true rfl, Nat.le_of_ble_eq_true rfl⟩ I2 (Nat.le_add_right _ _) hom clX12 rfl rfl hl.1 rfl (Nat.le_of_ble_eq_true rfl) dL_law_1522 ⟨Nat.le_of_ble_eq_true rfl, Nat.le_of_ble_eq_true rfl⟩ (fun H2 locs2 J2 hk2 => ?_)
  refine lv_icmp_eq (tgt := 1555) hx hb dL_law_1525 (by decide) (fun _ => ?_) (fun z => absurd exm z)
  exact law_tail S hr hlo hX hbl J2.2.2.1 (Nat.le_of_ble_eq_true rfl) (Nat.le_of_ble_eq_true rfl) (lv_sub hl [0, 4] rfl)
theorem lc_1530 (S : CallFix p m c cL_law 7 s #[Value.ref b] lw_tbl RL) (hr : meth.sig.returnType = ret) (hlo : meth.locks = false) (hX : va_X b 6 xs s s.heap) (hbl : b < s.heap.size) (I1 : LM D cy s.heap.size 110 hxF s H locs) (I2 : LM D cy (s.heap.size + 110) 43 hmF s H locs) {q3 : Nat} (hl : lv_has ls 7 [(0, .ref b), (1, .ref (s.heap.size + 0)), (2, .ref (s.heap.size + 110 + 0)), (3, .ref q3), (4, .int 0)]) : W p l e room_1 s m #[Value.ref b] below meth c H locs 154 5406 (lw_Z below #[Value.ref b] s) (F0 m 1530 ls []) := by
  have hbA : ¬ A0 s b := Nat.not_le.mpr hbl
  have hx := S.1
  have hb := S.2.1
  have hS := I1.2.2.1
  obtain ⟨ox, om, ex, em, exm⟩ := p_count (xs (0 + 1 : Int32).toNatClampNeg)
  refine lv_aload_n hx hb dL_law_1530 rfl (lv_at hl 1 rfl) ?_
  refine lv_aload_n hx hb dL_law_1531 rfl (lv_at hl 0 rfl) ?_
  refine lv_iload hx hb dL_law_1532 (lv_at hl 4 rfl) ?_
  refine lv_iconst (v := 1) hx hb dL_law_1534 (by decide) ?_
  refine lv_iadd hx hb dL_law_1535 ?_
  refine va_sld (A := A0 s) hx hb hX hbl hbA hS (vI (by decide)) dL_law_1536 ?_
  refine l_Vi (As := [.int (xs (0 + 1 : Int32).toNatClampNeg)]) S (M11_count l D cy s.heap.size (Aw s.heap.size 110) false ex) gL_11_count rfl rfl rfl cdL_11_count ⟨Nat.le_of_ble_eq_true rfl, Nat.le_of_ble_eq_true rfl⟩ I1 (Nat.le_refl _) hox clX11 rfl rfl hl.1 rfl (Nat.le_of_ble_eq_true rfl) dL_law_1537 ⟨Nat.le_of_ble_eq_true rfl, Nat.le_of_ble_eq_true rfl⟩ (fun H1 locs1 J1 hk1 => ?_)
  have I2 := LM_kept I2 (A := Aw s.heap.size 110) (fun i hi z => by have := z.2; omega) hk1 J1.2.2.1
  have hS := I2.2.2.1
  refine lv_aload_n hx hb dL_law_1540 rfl (lv_at hl 2 rfl) ?_
  refine lv_aload_n hx hb dL_law_1541 rfl (lv_at hl 0 rfl) ?_
  refine lv_iload hx hb dL_law_1542 (lv_at hl 4 rfl) ?_
  refine lv_iconst (v := 1) hx hb dL_law_1544 (by decide) ?_
  refine lv_iadd hx hb dL_law_1545 ?_
  refine va_sld (A := A0 s) hx hb hX hbl hbA hS (vI (by decide)) dL_law_1546 ?_
  refine l_Vi (As := [.int (xs (0 + 1 : Int32).toNatClampNeg)]) S (M12_count l D cy (s.heap.size + 110) (Aw (s.heap.size + 110) 43) false em) gL_12_count rfl rfl rfl cdL_12_count ⟨Nat.le_of_ble_eq_true rfl, Nat.le_of_ble_eq_true rfl⟩ I2 (Nat.le_add_right _ _) hom clX12 rfl rfl hl.1 rfl (Nat.le_of_ble_eq_true rfl) dL_law_1547 ⟨Nat.le_of_ble_eq_true rfl, Nat.le_of_ble_eq_true rfl⟩ (fun H2 locs2 J2 hk2 => ?_)
  refine lv_icmp_eq (tgt := 1555) hx hb dL_law_1550 (by decide) (fun _ => ?_) (fun z => absurd exm z)
  exact law_tail S hr hlo hX hbl J2.2.2.1 (Nat.le_of_ble_eq_true rfl) (Nat.le_of_ble_eq_true rfl) (lv_sub hl [0, 4] rfl)
end LC
