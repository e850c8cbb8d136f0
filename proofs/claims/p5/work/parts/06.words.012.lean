theorem wT_64_12 : Cond.fieldLink RX11 350 "WhoseWave$Now" "number" "I" ∈ TB := (List.mem_append_right _ (List.mem_append_right _ (List.mem_append_left _ (List.mem_append_left _ (List.mem_append_right _ (List.mem_append_left _ (List.mem_of_getElem? (i := 12) rfl)))))))
theorem wT_64_13 : Cond.methodLink RL 164 yX12_chance ∈ TB := (List.mem_append_right _ (List.mem_append_right _ (List.mem_append_left _ (List.mem_append_left _ (List.mem_append_right _ (List.mem_append_left _ (List.mem_of_getElem? (i := 13) rfl)))))))
theorem wT_64_14 : Cond.instanceMethod yX12_chance ∈ TB := (List.mem_append_right _ (List.mem_append_right _ (List.mem_append_left _ (List.mem_append_left _ (List.mem_append_right _ (List.mem_append_left _ (List.mem_of_getElem? (i := 14) rfl)))))))
theorem wT_64_15 : Cond.selects RX12 yX12_chance yX12_chance ∈ TB := (List.mem_append_right _ (List.mem_append_right _ (List.mem_append_left _ (List.mem_append_left _ (List.mem_append_right _ (List.mem_append_left _ (List.mem_of_getElem? (i := 15) rfl)))))))
theorem wT_64_16 : Cond.code yX12_chance cX12_chance 8 (some .int) ∈ TB := (List.mem_append_right _ (List.mem_append_right _ (List.mem_append_left _ (List.mem_append_left _ (List.mem_append_right _ (List.mem_append_left _ (List.mem_of_getElem? (i := 16) rfl)))))))
theorem wT_64_17 : Cond.methodLink RL 165 yX11_tried ∈ TB := (List.mem_append_right _ (List.mem_append_right _ (List.mem_append_left _ (List.mem_append_left _ (List.mem_append_right _ (List.mem_append_left _ (List.mem_of_getElem? (i := 17) rfl)))))))
theorem wT_64_18 : Cond.instanceMethod yX11_tried ∈ TB := (List.mem_append_right _ (List.mem_append_right _ (List.mem_append_left _ (List.mem_append_left _ (List.mem_append_right _ (List.mem_append_left _ (List.mem_of_getElem? (i := 18) rfl)))))))
theorem wT_64_19 : Cond.selects RX11 yX11_tried yX11_tried ∈ TB := (List.mem_append_right _ (List.mem_append_right _ (List.mem_append_left _ (List.mem_append_left _ (List.mem_append_right _ (List.mem_append_left _ (List.mem_of_getElem? (i := 19) rfl)))))))
theorem wT_64_20 : Cond.code yX11_tried cX11_tried 6 (some .int) ∈ TB := (List.mem_append_right _ (List.mem_append_right _ (List.mem_append_left _ (List.mem_append_left _ (List.mem_append_right _ (List.mem_append_left _ (List.mem_of_getElem? (i := 20) rfl)))))))
theorem wT_64_21 : Cond.methodLink RX11 357 yX6_takeOver ∈ TB := (List.mem_append_right _ (List.mem_append_right _ (List.mem_append_left _ (List.mem_append_left _ (List.mem_append_right _ (List.mem_append_left _ (List.mem_of_getElem? (i := 21) rfl)))))))
theorem wT_64_22 : Cond.instanceMethod yX6_takeOver ∈ TB := (List.mem_append_right _ (List.mem_append_right _ (List.mem_append_left _ (List.mem_append_left _ (List.mem_append_right _ (List.mem_append_left _ (List.mem_of_getElem? (i := 22) rfl)))))))
theorem wT_64_23 : Cond.selects RX6 yX6_takeOver yX6_takeOver ∈ TB := (List.mem_append_right _ (List.mem_append_right _ (List.mem_append_left _ (List.mem_append_left _ (List.mem_append_right _ (List.mem_append_left _ (List.mem_of_getElem? (i := 23) rfl)))))))
theorem wT_65_0 : Cond.code yX6_takeOver cX6_takeOver 2 none ∈ TB := (List.mem_append_right _ (List.mem_append_right _ (List.mem_append_left _ (List.mem_append_left _ (List.mem_append_right _ (List.mem_append_right _ (List.mem_append_left _ (List.mem_of_getElem? (i := 0) rfl))))))))
theorem wT_65_1 : Cond.methodLink RX11 361 yX11_changeTrial ∈ TB := (List.mem_append_right _ (List.mem_append_right _ (List.mem_append_left _ (List.mem_append_left _ (List.mem_append_right _ (List.mem_append_right _ (List.mem_append_left _ (List.mem_of_getElem? (i := 1) rfl))))))))
theorem wT_65_2 : Cond.instanceMethod yX11_changeTrial ∈ TB := (List.mem_append_right _ (List.mem_append_right _ (List.mem_append_left _ (List.mem_append_left _ (List.mem_append_right _ (List.mem_append_right _ (List.mem_append_left _ (List.mem_of_getElem? (i := 2) rfl))))))))
theorem wT_65_3 : Cond.selects RX11 yX11_changeTrial yX11_changeTrial ∈ TB := (List.mem_append_right _ (List.mem_append_right _ (List.mem_append_left _ (List.mem_append_left _ (List.mem_append_right _ (List.mem_append_right _ (List.mem_append_left _ (List.mem_of_getElem? (i := 3) rfl))))))))
theorem wT_65_4 : Cond.code yX11_changeTrial cX11_changeTrial 3 none ∈ TB := (List.mem_append_right _ (List.mem_append_right _ (List.mem_append_left _ (List.mem_append_left _ (List.mem_append_right _ (List.mem_append_right _ (List.mem_append_left _ (List.mem_of_getElem? (i := 4) rfl))))))))
theorem wT_65_5 : Cond.methodLink RX11 402 yX6_makeNobodyBold ∈ TB := (List.mem_append_right _ (List.mem_append_right _ (List.mem_append_left _ (List.mem_append_left _ (List.mem_append_right _ (List.mem_append_right _ (List.mem_append_left _ (List.mem_of_getElem? (i := 5) rfl))))))))
theorem wT_65_6 : Cond.instanceMethod yX6_makeNobodyBold ∈ TB := (List.mem_append_right _ (List.mem_append_right _ (List.mem_append_left _ (List.mem_append_left _ (List.mem_append_right _ (List.mem_append_right _ (List.mem_append_left _ (List.mem_of_getElem? (i := 6) rfl))))))))
theorem wT_65_7 : Cond.selects RX6 yX6_makeNobodyBold yX6_makeNobodyBold ∈ TB := (List.mem_append_right _ (List.mem_append_right _ (List.mem_append_left _ (List.mem_append_left _ (List.mem_append_right _ (List.mem_append_right _ (List.mem_append_left _ (List.mem_of_getElem? (i := 7) rfl))))))))
theorem wT_65_8 : Cond.code yX6_makeNobodyBold cX6_makeNobodyBold 2 none ∈ TB := (List.mem_append_right _ (List.mem_append_right _ (List.mem_append_left _ (List.mem_append_left _ (List.mem_append_right _ (List.mem_append_right _ (List.mem_append_left _ (List.mem_of_getElem? (i := 8) rfl))))))))
theorem wT_65_9 : Cond.methodLink RX11 405 yX4_leaveOut ∈ TB := (List.mem_append_right _ (List.mem_append_right _ (List.mem_append_left _ (List.mem_append_left _ (List.mem_append_right _ (List.mem_append_right _ (List.mem_append_left _ (List.mem_of_getElem? (i := 9) rfl))))))))
theorem wT_65_10 : Cond.instanceMethod yX4_leaveOut ∈ TB := (List.mem_append_right _ (List.mem_append_right _ (List.mem_append_left _ (List.mem_append_left _ (List.mem_append_right _ (List.mem_append_right _ (List.mem_append_left _ (List.mem_of_getElem? (i := 10) rfl))))))))
theorem wT_65_11 : Cond.selects RX4 yX4_leaveOut yX4_leaveOut ∈ TB := (List.mem_append_right _ (List.mem_append_right _ (List.mem_append_left _ (List.mem_append_left _ (List.mem_append_right _ (List.mem_append_right _ (List.mem_append_left _ (List.mem_of_getElem? (i := 11) rfl))))))))
theorem wT_65_12 : Cond.code yX4_leaveOut cX4_leaveOut 2 none ∈ TB := (List.mem_append_right _ (List.mem_append_right _ (List.mem_append_left _ (List.mem_append_left _ (List.mem_append_right _ (List.mem_append_right _ (List.mem_append_left _ (List.mem_of_getElem? (i := 12) rfl))))))))
theorem wT_65_13 : Cond.constant RX4 71 (2147483647) ∈ TB := (List.mem_append_right _ (List.mem_append_right _ (List.mem_append_left _ (List.mem_append_left _ (List.mem_append_right _ (List.mem_append_right _ (List.mem_append_left _ (List.mem_of_getElem? (i := 13) rfl))))))))
theorem wT_65_14 : Cond.methodLink RX11 408 yX6_holdPeak ∈ TB := (List.mem_append_right _ (List.mem_append_right _ (List.mem_append_left _ (List.mem_append_left _ (List.mem_append_right _ (List.mem_append_right _ (List.mem_append_left _ (List.mem_of_getElem? (i := 14) rfl))))))))
theorem wT_65_15 : Cond.instanceMethod yX6_holdPeak ∈ TB := (List.mem_append_right _ (List.mem_append_right _ (List.mem_append_left _ (List.mem_append_left _ (List.mem_append_right _ (List.mem_append_right _ (List.mem_append_left _ (List.mem_of_getElem? (i := 15) rfl))))))))
theorem wT_65_16 : Cond.selects RX6 yX6_holdPeak yX6_holdPeak ∈ TB := (List.mem_append_right _ (List.mem_append_right _ (List.mem_append_left _ (List.mem_append_left _ (List.mem_append_right _ (List.mem_append_right _ (List.mem_append_left _ (List.mem_of_getElem? (i := 16) rfl))))))))
theorem wT_65_17 : Cond.code yX6_holdPeak cX6_holdPeak 2 none ∈ TB := (List.mem_append_right _ (List.mem_append_right _ (List.mem_append_left _ (List.mem_append_left _ (List.mem_append_right _ (List.mem_append_right _ (List.mem_append_left _ (List.mem_of_getElem? (i := 17) rfl))))))))
theorem wT_65_18 : Cond.methodLink RX11 411 yX6_giveBoards ∈ TB := (List.mem_append_right _ (List.mem_append_right _ (List.mem_append_left _ (List.mem_append_left _ (List.mem_append_right _ (List.mem_append_right _ (List.mem_append_left _ (List.mem_of_getElem? (i := 18) rfl))))))))
theorem wT_65_19 : Cond.instanceMethod yX6_giveBoards ∈ TB := (List.mem_append_right _ (List.mem_append_right _ (List.mem_append_left _ (List.mem_append_left _ (List.mem_append_right _ (List.mem_append_right _ (List.mem_append_left _ (List.mem_of_getElem? (i := 19) rfl))))))))
theorem wT_65_20 : Cond.selects RX6 yX6_giveBoards yX6_giveBoards ∈ TB := (List.mem_append_right _ (List.mem_append_right _ (List.mem_append_left _ (List.mem_append_left _ (List.mem_append_right _ (List.mem_append_right _ (List.mem_append_left _ (List.mem_of_getElem? (i := 20) rfl))))))))
theorem wT_65_21 : Cond.code yX6_giveBoards cX6_giveBoards 3 none ∈ TB := (List.mem_append_right _ (List.mem_append_right _ (List.mem_append_left _ (List.mem_append_left _ (List.mem_append_right _ (List.mem_append_right _ (List.mem_append_left _ (List.mem_of_getElem? (i := 21) rfl))))))))
theorem wT_65_22 : Cond.methodLink RX11 414 yX4_seatAll ∈ TB := (List.mem_append_right _ (List.mem_append_right _ (List.mem_append_left _ (List.mem_append_left _ (List.mem_append_right _ (List.mem_append_right _ (List.mem_append_left _ (List.mem_of_getElem? (i := 22) rfl))))))))
theorem wT_65_23 : Cond.instanceMethod yX4_seatAll ∈ TB := (List.mem_append_right _ (List.mem_append_right _ (List.mem_append_left _ (List.mem_append_left _ (List.mem_append_right _ (List.mem_append_right _ (List.mem_append_left _ (List.mem_of_getElem? (i := 23) rfl))))))))
theorem wT_66_0 : Cond.selects RX4 yX4_seatAll yX4_seatAll ∈ TB := (List.mem_append_right _ (List.mem_append_right _ (List.mem_append_left _ (List.mem_append_left _ (List.mem_append_right _ (List.mem_append_right _ (List.mem_append_right _ (List.mem_of_getElem? (i := 0) rfl))))))))
theorem wT_66_1 : Cond.code yX4_seatAll cX4_seatAll 3 none ∈ TB := (List.mem_append_right _ (List.mem_append_right _ (List.mem_append_left _ (List.mem_append_left _ (List.mem_append_right _ (List.mem_append_right _ (List.mem_append_right _ (List.mem_of_getElem? (i := 1) rfl))))))))
theorem wT_66_2 : Cond.methodLink RL 168 yX12_tried ∈ TB := (List.mem_append_right _ (List.mem_append_right _ (List.mem_append_left _ (List.mem_append_left _ (List.mem_append_right _ (List.mem_append_right _ (List.mem_append_right _ (List.mem_of_getElem? (i := 2) rfl))))))))
theorem wT_66_3 : Cond.instanceMethod yX12_tried ∈ TB := (List.mem_append_right _ (List.mem_append_right _ (List.mem_append_left _ (List.mem_append_left _ (List.mem_append_right _ (List.mem_append_right _ (List.mem_append_right _ (List.mem_of_getElem? (i := 3) rfl))))))))
theorem wT_66_4 : Cond.selects RX12 yX12_tried yX12_tried ∈ TB := (List.mem_append_right _ (List.mem_append_right _ (List.mem_append_left _ (List.mem_append_left _ (List.mem_append_right _ (List.mem_append_right _ (List.mem_append_right _ (List.mem_of_getElem? (i := 4) rfl))))))))
theorem wT_66_5 : Cond.code yX12_tried cX12_tried 7 (some .int) ∈ TB := (List.mem_append_right _ (List.mem_append_right _ (List.mem_append_left _ (List.mem_append_left _ (List.mem_append_right _ (List.mem_append_right _ (List.mem_append_right _ (List.mem_of_getElem? (i := 5) rfl))))))))
theorem wT_66_6 : Cond.methodLink RL 169 yX11_undo ∈ TB := (List.mem_append_right _ (List.mem_append_right _ (List.mem_append_left _ (List.mem_append_left _ (List.mem_append_right _ (List.mem_append_right _ (List.mem_append_right _ (List.mem_of_getElem? (i := 6) rfl))))))))
theorem wT_66_7 : Cond.instanceMethod yX11_undo ∈ TB := (List.mem_append_right _ (List.mem_append_right _ (List.mem_append_left _ (List.mem_append_left _ (List.mem_append_right _ (List.mem_append_right _ (List.mem_append_right _ (List.mem_of_getElem? (i := 7) rfl))))))))
theorem wT_66_8 : Cond.selects RX11 yX11_undo yX11_undo ∈ TB := (List.mem_append_right _ (List.mem_append_right _ (List.mem_append_left _ (List.mem_append_left _ (List.mem_append_right _ (List.mem_append_right _ (List.mem_append_right _ (List.mem_of_getElem? (i := 8) rfl))))))))
theorem wT_66_9 : Cond.code yX11_undo cX11_undo 3 (some .int) ∈ TB := (List.mem_append_right _ (List.mem_append_right _ (List.mem_append_left _ (List.mem_append_left _ (List.mem_append_right _ (List.mem_append_right _ (List.mem_append_right _ (List.mem_of_getElem? (i := 9) rfl))))))))
theorem wT_66_10 : Cond.fieldLink RX11 369 "WhoseWave$Undos" "surfer" "[I" ∈ TB := (List.mem_append_right _ (List.mem_append_right _ (List.mem_append_left _ (List.mem_append_left _ (List.mem_append_right _ (List.mem_append_right _ (List.mem_append_right _ (List.mem_of_getElem? (i := 10) rfl))))))))
theorem wT_66_11 : Cond.fieldLink RX11 370 "WhoseWave$Undos" "before" "[I" ∈ TB := (List.mem_append_right _ (List.mem_append_right _ (List.mem_append_left _ (List.mem_append_left _ (List.mem_append_right _ (List.mem_append_right _ (List.mem_append_right _ (List.mem_of_getElem? (i := 11) rfl))))))))
theorem wT_66_12 : Cond.methodLink RL 172 yX12_undo ∈ TB := (List.mem_append_right _ (List.mem_append_right _ (List.mem_append_left _ (List.mem_append_left _ (List.mem_append_right _ (List.mem_append_right _ (List.mem_append_right _ (List.mem_of_getElem? (i := 12) rfl))))))))
theorem wT_66_13 : Cond.instanceMethod yX12_undo ∈ TB := (List.mem_append_right _ (List.mem_append_right _ (List.mem_append_left _ (List.mem_append_left _ (List.mem_append_right _ (List.mem_append_right _ (List.mem_append_right _ (List.mem_of_getElem? (i := 13) rfl))))))))
theorem wT_66_14 : Cond.selects RX12 yX12_undo yX12_undo ∈ TB := (List.mem_append_right _ (List.mem_append_right _ (List.mem_append_left _ (List.mem_append_left _ (List.mem_append_right _ (List.mem_append_right _ (List.mem_append_right _ (List.mem_of_getElem? (i := 14) rfl))))))))
theorem wT_66_15 : Cond.code yX12_undo cX12_undo 2 (some .int) ∈ TB := (List.mem_append_right _ (List.mem_append_right _ (List.mem_append_left _ (List.mem_append_left _ (List.mem_append_right _ (List.mem_append_right _ (List.mem_append_right _ (List.mem_of_getElem? (i := 15) rfl))))))))
theorem wT_66_16 : Cond.methodLink RL 173 yX11_keep ∈ TB := (List.mem_append_right _ (List.mem_append_right _ (List.mem_append_left _ (List.mem_append_left _ (List.mem_append_right _ (List.mem_append_right _ (List.mem_append_right _ (List.mem_of_getElem? (i := 16) rfl))))))))
theorem wT_66_17 : Cond.instanceMethod yX11_keep ∈ TB := (List.mem_append_right _ (List.mem_append_right _ (List.mem_append_left _ (List.mem_append_left _ (List.mem_append_right _ (List.mem_append_right _ (List.mem_append_right _ (List.mem_of_getElem? (i := 17) rfl))))))))
theorem wT_66_18 : Cond.selects RX11 yX11_keep yX11_keep ∈ TB := (List.mem_append_right _ (List.mem_append_right _ (List.mem_append_left _ (List.mem_append_left _ (List.mem_append_right _ (List.mem_append_right _ (List.mem_append_right _ (List.mem_of_getElem? (i := 18) rfl))))))))
theorem wT_66_19 : Cond.code yX11_keep cX11_keep 1 (some .int) ∈ TB := (List.mem_append_right _ (List.mem_append_right _ (List.mem_append_left _ (List.mem_append_left _ (List.mem_append_right _ (List.mem_append_right _ (List.mem_append_right _ (List.mem_of_getElem? (i := 19) rfl))))))))
theorem wT_66_20 : Cond.methodLink RX11 373 yX4_takeAll ∈ TB := (List.mem_append_right _ (List.mem_append_right _ (List.mem_append_left _ (List.mem_append_left _ (List.mem_append_right _ (List.mem_append_right _ (List.mem_append_right _ (List.mem_of_getElem? (i := 20) rfl))))))))
theorem wT_66_21 : Cond.methodLink RL 176 yX12_keep ∈ TB := (List.mem_append_right _ (List.mem_append_right _ (List.mem_append_left _ (List.mem_append_left _ (List.mem_append_right _ (List.mem_append_right _ (List.mem_append_right _ (List.mem_of_getElem? (i := 21) rfl))))))))
theorem wT_66_22 : Cond.instanceMethod yX12_keep ∈ TB := (List.mem_append_right _ (List.mem_append_right _ (List.mem_append_left _ (List.mem_append_left _ (List.mem_append_right _ (List.mem_append_right _ (List.mem_append_right _ (List.mem_of_getElem? (i := 22) rfl))))))))
theorem wT_66_23 : Cond.selects RX12 yX12_keep yX12_keep ∈ TB := (List.mem_append_right _ (List.mem_append_right _ (List.mem_append_left _ (List.mem_append_left _ (List.mem_append_right _ (List.mem_append_right _ (List.mem_append_right _ (List.mem_of_getElem? (i := 23) rfl))))))))
theorem wT_67_0 : Cond.code yX12_keep cX12_keep 2 (some .int) ∈ TB := (List.mem_append_right _ (List.mem_append_right _ (List.mem_append_left _ (List.mem_append_right _ (List.mem_append_left _ (List.mem_append_left _ (List.mem_of_getElem? (i := 0) rfl)))))))
theorem wT_67_1 : Cond.fieldLink RX12 533 "WhoseWaveModel" "imageMinute" "I" ∈ TB := (List.mem_append_right _ (List.mem_append_right _ (List.mem_append_left _ (List.mem_append_right _ (List.mem_append_left _ (List.mem_append_left _ (List.mem_of_getElem? (i := 1) rfl)))))))
theorem wT_67_2 : Cond.fieldLink RX12 536 "WhoseWaveModel" "imageRule" "I" ∈ TB := (List.mem_append_right _ (List.mem_append_right _ (List.mem_append_left _ (List.mem_append_right _ (List.mem_append_left _ (List.mem_append_left _ (List.mem_of_getElem? (i := 2) rfl)))))))
theorem wT_67_3 : Cond.fieldLink RX12 539 "WhoseWaveModel" "imageCrossings" "I" ∈ TB := (List.mem_append_right _ (List.mem_append_right _ (List.mem_append_left _ (List.mem_append_right _ (List.mem_append_left _ (List.mem_append_left _ (List.mem_of_getElem? (i := 3) rfl)))))))
theorem wT_67_4 : Cond.fieldLink RX12 542 "WhoseWaveModel" "imageWasted" "I" ∈ TB := (List.mem_append_right _ (List.mem_append_right _ (List.mem_append_left _ (List.mem_append_right _ (List.mem_append_left _ (List.mem_append_left _ (List.mem_of_getElem? (i := 4) rfl)))))))
theorem wT_67_5 : Cond.fieldLink RX12 545 "WhoseWaveModel" "imageDrawn" "J" ∈ TB := (List.mem_append_right _ (List.mem_append_right _ (List.mem_append_left _ (List.mem_append_right _ (List.mem_append_left _ (List.mem_append_left _ (List.mem_of_getElem? (i := 5) rfl)))))))
theorem wT_67_6 : Cond.methodLink RL 177 yX11_back ∈ TB := (List.mem_append_right _ (List.mem_append_right _ (List.mem_append_left _ (List.mem_append_right _ (List.mem_append_left _ (List.mem_append_left _ (List.mem_of_getElem? (i := 6) rfl)))))))
theorem wT_67_7 : Cond.instanceMethod yX11_back ∈ TB := (List.mem_append_right _ (List.mem_append_right _ (List.mem_append_left _ (List.mem_append_right _ (List.mem_append_left _ (List.mem_append_left _ (List.mem_of_getElem? (i := 7) rfl)))))))
theorem wT_67_8 : Cond.selects RX11 yX11_back yX11_back ∈ TB := (List.mem_append_right _ (List.mem_append_right _ (List.mem_append_left _ (List.mem_append_right _ (List.mem_append_left _ (List.mem_append_left _ (List.mem_of_getElem? (i := 8) rfl)))))))
theorem wT_67_9 : Cond.code yX11_back cX11_back 1 (some .int) ∈ TB := (List.mem_append_right _ (List.mem_append_right _ (List.mem_append_left _ (List.mem_append_right _ (List.mem_append_left _ (List.mem_append_left _ (List.mem_of_getElem? (i := 9) rfl)))))))
theorem wT_67_10 : Cond.methodLink RL 180 yX12_back ∈ TB := (List.mem_append_right _ (List.mem_append_right _ (List.mem_append_left _ (List.mem_append_right _ (List.mem_append_left _ (List.mem_append_left _ (List.mem_of_getElem? (i := 10) rfl)))))))
theorem wT_67_11 : Cond.instanceMethod yX12_back ∈ TB := (List.mem_append_right _ (List.mem_append_right _ (List.mem_append_left _ (List.mem_append_right _ (List.mem_append_left _ (List.mem_append_left _ (List.mem_of_getElem? (i := 11) rfl)))))))
theorem wT_67_12 : Cond.selects RX12 yX12_back yX12_back ∈ TB := (List.mem_append_right _ (List.mem_append_right _ (List.mem_append_left _ (List.mem_append_right _ (List.mem_append_left _ (List.mem_append_left _ (List.mem_of_getElem? (i := 12) rfl)))))))
theorem wT_67_13 : Cond.code yX12_back cX12_back 2 (some .int) ∈ TB := (List.mem_append_right _ (List.mem_append_right _ (List.mem_append_left _ (List.mem_append_right _ (List.mem_append_left _ (List.mem_append_left _ (List.mem_of_getElem? (i := 13) rfl)))))))
theorem wT_67_14 : Cond.methodLink RL 181 yX11_count ∈ TB := (List.mem_append_right _ (List.mem_append_right _ (List.mem_append_left _ (List.mem_append_right _ (List.mem_append_left _ (List.mem_append_left _ (List.mem_of_getElem? (i := 14) rfl)))))))
theorem wT_67_15 : Cond.instanceMethod yX11_count ∈ TB := (List.mem_append_right _ (List.mem_append_right _ (List.mem_append_left _ (List.mem_append_right _ (List.mem_append_left _ (List.mem_append_left _ (List.mem_of_getElem? (i := 15) rfl)))))))
theorem wT_67_16 : Cond.selects RX11 yX11_count yX11_count ∈ TB := (List.mem_append_right _ (List.mem_append_right _ (List.mem_append_left _ (List.mem_append_right _ (List.mem_append_left _ (List.mem_append_left _ (List.mem_of_getElem? (i := 16) rfl)))))))
theorem wT_67_17 : Cond.code yX11_count cX11_count 2 (some .int) ∈ TB := (List.mem_append_right _ (List.mem_append_right _ (List.mem_append_left _ (List.mem_append_right _ (List.mem_append_left _ (List.mem_append_left _ (List.mem_of_getElem? (i := 17) rfl)))))))
theorem wT_67_18 : Cond.fieldLink RX11 381 "WhoseWave$Told" "high" "I" ∈ TB := (List.mem_append_right _ (List.mem_append_right _ (List.mem_append_left _ (List.mem_append_right _ (List.mem_append_left _ (List.mem_append_left _ (List.mem_of_getElem? (i := 18) rfl)))))))
theorem wT_67_19 : Cond.fieldLink RX11 384 "WhoseWave$Told" "knots" "I" ∈ TB := (List.mem_append_right _ (List.mem_append_right _ (List.mem_append_left _ (List.mem_append_right _ (List.mem_append_left _ (List.mem_append_left _ (List.mem_of_getElem? (i := 19) rfl)))))))
theorem wT_67_20 : Cond.methodLink RL 184 yX12_count ∈ TB := (List.mem_append_right _ (List.mem_append_right _ (List.mem_append_left _ (List.mem_append_right _ (List.mem_append_left _ (List.mem_append_left _ (List.mem_of_getElem? (i := 20) rfl)))))))
theorem wT_67_21 : Cond.instanceMethod yX12_count ∈ TB := (List.mem_append_right _ (List.mem_append_right _ (List.mem_append_left _ (List.mem_append_right _ (List.mem_append_left _ (List.mem_append_left _ (List.mem_of_getElem? (i := 21) rfl)))))))
theorem wT_67_22 : Cond.selects RX12 yX12_count yX12_count ∈ TB := (List.mem_append_right _ (List.mem_append_right _ (List.mem_append_left _ (List.mem_append_right _ (List.mem_append_left _ (List.mem_append_left _ (List.mem_of_getElem? (i := 22) rfl)))))))
theorem wT_67_23 : Cond.code yX12_count cX12_count 2 (some .int) ∈ TB := (List.mem_append_right _ (List.mem_append_right _ (List.mem_append_left _ (List.mem_append_right _ (List.mem_append_left _ (List.mem_append_left _ (List.mem_of_getElem? (i := 23) rfl)))))))
theorem wC_wsX00 : ∀ w ∈ wsX00, w ∈ TB := fun w h => (List.mem_append_right _ (List.mem_append_right _ (List.mem_append_left _ (List.mem_append_right _ (List.mem_append_left _ (List.mem_append_right _ h))))))
theorem wC_wsX10 : ∀ w ∈ wsX10, w ∈ TB := fun w h => (List.mem_append_right _ (List.mem_append_right _ (List.mem_append_left _ (List.mem_append_right _ (List.mem_append_right _ (List.mem_append_left _ h))))))
theorem wC_wsX100 : ∀ w ∈ wsX100, w ∈ TB := fun w h => (List.mem_append_right _ (List.mem_append_right _ (List.mem_append_left _ (List.mem_append_right _ (List.mem_append_right _ (List.mem_append_right _ (List.mem_append_left _ h)))))))
theorem wC_wsX110 : ∀ w ∈ wsX110, w ∈ TB := fun w h => (List.mem_append_right _ (List.mem_append_right _ (List.mem_append_left _ (List.mem_append_right _ (List.mem_append_right _ (List.mem_append_right _ (List.mem_append_right _ h)))))))
theorem wC_wsX120 : ∀ w ∈ wsX120, w ∈ TB := fun w h => (List.mem_append_right _ (List.mem_append_right _ (List.mem_append_right _ (List.mem_append_left _ (List.mem_append_left _ (List.mem_append_left _ h))))))
theorem wC_wsX20 : ∀ w ∈ wsX20, w ∈ TB := fun w h => (List.mem_append_right _ (List.mem_append_right _ (List.mem_append_right _ (List.mem_append_left _ (List.mem_append_left _ (List.mem_append_right _ h))))))
theorem wC_wsX30 : ∀ w ∈ wsX30, w ∈ TB := fun w h => (List.mem_append_right _ (List.mem_append_right _ (List.mem_append_right _ (List.mem_append_left _ (List.mem_append_right _ (List.mem_append_left _ h))))))
theorem wC_wsX40 : ∀ w ∈ wsX40, w ∈ TB := fun w h => (List.mem_append_right _ (List.mem_append_right _ (List.mem_append_right _ (List.mem_append_left _ (List.mem_append_right _ (List.mem_append_right _ (List.mem_append_left _ h)))))))
theorem wC_wsX50 : ∀ w ∈ wsX50, w ∈ TB := fun w h => (List.mem_append_right _ (List.mem_append_right _ (List.mem_append_right _ (List.mem_append_left _ (List.mem_append_right _ (List.mem_append_right _ (List.mem_append_right _ h)))))))
theorem wC_wsX60 : ∀ w ∈ wsX60, w ∈ TB := fun w h => (List.mem_append_right _ (List.mem_append_right _ (List.mem_append_right _ (List.mem_append_right _ (List.mem_append_left _ (List.mem_append_left _ h))))))
theorem wC_wsX70 : ∀ w ∈ wsX70, w ∈ TB := fun w h => (List.mem_append_right _ (List.mem_append_right _ (List.mem_append_right _ (List.mem_append_right _ (List.mem_append_left _ (List.mem_append_right _ (List.mem_append_left _ h)))))))
theorem wC_wsX80 : ∀ w ∈ wsX80, w ∈ TB := fun w h => (List.mem_append_right _ (List.mem_append_right _ (List.mem_append_right _ (List.mem_append_right _ (List.mem_append_left _ (List.mem_append_right _ (List.mem_append_right _ h)))))))
theorem wC_wsX90 : ∀ w ∈ wsX90, w ∈ TB := fun w h => (List.mem_append_right _ (List.mem_append_right _ (List.mem_append_right _ (List.mem_append_right _ (List.mem_append_right _ (List.mem_append_left _ h))))))
theorem gV_of {c0 : Cond} {own C : String} {idx n : Nat} {y : MethodName} {cc : ByteArray} {ret : Option FieldType} (h1 : Cond.methodLink own idx y ∈ TB) (h2 : Cond.instanceMethod y ∈ TB) (h3 : Cond.selects C y y ∈ TB) (h4 : Cond.initialized C ∈ TB) (h5 : Cond.code y cc n ret ∈ TB) : GoodIn (c0 :: TB) (wsV own idx C y (.code y cc n ret :: TB)) := by
  have k : ∀ w ∈ wsV own idx C y (.code y cc n ret :: TB), w ∈ TB := by
    intro w hw
    unfold wsV at hw
    rcases List.mem_append.mp hw with h | h
    · rcases List.mem_cons.mp h with rfl | h
      · exact h1
      rcases List.mem_cons.mp h with rfl | h
      · exact h2
      rcases List.mem_cons.mp h with rfl | h
      · exact h3
      rcases List.mem_cons.mp h with rfl | h
      · exact h4
      cases h
    · rcases List.mem_cons.mp h with rfl | h
      · exact h5
      · exact h
  exact fun w hw => ⟨List.mem_cons_of_mem _ (k w hw), TB_good w (k w hw)⟩
theorem gS_of {c0 : Cond} {own : String} {idx n : Nat} {y : MethodName} {cc : ByteArray} {ret : Option FieldType} (h1 : Cond.methodLink own idx y ∈ TB) (h2 : Cond.static y ∈ TB) (h3 : Cond.initialized y.cls ∈ TB) (h5 : Cond.code y cc n ret ∈ TB) : GoodIn (c0 :: TB) (va_wsS own idx y (.code y cc n ret :: TB)) := by
  have k : ∀ w ∈ va_wsS own idx y (.code y cc n ret :: TB), w ∈ TB := by
    intro w hw
    unfold va_wsS at hw
    rcases List.mem_append.mp hw with h | h
    · rcases List.mem_cons.mp h with rfl | h
      · exact h1
      rcases List.mem_cons.mp h with rfl | h
      · exact h2
      rcases List.mem_cons.mp h with rfl | h
      · exact h3
      cases h
    · rcases List.mem_cons.mp h with rfl | h
      · exact h5
      · exact h
  exact fun w hw => ⟨List.mem_cons_of_mem _ (k w hw), TB_good w (k w hw)⟩
theorem gI_of {c0 : Cond} {n : Nat} {y : MethodName} {cc : ByteArray} {ret : Option FieldType} (h5 : Cond.code y cc n ret ∈ TB) : GoodIn (c0 :: TB) (.code y cc n ret :: TB) := by
  intro w hw
  rcases List.mem_cons.mp hw with rfl | h
  · exact ⟨List.mem_cons_of_mem _ h5, TB_good _ h5⟩
  · exact ⟨List.mem_cons_of_mem _ h, TB_good w h⟩
theorem dJ0_charAt_5068e_0 : decode cJ0_charAt_5068e 0 = .ok (.aload_n 0, 1) := by decide +kernel
theorem dJ0_charAt_5068e_1 : decode cJ0_charAt_5068e 1 = .ok (.invokevirtual 492, 3) := by decide +kernel
theorem dJ0_charAt_5068e_4 : decode cJ0_charAt_5068e 4 = .ok (.ifCond .eq 12, 3) := by decide +kernel
theorem dJ0_charAt_5068e_7 : decode cJ0_charAt_5068e 7 = .ok (.aload_n 0, 1) := by decide +kernel
theorem dJ0_charAt_5068e_8 : decode cJ0_charAt_5068e 8 = .ok (.getfield 9, 3) := by decide +kernel
theorem dJ0_charAt_5068e_11 : decode cJ0_charAt_5068e 11 = .ok (.iload_n 1, 1) := by decide +kernel
theorem dJ0_charAt_5068e_12 : decode cJ0_charAt_5068e 12 = .ok (.invokestatic 495, 3) := by decide +kernel
theorem dJ0_charAt_5068e_15 : decode cJ0_charAt_5068e 15 = .ok (.ireturn, 1) := by decide +kernel
theorem dJ0_isLatin1_aae02_0 : decode cJ0_isLatin1_aae02 0 = .ok (.getstatic 38, 3) := by decide +kernel
theorem dJ0_isLatin1_aae02_3 : decode cJ0_isLatin1_aae02 3 = .ok (.ifCond .eq 14, 3) := by decide +kernel
theorem dJ0_isLatin1_aae02_6 : decode cJ0_isLatin1_aae02 6 = .ok (.aload_n 0, 1) := by decide +kernel
theorem dJ0_isLatin1_aae02_7 : decode cJ0_isLatin1_aae02 7 = .ok (.getfield 15, 3) := by decide +kernel
theorem dJ0_isLatin1_aae02_10 : decode cJ0_isLatin1_aae02 10 = .ok (.ifCond .ne 7, 3) := by decide +kernel
theorem dJ0_isLatin1_aae02_13 : decode cJ0_isLatin1_aae02 13 = .ok (.iconst 1, 1) := by decide +kernel
theorem dJ0_isLatin1_aae02_14 : decode cJ0_isLatin1_aae02 14 = .ok (.goto 4, 3) := by decide +kernel
theorem dJ0_isLatin1_aae02_18 : decode cJ0_isLatin1_aae02 18 = .ok (.ireturn, 1) := by decide +kernel
theorem dJ0_checkIndex_df160_0 : decode cJ0_checkIndex_df160 0 = .ok (.iload_n 0, 1) := by decide +kernel
theorem dJ0_checkIndex_df160_1 : decode cJ0_checkIndex_df160 1 = .ok (.iload_n 1, 1) := by decide +kernel
theorem dJ0_checkIndex_df160_2 : decode cJ0_checkIndex_df160 2 = .ok (.getstatic 1053, 3) := by decide +kernel
theorem dJ0_checkIndex_df160_5 : decode cJ0_checkIndex_df160 5 = .ok (.invokestatic 1059, 3) := by decide +kernel
theorem dJ0_checkIndex_df160_8 : decode cJ0_checkIndex_df160 8 = .ok (.pop, 1) := by decide +kernel
theorem dJ0_checkIndex_df160_9 : decode cJ0_checkIndex_df160 9 = .ok (.return_, 1) := by decide +kernel
theorem dJ1_charAt_3b067_0 : decode cJ1_charAt_3b067 0 = .ok (.iload_n 1, 1) := by decide +kernel
theorem dJ1_charAt_3b067_1 : decode cJ1_charAt_3b067 1 = .ok (.aload_n 0, 1) := by decide +kernel
theorem dJ1_charAt_3b067_2 : decode cJ1_charAt_3b067 2 = .ok (.arraylength, 1) := by decide +kernel
theorem dJ1_charAt_3b067_3 : decode cJ1_charAt_3b067 3 = .ok (.invokestatic 9, 3) := by decide +kernel
theorem dJ1_charAt_3b067_6 : decode cJ1_charAt_3b067 6 = .ok (.aload_n 0, 1) := by decide +kernel
theorem dJ1_charAt_3b067_7 : decode cJ1_charAt_3b067 7 = .ok (.iload_n 1, 1) := by decide +kernel
theorem dJ1_charAt_3b067_8 : decode cJ1_charAt_3b067 8 = .ok (.baload, 1) := by decide +kernel
theorem dJ1_charAt_3b067_9 : decode cJ1_charAt_3b067 9 = .ok (.sipush 255, 3) := by decide +kernel
theorem dJ1_charAt_3b067_12 : decode cJ1_charAt_3b067 12 = .ok (.iand, 1) := by decide +kernel
theorem dJ1_charAt_3b067_13 : decode cJ1_charAt_3b067 13 = .ok (.i2c, 1) := by decide +kernel
theorem dJ1_charAt_3b067_14 : decode cJ1_charAt_3b067 14 = .ok (.ireturn, 1) := by decide +kernel
theorem dJ3_checkIndex_8e157_0 : decode cJ3_checkIndex_8e157 0 = .ok (.iload_n 0, 1) := by decide +kernel
theorem dJ3_checkIndex_8e157_1 : decode cJ3_checkIndex_8e157 1 = .ok (.ifCond .lt 8, 3) := by decide +kernel
theorem dJ3_checkIndex_8e157_4 : decode cJ3_checkIndex_8e157 4 = .ok (.iload_n 0, 1) := by decide +kernel
theorem dJ3_checkIndex_8e157_5 : decode cJ3_checkIndex_8e157 5 = .ok (.iload_n 1, 1) := by decide +kernel
theorem dJ3_checkIndex_8e157_6 : decode cJ3_checkIndex_8e157 6 = .ok (.if_icmp .lt 10, 3) := by decide +kernel
theorem dJ3_checkIndex_8e157_16 : decode cJ3_checkIndex_8e157 16 = .ok (.iload_n 0, 1) := by decide +kernel
theorem dJ3_checkIndex_8e157_17 : decode cJ3_checkIndex_8e157 17 = .ok (.ireturn, 1) := by decide +kernel
def vJ3c : List Cond := .code yJ3_checkIndex_8e157 cJ3_checkIndex_8e157 3 (some .int) :: TB
def vJ0c : List Cond := .code yJ0_checkIndex_df160 cJ0_checkIndex_df160 2 none :: TB
def vJ1a : List Cond := .code yJ1_charAt_3b067 cJ1_charAt_3b067 2 (some .char) :: TB
def vJ0l : List Cond := .code yJ0_isLatin1_aae02 cJ0_isLatin1_aae02 1 (some .boolean) :: TB
def vJ0a : List Cond := .code yJ0_charAt_5068e cJ0_charAt_5068e 2 (some .char) :: TB
theorem cdJ3c : Cd yJ3_checkIndex_8e157 3 := ⟨by decide, by decide, by decide +kernel⟩
theorem cdJ0c : Cd yJ0_checkIndex_df160 2 := ⟨by decide, by decide, by decide +kernel⟩
theorem cdJ1a : Cd yJ1_charAt_3b067 2 := ⟨by decide, by decide, by decide +kernel⟩
theorem cdJ0l : Cd yJ0_isLatin1_aae02 0 := ⟨by decide, by decide, by decide +kernel⟩
theorem cdJ0a : Cd yJ0_charAt_5068e 1 := ⟨by decide, by decide, by decide +kernel⟩
theorem gJ0c_J3c : GoodIn vJ0c (va_wsS RJ0 1059 yJ3_checkIndex_8e157 vJ3c) := gS_of wT_6_8 wT_6_9 wT_6_10 wT_6_11
theorem gJ1a_J0c : GoodIn vJ1a (va_wsS RJ1 9 yJ0_checkIndex_df160 vJ0c) := gS_of wT_6_4 wT_6_5 wT_5_15 wT_6_6
theorem gJ0a_J0l : GoodIn vJ0a (wsV RJ0 492 RJ0 yJ0_isLatin1_aae02 vJ0l) := gV_of wT_5_18 wT_5_19 wT_5_20 wT_5_15 wT_5_21
theorem gJ0a_J1a : GoodIn vJ0a (va_wsS RJ0 495 yJ1_charAt_3b067 vJ1a) := gS_of wT_6_0 wT_6_1 wT_6_2 wT_6_3
theorem gc_J0a (c0 : Cond) : GoodIn (c0 :: TB) (wsV RX7 21 RJ0 yJ0_charAt_5068e vJ0a) := gV_of wT_5_12 wT_5_13 wT_5_14 wT_5_15 wT_5_16
theorem vp_in_144 {i : Int32} (h : vp_in i 144) : ¬ i < 0 ∧ i < 144 := by
  have h2 := vp_in_iff.mp h
  refine ⟨fun q => h (Or.inl q), ?_⟩
  rw [Int32.lt_iff_toInt_lt]
  exact h2.2
set_option maxHeartbeats 4000000 in
theorem MJ3c (l : Launch) (D : va_G) (cy : Nat → ClassId) (b : Nat) (A : Nat → Prop) (fl : Bool) {h : PH} {i n : Int32} {v2 : Value} (hv2 : v2 = .null ∨ ∃ t, v2 = .ref t) (h0 : ¬ i < 0) (h1 : i < n) : Met l yJ3_checkIndex_8e157 vJ3c ({ frames := 0, cells := 0, slots := 0, locals := 0 } : Room) (va_Pc [.int i, .int n, v2] (ph_B D cy b A fl h)) (va_Qi (fun (r : Int32) (u : PH) => (r, u) = (i, h)) (ph_B D cy b A fl) A) 0 0 A := by
  rcases hv2 with rfl | ⟨t, rfl⟩
  all_goals
    refine o_met (cc := cJ3_checkIndex_8e157) (maxL := 3) (ret := some .int) (by decide) rfl (Nat.le_of_ble_eq_true rfl) rfl (fun p e s m below meth c S hr hlo hnm ls hl I => ?_)
    refine lv_iload_n S.1 S.2.1 dJ3_checkIndex_8e157_0 rfl (lv_at hl 0 rfl) ?_
    refine lv_if_lt (tgt := 9) S.1 S.2.1 dJ3_checkIndex_8e157_1 (by decide) (fun q => absurd q h0) (fun _ => ?_)
    refine lv_iload_n S.1 S.2.1 dJ3_checkIndex_8e157_4 rfl (lv_at hl 0 rfl) ?_
    refine lv_iload_n S.1 S.2.1 dJ3_checkIndex_8e157_5 rfl (lv_at hl 1 rfl) ?_
    refine lv_icmp_lt (tgt := 16) S.1 S.2.1 dJ3_checkIndex_8e157_6 (by decide) (fun _ => ?_) (fun q => absurd h1 q)
    refine lv_iload_n S.1 S.2.1 dJ3_checkIndex_8e157_16 rfl (lv_at hl 0 rfl) ?_
    exact o_iret S hr hlo I rfl dJ3_checkIndex_8e157_17
set_option maxHeartbeats 4000000 in
theorem MJ0c (l : Launch) (D : va_G) (cy : Nat → ClassId) (b : Nat) (A : Nat → Prop) (fl : Bool) {h : PH} {i n : Int32} (h0 : ¬ i < 0) (h1 : i < n) : Met l yJ0_checkIndex_df160 vJ0c ({ frames := 1, cells := 0, slots := 0, locals := 22 } : Room) (va_Pc [.int i, .int n] (ph_B D cy b A fl h)) (va_Qv (fun (u : PH) => u = h) (ph_B D cy b A fl) A) 0 0 A := by
  refine o_met (cc := cJ0_checkIndex_df160) (maxL := 2) (ret := none) (by decide) rfl (Nat.le_of_ble_eq_true rfl) rfl (fun p e s m below meth c S hr hlo hnm ls hl I => ?_)
  refine lv_iload_n S.1 S.2.1 dJ0_checkIndex_df160_0 rfl (lv_at hl 0 rfl) ?_
  refine lv_iload_n S.1 S.2.1 dJ0_checkIndex_df160_1 rfl (lv_at hl 1 rfl) ?_
  rcases I.2.2.2.2.2.2.2.2.2.1 with hz | ⟨t, hz⟩
  · refine va_gets S.1 S.2.1 hz I.2.2.1 S.2.2.2.1 (S.2.2.2.2 _ (List.mem_cons_of_mem _ wT_6_7)) (fun _ h => h) dJ0_checkIndex_df160_2 ?_
    refine o_Si S (As := [.int i, .int n, .null]) (rest := []) (MJ3c l D cy b A fl (Or.inl rfl) h0 h1) gJ0c_J3c rfl rfl rfl cdJ3c ⟨Nat.le_of_ble_eq_true rfl, Nat.le_of_ble_eq_true rfl⟩ I rfl hl.1 rfl (Nat.le_of_ble_eq_true rfl) dJ0_checkIndex_df160_5 ⟨Nat.le_of_ble_eq_true rfl, Nat.le_of_ble_eq_true rfl⟩ (fun H locs I => ?_)
    refine lv_pop S.1 S.2.1 dJ0_checkIndex_df160_8 rfl ?_
    exact o_vret S hr hlo I rfl dJ0_checkIndex_df160_9
  · refine va_gets S.1 S.2.1 hz I.2.2.1 S.2.2.2.1 (S.2.2.2.2 _ (List.mem_cons_of_mem _ wT_6_7)) (fun _ h => h) dJ0_checkIndex_df160_2 ?_
    refine o_Si S (As := [.int i, .int n, .ref t]) (rest := []) (MJ3c l D cy b A fl (Or.inr ⟨t, rfl⟩) h0 h1) gJ0c_J3c rfl rfl rfl cdJ3c ⟨Nat.le_of_ble_eq_true rfl, Nat.le_of_ble_eq_true rfl⟩ I rfl hl.1 rfl (Nat.le_of_ble_eq_true rfl) dJ0_checkIndex_df160_5 ⟨Nat.le_of_ble_eq_true rfl, Nat.le_of_ble_eq_true rfl⟩ (fun H locs I => ?_)
    refine lv_pop S.1 S.2.1 dJ0_checkIndex_df160_8 rfl ?_
    exact o_vret S hr hlo I rfl dJ0_checkIndex_df160_9
set_option maxHeartbeats 4000000 in
theorem MJ1a (l : Launch) (D : va_G) (cy : Nat → ClassId) (b : Nat) (A : Nat → Prop) (fl : Bool) {h : PH} {i : Int32} (hi : vp_in i 144) : Met l yJ1_charAt_3b067 vJ1a ({ frames := 2, cells := 0, slots := 0, locals := 43 } : Room) (va_Pc [.ref (cy 101), .int i] (ph_B D cy b A fl h)) (va_Qi (fun (r : Int32) (u : PH) => (r, u) = (chV i.toNatClampNeg, h)) (ph_B D cy b A fl) A) 0 0 A := by
  refine o_met (cc := cJ1_charAt_3b067) (maxL := 2) (ret := some .char) (by decide) rfl (Nat.le_of_ble_eq_true rfl) rfl (fun p e s m below meth c S hr hlo hnm ls hl I => ?_)
  obtain ⟨z1, z2⟩ := I.2.2.2.2.2.2.2.1
  have hT := (z2.1 0 (by decide)).2.2.2
  obtain ⟨h0, h1⟩ := vp_in_144 hi
  refine lv_iload_n S.1 S.2.1 dJ1_charAt_3b067_0 rfl (lv_at hl 1 rfl) ?_
  refine lv_aload_n S.1 S.2.1 dJ1_charAt_3b067_1 rfl (lv_at hl 0 rfl) ?_
  refine va_tlen (v := 144) S.1 S.2.1 hT I.2.2.1 (by decide) dJ1_charAt_3b067_2 ?_
  refine o_Sv S (As := [.int i, .int 144]) (rest := []) (MJ0c l D cy b A fl h0 h1) gJ1a_J0c rfl rfl rfl cdJ0c ⟨Nat.le_of_ble_eq_true rfl, Nat.le_of_ble_eq_true rfl⟩ I rfl hl.1 rfl (Nat.le_of_ble_eq_true rfl) dJ1_charAt_3b067_3 ⟨Nat.le_of_ble_eq_true rfl, Nat.le_of_ble_eq_true rfl⟩ (fun H locs I => ?_)
  refine lv_aload_n S.1 S.2.1 dJ1_charAt_3b067_6 rfl (lv_at hl 0 rfl) ?_
  refine lv_iload_n S.1 S.2.1 dJ1_charAt_3b067_7 rfl (lv_at hl 1 rfl) ?_
  refine va_tb (v := .int (ph_lang.getD i.toNatClampNeg 0)) S.1 S.2.1 hT I.2.2.1 hi rfl dJ1_charAt_3b067_8 ?_
  refine lv_sipush (v := 255) S.1 S.2.1 dJ1_charAt_3b067_9 (by decide) ?_
  refine lv_iand S.1 S.2.1 dJ1_charAt_3b067_12 ?_
  refine lv_i2c (v := chV i.toNatClampNeg) S.1 S.2.1 dJ1_charAt_3b067_13 rfl ?_
  exact W.zret S.1 S.2.1 hr (pk_nc _) (fun t ht hW => ⟨⟨_, h, rfl, rfl, ph_end I ht hW⟩, I.2.2.1.F ht⟩) I.2.2.1.2.2 dJ1_charAt_3b067_14 hlo
set_option maxHeartbeats 4000000 in
theorem MJ0l (l : Launch) (D : va_G) (cy : Nat → ClassId) (b : Nat) (A : Nat → Prop) (fl : Bool) {h : PH} : Met l yJ0_isLatin1_aae02 vJ0l ({ frames := 0, cells := 0, slots := 0, locals := 0 } : Room) (va_Pc [.ref (cy 100)] (ph_B D cy b A fl h)) (va_Qi (fun (r : Int32) (u : PH) => (r, u) = (1, h)) (ph_B D cy b A fl) A) 0 0 A := by
  refine o_met (cc := cJ0_isLatin1_aae02) (maxL := 1) (ret := some .boolean) (by decide) rfl (Nat.le_of_ble_eq_true rfl) rfl (fun p e s m below meth c S hr hlo hnm ls hl I => ?_)
  obtain ⟨z1, z2⟩ := I.2.2.2.2.2.2.2.1
  have hC := (z2.1 0 (by decide)).2.1
  refine va_gets S.1 S.2.1 I.2.2.2.2.2.2.2.2.1 I.2.2.1 S.2.2.2.1 (S.2.2.2.2 _ (List.mem_cons_of_mem _ wT_5_22)) (fun _ h => h) dJ0_isLatin1_aae02_0 ?_
  refine lv_if_eq (tgt := 17) S.1 S.2.1 dJ0_isLatin1_aae02_3 (by decide) (fun q => absurd q (by decide)) (fun _ => ?_)
  refine lv_aload_n S.1 S.2.1 dJ0_isLatin1_aae02_6 rfl (lv_at hl 0 rfl) ?_
  refine vk_getf S.1 S.2.1 hC I.2.2.1 S.2.2.2.1 (S.2.2.2.2 _ (List.mem_cons_of_mem _ wT_5_23)) (fun _ h => h) dJ0_isLatin1_aae02_7 ?_
  refine lv_if_ne (tgt := 17) S.1 S.2.1 dJ0_isLatin1_aae02_10 (by decide) (fun q => absurd rfl q) (fun _ => ?_)
  refine lv_iconst (v := 1) S.1 S.2.1 dJ0_isLatin1_aae02_13 (by decide) ?_
  refine lv_goto (tgt := 18) S.1 S.2.1 dJ0_isLatin1_aae02_14 (by decide) ?_
  exact o_zret S hr hlo I (if_pos (Or.inr rfl)) dJ0_isLatin1_aae02_18
set_option maxHeartbeats 4000000 in
theorem MJ0a (l : Launch) (D : va_G) (cy : Nat → ClassId) (b : Nat) (A : Nat → Prop) (fl : Bool) {h : PH} {i : Int32} (hi : vp_in i 144) : Met l yJ0_charAt_5068e vJ0a ({ frames := 3, cells := 0, slots := 0, locals := 64 } : Room) (va_Pc [.ref (cy 100), .int i] (ph_B D cy b A fl h)) (va_Qi (fun (r : Int32) (u : PH) => (r, u) = (chV i.toNatClampNeg, h)) (ph_B D cy b A fl) A) 0 0 A := by
  refine o_met (cc := cJ0_charAt_5068e) (maxL := 2) (ret := some .char) (by decide) rfl (Nat.le_of_ble_eq_true rfl) rfl (fun p e s m below meth c S hr hlo hnm ls hl I => ?_)
  obtain ⟨z1, z2⟩ := I.2.2.2.2.2.2.2.1
  have hC := (z2.1 0 (by decide)).2.2.1
  refine lv_aload_n S.1 S.2.1 dJ0_charAt_5068e_0 rfl (lv_at hl 0 rfl) ?_
  refine va_calli (va_runV (As := []) (rest := []) (b := cy 100) (C := RJ0) S (MJ0l l D cy b A fl) (cwV 0 S.2.2.2.2 gJ0a_J0l rfl rfl rfl ⟨rfl, cdJ0l⟩ ⟨Nat.le_of_ble_eq_true rfl, Nat.le_of_ble_eq_true rfl⟩) ⟨ph_B_blind D cy b A fl h _, vk_recv (i := 0) z2 (by decide) I.2.2.1, ph_pre I⟩ rfl rfl hl.1 rfl (lv_room (Nat.le_of_ble_eq_true rfl)) dJ0_charAt_5068e_1 ⟨Nat.le_of_ble_eq_true rfl, Nat.le_of_ble_eq_true rfl⟩) I.2.2.1 (fun q _ h => h) (fun q h => h) (fun r u t H1 locs1 ht hvm hw hB hz1 hk1 hS => ?_)
  cases hw
  have I := ph_post I ht hB hS
  refine lv_if_eq (tgt := 16) S.1 S.2.1 dJ0_charAt_5068e_4 (by decide) (fun q => absurd q (by decide)) (fun _ => ?_)
  refine lv_aload_n S.1 S.2.1 dJ0_charAt_5068e_7 rfl (lv_at hl 0 rfl) ?_
  refine vk_getf S.1 S.2.1 hC I.2.2.1 S.2.2.2.1 (S.2.2.2.2 _ (List.mem_cons_of_mem _ wT_5_17)) (fun _ h => h) dJ0_charAt_5068e_8 ?_
  refine lv_iload_n S.1 S.2.1 dJ0_charAt_5068e_11 rfl (lv_at hl 1 rfl) ?_
  refine o_Si S (As := [.ref (cy 101), .int i]) (rest := []) (MJ1a l D cy b A fl hi) gJ0a_J1a rfl rfl rfl cdJ1a ⟨Nat.le_of_ble_eq_true rfl, Nat.le_of_ble_eq_true rfl⟩ I rfl hl.1 rfl (Nat.le_of_ble_eq_true rfl) dJ0_charAt_5068e_12 ⟨Nat.le_of_ble_eq_true rfl, Nat.le_of_ble_eq_true rfl⟩ (fun H locs I => ?_)
  exact W.zret S.1 S.2.1 hr (pk_nc _) (fun t ht hW => ⟨⟨_, h, rfl, rfl, ph_end I ht hW⟩, I.2.2.1.F ht⟩) I.2.2.1.2.2 dJ0_charAt_5068e_15 hlo
set_option maxHeartbeats 4000000 in
theorem o_chA {p : Program} {l : Launch} {e : Env} {R : Room} {s : State} {m : MethodId} {args : Array Value} {below : List Frame} {meth : Method} {c : Code} {H : Heap} {locs : List Loc} {cells slots : Nat} {Q : State → Prop} {cc : ByteArray} {nL pc : Nat} {ls : Array Slot} {rest : List Value} {D : va_G} {cy : Nat → ClassId} {b : Nat} {A : Nat → Prop} {fl : Bool} {h : PH} {c0 : Cond}
    (S : CallFix p m c cc nL s args (c0 :: TB) RX7) (I : ph_I D cy b A fl h s H locs) {i v : Int32} (g : chA i = some v) (hsz : ls.size = nL) (hR : 4 ≤ R.frames ∧ 100 ≤ R.locals) (hW : (rest.map fun v => v.category).sum ≤ 8) (hf : cells + 0 ≤ R.cells ∧ slots + 0 ≤ R.slots) (hdg : decode cc pc = .ok (.invokevirtual 21, 3))
    (kk : ∀ (H1 : Heap) (locs1 : List Loc), ph_I D cy b A fl h s H1 locs1 → W p l e R s m args below meth c H1 locs1 cells slots Q (F0 m (pc + 3) ls (.int v :: rest))) : W p l e R s m args below meth c H locs cells slots Q (F0 m pc ls (.int i :: .ref (cy 100) :: rest)) := by
  unfold chA at g
  split at g
  · cases g
  · rename_i hi
    obtain ⟨z1, z2⟩ := I.2.2.2.2.2.2.2.1
    have e9 := Option.some.inj g
    subst e9
    refine va_calli (va_runV (As := [.int i]) (rest := rest) (b := cy 100) (C := RJ0) S (MJ0a l D cy b A fl hi) (cwV 1 S.2.2.2.2 (gc_J0a c0) rfl rfl rfl ⟨rfl, cdJ0a⟩ ⟨hR.1, Nat.le_trans (Nat.le_of_ble_eq_true rfl) hR.2⟩) ⟨ph_B_blind D cy b A fl h _, vk_recv (i := 0) z2 (by decide) I.2.2.1, ph_pre I⟩ rfl rfl hsz rfl (lv_room hW) hdg hf) I.2.2.1 (fun q _ h => h) (fun q h => h) (fun r u t H1 locs1 ht hvm hw hB hz1 hk1 hS => ?_)
    cases hw
    exact kk H1 locs1 (ph_post I ht hB hS)
theorem o_ldcL {p : Program} {l : Launch} {e : Env} {R : Room} {s : State} {m : MethodId} {args : Array Value} {below : List Frame} {meth : Method} {c : Code} {H : Heap} {locs : List Loc} {cells slots : Nat} {Q : State → Prop} {cc : ByteArray} {nL pc : Nat} {ls : Array Slot} {rest : List Value} {D : va_G} {cy : Nat → ClassId} {b : Nat} {A : Nat → Prop} {fl : Bool} {h : PH} {Ts : List Cond}
    (S : CallFix p m c cc nL s args Ts RX7) (I : ph_I D cy b A fl h s H locs) (hdg : decode cc pc = .ok (.ldc 19, 2)) (k : W p l e R s m args below meth c H locs cells slots Q (F0 m (pc + 2) ls (.ref (cy 100) :: rest))) : W p l e R s m args below meth c H locs cells slots Q (F0 m pc ls rest) :=
  va_ldcS S.1 S.2.1 S.2.2.2.1 I.2.2.2.2.2.2.2.1.1 hdg k
