set_option maxRecDepth 20000 in
theorem fl_X0_9 : LkF RX0 9 0 1 := ⟨_, rfl, by decide, Or.inl (List.mem_append_right _ (List.mem_append_right _ (List.mem_append_left _ (List.mem_of_getElem? (i := 170) rfl))))⟩
set_option maxRecDepth 20000 in
theorem fw_X0_9 : Cond.fieldLink RX0 9 RX0 (TX0 1).2.1 (TX0 1).2.2.1 ∈ lw_tbl := List.mem_append_right _ (List.mem_append_right _ (List.mem_append_left _ (List.mem_of_getElem? (i := 170) rfl)))
set_option maxRecDepth 20000 in
theorem fl_X0_17 : LkF RX0 17 0 3 := ⟨_, rfl, by decide, Or.inl (List.mem_append_right _ (List.mem_append_right _ (List.mem_append_left _ (List.mem_of_getElem? (i := 173) rfl))))⟩
set_option maxRecDepth 20000 in
theorem fw_X0_17 : Cond.fieldLink RX0 17 RX0 (TX0 3).2.1 (TX0 3).2.2.1 ∈ lw_tbl := List.mem_append_right _ (List.mem_append_right _ (List.mem_append_left _ (List.mem_of_getElem? (i := 173) rfl)))
set_option maxRecDepth 20000 in
theorem fl_X0_22 : LkF RX0 22 0 4 := ⟨_, rfl, by decide, Or.inl (List.mem_append_right _ (List.mem_append_right _ (List.mem_append_left _ (List.mem_of_getElem? (i := 175) rfl))))⟩
set_option maxRecDepth 20000 in
theorem fw_X0_22 : Cond.fieldLink RX0 22 RX0 (TX0 4).2.1 (TX0 4).2.2.1 ∈ lw_tbl := List.mem_append_right _ (List.mem_append_right _ (List.mem_append_left _ (List.mem_of_getElem? (i := 175) rfl)))
set_option maxRecDepth 20000 in
theorem fl_X0_25 : LkF RX0 25 0 5 := ⟨_, rfl, by decide, Or.inl (List.mem_append_right _ (List.mem_append_right _ (List.mem_append_left _ (List.mem_of_getElem? (i := 177) rfl))))⟩
set_option maxRecDepth 20000 in
theorem fw_X0_25 : Cond.fieldLink RX0 25 RX0 (TX0 5).2.1 (TX0 5).2.2.1 ∈ lw_tbl := List.mem_append_right _ (List.mem_append_right _ (List.mem_append_left _ (List.mem_of_getElem? (i := 177) rfl)))
set_option maxRecDepth 20000 in
theorem fl_X0_29 : LkF RX0 29 0 0 := ⟨_, rfl, by decide, Or.inl (List.mem_append_right _ (List.mem_append_right _ (List.mem_append_left _ (List.mem_of_getElem? (i := 169) rfl))))⟩
set_option maxRecDepth 20000 in
theorem fw_X0_29 : Cond.fieldLink RX0 29 RX0 (TX0 0).2.1 (TX0 0).2.2.1 ∈ lw_tbl := List.mem_append_right _ (List.mem_append_right _ (List.mem_append_left _ (List.mem_of_getElem? (i := 169) rfl)))
set_option maxRecDepth 20000 in
theorem fl_X0_33 : LkF RX0 33 9 1 := ⟨_, rfl, by decide, Or.inr ⟨"RedWhite", List.mem_append_right _ (List.mem_append_right _ (List.mem_append_left _ (List.mem_of_getElem? (i := 46) rfl)))⟩⟩
set_option maxRecDepth 20000 in
theorem fl_X0_36 : LkF RX0 36 9 4 := ⟨_, rfl, by decide, Or.inr ⟨"RedWhite", List.mem_append_right _ (List.mem_append_right _ (List.mem_append_left _ (List.mem_of_getElem? (i := 56) rfl)))⟩⟩
set_option maxRecDepth 20000 in
theorem ml_X0_45 : LkM RX0 45 F_X0_chooseFrom 2 := ⟨List.mem_append_right _ (List.mem_append_right _ (List.mem_append_right _ (List.mem_append_right _ (List.mem_append_right _ (List.mem_append_left _ (List.mem_of_getElem? (i := 2) rfl)))))), by decide +kernel⟩
set_option maxRecDepth 20000 in
theorem fl_X0_49 : LkF RX0 49 2 7 := ⟨_, rfl, by decide, Or.inr ⟨"RedWhite", List.mem_append_right _ (List.mem_append_right _ (List.mem_append_left _ (List.mem_of_getElem? (i := 116) rfl)))⟩⟩
set_option maxRecDepth 20000 in
theorem fl_X0_55 : LkF RX0 55 0 2 := ⟨_, rfl, by decide, Or.inl (List.mem_append_right _ (List.mem_append_right _ (List.mem_append_left _ (List.mem_of_getElem? (i := 171) rfl))))⟩
set_option maxRecDepth 20000 in
theorem fw_X0_55 : Cond.fieldLink RX0 55 RX0 (TX0 2).2.1 (TX0 2).2.2.1 ∈ lw_tbl := List.mem_append_right _ (List.mem_append_right _ (List.mem_append_left _ (List.mem_of_getElem? (i := 171) rfl)))
set_option maxRecDepth 20000 in
theorem fl_X0_56 : LkF RX0 56 9 0 := ⟨_, rfl, by decide, Or.inr ⟨"RedWhite", List.mem_append_right _ (List.mem_append_right _ (List.mem_append_left _ (List.mem_of_getElem? (i := 41) rfl)))⟩⟩
set_option maxRecDepth 20000 in
theorem fl_X0_60 : LkF RX0 60 4 10 := ⟨_, rfl, by decide, Or.inr ⟨"RedWhite", List.mem_append_right _ (List.mem_append_left _ (List.mem_of_getElem? (i := 140) rfl))⟩⟩
set_option maxRecDepth 20000 in
theorem ml_X0_65 : LkM RX0 65 F_X0_settle 2 := ⟨List.mem_append_right _ (List.mem_append_right _ (List.mem_append_right _ (List.mem_append_right _ (List.mem_append_right _ (List.mem_append_left _ (List.mem_of_getElem? (i := 6) rfl)))))), by decide +kernel⟩
set_option maxRecDepth 20000 in
theorem ml_X0_68 : LkM RX0 68 F_X0_adopt 1 := ⟨List.mem_append_right _ (List.mem_append_right _ (List.mem_append_right _ (List.mem_append_right _ (List.mem_append_right _ (List.mem_append_left _ (List.mem_of_getElem? (i := 12) rfl)))))), by decide +kernel⟩
set_option maxRecDepth 20000 in
theorem fl_X0_72 : LkF RX0 72 4 8 := ⟨_, rfl, by decide, Or.inr ⟨"RedWhite", List.mem_append_right _ (List.mem_append_left _ (List.mem_of_getElem? (i := 134) rfl))⟩⟩
set_option maxRecDepth 20000 in
theorem ml_X0_75 : LkM RX0 75 F_X0_isFree 2 := ⟨List.mem_append_right _ (List.mem_append_right _ (List.mem_append_right _ (List.mem_append_right _ (List.mem_append_right _ (List.mem_append_left _ (List.mem_of_getElem? (i := 16) rfl)))))), by decide +kernel⟩
set_option maxRecDepth 20000 in
theorem ml_X0_79 : LkM RX0 79 F_X2_setTo 1 := ⟨List.mem_append_right _ (List.mem_append_right _ (List.mem_append_right _ (List.mem_append_right _ (List.mem_append_right _ (List.mem_append_left _ (List.mem_of_getElem? (i := 10) rfl)))))), by decide +kernel⟩
set_option maxRecDepth 20000 in
theorem fl_X0_83 : LkF RX0 83 2 2 := ⟨_, rfl, by decide, Or.inr ⟨"RedWhite", List.mem_append_right _ (List.mem_append_right _ (List.mem_append_left _ (List.mem_of_getElem? (i := 108) rfl)))⟩⟩
set_option maxRecDepth 20000 in
theorem ml_X0_86 : LkM RX0 86 F_X2_reckon 0 := ⟨List.mem_append_right _ (List.mem_append_right _ (List.mem_append_right _ (List.mem_append_right _ (List.mem_append_right _ (List.mem_append_left _ (List.mem_of_getElem? (i := 11) rfl)))))), by decide +kernel⟩
set_option maxRecDepth 20000 in
theorem fl_X0_89 : LkF RX0 89 2 9 := ⟨_, rfl, by decide, Or.inr ⟨"RedWhite", List.mem_append_right _ (List.mem_append_right _ (List.mem_append_left _ (List.mem_of_getElem? (i := 122) rfl)))⟩⟩
set_option maxRecDepth 20000 in
theorem fl_X1_11 : LkF RX1 11 1 1 := ⟨_, rfl, by decide, Or.inl (List.mem_append_right _ (List.mem_append_left _ (List.mem_of_getElem? (i := 219) rfl)))⟩
set_option maxRecDepth 20000 in
theorem fw_X1_11 : Cond.fieldLink RX1 11 RX1 (TX1 1).2.1 (TX1 1).2.2.1 ∈ lw_tbl := List.mem_append_right _ (List.mem_append_left _ (List.mem_of_getElem? (i := 219) rfl))
set_option maxRecDepth 20000 in
theorem fl_X1_15 : LkF RX1 15 1 2 := ⟨_, rfl, by decide, Or.inl (List.mem_append_right _ (List.mem_append_left _ (List.mem_of_getElem? (i := 220) rfl)))⟩
set_option maxRecDepth 20000 in
theorem fw_X1_15 : Cond.fieldLink RX1 15 RX1 (TX1 2).2.1 (TX1 2).2.2.1 ∈ lw_tbl := List.mem_append_right _ (List.mem_append_left _ (List.mem_of_getElem? (i := 220) rfl))
set_option maxRecDepth 20000 in
theorem fl_X1_18 : LkF RX1 18 1 3 := ⟨_, rfl, by decide, Or.inl (List.mem_append_right _ (List.mem_append_left _ (List.mem_of_getElem? (i := 221) rfl)))⟩
set_option maxRecDepth 20000 in
theorem fw_X1_18 : Cond.fieldLink RX1 18 RX1 (TX1 3).2.1 (TX1 3).2.2.1 ∈ lw_tbl := List.mem_append_right _ (List.mem_append_left _ (List.mem_of_getElem? (i := 221) rfl))
set_option maxRecDepth 20000 in
theorem fl_X1_21 : LkF RX1 21 1 0 := ⟨_, rfl, by decide, Or.inl (List.mem_append_right _ (List.mem_append_left _ (List.mem_of_getElem? (i := 218) rfl)))⟩
set_option maxRecDepth 20000 in
theorem fw_X1_21 : Cond.fieldLink RX1 21 RX1 (TX1 0).2.1 (TX1 0).2.2.1 ∈ lw_tbl := List.mem_append_right _ (List.mem_append_left _ (List.mem_of_getElem? (i := 218) rfl))
set_option maxRecDepth 20000 in
theorem fl_X1_25 : LkF RX1 25 1 4 := ⟨_, rfl, by decide, Or.inl (List.mem_append_right _ (List.mem_append_left _ (List.mem_of_getElem? (i := 222) rfl)))⟩
set_option maxRecDepth 20000 in
theorem fw_X1_25 : Cond.fieldLink RX1 25 RX1 (TX1 4).2.1 (TX1 4).2.2.1 ∈ lw_tbl := List.mem_append_right _ (List.mem_append_left _ (List.mem_of_getElem? (i := 222) rfl))
set_option maxRecDepth 20000 in
theorem ml_X1_29 : LkM RX1 29 F_X8_open 1 := ⟨List.mem_append_right _ (List.mem_append_right _ (List.mem_append_right _ (List.mem_append_right _ (List.mem_append_right _ (List.mem_append_left _ (List.mem_of_getElem? (i := 199) rfl)))))), by decide +kernel⟩
set_option maxRecDepth 20000 in
theorem ml_X1_35 : LkM RX1 35 F_X8_advance 0 := ⟨List.mem_append_right _ (List.mem_append_right _ (List.mem_append_right _ (List.mem_append_right _ (List.mem_append_right _ (List.mem_append_left _ (List.mem_of_getElem? (i := 200) rfl)))))), by decide +kernel⟩
set_option maxRecDepth 20000 in
theorem ml_X1_38 : LkM RX1 38 F_X8_isEnd 0 := ⟨List.mem_append_right _ (List.mem_append_right _ (List.mem_append_right _ (List.mem_append_right _ (List.mem_append_right _ (List.mem_append_left _ (List.mem_of_getElem? (i := 201) rfl)))))), by decide +kernel⟩
set_option maxRecDepth 20000 in
theorem ml_X1_42 : LkM RX1 42 F_X1_readActor 1 := ⟨List.mem_append_right _ (List.mem_append_right _ (List.mem_append_right _ (List.mem_append_right _ (List.mem_append_right _ (List.mem_append_left _ (List.mem_of_getElem? (i := 202) rfl)))))), by decide +kernel⟩
set_option maxRecDepth 20000 in
theorem ml_X1_46 : LkM RX1 46 F_X1_readColour 1 := ⟨List.mem_append_right _ (List.mem_append_right _ (List.mem_append_right _ (List.mem_append_right _ (List.mem_append_right _ (List.mem_append_left _ (List.mem_of_getElem? (i := 209) rfl)))))), by decide +kernel⟩
set_option maxRecDepth 20000 in
theorem ml_X1_49 : LkM RX1 49 F_X8_isMark 1 := ⟨List.mem_append_right _ (List.mem_append_right _ (List.mem_append_right _ (List.mem_append_right _ (List.mem_append_right _ (List.mem_append_left _ (List.mem_of_getElem? (i := 214) rfl)))))), by decide +kernel⟩
set_option maxRecDepth 20000 in
theorem ml_X1_53 : LkM RX1 53 F_X8_refuse 1 := ⟨List.mem_append_right _ (List.mem_append_right _ (List.mem_append_right _ (List.mem_append_right _ (List.mem_append_right _ (List.mem_append_left _ (List.mem_of_getElem? (i := 207) rfl)))))), by decide +kernel⟩
set_option maxRecDepth 20000 in
theorem fl_X1_57 : LkF RX1 57 8 7 := ⟨_, rfl, by decide, Or.inr ⟨"RedWhite", List.mem_append_right _ (List.mem_append_left _ (List.mem_of_getElem? (i := 50) rfl))⟩⟩
set_option maxRecDepth 20000 in
theorem ml_X1_60 : LkM RX1 60 F_X8_isName 0 := ⟨List.mem_append_right _ (List.mem_append_right _ (List.mem_append_right _ (List.mem_append_right _ (List.mem_append_right _ (List.mem_append_left _ (List.mem_of_getElem? (i := 206) rfl)))))), by decide +kernel⟩
set_option maxRecDepth 20000 in
theorem fl_X1_63 : LkF RX1 63 8 8 := ⟨_, rfl, by decide, Or.inr ⟨"RedWhite", List.mem_append_right _ (List.mem_append_left _ (List.mem_of_getElem? (i := 53) rfl))⟩⟩
set_option maxRecDepth 20000 in
theorem ml_X1_67 : LkM RX1 67 F_X4_playerNamed 1 := ⟨List.mem_append_right _ (List.mem_append_right _ (List.mem_append_right _ (List.mem_append_right _ (List.mem_append_right _ (List.mem_append_left _ (List.mem_of_getElem? (i := 208) rfl)))))), by decide +kernel⟩
set_option maxRecDepth 20000 in
theorem ml_X1_73 : LkM RX1 73 F_X4_colourNamed 1 := ⟨List.mem_append_right _ (List.mem_append_right _ (List.mem_append_right _ (List.mem_append_right _ (List.mem_append_right _ (List.mem_append_left _ (List.mem_of_getElem? (i := 213) rfl)))))), by decide +kernel⟩
set_option maxRecDepth 20000 in
theorem ml_X1_76 : LkM RX1 76 F_X9_whyNotTake 2 := ⟨List.mem_append_right _ (List.mem_append_right _ (List.mem_append_right _ (List.mem_append_right _ (List.mem_append_right _ (List.mem_append_left _ (List.mem_of_getElem? (i := 223) rfl)))))), by decide +kernel⟩
set_option maxRecDepth 20000 in
theorem ml_X1_82 : LkM RX1 82 F_X9_doTake 2 := ⟨List.mem_append_right _ (List.mem_append_right _ (List.mem_append_right _ (List.mem_append_right _ (List.mem_append_right _ (List.mem_append_left _ (List.mem_of_getElem? (i := 224) rfl)))))), by decide +kernel⟩
set_option maxRecDepth 20000 in
theorem ml_X1_86 : LkM RX1 86 F_X9_whyNotTurn 2 := ⟨List.mem_append_right _ (List.mem_append_right _ (List.mem_append_right _ (List.mem_append_right _ (List.mem_append_right _ (List.mem_append_left _ (List.mem_of_getElem? (i := 225) rfl)))))), by decide +kernel⟩
set_option maxRecDepth 20000 in
theorem ml_X1_89 : LkM RX1 89 F_X9_doTurn 2 := ⟨List.mem_append_right _ (List.mem_append_right _ (List.mem_append_right _ (List.mem_append_right _ (List.mem_append_right _ (List.mem_append_left _ (List.mem_of_getElem? (i := 226) rfl)))))), by decide +kernel⟩
set_option maxRecDepth 20000 in
theorem ml_X1_92 : LkM RX1 92 F_X9_whyNotCome 1 := ⟨List.mem_append_right _ (List.mem_append_right _ (List.mem_append_right _ (List.mem_append_right _ (List.mem_append_right _ (List.mem_append_left _ (List.mem_of_getElem? (i := 227) rfl)))))), by decide +kernel⟩
set_option maxRecDepth 20000 in
theorem ml_X1_96 : LkM RX1 96 F_X9_doCome 1 := ⟨List.mem_append_right _ (List.mem_append_right _ (List.mem_append_right _ (List.mem_append_right _ (List.mem_append_right _ (List.mem_append_left _ (List.mem_of_getElem? (i := 228) rfl)))))), by decide +kernel⟩
set_option maxRecDepth 20000 in
theorem fl_X2_9 : LkF RX2 9 2 1 := ⟨_, rfl, by decide, Or.inl (List.mem_append_right _ (List.mem_append_right _ (List.mem_append_left _ (List.mem_of_getElem? (i := 106) rfl))))⟩
set_option maxRecDepth 20000 in
theorem fw_X2_9 : Cond.fieldLink RX2 9 RX2 (TX2 1).2.1 (TX2 1).2.2.1 ∈ lw_tbl := List.mem_append_right _ (List.mem_append_right _ (List.mem_append_left _ (List.mem_of_getElem? (i := 106) rfl)))
set_option maxRecDepth 20000 in
theorem fl_X2_15 : LkF RX2 15 2 2 := ⟨_, rfl, by decide, Or.inl (List.mem_append_right _ (List.mem_append_right _ (List.mem_append_left _ (List.mem_of_getElem? (i := 107) rfl))))⟩
set_option maxRecDepth 20000 in
theorem fw_X2_15 : Cond.fieldLink RX2 15 RX2 (TX2 2).2.1 (TX2 2).2.2.1 ∈ lw_tbl := List.mem_append_right _ (List.mem_append_right _ (List.mem_append_left _ (List.mem_of_getElem? (i := 107) rfl)))
set_option maxRecDepth 20000 in
theorem fl_X2_19 : LkF RX2 19 2 3 := ⟨_, rfl, by decide, Or.inl (List.mem_append_right _ (List.mem_append_right _ (List.mem_append_left _ (List.mem_of_getElem? (i := 110) rfl))))⟩
set_option maxRecDepth 20000 in
theorem fw_X2_19 : Cond.fieldLink RX2 19 RX2 (TX2 3).2.1 (TX2 3).2.2.1 ∈ lw_tbl := List.mem_append_right _ (List.mem_append_right _ (List.mem_append_left _ (List.mem_of_getElem? (i := 110) rfl)))
set_option maxRecDepth 20000 in
theorem fl_X2_22 : LkF RX2 22 2 4 := ⟨_, rfl, by decide, Or.inl (List.mem_append_right _ (List.mem_append_right _ (List.mem_append_left _ (List.mem_of_getElem? (i := 112) rfl))))⟩
set_option maxRecDepth 20000 in
theorem fw_X2_22 : Cond.fieldLink RX2 22 RX2 (TX2 4).2.1 (TX2 4).2.2.1 ∈ lw_tbl := List.mem_append_right _ (List.mem_append_right _ (List.mem_append_left _ (List.mem_of_getElem? (i := 112) rfl)))
set_option maxRecDepth 20000 in
theorem fl_X2_26 : LkF RX2 26 2 9 := ⟨_, rfl, by decide, Or.inl (List.mem_append_right _ (List.mem_append_right _ (List.mem_append_left _ (List.mem_of_getElem? (i := 121) rfl))))⟩
set_option maxRecDepth 20000 in
theorem fw_X2_26 : Cond.fieldLink RX2 26 RX2 (TX2 9).2.1 (TX2 9).2.2.1 ∈ lw_tbl := List.mem_append_right _ (List.mem_append_right _ (List.mem_append_left _ (List.mem_of_getElem? (i := 121) rfl)))
set_option maxRecDepth 20000 in
theorem fl_X2_29 : LkF RX2 29 2 10 := ⟨_, rfl, by decide, Or.inl (List.mem_append_right _ (List.mem_append_right _ (List.mem_append_left _ (List.mem_of_getElem? (i := 124) rfl))))⟩
set_option maxRecDepth 20000 in
theorem fw_X2_29 : Cond.fieldLink RX2 29 RX2 (TX2 10).2.1 (TX2 10).2.2.1 ∈ lw_tbl := List.mem_append_right _ (List.mem_append_right _ (List.mem_append_left _ (List.mem_of_getElem? (i := 124) rfl)))
set_option maxRecDepth 20000 in
theorem fl_X2_32 : LkF RX2 32 2 11 := ⟨_, rfl, by decide, Or.inl (List.mem_append_right _ (List.mem_append_right _ (List.mem_append_left _ (List.mem_of_getElem? (i := 125) rfl))))⟩
set_option maxRecDepth 20000 in
theorem fw_X2_32 : Cond.fieldLink RX2 32 RX2 (TX2 11).2.1 (TX2 11).2.2.1 ∈ lw_tbl := List.mem_append_right _ (List.mem_append_right _ (List.mem_append_left _ (List.mem_of_getElem? (i := 125) rfl)))
set_option maxRecDepth 20000 in
theorem fl_X2_35 : LkF RX2 35 2 12 := ⟨_, rfl, by decide, Or.inl (List.mem_append_right _ (List.mem_append_right _ (List.mem_append_left _ (List.mem_of_getElem? (i := 126) rfl))))⟩
set_option maxRecDepth 20000 in
theorem fw_X2_35 : Cond.fieldLink RX2 35 RX2 (TX2 12).2.1 (TX2 12).2.2.1 ∈ lw_tbl := List.mem_append_right _ (List.mem_append_right _ (List.mem_append_left _ (List.mem_of_getElem? (i := 126) rfl)))
set_option maxRecDepth 20000 in
theorem fl_X2_38 : LkF RX2 38 2 13 := ⟨_, rfl, by decide, Or.inl (List.mem_append_right _ (List.mem_append_right _ (List.mem_append_left _ (List.mem_of_getElem? (i := 127) rfl))))⟩
set_option maxRecDepth 20000 in
theorem fw_X2_38 : Cond.fieldLink RX2 38 RX2 (TX2 13).2.1 (TX2 13).2.2.1 ∈ lw_tbl := List.mem_append_right _ (List.mem_append_right _ (List.mem_append_left _ (List.mem_of_getElem? (i := 127) rfl)))
set_option maxRecDepth 20000 in
theorem fl_X2_41 : LkF RX2 41 2 14 := ⟨_, rfl, by decide, Or.inl (List.mem_append_right _ (List.mem_append_right _ (List.mem_append_left _ (List.mem_of_getElem? (i := 128) rfl))))⟩
set_option maxRecDepth 20000 in
theorem fw_X2_41 : Cond.fieldLink RX2 41 RX2 (TX2 14).2.1 (TX2 14).2.2.1 ∈ lw_tbl := List.mem_append_right _ (List.mem_append_right _ (List.mem_append_left _ (List.mem_of_getElem? (i := 128) rfl)))
set_option maxRecDepth 20000 in
theorem fl_X2_44 : LkF RX2 44 2 0 := ⟨_, rfl, by decide, Or.inl (List.mem_append_right _ (List.mem_append_right _ (List.mem_append_left _ (List.mem_of_getElem? (i := 105) rfl))))⟩
set_option maxRecDepth 20000 in
theorem fw_X2_44 : Cond.fieldLink RX2 44 RX2 (TX2 0).2.1 (TX2 0).2.2.1 ∈ lw_tbl := List.mem_append_right _ (List.mem_append_right _ (List.mem_append_left _ (List.mem_of_getElem? (i := 105) rfl)))
set_option maxRecDepth 20000 in
theorem fl_X2_48 : LkF RX2 48 9 1 := ⟨_, rfl, by decide, Or.inr ⟨"RedWhite", List.mem_append_right _ (List.mem_append_right _ (List.mem_append_left _ (List.mem_of_getElem? (i := 45) rfl)))⟩⟩
set_option maxRecDepth 20000 in
theorem ml_X2_51 : LkM RX2 51 F_X2_setTo 1 := ⟨List.mem_append_right _ (List.mem_append_right _ (List.mem_append_right _ (List.mem_append_right _ (List.mem_append_left _ (List.mem_of_getElem? (i := 178) rfl))))), by decide +kernel⟩
set_option maxRecDepth 20000 in
theorem ml_X2_55 : LkM RX2 55 F_X2_reckon 0 := ⟨List.mem_append_right _ (List.mem_append_right _ (List.mem_append_right _ (List.mem_append_right _ (List.mem_append_left _ (List.mem_of_getElem? (i := 192) rfl))))), by decide +kernel⟩
set_option maxRecDepth 20000 in
theorem ml_X2_58 : LkM RX2 58 F_X2_setPlayers 1 := ⟨List.mem_append_right _ (List.mem_append_right _ (List.mem_append_right _ (List.mem_append_right _ (List.mem_append_left _ (List.mem_of_getElem? (i := 182) rfl))))), by decide +kernel⟩
set_option maxRecDepth 20000 in
theorem ml_X2_61 : LkM RX2 61 F_X9_isOver 0 := ⟨List.mem_append_right _ (List.mem_append_right _ (List.mem_append_right _ (List.mem_append_right _ (List.mem_append_left _ (List.mem_of_getElem? (i := 188) rfl))))), by decide +kernel⟩
set_option maxRecDepth 20000 in
theorem fl_X2_65 : LkF RX2 65 4 12 := ⟨_, rfl, by decide, Or.inr ⟨"RedWhite", List.mem_append_right _ (List.mem_append_left _ (List.mem_of_getElem? (i := 156) rfl))⟩⟩
set_option maxRecDepth 20000 in
theorem fl_X2_70 : LkF RX2 70 9 2 := ⟨_, rfl, by decide, Or.inr ⟨"RedWhite", List.mem_append_right _ (List.mem_append_right _ (List.mem_append_left _ (List.mem_of_getElem? (i := 51) rfl)))⟩⟩
set_option maxRecDepth 20000 in
theorem fl_X2_73 : LkF RX2 73 2 6 := ⟨_, rfl, by decide, Or.inl (List.mem_append_right _ (List.mem_append_right _ (List.mem_append_left _ (List.mem_of_getElem? (i := 115) rfl))))⟩
set_option maxRecDepth 20000 in
theorem fw_X2_73 : Cond.fieldLink RX2 73 RX2 (TX2 6).2.1 (TX2 6).2.2.1 ∈ lw_tbl := List.mem_append_right _ (List.mem_append_right _ (List.mem_append_left _ (List.mem_of_getElem? (i := 115) rfl)))
set_option maxRecDepth 20000 in
theorem fl_X2_76 : LkF RX2 76 9 6 := ⟨_, rfl, by decide, Or.inr ⟨"RedWhite", List.mem_append_right _ (List.mem_append_right _ (List.mem_append_left _ (List.mem_of_getElem? (i := 64) rfl)))⟩⟩
set_option maxRecDepth 20000 in
theorem ml_X2_83 : LkM RX2 83 F_X4_rows 0 := ⟨List.mem_append_right _ (List.mem_append_right _ (List.mem_append_right _ (List.mem_append_right _ (List.mem_append_left _ (List.mem_of_getElem? (i := 190) rfl))))), by decide +kernel⟩
set_option maxRecDepth 20000 in
theorem ml_X2_87 : LkM RX2 87 F_X9_weightOf 1 := ⟨List.mem_append_right _ (List.mem_append_right _ (List.mem_append_right _ (List.mem_append_right _ (List.mem_append_left _ (List.mem_of_getElem? (i := 191) rfl))))), by decide +kernel⟩
set_option maxRecDepth 20000 in
theorem fl_X2_91 : LkF RX2 91 4 7 := ⟨_, rfl, by decide, Or.inr ⟨"RedWhite", List.mem_append_right _ (List.mem_append_left _ (List.mem_of_getElem? (i := 129) rfl))⟩⟩
set_option maxRecDepth 20000 in
theorem fl_X2_94 : LkF RX2 94 4 4 := ⟨_, rfl, by decide, Or.inr ⟨"RedWhite", List.mem_append_right _ (List.mem_append_left _ (List.mem_of_getElem? (i := 116) rfl))⟩⟩
set_option maxRecDepth 20000 in
theorem fl_X2_97 : LkF RX2 97 9 0 := ⟨_, rfl, by decide, Or.inr ⟨"RedWhite", List.mem_append_right _ (List.mem_append_right _ (List.mem_append_left _ (List.mem_of_getElem? (i := 44) rfl)))⟩⟩
set_option maxRecDepth 20000 in
theorem fl_X2_98 : LkF RX2 98 4 11 := ⟨_, rfl, by decide, Or.inr ⟨"RedWhite", List.mem_append_right _ (List.mem_append_left _ (List.mem_of_getElem? (i := 150) rfl))⟩⟩
set_option maxRecDepth 20000 in
theorem fl_X2_101 : LkF RX2 101 2 5 := ⟨_, rfl, by decide, Or.inl (List.mem_append_right _ (List.mem_append_right _ (List.mem_append_left _ (List.mem_of_getElem? (i := 113) rfl))))⟩
set_option maxRecDepth 20000 in
theorem fw_X2_101 : Cond.fieldLink RX2 101 RX2 (TX2 5).2.1 (TX2 5).2.2.1 ∈ lw_tbl := List.mem_append_right _ (List.mem_append_right _ (List.mem_append_left _ (List.mem_of_getElem? (i := 113) rfl)))
set_option maxRecDepth 20000 in
theorem ml_X2_102 : LkM RX2 102 F_X4_hasColour 1 := ⟨List.mem_append_right _ (List.mem_append_right _ (List.mem_append_right _ (List.mem_append_right _ (List.mem_append_left _ (List.mem_of_getElem? (i := 186) rfl))))), by decide +kernel⟩
set_option maxRecDepth 20000 in
theorem ml_X2_106 : LkM RX2 106 F_X9_holderOf 1 := ⟨List.mem_append_right _ (List.mem_append_right _ (List.mem_append_right _ (List.mem_append_right _ (List.mem_append_left _ (List.mem_of_getElem? (i := 187) rfl))))), by decide +kernel⟩
set_option maxRecDepth 20000 in
theorem ml_X2_110 : LkM RX2 110 F_X2_clearResults 0 := ⟨List.mem_append_right _ (List.mem_append_right _ (List.mem_append_right _ (List.mem_append_right _ (List.mem_append_left _ (List.mem_of_getElem? (i := 196) rfl))))), by decide +kernel⟩
set_option maxRecDepth 20000 in
theorem fl_X2_116 : LkF RX2 116 2 7 := ⟨_, rfl, by decide, Or.inl (List.mem_append_right _ (List.mem_append_right _ (List.mem_append_left _ (List.mem_of_getElem? (i := 117) rfl))))⟩
set_option maxRecDepth 20000 in
theorem fw_X2_116 : Cond.fieldLink RX2 116 RX2 (TX2 7).2.1 (TX2 7).2.2.1 ∈ lw_tbl := List.mem_append_right _ (List.mem_append_right _ (List.mem_append_left _ (List.mem_of_getElem? (i := 117) rfl)))
set_option maxRecDepth 20000 in
theorem ml_X2_120 : LkM RX2 120 F_X2_firstAtGoal 0 := ⟨List.mem_append_right _ (List.mem_append_right _ (List.mem_append_right _ (List.mem_append_right _ (List.mem_append_left _ (List.mem_of_getElem? (i := 205) rfl))))), by decide +kernel⟩
set_option maxRecDepth 20000 in
theorem fl_X2_123 : LkF RX2 123 4 10 := ⟨_, rfl, by decide, Or.inr ⟨"RedWhite", List.mem_append_right _ (List.mem_append_left _ (List.mem_of_getElem? (i := 143) rfl))⟩⟩
set_option maxRecDepth 20000 in
theorem mn_X2_126 : Cond.methodLinkNest RX2 126 (fy F_X11_soleLeader) "RedWhite" ∈ lw_tbl := List.mem_append_right _ (List.mem_append_right _ (List.mem_append_right _ (List.mem_append_right _ (List.mem_append_left _ (List.mem_of_getElem? (i := 209) rfl)))))
set_option maxRecDepth 20000 in
theorem ml_X2_130 : LkM RX2 130 F_X2_credit 3 := ⟨List.mem_append_right _ (List.mem_append_right _ (List.mem_append_right _ (List.mem_append_right _ (List.mem_append_left _ (List.mem_of_getElem? (i := 210) rfl))))), by decide +kernel⟩
set_option maxRecDepth 20000 in
theorem ml_X2_134 : LkM RX2 134 F_X2_setRanges 0 := ⟨List.mem_append_right _ (List.mem_append_right _ (List.mem_append_right _ (List.mem_append_right _ (List.mem_append_left _ (List.mem_of_getElem? (i := 214) rfl))))), by decide +kernel⟩
set_option maxRecDepth 20000 in
theorem ml_X2_137 : LkM RX2 137 F_J7_fill_d0a16 2 := ⟨List.mem_append_right _ (List.mem_append_right _ (List.mem_append_right _ (List.mem_append_right _ (List.mem_append_left _ (List.mem_of_getElem? (i := 200) rfl))))), by decide +kernel⟩
set_option maxRecDepth 20000 in
theorem ml_X2_143 : LkM RX2 143 F_X2_passCars 2 := ⟨List.mem_append_right _ (List.mem_append_right _ (List.mem_append_right _ (List.mem_append_right _ (List.mem_append_left _ (List.mem_of_getElem? (i := 222) rfl))))), by decide +kernel⟩
set_option maxRecDepth 20000 in
theorem fl_X2_147 : LkF RX2 147 2 8 := ⟨_, rfl, by decide, Or.inl (List.mem_append_right _ (List.mem_append_right _ (List.mem_append_left _ (List.mem_of_getElem? (i := 119) rfl))))⟩
set_option maxRecDepth 20000 in
theorem fw_X2_147 : Cond.fieldLink RX2 147 RX2 (TX2 8).2.1 (TX2 8).2.2.1 ∈ lw_tbl := List.mem_append_right _ (List.mem_append_right _ (List.mem_append_left _ (List.mem_of_getElem? (i := 119) rfl)))
set_option maxRecDepth 20000 in
theorem ml_X2_150 : LkM RX2 150 F_X4_hasPlayer 1 := ⟨List.mem_append_right _ (List.mem_append_right _ (List.mem_append_right _ (List.mem_append_right _ (List.mem_append_left _ (List.mem_of_getElem? (i := 218) rfl))))), by decide +kernel⟩
set_option maxRecDepth 20000 in
theorem fl_X2_159 : LkF RX2 159 4 5 := ⟨_, rfl, by decide, Or.inr ⟨"RedWhite", List.mem_append_right _ (List.mem_append_left _ (List.mem_of_getElem? (i := 124) rfl))⟩⟩
set_option maxRecDepth 20000 in
theorem ml_X2_163 : LkM RX2 163 F_X2_passCar 4 := ⟨List.mem_append_right _ (List.mem_append_right _ (List.mem_append_right _ (List.mem_append_right _ (List.mem_append_left _ (List.mem_of_getElem? (i := 226) rfl))))), by decide +kernel⟩
set_option maxRecDepth 20000 in
theorem fl_X2_167 : LkF RX2 167 4 1 := ⟨_, rfl, by decide, Or.inr ⟨"RedWhite", List.mem_append_right _ (List.mem_append_left _ (List.mem_of_getElem? (i := 105) rfl))⟩⟩
set_option maxRecDepth 20000 in
theorem fl_X2_170 : LkF RX2 170 4 2 := ⟨_, rfl, by decide, Or.inr ⟨"RedWhite", List.mem_append_right _ (List.mem_append_left _ (List.mem_of_getElem? (i := 112) rfl))⟩⟩
set_option maxRecDepth 20000 in
theorem fl_X3_13 : LkF RX3 13 3 0 := ⟨_, rfl, by decide, Or.inl (List.mem_append_right _ (List.mem_append_right _ (List.mem_append_left _ (List.mem_of_getElem? (i := 92) rfl))))⟩
set_option maxRecDepth 20000 in
theorem fw_X3_13 : Cond.fieldLink RX3 13 RX3 (TX3 0).2.1 (TX3 0).2.2.1 ∈ lw_tbl := List.mem_append_right _ (List.mem_append_right _ (List.mem_append_left _ (List.mem_of_getElem? (i := 92) rfl)))
set_option maxRecDepth 20000 in
theorem ml_X3_17 : LkM RX3 17 F_X9_init 1 := ⟨List.mem_append_right _ (List.mem_append_right _ (List.mem_append_left _ (List.mem_of_getElem? (i := 91) rfl))), by decide +kernel⟩
set_option maxRecDepth 20000 in
theorem fl_X3_20 : LkF RX3 20 3 1 := ⟨_, rfl, by decide, Or.inl (List.mem_append_right _ (List.mem_append_right _ (List.mem_append_left _ (List.mem_of_getElem? (i := 93) rfl))))⟩
set_option maxRecDepth 20000 in
theorem fw_X3_20 : Cond.fieldLink RX3 20 RX3 (TX3 1).2.1 (TX3 1).2.2.1 ∈ lw_tbl := List.mem_append_right _ (List.mem_append_right _ (List.mem_append_left _ (List.mem_of_getElem? (i := 93) rfl)))
set_option maxRecDepth 20000 in
theorem ml_X3_24 : LkM RX3 24 F_X9_copyFrom 1 := ⟨List.mem_append_right _ (List.mem_append_right _ (List.mem_append_right _ (List.mem_append_right _ (List.mem_append_left _ (List.mem_of_getElem? (i := 111) rfl))))), by decide +kernel⟩
set_option maxRecDepth 20000 in
theorem fl_X4_9 : LkF RX4 9 4 0 := ⟨_, rfl, by decide, Or.inl (List.mem_append_right _ (List.mem_append_left _ (List.mem_of_getElem? (i := 99) rfl)))⟩
set_option maxRecDepth 20000 in
theorem fw_X4_9 : Cond.fieldLink RX4 9 RX4 (TX4 0).2.1 (TX4 0).2.2.1 ∈ lw_tbl := List.mem_append_right _ (List.mem_append_left _ (List.mem_of_getElem? (i := 99) rfl))
set_option maxRecDepth 20000 in
theorem fl_X4_15 : LkF RX4 15 4 1 := ⟨_, rfl, by decide, Or.inl (List.mem_append_right _ (List.mem_append_left _ (List.mem_of_getElem? (i := 101) rfl)))⟩
set_option maxRecDepth 20000 in
theorem fw_X4_15 : Cond.fieldLink RX4 15 RX4 (TX4 1).2.1 (TX4 1).2.2.1 ∈ lw_tbl := List.mem_append_right _ (List.mem_append_left _ (List.mem_of_getElem? (i := 101) rfl))
set_option maxRecDepth 20000 in
theorem fl_X4_19 : LkF RX4 19 4 2 := ⟨_, rfl, by decide, Or.inl (List.mem_append_right _ (List.mem_append_left _ (List.mem_of_getElem? (i := 107) rfl)))⟩
set_option maxRecDepth 20000 in
theorem fw_X4_19 : Cond.fieldLink RX4 19 RX4 (TX4 2).2.1 (TX4 2).2.2.1 ∈ lw_tbl := List.mem_append_right _ (List.mem_append_left _ (List.mem_of_getElem? (i := 107) rfl))
set_option maxRecDepth 20000 in
theorem fl_X4_23 : LkF RX4 23 4 3 := ⟨_, rfl, by decide, Or.inl (List.mem_append_right _ (List.mem_append_left _ (List.mem_of_getElem? (i := 113) rfl)))⟩
set_option maxRecDepth 20000 in
theorem fw_X4_23 : Cond.fieldLink RX4 23 RX4 (TX4 3).2.1 (TX4 3).2.2.1 ∈ lw_tbl := List.mem_append_right _ (List.mem_append_left _ (List.mem_of_getElem? (i := 113) rfl))
set_option maxRecDepth 20000 in
theorem fl_X4_26 : LkF RX4 26 4 4 := ⟨_, rfl, by decide, Or.inl (List.mem_append_right _ (List.mem_append_left _ (List.mem_of_getElem? (i := 115) rfl)))⟩
set_option maxRecDepth 20000 in
theorem fw_X4_26 : Cond.fieldLink RX4 26 RX4 (TX4 4).2.1 (TX4 4).2.2.1 ∈ lw_tbl := List.mem_append_right _ (List.mem_append_left _ (List.mem_of_getElem? (i := 115) rfl))
set_option maxRecDepth 20000 in
theorem fl_X4_31 : LkF RX4 31 4 5 := ⟨_, rfl, by decide, Or.inl (List.mem_append_right _ (List.mem_append_left _ (List.mem_of_getElem? (i := 119) rfl)))⟩
set_option maxRecDepth 20000 in
theorem fw_X4_31 : Cond.fieldLink RX4 31 RX4 (TX4 5).2.1 (TX4 5).2.2.1 ∈ lw_tbl := List.mem_append_right _ (List.mem_append_left _ (List.mem_of_getElem? (i := 119) rfl))
set_option maxRecDepth 20000 in
theorem fl_X4_34 : LkF RX4 34 4 6 := ⟨_, rfl, by decide, Or.inl (List.mem_append_right _ (List.mem_append_left _ (List.mem_of_getElem? (i := 125) rfl)))⟩
set_option maxRecDepth 20000 in
theorem fw_X4_34 : Cond.fieldLink RX4 34 RX4 (TX4 6).2.1 (TX4 6).2.2.1 ∈ lw_tbl := List.mem_append_right _ (List.mem_append_left _ (List.mem_of_getElem? (i := 125) rfl))
set_option maxRecDepth 20000 in
theorem fl_X4_37 : LkF RX4 37 4 7 := ⟨_, rfl, by decide, Or.inl (List.mem_append_right _ (List.mem_append_left _ (List.mem_of_getElem? (i := 127) rfl)))⟩
set_option maxRecDepth 20000 in
theorem fw_X4_37 : Cond.fieldLink RX4 37 RX4 (TX4 7).2.1 (TX4 7).2.2.1 ∈ lw_tbl := List.mem_append_right _ (List.mem_append_left _ (List.mem_of_getElem? (i := 127) rfl))
set_option maxRecDepth 20000 in
theorem fl_X4_40 : LkF RX4 40 4 11 := ⟨_, rfl, by decide, Or.inl (List.mem_append_right _ (List.mem_append_left _ (List.mem_of_getElem? (i := 147) rfl)))⟩
set_option maxRecDepth 20000 in
theorem fw_X4_40 : Cond.fieldLink RX4 40 RX4 (TX4 11).2.1 (TX4 11).2.2.1 ∈ lw_tbl := List.mem_append_right _ (List.mem_append_left _ (List.mem_of_getElem? (i := 147) rfl))
set_option maxRecDepth 20000 in
theorem fl_X4_44 : LkF RX4 44 4 12 := ⟨_, rfl, by decide, Or.inl (List.mem_append_right _ (List.mem_append_left _ (List.mem_of_getElem? (i := 154) rfl)))⟩
set_option maxRecDepth 20000 in
theorem fw_X4_44 : Cond.fieldLink RX4 44 RX4 (TX4 12).2.1 (TX4 12).2.2.1 ∈ lw_tbl := List.mem_append_right _ (List.mem_append_left _ (List.mem_of_getElem? (i := 154) rfl))
set_option maxRecDepth 20000 in
theorem fl_X4_47 : LkF RX4 47 4 8 := ⟨_, rfl, by decide, Or.inl (List.mem_append_right _ (List.mem_append_left _ (List.mem_of_getElem? (i := 133) rfl)))⟩
set_option maxRecDepth 20000 in
theorem fw_X4_47 : Cond.fieldLink RX4 47 RX4 (TX4 8).2.1 (TX4 8).2.2.1 ∈ lw_tbl := List.mem_append_right _ (List.mem_append_left _ (List.mem_of_getElem? (i := 133) rfl))
set_option maxRecDepth 20000 in
theorem ml_X4_50 : LkM RX4 50 F_X4_hasColour 1 := ⟨List.mem_append_right _ (List.mem_append_right _ (List.mem_append_right _ (List.mem_append_right _ (List.mem_append_left _ (List.mem_of_getElem? (i := 65) rfl))))), by decide +kernel⟩
set_option maxRecDepth 20000 in
theorem fl_X4_54 : LkF RX4 54 4 9 := ⟨_, rfl, by decide, Or.inl (List.mem_append_right _ (List.mem_append_left _ (List.mem_of_getElem? (i := 137) rfl)))⟩
set_option maxRecDepth 20000 in
theorem fw_X4_54 : Cond.fieldLink RX4 54 RX4 (TX4 9).2.1 (TX4 9).2.2.1 ∈ lw_tbl := List.mem_append_right _ (List.mem_append_left _ (List.mem_of_getElem? (i := 137) rfl))
set_option maxRecDepth 20000 in
theorem fl_X4_57 : LkF RX4 57 4 10 := ⟨_, rfl, by decide, Or.inl (List.mem_append_right _ (List.mem_append_left _ (List.mem_of_getElem? (i := 142) rfl)))⟩
set_option maxRecDepth 20000 in
theorem fw_X4_57 : Cond.fieldLink RX4 57 RX4 (TX4 10).2.1 (TX4 10).2.2.1 ∈ lw_tbl := List.mem_append_right _ (List.mem_append_left _ (List.mem_of_getElem? (i := 142) rfl))
set_option maxRecDepth 20000 in
theorem ml_X4_60 : LkM RX4 60 F_X4_rows 0 := ⟨List.mem_append_right _ (List.mem_append_right _ (List.mem_append_right _ (List.mem_append_right _ (List.mem_append_right _ (List.mem_append_right _ (List.mem_append_right _ (List.mem_append_left _ (List.mem_of_getElem? (i := 1) rfl)))))))), by decide +kernel⟩
set_option maxRecDepth 20000 in
theorem ml_X4_64 : LkM RX4 64 F_X4_indexIn 3 := ⟨List.mem_append_right _ (List.mem_append_right _ (List.mem_append_right _ (List.mem_append_left _ (List.mem_of_getElem? (i := 209) rfl)))), by decide +kernel⟩
set_option maxRecDepth 20000 in
theorem ml_X4_68 : LkM RX4 68 F_X4_colourNamed 1 := ⟨List.mem_append_right _ (List.mem_append_right _ (List.mem_append_right _ (List.mem_append_left _ (List.mem_of_getElem? (i := 205) rfl)))), by decide +kernel⟩
set_option maxRecDepth 20000 in
theorem ml_X4_72 : LkM RX4 72 F_X4_playerNamed 1 := ⟨List.mem_append_right _ (List.mem_append_right _ (List.mem_append_right _ (List.mem_append_left _ (List.mem_of_getElem? (i := 212) rfl)))), by decide +kernel⟩
set_option maxRecDepth 20000 in
theorem fl_X5_9 : LkF RX5 9 5 0 := ⟨_, rfl, by decide, Or.inl (List.mem_append_right _ (List.mem_append_left _ (List.mem_of_getElem? (i := 199) rfl)))⟩
set_option maxRecDepth 20000 in
theorem fw_X5_9 : Cond.fieldLink RX5 9 RX5 (TX5 0).2.1 (TX5 0).2.2.1 ∈ lw_tbl := List.mem_append_right _ (List.mem_append_left _ (List.mem_of_getElem? (i := 199) rfl))
set_option maxRecDepth 20000 in
theorem ml_X5_17 : LkM RX5 17 F_X4_init 0 := ⟨List.mem_append_right _ (List.mem_append_left _ (List.mem_of_getElem? (i := 93) rfl)), by decide +kernel⟩
set_option maxRecDepth 20000 in
theorem fl_X5_18 : LkF RX5 18 5 1 := ⟨_, rfl, by decide, Or.inl (List.mem_append_right _ (List.mem_append_left _ (List.mem_of_getElem? (i := 200) rfl)))⟩
set_option maxRecDepth 20000 in
theorem fw_X5_18 : Cond.fieldLink RX5 18 RX5 (TX5 1).2.1 (TX5 1).2.2.1 ∈ lw_tbl := List.mem_append_right _ (List.mem_append_left _ (List.mem_of_getElem? (i := 200) rfl))
set_option maxRecDepth 20000 in
theorem fl_X5_22 : LkF RX5 22 5 2 := ⟨_, rfl, by decide, Or.inl (List.mem_append_right _ (List.mem_append_left _ (List.mem_of_getElem? (i := 201) rfl)))⟩
set_option maxRecDepth 20000 in
theorem fw_X5_22 : Cond.fieldLink RX5 22 RX5 (TX5 2).2.1 (TX5 2).2.2.1 ∈ lw_tbl := List.mem_append_right _ (List.mem_append_left _ (List.mem_of_getElem? (i := 201) rfl))
set_option maxRecDepth 20000 in
theorem fl_X5_26 : LkF RX5 26 5 3 := ⟨_, rfl, by decide, Or.inl (List.mem_append_right _ (List.mem_append_left _ (List.mem_of_getElem? (i := 202) rfl)))⟩
set_option maxRecDepth 20000 in
theorem fw_X5_26 : Cond.fieldLink RX5 26 RX5 (TX5 3).2.1 (TX5 3).2.2.1 ∈ lw_tbl := List.mem_append_right _ (List.mem_append_left _ (List.mem_of_getElem? (i := 202) rfl))
set_option maxRecDepth 20000 in
theorem ml_X5_29 : LkM RX5 29 F_X8_open 1 := ⟨List.mem_append_right _ (List.mem_append_right _ (List.mem_append_right _ (List.mem_append_left _ (List.mem_of_getElem? (i := 103) rfl)))), by decide +kernel⟩
set_option maxRecDepth 20000 in
theorem ml_X5_35 : LkM RX5 35 F_X8_advance 0 := ⟨List.mem_append_right _ (List.mem_append_right _ (List.mem_append_right _ (List.mem_append_left _ (List.mem_of_getElem? (i := 107) rfl)))), by decide +kernel⟩
set_option maxRecDepth 20000 in
theorem ml_X5_38 : LkM RX5 38 F_X8_isEnd 0 := ⟨List.mem_append_right _ (List.mem_append_right _ (List.mem_append_right _ (List.mem_append_left _ (List.mem_of_getElem? (i := 181) rfl)))), by decide +kernel⟩
set_option maxRecDepth 20000 in
theorem fl_X5_42 : LkF RX5 42 8 7 := ⟨_, rfl, by decide, Or.inr ⟨"RedWhite", List.mem_append_right _ (List.mem_append_left _ (List.mem_of_getElem? (i := 49) rfl))⟩⟩
set_option maxRecDepth 20000 in
theorem ml_X5_46 : LkM RX5 46 F_X5_readColour 0 := ⟨List.mem_append_right _ (List.mem_append_right _ (List.mem_append_right _ (List.mem_append_left _ (List.mem_of_getElem? (i := 185) rfl)))), by decide +kernel⟩
set_option maxRecDepth 20000 in
theorem ml_X5_49 : LkM RX5 49 F_X5_readEnds 0 := ⟨List.mem_append_right _ (List.mem_append_right _ (List.mem_append_right _ (List.mem_append_left _ (List.mem_of_getElem? (i := 224) rfl)))), by decide +kernel⟩
set_option maxRecDepth 20000 in
theorem ml_X5_52 : LkM RX5 52 F_X5_readLand 0 := ⟨List.mem_append_right _ (List.mem_append_right _ (List.mem_append_right _ (List.mem_append_left _ (List.mem_of_getElem? (i := 229) rfl)))), by decide +kernel⟩
set_option maxRecDepth 20000 in
theorem ml_X5_55 : LkM RX5 55 F_X5_readPlayer 0 := ⟨List.mem_append_right _ (List.mem_append_right _ (List.mem_append_right _ (List.mem_append_right _ (List.mem_append_left _ (List.mem_of_getElem? (i := 5) rfl))))), by decide +kernel⟩
set_option maxRecDepth 20000 in
theorem ml_X5_58 : LkM RX5 58 F_X5_readGoal 0 := ⟨List.mem_append_right _ (List.mem_append_right _ (List.mem_append_right _ (List.mem_append_right _ (List.mem_append_left _ (List.mem_of_getElem? (i := 9) rfl))))), by decide +kernel⟩
set_option maxRecDepth 20000 in
theorem ml_X5_61 : LkM RX5 61 F_X5_readCars 0 := ⟨List.mem_append_right _ (List.mem_append_right _ (List.mem_append_right _ (List.mem_append_right _ (List.mem_append_left _ (List.mem_of_getElem? (i := 13) rfl))))), by decide +kernel⟩
set_option maxRecDepth 20000 in
theorem ml_X5_64 : LkM RX5 64 F_X5_readChange 0 := ⟨List.mem_append_right _ (List.mem_append_right _ (List.mem_append_right _ (List.mem_append_right _ (List.mem_append_left _ (List.mem_of_getElem? (i := 17) rfl))))), by decide +kernel⟩
set_option maxRecDepth 20000 in
theorem ml_X5_67 : LkM RX5 67 F_X8_refuse 1 := ⟨List.mem_append_right _ (List.mem_append_right _ (List.mem_append_right _ (List.mem_append_left _ (List.mem_of_getElem? (i := 189) rfl)))), by decide +kernel⟩
set_option maxRecDepth 20000 in
theorem ml_X5_71 : LkM RX5 71 F_X5_readClosing 0 := ⟨List.mem_append_right _ (List.mem_append_right _ (List.mem_append_right _ (List.mem_append_right _ (List.mem_append_left _ (List.mem_of_getElem? (i := 21) rfl))))), by decide +kernel⟩
set_option maxRecDepth 20000 in
theorem ml_X5_74 : LkM RX5 74 F_X8_isMark 1 := ⟨List.mem_append_right _ (List.mem_append_right _ (List.mem_append_right _ (List.mem_append_left _ (List.mem_of_getElem? (i := 233) rfl)))), by decide +kernel⟩
set_option maxRecDepth 20000 in
theorem fl_X5_78 : LkF RX5 78 4 14 := ⟨_, rfl, by decide, Or.inr ⟨"RedWhite", List.mem_append_right _ (List.mem_append_left _ (List.mem_of_getElem? (i := 163) rfl))⟩⟩
set_option maxRecDepth 20000 in
theorem fl_X5_81 : LkF RX5 81 4 8 := ⟨_, rfl, by decide, Or.inr ⟨"RedWhite", List.mem_append_right _ (List.mem_append_left _ (List.mem_of_getElem? (i := 135) rfl))⟩⟩
set_option maxRecDepth 20000 in
theorem ml_X5_84 : LkM RX5 84 F_X5_readNewName 0 := ⟨List.mem_append_right _ (List.mem_append_right _ (List.mem_append_right _ (List.mem_append_left _ (List.mem_of_getElem? (i := 193) rfl)))), by decide +kernel⟩
set_option maxRecDepth 20000 in
theorem fl_X5_87 : LkF RX5 87 4 0 := ⟨_, rfl, by decide, Or.inr ⟨"RedWhite", List.mem_append_right _ (List.mem_append_left _ (List.mem_of_getElem? (i := 100) rfl))⟩⟩
set_option maxRecDepth 20000 in
theorem fl_X5_91 : LkF RX5 91 8 8 := ⟨_, rfl, by decide, Or.inr ⟨"RedWhite", List.mem_append_right _ (List.mem_append_left _ (List.mem_of_getElem? (i := 54) rfl))⟩⟩
set_option maxRecDepth 20000 in
theorem ml_X5_95 : LkM RX5 95 F_X5_readNumber 2 := ⟨List.mem_append_right _ (List.mem_append_right _ (List.mem_append_right _ (List.mem_append_left _ (List.mem_of_getElem? (i := 216) rfl)))), by decide +kernel⟩
set_option maxRecDepth 20000 in
theorem fl_X5_99 : LkF RX5 99 4 1 := ⟨_, rfl, by decide, Or.inr ⟨"RedWhite", List.mem_append_right _ (List.mem_append_left _ (List.mem_of_getElem? (i := 102) rfl))⟩⟩
set_option maxRecDepth 20000 in
theorem fl_X5_103 : LkF RX5 103 8 6 := ⟨_, rfl, by decide, Or.inr ⟨"RedWhite", List.mem_append_right _ (List.mem_append_left _ (List.mem_of_getElem? (i := 46) rfl))⟩⟩
set_option maxRecDepth 20000 in
theorem ml_X5_106 : LkM RX5 106 F_X8_isName 0 := ⟨List.mem_append_right _ (List.mem_append_right _ (List.mem_append_right _ (List.mem_append_left _ (List.mem_of_getElem? (i := 197) rfl)))), by decide +kernel⟩
set_option maxRecDepth 20000 in
theorem ml_X5_109 : LkM RX5 109 F_X4_colourNamed 1 := ⟨List.mem_append_right _ (List.mem_append_right _ (List.mem_append_right _ (List.mem_append_left _ (List.mem_of_getElem? (i := 228) rfl)))), by decide +kernel⟩
set_option maxRecDepth 20000 in
theorem fl_X5_113 : LkF RX5 113 4 2 := ⟨_, rfl, by decide, Or.inr ⟨"RedWhite", List.mem_append_right _ (List.mem_append_left _ (List.mem_of_getElem? (i := 109) rfl))⟩⟩
set_option maxRecDepth 20000 in
theorem fl_X5_117 : LkF RX5 117 4 9 := ⟨_, rfl, by decide, Or.inr ⟨"RedWhite", List.mem_append_right _ (List.mem_append_left _ (List.mem_of_getElem? (i := 138) rfl))⟩⟩
set_option maxRecDepth 20000 in
theorem fl_X5_120 : LkF RX5 120 4 3 := ⟨_, rfl, by decide, Or.inr ⟨"RedWhite", List.mem_append_right _ (List.mem_append_left _ (List.mem_of_getElem? (i := 114) rfl))⟩⟩
set_option maxRecDepth 20000 in
theorem fl_X5_123 : LkF RX5 123 4 4 := ⟨_, rfl, by decide, Or.inr ⟨"RedWhite", List.mem_append_right _ (List.mem_append_left _ (List.mem_of_getElem? (i := 117) rfl))⟩⟩
set_option maxRecDepth 20000 in
theorem fl_X5_126 : LkF RX5 126 4 5 := ⟨_, rfl, by decide, Or.inr ⟨"RedWhite", List.mem_append_right _ (List.mem_append_left _ (List.mem_of_getElem? (i := 121) rfl))⟩⟩
set_option maxRecDepth 20000 in
theorem ml_X5_130 : LkM RX5 130 F_X5_readShare 1 := ⟨List.mem_append_right _ (List.mem_append_right _ (List.mem_append_right _ (List.mem_append_left _ (List.mem_of_getElem? (i := 237) rfl)))), by decide +kernel⟩
set_option maxRecDepth 20000 in
theorem ml_X5_134 : LkM RX5 134 F_X5_endLand 0 := ⟨List.mem_append_right _ (List.mem_append_right _ (List.mem_append_right _ (List.mem_append_right _ (List.mem_append_left _ (List.mem_of_getElem? (i := 1) rfl))))), by decide +kernel⟩
set_option maxRecDepth 20000 in
theorem fl_X5_137 : LkF RX5 137 4 10 := ⟨_, rfl, by decide, Or.inr ⟨"RedWhite", List.mem_append_right _ (List.mem_append_left _ (List.mem_of_getElem? (i := 145) rfl))⟩⟩
set_option maxRecDepth 20000 in
theorem fl_X5_140 : LkF RX5 140 4 6 := ⟨_, rfl, by decide, Or.inr ⟨"RedWhite", List.mem_append_right _ (List.mem_append_left _ (List.mem_of_getElem? (i := 126) rfl))⟩⟩
set_option maxRecDepth 20000 in
theorem fl_X5_143 : LkF RX5 143 4 7 := ⟨_, rfl, by decide, Or.inr ⟨"RedWhite", List.mem_append_right _ (List.mem_append_left _ (List.mem_of_getElem? (i := 132) rfl))⟩⟩
set_option maxRecDepth 20000 in
theorem fl_X5_146 : LkF RX5 146 4 11 := ⟨_, rfl, by decide, Or.inr ⟨"RedWhite", List.mem_append_right _ (List.mem_append_left _ (List.mem_of_getElem? (i := 152) rfl))⟩⟩
set_option maxRecDepth 20000 in
theorem fl_X5_149 : LkF RX5 149 4 12 := ⟨_, rfl, by decide, Or.inr ⟨"RedWhite", List.mem_append_right _ (List.mem_append_left _ (List.mem_of_getElem? (i := 158) rfl))⟩⟩
set_option maxRecDepth 20000 in
theorem fl_X5_152 : LkF RX5 152 4 13 := ⟨_, rfl, by decide, Or.inr ⟨"RedWhite", List.mem_append_right _ (List.mem_append_left _ (List.mem_of_getElem? (i := 160) rfl))⟩⟩
set_option maxRecDepth 20000 in
theorem ml_X5_155 : LkM RX5 155 F_X4_tells 1 := ⟨List.mem_append_right _ (List.mem_append_right _ (List.mem_append_right _ (List.mem_append_left _ (List.mem_of_getElem? (i := 201) rfl)))), by decide +kernel⟩
set_option maxRecDepth 20000 in
theorem ml_X5_159 : LkM RX5 159 F_X8_isNumber 0 := ⟨List.mem_append_right _ (List.mem_append_right _ (List.mem_append_right _ (List.mem_append_left _ (List.mem_of_getElem? (i := 220) rfl)))), by decide +kernel⟩
set_option maxRecDepth 20000 in
theorem fl_X6_11 : LkF RX6 11 6 0 := ⟨_, rfl, by decide, Or.inl (List.mem_append_right _ (List.mem_append_right _ (List.mem_append_left _ (List.mem_of_getElem? (i := 7) rfl))))⟩
set_option maxRecDepth 20000 in
theorem fw_X6_11 : Cond.fieldLink RX6 11 RX6 (TX6 0).2.1 (TX6 0).2.2.1 ∈ lw_tbl := List.mem_append_right _ (List.mem_append_right _ (List.mem_append_left _ (List.mem_of_getElem? (i := 7) rfl)))
set_option maxRecDepth 20000 in
theorem fl_X6_15 : LkF RX6 15 6 1 := ⟨_, rfl, by decide, Or.inl (List.mem_append_right _ (List.mem_append_right _ (List.mem_append_left _ (List.mem_of_getElem? (i := 8) rfl))))⟩
set_option maxRecDepth 20000 in
theorem fw_X6_15 : Cond.fieldLink RX6 15 RX6 (TX6 1).2.1 (TX6 1).2.2.1 ∈ lw_tbl := List.mem_append_right _ (List.mem_append_right _ (List.mem_append_left _ (List.mem_of_getElem? (i := 8) rfl)))
set_option maxRecDepth 20000 in
theorem fl_X6_18 : LkF RX6 18 6 2 := ⟨_, rfl, by decide, Or.inl (List.mem_append_right _ (List.mem_append_right _ (List.mem_append_left _ (List.mem_of_getElem? (i := 9) rfl))))⟩
set_option maxRecDepth 20000 in
theorem fw_X6_18 : Cond.fieldLink RX6 18 RX6 (TX6 2).2.1 (TX6 2).2.2.1 ∈ lw_tbl := List.mem_append_right _ (List.mem_append_right _ (List.mem_append_left _ (List.mem_of_getElem? (i := 9) rfl)))
set_option maxRecDepth 20000 in
theorem fl_X6_21 : LkF RX6 21 6 3 := ⟨_, rfl, by decide, Or.inl (List.mem_append_right _ (List.mem_append_right _ (List.mem_append_left _ (List.mem_of_getElem? (i := 10) rfl))))⟩
set_option maxRecDepth 20000 in
theorem fw_X6_21 : Cond.fieldLink RX6 21 RX6 (TX6 3).2.1 (TX6 3).2.2.1 ∈ lw_tbl := List.mem_append_right _ (List.mem_append_right _ (List.mem_append_left _ (List.mem_of_getElem? (i := 10) rfl)))
set_option maxRecDepth 20000 in
theorem ml_X6_25 : LkM RX6 25 F_X6_oneHolds 3 := ⟨List.mem_append_right _ (List.mem_append_right _ (List.mem_append_right _ (List.mem_append_right _ (List.mem_append_right _ (List.mem_append_right _ (List.mem_append_left _ (List.mem_of_getElem? (i := 45) rfl))))))), by decide +kernel⟩
set_option maxRecDepth 20000 in
theorem ml_X6_29 : LkM RX6 29 F_X9_isAhead 1 := ⟨List.mem_append_right _ (List.mem_append_right _ (List.mem_append_right _ (List.mem_append_right _ (List.mem_append_right _ (List.mem_append_right _ (List.mem_append_left _ (List.mem_of_getElem? (i := 49) rfl))))))), by decide +kernel⟩
set_option maxRecDepth 20000 in
theorem ml_X6_35 : LkM RX6 35 F_X9_winner 0 := ⟨List.mem_append_right _ (List.mem_append_right _ (List.mem_append_right _ (List.mem_append_right _ (List.mem_append_right _ (List.mem_append_right _ (List.mem_append_left _ (List.mem_of_getElem? (i := 53) rfl))))))), by decide +kernel⟩
set_option maxRecDepth 20000 in
theorem fl_X6_39 : LkF RX6 39 9 4 := ⟨_, rfl, by decide, Or.inr ⟨"RedWhite", List.mem_append_right _ (List.mem_append_right _ (List.mem_append_left _ (List.mem_of_getElem? (i := 58) rfl)))⟩⟩
set_option maxRecDepth 20000 in
theorem fl_X6_42 : LkF RX6 42 9 5 := ⟨_, rfl, by decide, Or.inr ⟨"RedWhite", List.mem_append_right _ (List.mem_append_right _ (List.mem_append_left _ (List.mem_of_getElem? (i := 61) rfl)))⟩⟩
set_option maxRecDepth 20000 in
theorem fl_X6_46 : LkF RX6 46 9 6 := ⟨_, rfl, by decide, Or.inr ⟨"RedWhite", List.mem_append_right _ (List.mem_append_right _ (List.mem_append_left _ (List.mem_of_getElem? (i := 66) rfl)))⟩⟩
set_option maxRecDepth 20000 in
theorem ml_X6_49 : LkM RX6 49 F_X6_compares 2 := ⟨List.mem_append_right _ (List.mem_append_right _ (List.mem_append_right _ (List.mem_append_right _ (List.mem_append_right _ (List.mem_append_right _ (List.mem_append_left _ (List.mem_of_getElem? (i := 54) rfl))))))), by decide +kernel⟩
set_option maxRecDepth 20000 in
theorem fl_X6_53 : LkF RX6 53 9 0 := ⟨_, rfl, by decide, Or.inr ⟨"RedWhite", List.mem_append_right _ (List.mem_append_right _ (List.mem_append_left _ (List.mem_of_getElem? (i := 43) rfl)))⟩⟩
set_option maxRecDepth 20000 in
theorem fl_X6_57 : LkF RX6 57 4 7 := ⟨_, rfl, by decide, Or.inr ⟨"RedWhite", List.mem_append_right _ (List.mem_append_left _ (List.mem_of_getElem? (i := 130) rfl))⟩⟩
set_option maxRecDepth 20000 in
theorem fl_X6_62 : LkF RX6 62 4 11 := ⟨_, rfl, by decide, Or.inr ⟨"RedWhite", List.mem_append_right _ (List.mem_append_left _ (List.mem_of_getElem? (i := 149) rfl))⟩⟩
set_option maxRecDepth 20000 in
theorem mn_X7_11 : Cond.methodLinkNest RX7 11 (fy F_X6_init) "RedWhite" ∈ lw_tbl := List.mem_append_right _ (List.mem_append_right _ (List.mem_append_left _ (List.mem_of_getElem? (i := 3) rfl)))
set_option maxRecDepth 20000 in
theorem fl_X7_12 : LkF RX7 12 7 1 := ⟨_, rfl, by decide, Or.inl (List.mem_append_right _ (List.mem_append_right _ (List.mem_append_left _ (List.mem_of_getElem? (i := 25) rfl))))⟩
set_option maxRecDepth 20000 in
theorem fw_X7_12 : Cond.fieldLink RX7 12 RX7 (TX7 1).2.1 (TX7 1).2.2.1 ∈ lw_tbl := List.mem_append_right _ (List.mem_append_right _ (List.mem_append_left _ (List.mem_of_getElem? (i := 25) rfl)))
set_option maxRecDepth 20000 in
theorem fl_X7_18 : LkF RX7 18 7 0 := ⟨_, rfl, by decide, Or.inl (List.mem_append_right _ (List.mem_append_right _ (List.mem_append_left _ (List.mem_of_getElem? (i := 24) rfl))))⟩
set_option maxRecDepth 20000 in
theorem fw_X7_18 : Cond.fieldLink RX7 18 RX7 (TX7 0).2.1 (TX7 0).2.2.1 ∈ lw_tbl := List.mem_append_right _ (List.mem_append_right _ (List.mem_append_left _ (List.mem_of_getElem? (i := 24) rfl)))
set_option maxRecDepth 20000 in
theorem ml_X7_22 : LkM RX7 22 F_X8_open 1 := ⟨List.mem_append_right _ (List.mem_append_right _ (List.mem_append_right _ (List.mem_append_right _ (List.mem_append_right _ (List.mem_append_right _ (List.mem_append_left _ (List.mem_of_getElem? (i := 1) rfl))))))), by decide +kernel⟩
set_option maxRecDepth 20000 in
theorem ml_X7_28 : LkM RX7 28 F_X8_advance 0 := ⟨List.mem_append_right _ (List.mem_append_right _ (List.mem_append_right _ (List.mem_append_right _ (List.mem_append_right _ (List.mem_append_right _ (List.mem_append_left _ (List.mem_of_getElem? (i := 2) rfl))))))), by decide +kernel⟩
set_option maxRecDepth 20000 in
theorem ml_X7_31 : LkM RX7 31 F_X7_readCond 2 := ⟨List.mem_append_right _ (List.mem_append_right _ (List.mem_append_right _ (List.mem_append_right _ (List.mem_append_right _ (List.mem_append_right _ (List.mem_append_left _ (List.mem_of_getElem? (i := 3) rfl))))))), by decide +kernel⟩
set_option maxRecDepth 20000 in
theorem ml_X7_35 : LkM RX7 35 F_X8_isEnd 0 := ⟨List.mem_append_right _ (List.mem_append_right _ (List.mem_append_right _ (List.mem_append_right _ (List.mem_append_right _ (List.mem_append_right _ (List.mem_append_left _ (List.mem_of_getElem? (i := 36) rfl))))))), by decide +kernel⟩
set_option maxRecDepth 20000 in
theorem ml_X7_39 : LkM RX7 39 F_X8_refuse 1 := ⟨List.mem_append_right _ (List.mem_append_right _ (List.mem_append_right _ (List.mem_append_right _ (List.mem_append_right _ (List.mem_append_right _ (List.mem_append_left _ (List.mem_of_getElem? (i := 12) rfl))))))), by decide +kernel⟩
set_option maxRecDepth 20000 in
theorem ml_X7_43 : LkM RX7 43 F_X7_readOne 2 := ⟨List.mem_append_right _ (List.mem_append_right _ (List.mem_append_right _ (List.mem_append_right _ (List.mem_append_right _ (List.mem_append_right _ (List.mem_append_left _ (List.mem_of_getElem? (i := 7) rfl))))))), by decide +kernel⟩
set_option maxRecDepth 20000 in
theorem ml_X7_46 : LkM RX7 46 F_X6_add 3 := ⟨List.mem_append_right _ (List.mem_append_right _ (List.mem_append_right _ (List.mem_append_right _ (List.mem_append_right _ (List.mem_append_right _ (List.mem_append_left _ (List.mem_of_getElem? (i := 17) rfl))))))), by decide +kernel⟩
set_option maxRecDepth 20000 in
theorem fl_X7_50 : LkF RX7 50 8 7 := ⟨_, rfl, by decide, Or.inr ⟨"RedWhite", List.mem_append_right _ (List.mem_append_left _ (List.mem_of_getElem? (i := 51) rfl))⟩⟩
set_option maxRecDepth 20000 in
theorem ml_X7_54 : LkM RX7 54 F_X8_isMark 1 := ⟨List.mem_append_right _ (List.mem_append_right _ (List.mem_append_right _ (List.mem_append_right _ (List.mem_append_right _ (List.mem_append_right _ (List.mem_append_left _ (List.mem_of_getElem? (i := 11) rfl))))))), by decide +kernel⟩
set_option maxRecDepth 20000 in
theorem fl_X7_58 : LkF RX7 58 6 4 := ⟨_, rfl, by decide, Or.inr ⟨"RedWhite", List.mem_append_right _ (List.mem_append_right _ (List.mem_append_left _ (List.mem_of_getElem? (i := 11) rfl)))⟩⟩
set_option maxRecDepth 20000 in
theorem ml_X7_61 : LkM RX7 61 F_X7_readClosing 0 := ⟨List.mem_append_right _ (List.mem_append_right _ (List.mem_append_right _ (List.mem_append_right _ (List.mem_append_right _ (List.mem_append_right _ (List.mem_append_left _ (List.mem_of_getElem? (i := 13) rfl))))))), by decide +kernel⟩
set_option maxRecDepth 20000 in
theorem ml_X7_64 : LkM RX7 64 F_X7_readHas 1 := ⟨List.mem_append_right _ (List.mem_append_right _ (List.mem_append_right _ (List.mem_append_right _ (List.mem_append_right _ (List.mem_append_right _ (List.mem_append_left _ (List.mem_of_getElem? (i := 21) rfl))))))), by decide +kernel⟩
set_option maxRecDepth 20000 in
theorem ml_X7_68 : LkM RX7 68 F_X7_readComparison 1 := ⟨List.mem_append_right _ (List.mem_append_right _ (List.mem_append_right _ (List.mem_append_right _ (List.mem_append_right _ (List.mem_append_right _ (List.mem_append_left _ (List.mem_of_getElem? (i := 27) rfl))))))), by decide +kernel⟩
set_option maxRecDepth 20000 in
theorem ml_X7_71 : LkM RX7 71 F_X8_isName 0 := ⟨List.mem_append_right _ (List.mem_append_right _ (List.mem_append_right _ (List.mem_append_right _ (List.mem_append_right _ (List.mem_append_right _ (List.mem_append_left _ (List.mem_of_getElem? (i := 25) rfl))))))), by decide +kernel⟩
set_option maxRecDepth 20000 in
theorem fl_X7_74 : LkF RX7 74 8 8 := ⟨_, rfl, by decide, Or.inr ⟨"RedWhite", List.mem_append_right _ (List.mem_append_left _ (List.mem_of_getElem? (i := 55) rfl))⟩⟩
set_option maxRecDepth 20000 in
theorem ml_X7_78 : LkM RX7 78 F_X4_colourNamed 1 := ⟨List.mem_append_right _ (List.mem_append_right _ (List.mem_append_right _ (List.mem_append_right _ (List.mem_append_right _ (List.mem_append_right _ (List.mem_append_left _ (List.mem_of_getElem? (i := 26) rfl))))))), by decide +kernel⟩
set_option maxRecDepth 20000 in
theorem ml_X7_84 : LkM RX7 84 F_X8_isComparing 0 := ⟨List.mem_append_right _ (List.mem_append_right _ (List.mem_append_right _ (List.mem_append_right _ (List.mem_append_right _ (List.mem_append_right _ (List.mem_append_left _ (List.mem_of_getElem? (i := 31) rfl))))))), by decide +kernel⟩
set_option maxRecDepth 20000 in
theorem fl_X7_87 : LkF RX7 87 8 6 := ⟨_, rfl, by decide, Or.inr ⟨"RedWhite", List.mem_append_right _ (List.mem_append_left _ (List.mem_of_getElem? (i := 48) rfl))⟩⟩
set_option maxRecDepth 20000 in
theorem ml_X7_90 : LkM RX7 90 F_X8_isNumber 0 := ⟨List.mem_append_right _ (List.mem_append_right _ (List.mem_append_right _ (List.mem_append_right _ (List.mem_append_right _ (List.mem_append_right _ (List.mem_append_left _ (List.mem_of_getElem? (i := 35) rfl))))))), by decide +kernel⟩
set_option maxRecDepth 20000 in
theorem fl_X8_11 : LkF RX8 11 8 0 := ⟨_, rfl, by decide, Or.inl (List.mem_append_right _ (List.mem_append_left _ (List.mem_of_getElem? (i := 39) rfl)))⟩
set_option maxRecDepth 20000 in
theorem fw_X8_11 : Cond.fieldLink RX8 11 RX8 (TX8 0).2.1 (TX8 0).2.2.1 ∈ lw_tbl := List.mem_append_right _ (List.mem_append_left _ (List.mem_of_getElem? (i := 39) rfl))
set_option maxRecDepth 20000 in
theorem fl_X8_15 : LkF RX8 15 8 1 := ⟨_, rfl, by decide, Or.inl (List.mem_append_right _ (List.mem_append_left _ (List.mem_of_getElem? (i := 40) rfl)))⟩
set_option maxRecDepth 20000 in
theorem fw_X8_15 : Cond.fieldLink RX8 15 RX8 (TX8 1).2.1 (TX8 1).2.2.1 ∈ lw_tbl := List.mem_append_right _ (List.mem_append_left _ (List.mem_of_getElem? (i := 40) rfl))
set_option maxRecDepth 20000 in
theorem fl_X8_19 : LkF RX8 19 8 2 := ⟨_, rfl, by decide, Or.inl (List.mem_append_right _ (List.mem_append_left _ (List.mem_of_getElem? (i := 42) rfl)))⟩
set_option maxRecDepth 20000 in
theorem fw_X8_19 : Cond.fieldLink RX8 19 RX8 (TX8 2).2.1 (TX8 2).2.2.1 ∈ lw_tbl := List.mem_append_right _ (List.mem_append_left _ (List.mem_of_getElem? (i := 42) rfl))
set_option maxRecDepth 20000 in
theorem fl_X8_22 : LkF RX8 22 8 3 := ⟨_, rfl, by decide, Or.inl (List.mem_append_right _ (List.mem_append_left _ (List.mem_of_getElem? (i := 43) rfl)))⟩
set_option maxRecDepth 20000 in
theorem fw_X8_22 : Cond.fieldLink RX8 22 RX8 (TX8 3).2.1 (TX8 3).2.2.1 ∈ lw_tbl := List.mem_append_right _ (List.mem_append_left _ (List.mem_of_getElem? (i := 43) rfl))
set_option maxRecDepth 20000 in
theorem fl_X8_25 : LkF RX8 25 8 9 := ⟨_, rfl, by decide, Or.inl (List.mem_append_right _ (List.mem_append_left _ (List.mem_of_getElem? (i := 58) rfl)))⟩
set_option maxRecDepth 20000 in
theorem fw_X8_25 : Cond.fieldLink RX8 25 RX8 (TX8 9).2.1 (TX8 9).2.2.1 ∈ lw_tbl := List.mem_append_right _ (List.mem_append_left _ (List.mem_of_getElem? (i := 58) rfl))
set_option maxRecDepth 20000 in
theorem fl_X8_28 : LkF RX8 28 8 10 := ⟨_, rfl, by decide, Or.inl (List.mem_append_right _ (List.mem_append_left _ (List.mem_of_getElem? (i := 60) rfl)))⟩
set_option maxRecDepth 20000 in
theorem fw_X8_28 : Cond.fieldLink RX8 28 RX8 (TX8 10).2.1 (TX8 10).2.2.1 ∈ lw_tbl := List.mem_append_right _ (List.mem_append_left _ (List.mem_of_getElem? (i := 60) rfl))
set_option maxRecDepth 20000 in
theorem ml_X8_31 : LkM RX8 31 F_X8_byteAt 1 := ⟨List.mem_append_right _ (List.mem_append_right _ (List.mem_append_right _ (List.mem_append_left _ (List.mem_of_getElem? (i := 111) rfl)))), by decide +kernel⟩
set_option maxRecDepth 20000 in
theorem ml_X8_35 : LkM RX8 35 F_X8_isBlank 1 := ⟨List.mem_append_right _ (List.mem_append_right _ (List.mem_append_right _ (List.mem_append_left _ (List.mem_of_getElem? (i := 115) rfl)))), by decide +kernel⟩
set_option maxRecDepth 20000 in
theorem fl_X8_39 : LkF RX8 39 8 5 := ⟨_, rfl, by decide, Or.inl (List.mem_append_right _ (List.mem_append_left _ (List.mem_of_getElem? (i := 45) rfl)))⟩
set_option maxRecDepth 20000 in
theorem fw_X8_39 : Cond.fieldLink RX8 39 RX8 (TX8 5).2.1 (TX8 5).2.2.1 ∈ lw_tbl := List.mem_append_right _ (List.mem_append_left _ (List.mem_of_getElem? (i := 45) rfl))
set_option maxRecDepth 20000 in
theorem fl_X8_42 : LkF RX8 42 8 7 := ⟨_, rfl, by decide, Or.inl (List.mem_append_right _ (List.mem_append_left _ (List.mem_of_getElem? (i := 52) rfl)))⟩
set_option maxRecDepth 20000 in
theorem fw_X8_42 : Cond.fieldLink RX8 42 RX8 (TX8 7).2.1 (TX8 7).2.2.1 ∈ lw_tbl := List.mem_append_right _ (List.mem_append_left _ (List.mem_of_getElem? (i := 52) rfl))
set_option maxRecDepth 20000 in
theorem fl_X8_45 : LkF RX8 45 8 8 := ⟨_, rfl, by decide, Or.inl (List.mem_append_right _ (List.mem_append_left _ (List.mem_of_getElem? (i := 56) rfl)))⟩
set_option maxRecDepth 20000 in
theorem fw_X8_45 : Cond.fieldLink RX8 45 RX8 (TX8 8).2.1 (TX8 8).2.2.1 ∈ lw_tbl := List.mem_append_right _ (List.mem_append_left _ (List.mem_of_getElem? (i := 56) rfl))
set_option maxRecDepth 20000 in
theorem fl_X8_49 : LkF RX8 49 8 6 := ⟨_, rfl, by decide, Or.inl (List.mem_append_right _ (List.mem_append_left _ (List.mem_of_getElem? (i := 47) rfl)))⟩
set_option maxRecDepth 20000 in
theorem fw_X8_49 : Cond.fieldLink RX8 49 RX8 (TX8 6).2.1 (TX8 6).2.2.1 ∈ lw_tbl := List.mem_append_right _ (List.mem_append_left _ (List.mem_of_getElem? (i := 47) rfl))
set_option maxRecDepth 20000 in
theorem fl_X8_52 : LkF RX8 52 8 4 := ⟨_, rfl, by decide, Or.inl (List.mem_append_right _ (List.mem_append_left _ (List.mem_of_getElem? (i := 44) rfl)))⟩
set_option maxRecDepth 20000 in
theorem fw_X8_52 : Cond.fieldLink RX8 52 RX8 (TX8 4).2.1 (TX8 4).2.2.1 ∈ lw_tbl := List.mem_append_right _ (List.mem_append_left _ (List.mem_of_getElem? (i := 44) rfl))
set_option maxRecDepth 20000 in
theorem ml_X8_55 : LkM RX8 55 F_X8_goesOn 1 := ⟨List.mem_append_right _ (List.mem_append_right _ (List.mem_append_right _ (List.mem_append_left _ (List.mem_of_getElem? (i := 118) rfl)))), by decide +kernel⟩
set_option maxRecDepth 20000 in
theorem ml_X8_58 : LkM RX8 58 F_X8_readRun 0 := ⟨List.mem_append_right _ (List.mem_append_right _ (List.mem_append_right _ (List.mem_append_left _ (List.mem_of_getElem? (i := 121) rfl)))), by decide +kernel⟩
set_option maxRecDepth 20000 in
theorem ml_X8_61 : LkM RX8 61 F_X8_keyOf 1 := ⟨List.mem_append_right _ (List.mem_append_right _ (List.mem_append_right _ (List.mem_append_left _ (List.mem_of_getElem? (i := 126) rfl)))), by decide +kernel⟩
set_option maxRecDepth 20000 in
theorem ml_X8_65 : LkM RX8 65 F_X8_isMarkSign 1 := ⟨List.mem_append_right _ (List.mem_append_right _ (List.mem_append_right _ (List.mem_append_left _ (List.mem_of_getElem? (i := 178) rfl)))), by decide +kernel⟩
set_option maxRecDepth 20000 in
theorem kl_X8_68 : Cond.constantLong RX8 68 (32) ∈ lw_tbl := List.mem_append_right _ (List.mem_append_right _ (List.mem_append_right _ (List.mem_append_left _ (List.mem_of_getElem? (i := 125) rfl))))
set_option maxRecDepth 20000 in
theorem fl_X9_9 : LkF RX9 9 9 3 := ⟨_, rfl, by decide, Or.inl (List.mem_append_right _ (List.mem_append_right _ (List.mem_append_left _ (List.mem_of_getElem? (i := 53) rfl))))⟩
set_option maxRecDepth 20000 in
theorem fw_X9_9 : Cond.fieldLink RX9 9 RX9 (TX9 3).2.1 (TX9 3).2.2.1 ∈ lw_tbl := List.mem_append_right _ (List.mem_append_right _ (List.mem_append_left _ (List.mem_of_getElem? (i := 53) rfl)))
set_option maxRecDepth 20000 in
theorem fl_X9_15 : LkF RX9 15 9 4 := ⟨_, rfl, by decide, Or.inl (List.mem_append_right _ (List.mem_append_right _ (List.mem_append_left _ (List.mem_of_getElem? (i := 55) rfl))))⟩
set_option maxRecDepth 20000 in
theorem fw_X9_15 : Cond.fieldLink RX9 15 RX9 (TX9 4).2.1 (TX9 4).2.2.1 ∈ lw_tbl := List.mem_append_right _ (List.mem_append_right _ (List.mem_append_left _ (List.mem_of_getElem? (i := 55) rfl)))
set_option maxRecDepth 20000 in
theorem fl_X9_18 : LkF RX9 18 9 5 := ⟨_, rfl, by decide, Or.inl (List.mem_append_right _ (List.mem_append_right _ (List.mem_append_left _ (List.mem_of_getElem? (i := 60) rfl))))⟩
set_option maxRecDepth 20000 in
theorem fw_X9_18 : Cond.fieldLink RX9 18 RX9 (TX9 5).2.1 (TX9 5).2.2.1 ∈ lw_tbl := List.mem_append_right _ (List.mem_append_right _ (List.mem_append_left _ (List.mem_of_getElem? (i := 60) rfl)))
set_option maxRecDepth 20000 in
theorem fl_X9_22 : LkF RX9 22 9 6 := ⟨_, rfl, by decide, Or.inl (List.mem_append_right _ (List.mem_append_right _ (List.mem_append_left _ (List.mem_of_getElem? (i := 63) rfl))))⟩
set_option maxRecDepth 20000 in
theorem fw_X9_22 : Cond.fieldLink RX9 22 RX9 (TX9 6).2.1 (TX9 6).2.2.1 ∈ lw_tbl := List.mem_append_right _ (List.mem_append_right _ (List.mem_append_left _ (List.mem_of_getElem? (i := 63) rfl)))
set_option maxRecDepth 20000 in
theorem fl_X9_25 : LkF RX9 25 9 0 := ⟨_, rfl, by decide, Or.inl (List.mem_append_right _ (List.mem_append_right _ (List.mem_append_left _ (List.mem_of_getElem? (i := 39) rfl))))⟩
set_option maxRecDepth 20000 in
theorem fw_X9_25 : Cond.fieldLink RX9 25 RX9 (TX9 0).2.1 (TX9 0).2.2.1 ∈ lw_tbl := List.mem_append_right _ (List.mem_append_right _ (List.mem_append_left _ (List.mem_of_getElem? (i := 39) rfl)))
set_option maxRecDepth 20000 in
theorem fl_X9_29 : LkF RX9 29 9 1 := ⟨_, rfl, by decide, Or.inl (List.mem_append_right _ (List.mem_append_right _ (List.mem_append_left _ (List.mem_of_getElem? (i := 48) rfl))))⟩
set_option maxRecDepth 20000 in
theorem fw_X9_29 : Cond.fieldLink RX9 29 RX9 (TX9 1).2.1 (TX9 1).2.2.1 ∈ lw_tbl := List.mem_append_right _ (List.mem_append_right _ (List.mem_append_left _ (List.mem_of_getElem? (i := 48) rfl)))
set_option maxRecDepth 20000 in
theorem fl_X9_33 : LkF RX9 33 9 2 := ⟨_, rfl, by decide, Or.inl (List.mem_append_right _ (List.mem_append_right _ (List.mem_append_left _ (List.mem_of_getElem? (i := 49) rfl))))⟩
set_option maxRecDepth 20000 in
theorem fw_X9_33 : Cond.fieldLink RX9 33 RX9 (TX9 2).2.1 (TX9 2).2.2.1 ∈ lw_tbl := List.mem_append_right _ (List.mem_append_right _ (List.mem_append_left _ (List.mem_of_getElem? (i := 49) rfl)))
set_option maxRecDepth 20000 in
theorem fl_X9_36 : LkF RX9 36 4 7 := ⟨_, rfl, by decide, Or.inr ⟨"RedWhite", List.mem_append_right _ (List.mem_append_left _ (List.mem_of_getElem? (i := 128) rfl))⟩⟩
set_option maxRecDepth 20000 in
theorem fl_X9_47 : LkF RX9 47 4 10 := ⟨_, rfl, by decide, Or.inr ⟨"RedWhite", List.mem_append_right _ (List.mem_append_left _ (List.mem_of_getElem? (i := 141) rfl))⟩⟩
set_option maxRecDepth 20000 in
theorem fl_X9_56 : LkF RX9 56 4 4 := ⟨_, rfl, by decide, Or.inr ⟨"RedWhite", List.mem_append_right _ (List.mem_append_left _ (List.mem_of_getElem? (i := 118) rfl))⟩⟩
set_option maxRecDepth 20000 in
theorem fl_X9_59 : LkF RX9 59 4 5 := ⟨_, rfl, by decide, Or.inr ⟨"RedWhite", List.mem_append_right _ (List.mem_append_left _ (List.mem_of_getElem? (i := 122) rfl))⟩⟩
set_option maxRecDepth 20000 in
theorem mn_X9_62 : Cond.methodLinkNest RX9 62 (fy F_X11_kindOf) "RedWhite" ∈ lw_tbl := List.mem_append_right _ (List.mem_append_right _ (List.mem_append_right _ (List.mem_append_right _ (List.mem_append_left _ (List.mem_of_getElem? (i := 81) rfl)))))
set_option maxRecDepth 20000 in
theorem ml_X9_66 : LkM RX9 66 F_X4_rows 0 := ⟨List.mem_append_right _ (List.mem_append_right _ (List.mem_append_right _ (List.mem_append_right _ (List.mem_append_left _ (List.mem_of_getElem? (i := 150) rfl))))), by decide +kernel⟩
set_option maxRecDepth 20000 in
theorem ml_X9_70 : LkM RX9 70 F_X9_weightOf 1 := ⟨List.mem_append_right _ (List.mem_append_right _ (List.mem_append_right _ (List.mem_append_right _ (List.mem_append_left _ (List.mem_of_getElem? (i := 154) rfl))))), by decide +kernel⟩
set_option maxRecDepth 20000 in
theorem fl_X9_74 : LkF RX9 74 4 11 := ⟨_, rfl, by decide, Or.inr ⟨"RedWhite", List.mem_append_right _ (List.mem_append_left _ (List.mem_of_getElem? (i := 151) rfl))⟩⟩
set_option maxRecDepth 20000 in
theorem fl_X9_77 : LkF RX9 77 4 12 := ⟨_, rfl, by decide, Or.inr ⟨"RedWhite", List.mem_append_right _ (List.mem_append_left _ (List.mem_of_getElem? (i := 157) rfl))⟩⟩
set_option maxRecDepth 20000 in
theorem ml_X9_80 : LkM RX9 80 F_X9_atGoal 0 := ⟨List.mem_append_right _ (List.mem_append_right _ (List.mem_append_right _ (List.mem_append_right _ (List.mem_append_left _ (List.mem_of_getElem? (i := 77) rfl))))), by decide +kernel⟩
set_option maxRecDepth 20000 in
theorem fl_X9_83 : LkF RX9 83 4 2 := ⟨_, rfl, by decide, Or.inr ⟨"RedWhite", List.mem_append_right _ (List.mem_append_left _ (List.mem_of_getElem? (i := 111) rfl))⟩⟩
set_option maxRecDepth 20000 in
theorem ml_X9_86 : LkM RX9 86 F_X9_isOver 0 := ⟨List.mem_append_right _ (List.mem_append_right _ (List.mem_append_right _ (List.mem_append_right _ (List.mem_append_left _ (List.mem_of_getElem? (i := 86) rfl))))), by decide +kernel⟩
set_option maxRecDepth 20000 in
theorem mn_X9_90 : Cond.methodLinkNest RX9 90 (fy F_X11_soleLeader) "RedWhite" ∈ lw_tbl := List.mem_append_right _ (List.mem_append_right _ (List.mem_append_right _ (List.mem_append_right _ (List.mem_append_left _ (List.mem_of_getElem? (i := 87) rfl)))))
set_option maxRecDepth 20000 in
theorem ml_X9_94 : LkM RX9 94 F_X9_holderOf 1 := ⟨List.mem_append_right _ (List.mem_append_right _ (List.mem_append_right _ (List.mem_append_right _ (List.mem_append_left _ (List.mem_of_getElem? (i := 106) rfl))))), by decide +kernel⟩
set_option maxRecDepth 20000 in
theorem fl_X9_97 : LkF RX9 97 4 13 := ⟨_, rfl, by decide, Or.inr ⟨"RedWhite", List.mem_append_right _ (List.mem_append_left _ (List.mem_of_getElem? (i := 161) rfl))⟩⟩
set_option maxRecDepth 20000 in
theorem ml_X9_101 : LkM RX9 101 F_X9_mayTurn 1 := ⟨List.mem_append_right _ (List.mem_append_right _ (List.mem_append_right _ (List.mem_append_right _ (List.mem_append_left _ (List.mem_of_getElem? (i := 130) rfl))))), by decide +kernel⟩
set_option maxRecDepth 20000 in
theorem ml_X9_105 : LkM RX9 105 F_X9_weightsWith 1 := ⟨List.mem_append_right _ (List.mem_append_right _ (List.mem_append_right _ (List.mem_append_right _ (List.mem_append_left _ (List.mem_of_getElem? (i := 146) rfl))))), by decide +kernel⟩
set_option maxRecDepth 20000 in
theorem fl_X9_108 : LkF RX9 108 4 1 := ⟨_, rfl, by decide, Or.inr ⟨"RedWhite", List.mem_append_right _ (List.mem_append_left _ (List.mem_of_getElem? (i := 106) rfl))⟩⟩
set_option maxRecDepth 20000 in
theorem ki_X9_111 : Cond.constant RX9 111 (1103515245) ∈ lw_tbl := List.mem_append_right _ (List.mem_append_right _ (List.mem_append_right _ (List.mem_append_right _ (List.mem_append_right _ (List.mem_append_left _ (List.mem_of_getElem? (i := 176) rfl))))))
set_option maxRecDepth 20000 in
theorem ml_X9_112 : LkM RX9 112 F_X9_landDrawn 1 := ⟨List.mem_append_right _ (List.mem_append_right _ (List.mem_append_right _ (List.mem_append_right _ (List.mem_append_right _ (List.mem_append_left _ (List.mem_of_getElem? (i := 177) rfl)))))), by decide +kernel⟩
set_option maxRecDepth 20000 in
theorem ml_X9_115 : LkM RX9 115 F_X4_kindDrawn 2 := ⟨List.mem_append_right _ (List.mem_append_right _ (List.mem_append_right _ (List.mem_append_right _ (List.mem_append_right _ (List.mem_append_left _ (List.mem_of_getElem? (i := 181) rfl)))))), by decide +kernel⟩
set_option maxRecDepth 20000 in
theorem ml_X9_118 : LkM RX9 118 F_X9_doCome 1 := ⟨List.mem_append_right _ (List.mem_append_right _ (List.mem_append_right _ (List.mem_append_right _ (List.mem_append_right _ (List.mem_append_left _ (List.mem_of_getElem? (i := 185) rfl)))))), by decide +kernel⟩
set_option maxRecDepth 20000 in
theorem fl_X10_9 : LkF RX10 9 10 1 := ⟨_, rfl, by decide, Or.inl (List.mem_append_right _ (List.mem_append_right _ (List.mem_append_left _ (List.mem_of_getElem? (i := 199) rfl))))⟩
set_option maxRecDepth 20000 in
theorem fw_X10_9 : Cond.fieldLink RX10 9 RX10 (TX10 1).2.1 (TX10 1).2.2.1 ∈ lw_tbl := List.mem_append_right _ (List.mem_append_right _ (List.mem_append_left _ (List.mem_of_getElem? (i := 199) rfl)))
set_option maxRecDepth 20000 in
theorem fl_X10_15 : LkF RX10 15 10 2 := ⟨_, rfl, by decide, Or.inl (List.mem_append_right _ (List.mem_append_right _ (List.mem_append_left _ (List.mem_of_getElem? (i := 200) rfl))))⟩
set_option maxRecDepth 20000 in
theorem fw_X10_15 : Cond.fieldLink RX10 15 RX10 (TX10 2).2.1 (TX10 2).2.2.1 ∈ lw_tbl := List.mem_append_right _ (List.mem_append_right _ (List.mem_append_left _ (List.mem_of_getElem? (i := 200) rfl)))
set_option maxRecDepth 20000 in
theorem fl_X10_18 : LkF RX10 18 10 5 := ⟨_, rfl, by decide, Or.inl (List.mem_append_right _ (List.mem_append_right _ (List.mem_append_left _ (List.mem_of_getElem? (i := 205) rfl))))⟩
set_option maxRecDepth 20000 in
theorem fw_X10_18 : Cond.fieldLink RX10 18 RX10 (TX10 5).2.1 (TX10 5).2.2.1 ∈ lw_tbl := List.mem_append_right _ (List.mem_append_right _ (List.mem_append_left _ (List.mem_of_getElem? (i := 205) rfl)))
set_option maxRecDepth 20000 in
theorem fl_X10_21 : LkF RX10 21 10 7 := ⟨_, rfl, by decide, Or.inl (List.mem_append_right _ (List.mem_append_right _ (List.mem_append_left _ (List.mem_of_getElem? (i := 208) rfl))))⟩
set_option maxRecDepth 20000 in
theorem fw_X10_21 : Cond.fieldLink RX10 21 RX10 (TX10 7).2.1 (TX10 7).2.2.1 ∈ lw_tbl := List.mem_append_right _ (List.mem_append_right _ (List.mem_append_left _ (List.mem_of_getElem? (i := 208) rfl)))
set_option maxRecDepth 20000 in
theorem fl_X10_25 : LkF RX10 25 10 8 := ⟨_, rfl, by decide, Or.inl (List.mem_append_right _ (List.mem_append_right _ (List.mem_append_left _ (List.mem_of_getElem? (i := 209) rfl))))⟩
set_option maxRecDepth 20000 in
theorem fw_X10_25 : Cond.fieldLink RX10 25 RX10 (TX10 8).2.1 (TX10 8).2.2.1 ∈ lw_tbl := List.mem_append_right _ (List.mem_append_right _ (List.mem_append_left _ (List.mem_of_getElem? (i := 209) rfl)))
set_option maxRecDepth 20000 in
theorem fl_X10_28 : LkF RX10 28 10 10 := ⟨_, rfl, by decide, Or.inl (List.mem_append_right _ (List.mem_append_right _ (List.mem_append_left _ (List.mem_of_getElem? (i := 211) rfl))))⟩
set_option maxRecDepth 20000 in
theorem fw_X10_28 : Cond.fieldLink RX10 28 RX10 (TX10 10).2.1 (TX10 10).2.2.1 ∈ lw_tbl := List.mem_append_right _ (List.mem_append_right _ (List.mem_append_left _ (List.mem_of_getElem? (i := 211) rfl)))
set_option maxRecDepth 20000 in
theorem fl_X10_31 : LkF RX10 31 10 11 := ⟨_, rfl, by decide, Or.inl (List.mem_append_right _ (List.mem_append_right _ (List.mem_append_left _ (List.mem_of_getElem? (i := 212) rfl))))⟩
set_option maxRecDepth 20000 in
theorem fw_X10_31 : Cond.fieldLink RX10 31 RX10 (TX10 11).2.1 (TX10 11).2.2.1 ∈ lw_tbl := List.mem_append_right _ (List.mem_append_right _ (List.mem_append_left _ (List.mem_of_getElem? (i := 212) rfl)))
set_option maxRecDepth 20000 in
theorem fl_X10_34 : LkF RX10 34 10 12 := ⟨_, rfl, by decide, Or.inl (List.mem_append_right _ (List.mem_append_right _ (List.mem_append_left _ (List.mem_of_getElem? (i := 213) rfl))))⟩
set_option maxRecDepth 20000 in
theorem fw_X10_34 : Cond.fieldLink RX10 34 RX10 (TX10 12).2.1 (TX10 12).2.2.1 ∈ lw_tbl := List.mem_append_right _ (List.mem_append_right _ (List.mem_append_left _ (List.mem_of_getElem? (i := 213) rfl)))
set_option maxRecDepth 20000 in
theorem fl_X10_37 : LkF RX10 37 10 13 := ⟨_, rfl, by decide, Or.inl (List.mem_append_right _ (List.mem_append_right _ (List.mem_append_left _ (List.mem_of_getElem? (i := 214) rfl))))⟩
set_option maxRecDepth 20000 in
theorem fw_X10_37 : Cond.fieldLink RX10 37 RX10 (TX10 13).2.1 (TX10 13).2.2.1 ∈ lw_tbl := List.mem_append_right _ (List.mem_append_right _ (List.mem_append_left _ (List.mem_of_getElem? (i := 214) rfl)))
set_option maxRecDepth 20000 in
theorem fl_X10_40 : LkF RX10 40 10 14 := ⟨_, rfl, by decide, Or.inl (List.mem_append_right _ (List.mem_append_right _ (List.mem_append_left _ (List.mem_of_getElem? (i := 215) rfl))))⟩
set_option maxRecDepth 20000 in
theorem fw_X10_40 : Cond.fieldLink RX10 40 RX10 (TX10 14).2.1 (TX10 14).2.2.1 ∈ lw_tbl := List.mem_append_right _ (List.mem_append_right _ (List.mem_append_left _ (List.mem_of_getElem? (i := 215) rfl)))
set_option maxRecDepth 20000 in
theorem fl_X10_43 : LkF RX10 43 10 15 := ⟨_, rfl, by decide, Or.inl (List.mem_append_right _ (List.mem_append_right _ (List.mem_append_left _ (List.mem_of_getElem? (i := 216) rfl))))⟩
set_option maxRecDepth 20000 in
theorem fw_X10_43 : Cond.fieldLink RX10 43 RX10 (TX10 15).2.1 (TX10 15).2.2.1 ∈ lw_tbl := List.mem_append_right _ (List.mem_append_right _ (List.mem_append_left _ (List.mem_of_getElem? (i := 216) rfl)))
set_option maxRecDepth 20000 in
theorem fl_X10_49 : LkF RX10 49 10 16 := ⟨_, rfl, by decide, Or.inl (List.mem_append_right _ (List.mem_append_right _ (List.mem_append_left _ (List.mem_of_getElem? (i := 217) rfl))))⟩
set_option maxRecDepth 20000 in
theorem fw_X10_49 : Cond.fieldLink RX10 49 RX10 (TX10 16).2.1 (TX10 16).2.2.1 ∈ lw_tbl := List.mem_append_right _ (List.mem_append_right _ (List.mem_append_left _ (List.mem_of_getElem? (i := 217) rfl)))
set_option maxRecDepth 20000 in
theorem fl_X10_52 : LkF RX10 52 10 17 := ⟨_, rfl, by decide, Or.inl (List.mem_append_right _ (List.mem_append_right _ (List.mem_append_left _ (List.mem_of_getElem? (i := 218) rfl))))⟩
set_option maxRecDepth 20000 in
theorem fw_X10_52 : Cond.fieldLink RX10 52 RX10 (TX10 17).2.1 (TX10 17).2.2.1 ∈ lw_tbl := List.mem_append_right _ (List.mem_append_right _ (List.mem_append_left _ (List.mem_of_getElem? (i := 218) rfl)))
set_option maxRecDepth 20000 in
theorem fl_X10_55 : LkF RX10 55 10 18 := ⟨_, rfl, by decide, Or.inl (List.mem_append_right _ (List.mem_append_right _ (List.mem_append_left _ (List.mem_of_getElem? (i := 219) rfl))))⟩
set_option maxRecDepth 20000 in
theorem fw_X10_55 : Cond.fieldLink RX10 55 RX10 (TX10 18).2.1 (TX10 18).2.2.1 ∈ lw_tbl := List.mem_append_right _ (List.mem_append_right _ (List.mem_append_left _ (List.mem_of_getElem? (i := 219) rfl)))
set_option maxRecDepth 20000 in
theorem fl_X10_58 : LkF RX10 58 10 19 := ⟨_, rfl, by decide, Or.inl (List.mem_append_right _ (List.mem_append_right _ (List.mem_append_left _ (List.mem_of_getElem? (i := 220) rfl))))⟩
set_option maxRecDepth 20000 in
theorem fw_X10_58 : Cond.fieldLink RX10 58 RX10 (TX10 19).2.1 (TX10 19).2.2.1 ∈ lw_tbl := List.mem_append_right _ (List.mem_append_right _ (List.mem_append_left _ (List.mem_of_getElem? (i := 220) rfl)))
set_option maxRecDepth 20000 in
theorem fl_X10_61 : LkF RX10 61 10 0 := ⟨_, rfl, by decide, Or.inl (List.mem_append_right _ (List.mem_append_right _ (List.mem_append_left _ (List.mem_of_getElem? (i := 198) rfl))))⟩
set_option maxRecDepth 20000 in
theorem fw_X10_61 : Cond.fieldLink RX10 61 RX10 (TX10 0).2.1 (TX10 0).2.2.1 ∈ lw_tbl := List.mem_append_right _ (List.mem_append_right _ (List.mem_append_left _ (List.mem_of_getElem? (i := 198) rfl)))
set_option maxRecDepth 20000 in
theorem fl_X10_65 : LkF RX10 65 9 1 := ⟨_, rfl, by decide, Or.inr ⟨"RedWhite", List.mem_append_right _ (List.mem_append_right _ (List.mem_append_left _ (List.mem_of_getElem? (i := 47) rfl)))⟩⟩
set_option maxRecDepth 20000 in
theorem ml_X10_68 : LkM RX10 68 F_X10_setTo 1 := ⟨List.mem_append_right _ (List.mem_append_right _ (List.mem_append_right _ (List.mem_append_right _ (List.mem_append_right _ (List.mem_append_left _ (List.mem_of_getElem? (i := 59) rfl)))))), by decide +kernel⟩
set_option maxRecDepth 20000 in
theorem fl_X10_72 : LkF RX10 72 10 6 := ⟨_, rfl, by decide, Or.inl (List.mem_append_right _ (List.mem_append_right _ (List.mem_append_left _ (List.mem_of_getElem? (i := 207) rfl))))⟩
set_option maxRecDepth 20000 in
theorem fw_X10_72 : Cond.fieldLink RX10 72 RX10 (TX10 6).2.1 (TX10 6).2.2.1 ∈ lw_tbl := List.mem_append_right _ (List.mem_append_right _ (List.mem_append_left _ (List.mem_of_getElem? (i := 207) rfl)))
set_option maxRecDepth 20000 in
theorem fl_X10_75 : LkF RX10 75 10 9 := ⟨_, rfl, by decide, Or.inl (List.mem_append_right _ (List.mem_append_right _ (List.mem_append_left _ (List.mem_of_getElem? (i := 210) rfl))))⟩
set_option maxRecDepth 20000 in
theorem fw_X10_75 : Cond.fieldLink RX10 75 RX10 (TX10 9).2.1 (TX10 9).2.2.1 ∈ lw_tbl := List.mem_append_right _ (List.mem_append_right _ (List.mem_append_left _ (List.mem_of_getElem? (i := 210) rfl)))
set_option maxRecDepth 20000 in
theorem ml_X10_78 : LkM RX10 78 F_X4_rows 0 := ⟨List.mem_append_right _ (List.mem_append_right _ (List.mem_append_right _ (List.mem_append_right _ (List.mem_append_right _ (List.mem_append_left _ (List.mem_of_getElem? (i := 70) rfl)))))), by decide +kernel⟩
set_option maxRecDepth 20000 in
theorem ml_X10_84 : LkM RX10 84 F_X10_fillTable 3 := ⟨List.mem_append_right _ (List.mem_append_right _ (List.mem_append_right _ (List.mem_append_right _ (List.mem_append_right _ (List.mem_append_left _ (List.mem_of_getElem? (i := 81) rfl)))))), by decide +kernel⟩
set_option maxRecDepth 20000 in
theorem ml_X10_88 : LkM RX10 88 F_X10_valueMixes 1 := ⟨List.mem_append_right _ (List.mem_append_right _ (List.mem_append_right _ (List.mem_append_right _ (List.mem_append_right _ (List.mem_append_left _ (List.mem_of_getElem? (i := 100) rfl)))))), by decide +kernel⟩
set_option maxRecDepth 20000 in
theorem fl_X10_92 : LkF RX10 92 9 0 := ⟨_, rfl, by decide, Or.inr ⟨"RedWhite", List.mem_append_right _ (List.mem_append_right _ (List.mem_append_left _ (List.mem_of_getElem? (i := 42) rfl)))⟩⟩
set_option maxRecDepth 20000 in
theorem fl_X10_93 : LkF RX10 93 4 12 := ⟨_, rfl, by decide, Or.inr ⟨"RedWhite", List.mem_append_right _ (List.mem_append_left _ (List.mem_of_getElem? (i := 155) rfl))⟩⟩
set_option maxRecDepth 20000 in
theorem fl_X10_96 : LkF RX10 96 9 2 := ⟨_, rfl, by decide, Or.inr ⟨"RedWhite", List.mem_append_right _ (List.mem_append_right _ (List.mem_append_left _ (List.mem_of_getElem? (i := 50) rfl)))⟩⟩
set_option maxRecDepth 20000 in
theorem ml_X10_99 : LkM RX10 99 F_X4_hasColour 1 := ⟨List.mem_append_right _ (List.mem_append_right _ (List.mem_append_right _ (List.mem_append_right _ (List.mem_append_right _ (List.mem_append_left _ (List.mem_of_getElem? (i := 63) rfl)))))), by decide +kernel⟩
set_option maxRecDepth 20000 in
theorem ml_X10_103 : LkM RX10 103 F_X9_holderOf 1 := ⟨List.mem_append_right _ (List.mem_append_right _ (List.mem_append_right _ (List.mem_append_right _ (List.mem_append_right _ (List.mem_append_left _ (List.mem_of_getElem? (i := 64) rfl)))))), by decide +kernel⟩
set_option maxRecDepth 20000 in
theorem fl_X10_107 : LkF RX10 107 9 6 := ⟨_, rfl, by decide, Or.inr ⟨"RedWhite", List.mem_append_right _ (List.mem_append_right _ (List.mem_append_left _ (List.mem_of_getElem? (i := 65) rfl)))⟩⟩
set_option maxRecDepth 20000 in
theorem fl_X10_108 : LkF RX10 108 9 4 := ⟨_, rfl, by decide, Or.inr ⟨"RedWhite", List.mem_append_right _ (List.mem_append_right _ (List.mem_append_left _ (List.mem_of_getElem? (i := 57) rfl)))⟩⟩
set_option maxRecDepth 20000 in
theorem fl_X10_111 : LkF RX10 111 4 11 := ⟨_, rfl, by decide, Or.inr ⟨"RedWhite", List.mem_append_right _ (List.mem_append_left _ (List.mem_of_getElem? (i := 148) rfl))⟩⟩
set_option maxRecDepth 20000 in
theorem ml_X10_120 : LkM RX10 120 F_X10_limitOf 1 := ⟨List.mem_append_right _ (List.mem_append_right _ (List.mem_append_right _ (List.mem_append_right _ (List.mem_append_right _ (List.mem_append_left _ (List.mem_of_getElem? (i := 66) rfl)))))), by decide +kernel⟩
set_option maxRecDepth 20000 in
theorem ml_X10_123 : LkM RX10 123 F_X9_weightOf 1 := ⟨List.mem_append_right _ (List.mem_append_right _ (List.mem_append_right _ (List.mem_append_right _ (List.mem_append_right _ (List.mem_append_left _ (List.mem_of_getElem? (i := 71) rfl)))))), by decide +kernel⟩
set_option maxRecDepth 20000 in
theorem ml_X10_127 : LkM RX10 127 F_X10_fillPowers 1 := ⟨List.mem_append_right _ (List.mem_append_right _ (List.mem_append_right _ (List.mem_append_right _ (List.mem_append_right _ (List.mem_append_left _ (List.mem_of_getElem? (i := 72) rfl)))))), by decide +kernel⟩
set_option maxRecDepth 20000 in
theorem ml_X10_130 : LkM RX10 130 F_X9_allWeights 0 := ⟨List.mem_append_right _ (List.mem_append_right _ (List.mem_append_right _ (List.mem_append_right _ (List.mem_append_right _ (List.mem_append_left _ (List.mem_of_getElem? (i := 76) rfl)))))), by decide +kernel⟩
set_option maxRecDepth 20000 in
theorem fl_X10_137 : LkF RX10 137 10 3 := ⟨_, rfl, by decide, Or.inl (List.mem_append_right _ (List.mem_append_right _ (List.mem_append_left _ (List.mem_of_getElem? (i := 201) rfl))))⟩
set_option maxRecDepth 20000 in
theorem fw_X10_137 : Cond.fieldLink RX10 137 RX10 (TX10 3).2.1 (TX10 3).2.2.1 ∈ lw_tbl := List.mem_append_right _ (List.mem_append_right _ (List.mem_append_left _ (List.mem_of_getElem? (i := 201) rfl)))
set_option maxRecDepth 20000 in
theorem fl_X10_141 : LkF RX10 141 4 5 := ⟨_, rfl, by decide, Or.inr ⟨"RedWhite", List.mem_append_right _ (List.mem_append_left _ (List.mem_of_getElem? (i := 120) rfl))⟩⟩
set_option maxRecDepth 20000 in
theorem fl_X10_145 : LkF RX10 145 4 2 := ⟨_, rfl, by decide, Or.inr ⟨"RedWhite", List.mem_append_right _ (List.mem_append_left _ (List.mem_of_getElem? (i := 108) rfl))⟩⟩
set_option maxRecDepth 20000 in
theorem fl_X10_149 : LkF RX10 149 4 1 := ⟨_, rfl, by decide, Or.inr ⟨"RedWhite", List.mem_append_right _ (List.mem_append_left _ (List.mem_of_getElem? (i := 103) rfl))⟩⟩
set_option maxRecDepth 20000 in
theorem ml_X10_152 : LkM RX10 152 F_X10_waysFrom 5 := ⟨List.mem_append_right _ (List.mem_append_right _ (List.mem_append_right _ (List.mem_append_right _ (List.mem_append_right _ (List.mem_append_left _ (List.mem_of_getElem? (i := 85) rfl)))))), by decide +kernel⟩
set_option maxRecDepth 20000 in
theorem ml_X10_156 : LkM RX10 156 F_X10_waysDone 3 := ⟨List.mem_append_right _ (List.mem_append_right _ (List.mem_append_right _ (List.mem_append_right _ (List.mem_append_right _ (List.mem_append_left _ (List.mem_of_getElem? (i := 89) rfl)))))), by decide +kernel⟩
set_option maxRecDepth 20000 in
theorem kl_X10_160 : Cond.constantLong RX10 160 (-1) ∈ lw_tbl := List.mem_append_right _ (List.mem_append_right _ (List.mem_append_right _ (List.mem_append_right _ (List.mem_append_right _ (List.mem_append_left _ (List.mem_of_getElem? (i := 98) rfl))))))
set_option maxRecDepth 20000 in
theorem ml_X10_165 : LkM RX10 165 F_X10_gain 3 := ⟨List.mem_append_right _ (List.mem_append_right _ (List.mem_append_right _ (List.mem_append_right _ (List.mem_append_right _ (List.mem_append_left _ (List.mem_of_getElem? (i := 93) rfl)))))), by decide +kernel⟩
set_option maxRecDepth 20000 in
theorem fl_X10_168 : LkF RX10 168 4 10 := ⟨_, rfl, by decide, Or.inr ⟨"RedWhite", List.mem_append_right _ (List.mem_append_left _ (List.mem_of_getElem? (i := 144) rfl))⟩⟩
set_option maxRecDepth 20000 in
theorem mn_X10_171 : Cond.methodLinkNest RX10 171 (fy F_X11_soleLeader) "RedWhite" ∈ lw_tbl := List.mem_append_right _ (List.mem_append_right _ (List.mem_append_right _ (List.mem_append_right _ (List.mem_append_right _ (List.mem_append_left _ (List.mem_of_getElem? (i := 97) rfl))))))
set_option maxRecDepth 20000 in
theorem ml_X10_175 : LkM RX10 175 F_X10_valueMix 1 := ⟨List.mem_append_right _ (List.mem_append_right _ (List.mem_append_right _ (List.mem_append_right _ (List.mem_append_right _ (List.mem_append_left _ (List.mem_of_getElem? (i := 104) rfl)))))), by decide +kernel⟩
set_option maxRecDepth 20000 in
theorem ml_X10_178 : LkM RX10 178 F_X10_weighMix 0 := ⟨List.mem_append_right _ (List.mem_append_right _ (List.mem_append_right _ (List.mem_append_right _ (List.mem_append_right _ (List.mem_append_left _ (List.mem_of_getElem? (i := 108) rfl)))))), by decide +kernel⟩
set_option maxRecDepth 20000 in
theorem ml_X10_181 : LkM RX10 181 F_X10_scoreIndex 0 := ⟨List.mem_append_right _ (List.mem_append_right _ (List.mem_append_right _ (List.mem_append_right _ (List.mem_append_right _ (List.mem_append_left _ (List.mem_of_getElem? (i := 113) rfl)))))), by decide +kernel⟩
set_option maxRecDepth 20000 in
theorem ml_X10_184 : LkM RX10 184 F_X10_waitValue 1 := ⟨List.mem_append_right _ (List.mem_append_right _ (List.mem_append_right _ (List.mem_append_right _ (List.mem_append_right _ (List.mem_append_left _ (List.mem_of_getElem? (i := 117) rfl)))))), by decide +kernel⟩
set_option maxRecDepth 20000 in
theorem ml_X10_187 : LkM RX10 187 F_X10_mixIndex 0 := ⟨List.mem_append_right _ (List.mem_append_right _ (List.mem_append_right _ (List.mem_append_right _ (List.mem_append_right _ (List.mem_append_left _ (List.mem_of_getElem? (i := 121) rfl)))))), by decide +kernel⟩
set_option maxRecDepth 20000 in
theorem fl_X10_190 : LkF RX10 190 10 4 := ⟨_, rfl, by decide, Or.inl (List.mem_append_right _ (List.mem_append_right _ (List.mem_append_left _ (List.mem_of_getElem? (i := 203) rfl))))⟩
set_option maxRecDepth 20000 in
theorem fw_X10_190 : Cond.fieldLink RX10 190 RX10 (TX10 4).2.1 (TX10 4).2.2.1 ∈ lw_tbl := List.mem_append_right _ (List.mem_append_right _ (List.mem_append_left _ (List.mem_of_getElem? (i := 203) rfl)))
set_option maxRecDepth 20000 in
theorem mn_X11_11 : Cond.methodLinkNest RX11 11 (fy F_X8_init) "RedWhite" ∈ lw_tbl := List.mem_append_right _ (List.mem_append_left _ (List.mem_of_getElem? (i := 35) rfl))
set_option maxRecDepth 20000 in
theorem fl_X11_12 : LkF RX11 12 11 0 := ⟨_, rfl, by decide, Or.inl (List.mem_append_right _ (List.mem_append_right _ (List.mem_append_right _ (List.mem_append_left _ (List.mem_of_getElem? (i := 24) rfl)))))⟩
set_option maxRecDepth 20000 in
theorem fw_X11_12 : Cond.fieldLink RX11 12 RX11 (TX11 0).2.1 (TX11 0).2.2.1 ∈ lw_tbl := List.mem_append_right _ (List.mem_append_right _ (List.mem_append_right _ (List.mem_append_left _ (List.mem_of_getElem? (i := 24) rfl))))
set_option maxRecDepth 20000 in
theorem ml_X11_18 : LkM RX11 18 F_X5_init 1 := ⟨List.mem_append_right _ (List.mem_append_left _ (List.mem_of_getElem? (i := 87) rfl)), by decide +kernel⟩
set_option maxRecDepth 20000 in
theorem fl_X11_21 : LkF RX11 21 11 1 := ⟨_, rfl, by decide, Or.inl (List.mem_append_right _ (List.mem_append_right _ (List.mem_append_right _ (List.mem_append_left _ (List.mem_of_getElem? (i := 25) rfl)))))⟩
set_option maxRecDepth 20000 in
theorem fw_X11_21 : Cond.fieldLink RX11 21 RX11 (TX11 1).2.1 (TX11 1).2.2.1 ∈ lw_tbl := List.mem_append_right _ (List.mem_append_right _ (List.mem_append_right _ (List.mem_append_left _ (List.mem_of_getElem? (i := 25) rfl))))
set_option maxRecDepth 20000 in
theorem ml_X11_27 : LkM RX11 27 F_X1_init 1 := ⟨List.mem_append_right _ (List.mem_append_left _ (List.mem_of_getElem? (i := 214) rfl)), by decide +kernel⟩
set_option maxRecDepth 20000 in
theorem fl_X11_28 : LkF RX11 28 11 2 := ⟨_, rfl, by decide, Or.inl (List.mem_append_right _ (List.mem_append_right _ (List.mem_append_right _ (List.mem_append_left _ (List.mem_of_getElem? (i := 26) rfl)))))⟩
set_option maxRecDepth 20000 in
theorem fw_X11_28 : Cond.fieldLink RX11 28 RX11 (TX11 2).2.1 (TX11 2).2.2.1 ∈ lw_tbl := List.mem_append_right _ (List.mem_append_right _ (List.mem_append_right _ (List.mem_append_left _ (List.mem_of_getElem? (i := 26) rfl))))
set_option maxRecDepth 20000 in
theorem ml_X11_34 : LkM RX11 34 F_X7_init 1 := ⟨List.mem_append_right _ (List.mem_append_left _ (List.mem_of_getElem? (i := 237) rfl)), by decide +kernel⟩
set_option maxRecDepth 20000 in
theorem fl_X11_35 : LkF RX11 35 11 3 := ⟨_, rfl, by decide, Or.inl (List.mem_append_right _ (List.mem_append_right _ (List.mem_append_right _ (List.mem_append_left _ (List.mem_of_getElem? (i := 27) rfl)))))⟩
set_option maxRecDepth 20000 in
theorem fw_X11_35 : Cond.fieldLink RX11 35 RX11 (TX11 3).2.1 (TX11 3).2.2.1 ∈ lw_tbl := List.mem_append_right _ (List.mem_append_right _ (List.mem_append_right _ (List.mem_append_left _ (List.mem_of_getElem? (i := 27) rfl))))
set_option maxRecDepth 20000 in
theorem ml_X11_43 : LkM RX11 43 F_X4_init 0 := ⟨List.mem_append_right _ (List.mem_append_right _ (List.mem_append_left _ (List.mem_of_getElem? (i := 34) rfl))), by decide +kernel⟩
set_option maxRecDepth 20000 in
theorem ml_X11_44 : LkM RX11 44 F_X9_init 1 := ⟨List.mem_append_right _ (List.mem_append_right _ (List.mem_append_left _ (List.mem_of_getElem? (i := 35) rfl))), by decide +kernel⟩
set_option maxRecDepth 20000 in
theorem fl_X11_47 : LkF RX11 47 11 4 := ⟨_, rfl, by decide, Or.inl (List.mem_append_right _ (List.mem_append_right _ (List.mem_append_right _ (List.mem_append_left _ (List.mem_of_getElem? (i := 28) rfl)))))⟩
set_option maxRecDepth 20000 in
theorem fw_X11_47 : Cond.fieldLink RX11 47 RX11 (TX11 4).2.1 (TX11 4).2.2.1 ∈ lw_tbl := List.mem_append_right _ (List.mem_append_right _ (List.mem_append_right _ (List.mem_append_left _ (List.mem_of_getElem? (i := 28) rfl))))
set_option maxRecDepth 20000 in
theorem fl_X11_51 : LkF RX11 51 9 0 := ⟨_, rfl, by decide, Or.inr ⟨"RedWhite", List.mem_append_right _ (List.mem_append_right _ (List.mem_append_left _ (List.mem_of_getElem? (i := 40) rfl)))⟩⟩
set_option maxRecDepth 20000 in
theorem fl_X11_55 : LkF RX11 55 11 5 := ⟨_, rfl, by decide, Or.inl (List.mem_append_right _ (List.mem_append_right _ (List.mem_append_right _ (List.mem_append_left _ (List.mem_of_getElem? (i := 29) rfl)))))⟩
set_option maxRecDepth 20000 in
theorem fw_X11_55 : Cond.fieldLink RX11 55 RX11 (TX11 5).2.1 (TX11 5).2.2.1 ∈ lw_tbl := List.mem_append_right _ (List.mem_append_right _ (List.mem_append_right _ (List.mem_append_left _ (List.mem_of_getElem? (i := 29) rfl))))
set_option maxRecDepth 20000 in
theorem ml_X11_60 : LkM RX11 60 F_X3_init 1 := ⟨List.mem_append_right _ (List.mem_append_right _ (List.mem_append_left _ (List.mem_of_getElem? (i := 85) rfl))), by decide +kernel⟩
set_option maxRecDepth 20000 in
theorem fl_X11_61 : LkF RX11 61 11 6 := ⟨_, rfl, by decide, Or.inl (List.mem_append_right _ (List.mem_append_right _ (List.mem_append_right _ (List.mem_append_left _ (List.mem_of_getElem? (i := 30) rfl)))))⟩
set_option maxRecDepth 20000 in
theorem fw_X11_61 : Cond.fieldLink RX11 61 RX11 (TX11 6).2.1 (TX11 6).2.2.1 ∈ lw_tbl := List.mem_append_right _ (List.mem_append_right _ (List.mem_append_right _ (List.mem_append_left _ (List.mem_of_getElem? (i := 30) rfl))))
set_option maxRecDepth 20000 in
theorem ml_X11_67 : LkM RX11 67 F_X2_init 1 := ⟨List.mem_append_right _ (List.mem_append_right _ (List.mem_append_left _ (List.mem_of_getElem? (i := 101) rfl))), by decide +kernel⟩
set_option maxRecDepth 20000 in
theorem fl_X11_68 : LkF RX11 68 11 7 := ⟨_, rfl, by decide, Or.inl (List.mem_append_right _ (List.mem_append_right _ (List.mem_append_right _ (List.mem_append_left _ (List.mem_of_getElem? (i := 31) rfl)))))⟩
set_option maxRecDepth 20000 in
theorem fw_X11_68 : Cond.fieldLink RX11 68 RX11 (TX11 7).2.1 (TX11 7).2.2.1 ∈ lw_tbl := List.mem_append_right _ (List.mem_append_right _ (List.mem_append_right _ (List.mem_append_left _ (List.mem_of_getElem? (i := 31) rfl))))
set_option maxRecDepth 20000 in
theorem fl_X11_72 : LkF RX11 72 11 8 := ⟨_, rfl, by decide, Or.inl (List.mem_append_right _ (List.mem_append_right _ (List.mem_append_right _ (List.mem_append_left _ (List.mem_of_getElem? (i := 32) rfl)))))⟩
set_option maxRecDepth 20000 in
theorem fw_X11_72 : Cond.fieldLink RX11 72 RX11 (TX11 8).2.1 (TX11 8).2.2.1 ∈ lw_tbl := List.mem_append_right _ (List.mem_append_right _ (List.mem_append_right _ (List.mem_append_left _ (List.mem_of_getElem? (i := 32) rfl))))
set_option maxRecDepth 20000 in
theorem ml_X11_77 : LkM RX11 77 F_X0_init 1 := ⟨List.mem_append_right _ (List.mem_append_right _ (List.mem_append_left _ (List.mem_of_getElem? (i := 162) rfl))), by decide +kernel⟩
set_option maxRecDepth 20000 in
theorem fl_X11_80 : LkF RX11 80 11 9 := ⟨_, rfl, by decide, Or.inl (List.mem_append_right _ (List.mem_append_right _ (List.mem_append_right _ (List.mem_append_left _ (List.mem_of_getElem? (i := 33) rfl)))))⟩
set_option maxRecDepth 20000 in
theorem fw_X11_80 : Cond.fieldLink RX11 80 RX11 (TX11 9).2.1 (TX11 9).2.2.1 ∈ lw_tbl := List.mem_append_right _ (List.mem_append_right _ (List.mem_append_right _ (List.mem_append_left _ (List.mem_of_getElem? (i := 33) rfl))))
set_option maxRecDepth 20000 in
theorem ml_X11_86 : LkM RX11 86 F_X10_init 1 := ⟨List.mem_append_right _ (List.mem_append_right _ (List.mem_append_left _ (List.mem_of_getElem? (i := 193) rfl))), by decide +kernel⟩
set_option maxRecDepth 20000 in
theorem fl_X11_87 : LkF RX11 87 11 10 := ⟨_, rfl, by decide, Or.inl (List.mem_append_right _ (List.mem_append_right _ (List.mem_append_right _ (List.mem_append_left _ (List.mem_of_getElem? (i := 34) rfl)))))⟩
set_option maxRecDepth 20000 in
theorem fw_X11_87 : Cond.fieldLink RX11 87 RX11 (TX11 10).2.1 (TX11 10).2.2.1 ∈ lw_tbl := List.mem_append_right _ (List.mem_append_right _ (List.mem_append_right _ (List.mem_append_left _ (List.mem_of_getElem? (i := 34) rfl))))
set_option maxRecDepth 20000 in
theorem fl_X11_91 : LkF RX11 91 11 11 := ⟨_, rfl, by decide, Or.inl (List.mem_append_right _ (List.mem_append_right _ (List.mem_append_right _ (List.mem_append_left _ (List.mem_of_getElem? (i := 35) rfl)))))⟩
set_option maxRecDepth 20000 in
theorem fw_X11_91 : Cond.fieldLink RX11 91 RX11 (TX11 11).2.1 (TX11 11).2.2.1 ∈ lw_tbl := List.mem_append_right _ (List.mem_append_right _ (List.mem_append_right _ (List.mem_append_left _ (List.mem_of_getElem? (i := 35) rfl))))
set_option maxRecDepth 20000 in
theorem fl_X11_97 : LkF RX11 97 11 12 := ⟨_, rfl, by decide, Or.inl (List.mem_append_right _ (List.mem_append_right _ (List.mem_append_right _ (List.mem_append_left _ (List.mem_of_getElem? (i := 36) rfl)))))⟩
set_option maxRecDepth 20000 in
theorem fw_X11_97 : Cond.fieldLink RX11 97 RX11 (TX11 12).2.1 (TX11 12).2.2.1 ∈ lw_tbl := List.mem_append_right _ (List.mem_append_right _ (List.mem_append_right _ (List.mem_append_left _ (List.mem_of_getElem? (i := 36) rfl))))
set_option maxRecDepth 20000 in
theorem fl_X11_101 : LkF RX11 101 11 13 := ⟨_, rfl, by decide, Or.inl (List.mem_append_right _ (List.mem_append_right _ (List.mem_append_right _ (List.mem_append_left _ (List.mem_of_getElem? (i := 37) rfl)))))⟩
set_option maxRecDepth 20000 in
theorem fw_X11_101 : Cond.fieldLink RX11 101 RX11 (TX11 13).2.1 (TX11 13).2.2.1 ∈ lw_tbl := List.mem_append_right _ (List.mem_append_right _ (List.mem_append_right _ (List.mem_append_left _ (List.mem_of_getElem? (i := 37) rfl))))
set_option maxRecDepth 20000 in
theorem fl_X11_105 : LkF RX11 105 11 14 := ⟨_, rfl, by decide, Or.inl (List.mem_append_right _ (List.mem_append_right _ (List.mem_append_right _ (List.mem_append_left _ (List.mem_of_getElem? (i := 38) rfl)))))⟩
set_option maxRecDepth 20000 in
theorem fw_X11_105 : Cond.fieldLink RX11 105 RX11 (TX11 14).2.1 (TX11 14).2.2.1 ∈ lw_tbl := List.mem_append_right _ (List.mem_append_right _ (List.mem_append_right _ (List.mem_append_left _ (List.mem_of_getElem? (i := 38) rfl))))
set_option maxRecDepth 20000 in
theorem fl_X11_109 : LkF RX11 109 11 15 := ⟨_, rfl, by decide, Or.inl (List.mem_append_right _ (List.mem_append_right _ (List.mem_append_right _ (List.mem_append_left _ (List.mem_of_getElem? (i := 39) rfl)))))⟩
set_option maxRecDepth 20000 in
theorem fw_X11_109 : Cond.fieldLink RX11 109 RX11 (TX11 15).2.1 (TX11 15).2.2.1 ∈ lw_tbl := List.mem_append_right _ (List.mem_append_right _ (List.mem_append_right _ (List.mem_append_left _ (List.mem_of_getElem? (i := 39) rfl))))
set_option maxRecDepth 20000 in
theorem fl_X11_112 : LkF RX11 112 11 16 := ⟨_, rfl, by decide, Or.inl (List.mem_append_right _ (List.mem_append_right _ (List.mem_append_right _ (List.mem_append_left _ (List.mem_of_getElem? (i := 40) rfl)))))⟩
set_option maxRecDepth 20000 in
theorem fw_X11_112 : Cond.fieldLink RX11 112 RX11 (TX11 16).2.1 (TX11 16).2.2.1 ∈ lw_tbl := List.mem_append_right _ (List.mem_append_right _ (List.mem_append_right _ (List.mem_append_left _ (List.mem_of_getElem? (i := 40) rfl))))
set_option maxRecDepth 20000 in
theorem ml_X11_115 : LkM RX11 115 F_X8_hasRoom 1 := ⟨List.mem_append_right _ (List.mem_append_right _ (List.mem_append_right _ (List.mem_append_left _ (List.mem_of_getElem? (i := 83) rfl)))), by decide +kernel⟩
set_option maxRecDepth 20000 in
theorem ml_X11_119 : LkM RX11 119 F_X8_append 1 := ⟨List.mem_append_right _ (List.mem_append_right _ (List.mem_append_right _ (List.mem_append_left _ (List.mem_of_getElem? (i := 87) rfl)))), by decide +kernel⟩
set_option maxRecDepth 20000 in
theorem fl_X11_123 : LkF RX11 123 8 1 := ⟨_, rfl, by decide, Or.inr ⟨"RedWhite", List.mem_append_right _ (List.mem_append_left _ (List.mem_of_getElem? (i := 41) rfl))⟩⟩
set_option maxRecDepth 20000 in
theorem ml_X11_127 : LkM RX11 127 F_X5_read 0 := ⟨List.mem_append_right _ (List.mem_append_right _ (List.mem_append_right _ (List.mem_append_left _ (List.mem_of_getElem? (i := 99) rfl)))), by decide +kernel⟩
set_option maxRecDepth 20000 in
theorem fl_X11_131 : LkF RX11 131 8 10 := ⟨_, rfl, by decide, Or.inr ⟨"RedWhite", List.mem_append_right _ (List.mem_append_left _ (List.mem_of_getElem? (i := 59) rfl))⟩⟩
set_option maxRecDepth 20000 in
theorem ml_X11_134 : LkM RX11 134 F_X9_begin 1 := ⟨List.mem_append_right _ (List.mem_append_right _ (List.mem_append_right _ (List.mem_append_right _ (List.mem_append_left _ (List.mem_of_getElem? (i := 25) rfl))))), by decide +kernel⟩
set_option maxRecDepth 20000 in
theorem ml_X11_137 : LkM RX11 137 F_X3_forget 0 := ⟨List.mem_append_right _ (List.mem_append_right _ (List.mem_append_right _ (List.mem_append_right _ (List.mem_append_left _ (List.mem_of_getElem? (i := 29) rfl))))), by decide +kernel⟩
set_option maxRecDepth 20000 in
theorem fl_X11_140 : LkF RX11 140 11 17 := ⟨_, rfl, by decide, Or.inl (List.mem_append_right _ (List.mem_append_right _ (List.mem_append_right _ (List.mem_append_left _ (List.mem_of_getElem? (i := 41) rfl)))))⟩
set_option maxRecDepth 20000 in
theorem fw_X11_140 : Cond.fieldLink RX11 140 RX11 (TX11 17).2.1 (TX11 17).2.2.1 ∈ lw_tbl := List.mem_append_right _ (List.mem_append_right _ (List.mem_append_right _ (List.mem_append_left _ (List.mem_of_getElem? (i := 41) rfl))))
set_option maxRecDepth 20000 in
theorem fl_X11_144 : LkF RX11 144 4 14 := ⟨_, rfl, by decide, Or.inr ⟨"RedWhite", List.mem_append_right _ (List.mem_append_left _ (List.mem_of_getElem? (i := 164) rfl))⟩⟩
set_option maxRecDepth 20000 in
theorem fl_X11_147 : LkF RX11 147 8 9 := ⟨_, rfl, by decide, Or.inr ⟨"RedWhite", List.mem_append_right _ (List.mem_append_left _ (List.mem_of_getElem? (i := 57) rfl))⟩⟩
set_option maxRecDepth 20000 in
theorem ml_X11_150 : LkM RX11 150 F_X4_hasColour 1 := ⟨List.mem_append_right _ (List.mem_append_right _ (List.mem_append_right _ (List.mem_append_right _ (List.mem_append_left _ (List.mem_of_getElem? (i := 41) rfl))))), by decide +kernel⟩
set_option maxRecDepth 20000 in
theorem fl_X11_153 : LkF RX11 153 4 1 := ⟨_, rfl, by decide, Or.inr ⟨"RedWhite", List.mem_append_right _ (List.mem_append_left _ (List.mem_of_getElem? (i := 104) rfl))⟩⟩
set_option maxRecDepth 20000 in
theorem fl_X11_156 : LkF RX11 156 4 2 := ⟨_, rfl, by decide, Or.inr ⟨"RedWhite", List.mem_append_right _ (List.mem_append_left _ (List.mem_of_getElem? (i := 110) rfl))⟩⟩
set_option maxRecDepth 20000 in
theorem ml_X11_159 : LkM RX11 159 F_X9_holderOf 1 := ⟨List.mem_append_right _ (List.mem_append_right _ (List.mem_append_right _ (List.mem_append_right _ (List.mem_append_left _ (List.mem_of_getElem? (i := 45) rfl))))), by decide +kernel⟩
set_option maxRecDepth 20000 in
theorem ml_X11_163 : LkM RX11 163 F_X9_timesCame 1 := ⟨List.mem_append_right _ (List.mem_append_right _ (List.mem_append_right _ (List.mem_append_right _ (List.mem_append_left _ (List.mem_of_getElem? (i := 49) rfl))))), by decide +kernel⟩
set_option maxRecDepth 20000 in
theorem ml_X11_166 : LkM RX11 166 F_X4_hasLand 1 := ⟨List.mem_append_right _ (List.mem_append_right _ (List.mem_append_right _ (List.mem_append_right _ (List.mem_append_left _ (List.mem_of_getElem? (i := 57) rfl))))), by decide +kernel⟩
set_option maxRecDepth 20000 in
theorem ml_X11_169 : LkM RX11 169 F_X4_hasKind 1 := ⟨List.mem_append_right _ (List.mem_append_right _ (List.mem_append_right _ (List.mem_append_right _ (List.mem_append_left _ (List.mem_of_getElem? (i := 61) rfl))))), by decide +kernel⟩
set_option maxRecDepth 20000 in
theorem fl_X11_172 : LkF RX11 172 4 5 := ⟨_, rfl, by decide, Or.inr ⟨"RedWhite", List.mem_append_right _ (List.mem_append_left _ (List.mem_of_getElem? (i := 123) rfl))⟩⟩
set_option maxRecDepth 20000 in
theorem ml_X11_176 : LkM RX11 176 F_X11_kindOf 1 := ⟨List.mem_append_right _ (List.mem_append_right _ (List.mem_append_right _ (List.mem_append_right _ (List.mem_append_left _ (List.mem_of_getElem? (i := 66) rfl))))), by decide +kernel⟩
set_option maxRecDepth 20000 in
theorem ml_X11_179 : LkM RX11 179 F_X11_checkPlayer 1 := ⟨List.mem_append_right _ (List.mem_append_right _ (List.mem_append_right _ (List.mem_append_right _ (List.mem_append_right _ (List.mem_append_right _ (List.mem_append_left _ (List.mem_of_getElem? (i := 79) rfl))))))), by decide +kernel⟩
set_option maxRecDepth 20000 in
theorem fl_X11_182 : LkF RX11 182 9 6 := ⟨_, rfl, by decide, Or.inr ⟨"RedWhite", List.mem_append_right _ (List.mem_append_right _ (List.mem_append_left _ (List.mem_of_getElem? (i := 67) rfl)))⟩⟩
set_option maxRecDepth 20000 in
theorem fl_X11_185 : LkF RX11 185 4 7 := ⟨_, rfl, by decide, Or.inr ⟨"RedWhite", List.mem_append_right _ (List.mem_append_left _ (List.mem_of_getElem? (i := 131) rfl))⟩⟩
set_option maxRecDepth 20000 in
theorem fl_X11_188 : LkF RX11 188 9 4 := ⟨_, rfl, by decide, Or.inr ⟨"RedWhite", List.mem_append_right _ (List.mem_append_right _ (List.mem_append_left _ (List.mem_of_getElem? (i := 59) rfl)))⟩⟩
set_option maxRecDepth 20000 in
theorem fl_X11_191 : LkF RX11 191 9 5 := ⟨_, rfl, by decide, Or.inr ⟨"RedWhite", List.mem_append_right _ (List.mem_append_right _ (List.mem_append_left _ (List.mem_of_getElem? (i := 62) rfl)))⟩⟩
set_option maxRecDepth 20000 in
theorem fl_X11_197 : LkF RX11 197 9 2 := ⟨_, rfl, by decide, Or.inr ⟨"RedWhite", List.mem_append_right _ (List.mem_append_right _ (List.mem_append_left _ (List.mem_of_getElem? (i := 52) rfl)))⟩⟩
set_option maxRecDepth 20000 in
theorem ml_X11_200 : LkM RX11 200 F_X9_isOver 0 := ⟨List.mem_append_right _ (List.mem_append_right _ (List.mem_append_right _ (List.mem_append_right _ (List.mem_append_left _ (List.mem_of_getElem? (i := 73) rfl))))), by decide +kernel⟩
set_option maxRecDepth 20000 in
theorem ml_X11_204 : LkM RX11 204 F_X9_winner 0 := ⟨List.mem_append_right _ (List.mem_append_right _ (List.mem_append_right _ (List.mem_append_right _ (List.mem_append_left _ (List.mem_of_getElem? (i := 82) rfl))))), by decide +kernel⟩
set_option maxRecDepth 20000 in
theorem ml_X11_208 : LkM RX11 208 F_X9_leader 0 := ⟨List.mem_append_right _ (List.mem_append_right _ (List.mem_append_right _ (List.mem_append_right _ (List.mem_append_left _ (List.mem_of_getElem? (i := 90) rfl))))), by decide +kernel⟩
set_option maxRecDepth 20000 in
theorem ml_X11_211 : LkM RX11 211 F_X4_hasPlayer 1 := ⟨List.mem_append_right _ (List.mem_append_right _ (List.mem_append_right _ (List.mem_append_right _ (List.mem_append_left _ (List.mem_of_getElem? (i := 98) rfl))))), by decide +kernel⟩
set_option maxRecDepth 20000 in
theorem ml_X11_214 : LkM RX11 214 F_X9_whyNotTake 2 := ⟨List.mem_append_right _ (List.mem_append_right _ (List.mem_append_right _ (List.mem_append_right _ (List.mem_append_left _ (List.mem_of_getElem? (i := 102) rfl))))), by decide +kernel⟩
set_option maxRecDepth 20000 in
theorem ml_X11_218 : LkM RX11 218 F_X3_keep 1 := ⟨List.mem_append_right _ (List.mem_append_right _ (List.mem_append_right _ (List.mem_append_right _ (List.mem_append_left _ (List.mem_of_getElem? (i := 107) rfl))))), by decide +kernel⟩
set_option maxRecDepth 20000 in
theorem ml_X11_222 : LkM RX11 222 F_X9_doTake 2 := ⟨List.mem_append_right _ (List.mem_append_right _ (List.mem_append_right _ (List.mem_append_right _ (List.mem_append_left _ (List.mem_of_getElem? (i := 118) rfl))))), by decide +kernel⟩
set_option maxRecDepth 20000 in
theorem ml_X11_226 : LkM RX11 226 F_X9_whyNotTurn 2 := ⟨List.mem_append_right _ (List.mem_append_right _ (List.mem_append_right _ (List.mem_append_right _ (List.mem_append_left _ (List.mem_of_getElem? (i := 126) rfl))))), by decide +kernel⟩
set_option maxRecDepth 20000 in
theorem ml_X11_229 : LkM RX11 229 F_X9_doTurn 2 := ⟨List.mem_append_right _ (List.mem_append_right _ (List.mem_append_right _ (List.mem_append_right _ (List.mem_append_left _ (List.mem_of_getElem? (i := 134) rfl))))), by decide +kernel⟩
set_option maxRecDepth 20000 in
theorem ml_X11_232 : LkM RX11 232 F_X9_whyNotCome 1 := ⟨List.mem_append_right _ (List.mem_append_right _ (List.mem_append_right _ (List.mem_append_right _ (List.mem_append_left _ (List.mem_of_getElem? (i := 142) rfl))))), by decide +kernel⟩
set_option maxRecDepth 20000 in
theorem ml_X11_235 : LkM RX11 235 F_X9_doCome 1 := ⟨List.mem_append_right _ (List.mem_append_right _ (List.mem_append_right _ (List.mem_append_right _ (List.mem_append_left _ (List.mem_of_getElem? (i := 158) rfl))))), by decide +kernel⟩
set_option maxRecDepth 20000 in
theorem ml_X11_238 : LkM RX11 238 F_X3_recall 1 := ⟨List.mem_append_right _ (List.mem_append_right _ (List.mem_append_right _ (List.mem_append_right _ (List.mem_append_left _ (List.mem_of_getElem? (i := 166) rfl))))), by decide +kernel⟩
set_option maxRecDepth 20000 in
theorem ml_X11_242 : LkM RX11 242 F_X11_checkPart 1 := ⟨List.mem_append_right _ (List.mem_append_right _ (List.mem_append_right _ (List.mem_append_right _ (List.mem_append_right _ (List.mem_append_right _ (List.mem_append_left _ (List.mem_of_getElem? (i := 151) rfl))))))), by decide +kernel⟩
set_option maxRecDepth 20000 in
theorem ml_X11_245 : LkM RX11 245 F_X2_reckonFor 1 := ⟨List.mem_append_right _ (List.mem_append_right _ (List.mem_append_right _ (List.mem_append_right _ (List.mem_append_left _ (List.mem_of_getElem? (i := 174) rfl))))), by decide +kernel⟩
set_option maxRecDepth 20000 in
theorem fl_X11_248 : LkF RX11 248 2 9 := ⟨_, rfl, by decide, Or.inr ⟨"RedWhite", List.mem_append_right _ (List.mem_append_right _ (List.mem_append_left _ (List.mem_of_getElem? (i := 123) rfl)))⟩⟩
set_option maxRecDepth 20000 in
theorem fl_X11_252 : LkF RX11 252 2 7 := ⟨_, rfl, by decide, Or.inr ⟨"RedWhite", List.mem_append_right _ (List.mem_append_right _ (List.mem_append_left _ (List.mem_of_getElem? (i := 118) rfl)))⟩⟩
set_option maxRecDepth 20000 in
theorem ml_X11_256 : LkM RX11 256 F_X11_part 3 := ⟨List.mem_append_right _ (List.mem_append_right _ (List.mem_append_right _ (List.mem_append_right _ (List.mem_append_right _ (List.mem_append_right _ (List.mem_append_left _ (List.mem_of_getElem? (i := 154) rfl))))))), by decide +kernel⟩
set_option maxRecDepth 20000 in
theorem fl_X11_260 : LkF RX11 260 2 8 := ⟨_, rfl, by decide, Or.inr ⟨"RedWhite", List.mem_append_right _ (List.mem_append_right _ (List.mem_append_left _ (List.mem_of_getElem? (i := 120) rfl)))⟩⟩
set_option maxRecDepth 20000 in
theorem ml_X11_263 : LkM RX11 263 F_X9_weightOf 1 := ⟨List.mem_append_right _ (List.mem_append_right _ (List.mem_append_right _ (List.mem_append_right _ (List.mem_append_right _ (List.mem_append_right _ (List.mem_append_left _ (List.mem_of_getElem? (i := 174) rfl))))))), by decide +kernel⟩
set_option maxRecDepth 20000 in
theorem ml_X11_267 : LkM RX11 267 F_X9_allWeights 0 := ⟨List.mem_append_right _ (List.mem_append_right _ (List.mem_append_right _ (List.mem_append_right _ (List.mem_append_right _ (List.mem_append_right _ (List.mem_append_left _ (List.mem_of_getElem? (i := 175) rfl))))))), by decide +kernel⟩
set_option maxRecDepth 20000 in
theorem ml_X11_271 : LkM RX11 271 F_X9_weightsWith 1 := ⟨List.mem_append_right _ (List.mem_append_right _ (List.mem_append_right _ (List.mem_append_right _ (List.mem_append_right _ (List.mem_append_right _ (List.mem_append_left _ (List.mem_of_getElem? (i := 183) rfl))))))), by decide +kernel⟩
set_option maxRecDepth 20000 in
theorem kl_X11_274 : Cond.constantLong RX11 274 (12) ∈ lw_tbl := List.mem_append_right _ (List.mem_append_right _ (List.mem_append_right _ (List.mem_append_right _ (List.mem_append_right _ (List.mem_append_right _ (List.mem_append_left _ (List.mem_of_getElem? (i := 184) rfl)))))))
set_option maxRecDepth 20000 in
theorem ml_X11_276 : LkM RX11 276 F_X2_carsYet 0 := ⟨List.mem_append_right _ (List.mem_append_right _ (List.mem_append_right _ (List.mem_append_right _ (List.mem_append_right _ (List.mem_append_right _ (List.mem_append_left _ (List.mem_of_getElem? (i := 192) rfl))))))), by decide +kernel⟩
set_option maxRecDepth 20000 in
theorem ml_X11_279 : LkM RX11 279 F_X2_doneBehind 1 := ⟨List.mem_append_right _ (List.mem_append_right _ (List.mem_append_right _ (List.mem_append_right _ (List.mem_append_right _ (List.mem_append_right _ (List.mem_append_left _ (List.mem_of_getElem? (i := 203) rfl))))))), by decide +kernel⟩
set_option maxRecDepth 20000 in
theorem kl_X11_282 : Cond.constantLong RX11 282 (-1) ∈ lw_tbl := List.mem_append_right _ (List.mem_append_right _ (List.mem_append_right _ (List.mem_append_right _ (List.mem_append_left _ (List.mem_of_getElem? (i := 232) rfl)))))
set_option maxRecDepth 20000 in
theorem fl_X11_284 : LkF RX11 284 4 10 := ⟨_, rfl, by decide, Or.inr ⟨"RedWhite", List.mem_append_right _ (List.mem_append_left _ (List.mem_of_getElem? (i := 146) rfl))⟩⟩
set_option maxRecDepth 20000 in
theorem ml_X11_287 : LkM RX11 287 F_X0_reckonFor 1 := ⟨List.mem_append_right _ (List.mem_append_right _ (List.mem_append_right _ (List.mem_append_right _ (List.mem_append_left _ (List.mem_of_getElem? (i := 237) rfl))))), by decide +kernel⟩
set_option maxRecDepth 20000 in
theorem fl_X11_288 : LkF RX11 288 0 4 := ⟨_, rfl, by decide, Or.inr ⟨"RedWhite", List.mem_append_right _ (List.mem_append_right _ (List.mem_append_left _ (List.mem_of_getElem? (i := 176) rfl)))⟩⟩
set_option maxRecDepth 20000 in
theorem fl_X11_290 : LkF RX11 290 0 3 := ⟨_, rfl, by decide, Or.inr ⟨"RedWhite", List.mem_append_right _ (List.mem_append_right _ (List.mem_append_left _ (List.mem_of_getElem? (i := 174) rfl)))⟩⟩
set_option maxRecDepth 20000 in
theorem fl_X11_294 : LkF RX11 294 0 2 := ⟨_, rfl, by decide, Or.inr ⟨"RedWhite", List.mem_append_right _ (List.mem_append_right _ (List.mem_append_left _ (List.mem_of_getElem? (i := 172) rfl)))⟩⟩
set_option maxRecDepth 20000 in
theorem fl_X11_295 : LkF RX11 295 4 8 := ⟨_, rfl, by decide, Or.inr ⟨"RedWhite", List.mem_append_right _ (List.mem_append_left _ (List.mem_of_getElem? (i := 136) rfl))⟩⟩
set_option maxRecDepth 20000 in
theorem ml_X11_298 : LkM RX11 298 F_X2_setTo 1 := ⟨List.mem_append_right _ (List.mem_append_right _ (List.mem_append_right _ (List.mem_append_right _ (List.mem_append_right _ (List.mem_append_left _ (List.mem_of_getElem? (i := 24) rfl)))))), by decide +kernel⟩
set_option maxRecDepth 20000 in
theorem ml_X11_301 : LkM RX11 301 F_X2_dropAll 1 := ⟨List.mem_append_right _ (List.mem_append_right _ (List.mem_append_right _ (List.mem_append_right _ (List.mem_append_right _ (List.mem_append_left _ (List.mem_of_getElem? (i := 25) rfl)))))), by decide +kernel⟩
set_option maxRecDepth 20000 in
theorem fl_X11_304 : LkF RX11 304 2 2 := ⟨_, rfl, by decide, Or.inr ⟨"RedWhite", List.mem_append_right _ (List.mem_append_right _ (List.mem_append_left _ (List.mem_of_getElem? (i := 109) rfl)))⟩⟩
set_option maxRecDepth 20000 in
theorem ml_X11_307 : LkM RX11 307 F_X2_reckon 0 := ⟨List.mem_append_right _ (List.mem_append_right _ (List.mem_append_right _ (List.mem_append_right _ (List.mem_append_right _ (List.mem_append_left _ (List.mem_of_getElem? (i := 29) rfl)))))), by decide +kernel⟩
set_option maxRecDepth 20000 in
theorem kl_X11_312 : Cond.constantLong RX11 312 (9223372036854775807) ∈ lw_tbl := List.mem_append_right _ (List.mem_append_right _ (List.mem_append_right _ (List.mem_append_right _ (List.mem_append_right _ (List.mem_append_left _ (List.mem_of_getElem? (i := 34) rfl))))))
set_option maxRecDepth 20000 in
theorem ml_X11_314 : LkM RX11 314 F_X2_setToBeginning 1 := ⟨List.mem_append_right _ (List.mem_append_right _ (List.mem_append_right _ (List.mem_append_right _ (List.mem_append_right _ (List.mem_append_left _ (List.mem_of_getElem? (i := 35) rfl)))))), by decide +kernel⟩
set_option maxRecDepth 20000 in
theorem fl_X11_317 : LkF RX11 317 2 3 := ⟨_, rfl, by decide, Or.inr ⟨"RedWhite", List.mem_append_right _ (List.mem_append_right _ (List.mem_append_left _ (List.mem_of_getElem? (i := 111) rfl)))⟩⟩
set_option maxRecDepth 20000 in
theorem ml_X11_318 : LkM RX11 318 F_X11_unlikeness 0 := ⟨List.mem_append_right _ (List.mem_append_right _ (List.mem_append_right _ (List.mem_append_right _ (List.mem_append_right _ (List.mem_append_left _ (List.mem_of_getElem? (i := 39) rfl)))))), by decide +kernel⟩
set_option maxRecDepth 20000 in
theorem fl_X11_321 : LkF RX11 321 2 5 := ⟨_, rfl, by decide, Or.inr ⟨"RedWhite", List.mem_append_right _ (List.mem_append_right _ (List.mem_append_left _ (List.mem_of_getElem? (i := 114) rfl)))⟩⟩
set_option maxRecDepth 20000 in
theorem ml_X11_324 : LkM RX11 324 F_X9_mayTurn 1 := ⟨List.mem_append_right _ (List.mem_append_right _ (List.mem_append_right _ (List.mem_append_right _ (List.mem_append_right _ (List.mem_append_left _ (List.mem_of_getElem? (i := 54) rfl)))))), by decide +kernel⟩
set_option maxRecDepth 20000 in
theorem ml_X11_327 : LkM RX11 327 F_X11_likely 2 := ⟨List.mem_append_right _ (List.mem_append_right _ (List.mem_append_right _ (List.mem_append_right _ (List.mem_append_right _ (List.mem_append_right _ (List.mem_append_left _ (List.mem_of_getElem? (i := 221) rfl))))))), by decide +kernel⟩
set_option maxRecDepth 20000 in
theorem ml_X11_331 : LkM RX11 331 F_X10_reckonFor 2 := ⟨List.mem_append_right _ (List.mem_append_right _ (List.mem_append_right _ (List.mem_append_right _ (List.mem_append_right _ (List.mem_append_left _ (List.mem_of_getElem? (i := 55) rfl)))))), by decide +kernel⟩
set_option maxRecDepth 20000 in
theorem fl_X11_334 : LkF RX11 334 10 4 := ⟨_, rfl, by decide, Or.inr ⟨"RedWhite", List.mem_append_right _ (List.mem_append_right _ (List.mem_append_left _ (List.mem_of_getElem? (i := 204) rfl)))⟩⟩
set_option maxRecDepth 20000 in
theorem fl_X11_337 : LkF RX11 337 10 3 := ⟨_, rfl, by decide, Or.inr ⟨"RedWhite", List.mem_append_right _ (List.mem_append_right _ (List.mem_append_left _ (List.mem_of_getElem? (i := 202) rfl)))⟩⟩
set_option maxRecDepth 20000 in
theorem fl_X11_338 : LkF RX11 338 10 5 := ⟨_, rfl, by decide, Or.inr ⟨"RedWhite", List.mem_append_right _ (List.mem_append_right _ (List.mem_append_left _ (List.mem_of_getElem? (i := 206) rfl)))⟩⟩
set_option maxRecDepth 20000 in
theorem ml_X11_341 : LkM RX11 341 F_X8_byteAt 1 := ⟨List.mem_append_right _ (List.mem_append_right _ (List.mem_append_right _ (List.mem_append_right _ (List.mem_append_right _ (List.mem_append_left _ (List.mem_of_getElem? (i := 129) rfl)))))), by decide +kernel⟩
set_option maxRecDepth 20000 in
theorem ml_X11_344 : LkM RX11 344 F_X11_countWays 0 := ⟨List.mem_append_right _ (List.mem_append_right _ (List.mem_append_right _ (List.mem_append_right _ (List.mem_append_right _ (List.mem_append_left _ (List.mem_of_getElem? (i := 130) rfl)))))), by decide +kernel⟩
set_option maxRecDepth 20000 in
theorem fl_X11_347 : LkF RX11 347 9 3 := ⟨_, rfl, by decide, Or.inr ⟨"RedWhite", List.mem_append_right _ (List.mem_append_right _ (List.mem_append_left _ (List.mem_of_getElem? (i := 54) rfl)))⟩⟩
set_option maxRecDepth 20000 in
theorem ml_X11_349 : LkM RX11 349 F_X9_longestRow 0 := ⟨List.mem_append_right _ (List.mem_append_right _ (List.mem_append_right _ (List.mem_append_right _ (List.mem_append_right _ (List.mem_append_left _ (List.mem_of_getElem? (i := 161) rfl)))))), by decide +kernel⟩
set_option maxRecDepth 20000 in
theorem ml_X11_355 : LkM RX11 355 F_X4_allChances 0 := ⟨List.mem_append_right _ (List.mem_append_right _ (List.mem_append_right _ (List.mem_append_right _ (List.mem_append_right _ (List.mem_append_right _ (List.mem_append_left _ (List.mem_of_getElem? (i := 237) rfl))))))), by decide +kernel⟩
set_option maxRecDepth 20000 in
theorem fl_X11_358 : LkF RX11 358 4 9 := ⟨_, rfl, by decide, Or.inr ⟨"RedWhite", List.mem_append_right _ (List.mem_append_left _ (List.mem_of_getElem? (i := 139) rfl))⟩⟩
set_option maxRecDepth 20000 in
theorem ml_X11_361 : LkM RX11 361 F_X9_driveOn 1 := ⟨List.mem_append_right _ (List.mem_append_right _ (List.mem_append_right _ (List.mem_append_right _ (List.mem_append_right _ (List.mem_append_left _ (List.mem_of_getElem? (i := 172) rfl)))))), by decide +kernel⟩
set_option maxRecDepth 20000 in
theorem ml_X11_364 : LkM RX11 364 F_X9_copyFrom 1 := ⟨List.mem_append_right _ (List.mem_append_right _ (List.mem_append_right _ (List.mem_append_right _ (List.mem_append_right _ (List.mem_append_left _ (List.mem_of_getElem? (i := 190) rfl)))))), by decide +kernel⟩
set_option maxRecDepth 20000 in
theorem ml_X11_367 : LkM RX11 367 F_X1_read 1 := ⟨List.mem_append_right _ (List.mem_append_right _ (List.mem_append_right _ (List.mem_append_right _ (List.mem_append_right _ (List.mem_append_left _ (List.mem_of_getElem? (i := 195) rfl)))))), by decide +kernel⟩
set_option maxRecDepth 20000 in
theorem ml_X11_370 : LkM RX11 370 F_X11_liveLog 1 := ⟨List.mem_append_right _ (List.mem_append_right _ (List.mem_append_right _ (List.mem_append_right _ (List.mem_append_right _ (List.mem_append_left _ (List.mem_of_getElem? (i := 215) rfl)))))), by decide +kernel⟩
set_option maxRecDepth 20000 in
theorem ml_X11_373 : LkM RX11 373 F_X7_read 1 := ⟨List.mem_append_right _ (List.mem_append_right _ (List.mem_append_right _ (List.mem_append_right _ (List.mem_append_right _ (List.mem_append_left _ (List.mem_of_getElem? (i := 237) rfl)))))), by decide +kernel⟩
set_option maxRecDepth 20000 in
theorem fl_X11_376 : LkF RX11 376 6 4 := ⟨_, rfl, by decide, Or.inr ⟨"RedWhite", List.mem_append_right _ (List.mem_append_right _ (List.mem_append_left _ (List.mem_of_getElem? (i := 12) rfl)))⟩⟩
set_option maxRecDepth 20000 in
theorem ml_X11_379 : LkM RX11 379 F_X6_holdsFor 2 := ⟨List.mem_append_right _ (List.mem_append_right _ (List.mem_append_right _ (List.mem_append_right _ (List.mem_append_right _ (List.mem_append_right _ (List.mem_append_left _ (List.mem_of_getElem? (i := 41) rfl))))))), by decide +kernel⟩
set_option maxRecDepth 20000 in
theorem fl_X11_383 : LkF RX11 383 4 11 := ⟨_, rfl, by decide, Or.inr ⟨"RedWhite", List.mem_append_right _ (List.mem_append_left _ (List.mem_of_getElem? (i := 153) rfl))⟩⟩
set_option maxRecDepth 20000 in
theorem fl_X11_384 : LkF RX11 384 4 12 := ⟨_, rfl, by decide, Or.inr ⟨"RedWhite", List.mem_append_right _ (List.mem_append_left _ (List.mem_of_getElem? (i := 159) rfl))⟩⟩
set_option maxRecDepth 20000 in
theorem fl_X11_387 : LkF RX11 387 4 13 := ⟨_, rfl, by decide, Or.inr ⟨"RedWhite", List.mem_append_right _ (List.mem_append_left _ (List.mem_of_getElem? (i := 162) rfl))⟩⟩
set_option maxRecDepth 20000 in
theorem ml_X11_397 : LkM RX11 397 F_X11_commonDivisor 2 := ⟨List.mem_append_right _ (List.mem_append_right _ (List.mem_append_right _ (List.mem_append_right _ (List.mem_append_right _ (List.mem_append_right _ (List.mem_append_left _ (List.mem_of_getElem? (i := 157) rfl))))))), by decide +kernel⟩
set_option maxRecDepth 20000 in
theorem ml_X11_401 : LkM RX11 401 F_X11_explains 1 := ⟨List.mem_append_right _ (List.mem_append_right _ (List.mem_append_right _ (List.mem_append_right _ (List.mem_append_right _ (List.mem_append_left _ (List.mem_of_getElem? (i := 134) rfl)))))), by decide +kernel⟩
set_option maxRecDepth 20000 in
theorem ml_X11_404 : LkM RX11 404 F_X11_keepWay 1 := ⟨List.mem_append_right _ (List.mem_append_right _ (List.mem_append_right _ (List.mem_append_right _ (List.mem_append_right _ (List.mem_append_left _ (List.mem_of_getElem? (i := 145) rfl)))))), by decide +kernel⟩
set_option maxRecDepth 20000 in
theorem ml_X11_407 : LkM RX11 407 F_X11_colourIn 2 := ⟨List.mem_append_right _ (List.mem_append_right _ (List.mem_append_right _ (List.mem_append_right _ (List.mem_append_right _ (List.mem_append_left _ (List.mem_of_getElem? (i := 138) rfl)))))), by decide +kernel⟩
set_option maxRecDepth 20000 in
theorem ml_X11_410 : LkM RX11 410 F_X11_scoreBy 2 := ⟨List.mem_append_right _ (List.mem_append_right _ (List.mem_append_right _ (List.mem_append_right _ (List.mem_append_right _ (List.mem_append_left _ (List.mem_of_getElem? (i := 141) rfl)))))), by decide +kernel⟩
set_option maxRecDepth 20000 in
theorem fl_X11_413 : LkF RX11 413 1 4 := ⟨_, rfl, by decide, Or.inr ⟨"RedWhite", List.mem_append_right _ (List.mem_append_left _ (List.mem_of_getElem? (i := 223) rfl))⟩⟩
set_option maxRecDepth 20000 in
theorem ml_X11_414 : LkM RX11 414 F_X1_live 2 := ⟨List.mem_append_right _ (List.mem_append_right _ (List.mem_append_right _ (List.mem_append_right _ (List.mem_append_right _ (List.mem_append_left _ (List.mem_of_getElem? (i := 219) rfl)))))), by decide +kernel⟩
