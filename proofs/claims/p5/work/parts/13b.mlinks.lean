set_option maxRecDepth 20000 in
theorem fl_X12_1 : LkF RX12 1 12 0 := ⟨_, rfl, by decide, Or.inl (List.mem_append_right _ (List.mem_append_right _ (List.mem_append_right _ (List.mem_append_right _ (List.mem_append_right _ (List.mem_append_right _ (List.mem_append_right _ (List.mem_append_left _ (List.mem_of_getElem? (i := 51) rfl)))))))))⟩
set_option maxRecDepth 20000 in
theorem fw_X12_1 : Cond.fieldLink RX12 1 RX12 (TX12 0).2.1 (TX12 0).2.2.1 ∈ lw_tbl := List.mem_append_right _ (List.mem_append_right _ (List.mem_append_right _ (List.mem_append_right _ (List.mem_append_right _ (List.mem_append_right _ (List.mem_append_right _ (List.mem_append_left _ (List.mem_of_getElem? (i := 51) rfl))))))))
set_option maxRecDepth 20000 in
theorem fl_X12_7 : LkF RX12 7 12 2 := ⟨_, rfl, by decide, Or.inl (List.mem_append_right _ (List.mem_append_right _ (List.mem_append_right _ (List.mem_append_right _ (List.mem_append_right _ (List.mem_append_right _ (List.mem_append_right _ (List.mem_append_left _ (List.mem_of_getElem? (i := 53) rfl)))))))))⟩
set_option maxRecDepth 20000 in
theorem fw_X12_7 : Cond.fieldLink RX12 7 RX12 (TX12 2).2.1 (TX12 2).2.2.1 ∈ lw_tbl := List.mem_append_right _ (List.mem_append_right _ (List.mem_append_right _ (List.mem_append_right _ (List.mem_append_right _ (List.mem_append_right _ (List.mem_append_right _ (List.mem_append_left _ (List.mem_of_getElem? (i := 53) rfl))))))))
set_option maxRecDepth 20000 in
theorem ml_X12_10 : LkM RX12 10 F_m_four 1 := ⟨List.mem_append_right _ (List.mem_append_right _ (List.mem_append_right _ (List.mem_append_right _ (List.mem_append_right _ (List.mem_append_right _ (List.mem_append_right _ (List.mem_append_left _ (List.mem_of_getElem? (i := 6) rfl)))))))), by decide +kernel⟩
set_option maxRecDepth 20000 in
theorem fl_X12_14 : LkF RX12 14 12 1 := ⟨_, rfl, by decide, Or.inl (List.mem_append_right _ (List.mem_append_right _ (List.mem_append_right _ (List.mem_append_right _ (List.mem_append_right _ (List.mem_append_right _ (List.mem_append_right _ (List.mem_append_left _ (List.mem_of_getElem? (i := 52) rfl)))))))))⟩
set_option maxRecDepth 20000 in
theorem fw_X12_14 : Cond.fieldLink RX12 14 RX12 (TX12 1).2.1 (TX12 1).2.2.1 ∈ lw_tbl := List.mem_append_right _ (List.mem_append_right _ (List.mem_append_right _ (List.mem_append_right _ (List.mem_append_right _ (List.mem_append_right _ (List.mem_append_right _ (List.mem_append_left _ (List.mem_of_getElem? (i := 52) rfl))))))))
set_option maxRecDepth 20000 in
theorem fl_X12_18 : LkF RX12 18 12 3 := ⟨_, rfl, by decide, Or.inl (List.mem_append_right _ (List.mem_append_right _ (List.mem_append_right _ (List.mem_append_right _ (List.mem_append_right _ (List.mem_append_right _ (List.mem_append_right _ (List.mem_append_left _ (List.mem_of_getElem? (i := 54) rfl)))))))))⟩
set_option maxRecDepth 20000 in
theorem fw_X12_18 : Cond.fieldLink RX12 18 RX12 (TX12 3).2.1 (TX12 3).2.2.1 ∈ lw_tbl := List.mem_append_right _ (List.mem_append_right _ (List.mem_append_right _ (List.mem_append_right _ (List.mem_append_right _ (List.mem_append_right _ (List.mem_append_right _ (List.mem_append_left _ (List.mem_of_getElem? (i := 54) rfl))))))))
set_option maxRecDepth 20000 in
theorem fl_X12_21 : LkF RX12 21 12 4 := ⟨_, rfl, by decide, Or.inl (List.mem_append_right _ (List.mem_append_right _ (List.mem_append_right _ (List.mem_append_right _ (List.mem_append_right _ (List.mem_append_right _ (List.mem_append_right _ (List.mem_append_left _ (List.mem_of_getElem? (i := 55) rfl)))))))))⟩
set_option maxRecDepth 20000 in
theorem fw_X12_21 : Cond.fieldLink RX12 21 RX12 (TX12 4).2.1 (TX12 4).2.2.1 ∈ lw_tbl := List.mem_append_right _ (List.mem_append_right _ (List.mem_append_right _ (List.mem_append_right _ (List.mem_append_right _ (List.mem_append_right _ (List.mem_append_right _ (List.mem_append_left _ (List.mem_of_getElem? (i := 55) rfl))))))))
set_option maxRecDepth 20000 in
theorem fl_X12_24 : LkF RX12 24 12 5 := ⟨_, rfl, by decide, Or.inl (List.mem_append_right _ (List.mem_append_right _ (List.mem_append_right _ (List.mem_append_right _ (List.mem_append_right _ (List.mem_append_right _ (List.mem_append_right _ (List.mem_append_left _ (List.mem_of_getElem? (i := 56) rfl)))))))))⟩
set_option maxRecDepth 20000 in
theorem fw_X12_24 : Cond.fieldLink RX12 24 RX12 (TX12 5).2.1 (TX12 5).2.2.1 ∈ lw_tbl := List.mem_append_right _ (List.mem_append_right _ (List.mem_append_right _ (List.mem_append_right _ (List.mem_append_right _ (List.mem_append_right _ (List.mem_append_right _ (List.mem_append_left _ (List.mem_of_getElem? (i := 56) rfl))))))))
set_option maxRecDepth 20000 in
theorem fl_X12_33 : LkF RX12 33 12 6 := ⟨_, rfl, by decide, Or.inl (List.mem_append_right _ (List.mem_append_right _ (List.mem_append_right _ (List.mem_append_right _ (List.mem_append_right _ (List.mem_append_right _ (List.mem_append_right _ (List.mem_append_left _ (List.mem_of_getElem? (i := 57) rfl)))))))))⟩
set_option maxRecDepth 20000 in
theorem fw_X12_33 : Cond.fieldLink RX12 33 RX12 (TX12 6).2.1 (TX12 6).2.2.1 ∈ lw_tbl := List.mem_append_right _ (List.mem_append_right _ (List.mem_append_right _ (List.mem_append_right _ (List.mem_append_right _ (List.mem_append_right _ (List.mem_append_right _ (List.mem_append_left _ (List.mem_of_getElem? (i := 57) rfl))))))))
set_option maxRecDepth 20000 in
theorem fl_X12_37 : LkF RX12 37 12 7 := ⟨_, rfl, by decide, Or.inl (List.mem_append_right _ (List.mem_append_right _ (List.mem_append_right _ (List.mem_append_right _ (List.mem_append_right _ (List.mem_append_right _ (List.mem_append_right _ (List.mem_append_left _ (List.mem_of_getElem? (i := 58) rfl)))))))))⟩
set_option maxRecDepth 20000 in
theorem fw_X12_37 : Cond.fieldLink RX12 37 RX12 (TX12 7).2.1 (TX12 7).2.2.1 ∈ lw_tbl := List.mem_append_right _ (List.mem_append_right _ (List.mem_append_right _ (List.mem_append_right _ (List.mem_append_right _ (List.mem_append_right _ (List.mem_append_right _ (List.mem_append_left _ (List.mem_of_getElem? (i := 58) rfl))))))))
set_option maxRecDepth 20000 in
theorem fl_X12_40 : LkF RX12 40 12 8 := ⟨_, rfl, by decide, Or.inl (List.mem_append_right _ (List.mem_append_right _ (List.mem_append_right _ (List.mem_append_right _ (List.mem_append_right _ (List.mem_append_right _ (List.mem_append_right _ (List.mem_append_left _ (List.mem_of_getElem? (i := 59) rfl)))))))))⟩
set_option maxRecDepth 20000 in
theorem fw_X12_40 : Cond.fieldLink RX12 40 RX12 (TX12 8).2.1 (TX12 8).2.2.1 ∈ lw_tbl := List.mem_append_right _ (List.mem_append_right _ (List.mem_append_right _ (List.mem_append_right _ (List.mem_append_right _ (List.mem_append_right _ (List.mem_append_right _ (List.mem_append_left _ (List.mem_of_getElem? (i := 59) rfl))))))))
set_option maxRecDepth 20000 in
theorem fl_X12_43 : LkF RX12 43 12 9 := ⟨_, rfl, by decide, Or.inl (List.mem_append_right _ (List.mem_append_right _ (List.mem_append_right _ (List.mem_append_right _ (List.mem_append_right _ (List.mem_append_right _ (List.mem_append_right _ (List.mem_append_left _ (List.mem_of_getElem? (i := 60) rfl)))))))))⟩
set_option maxRecDepth 20000 in
theorem fw_X12_43 : Cond.fieldLink RX12 43 RX12 (TX12 9).2.1 (TX12 9).2.2.1 ∈ lw_tbl := List.mem_append_right _ (List.mem_append_right _ (List.mem_append_right _ (List.mem_append_right _ (List.mem_append_right _ (List.mem_append_right _ (List.mem_append_right _ (List.mem_append_left _ (List.mem_of_getElem? (i := 60) rfl))))))))
set_option maxRecDepth 20000 in
theorem fl_X12_47 : LkF RX12 47 12 10 := ⟨_, rfl, by decide, Or.inl (List.mem_append_right _ (List.mem_append_right _ (List.mem_append_right _ (List.mem_append_right _ (List.mem_append_right _ (List.mem_append_right _ (List.mem_append_right _ (List.mem_append_left _ (List.mem_of_getElem? (i := 61) rfl)))))))))⟩
set_option maxRecDepth 20000 in
theorem fw_X12_47 : Cond.fieldLink RX12 47 RX12 (TX12 10).2.1 (TX12 10).2.2.1 ∈ lw_tbl := List.mem_append_right _ (List.mem_append_right _ (List.mem_append_right _ (List.mem_append_right _ (List.mem_append_right _ (List.mem_append_right _ (List.mem_append_right _ (List.mem_append_left _ (List.mem_of_getElem? (i := 61) rfl))))))))
set_option maxRecDepth 20000 in
theorem fl_X12_50 : LkF RX12 50 12 21 := ⟨_, rfl, by decide, Or.inl (List.mem_append_right _ (List.mem_append_right _ (List.mem_append_right _ (List.mem_append_right _ (List.mem_append_right _ (List.mem_append_right _ (List.mem_append_right _ (List.mem_append_left _ (List.mem_of_getElem? (i := 72) rfl)))))))))⟩
set_option maxRecDepth 20000 in
theorem fw_X12_50 : Cond.fieldLink RX12 50 RX12 (TX12 21).2.1 (TX12 21).2.2.1 ∈ lw_tbl := List.mem_append_right _ (List.mem_append_right _ (List.mem_append_right _ (List.mem_append_right _ (List.mem_append_right _ (List.mem_append_right _ (List.mem_append_right _ (List.mem_append_left _ (List.mem_of_getElem? (i := 72) rfl))))))))
set_option maxRecDepth 20000 in
theorem fl_X12_53 : LkF RX12 53 12 22 := ⟨_, rfl, by decide, Or.inl (List.mem_append_right _ (List.mem_append_right _ (List.mem_append_right _ (List.mem_append_right _ (List.mem_append_right _ (List.mem_append_right _ (List.mem_append_right _ (List.mem_append_left _ (List.mem_of_getElem? (i := 73) rfl)))))))))⟩
set_option maxRecDepth 20000 in
theorem fw_X12_53 : Cond.fieldLink RX12 53 RX12 (TX12 22).2.1 (TX12 22).2.2.1 ∈ lw_tbl := List.mem_append_right _ (List.mem_append_right _ (List.mem_append_right _ (List.mem_append_right _ (List.mem_append_right _ (List.mem_append_right _ (List.mem_append_right _ (List.mem_append_left _ (List.mem_of_getElem? (i := 73) rfl))))))))
set_option maxRecDepth 20000 in
theorem fl_X12_56 : LkF RX12 56 12 23 := ⟨_, rfl, by decide, Or.inl (List.mem_append_right _ (List.mem_append_right _ (List.mem_append_right _ (List.mem_append_right _ (List.mem_append_right _ (List.mem_append_right _ (List.mem_append_right _ (List.mem_append_left _ (List.mem_of_getElem? (i := 74) rfl)))))))))⟩
set_option maxRecDepth 20000 in
theorem fw_X12_56 : Cond.fieldLink RX12 56 RX12 (TX12 23).2.1 (TX12 23).2.2.1 ∈ lw_tbl := List.mem_append_right _ (List.mem_append_right _ (List.mem_append_right _ (List.mem_append_right _ (List.mem_append_right _ (List.mem_append_right _ (List.mem_append_right _ (List.mem_append_left _ (List.mem_of_getElem? (i := 74) rfl))))))))
set_option maxRecDepth 20000 in
theorem fl_X12_59 : LkF RX12 59 12 24 := ⟨_, rfl, by decide, Or.inl (List.mem_append_right _ (List.mem_append_right _ (List.mem_append_right _ (List.mem_append_right _ (List.mem_append_right _ (List.mem_append_right _ (List.mem_append_right _ (List.mem_append_left _ (List.mem_of_getElem? (i := 75) rfl)))))))))⟩
set_option maxRecDepth 20000 in
theorem fw_X12_59 : Cond.fieldLink RX12 59 RX12 (TX12 24).2.1 (TX12 24).2.2.1 ∈ lw_tbl := List.mem_append_right _ (List.mem_append_right _ (List.mem_append_right _ (List.mem_append_right _ (List.mem_append_right _ (List.mem_append_right _ (List.mem_append_right _ (List.mem_append_left _ (List.mem_of_getElem? (i := 75) rfl))))))))
set_option maxRecDepth 20000 in
theorem fl_X12_62 : LkF RX12 62 12 26 := ⟨_, rfl, by decide, Or.inl (List.mem_append_right _ (List.mem_append_right _ (List.mem_append_right _ (List.mem_append_right _ (List.mem_append_right _ (List.mem_append_right _ (List.mem_append_right _ (List.mem_append_left _ (List.mem_of_getElem? (i := 77) rfl)))))))))⟩
set_option maxRecDepth 20000 in
theorem fw_X12_62 : Cond.fieldLink RX12 62 RX12 (TX12 26).2.1 (TX12 26).2.2.1 ∈ lw_tbl := List.mem_append_right _ (List.mem_append_right _ (List.mem_append_right _ (List.mem_append_right _ (List.mem_append_right _ (List.mem_append_right _ (List.mem_append_right _ (List.mem_append_left _ (List.mem_of_getElem? (i := 77) rfl))))))))
set_option maxRecDepth 20000 in
theorem fl_X12_65 : LkF RX12 65 12 27 := ⟨_, rfl, by decide, Or.inl (List.mem_append_right _ (List.mem_append_right _ (List.mem_append_right _ (List.mem_append_right _ (List.mem_append_right _ (List.mem_append_right _ (List.mem_append_right _ (List.mem_append_left _ (List.mem_of_getElem? (i := 78) rfl)))))))))⟩
set_option maxRecDepth 20000 in
theorem fw_X12_65 : Cond.fieldLink RX12 65 RX12 (TX12 27).2.1 (TX12 27).2.2.1 ∈ lw_tbl := List.mem_append_right _ (List.mem_append_right _ (List.mem_append_right _ (List.mem_append_right _ (List.mem_append_right _ (List.mem_append_right _ (List.mem_append_right _ (List.mem_append_left _ (List.mem_of_getElem? (i := 78) rfl))))))))
set_option maxRecDepth 20000 in
theorem fl_X12_68 : LkF RX12 68 12 28 := ⟨_, rfl, by decide, Or.inl (List.mem_append_right _ (List.mem_append_right _ (List.mem_append_right _ (List.mem_append_right _ (List.mem_append_right _ (List.mem_append_right _ (List.mem_append_right _ (List.mem_append_left _ (List.mem_of_getElem? (i := 79) rfl)))))))))⟩
set_option maxRecDepth 20000 in
theorem fw_X12_68 : Cond.fieldLink RX12 68 RX12 (TX12 28).2.1 (TX12 28).2.2.1 ∈ lw_tbl := List.mem_append_right _ (List.mem_append_right _ (List.mem_append_right _ (List.mem_append_right _ (List.mem_append_right _ (List.mem_append_right _ (List.mem_append_right _ (List.mem_append_left _ (List.mem_of_getElem? (i := 79) rfl))))))))
set_option maxRecDepth 20000 in
theorem fl_X12_71 : LkF RX12 71 12 29 := ⟨_, rfl, by decide, Or.inl (List.mem_append_right _ (List.mem_append_right _ (List.mem_append_right _ (List.mem_append_right _ (List.mem_append_right _ (List.mem_append_right _ (List.mem_append_right _ (List.mem_append_left _ (List.mem_of_getElem? (i := 80) rfl)))))))))⟩
set_option maxRecDepth 20000 in
theorem fw_X12_71 : Cond.fieldLink RX12 71 RX12 (TX12 29).2.1 (TX12 29).2.2.1 ∈ lw_tbl := List.mem_append_right _ (List.mem_append_right _ (List.mem_append_right _ (List.mem_append_right _ (List.mem_append_right _ (List.mem_append_right _ (List.mem_append_right _ (List.mem_append_left _ (List.mem_of_getElem? (i := 80) rfl))))))))
set_option maxRecDepth 20000 in
theorem fl_X12_74 : LkF RX12 74 12 30 := ⟨_, rfl, by decide, Or.inl (List.mem_append_right _ (List.mem_append_right _ (List.mem_append_right _ (List.mem_append_right _ (List.mem_append_right _ (List.mem_append_right _ (List.mem_append_right _ (List.mem_append_left _ (List.mem_of_getElem? (i := 81) rfl)))))))))⟩
set_option maxRecDepth 20000 in
theorem fw_X12_74 : Cond.fieldLink RX12 74 RX12 (TX12 30).2.1 (TX12 30).2.2.1 ∈ lw_tbl := List.mem_append_right _ (List.mem_append_right _ (List.mem_append_right _ (List.mem_append_right _ (List.mem_append_right _ (List.mem_append_right _ (List.mem_append_right _ (List.mem_append_left _ (List.mem_of_getElem? (i := 81) rfl))))))))
set_option maxRecDepth 20000 in
theorem fl_X12_77 : LkF RX12 77 12 32 := ⟨_, rfl, by decide, Or.inl (List.mem_append_right _ (List.mem_append_right _ (List.mem_append_right _ (List.mem_append_right _ (List.mem_append_right _ (List.mem_append_right _ (List.mem_append_right _ (List.mem_append_left _ (List.mem_of_getElem? (i := 83) rfl)))))))))⟩
set_option maxRecDepth 20000 in
theorem fw_X12_77 : Cond.fieldLink RX12 77 RX12 (TX12 32).2.1 (TX12 32).2.2.1 ∈ lw_tbl := List.mem_append_right _ (List.mem_append_right _ (List.mem_append_right _ (List.mem_append_right _ (List.mem_append_right _ (List.mem_append_right _ (List.mem_append_right _ (List.mem_append_left _ (List.mem_of_getElem? (i := 83) rfl))))))))
set_option maxRecDepth 20000 in
theorem fl_X12_80 : LkF RX12 80 12 33 := ⟨_, rfl, by decide, Or.inl (List.mem_append_right _ (List.mem_append_right _ (List.mem_append_right _ (List.mem_append_right _ (List.mem_append_right _ (List.mem_append_right _ (List.mem_append_right _ (List.mem_append_left _ (List.mem_of_getElem? (i := 84) rfl)))))))))⟩
set_option maxRecDepth 20000 in
theorem fw_X12_80 : Cond.fieldLink RX12 80 RX12 (TX12 33).2.1 (TX12 33).2.2.1 ∈ lw_tbl := List.mem_append_right _ (List.mem_append_right _ (List.mem_append_right _ (List.mem_append_right _ (List.mem_append_right _ (List.mem_append_right _ (List.mem_append_right _ (List.mem_append_left _ (List.mem_of_getElem? (i := 84) rfl))))))))
set_option maxRecDepth 20000 in
theorem fl_X12_83 : LkF RX12 83 12 34 := ⟨_, rfl, by decide, Or.inl (List.mem_append_right _ (List.mem_append_right _ (List.mem_append_right _ (List.mem_append_right _ (List.mem_append_right _ (List.mem_append_right _ (List.mem_append_right _ (List.mem_append_left _ (List.mem_of_getElem? (i := 85) rfl)))))))))⟩
set_option maxRecDepth 20000 in
theorem fw_X12_83 : Cond.fieldLink RX12 83 RX12 (TX12 34).2.1 (TX12 34).2.2.1 ∈ lw_tbl := List.mem_append_right _ (List.mem_append_right _ (List.mem_append_right _ (List.mem_append_right _ (List.mem_append_right _ (List.mem_append_right _ (List.mem_append_right _ (List.mem_append_left _ (List.mem_of_getElem? (i := 85) rfl))))))))
set_option maxRecDepth 20000 in
theorem ki_X12_86 : Cond.constant RX12 86 (85293) ∈ lw_tbl := List.mem_append_right _ (List.mem_append_right _ (List.mem_append_right _ (List.mem_append_right _ (List.mem_append_right _ (List.mem_append_right _ (List.mem_append_right _ (List.mem_append_left _ (List.mem_of_getElem? (i := 20) rfl))))))))
set_option maxRecDepth 20000 in
theorem fl_X12_87 : LkF RX12 87 12 36 := ⟨_, rfl, by decide, Or.inl (List.mem_append_right _ (List.mem_append_right _ (List.mem_append_right _ (List.mem_append_right _ (List.mem_append_right _ (List.mem_append_right _ (List.mem_append_right _ (List.mem_append_left _ (List.mem_of_getElem? (i := 87) rfl)))))))))⟩
set_option maxRecDepth 20000 in
theorem fw_X12_87 : Cond.fieldLink RX12 87 RX12 (TX12 36).2.1 (TX12 36).2.2.1 ∈ lw_tbl := List.mem_append_right _ (List.mem_append_right _ (List.mem_append_right _ (List.mem_append_right _ (List.mem_append_right _ (List.mem_append_right _ (List.mem_append_right _ (List.mem_append_left _ (List.mem_of_getElem? (i := 87) rfl))))))))
set_option maxRecDepth 20000 in
theorem fl_X12_90 : LkF RX12 90 12 37 := ⟨_, rfl, by decide, Or.inl (List.mem_append_right _ (List.mem_append_right _ (List.mem_append_right _ (List.mem_append_right _ (List.mem_append_right _ (List.mem_append_right _ (List.mem_append_right _ (List.mem_append_left _ (List.mem_of_getElem? (i := 88) rfl)))))))))⟩
set_option maxRecDepth 20000 in
theorem fw_X12_90 : Cond.fieldLink RX12 90 RX12 (TX12 37).2.1 (TX12 37).2.2.1 ∈ lw_tbl := List.mem_append_right _ (List.mem_append_right _ (List.mem_append_right _ (List.mem_append_right _ (List.mem_append_right _ (List.mem_append_right _ (List.mem_append_right _ (List.mem_append_left _ (List.mem_of_getElem? (i := 88) rfl))))))))
set_option maxRecDepth 20000 in
theorem fl_X12_93 : LkF RX12 93 12 38 := ⟨_, rfl, by decide, Or.inl (List.mem_append_right _ (List.mem_append_right _ (List.mem_append_right _ (List.mem_append_right _ (List.mem_append_right _ (List.mem_append_right _ (List.mem_append_right _ (List.mem_append_left _ (List.mem_of_getElem? (i := 89) rfl)))))))))⟩
set_option maxRecDepth 20000 in
theorem fw_X12_93 : Cond.fieldLink RX12 93 RX12 (TX12 38).2.1 (TX12 38).2.2.1 ∈ lw_tbl := List.mem_append_right _ (List.mem_append_right _ (List.mem_append_right _ (List.mem_append_right _ (List.mem_append_right _ (List.mem_append_right _ (List.mem_append_right _ (List.mem_append_left _ (List.mem_of_getElem? (i := 89) rfl))))))))
set_option maxRecDepth 20000 in
theorem fl_X12_96 : LkF RX12 96 12 39 := ⟨_, rfl, by decide, Or.inl (List.mem_append_right _ (List.mem_append_right _ (List.mem_append_right _ (List.mem_append_right _ (List.mem_append_right _ (List.mem_append_right _ (List.mem_append_right _ (List.mem_append_left _ (List.mem_of_getElem? (i := 90) rfl)))))))))⟩
set_option maxRecDepth 20000 in
theorem fw_X12_96 : Cond.fieldLink RX12 96 RX12 (TX12 39).2.1 (TX12 39).2.2.1 ∈ lw_tbl := List.mem_append_right _ (List.mem_append_right _ (List.mem_append_right _ (List.mem_append_right _ (List.mem_append_right _ (List.mem_append_right _ (List.mem_append_right _ (List.mem_append_left _ (List.mem_of_getElem? (i := 90) rfl))))))))
set_option maxRecDepth 20000 in
theorem fl_X12_99 : LkF RX12 99 12 40 := ⟨_, rfl, by decide, Or.inl (List.mem_append_right _ (List.mem_append_right _ (List.mem_append_right _ (List.mem_append_right _ (List.mem_append_right _ (List.mem_append_right _ (List.mem_append_right _ (List.mem_append_left _ (List.mem_of_getElem? (i := 91) rfl)))))))))⟩
set_option maxRecDepth 20000 in
theorem fw_X12_99 : Cond.fieldLink RX12 99 RX12 (TX12 40).2.1 (TX12 40).2.2.1 ∈ lw_tbl := List.mem_append_right _ (List.mem_append_right _ (List.mem_append_right _ (List.mem_append_right _ (List.mem_append_right _ (List.mem_append_right _ (List.mem_append_right _ (List.mem_append_left _ (List.mem_of_getElem? (i := 91) rfl))))))))
set_option maxRecDepth 20000 in
theorem fl_X12_102 : LkF RX12 102 12 41 := ⟨_, rfl, by decide, Or.inl (List.mem_append_right _ (List.mem_append_right _ (List.mem_append_right _ (List.mem_append_right _ (List.mem_append_right _ (List.mem_append_right _ (List.mem_append_right _ (List.mem_append_left _ (List.mem_of_getElem? (i := 92) rfl)))))))))⟩
set_option maxRecDepth 20000 in
theorem fw_X12_102 : Cond.fieldLink RX12 102 RX12 (TX12 41).2.1 (TX12 41).2.2.1 ∈ lw_tbl := List.mem_append_right _ (List.mem_append_right _ (List.mem_append_right _ (List.mem_append_right _ (List.mem_append_right _ (List.mem_append_right _ (List.mem_append_right _ (List.mem_append_left _ (List.mem_of_getElem? (i := 92) rfl))))))))
set_option maxRecDepth 20000 in
theorem fl_X12_105 : LkF RX12 105 12 44 := ⟨_, rfl, by decide, Or.inl (List.mem_append_right _ (List.mem_append_right _ (List.mem_append_right _ (List.mem_append_right _ (List.mem_append_right _ (List.mem_append_right _ (List.mem_append_right _ (List.mem_append_left _ (List.mem_of_getElem? (i := 95) rfl)))))))))⟩
set_option maxRecDepth 20000 in
theorem fw_X12_105 : Cond.fieldLink RX12 105 RX12 (TX12 44).2.1 (TX12 44).2.2.1 ∈ lw_tbl := List.mem_append_right _ (List.mem_append_right _ (List.mem_append_right _ (List.mem_append_right _ (List.mem_append_right _ (List.mem_append_right _ (List.mem_append_right _ (List.mem_append_left _ (List.mem_of_getElem? (i := 95) rfl))))))))
set_option maxRecDepth 20000 in
theorem fl_X12_108 : LkF RX12 108 12 45 := ⟨_, rfl, by decide, Or.inl (List.mem_append_right _ (List.mem_append_right _ (List.mem_append_right _ (List.mem_append_right _ (List.mem_append_right _ (List.mem_append_right _ (List.mem_append_right _ (List.mem_append_left _ (List.mem_of_getElem? (i := 96) rfl)))))))))⟩
set_option maxRecDepth 20000 in
theorem fw_X12_108 : Cond.fieldLink RX12 108 RX12 (TX12 45).2.1 (TX12 45).2.2.1 ∈ lw_tbl := List.mem_append_right _ (List.mem_append_right _ (List.mem_append_right _ (List.mem_append_right _ (List.mem_append_right _ (List.mem_append_right _ (List.mem_append_right _ (List.mem_append_left _ (List.mem_of_getElem? (i := 96) rfl))))))))
set_option maxRecDepth 20000 in
theorem fl_X12_111 : LkF RX12 111 12 48 := ⟨_, rfl, by decide, Or.inl (List.mem_append_right _ (List.mem_append_right _ (List.mem_append_right _ (List.mem_append_right _ (List.mem_append_right _ (List.mem_append_right _ (List.mem_append_right _ (List.mem_append_left _ (List.mem_of_getElem? (i := 99) rfl)))))))))⟩
set_option maxRecDepth 20000 in
theorem fw_X12_111 : Cond.fieldLink RX12 111 RX12 (TX12 48).2.1 (TX12 48).2.2.1 ∈ lw_tbl := List.mem_append_right _ (List.mem_append_right _ (List.mem_append_right _ (List.mem_append_right _ (List.mem_append_right _ (List.mem_append_right _ (List.mem_append_right _ (List.mem_append_left _ (List.mem_of_getElem? (i := 99) rfl))))))))
set_option maxRecDepth 20000 in
theorem fl_X12_114 : LkF RX12 114 12 50 := ⟨_, rfl, by decide, Or.inl (List.mem_append_right _ (List.mem_append_right _ (List.mem_append_right _ (List.mem_append_right _ (List.mem_append_right _ (List.mem_append_right _ (List.mem_append_right _ (List.mem_append_left _ (List.mem_of_getElem? (i := 101) rfl)))))))))⟩
set_option maxRecDepth 20000 in
theorem fw_X12_114 : Cond.fieldLink RX12 114 RX12 (TX12 50).2.1 (TX12 50).2.2.1 ∈ lw_tbl := List.mem_append_right _ (List.mem_append_right _ (List.mem_append_right _ (List.mem_append_right _ (List.mem_append_right _ (List.mem_append_right _ (List.mem_append_right _ (List.mem_append_left _ (List.mem_of_getElem? (i := 101) rfl))))))))
set_option maxRecDepth 20000 in
theorem fl_X12_117 : LkF RX12 117 12 56 := ⟨_, rfl, by decide, Or.inl (List.mem_append_right _ (List.mem_append_right _ (List.mem_append_right _ (List.mem_append_right _ (List.mem_append_right _ (List.mem_append_right _ (List.mem_append_right _ (List.mem_append_left _ (List.mem_of_getElem? (i := 107) rfl)))))))))⟩
set_option maxRecDepth 20000 in
theorem fw_X12_117 : Cond.fieldLink RX12 117 RX12 (TX12 56).2.1 (TX12 56).2.2.1 ∈ lw_tbl := List.mem_append_right _ (List.mem_append_right _ (List.mem_append_right _ (List.mem_append_right _ (List.mem_append_right _ (List.mem_append_right _ (List.mem_append_right _ (List.mem_append_left _ (List.mem_of_getElem? (i := 107) rfl))))))))
set_option maxRecDepth 20000 in
theorem fl_X12_121 : LkF RX12 121 12 57 := ⟨_, rfl, by decide, Or.inl (List.mem_append_right _ (List.mem_append_right _ (List.mem_append_right _ (List.mem_append_right _ (List.mem_append_right _ (List.mem_append_right _ (List.mem_append_right _ (List.mem_append_left _ (List.mem_of_getElem? (i := 108) rfl)))))))))⟩
set_option maxRecDepth 20000 in
theorem fw_X12_121 : Cond.fieldLink RX12 121 RX12 (TX12 57).2.1 (TX12 57).2.2.1 ∈ lw_tbl := List.mem_append_right _ (List.mem_append_right _ (List.mem_append_right _ (List.mem_append_right _ (List.mem_append_right _ (List.mem_append_right _ (List.mem_append_right _ (List.mem_append_left _ (List.mem_of_getElem? (i := 108) rfl))))))))
set_option maxRecDepth 20000 in
theorem fl_X12_124 : LkF RX12 124 12 58 := ⟨_, rfl, by decide, Or.inl (List.mem_append_right _ (List.mem_append_right _ (List.mem_append_right _ (List.mem_append_right _ (List.mem_append_right _ (List.mem_append_right _ (List.mem_append_right _ (List.mem_append_left _ (List.mem_of_getElem? (i := 109) rfl)))))))))⟩
set_option maxRecDepth 20000 in
theorem fw_X12_124 : Cond.fieldLink RX12 124 RX12 (TX12 58).2.1 (TX12 58).2.2.1 ∈ lw_tbl := List.mem_append_right _ (List.mem_append_right _ (List.mem_append_right _ (List.mem_append_right _ (List.mem_append_right _ (List.mem_append_right _ (List.mem_append_right _ (List.mem_append_left _ (List.mem_of_getElem? (i := 109) rfl))))))))
set_option maxRecDepth 20000 in
theorem fl_X12_127 : LkF RX12 127 12 59 := ⟨_, rfl, by decide, Or.inl (List.mem_append_right _ (List.mem_append_right _ (List.mem_append_right _ (List.mem_append_right _ (List.mem_append_right _ (List.mem_append_right _ (List.mem_append_right _ (List.mem_append_left _ (List.mem_of_getElem? (i := 110) rfl)))))))))⟩
set_option maxRecDepth 20000 in
theorem fw_X12_127 : Cond.fieldLink RX12 127 RX12 (TX12 59).2.1 (TX12 59).2.2.1 ∈ lw_tbl := List.mem_append_right _ (List.mem_append_right _ (List.mem_append_right _ (List.mem_append_right _ (List.mem_append_right _ (List.mem_append_right _ (List.mem_append_right _ (List.mem_append_left _ (List.mem_of_getElem? (i := 110) rfl))))))))
set_option maxRecDepth 20000 in
theorem kl_X12_130 : Cond.constantLong RX12 130 (109330211763570) ∈ lw_tbl := List.mem_append_right _ (List.mem_append_right _ (List.mem_append_right _ (List.mem_append_right _ (List.mem_append_right _ (List.mem_append_right _ (List.mem_append_right _ (List.mem_append_left _ (List.mem_of_getElem? (i := 21) rfl))))))))
set_option maxRecDepth 20000 in
theorem kl_X12_132 : Cond.constantLong RX12 132 (1701733491) ∈ lw_tbl := List.mem_append_right _ (List.mem_append_right _ (List.mem_append_right _ (List.mem_append_right _ (List.mem_append_right _ (List.mem_append_right _ (List.mem_append_right _ (List.mem_append_left _ (List.mem_of_getElem? (i := 22) rfl))))))))
set_option maxRecDepth 20000 in
theorem kl_X12_134 : Cond.constantLong RX12 134 (1818324580) ∈ lw_tbl := List.mem_append_right _ (List.mem_append_right _ (List.mem_append_right _ (List.mem_append_right _ (List.mem_append_right _ (List.mem_append_right _ (List.mem_append_right _ (List.mem_append_left _ (List.mem_of_getElem? (i := 23) rfl))))))))
set_option maxRecDepth 20000 in
theorem kl_X12_136 : Cond.constantLong RX12 136 (123610794124658) ∈ lw_tbl := List.mem_append_right _ (List.mem_append_right _ (List.mem_append_right _ (List.mem_append_right _ (List.mem_append_right _ (List.mem_append_right _ (List.mem_append_right _ (List.mem_append_left _ (List.mem_of_getElem? (i := 24) rfl))))))))
set_option maxRecDepth 20000 in
theorem kl_X12_138 : Cond.constantLong RX12 138 (1735352684) ∈ lw_tbl := List.mem_append_right _ (List.mem_append_right _ (List.mem_append_right _ (List.mem_append_right _ (List.mem_append_right _ (List.mem_append_right _ (List.mem_append_right _ (List.mem_append_left _ (List.mem_of_getElem? (i := 25) rfl))))))))
set_option maxRecDepth 20000 in
theorem kl_X12_140 : Cond.constantLong RX12 140 (1667330675) ∈ lw_tbl := List.mem_append_right _ (List.mem_append_right _ (List.mem_append_right _ (List.mem_append_right _ (List.mem_append_right _ (List.mem_append_right _ (List.mem_append_right _ (List.mem_append_left _ (List.mem_of_getElem? (i := 26) rfl))))))))
set_option maxRecDepth 20000 in
theorem kl_X12_142 : Cond.constantLong RX12 142 (109299962373989) ∈ lw_tbl := List.mem_append_right _ (List.mem_append_right _ (List.mem_append_right _ (List.mem_append_right _ (List.mem_append_right _ (List.mem_append_right _ (List.mem_append_right _ (List.mem_append_left _ (List.mem_of_getElem? (i := 27) rfl))))))))
set_option maxRecDepth 20000 in
theorem kl_X12_144 : Cond.constantLong RX12 144 (499850634611) ∈ lw_tbl := List.mem_append_right _ (List.mem_append_right _ (List.mem_append_right _ (List.mem_append_right _ (List.mem_append_right _ (List.mem_append_right _ (List.mem_append_right _ (List.mem_append_left _ (List.mem_of_getElem? (i := 28) rfl))))))))
set_option maxRecDepth 20000 in
theorem kl_X12_146 : Cond.constantLong RX12 146 (500186639987) ∈ lw_tbl := List.mem_append_right _ (List.mem_append_right _ (List.mem_append_right _ (List.mem_append_right _ (List.mem_append_right _ (List.mem_append_right _ (List.mem_append_right _ (List.mem_append_left _ (List.mem_of_getElem? (i := 29) rfl))))))))
set_option maxRecDepth 20000 in
theorem kl_X12_148 : Cond.constantLong RX12 148 (427071202675) ∈ lw_tbl := List.mem_append_right _ (List.mem_append_right _ (List.mem_append_right _ (List.mem_append_right _ (List.mem_append_right _ (List.mem_append_right _ (List.mem_append_right _ (List.mem_append_left _ (List.mem_of_getElem? (i := 30) rfl))))))))
set_option maxRecDepth 20000 in
theorem kl_X12_150 : Cond.constantLong RX12 150 (1735550329) ∈ lw_tbl := List.mem_append_right _ (List.mem_append_right _ (List.mem_append_right _ (List.mem_append_right _ (List.mem_append_right _ (List.mem_append_right _ (List.mem_append_right _ (List.mem_append_left _ (List.mem_of_getElem? (i := 31) rfl))))))))
set_option maxRecDepth 20000 in
theorem kl_X12_152 : Cond.constantLong RX12 152 (28530) ∈ lw_tbl := List.mem_append_right _ (List.mem_append_right _ (List.mem_append_right _ (List.mem_append_right _ (List.mem_append_right _ (List.mem_append_right _ (List.mem_append_right _ (List.mem_append_left _ (List.mem_of_getElem? (i := 32) rfl))))))))
set_option maxRecDepth 20000 in
theorem kl_X12_154 : Cond.constantLong RX12 154 (6385252) ∈ lw_tbl := List.mem_append_right _ (List.mem_append_right _ (List.mem_append_right _ (List.mem_append_right _ (List.mem_append_right _ (List.mem_append_right _ (List.mem_append_right _ (List.mem_append_left _ (List.mem_of_getElem? (i := 33) rfl))))))))
set_option maxRecDepth 20000 in
theorem kl_X12_156 : Cond.constantLong RX12 156 (7237492) ∈ lw_tbl := List.mem_append_right _ (List.mem_append_right _ (List.mem_append_right _ (List.mem_append_right _ (List.mem_append_right _ (List.mem_append_right _ (List.mem_append_right _ (List.mem_append_left _ (List.mem_of_getElem? (i := 34) rfl))))))))
set_option maxRecDepth 20000 in
theorem kl_X12_158 : Cond.constantLong RX12 158 (465557349491) ∈ lw_tbl := List.mem_append_right _ (List.mem_append_right _ (List.mem_append_right _ (List.mem_append_right _ (List.mem_append_right _ (List.mem_append_right _ (List.mem_append_right _ (List.mem_append_left _ (List.mem_of_getElem? (i := 35) rfl))))))))
set_option maxRecDepth 20000 in
theorem kl_X12_160 : Cond.constantLong RX12 160 (7827310) ∈ lw_tbl := List.mem_append_right _ (List.mem_append_right _ (List.mem_append_right _ (List.mem_append_right _ (List.mem_append_right _ (List.mem_append_right _ (List.mem_append_right _ (List.mem_append_left _ (List.mem_of_getElem? (i := 36) rfl))))))))
set_option maxRecDepth 20000 in
theorem kl_X12_162 : Cond.constantLong RX12 162 (6840691) ∈ lw_tbl := List.mem_append_right _ (List.mem_append_right _ (List.mem_append_right _ (List.mem_append_right _ (List.mem_append_right _ (List.mem_append_right _ (List.mem_append_right _ (List.mem_append_left _ (List.mem_of_getElem? (i := 37) rfl))))))))
set_option maxRecDepth 20000 in
theorem kl_X12_164 : Cond.constantLong RX12 164 (128047779833188) ∈ lw_tbl := List.mem_append_right _ (List.mem_append_right _ (List.mem_append_right _ (List.mem_append_right _ (List.mem_append_right _ (List.mem_append_right _ (List.mem_append_right _ (List.mem_append_left _ (List.mem_of_getElem? (i := 38) rfl))))))))
set_option maxRecDepth 20000 in
theorem kl_X12_166 : Cond.constantLong RX12 166 (495589487205) ∈ lw_tbl := List.mem_append_right _ (List.mem_append_right _ (List.mem_append_right _ (List.mem_append_right _ (List.mem_append_right _ (List.mem_append_right _ (List.mem_append_right _ (List.mem_append_left _ (List.mem_of_getElem? (i := 39) rfl))))))))
set_option maxRecDepth 20000 in
theorem kl_X12_168 : Cond.constantLong RX12 168 (495873782388) ∈ lw_tbl := List.mem_append_right _ (List.mem_append_right _ (List.mem_append_right _ (List.mem_append_right _ (List.mem_append_right _ (List.mem_append_right _ (List.mem_append_right _ (List.mem_append_left _ (List.mem_of_getElem? (i := 40) rfl))))))))
set_option maxRecDepth 20000 in
theorem kl_X12_170 : Cond.constantLong RX12 170 (474147546227) ∈ lw_tbl := List.mem_append_right _ (List.mem_append_right _ (List.mem_append_right _ (List.mem_append_right _ (List.mem_append_right _ (List.mem_append_right _ (List.mem_append_right _ (List.mem_append_left _ (List.mem_of_getElem? (i := 41) rfl))))))))
set_option maxRecDepth 20000 in
theorem kl_X12_172 : Cond.constantLong RX12 172 (121450625394034) ∈ lw_tbl := List.mem_append_right _ (List.mem_append_right _ (List.mem_append_right _ (List.mem_append_right _ (List.mem_append_right _ (List.mem_append_right _ (List.mem_append_right _ (List.mem_append_left _ (List.mem_of_getElem? (i := 42) rfl))))))))
set_option maxRecDepth 20000 in
theorem ml_X12_174 : LkM RX12 174 F_m_clears 0 := ⟨List.mem_append_right _ (List.mem_append_right _ (List.mem_append_right _ (List.mem_append_right _ (List.mem_append_right _ (List.mem_append_right _ (List.mem_append_right _ (List.mem_append_left _ (List.mem_of_getElem? (i := 43) rfl)))))))), by decide +kernel⟩
set_option maxRecDepth 20000 in
theorem ml_X12_177 : LkM RX12 177 F_m_greys 0 := ⟨List.mem_append_right _ (List.mem_append_right _ (List.mem_append_right _ (List.mem_append_right _ (List.mem_append_right _ (List.mem_append_right _ (List.mem_append_right _ (List.mem_append_left _ (List.mem_of_getElem? (i := 47) rfl)))))))), by decide +kernel⟩
set_option maxRecDepth 20000 in
theorem ml_X12_180 : LkM RX12 180 F_m_peek 0 := ⟨List.mem_append_right _ (List.mem_append_right _ (List.mem_append_right _ (List.mem_append_right _ (List.mem_append_right _ (List.mem_append_right _ (List.mem_append_right _ (List.mem_append_right _ (List.mem_append_left _ (List.mem_of_getElem? (i := 4) rfl))))))))), by decide +kernel⟩
set_option maxRecDepth 20000 in
theorem fl_X12_184 : LkF RX12 184 12 12 := ⟨_, rfl, by decide, Or.inl (List.mem_append_right _ (List.mem_append_right _ (List.mem_append_right _ (List.mem_append_right _ (List.mem_append_right _ (List.mem_append_right _ (List.mem_append_right _ (List.mem_append_left _ (List.mem_of_getElem? (i := 63) rfl)))))))))⟩
set_option maxRecDepth 20000 in
theorem fw_X12_184 : Cond.fieldLink RX12 184 RX12 (TX12 12).2.1 (TX12 12).2.2.1 ∈ lw_tbl := List.mem_append_right _ (List.mem_append_right _ (List.mem_append_right _ (List.mem_append_right _ (List.mem_append_right _ (List.mem_append_right _ (List.mem_append_right _ (List.mem_append_left _ (List.mem_of_getElem? (i := 63) rfl))))))))
set_option maxRecDepth 20000 in
theorem fl_X12_187 : LkF RX12 187 12 13 := ⟨_, rfl, by decide, Or.inl (List.mem_append_right _ (List.mem_append_right _ (List.mem_append_right _ (List.mem_append_right _ (List.mem_append_right _ (List.mem_append_right _ (List.mem_append_right _ (List.mem_append_left _ (List.mem_of_getElem? (i := 64) rfl)))))))))⟩
set_option maxRecDepth 20000 in
theorem fw_X12_187 : Cond.fieldLink RX12 187 RX12 (TX12 13).2.1 (TX12 13).2.2.1 ∈ lw_tbl := List.mem_append_right _ (List.mem_append_right _ (List.mem_append_right _ (List.mem_append_right _ (List.mem_append_right _ (List.mem_append_right _ (List.mem_append_right _ (List.mem_append_left _ (List.mem_of_getElem? (i := 64) rfl))))))))
set_option maxRecDepth 20000 in
theorem fl_X12_190 : LkF RX12 190 12 11 := ⟨_, rfl, by decide, Or.inl (List.mem_append_right _ (List.mem_append_right _ (List.mem_append_right _ (List.mem_append_right _ (List.mem_append_right _ (List.mem_append_right _ (List.mem_append_right _ (List.mem_append_left _ (List.mem_of_getElem? (i := 62) rfl)))))))))⟩
set_option maxRecDepth 20000 in
theorem fw_X12_190 : Cond.fieldLink RX12 190 RX12 (TX12 11).2.1 (TX12 11).2.2.1 ∈ lw_tbl := List.mem_append_right _ (List.mem_append_right _ (List.mem_append_right _ (List.mem_append_right _ (List.mem_append_right _ (List.mem_append_right _ (List.mem_append_right _ (List.mem_append_left _ (List.mem_of_getElem? (i := 62) rfl))))))))
set_option maxRecDepth 20000 in
theorem ml_X12_193 : LkM RX12 193 F_m_isSmall 1 := ⟨List.mem_append_right _ (List.mem_append_right _ (List.mem_append_right _ (List.mem_append_right _ (List.mem_append_right _ (List.mem_append_right _ (List.mem_append_right _ (List.mem_append_right _ (List.mem_append_left _ (List.mem_of_getElem? (i := 8) rfl))))))))), by decide +kernel⟩
set_option maxRecDepth 20000 in
theorem ml_X12_197 : LkM RX12 197 F_m_isDigit 1 := ⟨List.mem_append_right _ (List.mem_append_right _ (List.mem_append_right _ (List.mem_append_right _ (List.mem_append_right _ (List.mem_append_right _ (List.mem_append_right _ (List.mem_append_right _ (List.mem_append_left _ (List.mem_of_getElem? (i := 11) rfl))))))))), by decide +kernel⟩
set_option maxRecDepth 20000 in
theorem fl_X12_200 : LkF RX12 200 12 14 := ⟨_, rfl, by decide, Or.inl (List.mem_append_right _ (List.mem_append_right _ (List.mem_append_right _ (List.mem_append_right _ (List.mem_append_right _ (List.mem_append_right _ (List.mem_append_right _ (List.mem_append_left _ (List.mem_of_getElem? (i := 65) rfl)))))))))⟩
set_option maxRecDepth 20000 in
theorem fw_X12_200 : Cond.fieldLink RX12 200 RX12 (TX12 14).2.1 (TX12 14).2.2.1 ∈ lw_tbl := List.mem_append_right _ (List.mem_append_right _ (List.mem_append_right _ (List.mem_append_right _ (List.mem_append_right _ (List.mem_append_right _ (List.mem_append_right _ (List.mem_append_left _ (List.mem_of_getElem? (i := 65) rfl))))))))
set_option maxRecDepth 20000 in
theorem fl_X12_203 : LkF RX12 203 12 17 := ⟨_, rfl, by decide, Or.inl (List.mem_append_right _ (List.mem_append_right _ (List.mem_append_right _ (List.mem_append_right _ (List.mem_append_right _ (List.mem_append_right _ (List.mem_append_right _ (List.mem_append_left _ (List.mem_of_getElem? (i := 68) rfl)))))))))⟩
set_option maxRecDepth 20000 in
theorem fw_X12_203 : Cond.fieldLink RX12 203 RX12 (TX12 17).2.1 (TX12 17).2.2.1 ∈ lw_tbl := List.mem_append_right _ (List.mem_append_right _ (List.mem_append_right _ (List.mem_append_right _ (List.mem_append_right _ (List.mem_append_right _ (List.mem_append_right _ (List.mem_append_left _ (List.mem_of_getElem? (i := 68) rfl))))))))
set_option maxRecDepth 20000 in
theorem fl_X12_207 : LkF RX12 207 12 15 := ⟨_, rfl, by decide, Or.inl (List.mem_append_right _ (List.mem_append_right _ (List.mem_append_right _ (List.mem_append_right _ (List.mem_append_right _ (List.mem_append_right _ (List.mem_append_right _ (List.mem_append_left _ (List.mem_of_getElem? (i := 66) rfl)))))))))⟩
set_option maxRecDepth 20000 in
theorem fw_X12_207 : Cond.fieldLink RX12 207 RX12 (TX12 15).2.1 (TX12 15).2.2.1 ∈ lw_tbl := List.mem_append_right _ (List.mem_append_right _ (List.mem_append_right _ (List.mem_append_right _ (List.mem_append_right _ (List.mem_append_right _ (List.mem_append_right _ (List.mem_append_left _ (List.mem_of_getElem? (i := 66) rfl))))))))
set_option maxRecDepth 20000 in
theorem fl_X12_210 : LkF RX12 210 12 16 := ⟨_, rfl, by decide, Or.inl (List.mem_append_right _ (List.mem_append_right _ (List.mem_append_right _ (List.mem_append_right _ (List.mem_append_right _ (List.mem_append_right _ (List.mem_append_right _ (List.mem_append_left _ (List.mem_of_getElem? (i := 67) rfl)))))))))⟩
set_option maxRecDepth 20000 in
theorem fw_X12_210 : Cond.fieldLink RX12 210 RX12 (TX12 16).2.1 (TX12 16).2.2.1 ∈ lw_tbl := List.mem_append_right _ (List.mem_append_right _ (List.mem_append_right _ (List.mem_append_right _ (List.mem_append_right _ (List.mem_append_right _ (List.mem_append_right _ (List.mem_append_left _ (List.mem_of_getElem? (i := 67) rfl))))))))
set_option maxRecDepth 20000 in
theorem ml_X12_213 : LkM RX12 213 F_m_isSign 1 := ⟨List.mem_append_right _ (List.mem_append_right _ (List.mem_append_right _ (List.mem_append_right _ (List.mem_append_right _ (List.mem_append_right _ (List.mem_append_right _ (List.mem_append_right _ (List.mem_append_left _ (List.mem_of_getElem? (i := 57) rfl))))))))), by decide +kernel⟩
set_option maxRecDepth 20000 in
theorem ml_X12_216 : LkM RX12 216 F_m_bad 1 := ⟨List.mem_append_right _ (List.mem_append_right _ (List.mem_append_right _ (List.mem_append_right _ (List.mem_append_right _ (List.mem_append_right _ (List.mem_append_right _ (List.mem_append_right _ (List.mem_append_left _ (List.mem_of_getElem? (i := 22) rfl))))))))), by decide +kernel⟩
set_option maxRecDepth 20000 in
theorem ml_X12_219 : LkM RX12 219 F_m_go 0 := ⟨List.mem_append_right _ (List.mem_append_right _ (List.mem_append_right _ (List.mem_append_right _ (List.mem_append_right _ (List.mem_append_right _ (List.mem_append_right _ (List.mem_append_right _ (List.mem_append_left _ (List.mem_of_getElem? (i := 0) rfl))))))))), by decide +kernel⟩
set_option maxRecDepth 20000 in
theorem ml_X12_222 : LkM RX12 222 F_m_isIn 3 := ⟨List.mem_append_right _ (List.mem_append_right _ (List.mem_append_right _ (List.mem_append_right _ (List.mem_append_right _ (List.mem_append_right _ (List.mem_append_right _ (List.mem_append_right _ (List.mem_append_left _ (List.mem_of_getElem? (i := 46) rfl))))))))), by decide +kernel⟩
set_option maxRecDepth 20000 in
theorem fl_X12_226 : LkF RX12 226 12 18 := ⟨_, rfl, by decide, Or.inl (List.mem_append_right _ (List.mem_append_right _ (List.mem_append_right _ (List.mem_append_right _ (List.mem_append_right _ (List.mem_append_right _ (List.mem_append_right _ (List.mem_append_left _ (List.mem_of_getElem? (i := 69) rfl)))))))))⟩
set_option maxRecDepth 20000 in
theorem fw_X12_226 : Cond.fieldLink RX12 226 RX12 (TX12 18).2.1 (TX12 18).2.2.1 ∈ lw_tbl := List.mem_append_right _ (List.mem_append_right _ (List.mem_append_right _ (List.mem_append_right _ (List.mem_append_right _ (List.mem_append_right _ (List.mem_append_right _ (List.mem_append_left _ (List.mem_of_getElem? (i := 69) rfl))))))))
set_option maxRecDepth 20000 in
theorem ml_X12_229 : LkM RX12 229 F_m_takes 2 := ⟨List.mem_append_right _ (List.mem_append_right _ (List.mem_append_right _ (List.mem_append_right _ (List.mem_append_right _ (List.mem_append_right _ (List.mem_append_right _ (List.mem_append_right _ (List.mem_append_left _ (List.mem_of_getElem? (i := 42) rfl))))))))), by decide +kernel⟩
set_option maxRecDepth 20000 in
theorem ml_X12_233 : LkM RX12 233 F_m_isName 0 := ⟨List.mem_append_right _ (List.mem_append_right _ (List.mem_append_right _ (List.mem_append_right _ (List.mem_append_right _ (List.mem_append_right _ (List.mem_append_right _ (List.mem_append_right _ (List.mem_append_left _ (List.mem_of_getElem? (i := 30) rfl))))))))), by decide +kernel⟩
set_option maxRecDepth 20000 in
theorem ml_X12_237 : LkM RX12 237 F_m_find 2 := ⟨List.mem_append_right _ (List.mem_append_right _ (List.mem_append_right _ (List.mem_append_right _ (List.mem_append_right _ (List.mem_append_right _ (List.mem_append_right _ (List.mem_append_right _ (List.mem_append_left _ (List.mem_of_getElem? (i := 34) rfl))))))))), by decide +kernel⟩
set_option maxRecDepth 20000 in
theorem fl_X12_241 : LkF RX12 241 12 20 := ⟨_, rfl, by decide, Or.inl (List.mem_append_right _ (List.mem_append_right _ (List.mem_append_right _ (List.mem_append_right _ (List.mem_append_right _ (List.mem_append_right _ (List.mem_append_right _ (List.mem_append_left _ (List.mem_of_getElem? (i := 71) rfl)))))))))⟩
set_option maxRecDepth 20000 in
theorem fw_X12_241 : Cond.fieldLink RX12 241 RX12 (TX12 20).2.1 (TX12 20).2.2.1 ∈ lw_tbl := List.mem_append_right _ (List.mem_append_right _ (List.mem_append_right _ (List.mem_append_right _ (List.mem_append_right _ (List.mem_append_right _ (List.mem_append_right _ (List.mem_append_left _ (List.mem_of_getElem? (i := 71) rfl))))))))
set_option maxRecDepth 20000 in
theorem ml_X12_244 : LkM RX12 244 F_m_bitOf 2 := ⟨List.mem_append_right _ (List.mem_append_right _ (List.mem_append_right _ (List.mem_append_right _ (List.mem_append_right _ (List.mem_append_right _ (List.mem_append_right _ (List.mem_append_right _ (List.mem_append_left _ (List.mem_of_getElem? (i := 65) rfl))))))))), by decide +kernel⟩
set_option maxRecDepth 20000 in
theorem ml_X12_247 : LkM RX12 247 F_m_isWord 1 := ⟨List.mem_append_right _ (List.mem_append_right _ (List.mem_append_right _ (List.mem_append_right _ (List.mem_append_right _ (List.mem_append_right _ (List.mem_append_right _ (List.mem_append_right _ (List.mem_append_left _ (List.mem_of_getElem? (i := 18) rfl))))))))), by decide +kernel⟩
set_option maxRecDepth 20000 in
theorem ml_X12_251 : LkM RX12 251 F_m_fresh 1 := ⟨List.mem_append_right _ (List.mem_append_right _ (List.mem_append_right _ (List.mem_append_right _ (List.mem_append_right _ (List.mem_append_right _ (List.mem_append_right _ (List.mem_append_right _ (List.mem_append_left _ (List.mem_of_getElem? (i := 26) rfl))))))))), by decide +kernel⟩
set_option maxRecDepth 20000 in
theorem ml_X12_254 : LkM RX12 254 F_m_puts 3 := ⟨List.mem_append_right _ (List.mem_append_right _ (List.mem_append_right _ (List.mem_append_right _ (List.mem_append_right _ (List.mem_append_right _ (List.mem_append_right _ (List.mem_append_right _ (List.mem_append_left _ (List.mem_of_getElem? (i := 38) rfl))))))))), by decide +kernel⟩
set_option maxRecDepth 20000 in
theorem ml_X12_257 : LkM RX12 257 F_m_looksAt 2 := ⟨List.mem_append_right _ (List.mem_append_right _ (List.mem_append_right _ (List.mem_append_right _ (List.mem_append_right _ (List.mem_append_right _ (List.mem_append_right _ (List.mem_append_right _ (List.mem_append_left _ (List.mem_of_getElem? (i := 49) rfl))))))))), by decide +kernel⟩
set_option maxRecDepth 20000 in
theorem ml_X12_260 : LkM RX12 260 F_m_readLand 0 := ⟨List.mem_append_right _ (List.mem_append_right _ (List.mem_append_right _ (List.mem_append_right _ (List.mem_append_right _ (List.mem_append_right _ (List.mem_append_right _ (List.mem_append_right _ (List.mem_append_left _ (List.mem_of_getElem? (i := 53) rfl))))))))), by decide +kernel⟩
set_option maxRecDepth 20000 in
theorem ml_X12_263 : LkM RX12 263 F_m_isOnce 1 := ⟨List.mem_append_right _ (List.mem_append_right _ (List.mem_append_right _ (List.mem_append_right _ (List.mem_append_right _ (List.mem_append_right _ (List.mem_append_right _ (List.mem_append_right _ (List.mem_append_left _ (List.mem_of_getElem? (i := 61) rfl))))))))), by decide +kernel⟩
set_option maxRecDepth 20000 in
theorem ml_X12_266 : LkM RX12 266 F_m_taken 1 := ⟨List.mem_append_right _ (List.mem_append_right _ (List.mem_append_right _ (List.mem_append_right _ (List.mem_append_right _ (List.mem_append_right _ (List.mem_append_right _ (List.mem_append_left _ (List.mem_of_getElem? (i := 236) rfl)))))))), by decide +kernel⟩
set_option maxRecDepth 20000 in
theorem fl_X12_269 : LkF RX12 269 12 19 := ⟨_, rfl, by decide, Or.inl (List.mem_append_right _ (List.mem_append_right _ (List.mem_append_right _ (List.mem_append_right _ (List.mem_append_right _ (List.mem_append_right _ (List.mem_append_right _ (List.mem_append_left _ (List.mem_of_getElem? (i := 70) rfl)))))))))⟩
set_option maxRecDepth 20000 in
theorem fw_X12_269 : Cond.fieldLink RX12 269 RX12 (TX12 19).2.1 (TX12 19).2.2.1 ∈ lw_tbl := List.mem_append_right _ (List.mem_append_right _ (List.mem_append_right _ (List.mem_append_right _ (List.mem_append_right _ (List.mem_append_right _ (List.mem_append_right _ (List.mem_append_left _ (List.mem_of_getElem? (i := 70) rfl))))))))
set_option maxRecDepth 20000 in
theorem ml_X12_272 : LkM RX12 272 F_m_line 0 := ⟨List.mem_append_right _ (List.mem_append_right _ (List.mem_append_right _ (List.mem_append_right _ (List.mem_append_right _ (List.mem_append_right _ (List.mem_append_right _ (List.mem_append_right _ (List.mem_append_left _ (List.mem_of_getElem? (i := 14) rfl))))))))), by decide +kernel⟩
set_option maxRecDepth 20000 in
theorem ml_X12_275 : LkM RX12 275 F_m_sign 1 := ⟨List.mem_append_right _ (List.mem_append_right _ (List.mem_append_right _ (List.mem_append_right _ (List.mem_append_right _ (List.mem_append_right _ (List.mem_append_right _ (List.mem_append_right _ (List.mem_append_left _ (List.mem_of_getElem? (i := 68) rfl))))))))), by decide +kernel⟩
set_option maxRecDepth 20000 in
theorem fl_X12_278 : LkF RX12 278 12 25 := ⟨_, rfl, by decide, Or.inl (List.mem_append_right _ (List.mem_append_right _ (List.mem_append_right _ (List.mem_append_right _ (List.mem_append_right _ (List.mem_append_right _ (List.mem_append_right _ (List.mem_append_left _ (List.mem_of_getElem? (i := 76) rfl)))))))))⟩
set_option maxRecDepth 20000 in
theorem fw_X12_278 : Cond.fieldLink RX12 278 RX12 (TX12 25).2.1 (TX12 25).2.2.1 ∈ lw_tbl := List.mem_append_right _ (List.mem_append_right _ (List.mem_append_right _ (List.mem_append_right _ (List.mem_append_right _ (List.mem_append_right _ (List.mem_append_right _ (List.mem_append_left _ (List.mem_of_getElem? (i := 76) rfl))))))))
set_option maxRecDepth 20000 in
theorem ml_X12_281 : LkM RX12 281 F_m_isColour 1 := ⟨List.mem_append_right _ (List.mem_append_right _ (List.mem_append_right _ (List.mem_append_right _ (List.mem_append_right _ (List.mem_append_right _ (List.mem_append_right _ (List.mem_append_right _ (List.mem_append_left _ (List.mem_of_getElem? (i := 80) rfl))))))))), by decide +kernel⟩
set_option maxRecDepth 20000 in
theorem ml_X12_284 : LkM RX12 284 F_m_ownerOf 1 := ⟨List.mem_append_right _ (List.mem_append_right _ (List.mem_append_right _ (List.mem_append_right _ (List.mem_append_right _ (List.mem_append_right _ (List.mem_append_right _ (List.mem_append_right _ (List.mem_append_left _ (List.mem_of_getElem? (i := 84) rfl))))))))), by decide +kernel⟩
set_option maxRecDepth 20000 in
theorem ml_X12_288 : LkM RX12 288 F_m_cameOf 1 := ⟨List.mem_append_right _ (List.mem_append_right _ (List.mem_append_right _ (List.mem_append_right _ (List.mem_append_right _ (List.mem_append_right _ (List.mem_append_right _ (List.mem_append_right _ (List.mem_append_left _ (List.mem_of_getElem? (i := 88) rfl))))))))), by decide +kernel⟩
set_option maxRecDepth 20000 in
theorem ml_X12_291 : LkM RX12 291 F_m_isLand 1 := ⟨List.mem_append_right _ (List.mem_append_right _ (List.mem_append_right _ (List.mem_append_right _ (List.mem_append_right _ (List.mem_append_right _ (List.mem_append_right _ (List.mem_append_right _ (List.mem_append_left _ (List.mem_of_getElem? (i := 96) rfl))))))))), by decide +kernel⟩
set_option maxRecDepth 20000 in
theorem ml_X12_294 : LkM RX12 294 F_m_isPlayer 1 := ⟨List.mem_append_right _ (List.mem_append_right _ (List.mem_append_right _ (List.mem_append_right _ (List.mem_append_right _ (List.mem_append_right _ (List.mem_append_right _ (List.mem_append_right _ (List.mem_append_left _ (List.mem_of_getElem? (i := 104) rfl))))))))), by decide +kernel⟩
set_option maxRecDepth 20000 in
theorem ml_X12_297 : LkM RX12 297 F_m_throwsIf 1 := ⟨List.mem_append_right _ (List.mem_append_right _ (List.mem_append_right _ (List.mem_append_right _ (List.mem_append_right _ (List.mem_append_right _ (List.mem_append_right _ (List.mem_append_right _ (List.mem_append_left _ (List.mem_of_getElem? (i := 108) rfl))))))))), by decide +kernel⟩
set_option maxRecDepth 20000 in
theorem ml_X12_301 : LkM RX12 301 F_m_asNow 0 := ⟨List.mem_append_right _ (List.mem_append_right _ (List.mem_append_right _ (List.mem_append_right _ (List.mem_append_right _ (List.mem_append_right _ (List.mem_append_right _ (List.mem_append_right _ (List.mem_append_left _ (List.mem_of_getElem? (i := 120) rfl))))))))), by decide +kernel⟩
set_option maxRecDepth 20000 in
theorem ml_X12_304 : LkM RX12 304 F_m_arrived 0 := ⟨List.mem_append_right _ (List.mem_append_right _ (List.mem_append_right _ (List.mem_append_right _ (List.mem_append_right _ (List.mem_append_right _ (List.mem_append_right _ (List.mem_append_right _ (List.mem_append_left _ (List.mem_of_getElem? (i := 124) rfl))))))))), by decide +kernel⟩
set_option maxRecDepth 20000 in
theorem ml_X12_307 : LkM RX12 307 F_m_hasEnded 0 := ⟨List.mem_append_right _ (List.mem_append_right _ (List.mem_append_right _ (List.mem_append_right _ (List.mem_append_right _ (List.mem_append_right _ (List.mem_append_right _ (List.mem_append_right _ (List.mem_append_left _ (List.mem_of_getElem? (i := 128) rfl))))))))), by decide +kernel⟩
set_option maxRecDepth 20000 in
theorem ml_X12_310 : LkM RX12 310 F_m_isOver 0 := ⟨List.mem_append_right _ (List.mem_append_right _ (List.mem_append_right _ (List.mem_append_right _ (List.mem_append_right _ (List.mem_append_right _ (List.mem_append_right _ (List.mem_append_right _ (List.mem_append_left _ (List.mem_of_getElem? (i := 116) rfl))))))))), by decide +kernel⟩
set_option maxRecDepth 20000 in
theorem ml_X12_313 : LkM RX12 313 F_m_ahead 0 := ⟨List.mem_append_right _ (List.mem_append_right _ (List.mem_append_right _ (List.mem_append_right _ (List.mem_append_right _ (List.mem_append_right _ (List.mem_append_right _ (List.mem_append_right _ (List.mem_append_left _ (List.mem_of_getElem? (i := 136) rfl))))))))), by decide +kernel⟩
set_option maxRecDepth 20000 in
theorem ml_X12_316 : LkM RX12 316 F_m_winner 0 := ⟨List.mem_append_right _ (List.mem_append_right _ (List.mem_append_right _ (List.mem_append_right _ (List.mem_append_right _ (List.mem_append_right _ (List.mem_append_right _ (List.mem_append_right _ (List.mem_append_left _ (List.mem_of_getElem? (i := 132) rfl))))))))), by decide +kernel⟩
set_option maxRecDepth 20000 in
theorem ml_X12_319 : LkM RX12 319 F_m_weighs 0 := ⟨List.mem_append_right _ (List.mem_append_right _ (List.mem_append_right _ (List.mem_append_right _ (List.mem_append_right _ (List.mem_append_right _ (List.mem_append_right _ (List.mem_append_right _ (List.mem_append_left _ (List.mem_of_getElem? (i := 176) rfl))))))))), by decide +kernel⟩
set_option maxRecDepth 20000 in
theorem ml_X12_322 : LkM RX12 322 F_m_lands 0 := ⟨List.mem_append_right _ (List.mem_append_right _ (List.mem_append_right _ (List.mem_append_right _ (List.mem_append_right _ (List.mem_append_right _ (List.mem_append_right _ (List.mem_append_right _ (List.mem_append_left _ (List.mem_of_getElem? (i := 180) rfl))))))))), by decide +kernel⟩
set_option maxRecDepth 20000 in
theorem ml_X12_325 : LkM RX12 325 F_m_whyTake 2 := ⟨List.mem_append_right _ (List.mem_append_right _ (List.mem_append_right _ (List.mem_append_right _ (List.mem_append_right _ (List.mem_append_right _ (List.mem_append_right _ (List.mem_append_right _ (List.mem_append_left _ (List.mem_of_getElem? (i := 144) rfl))))))))), by decide +kernel⟩
set_option maxRecDepth 20000 in
theorem ml_X12_328 : LkM RX12 328 F_m_keep 0 := ⟨List.mem_append_right _ (List.mem_append_right _ (List.mem_append_right _ (List.mem_append_right _ (List.mem_append_right _ (List.mem_append_right _ (List.mem_append_right _ (List.mem_append_right _ (List.mem_append_left _ (List.mem_of_getElem? (i := 148) rfl))))))))), by decide +kernel⟩
set_option maxRecDepth 20000 in
theorem ml_X12_331 : LkM RX12 331 F_m_taking 2 := ⟨List.mem_append_right _ (List.mem_append_right _ (List.mem_append_right _ (List.mem_append_right _ (List.mem_append_right _ (List.mem_append_right _ (List.mem_append_right _ (List.mem_append_right _ (List.mem_append_left _ (List.mem_of_getElem? (i := 152) rfl))))))))), by decide +kernel⟩
set_option maxRecDepth 20000 in
theorem ml_X12_335 : LkM RX12 335 F_m_whyTurn 2 := ⟨List.mem_append_right _ (List.mem_append_right _ (List.mem_append_right _ (List.mem_append_right _ (List.mem_append_right _ (List.mem_append_right _ (List.mem_append_right _ (List.mem_append_right _ (List.mem_append_left _ (List.mem_of_getElem? (i := 160) rfl))))))))), by decide +kernel⟩
set_option maxRecDepth 20000 in
theorem ml_X12_338 : LkM RX12 338 F_m_turning 2 := ⟨List.mem_append_right _ (List.mem_append_right _ (List.mem_append_right _ (List.mem_append_right _ (List.mem_append_right _ (List.mem_append_right _ (List.mem_append_right _ (List.mem_append_right _ (List.mem_append_left _ (List.mem_of_getElem? (i := 164) rfl))))))))), by decide +kernel⟩
set_option maxRecDepth 20000 in
theorem ml_X12_341 : LkM RX12 341 F_m_whyCome 1 := ⟨List.mem_append_right _ (List.mem_append_right _ (List.mem_append_right _ (List.mem_append_right _ (List.mem_append_right _ (List.mem_append_right _ (List.mem_append_right _ (List.mem_append_right _ (List.mem_append_left _ (List.mem_of_getElem? (i := 172) rfl))))))))), by decide +kernel⟩
set_option maxRecDepth 20000 in
theorem ml_X12_344 : LkM RX12 344 F_m_coming 1 := ⟨List.mem_append_right _ (List.mem_append_right _ (List.mem_append_right _ (List.mem_append_right _ (List.mem_append_right _ (List.mem_append_right _ (List.mem_append_right _ (List.mem_append_right _ (List.mem_append_left _ (List.mem_of_getElem? (i := 184) rfl))))))))), by decide +kernel⟩
set_option maxRecDepth 20000 in
theorem kl_X12_347 : Cond.constantLong RX12 347 (12) ∈ lw_tbl := List.mem_append_right _ (List.mem_append_right _ (List.mem_append_right _ (List.mem_append_right _ (List.mem_append_right _ (List.mem_append_right _ (List.mem_append_right _ (List.mem_append_right _ (List.mem_append_left _ (List.mem_of_getElem? (i := 218) rfl)))))))))
set_option maxRecDepth 20000 in
theorem ml_X12_349 : LkM RX12 349 F_m_weights 0 := ⟨List.mem_append_right _ (List.mem_append_right _ (List.mem_append_right _ (List.mem_append_right _ (List.mem_append_right _ (List.mem_append_right _ (List.mem_append_right _ (List.mem_append_right _ (List.mem_append_left _ (List.mem_of_getElem? (i := 211) rfl))))))))), by decide +kernel⟩
set_option maxRecDepth 20000 in
theorem ml_X12_353 : LkM RX12 353 F_m_twelves 1 := ⟨List.mem_append_right _ (List.mem_append_right _ (List.mem_append_right _ (List.mem_append_right _ (List.mem_append_right _ (List.mem_append_right _ (List.mem_append_right _ (List.mem_append_right _ (List.mem_append_left _ (List.mem_of_getElem? (i := 215) rfl))))))))), by decide +kernel⟩
set_option maxRecDepth 20000 in
theorem fl_X12_357 : LkF RX12 357 12 31 := ⟨_, rfl, by decide, Or.inl (List.mem_append_right _ (List.mem_append_right _ (List.mem_append_right _ (List.mem_append_right _ (List.mem_append_right _ (List.mem_append_right _ (List.mem_append_right _ (List.mem_append_left _ (List.mem_of_getElem? (i := 82) rfl)))))))))⟩
set_option maxRecDepth 20000 in
theorem fw_X12_357 : Cond.fieldLink RX12 357 RX12 (TX12 31).2.1 (TX12 31).2.2.1 ∈ lw_tbl := List.mem_append_right _ (List.mem_append_right _ (List.mem_append_right _ (List.mem_append_right _ (List.mem_append_right _ (List.mem_append_right _ (List.mem_append_right _ (List.mem_append_left _ (List.mem_of_getElem? (i := 82) rfl))))))))
set_option maxRecDepth 20000 in
theorem ml_X12_360 : LkM RX12 360 F_m_ends 3 := ⟨List.mem_append_right _ (List.mem_append_right _ (List.mem_append_right _ (List.mem_append_right _ (List.mem_append_right _ (List.mem_append_right _ (List.mem_append_right _ (List.mem_append_right _ (List.mem_append_left _ (List.mem_of_getElem? (i := 219) rfl))))))))), by decide +kernel⟩
set_option maxRecDepth 20000 in
theorem ml_X12_364 : LkM RX12 364 F_m_slot 0 := ⟨List.mem_append_right _ (List.mem_append_right _ (List.mem_append_right _ (List.mem_append_right _ (List.mem_append_right _ (List.mem_append_right _ (List.mem_append_right _ (List.mem_append_right _ (List.mem_append_left _ (List.mem_of_getElem? (i := 223) rfl))))))))), by decide +kernel⟩
set_option maxRecDepth 20000 in
theorem ml_X12_367 : LkM RX12 367 F_m_comes 4 := ⟨List.mem_append_right _ (List.mem_append_right _ (List.mem_append_right _ (List.mem_append_right _ (List.mem_append_right _ (List.mem_append_right _ (List.mem_append_right _ (List.mem_append_right _ (List.mem_append_left _ (List.mem_of_getElem? (i := 227) rfl))))))))), by decide +kernel⟩
set_option maxRecDepth 20000 in
theorem ml_X12_371 : LkM RX12 371 F_m_stands 1 := ⟨List.mem_append_right _ (List.mem_append_right _ (List.mem_append_right _ (List.mem_append_right _ (List.mem_append_right _ (List.mem_append_right _ (List.mem_append_right _ (List.mem_append_right _ (List.mem_append_left _ (List.mem_of_getElem? (i := 231) rfl))))))))), by decide +kernel⟩
set_option maxRecDepth 20000 in
theorem ml_X12_374 : LkM RX12 374 F_m_carsLeft 0 := ⟨List.mem_append_right _ (List.mem_append_right _ (List.mem_append_right _ (List.mem_append_right _ (List.mem_append_right _ (List.mem_append_right _ (List.mem_append_right _ (List.mem_append_right _ (List.mem_append_left _ (List.mem_of_getElem? (i := 203) rfl))))))))), by decide +kernel⟩
set_option maxRecDepth 20000 in
theorem ml_X12_377 : LkM RX12 377 F_m_goes 2 := ⟨List.mem_append_right _ (List.mem_append_right _ (List.mem_append_right _ (List.mem_append_right _ (List.mem_append_right _ (List.mem_append_right _ (List.mem_append_right _ (List.mem_append_right _ (List.mem_append_left _ (List.mem_of_getElem? (i := 207) rfl))))))))), by decide +kernel⟩
set_option maxRecDepth 20000 in
theorem ml_X12_381 : LkM RX12 381 F_m_isPart 1 := ⟨List.mem_append_right _ (List.mem_append_right _ (List.mem_append_right _ (List.mem_append_right _ (List.mem_append_right _ (List.mem_append_right _ (List.mem_append_right _ (List.mem_append_right _ (List.mem_append_left _ (List.mem_of_getElem? (i := 196) rfl))))))))), by decide +kernel⟩
set_option maxRecDepth 20000 in
theorem ml_X12_384 : LkM RX12 384 F_m_goesNow 0 := ⟨List.mem_append_right _ (List.mem_append_right _ (List.mem_append_right _ (List.mem_append_right _ (List.mem_append_right _ (List.mem_append_right _ (List.mem_append_right _ (List.mem_append_right _ (List.mem_append_left _ (List.mem_of_getElem? (i := 199) rfl))))))))), by decide +kernel⟩
set_option maxRecDepth 20000 in
theorem ml_X12_387 : LkM RX12 387 F_m_part 3 := ⟨List.mem_append_right _ (List.mem_append_right _ (List.mem_append_right _ (List.mem_append_right _ (List.mem_append_right _ (List.mem_append_right _ (List.mem_append_right _ (List.mem_append_right _ (List.mem_append_left _ (List.mem_of_getElem? (i := 235) rfl))))))))), by decide +kernel⟩
set_option maxRecDepth 20000 in
theorem fl_X12_391 : LkF RX12 391 12 35 := ⟨_, rfl, by decide, Or.inl (List.mem_append_right _ (List.mem_append_right _ (List.mem_append_right _ (List.mem_append_right _ (List.mem_append_right _ (List.mem_append_right _ (List.mem_append_right _ (List.mem_append_left _ (List.mem_of_getElem? (i := 86) rfl)))))))))⟩
set_option maxRecDepth 20000 in
theorem fw_X12_391 : Cond.fieldLink RX12 391 RX12 (TX12 35).2.1 (TX12 35).2.2.1 ∈ lw_tbl := List.mem_append_right _ (List.mem_append_right _ (List.mem_append_right _ (List.mem_append_right _ (List.mem_append_right _ (List.mem_append_right _ (List.mem_append_right _ (List.mem_append_left _ (List.mem_of_getElem? (i := 86) rfl))))))))
set_option maxRecDepth 20000 in
theorem ml_X12_394 : LkM RX12 394 F_m_isTaken 2 := ⟨List.mem_append_right _ (List.mem_append_right _ (List.mem_append_right _ (List.mem_append_right _ (List.mem_append_right _ (List.mem_append_right _ (List.mem_append_right _ (List.mem_append_right _ (List.mem_append_right _ (List.mem_append_left _ (List.mem_of_getElem? (i := 30) rfl)))))))))), by decide +kernel⟩
set_option maxRecDepth 20000 in
theorem ml_X12_397 : LkM RX12 397 F_m_likelyBy 1 := ⟨List.mem_append_right _ (List.mem_append_right _ (List.mem_append_right _ (List.mem_append_right _ (List.mem_append_right _ (List.mem_append_right _ (List.mem_append_right _ (List.mem_append_right _ (List.mem_append_right _ (List.mem_append_left _ (List.mem_of_getElem? (i := 46) rfl)))))))))), by decide +kernel⟩
set_option maxRecDepth 20000 in
theorem ml_X12_400 : LkM RX12 400 F_m_choosesLast 0 := ⟨List.mem_append_right _ (List.mem_append_right _ (List.mem_append_right _ (List.mem_append_right _ (List.mem_append_right _ (List.mem_append_right _ (List.mem_append_right _ (List.mem_append_right _ (List.mem_append_right _ (List.mem_append_left _ (List.mem_of_getElem? (i := 42) rfl)))))))))), by decide +kernel⟩
set_option maxRecDepth 20000 in
theorem ml_X12_403 : LkM RX12 403 F_m_choosesSecond 0 := ⟨List.mem_append_right _ (List.mem_append_right _ (List.mem_append_right _ (List.mem_append_right _ (List.mem_append_right _ (List.mem_append_right _ (List.mem_append_right _ (List.mem_append_right _ (List.mem_append_right _ (List.mem_append_left _ (List.mem_of_getElem? (i := 38) rfl)))))))))), by decide +kernel⟩
set_option maxRecDepth 20000 in
theorem ml_X12_406 : LkM RX12 406 F_m_choosesBehind 0 := ⟨List.mem_append_right _ (List.mem_append_right _ (List.mem_append_right _ (List.mem_append_right _ (List.mem_append_right _ (List.mem_append_right _ (List.mem_append_right _ (List.mem_append_right _ (List.mem_append_right _ (List.mem_append_left _ (List.mem_of_getElem? (i := 34) rfl)))))))))), by decide +kernel⟩
set_option maxRecDepth 20000 in
theorem ml_X12_409 : LkM RX12 409 F_m_chooses 0 := ⟨List.mem_append_right _ (List.mem_append_right _ (List.mem_append_right _ (List.mem_append_right _ (List.mem_append_right _ (List.mem_append_right _ (List.mem_append_right _ (List.mem_append_right _ (List.mem_append_right _ (List.mem_append_left _ (List.mem_of_getElem? (i := 26) rfl)))))))))), by decide +kernel⟩
set_option maxRecDepth 20000 in
theorem ml_X12_412 : LkM RX12 412 F_m_likelyWith 3 := ⟨List.mem_append_right _ (List.mem_append_right _ (List.mem_append_right _ (List.mem_append_right _ (List.mem_append_right _ (List.mem_append_right _ (List.mem_append_right _ (List.mem_append_right _ (List.mem_append_right _ (List.mem_append_left _ (List.mem_of_getElem? (i := 58) rfl)))))))))), by decide +kernel⟩
set_option maxRecDepth 20000 in
theorem ml_X12_416 : LkM RX12 416 F_m_weighsFirst 0 := ⟨List.mem_append_right _ (List.mem_append_right _ (List.mem_append_right _ (List.mem_append_right _ (List.mem_append_right _ (List.mem_append_right _ (List.mem_append_right _ (List.mem_append_right _ (List.mem_append_right _ (List.mem_append_left _ (List.mem_of_getElem? (i := 74) rfl)))))))))), by decide +kernel⟩
set_option maxRecDepth 20000 in
theorem ml_X12_419 : LkM RX12 419 F_m_unlike 2 := ⟨List.mem_append_right _ (List.mem_append_right _ (List.mem_append_right _ (List.mem_append_right _ (List.mem_append_right _ (List.mem_append_right _ (List.mem_append_right _ (List.mem_append_right _ (List.mem_append_right _ (List.mem_append_left _ (List.mem_of_getElem? (i := 70) rfl)))))))))), by decide +kernel⟩
set_option maxRecDepth 20000 in
theorem ml_X12_423 : LkM RX12 423 F_m_place 4 := ⟨List.mem_append_right _ (List.mem_append_right _ (List.mem_append_right _ (List.mem_append_right _ (List.mem_append_right _ (List.mem_append_right _ (List.mem_append_right _ (List.mem_append_right _ (List.mem_append_right _ (List.mem_append_left _ (List.mem_of_getElem? (i := 99) rfl)))))))))), by decide +kernel⟩
set_option maxRecDepth 20000 in
theorem ml_X12_427 : LkM RX12 427 F_m_weightOf 1 := ⟨List.mem_append_right _ (List.mem_append_right _ (List.mem_append_right _ (List.mem_append_right _ (List.mem_append_right _ (List.mem_append_right _ (List.mem_append_right _ (List.mem_append_right _ (List.mem_append_right _ (List.mem_append_left _ (List.mem_of_getElem? (i := 110) rfl)))))))))), by decide +kernel⟩
set_option maxRecDepth 20000 in
theorem ml_X12_430 : LkM RX12 430 F_m_stepOf 1 := ⟨List.mem_append_right _ (List.mem_append_right _ (List.mem_append_right _ (List.mem_append_right _ (List.mem_append_right _ (List.mem_append_right _ (List.mem_append_right _ (List.mem_append_right _ (List.mem_append_right _ (List.mem_append_left _ (List.mem_of_getElem? (i := 114) rfl)))))))))), by decide +kernel⟩
set_option maxRecDepth 20000 in
theorem fl_X12_433 : LkF RX12 433 12 43 := ⟨_, rfl, by decide, Or.inl (List.mem_append_right _ (List.mem_append_right _ (List.mem_append_right _ (List.mem_append_right _ (List.mem_append_right _ (List.mem_append_right _ (List.mem_append_right _ (List.mem_append_left _ (List.mem_of_getElem? (i := 94) rfl)))))))))⟩
set_option maxRecDepth 20000 in
theorem fw_X12_433 : Cond.fieldLink RX12 433 RX12 (TX12 43).2.1 (TX12 43).2.2.1 ∈ lw_tbl := List.mem_append_right _ (List.mem_append_right _ (List.mem_append_right _ (List.mem_append_right _ (List.mem_append_right _ (List.mem_append_right _ (List.mem_append_right _ (List.mem_append_left _ (List.mem_of_getElem? (i := 94) rfl))))))))
set_option maxRecDepth 20000 in
theorem fl_X12_436 : LkF RX12 436 12 42 := ⟨_, rfl, by decide, Or.inl (List.mem_append_right _ (List.mem_append_right _ (List.mem_append_right _ (List.mem_append_right _ (List.mem_append_right _ (List.mem_append_right _ (List.mem_append_right _ (List.mem_append_left _ (List.mem_of_getElem? (i := 93) rfl)))))))))⟩
set_option maxRecDepth 20000 in
theorem fw_X12_436 : Cond.fieldLink RX12 436 RX12 (TX12 42).2.1 (TX12 42).2.2.1 ∈ lw_tbl := List.mem_append_right _ (List.mem_append_right _ (List.mem_append_right _ (List.mem_append_right _ (List.mem_append_right _ (List.mem_append_right _ (List.mem_append_right _ (List.mem_append_left _ (List.mem_of_getElem? (i := 93) rfl))))))))
set_option maxRecDepth 20000 in
theorem ml_X12_439 : LkM RX12 439 F_m_turnsTo 4 := ⟨List.mem_append_right _ (List.mem_append_right _ (List.mem_append_right _ (List.mem_append_right _ (List.mem_append_right _ (List.mem_append_right _ (List.mem_append_right _ (List.mem_append_right _ (List.mem_append_right _ (List.mem_append_left _ (List.mem_of_getElem? (i := 95) rfl)))))))))), by decide +kernel⟩
set_option maxRecDepth 20000 in
theorem ml_X12_442 : LkM RX12 442 F_m_rowOf 4 := ⟨List.mem_append_right _ (List.mem_append_right _ (List.mem_append_right _ (List.mem_append_right _ (List.mem_append_right _ (List.mem_append_right _ (List.mem_append_right _ (List.mem_append_right _ (List.mem_append_right _ (List.mem_append_left _ (List.mem_of_getElem? (i := 103) rfl)))))))))), by decide +kernel⟩
set_option maxRecDepth 20000 in
theorem ml_X12_445 : LkM RX12 445 F_m_rightOf 3 := ⟨List.mem_append_right _ (List.mem_append_right _ (List.mem_append_right _ (List.mem_append_right _ (List.mem_append_right _ (List.mem_append_right _ (List.mem_append_right _ (List.mem_append_right _ (List.mem_append_right _ (List.mem_append_left _ (List.mem_of_getElem? (i := 106) rfl)))))))))), by decide +kernel⟩
set_option maxRecDepth 20000 in
theorem ml_X12_449 : LkM RX12 449 F_m_mayTurn 1 := ⟨List.mem_append_right _ (List.mem_append_right _ (List.mem_append_right _ (List.mem_append_right _ (List.mem_append_right _ (List.mem_append_right _ (List.mem_append_right _ (List.mem_append_right _ (List.mem_append_right _ (List.mem_append_left _ (List.mem_of_getElem? (i := 86) rfl)))))))))), by decide +kernel⟩
set_option maxRecDepth 20000 in
theorem ml_X12_452 : LkM RX12 452 F_m_likely 2 := ⟨List.mem_append_right _ (List.mem_append_right _ (List.mem_append_right _ (List.mem_append_right _ (List.mem_append_right _ (List.mem_append_right _ (List.mem_append_right _ (List.mem_append_right _ (List.mem_append_right _ (List.mem_append_left _ (List.mem_of_getElem? (i := 90) rfl)))))))))), by decide +kernel⟩
set_option maxRecDepth 20000 in
theorem ml_X12_455 : LkM RX12 455 F_m_rights 1 := ⟨List.mem_append_right _ (List.mem_append_right _ (List.mem_append_right _ (List.mem_append_right _ (List.mem_append_right _ (List.mem_append_right _ (List.mem_append_right _ (List.mem_append_right _ (List.mem_append_right _ (List.mem_append_left _ (List.mem_of_getElem? (i := 91) rfl)))))))))), by decide +kernel⟩
set_option maxRecDepth 20000 in
theorem ml_X12_458 : LkM RX12 458 F_m_octet 1 := ⟨List.mem_append_right _ (List.mem_append_right _ (List.mem_append_right _ (List.mem_append_right _ (List.mem_append_right _ (List.mem_append_right _ (List.mem_append_right _ (List.mem_append_right _ (List.mem_append_right _ (List.mem_append_left _ (List.mem_of_getElem? (i := 125) rfl)))))))))), by decide +kernel⟩
set_option maxRecDepth 20000 in
theorem fl_X12_461 : LkF RX12 461 12 46 := ⟨_, rfl, by decide, Or.inl (List.mem_append_right _ (List.mem_append_right _ (List.mem_append_right _ (List.mem_append_right _ (List.mem_append_right _ (List.mem_append_right _ (List.mem_append_right _ (List.mem_append_left _ (List.mem_of_getElem? (i := 97) rfl)))))))))⟩
set_option maxRecDepth 20000 in
theorem fw_X12_461 : Cond.fieldLink RX12 461 RX12 (TX12 46).2.1 (TX12 46).2.2.1 ∈ lw_tbl := List.mem_append_right _ (List.mem_append_right _ (List.mem_append_right _ (List.mem_append_right _ (List.mem_append_right _ (List.mem_append_right _ (List.mem_append_right _ (List.mem_append_left _ (List.mem_of_getElem? (i := 97) rfl))))))))
set_option maxRecDepth 20000 in
theorem ki_X12_464 : Cond.constant RX12 464 (1103515245) ∈ lw_tbl := List.mem_append_right _ (List.mem_append_right _ (List.mem_append_right _ (List.mem_append_right _ (List.mem_append_right _ (List.mem_append_right _ (List.mem_append_right _ (List.mem_append_right _ (List.mem_append_right _ (List.mem_append_left _ (List.mem_of_getElem? (i := 157) rfl))))))))))
set_option maxRecDepth 20000 in
theorem ml_X12_465 : LkM RX12 465 F_m_draw 1 := ⟨List.mem_append_right _ (List.mem_append_right _ (List.mem_append_right _ (List.mem_append_right _ (List.mem_append_right _ (List.mem_append_right _ (List.mem_append_right _ (List.mem_append_right _ (List.mem_append_right _ (List.mem_append_left _ (List.mem_of_getElem? (i := 153) rfl)))))))))), by decide +kernel⟩
set_option maxRecDepth 20000 in
theorem ml_X12_468 : LkM RX12 468 F_m_draws 1 := ⟨List.mem_append_right _ (List.mem_append_right _ (List.mem_append_right _ (List.mem_append_right _ (List.mem_append_right _ (List.mem_append_right _ (List.mem_append_right _ (List.mem_append_right _ (List.mem_append_right _ (List.mem_append_left _ (List.mem_of_getElem? (i := 149) rfl)))))))))), by decide +kernel⟩
set_option maxRecDepth 20000 in
theorem ml_X12_471 : LkM RX12 471 F_m_tries 0 := ⟨List.mem_append_right _ (List.mem_append_right _ (List.mem_append_right _ (List.mem_append_right _ (List.mem_append_right _ (List.mem_append_right _ (List.mem_append_right _ (List.mem_append_right _ (List.mem_append_right _ (List.mem_append_left _ (List.mem_of_getElem? (i := 162) rfl)))))))))), by decide +kernel⟩
set_option maxRecDepth 20000 in
theorem ml_X12_474 : LkM RX12 474 F_m_back 0 := ⟨List.mem_append_right _ (List.mem_append_right _ (List.mem_append_right _ (List.mem_append_right _ (List.mem_append_right _ (List.mem_append_right _ (List.mem_append_right _ (List.mem_append_right _ (List.mem_append_right _ (List.mem_append_left _ (List.mem_of_getElem? (i := 166) rfl)))))))))), by decide +kernel⟩
set_option maxRecDepth 20000 in
theorem fl_X12_477 : LkF RX12 477 12 47 := ⟨_, rfl, by decide, Or.inl (List.mem_append_right _ (List.mem_append_right _ (List.mem_append_right _ (List.mem_append_right _ (List.mem_append_right _ (List.mem_append_right _ (List.mem_append_right _ (List.mem_append_left _ (List.mem_of_getElem? (i := 98) rfl)))))))))⟩
set_option maxRecDepth 20000 in
theorem fw_X12_477 : Cond.fieldLink RX12 477 RX12 (TX12 47).2.1 (TX12 47).2.2.1 ∈ lw_tbl := List.mem_append_right _ (List.mem_append_right _ (List.mem_append_right _ (List.mem_append_right _ (List.mem_append_right _ (List.mem_append_right _ (List.mem_append_right _ (List.mem_append_left _ (List.mem_of_getElem? (i := 98) rfl))))))))
set_option maxRecDepth 20000 in
theorem ml_X12_480 : LkM RX12 480 F_m_logLine 0 := ⟨List.mem_append_right _ (List.mem_append_right _ (List.mem_append_right _ (List.mem_append_right _ (List.mem_append_right _ (List.mem_append_right _ (List.mem_append_right _ (List.mem_append_right _ (List.mem_append_right _ (List.mem_append_left _ (List.mem_of_getElem? (i := 174) rfl)))))))))), by decide +kernel⟩
set_option maxRecDepth 20000 in
theorem ml_X12_483 : LkM RX12 483 F_m_does 1 := ⟨List.mem_append_right _ (List.mem_append_right _ (List.mem_append_right _ (List.mem_append_right _ (List.mem_append_right _ (List.mem_append_right _ (List.mem_append_right _ (List.mem_append_right _ (List.mem_append_right _ (List.mem_append_left _ (List.mem_of_getElem? (i := 178) rfl)))))))))), by decide +kernel⟩
set_option maxRecDepth 20000 in
theorem fl_X12_486 : LkF RX12 486 12 49 := ⟨_, rfl, by decide, Or.inl (List.mem_append_right _ (List.mem_append_right _ (List.mem_append_right _ (List.mem_append_right _ (List.mem_append_right _ (List.mem_append_right _ (List.mem_append_right _ (List.mem_append_left _ (List.mem_of_getElem? (i := 100) rfl)))))))))⟩
set_option maxRecDepth 20000 in
theorem fw_X12_486 : Cond.fieldLink RX12 486 RX12 (TX12 49).2.1 (TX12 49).2.2.1 ∈ lw_tbl := List.mem_append_right _ (List.mem_append_right _ (List.mem_append_right _ (List.mem_append_right _ (List.mem_append_right _ (List.mem_append_right _ (List.mem_append_right _ (List.mem_append_left _ (List.mem_of_getElem? (i := 100) rfl))))))))
set_option maxRecDepth 20000 in
theorem fl_X12_490 : LkF RX12 490 12 51 := ⟨_, rfl, by decide, Or.inl (List.mem_append_right _ (List.mem_append_right _ (List.mem_append_right _ (List.mem_append_right _ (List.mem_append_right _ (List.mem_append_right _ (List.mem_append_right _ (List.mem_append_left _ (List.mem_of_getElem? (i := 102) rfl)))))))))⟩
set_option maxRecDepth 20000 in
theorem fw_X12_490 : Cond.fieldLink RX12 490 RX12 (TX12 51).2.1 (TX12 51).2.2.1 ∈ lw_tbl := List.mem_append_right _ (List.mem_append_right _ (List.mem_append_right _ (List.mem_append_right _ (List.mem_append_right _ (List.mem_append_right _ (List.mem_append_right _ (List.mem_append_left _ (List.mem_of_getElem? (i := 102) rfl))))))))
set_option maxRecDepth 20000 in
theorem fl_X12_493 : LkF RX12 493 12 53 := ⟨_, rfl, by decide, Or.inl (List.mem_append_right _ (List.mem_append_right _ (List.mem_append_right _ (List.mem_append_right _ (List.mem_append_right _ (List.mem_append_right _ (List.mem_append_right _ (List.mem_append_left _ (List.mem_of_getElem? (i := 104) rfl)))))))))⟩
set_option maxRecDepth 20000 in
theorem fw_X12_493 : Cond.fieldLink RX12 493 RX12 (TX12 53).2.1 (TX12 53).2.2.1 ∈ lw_tbl := List.mem_append_right _ (List.mem_append_right _ (List.mem_append_right _ (List.mem_append_right _ (List.mem_append_right _ (List.mem_append_right _ (List.mem_append_right _ (List.mem_append_left _ (List.mem_of_getElem? (i := 104) rfl))))))))
set_option maxRecDepth 20000 in
theorem ml_X12_496 : LkM RX12 496 F_m_code 3 := ⟨List.mem_append_right _ (List.mem_append_right _ (List.mem_append_right _ (List.mem_append_right _ (List.mem_append_right _ (List.mem_append_right _ (List.mem_append_right _ (List.mem_append_right _ (List.mem_append_right _ (List.mem_append_left _ (List.mem_of_getElem? (i := 194) rfl)))))))))), by decide +kernel⟩
set_option maxRecDepth 20000 in
theorem fl_X12_500 : LkF RX12 500 12 54 := ⟨_, rfl, by decide, Or.inl (List.mem_append_right _ (List.mem_append_right _ (List.mem_append_right _ (List.mem_append_right _ (List.mem_append_right _ (List.mem_append_right _ (List.mem_append_right _ (List.mem_append_left _ (List.mem_of_getElem? (i := 105) rfl)))))))))⟩
set_option maxRecDepth 20000 in
theorem fw_X12_500 : Cond.fieldLink RX12 500 RX12 (TX12 54).2.1 (TX12 54).2.2.1 ∈ lw_tbl := List.mem_append_right _ (List.mem_append_right _ (List.mem_append_right _ (List.mem_append_right _ (List.mem_append_right _ (List.mem_append_right _ (List.mem_append_right _ (List.mem_append_left _ (List.mem_of_getElem? (i := 105) rfl))))))))
set_option maxRecDepth 20000 in
theorem ml_X12_503 : LkM RX12 503 F_m_leafOf 0 := ⟨List.mem_append_right _ (List.mem_append_right _ (List.mem_append_right _ (List.mem_append_right _ (List.mem_append_right _ (List.mem_append_right _ (List.mem_append_right _ (List.mem_append_right _ (List.mem_append_right _ (List.mem_append_left _ (List.mem_of_getElem? (i := 210) rfl)))))))))), by decide +kernel⟩
set_option maxRecDepth 20000 in
theorem fl_X12_506 : LkF RX12 506 12 52 := ⟨_, rfl, by decide, Or.inl (List.mem_append_right _ (List.mem_append_right _ (List.mem_append_right _ (List.mem_append_right _ (List.mem_append_right _ (List.mem_append_right _ (List.mem_append_right _ (List.mem_append_left _ (List.mem_of_getElem? (i := 103) rfl)))))))))⟩
set_option maxRecDepth 20000 in
theorem fw_X12_506 : Cond.fieldLink RX12 506 RX12 (TX12 52).2.1 (TX12 52).2.2.1 ∈ lw_tbl := List.mem_append_right _ (List.mem_append_right _ (List.mem_append_right _ (List.mem_append_right _ (List.mem_append_right _ (List.mem_append_right _ (List.mem_append_right _ (List.mem_append_left _ (List.mem_of_getElem? (i := 103) rfl))))))))
set_option maxRecDepth 20000 in
theorem fl_X12_509 : LkF RX12 509 12 55 := ⟨_, rfl, by decide, Or.inl (List.mem_append_right _ (List.mem_append_right _ (List.mem_append_right _ (List.mem_append_right _ (List.mem_append_right _ (List.mem_append_right _ (List.mem_append_right _ (List.mem_append_left _ (List.mem_of_getElem? (i := 106) rfl)))))))))⟩
set_option maxRecDepth 20000 in
theorem fw_X12_509 : Cond.fieldLink RX12 509 RX12 (TX12 55).2.1 (TX12 55).2.2.1 ∈ lw_tbl := List.mem_append_right _ (List.mem_append_right _ (List.mem_append_right _ (List.mem_append_right _ (List.mem_append_right _ (List.mem_append_right _ (List.mem_append_right _ (List.mem_append_left _ (List.mem_of_getElem? (i := 106) rfl))))))))
set_option maxRecDepth 20000 in
theorem ml_X12_512 : LkM RX12 512 F_m_nots 0 := ⟨List.mem_append_right _ (List.mem_append_right _ (List.mem_append_right _ (List.mem_append_right _ (List.mem_append_right _ (List.mem_append_right _ (List.mem_append_right _ (List.mem_append_right _ (List.mem_append_right _ (List.mem_append_left _ (List.mem_of_getElem? (i := 190) rfl)))))))))), by decide +kernel⟩
set_option maxRecDepth 20000 in
theorem ml_X12_515 : LkM RX12 515 F_m_joins 1 := ⟨List.mem_append_right _ (List.mem_append_right _ (List.mem_append_right _ (List.mem_append_right _ (List.mem_append_right _ (List.mem_append_right _ (List.mem_append_right _ (List.mem_append_right _ (List.mem_append_right _ (List.mem_append_left _ (List.mem_of_getElem? (i := 198) rfl)))))))))), by decide +kernel⟩
set_option maxRecDepth 20000 in
theorem ml_X12_518 : LkM RX12 518 F_m_behind 0 := ⟨List.mem_append_right _ (List.mem_append_right _ (List.mem_append_right _ (List.mem_append_right _ (List.mem_append_right _ (List.mem_append_right _ (List.mem_append_right _ (List.mem_append_right _ (List.mem_append_right _ (List.mem_append_left _ (List.mem_of_getElem? (i := 202) rfl)))))))))), by decide +kernel⟩
set_option maxRecDepth 20000 in
theorem ml_X12_520 : LkM RX12 520 F_m_operand 0 := ⟨List.mem_append_right _ (List.mem_append_right _ (List.mem_append_right _ (List.mem_append_right _ (List.mem_append_right _ (List.mem_append_right _ (List.mem_append_right _ (List.mem_append_right _ (List.mem_append_right _ (List.mem_append_left _ (List.mem_of_getElem? (i := 206) rfl)))))))))), by decide +kernel⟩
set_option maxRecDepth 20000 in
theorem ml_X12_523 : LkM RX12 523 F_m_isLeaf 4 := ⟨List.mem_append_right _ (List.mem_append_right _ (List.mem_append_right _ (List.mem_append_right _ (List.mem_append_right _ (List.mem_append_right _ (List.mem_append_right _ (List.mem_append_right _ (List.mem_append_right _ (List.mem_append_left _ (List.mem_of_getElem? (i := 222) rfl)))))))))), by decide +kernel⟩
set_option maxRecDepth 20000 in
theorem ml_X12_527 : LkM RX12 527 F_m_isSaid 1 := ⟨List.mem_append_right _ (List.mem_append_right _ (List.mem_append_right _ (List.mem_append_right _ (List.mem_append_right _ (List.mem_append_right _ (List.mem_append_right _ (List.mem_append_right _ (List.mem_append_right _ (List.mem_append_left _ (List.mem_of_getElem? (i := 218) rfl)))))))))), by decide +kernel⟩
