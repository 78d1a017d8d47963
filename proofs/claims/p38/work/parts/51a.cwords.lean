set_option maxRecDepth 20000 in
theorem cl_X0_15 : Cond.classLink RX0 15 "[[J" ∈ lw_tbl := List.mem_append_right _ (List.mem_append_right _ (List.mem_append_left _ (List.mem_of_getElem? (i := 166) rfl)))
set_option maxRecDepth 20000 in
theorem cl_X0_20 : Cond.classLink RX0 20 "[[I" ∈ lw_tbl := List.mem_append_right _ (List.mem_append_right _ (List.mem_append_left _ (List.mem_of_getElem? (i := 168) rfl)))
set_option maxRecDepth 20000 in
theorem cl_X3_11 : Cond.classLink RX3 11 "RedWhite$Trip" ∈ lw_tbl := List.mem_append_right _ (List.mem_append_right _ (List.mem_append_left _ (List.mem_of_getElem? (i := 89) rfl)))
set_option maxRecDepth 20000 in
theorem cl_X4_29 : Cond.classLink RX4 29 "[[I" ∈ lw_tbl := List.mem_append_right _ (List.mem_append_left _ (List.mem_of_getElem? (i := 97) rfl))
set_option maxRecDepth 20000 in
theorem cl_X5_15 : Cond.classLink RX5 15 "RedWhite$Road" ∈ lw_tbl := List.mem_append_right _ (List.mem_append_left _ (List.mem_of_getElem? (i := 91) rfl))
set_option maxRecDepth 20000 in
theorem cl_X7_9 : Cond.classLink RX7 9 "RedWhite$Sentence" ∈ lw_tbl := List.mem_append_right _ (List.mem_append_right _ (List.mem_append_left _ (List.mem_of_getElem? (i := 1) rfl)))
set_option maxRecDepth 20000 in
theorem cl_X10_47 : Cond.classLink RX10 47 "[[J" ∈ lw_tbl := List.mem_append_right _ (List.mem_append_right _ (List.mem_append_left _ (List.mem_of_getElem? (i := 197) rfl)))
set_option maxRecDepth 20000 in
theorem cl_X11_9 : Cond.classLink RX11 9 "RedWhite$Tape" ∈ lw_tbl := List.mem_append_right _ (List.mem_append_left _ (List.mem_of_getElem? (i := 33) rfl))
set_option maxRecDepth 20000 in
theorem cl_X11_16 : Cond.classLink RX11 16 "RedWhite$RoadText" ∈ lw_tbl := List.mem_append_right _ (List.mem_append_left _ (List.mem_of_getElem? (i := 85) rfl))
set_option maxRecDepth 20000 in
theorem cl_X11_25 : Cond.classLink RX11 25 "RedWhite$LogText" ∈ lw_tbl := List.mem_append_right _ (List.mem_append_left _ (List.mem_of_getElem? (i := 212) rfl))
set_option maxRecDepth 20000 in
theorem cl_X11_32 : Cond.classLink RX11 32 "RedWhite$SentenceText" ∈ lw_tbl := List.mem_append_right _ (List.mem_append_left _ (List.mem_of_getElem? (i := 235) rfl))
set_option maxRecDepth 20000 in
theorem cl_X11_39 : Cond.classLink RX11 39 "RedWhite$Trip" ∈ lw_tbl := List.mem_append_right _ (List.mem_append_right _ (List.mem_append_left _ (List.mem_of_getElem? (i := 31) rfl)))
set_option maxRecDepth 20000 in
theorem cl_X11_41 : Cond.classLink RX11 41 "RedWhite$Road" ∈ lw_tbl := List.mem_append_right _ (List.mem_append_right _ (List.mem_append_left _ (List.mem_of_getElem? (i := 33) rfl)))
set_option maxRecDepth 20000 in
theorem cl_X11_58 : Cond.classLink RX11 58 "RedWhite$Past" ∈ lw_tbl := List.mem_append_right _ (List.mem_append_right _ (List.mem_append_left _ (List.mem_of_getElem? (i := 83) rfl)))
set_option maxRecDepth 20000 in
theorem cl_X11_65 : Cond.classLink RX11 65 "RedWhite$Odds" ∈ lw_tbl := List.mem_append_right _ (List.mem_append_right _ (List.mem_append_left _ (List.mem_of_getElem? (i := 99) rfl)))
set_option maxRecDepth 20000 in
theorem cl_X11_75 : Cond.classLink RX11 75 "RedWhite$Chooser" ∈ lw_tbl := List.mem_append_right _ (List.mem_append_right _ (List.mem_append_left _ (List.mem_of_getElem? (i := 160) rfl)))
set_option maxRecDepth 20000 in
theorem cl_X11_84 : Cond.classLink RX11 84 "RedWhite$Waiting" ∈ lw_tbl := List.mem_append_right _ (List.mem_append_right _ (List.mem_append_left _ (List.mem_of_getElem? (i := 191) rfl)))
set_option maxRecDepth 20000 in
theorem cl_X11_95 : Cond.classLink RX11 95 "RedWhite$Sentence" ∈ lw_tbl := List.mem_append_right _ (List.mem_append_right _ (List.mem_append_right _ (List.mem_append_left _ (List.mem_of_getElem? (i := 22) rfl))))
set_option maxRecDepth 20000 in
theorem cl_X11_194 : Cond.classLink RX11 194 "java/util/NoSuchElementException" ∈ lw_tbl := List.mem_append_right _ (List.mem_append_right _ (List.mem_append_right _ (List.mem_append_right _ (List.mem_append_right _ (List.mem_append_right _ (List.mem_append_left _ (List.mem_of_getElem? (i := 83) rfl)))))))
set_option maxRecDepth 20000 in
theorem in_X0 : Cond.instantiable "RedWhite$Chooser" 6 ∈ lw_tbl := List.mem_append_right _ (List.mem_append_right _ (List.mem_append_left _ (List.mem_of_getElem? (i := 161) rfl)))
set_option maxRecDepth 20000 in
theorem iz_X0 : Cond.initialized "RedWhite$Chooser" ∈ lw_tbl := List.mem_append_right _ (List.mem_append_left _ (List.mem_of_getElem? (i := 11) rfl))
set_option maxRecDepth 20000 in
theorem in_X1 : Cond.instantiable "RedWhite$LogText" 5 ∈ lw_tbl := List.mem_append_right _ (List.mem_append_left _ (List.mem_of_getElem? (i := 213) rfl))
set_option maxRecDepth 20000 in
theorem iz_X1 : Cond.initialized "RedWhite$LogText" ∈ lw_tbl := List.mem_append_right _ (List.mem_append_left _ (List.mem_of_getElem? (i := 5) rfl))
set_option maxRecDepth 20000 in
theorem in_X2 : Cond.instantiable "RedWhite$Odds" 15 ∈ lw_tbl := List.mem_append_right _ (List.mem_append_right _ (List.mem_append_left _ (List.mem_of_getElem? (i := 100) rfl)))
set_option maxRecDepth 20000 in
theorem iz_X2 : Cond.initialized "RedWhite$Odds" ∈ lw_tbl := List.mem_append_right _ (List.mem_append_left _ (List.mem_of_getElem? (i := 10) rfl))
set_option maxRecDepth 20000 in
theorem in_X3 : Cond.instantiable "RedWhite$Past" 2 ∈ lw_tbl := List.mem_append_right _ (List.mem_append_right _ (List.mem_append_left _ (List.mem_of_getElem? (i := 84) rfl)))
set_option maxRecDepth 20000 in
theorem iz_X3 : Cond.initialized "RedWhite$Past" ∈ lw_tbl := List.mem_append_right _ (List.mem_append_left _ (List.mem_of_getElem? (i := 9) rfl))
set_option maxRecDepth 20000 in
theorem in_X4 : Cond.instantiable "RedWhite$Road" 15 ∈ lw_tbl := List.mem_append_right _ (List.mem_append_left _ (List.mem_of_getElem? (i := 92) rfl))
set_option maxRecDepth 20000 in
theorem iz_X4 : Cond.initialized "RedWhite$Road" ∈ lw_tbl := List.mem_append_right _ (List.mem_append_left _ (List.mem_of_getElem? (i := 4) rfl))
set_option maxRecDepth 20000 in
theorem in_X5 : Cond.instantiable "RedWhite$RoadText" 4 ∈ lw_tbl := List.mem_append_right _ (List.mem_append_left _ (List.mem_of_getElem? (i := 86) rfl))
set_option maxRecDepth 20000 in
theorem iz_X5 : Cond.initialized "RedWhite$RoadText" ∈ lw_tbl := List.mem_append_right _ (List.mem_append_left _ (List.mem_of_getElem? (i := 3) rfl))
set_option maxRecDepth 20000 in
theorem in_X6 : Cond.instantiable "RedWhite$Sentence" 5 ∈ lw_tbl := List.mem_append_right _ (List.mem_append_right _ (List.mem_append_left _ (List.mem_of_getElem? (i := 2) rfl)))
set_option maxRecDepth 20000 in
theorem iz_X6 : Cond.initialized "RedWhite$Sentence" ∈ lw_tbl := List.mem_append_right _ (List.mem_append_left _ (List.mem_of_getElem? (i := 7) rfl))
set_option maxRecDepth 20000 in
theorem in_X7 : Cond.instantiable "RedWhite$SentenceText" 2 ∈ lw_tbl := List.mem_append_right _ (List.mem_append_left _ (List.mem_of_getElem? (i := 236) rfl))
set_option maxRecDepth 20000 in
theorem iz_X7 : Cond.initialized "RedWhite$SentenceText" ∈ lw_tbl := List.mem_append_right _ (List.mem_append_left _ (List.mem_of_getElem? (i := 6) rfl))
set_option maxRecDepth 20000 in
theorem in_X8 : Cond.instantiable "RedWhite$Tape" 11 ∈ lw_tbl := List.mem_append_right _ (List.mem_append_left _ (List.mem_of_getElem? (i := 34) rfl))
set_option maxRecDepth 20000 in
theorem iz_X8 : Cond.initialized "RedWhite$Tape" ∈ lw_tbl := List.mem_append_right _ (List.mem_append_left _ (List.mem_of_getElem? (i := 2) rfl))
set_option maxRecDepth 20000 in
theorem in_X9 : Cond.instantiable "RedWhite$Trip" 7 ∈ lw_tbl := List.mem_append_right _ (List.mem_append_right _ (List.mem_append_left _ (List.mem_of_getElem? (i := 32) rfl)))
set_option maxRecDepth 20000 in
theorem iz_X9 : Cond.initialized "RedWhite$Trip" ∈ lw_tbl := List.mem_append_right _ (List.mem_append_left _ (List.mem_of_getElem? (i := 8) rfl))
set_option maxRecDepth 20000 in
theorem in_X10 : Cond.instantiable "RedWhite$Waiting" 20 ∈ lw_tbl := List.mem_append_right _ (List.mem_append_right _ (List.mem_append_left _ (List.mem_of_getElem? (i := 192) rfl)))
set_option maxRecDepth 20000 in
theorem iz_X10 : Cond.initialized "RedWhite$Waiting" ∈ lw_tbl := List.mem_append_right _ (List.mem_append_left _ (List.mem_of_getElem? (i := 12) rfl))
set_option maxRecDepth 20000 in
theorem in_X11 : Cond.instantiable "RedWhite" 18 ∈ lw_tbl := List.mem_append_right _ (List.mem_append_left _ (List.mem_of_getElem? (i := 26) rfl))
set_option maxRecDepth 20000 in
theorem iz_X11 : Cond.initialized "RedWhite" ∈ lw_tbl := List.mem_append_right _ (List.mem_append_left _ (List.mem_of_getElem? (i := 1) rfl))
set_option maxRecDepth 20000 in
theorem in_X12 : Cond.instantiable "RedWhiteModel" 60 ∈ lw_tbl := List.mem_append_right _ (List.mem_append_right _ (List.mem_append_right _ (List.mem_append_right _ (List.mem_append_right _ (List.mem_append_right _ (List.mem_append_right _ (List.mem_append_left _ (List.mem_of_getElem? (i := 9) rfl))))))))
set_option maxRecDepth 20000 in
theorem iz_X12 : Cond.initialized "RedWhiteModel" ∈ lw_tbl := List.mem_append_right _ (List.mem_append_left _ (List.mem_of_getElem? (i := 13) rfl))
