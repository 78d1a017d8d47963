set_option maxRecDepth 100000 in
def F_L_player : Fm := (RL, yL_player, cL_player, [(0, .aload_n 3, 1), (1, .iconst 0, 1), (2, .aload_n 0, 1), (3, .iload_n 1, 1), (4, .iload_n 2, 1), (5, .invokevirtual 7, 3), (8, .i2l, 1), (9, .lastore, 1), (10, .goto 7, 3), (13, .astore 4, 2), (15, .iconst 1, 1), (16, .ireturn, 1), (17, .iconst 0, 1), (18, .ireturn, 1)], 5, (some .int))
set_option maxRecDepth 100000 in
theorem mo_L_player : MOkH F_L_player [(0, 10, 13, 13)] := ⟨⟨by decide +kernel, by decide +kernel, by decide +kernel⟩, rfl, List.mem_append_right _ (List.mem_append_right _ (List.mem_append_right _ (List.mem_append_right _ (List.mem_append_right _ (List.mem_append_right _ (List.mem_append_left _ (List.mem_of_getElem? (i := 73) rfl))))))), List.mem_append_right _ (List.mem_append_left _ (List.mem_of_getElem? (i := 0) rfl)), by decide +kernel⟩
set_option maxRecDepth 20000 in
theorem stt_L_player : Cond.static (fy F_L_player) ∈ lw_tbl := List.mem_append_right _ (List.mem_append_right _ (List.mem_append_right _ (List.mem_append_right _ (List.mem_append_right _ (List.mem_append_right _ (List.mem_append_left _ (List.mem_of_getElem? (i := 72) rfl)))))))
set_option maxRecDepth 100000 in
def F_L_likely : Fm := (RL, yL_likely, cL_likely, [(0, .aload_n 3, 1), (1, .iconst 0, 1), (2, .aload_n 0, 1), (3, .iload_n 1, 1), (4, .iload_n 2, 1), (5, .invokevirtual 15, 3), (8, .lastore, 1), (9, .goto 7, 3), (12, .astore 4, 2), (14, .iconst 1, 1), (15, .ireturn, 1), (16, .iconst 0, 1), (17, .ireturn, 1)], 5, (some .int))
set_option maxRecDepth 100000 in
theorem mo_L_likely : MOkH F_L_likely [(0, 9, 12, 13)] := ⟨⟨by decide +kernel, by decide +kernel, by decide +kernel⟩, rfl, List.mem_append_right _ (List.mem_append_right _ (List.mem_append_right _ (List.mem_append_right _ (List.mem_append_right _ (List.mem_append_right _ (List.mem_append_left _ (List.mem_of_getElem? (i := 146) rfl))))))), List.mem_append_right _ (List.mem_append_left _ (List.mem_of_getElem? (i := 0) rfl)), by decide +kernel⟩
set_option maxRecDepth 20000 in
theorem stt_L_likely : Cond.static (fy F_L_likely) ∈ lw_tbl := List.mem_append_right _ (List.mem_append_right _ (List.mem_append_right _ (List.mem_append_right _ (List.mem_append_right _ (List.mem_append_right _ (List.mem_append_left _ (List.mem_of_getElem? (i := 145) rfl)))))))
set_option maxRecDepth 100000 in
def F_L_nobody : Fm := (RL, yL_nobody, cL_nobody, [(0, .aload_n 2, 1), (1, .iconst 0, 1), (2, .aload_n 0, 1), (3, .iload_n 1, 1), (4, .invokevirtual 19, 3), (7, .lastore, 1), (8, .goto 6, 3), (11, .astore_n 3, 1), (12, .iconst 1, 1), (13, .ireturn, 1), (14, .iconst 0, 1), (15, .ireturn, 1)], 4, (some .int))
set_option maxRecDepth 100000 in
theorem mo_L_nobody : MOkH F_L_nobody [(0, 8, 11, 13)] := ⟨⟨by decide +kernel, by decide +kernel, by decide +kernel⟩, rfl, List.mem_append_right _ (List.mem_append_right _ (List.mem_append_right _ (List.mem_append_right _ (List.mem_append_right _ (List.mem_append_right _ (List.mem_append_left _ (List.mem_of_getElem? (i := 162) rfl))))))), List.mem_append_right _ (List.mem_append_left _ (List.mem_of_getElem? (i := 0) rfl)), by decide +kernel⟩
set_option maxRecDepth 20000 in
theorem stt_L_nobody : Cond.static (fy F_L_nobody) ∈ lw_tbl := List.mem_append_right _ (List.mem_append_right _ (List.mem_append_right _ (List.mem_append_right _ (List.mem_append_right _ (List.mem_append_right _ (List.mem_append_left _ (List.mem_of_getElem? (i := 161) rfl)))))))
set_option maxRecDepth 100000 in
def F_L_where : Fm := (RL, yL_where, cL_where, [(0, .aload_n 3, 1), (1, .iconst 0, 1), (2, .aload_n 0, 1), (3, .iload_n 1, 1), (4, .iload_n 2, 1), (5, .invokevirtual 23, 3), (8, .lastore, 1), (9, .goto 7, 3), (12, .astore 4, 2), (14, .iconst 1, 1), (15, .ireturn, 1), (16, .iconst 0, 1), (17, .ireturn, 1)], 5, (some .int))
set_option maxRecDepth 100000 in
theorem mo_L_where : MOkH F_L_where [(0, 9, 12, 13)] := ⟨⟨by decide +kernel, by decide +kernel, by decide +kernel⟩, rfl, List.mem_append_right _ (List.mem_append_right _ (List.mem_append_right _ (List.mem_append_right _ (List.mem_append_right _ (List.mem_append_right _ (List.mem_append_left _ (List.mem_of_getElem? (i := 169) rfl))))))), List.mem_append_right _ (List.mem_append_left _ (List.mem_of_getElem? (i := 0) rfl)), by decide +kernel⟩
set_option maxRecDepth 20000 in
theorem stt_L_where : Cond.static (fy F_L_where) ∈ lw_tbl := List.mem_append_right _ (List.mem_append_right _ (List.mem_append_right _ (List.mem_append_right _ (List.mem_append_right _ (List.mem_append_right _ (List.mem_append_left _ (List.mem_of_getElem? (i := 168) rfl)))))))
set_option maxRecDepth 100000 in
def F_L_next : Fm := (RL, yL_next, cL_next, [(0, .aload_n 3, 1), (1, .iconst 0, 1), (2, .aload_n 0, 1), (3, .iload_n 1, 1), (4, .iload_n 2, 1), (5, .invokevirtual 26, 3), (8, .lastore, 1), (9, .goto 7, 3), (12, .astore 4, 2), (14, .iconst 1, 1), (15, .ireturn, 1), (16, .iconst 0, 1), (17, .ireturn, 1)], 5, (some .int))
set_option maxRecDepth 100000 in
theorem mo_L_next : MOkH F_L_next [(0, 9, 12, 13)] := ⟨⟨by decide +kernel, by decide +kernel, by decide +kernel⟩, rfl, List.mem_append_right _ (List.mem_append_right _ (List.mem_append_right _ (List.mem_append_right _ (List.mem_append_right _ (List.mem_append_right _ (List.mem_append_left _ (List.mem_of_getElem? (i := 178) rfl))))))), List.mem_append_right _ (List.mem_append_left _ (List.mem_of_getElem? (i := 0) rfl)), by decide +kernel⟩
set_option maxRecDepth 20000 in
theorem stt_L_next : Cond.static (fy F_L_next) ∈ lw_tbl := List.mem_append_right _ (List.mem_append_right _ (List.mem_append_right _ (List.mem_append_right _ (List.mem_append_right _ (List.mem_append_right _ (List.mem_append_left _ (List.mem_of_getElem? (i := 177) rfl)))))))
set_option maxRecDepth 100000 in
def F_L_left : Fm := (RL, yL_left, cL_left, [(0, .aload_n 2, 1), (1, .iconst 0, 1), (2, .aload_n 0, 1), (3, .iload_n 1, 1), (4, .invokevirtual 29, 3), (7, .lastore, 1), (8, .goto 6, 3), (11, .astore_n 3, 1), (12, .iconst 1, 1), (13, .ireturn, 1), (14, .iconst 0, 1), (15, .ireturn, 1)], 4, (some .int))
set_option maxRecDepth 100000 in
theorem mo_L_left : MOkH F_L_left [(0, 8, 11, 13)] := ⟨⟨by decide +kernel, by decide +kernel, by decide +kernel⟩, rfl, List.mem_append_right _ (List.mem_append_right _ (List.mem_append_right _ (List.mem_append_right _ (List.mem_append_right _ (List.mem_append_right _ (List.mem_append_left _ (List.mem_of_getElem? (i := 187) rfl))))))), List.mem_append_right _ (List.mem_append_left _ (List.mem_of_getElem? (i := 0) rfl)), by decide +kernel⟩
set_option maxRecDepth 20000 in
theorem stt_L_left : Cond.static (fy F_L_left) ∈ lw_tbl := List.mem_append_right _ (List.mem_append_right _ (List.mem_append_right _ (List.mem_append_right _ (List.mem_append_right _ (List.mem_append_right _ (List.mem_append_left _ (List.mem_of_getElem? (i := 186) rfl)))))))
set_option maxRecDepth 100000 in
def F_L_over : Fm := (RL, yL_over, cL_over, [(0, .aload_n 3, 1), (1, .iconst 0, 1), (2, .aload_n 0, 1), (3, .iload_n 1, 1), (4, .iload_n 2, 1), (5, .invokevirtual 32, 3), (8, .lastore, 1), (9, .goto 7, 3), (12, .astore 4, 2), (14, .iconst 1, 1), (15, .ireturn, 1), (16, .iconst 0, 1), (17, .ireturn, 1)], 5, (some .int))
set_option maxRecDepth 100000 in
theorem mo_L_over : MOkH F_L_over [(0, 9, 12, 13)] := ⟨⟨by decide +kernel, by decide +kernel, by decide +kernel⟩, rfl, List.mem_append_right _ (List.mem_append_right _ (List.mem_append_right _ (List.mem_append_right _ (List.mem_append_right _ (List.mem_append_right _ (List.mem_append_left _ (List.mem_of_getElem? (i := 198) rfl))))))), List.mem_append_right _ (List.mem_append_left _ (List.mem_of_getElem? (i := 0) rfl)), by decide +kernel⟩
set_option maxRecDepth 20000 in
theorem stt_L_over : Cond.static (fy F_L_over) ∈ lw_tbl := List.mem_append_right _ (List.mem_append_right _ (List.mem_append_right _ (List.mem_append_right _ (List.mem_append_right _ (List.mem_append_right _ (List.mem_append_left _ (List.mem_of_getElem? (i := 197) rfl)))))))
set_option maxRecDepth 100000 in
def F_L_chance : Fm := (RL, yL_chance, cL_chance, [(0, .aload_n 3, 1), (1, .iconst 0, 1), (2, .aload_n 0, 1), (3, .iload_n 1, 1), (4, .iload_n 2, 1), (5, .invokevirtual 35, 3), (8, .lastore, 1), (9, .goto 7, 3), (12, .astore 4, 2), (14, .iconst 1, 1), (15, .ireturn, 1), (16, .iconst 0, 1), (17, .ireturn, 1)], 5, (some .int))
set_option maxRecDepth 100000 in
theorem mo_L_chance : MOkH F_L_chance [(0, 9, 12, 13)] := ⟨⟨by decide +kernel, by decide +kernel, by decide +kernel⟩, rfl, List.mem_append_right _ (List.mem_append_right _ (List.mem_append_right _ (List.mem_append_right _ (List.mem_append_right _ (List.mem_append_right _ (List.mem_append_left _ (List.mem_of_getElem? (i := 209) rfl))))))), List.mem_append_right _ (List.mem_append_left _ (List.mem_of_getElem? (i := 0) rfl)), by decide +kernel⟩
set_option maxRecDepth 20000 in
theorem stt_L_chance : Cond.static (fy F_L_chance) ∈ lw_tbl := List.mem_append_right _ (List.mem_append_right _ (List.mem_append_right _ (List.mem_append_right _ (List.mem_append_right _ (List.mem_append_right _ (List.mem_append_left _ (List.mem_of_getElem? (i := 208) rfl)))))))
set_option maxRecDepth 100000 in
def F_L_right : Fm := (RL, yL_right, cL_right, [(0, .aload_n 3, 1), (1, .iconst 0, 1), (2, .aload_n 0, 1), (3, .iload_n 1, 1), (4, .iload_n 2, 1), (5, .invokevirtual 38, 3), (8, .lastore, 1), (9, .goto 7, 3), (12, .astore 4, 2), (14, .iconst 1, 1), (15, .ireturn, 1), (16, .iconst 0, 1), (17, .ireturn, 1)], 5, (some .int))
set_option maxRecDepth 100000 in
theorem mo_L_right : MOkH F_L_right [(0, 9, 12, 13)] := ⟨⟨by decide +kernel, by decide +kernel, by decide +kernel⟩, rfl, List.mem_append_right _ (List.mem_append_right _ (List.mem_append_right _ (List.mem_append_right _ (List.mem_append_right _ (List.mem_append_right _ (List.mem_append_left _ (List.mem_of_getElem? (i := 216) rfl))))))), List.mem_append_right _ (List.mem_append_left _ (List.mem_of_getElem? (i := 0) rfl)), by decide +kernel⟩
set_option maxRecDepth 20000 in
theorem stt_L_right : Cond.static (fy F_L_right) ∈ lw_tbl := List.mem_append_right _ (List.mem_append_right _ (List.mem_append_right _ (List.mem_append_right _ (List.mem_append_right _ (List.mem_append_right _ (List.mem_append_left _ (List.mem_of_getElem? (i := 215) rfl)))))))
set_option maxRecDepth 100000 in
def F_L_also : Fm := (RL, yL_also, cL_also, [(0, .aload 4, 2), (2, .iconst 0, 1), (3, .aload_n 0, 1), (4, .iload_n 1, 1), (5, .iload_n 2, 1), (6, .iload_n 3, 1), (7, .invokevirtual 41, 3), (10, .lastore, 1), (11, .goto 7, 3), (14, .astore 5, 2), (16, .iconst 1, 1), (17, .ireturn, 1), (18, .iconst 0, 1), (19, .ireturn, 1)], 6, (some .int))
set_option maxRecDepth 100000 in
theorem mo_L_also : MOkH F_L_also [(0, 11, 14, 13)] := ⟨⟨by decide +kernel, by decide +kernel, by decide +kernel⟩, rfl, List.mem_append_right _ (List.mem_append_right _ (List.mem_append_right _ (List.mem_append_right _ (List.mem_append_right _ (List.mem_append_right _ (List.mem_append_left _ (List.mem_of_getElem? (i := 224) rfl))))))), List.mem_append_right _ (List.mem_append_left _ (List.mem_of_getElem? (i := 0) rfl)), by decide +kernel⟩
set_option maxRecDepth 20000 in
theorem stt_L_also : Cond.static (fy F_L_also) ∈ lw_tbl := List.mem_append_right _ (List.mem_append_right _ (List.mem_append_right _ (List.mem_append_right _ (List.mem_append_right _ (List.mem_append_right _ (List.mem_append_left _ (List.mem_of_getElem? (i := 223) rfl)))))))
set_option maxRecDepth 100000 in
def F_L_luck : Fm := (RL, yL_luck, cL_luck, [(0, .aload_n 2, 1), (1, .iconst 0, 1), (2, .aload_n 0, 1), (3, .iload_n 1, 1), (4, .invokevirtual 45, 3), (7, .lastore, 1), (8, .goto 6, 3), (11, .astore_n 3, 1), (12, .iconst 1, 1), (13, .ireturn, 1), (14, .iconst 0, 1), (15, .ireturn, 1)], 4, (some .int))
set_option maxRecDepth 100000 in
theorem mo_L_luck : MOkH F_L_luck [(0, 8, 11, 13)] := ⟨⟨by decide +kernel, by decide +kernel, by decide +kernel⟩, rfl, List.mem_append_right _ (List.mem_append_right _ (List.mem_append_right _ (List.mem_append_right _ (List.mem_append_right _ (List.mem_append_right _ (List.mem_append_left _ (List.mem_of_getElem? (i := 231) rfl))))))), List.mem_append_right _ (List.mem_append_left _ (List.mem_of_getElem? (i := 0) rfl)), by decide +kernel⟩
set_option maxRecDepth 20000 in
theorem stt_L_luck : Cond.static (fy F_L_luck) ∈ lw_tbl := List.mem_append_right _ (List.mem_append_right _ (List.mem_append_right _ (List.mem_append_right _ (List.mem_append_right _ (List.mem_append_right _ (List.mem_append_left _ (List.mem_of_getElem? (i := 230) rfl)))))))
set_option maxRecDepth 20000 in
theorem cl_L_13 : Cond.classLink RL 13 nsX ∈ lw_tbl := List.mem_append_right _ (List.mem_append_right _ (List.mem_append_right _ (List.mem_append_right _ (List.mem_append_right _ (List.mem_append_right _ (List.mem_append_left _ (List.mem_of_getElem? (i := 74) rfl)))))))
theorem cg_L_13 : goodWord (Cond.classLink RL 13 nsX) = true := by decide +kernel
set_option maxRecDepth 20000 in
theorem ml_L_7 : LkM RL 7 F_X11_player 2 := ⟨List.mem_append_right _ (List.mem_append_right _ (List.mem_append_right _ (List.mem_append_right _ (List.mem_append_right _ (List.mem_append_right _ (List.mem_append_left _ (List.mem_of_getElem? (i := 75) rfl))))))), by decide +kernel⟩
set_option maxRecDepth 20000 in
theorem ml_L_15 : LkM RL 15 F_X11_likely 2 := ⟨List.mem_append_right _ (List.mem_append_right _ (List.mem_append_right _ (List.mem_append_right _ (List.mem_append_right _ (List.mem_append_right _ (List.mem_append_left _ (List.mem_of_getElem? (i := 147) rfl))))))), by decide +kernel⟩
set_option maxRecDepth 20000 in
theorem ml_L_19 : LkM RL 19 F_X11_nobody 1 := ⟨List.mem_append_right _ (List.mem_append_right _ (List.mem_append_right _ (List.mem_append_right _ (List.mem_append_right _ (List.mem_append_right _ (List.mem_append_left _ (List.mem_of_getElem? (i := 163) rfl))))))), by decide +kernel⟩
set_option maxRecDepth 20000 in
theorem ml_L_23 : LkM RL 23 F_X11_where 2 := ⟨List.mem_append_right _ (List.mem_append_right _ (List.mem_append_right _ (List.mem_append_right _ (List.mem_append_right _ (List.mem_append_right _ (List.mem_append_left _ (List.mem_of_getElem? (i := 170) rfl))))))), by decide +kernel⟩
set_option maxRecDepth 20000 in
theorem ml_L_26 : LkM RL 26 F_X11_next 2 := ⟨List.mem_append_right _ (List.mem_append_right _ (List.mem_append_right _ (List.mem_append_right _ (List.mem_append_right _ (List.mem_append_right _ (List.mem_append_left _ (List.mem_of_getElem? (i := 179) rfl))))))), by decide +kernel⟩
set_option maxRecDepth 20000 in
theorem ml_L_29 : LkM RL 29 F_X11_left 1 := ⟨List.mem_append_right _ (List.mem_append_right _ (List.mem_append_right _ (List.mem_append_right _ (List.mem_append_right _ (List.mem_append_right _ (List.mem_append_left _ (List.mem_of_getElem? (i := 188) rfl))))))), by decide +kernel⟩
set_option maxRecDepth 20000 in
theorem ml_L_32 : LkM RL 32 F_X11_over 2 := ⟨List.mem_append_right _ (List.mem_append_right _ (List.mem_append_right _ (List.mem_append_right _ (List.mem_append_right _ (List.mem_append_right _ (List.mem_append_left _ (List.mem_of_getElem? (i := 199) rfl))))))), by decide +kernel⟩
set_option maxRecDepth 20000 in
theorem ml_L_35 : LkM RL 35 F_X11_chance 2 := ⟨List.mem_append_right _ (List.mem_append_right _ (List.mem_append_right _ (List.mem_append_right _ (List.mem_append_right _ (List.mem_append_right _ (List.mem_append_left _ (List.mem_of_getElem? (i := 210) rfl))))))), by decide +kernel⟩
set_option maxRecDepth 20000 in
theorem ml_L_38 : LkM RL 38 F_X11_right 2 := ⟨List.mem_append_right _ (List.mem_append_right _ (List.mem_append_right _ (List.mem_append_right _ (List.mem_append_right _ (List.mem_append_right _ (List.mem_append_left _ (List.mem_of_getElem? (i := 217) rfl))))))), by decide +kernel⟩
set_option maxRecDepth 20000 in
theorem ml_L_41 : LkM RL 41 F_X11_also 3 := ⟨List.mem_append_right _ (List.mem_append_right _ (List.mem_append_right _ (List.mem_append_right _ (List.mem_append_right _ (List.mem_append_right _ (List.mem_append_left _ (List.mem_of_getElem? (i := 225) rfl))))))), by decide +kernel⟩
set_option maxRecDepth 20000 in
theorem ml_L_45 : LkM RL 45 F_X11_luck 1 := ⟨List.mem_append_right _ (List.mem_append_right _ (List.mem_append_right _ (List.mem_append_right _ (List.mem_append_right _ (List.mem_append_right _ (List.mem_append_left _ (List.mem_of_getElem? (i := 232) rfl))))))), by decide +kernel⟩
set_option maxRecDepth 20000 in
theorem ml_L_48 : LkM RL 48 F_X11_init 0 := ⟨List.mem_append_right _ (List.mem_append_left _ (List.mem_of_getElem? (i := 27) rfl)), by decide +kernel⟩
set_option maxRecDepth 20000 in
theorem ml_L_51 : LkM RL 51 F_m_init 0 := ⟨List.mem_append_right _ (List.mem_append_right _ (List.mem_append_right _ (List.mem_append_right _ (List.mem_append_right _ (List.mem_append_right _ (List.mem_append_right _ (List.mem_append_left _ (List.mem_of_getElem? (i := 16) rfl)))))))), by decide +kernel⟩
set_option maxRecDepth 20000 in
theorem ml_L_52 : LkM RL 52 F_X11_feed 5 := ⟨List.mem_append_right _ (List.mem_append_right _ (List.mem_append_right _ (List.mem_append_left _ (List.mem_of_getElem? (i := 79) rfl)))), by decide +kernel⟩
set_option maxRecDepth 20000 in
theorem ml_L_56 : LkM RL 56 F_m_feed 5 := ⟨List.mem_append_right _ (List.mem_append_right _ (List.mem_append_right _ (List.mem_append_right _ (List.mem_append_right _ (List.mem_append_right _ (List.mem_append_right _ (List.mem_append_left _ (List.mem_of_getElem? (i := 2) rfl)))))))), by decide +kernel⟩
set_option maxRecDepth 20000 in
theorem ml_L_57 : LkM RL 57 F_X11_end 1 := ⟨List.mem_append_right _ (List.mem_append_right _ (List.mem_append_right _ (List.mem_append_left _ (List.mem_of_getElem? (i := 91) rfl)))), by decide +kernel⟩
set_option maxRecDepth 20000 in
theorem ml_L_61 : LkM RL 61 F_m_end 1 := ⟨List.mem_append_right _ (List.mem_append_right _ (List.mem_append_right _ (List.mem_append_right _ (List.mem_append_right _ (List.mem_append_right _ (List.mem_append_right _ (List.mem_append_left _ (List.mem_of_getElem? (i := 11) rfl)))))))), by decide +kernel⟩
set_option maxRecDepth 20000 in
theorem ml_L_62 : LkM RL 62 F_X11_road 0 := ⟨List.mem_append_right _ (List.mem_append_right _ (List.mem_append_right _ (List.mem_append_left _ (List.mem_of_getElem? (i := 95) rfl)))), by decide +kernel⟩
set_option maxRecDepth 20000 in
theorem ml_L_66 : LkM RL 66 F_m_road 0 := ⟨List.mem_append_right _ (List.mem_append_right _ (List.mem_append_right _ (List.mem_append_right _ (List.mem_append_right _ (List.mem_append_right _ (List.mem_append_right _ (List.mem_append_left _ (List.mem_of_getElem? (i := 232) rfl)))))))), by decide +kernel⟩
set_option maxRecDepth 20000 in
theorem ml_L_67 : LkM RL 67 F_X11_fault 0 := ⟨List.mem_append_right _ (List.mem_append_right _ (List.mem_append_right _ (List.mem_append_right _ (List.mem_append_left _ (List.mem_of_getElem? (i := 33) rfl))))), by decide +kernel⟩
set_option maxRecDepth 20000 in
theorem ml_L_70 : LkM RL 70 F_m_fault 0 := ⟨List.mem_append_right _ (List.mem_append_right _ (List.mem_append_right _ (List.mem_append_right _ (List.mem_append_right _ (List.mem_append_right _ (List.mem_append_right _ (List.mem_append_right _ (List.mem_append_left _ (List.mem_of_getElem? (i := 72) rfl))))))))), by decide +kernel⟩
set_option maxRecDepth 20000 in
theorem ml_L_71 : LkM RL 71 F_X11_colour 2 := ⟨List.mem_append_right _ (List.mem_append_right _ (List.mem_append_right _ (List.mem_append_right _ (List.mem_append_left _ (List.mem_of_getElem? (i := 37) rfl))))), by decide +kernel⟩
set_option maxRecDepth 20000 in
theorem ml_L_74 : LkM RL 74 F_m_colour 2 := ⟨List.mem_append_right _ (List.mem_append_right _ (List.mem_append_right _ (List.mem_append_right _ (List.mem_append_right _ (List.mem_append_right _ (List.mem_append_right _ (List.mem_append_right _ (List.mem_append_left _ (List.mem_of_getElem? (i := 76) rfl))))))))), by decide +kernel⟩
set_option maxRecDepth 20000 in
theorem ml_L_75 : LkM RL 75 F_X11_land 2 := ⟨List.mem_append_right _ (List.mem_append_right _ (List.mem_append_right _ (List.mem_append_right _ (List.mem_append_left _ (List.mem_of_getElem? (i := 53) rfl))))), by decide +kernel⟩
set_option maxRecDepth 20000 in
theorem ml_L_78 : LkM RL 78 F_m_land 2 := ⟨List.mem_append_right _ (List.mem_append_right _ (List.mem_append_right _ (List.mem_append_right _ (List.mem_append_right _ (List.mem_append_right _ (List.mem_append_right _ (List.mem_append_right _ (List.mem_append_left _ (List.mem_of_getElem? (i := 92) rfl))))))))), by decide +kernel⟩
set_option maxRecDepth 20000 in
theorem ml_L_79 : LkM RL 79 F_L_player 4 := ⟨List.mem_append_right _ (List.mem_append_right _ (List.mem_append_right _ (List.mem_append_right _ (List.mem_append_right _ (List.mem_append_right _ (List.mem_append_left _ (List.mem_of_getElem? (i := 71) rfl))))))), by decide +kernel⟩
set_option maxRecDepth 20000 in
theorem ml_L_84 : LkM RL 84 F_m_player 2 := ⟨List.mem_append_right _ (List.mem_append_right _ (List.mem_append_right _ (List.mem_append_right _ (List.mem_append_right _ (List.mem_append_right _ (List.mem_append_right _ (List.mem_append_right _ (List.mem_append_left _ (List.mem_of_getElem? (i := 100) rfl))))))))), by decide +kernel⟩
set_option maxRecDepth 20000 in
theorem ml_L_85 : LkM RL 85 F_X11_now 1 := ⟨List.mem_append_right _ (List.mem_append_right _ (List.mem_append_right _ (List.mem_append_right _ (List.mem_append_left _ (List.mem_of_getElem? (i := 69) rfl))))), by decide +kernel⟩
set_option maxRecDepth 20000 in
theorem ml_L_89 : LkM RL 89 F_m_now 1 := ⟨List.mem_append_right _ (List.mem_append_right _ (List.mem_append_right _ (List.mem_append_right _ (List.mem_append_right _ (List.mem_append_right _ (List.mem_append_right _ (List.mem_append_right _ (List.mem_append_left _ (List.mem_of_getElem? (i := 112) rfl))))))))), by decide +kernel⟩
set_option maxRecDepth 20000 in
theorem ml_L_90 : LkM RL 90 F_X11_take 2 := ⟨List.mem_append_right _ (List.mem_append_right _ (List.mem_append_right _ (List.mem_append_right _ (List.mem_append_left _ (List.mem_of_getElem? (i := 94) rfl))))), by decide +kernel⟩
set_option maxRecDepth 20000 in
theorem ml_L_93 : LkM RL 93 F_m_take 2 := ⟨List.mem_append_right _ (List.mem_append_right _ (List.mem_append_right _ (List.mem_append_right _ (List.mem_append_right _ (List.mem_append_right _ (List.mem_append_right _ (List.mem_append_right _ (List.mem_append_left _ (List.mem_of_getElem? (i := 140) rfl))))))))), by decide +kernel⟩
set_option maxRecDepth 20000 in
theorem ml_L_94 : LkM RL 94 F_X11_turn 2 := ⟨List.mem_append_right _ (List.mem_append_right _ (List.mem_append_right _ (List.mem_append_right _ (List.mem_append_left _ (List.mem_of_getElem? (i := 122) rfl))))), by decide +kernel⟩
set_option maxRecDepth 20000 in
theorem ml_L_97 : LkM RL 97 F_m_turn 2 := ⟨List.mem_append_right _ (List.mem_append_right _ (List.mem_append_right _ (List.mem_append_right _ (List.mem_append_right _ (List.mem_append_right _ (List.mem_append_right _ (List.mem_append_right _ (List.mem_append_left _ (List.mem_of_getElem? (i := 156) rfl))))))))), by decide +kernel⟩
set_option maxRecDepth 20000 in
theorem ml_L_98 : LkM RL 98 F_X11_come 1 := ⟨List.mem_append_right _ (List.mem_append_right _ (List.mem_append_right _ (List.mem_append_right _ (List.mem_append_left _ (List.mem_of_getElem? (i := 138) rfl))))), by decide +kernel⟩
set_option maxRecDepth 20000 in
theorem ml_L_101 : LkM RL 101 F_m_come 1 := ⟨List.mem_append_right _ (List.mem_append_right _ (List.mem_append_right _ (List.mem_append_right _ (List.mem_append_right _ (List.mem_append_right _ (List.mem_append_right _ (List.mem_append_right _ (List.mem_append_left _ (List.mem_of_getElem? (i := 168) rfl))))))))), by decide +kernel⟩
set_option maxRecDepth 20000 in
theorem ml_L_102 : LkM RL 102 F_X11_undo 0 := ⟨List.mem_append_right _ (List.mem_append_right _ (List.mem_append_right _ (List.mem_append_right _ (List.mem_append_left _ (List.mem_of_getElem? (i := 162) rfl))))), by decide +kernel⟩
set_option maxRecDepth 20000 in
theorem ml_L_105 : LkM RL 105 F_m_undo 0 := ⟨List.mem_append_right _ (List.mem_append_right _ (List.mem_append_right _ (List.mem_append_right _ (List.mem_append_right _ (List.mem_append_right _ (List.mem_append_right _ (List.mem_append_right _ (List.mem_append_left _ (List.mem_of_getElem? (i := 188) rfl))))))))), by decide +kernel⟩
set_option maxRecDepth 20000 in
theorem ml_L_106 : LkM RL 106 F_L_likely 4 := ⟨List.mem_append_right _ (List.mem_append_right _ (List.mem_append_right _ (List.mem_append_right _ (List.mem_append_right _ (List.mem_append_right _ (List.mem_append_left _ (List.mem_of_getElem? (i := 144) rfl))))))), by decide +kernel⟩
set_option maxRecDepth 20000 in
theorem ml_L_108 : LkM RL 108 F_m_likely 2 := ⟨List.mem_append_right _ (List.mem_append_right _ (List.mem_append_right _ (List.mem_append_right _ (List.mem_append_right _ (List.mem_append_right _ (List.mem_append_right _ (List.mem_append_right _ (List.mem_append_left _ (List.mem_of_getElem? (i := 192) rfl))))))))), by decide +kernel⟩
set_option maxRecDepth 20000 in
theorem ml_L_109 : LkM RL 109 F_L_nobody 3 := ⟨List.mem_append_right _ (List.mem_append_right _ (List.mem_append_right _ (List.mem_append_right _ (List.mem_append_right _ (List.mem_append_right _ (List.mem_append_left _ (List.mem_of_getElem? (i := 160) rfl))))))), by decide +kernel⟩
set_option maxRecDepth 20000 in
theorem ml_L_112 : LkM RL 112 F_m_nobody 1 := ⟨List.mem_append_right _ (List.mem_append_right _ (List.mem_append_right _ (List.mem_append_right _ (List.mem_append_right _ (List.mem_append_right _ (List.mem_append_right _ (List.mem_append_right _ (List.mem_append_left _ (List.mem_of_getElem? (i := 238) rfl))))))))), by decide +kernel⟩
set_option maxRecDepth 20000 in
theorem ml_L_113 : LkM RL 113 F_L_where 4 := ⟨List.mem_append_right _ (List.mem_append_right _ (List.mem_append_right _ (List.mem_append_right _ (List.mem_append_right _ (List.mem_append_right _ (List.mem_append_left _ (List.mem_of_getElem? (i := 167) rfl))))))), by decide +kernel⟩
set_option maxRecDepth 20000 in
theorem ml_L_115 : LkM RL 115 F_m_where 2 := ⟨List.mem_append_right _ (List.mem_append_right _ (List.mem_append_right _ (List.mem_append_right _ (List.mem_append_right _ (List.mem_append_right _ (List.mem_append_right _ (List.mem_append_right _ (List.mem_append_right _ (List.mem_append_left _ (List.mem_of_getElem? (i := 2) rfl)))))))))), by decide +kernel⟩
set_option maxRecDepth 20000 in
theorem ml_L_116 : LkM RL 116 F_L_next 4 := ⟨List.mem_append_right _ (List.mem_append_right _ (List.mem_append_right _ (List.mem_append_right _ (List.mem_append_right _ (List.mem_append_right _ (List.mem_append_left _ (List.mem_of_getElem? (i := 176) rfl))))))), by decide +kernel⟩
set_option maxRecDepth 20000 in
theorem ml_L_118 : LkM RL 118 F_m_next 2 := ⟨List.mem_append_right _ (List.mem_append_right _ (List.mem_append_right _ (List.mem_append_right _ (List.mem_append_right _ (List.mem_append_right _ (List.mem_append_right _ (List.mem_append_right _ (List.mem_append_right _ (List.mem_append_left _ (List.mem_of_getElem? (i := 6) rfl)))))))))), by decide +kernel⟩
set_option maxRecDepth 20000 in
theorem ml_L_119 : LkM RL 119 F_L_left 3 := ⟨List.mem_append_right _ (List.mem_append_right _ (List.mem_append_right _ (List.mem_append_right _ (List.mem_append_right _ (List.mem_append_right _ (List.mem_append_left _ (List.mem_of_getElem? (i := 185) rfl))))))), by decide +kernel⟩
set_option maxRecDepth 20000 in
theorem ml_L_121 : LkM RL 121 F_m_left 1 := ⟨List.mem_append_right _ (List.mem_append_right _ (List.mem_append_right _ (List.mem_append_right _ (List.mem_append_right _ (List.mem_append_right _ (List.mem_append_right _ (List.mem_append_right _ (List.mem_append_right _ (List.mem_append_left _ (List.mem_of_getElem? (i := 10) rfl)))))))))), by decide +kernel⟩
set_option maxRecDepth 20000 in
theorem ml_L_122 : LkM RL 122 F_L_over 4 := ⟨List.mem_append_right _ (List.mem_append_right _ (List.mem_append_right _ (List.mem_append_right _ (List.mem_append_right _ (List.mem_append_right _ (List.mem_append_left _ (List.mem_of_getElem? (i := 196) rfl))))))), by decide +kernel⟩
set_option maxRecDepth 20000 in
theorem ml_L_124 : LkM RL 124 F_m_over 2 := ⟨List.mem_append_right _ (List.mem_append_right _ (List.mem_append_right _ (List.mem_append_right _ (List.mem_append_right _ (List.mem_append_right _ (List.mem_append_right _ (List.mem_append_right _ (List.mem_append_right _ (List.mem_append_left _ (List.mem_of_getElem? (i := 14) rfl)))))))))), by decide +kernel⟩
set_option maxRecDepth 20000 in
theorem ml_L_125 : LkM RL 125 F_X11_favourite 0 := ⟨List.mem_append_right _ (List.mem_append_right _ (List.mem_append_right _ (List.mem_append_right _ (List.mem_append_left _ (List.mem_of_getElem? (i := 170) rfl))))), by decide +kernel⟩
set_option maxRecDepth 20000 in
theorem ml_L_128 : LkM RL 128 F_m_favourite 0 := ⟨List.mem_append_right _ (List.mem_append_right _ (List.mem_append_right _ (List.mem_append_right _ (List.mem_append_right _ (List.mem_append_right _ (List.mem_append_right _ (List.mem_append_right _ (List.mem_append_right _ (List.mem_append_left _ (List.mem_of_getElem? (i := 18) rfl)))))))))), by decide +kernel⟩
set_option maxRecDepth 20000 in
theorem ml_L_129 : LkM RL 129 F_X11_chosen 1 := ⟨List.mem_append_right _ (List.mem_append_right _ (List.mem_append_right _ (List.mem_append_right _ (List.mem_append_left _ (List.mem_of_getElem? (i := 233) rfl))))), by decide +kernel⟩
set_option maxRecDepth 20000 in
theorem ml_L_132 : LkM RL 132 F_m_chosen 1 := ⟨List.mem_append_right _ (List.mem_append_right _ (List.mem_append_right _ (List.mem_append_right _ (List.mem_append_right _ (List.mem_append_right _ (List.mem_append_right _ (List.mem_append_right _ (List.mem_append_right _ (List.mem_append_left _ (List.mem_of_getElem? (i := 22) rfl)))))))))), by decide +kernel⟩
set_option maxRecDepth 20000 in
theorem ml_L_133 : LkM RL 133 F_L_chance 4 := ⟨List.mem_append_right _ (List.mem_append_right _ (List.mem_append_right _ (List.mem_append_right _ (List.mem_append_right _ (List.mem_append_right _ (List.mem_append_left _ (List.mem_of_getElem? (i := 207) rfl))))))), by decide +kernel⟩
set_option maxRecDepth 20000 in
theorem ml_L_135 : LkM RL 135 F_m_chance 2 := ⟨List.mem_append_right _ (List.mem_append_right _ (List.mem_append_right _ (List.mem_append_right _ (List.mem_append_right _ (List.mem_append_right _ (List.mem_append_right _ (List.mem_append_right _ (List.mem_append_right _ (List.mem_append_left _ (List.mem_of_getElem? (i := 50) rfl)))))))))), by decide +kernel⟩
set_option maxRecDepth 20000 in
theorem ml_L_136 : LkM RL 136 F_X11_which 1 := ⟨List.mem_append_right _ (List.mem_append_right _ (List.mem_append_right _ (List.mem_append_right _ (List.mem_append_right _ (List.mem_append_left _ (List.mem_of_getElem? (i := 20) rfl)))))), by decide +kernel⟩
set_option maxRecDepth 20000 in
theorem ml_L_139 : LkM RL 139 F_m_which 1 := ⟨List.mem_append_right _ (List.mem_append_right _ (List.mem_append_right _ (List.mem_append_right _ (List.mem_append_right _ (List.mem_append_right _ (List.mem_append_right _ (List.mem_append_right _ (List.mem_append_right _ (List.mem_append_left _ (List.mem_of_getElem? (i := 54) rfl)))))))))), by decide +kernel⟩
set_option maxRecDepth 20000 in
theorem ml_L_140 : LkM RL 140 F_X11_fair 1 := ⟨List.mem_append_right _ (List.mem_append_right _ (List.mem_append_right _ (List.mem_append_right _ (List.mem_append_right _ (List.mem_append_left _ (List.mem_of_getElem? (i := 30) rfl)))))), by decide +kernel⟩
set_option maxRecDepth 20000 in
theorem ml_L_143 : LkM RL 143 F_m_fair 1 := ⟨List.mem_append_right _ (List.mem_append_right _ (List.mem_append_right _ (List.mem_append_right _ (List.mem_append_right _ (List.mem_append_right _ (List.mem_append_right _ (List.mem_append_right _ (List.mem_append_right _ (List.mem_append_left _ (List.mem_of_getElem? (i := 66) rfl)))))))))), by decide +kernel⟩
set_option maxRecDepth 20000 in
theorem ml_L_144 : LkM RL 144 F_X11_goal 0 := ⟨List.mem_append_right _ (List.mem_append_right _ (List.mem_append_right _ (List.mem_append_right _ (List.mem_append_right _ (List.mem_append_left _ (List.mem_of_getElem? (i := 46) rfl)))))), by decide +kernel⟩
set_option maxRecDepth 20000 in
theorem ml_L_147 : LkM RL 147 F_m_goal 0 := ⟨List.mem_append_right _ (List.mem_append_right _ (List.mem_append_right _ (List.mem_append_right _ (List.mem_append_right _ (List.mem_append_right _ (List.mem_append_right _ (List.mem_append_right _ (List.mem_append_right _ (List.mem_append_left _ (List.mem_of_getElem? (i := 78) rfl)))))))))), by decide +kernel⟩
set_option maxRecDepth 20000 in
theorem ml_L_148 : LkM RL 148 F_L_right 4 := ⟨List.mem_append_right _ (List.mem_append_right _ (List.mem_append_right _ (List.mem_append_right _ (List.mem_append_right _ (List.mem_append_right _ (List.mem_append_left _ (List.mem_of_getElem? (i := 214) rfl))))))), by decide +kernel⟩
set_option maxRecDepth 20000 in
theorem ml_L_150 : LkM RL 150 F_m_right 2 := ⟨List.mem_append_right _ (List.mem_append_right _ (List.mem_append_right _ (List.mem_append_right _ (List.mem_append_right _ (List.mem_append_right _ (List.mem_append_right _ (List.mem_append_right _ (List.mem_append_right _ (List.mem_append_left _ (List.mem_of_getElem? (i := 82) rfl)))))))))), by decide +kernel⟩
set_option maxRecDepth 20000 in
theorem ml_L_151 : LkM RL 151 F_X11_best 1 := ⟨List.mem_append_right _ (List.mem_append_right _ (List.mem_append_right _ (List.mem_append_right _ (List.mem_append_right _ (List.mem_append_left _ (List.mem_of_getElem? (i := 50) rfl)))))), by decide +kernel⟩
set_option maxRecDepth 20000 in
theorem ml_L_154 : LkM RL 154 F_m_best 1 := ⟨List.mem_append_right _ (List.mem_append_right _ (List.mem_append_right _ (List.mem_append_right _ (List.mem_append_right _ (List.mem_append_right _ (List.mem_append_right _ (List.mem_append_right _ (List.mem_append_right _ (List.mem_append_left _ (List.mem_of_getElem? (i := 117) rfl)))))))))), by decide +kernel⟩
set_option maxRecDepth 20000 in
theorem ml_L_155 : LkM RL 155 F_L_also 5 := ⟨List.mem_append_right _ (List.mem_append_right _ (List.mem_append_right _ (List.mem_append_right _ (List.mem_append_right _ (List.mem_append_right _ (List.mem_append_left _ (List.mem_of_getElem? (i := 222) rfl))))))), by decide +kernel⟩
set_option maxRecDepth 20000 in
theorem ml_L_158 : LkM RL 158 F_m_also 3 := ⟨List.mem_append_right _ (List.mem_append_right _ (List.mem_append_right _ (List.mem_append_right _ (List.mem_append_right _ (List.mem_append_right _ (List.mem_append_right _ (List.mem_append_right _ (List.mem_append_right _ (List.mem_append_left _ (List.mem_of_getElem? (i := 62) rfl)))))))))), by decide +kernel⟩
set_option maxRecDepth 20000 in
theorem ml_L_159 : LkM RL 159 F_X11_scores 0 := ⟨List.mem_append_right _ (List.mem_append_right _ (List.mem_append_right _ (List.mem_append_right _ (List.mem_append_right _ (List.mem_append_left _ (List.mem_of_getElem? (i := 125) rfl)))))), by decide +kernel⟩
set_option maxRecDepth 20000 in
theorem ml_L_162 : LkM RL 162 F_m_scores 0 := ⟨List.mem_append_right _ (List.mem_append_right _ (List.mem_append_right _ (List.mem_append_right _ (List.mem_append_right _ (List.mem_append_right _ (List.mem_append_right _ (List.mem_append_right _ (List.mem_append_right _ (List.mem_append_left _ (List.mem_of_getElem? (i := 121) rfl)))))))))), by decide +kernel⟩
set_option maxRecDepth 20000 in
theorem ml_L_163 : LkM RL 163 F_X11_took 1 := ⟨List.mem_append_right _ (List.mem_append_right _ (List.mem_append_right _ (List.mem_append_right _ (List.mem_append_right _ (List.mem_append_left _ (List.mem_of_getElem? (i := 149) rfl)))))), by decide +kernel⟩
set_option maxRecDepth 20000 in
theorem ml_L_166 : LkM RL 166 F_m_took 1 := ⟨List.mem_append_right _ (List.mem_append_right _ (List.mem_append_right _ (List.mem_append_right _ (List.mem_append_right _ (List.mem_append_right _ (List.mem_append_right _ (List.mem_append_right _ (List.mem_append_right _ (List.mem_append_left _ (List.mem_of_getElem? (i := 129) rfl)))))))))), by decide +kernel⟩
set_option maxRecDepth 20000 in
theorem ml_L_167 : LkM RL 167 F_X11_car 1 := ⟨List.mem_append_right _ (List.mem_append_right _ (List.mem_append_right _ (List.mem_append_right _ (List.mem_append_right _ (List.mem_append_left _ (List.mem_of_getElem? (i := 153) rfl)))))), by decide +kernel⟩
set_option maxRecDepth 20000 in
theorem ml_L_170 : LkM RL 170 F_m_car 1 := ⟨List.mem_append_right _ (List.mem_append_right _ (List.mem_append_right _ (List.mem_append_right _ (List.mem_append_right _ (List.mem_append_right _ (List.mem_append_right _ (List.mem_append_right _ (List.mem_append_right _ (List.mem_append_left _ (List.mem_of_getElem? (i := 133) rfl)))))))))), by decide +kernel⟩
set_option maxRecDepth 20000 in
theorem ml_L_171 : LkM RL 171 F_X11_row 0 := ⟨List.mem_append_right _ (List.mem_append_right _ (List.mem_append_right _ (List.mem_append_right _ (List.mem_append_right _ (List.mem_append_left _ (List.mem_of_getElem? (i := 157) rfl)))))), by decide +kernel⟩
set_option maxRecDepth 20000 in
theorem ml_L_174 : LkM RL 174 F_m_row 0 := ⟨List.mem_append_right _ (List.mem_append_right _ (List.mem_append_right _ (List.mem_append_right _ (List.mem_append_right _ (List.mem_append_right _ (List.mem_append_right _ (List.mem_append_right _ (List.mem_append_right _ (List.mem_append_left _ (List.mem_of_getElem? (i := 137) rfl)))))))))), by decide +kernel⟩
set_option maxRecDepth 20000 in
theorem ml_L_175 : LkM RL 175 F_L_luck 3 := ⟨List.mem_append_right _ (List.mem_append_right _ (List.mem_append_right _ (List.mem_append_right _ (List.mem_append_right _ (List.mem_append_right _ (List.mem_append_left _ (List.mem_of_getElem? (i := 229) rfl))))))), by decide +kernel⟩
set_option maxRecDepth 20000 in
theorem ml_L_177 : LkM RL 177 F_m_luck 1 := ⟨List.mem_append_right _ (List.mem_append_right _ (List.mem_append_right _ (List.mem_append_right _ (List.mem_append_right _ (List.mem_append_right _ (List.mem_append_right _ (List.mem_append_right _ (List.mem_append_right _ (List.mem_append_left _ (List.mem_of_getElem? (i := 141) rfl)))))))))), by decide +kernel⟩
set_option maxRecDepth 20000 in
theorem ml_L_178 : LkM RL 178 F_X11_drawn 1 := ⟨List.mem_append_right _ (List.mem_append_right _ (List.mem_append_right _ (List.mem_append_right _ (List.mem_append_right _ (List.mem_append_left _ (List.mem_of_getElem? (i := 168) rfl)))))), by decide +kernel⟩
set_option maxRecDepth 20000 in
theorem ml_L_181 : LkM RL 181 F_m_drawn 1 := ⟨List.mem_append_right _ (List.mem_append_right _ (List.mem_append_right _ (List.mem_append_right _ (List.mem_append_right _ (List.mem_append_right _ (List.mem_append_right _ (List.mem_append_right _ (List.mem_append_right _ (List.mem_append_left _ (List.mem_of_getElem? (i := 145) rfl)))))))))), by decide +kernel⟩
set_option maxRecDepth 20000 in
theorem ml_L_182 : LkM RL 182 F_X11_wins 3 := ⟨List.mem_append_right _ (List.mem_append_right _ (List.mem_append_right _ (List.mem_append_right _ (List.mem_append_right _ (List.mem_append_left _ (List.mem_of_getElem? (i := 186) rfl)))))), by decide +kernel⟩
set_option maxRecDepth 20000 in
theorem ml_L_186 : LkM RL 186 F_m_wins 3 := ⟨List.mem_append_right _ (List.mem_append_right _ (List.mem_append_right _ (List.mem_append_right _ (List.mem_append_right _ (List.mem_append_right _ (List.mem_append_right _ (List.mem_append_right _ (List.mem_append_right _ (List.mem_append_left _ (List.mem_of_getElem? (i := 158) rfl)))))))))), by decide +kernel⟩
set_option maxRecDepth 20000 in
theorem ml_L_187 : LkM RL 187 F_X11_log 1 := ⟨List.mem_append_right _ (List.mem_append_right _ (List.mem_append_right _ (List.mem_append_right _ (List.mem_append_right _ (List.mem_append_left _ (List.mem_of_getElem? (i := 191) rfl)))))), by decide +kernel⟩
set_option maxRecDepth 20000 in
theorem ml_L_190 : LkM RL 190 F_m_log 1 := ⟨List.mem_append_right _ (List.mem_append_right _ (List.mem_append_right _ (List.mem_append_right _ (List.mem_append_right _ (List.mem_append_right _ (List.mem_append_right _ (List.mem_append_right _ (List.mem_append_right _ (List.mem_append_left _ (List.mem_of_getElem? (i := 170) rfl)))))))))), by decide +kernel⟩
set_option maxRecDepth 20000 in
theorem ml_L_191 : LkM RL 191 F_X11_logged 1 := ⟨List.mem_append_right _ (List.mem_append_right _ (List.mem_append_right _ (List.mem_append_right _ (List.mem_append_right _ (List.mem_append_left _ (List.mem_of_getElem? (i := 229) rfl)))))), by decide +kernel⟩
set_option maxRecDepth 20000 in
theorem ml_L_194 : LkM RL 194 F_m_logged 1 := ⟨List.mem_append_right _ (List.mem_append_right _ (List.mem_append_right _ (List.mem_append_right _ (List.mem_append_right _ (List.mem_append_right _ (List.mem_append_right _ (List.mem_append_right _ (List.mem_append_right _ (List.mem_append_left _ (List.mem_of_getElem? (i := 182) rfl)))))))))), by decide +kernel⟩
set_option maxRecDepth 20000 in
theorem ml_L_195 : LkM RL 195 F_X11_sentence 0 := ⟨List.mem_append_right _ (List.mem_append_right _ (List.mem_append_right _ (List.mem_append_right _ (List.mem_append_right _ (List.mem_append_left _ (List.mem_of_getElem? (i := 233) rfl)))))), by decide +kernel⟩
set_option maxRecDepth 20000 in
theorem ml_L_198 : LkM RL 198 F_m_sentence 0 := ⟨List.mem_append_right _ (List.mem_append_right _ (List.mem_append_right _ (List.mem_append_right _ (List.mem_append_right _ (List.mem_append_right _ (List.mem_append_right _ (List.mem_append_right _ (List.mem_append_right _ (List.mem_append_left _ (List.mem_of_getElem? (i := 186) rfl)))))))))), by decide +kernel⟩
set_option maxRecDepth 20000 in
theorem ml_L_199 : LkM RL 199 F_X11_said 1 := ⟨List.mem_append_right _ (List.mem_append_right _ (List.mem_append_right _ (List.mem_append_right _ (List.mem_append_right _ (List.mem_append_right _ (List.mem_append_left _ (List.mem_of_getElem? (i := 37) rfl))))))), by decide +kernel⟩
set_option maxRecDepth 20000 in
theorem ml_L_202 : LkM RL 202 F_m_said 1 := ⟨List.mem_append_right _ (List.mem_append_right _ (List.mem_append_right _ (List.mem_append_right _ (List.mem_append_right _ (List.mem_append_right _ (List.mem_append_right _ (List.mem_append_right _ (List.mem_append_right _ (List.mem_append_left _ (List.mem_of_getElem? (i := 214) rfl)))))))))), by decide +kernel⟩
set_option maxRecDepth 20000 in
theorem ml_L_203 : LkM RL 203 F_X11_image 1 := ⟨List.mem_append_right _ (List.mem_append_right _ (List.mem_append_right _ (List.mem_append_right _ (List.mem_append_right _ (List.mem_append_right _ (List.mem_append_left _ (List.mem_of_getElem? (i := 59) rfl))))))), by decide +kernel⟩
set_option maxRecDepth 20000 in
theorem ml_L_206 : LkM RL 206 F_m_image 1 := ⟨List.mem_append_right _ (List.mem_append_right _ (List.mem_append_right _ (List.mem_append_right _ (List.mem_append_right _ (List.mem_append_right _ (List.mem_append_right _ (List.mem_append_right _ (List.mem_append_right _ (List.mem_append_left _ (List.mem_of_getElem? (i := 226) rfl)))))))))), by decide +kernel⟩
set_option maxRecDepth 20000 in
theorem ml_L_207 : LkM RL 207 F_X11_restore 1 := ⟨List.mem_append_right _ (List.mem_append_right _ (List.mem_append_right _ (List.mem_append_right _ (List.mem_append_right _ (List.mem_append_right _ (List.mem_append_left _ (List.mem_of_getElem? (i := 63) rfl))))))), by decide +kernel⟩
set_option maxRecDepth 20000 in
theorem ml_L_210 : LkM RL 210 F_m_restore 1 := ⟨List.mem_append_right _ (List.mem_append_right _ (List.mem_append_right _ (List.mem_append_right _ (List.mem_append_right _ (List.mem_append_right _ (List.mem_append_right _ (List.mem_append_right _ (List.mem_append_right _ (List.mem_append_left _ (List.mem_of_getElem? (i := 230) rfl)))))))))), by decide +kernel⟩
set_option maxRecDepth 20000 in
theorem ml_L_211 : LkM RL 211 F_X11_count 1 := ⟨List.mem_append_right _ (List.mem_append_right _ (List.mem_append_right _ (List.mem_append_right _ (List.mem_append_right _ (List.mem_append_right _ (List.mem_append_left _ (List.mem_of_getElem? (i := 67) rfl))))))), by decide +kernel⟩
set_option maxRecDepth 20000 in
theorem ml_L_214 : LkM RL 214 F_m_count 1 := ⟨List.mem_append_right _ (List.mem_append_right _ (List.mem_append_right _ (List.mem_append_right _ (List.mem_append_right _ (List.mem_append_right _ (List.mem_append_right _ (List.mem_append_right _ (List.mem_append_right _ (List.mem_append_left _ (List.mem_of_getElem? (i := 234) rfl)))))))))), by decide +kernel⟩
