set_option maxRecDepth 100000 in
def F_J0_length_8abf5 : Fm := (RJ0, yJ0_length_8abf5, cJ0_length_8abf5, [(0, .aload_n 0, 1), (1, .getfield 9, 3), (4, .arraylength, 1), (5, .aload_n 0, 1), (6, .invokevirtual 335, 3), (9, .ishr, 1), (10, .ireturn, 1)], 1, (some .int))
set_option maxRecDepth 100000 in
theorem mo_J0_length_8abf5 : MOk F_J0_length_8abf5 := ⟨⟨by decide +kernel, by decide +kernel, by decide +kernel⟩, rfl, List.mem_append_right _ (List.mem_append_right _ (List.mem_append_right _ (List.mem_append_left _ (List.mem_of_getElem? (i := 133) rfl)))), List.mem_append_right _ (List.mem_append_left _ (List.mem_of_getElem? (i := 14) rfl)), by decide +kernel⟩
set_option maxRecDepth 20000 in
theorem im_J0_length_8abf5 : Cond.instanceMethod (fy F_J0_length_8abf5) ∈ lw_tbl := List.mem_append_right _ (List.mem_append_right _ (List.mem_append_right _ (List.mem_append_left _ (List.mem_of_getElem? (i := 131) rfl))))
set_option maxRecDepth 20000 in
theorem se_J0_length_8abf5 : Cond.selects (fown F_J0_length_8abf5) (fy F_J0_length_8abf5) (fy F_J0_length_8abf5) ∈ lw_tbl := List.mem_append_right _ (List.mem_append_right _ (List.mem_append_right _ (List.mem_append_left _ (List.mem_of_getElem? (i := 132) rfl))))
set_option maxRecDepth 100000 in
def F_J0_charAt_5068e : Fm := (RJ0, yJ0_charAt_5068e, cJ0_charAt_5068e, [(0, .aload_n 0, 1), (1, .invokevirtual 492, 3), (4, .ifCond .eq 12, 3), (7, .aload_n 0, 1), (8, .getfield 9, 3), (11, .iload_n 1, 1), (12, .invokestatic 495, 3), (15, .ireturn, 1), (16, .aload_n 0, 1), (17, .getfield 9, 3), (20, .iload_n 1, 1), (21, .invokestatic 498, 3), (24, .ireturn, 1)], 2, (some .char))
set_option maxRecDepth 100000 in
theorem mo_J0_charAt_5068e : MOk F_J0_charAt_5068e := ⟨⟨by decide +kernel, by decide +kernel, by decide +kernel⟩, rfl, List.mem_append_right _ (List.mem_append_right _ (List.mem_append_right _ (List.mem_append_left _ (List.mem_of_getElem? (i := 143) rfl)))), List.mem_append_right _ (List.mem_append_left _ (List.mem_of_getElem? (i := 14) rfl)), by decide +kernel⟩
set_option maxRecDepth 20000 in
theorem im_J0_charAt_5068e : Cond.instanceMethod (fy F_J0_charAt_5068e) ∈ lw_tbl := List.mem_append_right _ (List.mem_append_right _ (List.mem_append_right _ (List.mem_append_left _ (List.mem_of_getElem? (i := 141) rfl))))
set_option maxRecDepth 20000 in
theorem se_J0_charAt_5068e : Cond.selects (fown F_J0_charAt_5068e) (fy F_J0_charAt_5068e) (fy F_J0_charAt_5068e) ∈ lw_tbl := List.mem_append_right _ (List.mem_append_right _ (List.mem_append_right _ (List.mem_append_left _ (List.mem_of_getElem? (i := 142) rfl))))
set_option maxRecDepth 100000 in
def F_J0_coder_7d493 : Fm := (RJ0, yJ0_coder_7d493, cJ0_coder_7d493, [(0, .getstatic 38, 3), (3, .ifCond .eq 10, 3), (6, .aload_n 0, 1), (7, .getfield 15, 3), (10, .goto 4, 3), (13, .iconst 1, 1), (14, .ireturn, 1)], 1, (some .byte))
set_option maxRecDepth 100000 in
theorem mo_J0_coder_7d493 : MOk F_J0_coder_7d493 := ⟨⟨by decide +kernel, by decide +kernel, by decide +kernel⟩, rfl, List.mem_append_right _ (List.mem_append_right _ (List.mem_append_right _ (List.mem_append_left _ (List.mem_of_getElem? (i := 137) rfl)))), List.mem_append_right _ (List.mem_append_left _ (List.mem_of_getElem? (i := 14) rfl)), by decide +kernel⟩
set_option maxRecDepth 20000 in
theorem im_J0_coder_7d493 : Cond.instanceMethod (fy F_J0_coder_7d493) ∈ lw_tbl := List.mem_append_right _ (List.mem_append_right _ (List.mem_append_right _ (List.mem_append_left _ (List.mem_of_getElem? (i := 135) rfl))))
set_option maxRecDepth 20000 in
theorem se_J0_coder_7d493 : Cond.selects (fown F_J0_coder_7d493) (fy F_J0_coder_7d493) (fy F_J0_coder_7d493) ∈ lw_tbl := List.mem_append_right _ (List.mem_append_right _ (List.mem_append_right _ (List.mem_append_left _ (List.mem_of_getElem? (i := 136) rfl))))
set_option maxRecDepth 100000 in
def F_J0_isLatin1_aae02 : Fm := (RJ0, yJ0_isLatin1_aae02, cJ0_isLatin1_aae02, [(0, .getstatic 38, 3), (3, .ifCond .eq 14, 3), (6, .aload_n 0, 1), (7, .getfield 15, 3), (10, .ifCond .ne 7, 3), (13, .iconst 1, 1), (14, .goto 4, 3), (17, .iconst 0, 1), (18, .ireturn, 1)], 1, (some .boolean))
set_option maxRecDepth 100000 in
theorem mo_J0_isLatin1_aae02 : MOk F_J0_isLatin1_aae02 := ⟨⟨by decide +kernel, by decide +kernel, by decide +kernel⟩, rfl, List.mem_append_right _ (List.mem_append_right _ (List.mem_append_right _ (List.mem_append_left _ (List.mem_of_getElem? (i := 147) rfl)))), List.mem_append_right _ (List.mem_append_left _ (List.mem_of_getElem? (i := 14) rfl)), by decide +kernel⟩
set_option maxRecDepth 20000 in
theorem im_J0_isLatin1_aae02 : Cond.instanceMethod (fy F_J0_isLatin1_aae02) ∈ lw_tbl := List.mem_append_right _ (List.mem_append_right _ (List.mem_append_right _ (List.mem_append_left _ (List.mem_of_getElem? (i := 145) rfl))))
set_option maxRecDepth 20000 in
theorem se_J0_isLatin1_aae02 : Cond.selects (fown F_J0_isLatin1_aae02) (fy F_J0_isLatin1_aae02) (fy F_J0_isLatin1_aae02) ∈ lw_tbl := List.mem_append_right _ (List.mem_append_right _ (List.mem_append_right _ (List.mem_append_left _ (List.mem_of_getElem? (i := 146) rfl))))
set_option maxRecDepth 100000 in
def F_J0_checkIndex_df160 : Fm := (RJ0, yJ0_checkIndex_df160, cJ0_checkIndex_df160, [(0, .iload_n 0, 1), (1, .iload_n 1, 1), (2, .getstatic 1053, 3), (5, .invokestatic 1059, 3), (8, .pop, 1), (9, .return_, 1)], 2, none)
set_option maxRecDepth 100000 in
theorem mo_J0_checkIndex_df160 : MOk F_J0_checkIndex_df160 := ⟨⟨by decide +kernel, by decide +kernel, by decide +kernel⟩, rfl, List.mem_append_right _ (List.mem_append_right _ (List.mem_append_right _ (List.mem_append_left _ (List.mem_of_getElem? (i := 153) rfl)))), List.mem_append_right _ (List.mem_append_left _ (List.mem_of_getElem? (i := 14) rfl)), by decide +kernel⟩
set_option maxRecDepth 20000 in
theorem stt_J0_checkIndex_df160 : Cond.static (fy F_J0_checkIndex_df160) ∈ lw_tbl := List.mem_append_right _ (List.mem_append_right _ (List.mem_append_right _ (List.mem_append_left _ (List.mem_of_getElem? (i := 152) rfl))))
set_option maxRecDepth 100000 in
def F_J1_charAt_3b067 : Fm := (RJ1, yJ1_charAt_3b067, cJ1_charAt_3b067, [(0, .iload_n 1, 1), (1, .aload_n 0, 1), (2, .arraylength, 1), (3, .invokestatic 9, 3), (6, .aload_n 0, 1), (7, .iload_n 1, 1), (8, .baload, 1), (9, .sipush 255, 3), (12, .iand, 1), (13, .i2c, 1), (14, .ireturn, 1)], 2, (some .char))
set_option maxRecDepth 100000 in
theorem mo_J1_charAt_3b067 : MOk F_J1_charAt_3b067 := ⟨⟨by decide +kernel, by decide +kernel, by decide +kernel⟩, rfl, List.mem_append_right _ (List.mem_append_right _ (List.mem_append_right _ (List.mem_append_left _ (List.mem_of_getElem? (i := 150) rfl)))), List.mem_append_right _ (List.mem_append_left _ (List.mem_of_getElem? (i := 15) rfl)), by decide +kernel⟩
set_option maxRecDepth 20000 in
theorem stt_J1_charAt_3b067 : Cond.static (fy F_J1_charAt_3b067) ∈ lw_tbl := List.mem_append_right _ (List.mem_append_right _ (List.mem_append_right _ (List.mem_append_left _ (List.mem_of_getElem? (i := 149) rfl))))
set_option maxRecDepth 100000 in
def F_J3_checkIndex_8e157 : Fm := (RJ3, yJ3_checkIndex_8e157, cJ3_checkIndex_8e157, [(0, .iload_n 0, 1), (1, .ifCond .lt 8, 3), (4, .iload_n 0, 1), (5, .iload_n 1, 1), (6, .if_icmp .lt 10, 3), (9, .aload_n 2, 1), (10, .iload_n 0, 1), (11, .iload_n 1, 1), (12, .invokestatic 95, 3), (15, .athrow, 1), (16, .iload_n 0, 1), (17, .ireturn, 1)], 3, (some .int))
set_option maxRecDepth 100000 in
theorem mo_J3_checkIndex_8e157 : MOk F_J3_checkIndex_8e157 := ⟨⟨by decide +kernel, by decide +kernel, by decide +kernel⟩, rfl, List.mem_append_right _ (List.mem_append_right _ (List.mem_append_right _ (List.mem_append_left _ (List.mem_of_getElem? (i := 158) rfl)))), List.mem_append_right _ (List.mem_append_left _ (List.mem_of_getElem? (i := 16) rfl)), by decide +kernel⟩
set_option maxRecDepth 20000 in
theorem stt_J3_checkIndex_8e157 : Cond.static (fy F_J3_checkIndex_8e157) ∈ lw_tbl := List.mem_append_right _ (List.mem_append_right _ (List.mem_append_right _ (List.mem_append_left _ (List.mem_of_getElem? (i := 157) rfl))))
set_option maxRecDepth 20000 in
theorem mk_X8_72 : LkM RX8 72 F_J0_length_8abf5 0 := ⟨List.mem_append_right _ (List.mem_append_right _ (List.mem_append_right _ (List.mem_append_left _ (List.mem_of_getElem? (i := 130) rfl)))), by decide +kernel⟩
set_option maxRecDepth 20000 in
theorem mk_X8_77 : LkM RX8 77 F_J0_charAt_5068e 1 := ⟨List.mem_append_right _ (List.mem_append_right _ (List.mem_append_right _ (List.mem_append_left _ (List.mem_of_getElem? (i := 140) rfl)))), by decide +kernel⟩
set_option maxRecDepth 20000 in
theorem mk_J0_335 : LkM RJ0 335 F_J0_coder_7d493 0 := ⟨List.mem_append_right _ (List.mem_append_right _ (List.mem_append_right _ (List.mem_append_left _ (List.mem_of_getElem? (i := 134) rfl)))), by decide +kernel⟩
set_option maxRecDepth 20000 in
theorem mk_J0_492 : LkM RJ0 492 F_J0_isLatin1_aae02 0 := ⟨List.mem_append_right _ (List.mem_append_right _ (List.mem_append_right _ (List.mem_append_left _ (List.mem_of_getElem? (i := 144) rfl)))), by decide +kernel⟩
set_option maxRecDepth 20000 in
theorem mk_J0_495 : LkM RJ0 495 F_J1_charAt_3b067 2 := ⟨List.mem_append_right _ (List.mem_append_right _ (List.mem_append_right _ (List.mem_append_left _ (List.mem_of_getElem? (i := 148) rfl)))), by decide +kernel⟩
set_option maxRecDepth 20000 in
theorem mk_J1_9 : LkM RJ1 9 F_J0_checkIndex_df160 2 := ⟨List.mem_append_right _ (List.mem_append_right _ (List.mem_append_right _ (List.mem_append_left _ (List.mem_of_getElem? (i := 151) rfl)))), by decide +kernel⟩
set_option maxRecDepth 20000 in
theorem mk_J0_1059 : LkM RJ0 1059 F_J3_checkIndex_8e157 3 := ⟨List.mem_append_right _ (List.mem_append_right _ (List.mem_append_right _ (List.mem_append_left _ (List.mem_of_getElem? (i := 156) rfl)))), by decide +kernel⟩
set_option maxRecDepth 20000 in
theorem kf_v : Cond.fieldLink "java/lang/String" 9 "java/lang/String" "value" "[B" ∈ lw_tbl := List.mem_append_right _ (List.mem_append_right _ (List.mem_append_right _ (List.mem_append_right _ (List.mem_append_right _ (List.mem_append_right _ (List.mem_append_right _ (List.mem_append_right _ (List.mem_append_right _ (List.mem_append_right _ (List.mem_of_getElem? (i := 15) rfl))))))))))
set_option maxRecDepth 20000 in
theorem kf_c : Cond.fieldLink "java/lang/String" 15 "java/lang/String" "coder" "B" ∈ lw_tbl := List.mem_append_right _ (List.mem_append_right _ (List.mem_append_right _ (List.mem_append_right _ (List.mem_append_right _ (List.mem_append_right _ (List.mem_append_right _ (List.mem_append_right _ (List.mem_append_right _ (List.mem_append_right _ (List.mem_of_getElem? (i := 16) rfl))))))))))
set_option maxRecDepth 20000 in
theorem kf_z : Cond.fieldLink "java/lang/String" 38 "java/lang/String" "COMPACT_STRINGS" "Z" ∈ lw_tbl := List.mem_append_right _ (List.mem_append_right _ (List.mem_append_right _ (List.mem_append_left _ (List.mem_of_getElem? (i := 138) rfl))))
set_option maxRecDepth 20000 in
theorem kf_f : Cond.fieldLink "java/lang/String" 1053 "jdk/internal/util/Preconditions" "SIOOBE_FORMATTER" "Ljava/util/function/BiFunction;" ∈ lw_tbl := List.mem_append_right _ (List.mem_append_right _ (List.mem_append_right _ (List.mem_append_left _ (List.mem_of_getElem? (i := 154) rfl))))
/-! the text constant's bytes -/
def kyb (i : Int) : Int := (keyB.getD i.toNat 0).toInt
/-- how many blanks stand ahead of i -/
def kyn (i : Int) : Int := (((keyB.take i.toNat).filter (fun c => c == 32)).length : Nat)
theorem ky_all : ∀ n : Nat, n < 121 → (0 ≤ kyb n ∧ kyb n < 128) ∧ (kyb n = 32 → kyn (n + 1) = kyn n + 1 ∧ kyn n ≤ 21) ∧ (kyb n ≠ 32 → kyn (n + 1) = kyn n) ∧ 0 ≤ kyn n ∧ kyn n ≤ 22 := by decide +kernel
theorem ky_at {i : Int} (h0 : 0 ≤ i) (h1 : i < 121) : (0 ≤ kyb i ∧ kyb i < 128) ∧ (kyb i = 32 → kyn (i + 1) = kyn i + 1 ∧ kyn i ≤ 21) ∧ (kyb i ≠ 32 → kyn (i + 1) = kyn i) ∧ 0 ≤ kyn i ∧ kyn i ≤ 22 := by
  have h := ky_all i.toNat (by omega)
  rw [Int.toNat_of_nonneg h0] at h
  exact h
theorem ky_0 : kyn 0 = 0 := by decide +kernel
theorem i2c_all : ∀ n : Nat, n < 128 → ((Int32.ofInt n).toUInt32 % 65536).toInt32 = Int32.ofInt n ∧ (Int32.ofInt n).toUInt32.toUInt16.toUInt32.toInt32 = Int32.ofInt n := by decide +kernel
theorem i2c_ok {x : Int} (h : 0 ≤ x ∧ x < 128) : ((Int32.ofInt x).toUInt32 % 65536).toInt32 = Int32.ofInt x ∧ (Int32.ofInt x).toUInt32.toUInt16.toUInt32.toInt32 = Int32.ofInt x := by
  have h9 := i2c_all x.toNat (by omega)
  rw [Int.toNat_of_nonneg h.1] at h9
  exact h9
section RowsK
variable {g : Gp} {X : Cx} {F : Fm} {cells slots pc : Nat} {ls st : List V2} {v ρ : Mv} {Z : Mz} {Q : Option V2 → Mv → Mv → Mz → Prop} {mc ms : Nat}
theorem scop_4 {Z : Mz} {x : Int} {l : List V2} (h : scop Z l) : scop Z ((4, x) :: l) := scop_v h (fun e => by cases e)
theorem r_ldcK (hX : okX g X F) (i : Nat) (hF : fown F = "RedWhite$Tape") (hf : (fprg F)[i]? = some (pc, .ldc 70, 2)) (k : wp g X F cells slots (pc + 2) ls ((4, (gK g : Int)) :: st) v ρ Z) : wp g X F cells slots pc ls st v ρ Z :=
  wp_pure (fun ad H locs la hv kk => va_ldcS hX.1 hX.2.1 (by rw [← hF]; exact hX.2.2.2.2.1) hX.2.2.2.2.2.2.1.2.2.2.2.2.2.2 (hX.dec hf) (by rw [List.map_cons, tr_a, Int.toNat_natCast] at kk; exact kk)) (fun h1 _ => scop_4 h1) k
theorem r_aload4 (hX : okX g X F) (i : Nat) {k : Fin 4} {x : Int} (hf : (fprg F)[i]? = some (pc, .aload_n k, 1)) (hl : ls[(k : Nat)]? = some (4, x)) (k : wp g X F cells slots (pc + 1) ls ((4, x) :: st) v ρ Z) : wp g X F cells slots pc ls st v ρ Z :=
  wp_pure (fun ad H locs la hv kk => lv_aload_n hX.1 hX.2.1 (hX.dec hf) rfl (lvr_at hv hl (by simp)) kk) (fun h1 _ => scop_4 h1) k
theorem r_getK (hX : okX g X F) (i : Nat) {idx : Nat} {n d : String} {w : V2} {x : Value} (hF : fown F = "java/lang/String") (hf : (fprg F)[i]? = some (pc, .getfield idx, 3)) (hl : Cond.fieldLink "java/lang/String" idx "java/lang/String" n d ∈ lw_tbl) (hw : w.1 ≠ 2) (hx : ∀ ad, tr ad w = x) (hE : ∀ H, KY g (xs X) H → va_OF "java/lang/String" n d x (gK g) (fun q => gB g ≤ q) (xs X) H) (k : wp g X F cells slots (pc + 3) ls (w :: st) v ρ Z) : wp g X F cells slots pc ls ((4, (gK g : Int)) :: st) v ρ Z := by
  intro ad H locs la hR h1 h2 hq hv
  obtain ⟨cf, kf, fi, f, cell, e1, e2, e3, e4, e5, e6⟩ := hE H hR.2.2.2.2.2.2.2
  rw [List.map_cons, tr_a, Int.toNat_natCast]
  exact W.getf hX.1 hX.2.1 (by rw [← hF]; exact hX.2.2.2.2.1) (hX.2.2.2.2.2.1 _ hl rfl) e1 e2 e3 e4 (v := tr ad w) (by rw [hx]; exact e5) rfl rfl (hX.dec hf) (k ad H locs la hR (scop_v (scop_c h1) (fun e => absurd e hw)) h2 hq hv)
theorem r_getsC (hX : okX g X F) (i : Nat) (hF : fown F = "java/lang/String") (hf : (fprg F)[i]? = some (pc, .getstatic 38, 3)) (kk : wp g X F cells slots (pc + 3) ls ((0, 1) :: st) v ρ Z) : wp g X F cells slots pc ls st v ρ Z := by
  intro ad H locs la hR h1 h2 hq hv
  obtain ⟨cf, kf, fi, f, a, cell, z1, z2, z3, z4, z5, z6, z7, z8⟩ := hR.2.2.2.2.2.2.2.2.2.2.2.1
  exact W.gets hX.1 hX.2.1 (by rw [← hF]; exact hX.2.2.2.2.1) (hX.2.2.2.2.2.1 _ kf_z rfl) z1 z2 z3 z4 z5 (fun e => by rw [e] at z6; cases z6) z7 rfl (hX.dec hf) (kk ad H locs la hR (scop_i h1) h2 hq hv)
theorem r_getsF (hX : okX g X F) (i : Nat) (hF : fown F = "java/lang/String") (hf : (fprg F)[i]? = some (pc, .getstatic 1053, 3)) (hz : Z.1 1 ≠ 99) (kk : ∀ w : V2, w.1 = 4 ∨ w = (2, -1) → wp g X F cells slots (pc + 3) ls (w :: st) v ρ Z) : wp g X F cells slots pc ls st v ρ Z := by
  intro ad H locs la hR h1 h2 hq hv
  have hn : (-1 : Int) < Z.2.2 := by have := (hR.1 1 hz).2.1; omega
  rcases hR.2.2.2.2.2.2.2.2.2.2.2.2 with ⟨cf, kf, fi, f, a, cell, z1, z2, z3, z4, z5, z6, z7, z8⟩ | ⟨t, cf, kf, fi, f, a, cell, z1, z2, z3, z4, z5, z6, z7, z8⟩
  · exact W.gets hX.1 hX.2.1 (by rw [← hF]; exact hX.2.2.2.2.1) (hX.2.2.2.2.2.1 _ kf_f rfl) z1 z2 z3 z4 z5 (fun e => by rw [e] at z6; cases z6) z7 rfl (hX.dec hf) (kk (2, -1) (Or.inr rfl) ad H locs la hR (scop_r h1 hn) h2 hq hv)
  · exact W.gets hX.1 hX.2.1 (by rw [← hF]; exact hX.2.2.2.2.1) (hX.2.2.2.2.2.1 _ kf_f rfl) z1 z2 z3 z4 z5 (fun e => by rw [e] at z6; cases z6) (v := tr ad (4, (t : Int))) (by rw [tr_a, Int.toNat_natCast]; exact z7) rfl (hX.dec hf) (kk (4, (t : Int)) (Or.inl rfl) ad H locs la hR (scop_4 h1) h2 hq hv)
theorem r_alenK (hX : okX g X F) (i : Nat) (hf : (fprg F)[i]? = some (pc, .arraylength, 1)) (kk : wp g X F cells slots (pc + 1) ls ((0, 121) :: st) v ρ Z) : wp g X F cells slots pc ls ((4, (gV g : Int)) :: st) v ρ Z := by
  intro ad H locs la hR h1 h2 hq hv
  obtain ⟨cell, c1, c2, c3, c4, c5, c6, c7⟩ := hR.2.2.2.2.2.2.2.2.2.2.1
  rw [List.map_cons, tr_a, Int.toNat_natCast]
  exact W.alen (n := Int32.ofInt 121) hX.1 hX.2.1 c1 c2 (by rw [c5]; rfl) rfl rfl (hX.dec hf) (kk ad H locs la hR (scop_i (scop_c h1)) h2 hq hv)
theorem r_baldK (hX : okX g X F) (i : Nat) {x : Int} (hf : (fprg F)[i]? = some (pc, .baload, 1)) (h0 : 0 ≤ x) (hn : x < 121) (kk : wp g X F cells slots (pc + 1) ls ((0, kyb x) :: st) v ρ Z) : wp g X F cells slots pc ls ((0, x) :: (4, (gV g : Int)) :: st) v ρ Z := by
  intro ad H locs la hR h1 h2 hq hv
  obtain ⟨cell, c1, c2, c3, c4, c5, c6, c7⟩ := hR.2.2.2.2.2.2.2.2.2.2.1
  obtain ⟨e, hin⟩ := oi_idx h0 hn (by decide)
  have e6 := c6 x.toNat (by omega)
  rw [List.map_cons, List.map_cons, tr_a, Int.toNat_natCast]
  refine W.bald hX.1 hX.2.1 c1 c2 c3 (fun q => hin (q.elim Or.inl (fun h => Or.inr (Nat.le_trans (show (121 : Int).toNat ≤ _ from c4) h)))) (v := tr ad (0, kyb x)) ?_ rfl rfl (hX.dec hf) (kk ad H locs la hR (scop_i (scop_c (scop_c h1))) h2 hq hv)
  rw [e, e6, tr_i]
  show some (Value.int (keyB.getD x.toNat 0)) = some (.int (Int32.ofInt (keyB.getD x.toNat 0).toInt))
  rw [Int32.ofInt_toInt]
theorem r_i2c (hX : okX g X F) (i : Nat) {x : Int} (hf : (fprg F)[i]? = some (pc, .i2c, 1)) (hx : 0 ≤ x ∧ x < 128) (k : wp g X F cells slots (pc + 1) ls ((0, x) :: st) v ρ Z) : wp g X F cells slots pc ls ((0, x) :: st) v ρ Z :=
  wp_pure (fun ad H locs la hv kk => lv_i2c hX.1 hX.2.1 (hX.dec hf) (i2c_ok hx).1 kk) (fun h1 h2 => h1) k
theorem r_ishr0 (hX : okX g X F) (i : Nat) {x : Int} (hf : (fprg F)[i]? = some (pc, .ishr, 1)) (k : wp g X F cells slots (pc + 1) ls ((0, x) :: st) v ρ Z) : wp g X F cells slots pc ls ((0, 0) :: (0, x) :: st) v ρ Z :=
  wp_pure (fun ad H locs la hv kk => lv_ishr hX.1 hX.2.1 (hX.dec hf) (by
    have e : Int32.ofInt x >>> (Int32.ofInt 0 &&& 31) = Int32.ofInt x := by
      rw [show (Int32.ofInt 0 &&& 31) = (0 : Int32) by decide]
      simp
    rw [e]; exact kk)) (fun h1 h2 => scop_c h1) k
theorem r_xret (hX : okX g X F) (i : Nat) {x : Int} {ty : FieldType} (hQ : hQt g X Q mc ms) (hf : (fprg F)[i]? = some (pc, .ireturn, 1)) (hr : fret F = some ty) (hx : narrow ty (.int (Int32.ofInt x)) = .int (Int32.ofInt x)) (hc : cells ≤ mc) (hs : slots ≤ ms) (q : Q (some (0, x)) v ρ Z) : wp g X F cells slots pc ls [(0, x)] v ρ Z := by
  intro ad H locs la hR h1 h2 hq hv
  rw [hQ]
  refine W.widen hc hs ?_
  exact W.zret hX.1 hX.2.1 (hX.2.2.1.trans hr) hx (fun t ht hW => ⟨some (0, x), v, ρ, Z, ad, rfl, q, by rw [ht]; exact hR.moved hW.alike, hq.2.1, hq.2.2, h1⟩) hq.1 (hX.dec hf) hX.2.2.2.2.2.2.2.1
/-- a call on the text constant -/
theorem r_callK (hX : okX g X F) (i : Nat) {d idx n : Nat} {F' : Fm} {as : List V2} (hf : (fprg F)[i]? = some (pc, .invokevirtual idx, 3)) (hM : MOk F') (hl : LkM (fown F) idx F' n) (hF' : fown F' = "java/lang/String") (hin : Cond.instanceMethod (fy F') ∈ lw_tbl) (hse : Cond.selects (fown F') (fy F') (fy F') ∈ lw_tbl) (hO : Ok g d mc ms F' ((4, (gK g : Int)) :: as) v ρ Z Q) (hn : as.length = n) (hd : 10 * d + 1 ≤ (xR X).frames ∧ 8 + (fnl F' + 11) + 100 * d ≤ (xR X).locals) (hcm : cells + mc ≤ (xR X).cells ∧ slots + ms ≤ (xR X).slots) (hst : st.length ≤ 4)
    (kk : ∀ (o : Option V2) (v' ρ' : Mv) (Z' : Mz), Q o v' ρ' Z' → Z.2.2 ≤ Z'.2.2 → wp g X F (cells + mc) (slots + ms) (pc + 3) ls (o.toList ++ st) v' ρ' Z') : wp g X F cells slots pc ls (as.reverse ++ (4, (gK g : Int)) :: st) v ρ Z := by
  intro ad H locs la hR h1 h2 hq hv
  obtain ⟨cell, c1, c2, c3, -⟩ := hR.2.2.2.2.2.2.2.1
  have hs1 : scop Z st := fun x hx => h1 x (List.mem_append_right _ (List.mem_cons_of_mem _ hx))
  have hsa : scop Z ((4, (gK g : Int)) :: as) := fun x hx => by
    rcases List.mem_cons.mp hx with e | h
    · exact h1 x (List.mem_append_right _ (by rw [e]; exact List.mem_cons_self))
    · exact h1 x (List.mem_append_left _ (List.mem_reverse.mpr h))
  have e4 : tr ad (4, (gK g : Int)) = .ref (gK g) := by rw [tr_a, Int.toNat_natCast]
  have hMet := hO ad hsa
  have hrun := va_runV (As := as.map (tr ad)) (rest := st.map (tr ad)) (b := gK g) (C := fown F') (H := H) (locs := locs) (cells := cells) (slots := slots) (e := xe X) (below := xb X) (meth := xt X) (g := F0 (xm X) pc la ((as.reverse ++ (4, (gK g : Int)) :: st).map (tr ad))) (Ts := []) (cc := fcode F) (nL := fnl F) ⟨hX.1, hX.2.1, hX.2.2.2.1, hX.2.2.2.2.1, fun w hw => by cases hw⟩ hMet ⟨callB0 (d := d) hX hM hl hd, hX.2.2.2.2.2.1 _ hin rfl, hX.2.2.2.2.2.1 _ hse rfl⟩
    ⟨FB, ⟨cell, c1, c2, by rw [hF']; exact c3⟩, fun U hU hW => ⟨by rw [List.map_cons, e4], hX.2.2.2.2.2.2.1.warm hW, by rw [hU]; exact hR.moved hW.alike⟩⟩ rfl (by rw [List.length_map]; exact hn) hv.1 (by rw [List.map_append, List.map_cons, e4, List.map_reverse]) (st_room hst) (hX.dec hf) hcm
  exact callGo (d := d) (F' := F') hrun hs1 h2 hq hv kk
end RowsK
theorem c_coder (g : Gp) (v ρ : Mv) (Z : Mz) : Ok g 1 0 0 F_J0_coder_7d493 [(4, (gK g : Int))] v ρ Z (fun o9 v' ρ' Z' => ρ = ρ' ∧ Z = Z' ∧ v = v' ∧ o9 = some (0, 0)) := by
  refine Ok.of mo_J0_coder_7d493 (Nat.le_of_ble_eq_true rfl) ?_
  intro X hX hRm hxn hQ
  show wp g X F_J0_coder_7d493 0 0 0 [(4, (gK g : Int))] [] v ρ Z
  refine r_getsC (pc := 0) hX 0 rfl rfl ?_
  refine r_if_eq (pc := 3) hX 1 (tgt := 13) rfl (by decide) (⟨by omega, by omega⟩) (fun h => absurd h (by decide)) (fun _ => ?_)
  refine r_aload4 (pc := 6) hX 2 rfl rfl ?_
  refine r_getK (pc := 7) (w := (0, 0)) hX 3 rfl rfl kf_c (by decide) (fun _ => rfl) (fun H h => h.2.1) ?_
  refine r_goto (pc := 10) hX 4 (tgt := 14) rfl (by decide) ?_
  exact r_xret (pc := 14) hX 6 hQ rfl rfl rfl (Nat.le_refl 0) (Nat.le_refl 0) ⟨rfl, rfl, rfl, rfl⟩
theorem c_isLatin1 (g : Gp) (v ρ : Mv) (Z : Mz) : Ok g 1 0 0 F_J0_isLatin1_aae02 [(4, (gK g : Int))] v ρ Z (fun o9 v' ρ' Z' => ρ = ρ' ∧ Z = Z' ∧ v = v' ∧ o9 = some (0, 1)) := by
  refine Ok.of mo_J0_isLatin1_aae02 (Nat.le_of_ble_eq_true rfl) ?_
  intro X hX hRm hxn hQ
  show wp g X F_J0_isLatin1_aae02 0 0 0 [(4, (gK g : Int))] [] v ρ Z
  refine r_getsC (pc := 0) hX 0 rfl rfl ?_
  refine r_if_eq (pc := 3) hX 1 (tgt := 17) rfl (by decide) (⟨by omega, by omega⟩) (fun h => absurd h (by decide)) (fun _ => ?_)
  refine r_aload4 (pc := 6) hX 2 rfl rfl ?_
  refine r_getK (pc := 7) (w := (0, 0)) hX 3 rfl rfl kf_c (by decide) (fun _ => rfl) (fun H h => h.2.1) ?_
  refine r_if_ne (pc := 10) hX 4 (tgt := 17) rfl (by decide) (⟨by omega, by omega⟩) (fun h => absurd rfl h) (fun _ => ?_)
  refine r_iconst (pc := 13) hX 5 rfl ?_
  refine r_goto (pc := 14) hX 6 (tgt := 18) rfl (by decide) ?_
  exact r_zret (pc := 18) hX 8 hQ rfl rfl ⟨by omega, by omega⟩ (Nat.le_refl 0) (Nat.le_refl 0) ⟨rfl, rfl, rfl, rfl⟩
theorem c_preCheck (g : Gp) (v ρ : Mv) (Z : Mz) (i n : Int) (w : V2) (hw : w.1 = 4 ∨ w = (2, -1)) (h0 : 0 ≤ i) (h1 : i < n) (h2 : n < 2147483648) : Ok g 1 0 0 F_J3_checkIndex_8e157 [(0, i), (0, n), w] v ρ Z (fun o9 v' ρ' Z' => ρ = ρ' ∧ Z = Z' ∧ v = v' ∧ o9 = some (0, i)) := by
  have hw1 : w.1 ≠ 1 := by rcases hw with h | h <;> rw [h] <;> decide
  have hle : lent [(0, i), (0, n), w] = [(0, i), (0, n), w] := by
    show (0, i) :: (0, n) :: lent [w] = _
    unfold lent
    rw [if_neg hw1]
    rfl
  refine Ok.of mo_J3_checkIndex_8e157 (by rw [hle]; exact Nat.le_of_ble_eq_true rfl) ?_
  intro X hX hRm hxn hQ
  rw [show entL (fnl F_J3_checkIndex_8e157) [(0, i), (0, n), w] = [(0, i), (0, n), w] by unfold entL; rw [hle]; rfl]
  refine r_iload_n (pc := 0) hX 0 rfl rfl ?_
  refine r_if_lt (pc := 1) hX 1 (tgt := 9) rfl (by decide) (⟨by omega, by omega⟩) (fun h => absurd h (by omega)) (fun _ => ?_)
  refine r_iload_n (pc := 4) hX 2 rfl rfl ?_
  refine r_iload_n (pc := 5) hX 3 rfl rfl ?_
  refine r_icmp_lt (pc := 6) hX 4 (tgt := 16) rfl (by decide) (⟨by omega, by omega⟩) (⟨by omega, by omega⟩) (fun _ => ?_) (fun h => absurd h1 h)
  refine r_iload_n (pc := 16) hX 10 rfl rfl ?_
  exact r_iret (pc := 17) hX 11 hQ rfl rfl (Nat.le_refl 0) (Nat.le_refl 0) ⟨rfl, rfl, rfl, rfl⟩
theorem c_checkIndex (g : Gp) (v ρ : Mv) (Z : Mz) (hz : Z.1 1 ≠ 99) (i n : Int) (h0 : 0 ≤ i) (h1 : i < n) (h2 : n < 2147483648) : Ok g 2 0 0 F_J0_checkIndex_df160 [(0, i), (0, n)] v ρ Z (fun o9 v' ρ' Z' => ρ = ρ' ∧ Z = Z' ∧ v = v' ∧ o9 = none) := by
  refine Ok.of mo_J0_checkIndex_df160 (Nat.le_of_ble_eq_true rfl) ?_
  intro X hX hRm hxn hQ
  show wp g X F_J0_checkIndex_df160 0 0 0 [(0, i), (0, n)] [] v ρ Z
  refine r_iload_n (pc := 0) hX 0 rfl rfl ?_
  refine r_iload_n (pc := 1) hX 1 rfl rfl ?_
  refine r_getsF (pc := 2) hX 2 rfl rfl hz (fun w hw => ?_)
  refine r_callS (as := [(0, i), (0, n), w]) (st := []) (pc := 5) hX 3 rfl mo_J3_checkIndex_8e157 mk_J0_1059 stt_J3_checkIndex_8e157 (c_preCheck g v ρ Z i n w hw h0 h1 h2) rfl (by rw [hRm]; exact ⟨by decide, by decide⟩) (by rw [hRm]; exact ⟨by decide, by decide⟩) (Nat.le_of_ble_eq_true rfl) (fun o5 v5 ρ5 Z5 hq5 _ => ?_)
  obtain ⟨rfl, rfl, rfl, rfl⟩ := hq5
  show wp g X F_J0_checkIndex_df160 0 0 8 [(0, i), (0, n)] [(0, i)] v ρ Z
  refine r_pop (pc := 8) hX 4 rfl (show (0 : Nat) ≠ 1 by decide) ?_
  exact r_vret (pc := 9) hX 5 hQ rfl rfl (Nat.le_refl 0) (Nat.le_refl 0) ⟨rfl, rfl, rfl, rfl⟩
theorem c_charL (g : Gp) (v ρ : Mv) (Z : Mz) (hz : Z.1 1 ≠ 99) (i : Int) (h0 : 0 ≤ i) (h1 : i < 121) : Ok g 3 0 0 F_J1_charAt_3b067 [(4, (gV g : Int)), (0, i)] v ρ Z (fun o9 v' ρ' Z' => ρ = ρ' ∧ Z = Z' ∧ v = v' ∧ o9 = some (0, kyb i)) := by
  refine Ok.of mo_J1_charAt_3b067 (Nat.le_of_ble_eq_true rfl) ?_
  intro X hX hRm hxn hQ
  have hk := (ky_at h0 h1).1
  show wp g X F_J1_charAt_3b067 0 0 0 [(4, (gV g : Int)), (0, i)] [] v ρ Z
  refine r_iload_n (pc := 0) hX 0 rfl rfl ?_
  refine r_aload4 (pc := 1) hX 1 rfl rfl ?_
  refine r_alenK (pc := 2) hX 2 rfl ?_
  refine r_callS (as := [(0, i), (0, 121)]) (st := []) (pc := 3) hX 3 rfl mo_J0_checkIndex_df160 mk_J1_9 stt_J0_checkIndex_df160 (c_checkIndex g v ρ Z hz i 121 h0 h1 (by decide)) rfl (by rw [hRm]; exact ⟨by decide, by decide⟩) (by rw [hRm]; exact ⟨by decide, by decide⟩) (Nat.le_of_ble_eq_true rfl) (fun o5 v5 ρ5 Z5 hq5 _ => ?_)
  obtain ⟨rfl, rfl, rfl, rfl⟩ := hq5
  show wp g X F_J1_charAt_3b067 0 0 6 [(4, (gV g : Int)), (0, i)] [] v ρ Z
  refine r_aload4 (pc := 6) hX 4 rfl rfl ?_
  refine r_iload_n (pc := 7) hX 5 rfl rfl ?_
  refine r_baldK (pc := 8) hX 6 rfl h0 h1 ?_
  refine r_sipush (pc := 9) hX 7 rfl (by decide) ?_
  refine r_iandm (pc := 12) (m := 256) hX 8 8 rfl (by decide) (by decide) (by decide) ?_
  rw [show kyb i % 256 = kyb i by omega]
  refine r_i2c (pc := 13) hX 9 rfl hk ?_
  exact r_xret (pc := 14) hX 10 hQ rfl rfl (by show Value.int _ = _; rw [(i2c_ok hk).2]) (Nat.le_refl 0) (Nat.le_refl 0) ⟨rfl, rfl, rfl, rfl⟩
theorem c_charAt (g : Gp) (v ρ : Mv) (Z : Mz) (hz : Z.1 1 ≠ 99) (i : Int) (h0 : 0 ≤ i) (h1 : i < 121) : Ok g 4 0 0 F_J0_charAt_5068e [(4, (gK g : Int)), (0, i)] v ρ Z (fun o9 v' ρ' Z' => ρ = ρ' ∧ Z = Z' ∧ v = v' ∧ o9 = some (0, kyb i)) := by
  refine Ok.of mo_J0_charAt_5068e (Nat.le_of_ble_eq_true rfl) ?_
  intro X hX hRm hxn hQ
  have hk := (ky_at h0 h1).1
  show wp g X F_J0_charAt_5068e 0 0 0 [(4, (gK g : Int)), (0, i)] [] v ρ Z
  refine r_aload4 (pc := 0) hX 0 rfl rfl ?_
  refine r_callK (as := []) (st := []) (pc := 1) hX 1 rfl mo_J0_isLatin1_aae02 mk_J0_492 rfl im_J0_isLatin1_aae02 se_J0_isLatin1_aae02 (c_isLatin1 g v ρ Z) rfl (by rw [hRm]; exact ⟨by decide, by decide⟩) (by rw [hRm]; exact ⟨by decide, by decide⟩) (Nat.le_of_ble_eq_true rfl) (fun o5 v5 ρ5 Z5 hq5 _ => ?_)
  obtain ⟨rfl, rfl, rfl, rfl⟩ := hq5
  show wp g X F_J0_charAt_5068e 0 0 4 [(4, (gK g : Int)), (0, i)] [(0, 1)] v ρ Z
  refine r_if_eq (pc := 4) hX 2 (tgt := 16) rfl (by decide) (⟨by omega, by omega⟩) (fun h => absurd h (by decide)) (fun _ => ?_)
  refine r_aload4 (pc := 7) hX 3 rfl rfl ?_
  refine r_getK (pc := 8) (w := (4, (gV g : Int))) hX 4 rfl rfl kf_v (show (4 : Nat) ≠ 2 by decide) (fun _ => by rw [tr_a, Int.toNat_natCast]) (fun H h => h.2.2.1) ?_
  refine r_iload_n (pc := 11) hX 5 rfl rfl ?_
  refine r_callS (as := [(4, (gV g : Int)), (0, i)]) (st := []) (pc := 12) hX 6 rfl mo_J1_charAt_3b067 mk_J0_495 stt_J1_charAt_3b067 (c_charL g v ρ Z hz i h0 h1) rfl (by rw [hRm]; exact ⟨by decide, by decide⟩) (by rw [hRm]; exact ⟨by decide, by decide⟩) (Nat.le_of_ble_eq_true rfl) (fun o5 v5 ρ5 Z5 hq5 _ => ?_)
  obtain ⟨rfl, rfl, rfl, rfl⟩ := hq5
  show wp g X F_J0_charAt_5068e 0 0 15 [(4, (gK g : Int)), (0, i)] [(0, kyb i)] v ρ Z
  exact r_xret (pc := 15) hX 7 hQ rfl rfl (by show Value.int _ = _; rw [(i2c_ok hk).2]) (Nat.le_refl 0) (Nat.le_refl 0) ⟨rfl, rfl, rfl, rfl⟩
theorem c_length (g : Gp) (v ρ : Mv) (Z : Mz) : Ok g 2 0 0 F_J0_length_8abf5 [(4, (gK g : Int))] v ρ Z (fun o9 v' ρ' Z' => ρ = ρ' ∧ Z = Z' ∧ v = v' ∧ o9 = some (0, 121)) := by
  refine Ok.of mo_J0_length_8abf5 (Nat.le_of_ble_eq_true rfl) ?_
  intro X hX hRm hxn hQ
  show wp g X F_J0_length_8abf5 0 0 0 [(4, (gK g : Int))] [] v ρ Z
  refine r_aload4 (pc := 0) hX 0 rfl rfl ?_
  refine r_getK (pc := 1) (w := (4, (gV g : Int))) hX 1 rfl rfl kf_v (show (4 : Nat) ≠ 2 by decide) (fun _ => by rw [tr_a, Int.toNat_natCast]) (fun H h => h.2.2.1) ?_
  refine r_alenK (pc := 4) hX 2 rfl ?_
  refine r_aload4 (pc := 5) hX 3 rfl rfl ?_
  refine r_callK (as := []) (st := [(0, 121)]) (pc := 6) hX 4 rfl mo_J0_coder_7d493 mk_J0_335 rfl im_J0_coder_7d493 se_J0_coder_7d493 (c_coder g v ρ Z) rfl (by rw [hRm]; exact ⟨by decide, by decide⟩) (by rw [hRm]; exact ⟨by decide, by decide⟩) (Nat.le_of_ble_eq_true rfl) (fun o5 v5 ρ5 Z5 hq5 _ => ?_)
  obtain ⟨rfl, rfl, rfl, rfl⟩ := hq5
  show wp g X F_J0_length_8abf5 0 0 9 [(4, (gK g : Int))] [(0, 0), (0, 121)] v ρ Z
  refine r_ishr0 (pc := 9) hX 5 rfl ?_
  exact r_iret (pc := 10) hX 6 hQ rfl rfl (Nat.le_refl 0) (Nat.le_refl 0) ⟨rfl, rfl, rfl, rfl⟩
set_option maxHeartbeats 4000000 in
set_option maxRecDepth 100000 in
theorem c_X8_keyOf (g : Gp) (ω : Rw) (v ρ : Mv) (Z : Mz) (hH : HT ω v ρ Z) (x : Int) : Ok g 5 0 0 F_X8_keyOf [(1, x)] v ρ Z (fun o9 v' ρ' Z' => ρ = ρ' ∧ Z = Z' ∧ v = v' ∧ ∃ r : Int, o9 = some (0, r) ∧ (-1 ≤ r ∧ r ≤ 21)) := by
  have hz : Z.1 1 ≠ 99 := by rw [hH.2.2.2.2.2.2.1]; decide
  refine Ok.of mo_X8_keyOf (Nat.le_of_ble_eq_true rfl) ?_
  intro X hX hRm hxn hQ
  show wp g X F_X8_keyOf 0 0 0 [(1, x), (3, 0), (3, 0), (3, 0), (3, 0), (3, 0), (3, 0)] [] v ρ Z
  refine r_iconst (pc := 0) hX 0 rfl ?_
  refine r_istore_n (ls' := [(1, x), (3, 0), (0, 0), (3, 0), (3, 0), (3, 0), (3, 0)]) (pc := 1) hX 1 rfl (by decide) rfl ?_
  refine r_lconst (pc := 2) hX 2 rfl ?_
  refine r_lstore_n (ls' := [(1, x), (3, 0), (0, 0), (1, 0), (3, 0), (3, 0), (3, 0)]) (pc := 3) hX 3 rfl (by decide) rfl ?_
  refine r_iconst (pc := 4) hX 4 rfl ?_
  refine r_istore (ls' := [(1, x), (3, 0), (0, 0), (1, 0), (3, 0), (0, 0), (3, 0)]) (pc := 5) hX 5 rfl (by decide) rfl ?_
  have L7 : ∀ (n7 : Nat) (to i : Int), 0 ≤ i → i ≤ 121 → (121 - i).toNat < n7 → wp g X F_X8_keyOf 0 0 7 [(1, x), (3, 0), (0, kyn i), (1, to), (3, 0), (0, i), (3, 0)] [] v ρ Z := by
    intro n7
    induction n7 with
    | zero => intro to i h0 h1 hm; exact absurd hm (Nat.not_lt_zero _)
    | succ n7 ih =>
      intro to i h0 h1 hm
      refine r_iload (pc := 7) hX 6 rfl rfl ?_
      refine r_ldcK (pc := 9) hX 7 rfl rfl ?_
      refine r_callK (as := []) (st := [(0, i)]) (pc := 11) hX 8 rfl mo_J0_length_8abf5 mk_X8_72 rfl im_J0_length_8abf5 se_J0_length_8abf5 (c_length g v ρ Z) rfl (by rw [hRm]; exact ⟨by decide, by decide⟩) (by rw [hRm]; exact ⟨by decide, by decide⟩) (Nat.le_of_ble_eq_true rfl) (fun o5 v5 ρ5 Z5 hq5 _ => ?_)
      obtain ⟨rfl, rfl, rfl, rfl⟩ := hq5
      show wp g X F_X8_keyOf 0 0 14 [(1, x), (3, 0), (0, kyn i), (1, to), (3, 0), (0, i), (3, 0)] [(0, 121), (0, i)] v ρ Z
      refine r_icmp_ge (pc := 14) hX 9 (tgt := 70) rfl (by decide) (⟨by omega, by omega⟩) (⟨by omega, by omega⟩) (fun h14 => ?_) (fun h14 => ?_)
      · refine r_iconst (pc := 70) hX 40 rfl ?_
        exact r_iret (pc := 71) hX 41 hQ rfl rfl (Nat.le_refl 0) (Nat.le_refl 0) ⟨rfl, rfl, rfl, -1, rfl, by omega⟩
      · have hk := ky_at h0 (by omega)
        refine r_ldcK (pc := 17) hX 10 rfl rfl ?_
        refine r_iload (pc := 19) hX 11 rfl rfl ?_
        refine r_callK (as := [(0, i)]) (st := []) (pc := 21) hX 12 rfl mo_J0_charAt_5068e mk_X8_77 rfl im_J0_charAt_5068e se_J0_charAt_5068e (c_charAt g v ρ Z hz i h0 (by omega)) rfl (by rw [hRm]; exact ⟨by decide, by decide⟩) (by rw [hRm]; exact ⟨by decide, by decide⟩) (Nat.le_of_ble_eq_true rfl) (fun o5 v5 ρ5 Z5 hq5 _ => ?_)
        obtain ⟨rfl, rfl, rfl, rfl⟩ := hq5
        show wp g X F_X8_keyOf 0 0 24 [(1, x), (3, 0), (0, kyn i), (1, to), (3, 0), (0, i), (3, 0)] [(0, kyb i)] v ρ Z
        refine r_istore (ls' := [(1, x), (3, 0), (0, kyn i), (1, to), (3, 0), (0, i), (0, kyb i)]) (pc := 24) hX 13 rfl (by decide) rfl ?_
        refine r_iload (pc := 26) hX 14 rfl rfl ?_
        refine r_bipush (pc := 28) hX 15 rfl (by decide) ?_
        have L64 : ∀ to' : Int, wp g X F_X8_keyOf 0 0 64 [(1, x), (3, 0), (0, kyn (i + 1)), (1, to'), (3, 0), (0, i), (0, kyb i)] [] v ρ Z := by
          intro to'
          refine r_iinc (ls' := [(1, x), (3, 0), (0, kyn (i + 1)), (1, to'), (3, 0), (0, i + 1), (0, kyb i)]) (pc := 64) hX 38 rfl rfl (by decide) rfl ?_
          refine r_goto (pc := 67) hX 39 (tgt := 7) rfl (by decide) ?_
          refine r_wk (ls' := [(1, x), (3, 0), (0, kyn (i + 1)), (1, to'), (3, 0), (0, i + 1), (3, 0)]) ⟨Or.inr rfl, Or.inr rfl, Or.inr rfl, Or.inr rfl, Or.inr rfl, Or.inr rfl, Or.inl rfl, trivial⟩ ?_
          exact ih to' (i + 1) (by omega) (by omega) (by omega)
        refine r_icmp_eq (pc := 30) hX 16 (tgt := 51) rfl (by decide) (⟨by omega, by omega⟩) (⟨by omega, by omega⟩) (fun h30 => ?_) (fun h30 => ?_)
        · have hk2 := hk.2.1 h30
          refine r_lload_n (pc := 51) hX 29 rfl rfl ?_
          refine r_lload_n (pc := 52) hX 30 rfl rfl ?_
          refine r_lcmp_any (pc := 53) hX 31 rfl (fun z hz1 hz2 => ?_)
          refine r_if_ne (pc := 54) hX 32 (tgt := 59) rfl (by decide) (⟨by omega, by omega⟩) (fun h54 => ?_) (fun h54 => ?_)
          · refine r_iinc (ls' := [(1, x), (3, 0), (0, kyn i + 1), (1, to), (3, 0), (0, i), (0, kyb i)]) (pc := 59) hX 35 rfl rfl (by decide) rfl ?_
            rw [← hk2.1]
            refine r_lconst (pc := 62) hX 36 rfl ?_
            refine r_lstore_n (ls' := [(1, x), (3, 0), (0, kyn (i + 1)), (1, 0), (3, 0), (0, i), (0, kyb i)]) (pc := 63) hX 37 rfl (by decide) rfl ?_
            exact L64 0
          · refine r_iload_n (pc := 57) hX 33 rfl rfl ?_
            exact r_iret (pc := 58) hX 34 hQ rfl rfl (Nat.le_refl 0) (Nat.le_refl 0) ⟨rfl, rfl, rfl, kyn i, rfl, by omega⟩
        · have hk2 := hk.2.2.1 h30
          refine r_lload_n (pc := 33) hX 17 rfl rfl ?_
          refine r_ldc2 (y := 32) (pc := 34) hX 18 rfl kl_X8_68 (by decide) ?_
          refine r_lmul (pc := 37) hX 19 rfl ?_
          refine r_iload (pc := 38) hX 20 rfl rfl ?_
          refine r_bipush (pc := 40) hX 21 rfl (by decide) ?_
          refine r_isub (pc := 42) hX 22 rfl ?_
          refine r_iconst (pc := 43) hX 23 rfl ?_
          refine r_iadd (pc := 44) hX 24 rfl ?_
          refine r_i2l (pc := 45) hX 25 rfl ⟨by omega, by omega⟩ ?_
          refine r_ladd (pc := 46) hX 26 rfl ?_
          refine r_lstore_n (ls' := [(1, x), (3, 0), (0, kyn i), (1, to * 32 + (kyb i - 97 + 1)), (3, 0), (0, i), (0, kyb i)]) (pc := 47) hX 27 rfl (by decide) rfl ?_
          refine r_goto (pc := 48) hX 28 (tgt := 64) rfl (by decide) ?_
          rw [← hk2]
          exact L64 _
  have h := L7 122 0 0 (by decide) (by decide) (by decide)
  rw [ky_0] at h
  exact h
