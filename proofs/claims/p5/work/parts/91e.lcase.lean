set_option maxRecDepth 100000 in
def lc_28 : List (Nat × Instr × Nat) := [(1082, .aload_n 1, 1), (1083, .aload_n 0, 1), (1084, .iload 4, 2), (1086, .iconst 1, 1), (1087, .iadd, 1), (1088, .iaload, 1), (1089, .invokevirtual 163, 3), (1092, .pop, 1), (1093, .aload_n 2, 1), (1094, .aload_n 0, 1), (1095, .iload 4, 2), (1097, .iconst 1, 1), (1098, .iadd, 1), (1099, .iaload, 1), (1100, .invokevirtual 166, 3), (1103, .pop, 1), (1104, .goto 306, 3)]
set_option maxRecDepth 100000 in
theorem lc_28_d : lc_28.all (fun q => decide (decode cL_law q.1 = .ok q.2)) = true := by decide +kernel
set_option maxHeartbeats 4000000 in
set_option maxRecDepth 100000 in
theorem cs_28 {g : Gp} {X : Cx} {N : Int} {sc : Int → Int} (hL : LX g X) (hsc : ∀ k, inR (sc k)) : CaseOk6 g X N sc 1082 := by
  intro i cells slots ω v ρ Z hi0 hi1 hc hs hI kk
  obtain ⟨⟨⟨⟨hI, hE⟩, hT⟩, hQ4, hQl, hQs⟩, hF⟩ := hI
  have hw := TrW.of hI.ht hI.w4
  have h8 : 0 ≤ v (ρ 4 6) 1 ∧ v (ρ 4 6) 1 ≤ 8 := hI.ht.rg hw.2.2.2.1 (by decide) rfl
  have hw4 : ω (ρ 4 1) = 4 := hI.ht.rf hI.w4 (by decide) rfl
  have hw3 : ω (ρ (ρ 4 0) 0) = 3 := hI.ht.rf hI.w2 (by decide) rfl
  have hw15 : ω (ρ 4 2) = 15 := hI.ht.rf hI.w4 (by decide) rfl
  have hw21 : ω (ρ 4 3) = 21 := hI.ht.rf hI.w4 (by decide) rfl
  have hX : okX g X (LF lc_28) := okL hL.1 lc_28_d
  have hR := hL.2.1
  show wp g X (LF lc_28) cells slots 1082 (lls i) [] v ρ Z
  refine r_aload_n (pc := 1082) hX 0 rfl rfl ?_
  refine r_aload_n (pc := 1083) hX 1 rfl rfl ?_
  refine r_iload (pc := 1084) hX 2 rfl rfl ?_
  refine r_iconst (pc := 1086) hX 3 rfl ?_
  refine r_iadd (pc := 1087) hX 4 rfl ?_
  refine e_iald (y := sc (i + 1)) (n := N) (pc := 1088) hX 5 rfl hI.sk hI.sl (by omega) (by omega) (hI.s3 _) ?_
  refine r_callV (as := [(0, sc (i + 1))]) (st := []) (K := 11) (pc := 1089) hX 6 rfl mo_X11_took ml_L_163 im_X11_took se_X11_took (c_X11_took g ω v ρ Z hI.ht 4 hI.w4 (sc (i + 1)) (hsc _)) rfl rfl rfl hI.k4 (by rw [hR]; exact ⟨Nat.le_of_ble_eq_true rfl, Nat.le_of_ble_eq_true rfl⟩) (by rw [hR]; exact ⟨by show cells + 0 ≤ 601024; omega, by show slots + 0 ≤ 7293034; omega⟩) (Nat.le_of_ble_eq_true rfl) (fun o1 v1 ρ1 Z1 hq1 _ => ?_)
  obtain ⟨rfl, rfl, rfl, r1, rfl, hp1⟩ := hq1
  have hI1 := hI
  have hC1 : EqC (v (ρ 4 0) 1) (v (ρ 4 13)) v ρ := ⟨rfl, fun _ _ _ => rfl⟩
  have hF1 : v (ρ 4 0) 9 = v (ρ 4 0) 9 := rfl
  have e178 : v 178 = v 178 := rfl
  have e209 : v 209 = v 209 := rfl
  have e179 : v 179 = v 179 := rfl
  have e184 : v 184 = v 184 := rfl
  have eB : v (ρ (ρ 4 0) 0) = v (ρ (ρ 4 0) 0) := rfl
  have e180 : v 180 = v 180 := rfl
  have e207 : v 207 = v 207 := rfl
  have e183 : v 183 = v 183 := rfl
  have e208 : v 208 = v 208 := rfl
  have hS1 : ρ (ρ 4 2) 0 = ρ 4 0 ∧ ρ (ρ 4 3) 0 = ρ 4 0 := ⟨hQl, hQs⟩
  have hKc : RcK ω v ρ v ρ := fun _ _ _ _ _ h => h
  have ho5 : ∀ o, ω o = 5 → ω o = 5 := fun _ h => h
  have hPc := TrP.rf hQ4.1
  have hr1 : ρ 4 0 = ρ 4 0 ∧ ρ 4 1 = ρ 4 1 ∧ ρ (ρ 4 1) 0 = ρ (ρ 4 1) 0 ∧ ρ (ρ 4 0) 0 = ρ (ρ 4 0) 0 := ⟨rfl, rfl, rfl, rfl⟩
  show wp g X (LF lc_28) (cells) (slots) 1092 [(2, 3), (2, 4), (2, 178), (2, 210), (0, i), (3, 0), (3, 0), (3, 0)] [(0, r1)] v ρ Z
  refine r_pop (pc := 1092) hX 7 rfl (show (0 : Nat) ≠ 1 by decide) ?_
  refine r_aload_n (pc := 1093) hX 8 rfl rfl ?_
  refine r_aload_n (pc := 1094) hX 9 rfl rfl ?_
  refine r_iload (pc := 1095) hX 10 rfl rfl ?_
  refine r_iconst (pc := 1097) hX 11 rfl ?_
  refine r_iadd (pc := 1098) hX 12 rfl ?_
  refine e_iald (y := sc (i + 1)) (n := N) (pc := 1099) hX 13 rfl hI1.sk hI1.sl (by omega) (by omega) (hI1.s3 _) ?_
  obtain ⟨b1, b2, b3, b4, b5, b6, b7, b8, b9, b10⟩ := hI1.rf
  refine r_callV (as := [(0, sc (i + 1))]) (st := []) (K := 12) (pc := 1100) hX 14 rfl mo_m_took ml_L_166 im_m_took se_m_took (c_took g v ρ Z hI1.gm (sc (i + 1)) (hsc _) b9) rfl rfl rfl hI1.gm.1 (by rw [hR]; exact ⟨Nat.le_of_ble_eq_true rfl, Nat.le_of_ble_eq_true rfl⟩) (by rw [hR]; exact ⟨by show cells + 0 ≤ 601024; omega, by show slots + 0 ≤ 7293034; omega⟩) (Nat.le_of_ble_eq_true rfl) (fun o2 v2 ρ2 Z2 hq2 _ => ?_)
  obtain ⟨rfl, rfl, hf2, r2, rfl, hp2⟩ := hq2
  have hI2 := LInv.ref hI1 (Fr.out hf2 (by decide)) (show RfI v2 from ⟨by rw [hf2.2 2 (by decide)]; exact b1, by rw [hf2.2 14 (by decide)]; exact b2, by rw [hf2.2 11 (by decide)]; exact b3, by rw [hf2.1 180 (by decide) (by decide)]; exact b4, by rw [hf2.1 180 (by decide) (by decide), hf2.1 187 (by decide) (by decide), hf2.2 25 (by decide)]; exact b5, by rw [hf2.1 209 (by decide) (by decide), hf2.1 207 (by decide) (by decide)]; exact b6, by rw [hf2.1 195 (by decide) (by decide)]; exact b7, by rw [hf2.1 194 (by decide) (by decide)]; exact b8, by rw [hf2.2 45 (by decide)]; exact b9, by rw [hf2.2 49 (by decide)]; exact b10⟩)
  have z1 : v2 (ρ 4 0) 1 = v (ρ 4 0) 1 := congrFun (Fr.out hf2 (by decide) _ (hI1.lo hI1.w2 (by decide))) 1
  have z2 := hC1.1
  have z3 : v 178 2 = v 178 2 := congrFun e178 2
  have z0 := hE.1
  have y1 : ∀ k, v2 (ρ 4 13) k = v (ρ 4 13) k := fun k => congrFun (Fr.out hf2 (by decide) _ (hI1.lo hI1.w62 (by decide))) k
  have y3 : ∀ k, v 209 k = v 209 k := fun k => congrFun e209 k
  have z4 : v2 178 2 = v 178 2 := hf2.2 2 (by decide)
  have x9 : v2 (ρ 4 0) 9 = v (ρ 4 0) 9 := congrFun (Fr.out hf2 (by decide) _ (hI1.lo hI1.w2 (by decide))) 9
  have hF2 : v2 (ρ 4 0) 9 = v2 178 15 := by
    rw [x9, hF1, hf2.2 15 (by decide), e178]
    exact hF
  have hw3b : ω (ρ (ρ 4 0) 0) = 3 := hI1.ht.rf hI1.w2 (by decide) rfl
  have g2 : v2 (ρ (ρ 4 0) 0) = v (ρ (ρ 4 0) 0) := Fr.out hf2 (by decide) _ (hI1.lo hw3b (by decide))
  have e2 : v2 184 = v 184 := hf2.1 184 (by decide) (by decide)
  have hT2 : EqT v2 ρ := EqT.step hT hr1 e184 e2 e179 (hf2.1 179 (by decide) (by decide)) eB g2 (by omega)
  have hO := Fr.out hf2 (by decide)
  have hK2 := RcK.ref hKc hI1 hO ho5
  have hR2 : EqN v2 ρ := EqN.k1 hQ4 hI.ht hI.w4 (TrP.ref hPc hI1 hI1.w4 hO) hK2 (fun k _ _ => by rw [hf2.1 180 (by decide) (by decide), e180]) ((hf2.1 207 (by decide) (by decide)).trans e207) ((hf2.1 209 (by decide) (by decide)).trans e209) (fun k _ _ => congrFun ((hf2.1 183 (by decide) (by decide)).trans e183) k) ((hf2.1 208 (by decide) (by decide)).trans e208)
  have hE2 : EqI v2 ρ := ⟨by omega, fun k a b => by rw [y1 k, hC1.2 k a b, show v2 209 k = v 209 k from congrFun (hf2.1 209 (by decide) (by decide)) k, y3 k]; exact hE.2 k a b⟩
  show wp g X (LF lc_28) (cells) (slots) 1103 [(2, 3), (2, 4), (2, 178), (2, 210), (0, i), (3, 0), (3, 0), (3, 0)] [(0, r2)] v2 ρ Z
  refine r_pop (pc := 1103) hX 15 rfl (show (0 : Nat) ≠ 1 by decide) ?_
  refine r_goto (pc := 1104) hX 16 (tgt := 1410) rfl (by decide) ?_
  refine wp_wid (k := cells + 20) (n := slots + 150) (by omega) (by omega) ?_
  exact kk _ _ _ _ ⟨⟨⟨⟨hI2, hE2⟩, hT2⟩, hR2, hS1⟩, hF2⟩
set_option maxRecDepth 100000 in
def lc_29 : List (Nat × Instr × Nat) := [(1107, .aload_n 1, 1), (1108, .aload_n 0, 1), (1109, .iload 4, 2), (1111, .iconst 1, 1), (1112, .iadd, 1), (1113, .iaload, 1), (1114, .invokevirtual 167, 3), (1117, .pop, 1), (1118, .aload_n 2, 1), (1119, .aload_n 0, 1), (1120, .iload 4, 2), (1122, .iconst 1, 1), (1123, .iadd, 1), (1124, .iaload, 1), (1125, .invokevirtual 170, 3), (1128, .pop, 1), (1129, .goto 281, 3)]
set_option maxRecDepth 100000 in
theorem lc_29_d : lc_29.all (fun q => decide (decode cL_law q.1 = .ok q.2)) = true := by decide +kernel
set_option maxHeartbeats 4000000 in
set_option maxRecDepth 100000 in
theorem cs_29 {g : Gp} {X : Cx} {N : Int} {sc : Int → Int} (hL : LX g X) (hsc : ∀ k, inR (sc k)) : CaseOk6 g X N sc 1107 := by
  intro i cells slots ω v ρ Z hi0 hi1 hc hs hI kk
  obtain ⟨⟨⟨⟨hI, hE⟩, hT⟩, hQ4, hQl, hQs⟩, hF⟩ := hI
  have hw := TrW.of hI.ht hI.w4
  have h8 : 0 ≤ v (ρ 4 6) 1 ∧ v (ρ 4 6) 1 ≤ 8 := hI.ht.rg hw.2.2.2.1 (by decide) rfl
  have hw4 : ω (ρ 4 1) = 4 := hI.ht.rf hI.w4 (by decide) rfl
  have hw3 : ω (ρ (ρ 4 0) 0) = 3 := hI.ht.rf hI.w2 (by decide) rfl
  have hw15 : ω (ρ 4 2) = 15 := hI.ht.rf hI.w4 (by decide) rfl
  have hw21 : ω (ρ 4 3) = 21 := hI.ht.rf hI.w4 (by decide) rfl
  have hX : okX g X (LF lc_29) := okL hL.1 lc_29_d
  have hR := hL.2.1
  show wp g X (LF lc_29) cells slots 1107 (lls i) [] v ρ Z
  refine r_aload_n (pc := 1107) hX 0 rfl rfl ?_
  refine r_aload_n (pc := 1108) hX 1 rfl rfl ?_
  refine r_iload (pc := 1109) hX 2 rfl rfl ?_
  refine r_iconst (pc := 1111) hX 3 rfl ?_
  refine r_iadd (pc := 1112) hX 4 rfl ?_
  refine e_iald (y := sc (i + 1)) (n := N) (pc := 1113) hX 5 rfl hI.sk hI.sl (by omega) (by omega) (hI.s3 _) ?_
  refine r_callV (as := [(0, sc (i + 1))]) (st := []) (K := 11) (pc := 1114) hX 6 rfl mo_X11_car ml_L_167 im_X11_car se_X11_car (c_X11_car g ω v ρ Z hI.ht 4 hI.w4 (sc (i + 1)) (hsc _)) rfl rfl rfl hI.k4 (by rw [hR]; exact ⟨Nat.le_of_ble_eq_true rfl, Nat.le_of_ble_eq_true rfl⟩) (by rw [hR]; exact ⟨by show cells + 0 ≤ 601024; omega, by show slots + 0 ≤ 7293034; omega⟩) (Nat.le_of_ble_eq_true rfl) (fun o1 v1 ρ1 Z1 hq1 _ => ?_)
  obtain ⟨rfl, rfl, rfl, r1, rfl, hp1⟩ := hq1
  have hI1 := hI
  have hC1 : EqC (v (ρ 4 0) 1) (v (ρ 4 13)) v ρ := ⟨rfl, fun _ _ _ => rfl⟩
  have hF1 : v (ρ 4 0) 9 = v (ρ 4 0) 9 := rfl
  have e178 : v 178 = v 178 := rfl
  have e209 : v 209 = v 209 := rfl
  have e179 : v 179 = v 179 := rfl
  have e184 : v 184 = v 184 := rfl
  have eB : v (ρ (ρ 4 0) 0) = v (ρ (ρ 4 0) 0) := rfl
  have e180 : v 180 = v 180 := rfl
  have e207 : v 207 = v 207 := rfl
  have e183 : v 183 = v 183 := rfl
  have e208 : v 208 = v 208 := rfl
  have hS1 : ρ (ρ 4 2) 0 = ρ 4 0 ∧ ρ (ρ 4 3) 0 = ρ 4 0 := ⟨hQl, hQs⟩
  have hKc : RcK ω v ρ v ρ := fun _ _ _ _ _ h => h
  have ho5 : ∀ o, ω o = 5 → ω o = 5 := fun _ h => h
  have hPc := TrP.rf hQ4.1
  have hr1 : ρ 4 0 = ρ 4 0 ∧ ρ 4 1 = ρ 4 1 ∧ ρ (ρ 4 1) 0 = ρ (ρ 4 1) 0 ∧ ρ (ρ 4 0) 0 = ρ (ρ 4 0) 0 := ⟨rfl, rfl, rfl, rfl⟩
  show wp g X (LF lc_29) (cells) (slots) 1117 [(2, 3), (2, 4), (2, 178), (2, 210), (0, i), (3, 0), (3, 0), (3, 0)] [(0, r1)] v ρ Z
  refine r_pop (pc := 1117) hX 7 rfl (show (0 : Nat) ≠ 1 by decide) ?_
  refine r_aload_n (pc := 1118) hX 8 rfl rfl ?_
  refine r_aload_n (pc := 1119) hX 9 rfl rfl ?_
  refine r_iload (pc := 1120) hX 10 rfl rfl ?_
  refine r_iconst (pc := 1122) hX 11 rfl ?_
  refine r_iadd (pc := 1123) hX 12 rfl ?_
  refine e_iald (y := sc (i + 1)) (n := N) (pc := 1124) hX 13 rfl hI1.sk hI1.sl (by omega) (by omega) (hI1.s3 _) ?_
  obtain ⟨b1, b2, b3, b4, b5, b6, b7, b8, b9, b10⟩ := hI1.rf
  refine r_callV (as := [(0, sc (i + 1))]) (st := []) (K := 12) (pc := 1125) hX 14 rfl mo_m_car ml_L_170 im_m_car se_m_car (c_car g v ρ Z hI1.gm (sc (i + 1)) b4 (hsc _)) rfl rfl rfl hI1.gm.1 (by rw [hR]; exact ⟨Nat.le_of_ble_eq_true rfl, Nat.le_of_ble_eq_true rfl⟩) (by rw [hR]; exact ⟨by show cells + 0 ≤ 601024; omega, by show slots + 0 ≤ 7293034; omega⟩) (Nat.le_of_ble_eq_true rfl) (fun o2 v2 ρ2 Z2 hq2 _ => ?_)
  obtain ⟨rfl, rfl, hf2, r2, rfl, hp2⟩ := hq2
  have hI2 := LInv.ref hI1 (Fr.out hf2 (by decide)) (show RfI v2 from ⟨by rw [hf2.2 2 (by decide)]; exact b1, by rw [hf2.2 14 (by decide)]; exact b2, by rw [hf2.2 11 (by decide)]; exact b3, by rw [hf2.1 180 (by decide) (by decide)]; exact b4, by rw [hf2.1 180 (by decide) (by decide), hf2.1 187 (by decide) (by decide), hf2.2 25 (by decide)]; exact b5, by rw [hf2.1 209 (by decide) (by decide), hf2.1 207 (by decide) (by decide)]; exact b6, by rw [hf2.1 195 (by decide) (by decide)]; exact b7, by rw [hf2.1 194 (by decide) (by decide)]; exact b8, by rw [hf2.2 45 (by decide)]; exact b9, by rw [hf2.2 49 (by decide)]; exact b10⟩)
  have z1 : v2 (ρ 4 0) 1 = v (ρ 4 0) 1 := congrFun (Fr.out hf2 (by decide) _ (hI1.lo hI1.w2 (by decide))) 1
  have z2 := hC1.1
  have z3 : v 178 2 = v 178 2 := congrFun e178 2
  have z0 := hE.1
  have y1 : ∀ k, v2 (ρ 4 13) k = v (ρ 4 13) k := fun k => congrFun (Fr.out hf2 (by decide) _ (hI1.lo hI1.w62 (by decide))) k
  have y3 : ∀ k, v 209 k = v 209 k := fun k => congrFun e209 k
  have z4 : v2 178 2 = v 178 2 := hf2.2 2 (by decide)
  have x9 : v2 (ρ 4 0) 9 = v (ρ 4 0) 9 := congrFun (Fr.out hf2 (by decide) _ (hI1.lo hI1.w2 (by decide))) 9
  have hF2 : v2 (ρ 4 0) 9 = v2 178 15 := by
    rw [x9, hF1, hf2.2 15 (by decide), e178]
    exact hF
  have hw3b : ω (ρ (ρ 4 0) 0) = 3 := hI1.ht.rf hI1.w2 (by decide) rfl
  have g2 : v2 (ρ (ρ 4 0) 0) = v (ρ (ρ 4 0) 0) := Fr.out hf2 (by decide) _ (hI1.lo hw3b (by decide))
  have e2 : v2 184 = v 184 := hf2.1 184 (by decide) (by decide)
  have hT2 : EqT v2 ρ := EqT.step hT hr1 e184 e2 e179 (hf2.1 179 (by decide) (by decide)) eB g2 (by omega)
  have hO := Fr.out hf2 (by decide)
  have hK2 := RcK.ref hKc hI1 hO ho5
  have hR2 : EqN v2 ρ := EqN.k1 hQ4 hI.ht hI.w4 (TrP.ref hPc hI1 hI1.w4 hO) hK2 (fun k _ _ => by rw [hf2.1 180 (by decide) (by decide), e180]) ((hf2.1 207 (by decide) (by decide)).trans e207) ((hf2.1 209 (by decide) (by decide)).trans e209) (fun k _ _ => congrFun ((hf2.1 183 (by decide) (by decide)).trans e183) k) ((hf2.1 208 (by decide) (by decide)).trans e208)
  have hE2 : EqI v2 ρ := ⟨by omega, fun k a b => by rw [y1 k, hC1.2 k a b, show v2 209 k = v 209 k from congrFun (hf2.1 209 (by decide) (by decide)) k, y3 k]; exact hE.2 k a b⟩
  show wp g X (LF lc_29) (cells) (slots) 1128 [(2, 3), (2, 4), (2, 178), (2, 210), (0, i), (3, 0), (3, 0), (3, 0)] [(0, r2)] v2 ρ Z
  refine r_pop (pc := 1128) hX 15 rfl (show (0 : Nat) ≠ 1 by decide) ?_
  refine r_goto (pc := 1129) hX 16 (tgt := 1410) rfl (by decide) ?_
  refine wp_wid (k := cells + 20) (n := slots + 150) (by omega) (by omega) ?_
  exact kk _ _ _ _ ⟨⟨⟨⟨hI2, hE2⟩, hT2⟩, hR2, hS1⟩, hF2⟩
set_option maxRecDepth 100000 in
def lc_30 : List (Nat × Instr × Nat) := [(1132, .aload_n 1, 1), (1133, .invokevirtual 171, 3), (1136, .pop, 1), (1137, .aload_n 2, 1), (1138, .invokevirtual 174, 3), (1141, .pop, 1), (1142, .goto 268, 3)]
set_option maxRecDepth 100000 in
theorem lc_30_d : lc_30.all (fun q => decide (decode cL_law q.1 = .ok q.2)) = true := by decide +kernel
set_option maxHeartbeats 4000000 in
set_option maxRecDepth 100000 in
theorem cs_30 {g : Gp} {X : Cx} {N : Int} {sc : Int → Int} (hL : LX g X) (hsc : ∀ k, inR (sc k)) : CaseOk6 g X N sc 1132 := by
  intro i cells slots ω v ρ Z hi0 hi1 hc hs hI kk
  obtain ⟨⟨⟨⟨hI, hE⟩, hT⟩, hQ4, hQl, hQs⟩, hF⟩ := hI
  have hw := TrW.of hI.ht hI.w4
  have h8 : 0 ≤ v (ρ 4 6) 1 ∧ v (ρ 4 6) 1 ≤ 8 := hI.ht.rg hw.2.2.2.1 (by decide) rfl
  have hw4 : ω (ρ 4 1) = 4 := hI.ht.rf hI.w4 (by decide) rfl
  have hw3 : ω (ρ (ρ 4 0) 0) = 3 := hI.ht.rf hI.w2 (by decide) rfl
  have hw15 : ω (ρ 4 2) = 15 := hI.ht.rf hI.w4 (by decide) rfl
  have hw21 : ω (ρ 4 3) = 21 := hI.ht.rf hI.w4 (by decide) rfl
  have hX : okX g X (LF lc_30) := okL hL.1 lc_30_d
  have hR := hL.2.1
  show wp g X (LF lc_30) cells slots 1132 (lls i) [] v ρ Z
  refine r_aload_n (pc := 1132) hX 0 rfl rfl ?_
  refine r_callV (as := []) (st := []) (K := 11) (pc := 1133) hX 1 rfl mo_X11_row ml_L_171 im_X11_row se_X11_row (c_X11_row g ω v ρ Z hI.ht 4 hI.w4) rfl rfl rfl hI.k4 (by rw [hR]; exact ⟨Nat.le_of_ble_eq_true rfl, Nat.le_of_ble_eq_true rfl⟩) (by rw [hR]; exact ⟨by show cells + 0 ≤ 601024; omega, by show slots + 0 ≤ 7293034; omega⟩) (Nat.le_of_ble_eq_true rfl) (fun o1 v1 ρ1 Z1 hq1 _ => ?_)
  obtain ⟨rfl, rfl, rfl, r1, rfl, hp1⟩ := hq1
  have hI1 := hI
  have hC1 : EqC (v (ρ 4 0) 1) (v (ρ 4 13)) v ρ := ⟨rfl, fun _ _ _ => rfl⟩
  have hF1 : v (ρ 4 0) 9 = v (ρ 4 0) 9 := rfl
  have e178 : v 178 = v 178 := rfl
  have e209 : v 209 = v 209 := rfl
  have e179 : v 179 = v 179 := rfl
  have e184 : v 184 = v 184 := rfl
  have eB : v (ρ (ρ 4 0) 0) = v (ρ (ρ 4 0) 0) := rfl
  have e180 : v 180 = v 180 := rfl
  have e207 : v 207 = v 207 := rfl
  have e183 : v 183 = v 183 := rfl
  have e208 : v 208 = v 208 := rfl
  have hS1 : ρ (ρ 4 2) 0 = ρ 4 0 ∧ ρ (ρ 4 3) 0 = ρ 4 0 := ⟨hQl, hQs⟩
  have hKc : RcK ω v ρ v ρ := fun _ _ _ _ _ h => h
  have ho5 : ∀ o, ω o = 5 → ω o = 5 := fun _ h => h
  have hPc := TrP.rf hQ4.1
  have hr1 : ρ 4 0 = ρ 4 0 ∧ ρ 4 1 = ρ 4 1 ∧ ρ (ρ 4 1) 0 = ρ (ρ 4 1) 0 ∧ ρ (ρ 4 0) 0 = ρ (ρ 4 0) 0 := ⟨rfl, rfl, rfl, rfl⟩
  show wp g X (LF lc_30) (cells) (slots) 1136 [(2, 3), (2, 4), (2, 178), (2, 210), (0, i), (3, 0), (3, 0), (3, 0)] [(0, r1)] v ρ Z
  refine r_pop (pc := 1136) hX 2 rfl (show (0 : Nat) ≠ 1 by decide) ?_
  refine r_aload_n (pc := 1137) hX 3 rfl rfl ?_
  obtain ⟨b1, b2, b3, b4, b5, b6, b7, b8, b9, b10⟩ := hI1.rf
  refine r_callV (as := []) (st := []) (K := 12) (pc := 1138) hX 4 rfl mo_m_row ml_L_174 im_m_row se_m_row (c_row g v ρ Z hI1.gm b4) rfl rfl rfl hI1.gm.1 (by rw [hR]; exact ⟨Nat.le_of_ble_eq_true rfl, Nat.le_of_ble_eq_true rfl⟩) (by rw [hR]; exact ⟨by show cells + 0 ≤ 601024; omega, by show slots + 0 ≤ 7293034; omega⟩) (Nat.le_of_ble_eq_true rfl) (fun o2 v2 ρ2 Z2 hq2 _ => ?_)
  obtain ⟨rfl, rfl, hf2, r2, rfl, hp2⟩ := hq2
  have hI2 := LInv.ref hI1 (Fr.out hf2 (by decide)) (show RfI v2 from ⟨by rw [hf2.2 2 (by decide)]; exact b1, by rw [hf2.2 14 (by decide)]; exact b2, by rw [hf2.2 11 (by decide)]; exact b3, by rw [hf2.1 180 (by decide) (by decide)]; exact b4, by rw [hf2.1 180 (by decide) (by decide), hf2.1 187 (by decide) (by decide), hf2.2 25 (by decide)]; exact b5, by rw [hf2.1 209 (by decide) (by decide), hf2.1 207 (by decide) (by decide)]; exact b6, by rw [hf2.1 195 (by decide) (by decide)]; exact b7, by rw [hf2.1 194 (by decide) (by decide)]; exact b8, by rw [hf2.2 45 (by decide)]; exact b9, by rw [hf2.2 49 (by decide)]; exact b10⟩)
  have z1 : v2 (ρ 4 0) 1 = v (ρ 4 0) 1 := congrFun (Fr.out hf2 (by decide) _ (hI1.lo hI1.w2 (by decide))) 1
  have z2 := hC1.1
  have z3 : v 178 2 = v 178 2 := congrFun e178 2
  have z0 := hE.1
  have y1 : ∀ k, v2 (ρ 4 13) k = v (ρ 4 13) k := fun k => congrFun (Fr.out hf2 (by decide) _ (hI1.lo hI1.w62 (by decide))) k
  have y3 : ∀ k, v 209 k = v 209 k := fun k => congrFun e209 k
  have z4 : v2 178 2 = v 178 2 := hf2.2 2 (by decide)
  have x9 : v2 (ρ 4 0) 9 = v (ρ 4 0) 9 := congrFun (Fr.out hf2 (by decide) _ (hI1.lo hI1.w2 (by decide))) 9
  have hF2 : v2 (ρ 4 0) 9 = v2 178 15 := by
    rw [x9, hF1, hf2.2 15 (by decide), e178]
    exact hF
  have hw3b : ω (ρ (ρ 4 0) 0) = 3 := hI1.ht.rf hI1.w2 (by decide) rfl
  have g2 : v2 (ρ (ρ 4 0) 0) = v (ρ (ρ 4 0) 0) := Fr.out hf2 (by decide) _ (hI1.lo hw3b (by decide))
  have e2 : v2 184 = v 184 := hf2.1 184 (by decide) (by decide)
  have hT2 : EqT v2 ρ := EqT.step hT hr1 e184 e2 e179 (hf2.1 179 (by decide) (by decide)) eB g2 (by omega)
  have hO := Fr.out hf2 (by decide)
  have hK2 := RcK.ref hKc hI1 hO ho5
  have hR2 : EqN v2 ρ := EqN.k1 hQ4 hI.ht hI.w4 (TrP.ref hPc hI1 hI1.w4 hO) hK2 (fun k _ _ => by rw [hf2.1 180 (by decide) (by decide), e180]) ((hf2.1 207 (by decide) (by decide)).trans e207) ((hf2.1 209 (by decide) (by decide)).trans e209) (fun k _ _ => congrFun ((hf2.1 183 (by decide) (by decide)).trans e183) k) ((hf2.1 208 (by decide) (by decide)).trans e208)
  have hE2 : EqI v2 ρ := ⟨by omega, fun k a b => by rw [y1 k, hC1.2 k a b, show v2 209 k = v 209 k from congrFun (hf2.1 209 (by decide) (by decide)) k, y3 k]; exact hE.2 k a b⟩
  show wp g X (LF lc_30) (cells) (slots) 1141 [(2, 3), (2, 4), (2, 178), (2, 210), (0, i), (3, 0), (3, 0), (3, 0)] [(0, r2)] v2 ρ Z
  refine r_pop (pc := 1141) hX 5 rfl (show (0 : Nat) ≠ 1 by decide) ?_
  refine r_goto (pc := 1142) hX 6 (tgt := 1410) rfl (by decide) ?_
  refine wp_wid (k := cells + 20) (n := slots + 150) (by omega) (by omega) ?_
  exact kk _ _ _ _ ⟨⟨⟨⟨hI2, hE2⟩, hT2⟩, hR2, hS1⟩, hF2⟩
set_option maxRecDepth 100000 in
def lc_31 : List (Nat × Instr × Nat) := [(1145, .aload_n 1, 1), (1146, .aload_n 0, 1), (1147, .iload 4, 2), (1149, .iconst 1, 1), (1150, .iadd, 1), (1151, .iaload, 1), (1152, .aload_n 3, 1), (1153, .invokestatic 175, 3), (1156, .istore 5, 2), (1158, .aload_n 2, 1), (1159, .aload_n 0, 1), (1160, .iload 4, 2), (1162, .iconst 1, 1), (1163, .iadd, 1), (1164, .iaload, 1), (1165, .invokevirtual 177, 3), (1168, .lstore 6, 2), (1170, .goto 240, 3)]
set_option maxRecDepth 100000 in
theorem lc_31_d : lc_31.all (fun q => decide (decode cL_law q.1 = .ok q.2)) = true := by decide +kernel
set_option maxHeartbeats 4000000 in
set_option maxRecDepth 100000 in
theorem cs_31 {g : Gp} {X : Cx} {N : Int} {sc : Int → Int} (hL : LX g X) (hsc : ∀ k, inR (sc k)) : CaseOk6 g X N sc 1145 := by
  intro i cells slots ω v ρ Z hi0 hi1 hc hs hI kk
  obtain ⟨⟨⟨⟨hI, hE⟩, hT⟩, hQ4, hQl, hQs⟩, hF⟩ := hI
  have hw := TrW.of hI.ht hI.w4
  have h8 : 0 ≤ v (ρ 4 6) 1 ∧ v (ρ 4 6) 1 ≤ 8 := hI.ht.rg hw.2.2.2.1 (by decide) rfl
  have hw4 : ω (ρ 4 1) = 4 := hI.ht.rf hI.w4 (by decide) rfl
  have hw3 : ω (ρ (ρ 4 0) 0) = 3 := hI.ht.rf hI.w2 (by decide) rfl
  have hw15 : ω (ρ 4 2) = 15 := hI.ht.rf hI.w4 (by decide) rfl
  have hw21 : ω (ρ 4 3) = 21 := hI.ht.rf hI.w4 (by decide) rfl
  have hX : okX g X (LF lc_31) := okL hL.1 lc_31_d
  have hR := hL.2.1
  show wp g X (LF lc_31) cells slots 1145 (lls i) [] v ρ Z
  refine r_aload_n (pc := 1145) hX 0 rfl rfl ?_
  refine r_aload_n (pc := 1146) hX 1 rfl rfl ?_
  refine r_iload (pc := 1147) hX 2 rfl rfl ?_
  refine r_iconst (pc := 1149) hX 3 rfl ?_
  refine r_iadd (pc := 1150) hX 4 rfl ?_
  refine e_iald (y := sc (i + 1)) (n := N) (pc := 1151) hX 5 rfl hI.sk hI.sl (by omega) (by omega) (hI.s3 _) ?_
  refine r_aload_n (pc := 1152) hX 6 rfl rfl ?_
  refine r_callSH (as := [(2, 4), (0, sc (i + 1)), (2, 210)]) (st := []) (pc := 1153) hX 7 hL.2.2.2 rfl mo_L_luck ml_L_175 stt_L_luck (c_LG_luck g ω v ρ Z hI.ht 4 hI.w4 (sc (i + 1)) 210 hI.o0 hI.ok hI.ol (by decide) hL.2.2.1 (by have := hI.nz; omega) (hsc _)) rfl (by rw [hR]; exact ⟨Nat.le_of_ble_eq_true rfl, Nat.le_of_ble_eq_true rfl⟩) (by rw [hR]; exact ⟨by show cells + 1 ≤ 601024; omega, by show slots + 6 ≤ 7293034; omega⟩) (Nat.le_of_ble_eq_true rfl) (fun o1 v1 ρ1 Z1 hq1 _ => ?_)
  obtain ⟨rfl, hf1, hg1, hh1, r1, rfl, hp1⟩ := hq1
  have hI1 := LInv.cls hI (fun q h n => hf1 q (by rw [h]; decide) n) (fun q h => hg1 q (by rw [h]; decide)) hh1
  have hC1 : EqC (v (ρ 4 0) 1) (v (ρ 4 13)) v1 ρ1 := EqC.fr (congrFun (hg1 4 (by rw [hI.w4]; decide)) 0) (congrFun (hg1 4 (by rw [hI.w4]; decide)) 13) (congrFun (hf1 (ρ 4 0) (by rw [hI.w2]; decide) (by have := hI.lt hI.w2 (by decide); omega)) 1) (fun k _ _ => congrFun (hf1 (ρ 4 13) (by rw [hI.w62]; decide) (by have := hI.lt hI.w62 (by decide); omega)) k)
  have e178 : v1 178 = v 178 := hf1 178 (by rw [hI.wz (r := 178) (by decide) (by decide)]; decide) (by decide)
  have e209 : v1 209 = v 209 := hf1 209 (by rw [hI.wz (r := 209) (by decide) (by decide)]; decide) (by decide)
  have e179 : v1 179 = v 179 := hf1 179 (by rw [hI.wz (r := 179) (by decide) (by decide)]; decide) (by decide)
  have e184 : v1 184 = v 184 := hf1 184 (by rw [hI.wz (r := 184) (by decide) (by decide)]; decide) (by decide)
  have e180 : v1 180 = v 180 := hf1 180 (by rw [hI.wz (r := 180) (by decide) (by decide)]; decide) (by decide)
  have e207 : v1 207 = v 207 := hf1 207 (by rw [hI.wz (r := 207) (by decide) (by decide)]; decide) (by decide)
  have e183 : v1 183 = v 183 := hf1 183 (by rw [hI.wz (r := 183) (by decide) (by decide)]; decide) (by decide)
  have e208 : v1 208 = v 208 := hf1 208 (by rw [hI.wz (r := 208) (by decide) (by decide)]; decide) (by decide)
  have eB : v1 (ρ (ρ 4 0) 0) = v (ρ (ρ 4 0) 0) := hf1 _ (by rw [hw3]; decide) (by have := hI.lt hw3 (by decide); omega)
  have hr1 : ρ1 4 0 = ρ 4 0 ∧ ρ1 4 1 = ρ 4 1 ∧ ρ1 (ρ 4 1) 0 = ρ (ρ 4 1) 0 ∧ ρ1 (ρ 4 0) 0 = ρ (ρ 4 0) 0 := ⟨congrFun (hg1 4 (by rw [hI.w4]; decide)) 0, congrFun (hg1 4 (by rw [hI.w4]; decide)) 1, congrFun (hg1 _ (by rw [hw4]; decide)) 0, congrFun (hg1 _ (by rw [hI.w2]; decide)) 0⟩
  have hKc : RcK ω v ρ v1 ρ1 := fun o L i s h5 h => (h.frO hI.ht h5 (fun r hr => hf1 r (inW_K hr) (by have := hI.lt (c := ω r) rfl (inW_0 hr); omega))).rho (hg1 o (by rw [h5]; decide)) (hg1 _ (by rw [show ω (ρ o 5) = 12 from hI.ht.rf h5 (by decide) rfl]; decide))
  have ho5 : ∀ o, ω o = 5 → ω o = 5 := fun _ h => h
  have hS1 : ρ1 (ρ1 4 2) 0 = ρ1 4 0 ∧ ρ1 (ρ1 4 3) 0 = ρ1 4 0 := ⟨tapS (congrFun (hg1 4 (by rw [hI.w4]; decide)) 0) (congrFun (hg1 4 (by rw [hI.w4]; decide)) 2) (congrFun (hg1 _ (by rw [hw15]; decide)) 0) hQl, tapS (congrFun (hg1 4 (by rw [hI.w4]; decide)) 0) (congrFun (hg1 4 (by rw [hI.w4]; decide)) 3) (congrFun (hg1 _ (by rw [hw21]; decide)) 0) hQs⟩
  have hF1 : v1 (ρ1 4 0) 9 = v (ρ 4 0) 9 := by
    rw [show ρ1 4 0 = ρ 4 0 from congrFun (hg1 4 (by rw [hI.w4]; decide)) 0]
    exact congrFun (hf1 (ρ 4 0) (by rw [hI.w2]; decide) (by have := hI.lt hI.w2 (by decide); omega)) 9
  have hPc := TrI.old (ρ' := ρ1) (v' := v1) hQ4.1 hw h8.2 (fun r h9 => hg1 r (by rcases h9 with h9 | h9 | h9 | h9 | h9 | h9 <;> rw [h9] <;> decide)) (congrFun (hf1 (ρ 4 6) (by rw [hw.2.2.2.1]; decide) (by have := hI.lt hw.2.2.2.1 (by decide); omega)) 1)
  show wp g X (LF lc_31) (cells + 1) (slots + 6) 1156 [(2, 3), (2, 4), (2, 178), (2, 210), (0, i), (3, 0), (3, 0), (3, 0)] [(0, r1)] v1 ρ1 Z
  refine r_istore (ls' := [(2, 3), (2, 4), (2, 178), (2, 210), (0, i), (0, r1), (3, 0), (3, 0)]) (pc := 1156) hX 8 rfl (by decide) rfl ?_
  refine r_aload_n (pc := 1158) hX 9 rfl rfl ?_
  refine r_aload_n (pc := 1159) hX 10 rfl rfl ?_
  refine r_iload (pc := 1160) hX 11 rfl rfl ?_
  refine r_iconst (pc := 1162) hX 12 rfl ?_
  refine r_iadd (pc := 1163) hX 13 rfl ?_
  refine e_iald (y := sc (i + 1)) (n := N) (pc := 1164) hX 14 rfl hI1.sk hI1.sl (by omega) (by omega) (hI1.s3 _) ?_
  obtain ⟨b1, b2, b3, b4, b5, b6, b7, b8, b9, b10⟩ := hI1.rf
  refine r_callV (as := [(0, sc (i + 1))]) (st := []) (K := 12) (pc := 1165) hX 15 rfl mo_m_luck ml_L_177 im_m_luck se_m_luck (c_luck g v1 ρ1 Z hI1.gm (sc (i + 1)) b4 (hsc _)) rfl rfl rfl hI1.gm.1 (by rw [hR]; exact ⟨Nat.le_of_ble_eq_true rfl, Nat.le_of_ble_eq_true rfl⟩) (by rw [hR]; exact ⟨by show cells + 1 + 0 ≤ 601024; omega, by show slots + 6 + 0 ≤ 7293034; omega⟩) (Nat.le_of_ble_eq_true rfl) (fun o2 v2 ρ2 Z2 hq2 _ => ?_)
  obtain ⟨rfl, rfl, hf2, r2, rfl, hp2⟩ := hq2
  have hI2 := LInv.ref hI1 (Fr.out hf2 (by decide)) (show RfI v2 from ⟨by rw [hf2.2 2 (by decide)]; exact b1, by rw [hf2.2 14 (by decide)]; exact b2, by rw [hf2.2 11 (by decide)]; exact b3, by rw [hf2.1 180 (by decide) (by decide)]; exact b4, by rw [hf2.1 180 (by decide) (by decide), hf2.1 187 (by decide) (by decide), hf2.2 25 (by decide)]; exact b5, by rw [hf2.1 209 (by decide) (by decide), hf2.1 207 (by decide) (by decide)]; exact b6, by rw [hf2.1 195 (by decide) (by decide)]; exact b7, by rw [hf2.1 194 (by decide) (by decide)]; exact b8, by rw [hf2.2 45 (by decide)]; exact b9, by rw [hf2.2 49 (by decide)]; exact b10⟩)
  have z1 : v2 (ρ1 4 0) 1 = v1 (ρ1 4 0) 1 := congrFun (Fr.out hf2 (by decide) _ (hI1.lo hI1.w2 (by decide))) 1
  have z2 := hC1.1
  have z3 : v1 178 2 = v 178 2 := congrFun e178 2
  have z0 := hE.1
  have y1 : ∀ k, v2 (ρ1 4 13) k = v1 (ρ1 4 13) k := fun k => congrFun (Fr.out hf2 (by decide) _ (hI1.lo hI1.w62 (by decide))) k
  have y3 : ∀ k, v1 209 k = v 209 k := fun k => congrFun e209 k
  have z4 : v2 178 2 = v1 178 2 := hf2.2 2 (by decide)
  have x9 : v2 (ρ1 4 0) 9 = v1 (ρ1 4 0) 9 := congrFun (Fr.out hf2 (by decide) _ (hI1.lo hI1.w2 (by decide))) 9
  have hF2 : v2 (ρ1 4 0) 9 = v2 178 15 := by
    rw [x9, hF1, hf2.2 15 (by decide), e178]
    exact hF
  have hw3b : ω (ρ1 (ρ1 4 0) 0) = 3 := hI1.ht.rf hI1.w2 (by decide) rfl
  have g2 : v2 (ρ1 (ρ1 4 0) 0) = v1 (ρ1 (ρ1 4 0) 0) := Fr.out hf2 (by decide) _ (hI1.lo hw3b (by decide))
  have e2 : v2 184 = v1 184 := hf2.1 184 (by decide) (by decide)
  have hT2 : EqT v2 ρ1 := EqT.step hT hr1 e184 e2 e179 (hf2.1 179 (by decide) (by decide)) eB g2 (by omega)
  have hO := Fr.out hf2 (by decide)
  have hK2 := RcK.ref hKc hI1 hO ho5
  have hR2 : EqN v2 ρ1 := EqN.k1 hQ4 hI.ht hI.w4 (TrP.ref hPc hI1 hI1.w4 hO) hK2 (fun k _ _ => by rw [hf2.1 180 (by decide) (by decide), e180]) ((hf2.1 207 (by decide) (by decide)).trans e207) ((hf2.1 209 (by decide) (by decide)).trans e209) (fun k _ _ => congrFun ((hf2.1 183 (by decide) (by decide)).trans e183) k) ((hf2.1 208 (by decide) (by decide)).trans e208)
  have hE2 : EqI v2 ρ1 := ⟨by omega, fun k a b => by rw [y1 k, hC1.2 k a b, show v2 209 k = v1 209 k from congrFun (hf2.1 209 (by decide) (by decide)) k, y3 k]; exact hE.2 k a b⟩
  show wp g X (LF lc_31) (cells + 1) (slots + 6) 1168 [(2, 3), (2, 4), (2, 178), (2, 210), (0, i), (0, r1), (3, 0), (3, 0)] [(1, r2)] v2 ρ1 Z
  refine r_lstore (ls' := [(2, 3), (2, 4), (2, 178), (2, 210), (0, i), (0, r1), (1, r2), (3, 0)]) (pc := 1168) hX 16 rfl (by decide) rfl ?_
  refine r_goto (pc := 1170) hX 17 (tgt := 1410) rfl (by decide) ?_
  refine wp_wid (k := cells + 20) (n := slots + 150) (by omega) (by omega) ?_
  refine r_wk (ls' := lls i) ⟨Or.inr rfl, Or.inr rfl, Or.inr rfl, Or.inr rfl, Or.inr rfl, Or.inl rfl, Or.inl rfl, Or.inr rfl, trivial⟩ ?_
  exact kk _ _ _ _ ⟨⟨⟨⟨hI2, hE2⟩, hT2⟩, hR2, hS1⟩, hF2⟩
set_option maxRecDepth 100000 in
def lc_32 : List (Nat × Instr × Nat) := [(1173, .aload_n 1, 1), (1174, .aload_n 0, 1), (1175, .iload 4, 2), (1177, .iconst 1, 1), (1178, .iadd, 1), (1179, .iaload, 1), (1180, .invokevirtual 178, 3), (1183, .pop, 1), (1184, .aload_n 2, 1), (1185, .aload_n 0, 1), (1186, .iload 4, 2), (1188, .iconst 1, 1), (1189, .iadd, 1), (1190, .iaload, 1), (1191, .invokevirtual 181, 3), (1194, .pop, 1), (1195, .goto 215, 3)]
set_option maxRecDepth 100000 in
theorem lc_32_d : lc_32.all (fun q => decide (decode cL_law q.1 = .ok q.2)) = true := by decide +kernel
set_option maxHeartbeats 4000000 in
set_option maxRecDepth 100000 in
theorem cs_32 {g : Gp} {X : Cx} {N : Int} {sc : Int → Int} (hL : LX g X) (hsc : ∀ k, inR (sc k)) : CaseOk6 g X N sc 1173 := by
  intro i cells slots ω v ρ Z hi0 hi1 hc hs hI kk
  obtain ⟨⟨⟨⟨hI, hE⟩, hT⟩, hQ4, hQl, hQs⟩, hF⟩ := hI
  have hw := TrW.of hI.ht hI.w4
  have h8 : 0 ≤ v (ρ 4 6) 1 ∧ v (ρ 4 6) 1 ≤ 8 := hI.ht.rg hw.2.2.2.1 (by decide) rfl
  have hw4 : ω (ρ 4 1) = 4 := hI.ht.rf hI.w4 (by decide) rfl
  have hw3 : ω (ρ (ρ 4 0) 0) = 3 := hI.ht.rf hI.w2 (by decide) rfl
  have hw15 : ω (ρ 4 2) = 15 := hI.ht.rf hI.w4 (by decide) rfl
  have hw21 : ω (ρ 4 3) = 21 := hI.ht.rf hI.w4 (by decide) rfl
  have hX : okX g X (LF lc_32) := okL hL.1 lc_32_d
  have hR := hL.2.1
  show wp g X (LF lc_32) cells slots 1173 (lls i) [] v ρ Z
  refine r_aload_n (pc := 1173) hX 0 rfl rfl ?_
  refine r_aload_n (pc := 1174) hX 1 rfl rfl ?_
  refine r_iload (pc := 1175) hX 2 rfl rfl ?_
  refine r_iconst (pc := 1177) hX 3 rfl ?_
  refine r_iadd (pc := 1178) hX 4 rfl ?_
  refine e_iald (y := sc (i + 1)) (n := N) (pc := 1179) hX 5 rfl hI.sk hI.sl (by omega) (by omega) (hI.s3 _) ?_
  refine r_callV (as := [(0, sc (i + 1))]) (st := []) (K := 11) (pc := 1180) hX 6 rfl mo_X11_drawn ml_L_178 im_X11_drawn se_X11_drawn (c_X11_drawnG g ω v ρ Z hI.ht 4 hI.w4 (sc (i + 1)) hQ4.1) rfl rfl rfl hI.k4 (by rw [hR]; exact ⟨Nat.le_of_ble_eq_true rfl, Nat.le_of_ble_eq_true rfl⟩) (by rw [hR]; exact ⟨by show cells + 0 ≤ 601024; omega, by show slots + 0 ≤ 7293034; omega⟩) (Nat.le_of_ble_eq_true rfl) (fun o1 v1 ρ1 Z1 hq1 _ => ?_)
  obtain ⟨rfl, hf1, hg1, hh1, r1, rfl, hp1⟩ := hq1
  have hI1 := LInv.cls hI (fun q hq _ => hf1 q (by rw [hq]; decide)) (fun q hq => hg1 q (by rw [hq]; decide)) hh1
  have hC1 : EqC (v (ρ 4 0) 1) (v (ρ 4 13)) v1 ρ1 := EqC.fr (congrFun (hg1 4 (by rw [hI.w4]; decide)) 0) (congrFun (hg1 4 (by rw [hI.w4]; decide)) 13) (congrFun (hf1 (ρ 4 0) (by rw [hI.w2]; decide)) 1) (fun k _ _ => congrFun (hf1 (ρ 4 13) (by rw [hI.w62]; decide)) k)
  have e179 : v1 179 = v 179 := hf1 179 (by rw [hI.wz (r := 179) (by decide) (by decide)]; decide)
  have e184 : v1 184 = v 184 := hf1 184 (by rw [hI.wz (r := 184) (by decide) (by decide)]; decide)
  have eB : v1 (ρ (ρ 4 0) 0) = v (ρ (ρ 4 0) 0) := hf1 _ (by rw [hw3]; decide)
  have hr1 : ρ1 4 0 = ρ 4 0 ∧ ρ1 4 1 = ρ 4 1 ∧ ρ1 (ρ 4 1) 0 = ρ (ρ 4 1) 0 ∧ ρ1 (ρ 4 0) 0 = ρ (ρ 4 0) 0 := ⟨congrFun (hg1 4 (by rw [hI.w4]; decide)) 0, congrFun (hg1 4 (by rw [hI.w4]; decide)) 1, congrFun (hg1 _ (by rw [hw4]; decide)) 0, congrFun (hg1 _ (by rw [hI.w2]; decide)) 0⟩
  have hF1 : v1 (ρ1 4 0) 9 = v (ρ 4 0) 9 := by
    rw [show ρ1 4 0 = ρ 4 0 from congrFun (hg1 4 (by rw [hI.w4]; decide)) 0]
    exact congrFun (hf1 (ρ 4 0) (by rw [hI.w2]; decide)) 9
  have e180 : v1 180 = v 180 := hf1 180 (by rw [hI.wz (r := 180) (by decide) (by decide)]; decide)
  have e207 : v1 207 = v 207 := hf1 207 (by rw [hI.wz (r := 207) (by decide) (by decide)]; decide)
  have e183 : v1 183 = v 183 := hf1 183 (by rw [hI.wz (r := 183) (by decide) (by decide)]; decide)
  have e208 : v1 208 = v 208 := hf1 208 (by rw [hI.wz (r := 208) (by decide) (by decide)]; decide)
  have hKc : RcK ω v ρ v1 ρ1 := RcK.fr hI.ht hf1 hg1 (by decide) (by decide)
  have ho5 : ∀ o, ω o = 5 → ω o = 5 := fun _ h => h
  have hS1 : ρ1 (ρ1 4 2) 0 = ρ1 4 0 ∧ ρ1 (ρ1 4 3) 0 = ρ1 4 0 := ⟨tapS (congrFun (hg1 4 (by rw [hI.w4]; decide)) 0) (congrFun (hg1 4 (by rw [hI.w4]; decide)) 2) (congrFun (hg1 _ (by rw [hw15]; decide)) 0) hQl, tapS (congrFun (hg1 4 (by rw [hI.w4]; decide)) 0) (congrFun (hg1 4 (by rw [hI.w4]; decide)) 3) (congrFun (hg1 _ (by rw [hw21]; decide)) 0) hQs⟩
  have e178 : v1 178 = v 178 := hf1 178 (by rw [hI.wz (r := 178) (by decide) (by decide)]; decide)
  have e209 : v1 209 = v 209 := hf1 209 (by rw [hI.wz (r := 209) (by decide) (by decide)]; decide)
  show wp g X (LF lc_32) (cells) (slots) 1183 [(2, 3), (2, 4), (2, 178), (2, 210), (0, i), (3, 0), (3, 0), (3, 0)] [(0, r1)] v1 ρ1 Z
  refine r_pop (pc := 1183) hX 7 rfl (show (0 : Nat) ≠ 1 by decide) ?_
  refine r_aload_n (pc := 1184) hX 8 rfl rfl ?_
  refine r_aload_n (pc := 1185) hX 9 rfl rfl ?_
  refine r_iload (pc := 1186) hX 10 rfl rfl ?_
  refine r_iconst (pc := 1188) hX 11 rfl ?_
  refine r_iadd (pc := 1189) hX 12 rfl ?_
  refine e_iald (y := sc (i + 1)) (n := N) (pc := 1190) hX 13 rfl hI1.sk hI1.sl (by omega) (by omega) (hI1.s3 _) ?_
  obtain ⟨b1, b2, b3, b4, b5, b6, b7, b8, b9, b10⟩ := hI1.rf
  refine r_callV (as := [(0, sc (i + 1))]) (st := []) (K := 12) (pc := 1191) hX 14 rfl mo_m_drawn ml_L_181 im_m_drawn se_m_drawn (c_drawn g v1 ρ1 Z hI1.gm (sc (i + 1)) b4 b5) rfl rfl rfl hI1.gm.1 (by rw [hR]; exact ⟨Nat.le_of_ble_eq_true rfl, Nat.le_of_ble_eq_true rfl⟩) (by rw [hR]; exact ⟨by show cells + 0 ≤ 601024; omega, by show slots + 0 ≤ 7293034; omega⟩) (Nat.le_of_ble_eq_true rfl) (fun o2 v2 ρ2 Z2 hq2 _ => ?_)
  obtain ⟨rfl, rfl, hf2, r2, rfl, hp2⟩ := hq2
  have hI2 := LInv.ref hI1 (Fr.out hf2 (by decide)) (show RfI v2 from ⟨by rw [hf2.2 2 (by decide)]; exact b1, by rw [hf2.2 14 (by decide)]; exact b2, by rw [hf2.2 11 (by decide)]; exact b3, hp2.1, hp2.2.2, by rw [hf2.1 209 (by decide) (by decide), hf2.1 207 (by decide) (by decide)]; exact b6, by rw [hf2.1 195 (by decide) (by decide)]; exact b7, by rw [hf2.1 194 (by decide) (by decide)]; exact b8, by rw [hf2.2 45 (by decide)]; exact b9, by rw [hf2.2 49 (by decide)]; exact b10⟩)
  have z1 : v2 (ρ1 4 0) 1 = v1 (ρ1 4 0) 1 := congrFun (Fr.out hf2 (by decide) _ (hI1.lo hI1.w2 (by decide))) 1
  have z2 := hC1.1
  have z3 : v1 178 2 = v 178 2 := congrFun e178 2
  have z0 := hE.1
  have y1 : ∀ k, v2 (ρ1 4 13) k = v1 (ρ1 4 13) k := fun k => congrFun (Fr.out hf2 (by decide) _ (hI1.lo hI1.w62 (by decide))) k
  have y3 : ∀ k, v1 209 k = v 209 k := fun k => congrFun e209 k
  have z4 : v2 178 2 = v1 178 2 := hf2.2 2 (by decide)
  have x9 : v2 (ρ1 4 0) 9 = v1 (ρ1 4 0) 9 := congrFun (Fr.out hf2 (by decide) _ (hI1.lo hI1.w2 (by decide))) 9
  have hF2 : v2 (ρ1 4 0) 9 = v2 178 15 := by
    rw [x9, hF1, hf2.2 15 (by decide), e178]
    exact hF
  have hw3b : ω (ρ1 (ρ1 4 0) 0) = 3 := hI1.ht.rf hI1.w2 (by decide) rfl
  have g2 : v2 (ρ1 (ρ1 4 0) 0) = v1 (ρ1 (ρ1 4 0) 0) := Fr.out hf2 (by decide) _ (hI1.lo hw3b (by decide))
  have e2 : v2 184 = v1 184 := hf2.1 184 (by decide) (by decide)
  have hT2 : EqT v2 ρ1 := EqT.step hT hr1 e184 e2 e179 (hf2.1 179 (by decide) (by decide)) eB g2 (by omega)
  have hO := Fr.out hf2 (by decide)
  have hK2 := RcK.ref hKc hI1 hO ho5
  have hR2 : EqN v2 ρ1 := EqN.k1 hQ4 hI.ht hI.w4 (TrP.ref hp1 hI1 hI1.w4 hO) hK2 (fun k a b => (hp2.2.1 k (by omega)).trans (congrFun e180 k)) ((hf2.1 207 (by decide) (by decide)).trans e207) ((hf2.1 209 (by decide) (by decide)).trans e209) (fun k _ _ => congrFun ((hf2.1 183 (by decide) (by decide)).trans e183) k) ((hf2.1 208 (by decide) (by decide)).trans e208)
  have hE2 : EqI v2 ρ1 := ⟨by omega, fun k a b => by rw [y1 k, hC1.2 k a b, show v2 209 k = v1 209 k from congrFun (hf2.1 209 (by decide) (by decide)) k, y3 k]; exact hE.2 k a b⟩
  show wp g X (LF lc_32) (cells) (slots) 1194 [(2, 3), (2, 4), (2, 178), (2, 210), (0, i), (3, 0), (3, 0), (3, 0)] [(0, r2)] v2 ρ1 Z
  refine r_pop (pc := 1194) hX 15 rfl (show (0 : Nat) ≠ 1 by decide) ?_
  refine r_goto (pc := 1195) hX 16 (tgt := 1410) rfl (by decide) ?_
  refine wp_wid (k := cells + 20) (n := slots + 150) (by omega) (by omega) ?_
  exact kk _ _ _ _ ⟨⟨⟨⟨hI2, hE2⟩, hT2⟩, hR2, hS1⟩, hF2⟩
set_option maxRecDepth 100000 in
def lc_33 : List (Nat × Instr × Nat) := [(1198, .aload_n 1, 1), (1199, .aload_n 0, 1), (1200, .iload 4, 2), (1202, .iconst 1, 1), (1203, .iadd, 1), (1204, .iaload, 1), (1205, .aload_n 0, 1), (1206, .iload 4, 2), (1208, .iconst 2, 1), (1209, .iadd, 1), (1210, .iaload, 1), (1211, .aload_n 0, 1), (1212, .iload 4, 2), (1214, .iconst 3, 1), (1215, .iadd, 1), (1216, .iaload, 1), (1217, .invokevirtual 182, 3), (1220, .pop, 1), (1221, .aload_n 2, 1), (1222, .aload_n 0, 1), (1223, .iload 4, 2), (1225, .iconst 1, 1), (1226, .iadd, 1), (1227, .iaload, 1), (1228, .aload_n 0, 1), (1229, .iload 4, 2), (1231, .iconst 2, 1), (1232, .iadd, 1), (1233, .iaload, 1), (1234, .aload_n 0, 1), (1235, .iload 4, 2), (1237, .iconst 3, 1), (1238, .iadd, 1), (1239, .iaload, 1), (1240, .invokevirtual 186, 3), (1243, .pop, 1), (1244, .goto 166, 3)]
set_option maxRecDepth 100000 in
theorem lc_33_d : lc_33.all (fun q => decide (decode cL_law q.1 = .ok q.2)) = true := by decide +kernel
set_option maxHeartbeats 4000000 in
set_option maxRecDepth 100000 in
theorem cs_33 {g : Gp} {X : Cx} {N : Int} {sc : Int → Int} (hL : LX g X) (hsc : ∀ k, inR (sc k)) : CaseOk6 g X N sc 1198 := by
  intro i cells slots ω v ρ Z hi0 hi1 hc hs hI kk
  obtain ⟨⟨⟨⟨hI, hE⟩, hT⟩, hQ4, hQl, hQs⟩, hF⟩ := hI
  have hw := TrW.of hI.ht hI.w4
  have h8 : 0 ≤ v (ρ 4 6) 1 ∧ v (ρ 4 6) 1 ≤ 8 := hI.ht.rg hw.2.2.2.1 (by decide) rfl
  have hw4 : ω (ρ 4 1) = 4 := hI.ht.rf hI.w4 (by decide) rfl
  have hw3 : ω (ρ (ρ 4 0) 0) = 3 := hI.ht.rf hI.w2 (by decide) rfl
  have hw15 : ω (ρ 4 2) = 15 := hI.ht.rf hI.w4 (by decide) rfl
  have hw21 : ω (ρ 4 3) = 21 := hI.ht.rf hI.w4 (by decide) rfl
  have hX : okX g X (LF lc_33) := okL hL.1 lc_33_d
  have hR := hL.2.1
  show wp g X (LF lc_33) cells slots 1198 (lls i) [] v ρ Z
  refine r_aload_n (pc := 1198) hX 0 rfl rfl ?_
  refine r_aload_n (pc := 1199) hX 1 rfl rfl ?_
  refine r_iload (pc := 1200) hX 2 rfl rfl ?_
  refine r_iconst (pc := 1202) hX 3 rfl ?_
  refine r_iadd (pc := 1203) hX 4 rfl ?_
  refine e_iald (y := sc (i + 1)) (n := N) (pc := 1204) hX 5 rfl hI.sk hI.sl (by omega) (by omega) (hI.s3 _) ?_
  refine r_aload_n (pc := 1205) hX 6 rfl rfl ?_
  refine r_iload (pc := 1206) hX 7 rfl rfl ?_
  refine r_iconst (pc := 1208) hX 8 rfl ?_
  refine r_iadd (pc := 1209) hX 9 rfl ?_
  refine e_iald (y := sc (i + 2)) (n := N) (pc := 1210) hX 10 rfl hI.sk hI.sl (by omega) (by omega) (hI.s3 _) ?_
  refine r_aload_n (pc := 1211) hX 11 rfl rfl ?_
  refine r_iload (pc := 1212) hX 12 rfl rfl ?_
  refine r_iconst (pc := 1214) hX 13 rfl ?_
  refine r_iadd (pc := 1215) hX 14 rfl ?_
  refine e_iald (y := sc (i + 3)) (n := N) (pc := 1216) hX 15 rfl hI.sk hI.sl (by omega) (by omega) (hI.s3 _) ?_
  refine r_callV (as := [(0, sc (i + 1)), (0, sc (i + 2)), (0, sc (i + 3))]) (st := []) (K := 11) (pc := 1217) hX 16 rfl mo_X11_wins ml_L_182 im_X11_wins se_X11_wins (c_X11_winsG g ω v ρ Z hI.ht 4 hI.w4 (sc (i + 1)) (sc (i + 2)) (sc (i + 3)) hQ4.1 (hsc _) (hsc _)) rfl rfl rfl hI.k4 (by rw [hR]; exact ⟨Nat.le_of_ble_eq_true rfl, Nat.le_of_ble_eq_true rfl⟩) (by rw [hR]; exact ⟨by show cells + 0 ≤ 601024; omega, by show slots + 0 ≤ 7293034; omega⟩) (Nat.le_of_ble_eq_true rfl) (fun o1 v1 ρ1 Z1 hq1 _ => ?_)
  obtain ⟨rfl, hf1, hg1, hh1, r1, rfl, hp1⟩ := hq1
  have hI1 := LInv.cls hI (fun q hq _ => hf1 q (by rw [hq]; decide)) (fun q hq => hg1 q (by rw [hq]; decide)) hh1
  have hC1 : EqC (v (ρ 4 0) 1) (v (ρ 4 13)) v1 ρ1 := EqC.fr (congrFun (hg1 4 (by rw [hI.w4]; decide)) 0) (congrFun (hg1 4 (by rw [hI.w4]; decide)) 13) (congrFun (hf1 (ρ 4 0) (by rw [hI.w2]; decide)) 1) (fun k _ _ => congrFun (hf1 (ρ 4 13) (by rw [hI.w62]; decide)) k)
  have e179 : v1 179 = v 179 := hf1 179 (by rw [hI.wz (r := 179) (by decide) (by decide)]; decide)
  have e184 : v1 184 = v 184 := hf1 184 (by rw [hI.wz (r := 184) (by decide) (by decide)]; decide)
  have eB : v1 (ρ (ρ 4 0) 0) = v (ρ (ρ 4 0) 0) := hf1 _ (by rw [hw3]; decide)
  have hr1 : ρ1 4 0 = ρ 4 0 ∧ ρ1 4 1 = ρ 4 1 ∧ ρ1 (ρ 4 1) 0 = ρ (ρ 4 1) 0 ∧ ρ1 (ρ 4 0) 0 = ρ (ρ 4 0) 0 := ⟨congrFun (hg1 4 (by rw [hI.w4]; decide)) 0, congrFun (hg1 4 (by rw [hI.w4]; decide)) 1, congrFun (hg1 _ (by rw [hw4]; decide)) 0, congrFun (hg1 _ (by rw [hI.w2]; decide)) 0⟩
  have hF1 : v1 (ρ1 4 0) 9 = v (ρ 4 0) 9 := by
    rw [show ρ1 4 0 = ρ 4 0 from congrFun (hg1 4 (by rw [hI.w4]; decide)) 0]
    exact congrFun (hf1 (ρ 4 0) (by rw [hI.w2]; decide)) 9
  have e180 : v1 180 = v 180 := hf1 180 (by rw [hI.wz (r := 180) (by decide) (by decide)]; decide)
  have e207 : v1 207 = v 207 := hf1 207 (by rw [hI.wz (r := 207) (by decide) (by decide)]; decide)
  have e183 : v1 183 = v 183 := hf1 183 (by rw [hI.wz (r := 183) (by decide) (by decide)]; decide)
  have e208 : v1 208 = v 208 := hf1 208 (by rw [hI.wz (r := 208) (by decide) (by decide)]; decide)
  have hKc : RcK ω v ρ v1 ρ1 := RcK.fr hI.ht hf1 hg1 (by decide) (by decide)
  have ho5 : ∀ o, ω o = 5 → ω o = 5 := fun _ h => h
  have hS1 : ρ1 (ρ1 4 2) 0 = ρ1 4 0 ∧ ρ1 (ρ1 4 3) 0 = ρ1 4 0 := ⟨tapS (congrFun (hg1 4 (by rw [hI.w4]; decide)) 0) (congrFun (hg1 4 (by rw [hI.w4]; decide)) 2) (congrFun (hg1 _ (by rw [hw15]; decide)) 0) hQl, tapS (congrFun (hg1 4 (by rw [hI.w4]; decide)) 0) (congrFun (hg1 4 (by rw [hI.w4]; decide)) 3) (congrFun (hg1 _ (by rw [hw21]; decide)) 0) hQs⟩
  have e178 : v1 178 = v 178 := hf1 178 (by rw [hI.wz (r := 178) (by decide) (by decide)]; decide)
  have e209 : v1 209 = v 209 := hf1 209 (by rw [hI.wz (r := 209) (by decide) (by decide)]; decide)
  show wp g X (LF lc_33) (cells) (slots) 1220 [(2, 3), (2, 4), (2, 178), (2, 210), (0, i), (3, 0), (3, 0), (3, 0)] [(0, r1)] v1 ρ1 Z
  refine r_pop (pc := 1220) hX 17 rfl (show (0 : Nat) ≠ 1 by decide) ?_
  refine r_aload_n (pc := 1221) hX 18 rfl rfl ?_
  refine r_aload_n (pc := 1222) hX 19 rfl rfl ?_
  refine r_iload (pc := 1223) hX 20 rfl rfl ?_
  refine r_iconst (pc := 1225) hX 21 rfl ?_
  refine r_iadd (pc := 1226) hX 22 rfl ?_
  refine e_iald (y := sc (i + 1)) (n := N) (pc := 1227) hX 23 rfl hI1.sk hI1.sl (by omega) (by omega) (hI1.s3 _) ?_
  refine r_aload_n (pc := 1228) hX 24 rfl rfl ?_
  refine r_iload (pc := 1229) hX 25 rfl rfl ?_
  refine r_iconst (pc := 1231) hX 26 rfl ?_
  refine r_iadd (pc := 1232) hX 27 rfl ?_
  refine e_iald (y := sc (i + 2)) (n := N) (pc := 1233) hX 28 rfl hI1.sk hI1.sl (by omega) (by omega) (hI1.s3 _) ?_
  refine r_aload_n (pc := 1234) hX 29 rfl rfl ?_
  refine r_iload (pc := 1235) hX 30 rfl rfl ?_
  refine r_iconst (pc := 1237) hX 31 rfl ?_
  refine r_iadd (pc := 1238) hX 32 rfl ?_
  refine e_iald (y := sc (i + 3)) (n := N) (pc := 1239) hX 33 rfl hI1.sk hI1.sl (by omega) (by omega) (hI1.s3 _) ?_
  obtain ⟨b1, b2, b3, b4, b5, b6, b7, b8, b9, b10⟩ := hI1.rf
  refine r_callV (as := [(0, sc (i + 1)), (0, sc (i + 2)), (0, sc (i + 3))]) (st := []) (K := 12) (pc := 1240) hX 34 rfl mo_m_wins ml_L_186 im_m_wins se_m_wins (c_wins g v1 ρ1 Z hI1.gm (sc (i + 1)) (sc (i + 2)) (sc (i + 3)) b4 (hsc _) (hsc _)) rfl rfl rfl hI1.gm.1 (by rw [hR]; exact ⟨Nat.le_of_ble_eq_true rfl, Nat.le_of_ble_eq_true rfl⟩) (by rw [hR]; exact ⟨by show cells + 0 ≤ 601024; omega, by show slots + 0 ≤ 7293034; omega⟩) (Nat.le_of_ble_eq_true rfl) (fun o2 v2 ρ2 Z2 hq2 _ => ?_)
  obtain ⟨rfl, rfl, hf2, r2, rfl, hp2⟩ := hq2
  have hI2 := LInv.ref hI1 (Fr.out hf2 (by decide)) (show RfI v2 from ⟨by rw [hf2.2 2 (by decide)]; exact b1, by rw [hf2.2 14 (by decide)]; exact b2, by rw [hf2.2 11 (by decide)]; exact b3, by rw [hp2]; exact b4, by rw [hp2, hf2.1 187 (by decide) (by decide), hf2.2 25 (by decide)]; exact b5, by rw [hf2.1 209 (by decide) (by decide), hf2.1 207 (by decide) (by decide)]; exact b6, by rw [hf2.1 195 (by decide) (by decide)]; exact b7, by rw [hf2.1 194 (by decide) (by decide)]; exact b8, by rw [hf2.2 45 (by decide)]; exact b9, by rw [hf2.2 49 (by decide)]; exact b10⟩)
  have z1 : v2 (ρ1 4 0) 1 = v1 (ρ1 4 0) 1 := congrFun (Fr.out hf2 (by decide) _ (hI1.lo hI1.w2 (by decide))) 1
  have z2 := hC1.1
  have z3 : v1 178 2 = v 178 2 := congrFun e178 2
  have z0 := hE.1
  have y1 : ∀ k, v2 (ρ1 4 13) k = v1 (ρ1 4 13) k := fun k => congrFun (Fr.out hf2 (by decide) _ (hI1.lo hI1.w62 (by decide))) k
  have y3 : ∀ k, v1 209 k = v 209 k := fun k => congrFun e209 k
  have z4 : v2 178 2 = v1 178 2 := hf2.2 2 (by decide)
  have x9 : v2 (ρ1 4 0) 9 = v1 (ρ1 4 0) 9 := congrFun (Fr.out hf2 (by decide) _ (hI1.lo hI1.w2 (by decide))) 9
  have hF2 : v2 (ρ1 4 0) 9 = v2 178 15 := by
    rw [x9, hF1, hf2.2 15 (by decide), e178]
    exact hF
  have hw3b : ω (ρ1 (ρ1 4 0) 0) = 3 := hI1.ht.rf hI1.w2 (by decide) rfl
  have g2 : v2 (ρ1 (ρ1 4 0) 0) = v1 (ρ1 (ρ1 4 0) 0) := Fr.out hf2 (by decide) _ (hI1.lo hw3b (by decide))
  have e2 : v2 184 = v1 184 := hf2.1 184 (by decide) (by decide)
  have hT2 : EqT v2 ρ1 := EqT.step hT hr1 e184 e2 e179 (hf2.1 179 (by decide) (by decide)) eB g2 (by omega)
  have hO := Fr.out hf2 (by decide)
  have hK2 := RcK.ref hKc hI1 hO ho5
  have hR2 : EqN v2 ρ1 := EqN.k1 hQ4 hI.ht hI.w4 (TrP.ref hp1 hI1 hI1.w4 hO) hK2 (fun k _ _ => by rw [hp2, e180]) ((hf2.1 207 (by decide) (by decide)).trans e207) ((hf2.1 209 (by decide) (by decide)).trans e209) (fun k _ _ => congrFun ((hf2.1 183 (by decide) (by decide)).trans e183) k) ((hf2.1 208 (by decide) (by decide)).trans e208)
  have hE2 : EqI v2 ρ1 := ⟨by omega, fun k a b => by rw [y1 k, hC1.2 k a b, show v2 209 k = v1 209 k from congrFun (hf2.1 209 (by decide) (by decide)) k, y3 k]; exact hE.2 k a b⟩
  show wp g X (LF lc_33) (cells) (slots) 1243 [(2, 3), (2, 4), (2, 178), (2, 210), (0, i), (3, 0), (3, 0), (3, 0)] [(0, r2)] v2 ρ1 Z
  refine r_pop (pc := 1243) hX 35 rfl (show (0 : Nat) ≠ 1 by decide) ?_
  refine r_goto (pc := 1244) hX 36 (tgt := 1410) rfl (by decide) ?_
  refine wp_wid (k := cells + 20) (n := slots + 150) (by omega) (by omega) ?_
  exact kk _ _ _ _ ⟨⟨⟨⟨hI2, hE2⟩, hT2⟩, hR2, hS1⟩, hF2⟩
set_option maxRecDepth 100000 in
def lc_34 : List (Nat × Instr × Nat) := [(1247, .aload_n 1, 1), (1248, .aload_n 0, 1), (1249, .iload 4, 2), (1251, .iconst 1, 1), (1252, .iadd, 1), (1253, .iaload, 1), (1254, .invokevirtual 187, 3), (1257, .pop, 1), (1258, .aload_n 2, 1), (1259, .aload_n 0, 1), (1260, .iload 4, 2), (1262, .iconst 1, 1), (1263, .iadd, 1), (1264, .iaload, 1), (1265, .invokevirtual 190, 3), (1268, .pop, 1), (1269, .goto 141, 3)]
set_option maxRecDepth 100000 in
theorem lc_34_d : lc_34.all (fun q => decide (decode cL_law q.1 = .ok q.2)) = true := by decide +kernel
set_option maxHeartbeats 4000000 in
set_option maxRecDepth 100000 in
theorem cs_34 {g : Gp} {X : Cx} {N : Int} {sc : Int → Int} (hL : LX g X) (hsc : ∀ k, inR (sc k)) : CaseOk6 g X N sc 1247 := by
  intro i cells slots ω v ρ Z hi0 hi1 hc hs hI kk
  obtain ⟨⟨⟨⟨hI, hE⟩, hT⟩, hQ4, hQl, hQs⟩, hF⟩ := hI
  have hw := TrW.of hI.ht hI.w4
  have h8 : 0 ≤ v (ρ 4 6) 1 ∧ v (ρ 4 6) 1 ≤ 8 := hI.ht.rg hw.2.2.2.1 (by decide) rfl
  have hw4 : ω (ρ 4 1) = 4 := hI.ht.rf hI.w4 (by decide) rfl
  have hw3 : ω (ρ (ρ 4 0) 0) = 3 := hI.ht.rf hI.w2 (by decide) rfl
  have hw15 : ω (ρ 4 2) = 15 := hI.ht.rf hI.w4 (by decide) rfl
  have hw21 : ω (ρ 4 3) = 21 := hI.ht.rf hI.w4 (by decide) rfl
  obtain ⟨s0, i0, hRc, hRm, hHd, hNs⟩ := hQ4.2.1
  have hX : okX g X (LF lc_34) := okL hL.1 lc_34_d
  have hR := hL.2.1
  show wp g X (LF lc_34) cells slots 1247 (lls i) [] v ρ Z
  refine r_aload_n (pc := 1247) hX 0 rfl rfl ?_
  refine r_aload_n (pc := 1248) hX 1 rfl rfl ?_
  refine r_iload (pc := 1249) hX 2 rfl rfl ?_
  refine r_iconst (pc := 1251) hX 3 rfl ?_
  refine r_iadd (pc := 1252) hX 4 rfl ?_
  refine e_iald (y := sc (i + 1)) (n := N) (pc := 1253) hX 5 rfl hI.sk hI.sl (by omega) (by omega) (hI.s3 _) ?_
  refine r_callV (as := [(0, sc (i + 1))]) (st := []) (K := 11) (pc := 1254) hX 6 rfl mo_X11_log ml_L_187 im_X11_log se_X11_log (c_X11_logL g ω v ρ Z hI.ht 4 hI.w4 (sc (i + 1)) hQ4.1 (hsc _) hQl hRc) rfl rfl rfl hI.k4 (by rw [hR]; exact ⟨Nat.le_of_ble_eq_true rfl, Nat.le_of_ble_eq_true rfl⟩) (by rw [hR]; exact ⟨by show cells + 0 ≤ 601024; omega, by show slots + 0 ≤ 7293034; omega⟩) (Nat.le_of_ble_eq_true rfl) (fun o1 v1 ρ1 Z1 hq1 _ => ?_)
  obtain ⟨rfl, hf1, hg1, hh1, r1, rfl, hp1⟩ := hq1
  have hI1 := LInv.cls hI (fun q hq _ => hf1 q (by rw [hq]; decide)) (fun q hq => hg1 q (by rw [hq]; decide)) hh1
  have hC1 : EqC (v1 (ρ 4 0) 1) (v (ρ 4 13)) v1 ρ1 := EqC.fr (congrFun (hg1 4 (by rw [hI.w4]; decide)) 0) (congrFun (hg1 4 (by rw [hI.w4]; decide)) 13) (rfl) (fun k _ _ => congrFun (hf1 (ρ 4 13) (by rw [hI.w62]; decide)) k)
  have e179 : v1 179 = v 179 := hf1 179 (by rw [hI.wz (r := 179) (by decide) (by decide)]; decide)
  have e184 : v1 184 = v 184 := hf1 184 (by rw [hI.wz (r := 184) (by decide) (by decide)]; decide)
  have eB : v1 (ρ (ρ 4 0) 0) = v (ρ (ρ 4 0) 0) := hf1 _ (by rw [hw3]; decide)
  have hr1 : ρ1 4 0 = ρ 4 0 ∧ ρ1 4 1 = ρ 4 1 ∧ ρ1 (ρ 4 1) 0 = ρ (ρ 4 1) 0 ∧ ρ1 (ρ 4 0) 0 = ρ (ρ 4 0) 0 := ⟨congrFun (hg1 4 (by rw [hI.w4]; decide)) 0, congrFun (hg1 4 (by rw [hI.w4]; decide)) 1, congrFun (hg1 _ (by rw [hw4]; decide)) 0, congrFun (hg1 _ (by rw [hI.w2]; decide)) 0⟩
  have e40 : ρ1 4 0 = ρ 4 0 := congrFun (hg1 4 (by rw [hI.w4]; decide)) 0
  have e180 : v1 180 = v 180 := hf1 180 (by rw [hI.wz (r := 180) (by decide) (by decide)]; decide)
  have e207 : v1 207 = v 207 := hf1 207 (by rw [hI.wz (r := 207) (by decide) (by decide)]; decide)
  have e183 : v1 183 = v 183 := hf1 183 (by rw [hI.wz (r := 183) (by decide) (by decide)]; decide)
  have e208 : v1 208 = v 208 := hf1 208 (by rw [hI.wz (r := 208) (by decide) (by decide)]; decide)
  have hKc : RcK ω v ρ v1 ρ1 := RcK.fr hI.ht hf1 hg1 (by decide) (by decide)
  have ho5 : ∀ o, ω o = 5 → ω o = 5 := fun _ h => h
  have hS1 : ρ1 (ρ1 4 2) 0 = ρ1 4 0 ∧ ρ1 (ρ1 4 3) 0 = ρ1 4 0 := ⟨tapS (congrFun (hg1 4 (by rw [hI.w4]; decide)) 0) (congrFun (hg1 4 (by rw [hI.w4]; decide)) 2) (congrFun (hg1 _ (by rw [hw15]; decide)) 0) hQl, tapS (congrFun (hg1 4 (by rw [hI.w4]; decide)) 0) (congrFun (hg1 4 (by rw [hI.w4]; decide)) 3) (congrFun (hg1 _ (by rw [hw21]; decide)) 0) hQs⟩
  have e178 : v1 178 = v 178 := hf1 178 (by rw [hI.wz (r := 178) (by decide) (by decide)]; decide)
  have e209 : v1 209 = v 209 := hf1 209 (by rw [hI.wz (r := 209) (by decide) (by decide)]; decide)
  show wp g X (LF lc_34) (cells) (slots) 1257 [(2, 3), (2, 4), (2, 178), (2, 210), (0, i), (3, 0), (3, 0), (3, 0)] [(0, r1)] v1 ρ1 Z
  refine r_pop (pc := 1257) hX 7 rfl (show (0 : Nat) ≠ 1 by decide) ?_
  refine r_aload_n (pc := 1258) hX 8 rfl rfl ?_
  refine r_aload_n (pc := 1259) hX 9 rfl rfl ?_
  refine r_iload (pc := 1260) hX 10 rfl rfl ?_
  refine r_iconst (pc := 1262) hX 11 rfl ?_
  refine r_iadd (pc := 1263) hX 12 rfl ?_
  refine e_iald (y := sc (i + 1)) (n := N) (pc := 1264) hX 13 rfl hI1.sk hI1.sl (by omega) (by omega) (hI1.s3 _) ?_
  obtain ⟨b1, b2, b3, b4, b5, b6, b7, b8, b9, b10⟩ := hI1.rf
  refine r_callV (as := [(0, sc (i + 1))]) (st := []) (K := 12) (pc := 1265) hX 14 rfl mo_m_log ml_L_190 im_m_log se_m_log (c_logL (N := s0.N) g v1 ρ1 Z hI1.gm (sc (i + 1)) b4 b5 (hsc _) b1 ⟨b2, b3.1, b3.2⟩ b10 (by rw [e184]; exact hT.2.1) (RdN.nm hRm hNs e180 e183) (RdN.np hRm hNs e180 e183)) rfl rfl rfl hI1.gm.1 (by rw [hR]; exact ⟨Nat.le_of_ble_eq_true rfl, Nat.le_of_ble_eq_true rfl⟩) (by rw [hR]; exact ⟨by show cells + 0 ≤ 601024; omega, by show slots + 0 ≤ 7293034; omega⟩) (Nat.le_of_ble_eq_true rfl) (fun o2 v2 ρ2 Z2 hq2 _ => ?_)
  obtain ⟨rfl, rfl, hf2, r2, rfl, hp2⟩ := hq2
  have hI2 := LInv.ref hI1 (Fr.out hf2 (by decide)) (show RfI v2 from ⟨⟨(hp2.2.2.1).2.2.2.1, (hp2.2.2.1).2.2.2.2.1⟩, (hp2.2.2.1).1, ⟨(hp2.2.2.1).2.1, (hp2.2.2.1).2.2.1⟩, hp2.1, hp2.2.1, by rw [hf2.1 209 (by decide) (by decide), hf2.1 207 (by decide) (by decide)]; exact b6, by rw [hf2.1 195 (by decide) (by decide)]; exact b7, by rw [hf2.1 194 (by decide) (by decide)]; exact b8, by rw [hf2.2 45 (by decide)]; exact b9, ⟨(hp2.2.2.1).2.2.2.2.2.1, (hp2.2.2.1).2.2.2.2.2.2.1⟩⟩)
  have z1 : v2 (ρ1 4 0) 1 = v1 (ρ1 4 0) 1 := congrFun (Fr.out hf2 (by decide) _ (hI1.lo hI1.w2 (by decide))) 1
  have z2 := hC1.1
  have z3 : v1 178 2 = v 178 2 := congrFun e178 2
  have z0 := hE.1
  have y1 : ∀ k, v2 (ρ1 4 13) k = v1 (ρ1 4 13) k := fun k => congrFun (Fr.out hf2 (by decide) _ (hI1.lo hI1.w62 (by decide))) k
  have y3 : ∀ k, v1 209 k = v 209 k := fun k => congrFun e209 k
  have z4 := hp2.2.2.1.2.2.2.2.2.2.2
  have z5 := hp1.1
  have x9 : v2 (ρ1 4 0) 9 = v1 (ρ1 4 0) 9 := congrFun (Fr.out hf2 (by decide) _ (hI1.lo hI1.w2 (by decide))) 9
  have hF2 : v2 (ρ1 4 0) 9 = v2 178 15 := by
    rw [x9, e40]
    exact fa_log (hp1.2.2) (hp2.2.2.2.2) (by rw [z3, e179, hE.1, cb_eq hT.2.2, e180, hRm.1 0 (by decide) (by decide) (by decide) (by decide) (by decide) (by decide), hRm.1 2 (by decide) (by decide) (by decide) (by decide) (by decide) (by decide)]) (hF.trans (congrFun e178 15).symm)
  have hw3b : ω (ρ1 (ρ1 4 0) 0) = 3 := hI1.ht.rf hI1.w2 (by decide) rfl
  have g2 : v2 (ρ1 (ρ1 4 0) 0) = v1 (ρ1 (ρ1 4 0) 0) := Fr.out hf2 (by decide) _ (hI1.lo hw3b (by decide))
  have e2 : v2 184 = v1 184 := hf2.1 184 (by decide) (by decide)
  have hT2 : EqT v2 ρ1 := EqT.step hT hr1 e184 e2 e179 (hf2.1 179 (by decide) (by decide)) eB g2 (by omega)
  have hO := Fr.out hf2 (by decide)
  have hK2 := RcK.ref hKc hI1 hO ho5
  have hR2 : EqN v2 ρ1 := EqN.k1 hQ4 hI.ht hI.w4 (TrP.ref hp1.2.1 hI1 hI1.w4 hO) hK2 (fun k _ b => (hp2.2.2.2.1 k b).trans (congrFun e180 k)) ((hf2.1 207 (by decide) (by decide)).trans e207) ((hf2.1 209 (by decide) (by decide)).trans e209) (fun k _ _ => congrFun ((hf2.1 183 (by decide) (by decide)).trans e183) k) ((hf2.1 208 (by decide) (by decide)).trans e208)
  have hE2 : EqI v2 ρ1 := ⟨by omega, fun k a b => by rw [y1 k, hC1.2 k a b, show v2 209 k = v1 209 k from congrFun (hf2.1 209 (by decide) (by decide)) k, y3 k]; exact hE.2 k a b⟩
  show wp g X (LF lc_34) (cells) (slots) 1268 [(2, 3), (2, 4), (2, 178), (2, 210), (0, i), (3, 0), (3, 0), (3, 0)] [(0, r2)] v2 ρ1 Z
  refine r_pop (pc := 1268) hX 15 rfl (show (0 : Nat) ≠ 1 by decide) ?_
  refine r_goto (pc := 1269) hX 16 (tgt := 1410) rfl (by decide) ?_
  refine wp_wid (k := cells + 20) (n := slots + 150) (by omega) (by omega) ?_
  exact kk _ _ _ _ ⟨⟨⟨⟨hI2, hE2⟩, hT2⟩, hR2, hS1⟩, hF2⟩
