theorem KpI {v v' : Mv} {k r : Int} (hS : SInv (v 180)) (h : ∀ k, 0 ≤ k → k ≤ 1 → v 209 k ≠ 0 → SInv (fun i => v 207 (238 * k + i))) (hq : (r = 0 ∧ (k < 0 ∨ 1 < k) ∧ v' 207 = v 207 ∧ v' 209 = v 209 ∨ r = 1 ∧ 0 ≤ k ∧ k ≤ 1 ∧ (∀ i, 0 ≤ i → i < 238 → v' 207 (238 * k + i) = v 180 i) ∧ (∀ j, ¬ (238 * k ≤ j ∧ j < 238 * k + 238) → v' 207 j = v 207 j) ∧ (∀ j, j ≠ k → v' 209 j = v 209 j) ∧ v' 209 k = 1)) : ∀ k, 0 ≤ k → k ≤ 1 → v' 209 k ≠ 0 → SInv (fun i => v' 207 (238 * k + i)) := by
  intro j h0 h1 hj
  rcases hq with ⟨-, -, e1, e2⟩ | ⟨-, k0, k1, f1, f2, f3, -⟩
  · rw [e2] at hj
    rw [e1]
    exact h j h0 h1 hj
  · by_cases e : j = k
    · subst e
      exact SInv.cgB hS f1
    · rw [f3 j e] at hj
      exact SInv.cgB (h j h0 h1 hj) (fun i a b => f2 _ (by omega))
set_option maxRecDepth 100000 in
def lc_0 : List (Nat × Instr × Nat) := [(220, .aload_n 1, 1), (221, .aload_n 0, 1), (222, .iload 4, 2), (224, .iconst 1, 1), (225, .iadd, 1), (226, .iaload, 1), (227, .aload_n 0, 1), (228, .iload 4, 2), (230, .iconst 2, 1), (231, .iadd, 1), (232, .iaload, 1), (233, .aload_n 0, 1), (234, .iload 4, 2), (236, .iconst 3, 1), (237, .iadd, 1), (238, .iaload, 1), (239, .aload_n 0, 1), (240, .iload 4, 2), (242, .iconst 4, 1), (243, .iadd, 1), (244, .iaload, 1), (245, .aload_n 0, 1), (246, .iload 4, 2), (248, .iconst 5, 1), (249, .iadd, 1), (250, .iaload, 1), (251, .invokevirtual 52, 3), (254, .pop, 1), (255, .aload_n 2, 1), (256, .aload_n 0, 1), (257, .iload 4, 2), (259, .iconst 1, 1), (260, .iadd, 1), (261, .iaload, 1), (262, .aload_n 0, 1), (263, .iload 4, 2), (265, .iconst 2, 1), (266, .iadd, 1), (267, .iaload, 1), (268, .aload_n 0, 1), (269, .iload 4, 2), (271, .iconst 3, 1), (272, .iadd, 1), (273, .iaload, 1), (274, .aload_n 0, 1), (275, .iload 4, 2), (277, .iconst 4, 1), (278, .iadd, 1), (279, .iaload, 1), (280, .aload_n 0, 1), (281, .iload 4, 2), (283, .iconst 5, 1), (284, .iadd, 1), (285, .iaload, 1), (286, .invokevirtual 56, 3), (289, .pop, 1), (290, .goto 1120, 3)]
set_option maxRecDepth 100000 in
theorem lc_0_d : lc_0.all (fun q => decide (decode cL_law q.1 = .ok q.2)) = true := by decide +kernel
set_option maxHeartbeats 4000000 in
set_option maxRecDepth 100000 in
theorem cs_0 {g : Gp} {X : Cx} {N : Int} {sc : Int → Int} (hL : LX g X) (hsc : ∀ k, inR (sc k)) : CaseOk6 g X N sc 220 := by
  intro i cells slots ω v ρ Z hi0 hi1 hc hs hI kk
  obtain ⟨⟨⟨⟨hI, hE⟩, hT⟩, hQ4, hQl, hQs⟩, hF⟩ := hI
  have hw := TrW.of hI.ht hI.w4
  have h8 : 0 ≤ v (ρ 4 6) 1 ∧ v (ρ 4 6) 1 ≤ 8 := hI.ht.rg hw.2.2.2.1 (by decide) rfl
  have hw4 : ω (ρ 4 1) = 4 := hI.ht.rf hI.w4 (by decide) rfl
  have hw3 : ω (ρ (ρ 4 0) 0) = 3 := hI.ht.rf hI.w2 (by decide) rfl
  have hw15 : ω (ρ 4 2) = 15 := hI.ht.rf hI.w4 (by decide) rfl
  have hw21 : ω (ρ 4 3) = 21 := hI.ht.rf hI.w4 (by decide) rfl
  have hX : okX g X (LF lc_0) := okL hL.1 lc_0_d
  have hR := hL.2.1
  show wp g X (LF lc_0) cells slots 220 (lls i) [] v ρ Z
  refine r_aload_n (pc := 220) hX 0 rfl rfl ?_
  refine r_aload_n (pc := 221) hX 1 rfl rfl ?_
  refine r_iload (pc := 222) hX 2 rfl rfl ?_
  refine r_iconst (pc := 224) hX 3 rfl ?_
  refine r_iadd (pc := 225) hX 4 rfl ?_
  refine e_iald (y := sc (i + 1)) (n := N) (pc := 226) hX 5 rfl hI.sk hI.sl (by omega) (by omega) (hI.s3 _) ?_
  refine r_aload_n (pc := 227) hX 6 rfl rfl ?_
  refine r_iload (pc := 228) hX 7 rfl rfl ?_
  refine r_iconst (pc := 230) hX 8 rfl ?_
  refine r_iadd (pc := 231) hX 9 rfl ?_
  refine e_iald (y := sc (i + 2)) (n := N) (pc := 232) hX 10 rfl hI.sk hI.sl (by omega) (by omega) (hI.s3 _) ?_
  refine r_aload_n (pc := 233) hX 11 rfl rfl ?_
  refine r_iload (pc := 234) hX 12 rfl rfl ?_
  refine r_iconst (pc := 236) hX 13 rfl ?_
  refine r_iadd (pc := 237) hX 14 rfl ?_
  refine e_iald (y := sc (i + 3)) (n := N) (pc := 238) hX 15 rfl hI.sk hI.sl (by omega) (by omega) (hI.s3 _) ?_
  refine r_aload_n (pc := 239) hX 16 rfl rfl ?_
  refine r_iload (pc := 240) hX 17 rfl rfl ?_
  refine r_iconst (pc := 242) hX 18 rfl ?_
  refine r_iadd (pc := 243) hX 19 rfl ?_
  refine e_iald (y := sc (i + 4)) (n := N) (pc := 244) hX 20 rfl hI.sk hI.sl (by omega) (by omega) (hI.s3 _) ?_
  refine r_aload_n (pc := 245) hX 21 rfl rfl ?_
  refine r_iload (pc := 246) hX 22 rfl rfl ?_
  refine r_iconst (pc := 248) hX 23 rfl ?_
  refine r_iadd (pc := 249) hX 24 rfl ?_
  refine e_iald (y := sc (i + 5)) (n := N) (pc := 250) hX 25 rfl hI.sk hI.sl (by omega) (by omega) (hI.s3 _) ?_
  refine r_callV (as := [(0, sc (i + 1)), (0, sc (i + 2)), (0, sc (i + 3)), (0, sc (i + 4)), (0, sc (i + 5))]) (st := []) (K := 11) (pc := 251) hX 26 rfl mo_X11_feed ml_L_52 im_X11_feed se_X11_feed (c_X11_feedL g ω v ρ Z hI.ht 4 hI.w4 (sc (i + 1)) (sc (i + 2)) (sc (i + 3)) (sc (i + 4)) (sc (i + 5))) rfl rfl rfl hI.k4 (by rw [hR]; exact ⟨Nat.le_of_ble_eq_true rfl, Nat.le_of_ble_eq_true rfl⟩) (by rw [hR]; exact ⟨by show cells + 0 ≤ 601024; omega, by show slots + 0 ≤ 7293034; omega⟩) (Nat.le_of_ble_eq_true rfl) (fun o1 v1 ρ1 Z1 hq1 _ => ?_)
  obtain ⟨rfl, rfl, hf1, hh1, r1, rfl, hp1⟩ := hq1
  have hI1 := LInv.cls hI (fun q hq _ => hf1 q (by rw [hq]; decide)) (fun _ _ => rfl) hh1
  have hC1 : EqC (v1 (ρ 4 0) 1) (v (ρ 4 13)) v1 ρ := EqC.fr (rfl) (rfl) (rfl) (fun k _ _ => congrFun (hf1 (ρ 4 13) (by rw [hI.w62]; decide)) k)
  have e179 : v1 179 = v 179 := hf1 179 (by rw [hI.wz (r := 179) (by decide) (by decide)]; decide)
  have e184 : v1 184 = v 184 := hf1 184 (by rw [hI.wz (r := 184) (by decide) (by decide)]; decide)
  have hr1 : ρ 4 0 = ρ 4 0 ∧ ρ 4 1 = ρ 4 1 ∧ ρ (ρ 4 1) 0 = ρ (ρ 4 1) 0 ∧ ρ (ρ 4 0) 0 = ρ (ρ 4 0) 0 := ⟨rfl, rfl, rfl, rfl⟩
  have hF1 : v1 (ρ 4 0) 9 = v (ρ 4 0) 9 := by
    rw [show ρ 4 0 = ρ 4 0 from rfl]
    exact hp1.2.2
  have e180 : v1 180 = v 180 := hf1 180 (by rw [hI.wz (r := 180) (by decide) (by decide)]; decide)
  have e207 : v1 207 = v 207 := hf1 207 (by rw [hI.wz (r := 207) (by decide) (by decide)]; decide)
  have e183 : v1 183 = v 183 := hf1 183 (by rw [hI.wz (r := 183) (by decide) (by decide)]; decide)
  have e208 : v1 208 = v 208 := hf1 208 (by rw [hI.wz (r := 208) (by decide) (by decide)]; decide)
  have hKc : RcK ω v ρ v1 ρ := RcK.fr hI.ht hf1 (FrW.rf (S := [])) (by decide) (by decide)
  have ho5 : ∀ o, ω o = 5 → ω o = 5 := fun _ h => h
  have hS1 : ρ (ρ 4 2) 0 = ρ 4 0 ∧ ρ (ρ 4 3) 0 = ρ 4 0 := ⟨hQl, hQs⟩
  have hPc := TrP.fr (v' := v1) hQ4.1 hw hf1 (FrW.rf (S := [])) h8.2 (by decide) (by decide)
  have e178 : v1 178 = v 178 := hf1 178 (by rw [hI.wz (r := 178) (by decide) (by decide)]; decide)
  have e209 : v1 209 = v 209 := hf1 209 (by rw [hI.wz (r := 209) (by decide) (by decide)]; decide)
  show wp g X (LF lc_0) (cells) (slots) 254 [(2, 3), (2, 4), (2, 178), (2, 210), (0, i), (3, 0), (3, 0), (3, 0)] [(0, r1)] v1 ρ Z
  refine r_pop (pc := 254) hX 27 rfl (show (0 : Nat) ≠ 1 by decide) ?_
  refine r_aload_n (pc := 255) hX 28 rfl rfl ?_
  refine r_aload_n (pc := 256) hX 29 rfl rfl ?_
  refine r_iload (pc := 257) hX 30 rfl rfl ?_
  refine r_iconst (pc := 259) hX 31 rfl ?_
  refine r_iadd (pc := 260) hX 32 rfl ?_
  refine e_iald (y := sc (i + 1)) (n := N) (pc := 261) hX 33 rfl hI1.sk hI1.sl (by omega) (by omega) (hI1.s3 _) ?_
  refine r_aload_n (pc := 262) hX 34 rfl rfl ?_
  refine r_iload (pc := 263) hX 35 rfl rfl ?_
  refine r_iconst (pc := 265) hX 36 rfl ?_
  refine r_iadd (pc := 266) hX 37 rfl ?_
  refine e_iald (y := sc (i + 2)) (n := N) (pc := 267) hX 38 rfl hI1.sk hI1.sl (by omega) (by omega) (hI1.s3 _) ?_
  refine r_aload_n (pc := 268) hX 39 rfl rfl ?_
  refine r_iload (pc := 269) hX 40 rfl rfl ?_
  refine r_iconst (pc := 271) hX 41 rfl ?_
  refine r_iadd (pc := 272) hX 42 rfl ?_
  refine e_iald (y := sc (i + 3)) (n := N) (pc := 273) hX 43 rfl hI1.sk hI1.sl (by omega) (by omega) (hI1.s3 _) ?_
  refine r_aload_n (pc := 274) hX 44 rfl rfl ?_
  refine r_iload (pc := 275) hX 45 rfl rfl ?_
  refine r_iconst (pc := 277) hX 46 rfl ?_
  refine r_iadd (pc := 278) hX 47 rfl ?_
  refine e_iald (y := sc (i + 4)) (n := N) (pc := 279) hX 48 rfl hI1.sk hI1.sl (by omega) (by omega) (hI1.s3 _) ?_
  refine r_aload_n (pc := 280) hX 49 rfl rfl ?_
  refine r_iload (pc := 281) hX 50 rfl rfl ?_
  refine r_iconst (pc := 283) hX 51 rfl ?_
  refine r_iadd (pc := 284) hX 52 rfl ?_
  refine e_iald (y := sc (i + 5)) (n := N) (pc := 285) hX 53 rfl hI1.sk hI1.sl (by omega) (by omega) (hI1.s3 _) ?_
  obtain ⟨b1, b2, b3, b4, b5, b6, b7, b8, b9, b10⟩ := hI1.rf
  refine r_callV (as := [(0, sc (i + 1)), (0, sc (i + 2)), (0, sc (i + 3)), (0, sc (i + 4)), (0, sc (i + 5))]) (st := []) (K := 12) (pc := 286) hX 54 rfl mo_m_feed ml_L_56 im_m_feed se_m_feed (c_feedF g v1 ρ Z hI1.gm (sc (i + 1)) (sc (i + 2)) (sc (i + 3)) (sc (i + 4)) (sc (i + 5)) b1) rfl rfl rfl hI1.gm.1 (by rw [hR]; exact ⟨Nat.le_of_ble_eq_true rfl, Nat.le_of_ble_eq_true rfl⟩) (by rw [hR]; exact ⟨by show cells + 0 ≤ 601024; omega, by show slots + 0 ≤ 7293034; omega⟩) (Nat.le_of_ble_eq_true rfl) (fun o2 v2 ρ2 Z2 hq2 _ => ?_)
  obtain ⟨rfl, rfl, hf2, r2, rfl, hp2⟩ := hq2
  have hI2 := LInv.ref hI1 (Fr.out hf2 (by decide)) (show RfI v2 from ⟨hp2.1, by rw [hf2.2 14 (by decide)]; exact b2, by rw [hf2.2 11 (by decide)]; exact b3, by rw [hf2.1 180 (by decide) (by decide)]; exact b4, by rw [hf2.1 180 (by decide) (by decide), hf2.1 187 (by decide) (by decide), hf2.2 25 (by decide)]; exact b5, by rw [hf2.1 209 (by decide) (by decide), hf2.1 207 (by decide) (by decide)]; exact b6, by rw [hf2.1 195 (by decide) (by decide)]; exact b7, by rw [hf2.1 194 (by decide) (by decide)]; exact b8, by rw [hf2.2 45 (by decide)]; exact b9, by rw [hf2.2 49 (by decide)]; exact b10⟩)
  have z1 : v2 (ρ 4 0) 1 = v1 (ρ 4 0) 1 := congrFun (Fr.out hf2 (by decide) _ (hI1.lo hI1.w2 (by decide))) 1
  have z2 := hC1.1
  have z3 : v1 178 2 = v 178 2 := congrFun e178 2
  have z0 := hE.1
  have y1 : ∀ k, v2 (ρ 4 13) k = v1 (ρ 4 13) k := fun k => congrFun (Fr.out hf2 (by decide) _ (hI1.lo hI1.w62 (by decide))) k
  have y3 : ∀ k, v1 209 k = v 209 k := fun k => congrFun e209 k
  have z4 := hp2.2.1
  have z5 := hp1.1
  have x9 : v2 (ρ 4 0) 9 = v1 (ρ 4 0) 9 := congrFun (Fr.out hf2 (by decide) _ (hI1.lo hI1.w2 (by decide))) 9
  have hF2 : v2 (ρ 4 0) 9 = v2 178 15 := by
    rw [x9, hF1, hf2.2 15 (by decide), e178]
    exact hF
  have hw3b : ω (ρ (ρ 4 0) 0) = 3 := hI1.ht.rf hI1.w2 (by decide) rfl
  have g2 : v2 (ρ (ρ 4 0) 0) = v1 (ρ (ρ 4 0) 0) := Fr.out hf2 (by decide) _ (hI1.lo hw3b (by decide))
  have e2 : v2 184 = v1 184 := hf2.1 184 (by decide) (by decide)
  have hT2 : EqT v2 ρ := EqT.feed hT b1.1 hE.1 z3 e184 e2 e179 g2 ⟨hp1.1, hp1.2.1⟩ hp2.2
  have hO := Fr.out hf2 (by decide)
  have hK2 := RcK.ref hKc hI1 hO ho5
  have hR2 : EqN v2 ρ := EqN.k1 hQ4 hI.ht hI.w4 (TrP.ref hPc hI1 hI1.w4 hO) hK2 (fun k _ _ => by rw [hf2.1 180 (by decide) (by decide), e180]) ((hf2.1 207 (by decide) (by decide)).trans e207) ((hf2.1 209 (by decide) (by decide)).trans e209) (fun k _ _ => congrFun ((hf2.1 183 (by decide) (by decide)).trans e183) k) ((hf2.1 208 (by decide) (by decide)).trans e208)
  have hE2 : EqI v2 ρ := ⟨by omega, fun k a b => by rw [y1 k, hC1.2 k a b, show v2 209 k = v1 209 k from congrFun (hf2.1 209 (by decide) (by decide)) k, y3 k]; exact hE.2 k a b⟩
  show wp g X (LF lc_0) (cells) (slots) 289 [(2, 3), (2, 4), (2, 178), (2, 210), (0, i), (3, 0), (3, 0), (3, 0)] [(0, r2)] v2 ρ Z
  refine r_pop (pc := 289) hX 55 rfl (show (0 : Nat) ≠ 1 by decide) ?_
  refine r_goto (pc := 290) hX 56 (tgt := 1410) rfl (by decide) ?_
  refine wp_wid (k := cells + 20) (n := slots + 150) (by omega) (by omega) ?_
  exact kk _ _ _ _ ⟨⟨⟨⟨hI2, hE2⟩, hT2⟩, hR2, hS1⟩, hF2⟩
set_option maxRecDepth 100000 in
def lc_1 : List (Nat × Instr × Nat) := [(293, .aload_n 1, 1), (294, .aload_n 0, 1), (295, .iload 4, 2), (297, .iconst 1, 1), (298, .iadd, 1), (299, .iaload, 1), (300, .invokevirtual 57, 3), (303, .pop, 1), (304, .aload_n 2, 1), (305, .aload_n 0, 1), (306, .iload 4, 2), (308, .iconst 1, 1), (309, .iadd, 1), (310, .iaload, 1), (311, .invokevirtual 61, 3), (314, .pop, 1), (315, .goto 1095, 3)]
set_option maxRecDepth 100000 in
theorem lc_1_d : lc_1.all (fun q => decide (decode cL_law q.1 = .ok q.2)) = true := by decide +kernel
set_option maxHeartbeats 4000000 in
set_option maxRecDepth 100000 in
theorem cs_1 {g : Gp} {X : Cx} {N : Int} {sc : Int → Int} (hL : LX g X) (hsc : ∀ k, inR (sc k)) : CaseOk6 g X N sc 293 := by
  intro i cells slots ω v ρ Z hi0 hi1 hc hs hI kk
  obtain ⟨⟨⟨⟨hI, hE⟩, hT⟩, hQ4, hQl, hQs⟩, hF⟩ := hI
  have hw := TrW.of hI.ht hI.w4
  have h8 : 0 ≤ v (ρ 4 6) 1 ∧ v (ρ 4 6) 1 ≤ 8 := hI.ht.rg hw.2.2.2.1 (by decide) rfl
  have hw4 : ω (ρ 4 1) = 4 := hI.ht.rf hI.w4 (by decide) rfl
  have hw3 : ω (ρ (ρ 4 0) 0) = 3 := hI.ht.rf hI.w2 (by decide) rfl
  have hw15 : ω (ρ 4 2) = 15 := hI.ht.rf hI.w4 (by decide) rfl
  have hw21 : ω (ρ 4 3) = 21 := hI.ht.rf hI.w4 (by decide) rfl
  have hX : okX g X (LF lc_1) := okL hL.1 lc_1_d
  have hR := hL.2.1
  show wp g X (LF lc_1) cells slots 293 (lls i) [] v ρ Z
  refine r_aload_n (pc := 293) hX 0 rfl rfl ?_
  refine r_aload_n (pc := 294) hX 1 rfl rfl ?_
  refine r_iload (pc := 295) hX 2 rfl rfl ?_
  refine r_iconst (pc := 297) hX 3 rfl ?_
  refine r_iadd (pc := 298) hX 4 rfl ?_
  refine e_iald (y := sc (i + 1)) (n := N) (pc := 299) hX 5 rfl hI.sk hI.sl (by omega) (by omega) (hI.s3 _) ?_
  refine r_callV (as := [(0, sc (i + 1))]) (st := []) (K := 11) (pc := 300) hX 6 rfl mo_X11_end ml_L_57 im_X11_end se_X11_end (c_X11_endL g ω v ρ Z hI.ht 4 hI.w4 (sc (i + 1)) (hsc _)) rfl rfl rfl hI.k4 (by rw [hR]; exact ⟨Nat.le_of_ble_eq_true rfl, Nat.le_of_ble_eq_true rfl⟩) (by rw [hR]; exact ⟨by show cells + 0 ≤ 601024; omega, by show slots + 0 ≤ 7293034; omega⟩) (Nat.le_of_ble_eq_true rfl) (fun o1 v1 ρ1 Z1 hq1 _ => ?_)
  obtain ⟨rfl, rfl, hf1, hh1, r1, rfl, hp1⟩ := hq1
  have hI1 := LInv.cls hI (fun q hq _ => hf1 q (by rw [hq]; decide)) (fun _ _ => rfl) hh1
  have hC1 : EqC (v1 (ρ 4 0) 1) (v (ρ 4 13)) v1 ρ := EqC.fr (rfl) (rfl) (rfl) (fun k _ _ => congrFun (hf1 (ρ 4 13) (by rw [hI.w62]; decide)) k)
  have e179 : v1 179 = v 179 := hf1 179 (by rw [hI.wz (r := 179) (by decide) (by decide)]; decide)
  have e184 : v1 184 = v 184 := hf1 184 (by rw [hI.wz (r := 184) (by decide) (by decide)]; decide)
  have eB : v1 (ρ (ρ 4 0) 0) = v (ρ (ρ 4 0) 0) := hf1 _ (by rw [hw3]; decide)
  have hr1 : ρ 4 0 = ρ 4 0 ∧ ρ 4 1 = ρ 4 1 ∧ ρ (ρ 4 1) 0 = ρ (ρ 4 1) 0 ∧ ρ (ρ 4 0) 0 = ρ (ρ 4 0) 0 := ⟨rfl, rfl, rfl, rfl⟩
  have hF1 : v1 (ρ 4 0) 9 = v (ρ 4 0) 9 := by
    rw [show ρ 4 0 = ρ 4 0 from rfl]
    exact hp1.2
  have e180 : v1 180 = v 180 := hf1 180 (by rw [hI.wz (r := 180) (by decide) (by decide)]; decide)
  have e207 : v1 207 = v 207 := hf1 207 (by rw [hI.wz (r := 207) (by decide) (by decide)]; decide)
  have e183 : v1 183 = v 183 := hf1 183 (by rw [hI.wz (r := 183) (by decide) (by decide)]; decide)
  have e208 : v1 208 = v 208 := hf1 208 (by rw [hI.wz (r := 208) (by decide) (by decide)]; decide)
  have hKc : RcK ω v ρ v1 ρ := RcK.fr hI.ht hf1 (FrW.rf (S := [])) (by decide) (by decide)
  have ho5 : ∀ o, ω o = 5 → ω o = 5 := fun _ h => h
  have hS1 : ρ (ρ 4 2) 0 = ρ 4 0 ∧ ρ (ρ 4 3) 0 = ρ 4 0 := ⟨hQl, hQs⟩
  have hPc := TrP.fr (v' := v1) hQ4.1 hw hf1 (FrW.rf (S := [])) h8.2 (by decide) (by decide)
  have e178 : v1 178 = v 178 := hf1 178 (by rw [hI.wz (r := 178) (by decide) (by decide)]; decide)
  have e209 : v1 209 = v 209 := hf1 209 (by rw [hI.wz (r := 209) (by decide) (by decide)]; decide)
  show wp g X (LF lc_1) (cells) (slots) 303 [(2, 3), (2, 4), (2, 178), (2, 210), (0, i), (3, 0), (3, 0), (3, 0)] [(0, r1)] v1 ρ Z
  refine r_pop (pc := 303) hX 7 rfl (show (0 : Nat) ≠ 1 by decide) ?_
  refine r_aload_n (pc := 304) hX 8 rfl rfl ?_
  refine r_aload_n (pc := 305) hX 9 rfl rfl ?_
  refine r_iload (pc := 306) hX 10 rfl rfl ?_
  refine r_iconst (pc := 308) hX 11 rfl ?_
  refine r_iadd (pc := 309) hX 12 rfl ?_
  refine e_iald (y := sc (i + 1)) (n := N) (pc := 310) hX 13 rfl hI1.sk hI1.sl (by omega) (by omega) (hI1.s3 _) ?_
  obtain ⟨b1, b2, b3, b4, b5, b6, b7, b8, b9, b10⟩ := hI1.rf
  refine r_callV (as := [(0, sc (i + 1))]) (st := []) (K := 12) (pc := 311) hX 14 rfl mo_m_end ml_L_61 im_m_end se_m_end (c_end g v1 ρ Z hI1.gm (sc (i + 1)) (hsc _) b1) rfl rfl rfl hI1.gm.1 (by rw [hR]; exact ⟨Nat.le_of_ble_eq_true rfl, Nat.le_of_ble_eq_true rfl⟩) (by rw [hR]; exact ⟨by show cells + 0 ≤ 601024; omega, by show slots + 0 ≤ 7293034; omega⟩) (Nat.le_of_ble_eq_true rfl) (fun o2 v2 ρ2 Z2 hq2 _ => ?_)
  obtain ⟨rfl, rfl, hf2, r2, rfl, hp2⟩ := hq2
  have hI2 := LInv.ref hI1 (Fr.out hf2 (by decide)) (show RfI v2 from ⟨by omega, by rw [hf2.2 14 (by decide)]; exact b2, by rw [hf2.2 11 (by decide)]; exact b3, by rw [hf2.1 180 (by decide) (by decide)]; exact b4, by rw [hf2.1 180 (by decide) (by decide), hf2.1 187 (by decide) (by decide), hf2.2 25 (by decide)]; exact b5, by rw [hf2.1 209 (by decide) (by decide), hf2.1 207 (by decide) (by decide)]; exact b6, by rw [hf2.1 195 (by decide) (by decide)]; exact b7, by rw [hf2.1 194 (by decide) (by decide)]; exact b8, by rw [hf2.2 45 (by decide)]; exact b9, by rw [hf2.2 49 (by decide)]; exact b10⟩)
  have z1 : v2 (ρ 4 0) 1 = v1 (ρ 4 0) 1 := congrFun (Fr.out hf2 (by decide) _ (hI1.lo hI1.w2 (by decide))) 1
  have z2 := hC1.1
  have z3 : v1 178 2 = v 178 2 := congrFun e178 2
  have z0 := hE.1
  have y1 : ∀ k, v2 (ρ 4 13) k = v1 (ρ 4 13) k := fun k => congrFun (Fr.out hf2 (by decide) _ (hI1.lo hI1.w62 (by decide))) k
  have y3 : ∀ k, v1 209 k = v 209 k := fun k => congrFun e209 k
  have z4 := hp2
  have z5 := hp1
  have x9 : v2 (ρ 4 0) 9 = v1 (ρ 4 0) 9 := congrFun (Fr.out hf2 (by decide) _ (hI1.lo hI1.w2 (by decide))) 9
  have hF2 : v2 (ρ 4 0) 9 = v2 178 15 := by
    rw [x9, hF1, hf2.2 15 (by decide), e178]
    exact hF
  have hw3b : ω (ρ (ρ 4 0) 0) = 3 := hI1.ht.rf hI1.w2 (by decide) rfl
  have g2 : v2 (ρ (ρ 4 0) 0) = v1 (ρ (ρ 4 0) 0) := Fr.out hf2 (by decide) _ (hI1.lo hw3b (by decide))
  have e2 : v2 184 = v1 184 := hf2.1 184 (by decide) (by decide)
  have hT2 : EqT v2 ρ := EqT.step hT hr1 e184 e2 e179 (hf2.1 179 (by decide) (by decide)) eB g2 (by omega)
  have hO := Fr.out hf2 (by decide)
  have hK2 := RcK.ref hKc hI1 hO ho5
  have hR2 : EqN v2 ρ := EqN.k1 hQ4 hI.ht hI.w4 (TrP.ref hPc hI1 hI1.w4 hO) hK2 (fun k _ _ => by rw [hf2.1 180 (by decide) (by decide), e180]) ((hf2.1 207 (by decide) (by decide)).trans e207) ((hf2.1 209 (by decide) (by decide)).trans e209) (fun k _ _ => congrFun ((hf2.1 183 (by decide) (by decide)).trans e183) k) ((hf2.1 208 (by decide) (by decide)).trans e208)
  have hE2 : EqI v2 ρ := ⟨by omega, fun k a b => by rw [y1 k, hC1.2 k a b, show v2 209 k = v1 209 k from congrFun (hf2.1 209 (by decide) (by decide)) k, y3 k]; exact hE.2 k a b⟩
  show wp g X (LF lc_1) (cells) (slots) 314 [(2, 3), (2, 4), (2, 178), (2, 210), (0, i), (3, 0), (3, 0), (3, 0)] [(0, r2)] v2 ρ Z
  refine r_pop (pc := 314) hX 15 rfl (show (0 : Nat) ≠ 1 by decide) ?_
  refine r_goto (pc := 315) hX 16 (tgt := 1410) rfl (by decide) ?_
  refine wp_wid (k := cells + 20) (n := slots + 150) (by omega) (by omega) ?_
  exact kk _ _ _ _ ⟨⟨⟨⟨hI2, hE2⟩, hT2⟩, hR2, hS1⟩, hF2⟩
set_option maxRecDepth 100000 in
def lc_2 : List (Nat × Instr × Nat) := [(318, .aload_n 1, 1), (319, .invokevirtual 62, 3), (322, .pop, 1), (323, .aload_n 2, 1), (324, .invokevirtual 66, 3), (327, .pop, 1), (328, .goto 1082, 3)]
set_option maxRecDepth 100000 in
theorem lc_2_d : lc_2.all (fun q => decide (decode cL_law q.1 = .ok q.2)) = true := by decide +kernel
set_option maxHeartbeats 4000000 in
set_option maxRecDepth 100000 in
theorem cs_2 {g : Gp} {X : Cx} {N : Int} {sc : Int → Int} (hL : LX g X) (hsc : ∀ k, inR (sc k)) : CaseOk6 g X N sc 318 := by
  intro i cells slots ω v ρ Z hi0 hi1 hc hs hI kk
  obtain ⟨⟨⟨⟨hI, hE⟩, hT⟩, hQ4, hQl, hQs⟩, hF⟩ := hI
  have hw := TrW.of hI.ht hI.w4
  have h8 : 0 ≤ v (ρ 4 6) 1 ∧ v (ρ 4 6) 1 ≤ 8 := hI.ht.rg hw.2.2.2.1 (by decide) rfl
  have hw4 : ω (ρ 4 1) = 4 := hI.ht.rf hI.w4 (by decide) rfl
  have hw3 : ω (ρ (ρ 4 0) 0) = 3 := hI.ht.rf hI.w2 (by decide) rfl
  have hw15 : ω (ρ 4 2) = 15 := hI.ht.rf hI.w4 (by decide) rfl
  have hw21 : ω (ρ 4 3) = 21 := hI.ht.rf hI.w4 (by decide) rfl
  have hX : okX g X (LF lc_2) := okL hL.1 lc_2_d
  have hR := hL.2.1
  show wp g X (LF lc_2) cells slots 318 (lls i) [] v ρ Z
  refine r_aload_n (pc := 318) hX 0 rfl rfl ?_
  refine r_callV (as := []) (st := []) (K := 11) (pc := 319) hX 1 rfl mo_X11_road ml_L_62 im_X11_road se_X11_road (c_X11_roadL g ω v ρ Z hI.ht 4 hI.w4 hQ4.1 hT.1) rfl rfl rfl hI.k4 (by rw [hR]; exact ⟨Nat.le_of_ble_eq_true rfl, Nat.le_of_ble_eq_true rfl⟩) (by rw [hR]; exact ⟨by show cells + 12 ≤ 601024; omega, by show slots + 59 ≤ 7293034; omega⟩) (Nat.le_of_ble_eq_true rfl) (fun o1 v1 ρ1 Z1 hq1 _ => ?_)
  obtain ⟨ω1, ho1, hz1, hf1, hg1, hh1, r1, rfl, hp1⟩ := hq1
  have hI1 := LInv.new hI ho1 hz1 hf1 hg1 (by decide) (by decide) hh1
  have hC1 : EqC 0 (v (ρ 4 13)) v1 ρ1 := ⟨hp1.1, fun k _ _ => by rw [hp1.2.1.2]; exact congrFun (hf1 (ρ 4 13) (hI.ht.lt hI.w62 (by decide)) (by rw [hI.w62]; decide)) k⟩
  have e178 : v1 178 = v 178 := hf1 178 (by have := hI.nz; omega) (by rw [hI.wz (r := 178) (by decide) (by decide)]; decide)
  have e179 : v1 179 = v 179 := hf1 179 (by have := hI.nz; omega) (by rw [hI.wz (r := 179) (by decide) (by decide)]; decide)
  have e184 : v1 184 = v 184 := hf1 184 (by have := hI.nz; omega) (by rw [hI.wz (r := 184) (by decide) (by decide)]; decide)
  have eB : v1 (ρ (ρ 4 0) 0) = v (ρ (ρ 4 0) 0) := hf1 _ (hI.ht.lt hw3 (by decide)) (by rw [hw3]; decide)
  have hr1 : ρ1 4 0 = ρ 4 0 ∧ ρ1 4 1 = ρ 4 1 ∧ ρ1 (ρ 4 1) 0 = ρ (ρ 4 1) 0 ∧ ρ1 (ρ 4 0) 0 = ρ (ρ 4 0) 0 := ⟨hp1.2.1.1, hp1.2.2.2.1.1, hp1.2.2.2.1.2.trans hT.1.symm, congrFun (hg1 _ (hI.ht.lt hI.w2 (by decide)) (by rw [hI.w2]; decide)) 0⟩
  have e180 : v1 180 = v 180 := hf1 180 (by have := hI.nz; omega) (by rw [hI.wz (r := 180) (by decide) (by decide)]; decide)
  have e207 : v1 207 = v 207 := hf1 207 (by have := hI.nz; omega) (by rw [hI.wz (r := 207) (by decide) (by decide)]; decide)
  have e183 : v1 183 = v 183 := hf1 183 (by have := hI.nz; omega) (by rw [hI.wz (r := 183) (by decide) (by decide)]; decide)
  have e208 : v1 208 = v 208 := hf1 208 (by have := hI.nz; omega) (by rw [hI.wz (r := 208) (by decide) (by decide)]; decide)
  have hKc : RcK ω v ρ v1 ρ1 := fun o L i s h5 h => h.frB hI.ht h5 rfl hp1.2.2.2.2.2.1 (hg1 o (hI.ht.lt h5 (by decide)) (by rw [h5]; decide)) (hg1 _ (hI.ht.lt (show ω (ρ o 5) = 12 from hI.ht.rf h5 (by decide) rfl) (by decide)) (by rw [show ω (ρ o 5) = 12 from hI.ht.rf h5 (by decide) rfl]; decide))
  have ho5 : ∀ o, ω o = 5 → ω1 o = 5 := fun o h => (ho1 o (hI.ht.lt h (by decide))).trans h
  have hS1 : ρ1 (ρ1 4 2) 0 = ρ1 4 0 ∧ ρ1 (ρ1 4 3) 0 = ρ1 4 0 := ⟨tapS hp1.2.1.1 (hp1.2.2.2.2.2.2.1.1) (congrFun (hg1 _ (hI.ht.lt hw15 (by decide)) (by rw [hw15]; decide)) 0) hQl, tapS hp1.2.1.1 (hp1.2.2.2.2.2.2.1.2) (congrFun (hg1 _ (hI.ht.lt hw21 (by decide)) (by rw [hw21]; decide)) 0) hQs⟩
  have e209 : v1 209 = v 209 := hf1 209 (by have := hI.nz; omega) (by rw [hI.wz (r := 209) (by decide) (by decide)]; decide)
  show wp g X (LF lc_2) (cells + 12) (slots + 59) 322 [(2, 3), (2, 4), (2, 178), (2, 210), (0, i), (3, 0), (3, 0), (3, 0)] [(0, r1)] v1 ρ1 Z1
  refine r_pop (pc := 322) hX 2 rfl (show (0 : Nat) ≠ 1 by decide) ?_
  refine r_aload_n (pc := 323) hX 3 rfl rfl ?_
  obtain ⟨b1, b2, b3, b4, b5, b6, b7, b8, b9, b10⟩ := hI1.rf
  refine r_callV (as := []) (st := []) (K := 12) (pc := 324) hX 4 rfl mo_m_road ml_L_66 im_m_road se_m_road (c_roadF g v1 ρ1 Z1 hI1.gm b4 b5 b1 ⟨b2, b3.1, b3.2⟩ (by rw [e184]; exact hT.2.1)) rfl rfl rfl hI1.gm.1 (by rw [hR]; exact ⟨Nat.le_of_ble_eq_true rfl, Nat.le_of_ble_eq_true rfl⟩) (by rw [hR]; exact ⟨by show cells + 12 + 0 ≤ 601024; omega, by show slots + 59 + 0 ≤ 7293034; omega⟩) (Nat.le_of_ble_eq_true rfl) (fun o2 v2 ρ2 Z2 hq2 _ => ?_)
  obtain ⟨rfl, rfl, hf2, r2, rfl, hp2⟩ := hq2
  have hI2 := LInv.ref hI1 (Fr.out hf2 (by decide)) (show RfI v2 from ⟨by rw [hp2.2.2.1.2.2.2]; decide, hp2.2.2.1.1, ⟨hp2.2.2.1.2.1, hp2.2.2.1.2.2.1⟩, hp2.1, hp2.2.1, by rw [hf2.1 209 (by decide) (by decide), hf2.1 207 (by decide) (by decide)]; exact b6, by rw [hf2.1 195 (by decide) (by decide)]; exact b7, by rw [hf2.1 194 (by decide) (by decide)]; exact b8, by rw [hf2.2 45 (by decide)]; exact b9, by rw [hf2.2 49 (by decide)]; exact b10⟩)
  have z1 : v2 (ρ1 4 0) 1 = v1 (ρ1 4 0) 1 := congrFun (Fr.out hf2 (by decide) _ (hI1.lo hI1.w2 (by decide))) 1
  have z2 := hC1.1
  have z3 : v1 178 2 = v 178 2 := congrFun e178 2
  have z0 := hE.1
  have y1 : ∀ k, v2 (ρ1 4 13) k = v1 (ρ1 4 13) k := fun k => congrFun (Fr.out hf2 (by decide) _ (hI1.lo hI1.w62 (by decide))) k
  have y3 : ∀ k, v1 209 k = v 209 k := fun k => congrFun e209 k
  have z4 := hp2.2.2.1.2.2.2
  have x9 : v2 (ρ1 4 0) 9 = v1 (ρ1 4 0) 9 := congrFun (Fr.out hf2 (by decide) _ (hI1.lo hI1.w2 (by decide))) 9
  have hF2 : v2 (ρ1 4 0) 9 = v2 178 15 := by
    rw [x9, hp1.2.1.1, hp1.2.2.2.2.2.2.2, hp2.2.2.2.2.2.2, z3, e179, hE.1, cb_eq hT.2.2]
  have hw3b : ω1 (ρ1 (ρ1 4 0) 0) = 3 := hI1.ht.rf hI1.w2 (by decide) rfl
  have g2 : v2 (ρ1 (ρ1 4 0) 0) = v1 (ρ1 (ρ1 4 0) 0) := Fr.out hf2 (by decide) _ (hI1.lo hw3b (by decide))
  have e2 : v2 184 = v1 184 := hf2.1 184 (by decide) (by decide)
  have hT2 : EqT v2 ρ1 := EqT.step hT hr1 e184 e2 e179 (hf2.1 179 (by decide) (by decide)) eB g2 (by omega)
  have hO := Fr.out hf2 (by decide)
  have hK2 := RcK.ref hKc hI1 hO ho5
  have hp2e := hp2.2.2.2.2.1
  rw [z3, e179, ← cb_eq hT.2.2, ← hE.1] at hp2e
  have hp2n := hp2.2.2.2.2.2.1
  rw [z3, e179, ← cb_eq hT.2.2, ← hE.1] at hp2n
  have hR2 : EqN v2 ρ1 := EqN.road hQ4 hI.ht hI.w4 (RdT.ref hp1.2.2.2.2.1 hI1 hI1.w4 hO) hK2 ((hf2.1 207 (by decide) (by decide)).trans e207) ((hf2.1 209 (by decide) (by decide)).trans e209) ((hf2.1 208 (by decide) (by decide)).trans e208) (RoP.cg e180 hp2e) (RoN.cg e183 hp2n)
  have hE2 : EqI v2 ρ1 := ⟨by omega, fun k a b => by rw [y1 k, hC1.2 k a b, show v2 209 k = v1 209 k from congrFun (hf2.1 209 (by decide) (by decide)) k, y3 k]; exact hE.2 k a b⟩
  show wp g X (LF lc_2) (cells + 12) (slots + 59) 327 [(2, 3), (2, 4), (2, 178), (2, 210), (0, i), (3, 0), (3, 0), (3, 0)] [(0, r2)] v2 ρ1 Z1
  refine r_pop (pc := 327) hX 5 rfl (show (0 : Nat) ≠ 1 by decide) ?_
  refine r_goto (pc := 328) hX 6 (tgt := 1410) rfl (by decide) ?_
  refine wp_wid (k := cells + 20) (n := slots + 150) (by omega) (by omega) ?_
  exact kk _ _ _ _ ⟨⟨⟨⟨hI2, hE2⟩, hT2⟩, hR2, hS1⟩, hF2⟩
set_option maxRecDepth 100000 in
def lc_3 : List (Nat × Instr × Nat) := [(331, .aload_n 1, 1), (332, .invokevirtual 67, 3), (335, .aload_n 2, 1), (336, .invokevirtual 70, 3), (339, .if_icmp .eq 1071, 3), (342, .iconst 0, 1), (343, .ireturn, 1)]
set_option maxRecDepth 100000 in
theorem lc_3_d : lc_3.all (fun q => decide (decode cL_law q.1 = .ok q.2)) = true := by decide +kernel
set_option maxHeartbeats 4000000 in
set_option maxRecDepth 100000 in
theorem cs_3 {g : Gp} {X : Cx} {N : Int} {sc : Int → Int} (hL : LX g X) (hsc : ∀ k, inR (sc k)) : CaseOk6 g X N sc 331 := by
  intro i cells slots ω v ρ Z hi0 hi1 hc hs hI kk
  obtain ⟨⟨⟨⟨hI, hE⟩, hT⟩, hQ4, hQl, hQs⟩, hF⟩ := hI
  have hw := TrW.of hI.ht hI.w4
  have h8 : 0 ≤ v (ρ 4 6) 1 ∧ v (ρ 4 6) 1 ≤ 8 := hI.ht.rg hw.2.2.2.1 (by decide) rfl
  have hw4 : ω (ρ 4 1) = 4 := hI.ht.rf hI.w4 (by decide) rfl
  have hw3 : ω (ρ (ρ 4 0) 0) = 3 := hI.ht.rf hI.w2 (by decide) rfl
  have hw15 : ω (ρ 4 2) = 15 := hI.ht.rf hI.w4 (by decide) rfl
  have hw21 : ω (ρ 4 3) = 21 := hI.ht.rf hI.w4 (by decide) rfl
  have hX : okX g X (LF lc_3) := okL hL.1 lc_3_d
  have hR := hL.2.1
  show wp g X (LF lc_3) cells slots 331 (lls i) [] v ρ Z
  refine r_aload_n (pc := 331) hX 0 rfl rfl ?_
  refine r_callV (as := []) (st := []) (K := 11) (pc := 332) hX 1 rfl mo_X11_fault ml_L_67 im_X11_fault se_X11_fault (c_X11_faultF g ω v ρ Z hI.ht 4 hI.w4) rfl rfl rfl hI.k4 (by rw [hR]; exact ⟨Nat.le_of_ble_eq_true rfl, Nat.le_of_ble_eq_true rfl⟩) (by rw [hR]; exact ⟨by show cells + 0 ≤ 601024; omega, by show slots + 0 ≤ 7293034; omega⟩) (Nat.le_of_ble_eq_true rfl) (fun o1 v1 ρ1 Z1 hq1 _ => ?_)
  obtain ⟨rfl, rfl, rfl, r1, rfl, hp1⟩ := hq1
  have hI1 := hI
  have hC1 : EqC (v (ρ 4 0) 1) (v (ρ 4 13)) v ρ := ⟨rfl, fun _ _ _ => rfl⟩
  have hF1 : v (ρ 4 0) 9 = v (ρ 4 0) 9 := rfl
  have e178 : v 178 = v 178 := rfl
  have e209 : v 209 = v 209 := rfl
  have e179 : v 179 = v 179 := rfl
  have e184 : v 184 = v 184 := rfl
  have eB : v (ρ (ρ 4 0) 0) = v (ρ (ρ 4 0) 0) := rfl
  have e180 : v 180 = v 180 := rfl
  have e207 : v 207 = v 207 := rfl
  have e183 : v 183 = v 183 := rfl
  have e208 : v 208 = v 208 := rfl
  have hS1 : ρ (ρ 4 2) 0 = ρ 4 0 ∧ ρ (ρ 4 3) 0 = ρ 4 0 := ⟨hQl, hQs⟩
  have hKc : RcK ω v ρ v ρ := fun _ _ _ _ _ h => h
  have ho5 : ∀ o, ω o = 5 → ω o = 5 := fun _ h => h
  have hPc := TrP.rf hQ4.1
  have hr1 : ρ 4 0 = ρ 4 0 ∧ ρ 4 1 = ρ 4 1 ∧ ρ (ρ 4 1) 0 = ρ (ρ 4 1) 0 ∧ ρ (ρ 4 0) 0 = ρ (ρ 4 0) 0 := ⟨rfl, rfl, rfl, rfl⟩
  show wp g X (LF lc_3) (cells) (slots) 335 [(2, 3), (2, 4), (2, 178), (2, 210), (0, i), (3, 0), (3, 0), (3, 0)] [(0, r1)] v ρ Z
  refine r_aload_n (pc := 335) hX 2 rfl rfl ?_
  obtain ⟨b1, b2, b3, b4, b5, b6, b7, b8, b9, b10⟩ := hI1.rf
  refine r_callV (as := []) (st := [(0, r1)]) (K := 12) (pc := 336) hX 3 rfl mo_m_fault ml_L_70 im_m_fault se_m_fault (c_faultF g v ρ Z hI1.gm) rfl rfl rfl hI1.gm.1 (by rw [hR]; exact ⟨Nat.le_of_ble_eq_true rfl, Nat.le_of_ble_eq_true rfl⟩) (by rw [hR]; exact ⟨by show cells + 0 ≤ 601024; omega, by show slots + 0 ≤ 7293034; omega⟩) (Nat.le_of_ble_eq_true rfl) (fun o2 v2 ρ2 Z2 hq2 _ => ?_)
  obtain ⟨rfl, rfl, hf2, r2, rfl, hp2⟩ := hq2
  have hI2 := LInv.ref hI1 (Fr.out hf2 (by decide)) (show RfI v2 from ⟨by rw [hf2.2 2 (by decide)]; exact b1, by rw [hf2.2 14 (by decide)]; exact b2, by rw [hf2.2 11 (by decide)]; exact b3, by rw [hf2.1 180 (by decide) (by decide)]; exact b4, by rw [hf2.1 180 (by decide) (by decide), hf2.1 187 (by decide) (by decide), hf2.2 25 (by decide)]; exact b5, by rw [hf2.1 209 (by decide) (by decide), hf2.1 207 (by decide) (by decide)]; exact b6, by rw [hf2.1 195 (by decide) (by decide)]; exact b7, by rw [hf2.1 194 (by decide) (by decide)]; exact b8, by rw [hf2.2 45 (by decide)]; exact b9, by rw [hf2.2 49 (by decide)]; exact b10⟩)
  have z1 : v2 (ρ 4 0) 1 = v (ρ 4 0) 1 := congrFun (Fr.out hf2 (by decide) _ (hI1.lo hI1.w2 (by decide))) 1
  have z2 := hC1.1
  have z3 : v 178 2 = v 178 2 := congrFun e178 2
  have z0 := hE.1
  have y1 : ∀ k, v2 (ρ 4 13) k = v (ρ 4 13) k := fun k => congrFun (Fr.out hf2 (by decide) _ (hI1.lo hI1.w62 (by decide))) k
  have y3 : ∀ k, v 209 k = v 209 k := fun k => congrFun e209 k
  have z4 : v2 178 2 = v 178 2 := hf2.2 2 (by decide)
  have x9 : v2 (ρ 4 0) 9 = v (ρ 4 0) 9 := congrFun (Fr.out hf2 (by decide) _ (hI1.lo hI1.w2 (by decide))) 9
  have hF2 : v2 (ρ 4 0) 9 = v2 178 15 := by
    rw [x9, hF1, hf2.2 15 (by decide), e178]
    exact hF
  have hw3b : ω (ρ (ρ 4 0) 0) = 3 := hI1.ht.rf hI1.w2 (by decide) rfl
  have g2 : v2 (ρ (ρ 4 0) 0) = v (ρ (ρ 4 0) 0) := Fr.out hf2 (by decide) _ (hI1.lo hw3b (by decide))
  have e2 : v2 184 = v 184 := hf2.1 184 (by decide) (by decide)
  have hT2 : EqT v2 ρ := EqT.step hT hr1 e184 e2 e179 (hf2.1 179 (by decide) (by decide)) eB g2 (by omega)
  have hO := Fr.out hf2 (by decide)
  have hK2 := RcK.ref hKc hI1 hO ho5
  have hR2 : EqN v2 ρ := EqN.k1 hQ4 hI.ht hI.w4 (TrP.ref hPc hI1 hI1.w4 hO) hK2 (fun k _ _ => by rw [hf2.1 180 (by decide) (by decide), e180]) ((hf2.1 207 (by decide) (by decide)).trans e207) ((hf2.1 209 (by decide) (by decide)).trans e209) (fun k _ _ => congrFun ((hf2.1 183 (by decide) (by decide)).trans e183) k) ((hf2.1 208 (by decide) (by decide)).trans e208)
  have hE2 : EqI v2 ρ := ⟨by omega, fun k a b => by rw [y1 k, hC1.2 k a b, show v2 209 k = v 209 k from congrFun (hf2.1 209 (by decide) (by decide)) k, y3 k]; exact hE.2 k a b⟩
  show wp g X (LF lc_3) (cells) (slots) 339 [(2, 3), (2, 4), (2, 178), (2, 210), (0, i), (3, 0), (3, 0), (3, 0)] [(0, r2), (0, r1)] v2 ρ Z
  have er : r1 = r2 := by rw [hp1, hp2]; exact hF
  refine r_icmp_same (pc := 339) hX 4 (tgt := 1410) rfl (by decide) er ?_
  refine wp_wid (k := cells + 20) (n := slots + 150) (by omega) (by omega) ?_
  exact kk _ _ _ _ ⟨⟨⟨⟨hI2, hE2⟩, hT2⟩, hR2, hS1⟩, hF2⟩
set_option maxRecDepth 100000 in
def lc_4 : List (Nat × Instr × Nat) := [(344, .aload_n 1, 1), (345, .aload_n 0, 1), (346, .iload 4, 2), (348, .iconst 1, 1), (349, .iadd, 1), (350, .iaload, 1), (351, .aload_n 0, 1), (352, .iload 4, 2), (354, .iconst 2, 1), (355, .iadd, 1), (356, .iaload, 1), (357, .invokevirtual 71, 3), (360, .pop, 1), (361, .aload_n 2, 1), (362, .aload_n 0, 1), (363, .iload 4, 2), (365, .iconst 1, 1), (366, .iadd, 1), (367, .iaload, 1), (368, .aload_n 0, 1), (369, .iload 4, 2), (371, .iconst 2, 1), (372, .iadd, 1), (373, .iaload, 1), (374, .invokevirtual 74, 3), (377, .pop, 1), (378, .goto 1032, 3)]
set_option maxRecDepth 100000 in
theorem lc_4_d : lc_4.all (fun q => decide (decode cL_law q.1 = .ok q.2)) = true := by decide +kernel
set_option maxHeartbeats 4000000 in
set_option maxRecDepth 100000 in
theorem cs_4 {g : Gp} {X : Cx} {N : Int} {sc : Int → Int} (hL : LX g X) (hsc : ∀ k, inR (sc k)) : CaseOk6 g X N sc 344 := by
  intro i cells slots ω v ρ Z hi0 hi1 hc hs hI kk
  obtain ⟨⟨⟨⟨hI, hE⟩, hT⟩, hQ4, hQl, hQs⟩, hF⟩ := hI
  have hw := TrW.of hI.ht hI.w4
  have h8 : 0 ≤ v (ρ 4 6) 1 ∧ v (ρ 4 6) 1 ≤ 8 := hI.ht.rg hw.2.2.2.1 (by decide) rfl
  have hw4 : ω (ρ 4 1) = 4 := hI.ht.rf hI.w4 (by decide) rfl
  have hw3 : ω (ρ (ρ 4 0) 0) = 3 := hI.ht.rf hI.w2 (by decide) rfl
  have hw15 : ω (ρ 4 2) = 15 := hI.ht.rf hI.w4 (by decide) rfl
  have hw21 : ω (ρ 4 3) = 21 := hI.ht.rf hI.w4 (by decide) rfl
  have hX : okX g X (LF lc_4) := okL hL.1 lc_4_d
  have hR := hL.2.1
  show wp g X (LF lc_4) cells slots 344 (lls i) [] v ρ Z
  refine r_aload_n (pc := 344) hX 0 rfl rfl ?_
  refine r_aload_n (pc := 345) hX 1 rfl rfl ?_
  refine r_iload (pc := 346) hX 2 rfl rfl ?_
  refine r_iconst (pc := 348) hX 3 rfl ?_
  refine r_iadd (pc := 349) hX 4 rfl ?_
  refine e_iald (y := sc (i + 1)) (n := N) (pc := 350) hX 5 rfl hI.sk hI.sl (by omega) (by omega) (hI.s3 _) ?_
  refine r_aload_n (pc := 351) hX 6 rfl rfl ?_
  refine r_iload (pc := 352) hX 7 rfl rfl ?_
  refine r_iconst (pc := 354) hX 8 rfl ?_
  refine r_iadd (pc := 355) hX 9 rfl ?_
  refine e_iald (y := sc (i + 2)) (n := N) (pc := 356) hX 10 rfl hI.sk hI.sl (by omega) (by omega) (hI.s3 _) ?_
  refine r_callV (as := [(0, sc (i + 1)), (0, sc (i + 2))]) (st := []) (K := 11) (pc := 357) hX 11 rfl mo_X11_colour ml_L_71 im_X11_colour se_X11_colour (c_X11_colour g ω v ρ Z hI.ht 4 hI.w4 (sc (i + 1)) (sc (i + 2)) (hsc _) (hsc _)) rfl rfl rfl hI.k4 (by rw [hR]; exact ⟨Nat.le_of_ble_eq_true rfl, Nat.le_of_ble_eq_true rfl⟩) (by rw [hR]; exact ⟨by show cells + 0 ≤ 601024; omega, by show slots + 0 ≤ 7293034; omega⟩) (Nat.le_of_ble_eq_true rfl) (fun o1 v1 ρ1 Z1 hq1 _ => ?_)
  obtain ⟨rfl, rfl, rfl, r1, rfl, hp1⟩ := hq1
  have hI1 := hI
  have hC1 : EqC (v (ρ 4 0) 1) (v (ρ 4 13)) v ρ := ⟨rfl, fun _ _ _ => rfl⟩
  have hF1 : v (ρ 4 0) 9 = v (ρ 4 0) 9 := rfl
  have e178 : v 178 = v 178 := rfl
  have e209 : v 209 = v 209 := rfl
  have e179 : v 179 = v 179 := rfl
  have e184 : v 184 = v 184 := rfl
  have eB : v (ρ (ρ 4 0) 0) = v (ρ (ρ 4 0) 0) := rfl
  have e180 : v 180 = v 180 := rfl
  have e207 : v 207 = v 207 := rfl
  have e183 : v 183 = v 183 := rfl
  have e208 : v 208 = v 208 := rfl
  have hS1 : ρ (ρ 4 2) 0 = ρ 4 0 ∧ ρ (ρ 4 3) 0 = ρ 4 0 := ⟨hQl, hQs⟩
  have hKc : RcK ω v ρ v ρ := fun _ _ _ _ _ h => h
  have ho5 : ∀ o, ω o = 5 → ω o = 5 := fun _ h => h
  have hPc := TrP.rf hQ4.1
  have hr1 : ρ 4 0 = ρ 4 0 ∧ ρ 4 1 = ρ 4 1 ∧ ρ (ρ 4 1) 0 = ρ (ρ 4 1) 0 ∧ ρ (ρ 4 0) 0 = ρ (ρ 4 0) 0 := ⟨rfl, rfl, rfl, rfl⟩
  show wp g X (LF lc_4) (cells) (slots) 360 [(2, 3), (2, 4), (2, 178), (2, 210), (0, i), (3, 0), (3, 0), (3, 0)] [(0, r1)] v ρ Z
  refine r_pop (pc := 360) hX 12 rfl (show (0 : Nat) ≠ 1 by decide) ?_
  refine r_aload_n (pc := 361) hX 13 rfl rfl ?_
  refine r_aload_n (pc := 362) hX 14 rfl rfl ?_
  refine r_iload (pc := 363) hX 15 rfl rfl ?_
  refine r_iconst (pc := 365) hX 16 rfl ?_
  refine r_iadd (pc := 366) hX 17 rfl ?_
  refine e_iald (y := sc (i + 1)) (n := N) (pc := 367) hX 18 rfl hI1.sk hI1.sl (by omega) (by omega) (hI1.s3 _) ?_
  refine r_aload_n (pc := 368) hX 19 rfl rfl ?_
  refine r_iload (pc := 369) hX 20 rfl rfl ?_
  refine r_iconst (pc := 371) hX 21 rfl ?_
  refine r_iadd (pc := 372) hX 22 rfl ?_
  refine e_iald (y := sc (i + 2)) (n := N) (pc := 373) hX 23 rfl hI1.sk hI1.sl (by omega) (by omega) (hI1.s3 _) ?_
  obtain ⟨b1, b2, b3, b4, b5, b6, b7, b8, b9, b10⟩ := hI1.rf
  refine r_callV (as := [(0, sc (i + 1)), (0, sc (i + 2))]) (st := []) (K := 12) (pc := 374) hX 24 rfl mo_m_colour ml_L_74 im_m_colour se_m_colour (c_colour g v ρ Z hI1.gm (sc (i + 1)) (sc (i + 2)) b4 (hsc _) (hsc _)) rfl rfl rfl hI1.gm.1 (by rw [hR]; exact ⟨Nat.le_of_ble_eq_true rfl, Nat.le_of_ble_eq_true rfl⟩) (by rw [hR]; exact ⟨by show cells + 0 ≤ 601024; omega, by show slots + 0 ≤ 7293034; omega⟩) (Nat.le_of_ble_eq_true rfl) (fun o2 v2 ρ2 Z2 hq2 _ => ?_)
  obtain ⟨rfl, rfl, hf2, r2, rfl, hp2⟩ := hq2
  have hI2 := LInv.ref hI1 (Fr.out hf2 (by decide)) (show RfI v2 from ⟨by rw [hf2.2 2 (by decide)]; exact b1, by rw [hf2.2 14 (by decide)]; exact b2, by rw [hf2.2 11 (by decide)]; exact b3, by rw [hf2.1 180 (by decide) (by decide)]; exact b4, by rw [hf2.1 180 (by decide) (by decide), hf2.1 187 (by decide) (by decide), hf2.2 25 (by decide)]; exact b5, by rw [hf2.1 209 (by decide) (by decide), hf2.1 207 (by decide) (by decide)]; exact b6, by rw [hf2.1 195 (by decide) (by decide)]; exact b7, by rw [hf2.1 194 (by decide) (by decide)]; exact b8, by rw [hf2.2 45 (by decide)]; exact b9, by rw [hf2.2 49 (by decide)]; exact b10⟩)
  have z1 : v2 (ρ 4 0) 1 = v (ρ 4 0) 1 := congrFun (Fr.out hf2 (by decide) _ (hI1.lo hI1.w2 (by decide))) 1
  have z2 := hC1.1
  have z3 : v 178 2 = v 178 2 := congrFun e178 2
  have z0 := hE.1
  have y1 : ∀ k, v2 (ρ 4 13) k = v (ρ 4 13) k := fun k => congrFun (Fr.out hf2 (by decide) _ (hI1.lo hI1.w62 (by decide))) k
  have y3 : ∀ k, v 209 k = v 209 k := fun k => congrFun e209 k
  have z4 : v2 178 2 = v 178 2 := hf2.2 2 (by decide)
  have x9 : v2 (ρ 4 0) 9 = v (ρ 4 0) 9 := congrFun (Fr.out hf2 (by decide) _ (hI1.lo hI1.w2 (by decide))) 9
  have hF2 : v2 (ρ 4 0) 9 = v2 178 15 := by
    rw [x9, hF1, hf2.2 15 (by decide), e178]
    exact hF
  have hw3b : ω (ρ (ρ 4 0) 0) = 3 := hI1.ht.rf hI1.w2 (by decide) rfl
  have g2 : v2 (ρ (ρ 4 0) 0) = v (ρ (ρ 4 0) 0) := Fr.out hf2 (by decide) _ (hI1.lo hw3b (by decide))
  have e2 : v2 184 = v 184 := hf2.1 184 (by decide) (by decide)
  have hT2 : EqT v2 ρ := EqT.step hT hr1 e184 e2 e179 (hf2.1 179 (by decide) (by decide)) eB g2 (by omega)
  have hO := Fr.out hf2 (by decide)
  have hK2 := RcK.ref hKc hI1 hO ho5
  have hR2 : EqN v2 ρ := EqN.k1 hQ4 hI.ht hI.w4 (TrP.ref hPc hI1 hI1.w4 hO) hK2 (fun k _ _ => by rw [hf2.1 180 (by decide) (by decide), e180]) ((hf2.1 207 (by decide) (by decide)).trans e207) ((hf2.1 209 (by decide) (by decide)).trans e209) (fun k _ _ => congrFun ((hf2.1 183 (by decide) (by decide)).trans e183) k) ((hf2.1 208 (by decide) (by decide)).trans e208)
  have hE2 : EqI v2 ρ := ⟨by omega, fun k a b => by rw [y1 k, hC1.2 k a b, show v2 209 k = v 209 k from congrFun (hf2.1 209 (by decide) (by decide)) k, y3 k]; exact hE.2 k a b⟩
  show wp g X (LF lc_4) (cells) (slots) 377 [(2, 3), (2, 4), (2, 178), (2, 210), (0, i), (3, 0), (3, 0), (3, 0)] [(0, r2)] v2 ρ Z
  refine r_pop (pc := 377) hX 25 rfl (show (0 : Nat) ≠ 1 by decide) ?_
  refine r_goto (pc := 378) hX 26 (tgt := 1410) rfl (by decide) ?_
  refine wp_wid (k := cells + 20) (n := slots + 150) (by omega) (by omega) ?_
  exact kk _ _ _ _ ⟨⟨⟨⟨hI2, hE2⟩, hT2⟩, hR2, hS1⟩, hF2⟩
set_option maxRecDepth 100000 in
def lc_5 : List (Nat × Instr × Nat) := [(381, .aload_n 1, 1), (382, .aload_n 0, 1), (383, .iload 4, 2), (385, .iconst 1, 1), (386, .iadd, 1), (387, .iaload, 1), (388, .aload_n 0, 1), (389, .iload 4, 2), (391, .iconst 2, 1), (392, .iadd, 1), (393, .iaload, 1), (394, .invokevirtual 75, 3), (397, .pop, 1), (398, .aload_n 2, 1), (399, .aload_n 0, 1), (400, .iload 4, 2), (402, .iconst 1, 1), (403, .iadd, 1), (404, .iaload, 1), (405, .aload_n 0, 1), (406, .iload 4, 2), (408, .iconst 2, 1), (409, .iadd, 1), (410, .iaload, 1), (411, .invokevirtual 78, 3), (414, .pop, 1), (415, .goto 995, 3)]
set_option maxRecDepth 100000 in
theorem lc_5_d : lc_5.all (fun q => decide (decode cL_law q.1 = .ok q.2)) = true := by decide +kernel
set_option maxHeartbeats 4000000 in
set_option maxRecDepth 100000 in
theorem cs_5 {g : Gp} {X : Cx} {N : Int} {sc : Int → Int} (hL : LX g X) (hsc : ∀ k, inR (sc k)) : CaseOk6 g X N sc 381 := by
  intro i cells slots ω v ρ Z hi0 hi1 hc hs hI kk
  obtain ⟨⟨⟨⟨hI, hE⟩, hT⟩, hQ4, hQl, hQs⟩, hF⟩ := hI
  have hw := TrW.of hI.ht hI.w4
  have h8 : 0 ≤ v (ρ 4 6) 1 ∧ v (ρ 4 6) 1 ≤ 8 := hI.ht.rg hw.2.2.2.1 (by decide) rfl
  have hw4 : ω (ρ 4 1) = 4 := hI.ht.rf hI.w4 (by decide) rfl
  have hw3 : ω (ρ (ρ 4 0) 0) = 3 := hI.ht.rf hI.w2 (by decide) rfl
  have hw15 : ω (ρ 4 2) = 15 := hI.ht.rf hI.w4 (by decide) rfl
  have hw21 : ω (ρ 4 3) = 21 := hI.ht.rf hI.w4 (by decide) rfl
  have hX : okX g X (LF lc_5) := okL hL.1 lc_5_d
  have hR := hL.2.1
  show wp g X (LF lc_5) cells slots 381 (lls i) [] v ρ Z
  refine r_aload_n (pc := 381) hX 0 rfl rfl ?_
  refine r_aload_n (pc := 382) hX 1 rfl rfl ?_
  refine r_iload (pc := 383) hX 2 rfl rfl ?_
  refine r_iconst (pc := 385) hX 3 rfl ?_
  refine r_iadd (pc := 386) hX 4 rfl ?_
  refine e_iald (y := sc (i + 1)) (n := N) (pc := 387) hX 5 rfl hI.sk hI.sl (by omega) (by omega) (hI.s3 _) ?_
  refine r_aload_n (pc := 388) hX 6 rfl rfl ?_
  refine r_iload (pc := 389) hX 7 rfl rfl ?_
  refine r_iconst (pc := 391) hX 8 rfl ?_
  refine r_iadd (pc := 392) hX 9 rfl ?_
  refine e_iald (y := sc (i + 2)) (n := N) (pc := 393) hX 10 rfl hI.sk hI.sl (by omega) (by omega) (hI.s3 _) ?_
  refine r_callV (as := [(0, sc (i + 1)), (0, sc (i + 2))]) (st := []) (K := 11) (pc := 394) hX 11 rfl mo_X11_land ml_L_75 im_X11_land se_X11_land (c_X11_land g ω v ρ Z hI.ht 4 hI.w4 (sc (i + 1)) (sc (i + 2)) (hsc _) (hsc _)) rfl rfl rfl hI.k4 (by rw [hR]; exact ⟨Nat.le_of_ble_eq_true rfl, Nat.le_of_ble_eq_true rfl⟩) (by rw [hR]; exact ⟨by show cells + 0 ≤ 601024; omega, by show slots + 0 ≤ 7293034; omega⟩) (Nat.le_of_ble_eq_true rfl) (fun o1 v1 ρ1 Z1 hq1 _ => ?_)
  obtain ⟨rfl, rfl, rfl, r1, rfl, hp1⟩ := hq1
  have hI1 := hI
  have hC1 : EqC (v (ρ 4 0) 1) (v (ρ 4 13)) v ρ := ⟨rfl, fun _ _ _ => rfl⟩
  have hF1 : v (ρ 4 0) 9 = v (ρ 4 0) 9 := rfl
  have e178 : v 178 = v 178 := rfl
  have e209 : v 209 = v 209 := rfl
  have e179 : v 179 = v 179 := rfl
  have e184 : v 184 = v 184 := rfl
  have eB : v (ρ (ρ 4 0) 0) = v (ρ (ρ 4 0) 0) := rfl
  have e180 : v 180 = v 180 := rfl
  have e207 : v 207 = v 207 := rfl
  have e183 : v 183 = v 183 := rfl
  have e208 : v 208 = v 208 := rfl
  have hS1 : ρ (ρ 4 2) 0 = ρ 4 0 ∧ ρ (ρ 4 3) 0 = ρ 4 0 := ⟨hQl, hQs⟩
  have hKc : RcK ω v ρ v ρ := fun _ _ _ _ _ h => h
  have ho5 : ∀ o, ω o = 5 → ω o = 5 := fun _ h => h
  have hPc := TrP.rf hQ4.1
  have hr1 : ρ 4 0 = ρ 4 0 ∧ ρ 4 1 = ρ 4 1 ∧ ρ (ρ 4 1) 0 = ρ (ρ 4 1) 0 ∧ ρ (ρ 4 0) 0 = ρ (ρ 4 0) 0 := ⟨rfl, rfl, rfl, rfl⟩
  show wp g X (LF lc_5) (cells) (slots) 397 [(2, 3), (2, 4), (2, 178), (2, 210), (0, i), (3, 0), (3, 0), (3, 0)] [(0, r1)] v ρ Z
  refine r_pop (pc := 397) hX 12 rfl (show (0 : Nat) ≠ 1 by decide) ?_
  refine r_aload_n (pc := 398) hX 13 rfl rfl ?_
  refine r_aload_n (pc := 399) hX 14 rfl rfl ?_
  refine r_iload (pc := 400) hX 15 rfl rfl ?_
  refine r_iconst (pc := 402) hX 16 rfl ?_
  refine r_iadd (pc := 403) hX 17 rfl ?_
  refine e_iald (y := sc (i + 1)) (n := N) (pc := 404) hX 18 rfl hI1.sk hI1.sl (by omega) (by omega) (hI1.s3 _) ?_
  refine r_aload_n (pc := 405) hX 19 rfl rfl ?_
  refine r_iload (pc := 406) hX 20 rfl rfl ?_
  refine r_iconst (pc := 408) hX 21 rfl ?_
  refine r_iadd (pc := 409) hX 22 rfl ?_
  refine e_iald (y := sc (i + 2)) (n := N) (pc := 410) hX 23 rfl hI1.sk hI1.sl (by omega) (by omega) (hI1.s3 _) ?_
  obtain ⟨b1, b2, b3, b4, b5, b6, b7, b8, b9, b10⟩ := hI1.rf
  refine r_callV (as := [(0, sc (i + 1)), (0, sc (i + 2))]) (st := []) (K := 12) (pc := 411) hX 24 rfl mo_m_land ml_L_78 im_m_land se_m_land (c_land g v ρ Z hI1.gm (sc (i + 1)) (sc (i + 2)) b4 (hsc _) (hsc _)) rfl rfl rfl hI1.gm.1 (by rw [hR]; exact ⟨Nat.le_of_ble_eq_true rfl, Nat.le_of_ble_eq_true rfl⟩) (by rw [hR]; exact ⟨by show cells + 0 ≤ 601024; omega, by show slots + 0 ≤ 7293034; omega⟩) (Nat.le_of_ble_eq_true rfl) (fun o2 v2 ρ2 Z2 hq2 _ => ?_)
  obtain ⟨rfl, rfl, hf2, r2, rfl, hp2⟩ := hq2
  have hI2 := LInv.ref hI1 (Fr.out hf2 (by decide)) (show RfI v2 from ⟨by rw [hf2.2 2 (by decide)]; exact b1, by rw [hf2.2 14 (by decide)]; exact b2, by rw [hf2.2 11 (by decide)]; exact b3, by rw [hf2.1 180 (by decide) (by decide)]; exact b4, by rw [hf2.1 180 (by decide) (by decide), hf2.1 187 (by decide) (by decide), hf2.2 25 (by decide)]; exact b5, by rw [hf2.1 209 (by decide) (by decide), hf2.1 207 (by decide) (by decide)]; exact b6, by rw [hf2.1 195 (by decide) (by decide)]; exact b7, by rw [hf2.1 194 (by decide) (by decide)]; exact b8, by rw [hf2.2 45 (by decide)]; exact b9, by rw [hf2.2 49 (by decide)]; exact b10⟩)
  have z1 : v2 (ρ 4 0) 1 = v (ρ 4 0) 1 := congrFun (Fr.out hf2 (by decide) _ (hI1.lo hI1.w2 (by decide))) 1
  have z2 := hC1.1
  have z3 : v 178 2 = v 178 2 := congrFun e178 2
  have z0 := hE.1
  have y1 : ∀ k, v2 (ρ 4 13) k = v (ρ 4 13) k := fun k => congrFun (Fr.out hf2 (by decide) _ (hI1.lo hI1.w62 (by decide))) k
  have y3 : ∀ k, v 209 k = v 209 k := fun k => congrFun e209 k
  have z4 : v2 178 2 = v 178 2 := hf2.2 2 (by decide)
  have x9 : v2 (ρ 4 0) 9 = v (ρ 4 0) 9 := congrFun (Fr.out hf2 (by decide) _ (hI1.lo hI1.w2 (by decide))) 9
  have hF2 : v2 (ρ 4 0) 9 = v2 178 15 := by
    rw [x9, hF1, hf2.2 15 (by decide), e178]
    exact hF
  have hw3b : ω (ρ (ρ 4 0) 0) = 3 := hI1.ht.rf hI1.w2 (by decide) rfl
  have g2 : v2 (ρ (ρ 4 0) 0) = v (ρ (ρ 4 0) 0) := Fr.out hf2 (by decide) _ (hI1.lo hw3b (by decide))
  have e2 : v2 184 = v 184 := hf2.1 184 (by decide) (by decide)
  have hT2 : EqT v2 ρ := EqT.step hT hr1 e184 e2 e179 (hf2.1 179 (by decide) (by decide)) eB g2 (by omega)
  have hO := Fr.out hf2 (by decide)
  have hK2 := RcK.ref hKc hI1 hO ho5
  have hR2 : EqN v2 ρ := EqN.k1 hQ4 hI.ht hI.w4 (TrP.ref hPc hI1 hI1.w4 hO) hK2 (fun k _ _ => by rw [hf2.1 180 (by decide) (by decide), e180]) ((hf2.1 207 (by decide) (by decide)).trans e207) ((hf2.1 209 (by decide) (by decide)).trans e209) (fun k _ _ => congrFun ((hf2.1 183 (by decide) (by decide)).trans e183) k) ((hf2.1 208 (by decide) (by decide)).trans e208)
  have hE2 : EqI v2 ρ := ⟨by omega, fun k a b => by rw [y1 k, hC1.2 k a b, show v2 209 k = v 209 k from congrFun (hf2.1 209 (by decide) (by decide)) k, y3 k]; exact hE.2 k a b⟩
  show wp g X (LF lc_5) (cells) (slots) 414 [(2, 3), (2, 4), (2, 178), (2, 210), (0, i), (3, 0), (3, 0), (3, 0)] [(0, r2)] v2 ρ Z
  refine r_pop (pc := 414) hX 25 rfl (show (0 : Nat) ≠ 1 by decide) ?_
  refine r_goto (pc := 415) hX 26 (tgt := 1410) rfl (by decide) ?_
  refine wp_wid (k := cells + 20) (n := slots + 150) (by omega) (by omega) ?_
  exact kk _ _ _ _ ⟨⟨⟨⟨hI2, hE2⟩, hT2⟩, hR2, hS1⟩, hF2⟩
set_option maxRecDepth 100000 in
def lc_6 : List (Nat × Instr × Nat) := [(418, .aload_n 1, 1), (419, .aload_n 0, 1), (420, .iload 4, 2), (422, .iconst 1, 1), (423, .iadd, 1), (424, .iaload, 1), (425, .aload_n 0, 1), (426, .iload 4, 2), (428, .iconst 2, 1), (429, .iadd, 1), (430, .iaload, 1), (431, .aload_n 3, 1), (432, .invokestatic 79, 3), (435, .istore 5, 2), (437, .aload_n 2, 1), (438, .aload_n 0, 1), (439, .iload 4, 2), (441, .iconst 1, 1), (442, .iadd, 1), (443, .iaload, 1), (444, .aload_n 0, 1), (445, .iload 4, 2), (447, .iconst 2, 1), (448, .iadd, 1), (449, .iaload, 1), (450, .invokevirtual 84, 3), (453, .istore 6, 2), (455, .goto 955, 3)]
set_option maxRecDepth 100000 in
theorem lc_6_d : lc_6.all (fun q => decide (decode cL_law q.1 = .ok q.2)) = true := by decide +kernel
set_option maxHeartbeats 4000000 in
set_option maxRecDepth 100000 in
theorem cs_6 {g : Gp} {X : Cx} {N : Int} {sc : Int → Int} (hL : LX g X) (hsc : ∀ k, inR (sc k)) : CaseOk6 g X N sc 418 := by
  intro i cells slots ω v ρ Z hi0 hi1 hc hs hI kk
  obtain ⟨⟨⟨⟨hI, hE⟩, hT⟩, hQ4, hQl, hQs⟩, hF⟩ := hI
  have hw := TrW.of hI.ht hI.w4
  have h8 : 0 ≤ v (ρ 4 6) 1 ∧ v (ρ 4 6) 1 ≤ 8 := hI.ht.rg hw.2.2.2.1 (by decide) rfl
  have hw4 : ω (ρ 4 1) = 4 := hI.ht.rf hI.w4 (by decide) rfl
  have hw3 : ω (ρ (ρ 4 0) 0) = 3 := hI.ht.rf hI.w2 (by decide) rfl
  have hw15 : ω (ρ 4 2) = 15 := hI.ht.rf hI.w4 (by decide) rfl
  have hw21 : ω (ρ 4 3) = 21 := hI.ht.rf hI.w4 (by decide) rfl
  have hX : okX g X (LF lc_6) := okL hL.1 lc_6_d
  have hR := hL.2.1
  show wp g X (LF lc_6) cells slots 418 (lls i) [] v ρ Z
  refine r_aload_n (pc := 418) hX 0 rfl rfl ?_
  refine r_aload_n (pc := 419) hX 1 rfl rfl ?_
  refine r_iload (pc := 420) hX 2 rfl rfl ?_
  refine r_iconst (pc := 422) hX 3 rfl ?_
  refine r_iadd (pc := 423) hX 4 rfl ?_
  refine e_iald (y := sc (i + 1)) (n := N) (pc := 424) hX 5 rfl hI.sk hI.sl (by omega) (by omega) (hI.s3 _) ?_
  refine r_aload_n (pc := 425) hX 6 rfl rfl ?_
  refine r_iload (pc := 426) hX 7 rfl rfl ?_
  refine r_iconst (pc := 428) hX 8 rfl ?_
  refine r_iadd (pc := 429) hX 9 rfl ?_
  refine e_iald (y := sc (i + 2)) (n := N) (pc := 430) hX 10 rfl hI.sk hI.sl (by omega) (by omega) (hI.s3 _) ?_
  refine r_aload_n (pc := 431) hX 11 rfl rfl ?_
  refine r_callSH (as := [(2, 4), (0, sc (i + 1)), (0, sc (i + 2)), (2, 210)]) (st := []) (pc := 432) hX 12 hL.2.2.2 rfl mo_L_player ml_L_79 stt_L_player (c_LG_player g ω v ρ Z hI.ht 4 hI.w4 (sc (i + 1)) (sc (i + 2)) 210 hI.o0 hI.ok hI.ol (by decide) hL.2.2.1 (by have := hI.nz; omega) (hsc _) (hsc _)) rfl (by rw [hR]; exact ⟨Nat.le_of_ble_eq_true rfl, Nat.le_of_ble_eq_true rfl⟩) (by rw [hR]; exact ⟨by show cells + 2 ≤ 601024; omega, by show slots + 12 ≤ 7293034; omega⟩) (Nat.le_of_ble_eq_true rfl) (fun o1 v1 ρ1 Z1 hq1 _ => ?_)
  obtain ⟨rfl, hf1, hg1, hh1, r1, rfl, hp1⟩ := hq1
  have hI1 := LInv.cls hI (fun q h n => hf1 q (by rw [h]; decide) n) (fun q h => hg1 q (by rw [h]; decide)) hh1
  have hC1 : EqC (v (ρ 4 0) 1) (v (ρ 4 13)) v1 ρ1 := EqC.fr (congrFun (hg1 4 (by rw [hI.w4]; decide)) 0) (congrFun (hg1 4 (by rw [hI.w4]; decide)) 13) (congrFun (hf1 (ρ 4 0) (by rw [hI.w2]; decide) (by have := hI.lt hI.w2 (by decide); omega)) 1) (fun k _ _ => congrFun (hf1 (ρ 4 13) (by rw [hI.w62]; decide) (by have := hI.lt hI.w62 (by decide); omega)) k)
  have e178 : v1 178 = v 178 := hf1 178 (by rw [hI.wz (r := 178) (by decide) (by decide)]; decide) (by decide)
  have e209 : v1 209 = v 209 := hf1 209 (by rw [hI.wz (r := 209) (by decide) (by decide)]; decide) (by decide)
  have e179 : v1 179 = v 179 := hf1 179 (by rw [hI.wz (r := 179) (by decide) (by decide)]; decide) (by decide)
  have e184 : v1 184 = v 184 := hf1 184 (by rw [hI.wz (r := 184) (by decide) (by decide)]; decide) (by decide)
  have e180 : v1 180 = v 180 := hf1 180 (by rw [hI.wz (r := 180) (by decide) (by decide)]; decide) (by decide)
  have e207 : v1 207 = v 207 := hf1 207 (by rw [hI.wz (r := 207) (by decide) (by decide)]; decide) (by decide)
  have e183 : v1 183 = v 183 := hf1 183 (by rw [hI.wz (r := 183) (by decide) (by decide)]; decide) (by decide)
  have e208 : v1 208 = v 208 := hf1 208 (by rw [hI.wz (r := 208) (by decide) (by decide)]; decide) (by decide)
  have eB : v1 (ρ (ρ 4 0) 0) = v (ρ (ρ 4 0) 0) := hf1 _ (by rw [hw3]; decide) (by have := hI.lt hw3 (by decide); omega)
  have hr1 : ρ1 4 0 = ρ 4 0 ∧ ρ1 4 1 = ρ 4 1 ∧ ρ1 (ρ 4 1) 0 = ρ (ρ 4 1) 0 ∧ ρ1 (ρ 4 0) 0 = ρ (ρ 4 0) 0 := ⟨congrFun (hg1 4 (by rw [hI.w4]; decide)) 0, congrFun (hg1 4 (by rw [hI.w4]; decide)) 1, congrFun (hg1 _ (by rw [hw4]; decide)) 0, congrFun (hg1 _ (by rw [hI.w2]; decide)) 0⟩
  have hKc : RcK ω v ρ v1 ρ1 := fun o L i s h5 h => (h.frO hI.ht h5 (fun r hr => hf1 r (inW_K hr) (by have := hI.lt (c := ω r) rfl (inW_0 hr); omega))).rho (hg1 o (by rw [h5]; decide)) (hg1 _ (by rw [show ω (ρ o 5) = 12 from hI.ht.rf h5 (by decide) rfl]; decide))
  have ho5 : ∀ o, ω o = 5 → ω o = 5 := fun _ h => h
  have hS1 : ρ1 (ρ1 4 2) 0 = ρ1 4 0 ∧ ρ1 (ρ1 4 3) 0 = ρ1 4 0 := ⟨tapS (congrFun (hg1 4 (by rw [hI.w4]; decide)) 0) (congrFun (hg1 4 (by rw [hI.w4]; decide)) 2) (congrFun (hg1 _ (by rw [hw15]; decide)) 0) hQl, tapS (congrFun (hg1 4 (by rw [hI.w4]; decide)) 0) (congrFun (hg1 4 (by rw [hI.w4]; decide)) 3) (congrFun (hg1 _ (by rw [hw21]; decide)) 0) hQs⟩
  have hF1 : v1 (ρ1 4 0) 9 = v (ρ 4 0) 9 := by
    rw [show ρ1 4 0 = ρ 4 0 from congrFun (hg1 4 (by rw [hI.w4]; decide)) 0]
    exact congrFun (hf1 (ρ 4 0) (by rw [hI.w2]; decide) (by have := hI.lt hI.w2 (by decide); omega)) 9
  have hPc := TrI.old (ρ' := ρ1) (v' := v1) hQ4.1 hw h8.2 (fun r h9 => hg1 r (by rcases h9 with h9 | h9 | h9 | h9 | h9 | h9 <;> rw [h9] <;> decide)) (congrFun (hf1 (ρ 4 6) (by rw [hw.2.2.2.1]; decide) (by have := hI.lt hw.2.2.2.1 (by decide); omega)) 1)
  show wp g X (LF lc_6) (cells + 2) (slots + 12) 435 [(2, 3), (2, 4), (2, 178), (2, 210), (0, i), (3, 0), (3, 0), (3, 0)] [(0, r1)] v1 ρ1 Z
  refine r_istore (ls' := [(2, 3), (2, 4), (2, 178), (2, 210), (0, i), (0, r1), (3, 0), (3, 0)]) (pc := 435) hX 13 rfl (by decide) rfl ?_
  refine r_aload_n (pc := 437) hX 14 rfl rfl ?_
  refine r_aload_n (pc := 438) hX 15 rfl rfl ?_
  refine r_iload (pc := 439) hX 16 rfl rfl ?_
  refine r_iconst (pc := 441) hX 17 rfl ?_
  refine r_iadd (pc := 442) hX 18 rfl ?_
  refine e_iald (y := sc (i + 1)) (n := N) (pc := 443) hX 19 rfl hI1.sk hI1.sl (by omega) (by omega) (hI1.s3 _) ?_
  refine r_aload_n (pc := 444) hX 20 rfl rfl ?_
  refine r_iload (pc := 445) hX 21 rfl rfl ?_
  refine r_iconst (pc := 447) hX 22 rfl ?_
  refine r_iadd (pc := 448) hX 23 rfl ?_
  refine e_iald (y := sc (i + 2)) (n := N) (pc := 449) hX 24 rfl hI1.sk hI1.sl (by omega) (by omega) (hI1.s3 _) ?_
  obtain ⟨b1, b2, b3, b4, b5, b6, b7, b8, b9, b10⟩ := hI1.rf
  refine r_callV (as := [(0, sc (i + 1)), (0, sc (i + 2))]) (st := []) (K := 12) (pc := 450) hX 25 rfl mo_m_player ml_L_84 im_m_player se_m_player (c_player g v1 ρ1 Z hI1.gm (sc (i + 1)) (sc (i + 2)) b4 (hsc _) (hsc _)) rfl rfl rfl hI1.gm.1 (by rw [hR]; exact ⟨Nat.le_of_ble_eq_true rfl, Nat.le_of_ble_eq_true rfl⟩) (by rw [hR]; exact ⟨by show cells + 2 + 0 ≤ 601024; omega, by show slots + 12 + 0 ≤ 7293034; omega⟩) (Nat.le_of_ble_eq_true rfl) (fun o2 v2 ρ2 Z2 hq2 _ => ?_)
  obtain ⟨rfl, rfl, hf2, r2, rfl, hp2⟩ := hq2
  have hI2 := LInv.ref hI1 (Fr.out hf2 (by decide)) (show RfI v2 from ⟨by rw [hf2.2 2 (by decide)]; exact b1, by rw [hf2.2 14 (by decide)]; exact b2, by rw [hf2.2 11 (by decide)]; exact b3, by rw [hf2.1 180 (by decide) (by decide)]; exact b4, by rw [hf2.1 180 (by decide) (by decide), hf2.1 187 (by decide) (by decide), hf2.2 25 (by decide)]; exact b5, by rw [hf2.1 209 (by decide) (by decide), hf2.1 207 (by decide) (by decide)]; exact b6, by rw [hf2.1 195 (by decide) (by decide)]; exact b7, by rw [hf2.1 194 (by decide) (by decide)]; exact b8, by rw [hf2.2 45 (by decide)]; exact b9, by rw [hf2.2 49 (by decide)]; exact b10⟩)
  have z1 : v2 (ρ1 4 0) 1 = v1 (ρ1 4 0) 1 := congrFun (Fr.out hf2 (by decide) _ (hI1.lo hI1.w2 (by decide))) 1
  have z2 := hC1.1
  have z3 : v1 178 2 = v 178 2 := congrFun e178 2
  have z0 := hE.1
  have y1 : ∀ k, v2 (ρ1 4 13) k = v1 (ρ1 4 13) k := fun k => congrFun (Fr.out hf2 (by decide) _ (hI1.lo hI1.w62 (by decide))) k
  have y3 : ∀ k, v1 209 k = v 209 k := fun k => congrFun e209 k
  have z4 : v2 178 2 = v1 178 2 := hf2.2 2 (by decide)
  have x9 : v2 (ρ1 4 0) 9 = v1 (ρ1 4 0) 9 := congrFun (Fr.out hf2 (by decide) _ (hI1.lo hI1.w2 (by decide))) 9
  have hF2 : v2 (ρ1 4 0) 9 = v2 178 15 := by
    rw [x9, hF1, hf2.2 15 (by decide), e178]
    exact hF
  have hw3b : ω (ρ1 (ρ1 4 0) 0) = 3 := hI1.ht.rf hI1.w2 (by decide) rfl
  have g2 : v2 (ρ1 (ρ1 4 0) 0) = v1 (ρ1 (ρ1 4 0) 0) := Fr.out hf2 (by decide) _ (hI1.lo hw3b (by decide))
  have e2 : v2 184 = v1 184 := hf2.1 184 (by decide) (by decide)
  have hT2 : EqT v2 ρ1 := EqT.step hT hr1 e184 e2 e179 (hf2.1 179 (by decide) (by decide)) eB g2 (by omega)
  have hO := Fr.out hf2 (by decide)
  have hK2 := RcK.ref hKc hI1 hO ho5
  have hR2 : EqN v2 ρ1 := EqN.k1 hQ4 hI.ht hI.w4 (TrP.ref hPc hI1 hI1.w4 hO) hK2 (fun k _ _ => by rw [hf2.1 180 (by decide) (by decide), e180]) ((hf2.1 207 (by decide) (by decide)).trans e207) ((hf2.1 209 (by decide) (by decide)).trans e209) (fun k _ _ => congrFun ((hf2.1 183 (by decide) (by decide)).trans e183) k) ((hf2.1 208 (by decide) (by decide)).trans e208)
  have hE2 : EqI v2 ρ1 := ⟨by omega, fun k a b => by rw [y1 k, hC1.2 k a b, show v2 209 k = v1 209 k from congrFun (hf2.1 209 (by decide) (by decide)) k, y3 k]; exact hE.2 k a b⟩
  show wp g X (LF lc_6) (cells + 2) (slots + 12) 453 [(2, 3), (2, 4), (2, 178), (2, 210), (0, i), (0, r1), (3, 0), (3, 0)] [(0, r2)] v2 ρ1 Z
  refine r_istore (ls' := [(2, 3), (2, 4), (2, 178), (2, 210), (0, i), (0, r1), (0, r2), (3, 0)]) (pc := 453) hX 26 rfl (by decide) rfl ?_
  refine r_goto (pc := 455) hX 27 (tgt := 1410) rfl (by decide) ?_
  refine wp_wid (k := cells + 20) (n := slots + 150) (by omega) (by omega) ?_
  refine r_wk (ls' := lls i) ⟨Or.inr rfl, Or.inr rfl, Or.inr rfl, Or.inr rfl, Or.inr rfl, Or.inl rfl, Or.inl rfl, Or.inr rfl, trivial⟩ ?_
  exact kk _ _ _ _ ⟨⟨⟨⟨hI2, hE2⟩, hT2⟩, hR2, hS1⟩, hF2⟩
