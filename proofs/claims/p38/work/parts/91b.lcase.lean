set_option maxRecDepth 100000 in
def lc_7 : List (Nat × Instr × Nat) := [(458, .aload_n 1, 1), (459, .aload_n 0, 1), (460, .iload 4, 2), (462, .iconst 1, 1), (463, .iadd, 1), (464, .iaload, 1), (465, .invokevirtual 85, 3), (468, .pop, 1), (469, .aload_n 2, 1), (470, .aload_n 0, 1), (471, .iload 4, 2), (473, .iconst 1, 1), (474, .iadd, 1), (475, .iaload, 1), (476, .invokevirtual 89, 3), (479, .pop, 1), (480, .goto 930, 3)]
set_option maxRecDepth 100000 in
theorem lc_7_d : lc_7.all (fun q => decide (decode cL_law q.1 = .ok q.2)) = true := by decide +kernel
set_option maxHeartbeats 4000000 in
set_option maxRecDepth 100000 in
theorem cs_7 {g : Gp} {X : Cx} {N : Int} {sc : Int → Int} (hL : LX g X) (hsc : ∀ k, inR (sc k)) : CaseOk5 g X N sc 458 := by
  intro i cells slots ω v ρ Z hi0 hi1 hc hs hI kk
  obtain ⟨⟨⟨hI, hE⟩, hT⟩, hQ4, hQl, hQs⟩ := hI
  have hw := TrW.of hI.ht hI.w4
  have h8 : 0 ≤ v (ρ 4 6) 1 ∧ v (ρ 4 6) 1 ≤ 8 := hI.ht.rg hw.2.2.2.1 (by decide) rfl
  have hw4 : ω (ρ 4 1) = 4 := hI.ht.rf hI.w4 (by decide) rfl
  have hw3 : ω (ρ (ρ 4 0) 0) = 3 := hI.ht.rf hI.w2 (by decide) rfl
  have hw15 : ω (ρ 4 2) = 15 := hI.ht.rf hI.w4 (by decide) rfl
  have hw21 : ω (ρ 4 3) = 21 := hI.ht.rf hI.w4 (by decide) rfl
  have hX : okX g X (LF lc_7) := okL hL.1 lc_7_d
  have hR := hL.2.1
  show wp g X (LF lc_7) cells slots 458 (lls i) [] v ρ Z
  refine r_aload_n (pc := 458) hX 0 rfl rfl ?_
  refine r_aload_n (pc := 459) hX 1 rfl rfl ?_
  refine r_iload (pc := 460) hX 2 rfl rfl ?_
  refine r_iconst (pc := 462) hX 3 rfl ?_
  refine r_iadd (pc := 463) hX 4 rfl ?_
  refine e_iald (y := sc (i + 1)) (n := N) (pc := 464) hX 5 rfl hI.sk hI.sl (by omega) (by omega) (hI.s3 _) ?_
  refine r_callV (as := [(0, sc (i + 1))]) (st := []) (K := 11) (pc := 465) hX 6 rfl mo_X11_now ml_L_85 im_X11_now se_X11_now (c_X11_now g ω v ρ Z hI.ht 4 hI.w4 (sc (i + 1)) (hsc _)) rfl rfl rfl hI.k4 (by rw [hR]; exact ⟨Nat.le_of_ble_eq_true rfl, Nat.le_of_ble_eq_true rfl⟩) (by rw [hR]; exact ⟨by show cells + 0 ≤ 601024; omega, by show slots + 0 ≤ 7293034; omega⟩) (Nat.le_of_ble_eq_true rfl) (fun o1 v1 ρ1 Z1 hq1 _ => ?_)
  obtain ⟨rfl, rfl, rfl, r1, rfl, hp1⟩ := hq1
  have hI1 := hI
  have hC1 : EqC (v (ρ 4 0) 1) (v (ρ 4 13)) v ρ := ⟨rfl, fun _ _ _ => rfl⟩
  have e178 : v 178 = v 178 := rfl
  have e209 : v 209 = v 209 := rfl
  have e179 : v 179 = v 179 := rfl
  have e184 : v 184 = v 184 := rfl
  have eB : v (ρ (ρ 4 0) 0) = v (ρ (ρ 4 0) 0) := rfl
  have e180 : v 180 = v 180 := rfl
  have e207 : v 207 = v 207 := rfl
  have e183 : v 183 = v 183 := rfl
  have e208 : v 208 = v 208 := rfl
  have hS1 : ρ (ρ 4 2) 0 = ρ 4 0 ∧ ρ (ρ 4 3) 0 = ρ 4 0 := ⟨hQl, hQs⟩
  have hKc : RcK ω v ρ v ρ := fun _ _ _ _ _ h => h
  have ho5 : ∀ o, ω o = 5 → ω o = 5 := fun _ h => h
  have hPc := TrP.rf hQ4.1
  have hr1 : ρ 4 0 = ρ 4 0 ∧ ρ 4 1 = ρ 4 1 ∧ ρ (ρ 4 1) 0 = ρ (ρ 4 1) 0 ∧ ρ (ρ 4 0) 0 = ρ (ρ 4 0) 0 := ⟨rfl, rfl, rfl, rfl⟩
  show wp g X (LF lc_7) (cells) (slots) 468 [(2, 3), (2, 4), (2, 178), (2, 210), (0, i), (3, 0), (3, 0), (3, 0)] [(0, r1)] v ρ Z
  refine r_pop (pc := 468) hX 7 rfl (show (0 : Nat) ≠ 1 by decide) ?_
  refine r_aload_n (pc := 469) hX 8 rfl rfl ?_
  refine r_aload_n (pc := 470) hX 9 rfl rfl ?_
  refine r_iload (pc := 471) hX 10 rfl rfl ?_
  refine r_iconst (pc := 473) hX 11 rfl ?_
  refine r_iadd (pc := 474) hX 12 rfl ?_
  refine e_iald (y := sc (i + 1)) (n := N) (pc := 475) hX 13 rfl hI1.sk hI1.sl (by omega) (by omega) (hI1.s3 _) ?_
  obtain ⟨b1, b2, b3, b4, b5, b6, b7, b8, b9, b10⟩ := hI1.rf
  refine r_callV (as := [(0, sc (i + 1))]) (st := []) (K := 12) (pc := 476) hX 14 rfl mo_m_now ml_L_89 im_m_now se_m_now (c_now g v ρ Z hI1.gm (sc (i + 1)) b4 (hsc _)) rfl rfl rfl hI1.gm.1 (by rw [hR]; exact ⟨Nat.le_of_ble_eq_true rfl, Nat.le_of_ble_eq_true rfl⟩) (by rw [hR]; exact ⟨by show cells + 0 ≤ 601024; omega, by show slots + 0 ≤ 7293034; omega⟩) (Nat.le_of_ble_eq_true rfl) (fun o2 v2 ρ2 Z2 hq2 _ => ?_)
  obtain ⟨rfl, rfl, hf2, r2, rfl, hp2⟩ := hq2
  have hI2 := LInv.ref hI1 (Fr.out hf2 (by decide)) (show RfI v2 from ⟨by rw [hf2.2 2 (by decide)]; exact b1, by rw [hf2.2 14 (by decide)]; exact b2, by rw [hf2.2 11 (by decide)]; exact b3, by rw [hf2.1 180 (by decide) (by decide)]; exact b4, by rw [hf2.1 180 (by decide) (by decide), hf2.1 187 (by decide) (by decide), hf2.2 25 (by decide)]; exact b5, by rw [hf2.1 209 (by decide) (by decide), hf2.1 207 (by decide) (by decide)]; exact b6, by rw [hf2.1 195 (by decide) (by decide)]; exact b7, by rw [hf2.1 194 (by decide) (by decide)]; exact b8, by rw [hf2.2 45 (by decide)]; exact b9, by rw [hf2.2 49 (by decide)]; exact b10⟩)
  have z1 : v2 (ρ 4 0) 1 = v (ρ 4 0) 1 := congrFun (Fr.out hf2 (by decide) _ (hI1.lo hI1.w2 (by decide))) 1
  have z2 := hC1.1
  have z3 : v 178 2 = v 178 2 := congrFun e178 2
  have z0 := hE.1
  have y1 : ∀ k, v2 (ρ 4 13) k = v (ρ 4 13) k := fun k => congrFun (Fr.out hf2 (by decide) _ (hI1.lo hI1.w62 (by decide))) k
  have y3 : ∀ k, v 209 k = v 209 k := fun k => congrFun e209 k
  have z4 : v2 178 2 = v 178 2 := hf2.2 2 (by decide)
  have hw3b : ω (ρ (ρ 4 0) 0) = 3 := hI1.ht.rf hI1.w2 (by decide) rfl
  have g2 : v2 (ρ (ρ 4 0) 0) = v (ρ (ρ 4 0) 0) := Fr.out hf2 (by decide) _ (hI1.lo hw3b (by decide))
  have e2 : v2 184 = v 184 := hf2.1 184 (by decide) (by decide)
  have hT2 : EqT v2 ρ := EqT.step hT hr1 e184 e2 e179 (hf2.1 179 (by decide) (by decide)) eB g2 (by omega)
  have hO := Fr.out hf2 (by decide)
  have hK2 := RcK.ref hKc hI1 hO ho5
  have hR2 : EqN v2 ρ := EqN.k1 hQ4 hI.ht hI.w4 (TrP.ref hPc hI1 hI1.w4 hO) hK2 (fun k _ _ => by rw [hf2.1 180 (by decide) (by decide), e180]) ((hf2.1 207 (by decide) (by decide)).trans e207) ((hf2.1 209 (by decide) (by decide)).trans e209) (fun k _ _ => congrFun ((hf2.1 183 (by decide) (by decide)).trans e183) k) ((hf2.1 208 (by decide) (by decide)).trans e208)
  have hE2 : EqI v2 ρ := ⟨by omega, fun k a b => by rw [y1 k, hC1.2 k a b, show v2 209 k = v 209 k from congrFun (hf2.1 209 (by decide) (by decide)) k, y3 k]; exact hE.2 k a b⟩
  show wp g X (LF lc_7) (cells) (slots) 479 [(2, 3), (2, 4), (2, 178), (2, 210), (0, i), (3, 0), (3, 0), (3, 0)] [(0, r2)] v2 ρ Z
  refine r_pop (pc := 479) hX 15 rfl (show (0 : Nat) ≠ 1 by decide) ?_
  refine r_goto (pc := 480) hX 16 (tgt := 1410) rfl (by decide) ?_
  refine wp_wid (k := cells + 20) (n := slots + 150) (by omega) (by omega) ?_
  exact kk _ _ _ _ ⟨⟨⟨hI2, hE2⟩, hT2⟩, hR2, hS1⟩
set_option maxRecDepth 100000 in
def lc_8 : List (Nat × Instr × Nat) := [(483, .aload_n 1, 1), (484, .aload_n 0, 1), (485, .iload 4, 2), (487, .iconst 1, 1), (488, .iadd, 1), (489, .iaload, 1), (490, .aload_n 0, 1), (491, .iload 4, 2), (493, .iconst 2, 1), (494, .iadd, 1), (495, .iaload, 1), (496, .invokevirtual 90, 3), (499, .pop, 1), (500, .aload_n 2, 1), (501, .aload_n 0, 1), (502, .iload 4, 2), (504, .iconst 1, 1), (505, .iadd, 1), (506, .iaload, 1), (507, .aload_n 0, 1), (508, .iload 4, 2), (510, .iconst 2, 1), (511, .iadd, 1), (512, .iaload, 1), (513, .invokevirtual 93, 3), (516, .pop, 1), (517, .goto 893, 3)]
set_option maxRecDepth 100000 in
theorem lc_8_d : lc_8.all (fun q => decide (decode cL_law q.1 = .ok q.2)) = true := by decide +kernel
set_option maxHeartbeats 4000000 in
set_option maxRecDepth 100000 in
theorem cs_8 {g : Gp} {X : Cx} {N : Int} {sc : Int → Int} (hL : LX g X) (hsc : ∀ k, inR (sc k)) : CaseOk5 g X N sc 483 := by
  intro i cells slots ω v ρ Z hi0 hi1 hc hs hI kk
  obtain ⟨⟨⟨hI, hE⟩, hT⟩, hQ4, hQl, hQs⟩ := hI
  have hw := TrW.of hI.ht hI.w4
  have h8 : 0 ≤ v (ρ 4 6) 1 ∧ v (ρ 4 6) 1 ≤ 8 := hI.ht.rg hw.2.2.2.1 (by decide) rfl
  have hw4 : ω (ρ 4 1) = 4 := hI.ht.rf hI.w4 (by decide) rfl
  have hw3 : ω (ρ (ρ 4 0) 0) = 3 := hI.ht.rf hI.w2 (by decide) rfl
  have hw15 : ω (ρ 4 2) = 15 := hI.ht.rf hI.w4 (by decide) rfl
  have hw21 : ω (ρ 4 3) = 21 := hI.ht.rf hI.w4 (by decide) rfl
  have hX : okX g X (LF lc_8) := okL hL.1 lc_8_d
  have hR := hL.2.1
  show wp g X (LF lc_8) cells slots 483 (lls i) [] v ρ Z
  refine r_aload_n (pc := 483) hX 0 rfl rfl ?_
  refine r_aload_n (pc := 484) hX 1 rfl rfl ?_
  refine r_iload (pc := 485) hX 2 rfl rfl ?_
  refine r_iconst (pc := 487) hX 3 rfl ?_
  refine r_iadd (pc := 488) hX 4 rfl ?_
  refine e_iald (y := sc (i + 1)) (n := N) (pc := 489) hX 5 rfl hI.sk hI.sl (by omega) (by omega) (hI.s3 _) ?_
  refine r_aload_n (pc := 490) hX 6 rfl rfl ?_
  refine r_iload (pc := 491) hX 7 rfl rfl ?_
  refine r_iconst (pc := 493) hX 8 rfl ?_
  refine r_iadd (pc := 494) hX 9 rfl ?_
  refine e_iald (y := sc (i + 2)) (n := N) (pc := 495) hX 10 rfl hI.sk hI.sl (by omega) (by omega) (hI.s3 _) ?_
  refine r_callV (as := [(0, sc (i + 1)), (0, sc (i + 2))]) (st := []) (K := 11) (pc := 496) hX 11 rfl mo_X11_take ml_L_90 im_X11_take se_X11_take (c_X11_takeG g ω v ρ Z hI.ht 4 hI.w4 (sc (i + 1)) (sc (i + 2)) hQ4.1 (hsc _) (hsc _)) rfl rfl rfl hI.k4 (by rw [hR]; exact ⟨Nat.le_of_ble_eq_true rfl, Nat.le_of_ble_eq_true rfl⟩) (by rw [hR]; exact ⟨by show cells + 0 ≤ 601024; omega, by show slots + 0 ≤ 7293034; omega⟩) (Nat.le_of_ble_eq_true rfl) (fun o1 v1 ρ1 Z1 hq1 _ => ?_)
  obtain ⟨rfl, hf1, hg1, hh1, r1, rfl, hp1⟩ := hq1
  have hI1 := LInv.cls hI (fun q hq _ => hf1 q (by rw [hq]; decide)) (fun q hq => hg1 q (by rw [hq]; decide)) hh1
  have hC1 : EqC (v (ρ 4 0) 1) (v (ρ 4 13)) v1 ρ1 := EqC.fr (congrFun (hg1 4 (by rw [hI.w4]; decide)) 0) (congrFun (hg1 4 (by rw [hI.w4]; decide)) 13) (congrFun (hf1 (ρ 4 0) (by rw [hI.w2]; decide)) 1) (fun k _ _ => congrFun (hf1 (ρ 4 13) (by rw [hI.w62]; decide)) k)
  have e179 : v1 179 = v 179 := hf1 179 (by rw [hI.wz (r := 179) (by decide) (by decide)]; decide)
  have e184 : v1 184 = v 184 := hf1 184 (by rw [hI.wz (r := 184) (by decide) (by decide)]; decide)
  have eB : v1 (ρ (ρ 4 0) 0) = v (ρ (ρ 4 0) 0) := hf1 _ (by rw [hw3]; decide)
  have hr1 : ρ1 4 0 = ρ 4 0 ∧ ρ1 4 1 = ρ 4 1 ∧ ρ1 (ρ 4 1) 0 = ρ (ρ 4 1) 0 ∧ ρ1 (ρ 4 0) 0 = ρ (ρ 4 0) 0 := ⟨congrFun (hg1 4 (by rw [hI.w4]; decide)) 0, congrFun (hg1 4 (by rw [hI.w4]; decide)) 1, congrFun (hg1 _ (by rw [hw4]; decide)) 0, congrFun (hg1 _ (by rw [hI.w2]; decide)) 0⟩
  have e180 : v1 180 = v 180 := hf1 180 (by rw [hI.wz (r := 180) (by decide) (by decide)]; decide)
  have e207 : v1 207 = v 207 := hf1 207 (by rw [hI.wz (r := 207) (by decide) (by decide)]; decide)
  have e183 : v1 183 = v 183 := hf1 183 (by rw [hI.wz (r := 183) (by decide) (by decide)]; decide)
  have e208 : v1 208 = v 208 := hf1 208 (by rw [hI.wz (r := 208) (by decide) (by decide)]; decide)
  have hKc : RcK ω v ρ v1 ρ1 := RcK.fr hI.ht hf1 hg1 (by decide) (by decide)
  have ho5 : ∀ o, ω o = 5 → ω o = 5 := fun _ h => h
  have hS1 : ρ1 (ρ1 4 2) 0 = ρ1 4 0 ∧ ρ1 (ρ1 4 3) 0 = ρ1 4 0 := ⟨tapS (congrFun (hg1 4 (by rw [hI.w4]; decide)) 0) (congrFun (hg1 4 (by rw [hI.w4]; decide)) 2) (congrFun (hg1 _ (by rw [hw15]; decide)) 0) hQl, tapS (congrFun (hg1 4 (by rw [hI.w4]; decide)) 0) (congrFun (hg1 4 (by rw [hI.w4]; decide)) 3) (congrFun (hg1 _ (by rw [hw21]; decide)) 0) hQs⟩
  have e178 : v1 178 = v 178 := hf1 178 (by rw [hI.wz (r := 178) (by decide) (by decide)]; decide)
  have e209 : v1 209 = v 209 := hf1 209 (by rw [hI.wz (r := 209) (by decide) (by decide)]; decide)
  show wp g X (LF lc_8) (cells) (slots) 499 [(2, 3), (2, 4), (2, 178), (2, 210), (0, i), (3, 0), (3, 0), (3, 0)] [(0, r1)] v1 ρ1 Z
  refine r_pop (pc := 499) hX 12 rfl (show (0 : Nat) ≠ 1 by decide) ?_
  refine r_aload_n (pc := 500) hX 13 rfl rfl ?_
  refine r_aload_n (pc := 501) hX 14 rfl rfl ?_
  refine r_iload (pc := 502) hX 15 rfl rfl ?_
  refine r_iconst (pc := 504) hX 16 rfl ?_
  refine r_iadd (pc := 505) hX 17 rfl ?_
  refine e_iald (y := sc (i + 1)) (n := N) (pc := 506) hX 18 rfl hI1.sk hI1.sl (by omega) (by omega) (hI1.s3 _) ?_
  refine r_aload_n (pc := 507) hX 19 rfl rfl ?_
  refine r_iload (pc := 508) hX 20 rfl rfl ?_
  refine r_iconst (pc := 510) hX 21 rfl ?_
  refine r_iadd (pc := 511) hX 22 rfl ?_
  refine e_iald (y := sc (i + 2)) (n := N) (pc := 512) hX 23 rfl hI1.sk hI1.sl (by omega) (by omega) (hI1.s3 _) ?_
  obtain ⟨b1, b2, b3, b4, b5, b6, b7, b8, b9, b10⟩ := hI1.rf
  refine r_callV (as := [(0, sc (i + 1)), (0, sc (i + 2))]) (st := []) (K := 12) (pc := 513) hX 24 rfl mo_m_take ml_L_93 im_m_take se_m_take (c_take g v1 ρ1 Z hI1.gm (sc (i + 1)) (sc (i + 2)) b4 b5 (hsc _) (hsc _)) rfl rfl rfl hI1.gm.1 (by rw [hR]; exact ⟨Nat.le_of_ble_eq_true rfl, Nat.le_of_ble_eq_true rfl⟩) (by rw [hR]; exact ⟨by show cells + 0 ≤ 601024; omega, by show slots + 0 ≤ 7293034; omega⟩) (Nat.le_of_ble_eq_true rfl) (fun o2 v2 ρ2 Z2 hq2 _ => ?_)
  obtain ⟨rfl, rfl, hf2, r2, rfl, hp2⟩ := hq2
  have hI2 := LInv.ref hI1 (Fr.out hf2 (by decide)) (show RfI v2 from ⟨by rw [hf2.2 2 (by decide)]; exact b1, by rw [hf2.2 14 (by decide)]; exact b2, by rw [hf2.2 11 (by decide)]; exact b3, hp2.1, hp2.2.2, by rw [hf2.1 209 (by decide) (by decide), hf2.1 207 (by decide) (by decide)]; exact b6, by rw [hf2.1 195 (by decide) (by decide)]; exact b7, by rw [hf2.1 194 (by decide) (by decide)]; exact b8, by rw [hf2.2 45 (by decide)]; exact b9, by rw [hf2.2 49 (by decide)]; exact b10⟩)
  have z1 : v2 (ρ1 4 0) 1 = v1 (ρ1 4 0) 1 := congrFun (Fr.out hf2 (by decide) _ (hI1.lo hI1.w2 (by decide))) 1
  have z2 := hC1.1
  have z3 : v1 178 2 = v 178 2 := congrFun e178 2
  have z0 := hE.1
  have y1 : ∀ k, v2 (ρ1 4 13) k = v1 (ρ1 4 13) k := fun k => congrFun (Fr.out hf2 (by decide) _ (hI1.lo hI1.w62 (by decide))) k
  have y3 : ∀ k, v1 209 k = v 209 k := fun k => congrFun e209 k
  have z4 : v2 178 2 = v1 178 2 := hf2.2 2 (by decide)
  have hw3b : ω (ρ1 (ρ1 4 0) 0) = 3 := hI1.ht.rf hI1.w2 (by decide) rfl
  have g2 : v2 (ρ1 (ρ1 4 0) 0) = v1 (ρ1 (ρ1 4 0) 0) := Fr.out hf2 (by decide) _ (hI1.lo hw3b (by decide))
  have e2 : v2 184 = v1 184 := hf2.1 184 (by decide) (by decide)
  have hT2 : EqT v2 ρ1 := EqT.step hT hr1 e184 e2 e179 (hf2.1 179 (by decide) (by decide)) eB g2 (by omega)
  have hO := Fr.out hf2 (by decide)
  have hK2 := RcK.ref hKc hI1 hO ho5
  have hR2 : EqN v2 ρ1 := EqN.k1 hQ4 hI.ht hI.w4 (TrP.ref hp1 hI1 hI1.w4 hO) hK2 (fun k a b => (hp2.2.1 k (by omega)).trans (congrFun e180 k)) ((hf2.1 207 (by decide) (by decide)).trans e207) ((hf2.1 209 (by decide) (by decide)).trans e209) (fun k _ _ => congrFun ((hf2.1 183 (by decide) (by decide)).trans e183) k) ((hf2.1 208 (by decide) (by decide)).trans e208)
  have hE2 : EqI v2 ρ1 := ⟨by omega, fun k a b => by rw [y1 k, hC1.2 k a b, show v2 209 k = v1 209 k from congrFun (hf2.1 209 (by decide) (by decide)) k, y3 k]; exact hE.2 k a b⟩
  show wp g X (LF lc_8) (cells) (slots) 516 [(2, 3), (2, 4), (2, 178), (2, 210), (0, i), (3, 0), (3, 0), (3, 0)] [(0, r2)] v2 ρ1 Z
  refine r_pop (pc := 516) hX 25 rfl (show (0 : Nat) ≠ 1 by decide) ?_
  refine r_goto (pc := 517) hX 26 (tgt := 1410) rfl (by decide) ?_
  refine wp_wid (k := cells + 20) (n := slots + 150) (by omega) (by omega) ?_
  exact kk _ _ _ _ ⟨⟨⟨hI2, hE2⟩, hT2⟩, hR2, hS1⟩
set_option maxRecDepth 100000 in
def lc_9 : List (Nat × Instr × Nat) := [(520, .aload_n 1, 1), (521, .aload_n 0, 1), (522, .iload 4, 2), (524, .iconst 1, 1), (525, .iadd, 1), (526, .iaload, 1), (527, .aload_n 0, 1), (528, .iload 4, 2), (530, .iconst 2, 1), (531, .iadd, 1), (532, .iaload, 1), (533, .invokevirtual 94, 3), (536, .pop, 1), (537, .aload_n 2, 1), (538, .aload_n 0, 1), (539, .iload 4, 2), (541, .iconst 1, 1), (542, .iadd, 1), (543, .iaload, 1), (544, .aload_n 0, 1), (545, .iload 4, 2), (547, .iconst 2, 1), (548, .iadd, 1), (549, .iaload, 1), (550, .invokevirtual 97, 3), (553, .pop, 1), (554, .goto 856, 3)]
set_option maxRecDepth 100000 in
theorem lc_9_d : lc_9.all (fun q => decide (decode cL_law q.1 = .ok q.2)) = true := by decide +kernel
set_option maxHeartbeats 4000000 in
set_option maxRecDepth 100000 in
theorem cs_9 {g : Gp} {X : Cx} {N : Int} {sc : Int → Int} (hL : LX g X) (hsc : ∀ k, inR (sc k)) : CaseOk5 g X N sc 520 := by
  intro i cells slots ω v ρ Z hi0 hi1 hc hs hI kk
  obtain ⟨⟨⟨hI, hE⟩, hT⟩, hQ4, hQl, hQs⟩ := hI
  have hw := TrW.of hI.ht hI.w4
  have h8 : 0 ≤ v (ρ 4 6) 1 ∧ v (ρ 4 6) 1 ≤ 8 := hI.ht.rg hw.2.2.2.1 (by decide) rfl
  have hw4 : ω (ρ 4 1) = 4 := hI.ht.rf hI.w4 (by decide) rfl
  have hw3 : ω (ρ (ρ 4 0) 0) = 3 := hI.ht.rf hI.w2 (by decide) rfl
  have hw15 : ω (ρ 4 2) = 15 := hI.ht.rf hI.w4 (by decide) rfl
  have hw21 : ω (ρ 4 3) = 21 := hI.ht.rf hI.w4 (by decide) rfl
  have hX : okX g X (LF lc_9) := okL hL.1 lc_9_d
  have hR := hL.2.1
  show wp g X (LF lc_9) cells slots 520 (lls i) [] v ρ Z
  refine r_aload_n (pc := 520) hX 0 rfl rfl ?_
  refine r_aload_n (pc := 521) hX 1 rfl rfl ?_
  refine r_iload (pc := 522) hX 2 rfl rfl ?_
  refine r_iconst (pc := 524) hX 3 rfl ?_
  refine r_iadd (pc := 525) hX 4 rfl ?_
  refine e_iald (y := sc (i + 1)) (n := N) (pc := 526) hX 5 rfl hI.sk hI.sl (by omega) (by omega) (hI.s3 _) ?_
  refine r_aload_n (pc := 527) hX 6 rfl rfl ?_
  refine r_iload (pc := 528) hX 7 rfl rfl ?_
  refine r_iconst (pc := 530) hX 8 rfl ?_
  refine r_iadd (pc := 531) hX 9 rfl ?_
  refine e_iald (y := sc (i + 2)) (n := N) (pc := 532) hX 10 rfl hI.sk hI.sl (by omega) (by omega) (hI.s3 _) ?_
  refine r_callV (as := [(0, sc (i + 1)), (0, sc (i + 2))]) (st := []) (K := 11) (pc := 533) hX 11 rfl mo_X11_turn ml_L_94 im_X11_turn se_X11_turn (c_X11_turnG g ω v ρ Z hI.ht 4 hI.w4 (sc (i + 1)) (sc (i + 2)) hQ4.1 (hsc _) (hsc _)) rfl rfl rfl hI.k4 (by rw [hR]; exact ⟨Nat.le_of_ble_eq_true rfl, Nat.le_of_ble_eq_true rfl⟩) (by rw [hR]; exact ⟨by show cells + 0 ≤ 601024; omega, by show slots + 0 ≤ 7293034; omega⟩) (Nat.le_of_ble_eq_true rfl) (fun o1 v1 ρ1 Z1 hq1 _ => ?_)
  obtain ⟨rfl, hf1, hg1, hh1, r1, rfl, hp1⟩ := hq1
  have hI1 := LInv.cls hI (fun q hq _ => hf1 q (by rw [hq]; decide)) (fun q hq => hg1 q (by rw [hq]; decide)) hh1
  have hC1 : EqC (v (ρ 4 0) 1) (v (ρ 4 13)) v1 ρ1 := EqC.fr (congrFun (hg1 4 (by rw [hI.w4]; decide)) 0) (congrFun (hg1 4 (by rw [hI.w4]; decide)) 13) (congrFun (hf1 (ρ 4 0) (by rw [hI.w2]; decide)) 1) (fun k _ _ => congrFun (hf1 (ρ 4 13) (by rw [hI.w62]; decide)) k)
  have e179 : v1 179 = v 179 := hf1 179 (by rw [hI.wz (r := 179) (by decide) (by decide)]; decide)
  have e184 : v1 184 = v 184 := hf1 184 (by rw [hI.wz (r := 184) (by decide) (by decide)]; decide)
  have eB : v1 (ρ (ρ 4 0) 0) = v (ρ (ρ 4 0) 0) := hf1 _ (by rw [hw3]; decide)
  have hr1 : ρ1 4 0 = ρ 4 0 ∧ ρ1 4 1 = ρ 4 1 ∧ ρ1 (ρ 4 1) 0 = ρ (ρ 4 1) 0 ∧ ρ1 (ρ 4 0) 0 = ρ (ρ 4 0) 0 := ⟨congrFun (hg1 4 (by rw [hI.w4]; decide)) 0, congrFun (hg1 4 (by rw [hI.w4]; decide)) 1, congrFun (hg1 _ (by rw [hw4]; decide)) 0, congrFun (hg1 _ (by rw [hI.w2]; decide)) 0⟩
  have e180 : v1 180 = v 180 := hf1 180 (by rw [hI.wz (r := 180) (by decide) (by decide)]; decide)
  have e207 : v1 207 = v 207 := hf1 207 (by rw [hI.wz (r := 207) (by decide) (by decide)]; decide)
  have e183 : v1 183 = v 183 := hf1 183 (by rw [hI.wz (r := 183) (by decide) (by decide)]; decide)
  have e208 : v1 208 = v 208 := hf1 208 (by rw [hI.wz (r := 208) (by decide) (by decide)]; decide)
  have hKc : RcK ω v ρ v1 ρ1 := RcK.fr hI.ht hf1 hg1 (by decide) (by decide)
  have ho5 : ∀ o, ω o = 5 → ω o = 5 := fun _ h => h
  have hS1 : ρ1 (ρ1 4 2) 0 = ρ1 4 0 ∧ ρ1 (ρ1 4 3) 0 = ρ1 4 0 := ⟨tapS (congrFun (hg1 4 (by rw [hI.w4]; decide)) 0) (congrFun (hg1 4 (by rw [hI.w4]; decide)) 2) (congrFun (hg1 _ (by rw [hw15]; decide)) 0) hQl, tapS (congrFun (hg1 4 (by rw [hI.w4]; decide)) 0) (congrFun (hg1 4 (by rw [hI.w4]; decide)) 3) (congrFun (hg1 _ (by rw [hw21]; decide)) 0) hQs⟩
  have e178 : v1 178 = v 178 := hf1 178 (by rw [hI.wz (r := 178) (by decide) (by decide)]; decide)
  have e209 : v1 209 = v 209 := hf1 209 (by rw [hI.wz (r := 209) (by decide) (by decide)]; decide)
  show wp g X (LF lc_9) (cells) (slots) 536 [(2, 3), (2, 4), (2, 178), (2, 210), (0, i), (3, 0), (3, 0), (3, 0)] [(0, r1)] v1 ρ1 Z
  refine r_pop (pc := 536) hX 12 rfl (show (0 : Nat) ≠ 1 by decide) ?_
  refine r_aload_n (pc := 537) hX 13 rfl rfl ?_
  refine r_aload_n (pc := 538) hX 14 rfl rfl ?_
  refine r_iload (pc := 539) hX 15 rfl rfl ?_
  refine r_iconst (pc := 541) hX 16 rfl ?_
  refine r_iadd (pc := 542) hX 17 rfl ?_
  refine e_iald (y := sc (i + 1)) (n := N) (pc := 543) hX 18 rfl hI1.sk hI1.sl (by omega) (by omega) (hI1.s3 _) ?_
  refine r_aload_n (pc := 544) hX 19 rfl rfl ?_
  refine r_iload (pc := 545) hX 20 rfl rfl ?_
  refine r_iconst (pc := 547) hX 21 rfl ?_
  refine r_iadd (pc := 548) hX 22 rfl ?_
  refine e_iald (y := sc (i + 2)) (n := N) (pc := 549) hX 23 rfl hI1.sk hI1.sl (by omega) (by omega) (hI1.s3 _) ?_
  obtain ⟨b1, b2, b3, b4, b5, b6, b7, b8, b9, b10⟩ := hI1.rf
  refine r_callV (as := [(0, sc (i + 1)), (0, sc (i + 2))]) (st := []) (K := 12) (pc := 550) hX 24 rfl mo_m_turn ml_L_97 im_m_turn se_m_turn (c_turn g v1 ρ1 Z hI1.gm (sc (i + 1)) (sc (i + 2)) b4 b5 (hsc _) (hsc _)) rfl rfl rfl hI1.gm.1 (by rw [hR]; exact ⟨Nat.le_of_ble_eq_true rfl, Nat.le_of_ble_eq_true rfl⟩) (by rw [hR]; exact ⟨by show cells + 0 ≤ 601024; omega, by show slots + 0 ≤ 7293034; omega⟩) (Nat.le_of_ble_eq_true rfl) (fun o2 v2 ρ2 Z2 hq2 _ => ?_)
  obtain ⟨rfl, rfl, hf2, r2, rfl, hp2⟩ := hq2
  have hI2 := LInv.ref hI1 (Fr.out hf2 (by decide)) (show RfI v2 from ⟨by rw [hf2.2 2 (by decide)]; exact b1, by rw [hf2.2 14 (by decide)]; exact b2, by rw [hf2.2 11 (by decide)]; exact b3, hp2.1, hp2.2.2, by rw [hf2.1 209 (by decide) (by decide), hf2.1 207 (by decide) (by decide)]; exact b6, by rw [hf2.1 195 (by decide) (by decide)]; exact b7, by rw [hf2.1 194 (by decide) (by decide)]; exact b8, by rw [hf2.2 45 (by decide)]; exact b9, by rw [hf2.2 49 (by decide)]; exact b10⟩)
  have z1 : v2 (ρ1 4 0) 1 = v1 (ρ1 4 0) 1 := congrFun (Fr.out hf2 (by decide) _ (hI1.lo hI1.w2 (by decide))) 1
  have z2 := hC1.1
  have z3 : v1 178 2 = v 178 2 := congrFun e178 2
  have z0 := hE.1
  have y1 : ∀ k, v2 (ρ1 4 13) k = v1 (ρ1 4 13) k := fun k => congrFun (Fr.out hf2 (by decide) _ (hI1.lo hI1.w62 (by decide))) k
  have y3 : ∀ k, v1 209 k = v 209 k := fun k => congrFun e209 k
  have z4 : v2 178 2 = v1 178 2 := hf2.2 2 (by decide)
  have hw3b : ω (ρ1 (ρ1 4 0) 0) = 3 := hI1.ht.rf hI1.w2 (by decide) rfl
  have g2 : v2 (ρ1 (ρ1 4 0) 0) = v1 (ρ1 (ρ1 4 0) 0) := Fr.out hf2 (by decide) _ (hI1.lo hw3b (by decide))
  have e2 : v2 184 = v1 184 := hf2.1 184 (by decide) (by decide)
  have hT2 : EqT v2 ρ1 := EqT.step hT hr1 e184 e2 e179 (hf2.1 179 (by decide) (by decide)) eB g2 (by omega)
  have hO := Fr.out hf2 (by decide)
  have hK2 := RcK.ref hKc hI1 hO ho5
  have hR2 : EqN v2 ρ1 := EqN.k1 hQ4 hI.ht hI.w4 (TrP.ref hp1 hI1 hI1.w4 hO) hK2 (fun k a b => (hp2.2.1 k (by omega)).trans (congrFun e180 k)) ((hf2.1 207 (by decide) (by decide)).trans e207) ((hf2.1 209 (by decide) (by decide)).trans e209) (fun k _ _ => congrFun ((hf2.1 183 (by decide) (by decide)).trans e183) k) ((hf2.1 208 (by decide) (by decide)).trans e208)
  have hE2 : EqI v2 ρ1 := ⟨by omega, fun k a b => by rw [y1 k, hC1.2 k a b, show v2 209 k = v1 209 k from congrFun (hf2.1 209 (by decide) (by decide)) k, y3 k]; exact hE.2 k a b⟩
  show wp g X (LF lc_9) (cells) (slots) 553 [(2, 3), (2, 4), (2, 178), (2, 210), (0, i), (3, 0), (3, 0), (3, 0)] [(0, r2)] v2 ρ1 Z
  refine r_pop (pc := 553) hX 25 rfl (show (0 : Nat) ≠ 1 by decide) ?_
  refine r_goto (pc := 554) hX 26 (tgt := 1410) rfl (by decide) ?_
  refine wp_wid (k := cells + 20) (n := slots + 150) (by omega) (by omega) ?_
  exact kk _ _ _ _ ⟨⟨⟨hI2, hE2⟩, hT2⟩, hR2, hS1⟩
set_option maxRecDepth 100000 in
def lc_10 : List (Nat × Instr × Nat) := [(557, .aload_n 1, 1), (558, .aload_n 0, 1), (559, .iload 4, 2), (561, .iconst 1, 1), (562, .iadd, 1), (563, .iaload, 1), (564, .invokevirtual 98, 3), (567, .pop, 1), (568, .aload_n 2, 1), (569, .aload_n 0, 1), (570, .iload 4, 2), (572, .iconst 1, 1), (573, .iadd, 1), (574, .iaload, 1), (575, .invokevirtual 101, 3), (578, .pop, 1), (579, .goto 831, 3)]
set_option maxRecDepth 100000 in
theorem lc_10_d : lc_10.all (fun q => decide (decode cL_law q.1 = .ok q.2)) = true := by decide +kernel
set_option maxHeartbeats 4000000 in
set_option maxRecDepth 100000 in
theorem cs_10 {g : Gp} {X : Cx} {N : Int} {sc : Int → Int} (hL : LX g X) (hsc : ∀ k, inR (sc k)) : CaseOk5 g X N sc 557 := by
  intro i cells slots ω v ρ Z hi0 hi1 hc hs hI kk
  obtain ⟨⟨⟨hI, hE⟩, hT⟩, hQ4, hQl, hQs⟩ := hI
  have hw := TrW.of hI.ht hI.w4
  have h8 : 0 ≤ v (ρ 4 6) 1 ∧ v (ρ 4 6) 1 ≤ 8 := hI.ht.rg hw.2.2.2.1 (by decide) rfl
  have hw4 : ω (ρ 4 1) = 4 := hI.ht.rf hI.w4 (by decide) rfl
  have hw3 : ω (ρ (ρ 4 0) 0) = 3 := hI.ht.rf hI.w2 (by decide) rfl
  have hw15 : ω (ρ 4 2) = 15 := hI.ht.rf hI.w4 (by decide) rfl
  have hw21 : ω (ρ 4 3) = 21 := hI.ht.rf hI.w4 (by decide) rfl
  have hX : okX g X (LF lc_10) := okL hL.1 lc_10_d
  have hR := hL.2.1
  show wp g X (LF lc_10) cells slots 557 (lls i) [] v ρ Z
  refine r_aload_n (pc := 557) hX 0 rfl rfl ?_
  refine r_aload_n (pc := 558) hX 1 rfl rfl ?_
  refine r_iload (pc := 559) hX 2 rfl rfl ?_
  refine r_iconst (pc := 561) hX 3 rfl ?_
  refine r_iadd (pc := 562) hX 4 rfl ?_
  refine e_iald (y := sc (i + 1)) (n := N) (pc := 563) hX 5 rfl hI.sk hI.sl (by omega) (by omega) (hI.s3 _) ?_
  refine r_callV (as := [(0, sc (i + 1))]) (st := []) (K := 11) (pc := 564) hX 6 rfl mo_X11_come ml_L_98 im_X11_come se_X11_come (c_X11_comeG g ω v ρ Z hI.ht 4 hI.w4 (sc (i + 1)) hQ4.1 (hsc _)) rfl rfl rfl hI.k4 (by rw [hR]; exact ⟨Nat.le_of_ble_eq_true rfl, Nat.le_of_ble_eq_true rfl⟩) (by rw [hR]; exact ⟨by show cells + 0 ≤ 601024; omega, by show slots + 0 ≤ 7293034; omega⟩) (Nat.le_of_ble_eq_true rfl) (fun o1 v1 ρ1 Z1 hq1 _ => ?_)
  obtain ⟨rfl, hf1, hg1, hh1, r1, rfl, hp1⟩ := hq1
  have hI1 := LInv.cls hI (fun q hq _ => hf1 q (by rw [hq]; decide)) (fun q hq => hg1 q (by rw [hq]; decide)) hh1
  have hC1 : EqC (v (ρ 4 0) 1) (v (ρ 4 13)) v1 ρ1 := EqC.fr (congrFun (hg1 4 (by rw [hI.w4]; decide)) 0) (congrFun (hg1 4 (by rw [hI.w4]; decide)) 13) (congrFun (hf1 (ρ 4 0) (by rw [hI.w2]; decide)) 1) (fun k _ _ => congrFun (hf1 (ρ 4 13) (by rw [hI.w62]; decide)) k)
  have e179 : v1 179 = v 179 := hf1 179 (by rw [hI.wz (r := 179) (by decide) (by decide)]; decide)
  have e184 : v1 184 = v 184 := hf1 184 (by rw [hI.wz (r := 184) (by decide) (by decide)]; decide)
  have eB : v1 (ρ (ρ 4 0) 0) = v (ρ (ρ 4 0) 0) := hf1 _ (by rw [hw3]; decide)
  have hr1 : ρ1 4 0 = ρ 4 0 ∧ ρ1 4 1 = ρ 4 1 ∧ ρ1 (ρ 4 1) 0 = ρ (ρ 4 1) 0 ∧ ρ1 (ρ 4 0) 0 = ρ (ρ 4 0) 0 := ⟨congrFun (hg1 4 (by rw [hI.w4]; decide)) 0, congrFun (hg1 4 (by rw [hI.w4]; decide)) 1, congrFun (hg1 _ (by rw [hw4]; decide)) 0, congrFun (hg1 _ (by rw [hI.w2]; decide)) 0⟩
  have e180 : v1 180 = v 180 := hf1 180 (by rw [hI.wz (r := 180) (by decide) (by decide)]; decide)
  have e207 : v1 207 = v 207 := hf1 207 (by rw [hI.wz (r := 207) (by decide) (by decide)]; decide)
  have e183 : v1 183 = v 183 := hf1 183 (by rw [hI.wz (r := 183) (by decide) (by decide)]; decide)
  have e208 : v1 208 = v 208 := hf1 208 (by rw [hI.wz (r := 208) (by decide) (by decide)]; decide)
  have hKc : RcK ω v ρ v1 ρ1 := RcK.fr hI.ht hf1 hg1 (by decide) (by decide)
  have ho5 : ∀ o, ω o = 5 → ω o = 5 := fun _ h => h
  have hS1 : ρ1 (ρ1 4 2) 0 = ρ1 4 0 ∧ ρ1 (ρ1 4 3) 0 = ρ1 4 0 := ⟨tapS (congrFun (hg1 4 (by rw [hI.w4]; decide)) 0) (congrFun (hg1 4 (by rw [hI.w4]; decide)) 2) (congrFun (hg1 _ (by rw [hw15]; decide)) 0) hQl, tapS (congrFun (hg1 4 (by rw [hI.w4]; decide)) 0) (congrFun (hg1 4 (by rw [hI.w4]; decide)) 3) (congrFun (hg1 _ (by rw [hw21]; decide)) 0) hQs⟩
  have e178 : v1 178 = v 178 := hf1 178 (by rw [hI.wz (r := 178) (by decide) (by decide)]; decide)
  have e209 : v1 209 = v 209 := hf1 209 (by rw [hI.wz (r := 209) (by decide) (by decide)]; decide)
  show wp g X (LF lc_10) (cells) (slots) 567 [(2, 3), (2, 4), (2, 178), (2, 210), (0, i), (3, 0), (3, 0), (3, 0)] [(0, r1)] v1 ρ1 Z
  refine r_pop (pc := 567) hX 7 rfl (show (0 : Nat) ≠ 1 by decide) ?_
  refine r_aload_n (pc := 568) hX 8 rfl rfl ?_
  refine r_aload_n (pc := 569) hX 9 rfl rfl ?_
  refine r_iload (pc := 570) hX 10 rfl rfl ?_
  refine r_iconst (pc := 572) hX 11 rfl ?_
  refine r_iadd (pc := 573) hX 12 rfl ?_
  refine e_iald (y := sc (i + 1)) (n := N) (pc := 574) hX 13 rfl hI1.sk hI1.sl (by omega) (by omega) (hI1.s3 _) ?_
  obtain ⟨b1, b2, b3, b4, b5, b6, b7, b8, b9, b10⟩ := hI1.rf
  refine r_callV (as := [(0, sc (i + 1))]) (st := []) (K := 12) (pc := 575) hX 14 rfl mo_m_come ml_L_101 im_m_come se_m_come (c_come g v1 ρ1 Z hI1.gm (sc (i + 1)) b4 b5 (hsc _)) rfl rfl rfl hI1.gm.1 (by rw [hR]; exact ⟨Nat.le_of_ble_eq_true rfl, Nat.le_of_ble_eq_true rfl⟩) (by rw [hR]; exact ⟨by show cells + 0 ≤ 601024; omega, by show slots + 0 ≤ 7293034; omega⟩) (Nat.le_of_ble_eq_true rfl) (fun o2 v2 ρ2 Z2 hq2 _ => ?_)
  obtain ⟨rfl, rfl, hf2, r2, rfl, hp2⟩ := hq2
  have hI2 := LInv.ref hI1 (Fr.out hf2 (by decide)) (show RfI v2 from ⟨by rw [hf2.2 2 (by decide)]; exact b1, by rw [hf2.2 14 (by decide)]; exact b2, by rw [hf2.2 11 (by decide)]; exact b3, hp2.1, hp2.2.2, by rw [hf2.1 209 (by decide) (by decide), hf2.1 207 (by decide) (by decide)]; exact b6, by rw [hf2.1 195 (by decide) (by decide)]; exact b7, by rw [hf2.1 194 (by decide) (by decide)]; exact b8, by rw [hf2.2 45 (by decide)]; exact b9, by rw [hf2.2 49 (by decide)]; exact b10⟩)
  have z1 : v2 (ρ1 4 0) 1 = v1 (ρ1 4 0) 1 := congrFun (Fr.out hf2 (by decide) _ (hI1.lo hI1.w2 (by decide))) 1
  have z2 := hC1.1
  have z3 : v1 178 2 = v 178 2 := congrFun e178 2
  have z0 := hE.1
  have y1 : ∀ k, v2 (ρ1 4 13) k = v1 (ρ1 4 13) k := fun k => congrFun (Fr.out hf2 (by decide) _ (hI1.lo hI1.w62 (by decide))) k
  have y3 : ∀ k, v1 209 k = v 209 k := fun k => congrFun e209 k
  have z4 : v2 178 2 = v1 178 2 := hf2.2 2 (by decide)
  have hw3b : ω (ρ1 (ρ1 4 0) 0) = 3 := hI1.ht.rf hI1.w2 (by decide) rfl
  have g2 : v2 (ρ1 (ρ1 4 0) 0) = v1 (ρ1 (ρ1 4 0) 0) := Fr.out hf2 (by decide) _ (hI1.lo hw3b (by decide))
  have e2 : v2 184 = v1 184 := hf2.1 184 (by decide) (by decide)
  have hT2 : EqT v2 ρ1 := EqT.step hT hr1 e184 e2 e179 (hf2.1 179 (by decide) (by decide)) eB g2 (by omega)
  have hO := Fr.out hf2 (by decide)
  have hK2 := RcK.ref hKc hI1 hO ho5
  have hR2 : EqN v2 ρ1 := EqN.k1 hQ4 hI.ht hI.w4 (TrP.ref hp1 hI1 hI1.w4 hO) hK2 (fun k a b => (hp2.2.1 k (by omega)).trans (congrFun e180 k)) ((hf2.1 207 (by decide) (by decide)).trans e207) ((hf2.1 209 (by decide) (by decide)).trans e209) (fun k _ _ => congrFun ((hf2.1 183 (by decide) (by decide)).trans e183) k) ((hf2.1 208 (by decide) (by decide)).trans e208)
  have hE2 : EqI v2 ρ1 := ⟨by omega, fun k a b => by rw [y1 k, hC1.2 k a b, show v2 209 k = v1 209 k from congrFun (hf2.1 209 (by decide) (by decide)) k, y3 k]; exact hE.2 k a b⟩
  show wp g X (LF lc_10) (cells) (slots) 578 [(2, 3), (2, 4), (2, 178), (2, 210), (0, i), (3, 0), (3, 0), (3, 0)] [(0, r2)] v2 ρ1 Z
  refine r_pop (pc := 578) hX 15 rfl (show (0 : Nat) ≠ 1 by decide) ?_
  refine r_goto (pc := 579) hX 16 (tgt := 1410) rfl (by decide) ?_
  refine wp_wid (k := cells + 20) (n := slots + 150) (by omega) (by omega) ?_
  exact kk _ _ _ _ ⟨⟨⟨hI2, hE2⟩, hT2⟩, hR2, hS1⟩
set_option maxRecDepth 100000 in
def lc_11 : List (Nat × Instr × Nat) := [(582, .aload_n 1, 1), (583, .invokevirtual 102, 3), (586, .pop, 1), (587, .aload_n 2, 1), (588, .invokevirtual 105, 3), (591, .pop, 1), (592, .goto 818, 3)]
set_option maxRecDepth 100000 in
theorem lc_11_d : lc_11.all (fun q => decide (decode cL_law q.1 = .ok q.2)) = true := by decide +kernel
set_option maxHeartbeats 4000000 in
set_option maxRecDepth 100000 in
theorem cs_11 {g : Gp} {X : Cx} {N : Int} {sc : Int → Int} (hL : LX g X) (hsc : ∀ k, inR (sc k)) : CaseOk5 g X N sc 582 := by
  intro i cells slots ω v ρ Z hi0 hi1 hc hs hI kk
  obtain ⟨⟨⟨hI, hE⟩, hT⟩, hQ4, hQl, hQs⟩ := hI
  have hw := TrW.of hI.ht hI.w4
  have h8 : 0 ≤ v (ρ 4 6) 1 ∧ v (ρ 4 6) 1 ≤ 8 := hI.ht.rg hw.2.2.2.1 (by decide) rfl
  have hw4 : ω (ρ 4 1) = 4 := hI.ht.rf hI.w4 (by decide) rfl
  have hw3 : ω (ρ (ρ 4 0) 0) = 3 := hI.ht.rf hI.w2 (by decide) rfl
  have hw15 : ω (ρ 4 2) = 15 := hI.ht.rf hI.w4 (by decide) rfl
  have hw21 : ω (ρ 4 3) = 21 := hI.ht.rf hI.w4 (by decide) rfl
  have hX : okX g X (LF lc_11) := okL hL.1 lc_11_d
  have hR := hL.2.1
  show wp g X (LF lc_11) cells slots 582 (lls i) [] v ρ Z
  refine r_aload_n (pc := 582) hX 0 rfl rfl ?_
  refine r_callV (as := []) (st := []) (K := 11) (pc := 583) hX 1 rfl mo_X11_undo ml_L_102 im_X11_undo se_X11_undo (c_X11_undoG g ω v ρ Z hI.ht 4 hI.w4 hQ4.1) rfl rfl rfl hI.k4 (by rw [hR]; exact ⟨Nat.le_of_ble_eq_true rfl, Nat.le_of_ble_eq_true rfl⟩) (by rw [hR]; exact ⟨by show cells + 0 ≤ 601024; omega, by show slots + 0 ≤ 7293034; omega⟩) (Nat.le_of_ble_eq_true rfl) (fun o1 v1 ρ1 Z1 hq1 _ => ?_)
  obtain ⟨rfl, hf1, hg1, hh1, r1, rfl, hp1⟩ := hq1
  have hI1 := LInv.cls hI (fun q hq _ => hf1 q (by rw [hq]; decide)) (fun q hq => hg1 q (by rw [hq]; decide)) hh1
  have hC1 : EqC (v (ρ 4 0) 1) (v (ρ 4 13)) v1 ρ1 := EqC.fr (congrFun (hg1 4 (by rw [hI.w4]; decide)) 0) (congrFun (hg1 4 (by rw [hI.w4]; decide)) 13) (congrFun (hf1 (ρ 4 0) (by rw [hI.w2]; decide)) 1) (fun k _ _ => congrFun (hf1 (ρ 4 13) (by rw [hI.w62]; decide)) k)
  have e179 : v1 179 = v 179 := hf1 179 (by rw [hI.wz (r := 179) (by decide) (by decide)]; decide)
  have e184 : v1 184 = v 184 := hf1 184 (by rw [hI.wz (r := 184) (by decide) (by decide)]; decide)
  have eB : v1 (ρ (ρ 4 0) 0) = v (ρ (ρ 4 0) 0) := hf1 _ (by rw [hw3]; decide)
  have hr1 : ρ1 4 0 = ρ 4 0 ∧ ρ1 4 1 = ρ 4 1 ∧ ρ1 (ρ 4 1) 0 = ρ (ρ 4 1) 0 ∧ ρ1 (ρ 4 0) 0 = ρ (ρ 4 0) 0 := ⟨congrFun (hg1 4 (by rw [hI.w4]; decide)) 0, congrFun (hg1 4 (by rw [hI.w4]; decide)) 1, congrFun (hg1 _ (by rw [hw4]; decide)) 0, congrFun (hg1 _ (by rw [hI.w2]; decide)) 0⟩
  have e180 : v1 180 = v 180 := hf1 180 (by rw [hI.wz (r := 180) (by decide) (by decide)]; decide)
  have e207 : v1 207 = v 207 := hf1 207 (by rw [hI.wz (r := 207) (by decide) (by decide)]; decide)
  have e183 : v1 183 = v 183 := hf1 183 (by rw [hI.wz (r := 183) (by decide) (by decide)]; decide)
  have e208 : v1 208 = v 208 := hf1 208 (by rw [hI.wz (r := 208) (by decide) (by decide)]; decide)
  have hKc : RcK ω v ρ v1 ρ1 := RcK.fr hI.ht hf1 hg1 (by decide) (by decide)
  have ho5 : ∀ o, ω o = 5 → ω o = 5 := fun _ h => h
  have hS1 : ρ1 (ρ1 4 2) 0 = ρ1 4 0 ∧ ρ1 (ρ1 4 3) 0 = ρ1 4 0 := ⟨tapS (congrFun (hg1 4 (by rw [hI.w4]; decide)) 0) (congrFun (hg1 4 (by rw [hI.w4]; decide)) 2) (congrFun (hg1 _ (by rw [hw15]; decide)) 0) hQl, tapS (congrFun (hg1 4 (by rw [hI.w4]; decide)) 0) (congrFun (hg1 4 (by rw [hI.w4]; decide)) 3) (congrFun (hg1 _ (by rw [hw21]; decide)) 0) hQs⟩
  have e178 : v1 178 = v 178 := hf1 178 (by rw [hI.wz (r := 178) (by decide) (by decide)]; decide)
  have e209 : v1 209 = v 209 := hf1 209 (by rw [hI.wz (r := 209) (by decide) (by decide)]; decide)
  show wp g X (LF lc_11) (cells) (slots) 586 [(2, 3), (2, 4), (2, 178), (2, 210), (0, i), (3, 0), (3, 0), (3, 0)] [(0, r1)] v1 ρ1 Z
  refine r_pop (pc := 586) hX 2 rfl (show (0 : Nat) ≠ 1 by decide) ?_
  refine r_aload_n (pc := 587) hX 3 rfl rfl ?_
  obtain ⟨b1, b2, b3, b4, b5, b6, b7, b8, b9, b10⟩ := hI1.rf
  refine r_callV (as := []) (st := []) (K := 12) (pc := 588) hX 4 rfl mo_m_undo ml_L_105 im_m_undo se_m_undo (c_undo g v1 ρ1 Z hI1.gm b4 b5) rfl rfl rfl hI1.gm.1 (by rw [hR]; exact ⟨Nat.le_of_ble_eq_true rfl, Nat.le_of_ble_eq_true rfl⟩) (by rw [hR]; exact ⟨by show cells + 0 ≤ 601024; omega, by show slots + 0 ≤ 7293034; omega⟩) (Nat.le_of_ble_eq_true rfl) (fun o2 v2 ρ2 Z2 hq2 _ => ?_)
  obtain ⟨rfl, rfl, hf2, r2, rfl, hp2⟩ := hq2
  have hI2 := LInv.ref hI1 (Fr.out hf2 (by decide)) (show RfI v2 from ⟨by rw [hf2.2 2 (by decide)]; exact b1, by rw [hf2.2 14 (by decide)]; exact b2, by rw [hf2.2 11 (by decide)]; exact b3, hp2.1, hp2.2.2, by rw [hf2.1 209 (by decide) (by decide), hf2.1 207 (by decide) (by decide)]; exact b6, by rw [hf2.1 195 (by decide) (by decide)]; exact b7, by rw [hf2.1 194 (by decide) (by decide)]; exact b8, by rw [hf2.2 45 (by decide)]; exact b9, by rw [hf2.2 49 (by decide)]; exact b10⟩)
  have z1 : v2 (ρ1 4 0) 1 = v1 (ρ1 4 0) 1 := congrFun (Fr.out hf2 (by decide) _ (hI1.lo hI1.w2 (by decide))) 1
  have z2 := hC1.1
  have z3 : v1 178 2 = v 178 2 := congrFun e178 2
  have z0 := hE.1
  have y1 : ∀ k, v2 (ρ1 4 13) k = v1 (ρ1 4 13) k := fun k => congrFun (Fr.out hf2 (by decide) _ (hI1.lo hI1.w62 (by decide))) k
  have y3 : ∀ k, v1 209 k = v 209 k := fun k => congrFun e209 k
  have z4 : v2 178 2 = v1 178 2 := hf2.2 2 (by decide)
  have hw3b : ω (ρ1 (ρ1 4 0) 0) = 3 := hI1.ht.rf hI1.w2 (by decide) rfl
  have g2 : v2 (ρ1 (ρ1 4 0) 0) = v1 (ρ1 (ρ1 4 0) 0) := Fr.out hf2 (by decide) _ (hI1.lo hw3b (by decide))
  have e2 : v2 184 = v1 184 := hf2.1 184 (by decide) (by decide)
  have hT2 : EqT v2 ρ1 := EqT.step hT hr1 e184 e2 e179 (hf2.1 179 (by decide) (by decide)) eB g2 (by omega)
  have hO := Fr.out hf2 (by decide)
  have hK2 := RcK.ref hKc hI1 hO ho5
  have hR2 : EqN v2 ρ1 := EqN.k1 hQ4 hI.ht hI.w4 (TrP.ref hp1 hI1 hI1.w4 hO) hK2 (fun k a b => (hp2.2.1 k (by omega)).trans (congrFun e180 k)) ((hf2.1 207 (by decide) (by decide)).trans e207) ((hf2.1 209 (by decide) (by decide)).trans e209) (fun k _ _ => congrFun ((hf2.1 183 (by decide) (by decide)).trans e183) k) ((hf2.1 208 (by decide) (by decide)).trans e208)
  have hE2 : EqI v2 ρ1 := ⟨by omega, fun k a b => by rw [y1 k, hC1.2 k a b, show v2 209 k = v1 209 k from congrFun (hf2.1 209 (by decide) (by decide)) k, y3 k]; exact hE.2 k a b⟩
  show wp g X (LF lc_11) (cells) (slots) 591 [(2, 3), (2, 4), (2, 178), (2, 210), (0, i), (3, 0), (3, 0), (3, 0)] [(0, r2)] v2 ρ1 Z
  refine r_pop (pc := 591) hX 5 rfl (show (0 : Nat) ≠ 1 by decide) ?_
  refine r_goto (pc := 592) hX 6 (tgt := 1410) rfl (by decide) ?_
  refine wp_wid (k := cells + 20) (n := slots + 150) (by omega) (by omega) ?_
  exact kk _ _ _ _ ⟨⟨⟨hI2, hE2⟩, hT2⟩, hR2, hS1⟩
set_option maxRecDepth 100000 in
def lc_12 : List (Nat × Instr × Nat) := [(595, .aload_n 1, 1), (596, .aload_n 0, 1), (597, .iload 4, 2), (599, .iconst 1, 1), (600, .iadd, 1), (601, .iaload, 1), (602, .aload_n 0, 1), (603, .iload 4, 2), (605, .iconst 2, 1), (606, .iadd, 1), (607, .iaload, 1), (608, .aload_n 3, 1), (609, .invokestatic 106, 3), (612, .istore 5, 2), (614, .aload_n 2, 1), (615, .aload_n 0, 1), (616, .iload 4, 2), (618, .iconst 1, 1), (619, .iadd, 1), (620, .iaload, 1), (621, .aload_n 0, 1), (622, .iload 4, 2), (624, .iconst 2, 1), (625, .iadd, 1), (626, .iaload, 1), (627, .invokevirtual 108, 3), (630, .lstore 6, 2), (632, .goto 778, 3)]
set_option maxRecDepth 100000 in
theorem lc_12_d : lc_12.all (fun q => decide (decode cL_law q.1 = .ok q.2)) = true := by decide +kernel
set_option maxHeartbeats 4000000 in
set_option maxRecDepth 100000 in
theorem cs_12 {g : Gp} {X : Cx} {N : Int} {sc : Int → Int} (hL : LX g X) (hsc : ∀ k, inR (sc k)) : CaseOk5 g X N sc 595 := by
  intro i cells slots ω v ρ Z hi0 hi1 hc hs hI kk
  obtain ⟨⟨⟨hI, hE⟩, hT⟩, hQ4, hQl, hQs⟩ := hI
  have hw := TrW.of hI.ht hI.w4
  have h8 : 0 ≤ v (ρ 4 6) 1 ∧ v (ρ 4 6) 1 ≤ 8 := hI.ht.rg hw.2.2.2.1 (by decide) rfl
  have hw4 : ω (ρ 4 1) = 4 := hI.ht.rf hI.w4 (by decide) rfl
  have hw3 : ω (ρ (ρ 4 0) 0) = 3 := hI.ht.rf hI.w2 (by decide) rfl
  have hw15 : ω (ρ 4 2) = 15 := hI.ht.rf hI.w4 (by decide) rfl
  have hw21 : ω (ρ 4 3) = 21 := hI.ht.rf hI.w4 (by decide) rfl
  have hX : okX g X (LF lc_12) := okL hL.1 lc_12_d
  have hR := hL.2.1
  show wp g X (LF lc_12) cells slots 595 (lls i) [] v ρ Z
  refine r_aload_n (pc := 595) hX 0 rfl rfl ?_
  refine r_aload_n (pc := 596) hX 1 rfl rfl ?_
  refine r_iload (pc := 597) hX 2 rfl rfl ?_
  refine r_iconst (pc := 599) hX 3 rfl ?_
  refine r_iadd (pc := 600) hX 4 rfl ?_
  refine e_iald (y := sc (i + 1)) (n := N) (pc := 601) hX 5 rfl hI.sk hI.sl (by omega) (by omega) (hI.s3 _) ?_
  refine r_aload_n (pc := 602) hX 6 rfl rfl ?_
  refine r_iload (pc := 603) hX 7 rfl rfl ?_
  refine r_iconst (pc := 605) hX 8 rfl ?_
  refine r_iadd (pc := 606) hX 9 rfl ?_
  refine e_iald (y := sc (i + 2)) (n := N) (pc := 607) hX 10 rfl hI.sk hI.sl (by omega) (by omega) (hI.s3 _) ?_
  refine r_aload_n (pc := 608) hX 11 rfl rfl ?_
  refine r_callSH (as := [(2, 4), (0, sc (i + 1)), (0, sc (i + 2)), (2, 210)]) (st := []) (pc := 609) hX 12 hL.2.2.2 rfl mo_L_likely ml_L_106 stt_L_likely (c_LG_likely g ω v ρ Z hI.ht 4 hI.w4 (sc (i + 1)) (sc (i + 2)) 210 hI.o0 hI.ok hI.ol (by decide) hL.2.2.1 (by have := hI.nz; omega) (hsc _) (hsc _)) rfl (by rw [hR]; exact ⟨Nat.le_of_ble_eq_true rfl, Nat.le_of_ble_eq_true rfl⟩) (by rw [hR]; exact ⟨by show cells + 2 ≤ 601024; omega, by show slots + 12 ≤ 7293034; omega⟩) (Nat.le_of_ble_eq_true rfl) (fun o1 v1 ρ1 Z1 hq1 _ => ?_)
  obtain ⟨rfl, hf1, hg1, hh1, r1, rfl, hp1⟩ := hq1
  have hI1 := LInv.cls hI (fun q h n => hf1 q (by rw [h]; decide) n) (fun q h => hg1 q (by rw [h]; decide)) hh1
  have hC1 : EqC (v (ρ 4 0) 1) (v (ρ 4 13)) v1 ρ1 := EqC.fr (congrFun (hg1 4 (by rw [hI.w4]; decide)) 0) (congrFun (hg1 4 (by rw [hI.w4]; decide)) 13) (congrFun (hf1 (ρ 4 0) (by rw [hI.w2]; decide) (by have := hI.lt hI.w2 (by decide); omega)) 1) (fun k _ _ => congrFun (hf1 (ρ 4 13) (by rw [hI.w62]; decide) (by have := hI.lt hI.w62 (by decide); omega)) k)
  have e178 : v1 178 = v 178 := hf1 178 (by rw [hI.wz (r := 178) (by decide) (by decide)]; decide) (by decide)
  have e209 : v1 209 = v 209 := hf1 209 (by rw [hI.wz (r := 209) (by decide) (by decide)]; decide) (by decide)
  have e179 : v1 179 = v 179 := hf1 179 (by rw [hI.wz (r := 179) (by decide) (by decide)]; decide) (by decide)
  have e184 : v1 184 = v 184 := hf1 184 (by rw [hI.wz (r := 184) (by decide) (by decide)]; decide) (by decide)
  have e180 : v1 180 = v 180 := hf1 180 (by rw [hI.wz (r := 180) (by decide) (by decide)]; decide) (by decide)
  have e207 : v1 207 = v 207 := hf1 207 (by rw [hI.wz (r := 207) (by decide) (by decide)]; decide) (by decide)
  have e183 : v1 183 = v 183 := hf1 183 (by rw [hI.wz (r := 183) (by decide) (by decide)]; decide) (by decide)
  have e208 : v1 208 = v 208 := hf1 208 (by rw [hI.wz (r := 208) (by decide) (by decide)]; decide) (by decide)
  have eB : v1 (ρ (ρ 4 0) 0) = v (ρ (ρ 4 0) 0) := hf1 _ (by rw [hw3]; decide) (by have := hI.lt hw3 (by decide); omega)
  have hr1 : ρ1 4 0 = ρ 4 0 ∧ ρ1 4 1 = ρ 4 1 ∧ ρ1 (ρ 4 1) 0 = ρ (ρ 4 1) 0 ∧ ρ1 (ρ 4 0) 0 = ρ (ρ 4 0) 0 := ⟨congrFun (hg1 4 (by rw [hI.w4]; decide)) 0, congrFun (hg1 4 (by rw [hI.w4]; decide)) 1, congrFun (hg1 _ (by rw [hw4]; decide)) 0, congrFun (hg1 _ (by rw [hI.w2]; decide)) 0⟩
  have hKc : RcK ω v ρ v1 ρ1 := fun o L i s h5 h => (h.frO hI.ht h5 (fun r hr => hf1 r (inW_K hr) (by have := hI.lt (c := ω r) rfl (inW_0 hr); omega))).rho (hg1 o (by rw [h5]; decide)) (hg1 _ (by rw [show ω (ρ o 5) = 12 from hI.ht.rf h5 (by decide) rfl]; decide))
  have ho5 : ∀ o, ω o = 5 → ω o = 5 := fun _ h => h
  have hS1 : ρ1 (ρ1 4 2) 0 = ρ1 4 0 ∧ ρ1 (ρ1 4 3) 0 = ρ1 4 0 := ⟨tapS (congrFun (hg1 4 (by rw [hI.w4]; decide)) 0) (congrFun (hg1 4 (by rw [hI.w4]; decide)) 2) (congrFun (hg1 _ (by rw [hw15]; decide)) 0) hQl, tapS (congrFun (hg1 4 (by rw [hI.w4]; decide)) 0) (congrFun (hg1 4 (by rw [hI.w4]; decide)) 3) (congrFun (hg1 _ (by rw [hw21]; decide)) 0) hQs⟩
  have hPc := TrI.old (ρ' := ρ1) (v' := v1) hQ4.1 hw h8.2 (fun r h9 => hg1 r (by rcases h9 with h9 | h9 | h9 | h9 | h9 | h9 <;> rw [h9] <;> decide)) (congrFun (hf1 (ρ 4 6) (by rw [hw.2.2.2.1]; decide) (by have := hI.lt hw.2.2.2.1 (by decide); omega)) 1)
  show wp g X (LF lc_12) (cells + 2) (slots + 12) 612 [(2, 3), (2, 4), (2, 178), (2, 210), (0, i), (3, 0), (3, 0), (3, 0)] [(0, r1)] v1 ρ1 Z
  refine r_istore (ls' := [(2, 3), (2, 4), (2, 178), (2, 210), (0, i), (0, r1), (3, 0), (3, 0)]) (pc := 612) hX 13 rfl (by decide) rfl ?_
  refine r_aload_n (pc := 614) hX 14 rfl rfl ?_
  refine r_aload_n (pc := 615) hX 15 rfl rfl ?_
  refine r_iload (pc := 616) hX 16 rfl rfl ?_
  refine r_iconst (pc := 618) hX 17 rfl ?_
  refine r_iadd (pc := 619) hX 18 rfl ?_
  refine e_iald (y := sc (i + 1)) (n := N) (pc := 620) hX 19 rfl hI1.sk hI1.sl (by omega) (by omega) (hI1.s3 _) ?_
  refine r_aload_n (pc := 621) hX 20 rfl rfl ?_
  refine r_iload (pc := 622) hX 21 rfl rfl ?_
  refine r_iconst (pc := 624) hX 22 rfl ?_
  refine r_iadd (pc := 625) hX 23 rfl ?_
  refine e_iald (y := sc (i + 2)) (n := N) (pc := 626) hX 24 rfl hI1.sk hI1.sl (by omega) (by omega) (hI1.s3 _) ?_
  obtain ⟨b1, b2, b3, b4, b5, b6, b7, b8, b9, b10⟩ := hI1.rf
  refine r_callV (as := [(0, sc (i + 1)), (0, sc (i + 2))]) (st := []) (K := 12) (pc := 627) hX 25 rfl mo_m_likely ml_L_108 im_m_likely se_m_likely (c_likely g v1 ρ1 Z hI1.gm (sc (i + 1)) (sc (i + 2)) b4 (hsc _) (hsc _)) rfl rfl rfl hI1.gm.1 (by rw [hR]; exact ⟨Nat.le_of_ble_eq_true rfl, Nat.le_of_ble_eq_true rfl⟩) (by rw [hR]; exact ⟨by show cells + 2 + 0 ≤ 601024; omega, by show slots + 12 + 0 ≤ 7293034; omega⟩) (Nat.le_of_ble_eq_true rfl) (fun o2 v2 ρ2 Z2 hq2 _ => ?_)
  obtain ⟨rfl, rfl, hf2, r2, rfl, hp2⟩ := hq2
  have hI2 := LInv.ref hI1 (Fr.out hf2 (by decide)) (show RfI v2 from ⟨by rw [hf2.2 2 (by decide)]; exact b1, by rw [hf2.2 14 (by decide)]; exact b2, by rw [hf2.2 11 (by decide)]; exact b3, by rw [hf2.1 180 (by decide) (by decide)]; exact b4, by rw [hf2.1 180 (by decide) (by decide), hf2.1 187 (by decide) (by decide), hf2.2 25 (by decide)]; exact b5, by rw [hf2.1 209 (by decide) (by decide), hf2.1 207 (by decide) (by decide)]; exact b6, by rw [hf2.1 195 (by decide) (by decide)]; exact b7, by rw [hf2.1 194 (by decide) (by decide)]; exact b8, by rw [hf2.2 45 (by decide)]; exact b9, by rw [hf2.2 49 (by decide)]; exact b10⟩)
  have z1 : v2 (ρ1 4 0) 1 = v1 (ρ1 4 0) 1 := congrFun (Fr.out hf2 (by decide) _ (hI1.lo hI1.w2 (by decide))) 1
  have z2 := hC1.1
  have z3 : v1 178 2 = v 178 2 := congrFun e178 2
  have z0 := hE.1
  have y1 : ∀ k, v2 (ρ1 4 13) k = v1 (ρ1 4 13) k := fun k => congrFun (Fr.out hf2 (by decide) _ (hI1.lo hI1.w62 (by decide))) k
  have y3 : ∀ k, v1 209 k = v 209 k := fun k => congrFun e209 k
  have z4 : v2 178 2 = v1 178 2 := hf2.2 2 (by decide)
  have hw3b : ω (ρ1 (ρ1 4 0) 0) = 3 := hI1.ht.rf hI1.w2 (by decide) rfl
  have g2 : v2 (ρ1 (ρ1 4 0) 0) = v1 (ρ1 (ρ1 4 0) 0) := Fr.out hf2 (by decide) _ (hI1.lo hw3b (by decide))
  have e2 : v2 184 = v1 184 := hf2.1 184 (by decide) (by decide)
  have hT2 : EqT v2 ρ1 := EqT.step hT hr1 e184 e2 e179 (hf2.1 179 (by decide) (by decide)) eB g2 (by omega)
  have hO := Fr.out hf2 (by decide)
  have hK2 := RcK.ref hKc hI1 hO ho5
  have hR2 : EqN v2 ρ1 := EqN.k1 hQ4 hI.ht hI.w4 (TrP.ref hPc hI1 hI1.w4 hO) hK2 (fun k _ _ => by rw [hf2.1 180 (by decide) (by decide), e180]) ((hf2.1 207 (by decide) (by decide)).trans e207) ((hf2.1 209 (by decide) (by decide)).trans e209) (fun k _ _ => congrFun ((hf2.1 183 (by decide) (by decide)).trans e183) k) ((hf2.1 208 (by decide) (by decide)).trans e208)
  have hE2 : EqI v2 ρ1 := ⟨by omega, fun k a b => by rw [y1 k, hC1.2 k a b, show v2 209 k = v1 209 k from congrFun (hf2.1 209 (by decide) (by decide)) k, y3 k]; exact hE.2 k a b⟩
  show wp g X (LF lc_12) (cells + 2) (slots + 12) 630 [(2, 3), (2, 4), (2, 178), (2, 210), (0, i), (0, r1), (3, 0), (3, 0)] [(1, r2)] v2 ρ1 Z
  refine r_lstore (ls' := [(2, 3), (2, 4), (2, 178), (2, 210), (0, i), (0, r1), (1, r2), (3, 0)]) (pc := 630) hX 26 rfl (by decide) rfl ?_
  refine r_goto (pc := 632) hX 27 (tgt := 1410) rfl (by decide) ?_
  refine wp_wid (k := cells + 20) (n := slots + 150) (by omega) (by omega) ?_
  refine r_wk (ls' := lls i) ⟨Or.inr rfl, Or.inr rfl, Or.inr rfl, Or.inr rfl, Or.inr rfl, Or.inl rfl, Or.inl rfl, Or.inr rfl, trivial⟩ ?_
  exact kk _ _ _ _ ⟨⟨⟨hI2, hE2⟩, hT2⟩, hR2, hS1⟩
set_option maxRecDepth 100000 in
def lc_13 : List (Nat × Instr × Nat) := [(635, .aload_n 1, 1), (636, .aload_n 0, 1), (637, .iload 4, 2), (639, .iconst 1, 1), (640, .iadd, 1), (641, .iaload, 1), (642, .aload_n 3, 1), (643, .invokestatic 109, 3), (646, .istore 5, 2), (648, .aload_n 2, 1), (649, .aload_n 0, 1), (650, .iload 4, 2), (652, .iconst 1, 1), (653, .iadd, 1), (654, .iaload, 1), (655, .invokevirtual 112, 3), (658, .lstore 6, 2), (660, .goto 750, 3)]
set_option maxRecDepth 100000 in
theorem lc_13_d : lc_13.all (fun q => decide (decode cL_law q.1 = .ok q.2)) = true := by decide +kernel
set_option maxHeartbeats 4000000 in
set_option maxRecDepth 100000 in
theorem cs_13 {g : Gp} {X : Cx} {N : Int} {sc : Int → Int} (hL : LX g X) (hsc : ∀ k, inR (sc k)) : CaseOk5 g X N sc 635 := by
  intro i cells slots ω v ρ Z hi0 hi1 hc hs hI kk
  obtain ⟨⟨⟨hI, hE⟩, hT⟩, hQ4, hQl, hQs⟩ := hI
  have hw := TrW.of hI.ht hI.w4
  have h8 : 0 ≤ v (ρ 4 6) 1 ∧ v (ρ 4 6) 1 ≤ 8 := hI.ht.rg hw.2.2.2.1 (by decide) rfl
  have hw4 : ω (ρ 4 1) = 4 := hI.ht.rf hI.w4 (by decide) rfl
  have hw3 : ω (ρ (ρ 4 0) 0) = 3 := hI.ht.rf hI.w2 (by decide) rfl
  have hw15 : ω (ρ 4 2) = 15 := hI.ht.rf hI.w4 (by decide) rfl
  have hw21 : ω (ρ 4 3) = 21 := hI.ht.rf hI.w4 (by decide) rfl
  have hX : okX g X (LF lc_13) := okL hL.1 lc_13_d
  have hR := hL.2.1
  show wp g X (LF lc_13) cells slots 635 (lls i) [] v ρ Z
  refine r_aload_n (pc := 635) hX 0 rfl rfl ?_
  refine r_aload_n (pc := 636) hX 1 rfl rfl ?_
  refine r_iload (pc := 637) hX 2 rfl rfl ?_
  refine r_iconst (pc := 639) hX 3 rfl ?_
  refine r_iadd (pc := 640) hX 4 rfl ?_
  refine e_iald (y := sc (i + 1)) (n := N) (pc := 641) hX 5 rfl hI.sk hI.sl (by omega) (by omega) (hI.s3 _) ?_
  refine r_aload_n (pc := 642) hX 6 rfl rfl ?_
  refine r_callSH (as := [(2, 4), (0, sc (i + 1)), (2, 210)]) (st := []) (pc := 643) hX 7 hL.2.2.2 rfl mo_L_nobody ml_L_109 stt_L_nobody (c_LG_nobody g ω v ρ Z hI.ht 4 hI.w4 (sc (i + 1)) 210 hI.o0 hI.ok hI.ol (by decide) hL.2.2.1 (by have := hI.nz; omega) (hsc _)) rfl (by rw [hR]; exact ⟨Nat.le_of_ble_eq_true rfl, Nat.le_of_ble_eq_true rfl⟩) (by rw [hR]; exact ⟨by show cells + 1 ≤ 601024; omega, by show slots + 6 ≤ 7293034; omega⟩) (Nat.le_of_ble_eq_true rfl) (fun o1 v1 ρ1 Z1 hq1 _ => ?_)
  obtain ⟨rfl, hf1, hg1, hh1, r1, rfl, hp1⟩ := hq1
  have hI1 := LInv.cls hI (fun q h n => hf1 q (by rw [h]; decide) n) (fun q h => hg1 q (by rw [h]; decide)) hh1
  have hC1 : EqC (v (ρ 4 0) 1) (v (ρ 4 13)) v1 ρ1 := EqC.fr (congrFun (hg1 4 (by rw [hI.w4]; decide)) 0) (congrFun (hg1 4 (by rw [hI.w4]; decide)) 13) (congrFun (hf1 (ρ 4 0) (by rw [hI.w2]; decide) (by have := hI.lt hI.w2 (by decide); omega)) 1) (fun k _ _ => congrFun (hf1 (ρ 4 13) (by rw [hI.w62]; decide) (by have := hI.lt hI.w62 (by decide); omega)) k)
  have e178 : v1 178 = v 178 := hf1 178 (by rw [hI.wz (r := 178) (by decide) (by decide)]; decide) (by decide)
  have e209 : v1 209 = v 209 := hf1 209 (by rw [hI.wz (r := 209) (by decide) (by decide)]; decide) (by decide)
  have e179 : v1 179 = v 179 := hf1 179 (by rw [hI.wz (r := 179) (by decide) (by decide)]; decide) (by decide)
  have e184 : v1 184 = v 184 := hf1 184 (by rw [hI.wz (r := 184) (by decide) (by decide)]; decide) (by decide)
  have e180 : v1 180 = v 180 := hf1 180 (by rw [hI.wz (r := 180) (by decide) (by decide)]; decide) (by decide)
  have e207 : v1 207 = v 207 := hf1 207 (by rw [hI.wz (r := 207) (by decide) (by decide)]; decide) (by decide)
  have e183 : v1 183 = v 183 := hf1 183 (by rw [hI.wz (r := 183) (by decide) (by decide)]; decide) (by decide)
  have e208 : v1 208 = v 208 := hf1 208 (by rw [hI.wz (r := 208) (by decide) (by decide)]; decide) (by decide)
  have eB : v1 (ρ (ρ 4 0) 0) = v (ρ (ρ 4 0) 0) := hf1 _ (by rw [hw3]; decide) (by have := hI.lt hw3 (by decide); omega)
  have hr1 : ρ1 4 0 = ρ 4 0 ∧ ρ1 4 1 = ρ 4 1 ∧ ρ1 (ρ 4 1) 0 = ρ (ρ 4 1) 0 ∧ ρ1 (ρ 4 0) 0 = ρ (ρ 4 0) 0 := ⟨congrFun (hg1 4 (by rw [hI.w4]; decide)) 0, congrFun (hg1 4 (by rw [hI.w4]; decide)) 1, congrFun (hg1 _ (by rw [hw4]; decide)) 0, congrFun (hg1 _ (by rw [hI.w2]; decide)) 0⟩
  have hKc : RcK ω v ρ v1 ρ1 := fun o L i s h5 h => (h.frO hI.ht h5 (fun r hr => hf1 r (inW_K hr) (by have := hI.lt (c := ω r) rfl (inW_0 hr); omega))).rho (hg1 o (by rw [h5]; decide)) (hg1 _ (by rw [show ω (ρ o 5) = 12 from hI.ht.rf h5 (by decide) rfl]; decide))
  have ho5 : ∀ o, ω o = 5 → ω o = 5 := fun _ h => h
  have hS1 : ρ1 (ρ1 4 2) 0 = ρ1 4 0 ∧ ρ1 (ρ1 4 3) 0 = ρ1 4 0 := ⟨tapS (congrFun (hg1 4 (by rw [hI.w4]; decide)) 0) (congrFun (hg1 4 (by rw [hI.w4]; decide)) 2) (congrFun (hg1 _ (by rw [hw15]; decide)) 0) hQl, tapS (congrFun (hg1 4 (by rw [hI.w4]; decide)) 0) (congrFun (hg1 4 (by rw [hI.w4]; decide)) 3) (congrFun (hg1 _ (by rw [hw21]; decide)) 0) hQs⟩
  have hPc := TrI.old (ρ' := ρ1) (v' := v1) hQ4.1 hw h8.2 (fun r h9 => hg1 r (by rcases h9 with h9 | h9 | h9 | h9 | h9 | h9 <;> rw [h9] <;> decide)) (congrFun (hf1 (ρ 4 6) (by rw [hw.2.2.2.1]; decide) (by have := hI.lt hw.2.2.2.1 (by decide); omega)) 1)
  show wp g X (LF lc_13) (cells + 1) (slots + 6) 646 [(2, 3), (2, 4), (2, 178), (2, 210), (0, i), (3, 0), (3, 0), (3, 0)] [(0, r1)] v1 ρ1 Z
  refine r_istore (ls' := [(2, 3), (2, 4), (2, 178), (2, 210), (0, i), (0, r1), (3, 0), (3, 0)]) (pc := 646) hX 8 rfl (by decide) rfl ?_
  refine r_aload_n (pc := 648) hX 9 rfl rfl ?_
  refine r_aload_n (pc := 649) hX 10 rfl rfl ?_
  refine r_iload (pc := 650) hX 11 rfl rfl ?_
  refine r_iconst (pc := 652) hX 12 rfl ?_
  refine r_iadd (pc := 653) hX 13 rfl ?_
  refine e_iald (y := sc (i + 1)) (n := N) (pc := 654) hX 14 rfl hI1.sk hI1.sl (by omega) (by omega) (hI1.s3 _) ?_
  obtain ⟨b1, b2, b3, b4, b5, b6, b7, b8, b9, b10⟩ := hI1.rf
  refine r_callV (as := [(0, sc (i + 1))]) (st := []) (K := 12) (pc := 655) hX 15 rfl mo_m_nobody ml_L_112 im_m_nobody se_m_nobody (c_nobody g v1 ρ1 Z hI1.gm (sc (i + 1)) b4 (hsc _)) rfl rfl rfl hI1.gm.1 (by rw [hR]; exact ⟨Nat.le_of_ble_eq_true rfl, Nat.le_of_ble_eq_true rfl⟩) (by rw [hR]; exact ⟨by show cells + 1 + 0 ≤ 601024; omega, by show slots + 6 + 0 ≤ 7293034; omega⟩) (Nat.le_of_ble_eq_true rfl) (fun o2 v2 ρ2 Z2 hq2 _ => ?_)
  obtain ⟨rfl, rfl, hf2, r2, rfl, hp2⟩ := hq2
  have hI2 := LInv.ref hI1 (Fr.out hf2 (by decide)) (show RfI v2 from ⟨by rw [hf2.2 2 (by decide)]; exact b1, by rw [hf2.2 14 (by decide)]; exact b2, by rw [hf2.2 11 (by decide)]; exact b3, by rw [hf2.1 180 (by decide) (by decide)]; exact b4, by rw [hf2.1 180 (by decide) (by decide), hf2.1 187 (by decide) (by decide), hf2.2 25 (by decide)]; exact b5, by rw [hf2.1 209 (by decide) (by decide), hf2.1 207 (by decide) (by decide)]; exact b6, by rw [hf2.1 195 (by decide) (by decide)]; exact b7, by rw [hf2.1 194 (by decide) (by decide)]; exact b8, by rw [hf2.2 45 (by decide)]; exact b9, by rw [hf2.2 49 (by decide)]; exact b10⟩)
  have z1 : v2 (ρ1 4 0) 1 = v1 (ρ1 4 0) 1 := congrFun (Fr.out hf2 (by decide) _ (hI1.lo hI1.w2 (by decide))) 1
  have z2 := hC1.1
  have z3 : v1 178 2 = v 178 2 := congrFun e178 2
  have z0 := hE.1
  have y1 : ∀ k, v2 (ρ1 4 13) k = v1 (ρ1 4 13) k := fun k => congrFun (Fr.out hf2 (by decide) _ (hI1.lo hI1.w62 (by decide))) k
  have y3 : ∀ k, v1 209 k = v 209 k := fun k => congrFun e209 k
  have z4 : v2 178 2 = v1 178 2 := hf2.2 2 (by decide)
  have hw3b : ω (ρ1 (ρ1 4 0) 0) = 3 := hI1.ht.rf hI1.w2 (by decide) rfl
  have g2 : v2 (ρ1 (ρ1 4 0) 0) = v1 (ρ1 (ρ1 4 0) 0) := Fr.out hf2 (by decide) _ (hI1.lo hw3b (by decide))
  have e2 : v2 184 = v1 184 := hf2.1 184 (by decide) (by decide)
  have hT2 : EqT v2 ρ1 := EqT.step hT hr1 e184 e2 e179 (hf2.1 179 (by decide) (by decide)) eB g2 (by omega)
  have hO := Fr.out hf2 (by decide)
  have hK2 := RcK.ref hKc hI1 hO ho5
  have hR2 : EqN v2 ρ1 := EqN.k1 hQ4 hI.ht hI.w4 (TrP.ref hPc hI1 hI1.w4 hO) hK2 (fun k _ _ => by rw [hf2.1 180 (by decide) (by decide), e180]) ((hf2.1 207 (by decide) (by decide)).trans e207) ((hf2.1 209 (by decide) (by decide)).trans e209) (fun k _ _ => congrFun ((hf2.1 183 (by decide) (by decide)).trans e183) k) ((hf2.1 208 (by decide) (by decide)).trans e208)
  have hE2 : EqI v2 ρ1 := ⟨by omega, fun k a b => by rw [y1 k, hC1.2 k a b, show v2 209 k = v1 209 k from congrFun (hf2.1 209 (by decide) (by decide)) k, y3 k]; exact hE.2 k a b⟩
  show wp g X (LF lc_13) (cells + 1) (slots + 6) 658 [(2, 3), (2, 4), (2, 178), (2, 210), (0, i), (0, r1), (3, 0), (3, 0)] [(1, r2)] v2 ρ1 Z
  refine r_lstore (ls' := [(2, 3), (2, 4), (2, 178), (2, 210), (0, i), (0, r1), (1, r2), (3, 0)]) (pc := 658) hX 16 rfl (by decide) rfl ?_
  refine r_goto (pc := 660) hX 17 (tgt := 1410) rfl (by decide) ?_
  refine wp_wid (k := cells + 20) (n := slots + 150) (by omega) (by omega) ?_
  refine r_wk (ls' := lls i) ⟨Or.inr rfl, Or.inr rfl, Or.inr rfl, Or.inr rfl, Or.inr rfl, Or.inl rfl, Or.inl rfl, Or.inr rfl, trivial⟩ ?_
  exact kk _ _ _ _ ⟨⟨⟨hI2, hE2⟩, hT2⟩, hR2, hS1⟩
