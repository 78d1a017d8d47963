set_option maxRecDepth 100000 in
def lc_21 : List (Nat × Instr × Nat) := [(889, .aload_n 1, 1), (890, .aload_n 0, 1), (891, .iload 4, 2), (893, .iconst 1, 1), (894, .iadd, 1), (895, .iaload, 1), (896, .invokevirtual 136, 3), (899, .pop, 1), (900, .aload_n 2, 1), (901, .aload_n 0, 1), (902, .iload 4, 2), (904, .iconst 1, 1), (905, .iadd, 1), (906, .iaload, 1), (907, .invokevirtual 139, 3), (910, .pop, 1), (911, .goto 499, 3)]
set_option maxRecDepth 100000 in
theorem lc_21_d : lc_21.all (fun q => decide (decode cL_law q.1 = .ok q.2)) = true := by decide +kernel
set_option maxHeartbeats 4000000 in
set_option maxRecDepth 100000 in
theorem cs_21 {g : Gp} {X : Cx} {N : Int} {sc : Int → Int} (hL : LX g X) (hsc : ∀ k, inR (sc k)) : CaseOk6 g X N sc 889 := by
  intro i cells slots ω v ρ Z hi0 hi1 hc hs hI kk
  obtain ⟨⟨⟨⟨hI, hE⟩, hT⟩, hQ4, hQl, hQs⟩, hF⟩ := hI
  have hw := TrW.of hI.ht hI.w4
  have h8 : 0 ≤ v (ρ 4 6) 1 ∧ v (ρ 4 6) 1 ≤ 8 := hI.ht.rg hw.2.2.2.1 (by decide) rfl
  have hw4 : ω (ρ 4 1) = 4 := hI.ht.rf hI.w4 (by decide) rfl
  have hw3 : ω (ρ (ρ 4 0) 0) = 3 := hI.ht.rf hI.w2 (by decide) rfl
  have hw15 : ω (ρ 4 2) = 15 := hI.ht.rf hI.w4 (by decide) rfl
  have hw21 : ω (ρ 4 3) = 21 := hI.ht.rf hI.w4 (by decide) rfl
  have hX : okX g X (LF lc_21) := okL hL.1 lc_21_d
  have hR := hL.2.1
  show wp g X (LF lc_21) cells slots 889 (lls i) [] v ρ Z
  refine r_aload_n (pc := 889) hX 0 rfl rfl ?_
  refine r_aload_n (pc := 890) hX 1 rfl rfl ?_
  refine r_iload (pc := 891) hX 2 rfl rfl ?_
  refine r_iconst (pc := 893) hX 3 rfl ?_
  refine r_iadd (pc := 894) hX 4 rfl ?_
  refine e_iald (y := sc (i + 1)) (n := N) (pc := 895) hX 5 rfl hI.sk hI.sl (by omega) (by omega) (hI.s3 _) ?_
  refine r_callV (as := [(0, sc (i + 1))]) (st := []) (K := 11) (pc := 896) hX 6 rfl mo_X11_which ml_L_136 im_X11_which se_X11_which (c_X11_which g ω v ρ Z hI.ht 4 hI.w4 (sc (i + 1)) (hsc _)) rfl rfl rfl hI.k4 (by rw [hR]; exact ⟨Nat.le_of_ble_eq_true rfl, Nat.le_of_ble_eq_true rfl⟩) (by rw [hR]; exact ⟨by show cells + 0 ≤ 601024; omega, by show slots + 0 ≤ 7293034; omega⟩) (Nat.le_of_ble_eq_true rfl) (fun o1 v1 ρ1 Z1 hq1 _ => ?_)
  obtain ⟨rfl, hf1, hg1, hh1, r1, rfl, hp1⟩ := hq1
  have hI1 := LInv.cls hI (fun q hq _ => hf1 q (by rw [hq]; decide)) (fun q hq => hg1 q (by rw [hq]; decide)) hh1
  have hC1 : EqC (v (ρ 4 0) 1) (v (ρ 4 13)) v1 ρ1 := EqC.fr (congrFun (hg1 4 (by rw [hI.w4]; decide)) 0) (congrFun (hg1 4 (by rw [hI.w4]; decide)) 13) (congrFun (hf1 (ρ 4 0) (by rw [hI.w2]; decide)) 1) (fun k _ _ => congrFun (hf1 (ρ 4 13) (by rw [hI.w62]; decide)) k)
  have e179 : v1 179 = v 179 := hf1 179 (by rw [hI.wz (r := 179) (by decide) (by decide)]; decide)
  have e184 : v1 184 = v 184 := hf1 184 (by rw [hI.wz (r := 184) (by decide) (by decide)]; decide)
  have eB : v1 (ρ (ρ 4 0) 0) = v (ρ (ρ 4 0) 0) := hf1 _ (by rw [hw3]; decide)
  have hr1 : ρ1 4 0 = ρ 4 0 ∧ ρ1 4 1 = ρ 4 1 ∧ ρ1 (ρ 4 1) 0 = ρ (ρ 4 1) 0 ∧ ρ1 (ρ 4 0) 0 = ρ (ρ 4 0) 0 := ⟨congrFun (hg1 4 (by rw [hI.w4]; decide)) 0, congrFun (hg1 4 (by rw [hI.w4]; decide)) 1, congrFun (hg1 _ (by rw [hw4]; decide)) 0, congrFun (hg1 _ (by rw [hI.w2]; decide)) 0⟩
  have hF1 : v1 (ρ1 4 0) 9 = v (ρ 4 0) 9 := by
    rw [show ρ1 4 0 = ρ 4 0 from congrFun (hg1 4 (by rw [hI.w4]; decide)) 0]
    exact congrFun (hf1 (ρ 4 0) (by rw [hI.w2]; decide)) 9
  have e180 : v1 180 = v 180 := hf1 180 (by rw [hI.wz (r := 180) (by decide) (by decide)]; decide)
  have e207 : v1 207 = v 207 := hf1 207 (by rw [hI.wz (r := 207) (by decide) (by decide)]; decide)
  have e183 : v1 183 = v 183 := hf1 183 (by rw [hI.wz (r := 183) (by decide) (by decide)]; decide)
  have e208 : v1 208 = v 208 := hf1 208 (by rw [hI.wz (r := 208) (by decide) (by decide)]; decide)
  have hKc : RcK ω v ρ v1 ρ1 := RcK.fr hI.ht hf1 hg1 (by decide) (by decide)
  have ho5 : ∀ o, ω o = 5 → ω o = 5 := fun _ h => h
  have hS1 : ρ1 (ρ1 4 2) 0 = ρ1 4 0 ∧ ρ1 (ρ1 4 3) 0 = ρ1 4 0 := ⟨tapS (congrFun (hg1 4 (by rw [hI.w4]; decide)) 0) (congrFun (hg1 4 (by rw [hI.w4]; decide)) 2) (congrFun (hg1 _ (by rw [hw15]; decide)) 0) hQl, tapS (congrFun (hg1 4 (by rw [hI.w4]; decide)) 0) (congrFun (hg1 4 (by rw [hI.w4]; decide)) 3) (congrFun (hg1 _ (by rw [hw21]; decide)) 0) hQs⟩
  have hPc := TrP.fr (v' := v1) hQ4.1 hw hf1 hg1 h8.2 (by decide) (by decide)
  have e178 : v1 178 = v 178 := hf1 178 (by rw [hI.wz (r := 178) (by decide) (by decide)]; decide)
  have e209 : v1 209 = v 209 := hf1 209 (by rw [hI.wz (r := 209) (by decide) (by decide)]; decide)
  show wp g X (LF lc_21) (cells) (slots) 899 [(2, 3), (2, 4), (2, 178), (2, 210), (0, i), (3, 0), (3, 0), (3, 0)] [(0, r1)] v1 ρ1 Z
  refine r_pop (pc := 899) hX 7 rfl (show (0 : Nat) ≠ 1 by decide) ?_
  refine r_aload_n (pc := 900) hX 8 rfl rfl ?_
  refine r_aload_n (pc := 901) hX 9 rfl rfl ?_
  refine r_iload (pc := 902) hX 10 rfl rfl ?_
  refine r_iconst (pc := 904) hX 11 rfl ?_
  refine r_iadd (pc := 905) hX 12 rfl ?_
  refine e_iald (y := sc (i + 1)) (n := N) (pc := 906) hX 13 rfl hI1.sk hI1.sl (by omega) (by omega) (hI1.s3 _) ?_
  obtain ⟨b1, b2, b3, b4, b5, b6, b7, b8, b9, b10⟩ := hI1.rf
  refine r_callV (as := [(0, sc (i + 1))]) (st := []) (K := 12) (pc := 907) hX 14 rfl mo_m_which ml_L_139 im_m_which se_m_which (c_which g v1 ρ1 Z hI1.gm (sc (i + 1)) b4 (hsc _)) rfl rfl rfl hI1.gm.1 (by rw [hR]; exact ⟨Nat.le_of_ble_eq_true rfl, Nat.le_of_ble_eq_true rfl⟩) (by rw [hR]; exact ⟨by show cells + 0 ≤ 601024; omega, by show slots + 0 ≤ 7293034; omega⟩) (Nat.le_of_ble_eq_true rfl) (fun o2 v2 ρ2 Z2 hq2 _ => ?_)
  obtain ⟨rfl, rfl, hf2, r2, rfl, hp2⟩ := hq2
  have hI2 := LInv.ref hI1 (Fr.out hf2 (by decide)) (show RfI v2 from ⟨by rw [hf2.2 2 (by decide)]; exact b1, by rw [hf2.2 14 (by decide)]; exact b2, by rw [hf2.2 11 (by decide)]; exact b3, by rw [hf2.1 180 (by decide) (by decide)]; exact b4, by rw [hf2.1 180 (by decide) (by decide), hf2.1 187 (by decide) (by decide), hf2.2 25 (by decide)]; exact b5, by rw [hf2.1 209 (by decide) (by decide), hf2.1 207 (by decide) (by decide)]; exact b6, by rw [hf2.1 195 (by decide) (by decide)]; exact b7, by rw [hf2.1 194 (by decide) (by decide)]; exact b8, by rw [hf2.2 45 (by decide)]; exact b9, by rw [hf2.2 49 (by decide)]; exact b10⟩)
  have z1 : v2 (ρ1 4 0) 1 = v1 (ρ1 4 0) 1 := congrFun (Fr.out hf2 (by decide) _ (hI1.lo hI1.w2 (by decide))) 1
  have z2 := hC1.1
  have z3 : v1 178 2 = v 178 2 := congrFun e178 2
  have z0 := hE.1
  have y1 : ∀ k, v2 (ρ1 4 13) k = v1 (ρ1 4 13) k := fun k => congrFun (Fr.out hf2 (by decide) _ (hI1.lo hI1.w62 (by decide))) k
  have y3 : ∀ k, v1 209 k = v 209 k := fun k => congrFun e209 k
  have z4 : v2 178 2 = v1 178 2 := hf2.2 2 (by decide)
  have x9 : v2 (ρ1 4 0) 9 = v1 (ρ1 4 0) 9 := congrFun (Fr.out hf2 (by decide) _ (hI1.lo hI1.w2 (by decide))) 9
  have hF2 : v2 (ρ1 4 0) 9 = v2 178 15 := by
    rw [x9, hF1, hf2.2 15 (by decide), e178]
    exact hF
  have hw3b : ω (ρ1 (ρ1 4 0) 0) = 3 := hI1.ht.rf hI1.w2 (by decide) rfl
  have g2 : v2 (ρ1 (ρ1 4 0) 0) = v1 (ρ1 (ρ1 4 0) 0) := Fr.out hf2 (by decide) _ (hI1.lo hw3b (by decide))
  have e2 : v2 184 = v1 184 := hf2.1 184 (by decide) (by decide)
  have hT2 : EqT v2 ρ1 := EqT.step hT hr1 e184 e2 e179 (hf2.1 179 (by decide) (by decide)) eB g2 (by omega)
  have hO := Fr.out hf2 (by decide)
  have hK2 := RcK.ref hKc hI1 hO ho5
  have hR2 : EqN v2 ρ1 := EqN.k1 hQ4 hI.ht hI.w4 (TrP.ref hPc hI1 hI1.w4 hO) hK2 (fun k _ _ => by rw [hf2.1 180 (by decide) (by decide), e180]) ((hf2.1 207 (by decide) (by decide)).trans e207) ((hf2.1 209 (by decide) (by decide)).trans e209) (fun k _ _ => congrFun ((hf2.1 183 (by decide) (by decide)).trans e183) k) ((hf2.1 208 (by decide) (by decide)).trans e208)
  have hE2 : EqI v2 ρ1 := ⟨by omega, fun k a b => by rw [y1 k, hC1.2 k a b, show v2 209 k = v1 209 k from congrFun (hf2.1 209 (by decide) (by decide)) k, y3 k]; exact hE.2 k a b⟩
  show wp g X (LF lc_21) (cells) (slots) 910 [(2, 3), (2, 4), (2, 178), (2, 210), (0, i), (3, 0), (3, 0), (3, 0)] [(0, r2)] v2 ρ1 Z
  refine r_pop (pc := 910) hX 15 rfl (show (0 : Nat) ≠ 1 by decide) ?_
  refine r_goto (pc := 911) hX 16 (tgt := 1410) rfl (by decide) ?_
  refine wp_wid (k := cells + 20) (n := slots + 150) (by omega) (by omega) ?_
  exact kk _ _ _ _ ⟨⟨⟨⟨hI2, hE2⟩, hT2⟩, hR2, hS1⟩, hF2⟩
set_option maxRecDepth 100000 in
def lc_22 : List (Nat × Instr × Nat) := [(914, .aload_n 1, 1), (915, .aload_n 0, 1), (916, .iload 4, 2), (918, .iconst 1, 1), (919, .iadd, 1), (920, .iaload, 1), (921, .invokevirtual 140, 3), (924, .pop, 1), (925, .aload_n 2, 1), (926, .aload_n 0, 1), (927, .iload 4, 2), (929, .iconst 1, 1), (930, .iadd, 1), (931, .iaload, 1), (932, .invokevirtual 143, 3), (935, .pop, 1), (936, .goto 474, 3)]
set_option maxRecDepth 100000 in
theorem lc_22_d : lc_22.all (fun q => decide (decode cL_law q.1 = .ok q.2)) = true := by decide +kernel
set_option maxHeartbeats 4000000 in
set_option maxRecDepth 100000 in
theorem cs_22 {g : Gp} {X : Cx} {N : Int} {sc : Int → Int} (hL : LX g X) (hsc : ∀ k, inR (sc k)) : CaseOk6 g X N sc 914 := by
  intro i cells slots ω v ρ Z hi0 hi1 hc hs hI kk
  obtain ⟨⟨⟨⟨hI, hE⟩, hT⟩, hQ4, hQl, hQs⟩, hF⟩ := hI
  have hw := TrW.of hI.ht hI.w4
  have h8 : 0 ≤ v (ρ 4 6) 1 ∧ v (ρ 4 6) 1 ≤ 8 := hI.ht.rg hw.2.2.2.1 (by decide) rfl
  have hw4 : ω (ρ 4 1) = 4 := hI.ht.rf hI.w4 (by decide) rfl
  have hw3 : ω (ρ (ρ 4 0) 0) = 3 := hI.ht.rf hI.w2 (by decide) rfl
  have hw15 : ω (ρ 4 2) = 15 := hI.ht.rf hI.w4 (by decide) rfl
  have hw21 : ω (ρ 4 3) = 21 := hI.ht.rf hI.w4 (by decide) rfl
  have hX : okX g X (LF lc_22) := okL hL.1 lc_22_d
  have hR := hL.2.1
  show wp g X (LF lc_22) cells slots 914 (lls i) [] v ρ Z
  refine r_aload_n (pc := 914) hX 0 rfl rfl ?_
  refine r_aload_n (pc := 915) hX 1 rfl rfl ?_
  refine r_iload (pc := 916) hX 2 rfl rfl ?_
  refine r_iconst (pc := 918) hX 3 rfl ?_
  refine r_iadd (pc := 919) hX 4 rfl ?_
  refine e_iald (y := sc (i + 1)) (n := N) (pc := 920) hX 5 rfl hI.sk hI.sl (by omega) (by omega) (hI.s3 _) ?_
  refine r_callV (as := [(0, sc (i + 1))]) (st := []) (K := 11) (pc := 921) hX 6 rfl mo_X11_fair ml_L_140 im_X11_fair se_X11_fair (c_X11_fair g ω v ρ Z hI.ht 4 hI.w4 (sc (i + 1)) (hsc _)) rfl rfl rfl hI.k4 (by rw [hR]; exact ⟨Nat.le_of_ble_eq_true rfl, Nat.le_of_ble_eq_true rfl⟩) (by rw [hR]; exact ⟨by show cells + 0 ≤ 601024; omega, by show slots + 0 ≤ 7293034; omega⟩) (Nat.le_of_ble_eq_true rfl) (fun o1 v1 ρ1 Z1 hq1 _ => ?_)
  obtain ⟨rfl, hf1, hg1, hh1, r1, rfl, hp1⟩ := hq1
  have hI1 := LInv.cls hI (fun q hq _ => hf1 q (by rw [hq]; decide)) (fun q hq => hg1 q (by rw [hq]; decide)) hh1
  have hC1 : EqC (v (ρ 4 0) 1) (v (ρ 4 13)) v1 ρ1 := EqC.fr (congrFun (hg1 4 (by rw [hI.w4]; decide)) 0) (congrFun (hg1 4 (by rw [hI.w4]; decide)) 13) (congrFun (hf1 (ρ 4 0) (by rw [hI.w2]; decide)) 1) (fun k _ _ => congrFun (hf1 (ρ 4 13) (by rw [hI.w62]; decide)) k)
  have e179 : v1 179 = v 179 := hf1 179 (by rw [hI.wz (r := 179) (by decide) (by decide)]; decide)
  have e184 : v1 184 = v 184 := hf1 184 (by rw [hI.wz (r := 184) (by decide) (by decide)]; decide)
  have eB : v1 (ρ (ρ 4 0) 0) = v (ρ (ρ 4 0) 0) := hf1 _ (by rw [hw3]; decide)
  have hr1 : ρ1 4 0 = ρ 4 0 ∧ ρ1 4 1 = ρ 4 1 ∧ ρ1 (ρ 4 1) 0 = ρ (ρ 4 1) 0 ∧ ρ1 (ρ 4 0) 0 = ρ (ρ 4 0) 0 := ⟨congrFun (hg1 4 (by rw [hI.w4]; decide)) 0, congrFun (hg1 4 (by rw [hI.w4]; decide)) 1, congrFun (hg1 _ (by rw [hw4]; decide)) 0, congrFun (hg1 _ (by rw [hI.w2]; decide)) 0⟩
  have hF1 : v1 (ρ1 4 0) 9 = v (ρ 4 0) 9 := by
    rw [show ρ1 4 0 = ρ 4 0 from congrFun (hg1 4 (by rw [hI.w4]; decide)) 0]
    exact congrFun (hf1 (ρ 4 0) (by rw [hI.w2]; decide)) 9
  have e180 : v1 180 = v 180 := hf1 180 (by rw [hI.wz (r := 180) (by decide) (by decide)]; decide)
  have e207 : v1 207 = v 207 := hf1 207 (by rw [hI.wz (r := 207) (by decide) (by decide)]; decide)
  have e183 : v1 183 = v 183 := hf1 183 (by rw [hI.wz (r := 183) (by decide) (by decide)]; decide)
  have e208 : v1 208 = v 208 := hf1 208 (by rw [hI.wz (r := 208) (by decide) (by decide)]; decide)
  have hKc : RcK ω v ρ v1 ρ1 := RcK.fr hI.ht hf1 hg1 (by decide) (by decide)
  have ho5 : ∀ o, ω o = 5 → ω o = 5 := fun _ h => h
  have hS1 : ρ1 (ρ1 4 2) 0 = ρ1 4 0 ∧ ρ1 (ρ1 4 3) 0 = ρ1 4 0 := ⟨tapS (congrFun (hg1 4 (by rw [hI.w4]; decide)) 0) (congrFun (hg1 4 (by rw [hI.w4]; decide)) 2) (congrFun (hg1 _ (by rw [hw15]; decide)) 0) hQl, tapS (congrFun (hg1 4 (by rw [hI.w4]; decide)) 0) (congrFun (hg1 4 (by rw [hI.w4]; decide)) 3) (congrFun (hg1 _ (by rw [hw21]; decide)) 0) hQs⟩
  have hPc := TrP.fr (v' := v1) hQ4.1 hw hf1 hg1 h8.2 (by decide) (by decide)
  have e178 : v1 178 = v 178 := hf1 178 (by rw [hI.wz (r := 178) (by decide) (by decide)]; decide)
  have e209 : v1 209 = v 209 := hf1 209 (by rw [hI.wz (r := 209) (by decide) (by decide)]; decide)
  show wp g X (LF lc_22) (cells) (slots) 924 [(2, 3), (2, 4), (2, 178), (2, 210), (0, i), (3, 0), (3, 0), (3, 0)] [(0, r1)] v1 ρ1 Z
  refine r_pop (pc := 924) hX 7 rfl (show (0 : Nat) ≠ 1 by decide) ?_
  refine r_aload_n (pc := 925) hX 8 rfl rfl ?_
  refine r_aload_n (pc := 926) hX 9 rfl rfl ?_
  refine r_iload (pc := 927) hX 10 rfl rfl ?_
  refine r_iconst (pc := 929) hX 11 rfl ?_
  refine r_iadd (pc := 930) hX 12 rfl ?_
  refine e_iald (y := sc (i + 1)) (n := N) (pc := 931) hX 13 rfl hI1.sk hI1.sl (by omega) (by omega) (hI1.s3 _) ?_
  obtain ⟨b1, b2, b3, b4, b5, b6, b7, b8, b9, b10⟩ := hI1.rf
  refine r_callV (as := [(0, sc (i + 1))]) (st := []) (K := 12) (pc := 932) hX 14 rfl mo_m_fair ml_L_143 im_m_fair se_m_fair (c_fair g v1 ρ1 Z hI1.gm (sc (i + 1)) b4 (hsc _)) rfl rfl rfl hI1.gm.1 (by rw [hR]; exact ⟨Nat.le_of_ble_eq_true rfl, Nat.le_of_ble_eq_true rfl⟩) (by rw [hR]; exact ⟨by show cells + 0 ≤ 601024; omega, by show slots + 0 ≤ 7293034; omega⟩) (Nat.le_of_ble_eq_true rfl) (fun o2 v2 ρ2 Z2 hq2 _ => ?_)
  obtain ⟨rfl, rfl, hf2, r2, rfl, hp2⟩ := hq2
  have hI2 := LInv.ref hI1 (Fr.out hf2 (by decide)) (show RfI v2 from ⟨by rw [hf2.2 2 (by decide)]; exact b1, by rw [hf2.2 14 (by decide)]; exact b2, by rw [hf2.2 11 (by decide)]; exact b3, by rw [hf2.1 180 (by decide) (by decide)]; exact b4, by rw [hf2.1 180 (by decide) (by decide), hf2.1 187 (by decide) (by decide), hf2.2 25 (by decide)]; exact b5, by rw [hf2.1 209 (by decide) (by decide), hf2.1 207 (by decide) (by decide)]; exact b6, by rw [hf2.1 195 (by decide) (by decide)]; exact b7, by rw [hf2.1 194 (by decide) (by decide)]; exact b8, by rw [hf2.2 45 (by decide)]; exact b9, by rw [hf2.2 49 (by decide)]; exact b10⟩)
  have z1 : v2 (ρ1 4 0) 1 = v1 (ρ1 4 0) 1 := congrFun (Fr.out hf2 (by decide) _ (hI1.lo hI1.w2 (by decide))) 1
  have z2 := hC1.1
  have z3 : v1 178 2 = v 178 2 := congrFun e178 2
  have z0 := hE.1
  have y1 : ∀ k, v2 (ρ1 4 13) k = v1 (ρ1 4 13) k := fun k => congrFun (Fr.out hf2 (by decide) _ (hI1.lo hI1.w62 (by decide))) k
  have y3 : ∀ k, v1 209 k = v 209 k := fun k => congrFun e209 k
  have z4 : v2 178 2 = v1 178 2 := hf2.2 2 (by decide)
  have x9 : v2 (ρ1 4 0) 9 = v1 (ρ1 4 0) 9 := congrFun (Fr.out hf2 (by decide) _ (hI1.lo hI1.w2 (by decide))) 9
  have hF2 : v2 (ρ1 4 0) 9 = v2 178 15 := by
    rw [x9, hF1, hf2.2 15 (by decide), e178]
    exact hF
  have hw3b : ω (ρ1 (ρ1 4 0) 0) = 3 := hI1.ht.rf hI1.w2 (by decide) rfl
  have g2 : v2 (ρ1 (ρ1 4 0) 0) = v1 (ρ1 (ρ1 4 0) 0) := Fr.out hf2 (by decide) _ (hI1.lo hw3b (by decide))
  have e2 : v2 184 = v1 184 := hf2.1 184 (by decide) (by decide)
  have hT2 : EqT v2 ρ1 := EqT.step hT hr1 e184 e2 e179 (hf2.1 179 (by decide) (by decide)) eB g2 (by omega)
  have hO := Fr.out hf2 (by decide)
  have hK2 := RcK.ref hKc hI1 hO ho5
  have hR2 : EqN v2 ρ1 := EqN.k1 hQ4 hI.ht hI.w4 (TrP.ref hPc hI1 hI1.w4 hO) hK2 (fun k _ _ => by rw [hf2.1 180 (by decide) (by decide), e180]) ((hf2.1 207 (by decide) (by decide)).trans e207) ((hf2.1 209 (by decide) (by decide)).trans e209) (fun k _ _ => congrFun ((hf2.1 183 (by decide) (by decide)).trans e183) k) ((hf2.1 208 (by decide) (by decide)).trans e208)
  have hE2 : EqI v2 ρ1 := ⟨by omega, fun k a b => by rw [y1 k, hC1.2 k a b, show v2 209 k = v1 209 k from congrFun (hf2.1 209 (by decide) (by decide)) k, y3 k]; exact hE.2 k a b⟩
  show wp g X (LF lc_22) (cells) (slots) 935 [(2, 3), (2, 4), (2, 178), (2, 210), (0, i), (3, 0), (3, 0), (3, 0)] [(0, r2)] v2 ρ1 Z
  refine r_pop (pc := 935) hX 15 rfl (show (0 : Nat) ≠ 1 by decide) ?_
  refine r_goto (pc := 936) hX 16 (tgt := 1410) rfl (by decide) ?_
  refine wp_wid (k := cells + 20) (n := slots + 150) (by omega) (by omega) ?_
  exact kk _ _ _ _ ⟨⟨⟨⟨hI2, hE2⟩, hT2⟩, hR2, hS1⟩, hF2⟩
set_option maxRecDepth 100000 in
def lc_23 : List (Nat × Instr × Nat) := [(939, .aload_n 1, 1), (940, .invokevirtual 144, 3), (943, .pop, 1), (944, .aload_n 2, 1), (945, .invokevirtual 147, 3), (948, .pop, 1), (949, .goto 461, 3)]
set_option maxRecDepth 100000 in
theorem lc_23_d : lc_23.all (fun q => decide (decode cL_law q.1 = .ok q.2)) = true := by decide +kernel
set_option maxHeartbeats 4000000 in
set_option maxRecDepth 100000 in
theorem cs_23 {g : Gp} {X : Cx} {N : Int} {sc : Int → Int} (hL : LX g X) (hsc : ∀ k, inR (sc k)) : CaseOk6 g X N sc 939 := by
  intro i cells slots ω v ρ Z hi0 hi1 hc hs hI kk
  obtain ⟨⟨⟨⟨hI, hE⟩, hT⟩, hQ4, hQl, hQs⟩, hF⟩ := hI
  have hw := TrW.of hI.ht hI.w4
  have h8 : 0 ≤ v (ρ 4 6) 1 ∧ v (ρ 4 6) 1 ≤ 8 := hI.ht.rg hw.2.2.2.1 (by decide) rfl
  have hw4 : ω (ρ 4 1) = 4 := hI.ht.rf hI.w4 (by decide) rfl
  have hw3 : ω (ρ (ρ 4 0) 0) = 3 := hI.ht.rf hI.w2 (by decide) rfl
  have hw15 : ω (ρ 4 2) = 15 := hI.ht.rf hI.w4 (by decide) rfl
  have hw21 : ω (ρ 4 3) = 21 := hI.ht.rf hI.w4 (by decide) rfl
  have hX : okX g X (LF lc_23) := okL hL.1 lc_23_d
  have hR := hL.2.1
  show wp g X (LF lc_23) cells slots 939 (lls i) [] v ρ Z
  refine r_aload_n (pc := 939) hX 0 rfl rfl ?_
  refine r_callV (as := []) (st := []) (K := 11) (pc := 940) hX 1 rfl mo_X11_goal ml_L_144 im_X11_goal se_X11_goal (c_X11_goal g ω v ρ Z hI.ht 4 hI.w4) rfl rfl rfl hI.k4 (by rw [hR]; exact ⟨Nat.le_of_ble_eq_true rfl, Nat.le_of_ble_eq_true rfl⟩) (by rw [hR]; exact ⟨by show cells + 0 ≤ 601024; omega, by show slots + 0 ≤ 7293034; omega⟩) (Nat.le_of_ble_eq_true rfl) (fun o1 v1 ρ1 Z1 hq1 _ => ?_)
  obtain ⟨rfl, hf1, hg1, hh1, r1, rfl, hp1⟩ := hq1
  have hI1 := LInv.cls hI (fun q hq _ => hf1 q (by rw [hq]; decide)) (fun q hq => hg1 q (by rw [hq]; decide)) hh1
  have hC1 : EqC (v (ρ 4 0) 1) (v (ρ 4 13)) v1 ρ1 := EqC.fr (congrFun (hg1 4 (by rw [hI.w4]; decide)) 0) (congrFun (hg1 4 (by rw [hI.w4]; decide)) 13) (congrFun (hf1 (ρ 4 0) (by rw [hI.w2]; decide)) 1) (fun k _ _ => congrFun (hf1 (ρ 4 13) (by rw [hI.w62]; decide)) k)
  have e179 : v1 179 = v 179 := hf1 179 (by rw [hI.wz (r := 179) (by decide) (by decide)]; decide)
  have e184 : v1 184 = v 184 := hf1 184 (by rw [hI.wz (r := 184) (by decide) (by decide)]; decide)
  have eB : v1 (ρ (ρ 4 0) 0) = v (ρ (ρ 4 0) 0) := hf1 _ (by rw [hw3]; decide)
  have hr1 : ρ1 4 0 = ρ 4 0 ∧ ρ1 4 1 = ρ 4 1 ∧ ρ1 (ρ 4 1) 0 = ρ (ρ 4 1) 0 ∧ ρ1 (ρ 4 0) 0 = ρ (ρ 4 0) 0 := ⟨congrFun (hg1 4 (by rw [hI.w4]; decide)) 0, congrFun (hg1 4 (by rw [hI.w4]; decide)) 1, congrFun (hg1 _ (by rw [hw4]; decide)) 0, congrFun (hg1 _ (by rw [hI.w2]; decide)) 0⟩
  have hF1 : v1 (ρ1 4 0) 9 = v (ρ 4 0) 9 := by
    rw [show ρ1 4 0 = ρ 4 0 from congrFun (hg1 4 (by rw [hI.w4]; decide)) 0]
    exact congrFun (hf1 (ρ 4 0) (by rw [hI.w2]; decide)) 9
  have e180 : v1 180 = v 180 := hf1 180 (by rw [hI.wz (r := 180) (by decide) (by decide)]; decide)
  have e207 : v1 207 = v 207 := hf1 207 (by rw [hI.wz (r := 207) (by decide) (by decide)]; decide)
  have e183 : v1 183 = v 183 := hf1 183 (by rw [hI.wz (r := 183) (by decide) (by decide)]; decide)
  have e208 : v1 208 = v 208 := hf1 208 (by rw [hI.wz (r := 208) (by decide) (by decide)]; decide)
  have hKc : RcK ω v ρ v1 ρ1 := RcK.fr hI.ht hf1 hg1 (by decide) (by decide)
  have ho5 : ∀ o, ω o = 5 → ω o = 5 := fun _ h => h
  have hS1 : ρ1 (ρ1 4 2) 0 = ρ1 4 0 ∧ ρ1 (ρ1 4 3) 0 = ρ1 4 0 := ⟨tapS (congrFun (hg1 4 (by rw [hI.w4]; decide)) 0) (congrFun (hg1 4 (by rw [hI.w4]; decide)) 2) (congrFun (hg1 _ (by rw [hw15]; decide)) 0) hQl, tapS (congrFun (hg1 4 (by rw [hI.w4]; decide)) 0) (congrFun (hg1 4 (by rw [hI.w4]; decide)) 3) (congrFun (hg1 _ (by rw [hw21]; decide)) 0) hQs⟩
  have hPc := TrP.fr (v' := v1) hQ4.1 hw hf1 hg1 h8.2 (by decide) (by decide)
  have e178 : v1 178 = v 178 := hf1 178 (by rw [hI.wz (r := 178) (by decide) (by decide)]; decide)
  have e209 : v1 209 = v 209 := hf1 209 (by rw [hI.wz (r := 209) (by decide) (by decide)]; decide)
  show wp g X (LF lc_23) (cells) (slots) 943 [(2, 3), (2, 4), (2, 178), (2, 210), (0, i), (3, 0), (3, 0), (3, 0)] [(0, r1)] v1 ρ1 Z
  refine r_pop (pc := 943) hX 2 rfl (show (0 : Nat) ≠ 1 by decide) ?_
  refine r_aload_n (pc := 944) hX 3 rfl rfl ?_
  obtain ⟨b1, b2, b3, b4, b5, b6, b7, b8, b9, b10⟩ := hI1.rf
  refine r_callV (as := []) (st := []) (K := 12) (pc := 945) hX 4 rfl mo_m_goal ml_L_147 im_m_goal se_m_goal (c_goal g v1 ρ1 Z hI1.gm b4) rfl rfl rfl hI1.gm.1 (by rw [hR]; exact ⟨Nat.le_of_ble_eq_true rfl, Nat.le_of_ble_eq_true rfl⟩) (by rw [hR]; exact ⟨by show cells + 0 ≤ 601024; omega, by show slots + 0 ≤ 7293034; omega⟩) (Nat.le_of_ble_eq_true rfl) (fun o2 v2 ρ2 Z2 hq2 _ => ?_)
  obtain ⟨rfl, rfl, hf2, r2, rfl, hp2⟩ := hq2
  have hI2 := LInv.ref hI1 (Fr.out hf2 (by decide)) (show RfI v2 from ⟨by rw [hf2.2 2 (by decide)]; exact b1, by rw [hf2.2 14 (by decide)]; exact b2, by rw [hf2.2 11 (by decide)]; exact b3, by rw [hp2]; exact b4, by rw [hp2, hf2.1 187 (by decide) (by decide), hf2.2 25 (by decide)]; exact b5, by rw [hf2.1 209 (by decide) (by decide), hf2.1 207 (by decide) (by decide)]; exact b6, by rw [hf2.1 195 (by decide) (by decide)]; exact b7, by rw [hf2.1 194 (by decide) (by decide)]; exact b8, by rw [hf2.2 45 (by decide)]; exact b9, by rw [hf2.2 49 (by decide)]; exact b10⟩)
  have z1 : v2 (ρ1 4 0) 1 = v1 (ρ1 4 0) 1 := congrFun (Fr.out hf2 (by decide) _ (hI1.lo hI1.w2 (by decide))) 1
  have z2 := hC1.1
  have z3 : v1 178 2 = v 178 2 := congrFun e178 2
  have z0 := hE.1
  have y1 : ∀ k, v2 (ρ1 4 13) k = v1 (ρ1 4 13) k := fun k => congrFun (Fr.out hf2 (by decide) _ (hI1.lo hI1.w62 (by decide))) k
  have y3 : ∀ k, v1 209 k = v 209 k := fun k => congrFun e209 k
  have z4 : v2 178 2 = v1 178 2 := hf2.2 2 (by decide)
  have x9 : v2 (ρ1 4 0) 9 = v1 (ρ1 4 0) 9 := congrFun (Fr.out hf2 (by decide) _ (hI1.lo hI1.w2 (by decide))) 9
  have hF2 : v2 (ρ1 4 0) 9 = v2 178 15 := by
    rw [x9, hF1, hf2.2 15 (by decide), e178]
    exact hF
  have hw3b : ω (ρ1 (ρ1 4 0) 0) = 3 := hI1.ht.rf hI1.w2 (by decide) rfl
  have g2 : v2 (ρ1 (ρ1 4 0) 0) = v1 (ρ1 (ρ1 4 0) 0) := Fr.out hf2 (by decide) _ (hI1.lo hw3b (by decide))
  have e2 : v2 184 = v1 184 := hf2.1 184 (by decide) (by decide)
  have hT2 : EqT v2 ρ1 := EqT.step hT hr1 e184 e2 e179 (hf2.1 179 (by decide) (by decide)) eB g2 (by omega)
  have hO := Fr.out hf2 (by decide)
  have hK2 := RcK.ref hKc hI1 hO ho5
  have hR2 : EqN v2 ρ1 := EqN.k1 hQ4 hI.ht hI.w4 (TrP.ref hPc hI1 hI1.w4 hO) hK2 (fun k _ _ => by rw [hp2, e180]) ((hf2.1 207 (by decide) (by decide)).trans e207) ((hf2.1 209 (by decide) (by decide)).trans e209) (fun k _ _ => congrFun ((hf2.1 183 (by decide) (by decide)).trans e183) k) ((hf2.1 208 (by decide) (by decide)).trans e208)
  have hE2 : EqI v2 ρ1 := ⟨by omega, fun k a b => by rw [y1 k, hC1.2 k a b, show v2 209 k = v1 209 k from congrFun (hf2.1 209 (by decide) (by decide)) k, y3 k]; exact hE.2 k a b⟩
  show wp g X (LF lc_23) (cells) (slots) 948 [(2, 3), (2, 4), (2, 178), (2, 210), (0, i), (3, 0), (3, 0), (3, 0)] [(0, r2)] v2 ρ1 Z
  refine r_pop (pc := 948) hX 5 rfl (show (0 : Nat) ≠ 1 by decide) ?_
  refine r_goto (pc := 949) hX 6 (tgt := 1410) rfl (by decide) ?_
  refine wp_wid (k := cells + 20) (n := slots + 150) (by omega) (by omega) ?_
  exact kk _ _ _ _ ⟨⟨⟨⟨hI2, hE2⟩, hT2⟩, hR2, hS1⟩, hF2⟩
set_option maxRecDepth 100000 in
def lc_24 : List (Nat × Instr × Nat) := [(952, .aload_n 1, 1), (953, .aload_n 0, 1), (954, .iload 4, 2), (956, .iconst 1, 1), (957, .iadd, 1), (958, .iaload, 1), (959, .aload_n 0, 1), (960, .iload 4, 2), (962, .iconst 2, 1), (963, .iadd, 1), (964, .iaload, 1), (965, .aload_n 3, 1), (966, .invokestatic 148, 3), (969, .istore 5, 2), (971, .aload_n 2, 1), (972, .aload_n 0, 1), (973, .iload 4, 2), (975, .iconst 1, 1), (976, .iadd, 1), (977, .iaload, 1), (978, .aload_n 0, 1), (979, .iload 4, 2), (981, .iconst 2, 1), (982, .iadd, 1), (983, .iaload, 1), (984, .invokevirtual 150, 3), (987, .lstore 6, 2), (989, .goto 421, 3)]
set_option maxRecDepth 100000 in
theorem lc_24_d : lc_24.all (fun q => decide (decode cL_law q.1 = .ok q.2)) = true := by decide +kernel
set_option maxHeartbeats 4000000 in
set_option maxRecDepth 100000 in
theorem cs_24 {g : Gp} {X : Cx} {N : Int} {sc : Int → Int} (hL : LX g X) (hsc : ∀ k, inR (sc k)) : CaseOk6 g X N sc 952 := by
  intro i cells slots ω v ρ Z hi0 hi1 hc hs hI kk
  obtain ⟨⟨⟨⟨hI, hE⟩, hT⟩, hQ4, hQl, hQs⟩, hF⟩ := hI
  have hw := TrW.of hI.ht hI.w4
  have h8 : 0 ≤ v (ρ 4 6) 1 ∧ v (ρ 4 6) 1 ≤ 8 := hI.ht.rg hw.2.2.2.1 (by decide) rfl
  have hw4 : ω (ρ 4 1) = 4 := hI.ht.rf hI.w4 (by decide) rfl
  have hw3 : ω (ρ (ρ 4 0) 0) = 3 := hI.ht.rf hI.w2 (by decide) rfl
  have hw15 : ω (ρ 4 2) = 15 := hI.ht.rf hI.w4 (by decide) rfl
  have hw21 : ω (ρ 4 3) = 21 := hI.ht.rf hI.w4 (by decide) rfl
  have hX : okX g X (LF lc_24) := okL hL.1 lc_24_d
  have hR := hL.2.1
  show wp g X (LF lc_24) cells slots 952 (lls i) [] v ρ Z
  refine r_aload_n (pc := 952) hX 0 rfl rfl ?_
  refine r_aload_n (pc := 953) hX 1 rfl rfl ?_
  refine r_iload (pc := 954) hX 2 rfl rfl ?_
  refine r_iconst (pc := 956) hX 3 rfl ?_
  refine r_iadd (pc := 957) hX 4 rfl ?_
  refine e_iald (y := sc (i + 1)) (n := N) (pc := 958) hX 5 rfl hI.sk hI.sl (by omega) (by omega) (hI.s3 _) ?_
  refine r_aload_n (pc := 959) hX 6 rfl rfl ?_
  refine r_iload (pc := 960) hX 7 rfl rfl ?_
  refine r_iconst (pc := 962) hX 8 rfl ?_
  refine r_iadd (pc := 963) hX 9 rfl ?_
  refine e_iald (y := sc (i + 2)) (n := N) (pc := 964) hX 10 rfl hI.sk hI.sl (by omega) (by omega) (hI.s3 _) ?_
  refine r_aload_n (pc := 965) hX 11 rfl rfl ?_
  refine r_callSH (as := [(2, 4), (0, sc (i + 1)), (0, sc (i + 2)), (2, 210)]) (st := []) (pc := 966) hX 12 hL.2.2.2 rfl mo_L_right ml_L_148 stt_L_right (c_LG_right g ω v ρ Z hI.ht 4 hI.w4 (sc (i + 1)) (sc (i + 2)) 210 hI.o0 hI.ok hI.ol (by decide) hL.2.2.1 (by have := hI.nz; omega) (hsc _) (hsc _)) rfl (by rw [hR]; exact ⟨Nat.le_of_ble_eq_true rfl, Nat.le_of_ble_eq_true rfl⟩) (by rw [hR]; exact ⟨by show cells + 4 ≤ 601024; omega, by show slots + 24 ≤ 7293034; omega⟩) (Nat.le_of_ble_eq_true rfl) (fun o1 v1 ρ1 Z1 hq1 _ => ?_)
  obtain ⟨rfl, hf1, hg1, hh1, r1, rfl, hp1⟩ := hq1
  have hI1 := LInv.cls hI (fun q h n => hf1 q (by rw [h]; decide) n) (fun q h => hg1 q (by rw [h]; decide)) hh1
  have hC1 : EqC (v (ρ 4 0) 1) (v (ρ 4 13)) v1 ρ1 := EqC.fr (congrFun (hg1 4 (by rw [hI.w4]; decide)) 0) (congrFun (hg1 4 (by rw [hI.w4]; decide)) 13) (congrFun (hf1 (ρ 4 0) (by rw [hI.w2]; decide) (by have := hI.lt hI.w2 (by decide); omega)) 1) (fun k _ _ => congrFun (hf1 (ρ 4 13) (by rw [hI.w62]; decide) (by have := hI.lt hI.w62 (by decide); omega)) k)
  have e178 : v1 178 = v 178 := hf1 178 (by rw [hI.wz (r := 178) (by decide) (by decide)]; decide) (by decide)
  have e209 : v1 209 = v 209 := hf1 209 (by rw [hI.wz (r := 209) (by decide) (by decide)]; decide) (by decide)
  have e179 : v1 179 = v 179 := hf1 179 (by rw [hI.wz (r := 179) (by decide) (by decide)]; decide) (by decide)
  have e184 : v1 184 = v 184 := hf1 184 (by rw [hI.wz (r := 184) (by decide) (by decide)]; decide) (by decide)
  have e180 : v1 180 = v 180 := hf1 180 (by rw [hI.wz (r := 180) (by decide) (by decide)]; decide) (by decide)
  have e207 : v1 207 = v 207 := hf1 207 (by rw [hI.wz (r := 207) (by decide) (by decide)]; decide) (by decide)
  have e183 : v1 183 = v 183 := hf1 183 (by rw [hI.wz (r := 183) (by decide) (by decide)]; decide) (by decide)
  have e208 : v1 208 = v 208 := hf1 208 (by rw [hI.wz (r := 208) (by decide) (by decide)]; decide) (by decide)
  have eB : v1 (ρ (ρ 4 0) 0) = v (ρ (ρ 4 0) 0) := hf1 _ (by rw [hw3]; decide) (by have := hI.lt hw3 (by decide); omega)
  have hr1 : ρ1 4 0 = ρ 4 0 ∧ ρ1 4 1 = ρ 4 1 ∧ ρ1 (ρ 4 1) 0 = ρ (ρ 4 1) 0 ∧ ρ1 (ρ 4 0) 0 = ρ (ρ 4 0) 0 := ⟨congrFun (hg1 4 (by rw [hI.w4]; decide)) 0, congrFun (hg1 4 (by rw [hI.w4]; decide)) 1, congrFun (hg1 _ (by rw [hw4]; decide)) 0, congrFun (hg1 _ (by rw [hI.w2]; decide)) 0⟩
  have hKc : RcK ω v ρ v1 ρ1 := fun o L i s h5 h => (h.frO hI.ht h5 (fun r hr => hf1 r (inW_K hr) (by have := hI.lt (c := ω r) rfl (inW_0 hr); omega))).rho (hg1 o (by rw [h5]; decide)) (hg1 _ (by rw [show ω (ρ o 5) = 12 from hI.ht.rf h5 (by decide) rfl]; decide))
  have ho5 : ∀ o, ω o = 5 → ω o = 5 := fun _ h => h
  have hS1 : ρ1 (ρ1 4 2) 0 = ρ1 4 0 ∧ ρ1 (ρ1 4 3) 0 = ρ1 4 0 := ⟨tapS (congrFun (hg1 4 (by rw [hI.w4]; decide)) 0) (congrFun (hg1 4 (by rw [hI.w4]; decide)) 2) (congrFun (hg1 _ (by rw [hw15]; decide)) 0) hQl, tapS (congrFun (hg1 4 (by rw [hI.w4]; decide)) 0) (congrFun (hg1 4 (by rw [hI.w4]; decide)) 3) (congrFun (hg1 _ (by rw [hw21]; decide)) 0) hQs⟩
  have hF1 : v1 (ρ1 4 0) 9 = v (ρ 4 0) 9 := by
    rw [show ρ1 4 0 = ρ 4 0 from congrFun (hg1 4 (by rw [hI.w4]; decide)) 0]
    exact congrFun (hf1 (ρ 4 0) (by rw [hI.w2]; decide) (by have := hI.lt hI.w2 (by decide); omega)) 9
  have hPc := TrI.old (ρ' := ρ1) (v' := v1) hQ4.1 hw h8.2 (fun r h9 => hg1 r (by rcases h9 with h9 | h9 | h9 | h9 | h9 | h9 <;> rw [h9] <;> decide)) (congrFun (hf1 (ρ 4 6) (by rw [hw.2.2.2.1]; decide) (by have := hI.lt hw.2.2.2.1 (by decide); omega)) 1)
  show wp g X (LF lc_24) (cells + 4) (slots + 24) 969 [(2, 3), (2, 4), (2, 178), (2, 210), (0, i), (3, 0), (3, 0), (3, 0)] [(0, r1)] v1 ρ1 Z
  refine r_istore (ls' := [(2, 3), (2, 4), (2, 178), (2, 210), (0, i), (0, r1), (3, 0), (3, 0)]) (pc := 969) hX 13 rfl (by decide) rfl ?_
  refine r_aload_n (pc := 971) hX 14 rfl rfl ?_
  refine r_aload_n (pc := 972) hX 15 rfl rfl ?_
  refine r_iload (pc := 973) hX 16 rfl rfl ?_
  refine r_iconst (pc := 975) hX 17 rfl ?_
  refine r_iadd (pc := 976) hX 18 rfl ?_
  refine e_iald (y := sc (i + 1)) (n := N) (pc := 977) hX 19 rfl hI1.sk hI1.sl (by omega) (by omega) (hI1.s3 _) ?_
  refine r_aload_n (pc := 978) hX 20 rfl rfl ?_
  refine r_iload (pc := 979) hX 21 rfl rfl ?_
  refine r_iconst (pc := 981) hX 22 rfl ?_
  refine r_iadd (pc := 982) hX 23 rfl ?_
  refine e_iald (y := sc (i + 2)) (n := N) (pc := 983) hX 24 rfl hI1.sk hI1.sl (by omega) (by omega) (hI1.s3 _) ?_
  obtain ⟨b1, b2, b3, b4, b5, b6, b7, b8, b9, b10⟩ := hI1.rf
  refine r_callV (as := [(0, sc (i + 1)), (0, sc (i + 2))]) (st := []) (K := 12) (pc := 984) hX 25 rfl mo_m_right ml_L_150 im_m_right se_m_right (c_right g v1 ρ1 Z hI1.gm (sc (i + 1)) (sc (i + 2)) b4 (hsc _) (hsc _)) rfl rfl rfl hI1.gm.1 (by rw [hR]; exact ⟨Nat.le_of_ble_eq_true rfl, Nat.le_of_ble_eq_true rfl⟩) (by rw [hR]; exact ⟨by show cells + 4 + 0 ≤ 601024; omega, by show slots + 24 + 0 ≤ 7293034; omega⟩) (Nat.le_of_ble_eq_true rfl) (fun o2 v2 ρ2 Z2 hq2 _ => ?_)
  obtain ⟨rfl, rfl, hf2, r2, rfl, hp2⟩ := hq2
  have hI2 := LInv.ref hI1 (Fr.out hf2 (by decide)) (show RfI v2 from ⟨by rw [hf2.2 2 (by decide)]; exact b1, by rw [hf2.2 14 (by decide)]; exact b2, by rw [hf2.2 11 (by decide)]; exact b3, by rw [hf2.1 180 (by decide) (by decide)]; exact b4, by rw [hf2.1 180 (by decide) (by decide), hf2.1 187 (by decide) (by decide), hf2.2 25 (by decide)]; exact b5, by rw [hf2.1 209 (by decide) (by decide), hf2.1 207 (by decide) (by decide)]; exact b6, by rw [hf2.1 195 (by decide) (by decide)]; exact b7, by rw [hf2.1 194 (by decide) (by decide)]; exact b8, by rw [hf2.2 45 (by decide)]; exact b9, by rw [hf2.2 49 (by decide)]; exact b10⟩)
  have z1 : v2 (ρ1 4 0) 1 = v1 (ρ1 4 0) 1 := congrFun (Fr.out hf2 (by decide) _ (hI1.lo hI1.w2 (by decide))) 1
  have z2 := hC1.1
  have z3 : v1 178 2 = v 178 2 := congrFun e178 2
  have z0 := hE.1
  have y1 : ∀ k, v2 (ρ1 4 13) k = v1 (ρ1 4 13) k := fun k => congrFun (Fr.out hf2 (by decide) _ (hI1.lo hI1.w62 (by decide))) k
  have y3 : ∀ k, v1 209 k = v 209 k := fun k => congrFun e209 k
  have z4 : v2 178 2 = v1 178 2 := hf2.2 2 (by decide)
  have x9 : v2 (ρ1 4 0) 9 = v1 (ρ1 4 0) 9 := congrFun (Fr.out hf2 (by decide) _ (hI1.lo hI1.w2 (by decide))) 9
  have hF2 : v2 (ρ1 4 0) 9 = v2 178 15 := by
    rw [x9, hF1, hf2.2 15 (by decide), e178]
    exact hF
  have hw3b : ω (ρ1 (ρ1 4 0) 0) = 3 := hI1.ht.rf hI1.w2 (by decide) rfl
  have g2 : v2 (ρ1 (ρ1 4 0) 0) = v1 (ρ1 (ρ1 4 0) 0) := Fr.out hf2 (by decide) _ (hI1.lo hw3b (by decide))
  have e2 : v2 184 = v1 184 := hf2.1 184 (by decide) (by decide)
  have hT2 : EqT v2 ρ1 := EqT.step hT hr1 e184 e2 e179 (hf2.1 179 (by decide) (by decide)) eB g2 (by omega)
  have hO := Fr.out hf2 (by decide)
  have hK2 := RcK.ref hKc hI1 hO ho5
  have hR2 : EqN v2 ρ1 := EqN.k1 hQ4 hI.ht hI.w4 (TrP.ref hPc hI1 hI1.w4 hO) hK2 (fun k _ _ => by rw [hf2.1 180 (by decide) (by decide), e180]) ((hf2.1 207 (by decide) (by decide)).trans e207) ((hf2.1 209 (by decide) (by decide)).trans e209) (fun k _ _ => congrFun ((hf2.1 183 (by decide) (by decide)).trans e183) k) ((hf2.1 208 (by decide) (by decide)).trans e208)
  have hE2 : EqI v2 ρ1 := ⟨by omega, fun k a b => by rw [y1 k, hC1.2 k a b, show v2 209 k = v1 209 k from congrFun (hf2.1 209 (by decide) (by decide)) k, y3 k]; exact hE.2 k a b⟩
  show wp g X (LF lc_24) (cells + 4) (slots + 24) 987 [(2, 3), (2, 4), (2, 178), (2, 210), (0, i), (0, r1), (3, 0), (3, 0)] [(1, r2)] v2 ρ1 Z
  refine r_lstore (ls' := [(2, 3), (2, 4), (2, 178), (2, 210), (0, i), (0, r1), (1, r2), (3, 0)]) (pc := 987) hX 26 rfl (by decide) rfl ?_
  refine r_goto (pc := 989) hX 27 (tgt := 1410) rfl (by decide) ?_
  refine wp_wid (k := cells + 20) (n := slots + 150) (by omega) (by omega) ?_
  refine r_wk (ls' := lls i) ⟨Or.inr rfl, Or.inr rfl, Or.inr rfl, Or.inr rfl, Or.inr rfl, Or.inl rfl, Or.inl rfl, Or.inr rfl, trivial⟩ ?_
  exact kk _ _ _ _ ⟨⟨⟨⟨hI2, hE2⟩, hT2⟩, hR2, hS1⟩, hF2⟩
set_option maxRecDepth 100000 in
def lc_25 : List (Nat × Instr × Nat) := [(992, .aload_n 1, 1), (993, .aload_n 0, 1), (994, .iload 4, 2), (996, .iconst 1, 1), (997, .iadd, 1), (998, .iaload, 1), (999, .invokevirtual 151, 3), (1002, .pop, 1), (1003, .aload_n 2, 1), (1004, .aload_n 0, 1), (1005, .iload 4, 2), (1007, .iconst 1, 1), (1008, .iadd, 1), (1009, .iaload, 1), (1010, .invokevirtual 154, 3), (1013, .pop, 1), (1014, .goto 396, 3)]
set_option maxRecDepth 100000 in
theorem lc_25_d : lc_25.all (fun q => decide (decode cL_law q.1 = .ok q.2)) = true := by decide +kernel
set_option maxHeartbeats 4000000 in
set_option maxRecDepth 100000 in
theorem cs_25 {g : Gp} {X : Cx} {N : Int} {sc : Int → Int} (hL : LX g X) (hsc : ∀ k, inR (sc k)) : CaseOk6 g X N sc 992 := by
  intro i cells slots ω v ρ Z hi0 hi1 hc hs hI kk
  obtain ⟨⟨⟨⟨hI, hE⟩, hT⟩, hQ4, hQl, hQs⟩, hF⟩ := hI
  have hw := TrW.of hI.ht hI.w4
  have h8 : 0 ≤ v (ρ 4 6) 1 ∧ v (ρ 4 6) 1 ≤ 8 := hI.ht.rg hw.2.2.2.1 (by decide) rfl
  have hw4 : ω (ρ 4 1) = 4 := hI.ht.rf hI.w4 (by decide) rfl
  have hw3 : ω (ρ (ρ 4 0) 0) = 3 := hI.ht.rf hI.w2 (by decide) rfl
  have hw15 : ω (ρ 4 2) = 15 := hI.ht.rf hI.w4 (by decide) rfl
  have hw21 : ω (ρ 4 3) = 21 := hI.ht.rf hI.w4 (by decide) rfl
  have hX : okX g X (LF lc_25) := okL hL.1 lc_25_d
  have hR := hL.2.1
  show wp g X (LF lc_25) cells slots 992 (lls i) [] v ρ Z
  refine r_aload_n (pc := 992) hX 0 rfl rfl ?_
  refine r_aload_n (pc := 993) hX 1 rfl rfl ?_
  refine r_iload (pc := 994) hX 2 rfl rfl ?_
  refine r_iconst (pc := 996) hX 3 rfl ?_
  refine r_iadd (pc := 997) hX 4 rfl ?_
  refine e_iald (y := sc (i + 1)) (n := N) (pc := 998) hX 5 rfl hI.sk hI.sl (by omega) (by omega) (hI.s3 _) ?_
  refine r_callV (as := [(0, sc (i + 1))]) (st := []) (K := 11) (pc := 999) hX 6 rfl mo_X11_best ml_L_151 im_X11_best se_X11_best (c_X11_best g ω v ρ Z hI.ht 4 hI.w4 (sc (i + 1)) (hsc _)) rfl rfl rfl hI.k4 (by rw [hR]; exact ⟨Nat.le_of_ble_eq_true rfl, Nat.le_of_ble_eq_true rfl⟩) (by rw [hR]; exact ⟨by show cells + 0 ≤ 601024; omega, by show slots + 0 ≤ 7293034; omega⟩) (Nat.le_of_ble_eq_true rfl) (fun o1 v1 ρ1 Z1 hq1 _ => ?_)
  obtain ⟨rfl, hf1, hg1, hh1, r1, rfl, hp1⟩ := hq1
  have hI1 := LInv.cls hI (fun q hq _ => hf1 q (by rw [hq]; decide)) (fun q hq => hg1 q (by rw [hq]; decide)) hh1
  have hC1 : EqC (v (ρ 4 0) 1) (v (ρ 4 13)) v1 ρ1 := EqC.fr (congrFun (hg1 4 (by rw [hI.w4]; decide)) 0) (congrFun (hg1 4 (by rw [hI.w4]; decide)) 13) (congrFun (hf1 (ρ 4 0) (by rw [hI.w2]; decide)) 1) (fun k _ _ => congrFun (hf1 (ρ 4 13) (by rw [hI.w62]; decide)) k)
  have e179 : v1 179 = v 179 := hf1 179 (by rw [hI.wz (r := 179) (by decide) (by decide)]; decide)
  have e184 : v1 184 = v 184 := hf1 184 (by rw [hI.wz (r := 184) (by decide) (by decide)]; decide)
  have eB : v1 (ρ (ρ 4 0) 0) = v (ρ (ρ 4 0) 0) := hf1 _ (by rw [hw3]; decide)
  have hr1 : ρ1 4 0 = ρ 4 0 ∧ ρ1 4 1 = ρ 4 1 ∧ ρ1 (ρ 4 1) 0 = ρ (ρ 4 1) 0 ∧ ρ1 (ρ 4 0) 0 = ρ (ρ 4 0) 0 := ⟨congrFun (hg1 4 (by rw [hI.w4]; decide)) 0, congrFun (hg1 4 (by rw [hI.w4]; decide)) 1, congrFun (hg1 _ (by rw [hw4]; decide)) 0, congrFun (hg1 _ (by rw [hI.w2]; decide)) 0⟩
  have hF1 : v1 (ρ1 4 0) 9 = v (ρ 4 0) 9 := by
    rw [show ρ1 4 0 = ρ 4 0 from congrFun (hg1 4 (by rw [hI.w4]; decide)) 0]
    exact congrFun (hf1 (ρ 4 0) (by rw [hI.w2]; decide)) 9
  have e180 : v1 180 = v 180 := hf1 180 (by rw [hI.wz (r := 180) (by decide) (by decide)]; decide)
  have e207 : v1 207 = v 207 := hf1 207 (by rw [hI.wz (r := 207) (by decide) (by decide)]; decide)
  have e183 : v1 183 = v 183 := hf1 183 (by rw [hI.wz (r := 183) (by decide) (by decide)]; decide)
  have e208 : v1 208 = v 208 := hf1 208 (by rw [hI.wz (r := 208) (by decide) (by decide)]; decide)
  have hKc : RcK ω v ρ v1 ρ1 := RcK.fr hI.ht hf1 hg1 (by decide) (by decide)
  have ho5 : ∀ o, ω o = 5 → ω o = 5 := fun _ h => h
  have hS1 : ρ1 (ρ1 4 2) 0 = ρ1 4 0 ∧ ρ1 (ρ1 4 3) 0 = ρ1 4 0 := ⟨tapS (congrFun (hg1 4 (by rw [hI.w4]; decide)) 0) (congrFun (hg1 4 (by rw [hI.w4]; decide)) 2) (congrFun (hg1 _ (by rw [hw15]; decide)) 0) hQl, tapS (congrFun (hg1 4 (by rw [hI.w4]; decide)) 0) (congrFun (hg1 4 (by rw [hI.w4]; decide)) 3) (congrFun (hg1 _ (by rw [hw21]; decide)) 0) hQs⟩
  have hPc := TrP.fr (v' := v1) hQ4.1 hw hf1 hg1 h8.2 (by decide) (by decide)
  have e178 : v1 178 = v 178 := hf1 178 (by rw [hI.wz (r := 178) (by decide) (by decide)]; decide)
  have e209 : v1 209 = v 209 := hf1 209 (by rw [hI.wz (r := 209) (by decide) (by decide)]; decide)
  show wp g X (LF lc_25) (cells) (slots) 1002 [(2, 3), (2, 4), (2, 178), (2, 210), (0, i), (3, 0), (3, 0), (3, 0)] [(0, r1)] v1 ρ1 Z
  refine r_pop (pc := 1002) hX 7 rfl (show (0 : Nat) ≠ 1 by decide) ?_
  refine r_aload_n (pc := 1003) hX 8 rfl rfl ?_
  refine r_aload_n (pc := 1004) hX 9 rfl rfl ?_
  refine r_iload (pc := 1005) hX 10 rfl rfl ?_
  refine r_iconst (pc := 1007) hX 11 rfl ?_
  refine r_iadd (pc := 1008) hX 12 rfl ?_
  refine e_iald (y := sc (i + 1)) (n := N) (pc := 1009) hX 13 rfl hI1.sk hI1.sl (by omega) (by omega) (hI1.s3 _) ?_
  obtain ⟨b1, b2, b3, b4, b5, b6, b7, b8, b9, b10⟩ := hI1.rf
  refine r_callV (as := [(0, sc (i + 1))]) (st := []) (K := 12) (pc := 1010) hX 14 rfl mo_m_best ml_L_154 im_m_best se_m_best (c_best g v1 ρ1 Z hI1.gm (sc (i + 1)) b4 (hsc _)) rfl rfl rfl hI1.gm.1 (by rw [hR]; exact ⟨Nat.le_of_ble_eq_true rfl, Nat.le_of_ble_eq_true rfl⟩) (by rw [hR]; exact ⟨by show cells + 0 ≤ 601024; omega, by show slots + 0 ≤ 7293034; omega⟩) (Nat.le_of_ble_eq_true rfl) (fun o2 v2 ρ2 Z2 hq2 _ => ?_)
  obtain ⟨rfl, rfl, hf2, r2, rfl, hp2⟩ := hq2
  have hI2 := LInv.ref hI1 (Fr.out hf2 (by decide)) (show RfI v2 from ⟨by rw [hf2.2 2 (by decide)]; exact b1, by rw [hf2.2 14 (by decide)]; exact b2, by rw [hf2.2 11 (by decide)]; exact b3, by rw [hf2.1 180 (by decide) (by decide)]; exact b4, by rw [hf2.1 180 (by decide) (by decide), hf2.1 187 (by decide) (by decide), hf2.2 25 (by decide)]; exact b5, by rw [hf2.1 209 (by decide) (by decide), hf2.1 207 (by decide) (by decide)]; exact b6, by rw [hf2.1 195 (by decide) (by decide)]; exact b7, by rw [hf2.1 194 (by decide) (by decide)]; exact b8, by rw [hf2.2 45 (by decide)]; exact b9, by rw [hf2.2 49 (by decide)]; exact b10⟩)
  have z1 : v2 (ρ1 4 0) 1 = v1 (ρ1 4 0) 1 := congrFun (Fr.out hf2 (by decide) _ (hI1.lo hI1.w2 (by decide))) 1
  have z2 := hC1.1
  have z3 : v1 178 2 = v 178 2 := congrFun e178 2
  have z0 := hE.1
  have y1 : ∀ k, v2 (ρ1 4 13) k = v1 (ρ1 4 13) k := fun k => congrFun (Fr.out hf2 (by decide) _ (hI1.lo hI1.w62 (by decide))) k
  have y3 : ∀ k, v1 209 k = v 209 k := fun k => congrFun e209 k
  have z4 : v2 178 2 = v1 178 2 := hf2.2 2 (by decide)
  have x9 : v2 (ρ1 4 0) 9 = v1 (ρ1 4 0) 9 := congrFun (Fr.out hf2 (by decide) _ (hI1.lo hI1.w2 (by decide))) 9
  have hF2 : v2 (ρ1 4 0) 9 = v2 178 15 := by
    rw [x9, hF1, hf2.2 15 (by decide), e178]
    exact hF
  have hw3b : ω (ρ1 (ρ1 4 0) 0) = 3 := hI1.ht.rf hI1.w2 (by decide) rfl
  have g2 : v2 (ρ1 (ρ1 4 0) 0) = v1 (ρ1 (ρ1 4 0) 0) := Fr.out hf2 (by decide) _ (hI1.lo hw3b (by decide))
  have e2 : v2 184 = v1 184 := hf2.1 184 (by decide) (by decide)
  have hT2 : EqT v2 ρ1 := EqT.step hT hr1 e184 e2 e179 (hf2.1 179 (by decide) (by decide)) eB g2 (by omega)
  have hO := Fr.out hf2 (by decide)
  have hK2 := RcK.ref hKc hI1 hO ho5
  have hR2 : EqN v2 ρ1 := EqN.k1 hQ4 hI.ht hI.w4 (TrP.ref hPc hI1 hI1.w4 hO) hK2 (fun k _ _ => by rw [hf2.1 180 (by decide) (by decide), e180]) ((hf2.1 207 (by decide) (by decide)).trans e207) ((hf2.1 209 (by decide) (by decide)).trans e209) (fun k _ _ => congrFun ((hf2.1 183 (by decide) (by decide)).trans e183) k) ((hf2.1 208 (by decide) (by decide)).trans e208)
  have hE2 : EqI v2 ρ1 := ⟨by omega, fun k a b => by rw [y1 k, hC1.2 k a b, show v2 209 k = v1 209 k from congrFun (hf2.1 209 (by decide) (by decide)) k, y3 k]; exact hE.2 k a b⟩
  show wp g X (LF lc_25) (cells) (slots) 1013 [(2, 3), (2, 4), (2, 178), (2, 210), (0, i), (3, 0), (3, 0), (3, 0)] [(0, r2)] v2 ρ1 Z
  refine r_pop (pc := 1013) hX 15 rfl (show (0 : Nat) ≠ 1 by decide) ?_
  refine r_goto (pc := 1014) hX 16 (tgt := 1410) rfl (by decide) ?_
  refine wp_wid (k := cells + 20) (n := slots + 150) (by omega) (by omega) ?_
  exact kk _ _ _ _ ⟨⟨⟨⟨hI2, hE2⟩, hT2⟩, hR2, hS1⟩, hF2⟩
set_option maxRecDepth 100000 in
def lc_26 : List (Nat × Instr × Nat) := [(1017, .aload_n 1, 1), (1018, .aload_n 0, 1), (1019, .iload 4, 2), (1021, .iconst 1, 1), (1022, .iadd, 1), (1023, .iaload, 1), (1024, .aload_n 0, 1), (1025, .iload 4, 2), (1027, .iconst 2, 1), (1028, .iadd, 1), (1029, .iaload, 1), (1030, .aload_n 0, 1), (1031, .iload 4, 2), (1033, .iconst 3, 1), (1034, .iadd, 1), (1035, .iaload, 1), (1036, .aload_n 3, 1), (1037, .invokestatic 155, 3), (1040, .istore 5, 2), (1042, .aload_n 2, 1), (1043, .aload_n 0, 1), (1044, .iload 4, 2), (1046, .iconst 1, 1), (1047, .iadd, 1), (1048, .iaload, 1), (1049, .aload_n 0, 1), (1050, .iload 4, 2), (1052, .iconst 2, 1), (1053, .iadd, 1), (1054, .iaload, 1), (1055, .aload_n 0, 1), (1056, .iload 4, 2), (1058, .iconst 3, 1), (1059, .iadd, 1), (1060, .iaload, 1), (1061, .invokevirtual 158, 3), (1064, .lstore 6, 2), (1066, .goto 344, 3)]
set_option maxRecDepth 100000 in
theorem lc_26_d : lc_26.all (fun q => decide (decode cL_law q.1 = .ok q.2)) = true := by decide +kernel
set_option maxHeartbeats 4000000 in
set_option maxRecDepth 100000 in
theorem cs_26 {g : Gp} {X : Cx} {N : Int} {sc : Int → Int} (hL : LX g X) (hsc : ∀ k, inR (sc k)) : CaseOk6 g X N sc 1017 := by
  intro i cells slots ω v ρ Z hi0 hi1 hc hs hI kk
  obtain ⟨⟨⟨⟨hI, hE⟩, hT⟩, hQ4, hQl, hQs⟩, hF⟩ := hI
  have hw := TrW.of hI.ht hI.w4
  have h8 : 0 ≤ v (ρ 4 6) 1 ∧ v (ρ 4 6) 1 ≤ 8 := hI.ht.rg hw.2.2.2.1 (by decide) rfl
  have hw4 : ω (ρ 4 1) = 4 := hI.ht.rf hI.w4 (by decide) rfl
  have hw3 : ω (ρ (ρ 4 0) 0) = 3 := hI.ht.rf hI.w2 (by decide) rfl
  have hw15 : ω (ρ 4 2) = 15 := hI.ht.rf hI.w4 (by decide) rfl
  have hw21 : ω (ρ 4 3) = 21 := hI.ht.rf hI.w4 (by decide) rfl
  have hX : okX g X (LF lc_26) := okL hL.1 lc_26_d
  have hR := hL.2.1
  show wp g X (LF lc_26) cells slots 1017 (lls i) [] v ρ Z
  refine r_aload_n (pc := 1017) hX 0 rfl rfl ?_
  refine r_aload_n (pc := 1018) hX 1 rfl rfl ?_
  refine r_iload (pc := 1019) hX 2 rfl rfl ?_
  refine r_iconst (pc := 1021) hX 3 rfl ?_
  refine r_iadd (pc := 1022) hX 4 rfl ?_
  refine e_iald (y := sc (i + 1)) (n := N) (pc := 1023) hX 5 rfl hI.sk hI.sl (by omega) (by omega) (hI.s3 _) ?_
  refine r_aload_n (pc := 1024) hX 6 rfl rfl ?_
  refine r_iload (pc := 1025) hX 7 rfl rfl ?_
  refine r_iconst (pc := 1027) hX 8 rfl ?_
  refine r_iadd (pc := 1028) hX 9 rfl ?_
  refine e_iald (y := sc (i + 2)) (n := N) (pc := 1029) hX 10 rfl hI.sk hI.sl (by omega) (by omega) (hI.s3 _) ?_
  refine r_aload_n (pc := 1030) hX 11 rfl rfl ?_
  refine r_iload (pc := 1031) hX 12 rfl rfl ?_
  refine r_iconst (pc := 1033) hX 13 rfl ?_
  refine r_iadd (pc := 1034) hX 14 rfl ?_
  refine e_iald (y := sc (i + 3)) (n := N) (pc := 1035) hX 15 rfl hI.sk hI.sl (by omega) (by omega) (hI.s3 _) ?_
  refine r_aload_n (pc := 1036) hX 16 rfl rfl ?_
  refine r_callSH (as := [(2, 4), (0, sc (i + 1)), (0, sc (i + 2)), (0, sc (i + 3)), (2, 210)]) (st := []) (pc := 1037) hX 17 hL.2.2.2 rfl mo_L_also ml_L_155 stt_L_also (c_LG_also g ω v ρ Z hI.ht 4 hI.w4 (sc (i + 1)) (sc (i + 2)) (sc (i + 3)) 210 hI.o0 hI.ok hI.ol (by decide) hL.2.2.1 (by have := hI.nz; omega) (hsc _) (hsc _) (hsc _)) rfl (by rw [hR]; exact ⟨Nat.le_of_ble_eq_true rfl, Nat.le_of_ble_eq_true rfl⟩) (by rw [hR]; exact ⟨by show cells + 3 ≤ 601024; omega, by show slots + 18 ≤ 7293034; omega⟩) (Nat.le_of_ble_eq_true rfl) (fun o1 v1 ρ1 Z1 hq1 _ => ?_)
  obtain ⟨rfl, hf1, hg1, hh1, r1, rfl, hp1⟩ := hq1
  have hI1 := LInv.cls hI (fun q h n => hf1 q (by rw [h]; decide) n) (fun q h => hg1 q (by rw [h]; decide)) hh1
  have hC1 : EqC (v (ρ 4 0) 1) (v (ρ 4 13)) v1 ρ1 := EqC.fr (congrFun (hg1 4 (by rw [hI.w4]; decide)) 0) (congrFun (hg1 4 (by rw [hI.w4]; decide)) 13) (congrFun (hf1 (ρ 4 0) (by rw [hI.w2]; decide) (by have := hI.lt hI.w2 (by decide); omega)) 1) (fun k _ _ => congrFun (hf1 (ρ 4 13) (by rw [hI.w62]; decide) (by have := hI.lt hI.w62 (by decide); omega)) k)
  have e178 : v1 178 = v 178 := hf1 178 (by rw [hI.wz (r := 178) (by decide) (by decide)]; decide) (by decide)
  have e209 : v1 209 = v 209 := hf1 209 (by rw [hI.wz (r := 209) (by decide) (by decide)]; decide) (by decide)
  have e179 : v1 179 = v 179 := hf1 179 (by rw [hI.wz (r := 179) (by decide) (by decide)]; decide) (by decide)
  have e184 : v1 184 = v 184 := hf1 184 (by rw [hI.wz (r := 184) (by decide) (by decide)]; decide) (by decide)
  have e180 : v1 180 = v 180 := hf1 180 (by rw [hI.wz (r := 180) (by decide) (by decide)]; decide) (by decide)
  have e207 : v1 207 = v 207 := hf1 207 (by rw [hI.wz (r := 207) (by decide) (by decide)]; decide) (by decide)
  have e183 : v1 183 = v 183 := hf1 183 (by rw [hI.wz (r := 183) (by decide) (by decide)]; decide) (by decide)
  have e208 : v1 208 = v 208 := hf1 208 (by rw [hI.wz (r := 208) (by decide) (by decide)]; decide) (by decide)
  have eB : v1 (ρ (ρ 4 0) 0) = v (ρ (ρ 4 0) 0) := hf1 _ (by rw [hw3]; decide) (by have := hI.lt hw3 (by decide); omega)
  have hr1 : ρ1 4 0 = ρ 4 0 ∧ ρ1 4 1 = ρ 4 1 ∧ ρ1 (ρ 4 1) 0 = ρ (ρ 4 1) 0 ∧ ρ1 (ρ 4 0) 0 = ρ (ρ 4 0) 0 := ⟨congrFun (hg1 4 (by rw [hI.w4]; decide)) 0, congrFun (hg1 4 (by rw [hI.w4]; decide)) 1, congrFun (hg1 _ (by rw [hw4]; decide)) 0, congrFun (hg1 _ (by rw [hI.w2]; decide)) 0⟩
  have hKc : RcK ω v ρ v1 ρ1 := fun o L i s h5 h => (h.frO hI.ht h5 (fun r hr => hf1 r (inW_K hr) (by have := hI.lt (c := ω r) rfl (inW_0 hr); omega))).rho (hg1 o (by rw [h5]; decide)) (hg1 _ (by rw [show ω (ρ o 5) = 12 from hI.ht.rf h5 (by decide) rfl]; decide))
  have ho5 : ∀ o, ω o = 5 → ω o = 5 := fun _ h => h
  have hS1 : ρ1 (ρ1 4 2) 0 = ρ1 4 0 ∧ ρ1 (ρ1 4 3) 0 = ρ1 4 0 := ⟨tapS (congrFun (hg1 4 (by rw [hI.w4]; decide)) 0) (congrFun (hg1 4 (by rw [hI.w4]; decide)) 2) (congrFun (hg1 _ (by rw [hw15]; decide)) 0) hQl, tapS (congrFun (hg1 4 (by rw [hI.w4]; decide)) 0) (congrFun (hg1 4 (by rw [hI.w4]; decide)) 3) (congrFun (hg1 _ (by rw [hw21]; decide)) 0) hQs⟩
  have hF1 : v1 (ρ1 4 0) 9 = v (ρ 4 0) 9 := by
    rw [show ρ1 4 0 = ρ 4 0 from congrFun (hg1 4 (by rw [hI.w4]; decide)) 0]
    exact congrFun (hf1 (ρ 4 0) (by rw [hI.w2]; decide) (by have := hI.lt hI.w2 (by decide); omega)) 9
  have hPc := TrI.old (ρ' := ρ1) (v' := v1) hQ4.1 hw h8.2 (fun r h9 => hg1 r (by rcases h9 with h9 | h9 | h9 | h9 | h9 | h9 <;> rw [h9] <;> decide)) (congrFun (hf1 (ρ 4 6) (by rw [hw.2.2.2.1]; decide) (by have := hI.lt hw.2.2.2.1 (by decide); omega)) 1)
  show wp g X (LF lc_26) (cells + 3) (slots + 18) 1040 [(2, 3), (2, 4), (2, 178), (2, 210), (0, i), (3, 0), (3, 0), (3, 0)] [(0, r1)] v1 ρ1 Z
  refine r_istore (ls' := [(2, 3), (2, 4), (2, 178), (2, 210), (0, i), (0, r1), (3, 0), (3, 0)]) (pc := 1040) hX 18 rfl (by decide) rfl ?_
  refine r_aload_n (pc := 1042) hX 19 rfl rfl ?_
  refine r_aload_n (pc := 1043) hX 20 rfl rfl ?_
  refine r_iload (pc := 1044) hX 21 rfl rfl ?_
  refine r_iconst (pc := 1046) hX 22 rfl ?_
  refine r_iadd (pc := 1047) hX 23 rfl ?_
  refine e_iald (y := sc (i + 1)) (n := N) (pc := 1048) hX 24 rfl hI1.sk hI1.sl (by omega) (by omega) (hI1.s3 _) ?_
  refine r_aload_n (pc := 1049) hX 25 rfl rfl ?_
  refine r_iload (pc := 1050) hX 26 rfl rfl ?_
  refine r_iconst (pc := 1052) hX 27 rfl ?_
  refine r_iadd (pc := 1053) hX 28 rfl ?_
  refine e_iald (y := sc (i + 2)) (n := N) (pc := 1054) hX 29 rfl hI1.sk hI1.sl (by omega) (by omega) (hI1.s3 _) ?_
  refine r_aload_n (pc := 1055) hX 30 rfl rfl ?_
  refine r_iload (pc := 1056) hX 31 rfl rfl ?_
  refine r_iconst (pc := 1058) hX 32 rfl ?_
  refine r_iadd (pc := 1059) hX 33 rfl ?_
  refine e_iald (y := sc (i + 3)) (n := N) (pc := 1060) hX 34 rfl hI1.sk hI1.sl (by omega) (by omega) (hI1.s3 _) ?_
  obtain ⟨b1, b2, b3, b4, b5, b6, b7, b8, b9, b10⟩ := hI1.rf
  refine r_callV (as := [(0, sc (i + 1)), (0, sc (i + 2)), (0, sc (i + 3))]) (st := []) (K := 12) (pc := 1061) hX 35 rfl mo_m_also ml_L_158 im_m_also se_m_also (c_also g v1 ρ1 Z hI1.gm (sc (i + 1)) (sc (i + 2)) (sc (i + 3)) b4 (hsc _) (hsc _) (hsc _)) rfl rfl rfl hI1.gm.1 (by rw [hR]; exact ⟨Nat.le_of_ble_eq_true rfl, Nat.le_of_ble_eq_true rfl⟩) (by rw [hR]; exact ⟨by show cells + 3 + 0 ≤ 601024; omega, by show slots + 18 + 0 ≤ 7293034; omega⟩) (Nat.le_of_ble_eq_true rfl) (fun o2 v2 ρ2 Z2 hq2 _ => ?_)
  obtain ⟨rfl, rfl, hf2, r2, rfl, hp2⟩ := hq2
  have hI2 := LInv.ref hI1 (Fr.out hf2 (by decide)) (show RfI v2 from ⟨by rw [hf2.2 2 (by decide)]; exact b1, by rw [hf2.2 14 (by decide)]; exact b2, by rw [hf2.2 11 (by decide)]; exact b3, by rw [hf2.1 180 (by decide) (by decide)]; exact b4, by rw [hf2.1 180 (by decide) (by decide), hf2.1 187 (by decide) (by decide), hf2.2 25 (by decide)]; exact b5, by rw [hf2.1 209 (by decide) (by decide), hf2.1 207 (by decide) (by decide)]; exact b6, by rw [hf2.1 195 (by decide) (by decide)]; exact b7, by rw [hf2.1 194 (by decide) (by decide)]; exact b8, by rw [hf2.2 45 (by decide)]; exact b9, by rw [hf2.2 49 (by decide)]; exact b10⟩)
  have z1 : v2 (ρ1 4 0) 1 = v1 (ρ1 4 0) 1 := congrFun (Fr.out hf2 (by decide) _ (hI1.lo hI1.w2 (by decide))) 1
  have z2 := hC1.1
  have z3 : v1 178 2 = v 178 2 := congrFun e178 2
  have z0 := hE.1
  have y1 : ∀ k, v2 (ρ1 4 13) k = v1 (ρ1 4 13) k := fun k => congrFun (Fr.out hf2 (by decide) _ (hI1.lo hI1.w62 (by decide))) k
  have y3 : ∀ k, v1 209 k = v 209 k := fun k => congrFun e209 k
  have z4 : v2 178 2 = v1 178 2 := hf2.2 2 (by decide)
  have x9 : v2 (ρ1 4 0) 9 = v1 (ρ1 4 0) 9 := congrFun (Fr.out hf2 (by decide) _ (hI1.lo hI1.w2 (by decide))) 9
  have hF2 : v2 (ρ1 4 0) 9 = v2 178 15 := by
    rw [x9, hF1, hf2.2 15 (by decide), e178]
    exact hF
  have hw3b : ω (ρ1 (ρ1 4 0) 0) = 3 := hI1.ht.rf hI1.w2 (by decide) rfl
  have g2 : v2 (ρ1 (ρ1 4 0) 0) = v1 (ρ1 (ρ1 4 0) 0) := Fr.out hf2 (by decide) _ (hI1.lo hw3b (by decide))
  have e2 : v2 184 = v1 184 := hf2.1 184 (by decide) (by decide)
  have hT2 : EqT v2 ρ1 := EqT.step hT hr1 e184 e2 e179 (hf2.1 179 (by decide) (by decide)) eB g2 (by omega)
  have hO := Fr.out hf2 (by decide)
  have hK2 := RcK.ref hKc hI1 hO ho5
  have hR2 : EqN v2 ρ1 := EqN.k1 hQ4 hI.ht hI.w4 (TrP.ref hPc hI1 hI1.w4 hO) hK2 (fun k _ _ => by rw [hf2.1 180 (by decide) (by decide), e180]) ((hf2.1 207 (by decide) (by decide)).trans e207) ((hf2.1 209 (by decide) (by decide)).trans e209) (fun k _ _ => congrFun ((hf2.1 183 (by decide) (by decide)).trans e183) k) ((hf2.1 208 (by decide) (by decide)).trans e208)
  have hE2 : EqI v2 ρ1 := ⟨by omega, fun k a b => by rw [y1 k, hC1.2 k a b, show v2 209 k = v1 209 k from congrFun (hf2.1 209 (by decide) (by decide)) k, y3 k]; exact hE.2 k a b⟩
  show wp g X (LF lc_26) (cells + 3) (slots + 18) 1064 [(2, 3), (2, 4), (2, 178), (2, 210), (0, i), (0, r1), (3, 0), (3, 0)] [(1, r2)] v2 ρ1 Z
  refine r_lstore (ls' := [(2, 3), (2, 4), (2, 178), (2, 210), (0, i), (0, r1), (1, r2), (3, 0)]) (pc := 1064) hX 36 rfl (by decide) rfl ?_
  refine r_goto (pc := 1066) hX 37 (tgt := 1410) rfl (by decide) ?_
  refine wp_wid (k := cells + 20) (n := slots + 150) (by omega) (by omega) ?_
  refine r_wk (ls' := lls i) ⟨Or.inr rfl, Or.inr rfl, Or.inr rfl, Or.inr rfl, Or.inr rfl, Or.inl rfl, Or.inl rfl, Or.inr rfl, trivial⟩ ?_
  exact kk _ _ _ _ ⟨⟨⟨⟨hI2, hE2⟩, hT2⟩, hR2, hS1⟩, hF2⟩
set_option maxRecDepth 100000 in
def lc_27 : List (Nat × Instr × Nat) := [(1069, .aload_n 1, 1), (1070, .invokevirtual 159, 3), (1073, .pop, 1), (1074, .aload_n 2, 1), (1075, .invokevirtual 162, 3), (1078, .pop, 1), (1079, .goto 331, 3)]
set_option maxRecDepth 100000 in
theorem lc_27_d : lc_27.all (fun q => decide (decode cL_law q.1 = .ok q.2)) = true := by decide +kernel
set_option maxHeartbeats 4000000 in
set_option maxRecDepth 100000 in
theorem cs_27 {g : Gp} {X : Cx} {N : Int} {sc : Int → Int} (hL : LX g X) (hsc : ∀ k, inR (sc k)) : CaseOk6 g X N sc 1069 := by
  intro i cells slots ω v ρ Z hi0 hi1 hc hs hI kk
  obtain ⟨⟨⟨⟨hI, hE⟩, hT⟩, hQ4, hQl, hQs⟩, hF⟩ := hI
  have hw := TrW.of hI.ht hI.w4
  have h8 : 0 ≤ v (ρ 4 6) 1 ∧ v (ρ 4 6) 1 ≤ 8 := hI.ht.rg hw.2.2.2.1 (by decide) rfl
  have hw4 : ω (ρ 4 1) = 4 := hI.ht.rf hI.w4 (by decide) rfl
  have hw3 : ω (ρ (ρ 4 0) 0) = 3 := hI.ht.rf hI.w2 (by decide) rfl
  have hw15 : ω (ρ 4 2) = 15 := hI.ht.rf hI.w4 (by decide) rfl
  have hw21 : ω (ρ 4 3) = 21 := hI.ht.rf hI.w4 (by decide) rfl
  have hX : okX g X (LF lc_27) := okL hL.1 lc_27_d
  have hR := hL.2.1
  show wp g X (LF lc_27) cells slots 1069 (lls i) [] v ρ Z
  refine r_aload_n (pc := 1069) hX 0 rfl rfl ?_
  refine r_callV (as := []) (st := []) (K := 11) (pc := 1070) hX 1 rfl mo_X11_scores ml_L_159 im_X11_scores se_X11_scores (c_X11_scoresL g ω v ρ Z hI.ht 4 hI.w4) rfl rfl rfl hI.k4 (by rw [hR]; exact ⟨Nat.le_of_ble_eq_true rfl, Nat.le_of_ble_eq_true rfl⟩) (by rw [hR]; exact ⟨by show cells + 0 ≤ 601024; omega, by show slots + 0 ≤ 7293034; omega⟩) (Nat.le_of_ble_eq_true rfl) (fun o1 v1 ρ1 Z1 hq1 _ => ?_)
  obtain ⟨rfl, rfl, hf1, hh1, r1, rfl, hp1⟩ := hq1
  have hI1 := LInv.cls hI (fun q hq _ => hf1 q (by rw [hq]; decide)) (fun _ _ => rfl) hh1
  have hC1 : EqC (v1 (ρ 4 0) 1) (v (ρ 4 13)) v1 ρ := EqC.fr (rfl) (rfl) (rfl) (fun k _ _ => congrFun (hf1 (ρ 4 13) (by rw [hI.w62]; decide)) k)
  have e179 : v1 179 = v 179 := hf1 179 (by rw [hI.wz (r := 179) (by decide) (by decide)]; decide)
  have e184 : v1 184 = v 184 := hf1 184 (by rw [hI.wz (r := 184) (by decide) (by decide)]; decide)
  have eB : v1 (ρ (ρ 4 0) 0) = v (ρ (ρ 4 0) 0) := hf1 _ (by rw [hw3]; decide)
  have hr1 : ρ 4 0 = ρ 4 0 ∧ ρ 4 1 = ρ 4 1 ∧ ρ (ρ 4 1) 0 = ρ (ρ 4 1) 0 ∧ ρ (ρ 4 0) 0 = ρ (ρ 4 0) 0 := ⟨rfl, rfl, rfl, rfl⟩
  have hF1 : v1 (ρ 4 0) 9 = v (ρ 4 0) 9 := by
    rw [show ρ 4 0 = ρ 4 0 from rfl]
    exact hp1.2
  have e180 : v1 180 = v 180 := hf1 180 (by rw [hI.wz (r := 180) (by decide) (by decide)]; decide)
  have e207 : v1 207 = v 207 := hf1 207 (by rw [hI.wz (r := 207) (by decide) (by decide)]; decide)
  have e183 : v1 183 = v 183 := hf1 183 (by rw [hI.wz (r := 183) (by decide) (by decide)]; decide)
  have e208 : v1 208 = v 208 := hf1 208 (by rw [hI.wz (r := 208) (by decide) (by decide)]; decide)
  have hKc : RcK ω v ρ v1 ρ := RcK.fr hI.ht hf1 (FrW.rf (S := [])) (by decide) (by decide)
  have ho5 : ∀ o, ω o = 5 → ω o = 5 := fun _ h => h
  have hS1 : ρ (ρ 4 2) 0 = ρ 4 0 ∧ ρ (ρ 4 3) 0 = ρ 4 0 := ⟨hQl, hQs⟩
  have hPc := TrP.fr (v' := v1) hQ4.1 hw hf1 (FrW.rf (S := [])) h8.2 (by decide) (by decide)
  have e178 : v1 178 = v 178 := hf1 178 (by rw [hI.wz (r := 178) (by decide) (by decide)]; decide)
  have e209 : v1 209 = v 209 := hf1 209 (by rw [hI.wz (r := 209) (by decide) (by decide)]; decide)
  show wp g X (LF lc_27) (cells) (slots) 1073 [(2, 3), (2, 4), (2, 178), (2, 210), (0, i), (3, 0), (3, 0), (3, 0)] [(0, r1)] v1 ρ Z
  refine r_pop (pc := 1073) hX 2 rfl (show (0 : Nat) ≠ 1 by decide) ?_
  refine r_aload_n (pc := 1074) hX 3 rfl rfl ?_
  obtain ⟨b1, b2, b3, b4, b5, b6, b7, b8, b9, b10⟩ := hI1.rf
  refine r_callV (as := []) (st := []) (K := 12) (pc := 1075) hX 4 rfl mo_m_scores ml_L_162 im_m_scores se_m_scores (c_scores g v1 ρ Z hI1.gm b4 b9) rfl rfl rfl hI1.gm.1 (by rw [hR]; exact ⟨Nat.le_of_ble_eq_true rfl, Nat.le_of_ble_eq_true rfl⟩) (by rw [hR]; exact ⟨by show cells + 0 ≤ 601024; omega, by show slots + 0 ≤ 7293034; omega⟩) (Nat.le_of_ble_eq_true rfl) (fun o2 v2 ρ2 Z2 hq2 _ => ?_)
  obtain ⟨rfl, rfl, hf2, r2, rfl, hp2⟩ := hq2
  have hI2 := LInv.ref hI1 (Fr.out hf2 (by decide)) (show RfI v2 from ⟨by rw [hp2.2]; decide, by rw [hf2.2 14 (by decide)]; exact b2, by rw [hf2.2 11 (by decide)]; exact b3, by rw [hf2.1 180 (by decide) (by decide)]; exact b4, by rw [hf2.1 180 (by decide) (by decide), hf2.1 187 (by decide) (by decide), hf2.2 25 (by decide)]; exact b5, by rw [hf2.1 209 (by decide) (by decide), hf2.1 207 (by decide) (by decide)]; exact b6, by rw [hf2.1 195 (by decide) (by decide)]; exact b7, by rw [hf2.1 194 (by decide) (by decide)]; exact b8, hp2.1, by rw [hf2.2 49 (by decide)]; exact b10⟩)
  have z1 : v2 (ρ 4 0) 1 = v1 (ρ 4 0) 1 := congrFun (Fr.out hf2 (by decide) _ (hI1.lo hI1.w2 (by decide))) 1
  have z2 := hC1.1
  have z3 : v1 178 2 = v 178 2 := congrFun e178 2
  have z0 := hE.1
  have y1 : ∀ k, v2 (ρ 4 13) k = v1 (ρ 4 13) k := fun k => congrFun (Fr.out hf2 (by decide) _ (hI1.lo hI1.w62 (by decide))) k
  have y3 : ∀ k, v1 209 k = v 209 k := fun k => congrFun e209 k
  have z4 := hp2.2
  have z5 := hp1
  have x9 : v2 (ρ 4 0) 9 = v1 (ρ 4 0) 9 := congrFun (Fr.out hf2 (by decide) _ (hI1.lo hI1.w2 (by decide))) 9
  have hF2 : v2 (ρ 4 0) 9 = v2 178 15 := by
    rw [x9, hF1, hf2.2 15 (by decide), e178]
    exact hF
  have hw3b : ω (ρ (ρ 4 0) 0) = 3 := hI1.ht.rf hI1.w2 (by decide) rfl
  have g2 : v2 (ρ (ρ 4 0) 0) = v1 (ρ (ρ 4 0) 0) := Fr.out hf2 (by decide) _ (hI1.lo hw3b (by decide))
  have e2 : v2 184 = v1 184 := hf2.1 184 (by decide) (by decide)
  have hT2 : EqT v2 ρ := EqT.step hT hr1 e184 e2 e179 (hf2.1 179 (by decide) (by decide)) eB g2 (by omega)
  have hO := Fr.out hf2 (by decide)
  have hK2 := RcK.ref hKc hI1 hO ho5
  have hR2 : EqN v2 ρ := EqN.k1 hQ4 hI.ht hI.w4 (TrP.ref hPc hI1 hI1.w4 hO) hK2 (fun k _ _ => by rw [hf2.1 180 (by decide) (by decide), e180]) ((hf2.1 207 (by decide) (by decide)).trans e207) ((hf2.1 209 (by decide) (by decide)).trans e209) (fun k _ _ => congrFun ((hf2.1 183 (by decide) (by decide)).trans e183) k) ((hf2.1 208 (by decide) (by decide)).trans e208)
  have hE2 : EqI v2 ρ := ⟨by omega, fun k a b => by rw [y1 k, hC1.2 k a b, show v2 209 k = v1 209 k from congrFun (hf2.1 209 (by decide) (by decide)) k, y3 k]; exact hE.2 k a b⟩
  show wp g X (LF lc_27) (cells) (slots) 1078 [(2, 3), (2, 4), (2, 178), (2, 210), (0, i), (3, 0), (3, 0), (3, 0)] [(0, r2)] v2 ρ Z
  refine r_pop (pc := 1078) hX 5 rfl (show (0 : Nat) ≠ 1 by decide) ?_
  refine r_goto (pc := 1079) hX 6 (tgt := 1410) rfl (by decide) ?_
  refine wp_wid (k := cells + 20) (n := slots + 150) (by omega) (by omega) ?_
  exact kk _ _ _ _ ⟨⟨⟨⟨hI2, hE2⟩, hT2⟩, hR2, hS1⟩, hF2⟩
