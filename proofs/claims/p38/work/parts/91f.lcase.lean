set_option maxRecDepth 100000 in
def lc_35 : List (Nat × Instr × Nat) := [(1272, .aload_n 1, 1), (1273, .aload_n 0, 1), (1274, .iload 4, 2), (1276, .iconst 1, 1), (1277, .iadd, 1), (1278, .iaload, 1), (1279, .invokevirtual 191, 3), (1282, .pop, 1), (1283, .aload_n 2, 1), (1284, .aload_n 0, 1), (1285, .iload 4, 2), (1287, .iconst 1, 1), (1288, .iadd, 1), (1289, .iaload, 1), (1290, .invokevirtual 194, 3), (1293, .pop, 1), (1294, .goto 116, 3)]
set_option maxRecDepth 100000 in
theorem lc_35_d : lc_35.all (fun q => decide (decode cL_law q.1 = .ok q.2)) = true := by decide +kernel
set_option maxHeartbeats 4000000 in
set_option maxRecDepth 100000 in
theorem cs_35 {g : Gp} {X : Cx} {N : Int} {sc : Int → Int} (hL : LX g X) (hsc : ∀ k, inR (sc k)) : CaseOk5 g X N sc 1272 := by
  intro i cells slots ω v ρ Z hi0 hi1 hc hs hI kk
  obtain ⟨⟨⟨hI, hE⟩, hT⟩, hQ4, hQl, hQs⟩ := hI
  have hw := TrW.of hI.ht hI.w4
  have h8 : 0 ≤ v (ρ 4 6) 1 ∧ v (ρ 4 6) 1 ≤ 8 := hI.ht.rg hw.2.2.2.1 (by decide) rfl
  have hw4 : ω (ρ 4 1) = 4 := hI.ht.rf hI.w4 (by decide) rfl
  have hw3 : ω (ρ (ρ 4 0) 0) = 3 := hI.ht.rf hI.w2 (by decide) rfl
  have hw15 : ω (ρ 4 2) = 15 := hI.ht.rf hI.w4 (by decide) rfl
  have hw21 : ω (ρ 4 3) = 21 := hI.ht.rf hI.w4 (by decide) rfl
  have hX : okX g X (LF lc_35) := okL hL.1 lc_35_d
  have hR := hL.2.1
  show wp g X (LF lc_35) cells slots 1272 (lls i) [] v ρ Z
  refine r_aload_n (pc := 1272) hX 0 rfl rfl ?_
  refine r_aload_n (pc := 1273) hX 1 rfl rfl ?_
  refine r_iload (pc := 1274) hX 2 rfl rfl ?_
  refine r_iconst (pc := 1276) hX 3 rfl ?_
  refine r_iadd (pc := 1277) hX 4 rfl ?_
  refine e_iald (y := sc (i + 1)) (n := N) (pc := 1278) hX 5 rfl hI.sk hI.sl (by omega) (by omega) (hI.s3 _) ?_
  refine r_callV (as := [(0, sc (i + 1))]) (st := []) (K := 11) (pc := 1279) hX 6 rfl mo_X11_logged ml_L_191 im_X11_logged se_X11_logged (c_X11_logged g ω v ρ Z hI.ht 4 hI.w4 (sc (i + 1)) (hsc _)) rfl rfl rfl hI.k4 (by rw [hR]; exact ⟨Nat.le_of_ble_eq_true rfl, Nat.le_of_ble_eq_true rfl⟩) (by rw [hR]; exact ⟨by show cells + 0 ≤ 601024; omega, by show slots + 0 ≤ 7293034; omega⟩) (Nat.le_of_ble_eq_true rfl) (fun o1 v1 ρ1 Z1 hq1 _ => ?_)
  obtain ⟨rfl, rfl, rfl, r1, rfl, hp1⟩ := hq1
  have hI1 := hI
  have hC1 : EqC (v (ρ 4 0) 1) (v (ρ 4 13)) v ρ := ⟨rfl, fun _ _ _ => rfl⟩
  have e178 : v 178 = v 178 := rfl
  have e209 : v 209 = v 209 := rfl
  have e179 : v 179 = v 179 := rfl
  have e184 : v 184 = v 184 := rfl
  have eB : v (ρ (ρ 4 0) 0) = v (ρ (ρ 4 0) 0) := rfl
  have e180 : v 180 = v 180 := rfl
  have e207 : v 207 = v 207 := rfl
  have e183 : v 183 = v 183 := rfl
  have e208 : v 208 = v 208 := rfl
  have hS1 : ρ (ρ 4 2) 0 = ρ 4 0 ∧ ρ (ρ 4 3) 0 = ρ 4 0 := ⟨hQl, hQs⟩
  have hKc : RcK ω v ρ v ρ := fun _ _ _ _ _ h => h
  have ho5 : ∀ o, ω o = 5 → ω o = 5 := fun _ h => h
  have hPc := TrP.rf hQ4.1
  have hr1 : ρ 4 0 = ρ 4 0 ∧ ρ 4 1 = ρ 4 1 ∧ ρ (ρ 4 1) 0 = ρ (ρ 4 1) 0 ∧ ρ (ρ 4 0) 0 = ρ (ρ 4 0) 0 := ⟨rfl, rfl, rfl, rfl⟩
  show wp g X (LF lc_35) (cells) (slots) 1282 [(2, 3), (2, 4), (2, 178), (2, 210), (0, i), (3, 0), (3, 0), (3, 0)] [(0, r1)] v ρ Z
  refine r_pop (pc := 1282) hX 7 rfl (show (0 : Nat) ≠ 1 by decide) ?_
  refine r_aload_n (pc := 1283) hX 8 rfl rfl ?_
  refine r_aload_n (pc := 1284) hX 9 rfl rfl ?_
  refine r_iload (pc := 1285) hX 10 rfl rfl ?_
  refine r_iconst (pc := 1287) hX 11 rfl ?_
  refine r_iadd (pc := 1288) hX 12 rfl ?_
  refine e_iald (y := sc (i + 1)) (n := N) (pc := 1289) hX 13 rfl hI1.sk hI1.sl (by omega) (by omega) (hI1.s3 _) ?_
  obtain ⟨b1, b2, b3, b4, b5, b6, b7, b8, b9, b10⟩ := hI1.rf
  refine r_callV (as := [(0, sc (i + 1))]) (st := []) (K := 12) (pc := 1290) hX 14 rfl mo_m_logged ml_L_194 im_m_logged se_m_logged (c_logged g v ρ Z hI1.gm (sc (i + 1)) (hsc _) b10) rfl rfl rfl hI1.gm.1 (by rw [hR]; exact ⟨Nat.le_of_ble_eq_true rfl, Nat.le_of_ble_eq_true rfl⟩) (by rw [hR]; exact ⟨by show cells + 0 ≤ 601024; omega, by show slots + 0 ≤ 7293034; omega⟩) (Nat.le_of_ble_eq_true rfl) (fun o2 v2 ρ2 Z2 hq2 _ => ?_)
  obtain ⟨rfl, rfl, hf2, r2, rfl, hp2⟩ := hq2
  have hI2 := LInv.ref hI1 (Fr.out hf2 (by decide)) (show RfI v2 from ⟨by rw [hf2.2 2 (by decide)]; exact b1, by rw [hf2.2 14 (by decide)]; exact b2, by rw [hf2.2 11 (by decide)]; exact b3, by rw [hf2.1 180 (by decide) (by decide)]; exact b4, by rw [hf2.1 180 (by decide) (by decide), hf2.1 187 (by decide) (by decide), hf2.2 25 (by decide)]; exact b5, by rw [hf2.1 209 (by decide) (by decide), hf2.1 207 (by decide) (by decide)]; exact b6, by rw [hf2.1 195 (by decide) (by decide)]; exact b7, by rw [hf2.1 194 (by decide) (by decide)]; exact b8, by rw [hf2.2 45 (by decide)]; exact b9, by rw [hf2.2 49 (by decide)]; exact b10⟩)
  have z1 : v2 (ρ 4 0) 1 = v (ρ 4 0) 1 := congrFun (Fr.out hf2 (by decide) _ (hI1.lo hI1.w2 (by decide))) 1
  have z2 := hC1.1
  have z3 : v 178 2 = v 178 2 := congrFun e178 2
  have z0 := hE.1
  have y1 : ∀ k, v2 (ρ 4 13) k = v (ρ 4 13) k := fun k => congrFun (Fr.out hf2 (by decide) _ (hI1.lo hI1.w62 (by decide))) k
  have y3 : ∀ k, v 209 k = v 209 k := fun k => congrFun e209 k
  have z4 : v2 178 2 = v 178 2 := hf2.2 2 (by decide)
  have hw3b : ω (ρ (ρ 4 0) 0) = 3 := hI1.ht.rf hI1.w2 (by decide) rfl
  have g2 : v2 (ρ (ρ 4 0) 0) = v (ρ (ρ 4 0) 0) := Fr.out hf2 (by decide) _ (hI1.lo hw3b (by decide))
  have e2 : v2 184 = v 184 := hf2.1 184 (by decide) (by decide)
  have hT2 : EqT v2 ρ := EqT.step hT hr1 e184 e2 e179 (hf2.1 179 (by decide) (by decide)) eB g2 (by omega)
  have hO := Fr.out hf2 (by decide)
  have hK2 := RcK.ref hKc hI1 hO ho5
  have hR2 : EqN v2 ρ := EqN.k1 hQ4 hI.ht hI.w4 (TrP.ref hPc hI1 hI1.w4 hO) hK2 (fun k _ _ => by rw [hf2.1 180 (by decide) (by decide), e180]) ((hf2.1 207 (by decide) (by decide)).trans e207) ((hf2.1 209 (by decide) (by decide)).trans e209) (fun k _ _ => congrFun ((hf2.1 183 (by decide) (by decide)).trans e183) k) ((hf2.1 208 (by decide) (by decide)).trans e208)
  have hE2 : EqI v2 ρ := ⟨by omega, fun k a b => by rw [y1 k, hC1.2 k a b, show v2 209 k = v 209 k from congrFun (hf2.1 209 (by decide) (by decide)) k, y3 k]; exact hE.2 k a b⟩
  show wp g X (LF lc_35) (cells) (slots) 1293 [(2, 3), (2, 4), (2, 178), (2, 210), (0, i), (3, 0), (3, 0), (3, 0)] [(0, r2)] v2 ρ Z
  refine r_pop (pc := 1293) hX 15 rfl (show (0 : Nat) ≠ 1 by decide) ?_
  refine r_goto (pc := 1294) hX 16 (tgt := 1410) rfl (by decide) ?_
  refine wp_wid (k := cells + 20) (n := slots + 150) (by omega) (by omega) ?_
  exact kk _ _ _ _ ⟨⟨⟨hI2, hE2⟩, hT2⟩, hR2, hS1⟩
set_option maxRecDepth 100000 in
def lc_36 : List (Nat × Instr × Nat) := [(1297, .aload_n 1, 1), (1298, .invokevirtual 195, 3), (1301, .aload_n 2, 1), (1302, .invokevirtual 198, 3), (1305, .if_icmp .eq 105, 3), (1308, .iconst 0, 1), (1309, .ireturn, 1)]
set_option maxRecDepth 100000 in
theorem lc_36_d : lc_36.all (fun q => decide (decode cL_law q.1 = .ok q.2)) = true := by decide +kernel
set_option maxHeartbeats 4000000 in
set_option maxRecDepth 100000 in
theorem cs_36 {g : Gp} {X : Cx} {N : Int} {sc : Int → Int} (hL : LX g X) (hsc : ∀ k, inR (sc k)) : CaseOk5 g X N sc 1297 := by
  intro i cells slots ω v ρ Z hi0 hi1 hc hs hI kk
  obtain ⟨⟨⟨hI, hE⟩, hT⟩, hQ4, hQl, hQs⟩ := hI
  have hw := TrW.of hI.ht hI.w4
  have h8 : 0 ≤ v (ρ 4 6) 1 ∧ v (ρ 4 6) 1 ≤ 8 := hI.ht.rg hw.2.2.2.1 (by decide) rfl
  have hw4 : ω (ρ 4 1) = 4 := hI.ht.rf hI.w4 (by decide) rfl
  have hw3 : ω (ρ (ρ 4 0) 0) = 3 := hI.ht.rf hI.w2 (by decide) rfl
  have hw15 : ω (ρ 4 2) = 15 := hI.ht.rf hI.w4 (by decide) rfl
  have hw21 : ω (ρ 4 3) = 21 := hI.ht.rf hI.w4 (by decide) rfl
  obtain ⟨s0, i0, hRc, hRm, hHd, hNs⟩ := hQ4.2.1
  have hX : okX g X (LF lc_36) := okL hL.1 lc_36_d
  have hR := hL.2.1
  show wp g X (LF lc_36) cells slots 1297 (lls i) [] v ρ Z
  refine r_aload_n (pc := 1297) hX 0 rfl rfl ?_
  refine r_callV (as := []) (st := []) (K := 11) (pc := 1298) hX 1 rfl mo_X11_sentence ml_L_195 im_X11_sentence se_X11_sentence (c_X11_sentenceS g ω v ρ Z hI.ht 4 hI.w4 hQs hRc) rfl rfl rfl hI.k4 (by rw [hR]; exact ⟨Nat.le_of_ble_eq_true rfl, Nat.le_of_ble_eq_true rfl⟩) (by rw [hR]; exact ⟨by show cells + 4 ≤ 601024; omega, by show slots + 125 ≤ 7293034; omega⟩) (Nat.le_of_ble_eq_true rfl) (fun o1 v1 ρ1 Z1 hq1 _ => ?_)
  obtain ⟨ω1, ho1, hz1, hf1, hg1, hh1, r1, rfl, hp1⟩ := hq1
  have hI1 := LInv.new hI ho1 hz1 hf1 hg1 (by decide) (by decide) hh1
  have hC1 : EqC 0 (v (ρ 4 13)) v1 ρ1 := ⟨hp1.1, fun k _ _ => by rw [hp1.2.1.2]; exact congrFun (hf1 (ρ 4 13) (hI.ht.lt hI.w62 (by decide)) (by rw [hI.w62]; decide)) k⟩
  have e178 : v1 178 = v 178 := hf1 178 (by have := hI.nz; omega) (by rw [hI.wz (r := 178) (by decide) (by decide)]; decide)
  have e179 : v1 179 = v 179 := hf1 179 (by have := hI.nz; omega) (by rw [hI.wz (r := 179) (by decide) (by decide)]; decide)
  have e184 : v1 184 = v 184 := hf1 184 (by have := hI.nz; omega) (by rw [hI.wz (r := 184) (by decide) (by decide)]; decide)
  have eB : v1 (ρ (ρ 4 0) 0) = v (ρ (ρ 4 0) 0) := hf1 _ (hI.ht.lt hw3 (by decide)) (by rw [hw3]; decide)
  have hr1 : ρ1 4 0 = ρ 4 0 ∧ ρ1 4 1 = ρ 4 1 ∧ ρ1 (ρ 4 1) 0 = ρ (ρ 4 1) 0 ∧ ρ1 (ρ 4 0) 0 = ρ (ρ 4 0) 0 := ⟨hp1.2.1.1, hp1.2.2.1, congrFun (hg1 _ (hI.ht.lt hw4 (by decide)) (by rw [hw4]; decide)) 0, congrFun (hg1 _ (hI.ht.lt hI.w2 (by decide)) (by rw [hI.w2]; decide)) 0⟩
  have e180 : v1 180 = v 180 := hf1 180 (by have := hI.nz; omega) (by rw [hI.wz (r := 180) (by decide) (by decide)]; decide)
  have e207 : v1 207 = v 207 := hf1 207 (by have := hI.nz; omega) (by rw [hI.wz (r := 207) (by decide) (by decide)]; decide)
  have e183 : v1 183 = v 183 := hf1 183 (by have := hI.nz; omega) (by rw [hI.wz (r := 183) (by decide) (by decide)]; decide)
  have e208 : v1 208 = v 208 := hf1 208 (by have := hI.nz; omega) (by rw [hI.wz (r := 208) (by decide) (by decide)]; decide)
  have hKc : RcK ω v ρ v1 ρ1 := fun o L i s h5 h => h.frB hI.ht h5 rfl (fun r hr hw9 => hf1 r hr (fun z => by have z2 := (show ∀ c ∈ [2, 19, 20], inW c = false by decide) _ z; rw [z2] at hw9; cases hw9)) (hg1 o (hI.ht.lt h5 (by decide)) (by rw [h5]; decide)) (hg1 _ (hI.ht.lt (show ω (ρ o 5) = 12 from hI.ht.rf h5 (by decide) rfl) (by decide)) (by rw [show ω (ρ o 5) = 12 from hI.ht.rf h5 (by decide) rfl]; decide))
  have ho5 : ∀ o, ω o = 5 → ω1 o = 5 := fun o h => (ho1 o (hI.ht.lt h (by decide))).trans h
  have hS1 : ρ1 (ρ1 4 2) 0 = ρ1 4 0 ∧ ρ1 (ρ1 4 3) 0 = ρ1 4 0 := ⟨tapS hp1.2.1.1 (hp1.2.2.2.1 2 (by decide)) (congrFun (hg1 _ (hI.ht.lt hw15 (by decide)) (by rw [hw15]; decide)) 0) hQl, tapS hp1.2.1.1 (hp1.2.2.2.1 3 (by decide)) ((hp1.2.2.2.2.2).trans hQs.symm) hQs⟩
  have hPc := TrP.sent (v' := v1) (ρ' := ρ1) hQ4.1 hw h8.2 (fun r h9 => hg1 r (by rcases h9 with h9 | h9 | h9 | h9 | h9 <;> exact hI.ht.lt h9 (by decide)) (by rcases h9 with h9 | h9 | h9 | h9 | h9 <;> rw [h9] <;> decide)) hp1.2.2.2.1 (congrFun (hf1 (ρ 4 6) (hI.ht.lt hw.2.2.2.1 (by decide)) (by rw [hw.2.2.2.1]; decide)) 1)
  have e209 : v1 209 = v 209 := hf1 209 (by have := hI.nz; omega) (by rw [hI.wz (r := 209) (by decide) (by decide)]; decide)
  show wp g X (LF lc_36) (cells + 4) (slots + 125) 1301 [(2, 3), (2, 4), (2, 178), (2, 210), (0, i), (3, 0), (3, 0), (3, 0)] [(0, r1)] v1 ρ1 Z1
  refine r_aload_n (pc := 1301) hX 2 rfl rfl ?_
  obtain ⟨b1, b2, b3, b4, b5, b6, b7, b8, b9, b10⟩ := hI1.rf
  refine r_callV (as := []) (st := [(0, r1)]) (K := 12) (pc := 1302) hX 3 rfl mo_m_sentence ml_L_198 im_m_sentence se_m_sentence (c_sentenceS (N := s0.N) g v1 ρ1 Z1 hI1.gm b4 b5 b1 ⟨b2, b3.1, b3.2⟩ (by rw [e184]; exact hT.2.1) (RdN.nm hRm hNs e180 e183)) rfl rfl rfl hI1.gm.1 (by rw [hR]; exact ⟨Nat.le_of_ble_eq_true rfl, Nat.le_of_ble_eq_true rfl⟩) (by rw [hR]; exact ⟨by show cells + 4 + 0 ≤ 601024; omega, by show slots + 125 + 0 ≤ 7293034; omega⟩) (Nat.le_of_ble_eq_true rfl) (fun o2 v2 ρ2 Z2 hq2 _ => ?_)
  obtain ⟨rfl, rfl, hf2, r2, rfl, hp2⟩ := hq2
  have hI2 := LInv.ref hI1 (Fr.out hf2 (by decide)) (show RfI v2 from ⟨by rw [hp2.2.2.1.2.2.2]; decide, hp2.2.2.1.1, ⟨hp2.2.2.1.2.1, hp2.2.2.1.2.2.1⟩, hp2.1, hp2.2.1, by rw [hf2.1 209 (by decide) (by decide), hf2.1 207 (by decide) (by decide)]; exact b6, by rw [hf2.1 195 (by decide) (by decide)]; exact b7, by rw [hf2.1 194 (by decide) (by decide)]; exact b8, by rw [hf2.2 45 (by decide)]; exact b9, by rw [hf2.2 49 (by decide)]; exact b10⟩)
  have z1 : v2 (ρ1 4 0) 1 = v1 (ρ1 4 0) 1 := congrFun (Fr.out hf2 (by decide) _ (hI1.lo hI1.w2 (by decide))) 1
  have z2 := hC1.1
  have z3 : v1 178 2 = v 178 2 := congrFun e178 2
  have z0 := hE.1
  have y1 : ∀ k, v2 (ρ1 4 13) k = v1 (ρ1 4 13) k := fun k => congrFun (Fr.out hf2 (by decide) _ (hI1.lo hI1.w62 (by decide))) k
  have y3 : ∀ k, v1 209 k = v 209 k := fun k => congrFun e209 k
  have z4 := hp2.2.2.1.2.2.2
  have hw3b : ω1 (ρ1 (ρ1 4 0) 0) = 3 := hI1.ht.rf hI1.w2 (by decide) rfl
  have g2 : v2 (ρ1 (ρ1 4 0) 0) = v1 (ρ1 (ρ1 4 0) 0) := Fr.out hf2 (by decide) _ (hI1.lo hw3b (by decide))
  have e2 : v2 184 = v1 184 := hf2.1 184 (by decide) (by decide)
  have hT2 : EqT v2 ρ1 := EqT.step hT hr1 e184 e2 e179 (hf2.1 179 (by decide) (by decide)) eB g2 (by omega)
  have hO := Fr.out hf2 (by decide)
  have hK2 := RcK.ref hKc hI1 hO ho5
  have hR2 : EqN v2 ρ1 := EqN.k1 hQ4 hI.ht hI.w4 (TrP.ref hPc hI1 hI1.w4 hO) hK2 (fun k _ b => (hp2.2.2.2.1 k b).trans (congrFun e180 k)) ((hf2.1 207 (by decide) (by decide)).trans e207) ((hf2.1 209 (by decide) (by decide)).trans e209) (fun k _ _ => congrFun ((hf2.1 183 (by decide) (by decide)).trans e183) k) ((hf2.1 208 (by decide) (by decide)).trans e208)
  have hE2 : EqI v2 ρ1 := ⟨by omega, fun k a b => by rw [y1 k, hC1.2 k a b, show v2 209 k = v1 209 k from congrFun (hf2.1 209 (by decide) (by decide)) k, y3 k]; exact hE.2 k a b⟩
  show wp g X (LF lc_36) (cells + 4) (slots + 125) 1305 [(2, 3), (2, 4), (2, 178), (2, 210), (0, i), (3, 0), (3, 0), (3, 0)] [(0, r2), (0, r1)] v2 ρ1 Z1
  have er : r1 = r2 := by rw [hp1.2.2.2.2.1, hp2.2.2.2.2, z3, e179, hE.1, cb_eq hT.2.2, e180, hRm.1 0 (by decide) (by decide) (by decide) (by decide) (by decide) (by decide)]
  refine r_icmp_same (pc := 1305) hX 4 (tgt := 1410) rfl (by decide) er ?_
  refine wp_wid (k := cells + 20) (n := slots + 150) (by omega) (by omega) ?_
  exact kk _ _ _ _ ⟨⟨⟨hI2, hE2⟩, hT2⟩, hR2, hS1⟩
set_option maxRecDepth 100000 in
def lc_37 : List (Nat × Instr × Nat) := [(1310, .aload_n 1, 1), (1311, .aload_n 0, 1), (1312, .iload 4, 2), (1314, .iconst 1, 1), (1315, .iadd, 1), (1316, .iaload, 1), (1317, .invokevirtual 199, 3), (1320, .pop, 1), (1321, .aload_n 2, 1), (1322, .aload_n 0, 1), (1323, .iload 4, 2), (1325, .iconst 1, 1), (1326, .iadd, 1), (1327, .iaload, 1), (1328, .invokevirtual 202, 3), (1331, .pop, 1), (1332, .goto 78, 3)]
set_option maxRecDepth 100000 in
theorem lc_37_d : lc_37.all (fun q => decide (decode cL_law q.1 = .ok q.2)) = true := by decide +kernel
set_option maxHeartbeats 4000000 in
set_option maxRecDepth 100000 in
theorem cs_37 {g : Gp} {X : Cx} {N : Int} {sc : Int → Int} (hL : LX g X) (hsc : ∀ k, inR (sc k)) : CaseOk5 g X N sc 1310 := by
  intro i cells slots ω v ρ Z hi0 hi1 hc hs hI kk
  obtain ⟨⟨⟨hI, hE⟩, hT⟩, hQ4, hQl, hQs⟩ := hI
  have hw := TrW.of hI.ht hI.w4
  have h8 : 0 ≤ v (ρ 4 6) 1 ∧ v (ρ 4 6) 1 ≤ 8 := hI.ht.rg hw.2.2.2.1 (by decide) rfl
  have hw4 : ω (ρ 4 1) = 4 := hI.ht.rf hI.w4 (by decide) rfl
  have hw3 : ω (ρ (ρ 4 0) 0) = 3 := hI.ht.rf hI.w2 (by decide) rfl
  have hw15 : ω (ρ 4 2) = 15 := hI.ht.rf hI.w4 (by decide) rfl
  have hw21 : ω (ρ 4 3) = 21 := hI.ht.rf hI.w4 (by decide) rfl
  have hX : okX g X (LF lc_37) := okL hL.1 lc_37_d
  have hR := hL.2.1
  show wp g X (LF lc_37) cells slots 1310 (lls i) [] v ρ Z
  refine r_aload_n (pc := 1310) hX 0 rfl rfl ?_
  refine r_aload_n (pc := 1311) hX 1 rfl rfl ?_
  refine r_iload (pc := 1312) hX 2 rfl rfl ?_
  refine r_iconst (pc := 1314) hX 3 rfl ?_
  refine r_iadd (pc := 1315) hX 4 rfl ?_
  refine e_iald (y := sc (i + 1)) (n := N) (pc := 1316) hX 5 rfl hI.sk hI.sl (by omega) (by omega) (hI.s3 _) ?_
  refine r_callV (as := [(0, sc (i + 1))]) (st := []) (K := 11) (pc := 1317) hX 6 rfl mo_X11_said ml_L_199 im_X11_said se_X11_said (c_X11_said g ω v ρ Z hI.ht 4 hI.w4 (sc (i + 1)) (hsc _)) rfl rfl rfl hI.k4 (by rw [hR]; exact ⟨Nat.le_of_ble_eq_true rfl, Nat.le_of_ble_eq_true rfl⟩) (by rw [hR]; exact ⟨by show cells + 0 ≤ 601024; omega, by show slots + 0 ≤ 7293034; omega⟩) (Nat.le_of_ble_eq_true rfl) (fun o1 v1 ρ1 Z1 hq1 _ => ?_)
  obtain ⟨rfl, rfl, rfl, r1, rfl, hp1⟩ := hq1
  have hI1 := hI
  have hC1 : EqC (v (ρ 4 0) 1) (v (ρ 4 13)) v ρ := ⟨rfl, fun _ _ _ => rfl⟩
  have e178 : v 178 = v 178 := rfl
  have e209 : v 209 = v 209 := rfl
  have e179 : v 179 = v 179 := rfl
  have e184 : v 184 = v 184 := rfl
  have eB : v (ρ (ρ 4 0) 0) = v (ρ (ρ 4 0) 0) := rfl
  have e180 : v 180 = v 180 := rfl
  have e207 : v 207 = v 207 := rfl
  have e183 : v 183 = v 183 := rfl
  have e208 : v 208 = v 208 := rfl
  have hS1 : ρ (ρ 4 2) 0 = ρ 4 0 ∧ ρ (ρ 4 3) 0 = ρ 4 0 := ⟨hQl, hQs⟩
  have hKc : RcK ω v ρ v ρ := fun _ _ _ _ _ h => h
  have ho5 : ∀ o, ω o = 5 → ω o = 5 := fun _ h => h
  have hPc := TrP.rf hQ4.1
  have hr1 : ρ 4 0 = ρ 4 0 ∧ ρ 4 1 = ρ 4 1 ∧ ρ (ρ 4 1) 0 = ρ (ρ 4 1) 0 ∧ ρ (ρ 4 0) 0 = ρ (ρ 4 0) 0 := ⟨rfl, rfl, rfl, rfl⟩
  show wp g X (LF lc_37) (cells) (slots) 1320 [(2, 3), (2, 4), (2, 178), (2, 210), (0, i), (3, 0), (3, 0), (3, 0)] [(0, r1)] v ρ Z
  refine r_pop (pc := 1320) hX 7 rfl (show (0 : Nat) ≠ 1 by decide) ?_
  refine r_aload_n (pc := 1321) hX 8 rfl rfl ?_
  refine r_aload_n (pc := 1322) hX 9 rfl rfl ?_
  refine r_iload (pc := 1323) hX 10 rfl rfl ?_
  refine r_iconst (pc := 1325) hX 11 rfl ?_
  refine r_iadd (pc := 1326) hX 12 rfl ?_
  refine e_iald (y := sc (i + 1)) (n := N) (pc := 1327) hX 13 rfl hI1.sk hI1.sl (by omega) (by omega) (hI1.s3 _) ?_
  obtain ⟨b1, b2, b3, b4, b5, b6, b7, b8, b9, b10⟩ := hI1.rf
  refine r_callV (as := [(0, sc (i + 1))]) (st := []) (K := 12) (pc := 1328) hX 14 rfl mo_m_said ml_L_202 im_m_said se_m_said (c_said g v ρ Z hI1.gm (sc (i + 1)) b4 (hsc _)) rfl rfl rfl hI1.gm.1 (by rw [hR]; exact ⟨Nat.le_of_ble_eq_true rfl, Nat.le_of_ble_eq_true rfl⟩) (by rw [hR]; exact ⟨by show cells + 0 ≤ 601024; omega, by show slots + 0 ≤ 7293034; omega⟩) (Nat.le_of_ble_eq_true rfl) (fun o2 v2 ρ2 Z2 hq2 _ => ?_)
  obtain ⟨rfl, rfl, hf2, r2, rfl, hp2⟩ := hq2
  have hI2 := LInv.ref hI1 (Fr.out hf2 (by decide)) (show RfI v2 from ⟨by rw [hf2.2 2 (by decide)]; exact b1, by rw [hf2.2 14 (by decide)]; exact b2, by rw [hf2.2 11 (by decide)]; exact b3, by rw [hf2.1 180 (by decide) (by decide)]; exact b4, by rw [hf2.1 180 (by decide) (by decide), hf2.1 187 (by decide) (by decide), hf2.2 25 (by decide)]; exact b5, by rw [hf2.1 209 (by decide) (by decide), hf2.1 207 (by decide) (by decide)]; exact b6, by rw [hf2.1 195 (by decide) (by decide)]; exact b7, by rw [hf2.1 194 (by decide) (by decide)]; exact b8, by rw [hf2.2 45 (by decide)]; exact b9, by rw [hf2.2 49 (by decide)]; exact b10⟩)
  have z1 : v2 (ρ 4 0) 1 = v (ρ 4 0) 1 := congrFun (Fr.out hf2 (by decide) _ (hI1.lo hI1.w2 (by decide))) 1
  have z2 := hC1.1
  have z3 : v 178 2 = v 178 2 := congrFun e178 2
  have z0 := hE.1
  have y1 : ∀ k, v2 (ρ 4 13) k = v (ρ 4 13) k := fun k => congrFun (Fr.out hf2 (by decide) _ (hI1.lo hI1.w62 (by decide))) k
  have y3 : ∀ k, v 209 k = v 209 k := fun k => congrFun e209 k
  have z4 : v2 178 2 = v 178 2 := hf2.2 2 (by decide)
  have hw3b : ω (ρ (ρ 4 0) 0) = 3 := hI1.ht.rf hI1.w2 (by decide) rfl
  have g2 : v2 (ρ (ρ 4 0) 0) = v (ρ (ρ 4 0) 0) := Fr.out hf2 (by decide) _ (hI1.lo hw3b (by decide))
  have e2 : v2 184 = v 184 := hf2.1 184 (by decide) (by decide)
  have hT2 : EqT v2 ρ := EqT.step hT hr1 e184 e2 e179 (hf2.1 179 (by decide) (by decide)) eB g2 (by omega)
  have hO := Fr.out hf2 (by decide)
  have hK2 := RcK.ref hKc hI1 hO ho5
  have hR2 : EqN v2 ρ := EqN.k1 hQ4 hI.ht hI.w4 (TrP.ref hPc hI1 hI1.w4 hO) hK2 (fun k _ _ => by rw [hf2.1 180 (by decide) (by decide), e180]) ((hf2.1 207 (by decide) (by decide)).trans e207) ((hf2.1 209 (by decide) (by decide)).trans e209) (fun k _ _ => congrFun ((hf2.1 183 (by decide) (by decide)).trans e183) k) ((hf2.1 208 (by decide) (by decide)).trans e208)
  have hE2 : EqI v2 ρ := ⟨by omega, fun k a b => by rw [y1 k, hC1.2 k a b, show v2 209 k = v 209 k from congrFun (hf2.1 209 (by decide) (by decide)) k, y3 k]; exact hE.2 k a b⟩
  show wp g X (LF lc_37) (cells) (slots) 1331 [(2, 3), (2, 4), (2, 178), (2, 210), (0, i), (3, 0), (3, 0), (3, 0)] [(0, r2)] v2 ρ Z
  refine r_pop (pc := 1331) hX 15 rfl (show (0 : Nat) ≠ 1 by decide) ?_
  refine r_goto (pc := 1332) hX 16 (tgt := 1410) rfl (by decide) ?_
  refine wp_wid (k := cells + 20) (n := slots + 150) (by omega) (by omega) ?_
  exact kk _ _ _ _ ⟨⟨⟨hI2, hE2⟩, hT2⟩, hR2, hS1⟩
set_option maxRecDepth 100000 in
def lc_38 : List (Nat × Instr × Nat) := [(1335, .aload_n 1, 1), (1336, .aload_n 0, 1), (1337, .iload 4, 2), (1339, .iconst 1, 1), (1340, .iadd, 1), (1341, .iaload, 1), (1342, .invokevirtual 203, 3), (1345, .pop, 1), (1346, .aload_n 2, 1), (1347, .aload_n 0, 1), (1348, .iload 4, 2), (1350, .iconst 1, 1), (1351, .iadd, 1), (1352, .iaload, 1), (1353, .invokevirtual 206, 3), (1356, .pop, 1), (1357, .goto 53, 3)]
set_option maxRecDepth 100000 in
theorem lc_38_d : lc_38.all (fun q => decide (decode cL_law q.1 = .ok q.2)) = true := by decide +kernel
set_option maxHeartbeats 4000000 in
set_option maxRecDepth 100000 in
theorem cs_38 {g : Gp} {X : Cx} {N : Int} {sc : Int → Int} (hL : LX g X) (hsc : ∀ k, inR (sc k)) : CaseOk5 g X N sc 1335 := by
  intro i cells slots ω v ρ Z hi0 hi1 hc hs hI kk
  obtain ⟨⟨⟨hI, hE⟩, hT⟩, hQ4, hQl, hQs⟩ := hI
  have hw := TrW.of hI.ht hI.w4
  have h8 : 0 ≤ v (ρ 4 6) 1 ∧ v (ρ 4 6) 1 ≤ 8 := hI.ht.rg hw.2.2.2.1 (by decide) rfl
  have hw4 : ω (ρ 4 1) = 4 := hI.ht.rf hI.w4 (by decide) rfl
  have hw3 : ω (ρ (ρ 4 0) 0) = 3 := hI.ht.rf hI.w2 (by decide) rfl
  have hw15 : ω (ρ 4 2) = 15 := hI.ht.rf hI.w4 (by decide) rfl
  have hw21 : ω (ρ 4 3) = 21 := hI.ht.rf hI.w4 (by decide) rfl
  have hX : okX g X (LF lc_38) := okL hL.1 lc_38_d
  have hR := hL.2.1
  show wp g X (LF lc_38) cells slots 1335 (lls i) [] v ρ Z
  refine r_aload_n (pc := 1335) hX 0 rfl rfl ?_
  refine r_aload_n (pc := 1336) hX 1 rfl rfl ?_
  refine r_iload (pc := 1337) hX 2 rfl rfl ?_
  refine r_iconst (pc := 1339) hX 3 rfl ?_
  refine r_iadd (pc := 1340) hX 4 rfl ?_
  refine e_iald (y := sc (i + 1)) (n := N) (pc := 1341) hX 5 rfl hI.sk hI.sl (by omega) (by omega) (hI.s3 _) ?_
  refine r_callV (as := [(0, sc (i + 1))]) (st := []) (K := 11) (pc := 1342) hX 6 rfl mo_X11_image ml_L_203 im_X11_image se_X11_image (c_X11_imageG g ω v ρ Z hI.ht 4 hI.w4 (sc (i + 1)) hQ4.1 (hsc _)) rfl rfl rfl hI.k4 (by rw [hR]; exact ⟨Nat.le_of_ble_eq_true rfl, Nat.le_of_ble_eq_true rfl⟩) (by rw [hR]; exact ⟨by show cells + 0 ≤ 601024; omega, by show slots + 0 ≤ 7293034; omega⟩) (Nat.le_of_ble_eq_true rfl) (fun o1 v1 ρ1 Z1 hq1 _ => ?_)
  obtain ⟨rfl, hf1, hg1, hh1, r1, rfl, hp1⟩ := hq1
  have hI1 := LInv.cls hI (fun q hq _ => hf1 q (by rw [hq]; decide)) (fun q hq => hg1 q (by rw [hq]; decide)) hh1
  have hC1 : EqC (v (ρ 4 0) 1) (v1 (ρ 4 13)) v1 ρ1 := EqC.fr (congrFun (hg1 4 (by rw [hI.w4]; decide)) 0) (congrFun (hg1 4 (by rw [hI.w4]; decide)) 13) (congrFun (hf1 (ρ 4 0) (by rw [hI.w2]; decide)) 1) (fun k _ _ => rfl)
  have e179 : v1 179 = v 179 := hf1 179 (by rw [hI.wz (r := 179) (by decide) (by decide)]; decide)
  have e184 : v1 184 = v 184 := hf1 184 (by rw [hI.wz (r := 184) (by decide) (by decide)]; decide)
  have eB : v1 (ρ (ρ 4 0) 0) = v (ρ (ρ 4 0) 0) := hf1 _ (by rw [hw3]; decide)
  have hr1 : ρ1 4 0 = ρ 4 0 ∧ ρ1 4 1 = ρ 4 1 ∧ ρ1 (ρ 4 1) 0 = ρ (ρ 4 1) 0 ∧ ρ1 (ρ 4 0) 0 = ρ (ρ 4 0) 0 := ⟨congrFun (hg1 4 (by rw [hI.w4]; decide)) 0, congrFun (hg1 4 (by rw [hI.w4]; decide)) 1, congrFun (hg1 _ (by rw [hw4]; decide)) 0, congrFun (hg1 _ (by rw [hI.w2]; decide)) 0⟩
  have e180 : v1 180 = v 180 := hf1 180 (by rw [hI.wz (r := 180) (by decide) (by decide)]; decide)
  have e207 : v1 207 = v 207 := hf1 207 (by rw [hI.wz (r := 207) (by decide) (by decide)]; decide)
  have e183 : v1 183 = v 183 := hf1 183 (by rw [hI.wz (r := 183) (by decide) (by decide)]; decide)
  have e208 : v1 208 = v 208 := hf1 208 (by rw [hI.wz (r := 208) (by decide) (by decide)]; decide)
  have hKc : RcK ω v ρ v1 ρ1 := RcK.fr hI.ht hf1 hg1 (by decide) (by decide)
  have ho5 : ∀ o, ω o = 5 → ω o = 5 := fun _ h => h
  have hS1 : ρ1 (ρ1 4 2) 0 = ρ1 4 0 ∧ ρ1 (ρ1 4 3) 0 = ρ1 4 0 := ⟨tapS (congrFun (hg1 4 (by rw [hI.w4]; decide)) 0) (congrFun (hg1 4 (by rw [hI.w4]; decide)) 2) (congrFun (hg1 _ (by rw [hw15]; decide)) 0) hQl, tapS (congrFun (hg1 4 (by rw [hI.w4]; decide)) 0) (congrFun (hg1 4 (by rw [hI.w4]; decide)) 3) (congrFun (hg1 _ (by rw [hw21]; decide)) 0) hQs⟩
  have e178 : v1 178 = v 178 := hf1 178 (by rw [hI.wz (r := 178) (by decide) (by decide)]; decide)
  have e209 : v1 209 = v 209 := hf1 209 (by rw [hI.wz (r := 209) (by decide) (by decide)]; decide)
  show wp g X (LF lc_38) (cells) (slots) 1345 [(2, 3), (2, 4), (2, 178), (2, 210), (0, i), (3, 0), (3, 0), (3, 0)] [(0, r1)] v1 ρ1 Z
  refine r_pop (pc := 1345) hX 7 rfl (show (0 : Nat) ≠ 1 by decide) ?_
  refine r_aload_n (pc := 1346) hX 8 rfl rfl ?_
  refine r_aload_n (pc := 1347) hX 9 rfl rfl ?_
  refine r_iload (pc := 1348) hX 10 rfl rfl ?_
  refine r_iconst (pc := 1350) hX 11 rfl ?_
  refine r_iadd (pc := 1351) hX 12 rfl ?_
  refine e_iald (y := sc (i + 1)) (n := N) (pc := 1352) hX 13 rfl hI1.sk hI1.sl (by omega) (by omega) (hI1.s3 _) ?_
  obtain ⟨b1, b2, b3, b4, b5, b6, b7, b8, b9, b10⟩ := hI1.rf
  refine r_callV (as := [(0, sc (i + 1))]) (st := []) (K := 12) (pc := 1353) hX 14 rfl mo_m_image ml_L_206 im_m_image se_m_image (c_imageN g v1 ρ1 Z hI1.gm (sc (i + 1)) (hsc _)) rfl rfl rfl hI1.gm.1 (by rw [hR]; exact ⟨Nat.le_of_ble_eq_true rfl, Nat.le_of_ble_eq_true rfl⟩) (by rw [hR]; exact ⟨by show cells + 0 ≤ 601024; omega, by show slots + 0 ≤ 7293034; omega⟩) (Nat.le_of_ble_eq_true rfl) (fun o2 v2 ρ2 Z2 hq2 _ => ?_)
  obtain ⟨rfl, rfl, hf2, r2, rfl, hp2⟩ := hq2
  have hI2 := LInv.ref hI1 (Fr.out hf2 (by decide)) (show RfI v2 from ⟨by rw [hf2.2 2 (by decide)]; exact b1, by rw [hf2.2 14 (by decide)]; exact b2, by rw [hf2.2 11 (by decide)]; exact b3, by rw [hf2.1 180 (by decide) (by decide)]; exact b4, by rw [hf2.1 180 (by decide) (by decide), hf2.1 187 (by decide) (by decide), hf2.2 25 (by decide)]; exact b5, KpI b4 b6 hp2.1, by rw [hf2.1 195 (by decide) (by decide)]; exact b7, by rw [hf2.1 194 (by decide) (by decide)]; exact b8, by rw [hf2.2 45 (by decide)]; exact b9, by rw [hf2.2 49 (by decide)]; exact b10⟩)
  have z1 : v2 (ρ1 4 0) 1 = v1 (ρ1 4 0) 1 := congrFun (Fr.out hf2 (by decide) _ (hI1.lo hI1.w2 (by decide))) 1
  have z2 := hC1.1
  have z3 : v1 178 2 = v 178 2 := congrFun e178 2
  have z0 := hE.1
  have y1 : ∀ k, v2 (ρ1 4 13) k = v1 (ρ1 4 13) k := fun k => congrFun (Fr.out hf2 (by decide) _ (hI1.lo hI1.w62 (by decide))) k
  have y3 : ∀ k, v1 209 k = v 209 k := fun k => congrFun e209 k
  have z4 : v2 178 2 = v1 178 2 := hf2.2 2 (by decide)
  have hw3b : ω (ρ1 (ρ1 4 0) 0) = 3 := hI1.ht.rf hI1.w2 (by decide) rfl
  have g2 : v2 (ρ1 (ρ1 4 0) 0) = v1 (ρ1 (ρ1 4 0) 0) := Fr.out hf2 (by decide) _ (hI1.lo hw3b (by decide))
  have e2 : v2 184 = v1 184 := hf2.1 184 (by decide) (by decide)
  have hT2 : EqT v2 ρ1 := EqT.step hT hr1 e184 e2 e179 (hf2.1 179 (by decide) (by decide)) eB g2 (by omega)
  have hO := Fr.out hf2 (by decide)
  have hK2 := RcK.ref hKc hI1 hO ho5
  have hp2e := hp2
  rw [e180, e207, e209, e183, e208] at hp2e
  have er9 : r1 = r2 := by have z := hp1.1; have z9 := hp2e.1; omega
  have hR2 : EqN v2 ρ1 := EqN.image (k0 := sc (i + 1)) (r := r1) hQ4 hI.ht hI.w4 (TrG.ref hp1.2.2.2 hI1 hI1.w4 hO) hK2 ((hf2.1 180 (by decide) (by decide)).trans e180) ((hf2.1 183 (by decide) (by decide)).trans e183) (by rw [er9]; exact hp2e.1) (by rw [er9]; exact hp2e.2)
  have hE2 : EqI v2 ρ1 := ⟨by omega, KpE (hE.2) y1 y3 (fun k a b => hC1.2 k a b) ⟨hp1.1, hp1.2.1, hp1.2.2.1⟩ hp2.1⟩
  show wp g X (LF lc_38) (cells) (slots) 1356 [(2, 3), (2, 4), (2, 178), (2, 210), (0, i), (3, 0), (3, 0), (3, 0)] [(0, r2)] v2 ρ1 Z
  refine r_pop (pc := 1356) hX 15 rfl (show (0 : Nat) ≠ 1 by decide) ?_
  refine r_goto (pc := 1357) hX 16 (tgt := 1410) rfl (by decide) ?_
  refine wp_wid (k := cells + 20) (n := slots + 150) (by omega) (by omega) ?_
  exact kk _ _ _ _ ⟨⟨⟨hI2, hE2⟩, hT2⟩, hR2, hS1⟩
set_option maxRecDepth 100000 in
def lc_39 : List (Nat × Instr × Nat) := [(1360, .aload_n 1, 1), (1361, .aload_n 0, 1), (1362, .iload 4, 2), (1364, .iconst 1, 1), (1365, .iadd, 1), (1366, .iaload, 1), (1367, .invokevirtual 207, 3), (1370, .pop, 1), (1371, .aload_n 2, 1), (1372, .aload_n 0, 1), (1373, .iload 4, 2), (1375, .iconst 1, 1), (1376, .iadd, 1), (1377, .iaload, 1), (1378, .invokevirtual 210, 3), (1381, .pop, 1), (1382, .goto 28, 3)]
set_option maxRecDepth 100000 in
theorem lc_39_d : lc_39.all (fun q => decide (decode cL_law q.1 = .ok q.2)) = true := by decide +kernel
set_option maxHeartbeats 4000000 in
set_option maxRecDepth 100000 in
theorem cs_39 {g : Gp} {X : Cx} {N : Int} {sc : Int → Int} (hL : LX g X) (hsc : ∀ k, inR (sc k)) : CaseOk5 g X N sc 1360 := by
  intro i cells slots ω v ρ Z hi0 hi1 hc hs hI kk
  obtain ⟨⟨⟨hI, hE⟩, hT⟩, hQ4, hQl, hQs⟩ := hI
  have hw := TrW.of hI.ht hI.w4
  have h8 : 0 ≤ v (ρ 4 6) 1 ∧ v (ρ 4 6) 1 ≤ 8 := hI.ht.rg hw.2.2.2.1 (by decide) rfl
  have hw4 : ω (ρ 4 1) = 4 := hI.ht.rf hI.w4 (by decide) rfl
  have hw3 : ω (ρ (ρ 4 0) 0) = 3 := hI.ht.rf hI.w2 (by decide) rfl
  have hw15 : ω (ρ 4 2) = 15 := hI.ht.rf hI.w4 (by decide) rfl
  have hw21 : ω (ρ 4 3) = 21 := hI.ht.rf hI.w4 (by decide) rfl
  have hX : okX g X (LF lc_39) := okL hL.1 lc_39_d
  have hR := hL.2.1
  show wp g X (LF lc_39) cells slots 1360 (lls i) [] v ρ Z
  refine r_aload_n (pc := 1360) hX 0 rfl rfl ?_
  refine r_aload_n (pc := 1361) hX 1 rfl rfl ?_
  refine r_iload (pc := 1362) hX 2 rfl rfl ?_
  refine r_iconst (pc := 1364) hX 3 rfl ?_
  refine r_iadd (pc := 1365) hX 4 rfl ?_
  refine e_iald (y := sc (i + 1)) (n := N) (pc := 1366) hX 5 rfl hI.sk hI.sl (by omega) (by omega) (hI.s3 _) ?_
  refine r_callV (as := [(0, sc (i + 1))]) (st := []) (K := 11) (pc := 1367) hX 6 rfl mo_X11_restore ml_L_207 im_X11_restore se_X11_restore (c_X11_restoreH g ω v ρ Z hI.ht 4 hI.w4 (sc (i + 1)) hQ4.1 (hsc _)) rfl rfl rfl hI.k4 (by rw [hR]; exact ⟨Nat.le_of_ble_eq_true rfl, Nat.le_of_ble_eq_true rfl⟩) (by rw [hR]; exact ⟨by show cells + 0 ≤ 601024; omega, by show slots + 0 ≤ 7293034; omega⟩) (Nat.le_of_ble_eq_true rfl) (fun o1 v1 ρ1 Z1 hq1 _ => ?_)
  obtain ⟨rfl, hf1, hg1, hh1, r1, rfl, hp1⟩ := hq1
  have hI1 := LInv.cls hI (fun q hq _ => hf1 q (by rw [hq]; decide)) (fun q hq => hg1 q (by rw [hq]; decide)) hh1
  have hC1 : EqC (v (ρ 4 0) 1) (v (ρ 4 13)) v1 ρ1 := EqC.fr (hp1.2.1.1) (hp1.2.1.2) (congrFun (hf1 (ρ 4 0) (by rw [hI.w2]; decide)) 1) (fun k _ _ => congrFun (hf1 (ρ 4 13) (by rw [hI.w62]; decide)) k)
  have e179 : v1 179 = v 179 := hf1 179 (by rw [hI.wz (r := 179) (by decide) (by decide)]; decide)
  have e184 : v1 184 = v 184 := hf1 184 (by rw [hI.wz (r := 184) (by decide) (by decide)]; decide)
  have eB : v1 (ρ (ρ 4 0) 0) = v (ρ (ρ 4 0) 0) := hf1 _ (by rw [hw3]; decide)
  have hr1 : ρ1 4 0 = ρ 4 0 ∧ ρ1 4 1 = ρ 4 1 ∧ ρ1 (ρ 4 1) 0 = ρ (ρ 4 1) 0 ∧ ρ1 (ρ 4 0) 0 = ρ (ρ 4 0) 0 := ⟨hp1.2.1.1, hp1.2.2.1, congrFun (hg1 _ (by rw [hw4]; decide)) 0, congrFun (hg1 _ (by rw [hI.w2]; decide)) 0⟩
  have e180 : v1 180 = v 180 := hf1 180 (by rw [hI.wz (r := 180) (by decide) (by decide)]; decide)
  have e207 : v1 207 = v 207 := hf1 207 (by rw [hI.wz (r := 207) (by decide) (by decide)]; decide)
  have e183 : v1 183 = v 183 := hf1 183 (by rw [hI.wz (r := 183) (by decide) (by decide)]; decide)
  have e208 : v1 208 = v 208 := hf1 208 (by rw [hI.wz (r := 208) (by decide) (by decide)]; decide)
  have hKc : RcK ω v ρ v1 ρ1 := RcK.fr hI.ht hf1 hg1 (by decide) (by decide)
  have ho5 : ∀ o, ω o = 5 → ω o = 5 := fun _ h => h
  have hS1 : ρ1 (ρ1 4 2) 0 = ρ1 4 0 ∧ ρ1 (ρ1 4 3) 0 = ρ1 4 0 := ⟨tapS (hp1.2.1.1) (hp1.2.2.2.2.1) (congrFun (hg1 _ (by rw [hw15]; decide)) 0) hQl, tapS (hp1.2.1.1) (hp1.2.2.2.2.2) (congrFun (hg1 _ (by rw [hw21]; decide)) 0) hQs⟩
  have e178 : v1 178 = v 178 := hf1 178 (by rw [hI.wz (r := 178) (by decide) (by decide)]; decide)
  have e209 : v1 209 = v 209 := hf1 209 (by rw [hI.wz (r := 209) (by decide) (by decide)]; decide)
  show wp g X (LF lc_39) (cells) (slots) 1370 [(2, 3), (2, 4), (2, 178), (2, 210), (0, i), (3, 0), (3, 0), (3, 0)] [(0, r1)] v1 ρ1 Z
  refine r_pop (pc := 1370) hX 7 rfl (show (0 : Nat) ≠ 1 by decide) ?_
  refine r_aload_n (pc := 1371) hX 8 rfl rfl ?_
  refine r_aload_n (pc := 1372) hX 9 rfl rfl ?_
  refine r_iload (pc := 1373) hX 10 rfl rfl ?_
  refine r_iconst (pc := 1375) hX 11 rfl ?_
  refine r_iadd (pc := 1376) hX 12 rfl ?_
  refine e_iald (y := sc (i + 1)) (n := N) (pc := 1377) hX 13 rfl hI1.sk hI1.sl (by omega) (by omega) (hI1.s3 _) ?_
  obtain ⟨b1, b2, b3, b4, b5, b6, b7, b8, b9, b10⟩ := hI1.rf
  refine r_callV (as := [(0, sc (i + 1))]) (st := []) (K := 12) (pc := 1378) hX 14 rfl mo_m_restore ml_L_210 im_m_restore se_m_restore (c_restoreN g v1 ρ1 Z hI1.gm (sc (i + 1)) b4 b5 (hsc _) b6) rfl rfl rfl hI1.gm.1 (by rw [hR]; exact ⟨Nat.le_of_ble_eq_true rfl, Nat.le_of_ble_eq_true rfl⟩) (by rw [hR]; exact ⟨by show cells + 0 ≤ 601024; omega, by show slots + 0 ≤ 7293034; omega⟩) (Nat.le_of_ble_eq_true rfl) (fun o2 v2 ρ2 Z2 hq2 _ => ?_)
  obtain ⟨rfl, rfl, hf2, r2, rfl, hp2⟩ := hq2
  have hI2 := LInv.ref hI1 (Fr.out hf2 (by decide)) (show RfI v2 from ⟨by rw [hf2.2 2 (by decide)]; exact b1, by rw [hf2.2 14 (by decide)]; exact b2, by rw [hf2.2 11 (by decide)]; exact b3, hp2.1, hp2.2.1, by rw [hf2.1 209 (by decide) (by decide), hf2.1 207 (by decide) (by decide)]; exact b6, by rw [hf2.1 195 (by decide) (by decide)]; exact b7, by rw [hf2.1 194 (by decide) (by decide)]; exact b8, by rw [hf2.2 45 (by decide)]; exact b9, by rw [hf2.2 49 (by decide)]; exact b10⟩)
  have z1 : v2 (ρ1 4 0) 1 = v1 (ρ1 4 0) 1 := congrFun (Fr.out hf2 (by decide) _ (hI1.lo hI1.w2 (by decide))) 1
  have z2 := hC1.1
  have z3 : v1 178 2 = v 178 2 := congrFun e178 2
  have z0 := hE.1
  have y1 : ∀ k, v2 (ρ1 4 13) k = v1 (ρ1 4 13) k := fun k => congrFun (Fr.out hf2 (by decide) _ (hI1.lo hI1.w62 (by decide))) k
  have y3 : ∀ k, v1 209 k = v 209 k := fun k => congrFun e209 k
  have z4 : v2 178 2 = v1 178 2 := hf2.2 2 (by decide)
  have hw3b : ω (ρ1 (ρ1 4 0) 0) = 3 := hI1.ht.rf hI1.w2 (by decide) rfl
  have g2 : v2 (ρ1 (ρ1 4 0) 0) = v1 (ρ1 (ρ1 4 0) 0) := Fr.out hf2 (by decide) _ (hI1.lo hw3b (by decide))
  have e2 : v2 184 = v1 184 := hf2.1 184 (by decide) (by decide)
  have hT2 : EqT v2 ρ1 := EqT.step hT hr1 e184 e2 e179 (hf2.1 179 (by decide) (by decide)) eB g2 (by omega)
  have hO := Fr.out hf2 (by decide)
  have hK2 := RcK.ref hKc hI1 hO ho5
  have hp2e := And.intro hp2.2.2.1 (And.intro hp2.2.2.2.1 hp2.2.2.2.2)
  rw [e209, e207, e180, e208, e183] at hp2e
  have er9 : r1 = r2 := by have z := hp1.1; have z3 := hE.2 (sc (i + 1)); have z2 := hp2e.1; omega
  have hR2 : EqN v2 ρ1 := EqN.restore (k0 := sc (i + 1)) (r := r1) hQ4 hI.ht hI.w4 (TrR.ref hp1.2.2.2.1 hI1 hI1.w4 hO) hK2 ((hf2.1 207 (by decide) (by decide)).trans e207) ((hf2.1 209 (by decide) (by decide)).trans e209) ((hf2.1 208 (by decide) (by decide)).trans e208) (by rw [er9]; exact hp2e.1) (by rw [er9]; exact hp2e.2.1) (by rw [er9]; exact hp2e.2.2)
  have hE2 : EqI v2 ρ1 := ⟨by omega, fun k a b => by rw [y1 k, hC1.2 k a b, show v2 209 k = v1 209 k from congrFun (hf2.1 209 (by decide) (by decide)) k, y3 k]; exact hE.2 k a b⟩
  show wp g X (LF lc_39) (cells) (slots) 1381 [(2, 3), (2, 4), (2, 178), (2, 210), (0, i), (3, 0), (3, 0), (3, 0)] [(0, r2)] v2 ρ1 Z
  refine r_pop (pc := 1381) hX 15 rfl (show (0 : Nat) ≠ 1 by decide) ?_
  refine r_goto (pc := 1382) hX 16 (tgt := 1410) rfl (by decide) ?_
  refine wp_wid (k := cells + 20) (n := slots + 150) (by omega) (by omega) ?_
  exact kk _ _ _ _ ⟨⟨⟨hI2, hE2⟩, hT2⟩, hR2, hS1⟩
set_option maxRecDepth 100000 in
def lc_40 : List (Nat × Instr × Nat) := [(1385, .aload_n 1, 1), (1386, .aload_n 0, 1), (1387, .iload 4, 2), (1389, .iconst 1, 1), (1390, .iadd, 1), (1391, .iaload, 1), (1392, .invokevirtual 211, 3), (1395, .pop, 1), (1396, .aload_n 2, 1), (1397, .aload_n 0, 1), (1398, .iload 4, 2), (1400, .iconst 1, 1), (1401, .iadd, 1), (1402, .iaload, 1), (1403, .invokevirtual 214, 3), (1406, .pop, 1), (1407, .goto 3, 3)]
set_option maxRecDepth 100000 in
theorem lc_40_d : lc_40.all (fun q => decide (decode cL_law q.1 = .ok q.2)) = true := by decide +kernel
set_option maxHeartbeats 4000000 in
set_option maxRecDepth 100000 in
theorem cs_40 {g : Gp} {X : Cx} {N : Int} {sc : Int → Int} (hL : LX g X) (hsc : ∀ k, inR (sc k)) : CaseOk5 g X N sc 1385 := by
  intro i cells slots ω v ρ Z hi0 hi1 hc hs hI kk
  obtain ⟨⟨⟨hI, hE⟩, hT⟩, hQ4, hQl, hQs⟩ := hI
  have hw := TrW.of hI.ht hI.w4
  have h8 : 0 ≤ v (ρ 4 6) 1 ∧ v (ρ 4 6) 1 ≤ 8 := hI.ht.rg hw.2.2.2.1 (by decide) rfl
  have hw4 : ω (ρ 4 1) = 4 := hI.ht.rf hI.w4 (by decide) rfl
  have hw3 : ω (ρ (ρ 4 0) 0) = 3 := hI.ht.rf hI.w2 (by decide) rfl
  have hw15 : ω (ρ 4 2) = 15 := hI.ht.rf hI.w4 (by decide) rfl
  have hw21 : ω (ρ 4 3) = 21 := hI.ht.rf hI.w4 (by decide) rfl
  have hX : okX g X (LF lc_40) := okL hL.1 lc_40_d
  have hR := hL.2.1
  show wp g X (LF lc_40) cells slots 1385 (lls i) [] v ρ Z
  refine r_aload_n (pc := 1385) hX 0 rfl rfl ?_
  refine r_aload_n (pc := 1386) hX 1 rfl rfl ?_
  refine r_iload (pc := 1387) hX 2 rfl rfl ?_
  refine r_iconst (pc := 1389) hX 3 rfl ?_
  refine r_iadd (pc := 1390) hX 4 rfl ?_
  refine e_iald (y := sc (i + 1)) (n := N) (pc := 1391) hX 5 rfl hI.sk hI.sl (by omega) (by omega) (hI.s3 _) ?_
  refine r_callV (as := [(0, sc (i + 1))]) (st := []) (K := 11) (pc := 1392) hX 6 rfl mo_X11_count ml_L_211 im_X11_count se_X11_count (c_X11_count g ω v ρ Z hI.ht 4 hI.w4 (sc (i + 1)) (hsc _)) rfl rfl rfl hI.k4 (by rw [hR]; exact ⟨Nat.le_of_ble_eq_true rfl, Nat.le_of_ble_eq_true rfl⟩) (by rw [hR]; exact ⟨by show cells + 0 ≤ 601024; omega, by show slots + 0 ≤ 7293034; omega⟩) (Nat.le_of_ble_eq_true rfl) (fun o1 v1 ρ1 Z1 hq1 _ => ?_)
  obtain ⟨rfl, rfl, rfl, r1, rfl, hp1⟩ := hq1
  have hI1 := hI
  have hC1 : EqC (v (ρ 4 0) 1) (v (ρ 4 13)) v ρ := ⟨rfl, fun _ _ _ => rfl⟩
  have e178 : v 178 = v 178 := rfl
  have e209 : v 209 = v 209 := rfl
  have e179 : v 179 = v 179 := rfl
  have e184 : v 184 = v 184 := rfl
  have eB : v (ρ (ρ 4 0) 0) = v (ρ (ρ 4 0) 0) := rfl
  have e180 : v 180 = v 180 := rfl
  have e207 : v 207 = v 207 := rfl
  have e183 : v 183 = v 183 := rfl
  have e208 : v 208 = v 208 := rfl
  have hS1 : ρ (ρ 4 2) 0 = ρ 4 0 ∧ ρ (ρ 4 3) 0 = ρ 4 0 := ⟨hQl, hQs⟩
  have hKc : RcK ω v ρ v ρ := fun _ _ _ _ _ h => h
  have ho5 : ∀ o, ω o = 5 → ω o = 5 := fun _ h => h
  have hPc := TrP.rf hQ4.1
  have hr1 : ρ 4 0 = ρ 4 0 ∧ ρ 4 1 = ρ 4 1 ∧ ρ (ρ 4 1) 0 = ρ (ρ 4 1) 0 ∧ ρ (ρ 4 0) 0 = ρ (ρ 4 0) 0 := ⟨rfl, rfl, rfl, rfl⟩
  show wp g X (LF lc_40) (cells) (slots) 1395 [(2, 3), (2, 4), (2, 178), (2, 210), (0, i), (3, 0), (3, 0), (3, 0)] [(0, r1)] v ρ Z
  refine r_pop (pc := 1395) hX 7 rfl (show (0 : Nat) ≠ 1 by decide) ?_
  refine r_aload_n (pc := 1396) hX 8 rfl rfl ?_
  refine r_aload_n (pc := 1397) hX 9 rfl rfl ?_
  refine r_iload (pc := 1398) hX 10 rfl rfl ?_
  refine r_iconst (pc := 1400) hX 11 rfl ?_
  refine r_iadd (pc := 1401) hX 12 rfl ?_
  refine e_iald (y := sc (i + 1)) (n := N) (pc := 1402) hX 13 rfl hI1.sk hI1.sl (by omega) (by omega) (hI1.s3 _) ?_
  obtain ⟨b1, b2, b3, b4, b5, b6, b7, b8, b9, b10⟩ := hI1.rf
  refine r_callV (as := [(0, sc (i + 1))]) (st := []) (K := 12) (pc := 1403) hX 14 rfl mo_m_count ml_L_214 im_m_count se_m_count (c_count g v ρ Z hI1.gm (sc (i + 1)) b4 (hsc _)) rfl rfl rfl hI1.gm.1 (by rw [hR]; exact ⟨Nat.le_of_ble_eq_true rfl, Nat.le_of_ble_eq_true rfl⟩) (by rw [hR]; exact ⟨by show cells + 0 ≤ 601024; omega, by show slots + 0 ≤ 7293034; omega⟩) (Nat.le_of_ble_eq_true rfl) (fun o2 v2 ρ2 Z2 hq2 _ => ?_)
  obtain ⟨rfl, rfl, hf2, r2, rfl, hp2⟩ := hq2
  have hI2 := LInv.ref hI1 (Fr.out hf2 (by decide)) (show RfI v2 from ⟨by rw [hf2.2 2 (by decide)]; exact b1, by rw [hf2.2 14 (by decide)]; exact b2, by rw [hf2.2 11 (by decide)]; exact b3, by rw [hf2.1 180 (by decide) (by decide)]; exact b4, by rw [hf2.1 180 (by decide) (by decide), hf2.1 187 (by decide) (by decide), hf2.2 25 (by decide)]; exact b5, by rw [hf2.1 209 (by decide) (by decide), hf2.1 207 (by decide) (by decide)]; exact b6, by rw [hf2.1 195 (by decide) (by decide)]; exact b7, by rw [hf2.1 194 (by decide) (by decide)]; exact b8, by rw [hf2.2 45 (by decide)]; exact b9, by rw [hf2.2 49 (by decide)]; exact b10⟩)
  have z1 : v2 (ρ 4 0) 1 = v (ρ 4 0) 1 := congrFun (Fr.out hf2 (by decide) _ (hI1.lo hI1.w2 (by decide))) 1
  have z2 := hC1.1
  have z3 : v 178 2 = v 178 2 := congrFun e178 2
  have z0 := hE.1
  have y1 : ∀ k, v2 (ρ 4 13) k = v (ρ 4 13) k := fun k => congrFun (Fr.out hf2 (by decide) _ (hI1.lo hI1.w62 (by decide))) k
  have y3 : ∀ k, v 209 k = v 209 k := fun k => congrFun e209 k
  have z4 : v2 178 2 = v 178 2 := hf2.2 2 (by decide)
  have hw3b : ω (ρ (ρ 4 0) 0) = 3 := hI1.ht.rf hI1.w2 (by decide) rfl
  have g2 : v2 (ρ (ρ 4 0) 0) = v (ρ (ρ 4 0) 0) := Fr.out hf2 (by decide) _ (hI1.lo hw3b (by decide))
  have e2 : v2 184 = v 184 := hf2.1 184 (by decide) (by decide)
  have hT2 : EqT v2 ρ := EqT.step hT hr1 e184 e2 e179 (hf2.1 179 (by decide) (by decide)) eB g2 (by omega)
  have hO := Fr.out hf2 (by decide)
  have hK2 := RcK.ref hKc hI1 hO ho5
  have hR2 : EqN v2 ρ := EqN.k1 hQ4 hI.ht hI.w4 (TrP.ref hPc hI1 hI1.w4 hO) hK2 (fun k _ _ => by rw [hf2.1 180 (by decide) (by decide), e180]) ((hf2.1 207 (by decide) (by decide)).trans e207) ((hf2.1 209 (by decide) (by decide)).trans e209) (fun k _ _ => congrFun ((hf2.1 183 (by decide) (by decide)).trans e183) k) ((hf2.1 208 (by decide) (by decide)).trans e208)
  have hE2 : EqI v2 ρ := ⟨by omega, fun k a b => by rw [y1 k, hC1.2 k a b, show v2 209 k = v 209 k from congrFun (hf2.1 209 (by decide) (by decide)) k, y3 k]; exact hE.2 k a b⟩
  show wp g X (LF lc_40) (cells) (slots) 1406 [(2, 3), (2, 4), (2, 178), (2, 210), (0, i), (3, 0), (3, 0), (3, 0)] [(0, r2)] v2 ρ Z
  refine r_pop (pc := 1406) hX 15 rfl (show (0 : Nat) ≠ 1 by decide) ?_
  refine r_goto (pc := 1407) hX 16 (tgt := 1410) rfl (by decide) ?_
  refine wp_wid (k := cells + 20) (n := slots + 150) (by omega) (by omega) ?_
  exact kk _ _ _ _ ⟨⟨⟨hI2, hE2⟩, hT2⟩, hR2, hS1⟩
