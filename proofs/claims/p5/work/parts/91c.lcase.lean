set_option maxRecDepth 100000 in
def lc_14 : List (Nat × Instr × Nat) := [(663, .aload_n 1, 1), (664, .aload_n 0, 1), (665, .iload 4, 2), (667, .iconst 1, 1), (668, .iadd, 1), (669, .iaload, 1), (670, .aload_n 0, 1), (671, .iload 4, 2), (673, .iconst 2, 1), (674, .iadd, 1), (675, .iaload, 1), (676, .aload_n 3, 1), (677, .invokestatic 113, 3), (680, .istore 5, 2), (682, .aload_n 2, 1), (683, .aload_n 0, 1), (684, .iload 4, 2), (686, .iconst 1, 1), (687, .iadd, 1), (688, .iaload, 1), (689, .aload_n 0, 1), (690, .iload 4, 2), (692, .iconst 2, 1), (693, .iadd, 1), (694, .iaload, 1), (695, .invokevirtual 115, 3), (698, .lstore 6, 2), (700, .goto 710, 3)]
set_option maxRecDepth 100000 in
theorem lc_14_d : lc_14.all (fun q => decide (decode cL_law q.1 = .ok q.2)) = true := by decide +kernel
set_option maxHeartbeats 4000000 in
set_option maxRecDepth 100000 in
theorem cs_14 {g : Gp} {X : Cx} {N : Int} {sc : Int → Int} (hL : LX g X) (hsc : ∀ k, inR (sc k)) : CaseOk6 g X N sc 663 := by
  intro i cells slots ω v ρ Z hi0 hi1 hc hs hI kk
  obtain ⟨⟨⟨⟨hI, hE⟩, hT⟩, hQ4, hQl, hQs⟩, hF⟩ := hI
  have hw := TrW.of hI.ht hI.w4
  have h8 : 0 ≤ v (ρ 4 6) 1 ∧ v (ρ 4 6) 1 ≤ 8 := hI.ht.rg hw.2.2.2.1 (by decide) rfl
  have hw4 : ω (ρ 4 1) = 4 := hI.ht.rf hI.w4 (by decide) rfl
  have hw3 : ω (ρ (ρ 4 0) 0) = 3 := hI.ht.rf hI.w2 (by decide) rfl
  have hw15 : ω (ρ 4 2) = 15 := hI.ht.rf hI.w4 (by decide) rfl
  have hw21 : ω (ρ 4 3) = 21 := hI.ht.rf hI.w4 (by decide) rfl
  have hX : okX g X (LF lc_14) := okL hL.1 lc_14_d
  have hR := hL.2.1
  show wp g X (LF lc_14) cells slots 663 (lls i) [] v ρ Z
  refine r_aload_n (pc := 663) hX 0 rfl rfl ?_
  refine r_aload_n (pc := 664) hX 1 rfl rfl ?_
  refine r_iload (pc := 665) hX 2 rfl rfl ?_
  refine r_iconst (pc := 667) hX 3 rfl ?_
  refine r_iadd (pc := 668) hX 4 rfl ?_
  refine e_iald (y := sc (i + 1)) (n := N) (pc := 669) hX 5 rfl hI.sk hI.sl (by omega) (by omega) (hI.s3 _) ?_
  refine r_aload_n (pc := 670) hX 6 rfl rfl ?_
  refine r_iload (pc := 671) hX 7 rfl rfl ?_
  refine r_iconst (pc := 673) hX 8 rfl ?_
  refine r_iadd (pc := 674) hX 9 rfl ?_
  refine e_iald (y := sc (i + 2)) (n := N) (pc := 675) hX 10 rfl hI.sk hI.sl (by omega) (by omega) (hI.s3 _) ?_
  refine r_aload_n (pc := 676) hX 11 rfl rfl ?_
  refine r_callSH (as := [(2, 4), (0, sc (i + 1)), (0, sc (i + 2)), (2, 210)]) (st := []) (pc := 677) hX 12 hL.2.2.2 rfl mo_L_where ml_L_113 stt_L_where (c_LG_where g ω v ρ Z hI.ht 4 hI.w4 (sc (i + 1)) (sc (i + 2)) 210 hI.o0 hI.ok hI.ol (by decide) hL.2.2.1 (by have := hI.nz; omega) (hsc _) (hsc _)) rfl (by rw [hR]; exact ⟨Nat.le_of_ble_eq_true rfl, Nat.le_of_ble_eq_true rfl⟩) (by rw [hR]; exact ⟨by show cells + 2 ≤ 601024; omega, by show slots + 12 ≤ 7293034; omega⟩) (Nat.le_of_ble_eq_true rfl) (fun o1 v1 ρ1 Z1 hq1 _ => ?_)
  obtain ⟨rfl, hf1, hg1, hh1, r1, rfl, hp1⟩ := hq1
  have hI1 := LInv.cls hI (fun q h n => hf1 q (by rw [h]; decide) n) (fun q h => hg1 q (by rw [h]; decide)) hh1
  have hC1 : EqC (v (ρ 4 0) 1) (v (ρ 4 13)) v1 ρ1 := EqC.fr (congrFun (hg1 4 (by rw [hI.w4]; decide)) 0) (congrFun (hg1 4 (by rw [hI.w4]; decide)) 13) (congrFun (hf1 (ρ 4 0) (by rw [hI.w2]; decide) (by have := hI.lt hI.w2 (by decide); omega)) 1) (fun k _ _ => congrFun (hf1 (ρ 4 13) (by rw [hI.w62]; decide) (by have := hI.lt hI.w62 (by decide); omega)) k)
  have e178 : v1 178 = v 178 := hf1 178 (by rw [hI.wz (r := 178) (by decide) (by decide)]; decide) (by decide)
  have e209 : v1 209 = v 209 := hf1 209 (by rw [hI.wz (r := 209) (by decide) (by decide)]; decide) (by decide)
  have e179 : v1 179 = v 179 := hf1 179 (by rw [hI.wz (r := 179) (by decide) (by decide)]; decide) (by decide)
  have e184 : v1 184 = v 184 := hf1 184 (by rw [hI.wz (r := 184) (by decide) (by decide)]; decide) (by decide)
  have e180 : v1 180 = v 180 := hf1 180 (by rw [hI.wz (r := 180) (by decide) (by decide)]; decide) (by decide)
  have e207 : v1 207 = v 207 := hf1 207 (by rw [hI.wz (r := 207) (by decide) (by decide)]; decide) (by decide)
  have e183 : v1 183 = v 183 := hf1 183 (by rw [hI.wz (r := 183) (by decide) (by decide)]; decide) (by decide)
  have e208 : v1 208 = v 208 := hf1 208 (by rw [hI.wz (r := 208) (by decide) (by decide)]; decide) (by decide)
  have eB : v1 (ρ (ρ 4 0) 0) = v (ρ (ρ 4 0) 0) := hf1 _ (by rw [hw3]; decide) (by have := hI.lt hw3 (by decide); omega)
  have hr1 : ρ1 4 0 = ρ 4 0 ∧ ρ1 4 1 = ρ 4 1 ∧ ρ1 (ρ 4 1) 0 = ρ (ρ 4 1) 0 ∧ ρ1 (ρ 4 0) 0 = ρ (ρ 4 0) 0 := ⟨congrFun (hg1 4 (by rw [hI.w4]; decide)) 0, congrFun (hg1 4 (by rw [hI.w4]; decide)) 1, congrFun (hg1 _ (by rw [hw4]; decide)) 0, congrFun (hg1 _ (by rw [hI.w2]; decide)) 0⟩
  have hKc : RcK ω v ρ v1 ρ1 := fun o L i s h5 h => (h.frO hI.ht h5 (fun r hr => hf1 r (inW_K hr) (by have := hI.lt (c := ω r) rfl (inW_0 hr); omega))).rho (hg1 o (by rw [h5]; decide)) (hg1 _ (by rw [show ω (ρ o 5) = 12 from hI.ht.rf h5 (by decide) rfl]; decide))
  have ho5 : ∀ o, ω o = 5 → ω o = 5 := fun _ h => h
  have hS1 : ρ1 (ρ1 4 2) 0 = ρ1 4 0 ∧ ρ1 (ρ1 4 3) 0 = ρ1 4 0 := ⟨tapS (congrFun (hg1 4 (by rw [hI.w4]; decide)) 0) (congrFun (hg1 4 (by rw [hI.w4]; decide)) 2) (congrFun (hg1 _ (by rw [hw15]; decide)) 0) hQl, tapS (congrFun (hg1 4 (by rw [hI.w4]; decide)) 0) (congrFun (hg1 4 (by rw [hI.w4]; decide)) 3) (congrFun (hg1 _ (by rw [hw21]; decide)) 0) hQs⟩
  have hF1 : v1 (ρ1 4 0) 9 = v (ρ 4 0) 9 := by
    rw [show ρ1 4 0 = ρ 4 0 from congrFun (hg1 4 (by rw [hI.w4]; decide)) 0]
    exact congrFun (hf1 (ρ 4 0) (by rw [hI.w2]; decide) (by have := hI.lt hI.w2 (by decide); omega)) 9
  have hPc := TrI.old (ρ' := ρ1) (v' := v1) hQ4.1 hw h8.2 (fun r h9 => hg1 r (by rcases h9 with h9 | h9 | h9 | h9 | h9 | h9 <;> rw [h9] <;> decide)) (congrFun (hf1 (ρ 4 6) (by rw [hw.2.2.2.1]; decide) (by have := hI.lt hw.2.2.2.1 (by decide); omega)) 1)
  show wp g X (LF lc_14) (cells + 2) (slots + 12) 680 [(2, 3), (2, 4), (2, 178), (2, 210), (0, i), (3, 0), (3, 0), (3, 0)] [(0, r1)] v1 ρ1 Z
  refine r_istore (ls' := [(2, 3), (2, 4), (2, 178), (2, 210), (0, i), (0, r1), (3, 0), (3, 0)]) (pc := 680) hX 13 rfl (by decide) rfl ?_
  refine r_aload_n (pc := 682) hX 14 rfl rfl ?_
  refine r_aload_n (pc := 683) hX 15 rfl rfl ?_
  refine r_iload (pc := 684) hX 16 rfl rfl ?_
  refine r_iconst (pc := 686) hX 17 rfl ?_
  refine r_iadd (pc := 687) hX 18 rfl ?_
  refine e_iald (y := sc (i + 1)) (n := N) (pc := 688) hX 19 rfl hI1.sk hI1.sl (by omega) (by omega) (hI1.s3 _) ?_
  refine r_aload_n (pc := 689) hX 20 rfl rfl ?_
  refine r_iload (pc := 690) hX 21 rfl rfl ?_
  refine r_iconst (pc := 692) hX 22 rfl ?_
  refine r_iadd (pc := 693) hX 23 rfl ?_
  refine e_iald (y := sc (i + 2)) (n := N) (pc := 694) hX 24 rfl hI1.sk hI1.sl (by omega) (by omega) (hI1.s3 _) ?_
  obtain ⟨b1, b2, b3, b4, b5, b6, b7, b8, b9, b10⟩ := hI1.rf
  refine r_callV (as := [(0, sc (i + 1)), (0, sc (i + 2))]) (st := []) (K := 12) (pc := 695) hX 25 rfl mo_m_where ml_L_115 im_m_where se_m_where (c_where g v1 ρ1 Z hI1.gm (sc (i + 1)) (sc (i + 2)) b4 (hsc _) (hsc _)) rfl rfl rfl hI1.gm.1 (by rw [hR]; exact ⟨Nat.le_of_ble_eq_true rfl, Nat.le_of_ble_eq_true rfl⟩) (by rw [hR]; exact ⟨by show cells + 2 + 0 ≤ 601024; omega, by show slots + 12 + 0 ≤ 7293034; omega⟩) (Nat.le_of_ble_eq_true rfl) (fun o2 v2 ρ2 Z2 hq2 _ => ?_)
  obtain ⟨rfl, rfl, hf2, r2, rfl, hp2⟩ := hq2
  have hI2 := LInv.ref hI1 (Fr.out hf2 (by decide)) (show RfI v2 from ⟨by rw [hf2.2 2 (by decide)]; exact b1, by rw [hf2.2 14 (by decide)]; exact b2, by rw [hf2.2 11 (by decide)]; exact b3, by rw [hf2.1 180 (by decide) (by decide)]; exact b4, by rw [hf2.1 180 (by decide) (by decide), hf2.1 187 (by decide) (by decide), hf2.2 25 (by decide)]; exact b5, by rw [hf2.1 209 (by decide) (by decide), hf2.1 207 (by decide) (by decide)]; exact b6, by rw [hf2.1 195 (by decide) (by decide)]; exact b7, by rw [hf2.1 194 (by decide) (by decide)]; exact b8, by rw [hf2.2 45 (by decide)]; exact b9, by rw [hf2.2 49 (by decide)]; exact b10⟩)
  have z1 : v2 (ρ1 4 0) 1 = v1 (ρ1 4 0) 1 := congrFun (Fr.out hf2 (by decide) _ (hI1.lo hI1.w2 (by decide))) 1
  have z2 := hC1.1
  have z3 : v1 178 2 = v 178 2 := congrFun e178 2
  have z0 := hE.1
  have y1 : ∀ k, v2 (ρ1 4 13) k = v1 (ρ1 4 13) k := fun k => congrFun (Fr.out hf2 (by decide) _ (hI1.lo hI1.w62 (by decide))) k
  have y3 : ∀ k, v1 209 k = v 209 k := fun k => congrFun e209 k
  have z4 : v2 178 2 = v1 178 2 := hf2.2 2 (by decide)
  have x9 : v2 (ρ1 4 0) 9 = v1 (ρ1 4 0) 9 := congrFun (Fr.out hf2 (by decide) _ (hI1.lo hI1.w2 (by decide))) 9
  have hF2 : v2 (ρ1 4 0) 9 = v2 178 15 := by
    rw [x9, hF1, hf2.2 15 (by decide), e178]
    exact hF
  have hw3b : ω (ρ1 (ρ1 4 0) 0) = 3 := hI1.ht.rf hI1.w2 (by decide) rfl
  have g2 : v2 (ρ1 (ρ1 4 0) 0) = v1 (ρ1 (ρ1 4 0) 0) := Fr.out hf2 (by decide) _ (hI1.lo hw3b (by decide))
  have e2 : v2 184 = v1 184 := hf2.1 184 (by decide) (by decide)
  have hT2 : EqT v2 ρ1 := EqT.step hT hr1 e184 e2 e179 (hf2.1 179 (by decide) (by decide)) eB g2 (by omega)
  have hO := Fr.out hf2 (by decide)
  have hK2 := RcK.ref hKc hI1 hO ho5
  have hR2 : EqN v2 ρ1 := EqN.k1 hQ4 hI.ht hI.w4 (TrP.ref hPc hI1 hI1.w4 hO) hK2 (fun k _ _ => by rw [hf2.1 180 (by decide) (by decide), e180]) ((hf2.1 207 (by decide) (by decide)).trans e207) ((hf2.1 209 (by decide) (by decide)).trans e209) (fun k _ _ => congrFun ((hf2.1 183 (by decide) (by decide)).trans e183) k) ((hf2.1 208 (by decide) (by decide)).trans e208)
  have hE2 : EqI v2 ρ1 := ⟨by omega, fun k a b => by rw [y1 k, hC1.2 k a b, show v2 209 k = v1 209 k from congrFun (hf2.1 209 (by decide) (by decide)) k, y3 k]; exact hE.2 k a b⟩
  show wp g X (LF lc_14) (cells + 2) (slots + 12) 698 [(2, 3), (2, 4), (2, 178), (2, 210), (0, i), (0, r1), (3, 0), (3, 0)] [(1, r2)] v2 ρ1 Z
  refine r_lstore (ls' := [(2, 3), (2, 4), (2, 178), (2, 210), (0, i), (0, r1), (1, r2), (3, 0)]) (pc := 698) hX 26 rfl (by decide) rfl ?_
  refine r_goto (pc := 700) hX 27 (tgt := 1410) rfl (by decide) ?_
  refine wp_wid (k := cells + 20) (n := slots + 150) (by omega) (by omega) ?_
  refine r_wk (ls' := lls i) ⟨Or.inr rfl, Or.inr rfl, Or.inr rfl, Or.inr rfl, Or.inr rfl, Or.inl rfl, Or.inl rfl, Or.inr rfl, trivial⟩ ?_
  exact kk _ _ _ _ ⟨⟨⟨⟨hI2, hE2⟩, hT2⟩, hR2, hS1⟩, hF2⟩
set_option maxRecDepth 100000 in
def lc_15 : List (Nat × Instr × Nat) := [(703, .aload_n 1, 1), (704, .aload_n 0, 1), (705, .iload 4, 2), (707, .iconst 1, 1), (708, .iadd, 1), (709, .iaload, 1), (710, .aload_n 0, 1), (711, .iload 4, 2), (713, .iconst 2, 1), (714, .iadd, 1), (715, .iaload, 1), (716, .aload_n 3, 1), (717, .invokestatic 116, 3), (720, .istore 5, 2), (722, .aload_n 2, 1), (723, .aload_n 0, 1), (724, .iload 4, 2), (726, .iconst 1, 1), (727, .iadd, 1), (728, .iaload, 1), (729, .aload_n 0, 1), (730, .iload 4, 2), (732, .iconst 2, 1), (733, .iadd, 1), (734, .iaload, 1), (735, .invokevirtual 118, 3), (738, .lstore 6, 2), (740, .goto 670, 3)]
set_option maxRecDepth 100000 in
theorem lc_15_d : lc_15.all (fun q => decide (decode cL_law q.1 = .ok q.2)) = true := by decide +kernel
set_option maxHeartbeats 4000000 in
set_option maxRecDepth 100000 in
theorem cs_15 {g : Gp} {X : Cx} {N : Int} {sc : Int → Int} (hL : LX g X) (hsc : ∀ k, inR (sc k)) : CaseOk6 g X N sc 703 := by
  intro i cells slots ω v ρ Z hi0 hi1 hc hs hI kk
  obtain ⟨⟨⟨⟨hI, hE⟩, hT⟩, hQ4, hQl, hQs⟩, hF⟩ := hI
  have hw := TrW.of hI.ht hI.w4
  have h8 : 0 ≤ v (ρ 4 6) 1 ∧ v (ρ 4 6) 1 ≤ 8 := hI.ht.rg hw.2.2.2.1 (by decide) rfl
  have hw4 : ω (ρ 4 1) = 4 := hI.ht.rf hI.w4 (by decide) rfl
  have hw3 : ω (ρ (ρ 4 0) 0) = 3 := hI.ht.rf hI.w2 (by decide) rfl
  have hw15 : ω (ρ 4 2) = 15 := hI.ht.rf hI.w4 (by decide) rfl
  have hw21 : ω (ρ 4 3) = 21 := hI.ht.rf hI.w4 (by decide) rfl
  have hX : okX g X (LF lc_15) := okL hL.1 lc_15_d
  have hR := hL.2.1
  show wp g X (LF lc_15) cells slots 703 (lls i) [] v ρ Z
  refine r_aload_n (pc := 703) hX 0 rfl rfl ?_
  refine r_aload_n (pc := 704) hX 1 rfl rfl ?_
  refine r_iload (pc := 705) hX 2 rfl rfl ?_
  refine r_iconst (pc := 707) hX 3 rfl ?_
  refine r_iadd (pc := 708) hX 4 rfl ?_
  refine e_iald (y := sc (i + 1)) (n := N) (pc := 709) hX 5 rfl hI.sk hI.sl (by omega) (by omega) (hI.s3 _) ?_
  refine r_aload_n (pc := 710) hX 6 rfl rfl ?_
  refine r_iload (pc := 711) hX 7 rfl rfl ?_
  refine r_iconst (pc := 713) hX 8 rfl ?_
  refine r_iadd (pc := 714) hX 9 rfl ?_
  refine e_iald (y := sc (i + 2)) (n := N) (pc := 715) hX 10 rfl hI.sk hI.sl (by omega) (by omega) (hI.s3 _) ?_
  refine r_aload_n (pc := 716) hX 11 rfl rfl ?_
  refine r_callSH (as := [(2, 4), (0, sc (i + 1)), (0, sc (i + 2)), (2, 210)]) (st := []) (pc := 717) hX 12 hL.2.2.2 rfl mo_L_next ml_L_116 stt_L_next (c_LG_next g ω v ρ Z hI.ht 4 hI.w4 (sc (i + 1)) (sc (i + 2)) 210 hI.o0 hI.ok hI.ol (by decide) hL.2.2.1 (by have := hI.nz; omega) (hsc _) (hsc _)) rfl (by rw [hR]; exact ⟨Nat.le_of_ble_eq_true rfl, Nat.le_of_ble_eq_true rfl⟩) (by rw [hR]; exact ⟨by show cells + 2 ≤ 601024; omega, by show slots + 12 ≤ 7293034; omega⟩) (Nat.le_of_ble_eq_true rfl) (fun o1 v1 ρ1 Z1 hq1 _ => ?_)
  obtain ⟨rfl, hf1, hg1, hh1, r1, rfl, hp1⟩ := hq1
  have hI1 := LInv.cls hI (fun q h n => hf1 q (by rw [h]; decide) n) (fun q h => hg1 q (by rw [h]; decide)) hh1
  have hC1 : EqC (v (ρ 4 0) 1) (v (ρ 4 13)) v1 ρ1 := EqC.fr (congrFun (hg1 4 (by rw [hI.w4]; decide)) 0) (congrFun (hg1 4 (by rw [hI.w4]; decide)) 13) (congrFun (hf1 (ρ 4 0) (by rw [hI.w2]; decide) (by have := hI.lt hI.w2 (by decide); omega)) 1) (fun k _ _ => congrFun (hf1 (ρ 4 13) (by rw [hI.w62]; decide) (by have := hI.lt hI.w62 (by decide); omega)) k)
  have e178 : v1 178 = v 178 := hf1 178 (by rw [hI.wz (r := 178) (by decide) (by decide)]; decide) (by decide)
  have e209 : v1 209 = v 209 := hf1 209 (by rw [hI.wz (r := 209) (by decide) (by decide)]; decide) (by decide)
  have e179 : v1 179 = v 179 := hf1 179 (by rw [hI.wz (r := 179) (by decide) (by decide)]; decide) (by decide)
  have e184 : v1 184 = v 184 := hf1 184 (by rw [hI.wz (r := 184) (by decide) (by decide)]; decide) (by decide)
  have e180 : v1 180 = v 180 := hf1 180 (by rw [hI.wz (r := 180) (by decide) (by decide)]; decide) (by decide)
  have e207 : v1 207 = v 207 := hf1 207 (by rw [hI.wz (r := 207) (by decide) (by decide)]; decide) (by decide)
  have e183 : v1 183 = v 183 := hf1 183 (by rw [hI.wz (r := 183) (by decide) (by decide)]; decide) (by decide)
  have e208 : v1 208 = v 208 := hf1 208 (by rw [hI.wz (r := 208) (by decide) (by decide)]; decide) (by decide)
  have eB : v1 (ρ (ρ 4 0) 0) = v (ρ (ρ 4 0) 0) := hf1 _ (by rw [hw3]; decide) (by have := hI.lt hw3 (by decide); omega)
  have hr1 : ρ1 4 0 = ρ 4 0 ∧ ρ1 4 1 = ρ 4 1 ∧ ρ1 (ρ 4 1) 0 = ρ (ρ 4 1) 0 ∧ ρ1 (ρ 4 0) 0 = ρ (ρ 4 0) 0 := ⟨congrFun (hg1 4 (by rw [hI.w4]; decide)) 0, congrFun (hg1 4 (by rw [hI.w4]; decide)) 1, congrFun (hg1 _ (by rw [hw4]; decide)) 0, congrFun (hg1 _ (by rw [hI.w2]; decide)) 0⟩
  have hKc : RcK ω v ρ v1 ρ1 := fun o L i s h5 h => (h.frO hI.ht h5 (fun r hr => hf1 r (inW_K hr) (by have := hI.lt (c := ω r) rfl (inW_0 hr); omega))).rho (hg1 o (by rw [h5]; decide)) (hg1 _ (by rw [show ω (ρ o 5) = 12 from hI.ht.rf h5 (by decide) rfl]; decide))
  have ho5 : ∀ o, ω o = 5 → ω o = 5 := fun _ h => h
  have hS1 : ρ1 (ρ1 4 2) 0 = ρ1 4 0 ∧ ρ1 (ρ1 4 3) 0 = ρ1 4 0 := ⟨tapS (congrFun (hg1 4 (by rw [hI.w4]; decide)) 0) (congrFun (hg1 4 (by rw [hI.w4]; decide)) 2) (congrFun (hg1 _ (by rw [hw15]; decide)) 0) hQl, tapS (congrFun (hg1 4 (by rw [hI.w4]; decide)) 0) (congrFun (hg1 4 (by rw [hI.w4]; decide)) 3) (congrFun (hg1 _ (by rw [hw21]; decide)) 0) hQs⟩
  have hF1 : v1 (ρ1 4 0) 9 = v (ρ 4 0) 9 := by
    rw [show ρ1 4 0 = ρ 4 0 from congrFun (hg1 4 (by rw [hI.w4]; decide)) 0]
    exact congrFun (hf1 (ρ 4 0) (by rw [hI.w2]; decide) (by have := hI.lt hI.w2 (by decide); omega)) 9
  have hPc := TrI.old (ρ' := ρ1) (v' := v1) hQ4.1 hw h8.2 (fun r h9 => hg1 r (by rcases h9 with h9 | h9 | h9 | h9 | h9 | h9 <;> rw [h9] <;> decide)) (congrFun (hf1 (ρ 4 6) (by rw [hw.2.2.2.1]; decide) (by have := hI.lt hw.2.2.2.1 (by decide); omega)) 1)
  show wp g X (LF lc_15) (cells + 2) (slots + 12) 720 [(2, 3), (2, 4), (2, 178), (2, 210), (0, i), (3, 0), (3, 0), (3, 0)] [(0, r1)] v1 ρ1 Z
  refine r_istore (ls' := [(2, 3), (2, 4), (2, 178), (2, 210), (0, i), (0, r1), (3, 0), (3, 0)]) (pc := 720) hX 13 rfl (by decide) rfl ?_
  refine r_aload_n (pc := 722) hX 14 rfl rfl ?_
  refine r_aload_n (pc := 723) hX 15 rfl rfl ?_
  refine r_iload (pc := 724) hX 16 rfl rfl ?_
  refine r_iconst (pc := 726) hX 17 rfl ?_
  refine r_iadd (pc := 727) hX 18 rfl ?_
  refine e_iald (y := sc (i + 1)) (n := N) (pc := 728) hX 19 rfl hI1.sk hI1.sl (by omega) (by omega) (hI1.s3 _) ?_
  refine r_aload_n (pc := 729) hX 20 rfl rfl ?_
  refine r_iload (pc := 730) hX 21 rfl rfl ?_
  refine r_iconst (pc := 732) hX 22 rfl ?_
  refine r_iadd (pc := 733) hX 23 rfl ?_
  refine e_iald (y := sc (i + 2)) (n := N) (pc := 734) hX 24 rfl hI1.sk hI1.sl (by omega) (by omega) (hI1.s3 _) ?_
  obtain ⟨b1, b2, b3, b4, b5, b6, b7, b8, b9, b10⟩ := hI1.rf
  refine r_callV (as := [(0, sc (i + 1)), (0, sc (i + 2))]) (st := []) (K := 12) (pc := 735) hX 25 rfl mo_m_next ml_L_118 im_m_next se_m_next (c_next g v1 ρ1 Z hI1.gm (sc (i + 1)) (sc (i + 2)) b4 (hsc _) (hsc _)) rfl rfl rfl hI1.gm.1 (by rw [hR]; exact ⟨Nat.le_of_ble_eq_true rfl, Nat.le_of_ble_eq_true rfl⟩) (by rw [hR]; exact ⟨by show cells + 2 + 0 ≤ 601024; omega, by show slots + 12 + 0 ≤ 7293034; omega⟩) (Nat.le_of_ble_eq_true rfl) (fun o2 v2 ρ2 Z2 hq2 _ => ?_)
  obtain ⟨rfl, rfl, hf2, r2, rfl, hp2⟩ := hq2
  have hI2 := LInv.ref hI1 (Fr.out hf2 (by decide)) (show RfI v2 from ⟨by rw [hf2.2 2 (by decide)]; exact b1, by rw [hf2.2 14 (by decide)]; exact b2, by rw [hf2.2 11 (by decide)]; exact b3, by rw [hf2.1 180 (by decide) (by decide)]; exact b4, by rw [hf2.1 180 (by decide) (by decide), hf2.1 187 (by decide) (by decide), hf2.2 25 (by decide)]; exact b5, by rw [hf2.1 209 (by decide) (by decide), hf2.1 207 (by decide) (by decide)]; exact b6, by rw [hf2.1 195 (by decide) (by decide)]; exact b7, by rw [hf2.1 194 (by decide) (by decide)]; exact b8, by rw [hf2.2 45 (by decide)]; exact b9, by rw [hf2.2 49 (by decide)]; exact b10⟩)
  have z1 : v2 (ρ1 4 0) 1 = v1 (ρ1 4 0) 1 := congrFun (Fr.out hf2 (by decide) _ (hI1.lo hI1.w2 (by decide))) 1
  have z2 := hC1.1
  have z3 : v1 178 2 = v 178 2 := congrFun e178 2
  have z0 := hE.1
  have y1 : ∀ k, v2 (ρ1 4 13) k = v1 (ρ1 4 13) k := fun k => congrFun (Fr.out hf2 (by decide) _ (hI1.lo hI1.w62 (by decide))) k
  have y3 : ∀ k, v1 209 k = v 209 k := fun k => congrFun e209 k
  have z4 : v2 178 2 = v1 178 2 := hf2.2 2 (by decide)
  have x9 : v2 (ρ1 4 0) 9 = v1 (ρ1 4 0) 9 := congrFun (Fr.out hf2 (by decide) _ (hI1.lo hI1.w2 (by decide))) 9
  have hF2 : v2 (ρ1 4 0) 9 = v2 178 15 := by
    rw [x9, hF1, hf2.2 15 (by decide), e178]
    exact hF
  have hw3b : ω (ρ1 (ρ1 4 0) 0) = 3 := hI1.ht.rf hI1.w2 (by decide) rfl
  have g2 : v2 (ρ1 (ρ1 4 0) 0) = v1 (ρ1 (ρ1 4 0) 0) := Fr.out hf2 (by decide) _ (hI1.lo hw3b (by decide))
  have e2 : v2 184 = v1 184 := hf2.1 184 (by decide) (by decide)
  have hT2 : EqT v2 ρ1 := EqT.step hT hr1 e184 e2 e179 (hf2.1 179 (by decide) (by decide)) eB g2 (by omega)
  have hO := Fr.out hf2 (by decide)
  have hK2 := RcK.ref hKc hI1 hO ho5
  have hR2 : EqN v2 ρ1 := EqN.k1 hQ4 hI.ht hI.w4 (TrP.ref hPc hI1 hI1.w4 hO) hK2 (fun k _ _ => by rw [hf2.1 180 (by decide) (by decide), e180]) ((hf2.1 207 (by decide) (by decide)).trans e207) ((hf2.1 209 (by decide) (by decide)).trans e209) (fun k _ _ => congrFun ((hf2.1 183 (by decide) (by decide)).trans e183) k) ((hf2.1 208 (by decide) (by decide)).trans e208)
  have hE2 : EqI v2 ρ1 := ⟨by omega, fun k a b => by rw [y1 k, hC1.2 k a b, show v2 209 k = v1 209 k from congrFun (hf2.1 209 (by decide) (by decide)) k, y3 k]; exact hE.2 k a b⟩
  show wp g X (LF lc_15) (cells + 2) (slots + 12) 738 [(2, 3), (2, 4), (2, 178), (2, 210), (0, i), (0, r1), (3, 0), (3, 0)] [(1, r2)] v2 ρ1 Z
  refine r_lstore (ls' := [(2, 3), (2, 4), (2, 178), (2, 210), (0, i), (0, r1), (1, r2), (3, 0)]) (pc := 738) hX 26 rfl (by decide) rfl ?_
  refine r_goto (pc := 740) hX 27 (tgt := 1410) rfl (by decide) ?_
  refine wp_wid (k := cells + 20) (n := slots + 150) (by omega) (by omega) ?_
  refine r_wk (ls' := lls i) ⟨Or.inr rfl, Or.inr rfl, Or.inr rfl, Or.inr rfl, Or.inr rfl, Or.inl rfl, Or.inl rfl, Or.inr rfl, trivial⟩ ?_
  exact kk _ _ _ _ ⟨⟨⟨⟨hI2, hE2⟩, hT2⟩, hR2, hS1⟩, hF2⟩
set_option maxRecDepth 100000 in
def lc_16 : List (Nat × Instr × Nat) := [(743, .aload_n 1, 1), (744, .aload_n 0, 1), (745, .iload 4, 2), (747, .iconst 1, 1), (748, .iadd, 1), (749, .iaload, 1), (750, .aload_n 3, 1), (751, .invokestatic 119, 3), (754, .istore 5, 2), (756, .aload_n 2, 1), (757, .aload_n 0, 1), (758, .iload 4, 2), (760, .iconst 1, 1), (761, .iadd, 1), (762, .iaload, 1), (763, .invokevirtual 121, 3), (766, .lstore 6, 2), (768, .goto 642, 3)]
set_option maxRecDepth 100000 in
theorem lc_16_d : lc_16.all (fun q => decide (decode cL_law q.1 = .ok q.2)) = true := by decide +kernel
set_option maxHeartbeats 4000000 in
set_option maxRecDepth 100000 in
theorem cs_16 {g : Gp} {X : Cx} {N : Int} {sc : Int → Int} (hL : LX g X) (hsc : ∀ k, inR (sc k)) : CaseOk6 g X N sc 743 := by
  intro i cells slots ω v ρ Z hi0 hi1 hc hs hI kk
  obtain ⟨⟨⟨⟨hI, hE⟩, hT⟩, hQ4, hQl, hQs⟩, hF⟩ := hI
  have hw := TrW.of hI.ht hI.w4
  have h8 : 0 ≤ v (ρ 4 6) 1 ∧ v (ρ 4 6) 1 ≤ 8 := hI.ht.rg hw.2.2.2.1 (by decide) rfl
  have hw4 : ω (ρ 4 1) = 4 := hI.ht.rf hI.w4 (by decide) rfl
  have hw3 : ω (ρ (ρ 4 0) 0) = 3 := hI.ht.rf hI.w2 (by decide) rfl
  have hw15 : ω (ρ 4 2) = 15 := hI.ht.rf hI.w4 (by decide) rfl
  have hw21 : ω (ρ 4 3) = 21 := hI.ht.rf hI.w4 (by decide) rfl
  have hX : okX g X (LF lc_16) := okL hL.1 lc_16_d
  have hR := hL.2.1
  show wp g X (LF lc_16) cells slots 743 (lls i) [] v ρ Z
  refine r_aload_n (pc := 743) hX 0 rfl rfl ?_
  refine r_aload_n (pc := 744) hX 1 rfl rfl ?_
  refine r_iload (pc := 745) hX 2 rfl rfl ?_
  refine r_iconst (pc := 747) hX 3 rfl ?_
  refine r_iadd (pc := 748) hX 4 rfl ?_
  refine e_iald (y := sc (i + 1)) (n := N) (pc := 749) hX 5 rfl hI.sk hI.sl (by omega) (by omega) (hI.s3 _) ?_
  refine r_aload_n (pc := 750) hX 6 rfl rfl ?_
  refine r_callSH (as := [(2, 4), (0, sc (i + 1)), (2, 210)]) (st := []) (pc := 751) hX 7 hL.2.2.2 rfl mo_L_left ml_L_119 stt_L_left (c_LG_left g ω v ρ Z hI.ht 4 hI.w4 (sc (i + 1)) 210 hI.o0 hI.ok hI.ol (by decide) hL.2.2.1 (by have := hI.nz; omega) (hsc _)) rfl (by rw [hR]; exact ⟨Nat.le_of_ble_eq_true rfl, Nat.le_of_ble_eq_true rfl⟩) (by rw [hR]; exact ⟨by show cells + 1 ≤ 601024; omega, by show slots + 6 ≤ 7293034; omega⟩) (Nat.le_of_ble_eq_true rfl) (fun o1 v1 ρ1 Z1 hq1 _ => ?_)
  obtain ⟨rfl, hf1, hg1, hh1, r1, rfl, hp1⟩ := hq1
  have hI1 := LInv.cls hI (fun q h n => hf1 q (by rw [h]; decide) n) (fun q h => hg1 q (by rw [h]; decide)) hh1
  have hC1 : EqC (v (ρ 4 0) 1) (v (ρ 4 13)) v1 ρ1 := EqC.fr (congrFun (hg1 4 (by rw [hI.w4]; decide)) 0) (congrFun (hg1 4 (by rw [hI.w4]; decide)) 13) (congrFun (hf1 (ρ 4 0) (by rw [hI.w2]; decide) (by have := hI.lt hI.w2 (by decide); omega)) 1) (fun k _ _ => congrFun (hf1 (ρ 4 13) (by rw [hI.w62]; decide) (by have := hI.lt hI.w62 (by decide); omega)) k)
  have e178 : v1 178 = v 178 := hf1 178 (by rw [hI.wz (r := 178) (by decide) (by decide)]; decide) (by decide)
  have e209 : v1 209 = v 209 := hf1 209 (by rw [hI.wz (r := 209) (by decide) (by decide)]; decide) (by decide)
  have e179 : v1 179 = v 179 := hf1 179 (by rw [hI.wz (r := 179) (by decide) (by decide)]; decide) (by decide)
  have e184 : v1 184 = v 184 := hf1 184 (by rw [hI.wz (r := 184) (by decide) (by decide)]; decide) (by decide)
  have e180 : v1 180 = v 180 := hf1 180 (by rw [hI.wz (r := 180) (by decide) (by decide)]; decide) (by decide)
  have e207 : v1 207 = v 207 := hf1 207 (by rw [hI.wz (r := 207) (by decide) (by decide)]; decide) (by decide)
  have e183 : v1 183 = v 183 := hf1 183 (by rw [hI.wz (r := 183) (by decide) (by decide)]; decide) (by decide)
  have e208 : v1 208 = v 208 := hf1 208 (by rw [hI.wz (r := 208) (by decide) (by decide)]; decide) (by decide)
  have eB : v1 (ρ (ρ 4 0) 0) = v (ρ (ρ 4 0) 0) := hf1 _ (by rw [hw3]; decide) (by have := hI.lt hw3 (by decide); omega)
  have hr1 : ρ1 4 0 = ρ 4 0 ∧ ρ1 4 1 = ρ 4 1 ∧ ρ1 (ρ 4 1) 0 = ρ (ρ 4 1) 0 ∧ ρ1 (ρ 4 0) 0 = ρ (ρ 4 0) 0 := ⟨congrFun (hg1 4 (by rw [hI.w4]; decide)) 0, congrFun (hg1 4 (by rw [hI.w4]; decide)) 1, congrFun (hg1 _ (by rw [hw4]; decide)) 0, congrFun (hg1 _ (by rw [hI.w2]; decide)) 0⟩
  have hKc : RcK ω v ρ v1 ρ1 := fun o L i s h5 h => (h.frO hI.ht h5 (fun r hr => hf1 r (inW_K hr) (by have := hI.lt (c := ω r) rfl (inW_0 hr); omega))).rho (hg1 o (by rw [h5]; decide)) (hg1 _ (by rw [show ω (ρ o 5) = 12 from hI.ht.rf h5 (by decide) rfl]; decide))
  have ho5 : ∀ o, ω o = 5 → ω o = 5 := fun _ h => h
  have hS1 : ρ1 (ρ1 4 2) 0 = ρ1 4 0 ∧ ρ1 (ρ1 4 3) 0 = ρ1 4 0 := ⟨tapS (congrFun (hg1 4 (by rw [hI.w4]; decide)) 0) (congrFun (hg1 4 (by rw [hI.w4]; decide)) 2) (congrFun (hg1 _ (by rw [hw15]; decide)) 0) hQl, tapS (congrFun (hg1 4 (by rw [hI.w4]; decide)) 0) (congrFun (hg1 4 (by rw [hI.w4]; decide)) 3) (congrFun (hg1 _ (by rw [hw21]; decide)) 0) hQs⟩
  have hF1 : v1 (ρ1 4 0) 9 = v (ρ 4 0) 9 := by
    rw [show ρ1 4 0 = ρ 4 0 from congrFun (hg1 4 (by rw [hI.w4]; decide)) 0]
    exact congrFun (hf1 (ρ 4 0) (by rw [hI.w2]; decide) (by have := hI.lt hI.w2 (by decide); omega)) 9
  have hPc := TrI.old (ρ' := ρ1) (v' := v1) hQ4.1 hw h8.2 (fun r h9 => hg1 r (by rcases h9 with h9 | h9 | h9 | h9 | h9 | h9 <;> rw [h9] <;> decide)) (congrFun (hf1 (ρ 4 6) (by rw [hw.2.2.2.1]; decide) (by have := hI.lt hw.2.2.2.1 (by decide); omega)) 1)
  show wp g X (LF lc_16) (cells + 1) (slots + 6) 754 [(2, 3), (2, 4), (2, 178), (2, 210), (0, i), (3, 0), (3, 0), (3, 0)] [(0, r1)] v1 ρ1 Z
  refine r_istore (ls' := [(2, 3), (2, 4), (2, 178), (2, 210), (0, i), (0, r1), (3, 0), (3, 0)]) (pc := 754) hX 8 rfl (by decide) rfl ?_
  refine r_aload_n (pc := 756) hX 9 rfl rfl ?_
  refine r_aload_n (pc := 757) hX 10 rfl rfl ?_
  refine r_iload (pc := 758) hX 11 rfl rfl ?_
  refine r_iconst (pc := 760) hX 12 rfl ?_
  refine r_iadd (pc := 761) hX 13 rfl ?_
  refine e_iald (y := sc (i + 1)) (n := N) (pc := 762) hX 14 rfl hI1.sk hI1.sl (by omega) (by omega) (hI1.s3 _) ?_
  obtain ⟨b1, b2, b3, b4, b5, b6, b7, b8, b9, b10⟩ := hI1.rf
  refine r_callV (as := [(0, sc (i + 1))]) (st := []) (K := 12) (pc := 763) hX 15 rfl mo_m_left ml_L_121 im_m_left se_m_left (c_left g v1 ρ1 Z hI1.gm (sc (i + 1)) b4 (hsc _)) rfl rfl rfl hI1.gm.1 (by rw [hR]; exact ⟨Nat.le_of_ble_eq_true rfl, Nat.le_of_ble_eq_true rfl⟩) (by rw [hR]; exact ⟨by show cells + 1 + 0 ≤ 601024; omega, by show slots + 6 + 0 ≤ 7293034; omega⟩) (Nat.le_of_ble_eq_true rfl) (fun o2 v2 ρ2 Z2 hq2 _ => ?_)
  obtain ⟨rfl, rfl, hf2, r2, rfl, hp2⟩ := hq2
  have hI2 := LInv.ref hI1 (Fr.out hf2 (by decide)) (show RfI v2 from ⟨by rw [hf2.2 2 (by decide)]; exact b1, by rw [hf2.2 14 (by decide)]; exact b2, by rw [hf2.2 11 (by decide)]; exact b3, by rw [hf2.1 180 (by decide) (by decide)]; exact b4, by rw [hf2.1 180 (by decide) (by decide), hf2.1 187 (by decide) (by decide), hf2.2 25 (by decide)]; exact b5, by rw [hf2.1 209 (by decide) (by decide), hf2.1 207 (by decide) (by decide)]; exact b6, by rw [hf2.1 195 (by decide) (by decide)]; exact b7, by rw [hf2.1 194 (by decide) (by decide)]; exact b8, by rw [hf2.2 45 (by decide)]; exact b9, by rw [hf2.2 49 (by decide)]; exact b10⟩)
  have z1 : v2 (ρ1 4 0) 1 = v1 (ρ1 4 0) 1 := congrFun (Fr.out hf2 (by decide) _ (hI1.lo hI1.w2 (by decide))) 1
  have z2 := hC1.1
  have z3 : v1 178 2 = v 178 2 := congrFun e178 2
  have z0 := hE.1
  have y1 : ∀ k, v2 (ρ1 4 13) k = v1 (ρ1 4 13) k := fun k => congrFun (Fr.out hf2 (by decide) _ (hI1.lo hI1.w62 (by decide))) k
  have y3 : ∀ k, v1 209 k = v 209 k := fun k => congrFun e209 k
  have z4 : v2 178 2 = v1 178 2 := hf2.2 2 (by decide)
  have x9 : v2 (ρ1 4 0) 9 = v1 (ρ1 4 0) 9 := congrFun (Fr.out hf2 (by decide) _ (hI1.lo hI1.w2 (by decide))) 9
  have hF2 : v2 (ρ1 4 0) 9 = v2 178 15 := by
    rw [x9, hF1, hf2.2 15 (by decide), e178]
    exact hF
  have hw3b : ω (ρ1 (ρ1 4 0) 0) = 3 := hI1.ht.rf hI1.w2 (by decide) rfl
  have g2 : v2 (ρ1 (ρ1 4 0) 0) = v1 (ρ1 (ρ1 4 0) 0) := Fr.out hf2 (by decide) _ (hI1.lo hw3b (by decide))
  have e2 : v2 184 = v1 184 := hf2.1 184 (by decide) (by decide)
  have hT2 : EqT v2 ρ1 := EqT.step hT hr1 e184 e2 e179 (hf2.1 179 (by decide) (by decide)) eB g2 (by omega)
  have hO := Fr.out hf2 (by decide)
  have hK2 := RcK.ref hKc hI1 hO ho5
  have hR2 : EqN v2 ρ1 := EqN.k1 hQ4 hI.ht hI.w4 (TrP.ref hPc hI1 hI1.w4 hO) hK2 (fun k _ _ => by rw [hf2.1 180 (by decide) (by decide), e180]) ((hf2.1 207 (by decide) (by decide)).trans e207) ((hf2.1 209 (by decide) (by decide)).trans e209) (fun k _ _ => congrFun ((hf2.1 183 (by decide) (by decide)).trans e183) k) ((hf2.1 208 (by decide) (by decide)).trans e208)
  have hE2 : EqI v2 ρ1 := ⟨by omega, fun k a b => by rw [y1 k, hC1.2 k a b, show v2 209 k = v1 209 k from congrFun (hf2.1 209 (by decide) (by decide)) k, y3 k]; exact hE.2 k a b⟩
  show wp g X (LF lc_16) (cells + 1) (slots + 6) 766 [(2, 3), (2, 4), (2, 178), (2, 210), (0, i), (0, r1), (3, 0), (3, 0)] [(1, r2)] v2 ρ1 Z
  refine r_lstore (ls' := [(2, 3), (2, 4), (2, 178), (2, 210), (0, i), (0, r1), (1, r2), (3, 0)]) (pc := 766) hX 16 rfl (by decide) rfl ?_
  refine r_goto (pc := 768) hX 17 (tgt := 1410) rfl (by decide) ?_
  refine wp_wid (k := cells + 20) (n := slots + 150) (by omega) (by omega) ?_
  refine r_wk (ls' := lls i) ⟨Or.inr rfl, Or.inr rfl, Or.inr rfl, Or.inr rfl, Or.inr rfl, Or.inl rfl, Or.inl rfl, Or.inr rfl, trivial⟩ ?_
  exact kk _ _ _ _ ⟨⟨⟨⟨hI2, hE2⟩, hT2⟩, hR2, hS1⟩, hF2⟩
set_option maxRecDepth 100000 in
def lc_17 : List (Nat × Instr × Nat) := [(771, .aload_n 1, 1), (772, .aload_n 0, 1), (773, .iload 4, 2), (775, .iconst 1, 1), (776, .iadd, 1), (777, .iaload, 1), (778, .aload_n 0, 1), (779, .iload 4, 2), (781, .iconst 2, 1), (782, .iadd, 1), (783, .iaload, 1), (784, .aload_n 3, 1), (785, .invokestatic 122, 3), (788, .istore 5, 2), (790, .aload_n 2, 1), (791, .aload_n 0, 1), (792, .iload 4, 2), (794, .iconst 1, 1), (795, .iadd, 1), (796, .iaload, 1), (797, .aload_n 0, 1), (798, .iload 4, 2), (800, .iconst 2, 1), (801, .iadd, 1), (802, .iaload, 1), (803, .invokevirtual 124, 3), (806, .lstore 6, 2), (808, .goto 602, 3)]
set_option maxRecDepth 100000 in
theorem lc_17_d : lc_17.all (fun q => decide (decode cL_law q.1 = .ok q.2)) = true := by decide +kernel
set_option maxHeartbeats 4000000 in
set_option maxRecDepth 100000 in
theorem cs_17 {g : Gp} {X : Cx} {N : Int} {sc : Int → Int} (hL : LX g X) (hsc : ∀ k, inR (sc k)) : CaseOk6 g X N sc 771 := by
  intro i cells slots ω v ρ Z hi0 hi1 hc hs hI kk
  obtain ⟨⟨⟨⟨hI, hE⟩, hT⟩, hQ4, hQl, hQs⟩, hF⟩ := hI
  have hw := TrW.of hI.ht hI.w4
  have h8 : 0 ≤ v (ρ 4 6) 1 ∧ v (ρ 4 6) 1 ≤ 8 := hI.ht.rg hw.2.2.2.1 (by decide) rfl
  have hw4 : ω (ρ 4 1) = 4 := hI.ht.rf hI.w4 (by decide) rfl
  have hw3 : ω (ρ (ρ 4 0) 0) = 3 := hI.ht.rf hI.w2 (by decide) rfl
  have hw15 : ω (ρ 4 2) = 15 := hI.ht.rf hI.w4 (by decide) rfl
  have hw21 : ω (ρ 4 3) = 21 := hI.ht.rf hI.w4 (by decide) rfl
  have hX : okX g X (LF lc_17) := okL hL.1 lc_17_d
  have hR := hL.2.1
  show wp g X (LF lc_17) cells slots 771 (lls i) [] v ρ Z
  refine r_aload_n (pc := 771) hX 0 rfl rfl ?_
  refine r_aload_n (pc := 772) hX 1 rfl rfl ?_
  refine r_iload (pc := 773) hX 2 rfl rfl ?_
  refine r_iconst (pc := 775) hX 3 rfl ?_
  refine r_iadd (pc := 776) hX 4 rfl ?_
  refine e_iald (y := sc (i + 1)) (n := N) (pc := 777) hX 5 rfl hI.sk hI.sl (by omega) (by omega) (hI.s3 _) ?_
  refine r_aload_n (pc := 778) hX 6 rfl rfl ?_
  refine r_iload (pc := 779) hX 7 rfl rfl ?_
  refine r_iconst (pc := 781) hX 8 rfl ?_
  refine r_iadd (pc := 782) hX 9 rfl ?_
  refine e_iald (y := sc (i + 2)) (n := N) (pc := 783) hX 10 rfl hI.sk hI.sl (by omega) (by omega) (hI.s3 _) ?_
  refine r_aload_n (pc := 784) hX 11 rfl rfl ?_
  refine r_callSH (as := [(2, 4), (0, sc (i + 1)), (0, sc (i + 2)), (2, 210)]) (st := []) (pc := 785) hX 12 hL.2.2.2 rfl mo_L_over ml_L_122 stt_L_over (c_LG_over g ω v ρ Z hI.ht 4 hI.w4 (sc (i + 1)) (sc (i + 2)) 210 hI.o0 hI.ok hI.ol (by decide) hL.2.2.1 (by have := hI.nz; omega) (hsc _) (hsc _)) rfl (by rw [hR]; exact ⟨Nat.le_of_ble_eq_true rfl, Nat.le_of_ble_eq_true rfl⟩) (by rw [hR]; exact ⟨by show cells + 2 ≤ 601024; omega, by show slots + 12 ≤ 7293034; omega⟩) (Nat.le_of_ble_eq_true rfl) (fun o1 v1 ρ1 Z1 hq1 _ => ?_)
  obtain ⟨rfl, hf1, hg1, hh1, r1, rfl, hp1⟩ := hq1
  have hI1 := LInv.cls hI (fun q h n => hf1 q (by rw [h]; decide) n) (fun q h => hg1 q (by rw [h]; decide)) hh1
  have hC1 : EqC (v (ρ 4 0) 1) (v (ρ 4 13)) v1 ρ1 := EqC.fr (congrFun (hg1 4 (by rw [hI.w4]; decide)) 0) (congrFun (hg1 4 (by rw [hI.w4]; decide)) 13) (congrFun (hf1 (ρ 4 0) (by rw [hI.w2]; decide) (by have := hI.lt hI.w2 (by decide); omega)) 1) (fun k _ _ => congrFun (hf1 (ρ 4 13) (by rw [hI.w62]; decide) (by have := hI.lt hI.w62 (by decide); omega)) k)
  have e178 : v1 178 = v 178 := hf1 178 (by rw [hI.wz (r := 178) (by decide) (by decide)]; decide) (by decide)
  have e209 : v1 209 = v 209 := hf1 209 (by rw [hI.wz (r := 209) (by decide) (by decide)]; decide) (by decide)
  have e179 : v1 179 = v 179 := hf1 179 (by rw [hI.wz (r := 179) (by decide) (by decide)]; decide) (by decide)
  have e184 : v1 184 = v 184 := hf1 184 (by rw [hI.wz (r := 184) (by decide) (by decide)]; decide) (by decide)
  have e180 : v1 180 = v 180 := hf1 180 (by rw [hI.wz (r := 180) (by decide) (by decide)]; decide) (by decide)
  have e207 : v1 207 = v 207 := hf1 207 (by rw [hI.wz (r := 207) (by decide) (by decide)]; decide) (by decide)
  have e183 : v1 183 = v 183 := hf1 183 (by rw [hI.wz (r := 183) (by decide) (by decide)]; decide) (by decide)
  have e208 : v1 208 = v 208 := hf1 208 (by rw [hI.wz (r := 208) (by decide) (by decide)]; decide) (by decide)
  have eB : v1 (ρ (ρ 4 0) 0) = v (ρ (ρ 4 0) 0) := hf1 _ (by rw [hw3]; decide) (by have := hI.lt hw3 (by decide); omega)
  have hr1 : ρ1 4 0 = ρ 4 0 ∧ ρ1 4 1 = ρ 4 1 ∧ ρ1 (ρ 4 1) 0 = ρ (ρ 4 1) 0 ∧ ρ1 (ρ 4 0) 0 = ρ (ρ 4 0) 0 := ⟨congrFun (hg1 4 (by rw [hI.w4]; decide)) 0, congrFun (hg1 4 (by rw [hI.w4]; decide)) 1, congrFun (hg1 _ (by rw [hw4]; decide)) 0, congrFun (hg1 _ (by rw [hI.w2]; decide)) 0⟩
  have hKc : RcK ω v ρ v1 ρ1 := fun o L i s h5 h => (h.frO hI.ht h5 (fun r hr => hf1 r (inW_K hr) (by have := hI.lt (c := ω r) rfl (inW_0 hr); omega))).rho (hg1 o (by rw [h5]; decide)) (hg1 _ (by rw [show ω (ρ o 5) = 12 from hI.ht.rf h5 (by decide) rfl]; decide))
  have ho5 : ∀ o, ω o = 5 → ω o = 5 := fun _ h => h
  have hS1 : ρ1 (ρ1 4 2) 0 = ρ1 4 0 ∧ ρ1 (ρ1 4 3) 0 = ρ1 4 0 := ⟨tapS (congrFun (hg1 4 (by rw [hI.w4]; decide)) 0) (congrFun (hg1 4 (by rw [hI.w4]; decide)) 2) (congrFun (hg1 _ (by rw [hw15]; decide)) 0) hQl, tapS (congrFun (hg1 4 (by rw [hI.w4]; decide)) 0) (congrFun (hg1 4 (by rw [hI.w4]; decide)) 3) (congrFun (hg1 _ (by rw [hw21]; decide)) 0) hQs⟩
  have hF1 : v1 (ρ1 4 0) 9 = v (ρ 4 0) 9 := by
    rw [show ρ1 4 0 = ρ 4 0 from congrFun (hg1 4 (by rw [hI.w4]; decide)) 0]
    exact congrFun (hf1 (ρ 4 0) (by rw [hI.w2]; decide) (by have := hI.lt hI.w2 (by decide); omega)) 9
  have hPc := TrI.old (ρ' := ρ1) (v' := v1) hQ4.1 hw h8.2 (fun r h9 => hg1 r (by rcases h9 with h9 | h9 | h9 | h9 | h9 | h9 <;> rw [h9] <;> decide)) (congrFun (hf1 (ρ 4 6) (by rw [hw.2.2.2.1]; decide) (by have := hI.lt hw.2.2.2.1 (by decide); omega)) 1)
  show wp g X (LF lc_17) (cells + 2) (slots + 12) 788 [(2, 3), (2, 4), (2, 178), (2, 210), (0, i), (3, 0), (3, 0), (3, 0)] [(0, r1)] v1 ρ1 Z
  refine r_istore (ls' := [(2, 3), (2, 4), (2, 178), (2, 210), (0, i), (0, r1), (3, 0), (3, 0)]) (pc := 788) hX 13 rfl (by decide) rfl ?_
  refine r_aload_n (pc := 790) hX 14 rfl rfl ?_
  refine r_aload_n (pc := 791) hX 15 rfl rfl ?_
  refine r_iload (pc := 792) hX 16 rfl rfl ?_
  refine r_iconst (pc := 794) hX 17 rfl ?_
  refine r_iadd (pc := 795) hX 18 rfl ?_
  refine e_iald (y := sc (i + 1)) (n := N) (pc := 796) hX 19 rfl hI1.sk hI1.sl (by omega) (by omega) (hI1.s3 _) ?_
  refine r_aload_n (pc := 797) hX 20 rfl rfl ?_
  refine r_iload (pc := 798) hX 21 rfl rfl ?_
  refine r_iconst (pc := 800) hX 22 rfl ?_
  refine r_iadd (pc := 801) hX 23 rfl ?_
  refine e_iald (y := sc (i + 2)) (n := N) (pc := 802) hX 24 rfl hI1.sk hI1.sl (by omega) (by omega) (hI1.s3 _) ?_
  obtain ⟨b1, b2, b3, b4, b5, b6, b7, b8, b9, b10⟩ := hI1.rf
  refine r_callV (as := [(0, sc (i + 1)), (0, sc (i + 2))]) (st := []) (K := 12) (pc := 803) hX 25 rfl mo_m_over ml_L_124 im_m_over se_m_over (c_over g v1 ρ1 Z hI1.gm (sc (i + 1)) (sc (i + 2)) b4 (hsc _) (hsc _)) rfl rfl rfl hI1.gm.1 (by rw [hR]; exact ⟨Nat.le_of_ble_eq_true rfl, Nat.le_of_ble_eq_true rfl⟩) (by rw [hR]; exact ⟨by show cells + 2 + 0 ≤ 601024; omega, by show slots + 12 + 0 ≤ 7293034; omega⟩) (Nat.le_of_ble_eq_true rfl) (fun o2 v2 ρ2 Z2 hq2 _ => ?_)
  obtain ⟨rfl, rfl, hf2, r2, rfl, hp2⟩ := hq2
  have hI2 := LInv.ref hI1 (Fr.out hf2 (by decide)) (show RfI v2 from ⟨by rw [hf2.2 2 (by decide)]; exact b1, by rw [hf2.2 14 (by decide)]; exact b2, by rw [hf2.2 11 (by decide)]; exact b3, by rw [hf2.1 180 (by decide) (by decide)]; exact b4, by rw [hf2.1 180 (by decide) (by decide), hf2.1 187 (by decide) (by decide), hf2.2 25 (by decide)]; exact b5, by rw [hf2.1 209 (by decide) (by decide), hf2.1 207 (by decide) (by decide)]; exact b6, by rw [hf2.1 195 (by decide) (by decide)]; exact b7, by rw [hf2.1 194 (by decide) (by decide)]; exact b8, by rw [hf2.2 45 (by decide)]; exact b9, by rw [hf2.2 49 (by decide)]; exact b10⟩)
  have z1 : v2 (ρ1 4 0) 1 = v1 (ρ1 4 0) 1 := congrFun (Fr.out hf2 (by decide) _ (hI1.lo hI1.w2 (by decide))) 1
  have z2 := hC1.1
  have z3 : v1 178 2 = v 178 2 := congrFun e178 2
  have z0 := hE.1
  have y1 : ∀ k, v2 (ρ1 4 13) k = v1 (ρ1 4 13) k := fun k => congrFun (Fr.out hf2 (by decide) _ (hI1.lo hI1.w62 (by decide))) k
  have y3 : ∀ k, v1 209 k = v 209 k := fun k => congrFun e209 k
  have z4 : v2 178 2 = v1 178 2 := hf2.2 2 (by decide)
  have x9 : v2 (ρ1 4 0) 9 = v1 (ρ1 4 0) 9 := congrFun (Fr.out hf2 (by decide) _ (hI1.lo hI1.w2 (by decide))) 9
  have hF2 : v2 (ρ1 4 0) 9 = v2 178 15 := by
    rw [x9, hF1, hf2.2 15 (by decide), e178]
    exact hF
  have hw3b : ω (ρ1 (ρ1 4 0) 0) = 3 := hI1.ht.rf hI1.w2 (by decide) rfl
  have g2 : v2 (ρ1 (ρ1 4 0) 0) = v1 (ρ1 (ρ1 4 0) 0) := Fr.out hf2 (by decide) _ (hI1.lo hw3b (by decide))
  have e2 : v2 184 = v1 184 := hf2.1 184 (by decide) (by decide)
  have hT2 : EqT v2 ρ1 := EqT.step hT hr1 e184 e2 e179 (hf2.1 179 (by decide) (by decide)) eB g2 (by omega)
  have hO := Fr.out hf2 (by decide)
  have hK2 := RcK.ref hKc hI1 hO ho5
  have hR2 : EqN v2 ρ1 := EqN.k1 hQ4 hI.ht hI.w4 (TrP.ref hPc hI1 hI1.w4 hO) hK2 (fun k _ _ => by rw [hf2.1 180 (by decide) (by decide), e180]) ((hf2.1 207 (by decide) (by decide)).trans e207) ((hf2.1 209 (by decide) (by decide)).trans e209) (fun k _ _ => congrFun ((hf2.1 183 (by decide) (by decide)).trans e183) k) ((hf2.1 208 (by decide) (by decide)).trans e208)
  have hE2 : EqI v2 ρ1 := ⟨by omega, fun k a b => by rw [y1 k, hC1.2 k a b, show v2 209 k = v1 209 k from congrFun (hf2.1 209 (by decide) (by decide)) k, y3 k]; exact hE.2 k a b⟩
  show wp g X (LF lc_17) (cells + 2) (slots + 12) 806 [(2, 3), (2, 4), (2, 178), (2, 210), (0, i), (0, r1), (3, 0), (3, 0)] [(1, r2)] v2 ρ1 Z
  refine r_lstore (ls' := [(2, 3), (2, 4), (2, 178), (2, 210), (0, i), (0, r1), (1, r2), (3, 0)]) (pc := 806) hX 26 rfl (by decide) rfl ?_
  refine r_goto (pc := 808) hX 27 (tgt := 1410) rfl (by decide) ?_
  refine wp_wid (k := cells + 20) (n := slots + 150) (by omega) (by omega) ?_
  refine r_wk (ls' := lls i) ⟨Or.inr rfl, Or.inr rfl, Or.inr rfl, Or.inr rfl, Or.inr rfl, Or.inl rfl, Or.inl rfl, Or.inr rfl, trivial⟩ ?_
  exact kk _ _ _ _ ⟨⟨⟨⟨hI2, hE2⟩, hT2⟩, hR2, hS1⟩, hF2⟩
set_option maxRecDepth 100000 in
def lc_18 : List (Nat × Instr × Nat) := [(811, .aload_n 1, 1), (812, .invokevirtual 125, 3), (815, .pop, 1), (816, .aload_n 2, 1), (817, .invokevirtual 128, 3), (820, .pop, 1), (821, .goto 589, 3)]
set_option maxRecDepth 100000 in
theorem lc_18_d : lc_18.all (fun q => decide (decode cL_law q.1 = .ok q.2)) = true := by decide +kernel
set_option maxHeartbeats 4000000 in
set_option maxRecDepth 100000 in
theorem cs_18 {g : Gp} {X : Cx} {N : Int} {sc : Int → Int} (hL : LX g X) (hsc : ∀ k, inR (sc k)) : CaseOk6 g X N sc 811 := by
  intro i cells slots ω v ρ Z hi0 hi1 hc hs hI kk
  obtain ⟨⟨⟨⟨hI, hE⟩, hT⟩, hQ4, hQl, hQs⟩, hF⟩ := hI
  have hw := TrW.of hI.ht hI.w4
  have h8 : 0 ≤ v (ρ 4 6) 1 ∧ v (ρ 4 6) 1 ≤ 8 := hI.ht.rg hw.2.2.2.1 (by decide) rfl
  have hw4 : ω (ρ 4 1) = 4 := hI.ht.rf hI.w4 (by decide) rfl
  have hw3 : ω (ρ (ρ 4 0) 0) = 3 := hI.ht.rf hI.w2 (by decide) rfl
  have hw15 : ω (ρ 4 2) = 15 := hI.ht.rf hI.w4 (by decide) rfl
  have hw21 : ω (ρ 4 3) = 21 := hI.ht.rf hI.w4 (by decide) rfl
  have hX : okX g X (LF lc_18) := okL hL.1 lc_18_d
  have hR := hL.2.1
  show wp g X (LF lc_18) cells slots 811 (lls i) [] v ρ Z
  refine r_aload_n (pc := 811) hX 0 rfl rfl ?_
  refine r_callV (as := []) (st := []) (K := 11) (pc := 812) hX 1 rfl mo_X11_favourite ml_L_125 im_X11_favourite se_X11_favourite (c_X11_favourite g ω v ρ Z hI.ht 4 hI.w4) rfl rfl rfl hI.k4 (by rw [hR]; exact ⟨Nat.le_of_ble_eq_true rfl, Nat.le_of_ble_eq_true rfl⟩) (by rw [hR]; exact ⟨by show cells + 0 ≤ 601024; omega, by show slots + 0 ≤ 7293034; omega⟩) (Nat.le_of_ble_eq_true rfl) (fun o1 v1 ρ1 Z1 hq1 _ => ?_)
  obtain ⟨rfl, hf1, hg1, hh1, r1, rfl, hp1⟩ := hq1
  have hI1 := LInv.cls hI (fun q hq _ => hf1 q (by rw [hq]; decide)) (fun q hq => hg1 q (by rw [hq]; decide)) hh1
  have hC1 : EqC (v (ρ 4 0) 1) (v (ρ 4 13)) v1 ρ1 := EqC.fr (congrFun (hg1 4 (by rw [hI.w4]; decide)) 0) (congrFun (hg1 4 (by rw [hI.w4]; decide)) 13) (congrFun (hf1 (ρ 4 0) (by rw [hI.w2]; decide)) 1) (fun k _ _ => congrFun (hf1 (ρ 4 13) (by rw [hI.w62]; decide)) k)
  have e179 : v1 179 = v 179 := hf1 179 (by rw [hI.wz (r := 179) (by decide) (by decide)]; decide)
  have e184 : v1 184 = v 184 := hf1 184 (by rw [hI.wz (r := 184) (by decide) (by decide)]; decide)
  have eB : v1 (ρ (ρ 4 0) 0) = v (ρ (ρ 4 0) 0) := hf1 _ (by rw [hw3]; decide)
  have hr1 : ρ1 4 0 = ρ 4 0 ∧ ρ1 4 1 = ρ 4 1 ∧ ρ1 (ρ 4 1) 0 = ρ (ρ 4 1) 0 ∧ ρ1 (ρ 4 0) 0 = ρ (ρ 4 0) 0 := ⟨congrFun (hg1 4 (by rw [hI.w4]; decide)) 0, congrFun (hg1 4 (by rw [hI.w4]; decide)) 1, congrFun (hg1 _ (by rw [hw4]; decide)) 0, congrFun (hg1 _ (by rw [hI.w2]; decide)) 0⟩
  have hF1 : v1 (ρ1 4 0) 9 = v (ρ 4 0) 9 := by
    rw [show ρ1 4 0 = ρ 4 0 from congrFun (hg1 4 (by rw [hI.w4]; decide)) 0]
    exact congrFun (hf1 (ρ 4 0) (by rw [hI.w2]; decide)) 9
  have e180 : v1 180 = v 180 := hf1 180 (by rw [hI.wz (r := 180) (by decide) (by decide)]; decide)
  have e207 : v1 207 = v 207 := hf1 207 (by rw [hI.wz (r := 207) (by decide) (by decide)]; decide)
  have e183 : v1 183 = v 183 := hf1 183 (by rw [hI.wz (r := 183) (by decide) (by decide)]; decide)
  have e208 : v1 208 = v 208 := hf1 208 (by rw [hI.wz (r := 208) (by decide) (by decide)]; decide)
  have hKc : RcK ω v ρ v1 ρ1 := RcK.fr hI.ht hf1 hg1 (by decide) (by decide)
  have ho5 : ∀ o, ω o = 5 → ω o = 5 := fun _ h => h
  have hS1 : ρ1 (ρ1 4 2) 0 = ρ1 4 0 ∧ ρ1 (ρ1 4 3) 0 = ρ1 4 0 := ⟨tapS (congrFun (hg1 4 (by rw [hI.w4]; decide)) 0) (congrFun (hg1 4 (by rw [hI.w4]; decide)) 2) (congrFun (hg1 _ (by rw [hw15]; decide)) 0) hQl, tapS (congrFun (hg1 4 (by rw [hI.w4]; decide)) 0) (congrFun (hg1 4 (by rw [hI.w4]; decide)) 3) (congrFun (hg1 _ (by rw [hw21]; decide)) 0) hQs⟩
  have hPc := TrP.fr (v' := v1) hQ4.1 hw hf1 hg1 h8.2 (by decide) (by decide)
  have e178 : v1 178 = v 178 := hf1 178 (by rw [hI.wz (r := 178) (by decide) (by decide)]; decide)
  have e209 : v1 209 = v 209 := hf1 209 (by rw [hI.wz (r := 209) (by decide) (by decide)]; decide)
  show wp g X (LF lc_18) (cells) (slots) 815 [(2, 3), (2, 4), (2, 178), (2, 210), (0, i), (3, 0), (3, 0), (3, 0)] [(0, r1)] v1 ρ1 Z
  refine r_pop (pc := 815) hX 2 rfl (show (0 : Nat) ≠ 1 by decide) ?_
  refine r_aload_n (pc := 816) hX 3 rfl rfl ?_
  obtain ⟨b1, b2, b3, b4, b5, b6, b7, b8, b9, b10⟩ := hI1.rf
  refine r_callV (as := []) (st := []) (K := 12) (pc := 817) hX 4 rfl mo_m_favourite ml_L_128 im_m_favourite se_m_favourite (c_favourite g v1 ρ1 Z hI1.gm b4) rfl rfl rfl hI1.gm.1 (by rw [hR]; exact ⟨Nat.le_of_ble_eq_true rfl, Nat.le_of_ble_eq_true rfl⟩) (by rw [hR]; exact ⟨by show cells + 0 ≤ 601024; omega, by show slots + 0 ≤ 7293034; omega⟩) (Nat.le_of_ble_eq_true rfl) (fun o2 v2 ρ2 Z2 hq2 _ => ?_)
  obtain ⟨rfl, rfl, hf2, r2, rfl, hp2⟩ := hq2
  have hI2 := LInv.ref hI1 (Fr.out hf2 (by decide)) (show RfI v2 from ⟨by rw [hf2.2 2 (by decide)]; exact b1, by rw [hf2.2 14 (by decide)]; exact b2, by rw [hf2.2 11 (by decide)]; exact b3, by rw [hf2.1 180 (by decide) (by decide)]; exact b4, by rw [hf2.1 180 (by decide) (by decide), hf2.1 187 (by decide) (by decide), hf2.2 25 (by decide)]; exact b5, by rw [hf2.1 209 (by decide) (by decide), hf2.1 207 (by decide) (by decide)]; exact b6, by rw [hf2.1 195 (by decide) (by decide)]; exact b7, by rw [hf2.1 194 (by decide) (by decide)]; exact b8, by rw [hf2.2 45 (by decide)]; exact b9, by rw [hf2.2 49 (by decide)]; exact b10⟩)
  have z1 : v2 (ρ1 4 0) 1 = v1 (ρ1 4 0) 1 := congrFun (Fr.out hf2 (by decide) _ (hI1.lo hI1.w2 (by decide))) 1
  have z2 := hC1.1
  have z3 : v1 178 2 = v 178 2 := congrFun e178 2
  have z0 := hE.1
  have y1 : ∀ k, v2 (ρ1 4 13) k = v1 (ρ1 4 13) k := fun k => congrFun (Fr.out hf2 (by decide) _ (hI1.lo hI1.w62 (by decide))) k
  have y3 : ∀ k, v1 209 k = v 209 k := fun k => congrFun e209 k
  have z4 : v2 178 2 = v1 178 2 := hf2.2 2 (by decide)
  have x9 : v2 (ρ1 4 0) 9 = v1 (ρ1 4 0) 9 := congrFun (Fr.out hf2 (by decide) _ (hI1.lo hI1.w2 (by decide))) 9
  have hF2 : v2 (ρ1 4 0) 9 = v2 178 15 := by
    rw [x9, hF1, hf2.2 15 (by decide), e178]
    exact hF
  have hw3b : ω (ρ1 (ρ1 4 0) 0) = 3 := hI1.ht.rf hI1.w2 (by decide) rfl
  have g2 : v2 (ρ1 (ρ1 4 0) 0) = v1 (ρ1 (ρ1 4 0) 0) := Fr.out hf2 (by decide) _ (hI1.lo hw3b (by decide))
  have e2 : v2 184 = v1 184 := hf2.1 184 (by decide) (by decide)
  have hT2 : EqT v2 ρ1 := EqT.step hT hr1 e184 e2 e179 (hf2.1 179 (by decide) (by decide)) eB g2 (by omega)
  have hO := Fr.out hf2 (by decide)
  have hK2 := RcK.ref hKc hI1 hO ho5
  have hR2 : EqN v2 ρ1 := EqN.k1 hQ4 hI.ht hI.w4 (TrP.ref hPc hI1 hI1.w4 hO) hK2 (fun k _ _ => by rw [hf2.1 180 (by decide) (by decide), e180]) ((hf2.1 207 (by decide) (by decide)).trans e207) ((hf2.1 209 (by decide) (by decide)).trans e209) (fun k _ _ => congrFun ((hf2.1 183 (by decide) (by decide)).trans e183) k) ((hf2.1 208 (by decide) (by decide)).trans e208)
  have hE2 : EqI v2 ρ1 := ⟨by omega, fun k a b => by rw [y1 k, hC1.2 k a b, show v2 209 k = v1 209 k from congrFun (hf2.1 209 (by decide) (by decide)) k, y3 k]; exact hE.2 k a b⟩
  show wp g X (LF lc_18) (cells) (slots) 820 [(2, 3), (2, 4), (2, 178), (2, 210), (0, i), (3, 0), (3, 0), (3, 0)] [(0, r2)] v2 ρ1 Z
  refine r_pop (pc := 820) hX 5 rfl (show (0 : Nat) ≠ 1 by decide) ?_
  refine r_goto (pc := 821) hX 6 (tgt := 1410) rfl (by decide) ?_
  refine wp_wid (k := cells + 20) (n := slots + 150) (by omega) (by omega) ?_
  exact kk _ _ _ _ ⟨⟨⟨⟨hI2, hE2⟩, hT2⟩, hR2, hS1⟩, hF2⟩
set_option maxRecDepth 100000 in
def lc_19 : List (Nat × Instr × Nat) := [(824, .aload_n 1, 1), (825, .aload_n 0, 1), (826, .iload 4, 2), (828, .iconst 1, 1), (829, .iadd, 1), (830, .iaload, 1), (831, .invokevirtual 129, 3), (834, .pop, 1), (835, .aload_n 2, 1), (836, .aload_n 0, 1), (837, .iload 4, 2), (839, .iconst 1, 1), (840, .iadd, 1), (841, .iaload, 1), (842, .invokevirtual 132, 3), (845, .pop, 1), (846, .goto 564, 3)]
set_option maxRecDepth 100000 in
theorem lc_19_d : lc_19.all (fun q => decide (decode cL_law q.1 = .ok q.2)) = true := by decide +kernel
set_option maxHeartbeats 4000000 in
set_option maxRecDepth 100000 in
theorem cs_19 {g : Gp} {X : Cx} {N : Int} {sc : Int → Int} (hL : LX g X) (hsc : ∀ k, inR (sc k)) : CaseOk6 g X N sc 824 := by
  intro i cells slots ω v ρ Z hi0 hi1 hc hs hI kk
  obtain ⟨⟨⟨⟨hI, hE⟩, hT⟩, hQ4, hQl, hQs⟩, hF⟩ := hI
  have hw := TrW.of hI.ht hI.w4
  have h8 : 0 ≤ v (ρ 4 6) 1 ∧ v (ρ 4 6) 1 ≤ 8 := hI.ht.rg hw.2.2.2.1 (by decide) rfl
  have hw4 : ω (ρ 4 1) = 4 := hI.ht.rf hI.w4 (by decide) rfl
  have hw3 : ω (ρ (ρ 4 0) 0) = 3 := hI.ht.rf hI.w2 (by decide) rfl
  have hw15 : ω (ρ 4 2) = 15 := hI.ht.rf hI.w4 (by decide) rfl
  have hw21 : ω (ρ 4 3) = 21 := hI.ht.rf hI.w4 (by decide) rfl
  have hX : okX g X (LF lc_19) := okL hL.1 lc_19_d
  have hR := hL.2.1
  show wp g X (LF lc_19) cells slots 824 (lls i) [] v ρ Z
  refine r_aload_n (pc := 824) hX 0 rfl rfl ?_
  refine r_aload_n (pc := 825) hX 1 rfl rfl ?_
  refine r_iload (pc := 826) hX 2 rfl rfl ?_
  refine r_iconst (pc := 828) hX 3 rfl ?_
  refine r_iadd (pc := 829) hX 4 rfl ?_
  refine e_iald (y := sc (i + 1)) (n := N) (pc := 830) hX 5 rfl hI.sk hI.sl (by omega) (by omega) (hI.s3 _) ?_
  refine r_callV (as := [(0, sc (i + 1))]) (st := []) (K := 11) (pc := 831) hX 6 rfl mo_X11_chosen ml_L_129 im_X11_chosen se_X11_chosen (c_X11_chosen g ω v ρ Z hI.ht 4 hI.w4 (sc (i + 1)) (hsc _)) rfl rfl rfl hI.k4 (by rw [hR]; exact ⟨Nat.le_of_ble_eq_true rfl, Nat.le_of_ble_eq_true rfl⟩) (by rw [hR]; exact ⟨by show cells + 0 ≤ 601024; omega, by show slots + 0 ≤ 7293034; omega⟩) (Nat.le_of_ble_eq_true rfl) (fun o1 v1 ρ1 Z1 hq1 _ => ?_)
  obtain ⟨rfl, hf1, hg1, hh1, r1, rfl, hp1⟩ := hq1
  have hI1 := LInv.cls hI (fun q hq _ => hf1 q (by rw [hq]; decide)) (fun q hq => hg1 q (by rw [hq]; decide)) hh1
  have hC1 : EqC (v (ρ 4 0) 1) (v (ρ 4 13)) v1 ρ1 := EqC.fr (congrFun (hg1 4 (by rw [hI.w4]; decide)) 0) (congrFun (hg1 4 (by rw [hI.w4]; decide)) 13) (congrFun (hf1 (ρ 4 0) (by rw [hI.w2]; decide)) 1) (fun k _ _ => congrFun (hf1 (ρ 4 13) (by rw [hI.w62]; decide)) k)
  have e179 : v1 179 = v 179 := hf1 179 (by rw [hI.wz (r := 179) (by decide) (by decide)]; decide)
  have e184 : v1 184 = v 184 := hf1 184 (by rw [hI.wz (r := 184) (by decide) (by decide)]; decide)
  have eB : v1 (ρ (ρ 4 0) 0) = v (ρ (ρ 4 0) 0) := hf1 _ (by rw [hw3]; decide)
  have hr1 : ρ1 4 0 = ρ 4 0 ∧ ρ1 4 1 = ρ 4 1 ∧ ρ1 (ρ 4 1) 0 = ρ (ρ 4 1) 0 ∧ ρ1 (ρ 4 0) 0 = ρ (ρ 4 0) 0 := ⟨congrFun (hg1 4 (by rw [hI.w4]; decide)) 0, congrFun (hg1 4 (by rw [hI.w4]; decide)) 1, congrFun (hg1 _ (by rw [hw4]; decide)) 0, congrFun (hg1 _ (by rw [hI.w2]; decide)) 0⟩
  have hF1 : v1 (ρ1 4 0) 9 = v (ρ 4 0) 9 := by
    rw [show ρ1 4 0 = ρ 4 0 from congrFun (hg1 4 (by rw [hI.w4]; decide)) 0]
    exact congrFun (hf1 (ρ 4 0) (by rw [hI.w2]; decide)) 9
  have e180 : v1 180 = v 180 := hf1 180 (by rw [hI.wz (r := 180) (by decide) (by decide)]; decide)
  have e207 : v1 207 = v 207 := hf1 207 (by rw [hI.wz (r := 207) (by decide) (by decide)]; decide)
  have e183 : v1 183 = v 183 := hf1 183 (by rw [hI.wz (r := 183) (by decide) (by decide)]; decide)
  have e208 : v1 208 = v 208 := hf1 208 (by rw [hI.wz (r := 208) (by decide) (by decide)]; decide)
  have hKc : RcK ω v ρ v1 ρ1 := RcK.fr hI.ht hf1 hg1 (by decide) (by decide)
  have ho5 : ∀ o, ω o = 5 → ω o = 5 := fun _ h => h
  have hS1 : ρ1 (ρ1 4 2) 0 = ρ1 4 0 ∧ ρ1 (ρ1 4 3) 0 = ρ1 4 0 := ⟨tapS (congrFun (hg1 4 (by rw [hI.w4]; decide)) 0) (congrFun (hg1 4 (by rw [hI.w4]; decide)) 2) (congrFun (hg1 _ (by rw [hw15]; decide)) 0) hQl, tapS (congrFun (hg1 4 (by rw [hI.w4]; decide)) 0) (congrFun (hg1 4 (by rw [hI.w4]; decide)) 3) (congrFun (hg1 _ (by rw [hw21]; decide)) 0) hQs⟩
  have hPc := TrP.fr (v' := v1) hQ4.1 hw hf1 hg1 h8.2 (by decide) (by decide)
  have e178 : v1 178 = v 178 := hf1 178 (by rw [hI.wz (r := 178) (by decide) (by decide)]; decide)
  have e209 : v1 209 = v 209 := hf1 209 (by rw [hI.wz (r := 209) (by decide) (by decide)]; decide)
  show wp g X (LF lc_19) (cells) (slots) 834 [(2, 3), (2, 4), (2, 178), (2, 210), (0, i), (3, 0), (3, 0), (3, 0)] [(0, r1)] v1 ρ1 Z
  refine r_pop (pc := 834) hX 7 rfl (show (0 : Nat) ≠ 1 by decide) ?_
  refine r_aload_n (pc := 835) hX 8 rfl rfl ?_
  refine r_aload_n (pc := 836) hX 9 rfl rfl ?_
  refine r_iload (pc := 837) hX 10 rfl rfl ?_
  refine r_iconst (pc := 839) hX 11 rfl ?_
  refine r_iadd (pc := 840) hX 12 rfl ?_
  refine e_iald (y := sc (i + 1)) (n := N) (pc := 841) hX 13 rfl hI1.sk hI1.sl (by omega) (by omega) (hI1.s3 _) ?_
  obtain ⟨b1, b2, b3, b4, b5, b6, b7, b8, b9, b10⟩ := hI1.rf
  refine r_callV (as := [(0, sc (i + 1))]) (st := []) (K := 12) (pc := 842) hX 14 rfl mo_m_chosen ml_L_132 im_m_chosen se_m_chosen (c_chosen g v1 ρ1 Z hI1.gm (sc (i + 1)) b4 b7 b8 (hsc _)) rfl rfl rfl hI1.gm.1 (by rw [hR]; exact ⟨Nat.le_of_ble_eq_true rfl, Nat.le_of_ble_eq_true rfl⟩) (by rw [hR]; exact ⟨by show cells + 0 ≤ 601024; omega, by show slots + 0 ≤ 7293034; omega⟩) (Nat.le_of_ble_eq_true rfl) (fun o2 v2 ρ2 Z2 hq2 _ => ?_)
  obtain ⟨rfl, rfl, hf2, r2, rfl, hp2⟩ := hq2
  have hI2 := LInv.ref hI1 (Fr.out hf2 (by decide)) (show RfI v2 from ⟨by rw [hf2.2 2 (by decide)]; exact b1, by rw [hf2.2 14 (by decide)]; exact b2, by rw [hf2.2 11 (by decide)]; exact b3, by rw [hf2.1 180 (by decide) (by decide)]; exact b4, by rw [hf2.1 180 (by decide) (by decide), hf2.1 187 (by decide) (by decide), hf2.2 25 (by decide)]; exact b5, by rw [hf2.1 209 (by decide) (by decide), hf2.1 207 (by decide) (by decide)]; exact b6, hp2.1, hp2.2, by rw [hf2.2 45 (by decide)]; exact b9, by rw [hf2.2 49 (by decide)]; exact b10⟩)
  have z1 : v2 (ρ1 4 0) 1 = v1 (ρ1 4 0) 1 := congrFun (Fr.out hf2 (by decide) _ (hI1.lo hI1.w2 (by decide))) 1
  have z2 := hC1.1
  have z3 : v1 178 2 = v 178 2 := congrFun e178 2
  have z0 := hE.1
  have y1 : ∀ k, v2 (ρ1 4 13) k = v1 (ρ1 4 13) k := fun k => congrFun (Fr.out hf2 (by decide) _ (hI1.lo hI1.w62 (by decide))) k
  have y3 : ∀ k, v1 209 k = v 209 k := fun k => congrFun e209 k
  have z4 : v2 178 2 = v1 178 2 := hf2.2 2 (by decide)
  have x9 : v2 (ρ1 4 0) 9 = v1 (ρ1 4 0) 9 := congrFun (Fr.out hf2 (by decide) _ (hI1.lo hI1.w2 (by decide))) 9
  have hF2 : v2 (ρ1 4 0) 9 = v2 178 15 := by
    rw [x9, hF1, hf2.2 15 (by decide), e178]
    exact hF
  have hw3b : ω (ρ1 (ρ1 4 0) 0) = 3 := hI1.ht.rf hI1.w2 (by decide) rfl
  have g2 : v2 (ρ1 (ρ1 4 0) 0) = v1 (ρ1 (ρ1 4 0) 0) := Fr.out hf2 (by decide) _ (hI1.lo hw3b (by decide))
  have e2 : v2 184 = v1 184 := hf2.1 184 (by decide) (by decide)
  have hT2 : EqT v2 ρ1 := EqT.step hT hr1 e184 e2 e179 (hf2.1 179 (by decide) (by decide)) eB g2 (by omega)
  have hO := Fr.out hf2 (by decide)
  have hK2 := RcK.ref hKc hI1 hO ho5
  have hR2 : EqN v2 ρ1 := EqN.k1 hQ4 hI.ht hI.w4 (TrP.ref hPc hI1 hI1.w4 hO) hK2 (fun k _ _ => by rw [hf2.1 180 (by decide) (by decide), e180]) ((hf2.1 207 (by decide) (by decide)).trans e207) ((hf2.1 209 (by decide) (by decide)).trans e209) (fun k _ _ => congrFun ((hf2.1 183 (by decide) (by decide)).trans e183) k) ((hf2.1 208 (by decide) (by decide)).trans e208)
  have hE2 : EqI v2 ρ1 := ⟨by omega, fun k a b => by rw [y1 k, hC1.2 k a b, show v2 209 k = v1 209 k from congrFun (hf2.1 209 (by decide) (by decide)) k, y3 k]; exact hE.2 k a b⟩
  show wp g X (LF lc_19) (cells) (slots) 845 [(2, 3), (2, 4), (2, 178), (2, 210), (0, i), (3, 0), (3, 0), (3, 0)] [(0, r2)] v2 ρ1 Z
  refine r_pop (pc := 845) hX 15 rfl (show (0 : Nat) ≠ 1 by decide) ?_
  refine r_goto (pc := 846) hX 16 (tgt := 1410) rfl (by decide) ?_
  refine wp_wid (k := cells + 20) (n := slots + 150) (by omega) (by omega) ?_
  exact kk _ _ _ _ ⟨⟨⟨⟨hI2, hE2⟩, hT2⟩, hR2, hS1⟩, hF2⟩
set_option maxRecDepth 100000 in
def lc_20 : List (Nat × Instr × Nat) := [(849, .aload_n 1, 1), (850, .aload_n 0, 1), (851, .iload 4, 2), (853, .iconst 1, 1), (854, .iadd, 1), (855, .iaload, 1), (856, .aload_n 0, 1), (857, .iload 4, 2), (859, .iconst 2, 1), (860, .iadd, 1), (861, .iaload, 1), (862, .aload_n 3, 1), (863, .invokestatic 133, 3), (866, .istore 5, 2), (868, .aload_n 2, 1), (869, .aload_n 0, 1), (870, .iload 4, 2), (872, .iconst 1, 1), (873, .iadd, 1), (874, .iaload, 1), (875, .aload_n 0, 1), (876, .iload 4, 2), (878, .iconst 2, 1), (879, .iadd, 1), (880, .iaload, 1), (881, .invokevirtual 135, 3), (884, .lstore 6, 2), (886, .goto 524, 3)]
set_option maxRecDepth 100000 in
theorem lc_20_d : lc_20.all (fun q => decide (decode cL_law q.1 = .ok q.2)) = true := by decide +kernel
set_option maxHeartbeats 4000000 in
set_option maxRecDepth 100000 in
theorem cs_20 {g : Gp} {X : Cx} {N : Int} {sc : Int → Int} (hL : LX g X) (hsc : ∀ k, inR (sc k)) : CaseOk6 g X N sc 849 := by
  intro i cells slots ω v ρ Z hi0 hi1 hc hs hI kk
  obtain ⟨⟨⟨⟨hI, hE⟩, hT⟩, hQ4, hQl, hQs⟩, hF⟩ := hI
  have hw := TrW.of hI.ht hI.w4
  have h8 : 0 ≤ v (ρ 4 6) 1 ∧ v (ρ 4 6) 1 ≤ 8 := hI.ht.rg hw.2.2.2.1 (by decide) rfl
  have hw4 : ω (ρ 4 1) = 4 := hI.ht.rf hI.w4 (by decide) rfl
  have hw3 : ω (ρ (ρ 4 0) 0) = 3 := hI.ht.rf hI.w2 (by decide) rfl
  have hw15 : ω (ρ 4 2) = 15 := hI.ht.rf hI.w4 (by decide) rfl
  have hw21 : ω (ρ 4 3) = 21 := hI.ht.rf hI.w4 (by decide) rfl
  have hX : okX g X (LF lc_20) := okL hL.1 lc_20_d
  have hR := hL.2.1
  show wp g X (LF lc_20) cells slots 849 (lls i) [] v ρ Z
  refine r_aload_n (pc := 849) hX 0 rfl rfl ?_
  refine r_aload_n (pc := 850) hX 1 rfl rfl ?_
  refine r_iload (pc := 851) hX 2 rfl rfl ?_
  refine r_iconst (pc := 853) hX 3 rfl ?_
  refine r_iadd (pc := 854) hX 4 rfl ?_
  refine e_iald (y := sc (i + 1)) (n := N) (pc := 855) hX 5 rfl hI.sk hI.sl (by omega) (by omega) (hI.s3 _) ?_
  refine r_aload_n (pc := 856) hX 6 rfl rfl ?_
  refine r_iload (pc := 857) hX 7 rfl rfl ?_
  refine r_iconst (pc := 859) hX 8 rfl ?_
  refine r_iadd (pc := 860) hX 9 rfl ?_
  refine e_iald (y := sc (i + 2)) (n := N) (pc := 861) hX 10 rfl hI.sk hI.sl (by omega) (by omega) (hI.s3 _) ?_
  refine r_aload_n (pc := 862) hX 11 rfl rfl ?_
  refine r_callSH (as := [(2, 4), (0, sc (i + 1)), (0, sc (i + 2)), (2, 210)]) (st := []) (pc := 863) hX 12 hL.2.2.2 rfl mo_L_chance ml_L_133 stt_L_chance (c_LG_chance g ω v ρ Z hI.ht 4 hI.w4 (sc (i + 1)) (sc (i + 2)) 210 hI.o0 hI.ok hI.ol (by decide) hL.2.2.1 (by have := hI.nz; omega) (hsc _) (hsc _)) rfl (by rw [hR]; exact ⟨Nat.le_of_ble_eq_true rfl, Nat.le_of_ble_eq_true rfl⟩) (by rw [hR]; exact ⟨by show cells + 2 ≤ 601024; omega, by show slots + 12 ≤ 7293034; omega⟩) (Nat.le_of_ble_eq_true rfl) (fun o1 v1 ρ1 Z1 hq1 _ => ?_)
  obtain ⟨rfl, hf1, hg1, hh1, r1, rfl, hp1⟩ := hq1
  have hI1 := LInv.cls hI (fun q h n => hf1 q (by rw [h]; decide) n) (fun q h => hg1 q (by rw [h]; decide)) hh1
  have hC1 : EqC (v (ρ 4 0) 1) (v (ρ 4 13)) v1 ρ1 := EqC.fr (congrFun (hg1 4 (by rw [hI.w4]; decide)) 0) (congrFun (hg1 4 (by rw [hI.w4]; decide)) 13) (congrFun (hf1 (ρ 4 0) (by rw [hI.w2]; decide) (by have := hI.lt hI.w2 (by decide); omega)) 1) (fun k _ _ => congrFun (hf1 (ρ 4 13) (by rw [hI.w62]; decide) (by have := hI.lt hI.w62 (by decide); omega)) k)
  have e178 : v1 178 = v 178 := hf1 178 (by rw [hI.wz (r := 178) (by decide) (by decide)]; decide) (by decide)
  have e209 : v1 209 = v 209 := hf1 209 (by rw [hI.wz (r := 209) (by decide) (by decide)]; decide) (by decide)
  have e179 : v1 179 = v 179 := hf1 179 (by rw [hI.wz (r := 179) (by decide) (by decide)]; decide) (by decide)
  have e184 : v1 184 = v 184 := hf1 184 (by rw [hI.wz (r := 184) (by decide) (by decide)]; decide) (by decide)
  have e180 : v1 180 = v 180 := hf1 180 (by rw [hI.wz (r := 180) (by decide) (by decide)]; decide) (by decide)
  have e207 : v1 207 = v 207 := hf1 207 (by rw [hI.wz (r := 207) (by decide) (by decide)]; decide) (by decide)
  have e183 : v1 183 = v 183 := hf1 183 (by rw [hI.wz (r := 183) (by decide) (by decide)]; decide) (by decide)
  have e208 : v1 208 = v 208 := hf1 208 (by rw [hI.wz (r := 208) (by decide) (by decide)]; decide) (by decide)
  have eB : v1 (ρ (ρ 4 0) 0) = v (ρ (ρ 4 0) 0) := hf1 _ (by rw [hw3]; decide) (by have := hI.lt hw3 (by decide); omega)
  have hr1 : ρ1 4 0 = ρ 4 0 ∧ ρ1 4 1 = ρ 4 1 ∧ ρ1 (ρ 4 1) 0 = ρ (ρ 4 1) 0 ∧ ρ1 (ρ 4 0) 0 = ρ (ρ 4 0) 0 := ⟨congrFun (hg1 4 (by rw [hI.w4]; decide)) 0, congrFun (hg1 4 (by rw [hI.w4]; decide)) 1, congrFun (hg1 _ (by rw [hw4]; decide)) 0, congrFun (hg1 _ (by rw [hI.w2]; decide)) 0⟩
  have hKc : RcK ω v ρ v1 ρ1 := fun o L i s h5 h => (h.frO hI.ht h5 (fun r hr => hf1 r (inW_K hr) (by have := hI.lt (c := ω r) rfl (inW_0 hr); omega))).rho (hg1 o (by rw [h5]; decide)) (hg1 _ (by rw [show ω (ρ o 5) = 12 from hI.ht.rf h5 (by decide) rfl]; decide))
  have ho5 : ∀ o, ω o = 5 → ω o = 5 := fun _ h => h
  have hS1 : ρ1 (ρ1 4 2) 0 = ρ1 4 0 ∧ ρ1 (ρ1 4 3) 0 = ρ1 4 0 := ⟨tapS (congrFun (hg1 4 (by rw [hI.w4]; decide)) 0) (congrFun (hg1 4 (by rw [hI.w4]; decide)) 2) (congrFun (hg1 _ (by rw [hw15]; decide)) 0) hQl, tapS (congrFun (hg1 4 (by rw [hI.w4]; decide)) 0) (congrFun (hg1 4 (by rw [hI.w4]; decide)) 3) (congrFun (hg1 _ (by rw [hw21]; decide)) 0) hQs⟩
  have hF1 : v1 (ρ1 4 0) 9 = v (ρ 4 0) 9 := by
    rw [show ρ1 4 0 = ρ 4 0 from congrFun (hg1 4 (by rw [hI.w4]; decide)) 0]
    exact congrFun (hf1 (ρ 4 0) (by rw [hI.w2]; decide) (by have := hI.lt hI.w2 (by decide); omega)) 9
  have hPc := TrI.old (ρ' := ρ1) (v' := v1) hQ4.1 hw h8.2 (fun r h9 => hg1 r (by rcases h9 with h9 | h9 | h9 | h9 | h9 | h9 <;> rw [h9] <;> decide)) (congrFun (hf1 (ρ 4 6) (by rw [hw.2.2.2.1]; decide) (by have := hI.lt hw.2.2.2.1 (by decide); omega)) 1)
  show wp g X (LF lc_20) (cells + 2) (slots + 12) 866 [(2, 3), (2, 4), (2, 178), (2, 210), (0, i), (3, 0), (3, 0), (3, 0)] [(0, r1)] v1 ρ1 Z
  refine r_istore (ls' := [(2, 3), (2, 4), (2, 178), (2, 210), (0, i), (0, r1), (3, 0), (3, 0)]) (pc := 866) hX 13 rfl (by decide) rfl ?_
  refine r_aload_n (pc := 868) hX 14 rfl rfl ?_
  refine r_aload_n (pc := 869) hX 15 rfl rfl ?_
  refine r_iload (pc := 870) hX 16 rfl rfl ?_
  refine r_iconst (pc := 872) hX 17 rfl ?_
  refine r_iadd (pc := 873) hX 18 rfl ?_
  refine e_iald (y := sc (i + 1)) (n := N) (pc := 874) hX 19 rfl hI1.sk hI1.sl (by omega) (by omega) (hI1.s3 _) ?_
  refine r_aload_n (pc := 875) hX 20 rfl rfl ?_
  refine r_iload (pc := 876) hX 21 rfl rfl ?_
  refine r_iconst (pc := 878) hX 22 rfl ?_
  refine r_iadd (pc := 879) hX 23 rfl ?_
  refine e_iald (y := sc (i + 2)) (n := N) (pc := 880) hX 24 rfl hI1.sk hI1.sl (by omega) (by omega) (hI1.s3 _) ?_
  obtain ⟨b1, b2, b3, b4, b5, b6, b7, b8, b9, b10⟩ := hI1.rf
  refine r_callV (as := [(0, sc (i + 1)), (0, sc (i + 2))]) (st := []) (K := 12) (pc := 881) hX 25 rfl mo_m_chance ml_L_135 im_m_chance se_m_chance (c_chance g v1 ρ1 Z hI1.gm (sc (i + 1)) (sc (i + 2)) b4 b7 b8 (hsc _) (hsc _)) rfl rfl rfl hI1.gm.1 (by rw [hR]; exact ⟨Nat.le_of_ble_eq_true rfl, Nat.le_of_ble_eq_true rfl⟩) (by rw [hR]; exact ⟨by show cells + 2 + 0 ≤ 601024; omega, by show slots + 12 + 0 ≤ 7293034; omega⟩) (Nat.le_of_ble_eq_true rfl) (fun o2 v2 ρ2 Z2 hq2 _ => ?_)
  obtain ⟨rfl, rfl, hf2, r2, rfl, hp2⟩ := hq2
  have hI2 := LInv.ref hI1 (Fr.out hf2 (by decide)) (show RfI v2 from ⟨by rw [hf2.2 2 (by decide)]; exact b1, by rw [hf2.2 14 (by decide)]; exact b2, by rw [hf2.2 11 (by decide)]; exact b3, by rw [hf2.1 180 (by decide) (by decide)]; exact b4, by rw [hf2.1 180 (by decide) (by decide), hf2.1 187 (by decide) (by decide), hf2.2 25 (by decide)]; exact b5, by rw [hf2.1 209 (by decide) (by decide), hf2.1 207 (by decide) (by decide)]; exact b6, hp2.1, hp2.2, by rw [hf2.2 45 (by decide)]; exact b9, by rw [hf2.2 49 (by decide)]; exact b10⟩)
  have z1 : v2 (ρ1 4 0) 1 = v1 (ρ1 4 0) 1 := congrFun (Fr.out hf2 (by decide) _ (hI1.lo hI1.w2 (by decide))) 1
  have z2 := hC1.1
  have z3 : v1 178 2 = v 178 2 := congrFun e178 2
  have z0 := hE.1
  have y1 : ∀ k, v2 (ρ1 4 13) k = v1 (ρ1 4 13) k := fun k => congrFun (Fr.out hf2 (by decide) _ (hI1.lo hI1.w62 (by decide))) k
  have y3 : ∀ k, v1 209 k = v 209 k := fun k => congrFun e209 k
  have z4 : v2 178 2 = v1 178 2 := hf2.2 2 (by decide)
  have x9 : v2 (ρ1 4 0) 9 = v1 (ρ1 4 0) 9 := congrFun (Fr.out hf2 (by decide) _ (hI1.lo hI1.w2 (by decide))) 9
  have hF2 : v2 (ρ1 4 0) 9 = v2 178 15 := by
    rw [x9, hF1, hf2.2 15 (by decide), e178]
    exact hF
  have hw3b : ω (ρ1 (ρ1 4 0) 0) = 3 := hI1.ht.rf hI1.w2 (by decide) rfl
  have g2 : v2 (ρ1 (ρ1 4 0) 0) = v1 (ρ1 (ρ1 4 0) 0) := Fr.out hf2 (by decide) _ (hI1.lo hw3b (by decide))
  have e2 : v2 184 = v1 184 := hf2.1 184 (by decide) (by decide)
  have hT2 : EqT v2 ρ1 := EqT.step hT hr1 e184 e2 e179 (hf2.1 179 (by decide) (by decide)) eB g2 (by omega)
  have hO := Fr.out hf2 (by decide)
  have hK2 := RcK.ref hKc hI1 hO ho5
  have hR2 : EqN v2 ρ1 := EqN.k1 hQ4 hI.ht hI.w4 (TrP.ref hPc hI1 hI1.w4 hO) hK2 (fun k _ _ => by rw [hf2.1 180 (by decide) (by decide), e180]) ((hf2.1 207 (by decide) (by decide)).trans e207) ((hf2.1 209 (by decide) (by decide)).trans e209) (fun k _ _ => congrFun ((hf2.1 183 (by decide) (by decide)).trans e183) k) ((hf2.1 208 (by decide) (by decide)).trans e208)
  have hE2 : EqI v2 ρ1 := ⟨by omega, fun k a b => by rw [y1 k, hC1.2 k a b, show v2 209 k = v1 209 k from congrFun (hf2.1 209 (by decide) (by decide)) k, y3 k]; exact hE.2 k a b⟩
  show wp g X (LF lc_20) (cells + 2) (slots + 12) 884 [(2, 3), (2, 4), (2, 178), (2, 210), (0, i), (0, r1), (3, 0), (3, 0)] [(1, r2)] v2 ρ1 Z
  refine r_lstore (ls' := [(2, 3), (2, 4), (2, 178), (2, 210), (0, i), (0, r1), (1, r2), (3, 0)]) (pc := 884) hX 26 rfl (by decide) rfl ?_
  refine r_goto (pc := 886) hX 27 (tgt := 1410) rfl (by decide) ?_
  refine wp_wid (k := cells + 20) (n := slots + 150) (by omega) (by omega) ?_
  refine r_wk (ls' := lls i) ⟨Or.inr rfl, Or.inr rfl, Or.inr rfl, Or.inr rfl, Or.inr rfl, Or.inl rfl, Or.inl rfl, Or.inr rfl, trivial⟩ ?_
  exact kk _ _ _ _ ⟨⟨⟨⟨hI2, hE2⟩, hT2⟩, hR2, hS1⟩, hF2⟩
