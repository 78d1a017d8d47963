set_option maxRecDepth 20000 in
theorem cl_L_8 : Cond.classLink RL 8 RX11 ∈ lw_tbl := List.mem_append_right _ (List.mem_append_left _ (List.mem_of_getElem? (i := 25) rfl))
set_option maxRecDepth 20000 in
theorem cl_L_49 : Cond.classLink RL 49 RX12 ∈ lw_tbl := List.mem_append_right _ (List.mem_append_right _ (List.mem_append_right _ (List.mem_append_right _ (List.mem_append_right _ (List.mem_append_right _ (List.mem_append_right _ (List.mem_append_left _ (List.mem_of_getElem? (i := 15) rfl))))))))
theorem d_1417 : decode cL_law 1417 = .ok (.ireturn, 1) := by decide +kernel
set_option maxRecDepth 100000 in
def ll_h : List (Nat × Instr × Nat) := [(23, .iload 4, 2), (25, .aload_n 0, 1), (26, .arraylength, 1), (27, .bipush 6, 2), (29, .isub, 1), (30, .if_icmp .gt 1386, 3), (33, .aload_n 0, 1), (34, .iload 4, 2), (36, .iaload, 1), (37, .bipush 63, 2), (39, .iand, 1), (40, .tableswitch 1370 0 40 #[180, 253, 278, 291, 304, 341, 378, 418, 443, 480, 517, 542, 555, 595, 623, 663, 703, 731, 771, 784, 809, 849, 874, 899, 912, 952, 977, 1029, 1042, 1067, 1092, 1105, 1133, 1158, 1207, 1232, 1257, 1270, 1295, 1320, 1345], 180), (1410, .iinc 4 6, 3), (1413, .goto (-1390), 3), (1416, .iconst 1, 1), (1417, .ireturn, 1)]
set_option maxRecDepth 100000 in
theorem ll_h_d : ll_h.all (fun q => decide (decode cL_law q.1 = .ok q.2)) = true := by decide +kernel
set_option maxRecDepth 100000 in
def ll_s : List (Nat × Instr × Nat) := [(0, .new 8, 3), (3, .dup, 1), (4, .invokespecial 48, 3), (7, .astore_n 1, 1), (8, .new 49, 3), (11, .dup, 1), (12, .invokespecial 51, 3), (15, .astore_n 2, 1), (16, .iconst 1, 1), (17, .newarray .long, 2), (19, .astore_n 3, 1), (20, .iconst 0, 1), (21, .istore 4, 2)]
set_option maxRecDepth 100000 in
theorem ll_s_d : ll_s.all (fun q => decide (decode cL_law q.1 = .ok q.2)) = true := by decide +kernel
def lsw : Array Int := #[180, 253, 278, 291, 304, 341, 378, 418, 443, 480, 517, 542, 555, 595, 623, 663, 703, 731, 771, 784, 809, 849, 874, 899, 912, 952, 977, 1029, 1042, 1067, 1092, 1105, 1133, 1158, 1207, 1232, 1257, 1270, 1295, 1320, 1345]
theorem cs_all {g : Gp} {X : Cx} {N : Int} {sc : Int → Int} (hL : LX g X) (hsc : ∀ k, inR (sc k)) : ∀ n : Nat, n ≤ 40 → ∃ (off : Int) (tgt : Nat), lsw[n]? = some off ∧ (40 : Int) + off = (tgt : Int) ∧ CaseOk6 g X N sc tgt
  | 0, _ => ⟨180, 220, rfl, rfl, cs_0 hL hsc⟩
  | 1, _ => ⟨253, 293, rfl, rfl, cs_1 hL hsc⟩
  | 2, _ => ⟨278, 318, rfl, rfl, cs_2 hL hsc⟩
  | 3, _ => ⟨291, 331, rfl, rfl, cs_3 hL hsc⟩
  | 4, _ => ⟨304, 344, rfl, rfl, cs_4 hL hsc⟩
  | 5, _ => ⟨341, 381, rfl, rfl, cs_5 hL hsc⟩
  | 6, _ => ⟨378, 418, rfl, rfl, cs_6 hL hsc⟩
  | 7, _ => ⟨418, 458, rfl, rfl, cs_7 hL hsc⟩
  | 8, _ => ⟨443, 483, rfl, rfl, cs_8 hL hsc⟩
  | 9, _ => ⟨480, 520, rfl, rfl, cs_9 hL hsc⟩
  | 10, _ => ⟨517, 557, rfl, rfl, cs_10 hL hsc⟩
  | 11, _ => ⟨542, 582, rfl, rfl, cs_11 hL hsc⟩
  | 12, _ => ⟨555, 595, rfl, rfl, cs_12 hL hsc⟩
  | 13, _ => ⟨595, 635, rfl, rfl, cs_13 hL hsc⟩
  | 14, _ => ⟨623, 663, rfl, rfl, cs_14 hL hsc⟩
  | 15, _ => ⟨663, 703, rfl, rfl, cs_15 hL hsc⟩
  | 16, _ => ⟨703, 743, rfl, rfl, cs_16 hL hsc⟩
  | 17, _ => ⟨731, 771, rfl, rfl, cs_17 hL hsc⟩
  | 18, _ => ⟨771, 811, rfl, rfl, cs_18 hL hsc⟩
  | 19, _ => ⟨784, 824, rfl, rfl, cs_19 hL hsc⟩
  | 20, _ => ⟨809, 849, rfl, rfl, cs_20 hL hsc⟩
  | 21, _ => ⟨849, 889, rfl, rfl, cs_21 hL hsc⟩
  | 22, _ => ⟨874, 914, rfl, rfl, cs_22 hL hsc⟩
  | 23, _ => ⟨899, 939, rfl, rfl, cs_23 hL hsc⟩
  | 24, _ => ⟨912, 952, rfl, rfl, cs_24 hL hsc⟩
  | 25, _ => ⟨952, 992, rfl, rfl, cs_25 hL hsc⟩
  | 26, _ => ⟨977, 1017, rfl, rfl, cs_26 hL hsc⟩
  | 27, _ => ⟨1029, 1069, rfl, rfl, cs_27 hL hsc⟩
  | 28, _ => ⟨1042, 1082, rfl, rfl, cs_28 hL hsc⟩
  | 29, _ => ⟨1067, 1107, rfl, rfl, cs_29 hL hsc⟩
  | 30, _ => ⟨1092, 1132, rfl, rfl, cs_30 hL hsc⟩
  | 31, _ => ⟨1105, 1145, rfl, rfl, cs_31 hL hsc⟩
  | 32, _ => ⟨1133, 1173, rfl, rfl, cs_32 hL hsc⟩
  | 33, _ => ⟨1158, 1198, rfl, rfl, cs_33 hL hsc⟩
  | 34, _ => ⟨1207, 1247, rfl, rfl, cs_34 hL hsc⟩
  | 35, _ => ⟨1232, 1272, rfl, rfl, cs_35 hL hsc⟩
  | 36, _ => ⟨1257, 1297, rfl, rfl, cs_36 hL hsc⟩
  | 37, _ => ⟨1270, 1310, rfl, rfl, cs_37 hL hsc⟩
  | 38, _ => ⟨1295, 1335, rfl, rfl, cs_38 hL hsc⟩
  | 39, _ => ⟨1320, 1360, rfl, rfl, cs_39 hL hsc⟩
  | 40, _ => ⟨1345, 1385, rfl, rfl, cs_40 hL hsc⟩
  | n + 41, h => absurd h (by omega)
section RowsW
variable {g : Gp} {X : Cx} {F : Fm} {cells slots pc : Nat} {ls st : List V2} {v ρ : Mv} {Z : Mz}
theorem r_tsw (hX : okX g X F) (i : Nat) {dflt hi : Int} {offs : Array Int} {len : Nat} {x : Int} {dt : Nat} (hf : (fprg F)[i]? = some (pc, .tableswitch dflt 0 hi offs, len)) (hx : inR x) (h0 : 0 ≤ x) (hd : (pc : Int) + dflt = (dt : Int)) (k1 : hi < x → wp g X F cells slots dt ls st v ρ Z) (k2 : x ≤ hi → ∃ (off : Int) (tgt : Nat), offs[x.toNat]? = some off ∧ (pc : Int) + off = (tgt : Int) ∧ wp g X F cells slots tgt ls st v ρ Z) : wp g X F cells slots pc ls ((0, x) :: st) v ρ Z := by
  intro ad H locs la hR h1 h2 hq hv
  by_cases c : hi < x
  · exact lv_tableOut hX.1 hX.2.1 (hX.dec hf) (Or.inr (by rw [oi hx]; exact c)) hd (k1 c ad H locs la hR (scop_c h1) h2 hq hv)
  · obtain ⟨off, tgt, e1, e2, w⟩ := k2 (by omega)
    exact lv_tableIn hX.1 hX.2.1 (hX.dec hf) (by rw [oi hx]; omega) (by rw [oi hx]; exact c) (by rw [oi hx, Int.sub_zero]; exact e1) e2 (w ad H locs la hR (scop_c h1) h2 hq hv)
end RowsW
set_option maxHeartbeats 4000000 in
set_option maxRecDepth 100000 in
theorem l_loop {g : Gp} {X : Cx} {N : Int} {sc : Int → Int} (hL : LX g X) (hsc : ∀ k, inR (sc k)) (hN : N ≤ 3072)
    (hret : ∀ (i : Int) (cells slots : Nat) (v ρ : Mv) (Z : Mz), cells ≤ 601024 → slots ≤ 7293034 → wp g X (LF []) cells slots 1417 (lls i) [(0, 1)] v ρ Z) :
    ∀ (n : Nat) (i : Int) (cells slots : Nat) (ω : Rw) (v ρ : Mv) (Z : Mz), 0 ≤ i → i ≤ 4000 → N - i < 6 * (n + 1) → cells + 20 * n ≤ 601024 → slots + 150 * n ≤ 7293034 → LInv6 N sc ω v ρ Z → wp g X (LF []) cells slots 23 (lls i) [] v ρ Z := by
  have hX : okX g X (LF ll_h) := okL hL.1 ll_h_d
  intro n
  induction n with
  | zero =>
    intro i cells slots ω v ρ Z h0 h1 hm hc hs hI
    show wp g X (LF ll_h) cells slots 23 (lls i) [] v ρ Z
    refine r_iload (pc := 23) hX 0 rfl rfl ?_
    refine r_aload_n (pc := 25) hX 1 rfl rfl ?_
    refine r_alen (pc := 26) hX 2 13 rfl hI.1.1.1.1.sk (by decide) (by decide) (fun hn0 hn1 => ?_)
    rw [hI.1.1.1.1.sl] at hn0 hn1 ⊢
    refine r_bipush (pc := 27) hX 3 rfl (by decide) ?_
    refine r_isub (pc := 29) hX 4 rfl ?_
    refine r_icmp_gt (pc := 30) hX 5 (tgt := 1416) rfl (by decide) (⟨by omega, by omega⟩) (⟨by omega, by omega⟩) (fun h30 => ?_) (fun h30 => absurd ?_ h30)
    · refine r_iconst (pc := 1416) hX 14 rfl ?_
      exact hret i cells slots v ρ Z (by omega) (by omega)
    · omega
  | succ n ih =>
    intro i cells slots ω v ρ Z h0 h1 hm hc hs hI
    show wp g X (LF ll_h) cells slots 23 (lls i) [] v ρ Z
    refine r_iload (pc := 23) hX 0 rfl rfl ?_
    refine r_aload_n (pc := 25) hX 1 rfl rfl ?_
    refine r_alen (pc := 26) hX 2 13 rfl hI.1.1.1.1.sk (by decide) (by decide) (fun hn0 hn1 => ?_)
    rw [hI.1.1.1.1.sl] at hn0 hn1 ⊢
    refine r_bipush (pc := 27) hX 3 rfl (by decide) ?_
    refine r_isub (pc := 29) hX 4 rfl ?_
    refine r_icmp_gt (pc := 30) hX 5 (tgt := 1416) rfl (by decide) (⟨by omega, by omega⟩) (⟨by omega, by omega⟩) (fun h30 => ?_) (fun h30 => ?_)
    · refine r_iconst (pc := 1416) hX 14 rfl ?_
      exact hret i cells slots v ρ Z (by omega) (by omega)
    · refine r_aload_n (pc := 33) hX 6 rfl rfl ?_
      refine r_iload (pc := 34) hX 7 rfl rfl ?_
      refine e_iald (y := sc i) (n := N) (pc := 36) hX 8 rfl hI.1.1.1.1.sk hI.1.1.1.1.sl (by omega) (by omega) (hI.1.1.1.1.s3 _) ?_
      refine r_bipush (pc := 37) hX 9 rfl (by decide) ?_
      refine r_iandm (pc := 39) (m := 64) hX 10 6 rfl (by decide) (by decide) (by decide) ?_
      have hj : ∀ (ω' : Rw) (v' ρ' : Mv) (Z' : Mz), LInv6 N sc ω' v' ρ' Z' → wp g X (LF []) (cells + 20) (slots + 150) 1410 (lls i) [] v' ρ' Z' := by
        intro ω' v' ρ' Z' hI'
        show wp g X (LF ll_h) (cells + 20) (slots + 150) 1410 (lls i) [] v' ρ' Z'
        refine r_iinc (ls' := lls (i + 6)) (pc := 1410) hX 12 rfl rfl (by decide) rfl ?_
        refine r_goto (pc := 1413) hX 13 (tgt := 23) rfl (by decide) ?_
        exact ih (i + 6) (cells + 20) (slots + 150) ω' v' ρ' Z' (by omega) (by omega) (by omega) (by omega) (by omega) hI'
      refine r_tsw (pc := 40) (dt := 1410) hX 11 rfl (⟨by omega, by omega⟩) (by omega) (by decide) (fun _ => ?_) (fun hh => ?_)
      · exact wp_wid (by omega) (by omega) (hj ω v ρ Z hI)
      · obtain ⟨off, tgt, e1, e2, hcs⟩ := cs_all (N := N) hL hsc (sc i % 64).toNat (by omega)
        exact ⟨off, tgt, e1, e2, hcs i cells slots ω v ρ Z h0 (by omega) (by omega) (by omega) hI hj⟩
set_option maxHeartbeats 4000000 in
set_option maxRecDepth 100000 in
theorem l_start {g : Gp} {X : Cx} {N : Int} {sc : Int → Int} (hL : LX g X) {v ρ : Mv} {Z : Mz} (hH : HT (fun _ => 0) v ρ Z) (hz : Z.2.2 = 4) (hk3 : Z.1 3 = 13 ∧ Z.2.1 3 = N) (hv3 : v 3 = sc)
    (kk : ∀ (ω' : Rw) (v' ρ' : Mv) (Z' : Mz), LInv6 N sc ω' v' ρ' Z' → wp g X (LF []) 207 158316 23 (lls 0) [] v' ρ' Z') : wp g X (LF []) 0 0 0 [(2, 3), (3, 0), (3, 0), (3, 0), (3, 0), (3, 0), (3, 0), (3, 0)] [] v ρ Z := by
  have hX : okX g X (LF ll_s) := okL hL.1 ll_s_d
  have hR := hL.2.1
  show wp g X (LF ll_s) 0 0 0 [(2, 3), (3, 0), (3, 0), (3, 0), (3, 0), (3, 0), (3, 0), (3, 0)] [] v ρ Z
  refine r_newX (K := 11) (n := 4) (pc := 0) hX 0 hz rfl rfl cl_L_8 in_X11 iz_X11 (by decide) (by rw [hR]; exact Nat.le_of_ble_eq_true rfl) (by rw [hR]; exact Nat.le_of_ble_eq_true rfl) (fun v1 ρ1 Z1 al1 => ?_)
  have hH1 : HT (fun _ => 0) v1 ρ1 Z1 := hH.ext (fun q h => absurd rfl h) (by have := al1.1; omega) (hH.2.cg ⟨(al1.2.2.2.2.2 0 (by decide)).1, (al1.2.2.2.2.2 0 (by decide)).2.2⟩ ⟨(al1.2.2.2.2.2 1 (by decide)).1, (al1.2.2.2.2.2 1 (by decide)).2.2⟩) (fun q c hq hc _ => absurd hq.symm hc)
  show wp g X (LF ll_s) 1 18 3 [(2, 3), (3, 0), (3, 0), (3, 0), (3, 0), (3, 0), (3, 0), (3, 0)] [(2, 4)] v1 ρ1 Z1
  refine r_dup (pc := 3) hX 1 rfl (show (2 : Nat) ≠ 1 by decide) ?_
  refine r_callI (as := []) (st := [(2, 4)]) (pc := 4) hX 2 rfl mo_X11_init rfl rfl ml_L_48 im_X11_init (c_X11_initG g (fun _ => 0) v1 ρ1 Z1 hH1 4 rfl al1.2.1 al1.2.2.1 (by decide) 5 al1.1 (by decide) al1.2.2.2.1 al1.2.2.2.2.1) rfl (by decide) (by rw [hR]; exact ⟨Nat.le_of_ble_eq_true rfl, Nat.le_of_ble_eq_true rfl⟩) (by rw [hR]; exact ⟨Nat.le_of_ble_eq_true rfl, Nat.le_of_ble_eq_true rfl⟩) (Nat.le_of_ble_eq_true rfl) (fun o2 v2 ρ2 Z2 hq2 _ => ?_)
  obtain ⟨rfl, hn2, ω2, hold2, hw2, hH2, fq0, fq13, fqt, fst⟩ := hq2
  show wp g X (LF ll_s) 174 11958 7 [(2, 3), (3, 0), (3, 0), (3, 0), (3, 0), (3, 0), (3, 0), (3, 0)] [(2, 4)] v2 ρ2 Z2
  refine r_astore_n (ls' := [(2, 3), (2, 4), (3, 0), (3, 0), (3, 0), (3, 0), (3, 0), (3, 0)]) (pc := 7) hX 3 rfl (by decide) rfl ?_
  refine r_newX (K := 12) (n := 178) (pc := 8) hX 4 hn2 rfl rfl cl_L_49 in_X12 iz_X12 (by decide) (by rw [hR]; exact Nat.le_of_ble_eq_true rfl) (by rw [hR]; exact Nat.le_of_ble_eq_true rfl) (fun v3 ρ3 Z3 al3 => ?_)
  show wp g X (LF ll_s) 175 12018 11 [(2, 3), (2, 4), (3, 0), (3, 0), (3, 0), (3, 0), (3, 0), (3, 0)] [(2, 178)] v3 ρ3 Z3
  refine r_dup (pc := 11) hX 5 rfl (show (2 : Nat) ≠ 1 by decide) ?_
  refine r_callI (as := []) (st := [(2, 178)]) (pc := 12) hX 6 rfl mo_m_init rfl rfl ml_L_51 im_m_init (c_initG g v3 ρ3 Z3 al3.2.1 al3.1 al3.2.2.2.1) rfl (by decide) (by rw [hR]; exact ⟨Nat.le_of_ble_eq_true rfl, Nat.le_of_ble_eq_true rfl⟩) (by rw [hR]; exact ⟨Nat.le_of_ble_eq_true rfl, Nat.le_of_ble_eq_true rfl⟩) (Nat.le_of_ble_eq_true rfl) (fun o4 v4 ρ4 Z4 hq4 _ => ?_)
  obtain ⟨⟨rfl, hn4, hg4, hS4, h45, hf4, hz4, ho4⟩, hrs4, hrm4⟩ := hq4
  show wp g X (LF ll_s) 206 158315 15 [(2, 3), (2, 4), (3, 0), (3, 0), (3, 0), (3, 0), (3, 0), (3, 0)] [(2, 178)] v4 ρ4 Z4
  refine r_astore_n (ls' := [(2, 3), (2, 4), (2, 178), (3, 0), (3, 0), (3, 0), (3, 0), (3, 0)]) (pc := 15) hX 7 rfl (by decide) rfl ?_
  refine r_iconst (pc := 16) hX 8 rfl ?_
  refine r_newaX (n := 210) (pc := 17) hX 9 14 1 hn4 rfl rfl (by decide) (by decide) ac_long (by decide) (by decide) (by rw [hR]; exact Nat.le_of_ble_eq_true rfl) (by rw [hR]; exact Nat.le_of_ble_eq_true rfl) (fun v5 ρ5 Z5 al5 => ?_)
  show wp g X (LF ll_s) 207 158316 19 [(2, 3), (2, 4), (2, 178), (3, 0), (3, 0), (3, 0), (3, 0), (3, 0)] [(2, 210)] v5 ρ5 Z5
  refine r_astore_n (ls' := [(2, 3), (2, 4), (2, 178), (2, 210), (3, 0), (3, 0), (3, 0), (3, 0)]) (pc := 19) hX 10 rfl (by decide) rfl ?_
  refine r_iconst (pc := 20) hX 11 rfl ?_
  refine r_istore (ls' := lls 0) (pc := 21) hX 12 rfl (by decide) rfl ?_
  obtain ⟨an5, ak5, al5l, -, -, ar5⟩ := al5
  have hw0 : ∀ r, r ≤ 3 ∨ 178 ≤ r → ω2 r = 0 := fun r hr => Classical.byContradiction fun e => by
    have h1 := hH2.lt (r := r) rfl e
    have h2 := hH2.g4 (r := r) rfl e
    omega
  have e3 : ∀ r, r < 178 → v5 r = v2 r ∧ ρ5 r = ρ2 r ∧ Z5.1 r = Z2.1 r ∧ Z5.2.1 r = Z2.2.1 r := fun r hr => by
    obtain ⟨p1, p2, p3, p4⟩ := ar5 r (by omega)
    obtain ⟨q1, q2, q3, q4⟩ := ho4 r hr
    obtain ⟨s1, s2, s3, s4⟩ := al3.2.2.2.2.2 r (by omega)
    exact ⟨p1.trans (q1.trans s1), p2.trans (q2.trans s2), p3.trans (q3.trans s3), p4.trans (q4.trans s4)⟩
  have e30 : v5 3 = v 3 ∧ Z5.1 3 = Z.1 3 ∧ Z5.2.1 3 = Z.2.1 3 := by
    obtain ⟨p1, -, p3, p4⟩ := e3 3 (by decide)
    obtain ⟨-, q1, -, q3, q4⟩ := hold2 3 (by decide) (by decide)
    obtain ⟨s1, -, s3, s4⟩ := al1.2.2.2.2.2 3 (by decide)
    exact ⟨p1.trans (q1.trans s1), p3.trans (q3.trans s3), p4.trans (q4.trans s4)⟩
  have hH5 : HT ω2 v5 ρ5 Z5 := hH2.ext (fun q h => by
    have h1 : q < 178 := Classical.byContradiction fun e => h (hw0 q (Or.inr (by omega)))
    exact ⟨rfl, e3 q h1⟩) (by omega) (hH2.2.cg ⟨(e3 0 (by decide)).1, (e3 0 (by decide)).2.2⟩ ⟨(e3 1 (by decide)).1, (e3 1 (by decide)).2.2⟩) (fun q c hq hc e => absurd (hq.symm.trans e) hc)
  have ev : ∀ r, r ≠ 210 → v5 r = v4 r := fun r hr => (ar5 r hr).1
  have h178 : ∀ k, k ≠ 45 → v5 178 k = 0 := fun k hk => by rw [ev 178 (by decide)]; exact hf4 k hk
  have w0 : ρ2 4 0 < 178 := by have := hH2.lt (hH2.rf hw2 (by decide) rfl : ω2 (ρ2 4 0) = 2) (by decide); omega
  have w13 : ρ2 4 13 < 178 := by have := hH2.lt (hH2.rf hw2 (by decide) rfl : ω2 (ρ2 4 13) = 62) (by decide); omega
  have hEq : EqI v5 ρ5 := Eq00 (e3 4 (by decide)).2.1 (e3 (ρ2 4 0) w0).1 (e3 (ρ2 4 13) w13).1 fq0 fq13 (h178 2 (by decide)) (fun k => by rw [ev 209 (by decide)]; exact hz4 209 k (by decide) (by decide) (by decide) (by decide) (by decide))
  have w1 : ρ2 4 1 < 178 := by have := hH2.lt (hH2.rf hw2 (by decide) rfl : ω2 (ρ2 4 1) = 4) (by decide); omega
  have hTq : EqT v5 ρ5 := by
    refine ⟨?_, ?_, ?_⟩
    · rw [(e3 4 (by decide)).2.1, (e3 (ρ2 4 1) w1).2.1]
      exact fqt
    · rw [ev 184 (by decide)]
      exact hrs4
    · rw [h178 2 (by decide)]
      exact fun j a b => absurd b (by omega)
  have hRq : EqS v5 ρ5 := by
    have ol : ∀ r, ω2 r ≠ 0 → v5 r = v2 r ∧ ρ5 r = ρ2 r := fun r h => by
      have h1 : r < 178 := Classical.byContradiction fun e => h (hw0 r (Or.inr (by omega)))
      exact ⟨(e3 r h1).1, (e3 r h1).2.1⟩
    have w4 := (ol 4 (by rw [hw2]; decide)).2
    have hwT := TrW.of hH2 hw2
    have hrow : ∀ r c, ω2 r = c → c ≠ 0 → ρ5 r = ρ2 r := fun r c a b => (ol r (by rw [a]; exact b)).2
    have w15 : ω2 (ρ2 4 2) = 15 := hH2.rf hw2 (by decide) rfl
    have w21 : ω2 (ρ2 4 3) = 21 := hH2.rf hw2 (by decide) rfl
    refine ⟨⟨⟨fun j a b => ?_, ?_⟩, ?_, fun k a b c => ?_⟩, by rw [w4, hrow _ _ w15 (by decide)]; exact fst.2.2.2.1 (by decide), by rw [w4, hrow _ _ w21 (by decide)]; exact fst.2.2.2.2.1 (by decide)⟩
    · rw [w4, (ol _ (by rw [hwT.2.2.2.1]; decide)).1, fst.2.1 (by decide)] at b
      omega
    · have z := fst.2.2.1 (by decide)
      unfold TrD at z ⊢
      rw [w4, hrow _ _ hwT.2.2.2.1 (by decide), hrow _ _ hwT.2.2.2.2.1 (by decide), hrow _ _ hwT.2.2.2.2.2.1 (by decide)]
      exact z
    · have w5 : ω2 (ρ2 (ρ2 4 4) 0) = 5 := hH2.rf hwT.2.1 (by decide) rfl
      rw [w4, hrow _ _ hwT.2.1 (by decide), ev 180 (by decide)]
      refine ⟨rd0, 0, ?_, hrm4, rd0_b, rd0_n⟩
      exact ((fst.1 (by decide)).frO hH2 w5 (fun r hr => (ol r (inW_0 hr)).1)).rho (hrow _ _ w5 (by decide)) (hrow _ _ (hH2.rf w5 (by decide) rfl : ω2 (ρ2 (ρ2 (ρ2 4 4) 0) 5) = 12) (by decide))
    · rw [ev 209 (by decide)] at c
      exact absurd (hz4 209 k (by decide) (by decide) (by decide) (by decide) (by decide)) c
  have hF5 : v5 (ρ5 4 0) 9 = v5 178 15 := by
    rw [(e3 4 (by decide)).2.1, (e3 (ρ2 4 0) w0).1, h178 15 (by decide)]
    exact fst.2.2.2.2.2 (by decide)
  refine kk ω2 v5 ρ5 Z5 ⟨⟨⟨⟨⟨hH5, hw2, fun r hr => hw0 r (by omega), hg4.cg (ar5 178 (by decide)).2.1 (fun r _ h9 => (ar5 r (by omega)).2.2), ⟨e30.2.1.trans hk3.1, e30.2.2.trans hk3.2⟩, ⟨ak5, al5l⟩, ⟨?_, ?_, ?_, ?_, ?_, ?_, ?_, ?_, ?_, ?_⟩, by omega, e30.1.trans hv3⟩, hEq⟩, hTq⟩, hRq⟩, hF5⟩
  · rw [h178 2 (by decide)]; decide
  · rw [h178 14 (by decide)]; decide
  · rw [h178 11 (by decide)]; decide
  · rw [ev 180 (by decide)]; exact hS4
  · rw [h178 25 (by decide)]; exact UInv.none
  · intro k h0 h1 h2
    rw [ev 209 (by decide)] at h2
    exact absurd (hz4 209 k (by decide) (by decide) (by decide) (by decide) (by decide)) h2
  · intro k h0 h1
    rw [ev 195 (by decide), hz4 195 k (by decide) (by decide) (by decide) (by decide) (by decide)]; decide
  · intro k h0 h1
    rw [ev 194 (by decide), hz4 194 k (by decide) (by decide) (by decide) (by decide) (by decide)]; decide
  · rw [ev 178 (by decide), h45]; decide
  · rw [h178 49 (by decide)]; decide
