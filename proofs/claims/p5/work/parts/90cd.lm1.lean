set_option maxHeartbeats 4000000 in
set_option maxRecDepth 100000 in
theorem c_looksAtL (g : Gp) (v ρ : Mv) (Z : Mz) (hG : GM ρ Z) {F N : Int → Int} {n m p : Int} (fr many : Int) (hL : 0 ≤ v 178 4 ∧ v 178 4 ≤ v 178 3 ∧ v 178 3 ≤ 940 ∧ 0 ≤ v 178 11 ∧ v 178 11 ≤ 4 ∧ inR (v 178 5) ∧ inR (v 178 14)) (hT : TkM F n m v p) (hrs : RsI (v 184)) (hf : fr = 0 ∧ 0 ≤ many ∧ many ≤ 4 ∨ fr = 7 ∧ 0 ≤ many ∧ many ≤ 3) (hNm : ∀ j, 0 ≤ j → j < many → NmW (N (fr + j)) (v 183 (fr + j))) : Ok g 2 0 0 F_m_looksAt [(2, 178), (0, fr), (0, many)] v ρ Z (fun o v' ρ' Z' => ρ = ρ' ∧ Z = Z' ∧ Fr [] [15, 16, 18] v v' ∧ ∃ r : Int, o = some (0, r) ∧ (0 ≤ v' 178 4 ∧ v' 178 4 ≤ v' 178 3 ∧ v' 178 3 ≤ 940 ∧ 0 ≤ v' 178 11 ∧ v' 178 11 ≤ 4 ∧ inR (v' 178 5) ∧ inR (v' 178 14) ∧ v 178 4 ≤ v' 178 4 ∧ v' 178 3 = v 178 3 ∧ v' 178 4 = v 178 4 ∧ v' 178 11 = v 178 11) ∧ ((r = 0 ∨ r = 1 ∧ 0 ≤ v' 178 18 ∧ v' 178 18 < many)) ∧ (LoP F n m p (fnd N (tn F n p) fr many.toNat 0) v' r)) := by
  refine Ok.of mo_m_looksAt (Nat.le_of_ble_eq_true rfl) ?_
  intro X hX hRm hxn hQ
  show wp g X F_m_looksAt 0 0 0 [(2, 178), (0, fr), (0, many)] [] v ρ Z
  have hT0 := hT
  obtain ⟨hp0, hp1, hn3, hm5, hsm, h4p, h11, h12, h14, h17⟩ := hT0
  refine r_aload_n (pc := 0) hX 0 rfl rfl ?_
  refine r_callV (as := []) (st := []) (K := 12) (pc := 1) hX 1 rfl mo_m_isName ml_X12_233 im_m_isName se_m_isName (c_isNameT g v ρ Z hG  (hT) (hrs) (by omega)) rfl rfl rfl hG.1 (by rw [hRm]; exact ⟨by decide, by decide⟩) (by rw [hRm]; exact ⟨by decide, by decide⟩) (Nat.le_of_ble_eq_true rfl) (fun o1 v1 ρ1 Z1 hq1 _ => ?_)
  obtain ⟨rfl, rfl, rfl, r1, rfl, hq1⟩ := hq1
  show wp g X F_m_looksAt 0 0 4 [(2, 178), (0, fr), (0, many)] [(0, r1)] v ρ Z
  first | refine r_if_ne (pc := 4) hX 2 (tgt := 13) rfl (by decide) (⟨by omega, by omega⟩) (fun h4 => ?_) (fun h4 => ?_) | refine r_if_ne_any (pc := 4) hX 2 (tgt := 13) rfl (by decide) ?_ ?_
  · have hn1 : nm F n m p = true ∧ v 178 11 = 1 := by
      rcases hq1 with ⟨_, a, b⟩ | ⟨a, _⟩
      · exact ⟨a, b⟩
      · exact absurd a (by omega)
    replace hq1 := Hd.i hq1
    have hnw := hT.nw hn1.2
    refine r_aload_n (pc := 13) hX 7 rfl rfl ?_
    refine r_aload_n (pc := 14) hX 8 rfl rfl ?_
    refine r_iload_n (pc := 15) hX 9 rfl rfl ?_
    refine r_iload_n (pc := 16) hX 10 rfl rfl ?_
    refine r_callV (as := [(0, fr), (0, many)]) (st := [(2, 178)]) (K := 12) (pc := 17) hX 11 rfl mo_m_find ml_X12_237 im_m_find se_m_find (c_findF g v ρ Z hG (fr) (many) (by omega) (by omega) (hnw.2) (Hd.i (fun j a b => ⟨by have := (hNm j a b).2; omega, by have := (hNm j a b).2; omega⟩))) rfl rfl rfl hG.1 (by rw [hRm]; exact ⟨by decide, by decide⟩) (by rw [hRm]; exact ⟨by decide, by decide⟩) (Nat.le_of_ble_eq_true rfl) (fun o17 v17 ρ17 Z17 hq17 _ => ?_)
    obtain ⟨rfl, rfl, rfl, r17, rfl, hq17⟩ := hq17
    show wp g X F_m_looksAt 0 0 20 [(2, 178), (0, fr), (0, many)] [(0, r17), (2, 178)] v ρ Z
    have e17 : r17 = fnd N (tn F n p) fr many.toNat 0 := hq17.1.fd (by omega) hNm hnw.1
    replace hq17 := hq17.2
    refine r_putI (pc := 20) hX 12 rfl fl_X12_226 rfl (fun _ h => by cases h; rfl) hG.1 (by decide) ?_
    refine t_getI (y := r17) (pc := 23) hX 13 rfl rfl rfl fl_X12_226 rfl hG.1 (up_s _ _ _ _) ?_
    first | refine r_if_ge (pc := 27) hX 15 (tgt := 38) rfl (by decide) (⟨by omega, by omega⟩) (fun h27 => ?_) (fun h27 => ?_) | refine r_if_ge_any (pc := 27) hX 15 (tgt := 38) rfl (by decide) ?_ ?_
    · refine r_iconst (pc := 38) hX 20 rfl ?_
      refine r_goto (pc := 39) hX 21 (tgt := 43) rfl (by decide) ?_
      show wp g X F_m_looksAt 0 0 43 [(2, 178), (0, fr), (0, many)] [(0, 1)] (up v 178 18 r17) ρ Z
      exact r_zret (pc := 43) hX 23 hQ rfl rfl ⟨by omega, by omega⟩ (Nat.le_refl 0) (Nat.le_refl 0) ⟨rfl, rfl, (Fr.rf).fld (k := 18) (by decide), 1, rfl, (by (repeat (first | rw [up_k (by decide)] | rw [up_s] | rw [up_r (by decide)])); omega), (by first | exact Or.inl rfl | exact Or.inr ⟨rfl, by (repeat (first | rw [up_k (by decide)] | rw [up_s] | rw [up_r (by decide)])); omega, by (repeat (first | rw [up_k (by decide)] | rw [up_s] | rw [up_r (by decide)])); omega⟩), (by first | exact Or.inl ⟨rfl, hn1.1, by omega, hT.fld (by decide)⟩ | exact Or.inr ⟨rfl, Or.inr ⟨hn1.1, by omega, hq32.2.1⟩, hq32.2.2.trans h12⟩ | exact Or.inr ⟨rfl, Or.inr ⟨hn1.1, by omega, hq32.2.1⟩, hq32.2.2.trans ((up_k (by decide)).trans h12)⟩)⟩
    · refine r_aload_n (pc := 30) hX 16 rfl rfl ?_
      refine r_iconst (pc := 31) hX 17 rfl ?_
      refine r_callV (as := [(0, 3)]) (st := []) (K := 12) (pc := 32) hX 18 rfl mo_m_bad ml_X12_216 im_m_bad se_m_bad (c_badF g (up v 178 18 r17) ρ Z hG (3) (by omega)) rfl rfl rfl hG.1 (by rw [hRm]; exact ⟨by decide, by decide⟩) (by rw [hRm]; exact ⟨by decide, by decide⟩) (Nat.le_of_ble_eq_true rfl) (fun o32 v32 ρ32 Z32 hq32 _ => ?_)
      obtain ⟨rfl, rfl, hfr32, r32, rfl, hq32⟩ := hq32
      try simp only [up_f (show (180 : Int) ≠ 178 by decide), up_k (show (12 : Int) ≠ 18 by decide)] at hq32
      have hRsI_32 : RsI (v32 184) := by rw [hfr32.1 184 (by decide) (by decide), up_f (by decide)]; exact hrs
      have hk32_3 : v32 178 3 = (v 178 3) := (hfr32.2 3 (by decide)).trans ((up_k (by decide)).trans (rfl))
      have hk32_4 : v32 178 4 = (v 178 4) := (hfr32.2 4 (by decide)).trans ((up_k (by decide)).trans (rfl))
      have hk32_5 : v32 178 5 = (v 178 5) := (hfr32.2 5 (by decide)).trans ((up_k (by decide)).trans (rfl))
      have hk32_11 : v32 178 11 = (v 178 11) := (hfr32.2 11 (by decide)).trans ((up_k (by decide)).trans (rfl))
      have hk32_14 : v32 178 14 = (v 178 14) := (hfr32.2 14 (by decide)).trans ((up_k (by decide)).trans (rfl))
      have hk32_18 : v32 178 18 = r17 := (hfr32.2 18 (by decide)).trans (up_s _ _ _ _)
      show wp g X F_m_looksAt 0 0 35 [(2, 178), (0, fr), (0, many)] [(0, r32)] v32 ρ Z
      first | refine r_if_eq (pc := 35) hX 19 (tgt := 42) rfl (by decide) (⟨by omega, by omega⟩) (fun h35 => ?_) (fun h35 => ?_) | refine r_if_eq_any (pc := 35) hX 19 (tgt := 42) rfl (by decide) ?_ ?_
      · refine r_iconst (pc := 42) hX 22 rfl ?_
        exact r_zret (pc := 43) hX 23 hQ rfl rfl ⟨by omega, by omega⟩ (Nat.le_refl 0) (Nat.le_refl 0) ⟨rfl, rfl, ((Fr.rf).fld (k := 18) (by decide)).tr hfr32 (by decide) (by decide), 0, rfl, (by (repeat (first | rw [up_k (by decide)] | rw [up_s] | rw [up_r (by decide)])); omega), (by first | exact Or.inl rfl | exact Or.inr ⟨rfl, by (repeat (first | rw [up_k (by decide)] | rw [up_s] | rw [up_r (by decide)])); omega, by (repeat (first | rw [up_k (by decide)] | rw [up_s] | rw [up_r (by decide)])); omega⟩), (by first | exact Or.inl ⟨rfl, hn1.1, by omega, hT.fld (by decide)⟩ | exact Or.inr ⟨rfl, Or.inr ⟨hn1.1, by omega, hq32.2.1⟩, hq32.2.2.trans h12⟩ | exact Or.inr ⟨rfl, Or.inr ⟨hn1.1, by omega, hq32.2.1⟩, hq32.2.2.trans ((up_k (by decide)).trans h12)⟩)⟩
      · exact absurd h35 (by omega)
  · have hn0 : nm F n m p = false := by
      rcases hq1 with ⟨a, _⟩ | ⟨_, a⟩
      · exact absurd a (by omega)
      · exact a
    replace hq1 := Hd.i hq1
    refine r_aload_n (pc := 7) hX 3 rfl rfl ?_
    refine r_iconst (pc := 8) hX 4 rfl ?_
    refine r_callV (as := [(0, 1)]) (st := []) (K := 12) (pc := 9) hX 5 rfl mo_m_bad ml_X12_216 im_m_bad se_m_bad (c_badF g v ρ Z hG (1) (by omega)) rfl rfl rfl hG.1 (by rw [hRm]; exact ⟨by decide, by decide⟩) (by rw [hRm]; exact ⟨by decide, by decide⟩) (Nat.le_of_ble_eq_true rfl) (fun o9 v9 ρ9 Z9 hq9 _ => ?_)
    obtain ⟨rfl, rfl, hfr9, r9, rfl, hq9⟩ := hq9
    have hRsI_9 : RsI (v9 184) := by rw [hfr9.1 184 (by decide) (by decide)]; exact hrs
    have hk9_3 : v9 178 3 = (v 178 3) := (hfr9.2 3 (by decide)).trans (rfl)
    have hk9_4 : v9 178 4 = (v 178 4) := (hfr9.2 4 (by decide)).trans (rfl)
    have hk9_5 : v9 178 5 = (v 178 5) := (hfr9.2 5 (by decide)).trans (rfl)
    have hk9_11 : v9 178 11 = (v 178 11) := (hfr9.2 11 (by decide)).trans (rfl)
    have hk9_14 : v9 178 14 = (v 178 14) := (hfr9.2 14 (by decide)).trans (rfl)
    have hk9_18 : v9 178 18 = (v 178 18) := (hfr9.2 18 (by decide)).trans (rfl)
    show wp g X F_m_looksAt 0 0 12 [(2, 178), (0, fr), (0, many)] [(0, r9)] v9 ρ Z
    exact r_zret (pc := 12) hX 6 hQ rfl rfl ⟨by omega, by omega⟩ (Nat.le_refl 0) (Nat.le_refl 0) ⟨rfl, rfl, (Fr.rf).tr hfr9 (by decide) (by decide), r9, rfl, (by (repeat (first | rw [up_k (by decide)] | rw [up_s] | rw [up_r (by decide)])); omega), (Or.inl (by omega)), (by rw [hq9.1]; exact Or.inr ⟨rfl, Or.inl ⟨hn0, hq9.2.1⟩, hq9.2.2.trans h12⟩)⟩
set_option maxHeartbeats 4000000 in
set_option maxRecDepth 100000 in
theorem c_logLineL (g : Gp) (v ρ : Mv) (Z : Mz) (hG : GM ρ Z) {F N : Int → Int} {n m p : Int}  (hL : 0 ≤ v 178 4 ∧ v 178 4 ≤ v 178 3 ∧ v 178 3 ≤ 940 ∧ 0 ≤ v 178 11 ∧ v 178 11 ≤ 4 ∧ inR (v 178 5) ∧ inR (v 178 14)) (hT : TkM F n m v p) (hS : SInv (v 180)) (ht : 0 ≤ v 178 47 ∧ v 178 47 ≤ 40) (hrs : RsI (v 184)) (hNm : ∀ j, 0 ≤ j → j < v 180 0 → NmW (N (0 + j)) (v 183 (0 + j))) (hNp : ∀ j, 0 ≤ j → j < v 180 2 → NmW (N (7 + j)) (v 183 (7 + j))) : Ok g 3 0 0 F_m_logLine [(2, 178)] v ρ Z (fun o v' ρ' Z' => ρ = ρ' ∧ Z = Z' ∧ Fr [182] [4, 11, 12, 13, 14, 15, 16, 17, 18] v v' ∧ ∃ r : Int, o = some (0, r) ∧ (0 ≤ v' 178 4 ∧ v' 178 4 ≤ v' 178 3 ∧ v' 178 3 ≤ 940 ∧ 0 ≤ v' 178 11 ∧ v' 178 11 ≤ 4 ∧ inR (v' 178 5) ∧ inR (v' 178 14) ∧ v 178 4 ≤ v' 178 4 ∧ v' 178 3 = v 178 3) ∧ ((r = 0 ∨ r = 1 ∧ v 178 47 ≤ 39 ∧ RdL (v' 182) (v 180) (3 * v 178 47) ∧ (v 178 4 < v' 178 4 ∨ v' 178 11 = 0 ∨ v' 178 11 = 4))) ∧ (∀ j, j < 3 * v 178 47 → v' 182 j = v 182 j) ∧ (LlM F n m (fun x => fnd N x 0 (v 180 0).toNat 0) (fun x => fnd N x 7 (v 180 2).toNat 0) v' (v 178 47) p r)) := by
  refine Ok.of mo_m_logLine (Nat.le_of_ble_eq_true rfl) ?_
  intro X hX hRm hxn hQ
  show wp g X F_m_logLine 0 0 0 [(2, 178), (3, 0)] [] v ρ Z
  have hb2 := hS.c2
  have hb0 := hS.c0
  have hT0 := hT
  obtain ⟨hp0, hp1, hn3, hm5, hsm, h4p, h11, h12, h14, h17⟩ := hT0
  refine r_iconst (pc := 0) hX 0 rfl ?_
  refine t_getI (y := (v 178 47)) (pc := 1) hX 1 rfl rfl rfl fl_X12_477 rfl hG.1 (rfl) ?_
  refine r_imul (pc := 5) hX 3 rfl ?_
  refine r_istore_n (ls' := [(2, 178), (0, (3 * (v 178 47)))]) (pc := 6) hX 4 rfl (by decide) rfl ?_
  refine r_aload_n (pc := 7) hX 5 rfl rfl ?_
  refine r_ldc2 (y := 427071202675) (pc := 8) hX 6 rfl kl_X12_148 (by decide) ?_
  refine r_callV (as := [(1, 427071202675)]) (st := []) (K := 12) (pc := 11) hX 7 rfl mo_m_isWord ml_X12_247 im_m_isWord se_m_isWord (c_isWordT g v ρ Z hG (427071202675) (hT) (by (repeat (first | rw [up_k (by decide)] | rw [up_s] | rw [up_r (by decide)])); omega) (by decide)) rfl rfl rfl hG.1 (by rw [hRm]; exact ⟨by decide, by decide⟩) (by rw [hRm]; exact ⟨by decide, by decide⟩) (Nat.le_of_ble_eq_true rfl) (fun o11 v11 ρ11 Z11 hq11 _ => ?_)
  obtain ⟨rfl, rfl, rfl, r11, rfl, hq11⟩ := hq11
  show wp g X F_m_logLine 0 0 14 [(2, 178), (0, (3 * (v 178 47)))] [(0, r11)] v ρ Z
  have hk11 := ky_of hT 9 (by decide) (by decide) hq11
  replace hq11 := Hd.i hq11
  first | refine r_if_eq (pc := 14) hX 8 (tgt := 102) rfl (by decide) (⟨by omega, by omega⟩) (fun h14 => ?_) (fun h14 => ?_) | refine r_if_eq_any (pc := 14) hX 8 (tgt := 102) rfl (by decide) ?_ ?_
  · refine r_aload_n (pc := 102) hX 61 rfl rfl ?_
    refine r_bipush (pc := 103) hX 62 rfl (by decide) ?_
    refine t_getR (pc := 105) hX 63 rfl rfl rfl fl_X12_33 rfl hG.1 (a_s hG).1 ?_
    refine r_iconst (pc := 109) hX 65 rfl ?_
    refine e_iald (y := (v 180 2)) (pc := 110) hX 66 rfl (a_s hG).2.1 (a_s hG).2.2 (by omega) (by omega) (rfl) ?_
    have hb110 := hS.c2
    refine r_callV (as := [(0, 7), (0, (v 180 2))]) (st := []) (K := 12) (pc := 111) hX 67 rfl mo_m_looksAt ml_X12_257 im_m_looksAt se_m_looksAt (c_looksAtL g v ρ Z hG (7) ((v 180 2)) (by (repeat (first | rw [up_k (by decide)] | rw [up_s] | rw [up_r (by decide)])); omega) (hT) (hrs) (by omega) (hNp)) rfl rfl rfl hG.1 (by rw [hRm]; exact ⟨by decide, by decide⟩) (by rw [hRm]; exact ⟨by decide, by decide⟩) (Nat.le_of_ble_eq_true rfl) (fun o111 v111 ρ111 Z111 hq111 _ => ?_)
    obtain ⟨rfl, rfl, hfr111, r111, rfl, hq111⟩ := hq111
    have hSInv_111 : SInv (v111 180) := by rw [hfr111.1 180 (by decide) (by decide)]; exact hS
    have hRsI_111 : RsI (v111 184) := by rw [hfr111.1 184 (by decide) (by decide)]; exact hrs
    have hk111_3 : v111 178 3 = (v 178 3) := (hfr111.2 3 (by decide)).trans (rfl)
    have hk111_4 : v111 178 4 = (v 178 4) := (hfr111.2 4 (by decide)).trans (rfl)
    have hk111_5 : v111 178 5 = (v 178 5) := (hfr111.2 5 (by decide)).trans (rfl)
    have hk111_11 : v111 178 11 = (v 178 11) := (hfr111.2 11 (by decide)).trans (rfl)
    have hk111_14 : v111 178 14 = (v 178 14) := (hfr111.2 14 (by decide)).trans (rfl)
    have hk111_47 : v111 178 47 = (v 178 47) := (hfr111.2 47 (by decide)).trans (rfl)
    show wp g X F_m_logLine 0 0 114 [(2, 178), (0, (3 * (v 178 47)))] [(0, r111)] v111 ρ Z
    have ed111 : v111 182 = v 182 := hfr111.1 182 (by decide) (by decide)
    have es111 : v111 180 = v 180 := by rw [hfr111.1 180 (by decide) (by decide)]; (repeat rw [up_f (by decide)])
    have ez111 : v111 180 0 = v 180 0 ∧ v111 180 2 = v 180 2 := by rw [es111]; exact ⟨rfl, rfl⟩
    have hl111 := hq111.2.2
    replace hq111 := And.intro hq111.1 hq111.2.1
    first | refine r_if_ne (pc := 114) hX 68 (tgt := 119) rfl (by decide) (⟨by omega, by omega⟩) (fun h114 => ?_) (fun h114 => ?_) | refine r_if_ne_any (pc := 114) hX 68 (tgt := 119) rfl (by decide) ?_ ?_
    · refine t_getI (y := (v111 178 47)) (pc := 119) hX 71 rfl rfl rfl fl_X12_477 rfl hG.1 (rfl) ?_
      refine r_bipush (pc := 123) hX 73 rfl (by decide) ?_
      first | refine r_icmp_ne (pc := 125) hX 74 (tgt := 134) rfl (by decide) (⟨by omega, by omega⟩) (⟨by omega, by omega⟩) (fun h125 => ?_) (fun h125 => ?_) | refine r_icmp_ne_any (pc := 125) hX 74 (tgt := 134) rfl (by decide) ?_ ?_
      · refine t_getR (pc := 134) hX 79 rfl rfl rfl fl_X12_40 rfl hG.1 (a_read hG).1 ?_
        refine r_iload_n (pc := 138) hX 81 rfl rfl ?_
        refine r_iconst (pc := 139) hX 82 rfl ?_
        refine r_iadd (pc := 140) hX 83 rfl ?_
        refine t_getI (y := (v111 178 18)) (pc := 141) hX 84 rfl rfl rfl fl_X12_226 rfl hG.1 (rfl) ?_
        refine e_iast (pc := 145) hX 86 rfl (a_read hG).2.1 (a_read hG).2.2 (by decide) (by omega) (by omega) ?_
        refine r_aload_n (pc := 146) hX 87 rfl rfl ?_
        refine r_callV (as := []) (st := []) (K := 12) (pc := 147) hX 88 rfl mo_m_go ml_X12_219 im_m_go se_m_go (c_goT g (up v111 182 ((3 * (v 178 47)) + 1) (v111 178 18)) ρ Z hG  (by (repeat (first | rw [up_k (by decide)] | rw [up_s] | rw [up_r (by decide)])); omega) ((hl111.ok (by omega)).2.2.arr (by decide) (by decide))) rfl rfl rfl hG.1 (by rw [hRm]; exact ⟨by decide, by decide⟩) (by rw [hRm]; exact ⟨by decide, by decide⟩) (Nat.le_of_ble_eq_true rfl) (fun o147 v147 ρ147 Z147 hq147 _ => ?_)
        obtain ⟨rfl, rfl, hfr147, rfl, hq147⟩ := hq147
        try simp only [up_f (show (178 : Int) ≠ 182 by decide), up_f (show (180 : Int) ≠ 182 by decide)] at hq147
        have hSInv_147 : SInv (v147 180) := by rw [hfr147.1 180 (by decide) (by decide), up_f (by decide)]; exact hSInv_111
        have hRsI_147 : RsI (v147 184) := by rw [hfr147.1 184 (by decide) (by decide), up_f (by decide)]; exact hRsI_111
        have hk147_3 : v147 178 3 = (v111 178 3) := (hfr147.2 3 (by decide)).trans ((up_r (by decide)).trans (rfl))
        have hk147_5 : v147 178 5 = (v111 178 5) := (hfr147.2 5 (by decide)).trans ((up_r (by decide)).trans (rfl))
        have hk147_18 : v147 178 18 = (v111 178 18) := (hfr147.2 18 (by decide)).trans ((up_r (by decide)).trans (rfl))
        have hk147_47 : v147 178 47 = (v111 178 47) := (hfr147.2 47 (by decide)).trans ((up_r (by decide)).trans (rfl))
        show wp g X F_m_logLine 0 0 150 [(2, 178), (0, (3 * (v 178 47)))] [] v147 ρ Z
        have ed147 : v147 182 = (up v111 182 ((3 * (v 178 47)) + 1) (v111 178 18)) 182 := hfr147.1 182 (by decide) (by decide)
        have es147 : v147 180 = v 180 := by rw [hfr147.1 180 (by decide) (by decide)]; (repeat rw [up_f (by decide)]); exact es111
        have ez147 : v147 180 0 = v 180 0 ∧ v147 180 2 = v 180 2 := by rw [es147]; exact ⟨rfl, rfl⟩
        have hT147 := hq147.2
        refine r_aload_n (pc := 150) hX 89 rfl rfl ?_
        refine r_ldc2 (y := 499850634611) (pc := 151) hX 90 rfl kl_X12_144 (by decide) ?_
        refine r_callV (as := [(1, 499850634611)]) (st := []) (K := 12) (pc := 154) hX 91 rfl mo_m_isWord ml_X12_247 im_m_isWord se_m_isWord (c_isWordT g v147 ρ Z hG (499850634611) (hT147) (by (repeat (first | rw [up_k (by decide)] | rw [up_s] | rw [up_r (by decide)])); omega) (by decide)) rfl rfl rfl hG.1 (by rw [hRm]; exact ⟨by decide, by decide⟩) (by rw [hRm]; exact ⟨by decide, by decide⟩) (Nat.le_of_ble_eq_true rfl) (fun o154 v154 ρ154 Z154 hq154 _ => ?_)
        obtain ⟨rfl, rfl, rfl, r154, rfl, hq154⟩ := hq154
        show wp g X F_m_logLine 0 0 157 [(2, 178), (0, (3 * (v 178 47)))] [(0, r154)] v147 ρ Z
        have hk154 := ky_of hT147 7 (by decide) (by decide) hq154
        replace hq154 := Hd.i hq154
        first | refine r_if_ne (pc := 157) hX 92 (tgt := 176) rfl (by decide) (⟨by omega, by omega⟩) (fun h157 => ?_) (fun h157 => ?_) | refine r_if_ne_any (pc := 157) hX 92 (tgt := 176) rfl (by decide) ?_ ?_
        · refine t_getR (pc := 176) hX 101 rfl rfl rfl fl_X12_40 rfl hG.1 (a_read hG).1 ?_
          refine r_iload_n (pc := 180) hX 103 rfl rfl ?_
          refine r_aload_n (pc := 181) hX 104 rfl rfl ?_
          refine r_ldc2 (y := 499850634611) (pc := 182) hX 105 rfl kl_X12_144 (by decide) ?_
          refine r_callV (as := [(1, 499850634611)]) (st := [(0, (3 * (v 178 47))), (2, 182)]) (K := 12) (pc := 185) hX 106 rfl mo_m_isWord ml_X12_247 im_m_isWord se_m_isWord (c_isWordT g v147 ρ Z hG (499850634611) (hT147) (by (repeat (first | rw [up_k (by decide)] | rw [up_s] | rw [up_r (by decide)])); omega) (by decide)) rfl rfl rfl hG.1 (by rw [hRm]; exact ⟨by decide, by decide⟩) (by rw [hRm]; exact ⟨by decide, by decide⟩) (Nat.le_of_ble_eq_true rfl) (fun o185 v185 ρ185 Z185 hq185 _ => ?_)
          obtain ⟨rfl, rfl, rfl, r185, rfl, hq185⟩ := hq185
          show wp g X F_m_logLine 0 0 188 [(2, 178), (0, (3 * (v 178 47)))] [(0, r185), (0, (3 * (v 178 47))), (2, 182)] v147 ρ Z
          first | refine r_if_eq (pc := 188) hX 107 (tgt := 195) rfl (by decide) (⟨by omega, by omega⟩) (fun h188 => ?_) (fun h188 => ?_) | refine r_if_eq_any (pc := 188) hX 107 (tgt := 195) rfl (by decide) ?_ ?_
          · refine r_iconst (pc := 195) hX 110 rfl ?_
            refine e_iast (pc := 196) hX 111 rfl (a_read hG).2.1 (a_read hG).2.2 (by decide) (by omega) (by omega) ?_
            refine r_aload_n (pc := 197) hX 112 rfl rfl ?_
            refine r_callV (as := []) (st := []) (K := 12) (pc := 198) hX 113 rfl mo_m_go ml_X12_219 im_m_go se_m_go (c_goT g (up v147 182 (3 * (v 178 47)) 1) ρ Z hG  (by (repeat (first | rw [up_k (by decide)] | rw [up_s] | rw [up_r (by decide)])); omega) (hT147.arr (by decide) (by decide))) rfl rfl rfl hG.1 (by rw [hRm]; exact ⟨by decide, by decide⟩) (by rw [hRm]; exact ⟨by decide, by decide⟩) (Nat.le_of_ble_eq_true rfl) (fun o198 v198 ρ198 Z198 hq198 _ => ?_)
            obtain ⟨rfl, rfl, hfr198, rfl, hq198⟩ := hq198
            try simp only [up_f (show (178 : Int) ≠ 182 by decide), up_f (show (180 : Int) ≠ 182 by decide)] at hq198
            have hSInv_198 : SInv (v198 180) := by rw [hfr198.1 180 (by decide) (by decide), up_f (by decide)]; exact hSInv_147
            have hRsI_198 : RsI (v198 184) := by rw [hfr198.1 184 (by decide) (by decide), up_f (by decide)]; exact hRsI_147
            have hk198_3 : v198 178 3 = (v147 178 3) := (hfr198.2 3 (by decide)).trans ((up_r (by decide)).trans (rfl))
            have hk198_5 : v198 178 5 = (v147 178 5) := (hfr198.2 5 (by decide)).trans ((up_r (by decide)).trans (rfl))
            have hk198_18 : v198 178 18 = (v147 178 18) := (hfr198.2 18 (by decide)).trans ((up_r (by decide)).trans (rfl))
            have hk198_47 : v198 178 47 = (v147 178 47) := (hfr198.2 47 (by decide)).trans ((up_r (by decide)).trans (rfl))
            show wp g X F_m_logLine 0 0 201 [(2, 178), (0, (3 * (v 178 47)))] [] v198 ρ Z
            have ed198 : v198 182 = (up v147 182 (3 * (v 178 47)) 1) 182 := hfr198.1 182 (by decide) (by decide)
            have es198 : v198 180 = v 180 := by rw [hfr198.1 180 (by decide) (by decide)]; (repeat rw [up_f (by decide)]); exact es147
            have ez198 : v198 180 0 = v 180 0 ∧ v198 180 2 = v 180 2 := by rw [es198]; exact ⟨rfl, rfl⟩
            have hT198 := hq198.2
            refine r_aload_n (pc := 201) hX 114 rfl rfl ?_
            refine r_iconst (pc := 202) hX 115 rfl ?_
            refine t_getR (pc := 203) hX 116 rfl rfl rfl fl_X12_33 rfl hG.1 (a_s hG).1 ?_
            refine r_iconst (pc := 207) hX 118 rfl ?_
            refine e_iald (y := (v198 180 0)) (pc := 208) hX 119 rfl (a_s hG).2.1 (a_s hG).2.2 (by omega) (by omega) (rfl) ?_
            have hb208 := hSInv_198.c0
            refine r_callV (as := [(0, 0), (0, (v198 180 0))]) (st := []) (K := 12) (pc := 209) hX 120 rfl mo_m_looksAt ml_X12_257 im_m_looksAt se_m_looksAt (c_looksAtL g v198 ρ Z hG (0) ((v198 180 0)) (by (repeat (first | rw [up_k (by decide)] | rw [up_s] | rw [up_r (by decide)])); omega) (hT198) (hRsI_198) (by omega) (fun j a b => by (repeat rw [up_f (by decide)]); rw [hfr198.1 183 (by decide) (by decide), up_f (by decide), hfr147.1 183 (by decide) (by decide), up_f (by decide), hfr111.1 183 (by decide) (by decide)]; exact hNm j a (by omega))) rfl rfl rfl hG.1 (by rw [hRm]; exact ⟨by decide, by decide⟩) (by rw [hRm]; exact ⟨by decide, by decide⟩) (Nat.le_of_ble_eq_true rfl) (fun o209 v209 ρ209 Z209 hq209 _ => ?_)
            obtain ⟨rfl, rfl, hfr209, r209, rfl, hq209⟩ := hq209
            have hSInv_209 : SInv (v209 180) := by rw [hfr209.1 180 (by decide) (by decide)]; exact hSInv_198
            have hRsI_209 : RsI (v209 184) := by rw [hfr209.1 184 (by decide) (by decide)]; exact hRsI_198
            have hk209_3 : v209 178 3 = (v198 178 3) := (hfr209.2 3 (by decide)).trans (rfl)
            have hk209_4 : v209 178 4 = (v198 178 4) := (hfr209.2 4 (by decide)).trans (rfl)
            have hk209_5 : v209 178 5 = (v198 178 5) := (hfr209.2 5 (by decide)).trans (rfl)
            have hk209_11 : v209 178 11 = (v198 178 11) := (hfr209.2 11 (by decide)).trans (rfl)
            have hk209_14 : v209 178 14 = (v198 178 14) := (hfr209.2 14 (by decide)).trans (rfl)
            have hk209_47 : v209 178 47 = (v198 178 47) := (hfr209.2 47 (by decide)).trans (rfl)
            show wp g X F_m_logLine 0 0 212 [(2, 178), (0, (3 * (v 178 47)))] [(0, r209)] v209 ρ Z
            have ed209 : v209 182 = v198 182 := hfr209.1 182 (by decide) (by decide)
            have es209 : v209 180 = v 180 := by rw [hfr209.1 180 (by decide) (by decide)]; (repeat rw [up_f (by decide)]); exact es198
            have ez209 : v209 180 0 = v 180 0 ∧ v209 180 2 = v 180 2 := by rw [es209]; exact ⟨rfl, rfl⟩
            have hl209 := hq209.2.2
            rw [ez198.1] at hl209
            replace hq209 := And.intro hq209.1 hq209.2.1
            first | refine r_if_ne (pc := 212) hX 121 (tgt := 217) rfl (by decide) (⟨by omega, by omega⟩) (fun h212 => ?_) (fun h212 => ?_) | refine r_if_ne_any (pc := 212) hX 121 (tgt := 217) rfl (by decide) ?_ ?_
            · refine t_getR (pc := 217) hX 124 rfl rfl rfl fl_X12_40 rfl hG.1 (a_read hG).1 ?_
              refine r_iload_n (pc := 221) hX 126 rfl rfl ?_
              refine r_iconst (pc := 222) hX 127 rfl ?_
              refine r_iadd (pc := 223) hX 128 rfl ?_
              refine t_getI (y := (v209 178 18)) (pc := 224) hX 129 rfl rfl rfl fl_X12_226 rfl hG.1 (rfl) ?_
              refine e_iast (pc := 228) hX 131 rfl (a_read hG).2.1 (a_read hG).2.2 (by decide) (by omega) (by omega) ?_
              refine r_aload_n (pc := 229) hX 132 rfl rfl ?_
              refine r_callV (as := []) (st := []) (K := 12) (pc := 230) hX 133 rfl mo_m_go ml_X12_219 im_m_go se_m_go (c_goT g (up v209 182 ((3 * (v 178 47)) + 2) (v209 178 18)) ρ Z hG  (by (repeat (first | rw [up_k (by decide)] | rw [up_s] | rw [up_r (by decide)])); omega) ((hl209.ok (by omega)).2.2.arr (by decide) (by decide))) rfl rfl rfl hG.1 (by rw [hRm]; exact ⟨by decide, by decide⟩) (by rw [hRm]; exact ⟨by decide, by decide⟩) (Nat.le_of_ble_eq_true rfl) (fun o230 v230 ρ230 Z230 hq230 _ => ?_)
              obtain ⟨rfl, rfl, hfr230, rfl, hq230⟩ := hq230
              try simp only [up_f (show (178 : Int) ≠ 182 by decide), up_f (show (180 : Int) ≠ 182 by decide)] at hq230
              have hSInv_230 : SInv (v230 180) := by rw [hfr230.1 180 (by decide) (by decide), up_f (by decide)]; exact hSInv_209
              have hRsI_230 : RsI (v230 184) := by rw [hfr230.1 184 (by decide) (by decide), up_f (by decide)]; exact hRsI_209
              have hk230_3 : v230 178 3 = (v209 178 3) := (hfr230.2 3 (by decide)).trans ((up_r (by decide)).trans (rfl))
              have hk230_5 : v230 178 5 = (v209 178 5) := (hfr230.2 5 (by decide)).trans ((up_r (by decide)).trans (rfl))
              have hk230_18 : v230 178 18 = (v209 178 18) := (hfr230.2 18 (by decide)).trans ((up_r (by decide)).trans (rfl))
              have hk230_47 : v230 178 47 = (v209 178 47) := (hfr230.2 47 (by decide)).trans ((up_r (by decide)).trans (rfl))
              show wp g X F_m_logLine 0 0 233 [(2, 178), (0, (3 * (v 178 47)))] [] v230 ρ Z
              have ed230 : v230 182 = (up v209 182 ((3 * (v 178 47)) + 2) (v209 178 18)) 182 := hfr230.1 182 (by decide) (by decide)
              have es230 : v230 180 = v 180 := by rw [hfr230.1 180 (by decide) (by decide)]; (repeat rw [up_f (by decide)]); exact es209
              have ez230 : v230 180 0 = v 180 0 ∧ v230 180 2 = v 180 2 := by rw [es230]; exact ⟨rfl, rfl⟩
              have hT230 := hq230.2
              have hg230 := (hl209.ok (by omega)).2.2.adv hq230.2 (by omega)
              refine r_iconst (pc := 233) hX 134 rfl ?_
              exact r_zret (pc := 234) hX 135 hQ rfl rfl ⟨by omega, by omega⟩ (Nat.le_refl 0) (Nat.le_refl 0) ⟨rfl, rfl, ((((((((Fr.rf).tr hfr111 (by decide) (by decide)).arr (r := 182) (by decide) (by decide)).tr hfr147 (by decide) (by decide)).arr (r := 182) (by decide) (by decide)).tr hfr198 (by decide) (by decide)).tr hfr209 (by decide) (by decide)).arr (r := 182) (by decide) (by decide)).tr hfr230 (by decide) (by decide), 1, rfl, (by (repeat (first | rw [up_k (by decide)] | rw [up_s] | rw [up_r (by decide)])); omega), (Or.inr ⟨rfl, by omega, RdL.mk01 (by (repeat (first | rw [up_s] | rw [up_k (by omega)] | rw [ed230] | rw [ed209] | rw [ed198] | rw [ed147] | rw [ed111] )); first | exact Or.inl rfl | exact Or.inr rfl) (by (repeat (first | rw [up_s] | rw [up_k (by omega)] | rw [ed230] | rw [ed209] | rw [ed198] | rw [ed147] | rw [ed111] )); omega) (by (repeat (first | rw [up_s] | rw [up_k (by omega)] | rw [ed230] | rw [ed209] | rw [ed198] | rw [ed147] | rw [ed111] )); omega) (by (repeat (first | rw [up_s] | rw [up_k (by omega)] | rw [ed230] | rw [ed209] | rw [ed198] | rw [ed147] | rw [ed111] )); omega) (by (repeat (first | rw [up_s] | rw [up_k (by omega)] | rw [ed230] | rw [ed209] | rw [ed198] | rw [ed147] | rw [ed111] )); omega), by (repeat (first | rw [up_k (by decide)] | rw [up_s] | rw [up_r (by decide)])); omega⟩), (fun j hj => by
        repeat (first | rw [up_k (show j ≠ _ by omega)] | rw [ed230] | rw [ed209] | rw [ed198] | rw [ed147] | rw [ed111] )), (LlM.good (lLine_c (lAct_v0 (hl111.ok (by omega)).1 (hl111.ok (by omega)).2.1 (by omega) (by omega)) (lCol_0 (hl209.ok (by omega)).1 (hl209.ok (by omega)).2.1)) hT230)⟩
            · refine r_iconst (pc := 215) hX 122 rfl ?_
              exact r_zret (pc := 216) hX 123 hQ rfl rfl ⟨by omega, by omega⟩ (Nat.le_refl 0) (Nat.le_refl 0) ⟨rfl, rfl, ((((((Fr.rf).tr hfr111 (by decide) (by decide)).arr (r := 182) (by decide) (by decide)).tr hfr147 (by decide) (by decide)).arr (r := 182) (by decide) (by decide)).tr hfr198 (by decide) (by decide)).tr hfr209 (by decide) (by decide), 0, rfl, (by (repeat (first | rw [up_k (by decide)] | rw [up_s] | rw [up_r (by decide)])); omega), (Or.inl (by omega)), (fun j hj => by
        repeat (first | rw [up_k (show j ≠ _ by omega)] | rw [ed209] | rw [ed198] | rw [ed147] | rw [ed111] )), (hl209.col rfl (lAct_v0 (hl111.ok (by omega)).1 (hl111.ok (by omega)).2.1 (by omega) (by omega)) (Or.inl (by omega)) (by omega))⟩
          · refine r_iconst (pc := 191) hX 108 rfl ?_
            refine r_goto (pc := 192) hX 109 (tgt := 196) rfl (by decide) ?_
            refine e_iast (pc := 196) hX 111 rfl (a_read hG).2.1 (a_read hG).2.2 (by decide) (by omega) (by omega) ?_
            refine r_aload_n (pc := 197) hX 112 rfl rfl ?_
            refine r_callV (as := []) (st := []) (K := 12) (pc := 198) hX 113 rfl mo_m_go ml_X12_219 im_m_go se_m_go (c_goT g (up v147 182 (3 * (v 178 47)) 0) ρ Z hG  (by (repeat (first | rw [up_k (by decide)] | rw [up_s] | rw [up_r (by decide)])); omega) (hT147.arr (by decide) (by decide))) rfl rfl rfl hG.1 (by rw [hRm]; exact ⟨by decide, by decide⟩) (by rw [hRm]; exact ⟨by decide, by decide⟩) (Nat.le_of_ble_eq_true rfl) (fun o198 v198 ρ198 Z198 hq198 _ => ?_)
            obtain ⟨rfl, rfl, hfr198, rfl, hq198⟩ := hq198
            try simp only [up_f (show (178 : Int) ≠ 182 by decide), up_f (show (180 : Int) ≠ 182 by decide)] at hq198
            have hSInv_198 : SInv (v198 180) := by rw [hfr198.1 180 (by decide) (by decide), up_f (by decide)]; exact hSInv_147
            have hRsI_198 : RsI (v198 184) := by rw [hfr198.1 184 (by decide) (by decide), up_f (by decide)]; exact hRsI_147
            have hk198_3 : v198 178 3 = (v147 178 3) := (hfr198.2 3 (by decide)).trans ((up_r (by decide)).trans (rfl))
            have hk198_5 : v198 178 5 = (v147 178 5) := (hfr198.2 5 (by decide)).trans ((up_r (by decide)).trans (rfl))
            have hk198_18 : v198 178 18 = (v147 178 18) := (hfr198.2 18 (by decide)).trans ((up_r (by decide)).trans (rfl))
            have hk198_47 : v198 178 47 = (v147 178 47) := (hfr198.2 47 (by decide)).trans ((up_r (by decide)).trans (rfl))
            show wp g X F_m_logLine 0 0 201 [(2, 178), (0, (3 * (v 178 47)))] [] v198 ρ Z
            have ed198 : v198 182 = (up v147 182 (3 * (v 178 47)) 0) 182 := hfr198.1 182 (by decide) (by decide)
            have es198 : v198 180 = v 180 := by rw [hfr198.1 180 (by decide) (by decide)]; (repeat rw [up_f (by decide)]); exact es147
            have ez198 : v198 180 0 = v 180 0 ∧ v198 180 2 = v 180 2 := by rw [es198]; exact ⟨rfl, rfl⟩
            have hT198 := hq198.2
            refine r_aload_n (pc := 201) hX 114 rfl rfl ?_
            refine r_iconst (pc := 202) hX 115 rfl ?_
            refine t_getR (pc := 203) hX 116 rfl rfl rfl fl_X12_33 rfl hG.1 (a_s hG).1 ?_
            refine r_iconst (pc := 207) hX 118 rfl ?_
            refine e_iald (y := (v198 180 0)) (pc := 208) hX 119 rfl (a_s hG).2.1 (a_s hG).2.2 (by omega) (by omega) (rfl) ?_
            have hb208 := hSInv_198.c0
            refine r_callV (as := [(0, 0), (0, (v198 180 0))]) (st := []) (K := 12) (pc := 209) hX 120 rfl mo_m_looksAt ml_X12_257 im_m_looksAt se_m_looksAt (c_looksAtL g v198 ρ Z hG (0) ((v198 180 0)) (by (repeat (first | rw [up_k (by decide)] | rw [up_s] | rw [up_r (by decide)])); omega) (hT198) (hRsI_198) (by omega) (fun j a b => by (repeat rw [up_f (by decide)]); rw [hfr198.1 183 (by decide) (by decide), up_f (by decide), hfr147.1 183 (by decide) (by decide), up_f (by decide), hfr111.1 183 (by decide) (by decide)]; exact hNm j a (by omega))) rfl rfl rfl hG.1 (by rw [hRm]; exact ⟨by decide, by decide⟩) (by rw [hRm]; exact ⟨by decide, by decide⟩) (Nat.le_of_ble_eq_true rfl) (fun o209 v209 ρ209 Z209 hq209 _ => ?_)
            obtain ⟨rfl, rfl, hfr209, r209, rfl, hq209⟩ := hq209
            have hSInv_209 : SInv (v209 180) := by rw [hfr209.1 180 (by decide) (by decide)]; exact hSInv_198
            have hRsI_209 : RsI (v209 184) := by rw [hfr209.1 184 (by decide) (by decide)]; exact hRsI_198
            have hk209_3 : v209 178 3 = (v198 178 3) := (hfr209.2 3 (by decide)).trans (rfl)
            have hk209_4 : v209 178 4 = (v198 178 4) := (hfr209.2 4 (by decide)).trans (rfl)
            have hk209_5 : v209 178 5 = (v198 178 5) := (hfr209.2 5 (by decide)).trans (rfl)
            have hk209_11 : v209 178 11 = (v198 178 11) := (hfr209.2 11 (by decide)).trans (rfl)
            have hk209_14 : v209 178 14 = (v198 178 14) := (hfr209.2 14 (by decide)).trans (rfl)
            have hk209_47 : v209 178 47 = (v198 178 47) := (hfr209.2 47 (by decide)).trans (rfl)
            show wp g X F_m_logLine 0 0 212 [(2, 178), (0, (3 * (v 178 47)))] [(0, r209)] v209 ρ Z
            have ed209 : v209 182 = v198 182 := hfr209.1 182 (by decide) (by decide)
            have es209 : v209 180 = v 180 := by rw [hfr209.1 180 (by decide) (by decide)]; (repeat rw [up_f (by decide)]); exact es198
            have ez209 : v209 180 0 = v 180 0 ∧ v209 180 2 = v 180 2 := by rw [es209]; exact ⟨rfl, rfl⟩
            have hl209 := hq209.2.2
            rw [ez198.1] at hl209
            replace hq209 := And.intro hq209.1 hq209.2.1
            first | refine r_if_ne (pc := 212) hX 121 (tgt := 217) rfl (by decide) (⟨by omega, by omega⟩) (fun h212 => ?_) (fun h212 => ?_) | refine r_if_ne_any (pc := 212) hX 121 (tgt := 217) rfl (by decide) ?_ ?_
            · refine t_getR (pc := 217) hX 124 rfl rfl rfl fl_X12_40 rfl hG.1 (a_read hG).1 ?_
              refine r_iload_n (pc := 221) hX 126 rfl rfl ?_
              refine r_iconst (pc := 222) hX 127 rfl ?_
              refine r_iadd (pc := 223) hX 128 rfl ?_
              refine t_getI (y := (v209 178 18)) (pc := 224) hX 129 rfl rfl rfl fl_X12_226 rfl hG.1 (rfl) ?_
              refine e_iast (pc := 228) hX 131 rfl (a_read hG).2.1 (a_read hG).2.2 (by decide) (by omega) (by omega) ?_
              refine r_aload_n (pc := 229) hX 132 rfl rfl ?_
              refine r_callV (as := []) (st := []) (K := 12) (pc := 230) hX 133 rfl mo_m_go ml_X12_219 im_m_go se_m_go (c_goT g (up v209 182 ((3 * (v 178 47)) + 2) (v209 178 18)) ρ Z hG  (by (repeat (first | rw [up_k (by decide)] | rw [up_s] | rw [up_r (by decide)])); omega) ((hl209.ok (by omega)).2.2.arr (by decide) (by decide))) rfl rfl rfl hG.1 (by rw [hRm]; exact ⟨by decide, by decide⟩) (by rw [hRm]; exact ⟨by decide, by decide⟩) (Nat.le_of_ble_eq_true rfl) (fun o230 v230 ρ230 Z230 hq230 _ => ?_)
              obtain ⟨rfl, rfl, hfr230, rfl, hq230⟩ := hq230
              try simp only [up_f (show (178 : Int) ≠ 182 by decide), up_f (show (180 : Int) ≠ 182 by decide)] at hq230
              have hSInv_230 : SInv (v230 180) := by rw [hfr230.1 180 (by decide) (by decide), up_f (by decide)]; exact hSInv_209
              have hRsI_230 : RsI (v230 184) := by rw [hfr230.1 184 (by decide) (by decide), up_f (by decide)]; exact hRsI_209
              have hk230_3 : v230 178 3 = (v209 178 3) := (hfr230.2 3 (by decide)).trans ((up_r (by decide)).trans (rfl))
              have hk230_5 : v230 178 5 = (v209 178 5) := (hfr230.2 5 (by decide)).trans ((up_r (by decide)).trans (rfl))
              have hk230_18 : v230 178 18 = (v209 178 18) := (hfr230.2 18 (by decide)).trans ((up_r (by decide)).trans (rfl))
              have hk230_47 : v230 178 47 = (v209 178 47) := (hfr230.2 47 (by decide)).trans ((up_r (by decide)).trans (rfl))
              show wp g X F_m_logLine 0 0 233 [(2, 178), (0, (3 * (v 178 47)))] [] v230 ρ Z
              have ed230 : v230 182 = (up v209 182 ((3 * (v 178 47)) + 2) (v209 178 18)) 182 := hfr230.1 182 (by decide) (by decide)
              have es230 : v230 180 = v 180 := by rw [hfr230.1 180 (by decide) (by decide)]; (repeat rw [up_f (by decide)]); exact es209
              have ez230 : v230 180 0 = v 180 0 ∧ v230 180 2 = v 180 2 := by rw [es230]; exact ⟨rfl, rfl⟩
              have hT230 := hq230.2
              have hg230 := (hl209.ok (by omega)).2.2.adv hq230.2 (by omega)
              refine r_iconst (pc := 233) hX 134 rfl ?_
              exact r_zret (pc := 234) hX 135 hQ rfl rfl ⟨by omega, by omega⟩ (Nat.le_refl 0) (Nat.le_refl 0) ⟨rfl, rfl, ((((((((Fr.rf).tr hfr111 (by decide) (by decide)).arr (r := 182) (by decide) (by decide)).tr hfr147 (by decide) (by decide)).arr (r := 182) (by decide) (by decide)).tr hfr198 (by decide) (by decide)).tr hfr209 (by decide) (by decide)).arr (r := 182) (by decide) (by decide)).tr hfr230 (by decide) (by decide), 1, rfl, (by (repeat (first | rw [up_k (by decide)] | rw [up_s] | rw [up_r (by decide)])); omega), (Or.inr ⟨rfl, by omega, RdL.mk01 (by (repeat (first | rw [up_s] | rw [up_k (by omega)] | rw [ed230] | rw [ed209] | rw [ed198] | rw [ed147] | rw [ed111] )); first | exact Or.inl rfl | exact Or.inr rfl) (by (repeat (first | rw [up_s] | rw [up_k (by omega)] | rw [ed230] | rw [ed209] | rw [ed198] | rw [ed147] | rw [ed111] )); omega) (by (repeat (first | rw [up_s] | rw [up_k (by omega)] | rw [ed230] | rw [ed209] | rw [ed198] | rw [ed147] | rw [ed111] )); omega) (by (repeat (first | rw [up_s] | rw [up_k (by omega)] | rw [ed230] | rw [ed209] | rw [ed198] | rw [ed147] | rw [ed111] )); omega) (by (repeat (first | rw [up_s] | rw [up_k (by omega)] | rw [ed230] | rw [ed209] | rw [ed198] | rw [ed147] | rw [ed111] )); omega), by (repeat (first | rw [up_k (by decide)] | rw [up_s] | rw [up_r (by decide)])); omega⟩), (fun j hj => by
        repeat (first | rw [up_k (show j ≠ _ by omega)] | rw [ed230] | rw [ed209] | rw [ed198] | rw [ed147] | rw [ed111] )), (LlM.good (lLine_c (lAct_v0 (hl111.ok (by omega)).1 (hl111.ok (by omega)).2.1 (by omega) (by omega)) (lCol_0 (hl209.ok (by omega)).1 (hl209.ok (by omega)).2.1)) hT230)⟩
            · refine r_iconst (pc := 215) hX 122 rfl ?_
              exact r_zret (pc := 216) hX 123 hQ rfl rfl ⟨by omega, by omega⟩ (Nat.le_refl 0) (Nat.le_refl 0) ⟨rfl, rfl, ((((((Fr.rf).tr hfr111 (by decide) (by decide)).arr (r := 182) (by decide) (by decide)).tr hfr147 (by decide) (by decide)).arr (r := 182) (by decide) (by decide)).tr hfr198 (by decide) (by decide)).tr hfr209 (by decide) (by decide), 0, rfl, (by (repeat (first | rw [up_k (by decide)] | rw [up_s] | rw [up_r (by decide)])); omega), (Or.inl (by omega)), (fun j hj => by
        repeat (first | rw [up_k (show j ≠ _ by omega)] | rw [ed209] | rw [ed198] | rw [ed147] | rw [ed111] )), (hl209.col rfl (lAct_v0 (hl111.ok (by omega)).1 (hl111.ok (by omega)).2.1 (by omega) (by omega)) (Or.inl (by omega)) (by omega))⟩
        · refine r_aload_n (pc := 160) hX 93 rfl rfl ?_
          refine r_ldc2 (y := 500186639987) (pc := 161) hX 94 rfl kl_X12_146 (by decide) ?_
          refine r_callV (as := [(1, 500186639987)]) (st := []) (K := 12) (pc := 164) hX 95 rfl mo_m_isWord ml_X12_247 im_m_isWord se_m_isWord (c_isWordT g v147 ρ Z hG (500186639987) (hT147) (by (repeat (first | rw [up_k (by decide)] | rw [up_s] | rw [up_r (by decide)])); omega) (by decide)) rfl rfl rfl hG.1 (by rw [hRm]; exact ⟨by decide, by decide⟩) (by rw [hRm]; exact ⟨by decide, by decide⟩) (Nat.le_of_ble_eq_true rfl) (fun o164 v164 ρ164 Z164 hq164 _ => ?_)
          obtain ⟨rfl, rfl, rfl, r164, rfl, hq164⟩ := hq164
          show wp g X F_m_logLine 0 0 167 [(2, 178), (0, (3 * (v 178 47)))] [(0, r164)] v147 ρ Z
          have hk164 := ky_of hT147 8 (by decide) (by decide) hq164
          replace hq164 := Hd.i hq164
          first | refine r_if_ne (pc := 167) hX 96 (tgt := 176) rfl (by decide) (⟨by omega, by omega⟩) (fun h167 => ?_) (fun h167 => ?_) | refine r_if_ne_any (pc := 167) hX 96 (tgt := 176) rfl (by decide) ?_ ?_
          · refine t_getR (pc := 176) hX 101 rfl rfl rfl fl_X12_40 rfl hG.1 (a_read hG).1 ?_
            refine r_iload_n (pc := 180) hX 103 rfl rfl ?_
            refine r_aload_n (pc := 181) hX 104 rfl rfl ?_
            refine r_ldc2 (y := 499850634611) (pc := 182) hX 105 rfl kl_X12_144 (by decide) ?_
            refine r_callV (as := [(1, 499850634611)]) (st := [(0, (3 * (v 178 47))), (2, 182)]) (K := 12) (pc := 185) hX 106 rfl mo_m_isWord ml_X12_247 im_m_isWord se_m_isWord (c_isWordT g v147 ρ Z hG (499850634611) (hT147) (by (repeat (first | rw [up_k (by decide)] | rw [up_s] | rw [up_r (by decide)])); omega) (by decide)) rfl rfl rfl hG.1 (by rw [hRm]; exact ⟨by decide, by decide⟩) (by rw [hRm]; exact ⟨by decide, by decide⟩) (Nat.le_of_ble_eq_true rfl) (fun o185 v185 ρ185 Z185 hq185 _ => ?_)
            obtain ⟨rfl, rfl, rfl, r185, rfl, hq185⟩ := hq185
            show wp g X F_m_logLine 0 0 188 [(2, 178), (0, (3 * (v 178 47)))] [(0, r185), (0, (3 * (v 178 47))), (2, 182)] v147 ρ Z
            first | refine r_if_eq (pc := 188) hX 107 (tgt := 195) rfl (by decide) (⟨by omega, by omega⟩) (fun h188 => ?_) (fun h188 => ?_) | refine r_if_eq_any (pc := 188) hX 107 (tgt := 195) rfl (by decide) ?_ ?_
            · refine r_iconst (pc := 195) hX 110 rfl ?_
              refine e_iast (pc := 196) hX 111 rfl (a_read hG).2.1 (a_read hG).2.2 (by decide) (by omega) (by omega) ?_
              refine r_aload_n (pc := 197) hX 112 rfl rfl ?_
              refine r_callV (as := []) (st := []) (K := 12) (pc := 198) hX 113 rfl mo_m_go ml_X12_219 im_m_go se_m_go (c_goT g (up v147 182 (3 * (v 178 47)) 1) ρ Z hG  (by (repeat (first | rw [up_k (by decide)] | rw [up_s] | rw [up_r (by decide)])); omega) (hT147.arr (by decide) (by decide))) rfl rfl rfl hG.1 (by rw [hRm]; exact ⟨by decide, by decide⟩) (by rw [hRm]; exact ⟨by decide, by decide⟩) (Nat.le_of_ble_eq_true rfl) (fun o198 v198 ρ198 Z198 hq198 _ => ?_)
              obtain ⟨rfl, rfl, hfr198, rfl, hq198⟩ := hq198
              try simp only [up_f (show (178 : Int) ≠ 182 by decide), up_f (show (180 : Int) ≠ 182 by decide)] at hq198
              have hSInv_198 : SInv (v198 180) := by rw [hfr198.1 180 (by decide) (by decide), up_f (by decide)]; exact hSInv_147
              have hRsI_198 : RsI (v198 184) := by rw [hfr198.1 184 (by decide) (by decide), up_f (by decide)]; exact hRsI_147
              have hk198_3 : v198 178 3 = (v147 178 3) := (hfr198.2 3 (by decide)).trans ((up_r (by decide)).trans (rfl))
              have hk198_5 : v198 178 5 = (v147 178 5) := (hfr198.2 5 (by decide)).trans ((up_r (by decide)).trans (rfl))
              have hk198_18 : v198 178 18 = (v147 178 18) := (hfr198.2 18 (by decide)).trans ((up_r (by decide)).trans (rfl))
              have hk198_47 : v198 178 47 = (v147 178 47) := (hfr198.2 47 (by decide)).trans ((up_r (by decide)).trans (rfl))
              show wp g X F_m_logLine 0 0 201 [(2, 178), (0, (3 * (v 178 47)))] [] v198 ρ Z
              have ed198 : v198 182 = (up v147 182 (3 * (v 178 47)) 1) 182 := hfr198.1 182 (by decide) (by decide)
              have es198 : v198 180 = v 180 := by rw [hfr198.1 180 (by decide) (by decide)]; (repeat rw [up_f (by decide)]); exact es147
              have ez198 : v198 180 0 = v 180 0 ∧ v198 180 2 = v 180 2 := by rw [es198]; exact ⟨rfl, rfl⟩
              have hT198 := hq198.2
              refine r_aload_n (pc := 201) hX 114 rfl rfl ?_
              refine r_iconst (pc := 202) hX 115 rfl ?_
              refine t_getR (pc := 203) hX 116 rfl rfl rfl fl_X12_33 rfl hG.1 (a_s hG).1 ?_
              refine r_iconst (pc := 207) hX 118 rfl ?_
              refine e_iald (y := (v198 180 0)) (pc := 208) hX 119 rfl (a_s hG).2.1 (a_s hG).2.2 (by omega) (by omega) (rfl) ?_
              have hb208 := hSInv_198.c0
              refine r_callV (as := [(0, 0), (0, (v198 180 0))]) (st := []) (K := 12) (pc := 209) hX 120 rfl mo_m_looksAt ml_X12_257 im_m_looksAt se_m_looksAt (c_looksAtL g v198 ρ Z hG (0) ((v198 180 0)) (by (repeat (first | rw [up_k (by decide)] | rw [up_s] | rw [up_r (by decide)])); omega) (hT198) (hRsI_198) (by omega) (fun j a b => by (repeat rw [up_f (by decide)]); rw [hfr198.1 183 (by decide) (by decide), up_f (by decide), hfr147.1 183 (by decide) (by decide), up_f (by decide), hfr111.1 183 (by decide) (by decide)]; exact hNm j a (by omega))) rfl rfl rfl hG.1 (by rw [hRm]; exact ⟨by decide, by decide⟩) (by rw [hRm]; exact ⟨by decide, by decide⟩) (Nat.le_of_ble_eq_true rfl) (fun o209 v209 ρ209 Z209 hq209 _ => ?_)
              obtain ⟨rfl, rfl, hfr209, r209, rfl, hq209⟩ := hq209
              have hSInv_209 : SInv (v209 180) := by rw [hfr209.1 180 (by decide) (by decide)]; exact hSInv_198
              have hRsI_209 : RsI (v209 184) := by rw [hfr209.1 184 (by decide) (by decide)]; exact hRsI_198
              have hk209_3 : v209 178 3 = (v198 178 3) := (hfr209.2 3 (by decide)).trans (rfl)
              have hk209_4 : v209 178 4 = (v198 178 4) := (hfr209.2 4 (by decide)).trans (rfl)
              have hk209_5 : v209 178 5 = (v198 178 5) := (hfr209.2 5 (by decide)).trans (rfl)
              have hk209_11 : v209 178 11 = (v198 178 11) := (hfr209.2 11 (by decide)).trans (rfl)
              have hk209_14 : v209 178 14 = (v198 178 14) := (hfr209.2 14 (by decide)).trans (rfl)
              have hk209_47 : v209 178 47 = (v198 178 47) := (hfr209.2 47 (by decide)).trans (rfl)
              show wp g X F_m_logLine 0 0 212 [(2, 178), (0, (3 * (v 178 47)))] [(0, r209)] v209 ρ Z
              have ed209 : v209 182 = v198 182 := hfr209.1 182 (by decide) (by decide)
              have es209 : v209 180 = v 180 := by rw [hfr209.1 180 (by decide) (by decide)]; (repeat rw [up_f (by decide)]); exact es198
              have ez209 : v209 180 0 = v 180 0 ∧ v209 180 2 = v 180 2 := by rw [es209]; exact ⟨rfl, rfl⟩
              have hl209 := hq209.2.2
              rw [ez198.1] at hl209
              replace hq209 := And.intro hq209.1 hq209.2.1
              first | refine r_if_ne (pc := 212) hX 121 (tgt := 217) rfl (by decide) (⟨by omega, by omega⟩) (fun h212 => ?_) (fun h212 => ?_) | refine r_if_ne_any (pc := 212) hX 121 (tgt := 217) rfl (by decide) ?_ ?_
              · refine t_getR (pc := 217) hX 124 rfl rfl rfl fl_X12_40 rfl hG.1 (a_read hG).1 ?_
                refine r_iload_n (pc := 221) hX 126 rfl rfl ?_
                refine r_iconst (pc := 222) hX 127 rfl ?_
                refine r_iadd (pc := 223) hX 128 rfl ?_
                refine t_getI (y := (v209 178 18)) (pc := 224) hX 129 rfl rfl rfl fl_X12_226 rfl hG.1 (rfl) ?_
                refine e_iast (pc := 228) hX 131 rfl (a_read hG).2.1 (a_read hG).2.2 (by decide) (by omega) (by omega) ?_
                refine r_aload_n (pc := 229) hX 132 rfl rfl ?_
                refine r_callV (as := []) (st := []) (K := 12) (pc := 230) hX 133 rfl mo_m_go ml_X12_219 im_m_go se_m_go (c_goT g (up v209 182 ((3 * (v 178 47)) + 2) (v209 178 18)) ρ Z hG  (by (repeat (first | rw [up_k (by decide)] | rw [up_s] | rw [up_r (by decide)])); omega) ((hl209.ok (by omega)).2.2.arr (by decide) (by decide))) rfl rfl rfl hG.1 (by rw [hRm]; exact ⟨by decide, by decide⟩) (by rw [hRm]; exact ⟨by decide, by decide⟩) (Nat.le_of_ble_eq_true rfl) (fun o230 v230 ρ230 Z230 hq230 _ => ?_)
                obtain ⟨rfl, rfl, hfr230, rfl, hq230⟩ := hq230
                try simp only [up_f (show (178 : Int) ≠ 182 by decide), up_f (show (180 : Int) ≠ 182 by decide)] at hq230
                have hSInv_230 : SInv (v230 180) := by rw [hfr230.1 180 (by decide) (by decide), up_f (by decide)]; exact hSInv_209
                have hRsI_230 : RsI (v230 184) := by rw [hfr230.1 184 (by decide) (by decide), up_f (by decide)]; exact hRsI_209
                have hk230_3 : v230 178 3 = (v209 178 3) := (hfr230.2 3 (by decide)).trans ((up_r (by decide)).trans (rfl))
                have hk230_5 : v230 178 5 = (v209 178 5) := (hfr230.2 5 (by decide)).trans ((up_r (by decide)).trans (rfl))
                have hk230_18 : v230 178 18 = (v209 178 18) := (hfr230.2 18 (by decide)).trans ((up_r (by decide)).trans (rfl))
                have hk230_47 : v230 178 47 = (v209 178 47) := (hfr230.2 47 (by decide)).trans ((up_r (by decide)).trans (rfl))
                show wp g X F_m_logLine 0 0 233 [(2, 178), (0, (3 * (v 178 47)))] [] v230 ρ Z
                have ed230 : v230 182 = (up v209 182 ((3 * (v 178 47)) + 2) (v209 178 18)) 182 := hfr230.1 182 (by decide) (by decide)
                have es230 : v230 180 = v 180 := by rw [hfr230.1 180 (by decide) (by decide)]; (repeat rw [up_f (by decide)]); exact es209
                have ez230 : v230 180 0 = v 180 0 ∧ v230 180 2 = v 180 2 := by rw [es230]; exact ⟨rfl, rfl⟩
                have hT230 := hq230.2
                have hg230 := (hl209.ok (by omega)).2.2.adv hq230.2 (by omega)
                refine r_iconst (pc := 233) hX 134 rfl ?_
                exact r_zret (pc := 234) hX 135 hQ rfl rfl ⟨by omega, by omega⟩ (Nat.le_refl 0) (Nat.le_refl 0) ⟨rfl, rfl, ((((((((Fr.rf).tr hfr111 (by decide) (by decide)).arr (r := 182) (by decide) (by decide)).tr hfr147 (by decide) (by decide)).arr (r := 182) (by decide) (by decide)).tr hfr198 (by decide) (by decide)).tr hfr209 (by decide) (by decide)).arr (r := 182) (by decide) (by decide)).tr hfr230 (by decide) (by decide), 1, rfl, (by (repeat (first | rw [up_k (by decide)] | rw [up_s] | rw [up_r (by decide)])); omega), (Or.inr ⟨rfl, by omega, RdL.mk01 (by (repeat (first | rw [up_s] | rw [up_k (by omega)] | rw [ed230] | rw [ed209] | rw [ed198] | rw [ed147] | rw [ed111] )); first | exact Or.inl rfl | exact Or.inr rfl) (by (repeat (first | rw [up_s] | rw [up_k (by omega)] | rw [ed230] | rw [ed209] | rw [ed198] | rw [ed147] | rw [ed111] )); omega) (by (repeat (first | rw [up_s] | rw [up_k (by omega)] | rw [ed230] | rw [ed209] | rw [ed198] | rw [ed147] | rw [ed111] )); omega) (by (repeat (first | rw [up_s] | rw [up_k (by omega)] | rw [ed230] | rw [ed209] | rw [ed198] | rw [ed147] | rw [ed111] )); omega) (by (repeat (first | rw [up_s] | rw [up_k (by omega)] | rw [ed230] | rw [ed209] | rw [ed198] | rw [ed147] | rw [ed111] )); omega), by (repeat (first | rw [up_k (by decide)] | rw [up_s] | rw [up_r (by decide)])); omega⟩), (fun j hj => by
        repeat (first | rw [up_k (show j ≠ _ by omega)] | rw [ed230] | rw [ed209] | rw [ed198] | rw [ed147] | rw [ed111] )), (LlM.good (lLine_c (lAct_v0 (hl111.ok (by omega)).1 (hl111.ok (by omega)).2.1 (by omega) (by omega)) (lCol_0 (hl209.ok (by omega)).1 (hl209.ok (by omega)).2.1)) hT230)⟩
              · refine r_iconst (pc := 215) hX 122 rfl ?_
                exact r_zret (pc := 216) hX 123 hQ rfl rfl ⟨by omega, by omega⟩ (Nat.le_refl 0) (Nat.le_refl 0) ⟨rfl, rfl, ((((((Fr.rf).tr hfr111 (by decide) (by decide)).arr (r := 182) (by decide) (by decide)).tr hfr147 (by decide) (by decide)).arr (r := 182) (by decide) (by decide)).tr hfr198 (by decide) (by decide)).tr hfr209 (by decide) (by decide), 0, rfl, (by (repeat (first | rw [up_k (by decide)] | rw [up_s] | rw [up_r (by decide)])); omega), (Or.inl (by omega)), (fun j hj => by
        repeat (first | rw [up_k (show j ≠ _ by omega)] | rw [ed209] | rw [ed198] | rw [ed147] | rw [ed111] )), (hl209.col rfl (lAct_v0 (hl111.ok (by omega)).1 (hl111.ok (by omega)).2.1 (by omega) (by omega)) (Or.inl (by omega)) (by omega))⟩
            · refine r_iconst (pc := 191) hX 108 rfl ?_
              refine r_goto (pc := 192) hX 109 (tgt := 196) rfl (by decide) ?_
              refine e_iast (pc := 196) hX 111 rfl (a_read hG).2.1 (a_read hG).2.2 (by decide) (by omega) (by omega) ?_
              refine r_aload_n (pc := 197) hX 112 rfl rfl ?_
              refine r_callV (as := []) (st := []) (K := 12) (pc := 198) hX 113 rfl mo_m_go ml_X12_219 im_m_go se_m_go (c_goT g (up v147 182 (3 * (v 178 47)) 0) ρ Z hG  (by (repeat (first | rw [up_k (by decide)] | rw [up_s] | rw [up_r (by decide)])); omega) (hT147.arr (by decide) (by decide))) rfl rfl rfl hG.1 (by rw [hRm]; exact ⟨by decide, by decide⟩) (by rw [hRm]; exact ⟨by decide, by decide⟩) (Nat.le_of_ble_eq_true rfl) (fun o198 v198 ρ198 Z198 hq198 _ => ?_)
              obtain ⟨rfl, rfl, hfr198, rfl, hq198⟩ := hq198
              try simp only [up_f (show (178 : Int) ≠ 182 by decide), up_f (show (180 : Int) ≠ 182 by decide)] at hq198
              have hSInv_198 : SInv (v198 180) := by rw [hfr198.1 180 (by decide) (by decide), up_f (by decide)]; exact hSInv_147
              have hRsI_198 : RsI (v198 184) := by rw [hfr198.1 184 (by decide) (by decide), up_f (by decide)]; exact hRsI_147
              have hk198_3 : v198 178 3 = (v147 178 3) := (hfr198.2 3 (by decide)).trans ((up_r (by decide)).trans (rfl))
              have hk198_5 : v198 178 5 = (v147 178 5) := (hfr198.2 5 (by decide)).trans ((up_r (by decide)).trans (rfl))
              have hk198_18 : v198 178 18 = (v147 178 18) := (hfr198.2 18 (by decide)).trans ((up_r (by decide)).trans (rfl))
              have hk198_47 : v198 178 47 = (v147 178 47) := (hfr198.2 47 (by decide)).trans ((up_r (by decide)).trans (rfl))
              show wp g X F_m_logLine 0 0 201 [(2, 178), (0, (3 * (v 178 47)))] [] v198 ρ Z
              have ed198 : v198 182 = (up v147 182 (3 * (v 178 47)) 0) 182 := hfr198.1 182 (by decide) (by decide)
              have es198 : v198 180 = v 180 := by rw [hfr198.1 180 (by decide) (by decide)]; (repeat rw [up_f (by decide)]); exact es147
              have ez198 : v198 180 0 = v 180 0 ∧ v198 180 2 = v 180 2 := by rw [es198]; exact ⟨rfl, rfl⟩
              have hT198 := hq198.2
              refine r_aload_n (pc := 201) hX 114 rfl rfl ?_
              refine r_iconst (pc := 202) hX 115 rfl ?_
              refine t_getR (pc := 203) hX 116 rfl rfl rfl fl_X12_33 rfl hG.1 (a_s hG).1 ?_
              refine r_iconst (pc := 207) hX 118 rfl ?_
              refine e_iald (y := (v198 180 0)) (pc := 208) hX 119 rfl (a_s hG).2.1 (a_s hG).2.2 (by omega) (by omega) (rfl) ?_
              have hb208 := hSInv_198.c0
              refine r_callV (as := [(0, 0), (0, (v198 180 0))]) (st := []) (K := 12) (pc := 209) hX 120 rfl mo_m_looksAt ml_X12_257 im_m_looksAt se_m_looksAt (c_looksAtL g v198 ρ Z hG (0) ((v198 180 0)) (by (repeat (first | rw [up_k (by decide)] | rw [up_s] | rw [up_r (by decide)])); omega) (hT198) (hRsI_198) (by omega) (fun j a b => by (repeat rw [up_f (by decide)]); rw [hfr198.1 183 (by decide) (by decide), up_f (by decide), hfr147.1 183 (by decide) (by decide), up_f (by decide), hfr111.1 183 (by decide) (by decide)]; exact hNm j a (by omega))) rfl rfl rfl hG.1 (by rw [hRm]; exact ⟨by decide, by decide⟩) (by rw [hRm]; exact ⟨by decide, by decide⟩) (Nat.le_of_ble_eq_true rfl) (fun o209 v209 ρ209 Z209 hq209 _ => ?_)
              obtain ⟨rfl, rfl, hfr209, r209, rfl, hq209⟩ := hq209
              have hSInv_209 : SInv (v209 180) := by rw [hfr209.1 180 (by decide) (by decide)]; exact hSInv_198
              have hRsI_209 : RsI (v209 184) := by rw [hfr209.1 184 (by decide) (by decide)]; exact hRsI_198
              have hk209_3 : v209 178 3 = (v198 178 3) := (hfr209.2 3 (by decide)).trans (rfl)
              have hk209_4 : v209 178 4 = (v198 178 4) := (hfr209.2 4 (by decide)).trans (rfl)
              have hk209_5 : v209 178 5 = (v198 178 5) := (hfr209.2 5 (by decide)).trans (rfl)
              have hk209_11 : v209 178 11 = (v198 178 11) := (hfr209.2 11 (by decide)).trans (rfl)
              have hk209_14 : v209 178 14 = (v198 178 14) := (hfr209.2 14 (by decide)).trans (rfl)
              have hk209_47 : v209 178 47 = (v198 178 47) := (hfr209.2 47 (by decide)).trans (rfl)
              show wp g X F_m_logLine 0 0 212 [(2, 178), (0, (3 * (v 178 47)))] [(0, r209)] v209 ρ Z
              have ed209 : v209 182 = v198 182 := hfr209.1 182 (by decide) (by decide)
              have es209 : v209 180 = v 180 := by rw [hfr209.1 180 (by decide) (by decide)]; (repeat rw [up_f (by decide)]); exact es198
              have ez209 : v209 180 0 = v 180 0 ∧ v209 180 2 = v 180 2 := by rw [es209]; exact ⟨rfl, rfl⟩
              have hl209 := hq209.2.2
              rw [ez198.1] at hl209
              replace hq209 := And.intro hq209.1 hq209.2.1
              first | refine r_if_ne (pc := 212) hX 121 (tgt := 217) rfl (by decide) (⟨by omega, by omega⟩) (fun h212 => ?_) (fun h212 => ?_) | refine r_if_ne_any (pc := 212) hX 121 (tgt := 217) rfl (by decide) ?_ ?_
              · refine t_getR (pc := 217) hX 124 rfl rfl rfl fl_X12_40 rfl hG.1 (a_read hG).1 ?_
                refine r_iload_n (pc := 221) hX 126 rfl rfl ?_
                refine r_iconst (pc := 222) hX 127 rfl ?_
                refine r_iadd (pc := 223) hX 128 rfl ?_
                refine t_getI (y := (v209 178 18)) (pc := 224) hX 129 rfl rfl rfl fl_X12_226 rfl hG.1 (rfl) ?_
                refine e_iast (pc := 228) hX 131 rfl (a_read hG).2.1 (a_read hG).2.2 (by decide) (by omega) (by omega) ?_
                refine r_aload_n (pc := 229) hX 132 rfl rfl ?_
                refine r_callV (as := []) (st := []) (K := 12) (pc := 230) hX 133 rfl mo_m_go ml_X12_219 im_m_go se_m_go (c_goT g (up v209 182 ((3 * (v 178 47)) + 2) (v209 178 18)) ρ Z hG  (by (repeat (first | rw [up_k (by decide)] | rw [up_s] | rw [up_r (by decide)])); omega) ((hl209.ok (by omega)).2.2.arr (by decide) (by decide))) rfl rfl rfl hG.1 (by rw [hRm]; exact ⟨by decide, by decide⟩) (by rw [hRm]; exact ⟨by decide, by decide⟩) (Nat.le_of_ble_eq_true rfl) (fun o230 v230 ρ230 Z230 hq230 _ => ?_)
                obtain ⟨rfl, rfl, hfr230, rfl, hq230⟩ := hq230
                try simp only [up_f (show (178 : Int) ≠ 182 by decide), up_f (show (180 : Int) ≠ 182 by decide)] at hq230
                have hSInv_230 : SInv (v230 180) := by rw [hfr230.1 180 (by decide) (by decide), up_f (by decide)]; exact hSInv_209
                have hRsI_230 : RsI (v230 184) := by rw [hfr230.1 184 (by decide) (by decide), up_f (by decide)]; exact hRsI_209
                have hk230_3 : v230 178 3 = (v209 178 3) := (hfr230.2 3 (by decide)).trans ((up_r (by decide)).trans (rfl))
                have hk230_5 : v230 178 5 = (v209 178 5) := (hfr230.2 5 (by decide)).trans ((up_r (by decide)).trans (rfl))
                have hk230_18 : v230 178 18 = (v209 178 18) := (hfr230.2 18 (by decide)).trans ((up_r (by decide)).trans (rfl))
                have hk230_47 : v230 178 47 = (v209 178 47) := (hfr230.2 47 (by decide)).trans ((up_r (by decide)).trans (rfl))
                show wp g X F_m_logLine 0 0 233 [(2, 178), (0, (3 * (v 178 47)))] [] v230 ρ Z
                have ed230 : v230 182 = (up v209 182 ((3 * (v 178 47)) + 2) (v209 178 18)) 182 := hfr230.1 182 (by decide) (by decide)
                have es230 : v230 180 = v 180 := by rw [hfr230.1 180 (by decide) (by decide)]; (repeat rw [up_f (by decide)]); exact es209
                have ez230 : v230 180 0 = v 180 0 ∧ v230 180 2 = v 180 2 := by rw [es230]; exact ⟨rfl, rfl⟩
                have hT230 := hq230.2
                have hg230 := (hl209.ok (by omega)).2.2.adv hq230.2 (by omega)
                refine r_iconst (pc := 233) hX 134 rfl ?_
                exact r_zret (pc := 234) hX 135 hQ rfl rfl ⟨by omega, by omega⟩ (Nat.le_refl 0) (Nat.le_refl 0) ⟨rfl, rfl, ((((((((Fr.rf).tr hfr111 (by decide) (by decide)).arr (r := 182) (by decide) (by decide)).tr hfr147 (by decide) (by decide)).arr (r := 182) (by decide) (by decide)).tr hfr198 (by decide) (by decide)).tr hfr209 (by decide) (by decide)).arr (r := 182) (by decide) (by decide)).tr hfr230 (by decide) (by decide), 1, rfl, (by (repeat (first | rw [up_k (by decide)] | rw [up_s] | rw [up_r (by decide)])); omega), (Or.inr ⟨rfl, by omega, RdL.mk01 (by (repeat (first | rw [up_s] | rw [up_k (by omega)] | rw [ed230] | rw [ed209] | rw [ed198] | rw [ed147] | rw [ed111] )); first | exact Or.inl rfl | exact Or.inr rfl) (by (repeat (first | rw [up_s] | rw [up_k (by omega)] | rw [ed230] | rw [ed209] | rw [ed198] | rw [ed147] | rw [ed111] )); omega) (by (repeat (first | rw [up_s] | rw [up_k (by omega)] | rw [ed230] | rw [ed209] | rw [ed198] | rw [ed147] | rw [ed111] )); omega) (by (repeat (first | rw [up_s] | rw [up_k (by omega)] | rw [ed230] | rw [ed209] | rw [ed198] | rw [ed147] | rw [ed111] )); omega) (by (repeat (first | rw [up_s] | rw [up_k (by omega)] | rw [ed230] | rw [ed209] | rw [ed198] | rw [ed147] | rw [ed111] )); omega), by (repeat (first | rw [up_k (by decide)] | rw [up_s] | rw [up_r (by decide)])); omega⟩), (fun j hj => by
        repeat (first | rw [up_k (show j ≠ _ by omega)] | rw [ed230] | rw [ed209] | rw [ed198] | rw [ed147] | rw [ed111] )), (LlM.good (lLine_c (lAct_v0 (hl111.ok (by omega)).1 (hl111.ok (by omega)).2.1 (by omega) (by omega)) (lCol_0 (hl209.ok (by omega)).1 (hl209.ok (by omega)).2.1)) hT230)⟩
              · refine r_iconst (pc := 215) hX 122 rfl ?_
                exact r_zret (pc := 216) hX 123 hQ rfl rfl ⟨by omega, by omega⟩ (Nat.le_refl 0) (Nat.le_refl 0) ⟨rfl, rfl, ((((((Fr.rf).tr hfr111 (by decide) (by decide)).arr (r := 182) (by decide) (by decide)).tr hfr147 (by decide) (by decide)).arr (r := 182) (by decide) (by decide)).tr hfr198 (by decide) (by decide)).tr hfr209 (by decide) (by decide), 0, rfl, (by (repeat (first | rw [up_k (by decide)] | rw [up_s] | rw [up_r (by decide)])); omega), (Or.inl (by omega)), (fun j hj => by
        repeat (first | rw [up_k (show j ≠ _ by omega)] | rw [ed209] | rw [ed198] | rw [ed147] | rw [ed111] )), (hl209.col rfl (lAct_v0 (hl111.ok (by omega)).1 (hl111.ok (by omega)).2.1 (by omega) (by omega)) (Or.inl (by omega)) (by omega))⟩
          · refine r_aload_n (pc := 170) hX 97 rfl rfl ?_
            refine r_iconst (pc := 171) hX 98 rfl ?_
            refine r_callV (as := [(0, 1)]) (st := []) (K := 12) (pc := 172) hX 99 rfl mo_m_bad ml_X12_216 im_m_bad se_m_bad (c_badF g v147 ρ Z hG (1) (by omega)) rfl rfl rfl hG.1 (by rw [hRm]; exact ⟨by decide, by decide⟩) (by rw [hRm]; exact ⟨by decide, by decide⟩) (Nat.le_of_ble_eq_true rfl) (fun o172 v172 ρ172 Z172 hq172 _ => ?_)
            obtain ⟨rfl, rfl, hfr172, r172, rfl, hq172⟩ := hq172
            have hSInv_172 : SInv (v172 180) := by rw [hfr172.1 180 (by decide) (by decide)]; exact hSInv_147
            have hRsI_172 : RsI (v172 184) := by rw [hfr172.1 184 (by decide) (by decide)]; exact hRsI_147
            have hk172_3 : v172 178 3 = (v147 178 3) := (hfr172.2 3 (by decide)).trans (rfl)
            have hk172_4 : v172 178 4 = (v147 178 4) := (hfr172.2 4 (by decide)).trans (rfl)
            have hk172_5 : v172 178 5 = (v147 178 5) := (hfr172.2 5 (by decide)).trans (rfl)
            have hk172_11 : v172 178 11 = (v147 178 11) := (hfr172.2 11 (by decide)).trans (rfl)
            have hk172_14 : v172 178 14 = (v147 178 14) := (hfr172.2 14 (by decide)).trans (rfl)
            have hk172_18 : v172 178 18 = (v147 178 18) := (hfr172.2 18 (by decide)).trans (rfl)
            have hk172_47 : v172 178 47 = (v147 178 47) := (hfr172.2 47 (by decide)).trans (rfl)
            show wp g X F_m_logLine 0 0 175 [(2, 178), (0, (3 * (v 178 47)))] [(0, r172)] v172 ρ Z
            have ed172 : v172 182 = v147 182 := hfr172.1 182 (by decide) (by decide)
            have es172 : v172 180 = v 180 := by rw [hfr172.1 180 (by decide) (by decide)]; (repeat rw [up_f (by decide)]); exact es147
            have ez172 : v172 180 0 = v 180 0 ∧ v172 180 2 = v 180 2 := by rw [es172]; exact ⟨rfl, rfl⟩
            exact r_zret (pc := 175) hX 100 hQ rfl rfl ⟨by omega, by omega⟩ (Nat.le_refl 0) (Nat.le_refl 0) ⟨rfl, rfl, ((((Fr.rf).tr hfr111 (by decide) (by decide)).arr (r := 182) (by decide) (by decide)).tr hfr147 (by decide) (by decide)).tr hfr172 (by decide) (by decide), r172, rfl, (by (repeat (first | rw [up_k (by decide)] | rw [up_s] | rw [up_r (by decide)])); omega), (Or.inl (by omega)), (fun j hj => by
        repeat (first | rw [up_k (show j ≠ _ by omega)] | rw [ed172] | rw [ed147] | rw [ed111] )), (by rw [hq172.1]; exact LlM.bad (lLine_a (lAct_v1 (hl111.ok (by omega)).1 (hl111.ok (by omega)).2.1 (by omega) (by omega)) (by decide)) (by decide) hq172.2.1 (hq172.2.2.trans hT147.2.2.2.2.2.2.2.1))⟩
      · refine r_aload_n (pc := 128) hX 75 rfl rfl ?_
        refine r_iconst (pc := 129) hX 76 rfl ?_
        refine r_callV (as := [(0, 4)]) (st := []) (K := 12) (pc := 130) hX 77 rfl mo_m_bad ml_X12_216 im_m_bad se_m_bad (c_badF g v111 ρ Z hG (4) (by omega)) rfl rfl rfl hG.1 (by rw [hRm]; exact ⟨by decide, by decide⟩) (by rw [hRm]; exact ⟨by decide, by decide⟩) (Nat.le_of_ble_eq_true rfl) (fun o130 v130 ρ130 Z130 hq130 _ => ?_)
        obtain ⟨rfl, rfl, hfr130, r130, rfl, hq130⟩ := hq130
        have hSInv_130 : SInv (v130 180) := by rw [hfr130.1 180 (by decide) (by decide)]; exact hSInv_111
        have hRsI_130 : RsI (v130 184) := by rw [hfr130.1 184 (by decide) (by decide)]; exact hRsI_111
        have hk130_3 : v130 178 3 = (v111 178 3) := (hfr130.2 3 (by decide)).trans (rfl)
        have hk130_4 : v130 178 4 = (v111 178 4) := (hfr130.2 4 (by decide)).trans (rfl)
        have hk130_5 : v130 178 5 = (v111 178 5) := (hfr130.2 5 (by decide)).trans (rfl)
        have hk130_11 : v130 178 11 = (v111 178 11) := (hfr130.2 11 (by decide)).trans (rfl)
        have hk130_14 : v130 178 14 = (v111 178 14) := (hfr130.2 14 (by decide)).trans (rfl)
        have hk130_18 : v130 178 18 = (v111 178 18) := (hfr130.2 18 (by decide)).trans (rfl)
        have hk130_47 : v130 178 47 = (v111 178 47) := (hfr130.2 47 (by decide)).trans (rfl)
        show wp g X F_m_logLine 0 0 133 [(2, 178), (0, (3 * (v 178 47)))] [(0, r130)] v130 ρ Z
        have ed130 : v130 182 = v111 182 := hfr130.1 182 (by decide) (by decide)
        have es130 : v130 180 = v 180 := by rw [hfr130.1 180 (by decide) (by decide)]; (repeat rw [up_f (by decide)]); exact es111
        have ez130 : v130 180 0 = v 180 0 ∧ v130 180 2 = v 180 2 := by rw [es130]; exact ⟨rfl, rfl⟩
        exact r_zret (pc := 133) hX 78 hQ rfl rfl ⟨by omega, by omega⟩ (Nat.le_refl 0) (Nat.le_refl 0) ⟨rfl, rfl, ((Fr.rf).tr hfr111 (by decide) (by decide)).tr hfr130 (by decide) (by decide), r130, rfl, (by (repeat (first | rw [up_k (by decide)] | rw [up_s] | rw [up_r (by decide)])); omega), (Or.inl (by omega)), (fun j hj => by
        repeat (first | rw [up_k (show j ≠ _ by omega)] | rw [ed130] | rw [ed111] )), (by rw [hq130.1]; exact LlM.bad (lLine_a (lAct_4 (hl111.ok (by omega)).1 (hl111.ok (by omega)).2.1 (by omega)) (by decide)) (by decide) hq130.2.1 (hq130.2.2.trans (hl111.ok (by omega)).2.2.2.2.2.2.2.2.2.1))⟩
    · refine r_iconst (pc := 117) hX 69 rfl ?_
      exact r_zret (pc := 118) hX 70 hQ rfl rfl ⟨by omega, by omega⟩ (Nat.le_refl 0) (Nat.le_refl 0) ⟨rfl, rfl, (Fr.rf).tr hfr111 (by decide) (by decide), 0, rfl, (by (repeat (first | rw [up_k (by decide)] | rw [up_s] | rw [up_r (by decide)])); omega), (Or.inl (by omega)), (fun j hj => by
        repeat (first | rw [up_k (show j ≠ _ by omega)] | rw [ed111] )), (hl111.who rfl (by omega) (by omega))⟩
  · refine t_getI (y := (v 178 47)) (pc := 17) hX 9 rfl rfl rfl fl_X12_477 rfl hG.1 (rfl) ?_
    refine r_bipush (pc := 21) hX 11 rfl (by decide) ?_
    first | refine r_icmp_ne (pc := 23) hX 12 (tgt := 32) rfl (by decide) (⟨by omega, by omega⟩) (⟨by omega, by omega⟩) (fun h23 => ?_) (fun h23 => ?_) | refine r_icmp_ne_any (pc := 23) hX 12 (tgt := 32) rfl (by decide) ?_ ?_
    · refine r_aload_n (pc := 32) hX 17 rfl rfl ?_
      refine r_callV (as := []) (st := []) (K := 12) (pc := 33) hX 18 rfl mo_m_go ml_X12_219 im_m_go se_m_go (c_goT g v ρ Z hG  (by (repeat (first | rw [up_k (by decide)] | rw [up_s] | rw [up_r (by decide)])); omega) (hT)) rfl rfl rfl hG.1 (by rw [hRm]; exact ⟨by decide, by decide⟩) (by rw [hRm]; exact ⟨by decide, by decide⟩) (Nat.le_of_ble_eq_true rfl) (fun o33 v33 ρ33 Z33 hq33 _ => ?_)
      obtain ⟨rfl, rfl, hfr33, rfl, hq33⟩ := hq33
      have hSInv_33 : SInv (v33 180) := by rw [hfr33.1 180 (by decide) (by decide)]; exact hS
      have hRsI_33 : RsI (v33 184) := by rw [hfr33.1 184 (by decide) (by decide)]; exact hrs
      have hk33_3 : v33 178 3 = (v 178 3) := (hfr33.2 3 (by decide)).trans (rfl)
      have hk33_5 : v33 178 5 = (v 178 5) := (hfr33.2 5 (by decide)).trans (rfl)
      have hk33_18 : v33 178 18 = (v 178 18) := (hfr33.2 18 (by decide)).trans (rfl)
      have hk33_47 : v33 178 47 = (v 178 47) := (hfr33.2 47 (by decide)).trans (rfl)
      show wp g X F_m_logLine 0 0 36 [(2, 178), (0, (3 * (v 178 47)))] [] v33 ρ Z
      have ed33 : v33 182 = v 182 := hfr33.1 182 (by decide) (by decide)
      have es33 : v33 180 = v 180 := by rw [hfr33.1 180 (by decide) (by decide)]; (repeat rw [up_f (by decide)])
      have ez33 : v33 180 0 = v 180 0 ∧ v33 180 2 = v 180 2 := by rw [es33]; exact ⟨rfl, rfl⟩
      have hT33 := hq33.2
      refine t_getR (pc := 36) hX 19 rfl rfl rfl fl_X12_40 rfl hG.1 (a_read hG).1 ?_
      refine r_iload_n (pc := 40) hX 21 rfl rfl ?_
      refine r_iconst (pc := 41) hX 22 rfl ?_
      refine e_iast (pc := 42) hX 23 rfl (a_read hG).2.1 (a_read hG).2.2 (by decide) (by omega) (by omega) ?_
      refine t_getR (pc := 43) hX 24 rfl rfl rfl fl_X12_40 rfl hG.1 (a_read hG).1 ?_
      refine r_iload_n (pc := 47) hX 26 rfl rfl ?_
      refine r_iconst (pc := 48) hX 27 rfl ?_
      refine r_iadd (pc := 49) hX 28 rfl ?_
      refine r_iconst (pc := 50) hX 29 rfl ?_
      refine e_iast (pc := 51) hX 30 rfl (a_read hG).2.1 (a_read hG).2.2 (by decide) (by omega) (by omega) ?_
      refine r_aload_n (pc := 52) hX 31 rfl rfl ?_
      refine r_ldc2 (y := 1735550329) (pc := 53) hX 32 rfl kl_X12_150 (by decide) ?_
      refine r_callV (as := [(1, 1735550329)]) (st := []) (K := 12) (pc := 56) hX 33 rfl mo_m_isWord ml_X12_247 im_m_isWord se_m_isWord (c_isWordT g (up (up v33 182 (3 * (v 178 47)) 2) 182 ((3 * (v 178 47)) + 1) 4) ρ Z hG (1735550329) ((hT33.arr (by decide) (by decide)).arr (by decide) (by decide)) (by (repeat (first | rw [up_k (by decide)] | rw [up_s] | rw [up_r (by decide)])); omega) (by decide)) rfl rfl rfl hG.1 (by rw [hRm]; exact ⟨by decide, by decide⟩) (by rw [hRm]; exact ⟨by decide, by decide⟩) (Nat.le_of_ble_eq_true rfl) (fun o56 v56 ρ56 Z56 hq56 _ => ?_)
      obtain ⟨rfl, rfl, rfl, r56, rfl, hq56⟩ := hq56
      try simp only [up_f (show (178 : Int) ≠ 182 by decide), up_f (show (180 : Int) ≠ 182 by decide)] at hq56
      show wp g X F_m_logLine 0 0 59 [(2, 178), (0, (3 * (v 178 47)))] [(0, r56)] (up (up v33 182 (3 * (v 178 47)) 2) 182 ((3 * (v 178 47)) + 1) 4) ρ Z
      have hk56 := ky_of hT33 10 (by decide) (by decide) hq56
      replace hq56 := Hd.i hq56
      first | refine r_if_eq (pc := 59) hX 34 (tgt := 68) rfl (by decide) (⟨by omega, by omega⟩) (fun h59 => ?_) (fun h59 => ?_) | refine r_if_eq_any (pc := 59) hX 34 (tgt := 68) rfl (by decide) ?_ ?_
      · refine r_aload_n (pc := 68) hX 39 rfl rfl ?_
        refine r_iconst (pc := 69) hX 40 rfl ?_
        refine t_getR (pc := 70) hX 41 rfl rfl rfl fl_X12_33 rfl hG.1 (a_s hG).1 ?_
        refine r_iconst (pc := 74) hX 43 rfl ?_
        refine e_iald (y := (v33 180 0)) (pc := 75) hX 44 rfl (a_s hG).2.1 (a_s hG).2.2 (by omega) (by omega) ((up_r (by decide)).trans ((up_r (by decide)).trans (rfl))) ?_
        have hb75 := hSInv_33.c0
        refine r_callV (as := [(0, 0), (0, (v33 180 0))]) (st := []) (K := 12) (pc := 76) hX 45 rfl mo_m_looksAt ml_X12_257 im_m_looksAt se_m_looksAt (c_looksAtL g (up (up v33 182 (3 * (v 178 47)) 2) 182 ((3 * (v 178 47)) + 1) 4) ρ Z hG (0) ((v33 180 0)) (by (repeat (first | rw [up_k (by decide)] | rw [up_s] | rw [up_r (by decide)])); omega) ((hT33.arr (by decide) (by decide)).arr (by decide) (by decide)) (by rw [up_f (by decide), up_f (by decide)]; exact hRsI_33) (by omega) (fun j a b => by (repeat rw [up_f (by decide)]); rw [hfr33.1 183 (by decide) (by decide)]; exact hNm j a (by omega))) rfl rfl rfl hG.1 (by rw [hRm]; exact ⟨by decide, by decide⟩) (by rw [hRm]; exact ⟨by decide, by decide⟩) (Nat.le_of_ble_eq_true rfl) (fun o76 v76 ρ76 Z76 hq76 _ => ?_)
        obtain ⟨rfl, rfl, hfr76, r76, rfl, hq76⟩ := hq76
        try simp only [up_f (show (178 : Int) ≠ 182 by decide), up_f (show (180 : Int) ≠ 182 by decide)] at hq76
        have hSInv_76 : SInv (v76 180) := by rw [hfr76.1 180 (by decide) (by decide), up_f (by decide), up_f (by decide)]; exact hSInv_33
        have hRsI_76 : RsI (v76 184) := by rw [hfr76.1 184 (by decide) (by decide), up_f (by decide), up_f (by decide)]; exact hRsI_33
        have hk76_3 : v76 178 3 = (v33 178 3) := (hfr76.2 3 (by decide)).trans ((up_r (by decide)).trans ((up_r (by decide)).trans (rfl)))
        have hk76_4 : v76 178 4 = (v33 178 4) := (hfr76.2 4 (by decide)).trans ((up_r (by decide)).trans ((up_r (by decide)).trans (rfl)))
        have hk76_5 : v76 178 5 = (v33 178 5) := (hfr76.2 5 (by decide)).trans ((up_r (by decide)).trans ((up_r (by decide)).trans (rfl)))
        have hk76_11 : v76 178 11 = (v33 178 11) := (hfr76.2 11 (by decide)).trans ((up_r (by decide)).trans ((up_r (by decide)).trans (rfl)))
        have hk76_14 : v76 178 14 = (v33 178 14) := (hfr76.2 14 (by decide)).trans ((up_r (by decide)).trans ((up_r (by decide)).trans (rfl)))
        have hk76_47 : v76 178 47 = (v33 178 47) := (hfr76.2 47 (by decide)).trans ((up_r (by decide)).trans ((up_r (by decide)).trans (rfl)))
        show wp g X F_m_logLine 0 0 79 [(2, 178), (0, (3 * (v 178 47)))] [(0, r76)] v76 ρ Z
        have ed76 : v76 182 = (up (up v33 182 (3 * (v 178 47)) 2) 182 ((3 * (v 178 47)) + 1) 4) 182 := hfr76.1 182 (by decide) (by decide)
        have es76 : v76 180 = v 180 := by rw [hfr76.1 180 (by decide) (by decide)]; (repeat rw [up_f (by decide)]); exact es33
        have ez76 : v76 180 0 = v 180 0 ∧ v76 180 2 = v 180 2 := by rw [es76]; exact ⟨rfl, rfl⟩
        have hl76 := hq76.2.2
        rw [ez33.1] at hl76
        replace hq76 := And.intro hq76.1 hq76.2.1
        first | refine r_if_ne (pc := 79) hX 46 (tgt := 84) rfl (by decide) (⟨by omega, by omega⟩) (fun h79 => ?_) (fun h79 => ?_) | refine r_if_ne_any (pc := 79) hX 46 (tgt := 84) rfl (by decide) ?_ ?_
        · refine t_getR (pc := 84) hX 49 rfl rfl rfl fl_X12_40 rfl hG.1 (a_read hG).1 ?_
          refine r_iload_n (pc := 88) hX 51 rfl rfl ?_
          refine r_iconst (pc := 89) hX 52 rfl ?_
          refine r_iadd (pc := 90) hX 53 rfl ?_
          refine t_getI (y := (v76 178 18)) (pc := 91) hX 54 rfl rfl rfl fl_X12_226 rfl hG.1 (rfl) ?_
          refine e_iast (pc := 95) hX 56 rfl (a_read hG).2.1 (a_read hG).2.2 (by decide) (by omega) (by omega) ?_
          refine r_aload_n (pc := 96) hX 57 rfl rfl ?_
          refine r_callV (as := []) (st := []) (K := 12) (pc := 97) hX 58 rfl mo_m_go ml_X12_219 im_m_go se_m_go (c_goT g (up v76 182 ((3 * (v 178 47)) + 1) (v76 178 18)) ρ Z hG  (by (repeat (first | rw [up_k (by decide)] | rw [up_s] | rw [up_r (by decide)])); omega) ((hl76.ok (by omega)).2.2.arr (by decide) (by decide))) rfl rfl rfl hG.1 (by rw [hRm]; exact ⟨by decide, by decide⟩) (by rw [hRm]; exact ⟨by decide, by decide⟩) (Nat.le_of_ble_eq_true rfl) (fun o97 v97 ρ97 Z97 hq97 _ => ?_)
          obtain ⟨rfl, rfl, hfr97, rfl, hq97⟩ := hq97
          try simp only [up_f (show (178 : Int) ≠ 182 by decide), up_f (show (180 : Int) ≠ 182 by decide)] at hq97
          have hSInv_97 : SInv (v97 180) := by rw [hfr97.1 180 (by decide) (by decide), up_f (by decide)]; exact hSInv_76
          have hRsI_97 : RsI (v97 184) := by rw [hfr97.1 184 (by decide) (by decide), up_f (by decide)]; exact hRsI_76
          have hk97_3 : v97 178 3 = (v76 178 3) := (hfr97.2 3 (by decide)).trans ((up_r (by decide)).trans (rfl))
          have hk97_5 : v97 178 5 = (v76 178 5) := (hfr97.2 5 (by decide)).trans ((up_r (by decide)).trans (rfl))
          have hk97_18 : v97 178 18 = (v76 178 18) := (hfr97.2 18 (by decide)).trans ((up_r (by decide)).trans (rfl))
          have hk97_47 : v97 178 47 = (v76 178 47) := (hfr97.2 47 (by decide)).trans ((up_r (by decide)).trans (rfl))
          show wp g X F_m_logLine 0 0 100 [(2, 178), (0, (3 * (v 178 47)))] [] v97 ρ Z
          have ed97 : v97 182 = (up v76 182 ((3 * (v 178 47)) + 1) (v76 178 18)) 182 := hfr97.1 182 (by decide) (by decide)
          have es97 : v97 180 = v 180 := by rw [hfr97.1 180 (by decide) (by decide)]; (repeat rw [up_f (by decide)]); exact es76
          have ez97 : v97 180 0 = v 180 0 ∧ v97 180 2 = v 180 2 := by rw [es97]; exact ⟨rfl, rfl⟩
          have hT97 := hq97.2
          have hg97 := (hl76.ok (by omega)).2.2.adv hq97.2 (by omega)
          refine r_iconst (pc := 100) hX 59 rfl ?_
          exact r_zret (pc := 101) hX 60 hQ rfl rfl ⟨by omega, by omega⟩ (Nat.le_refl 0) (Nat.le_refl 0) ⟨rfl, rfl, ((((((Fr.rf).tr hfr33 (by decide) (by decide)).arr (r := 182) (by decide) (by decide)).arr (r := 182) (by decide) (by decide)).tr hfr76 (by decide) (by decide)).arr (r := 182) (by decide) (by decide)).tr hfr97 (by decide) (by decide), 1, rfl, (by (repeat (first | rw [up_k (by decide)] | rw [up_s] | rw [up_r (by decide)])); omega), (Or.inr ⟨rfl, by omega, RdL.mk2 (by (repeat (first | rw [up_s] | rw [up_k (by omega)] | rw [ed97] | rw [ed76] | rw [ed33] ))) (by (repeat (first | rw [up_s] | rw [up_k (by omega)] | rw [ed97] | rw [ed76] | rw [ed33] )); omega) (by (repeat (first | rw [up_s] | rw [up_k (by omega)] | rw [ed97] | rw [ed76] | rw [ed33] )); omega), by (repeat (first | rw [up_k (by decide)] | rw [up_s] | rw [up_r (by decide)])); omega⟩), (fun j hj => by
        repeat (first | rw [up_k (show j ≠ _ by omega)] | rw [ed97] | rw [ed76] | rw [ed33] )), (LlM.good (lLine_c (lAct_c0 (by omega) (by omega)) (lCol_0 (hl76.ok (by omega)).1 (hl76.ok (by omega)).2.1)) hT97)⟩
        · refine r_iconst (pc := 82) hX 47 rfl ?_
          exact r_zret (pc := 83) hX 48 hQ rfl rfl ⟨by omega, by omega⟩ (Nat.le_refl 0) (Nat.le_refl 0) ⟨rfl, rfl, ((((Fr.rf).tr hfr33 (by decide) (by decide)).arr (r := 182) (by decide) (by decide)).arr (r := 182) (by decide) (by decide)).tr hfr76 (by decide) (by decide), 0, rfl, (by (repeat (first | rw [up_k (by decide)] | rw [up_s] | rw [up_r (by decide)])); omega), (Or.inl (by omega)), (fun j hj => by
        repeat (first | rw [up_k (show j ≠ _ by omega)] | rw [ed76] | rw [ed33] )), (hl76.col rfl (lAct_c0 (by omega) (by omega)) (Or.inr (by omega)) (by omega))⟩
      · refine r_aload_n (pc := 62) hX 35 rfl rfl ?_
        refine r_callV (as := []) (st := []) (K := 12) (pc := 63) hX 36 rfl mo_m_go ml_X12_219 im_m_go se_m_go (c_goT g (up (up v33 182 (3 * (v 178 47)) 2) 182 ((3 * (v 178 47)) + 1) 4) ρ Z hG  (by (repeat (first | rw [up_k (by decide)] | rw [up_s] | rw [up_r (by decide)])); omega) ((hT33.arr (by decide) (by decide)).arr (by decide) (by decide))) rfl rfl rfl hG.1 (by rw [hRm]; exact ⟨by decide, by decide⟩) (by rw [hRm]; exact ⟨by decide, by decide⟩) (Nat.le_of_ble_eq_true rfl) (fun o63 v63 ρ63 Z63 hq63 _ => ?_)
        obtain ⟨rfl, rfl, hfr63, rfl, hq63⟩ := hq63
        try simp only [up_f (show (178 : Int) ≠ 182 by decide), up_f (show (180 : Int) ≠ 182 by decide)] at hq63
        have hSInv_63 : SInv (v63 180) := by rw [hfr63.1 180 (by decide) (by decide), up_f (by decide), up_f (by decide)]; exact hSInv_33
        have hRsI_63 : RsI (v63 184) := by rw [hfr63.1 184 (by decide) (by decide), up_f (by decide), up_f (by decide)]; exact hRsI_33
        have hk63_3 : v63 178 3 = (v33 178 3) := (hfr63.2 3 (by decide)).trans ((up_r (by decide)).trans ((up_r (by decide)).trans (rfl)))
        have hk63_5 : v63 178 5 = (v33 178 5) := (hfr63.2 5 (by decide)).trans ((up_r (by decide)).trans ((up_r (by decide)).trans (rfl)))
        have hk63_18 : v63 178 18 = (v33 178 18) := (hfr63.2 18 (by decide)).trans ((up_r (by decide)).trans ((up_r (by decide)).trans (rfl)))
        have hk63_47 : v63 178 47 = (v33 178 47) := (hfr63.2 47 (by decide)).trans ((up_r (by decide)).trans ((up_r (by decide)).trans (rfl)))
        show wp g X F_m_logLine 0 0 66 [(2, 178), (0, (3 * (v 178 47)))] [] v63 ρ Z
        have ed63 : v63 182 = (up (up v33 182 (3 * (v 178 47)) 2) 182 ((3 * (v 178 47)) + 1) 4) 182 := hfr63.1 182 (by decide) (by decide)
        have es63 : v63 180 = v 180 := by rw [hfr63.1 180 (by decide) (by decide)]; (repeat rw [up_f (by decide)]); exact es33
        have ez63 : v63 180 0 = v 180 0 ∧ v63 180 2 = v 180 2 := by rw [es63]; exact ⟨rfl, rfl⟩
        have hT63 := hq63.2
        have hg63 := hT33.adv hq63.2 (by omega)
        refine r_iconst (pc := 66) hX 37 rfl ?_
        exact r_zret (pc := 67) hX 38 hQ rfl rfl ⟨by omega, by omega⟩ (Nat.le_refl 0) (Nat.le_refl 0) ⟨rfl, rfl, ((((Fr.rf).tr hfr33 (by decide) (by decide)).arr (r := 182) (by decide) (by decide)).arr (r := 182) (by decide) (by decide)).tr hfr63 (by decide) (by decide), 1, rfl, (by (repeat (first | rw [up_k (by decide)] | rw [up_s] | rw [up_r (by decide)])); omega), (Or.inr ⟨rfl, by omega, RdL.mk2 (by (repeat (first | rw [up_s] | rw [up_k (by omega)] | rw [ed63] | rw [ed33] ))) (by (repeat (first | rw [up_s] | rw [up_k (by omega)] | rw [ed63] | rw [ed33] )); omega) (by (repeat (first | rw [up_s] | rw [up_k (by omega)] | rw [ed63] | rw [ed33] )); omega), by (repeat (first | rw [up_k (by decide)] | rw [up_s] | rw [up_r (by decide)])); omega⟩), (fun j hj => by
        repeat (first | rw [up_k (show j ≠ _ by omega)] | rw [ed63] | rw [ed33] )), (LlM.good (lLine_c (lAct_c0 (by omega) (by omega)) (by rw [decide_eq_true (show ky F n m p = 9 by omega)]; exact lCol_g (by omega))) hT63)⟩
    · refine r_aload_n (pc := 26) hX 13 rfl rfl ?_
      refine r_iconst (pc := 27) hX 14 rfl ?_
      refine r_callV (as := [(0, 4)]) (st := []) (K := 12) (pc := 28) hX 15 rfl mo_m_bad ml_X12_216 im_m_bad se_m_bad (c_badF g v ρ Z hG (4) (by omega)) rfl rfl rfl hG.1 (by rw [hRm]; exact ⟨by decide, by decide⟩) (by rw [hRm]; exact ⟨by decide, by decide⟩) (Nat.le_of_ble_eq_true rfl) (fun o28 v28 ρ28 Z28 hq28 _ => ?_)
      obtain ⟨rfl, rfl, hfr28, r28, rfl, hq28⟩ := hq28
      have hSInv_28 : SInv (v28 180) := by rw [hfr28.1 180 (by decide) (by decide)]; exact hS
      have hRsI_28 : RsI (v28 184) := by rw [hfr28.1 184 (by decide) (by decide)]; exact hrs
      have hk28_3 : v28 178 3 = (v 178 3) := (hfr28.2 3 (by decide)).trans (rfl)
      have hk28_4 : v28 178 4 = (v 178 4) := (hfr28.2 4 (by decide)).trans (rfl)
      have hk28_5 : v28 178 5 = (v 178 5) := (hfr28.2 5 (by decide)).trans (rfl)
      have hk28_11 : v28 178 11 = (v 178 11) := (hfr28.2 11 (by decide)).trans (rfl)
      have hk28_14 : v28 178 14 = (v 178 14) := (hfr28.2 14 (by decide)).trans (rfl)
      have hk28_18 : v28 178 18 = (v 178 18) := (hfr28.2 18 (by decide)).trans (rfl)
      have hk28_47 : v28 178 47 = (v 178 47) := (hfr28.2 47 (by decide)).trans (rfl)
      show wp g X F_m_logLine 0 0 31 [(2, 178), (0, (3 * (v 178 47)))] [(0, r28)] v28 ρ Z
      have ed28 : v28 182 = v 182 := hfr28.1 182 (by decide) (by decide)
      have es28 : v28 180 = v 180 := by rw [hfr28.1 180 (by decide) (by decide)]; (repeat rw [up_f (by decide)])
      have ez28 : v28 180 0 = v 180 0 ∧ v28 180 2 = v 180 2 := by rw [es28]; exact ⟨rfl, rfl⟩
      exact r_zret (pc := 31) hX 16 hQ rfl rfl ⟨by omega, by omega⟩ (Nat.le_refl 0) (Nat.le_refl 0) ⟨rfl, rfl, (Fr.rf).tr hfr28 (by decide) (by decide), r28, rfl, (by (repeat (first | rw [up_k (by decide)] | rw [up_s] | rw [up_r (by decide)])); omega), (Or.inl (by omega)), (fun j hj => by
        repeat (first | rw [up_k (show j ≠ _ by omega)] | rw [ed28] )), (by rw [hq28.1]; exact LlM.bad (lLine_a (lAct_c4 (by omega) (by omega)) (by decide)) (by decide) hq28.2.1 (hq28.2.2.trans h12))⟩
