set_option maxHeartbeats 4000000 in
set_option maxRecDepth 100000 in
theorem c_isTaken (g : Gp) (v ρ : Mv) (Z : Mz) (hG : GM ρ Z) (c many : Int) (hS : SInv (v 180)) (hm : 0 ≤ many ∧ many ≤ 3) : Ok g 2 0 0 F_m_isTaken [(2, 178), (0, c), (0, many)] v ρ Z (fun o v' ρ' Z' => ρ = ρ' ∧ Z = Z' ∧ v = v' ∧ ∃ r : Int, o = some (0, r) ∧ (0 ≤ r ∧ r ≤ 1)) := by
  refine Ok.of mo_m_isTaken (Nat.le_of_ble_eq_true rfl) ?_
  intro X hX hRm hxn hQ
  show wp g X F_m_isTaken 0 0 0 [(2, 178), (0, c), (0, many), (3, 0), (3, 0)] [] v ρ Z
  refine r_aload_n (pc := 0) hX 0 rfl rfl ?_
  refine r_iload_n (pc := 1) hX 1 rfl rfl ?_
  refine r_callV (as := [(0, c)]) (st := []) (K := 12) (pc := 2) hX 2 rfl mo_m_ownerOf ml_X12_284 im_m_ownerOf se_m_ownerOf (c_ownerOf g v ρ Z hG (c) (hS)) rfl rfl rfl hG.1 (by rw [hRm]; exact ⟨by decide, by decide⟩) (by rw [hRm]; exact ⟨by decide, by decide⟩) (Nat.le_of_ble_eq_true rfl) (fun o2 v2 ρ2 Z2 hq2 _ => ?_)
  obtain ⟨rfl, rfl, rfl, r2, rfl, hq2⟩ := hq2
  show wp g X F_m_isTaken 0 0 5 [(2, 178), (0, c), (0, many), (3, 0), (3, 0)] [(0, r2)] v ρ Z
  have L17 : ∀ (n17 : Nat) (is i : Int) , (0 ≤ i ∧ i ≤ many ∧ 0 ≤ is ∧ is ≤ 1) → (many - i).toNat < n17 → wp g X F_m_isTaken 0 0 17 [(2, 178), (0, c), (0, many), (0, is), (0, i)] [] v ρ Z := by
    intro n17
    induction n17 with
    | zero => intro is i ii hme17; exact absurd hme17 (Nat.not_lt_zero _)
    | succ n17 ih17 =>
      intro is i ii hme17
      refine r_iload (pc := 17) hX 10 rfl rfl ?_
      refine r_iload_n (pc := 19) hX 11 rfl rfl ?_
      first | refine r_icmp_ge (pc := 20) hX 12 (tgt := 50) rfl (by decide) (⟨by omega, by omega⟩) (⟨by omega, by omega⟩) (fun h20 => ?_) (fun h20 => ?_) | refine r_icmp_ge_any (pc := 20) hX 12 (tgt := 50) rfl (by decide) ?_ ?_
      · refine r_iload_n (pc := 50) hX 27 rfl rfl ?_
        exact r_zret (pc := 51) hX 28 hQ rfl rfl ⟨by omega, by omega⟩ (Nat.le_refl 0) (Nat.le_refl 0) ⟨rfl, rfl, rfl, is, rfl, (by omega)⟩
      · refine r_iload_n (pc := 23) hX 13 rfl rfl ?_
        first | refine r_if_ne (pc := 24) hX 14 (tgt := 38) rfl (by decide) (⟨by omega, by omega⟩) (fun h24 => ?_) (fun h24 => ?_) | refine r_if_ne_any (pc := 24) hX 14 (tgt := 38) rfl (by decide) ?_ ?_
        · refine r_iconst (pc := 38) hX 21 rfl ?_
          refine r_goto (pc := 39) hX 22 (tgt := 43) rfl (by decide) ?_
          refine r_istore_n (ls' := [(2, 178), (0, c), (0, many), (0, 1), (0, i)]) (pc := 43) hX 24 rfl (by decide) rfl ?_
          refine r_iinc (ls' := [(2, 178), (0, c), (0, many), (0, 1), (0, (i + 1))]) (pc := 44) hX 25 rfl rfl (by decide) rfl ?_
          refine r_goto (pc := 47) hX 26 (tgt := 17) rfl (by decide) ?_
          exact (ih17 1 (i + 1) (by omega) (by omega))
        · refine t_getR (pc := 27) hX 15 rfl rfl rfl fl_X12_80 rfl hG.1 (a_choice hG).1 ?_
          refine r_iload (pc := 31) hX 17 rfl rfl ?_
          refine e_iald (y := (v 195 i)) (pc := 33) hX 18 rfl (a_choice hG).2.1 (a_choice hG).2.2 (by omega) (by omega) (rfl) ?_
          refine r_iload_n (pc := 34) hX 19 rfl rfl ?_
          first | refine r_icmp_ne (pc := 35) hX 20 (tgt := 42) rfl (by decide) (⟨by omega, by omega⟩) (⟨by omega, by omega⟩) (fun h35 => ?_) (fun h35 => ?_) | refine r_icmp_ne_any (pc := 35) hX 20 (tgt := 42) rfl (by decide) ?_ ?_
          · refine r_iconst (pc := 42) hX 23 rfl ?_
            refine r_istore_n (ls' := [(2, 178), (0, c), (0, many), (0, 0), (0, i)]) (pc := 43) hX 24 rfl (by decide) rfl ?_
            refine r_iinc (ls' := [(2, 178), (0, c), (0, many), (0, 0), (0, (i + 1))]) (pc := 44) hX 25 rfl rfl (by decide) rfl ?_
            refine r_goto (pc := 47) hX 26 (tgt := 17) rfl (by decide) ?_
            exact (ih17 0 (i + 1) (by omega) (by omega))
          · refine r_iconst (pc := 38) hX 21 rfl ?_
            refine r_goto (pc := 39) hX 22 (tgt := 43) rfl (by decide) ?_
            refine r_istore_n (ls' := [(2, 178), (0, c), (0, many), (0, 1), (0, i)]) (pc := 43) hX 24 rfl (by decide) rfl ?_
            refine r_iinc (ls' := [(2, 178), (0, c), (0, many), (0, 1), (0, (i + 1))]) (pc := 44) hX 25 rfl rfl (by decide) rfl ?_
            refine r_goto (pc := 47) hX 26 (tgt := 17) rfl (by decide) ?_
            exact (ih17 1 (i + 1) (by omega) (by omega))
  first | refine r_if_lt (pc := 5) hX 3 (tgt := 12) rfl (by decide) (⟨by omega, by omega⟩) (fun h5 => ?_) (fun h5 => ?_) | refine r_if_lt_any (pc := 5) hX 3 (tgt := 12) rfl (by decide) ?_ ?_
  · refine r_iconst (pc := 12) hX 6 rfl ?_
    refine r_istore_n (ls' := [(2, 178), (0, c), (0, many), (0, 0), (3, 0)]) (pc := 13) hX 7 rfl (by decide) rfl ?_
    refine r_iconst (pc := 14) hX 8 rfl ?_
    refine r_istore (ls' := [(2, 178), (0, c), (0, many), (0, 0), (0, 0)]) (pc := 15) hX 9 rfl (by decide) rfl ?_
    exact (L17 _ 0 0 (by omega) (Nat.lt_succ_self _))
  · refine r_iconst (pc := 8) hX 4 rfl ?_
    refine r_goto (pc := 9) hX 5 (tgt := 13) rfl (by decide) ?_
    refine r_istore_n (ls' := [(2, 178), (0, c), (0, many), (0, 1), (3, 0)]) (pc := 13) hX 7 rfl (by decide) rfl ?_
    refine r_iconst (pc := 14) hX 8 rfl ?_
    refine r_istore (ls' := [(2, 178), (0, c), (0, many), (0, 1), (0, 0)]) (pc := 15) hX 9 rfl (by decide) rfl ?_
    exact (L17 _ 1 0 (by omega) (Nat.lt_succ_self _))
set_option maxHeartbeats 4000000 in
set_option maxRecDepth 100000 in
theorem c_likelyBy (g : Gp) (v ρ : Mv) (Z : Mz) (hG : GM ρ Z) (q : Int) (hS : SInv (v 180)) (hH : ChI (v 195)) (hI : CsI (v 194)) (hn : 0 ≤ v 178 35 ∧ v 178 35 ≤ 3) (hq : 0 ≤ q ∧ q ≤ 2) : Ok g 4 0 0 F_m_likelyBy [(2, 178), (0, q)] v ρ Z (fun o v' ρ' Z' => ρ = ρ' ∧ Z = Z' ∧ Fr [185, 186, 189, 190, 191, 192, 193] [31] v v' ∧ ∃ r : Int, o = some (1, r) ∧ (0 < v' 178 31 ∧ v' 178 31 ≤ 240734712102912)) := by
  refine Ok.of mo_m_likelyBy (Nat.le_of_ble_eq_true rfl) ?_
  intro X hX hRm hxn hQ
  show wp g X F_m_likelyBy 0 0 0 [(2, 178), (0, q), (3, 0)] [] v ρ Z
  refine r_aload_n (pc := 0) hX 0 rfl rfl ?_
  refine r_callV (as := []) (st := []) (K := 12) (pc := 1) hX 1 rfl mo_m_weighs ml_X12_319 im_m_weighs se_m_weighs (c_weighs g v ρ Z hG  (hS)) rfl rfl rfl hG.1 (by rw [hRm]; exact ⟨by decide, by decide⟩) (by rw [hRm]; exact ⟨by decide, by decide⟩) (Nat.le_of_ble_eq_true rfl) (fun o1 v1 ρ1 Z1 hq1 _ => ?_)
  obtain ⟨rfl, rfl, hfr1, rfl, hq1⟩ := hq1
  have hSInv_1 : SInv (v1 180) := by rw [hfr1.1 180 (by decide) (by decide)]; exact hS
  have hChI_1 : ChI (v1 195) := by rw [hfr1.1 195 (by decide) (by decide)]; exact hH
  have hCsI_1 : CsI (v1 194) := by rw [hfr1.1 194 (by decide) (by decide)]; exact hI
  have hk1_35 : v1 178 35 = (v 178 35) := (hfr1.2 35 (by decide)).trans (rfl)
  show wp g X F_m_likelyBy 0 0 4 [(2, 178), (0, q), (3, 0)] [] v1 ρ Z
  refine r_aload_n (pc := 4) hX 2 rfl rfl ?_
  refine r_callV (as := []) (st := []) (K := 12) (pc := 5) hX 3 rfl mo_m_asNow ml_X12_301 im_m_asNow se_m_asNow (c_asNow g v1 ρ Z hG  (hSInv_1)) rfl rfl rfl hG.1 (by rw [hRm]; exact ⟨by decide, by decide⟩) (by rw [hRm]; exact ⟨by decide, by decide⟩) (Nat.le_of_ble_eq_true rfl) (fun o5 v5 ρ5 Z5 hq5 _ => ?_)
  obtain ⟨rfl, rfl, hfr5, rfl, hq5⟩ := hq5
  have hSInv_5 : SInv (v5 180) := by rw [hfr5.1 180 (by decide) (by decide)]; exact hSInv_1
  have hChI_5 : ChI (v5 195) := by rw [hfr5.1 195 (by decide) (by decide)]; exact hChI_1
  have hCsI_5 : CsI (v5 194) := by rw [hfr5.1 194 (by decide) (by decide)]; exact hCsI_1
  have hk5_35 : v5 178 35 = (v1 178 35) := (hfr5.2 35 (by decide)).trans (rfl)
  show wp g X F_m_likelyBy 0 0 8 [(2, 178), (0, q), (3, 0)] [] v5 ρ Z
  have hN := nowP hS (hfr1.1 180 (by decide) (by decide)) hq1 (hfr5.1 180 (by decide) (by decide)) (hfr5.1 189 (by decide) (by decide)) hq5
  refine r_iconst (pc := 8) hX 4 rfl ?_
  refine r_istore_n (ls' := [(2, 178), (0, q), (0, 0)]) (pc := 9) hX 5 rfl (by decide) rfl ?_
  have L10 : ∀ (n10 : Nat) (i : Int) (v10 : Mv) , (Fr [185, 186, 189, 190, 191, 192, 193] [31] v v10) → (CsI (v10 194)) → (ChI (v10 195)) → (OwI (v10 186)) → (SInv (v10 180)) → (0 ≤ i ∧ i ≤ 3) → (v10 178 35 = v 178 35) → (v10 185 = v5 185) → (v10 189 = v5 189) → (v10 180 = v5 180) → (3 - i).toNat < n10 → wp g X F_m_likelyBy 0 0 10 [(2, 178), (0, q), (0, i)] [] v10 ρ Z := by
    intro n10
    induction n10 with
    | zero => intro i v10 hfr10 hCsI_10 hChI_10 hOwI_10 hSInv_10 ii e35 e185 e189 e180 hme10; exact absurd hme10 (Nat.not_lt_zero _)
    | succ n10 ih10 =>
      intro i v10 hfr10 hCsI_10 hChI_10 hOwI_10 hSInv_10 ii e35 e185 e189 e180 hme10
      refine r_iload_n (pc := 10) hX 6 rfl rfl ?_
      refine t_getI (y := (v10 178 35)) (pc := 11) hX 7 rfl rfl rfl fl_X12_391 rfl hG.1 (rfl) ?_
      first | refine r_icmp_ge (pc := 15) hX 9 (tgt := 50) rfl (by decide) (⟨by omega, by omega⟩) (⟨by omega, by omega⟩) (fun h15 => ?_) (fun h15 => ?_) | refine r_icmp_ge_any (pc := 15) hX 9 (tgt := 50) rfl (by decide) ?_ ?_
      · refine r_aload_n (pc := 50) hX 28 rfl rfl ?_
        refine r_aload_n (pc := 51) hX 29 rfl rfl ?_
        refine r_callV (as := []) (st := [(2, 178)]) (K := 12) (pc := 52) hX 30 rfl mo_m_carsLeft ml_X12_374 im_m_carsLeft se_m_carsLeft (c_carsLeft g v10 ρ Z hG  (hSInv_10)) rfl rfl rfl hG.1 (by rw [hRm]; exact ⟨by decide, by decide⟩) (by rw [hRm]; exact ⟨by decide, by decide⟩) (Nat.le_of_ble_eq_true rfl) (fun o52 v52 ρ52 Z52 hq52 _ => ?_)
        obtain ⟨rfl, rfl, rfl, r52, rfl, hq52⟩ := hq52
        show wp g X F_m_likelyBy 0 0 55 [(2, 178), (0, q), (0, i)] [(0, r52), (2, 178)] v10 ρ Z
        refine r_aload_n (pc := 55) hX 31 rfl rfl ?_
        refine r_callV (as := []) (st := [(0, r52), (2, 178)]) (K := 12) (pc := 56) hX 32 rfl mo_m_hasEnded ml_X12_307 im_m_hasEnded se_m_hasEnded (c_hasEnded g v10 ρ Z hG  (hSInv_10)) rfl rfl rfl hG.1 (by rw [hRm]; exact ⟨by decide, by decide⟩) (by rw [hRm]; exact ⟨by decide, by decide⟩) (Nat.le_of_ble_eq_true rfl) (fun o56 v56 ρ56 Z56 hq56 _ => ?_)
        obtain ⟨rfl, rfl, rfl, r56, rfl, hq56⟩ := hq56
        show wp g X F_m_likelyBy 0 0 59 [(2, 178), (0, q), (0, i)] [(0, r56), (0, r52), (2, 178)] v10 ρ Z
        refine r_callV (as := [(0, r52), (0, r56)]) (st := []) (K := 12) (pc := 59) hX 33 rfl mo_m_goes ml_X12_377 im_m_goes se_m_goes (c_goes g v10 ρ Z hG (r52) (r56) (hSInv_10) (by rw [e185]; exact hN.1) (hOwI_10) (by rw [e185, e180]; exact hN.2.2.1) (by omega) (by omega) (by rw [hq52.2.2, e189, e180]; exact hN.2.2.2)) rfl rfl rfl hG.1 (by rw [hRm]; exact ⟨by decide, by decide⟩) (by rw [hRm]; exact ⟨by decide, by decide⟩) (Nat.le_of_ble_eq_true rfl) (fun o59 v59 ρ59 Z59 hq59 _ => ?_)
        obtain ⟨rfl, rfl, hfr59, rfl, hq59⟩ := hq59
        have hSInv_59 : SInv (v59 180) := by rw [hfr59.1 180 (by decide) (by decide)]; exact hSInv_10
        have hOwI_59 : OwI (v59 186) := by rw [hfr59.1 186 (by decide) (by decide)]; exact hOwI_10
        have hChI_59 : ChI (v59 195) := by rw [hfr59.1 195 (by decide) (by decide)]; exact hChI_10
        have hCsI_59 : CsI (v59 194) := by rw [hfr59.1 194 (by decide) (by decide)]; exact hCsI_10
        have hk59_35 : v59 178 35 = (v10 178 35) := (hfr59.2 35 (by decide)).trans (rfl)
        show wp g X F_m_likelyBy 0 0 62 [(2, 178), (0, q), (0, i)] [] v59 ρ Z
        refine t_getR (pc := 62) hX 34 rfl rfl rfl fl_X12_71 rfl hG.1 (a_wonBy hG).1 ?_
        refine r_iload_n (pc := 66) hX 36 rfl rfl ?_
        refine e_lald (y := (v59 192 q)) (pc := 67) hX 37 rfl (a_wonBy hG).2.1 (a_wonBy hG).2.2 (by omega) (by omega) (rfl) ?_
        exact r_lret (pc := 68) hX 38 hQ rfl rfl (Nat.le_refl 0) (Nat.le_refl 0) ⟨rfl, rfl, (hfr10).tr hfr59 (by decide) (by decide), (v59 192 q), rfl, (hq59)⟩
      · refine t_getR (pc := 18) hX 10 rfl rfl rfl fl_X12_80 rfl hG.1 (a_choice hG).1 ?_
        refine r_iload_n (pc := 22) hX 12 rfl rfl ?_
        refine e_iald (y := (v10 195 i)) (pc := 23) hX 13 rfl (a_choice hG).2.1 (a_choice hG).2.2 (by omega) (by omega) (rfl) ?_
        have hb23 := hChI_10 i (by omega) (by omega)
        first | refine r_if_lt (pc := 24) hX 14 (tgt := 44) rfl (by decide) (⟨by omega, by omega⟩) (fun h24 => ?_) (fun h24 => ?_) | refine r_if_lt_any (pc := 24) hX 14 (tgt := 44) rfl (by decide) ?_ ?_
        · refine r_iinc (ls' := [(2, 178), (0, q), (0, (i + 1))]) (pc := 44) hX 26 rfl rfl (by decide) rfl ?_
          refine r_goto (pc := 47) hX 27 (tgt := 10) rfl (by decide) ?_
          exact (ih10 (i + 1) v10 (hfr10) (hCsI_10) (hChI_10) (by first | exact hOwI_10 | exact OwI.st hOwI_10 (by omega) (by omega) (by omega)) (hSInv_10) (by omega) ((rfl).trans (by omega)) (by first | rfl | exact e185 | (rw [up_f (by decide)]; first | rfl | exact e185)) (by first | rfl | exact e189 | (rw [up_f (by decide)]; first | rfl | exact e189)) (by first | rfl | exact e180 | (rw [up_f (by decide)]; first | rfl | exact e180)) (by omega))
        · refine t_getR (pc := 27) hX 15 rfl rfl rfl fl_X12_53 rfl hG.1 (a_own hG).1 ?_
          refine t_getR (pc := 31) hX 17 rfl rfl rfl fl_X12_80 rfl hG.1 (a_choice hG).1 ?_
          refine r_iload_n (pc := 35) hX 19 rfl rfl ?_
          refine e_iald (y := (v10 195 i)) (pc := 36) hX 20 rfl (a_choice hG).2.1 (a_choice hG).2.2 (by omega) (by omega) (rfl) ?_
          have hb36 := hChI_10 i (by omega) (by omega)
          refine t_getR (pc := 37) hX 21 rfl rfl rfl fl_X12_77 rfl hG.1 (a_chooser hG).1 ?_
          refine r_iload_n (pc := 41) hX 23 rfl rfl ?_
          refine e_iald (y := (v10 194 i)) (pc := 42) hX 24 rfl (a_chooser hG).2.1 (a_chooser hG).2.2 (by omega) (by omega) (rfl) ?_
          have hb42 := hCsI_10 i (by omega) (by omega)
          refine e_iast (pc := 43) hX 25 rfl (a_own hG).2.1 (a_own hG).2.2 (by decide) (by omega) (by omega) ?_
          refine r_iinc (ls' := [(2, 178), (0, q), (0, (i + 1))]) (pc := 44) hX 26 rfl rfl (by decide) rfl ?_
          refine r_goto (pc := 47) hX 27 (tgt := 10) rfl (by decide) ?_
          exact (ih10 (i + 1) (up v10 186 (v10 195 i) (v10 194 i)) ((hfr10).arr (r := 186) (by decide) (by decide)) (by rw [up_f (by decide)]; exact hCsI_10) (by rw [up_f (by decide)]; exact hChI_10) (by first | exact hOwI_10 | exact OwI.st hOwI_10 (by omega) (by omega) (by omega)) (by rw [up_f (by decide)]; exact hSInv_10) (by omega) (((up_r (by decide)).trans (rfl)).trans (by omega)) (by first | rfl | exact e185 | (rw [up_f (by decide)]; first | rfl | exact e185)) (by first | rfl | exact e189 | (rw [up_f (by decide)]; first | rfl | exact e189)) (by first | rfl | exact e180 | (rw [up_f (by decide)]; first | rfl | exact e180)) (by omega))
  exact (L10 _ 0 v5 (((Fr.rf).tr hfr1 (by decide) (by decide)).tr hfr5 (by decide) (by decide)) (hCsI_5) (hChI_5) (hN.2.1) (hSInv_5) (by omega) ((rfl).trans (by omega)) (by first | rfl | exact e185 | (rw [up_f (by decide)]; first | rfl | exact e185)) (by first | rfl | exact e189 | (rw [up_f (by decide)]; first | rfl | exact e189)) (by first | rfl | exact e180 | (rw [up_f (by decide)]; first | rfl | exact e180)) (Nat.lt_succ_self _))
set_option maxHeartbeats 4000000 in
set_option maxRecDepth 100000 in
theorem c_choosesLast (g : Gp) (v ρ : Mv) (Z : Mz) (hG : GM ρ Z)  (hS : SInv (v 180)) (hH : ChI (v 195)) (hI : CsI (v 194)) (hn : 1 ≤ v 178 35 ∧ v 178 35 ≤ 3) : Ok g 5 0 0 F_m_choosesLast [(2, 178)] v ρ Z (fun o v' ρ' Z' => ρ = ρ' ∧ Z = Z' ∧ Fr [185, 186, 189, 190, 191, 192, 193, 195] [31] v v' ∧ o = none ∧ (ChI (v' 195))) := by
  refine Ok.of mo_m_choosesLast (Nat.le_of_ble_eq_true rfl) ?_
  intro X hX hRm hxn hQ
  show wp g X F_m_choosesLast 0 0 0 [(2, 178), (3, 0), (3, 0), (3, 0), (3, 0), (3, 0), (3, 0), (3, 0)] [] v ρ Z
  have hb0 := hS.c0
  refine t_getI (y := (v 178 35)) (pc := 0) hX 0 rfl rfl rfl fl_X12_391 rfl hG.1 (rfl) ?_
  refine r_iconst (pc := 4) hX 2 rfl ?_
  refine r_isub (pc := 5) hX 3 rfl ?_
  refine r_istore_n (ls' := [(2, 178), (0, ((v 178 35) - 1)), (3, 0), (3, 0), (3, 0), (3, 0), (3, 0), (3, 0)]) (pc := 6) hX 4 rfl (by decide) rfl ?_
  refine r_iconst (pc := 7) hX 5 rfl ?_
  refine r_istore_n (ls' := [(2, 178), (0, ((v 178 35) - 1)), (0, (-1)), (3, 0), (3, 0), (3, 0), (3, 0), (3, 0)]) (pc := 8) hX 6 rfl (by decide) rfl ?_
  refine r_lconst (pc := 9) hX 7 rfl ?_
  show wp g X F_m_choosesLast 0 0 10 [(2, 178), (0, ((v 178 35) - 1)), (0, (-1)), (3, 0), (3, 0), (3, 0), (3, 0), (3, 0)] [(1, 0)] v ρ Z
  refine r_lstore_n (ls' := [(2, 178), (0, ((v 178 35) - 1)), (0, (-1)), (1, 0), (3, 0), (3, 0), (3, 0), (3, 0)]) (pc := 10) hX 8 rfl (by decide) rfl ?_
  refine r_iconst (pc := 11) hX 9 rfl ?_
  refine r_istore (ls' := [(2, 178), (0, ((v 178 35) - 1)), (0, (-1)), (1, 0), (3, 0), (0, 0), (3, 0), (3, 0)]) (pc := 12) hX 10 rfl (by decide) rfl ?_
  have L14 : ∀ (n14 : Nat) (b m c : Int) (v14 : Mv) , (Fr [185, 186, 189, 190, 191, 192, 193, 195] [31] v v14) → (CsI (v14 194)) → (ChI (v14 195)) → (SInv (v14 180)) → (0 ≤ c ∧ c ≤ 4 ∧ -1 ≤ b ∧ b ≤ 3) → (v14 178 35 = v 178 35) → (4 - c).toNat < n14 → wp g X F_m_choosesLast 0 0 14 [(2, 178), (0, ((v 178 35) - 1)), (0, b), (1, m), (3, 0), (0, c), (3, 0), (3, 0)] [] v14 ρ Z := by
    intro n14
    induction n14 with
    | zero => intro b m c v14 hfr14 hCsI_14 hChI_14 hSInv_14 ic e35 hme14; exact absurd hme14 (Nat.not_lt_zero _)
    | succ n14 ih14 =>
      intro b m c v14 hfr14 hCsI_14 hChI_14 hSInv_14 ic e35 hme14
      refine r_iload (pc := 14) hX 11 rfl rfl ?_
      refine t_getR (pc := 16) hX 12 rfl rfl rfl fl_X12_33 rfl hG.1 (a_s hG).1 ?_
      refine r_iconst (pc := 20) hX 14 rfl ?_
      refine e_iald (y := (v14 180 0)) (pc := 21) hX 15 rfl (a_s hG).2.1 (a_s hG).2.2 (by omega) (by omega) (rfl) ?_
      have hb21 := hSInv_14.c0
      first | refine r_icmp_ge (pc := 22) hX 16 (tgt := 84) rfl (by decide) (⟨by omega, by omega⟩) (⟨by omega, by omega⟩) (fun h22 => ?_) (fun h22 => ?_) | refine r_icmp_ge_any (pc := 22) hX 16 (tgt := 84) rfl (by decide) ?_ ?_
      · refine t_getR (pc := 84) hX 48 rfl rfl rfl fl_X12_80 rfl hG.1 (a_choice hG).1 ?_
        refine r_iload_n (pc := 88) hX 50 rfl rfl ?_
        refine r_iload_n (pc := 89) hX 51 rfl rfl ?_
        refine e_iast (pc := 90) hX 52 rfl (a_choice hG).2.1 (a_choice hG).2.2 (by decide) (by omega) (by omega) ?_
        exact r_vret (pc := 91) hX 53 hQ rfl rfl (Nat.le_refl 0) (Nat.le_refl 0) ⟨rfl, rfl, (hfr14).arr (r := 195) (by decide) (by decide), rfl, (ChI.st hChI_14 (by omega) (by omega))⟩
      · refine r_aload_n (pc := 25) hX 17 rfl rfl ?_
        refine r_iload (pc := 26) hX 18 rfl rfl ?_
        refine r_iload_n (pc := 28) hX 19 rfl rfl ?_
        refine r_callV (as := [(0, c), (0, ((v 178 35) - 1))]) (st := []) (K := 12) (pc := 29) hX 20 rfl mo_m_isTaken ml_X12_394 im_m_isTaken se_m_isTaken (c_isTaken g v14 ρ Z hG (c) (((v 178 35) - 1)) (hSInv_14) (by omega)) rfl rfl rfl hG.1 (by rw [hRm]; exact ⟨by decide, by decide⟩) (by rw [hRm]; exact ⟨by decide, by decide⟩) (Nat.le_of_ble_eq_true rfl) (fun o29 v29 ρ29 Z29 hq29 _ => ?_)
        obtain ⟨rfl, rfl, rfl, r29, rfl, hq29⟩ := hq29
        show wp g X F_m_choosesLast 0 0 32 [(2, 178), (0, ((v 178 35) - 1)), (0, b), (1, m), (3, 0), (0, c), (3, 0), (3, 0)] [(0, r29)] v14 ρ Z
        first | refine r_if_eq (pc := 32) hX 21 (tgt := 38) rfl (by decide) (⟨by omega, by omega⟩) (fun h32 => ?_) (fun h32 => ?_) | refine r_if_eq_any (pc := 32) hX 21 (tgt := 38) rfl (by decide) ?_ ?_
        · refine t_getR (pc := 38) hX 23 rfl rfl rfl fl_X12_80 rfl hG.1 (a_choice hG).1 ?_
          refine r_iload_n (pc := 42) hX 25 rfl rfl ?_
          refine r_iload (pc := 43) hX 26 rfl rfl ?_
          refine e_iast (pc := 45) hX 27 rfl (a_choice hG).2.1 (a_choice hG).2.2 (by decide) (by omega) (by omega) ?_
          refine r_aload_n (pc := 46) hX 28 rfl rfl ?_
          refine t_getR (pc := 47) hX 29 rfl rfl rfl fl_X12_77 rfl hG.1 (a_chooser hG).1 ?_
          refine r_iload_n (pc := 51) hX 31 rfl rfl ?_
          refine e_iald (y := (v14 194 ((v 178 35) - 1))) (pc := 52) hX 32 rfl (a_chooser hG).2.1 (a_chooser hG).2.2 (by omega) (by omega) ((up_r (by decide)).trans (rfl)) ?_
          have hb52 := hCsI_14 ((v 178 35) - 1) (by omega) (by omega)
          refine r_callV (as := [(0, (v14 194 ((v 178 35) - 1)))]) (st := []) (K := 12) (pc := 53) hX 33 rfl mo_m_likelyBy ml_X12_397 im_m_likelyBy se_m_likelyBy (c_likelyBy g (up v14 195 ((v 178 35) - 1) c) ρ Z hG ((v14 194 ((v 178 35) - 1))) (by rw [up_f (by decide)]; exact hSInv_14) (ChI.st hChI_14 (by omega) (by omega)) (by rw [up_f (by decide)]; exact hCsI_14) (by rw [up_r (by decide)]; omega) (by omega)) rfl rfl rfl hG.1 (by rw [hRm]; exact ⟨by decide, by decide⟩) (by rw [hRm]; exact ⟨by decide, by decide⟩) (Nat.le_of_ble_eq_true rfl) (fun o53 v53 ρ53 Z53 hq53 _ => ?_)
          obtain ⟨rfl, rfl, hfr53, r53, rfl, hq53⟩ := hq53
          try simp only [up_f (show (180 : Int) ≠ 195 by decide)] at hq53
          have hSInv_53 : SInv (v53 180) := by rw [hfr53.1 180 (by decide) (by decide), up_f (by decide)]; exact hSInv_14
          have hCsI_53 : CsI (v53 194) := by rw [hfr53.1 194 (by decide) (by decide), up_f (by decide)]; exact hCsI_14
          have hk53_35 : v53 178 35 = (v14 178 35) := (hfr53.2 35 (by decide)).trans ((up_r (by decide)).trans (rfl))
          show wp g X F_m_choosesLast 0 0 56 [(2, 178), (0, ((v 178 35) - 1)), (0, b), (1, m), (3, 0), (0, c), (3, 0), (3, 0)] [(1, r53)] v53 ρ Z
          refine r_lstore (ls' := [(2, 178), (0, ((v 178 35) - 1)), (0, b), (1, m), (3, 0), (0, c), (1, r53), (3, 0)]) (pc := 56) hX 34 rfl (by decide) rfl ?_
          refine r_iload_n (pc := 58) hX 35 rfl rfl ?_
          first | refine r_if_lt (pc := 59) hX 36 (tgt := 72) rfl (by decide) (⟨by omega, by omega⟩) (fun h59 => ?_) (fun h59 => ?_) | refine r_if_lt_any (pc := 59) hX 36 (tgt := 72) rfl (by decide) ?_ ?_
          · refine r_iload (pc := 72) hX 42 rfl rfl ?_
            refine r_istore_n (ls' := [(2, 178), (0, ((v 178 35) - 1)), (0, c), (1, m), (3, 0), (0, c), (1, r53), (3, 0)]) (pc := 74) hX 43 rfl (by decide) rfl ?_
            refine r_lload (pc := 75) hX 44 rfl rfl ?_
            refine r_lstore_n (ls' := [(2, 178), (0, ((v 178 35) - 1)), (0, c), (1, r53), (3, 0), (0, c), (1, r53), (3, 0)]) (pc := 77) hX 45 rfl (by decide) rfl ?_
            refine r_iinc (ls' := [(2, 178), (0, ((v 178 35) - 1)), (0, c), (1, r53), (3, 0), (0, (c + 1)), (1, r53), (3, 0)]) (pc := 78) hX 46 rfl rfl (by decide) rfl ?_
            refine r_goto (pc := 81) hX 47 (tgt := 14) rfl (by decide) ?_
            refine r_wk (ls' := [(2, 178), (0, ((v 178 35) - 1)), (0, c), (1, r53), (3, 0), (0, (c + 1)), (3, 0), (3, 0)]) ⟨Or.inr rfl, Or.inr rfl, Or.inr rfl, Or.inr rfl, Or.inr rfl, Or.inr rfl, Or.inl rfl, Or.inr rfl, trivial⟩ ?_
            exact (ih14 c r53 (c + 1) v53 (((hfr14).arr (r := 195) (by decide) (by decide)).tr hfr53 (by decide) (by decide)) (hCsI_53) (by first | exact hChI_14 | (rw [hfr53.1 195 (by decide) (by decide)]; exact ChI.st hChI_14 (by omega) (by omega))) (hSInv_53) (by omega) ((rfl).trans (by omega)) (by omega))
          · refine r_lload (pc := 62) hX 37 rfl rfl ?_
            refine r_lload_n (pc := 64) hX 38 rfl rfl ?_
            refine r_lcmp_any (pc := 65) hX 39 rfl (fun z65 hz65a hz65b => ?_)
            first | refine r_if_gt (pc := 66) hX 40 (tgt := 72) rfl (by decide) (⟨by omega, by omega⟩) (fun h66 => ?_) (fun h66 => ?_) | refine r_if_gt_any (pc := 66) hX 40 (tgt := 72) rfl (by decide) ?_ ?_
            · refine r_iload (pc := 72) hX 42 rfl rfl ?_
              refine r_istore_n (ls' := [(2, 178), (0, ((v 178 35) - 1)), (0, c), (1, m), (3, 0), (0, c), (1, r53), (3, 0)]) (pc := 74) hX 43 rfl (by decide) rfl ?_
              refine r_lload (pc := 75) hX 44 rfl rfl ?_
              refine r_lstore_n (ls' := [(2, 178), (0, ((v 178 35) - 1)), (0, c), (1, r53), (3, 0), (0, c), (1, r53), (3, 0)]) (pc := 77) hX 45 rfl (by decide) rfl ?_
              refine r_iinc (ls' := [(2, 178), (0, ((v 178 35) - 1)), (0, c), (1, r53), (3, 0), (0, (c + 1)), (1, r53), (3, 0)]) (pc := 78) hX 46 rfl rfl (by decide) rfl ?_
              refine r_goto (pc := 81) hX 47 (tgt := 14) rfl (by decide) ?_
              refine r_wk (ls' := [(2, 178), (0, ((v 178 35) - 1)), (0, c), (1, r53), (3, 0), (0, (c + 1)), (3, 0), (3, 0)]) ⟨Or.inr rfl, Or.inr rfl, Or.inr rfl, Or.inr rfl, Or.inr rfl, Or.inr rfl, Or.inl rfl, Or.inr rfl, trivial⟩ ?_
              exact (ih14 c r53 (c + 1) v53 (((hfr14).arr (r := 195) (by decide) (by decide)).tr hfr53 (by decide) (by decide)) (hCsI_53) (by first | exact hChI_14 | (rw [hfr53.1 195 (by decide) (by decide)]; exact ChI.st hChI_14 (by omega) (by omega))) (hSInv_53) (by omega) ((rfl).trans (by omega)) (by omega))
            · refine r_goto (pc := 69) hX 41 (tgt := 78) rfl (by decide) ?_
              refine r_iinc (ls' := [(2, 178), (0, ((v 178 35) - 1)), (0, b), (1, m), (3, 0), (0, (c + 1)), (1, r53), (3, 0)]) (pc := 78) hX 46 rfl rfl (by decide) rfl ?_
              refine r_goto (pc := 81) hX 47 (tgt := 14) rfl (by decide) ?_
              refine r_wk (ls' := [(2, 178), (0, ((v 178 35) - 1)), (0, b), (1, m), (3, 0), (0, (c + 1)), (3, 0), (3, 0)]) ⟨Or.inr rfl, Or.inr rfl, Or.inr rfl, Or.inr rfl, Or.inr rfl, Or.inr rfl, Or.inl rfl, Or.inr rfl, trivial⟩ ?_
              exact (ih14 b m (c + 1) v53 (((hfr14).arr (r := 195) (by decide) (by decide)).tr hfr53 (by decide) (by decide)) (hCsI_53) (by first | exact hChI_14 | (rw [hfr53.1 195 (by decide) (by decide)]; exact ChI.st hChI_14 (by omega) (by omega))) (hSInv_53) (by omega) ((rfl).trans (by omega)) (by omega))
        · refine r_goto (pc := 35) hX 22 (tgt := 78) rfl (by decide) ?_
          refine r_iinc (ls' := [(2, 178), (0, ((v 178 35) - 1)), (0, b), (1, m), (3, 0), (0, (c + 1)), (3, 0), (3, 0)]) (pc := 78) hX 46 rfl rfl (by decide) rfl ?_
          refine r_goto (pc := 81) hX 47 (tgt := 14) rfl (by decide) ?_
          exact (ih14 b m (c + 1) v14 (hfr14) (hCsI_14) (by first | exact hChI_14 | (rw [hfr53.1 195 (by decide) (by decide)]; exact ChI.st hChI_14 (by omega) (by omega))) (hSInv_14) (by omega) ((rfl).trans (by omega)) (by omega))
  exact (L14 _ (-1) 0 0 v (Fr.rf) (hI) (hH) (hS) (by omega) ((rfl).trans (by omega)) (Nat.lt_succ_self _))
set_option maxHeartbeats 4000000 in
set_option maxRecDepth 100000 in
theorem c_choosesSecond (g : Gp) (v ρ : Mv) (Z : Mz) (hG : GM ρ Z)  (hS : SInv (v 180)) (hH : ChI (v 195)) (hI : CsI (v 194)) (hn : v 178 35 = 3) : Ok g 6 0 0 F_m_choosesSecond [(2, 178)] v ρ Z (fun o v' ρ' Z' => ρ = ρ' ∧ Z = Z' ∧ Fr [185, 186, 189, 190, 191, 192, 193, 195] [31] v v' ∧ o = none ∧ (ChI (v' 195))) := by
  refine Ok.of mo_m_choosesSecond (Nat.le_of_ble_eq_true rfl) ?_
  intro X hX hRm hxn hQ
  show wp g X F_m_choosesSecond 0 0 0 [(2, 178), (3, 0), (3, 0), (3, 0), (3, 0), (3, 0), (3, 0)] [] v ρ Z
  have hb0 := hS.c0
  refine r_iconst (pc := 0) hX 0 rfl ?_
  refine r_istore_n (ls' := [(2, 178), (0, (-1)), (3, 0), (3, 0), (3, 0), (3, 0), (3, 0)]) (pc := 1) hX 1 rfl (by decide) rfl ?_
  refine r_lconst (pc := 2) hX 2 rfl ?_
  show wp g X F_m_choosesSecond 0 0 3 [(2, 178), (0, (-1)), (3, 0), (3, 0), (3, 0), (3, 0), (3, 0)] [(1, 0)] v ρ Z
  refine r_lstore_n (ls' := [(2, 178), (0, (-1)), (1, 0), (3, 0), (3, 0), (3, 0), (3, 0)]) (pc := 3) hX 3 rfl (by decide) rfl ?_
  refine r_iconst (pc := 4) hX 4 rfl ?_
  refine r_istore (ls' := [(2, 178), (0, (-1)), (1, 0), (3, 0), (0, 0), (3, 0), (3, 0)]) (pc := 5) hX 5 rfl (by decide) rfl ?_
  have L7 : ∀ (n7 : Nat) (b m c : Int) (v7 : Mv) , (Fr [185, 186, 189, 190, 191, 192, 193, 195] [31] v v7) → (CsI (v7 194)) → (ChI (v7 195)) → (SInv (v7 180)) → (0 ≤ c ∧ c ≤ 4 ∧ -1 ≤ b ∧ b ≤ 3) → (v7 178 35 = v 178 35) → (4 - c).toNat < n7 → wp g X F_m_choosesSecond 0 0 7 [(2, 178), (0, b), (1, m), (3, 0), (0, c), (3, 0), (3, 0)] [] v7 ρ Z := by
    intro n7
    induction n7 with
    | zero => intro b m c v7 hfr7 hCsI_7 hChI_7 hSInv_7 ic e35 hme7; exact absurd hme7 (Nat.not_lt_zero _)
    | succ n7 ih7 =>
      intro b m c v7 hfr7 hCsI_7 hChI_7 hSInv_7 ic e35 hme7
      refine r_iload (pc := 7) hX 6 rfl rfl ?_
      refine t_getR (pc := 9) hX 7 rfl rfl rfl fl_X12_33 rfl hG.1 (a_s hG).1 ?_
      refine r_iconst (pc := 13) hX 9 rfl ?_
      refine e_iald (y := (v7 180 0)) (pc := 14) hX 10 rfl (a_s hG).2.1 (a_s hG).2.2 (by omega) (by omega) (rfl) ?_
      have hb14 := hSInv_7.c0
      first | refine r_icmp_ge (pc := 15) hX 11 (tgt := 81) rfl (by decide) (⟨by omega, by omega⟩) (⟨by omega, by omega⟩) (fun h15 => ?_) (fun h15 => ?_) | refine r_icmp_ge_any (pc := 15) hX 11 (tgt := 81) rfl (by decide) ?_ ?_
      · refine t_getR (pc := 81) hX 45 rfl rfl rfl fl_X12_80 rfl hG.1 (a_choice hG).1 ?_
        refine r_iconst (pc := 85) hX 47 rfl ?_
        refine r_iload_n (pc := 86) hX 48 rfl rfl ?_
        refine e_iast (pc := 87) hX 49 rfl (a_choice hG).2.1 (a_choice hG).2.2 (by decide) (by omega) (by omega) ?_
        refine r_aload_n (pc := 88) hX 50 rfl rfl ?_
        refine r_callV (as := []) (st := []) (K := 12) (pc := 89) hX 51 rfl mo_m_choosesLast ml_X12_400 im_m_choosesLast se_m_choosesLast (c_choosesLast g (up v7 195 1 b) ρ Z hG  (by rw [up_f (by decide)]; exact hSInv_7) (ChI.st hChI_7 (by omega) (by omega)) (by rw [up_f (by decide)]; exact hCsI_7) (by rw [up_r (by decide)]; omega)) rfl rfl rfl hG.1 (by rw [hRm]; exact ⟨by decide, by decide⟩) (by rw [hRm]; exact ⟨by decide, by decide⟩) (Nat.le_of_ble_eq_true rfl) (fun o89 v89 ρ89 Z89 hq89 _ => ?_)
        obtain ⟨rfl, rfl, hfr89, rfl, hq89⟩ := hq89
        try simp only [up_f (show (180 : Int) ≠ 195 by decide)] at hq89
        have hSInv_89 : SInv (v89 180) := by rw [hfr89.1 180 (by decide) (by decide), up_f (by decide)]; exact hSInv_7
        have hCsI_89 : CsI (v89 194) := by rw [hfr89.1 194 (by decide) (by decide), up_f (by decide)]; exact hCsI_7
        have hk89_35 : v89 178 35 = (v7 178 35) := (hfr89.2 35 (by decide)).trans ((up_r (by decide)).trans (rfl))
        show wp g X F_m_choosesSecond 0 0 92 [(2, 178), (0, b), (1, m), (3, 0), (0, c), (3, 0), (3, 0)] [] v89 ρ Z
        exact r_vret (pc := 92) hX 52 hQ rfl rfl (Nat.le_refl 0) (Nat.le_refl 0) ⟨rfl, rfl, ((hfr7).arr (r := 195) (by decide) (by decide)).tr hfr89 (by decide) (by decide), rfl, (hq89)⟩
      · refine r_aload_n (pc := 18) hX 12 rfl rfl ?_
        refine r_iload (pc := 19) hX 13 rfl rfl ?_
        refine r_iconst (pc := 21) hX 14 rfl ?_
        refine r_callV (as := [(0, c), (0, 1)]) (st := []) (K := 12) (pc := 22) hX 15 rfl mo_m_isTaken ml_X12_394 im_m_isTaken se_m_isTaken (c_isTaken g v7 ρ Z hG (c) (1) (hSInv_7) (by omega)) rfl rfl rfl hG.1 (by rw [hRm]; exact ⟨by decide, by decide⟩) (by rw [hRm]; exact ⟨by decide, by decide⟩) (Nat.le_of_ble_eq_true rfl) (fun o22 v22 ρ22 Z22 hq22 _ => ?_)
        obtain ⟨rfl, rfl, rfl, r22, rfl, hq22⟩ := hq22
        show wp g X F_m_choosesSecond 0 0 25 [(2, 178), (0, b), (1, m), (3, 0), (0, c), (3, 0), (3, 0)] [(0, r22)] v7 ρ Z
        first | refine r_if_eq (pc := 25) hX 16 (tgt := 31) rfl (by decide) (⟨by omega, by omega⟩) (fun h25 => ?_) (fun h25 => ?_) | refine r_if_eq_any (pc := 25) hX 16 (tgt := 31) rfl (by decide) ?_ ?_
        · refine t_getR (pc := 31) hX 18 rfl rfl rfl fl_X12_80 rfl hG.1 (a_choice hG).1 ?_
          refine r_iconst (pc := 35) hX 20 rfl ?_
          refine r_iload (pc := 36) hX 21 rfl rfl ?_
          refine e_iast (pc := 38) hX 22 rfl (a_choice hG).2.1 (a_choice hG).2.2 (by decide) (by omega) (by omega) ?_
          refine r_aload_n (pc := 39) hX 23 rfl rfl ?_
          refine r_callV (as := []) (st := []) (K := 12) (pc := 40) hX 24 rfl mo_m_choosesLast ml_X12_400 im_m_choosesLast se_m_choosesLast (c_choosesLast g (up v7 195 1 c) ρ Z hG  (by rw [up_f (by decide)]; exact hSInv_7) (ChI.st hChI_7 (by omega) (by omega)) (by rw [up_f (by decide)]; exact hCsI_7) (by rw [up_r (by decide)]; omega)) rfl rfl rfl hG.1 (by rw [hRm]; exact ⟨by decide, by decide⟩) (by rw [hRm]; exact ⟨by decide, by decide⟩) (Nat.le_of_ble_eq_true rfl) (fun o40 v40 ρ40 Z40 hq40 _ => ?_)
          obtain ⟨rfl, rfl, hfr40, rfl, hq40⟩ := hq40
          try simp only [up_f (show (180 : Int) ≠ 195 by decide)] at hq40
          have hSInv_40 : SInv (v40 180) := by rw [hfr40.1 180 (by decide) (by decide), up_f (by decide)]; exact hSInv_7
          have hCsI_40 : CsI (v40 194) := by rw [hfr40.1 194 (by decide) (by decide), up_f (by decide)]; exact hCsI_7
          have hk40_35 : v40 178 35 = (v7 178 35) := (hfr40.2 35 (by decide)).trans ((up_r (by decide)).trans (rfl))
          show wp g X F_m_choosesSecond 0 0 43 [(2, 178), (0, b), (1, m), (3, 0), (0, c), (3, 0), (3, 0)] [] v40 ρ Z
          refine r_aload_n (pc := 43) hX 25 rfl rfl ?_
          refine t_getR (pc := 44) hX 26 rfl rfl rfl fl_X12_77 rfl hG.1 (a_chooser hG).1 ?_
          refine r_iconst (pc := 48) hX 28 rfl ?_
          refine e_iald (y := (v40 194 1)) (pc := 49) hX 29 rfl (a_chooser hG).2.1 (a_chooser hG).2.2 (by omega) (by omega) (rfl) ?_
          have hb49 := hCsI_40 1 (by omega) (by omega)
          refine r_callV (as := [(0, (v40 194 1))]) (st := []) (K := 12) (pc := 50) hX 30 rfl mo_m_likelyBy ml_X12_397 im_m_likelyBy se_m_likelyBy (c_likelyBy g v40 ρ Z hG ((v40 194 1)) (hSInv_40) (hq40) (hCsI_40) (by omega) (by omega)) rfl rfl rfl hG.1 (by rw [hRm]; exact ⟨by decide, by decide⟩) (by rw [hRm]; exact ⟨by decide, by decide⟩) (Nat.le_of_ble_eq_true rfl) (fun o50 v50 ρ50 Z50 hq50 _ => ?_)
          obtain ⟨rfl, rfl, hfr50, r50, rfl, hq50⟩ := hq50
          have hSInv_50 : SInv (v50 180) := by rw [hfr50.1 180 (by decide) (by decide)]; exact hSInv_40
          have hCsI_50 : CsI (v50 194) := by rw [hfr50.1 194 (by decide) (by decide)]; exact hCsI_40
          have hk50_35 : v50 178 35 = (v40 178 35) := (hfr50.2 35 (by decide)).trans (rfl)
          show wp g X F_m_choosesSecond 0 0 53 [(2, 178), (0, b), (1, m), (3, 0), (0, c), (3, 0), (3, 0)] [(1, r50)] v50 ρ Z
          refine r_lstore (ls' := [(2, 178), (0, b), (1, m), (3, 0), (0, c), (1, r50), (3, 0)]) (pc := 53) hX 31 rfl (by decide) rfl ?_
          refine r_iload_n (pc := 55) hX 32 rfl rfl ?_
          first | refine r_if_lt (pc := 56) hX 33 (tgt := 69) rfl (by decide) (⟨by omega, by omega⟩) (fun h56 => ?_) (fun h56 => ?_) | refine r_if_lt_any (pc := 56) hX 33 (tgt := 69) rfl (by decide) ?_ ?_
          · refine r_iload (pc := 69) hX 39 rfl rfl ?_
            refine r_istore_n (ls' := [(2, 178), (0, c), (1, m), (3, 0), (0, c), (1, r50), (3, 0)]) (pc := 71) hX 40 rfl (by decide) rfl ?_
            refine r_lload (pc := 72) hX 41 rfl rfl ?_
            refine r_lstore_n (ls' := [(2, 178), (0, c), (1, r50), (3, 0), (0, c), (1, r50), (3, 0)]) (pc := 74) hX 42 rfl (by decide) rfl ?_
            refine r_iinc (ls' := [(2, 178), (0, c), (1, r50), (3, 0), (0, (c + 1)), (1, r50), (3, 0)]) (pc := 75) hX 43 rfl rfl (by decide) rfl ?_
            refine r_goto (pc := 78) hX 44 (tgt := 7) rfl (by decide) ?_
            refine r_wk (ls' := [(2, 178), (0, c), (1, r50), (3, 0), (0, (c + 1)), (3, 0), (3, 0)]) ⟨Or.inr rfl, Or.inr rfl, Or.inr rfl, Or.inr rfl, Or.inr rfl, Or.inl rfl, Or.inr rfl, trivial⟩ ?_
            exact (ih7 c r50 (c + 1) v50 ((((hfr7).arr (r := 195) (by decide) (by decide)).tr hfr40 (by decide) (by decide)).tr hfr50 (by decide) (by decide)) (hCsI_50) (by first | exact hChI_7 | (rw [hfr50.1 195 (by decide) (by decide)]; exact hq40)) (hSInv_50) (by omega) ((rfl).trans (by omega)) (by omega))
          · refine r_lload (pc := 59) hX 34 rfl rfl ?_
            refine r_lload_n (pc := 61) hX 35 rfl rfl ?_
            refine r_lcmp_any (pc := 62) hX 36 rfl (fun z62 hz62a hz62b => ?_)
            first | refine r_if_gt (pc := 63) hX 37 (tgt := 69) rfl (by decide) (⟨by omega, by omega⟩) (fun h63 => ?_) (fun h63 => ?_) | refine r_if_gt_any (pc := 63) hX 37 (tgt := 69) rfl (by decide) ?_ ?_
            · refine r_iload (pc := 69) hX 39 rfl rfl ?_
              refine r_istore_n (ls' := [(2, 178), (0, c), (1, m), (3, 0), (0, c), (1, r50), (3, 0)]) (pc := 71) hX 40 rfl (by decide) rfl ?_
              refine r_lload (pc := 72) hX 41 rfl rfl ?_
              refine r_lstore_n (ls' := [(2, 178), (0, c), (1, r50), (3, 0), (0, c), (1, r50), (3, 0)]) (pc := 74) hX 42 rfl (by decide) rfl ?_
              refine r_iinc (ls' := [(2, 178), (0, c), (1, r50), (3, 0), (0, (c + 1)), (1, r50), (3, 0)]) (pc := 75) hX 43 rfl rfl (by decide) rfl ?_
              refine r_goto (pc := 78) hX 44 (tgt := 7) rfl (by decide) ?_
              refine r_wk (ls' := [(2, 178), (0, c), (1, r50), (3, 0), (0, (c + 1)), (3, 0), (3, 0)]) ⟨Or.inr rfl, Or.inr rfl, Or.inr rfl, Or.inr rfl, Or.inr rfl, Or.inl rfl, Or.inr rfl, trivial⟩ ?_
              exact (ih7 c r50 (c + 1) v50 ((((hfr7).arr (r := 195) (by decide) (by decide)).tr hfr40 (by decide) (by decide)).tr hfr50 (by decide) (by decide)) (hCsI_50) (by first | exact hChI_7 | (rw [hfr50.1 195 (by decide) (by decide)]; exact hq40)) (hSInv_50) (by omega) ((rfl).trans (by omega)) (by omega))
            · refine r_goto (pc := 66) hX 38 (tgt := 75) rfl (by decide) ?_
              refine r_iinc (ls' := [(2, 178), (0, b), (1, m), (3, 0), (0, (c + 1)), (1, r50), (3, 0)]) (pc := 75) hX 43 rfl rfl (by decide) rfl ?_
              refine r_goto (pc := 78) hX 44 (tgt := 7) rfl (by decide) ?_
              refine r_wk (ls' := [(2, 178), (0, b), (1, m), (3, 0), (0, (c + 1)), (3, 0), (3, 0)]) ⟨Or.inr rfl, Or.inr rfl, Or.inr rfl, Or.inr rfl, Or.inr rfl, Or.inl rfl, Or.inr rfl, trivial⟩ ?_
              exact (ih7 b m (c + 1) v50 ((((hfr7).arr (r := 195) (by decide) (by decide)).tr hfr40 (by decide) (by decide)).tr hfr50 (by decide) (by decide)) (hCsI_50) (by first | exact hChI_7 | (rw [hfr50.1 195 (by decide) (by decide)]; exact hq40)) (hSInv_50) (by omega) ((rfl).trans (by omega)) (by omega))
        · refine r_goto (pc := 28) hX 17 (tgt := 75) rfl (by decide) ?_
          refine r_iinc (ls' := [(2, 178), (0, b), (1, m), (3, 0), (0, (c + 1)), (3, 0), (3, 0)]) (pc := 75) hX 43 rfl rfl (by decide) rfl ?_
          refine r_goto (pc := 78) hX 44 (tgt := 7) rfl (by decide) ?_
          exact (ih7 b m (c + 1) v7 (hfr7) (hCsI_7) (by first | exact hChI_7 | (rw [hfr50.1 195 (by decide) (by decide)]; exact hq40)) (hSInv_7) (by omega) ((rfl).trans (by omega)) (by omega))
  exact (L7 _ (-1) 0 0 v (Fr.rf) (hI) (hH) (hS) (by omega) ((rfl).trans (by omega)) (Nat.lt_succ_self _))
set_option maxHeartbeats 4000000 in
set_option maxRecDepth 100000 in
theorem c_choosesBehind (g : Gp) (v ρ : Mv) (Z : Mz) (hG : GM ρ Z)  (hS : SInv (v 180)) (hH : ChI (v 195)) (hI : CsI (v 194)) (hn : 0 ≤ v 178 35 ∧ v 178 35 ≤ 3) : Ok g 7 0 0 F_m_choosesBehind [(2, 178)] v ρ Z (fun o v' ρ' Z' => ρ = ρ' ∧ Z = Z' ∧ Fr [185, 186, 189, 190, 191, 192, 193, 195] [31] v v' ∧ o = none ∧ (ChI (v' 195))) := by
  refine Ok.of mo_m_choosesBehind (Nat.le_of_ble_eq_true rfl) ?_
  intro X hX hRm hxn hQ
  show wp g X F_m_choosesBehind 0 0 0 [(2, 178)] [] v ρ Z
  refine t_getI (y := (v 178 35)) (pc := 0) hX 0 rfl rfl rfl fl_X12_391 rfl hG.1 (rfl) ?_
  refine r_iconst (pc := 4) hX 2 rfl ?_
  first | refine r_icmp_ne (pc := 5) hX 3 (tgt := 15) rfl (by decide) (⟨by omega, by omega⟩) (⟨by omega, by omega⟩) (fun h5 => ?_) (fun h5 => ?_) | refine r_icmp_ne_any (pc := 5) hX 3 (tgt := 15) rfl (by decide) ?_ ?_
  · refine t_getI (y := (v 178 35)) (pc := 15) hX 7 rfl rfl rfl fl_X12_391 rfl hG.1 (rfl) ?_
    refine r_iconst (pc := 19) hX 9 rfl ?_
    first | refine r_icmp_ne (pc := 20) hX 10 (tgt := 27) rfl (by decide) (⟨by omega, by omega⟩) (⟨by omega, by omega⟩) (fun h20 => ?_) (fun h20 => ?_) | refine r_icmp_ne_any (pc := 20) hX 10 (tgt := 27) rfl (by decide) ?_ ?_
    · exact r_vret (pc := 27) hX 13 hQ rfl rfl (Nat.le_refl 0) (Nat.le_refl 0) ⟨rfl, rfl, Fr.rf, rfl, (by first | exact hq9 | exact hq24 | exact hH)⟩
    · refine r_aload_n (pc := 23) hX 11 rfl rfl ?_
      refine r_callV (as := []) (st := []) (K := 12) (pc := 24) hX 12 rfl mo_m_choosesLast ml_X12_400 im_m_choosesLast se_m_choosesLast (c_choosesLast g v ρ Z hG  (hS) (hH) (hI) (by omega)) rfl rfl rfl hG.1 (by rw [hRm]; exact ⟨by decide, by decide⟩) (by rw [hRm]; exact ⟨by decide, by decide⟩) (Nat.le_of_ble_eq_true rfl) (fun o24 v24 ρ24 Z24 hq24 _ => ?_)
      obtain ⟨rfl, rfl, hfr24, rfl, hq24⟩ := hq24
      have hSInv_24 : SInv (v24 180) := by rw [hfr24.1 180 (by decide) (by decide)]; exact hS
      have hCsI_24 : CsI (v24 194) := by rw [hfr24.1 194 (by decide) (by decide)]; exact hI
      show wp g X F_m_choosesBehind 0 0 27 [(2, 178)] [] v24 ρ Z
      exact r_vret (pc := 27) hX 13 hQ rfl rfl (Nat.le_refl 0) (Nat.le_refl 0) ⟨rfl, rfl, (Fr.rf).tr hfr24 (by decide) (by decide), rfl, (by first | exact hq9 | exact hq24 | exact hH)⟩
  · refine r_aload_n (pc := 8) hX 4 rfl rfl ?_
    refine r_callV (as := []) (st := []) (K := 12) (pc := 9) hX 5 rfl mo_m_choosesSecond ml_X12_403 im_m_choosesSecond se_m_choosesSecond (c_choosesSecond g v ρ Z hG  (hS) (hH) (hI) (by omega)) rfl rfl rfl hG.1 (by rw [hRm]; exact ⟨by decide, by decide⟩) (by rw [hRm]; exact ⟨by decide, by decide⟩) (Nat.le_of_ble_eq_true rfl) (fun o9 v9 ρ9 Z9 hq9 _ => ?_)
    obtain ⟨rfl, rfl, hfr9, rfl, hq9⟩ := hq9
    have hSInv_9 : SInv (v9 180) := by rw [hfr9.1 180 (by decide) (by decide)]; exact hS
    have hCsI_9 : CsI (v9 194) := by rw [hfr9.1 194 (by decide) (by decide)]; exact hI
    show wp g X F_m_choosesBehind 0 0 12 [(2, 178)] [] v9 ρ Z
    refine r_goto (pc := 12) hX 6 (tgt := 27) rfl (by decide) ?_
    exact r_vret (pc := 27) hX 13 hQ rfl rfl (Nat.le_refl 0) (Nat.le_refl 0) ⟨rfl, rfl, (Fr.rf).tr hfr9 (by decide) (by decide), rfl, (by first | exact hq9 | exact hq24 | exact hH)⟩
set_option maxHeartbeats 4000000 in
set_option maxRecDepth 100000 in
theorem c_chooses (g : Gp) (v ρ : Mv) (Z : Mz) (hG : GM ρ Z)  (hS : SInv (v 180)) (hH : ChI (v 195)) (hI : CsI (v 194)) : Ok g 8 0 0 F_m_chooses [(2, 178)] v ρ Z (fun o v' ρ' Z' => ρ = ρ' ∧ Z = Z' ∧ Fr [185, 186, 189, 190, 191, 192, 193, 194, 195, 196] [31, 35] v v' ∧ o = none ∧ (ChI (v' 195)) ∧ (CsI (v' 194)) ∧ (0 ≤ v' 178 35 ∧ v' 178 35 ≤ 3)) := by
  refine Ok.of mo_m_chooses (Nat.le_of_ble_eq_true rfl) ?_
  intro X hX hRm hxn hQ
  show wp g X F_m_chooses 0 0 0 [(2, 178), (3, 0), (3, 0), (3, 0), (3, 0), (3, 0), (3, 0)] [] v ρ Z
  have hb0 := hS.c0
  have hb2 := hS.c2
  refine r_aload_n (pc := 0) hX 0 rfl rfl ?_
  refine r_iconst (pc := 1) hX 1 rfl ?_
  refine r_putI (pc := 2) hX 2 rfl fl_X12_391 rfl (fun _ h => by cases h; rfl) hG.1 (by decide) ?_
  refine r_iconst (pc := 5) hX 3 rfl ?_
  refine r_istore_n (ls' := [(2, 178), (0, 0), (3, 0), (3, 0), (3, 0), (3, 0), (3, 0)]) (pc := 6) hX 4 rfl (by decide) rfl ?_
  have L7 : ∀ (n7 : Nat) (q : Int) (v7 : Mv) , (Fr [185, 186, 189, 190, 191, 192, 193, 194, 195, 196] [31, 35] v v7) → (CsI (v7 194)) → (ChI (v7 195)) → (SInv (v7 180)) → (0 ≤ q ∧ q ≤ 3) → (0 ≤ v7 178 35 ∧ v7 178 35 ≤ q) → (3 - q).toNat < n7 → wp g X F_m_chooses 0 0 7 [(2, 178), (0, q), (3, 0), (3, 0), (3, 0), (3, 0), (3, 0)] [] v7 ρ Z := by
    intro n7
    induction n7 with
    | zero => intro q v7 hfr7 hCsI_7 hChI_7 hSInv_7 iq in_ hme7; exact absurd hme7 (Nat.not_lt_zero _)
    | succ n7 ih7 =>
      intro q v7 hfr7 hCsI_7 hChI_7 hSInv_7 iq in_ hme7
      refine r_iload_n (pc := 7) hX 5 rfl rfl ?_
      refine t_getR (pc := 8) hX 6 rfl rfl rfl fl_X12_33 rfl hG.1 (a_s hG).1 ?_
      refine r_iconst (pc := 12) hX 8 rfl ?_
      refine e_iald (y := (v7 180 2)) (pc := 13) hX 9 rfl (a_s hG).2.1 (a_s hG).2.2 (by omega) (by omega) (rfl) ?_
      have hb13 := hSInv_7.c2
      first | refine r_icmp_ge (pc := 14) hX 10 (tgt := 68) rfl (by decide) (⟨by omega, by omega⟩) (⟨by omega, by omega⟩) (fun h14 => ?_) (fun h14 => ?_) | refine r_icmp_ge_any (pc := 14) hX 10 (tgt := 68) rfl (by decide) ?_ ?_
      · refine r_iconst (pc := 68) hX 39 rfl ?_
        refine r_istore_n (ls' := [(2, 178), (0, (-1)), (3, 0), (3, 0), (3, 0), (3, 0), (3, 0)]) (pc := 69) hX 40 rfl (by decide) rfl ?_
        refine r_lconst (pc := 70) hX 41 rfl ?_
        show wp g X F_m_chooses 0 0 71 [(2, 178), (0, (-1)), (3, 0), (3, 0), (3, 0), (3, 0), (3, 0)] [(1, 0)] v7 ρ Z
        refine r_lstore_n (ls' := [(2, 178), (0, (-1)), (1, 0), (3, 0), (3, 0), (3, 0), (3, 0)]) (pc := 71) hX 42 rfl (by decide) rfl ?_
        refine r_iconst (pc := 72) hX 43 rfl ?_
        refine r_istore (ls' := [(2, 178), (0, (-1)), (1, 0), (3, 0), (0, 0), (3, 0), (3, 0)]) (pc := 73) hX 44 rfl (by decide) rfl ?_
        have L75 : ∀ (n75 : Nat) (b m c : Int) (v75 : Mv) , (Fr [185, 186, 189, 190, 191, 192, 193, 194, 195, 196] [31, 35] v v75) → (CsI (v75 194)) → (ChI (v75 195)) → (SInv (v75 180)) → (0 ≤ c ∧ c ≤ 4 ∧ -1 ≤ b ∧ b ≤ 3) → (0 ≤ v75 178 35 ∧ v75 178 35 ≤ 3) → (4 - c).toNat < n75 → wp g X F_m_chooses 0 0 75 [(2, 178), (0, b), (1, m), (3, 0), (0, c), (3, 0), (3, 0)] [] v75 ρ Z := by
          intro n75
          induction n75 with
          | zero => intro b m c v75 hfr75 hCsI_75 hChI_75 hSInv_75 ic in_ hme75; exact absurd hme75 (Nat.not_lt_zero _)
          | succ n75 ih75 =>
            intro b m c v75 hfr75 hCsI_75 hChI_75 hSInv_75 ic in_ hme75
            refine r_iload (pc := 75) hX 45 rfl rfl ?_
            refine t_getR (pc := 77) hX 46 rfl rfl rfl fl_X12_33 rfl hG.1 (a_s hG).1 ?_
            refine r_iconst (pc := 81) hX 48 rfl ?_
            refine e_iald (y := (v75 180 0)) (pc := 82) hX 49 rfl (a_s hG).2.1 (a_s hG).2.2 (by omega) (by omega) (rfl) ?_
            have hb82 := hSInv_75.c0
            have L156 : wp g X F_m_chooses 0 0 156 [(2, 178), (0, b), (1, m), (3, 0), (0, c), (3, 0), (3, 0)] [] v75 ρ Z := by
              refine t_getI (y := (v75 178 35)) (pc := 156) hX 87 rfl rfl rfl fl_X12_391 rfl hG.1 (rfl) ?_
              have L170 : ∀ (v170 : Mv) , (Fr [185, 186, 189, 190, 191, 192, 193, 194, 195, 196] [31, 35] v v170) → (CsI (v170 194)) → (ChI (v170 195)) → (SInv (v170 180)) → (0 ≤ v170 178 35 ∧ v170 178 35 ≤ 3) → wp g X F_m_chooses 0 0 170 [(2, 178), (0, b), (1, m), (3, 0), (0, c), (3, 0), (3, 0)] [] v170 ρ Z := by
                intro v170 hfr170 hCsI_170 hChI_170 hSInv_170 in_
                refine r_aload_n (pc := 170) hX 95 rfl rfl ?_
                refine r_callV (as := []) (st := []) (K := 12) (pc := 171) hX 96 rfl mo_m_choosesBehind ml_X12_406 im_m_choosesBehind se_m_choosesBehind (c_choosesBehind g v170 ρ Z hG  (hSInv_170) (hChI_170) (hCsI_170) (by omega)) rfl rfl rfl hG.1 (by rw [hRm]; exact ⟨by decide, by decide⟩) (by rw [hRm]; exact ⟨by decide, by decide⟩) (Nat.le_of_ble_eq_true rfl) (fun o171 v171 ρ171 Z171 hq171 _ => ?_)
                obtain ⟨rfl, rfl, hfr171, rfl, hq171⟩ := hq171
                have hSInv_171 : SInv (v171 180) := by rw [hfr171.1 180 (by decide) (by decide)]; exact hSInv_170
                have hCsI_171 : CsI (v171 194) := by rw [hfr171.1 194 (by decide) (by decide)]; exact hCsI_170
                have hk171_35 : v171 178 35 = (v170 178 35) := (hfr171.2 35 (by decide)).trans (rfl)
                show wp g X F_m_chooses 0 0 174 [(2, 178), (0, b), (1, m), (3, 0), (0, c), (3, 0), (3, 0)] [] v171 ρ Z
                refine r_iconst (pc := 174) hX 97 rfl ?_
                refine r_istore (ls' := [(2, 178), (0, b), (1, m), (3, 0), (0, 0), (3, 0), (3, 0)]) (pc := 175) hX 98 rfl (by decide) rfl ?_
                have L177 : ∀ (n177 : Nat) (q : Int) (v177 : Mv) , (Fr [185, 186, 189, 190, 191, 192, 193, 194, 195, 196] [31, 35] v v177) → (CsI (v177 194)) → (ChI (v177 195)) → (SInv (v177 180)) → (0 ≤ q ∧ q ≤ 3) → (0 ≤ v177 178 35 ∧ v177 178 35 ≤ 3) → (3 - q).toNat < n177 → wp g X F_m_chooses 0 0 177 [(2, 178), (0, b), (1, m), (3, 0), (0, q), (3, 0), (3, 0)] [] v177 ρ Z := by
                  intro n177
                  induction n177 with
                  | zero => intro q v177 hfr177 hCsI_177 hChI_177 hSInv_177 iq in_ hme177; exact absurd hme177 (Nat.not_lt_zero _)
                  | succ n177 ih177 =>
                    intro q v177 hfr177 hCsI_177 hChI_177 hSInv_177 iq in_ hme177
                    refine r_iload (pc := 177) hX 99 rfl rfl ?_
                    refine r_iconst (pc := 179) hX 100 rfl ?_
                    first | refine r_icmp_ge (pc := 180) hX 101 (tgt := 208) rfl (by decide) (⟨by omega, by omega⟩) (⟨by omega, by omega⟩) (fun h180 => ?_) (fun h180 => ?_) | refine r_icmp_ge_any (pc := 180) hX 101 (tgt := 208) rfl (by decide) ?_ ?_
                    · refine r_iconst (pc := 208) hX 116 rfl ?_
                      refine r_istore (ls' := [(2, 178), (0, b), (1, m), (3, 0), (0, 0), (3, 0), (3, 0)]) (pc := 209) hX 117 rfl (by decide) rfl ?_
                      have L211 : ∀ (n211 : Nat) (i : Int) (v211 : Mv) , (Fr [185, 186, 189, 190, 191, 192, 193, 194, 195, 196] [31, 35] v v211) → (CsI (v211 194)) → (ChI (v211 195)) → (SInv (v211 180)) → (0 ≤ i ∧ i ≤ 3) → (0 ≤ v211 178 35 ∧ v211 178 35 ≤ 3) → (3 - i).toNat < n211 → wp g X F_m_chooses 0 0 211 [(2, 178), (0, b), (1, m), (3, 0), (0, i), (3, 0), (3, 0)] [] v211 ρ Z := by
                        intro n211
                        induction n211 with
                        | zero => intro i v211 hfr211 hCsI_211 hChI_211 hSInv_211 ii in_ hme211; exact absurd hme211 (Nat.not_lt_zero _)
                        | succ n211 ih211 =>
                          intro i v211 hfr211 hCsI_211 hChI_211 hSInv_211 ii in_ hme211
                          refine r_iload (pc := 211) hX 118 rfl rfl ?_
                          refine t_getI (y := (v211 178 35)) (pc := 213) hX 119 rfl rfl rfl fl_X12_391 rfl hG.1 (rfl) ?_
                          first | refine r_icmp_ge (pc := 217) hX 121 (tgt := 245) rfl (by decide) (⟨by omega, by omega⟩) (⟨by omega, by omega⟩) (fun h217 => ?_) (fun h217 => ?_) | refine r_icmp_ge_any (pc := 217) hX 121 (tgt := 245) rfl (by decide) ?_ ?_
                          · exact r_vret (pc := 245) hX 135 hQ rfl rfl (Nat.le_refl 0) (Nat.le_refl 0) ⟨rfl, rfl, hfr211, rfl, (hChI_211), (hCsI_211), (in_)⟩
                          · refine t_getR (pc := 220) hX 122 rfl rfl rfl fl_X12_83 rfl hG.1 (a_chosenRow hG).1 ?_
                            refine t_getR (pc := 224) hX 124 rfl rfl rfl fl_X12_77 rfl hG.1 (a_chooser hG).1 ?_
                            refine r_iload (pc := 228) hX 126 rfl rfl ?_
                            refine e_iald (y := (v211 194 i)) (pc := 230) hX 127 rfl (a_chooser hG).2.1 (a_chooser hG).2.2 (by omega) (by omega) (rfl) ?_
                            have hb230 := hCsI_211 i (by omega) (by omega)
                            refine t_getR (pc := 231) hX 128 rfl rfl rfl fl_X12_80 rfl hG.1 (a_choice hG).1 ?_
                            refine r_iload (pc := 235) hX 130 rfl rfl ?_
                            refine e_iald (y := (v211 195 i)) (pc := 237) hX 131 rfl (a_choice hG).2.1 (a_choice hG).2.2 (by omega) (by omega) (rfl) ?_
                            have hb237 := hChI_211 i (by omega) (by omega)
                            refine e_iast (pc := 238) hX 132 rfl (a_chosenRow hG).2.1 (a_chosenRow hG).2.2 (by decide) (by omega) (by omega) ?_
                            refine r_iinc (ls' := [(2, 178), (0, b), (1, m), (3, 0), (0, (i + 1)), (3, 0), (3, 0)]) (pc := 239) hX 133 rfl rfl (by decide) rfl ?_
                            refine r_goto (pc := 242) hX 134 (tgt := 211) rfl (by decide) ?_
                            exact (ih211 (i + 1) (up v211 196 (v211 194 i) (v211 195 i)) ((hfr211).arr (r := 196) (by decide) (by decide)) (by rw [up_f (by decide)]; exact hCsI_211) (by rw [up_f (by decide)]; exact hChI_211) (by rw [up_f (by decide)]; exact hSInv_211) (by omega) (by rw [up_r (by decide)]; exact in_) (by omega))
                      exact (L211 _ 0 v177 (hfr177) (hCsI_177) (hChI_177) (hSInv_177) (by omega) (in_) (Nat.lt_succ_self _))
                    · refine t_getR (pc := 183) hX 102 rfl rfl rfl fl_X12_83 rfl hG.1 (a_chosenRow hG).1 ?_
                      refine r_iload (pc := 187) hX 104 rfl rfl ?_
                      refine t_getR (pc := 189) hX 105 rfl rfl rfl fl_X12_33 rfl hG.1 (a_s hG).1 ?_
                      refine r_bipush (pc := 193) hX 107 rfl (by decide) ?_
                      refine r_iload (pc := 195) hX 108 rfl rfl ?_
                      refine r_iadd (pc := 197) hX 109 rfl ?_
                      refine e_iald (y := (v177 180 (36 + q))) (pc := 198) hX 110 rfl (a_s hG).2.1 (a_s hG).2.2 (by omega) (by omega) (rfl) ?_
                      have hb198 := hSInv_177.c36 q (by omega) (by omega)
                      refine r_iconst (pc := 199) hX 111 rfl ?_
                      refine r_isub (pc := 200) hX 112 rfl ?_
                      refine e_iast (pc := 201) hX 113 rfl (a_chosenRow hG).2.1 (a_chosenRow hG).2.2 (by decide) (by omega) (by omega) ?_
                      refine r_iinc (ls' := [(2, 178), (0, b), (1, m), (3, 0), (0, (q + 1)), (3, 0), (3, 0)]) (pc := 202) hX 114 rfl rfl (by decide) rfl ?_
                      refine r_goto (pc := 205) hX 115 (tgt := 177) rfl (by decide) ?_
                      exact (ih177 (q + 1) (up v177 196 q ((v177 180 (36 + q)) - 1)) ((hfr177).arr (r := 196) (by decide) (by decide)) (by rw [up_f (by decide)]; exact hCsI_177) (by rw [up_f (by decide)]; exact hChI_177) (by rw [up_f (by decide)]; exact hSInv_177) (by omega) (by rw [up_r (by decide)]; exact in_) (by omega))
                exact (L177 _ 0 v171 ((hfr170).tr hfr171 (by decide) (by decide)) (hCsI_171) (hq171) (hSInv_171) (by omega) (by omega) (Nat.lt_succ_self _))
              first | refine r_if_le (pc := 160) hX 89 (tgt := 170) rfl (by decide) (⟨by omega, by omega⟩) (fun h160 => ?_) (fun h160 => ?_) | refine r_if_le_any (pc := 160) hX 89 (tgt := 170) rfl (by decide) ?_ ?_
              · exact (L170  v75 (hfr75) (by first | exact hCsI_75 | (rw [up_f (by decide)]; exact hCsI_75)) (by first | exact hChI_75 | exact ChI.st hChI_75 (by omega) (by omega)) (hSInv_75) (by first | exact in_ | (rw [up_r (by decide)]; exact in_)) )
              · refine t_getR (pc := 163) hX 90 rfl rfl rfl fl_X12_80 rfl hG.1 (a_choice hG).1 ?_
                refine r_iconst (pc := 167) hX 92 rfl ?_
                refine r_iload_n (pc := 168) hX 93 rfl rfl ?_
                refine e_iast (pc := 169) hX 94 rfl (a_choice hG).2.1 (a_choice hG).2.2 (by decide) (by omega) (by omega) ?_
                exact (L170  (up v75 195 0 b) ((hfr75).arr (r := 195) (by decide) (by decide)) (by first | exact hCsI_75 | (rw [up_f (by decide)]; exact hCsI_75)) (by first | exact hChI_75 | exact ChI.st hChI_75 (by omega) (by omega)) (by rw [up_f (by decide)]; exact hSInv_75) (by first | exact in_ | (rw [up_r (by decide)]; exact in_)) )
            first | refine r_icmp_ge (pc := 83) hX 50 (tgt := 156) rfl (by decide) (⟨by omega, by omega⟩) (⟨by omega, by omega⟩) (fun h83 => ?_) (fun h83 => ?_) | refine r_icmp_ge_any (pc := 83) hX 50 (tgt := 156) rfl (by decide) ?_ ?_
            · exact (L156   )
            · refine t_getI (y := (v75 178 35)) (pc := 86) hX 51 rfl rfl rfl fl_X12_391 rfl hG.1 (rfl) ?_
              first | refine r_if_le (pc := 90) hX 53 (tgt := 156) rfl (by decide) (⟨by omega, by omega⟩) (fun h90 => ?_) (fun h90 => ?_) | refine r_if_le_any (pc := 90) hX 53 (tgt := 156) rfl (by decide) ?_ ?_
              · exact (L156   )
              · refine r_aload_n (pc := 93) hX 54 rfl rfl ?_
                refine r_iload (pc := 94) hX 55 rfl rfl ?_
                refine r_iconst (pc := 96) hX 56 rfl ?_
                refine r_callV (as := [(0, c), (0, 0)]) (st := []) (K := 12) (pc := 97) hX 57 rfl mo_m_isTaken ml_X12_394 im_m_isTaken se_m_isTaken (c_isTaken g v75 ρ Z hG (c) (0) (hSInv_75) (by omega)) rfl rfl rfl hG.1 (by rw [hRm]; exact ⟨by decide, by decide⟩) (by rw [hRm]; exact ⟨by decide, by decide⟩) (Nat.le_of_ble_eq_true rfl) (fun o97 v97 ρ97 Z97 hq97 _ => ?_)
                obtain ⟨rfl, rfl, rfl, r97, rfl, hq97⟩ := hq97
                show wp g X F_m_chooses 0 0 100 [(2, 178), (0, b), (1, m), (3, 0), (0, c), (3, 0), (3, 0)] [(0, r97)] v75 ρ Z
                first | refine r_if_eq (pc := 100) hX 58 (tgt := 106) rfl (by decide) (⟨by omega, by omega⟩) (fun h100 => ?_) (fun h100 => ?_) | refine r_if_eq_any (pc := 100) hX 58 (tgt := 106) rfl (by decide) ?_ ?_
                · refine t_getR (pc := 106) hX 60 rfl rfl rfl fl_X12_80 rfl hG.1 (a_choice hG).1 ?_
                  refine r_iconst (pc := 110) hX 62 rfl ?_
                  refine r_iload (pc := 111) hX 63 rfl rfl ?_
                  refine e_iast (pc := 113) hX 64 rfl (a_choice hG).2.1 (a_choice hG).2.2 (by decide) (by omega) (by omega) ?_
                  refine r_aload_n (pc := 114) hX 65 rfl rfl ?_
                  refine r_callV (as := []) (st := []) (K := 12) (pc := 115) hX 66 rfl mo_m_choosesBehind ml_X12_406 im_m_choosesBehind se_m_choosesBehind (c_choosesBehind g (up v75 195 0 c) ρ Z hG  (by rw [up_f (by decide)]; exact hSInv_75) (ChI.st hChI_75 (by omega) (by omega)) (by rw [up_f (by decide)]; exact hCsI_75) (by rw [up_r (by decide)]; omega)) rfl rfl rfl hG.1 (by rw [hRm]; exact ⟨by decide, by decide⟩) (by rw [hRm]; exact ⟨by decide, by decide⟩) (Nat.le_of_ble_eq_true rfl) (fun o115 v115 ρ115 Z115 hq115 _ => ?_)
                  obtain ⟨rfl, rfl, hfr115, rfl, hq115⟩ := hq115
                  try simp only [up_f (show (180 : Int) ≠ 195 by decide)] at hq115
                  have hSInv_115 : SInv (v115 180) := by rw [hfr115.1 180 (by decide) (by decide), up_f (by decide)]; exact hSInv_75
                  have hCsI_115 : CsI (v115 194) := by rw [hfr115.1 194 (by decide) (by decide), up_f (by decide)]; exact hCsI_75
                  have hk115_35 : v115 178 35 = (v75 178 35) := (hfr115.2 35 (by decide)).trans ((up_r (by decide)).trans (rfl))
                  show wp g X F_m_chooses 0 0 118 [(2, 178), (0, b), (1, m), (3, 0), (0, c), (3, 0), (3, 0)] [] v115 ρ Z
                  refine r_aload_n (pc := 118) hX 67 rfl rfl ?_
                  refine t_getR (pc := 119) hX 68 rfl rfl rfl fl_X12_77 rfl hG.1 (a_chooser hG).1 ?_
                  refine r_iconst (pc := 123) hX 70 rfl ?_
                  refine e_iald (y := (v115 194 0)) (pc := 124) hX 71 rfl (a_chooser hG).2.1 (a_chooser hG).2.2 (by omega) (by omega) (rfl) ?_
                  have hb124 := hCsI_115 0 (by omega) (by omega)
                  refine r_callV (as := [(0, (v115 194 0))]) (st := []) (K := 12) (pc := 125) hX 72 rfl mo_m_likelyBy ml_X12_397 im_m_likelyBy se_m_likelyBy (c_likelyBy g v115 ρ Z hG ((v115 194 0)) (hSInv_115) (hq115) (hCsI_115) (by omega) (by omega)) rfl rfl rfl hG.1 (by rw [hRm]; exact ⟨by decide, by decide⟩) (by rw [hRm]; exact ⟨by decide, by decide⟩) (Nat.le_of_ble_eq_true rfl) (fun o125 v125 ρ125 Z125 hq125 _ => ?_)
                  obtain ⟨rfl, rfl, hfr125, r125, rfl, hq125⟩ := hq125
                  have hSInv_125 : SInv (v125 180) := by rw [hfr125.1 180 (by decide) (by decide)]; exact hSInv_115
                  have hCsI_125 : CsI (v125 194) := by rw [hfr125.1 194 (by decide) (by decide)]; exact hCsI_115
                  have hk125_35 : v125 178 35 = (v115 178 35) := (hfr125.2 35 (by decide)).trans (rfl)
                  show wp g X F_m_chooses 0 0 128 [(2, 178), (0, b), (1, m), (3, 0), (0, c), (3, 0), (3, 0)] [(1, r125)] v125 ρ Z
                  refine r_lstore (ls' := [(2, 178), (0, b), (1, m), (3, 0), (0, c), (1, r125), (3, 0)]) (pc := 128) hX 73 rfl (by decide) rfl ?_
                  refine r_iload_n (pc := 130) hX 74 rfl rfl ?_
                  first | refine r_if_lt (pc := 131) hX 75 (tgt := 144) rfl (by decide) (⟨by omega, by omega⟩) (fun h131 => ?_) (fun h131 => ?_) | refine r_if_lt_any (pc := 131) hX 75 (tgt := 144) rfl (by decide) ?_ ?_
                  · refine r_iload (pc := 144) hX 81 rfl rfl ?_
                    refine r_istore_n (ls' := [(2, 178), (0, c), (1, m), (3, 0), (0, c), (1, r125), (3, 0)]) (pc := 146) hX 82 rfl (by decide) rfl ?_
                    refine r_lload (pc := 147) hX 83 rfl rfl ?_
                    refine r_lstore_n (ls' := [(2, 178), (0, c), (1, r125), (3, 0), (0, c), (1, r125), (3, 0)]) (pc := 149) hX 84 rfl (by decide) rfl ?_
                    refine r_iinc (ls' := [(2, 178), (0, c), (1, r125), (3, 0), (0, (c + 1)), (1, r125), (3, 0)]) (pc := 150) hX 85 rfl rfl (by decide) rfl ?_
                    refine r_goto (pc := 153) hX 86 (tgt := 75) rfl (by decide) ?_
                    refine r_wk (ls' := [(2, 178), (0, c), (1, r125), (3, 0), (0, (c + 1)), (3, 0), (3, 0)]) ⟨Or.inr rfl, Or.inr rfl, Or.inr rfl, Or.inr rfl, Or.inr rfl, Or.inl rfl, Or.inr rfl, trivial⟩ ?_
                    exact (ih75 c r125 (c + 1) v125 ((((hfr75).arr (r := 195) (by decide) (by decide)).tr hfr115 (by decide) (by decide)).tr hfr125 (by decide) (by decide)) (by first | exact hCsI_75 | exact hCsI_125) (by first | exact hChI_75 | (rw [hfr125.1 195 (by decide) (by decide)]; exact hq115)) (hSInv_125) (by omega) (by omega) (by omega))
                  · refine r_lload (pc := 134) hX 76 rfl rfl ?_
                    refine r_lload_n (pc := 136) hX 77 rfl rfl ?_
                    refine r_lcmp_any (pc := 137) hX 78 rfl (fun z137 hz137a hz137b => ?_)
                    first | refine r_if_gt (pc := 138) hX 79 (tgt := 144) rfl (by decide) (⟨by omega, by omega⟩) (fun h138 => ?_) (fun h138 => ?_) | refine r_if_gt_any (pc := 138) hX 79 (tgt := 144) rfl (by decide) ?_ ?_
                    · refine r_iload (pc := 144) hX 81 rfl rfl ?_
                      refine r_istore_n (ls' := [(2, 178), (0, c), (1, m), (3, 0), (0, c), (1, r125), (3, 0)]) (pc := 146) hX 82 rfl (by decide) rfl ?_
                      refine r_lload (pc := 147) hX 83 rfl rfl ?_
                      refine r_lstore_n (ls' := [(2, 178), (0, c), (1, r125), (3, 0), (0, c), (1, r125), (3, 0)]) (pc := 149) hX 84 rfl (by decide) rfl ?_
                      refine r_iinc (ls' := [(2, 178), (0, c), (1, r125), (3, 0), (0, (c + 1)), (1, r125), (3, 0)]) (pc := 150) hX 85 rfl rfl (by decide) rfl ?_
                      refine r_goto (pc := 153) hX 86 (tgt := 75) rfl (by decide) ?_
                      refine r_wk (ls' := [(2, 178), (0, c), (1, r125), (3, 0), (0, (c + 1)), (3, 0), (3, 0)]) ⟨Or.inr rfl, Or.inr rfl, Or.inr rfl, Or.inr rfl, Or.inr rfl, Or.inl rfl, Or.inr rfl, trivial⟩ ?_
                      exact (ih75 c r125 (c + 1) v125 ((((hfr75).arr (r := 195) (by decide) (by decide)).tr hfr115 (by decide) (by decide)).tr hfr125 (by decide) (by decide)) (by first | exact hCsI_75 | exact hCsI_125) (by first | exact hChI_75 | (rw [hfr125.1 195 (by decide) (by decide)]; exact hq115)) (hSInv_125) (by omega) (by omega) (by omega))
                    · refine r_goto (pc := 141) hX 80 (tgt := 150) rfl (by decide) ?_
                      refine r_iinc (ls' := [(2, 178), (0, b), (1, m), (3, 0), (0, (c + 1)), (1, r125), (3, 0)]) (pc := 150) hX 85 rfl rfl (by decide) rfl ?_
                      refine r_goto (pc := 153) hX 86 (tgt := 75) rfl (by decide) ?_
                      refine r_wk (ls' := [(2, 178), (0, b), (1, m), (3, 0), (0, (c + 1)), (3, 0), (3, 0)]) ⟨Or.inr rfl, Or.inr rfl, Or.inr rfl, Or.inr rfl, Or.inr rfl, Or.inl rfl, Or.inr rfl, trivial⟩ ?_
                      exact (ih75 b m (c + 1) v125 ((((hfr75).arr (r := 195) (by decide) (by decide)).tr hfr115 (by decide) (by decide)).tr hfr125 (by decide) (by decide)) (by first | exact hCsI_75 | exact hCsI_125) (by first | exact hChI_75 | (rw [hfr125.1 195 (by decide) (by decide)]; exact hq115)) (hSInv_125) (by omega) (by omega) (by omega))
                · refine r_goto (pc := 103) hX 59 (tgt := 150) rfl (by decide) ?_
                  refine r_iinc (ls' := [(2, 178), (0, b), (1, m), (3, 0), (0, (c + 1)), (3, 0), (3, 0)]) (pc := 150) hX 85 rfl rfl (by decide) rfl ?_
                  refine r_goto (pc := 153) hX 86 (tgt := 75) rfl (by decide) ?_
                  exact (ih75 b m (c + 1) v75 (hfr75) (by first | exact hCsI_75 | exact hCsI_125) (by first | exact hChI_75 | (rw [hfr125.1 195 (by decide) (by decide)]; exact hq115)) (hSInv_75) (by omega) (by omega) (by omega))
        exact (L75 _ (-1) 0 0 v7 (hfr7) (hCsI_7) (hChI_7) (hSInv_7) (by omega) (by omega) (Nat.lt_succ_self _))
      · refine t_getR (pc := 17) hX 11 rfl rfl rfl fl_X12_33 rfl hG.1 (a_s hG).1 ?_
        refine r_bipush (pc := 21) hX 13 rfl (by decide) ?_
        refine r_iload_n (pc := 23) hX 14 rfl rfl ?_
        refine r_iadd (pc := 24) hX 15 rfl ?_
        refine e_iald (y := (v7 180 (36 + q))) (pc := 25) hX 16 rfl (a_s hG).2.1 (a_s hG).2.2 (by omega) (by omega) (rfl) ?_
        have hb25 := hSInv_7.c36 q (by omega) (by omega)
        first | refine r_if_le (pc := 26) hX 17 (tgt := 32) rfl (by decide) (⟨by omega, by omega⟩) (fun h26 => ?_) (fun h26 => ?_) | refine r_if_le_any (pc := 26) hX 17 (tgt := 32) rfl (by decide) ?_ ?_
        · refine t_getR (pc := 32) hX 19 rfl rfl rfl fl_X12_77 rfl hG.1 (a_chooser hG).1 ?_
          refine t_getI (y := (v7 178 35)) (pc := 36) hX 21 rfl rfl rfl fl_X12_391 rfl hG.1 (rfl) ?_
          refine r_iload_n (pc := 40) hX 23 rfl rfl ?_
          refine e_iast (pc := 41) hX 24 rfl (a_chooser hG).2.1 (a_chooser hG).2.2 (by decide) (by omega) (by omega) ?_
          refine t_getR (pc := 42) hX 25 rfl rfl rfl fl_X12_80 rfl hG.1 (a_choice hG).1 ?_
          refine t_getI (y := (v7 178 35)) (pc := 46) hX 27 rfl rfl rfl fl_X12_391 rfl hG.1 ((up_r (by decide)).trans (rfl)) ?_
          refine r_iconst (pc := 50) hX 29 rfl ?_
          refine e_iast (pc := 51) hX 30 rfl (a_choice hG).2.1 (a_choice hG).2.2 (by decide) (by omega) (by omega) ?_
          refine r_aload_n (pc := 52) hX 31 rfl rfl ?_
          refine r_dup (pc := 53) hX 32 rfl (show (2 : Nat) ≠ 1 by decide) ?_
          refine e_getI (y := (v7 178 35)) (pc := 54) hX 33 rfl fl_X12_391 rfl hG.1 ((up_r (by decide)).trans ((up_r (by decide)).trans (rfl))) ?_
          refine r_iconst (pc := 57) hX 34 rfl ?_
          refine r_iadd (pc := 58) hX 35 rfl ?_
          refine r_putI (pc := 59) hX 36 rfl fl_X12_391 rfl (fun _ h => by cases h; rfl) hG.1 (by decide) ?_
          refine r_iinc (ls' := [(2, 178), (0, (q + 1)), (3, 0), (3, 0), (3, 0), (3, 0), (3, 0)]) (pc := 62) hX 37 rfl rfl (by decide) rfl ?_
          refine r_goto (pc := 65) hX 38 (tgt := 7) rfl (by decide) ?_
          exact (ih7 (q + 1) (up (up (up v7 194 (v7 178 35) q) 195 (v7 178 35) (-1)) 178 35 ((v7 178 35) + 1)) ((((hfr7).arr (r := 194) (by decide) (by decide)).arr (r := 195) (by decide) (by decide)).fld (k := 35) (by decide)) (by first | exact hCsI_7 | (rw [up_f (by decide), up_f (by decide)]; exact CsI.st hCsI_7 (by omega) (by omega))) (by first | exact hChI_7 | (rw [up_f (by decide)]; refine ChI.st ?_ (by omega) (by omega); rw [up_f (by decide)]; exact hChI_7)) (by rw [up_f (by decide), up_f (by decide), up_f (by decide)]; exact hSInv_7) (by omega) (by first | omega | (rw [up_s]; omega)) (by omega))
        · refine r_goto (pc := 29) hX 18 (tgt := 62) rfl (by decide) ?_
          refine r_iinc (ls' := [(2, 178), (0, (q + 1)), (3, 0), (3, 0), (3, 0), (3, 0), (3, 0)]) (pc := 62) hX 37 rfl rfl (by decide) rfl ?_
          refine r_goto (pc := 65) hX 38 (tgt := 7) rfl (by decide) ?_
          exact (ih7 (q + 1) v7 (hfr7) (by first | exact hCsI_7 | (rw [up_f (by decide), up_f (by decide)]; exact CsI.st hCsI_7 (by omega) (by omega))) (by first | exact hChI_7 | (rw [up_f (by decide)]; refine ChI.st ?_ (by omega) (by omega); rw [up_f (by decide)]; exact hChI_7)) (hSInv_7) (by omega) (by first | omega | (rw [up_s]; omega)) (by omega))
  exact (L7 _ 0 (up v 178 35 0) ((Fr.rf).fld (k := 35) (by decide)) (by rw [up_f (by decide)]; exact hI) (by rw [up_f (by decide)]; exact hH) (by rw [up_f (by decide)]; exact hS) (by omega) (by rw [up_s]; omega) (Nat.lt_succ_self _))
set_option maxHeartbeats 4000000 in
set_option maxRecDepth 100000 in
theorem c_chosen (g : Gp) (v ρ : Mv) (Z : Mz) (hG : GM ρ Z) (q : Int) (hS : SInv (v 180)) (hH : ChI (v 195)) (hI : CsI (v 194)) (hq : inR q) : Ok g 9 0 0 F_m_chosen [(2, 178), (0, q)] v ρ Z (fun o v' ρ' Z' => ρ = ρ' ∧ Z = Z' ∧ Fr [185, 186, 189, 190, 191, 192, 193, 194, 195, 196] [0, 31, 35] v v' ∧ ∃ r : Int, o = some (0, r) ∧ (ChI (v' 195)) ∧ (CsI (v' 194))) := by
  refine Ok.of mo_m_chosen (Nat.le_of_ble_eq_true rfl) ?_
  intro X hX hRm hxn hQ
  show wp g X F_m_chosen 0 0 0 [(2, 178), (0, q)] [] v ρ Z
  have hb2 := hS.c2
  refine r_aload_n (pc := 0) hX 0 rfl rfl ?_
  refine r_iconst (pc := 1) hX 1 rfl ?_
  refine r_putI (pc := 2) hX 2 rfl fl_X12_1 rfl (fun _ h => by cases h; rfl) hG.1 (by decide) ?_
  refine r_aload_n (pc := 5) hX 3 rfl rfl ?_
  refine r_iload_n (pc := 6) hX 4 rfl rfl ?_
  refine r_callV (as := [(0, q)]) (st := []) (K := 12) (pc := 7) hX 5 rfl mo_m_isPlayer ml_X12_294 im_m_isPlayer se_m_isPlayer (c_isPlayer g (up v 178 0 0) ρ Z hG (q) (by rw [up_f (by decide)]; exact hS) (by omega)) rfl rfl rfl hG.1 (by rw [hRm]; exact ⟨by decide, by decide⟩) (by rw [hRm]; exact ⟨by decide, by decide⟩) (Nat.le_of_ble_eq_true rfl) (fun o7 v7 ρ7 Z7 hq7 _ => ?_)
  obtain ⟨rfl, rfl, rfl, r7, rfl, hq7⟩ := hq7
  try simp only [up_f (show (180 : Int) ≠ 178 by decide)] at hq7
  show wp g X F_m_chosen 0 0 10 [(2, 178), (0, q)] [(0, r7)] (up v 178 0 0) ρ Z
  first | refine r_if_ne (pc := 10) hX 6 (tgt := 15) rfl (by decide) (⟨by omega, by omega⟩) (fun h10 => ?_) (fun h10 => ?_) | refine r_if_ne_any (pc := 10) hX 6 (tgt := 15) rfl (by decide) ?_ ?_
  · refine r_aload_n (pc := 15) hX 9 rfl rfl ?_
    refine r_callV (as := []) (st := []) (K := 12) (pc := 16) hX 10 rfl mo_m_chooses ml_X12_409 im_m_chooses se_m_chooses (c_chooses g (up v 178 0 0) ρ Z hG  (by rw [up_f (by decide)]; exact hS) (by rw [up_f (by decide)]; exact hH) (by rw [up_f (by decide)]; exact hI)) rfl rfl rfl hG.1 (by rw [hRm]; exact ⟨by decide, by decide⟩) (by rw [hRm]; exact ⟨by decide, by decide⟩) (Nat.le_of_ble_eq_true rfl) (fun o16 v16 ρ16 Z16 hq16 _ => ?_)
    obtain ⟨rfl, rfl, hfr16, rfl, hq16⟩ := hq16
    try simp only [up_f (show (180 : Int) ≠ 178 by decide)] at hq16
    have hSInv_16 : SInv (v16 180) := by rw [hfr16.1 180 (by decide) (by decide), up_f (by decide)]; exact hS
    show wp g X F_m_chosen 0 0 19 [(2, 178), (0, q)] [] v16 ρ Z
    refine t_getR (pc := 19) hX 11 rfl rfl rfl fl_X12_83 rfl hG.1 (a_chosenRow hG).1 ?_
    refine r_iload_n (pc := 23) hX 13 rfl rfl ?_
    refine e_iald (y := (v16 196 q)) (pc := 24) hX 14 rfl (a_chosenRow hG).2.1 (a_chosenRow hG).2.2 (by omega) (by omega) (rfl) ?_
    exact r_iret (pc := 25) hX 15 hQ rfl rfl (Nat.le_refl 0) (Nat.le_refl 0) ⟨rfl, rfl, ((Fr.rf).fld (k := 0) (by decide)).tr hfr16 (by decide) (by decide), (v16 196 q), rfl, (hq16.1), (hq16.2.1)⟩
  · refine r_iconst (pc := 13) hX 7 rfl ?_
    exact r_iret (pc := 14) hX 8 hQ rfl rfl (Nat.le_refl 0) (Nat.le_refl 0) ⟨rfl, rfl, (Fr.rf).fld (k := 0) (by decide), (-1), rfl, (by rw [up_f (by decide)]; exact hH), (by rw [up_f (by decide)]; exact hI)⟩
set_option maxHeartbeats 4000000 in
set_option maxRecDepth 100000 in
theorem c_chance (g : Gp) (v ρ : Mv) (Z : Mz) (hG : GM ρ Z) (q what : Int) (hS : SInv (v 180)) (hH : ChI (v 195)) (hI : CsI (v 194)) (hq : inR q) (hw : inR what) : Ok g 9 0 0 F_m_chance [(2, 178), (0, q), (0, what)] v ρ Z (fun o v' ρ' Z' => ρ = ρ' ∧ Z = Z' ∧ Fr [185, 186, 189, 190, 191, 192, 193, 194, 195, 196] [0, 31, 35] v v' ∧ ∃ r : Int, o = some (1, r) ∧ (ChI (v' 195)) ∧ (CsI (v' 194))) := by
  refine Ok.of mo_m_chance (Nat.le_of_ble_eq_true rfl) ?_
  intro X hX hRm hxn hQ
  show wp g X F_m_chance 0 0 0 [(2, 178), (0, q), (0, what)] [] v ρ Z
  have hb2 := hS.c2
  refine r_aload_n (pc := 0) hX 0 rfl rfl ?_
  refine r_aload_n (pc := 1) hX 1 rfl rfl ?_
  refine r_iload_n (pc := 2) hX 2 rfl rfl ?_
  refine r_callV (as := [(0, q)]) (st := [(2, 178)]) (K := 12) (pc := 3) hX 3 rfl mo_m_isPlayer ml_X12_294 im_m_isPlayer se_m_isPlayer (c_isPlayer g v ρ Z hG (q) (hS) (by omega)) rfl rfl rfl hG.1 (by rw [hRm]; exact ⟨by decide, by decide⟩) (by rw [hRm]; exact ⟨by decide, by decide⟩) (Nat.le_of_ble_eq_true rfl) (fun o3 v3 ρ3 Z3 hq3 _ => ?_)
  obtain ⟨rfl, rfl, rfl, r3, rfl, hq3⟩ := hq3
  show wp g X F_m_chance 0 0 6 [(2, 178), (0, q), (0, what)] [(0, r3), (2, 178)] v ρ Z
  first | refine r_if_eq (pc := 6) hX 4 (tgt := 16) rfl (by decide) (⟨by omega, by omega⟩) (fun h6 => ?_) (fun h6 => ?_) | refine r_if_eq_any (pc := 6) hX 4 (tgt := 16) rfl (by decide) ?_ ?_
  · refine r_iconst (pc := 16) hX 8 rfl ?_
    refine r_goto (pc := 17) hX 9 (tgt := 21) rfl (by decide) ?_
    refine r_callV (as := [(0, 1)]) (st := []) (K := 12) (pc := 21) hX 11 rfl mo_m_throwsIf ml_X12_297 im_m_throwsIf se_m_throwsIf (c_throwsIf g v ρ Z hG (1) (by omega)) rfl rfl rfl hG.1 (by rw [hRm]; exact ⟨by decide, by decide⟩) (by rw [hRm]; exact ⟨by decide, by decide⟩) (Nat.le_of_ble_eq_true rfl) (fun o21 v21 ρ21 Z21 hq21 _ => ?_)
    obtain ⟨rfl, rfl, hfr21, r21, rfl, hq21⟩ := hq21
    have hSInv_21 : SInv (v21 180) := by rw [hfr21.1 180 (by decide) (by decide)]; exact hS
    have hChI_21 : ChI (v21 195) := by rw [hfr21.1 195 (by decide) (by decide)]; exact hH
    have hCsI_21 : CsI (v21 194) := by rw [hfr21.1 194 (by decide) (by decide)]; exact hI
    obtain rfl : r21 = 1 := by omega
    show wp g X F_m_chance 0 0 24 [(2, 178), (0, q), (0, what)] [(0, 1)] v21 ρ Z
    first | refine r_if_eq (pc := 24) hX 12 (tgt := 29) rfl (by decide) (⟨by omega, by omega⟩) (fun h24 => ?_) (fun h24 => ?_) | refine r_if_eq_any (pc := 24) hX 12 (tgt := 29) rfl (by decide) ?_ ?_
    · exact absurd h24 (by decide)
    · refine r_lconst (pc := 27) hX 13 rfl ?_
      show wp g X F_m_chance 0 0 28 [(2, 178), (0, q), (0, what)] [(1, 0)] v21 ρ Z
      exact r_lret (pc := 28) hX 14 hQ rfl rfl (Nat.le_refl 0) (Nat.le_refl 0) ⟨rfl, rfl, (Fr.rf).tr hfr21 (by decide) (by decide), 0, rfl, (hChI_21), (hCsI_21)⟩
  · refine r_iload_n (pc := 9) hX 5 rfl rfl ?_
    refine r_callS (as := [(0, what)]) (st := [(2, 178)]) (pc := 10) hX 6 rfl mo_m_isPart ml_X12_381 stt_m_isPart (c_isPart g v ρ Z hG (what) (by omega)) rfl (by rw [hRm]; exact ⟨by decide, by decide⟩) (by rw [hRm]; exact ⟨by decide, by decide⟩) (Nat.le_of_ble_eq_true rfl) (fun o10 v10 ρ10 Z10 hq10 _ => ?_)
    obtain ⟨rfl, rfl, rfl, r10, rfl, hq10⟩ := hq10
    show wp g X F_m_chance 0 0 13 [(2, 178), (0, q), (0, what)] [(0, r10), (2, 178)] v ρ Z
    first | refine r_if_ne (pc := 13) hX 7 (tgt := 20) rfl (by decide) (⟨by omega, by omega⟩) (fun h13 => ?_) (fun h13 => ?_) | refine r_if_ne_any (pc := 13) hX 7 (tgt := 20) rfl (by decide) ?_ ?_
    · refine r_iconst (pc := 20) hX 10 rfl ?_
      refine r_callV (as := [(0, 0)]) (st := []) (K := 12) (pc := 21) hX 11 rfl mo_m_throwsIf ml_X12_297 im_m_throwsIf se_m_throwsIf (c_throwsIf g v ρ Z hG (0) (by omega)) rfl rfl rfl hG.1 (by rw [hRm]; exact ⟨by decide, by decide⟩) (by rw [hRm]; exact ⟨by decide, by decide⟩) (Nat.le_of_ble_eq_true rfl) (fun o21 v21 ρ21 Z21 hq21 _ => ?_)
      obtain ⟨rfl, rfl, hfr21, r21, rfl, hq21⟩ := hq21
      have hSInv_21 : SInv (v21 180) := by rw [hfr21.1 180 (by decide) (by decide)]; exact hS
      have hChI_21 : ChI (v21 195) := by rw [hfr21.1 195 (by decide) (by decide)]; exact hH
      have hCsI_21 : CsI (v21 194) := by rw [hfr21.1 194 (by decide) (by decide)]; exact hI
      obtain rfl : r21 = 0 := by omega
      show wp g X F_m_chance 0 0 24 [(2, 178), (0, q), (0, what)] [(0, 0)] v21 ρ Z
      first | refine r_if_eq (pc := 24) hX 12 (tgt := 29) rfl (by decide) (⟨by omega, by omega⟩) (fun h24 => ?_) (fun h24 => ?_) | refine r_if_eq_any (pc := 24) hX 12 (tgt := 29) rfl (by decide) ?_ ?_
      · refine r_aload_n (pc := 29) hX 15 rfl rfl ?_
        refine r_callV (as := []) (st := []) (K := 12) (pc := 30) hX 16 rfl mo_m_chooses ml_X12_409 im_m_chooses se_m_chooses (c_chooses g v21 ρ Z hG  (hSInv_21) (hChI_21) (hCsI_21)) rfl rfl rfl hG.1 (by rw [hRm]; exact ⟨by decide, by decide⟩) (by rw [hRm]; exact ⟨by decide, by decide⟩) (Nat.le_of_ble_eq_true rfl) (fun o30 v30 ρ30 Z30 hq30 _ => ?_)
        obtain ⟨rfl, rfl, hfr30, rfl, hq30⟩ := hq30
        have hSInv_30 : SInv (v30 180) := by rw [hfr30.1 180 (by decide) (by decide)]; exact hSInv_21
        show wp g X F_m_chance 0 0 33 [(2, 178), (0, q), (0, what)] [] v30 ρ Z
        refine r_aload_n (pc := 33) hX 17 rfl rfl ?_
        refine r_iload_n (pc := 34) hX 18 rfl rfl ?_
        refine r_callV (as := [(0, q)]) (st := []) (K := 12) (pc := 35) hX 19 rfl mo_m_likelyBy ml_X12_397 im_m_likelyBy se_m_likelyBy (c_likelyBy g v30 ρ Z hG (q) (hSInv_30) (hq30.1) (hq30.2.1) (hq30.2.2) (by omega)) rfl rfl rfl hG.1 (by rw [hRm]; exact ⟨by decide, by decide⟩) (by rw [hRm]; exact ⟨by decide, by decide⟩) (Nat.le_of_ble_eq_true rfl) (fun o35 v35 ρ35 Z35 hq35 _ => ?_)
        obtain ⟨rfl, rfl, hfr35, r35, rfl, hq35⟩ := hq35
        have hSInv_35 : SInv (v35 180) := by rw [hfr35.1 180 (by decide) (by decide)]; exact hSInv_30
        show wp g X F_m_chance 0 0 38 [(2, 178), (0, q), (0, what)] [(1, r35)] v35 ρ Z
        refine r_lany _ (fun z35 hz35 => ?_)
        refine t_getL (y := (v35 178 31)) (pc := 38) hX 20 rfl rfl rfl fl_X12_357 rfl hG.1 (rfl) ?_
        refine r_iload_n (pc := 42) hX 22 rfl rfl ?_
        refine r_callS (as := [(1, z35), (1, (v35 178 31)), (0, what)]) (st := []) (pc := 43) hX 23 rfl mo_m_part ml_X12_387 stt_m_part (c_part g v35 ρ Z hG (z35) ((v35 178 31)) (what) (hz35) (by omega) (by omega)) rfl (by rw [hRm]; exact ⟨by decide, by decide⟩) (by rw [hRm]; exact ⟨by decide, by decide⟩) (Nat.le_of_ble_eq_true rfl) (fun o43 v43 ρ43 Z43 hq43 _ => ?_)
        obtain ⟨rfl, rfl, rfl, r43, rfl, hq43⟩ := hq43
        show wp g X F_m_chance 0 0 46 [(2, 178), (0, q), (0, what)] [(1, r43)] v35 ρ Z
        exact r_lret (pc := 46) hX 24 hQ rfl rfl (Nat.le_refl 0) (Nat.le_refl 0) ⟨rfl, rfl, (((Fr.rf).tr hfr21 (by decide) (by decide)).tr hfr30 (by decide) (by decide)).tr hfr35 (by decide) (by decide), r43, rfl, (by rw [hfr35.1 195 (by decide) (by decide)]; exact hq30.1), (by rw [hfr35.1 194 (by decide) (by decide)]; exact hq30.2.1)⟩
      · exact absurd (by decide) h24
    · refine r_iconst (pc := 16) hX 8 rfl ?_
      refine r_goto (pc := 17) hX 9 (tgt := 21) rfl (by decide) ?_
      refine r_callV (as := [(0, 1)]) (st := []) (K := 12) (pc := 21) hX 11 rfl mo_m_throwsIf ml_X12_297 im_m_throwsIf se_m_throwsIf (c_throwsIf g v ρ Z hG (1) (by omega)) rfl rfl rfl hG.1 (by rw [hRm]; exact ⟨by decide, by decide⟩) (by rw [hRm]; exact ⟨by decide, by decide⟩) (Nat.le_of_ble_eq_true rfl) (fun o21 v21 ρ21 Z21 hq21 _ => ?_)
      obtain ⟨rfl, rfl, hfr21, r21, rfl, hq21⟩ := hq21
      have hSInv_21 : SInv (v21 180) := by rw [hfr21.1 180 (by decide) (by decide)]; exact hS
      have hChI_21 : ChI (v21 195) := by rw [hfr21.1 195 (by decide) (by decide)]; exact hH
      have hCsI_21 : CsI (v21 194) := by rw [hfr21.1 194 (by decide) (by decide)]; exact hI
      obtain rfl : r21 = 1 := by omega
      show wp g X F_m_chance 0 0 24 [(2, 178), (0, q), (0, what)] [(0, 1)] v21 ρ Z
      first | refine r_if_eq (pc := 24) hX 12 (tgt := 29) rfl (by decide) (⟨by omega, by omega⟩) (fun h24 => ?_) (fun h24 => ?_) | refine r_if_eq_any (pc := 24) hX 12 (tgt := 29) rfl (by decide) ?_ ?_
      · exact absurd h24 (by decide)
      · refine r_lconst (pc := 27) hX 13 rfl ?_
        show wp g X F_m_chance 0 0 28 [(2, 178), (0, q), (0, what)] [(1, 0)] v21 ρ Z
        exact r_lret (pc := 28) hX 14 hQ rfl rfl (Nat.le_refl 0) (Nat.le_refl 0) ⟨rfl, rfl, (Fr.rf).tr hfr21 (by decide) (by decide), 0, rfl, (hChI_21), (hCsI_21)⟩
set_option maxHeartbeats 4000000 in
set_option maxRecDepth 100000 in
theorem c_likelyWith (g : Gp) (v ρ : Mv) (Z : Mz) (hG : GM ρ Z) (q c bs : Int) (hS : SInv (v 180)) (hq : 0 ≤ q ∧ q ≤ 2) (hc : 0 ≤ c ∧ c ≤ 3) (hb : 0 ≤ bs ∧ bs ≤ 1) : Ok g 4 0 0 F_m_likelyWith [(2, 178), (0, q), (0, c), (0, bs)] v ρ Z (fun o v' ρ' Z' => ρ = ρ' ∧ Z = Z' ∧ Fr [185, 186, 189, 190, 191, 192, 193] [31] v v' ∧ ∃ r : Int, o = some (1, r) ∧ (0 < v' 178 31 ∧ v' 178 31 ≤ 240734712102912)) := by
  refine Ok.of mo_m_likelyWith (Nat.le_of_ble_eq_true rfl) ?_
  intro X hX hRm hxn hQ
  show wp g X F_m_likelyWith 0 0 0 [(2, 178), (0, q), (0, c), (0, bs)] [] v ρ Z
  refine r_aload_n (pc := 0) hX 0 rfl rfl ?_
  refine r_callV (as := []) (st := []) (K := 12) (pc := 1) hX 1 rfl mo_m_weighs ml_X12_319 im_m_weighs se_m_weighs (c_weighs g v ρ Z hG  (hS)) rfl rfl rfl hG.1 (by rw [hRm]; exact ⟨by decide, by decide⟩) (by rw [hRm]; exact ⟨by decide, by decide⟩) (Nat.le_of_ble_eq_true rfl) (fun o1 v1 ρ1 Z1 hq1 _ => ?_)
  obtain ⟨rfl, rfl, hfr1, rfl, hq1⟩ := hq1
  have hSInv_1 : SInv (v1 180) := by rw [hfr1.1 180 (by decide) (by decide)]; exact hS
  show wp g X F_m_likelyWith 0 0 4 [(2, 178), (0, q), (0, c), (0, bs)] [] v1 ρ Z
  refine r_aload_n (pc := 4) hX 2 rfl rfl ?_
  refine r_callV (as := []) (st := []) (K := 12) (pc := 5) hX 3 rfl mo_m_asNow ml_X12_301 im_m_asNow se_m_asNow (c_asNow g v1 ρ Z hG  (hSInv_1)) rfl rfl rfl hG.1 (by rw [hRm]; exact ⟨by decide, by decide⟩) (by rw [hRm]; exact ⟨by decide, by decide⟩) (Nat.le_of_ble_eq_true rfl) (fun o5 v5 ρ5 Z5 hq5 _ => ?_)
  obtain ⟨rfl, rfl, hfr5, rfl, hq5⟩ := hq5
  have hSInv_5 : SInv (v5 180) := by rw [hfr5.1 180 (by decide) (by decide)]; exact hSInv_1
  show wp g X F_m_likelyWith 0 0 8 [(2, 178), (0, q), (0, c), (0, bs)] [] v5 ρ Z
  have hN := nowP hS (hfr1.1 180 (by decide) (by decide)) hq1 (hfr5.1 180 (by decide) (by decide)) (hfr5.1 189 (by decide) (by decide)) hq5
  refine r_iload_n (pc := 8) hX 4 rfl rfl ?_
  have L41 : ∀ (v41 : Mv) , (Fr [185, 186, 189, 190, 191, 192, 193] [31] v v41) → (OwI (v41 186)) → (SInv (v41 180)) → (v41 185 = v5 185) → (v41 189 = v5 189) → (v41 180 = v5 180) → wp g X F_m_likelyWith 0 0 41 [(2, 178), (0, q), (0, c), (0, bs)] [] v41 ρ Z := by
    intro v41 hfr41 hOwI_41 hSInv_41 e185 e189 e180
    refine t_getR (pc := 41) hX 25 rfl rfl rfl fl_X12_53 rfl hG.1 (a_own hG).1 ?_
    refine r_iload_n (pc := 45) hX 27 rfl rfl ?_
    refine r_iload_n (pc := 46) hX 28 rfl rfl ?_
    refine e_iast (pc := 47) hX 29 rfl (a_own hG).2.1 (a_own hG).2.2 (by decide) (by omega) (by omega) ?_
    refine r_aload_n (pc := 48) hX 30 rfl rfl ?_
    refine r_aload_n (pc := 49) hX 31 rfl rfl ?_
    refine r_callV (as := []) (st := [(2, 178)]) (K := 12) (pc := 50) hX 32 rfl mo_m_carsLeft ml_X12_374 im_m_carsLeft se_m_carsLeft (c_carsLeft g (up v41 186 c q) ρ Z hG  (by rw [up_f (by decide)]; exact hSInv_41)) rfl rfl rfl hG.1 (by rw [hRm]; exact ⟨by decide, by decide⟩) (by rw [hRm]; exact ⟨by decide, by decide⟩) (Nat.le_of_ble_eq_true rfl) (fun o50 v50 ρ50 Z50 hq50 _ => ?_)
    obtain ⟨rfl, rfl, rfl, r50, rfl, hq50⟩ := hq50
    try simp only [up_f (show (180 : Int) ≠ 186 by decide)] at hq50
    show wp g X F_m_likelyWith 0 0 53 [(2, 178), (0, q), (0, c), (0, bs)] [(0, r50), (2, 178)] (up v41 186 c q) ρ Z
    refine r_aload_n (pc := 53) hX 33 rfl rfl ?_
    refine r_callV (as := []) (st := [(0, r50), (2, 178)]) (K := 12) (pc := 54) hX 34 rfl mo_m_hasEnded ml_X12_307 im_m_hasEnded se_m_hasEnded (c_hasEnded g (up v41 186 c q) ρ Z hG  (by rw [up_f (by decide)]; exact hSInv_41)) rfl rfl rfl hG.1 (by rw [hRm]; exact ⟨by decide, by decide⟩) (by rw [hRm]; exact ⟨by decide, by decide⟩) (Nat.le_of_ble_eq_true rfl) (fun o54 v54 ρ54 Z54 hq54 _ => ?_)
    obtain ⟨rfl, rfl, rfl, r54, rfl, hq54⟩ := hq54
    try simp only [up_f (show (180 : Int) ≠ 186 by decide)] at hq54
    show wp g X F_m_likelyWith 0 0 57 [(2, 178), (0, q), (0, c), (0, bs)] [(0, r54), (0, r50), (2, 178)] (up v41 186 c q) ρ Z
    refine r_callV (as := [(0, r50), (0, r54)]) (st := []) (K := 12) (pc := 57) hX 35 rfl mo_m_goes ml_X12_377 im_m_goes se_m_goes (c_goes g (up v41 186 c q) ρ Z hG (r50) (r54) (by rw [up_f (by decide)]; exact hSInv_41) (by rw [up_f (by decide), e185]; exact hN.1) (OwI.st hOwI_41 (by omega) (by omega) (by omega)) (by rw [up_f (by decide), up_f (by decide), e185, e180]; exact hN.2.2.1) (by omega) (by omega) (by rw [hq50.2.2, up_f (by decide), up_f (by decide), e189, e180]; exact hN.2.2.2)) rfl rfl rfl hG.1 (by rw [hRm]; exact ⟨by decide, by decide⟩) (by rw [hRm]; exact ⟨by decide, by decide⟩) (Nat.le_of_ble_eq_true rfl) (fun o57 v57 ρ57 Z57 hq57 _ => ?_)
    obtain ⟨rfl, rfl, hfr57, rfl, hq57⟩ := hq57
    try simp only [up_f (show (180 : Int) ≠ 186 by decide)] at hq57
    have hSInv_57 : SInv (v57 180) := by rw [hfr57.1 180 (by decide) (by decide), up_f (by decide)]; exact hSInv_41
    show wp g X F_m_likelyWith 0 0 60 [(2, 178), (0, q), (0, c), (0, bs)] [] v57 ρ Z
    refine t_getR (pc := 60) hX 36 rfl rfl rfl fl_X12_71 rfl hG.1 (a_wonBy hG).1 ?_
    refine r_iload_n (pc := 64) hX 38 rfl rfl ?_
    refine e_lald (y := (v57 192 q)) (pc := 65) hX 39 rfl (a_wonBy hG).2.1 (a_wonBy hG).2.2 (by omega) (by omega) (rfl) ?_
    exact r_lret (pc := 66) hX 40 hQ rfl rfl (Nat.le_refl 0) (Nat.le_refl 0) ⟨rfl, rfl, ((hfr41).arr (r := 186) (by decide) (by decide)).tr hfr57 (by decide) (by decide), (v57 192 q), rfl, (hq57)⟩
  first | refine r_if_ne (pc := 9) hX 5 (tgt := 41) rfl (by decide) (⟨by omega, by omega⟩) (fun h9 => ?_) (fun h9 => ?_) | refine r_if_ne_any (pc := 9) hX 5 (tgt := 41) rfl (by decide) ?_ ?_
  · exact (L41  v5 (((Fr.rf).tr hfr1 (by decide) (by decide)).tr hfr5 (by decide) (by decide)) (by first | exact hN.2.1 | exact OwI.st hN.2.1 (by omega) (by omega) (by omega)) (hSInv_5) (by first | rfl | exact e185 | (rw [up_f (by decide)]; first | rfl | exact e185)) (by first | rfl | exact e189 | (rw [up_f (by decide)]; first | rfl | exact e189)) (by first | rfl | exact e180 | (rw [up_f (by decide)]; first | rfl | exact e180)) )
  · refine t_getR (pc := 12) hX 6 rfl rfl rfl fl_X12_33 rfl hG.1 (a_s hG).1 ?_
    refine r_bipush (pc := 16) hX 8 rfl (by decide) ?_
    refine r_iload_n (pc := 18) hX 9 rfl rfl ?_
    refine r_iadd (pc := 19) hX 10 rfl ?_
    refine e_iald (y := (v5 180 (36 + q))) (pc := 20) hX 11 rfl (a_s hG).2.1 (a_s hG).2.2 (by omega) (by omega) (rfl) ?_
    have hb20 := hSInv_5.c36 q (by omega) (by omega)
    first | refine r_if_le (pc := 21) hX 12 (tgt := 41) rfl (by decide) (⟨by omega, by omega⟩) (fun h21 => ?_) (fun h21 => ?_) | refine r_if_le_any (pc := 21) hX 12 (tgt := 41) rfl (by decide) ?_ ?_
    · exact (L41  v5 (((Fr.rf).tr hfr1 (by decide) (by decide)).tr hfr5 (by decide) (by decide)) (by first | exact hN.2.1 | exact OwI.st hN.2.1 (by omega) (by omega) (by omega)) (hSInv_5) (by first | rfl | exact e185 | (rw [up_f (by decide)]; first | rfl | exact e185)) (by first | rfl | exact e189 | (rw [up_f (by decide)]; first | rfl | exact e189)) (by first | rfl | exact e180 | (rw [up_f (by decide)]; first | rfl | exact e180)) )
    · refine t_getR (pc := 24) hX 13 rfl rfl rfl fl_X12_53 rfl hG.1 (a_own hG).1 ?_
      refine t_getR (pc := 28) hX 15 rfl rfl rfl fl_X12_33 rfl hG.1 (a_s hG).1 ?_
      refine r_bipush (pc := 32) hX 17 rfl (by decide) ?_
      refine r_iload_n (pc := 34) hX 18 rfl rfl ?_
      refine r_iadd (pc := 35) hX 19 rfl ?_
      refine e_iald (y := (v5 180 (36 + q))) (pc := 36) hX 20 rfl (a_s hG).2.1 (a_s hG).2.2 (by omega) (by omega) (rfl) ?_
      have hb36 := hSInv_5.c36 q (by omega) (by omega)
      refine r_iconst (pc := 37) hX 21 rfl ?_
      refine r_isub (pc := 38) hX 22 rfl ?_
      refine r_iconst (pc := 39) hX 23 rfl ?_
      refine e_iast (pc := 40) hX 24 rfl (a_own hG).2.1 (a_own hG).2.2 (by decide) (by omega) (by omega) ?_
      exact (L41  (up v5 186 ((v5 180 (36 + q)) - 1) (-1)) ((((Fr.rf).tr hfr1 (by decide) (by decide)).tr hfr5 (by decide) (by decide)).arr (r := 186) (by decide) (by decide)) (by first | exact hN.2.1 | exact OwI.st hN.2.1 (by omega) (by omega) (by omega)) (by rw [up_f (by decide)]; exact hSInv_5) (by first | rfl | exact e185 | (rw [up_f (by decide)]; first | rfl | exact e185)) (by first | rfl | exact e189 | (rw [up_f (by decide)]; first | rfl | exact e189)) (by first | rfl | exact e180 | (rw [up_f (by decide)]; first | rfl | exact e180)) )
set_option maxHeartbeats 4000000 in
set_option maxRecDepth 100000 in
theorem c_which (g : Gp) (v ρ : Mv) (Z : Mz) (hG : GM ρ Z) (q : Int) (hS : SInv (v 180)) (hq : inR q) : Ok g 5 0 0 F_m_which [(2, 178), (0, q)] v ρ Z (fun o v' ρ' Z' => ρ = ρ' ∧ Z = Z' ∧ Fr [185, 186, 189, 190, 191, 192, 193] [0, 31] v v' ∧ ∃ r : Int, o = some (0, r) ∧ True) := by
  refine Ok.of mo_m_which (Nat.le_of_ble_eq_true rfl) ?_
  intro X hX hRm hxn hQ
  show wp g X F_m_which 0 0 0 [(2, 178), (0, q), (3, 0), (3, 0), (3, 0), (3, 0), (3, 0), (3, 0)] [] v ρ Z
  have hb2 := hS.c2
  have hb0 := hS.c0
  refine r_aload_n (pc := 0) hX 0 rfl rfl ?_
  refine r_iconst (pc := 1) hX 1 rfl ?_
  refine r_putI (pc := 2) hX 2 rfl fl_X12_1 rfl (fun _ h => by cases h; rfl) hG.1 (by decide) ?_
  refine r_aload_n (pc := 5) hX 3 rfl rfl ?_
  refine r_iload_n (pc := 6) hX 4 rfl rfl ?_
  refine r_callV (as := [(0, q)]) (st := []) (K := 12) (pc := 7) hX 5 rfl mo_m_isPlayer ml_X12_294 im_m_isPlayer se_m_isPlayer (c_isPlayer g (up v 178 0 0) ρ Z hG (q) (by rw [up_f (by decide)]; exact hS) (by omega)) rfl rfl rfl hG.1 (by rw [hRm]; exact ⟨by decide, by decide⟩) (by rw [hRm]; exact ⟨by decide, by decide⟩) (Nat.le_of_ble_eq_true rfl) (fun o7 v7 ρ7 Z7 hq7 _ => ?_)
  obtain ⟨rfl, rfl, rfl, r7, rfl, hq7⟩ := hq7
  try simp only [up_f (show (180 : Int) ≠ 178 by decide)] at hq7
  show wp g X F_m_which 0 0 10 [(2, 178), (0, q), (3, 0), (3, 0), (3, 0), (3, 0), (3, 0), (3, 0)] [(0, r7)] (up v 178 0 0) ρ Z
  first | refine r_if_eq (pc := 10) hX 6 (tgt := 20) rfl (by decide) (⟨by omega, by omega⟩) (fun h10 => ?_) (fun h10 => ?_) | refine r_if_eq_any (pc := 10) hX 6 (tgt := 20) rfl (by decide) ?_ ?_
  · refine r_iconst (pc := 20) hX 10 rfl ?_
    exact r_iret (pc := 21) hX 11 hQ rfl rfl (Nat.le_refl 0) (Nat.le_refl 0) ⟨rfl, rfl, (Fr.rf).fld (k := 0) (by decide), (-1), rfl, trivial⟩
  · refine r_aload_n (pc := 13) hX 7 rfl rfl ?_
    refine r_callV (as := []) (st := []) (K := 12) (pc := 14) hX 8 rfl mo_m_isOver ml_X12_310 im_m_isOver se_m_isOver (c_isOver g (up v 178 0 0) ρ Z hG  (by rw [up_f (by decide)]; exact hS)) rfl rfl rfl hG.1 (by rw [hRm]; exact ⟨by decide, by decide⟩) (by rw [hRm]; exact ⟨by decide, by decide⟩) (Nat.le_of_ble_eq_true rfl) (fun o14 v14 ρ14 Z14 hq14 _ => ?_)
    obtain ⟨rfl, rfl, hfr14, r14, rfl, hq14⟩ := hq14
    try simp only [up_f (show (180 : Int) ≠ 178 by decide)] at hq14
    have hSInv_14 : SInv (v14 180) := by rw [hfr14.1 180 (by decide) (by decide), up_f (by decide)]; exact hS
    show wp g X F_m_which 0 0 17 [(2, 178), (0, q), (3, 0), (3, 0), (3, 0), (3, 0), (3, 0), (3, 0)] [(0, r14)] v14 ρ Z
    first | refine r_if_eq (pc := 17) hX 9 (tgt := 22) rfl (by decide) (⟨by omega, by omega⟩) (fun h17 => ?_) (fun h17 => ?_) | refine r_if_eq_any (pc := 17) hX 9 (tgt := 22) rfl (by decide) ?_ ?_
    · refine r_iconst (pc := 22) hX 12 rfl ?_
      refine r_istore_n (ls' := [(2, 178), (0, q), (0, (-1)), (3, 0), (3, 0), (3, 0), (3, 0), (3, 0)]) (pc := 23) hX 13 rfl (by decide) rfl ?_
      refine r_lconst (pc := 24) hX 14 rfl ?_
      show wp g X F_m_which 0 0 25 [(2, 178), (0, q), (0, (-1)), (3, 0), (3, 0), (3, 0), (3, 0), (3, 0)] [(1, 0)] v14 ρ Z
      refine r_lstore_n (ls' := [(2, 178), (0, q), (0, (-1)), (1, 0), (3, 0), (3, 0), (3, 0), (3, 0)]) (pc := 25) hX 15 rfl (by decide) rfl ?_
      refine r_iconst (pc := 26) hX 16 rfl ?_
      refine r_istore (ls' := [(2, 178), (0, q), (0, (-1)), (1, 0), (3, 0), (0, 0), (3, 0), (3, 0)]) (pc := 27) hX 17 rfl (by decide) rfl ?_
      have L29 : ∀ (n29 : Nat) (b m c : Int) (v29 : Mv) , (Fr [185, 186, 189, 190, 191, 192, 193] [0, 31] v v29) → (SInv (v29 180)) → (0 ≤ c ∧ c ≤ 4) → (4 - c).toNat < n29 → wp g X F_m_which 0 0 29 [(2, 178), (0, q), (0, b), (1, m), (3, 0), (0, c), (3, 0), (3, 0)] [] v29 ρ Z := by
        intro n29
        induction n29 with
        | zero => intro b m c v29 hfr29 hSInv_29 ic hme29; exact absurd hme29 (Nat.not_lt_zero _)
        | succ n29 ih29 =>
          intro b m c v29 hfr29 hSInv_29 ic hme29
          refine r_iload (pc := 29) hX 18 rfl rfl ?_
          refine t_getR (pc := 31) hX 19 rfl rfl rfl fl_X12_33 rfl hG.1 (a_s hG).1 ?_
          refine r_iconst (pc := 35) hX 21 rfl ?_
          refine e_iald (y := (v29 180 0)) (pc := 36) hX 22 rfl (a_s hG).2.1 (a_s hG).2.2 (by omega) (by omega) (rfl) ?_
          have hb36 := hSInv_29.c0
          first | refine r_icmp_ge (pc := 37) hX 23 (tgt := 88) rfl (by decide) (⟨by omega, by omega⟩) (⟨by omega, by omega⟩) (fun h37 => ?_) (fun h37 => ?_) | refine r_icmp_ge_any (pc := 37) hX 23 (tgt := 88) rfl (by decide) ?_ ?_
          · refine r_iload_n (pc := 88) hX 48 rfl rfl ?_
            exact r_iret (pc := 89) hX 49 hQ rfl rfl (Nat.le_refl 0) (Nat.le_refl 0) ⟨rfl, rfl, hfr29, b, rfl, trivial⟩
          · refine r_aload_n (pc := 40) hX 24 rfl rfl ?_
            refine r_iload (pc := 41) hX 25 rfl rfl ?_
            refine r_callV (as := [(0, c)]) (st := []) (K := 12) (pc := 43) hX 26 rfl mo_m_ownerOf ml_X12_284 im_m_ownerOf se_m_ownerOf (c_ownerOf g v29 ρ Z hG (c) (hSInv_29)) rfl rfl rfl hG.1 (by rw [hRm]; exact ⟨by decide, by decide⟩) (by rw [hRm]; exact ⟨by decide, by decide⟩) (Nat.le_of_ble_eq_true rfl) (fun o43 v43 ρ43 Z43 hq43 _ => ?_)
            obtain ⟨rfl, rfl, rfl, r43, rfl, hq43⟩ := hq43
            show wp g X F_m_which 0 0 46 [(2, 178), (0, q), (0, b), (1, m), (3, 0), (0, c), (3, 0), (3, 0)] [(0, r43)] v29 ρ Z
            first | refine r_if_lt (pc := 46) hX 27 (tgt := 52) rfl (by decide) (⟨by omega, by omega⟩) (fun h46 => ?_) (fun h46 => ?_) | refine r_if_lt_any (pc := 46) hX 27 (tgt := 52) rfl (by decide) ?_ ?_
            · refine r_aload_n (pc := 52) hX 29 rfl rfl ?_
              refine r_iload_n (pc := 53) hX 30 rfl rfl ?_
              refine r_iload (pc := 54) hX 31 rfl rfl ?_
              refine r_iconst (pc := 56) hX 32 rfl ?_
              refine r_callV (as := [(0, q), (0, c), (0, 0)]) (st := []) (K := 12) (pc := 57) hX 33 rfl mo_m_likelyWith ml_X12_412 im_m_likelyWith se_m_likelyWith (c_likelyWith g v29 ρ Z hG (q) (c) (0) (hSInv_29) (by omega) (by omega) (by omega)) rfl rfl rfl hG.1 (by rw [hRm]; exact ⟨by decide, by decide⟩) (by rw [hRm]; exact ⟨by decide, by decide⟩) (Nat.le_of_ble_eq_true rfl) (fun o57 v57 ρ57 Z57 hq57 _ => ?_)
              obtain ⟨rfl, rfl, hfr57, r57, rfl, hq57⟩ := hq57
              have hSInv_57 : SInv (v57 180) := by rw [hfr57.1 180 (by decide) (by decide)]; exact hSInv_29
              show wp g X F_m_which 0 0 60 [(2, 178), (0, q), (0, b), (1, m), (3, 0), (0, c), (3, 0), (3, 0)] [(1, r57)] v57 ρ Z
              refine r_lstore (ls' := [(2, 178), (0, q), (0, b), (1, m), (3, 0), (0, c), (1, r57), (3, 0)]) (pc := 60) hX 34 rfl (by decide) rfl ?_
              refine r_iload_n (pc := 62) hX 35 rfl rfl ?_
              first | refine r_if_lt (pc := 63) hX 36 (tgt := 76) rfl (by decide) (⟨by omega, by omega⟩) (fun h63 => ?_) (fun h63 => ?_) | refine r_if_lt_any (pc := 63) hX 36 (tgt := 76) rfl (by decide) ?_ ?_
              · refine r_iload (pc := 76) hX 42 rfl rfl ?_
                refine r_istore_n (ls' := [(2, 178), (0, q), (0, c), (1, m), (3, 0), (0, c), (1, r57), (3, 0)]) (pc := 78) hX 43 rfl (by decide) rfl ?_
                refine r_lload (pc := 79) hX 44 rfl rfl ?_
                refine r_lstore_n (ls' := [(2, 178), (0, q), (0, c), (1, r57), (3, 0), (0, c), (1, r57), (3, 0)]) (pc := 81) hX 45 rfl (by decide) rfl ?_
                refine r_iinc (ls' := [(2, 178), (0, q), (0, c), (1, r57), (3, 0), (0, (c + 1)), (1, r57), (3, 0)]) (pc := 82) hX 46 rfl rfl (by decide) rfl ?_
                refine r_goto (pc := 85) hX 47 (tgt := 29) rfl (by decide) ?_
                refine r_wk (ls' := [(2, 178), (0, q), (0, c), (1, r57), (3, 0), (0, (c + 1)), (3, 0), (3, 0)]) ⟨Or.inr rfl, Or.inr rfl, Or.inr rfl, Or.inr rfl, Or.inr rfl, Or.inr rfl, Or.inl rfl, Or.inr rfl, trivial⟩ ?_
                exact (ih29 c r57 (c + 1) v57 ((hfr29).tr hfr57 (by decide) (by decide)) (hSInv_57) (by omega) (by omega))
              · refine r_lload (pc := 66) hX 37 rfl rfl ?_
                refine r_lload_n (pc := 68) hX 38 rfl rfl ?_
                refine r_lcmp_any (pc := 69) hX 39 rfl (fun z69 hz69a hz69b => ?_)
                first | refine r_if_gt (pc := 70) hX 40 (tgt := 76) rfl (by decide) (⟨by omega, by omega⟩) (fun h70 => ?_) (fun h70 => ?_) | refine r_if_gt_any (pc := 70) hX 40 (tgt := 76) rfl (by decide) ?_ ?_
                · refine r_iload (pc := 76) hX 42 rfl rfl ?_
                  refine r_istore_n (ls' := [(2, 178), (0, q), (0, c), (1, m), (3, 0), (0, c), (1, r57), (3, 0)]) (pc := 78) hX 43 rfl (by decide) rfl ?_
                  refine r_lload (pc := 79) hX 44 rfl rfl ?_
                  refine r_lstore_n (ls' := [(2, 178), (0, q), (0, c), (1, r57), (3, 0), (0, c), (1, r57), (3, 0)]) (pc := 81) hX 45 rfl (by decide) rfl ?_
                  refine r_iinc (ls' := [(2, 178), (0, q), (0, c), (1, r57), (3, 0), (0, (c + 1)), (1, r57), (3, 0)]) (pc := 82) hX 46 rfl rfl (by decide) rfl ?_
                  refine r_goto (pc := 85) hX 47 (tgt := 29) rfl (by decide) ?_
                  refine r_wk (ls' := [(2, 178), (0, q), (0, c), (1, r57), (3, 0), (0, (c + 1)), (3, 0), (3, 0)]) ⟨Or.inr rfl, Or.inr rfl, Or.inr rfl, Or.inr rfl, Or.inr rfl, Or.inr rfl, Or.inl rfl, Or.inr rfl, trivial⟩ ?_
                  exact (ih29 c r57 (c + 1) v57 ((hfr29).tr hfr57 (by decide) (by decide)) (hSInv_57) (by omega) (by omega))
                · refine r_goto (pc := 73) hX 41 (tgt := 82) rfl (by decide) ?_
                  refine r_iinc (ls' := [(2, 178), (0, q), (0, b), (1, m), (3, 0), (0, (c + 1)), (1, r57), (3, 0)]) (pc := 82) hX 46 rfl rfl (by decide) rfl ?_
                  refine r_goto (pc := 85) hX 47 (tgt := 29) rfl (by decide) ?_
                  refine r_wk (ls' := [(2, 178), (0, q), (0, b), (1, m), (3, 0), (0, (c + 1)), (3, 0), (3, 0)]) ⟨Or.inr rfl, Or.inr rfl, Or.inr rfl, Or.inr rfl, Or.inr rfl, Or.inr rfl, Or.inl rfl, Or.inr rfl, trivial⟩ ?_
                  exact (ih29 b m (c + 1) v57 ((hfr29).tr hfr57 (by decide) (by decide)) (hSInv_57) (by omega) (by omega))
            · refine r_goto (pc := 49) hX 28 (tgt := 82) rfl (by decide) ?_
              refine r_iinc (ls' := [(2, 178), (0, q), (0, b), (1, m), (3, 0), (0, (c + 1)), (3, 0), (3, 0)]) (pc := 82) hX 46 rfl rfl (by decide) rfl ?_
              refine r_goto (pc := 85) hX 47 (tgt := 29) rfl (by decide) ?_
              exact (ih29 b m (c + 1) v29 (hfr29) (hSInv_29) (by omega) (by omega))
      exact (L29 _ (-1) 0 0 v14 (((Fr.rf).fld (k := 0) (by decide)).tr hfr14 (by decide) (by decide)) (hSInv_14) (by omega) (Nat.lt_succ_self _))
    · refine r_iconst (pc := 20) hX 10 rfl ?_
      exact r_iret (pc := 21) hX 11 hQ rfl rfl (Nat.le_refl 0) (Nat.le_refl 0) ⟨rfl, rfl, ((Fr.rf).fld (k := 0) (by decide)).tr hfr14 (by decide) (by decide), (-1), rfl, trivial⟩
set_option maxHeartbeats 4000000 in
set_option maxRecDepth 100000 in
theorem c_also (g : Gp) (v ρ : Mv) (Z : Mz) (hG : GM ρ Z) (q c what : Int) (hS : SInv (v 180)) (hq : inR q) (hc : inR c) (hw : inR what) : Ok g 5 0 0 F_m_also [(2, 178), (0, q), (0, c), (0, what)] v ρ Z (fun o v' ρ' Z' => ρ = ρ' ∧ Z = Z' ∧ Fr [185, 186, 189, 190, 191, 192, 193] [0, 31] v v' ∧ ∃ r : Int, o = some (1, r) ∧ True) := by
  refine Ok.of mo_m_also (Nat.le_of_ble_eq_true rfl) ?_
  intro X hX hRm hxn hQ
  show wp g X F_m_also 0 0 0 [(2, 178), (0, q), (0, c), (0, what), (3, 0), (3, 0)] [] v ρ Z
  have hb2 := hS.c2
  have hb0 := hS.c0
  refine r_aload_n (pc := 0) hX 0 rfl rfl ?_
  refine r_aload_n (pc := 1) hX 1 rfl rfl ?_
  refine r_iload_n (pc := 2) hX 2 rfl rfl ?_
  refine r_callV (as := [(0, q)]) (st := [(2, 178)]) (K := 12) (pc := 3) hX 3 rfl mo_m_isPlayer ml_X12_294 im_m_isPlayer se_m_isPlayer (c_isPlayer g v ρ Z hG (q) (hS) (by omega)) rfl rfl rfl hG.1 (by rw [hRm]; exact ⟨by decide, by decide⟩) (by rw [hRm]; exact ⟨by decide, by decide⟩) (Nat.le_of_ble_eq_true rfl) (fun o3 v3 ρ3 Z3 hq3 _ => ?_)
  obtain ⟨rfl, rfl, rfl, r3, rfl, hq3⟩ := hq3
  show wp g X F_m_also 0 0 6 [(2, 178), (0, q), (0, c), (0, what), (3, 0), (3, 0)] [(0, r3), (2, 178)] v ρ Z
  first | refine r_if_eq (pc := 6) hX 4 (tgt := 44) rfl (by decide) (⟨by omega, by omega⟩) (fun h6 => ?_) (fun h6 => ?_) | refine r_if_eq_any (pc := 6) hX 4 (tgt := 44) rfl (by decide) ?_ ?_
  · refine r_iconst (pc := 44) hX 23 rfl ?_
    refine r_goto (pc := 45) hX 24 (tgt := 49) rfl (by decide) ?_
    refine r_callV (as := [(0, 1)]) (st := []) (K := 12) (pc := 49) hX 26 rfl mo_m_throwsIf ml_X12_297 im_m_throwsIf se_m_throwsIf (c_throwsIf g v ρ Z hG (1) (by omega)) rfl rfl rfl hG.1 (by rw [hRm]; exact ⟨by decide, by decide⟩) (by rw [hRm]; exact ⟨by decide, by decide⟩) (Nat.le_of_ble_eq_true rfl) (fun o49 v49 ρ49 Z49 hq49 _ => ?_)
    obtain ⟨rfl, rfl, hfr49, r49, rfl, hq49⟩ := hq49
    have hSInv_49 : SInv (v49 180) := by rw [hfr49.1 180 (by decide) (by decide)]; exact hS
    obtain rfl : r49 = 1 := by omega
    show wp g X F_m_also 0 0 52 [(2, 178), (0, q), (0, c), (0, what), (3, 0), (3, 0)] [(0, 1)] v49 ρ Z
    first | refine r_if_eq (pc := 52) hX 27 (tgt := 57) rfl (by decide) (⟨by omega, by omega⟩) (fun h52 => ?_) (fun h52 => ?_) | refine r_if_eq_any (pc := 52) hX 27 (tgt := 57) rfl (by decide) ?_ ?_
    · exact absurd h52 (by decide)
    · refine r_lconst (pc := 55) hX 28 rfl ?_
      show wp g X F_m_also 0 0 56 [(2, 178), (0, q), (0, c), (0, what), (3, 0), (3, 0)] [(1, 0)] v49 ρ Z
      exact r_lret (pc := 56) hX 29 hQ rfl rfl (Nat.le_refl 0) (Nat.le_refl 0) ⟨rfl, rfl, (Fr.rf).tr hfr49 (by decide) (by decide), 0, rfl, trivial⟩
  · refine r_aload_n (pc := 9) hX 5 rfl rfl ?_
    refine r_iload_n (pc := 10) hX 6 rfl rfl ?_
    refine r_callV (as := [(0, c)]) (st := [(2, 178)]) (K := 12) (pc := 11) hX 7 rfl mo_m_isColour ml_X12_281 im_m_isColour se_m_isColour (c_isColour g v ρ Z hG (c) (hS) (by omega)) rfl rfl rfl hG.1 (by rw [hRm]; exact ⟨by decide, by decide⟩) (by rw [hRm]; exact ⟨by decide, by decide⟩) (Nat.le_of_ble_eq_true rfl) (fun o11 v11 ρ11 Z11 hq11 _ => ?_)
    obtain ⟨rfl, rfl, rfl, r11, rfl, hq11⟩ := hq11
    show wp g X F_m_also 0 0 14 [(2, 178), (0, q), (0, c), (0, what), (3, 0), (3, 0)] [(0, r11), (2, 178)] v ρ Z
    first | refine r_if_eq (pc := 14) hX 8 (tgt := 44) rfl (by decide) (⟨by omega, by omega⟩) (fun h14 => ?_) (fun h14 => ?_) | refine r_if_eq_any (pc := 14) hX 8 (tgt := 44) rfl (by decide) ?_ ?_
    · refine r_iconst (pc := 44) hX 23 rfl ?_
      refine r_goto (pc := 45) hX 24 (tgt := 49) rfl (by decide) ?_
      refine r_callV (as := [(0, 1)]) (st := []) (K := 12) (pc := 49) hX 26 rfl mo_m_throwsIf ml_X12_297 im_m_throwsIf se_m_throwsIf (c_throwsIf g v ρ Z hG (1) (by omega)) rfl rfl rfl hG.1 (by rw [hRm]; exact ⟨by decide, by decide⟩) (by rw [hRm]; exact ⟨by decide, by decide⟩) (Nat.le_of_ble_eq_true rfl) (fun o49 v49 ρ49 Z49 hq49 _ => ?_)
      obtain ⟨rfl, rfl, hfr49, r49, rfl, hq49⟩ := hq49
      have hSInv_49 : SInv (v49 180) := by rw [hfr49.1 180 (by decide) (by decide)]; exact hS
      obtain rfl : r49 = 1 := by omega
      show wp g X F_m_also 0 0 52 [(2, 178), (0, q), (0, c), (0, what), (3, 0), (3, 0)] [(0, 1)] v49 ρ Z
      first | refine r_if_eq (pc := 52) hX 27 (tgt := 57) rfl (by decide) (⟨by omega, by omega⟩) (fun h52 => ?_) (fun h52 => ?_) | refine r_if_eq_any (pc := 52) hX 27 (tgt := 57) rfl (by decide) ?_ ?_
      · exact absurd h52 (by decide)
      · refine r_lconst (pc := 55) hX 28 rfl ?_
        show wp g X F_m_also 0 0 56 [(2, 178), (0, q), (0, c), (0, what), (3, 0), (3, 0)] [(1, 0)] v49 ρ Z
        exact r_lret (pc := 56) hX 29 hQ rfl rfl (Nat.le_refl 0) (Nat.le_refl 0) ⟨rfl, rfl, (Fr.rf).tr hfr49 (by decide) (by decide), 0, rfl, trivial⟩
    · refine r_iload_n (pc := 17) hX 9 rfl rfl ?_
      refine r_callS (as := [(0, what)]) (st := [(2, 178)]) (pc := 18) hX 10 rfl mo_m_isPart ml_X12_381 stt_m_isPart (c_isPart g v ρ Z hG (what) (by omega)) rfl (by rw [hRm]; exact ⟨by decide, by decide⟩) (by rw [hRm]; exact ⟨by decide, by decide⟩) (Nat.le_of_ble_eq_true rfl) (fun o18 v18 ρ18 Z18 hq18 _ => ?_)
      obtain ⟨rfl, rfl, rfl, r18, rfl, hq18⟩ := hq18
      show wp g X F_m_also 0 0 21 [(2, 178), (0, q), (0, c), (0, what), (3, 0), (3, 0)] [(0, r18), (2, 178)] v ρ Z
      first | refine r_if_eq (pc := 21) hX 11 (tgt := 44) rfl (by decide) (⟨by omega, by omega⟩) (fun h21 => ?_) (fun h21 => ?_) | refine r_if_eq_any (pc := 21) hX 11 (tgt := 44) rfl (by decide) ?_ ?_
      · refine r_iconst (pc := 44) hX 23 rfl ?_
        refine r_goto (pc := 45) hX 24 (tgt := 49) rfl (by decide) ?_
        refine r_callV (as := [(0, 1)]) (st := []) (K := 12) (pc := 49) hX 26 rfl mo_m_throwsIf ml_X12_297 im_m_throwsIf se_m_throwsIf (c_throwsIf g v ρ Z hG (1) (by omega)) rfl rfl rfl hG.1 (by rw [hRm]; exact ⟨by decide, by decide⟩) (by rw [hRm]; exact ⟨by decide, by decide⟩) (Nat.le_of_ble_eq_true rfl) (fun o49 v49 ρ49 Z49 hq49 _ => ?_)
        obtain ⟨rfl, rfl, hfr49, r49, rfl, hq49⟩ := hq49
        have hSInv_49 : SInv (v49 180) := by rw [hfr49.1 180 (by decide) (by decide)]; exact hS
        obtain rfl : r49 = 1 := by omega
        show wp g X F_m_also 0 0 52 [(2, 178), (0, q), (0, c), (0, what), (3, 0), (3, 0)] [(0, 1)] v49 ρ Z
        first | refine r_if_eq (pc := 52) hX 27 (tgt := 57) rfl (by decide) (⟨by omega, by omega⟩) (fun h52 => ?_) (fun h52 => ?_) | refine r_if_eq_any (pc := 52) hX 27 (tgt := 57) rfl (by decide) ?_ ?_
        · exact absurd h52 (by decide)
        · refine r_lconst (pc := 55) hX 28 rfl ?_
          show wp g X F_m_also 0 0 56 [(2, 178), (0, q), (0, c), (0, what), (3, 0), (3, 0)] [(1, 0)] v49 ρ Z
          exact r_lret (pc := 56) hX 29 hQ rfl rfl (Nat.le_refl 0) (Nat.le_refl 0) ⟨rfl, rfl, (Fr.rf).tr hfr49 (by decide) (by decide), 0, rfl, trivial⟩
      · refine t_getR (pc := 24) hX 12 rfl rfl rfl fl_X12_33 rfl hG.1 (a_s hG).1 ?_
        refine r_bipush (pc := 28) hX 14 rfl (by decide) ?_
        refine r_iload_n (pc := 30) hX 15 rfl rfl ?_
        refine r_iadd (pc := 31) hX 16 rfl ?_
        refine e_iald (y := (v 180 (36 + q))) (pc := 32) hX 17 rfl (a_s hG).2.1 (a_s hG).2.2 (by omega) (by omega) (rfl) ?_
        have hb32 := hS.c36 q (by omega) (by omega)
        first | refine r_if_eq (pc := 33) hX 18 (tgt := 44) rfl (by decide) (⟨by omega, by omega⟩) (fun h33 => ?_) (fun h33 => ?_) | refine r_if_eq_any (pc := 33) hX 18 (tgt := 44) rfl (by decide) ?_ ?_
        · refine r_iconst (pc := 44) hX 23 rfl ?_
          refine r_goto (pc := 45) hX 24 (tgt := 49) rfl (by decide) ?_
          refine r_callV (as := [(0, 1)]) (st := []) (K := 12) (pc := 49) hX 26 rfl mo_m_throwsIf ml_X12_297 im_m_throwsIf se_m_throwsIf (c_throwsIf g v ρ Z hG (1) (by omega)) rfl rfl rfl hG.1 (by rw [hRm]; exact ⟨by decide, by decide⟩) (by rw [hRm]; exact ⟨by decide, by decide⟩) (Nat.le_of_ble_eq_true rfl) (fun o49 v49 ρ49 Z49 hq49 _ => ?_)
          obtain ⟨rfl, rfl, hfr49, r49, rfl, hq49⟩ := hq49
          have hSInv_49 : SInv (v49 180) := by rw [hfr49.1 180 (by decide) (by decide)]; exact hS
          obtain rfl : r49 = 1 := by omega
          show wp g X F_m_also 0 0 52 [(2, 178), (0, q), (0, c), (0, what), (3, 0), (3, 0)] [(0, 1)] v49 ρ Z
          first | refine r_if_eq (pc := 52) hX 27 (tgt := 57) rfl (by decide) (⟨by omega, by omega⟩) (fun h52 => ?_) (fun h52 => ?_) | refine r_if_eq_any (pc := 52) hX 27 (tgt := 57) rfl (by decide) ?_ ?_
          · exact absurd h52 (by decide)
          · refine r_lconst (pc := 55) hX 28 rfl ?_
            show wp g X F_m_also 0 0 56 [(2, 178), (0, q), (0, c), (0, what), (3, 0), (3, 0)] [(1, 0)] v49 ρ Z
            exact r_lret (pc := 56) hX 29 hQ rfl rfl (Nat.le_refl 0) (Nat.le_refl 0) ⟨rfl, rfl, (Fr.rf).tr hfr49 (by decide) (by decide), 0, rfl, trivial⟩
        · refine r_aload_n (pc := 36) hX 19 rfl rfl ?_
          refine r_iload_n (pc := 37) hX 20 rfl rfl ?_
          refine r_callV (as := [(0, c)]) (st := [(2, 178)]) (K := 12) (pc := 38) hX 21 rfl mo_m_ownerOf ml_X12_284 im_m_ownerOf se_m_ownerOf (c_ownerOf g v ρ Z hG (c) (hS)) rfl rfl rfl hG.1 (by rw [hRm]; exact ⟨by decide, by decide⟩) (by rw [hRm]; exact ⟨by decide, by decide⟩) (Nat.le_of_ble_eq_true rfl) (fun o38 v38 ρ38 Z38 hq38 _ => ?_)
          obtain ⟨rfl, rfl, rfl, r38, rfl, hq38⟩ := hq38
          show wp g X F_m_also 0 0 41 [(2, 178), (0, q), (0, c), (0, what), (3, 0), (3, 0)] [(0, r38), (2, 178)] v ρ Z
          first | refine r_if_lt (pc := 41) hX 22 (tgt := 48) rfl (by decide) (⟨by omega, by omega⟩) (fun h41 => ?_) (fun h41 => ?_) | refine r_if_lt_any (pc := 41) hX 22 (tgt := 48) rfl (by decide) ?_ ?_
          · refine r_iconst (pc := 48) hX 25 rfl ?_
            refine r_callV (as := [(0, 0)]) (st := []) (K := 12) (pc := 49) hX 26 rfl mo_m_throwsIf ml_X12_297 im_m_throwsIf se_m_throwsIf (c_throwsIf g v ρ Z hG (0) (by omega)) rfl rfl rfl hG.1 (by rw [hRm]; exact ⟨by decide, by decide⟩) (by rw [hRm]; exact ⟨by decide, by decide⟩) (Nat.le_of_ble_eq_true rfl) (fun o49 v49 ρ49 Z49 hq49 _ => ?_)
            obtain ⟨rfl, rfl, hfr49, r49, rfl, hq49⟩ := hq49
            have hSInv_49 : SInv (v49 180) := by rw [hfr49.1 180 (by decide) (by decide)]; exact hS
            obtain rfl : r49 = 0 := by omega
            show wp g X F_m_also 0 0 52 [(2, 178), (0, q), (0, c), (0, what), (3, 0), (3, 0)] [(0, 0)] v49 ρ Z
            first | refine r_if_eq (pc := 52) hX 27 (tgt := 57) rfl (by decide) (⟨by omega, by omega⟩) (fun h52 => ?_) (fun h52 => ?_) | refine r_if_eq_any (pc := 52) hX 27 (tgt := 57) rfl (by decide) ?_ ?_
            · refine r_aload_n (pc := 57) hX 30 rfl rfl ?_
              refine r_iload_n (pc := 58) hX 31 rfl rfl ?_
              refine r_iload_n (pc := 59) hX 32 rfl rfl ?_
              refine r_iconst (pc := 60) hX 33 rfl ?_
              refine r_callV (as := [(0, q), (0, c), (0, 1)]) (st := []) (K := 12) (pc := 61) hX 34 rfl mo_m_likelyWith ml_X12_412 im_m_likelyWith se_m_likelyWith (c_likelyWith g v49 ρ Z hG (q) (c) (1) (hSInv_49) (by omega) (by omega) (by omega)) rfl rfl rfl hG.1 (by rw [hRm]; exact ⟨by decide, by decide⟩) (by rw [hRm]; exact ⟨by decide, by decide⟩) (Nat.le_of_ble_eq_true rfl) (fun o61 v61 ρ61 Z61 hq61 _ => ?_)
              obtain ⟨rfl, rfl, hfr61, r61, rfl, hq61⟩ := hq61
              have hSInv_61 : SInv (v61 180) := by rw [hfr61.1 180 (by decide) (by decide)]; exact hSInv_49
              show wp g X F_m_also 0 0 64 [(2, 178), (0, q), (0, c), (0, what), (3, 0), (3, 0)] [(1, r61)] v61 ρ Z
              refine r_lstore (ls' := [(2, 178), (0, q), (0, c), (0, what), (1, r61), (3, 0)]) (pc := 64) hX 35 rfl (by decide) rfl ?_
              refine r_aload_n (pc := 66) hX 36 rfl rfl ?_
              refine r_callV (as := []) (st := []) (K := 12) (pc := 67) hX 37 rfl mo_m_goesNow ml_X12_384 im_m_goesNow se_m_goesNow (c_goesNow g v61 ρ Z hG  (hSInv_61)) rfl rfl rfl hG.1 (by rw [hRm]; exact ⟨by decide, by decide⟩) (by rw [hRm]; exact ⟨by decide, by decide⟩) (Nat.le_of_ble_eq_true rfl) (fun o67 v67 ρ67 Z67 hq67 _ => ?_)
              obtain ⟨rfl, rfl, hfr67, rfl, hq67⟩ := hq67
              have hSInv_67 : SInv (v67 180) := by rw [hfr67.1 180 (by decide) (by decide)]; exact hSInv_61
              show wp g X F_m_also 0 0 70 [(2, 178), (0, q), (0, c), (0, what), (1, r61), (3, 0)] [] v67 ρ Z
              refine r_lload (pc := 70) hX 38 rfl rfl ?_
              refine t_getR (pc := 72) hX 39 rfl rfl rfl fl_X12_71 rfl hG.1 (a_wonBy hG).1 ?_
              refine r_iload_n (pc := 76) hX 41 rfl rfl ?_
              refine e_lald (y := (v67 192 q)) (pc := 77) hX 42 rfl (a_wonBy hG).2.1 (a_wonBy hG).2.2 (by omega) (by omega) (rfl) ?_
              refine r_lsub (pc := 78) hX 43 rfl ?_
              refine r_lany _ (fun z78 hz78 => ?_)
              refine t_getL (y := (v67 178 31)) (pc := 79) hX 44 rfl rfl rfl fl_X12_357 rfl hG.1 (rfl) ?_
              refine r_iload_n (pc := 83) hX 46 rfl rfl ?_
              refine r_callS (as := [(1, z78), (1, (v67 178 31)), (0, what)]) (st := []) (pc := 84) hX 47 rfl mo_m_part ml_X12_387 stt_m_part (c_part g v67 ρ Z hG (z78) ((v67 178 31)) (what) (hz78) (by omega) (by omega)) rfl (by rw [hRm]; exact ⟨by decide, by decide⟩) (by rw [hRm]; exact ⟨by decide, by decide⟩) (Nat.le_of_ble_eq_true rfl) (fun o84 v84 ρ84 Z84 hq84 _ => ?_)
              obtain ⟨rfl, rfl, rfl, r84, rfl, hq84⟩ := hq84
              show wp g X F_m_also 0 0 87 [(2, 178), (0, q), (0, c), (0, what), (1, r61), (3, 0)] [(1, r84)] v67 ρ Z
              exact r_lret (pc := 87) hX 48 hQ rfl rfl (Nat.le_refl 0) (Nat.le_refl 0) ⟨rfl, rfl, (((Fr.rf).tr hfr49 (by decide) (by decide)).tr hfr61 (by decide) (by decide)).tr hfr67 (by decide) (by decide), r84, rfl, trivial⟩
            · exact absurd (by decide) h52
          · refine r_iconst (pc := 44) hX 23 rfl ?_
            refine r_goto (pc := 45) hX 24 (tgt := 49) rfl (by decide) ?_
            refine r_callV (as := [(0, 1)]) (st := []) (K := 12) (pc := 49) hX 26 rfl mo_m_throwsIf ml_X12_297 im_m_throwsIf se_m_throwsIf (c_throwsIf g v ρ Z hG (1) (by omega)) rfl rfl rfl hG.1 (by rw [hRm]; exact ⟨by decide, by decide⟩) (by rw [hRm]; exact ⟨by decide, by decide⟩) (Nat.le_of_ble_eq_true rfl) (fun o49 v49 ρ49 Z49 hq49 _ => ?_)
            obtain ⟨rfl, rfl, hfr49, r49, rfl, hq49⟩ := hq49
            have hSInv_49 : SInv (v49 180) := by rw [hfr49.1 180 (by decide) (by decide)]; exact hS
            obtain rfl : r49 = 1 := by omega
            show wp g X F_m_also 0 0 52 [(2, 178), (0, q), (0, c), (0, what), (3, 0), (3, 0)] [(0, 1)] v49 ρ Z
            first | refine r_if_eq (pc := 52) hX 27 (tgt := 57) rfl (by decide) (⟨by omega, by omega⟩) (fun h52 => ?_) (fun h52 => ?_) | refine r_if_eq_any (pc := 52) hX 27 (tgt := 57) rfl (by decide) ?_ ?_
            · exact absurd h52 (by decide)
            · refine r_lconst (pc := 55) hX 28 rfl ?_
              show wp g X F_m_also 0 0 56 [(2, 178), (0, q), (0, c), (0, what), (3, 0), (3, 0)] [(1, 0)] v49 ρ Z
              exact r_lret (pc := 56) hX 29 hQ rfl rfl (Nat.le_refl 0) (Nat.le_refl 0) ⟨rfl, rfl, (Fr.rf).tr hfr49 (by decide) (by decide), 0, rfl, trivial⟩
set_option maxHeartbeats 4000000 in
set_option maxRecDepth 100000 in
theorem c_unlike (g : Gp) (v ρ : Mv) (Z : Mz) (hG : GM ρ Z) (q st : Int) (hS : SInv (v 180)) (hq : -1 ≤ q ∧ q ≤ 2) (hs : 0 ≤ st ∧ st ≤ 8) : Ok g 4 0 0 F_m_unlike [(2, 178), (0, q), (0, st)] v ρ Z (fun o v' ρ' Z' => ρ = ρ' ∧ Z = Z' ∧ Fr [185, 186, 189, 190, 191, 192, 193] [31] v v' ∧ ∃ r : Int, o = some (1, r) ∧ True) := by
  refine Ok.of mo_m_unlike (Nat.le_of_ble_eq_true rfl) ?_
  intro X hX hRm hxn hQ
  show wp g X F_m_unlike 0 0 0 [(2, 178), (0, q), (0, st), (3, 0)] [] v ρ Z
  have hb4 := hS.c4
  refine r_aload_n (pc := 0) hX 0 rfl rfl ?_
  refine r_callV (as := []) (st := []) (K := 12) (pc := 1) hX 1 rfl mo_m_weighsFirst ml_X12_416 im_m_weighsFirst se_m_weighsFirst (c_weighsFirst g v ρ Z hG  (hS)) rfl rfl rfl hG.1 (by rw [hRm]; exact ⟨by decide, by decide⟩) (by rw [hRm]; exact ⟨by decide, by decide⟩) (Nat.le_of_ble_eq_true rfl) (fun o1 v1 ρ1 Z1 hq1 _ => ?_)
  obtain ⟨rfl, rfl, hfr1, rfl, hq1⟩ := hq1
  have hSInv_1 : SInv (v1 180) := by rw [hfr1.1 180 (by decide) (by decide)]; exact hS
  show wp g X F_m_unlike 0 0 4 [(2, 178), (0, q), (0, st), (3, 0)] [] v1 ρ Z
  refine r_aload_n (pc := 4) hX 2 rfl rfl ?_
  refine r_callV (as := []) (st := []) (K := 12) (pc := 5) hX 3 rfl mo_m_asNow ml_X12_301 im_m_asNow se_m_asNow (c_asNow g v1 ρ Z hG  (hSInv_1)) rfl rfl rfl hG.1 (by rw [hRm]; exact ⟨by decide, by decide⟩) (by rw [hRm]; exact ⟨by decide, by decide⟩) (Nat.le_of_ble_eq_true rfl) (fun o5 v5 ρ5 Z5 hq5 _ => ?_)
  obtain ⟨rfl, rfl, hfr5, rfl, hq5⟩ := hq5
  have hSInv_5 : SInv (v5 180) := by rw [hfr5.1 180 (by decide) (by decide)]; exact hSInv_1
  show wp g X F_m_unlike 0 0 8 [(2, 178), (0, q), (0, st), (3, 0)] [] v5 ρ Z
  refine r_iconst (pc := 8) hX 4 rfl ?_
  refine r_istore_n (ls' := [(2, 178), (0, q), (0, st), (0, 0)]) (pc := 9) hX 5 rfl (by decide) rfl ?_
  have L10 : ∀ (n10 : Nat) (k : Int) (v10 : Mv) , (Fr [185, 186, 189, 190, 191, 192, 193] [31] v v10) → (OwI (v10 186)) → (SInv (v10 180)) → (0 ≤ k ∧ k ≤ 3) → (∀ j, 0 ≤ j → j < k → 0 ≤ v10 185 j ∧ v10 185 j ≤ 8) → (v10 189 = v5 189) → (v10 180 = v5 180) → (3 - k).toNat < n10 → wp g X F_m_unlike 0 0 10 [(2, 178), (0, q), (0, st), (0, k)] [] v10 ρ Z := by
    intro n10
    induction n10 with
    | zero => intro k v10 hfr10 hOwI_10 hSInv_10 ik i8 e189 e180 hme10; exact absurd hme10 (Nat.not_lt_zero _)
    | succ n10 ih10 =>
      intro k v10 hfr10 hOwI_10 hSInv_10 ik i8 e189 e180 hme10
      refine r_iload_n (pc := 10) hX 6 rfl rfl ?_
      refine r_iconst (pc := 11) hX 7 rfl ?_
      first | refine r_icmp_ge (pc := 12) hX 8 (tgt := 36) rfl (by decide) (⟨by omega, by omega⟩) (⟨by omega, by omega⟩) (fun h12 => ?_) (fun h12 => ?_) | refine r_icmp_ge_any (pc := 12) hX 8 (tgt := 36) rfl (by decide) ?_ ?_
      · refine r_iload_n (pc := 36) hX 21 rfl rfl ?_
        have L47 : ∀ (v47 : Mv) , (Fr [185, 186, 189, 190, 191, 192, 193] [31] v v47) → (OwI (v47 186)) → (SInv (v47 180)) → (∀ j, 0 ≤ j → j ≤ 2 → 0 ≤ v47 185 j ∧ v47 185 j ≤ 8) → (v47 189 = v5 189) → (v47 180 = v5 180) → wp g X F_m_unlike 0 0 47 [(2, 178), (0, q), (0, st), (3, 0)] [] v47 ρ Z := by
          intro v47 hfr47 hOwI_47 hSInv_47 j8 e189 e180
          refine r_aload_n (pc := 47) hX 28 rfl rfl ?_
          refine t_getR (pc := 48) hX 29 rfl rfl rfl fl_X12_33 rfl hG.1 (a_s hG).1 ?_
          refine r_iconst (pc := 52) hX 31 rfl ?_
          refine e_iald (y := (v47 180 4)) (pc := 53) hX 32 rfl (a_s hG).2.1 (a_s hG).2.2 (by omega) (by omega) (rfl) ?_
          have hb53 := hSInv_47.c4
          refine r_iconst (pc := 54) hX 33 rfl ?_
          refine r_callV (as := [(0, (v47 180 4)), (0, 0)]) (st := []) (K := 12) (pc := 55) hX 34 rfl mo_m_goes ml_X12_377 im_m_goes se_m_goes (c_goes g v47 ρ Z hG ((v47 180 4)) (0) (hSInv_47) (fun j h0 h1 => by have := j8 j h0 h1; omega) (hOwI_47) (fun j h0 h1 _ => (j8 j h0 h1).2) (by omega) (by omega) (by rw [e189, e180, hfr5.1 189 (by decide) (by decide), hfr5.1 180 (by decide) (by decide), hfr1.1 180 (by decide) (by decide)]; exact TotOK.first hS hq1)) rfl rfl rfl hG.1 (by rw [hRm]; exact ⟨by decide, by decide⟩) (by rw [hRm]; exact ⟨by decide, by decide⟩) (Nat.le_of_ble_eq_true rfl) (fun o55 v55 ρ55 Z55 hq55 _ => ?_)
          obtain ⟨rfl, rfl, hfr55, rfl, hq55⟩ := hq55
          have hSInv_55 : SInv (v55 180) := by rw [hfr55.1 180 (by decide) (by decide)]; exact hSInv_47
          have hOwI_55 : OwI (v55 186) := by rw [hfr55.1 186 (by decide) (by decide)]; exact hOwI_47
          show wp g X F_m_unlike 0 0 58 [(2, 178), (0, q), (0, st), (3, 0)] [] v55 ρ Z
          refine t_getR (pc := 58) hX 35 rfl rfl rfl fl_X12_71 rfl hG.1 (a_wonBy hG).1 ?_
          refine r_iconst (pc := 62) hX 37 rfl ?_
          refine e_lald (y := (v55 192 0)) (pc := 63) hX 38 rfl (a_wonBy hG).2.1 (a_wonBy hG).2.2 (by omega) (by omega) (rfl) ?_
          refine t_getR (pc := 64) hX 39 rfl rfl rfl fl_X12_71 rfl hG.1 (a_wonBy hG).1 ?_
          refine r_iconst (pc := 68) hX 41 rfl ?_
          refine e_lald (y := (v55 192 1)) (pc := 69) hX 42 rfl (a_wonBy hG).2.1 (a_wonBy hG).2.2 (by omega) (by omega) (rfl) ?_
          refine r_lcmp_any (pc := 70) hX 43 rfl (fun z70 hz70a hz70b => ?_)
          first | refine r_if_ge (pc := 71) hX 44 (tgt := 90) rfl (by decide) (⟨by omega, by omega⟩) (fun h71 => ?_) (fun h71 => ?_) | refine r_if_ge_any (pc := 71) hX 44 (tgt := 90) rfl (by decide) ?_ ?_
          · refine t_getR (pc := 90) hX 55 rfl rfl rfl fl_X12_71 rfl hG.1 (a_wonBy hG).1 ?_
            refine r_iconst (pc := 94) hX 57 rfl ?_
            refine e_lald (y := (v55 192 0)) (pc := 95) hX 58 rfl (a_wonBy hG).2.1 (a_wonBy hG).2.2 (by omega) (by omega) (rfl) ?_
            refine t_getR (pc := 96) hX 59 rfl rfl rfl fl_X12_71 rfl hG.1 (a_wonBy hG).1 ?_
            refine r_iconst (pc := 100) hX 61 rfl ?_
            refine e_lald (y := (v55 192 1)) (pc := 101) hX 62 rfl (a_wonBy hG).2.1 (a_wonBy hG).2.2 (by omega) (by omega) (rfl) ?_
            refine r_lsub (pc := 102) hX 63 rfl ?_
            exact r_lret (pc := 103) hX 64 hQ rfl rfl (Nat.le_refl 0) (Nat.le_refl 0) ⟨rfl, rfl, (hfr47).tr hfr55 (by decide) (by decide), ((v55 192 0) - (v55 192 1)), rfl, trivial⟩
          · refine t_getR (pc := 74) hX 45 rfl rfl rfl fl_X12_71 rfl hG.1 (a_wonBy hG).1 ?_
            refine r_iconst (pc := 78) hX 47 rfl ?_
            refine e_lald (y := (v55 192 1)) (pc := 79) hX 48 rfl (a_wonBy hG).2.1 (a_wonBy hG).2.2 (by omega) (by omega) (rfl) ?_
            refine t_getR (pc := 80) hX 49 rfl rfl rfl fl_X12_71 rfl hG.1 (a_wonBy hG).1 ?_
            refine r_iconst (pc := 84) hX 51 rfl ?_
            refine e_lald (y := (v55 192 0)) (pc := 85) hX 52 rfl (a_wonBy hG).2.1 (a_wonBy hG).2.2 (by omega) (by omega) (rfl) ?_
            refine r_lsub (pc := 86) hX 53 rfl ?_
            refine r_goto (pc := 87) hX 54 (tgt := 103) rfl (by decide) ?_
            exact r_lret (pc := 103) hX 64 hQ rfl rfl (Nat.le_refl 0) (Nat.le_refl 0) ⟨rfl, rfl, (hfr47).tr hfr55 (by decide) (by decide), ((v55 192 1) - (v55 192 0)), rfl, trivial⟩
        first | refine r_if_lt (pc := 37) hX 22 (tgt := 47) rfl (by decide) (⟨by omega, by omega⟩) (fun h37 => ?_) (fun h37 => ?_) | refine r_if_lt_any (pc := 37) hX 22 (tgt := 47) rfl (by decide) ?_ ?_
        · refine r_wk (ls' := [(2, 178), (0, q), (0, st), (3, 0)]) ⟨Or.inr rfl, Or.inr rfl, Or.inr rfl, Or.inl rfl, trivial⟩ ?_
          exact (L47  v10 (hfr10) (by first | exact hOwI_10 | (rw [up_f (by decide)]; exact hOwI_10)) (hSInv_10) (fun j h0 h1 => by first | exact i8 j h0 (by omega) | (unfold up; split; exact ⟨by omega, by omega⟩; exact i8 j h0 (by omega))) (by first | rfl | exact e189 | (rw [up_f (by decide)]; first | rfl | exact e189)) (by first | rfl | exact e180 | (rw [up_f (by decide)]; first | rfl | exact e180)) )
        · refine t_getR (pc := 40) hX 23 rfl rfl rfl fl_X12_50 rfl hG.1 (a_scores hG).1 ?_
          refine r_iload_n (pc := 44) hX 25 rfl rfl ?_
          refine r_iload_n (pc := 45) hX 26 rfl rfl ?_
          refine e_iast (pc := 46) hX 27 rfl (a_scores hG).2.1 (a_scores hG).2.2 (by decide) (by omega) (by omega) ?_
          refine r_wk (ls' := [(2, 178), (0, q), (0, st), (3, 0)]) ⟨Or.inr rfl, Or.inr rfl, Or.inr rfl, Or.inl rfl, trivial⟩ ?_
          exact (L47  (up v10 185 q st) ((hfr10).arr (r := 185) (by decide) (by decide)) (by first | exact hOwI_10 | (rw [up_f (by decide)]; exact hOwI_10)) (by rw [up_f (by decide)]; exact hSInv_10) (fun j h0 h1 => by first | exact i8 j h0 (by omega) | (unfold up; split; exact ⟨by omega, by omega⟩; exact i8 j h0 (by omega))) (by first | rfl | exact e189 | (rw [up_f (by decide)]; first | rfl | exact e189)) (by first | rfl | exact e180 | (rw [up_f (by decide)]; first | rfl | exact e180)) )
      · refine t_getR (pc := 15) hX 9 rfl rfl rfl fl_X12_50 rfl hG.1 (a_scores hG).1 ?_
        refine r_iload_n (pc := 19) hX 11 rfl rfl ?_
        refine t_getR (pc := 20) hX 12 rfl rfl rfl fl_X12_33 rfl hG.1 (a_s hG).1 ?_
        refine r_bipush (pc := 24) hX 14 rfl (by decide) ?_
        refine r_iload_n (pc := 26) hX 15 rfl rfl ?_
        refine r_iadd (pc := 27) hX 16 rfl ?_
        refine e_iald (y := (v10 180 (32 + k))) (pc := 28) hX 17 rfl (a_s hG).2.1 (a_s hG).2.2 (by omega) (by omega) (rfl) ?_
        have hb28 := hSInv_10.c32 k (by omega) (by omega)
        refine e_iast (pc := 29) hX 18 rfl (a_scores hG).2.1 (a_scores hG).2.2 (by decide) (by omega) (by omega) ?_
        refine r_iinc (ls' := [(2, 178), (0, q), (0, st), (0, (k + 1))]) (pc := 30) hX 19 rfl rfl (by decide) rfl ?_
        refine r_goto (pc := 33) hX 20 (tgt := 10) rfl (by decide) ?_
        exact (ih10 (k + 1) (up v10 185 k (v10 180 (32 + k))) ((hfr10).arr (r := 185) (by decide) (by decide)) (by rw [up_f (by decide)]; exact hOwI_10) (by rw [up_f (by decide)]; exact hSInv_10) (by omega) (fun j h0 h1 => by
            by_cases e : j = k
            · subst e; rw [up_s]; omega
            · rw [up_k e]; exact i8 j h0 (by omega)) (by first | rfl | exact e189 | (rw [up_f (by decide)]; first | rfl | exact e189)) (by first | rfl | exact e180 | (rw [up_f (by decide)]; first | rfl | exact e180)) (by omega))
  exact (L10 _ 0 v5 (((Fr.rf).tr hfr1 (by decide) (by decide)).tr hfr5 (by decide) (by decide)) (hq5.2.1) (hSInv_5) (by omega) (fun j h0 h1 => by omega) (by first | rfl | exact e189 | (rw [up_f (by decide)]; first | rfl | exact e189)) (by first | rfl | exact e180 | (rw [up_f (by decide)]; first | rfl | exact e180)) (Nat.lt_succ_self _))
set_option maxHeartbeats 4000000 in
set_option maxRecDepth 100000 in
theorem c_fair (g : Gp) (v ρ : Mv) (Z : Mz) (hG : GM ρ Z) (q : Int) (hS : SInv (v 180)) (hq : inR q) : Ok g 5 0 0 F_m_fair [(2, 178), (0, q)] v ρ Z (fun o v' ρ' Z' => ρ = ρ' ∧ Z = Z' ∧ Fr [185, 186, 189, 190, 191, 192, 193] [0, 31] v v' ∧ ∃ r : Int, o = some (0, r) ∧ True) := by
  refine Ok.of mo_m_fair (Nat.le_of_ble_eq_true rfl) ?_
  intro X hX hRm hxn hQ
  show wp g X F_m_fair 0 0 0 [(2, 178), (0, q), (3, 0), (3, 0), (3, 0), (3, 0), (3, 0), (3, 0)] [] v ρ Z
  have hb2 := hS.c2
  refine r_aload_n (pc := 0) hX 0 rfl rfl ?_
  refine r_iconst (pc := 1) hX 1 rfl ?_
  refine r_putI (pc := 2) hX 2 rfl fl_X12_1 rfl (fun _ h => by cases h; rfl) hG.1 (by decide) ?_
  refine r_aload_n (pc := 5) hX 3 rfl rfl ?_
  refine r_iload_n (pc := 6) hX 4 rfl rfl ?_
  refine r_callV (as := [(0, q)]) (st := []) (K := 12) (pc := 7) hX 5 rfl mo_m_isPlayer ml_X12_294 im_m_isPlayer se_m_isPlayer (c_isPlayer g (up v 178 0 0) ρ Z hG (q) (by rw [up_f (by decide)]; exact hS) (by omega)) rfl rfl rfl hG.1 (by rw [hRm]; exact ⟨by decide, by decide⟩) (by rw [hRm]; exact ⟨by decide, by decide⟩) (Nat.le_of_ble_eq_true rfl) (fun o7 v7 ρ7 Z7 hq7 _ => ?_)
  obtain ⟨rfl, rfl, rfl, r7, rfl, hq7⟩ := hq7
  try simp only [up_f (show (180 : Int) ≠ 178 by decide)] at hq7
  show wp g X F_m_fair 0 0 10 [(2, 178), (0, q), (3, 0), (3, 0), (3, 0), (3, 0), (3, 0), (3, 0)] [(0, r7)] (up v 178 0 0) ρ Z
  first | refine r_if_eq (pc := 10) hX 6 (tgt := 23) rfl (by decide) (⟨by omega, by omega⟩) (fun h10 => ?_) (fun h10 => ?_) | refine r_if_eq_any (pc := 10) hX 6 (tgt := 23) rfl (by decide) ?_ ?_
  · refine r_iconst (pc := 23) hX 13 rfl ?_
    exact r_iret (pc := 24) hX 14 hQ rfl rfl (Nat.le_refl 0) (Nat.le_refl 0) ⟨rfl, rfl, (Fr.rf).fld (k := 0) (by decide), (-1), rfl, trivial⟩
  · refine t_getR (pc := 13) hX 7 rfl rfl rfl fl_X12_33 rfl hG.1 (a_s hG).1 ?_
    refine r_iconst (pc := 17) hX 9 rfl ?_
    refine e_iald (y := (v 180 2)) (pc := 18) hX 10 rfl (a_s hG).2.1 (a_s hG).2.2 (by omega) (by omega) ((up_r (by decide)).trans (rfl)) ?_
    have hb18 := hS.c2
    refine r_iconst (pc := 19) hX 11 rfl ?_
    first | refine r_icmp_eq (pc := 20) hX 12 (tgt := 25) rfl (by decide) (⟨by omega, by omega⟩) (⟨by omega, by omega⟩) (fun h20 => ?_) (fun h20 => ?_) | refine r_icmp_eq_any (pc := 20) hX 12 (tgt := 25) rfl (by decide) ?_ ?_
    · refine r_iconst (pc := 25) hX 15 rfl ?_
      refine r_istore_n (ls' := [(2, 178), (0, q), (0, (-1)), (3, 0), (3, 0), (3, 0), (3, 0), (3, 0)]) (pc := 26) hX 16 rfl (by decide) rfl ?_
      refine r_lconst (pc := 27) hX 17 rfl ?_
      show wp g X F_m_fair 0 0 28 [(2, 178), (0, q), (0, (-1)), (3, 0), (3, 0), (3, 0), (3, 0), (3, 0)] [(1, 0)] (up v 178 0 0) ρ Z
      refine r_lstore_n (ls' := [(2, 178), (0, q), (0, (-1)), (1, 0), (3, 0), (3, 0), (3, 0), (3, 0)]) (pc := 28) hX 18 rfl (by decide) rfl ?_
      refine r_iconst (pc := 29) hX 19 rfl ?_
      refine r_istore (ls' := [(2, 178), (0, q), (0, (-1)), (1, 0), (3, 0), (0, 0), (3, 0), (3, 0)]) (pc := 30) hX 20 rfl (by decide) rfl ?_
      have L32 : ∀ (n32 : Nat) (b m s : Int) (v32 : Mv) , (Fr [185, 186, 189, 190, 191, 192, 193] [0, 31] v v32) → (SInv (v32 180)) → (0 ≤ s ∧ s ≤ 9) → (9 - s).toNat < n32 → wp g X F_m_fair 0 0 32 [(2, 178), (0, q), (0, b), (1, m), (3, 0), (0, s), (3, 0), (3, 0)] [] v32 ρ Z := by
        intro n32
        induction n32 with
        | zero => intro b m s v32 hfr32 hSInv_32 ic hme32; exact absurd hme32 (Nat.not_lt_zero _)
        | succ n32 ih32 =>
          intro b m s v32 hfr32 hSInv_32 ic hme32
          refine r_iload (pc := 32) hX 21 rfl rfl ?_
          refine r_bipush (pc := 34) hX 22 rfl (by decide) ?_
          first | refine r_icmp_ge (pc := 36) hX 23 (tgt := 74) rfl (by decide) (⟨by omega, by omega⟩) (⟨by omega, by omega⟩) (fun h36 => ?_) (fun h36 => ?_) | refine r_icmp_ge_any (pc := 36) hX 23 (tgt := 74) rfl (by decide) ?_ ?_
          · refine r_iload_n (pc := 74) hX 42 rfl rfl ?_
            exact r_iret (pc := 75) hX 43 hQ rfl rfl (Nat.le_refl 0) (Nat.le_refl 0) ⟨rfl, rfl, hfr32, b, rfl, trivial⟩
          · refine r_aload_n (pc := 39) hX 24 rfl rfl ?_
            refine r_iload_n (pc := 40) hX 25 rfl rfl ?_
            refine r_iload (pc := 41) hX 26 rfl rfl ?_
            refine r_callV (as := [(0, q), (0, s)]) (st := []) (K := 12) (pc := 43) hX 27 rfl mo_m_unlike ml_X12_419 im_m_unlike se_m_unlike (c_unlike g v32 ρ Z hG (q) (s) (hSInv_32) (by omega) (by omega)) rfl rfl rfl hG.1 (by rw [hRm]; exact ⟨by decide, by decide⟩) (by rw [hRm]; exact ⟨by decide, by decide⟩) (Nat.le_of_ble_eq_true rfl) (fun o43 v43 ρ43 Z43 hq43 _ => ?_)
            obtain ⟨rfl, rfl, hfr43, r43, rfl, hq43⟩ := hq43
            have hSInv_43 : SInv (v43 180) := by rw [hfr43.1 180 (by decide) (by decide)]; exact hSInv_32
            show wp g X F_m_fair 0 0 46 [(2, 178), (0, q), (0, b), (1, m), (3, 0), (0, s), (3, 0), (3, 0)] [(1, r43)] v43 ρ Z
            refine r_lstore (ls' := [(2, 178), (0, q), (0, b), (1, m), (3, 0), (0, s), (1, r43), (3, 0)]) (pc := 46) hX 28 rfl (by decide) rfl ?_
            refine r_iload_n (pc := 48) hX 29 rfl rfl ?_
            first | refine r_if_lt (pc := 49) hX 30 (tgt := 62) rfl (by decide) (⟨by omega, by omega⟩) (fun h49 => ?_) (fun h49 => ?_) | refine r_if_lt_any (pc := 49) hX 30 (tgt := 62) rfl (by decide) ?_ ?_
            · refine r_iload (pc := 62) hX 36 rfl rfl ?_
              refine r_istore_n (ls' := [(2, 178), (0, q), (0, s), (1, m), (3, 0), (0, s), (1, r43), (3, 0)]) (pc := 64) hX 37 rfl (by decide) rfl ?_
              refine r_lload (pc := 65) hX 38 rfl rfl ?_
              refine r_lstore_n (ls' := [(2, 178), (0, q), (0, s), (1, r43), (3, 0), (0, s), (1, r43), (3, 0)]) (pc := 67) hX 39 rfl (by decide) rfl ?_
              refine r_iinc (ls' := [(2, 178), (0, q), (0, s), (1, r43), (3, 0), (0, (s + 1)), (1, r43), (3, 0)]) (pc := 68) hX 40 rfl rfl (by decide) rfl ?_
              refine r_goto (pc := 71) hX 41 (tgt := 32) rfl (by decide) ?_
              refine r_wk (ls' := [(2, 178), (0, q), (0, s), (1, r43), (3, 0), (0, (s + 1)), (3, 0), (3, 0)]) ⟨Or.inr rfl, Or.inr rfl, Or.inr rfl, Or.inr rfl, Or.inr rfl, Or.inr rfl, Or.inl rfl, Or.inr rfl, trivial⟩ ?_
              exact (ih32 s r43 (s + 1) v43 ((hfr32).tr hfr43 (by decide) (by decide)) (hSInv_43) (by omega) (by omega))
            · refine r_lload (pc := 52) hX 31 rfl rfl ?_
              refine r_lload_n (pc := 54) hX 32 rfl rfl ?_
              refine r_lcmp_any (pc := 55) hX 33 rfl (fun z55 hz55a hz55b => ?_)
              first | refine r_if_lt (pc := 56) hX 34 (tgt := 62) rfl (by decide) (⟨by omega, by omega⟩) (fun h56 => ?_) (fun h56 => ?_) | refine r_if_lt_any (pc := 56) hX 34 (tgt := 62) rfl (by decide) ?_ ?_
              · refine r_iload (pc := 62) hX 36 rfl rfl ?_
                refine r_istore_n (ls' := [(2, 178), (0, q), (0, s), (1, m), (3, 0), (0, s), (1, r43), (3, 0)]) (pc := 64) hX 37 rfl (by decide) rfl ?_
                refine r_lload (pc := 65) hX 38 rfl rfl ?_
                refine r_lstore_n (ls' := [(2, 178), (0, q), (0, s), (1, r43), (3, 0), (0, s), (1, r43), (3, 0)]) (pc := 67) hX 39 rfl (by decide) rfl ?_
                refine r_iinc (ls' := [(2, 178), (0, q), (0, s), (1, r43), (3, 0), (0, (s + 1)), (1, r43), (3, 0)]) (pc := 68) hX 40 rfl rfl (by decide) rfl ?_
                refine r_goto (pc := 71) hX 41 (tgt := 32) rfl (by decide) ?_
                refine r_wk (ls' := [(2, 178), (0, q), (0, s), (1, r43), (3, 0), (0, (s + 1)), (3, 0), (3, 0)]) ⟨Or.inr rfl, Or.inr rfl, Or.inr rfl, Or.inr rfl, Or.inr rfl, Or.inr rfl, Or.inl rfl, Or.inr rfl, trivial⟩ ?_
                exact (ih32 s r43 (s + 1) v43 ((hfr32).tr hfr43 (by decide) (by decide)) (hSInv_43) (by omega) (by omega))
              · refine r_goto (pc := 59) hX 35 (tgt := 68) rfl (by decide) ?_
                refine r_iinc (ls' := [(2, 178), (0, q), (0, b), (1, m), (3, 0), (0, (s + 1)), (1, r43), (3, 0)]) (pc := 68) hX 40 rfl rfl (by decide) rfl ?_
                refine r_goto (pc := 71) hX 41 (tgt := 32) rfl (by decide) ?_
                refine r_wk (ls' := [(2, 178), (0, q), (0, b), (1, m), (3, 0), (0, (s + 1)), (3, 0), (3, 0)]) ⟨Or.inr rfl, Or.inr rfl, Or.inr rfl, Or.inr rfl, Or.inr rfl, Or.inr rfl, Or.inl rfl, Or.inr rfl, trivial⟩ ?_
                exact (ih32 b m (s + 1) v43 ((hfr32).tr hfr43 (by decide) (by decide)) (hSInv_43) (by omega) (by omega))
      exact (L32 _ (-1) 0 0 (up v 178 0 0) ((Fr.rf).fld (k := 0) (by decide)) (by rw [up_f (by decide)]; exact hS) (by omega) (Nat.lt_succ_self _))
    · refine r_iconst (pc := 23) hX 13 rfl ?_
      exact r_iret (pc := 24) hX 14 hQ rfl rfl (Nat.le_refl 0) (Nat.le_refl 0) ⟨rfl, rfl, (Fr.rf).fld (k := 0) (by decide), (-1), rfl, trivial⟩
set_option maxHeartbeats 4000000 in
set_option maxRecDepth 100000 in
theorem c_goal (g : Gp) (v ρ : Mv) (Z : Mz) (hG : GM ρ Z)  (hS : SInv (v 180)) : Ok g 5 0 0 F_m_goal [(2, 178)] v ρ Z (fun o v' ρ' Z' => ρ = ρ' ∧ Z = Z' ∧ Fr [180, 185, 186, 189, 190, 191, 192, 193] [0, 31] v v' ∧ ∃ r : Int, o = some (0, r) ∧ (v' 180 = v 180)) := by
  refine Ok.of mo_m_goal (Nat.le_of_ble_eq_true rfl) ?_
  intro X hX hRm hxn hQ
  show wp g X F_m_goal 0 0 0 [(2, 178), (3, 0), (3, 0), (3, 0), (3, 0), (3, 0), (3, 0), (3, 0)] [] v ρ Z
  have hb2 := hS.c2
  have hb3 := hS.c3
  refine r_aload_n (pc := 0) hX 0 rfl rfl ?_
  refine r_iconst (pc := 1) hX 1 rfl ?_
  refine r_putI (pc := 2) hX 2 rfl fl_X12_1 rfl (fun _ h => by cases h; rfl) hG.1 (by decide) ?_
  refine t_getR (pc := 5) hX 3 rfl rfl rfl fl_X12_33 rfl hG.1 (a_s hG).1 ?_
  refine r_iconst (pc := 9) hX 5 rfl ?_
  refine e_iald (y := (v 180 2)) (pc := 10) hX 6 rfl (a_s hG).2.1 (a_s hG).2.2 (by omega) (by omega) ((up_r (by decide)).trans (rfl)) ?_
  have hb10 := hS.c2
  refine r_iconst (pc := 11) hX 7 rfl ?_
  first | refine r_icmp_eq (pc := 12) hX 8 (tgt := 17) rfl (by decide) (⟨by omega, by omega⟩) (⟨by omega, by omega⟩) (fun h12 => ?_) (fun h12 => ?_) | refine r_icmp_eq_any (pc := 12) hX 8 (tgt := 17) rfl (by decide) ?_ ?_
  · refine t_getR (pc := 17) hX 11 rfl rfl rfl fl_X12_33 rfl hG.1 (a_s hG).1 ?_
    refine r_iconst (pc := 21) hX 13 rfl ?_
    refine e_iald (y := (v 180 3)) (pc := 22) hX 14 rfl (a_s hG).2.1 (a_s hG).2.2 (by omega) (by omega) ((up_r (by decide)).trans (rfl)) ?_
    have hb22 := hS.c3
    refine r_istore_n (ls' := [(2, 178), (0, (v 180 3)), (3, 0), (3, 0), (3, 0), (3, 0), (3, 0), (3, 0)]) (pc := 23) hX 15 rfl (by decide) rfl ?_
    refine r_iconst (pc := 24) hX 16 rfl ?_
    refine r_istore_n (ls' := [(2, 178), (0, (v 180 3)), (0, (-1)), (3, 0), (3, 0), (3, 0), (3, 0), (3, 0)]) (pc := 25) hX 17 rfl (by decide) rfl ?_
    refine r_lconst (pc := 26) hX 18 rfl ?_
    show wp g X F_m_goal 0 0 27 [(2, 178), (0, (v 180 3)), (0, (-1)), (3, 0), (3, 0), (3, 0), (3, 0), (3, 0)] [(1, 0)] (up v 178 0 0) ρ Z
    refine r_lstore_n (ls' := [(2, 178), (0, (v 180 3)), (0, (-1)), (1, 0), (3, 0), (3, 0), (3, 0), (3, 0)]) (pc := 27) hX 19 rfl (by decide) rfl ?_
    refine r_iconst (pc := 28) hX 20 rfl ?_
    refine r_istore (ls' := [(2, 178), (0, (v 180 3)), (0, (-1)), (1, 0), (3, 0), (0, 1), (3, 0), (3, 0)]) (pc := 29) hX 21 rfl (by decide) rfl ?_
    have L31 : ∀ (n31 : Nat) (b m t : Int) (v31 : Mv) , (Fr [180, 185, 186, 189, 190, 191, 192, 193] [0, 31] v v31) → (SInv (v31 180)) → (1 ≤ t ∧ t ≤ 10) → (∀ k, k ≠ 3 → v31 180 k = v 180 k) → (10 - t).toNat < n31 → wp g X F_m_goal 0 0 31 [(2, 178), (0, (v 180 3)), (0, b), (1, m), (3, 0), (0, t), (3, 0), (3, 0)] [] v31 ρ Z := by
      intro n31
      induction n31 with
      | zero => intro b m t v31 hfr31 hSInv_31 ic ie hme31; exact absurd hme31 (Nat.not_lt_zero _)
      | succ n31 ih31 =>
        intro b m t v31 hfr31 hSInv_31 ic ie hme31
        refine r_iload (pc := 31) hX 22 rfl rfl ?_
        refine r_bipush (pc := 33) hX 23 rfl (by decide) ?_
        first | refine r_icmp_ge (pc := 35) hX 24 (tgt := 80) rfl (by decide) (⟨by omega, by omega⟩) (⟨by omega, by omega⟩) (fun h35 => ?_) (fun h35 => ?_) | refine r_icmp_ge_any (pc := 35) hX 24 (tgt := 80) rfl (by decide) ?_ ?_
        · refine t_getR (pc := 80) hX 48 rfl rfl rfl fl_X12_33 rfl hG.1 (a_s hG).1 ?_
          refine r_iconst (pc := 84) hX 50 rfl ?_
          refine r_iload_n (pc := 85) hX 51 rfl rfl ?_
          refine e_iast (pc := 86) hX 52 rfl (a_s hG).2.1 (a_s hG).2.2 (by decide) (by omega) (by omega) ?_
          refine r_iload_n (pc := 87) hX 53 rfl rfl ?_
          exact r_iret (pc := 88) hX 54 hQ rfl rfl (Nat.le_refl 0) (Nat.le_refl 0) ⟨rfl, rfl, (hfr31).arr (r := 180) (by decide) (by decide), b, rfl, (by
        funext k
        by_cases e : k = 3
        · subst e; rw [up_s]
        · rw [up_k e]; exact ie k e)⟩
        · refine t_getR (pc := 38) hX 25 rfl rfl rfl fl_X12_33 rfl hG.1 (a_s hG).1 ?_
          refine r_iconst (pc := 42) hX 27 rfl ?_
          refine r_iload (pc := 43) hX 28 rfl rfl ?_
          refine e_iast (pc := 45) hX 29 rfl (a_s hG).2.1 (a_s hG).2.2 (by decide) (by omega) (by omega) ?_
          refine r_aload_n (pc := 46) hX 30 rfl rfl ?_
          refine r_iconst (pc := 47) hX 31 rfl ?_
          refine r_iconst (pc := 48) hX 32 rfl ?_
          refine r_callV (as := [(0, (-1)), (0, 0)]) (st := []) (K := 12) (pc := 49) hX 33 rfl mo_m_unlike ml_X12_419 im_m_unlike se_m_unlike (c_unlike g (up v31 180 3 t) ρ Z hG ((-1)) (0) (hSInv_31.goal (fun k hk => up_k hk) (by rw [up_s]; omega)) (by omega) (by omega)) rfl rfl rfl hG.1 (by rw [hRm]; exact ⟨by decide, by decide⟩) (by rw [hRm]; exact ⟨by decide, by decide⟩) (Nat.le_of_ble_eq_true rfl) (fun o49 v49 ρ49 Z49 hq49 _ => ?_)
          obtain ⟨rfl, rfl, hfr49, r49, rfl, hq49⟩ := hq49
          show wp g X F_m_goal 0 0 52 [(2, 178), (0, (v 180 3)), (0, b), (1, m), (3, 0), (0, t), (3, 0), (3, 0)] [(1, r49)] v49 ρ Z
          refine r_lstore (ls' := [(2, 178), (0, (v 180 3)), (0, b), (1, m), (3, 0), (0, t), (1, r49), (3, 0)]) (pc := 52) hX 34 rfl (by decide) rfl ?_
          refine r_iload_n (pc := 54) hX 35 rfl rfl ?_
          first | refine r_if_lt (pc := 55) hX 36 (tgt := 68) rfl (by decide) (⟨by omega, by omega⟩) (fun h55 => ?_) (fun h55 => ?_) | refine r_if_lt_any (pc := 55) hX 36 (tgt := 68) rfl (by decide) ?_ ?_
          · refine r_iload (pc := 68) hX 42 rfl rfl ?_
            refine r_istore_n (ls' := [(2, 178), (0, (v 180 3)), (0, t), (1, m), (3, 0), (0, t), (1, r49), (3, 0)]) (pc := 70) hX 43 rfl (by decide) rfl ?_
            refine r_lload (pc := 71) hX 44 rfl rfl ?_
            refine r_lstore_n (ls' := [(2, 178), (0, (v 180 3)), (0, t), (1, r49), (3, 0), (0, t), (1, r49), (3, 0)]) (pc := 73) hX 45 rfl (by decide) rfl ?_
            refine r_iinc (ls' := [(2, 178), (0, (v 180 3)), (0, t), (1, r49), (3, 0), (0, (t + 1)), (1, r49), (3, 0)]) (pc := 74) hX 46 rfl rfl (by decide) rfl ?_
            refine r_goto (pc := 77) hX 47 (tgt := 31) rfl (by decide) ?_
            refine r_wk (ls' := [(2, 178), (0, (v 180 3)), (0, t), (1, r49), (3, 0), (0, (t + 1)), (3, 0), (3, 0)]) ⟨Or.inr rfl, Or.inr rfl, Or.inr rfl, Or.inr rfl, Or.inr rfl, Or.inr rfl, Or.inl rfl, Or.inr rfl, trivial⟩ ?_
            exact (ih31 t r49 (t + 1) v49 (((hfr31).arr (r := 180) (by decide) (by decide)).tr hfr49 (by decide) (by decide)) (by rw [hfr49.1 180 (by decide) (by decide)]; exact hSInv_31.goal (fun k hk => up_k hk) (by rw [up_s]; omega)) (by omega) (fun k hk => by rw [hfr49.1 180 (by decide) (by decide), up_k hk]; exact ie k hk) (by omega))
          · refine r_lload (pc := 58) hX 37 rfl rfl ?_
            refine r_lload_n (pc := 60) hX 38 rfl rfl ?_
            refine r_lcmp_any (pc := 61) hX 39 rfl (fun z61 hz61a hz61b => ?_)
            first | refine r_if_lt (pc := 62) hX 40 (tgt := 68) rfl (by decide) (⟨by omega, by omega⟩) (fun h62 => ?_) (fun h62 => ?_) | refine r_if_lt_any (pc := 62) hX 40 (tgt := 68) rfl (by decide) ?_ ?_
            · refine r_iload (pc := 68) hX 42 rfl rfl ?_
              refine r_istore_n (ls' := [(2, 178), (0, (v 180 3)), (0, t), (1, m), (3, 0), (0, t), (1, r49), (3, 0)]) (pc := 70) hX 43 rfl (by decide) rfl ?_
              refine r_lload (pc := 71) hX 44 rfl rfl ?_
              refine r_lstore_n (ls' := [(2, 178), (0, (v 180 3)), (0, t), (1, r49), (3, 0), (0, t), (1, r49), (3, 0)]) (pc := 73) hX 45 rfl (by decide) rfl ?_
              refine r_iinc (ls' := [(2, 178), (0, (v 180 3)), (0, t), (1, r49), (3, 0), (0, (t + 1)), (1, r49), (3, 0)]) (pc := 74) hX 46 rfl rfl (by decide) rfl ?_
              refine r_goto (pc := 77) hX 47 (tgt := 31) rfl (by decide) ?_
              refine r_wk (ls' := [(2, 178), (0, (v 180 3)), (0, t), (1, r49), (3, 0), (0, (t + 1)), (3, 0), (3, 0)]) ⟨Or.inr rfl, Or.inr rfl, Or.inr rfl, Or.inr rfl, Or.inr rfl, Or.inr rfl, Or.inl rfl, Or.inr rfl, trivial⟩ ?_
              exact (ih31 t r49 (t + 1) v49 (((hfr31).arr (r := 180) (by decide) (by decide)).tr hfr49 (by decide) (by decide)) (by rw [hfr49.1 180 (by decide) (by decide)]; exact hSInv_31.goal (fun k hk => up_k hk) (by rw [up_s]; omega)) (by omega) (fun k hk => by rw [hfr49.1 180 (by decide) (by decide), up_k hk]; exact ie k hk) (by omega))
            · refine r_goto (pc := 65) hX 41 (tgt := 74) rfl (by decide) ?_
              refine r_iinc (ls' := [(2, 178), (0, (v 180 3)), (0, b), (1, m), (3, 0), (0, (t + 1)), (1, r49), (3, 0)]) (pc := 74) hX 46 rfl rfl (by decide) rfl ?_
              refine r_goto (pc := 77) hX 47 (tgt := 31) rfl (by decide) ?_
              refine r_wk (ls' := [(2, 178), (0, (v 180 3)), (0, b), (1, m), (3, 0), (0, (t + 1)), (3, 0), (3, 0)]) ⟨Or.inr rfl, Or.inr rfl, Or.inr rfl, Or.inr rfl, Or.inr rfl, Or.inr rfl, Or.inl rfl, Or.inr rfl, trivial⟩ ?_
              exact (ih31 b m (t + 1) v49 (((hfr31).arr (r := 180) (by decide) (by decide)).tr hfr49 (by decide) (by decide)) (by rw [hfr49.1 180 (by decide) (by decide)]; exact hSInv_31.goal (fun k hk => up_k hk) (by rw [up_s]; omega)) (by omega) (fun k hk => by rw [hfr49.1 180 (by decide) (by decide), up_k hk]; exact ie k hk) (by omega))
    exact (L31 _ (-1) 0 1 (up v 178 0 0) ((Fr.rf).fld (k := 0) (by decide)) (by rw [up_f (by decide)]; exact hS) (by omega) (fun k _ => by rw [up_r (by decide)]) (Nat.lt_succ_self _))
  · refine r_iconst (pc := 15) hX 9 rfl ?_
    exact r_iret (pc := 16) hX 10 hQ rfl rfl (Nat.le_refl 0) (Nat.le_refl 0) ⟨rfl, rfl, (Fr.rf).fld (k := 0) (by decide), (-1), rfl, (by rw [up_f (by decide)])⟩
