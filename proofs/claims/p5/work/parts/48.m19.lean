set_option maxHeartbeats 4000000 in
set_option maxRecDepth 100000 in
theorem c_code (g : Gp) (v ρ : Mv) (Z : Mz) (hG : GM ρ Z) (a b c : Int) (hc : 0 ≤ v 178 51 ∧ v 178 51 ≤ 39) : Ok g 1 0 0 F_m_code [(2, 178), (0, a), (0, b), (0, c)] v ρ Z (fun o v' ρ' Z' => ρ = ρ' ∧ Z = Z' ∧ Fr [182] [51] v v' ∧ o = none ∧ (v' 178 51 = v 178 51 + 1 ∧ v' 182 (3 * v 178 51) = a ∧ ∀ j, j < 3 * v 178 51 → v' 182 j = v 182 j)) := by
  refine Ok.of mo_m_code (Nat.le_of_ble_eq_true rfl) ?_
  intro X hX hRm hxn hQ
  show wp g X F_m_code 0 0 0 [(2, 178), (0, a), (0, b), (0, c)] [] v ρ Z
  refine t_getR (pc := 0) hX 0 rfl rfl rfl fl_X12_40 rfl hG.1 (a_read hG).1 ?_
  refine r_iconst (pc := 4) hX 2 rfl ?_
  refine t_getI (y := (v 178 51)) (pc := 5) hX 3 rfl rfl rfl fl_X12_490 rfl hG.1 (rfl) ?_
  refine r_imul (pc := 9) hX 5 rfl ?_
  refine r_iload_n (pc := 10) hX 6 rfl rfl ?_
  refine e_iast (pc := 11) hX 7 rfl (a_read hG).2.1 (a_read hG).2.2 (by decide) (by omega) (by omega) ?_
  refine t_getR (pc := 12) hX 8 rfl rfl rfl fl_X12_40 rfl hG.1 (a_read hG).1 ?_
  refine r_iconst (pc := 16) hX 10 rfl ?_
  refine t_getI (y := (v 178 51)) (pc := 17) hX 11 rfl rfl rfl fl_X12_490 rfl hG.1 ((up_r (by decide)).trans (rfl)) ?_
  refine r_imul (pc := 21) hX 13 rfl ?_
  refine r_iconst (pc := 22) hX 14 rfl ?_
  refine r_iadd (pc := 23) hX 15 rfl ?_
  refine r_iload_n (pc := 24) hX 16 rfl rfl ?_
  refine e_iast (pc := 25) hX 17 rfl (a_read hG).2.1 (a_read hG).2.2 (by decide) (by omega) (by omega) ?_
  refine t_getR (pc := 26) hX 18 rfl rfl rfl fl_X12_40 rfl hG.1 (a_read hG).1 ?_
  refine r_iconst (pc := 30) hX 20 rfl ?_
  refine t_getI (y := (v 178 51)) (pc := 31) hX 21 rfl rfl rfl fl_X12_490 rfl hG.1 ((up_r (by decide)).trans ((up_r (by decide)).trans (rfl))) ?_
  refine r_imul (pc := 35) hX 23 rfl ?_
  refine r_iconst (pc := 36) hX 24 rfl ?_
  refine r_iadd (pc := 37) hX 25 rfl ?_
  refine r_iload_n (pc := 38) hX 26 rfl rfl ?_
  refine e_iast (pc := 39) hX 27 rfl (a_read hG).2.1 (a_read hG).2.2 (by decide) (by omega) (by omega) ?_
  refine r_aload_n (pc := 40) hX 28 rfl rfl ?_
  refine r_dup (pc := 41) hX 29 rfl (show (2 : Nat) ≠ 1 by decide) ?_
  refine e_getI (y := (v 178 51)) (pc := 42) hX 30 rfl fl_X12_490 rfl hG.1 ((up_r (by decide)).trans ((up_r (by decide)).trans ((up_r (by decide)).trans (rfl)))) ?_
  refine r_iconst (pc := 45) hX 31 rfl ?_
  refine r_iadd (pc := 46) hX 32 rfl ?_
  refine r_putI (pc := 47) hX 33 rfl fl_X12_490 rfl (fun _ h => by cases h; rfl) hG.1 (by decide) ?_
  show wp g X F_m_code 0 0 50 [(2, 178), (0, a), (0, b), (0, c)] [] (up (up (up (up v 182 (3 * (v 178 51)) a) 182 ((3 * (v 178 51)) + 1) b) 182 ((3 * (v 178 51)) + 2) c) 178 51 ((v 178 51) + 1)) ρ Z
  exact r_vret (pc := 50) hX 34 hQ rfl rfl (Nat.le_refl 0) (Nat.le_refl 0) ⟨rfl, rfl, ((((Fr.rf).arr (r := 182) (by decide) (by decide)).arr (r := 182) (by decide) (by decide)).arr (r := 182) (by decide) (by decide)).fld (k := 51) (by decide), rfl, (⟨up_s _ _ _ _, by rw [up_r (by decide), up_k (by omega), up_k (by omega), up_s], fun j hj => by rw [up_r (by decide), up_k (by omega), up_k (by omega), up_k (by omega)]⟩)⟩
set_option maxHeartbeats 4000000 in
set_option maxRecDepth 100000 in
theorem c_joins (g : Gp) (v ρ : Mv) (Z : Mz) (hG : GM ρ Z) (w : Int) (hw : w = 21 ∨ w = 22) (hN : SnI (v 182) (v 205) (v 178 51) (v 178 53) (v 178 52) 1) : Ok g 2 0 0 F_m_joins [(2, 178), (0, w)] v ρ Z (fun o v' ρ' Z' => ρ = ρ' ∧ Z = Z' ∧ Fr [182] [51, 53] v v' ∧ o = none ∧ (SnI (v' 182) (v 205) (v' 178 51) (v' 178 53) (v 178 52) 1) ∧ ((w = 22 → v' 178 53 ≤ 0 ∨ v 205 (v' 178 53 - 1) ≠ 21 ∧ v 205 (v' 178 53 - 1) ≠ 22))) := by
  refine Ok.of mo_m_joins (Nat.le_of_ble_eq_true rfl) ?_
  intro X hX hRm hxn hQ
  show wp g X F_m_joins 0 0 0 [(2, 178), (0, w)] [] v ρ Z
  have L0 : ∀ (n0 : Nat) (v0 : Mv) , (Fr [182] [51, 53] v v0) → (SnI (v0 182) (v 205) (v0 178 51) (v0 178 53) (v 178 52) 1) → (v0 178 53).toNat < n0 → wp g X F_m_joins 0 0 0 [(2, 178), (0, w)] [] v0 ρ Z := by
    intro n0
    induction n0 with
    | zero => intro v0 hfr0 isn hme0; exact absurd hme0 (Nat.not_lt_zero _)
    | succ n0 ih0 =>
      intro v0 hfr0 isn hme0
      have in_ := isn.nums
      have et0 : v0 205 = v 205 := hfr0.1 205 (by decide) (by decide)
      refine t_getI (y := (v0 178 53)) (pc := 0) hX 0 rfl rfl rfl fl_X12_493 rfl hG.1 (rfl) ?_
      first | refine r_if_le (pc := 4) hX 2 (tgt := 73) rfl (by decide) (⟨by omega, by omega⟩) (fun h4 => ?_) (fun h4 => ?_) | refine r_if_le_any (pc := 4) hX 2 (tgt := 73) rfl (by decide) ?_ ?_
      · exact r_vret (pc := 73) hX 40 hQ rfl rfl (Nat.le_refl 0) (Nat.le_refl 0) ⟨rfl, rfl, hfr0, rfl, (isn), (fun e => by rw [← et0]; omega)⟩
      · refine t_getR (pc := 7) hX 3 rfl rfl rfl fl_X12_114 rfl hG.1 (a_stack hG).1 ?_
        refine t_getI (y := (v0 178 53)) (pc := 11) hX 5 rfl rfl rfl fl_X12_493 rfl hG.1 (rfl) ?_
        refine r_iconst (pc := 15) hX 7 rfl ?_
        refine r_isub (pc := 16) hX 8 rfl ?_
        refine e_iald (y := (v0 205 ((v0 178 53) - 1))) (pc := 17) hX 9 rfl (a_stack hG).2.1 (a_stack hG).2.2 (by omega) (by omega) (rfl) ?_
        have hb17 := isn.stk (v0 178 53 - 1) (by omega) (by omega)
        rw [← et0] at hb17
        refine r_bipush (pc := 18) hX 10 rfl (by decide) ?_
        have L45 : (v0 205 (v0 178 53 - 1) = 21 ∨ v0 205 (v0 178 53 - 1) = 22) → wp g X F_m_joins 0 0 45 [(2, 178), (0, w)] [] v0 ρ Z := by
          intro i45
          refine r_aload_n (pc := 45) hX 24 rfl rfl ?_
          refine r_dup (pc := 46) hX 25 rfl (show (2 : Nat) ≠ 1 by decide) ?_
          refine e_getI (y := (v0 178 53)) (pc := 47) hX 26 rfl fl_X12_493 rfl hG.1 (rfl) ?_
          refine r_iconst (pc := 50) hX 27 rfl ?_
          refine r_isub (pc := 51) hX 28 rfl ?_
          refine r_putI (pc := 52) hX 29 rfl fl_X12_493 rfl (fun _ h => by cases h; rfl) hG.1 (by decide) ?_
          refine r_aload_n (pc := 55) hX 30 rfl rfl ?_
          refine t_getR (pc := 56) hX 31 rfl rfl rfl fl_X12_114 rfl hG.1 (a_stack hG).1 ?_
          refine t_getI (y := ((v0 178 53) - 1)) (pc := 60) hX 33 rfl rfl rfl fl_X12_493 rfl hG.1 (up_s _ _ _ _) ?_
          refine e_iald (y := (v0 205 ((v0 178 53) - 1))) (pc := 64) hX 35 rfl (a_stack hG).2.1 (a_stack hG).2.2 (by omega) (by omega) ((up_r (by decide)).trans (rfl)) ?_
          refine r_iconst (pc := 65) hX 36 rfl ?_
          refine r_iconst (pc := 66) hX 37 rfl ?_
          refine r_callV (as := [(0, (v0 205 ((v0 178 53) - 1))), (0, 0), (0, 0)]) (st := []) (K := 12) (pc := 67) hX 38 rfl mo_m_code ml_X12_496 im_m_code se_m_code (c_code g (up v0 178 53 ((v0 178 53) - 1)) ρ Z hG ((v0 205 ((v0 178 53) - 1))) (0) (0) (by (repeat (first | rw [up_k (by decide)] | rw [up_s] | rw [up_r (by decide)])); omega)) rfl rfl rfl hG.1 (by rw [hRm]; exact ⟨by decide, by decide⟩) (by rw [hRm]; exact ⟨by decide, by decide⟩) (Nat.le_of_ble_eq_true rfl) (fun o67 v67 ρ67 Z67 hq67 _ => ?_)
          obtain ⟨rfl, rfl, hfr67, rfl, hq67⟩ := hq67
          try simp only [up_f (show (180 : Int) ≠ 178 by decide), up_f (show (182 : Int) ≠ 178 by decide), up_k (show (51 : Int) ≠ 53 by decide)] at hq67
          have hk67_53 : v67 178 53 = ((v0 178 53) - 1) := (hfr67.2 53 (by decide)).trans (up_s _ _ _ _)
          show wp g X F_m_joins 0 0 70 [(2, 178), (0, w)] [] v67 ρ Z
          refine r_goto (pc := 70) hX 39 (tgt := 0) rfl (by decide) ?_
          exact (ih0  v67 (((hfr0).fld (k := 53) (by decide)).tr hfr67 (by decide) (by decide)) (by rw [hq67.1, hk67_53]; exact isn.join (by omega) (by rw [← et0]; exact i45) hq67.2.2 (by rw [← et0]; exact hq67.2.1)) (by omega))
        first | refine r_icmp_eq (pc := 20) hX 11 (tgt := 45) rfl (by decide) (⟨by omega, by omega⟩) (⟨by omega, by omega⟩) (fun h20 => ?_) (fun h20 => ?_) | refine r_icmp_eq_any (pc := 20) hX 11 (tgt := 45) rfl (by decide) ?_ ?_
        · exact (L45  (by omega) )
        · refine t_getR (pc := 23) hX 12 rfl rfl rfl fl_X12_114 rfl hG.1 (a_stack hG).1 ?_
          refine t_getI (y := (v0 178 53)) (pc := 27) hX 14 rfl rfl rfl fl_X12_493 rfl hG.1 (rfl) ?_
          refine r_iconst (pc := 31) hX 16 rfl ?_
          refine r_isub (pc := 32) hX 17 rfl ?_
          refine e_iald (y := (v0 205 ((v0 178 53) - 1))) (pc := 33) hX 18 rfl (a_stack hG).2.1 (a_stack hG).2.2 (by omega) (by omega) (rfl) ?_
          have hb33 := isn.stk (v0 178 53 - 1) (by omega) (by omega)
          rw [← et0] at hb33
          refine r_bipush (pc := 34) hX 19 rfl (by decide) ?_
          first | refine r_icmp_ne (pc := 36) hX 20 (tgt := 73) rfl (by decide) (⟨by omega, by omega⟩) (⟨by omega, by omega⟩) (fun h36 => ?_) (fun h36 => ?_) | refine r_icmp_ne_any (pc := 36) hX 20 (tgt := 73) rfl (by decide) ?_ ?_
          · exact r_vret (pc := 73) hX 40 hQ rfl rfl (Nat.le_refl 0) (Nat.le_refl 0) ⟨rfl, rfl, hfr0, rfl, (isn), (fun e => by rw [← et0]; omega)⟩
          · refine r_iload_n (pc := 39) hX 21 rfl rfl ?_
            refine r_bipush (pc := 40) hX 22 rfl (by decide) ?_
            first | refine r_icmp_ne (pc := 42) hX 23 (tgt := 73) rfl (by decide) (⟨by omega, by omega⟩) (⟨by omega, by omega⟩) (fun h42 => ?_) (fun h42 => ?_) | refine r_icmp_ne_any (pc := 42) hX 23 (tgt := 73) rfl (by decide) ?_ ?_
            · exact r_vret (pc := 73) hX 40 hQ rfl rfl (Nat.le_refl 0) (Nat.le_refl 0) ⟨rfl, rfl, hfr0, rfl, (isn), (fun e => by rw [← et0]; omega)⟩
            · exact (L45  (by omega) )
  exact (L0 _  v (Fr.rf) (hN) (Nat.lt_succ_self _))
set_option maxHeartbeats 4000000 in
set_option maxRecDepth 100000 in
theorem c_nots (g : Gp) (v ρ : Mv) (Z : Mz) (hG : GM ρ Z)  (hN : SnI (v 182) (v 205) (v 178 51) (v 178 53) (v 178 52) 1) : Ok g 2 0 0 F_m_nots [(2, 178)] v ρ Z (fun o v' ρ' Z' => ρ = ρ' ∧ Z = Z' ∧ Fr [182] [51, 53, 54] v v' ∧ o = none ∧ (SnI (v' 182) (v 205) (v' 178 51) (v' 178 53) (v 178 52) 1)) := by
  refine Ok.of mo_m_nots (Nat.le_of_ble_eq_true rfl) ?_
  intro X hX hRm hxn hQ
  show wp g X F_m_nots 0 0 0 [(2, 178)] [] v ρ Z
  have L0 : ∀ (n0 : Nat) (v0 : Mv) , (Fr [182] [51, 53, 54] v v0) → (SnI (v0 182) (v 205) (v0 178 51) (v0 178 53) (v 178 52) 1) → (v0 178 53).toNat < n0 → wp g X F_m_nots 0 0 0 [(2, 178)] [] v0 ρ Z := by
    intro n0
    induction n0 with
    | zero => intro v0 hfr0 isn hme0; exact absurd hme0 (Nat.not_lt_zero _)
    | succ n0 ih0 =>
      intro v0 hfr0 isn hme0
      have in_ := isn.nums
      have et0 : v0 205 = v 205 := hfr0.1 205 (by decide) (by decide)
      refine t_getI (y := (v0 178 53)) (pc := 0) hX 0 rfl rfl rfl fl_X12_493 rfl hG.1 (rfl) ?_
      first | refine r_if_le (pc := 4) hX 2 (tgt := 54) rfl (by decide) (⟨by omega, by omega⟩) (fun h4 => ?_) (fun h4 => ?_) | refine r_if_le_any (pc := 4) hX 2 (tgt := 54) rfl (by decide) ?_ ?_
      · exact r_vret (pc := 54) hX 30 hQ rfl rfl (Nat.le_refl 0) (Nat.le_refl 0) ⟨rfl, rfl, hfr0, rfl, (isn)⟩
      · refine t_getR (pc := 7) hX 3 rfl rfl rfl fl_X12_114 rfl hG.1 (a_stack hG).1 ?_
        refine t_getI (y := (v0 178 53)) (pc := 11) hX 5 rfl rfl rfl fl_X12_493 rfl hG.1 (rfl) ?_
        refine r_iconst (pc := 15) hX 7 rfl ?_
        refine r_isub (pc := 16) hX 8 rfl ?_
        refine e_iald (y := (v0 205 ((v0 178 53) - 1))) (pc := 17) hX 9 rfl (a_stack hG).2.1 (a_stack hG).2.2 (by omega) (by omega) (rfl) ?_
        have hb17 := isn.stk (v0 178 53 - 1) (by omega) (by omega)
        rw [← et0] at hb17
        refine r_bipush (pc := 18) hX 10 rfl (by decide) ?_
        first | refine r_icmp_ne (pc := 20) hX 11 (tgt := 54) rfl (by decide) (⟨by omega, by omega⟩) (⟨by omega, by omega⟩) (fun h20 => ?_) (fun h20 => ?_) | refine r_icmp_ne_any (pc := 20) hX 11 (tgt := 54) rfl (by decide) ?_ ?_
        · exact r_vret (pc := 54) hX 30 hQ rfl rfl (Nat.le_refl 0) (Nat.le_refl 0) ⟨rfl, rfl, hfr0, rfl, (isn)⟩
        · refine r_aload_n (pc := 23) hX 12 rfl rfl ?_
          refine r_dup (pc := 24) hX 13 rfl (show (2 : Nat) ≠ 1 by decide) ?_
          refine e_getI (y := (v0 178 53)) (pc := 25) hX 14 rfl fl_X12_493 rfl hG.1 (rfl) ?_
          refine r_iconst (pc := 28) hX 15 rfl ?_
          refine r_isub (pc := 29) hX 16 rfl ?_
          refine r_putI (pc := 30) hX 17 rfl fl_X12_493 rfl (fun _ h => by cases h; rfl) hG.1 (by decide) ?_
          refine r_aload_n (pc := 33) hX 18 rfl rfl ?_
          refine r_dup (pc := 34) hX 19 rfl (show (2 : Nat) ≠ 1 by decide) ?_
          refine e_getI (y := (v0 178 54)) (pc := 35) hX 20 rfl fl_X12_500 rfl hG.1 ((up_k (by decide)).trans (rfl)) ?_
          refine r_iconst (pc := 38) hX 21 rfl ?_
          refine r_isub (pc := 39) hX 22 rfl ?_
          refine r_putI (pc := 40) hX 23 rfl fl_X12_500 rfl (fun _ h => by cases h; rfl) hG.1 (by decide) ?_
          refine r_aload_n (pc := 43) hX 24 rfl rfl ?_
          refine r_bipush (pc := 44) hX 25 rfl (by decide) ?_
          refine r_iconst (pc := 46) hX 26 rfl ?_
          refine r_iconst (pc := 47) hX 27 rfl ?_
          refine r_callV (as := [(0, 20), (0, 0), (0, 0)]) (st := []) (K := 12) (pc := 48) hX 28 rfl mo_m_code ml_X12_496 im_m_code se_m_code (c_code g (up (up v0 178 53 ((v0 178 53) - 1)) 178 54 ((v0 178 54) - 1)) ρ Z hG (20) (0) (0) (by (repeat (first | rw [up_k (by decide)] | rw [up_s] | rw [up_r (by decide)])); omega)) rfl rfl rfl hG.1 (by rw [hRm]; exact ⟨by decide, by decide⟩) (by rw [hRm]; exact ⟨by decide, by decide⟩) (Nat.le_of_ble_eq_true rfl) (fun o48 v48 ρ48 Z48 hq48 _ => ?_)
          obtain ⟨rfl, rfl, hfr48, rfl, hq48⟩ := hq48
          try simp only [up_f (show (180 : Int) ≠ 178 by decide), up_f (show (182 : Int) ≠ 178 by decide), up_k (show (51 : Int) ≠ 53 by decide), up_k (show (51 : Int) ≠ 54 by decide)] at hq48
          have hk48_53 : v48 178 53 = ((v0 178 53) - 1) := (hfr48.2 53 (by decide)).trans ((up_k (by decide)).trans (up_s _ _ _ _))
          show wp g X F_m_nots 0 0 51 [(2, 178)] [] v48 ρ Z
          refine r_goto (pc := 51) hX 29 (tgt := 0) rfl (by decide) ?_
          exact (ih0  v48 ((((hfr0).fld (k := 53) (by decide)).fld (k := 54) (by decide)).tr hfr48 (by decide) (by decide)) (by rw [hq48.1, hk48_53]; exact isn.nots (by omega) (by rw [← et0]; omega) hq48.2.2 hq48.2.1) (by omega))
  exact (L0 _  v (Fr.rf) (hN) (Nat.lt_succ_self _))
set_option maxHeartbeats 4000000 in
set_option maxRecDepth 100000 in
theorem c_leafOf (g : Gp) (v ρ : Mv) (Z : Mz) (hG : GM ρ Z)  (ht : 0 ≤ v 178 11 ∧ v 178 11 ≤ 4) : Ok g 2 0 0 F_m_leafOf [(2, 178)] v ρ Z (fun o v' ρ' Z' => ρ = ρ' ∧ Z = Z' ∧ v = v' ∧ ∃ r : Int, o = some (0, r) ∧ ((r = -1 ∨ 0 ≤ r ∧ r ≤ 7 ∧ v 178 11 = 1))) := by
  refine Ok.of mo_m_leafOf (Nat.le_of_ble_eq_true rfl) ?_
  intro X hX hRm hxn hQ
  show wp g X F_m_leafOf 0 0 0 [(2, 178)] [] v ρ Z
  refine r_aload_n (pc := 0) hX 0 rfl rfl ?_
  refine r_ldc2 (y := 465557349491) (pc := 1) hX 1 rfl kl_X12_158 (by decide) ?_
  refine r_callV (as := [(1, 465557349491)]) (st := []) (K := 12) (pc := 4) hX 2 rfl mo_m_isWord ml_X12_247 im_m_isWord se_m_isWord (c_isWord g v ρ Z hG (465557349491) (by omega)) rfl rfl rfl hG.1 (by rw [hRm]; exact ⟨by decide, by decide⟩) (by rw [hRm]; exact ⟨by decide, by decide⟩) (Nat.le_of_ble_eq_true rfl) (fun o4 v4 ρ4 Z4 hq4 _ => ?_)
  obtain ⟨rfl, rfl, rfl, r4, rfl, hq4⟩ := hq4
  show wp g X F_m_leafOf 0 0 7 [(2, 178)] [(0, r4)] v ρ Z
  first | refine r_if_eq (pc := 7) hX 3 (tgt := 14) rfl (by decide) (⟨by omega, by omega⟩) (fun h7 => ?_) (fun h7 => ?_) | refine r_if_eq_any (pc := 7) hX 3 (tgt := 14) rfl (by decide) ?_ ?_
  · refine r_aload_n (pc := 14) hX 6 rfl rfl ?_
    refine r_ldc2 (y := 7827310) (pc := 15) hX 7 rfl kl_X12_160 (by decide) ?_
    refine r_callV (as := [(1, 7827310)]) (st := []) (K := 12) (pc := 18) hX 8 rfl mo_m_isWord ml_X12_247 im_m_isWord se_m_isWord (c_isWord g v ρ Z hG (7827310) (by omega)) rfl rfl rfl hG.1 (by rw [hRm]; exact ⟨by decide, by decide⟩) (by rw [hRm]; exact ⟨by decide, by decide⟩) (Nat.le_of_ble_eq_true rfl) (fun o18 v18 ρ18 Z18 hq18 _ => ?_)
    obtain ⟨rfl, rfl, rfl, r18, rfl, hq18⟩ := hq18
    show wp g X F_m_leafOf 0 0 21 [(2, 178)] [(0, r18)] v ρ Z
    first | refine r_if_eq (pc := 21) hX 9 (tgt := 28) rfl (by decide) (⟨by omega, by omega⟩) (fun h21 => ?_) (fun h21 => ?_) | refine r_if_eq_any (pc := 21) hX 9 (tgt := 28) rfl (by decide) ?_ ?_
    · refine r_aload_n (pc := 28) hX 12 rfl rfl ?_
      refine r_ldc2 (y := 128047779833188) (pc := 29) hX 13 rfl kl_X12_164 (by decide) ?_
      refine r_callV (as := [(1, 128047779833188)]) (st := []) (K := 12) (pc := 32) hX 14 rfl mo_m_isWord ml_X12_247 im_m_isWord se_m_isWord (c_isWord g v ρ Z hG (128047779833188) (by omega)) rfl rfl rfl hG.1 (by rw [hRm]; exact ⟨by decide, by decide⟩) (by rw [hRm]; exact ⟨by decide, by decide⟩) (Nat.le_of_ble_eq_true rfl) (fun o32 v32 ρ32 Z32 hq32 _ => ?_)
      obtain ⟨rfl, rfl, rfl, r32, rfl, hq32⟩ := hq32
      show wp g X F_m_leafOf 0 0 35 [(2, 178)] [(0, r32)] v ρ Z
      first | refine r_if_eq (pc := 35) hX 15 (tgt := 42) rfl (by decide) (⟨by omega, by omega⟩) (fun h35 => ?_) (fun h35 => ?_) | refine r_if_eq_any (pc := 35) hX 15 (tgt := 42) rfl (by decide) ?_ ?_
      · refine r_aload_n (pc := 42) hX 18 rfl rfl ?_
        refine r_ldc2 (y := 6840691) (pc := 43) hX 19 rfl kl_X12_162 (by decide) ?_
        refine r_callV (as := [(1, 6840691)]) (st := []) (K := 12) (pc := 46) hX 20 rfl mo_m_isWord ml_X12_247 im_m_isWord se_m_isWord (c_isWord g v ρ Z hG (6840691) (by omega)) rfl rfl rfl hG.1 (by rw [hRm]; exact ⟨by decide, by decide⟩) (by rw [hRm]; exact ⟨by decide, by decide⟩) (Nat.le_of_ble_eq_true rfl) (fun o46 v46 ρ46 Z46 hq46 _ => ?_)
        obtain ⟨rfl, rfl, rfl, r46, rfl, hq46⟩ := hq46
        show wp g X F_m_leafOf 0 0 49 [(2, 178)] [(0, r46)] v ρ Z
        first | refine r_if_eq (pc := 49) hX 21 (tgt := 56) rfl (by decide) (⟨by omega, by omega⟩) (fun h49 => ?_) (fun h49 => ?_) | refine r_if_eq_any (pc := 49) hX 21 (tgt := 56) rfl (by decide) ?_ ?_
        · refine r_aload_n (pc := 56) hX 24 rfl rfl ?_
          refine r_ldc2 (y := 495589487205) (pc := 57) hX 25 rfl kl_X12_166 (by decide) ?_
          refine r_callV (as := [(1, 495589487205)]) (st := []) (K := 12) (pc := 60) hX 26 rfl mo_m_isWord ml_X12_247 im_m_isWord se_m_isWord (c_isWord g v ρ Z hG (495589487205) (by omega)) rfl rfl rfl hG.1 (by rw [hRm]; exact ⟨by decide, by decide⟩) (by rw [hRm]; exact ⟨by decide, by decide⟩) (Nat.le_of_ble_eq_true rfl) (fun o60 v60 ρ60 Z60 hq60 _ => ?_)
          obtain ⟨rfl, rfl, rfl, r60, rfl, hq60⟩ := hq60
          show wp g X F_m_leafOf 0 0 63 [(2, 178)] [(0, r60)] v ρ Z
          first | refine r_if_eq (pc := 63) hX 27 (tgt := 70) rfl (by decide) (⟨by omega, by omega⟩) (fun h63 => ?_) (fun h63 => ?_) | refine r_if_eq_any (pc := 63) hX 27 (tgt := 70) rfl (by decide) ?_ ?_
          · refine r_aload_n (pc := 70) hX 30 rfl rfl ?_
            refine r_ldc2 (y := 495873782388) (pc := 71) hX 31 rfl kl_X12_168 (by decide) ?_
            refine r_callV (as := [(1, 495873782388)]) (st := []) (K := 12) (pc := 74) hX 32 rfl mo_m_isWord ml_X12_247 im_m_isWord se_m_isWord (c_isWord g v ρ Z hG (495873782388) (by omega)) rfl rfl rfl hG.1 (by rw [hRm]; exact ⟨by decide, by decide⟩) (by rw [hRm]; exact ⟨by decide, by decide⟩) (Nat.le_of_ble_eq_true rfl) (fun o74 v74 ρ74 Z74 hq74 _ => ?_)
            obtain ⟨rfl, rfl, rfl, r74, rfl, hq74⟩ := hq74
            show wp g X F_m_leafOf 0 0 77 [(2, 178)] [(0, r74)] v ρ Z
            first | refine r_if_eq (pc := 77) hX 33 (tgt := 84) rfl (by decide) (⟨by omega, by omega⟩) (fun h77 => ?_) (fun h77 => ?_) | refine r_if_eq_any (pc := 77) hX 33 (tgt := 84) rfl (by decide) ?_ ?_
            · refine r_aload_n (pc := 84) hX 36 rfl rfl ?_
              refine r_ldc2 (y := 474147546227) (pc := 85) hX 37 rfl kl_X12_170 (by decide) ?_
              refine r_callV (as := [(1, 474147546227)]) (st := []) (K := 12) (pc := 88) hX 38 rfl mo_m_isWord ml_X12_247 im_m_isWord se_m_isWord (c_isWord g v ρ Z hG (474147546227) (by omega)) rfl rfl rfl hG.1 (by rw [hRm]; exact ⟨by decide, by decide⟩) (by rw [hRm]; exact ⟨by decide, by decide⟩) (Nat.le_of_ble_eq_true rfl) (fun o88 v88 ρ88 Z88 hq88 _ => ?_)
              obtain ⟨rfl, rfl, rfl, r88, rfl, hq88⟩ := hq88
              show wp g X F_m_leafOf 0 0 91 [(2, 178)] [(0, r88)] v ρ Z
              first | refine r_if_eq (pc := 91) hX 39 (tgt := 99) rfl (by decide) (⟨by omega, by omega⟩) (fun h91 => ?_) (fun h91 => ?_) | refine r_if_eq_any (pc := 91) hX 39 (tgt := 99) rfl (by decide) ?_ ?_
              · refine r_aload_n (pc := 99) hX 42 rfl rfl ?_
                refine r_ldc2 (y := 121450625394034) (pc := 100) hX 43 rfl kl_X12_172 (by decide) ?_
                refine r_callV (as := [(1, 121450625394034)]) (st := []) (K := 12) (pc := 103) hX 44 rfl mo_m_isWord ml_X12_247 im_m_isWord se_m_isWord (c_isWord g v ρ Z hG (121450625394034) (by omega)) rfl rfl rfl hG.1 (by rw [hRm]; exact ⟨by decide, by decide⟩) (by rw [hRm]; exact ⟨by decide, by decide⟩) (Nat.le_of_ble_eq_true rfl) (fun o103 v103 ρ103 Z103 hq103 _ => ?_)
                obtain ⟨rfl, rfl, rfl, r103, rfl, hq103⟩ := hq103
                show wp g X F_m_leafOf 0 0 106 [(2, 178)] [(0, r103)] v ρ Z
                first | refine r_if_eq (pc := 106) hX 45 (tgt := 114) rfl (by decide) (⟨by omega, by omega⟩) (fun h106 => ?_) (fun h106 => ?_) | refine r_if_eq_any (pc := 106) hX 45 (tgt := 114) rfl (by decide) ?_ ?_
                · refine r_iconst (pc := 114) hX 48 rfl ?_
                  exact r_iret (pc := 115) hX 49 hQ rfl rfl (Nat.le_refl 0) (Nat.le_refl 0) ⟨rfl, rfl, rfl, (-1), rfl, (by omega)⟩
                · refine r_bipush (pc := 109) hX 46 rfl (by decide) ?_
                  refine r_goto (pc := 111) hX 47 (tgt := 115) rfl (by decide) ?_
                  exact r_iret (pc := 115) hX 49 hQ rfl rfl (Nat.le_refl 0) (Nat.le_refl 0) ⟨rfl, rfl, rfl, 7, rfl, (by omega)⟩
              · refine r_bipush (pc := 94) hX 40 rfl (by decide) ?_
                refine r_goto (pc := 96) hX 41 (tgt := 115) rfl (by decide) ?_
                exact r_iret (pc := 115) hX 49 hQ rfl rfl (Nat.le_refl 0) (Nat.le_refl 0) ⟨rfl, rfl, rfl, 6, rfl, (by omega)⟩
            · refine r_iconst (pc := 80) hX 34 rfl ?_
              refine r_goto (pc := 81) hX 35 (tgt := 115) rfl (by decide) ?_
              exact r_iret (pc := 115) hX 49 hQ rfl rfl (Nat.le_refl 0) (Nat.le_refl 0) ⟨rfl, rfl, rfl, 5, rfl, (by omega)⟩
          · refine r_iconst (pc := 66) hX 28 rfl ?_
            refine r_goto (pc := 67) hX 29 (tgt := 115) rfl (by decide) ?_
            exact r_iret (pc := 115) hX 49 hQ rfl rfl (Nat.le_refl 0) (Nat.le_refl 0) ⟨rfl, rfl, rfl, 4, rfl, (by omega)⟩
        · refine r_iconst (pc := 52) hX 22 rfl ?_
          refine r_goto (pc := 53) hX 23 (tgt := 115) rfl (by decide) ?_
          exact r_iret (pc := 115) hX 49 hQ rfl rfl (Nat.le_refl 0) (Nat.le_refl 0) ⟨rfl, rfl, rfl, 3, rfl, (by omega)⟩
      · refine r_iconst (pc := 38) hX 16 rfl ?_
        refine r_goto (pc := 39) hX 17 (tgt := 115) rfl (by decide) ?_
        exact r_iret (pc := 115) hX 49 hQ rfl rfl (Nat.le_refl 0) (Nat.le_refl 0) ⟨rfl, rfl, rfl, 2, rfl, (by omega)⟩
    · refine r_iconst (pc := 24) hX 10 rfl ?_
      refine r_goto (pc := 25) hX 11 (tgt := 115) rfl (by decide) ?_
      exact r_iret (pc := 115) hX 49 hQ rfl rfl (Nat.le_refl 0) (Nat.le_refl 0) ⟨rfl, rfl, rfl, 1, rfl, (by omega)⟩
  · refine r_iconst (pc := 10) hX 4 rfl ?_
    refine r_goto (pc := 11) hX 5 (tgt := 115) rfl (by decide) ?_
    exact r_iret (pc := 115) hX 49 hQ rfl rfl (Nat.le_refl 0) (Nat.le_refl 0) ⟨rfl, rfl, rfl, 0, rfl, (by omega)⟩
set_option maxHeartbeats 4000000 in
set_option maxRecDepth 100000 in
theorem c_behind (g : Gp) (v ρ : Mv) (Z : Mz) (hG : GM ρ Z)  (hL : 0 ≤ v 178 4 ∧ v 178 4 ≤ v 178 3 ∧ v 178 3 ≤ 940 ∧ 0 ≤ v 178 11 ∧ v 178 11 ≤ 4 ∧ inR (v 178 5) ∧ inR (v 178 14)) (hN : SnI (v 182) (v 205) (v 178 51) (v 178 53) (v 178 52) 1) (hw : v 178 55 = 1) : Ok g 3 0 0 F_m_behind [(2, 178)] v ρ Z (fun o v' ρ' Z' => ρ = ρ' ∧ Z = Z' ∧ Fr [182, 205] [4, 11, 12, 13, 14, 15, 16, 17, 51, 53, 54, 55] v v' ∧ ∃ r : Int, o = some (0, r) ∧ (0 ≤ v' 178 4 ∧ v' 178 4 ≤ v' 178 3 ∧ v' 178 3 ≤ 940 ∧ 0 ≤ v' 178 11 ∧ v' 178 11 ≤ 4 ∧ inR (v' 178 5) ∧ inR (v' 178 14) ∧ v 178 4 ≤ v' 178 4 ∧ v' 178 3 = v 178 3) ∧ ((r = 0 ∨ r = 1 ∧ SnI (v' 182) (v' 205) (v' 178 51) (v' 178 53) (v' 178 52) (v' 178 55) ∧ (v 178 11 = 1 ∨ v 178 11 = 3) ∧ (v 178 4 < v' 178 4 ∨ v' 178 11 = 0 ∨ v' 178 11 = 4)))) := by
  refine Ok.of mo_m_behind (Nat.le_of_ble_eq_true rfl) ?_
  intro X hX hRm hxn hQ
  show wp g X F_m_behind 0 0 0 [(2, 178)] [] v ρ Z
  have in_ := hN.nums
  refine r_aload_n (pc := 0) hX 0 rfl rfl ?_
  refine r_callV (as := []) (st := []) (K := 12) (pc := 1) hX 1 rfl mo_m_nots ml_X12_512 im_m_nots se_m_nots (c_nots g v ρ Z hG  (hN)) rfl rfl rfl hG.1 (by rw [hRm]; exact ⟨by decide, by decide⟩) (by rw [hRm]; exact ⟨by decide, by decide⟩) (Nat.le_of_ble_eq_true rfl) (fun o1 v1 ρ1 Z1 hq1 _ => ?_)
  obtain ⟨rfl, rfl, hfr1, rfl, hq1⟩ := hq1
  have hk1_3 : v1 178 3 = (v 178 3) := (hfr1.2 3 (by decide)).trans (rfl)
  have hk1_4 : v1 178 4 = (v 178 4) := (hfr1.2 4 (by decide)).trans (rfl)
  have hk1_5 : v1 178 5 = (v 178 5) := (hfr1.2 5 (by decide)).trans (rfl)
  have hk1_11 : v1 178 11 = (v 178 11) := (hfr1.2 11 (by decide)).trans (rfl)
  have hk1_14 : v1 178 14 = (v 178 14) := (hfr1.2 14 (by decide)).trans (rfl)
  have hk1_25 : v1 178 25 = (v 178 25) := (hfr1.2 25 (by decide)).trans (rfl)
  have hk1_52 : v1 178 52 = (v 178 52) := (hfr1.2 52 (by decide)).trans (rfl)
  have hk1_55 : v1 178 55 = (v 178 55) := (hfr1.2 55 (by decide)).trans (rfl)
  have hk1_2 : v1 178 2 = (v 178 2) := (hfr1.2 2 (by decide)).trans (rfl)
  show wp g X F_m_behind 0 0 4 [(2, 178)] [] v1 ρ Z
  have et1 : v1 205 = v 205 := hfr1.1 205 (by decide) (by decide)
  rw [← et1, ← hk1_52] at hq1
  refine r_aload_n (pc := 4) hX 2 rfl rfl ?_
  refine r_ldc2 (y := 6385252) (pc := 5) hX 3 rfl kl_X12_154 (by decide) ?_
  refine r_callV (as := [(1, 6385252)]) (st := []) (K := 12) (pc := 8) hX 4 rfl mo_m_isWord ml_X12_247 im_m_isWord se_m_isWord (c_isWord g v1 ρ Z hG (6385252) (by (repeat (first | rw [up_k (by decide)] | rw [up_s] | rw [up_r (by decide)])); omega)) rfl rfl rfl hG.1 (by rw [hRm]; exact ⟨by decide, by decide⟩) (by rw [hRm]; exact ⟨by decide, by decide⟩) (Nat.le_of_ble_eq_true rfl) (fun o8 v8 ρ8 Z8 hq8 _ => ?_)
  obtain ⟨rfl, rfl, rfl, r8, rfl, hq8⟩ := hq8
  show wp g X F_m_behind 0 0 11 [(2, 178)] [(0, r8)] v1 ρ Z
  first | refine r_if_ne (pc := 11) hX 5 (tgt := 24) rfl (by decide) (⟨by omega, by omega⟩) (fun h11 => ?_) (fun h11 => ?_) | refine r_if_ne_any (pc := 11) hX 5 (tgt := 24) rfl (by decide) ?_ ?_
  · refine r_aload_n (pc := 24) hX 10 rfl rfl ?_
    refine r_aload_n (pc := 25) hX 11 rfl rfl ?_
    refine r_ldc2 (y := 6385252) (pc := 26) hX 12 rfl kl_X12_154 (by decide) ?_
    refine r_callV (as := [(1, 6385252)]) (st := [(2, 178)]) (K := 12) (pc := 29) hX 13 rfl mo_m_isWord ml_X12_247 im_m_isWord se_m_isWord (c_isWord g v1 ρ Z hG (6385252) (by (repeat (first | rw [up_k (by decide)] | rw [up_s] | rw [up_r (by decide)])); omega)) rfl rfl rfl hG.1 (by rw [hRm]; exact ⟨by decide, by decide⟩) (by rw [hRm]; exact ⟨by decide, by decide⟩) (Nat.le_of_ble_eq_true rfl) (fun o29 v29 ρ29 Z29 hq29 _ => ?_)
    obtain ⟨rfl, rfl, rfl, r29, rfl, hq29⟩ := hq29
    show wp g X F_m_behind 0 0 32 [(2, 178)] [(0, r29), (2, 178)] v1 ρ Z
    first | refine r_if_eq (pc := 32) hX 14 (tgt := 40) rfl (by decide) (⟨by omega, by omega⟩) (fun h32 => ?_) (fun h32 => ?_) | refine r_if_eq_any (pc := 32) hX 14 (tgt := 40) rfl (by decide) ?_ ?_
    · refine r_bipush (pc := 40) hX 17 rfl (by decide) ?_
      refine r_callV (as := [(0, 22)]) (st := []) (K := 12) (pc := 42) hX 18 rfl mo_m_joins ml_X12_515 im_m_joins se_m_joins (c_joins g v1 ρ Z hG (22) (by omega) (hq1)) rfl rfl rfl hG.1 (by rw [hRm]; exact ⟨by decide, by decide⟩) (by rw [hRm]; exact ⟨by decide, by decide⟩) (Nat.le_of_ble_eq_true rfl) (fun o42 v42 ρ42 Z42 hq42 _ => ?_)
      obtain ⟨rfl, rfl, hfr42, rfl, hq42⟩ := hq42
      have hk42_3 : v42 178 3 = (v1 178 3) := (hfr42.2 3 (by decide)).trans (rfl)
      have hk42_4 : v42 178 4 = (v1 178 4) := (hfr42.2 4 (by decide)).trans (rfl)
      have hk42_5 : v42 178 5 = (v1 178 5) := (hfr42.2 5 (by decide)).trans (rfl)
      have hk42_11 : v42 178 11 = (v1 178 11) := (hfr42.2 11 (by decide)).trans (rfl)
      have hk42_14 : v42 178 14 = (v1 178 14) := (hfr42.2 14 (by decide)).trans (rfl)
      have hk42_25 : v42 178 25 = (v1 178 25) := (hfr42.2 25 (by decide)).trans (rfl)
      have hk42_52 : v42 178 52 = (v1 178 52) := (hfr42.2 52 (by decide)).trans (rfl)
      have hk42_55 : v42 178 55 = (v1 178 55) := (hfr42.2 55 (by decide)).trans (rfl)
      have hk42_2 : v42 178 2 = (v1 178 2) := (hfr42.2 2 (by decide)).trans (rfl)
      show wp g X F_m_behind 0 0 45 [(2, 178)] [] v42 ρ Z
      have et42 : v42 205 = v1 205 := hfr42.1 205 (by decide) (by decide)
      have hs42 := hq42.1
      clear hq42
      rw [← et42, ← hk42_52] at hs42
      have in42 := hs42.nums
      refine t_getR (pc := 45) hX 19 rfl rfl rfl fl_X12_114 rfl hG.1 (a_stack hG).1 ?_
      refine t_getI (y := (v42 178 53)) (pc := 49) hX 21 rfl rfl rfl fl_X12_493 rfl hG.1 (rfl) ?_
      refine r_aload_n (pc := 53) hX 23 rfl rfl ?_
      refine r_ldc2 (y := 6385252) (pc := 54) hX 24 rfl kl_X12_154 (by decide) ?_
      refine r_callV (as := [(1, 6385252)]) (st := [(0, (v42 178 53)), (2, 205)]) (K := 12) (pc := 57) hX 25 rfl mo_m_isWord ml_X12_247 im_m_isWord se_m_isWord (c_isWord g v42 ρ Z hG (6385252) (by (repeat (first | rw [up_k (by decide)] | rw [up_s] | rw [up_r (by decide)])); omega)) rfl rfl rfl hG.1 (by rw [hRm]; exact ⟨by decide, by decide⟩) (by rw [hRm]; exact ⟨by decide, by decide⟩) (Nat.le_of_ble_eq_true rfl) (fun o57 v57 ρ57 Z57 hq57 _ => ?_)
      obtain ⟨rfl, rfl, rfl, r57, rfl, hq57⟩ := hq57
      show wp g X F_m_behind 0 0 60 [(2, 178)] [(0, r57), (0, (v42 178 53)), (2, 205)] v42 ρ Z
      first | refine r_if_eq (pc := 60) hX 26 (tgt := 68) rfl (by decide) (⟨by omega, by omega⟩) (fun h60 => ?_) (fun h60 => ?_) | refine r_if_eq_any (pc := 60) hX 26 (tgt := 68) rfl (by decide) ?_ ?_
      · refine r_bipush (pc := 68) hX 29 rfl (by decide) ?_
        refine e_iast (pc := 70) hX 30 rfl (a_stack hG).2.1 (a_stack hG).2.2 (by decide) (by omega) (by omega) ?_
        refine r_aload_n (pc := 71) hX 31 rfl rfl ?_
        refine r_dup (pc := 72) hX 32 rfl (show (2 : Nat) ≠ 1 by decide) ?_
        refine e_getI (y := (v42 178 53)) (pc := 73) hX 33 rfl fl_X12_493 rfl hG.1 ((up_r (by decide)).trans (rfl)) ?_
        refine r_iconst (pc := 76) hX 34 rfl ?_
        refine r_iadd (pc := 77) hX 35 rfl ?_
        refine r_putI (pc := 78) hX 36 rfl fl_X12_493 rfl (fun _ h => by cases h; rfl) hG.1 (by decide) ?_
        refine r_aload_n (pc := 81) hX 37 rfl rfl ?_
        refine r_iconst (pc := 82) hX 38 rfl ?_
        refine r_putZ (pc := 83) hX 39 rfl fl_X12_509 rfl (fun _ h => by cases h; rfl) ⟨by omega, by omega⟩ hG.1 (by decide) ?_
        refine r_aload_n (pc := 86) hX 40 rfl rfl ?_
        refine r_callV (as := []) (st := []) (K := 12) (pc := 87) hX 41 rfl mo_m_go ml_X12_219 im_m_go se_m_go (c_go g (up (up (up v42 205 (v42 178 53) 22) 178 53 ((v42 178 53) + 1)) 178 55 0) ρ Z hG  (by (repeat (first | rw [up_k (by decide)] | rw [up_s] | rw [up_r (by decide)])); omega)) rfl rfl rfl hG.1 (by rw [hRm]; exact ⟨by decide, by decide⟩) (by rw [hRm]; exact ⟨by decide, by decide⟩) (Nat.le_of_ble_eq_true rfl) (fun o87 v87 ρ87 Z87 hq87 _ => ?_)
        obtain ⟨rfl, rfl, hfr87, rfl, hq87⟩ := hq87
        try simp only [up_f (show (178 : Int) ≠ 205 by decide), up_f (show (180 : Int) ≠ 178 by decide), up_f (show (180 : Int) ≠ 205 by decide), up_k (show (3 : Int) ≠ 53 by decide), up_k (show (3 : Int) ≠ 55 by decide), up_k (show (4 : Int) ≠ 53 by decide), up_k (show (4 : Int) ≠ 55 by decide)] at hq87
        have hk87_3 : v87 178 3 = (v42 178 3) := (hfr87.2 3 (by decide)).trans ((up_k (by decide)).trans ((up_k (by decide)).trans ((up_r (by decide)).trans (rfl))))
        have hk87_5 : v87 178 5 = (v42 178 5) := (hfr87.2 5 (by decide)).trans ((up_k (by decide)).trans ((up_k (by decide)).trans ((up_r (by decide)).trans (rfl))))
        have hk87_25 : v87 178 25 = (v42 178 25) := (hfr87.2 25 (by decide)).trans ((up_k (by decide)).trans ((up_k (by decide)).trans ((up_r (by decide)).trans (rfl))))
        have hk87_51 : v87 178 51 = (v42 178 51) := (hfr87.2 51 (by decide)).trans ((up_k (by decide)).trans ((up_k (by decide)).trans ((up_r (by decide)).trans (rfl))))
        have hk87_52 : v87 178 52 = (v42 178 52) := (hfr87.2 52 (by decide)).trans ((up_k (by decide)).trans ((up_k (by decide)).trans ((up_r (by decide)).trans (rfl))))
        have hk87_53 : v87 178 53 = ((v42 178 53) + 1) := (hfr87.2 53 (by decide)).trans ((up_k (by decide)).trans (up_s _ _ _ _))
        have hk87_55 : v87 178 55 = 0 := (hfr87.2 55 (by decide)).trans (up_s _ _ _ _)
        have hk87_2 : v87 178 2 = (v42 178 2) := (hfr87.2 2 (by decide)).trans ((up_k (by decide)).trans ((up_k (by decide)).trans ((up_r (by decide)).trans (rfl))))
        show wp g X F_m_behind 0 0 90 [(2, 178)] [] v87 ρ Z
        have er87 : v87 182 = v42 182 := by rw [hfr87.1 182 (by decide) (by decide)]; (repeat rw [up_f (by decide)])
        have hu87 : ∀ k, 0 ≤ k → k < v42 178 53 → v87 205 k = v42 205 k := fun k a b => by rw [hfr87.1 205 (by decide) (by decide)]; (repeat rw [up_f (by decide)]); rw [up_k (by omega)]
        have ha87 : v87 205 (v42 178 53) = 21 ∨ v87 205 (v42 178 53) = 22 := by rw [hfr87.1 205 (by decide) (by decide)]; (repeat rw [up_f (by decide)]); rw [up_s]; first | exact Or.inl rfl | exact Or.inr rfl
        refine r_iconst (pc := 90) hX 42 rfl ?_
        exact r_zret (pc := 91) hX 43 hQ rfl rfl ⟨by omega, by omega⟩ (Nat.le_refl 0) (Nat.le_refl 0) ⟨rfl, rfl, ((((((Fr.rf).tr hfr1 (by decide) (by decide)).tr hfr42 (by decide) (by decide)).arr (r := 205) (by decide) (by decide)).fld (k := 53) (by decide)).fld (k := 55) (by decide)).tr hfr87 (by decide) (by decide), 1, rfl, (by (repeat (first | rw [up_k (by decide)] | rw [up_s] | rw [up_r (by decide)])); omega), (Or.inr ⟨rfl, by rw [hk87_51, hk87_53, hk87_52, hk87_55, er87]; exact hs42.op hu87 rfl ha87, by omega, by omega⟩)⟩
      · refine r_bipush (pc := 63) hX 27 rfl (by decide) ?_
        refine r_goto (pc := 65) hX 28 (tgt := 70) rfl (by decide) ?_
        refine e_iast (pc := 70) hX 30 rfl (a_stack hG).2.1 (a_stack hG).2.2 (by decide) (by omega) (by omega) ?_
        refine r_aload_n (pc := 71) hX 31 rfl rfl ?_
        refine r_dup (pc := 72) hX 32 rfl (show (2 : Nat) ≠ 1 by decide) ?_
        refine e_getI (y := (v42 178 53)) (pc := 73) hX 33 rfl fl_X12_493 rfl hG.1 ((up_r (by decide)).trans (rfl)) ?_
        refine r_iconst (pc := 76) hX 34 rfl ?_
        refine r_iadd (pc := 77) hX 35 rfl ?_
        refine r_putI (pc := 78) hX 36 rfl fl_X12_493 rfl (fun _ h => by cases h; rfl) hG.1 (by decide) ?_
        refine r_aload_n (pc := 81) hX 37 rfl rfl ?_
        refine r_iconst (pc := 82) hX 38 rfl ?_
        refine r_putZ (pc := 83) hX 39 rfl fl_X12_509 rfl (fun _ h => by cases h; rfl) ⟨by omega, by omega⟩ hG.1 (by decide) ?_
        refine r_aload_n (pc := 86) hX 40 rfl rfl ?_
        refine r_callV (as := []) (st := []) (K := 12) (pc := 87) hX 41 rfl mo_m_go ml_X12_219 im_m_go se_m_go (c_go g (up (up (up v42 205 (v42 178 53) 21) 178 53 ((v42 178 53) + 1)) 178 55 0) ρ Z hG  (by (repeat (first | rw [up_k (by decide)] | rw [up_s] | rw [up_r (by decide)])); omega)) rfl rfl rfl hG.1 (by rw [hRm]; exact ⟨by decide, by decide⟩) (by rw [hRm]; exact ⟨by decide, by decide⟩) (Nat.le_of_ble_eq_true rfl) (fun o87 v87 ρ87 Z87 hq87 _ => ?_)
        obtain ⟨rfl, rfl, hfr87, rfl, hq87⟩ := hq87
        try simp only [up_f (show (178 : Int) ≠ 205 by decide), up_f (show (180 : Int) ≠ 178 by decide), up_f (show (180 : Int) ≠ 205 by decide), up_k (show (3 : Int) ≠ 53 by decide), up_k (show (3 : Int) ≠ 55 by decide), up_k (show (4 : Int) ≠ 53 by decide), up_k (show (4 : Int) ≠ 55 by decide)] at hq87
        have hk87_3 : v87 178 3 = (v42 178 3) := (hfr87.2 3 (by decide)).trans ((up_k (by decide)).trans ((up_k (by decide)).trans ((up_r (by decide)).trans (rfl))))
        have hk87_5 : v87 178 5 = (v42 178 5) := (hfr87.2 5 (by decide)).trans ((up_k (by decide)).trans ((up_k (by decide)).trans ((up_r (by decide)).trans (rfl))))
        have hk87_25 : v87 178 25 = (v42 178 25) := (hfr87.2 25 (by decide)).trans ((up_k (by decide)).trans ((up_k (by decide)).trans ((up_r (by decide)).trans (rfl))))
        have hk87_51 : v87 178 51 = (v42 178 51) := (hfr87.2 51 (by decide)).trans ((up_k (by decide)).trans ((up_k (by decide)).trans ((up_r (by decide)).trans (rfl))))
        have hk87_52 : v87 178 52 = (v42 178 52) := (hfr87.2 52 (by decide)).trans ((up_k (by decide)).trans ((up_k (by decide)).trans ((up_r (by decide)).trans (rfl))))
        have hk87_53 : v87 178 53 = ((v42 178 53) + 1) := (hfr87.2 53 (by decide)).trans ((up_k (by decide)).trans (up_s _ _ _ _))
        have hk87_55 : v87 178 55 = 0 := (hfr87.2 55 (by decide)).trans (up_s _ _ _ _)
        have hk87_2 : v87 178 2 = (v42 178 2) := (hfr87.2 2 (by decide)).trans ((up_k (by decide)).trans ((up_k (by decide)).trans ((up_r (by decide)).trans (rfl))))
        show wp g X F_m_behind 0 0 90 [(2, 178)] [] v87 ρ Z
        have er87 : v87 182 = v42 182 := by rw [hfr87.1 182 (by decide) (by decide)]; (repeat rw [up_f (by decide)])
        have hu87 : ∀ k, 0 ≤ k → k < v42 178 53 → v87 205 k = v42 205 k := fun k a b => by rw [hfr87.1 205 (by decide) (by decide)]; (repeat rw [up_f (by decide)]); rw [up_k (by omega)]
        have ha87 : v87 205 (v42 178 53) = 21 ∨ v87 205 (v42 178 53) = 22 := by rw [hfr87.1 205 (by decide) (by decide)]; (repeat rw [up_f (by decide)]); rw [up_s]; first | exact Or.inl rfl | exact Or.inr rfl
        refine r_iconst (pc := 90) hX 42 rfl ?_
        exact r_zret (pc := 91) hX 43 hQ rfl rfl ⟨by omega, by omega⟩ (Nat.le_refl 0) (Nat.le_refl 0) ⟨rfl, rfl, ((((((Fr.rf).tr hfr1 (by decide) (by decide)).tr hfr42 (by decide) (by decide)).arr (r := 205) (by decide) (by decide)).fld (k := 53) (by decide)).fld (k := 55) (by decide)).tr hfr87 (by decide) (by decide), 1, rfl, (by (repeat (first | rw [up_k (by decide)] | rw [up_s] | rw [up_r (by decide)])); omega), (Or.inr ⟨rfl, by rw [hk87_51, hk87_53, hk87_52, hk87_55, er87]; exact hs42.op hu87 rfl ha87, by omega, by omega⟩)⟩
    · refine r_bipush (pc := 35) hX 15 rfl (by decide) ?_
      refine r_goto (pc := 37) hX 16 (tgt := 42) rfl (by decide) ?_
      refine r_callV (as := [(0, 21)]) (st := []) (K := 12) (pc := 42) hX 18 rfl mo_m_joins ml_X12_515 im_m_joins se_m_joins (c_joins g v1 ρ Z hG (21) (by omega) (hq1)) rfl rfl rfl hG.1 (by rw [hRm]; exact ⟨by decide, by decide⟩) (by rw [hRm]; exact ⟨by decide, by decide⟩) (Nat.le_of_ble_eq_true rfl) (fun o42 v42 ρ42 Z42 hq42 _ => ?_)
      obtain ⟨rfl, rfl, hfr42, rfl, hq42⟩ := hq42
      have hk42_3 : v42 178 3 = (v1 178 3) := (hfr42.2 3 (by decide)).trans (rfl)
      have hk42_4 : v42 178 4 = (v1 178 4) := (hfr42.2 4 (by decide)).trans (rfl)
      have hk42_5 : v42 178 5 = (v1 178 5) := (hfr42.2 5 (by decide)).trans (rfl)
      have hk42_11 : v42 178 11 = (v1 178 11) := (hfr42.2 11 (by decide)).trans (rfl)
      have hk42_14 : v42 178 14 = (v1 178 14) := (hfr42.2 14 (by decide)).trans (rfl)
      have hk42_25 : v42 178 25 = (v1 178 25) := (hfr42.2 25 (by decide)).trans (rfl)
      have hk42_52 : v42 178 52 = (v1 178 52) := (hfr42.2 52 (by decide)).trans (rfl)
      have hk42_55 : v42 178 55 = (v1 178 55) := (hfr42.2 55 (by decide)).trans (rfl)
      have hk42_2 : v42 178 2 = (v1 178 2) := (hfr42.2 2 (by decide)).trans (rfl)
      show wp g X F_m_behind 0 0 45 [(2, 178)] [] v42 ρ Z
      have et42 : v42 205 = v1 205 := hfr42.1 205 (by decide) (by decide)
      have hs42 := hq42.1
      clear hq42
      rw [← et42, ← hk42_52] at hs42
      have in42 := hs42.nums
      refine t_getR (pc := 45) hX 19 rfl rfl rfl fl_X12_114 rfl hG.1 (a_stack hG).1 ?_
      refine t_getI (y := (v42 178 53)) (pc := 49) hX 21 rfl rfl rfl fl_X12_493 rfl hG.1 (rfl) ?_
      refine r_aload_n (pc := 53) hX 23 rfl rfl ?_
      refine r_ldc2 (y := 6385252) (pc := 54) hX 24 rfl kl_X12_154 (by decide) ?_
      refine r_callV (as := [(1, 6385252)]) (st := [(0, (v42 178 53)), (2, 205)]) (K := 12) (pc := 57) hX 25 rfl mo_m_isWord ml_X12_247 im_m_isWord se_m_isWord (c_isWord g v42 ρ Z hG (6385252) (by (repeat (first | rw [up_k (by decide)] | rw [up_s] | rw [up_r (by decide)])); omega)) rfl rfl rfl hG.1 (by rw [hRm]; exact ⟨by decide, by decide⟩) (by rw [hRm]; exact ⟨by decide, by decide⟩) (Nat.le_of_ble_eq_true rfl) (fun o57 v57 ρ57 Z57 hq57 _ => ?_)
      obtain ⟨rfl, rfl, rfl, r57, rfl, hq57⟩ := hq57
      show wp g X F_m_behind 0 0 60 [(2, 178)] [(0, r57), (0, (v42 178 53)), (2, 205)] v42 ρ Z
      first | refine r_if_eq (pc := 60) hX 26 (tgt := 68) rfl (by decide) (⟨by omega, by omega⟩) (fun h60 => ?_) (fun h60 => ?_) | refine r_if_eq_any (pc := 60) hX 26 (tgt := 68) rfl (by decide) ?_ ?_
      · refine r_bipush (pc := 68) hX 29 rfl (by decide) ?_
        refine e_iast (pc := 70) hX 30 rfl (a_stack hG).2.1 (a_stack hG).2.2 (by decide) (by omega) (by omega) ?_
        refine r_aload_n (pc := 71) hX 31 rfl rfl ?_
        refine r_dup (pc := 72) hX 32 rfl (show (2 : Nat) ≠ 1 by decide) ?_
        refine e_getI (y := (v42 178 53)) (pc := 73) hX 33 rfl fl_X12_493 rfl hG.1 ((up_r (by decide)).trans (rfl)) ?_
        refine r_iconst (pc := 76) hX 34 rfl ?_
        refine r_iadd (pc := 77) hX 35 rfl ?_
        refine r_putI (pc := 78) hX 36 rfl fl_X12_493 rfl (fun _ h => by cases h; rfl) hG.1 (by decide) ?_
        refine r_aload_n (pc := 81) hX 37 rfl rfl ?_
        refine r_iconst (pc := 82) hX 38 rfl ?_
        refine r_putZ (pc := 83) hX 39 rfl fl_X12_509 rfl (fun _ h => by cases h; rfl) ⟨by omega, by omega⟩ hG.1 (by decide) ?_
        refine r_aload_n (pc := 86) hX 40 rfl rfl ?_
        refine r_callV (as := []) (st := []) (K := 12) (pc := 87) hX 41 rfl mo_m_go ml_X12_219 im_m_go se_m_go (c_go g (up (up (up v42 205 (v42 178 53) 22) 178 53 ((v42 178 53) + 1)) 178 55 0) ρ Z hG  (by (repeat (first | rw [up_k (by decide)] | rw [up_s] | rw [up_r (by decide)])); omega)) rfl rfl rfl hG.1 (by rw [hRm]; exact ⟨by decide, by decide⟩) (by rw [hRm]; exact ⟨by decide, by decide⟩) (Nat.le_of_ble_eq_true rfl) (fun o87 v87 ρ87 Z87 hq87 _ => ?_)
        obtain ⟨rfl, rfl, hfr87, rfl, hq87⟩ := hq87
        try simp only [up_f (show (178 : Int) ≠ 205 by decide), up_f (show (180 : Int) ≠ 178 by decide), up_f (show (180 : Int) ≠ 205 by decide), up_k (show (3 : Int) ≠ 53 by decide), up_k (show (3 : Int) ≠ 55 by decide), up_k (show (4 : Int) ≠ 53 by decide), up_k (show (4 : Int) ≠ 55 by decide)] at hq87
        have hk87_3 : v87 178 3 = (v42 178 3) := (hfr87.2 3 (by decide)).trans ((up_k (by decide)).trans ((up_k (by decide)).trans ((up_r (by decide)).trans (rfl))))
        have hk87_5 : v87 178 5 = (v42 178 5) := (hfr87.2 5 (by decide)).trans ((up_k (by decide)).trans ((up_k (by decide)).trans ((up_r (by decide)).trans (rfl))))
        have hk87_25 : v87 178 25 = (v42 178 25) := (hfr87.2 25 (by decide)).trans ((up_k (by decide)).trans ((up_k (by decide)).trans ((up_r (by decide)).trans (rfl))))
        have hk87_51 : v87 178 51 = (v42 178 51) := (hfr87.2 51 (by decide)).trans ((up_k (by decide)).trans ((up_k (by decide)).trans ((up_r (by decide)).trans (rfl))))
        have hk87_52 : v87 178 52 = (v42 178 52) := (hfr87.2 52 (by decide)).trans ((up_k (by decide)).trans ((up_k (by decide)).trans ((up_r (by decide)).trans (rfl))))
        have hk87_53 : v87 178 53 = ((v42 178 53) + 1) := (hfr87.2 53 (by decide)).trans ((up_k (by decide)).trans (up_s _ _ _ _))
        have hk87_55 : v87 178 55 = 0 := (hfr87.2 55 (by decide)).trans (up_s _ _ _ _)
        have hk87_2 : v87 178 2 = (v42 178 2) := (hfr87.2 2 (by decide)).trans ((up_k (by decide)).trans ((up_k (by decide)).trans ((up_r (by decide)).trans (rfl))))
        show wp g X F_m_behind 0 0 90 [(2, 178)] [] v87 ρ Z
        have er87 : v87 182 = v42 182 := by rw [hfr87.1 182 (by decide) (by decide)]; (repeat rw [up_f (by decide)])
        have hu87 : ∀ k, 0 ≤ k → k < v42 178 53 → v87 205 k = v42 205 k := fun k a b => by rw [hfr87.1 205 (by decide) (by decide)]; (repeat rw [up_f (by decide)]); rw [up_k (by omega)]
        have ha87 : v87 205 (v42 178 53) = 21 ∨ v87 205 (v42 178 53) = 22 := by rw [hfr87.1 205 (by decide) (by decide)]; (repeat rw [up_f (by decide)]); rw [up_s]; first | exact Or.inl rfl | exact Or.inr rfl
        refine r_iconst (pc := 90) hX 42 rfl ?_
        exact r_zret (pc := 91) hX 43 hQ rfl rfl ⟨by omega, by omega⟩ (Nat.le_refl 0) (Nat.le_refl 0) ⟨rfl, rfl, ((((((Fr.rf).tr hfr1 (by decide) (by decide)).tr hfr42 (by decide) (by decide)).arr (r := 205) (by decide) (by decide)).fld (k := 53) (by decide)).fld (k := 55) (by decide)).tr hfr87 (by decide) (by decide), 1, rfl, (by (repeat (first | rw [up_k (by decide)] | rw [up_s] | rw [up_r (by decide)])); omega), (Or.inr ⟨rfl, by rw [hk87_51, hk87_53, hk87_52, hk87_55, er87]; exact hs42.op hu87 rfl ha87, by omega, by omega⟩)⟩
      · refine r_bipush (pc := 63) hX 27 rfl (by decide) ?_
        refine r_goto (pc := 65) hX 28 (tgt := 70) rfl (by decide) ?_
        refine e_iast (pc := 70) hX 30 rfl (a_stack hG).2.1 (a_stack hG).2.2 (by decide) (by omega) (by omega) ?_
        refine r_aload_n (pc := 71) hX 31 rfl rfl ?_
        refine r_dup (pc := 72) hX 32 rfl (show (2 : Nat) ≠ 1 by decide) ?_
        refine e_getI (y := (v42 178 53)) (pc := 73) hX 33 rfl fl_X12_493 rfl hG.1 ((up_r (by decide)).trans (rfl)) ?_
        refine r_iconst (pc := 76) hX 34 rfl ?_
        refine r_iadd (pc := 77) hX 35 rfl ?_
        refine r_putI (pc := 78) hX 36 rfl fl_X12_493 rfl (fun _ h => by cases h; rfl) hG.1 (by decide) ?_
        refine r_aload_n (pc := 81) hX 37 rfl rfl ?_
        refine r_iconst (pc := 82) hX 38 rfl ?_
        refine r_putZ (pc := 83) hX 39 rfl fl_X12_509 rfl (fun _ h => by cases h; rfl) ⟨by omega, by omega⟩ hG.1 (by decide) ?_
        refine r_aload_n (pc := 86) hX 40 rfl rfl ?_
        refine r_callV (as := []) (st := []) (K := 12) (pc := 87) hX 41 rfl mo_m_go ml_X12_219 im_m_go se_m_go (c_go g (up (up (up v42 205 (v42 178 53) 21) 178 53 ((v42 178 53) + 1)) 178 55 0) ρ Z hG  (by (repeat (first | rw [up_k (by decide)] | rw [up_s] | rw [up_r (by decide)])); omega)) rfl rfl rfl hG.1 (by rw [hRm]; exact ⟨by decide, by decide⟩) (by rw [hRm]; exact ⟨by decide, by decide⟩) (Nat.le_of_ble_eq_true rfl) (fun o87 v87 ρ87 Z87 hq87 _ => ?_)
        obtain ⟨rfl, rfl, hfr87, rfl, hq87⟩ := hq87
        try simp only [up_f (show (178 : Int) ≠ 205 by decide), up_f (show (180 : Int) ≠ 178 by decide), up_f (show (180 : Int) ≠ 205 by decide), up_k (show (3 : Int) ≠ 53 by decide), up_k (show (3 : Int) ≠ 55 by decide), up_k (show (4 : Int) ≠ 53 by decide), up_k (show (4 : Int) ≠ 55 by decide)] at hq87
        have hk87_3 : v87 178 3 = (v42 178 3) := (hfr87.2 3 (by decide)).trans ((up_k (by decide)).trans ((up_k (by decide)).trans ((up_r (by decide)).trans (rfl))))
        have hk87_5 : v87 178 5 = (v42 178 5) := (hfr87.2 5 (by decide)).trans ((up_k (by decide)).trans ((up_k (by decide)).trans ((up_r (by decide)).trans (rfl))))
        have hk87_25 : v87 178 25 = (v42 178 25) := (hfr87.2 25 (by decide)).trans ((up_k (by decide)).trans ((up_k (by decide)).trans ((up_r (by decide)).trans (rfl))))
        have hk87_51 : v87 178 51 = (v42 178 51) := (hfr87.2 51 (by decide)).trans ((up_k (by decide)).trans ((up_k (by decide)).trans ((up_r (by decide)).trans (rfl))))
        have hk87_52 : v87 178 52 = (v42 178 52) := (hfr87.2 52 (by decide)).trans ((up_k (by decide)).trans ((up_k (by decide)).trans ((up_r (by decide)).trans (rfl))))
        have hk87_53 : v87 178 53 = ((v42 178 53) + 1) := (hfr87.2 53 (by decide)).trans ((up_k (by decide)).trans (up_s _ _ _ _))
        have hk87_55 : v87 178 55 = 0 := (hfr87.2 55 (by decide)).trans (up_s _ _ _ _)
        have hk87_2 : v87 178 2 = (v42 178 2) := (hfr87.2 2 (by decide)).trans ((up_k (by decide)).trans ((up_k (by decide)).trans ((up_r (by decide)).trans (rfl))))
        show wp g X F_m_behind 0 0 90 [(2, 178)] [] v87 ρ Z
        have er87 : v87 182 = v42 182 := by rw [hfr87.1 182 (by decide) (by decide)]; (repeat rw [up_f (by decide)])
        have hu87 : ∀ k, 0 ≤ k → k < v42 178 53 → v87 205 k = v42 205 k := fun k a b => by rw [hfr87.1 205 (by decide) (by decide)]; (repeat rw [up_f (by decide)]); rw [up_k (by omega)]
        have ha87 : v87 205 (v42 178 53) = 21 ∨ v87 205 (v42 178 53) = 22 := by rw [hfr87.1 205 (by decide) (by decide)]; (repeat rw [up_f (by decide)]); rw [up_s]; first | exact Or.inl rfl | exact Or.inr rfl
        refine r_iconst (pc := 90) hX 42 rfl ?_
        exact r_zret (pc := 91) hX 43 hQ rfl rfl ⟨by omega, by omega⟩ (Nat.le_refl 0) (Nat.le_refl 0) ⟨rfl, rfl, ((((((Fr.rf).tr hfr1 (by decide) (by decide)).tr hfr42 (by decide) (by decide)).arr (r := 205) (by decide) (by decide)).fld (k := 53) (by decide)).fld (k := 55) (by decide)).tr hfr87 (by decide) (by decide), 1, rfl, (by (repeat (first | rw [up_k (by decide)] | rw [up_s] | rw [up_r (by decide)])); omega), (Or.inr ⟨rfl, by rw [hk87_51, hk87_53, hk87_52, hk87_55, er87]; exact hs42.op hu87 rfl ha87, by omega, by omega⟩)⟩
  · refine r_aload_n (pc := 14) hX 6 rfl rfl ?_
    refine r_ldc2 (y := 28530) (pc := 15) hX 7 rfl kl_X12_152 (by decide) ?_
    refine r_callV (as := [(1, 28530)]) (st := []) (K := 12) (pc := 18) hX 8 rfl mo_m_isWord ml_X12_247 im_m_isWord se_m_isWord (c_isWord g v1 ρ Z hG (28530) (by (repeat (first | rw [up_k (by decide)] | rw [up_s] | rw [up_r (by decide)])); omega)) rfl rfl rfl hG.1 (by rw [hRm]; exact ⟨by decide, by decide⟩) (by rw [hRm]; exact ⟨by decide, by decide⟩) (Nat.le_of_ble_eq_true rfl) (fun o18 v18 ρ18 Z18 hq18 _ => ?_)
    obtain ⟨rfl, rfl, rfl, r18, rfl, hq18⟩ := hq18
    show wp g X F_m_behind 0 0 21 [(2, 178)] [(0, r18)] v1 ρ Z
    first | refine r_if_eq (pc := 21) hX 9 (tgt := 92) rfl (by decide) (⟨by omega, by omega⟩) (fun h21 => ?_) (fun h21 => ?_) | refine r_if_eq_any (pc := 21) hX 9 (tgt := 92) rfl (by decide) ?_ ?_
    · refine r_aload_n (pc := 92) hX 44 rfl rfl ?_
      refine r_bipush (pc := 93) hX 45 rfl (by decide) ?_
      refine r_callV (as := [(0, 22)]) (st := []) (K := 12) (pc := 95) hX 46 rfl mo_m_joins ml_X12_515 im_m_joins se_m_joins (c_joins g v1 ρ Z hG (22) (by omega) (hq1)) rfl rfl rfl hG.1 (by rw [hRm]; exact ⟨by decide, by decide⟩) (by rw [hRm]; exact ⟨by decide, by decide⟩) (Nat.le_of_ble_eq_true rfl) (fun o95 v95 ρ95 Z95 hq95 _ => ?_)
      obtain ⟨rfl, rfl, hfr95, rfl, hq95⟩ := hq95
      have hk95_3 : v95 178 3 = (v1 178 3) := (hfr95.2 3 (by decide)).trans (rfl)
      have hk95_4 : v95 178 4 = (v1 178 4) := (hfr95.2 4 (by decide)).trans (rfl)
      have hk95_5 : v95 178 5 = (v1 178 5) := (hfr95.2 5 (by decide)).trans (rfl)
      have hk95_11 : v95 178 11 = (v1 178 11) := (hfr95.2 11 (by decide)).trans (rfl)
      have hk95_14 : v95 178 14 = (v1 178 14) := (hfr95.2 14 (by decide)).trans (rfl)
      have hk95_25 : v95 178 25 = (v1 178 25) := (hfr95.2 25 (by decide)).trans (rfl)
      have hk95_52 : v95 178 52 = (v1 178 52) := (hfr95.2 52 (by decide)).trans (rfl)
      have hk95_55 : v95 178 55 = (v1 178 55) := (hfr95.2 55 (by decide)).trans (rfl)
      have hk95_2 : v95 178 2 = (v1 178 2) := (hfr95.2 2 (by decide)).trans (rfl)
      show wp g X F_m_behind 0 0 98 [(2, 178)] [] v95 ρ Z
      have et95 : v95 205 = v1 205 := hfr95.1 205 (by decide) (by decide)
      have hs95 := hq95.1
      have ht95 := hq95.2 rfl
      clear hq95
      rw [← et95] at ht95 hs95
      rw [← hk95_52] at hs95
      have in95 := hs95.nums
      refine r_aload_n (pc := 98) hX 47 rfl rfl ?_
      refine r_bipush (pc := 99) hX 48 rfl (by decide) ?_
      refine r_callV (as := [(0, 41)]) (st := []) (K := 12) (pc := 101) hX 49 rfl mo_m_isSign ml_X12_213 im_m_isSign se_m_isSign (c_isSign g v95 ρ Z hG (41) (by (repeat (first | rw [up_k (by decide)] | rw [up_s] | rw [up_r (by decide)])); omega)) rfl rfl rfl hG.1 (by rw [hRm]; exact ⟨by decide, by decide⟩) (by rw [hRm]; exact ⟨by decide, by decide⟩) (Nat.le_of_ble_eq_true rfl) (fun o101 v101 ρ101 Z101 hq101 _ => ?_)
      obtain ⟨rfl, rfl, rfl, r101, rfl, hq101⟩ := hq101
      show wp g X F_m_behind 0 0 104 [(2, 178)] [(0, r101)] v95 ρ Z
      first | refine r_if_eq (pc := 104) hX 50 (tgt := 114) rfl (by decide) (⟨by omega, by omega⟩) (fun h104 => ?_) (fun h104 => ?_) | refine r_if_eq_any (pc := 104) hX 50 (tgt := 114) rfl (by decide) ?_ ?_
      · refine r_aload_n (pc := 114) hX 54 rfl rfl ?_
        refine r_iconst (pc := 115) hX 55 rfl ?_
        refine r_callV (as := [(0, 1)]) (st := []) (K := 12) (pc := 116) hX 56 rfl mo_m_bad ml_X12_216 im_m_bad se_m_bad (c_bad g v95 ρ Z hG (1) ) rfl rfl rfl hG.1 (by rw [hRm]; exact ⟨by decide, by decide⟩) (by rw [hRm]; exact ⟨by decide, by decide⟩) (Nat.le_of_ble_eq_true rfl) (fun o116 v116 ρ116 Z116 hq116 _ => ?_)
        obtain ⟨rfl, rfl, hfr116, r116, rfl, hq116⟩ := hq116
        have hk116_3 : v116 178 3 = (v95 178 3) := (hfr116.2 3 (by decide)).trans (rfl)
        have hk116_4 : v116 178 4 = (v95 178 4) := (hfr116.2 4 (by decide)).trans (rfl)
        have hk116_5 : v116 178 5 = (v95 178 5) := (hfr116.2 5 (by decide)).trans (rfl)
        have hk116_11 : v116 178 11 = (v95 178 11) := (hfr116.2 11 (by decide)).trans (rfl)
        have hk116_14 : v116 178 14 = (v95 178 14) := (hfr116.2 14 (by decide)).trans (rfl)
        have hk116_25 : v116 178 25 = (v95 178 25) := (hfr116.2 25 (by decide)).trans (rfl)
        have hk116_51 : v116 178 51 = (v95 178 51) := (hfr116.2 51 (by decide)).trans (rfl)
        have hk116_52 : v116 178 52 = (v95 178 52) := (hfr116.2 52 (by decide)).trans (rfl)
        have hk116_53 : v116 178 53 = (v95 178 53) := (hfr116.2 53 (by decide)).trans (rfl)
        have hk116_55 : v116 178 55 = (v95 178 55) := (hfr116.2 55 (by decide)).trans (rfl)
        have hk116_2 : v116 178 2 = (v95 178 2) := (hfr116.2 2 (by decide)).trans (rfl)
        show wp g X F_m_behind 0 0 119 [(2, 178)] [(0, r116)] v116 ρ Z
        exact r_zret (pc := 119) hX 57 hQ rfl rfl ⟨by omega, by omega⟩ (Nat.le_refl 0) (Nat.le_refl 0) ⟨rfl, rfl, (((Fr.rf).tr hfr1 (by decide) (by decide)).tr hfr95 (by decide) (by decide)).tr hfr116 (by decide) (by decide), r116, rfl, (by (repeat (first | rw [up_k (by decide)] | rw [up_s] | rw [up_r (by decide)])); omega), (Or.inl (by omega))⟩
      · refine t_getI (y := (v95 178 53)) (pc := 107) hX 51 rfl rfl rfl fl_X12_493 rfl hG.1 (rfl) ?_
        first | refine r_if_ne (pc := 111) hX 53 (tgt := 120) rfl (by decide) (⟨by omega, by omega⟩) (fun h111 => ?_) (fun h111 => ?_) | refine r_if_ne_any (pc := 111) hX 53 (tgt := 120) rfl (by decide) ?_ ?_
        · refine r_aload_n (pc := 120) hX 58 rfl rfl ?_
          refine r_dup (pc := 121) hX 59 rfl (show (2 : Nat) ≠ 1 by decide) ?_
          refine e_getI (y := (v95 178 53)) (pc := 122) hX 60 rfl fl_X12_493 rfl hG.1 (rfl) ?_
          refine r_iconst (pc := 125) hX 61 rfl ?_
          refine r_isub (pc := 126) hX 62 rfl ?_
          refine r_putI (pc := 127) hX 63 rfl fl_X12_493 rfl (fun _ h => by cases h; rfl) hG.1 (by decide) ?_
          refine r_aload_n (pc := 130) hX 64 rfl rfl ?_
          refine r_dup (pc := 131) hX 65 rfl (show (2 : Nat) ≠ 1 by decide) ?_
          refine e_getI (y := (v95 178 54)) (pc := 132) hX 66 rfl fl_X12_500 rfl hG.1 ((up_k (by decide)).trans (rfl)) ?_
          refine r_iconst (pc := 135) hX 67 rfl ?_
          refine r_isub (pc := 136) hX 68 rfl ?_
          refine r_putI (pc := 137) hX 69 rfl fl_X12_500 rfl (fun _ h => by cases h; rfl) hG.1 (by decide) ?_
          refine r_aload_n (pc := 140) hX 70 rfl rfl ?_
          refine r_callV (as := []) (st := []) (K := 12) (pc := 141) hX 71 rfl mo_m_go ml_X12_219 im_m_go se_m_go (c_go g (up (up v95 178 53 ((v95 178 53) - 1)) 178 54 ((v95 178 54) - 1)) ρ Z hG  (by (repeat (first | rw [up_k (by decide)] | rw [up_s] | rw [up_r (by decide)])); omega)) rfl rfl rfl hG.1 (by rw [hRm]; exact ⟨by decide, by decide⟩) (by rw [hRm]; exact ⟨by decide, by decide⟩) (Nat.le_of_ble_eq_true rfl) (fun o141 v141 ρ141 Z141 hq141 _ => ?_)
          obtain ⟨rfl, rfl, hfr141, rfl, hq141⟩ := hq141
          try simp only [up_f (show (180 : Int) ≠ 178 by decide), up_k (show (3 : Int) ≠ 53 by decide), up_k (show (3 : Int) ≠ 54 by decide), up_k (show (4 : Int) ≠ 53 by decide), up_k (show (4 : Int) ≠ 54 by decide)] at hq141
          have hk141_3 : v141 178 3 = (v95 178 3) := (hfr141.2 3 (by decide)).trans ((up_k (by decide)).trans ((up_k (by decide)).trans (rfl)))
          have hk141_5 : v141 178 5 = (v95 178 5) := (hfr141.2 5 (by decide)).trans ((up_k (by decide)).trans ((up_k (by decide)).trans (rfl)))
          have hk141_25 : v141 178 25 = (v95 178 25) := (hfr141.2 25 (by decide)).trans ((up_k (by decide)).trans ((up_k (by decide)).trans (rfl)))
          have hk141_51 : v141 178 51 = (v95 178 51) := (hfr141.2 51 (by decide)).trans ((up_k (by decide)).trans ((up_k (by decide)).trans (rfl)))
          have hk141_52 : v141 178 52 = (v95 178 52) := (hfr141.2 52 (by decide)).trans ((up_k (by decide)).trans ((up_k (by decide)).trans (rfl)))
          have hk141_53 : v141 178 53 = ((v95 178 53) - 1) := (hfr141.2 53 (by decide)).trans ((up_k (by decide)).trans (up_s _ _ _ _))
          have hk141_55 : v141 178 55 = (v95 178 55) := (hfr141.2 55 (by decide)).trans ((up_k (by decide)).trans ((up_k (by decide)).trans (rfl)))
          have hk141_2 : v141 178 2 = (v95 178 2) := (hfr141.2 2 (by decide)).trans ((up_k (by decide)).trans ((up_k (by decide)).trans (rfl)))
          show wp g X F_m_behind 0 0 144 [(2, 178)] [] v141 ρ Z
          have er141 : v141 182 = v95 182 := by rw [hfr141.1 182 (by decide) (by decide)]; (repeat rw [up_f (by decide)])
          have et141 : v141 205 = v95 205 := by rw [hfr141.1 205 (by decide) (by decide)]; (repeat rw [up_f (by decide)])
          refine r_iconst (pc := 144) hX 72 rfl ?_
          exact r_zret (pc := 145) hX 73 hQ rfl rfl ⟨by omega, by omega⟩ (Nat.le_refl 0) (Nat.le_refl 0) ⟨rfl, rfl, (((((Fr.rf).tr hfr1 (by decide) (by decide)).tr hfr95 (by decide) (by decide)).fld (k := 53) (by decide)).fld (k := 54) (by decide)).tr hfr141 (by decide) (by decide), 1, rfl, (by (repeat (first | rw [up_k (by decide)] | rw [up_s] | rw [up_r (by decide)])); omega), (Or.inr ⟨rfl, by rw [hk141_51, hk141_53, hk141_52, show v141 178 55 = 1 by omega, er141, et141]; exact hs95.shut (by omega) (by omega), by omega, by omega⟩)⟩
        · refine r_aload_n (pc := 114) hX 54 rfl rfl ?_
          refine r_iconst (pc := 115) hX 55 rfl ?_
          refine r_callV (as := [(0, 1)]) (st := []) (K := 12) (pc := 116) hX 56 rfl mo_m_bad ml_X12_216 im_m_bad se_m_bad (c_bad g v95 ρ Z hG (1) ) rfl rfl rfl hG.1 (by rw [hRm]; exact ⟨by decide, by decide⟩) (by rw [hRm]; exact ⟨by decide, by decide⟩) (Nat.le_of_ble_eq_true rfl) (fun o116 v116 ρ116 Z116 hq116 _ => ?_)
          obtain ⟨rfl, rfl, hfr116, r116, rfl, hq116⟩ := hq116
          have hk116_3 : v116 178 3 = (v95 178 3) := (hfr116.2 3 (by decide)).trans (rfl)
          have hk116_4 : v116 178 4 = (v95 178 4) := (hfr116.2 4 (by decide)).trans (rfl)
          have hk116_5 : v116 178 5 = (v95 178 5) := (hfr116.2 5 (by decide)).trans (rfl)
          have hk116_11 : v116 178 11 = (v95 178 11) := (hfr116.2 11 (by decide)).trans (rfl)
          have hk116_14 : v116 178 14 = (v95 178 14) := (hfr116.2 14 (by decide)).trans (rfl)
          have hk116_25 : v116 178 25 = (v95 178 25) := (hfr116.2 25 (by decide)).trans (rfl)
          have hk116_51 : v116 178 51 = (v95 178 51) := (hfr116.2 51 (by decide)).trans (rfl)
          have hk116_52 : v116 178 52 = (v95 178 52) := (hfr116.2 52 (by decide)).trans (rfl)
          have hk116_53 : v116 178 53 = (v95 178 53) := (hfr116.2 53 (by decide)).trans (rfl)
          have hk116_55 : v116 178 55 = (v95 178 55) := (hfr116.2 55 (by decide)).trans (rfl)
          have hk116_2 : v116 178 2 = (v95 178 2) := (hfr116.2 2 (by decide)).trans (rfl)
          show wp g X F_m_behind 0 0 119 [(2, 178)] [(0, r116)] v116 ρ Z
          exact r_zret (pc := 119) hX 57 hQ rfl rfl ⟨by omega, by omega⟩ (Nat.le_refl 0) (Nat.le_refl 0) ⟨rfl, rfl, (((Fr.rf).tr hfr1 (by decide) (by decide)).tr hfr95 (by decide) (by decide)).tr hfr116 (by decide) (by decide), r116, rfl, (by (repeat (first | rw [up_k (by decide)] | rw [up_s] | rw [up_r (by decide)])); omega), (Or.inl (by omega))⟩
    · refine r_aload_n (pc := 24) hX 10 rfl rfl ?_
      refine r_aload_n (pc := 25) hX 11 rfl rfl ?_
      refine r_ldc2 (y := 6385252) (pc := 26) hX 12 rfl kl_X12_154 (by decide) ?_
      refine r_callV (as := [(1, 6385252)]) (st := [(2, 178)]) (K := 12) (pc := 29) hX 13 rfl mo_m_isWord ml_X12_247 im_m_isWord se_m_isWord (c_isWord g v1 ρ Z hG (6385252) (by (repeat (first | rw [up_k (by decide)] | rw [up_s] | rw [up_r (by decide)])); omega)) rfl rfl rfl hG.1 (by rw [hRm]; exact ⟨by decide, by decide⟩) (by rw [hRm]; exact ⟨by decide, by decide⟩) (Nat.le_of_ble_eq_true rfl) (fun o29 v29 ρ29 Z29 hq29 _ => ?_)
      obtain ⟨rfl, rfl, rfl, r29, rfl, hq29⟩ := hq29
      show wp g X F_m_behind 0 0 32 [(2, 178)] [(0, r29), (2, 178)] v1 ρ Z
      first | refine r_if_eq (pc := 32) hX 14 (tgt := 40) rfl (by decide) (⟨by omega, by omega⟩) (fun h32 => ?_) (fun h32 => ?_) | refine r_if_eq_any (pc := 32) hX 14 (tgt := 40) rfl (by decide) ?_ ?_
      · refine r_bipush (pc := 40) hX 17 rfl (by decide) ?_
        refine r_callV (as := [(0, 22)]) (st := []) (K := 12) (pc := 42) hX 18 rfl mo_m_joins ml_X12_515 im_m_joins se_m_joins (c_joins g v1 ρ Z hG (22) (by omega) (hq1)) rfl rfl rfl hG.1 (by rw [hRm]; exact ⟨by decide, by decide⟩) (by rw [hRm]; exact ⟨by decide, by decide⟩) (Nat.le_of_ble_eq_true rfl) (fun o42 v42 ρ42 Z42 hq42 _ => ?_)
        obtain ⟨rfl, rfl, hfr42, rfl, hq42⟩ := hq42
        have hk42_3 : v42 178 3 = (v1 178 3) := (hfr42.2 3 (by decide)).trans (rfl)
        have hk42_4 : v42 178 4 = (v1 178 4) := (hfr42.2 4 (by decide)).trans (rfl)
        have hk42_5 : v42 178 5 = (v1 178 5) := (hfr42.2 5 (by decide)).trans (rfl)
        have hk42_11 : v42 178 11 = (v1 178 11) := (hfr42.2 11 (by decide)).trans (rfl)
        have hk42_14 : v42 178 14 = (v1 178 14) := (hfr42.2 14 (by decide)).trans (rfl)
        have hk42_25 : v42 178 25 = (v1 178 25) := (hfr42.2 25 (by decide)).trans (rfl)
        have hk42_52 : v42 178 52 = (v1 178 52) := (hfr42.2 52 (by decide)).trans (rfl)
        have hk42_55 : v42 178 55 = (v1 178 55) := (hfr42.2 55 (by decide)).trans (rfl)
        have hk42_2 : v42 178 2 = (v1 178 2) := (hfr42.2 2 (by decide)).trans (rfl)
        show wp g X F_m_behind 0 0 45 [(2, 178)] [] v42 ρ Z
        have et42 : v42 205 = v1 205 := hfr42.1 205 (by decide) (by decide)
        have hs42 := hq42.1
        clear hq42
        rw [← et42, ← hk42_52] at hs42
        have in42 := hs42.nums
        refine t_getR (pc := 45) hX 19 rfl rfl rfl fl_X12_114 rfl hG.1 (a_stack hG).1 ?_
        refine t_getI (y := (v42 178 53)) (pc := 49) hX 21 rfl rfl rfl fl_X12_493 rfl hG.1 (rfl) ?_
        refine r_aload_n (pc := 53) hX 23 rfl rfl ?_
        refine r_ldc2 (y := 6385252) (pc := 54) hX 24 rfl kl_X12_154 (by decide) ?_
        refine r_callV (as := [(1, 6385252)]) (st := [(0, (v42 178 53)), (2, 205)]) (K := 12) (pc := 57) hX 25 rfl mo_m_isWord ml_X12_247 im_m_isWord se_m_isWord (c_isWord g v42 ρ Z hG (6385252) (by (repeat (first | rw [up_k (by decide)] | rw [up_s] | rw [up_r (by decide)])); omega)) rfl rfl rfl hG.1 (by rw [hRm]; exact ⟨by decide, by decide⟩) (by rw [hRm]; exact ⟨by decide, by decide⟩) (Nat.le_of_ble_eq_true rfl) (fun o57 v57 ρ57 Z57 hq57 _ => ?_)
        obtain ⟨rfl, rfl, rfl, r57, rfl, hq57⟩ := hq57
        show wp g X F_m_behind 0 0 60 [(2, 178)] [(0, r57), (0, (v42 178 53)), (2, 205)] v42 ρ Z
        first | refine r_if_eq (pc := 60) hX 26 (tgt := 68) rfl (by decide) (⟨by omega, by omega⟩) (fun h60 => ?_) (fun h60 => ?_) | refine r_if_eq_any (pc := 60) hX 26 (tgt := 68) rfl (by decide) ?_ ?_
        · refine r_bipush (pc := 68) hX 29 rfl (by decide) ?_
          refine e_iast (pc := 70) hX 30 rfl (a_stack hG).2.1 (a_stack hG).2.2 (by decide) (by omega) (by omega) ?_
          refine r_aload_n (pc := 71) hX 31 rfl rfl ?_
          refine r_dup (pc := 72) hX 32 rfl (show (2 : Nat) ≠ 1 by decide) ?_
          refine e_getI (y := (v42 178 53)) (pc := 73) hX 33 rfl fl_X12_493 rfl hG.1 ((up_r (by decide)).trans (rfl)) ?_
          refine r_iconst (pc := 76) hX 34 rfl ?_
          refine r_iadd (pc := 77) hX 35 rfl ?_
          refine r_putI (pc := 78) hX 36 rfl fl_X12_493 rfl (fun _ h => by cases h; rfl) hG.1 (by decide) ?_
          refine r_aload_n (pc := 81) hX 37 rfl rfl ?_
          refine r_iconst (pc := 82) hX 38 rfl ?_
          refine r_putZ (pc := 83) hX 39 rfl fl_X12_509 rfl (fun _ h => by cases h; rfl) ⟨by omega, by omega⟩ hG.1 (by decide) ?_
          refine r_aload_n (pc := 86) hX 40 rfl rfl ?_
          refine r_callV (as := []) (st := []) (K := 12) (pc := 87) hX 41 rfl mo_m_go ml_X12_219 im_m_go se_m_go (c_go g (up (up (up v42 205 (v42 178 53) 22) 178 53 ((v42 178 53) + 1)) 178 55 0) ρ Z hG  (by (repeat (first | rw [up_k (by decide)] | rw [up_s] | rw [up_r (by decide)])); omega)) rfl rfl rfl hG.1 (by rw [hRm]; exact ⟨by decide, by decide⟩) (by rw [hRm]; exact ⟨by decide, by decide⟩) (Nat.le_of_ble_eq_true rfl) (fun o87 v87 ρ87 Z87 hq87 _ => ?_)
          obtain ⟨rfl, rfl, hfr87, rfl, hq87⟩ := hq87
          try simp only [up_f (show (178 : Int) ≠ 205 by decide), up_f (show (180 : Int) ≠ 178 by decide), up_f (show (180 : Int) ≠ 205 by decide), up_k (show (3 : Int) ≠ 53 by decide), up_k (show (3 : Int) ≠ 55 by decide), up_k (show (4 : Int) ≠ 53 by decide), up_k (show (4 : Int) ≠ 55 by decide)] at hq87
          have hk87_3 : v87 178 3 = (v42 178 3) := (hfr87.2 3 (by decide)).trans ((up_k (by decide)).trans ((up_k (by decide)).trans ((up_r (by decide)).trans (rfl))))
          have hk87_5 : v87 178 5 = (v42 178 5) := (hfr87.2 5 (by decide)).trans ((up_k (by decide)).trans ((up_k (by decide)).trans ((up_r (by decide)).trans (rfl))))
          have hk87_25 : v87 178 25 = (v42 178 25) := (hfr87.2 25 (by decide)).trans ((up_k (by decide)).trans ((up_k (by decide)).trans ((up_r (by decide)).trans (rfl))))
          have hk87_51 : v87 178 51 = (v42 178 51) := (hfr87.2 51 (by decide)).trans ((up_k (by decide)).trans ((up_k (by decide)).trans ((up_r (by decide)).trans (rfl))))
          have hk87_52 : v87 178 52 = (v42 178 52) := (hfr87.2 52 (by decide)).trans ((up_k (by decide)).trans ((up_k (by decide)).trans ((up_r (by decide)).trans (rfl))))
          have hk87_53 : v87 178 53 = ((v42 178 53) + 1) := (hfr87.2 53 (by decide)).trans ((up_k (by decide)).trans (up_s _ _ _ _))
          have hk87_55 : v87 178 55 = 0 := (hfr87.2 55 (by decide)).trans (up_s _ _ _ _)
          have hk87_2 : v87 178 2 = (v42 178 2) := (hfr87.2 2 (by decide)).trans ((up_k (by decide)).trans ((up_k (by decide)).trans ((up_r (by decide)).trans (rfl))))
          show wp g X F_m_behind 0 0 90 [(2, 178)] [] v87 ρ Z
          have er87 : v87 182 = v42 182 := by rw [hfr87.1 182 (by decide) (by decide)]; (repeat rw [up_f (by decide)])
          have hu87 : ∀ k, 0 ≤ k → k < v42 178 53 → v87 205 k = v42 205 k := fun k a b => by rw [hfr87.1 205 (by decide) (by decide)]; (repeat rw [up_f (by decide)]); rw [up_k (by omega)]
          have ha87 : v87 205 (v42 178 53) = 21 ∨ v87 205 (v42 178 53) = 22 := by rw [hfr87.1 205 (by decide) (by decide)]; (repeat rw [up_f (by decide)]); rw [up_s]; first | exact Or.inl rfl | exact Or.inr rfl
          refine r_iconst (pc := 90) hX 42 rfl ?_
          exact r_zret (pc := 91) hX 43 hQ rfl rfl ⟨by omega, by omega⟩ (Nat.le_refl 0) (Nat.le_refl 0) ⟨rfl, rfl, ((((((Fr.rf).tr hfr1 (by decide) (by decide)).tr hfr42 (by decide) (by decide)).arr (r := 205) (by decide) (by decide)).fld (k := 53) (by decide)).fld (k := 55) (by decide)).tr hfr87 (by decide) (by decide), 1, rfl, (by (repeat (first | rw [up_k (by decide)] | rw [up_s] | rw [up_r (by decide)])); omega), (Or.inr ⟨rfl, by rw [hk87_51, hk87_53, hk87_52, hk87_55, er87]; exact hs42.op hu87 rfl ha87, by omega, by omega⟩)⟩
        · refine r_bipush (pc := 63) hX 27 rfl (by decide) ?_
          refine r_goto (pc := 65) hX 28 (tgt := 70) rfl (by decide) ?_
          refine e_iast (pc := 70) hX 30 rfl (a_stack hG).2.1 (a_stack hG).2.2 (by decide) (by omega) (by omega) ?_
          refine r_aload_n (pc := 71) hX 31 rfl rfl ?_
          refine r_dup (pc := 72) hX 32 rfl (show (2 : Nat) ≠ 1 by decide) ?_
          refine e_getI (y := (v42 178 53)) (pc := 73) hX 33 rfl fl_X12_493 rfl hG.1 ((up_r (by decide)).trans (rfl)) ?_
          refine r_iconst (pc := 76) hX 34 rfl ?_
          refine r_iadd (pc := 77) hX 35 rfl ?_
          refine r_putI (pc := 78) hX 36 rfl fl_X12_493 rfl (fun _ h => by cases h; rfl) hG.1 (by decide) ?_
          refine r_aload_n (pc := 81) hX 37 rfl rfl ?_
          refine r_iconst (pc := 82) hX 38 rfl ?_
          refine r_putZ (pc := 83) hX 39 rfl fl_X12_509 rfl (fun _ h => by cases h; rfl) ⟨by omega, by omega⟩ hG.1 (by decide) ?_
          refine r_aload_n (pc := 86) hX 40 rfl rfl ?_
          refine r_callV (as := []) (st := []) (K := 12) (pc := 87) hX 41 rfl mo_m_go ml_X12_219 im_m_go se_m_go (c_go g (up (up (up v42 205 (v42 178 53) 21) 178 53 ((v42 178 53) + 1)) 178 55 0) ρ Z hG  (by (repeat (first | rw [up_k (by decide)] | rw [up_s] | rw [up_r (by decide)])); omega)) rfl rfl rfl hG.1 (by rw [hRm]; exact ⟨by decide, by decide⟩) (by rw [hRm]; exact ⟨by decide, by decide⟩) (Nat.le_of_ble_eq_true rfl) (fun o87 v87 ρ87 Z87 hq87 _ => ?_)
          obtain ⟨rfl, rfl, hfr87, rfl, hq87⟩ := hq87
          try simp only [up_f (show (178 : Int) ≠ 205 by decide), up_f (show (180 : Int) ≠ 178 by decide), up_f (show (180 : Int) ≠ 205 by decide), up_k (show (3 : Int) ≠ 53 by decide), up_k (show (3 : Int) ≠ 55 by decide), up_k (show (4 : Int) ≠ 53 by decide), up_k (show (4 : Int) ≠ 55 by decide)] at hq87
          have hk87_3 : v87 178 3 = (v42 178 3) := (hfr87.2 3 (by decide)).trans ((up_k (by decide)).trans ((up_k (by decide)).trans ((up_r (by decide)).trans (rfl))))
          have hk87_5 : v87 178 5 = (v42 178 5) := (hfr87.2 5 (by decide)).trans ((up_k (by decide)).trans ((up_k (by decide)).trans ((up_r (by decide)).trans (rfl))))
          have hk87_25 : v87 178 25 = (v42 178 25) := (hfr87.2 25 (by decide)).trans ((up_k (by decide)).trans ((up_k (by decide)).trans ((up_r (by decide)).trans (rfl))))
          have hk87_51 : v87 178 51 = (v42 178 51) := (hfr87.2 51 (by decide)).trans ((up_k (by decide)).trans ((up_k (by decide)).trans ((up_r (by decide)).trans (rfl))))
          have hk87_52 : v87 178 52 = (v42 178 52) := (hfr87.2 52 (by decide)).trans ((up_k (by decide)).trans ((up_k (by decide)).trans ((up_r (by decide)).trans (rfl))))
          have hk87_53 : v87 178 53 = ((v42 178 53) + 1) := (hfr87.2 53 (by decide)).trans ((up_k (by decide)).trans (up_s _ _ _ _))
          have hk87_55 : v87 178 55 = 0 := (hfr87.2 55 (by decide)).trans (up_s _ _ _ _)
          have hk87_2 : v87 178 2 = (v42 178 2) := (hfr87.2 2 (by decide)).trans ((up_k (by decide)).trans ((up_k (by decide)).trans ((up_r (by decide)).trans (rfl))))
          show wp g X F_m_behind 0 0 90 [(2, 178)] [] v87 ρ Z
          have er87 : v87 182 = v42 182 := by rw [hfr87.1 182 (by decide) (by decide)]; (repeat rw [up_f (by decide)])
          have hu87 : ∀ k, 0 ≤ k → k < v42 178 53 → v87 205 k = v42 205 k := fun k a b => by rw [hfr87.1 205 (by decide) (by decide)]; (repeat rw [up_f (by decide)]); rw [up_k (by omega)]
          have ha87 : v87 205 (v42 178 53) = 21 ∨ v87 205 (v42 178 53) = 22 := by rw [hfr87.1 205 (by decide) (by decide)]; (repeat rw [up_f (by decide)]); rw [up_s]; first | exact Or.inl rfl | exact Or.inr rfl
          refine r_iconst (pc := 90) hX 42 rfl ?_
          exact r_zret (pc := 91) hX 43 hQ rfl rfl ⟨by omega, by omega⟩ (Nat.le_refl 0) (Nat.le_refl 0) ⟨rfl, rfl, ((((((Fr.rf).tr hfr1 (by decide) (by decide)).tr hfr42 (by decide) (by decide)).arr (r := 205) (by decide) (by decide)).fld (k := 53) (by decide)).fld (k := 55) (by decide)).tr hfr87 (by decide) (by decide), 1, rfl, (by (repeat (first | rw [up_k (by decide)] | rw [up_s] | rw [up_r (by decide)])); omega), (Or.inr ⟨rfl, by rw [hk87_51, hk87_53, hk87_52, hk87_55, er87]; exact hs42.op hu87 rfl ha87, by omega, by omega⟩)⟩
      · refine r_bipush (pc := 35) hX 15 rfl (by decide) ?_
        refine r_goto (pc := 37) hX 16 (tgt := 42) rfl (by decide) ?_
        refine r_callV (as := [(0, 21)]) (st := []) (K := 12) (pc := 42) hX 18 rfl mo_m_joins ml_X12_515 im_m_joins se_m_joins (c_joins g v1 ρ Z hG (21) (by omega) (hq1)) rfl rfl rfl hG.1 (by rw [hRm]; exact ⟨by decide, by decide⟩) (by rw [hRm]; exact ⟨by decide, by decide⟩) (Nat.le_of_ble_eq_true rfl) (fun o42 v42 ρ42 Z42 hq42 _ => ?_)
        obtain ⟨rfl, rfl, hfr42, rfl, hq42⟩ := hq42
        have hk42_3 : v42 178 3 = (v1 178 3) := (hfr42.2 3 (by decide)).trans (rfl)
        have hk42_4 : v42 178 4 = (v1 178 4) := (hfr42.2 4 (by decide)).trans (rfl)
        have hk42_5 : v42 178 5 = (v1 178 5) := (hfr42.2 5 (by decide)).trans (rfl)
        have hk42_11 : v42 178 11 = (v1 178 11) := (hfr42.2 11 (by decide)).trans (rfl)
        have hk42_14 : v42 178 14 = (v1 178 14) := (hfr42.2 14 (by decide)).trans (rfl)
        have hk42_25 : v42 178 25 = (v1 178 25) := (hfr42.2 25 (by decide)).trans (rfl)
        have hk42_52 : v42 178 52 = (v1 178 52) := (hfr42.2 52 (by decide)).trans (rfl)
        have hk42_55 : v42 178 55 = (v1 178 55) := (hfr42.2 55 (by decide)).trans (rfl)
        have hk42_2 : v42 178 2 = (v1 178 2) := (hfr42.2 2 (by decide)).trans (rfl)
        show wp g X F_m_behind 0 0 45 [(2, 178)] [] v42 ρ Z
        have et42 : v42 205 = v1 205 := hfr42.1 205 (by decide) (by decide)
        have hs42 := hq42.1
        clear hq42
        rw [← et42, ← hk42_52] at hs42
        have in42 := hs42.nums
        refine t_getR (pc := 45) hX 19 rfl rfl rfl fl_X12_114 rfl hG.1 (a_stack hG).1 ?_
        refine t_getI (y := (v42 178 53)) (pc := 49) hX 21 rfl rfl rfl fl_X12_493 rfl hG.1 (rfl) ?_
        refine r_aload_n (pc := 53) hX 23 rfl rfl ?_
        refine r_ldc2 (y := 6385252) (pc := 54) hX 24 rfl kl_X12_154 (by decide) ?_
        refine r_callV (as := [(1, 6385252)]) (st := [(0, (v42 178 53)), (2, 205)]) (K := 12) (pc := 57) hX 25 rfl mo_m_isWord ml_X12_247 im_m_isWord se_m_isWord (c_isWord g v42 ρ Z hG (6385252) (by (repeat (first | rw [up_k (by decide)] | rw [up_s] | rw [up_r (by decide)])); omega)) rfl rfl rfl hG.1 (by rw [hRm]; exact ⟨by decide, by decide⟩) (by rw [hRm]; exact ⟨by decide, by decide⟩) (Nat.le_of_ble_eq_true rfl) (fun o57 v57 ρ57 Z57 hq57 _ => ?_)
        obtain ⟨rfl, rfl, rfl, r57, rfl, hq57⟩ := hq57
        show wp g X F_m_behind 0 0 60 [(2, 178)] [(0, r57), (0, (v42 178 53)), (2, 205)] v42 ρ Z
        first | refine r_if_eq (pc := 60) hX 26 (tgt := 68) rfl (by decide) (⟨by omega, by omega⟩) (fun h60 => ?_) (fun h60 => ?_) | refine r_if_eq_any (pc := 60) hX 26 (tgt := 68) rfl (by decide) ?_ ?_
        · refine r_bipush (pc := 68) hX 29 rfl (by decide) ?_
          refine e_iast (pc := 70) hX 30 rfl (a_stack hG).2.1 (a_stack hG).2.2 (by decide) (by omega) (by omega) ?_
          refine r_aload_n (pc := 71) hX 31 rfl rfl ?_
          refine r_dup (pc := 72) hX 32 rfl (show (2 : Nat) ≠ 1 by decide) ?_
          refine e_getI (y := (v42 178 53)) (pc := 73) hX 33 rfl fl_X12_493 rfl hG.1 ((up_r (by decide)).trans (rfl)) ?_
          refine r_iconst (pc := 76) hX 34 rfl ?_
          refine r_iadd (pc := 77) hX 35 rfl ?_
          refine r_putI (pc := 78) hX 36 rfl fl_X12_493 rfl (fun _ h => by cases h; rfl) hG.1 (by decide) ?_
          refine r_aload_n (pc := 81) hX 37 rfl rfl ?_
          refine r_iconst (pc := 82) hX 38 rfl ?_
          refine r_putZ (pc := 83) hX 39 rfl fl_X12_509 rfl (fun _ h => by cases h; rfl) ⟨by omega, by omega⟩ hG.1 (by decide) ?_
          refine r_aload_n (pc := 86) hX 40 rfl rfl ?_
          refine r_callV (as := []) (st := []) (K := 12) (pc := 87) hX 41 rfl mo_m_go ml_X12_219 im_m_go se_m_go (c_go g (up (up (up v42 205 (v42 178 53) 22) 178 53 ((v42 178 53) + 1)) 178 55 0) ρ Z hG  (by (repeat (first | rw [up_k (by decide)] | rw [up_s] | rw [up_r (by decide)])); omega)) rfl rfl rfl hG.1 (by rw [hRm]; exact ⟨by decide, by decide⟩) (by rw [hRm]; exact ⟨by decide, by decide⟩) (Nat.le_of_ble_eq_true rfl) (fun o87 v87 ρ87 Z87 hq87 _ => ?_)
          obtain ⟨rfl, rfl, hfr87, rfl, hq87⟩ := hq87
          try simp only [up_f (show (178 : Int) ≠ 205 by decide), up_f (show (180 : Int) ≠ 178 by decide), up_f (show (180 : Int) ≠ 205 by decide), up_k (show (3 : Int) ≠ 53 by decide), up_k (show (3 : Int) ≠ 55 by decide), up_k (show (4 : Int) ≠ 53 by decide), up_k (show (4 : Int) ≠ 55 by decide)] at hq87
          have hk87_3 : v87 178 3 = (v42 178 3) := (hfr87.2 3 (by decide)).trans ((up_k (by decide)).trans ((up_k (by decide)).trans ((up_r (by decide)).trans (rfl))))
          have hk87_5 : v87 178 5 = (v42 178 5) := (hfr87.2 5 (by decide)).trans ((up_k (by decide)).trans ((up_k (by decide)).trans ((up_r (by decide)).trans (rfl))))
          have hk87_25 : v87 178 25 = (v42 178 25) := (hfr87.2 25 (by decide)).trans ((up_k (by decide)).trans ((up_k (by decide)).trans ((up_r (by decide)).trans (rfl))))
          have hk87_51 : v87 178 51 = (v42 178 51) := (hfr87.2 51 (by decide)).trans ((up_k (by decide)).trans ((up_k (by decide)).trans ((up_r (by decide)).trans (rfl))))
          have hk87_52 : v87 178 52 = (v42 178 52) := (hfr87.2 52 (by decide)).trans ((up_k (by decide)).trans ((up_k (by decide)).trans ((up_r (by decide)).trans (rfl))))
          have hk87_53 : v87 178 53 = ((v42 178 53) + 1) := (hfr87.2 53 (by decide)).trans ((up_k (by decide)).trans (up_s _ _ _ _))
          have hk87_55 : v87 178 55 = 0 := (hfr87.2 55 (by decide)).trans (up_s _ _ _ _)
          have hk87_2 : v87 178 2 = (v42 178 2) := (hfr87.2 2 (by decide)).trans ((up_k (by decide)).trans ((up_k (by decide)).trans ((up_r (by decide)).trans (rfl))))
          show wp g X F_m_behind 0 0 90 [(2, 178)] [] v87 ρ Z
          have er87 : v87 182 = v42 182 := by rw [hfr87.1 182 (by decide) (by decide)]; (repeat rw [up_f (by decide)])
          have hu87 : ∀ k, 0 ≤ k → k < v42 178 53 → v87 205 k = v42 205 k := fun k a b => by rw [hfr87.1 205 (by decide) (by decide)]; (repeat rw [up_f (by decide)]); rw [up_k (by omega)]
          have ha87 : v87 205 (v42 178 53) = 21 ∨ v87 205 (v42 178 53) = 22 := by rw [hfr87.1 205 (by decide) (by decide)]; (repeat rw [up_f (by decide)]); rw [up_s]; first | exact Or.inl rfl | exact Or.inr rfl
          refine r_iconst (pc := 90) hX 42 rfl ?_
          exact r_zret (pc := 91) hX 43 hQ rfl rfl ⟨by omega, by omega⟩ (Nat.le_refl 0) (Nat.le_refl 0) ⟨rfl, rfl, ((((((Fr.rf).tr hfr1 (by decide) (by decide)).tr hfr42 (by decide) (by decide)).arr (r := 205) (by decide) (by decide)).fld (k := 53) (by decide)).fld (k := 55) (by decide)).tr hfr87 (by decide) (by decide), 1, rfl, (by (repeat (first | rw [up_k (by decide)] | rw [up_s] | rw [up_r (by decide)])); omega), (Or.inr ⟨rfl, by rw [hk87_51, hk87_53, hk87_52, hk87_55, er87]; exact hs42.op hu87 rfl ha87, by omega, by omega⟩)⟩
        · refine r_bipush (pc := 63) hX 27 rfl (by decide) ?_
          refine r_goto (pc := 65) hX 28 (tgt := 70) rfl (by decide) ?_
          refine e_iast (pc := 70) hX 30 rfl (a_stack hG).2.1 (a_stack hG).2.2 (by decide) (by omega) (by omega) ?_
          refine r_aload_n (pc := 71) hX 31 rfl rfl ?_
          refine r_dup (pc := 72) hX 32 rfl (show (2 : Nat) ≠ 1 by decide) ?_
          refine e_getI (y := (v42 178 53)) (pc := 73) hX 33 rfl fl_X12_493 rfl hG.1 ((up_r (by decide)).trans (rfl)) ?_
          refine r_iconst (pc := 76) hX 34 rfl ?_
          refine r_iadd (pc := 77) hX 35 rfl ?_
          refine r_putI (pc := 78) hX 36 rfl fl_X12_493 rfl (fun _ h => by cases h; rfl) hG.1 (by decide) ?_
          refine r_aload_n (pc := 81) hX 37 rfl rfl ?_
          refine r_iconst (pc := 82) hX 38 rfl ?_
          refine r_putZ (pc := 83) hX 39 rfl fl_X12_509 rfl (fun _ h => by cases h; rfl) ⟨by omega, by omega⟩ hG.1 (by decide) ?_
          refine r_aload_n (pc := 86) hX 40 rfl rfl ?_
          refine r_callV (as := []) (st := []) (K := 12) (pc := 87) hX 41 rfl mo_m_go ml_X12_219 im_m_go se_m_go (c_go g (up (up (up v42 205 (v42 178 53) 21) 178 53 ((v42 178 53) + 1)) 178 55 0) ρ Z hG  (by (repeat (first | rw [up_k (by decide)] | rw [up_s] | rw [up_r (by decide)])); omega)) rfl rfl rfl hG.1 (by rw [hRm]; exact ⟨by decide, by decide⟩) (by rw [hRm]; exact ⟨by decide, by decide⟩) (Nat.le_of_ble_eq_true rfl) (fun o87 v87 ρ87 Z87 hq87 _ => ?_)
          obtain ⟨rfl, rfl, hfr87, rfl, hq87⟩ := hq87
          try simp only [up_f (show (178 : Int) ≠ 205 by decide), up_f (show (180 : Int) ≠ 178 by decide), up_f (show (180 : Int) ≠ 205 by decide), up_k (show (3 : Int) ≠ 53 by decide), up_k (show (3 : Int) ≠ 55 by decide), up_k (show (4 : Int) ≠ 53 by decide), up_k (show (4 : Int) ≠ 55 by decide)] at hq87
          have hk87_3 : v87 178 3 = (v42 178 3) := (hfr87.2 3 (by decide)).trans ((up_k (by decide)).trans ((up_k (by decide)).trans ((up_r (by decide)).trans (rfl))))
          have hk87_5 : v87 178 5 = (v42 178 5) := (hfr87.2 5 (by decide)).trans ((up_k (by decide)).trans ((up_k (by decide)).trans ((up_r (by decide)).trans (rfl))))
          have hk87_25 : v87 178 25 = (v42 178 25) := (hfr87.2 25 (by decide)).trans ((up_k (by decide)).trans ((up_k (by decide)).trans ((up_r (by decide)).trans (rfl))))
          have hk87_51 : v87 178 51 = (v42 178 51) := (hfr87.2 51 (by decide)).trans ((up_k (by decide)).trans ((up_k (by decide)).trans ((up_r (by decide)).trans (rfl))))
          have hk87_52 : v87 178 52 = (v42 178 52) := (hfr87.2 52 (by decide)).trans ((up_k (by decide)).trans ((up_k (by decide)).trans ((up_r (by decide)).trans (rfl))))
          have hk87_53 : v87 178 53 = ((v42 178 53) + 1) := (hfr87.2 53 (by decide)).trans ((up_k (by decide)).trans (up_s _ _ _ _))
          have hk87_55 : v87 178 55 = 0 := (hfr87.2 55 (by decide)).trans (up_s _ _ _ _)
          have hk87_2 : v87 178 2 = (v42 178 2) := (hfr87.2 2 (by decide)).trans ((up_k (by decide)).trans ((up_k (by decide)).trans ((up_r (by decide)).trans (rfl))))
          show wp g X F_m_behind 0 0 90 [(2, 178)] [] v87 ρ Z
          have er87 : v87 182 = v42 182 := by rw [hfr87.1 182 (by decide) (by decide)]; (repeat rw [up_f (by decide)])
          have hu87 : ∀ k, 0 ≤ k → k < v42 178 53 → v87 205 k = v42 205 k := fun k a b => by rw [hfr87.1 205 (by decide) (by decide)]; (repeat rw [up_f (by decide)]); rw [up_k (by omega)]
          have ha87 : v87 205 (v42 178 53) = 21 ∨ v87 205 (v42 178 53) = 22 := by rw [hfr87.1 205 (by decide) (by decide)]; (repeat rw [up_f (by decide)]); rw [up_s]; first | exact Or.inl rfl | exact Or.inr rfl
          refine r_iconst (pc := 90) hX 42 rfl ?_
          exact r_zret (pc := 91) hX 43 hQ rfl rfl ⟨by omega, by omega⟩ (Nat.le_refl 0) (Nat.le_refl 0) ⟨rfl, rfl, ((((((Fr.rf).tr hfr1 (by decide) (by decide)).tr hfr42 (by decide) (by decide)).arr (r := 205) (by decide) (by decide)).fld (k := 53) (by decide)).fld (k := 55) (by decide)).tr hfr87 (by decide) (by decide), 1, rfl, (by (repeat (first | rw [up_k (by decide)] | rw [up_s] | rw [up_r (by decide)])); omega), (Or.inr ⟨rfl, by rw [hk87_51, hk87_53, hk87_52, hk87_55, er87]; exact hs42.op hu87 rfl ha87, by omega, by omega⟩)⟩
set_option maxHeartbeats 4000000 in
set_option maxRecDepth 100000 in
theorem c_operand (g : Gp) (v ρ : Mv) (Z : Mz) (hG : GM ρ Z)  (hL : 0 ≤ v 178 4 ∧ v 178 4 ≤ v 178 3 ∧ v 178 3 ≤ 940 ∧ 0 ≤ v 178 11 ∧ v 178 11 ≤ 4 ∧ inR (v 178 5) ∧ inR (v 178 14)) (hS : SInv (v 180)) (hN : SnI (v 182) (v 205) (v 178 51) (v 178 53) (v 178 52) 0) (hw : v 178 55 = 0) : Ok g 3 0 0 F_m_operand [(2, 178)] v ρ Z (fun o v' ρ' Z' => ρ = ρ' ∧ Z = Z' ∧ Fr [182, 205] [4, 11, 12, 13, 14, 15, 16, 17, 51, 52, 53, 54, 55] v v' ∧ ∃ r : Int, o = some (0, r) ∧ (0 ≤ v' 178 4 ∧ v' 178 4 ≤ v' 178 3 ∧ v' 178 3 ≤ 940 ∧ 0 ≤ v' 178 11 ∧ v' 178 11 ≤ 4 ∧ inR (v' 178 5) ∧ inR (v' 178 14) ∧ v 178 4 ≤ v' 178 4 ∧ v' 178 3 = v 178 3) ∧ ((r = 0 ∨ r = 1 ∧ SnI (v' 182) (v' 205) (v' 178 51) (v' 178 53) (v' 178 52) (v' 178 55) ∧ (v 178 11 = 1 ∨ v 178 11 = 3) ∧ (v 178 4 < v' 178 4 ∨ v' 178 11 = 0 ∨ v' 178 11 = 4)))) := by
  refine Ok.of mo_m_operand (Nat.le_of_ble_eq_true rfl) ?_
  intro X hX hRm hxn hQ
  show wp g X F_m_operand 0 0 0 [(2, 178), (3, 0), (3, 0), (3, 0), (3, 0)] [] v ρ Z
  have in_ := hN.nums
  have hb0 := hS.c0
  refine r_aload_n (pc := 0) hX 0 rfl rfl ?_
  refine r_ldc2 (y := 7237492) (pc := 1) hX 1 rfl kl_X12_156 (by decide) ?_
  refine r_callV (as := [(1, 7237492)]) (st := []) (K := 12) (pc := 4) hX 2 rfl mo_m_isWord ml_X12_247 im_m_isWord se_m_isWord (c_isWord g v ρ Z hG (7237492) (by (repeat (first | rw [up_k (by decide)] | rw [up_s] | rw [up_r (by decide)])); omega)) rfl rfl rfl hG.1 (by rw [hRm]; exact ⟨by decide, by decide⟩) (by rw [hRm]; exact ⟨by decide, by decide⟩) (Nat.le_of_ble_eq_true rfl) (fun o4 v4 ρ4 Z4 hq4 _ => ?_)
  obtain ⟨rfl, rfl, rfl, r4, rfl, hq4⟩ := hq4
  show wp g X F_m_operand 0 0 7 [(2, 178), (3, 0), (3, 0), (3, 0), (3, 0)] [(0, r4)] v ρ Z
  refine r_istore_n (ls' := [(2, 178), (0, r4), (3, 0), (3, 0), (3, 0)]) (pc := 7) hX 3 rfl (by decide) rfl ?_
  refine r_aload_n (pc := 8) hX 4 rfl rfl ?_
  refine r_bipush (pc := 9) hX 5 rfl (by decide) ?_
  refine r_callV (as := [(0, 40)]) (st := []) (K := 12) (pc := 11) hX 6 rfl mo_m_isSign ml_X12_213 im_m_isSign se_m_isSign (c_isSign g v ρ Z hG (40) (by (repeat (first | rw [up_k (by decide)] | rw [up_s] | rw [up_r (by decide)])); omega)) rfl rfl rfl hG.1 (by rw [hRm]; exact ⟨by decide, by decide⟩) (by rw [hRm]; exact ⟨by decide, by decide⟩) (Nat.le_of_ble_eq_true rfl) (fun o11 v11 ρ11 Z11 hq11 _ => ?_)
  obtain ⟨rfl, rfl, rfl, r11, rfl, hq11⟩ := hq11
  show wp g X F_m_operand 0 0 14 [(2, 178), (0, r4), (3, 0), (3, 0), (3, 0)] [(0, r11)] v ρ Z
  refine r_istore_n (ls' := [(2, 178), (0, r4), (0, r11), (3, 0), (3, 0)]) (pc := 14) hX 7 rfl (by decide) rfl ?_
  refine r_aload_n (pc := 15) hX 8 rfl rfl ?_
  refine r_callV (as := []) (st := []) (K := 12) (pc := 16) hX 9 rfl mo_m_leafOf ml_X12_503 im_m_leafOf se_m_leafOf (c_leafOf g v ρ Z hG  (by (repeat (first | rw [up_k (by decide)] | rw [up_s] | rw [up_r (by decide)])); omega)) rfl rfl rfl hG.1 (by rw [hRm]; exact ⟨by decide, by decide⟩) (by rw [hRm]; exact ⟨by decide, by decide⟩) (Nat.le_of_ble_eq_true rfl) (fun o16 v16 ρ16 Z16 hq16 _ => ?_)
  obtain ⟨rfl, rfl, rfl, r16, rfl, hq16⟩ := hq16
  show wp g X F_m_operand 0 0 19 [(2, 178), (0, r4), (0, r11), (3, 0), (3, 0)] [(0, r16)] v ρ Z
  refine r_istore_n (ls' := [(2, 178), (0, r4), (0, r11), (0, r16), (3, 0)]) (pc := 19) hX 10 rfl (by decide) rfl ?_
  refine r_iload_n (pc := 20) hX 11 rfl rfl ?_
  have L38 : ((v 178 11 = 1 ∨ v 178 11 = 3) ∧ (r4 ≠ 0 ∨ r11 ≠ 0 ∨ 0 ≤ r16)) → wp g X F_m_operand 0 0 38 [(2, 178), (0, r4), (0, r11), (0, r16), (3, 0)] [] v ρ Z := by
    intro i38
    refine t_getI (y := (v 178 52)) (pc := 38) hX 21 rfl rfl rfl fl_X12_506 rfl hG.1 (rfl) ?_
    refine r_bipush (pc := 42) hX 23 rfl (by decide) ?_
    have L56 : wp g X F_m_operand 0 0 56 [(2, 178), (0, r4), (0, r11), (0, r16), (3, 0)] [] v ρ Z := by
      refine r_aload_n (pc := 56) hX 29 rfl rfl ?_
      refine r_iconst (pc := 57) hX 30 rfl ?_
      refine r_callV (as := [(0, 4)]) (st := []) (K := 12) (pc := 58) hX 31 rfl mo_m_bad ml_X12_216 im_m_bad se_m_bad (c_bad g v ρ Z hG (4) ) rfl rfl rfl hG.1 (by rw [hRm]; exact ⟨by decide, by decide⟩) (by rw [hRm]; exact ⟨by decide, by decide⟩) (Nat.le_of_ble_eq_true rfl) (fun o58 v58 ρ58 Z58 hq58 _ => ?_)
      obtain ⟨rfl, rfl, hfr58, r58, rfl, hq58⟩ := hq58
      have hSInv_58 : SInv (v58 180) := by rw [hfr58.1 180 (by decide) (by decide)]; exact hS
      have hk58_3 : v58 178 3 = (v 178 3) := (hfr58.2 3 (by decide)).trans (rfl)
      have hk58_4 : v58 178 4 = (v 178 4) := (hfr58.2 4 (by decide)).trans (rfl)
      have hk58_5 : v58 178 5 = (v 178 5) := (hfr58.2 5 (by decide)).trans (rfl)
      have hk58_11 : v58 178 11 = (v 178 11) := (hfr58.2 11 (by decide)).trans (rfl)
      have hk58_14 : v58 178 14 = (v 178 14) := (hfr58.2 14 (by decide)).trans (rfl)
      have hk58_25 : v58 178 25 = (v 178 25) := (hfr58.2 25 (by decide)).trans (rfl)
      have hk58_51 : v58 178 51 = (v 178 51) := (hfr58.2 51 (by decide)).trans (rfl)
      have hk58_52 : v58 178 52 = (v 178 52) := (hfr58.2 52 (by decide)).trans (rfl)
      have hk58_53 : v58 178 53 = (v 178 53) := (hfr58.2 53 (by decide)).trans (rfl)
      have hk58_55 : v58 178 55 = (v 178 55) := (hfr58.2 55 (by decide)).trans (rfl)
      have hk58_2 : v58 178 2 = (v 178 2) := (hfr58.2 2 (by decide)).trans (rfl)
      show wp g X F_m_operand 0 0 61 [(2, 178), (0, r4), (0, r11), (0, r16), (3, 0)] [(0, r58)] v58 ρ Z
      exact r_zret (pc := 61) hX 32 hQ rfl rfl ⟨by omega, by omega⟩ (Nat.le_refl 0) (Nat.le_refl 0) ⟨rfl, rfl, (Fr.rf).tr hfr58 (by decide) (by decide), r58, rfl, (by (repeat (first | rw [up_k (by decide)] | rw [up_s] | rw [up_r (by decide)])); omega), (Or.inl (by omega))⟩
    first | refine r_icmp_eq (pc := 44) hX 24 (tgt := 56) rfl (by decide) (⟨by omega, by omega⟩) (⟨by omega, by omega⟩) (fun h44 => ?_) (fun h44 => ?_) | refine r_icmp_eq_any (pc := 44) hX 24 (tgt := 56) rfl (by decide) ?_ ?_
    · exact (L56   )
    · refine t_getI (y := (v 178 54)) (pc := 47) hX 25 rfl rfl rfl fl_X12_500 rfl hG.1 (rfl) ?_
      refine r_bipush (pc := 51) hX 27 rfl (by decide) ?_
      first | refine r_icmp_le (pc := 53) hX 28 (tgt := 62) rfl (by decide) (⟨by omega, by omega⟩) (⟨by omega, by omega⟩) (fun h53 => ?_) (fun h53 => ?_) | refine r_icmp_le_any (pc := 53) hX 28 (tgt := 62) rfl (by decide) ?_ ?_
      · refine r_aload_n (pc := 62) hX 33 rfl rfl ?_
        refine r_dup (pc := 63) hX 34 rfl (show (2 : Nat) ≠ 1 by decide) ?_
        refine e_getI (y := (v 178 52)) (pc := 64) hX 35 rfl fl_X12_506 rfl hG.1 (rfl) ?_
        refine r_iconst (pc := 67) hX 36 rfl ?_
        refine r_iadd (pc := 68) hX 37 rfl ?_
        refine r_putI (pc := 69) hX 38 rfl fl_X12_506 rfl (fun _ h => by cases h; rfl) hG.1 (by decide) ?_
        refine r_aload_n (pc := 72) hX 39 rfl rfl ?_
        refine r_callV (as := []) (st := []) (K := 12) (pc := 73) hX 40 rfl mo_m_go ml_X12_219 im_m_go se_m_go (c_go g (up v 178 52 ((v 178 52) + 1)) ρ Z hG  (by (repeat (first | rw [up_k (by decide)] | rw [up_s] | rw [up_r (by decide)])); omega)) rfl rfl rfl hG.1 (by rw [hRm]; exact ⟨by decide, by decide⟩) (by rw [hRm]; exact ⟨by decide, by decide⟩) (Nat.le_of_ble_eq_true rfl) (fun o73 v73 ρ73 Z73 hq73 _ => ?_)
        obtain ⟨rfl, rfl, hfr73, rfl, hq73⟩ := hq73
        try simp only [up_f (show (180 : Int) ≠ 178 by decide), up_k (show (3 : Int) ≠ 52 by decide), up_k (show (4 : Int) ≠ 52 by decide)] at hq73
        have hSInv_73 : SInv (v73 180) := by rw [hfr73.1 180 (by decide) (by decide), up_f (by decide)]; exact hS
        have hk73_3 : v73 178 3 = (v 178 3) := (hfr73.2 3 (by decide)).trans ((up_k (by decide)).trans (rfl))
        have hk73_5 : v73 178 5 = (v 178 5) := (hfr73.2 5 (by decide)).trans ((up_k (by decide)).trans (rfl))
        have hk73_25 : v73 178 25 = (v 178 25) := (hfr73.2 25 (by decide)).trans ((up_k (by decide)).trans (rfl))
        have hk73_51 : v73 178 51 = (v 178 51) := (hfr73.2 51 (by decide)).trans ((up_k (by decide)).trans (rfl))
        have hk73_52 : v73 178 52 = ((v 178 52) + 1) := (hfr73.2 52 (by decide)).trans (up_s _ _ _ _)
        have hk73_53 : v73 178 53 = (v 178 53) := (hfr73.2 53 (by decide)).trans ((up_k (by decide)).trans (rfl))
        have hk73_55 : v73 178 55 = (v 178 55) := (hfr73.2 55 (by decide)).trans ((up_k (by decide)).trans (rfl))
        have hk73_2 : v73 178 2 = (v 178 2) := (hfr73.2 2 (by decide)).trans ((up_k (by decide)).trans (rfl))
        show wp g X F_m_operand 0 0 76 [(2, 178), (0, r4), (0, r11), (0, r16), (3, 0)] [] v73 ρ Z
        have hs73 : SnI (v73 182) (v73 205) (v73 178 51) (v73 178 53) (v 178 52) 0 := by
          rw [hk73_51, hk73_53, hfr73.1 182 (by decide) (by decide), hfr73.1 205 (by decide) (by decide)]; (repeat rw [up_f (by decide)]); exact hN
        have in73 := hs73.nums
        refine r_iload_n (pc := 76) hX 41 rfl rfl ?_
        have L84 : ((r4 = 1 ∨ r11 = 1)) → wp g X F_m_operand 0 0 84 [(2, 178), (0, r4), (0, r11), (0, r16), (3, 0)] [] v73 ρ Z := by
          intro i84
          refine t_getR (pc := 84) hX 45 rfl rfl rfl fl_X12_114 rfl hG.1 (a_stack hG).1 ?_
          refine t_getI (y := (v73 178 53)) (pc := 88) hX 47 rfl rfl rfl fl_X12_493 rfl hG.1 (rfl) ?_
          refine r_iload_n (pc := 92) hX 49 rfl rfl ?_
          first | refine r_if_eq (pc := 93) hX 50 (tgt := 101) rfl (by decide) (⟨by omega, by omega⟩) (fun h93 => ?_) (fun h93 => ?_) | refine r_if_eq_any (pc := 93) hX 50 (tgt := 101) rfl (by decide) ?_ ?_
          · refine r_bipush (pc := 101) hX 53 rfl (by decide) ?_
            refine e_iast (pc := 103) hX 54 rfl (a_stack hG).2.1 (a_stack hG).2.2 (by decide) (by omega) (by omega) ?_
            refine r_aload_n (pc := 104) hX 55 rfl rfl ?_
            refine r_dup (pc := 105) hX 56 rfl (show (2 : Nat) ≠ 1 by decide) ?_
            refine e_getI (y := (v73 178 53)) (pc := 106) hX 57 rfl fl_X12_493 rfl hG.1 ((up_r (by decide)).trans (rfl)) ?_
            refine r_iconst (pc := 109) hX 58 rfl ?_
            refine r_iadd (pc := 110) hX 59 rfl ?_
            refine r_putI (pc := 111) hX 60 rfl fl_X12_493 rfl (fun _ h => by cases h; rfl) hG.1 (by decide) ?_
            refine r_aload_n (pc := 114) hX 61 rfl rfl ?_
            refine r_dup (pc := 115) hX 62 rfl (show (2 : Nat) ≠ 1 by decide) ?_
            refine e_getI (y := (v73 178 54)) (pc := 116) hX 63 rfl fl_X12_500 rfl hG.1 ((up_k (by decide)).trans ((up_r (by decide)).trans (rfl))) ?_
            refine r_iconst (pc := 119) hX 64 rfl ?_
            refine r_iadd (pc := 120) hX 65 rfl ?_
            refine r_putI (pc := 121) hX 66 rfl fl_X12_500 rfl (fun _ h => by cases h; rfl) hG.1 (by decide) ?_
            refine r_iconst (pc := 124) hX 67 rfl ?_
            show wp g X F_m_operand 0 0 125 [(2, 178), (0, r4), (0, r11), (0, r16), (3, 0)] [(0, 1)] (up (up (up v73 205 (v73 178 53) 23) 178 53 ((v73 178 53) + 1)) 178 54 ((v73 178 54) + 1)) ρ Z
            exact r_zret (pc := 125) hX 68 hQ rfl rfl ⟨by omega, by omega⟩ (Nat.le_refl 0) (Nat.le_refl 0) ⟨rfl, rfl, (((((Fr.rf).fld (k := 52) (by decide)).tr hfr73 (by decide) (by decide)).arr (r := 205) (by decide) (by decide)).fld (k := 53) (by decide)).fld (k := 54) (by decide), 1, rfl, (by (repeat (first | rw [up_k (by decide)] | rw [up_s] | rw [up_r (by decide)])); omega), (Or.inr ⟨rfl, by
        rw [show (up (up (up v73 205 (v73 178 53) 23) 178 53 ((v73 178 53) + 1)) 178 54 ((v73 178 54) + 1)) 182 = v73 182 from by (repeat rw [up_f (by decide)]), show (up (up (up v73 205 (v73 178 53) 23) 178 53 ((v73 178 53) + 1)) 178 54 ((v73 178 54) + 1)) 178 51 = v73 178 51 from by (repeat (first | rw [up_k (by decide)] | rw [up_s] | rw [up_r (by decide)])), show (up (up (up v73 205 (v73 178 53) 23) 178 53 ((v73 178 53) + 1)) 178 54 ((v73 178 54) + 1)) 178 53 = v73 178 53 + 1 from by (repeat (first | rw [up_k (by decide)] | rw [up_s] | rw [up_r (by decide)])), show (up (up (up v73 205 (v73 178 53) 23) 178 53 ((v73 178 53) + 1)) 178 54 ((v73 178 54) + 1)) 178 52 = v 178 52 + 1 from by (repeat (first | rw [up_k (by decide)] | rw [up_s] | rw [up_r (by decide)])); exact hk73_52, show (up (up (up v73 205 (v73 178 53) 23) 178 53 ((v73 178 53) + 1)) 178 54 ((v73 178 54) + 1)) 178 55 = 0 from by (repeat (first | rw [up_k (by decide)] | rw [up_s] | rw [up_r (by decide)])); omega]
        exact hs73.push (by omega) (fun k a b => by (repeat rw [up_f (by decide)]); rw [up_k (by omega)]) rfl (by (repeat rw [up_f (by decide)]); rw [up_s]; first | exact Or.inl rfl | exact Or.inr rfl), by omega, by (repeat (first | rw [up_k (by decide)] | rw [up_s] | rw [up_r (by decide)])); omega⟩)⟩
          · refine r_bipush (pc := 96) hX 51 rfl (by decide) ?_
            refine r_goto (pc := 98) hX 52 (tgt := 103) rfl (by decide) ?_
            refine e_iast (pc := 103) hX 54 rfl (a_stack hG).2.1 (a_stack hG).2.2 (by decide) (by omega) (by omega) ?_
            refine r_aload_n (pc := 104) hX 55 rfl rfl ?_
            refine r_dup (pc := 105) hX 56 rfl (show (2 : Nat) ≠ 1 by decide) ?_
            refine e_getI (y := (v73 178 53)) (pc := 106) hX 57 rfl fl_X12_493 rfl hG.1 ((up_r (by decide)).trans (rfl)) ?_
            refine r_iconst (pc := 109) hX 58 rfl ?_
            refine r_iadd (pc := 110) hX 59 rfl ?_
            refine r_putI (pc := 111) hX 60 rfl fl_X12_493 rfl (fun _ h => by cases h; rfl) hG.1 (by decide) ?_
            refine r_aload_n (pc := 114) hX 61 rfl rfl ?_
            refine r_dup (pc := 115) hX 62 rfl (show (2 : Nat) ≠ 1 by decide) ?_
            refine e_getI (y := (v73 178 54)) (pc := 116) hX 63 rfl fl_X12_500 rfl hG.1 ((up_k (by decide)).trans ((up_r (by decide)).trans (rfl))) ?_
            refine r_iconst (pc := 119) hX 64 rfl ?_
            refine r_iadd (pc := 120) hX 65 rfl ?_
            refine r_putI (pc := 121) hX 66 rfl fl_X12_500 rfl (fun _ h => by cases h; rfl) hG.1 (by decide) ?_
            refine r_iconst (pc := 124) hX 67 rfl ?_
            show wp g X F_m_operand 0 0 125 [(2, 178), (0, r4), (0, r11), (0, r16), (3, 0)] [(0, 1)] (up (up (up v73 205 (v73 178 53) 20) 178 53 ((v73 178 53) + 1)) 178 54 ((v73 178 54) + 1)) ρ Z
            exact r_zret (pc := 125) hX 68 hQ rfl rfl ⟨by omega, by omega⟩ (Nat.le_refl 0) (Nat.le_refl 0) ⟨rfl, rfl, (((((Fr.rf).fld (k := 52) (by decide)).tr hfr73 (by decide) (by decide)).arr (r := 205) (by decide) (by decide)).fld (k := 53) (by decide)).fld (k := 54) (by decide), 1, rfl, (by (repeat (first | rw [up_k (by decide)] | rw [up_s] | rw [up_r (by decide)])); omega), (Or.inr ⟨rfl, by
        rw [show (up (up (up v73 205 (v73 178 53) 20) 178 53 ((v73 178 53) + 1)) 178 54 ((v73 178 54) + 1)) 182 = v73 182 from by (repeat rw [up_f (by decide)]), show (up (up (up v73 205 (v73 178 53) 20) 178 53 ((v73 178 53) + 1)) 178 54 ((v73 178 54) + 1)) 178 51 = v73 178 51 from by (repeat (first | rw [up_k (by decide)] | rw [up_s] | rw [up_r (by decide)])), show (up (up (up v73 205 (v73 178 53) 20) 178 53 ((v73 178 53) + 1)) 178 54 ((v73 178 54) + 1)) 178 53 = v73 178 53 + 1 from by (repeat (first | rw [up_k (by decide)] | rw [up_s] | rw [up_r (by decide)])), show (up (up (up v73 205 (v73 178 53) 20) 178 53 ((v73 178 53) + 1)) 178 54 ((v73 178 54) + 1)) 178 52 = v 178 52 + 1 from by (repeat (first | rw [up_k (by decide)] | rw [up_s] | rw [up_r (by decide)])); exact hk73_52, show (up (up (up v73 205 (v73 178 53) 20) 178 53 ((v73 178 53) + 1)) 178 54 ((v73 178 54) + 1)) 178 55 = 0 from by (repeat (first | rw [up_k (by decide)] | rw [up_s] | rw [up_r (by decide)])); omega]
        exact hs73.push (by omega) (fun k a b => by (repeat rw [up_f (by decide)]); rw [up_k (by omega)]) rfl (by (repeat rw [up_f (by decide)]); rw [up_s]; first | exact Or.inl rfl | exact Or.inr rfl), by omega, by (repeat (first | rw [up_k (by decide)] | rw [up_s] | rw [up_r (by decide)])); omega⟩)⟩
        first | refine r_if_ne (pc := 77) hX 42 (tgt := 84) rfl (by decide) (⟨by omega, by omega⟩) (fun h77 => ?_) (fun h77 => ?_) | refine r_if_ne_any (pc := 77) hX 42 (tgt := 84) rfl (by decide) ?_ ?_
        · exact (L84  (by omega) )
        · refine r_iload_n (pc := 80) hX 43 rfl rfl ?_
          first | refine r_if_eq (pc := 81) hX 44 (tgt := 126) rfl (by decide) (⟨by omega, by omega⟩) (fun h81 => ?_) (fun h81 => ?_) | refine r_if_eq_any (pc := 81) hX 44 (tgt := 126) rfl (by decide) ?_ ?_
          · refine r_aload_n (pc := 126) hX 69 rfl rfl ?_
            refine r_iconst (pc := 127) hX 70 rfl ?_
            refine r_putZ (pc := 128) hX 71 rfl fl_X12_509 rfl (fun _ h => by cases h; rfl) ⟨by omega, by omega⟩ hG.1 (by decide) ?_
            refine r_iload_n (pc := 131) hX 72 rfl rfl ?_
            refine r_iconst (pc := 132) hX 73 rfl ?_
            first | refine r_icmp_ge (pc := 133) hX 74 (tgt := 145) rfl (by decide) (⟨by omega, by omega⟩) (⟨by omega, by omega⟩) (fun h133 => ?_) (fun h133 => ?_) | refine r_icmp_ge_any (pc := 133) hX 74 (tgt := 145) rfl (by decide) ?_ ?_
            · refine r_iload_n (pc := 145) hX 82 rfl rfl ?_
              refine r_iconst (pc := 146) hX 83 rfl ?_
              first | refine r_icmp_ne (pc := 147) hX 84 (tgt := 201) rfl (by decide) (⟨by omega, by omega⟩) (⟨by omega, by omega⟩) (fun h147 => ?_) (fun h147 => ?_) | refine r_icmp_ne_any (pc := 147) hX 84 (tgt := 201) rfl (by decide) ?_ ?_
              · refine t_getI (y := (v73 178 11)) (pc := 201) hX 115 rfl rfl rfl fl_X12_190 rfl hG.1 ((up_k (by decide)).trans (rfl)) ?_
                refine r_iconst (pc := 205) hX 117 rfl ?_
                have L227 : wp g X F_m_operand 0 0 227 [(2, 178), (0, r4), (0, r11), (0, r16), (3, 0)] [] (up v73 178 55 1) ρ Z := by
                  refine r_aload_n (pc := 227) hX 127 rfl rfl ?_
                  refine r_iconst (pc := 228) hX 128 rfl ?_
                  refine r_callV (as := [(0, 1)]) (st := []) (K := 12) (pc := 229) hX 129 rfl mo_m_bad ml_X12_216 im_m_bad se_m_bad (c_bad g (up v73 178 55 1) ρ Z hG (1) ) rfl rfl rfl hG.1 (by rw [hRm]; exact ⟨by decide, by decide⟩) (by rw [hRm]; exact ⟨by decide, by decide⟩) (Nat.le_of_ble_eq_true rfl) (fun o229 v229 ρ229 Z229 hq229 _ => ?_)
                  obtain ⟨rfl, rfl, hfr229, r229, rfl, hq229⟩ := hq229
                  try simp only [up_f (show (180 : Int) ≠ 178 by decide)] at hq229
                  have hSInv_229 : SInv (v229 180) := by rw [hfr229.1 180 (by decide) (by decide), up_f (by decide)]; exact hSInv_73
                  have hk229_3 : v229 178 3 = (v73 178 3) := (hfr229.2 3 (by decide)).trans ((up_k (by decide)).trans (rfl))
                  have hk229_4 : v229 178 4 = (v73 178 4) := (hfr229.2 4 (by decide)).trans ((up_k (by decide)).trans (rfl))
                  have hk229_5 : v229 178 5 = (v73 178 5) := (hfr229.2 5 (by decide)).trans ((up_k (by decide)).trans (rfl))
                  have hk229_11 : v229 178 11 = (v73 178 11) := (hfr229.2 11 (by decide)).trans ((up_k (by decide)).trans (rfl))
                  have hk229_14 : v229 178 14 = (v73 178 14) := (hfr229.2 14 (by decide)).trans ((up_k (by decide)).trans (rfl))
                  have hk229_25 : v229 178 25 = (v73 178 25) := (hfr229.2 25 (by decide)).trans ((up_k (by decide)).trans (rfl))
                  have hk229_51 : v229 178 51 = (v73 178 51) := (hfr229.2 51 (by decide)).trans ((up_k (by decide)).trans (rfl))
                  have hk229_52 : v229 178 52 = (v73 178 52) := (hfr229.2 52 (by decide)).trans ((up_k (by decide)).trans (rfl))
                  have hk229_53 : v229 178 53 = (v73 178 53) := (hfr229.2 53 (by decide)).trans ((up_k (by decide)).trans (rfl))
                  have hk229_55 : v229 178 55 = 1 := (hfr229.2 55 (by decide)).trans (up_s _ _ _ _)
                  have hk229_2 : v229 178 2 = (v73 178 2) := (hfr229.2 2 (by decide)).trans ((up_k (by decide)).trans (rfl))
                  show wp g X F_m_operand 0 0 232 [(2, 178), (0, r4), (0, r11), (0, r16), (3, 0)] [(0, r229)] v229 ρ Z
                  exact r_zret (pc := 232) hX 130 hQ rfl rfl ⟨by omega, by omega⟩ (Nat.le_refl 0) (Nat.le_refl 0) ⟨rfl, rfl, ((((Fr.rf).fld (k := 52) (by decide)).tr hfr73 (by decide) (by decide)).fld (k := 55) (by decide)).tr hfr229 (by decide) (by decide), r229, rfl, (by (repeat (first | rw [up_k (by decide)] | rw [up_s] | rw [up_r (by decide)])); omega), (Or.inl (by omega))⟩
                first | refine r_icmp_ne (pc := 206) hX 118 (tgt := 227) rfl (by decide) (⟨by omega, by omega⟩) (⟨by omega, by omega⟩) (fun h206 => ?_) (fun h206 => ?_) | refine r_icmp_ne_any (pc := 206) hX 118 (tgt := 227) rfl (by decide) ?_ ?_
                · exact (L227   )
                · refine t_getI (y := (v73 178 14)) (pc := 209) hX 119 rfl rfl rfl fl_X12_200 rfl hG.1 ((up_k (by decide)).trans (rfl)) ?_
                  refine r_bipush (pc := 213) hX 121 rfl (by decide) ?_
                  first | refine r_icmp_lt (pc := 215) hX 122 (tgt := 227) rfl (by decide) (⟨by omega, by omega⟩) (⟨by omega, by omega⟩) (fun h215 => ?_) (fun h215 => ?_) | refine r_icmp_lt_any (pc := 215) hX 122 (tgt := 227) rfl (by decide) ?_ ?_
                  · exact (L227   )
                  · refine t_getI (y := (v73 178 14)) (pc := 218) hX 123 rfl rfl rfl fl_X12_200 rfl hG.1 ((up_k (by decide)).trans (rfl)) ?_
                    refine r_bipush (pc := 222) hX 125 rfl (by decide) ?_
                    first | refine r_icmp_le (pc := 224) hX 126 (tgt := 233) rfl (by decide) (⟨by omega, by omega⟩) (⟨by omega, by omega⟩) (fun h224 => ?_) (fun h224 => ?_) | refine r_icmp_le_any (pc := 224) hX 126 (tgt := 233) rfl (by decide) ?_ ?_
                    · refine t_getI (y := (v73 178 14)) (pc := 233) hX 131 rfl rfl rfl fl_X12_200 rfl hG.1 ((up_k (by decide)).trans (rfl)) ?_
                      refine r_istore (ls' := [(2, 178), (0, r4), (0, r11), (0, r16), (0, (v73 178 14))]) (pc := 237) hX 133 rfl (by decide) rfl ?_
                      refine r_aload_n (pc := 239) hX 134 rfl rfl ?_
                      refine r_callV (as := []) (st := []) (K := 12) (pc := 240) hX 135 rfl mo_m_go ml_X12_219 im_m_go se_m_go (c_go g (up v73 178 55 1) ρ Z hG  (by (repeat (first | rw [up_k (by decide)] | rw [up_s] | rw [up_r (by decide)])); omega)) rfl rfl rfl hG.1 (by rw [hRm]; exact ⟨by decide, by decide⟩) (by rw [hRm]; exact ⟨by decide, by decide⟩) (Nat.le_of_ble_eq_true rfl) (fun o240 v240 ρ240 Z240 hq240 _ => ?_)
                      obtain ⟨rfl, rfl, hfr240, rfl, hq240⟩ := hq240
                      try simp only [up_f (show (180 : Int) ≠ 178 by decide), up_k (show (3 : Int) ≠ 55 by decide), up_k (show (4 : Int) ≠ 55 by decide)] at hq240
                      have hSInv_240 : SInv (v240 180) := by rw [hfr240.1 180 (by decide) (by decide), up_f (by decide)]; exact hSInv_73
                      have hk240_3 : v240 178 3 = (v73 178 3) := (hfr240.2 3 (by decide)).trans ((up_k (by decide)).trans (rfl))
                      have hk240_5 : v240 178 5 = (v73 178 5) := (hfr240.2 5 (by decide)).trans ((up_k (by decide)).trans (rfl))
                      have hk240_25 : v240 178 25 = (v73 178 25) := (hfr240.2 25 (by decide)).trans ((up_k (by decide)).trans (rfl))
                      have hk240_51 : v240 178 51 = (v73 178 51) := (hfr240.2 51 (by decide)).trans ((up_k (by decide)).trans (rfl))
                      have hk240_52 : v240 178 52 = (v73 178 52) := (hfr240.2 52 (by decide)).trans ((up_k (by decide)).trans (rfl))
                      have hk240_53 : v240 178 53 = (v73 178 53) := (hfr240.2 53 (by decide)).trans ((up_k (by decide)).trans (rfl))
                      have hk240_55 : v240 178 55 = 1 := (hfr240.2 55 (by decide)).trans (up_s _ _ _ _)
                      have hk240_2 : v240 178 2 = (v73 178 2) := (hfr240.2 2 (by decide)).trans ((up_k (by decide)).trans (rfl))
                      show wp g X F_m_operand 0 0 243 [(2, 178), (0, r4), (0, r11), (0, r16), (0, (v73 178 14))] [] v240 ρ Z
                      have hs240 : SnI (v240 182) (v240 205) (v240 178 51) (v240 178 53) (v 178 52) 0 := by
                        rw [hk240_51, hk240_53, hfr240.1 182 (by decide) (by decide), hfr240.1 205 (by decide) (by decide)]; (repeat rw [up_f (by decide)]); exact hs73
                      have in240 := hs240.nums
                      refine t_getI (y := (v240 178 11)) (pc := 243) hX 136 rfl rfl rfl fl_X12_190 rfl hG.1 (rfl) ?_
                      refine r_iconst (pc := 247) hX 138 rfl ?_
                      first | refine r_icmp_eq (pc := 248) hX 139 (tgt := 257) rfl (by decide) (⟨by omega, by omega⟩) (⟨by omega, by omega⟩) (fun h248 => ?_) (fun h248 => ?_) | refine r_icmp_eq_any (pc := 248) hX 139 (tgt := 257) rfl (by decide) ?_ ?_
                      · refine r_aload_n (pc := 257) hX 144 rfl rfl ?_
                        refine r_iload_n (pc := 258) hX 145 rfl rfl ?_
                        refine r_iload (pc := 259) hX 146 rfl rfl ?_
                        refine t_getI (y := (v240 178 14)) (pc := 261) hX 147 rfl rfl rfl fl_X12_200 rfl hG.1 (rfl) ?_
                        refine r_callV (as := [(0, r16), (0, (v73 178 14)), (0, (v240 178 14))]) (st := []) (K := 12) (pc := 265) hX 149 rfl mo_m_code ml_X12_496 im_m_code se_m_code (c_code g v240 ρ Z hG (r16) ((v73 178 14)) ((v240 178 14)) (by (repeat (first | rw [up_k (by decide)] | rw [up_s] | rw [up_r (by decide)])); omega)) rfl rfl rfl hG.1 (by rw [hRm]; exact ⟨by decide, by decide⟩) (by rw [hRm]; exact ⟨by decide, by decide⟩) (Nat.le_of_ble_eq_true rfl) (fun o265 v265 ρ265 Z265 hq265 _ => ?_)
                        obtain ⟨rfl, rfl, hfr265, rfl, hq265⟩ := hq265
                        have hSInv_265 : SInv (v265 180) := by rw [hfr265.1 180 (by decide) (by decide)]; exact hSInv_240
                        have hk265_3 : v265 178 3 = (v240 178 3) := (hfr265.2 3 (by decide)).trans (rfl)
                        have hk265_4 : v265 178 4 = (v240 178 4) := (hfr265.2 4 (by decide)).trans (rfl)
                        have hk265_5 : v265 178 5 = (v240 178 5) := (hfr265.2 5 (by decide)).trans (rfl)
                        have hk265_11 : v265 178 11 = (v240 178 11) := (hfr265.2 11 (by decide)).trans (rfl)
                        have hk265_14 : v265 178 14 = (v240 178 14) := (hfr265.2 14 (by decide)).trans (rfl)
                        have hk265_25 : v265 178 25 = (v240 178 25) := (hfr265.2 25 (by decide)).trans (rfl)
                        have hk265_52 : v265 178 52 = (v240 178 52) := (hfr265.2 52 (by decide)).trans (rfl)
                        have hk265_53 : v265 178 53 = (v240 178 53) := (hfr265.2 53 (by decide)).trans (rfl)
                        have hk265_55 : v265 178 55 = (v240 178 55) := (hfr265.2 55 (by decide)).trans (rfl)
                        have hk265_2 : v265 178 2 = (v240 178 2) := (hfr265.2 2 (by decide)).trans (rfl)
                        show wp g X F_m_operand 0 0 268 [(2, 178), (0, r4), (0, r11), (0, r16), (0, (v73 178 14))] [] v265 ρ Z
                        have hs265 : SnI (v265 182) (v265 205) (v265 178 51) (v265 178 53) (v265 178 52) (v265 178 55) := by
                          rw [hq265.1, hk265_53, hk265_52, hk265_55, show v265 205 = v240 205 from by rw [hfr265.1 205 (by decide) (by decide)]; (repeat rw [up_f (by decide)])]
                          rw [hk240_52, hk73_52, hk240_55]; exact hs240.leaf (by omega) hq265.2.2 hq265.2.1 (by omega)
                        refine r_aload_n (pc := 268) hX 150 rfl rfl ?_
                        refine r_callV (as := []) (st := []) (K := 12) (pc := 269) hX 151 rfl mo_m_go ml_X12_219 im_m_go se_m_go (c_go g v265 ρ Z hG  (by (repeat (first | rw [up_k (by decide)] | rw [up_s] | rw [up_r (by decide)])); omega)) rfl rfl rfl hG.1 (by rw [hRm]; exact ⟨by decide, by decide⟩) (by rw [hRm]; exact ⟨by decide, by decide⟩) (Nat.le_of_ble_eq_true rfl) (fun o269 v269 ρ269 Z269 hq269 _ => ?_)
                        obtain ⟨rfl, rfl, hfr269, rfl, hq269⟩ := hq269
                        have hSInv_269 : SInv (v269 180) := by rw [hfr269.1 180 (by decide) (by decide)]; exact hSInv_265
                        have hk269_3 : v269 178 3 = (v265 178 3) := (hfr269.2 3 (by decide)).trans (rfl)
                        have hk269_5 : v269 178 5 = (v265 178 5) := (hfr269.2 5 (by decide)).trans (rfl)
                        have hk269_25 : v269 178 25 = (v265 178 25) := (hfr269.2 25 (by decide)).trans (rfl)
                        have hk269_51 : v269 178 51 = (v265 178 51) := (hfr269.2 51 (by decide)).trans (rfl)
                        have hk269_52 : v269 178 52 = (v265 178 52) := (hfr269.2 52 (by decide)).trans (rfl)
                        have hk269_53 : v269 178 53 = (v265 178 53) := (hfr269.2 53 (by decide)).trans (rfl)
                        have hk269_55 : v269 178 55 = (v265 178 55) := (hfr269.2 55 (by decide)).trans (rfl)
                        have hk269_2 : v269 178 2 = (v265 178 2) := (hfr269.2 2 (by decide)).trans (rfl)
                        show wp g X F_m_operand 0 0 272 [(2, 178), (0, r4), (0, r11), (0, r16), (0, (v73 178 14))] [] v269 ρ Z
                        have hs269 : SnI (v269 182) (v269 205) (v269 178 51) (v269 178 53) (v269 178 52) (v269 178 55) := by rw [hk269_51, hk269_53, hk269_52, hk269_55, hfr269.1 182 (by decide) (by decide), hfr269.1 205 (by decide) (by decide)]; exact hs265
                        refine r_iconst (pc := 272) hX 152 rfl ?_
                        exact r_zret (pc := 273) hX 153 hQ rfl rfl ⟨by omega, by omega⟩ (Nat.le_refl 0) (Nat.le_refl 0) ⟨rfl, rfl, ((((((Fr.rf).fld (k := 52) (by decide)).tr hfr73 (by decide) (by decide)).fld (k := 55) (by decide)).tr hfr240 (by decide) (by decide)).tr hfr265 (by decide) (by decide)).tr hfr269 (by decide) (by decide), 1, rfl, (by (repeat (first | rw [up_k (by decide)] | rw [up_s] | rw [up_r (by decide)])); omega), (Or.inr ⟨rfl, hs269, by omega, by omega⟩)⟩
                      · refine r_aload_n (pc := 251) hX 140 rfl rfl ?_
                        refine r_iconst (pc := 252) hX 141 rfl ?_
                        refine r_callV (as := [(0, 1)]) (st := []) (K := 12) (pc := 253) hX 142 rfl mo_m_bad ml_X12_216 im_m_bad se_m_bad (c_bad g v240 ρ Z hG (1) ) rfl rfl rfl hG.1 (by rw [hRm]; exact ⟨by decide, by decide⟩) (by rw [hRm]; exact ⟨by decide, by decide⟩) (Nat.le_of_ble_eq_true rfl) (fun o253 v253 ρ253 Z253 hq253 _ => ?_)
                        obtain ⟨rfl, rfl, hfr253, r253, rfl, hq253⟩ := hq253
                        have hSInv_253 : SInv (v253 180) := by rw [hfr253.1 180 (by decide) (by decide)]; exact hSInv_240
                        have hk253_3 : v253 178 3 = (v240 178 3) := (hfr253.2 3 (by decide)).trans (rfl)
                        have hk253_4 : v253 178 4 = (v240 178 4) := (hfr253.2 4 (by decide)).trans (rfl)
                        have hk253_5 : v253 178 5 = (v240 178 5) := (hfr253.2 5 (by decide)).trans (rfl)
                        have hk253_11 : v253 178 11 = (v240 178 11) := (hfr253.2 11 (by decide)).trans (rfl)
                        have hk253_14 : v253 178 14 = (v240 178 14) := (hfr253.2 14 (by decide)).trans (rfl)
                        have hk253_25 : v253 178 25 = (v240 178 25) := (hfr253.2 25 (by decide)).trans (rfl)
                        have hk253_51 : v253 178 51 = (v240 178 51) := (hfr253.2 51 (by decide)).trans (rfl)
                        have hk253_52 : v253 178 52 = (v240 178 52) := (hfr253.2 52 (by decide)).trans (rfl)
                        have hk253_53 : v253 178 53 = (v240 178 53) := (hfr253.2 53 (by decide)).trans (rfl)
                        have hk253_55 : v253 178 55 = (v240 178 55) := (hfr253.2 55 (by decide)).trans (rfl)
                        have hk253_2 : v253 178 2 = (v240 178 2) := (hfr253.2 2 (by decide)).trans (rfl)
                        show wp g X F_m_operand 0 0 256 [(2, 178), (0, r4), (0, r11), (0, r16), (0, (v73 178 14))] [(0, r253)] v253 ρ Z
                        exact r_zret (pc := 256) hX 143 hQ rfl rfl ⟨by omega, by omega⟩ (Nat.le_refl 0) (Nat.le_refl 0) ⟨rfl, rfl, (((((Fr.rf).fld (k := 52) (by decide)).tr hfr73 (by decide) (by decide)).fld (k := 55) (by decide)).tr hfr240 (by decide) (by decide)).tr hfr253 (by decide) (by decide), r253, rfl, (by (repeat (first | rw [up_k (by decide)] | rw [up_s] | rw [up_r (by decide)])); omega), (Or.inl (by omega))⟩
                    · exact (L227   )
              · refine r_aload_n (pc := 150) hX 85 rfl rfl ?_
                refine r_callV (as := []) (st := []) (K := 12) (pc := 151) hX 86 rfl mo_m_isName ml_X12_233 im_m_isName se_m_isName (c_isName g (up v73 178 55 1) ρ Z hG  (by (repeat (first | rw [up_k (by decide)] | rw [up_s] | rw [up_r (by decide)])); omega)) rfl rfl rfl hG.1 (by rw [hRm]; exact ⟨by decide, by decide⟩) (by rw [hRm]; exact ⟨by decide, by decide⟩) (Nat.le_of_ble_eq_true rfl) (fun o151 v151 ρ151 Z151 hq151 _ => ?_)
                obtain ⟨rfl, rfl, rfl, r151, rfl, hq151⟩ := hq151
                try simp only [up_f (show (180 : Int) ≠ 178 by decide), up_k (show (11 : Int) ≠ 55 by decide)] at hq151
                show wp g X F_m_operand 0 0 154 [(2, 178), (0, r4), (0, r11), (0, r16), (3, 0)] [(0, r151)] (up v73 178 55 1) ρ Z
                first | refine r_if_ne (pc := 154) hX 87 (tgt := 163) rfl (by decide) (⟨by omega, by omega⟩) (fun h154 => ?_) (fun h154 => ?_) | refine r_if_ne_any (pc := 154) hX 87 (tgt := 163) rfl (by decide) ?_ ?_
                · refine r_aload_n (pc := 163) hX 92 rfl rfl ?_
                  refine r_iconst (pc := 164) hX 93 rfl ?_
                  refine t_getR (pc := 165) hX 94 rfl rfl rfl fl_X12_33 rfl hG.1 (a_s hG).1 ?_
                  refine r_iconst (pc := 169) hX 96 rfl ?_
                  refine e_iald (y := (v73 180 0)) (pc := 170) hX 97 rfl (a_s hG).2.1 (a_s hG).2.2 (by omega) (by omega) ((up_r (by decide)).trans (rfl)) ?_
                  have hb170 := hSInv_73.c0
                  refine r_callV (as := [(0, 0), (0, (v73 180 0))]) (st := []) (K := 12) (pc := 171) hX 98 rfl mo_m_find ml_X12_237 im_m_find se_m_find (c_find g (up v73 178 55 1) ρ Z hG (0) ((v73 180 0)) (by omega) (by omega)) rfl rfl rfl hG.1 (by rw [hRm]; exact ⟨by decide, by decide⟩) (by rw [hRm]; exact ⟨by decide, by decide⟩) (Nat.le_of_ble_eq_true rfl) (fun o171 v171 ρ171 Z171 hq171 _ => ?_)
                  obtain ⟨rfl, rfl, rfl, r171, rfl, hq171⟩ := hq171
                  try simp only [up_f (show (180 : Int) ≠ 178 by decide)] at hq171
                  show wp g X F_m_operand 0 0 174 [(2, 178), (0, r4), (0, r11), (0, r16), (3, 0)] [(0, r171)] (up v73 178 55 1) ρ Z
                  refine r_istore (ls' := [(2, 178), (0, r4), (0, r11), (0, r16), (0, r171)]) (pc := 174) hX 99 rfl (by decide) rfl ?_
                  refine r_iload (pc := 176) hX 100 rfl rfl ?_
                  first | refine r_if_ge (pc := 178) hX 101 (tgt := 187) rfl (by decide) (⟨by omega, by omega⟩) (fun h178 => ?_) (fun h178 => ?_) | refine r_if_ge_any (pc := 178) hX 101 (tgt := 187) rfl (by decide) ?_ ?_
                  · refine r_aload_n (pc := 187) hX 106 rfl rfl ?_
                    refine r_iload_n (pc := 188) hX 107 rfl rfl ?_
                    refine r_iconst (pc := 189) hX 108 rfl ?_
                    refine r_iload (pc := 190) hX 109 rfl rfl ?_
                    refine r_callV (as := [(0, r16), (0, 0), (0, r171)]) (st := []) (K := 12) (pc := 192) hX 110 rfl mo_m_code ml_X12_496 im_m_code se_m_code (c_code g (up v73 178 55 1) ρ Z hG (r16) (0) (r171) (by (repeat (first | rw [up_k (by decide)] | rw [up_s] | rw [up_r (by decide)])); omega)) rfl rfl rfl hG.1 (by rw [hRm]; exact ⟨by decide, by decide⟩) (by rw [hRm]; exact ⟨by decide, by decide⟩) (Nat.le_of_ble_eq_true rfl) (fun o192 v192 ρ192 Z192 hq192 _ => ?_)
                    obtain ⟨rfl, rfl, hfr192, rfl, hq192⟩ := hq192
                    try simp only [up_f (show (180 : Int) ≠ 178 by decide), up_f (show (182 : Int) ≠ 178 by decide), up_k (show (51 : Int) ≠ 55 by decide)] at hq192
                    have hSInv_192 : SInv (v192 180) := by rw [hfr192.1 180 (by decide) (by decide), up_f (by decide)]; exact hSInv_73
                    have hk192_3 : v192 178 3 = (v73 178 3) := (hfr192.2 3 (by decide)).trans ((up_k (by decide)).trans (rfl))
                    have hk192_4 : v192 178 4 = (v73 178 4) := (hfr192.2 4 (by decide)).trans ((up_k (by decide)).trans (rfl))
                    have hk192_5 : v192 178 5 = (v73 178 5) := (hfr192.2 5 (by decide)).trans ((up_k (by decide)).trans (rfl))
                    have hk192_11 : v192 178 11 = (v73 178 11) := (hfr192.2 11 (by decide)).trans ((up_k (by decide)).trans (rfl))
                    have hk192_14 : v192 178 14 = (v73 178 14) := (hfr192.2 14 (by decide)).trans ((up_k (by decide)).trans (rfl))
                    have hk192_25 : v192 178 25 = (v73 178 25) := (hfr192.2 25 (by decide)).trans ((up_k (by decide)).trans (rfl))
                    have hk192_52 : v192 178 52 = (v73 178 52) := (hfr192.2 52 (by decide)).trans ((up_k (by decide)).trans (rfl))
                    have hk192_53 : v192 178 53 = (v73 178 53) := (hfr192.2 53 (by decide)).trans ((up_k (by decide)).trans (rfl))
                    have hk192_55 : v192 178 55 = 1 := (hfr192.2 55 (by decide)).trans (up_s _ _ _ _)
                    have hk192_2 : v192 178 2 = (v73 178 2) := (hfr192.2 2 (by decide)).trans ((up_k (by decide)).trans (rfl))
                    show wp g X F_m_operand 0 0 195 [(2, 178), (0, r4), (0, r11), (0, r16), (0, r171)] [] v192 ρ Z
                    have hs192 : SnI (v192 182) (v192 205) (v192 178 51) (v192 178 53) (v192 178 52) (v192 178 55) := by
                      rw [hq192.1, hk192_53, hk192_52, hk192_55, show v192 205 = v73 205 from by rw [hfr192.1 205 (by decide) (by decide)]; (repeat rw [up_f (by decide)])]
                      rw [hk73_52]; exact hs73.leaf (by omega) hq192.2.2 hq192.2.1 (by omega)
                    refine r_aload_n (pc := 195) hX 111 rfl rfl ?_
                    refine r_callV (as := []) (st := []) (K := 12) (pc := 196) hX 112 rfl mo_m_go ml_X12_219 im_m_go se_m_go (c_go g v192 ρ Z hG  (by (repeat (first | rw [up_k (by decide)] | rw [up_s] | rw [up_r (by decide)])); omega)) rfl rfl rfl hG.1 (by rw [hRm]; exact ⟨by decide, by decide⟩) (by rw [hRm]; exact ⟨by decide, by decide⟩) (Nat.le_of_ble_eq_true rfl) (fun o196 v196 ρ196 Z196 hq196 _ => ?_)
                    obtain ⟨rfl, rfl, hfr196, rfl, hq196⟩ := hq196
                    have hSInv_196 : SInv (v196 180) := by rw [hfr196.1 180 (by decide) (by decide)]; exact hSInv_192
                    have hk196_3 : v196 178 3 = (v192 178 3) := (hfr196.2 3 (by decide)).trans (rfl)
                    have hk196_5 : v196 178 5 = (v192 178 5) := (hfr196.2 5 (by decide)).trans (rfl)
                    have hk196_25 : v196 178 25 = (v192 178 25) := (hfr196.2 25 (by decide)).trans (rfl)
                    have hk196_51 : v196 178 51 = (v192 178 51) := (hfr196.2 51 (by decide)).trans (rfl)
                    have hk196_52 : v196 178 52 = (v192 178 52) := (hfr196.2 52 (by decide)).trans (rfl)
                    have hk196_53 : v196 178 53 = (v192 178 53) := (hfr196.2 53 (by decide)).trans (rfl)
                    have hk196_55 : v196 178 55 = (v192 178 55) := (hfr196.2 55 (by decide)).trans (rfl)
                    have hk196_2 : v196 178 2 = (v192 178 2) := (hfr196.2 2 (by decide)).trans (rfl)
                    show wp g X F_m_operand 0 0 199 [(2, 178), (0, r4), (0, r11), (0, r16), (0, r171)] [] v196 ρ Z
                    have hs196 : SnI (v196 182) (v196 205) (v196 178 51) (v196 178 53) (v196 178 52) (v196 178 55) := by rw [hk196_51, hk196_53, hk196_52, hk196_55, hfr196.1 182 (by decide) (by decide), hfr196.1 205 (by decide) (by decide)]; exact hs192
                    refine r_iconst (pc := 199) hX 113 rfl ?_
                    exact r_zret (pc := 200) hX 114 hQ rfl rfl ⟨by omega, by omega⟩ (Nat.le_refl 0) (Nat.le_refl 0) ⟨rfl, rfl, (((((Fr.rf).fld (k := 52) (by decide)).tr hfr73 (by decide) (by decide)).fld (k := 55) (by decide)).tr hfr192 (by decide) (by decide)).tr hfr196 (by decide) (by decide), 1, rfl, (by (repeat (first | rw [up_k (by decide)] | rw [up_s] | rw [up_r (by decide)])); omega), (Or.inr ⟨rfl, hs196, by omega, by omega⟩)⟩
                  · refine r_aload_n (pc := 181) hX 102 rfl rfl ?_
                    refine r_iconst (pc := 182) hX 103 rfl ?_
                    refine r_callV (as := [(0, 3)]) (st := []) (K := 12) (pc := 183) hX 104 rfl mo_m_bad ml_X12_216 im_m_bad se_m_bad (c_bad g (up v73 178 55 1) ρ Z hG (3) ) rfl rfl rfl hG.1 (by rw [hRm]; exact ⟨by decide, by decide⟩) (by rw [hRm]; exact ⟨by decide, by decide⟩) (Nat.le_of_ble_eq_true rfl) (fun o183 v183 ρ183 Z183 hq183 _ => ?_)
                    obtain ⟨rfl, rfl, hfr183, r183, rfl, hq183⟩ := hq183
                    try simp only [up_f (show (180 : Int) ≠ 178 by decide)] at hq183
                    have hSInv_183 : SInv (v183 180) := by rw [hfr183.1 180 (by decide) (by decide), up_f (by decide)]; exact hSInv_73
                    have hk183_3 : v183 178 3 = (v73 178 3) := (hfr183.2 3 (by decide)).trans ((up_k (by decide)).trans (rfl))
                    have hk183_4 : v183 178 4 = (v73 178 4) := (hfr183.2 4 (by decide)).trans ((up_k (by decide)).trans (rfl))
                    have hk183_5 : v183 178 5 = (v73 178 5) := (hfr183.2 5 (by decide)).trans ((up_k (by decide)).trans (rfl))
                    have hk183_11 : v183 178 11 = (v73 178 11) := (hfr183.2 11 (by decide)).trans ((up_k (by decide)).trans (rfl))
                    have hk183_14 : v183 178 14 = (v73 178 14) := (hfr183.2 14 (by decide)).trans ((up_k (by decide)).trans (rfl))
                    have hk183_25 : v183 178 25 = (v73 178 25) := (hfr183.2 25 (by decide)).trans ((up_k (by decide)).trans (rfl))
                    have hk183_51 : v183 178 51 = (v73 178 51) := (hfr183.2 51 (by decide)).trans ((up_k (by decide)).trans (rfl))
                    have hk183_52 : v183 178 52 = (v73 178 52) := (hfr183.2 52 (by decide)).trans ((up_k (by decide)).trans (rfl))
                    have hk183_53 : v183 178 53 = (v73 178 53) := (hfr183.2 53 (by decide)).trans ((up_k (by decide)).trans (rfl))
                    have hk183_55 : v183 178 55 = 1 := (hfr183.2 55 (by decide)).trans (up_s _ _ _ _)
                    have hk183_2 : v183 178 2 = (v73 178 2) := (hfr183.2 2 (by decide)).trans ((up_k (by decide)).trans (rfl))
                    show wp g X F_m_operand 0 0 186 [(2, 178), (0, r4), (0, r11), (0, r16), (0, r171)] [(0, r183)] v183 ρ Z
                    exact r_zret (pc := 186) hX 105 hQ rfl rfl ⟨by omega, by omega⟩ (Nat.le_refl 0) (Nat.le_refl 0) ⟨rfl, rfl, ((((Fr.rf).fld (k := 52) (by decide)).tr hfr73 (by decide) (by decide)).fld (k := 55) (by decide)).tr hfr183 (by decide) (by decide), r183, rfl, (by (repeat (first | rw [up_k (by decide)] | rw [up_s] | rw [up_r (by decide)])); omega), (Or.inl (by omega))⟩
                · refine r_aload_n (pc := 157) hX 88 rfl rfl ?_
                  refine r_iconst (pc := 158) hX 89 rfl ?_
                  refine r_callV (as := [(0, 1)]) (st := []) (K := 12) (pc := 159) hX 90 rfl mo_m_bad ml_X12_216 im_m_bad se_m_bad (c_bad g (up v73 178 55 1) ρ Z hG (1) ) rfl rfl rfl hG.1 (by rw [hRm]; exact ⟨by decide, by decide⟩) (by rw [hRm]; exact ⟨by decide, by decide⟩) (Nat.le_of_ble_eq_true rfl) (fun o159 v159 ρ159 Z159 hq159 _ => ?_)
                  obtain ⟨rfl, rfl, hfr159, r159, rfl, hq159⟩ := hq159
                  try simp only [up_f (show (180 : Int) ≠ 178 by decide)] at hq159
                  have hSInv_159 : SInv (v159 180) := by rw [hfr159.1 180 (by decide) (by decide), up_f (by decide)]; exact hSInv_73
                  have hk159_3 : v159 178 3 = (v73 178 3) := (hfr159.2 3 (by decide)).trans ((up_k (by decide)).trans (rfl))
                  have hk159_4 : v159 178 4 = (v73 178 4) := (hfr159.2 4 (by decide)).trans ((up_k (by decide)).trans (rfl))
                  have hk159_5 : v159 178 5 = (v73 178 5) := (hfr159.2 5 (by decide)).trans ((up_k (by decide)).trans (rfl))
                  have hk159_11 : v159 178 11 = (v73 178 11) := (hfr159.2 11 (by decide)).trans ((up_k (by decide)).trans (rfl))
                  have hk159_14 : v159 178 14 = (v73 178 14) := (hfr159.2 14 (by decide)).trans ((up_k (by decide)).trans (rfl))
                  have hk159_25 : v159 178 25 = (v73 178 25) := (hfr159.2 25 (by decide)).trans ((up_k (by decide)).trans (rfl))
                  have hk159_51 : v159 178 51 = (v73 178 51) := (hfr159.2 51 (by decide)).trans ((up_k (by decide)).trans (rfl))
                  have hk159_52 : v159 178 52 = (v73 178 52) := (hfr159.2 52 (by decide)).trans ((up_k (by decide)).trans (rfl))
                  have hk159_53 : v159 178 53 = (v73 178 53) := (hfr159.2 53 (by decide)).trans ((up_k (by decide)).trans (rfl))
                  have hk159_55 : v159 178 55 = 1 := (hfr159.2 55 (by decide)).trans (up_s _ _ _ _)
                  have hk159_2 : v159 178 2 = (v73 178 2) := (hfr159.2 2 (by decide)).trans ((up_k (by decide)).trans (rfl))
                  show wp g X F_m_operand 0 0 162 [(2, 178), (0, r4), (0, r11), (0, r16), (3, 0)] [(0, r159)] v159 ρ Z
                  exact r_zret (pc := 162) hX 91 hQ rfl rfl ⟨by omega, by omega⟩ (Nat.le_refl 0) (Nat.le_refl 0) ⟨rfl, rfl, ((((Fr.rf).fld (k := 52) (by decide)).tr hfr73 (by decide) (by decide)).fld (k := 55) (by decide)).tr hfr159 (by decide) (by decide), r159, rfl, (by (repeat (first | rw [up_k (by decide)] | rw [up_s] | rw [up_r (by decide)])); omega), (Or.inl (by omega))⟩
            · refine r_aload_n (pc := 136) hX 75 rfl rfl ?_
              refine r_iload_n (pc := 137) hX 76 rfl rfl ?_
              refine r_iconst (pc := 138) hX 77 rfl ?_
              refine r_iconst (pc := 139) hX 78 rfl ?_
              refine r_callV (as := [(0, r16), (0, 0), (0, 0)]) (st := []) (K := 12) (pc := 140) hX 79 rfl mo_m_code ml_X12_496 im_m_code se_m_code (c_code g (up v73 178 55 1) ρ Z hG (r16) (0) (0) (by (repeat (first | rw [up_k (by decide)] | rw [up_s] | rw [up_r (by decide)])); omega)) rfl rfl rfl hG.1 (by rw [hRm]; exact ⟨by decide, by decide⟩) (by rw [hRm]; exact ⟨by decide, by decide⟩) (Nat.le_of_ble_eq_true rfl) (fun o140 v140 ρ140 Z140 hq140 _ => ?_)
              obtain ⟨rfl, rfl, hfr140, rfl, hq140⟩ := hq140
              try simp only [up_f (show (180 : Int) ≠ 178 by decide), up_f (show (182 : Int) ≠ 178 by decide), up_k (show (51 : Int) ≠ 55 by decide)] at hq140
              have hSInv_140 : SInv (v140 180) := by rw [hfr140.1 180 (by decide) (by decide), up_f (by decide)]; exact hSInv_73
              have hk140_3 : v140 178 3 = (v73 178 3) := (hfr140.2 3 (by decide)).trans ((up_k (by decide)).trans (rfl))
              have hk140_4 : v140 178 4 = (v73 178 4) := (hfr140.2 4 (by decide)).trans ((up_k (by decide)).trans (rfl))
              have hk140_5 : v140 178 5 = (v73 178 5) := (hfr140.2 5 (by decide)).trans ((up_k (by decide)).trans (rfl))
              have hk140_11 : v140 178 11 = (v73 178 11) := (hfr140.2 11 (by decide)).trans ((up_k (by decide)).trans (rfl))
              have hk140_14 : v140 178 14 = (v73 178 14) := (hfr140.2 14 (by decide)).trans ((up_k (by decide)).trans (rfl))
              have hk140_25 : v140 178 25 = (v73 178 25) := (hfr140.2 25 (by decide)).trans ((up_k (by decide)).trans (rfl))
              have hk140_52 : v140 178 52 = (v73 178 52) := (hfr140.2 52 (by decide)).trans ((up_k (by decide)).trans (rfl))
              have hk140_53 : v140 178 53 = (v73 178 53) := (hfr140.2 53 (by decide)).trans ((up_k (by decide)).trans (rfl))
              have hk140_55 : v140 178 55 = 1 := (hfr140.2 55 (by decide)).trans (up_s _ _ _ _)
              have hk140_2 : v140 178 2 = (v73 178 2) := (hfr140.2 2 (by decide)).trans ((up_k (by decide)).trans (rfl))
              show wp g X F_m_operand 0 0 143 [(2, 178), (0, r4), (0, r11), (0, r16), (3, 0)] [] v140 ρ Z
              have hs140 : SnI (v140 182) (v140 205) (v140 178 51) (v140 178 53) (v140 178 52) (v140 178 55) := by
                rw [hq140.1, hk140_53, hk140_52, hk140_55, show v140 205 = v73 205 from by rw [hfr140.1 205 (by decide) (by decide)]; (repeat rw [up_f (by decide)])]
                rw [hk73_52]; exact hs73.leaf (by omega) hq140.2.2 hq140.2.1 (by omega)
              refine r_iconst (pc := 143) hX 80 rfl ?_
              exact r_zret (pc := 144) hX 81 hQ rfl rfl ⟨by omega, by omega⟩ (Nat.le_refl 0) (Nat.le_refl 0) ⟨rfl, rfl, ((((Fr.rf).fld (k := 52) (by decide)).tr hfr73 (by decide) (by decide)).fld (k := 55) (by decide)).tr hfr140 (by decide) (by decide), 1, rfl, (by (repeat (first | rw [up_k (by decide)] | rw [up_s] | rw [up_r (by decide)])); omega), (Or.inr ⟨rfl, hs140, by omega, by omega⟩)⟩
          · exact (L84  (by omega) )
      · exact (L56   )
  first | refine r_if_ne (pc := 21) hX 12 (tgt := 38) rfl (by decide) (⟨by omega, by omega⟩) (fun h21 => ?_) (fun h21 => ?_) | refine r_if_ne_any (pc := 21) hX 12 (tgt := 38) rfl (by decide) ?_ ?_
  · exact (L38  (by omega) )
  · refine r_iload_n (pc := 24) hX 13 rfl rfl ?_
    first | refine r_if_ne (pc := 25) hX 14 (tgt := 38) rfl (by decide) (⟨by omega, by omega⟩) (fun h25 => ?_) (fun h25 => ?_) | refine r_if_ne_any (pc := 25) hX 14 (tgt := 38) rfl (by decide) ?_ ?_
    · exact (L38  (by omega) )
    · refine r_iload_n (pc := 28) hX 15 rfl rfl ?_
      first | refine r_if_ge (pc := 29) hX 16 (tgt := 38) rfl (by decide) (⟨by omega, by omega⟩) (fun h29 => ?_) (fun h29 => ?_) | refine r_if_ge_any (pc := 29) hX 16 (tgt := 38) rfl (by decide) ?_ ?_
      · exact (L38  (by omega) )
      · refine r_aload_n (pc := 32) hX 17 rfl rfl ?_
        refine r_iconst (pc := 33) hX 18 rfl ?_
        refine r_callV (as := [(0, 1)]) (st := []) (K := 12) (pc := 34) hX 19 rfl mo_m_bad ml_X12_216 im_m_bad se_m_bad (c_bad g v ρ Z hG (1) ) rfl rfl rfl hG.1 (by rw [hRm]; exact ⟨by decide, by decide⟩) (by rw [hRm]; exact ⟨by decide, by decide⟩) (Nat.le_of_ble_eq_true rfl) (fun o34 v34 ρ34 Z34 hq34 _ => ?_)
        obtain ⟨rfl, rfl, hfr34, r34, rfl, hq34⟩ := hq34
        have hSInv_34 : SInv (v34 180) := by rw [hfr34.1 180 (by decide) (by decide)]; exact hS
        have hk34_3 : v34 178 3 = (v 178 3) := (hfr34.2 3 (by decide)).trans (rfl)
        have hk34_4 : v34 178 4 = (v 178 4) := (hfr34.2 4 (by decide)).trans (rfl)
        have hk34_5 : v34 178 5 = (v 178 5) := (hfr34.2 5 (by decide)).trans (rfl)
        have hk34_11 : v34 178 11 = (v 178 11) := (hfr34.2 11 (by decide)).trans (rfl)
        have hk34_14 : v34 178 14 = (v 178 14) := (hfr34.2 14 (by decide)).trans (rfl)
        have hk34_25 : v34 178 25 = (v 178 25) := (hfr34.2 25 (by decide)).trans (rfl)
        have hk34_51 : v34 178 51 = (v 178 51) := (hfr34.2 51 (by decide)).trans (rfl)
        have hk34_52 : v34 178 52 = (v 178 52) := (hfr34.2 52 (by decide)).trans (rfl)
        have hk34_53 : v34 178 53 = (v 178 53) := (hfr34.2 53 (by decide)).trans (rfl)
        have hk34_55 : v34 178 55 = (v 178 55) := (hfr34.2 55 (by decide)).trans (rfl)
        have hk34_2 : v34 178 2 = (v 178 2) := (hfr34.2 2 (by decide)).trans (rfl)
        show wp g X F_m_operand 0 0 37 [(2, 178), (0, r4), (0, r11), (0, r16), (3, 0)] [(0, r34)] v34 ρ Z
        exact r_zret (pc := 37) hX 20 hQ rfl rfl ⟨by omega, by omega⟩ (Nat.le_refl 0) (Nat.le_refl 0) ⟨rfl, rfl, (Fr.rf).tr hfr34 (by decide) (by decide), r34, rfl, (by (repeat (first | rw [up_k (by decide)] | rw [up_s] | rw [up_r (by decide)])); omega), (Or.inl (by omega))⟩
set_option maxHeartbeats 4000000 in
set_option maxRecDepth 100000 in
theorem c_sentence (g : Gp) (v ρ : Mv) (Z : Mz) (hG : GM ρ Z)  (hS : SInv (v 180)) (hU : UInv (v 180) (v 187) (v 178 25)) (hl : 0 ≤ v 178 2 ∧ v 178 2 ≤ 940) (hn : inR (v 178 14) ∧ 0 ≤ v 178 11 ∧ v 178 11 ≤ 4) : Ok g 4 0 0 F_m_sentence [(2, 178)] v ρ Z (fun o v' ρ' Z' => ρ = ρ' ∧ Z = Z' ∧ Fr [180, 182, 205] [0, 2, 3, 4, 5, 11, 12, 13, 14, 15, 16, 17, 51, 52, 53, 54, 55] v v' ∧ ∃ r : Int, o = some (0, r) ∧ (SInv (v' 180)) ∧ (UInv (v' 180) (v' 187) (v' 178 25)) ∧ (inR (v' 178 14) ∧ 0 ≤ v' 178 11 ∧ v' 178 11 ≤ 4 ∧ v' 178 2 = 0)) := by
  refine Ok.of mo_m_sentence (Nat.le_of_ble_eq_true rfl) ?_
  intro X hX hRm hxn hQ
  show wp g X F_m_sentence 0 0 0 [(2, 178), (3, 0), (3, 0)] [] v ρ Z
  refine r_aload_n (pc := 0) hX 0 rfl rfl ?_
  refine r_iconst (pc := 1) hX 1 rfl ?_
  refine r_putI (pc := 2) hX 2 rfl fl_X12_1 rfl (fun _ h => by cases h; rfl) hG.1 (by decide) ?_
  refine r_aload_n (pc := 5) hX 3 rfl rfl ?_
  refine r_sipush (pc := 6) hX 4 rfl (by decide) ?_
  refine r_callV (as := [(0, 200)]) (st := []) (K := 12) (pc := 9) hX 5 rfl mo_m_taken ml_X12_266 im_m_taken se_m_taken (c_taken g (up v 178 0 0) ρ Z hG (200) ) rfl rfl rfl hG.1 (by rw [hRm]; exact ⟨by decide, by decide⟩) (by rw [hRm]; exact ⟨by decide, by decide⟩) (Nat.le_of_ble_eq_true rfl) (fun o9 v9 ρ9 Z9 hq9 _ => ?_)
  obtain ⟨rfl, rfl, hfr9, rfl, hq9⟩ := hq9
  try simp only [up_f (show (180 : Int) ≠ 178 by decide), up_k (show (2 : Int) ≠ 0 by decide)] at hq9
  have hSInv_9 : SInv (v9 180) := by rw [hfr9.1 180 (by decide) (by decide), up_f (by decide)]; exact hS
  have hk9_11 : v9 178 11 = (v 178 11) := (hfr9.2 11 (by decide)).trans ((up_k (by decide)).trans (rfl))
  have hk9_14 : v9 178 14 = (v 178 14) := (hfr9.2 14 (by decide)).trans ((up_k (by decide)).trans (rfl))
  have hk9_25 : v9 178 25 = (v 178 25) := (hfr9.2 25 (by decide)).trans ((up_k (by decide)).trans (rfl))
  have hk9_51 : v9 178 51 = (v 178 51) := (hfr9.2 51 (by decide)).trans ((up_k (by decide)).trans (rfl))
  have hk9_52 : v9 178 52 = (v 178 52) := (hfr9.2 52 (by decide)).trans ((up_k (by decide)).trans (rfl))
  have hk9_53 : v9 178 53 = (v 178 53) := (hfr9.2 53 (by decide)).trans ((up_k (by decide)).trans (rfl))
  have hk9_55 : v9 178 55 = (v 178 55) := (hfr9.2 55 (by decide)).trans ((up_k (by decide)).trans (rfl))
  show wp g X F_m_sentence 0 0 12 [(2, 178), (3, 0), (3, 0)] [] v9 ρ Z
  refine r_aload_n (pc := 12) hX 6 rfl rfl ?_
  refine r_iconst (pc := 13) hX 7 rfl ?_
  refine r_putI (pc := 14) hX 8 rfl fl_X12_207 rfl (fun _ h => by cases h; rfl) hG.1 (by decide) ?_
  refine r_aload_n (pc := 17) hX 9 rfl rfl ?_
  refine r_iconst (pc := 18) hX 10 rfl ?_
  refine r_putI (pc := 19) hX 11 rfl fl_X12_490 rfl (fun _ h => by cases h; rfl) hG.1 (by decide) ?_
  refine r_aload_n (pc := 22) hX 12 rfl rfl ?_
  refine r_iconst (pc := 23) hX 13 rfl ?_
  refine r_putI (pc := 24) hX 14 rfl fl_X12_506 rfl (fun _ h => by cases h; rfl) hG.1 (by decide) ?_
  refine r_aload_n (pc := 27) hX 15 rfl rfl ?_
  refine r_iconst (pc := 28) hX 16 rfl ?_
  refine r_putI (pc := 29) hX 17 rfl fl_X12_493 rfl (fun _ h => by cases h; rfl) hG.1 (by decide) ?_
  refine r_aload_n (pc := 32) hX 18 rfl rfl ?_
  refine r_iconst (pc := 33) hX 19 rfl ?_
  refine r_putI (pc := 34) hX 20 rfl fl_X12_500 rfl (fun _ h => by cases h; rfl) hG.1 (by decide) ?_
  refine r_aload_n (pc := 37) hX 21 rfl rfl ?_
  refine r_iconst (pc := 38) hX 22 rfl ?_
  refine r_putZ (pc := 39) hX 23 rfl fl_X12_509 rfl (fun _ h => by cases h; rfl) ⟨by omega, by omega⟩ hG.1 (by decide) ?_
  refine r_aload_n (pc := 42) hX 24 rfl rfl ?_
  refine r_callV (as := []) (st := []) (K := 12) (pc := 43) hX 25 rfl mo_m_go ml_X12_219 im_m_go se_m_go (c_go g (up (up (up (up (up (up v9 178 15 0) 178 51 0) 178 52 0) 178 53 0) 178 54 1) 178 55 0) ρ Z hG  (by (repeat (first | rw [up_k (by decide)] | rw [up_s] | rw [up_r (by decide)])); omega)) rfl rfl rfl hG.1 (by rw [hRm]; exact ⟨by decide, by decide⟩) (by rw [hRm]; exact ⟨by decide, by decide⟩) (Nat.le_of_ble_eq_true rfl) (fun o43 v43 ρ43 Z43 hq43 _ => ?_)
  obtain ⟨rfl, rfl, hfr43, rfl, hq43⟩ := hq43
  try simp only [up_f (show (180 : Int) ≠ 178 by decide), up_k (show (3 : Int) ≠ 15 by decide), up_k (show (3 : Int) ≠ 51 by decide), up_k (show (3 : Int) ≠ 52 by decide), up_k (show (3 : Int) ≠ 53 by decide), up_k (show (3 : Int) ≠ 54 by decide), up_k (show (3 : Int) ≠ 55 by decide), up_k (show (4 : Int) ≠ 15 by decide), up_k (show (4 : Int) ≠ 51 by decide), up_k (show (4 : Int) ≠ 52 by decide), up_k (show (4 : Int) ≠ 53 by decide), up_k (show (4 : Int) ≠ 54 by decide), up_k (show (4 : Int) ≠ 55 by decide)] at hq43
  have hSInv_43 : SInv (v43 180) := by rw [hfr43.1 180 (by decide) (by decide), up_f (by decide), up_f (by decide), up_f (by decide), up_f (by decide), up_f (by decide), up_f (by decide)]; exact hSInv_9
  have hk43_3 : v43 178 3 = (v9 178 3) := (hfr43.2 3 (by decide)).trans ((up_k (by decide)).trans ((up_k (by decide)).trans ((up_k (by decide)).trans ((up_k (by decide)).trans ((up_k (by decide)).trans ((up_k (by decide)).trans (rfl)))))))
  have hk43_5 : v43 178 5 = (v9 178 5) := (hfr43.2 5 (by decide)).trans ((up_k (by decide)).trans ((up_k (by decide)).trans ((up_k (by decide)).trans ((up_k (by decide)).trans ((up_k (by decide)).trans ((up_k (by decide)).trans (rfl)))))))
  have hk43_25 : v43 178 25 = (v9 178 25) := (hfr43.2 25 (by decide)).trans ((up_k (by decide)).trans ((up_k (by decide)).trans ((up_k (by decide)).trans ((up_k (by decide)).trans ((up_k (by decide)).trans ((up_k (by decide)).trans (rfl)))))))
  have hk43_51 : v43 178 51 = 0 := (hfr43.2 51 (by decide)).trans ((up_k (by decide)).trans ((up_k (by decide)).trans ((up_k (by decide)).trans ((up_k (by decide)).trans (up_s _ _ _ _)))))
  have hk43_52 : v43 178 52 = 0 := (hfr43.2 52 (by decide)).trans ((up_k (by decide)).trans ((up_k (by decide)).trans ((up_k (by decide)).trans (up_s _ _ _ _))))
  have hk43_53 : v43 178 53 = 0 := (hfr43.2 53 (by decide)).trans ((up_k (by decide)).trans ((up_k (by decide)).trans (up_s _ _ _ _)))
  have hk43_55 : v43 178 55 = 0 := (hfr43.2 55 (by decide)).trans (up_s _ _ _ _)
  have hk43_2 : v43 178 2 = (v9 178 2) := (hfr43.2 2 (by decide)).trans ((up_k (by decide)).trans ((up_k (by decide)).trans ((up_k (by decide)).trans ((up_k (by decide)).trans ((up_k (by decide)).trans ((up_k (by decide)).trans (rfl)))))))
  show wp g X F_m_sentence 0 0 46 [(2, 178), (3, 0), (3, 0)] [] v43 ρ Z
  refine r_iconst (pc := 46) hX 26 rfl ?_
  refine r_istore_n (ls' := [(2, 178), (0, 1), (3, 0)]) (pc := 47) hX 27 rfl (by decide) rfl ?_
  have L48 : ∀ (n48 : Nat) (ok : Int) (v48 : Mv) , (Fr [180, 182, 205] [0, 2, 3, 4, 5, 11, 12, 13, 14, 15, 16, 17, 51, 52, 53, 54, 55] v v48) → (0 ≤ v48 178 4 ∧ v48 178 4 ≤ v48 178 3 ∧ v48 178 3 ≤ 940 ∧ 0 ≤ v48 178 11 ∧ v48 178 11 ≤ 4 ∧ inR (v48 178 5) ∧ inR (v48 178 14)) → (SnI (v48 182) (v48 205) (v48 178 51) (v48 178 53) (v48 178 52) (v48 178 55)) → (v48 180 = v 180) → (v48 178 2 = 0) → (0 ≤ ok ∧ ok ≤ 1) → (2 * (940 - v48 178 4) + ok + min (min 1 (v48 178 11)) (4 - v48 178 11)).toNat < n48 → wp g X F_m_sentence 0 0 48 [(2, 178), (0, ok), (3, 0)] [] v48 ρ Z := by
    intro n48
    induction n48 with
    | zero => intro ok v48 hfr48 il isn e180 e2 iok hme48; exact absurd hme48 (Nat.not_lt_zero _)
    | succ n48 ih48 =>
      intro ok v48 hfr48 il isn e180 e2 iok hme48
      have in_ := isn.nums
      have eu48 : v48 187 = v 187 := hfr48.1 187 (by decide) (by decide)
      have e25 : v48 178 25 = v 178 25 := hfr48.2 25 (by decide)
      refine r_iload_n (pc := 48) hX 28 rfl rfl ?_
      first | refine r_if_eq (pc := 49) hX 29 (tgt := 132) rfl (by decide) (⟨by omega, by omega⟩) (fun h49 => ?_) (fun h49 => ?_) | refine r_if_eq_any (pc := 49) hX 29 (tgt := 132) rfl (by decide) ?_ ?_
      · refine t_getR (pc := 132) hX 71 rfl rfl rfl fl_X12_33 rfl hG.1 (a_s hG).1 ?_
        refine r_bipush (pc := 136) hX 73 rfl (by decide) ?_
        refine t_getI (y := (v48 178 51)) (pc := 138) hX 74 rfl rfl rfl fl_X12_490 rfl hG.1 (rfl) ?_
        refine e_iast (pc := 142) hX 76 rfl (a_s hG).2.1 (a_s hG).2.2 (by decide) (by omega) (by omega) ?_
        refine r_iconst (pc := 143) hX 77 rfl ?_
        refine r_istore_n (ls' := [(2, 178), (0, ok), (0, 0)]) (pc := 144) hX 78 rfl (by decide) rfl ?_
        have L145 : ∀ (n145 : Nat) (i : Int) (v145 : Mv) , (Fr [180, 182, 205] [0, 2, 3, 4, 5, 11, 12, 13, 14, 15, 16, 17, 51, 52, 53, 54, 55] v v145) → (0 ≤ i ∧ i ≤ 3 * v145 178 51) → (SnI (v145 182) (v145 205) (v145 178 51) (v145 178 53) (v145 178 52) (v145 178 55)) → (0 ≤ v145 178 11 ∧ v145 178 11 ≤ 4 ∧ inR (v145 178 14) ∧ v145 178 2 = 0) → (∀ k, k < 57 → v145 180 k = v 180 k) → (v145 180 57 = v145 178 51) → (∀ k, 0 ≤ k → k < i → v145 180 (58 + k) = v145 182 k) → (3 * v145 178 51 - i).toNat < n145 → wp g X F_m_sentence 0 0 145 [(2, 178), (0, ok), (0, i)] [] v145 ρ Z := by
          intro n145
          induction n145 with
          | zero => intro i v145 hfr145 ii isn jl ia ib ic hme145; exact absurd hme145 (Nat.not_lt_zero _)
          | succ n145 ih145 =>
            intro i v145 hfr145 ii isn jl ia ib ic hme145
            have in145 := isn.nums
            refine r_iload_n (pc := 145) hX 79 rfl rfl ?_
            refine r_iconst (pc := 146) hX 80 rfl ?_
            refine t_getI (y := (v145 178 51)) (pc := 147) hX 81 rfl rfl rfl fl_X12_490 rfl hG.1 (rfl) ?_
            refine r_imul (pc := 151) hX 83 rfl ?_
            first | refine r_icmp_ge (pc := 152) hX 84 (tgt := 176) rfl (by decide) (⟨by omega, by omega⟩) (⟨by omega, by omega⟩) (fun h152 => ?_) (fun h152 => ?_) | refine r_icmp_ge_any (pc := 152) hX 84 (tgt := 176) rfl (by decide) ?_ ?_
            · refine t_getI (y := (v145 178 52)) (pc := 176) hX 97 rfl rfl rfl fl_X12_506 rfl hG.1 (rfl) ?_
              exact r_iret (pc := 180) hX 99 hQ rfl rfl (Nat.le_refl 0) (Nat.le_refl 0) ⟨rfl, rfl, hfr145, (v145 178 52), rfl, (hS.said ia (isn.cinv ib (fun k a b => ic k a (by omega)))), (by rw [hfr145.1 187 (by decide) (by decide), hfr145.2 25 (by decide)]; exact hU.cg57 hS ia), (by omega)⟩
            · refine t_getR (pc := 155) hX 85 rfl rfl rfl fl_X12_33 rfl hG.1 (a_s hG).1 ?_
              refine r_bipush (pc := 159) hX 87 rfl (by decide) ?_
              refine r_iload_n (pc := 161) hX 88 rfl rfl ?_
              refine r_iadd (pc := 162) hX 89 rfl ?_
              refine t_getR (pc := 163) hX 90 rfl rfl rfl fl_X12_40 rfl hG.1 (a_read hG).1 ?_
              refine r_iload_n (pc := 167) hX 92 rfl rfl ?_
              refine e_iald (y := (v145 182 i)) (pc := 168) hX 93 rfl (a_read hG).2.1 (a_read hG).2.2 (by omega) (by omega) (rfl) ?_
              refine e_iast (pc := 169) hX 94 rfl (a_s hG).2.1 (a_s hG).2.2 (by decide) (by omega) (by omega) ?_
              refine r_iinc (ls' := [(2, 178), (0, ok), (0, (i + 1))]) (pc := 170) hX 95 rfl rfl (by decide) rfl ?_
              refine r_goto (pc := 173) hX 96 (tgt := 145) rfl (by decide) ?_
              exact (ih145 (i + 1) (up v145 180 (58 + i) (v145 182 i)) ((hfr145).arr (r := 180) (by decide) (by decide)) (by (repeat (first | rw [up_k (by decide)] | rw [up_s] | rw [up_r (by decide)])); omega) (by rw [up_f (show (182 : Int) ≠ 180 by decide), up_f (show (205 : Int) ≠ 180 by decide), up_f (show (178 : Int) ≠ 180 by decide)]; exact isn) (by (repeat (first | rw [up_k (by decide)] | rw [up_s] | rw [up_r (by decide)])); omega) (fun k hk => by rw [up_k (by omega)]; exact ia k hk) (by rw [up_k (by omega), up_r (by decide)]; exact ib) (fun k a b => by
          rw [up_f (show (182 : Int) ≠ 180 by decide)]
          by_cases e : k = i
          · subst e; rw [up_s]
          · rw [up_k (by omega)]; exact ic k a (by omega)) (by (repeat (first | rw [up_k (by decide)] | rw [up_s] | rw [up_r (by decide)])); omega))
        exact (L145 _ 0 (up v48 180 57 (v48 178 51)) ((hfr48).arr (r := 180) (by decide) (by decide)) (by (repeat (first | rw [up_k (by decide)] | rw [up_s] | rw [up_r (by decide)])); omega) (by rw [up_f (show (182 : Int) ≠ 180 by decide), up_f (show (205 : Int) ≠ 180 by decide), up_f (show (178 : Int) ≠ 180 by decide)]; exact isn) (by (repeat (first | rw [up_k (by decide)] | rw [up_s] | rw [up_r (by decide)])); omega) (fun k hk => by rw [up_k (by omega), e180]) (by rw [up_s, up_r (by decide)]) (fun k a b => by omega) (Nat.lt_succ_self _))
      · refine t_getI (y := (v48 178 55)) (pc := 52) hX 30 rfl rfl rfl fl_X12_509 rfl hG.1 (rfl) ?_
        have L101 : wp g X F_m_sentence 0 0 101 [(2, 178), (0, ok), (3, 0)] [] v48 ρ Z := by
          refine t_getI (y := (v48 178 55)) (pc := 101) hX 56 rfl rfl rfl fl_X12_509 rfl hG.1 (rfl) ?_
          first | refine r_if_eq (pc := 105) hX 58 (tgt := 118) rfl (by decide) (⟨by omega, by omega⟩) (fun h105 => ?_) (fun h105 => ?_) | refine r_if_eq_any (pc := 105) hX 58 (tgt := 118) rfl (by decide) ?_ ?_
          · refine r_aload_n (pc := 118) hX 63 rfl rfl ?_
            refine r_callV (as := []) (st := []) (K := 12) (pc := 119) hX 64 rfl mo_m_operand ml_X12_520 im_m_operand se_m_operand (c_operand g v48 ρ Z hG  (by (repeat (first | rw [up_k (by decide)] | rw [up_s] | rw [up_r (by decide)])); omega) (by rw [e180]; exact hS) (by have z := isn; rw [show v48 178 55 = 0 by omega] at z; exact z) (by omega)) rfl rfl rfl hG.1 (by rw [hRm]; exact ⟨by decide, by decide⟩) (by rw [hRm]; exact ⟨by decide, by decide⟩) (Nat.le_of_ble_eq_true rfl) (fun o119 v119 ρ119 Z119 hq119 _ => ?_)
            obtain ⟨rfl, rfl, hfr119, r119, rfl, hq119⟩ := hq119
            have hk119_3 : v119 178 3 = (v48 178 3) := (hfr119.2 3 (by decide)).trans (rfl)
            have hk119_5 : v119 178 5 = (v48 178 5) := (hfr119.2 5 (by decide)).trans (rfl)
            have hk119_25 : v119 178 25 = (v48 178 25) := (hfr119.2 25 (by decide)).trans (rfl)
            have hk119_2 : v119 178 2 = (v48 178 2) := (hfr119.2 2 (by decide)).trans (rfl)
            show wp g X F_m_sentence 0 0 122 [(2, 178), (0, ok), (3, 0)] [(0, r119)] v119 ρ Z
            have hB119 : r119 ≠ 0 → SnI (v119 182) (v119 205) (v119 178 51) (v119 178 53) (v119 178 52) (v119 178 55) := fun b => by
              rcases hq119.2 with c | ⟨-, c, -⟩
              · exact absurd c b
              · exact c
            have hG119 : r119 = 0 ∨ r119 = 1 ∧ (v48 178 11 = 1 ∨ v48 178 11 = 3) ∧ (v48 178 4 < v119 178 4 ∨ v119 178 11 = 0 ∨ v119 178 11 = 4) := by
              rcases hq119.2 with c | ⟨a, -, d, c⟩
              · exact Or.inl c
              · exact Or.inr ⟨a, d, c⟩
            replace hq119 := hq119.1
            first | refine r_if_ne (pc := 122) hX 65 (tgt := 48) rfl (by decide) (⟨by omega, by omega⟩) (fun h122 => ?_) (fun h122 => ?_) | refine r_if_ne_any (pc := 122) hX 65 (tgt := 48) rfl (by decide) ?_ ?_
            · exact (ih48 ok v119 ((hfr48).tr hfr119 (by decide) (by decide)) (by omega) (by first | exact hA73 | exact hB109 (by omega) | exact hB119 (by omega)) (by first | (rw [hfr73.1 180 (by decide) (by decide), hfr67.1 180 (by decide) (by decide)]; exact e180) | (rw [hfr109.1 180 (by decide) (by decide)]; exact e180) | (rw [hfr119.1 180 (by decide) (by decide)]; exact e180)) (by omega) (by omega) (by omega))
            · refine r_iconst (pc := 125) hX 66 rfl ?_
              refine t_getI (y := (v119 178 16)) (pc := 126) hX 67 rfl rfl rfl fl_X12_210 rfl hG.1 (rfl) ?_
              refine r_isub (pc := 130) hX 69 rfl ?_
              exact r_iret (pc := 131) hX 70 hQ rfl rfl (Nat.le_refl 0) (Nat.le_refl 0) ⟨rfl, rfl, (hfr48).tr hfr119 (by decide) (by decide), ((-1) - (v119 178 16)), rfl, (by first | (rw [hfr109.1 180 (by decide) (by decide), e180]; exact hS) | (rw [hfr119.1 180 (by decide) (by decide), e180]; exact hS)), (by first | (rw [hfr109.1 180 (by decide) (by decide), e180, hfr109.1 187 (by decide) (by decide), eu48, hk109_25, e25]; exact hU) | (rw [hfr119.1 180 (by decide) (by decide), e180, hfr119.1 187 (by decide) (by decide), eu48, hk119_25, e25]; exact hU)), (by omega)⟩
          · refine r_aload_n (pc := 108) hX 59 rfl rfl ?_
            refine r_callV (as := []) (st := []) (K := 12) (pc := 109) hX 60 rfl mo_m_behind ml_X12_518 im_m_behind se_m_behind (c_behind g v48 ρ Z hG  (by (repeat (first | rw [up_k (by decide)] | rw [up_s] | rw [up_r (by decide)])); omega) (by have z := isn; rw [show v48 178 55 = 1 by omega] at z; exact z) (by omega)) rfl rfl rfl hG.1 (by rw [hRm]; exact ⟨by decide, by decide⟩) (by rw [hRm]; exact ⟨by decide, by decide⟩) (Nat.le_of_ble_eq_true rfl) (fun o109 v109 ρ109 Z109 hq109 _ => ?_)
            obtain ⟨rfl, rfl, hfr109, r109, rfl, hq109⟩ := hq109
            have hk109_3 : v109 178 3 = (v48 178 3) := (hfr109.2 3 (by decide)).trans (rfl)
            have hk109_5 : v109 178 5 = (v48 178 5) := (hfr109.2 5 (by decide)).trans (rfl)
            have hk109_25 : v109 178 25 = (v48 178 25) := (hfr109.2 25 (by decide)).trans (rfl)
            have hk109_52 : v109 178 52 = (v48 178 52) := (hfr109.2 52 (by decide)).trans (rfl)
            have hk109_2 : v109 178 2 = (v48 178 2) := (hfr109.2 2 (by decide)).trans (rfl)
            show wp g X F_m_sentence 0 0 112 [(2, 178), (0, ok), (3, 0)] [(0, r109)] v109 ρ Z
            have hB109 : r109 ≠ 0 → SnI (v109 182) (v109 205) (v109 178 51) (v109 178 53) (v109 178 52) (v109 178 55) := fun b => by
              rcases hq109.2 with c | ⟨-, c, -⟩
              · exact absurd c b
              · exact c
            have hG109 : r109 = 0 ∨ r109 = 1 ∧ (v48 178 11 = 1 ∨ v48 178 11 = 3) ∧ (v48 178 4 < v109 178 4 ∨ v109 178 11 = 0 ∨ v109 178 11 = 4) := by
              rcases hq109.2 with c | ⟨a, -, d, c⟩
              · exact Or.inl c
              · exact Or.inr ⟨a, d, c⟩
            replace hq109 := hq109.1
            first | refine r_if_ne (pc := 112) hX 61 (tgt := 48) rfl (by decide) (⟨by omega, by omega⟩) (fun h112 => ?_) (fun h112 => ?_) | refine r_if_ne_any (pc := 112) hX 61 (tgt := 48) rfl (by decide) ?_ ?_
            · exact (ih48 ok v109 ((hfr48).tr hfr109 (by decide) (by decide)) (by omega) (by first | exact hA73 | exact hB109 (by omega) | exact hB119 (by omega)) (by first | (rw [hfr73.1 180 (by decide) (by decide), hfr67.1 180 (by decide) (by decide)]; exact e180) | (rw [hfr109.1 180 (by decide) (by decide)]; exact e180) | (rw [hfr119.1 180 (by decide) (by decide)]; exact e180)) (by omega) (by omega) (by omega))
            · refine r_goto (pc := 115) hX 62 (tgt := 125) rfl (by decide) ?_
              refine r_iconst (pc := 125) hX 66 rfl ?_
              refine t_getI (y := (v109 178 16)) (pc := 126) hX 67 rfl rfl rfl fl_X12_210 rfl hG.1 (rfl) ?_
              refine r_isub (pc := 130) hX 69 rfl ?_
              exact r_iret (pc := 131) hX 70 hQ rfl rfl (Nat.le_refl 0) (Nat.le_refl 0) ⟨rfl, rfl, (hfr48).tr hfr109 (by decide) (by decide), ((-1) - (v109 178 16)), rfl, (by first | (rw [hfr109.1 180 (by decide) (by decide), e180]; exact hS) | (rw [hfr119.1 180 (by decide) (by decide), e180]; exact hS)), (by first | (rw [hfr109.1 180 (by decide) (by decide), e180, hfr109.1 187 (by decide) (by decide), eu48, hk109_25, e25]; exact hU) | (rw [hfr119.1 180 (by decide) (by decide), e180, hfr119.1 187 (by decide) (by decide), eu48, hk119_25, e25]; exact hU)), (by omega)⟩
        first | refine r_if_eq (pc := 56) hX 32 (tgt := 101) rfl (by decide) (⟨by omega, by omega⟩) (fun h56 => ?_) (fun h56 => ?_) | refine r_if_eq_any (pc := 56) hX 32 (tgt := 101) rfl (by decide) ?_ ?_
        · exact (L101   )
        · refine t_getI (y := (v48 178 11)) (pc := 59) hX 33 rfl rfl rfl fl_X12_190 rfl hG.1 (rfl) ?_
          first | refine r_if_ne (pc := 63) hX 35 (tgt := 101) rfl (by decide) (⟨by omega, by omega⟩) (fun h63 => ?_) (fun h63 => ?_) | refine r_if_ne_any (pc := 63) hX 35 (tgt := 101) rfl (by decide) ?_ ?_
          · exact (L101   )
          · refine r_aload_n (pc := 66) hX 36 rfl rfl ?_
            refine r_callV (as := []) (st := []) (K := 12) (pc := 67) hX 37 rfl mo_m_nots ml_X12_512 im_m_nots se_m_nots (c_nots g v48 ρ Z hG  (by have z := isn; rw [show v48 178 55 = 1 by omega] at z; exact z)) rfl rfl rfl hG.1 (by rw [hRm]; exact ⟨by decide, by decide⟩) (by rw [hRm]; exact ⟨by decide, by decide⟩) (Nat.le_of_ble_eq_true rfl) (fun o67 v67 ρ67 Z67 hq67 _ => ?_)
            obtain ⟨rfl, rfl, hfr67, rfl, hq67⟩ := hq67
            have hk67_3 : v67 178 3 = (v48 178 3) := (hfr67.2 3 (by decide)).trans (rfl)
            have hk67_4 : v67 178 4 = (v48 178 4) := (hfr67.2 4 (by decide)).trans (rfl)
            have hk67_5 : v67 178 5 = (v48 178 5) := (hfr67.2 5 (by decide)).trans (rfl)
            have hk67_11 : v67 178 11 = (v48 178 11) := (hfr67.2 11 (by decide)).trans (rfl)
            have hk67_14 : v67 178 14 = (v48 178 14) := (hfr67.2 14 (by decide)).trans (rfl)
            have hk67_25 : v67 178 25 = (v48 178 25) := (hfr67.2 25 (by decide)).trans (rfl)
            have hk67_52 : v67 178 52 = (v48 178 52) := (hfr67.2 52 (by decide)).trans (rfl)
            have hk67_55 : v67 178 55 = (v48 178 55) := (hfr67.2 55 (by decide)).trans (rfl)
            have hk67_2 : v67 178 2 = (v48 178 2) := (hfr67.2 2 (by decide)).trans (rfl)
            show wp g X F_m_sentence 0 0 70 [(2, 178), (0, ok), (3, 0)] [] v67 ρ Z
            have et67 : v67 205 = v48 205 := hfr67.1 205 (by decide) (by decide)
            rw [← et67, ← hk67_52] at hq67
            refine r_aload_n (pc := 70) hX 38 rfl rfl ?_
            refine r_bipush (pc := 71) hX 39 rfl (by decide) ?_
            refine r_callV (as := [(0, 22)]) (st := []) (K := 12) (pc := 73) hX 40 rfl mo_m_joins ml_X12_515 im_m_joins se_m_joins (c_joins g v67 ρ Z hG (22) (by omega) (hq67)) rfl rfl rfl hG.1 (by rw [hRm]; exact ⟨by decide, by decide⟩) (by rw [hRm]; exact ⟨by decide, by decide⟩) (Nat.le_of_ble_eq_true rfl) (fun o73 v73 ρ73 Z73 hq73 _ => ?_)
            obtain ⟨rfl, rfl, hfr73, rfl, hq73⟩ := hq73
            have hk73_3 : v73 178 3 = (v67 178 3) := (hfr73.2 3 (by decide)).trans (rfl)
            have hk73_4 : v73 178 4 = (v67 178 4) := (hfr73.2 4 (by decide)).trans (rfl)
            have hk73_5 : v73 178 5 = (v67 178 5) := (hfr73.2 5 (by decide)).trans (rfl)
            have hk73_11 : v73 178 11 = (v67 178 11) := (hfr73.2 11 (by decide)).trans (rfl)
            have hk73_14 : v73 178 14 = (v67 178 14) := (hfr73.2 14 (by decide)).trans (rfl)
            have hk73_25 : v73 178 25 = (v67 178 25) := (hfr73.2 25 (by decide)).trans (rfl)
            have hk73_52 : v73 178 52 = (v67 178 52) := (hfr73.2 52 (by decide)).trans (rfl)
            have hk73_55 : v73 178 55 = (v67 178 55) := (hfr73.2 55 (by decide)).trans (rfl)
            have hk73_2 : v73 178 2 = (v67 178 2) := (hfr73.2 2 (by decide)).trans (rfl)
            show wp g X F_m_sentence 0 0 76 [(2, 178), (0, ok), (3, 0)] [] v73 ρ Z
            have et73 : v73 205 = v67 205 := hfr73.1 205 (by decide) (by decide)
            have hA73 := hq73.1
            clear hq73
            rw [← et73, ← hk73_52, ← show v73 178 55 = 1 by omega] at hA73
            refine t_getI (y := (v73 178 53)) (pc := 76) hX 41 rfl rfl rfl fl_X12_493 rfl hG.1 (rfl) ?_
            first | refine r_if_le (pc := 80) hX 43 (tgt := 96) rfl (by decide) (⟨by omega, by omega⟩) (fun h80 => ?_) (fun h80 => ?_) | refine r_if_le_any (pc := 80) hX 43 (tgt := 96) rfl (by decide) ?_ ?_
            · refine r_iconst (pc := 96) hX 53 rfl ?_
              refine r_istore_n (ls' := [(2, 178), (0, 0), (3, 0)]) (pc := 97) hX 54 rfl (by decide) rfl ?_
              refine r_goto (pc := 98) hX 55 (tgt := 48) rfl (by decide) ?_
              exact (ih48 0 v73 (((hfr48).tr hfr67 (by decide) (by decide)).tr hfr73 (by decide) (by decide)) (by omega) (by first | exact hA73 | exact hB109 (by omega) | exact hB119 (by omega)) (by first | (rw [hfr73.1 180 (by decide) (by decide), hfr67.1 180 (by decide) (by decide)]; exact e180) | (rw [hfr109.1 180 (by decide) (by decide)]; exact e180) | (rw [hfr119.1 180 (by decide) (by decide)]; exact e180)) (by omega) (by omega) (by omega))
            · refine r_aload_n (pc := 83) hX 44 rfl rfl ?_
              refine r_iconst (pc := 84) hX 45 rfl ?_
              refine r_callV (as := [(0, 1)]) (st := []) (K := 12) (pc := 85) hX 46 rfl mo_m_bad ml_X12_216 im_m_bad se_m_bad (c_bad g v73 ρ Z hG (1) ) rfl rfl rfl hG.1 (by rw [hRm]; exact ⟨by decide, by decide⟩) (by rw [hRm]; exact ⟨by decide, by decide⟩) (Nat.le_of_ble_eq_true rfl) (fun o85 v85 ρ85 Z85 hq85 _ => ?_)
              obtain ⟨rfl, rfl, hfr85, r85, rfl, hq85⟩ := hq85
              have hk85_3 : v85 178 3 = (v73 178 3) := (hfr85.2 3 (by decide)).trans (rfl)
              have hk85_4 : v85 178 4 = (v73 178 4) := (hfr85.2 4 (by decide)).trans (rfl)
              have hk85_5 : v85 178 5 = (v73 178 5) := (hfr85.2 5 (by decide)).trans (rfl)
              have hk85_11 : v85 178 11 = (v73 178 11) := (hfr85.2 11 (by decide)).trans (rfl)
              have hk85_14 : v85 178 14 = (v73 178 14) := (hfr85.2 14 (by decide)).trans (rfl)
              have hk85_25 : v85 178 25 = (v73 178 25) := (hfr85.2 25 (by decide)).trans (rfl)
              have hk85_51 : v85 178 51 = (v73 178 51) := (hfr85.2 51 (by decide)).trans (rfl)
              have hk85_52 : v85 178 52 = (v73 178 52) := (hfr85.2 52 (by decide)).trans (rfl)
              have hk85_53 : v85 178 53 = (v73 178 53) := (hfr85.2 53 (by decide)).trans (rfl)
              have hk85_55 : v85 178 55 = (v73 178 55) := (hfr85.2 55 (by decide)).trans (rfl)
              have hk85_2 : v85 178 2 = (v73 178 2) := (hfr85.2 2 (by decide)).trans (rfl)
              show wp g X F_m_sentence 0 0 88 [(2, 178), (0, ok), (3, 0)] [(0, r85)] v85 ρ Z
              refine r_pop (pc := 88) hX 47 rfl (show (0 : Nat) ≠ 1 by decide) ?_
              refine r_iconst (pc := 89) hX 48 rfl ?_
              refine t_getI (y := (v85 178 16)) (pc := 90) hX 49 rfl rfl rfl fl_X12_210 rfl hG.1 (rfl) ?_
              refine r_isub (pc := 94) hX 51 rfl ?_
              exact r_iret (pc := 95) hX 52 hQ rfl rfl (Nat.le_refl 0) (Nat.le_refl 0) ⟨rfl, rfl, (((hfr48).tr hfr67 (by decide) (by decide)).tr hfr73 (by decide) (by decide)).tr hfr85 (by decide) (by decide), ((-1) - (v85 178 16)), rfl, (by rw [hfr85.1 180 (by decide) (by decide), hfr73.1 180 (by decide) (by decide), hfr67.1 180 (by decide) (by decide), e180]; exact hS), (by rw [hfr85.1 180 (by decide) (by decide), hfr73.1 180 (by decide) (by decide), hfr67.1 180 (by decide) (by decide), e180, hfr85.1 187 (by decide) (by decide), hfr73.1 187 (by decide) (by decide), hfr67.1 187 (by decide) (by decide), eu48, hk85_25, hk73_25, hk67_25, e25]; exact hU), (by omega)⟩
  exact (L48 _ 1 v43 ((((((((((Fr.rf).fld (k := 0) (by decide)).tr hfr9 (by decide) (by decide)).fld (k := 15) (by decide)).fld (k := 51) (by decide)).fld (k := 52) (by decide)).fld (k := 53) (by decide)).fld (k := 54) (by decide)).fld (k := 55) (by decide)).tr hfr43 (by decide) (by decide)) (by omega) (by rw [hk43_51, hk43_53, hk43_52, hk43_55]; exact SnI.start) (by rw [hfr43.1 180 (by decide) (by decide)]; (repeat rw [up_f (by decide)]); rw [hfr9.1 180 (by decide) (by decide), up_f (by decide)]) (by omega) (by omega) (Nat.lt_succ_self _))
set_option maxHeartbeats 4000000 in
set_option maxRecDepth 100000 in
theorem c_isLeaf (g : Gp) (v ρ : Mv) (Z : Mz) (hG : GM ρ Z) (q a b c : Int) (hS : SInv (v 180)) (hq : 0 ≤ q ∧ q ≤ 2) : Ok g 5 0 0 F_m_isLeaf [(2, 178), (0, q), (0, a), (0, b), (0, c)] v ρ Z (fun o v' ρ' Z' => ρ = ρ' ∧ Z = Z' ∧ Fr [185, 186] [] v v' ∧ ∃ r : Int, o = some (0, r) ∧ (0 ≤ r ∧ r ≤ 1)) := by
  refine Ok.of mo_m_isLeaf (Nat.le_of_ble_eq_true rfl) ?_
  intro X hX hRm hxn hQ
  show wp g X F_m_isLeaf 0 0 0 [(2, 178), (0, q), (0, a), (0, b), (0, c), (3, 0), (3, 0)] [] v ρ Z
  have hb2 := hS.c2
  refine r_iload_n (pc := 0) hX 0 rfl rfl ?_
  first | refine r_if_ne (pc := 1) hX 1 (tgt := 50) rfl (by decide) (⟨by omega, by omega⟩) (fun h1 => ?_) (fun h1 => ?_) | refine r_if_ne_any (pc := 1) hX 1 (tgt := 50) rfl (by decide) ?_ ?_
  · refine r_iload_n (pc := 50) hX 29 rfl rfl ?_
    refine r_iconst (pc := 51) hX 30 rfl ?_
    first | refine r_icmp_ne (pc := 52) hX 31 (tgt := 69) rfl (by decide) (⟨by omega, by omega⟩) (⟨by omega, by omega⟩) (fun h52 => ?_) (fun h52 => ?_) | refine r_icmp_ne_any (pc := 52) hX 31 (tgt := 69) rfl (by decide) ?_ ?_
    · refine r_iload_n (pc := 69) hX 40 rfl rfl ?_
      refine r_iconst (pc := 70) hX 41 rfl ?_
      first | refine r_icmp_ne (pc := 71) hX 42 (tgt := 93) rfl (by decide) (⟨by omega, by omega⟩) (⟨by omega, by omega⟩) (fun h71 => ?_) (fun h71 => ?_) | refine r_icmp_ne_any (pc := 71) hX 42 (tgt := 93) rfl (by decide) ?_ ?_
      · refine r_iload_n (pc := 93) hX 55 rfl rfl ?_
        refine r_iconst (pc := 94) hX 56 rfl ?_
        first | refine r_icmp_ne (pc := 95) hX 57 (tgt := 120) rfl (by decide) (⟨by omega, by omega⟩) (⟨by omega, by omega⟩) (fun h95 => ?_) (fun h95 => ?_) | refine r_icmp_ne_any (pc := 95) hX 57 (tgt := 120) rfl (by decide) ?_ ?_
        · refine t_getR (pc := 120) hX 72 rfl rfl rfl fl_X12_33 rfl hG.1 (a_s hG).1 ?_
          refine r_iconst (pc := 124) hX 74 rfl ?_
          refine e_iald (y := (v 180 3)) (pc := 125) hX 75 rfl (a_s hG).2.1 (a_s hG).2.2 (by omega) (by omega) (rfl) ?_
          have hb125 := hS.c3
          refine t_getR (pc := 126) hX 76 rfl rfl rfl fl_X12_33 rfl hG.1 (a_s hG).1 ?_
          refine r_bipush (pc := 130) hX 78 rfl (by decide) ?_
          refine r_iload_n (pc := 132) hX 79 rfl rfl ?_
          refine r_iadd (pc := 133) hX 80 rfl ?_
          refine e_iald (y := (v 180 (42 + q))) (pc := 134) hX 81 rfl (a_s hG).2.1 (a_s hG).2.2 (by omega) (by omega) (rfl) ?_
          have hb134 := hS.c42 q (by omega) (by omega)
          have L158 : ∀ (x5 : Int) , wp g X F_m_isLeaf 0 0 158 [(2, 178), (0, q), (0, a), (0, b), (0, c), (3, 0), (3, 0)] [(0, x5)] v ρ Z := by
            intro x5
            refine r_istore (ls' := [(2, 178), (0, q), (0, a), (0, b), (0, c), (0, x5), (3, 0)]) (pc := 158) hX 96 rfl (by decide) rfl ?_
            refine r_iload_n (pc := 160) hX 97 rfl rfl ?_
            refine r_iconst (pc := 161) hX 98 rfl ?_
            have L206 : ∀ (y6 : Int) , wp g X F_m_isLeaf 0 0 206 [(2, 178), (0, q), (0, a), (0, b), (0, c), (3, 0), (3, 0)] [(0, y6)] v ρ Z := by
              intro y6
              refine r_istore (ls' := [(2, 178), (0, q), (0, a), (0, b), (0, c), (3, 0), (0, y6)]) (pc := 206) hX 123 rfl (by decide) rfl ?_
              refine r_iload_n (pc := 208) hX 124 rfl rfl ?_
              refine r_bipush (pc := 209) hX 125 rfl (by decide) ?_
              first | refine r_icmp_ne (pc := 211) hX 126 (tgt := 229) rfl (by decide) (⟨by omega, by omega⟩) (⟨by omega, by omega⟩) (fun h211 => ?_) (fun h211 => ?_) | refine r_icmp_ne_any (pc := 211) hX 126 (tgt := 229) rfl (by decide) ?_ ?_
              · refine r_iload_n (pc := 229) hX 134 rfl rfl ?_
                refine r_bipush (pc := 230) hX 135 rfl (by decide) ?_
                first | refine r_icmp_ne (pc := 232) hX 136 (tgt := 250) rfl (by decide) (⟨by omega, by omega⟩) (⟨by omega, by omega⟩) (fun h232 => ?_) (fun h232 => ?_) | refine r_icmp_ne_any (pc := 232) hX 136 (tgt := 250) rfl (by decide) ?_ ?_
                · refine r_iload (pc := 250) hX 144 rfl rfl ?_
                  refine r_iload (pc := 252) hX 145 rfl rfl ?_
                  first | refine r_icmp_le (pc := 254) hX 146 (tgt := 261) rfl (by decide) (⟨by omega, by omega⟩) (⟨by omega, by omega⟩) (fun h254 => ?_) (fun h254 => ?_) | refine r_icmp_le_any (pc := 254) hX 146 (tgt := 261) rfl (by decide) ?_ ?_
                  · refine r_iconst (pc := 261) hX 149 rfl ?_
                    exact r_zret (pc := 262) hX 150 hQ rfl rfl ⟨by omega, by omega⟩ (Nat.le_refl 0) (Nat.le_refl 0) ⟨rfl, rfl, Fr.rf, 0, rfl, (by omega)⟩
                  · refine r_iconst (pc := 257) hX 147 rfl ?_
                    refine r_goto (pc := 258) hX 148 (tgt := 262) rfl (by decide) ?_
                    exact r_zret (pc := 262) hX 150 hQ rfl rfl ⟨by omega, by omega⟩ (Nat.le_refl 0) (Nat.le_refl 0) ⟨rfl, rfl, Fr.rf, 1, rfl, (by omega)⟩
                · refine r_iload (pc := 235) hX 137 rfl rfl ?_
                  refine r_iload (pc := 237) hX 138 rfl rfl ?_
                  first | refine r_icmp_ne (pc := 239) hX 139 (tgt := 246) rfl (by decide) (⟨by omega, by omega⟩) (⟨by omega, by omega⟩) (fun h239 => ?_) (fun h239 => ?_) | refine r_icmp_ne_any (pc := 239) hX 139 (tgt := 246) rfl (by decide) ?_ ?_
                  · refine r_iconst (pc := 246) hX 142 rfl ?_
                    refine r_goto (pc := 247) hX 143 (tgt := 262) rfl (by decide) ?_
                    exact r_zret (pc := 262) hX 150 hQ rfl rfl ⟨by omega, by omega⟩ (Nat.le_refl 0) (Nat.le_refl 0) ⟨rfl, rfl, Fr.rf, 0, rfl, (by omega)⟩
                  · refine r_iconst (pc := 242) hX 140 rfl ?_
                    refine r_goto (pc := 243) hX 141 (tgt := 262) rfl (by decide) ?_
                    exact r_zret (pc := 262) hX 150 hQ rfl rfl ⟨by omega, by omega⟩ (Nat.le_refl 0) (Nat.le_refl 0) ⟨rfl, rfl, Fr.rf, 1, rfl, (by omega)⟩
              · refine r_iload (pc := 214) hX 127 rfl rfl ?_
                refine r_iload (pc := 216) hX 128 rfl rfl ?_
                first | refine r_icmp_ge (pc := 218) hX 129 (tgt := 225) rfl (by decide) (⟨by omega, by omega⟩) (⟨by omega, by omega⟩) (fun h218 => ?_) (fun h218 => ?_) | refine r_icmp_ge_any (pc := 218) hX 129 (tgt := 225) rfl (by decide) ?_ ?_
                · refine r_iconst (pc := 225) hX 132 rfl ?_
                  refine r_goto (pc := 226) hX 133 (tgt := 262) rfl (by decide) ?_
                  exact r_zret (pc := 262) hX 150 hQ rfl rfl ⟨by omega, by omega⟩ (Nat.le_refl 0) (Nat.le_refl 0) ⟨rfl, rfl, Fr.rf, 0, rfl, (by omega)⟩
                · refine r_iconst (pc := 221) hX 130 rfl ?_
                  refine r_goto (pc := 222) hX 131 (tgt := 262) rfl (by decide) ?_
                  exact r_zret (pc := 262) hX 150 hQ rfl rfl ⟨by omega, by omega⟩ (Nat.le_refl 0) (Nat.le_refl 0) ⟨rfl, rfl, Fr.rf, 1, rfl, (by omega)⟩
            first | refine r_icmp_ne (pc := 162) hX 99 (tgt := 177) rfl (by decide) (⟨by omega, by omega⟩) (⟨by omega, by omega⟩) (fun h162 => ?_) (fun h162 => ?_) | refine r_icmp_ne_any (pc := 162) hX 99 (tgt := 177) rfl (by decide) ?_ ?_
            · refine r_iload_n (pc := 177) hX 107 rfl rfl ?_
              refine r_iconst (pc := 178) hX 108 rfl ?_
              first | refine r_icmp_ne (pc := 179) hX 109 (tgt := 194) rfl (by decide) (⟨by omega, by omega⟩) (⟨by omega, by omega⟩) (fun h179 => ?_) (fun h179 => ?_) | refine r_icmp_ne_any (pc := 179) hX 109 (tgt := 194) rfl (by decide) ?_ ?_
              · refine r_iload_n (pc := 194) hX 117 rfl rfl ?_
                refine r_bipush (pc := 195) hX 118 rfl (by decide) ?_
                first | refine r_icmp_ne (pc := 197) hX 119 (tgt := 205) rfl (by decide) (⟨by omega, by omega⟩) (⟨by omega, by omega⟩) (fun h197 => ?_) (fun h197 => ?_) | refine r_icmp_ne_any (pc := 197) hX 119 (tgt := 205) rfl (by decide) ?_ ?_
                · refine r_iload_n (pc := 205) hX 122 rfl rfl ?_
                  refine r_wk (ls' := [(2, 178), (0, q), (0, a), (0, b), (0, c), (3, 0), (3, 0)]) ⟨Or.inr rfl, Or.inr rfl, Or.inr rfl, Or.inr rfl, Or.inr rfl, Or.inl rfl, Or.inr rfl, trivial⟩ ?_
                  exact (L206 q  )
                · refine r_iload (pc := 200) hX 120 rfl rfl ?_
                  refine r_goto (pc := 202) hX 121 (tgt := 206) rfl (by decide) ?_
                  refine r_wk (ls' := [(2, 178), (0, q), (0, a), (0, b), (0, c), (3, 0), (3, 0)]) ⟨Or.inr rfl, Or.inr rfl, Or.inr rfl, Or.inr rfl, Or.inr rfl, Or.inl rfl, Or.inr rfl, trivial⟩ ?_
                  exact (L206 x5  )
              · refine t_getR (pc := 182) hX 110 rfl rfl rfl fl_X12_33 rfl hG.1 (a_s hG).1 ?_
                refine r_bipush (pc := 186) hX 112 rfl (by decide) ?_
                refine r_iload_n (pc := 188) hX 113 rfl rfl ?_
                refine r_iadd (pc := 189) hX 114 rfl ?_
                refine e_iald (y := (v 180 (32 + q))) (pc := 190) hX 115 rfl (a_s hG).2.1 (a_s hG).2.2 (by omega) (by omega) (rfl) ?_
                have hb190 := hS.c32 q (by omega) (by omega)
                refine r_goto (pc := 191) hX 116 (tgt := 206) rfl (by decide) ?_
                refine r_wk (ls' := [(2, 178), (0, q), (0, a), (0, b), (0, c), (3, 0), (3, 0)]) ⟨Or.inr rfl, Or.inr rfl, Or.inr rfl, Or.inr rfl, Or.inr rfl, Or.inl rfl, Or.inr rfl, trivial⟩ ?_
                exact (L206 (v 180 (32 + q))  )
            · refine t_getR (pc := 165) hX 100 rfl rfl rfl fl_X12_33 rfl hG.1 (a_s hG).1 ?_
              refine r_bipush (pc := 169) hX 102 rfl (by decide) ?_
              refine r_iload_n (pc := 171) hX 103 rfl rfl ?_
              refine r_iadd (pc := 172) hX 104 rfl ?_
              refine e_iald (y := (v 180 (42 + q))) (pc := 173) hX 105 rfl (a_s hG).2.1 (a_s hG).2.2 (by omega) (by omega) (rfl) ?_
              have hb173 := hS.c42 q (by omega) (by omega)
              refine r_goto (pc := 174) hX 106 (tgt := 206) rfl (by decide) ?_
              refine r_wk (ls' := [(2, 178), (0, q), (0, a), (0, b), (0, c), (3, 0), (3, 0)]) ⟨Or.inr rfl, Or.inr rfl, Or.inr rfl, Or.inr rfl, Or.inr rfl, Or.inl rfl, Or.inr rfl, trivial⟩ ?_
              exact (L206 (v 180 (42 + q))  )
          first | refine r_icmp_le (pc := 135) hX 82 (tgt := 157) rfl (by decide) (⟨by omega, by omega⟩) (⟨by omega, by omega⟩) (fun h135 => ?_) (fun h135 => ?_) | refine r_icmp_le_any (pc := 135) hX 82 (tgt := 157) rfl (by decide) ?_ ?_
          · refine r_iconst (pc := 157) hX 95 rfl ?_
            exact (L158 0  )
          · refine t_getR (pc := 138) hX 83 rfl rfl rfl fl_X12_33 rfl hG.1 (a_s hG).1 ?_
            refine r_iconst (pc := 142) hX 85 rfl ?_
            refine e_iald (y := (v 180 3)) (pc := 143) hX 86 rfl (a_s hG).2.1 (a_s hG).2.2 (by omega) (by omega) (rfl) ?_
            have hb143 := hS.c3
            refine t_getR (pc := 144) hX 87 rfl rfl rfl fl_X12_33 rfl hG.1 (a_s hG).1 ?_
            refine r_bipush (pc := 148) hX 89 rfl (by decide) ?_
            refine r_iload_n (pc := 150) hX 90 rfl rfl ?_
            refine r_iadd (pc := 151) hX 91 rfl ?_
            refine e_iald (y := (v 180 (42 + q))) (pc := 152) hX 92 rfl (a_s hG).2.1 (a_s hG).2.2 (by omega) (by omega) (rfl) ?_
            have hb152 := hS.c42 q (by omega) (by omega)
            refine r_isub (pc := 153) hX 93 rfl ?_
            refine r_goto (pc := 154) hX 94 (tgt := 158) rfl (by decide) ?_
            exact (L158 ((v 180 3) - (v 180 (42 + q)))  )
        · refine t_getR (pc := 98) hX 58 rfl rfl rfl fl_X12_33 rfl hG.1 (a_s hG).1 ?_
          refine r_bipush (pc := 102) hX 60 rfl (by decide) ?_
          refine r_iload_n (pc := 104) hX 61 rfl rfl ?_
          refine r_iadd (pc := 105) hX 62 rfl ?_
          refine e_iald (y := (v 180 (36 + q))) (pc := 106) hX 63 rfl (a_s hG).2.1 (a_s hG).2.2 (by omega) (by omega) (rfl) ?_
          have hb106 := hS.c36 q (by omega) (by omega)
          refine r_iload (pc := 107) hX 64 rfl rfl ?_
          refine r_iconst (pc := 109) hX 65 rfl ?_
          refine r_iadd (pc := 110) hX 66 rfl ?_
          first | refine r_icmp_ne (pc := 111) hX 67 (tgt := 118) rfl (by decide) (⟨by omega, by omega⟩) (⟨by omega, by omega⟩) (fun h111 => ?_) (fun h111 => ?_) | refine r_icmp_ne_any (pc := 111) hX 67 (tgt := 118) rfl (by decide) ?_ ?_
          · refine r_iconst (pc := 118) hX 70 rfl ?_
            exact r_zret (pc := 119) hX 71 hQ rfl rfl ⟨by omega, by omega⟩ (Nat.le_refl 0) (Nat.le_refl 0) ⟨rfl, rfl, Fr.rf, 0, rfl, (by omega)⟩
          · refine r_iconst (pc := 114) hX 68 rfl ?_
            refine r_goto (pc := 115) hX 69 (tgt := 119) rfl (by decide) ?_
            exact r_zret (pc := 119) hX 71 hQ rfl rfl ⟨by omega, by omega⟩ (Nat.le_refl 0) (Nat.le_refl 0) ⟨rfl, rfl, Fr.rf, 1, rfl, (by omega)⟩
      · refine t_getR (pc := 74) hX 43 rfl rfl rfl fl_X12_33 rfl hG.1 (a_s hG).1 ?_
        refine r_bipush (pc := 78) hX 45 rfl (by decide) ?_
        refine r_iload_n (pc := 80) hX 46 rfl rfl ?_
        refine r_iadd (pc := 81) hX 47 rfl ?_
        refine e_iald (y := (v 180 (39 + q))) (pc := 82) hX 48 rfl (a_s hG).2.1 (a_s hG).2.2 (by omega) (by omega) (rfl) ?_
        have hb82 := hS.c39 q (by omega) (by omega)
        refine r_iconst (pc := 83) hX 49 rfl ?_
        first | refine r_icmp_ne (pc := 84) hX 50 (tgt := 91) rfl (by decide) (⟨by omega, by omega⟩) (⟨by omega, by omega⟩) (fun h84 => ?_) (fun h84 => ?_) | refine r_icmp_ne_any (pc := 84) hX 50 (tgt := 91) rfl (by decide) ?_ ?_
        · refine r_iconst (pc := 91) hX 53 rfl ?_
          exact r_zret (pc := 92) hX 54 hQ rfl rfl ⟨by omega, by omega⟩ (Nat.le_refl 0) (Nat.le_refl 0) ⟨rfl, rfl, Fr.rf, 0, rfl, (by omega)⟩
        · refine r_iconst (pc := 87) hX 51 rfl ?_
          refine r_goto (pc := 88) hX 52 (tgt := 92) rfl (by decide) ?_
          exact r_zret (pc := 92) hX 54 hQ rfl rfl ⟨by omega, by omega⟩ (Nat.le_refl 0) (Nat.le_refl 0) ⟨rfl, rfl, Fr.rf, 1, rfl, (by omega)⟩
    · refine r_aload_n (pc := 55) hX 32 rfl rfl ?_
      refine r_callV (as := []) (st := []) (K := 12) (pc := 56) hX 33 rfl mo_m_winner ml_X12_316 im_m_winner se_m_winner (c_winner g v ρ Z hG  (hS)) rfl rfl rfl hG.1 (by rw [hRm]; exact ⟨by decide, by decide⟩) (by rw [hRm]; exact ⟨by decide, by decide⟩) (Nat.le_of_ble_eq_true rfl) (fun o56 v56 ρ56 Z56 hq56 _ => ?_)
      obtain ⟨rfl, rfl, hfr56, r56, rfl, hq56⟩ := hq56
      have hSInv_56 : SInv (v56 180) := by rw [hfr56.1 180 (by decide) (by decide)]; exact hS
      show wp g X F_m_isLeaf 0 0 59 [(2, 178), (0, q), (0, a), (0, b), (0, c), (3, 0), (3, 0)] [(0, r56)] v56 ρ Z
      refine r_iload_n (pc := 59) hX 34 rfl rfl ?_
      first | refine r_icmp_ne (pc := 60) hX 35 (tgt := 67) rfl (by decide) (⟨by omega, by omega⟩) (⟨by omega, by omega⟩) (fun h60 => ?_) (fun h60 => ?_) | refine r_icmp_ne_any (pc := 60) hX 35 (tgt := 67) rfl (by decide) ?_ ?_
      · refine r_iconst (pc := 67) hX 38 rfl ?_
        exact r_zret (pc := 68) hX 39 hQ rfl rfl ⟨by omega, by omega⟩ (Nat.le_refl 0) (Nat.le_refl 0) ⟨rfl, rfl, (Fr.rf).tr hfr56 (by decide) (by decide), 0, rfl, (by omega)⟩
      · refine r_iconst (pc := 63) hX 36 rfl ?_
        refine r_goto (pc := 64) hX 37 (tgt := 68) rfl (by decide) ?_
        exact r_zret (pc := 68) hX 39 hQ rfl rfl ⟨by omega, by omega⟩ (Nat.le_refl 0) (Nat.le_refl 0) ⟨rfl, rfl, (Fr.rf).tr hfr56 (by decide) (by decide), 1, rfl, (by omega)⟩
  · refine r_iconst (pc := 4) hX 2 rfl ?_
    refine r_istore (ls' := [(2, 178), (0, q), (0, a), (0, b), (0, c), (0, 0), (3, 0)]) (pc := 5) hX 3 rfl (by decide) rfl ?_
    have L7 : ∀ (n7 : Nat) (i : Int) , (0 ≤ i ∧ i ≤ v 180 2) → (v 180 2 - i).toNat < n7 → wp g X F_m_isLeaf 0 0 7 [(2, 178), (0, q), (0, a), (0, b), (0, c), (0, i), (3, 0)] [] v ρ Z := by
      intro n7
      induction n7 with
      | zero => intro i ii hme7; exact absurd hme7 (Nat.not_lt_zero _)
      | succ n7 ih7 =>
        intro i ii hme7
        refine r_iload (pc := 7) hX 4 rfl rfl ?_
        refine t_getR (pc := 9) hX 5 rfl rfl rfl fl_X12_33 rfl hG.1 (a_s hG).1 ?_
        refine r_iconst (pc := 13) hX 7 rfl ?_
        refine e_iald (y := (v 180 2)) (pc := 14) hX 8 rfl (a_s hG).2.1 (a_s hG).2.2 (by omega) (by omega) (rfl) ?_
        have hb14 := hS.c2
        first | refine r_icmp_ge (pc := 15) hX 9 (tgt := 48) rfl (by decide) (⟨by omega, by omega⟩) (⟨by omega, by omega⟩) (fun h15 => ?_) (fun h15 => ?_) | refine r_icmp_ge_any (pc := 15) hX 9 (tgt := 48) rfl (by decide) ?_ ?_
        · refine r_iconst (pc := 48) hX 27 rfl ?_
          exact r_zret (pc := 49) hX 28 hQ rfl rfl ⟨by omega, by omega⟩ (Nat.le_refl 0) (Nat.le_refl 0) ⟨rfl, rfl, Fr.rf, 1, rfl, (by omega)⟩
        · refine t_getR (pc := 18) hX 10 rfl rfl rfl fl_X12_33 rfl hG.1 (a_s hG).1 ?_
          refine r_bipush (pc := 22) hX 12 rfl (by decide) ?_
          refine r_iload (pc := 24) hX 13 rfl rfl ?_
          refine r_iadd (pc := 26) hX 14 rfl ?_
          refine e_iald (y := (v 180 (42 + i))) (pc := 27) hX 15 rfl (a_s hG).2.1 (a_s hG).2.2 (by omega) (by omega) (rfl) ?_
          have hb27 := hS.c42 i (by omega) (by omega)
          refine t_getR (pc := 28) hX 16 rfl rfl rfl fl_X12_33 rfl hG.1 (a_s hG).1 ?_
          refine r_bipush (pc := 32) hX 18 rfl (by decide) ?_
          refine r_iload_n (pc := 34) hX 19 rfl rfl ?_
          refine r_iadd (pc := 35) hX 20 rfl ?_
          refine e_iald (y := (v 180 (42 + q))) (pc := 36) hX 21 rfl (a_s hG).2.1 (a_s hG).2.2 (by omega) (by omega) (rfl) ?_
          have hb36 := hS.c42 q (by omega) (by omega)
          first | refine r_icmp_le (pc := 37) hX 22 (tgt := 42) rfl (by decide) (⟨by omega, by omega⟩) (⟨by omega, by omega⟩) (fun h37 => ?_) (fun h37 => ?_) | refine r_icmp_le_any (pc := 37) hX 22 (tgt := 42) rfl (by decide) ?_ ?_
          · refine r_iinc (ls' := [(2, 178), (0, q), (0, a), (0, b), (0, c), (0, (i + 1)), (3, 0)]) (pc := 42) hX 25 rfl rfl (by decide) rfl ?_
            refine r_goto (pc := 45) hX 26 (tgt := 7) rfl (by decide) ?_
            exact (ih7 (i + 1) (by omega) (by omega))
          · refine r_iconst (pc := 40) hX 23 rfl ?_
            exact r_zret (pc := 41) hX 24 hQ rfl rfl ⟨by omega, by omega⟩ (Nat.le_refl 0) (Nat.le_refl 0) ⟨rfl, rfl, Fr.rf, 0, rfl, (by omega)⟩
    exact (L7 _ 0 (by omega) (Nat.lt_succ_self _))
set_option maxHeartbeats 4000000 in
set_option maxRecDepth 100000 in
theorem c_isSaid (g : Gp) (v ρ : Mv) (Z : Mz) (hG : GM ρ Z) (q : Int) (hS : SInv (v 180)) (hq : 0 ≤ q ∧ q ≤ 2) : Ok g 6 0 0 F_m_isSaid [(2, 178), (0, q)] v ρ Z (fun o v' ρ' Z' => ρ = ρ' ∧ Z = Z' ∧ Fr [185, 186, 206] [] v v' ∧ ∃ r : Int, o = some (0, r) ∧ True) := by
  refine Ok.of mo_m_isSaid (Nat.le_of_ble_eq_true rfl) ?_
  intro X hX hRm hxn hQ
  show wp g X F_m_isSaid 0 0 0 [(2, 178), (0, q), (3, 0), (3, 0), (3, 0)] [] v ρ Z
  have hb57 := hS.c57
  refine r_iconst (pc := 0) hX 0 rfl ?_
  refine r_istore_n (ls' := [(2, 178), (0, q), (0, 0), (3, 0), (3, 0)]) (pc := 1) hX 1 rfl (by decide) rfl ?_
  refine r_iconst (pc := 2) hX 2 rfl ?_
  refine r_istore_n (ls' := [(2, 178), (0, q), (0, 0), (0, 0), (3, 0)]) (pc := 3) hX 3 rfl (by decide) rfl ?_
  have L4 : ∀ (n4 : Nat) (d i : Int) (v4 : Mv) , (Fr [185, 186, 206] [] v v4) → (SInv (v4 180)) → (0 ≤ i ∧ i ≤ v 180 57) → (d = dpF (v 180) i.toNat) → (v 180 57 - i).toNat < n4 → wp g X F_m_isSaid 0 0 4 [(2, 178), (0, q), (0, d), (0, i), (3, 0)] [] v4 ρ Z := by
    intro n4
    induction n4 with
    | zero => intro d i v4 hfr4 hSInv_4 ii id hme4; exact absurd hme4 (Nat.not_lt_zero _)
    | succ n4 ih4 =>
      intro d i v4 hfr4 hSInv_4 ii id hme4
      have es4 : v4 180 = v 180 := hfr4.1 180 (by decide) (by decide)
      have e57 : v4 180 57 = v 180 57 := by rw [es4]
      have hb57 := hS.c57
      refine r_iload_n (pc := 4) hX 4 rfl rfl ?_
      refine t_getR (pc := 5) hX 5 rfl rfl rfl fl_X12_33 rfl hG.1 (a_s hG).1 ?_
      refine r_bipush (pc := 9) hX 7 rfl (by decide) ?_
      refine e_iald (y := (v4 180 57)) (pc := 11) hX 8 rfl (a_s hG).2.1 (a_s hG).2.2 (by omega) (by omega) (rfl) ?_
      have hb11 := hSInv_4.c57
      first | refine r_icmp_ge (pc := 12) hX 9 (tgt := 210) rfl (by decide) (⟨by omega, by omega⟩) (⟨by omega, by omega⟩) (fun h12 => ?_) (fun h12 => ?_) | refine r_icmp_ge_any (pc := 12) hX 9 (tgt := 210) rfl (by decide) ?_ ?_
      · refine t_getR (pc := 210) hX 122 rfl rfl rfl fl_X12_117 rfl hG.1 (a_truths hG).1 ?_
        refine r_iconst (pc := 214) hX 124 rfl ?_
        refine e_zald (y := (v4 206 0)) (pc := 215) hX 125 rfl (a_truths hG).2.1 (a_truths hG).2.2 (by omega) (by omega) (rfl) (fun hb215a hb215b => ?_)
        exact r_zret (pc := 216) hX 126 hQ rfl rfl ⟨by omega, by omega⟩ (Nat.le_refl 0) (Nat.le_refl 0) ⟨rfl, rfl, hfr4, (v4 206 0), rfl, trivial⟩
      · have hc := hS.cod i (by omega) (by omega)
        have ec : v4 180 (58 + 3 * i) = v 180 (58 + 3 * i) := by rw [es4]
        refine r_bipush (pc := 15) hX 10 rfl (by decide) ?_
        refine r_iconst (pc := 17) hX 11 rfl ?_
        refine r_iload_n (pc := 18) hX 12 rfl rfl ?_
        refine r_imul (pc := 19) hX 13 rfl ?_
        refine r_iadd (pc := 20) hX 14 rfl ?_
        refine r_istore (ls' := [(2, 178), (0, q), (0, d), (0, i), (0, (58 + (3 * i)))]) (pc := 21) hX 15 rfl (by decide) rfl ?_
        refine t_getR (pc := 23) hX 16 rfl rfl rfl fl_X12_33 rfl hG.1 (a_s hG).1 ?_
        refine r_iload (pc := 27) hX 18 rfl rfl ?_
        refine e_iald (y := (v4 180 (58 + (3 * i)))) (pc := 29) hX 19 rfl (a_s hG).2.1 (a_s hG).2.2 (by omega) (by omega) (rfl) ?_
        refine r_bipush (pc := 30) hX 20 rfl (by decide) ?_
        have L204 : ∀ (d2 : Int) (v204 : Mv) , (Fr [185, 186, 206] [] v v204) → (SInv (v204 180)) → (d2 = dpF (v 180) (i + 1).toNat) → wp g X F_m_isSaid 0 0 204 [(2, 178), (0, q), (0, d2), (0, i), (3, 0)] [] v204 ρ Z := by
          intro d2 v204 hfr204 hSInv_204 id2
          refine r_iinc (ls' := [(2, 178), (0, q), (0, d2), (0, (i + 1)), (3, 0)]) (pc := 204) hX 120 rfl rfl (by decide) rfl ?_
          refine r_goto (pc := 207) hX 121 (tgt := 4) rfl (by decide) ?_
          exact (ih4 d2 (i + 1) v204 (hfr204) (hSInv_204) (by omega) (id2) (by omega))
        first | refine r_icmp_ne (pc := 32) hX 21 (tgt := 62) rfl (by decide) (⟨by omega, by omega⟩) (⟨by omega, by omega⟩) (fun h32 => ?_) (fun h32 => ?_) | refine r_icmp_ne_any (pc := 32) hX 21 (tgt := 62) rfl (by decide) ?_ ?_
        · refine t_getR (pc := 62) hX 39 rfl rfl rfl fl_X12_33 rfl hG.1 (a_s hG).1 ?_
          refine r_iload (pc := 66) hX 41 rfl rfl ?_
          refine e_iald (y := (v4 180 (58 + (3 * i)))) (pc := 68) hX 42 rfl (a_s hG).2.1 (a_s hG).2.2 (by omega) (by omega) (rfl) ?_
          refine r_bipush (pc := 69) hX 43 rfl (by decide) ?_
          have L86 : (v4 180 (58 + 3 * i) = 21 ∨ v4 180 (58 + 3 * i) = 22) → wp g X F_m_isSaid 0 0 86 [(2, 178), (0, q), (0, d), (0, i), (0, (58 + (3 * i)))] [] v4 ρ Z := by
            intro i86
            refine r_iinc (ls' := [(2, 178), (0, q), (0, (d + (-1))), (0, i), (0, (58 + (3 * i)))]) (pc := 86) hX 51 rfl rfl (by decide) rfl ?_
            refine t_getR (pc := 89) hX 52 rfl rfl rfl fl_X12_117 rfl hG.1 (a_truths hG).1 ?_
            refine r_iload_n (pc := 93) hX 54 rfl rfl ?_
            refine r_iconst (pc := 94) hX 55 rfl ?_
            refine r_isub (pc := 95) hX 56 rfl ?_
            refine t_getR (pc := 96) hX 57 rfl rfl rfl fl_X12_33 rfl hG.1 (a_s hG).1 ?_
            refine r_iload (pc := 100) hX 59 rfl rfl ?_
            refine e_iald (y := (v4 180 (58 + (3 * i)))) (pc := 102) hX 60 rfl (a_s hG).2.1 (a_s hG).2.2 (by omega) (by omega) (rfl) ?_
            refine r_bipush (pc := 103) hX 61 rfl (by decide) ?_
            first | refine r_icmp_ne (pc := 105) hX 62 (tgt := 136) rfl (by decide) (⟨by omega, by omega⟩) (⟨by omega, by omega⟩) (fun h105 => ?_) (fun h105 => ?_) | refine r_icmp_ne_any (pc := 105) hX 62 (tgt := 136) rfl (by decide) ?_ ?_
            · refine t_getR (pc := 136) hX 79 rfl rfl rfl fl_X12_117 rfl hG.1 (a_truths hG).1 ?_
              refine r_iload_n (pc := 140) hX 81 rfl rfl ?_
              refine r_iconst (pc := 141) hX 82 rfl ?_
              refine r_isub (pc := 142) hX 83 rfl ?_
              refine e_zald (y := (v4 206 ((d + (-1)) - 1))) (pc := 143) hX 84 rfl (a_truths hG).2.1 (a_truths hG).2.2 (by omega) (by omega) (rfl) (fun hb143a hb143b => ?_)
              first | refine r_if_ne (pc := 144) hX 85 (tgt := 156) rfl (by decide) (⟨by omega, by omega⟩) (fun h144 => ?_) (fun h144 => ?_) | refine r_if_ne_any (pc := 144) hX 85 (tgt := 156) rfl (by decide) ?_ ?_
              · refine r_iconst (pc := 156) hX 91 rfl ?_
                refine r_goto (pc := 157) hX 92 (tgt := 161) rfl (by decide) ?_
                refine e_zast (pc := 161) hX 94 rfl (a_truths hG).2.1 (a_truths hG).2.2 (by decide) (by omega) (by omega) ⟨by omega, by omega⟩ ?_
                refine r_goto (pc := 162) hX 95 (tgt := 204) rfl (by decide) ?_
                refine r_wk (ls' := [(2, 178), (0, q), (0, (d + (-1))), (0, i), (3, 0)]) ⟨Or.inr rfl, Or.inr rfl, Or.inr rfl, Or.inr rfl, Or.inl rfl, trivial⟩ ?_
                exact (L204 (d + (-1)) (up v4 206 ((d + (-1)) - 1) 1) ((hfr4).arr (r := 206) (by decide) (by decide)) (by rw [up_f (by decide)]; exact hSInv_4) (by first | (rw [dpF_20 (by omega) (by omega)]; omega) | (rw [dpF_21 (by omega) (by omega)]; omega) | (rw [dpF_7 (by omega) (by omega) (by omega) (by omega)]; omega)) )
              · refine t_getR (pc := 147) hX 86 rfl rfl rfl fl_X12_117 rfl hG.1 (a_truths hG).1 ?_
                refine r_iload_n (pc := 151) hX 88 rfl rfl ?_
                refine e_zald (y := (v4 206 (d + (-1)))) (pc := 152) hX 89 rfl (a_truths hG).2.1 (a_truths hG).2.2 (by omega) (by omega) (rfl) (fun hb152a hb152b => ?_)
                first | refine r_if_eq (pc := 153) hX 90 (tgt := 160) rfl (by decide) (⟨by omega, by omega⟩) (fun h153 => ?_) (fun h153 => ?_) | refine r_if_eq_any (pc := 153) hX 90 (tgt := 160) rfl (by decide) ?_ ?_
                · refine r_iconst (pc := 160) hX 93 rfl ?_
                  refine e_zast (pc := 161) hX 94 rfl (a_truths hG).2.1 (a_truths hG).2.2 (by decide) (by omega) (by omega) ⟨by omega, by omega⟩ ?_
                  refine r_goto (pc := 162) hX 95 (tgt := 204) rfl (by decide) ?_
                  refine r_wk (ls' := [(2, 178), (0, q), (0, (d + (-1))), (0, i), (3, 0)]) ⟨Or.inr rfl, Or.inr rfl, Or.inr rfl, Or.inr rfl, Or.inl rfl, trivial⟩ ?_
                  exact (L204 (d + (-1)) (up v4 206 ((d + (-1)) - 1) 0) ((hfr4).arr (r := 206) (by decide) (by decide)) (by rw [up_f (by decide)]; exact hSInv_4) (by first | (rw [dpF_20 (by omega) (by omega)]; omega) | (rw [dpF_21 (by omega) (by omega)]; omega) | (rw [dpF_7 (by omega) (by omega) (by omega) (by omega)]; omega)) )
                · refine r_iconst (pc := 156) hX 91 rfl ?_
                  refine r_goto (pc := 157) hX 92 (tgt := 161) rfl (by decide) ?_
                  refine e_zast (pc := 161) hX 94 rfl (a_truths hG).2.1 (a_truths hG).2.2 (by decide) (by omega) (by omega) ⟨by omega, by omega⟩ ?_
                  refine r_goto (pc := 162) hX 95 (tgt := 204) rfl (by decide) ?_
                  refine r_wk (ls' := [(2, 178), (0, q), (0, (d + (-1))), (0, i), (3, 0)]) ⟨Or.inr rfl, Or.inr rfl, Or.inr rfl, Or.inr rfl, Or.inl rfl, trivial⟩ ?_
                  exact (L204 (d + (-1)) (up v4 206 ((d + (-1)) - 1) 1) ((hfr4).arr (r := 206) (by decide) (by decide)) (by rw [up_f (by decide)]; exact hSInv_4) (by first | (rw [dpF_20 (by omega) (by omega)]; omega) | (rw [dpF_21 (by omega) (by omega)]; omega) | (rw [dpF_7 (by omega) (by omega) (by omega) (by omega)]; omega)) )
            · refine t_getR (pc := 108) hX 63 rfl rfl rfl fl_X12_117 rfl hG.1 (a_truths hG).1 ?_
              refine r_iload_n (pc := 112) hX 65 rfl rfl ?_
              refine r_iconst (pc := 113) hX 66 rfl ?_
              refine r_isub (pc := 114) hX 67 rfl ?_
              refine e_zald (y := (v4 206 ((d + (-1)) - 1))) (pc := 115) hX 68 rfl (a_truths hG).2.1 (a_truths hG).2.2 (by omega) (by omega) (rfl) (fun hb115a hb115b => ?_)
              first | refine r_if_eq (pc := 116) hX 69 (tgt := 132) rfl (by decide) (⟨by omega, by omega⟩) (fun h116 => ?_) (fun h116 => ?_) | refine r_if_eq_any (pc := 116) hX 69 (tgt := 132) rfl (by decide) ?_ ?_
              · refine r_iconst (pc := 132) hX 77 rfl ?_
                refine r_goto (pc := 133) hX 78 (tgt := 161) rfl (by decide) ?_
                refine e_zast (pc := 161) hX 94 rfl (a_truths hG).2.1 (a_truths hG).2.2 (by decide) (by omega) (by omega) ⟨by omega, by omega⟩ ?_
                refine r_goto (pc := 162) hX 95 (tgt := 204) rfl (by decide) ?_
                refine r_wk (ls' := [(2, 178), (0, q), (0, (d + (-1))), (0, i), (3, 0)]) ⟨Or.inr rfl, Or.inr rfl, Or.inr rfl, Or.inr rfl, Or.inl rfl, trivial⟩ ?_
                exact (L204 (d + (-1)) (up v4 206 ((d + (-1)) - 1) 0) ((hfr4).arr (r := 206) (by decide) (by decide)) (by rw [up_f (by decide)]; exact hSInv_4) (by first | (rw [dpF_20 (by omega) (by omega)]; omega) | (rw [dpF_21 (by omega) (by omega)]; omega) | (rw [dpF_7 (by omega) (by omega) (by omega) (by omega)]; omega)) )
              · refine t_getR (pc := 119) hX 70 rfl rfl rfl fl_X12_117 rfl hG.1 (a_truths hG).1 ?_
                refine r_iload_n (pc := 123) hX 72 rfl rfl ?_
                refine e_zald (y := (v4 206 (d + (-1)))) (pc := 124) hX 73 rfl (a_truths hG).2.1 (a_truths hG).2.2 (by omega) (by omega) (rfl) (fun hb124a hb124b => ?_)
                first | refine r_if_eq (pc := 125) hX 74 (tgt := 132) rfl (by decide) (⟨by omega, by omega⟩) (fun h125 => ?_) (fun h125 => ?_) | refine r_if_eq_any (pc := 125) hX 74 (tgt := 132) rfl (by decide) ?_ ?_
                · refine r_iconst (pc := 132) hX 77 rfl ?_
                  refine r_goto (pc := 133) hX 78 (tgt := 161) rfl (by decide) ?_
                  refine e_zast (pc := 161) hX 94 rfl (a_truths hG).2.1 (a_truths hG).2.2 (by decide) (by omega) (by omega) ⟨by omega, by omega⟩ ?_
                  refine r_goto (pc := 162) hX 95 (tgt := 204) rfl (by decide) ?_
                  refine r_wk (ls' := [(2, 178), (0, q), (0, (d + (-1))), (0, i), (3, 0)]) ⟨Or.inr rfl, Or.inr rfl, Or.inr rfl, Or.inr rfl, Or.inl rfl, trivial⟩ ?_
                  exact (L204 (d + (-1)) (up v4 206 ((d + (-1)) - 1) 0) ((hfr4).arr (r := 206) (by decide) (by decide)) (by rw [up_f (by decide)]; exact hSInv_4) (by first | (rw [dpF_20 (by omega) (by omega)]; omega) | (rw [dpF_21 (by omega) (by omega)]; omega) | (rw [dpF_7 (by omega) (by omega) (by omega) (by omega)]; omega)) )
                · refine r_iconst (pc := 128) hX 75 rfl ?_
                  refine r_goto (pc := 129) hX 76 (tgt := 161) rfl (by decide) ?_
                  refine e_zast (pc := 161) hX 94 rfl (a_truths hG).2.1 (a_truths hG).2.2 (by decide) (by omega) (by omega) ⟨by omega, by omega⟩ ?_
                  refine r_goto (pc := 162) hX 95 (tgt := 204) rfl (by decide) ?_
                  refine r_wk (ls' := [(2, 178), (0, q), (0, (d + (-1))), (0, i), (3, 0)]) ⟨Or.inr rfl, Or.inr rfl, Or.inr rfl, Or.inr rfl, Or.inl rfl, trivial⟩ ?_
                  exact (L204 (d + (-1)) (up v4 206 ((d + (-1)) - 1) 1) ((hfr4).arr (r := 206) (by decide) (by decide)) (by rw [up_f (by decide)]; exact hSInv_4) (by first | (rw [dpF_20 (by omega) (by omega)]; omega) | (rw [dpF_21 (by omega) (by omega)]; omega) | (rw [dpF_7 (by omega) (by omega) (by omega) (by omega)]; omega)) )
          first | refine r_icmp_eq (pc := 71) hX 44 (tgt := 86) rfl (by decide) (⟨by omega, by omega⟩) (⟨by omega, by omega⟩) (fun h71 => ?_) (fun h71 => ?_) | refine r_icmp_eq_any (pc := 71) hX 44 (tgt := 86) rfl (by decide) ?_ ?_
          · exact (L86  (by omega) )
          · refine t_getR (pc := 74) hX 45 rfl rfl rfl fl_X12_33 rfl hG.1 (a_s hG).1 ?_
            refine r_iload (pc := 78) hX 47 rfl rfl ?_
            refine e_iald (y := (v4 180 (58 + (3 * i)))) (pc := 80) hX 48 rfl (a_s hG).2.1 (a_s hG).2.2 (by omega) (by omega) (rfl) ?_
            refine r_bipush (pc := 81) hX 49 rfl (by decide) ?_
            first | refine r_icmp_ne (pc := 83) hX 50 (tgt := 165) rfl (by decide) (⟨by omega, by omega⟩) (⟨by omega, by omega⟩) (fun h83 => ?_) (fun h83 => ?_) | refine r_icmp_ne_any (pc := 83) hX 50 (tgt := 165) rfl (by decide) ?_ ?_
            · refine t_getR (pc := 165) hX 96 rfl rfl rfl fl_X12_117 rfl hG.1 (a_truths hG).1 ?_
              refine r_iload_n (pc := 169) hX 98 rfl rfl ?_
              refine r_aload_n (pc := 170) hX 99 rfl rfl ?_
              refine r_iload_n (pc := 171) hX 100 rfl rfl ?_
              refine t_getR (pc := 172) hX 101 rfl rfl rfl fl_X12_33 rfl hG.1 (a_s hG).1 ?_
              refine r_iload (pc := 176) hX 103 rfl rfl ?_
              refine e_iald (y := (v4 180 (58 + (3 * i)))) (pc := 178) hX 104 rfl (a_s hG).2.1 (a_s hG).2.2 (by omega) (by omega) (rfl) ?_
              refine t_getR (pc := 179) hX 105 rfl rfl rfl fl_X12_33 rfl hG.1 (a_s hG).1 ?_
              refine r_iload (pc := 183) hX 107 rfl rfl ?_
              refine r_iconst (pc := 185) hX 108 rfl ?_
              refine r_iadd (pc := 186) hX 109 rfl ?_
              refine e_iald (y := (v4 180 ((58 + (3 * i)) + 1))) (pc := 187) hX 110 rfl (a_s hG).2.1 (a_s hG).2.2 (by omega) (by omega) (rfl) ?_
              refine t_getR (pc := 188) hX 111 rfl rfl rfl fl_X12_33 rfl hG.1 (a_s hG).1 ?_
              refine r_iload (pc := 192) hX 113 rfl rfl ?_
              refine r_iconst (pc := 194) hX 114 rfl ?_
              refine r_iadd (pc := 195) hX 115 rfl ?_
              refine e_iald (y := (v4 180 ((58 + (3 * i)) + 2))) (pc := 196) hX 116 rfl (a_s hG).2.1 (a_s hG).2.2 (by omega) (by omega) (rfl) ?_
              refine r_callV (as := [(0, q), (0, (v4 180 (58 + (3 * i)))), (0, (v4 180 ((58 + (3 * i)) + 1))), (0, (v4 180 ((58 + (3 * i)) + 2)))]) (st := [(0, d), (2, 206)]) (K := 12) (pc := 197) hX 117 rfl mo_m_isLeaf ml_X12_523 im_m_isLeaf se_m_isLeaf (c_isLeaf g v4 ρ Z hG (q) ((v4 180 (58 + (3 * i)))) ((v4 180 ((58 + (3 * i)) + 1))) ((v4 180 ((58 + (3 * i)) + 2))) (hSInv_4) (by omega)) rfl rfl rfl hG.1 (by rw [hRm]; exact ⟨by decide, by decide⟩) (by rw [hRm]; exact ⟨by decide, by decide⟩) (Nat.le_of_ble_eq_true rfl) (fun o197 v197 ρ197 Z197 hq197 _ => ?_)
              obtain ⟨rfl, rfl, hfr197, r197, rfl, hq197⟩ := hq197
              have hSInv_197 : SInv (v197 180) := by rw [hfr197.1 180 (by decide) (by decide)]; exact hSInv_4
              show wp g X F_m_isSaid 0 0 200 [(2, 178), (0, q), (0, d), (0, i), (0, (58 + (3 * i)))] [(0, r197), (0, d), (2, 206)] v197 ρ Z
              refine e_zast (pc := 200) hX 118 rfl (a_truths hG).2.1 (a_truths hG).2.2 (by decide) (by omega) (by omega) ⟨by omega, by omega⟩ ?_
              refine r_iinc (ls' := [(2, 178), (0, q), (0, (d + 1)), (0, i), (0, (58 + (3 * i)))]) (pc := 201) hX 119 rfl rfl (by decide) rfl ?_
              refine r_wk (ls' := [(2, 178), (0, q), (0, (d + 1)), (0, i), (3, 0)]) ⟨Or.inr rfl, Or.inr rfl, Or.inr rfl, Or.inr rfl, Or.inl rfl, trivial⟩ ?_
              exact (L204 (d + 1) (up v197 206 d r197) (((hfr4).tr hfr197 (by decide) (by decide)).arr (r := 206) (by decide) (by decide)) (by rw [up_f (by decide)]; exact hSInv_197) (by first | (rw [dpF_20 (by omega) (by omega)]; omega) | (rw [dpF_21 (by omega) (by omega)]; omega) | (rw [dpF_7 (by omega) (by omega) (by omega) (by omega)]; omega)) )
            · exact (L86  (by omega) )
        · refine t_getR (pc := 35) hX 22 rfl rfl rfl fl_X12_117 rfl hG.1 (a_truths hG).1 ?_
          refine r_iload_n (pc := 39) hX 24 rfl rfl ?_
          refine r_iconst (pc := 40) hX 25 rfl ?_
          refine r_isub (pc := 41) hX 26 rfl ?_
          refine t_getR (pc := 42) hX 27 rfl rfl rfl fl_X12_117 rfl hG.1 (a_truths hG).1 ?_
          refine r_iload_n (pc := 46) hX 29 rfl rfl ?_
          refine r_iconst (pc := 47) hX 30 rfl ?_
          refine r_isub (pc := 48) hX 31 rfl ?_
          refine e_zald (y := (v4 206 (d - 1))) (pc := 49) hX 32 rfl (a_truths hG).2.1 (a_truths hG).2.2 (by omega) (by omega) (rfl) (fun hb49a hb49b => ?_)
          first | refine r_if_ne (pc := 50) hX 33 (tgt := 57) rfl (by decide) (⟨by omega, by omega⟩) (fun h50 => ?_) (fun h50 => ?_) | refine r_if_ne_any (pc := 50) hX 33 (tgt := 57) rfl (by decide) ?_ ?_
          · refine r_iconst (pc := 57) hX 36 rfl ?_
            refine e_zast (pc := 58) hX 37 rfl (a_truths hG).2.1 (a_truths hG).2.2 (by decide) (by omega) (by omega) ⟨by omega, by omega⟩ ?_
            refine r_goto (pc := 59) hX 38 (tgt := 204) rfl (by decide) ?_
            refine r_wk (ls' := [(2, 178), (0, q), (0, d), (0, i), (3, 0)]) ⟨Or.inr rfl, Or.inr rfl, Or.inr rfl, Or.inr rfl, Or.inl rfl, trivial⟩ ?_
            exact (L204 d (up v4 206 (d - 1) 0) ((hfr4).arr (r := 206) (by decide) (by decide)) (by rw [up_f (by decide)]; exact hSInv_4) (by first | (rw [dpF_20 (by omega) (by omega)]; omega) | (rw [dpF_21 (by omega) (by omega)]; omega) | (rw [dpF_7 (by omega) (by omega) (by omega) (by omega)]; omega)) )
          · refine r_iconst (pc := 53) hX 34 rfl ?_
            refine r_goto (pc := 54) hX 35 (tgt := 58) rfl (by decide) ?_
            refine e_zast (pc := 58) hX 37 rfl (a_truths hG).2.1 (a_truths hG).2.2 (by decide) (by omega) (by omega) ⟨by omega, by omega⟩ ?_
            refine r_goto (pc := 59) hX 38 (tgt := 204) rfl (by decide) ?_
            refine r_wk (ls' := [(2, 178), (0, q), (0, d), (0, i), (3, 0)]) ⟨Or.inr rfl, Or.inr rfl, Or.inr rfl, Or.inr rfl, Or.inl rfl, trivial⟩ ?_
            exact (L204 d (up v4 206 (d - 1) 1) ((hfr4).arr (r := 206) (by decide) (by decide)) (by rw [up_f (by decide)]; exact hSInv_4) (by first | (rw [dpF_20 (by omega) (by omega)]; omega) | (rw [dpF_21 (by omega) (by omega)]; omega) | (rw [dpF_7 (by omega) (by omega) (by omega) (by omega)]; omega)) )
  exact (L4 _ 0 0 v (Fr.rf) (hS) (by omega) (rfl) (Nat.lt_succ_self _))
set_option maxHeartbeats 4000000 in
set_option maxRecDepth 100000 in
theorem c_said (g : Gp) (v ρ : Mv) (Z : Mz) (hG : GM ρ Z) (k : Int) (hS : SInv (v 180)) (hk : inR k) : Ok g 7 0 0 F_m_said [(2, 178), (0, k)] v ρ Z (fun o v' ρ' Z' => ρ = ρ' ∧ Z = Z' ∧ Fr [185, 186, 206] [0] v v' ∧ ∃ r : Int, o = some (0, r) ∧ True) := by
  refine Ok.of mo_m_said (Nat.le_of_ble_eq_true rfl) ?_
  intro X hX hRm hxn hQ
  show wp g X F_m_said 0 0 0 [(2, 178), (0, k), (3, 0), (3, 0)] [] v ρ Z
  have hb2 := hS.c2
  refine r_aload_n (pc := 0) hX 0 rfl rfl ?_
  refine r_iconst (pc := 1) hX 1 rfl ?_
  refine r_putI (pc := 2) hX 2 rfl fl_X12_1 rfl (fun _ h => by cases h; rfl) hG.1 (by decide) ?_
  refine t_getR (pc := 5) hX 3 rfl rfl rfl fl_X12_33 rfl hG.1 (a_s hG).1 ?_
  refine r_bipush (pc := 9) hX 5 rfl (by decide) ?_
  refine e_iald (y := (v 180 57)) (pc := 11) hX 6 rfl (a_s hG).2.1 (a_s hG).2.2 (by omega) (by omega) ((up_r (by decide)).trans (rfl)) ?_
  have hb11 := hS.c57
  first | refine r_if_eq (pc := 12) hX 7 (tgt := 20) rfl (by decide) (⟨by omega, by omega⟩) (fun h12 => ?_) (fun h12 => ?_) | refine r_if_eq_any (pc := 12) hX 7 (tgt := 20) rfl (by decide) ?_ ?_
  · refine r_iconst (pc := 20) hX 11 rfl ?_
    exact r_iret (pc := 21) hX 12 hQ rfl rfl (Nat.le_refl 0) (Nat.le_refl 0) ⟨rfl, rfl, (Fr.rf).fld (k := 0) (by decide), (-1), rfl, trivial⟩
  · refine r_iload_n (pc := 15) hX 8 rfl rfl ?_
    refine r_iconst (pc := 16) hX 9 rfl ?_
    first | refine r_icmp_ge (pc := 17) hX 10 (tgt := 22) rfl (by decide) (⟨by omega, by omega⟩) (⟨by omega, by omega⟩) (fun h17 => ?_) (fun h17 => ?_) | refine r_icmp_ge_any (pc := 17) hX 10 (tgt := 22) rfl (by decide) ?_ ?_
    · refine r_iconst (pc := 22) hX 13 rfl ?_
      refine r_istore_n (ls' := [(2, 178), (0, k), (0, 0), (3, 0)]) (pc := 23) hX 14 rfl (by decide) rfl ?_
      refine r_iconst (pc := 24) hX 15 rfl ?_
      refine r_istore_n (ls' := [(2, 178), (0, k), (0, 0), (0, 0)]) (pc := 25) hX 16 rfl (by decide) rfl ?_
      have L26 : ∀ (n26 : Nat) (n i : Int) (v26 : Mv) , (Fr [185, 186, 206] [0] v v26) → (SInv (v26 180)) → (0 ≤ i ∧ i ≤ v 180 2 ∧ 0 ≤ n ∧ n ≤ i) → (v 180 2 - i).toNat < n26 → wp g X F_m_said 0 0 26 [(2, 178), (0, k), (0, n), (0, i)] [] v26 ρ Z := by
        intro n26
        induction n26 with
        | zero => intro n i v26 hfr26 hSInv_26 ii hme26; exact absurd hme26 (Nat.not_lt_zero _)
        | succ n26 ih26 =>
          intro n i v26 hfr26 hSInv_26 ii hme26
          have es26 : v26 180 = v 180 := hfr26.1 180 (by decide) (by decide)
          have e26 : v26 180 2 = v 180 2 := by rw [es26]
          refine r_iload_n (pc := 26) hX 17 rfl rfl ?_
          refine t_getR (pc := 27) hX 18 rfl rfl rfl fl_X12_33 rfl hG.1 (a_s hG).1 ?_
          refine r_iconst (pc := 31) hX 20 rfl ?_
          refine e_iald (y := (v26 180 2)) (pc := 32) hX 21 rfl (a_s hG).2.1 (a_s hG).2.2 (by omega) (by omega) (rfl) ?_
          have hb32 := hSInv_26.c2
          first | refine r_icmp_ge (pc := 33) hX 22 (tgt := 63) rfl (by decide) (⟨by omega, by omega⟩) (⟨by omega, by omega⟩) (fun h33 => ?_) (fun h33 => ?_) | refine r_icmp_ge_any (pc := 33) hX 22 (tgt := 63) rfl (by decide) ?_ ?_
          · refine r_iload_n (pc := 63) hX 36 rfl rfl ?_
            refine r_iconst (pc := 64) hX 37 rfl ?_
            first | refine r_icmp_ne (pc := 65) hX 38 (tgt := 72) rfl (by decide) (⟨by omega, by omega⟩) (⟨by omega, by omega⟩) (fun h65 => ?_) (fun h65 => ?_) | refine r_icmp_ne_any (pc := 65) hX 38 (tgt := 72) rfl (by decide) ?_ ?_
            · refine r_iconst (pc := 72) hX 41 rfl ?_
              exact r_iret (pc := 73) hX 42 hQ rfl rfl (Nat.le_refl 0) (Nat.le_refl 0) ⟨rfl, rfl, hfr26, (-1), rfl, trivial⟩
            · refine r_iload_n (pc := 68) hX 39 rfl rfl ?_
              refine r_goto (pc := 69) hX 40 (tgt := 73) rfl (by decide) ?_
              exact r_iret (pc := 73) hX 42 hQ rfl rfl (Nat.le_refl 0) (Nat.le_refl 0) ⟨rfl, rfl, hfr26, n, rfl, trivial⟩
          · refine r_aload_n (pc := 36) hX 23 rfl rfl ?_
            refine r_iload_n (pc := 37) hX 24 rfl rfl ?_
            refine r_callV (as := [(0, i)]) (st := []) (K := 12) (pc := 38) hX 25 rfl mo_m_isSaid ml_X12_527 im_m_isSaid se_m_isSaid (c_isSaid g v26 ρ Z hG (i) (hSInv_26) (by omega)) rfl rfl rfl hG.1 (by rw [hRm]; exact ⟨by decide, by decide⟩) (by rw [hRm]; exact ⟨by decide, by decide⟩) (Nat.le_of_ble_eq_true rfl) (fun o38 v38 ρ38 Z38 hq38 _ => ?_)
            obtain ⟨rfl, rfl, hfr38, r38, rfl, hq38⟩ := hq38
            have hSInv_38 : SInv (v38 180) := by rw [hfr38.1 180 (by decide) (by decide)]; exact hSInv_26
            show wp g X F_m_said 0 0 41 [(2, 178), (0, k), (0, n), (0, i)] [(0, r38)] v38 ρ Z
            have L57 : ∀ (n2 : Int) , (0 ≤ n2 ∧ n2 ≤ i + 1) → wp g X F_m_said 0 0 57 [(2, 178), (0, k), (0, n2), (0, i)] [] v38 ρ Z := by
              intro n2 in2
              refine r_iinc (ls' := [(2, 178), (0, k), (0, n2), (0, (i + 1))]) (pc := 57) hX 34 rfl rfl (by decide) rfl ?_
              refine r_goto (pc := 60) hX 35 (tgt := 26) rfl (by decide) ?_
              exact (ih26 n2 (i + 1) v38 ((hfr26).tr hfr38 (by decide) (by decide)) (hSInv_38) (by omega) (by omega))
            first | refine r_if_ne (pc := 41) hX 26 (tgt := 47) rfl (by decide) (⟨by omega, by omega⟩) (fun h41 => ?_) (fun h41 => ?_) | refine r_if_ne_any (pc := 41) hX 26 (tgt := 47) rfl (by decide) ?_ ?_
            · refine r_iload_n (pc := 47) hX 28 rfl rfl ?_
              refine r_iload_n (pc := 48) hX 29 rfl rfl ?_
              first | refine r_icmp_ne (pc := 49) hX 30 (tgt := 54) rfl (by decide) (⟨by omega, by omega⟩) (⟨by omega, by omega⟩) (fun h49 => ?_) (fun h49 => ?_) | refine r_icmp_ne_any (pc := 49) hX 30 (tgt := 54) rfl (by decide) ?_ ?_
              · refine r_iinc (ls' := [(2, 178), (0, k), (0, (n + 1)), (0, i)]) (pc := 54) hX 33 rfl rfl (by decide) rfl ?_
                exact (L57 (n + 1) (by omega) )
              · refine r_iload_n (pc := 52) hX 31 rfl rfl ?_
                exact r_iret (pc := 53) hX 32 hQ rfl rfl (Nat.le_refl 0) (Nat.le_refl 0) ⟨rfl, rfl, (hfr26).tr hfr38 (by decide) (by decide), i, rfl, trivial⟩
            · refine r_goto (pc := 44) hX 27 (tgt := 57) rfl (by decide) ?_
              exact (L57 n (by omega) )
      exact (L26 _ 0 0 (up v 178 0 0) ((Fr.rf).fld (k := 0) (by decide)) (by rw [up_f (by decide)]; exact hS) (by omega) (Nat.lt_succ_self _))
    · refine r_iconst (pc := 20) hX 11 rfl ?_
      exact r_iret (pc := 21) hX 12 hQ rfl rfl (Nat.le_refl 0) (Nat.le_refl 0) ⟨rfl, rfl, (Fr.rf).fld (k := 0) (by decide), (-1), rfl, trivial⟩
